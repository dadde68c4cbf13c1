theorem lg_z (x y : Int64) : lg_cmp x y = 0 ↔ x = y := by
  unfold lg_cmp
  by_cases h1 : x > y
  · rw [if_pos h1]
    constructor
    · intro h; cases h
    · intro h; subst h; exact absurd h1 (by simp [Int64.lt_iff_toInt_lt])
  · rw [if_neg h1]
    by_cases h2 : x = y
    · rw [if_pos h2]; exact ⟨fun _ => h2, fun _ => rfl⟩
    · rw [if_neg h2]
      constructor
      · intro h; cases h
      · intro h; exact absurd h h2
def w64 (m : Nat) : Int64 := Int64.ofNat m
theorem w64_inj {a c : Nat} (ha : a < 18446744073709551616) (hc : c < 18446744073709551616) (h : w64 a = w64 c) : a = c := by
  have h1 : (w64 a).toBitVec.toNat = (w64 c).toBitVec.toNat := by rw [h]
  have e : ∀ m, (w64 m).toBitVec.toNat = m % 2 ^ 64 := fun m => by
    show (BitVec.ofNat 64 m).toNat = _
    rw [BitVec.toNat_ofNat]
  rw [e, e] at h1
  omega
theorem sh8 : (((8 : Int32).toInt64 &&& 63).toBitVec.smod 64).toNat = 8 := by decide
theorem i64c : ∀ c, c < 256 → (nI c).toInt64 = w64 c := by decide +kernel
theorem w64_st {m c : Nat} (hm : m < 72057594037927936) (hc : c < 256) : (w64 m <<< ((8 : Int32).toInt64 &&& 63)) ||| (nI c).toInt64 = w64 (m * 256 + c) := by
  rw [i64c c hc]
  apply Int64.toBitVec_inj.mp
  rw [Int64.toBitVec_or, Int64.toBitVec_shiftLeft]
  apply BitVec.eq_of_toNat_eq
  have e : ∀ m, (w64 m).toBitVec.toNat = m % 2 ^ 64 := fun m => by
    show (BitVec.ofNat 64 m).toNat = _
    rw [BitVec.toNat_ofNat]
  rw [BitVec.toNat_or, e, e]
  show ((w64 m).toBitVec <<< (((8 : Int32).toInt64 &&& 63).toBitVec.smod 64).toNat).toNat ||| _ = _
  rw [sh8, BitVec.toNat_shiftLeft, e, Nat.mod_eq_of_lt (a := m) (by omega), Nat.mod_eq_of_lt (a := c) (by omega), Nat.shiftLeft_eq, Nat.mod_eq_of_lt (a := m * 2 ^ 8) (by omega), Nat.mod_eq_of_lt (a := m * 256 + c) (by omega)]
  have := Nat.shiftLeft_add_eq_or_of_lt (b := c) (i := 8) (by omega) m
  rw [Nat.shiftLeft_eq] at this
  omega
section TOKM
variable {b : Nat → Nat} {n : Nat}
def TPM (S : ST) (b : Nat → Nat) (n : Nat) : Prop := n ≤ 600 ∧ S.1 0 9 = nI n ∧ ∀ i, i < n → S.1 2 i = nI (b i) ∧ b i < 256
theorem here_eq (F : Nat) (S : ST) (hT : TPM S b n) {p k : Nat} (h8 : S.1 0 8 = nI p) (hk : p + k ≤ 1000) : fX11_here F S (nI k) = some (bA b n (p + k), S) := by
  have hn := hT.1
  unfold fX11_here bA
  rw [h8, hT.2.1, nI_add]
  by_cases h : p + k < n
  · rw [if_neg (nI_ge h (by omega)), if_pos (vin_nI (by omega) (by omega)), ix_nI (by omega), (hT.2.2 _ h).1, if_pos h]
  · rw [if_pos (nI_le (by omega) (by omega)), if_neg h]
theorem isDM (F : Nat) (S : ST) (hb : ∀ i, i < n → b i < 256) (i : Nat) : fX11_isDigit F S (bA b n i) = some (flI (dgB b n i), S) := by
  have h := bA_rng (b := b) (n := n) (i := i) hb (lo := 48) (hi := 57) (l := 48) (h := 57) (by decide) (by decide) (by omega)
  unfold fX11_isDigit fX11_isDigit_16
  by_cases c : i < n ∧ 48 ≤ b i ∧ b i ≤ 57
  · have g := h.mpr c
    rw [show dgB b n i = true from decide_eq_true c, if_neg (by rw [i_lt]; rw [i_le] at g; omega), if_neg (by rw [i_lt]; have := g.2; rw [i_le] at this; omega)]
    rfl
  · rw [show dgB b n i = false from decide_eq_false c]
    by_cases c1 : bA b n i < 48
    · rw [if_pos c1]; rfl
    · rw [if_neg c1, if_pos]
      · rfl
      · rw [i_lt] at c1 ⊢
        have g : ¬ ((48 : Int32) ≤ bA b n i ∧ bA b n i ≤ 57) := fun g => c (h.mp g)
        rw [i_le, i_le] at g
        omega
theorem isLM (F : Nat) (S : ST) (hb : ∀ i, i < n → b i < 256) (i : Nat) : fX11_isLetter F S (bA b n i) = some (flI (ltB b n i), S) := by
  have h := bA_rng (b := b) (n := n) (i := i) hb (lo := 97) (hi := 122) (l := 97) (h := 122) (by decide) (by decide) (by omega)
  unfold fX11_isLetter fX11_isLetter_16
  by_cases c : i < n ∧ 97 ≤ b i ∧ b i ≤ 122
  · have g := h.mpr c
    rw [show ltB b n i = true from decide_eq_true c, if_neg (by rw [i_lt]; rw [i_le] at g; omega), if_neg (by rw [i_lt]; have := g.2; rw [i_le] at this; omega)]
    rfl
  · rw [show ltB b n i = false from decide_eq_false c]
    by_cases c1 : bA b n i < 97
    · rw [if_pos c1]; rfl
    · rw [if_neg c1, if_pos]
      · rfl
      · rw [i_lt] at c1 ⊢
        have g : ¬ ((97 : Int32) ≤ bA b n i ∧ bA b n i ≤ 122) := fun g => c (h.mp g)
        rw [i_le, i_le] at g
        omega
theorem TPM.byt {S : ST} (h : TPM S b n) : ∀ i, i < n → b i < 256 := fun i hi => (h.2.2 i hi).2
def frN (S S2 : ST) : Prop := (∀ c, c ≠ 0 → S2.1 c = S.1 c) ∧ (∀ j, j ≠ 8 → j ≠ 10 → j ≠ 11 → j ≠ 12 → S2.1 0 j = S.1 0 j)
theorem frN_refl (S : ST) : frN S S := ⟨fun _ _ => rfl, fun _ _ _ _ _ => rfl⟩
theorem frN.tr {S S2 S3 : ST} (h : frN S S2) (g : frN S2 S3) : frN S S3 := ⟨fun c a1 => (g.1 c a1).trans (h.1 c a1), fun j a1 a2 a3 a4 => (g.2 j a1 a2 a3 a4).trans (h.2 j a1 a2 a3 a4)⟩
theorem frN_us (S : ST) {j : Nat} (hj : j = 8 ∨ j = 10 ∨ j = 11 ∨ j = 12) (v : Int32) : frN S (us S 0 j v) := ⟨fun c hc => by rw [us_row, if_neg hc], fun i a1 a2 a3 a4 => by rw [us_rd, if_pos rfl, if_neg (by omega)]⟩
theorem frN_ul (S : ST) (v : Int64) : frN S (ul S v) := ⟨fun _ _ => rfl, fun _ _ _ _ _ => rfl⟩
theorem TPM.fr {S S2 : ST} (h : TPM S b n) (f : frN S S2) : TPM S2 b n := by
  unfold TPM at *
  rw [f.2 9 (by decide) (by decide) (by decide) (by decide), f.1 2 (by decide)]
  exact h
theorem nx232 (F : Nat) (S : ST) (x2 : Int32) : ∃ S2, fX11_next_232 F S x2 = some (0, S2) ∧ frN S S2 ∧ S2.2 = S.2 ∧ S2.1 0 10 = S.1 0 10 ∧ S2.1 0 11 = S.1 0 11 ∧ S2.1 0 12 = S.1 0 12 ∧ (¬ S.1 0 10 = 3 → S2.1 0 8 = S.1 0 8 + x2) := by
  unfold fX11_next_232
  by_cases c : S.1 0 10 = 3
  · rw [if_pos c]
    exact ⟨S, rfl, frN_refl S, rfl, rfl, rfl, rfl, fun h => absurd c h⟩
  · rw [if_neg c]
    exact ⟨us S 0 8 (S.1 0 8 + x2), rfl, frN_us S (Or.inl rfl) _, rfl, rfl, rfl, rfl, fun _ => rfl⟩
theorem nx78 (F : Nat) {p : Nat} (hp : p < n) (hl0 : ltB b n p = true) : ∀ (d f k : Nat) (S : ST), enT n (ltB b n) p = p + k + d → d < f → TPM S b n → S.1 0 8 = nI p → S.2 = w64 (pkF (fun j => b (p + j)) (min k 8)) → ∃ S2, fX11_next_78 F f S (nI k) = some (0, S2) ∧ frN S S2 ∧ S2.2 = w64 (pkF (fun j => b (p + j)) (min (enT n (ltB b n) p - p) 8)) ∧ S2.1 0 10 = (if enT n (ltB b n) p - p ≤ 8 then 1 else 3) ∧ S2.1 0 11 = S.1 0 11 ∧ (enT n (ltB b n) p - p ≤ 8 → S2.1 0 8 = nI (enT n (ltB b n) p))
  | 0, f + 1, k, S, h1, h2, hT, h8, hw => by
    have hn := hT.1
    have hle := enT_le n (ltB b n) (p := p) (by omega)
    have hout := enT_out n (Q := ltB b n) (fun q hq => lt_n b n hq) (n - p) p (Nat.le_refl _)
    rw [h1] at hout
    have e : enT n (ltB b n) p - p = k := by omega
    rw [fX11_next_78, here_eq F S hT h8 (by omega), Option.bind_some, isLM F S hT.byt (p + k), Option.bind_some]
    have hout2 : ltB b n (p + k) = false := hout
    rw [hout2, if_pos flF, e]
    unfold fX11_next_131
    by_cases c : k ≤ 8
    · rw [if_pos (show nI k ≤ 8 from nI_le (b := 8) c (by omega)), if_pos c]
      obtain ⟨S2, q1, q2, q3, q4, q5, q6, q7⟩ := nx232 F (us S 0 10 1) (nI k)
      refine ⟨S2, q1, (frN_us S (Or.inr (Or.inl rfl)) 1).tr q2, by rw [q3]; exact hw, q4, q5, fun _ => ?_⟩
      rw [q7 (show ¬ (1 : Int32) = 3 by decide)]
      show S.1 0 8 + nI k = _
      rw [h8, nI_add, h1]
      rfl
    · rw [if_neg (show ¬ nI k ≤ 8 from nI_ge (a := 8) (by omega) (by omega)), if_neg c]
      obtain ⟨S2, q1, q2, q3, q4, q5, q6, q7⟩ := nx232 F (us S 0 10 3) (nI k)
      exact ⟨S2, q1, (frN_us S (Or.inr (Or.inl rfl)) 3).tr q2, by rw [q3]; exact hw, q4, q5, fun h => absurd h c⟩
  | d + 1, f + 1, k, S, h1, h2, hT, h8, hw => by
    have hn := hT.1
    have hle := enT_le n (ltB b n) (p := p) (by omega)
    have hin := enT_in n (Q := ltB b n) (n - p) p (p + k) (Nat.le_refl _) (by omega) (by omega)
    have hbnd : ∀ j, j < k + 1 → b (p + j) < 123 := fun j hj => by
      have := lt_in (b := b) (n := n) (p := p) (j := p + j) (by omega) (by omega)
      omega
    rw [fX11_next_78, here_eq F S hT h8 (by omega), Option.bind_some, isLM F S hT.byt (p + k), Option.bind_some, hin, if_neg flT]
    by_cases c : 8 ≤ k
    · rw [if_pos (show (8 : Int32) ≤ nI k from nI_le (a := 8) c (by omega)), nI_1]
      exact nx78 F hp hl0 d f (k + 1) S (by omega) (by omega) hT h8 (by rw [hw, Nat.min_eq_right (by omega), Nat.min_eq_right (by omega)])
    · rw [if_neg (show ¬ (8 : Int32) ≤ nI k from nI_ge (b := 8) (by omega) (by omega))]
      show ∃ S2, (fX11_here F S (nI k)).bind _ = _ ∧ _
      rw [here_eq F S hT h8 (by omega), Option.bind_some]
      have hbA : bA b n (p + k) = nI (b (p + k)) := by unfold bA; rw [if_pos (by omega)]
      have hlt : pkF (fun j => b (p + j)) k < 72057594037927936 := by
        have h3 : pkF (fun j => b (p + j)) k = pkF (fun j => min (b (p + j)) 122) k := pkF_congr k (fun j hj => by have := hbnd j (by omega); show b (p + j) = min (b (p + j)) 122; omega)
        rw [h3]
        have h4 := (pkF_lt (f := fun j => min (b (p + j)) 122) (fun j => by show min (b (p + j)) 122 < 123; omega) k).1
        have h5 : 256 ^ k ≤ 256 ^ 7 := Nat.pow_le_pow_right (by omega) (by omega)
        have h6 : (256 : Nat) ^ 7 = 72057594037927936 := by decide
        omega
      show ∃ S2, bindS (ul S ((S.2 <<< ((8 : Int32).toInt64 &&& 63)) ||| (bA b n (p + k)).toInt64)) (fun S110 => fX11_next_78 F f S110 (nI k + 1)) = _ ∧ _
      rw [hbA, hw, Nat.min_eq_left (by omega), w64_st hlt (by have := hbnd k (by omega); omega), bindS_eq, nI_1]
      obtain ⟨S2, q1, q2, q3, q4, q5, q6⟩ := nx78 F hp hl0 d f (k + 1) (ul S (w64 (pkF (fun j => b (p + j)) k * 256 + b (p + k)))) (by omega) (by omega) (hT.fr (frN_ul S _)) h8 (by rw [Nat.min_eq_left (by omega)]; rfl)
      exact ⟨S2, q1, (frN_ul S _).tr q2, q3, q4, q5, q6⟩
theorem nx144 (F : Nat) {p : Nat} (hp : p < n) : ∀ (d f k : Nat) (S : ST), enT n (dgB b n) p = p + k + d → d < f → TPM S b n → S.1 0 8 = nI p → S.1 0 12 = nI (nvN b p (min k 4)) → ∃ S2, fX11_next_144 F f S (nI k) = some (0, S2) ∧ frN S S2 ∧ S2.1 0 12 = nI (nvN b p (min (enT n (dgB b n) p - p) 4)) ∧ S2.1 0 10 = (if 4 < enT n (dgB b n) p - p ∨ ltB b n (enT n (dgB b n) p) = true then 3 else 2) ∧ S2.1 0 11 = S.1 0 11 ∧ (¬ (4 < enT n (dgB b n) p - p ∨ ltB b n (enT n (dgB b n) p) = true) → S2.1 0 8 = nI (enT n (dgB b n) p))
  | 0, f + 1, k, S, h1, h2, hT, h8, hw => by
    have hn := hT.1
    have hle := enT_le n (dgB b n) (p := p) (by omega)
    have hout := enT_out n (Q := dgB b n) (fun q hq => dg_n b n hq) (n - p) p (Nat.le_refl _)
    rw [h1] at hout
    have hout2 : dgB b n (p + k) = false := hout
    have e : enT n (dgB b n) p - p = k := by omega
    have e2 : enT n (dgB b n) p = p + k := h1
    rw [fX11_next_144, here_eq F S hT h8 (by omega), Option.bind_some, isDM F S hT.byt (p + k), Option.bind_some, hout2, if_pos flF, e2, show p + k - p = k by omega]
    unfold fX11_next_208
    by_cases c : 4 < k
    · rw [if_pos (show (4 : Int32) < nI k from nI_lt (a := 4) c (by omega)), if_pos (Or.inl c)]
      obtain ⟨S2, q1, q2, q3, q4, q5, q6, q7⟩ := nx232 F (us S 0 10 3) (nI k)
      exact ⟨S2, q1, (frN_us S (Or.inr (Or.inl rfl)) 3).tr q2, by rw [q6]; exact hw, q4, q5, fun h => absurd (Or.inl c) h⟩
    · rw [if_neg (show ¬ (4 : Int32) < nI k from nI_nlt (a := 4) (by omega) (by omega))]
      show ∃ S2, (fX11_here F S (nI k)).bind _ = _ ∧ _
      rw [here_eq F S hT h8 (by omega), Option.bind_some]
      show ∃ S2, (fX11_isLetter F S (bA b n (p + k))).bind _ = _ ∧ _
      rw [isLM F S hT.byt (p + k), Option.bind_some]
      cases hl : ltB b n (p + k) with
      | true =>
        rw [if_neg flT, if_pos (Or.inr rfl)]
        obtain ⟨S2, q1, q2, q3, q4, q5, q6, q7⟩ := nx232 F (us S 0 10 3) (nI k)
        exact ⟨S2, q1, (frN_us S (Or.inr (Or.inl rfl)) 3).tr q2, by rw [q6]; exact hw, q4, q5, fun h => absurd (Or.inr rfl) h⟩
      | false =>
        rw [if_pos flF, if_neg (by rintro (h | h); exact c h; cases h)]
        obtain ⟨S2, q1, q2, q3, q4, q5, q6, q7⟩ := nx232 F (us S 0 10 2) (nI k)
        refine ⟨S2, q1, (frN_us S (Or.inr (Or.inl rfl)) 2).tr q2, by rw [q6]; exact hw, q4, q5, fun _ => ?_⟩
        rw [q7 (show ¬ (2 : Int32) = 3 by decide)]
        show S.1 0 8 + nI k = _
        rw [h8, nI_add]
  | d + 1, f + 1, k, S, h1, h2, hT, h8, hw => by
    have hn := hT.1
    have hle := enT_le n (dgB b n) (p := p) (by omega)
    have hin := enT_in n (Q := dgB b n) (n - p) p (p + k) (Nat.le_refl _) (by omega) (by omega)
    have hdg := dg_in (b := b) (n := n) (p := p) (j := p + k) (by omega) (by omega)
    rw [fX11_next_144, here_eq F S hT h8 (by omega), Option.bind_some, isDM F S hT.byt (p + k), Option.bind_some, hin, if_neg flT]
    by_cases c : 4 ≤ k
    · rw [if_pos (show (4 : Int32) ≤ nI k from nI_le (a := 4) c (by omega)), nI_1]
      exact nx144 F hp d f (k + 1) S (by omega) (by omega) hT h8 (by rw [hw, Nat.min_eq_right (by omega), Nat.min_eq_right (by omega)])
    · rw [if_neg (show ¬ (4 : Int32) ≤ nI k from nI_ge (b := 4) (by omega) (by omega))]
      show ∃ S2, (fX11_here F S (nI k)).bind _ = _ ∧ _
      rw [here_eq F S hT h8 (by omega), Option.bind_some]
      have hbA : bA b n (p + k) = nI (b (p + k)) := by unfold bA; rw [if_pos (by omega)]
      show ∃ S2, bindS (us S 0 12 (10 * S.1 0 12 + bA b n (p + k) - 48)) (fun S177 => fX11_next_144 F f S177 (nI k + 1)) = _ ∧ _
      have e1 : 10 * S.1 0 12 + bA b n (p + k) - 48 = nI (nvN b p (k + 1)) := by
        rw [hw, hbA, Nat.min_eq_left (by omega), show (10 : Int32) = nI 10 from rfl, show (48 : Int32) = nI 48 from rfl, pk_mul, nI_add, pk_sub (by omega), nvN]
        congr 1
        omega
      rw [e1, bindS_eq, nI_1]
      have hfr := frN_us S (Or.inr (Or.inr (Or.inr rfl))) (j := 12) (nI (nvN b p (k + 1)))
      obtain ⟨S2, q1, q2, q3, q4, q5, q6⟩ := nx144 F hp d f (k + 1) (us S 0 12 (nI (nvN b p (k + 1)))) (by omega) (by omega) (hT.fr hfr) h8 (by rw [Nat.min_eq_left (by omega)]; rfl)
      exact ⟨S2, q1, hfr.tr q2, q3, q4, q5, q6⟩
end TOKM
