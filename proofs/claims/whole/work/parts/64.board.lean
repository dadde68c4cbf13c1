def dig (K l : Nat) : Nat := K / 8 ^ l % 8
theorem dig_lt (K l : Nat) : dig K l < 8 := Nat.mod_lt _ (by omega)
theorem sh_amt : ∀ l, l < 10 → ((((3 : Int32) * nI l).toUInt32 &&& Int32.toUInt32 31).toBitVec % 32).toNat = 3 * l := by decide +kernel
theorem sh_amtS : ∀ l, l < 10 → (((((3 : Int32) * nI l) &&& 31)).toBitVec.smod 32).toNat = 3 * l := by decide +kernel
theorem p8 (l : Nat) : 2 ^ (3 * l) = 8 ^ l := by rw [Nat.pow_mul]
theorem kd_u {K l : Nat} (hK : K < 2 ^ 32) (hl : l < 10) : ((nI K).toUInt32 >>> (((3 : Int32) * nI l).toUInt32 &&& Int32.toUInt32 31)).toInt32 = nI (K / 8 ^ l) := by
  rw [pk_ushrN hK _ (3 * l) (sh_amt l hl), p8]
theorem kd_s {K l : Nat} (hK : K < 2 ^ 31) (hl : l < 10) : nI K >>> (((3 : Int32) * nI l) &&& 31) = nI (K / 8 ^ l) := by
  rw [pk_shrN hK _ (3 * l) (sh_amtS l hl), p8]
theorem m7 (n : Nat) (h : n < 2 ^ 32) : nI n &&& 7 = nI (n % 8) := pk_andN h (m := 7) 3 (by decide)
theorem dv_lt {K l : Nat} {M : Nat} (h : K < M) : K / 8 ^ l < M := Nat.lt_of_le_of_lt (Nat.div_le_self _ _) h
theorem kindAt_eq (F : Nat) (S : ST) {K l : Nat} (hK : K < 2 ^ 32) (hl : l < 10) : fX9_kindAt F S (nI K) (nI l) = some (nI (dig K l), S) := by
  unfold fX9_kindAt
  rw [kd_u hK hl, m7 _ (dv_lt hK)]
  rfl
def okK (K n : Nat) : Prop := ∀ l, l < n → dig K l < 6
theorem canBe_lp (F : Nat) (S : ST) {K n : Nat} (hK : K < 2 ^ 31) (hn : n ≤ 9) : ∀ (d f l : Nat), d + l = n → d < f → (∀ j, j < l → dig K j < 6) → ∃ r, fX9_canBe_22 F f S (nI n) (nI K) (nI l) = some (r, S) ∧ ((r = 1 ∧ okK K n) ∨ (r = 0 ∧ ¬ okK K n))
  | 0, f + 1, l, h1, h2, h3 => by
    refine ⟨1, ?_, Or.inl ⟨rfl, fun j hj => h3 j (by omega)⟩⟩
    rw [fX9_canBe_22, if_pos (nI_le (by omega) (by omega))]
  | d + 1, f + 1, l, h1, h2, h3 => by
    rw [fX9_canBe_22, if_neg (nI_ge (by omega) (by omega)), kindAt_eq F S (by omega) (by omega)]
    have hd := dig_lt K l
    by_cases h : dig K l < 6
    · obtain ⟨r, h4, h5⟩ := canBe_lp F S hK hn d f (l + 1) (by omega) (by omega) (fun j hj => by
        by_cases hj2 : j = l
        · rw [hj2]; exact h
        · exact h3 j (by omega))
      refine ⟨r, ?_, h5⟩
      show (if nI (dig K l) < 6 then fX9_canBe_22 F f S (nI n) (nI K) (nI l + 1) else _) = _
      rw [if_pos (c := nI (dig K l) < 6) (nI_lt (b := 6) h (by omega)), nI_1]
      exact h4
    · refine ⟨0, ?_, Or.inr ⟨rfl, fun h6 => h (h6 l (by omega))⟩⟩
      show (if nI (dig K l) < 6 then _ else some ((0 : Int32), S)) = _
      rw [if_neg (c := nI (dig K l) < 6) (nI_nlt (b := 6) (by omega) (by omega))]
theorem neg_sh (x : Int32) (hx : x.toInt < 0) (n : Nat) (hn : n ≤ 9) : ¬ (x.toUInt32 >>> (((3 : Int32) * nI n).toUInt32 &&& Int32.toUInt32 31)).toInt32 = 0 := by
  intro h
  have h1 := pk_ushr x ((3 : Int32) * nI n) (3 * n) (sh_amt n (by omega))
  rw [h] at h1
  have h2 : 2147483648 ≤ x.toBitVec.toNat := by
    have h3 : x.toInt = x.toBitVec.toInt := rfl
    rw [h3, BitVec.toInt_eq_toNat_cond] at hx
    split at hx
    · omega
    · rename_i h4
      omega
  have h5 : (0 : Int32).toBitVec.toNat = 0 := rfl
  rw [h5] at h1
  have h6 : x.toBitVec.toNat < 2 ^ (3 * n) := (Nat.div_eq_zero_iff_lt (Nat.two_pow_pos _)).mp h1.symm
  have h7 : 2 ^ (3 * n) ≤ 2 ^ 27 := Nat.pow_le_pow_right (by omega) (by omega)
  omega
def laid (x1 x2 : Int32) : Prop := 1 ≤ x1.toInt ∧ x1.toInt ≤ 9 ∧ ∃ K, x2 = nI K ∧ K < 8 ^ (ix x1) ∧ okK K (ix x1)
theorem p8_9 {n : Nat} (hn : n ≤ 9) : 8 ^ n ≤ 134217728 := Nat.pow_le_pow_right (n := 8) (by omega) hn
theorem canBe_eq (S : ST) (x1 x2 : Int32) : ∃ r, fX9_canBe FU S x1 x2 = some (r, S) ∧ ((r = 1 ∧ laid x1 x2) ∨ (r = 0 ∧ ¬ laid x1 x2)) := by
  unfold fX9_canBe
  by_cases h1 : 1 ≤ x1.toInt ∧ x1.toInt ≤ 9
  · rw [within_T (by simp [i_le]; omega)]
    obtain ⟨n, rfl, n2, n3⟩ := i_ex (x := x1) (by omega)
    have hix : ix (nI n) = n := ix_nI n3
    show ∃ r, (if (x2.toUInt32 >>> (((3 : Int32) * nI n).toUInt32 &&& Int32.toUInt32 31)).toInt32 = 0 then fX9_canBe_22 FU FU S (nI n) x2 0 else some ((0 : Int32), S)) = _ ∧ _
    by_cases h2 : 0 ≤ x2.toInt
    · obtain ⟨K, rfl, k2, k3⟩ := i_ex h2
      rw [kd_u (by omega) (by omega)]
      by_cases h3 : K < 8 ^ n
      · rw [Nat.div_eq_of_lt h3, if_pos (by rfl)]
        obtain ⟨r, h4, h5⟩ := canBe_lp FU S (K := K) (n := n) (by omega) (by omega) n FU 0 (by omega) (by show n < 20000; omega) (fun j hj => by omega)
        refine ⟨r, h4, ?_⟩
        rcases h5 with ⟨a, b⟩ | ⟨a, b⟩
        · exact Or.inl ⟨a, h1.1, h1.2, K, rfl, by rw [hix]; exact h3, by rw [hix]; exact b⟩
        · refine Or.inr ⟨a, fun ⟨_, _, K2, e, c0, c⟩ => b ?_⟩
          rw [hix] at c c0
          have h8 := p8_9 (n := n) (by omega)
          have e2 := congrArg Int32.toInt e
          rw [k2] at e2
          by_cases hK2 : K2 < 2147483648
          · rw [i_lit hK2] at e2
            have e3 : K = K2 := by omega
            rw [e3]; exact c
          · omega
      · rw [if_neg (fun h => h3 ?_)]
        · refine ⟨0, rfl, Or.inr ⟨rfl, fun ⟨_, _, K2, e, c, _⟩ => h3 ?_⟩⟩
          rw [hix] at c
          have h8 := p8_9 (n := n) (by omega)
          have e2 := congrArg Int32.toInt e
          rw [k2, i_lit (by omega)] at e2
          omega
        · have h5 : K / 8 ^ n = 0 := by
            have := dv_lt (l := n) k3
            exact (nI_eq (b := 0) (by omega) (by omega)).mp h
          exact (Nat.div_eq_zero_iff_lt (Nat.pow_pos (by omega))).mp h5
    · rw [if_neg (neg_sh x2 (by omega) n (by omega))]
      refine ⟨0, rfl, Or.inr ⟨rfl, fun ⟨_, _, K2, e, c, _⟩ => h2 ?_⟩⟩
      rw [hix] at c
      have h8 := p8_9 (n := n) (by omega)
      rw [e, i_lit (by omega)]
      omega
  · rw [within_F (by simp [i_le]; omega)]
    exact ⟨0, rfl, Or.inr ⟨rfl, fun ⟨a, b, _⟩ => h1 ⟨a, b⟩⟩⟩
theorem lays_lp (F : Nat) {K n : Nat} (hK : K < 2 ^ 31) (hn : n ≤ 9) : ∀ (d f l : Nat) (S : ST) (b : Int32), d + l = n → d < f → (b = 1 ∧ (∀ j, j < l → dig K j < 6) ∨ b = 0 ∧ ¬ (∀ j, j < l → dig K j < 6)) → (∀ j, j < l → S.1 26 j = nI (dig K j)) → ∃ r g, fX11_lays_30 F f S (nI n) (nI K) b (nI l) = some (r, (fun a => if a = 26 then g else S.1 a, S.2)) ∧ (r = 1 ∧ okK K n ∨ r = 0 ∧ ¬ okK K n) ∧ ∀ j, j < n → g j = nI (dig K j)
  | 0, f + 1, l, S, b, h1, h2, h3, h4 => by
    refine ⟨b, S.1 26, ?_, ?_, fun j hj => h4 j (by omega)⟩
    · have e : (fun a => if a = 26 then S.1 26 else S.1 a) = S.1 := by
        funext a
        by_cases h : a = 26
        · rw [if_pos h, h]
        · rw [if_neg h]
      rw [fX11_lays_30, if_pos (nI_le (by omega) (by omega)), e]
      rcases h3 with ⟨rfl, _⟩ | ⟨rfl, _⟩
      · rw [if_pos a1_1]
      · rw [if_pos a1_0]
    · have hl : l = n := by omega
      subst hl
      exact h3
  | d + 1, f + 1, l, S, b, h1, h2, h3, h4 => by
    have hd := dig_lt K l
    have hS : ∀ j, j < l + 1 → (us S 26 l (nI (dig K l))).1 26 j = nI (dig K j) := fun j hj => by
      rw [us_rd, if_pos rfl]
      by_cases hj2 : j = l
      · rw [if_pos hj2, hj2]
      · rw [if_neg hj2]; exact h4 j (by omega)
    have fin : ∀ b2 : Int32, (b2 = 1 ∧ (∀ j, j < l + 1 → dig K j < 6) ∨ b2 = 0 ∧ ¬ (∀ j, j < l + 1 → dig K j < 6)) → ∃ r g, fX11_lays_30 F f (us S 26 l (nI (dig K l))) (nI n) (nI K) b2 (nI l + 1) = some (r, (fun a => if a = 26 then g else S.1 a, S.2)) ∧ (r = 1 ∧ okK K n ∨ r = 0 ∧ ¬ okK K n) ∧ ∀ j, j < n → g j = nI (dig K j) := fun b2 hb2 => by
      obtain ⟨r, g, h5, h6, h7⟩ := lays_lp F hK hn d f (l + 1) (us S 26 l (nI (dig K l))) b2 (by omega) (by omega) hb2 hS
      refine ⟨r, g, ?_, h6, h7⟩
      rw [nI_1, h5]
      have e : (fun a => if a = 26 then g else (us S 26 l (nI (dig K l))).1 a) = (fun a => if a = 26 then g else S.1 a) := by
        funext a
        by_cases h : a = 26
        · rw [if_pos h, if_pos h]
        · rw [if_neg h, if_neg h, us_row, if_neg h]
      rw [e]
      rfl
    rw [fX11_lays_30, if_neg (nI_ge (by omega) (by omega)), if_pos (vin_nI (by omega) (by omega)), ix_nI (by omega), kd_s (by omega) (by omega), m7 _ (dv_lt (by omega)), show K / 8 ^ l % 8 = dig K l from rfl]
    show ∃ r g, (if b = 0 then fX11_lays_72 F (fX11_lays_30 F f) (us S 26 l (nI (dig K l))) (nI n) (nI K) (nI l) else (if vin (nI l) 9 = true then _ else none)) = _ ∧ _
    by_cases hb : b = 0
    · rw [if_pos hb]
      refine fin 0 (Or.inr ⟨rfl, fun h => ?_⟩)
      rcases h3 with ⟨h3, _⟩ | ⟨_, h3⟩
      · rw [hb] at h3
        exact absurd h3 (by decide)
      · exact h3 (fun j hj => h j (by omega))
    · rw [if_neg hb, if_pos (vin_nI (by omega) (by omega)), hS l (by omega)]
      have h3 : ∀ j, j < l → dig K j < 6 := by
        rcases h3 with ⟨_, h3⟩ | ⟨h3, _⟩
        · exact h3
        · exact absurd h3 hb
      by_cases h : dig K l < 6
      · rw [if_neg (c := (6 : Int32) ≤ nI (dig K l)) (nI_ge (b := 6) h (by omega))]
        refine fin 1 (Or.inl ⟨rfl, fun j hj => ?_⟩)
        by_cases hj2 : j = l
        · rw [hj2]; exact h
        · exact h3 j (by omega)
      · rw [if_pos (c := (6 : Int32) ≤ nI (dig K l)) (nI_le (a := 6) (by omega) (by omega))]
        exact fin 0 (Or.inr ⟨rfl, fun h6 => h (h6 l (by omega))⟩)
theorem lays_eq (S : ST) (x1 x2 : Int32) : ∃ r g, fX11_lays FU S x1 x2 = some (r, (fun a => if a = 26 then g else S.1 a, S.2)) ∧ ((r = 1 ∧ laid x1 x2 ∧ ∀ K, x2 = nI K → K < 8 ^ (ix x1) → ∀ j, j < ix x1 → g j = nI (dig K j)) ∨ (r = 0 ∧ ¬ laid x1 x2)) := by
  have e0 : (fun a => if a = 26 then S.1 26 else S.1 a) = S.1 := by
    funext a
    by_cases h : a = 26
    · rw [if_pos h, h]
    · rw [if_neg h]
  unfold fX11_lays
  by_cases h1 : 1 ≤ x1.toInt ∧ x1.toInt ≤ 9
  · rw [if_neg (by simp [i_lt]; omega), if_neg (by simp [i_lt]; omega)]
    obtain ⟨n, rfl, n2, n3⟩ := i_ex (x := x1) (by omega)
    have hix : ix (nI n) = n := ix_nI n3
    have h8 := p8_9 (n := n) (by omega)
    by_cases h2 : 0 ≤ x2.toInt
    · rw [if_neg (by simp [i_lt]; omega)]
      obtain ⟨K, rfl, k2, k3⟩ := i_ex h2
      rw [kd_s (by omega) (by omega)]
      have uq : ∀ K2, nI K = nI K2 → K2 < 8 ^ ix (nI n) → K2 = K := fun K2 e c => by
        rw [hix] at c
        have e2 := congrArg Int32.toInt e
        rw [k2, i_lit (by omega)] at e2
        omega
      by_cases h3 : K < 8 ^ n
      · rw [Nat.div_eq_of_lt h3, if_pos (by rfl)]
        obtain ⟨r, g, h4, h5, h6⟩ := lays_lp FU (K := K) (n := n) (by omega) (by omega) n FU 0 S 1 (by omega) (by show n < 20000; omega) (Or.inl ⟨rfl, fun j hj => by omega⟩) (fun j hj => by omega)
        refine ⟨r, g, h4, ?_⟩
        rcases h5 with ⟨a, b⟩ | ⟨a, b⟩
        · refine Or.inl ⟨a, ⟨h1.1, h1.2, K, rfl, by rw [hix]; exact h3, by rw [hix]; exact b⟩, fun K2 e c j hj => ?_⟩
          rw [uq K2 e c]
          exact h6 j (by omega)
        · refine Or.inr ⟨a, fun ⟨_, _, K2, e, c0, c⟩ => b ?_⟩
          rw [uq K2 e c0, hix] at c
          exact c
      · rw [if_neg (fun h => h3 ?_)]
        · refine ⟨0, S.1 26, by rw [e0], Or.inr ⟨rfl, fun ⟨_, _, K2, e, c, _⟩ => h3 ?_⟩⟩
          have := uq K2 e c
          rw [hix] at c
          omega
        · have h5 : K / 8 ^ n = 0 := by
            have := dv_lt (l := n) k3
            exact (nI_eq (b := 0) (by omega) (by omega)).mp h
          exact (Nat.div_eq_zero_iff_lt (Nat.pow_pos (by omega))).mp h5
    · rw [if_pos (by simp [i_lt]; omega)]
      refine ⟨0, S.1 26, by rw [e0], Or.inr ⟨rfl, fun ⟨_, _, K2, e, c, _⟩ => h2 ?_⟩⟩
      rw [hix] at c
      rw [e, i_lit (by omega)]
      omega
  · refine ⟨0, S.1 26, ?_, Or.inr ⟨rfl, fun ⟨a, b, _⟩ => h1 ⟨a, b⟩⟩⟩
    rw [e0]
    by_cases h5 : x1 < 1
    · rw [if_pos h5]
    · rw [if_neg h5, if_pos (by simp [i_lt] at h5; simp [i_lt]; omega)]
theorem ofKind_eq (F : Nat) (S : ST) (c : Nat) {k : Nat} (hk : k < 6) : fX9_ofKind F S c (nI k) = some (S.1 c k, S) := by
  unfold fX9_ofKind
  rw [if_neg (nI_pos (by omega)), if_neg (c := (6 : Int32) ≤ nI k) (nI_ge (b := 6) hk (by omega)), if_pos (vin_nI hk (by omega)), ix_nI (by omega)]
def sumD (f : Nat → Int32) (K : Nat) : Nat → Int32
  | 0 => 0
  | n + 1 => sumD f K n + f (dig K n)
theorem sumD_congr {f g : Nat → Int32} {K : Nat} : ∀ {n : Nat}, (∀ l, l < n → f (dig K l) = g (dig K l)) → sumD f K n = sumD g K n
  | 0, _ => rfl
  | n + 1, h => by rw [sumD, sumD, sumD_congr (fun l hl => h l (by omega)), h n (by omega)]
theorem sumOf_lp (F : Nat) (S : ST) (c : Nat) {K n : Nat} (hK : K < 2 ^ 31) (hn : n ≤ 9) (ho : okK K n) : ∀ (d f l : Nat), d + l = n → d < f → fX9_sumOf_5 F c f S (nI n) (nI K) (sumD (S.1 c) K l) (nI l) = some (sumD (S.1 c) K n, S)
  | 0, f + 1, l, h1, h2 => by
    have e : l = n := by omega
    rw [fX9_sumOf_5, if_pos (nI_le (by omega) (by omega)), e]
  | d + 1, f + 1, l, h1, h2 => by
    rw [fX9_sumOf_5, if_neg (nI_ge (by omega) (by omega)), kindAt_eq F S (by omega) (by omega)]
    show (fX9_ofKind F S c (nI (dig K l))).bind _ = _
    rw [ofKind_eq F S c (ho l (by omega))]
    show fX9_sumOf_5 F c f S (nI n) (nI K) (sumD (S.1 c) K l + S.1 c (dig K l)) (nI l + 1) = _
    rw [nI_1]
    exact sumOf_lp F S c hK hn ho d f (l + 1) (by omega) (by omega)
theorem sumOf_eq (S : ST) (c : Nat) {K n : Nat} (hK : K < 2 ^ 31) (hn : n ≤ 9) (ho : okK K n) : fX9_sumOf FU S c (nI n) (nI K) = some (sumD (S.1 c) K n, S) := sumOf_lp FU S c hK hn ho n FU 0 (by omega) (by show n < 20000; omega)
def mterm (S : ST) (w : Int32) (k : Nat) : Int32 := if w = 2 then S.1 25 k else if w = 0 then S.1 23 k + -(S.1 24 k) else S.1 23 k + S.1 24 k
theorem msum_lp (F : Nat) (S : ST) (w : Int32) {K n : Nat} (hn : n ≤ 9) (ho : okK K n) (hS : ∀ j, j < n → S.1 26 j = nI (dig K j)) : ∀ (d f l : Nat), d + l = n → d < f → fX11_sum_5 F f S (nI n) w (sumD (mterm S w) K l) (nI l) = some (sumD (mterm S w) K n, S)
  | 0, f + 1, l, h1, h2 => by
    have e : l = n := by omega
    rw [fX11_sum_5, if_pos (nI_le (by omega) (by omega)), e]
  | d + 1, f + 1, l, h1, h2 => by
    have h6 := ho l (by omega)
    have hv : vin (nI l) 9 = true := vin_nI (by omega) (by omega)
    have hv2 : vin (nI (dig K l)) 6 = true := vin_nI h6 (by omega)
    have ih := msum_lp F S w hn ho hS d f (l + 1) (by omega) (by omega)
    rw [fX11_sum_5, if_neg (nI_ge (by omega) (by omega)), ix_nI (by omega), hS l (by omega), ix_nI (by omega)]
    by_cases h3 : w = 2
    · rw [if_pos h3, if_pos hv, if_pos hv2]
      show fX11_sum_5 F f S (nI n) w (sumD (mterm S w) K l + S.1 25 (dig K l)) (nI l + 1) = _
      rw [nI_1, ← ih, sumD, mterm, if_pos h3]
    · rw [if_neg h3, if_pos hv, if_pos hv2]
      by_cases h4 : w = 0
      · rw [if_pos h4, if_pos hv, if_pos hv2]
        show fX11_sum_5 F f S (nI n) w (sumD (mterm S w) K l + (S.1 23 (dig K l) + -(S.1 24 (dig K l)))) (nI l + 1) = _
        rw [nI_1, ← ih, sumD, mterm, if_neg h3, if_pos h4]
      · rw [if_neg h4, if_pos hv, if_pos hv2]
        show fX11_sum_5 F f S (nI n) w (sumD (mterm S w) K l + (S.1 23 (dig K l) + S.1 24 (dig K l))) (nI l + 1) = _
        rw [nI_1, ← ih, sumD, mterm, if_neg h3, if_neg h4]
theorem msum_eq (S : ST) (w : Int32) {K n : Nat} (hn : n ≤ 9) (ho : okK K n) (hS : ∀ j, j < n → S.1 26 j = nI (dig K j)) : fX11_sum FU S (nI n) w = some (sumD (mterm S w) K n, S) := msum_lp FU S w hn ho hS n FU 0 (by omega) (by show n < 20000; omega)
theorem sumD_add (f g : Nat → Int32) (K : Nat) : ∀ n, sumD f K n + sumD g K n = sumD (fun k => f k + g k) K n
  | 0 => rfl
  | n + 1 => by
    rw [sumD, sumD, sumD, ← sumD_add f g K n]
    ac_rfl
theorem sumD_neg (g : Nat → Int32) (K : Nat) : ∀ n, -(sumD g K n) = sumD (fun k => -(g k)) K n
  | 0 => by show -(0 : Int32) = 0; decide
  | n + 1 => by
    rw [sumD, sumD, ← sumD_neg g K n, Int32.neg_add, Int32.sub_eq_add_neg]
theorem sumD_sub (f g : Nat → Int32) (K n : Nat) : sumD f K n - sumD g K n = sumD (fun k => f k + -(g k)) K n := by
  rw [Int32.sub_eq_add_neg, sumD_neg, sumD_add]
theorem set26 {SC SM : ST} {g : Nat → Int32} (h : Rel SC SM) : Rel SC (fun a => if a = 26 then g else SM.1 a, SM.2) := by
  obtain ⟨hL, hT, hF, hG, hLf, hP, hC, hV, hPr, hPC⟩ := h
  exact ⟨hL.fr rfl rfl rfl, hT.fr rfl rfl rfl rfl, hF.fr rfl rfl rfl, hG.fr rfl rfl rfl rfl rfl rfl rfl rfl rfl rfl rfl, hLf.fr rfl rfl rfl rfl rfl rfl rfl rfl, hP.fr rfl rfl rfl rfl, hC, hV.fr rfl rfl rfl rfl rfl rfl rfl rfl, hPr.fr rfl rfl rfl rfl rfl rfl rfl rfl rfl rfl, hPC⟩
theorem st_board (x1 x2 x3 : Int32) : Sim Rel (fun S => fX10_board FU S x1 x2 x3) (fun S => fX11_board FU S x1 x2 x3) := by
  intro SC SM hR
  have hV := hR.2.2.2.2.2.2.2.1
  show ∃ r SC2 SM2, fX10_board FU SC x1 x2 x3 = _ ∧ fX11_board FU SM x1 x2 x3 = _ ∧ _
  unfold fX10_board fX11_board
  obtain ⟨r1, h1, h2⟩ := canBe_eq SC x1 x2
  obtain ⟨r2, g, h3, h4⟩ := lays_eq SM x1 x2
  rw [h1, h3]
  by_cases hl : laid x1 x2
  · have e1 : r1 = 1 := by
      rcases h2 with ⟨a, _⟩ | ⟨_, b⟩
      · exact a
      · exact absurd hl b
    obtain ⟨e2, h5⟩ : r2 = 1 ∧ ∀ K, x2 = nI K → K < 8 ^ (ix x1) → ∀ j, j < ix x1 → g j = nI (dig K j) := by
      rcases h4 with ⟨a, _, c⟩ | ⟨_, b⟩
      · exact ⟨a, c⟩
      · exact absurd hl b
    subst e1
    subst e2
    obtain ⟨a1, a2, K, rfl, a4, a5⟩ := hl
    obtain ⟨n, rfl, n2, n3⟩ := i_ex (x := x1) (by omega)
    rw [ix_nI n3] at a4 a5 h5
    have h8 := p8_9 (n := n) (by omega)
    have hS := h5 K rfl a4
    have ms := msum_eq (fun a => if a = 26 then g else SM.1 a, SM.2) x3 (K := K) (n := n) (by omega) a5 hS
    have eq1 : ∀ l, l < n → SC.1 37 (dig K l) = SM.1 23 (dig K l) ∧ SC.1 38 (dig K l) = SM.1 24 (dig K l) ∧ SC.1 39 (dig K l) = SM.1 25 (dig K l) := fun l hl => by
      obtain ⟨t, o, p, _, _, _, _, _, b1, b2, b3, b4, b5, b6, _⟩ := hV (dig K l) (a5 l hl)
      exact ⟨b1.trans b2.symm, b3.trans b4.symm, b5.trans b6.symm⟩
    show ∃ r SC2 SM2, (if x3 = 0 then (fX9_thinOf FU SC (nI n) (nI K)).bind _ else if x3 = 1 then (fX9_thickOf FU SC (nI n) (nI K)).bind _ else if x3 = 2 then (fX9_priceOf FU SC (nI n) (nI K)).bind _ else some ((-1 : Int32), SC)) = _ ∧ (if x3 < 0 then _ else if (2 : Int32) < x3 then _ else (fX11_sum FU _ (nI n) x3).bind _) = _ ∧ _
    rw [ms]
    unfold fX9_thinOf fX9_thickOf fX9_priceOf
    rw [sumOf_eq SC 37 (by omega) (by omega) a5, sumOf_eq SC 39 (by omega) (by omega) a5]
    by_cases c0 : x3 = 0
    · subst c0
      refine ⟨sumD (SC.1 37) K n - sumD (SC.1 38) K n, SC, (fun a => if a = 26 then g else SM.1 a, SM.2), ?_, ?_, set26 hR⟩
      · rw [if_pos rfl]
        show Option.bind (Option.bind (fX9_sumOf FU SC 38 (nI n) (nI K)) _) _ = _
        rw [sumOf_eq SC 38 (by omega) (by omega) a5]
        rfl
      · rw [if_neg (by decide), if_neg (by decide), sumD_sub]
        show some (sumD _ K n, _) = _
        rw [sumD_congr (g := fun k => SC.1 37 k + -(SC.1 38 k)) (fun l hl => ?_)]
        obtain ⟨b1, b2, b3⟩ := eq1 l hl
        rw [b1, b2]
        rfl
    · by_cases c1 : x3 = 1
      · subst c1
        refine ⟨sumD (SC.1 37) K n + sumD (SC.1 38) K n, SC, (fun a => if a = 26 then g else SM.1 a, SM.2), ?_, ?_, set26 hR⟩
        · rw [if_neg c0, if_pos rfl]
          show Option.bind (Option.bind (fX9_sumOf FU SC 38 (nI n) (nI K)) _) _ = _
          rw [sumOf_eq SC 38 (by omega) (by omega) a5]
          rfl
        · rw [if_neg (by decide), if_neg (by decide), sumD_add]
          show some (sumD _ K n, _) = _
          rw [sumD_congr (g := fun k => SC.1 37 k + SC.1 38 k) (fun l hl => ?_)]
          obtain ⟨b1, b2, b3⟩ := eq1 l hl
          rw [b1, b2]
          rfl
      · by_cases c2 : x3 = 2
        · subst c2
          refine ⟨sumD (SC.1 39) K n, SC, (fun a => if a = 26 then g else SM.1 a, SM.2), ?_, ?_, set26 hR⟩
          · rw [if_neg c0, if_neg c1, if_pos rfl]
            rfl
          · rw [if_neg (by decide), if_neg (by decide)]
            show some (sumD _ K n, _) = _
            rw [sumD_congr (g := SC.1 39) (fun l hl => ?_)]
            obtain ⟨b1, b2, b3⟩ := eq1 l hl
            rw [b3]
            rfl
        · refine ⟨-1, SC, SM, by rw [if_neg c0, if_neg c1, if_neg c2], ?_, hR⟩
          by_cases c3 : x3 < 0
          · rw [if_pos c3]
          · rw [if_neg c3, if_pos]
            simp [i_lt] at c3
            simp [i_eq] at c0 c1 c2
            simp [i_lt]
            omega
  · have e1 : r1 = 0 := by
      rcases h2 with ⟨_, b⟩ | ⟨a, _⟩
      · exact absurd b hl
      · exact a
    have e2 : r2 = 0 := by
      rcases h4 with ⟨_, b, _⟩ | ⟨a, _⟩
      · exact absurd b hl
      · exact a
    subst e1
    subst e2
    by_cases c3 : x3 < 0
    · exact ⟨-1, SC, SM, rfl, by rw [if_pos c3], hR⟩
    · by_cases c4 : (2 : Int32) < x3
      · exact ⟨-1, SC, SM, rfl, by rw [if_neg c3, if_pos c4], hR⟩
      · exact ⟨-1, SC, (fun a => if a = 26 then g else SM.1 a, SM.2), rfl, by rw [if_neg c3, if_neg c4]; rfl, set26 hR⟩
