def mkN (b : Nat) : Nat := if b = 46 then 4 else if b = 107 then 0 else if b = 115 then 1 else if b = 111 then 2 else if b = 112 then 3 else 5
theorem mk46 (b : Nat) (h : b < 256) : (nI b = 46) ↔ mkN b = 4 := by
  rw [show (nI b = 46) ↔ b = 46 from nI_eq (b := 46) (by omega) (by omega)]
  unfold mkN
  constructor
  · intro h; rw [if_pos h]
  · intro h2
    repeat (split at h2 <;> first | assumption | (exfalso; omega) | skip)
    all_goals omega
theorem mk107 (b : Nat) (h : b < 256) : (nI b = 107) ↔ mkN b = 0 := by
  rw [show (nI b = 107) ↔ b = 107 from nI_eq (b := 107) (by omega) (by omega)]
  unfold mkN
  constructor
  · intro h; subst h; rfl
  · intro h2
    repeat (split at h2 <;> first | assumption | (exfalso; omega) | skip)
    all_goals omega
theorem mk115 (b : Nat) (h : b < 256) : (nI b = 115) ↔ mkN b = 1 := by
  rw [show (nI b = 115) ↔ b = 115 from nI_eq (b := 115) (by omega) (by omega)]
  unfold mkN
  constructor
  · intro h; subst h; rfl
  · intro h2
    repeat (split at h2 <;> first | assumption | (exfalso; omega) | skip)
    all_goals omega
theorem mk111 (b : Nat) (h : b < 256) : (nI b = 111) ↔ mkN b = 2 := by
  rw [show (nI b = 111) ↔ b = 111 from nI_eq (b := 111) (by omega) (by omega)]
  unfold mkN
  constructor
  · intro h; subst h; rfl
  · intro h2
    repeat (split at h2 <;> first | assumption | (exfalso; omega) | skip)
    all_goals omega
theorem mk112 (b : Nat) (h : b < 256) : (nI b = 112) ↔ mkN b = 3 := by
  rw [show (nI b = 112) ↔ b = 112 from nI_eq (b := 112) (by omega) (by omega)]
  unfold mkN
  constructor
  · intro h; subst h; rfl
  · intro h2
    repeat (split at h2 <;> first | assumption | (exfalso; omega) | skip)
    all_goals omega
theorem mkN_le (b : Nat) : mkN b ≤ 5 := by
  unfold mkN
  repeat (split <;> first | omega | skip)
theorem isMark_eq (F : Nat) (S : ST) (b : Nat) (h : b < 256) : fX3_isMark F S (nI b) = some (if mkN b < 5 then 1 else 0, S) := by
  have hle := mkN_le b
  unfold fX3_isMark
  by_cases h1 : nI b = 46
  · rw [if_pos h1, if_pos (by rw [(mk46 b h).mp h1]; omega)]
  · rw [if_neg h1]
    by_cases h2 : nI b = 107
    · rw [if_pos h2, if_pos (by rw [(mk107 b h).mp h2]; omega)]
    · rw [if_neg h2]
      by_cases h3 : nI b = 115
      · rw [if_pos h3, if_pos (by rw [(mk115 b h).mp h3]; omega)]
      · rw [if_neg h3]
        by_cases h4 : nI b = 111
        · rw [if_pos h4, if_pos (by rw [(mk111 b h).mp h4]; omega)]
        · rw [if_neg h4]
          by_cases h5 : nI b = 112
          · rw [if_pos h5, if_pos (by rw [(mk112 b h).mp h5]; omega)]
          · rw [if_neg h5, if_neg]
            rw [mk46 b h] at h1
            rw [mk107 b h] at h2
            rw [mk115 b h] at h3
            rw [mk111 b h] at h4
            rw [mk112 b h] at h5
            omega
theorem markOf_eq (F : Nat) (S : ST) (b : Nat) (h : b < 256) : fX11_markOf F S (nI b) = some (if mkN b < 5 then nI (mkN b) else -1, S) := by
  have hle := mkN_le b
  unfold fX11_markOf
  by_cases h1 : nI b = 46
  · rw [if_pos h1, (mk46 b h).mp h1]; rfl
  · rw [if_neg h1]
    by_cases h2 : nI b = 107
    · rw [if_pos h2, (mk107 b h).mp h2]; rfl
    · rw [if_neg h2]
      by_cases h3 : nI b = 115
      · rw [if_pos h3, (mk115 b h).mp h3]; rfl
      · rw [if_neg h3]
        by_cases h4 : nI b = 111
        · rw [if_pos h4, (mk111 b h).mp h4]; rfl
        · rw [if_neg h4]
          by_cases h5 : nI b = 112
          · rw [if_pos h5, (mk112 b h).mp h5]; rfl
          · rw [if_neg h5, if_neg]
            rw [mk46 b h] at h1
            rw [mk107 b h] at h2
            rw [mk115 b h] at h3
            rw [mk111 b h] at h4
            rw [mk112 b h] at h5
            omega
theorem byteAt_eq (F : Nat) (S : ST) {n p : Nat} (hn : n ≤ 600) (hl : S.1 2 1 = nI n) (hp : p < n) : fX7_byteAt F S (nI p) = some (S.1 13 p, S) := by
  unfold fX7_byteAt
  rw [if_neg (nI_pos (by omega)), hl, if_neg (nI_ge hp (by omega)), if_neg (c := (600 : Int32) ≤ nI p) (nI_ge (b := 600) (by omega) (by omega)), if_pos (vin_nI (by omega) (by omega)), ix_nI (by omega)]
def flawAt (bs : Nat → Nat) (p : Nat) : Prop := 300 ≤ p ∨ mkN (bs p) = 5
theorem ff_lp (F : Nat) (S : ST) (bs : Nat → Nat) {n : Nat} (hn : n ≤ 600) (hl : S.1 2 1 = nI n) (hb : ∀ i, i < n → bs i < 256 ∧ S.1 13 i = nI (bs i)) : ∀ (d f p : Nat), d + p = n → d < f → (∀ i, i < p → ¬ flawAt bs i) → (fX3_firstFault_2 F f S (nI p) = some (-1, S) ∧ ∀ i, i < n → ¬ flawAt bs i) ∨ ∃ q, q < n ∧ flawAt bs q ∧ (∀ i, i < q → ¬ flawAt bs i) ∧ fX3_firstFault_2 F f S (nI p) = some (nI q, S)
  | 0, f + 1, p, h1, h2, h3 => by
    left
    have e : p = n := by omega
    rw [fX3_firstFault_2, hl, if_pos (nI_le (by omega) (by omega)), ← e]
    exact ⟨rfl, h3⟩
  | d + 1, f + 1, p, h1, h2, h3 => by
    have hf : fX3_firstFault_2 F (f + 1) S (nI p) = if 300 ≤ p then some (nI p, S) else if mkN (bs p) < 5 then fX3_firstFault_2 F f S (nI (p + 1)) else some (nI p, S) := by
      rw [fX3_firstFault_2, hl, if_neg (nI_ge (by omega) (by omega))]
      by_cases h4 : 300 ≤ p
      · rw [if_pos (c := (300 : Int32) ≤ nI p) (nI_le (a := 300) h4 (by omega)), if_pos h4]
      · rw [if_neg (c := (300 : Int32) ≤ nI p) (nI_ge (b := 300) (by omega) (by omega)), if_neg h4, byteAt_eq F S hn hl (by omega), (hb p (by omega)).2]
        show (fX3_isMark F S (nI (bs p))).bind _ = _
        rw [isMark_eq F S _ (hb p (by omega)).1]
        by_cases h5 : mkN (bs p) < 5
        · rw [if_pos h5, if_pos h5, ← nI_1]; rfl
        · rw [if_neg h5, if_neg h5]; rfl
    have hle := mkN_le (bs p)
    by_cases h4 : flawAt bs p
    · right
      refine ⟨p, by omega, h4, h3, ?_⟩
      rw [hf]
      rcases h4 with h4 | h4
      · rw [if_pos h4]
      · rw [if_neg (c := mkN (bs p) < 5) (by omega)]
        split <;> rfl
    · have h5 : ¬ 300 ≤ p ∧ mkN (bs p) < 5 := ⟨fun h => h4 (Or.inl h), by
        rcases Nat.lt_or_ge (mkN (bs p)) 5 with h | h
        · exact h
        · exact absurd (Or.inr (by omega)) h4⟩
      rw [hf, if_neg h5.1, if_pos h5.2]
      exact ff_lp F S bs hn hl hb d f (p + 1) (by omega) (by omega) (fun i hi => by
        by_cases hi2 : i = p
        · rw [hi2]; exact h4
        · exact h3 i (by omega))
def tk1 (S : ST) (l m : Nat) : ST := us (us (us (us (us S 26 (l + 1) (S.1 26 l + if m = 0 then 1 else 0)) 27 (l + 1) (S.1 27 l + if m = 1 then 1 else 0)) 28 (l + 1) (S.1 28 l + if m = 2 then 1 else 0)) 29 (l + 1) (S.1 29 l + if m = 3 then 1 else 0)) 30 (l + 1) (if m = 4 then S.1 30 l + 1 else 0)
theorem tk_step (F f : Nat) (S : ST) {n l b : Nat} (hn : n ≤ 300) (hc : S.1 7 5 = nI n) (hl : S.1 2 1 = nI n) (hl2 : l < n) (hb : b < 256) (hS : S.1 13 l = nI b) (hm : mkN b < 5) : fX3_take_16 F (f + 1) S (nI l) = fX3_take_16 F f (tk1 S l (mkN b)) (nI (l + 1)) := by
  have hv : vin (nI l) 301 = true := vin_nI (by omega) (by omega)
  have hv2 : vin (nI (l + 1)) 301 = true := vin_nI (by omega) (by omega)
  rw [fX3_take_16, hc, if_neg (nI_ge hl2 (by omega)), byteAt_eq F S (by omega) hl hl2, hS]
  show (if vin (nI l) 301 = true then (if nI b = 107 then fX3_take_54 F (fX3_take_16 F f) S (nI l) (nI b) 1 (S.1 26 (ix (nI l))) (nI l + 1) else fX3_take_54 F (fX3_take_16 F f) S (nI l) (nI b) 0 (S.1 26 (ix (nI l))) (nI l + 1)) else none) = _
  rw [if_pos hv, nI_1, ix_nI (by omega)]
  have e1 : ∀ (S : ST) (c : Int32), fX3_take_159 F (fX3_take_16 F f) S (nI l) c (nI (l + 1)) = fX3_take_16 F f (us S 30 (l + 1) c) (nI (l + 1)) := fun S c => by
    unfold fX3_take_159
    rw [if_pos hv2, ix_nI (by omega), nI_1]
    rfl
  have e2 : ∀ (S : ST) (c e : Int32), fX3_take_132 F (fX3_take_16 F f) S (nI l) (nI b) c e (nI (l + 1)) = fX3_take_16 F f (us (us S 29 (l + 1) (e + c)) 30 (l + 1) (if mkN b = 4 then S.1 30 l + 1 else 0)) (nI (l + 1)) := fun S c e => by
    unfold fX3_take_132
    rw [if_pos hv2, ix_nI (by omega), nI_1]
    show (if nI b = 46 then (if vin (nI l) 301 = true then fX3_take_159 F (fX3_take_16 F f) (us S 29 (l + 1) (e + c)) (nI l) (S.1 30 (ix (nI l)) + 1) (nI (l + 1)) else none) else fX3_take_159 F (fX3_take_16 F f) (us S 29 (l + 1) (e + c)) (nI l) 0 (nI (l + 1))) = _
    rw [if_pos hv, ix_nI (by omega), e1, e1]
    by_cases h : nI b = 46
    · rw [if_pos h, if_pos ((mk46 b hb).mp h)]
    · rw [if_neg h, if_neg (fun h2 => h ((mk46 b hb).mpr h2))]
  have e3 : ∀ (S : ST) (c e : Int32), fX3_take_106 F (fX3_take_16 F f) S (nI l) (nI b) c e (nI (l + 1)) = fX3_take_16 F f (us (us (us S 28 (l + 1) (e + c)) 29 (l + 1) (S.1 29 l + if mkN b = 3 then 1 else 0)) 30 (l + 1) (if mkN b = 4 then S.1 30 l + 1 else 0)) (nI (l + 1)) := fun S c e => by
    unfold fX3_take_106
    rw [if_pos hv2, ix_nI (by omega), nI_1]
    show (if vin (nI l) 301 = true then (if nI b = 112 then fX3_take_132 F (fX3_take_16 F f) (us S 28 (l + 1) (e + c)) (nI l) (nI b) 1 (S.1 29 (ix (nI l))) (nI (l + 1)) else fX3_take_132 F (fX3_take_16 F f) (us S 28 (l + 1) (e + c)) (nI l) (nI b) 0 (S.1 29 (ix (nI l))) (nI (l + 1))) else none) = _
    rw [if_pos hv, ix_nI (by omega), e2, e2]
    by_cases h : nI b = 112
    · rw [if_pos h, if_pos ((mk112 b hb).mp h)]; rfl
    · rw [if_neg h, if_neg (fun h2 => h ((mk112 b hb).mpr h2))]; rfl
  have e4 : ∀ (S : ST) (c e : Int32), fX3_take_80 F (fX3_take_16 F f) S (nI l) (nI b) c e (nI (l + 1)) = fX3_take_16 F f (us (us (us (us S 27 (l + 1) (e + c)) 28 (l + 1) (S.1 28 l + if mkN b = 2 then 1 else 0)) 29 (l + 1) (S.1 29 l + if mkN b = 3 then 1 else 0)) 30 (l + 1) (if mkN b = 4 then S.1 30 l + 1 else 0)) (nI (l + 1)) := fun S c e => by
    unfold fX3_take_80
    rw [if_pos hv2, ix_nI (by omega), nI_1]
    show (if vin (nI l) 301 = true then (if nI b = 111 then fX3_take_106 F (fX3_take_16 F f) (us S 27 (l + 1) (e + c)) (nI l) (nI b) 1 (S.1 28 (ix (nI l))) (nI (l + 1)) else fX3_take_106 F (fX3_take_16 F f) (us S 27 (l + 1) (e + c)) (nI l) (nI b) 0 (S.1 28 (ix (nI l))) (nI (l + 1))) else none) = _
    rw [if_pos hv, ix_nI (by omega), e3, e3]
    by_cases h : nI b = 111
    · rw [if_pos h, if_pos ((mk111 b hb).mp h)]; rfl
    · rw [if_neg h, if_neg (fun h2 => h ((mk111 b hb).mpr h2))]; rfl
  have e5 : ∀ (S : ST) (c e : Int32), fX3_take_54 F (fX3_take_16 F f) S (nI l) (nI b) c e (nI (l + 1)) = fX3_take_16 F f (us (us (us (us (us S 26 (l + 1) (e + c)) 27 (l + 1) (S.1 27 l + if mkN b = 1 then 1 else 0)) 28 (l + 1) (S.1 28 l + if mkN b = 2 then 1 else 0)) 29 (l + 1) (S.1 29 l + if mkN b = 3 then 1 else 0)) 30 (l + 1) (if mkN b = 4 then S.1 30 l + 1 else 0)) (nI (l + 1)) := fun S c e => by
    unfold fX3_take_54
    rw [if_pos hv2, ix_nI (by omega), nI_1]
    show (if vin (nI l) 301 = true then (if nI b = 115 then fX3_take_80 F (fX3_take_16 F f) (us S 26 (l + 1) (e + c)) (nI l) (nI b) 1 (S.1 27 (ix (nI l))) (nI (l + 1)) else fX3_take_80 F (fX3_take_16 F f) (us S 26 (l + 1) (e + c)) (nI l) (nI b) 0 (S.1 27 (ix (nI l))) (nI (l + 1))) else none) = _
    rw [if_pos hv, ix_nI (by omega), e4, e4]
    by_cases h : nI b = 115
    · rw [if_pos h, if_pos ((mk115 b hb).mp h)]; rfl
    · rw [if_neg h, if_neg (fun h2 => h ((mk115 b hb).mpr h2))]; rfl
  rw [e5, e5]
  by_cases h : nI b = 107
  · rw [if_pos h, tk1, if_pos ((mk107 b hb).mp h)]
  · rw [if_neg h, tk1, if_neg (fun h2 => h ((mk107 b hb).mpr h2))]
def prefOK (S : ST) (mk : Nat → Nat) (l : Nat) : Prop := ∀ i, i ≤ l → S.1 26 i = nI (cntS mk 0 i) ∧ S.1 27 i = nI (cntS mk 1 i) ∧ S.1 28 i = nI (cntS mk 2 i) ∧ S.1 29 i = nI (cntS mk 3 i) ∧ S.1 30 i = nI (runB mk i)
theorem nI_if (a : Nat) (c : Prop) [Decidable c] : nI a + (if c then (1 : Int32) else 0) = nI (a + if c then 1 else 0) := by
  by_cases h : c
  · rw [if_pos h, if_pos h, nI_1]
  · rw [if_neg h, if_neg h]
    exact Int32.add_zero _
theorem tk1_pref {S : ST} {mk : Nat → Nat} {l : Nat} (h : prefOK S mk l) : prefOK (tk1 S l (mk l)) mk (l + 1) := by
  intro i hi
  obtain ⟨a1, a2, a3, a4, a5⟩ := h l (Nat.le_refl l)
  by_cases h2 : i = l + 1
  · subst h2
    refine ⟨?_, ?_, ?_, ?_, ?_⟩
    · rw [cntS, ← nI_if, ← a1]; simp [tk1, us_rd]
    · rw [cntS, ← nI_if, ← a2]; simp [tk1, us_rd]
    · rw [cntS, ← nI_if, ← a3]; simp [tk1, us_rd]
    · rw [cntS, ← nI_if, ← a4]; simp [tk1, us_rd]
    · rw [runB]
      by_cases h3 : mk l = 4
      · rw [if_pos h3, ← nI_1, ← a5]; simp [tk1, us_rd, h3]
      · rw [if_neg h3]; simp [tk1, us_rd, h3]; rfl
  · have := h i (by omega)
    simpa [tk1, us_rd, h2] using this
theorem tk1_fr (S : ST) (l m a : Nat) (h : a ∉ [26, 27, 28, 29, 30]) : (tk1 S l m).1 a = S.1 a := by
  simp at h
  simp [tk1, us_row, h]
theorem tk_lp (F : Nat) (bs : Nat → Nat) {n : Nat} (hn : n ≤ 300) : ∀ (d f l : Nat) (S : ST), d + l = n → d < f → S.1 7 5 = nI n → S.1 2 1 = nI n → (∀ i, i < n → bs i < 256 ∧ S.1 13 i = nI (bs i) ∧ mkN (bs i) < 5) → prefOK S (fun i => mkN (bs i)) l → ∃ S2, fX3_take_16 F f S (nI l) = some (0, S2) ∧ prefOK S2 (fun i => mkN (bs i)) n ∧ ∀ a, a ∉ [26, 27, 28, 29, 30] → S2.1 a = S.1 a
  | 0, f + 1, l, S, h1, h2, h3, h4, h5, h6 => by
    have e : l = n := by omega
    subst e
    refine ⟨S, ?_, h6, fun a _ => rfl⟩
    rw [fX3_take_16, h3, if_pos (nI_le (by omega) (by omega))]
  | d + 1, f + 1, l, S, h1, h2, h3, h4, h5, h6 => by
    obtain ⟨b1, b2, b3⟩ := h5 l (by omega)
    obtain ⟨S2, c1, c2, c3⟩ := tk_lp F bs hn d f (l + 1) (tk1 S l (mkN (bs l))) (by omega) (by omega) (by rw [tk1_fr _ _ _ _ (by decide)]; exact h3) (by rw [tk1_fr _ _ _ _ (by decide)]; exact h4) (fun i hi => by rw [tk1_fr _ _ _ _ (by decide)]; exact h5 i hi) (tk1_pref (mk := fun i => mkN (bs i)) h6)
    refine ⟨S2, ?_, c2, fun a ha => by rw [c3 a ha, tk1_fr _ _ _ _ ha]⟩
    rw [tk_step F f S hn h3 h4 (by omega) b1 b2 b3]
    exact c1
theorem lf70_lp (F : Nat) (bs : Nat → Nat) {n : Nat} (hn : n ≤ 300) : ∀ (d f l : Nat) (S : ST), d + l = n → d < f → S.1 0 9 = nI n → (∀ i, i < n → bs i < 256 ∧ S.1 2 i = nI (bs i) ∧ mkN (bs i) < 5) → (∀ i, i < l → S.1 14 i = nI (mkN (bs i))) → ∃ g, fX11_leaf_70 F f S (nI l) = some (nI n, us (fun a => if a = 14 then g else S.1 a, S.2) 0 32 (nI n)) ∧ ∀ i, i < n → g i = nI (mkN (bs i))
  | 0, f + 1, l, S, h1, h2, h3, h4, h5 => by
    have e : l = n := by omega
    subst e
    refine ⟨S.1 14, ?_, h5⟩
    have e0 : (fun a => if a = 14 then S.1 14 else S.1 a) = S.1 := by
      funext a
      by_cases h : a = 14
      · rw [if_pos h, h]
      · rw [if_neg h]
    rw [fX11_leaf_70, h3, if_pos (nI_le (by omega) (by omega)), e0]
    rfl
  | d + 1, f + 1, l, S, h1, h2, h3, h4, h5 => by
    obtain ⟨b1, b2, b3⟩ := h4 l (by omega)
    obtain ⟨g, c1, c2⟩ := lf70_lp F bs hn d f (l + 1) (us S 14 l (nI (mkN (bs l)))) (by omega) (by omega) h3 h4 (fun i hi => by
      rw [us_rd, if_pos rfl]
      by_cases h : i = l
      · rw [if_pos h, h]
      · rw [if_neg h]; exact h5 i (by omega))
    refine ⟨g, ?_, c2⟩
    rw [fX11_leaf_70, h3, if_neg (nI_ge (by omega) (by omega)), if_pos (vin_nI (by omega) (by omega)), ix_nI (by omega), b2, markOf_eq F S _ b1, if_pos b3]
    show (if vin (nI l) 300 = true then fX11_leaf_70 F f (us S 14 l (nI (mkN (bs l)))) (nI l + 1) else none) = _
    rw [if_pos (vin_nI (by omega) (by omega)), nI_1, c1]
    have e : (fun a => if a = 14 then g else (us S 14 l (nI (mkN (bs l)))).1 a) = (fun a => if a = 14 then g else S.1 a) := by
      funext a
      by_cases h : a = 14
      · rw [if_pos h, if_pos h]
      · rw [if_neg h, if_neg h, us_row, if_neg h]
    rw [e]
    rfl
theorem lf6_lp (F : Nat) (bs : Nat → Nat) {n : Nat} (hn : n ≤ 600) (S : ST) (h3 : S.1 0 9 = nI n) (h6 : S.1 0 6 = 0) (h4 : ∀ i, i < n → bs i < 256 ∧ S.1 2 i = nI (bs i)) : ∀ (d f l : Nat), d + l = n → d + 1 < f → (∀ i, i < l → ¬ flawAt bs i) → (fX11_leaf_6 F f S (nI l) = fX11_leaf_59 F S ∧ ∀ i, i < n → ¬ flawAt bs i) ∨ ∃ q, q < n ∧ flawAt bs q ∧ (∀ i, i < q → ¬ flawAt bs i) ∧ fX11_leaf_6 F f S (nI l) = some (-1, us (us S 0 6 1) 0 7 (nI q))
  | 0, f + 1, l, h1, h2, h5 => by
    left
    have e : l = n := by omega
    rw [fX11_leaf_6, h3, if_pos (nI_le (by omega) (by omega)), ← e]
    exact ⟨rfl, h5⟩
  | d + 1, f + 1, l, h1, h2, h5 => by
    have hend : ∀ m x, fX11_leaf_6 F (m + 1) (us (us S 0 6 1) 0 7 (nI l)) x = some (-1, us (us S 0 6 1) 0 7 (nI l)) := fun m x => by
      have e59 : fX11_leaf_59 F (us (us S 0 6 1) 0 7 (nI l)) = some (-1, us (us S 0 6 1) 0 7 (nI l)) := by
        unfold fX11_leaf_59
        rw [if_neg (show ¬ (us (us S 0 6 1) 0 7 (nI l)).1 0 6 ≤ 0 from (by decide : ¬ (1 : Int32) ≤ 0))]
      rw [fX11_leaf_6]
      split
      · exact e59
      · rw [if_neg (show ¬ (us (us S 0 6 1) 0 7 (nI l)).1 0 6 = 0 from z10)]
        exact e59
    obtain ⟨m, hm⟩ : ∃ m, f = m + 1 := ⟨f - 1, by omega⟩
    have hf : fX11_leaf_6 F (f + 1) S (nI l) = if 300 ≤ l then some (-1, us (us S 0 6 1) 0 7 (nI l)) else if mkN (bs l) < 5 then fX11_leaf_6 F f S (nI (l + 1)) else some (-1, us (us S 0 6 1) 0 7 (nI l)) := by
      have e43 : fX11_leaf_43 F (fX11_leaf_6 F f) S (nI l) = some (-1, us (us S 0 6 1) 0 7 (nI l)) := by
        show fX11_leaf_6 F f (us (us S 0 6 1) 0 7 (nI l)) _ = _
        rw [hm]
        exact hend m _
      rw [fX11_leaf_6, h3, if_neg (nI_ge (by omega) (by omega)), h6, if_pos rfl]
      by_cases h7 : 300 ≤ l
      · rw [if_pos (c := (300 : Int32) ≤ nI l) (nI_le (a := 300) h7 (by omega)), if_pos h7, e43]
      · rw [if_neg (c := (300 : Int32) ≤ nI l) (nI_ge (b := 300) (by omega) (by omega)), if_neg h7, if_pos (vin_nI (by omega) (by omega)), ix_nI (by omega), (h4 l (by omega)).2, markOf_eq F S _ (h4 l (by omega)).1]
        by_cases h8 : mkN (bs l) < 5
        · rw [if_pos h8, if_pos h8]
          show (if nI (mkN (bs l)) < 0 then _ else fX11_leaf_6 F f S (nI l + 1)) = _
          rw [if_neg (nI_pos (by omega)), nI_1]
        · rw [if_neg h8, if_neg h8]
          exact e43
    have hle := mkN_le (bs l)
    by_cases h7 : flawAt bs l
    · right
      refine ⟨l, by omega, h7, h5, ?_⟩
      rw [hf]
      rcases h7 with h7 | h7
      · rw [if_pos h7]
      · rw [if_neg (c := mkN (bs l) < 5) (by omega)]
        split <;> rfl
    · have h8 : ¬ 300 ≤ l ∧ mkN (bs l) < 5 := ⟨fun h => h7 (Or.inl h), by
        rcases Nat.lt_or_ge (mkN (bs l)) 5 with h | h
        · exact h
        · exact absurd (Or.inr (by omega)) h7⟩
      rw [hf, if_neg h8.1, if_pos h8.2]
      exact lf6_lp F bs hn S h3 h6 h4 d f (l + 1) (by omega) (by omega) (fun i hi => by
        by_cases hi2 : i = l
        · rw [hi2]; exact h7
        · exact h5 i (by omega))
theorem fst_uniq {bs : Nat → Nat} {p q : Nat} (h1 : flawAt bs p) (h2 : ∀ i, i < p → ¬ flawAt bs i) (h3 : flawAt bs q) (h4 : ∀ i, i < q → ¬ flawAt bs i) : p = q := by
  rcases Nat.lt_trichotomy p q with h | h | h
  · exact absurd h1 (h4 p h)
  · exact h
  · exact absurd h3 (h2 q h)
theorem keep0 (F : Nat) (S : ST) {n : Nat} (hn : n ≤ 600) (hl : S.1 2 1 = nI n) : fX7_keep F S 0 = some (1, us S 2 1 0) := by
  unfold fX7_keep
  rw [if_neg (by decide), hl, if_pos (c := (0 : Int32) ≤ nI n) (nI_le (a := 0) (by omega) (by omega))]
  rfl
theorem st_leafF (F : Nat) (hF0 : 20000 ≤ F) : Sim Rel (fun S => fX10_leaf F S) (fun S => fX11_leaf F S) := by
  intro SC SM hR
  obtain ⟨hL, ⟨n, hn, t1, t2, t3⟩, hF, hG, hLf, hP, hC, hV, hPr, hPC⟩ := id hR
  obtain ⟨bs, hbs⟩ : ∃ bs : Nat → Nat, bs = fun i => ix (SM.1 2 i) := ⟨_, rfl⟩
  have hb : ∀ i, i < n → bs i < 256 ∧ SM.1 2 i = nI (bs i) := fun i hi => by
    obtain ⟨_, b, b1, b2⟩ := t3 i hi
    rw [hbs]
    show ix (SM.1 2 i) < 256 ∧ SM.1 2 i = nI (ix (SM.1 2 i))
    rw [b2, ix_nI (by omega)]
    exact ⟨b1, rfl⟩
  have hbC : ∀ i, i < n → bs i < 256 ∧ SC.1 13 i = nI (bs i) := fun i hi => ⟨(hb i hi).1, by rw [(t3 i hi).1]; exact (hb i hi).2⟩
  show ∃ r SC2 SM2, fX10_leaf F SC = _ ∧ fX11_leaf F SM = _ ∧ _
  obtain ⟨SB, hSB⟩ : ∃ SB, SB = us (us (us (us (us SM 0 9 (SM.1 0 5)) 0 5 0) 0 8 0) 0 6 0) 0 7 (-1) := ⟨_, rfl⟩
  have hM0 : fX11_leaf F SM = fX11_leaf_6 F F SB (nI 0) := by rw [hSB]; rfl
  have hM := lf6_lp F bs (n := n) hn SB (by rw [hSB]; exact t2) (by rw [hSB]; rfl) (by rw [hSB]; exact hb) n F 0 (by omega) (by omega) (fun i hi => by omega)
  have hC0 := ff_lp F SC bs hn t1 hbC n F 0 (by omega) (by omega) (fun i hi => by omega)
  rw [hM0]
  unfold fX10_leaf fX3_firstFault
  rw [show (0 : Int32) = nI 0 from rfl]
  rcases hC0 with ⟨c1, c2⟩ | ⟨q, q1, q2, q3, q4⟩
  · rw [c1]
    have hn3 : n ≤ 300 := by
      rcases Nat.lt_or_ge 300 n with h | h
      · exact absurd (Or.inl (Nat.le_refl 300)) (c2 300 h)
      · exact h
    have hm : ∀ i, i < n → mkN (bs i) < 5 := fun i hi => by
      have := mkN_le (bs i)
      have := c2 i hi
      rcases Nat.lt_or_ge (mkN (bs i)) 5 with h | h
      · exact h
      · exact absurd (Or.inr (by omega)) this
    obtain ⟨m1, m2⟩ : fX11_leaf_6 F F SB (nI 0) = fX11_leaf_59 F SB ∧ ∀ i, i < n → ¬ flawAt bs i := by
      rcases hM with h | ⟨q, q1, q2, _⟩
      · exact h
      · exact absurd q2 (c2 q q1)
    obtain ⟨g, g1, g2⟩ := lf70_lp F bs hn3 n F 0 SB (by omega) (by omega) (by rw [hSB]; exact t2) (fun i hi => ⟨(hb i hi).1, by rw [hSB]; exact (hb i hi).2, hm i hi⟩) (fun i hi => by omega)
    have hm59 : fX11_leaf_59 F SB = fX11_leaf_70 F F SB (nI 0) := by
      unfold fX11_leaf_59
      rw [if_pos (show SB.1 0 6 ≤ 0 by rw [hSB]; exact Int32.le_refl _)]
      rfl
    obtain ⟨n0, mk0, l1, l2, l3, l4, z1, z2, z3, z4, z5, l5⟩ := hLf
    obtain ⟨S2, e1, e2, e3⟩ := tk_lp F bs hn3 n F 0 (us (us (us SC 0 9 (-1)) 0 8 0) 7 5 (nI n)) (by omega) (by omega) rfl t1 (fun i hi => ⟨(hb i hi).1, (hbC i hi).2, hm i hi⟩) (fun i hi => by
      have : i = 0 := by omega
      subst this
      exact ⟨z1, z2, z3, z4, z5⟩)
    have k1 : S2.1 2 1 = nI n := by rw [e3 2 (by decide)]; exact t1
    have hjm : jmin (nI n) 300 = nI n := by
      unfold jmin
      rw [if_neg (c := (300 : Int32) < nI n) (nI_nlt (a := 300) hn3 (by omega))]
    refine ⟨nI n, us (us S2 9 11 1) 2 1 0, us (fun a => if a = 14 then g else SB.1 a, SB.2) 0 32 (nI n), ?_, ?_, ?_⟩
    · show fX10_leaf_25 F (us SC 0 9 (-1)) 0 = _
      unfold fX10_leaf_25 fX3_take
      show Option.bind (fX3_take_16 F F (us (us (us SC 0 9 (-1)) 0 8 0) 7 5 (jmin (SC.1 2 1) 300)) (nI 0)) _ = _
      rw [t1, hjm, e1]
      show fX10_leaf_53 F (us S2 9 11 1) = _
      unfold fX10_leaf_53
      rw [keep0 F (us S2 9 11 1) hn k1]
      have k2 : S2.1 0 8 = 0 := by rw [e3 0 (by decide)]; rfl
      have k3 : S2.1 7 5 = nI n := by rw [e3 7 (by decide)]; rfl
      show (if S2.1 0 8 = 0 then some (S2.1 7 5, us (us S2 9 11 1) 2 1 0) else _) = _
      rw [k2, if_pos rfl, k3]
    · rw [m1, hm59, g1]
    · have f0 : ∀ a, a ∉ [26, 27, 28, 29, 30] → a ≠ 2 → a ≠ 9 → a ≠ 0 → a ≠ 7 → (us (us S2 9 11 1) 2 1 0).1 a = SC.1 a := fun a h1 h2 h3 h4 h5 => by
        rw [us_row, if_neg h2, us_row, if_neg h3, e3 a h1, us_row, if_neg h5, us_row, if_neg h4, us_row, if_neg h4]
      have f9 : ∀ j, j ≠ 11 → (us (us S2 9 11 1) 2 1 0).1 9 j = SC.1 9 j := fun j hj => by
        show (us S2 9 11 1).1 9 j = _
        rw [us_rd, if_pos rfl, if_neg hj, e3 9 (by decide)]
        rfl
      subst hSB
      refine ⟨hL.fr (f0 12 (by decide) (by decide) (by decide) (by decide) (by decide)) (f0 1 (by decide) (by decide) (by decide) (by decide) (by decide)) rfl, ⟨0, by omega, rfl, rfl, fun i hi => by omega⟩, ⟨?_, ?_⟩, hG.fr (by rw [f0 6 (by decide) (by decide) (by decide) (by decide) (by decide)]) (f0 21 (by decide) (by decide) (by decide) (by decide) (by decide)) (f0 22 (by decide) (by decide) (by decide) (by decide) (by decide)) (f0 23 (by decide) (by decide) (by decide) (by decide) (by decide)) (f0 24 (by decide) (by decide) (by decide) (by decide) (by decide)) rfl rfl rfl rfl rfl rfl, ?_, hP.fr (f9 8 (by decide)) (f9 9 (by decide)) rfl rfl, fun h => absurd h z10, hV.fr (f0 37 (by decide) (by decide) (by decide) (by decide) (by decide)) (f0 38 (by decide) (by decide) (by decide) (by decide) (by decide)) (f0 39 (by decide) (by decide) (by decide) (by decide) (by decide)) (f0 40 (by decide) (by decide) (by decide) (by decide) (by decide)) rfl rfl rfl rfl, hPr.fr (f0 11 (by decide) (by decide) (by decide) (by decide) (by decide)) (f0 41 (by decide) (by decide) (by decide) (by decide) (by decide)) (f0 42 (by decide) (by decide) (by decide) (by decide) (by decide)) rfl rfl rfl rfl rfl rfl rfl, hPC.fr (f0 11 (by decide) (by decide) (by decide) (by decide) (by decide)) (f0 41 (by decide) (by decide) (by decide) (by decide) (by decide)) (f0 42 (by decide) (by decide) (by decide) (by decide) (by decide)) (f0 46 (by decide) (by decide) (by decide) (by decide) (by decide)) (f0 47 (by decide) (by decide) (by decide) (by decide) (by decide)) (f0 48 (by decide) (by decide) (by decide) (by decide) (by decide))⟩
      · show S2.1 0 8 = 0
        rw [e3 0 (by decide)]; rfl
      · show S2.1 0 9 = -1
        rw [e3 0 (by decide)]; rfl
      · have p0 := e2 0 (by omega)
        refine ⟨n, fun i => mkN (bs i), hn3, ?_, rfl, fun i hi => ⟨hm i hi, g2 i hi⟩, p0.1, p0.2.1, p0.2.2.1, p0.2.2.2.1, p0.2.2.2.2, e2⟩
        show S2.1 7 5 = nI n
        rw [e3 7 (by decide)]; rfl
  · rw [q4]
    obtain ⟨p, p1, p2, p3, p4⟩ : ∃ q, q < n ∧ flawAt bs q ∧ (∀ i, i < q → ¬ flawAt bs i) ∧ fX11_leaf_6 F F SB (nI 0) = some (-1, us (us SB 0 6 1) 0 7 (nI q)) := by
      rcases hM with ⟨_, h⟩ | h
      · exact absurd q2 (h q q1)
      · exact h
    have e := fst_uniq q2 q3 p2 p3
    subst e
    refine ⟨-1, us (us (us SC 0 9 (nI q)) 0 8 1) 2 1 0, us (us SB 0 6 1) 0 7 (nI q), ?_, p4, ?_⟩
    · show (if nI q = -1 then _ else fX10_leaf_25 F (us SC 0 9 (nI q)) 1) = _
      rw [if_neg (fun h => by have := congrArg Int32.toInt h; rw [i_lit (by omega)] at this; simp at this)]
      unfold fX10_leaf_25
      show fX10_leaf_53 F (us (us SC 0 9 (nI q)) 0 8 1) = _
      unfold fX10_leaf_53
      rw [keep0 F _ hn (show (us (us SC 0 9 (nI q)) 0 8 1).1 2 1 = nI n from t1)]
      rfl
    · subst hSB
      exact ⟨hL.fr rfl rfl rfl, ⟨0, by omega, rfl, rfl, fun i hi => by omega⟩, ⟨rfl, rfl⟩, hG.fr rfl rfl rfl rfl rfl rfl rfl rfl rfl rfl rfl, hLf.fr rfl rfl rfl rfl rfl rfl rfl rfl, hP.fr rfl rfl rfl rfl, hC.fr rfl rfl rfl rfl rfl rfl rfl rfl rfl rfl rfl rfl rfl rfl rfl rfl, hV.fr rfl rfl rfl rfl rfl rfl rfl rfl, hPr.fr rfl rfl rfl rfl rfl rfl rfl rfl rfl rfl, hPC.fr rfl rfl rfl rfl rfl rfl⟩
theorem st_leaf : Sim Rel (fun S => fX10_leaf FU S) (fun S => fX11_leaf FU S) := st_leafF FU (Nat.le_refl _)
