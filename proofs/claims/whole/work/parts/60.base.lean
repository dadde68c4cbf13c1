theorem us_rd (S : ST) (k j : Nat) (v : Int32) (a b : Nat) : (us S k j v).1 a b = if a = k then (if b = j then v else S.1 a b) else S.1 a b := by
  unfold us
  by_cases h : a = k
  · subst h
    simp [upd]
  · simp [h]
theorem us_row (S : ST) (k j : Nat) (v : Int32) (a : Nat) : (us S k j v).1 a = if a = k then upd (S.1 k) j v else S.1 a := rfl
theorem upd_rd (f : Nat → Int32) (k : Nat) (v : Int32) (b : Nat) : upd f k v b = if b = k then v else f b := rfl
theorem i_lt {a b : Int32} : a < b ↔ a.toInt < b.toInt := Int32.lt_iff_toInt_lt
theorem i_le {a b : Int32} : a ≤ b ↔ a.toInt ≤ b.toInt := Int32.le_iff_toInt_le
theorem i_eq {a b : Int32} : a = b ↔ a.toInt = b.toInt := Int32.toInt_inj.symm
theorem i_lit {n : Nat} (h : n < 2147483648) : (nI n).toInt = (n : Int) := nI_toInt h
theorem i_rng (x : Int32) : -2147483648 ≤ x.toInt ∧ x.toInt < 2147483648 := ⟨Int32.le_toInt x, Int32.toInt_lt x⟩
theorem i_ex {x : Int32} (h : 0 ≤ x.toInt) : ∃ n : Nat, x = nI n ∧ x.toInt = (n : Int) ∧ n < 2147483648 := by
  have h2 := i_rng x
  refine ⟨x.toInt.toNat, ?_, by omega, by omega⟩
  rw [i_eq, i_lit (by omega)]
  omega
theorem vin_iff {x : Int32} {n : Nat} : vin x n = true ↔ 0 ≤ x.toInt ∧ x.toInt < (n : Int) := by
  unfold vin
  rw [decide_eq_true_eq]
theorem vin_nI {k n : Nat} (h : k < n) (hn : n ≤ 2147483648) : vin (nI k) n = true := by
  rw [vin_iff, i_lit (by omega)]
  omega
theorem ix_nI {k : Nat} (h : k < 2147483648) : ix (nI k) = k := nI_clamp h
theorem ix_toInt {x : Int32} (h : 0 ≤ x.toInt) : (ix x : Int) = x.toInt := by
  obtain ⟨n, rfl, h2, h3⟩ := i_ex h
  rw [ix_nI h3, h2]
theorem nI_ix {x : Int32} (h : 0 ≤ x.toInt) : nI (ix x) = x := by
  obtain ⟨n, rfl, h2, h3⟩ := i_ex h
  rw [ix_nI h3]
theorem within_eq (F : Nat) (S : ST) (x lo hi : Int32) : fX10_within F S x lo hi = some (if lo ≤ x ∧ x ≤ hi then 1 else 0, S) := by
  unfold fX10_within fX10_within_14
  by_cases h1 : x < lo
  · rw [if_pos h1, if_neg (fun h => by rw [i_lt] at h1; rw [i_le, i_le] at h; omega)]
  · by_cases h2 : hi < x
    · rw [if_neg h1, if_pos h2, if_neg (fun h => by rw [i_lt] at h2; rw [i_le, i_le] at h; omega)]
    · rw [if_neg h1, if_neg h2, if_pos ⟨by rw [i_lt] at h1; rw [i_le]; omega, by rw [i_lt] at h2; rw [i_le]; omega⟩]
theorem within_T {F : Nat} {S : ST} {x lo hi : Int32} (h : lo ≤ x ∧ x ≤ hi) : fX10_within F S x lo hi = some (1, S) := by
  rw [within_eq, if_pos h]
theorem within_F {F : Nat} {S : ST} {x lo hi : Int32} (h : ¬ (lo ≤ x ∧ x ≤ hi)) : fX10_within F S x lo hi = some (0, S) := by
  rw [within_eq, if_neg h]
theorem bz {v : Int32} {S : ST} (h : v &&& 1 = v) : (some (v, S)).bind (fun q : Int32 × ST => if q.1 &&& 1 = q.1 then some (q.1, q.2) else none) = some (v, S) := by
  show (if v &&& 1 = v then some (v, S) else none) = _
  rw [if_pos h]
theorem a1_0 : (0 : Int32) &&& 1 = 0 := by decide
theorem a1_1 : (1 : Int32) &&& 1 = 1 := by decide
theorem z10 : ¬ (1 : Int32) = 0 := by decide
theorem in_T {α : Type} {c : Prop} [Decidable c] {a b : α} (h : c) : (if c then a else b) = a := if_pos h
theorem in_F {α : Type} {c : Prop} [Decidable c] {a b : α} (h : ¬ c) : (if c then a else b) = b := if_neg h
