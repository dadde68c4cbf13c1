def dg6 (j w k : Nat) : Nat := w / 6 ^ (j - 1 - k) % 6
theorem dg6_lt (j w k : Nat) : dg6 j w k < 6 := Nat.mod_lt _ (by omega)
def tmk (m k : Nat) : Nat := if k = m then 1 else 2
def pS (f : Nat → Nat) (m : Nat) (c : Nat → Nat) : Nat → Nat
  | 0 => 0
  | l + 1 => pS f m c l + tmk m l * f (c l)
theorem pS_congr {f : Nat → Nat} {m : Nat} {c e : Nat → Nat} : ∀ {l : Nat}, (∀ k, k < l → c k = e k) → pS f m c l = pS f m e l
  | 0, _ => rfl
  | l + 1, h => by rw [pS, pS, pS_congr (fun k hk => h k (by omega)), h l (by omega)]
theorem pS_mono {f : Nat → Nat} {m : Nat} {c : Nat → Nat} {l : Nat} : ∀ (d : Nat), pS f m c l ≤ pS f m c (l + d)
  | 0 => Nat.le_refl _
  | d + 1 => by
    have := pS_mono (f := f) (m := m) (c := c) (l := l) d
    show _ ≤ pS f m c (l + d) + tmk m (l + d) * f (c (l + d))
    omega
theorem tmk_le (m k : Nat) : tmk m k ≤ 2 := by unfold tmk; split <;> omega
theorem pS_le {f : Nat → Nat} {m M : Nat} {c : Nat → Nat} (hM : ∀ k, f (c k) ≤ M) : ∀ l, pS f m c l ≤ 2 * M * l
  | 0 => Nat.le_refl _
  | l + 1 => by
    have h1 := pS_le (m := m) hM l
    have h2 : tmk m l * f (c l) ≤ 2 * M := Nat.mul_le_mul (tmk_le m l) (hM l)
    show pS f m c l + tmk m l * f (c l) ≤ 2 * M * (l + 1)
    rw [Nat.mul_add]
    omega
theorem dg6_pre {l i pre rest k : Nat} (hr : rest < 6 ^ i) (hk : k < l) : dg6 (l + i) (pre * 6 ^ i + rest) k = dg6 l pre k := by
  unfold dg6
  have e : l + i - 1 - k = i + (l - 1 - k) := by omega
  have e2 : (pre * 6 ^ i + rest) / 6 ^ i = pre := by
    rw [Nat.mul_comm, Nat.mul_add_div (Nat.pow_pos (by omega)), Nat.div_eq_of_lt hr, Nat.add_zero]
  rw [e, Nat.pow_add, ← Nat.div_div_eq_div_mul, e2]
theorem dg6_last (l pre k : Nat) (hk : k < 6) : dg6 (l + 1) (pre * 6 + k) l = k := by
  unfold dg6
  rw [show l + 1 - 1 - l = 0 by omega, Nat.pow_zero, Nat.div_one]
  omega
theorem dg6_up (l pre k q : Nat) (hk : k < 6) (hq : q < l) : dg6 (l + 1) (pre * 6 + k) q = dg6 l pre q := by
  have := dg6_pre (l := l) (i := 1) (pre := pre) (rest := k) (k := q) (by simpa using hk) hq
  rw [Nat.pow_one] at this
  exact this
section BEST
variable (m : Nat) (t o p : Nat → Nat) (fr : Nat → Int32) (lo hi : Int)
def wd (w : Nat) : Nat → Nat := dg6 (m + 1) w
def prW (w : Nat) : Nat := pS p m (wd m w) (m + 1)
def thW (w : Nat) : Nat := pS (fun k => t k + o k) m (wd m w) (m + 1)
def tnW (w : Nat) : Nat := pS (fun k => t k - o k) m (wd m w) (m + 1)
def feas (w : Nat) : Prop := ¬ fr (wd m w 0) = 0 ∧ lo ≤ (tnW m t o w : Int) ∧ (thW m t o w : Int) ≤ hi
noncomputable def bstep (b : Option (Nat × Nat)) (w : Nat) : Option (Nat × Nat) := @ite _ (feas m t o fr lo hi w ∧ ∀ q, b = some q → prW m p w < q.1) (Classical.propDecidable _) (some (prW m p w, w)) b
noncomputable def runW (a : Nat) : Nat → Option (Nat × Nat) → Option (Nat × Nat)
  | 0, b => b
  | k + 1, b => bstep m t o p fr lo hi (runW a k b) (a + k)
theorem runW_add (a k1 : Nat) (b : Option (Nat × Nat)) : ∀ k2, runW m t o p fr lo hi a (k1 + k2) b = runW m t o p fr lo hi (a + k1) k2 (runW m t o p fr lo hi a k1 b)
  | 0 => rfl
  | k2 + 1 => by
    show bstep m t o p fr lo hi (runW m t o p fr lo hi a (k1 + k2) b) (a + (k1 + k2)) = _
    rw [runW_add a k1 b k2, runW, Nat.add_assoc]
theorem runW_same (a : Nat) (b : Option (Nat × Nat)) : ∀ k, (∀ w, a ≤ w → w < a + k → ¬ (feas m t o fr lo hi w ∧ ∀ q, b = some q → prW m p w < q.1)) → runW m t o p fr lo hi a k b = b
  | 0, _ => rfl
  | k + 1, h => by
    rw [runW, runW_same a b k (fun w h1 h2 => h w h1 (by omega)), bstep, if_neg (h (a + k) (by omega) (by omega))]
end BEST
def shN (x : Int32) (k : Nat) : Int32 := x <<< (nI (3 * k) &&& 31)
def cK (m : Nat) (c : Nat → Nat) : Nat → Int32
  | 0 => 0
  | l + 1 => (cK m c l ||| shN (nI (c l)) l) ||| shN (nI (c l)) (2 * m - l)
def mK (L : Nat → Nat) : Nat → Int32
  | 0 => 0
  | k + 1 => mK L k ||| shN (nI (L k)) k
def mir (m : Nat) (c : Nat → Nat) (k : Nat) : Nat := if k ≤ m then c k else c (2 * m - k)
theorem cK_bt (m : Nat) (c : Nat → Nat) (i : Nat) : ∀ l, (bt (cK m c l) i = true ↔ ∃ k, k < l ∧ (bt (shN (nI (c k)) k) i = true ∨ bt (shN (nI (c k)) (2 * m - k)) i = true))
  | 0 => by
    rw [cK, b_0]
    constructor
    · intro h; cases h
    · rintro ⟨k, h, _⟩; omega
  | l + 1 => by
    rw [cK, b_or, b_or, Bool.or_eq_true, Bool.or_eq_true, cK_bt m c i l]
    constructor
    · rintro ((⟨k, h1, h2⟩ | h) | h)
      · exact ⟨k, by omega, h2⟩
      · exact ⟨l, by omega, Or.inl h⟩
      · exact ⟨l, by omega, Or.inr h⟩
    · rintro ⟨k, h1, h2⟩
      by_cases hk : k = l
      · subst hk
        rcases h2 with h2 | h2
        · exact Or.inl (Or.inr h2)
        · exact Or.inr h2
      · exact Or.inl (Or.inl ⟨k, by omega, h2⟩)
theorem mK_bt (L : Nat → Nat) (i : Nat) : ∀ l, (bt (mK L l) i = true ↔ ∃ k, k < l ∧ bt (shN (nI (L k)) k) i = true)
  | 0 => by
    rw [mK, b_0]
    constructor
    · intro h; cases h
    · rintro ⟨k, h, _⟩; omega
  | l + 1 => by
    rw [mK, b_or, Bool.or_eq_true, mK_bt L i l]
    constructor
    · rintro (⟨k, h1, h2⟩ | h)
      · exact ⟨k, by omega, h2⟩
      · exact ⟨l, by omega, h⟩
    · rintro ⟨k, h1, h2⟩
      by_cases hk : k = l
      · subst hk
        exact Or.inr h2
      · exact Or.inl ⟨k, by omega, h2⟩
theorem cK_mK (m : Nat) (c : Nat → Nat) : cK m c (m + 1) = mK (mir m c) (2 * m + 1) := by
  apply b_ext
  intro i hi
  rw [Bool.eq_iff_iff, cK_bt, mK_bt]
  constructor
  · rintro ⟨k, h1, h2 | h2⟩
    · exact ⟨k, by omega, by rw [mir, if_pos (by omega)]; exact h2⟩
    · refine ⟨2 * m - k, by omega, ?_⟩
      by_cases hk : k = m
      · subst hk
        rw [show 2 * k - k = k by omega] at h2 ⊢
        rw [mir, if_pos (by omega)]
        exact h2
      · rw [mir, if_neg (by omega), show 2 * m - (2 * m - k) = k by omega]
        exact h2
  · rintro ⟨k, h1, h2⟩
    by_cases hk : k ≤ m
    · rw [mir, if_pos hk] at h2
      exact ⟨k, by omega, Or.inl h2⟩
    · rw [mir, if_neg hk] at h2
      exact ⟨2 * m - k, by omega, Or.inr (by rw [show 2 * m - (2 * m - k) = k by omega]; exact h2)⟩
theorem cK_congr {m : Nat} {c e : Nat → Nat} : ∀ {l : Nat}, (∀ k, k < l → c k = e k) → cK m c l = cK m e l
  | 0, _ => rfl
  | l + 1, h => by rw [cK, cK, cK_congr (fun k hk => h k (by omega)), h l (by omega)]
theorem top_nn {x : Int32} (h : bt x 31 = false) : 0 ≤ x.toInt := by
  have h2 : x.toBitVec.msb = false := by rw [BitVec.msb_eq_getLsbD_last]; exact h
  have h3 : x.toInt = x.toBitVec.toInt := rfl
  rw [h3, BitVec.toInt_eq_toNat_of_msb h2]
  omega
theorem sm_bit {n i : Nat} (h : n < 8) (hi : 3 ≤ i) : bt (nI n) i = false := by
  have : ∀ n, n < 8 → ∀ i, i < 32 → 3 ≤ i → bt (nI n) i = false := by decide +kernel
  by_cases h2 : i < 32
  · exact this n h i h2 hi
  · exact b_big (by omega)
theorem mK_nn {L : Nat → Nat} (hL : ∀ k, L k < 8) : ∀ {l : Nat}, l ≤ 9 → 0 ≤ (mK L l).toInt := fun {l} hl => by
  apply top_nn
  cases h : bt (mK L l) 31 with
  | false => rfl
  | true =>
    obtain ⟨k, h1, h2⟩ := (mK_bt L 31 l).mp h
    rw [shN, b_shl (3 * k) (by omega) _ (by omega), sm_bit (hL k) (by omega)] at h2
    simp at h2
