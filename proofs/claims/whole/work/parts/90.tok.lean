section TOK
variable (b : Nat → Nat) (n : Nat)
def dgB (p : Nat) : Bool := decide (p < n ∧ 48 ≤ b p ∧ b p ≤ 57)
def ltB (p : Nat) : Bool := decide (p < n ∧ 97 ≤ b p ∧ b p ≤ 122)
def blB (p : Nat) : Bool := decide (p < n ∧ (b p = 32 ∨ b p = 10))
def enR (Q : Nat → Bool) : Nat → Nat → Nat
  | 0, p => p
  | d + 1, p => if Q p = true then enR Q d (p + 1) else p
def enT (Q : Nat → Bool) (p : Nat) : Nat := enR Q (n - p) p
theorem enR_ge (Q : Nat → Bool) : ∀ d p, p ≤ enR Q d p ∧ enR Q d p ≤ p + d
  | 0, p => ⟨Nat.le_refl _, Nat.le_refl _⟩
  | d + 1, p => by
    have := enR_ge Q d (p + 1)
    rw [enR]
    split <;> omega
theorem enT_ge (Q : Nat → Bool) (p : Nat) : p ≤ enT n Q p := (enR_ge Q _ p).1
theorem enT_le (Q : Nat → Bool) {p : Nat} (h : p ≤ n) : enT n Q p ≤ n := by
  have := (enR_ge Q (n - p) p).2
  unfold enT
  omega
theorem enT_y {Q : Nat → Bool} {p : Nat} (hp : p < n) (h : Q p = true) : enT n Q p = enT n Q (p + 1) := by
  unfold enT
  rw [show n - p = (n - (p + 1)) + 1 by omega, enR, if_pos h]
theorem enT_n {Q : Nat → Bool} {p : Nat} (h : Q p = false) : enT n Q p = p := by
  unfold enT
  cases e : n - p with
  | zero => rfl
  | succ d => rw [enR, if_neg (by rw [h]; decide)]
theorem enT_in {Q : Nat → Bool} : ∀ (d p : Nat) (j : Nat), n - p ≤ d → p ≤ j → j < enT n Q p → Q j = true
  | 0, p, j, h1, h2, h3 => by
    unfold enT at h3
    rw [show n - p = 0 by omega] at h3
    have h4 : j < p := h3
    omega
  | d + 1, p, j, h1, h2, h3 => by
    cases hq : Q p with
    | false => rw [enT_n n hq] at h3; omega
    | true =>
      by_cases hp : p < n
      · rw [enT_y n hp hq] at h3
        by_cases e : j = p
        · rw [e]; exact hq
        · exact enT_in d (p + 1) j (by omega) (by omega) h3
      · unfold enT at h3
        rw [show n - p = 0 by omega] at h3
        have h4 : j < p := h3
        omega
theorem enT_out {Q : Nat → Bool} (hQ : ∀ p, Q p = true → p < n) : ∀ (d p : Nat), n - p ≤ d → Q (enT n Q p) = false
  | 0, p, h1 => by
    have e : enT n Q p = p := by
      unfold enT
      rw [show n - p = 0 by omega]
      rfl
    rw [e]
    cases hq : Q p with
    | false => rfl
    | true => have := hQ p hq; omega
  | d + 1, p, h1 => by
    cases hq : Q p with
    | false => rw [enT_n n hq]; exact hq
    | true =>
      have hp := hQ p hq
      rw [enT_y n hp hq]
      exact enT_out hQ d (p + 1) (by omega)
theorem enT_idem {Q : Nat → Bool} (hQ : ∀ p, Q p = true → p < n) (p : Nat) : enT n Q (enT n Q p) = enT n Q p := enT_n n (enT_out n hQ (n - p) p (Nat.le_refl _))
theorem dg_n {p : Nat} (h : dgB b n p = true) : p < n := by
  unfold dgB at h
  rw [decide_eq_true_eq] at h
  exact h.1
theorem lt_n {p : Nat} (h : ltB b n p = true) : p < n := by
  unfold ltB at h
  rw [decide_eq_true_eq] at h
  exact h.1
theorem bl_n {p : Nat} (h : blB b n p = true) : p < n := by
  unfold blB at h
  rw [decide_eq_true_eq] at h
  exact h.1
def nvN (p : Nat) : Nat → Nat
  | 0 => 0
  | k + 1 => nvN p k * 10 + (b (p + k) - 48)
def pkF (f : Nat → Nat) : Nat → Nat
  | 0 => 0
  | k + 1 => pkF f k * 256 + f k
theorem pkF_inj {f g : Nat → Nat} (hf : ∀ j, 1 ≤ f j ∧ f j < 256) (hg : ∀ j, 1 ≤ g j ∧ g j < 256) : ∀ (k l : Nat), pkF f k = pkF g l → k = l ∧ ∀ j, j < k → f j = g j
  | 0, 0, _ => ⟨rfl, fun j h => by omega⟩
  | 0, l + 1, h => by
    have := hg l
    rw [pkF, pkF] at h
    omega
  | k + 1, 0, h => by
    have := hf k
    rw [pkF, pkF] at h
    omega
  | k + 1, l + 1, h => by
    have h1 := hf k
    have h2 := hg l
    rw [pkF, pkF] at h
    obtain ⟨h3, h4⟩ := pkF_inj hf hg k l (by omega)
    subst h3
    refine ⟨rfl, fun j hj => ?_⟩
    by_cases e : j = k
    · rw [e]; omega
    · exact h4 j (by omega)
theorem pkF_congr {f g : Nat → Nat} : ∀ (k : Nat), (∀ j, j < k → f j = g j) → pkF f k = pkF g k
  | 0, _ => rfl
  | k + 1, h => by rw [pkF, pkF, pkF_congr k (fun j hj => h j (by omega)), h k (by omega)]
theorem pkF_lt {f : Nat → Nat} (hf : ∀ j, f j < 123) : ∀ (k : Nat), pkF f k < 256 ^ k ∧ (1 ≤ k → pkF f k < 123 * 256 ^ (k - 1))
  | 0 => ⟨by show 0 < 1; decide, fun h => by omega⟩
  | k + 1 => by
    have h1 := hf k
    have h2 := pkF_lt hf k
    have h3 : 256 ^ (k + 1) = 256 ^ k * 256 := Nat.pow_succ ..
    refine ⟨by rw [pkF]; omega, fun _ => ?_⟩
    rw [pkF]
    cases k with
    | zero => show 0 * 256 + f 0 < _; simp; omega
    | succ k =>
      have h4 := h2.2 (by omega)
      have h5 : 256 ^ (k + 1 + 1 - 1) = 256 ^ (k + 1 - 1) * 256 := by
        rw [show k + 1 + 1 - 1 = (k + 1 - 1) + 1 by omega, Nat.pow_succ]
      omega
def wByt : List (List Nat) := [[103, 114, 97, 100, 101], [119, 111, 114, 116, 104], [119, 104, 101, 110], [110, 111, 116], [97, 110, 100], [111, 114], [107, 110, 111, 116, 115], [115, 112, 108, 105, 116, 115], [104, 111, 108, 101, 115], [112, 108, 117, 103, 115], [114, 117, 110]]
def wLen (w : Nat) : Nat := stLen.getD w 0
def wCh (w j : Nat) : Nat := (wByt.getD w []).getD j 97
theorem wCh_b : ∀ w, w < 11 → ∀ j, j < 6 → 1 ≤ wCh w j ∧ wCh w j < 256 := by decide
def eqW (w p k : Nat) : Prop := k = wLen w ∧ ∀ j, j < k → b (p + j) = wCh w j
noncomputable def iP (p : Prop) (x y : Int32) : Int32 := @ite _ p (Classical.propDecidable _) x y
theorem iP_T {p : Prop} {x y : Int32} (h : p) : iP p x y = x := by unfold iP; rw [if_pos h]
theorem iP_F {p : Prop} {x y : Int32} (h : ¬ p) : iP p x y = y := by unfold iP; rw [if_neg h]
noncomputable def wKind (p k : Nat) : Int32 := iP (eqW b 0 p k) (-17) (iP (eqW b 1 p k) (-18) (iP (eqW b 2 p k) (-19) (iP (eqW b 3 p k) (-6) (iP (eqW b 4 p k) (-7) (iP (eqW b 5 p k) (-8) (iP (eqW b 6 p k) (-1) (iP (eqW b 7 p k) (-2) (iP (eqW b 8 p k) (-3) (iP (eqW b 9 p k) (-4) (iP (eqW b 10 p k) (-5) (-20)))))))))))
def sgnK (c : Nat) : Int32 := if c = 40 then -14 else if c = 41 then -15 else if c = 43 then -12 else if c = 45 then -13 else if c = 59 then -16 else if c = 60 then -9 else if c = 61 then -11 else if c = 62 then -10 else -21
def stopS (p : Nat) : Nat := if dgB b n p then enT n (dgB b n) p else if ltB b n p then enT n (ltB b n) p else p + 1
noncomputable def kindS (p : Nat) : Int32 := if dgB b n p then (if 4 < enT n (dgB b n) p - p ∨ ltB b n (enT n (dgB b n) p) = true then -21 else nI (nvN b p (enT n (dgB b n) p - p))) else if ltB b n p then (if enT n (ltB b n) p - p ≤ 8 then wKind b p (enT n (ltB b n) p - p) else -21) else sgnK (b p)
def nxtS (p : Nat) : Nat := enT n (blB b n) p
def tqS : Nat → Nat
  | 0 => nxtS b n 0
  | i + 1 => if tqS i < n then nxtS b n (stopS b n (tqS i)) else n
noncomputable def kdS (i : Nat) : Int32 := if tqS b n i < n then kindS b n (tqS b n i) else -22
theorem stop_gt {p : Nat} (h : p < n) : p < stopS b n p ∧ stopS b n p ≤ n := by
  unfold stopS
  by_cases c1 : dgB b n p = true
  · rw [if_pos c1, enT_y n h c1]
    exact ⟨enT_ge n _ (p + 1), enT_le n _ (by omega)⟩
  · rw [if_neg c1]
    by_cases c2 : ltB b n p = true
    · rw [if_pos c2, enT_y n h c2]
      exact ⟨enT_ge n _ (p + 1), enT_le n _ (by omega)⟩
    · rw [if_neg c2]
      omega
theorem tq_le : ∀ i, tqS b n i ≤ n
  | 0 => enT_le n _ (Nat.zero_le _)
  | i + 1 => by
    rw [tqS]
    split
    · rename_i h
      exact enT_le n _ (stop_gt b n h).2
    · exact Nat.le_refl _
theorem tq_gt {i : Nat} (h : tqS b n i < n) : tqS b n i < tqS b n (i + 1) := by
  have h1 := (stop_gt b n h).1
  have h2 : tqS b n (i + 1) = nxtS b n (stopS b n (tqS b n i)) := by rw [tqS, if_pos h]
  rw [h2]
  have := enT_ge n (blB b n) (stopS b n (tqS b n i))
  unfold nxtS
  omega
theorem tq_ge : ∀ i, (∀ k, k < i → tqS b n k < n) → i ≤ tqS b n i
  | 0, _ => Nat.zero_le _
  | i + 1, h => by
    have h1 := tq_ge i (fun k hk => h k (by omega))
    have h2 := tq_gt b n (h i (by omega))
    omega
end TOK
section TOKC
variable {b : Nat → Nat} {n : Nat}
def TP (S : ST) (b : Nat → Nat) (n : Nat) : Prop := n ≤ 600 ∧ S.1 2 1 = nI n ∧ ∀ i, i < n → S.1 13 i = nI (b i) ∧ b i < 256
def bA (b : Nat → Nat) (n i : Nat) : Int32 := if i < n then nI (b i) else -1
theorem byte_eq (F : Nat) (S : ST) (hT : TP S b n) {i : Nat} (hi : i ≤ 1000) : fX7_byteAt F S (nI i) = some (bA b n i, S) := by
  have hn := hT.1
  unfold fX7_byteAt fX7_byteAt_30 bA
  rw [if_neg (nI_pos (by omega)), hT.2.1]
  by_cases h : i < n
  · rw [if_neg (nI_ge h (by omega)), if_neg (show ¬ (600 : Int32) ≤ nI i from nI_ge (b := 600) (by omega) (by omega)), if_pos (vin_nI (by omega) (by omega)), ix_nI (by omega), (hT.2.2 i h).1, if_pos h]
  · rw [if_pos (nI_le (by omega) (by omega)), if_neg h]
theorem bA_rng {i : Nat} (hb : ∀ i, i < n → b i < 256) {lo hi : Int32} {l h : Nat} (e1 : lo.toInt = (l : Int)) (e2 : hi.toInt = (h : Int)) (hl : 1 ≤ l) : (lo ≤ bA b n i ∧ bA b n i ≤ hi) ↔ (i < n ∧ l ≤ b i ∧ b i ≤ h) := by
  unfold bA
  by_cases c : i < n
  · have := hb i c
    rw [if_pos c, i_le, i_le, i_lit (by omega), e1, e2]
    omega
  · rw [if_neg c, i_le, i_le, e1, e2]
    have : (-1 : Int32).toInt = -1 := by decide
    omega
theorem isDC (F : Nat) (S : ST) (hb : ∀ i, i < n → b i < 256) (i : Nat) : fX8_isDigit F S (bA b n i) = some (flI (dgB b n i), S) := by
  have h := bA_rng (b := b) (n := n) (i := i) hb (lo := 48) (hi := 57) (l := 48) (h := 57) (by decide) (by decide) (by omega)
  unfold fX8_isDigit
  by_cases c : i < n ∧ 48 ≤ b i ∧ b i ≤ 57
  · rw [within_T (h.mpr c), show dgB b n i = true from decide_eq_true c]
    exact bz a1_1
  · rw [within_F (fun g => c (h.mp g)), show dgB b n i = false from decide_eq_false c]
    exact bz a1_0
theorem isLC (F : Nat) (S : ST) (hb : ∀ i, i < n → b i < 256) (i : Nat) : fX8_isLetter F S (bA b n i) = some (flI (ltB b n i), S) := by
  have h := bA_rng (b := b) (n := n) (i := i) hb (lo := 97) (hi := 122) (l := 97) (h := 122) (by decide) (by decide) (by omega)
  unfold fX8_isLetter
  by_cases c : i < n ∧ 97 ≤ b i ∧ b i ≤ 122
  · rw [within_T (h.mpr c), show ltB b n i = true from decide_eq_true c]
    exact bz a1_1
  · rw [within_F (fun g => c (h.mp g)), show ltB b n i = false from decide_eq_false c]
    exact bz a1_0
theorem fl0 {c : Bool} : flI c = 0 ↔ c = false := by
  cases c <;> simp [flI]
theorem flT : ¬ flI true = 0 := by decide
theorem flF : flI false = 0 := rfl
theorem TP.byt {S : ST} (h : TP S b n) : ∀ i, i < n → b i < 256 := fun i hi => (h.2.2 i hi).2
theorem end13 (F : Nat) (S : ST) (hT : TP S b n) : ∀ (d f p : Nat), n - p ≤ d → p ≤ n → d < f → fX8_endAt_13 F f S (nI p) = some (nI (enT n (dgB b n) p), S)
  | 0, f + 1, p, h1, h2, h3 => by
    have e : p = n := by omega
    subst e
    have hn := hT.1
    rw [fX8_endAt_13, hT.2.1, if_pos (nI_le (by omega) (by omega)), enT_n p (by unfold dgB; simp)]
  | d + 1, f + 1, p, h1, h2, h3 => by
    have hn := hT.1
    rw [fX8_endAt_13, hT.2.1]
    by_cases e : p = n
    · rw [if_pos (nI_le (by omega) (by omega)), enT_n n (by unfold dgB; rw [decide_eq_false_iff_not]; omega)]
    · rw [if_neg (nI_ge (by omega) (by omega)), byte_eq F S hT (by omega), Option.bind_some, isDC F S hT.byt p, Option.bind_some]
      cases hq : dgB b n p with
      | false => rw [if_pos flF, enT_n n hq]
      | true =>
        rw [if_neg flT, nI_1, end13 F S hT d f (p + 1) (by omega) (by omega) (by omega), ← enT_y n (by omega) hq]
theorem end40 (F : Nat) (S : ST) (hT : TP S b n) : ∀ (d f p : Nat), n - p ≤ d → p ≤ n → d < f → fX8_endAt_40 F f S (nI p) = some (nI (enT n (ltB b n) p), S)
  | 0, f + 1, p, h1, h2, h3 => by
    have e : p = n := by omega
    subst e
    have hn := hT.1
    rw [fX8_endAt_40, hT.2.1, if_pos (nI_le (by omega) (by omega)), enT_n p (by unfold ltB; simp)]
  | d + 1, f + 1, p, h1, h2, h3 => by
    have hn := hT.1
    rw [fX8_endAt_40, hT.2.1]
    by_cases e : p = n
    · rw [if_pos (nI_le (by omega) (by omega)), enT_n n (by unfold ltB; rw [decide_eq_false_iff_not]; omega)]
    · rw [if_neg (nI_ge (by omega) (by omega)), byte_eq F S hT (by omega), Option.bind_some, isLC F S hT.byt p, Option.bind_some]
      cases hq : ltB b n p with
      | false => rw [if_pos flF, enT_n n hq]
      | true =>
        rw [if_neg flT, nI_1, end40 F S hT d f (p + 1) (by omega) (by omega) (by omega), ← enT_y n (by omega) hq]
theorem not_dl {p : Nat} (h : dgB b n p = true) : ltB b n p = false := by
  unfold dgB at h
  unfold ltB
  rw [decide_eq_true_eq] at h
  rw [decide_eq_false_iff_not]
  omega
theorem endAt_eq (F : Nat) (hF : 1000 ≤ F) (S : ST) (hT : TP S b n) {p : Nat} (hp : p < n) : ∃ q, fX8_endAt F S (nI p) = some (nI q, S) ∧ max q (p + 1) = stopS b n p ∧ q ≤ 600 := by
  have hn := hT.1
  unfold fX8_endAt stopS
  rw [byte_eq F S hT (by omega), Option.bind_some, isDC F S hT.byt p, Option.bind_some]
  cases hq : dgB b n p with
  | false =>
    rw [if_pos flF, if_neg (by decide)]
    refine ⟨_, end40 F S hT n F p (by omega) (by omega) (by omega), ?_, by have := enT_le n (ltB b n) (p := p) (by omega); omega⟩
    cases hl : ltB b n p with
    | false => rw [enT_n n hl, if_neg (by decide)]; omega
    | true =>
      rw [if_pos rfl, enT_y n hp hl]
      have := enT_ge n (ltB b n) (p + 1)
      omega
  | true =>
    rw [if_neg flT, if_pos rfl]
    refine ⟨_, end13 F S hT n F p (by omega) (by omega) (by omega), ?_, by have := enT_le n (dgB b n) (p := p) (by omega); omega⟩
    rw [enT_y n hp hq]
    have := enT_ge n (dgB b n) (p + 1)
    omega
end TOKC
