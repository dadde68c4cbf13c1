def sumG (f : Nat → Int32) (L : Nat → Nat) : Nat → Int32
  | 0 => 0
  | n + 1 => sumG f L n + f (L n)
def sN (f : Nat → Nat) (L : Nat → Nat) : Nat → Nat
  | 0 => 0
  | n + 1 => sN f L n + f (L n)
theorem sumG_nI {g : Nat → Int32} {f : Nat → Nat} {L : Nat → Nat} (h : ∀ k, g (L k) = nI (f (L k))) : ∀ n, sumG g L n = nI (sN f L n)
  | 0 => rfl
  | n + 1 => by rw [sumG, sN, sumG_nI h n, h n, nI_add]
theorem msumG_lp (F : Nat) (S : ST) (w : Int32) {L : Nat → Nat} {n : Nat} (hn : n ≤ 9) (ho : ∀ k, L k < 6) (hS : ∀ j, j < n → S.1 26 j = nI (L j)) : ∀ (d f l : Nat), d + l = n → d < f → fX11_sum_5 F f S (nI n) w (sumG (mterm S w) L l) (nI l) = some (sumG (mterm S w) L n, S)
  | 0, f + 1, l, h1, h2 => by
    have e : l = n := by omega
    rw [fX11_sum_5, if_pos (nI_le (by omega) (by omega)), e]
  | d + 1, f + 1, l, h1, h2 => by
    have h6 := ho l
    have hv : vin (nI l) 9 = true := vin_nI (by omega) (by omega)
    have hv2 : vin (nI (L l)) 6 = true := vin_nI h6 (by omega)
    have ih := msumG_lp F S w hn ho hS d f (l + 1) (by omega) (by omega)
    rw [fX11_sum_5, if_neg (nI_ge (by omega) (by omega)), ix_nI (by omega), hS l (by omega), ix_nI (by omega)]
    by_cases h3 : w = 2
    · rw [if_pos h3, if_pos hv, if_pos hv2]
      show fX11_sum_5 F f S (nI n) w (sumG (mterm S w) L l + S.1 25 (L l)) (nI l + 1) = _
      rw [nI_1, ← ih, sumG, mterm, if_pos h3]
    · rw [if_neg h3, if_pos hv, if_pos hv2]
      by_cases h4 : w = 0
      · rw [if_pos h4, if_pos hv, if_pos hv2]
        show fX11_sum_5 F f S (nI n) w (sumG (mterm S w) L l + (S.1 23 (L l) + -(S.1 24 (L l)))) (nI l + 1) = _
        rw [nI_1, ← ih, sumG, mterm, if_neg h3, if_pos h4]
      · rw [if_neg h4, if_pos hv, if_pos hv2]
        show fX11_sum_5 F f S (nI n) w (sumG (mterm S w) L l + (S.1 23 (L l) + S.1 24 (L l))) (nI l + 1) = _
        rw [nI_1, ← ih, sumG, mterm, if_neg h3, if_neg h4]
theorem msumG_eq (F : Nat) (hF : 100 ≤ F) (S : ST) (w : Int32) {L : Nat → Nat} {n : Nat} (hn : n ≤ 9) (ho : ∀ k, L k < 6) (hS : ∀ j, j < n → S.1 26 j = nI (L j)) : fX11_sum F S (nI n) w = some (sumG (mterm S w) L n, S) := msumG_lp F S w hn ho hS n F 0 (by omega) (by omega)
theorem sN_mir (f : Nat → Nat) (m : Nat) (hm : m ≤ 4) (c : Nat → Nat) : sN f (mir m c) (2 * m + 1) = pS f m c (m + 1) := by
  rcases (show m = 0 ∨ m = 1 ∨ m = 2 ∨ m = 3 ∨ m = 4 by omega) with rfl | rfl | rfl | rfl | rfl
  all_goals
    simp [sN, pS, tmk, mir]
    try omega
theorem mir_lt {m : Nat} {c : Nat → Nat} {M : Nat} (h : ∀ k, c k < M) (k : Nat) : mir m c k < M := by
  unfold mir
  split <;> exact h _
def frB (S S2 : ST) : Prop := ∀ a, a ≠ 26 → S2.1 a = S.1 a
def VT (S : ST) (t o p : Nat → Nat) (fr : Nat → Int32) : Prop := ∀ k, k < 6 → 1 ≤ t k ∧ t k ≤ 90 ∧ o k ≤ 20 ∧ o k ≤ t k ∧ p k ≤ 1000 ∧ S.1 23 k = nI (t k) ∧ S.1 24 k = nI (o k) ∧ S.1 25 k = nI (p k) ∧ S.1 27 k = fr k
theorem dec_lp (F : Nat) (k61 : ST → Int32 → Int32 → Int32 → Int32 → Int32 → Int32 → Int32 → Int32 → Option (Int32 × ST)) {m w : Nat} (hm : m ≤ 4) (hw : w < 10000) (x2 x3 x4 x5 x6 x7 x8 : Int32) : ∀ (k f : Nat) (S : ST), k ≤ m + 1 → k < f → (∀ j, k ≤ j → j ≤ m → S.1 26 j = nI (wd m w j) ∧ S.1 26 (2 * m - j) = nI (wd m w j)) → ∃ S2 z f2, fX11_best_78 F k61 f S (nI (2 * m + 1)) x2 x3 x4 x5 x6 x7 x8 (nI (w / 6 ^ (m + 1 - k))) (nI k - 1) = fX11_best_78 F k61 (f2 + 1) S2 (nI (2 * m + 1)) x2 x3 x4 x5 x6 x7 x8 z (-1) ∧ (∀ j, j ≤ m → S2.1 26 j = nI (wd m w j) ∧ S2.1 26 (2 * m - j) = nI (wd m w j)) ∧ frB S S2
  | 0, f + 1, S, h1, h2, h3 => ⟨S, nI (w / 6 ^ (m + 1 - 0)), f, by rw [show nI 0 - 1 = -1 by decide], fun j hj => h3 j (by omega) hj, fun _ _ => rfl⟩
  | k + 1, f + 1, S, h1, h2, h3 => by
    have hq : w / 6 ^ (m + 1 - (k + 1)) < 10000 := Nat.lt_of_le_of_lt (Nat.div_le_self _ _) hw
    have e1 : nI (k + 1) - 1 = nI k := nI_pred k
    have e2 : nI (2 * m + 1) - 1 - nI k = nI (2 * m - k) := by rw [nI_pred, pk_sub (by omega)]
    have e3 : nI (w / 6 ^ (m + 1 - (k + 1))) - nI (w / 6 ^ (m + 1 - (k + 1))) / 6 * 6 = nI (wd m w k) := by
      rw [show (6 : Int32) = nI 6 from rfl, pk_rem (by omega) (by omega) (by omega)]
      rw [show m + 1 - (k + 1) = m + 1 - 1 - k by omega]
      rfl
    have e4 : nI (w / 6 ^ (m + 1 - (k + 1))) / 6 = nI (w / 6 ^ (m + 1 - k)) := by
      rw [show (6 : Int32) = nI 6 from rfl, pk_div (by omega) (by omega) (by omega), Nat.div_div_eq_div_mul, show m + 1 - k = (m + 1 - (k + 1)) + 1 by omega, Nat.pow_succ]
    have hgood : ∀ j, k ≤ j → j ≤ m → (us (us S 26 k (nI (wd m w k))) 26 (2 * m - k) (nI (wd m w k))).1 26 j = nI (wd m w j) ∧ (us (us S 26 k (nI (wd m w k))) 26 (2 * m - k) (nI (wd m w k))).1 26 (2 * m - j) = nI (wd m w j) := fun j h4 h5 => by
      rw [us_rd, if_pos rfl, us_rd, if_pos rfl, us_rd, if_pos rfl, us_rd, if_pos rfl]
      by_cases hj : j = k
      · subst hj
        rw [if_pos rfl, if_pos rfl]
        refine ⟨?_, rfl⟩
        split <;> rfl
      · have h6 := h3 j (by omega) h5
        rw [if_neg (show ¬ j = k from hj), if_neg (show ¬ j = 2 * m - k by omega), if_neg (show ¬ 2 * m - j = 2 * m - k by omega), if_neg (show ¬ 2 * m - j = k by omega)]
        exact h6
    obtain ⟨S2, z, f2, c1, c2, c3⟩ := dec_lp F k61 hm hw x2 x3 x4 x5 x6 x7 x8 k f (us (us S 26 k (nI (wd m w k))) 26 (2 * m - k) (nI (wd m w k))) (by omega) (by omega) hgood
    refine ⟨S2, z, f2, ?_, c2, fun a ha => by rw [c3 a ha]; simp [us_row, ha]⟩
    rw [fX11_best_78, e1, if_neg (nI_pos (by omega)), if_pos (vin_nI (by omega) (by omega)), e2, e3, e4, ix_nI (by omega)]
    show (if vin (nI (2 * m - k)) 9 = true then fX11_best_78 F k61 f (us (us S 26 k (nI (wd m w k))) 26 (ix (nI (2 * m - k))) (nI (wd m w k))) _ _ _ _ _ _ _ _ _ (nI k + -1) else none) = _
    rw [if_pos (vin_nI (by omega) (by omega)), ix_nI (by omega), show nI k + -1 = nI k - 1 by grind]
    exact c1
theorem or_lp (F : Nat) (k61 : ST → Int32 → Int32 → Int32 → Int32 → Int32 → Int32 → Int32 → Int32 → Option (Int32 × ST)) (S : ST) {n : Nat} {L : Nat → Nat} (hn : n ≤ 9) (hS : ∀ j, j < n → S.1 26 j = nI (L j)) (x2 x3 x4 x5 x7 x8 : Int32) : ∀ (d f k : Nat), d + k = n → d < f → fX11_best_191 F k61 f S (nI n) x2 x3 x4 x5 (mK L k) x7 x8 (nI k) = k61 S (nI n) x2 x3 x4 x5 (mK L n) x7 (x8 + 1)
  | 0, f + 1, k, h1, h2 => by
    have e : k = n := by omega
    rw [fX11_best_191, if_pos (nI_le (by omega) (by omega)), e]
  | d + 1, f + 1, k, h1, h2 => by
    rw [fX11_best_191, if_neg (nI_ge (by omega) (by omega)), if_pos (vin_nI (by omega) (by omega)), ix_nI (by omega), hS k (by omega), show (3 : Int32) * nI k = nI (3 * k) from pk_mul 3 k, nI_1]
    exact or_lp F k61 S hn hS x2 x3 x4 x5 x7 x8 d f (k + 1) (by omega) (by omega)
def encM (m : Nat) (b : Option (Nat × Nat)) (x6 x7 : Int32) : Prop := (b = none ∧ x6 = -1) ∨ ∃ q, b = some q ∧ x6 = mK (mir m (wd m q.2)) (2 * m + 1) ∧ x7 = nI q.1 ∧ q.1 < 100000
theorem wd_lt (m w k : Nat) : wd m w k < 6 := dg6_lt _ _ _
theorem bM_end (F : Nat) (hF : 100 ≤ F) (k61 : ST → Int32 → Int32 → Int32 → Int32 → Int32 → Int32 → Int32 → Int32 → Option (Int32 × ST)) {m w f2 : Nat} (hm : m ≤ 4) {t o p : Nat → Nat} {fr : Nat → Int32} (S : ST) (hV : VT S t o p fr) (hS : ∀ j, j ≤ m → S.1 26 j = nI (wd m w j) ∧ S.1 26 (2 * m - j) = nI (wd m w j)) (lo hi x4 x5 x6 x7 z : Int32) (b : Option (Nat × Nat)) (hb : encM m b x6 x7) : ∃ y6 y7, fX11_best_78 F k61 (f2 + 1) S (nI (2 * m + 1)) lo hi x4 x5 x6 x7 (nI w) z (-1) = k61 S (nI (2 * m + 1)) lo hi x4 x5 y6 y7 (nI (w + 1)) ∧ encM m (bstep m t o p fr lo.toInt hi.toInt b w) y6 y7 := by
  have hL : ∀ j, j < 2 * m + 1 → S.1 26 j = nI (mir m (wd m w) j) := fun j hj => by
    unfold mir
    by_cases h : j ≤ m
    · rw [if_pos h]; exact (hS j h).1
    · rw [if_neg h]
      have := (hS (2 * m - j) (by omega)).2
      rw [show 2 * m - (2 * m - j) = j by omega] at this
      exact this
  have hl6 : ∀ k, mir m (wd m w) k < 6 := fun k => mir_lt (fun k => wd_lt m w k) k
  have s2 := msumG_eq F hF S 2 (show 2 * m + 1 ≤ 9 by omega) hl6 hL
  have s0 := msumG_eq F hF S 0 (show 2 * m + 1 ≤ 9 by omega) hl6 hL
  have s1 := msumG_eq F hF S 1 (show 2 * m + 1 ≤ 9 by omega) hl6 hL
  have v2 : sumG (mterm S 2) (mir m (wd m w)) (2 * m + 1) = nI (prW m p w) := by
    rw [sumG_nI (f := p) (fun k => ?_), sN_mir p m hm]
    · rfl
    · obtain ⟨_, _, _, _, _, _, _, a, _⟩ := hV _ (hl6 k)
      exact a
  have v0 : sumG (mterm S 0) (mir m (wd m w)) (2 * m + 1) = nI (tnW m t o w) := by
    rw [sumG_nI (f := fun k => t k - o k) (fun k => ?_), sN_mir _ m hm]
    · rfl
    · obtain ⟨_, _, _, c, _, a, a2, _, _⟩ := hV _ (hl6 k)
      show S.1 23 _ + -(S.1 24 _) = _
      rw [a, a2, ← Int32.sub_eq_add_neg, pk_sub c]
  have v1 : sumG (mterm S 1) (mir m (wd m w)) (2 * m + 1) = nI (thW m t o w) := by
    rw [sumG_nI (f := fun k => t k + o k) (fun k => ?_), sN_mir _ m hm]
    · rfl
    · obtain ⟨_, _, _, c, _, a, a2, _, _⟩ := hV _ (hl6 k)
      show S.1 23 _ + S.1 24 _ = _
      rw [a, a2, nI_add]
  have bp : prW m p w < 100000 := by
    have := pS_le (m := m) (f := p) (c := wd m w) (M := 1000) (fun k => (hV _ (wd_lt m w k)).2.2.2.2.1) (m + 1)
    show pS p m (wd m w) (m + 1) < 100000
    omega
  have bt1 : thW m t o w < 100000 := by
    have := pS_le (m := m) (f := fun k => t k + o k) (c := wd m w) (M := 110) (fun k => by have := hV _ (wd_lt m w k); show t _ + o _ ≤ 110; omega) (m + 1)
    show pS _ m (wd m w) (m + 1) < 100000
    omega
  have bt0 : tnW m t o w < 100000 := by
    have := pS_le (m := m) (f := fun k => t k - o k) (c := wd m w) (M := 110) (fun k => by have := hV _ (wd_lt m w k); show t _ - o _ ≤ 110; omega) (m + 1)
    show pS _ m (wd m w) (m + 1) < 100000
    omega
  rw [v2] at s2
  have fair : S.1 27 (wd m w 0) = fr (wd m w 0) := (hV _ (wd_lt m w 0)).2.2.2.2.2.2.2.2
  have h6 := wd_lt m w 0
  have hno : ¬ (feas m t o fr lo.toInt hi.toInt w ∧ ∀ q, b = some q → prW m p w < q.1) → encM m (bstep m t o p fr lo.toInt hi.toInt b w) x6 x7 := fun h => by
    rw [bstep, if_neg h]; exact hb
  have hyes : (feas m t o fr lo.toInt hi.toInt w ∧ ∀ q, b = some q → prW m p w < q.1) → encM m (bstep m t o p fr lo.toInt hi.toInt b w) (mK (mir m (wd m w)) (2 * m + 1)) (nI (prW m p w)) := fun h => by
    rw [bstep, if_pos h]
    exact Or.inr ⟨(prW m p w, w), rfl, rfl, rfl, bp⟩
  rw [fX11_best_78, if_pos (by decide), s2]
  show ∃ y6 y7, (if vin 0 9 = true then (if vin (S.1 26 (ix 0)) 6 = true then (if S.1 27 (ix (S.1 26 (ix 0))) = 0 then k61 S (nI (2 * m + 1)) lo hi x4 x5 x6 x7 (nI w + 1) else (fX11_sum F S (nI (2 * m + 1)) 0).bind _) else none) else none) = _ ∧ _
  rw [show ix 0 = 0 from rfl, (hS 0 (by omega)).1, ix_nI (by omega), if_pos (by decide), if_pos (vin_nI h6 (by omega)), fair, nI_1]
  by_cases c1 : fr (wd m w 0) = 0
  · rw [if_pos c1]
    exact ⟨x6, x7, rfl, hno (fun h => h.1.1 c1)⟩
  · rw [if_neg c1, s0, v0]
    show ∃ y6 y7, (if nI (tnW m t o w) < lo then k61 S (nI (2 * m + 1)) lo hi x4 x5 x6 x7 (nI (w + 1)) else (fX11_sum F S (nI (2 * m + 1)) 1).bind _) = _ ∧ _
    by_cases c2 : nI (tnW m t o w) < lo
    · rw [if_pos c2]
      refine ⟨x6, x7, rfl, hno (fun h => ?_)⟩
      rw [i_lt, i_lit (by omega)] at c2
      have := h.1.2.1
      omega
    · rw [if_neg c2, s1, v1]
      show ∃ y6 y7, (if hi < nI (thW m t o w) then k61 S (nI (2 * m + 1)) lo hi x4 x5 x6 x7 (nI (w + 1)) else (if x6 < 0 then fX11_best_181 F k61 S (nI (2 * m + 1)) lo hi x4 x5 (nI w) (nI (prW m p w)) else (if nI (prW m p w) < x7 then fX11_best_181 F k61 S (nI (2 * m + 1)) lo hi x4 x5 (nI w) (nI (prW m p w)) else k61 S (nI (2 * m + 1)) lo hi x4 x5 x6 x7 (nI (w + 1))))) = _ ∧ _
      by_cases c3 : hi < nI (thW m t o w)
      · rw [if_pos c3]
        refine ⟨x6, x7, rfl, hno (fun h => ?_)⟩
        rw [i_lt, i_lit (by omega)] at c3
        have := h.1.2.2
        omega
      · rw [if_neg c3]
        have hfe : feas m t o fr lo.toInt hi.toInt w := by
          rw [i_lt, i_lit (by omega)] at c2 c3
          exact ⟨c1, by omega, by omega⟩
        have e181 : fX11_best_181 F k61 S (nI (2 * m + 1)) lo hi x4 x5 (nI w) (nI (prW m p w)) = k61 S (nI (2 * m + 1)) lo hi x4 x5 (mK (mir m (wd m w)) (2 * m + 1)) (nI (prW m p w)) (nI (w + 1)) := by
          have := or_lp F k61 S (show 2 * m + 1 ≤ 9 by omega) hL lo hi x4 x5 (nI (prW m p w)) (nI w) (2 * m + 1) F 0 (by omega) (by omega)
          rw [nI_1] at this
          exact this
        rcases hb with ⟨rfl, rfl⟩ | ⟨q, rfl, rfl, rfl, hq⟩
        · rw [if_pos (by decide), e181]
          exact ⟨_, _, rfl, hyes ⟨hfe, fun q h => by cases h⟩⟩
        · have hnn := mK_nn (L := mir m (wd m q.2)) (fun k => by have := mir_lt (m := m) (fun k => wd_lt m q.2 k) k; omega) (show 2 * m + 1 ≤ 9 by omega)
          rw [if_neg (by rw [i_lt]; simp; omega)]
          by_cases c4 : prW m p w < q.1
          · rw [if_pos (nI_lt c4 (by omega)), e181]
            refine ⟨_, _, rfl, hyes ⟨hfe, fun q2 h => ?_⟩⟩
            cases h
            exact c4
          · rw [if_neg (nI_nlt (by omega) (by omega))]
            exact ⟨_, _, rfl, hno (fun h => c4 (h.2 q rfl))⟩
theorem bM_lp (F : Nat) (hF : 10000 ≤ F) {m : Nat} (hm : m ≤ 4) {t o p : Nat → Nat} {fr : Nat → Int32} (lo hi : Int32) : ∀ (d f w : Nat) (S : ST) (b : Option (Nat × Nat)) (x6 x7 : Int32), w + d = 6 ^ (m + 1) → d < f → VT S t o p fr → encM m b x6 x7 → ∃ S2 y7 r, fX11_best_61 F f S (nI (2 * m + 1)) lo hi (nI (m + 1)) (nI (6 ^ (m + 1))) x6 x7 (nI w) = some (r, S2) ∧ encM m (runW m t o p fr lo.toInt hi.toInt w d b) r y7 ∧ frB S S2
  | 0, f + 1, w, S, b, x6, x7, h1, h2, h3, h4 => by
    have h8 : 6 ^ (m + 1) ≤ 6 ^ 5 := Nat.pow_le_pow_right (by omega) (by omega)
    refine ⟨S, x7, x6, ?_, h4, fun _ _ => rfl⟩
    rw [fX11_best_61, if_pos (nI_le (by omega) (by omega))]
  | d + 1, f + 1, w, S, b, x6, x7, h1, h2, h3, h4 => by
    have h8 : 6 ^ (m + 1) ≤ 6 ^ 5 := Nat.pow_le_pow_right (by omega) (by omega)
    have h9 : (6 : Nat) ^ 5 = 7776 := by decide
    rw [fX11_best_61, if_neg (nI_ge (by omega) (by omega))]
    obtain ⟨S2, z, f2, c1, c2, c3⟩ := dec_lp F (fX11_best_61 F f) (w := w) hm (by omega) lo hi (nI (m + 1)) (nI (6 ^ (m + 1))) x6 x7 (nI w) (m + 1) F S (Nat.le_refl _) (by omega) (fun j h5 h6 => by omega)
    have hV2 : VT S2 t o p fr := fun k hk => by
      rw [c3 23 (by decide), c3 24 (by decide), c3 25 (by decide), c3 27 (by decide)]
      exact h3 k hk
    obtain ⟨y6, y7, e1, e2⟩ := bM_end F (by omega) (fX11_best_61 F f) (f2 := f2) hm S2 hV2 c2 lo hi (nI (m + 1)) (nI (6 ^ (m + 1))) x6 x7 z b h4
    obtain ⟨S3, z7, r, g1, g2, g3⟩ := bM_lp F hF hm lo hi d f (w + 1) S2 (bstep m t o p fr lo.toInt hi.toInt b w) y6 y7 (by omega) (by omega) hV2 e2
    refine ⟨S3, z7, r, ?_, ?_, fun a ha => by rw [g3 a ha, c3 a ha]⟩
    · rw [Nat.sub_self, Nat.pow_zero, Nat.div_one] at c1
      show fX11_best_78 F (fX11_best_61 F f) F S (nI (2 * m + 1)) lo hi (nI (m + 1)) (nI (6 ^ (m + 1))) x6 x7 (nI w) (nI w) (nI (m + 1) - 1) = _
      rw [c1, e1]
      exact g1
    · have := runW_add m t o p fr lo.toInt hi.toInt w 1 b d
      rw [Nat.add_comm d 1, this]
      exact g2
theorem b32_lp (F : Nat) {m : Nat} (hm : m ≤ 4) (S : ST) (x1 lo hi : Int32) : ∀ (d f k : Nat), k + d = m + 1 → d < f → fX11_best_32 F f S x1 lo hi (nI (m + 1)) (nI (6 ^ k)) (nI k) = fX11_best_61 F F S x1 lo hi (nI (m + 1)) (nI (6 ^ (m + 1))) (-1) 0 0
  | 0, f + 1, k, h1, h2 => by
    have e : k = m + 1 := by omega
    rw [fX11_best_32, if_pos (nI_le (by omega) (by omega)), e]
  | d + 1, f + 1, k, h1, h2 => by
    rw [fX11_best_32, if_neg (nI_ge (by omega) (by omega))]
    show fX11_best_32 F f S x1 lo hi (nI (m + 1)) (nI (6 ^ k) * 6) (nI k + 1) = _
    rw [show nI (6 ^ k) * 6 = nI (6 ^ (k + 1)) by rw [Nat.pow_succ]; exact pk_mul _ 6, nI_1]
    exact b32_lp F hm S x1 lo hi d f (k + 1) (by omega) (by omega)
theorem bestM_eq (F : Nat) (hF : 10000 ≤ F) {m : Nat} (hm : m ≤ 4) {t o p : Nat → Nat} {fr : Nat → Int32} (S : ST) (hV : VT S t o p fr) (lo hi : Int32) : ∃ S2 y7 r, fX11_best F S (nI (2 * m + 1)) lo hi = some (r, S2) ∧ encM m (runW m t o p fr lo.toInt hi.toInt 0 (6 ^ (m + 1)) none) r y7 ∧ frB S S2 := by
  have h8 : 6 ^ (m + 1) ≤ 6 ^ 5 := Nat.pow_le_pow_right (by omega) (by omega)
  have h9 : (6 : Nat) ^ 5 = 7776 := by decide
  obtain ⟨S2, y7, r, c1, c2, c3⟩ := bM_lp F hF hm lo hi (6 ^ (m + 1)) F 0 S none (-1) 0 (by omega) (by omega) hV (Or.inl ⟨rfl, rfl⟩)
  refine ⟨S2, y7, r, ?_, c2, c3⟩
  have hodd : ¬ nI (2 * m + 1) - nI (2 * m + 1) / 2 * 2 = 0 := by
    rw [show (2 : Int32) = nI 2 from rfl, pk_rem (by omega) (by omega) (by omega), show (2 * m + 1) % 2 = 1 by omega]
    decide
  have hhalf : (nI (2 * m + 1) + 1) / 2 = nI (m + 1) := by
    rw [nI_1, show (2 : Int32) = nI 2 from rfl, pk_div (by omega) (by omega) (by omega), show (2 * m + 1 + 1) / 2 = m + 1 by omega]
  unfold fX11_best
  rw [if_neg (c := nI (2 * m + 1) < 1) (nI_nlt (b := 1) (by omega) (by omega)), if_neg (c := (9 : Int32) < nI (2 * m + 1)) (nI_nlt (a := 9) (by omega) (by omega)), if_neg hodd, hhalf]
  show fX11_best_32 F F S (nI (2 * m + 1)) lo hi (nI (m + 1)) 1 0 = _
  have := b32_lp F hm S (nI (2 * m + 1)) lo hi (m + 1) F 0 (by omega) (by omega)
  rw [Nat.pow_zero] at this
  exact this.trans c1
