def VTC (S : ST) (m : Nat) (t o p : Nat → Nat) (fr : Nat → Int32) (lo hi : Int32) : Prop := S.1 10 4 = nI (2 * m + 1) ∧ S.1 10 5 = lo ∧ S.1 10 6 = hi ∧ ∀ k, k < 6 → 1 ≤ t k ∧ t k ≤ 90 ∧ o k ≤ 20 ∧ o k ≤ t k ∧ p k ≤ 1000 ∧ S.1 37 k = nI (t k) ∧ S.1 38 k = nI (o k) ∧ S.1 39 k = nI (p k) ∧ S.1 40 k = fr k
def encC (m : Nat) (b : Option (Nat × Nat)) (S : ST) : Prop := (b = none ∧ S.1 10 7 = 9001 ∧ S.1 10 8 = -1) ∨ ∃ q, b = some q ∧ S.1 10 7 = nI q.1 ∧ S.1 10 8 = cK m (wd m q.2) (m + 1) ∧ q.1 < 100000
def frC (S S2 : ST) : Prop := (∀ a, a ≠ 10 → S2.1 a = S.1 a) ∧ (∀ s, s ≠ 7 → s ≠ 8 → S2.1 10 s = S.1 10 s) ∧ S2.2 = S.2
theorem frC_refl (S : ST) : frC S S := ⟨fun _ _ => rfl, fun _ _ _ => rfl, rfl⟩
theorem frC.tr {S S2 S3 : ST} (h : frC S S2) (g : frC S2 S3) : frC S S3 := ⟨fun a ha => (g.1 a ha).trans (h.1 a ha), fun s h1 h2 => (g.2.1 s h1 h2).trans (h.2.1 s h1 h2), g.2.2.trans h.2.2⟩
theorem VTC.fr {S S2 : ST} {m : Nat} {t o p : Nat → Nat} {fr : Nat → Int32} {lo hi : Int32} (h : VTC S m t o p fr lo hi) (g : frC S S2) : VTC S2 m t o p fr lo hi := by
  unfold VTC at *
  rw [g.2.1 4 (by decide) (by decide), g.2.1 5 (by decide) (by decide), g.2.1 6 (by decide) (by decide), g.1 37 (by decide), g.1 38 (by decide), g.1 39 (by decide), g.1 40 (by decide)]
  exact h
theorem wd_pre {m l j pre rest q : Nat} (h : l + j = m + 1) (hr : rest < 6 ^ j) (hq : q < l) : wd m (pre * 6 ^ j + rest) q = dg6 l pre q := by
  unfold wd
  rw [← h]
  exact dg6_pre hr hq
theorem in_blk {a n w : Nat} (h1 : a ≤ w) (h2 : w < a + n) : ∃ r, r < n ∧ w = a + r := ⟨w - a, by omega, by omega⟩
theorem pS_pre {f : Nat → Nat} {m l j pre rest : Nat} (h : l + j = m + 1) (hr : rest < 6 ^ j) : pS f m (dg6 l pre) l ≤ pS f m (wd m (pre * 6 ^ j + rest)) (m + 1) := by
  have h1 : pS f m (dg6 l pre) l = pS f m (wd m (pre * 6 ^ j + rest)) l := pS_congr (fun k hk => (wd_pre h hr hk).symm)
  rw [h1, ← h]
  exact pS_mono j
theorem pS_step {f : Nat → Nat} {m l pre k : Nat} (hk : k < 6) : pS f m (dg6 (l + 1) (pre * 6 + k)) (l + 1) = pS f m (dg6 l pre) l + tmk m l * f k := by
  rw [pS, dg6_last l pre k hk, pS_congr (fun q hq => dg6_up l pre k q hk hq)]
theorem cK_step {m l pre k : Nat} (hk : k < 6) : cK m (dg6 (l + 1) (pre * 6 + k)) (l + 1) = (cK m (dg6 l pre) l ||| shN (nI k) l) ||| shN (nI k) (2 * m - l) := by
  rw [cK, dg6_last l pre k hk, cK_congr (fun q hq => dg6_up l pre k q hk hq)]
section LAYC
variable {m : Nat} {t o p : Nat → Nat} {fr : Nat → Int32} {lo hi : Int32}
theorem blk_le {m : Nat} {t o p : Nat → Nat} {fr : Nat → Int32} {lo hi : Int32} {S : ST} (hV : VTC S m t o p fr lo hi) (hm : m ≤ 4) {l pre : Nat} (hl : l ≤ m + 1) : pS p m (dg6 l pre) l < 100000 ∧ pS (fun k => t k + o k) m (dg6 l pre) l < 100000 ∧ pS (fun k => t k - o k) m (dg6 l pre) l < 100000 := by
  have h1 := pS_le (m := m) (f := p) (c := dg6 l pre) (M := 1000) (fun k => (hV.2.2.2 _ (dg6_lt l pre k)).2.2.2.2.1) l
  have h2 := pS_le (m := m) (f := fun k => t k + o k) (c := dg6 l pre) (M := 110) (fun k => by have := hV.2.2.2 _ (dg6_lt l pre k); show t _ + o _ ≤ 110; omega) l
  have h3 := pS_le (m := m) (f := fun k => t k - o k) (c := dg6 l pre) (M := 110) (fun k => by have := hV.2.2.2 _ (dg6_lt l pre k); show t _ - o _ ≤ 110; omega) l
  omega
theorem pr_fine {m M : Nat} {f c : Nat → Nat} (hM : ∀ k, f (c k) ≤ M) {l : Nat} (hl : l ≤ m + 1) : pS f m c l ≤ 2 * M * m + M := by
  by_cases h : l ≤ m
  · have h1 := pS_le (m := m) hM l
    have h2 : 2 * M * l ≤ 2 * M * m := Nat.mul_le_mul_left _ h
    omega
  · have e : l = m + 1 := by omega
    subst e
    have h1 := pS_le (m := m) hM m
    have h2 := hM m
    have h3 : tmk m m = 1 := if_pos rfl
    rw [pS, h3]
    omega
theorem blk_p {m : Nat} {t o p : Nat → Nat} {fr : Nat → Int32} {lo hi : Int32} {S : ST} (hV : VTC S m t o p fr lo hi) (hm : m ≤ 4) {l pre : Nat} (hl : l ≤ m + 1) : pS p m (dg6 l pre) l ≤ 9000 := by
  have h1 := pr_fine (m := m) (f := p) (c := dg6 l pre) (M := 1000) (fun k => (hV.2.2.2 _ (dg6_lt l pre k)).2.2.2.2.1) hl
  omega
def layOK (F m : Nat) (t o p : Nat → Nat) (fr : Nat → Int32) (lo hi : Int32) (j : Nat) (lay : ST → Int32 → Int32 → Int32 → Int32 → Int32 → Option (Int32 × ST)) : Prop := ∀ (l pre : Nat) (S : ST) (b : Option (Nat × Nat)), l + j = m + 1 → (1 ≤ l → ¬ fr (dg6 l pre 0) = 0) → VTC S m t o p fr lo hi → encC m b S → ∃ S2, lay S (nI l) (nI (pS (fun k => t k - o k) m (dg6 l pre) l)) (nI (pS (fun k => t k + o k) m (dg6 l pre) l)) (nI (pS p m (dg6 l pre) l)) (cK m (dg6 l pre) l) = some (0, S2) ∧ encC m (runW m t o p fr lo.toInt hi.toInt (pre * 6 ^ j) (6 ^ j) b) S2 ∧ frC S S2
theorem kind_lp (F : Nat) (hm : m ≤ 4) (lay : ST → Int32 → Int32 → Int32 → Int32 → Int32 → Option (Int32 × ST)) {j l pre : Nat} (hlay : layOK F m t o p fr lo hi j lay) (hl : l + (j + 1) = m + 1) (hfr : 1 ≤ l → ¬ fr (dg6 l pre 0) = 0) (b : Option (Nat × Nat)) : ∀ (d f k : Nat) (S : ST), k + d = 6 → d < f → VTC S m t o p fr lo hi → encC m (runW m t o p fr lo.toInt hi.toInt (pre * 6 ^ (j + 1)) (k * 6 ^ j) b) S → ∃ S2, fX9_layP_75 F lay f S (nI l) (nI (pS (fun k => t k - o k) m (dg6 l pre) l)) (nI (pS (fun k => t k + o k) m (dg6 l pre) l)) (nI (pS p m (dg6 l pre) l)) (cK m (dg6 l pre) l) (nI (tmk m l)) (nI k) = some (0, S2) ∧ encC m (runW m t o p fr lo.toInt hi.toInt (pre * 6 ^ (j + 1)) (6 ^ (j + 1)) b) S2 ∧ frC S S2
  | 0, f + 1, k, S, h1, h2, h3, h4 => by
    have e : k = 6 := by omega
    subst e
    refine ⟨S, ?_, ?_, frC_refl S⟩
    · rw [fX9_layP_75, if_pos (by decide)]
    · rw [show 6 ^ (j + 1) = 6 * 6 ^ j by rw [Nat.pow_succ, Nat.mul_comm]] at h4 ⊢
      exact h4
  | d + 1, f + 1, k, S, h1, h2, h3, h4 => by
    have hk : k < 6 := by omega
    have ea : (pre * 6 + k) * 6 ^ j = pre * 6 ^ (j + 1) + k * 6 ^ j := by rw [Nat.add_mul, Nat.pow_succ, Nat.mul_assoc, Nat.mul_comm 6]
    have eb := runW_add m t o p fr lo.toInt hi.toInt (pre * 6 ^ (j + 1)) (k * 6 ^ j) b (6 ^ j)
    have ec : k * 6 ^ j + 6 ^ j = (k + 1) * 6 ^ j := by rw [Nat.add_mul, Nat.one_mul]
    rw [ec, ← ea] at eb
    have hV6 := h3.2.2.2 k hk
    have go : (1 ≤ l + 1 → ¬ fr (dg6 (l + 1) (pre * 6 + k) 0) = 0) → ∃ S2, fX9_layP_99 F lay (fX9_layP_75 F lay f) S (nI l) (nI (pS (fun k => t k - o k) m (dg6 l pre) l)) (nI (pS (fun k => t k + o k) m (dg6 l pre) l)) (nI (pS p m (dg6 l pre) l)) (cK m (dg6 l pre) l) (nI (tmk m l)) (nI k) = some (0, S2) ∧ encC m (runW m t o p fr lo.toInt hi.toInt (pre * 6 ^ (j + 1)) (6 ^ (j + 1)) b) S2 ∧ frC S S2 := fun hf => by
      obtain ⟨S2, c1, c2, c3⟩ := hlay (l + 1) (pre * 6 + k) S _ (by omega) hf h3 h4
      rw [← eb] at c2
      obtain ⟨S3, d1, d2, d3⟩ := kind_lp F hm lay hlay hl hfr b d f (k + 1) S2 (by omega) (by omega) (h3.fr c3) c2
      refine ⟨S3, ?_, d2, c3.tr d3⟩
      have hv : vin (nI k) 6 = true := vin_nI hk (by omega)
      unfold fX9_layP_99
      simp only [bindI]
      rw [if_pos hv, if_pos hv, if_pos hv, if_pos hv, if_pos hv, ix_nI (by omega), hV6.2.2.2.2.2.1, hV6.2.2.2.2.2.2.1, hV6.2.2.2.2.2.2.2.1, h3.1, nI_1, pk_sub (by omega), nI_add, pk_mul, pk_mul, pk_mul, nI_add, nI_add, nI_add, nI_pred, pk_sub (show l ≤ 2 * m by omega)]
      rw [show (cK m (dg6 l pre) l ||| nI k <<< (3 * nI l &&& 31)) ||| nI k <<< (3 * nI (2 * m - l) &&& 31) = cK m (dg6 (l + 1) (pre * 6 + k)) (l + 1) by rw [cK_step hk, shN, shN, ← pk_mul 3 l, ← pk_mul 3 (2 * m - l)]; rfl]
      rw [pS_step hk, pS_step hk, pS_step hk] at c1
      rw [c1]
      show fX9_layP_75 F lay f S2 _ _ _ _ _ _ (nI k + 1) = _
      rw [nI_1]
      exact d1
    rw [fX9_layP_75, if_neg (c := (6 : Int32) ≤ nI k) (nI_ge (b := 6) (by omega) (by omega))]
    by_cases hl0 : l = 0
    · subst hl0
      rw [if_pos (show nI 0 = 0 from rfl), if_pos (vin_nI hk (by omega)), ix_nI (by omega), hV6.2.2.2.2.2.2.2.2]
      have ed : dg6 (0 + 1) (pre * 6 + k) 0 = k := dg6_last 0 pre k hk
      by_cases hfk : fr k = 0
      · rw [if_pos hfk, nI_1]
        have es : runW m t o p fr lo.toInt hi.toInt (pre * 6 ^ (j + 1)) ((k + 1) * 6 ^ j) b = runW m t o p fr lo.toInt hi.toInt (pre * 6 ^ (j + 1)) (k * 6 ^ j) b := by
          rw [eb]
          apply runW_same
          intro w hw1 hw2 hh
          obtain ⟨r, hr, rfl⟩ := in_blk hw1 hw2
          have := wd_pre (m := m) (l := 0 + 1) (j := j) (pre := pre * 6 + k) (rest := r) (q := 0) (by omega) hr (by omega)
          rw [ed] at this
          exact hh.1.1 (by rw [this]; exact hfk)
        rw [← es] at h4
        exact kind_lp F hm lay hlay hl hfr b d f (k + 1) S (by omega) (by omega) h3 h4
      · rw [if_neg hfk]
        exact go (fun _ => by rw [ed]; exact hfk)
    · rw [if_neg (nI_ne0 (by omega) (by omega))]
      exact go (fun _ => by rw [dg6_up l pre k 0 hk (by omega)]; exact hfr (by omega))
theorem lay_ok (F : Nat) (hF : 100 ≤ F) (hm : m ≤ 4) : ∀ (j dd : Nat), j < dd → layOK F m t o p fr lo hi j (fX9_layD F dd)
  | j, 0, h => by omega
  | j, dd + 1, h => by
    intro l pre S b hl hfr hV he
    have bq := blk_p hV hm (l := l) (pre := pre) (by omega)
    obtain ⟨bp, bh, bn⟩ := blk_le hV hm (l := l) (pre := pre) (by omega)
    show ∃ S2, fX9_layP F (fX9_layD F dd) S _ _ _ _ _ = _ ∧ _
    unfold fX9_layP
    by_cases c1 : S.1 10 7 ≤ nI (pS p m (dg6 l pre) l)
    · rw [if_pos c1]
      refine ⟨S, rfl, ?_, frC_refl S⟩
      rw [runW_same]
      · exact he
      · intro w hw1 hw2 hh
        obtain ⟨r, hr, rfl⟩ := in_blk hw1 hw2
        have h5 := pS_pre (f := p) (pre := pre) hl hr
        rcases he with ⟨_, h6, _⟩ | ⟨q, rfl, h6, _, h7⟩
        · rw [h6, i_le, i_lit (by omega)] at c1
          have : (9001 : Int32).toInt = 9001 := by decide
          omega
        · rw [h6, i_le, i_lit (by omega), i_lit (by omega)] at c1
          have := hh.2 q rfl
          unfold prW at this
          omega
    · rw [if_neg c1]
      by_cases c2 : nI (pS (fun k => t k + o k) m (dg6 l pre) l) ≤ S.1 10 6
      · rw [if_pos c2, hV.1]
        have ev : nI (2 * m + 1) / 2 = nI m := by
          rw [show (2 : Int32) = nI 2 from rfl, pk_div (by omega) (by omega) (by omega), show (2 * m + 1) / 2 = m by omega]
        rw [ev]
        show ∃ S2, (if nI m < nI l then _ else _) = _ ∧ _
        rcases j with _ | j
        · have el : l = m + 1 := by omega
          subst el
          rw [if_pos (nI_lt (by omega) (by omega))]
          unfold fX9_layP_38
          rw [hV.2.1]
          have ew : dg6 (m + 1) pre = wd m pre := rfl
          rw [Nat.pow_zero, Nat.mul_one]
          show ∃ S2, _ ∧ encC m (bstep m t o p fr lo.toInt hi.toInt b pre) S2 ∧ _
          rw [ew] at bp bh bn c1 c2 ⊢
          by_cases c3 : nI (pS (fun k => t k - o k) m (wd m pre) (m + 1)) < lo
          · rw [if_pos c3]
            refine ⟨S, rfl, ?_, frC_refl S⟩
            rw [bstep, if_neg]
            · exact he
            · intro hh
              have := hh.1.2.1
              unfold tnW at this
              rw [i_lt, i_lit (by omega)] at c3
              omega
          · rw [if_neg c3]
            refine ⟨us (us S 10 7 (nI (pS p m (wd m pre) (m + 1)))) 10 8 (cK m (wd m pre) (m + 1)), rfl, ?_, ?_⟩
            · rw [bstep, if_pos]
              · exact Or.inr ⟨(prW m p pre, pre), rfl, rfl, rfl, bp⟩
              · refine ⟨⟨hfr (by omega), ?_, ?_⟩, ?_⟩
                · unfold tnW
                  rw [i_lt, i_lit (by omega)] at c3
                  omega
                · unfold thW
                  rw [hV.2.2.1, i_le, i_lit (by omega)] at c2
                  exact c2
                · intro q hq
                  rcases he with ⟨h5, _⟩ | ⟨q2, h5, h6, _, h7⟩
                  · rw [h5] at hq; cases hq
                  · rw [h5] at hq
                    cases hq
                    rw [h6, i_le, i_lit (by omega), i_lit (by omega)] at c1
                    unfold prW
                    omega
            · refine ⟨fun a ha => by simp [us_row, ha], fun s h5 h6 => by simp [us_rd, h5, h6], rfl⟩
        · rw [if_neg (nI_nlt (by omega) (by omega)), if_pos (c := nI l < 9) (nI_lt (b := 9) (by omega) (by omega))]
          have ih := lay_ok F hF hm j dd (by omega)
          have h0 : encC m (runW m t o p fr lo.toInt hi.toInt (pre * 6 ^ (j + 1)) (0 * 6 ^ j) b) S := by
            rw [Nat.zero_mul]; exact he
          obtain ⟨S2, d1, d2, d3⟩ := kind_lp F hm (fX9_layD F dd) ih hl hfr b 6 F 0 S (by omega) (by omega) hV h0
          refine ⟨S2, ?_, d2, d3⟩
          by_cases c4 : l = m
          · subst c4
            rw [if_pos rfl]
            rw [tmk, if_pos rfl] at d1
            exact d1
          · rw [if_neg (by rw [nI_eq (by omega) (by omega)]; exact c4)]
            rw [tmk, if_neg c4] at d1
            exact d1
      · rw [if_neg c2]
        refine ⟨S, rfl, ?_, frC_refl S⟩
        rw [runW_same]
        · exact he
        · intro w hw1 hw2 hh
          obtain ⟨r, hr, rfl⟩ := in_blk hw1 hw2
          have h5 := pS_pre (f := fun k => t k + o k) (pre := pre) hl hr
          rw [hV.2.2.1, i_le, i_lit (by omega)] at c2
          have := hh.1.2.2
          unfold thW at this
          omega
end LAYC
theorem Rel.frBest {SC SM SC2 SM2 : ST} (h : Rel SC SM) (c : ∀ a, a ≠ 10 → SC2.1 a = SC.1 a) (g : frB SM SM2) : Rel SC2 SM2 := by
  obtain ⟨hL, hT, hF, hG, hLf, hP, hC, hV, hPr, hPC⟩ := h
  have k0 := g 0 (by decide)
  refine ⟨hL.fr (c 12 (by decide)) (c 1 (by decide)) (g 1 (by decide)), hT.fr (by rw [c 2 (by decide)]) (c 13 (by decide)) (by rw [k0]) (g 2 (by decide)), hF.fr (c 0 (by decide)) (by rw [k0]) (by rw [k0]), hG.fr (by rw [c 6 (by decide)]) (c 21 (by decide)) (c 22 (by decide)) (c 23 (by decide)) (c 24 (by decide)) (by rw [k0]) (g 3 (by decide)) (g 4 (by decide)) (g 5 (by decide)) (g 6 (by decide)) (g 7 (by decide)), hLf.fr (c 7 (by decide)) (c 26 (by decide)) (c 27 (by decide)) (c 28 (by decide)) (c 29 (by decide)) (c 30 (by decide)) (by rw [k0]) (g 14 (by decide)), hP.fr (by rw [c 9 (by decide)]) (by rw [c 9 (by decide)]) (by rw [k0]) (by rw [k0]), ?_, hV.fr (c 37 (by decide)) (c 38 (by decide)) (c 39 (by decide)) (c 40 (by decide)) (g 23 (by decide)) (g 24 (by decide)) (g 25 (by decide)) (g 27 (by decide)), hPr.fr (c 11 (by decide)) (c 41 (by decide)) (c 42 (by decide)) (by rw [k0]) (g 28 (by decide)) (g 29 (by decide)) (by rw [k0]) (by rw [k0]) (by rw [k0]) (by rw [k0]), hPC.fr (c 11 (by decide)) (c 41 (by decide)) (c 42 (by decide)) (c 46 (by decide)) (c 47 (by decide)) (c 48 (by decide))⟩
  exact hC.fr (c 9 (by decide)) (by rw [c 6 (by decide)]) (c 7 (by decide)) (c 21 (by decide)) (c 22 (by decide)) (c 23 (by decide)) (c 24 (by decide)) (c 26 (by decide)) (c 27 (by decide)) (c 28 (by decide)) (c 29 (by decide)) (c 30 (by decide)) (c 32 (by decide)) (c 34 (by decide)) (c 35 (by decide)) (c 36 (by decide))
theorem best_sim (F : Nat) (hF : 10000 ≤ F) (x1 x2 x3 : Int32) : Sim Rel (fun S => fX10_best F S x1 x2 x3) (fun S => fX11_best F S x1 x2 x3) := by
  intro SC SM hR
  show ∃ r SC2 SM2, fX10_best F SC x1 x2 x3 = _ ∧ fX11_best F SM x1 x2 x3 = _ ∧ _
  by_cases h1 : 1 ≤ x1.toInt ∧ x1.toInt ≤ 9
  · obtain ⟨n, rfl, hn, hn2⟩ := i_ex (x := x1) (by omega)
    unfold fX10_best
    rw [within_T ⟨by simp [i_le]; omega, by simp [i_le]; omega⟩]
    show ∃ r SC2 SM2, (if nI n - nI n / 2 * 2 = 0 then _ else _) = _ ∧ _
    have er : nI n - nI n / 2 * 2 = nI (n % 2) := by
      rw [show (2 : Int32) = nI 2 from rfl, pk_rem (by omega) (by omega) (by omega)]
    by_cases h2 : n % 2 = 0
    · refine ⟨-1, SC, SM, ?_, ?_, hR⟩
      · rw [er, if_pos (by rw [h2]; rfl)]
      · unfold fX11_best
        rw [if_neg (c := nI n < 1) (nI_nlt (b := 1) (by omega) (by omega)), if_neg (c := (9 : Int32) < nI n) (nI_nlt (a := 9) (by omega) (by omega)), er, if_pos (by rw [h2]; rfl)]
    · obtain ⟨m, rfl⟩ : ∃ m, n = 2 * m + 1 := ⟨n / 2, by omega⟩
      rw [er, if_neg (nI_ne0 (by omega) (by omega))]
      have hm : m ≤ 4 := by omega
      have hV := hR.2.2.2.2.2.2.2.1
      obtain ⟨t, ht⟩ := Classical.axiomOfChoice (r := fun k t => k < 6 → ∃ o p : Nat, 1 ≤ t ∧ t ≤ 90 ∧ o ≤ 20 ∧ o ≤ t ∧ p ≤ 1000 ∧ SC.1 37 k = nI t ∧ SM.1 23 k = nI t ∧ SC.1 38 k = nI o ∧ SM.1 24 k = nI o ∧ SC.1 39 k = nI p ∧ SM.1 25 k = nI p ∧ SC.1 40 k = SM.1 27 k) (fun k => by
        by_cases hk : k < 6
        · obtain ⟨t, o, p, a1, a2, a3, a4, a5, a6, a7, a8, a9, a10, a11, a12, _⟩ := hV k hk
          exact ⟨t, fun _ => ⟨o, p, a1, a2, a3, a4, a5, a6, a7, a8, a9, a10, a11, a12⟩⟩
        · exact ⟨0, fun h => absurd h hk⟩)
      obtain ⟨o, ho⟩ := Classical.axiomOfChoice (r := fun k o => k < 6 → ∃ p : Nat, 1 ≤ t k ∧ t k ≤ 90 ∧ o ≤ 20 ∧ o ≤ t k ∧ p ≤ 1000 ∧ SC.1 37 k = nI (t k) ∧ SM.1 23 k = nI (t k) ∧ SC.1 38 k = nI o ∧ SM.1 24 k = nI o ∧ SC.1 39 k = nI p ∧ SM.1 25 k = nI p ∧ SC.1 40 k = SM.1 27 k) (fun k => by
        by_cases hk : k < 6
        · obtain ⟨o, p, a1⟩ := ht k hk
          exact ⟨o, fun _ => ⟨p, a1⟩⟩
        · exact ⟨0, fun h => absurd h hk⟩)
      obtain ⟨p, hp⟩ := Classical.axiomOfChoice (r := fun k p => k < 6 → 1 ≤ t k ∧ t k ≤ 90 ∧ o k ≤ 20 ∧ o k ≤ t k ∧ p ≤ 1000 ∧ SC.1 37 k = nI (t k) ∧ SM.1 23 k = nI (t k) ∧ SC.1 38 k = nI (o k) ∧ SM.1 24 k = nI (o k) ∧ SC.1 39 k = nI p ∧ SM.1 25 k = nI p ∧ SC.1 40 k = SM.1 27 k) (fun k => by
        by_cases hk : k < 6
        · obtain ⟨p, a1⟩ := ho k hk
          exact ⟨p, fun _ => a1⟩
        · exact ⟨0, fun h => absurd h hk⟩)
      have hVM : VT SM t o p (SM.1 27) := fun k hk => by
        obtain ⟨a1, a2, a3, a4, a5, a6, a7, a8, a9, a10, a11, a12⟩ := hp k hk
        exact ⟨a1, a2, a3, a4, a5, a7, a9, a11, rfl⟩
      obtain ⟨S2, y7, r, c1, c2, c3⟩ := bestM_eq F hF hm SM hVM x2 x3
      rw [c1]
      let S1 : ST := us (us (us (us (us SC 10 4 (nI (2 * m + 1))) 10 5 x2) 10 6 x3) 10 7 9001) 10 8 (-1)
      have hVC : VTC S1 m t o p (SM.1 27) x2 x3 := ⟨rfl, rfl, rfl, fun k hk => by
        obtain ⟨a1, a2, a3, a4, a5, a6, a7, a8, a9, a10, a11, a12⟩ := hp k hk
        exact ⟨a1, a2, a3, a4, a5, a6, a8, a10, a12⟩⟩
      obtain ⟨S3, d1, d2, d3⟩ := lay_ok F (by omega) hm (m + 1) 8 (by omega) 0 0 S1 none (by omega) (by omega) hVC (Or.inl ⟨rfl, rfl, rfl⟩)
      rw [Nat.zero_mul] at d2
      refine ⟨r, S3, S2, ?_, rfl, hR.frBest (fun a ha => (d3.1 a ha).trans (by simp [S1, us_row, ha])) c3⟩
      have er : S3.1 10 8 = r := by
        rcases d2 with ⟨e1, _, e2⟩ | ⟨q, e1, _, e2, _⟩
        · rcases c2 with ⟨e3, e4⟩ | ⟨q, e3, _⟩
          · rw [e2, e4]
          · rw [e1] at e3; cases e3
        · rcases c2 with ⟨e3, e4⟩ | ⟨q2, e3, e4, _⟩
          · rw [e1] at e3; cases e3
          · rw [e1] at e3
            cases e3
            rw [e2, e4, cK_mK]
      show ((fX9_cheapest F SC (nI (2 * m + 1)) x2 x3).bind _) = _
      have e9 : fX9_cheapest F SC (nI (2 * m + 1)) x2 x3 = some (r, S3) := by
        show (fX9_layD F 8 S1 (nI 0) (nI 0) (nI 0) (nI 0) 0).bind _ = _
        rw [show fX9_layD F 8 S1 (nI 0) (nI 0) (nI 0) (nI 0) 0 = _ from d1, ← er]
        rfl
      rw [e9]
      rfl
  · refine ⟨-1, SC, SM, ?_, ?_, hR⟩
    · unfold fX10_best
      rw [within_F (fun h => by simp [i_le] at h; omega)]
      rfl
    · unfold fX11_best
      by_cases h2 : x1 < 1
      · rw [if_pos h2]
      · by_cases h3 : (9 : Int32) < x1
        · rw [if_neg h2, if_pos h3]
        · exfalso
          simp [i_lt] at h2 h3
          omega
theorem st_best (x1 x2 x3 : Int32) : Sim Rel (fun S => fX10_best FU S x1 x2 x3) (fun S => fX11_best FU S x1 x2 x3) := best_sim FU (by decide) x1 x2 x3
