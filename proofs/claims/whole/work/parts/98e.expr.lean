def DLp (X : RCx) (SC SM : ST) (i t g : Nat) (e : Nat → Nat) (c w v : Nat) : Prop := SC.1 5 5 = nI g ∧ SC.1 5 6 = nI c ∧ SM.1 0 20 = nI g ∧ SM.1 0 21 = nI c ∧ g < 8 ∧ e 0 = 0 ∧ (∀ k, k < g → e k ≤ e (k + 1)) ∧ (∀ k, k < g → LNr SC SM e k) ∧ e g ≤ c ∧ (∀ k, k < c → codeRel (SC.1 19 k) (SM.1 10 k) (SM.1 11 k)) ∧ (e g < c → tyRun (SC.1 19) (e g) (c - e g) [] = some [true]) ∧ SM.1 8 g = nI w ∧ SM.1 9 g = nI v ∧ SM.1 12 g = nI (e g) ∧ (1 ≤ w ∧ w ≤ 100 ∧ 1 ≤ v ∧ v ≤ 9999) ∧ ∃ q, c ≤ 2 * t + q ∧ 3 * q ≤ xq X i
def LineR (X : RCx) (rc lm : Option (Int32 × ST)) (k23 : ST → Option (Int32 × ST)) (g : Nat) : Prop := (∃ SC2 SM2, rc = some (0, SC2) ∧ lm = some (-1, SM2) ∧ GFL X SC2 SM2) ∨ ∃ (SC2 SM2 : ST) (i2 t2 : Nat) (e2 : Nat → Nat), rc = some (1, SC2) ∧ lm = k23 SM2 ∧ LTk X SC2 SM2 i2 t2 ∧ DLr X SC2 SM2 i2 t2 (g + 1) e2
section EXPRS
variable {X : RCx} {SC SM : ST} {i t g c w v : Nat} {e : Nat → Nat} {k23 : ST → Option (Int32 × ST)}
theorem GFC.usk (h : GFC X SC) {k : Nat} (hk : k ∈ [3, 5, 16, 17, 18, 19]) (j : Nat) (v : Int32) : GFC X (us SC k j v) := fun x hx => by
  rw [us_nx (fun e => by rw [e] at hx; exact hx hk)]
  exact h x hx
theorem e_mono (h : ∀ k, k < g → e k ≤ e (k + 1)) : ∀ d k, k + d = g → e k ≤ e g
  | 0, k, hk => by rw [show k = g by omega]; exact Nat.le_refl _
  | d + 1, k, hk => Nat.le_trans (h k (by omega)) (e_mono h d (k + 1) (by omega))
theorem DLp.nx {SC2 SM2 : ST} (h : DLp X SC SM i t g e c w v) (a : ∀ x, x ≠ 3 → SC2.1 x = SC.1 x) (f : frN SM SM2) : DLp X SC2 SM2 (i + 1) t g e c w v := by
  obtain ⟨h1, h2, h3, h4, h5, h6, h7, h8, h9, h10, h11, h12, h13, h14, h15, q, h16, h17⟩ := h
  refine ⟨by rw [a 5 (by decide)]; exact h1, by rw [a 5 (by decide)]; exact h2, by rw [f.2 20 (by decide) (by decide) (by decide) (by decide)]; exact h3, by rw [f.2 21 (by decide) (by decide) (by decide) (by decide)]; exact h4, h5, h6, h7, fun k hk => (h8 k hk).fr (by rw [a 16 (by decide)]) (by rw [a 17 (by decide)]) (by rw [a 18 (by decide)]) (fun j _ _ => by rw [a 19 (by decide)]) (by rw [f.1 8 (by decide)]) (by rw [f.1 9 (by decide)]) (by rw [f.1 12 (by decide)]), h9, ?_, ?_, by rw [f.1 8 (by decide)]; exact h12, by rw [f.1 9 (by decide)]; exact h13, by rw [f.1 12 (by decide)]; exact h14, h15, q, h16, Nat.le_trans h17 (xq_mono X i)⟩
  · rw [a 19 (by decide), f.1 10 (by decide), f.1 11 (by decide)]
    exact h10
  · rw [a 19 (by decide)]
    exact h11
theorem gr207_F (F : Nat) {φ : Int32} {S : ST} (h : S.1 0 6 = φ) (h1 : ¬ φ ≤ 0) : fX11_grades_207 F k23 S = some (-1, S) := by
  unfold fX11_grades_207
  rw [h, if_neg h1]
theorem gr186_F (F : Nat) {φ : Int32} {S : ST} (h : S.1 0 6 = φ) (h1 : ¬ φ ≤ 0) (h0 : φ ≠ 0) : fX11_grades_186 F k23 S = some (-1, S) := by
  unfold fX11_grades_186
  rw [h, if_neg h0, gr207_F F h h1]
theorem semi_eq (hX : XOK X) (F : Nat) (hF : 1000 ≤ F) (h : LTk X SC SM i t) (hD : DLp X SC SM i t g e c w v) : LineR X (fX1_readLine_78 F SC (nI w) (nI v)) (fX11_grades_186 F k23 SM) k23 g := by
  unfold fX1_readLine_78
  by_cases k : xk X i = -16
  · obtain ⟨SC2, SM2, q1, q2, q3, q4, q5⟩ := advL hX F hF h (by rw [k]; decide) (by rw [k]; decide)
    have hD2 := hD.nx q4 q5
    obtain ⟨h1, h2, h3, h4, h5, h6, h7, h8, h9, h10, h11, h12, h13, h14, h15, q, h16, h17⟩ := hD2
    have rT : fX1_readToken F SC (-16) = some (1, SC2) := by
      have := rtokT F h q1
      rw [k] at this
      exact this
    refine Or.inr ⟨us (us (us (us SC2 16 g (nI w)) 17 g (nI v)) 18 g (nI c)) 5 5 (nI (g + 1)), us SM2 0 20 (nI (g + 1)), i + 1, t, fun k => if k ≤ g then e k else c, ?_, ?_, ?_, ?_⟩
    · rw [rT, Option.bind_some, if_neg z10]
      show (fX2_addLine F SC2 (nI w) (nI v)).bind _ = _
      unfold fX2_addLine
      rw [h1, if_neg (show ¬ (8 : Int32) ≤ nI g from nI_ge (b := 8) h5 (by omega)), if_pos (vin_nI h5 (by omega)), ix_nI (by omega), bindS_eq]
      show (if vin (SC2.1 5 5) 8 = true then bindS (us (us SC2 16 g (nI w)) 17 (ix (SC2.1 5 5)) (nI v)) (fun S28 => if vin (S28.1 5 5) 8 = true then bindS (us S28 18 (ix (S28.1 5 5)) (S28.1 5 6)) (fun S41 => bindS (us S41 5 5 (S41.1 5 5 + 1)) (fun S49 => some ((0 : Int32), S49))) else none) else none).bind _ = _
      rw [h1, if_pos (vin_nI h5 (by omega)), ix_nI (by omega), bindS_eq]
      show (if vin (SC2.1 5 5) 8 = true then bindS (us (us (us SC2 16 g (nI w)) 17 g (nI v)) 18 (ix (SC2.1 5 5)) (SC2.1 5 6)) (fun S41 => bindS (us S41 5 5 (S41.1 5 5 + 1)) (fun S49 => some ((0 : Int32), S49))) else none).bind _ = _
      rw [h1, h2, if_pos (vin_nI h5 (by omega)), ix_nI (by omega), bindS_eq, bindS_eq]
      show some ((1 : Int32), us (us (us (us SC2 16 g (nI w)) 17 g (nI v)) 18 g (nI c)) 5 5 (SC2.1 5 5 + 1)) = _
      rw [h1, nI_1]
    · unfold fX11_grades_186
      rw [h.f6, if_pos rfl, h.sort, k, if_pos (by decide)]
      unfold fX11_grades_207
      rw [h.f6, if_pos (Int32.le_refl _), q2, Option.bind_some, bindS_eq]
      show k23 (us SM2 0 20 (SM2.1 0 20 + 1)) = _
      rw [h3, nI_1]
    · obtain ⟨g1, g2, a1, a2, a3, a4, a5, a6, b1, b2, b3⟩ := q3
      exact ⟨(((g1.usk (by decide) _ _).usk (by decide) _ _).usk (by decide) _ _).usk (by decide) _ _, g2.us0 (by decide) _, a1, a2, a3, a4, a5, a6, b1, b2.fr rfl (fun j c1 c2 => by rw [us_nj (by omega)]) rfl, b3⟩
    · have eg : (fun k => if k ≤ g then e k else c) (g + 1) = c := by
        show (if g + 1 ≤ g then _ else _) = _
        rw [if_neg (by omega)]
      refine ⟨rfl, ?_, rfl, ?_, by omega, ?_, fun k hk => ?_, fun k hk => ?_, ?_, q, ?_, h17⟩
      · rw [eg]; exact h2
      · rw [eg]; exact h4
      · show (if 0 ≤ g then e 0 else c) = 0
        rw [if_pos (by omega)]
        exact h6
      · show (if k ≤ g then e k else c) ≤ (if k + 1 ≤ g then e (k + 1) else c)
        rw [if_pos (by omega)]
        by_cases ek : k = g
        · rw [if_neg (by omega), ek]; exact h9
        · rw [if_pos (by omega)]; exact h7 k (by omega)
      · by_cases ek : k = g
        · subst ek
          refine ⟨⟨w, h15.1, h15.2.1, ?_, h12⟩, ⟨v, h15.2.2.1, h15.2.2.2, ?_, h13⟩, ?_, ?_, ?_⟩
          · show upd (SC2.1 16) k (nI w) k = _
            rw [upd_rd, if_pos rfl]
          · show upd (SC2.1 17) k (nI v) k = _
            rw [upd_rd, if_pos rfl]
          · show upd (SC2.1 18) k (nI c) k = nI (if k + 1 ≤ k then e (k + 1) else c)
            rw [upd_rd, if_pos rfl, if_neg (by omega)]
          · show SM2.1 12 k = nI (if k ≤ k then e k else c)
            rw [if_pos (Nat.le_refl _)]
            exact h14
          · show (if k ≤ k then e k else c) < (if k + 1 ≤ k then e (k + 1) else c) → tyRun (SC2.1 19) (if k ≤ k then e k else c) ((if k + 1 ≤ k then e (k + 1) else c) - (if k ≤ k then e k else c)) [] = some [true]
            rw [if_pos (Nat.le_refl _), if_neg (by omega)]
            exact h11
        · have hl := h8 k (by omega)
          have hl2 : LNr SC2 SM2 (fun k => if k ≤ g then e k else c) k := by
            unfold LNr at hl ⊢
            show _ ∧ _ ∧ SC2.1 18 k = nI (if k + 1 ≤ g then e (k + 1) else c) ∧ SM2.1 12 k = nI (if k ≤ g then e k else c) ∧ ((if k ≤ g then e k else c) < (if k + 1 ≤ g then e (k + 1) else c) → tyRun (SC2.1 19) (if k ≤ g then e k else c) ((if k + 1 ≤ g then e (k + 1) else c) - (if k ≤ g then e k else c)) [] = some [true])
            rw [if_pos (by omega), if_pos (by omega)]
            exact hl
          refine hl2.fr ?_ ?_ ?_ (fun j _ _ => rfl) rfl rfl rfl
          · show upd (SC2.1 16) g (nI w) k = _
            rw [upd_rd, if_neg ek]
          · show upd (SC2.1 17) g (nI v) k = _
            rw [upd_rd, if_neg ek]
          · show upd (SC2.1 18) g (nI c) k = _
            rw [upd_rd, if_neg ek]
      · rw [eg]; exact h10
      · rw [eg]; exact h16
  · refine Or.inl ⟨_, _, ?_, ?_, gfl_mk h (rfC_pos (xk X i)).1 (rfC_pos (xk X i)).2⟩
    · rw [rtokF F h k]
      rfl
    · unfold fX11_grades_186
      rw [h.f6, if_pos rfl, h.sort, if_neg (fun g => k ((srt_cs _).2.2.2.2.2.2.2.1.mp g)), wrongL F h 2, Option.bind_some]
      exact gr207_F F rfl (rfC_pos _).1
theorem flt_gfl {M5 : ST} {SC2 SM2 : ST} (h : LTk X SC SM i t) (e5 : M5 = us (us SM 0 29 0) 0 30 0) (hf : FLT (X.1, X.2.1, X.2.2.1, c, SC, M5) SC2 SM2) : GFL X SC2 SM2 := by
  obtain ⟨f1, f2, j, φ, a1, a2, a3, a4, a5, a6, a7⟩ := hf
  refine ⟨fun x hx => ?_, ⟨fun x hx => ?_, fun j hj => ?_⟩, j, φ, a1, a2, a3, a4, a5, a6, a7⟩
  · rw [f1 x (fun e => by rw [e] at hx; exact hx (by decide)) (fun e => by rw [e] at hx; exact hx (by decide)) (fun e => by rw [e] at hx; exact hx (by decide))]
    exact h.1 x hx
  · rw [f2.1 x (fun e => by rw [e] at hx; exact hx (by decide)) (fun e => by rw [e] at hx; exact hx (by decide)) (fun e => by rw [e] at hx; exact hx (by decide)) (fun e => by rw [e] at hx; exact hx (by decide))]
    show M5.1 x = _
    rw [e5, us_nx (fun e => by rw [e] at hx; exact hx (by decide)), us_nx (fun e => by rw [e] at hx; exact hx (by decide))]
    exact h.2.1.1 x hx
  · rw [f2.2 j (fun hm => hj (by
      revert hm
      simp only [List.mem_cons, List.not_mem_nil, or_false]
      omega))]
    show M5.1 0 j = _
    rw [e5, us_nj (fun e => by rw [e] at hj; exact hj (by decide)), us_nj (fun e => by rw [e] at hj; exact hj (by decide))]
    exact h.2.1.2 j (fun hm => hj (by
      revert hm
      simp only [List.mem_cons, List.not_mem_nil, or_false]
      omega))
theorem expr_eq (hX : XOK X) (F : Nat) (hF : 1000 ≤ F) (h : LTk X SC SM i t) (hD : DLp X SC SM i t g e (e g) w v) : LineR X ((fX1_readEither F SC 0).bind (fun q70 => if q70.1 = 0 then (some ((0 : Int32), q70.2)) else (fX1_readLine_78 F q70.2 (nI w) (nI v)))) ((fX11_readE F SM).bind (fun q183 => fX11_grades_186 F k23 q183.2)) k23 g := by
  obtain ⟨M5, e5⟩ : ∃ M5, M5 = us (us SM 0 29 0) 0 30 0 := ⟨_, rfl⟩
  have hi6 := h.i6 hX
  have hX2 := h.xok hX (e g) M5
  have hq600 := h.q6
  obtain ⟨h1, h2, h3, h4, h5, h6, h7, h8, h9, h10, h11, h12, h13, h14, h15, q, h16, h17⟩ := id hD
  have hRE : fX11_readE F SM = fX11_readE_14 F F M5 0 1 := by
    unfold fX11_readE
    rw [bindS_eq, bindS_eq, e5]
  have hR : RRr (X.1, X.2.1, X.2.2.1, e g, SC, M5) SC M5 i [] [] t 0 [] := by
    refine ⟨e g, q, h.cc h2 M5, ⟨⟨fun _ _ _ _ _ => rfl, fun _ _ => rfl⟩, ?_, ?_, ?_, trivial, ?_, ?_, by decide⟩, ⟨e g, ?_, rfl, ?_, trivial⟩, h16, h17⟩
    · rw [e5]; exact h.f6
    · rw [e5]
      exact MTk.fr (S := SM) h.2.2.2.2.2.2.2.2.2.1 rfl (fun j a1 a2 => by rw [us_nj (by omega), us_nj (by omega)]) rfl
    · rw [e5]; exact h.2.2.2.2.2.2.2.2.2.2
    · rw [e5]; rfl
    · rw [e5]; rfl
    · rw [e5]; exact h4
    · rw [e5]; exact h10
  have := readE_eq hX2 F hF SC M5 i [] t 0 [] F hR rfl (Nat.le_refl _) (fun w r hb => by cases hb) (Nat.le_refl _) (by omega)
  rw [hRE]
  rcases this with ⟨SC3, SM3, y1, y2, y3⟩ | ⟨SC3, SM3, i3, P3, t3, now3, f3, y1, y2, y3, y4, y5, y6⟩
  · have y1' : fX1_readEither F SC 0 = some (0, SC3) := y1
    obtain ⟨_, _, j, φ, _, a2, a3, _, a5, _⟩ := id y3
    refine Or.inl ⟨SC3, SM3, ?_, ?_, flt_gfl h e5 y3⟩
    · rw [y1']
      rfl
    · rw [y2, Option.bind_some]
      exact gr186_F F a5 a2 a3
  · have y1' : fX1_readEither F SC 0 = some (1, SC3) := y1
    obtain ⟨j6, u6⟩ := y3.i6 hX2
    obtain ⟨c3, q3, hC3, hM3, hL3, hs3, hq3⟩ := y3
    have h600 : xq X i3 ≤ 600 := hq600 i3
    have hs3' : c3 + 1 ≤ 2 * t3 + q3 := hs3
    have hq3' : 3 * q3 ≤ xq X i3 := hq3
    rw [y1', Option.bind_some, if_neg z10, y2]
    show LineR X (fX1_readLine_78 F SC3 (nI w) (nI v)) _ k23 g
    have n28 : 28 ∉ P3 ++ [] := fun hm => by
      rw [List.append_nil] at hm
      exact absurd rfl (y4.1 28 hm).1
    by_cases k : xk X i3 = -16
    · obtain ⟨SM4, m1, m2, m3⟩ := settle_eq F (by omega) (least := 0) (B := []) (fun w r hb => by cases hb) y4.1 hM3 hL3 (by omega)
      obtain ⟨f4, rfl⟩ : ∃ f4, f3 = f4 + 2 := ⟨f3 - 2, by omega⟩
      rw [lp_end F f4 (by omega) hM3 y4.2.1.1 k n28]
      unfold fX11_readE_100
      rw [hM3.2.1, if_pos rfl, m1]
      show LineR X _ (fX11_grades_186 F k23 SM4) k23 g
      obtain ⟨⟨f1, f2, f3⟩, d1, d2, d3, d4, d5, d6, d7, d8, d9⟩ := hC3
      obtain ⟨⟨n1, n2⟩, b1, b2, b3, b4, b5, b6, b7⟩ := m2
      obtain ⟨m, l1, l2, l3, _⟩ := m3
      have l2' : m = c3 := l2
      subst l2'
      have n1' : ∀ x, x ≠ 0 → x ≠ 10 → x ≠ 11 → x ≠ 13 → SM4.1 x = SM.1 x := fun x a1 a2 a3 a4 => by
        rw [n1 x a1 a2 a3 a4]
        show M5.1 x = _
        rw [e5, us_nx a1, us_nx a1]
      have n2' : ∀ j, j ∉ [6, 8, 10, 11, 12, 21, 22, 29, 30] → SM4.1 0 j = SM.1 0 j := fun j hj => by
        rw [n2 j hj]
        show M5.1 0 j = _
        rw [e5, us_nj (fun e => by rw [e] at hj; exact hj (by decide)), us_nj (fun e => by rw [e] at hj; exact hj (by decide))]
      have f1' : ∀ x, x ≠ 3 → x ≠ 5 → x ≠ 19 → SC3.1 x = SC.1 x := f1
      have f2' : ∀ j, j ≠ 6 → SC3.1 5 j = SC.1 5 j := f2
      have f3' : ∀ k, k < e g → SC3.1 19 k = SC.1 19 k := f3
      refine semi_eq hX F hF (i := i3) (t := t3) (c := m) (e := e) ⟨fun x hx => ?_, ⟨fun x hx => ?_, fun j hj => ?_⟩, d1, d2, d3, d4, d5, d6, b1, b2, b3⟩ ⟨?_, d7, ?_, l1, h5, h6, h7, fun k hk => ?_, d8, l3, fun _ => d9, ?_, ?_, ?_, h15, q3, by omega, hq3'⟩
      · rw [f1' x (fun e => by rw [e] at hx; exact hx (by decide)) (fun e => by rw [e] at hx; exact hx (by decide)) (fun e => by rw [e] at hx; exact hx (by decide))]
        exact h.1 x hx
      · rw [n1' x (fun e => by rw [e] at hx; exact hx (by decide)) (fun e => by rw [e] at hx; exact hx (by decide)) (fun e => by rw [e] at hx; exact hx (by decide)) (fun e => by rw [e] at hx; exact hx (by decide))]
        exact h.2.1.1 x hx
      · rw [n2' j (fun hm => hj (by
          revert hm
          simp only [List.mem_cons, List.not_mem_nil, or_false]
          omega))]
        exact h.2.1.2 j hj
      · rw [f2' 5 (by decide)]; exact h1
      · rw [n2' 20 (by decide)]; exact h3
      · have hem := e_mono h7 (g - (k + 1)) (k + 1) (by omega)
        exact (h8 k hk).fr (by rw [f1' 16 (by decide) (by decide) (by decide)]) (by rw [f1' 17 (by decide) (by decide) (by decide)]) (by rw [f1' 18 (by decide) (by decide) (by decide)]) (fun j _ g2 => f3' j (by omega)) (by rw [n1' 8 (by decide) (by decide) (by decide) (by decide)]) (by rw [n1' 9 (by decide) (by decide) (by decide) (by decide)]) (by rw [n1' 12 (by decide) (by decide) (by decide) (by decide)])
      · rw [n1' 8 (by decide) (by decide) (by decide) (by decide)]; exact h12
      · rw [n1' 9 (by decide) (by decide) (by decide) (by decide)]; exact h13
      · rw [n1' 12 (by decide) (by decide) (by decide) (by decide)]; exact h14
    · obtain ⟨f4, rfl⟩ : ∃ f4, f3 = f4 + 2 := ⟨f3 - 2, by omega⟩
      refine Or.inl ⟨_, _, ?_, ?_, flt_gfl h e5 (flt_mk hC3 hM3)⟩
      · unfold fX1_readLine_78
        rw [rtok_F hC3 F (k := -16) k]
        rfl
      · rw [lp_s45 F (f4 + 1) (by omega) hM3 y4.2.1.1 (Or.inl k), sg_bad45 F (by omega) hM3 y4.2.1.1 y4.2.1.2 y4.2.2.1 y4.2.2.2 (fun _ => n28), Option.bind_some]
        show (fX11_readE_14 F (f4 + 1) (flS SM3 _ _) now3 1).bind _ = _
        rw [lp_flt F f4 now3 1 (S := flS SM3 (rfC (xk (X.1, X.2.1, X.2.2.1, e g, SC, M5) i3)) (xq (X.1, X.2.1, X.2.2.1, e g, SC, M5) i3)) (rfC_pos _).2, Option.bind_some]
        exact gr186_F F rfl (rfC_pos _).1 (rfC_pos _).2
end EXPRS
