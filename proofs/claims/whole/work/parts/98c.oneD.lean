section ONED
variable {X : RCx} {SC SM : ST} {i t s c : Nat} {W P B : List Int32} {τ : List Bool} {now : Int32}
theorem one_not (hX : XOK X) (F : Nat) (hF : 1000 ≤ F) {pr : ST → Int32 → Option (Int32 × ST)} {d f : Nat} (hd : d < 6) (hO : OneS X F pr (d + 1)) (h : RRr X SC SM i B [] t s τ) (hcn : cntD B = d) (hl : B.length ≤ 3 * d + 2) (hτ : τ.length ≤ 2 * d + 2) (hf : 700 ≤ f + i) (k : xk X i = -6) : ResR X F (f + i) ((fX1_advance F SC).bind (fun q21 => (pr q21.2 (nI d + (1 : Int32))).bind (fun q28 => if q28.1 = 0 then
        (some ((0 : Int32), q28.2))
      else
        ((fX2_emit F q28.2 (-6 : Int32)).bind (fun q42 => some ((1 : Int32), q42.2)))))) (fX11_readE_14 F f SM 0 1) B t s τ true QO := by
  obtain ⟨i6, t6⟩ := h.i6 hX
  obtain ⟨c, q, hC, hM, hL, hs, hq⟩ := id h
  obtain ⟨SC2, a1, a2, a3⟩ := adv_eq hX hC (by rw [k]; decide) F
  obtain ⟨SM2, b1, b2, b3⟩ := op_hold F hF hM (w := 20) (Or.inr ⟨k, rfl⟩) (by omega) (by omega)
  obtain ⟨f', rfl⟩ : ∃ f', f = f' + 1 := ⟨f - 1, by omega⟩
  have em : fX11_readE_14 F (f' + 1) SM 0 1 = fX11_readE_14 F f' SM2 0 1 := by
    rw [lp_op F f' hM.2.1 (Or.inl rfl), b1, Option.bind_some]
  rw [a1, Option.bind_some, em, nI_1]
  have hkn : xq X i + 3 ≤ xq X (i + 1) := kd_not k
  have hR : RRr X SC2 SM2 (i + 1) (20 :: B) [] t (s + 1) τ := ⟨c, q + 1, a2, b2, (b3 SC c [] hL).c19 a3, by omega, by omega⟩
  have := hO SC2 SM2 (i + 1) (20 :: B) t (s + 1) τ f' hR (by rw [cntD, if_pos (Or.inr rfl), hcn]) (by show B.length + 1 ≤ _; omega) (fun w r hb => by cases hb; exact Or.inr (by decide)) (by omega) (by omega)
  show ResR X F _ ((pr SC2 (nI (d + 1))).bind _) _ B t s τ true QO
  rcases this with ⟨SC3, SM3, e1, e2, e3⟩ | ⟨SC3, SM3, i3, P3, t3, now3, f3, e1, e2, e3, e4, e5, e6⟩
  · refine Or.inl ⟨SC3, SM3, ?_, e2, e3⟩
    rw [e1]
    rfl
  · obtain ⟨SC4, g1, g2⟩ := e3.emit F (k := -6) (Or.inl ⟨rfl, rfl⟩) (ty_no τ) (by show τ.length + 1 ≤ 30; omega)
    refine Or.inr ⟨SC4, SM3, i3, P3 ++ [20], t3, now3, f3, ?_, e2, g2, ⟨fun w hw => ?_, e4.2⟩, by omega, e6⟩
    · rw [e1, Option.bind_some, if_neg z10]
      show (fX2_emit F SC3 (-6)).bind _ = _
      rw [g1]
      rfl
    · rcases List.mem_append.mp hw with g | g
      · exact e4.1 w g
      · rw [List.mem_singleton] at g
        rw [g]
        decide
theorem one_open (hX : XOK X) (F : Nat) (hF : 1000 ≤ F) {pr r1 : ST → Int32 → Option (Int32 × ST)} {d f : Nat} (hd : d < 6) (hO : EitherS X F pr (d + 1)) (h : RRr X SC SM i B [] t s τ) (hcn : cntD B = d) (hl : B.length ≤ 3 * d + 2) (hτ : τ.length ≤ 2 * d + 2) (hf : 700 ≤ f + i) (k : xk X i = -14) : ResR X F (f + i) ((fX1_advance F SC).bind (fun q57 => (pr q57.2 (nI d + (1 : Int32))).bind (fun q64 => if q64.1 = 0 then
          (fX1_readOneP_83 F pr r1 q64.2)
        else
          ((fX1_readToken F q64.2 (-15 : Int32)).bind (fun q73 => if q73.1 = 0 then
            (fX1_readOneP_83 F pr r1 q73.2)
          else
            (some ((1 : Int32), q73.2))))))) (fX11_readE_14 F f SM 0 1) B t s τ true QO := by
  obtain ⟨i6, t6⟩ := h.i6 hX
  obtain ⟨c, q, hC, hM, hL, hs, hq⟩ := id h
  obtain ⟨SC2, a1, a2, a3⟩ := adv_eq hX hC (by rw [k]; decide) F
  obtain ⟨SM2, b1, b2, b3⟩ := op_hold F hF hM (w := 28) (Or.inl ⟨k, rfl⟩) (by omega) (by omega)
  obtain ⟨f', rfl⟩ : ∃ f', f = f' + 1 := ⟨f - 1, by omega⟩
  have em : fX11_readE_14 F (f' + 1) SM 0 1 = fX11_readE_14 F f' SM2 0 1 := by
    rw [lp_op F f' hM.2.1 (Or.inl rfl), b1, Option.bind_some]
  rw [a1, Option.bind_some, em, nI_1]
  have hR : RRr X SC2 SM2 (i + 1) (28 :: B) [] t s τ := ⟨c, q, a2, b2, (b3 SC c [] hL).c19 a3, hs, Nat.le_trans hq (xq_mono X i)⟩
  have := hO SC2 SM2 (i + 1) (28 :: B) t s τ f' hR (by rw [cntD, if_pos (Or.inl rfl), hcn]) (by show B.length + 1 ≤ _; omega) (fun w r hb => by cases hb; rfl) (by omega) (by omega)
  show ResR X F _ ((pr SC2 (nI (d + 1))).bind _) _ B t s τ true QO
  rcases this with ⟨SC3, SM3, e1, e2, e3⟩ | ⟨SC3, SM3, i3, P3, t3, now3, f3, e1, e2, e3, e4, e5, e6⟩
  · refine Or.inl ⟨SC3, SM3, ?_, e2, e3⟩
    rw [e1]
    rfl
  · obtain ⟨j6, u6⟩ := e3.i6 hX
    obtain ⟨c3, q3, hC3, hM3, hL3, hs3, hq3⟩ := id e3
    have h600 := hM3.q6 i3
    rw [e1, Option.bind_some, if_neg z10, e2]
    show ResR X F _ ((fX1_readToken F SC3 (-15)).bind _) _ B t s τ true QO
    by_cases k3 : xk X i3 = -15
    · obtain ⟨SC4, g1, g2, g3⟩ := rtok_T hX hC3 F k3 (by decide)
      obtain ⟨SM4, m1, m2, m3⟩ := sg_close F hF e4.2.1.1 k3 e4.1 hM3 hL3 (by omega)
      obtain ⟨f4, rfl⟩ : ∃ f4, f3 = f4 + 1 := ⟨f3 - 1, by omega⟩
      refine Or.inr ⟨SC4, SM4, i3 + 1, [], t3, 5, f4, ?_, ?_, ⟨c3, q3, g2, m2, m3.c19 g3, hs3, Nat.le_trans hq3 (xq_mono X i3)⟩, ⟨fun w hw => (by cases hw), Or.inr rfl, fun e => absurd e (by decide)⟩, by omega, e6⟩
      · rw [g1, Option.bind_some, if_neg z10]
      · rw [lp_s45 F f4 (by omega) hM3 e4.2.1.1 (Or.inl (by rw [k3]; decide)), m1, Option.bind_some]
    · obtain ⟨f4, rfl⟩ : ∃ f4, f3 = f4 + 2 := ⟨f3 - 2, by omega⟩
      refine Or.inl ⟨_, _, ?_, ?_, flt_mk hC3 hM3⟩
      · rw [rtok_F hC3 F k3, Option.bind_some, if_pos rfl]
        rfl
      · rw [lp_s45 F (f4 + 1) (by omega) hM3 e4.2.1.1 (Or.inr (List.mem_append_right _ List.mem_cons_self)), sg_bad45 F (by omega) hM3 e4.2.1.1 e4.2.1.2 e4.2.2.1 e4.2.2.2 (fun g => absurd g k3), Option.bind_some]
        exact lp_flt F f4 _ _ (rfC_pos _).2
theorem one_cmp (hX : XOK X) (F : Nat) (hF : 1000 ≤ F) {r1 r2 : ST → Int32 → Option (Int32 × ST)} {d f : Nat} (hd : d < 6) (h : RRr X SC SM i B [] t s τ) (hcn : cntD B = d) (hl : B.length ≤ 3 * d + 2) (hB : ∀ w r, B = w :: r → w = 28 ∨ w < 26) (hτ : τ.length ≤ 2 * d + 2) (hf : 700 ≤ f + i) (k6 : xk X i ≠ -6) (k14 : xk X i ≠ -14) : ResR X F (f + i) ((fX1_readSum F SC).bind (fun q86 => if q86.1 = 0 then
          (some ((0 : Int32), q86.2))
        else
          (bindI ((q86.2.1 3 4)) (fun v98 => if v98 = (-9 : Int32) then
            (fX1_readOneP_122 F r1 r2 q86.2 v98)
          else
            (if v98 = (-10 : Int32) then
              (fX1_readOneP_122 F r1 r2 q86.2 v98)
            else
              (if v98 = (-11 : Int32) then
                (fX1_readOneP_122 F r1 r2 q86.2 v98)
              else
                ((fX1_refuse F q86.2).bind (fun q118 => if q118.1 &&& 1 = q118.1 then some (q118.1, q118.2) else none)))))))) (fX11_readE_14 F f SM 0 1) B t s τ true QO := by
  have := sum_eq hX F hF hB (by omega) (by omega) (now := 0) h (Or.inl ⟨rfl, by omega, k14, k6⟩) hf
  rcases this with ⟨SC3, SM3, e1, e2, e3⟩ | ⟨SC3, SM3, i3, P3, t3, now3, f3, e1, e2, e3, e4, e5, e6⟩
  · refine Or.inl ⟨SC3, SM3, ?_, e2, e3⟩
    rw [e1]
    rfl
  · obtain ⟨j6, u6⟩ := e3.i6 hX
    obtain ⟨c3, q3, hC3, hM3, hL3, hs3, hq3⟩ := id e3
    have h600 := hM3.q6 i3
    have en : now3 = 3 := e4.2.1
    rw [en] at e2
    rw [e1, Option.bind_some, if_neg z10, e2, bindI_eq]
    show ResR X F _ (if SC3.1 3 4 = -9 then fX1_readOneP_122 F r1 r2 SC3 (SC3.1 3 4) else if SC3.1 3 4 = -10 then fX1_readOneP_122 F r1 r2 SC3 (SC3.1 3 4) else if SC3.1 3 4 = -11 then fX1_readOneP_122 F r1 r2 SC3 (SC3.1 3 4) else (fX1_refuse F SC3).bind (fun q118 => if q118.1 &&& 1 = q118.1 then some (q118.1, q118.2) else none)) _ B t s τ true QO
    rw [hC3.tok]
    by_cases k : xk X i3 = -9 ∨ xk X i3 = -10 ∨ xk X i3 = -11
    · obtain ⟨w, hw, how, hw26, hwn⟩ : ∃ w : Int32, (xk X i3 = -9 ∧ w = 24 ∨ xk X i3 = -10 ∧ w = 25 ∨ xk X i3 = -11 ∧ w = 23) ∧ opR (xk X i3) w ∧ w < 26 ∧ (w ≠ 28 ∧ ¬ w < 0 ∧ w ≠ 21) := by
        rcases k with e | e | e
        · exact ⟨24, Or.inl ⟨e, rfl⟩, Or.inr (Or.inr (Or.inr (Or.inl ⟨e, rfl⟩))), by decide, by decide⟩
        · exact ⟨25, Or.inr (Or.inl ⟨e, rfl⟩), Or.inr (Or.inr (Or.inr (Or.inr (Or.inl ⟨e, rfl⟩)))), by decide, by decide⟩
        · exact ⟨23, Or.inr (Or.inr ⟨e, rfl⟩), Or.inr (Or.inr (Or.inr (Or.inr (Or.inr (Or.inl ⟨e, rfl⟩))))), by decide, by decide⟩
      have e122 : (if xk X i3 = -9 then fX1_readOneP_122 F r1 r2 SC3 (xk X i3) else if xk X i3 = -10 then fX1_readOneP_122 F r1 r2 SC3 (xk X i3) else if xk X i3 = -11 then fX1_readOneP_122 F r1 r2 SC3 (xk X i3) else (fX1_refuse F SC3).bind (fun q118 => if q118.1 &&& 1 = q118.1 then some (q118.1, q118.2) else none)) = fX1_readOneP_122 F r1 r2 SC3 (xk X i3) := by
        by_cases a9 : xk X i3 = -9
        · rw [if_pos a9]
        · rw [if_neg a9]
          by_cases a10 : xk X i3 = -10
          · rw [if_pos a10]
          · rw [if_neg a10, if_pos ((k.resolve_left a9).resolve_left a10)]
      rw [e122]
      have n22 : xk X i3 ≠ -22 := by rcases k with e | e | e <;> (rw [e]; decide)
      obtain ⟨SC4, a1, a2, a3⟩ := adv_eq hX hC3 n22 F
      obtain ⟨SM4, b1, b2, b3⟩ := sg_cmp F hF hw hB (pm_P e4.1) hM3 hL3 (by omega) (by omega)
      obtain ⟨f4, rfl⟩ : ∃ f4, f3 = f4 + 1 := ⟨f3 - 1, by omega⟩
      have em : fX11_readE_14 F (f4 + 1) SM3 3 1 = fX11_readE_14 F f4 SM4 2 1 := by
        rw [lp_s3 F f4 hM3.2.1, b1, Option.bind_some]
      unfold fX1_readOneP_122
      rw [em, a1, Option.bind_some]
      have hR : RRr X SC4 SM4 (i3 + 1) (w :: B) [] t3 (s + 1) (false :: τ) := ⟨c3, q3, a2, b2, b3.c19 a3, hs3, Nat.le_trans hq3 (xq_mono X i3)⟩
      have := sum_eq hX F hF (B := w :: B) (fun v r hb => by cases hb; exact Or.inr hw26) (by show B.length + 1 < 40; omega) (by show τ.length + 1 ≤ 26; omega) (now := 2) hR (Or.inr rfl) (f := f4) (by omega)
      show ResR X F _ ((fX1_readSum F SC4).bind _) _ B t s τ true QO
      rcases this with ⟨SC5, SM5, y1, y2, y3⟩ | ⟨SC5, SM5, i5, P5, t5, now5, f5, y1, y2, y3, y4, y5, y6⟩
      · refine Or.inl ⟨SC5, SM5, ?_, y2, y3⟩
        rw [y1]
        rfl
      · obtain ⟨SC6, g1, g2⟩ := y3.emit F how (ty_cp k τ) (by show τ.length + 1 ≤ 30; omega)
        have en5 : now5 = 4 := y4.2.1
        refine Or.inr ⟨SC6, SM5, i5, P5 ++ [w], t5, now5, f5, ?_, y2, g2, ⟨fun v hv => ?_, Or.inl en5, fun _ => y4.2.2⟩, by omega, by omega⟩
        · rw [y1, Option.bind_some, if_neg z10]
          show (fX2_emit F SC5 (xk X i3)).bind _ = _
          rw [g1]
          rfl
        · rcases List.mem_append.mp hv with g | g
          · rcases pm_P y4.1 v g with e | e <;> (rw [e]; decide)
          · rw [List.mem_singleton] at g
            rw [g]
            exact hwn
    · obtain ⟨f4, rfl⟩ : ∃ f4, f3 = f4 + 2 := ⟨f3 - 2, by omega⟩
      rw [if_neg (fun e => k (Or.inl e)), if_neg (fun e => k (Or.inr (Or.inl e))), if_neg (fun e => k (Or.inr (Or.inr e)))]
      refine Or.inl ⟨_, _, refuse_b hC3 F, ?_, flt_mk hC3 hM3⟩
      rw [lp_s3 F (f4 + 1) hM3.2.1, sg_bad3 F hM3 e4.2.2 ⟨fun e => k (Or.inl e), fun e => k (Or.inr (Or.inl e)), fun e => k (Or.inr (Or.inr e))⟩, Option.bind_some]
      exact lp_flt F f4 _ _ (rfC_pos _).2
theorem oneD_eq (hX : XOK X) (F : Nat) (hF : 1000 ≤ F) : ∀ (D d : Nat), d + D = 8 → d ≤ 6 → OneS X F (fX1_oneD F D) d
  | 0, d, h1, h2 => by omega
  | D + 1, d, h1, h2 => by
    intro SC SM i B t s τ f h hcn hl hB hτ hf
    rw [fX1_oneD]
    unfold fX1_readOneP
    obtain ⟨c, q, hC, hM, hL, hs, hq⟩ := id h
    by_cases hd6 : d < 6
    · have hO := oneD_eq hX F hF D (d + 1) (by omega) (by omega)
      rw [if_pos (show nI d < 6 from nI_lt (b := 6) hd6 (by omega)), hC.tok]
      by_cases k6 : xk X i = -6
      · rw [if_pos k6]
        exact one_not hX F hF hd6 hO h hcn hl hτ hf k6
      · rw [if_neg k6]
        by_cases k14 : xk X i = -14
        · rw [if_pos k14]
          exact one_open hX F hF hd6 (either_eq hX F hF (by omega) (both_eq hX F hF (by omega) hO)) h hcn hl hτ hf k14
        · rw [if_neg k14]
          exact one_cmp hX F hF hd6 h hcn hl hB hτ hf k6 k14
    · rw [if_neg (show ¬ nI d < 6 from nI_nlt (b := 6) (by omega) (by omega))]
      exact deep_bad hX F h hcn (by omega) (by omega) hf
theorem readE_eq (hX : XOK X) (F : Nat) (hF : 1000 ≤ F) : EitherS X F (fX1_readEither F) 0 := either_eq hX F hF (by omega) (both_eq hX F hF (by omega) (oneD_eq hX F hF 8 0 (by omega) (by omega)))
end ONED
