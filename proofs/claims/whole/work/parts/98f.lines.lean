section LINER
variable {X : RCx} {SC SM : ST} {i t g c w v : Nat} {e : Nat → Nat} {k23 : ST → Option (Int32 × ST)}
theorem gr104_F (F : Nat) {φ x : Int32} {S : ST} (h : S.1 0 6 = φ) (h1 : ¬ φ ≤ 0) : fX11_grades_104 F k23 S x = some (-1, S) := by
  unfold fX11_grades_104
  rw [h, if_neg h1]
theorem gr61_F (F : Nat) {φ : Int32} {S : ST} (h : S.1 0 6 = φ) (h1 : ¬ φ ≤ 0) : fX11_grades_61 F k23 S = some (-1, S) := by
  unfold fX11_grades_61
  rw [h, if_neg h1]
theorem gr104_T (F : Nat) {x1 : Int32} {S S3 S4 : ST} {v : Int32} (h : S.1 0 6 = 0) (h3 : fX11_next F S = some (0, S3)) (h4 : fX11_told F S3 1 9999 = some (v, S4)) (h6 : S4.1 0 6 = 0) (hg : g < 8) (h20 : S4.1 0 20 = nI g) (h21 : S4.1 0 21 = nI c) : fX11_grades_104 F k23 S x1 = (fX11_isWord F (us (us (us S4 8 g x1) 9 g v) 12 g (nI c)) 2003330414).bind (fun q172 => if q172.1 = 0 then
        (fX11_grades_186 F k23 q172.2)
      else
        ((fX11_next F q172.2).bind (fun q179 => (fX11_readE F q179.2).bind (fun q183 => fX11_grades_186 F k23 q183.2)))) := by
  unfold fX11_grades_104
  rw [h, if_pos (Int32.le_refl _), h3, Option.bind_some]
  show (fX11_told F S3 1 9999).bind _ = _
  rw [h4, Option.bind_some]
  show (if S4.1 0 6 ≤ 0 then _ else _) = _
  rw [h6, if_pos (Int32.le_refl _)]
  show (if vin (S4.1 0 20) 8 = true then bindS (us S4 8 (ix (S4.1 0 20)) x1) _ else none) = _
  rw [h20, if_pos (vin_nI hg (by omega)), ix_nI (by omega), bindS_eq]
  show (if vin (S4.1 0 20) 8 = true then bindS (us (us S4 8 g x1) 9 (ix (S4.1 0 20)) v) _ else none) = _
  rw [h20, if_pos (vin_nI hg (by omega)), ix_nI (by omega), bindS_eq]
  show (if vin (S4.1 0 20) 9 = true then bindS (us (us (us S4 8 g x1) 9 g v) 12 (ix (S4.1 0 20)) (S4.1 0 21)) _ else none) = _
  rw [h20, h21, if_pos (vin_nI (by omega) (by omega)), ix_nI (by omega), bindS_eq]
theorem line_eq (hX : XOK X) (F : Nat) (hF : 1000 ≤ F) (h : LTk X SC SM i t) (hD : DLr X SC SM i t g e) (hg : g < 8) (k : xk X i = -17) : LineR X (fX1_readLine F SC) (fX11_grades_61 F k23 SM) k23 g := by
  obtain ⟨SC1, SM1, q1, q2, q3, q4, q5⟩ := advL hX F hF h (by rw [k]; decide) (by rw [k]; decide)
  have D1 := hD.nx q4 q5
  have rT : fX1_readToken F SC (-17) = some (1, SC1) := by
    have := rtokT F h q1
    rw [k] at this
    exact this
  unfold fX1_readLine fX11_grades_61
  rw [rT, Option.bind_some, if_neg z10, h.f6, if_pos (Int32.le_refl _), q2, Option.bind_some, bindI_eq]
  show LineR X ((fX1_readNumber F SC1 1 100).bind _) ((fX11_told F SM1 1 100).bind _) k23 g
  rcases told_eq hX F hF q3 (hi := 100) (by omega) (lo := 1) (hI := 100) rfl rfl with ⟨φ, v, p1, p2, p3, p4⟩ | ⟨w, SC2, SM2, w1, w2, w3, w4, w5, w6, w7, w8⟩
  · refine Or.inl ⟨us SC1 3 2 φ, flS SM1 φ (xq X (i + 1)), ?_, ?_, gfl_mk q3 p1 p2⟩
    · rw [p3]
      rfl
    · rw [p4, Option.bind_some, if_neg (show ¬ (flS SM1 φ (xq X (i + 1))).1 0 6 = 0 from p2)]
      exact gr104_F F rfl p1
  · have D2 := D1.nx w7 w8
    have ew : SC1.1 3 4 = nI w := by rw [q3.tok, w3]
    rw [w4, w5, Option.bind_some, Option.bind_some, if_neg z10]
    show LineR X ((fX1_readToken F SC2 (-18)).bind _) (if SM2.1 0 6 = 0 then (fX11_isWord F SM2 512970880104).bind _ else _) k23 g
    rw [w6.f6, if_pos rfl, isWd_eq F w6.tk (w := 1) (by decide) (by decide), Option.bind_some]
    by_cases k2 : xk X (i + 1 + 1) = -18
    · obtain ⟨SC3, SM3, r1, r2, r3, r4, r5⟩ := advL hX F hF w6 (by rw [k2]; decide) (by rw [k2]; decide)
      have D3 := D2.nx r4 r5
      have rT2 : fX1_readToken F SC2 (-18) = some (1, SC3) := by
        have := rtokT F w6 r1
        rw [k2] at this
        exact this
      rw [rT2, Option.bind_some, if_neg z10, if_pos (show xk X (i + 1 + 1) = wK 1 from k2), bindI_eq]
      show LineR X ((fX1_readNumber F SC3 1 9999).bind _) (if (1 : Int32) = 0 then _ else fX11_grades_104 F k23 SM2 (nI w)) k23 g
      rw [if_neg z10]
      rcases told_eq hX F hF r3 (hi := 9999) (by omega) (lo := 1) (hI := 9999) rfl rfl with ⟨φ, v, p1, p2, p3, p4⟩ | ⟨v, SC4, SM4, v1, v2, v3, v4, v5, v6, v7, v8⟩
      · refine Or.inl ⟨us SC3 3 2 φ, flS SM3 φ (xq X (i + 1 + 1 + 1)), ?_, ?_, gfl_mk r3 p1 p2⟩
        · rw [p3]
          rfl
        · unfold fX11_grades_104
          rw [w6.f6, if_pos (Int32.le_refl _), r2, Option.bind_some]
          show (fX11_told F SM3 1 9999).bind _ = _
          rw [p4, Option.bind_some, if_neg (show ¬ (flS SM3 φ (xq X (i + 1 + 1 + 1))).1 0 6 ≤ 0 from p1)]
      · have D4 := D3.nx v7 v8
        have ev : SC3.1 3 4 = nI v := by rw [r3.tok, v3]
        obtain ⟨h1, h2, h3, h4, h5, h6, h7, h8, h9, q, h10, h11⟩ := D4
        rw [gr104_T F w6.f6 r2 v5 v6.f6 hg h3 h4, v4, Option.bind_some, if_neg z10]
        obtain ⟨g1, g2, a1, a2, a3, a4, a5, a6, b1, b2, b3⟩ := id v6
        have hL5 : LTk X SC4 (us (us (us SM4 8 g (nI w)) 9 g (nI v)) 12 g (nI (e g))) (i + 1 + 1 + 1 + 1) t := ⟨g1, ((g2.us1 (by decide) _ _).us1 (by decide) _ _).us1 (by decide) _ _, a1, a2, a3, a4, a5, a6, b1, b2.fr rfl (fun j _ _ => rfl) rfl, b3⟩
        have hD5 : DLp X SC4 (us (us (us SM4 8 g (nI w)) 9 g (nI v)) 12 g (nI (e g))) (i + 1 + 1 + 1 + 1) t g e (e g) w v := by
          refine ⟨h1, h2, h3, h4, hg, h6, h7, fun k hk => ?_, Nat.le_refl _, h9, fun hh => absurd hh (Nat.lt_irrefl _), ?_, ?_, ?_, ⟨w1, w2, v1, v2⟩, q, h10, h11⟩
          · refine (h8 k hk).fr rfl rfl rfl (fun _ _ _ => rfl) ?_ ?_ ?_
            · show upd (SM4.1 8) g (nI w) k = _
              rw [upd_rd, if_neg (by omega)]
            · show upd (SM4.1 9) g (nI v) k = _
              rw [upd_rd, if_neg (by omega)]
            · show upd (SM4.1 12) g (nI (e g)) k = _
              rw [upd_rd, if_neg (by omega)]
          · show upd (SM4.1 8) g (nI w) g = _
            rw [upd_rd, if_pos rfl]
          · show upd (SM4.1 9) g (nI v) g = _
            rw [upd_rd, if_pos rfl]
          · show upd (SM4.1 12) g (nI (e g)) g = _
            rw [upd_rd, if_pos rfl]
        rw [isWd_eq F hL5.tk (w := 2) (by decide) (by decide), Option.bind_some]
        show LineR X (if SC4.1 3 4 = -19 then (fX1_advance F SC4).bind (fun q65 => (fX1_readEither F q65.2 0).bind (fun q70 => if q70.1 = 0 then (some ((0 : Int32), q70.2)) else (fX1_readLine_78 F q70.2 (SC1.1 3 4) (SC3.1 3 4)))) else fX1_readLine_78 F SC4 (SC1.1 3 4) (SC3.1 3 4)) _ k23 g
        rw [v6.tok, ew, ev]
        by_cases k4 : xk X (i + 1 + 1 + 1 + 1) = -19
        · obtain ⟨SC6, SM6, s1, s2, s3, s4, s5⟩ := advL hX F hF hL5 (by rw [k4]; decide) (by rw [k4]; decide)
          have hD6 := hD5.nx s4 s5
          rw [if_pos k4, if_pos (show xk X (i + 1 + 1 + 1 + 1) = wK 2 from k4), if_neg z10, s1, Option.bind_some]
          show LineR X _ ((fX11_next F (us (us (us SM4 8 g (nI w)) 9 g (nI v)) 12 g (nI (e g)))).bind _) k23 g
          rw [s2, Option.bind_some]
          exact expr_eq hX F hF s3 hD6
        · rw [if_neg k4, if_neg (show ¬ xk X (i + 1 + 1 + 1 + 1) = wK 2 from k4), if_pos rfl]
          exact semi_eq hX F hF hL5 hD5
    · rw [if_neg (show ¬ xk X (i + 1 + 1) = wK 1 from k2), if_pos rfl]
      refine Or.inl ⟨_, _, ?_, ?_, gfl_mk w6 (rfC_pos (xk X (i + 1 + 1))).1 (rfC_pos (xk X (i + 1 + 1))).2⟩
      · rw [rtokF F w6 k2]
        rfl
      · show (fX11_wrong F SM2 2).bind _ = _
        rw [wrongL F w6 2, Option.bind_some]
        exact gr104_F F rfl (rfC_pos _).1
theorem lines_eq (hX : XOK X) (F : Nat) (hF : 1000 ≤ F) : ∀ (d fc f g : Nat) (SC SM : ST) (i t : Nat) (e : Nat → Nat), g + d = 8 → d < fc → d < f → LTk X SC SM i t → DLr X SC SM i t g e → (∃ SC2 SM2, fX1_readLines_36 F fc SC (nI g) = some (0, SC2) ∧ fX11_grades_23 F f SM = some (-1, SM2) ∧ GFL X SC2 SM2) ∨ ∃ (SC2 SM2 : ST) (i2 t2 g2 : Nat) (e2 : Nat → Nat), fX1_readLines_36 F fc SC (nI g) = some (1, SC2) ∧ fX11_grades_23 F f SM = fX11_grades_233 F SM2 ∧ LTk X SC2 SM2 i2 t2 ∧ DLr X SC2 SM2 i2 t2 g2 e2
  | d, 0, f, g, SC, SM, i, t, e, h1, h2, h3, h, hD => by omega
  | d, fc + 1, 0, g, SC, SM, i, t, e, h1, h2, h3, h, hD => by omega
  | d, fc + 1, f + 1, g, SC, SM, i, t, e, h1, h2, h3, h, hD => by
    have h20 : SM.1 0 20 = nI g := hD.2.2.1
    rw [fX1_readLines_36, fX11_grades_23, h.f6, if_pos rfl, h.sort]
    by_cases k22 : xk X i = -22
    · have e66 : fX1_readLines_66 F SC = some (1, SC) := by
        unfold fX1_readLines_66
        rw [h.tok, if_pos k22]
      rw [if_pos ((srt_cs _).2.2.2.2.2.2.2.2.mpr k22)]
      refine Or.inr ⟨SC, SM, i, t, g, e, ?_, rfl, h, hD⟩
      rw [h.tok, if_pos k22, e66]
      by_cases c : (8 : Int32) ≤ nI g
      · rw [if_pos c]
      · rw [if_neg c]
    · rw [if_neg (fun q => k22 ((srt_cs _).2.2.2.2.2.2.2.2.mp q)), isWd_eq F h.tk (w := 0) (by decide) (by decide), Option.bind_some]
      have e56 : fX11_grades_56 F (fX11_grades_23 F f) SM = some (-1, flS SM (rfC (xk X i)) (xq X i)) := by
        unfold fX11_grades_56
        rw [wrongL F h 2, Option.bind_some]
        exact gr61_F F rfl (rfC_pos _).1
      by_cases c8 : g < 8
      · rw [if_neg (show ¬ (8 : Int32) ≤ nI g from nI_ge (b := 8) c8 (by omega)), h.tok, if_neg k22]
        by_cases k17 : xk X i = -17
        · rw [if_pos (show xk X i = wK 0 from k17), if_neg z10]
          show (∃ SC2 SM2, _ ∧ (if SM.1 0 20 = 8 then _ else fX11_grades_61 F (fX11_grades_23 F f) SM) = _ ∧ _) ∨ (∃ SC2 SM2 i2 t2 g2 e2, _ ∧ (if SM.1 0 20 = 8 then _ else fX11_grades_61 F (fX11_grades_23 F f) SM) = _ ∧ _)
          rw [h20, if_neg (show ¬ nI g = 8 from fun q => by have := (nI_eq (b := 8) (by omega) (by omega)).mp q; omega)]
          rcases line_eq (k23 := fX11_grades_23 F f) hX F hF h hD c8 k17 with ⟨SC2, SM2, y1, y2, y3⟩ | ⟨SC2, SM2, i2, t2, e2, y1, y2, y3, y4⟩
          · refine Or.inl ⟨SC2, SM2, ?_, y2, y3⟩
            rw [y1]
            rfl
          · rw [y1, Option.bind_some, if_neg z10, y2, nI_1]
            exact lines_eq hX F hF (d - 1) fc f (g + 1) SC2 SM2 i2 t2 e2 (by omega) (by omega) (by omega) y3 y4
        · rw [if_neg (show ¬ xk X i = wK 0 from k17), if_pos rfl]
          refine Or.inl ⟨_, _, ?_, e56, gfl_mk h (rfC_pos (xk X i)).1 (rfC_pos (xk X i)).2⟩
          unfold fX1_readLine
          rw [rtokF F h k17]
          rfl
      · have eg : g = 8 := by omega
        refine Or.inl ⟨_, _, ?_, ?_, gfl_mk h (rfC_pos (xk X i)).1 (rfC_pos (xk X i)).2⟩
        · rw [if_pos (show (8 : Int32) ≤ nI g by rw [eg]; decide)]
          unfold fX1_readLines_66
          rw [h.tok, if_neg k22, refuseL F h]
          rfl
        · by_cases k17 : xk X i = wK 0
          · rw [if_pos k17, if_neg z10]
            show (if SM.1 0 20 = 8 then fX11_grades_56 F (fX11_grades_23 F f) SM else _) = _
            rw [h20, if_pos (by rw [eg]; rfl), e56]
          · rw [if_neg k17, if_pos rfl, e56]
end LINER
