theorem rel_fr {SC SM SC2 SM2 : ST} (h : Rel SC SM) (a : ∀ x, x ∉ [0, 2, 3, 4, 5, 6, 9, 14, 15, 16, 17, 18, 19, 21, 22, 23, 24] → SC2.1 x = SC.1 x) (a9 : ∀ j, j ≠ 11 → SC2.1 9 j = SC.1 9 j) (b : ∀ x, x ∉ [0, 3, 4, 5, 6, 7, 8, 9, 10, 11, 12, 13] → SM2.1 x = SM.1 x) (b0 : ∀ j, j ∉ [5, 6, 7, 8, 9, 10, 11, 12, 14, 20, 21, 22, 29, 30] → SM2.1 0 j = SM.1 0 j) (h1 : RTape SC2 SM2) (h2 : RFlt SC2 SM2) (h3 : RGr SC2 SM2) (h4 : RClip SC2) : Rel SC2 SM2 := by
  obtain ⟨hL, _, _, _, hLf, hP, _, hV, hPr, hPC⟩ := h
  exact ⟨hL.fr (a 12 (by decide)) (a 1 (by decide)) (b 1 (by decide)), h1, h2, h3, hLf.fr (a 7 (by decide)) (a 26 (by decide)) (a 27 (by decide)) (a 28 (by decide)) (a 29 (by decide)) (a 30 (by decide)) (b0 32 (by decide)) (b 14 (by decide)), hP.fr (a9 8 (by decide)) (a9 9 (by decide)) (b0 33 (by decide)) (b0 34 (by decide)), h4, hV.fr (a 37 (by decide)) (a 38 (by decide)) (a 39 (by decide)) (a 40 (by decide)) (b 23 (by decide)) (b 24 (by decide)) (b 25 (by decide)) (b 27 (by decide)), hPr.fr (a 11 (by decide)) (a 41 (by decide)) (a 42 (by decide)) (b0 53 (by decide)) (b 28 (by decide)) (b 29 (by decide)) (b0 49 (by decide)) (b0 50 (by decide)) (b0 51 (by decide)) (b0 52 (by decide)), hPC.fr (a 11 (by decide)) (a 41 (by decide)) (a 42 (by decide)) (a 46 (by decide)) (a 47 (by decide)) (a 48 (by decide))⟩
theorem begC (F : Nat) (hF : 1000 ≤ F) {SC : ST} {bs : Nat → Nat} {n : Nat} (hn : n ≤ 600) (t1 : SC.1 2 1 = nI n) (hb : ∀ i, i < n → SC.1 13 i = nI (bs i) ∧ bs i < 256) : ∃ S4 T, fX1_readLines F SC = fX1_readLines_36 F F S4 (nI 0) ∧ T ≤ 600 ∧ S4.1 4 2 = nI (T + 1) ∧ (∀ k, k ≤ T → S4.1 14 k = kdS bs n k ∧ S4.1 15 k = nI (tqS bs n k)) ∧ tqS bs n T = n ∧ (∀ k, k < T → tqS bs n k < n) ∧ (∀ x, x ∉ [3, 4, 5, 14, 15] → S4.1 x = SC.1 x) ∧ S4.1 3 2 = 0 ∧ S4.1 3 3 = nI 0 ∧ S4.1 3 4 = kdS bs n 0 ∧ S4.1 3 5 = nI 0 ∧ S4.1 5 5 = nI 0 ∧ S4.1 5 6 = nI 0 := by
  obtain ⟨S2, T, s1, s2, s3, s4, s5, s6, s7⟩ := split_lp (b := bs) (n := n) F hF n F 0 0 (us SC 4 2 0) (by omega) (by omega) (by omega) ⟨hn, t1, hb⟩ rfl (fun k hk => by omega) rfl (fun k hk => by omega)
  have k0 := (s4 0 (by omega)).1
  refine ⟨us (us (us (us (us (us (us S2 5 5 0) 5 6 0) 3 2 0) 3 5 0) 3 3 (-1)) 3 3 0) 3 4 (kdS bs n 0), T, ?_, s2, s3, fun k hk => s4 k (by omega), s5, s6, fun x hx => ?_, rfl, rfl, rfl, rfl, rfl, rfl⟩
  · unfold fX1_readLines fX8_split
    rw [bindS_eq, show fX8_split_7 F F (us SC 4 2 0) 0 = some (0, S2) from s1, Option.bind_some]
    show (fX1_advance F (us (us (us (us (us S2 5 5 0) 5 6 0) 3 2 0) 3 5 0) 3 3 (-1))).bind _ = _
    unfold fX1_advance
    rw [bindS_eq]
    show (if (-1 + 1 : Int32) < 0 then _ else if S2.1 4 2 ≤ (-1 + 1 : Int32) then _ else if (601 : Int32) ≤ (-1 + 1 : Int32) then _ else fX1_advance_51 F (us (us (us (us (us (us S2 5 5 0) 5 6 0) 3 2 0) 3 5 0) 3 3 (-1)) 3 3 (-1 + 1)) 1 : Option (Int32 × ST)).bind _ = _
    rw [show (-1 + 1 : Int32) = 0 by decide, if_neg (by decide), s3, if_neg (show ¬ nI (T + 1) ≤ 0 from nI_nle (by omega) (by omega)), if_neg (by decide)]
    unfold fX1_advance_51
    rw [if_neg z10]
    show (if vin (0 : Int32) 601 = true then fX1_advance_74 F (us (us (us (us (us (us S2 5 5 0) 5 6 0) 3 2 0) 3 5 0) 3 3 (-1)) 3 3 0) (S2.1 14 0) else none).bind _ = _
    rw [if_pos (by decide), k0]
    rfl
  · have c3 : x ≠ 3 := fun e => by rw [e] at hx; exact hx (by decide)
    have c4 : x ≠ 4 := fun e => by rw [e] at hx; exact hx (by decide)
    have c5 : x ≠ 5 := fun e => by rw [e] at hx; exact hx (by decide)
    have c14 : x ≠ 14 := fun e => by rw [e] at hx; exact hx (by decide)
    have c15 : x ≠ 15 := fun e => by rw [e] at hx; exact hx (by decide)
    rw [us_nx c3, us_nx c3, us_nx c3, us_nx c3, us_nx c3, us_nx c5, us_nx c5, s7.1 x c4 c14 c15, us_nx c4]
theorem begM (F : Nat) (hF : 1000 ≤ F) {SM : ST} {bs : Nat → Nat} {n : Nat} (hn : n ≤ 600) (t2 : SM.1 0 5 = nI n) (hb : ∀ i, i < n → SM.1 2 i = nI (bs i) ∧ bs i < 256) (T : Nat) (C : ST) : ∃ S4, fX11_grades F SM = fX11_grades_23 F F S4 ∧ (∀ x, x ≠ 0 → S4.1 x = SM.1 x) ∧ (∀ j, j ∉ [5, 6, 7, 8, 9, 10, 11, 12, 20, 21, 22] → S4.1 0 j = SM.1 0 j) ∧ S4.1 0 5 = 0 ∧ S4.1 0 6 = 0 ∧ S4.1 0 7 = -1 ∧ S4.1 0 20 = nI 0 ∧ S4.1 0 21 = nI 0 ∧ S4.1 0 22 = nI 0 ∧ ∀ M, MTk (bs, n, T, 0, C, M) S4 0 := by
  obtain ⟨S3, e3⟩ : ∃ S3, S3 = us (us (us (us (us (us (us (us SM 0 9 (SM.1 0 5)) 0 5 0) 0 8 0) 0 6 0) 0 7 (-1)) 0 20 0) 0 21 0) 0 22 0 := ⟨_, rfl⟩
  have hT : TPM S3 bs n := by
    rw [e3]
    exact ⟨hn, t2, hb⟩
  obtain ⟨S4, q1, q2, q3, q4, q5⟩ := next_lp (b := bs) (n := n) F hF n F 0 S3 (by omega) (by omega) (by omega) hT (by rw [e3]; rfl)
  have r := q2.2
  refine ⟨S4, ?_, fun x hx => ?_, fun j hj => ?_, ?_, ?_, ?_, ?_, ?_, ?_, fun M => ⟨hT.fr q2, q3, ?_, fun a1 a2 => ?_⟩⟩
  · unfold fX11_grades fX11_begin
    show (fX11_next F (us (us (us (us (us (us (us (us SM 0 9 (SM.1 0 5)) 0 5 0) 0 8 0) 0 6 0) 0 7 (-1)) 0 20 0) 0 21 0) 0 22 0)).bind _ = _
    rw [← e3]
    unfold fX11_next
    rw [q1]
    rfl
  · rw [q2.1 x hx, e3, us_nx hx, us_nx hx, us_nx hx, us_nx hx, us_nx hx, us_nx hx, us_nx hx, us_nx hx]
  · have d5 : j ≠ 5 := fun e => by rw [e] at hj; exact hj (by decide)
    have d6 : j ≠ 6 := fun e => by rw [e] at hj; exact hj (by decide)
    have d7 : j ≠ 7 := fun e => by rw [e] at hj; exact hj (by decide)
    have d8 : j ≠ 8 := fun e => by rw [e] at hj; exact hj (by decide)
    have d9 : j ≠ 9 := fun e => by rw [e] at hj; exact hj (by decide)
    have d10 : j ≠ 10 := fun e => by rw [e] at hj; exact hj (by decide)
    have d11 : j ≠ 11 := fun e => by rw [e] at hj; exact hj (by decide)
    have d12 : j ≠ 12 := fun e => by rw [e] at hj; exact hj (by decide)
    have d20 : j ≠ 20 := fun e => by rw [e] at hj; exact hj (by decide)
    have d21 : j ≠ 21 := fun e => by rw [e] at hj; exact hj (by decide)
    have d22 : j ≠ 22 := fun e => by rw [e] at hj; exact hj (by decide)
    rw [r j d8 d10 d11 d12, e3, us_nj d22, us_nj d21, us_nj d20, us_nj d7, us_nj d6, us_nj d8, us_nj d5, us_nj d9]
  · rw [r 5 (by decide) (by decide) (by decide) (by decide), e3]; rfl
  · rw [r 6 (by decide) (by decide) (by decide) (by decide), e3]; rfl
  · rw [r 7 (by decide) (by decide) (by decide) (by decide), e3]; rfl
  · rw [r 20 (by decide) (by decide) (by decide) (by decide), e3]; rfl
  · rw [r 21 (by decide) (by decide) (by decide) (by decide), e3]; rfl
  · rw [r 22 (by decide) (by decide) (by decide) (by decide), e3]; rfl
  · exact q4
  · have hlt : tqS bs n 0 < n := by
      rcases Nat.lt_or_ge (tqS bs n 0) n with g | g
      · exact g
      · exact absurd (kd_end.mpr (Nat.not_lt.mpr g)) a2
    have hst : stQ bs n (nxtS bs n 0) = stopS bs n (tqS bs n 0) := by
      unfold stQ
      rw [if_pos (show nxtS bs n 0 < n from hlt)]
      rfl
    refine ⟨stopS bs n (tqS bs n 0), (stop_gt bs n hlt).2, ?_, ?_⟩
    · rw [← hst]
      exact q5 a1
    · have e1 : tqS bs n (0 + 1) = nxtS bs n (stopS bs n (tqS bs n 0)) := by
        rw [tqS.eq_def]
        exact if_pos hlt
      exact e1.symm
theorem grades_sim (F : Nat) (hF : 1000 ≤ F) : Sim Rel (fun S => fX10_grades F S) (fun S => fX11_grades F S) := by
  intro SC SM hR
  obtain ⟨hL, ⟨n, hn, t1, t2, t3⟩, hFl, hG, hLf, hP, hC, hV, hPr, hPC⟩ := id hR
  obtain ⟨bs, hbs⟩ : ∃ bs : Nat → Nat, bs = fun i => ix (SM.1 2 i) := ⟨_, rfl⟩
  have hb : ∀ i, i < n → SM.1 2 i = nI (bs i) ∧ bs i < 256 := fun i hi => by
    obtain ⟨_, b, b1, b2⟩ := t3 i hi
    rw [hbs]
    show SM.1 2 i = nI (ix (SM.1 2 i)) ∧ ix (SM.1 2 i) < 256
    rw [b2, ix_nI (by omega)]
    exact ⟨rfl, b1⟩
  have hbC : ∀ i, i < n → SC.1 13 i = nI (bs i) ∧ bs i < 256 := fun i hi => ⟨by rw [(t3 i hi).1]; exact (hb i hi).1, (hb i hi).2⟩
  show ∃ r SC2 SM2, fX10_grades F SC = _ ∧ fX11_grades F SM = _ ∧ _
  obtain ⟨C4, T, c1, c2, c3, c4, c5, c6, c7, c8, c9, c10, c11, c12, c13⟩ := begC F hF hn t1 hbC
  obtain ⟨M4, m1, m2, m3, m4, m5, m6, m7, m8, m9, m10⟩ := begM F hF hn t2 hb T C4
  have hX : XOK (bs, n, T, 0, C4, M4) := ⟨c2, c3, c4, fun k hk => fun e => (kd_end.mp e) (c6 k hk), kd_end.mpr (show ¬ tqS bs n T < n by rw [c5]; exact Nat.lt_irrefl _)⟩
  have h0 : LTk (bs, n, T, 0, C4, M4) C4 M4 0 0 := ⟨fun _ _ => rfl, ⟨fun _ _ => rfl, fun _ _ => rfl⟩, c8, c9, c10, c11, Nat.zero_le _, by omega, m5, m10 M4, m9⟩
  have hD0 : DLr (bs, n, T, 0, C4, M4) C4 M4 0 0 0 (fun _ => 0) := ⟨c12, c13, m7, m8, by omega, rfl, fun k hk => by omega, fun k hk => by omega, fun k hk => absurd hk (Nat.not_lt_zero _), 0, Nat.le_refl 0, Nat.zero_le _⟩
  unfold fX10_grades
  rw [c1, m1]
  rcases lines_eq hX F hF 8 F F 0 C4 M4 0 0 (fun _ => 0) (by omega) (by omega) (by omega) h0 hD0 with ⟨C5, M5, y1, y2, y3⟩ | ⟨C5, M5, i2, t4, g, e, y1, y2, y3, y4⟩
  · obtain ⟨f1, ⟨f2, f3⟩, j, φ, a1, a2, a3, a4, a5, a6, a7⟩ := y3
    have f1' : ∀ x, x ∉ [3, 4, 5, 14, 15, 16, 17, 18, 19] → C5.1 x = SC.1 x := fun x hx => by
      rw [f1 x (fun hm => hx (by revert hm; simp only [List.mem_cons, List.not_mem_nil, or_false]; omega))]
      exact c7 x (fun hm => hx (by revert hm; simp only [List.mem_cons, List.not_mem_nil, or_false]; omega))
    have f2' : ∀ x, x ∉ [0, 8, 9, 10, 11, 12, 13] → M5.1 x = SM.1 x := fun x hx => by
      rw [f2 x hx]
      exact m2 x (fun e => by rw [e] at hx; exact hx (by decide))
    have a1' : j ≤ T := a1
    have e2 : C5.1 2 1 = nI n := by rw [f1' 2 (by decide)]; exact t1
    have e4 : C5.1 4 2 = nI (T + 1) := by
      rw [f1 4 (by decide)]
      exact c3
    have e15 : C5.1 15 j = nI (tqS bs n j) := by
      rw [f1 15 (by decide)]
      exact (c4 j a1').2
    rw [y1, y2, Option.bind_some]
    show ∃ r SC2 SM2, (fX7_keep F C5 0).bind _ = _ ∧ _
    rw [keep0 F C5 hn e2, Option.bind_some, bindS_eq]
    show ∃ r SC2 SM2, (if (0 : Int32) = 0 then (fX1_placeReached F (us (us C5 2 1 0) 0 8 (C5.1 3 2))).bind (fun q45 => fX10_grades_48 F q45.2 0 q45.1) else _) = _ ∧ _
    have ep : fX1_placeReached F (us (us C5 2 1 0) 0 8 (C5.1 3 2)) = some (nI (tqS bs n j), us (us C5 2 1 0) 0 8 (C5.1 3 2)) := by
      unfold fX1_placeReached
      show (if C5.1 3 3 < 0 then _ else if C5.1 4 2 ≤ C5.1 3 3 then _ else if (601 : Int32) ≤ C5.1 3 3 then _ else _) = _
      rw [a6, e4, if_neg (nI_pos (by omega)), if_neg (nI_ge (by omega) (by omega)), if_neg (show ¬ (601 : Int32) ≤ nI j from nI_ge (b := 601) (by omega) (by omega))]
      unfold fX1_placeReached_41
      rw [if_neg z10]
      show (if vin (C5.1 3 3) 601 = true then some (C5.1 15 (ix (C5.1 3 3)), _) else none) = _
      rw [a6, if_pos (vin_nI (by omega) (by omega)), ix_nI (by omega), e15]
    rw [if_pos rfl, ep, Option.bind_some, a4]
    refine ⟨-1, us (us (us C5 2 1 0) 0 8 φ) 0 9 (nI (tqS bs n j)), M5, ?_, rfl, ?_⟩
    · unfold fX10_grades_48
      rw [bindS_eq, if_pos rfl]
    · have aC : ∀ x, x ∉ [0, 2, 3, 4, 5, 14, 15, 16, 17, 18, 19] → (us (us (us C5 2 1 0) 0 8 φ) 0 9 (nI (tqS bs n j))).1 x = SC.1 x := fun x hx => by
        have x0 : x ≠ 0 := fun e => by rw [e] at hx; exact hx (by decide)
        have x2 : x ≠ 2 := fun e => by rw [e] at hx; exact hx (by decide)
        rw [us_nx x0, us_nx x0, us_nx x2]
        exact f1' x (fun hm => hx (by revert hm; simp only [List.mem_cons, List.not_mem_nil, or_false]; omega))
      have bM : ∀ j, j ∉ [5, 6, 7, 8, 9, 10, 11, 12, 20, 21, 22, 29, 30] → M5.1 0 j = SM.1 0 j := fun j hj => by
        rw [f3 j (fun hm => hj (by revert hm; simp only [List.mem_cons, List.not_mem_nil, or_false]; omega))]
        exact m3 j (fun hm => hj (by revert hm; simp only [List.mem_cons, List.not_mem_nil, or_false]; omega))
      refine rel_fr hR (fun x hx => aC x (fun hm => hx (by revert hm; simp only [List.mem_cons, List.not_mem_nil, or_false]; omega))) (fun j _ => by rw [aC 9 (by decide)]) (fun x hx => f2' x (fun hm => hx (by revert hm; simp only [List.mem_cons, List.not_mem_nil, or_false]; omega))) (fun j hj => bM j (fun hm => hj (by revert hm; simp only [List.mem_cons, List.not_mem_nil, or_false]; omega))) ⟨0, by omega, rfl, ?_, fun i hi => by omega⟩ ⟨?_, ?_⟩ (hG.fr (by rw [aC 6 (by decide)]) (aC 21 (by decide)) (aC 22 (by decide)) (aC 23 (by decide)) (aC 24 (by decide)) (bM 14 (by decide)) (f2' 3 (by decide)) (f2' 4 (by decide)) (f2' 5 (by decide)) (f2' 6 (by decide)) (f2' 7 (by decide))) (hC.fr (aC 9 (by decide)) (by rw [aC 6 (by decide)]) (aC 7 (by decide)) (aC 21 (by decide)) (aC 22 (by decide)) (aC 23 (by decide)) (aC 24 (by decide)) (aC 26 (by decide)) (aC 27 (by decide)) (aC 28 (by decide)) (aC 29 (by decide)) (aC 30 (by decide)) (aC 32 (by decide)) (aC 34 (by decide)) (aC 35 (by decide)) (aC 36 (by decide)))
      · rw [f3 5 (by decide)]
        exact m4
      · show φ = M5.1 0 6
        rw [a5]
      · show nI (tqS bs n j) = M5.1 0 7
        rw [a7]
        rfl
  · have q600 := y3.q6 i2
    obtain ⟨f1, ⟨f2, f3⟩, a1, a2, a3, a4, a5, a6, b1, b2, b3⟩ := y3
    obtain ⟨h1, h2, h3, h4, h5, h6, h7, h8, h9, q, h10, h11⟩ := y4
    have f1' : ∀ x, x ∉ [3, 4, 5, 14, 15, 16, 17, 18, 19] → C5.1 x = SC.1 x := fun x hx => by
      rw [f1 x (fun hm => hx (by revert hm; simp only [List.mem_cons, List.not_mem_nil, or_false]; omega))]
      exact c7 x (fun hm => hx (by revert hm; simp only [List.mem_cons, List.not_mem_nil, or_false]; omega))
    have f2' : ∀ x, x ∉ [0, 8, 9, 10, 11, 12, 13] → M5.1 x = SM.1 x := fun x hx => by
      rw [f2 x hx]
      exact m2 x (fun e => by rw [e] at hx; exact hx (by decide))
    have e2 : C5.1 2 1 = nI n := by rw [f1' 2 (by decide)]; exact t1
    obtain ⟨M6, p1, p2, p3, p4, p5, p6, p7, p8⟩ := gr233_eq F hF M5 h5 (show e g ≤ 320 by omega) b1 h3 h4
    rw [y1, y2, Option.bind_some, p1]
    show ∃ r SC2 SM2, (fX7_keep F C5 0).bind _ = _ ∧ _
    rw [keep0 F C5 hn e2, Option.bind_some, bindS_eq]
    show ∃ r SC2 SM2, (if (1 : Int32) = 0 then _ else fX10_grades_48 F (us (us C5 2 1 0) 0 8 (C5.1 3 2)) 1 (-1)) = _ ∧ _
    rw [if_neg z10, a1]
    obtain ⟨C6, r1, r2, r3, r4, r5⟩ := copy_eq F hF (us (us (us C5 2 1 0) 0 8 0) 0 9 (-1)) (g := g) (c := e g) (show e g ≤ 320 by omega) h1 h2
    refine ⟨nI g, us C6 9 11 1, M6, ?_, rfl, ?_⟩
    · unfold fX10_grades_48 fX0_forget
      rw [bindS_eq, if_neg z10, r1, Option.bind_some]
      show some (C6.1 6 5, us C6 9 11 1) = _
      rw [r3]
    · have aC : ∀ x, x ∉ [0, 2, 3, 4, 5, 6, 9, 14, 15, 16, 17, 18, 19, 21, 22, 23, 24] → (us C6 9 11 1).1 x = SC.1 x := fun x hx => by
        have x0 : x ≠ 0 := fun e => by rw [e] at hx; exact hx (by decide)
        have x2 : x ≠ 2 := fun e => by rw [e] at hx; exact hx (by decide)
        have x9 : x ≠ 9 := fun e => by rw [e] at hx; exact hx (by decide)
        rw [us_nx x9, r2 x (fun hm => hx (by revert hm; simp only [List.mem_cons, List.not_mem_nil, or_false]; omega)), us_nx x0, us_nx x0, us_nx x2]
        exact f1' x (fun hm => hx (by revert hm; simp only [List.mem_cons, List.not_mem_nil, or_false]; omega))
      have bM : ∀ j, j ∉ [5, 6, 7, 8, 9, 10, 11, 12, 14, 20, 21, 22, 29, 30] → M6.1 0 j = SM.1 0 j := fun j hj => by
        rw [p3 j (fun e => by rw [e] at hj; exact hj (by decide)), f3 j (fun hm => hj (by revert hm; simp only [List.mem_cons, List.not_mem_nil, or_false]; omega))]
        exact m3 j (fun hm => hj (by revert hm; simp only [List.mem_cons, List.not_mem_nil, or_false]; omega))
      refine rel_fr hR aC (fun j hj => ?_) (fun x hx => ?_) bM ⟨0, by omega, ?_, ?_, fun i hi => by omega⟩ ⟨?_, ?_⟩ ?_ (fun h => absurd h z10)
      · rw [us_nj hj, r2 9 (by decide)]
        show C5.1 9 j = _
        rw [f1' 9 (by decide)]
      · rw [p2 x (fun hm => hx (by revert hm; simp only [List.mem_cons, List.not_mem_nil, or_false]; omega))]
        exact f2' x (fun hm => hx (by revert hm; simp only [List.mem_cons, List.not_mem_nil, or_false]; omega))
      · show C6.1 2 1 = nI 0
        rw [r2 2 (by decide)]
        rfl
      · rw [p3 5 (by decide), f3 5 (by decide)]
        exact m4
      · show C6.1 0 8 = M6.1 0 6
        rw [r2 0 (by decide), p3 6 (by decide), b1]
        rfl
      · show C6.1 0 9 = M6.1 0 7
        rw [r2 0 (by decide), p3 7 (by decide), f3 7 (by decide)]
        show (-1 : Int32) = M4.1 0 7
        rw [m6]
      · refine ⟨g, e, h5, r3, p4, h6, h7, by omega, fun k hk => ?_, fun k hk => ?_, fun k hk => ?_⟩
        · obtain ⟨⟨w, w1, w2, w3, w4⟩, ⟨v, v1, v2, v3, v4⟩, l3, l4, l5⟩ := h8 k hk
          obtain ⟨z1, z2, z3⟩ := r4 k (by omega)
          obtain ⟨z4, z5⟩ := p7 k hk
          refine ⟨⟨w, w1, w2, z1.trans w3, z4.trans w4⟩, ⟨v, v1, v2, z2.trans v3, z5.trans v4⟩, z3.trans l3, fun hlt => ?_⟩
          rw [← l5 hlt]
          have hem := e_mono h7 (g - (k + 1)) (k + 1) (by omega)
          exact tyRun_congr _ _ _ (fun j g1 g2 => r5 j (by omega))
        · by_cases ek : k = g
          · rw [ek]; exact p6
          · rw [p5 k (by omega)]
            exact (h8 k (by omega)).2.2.2.1
        · show codeRel (C6.1 24 k) (M6.1 5 k) (M6.1 6 k)
          obtain ⟨z1, z2⟩ := p8 k hk
          rw [r5 k hk, z1, z2]
          exact h9 k hk
theorem st_grades : Sim Rel (fun S => fX10_grades FU S) (fun S => fX11_grades FU S) := grades_sim FU (by decide)
