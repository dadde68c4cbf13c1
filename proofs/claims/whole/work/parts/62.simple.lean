theorem st_about (x1 : Int32) : Sim Rel (fun S => fX10_about FU S x1) (fun S => fX11_about FU S x1) := by
  intro SC SM hR
  obtain ⟨hL, ⟨n, hn, t1, t2, t3⟩, hF, ⟨gn, e, g1, g2, g3, g4⟩, ⟨ln, mk, l1, l2, l3, l4⟩, hP, hC, hV, ⟨⟨bn, b1, b2, b3, b4⟩, hPo⟩, hPC⟩ := id hR
  show ∃ r SC2 SM2, fX10_about FU SC x1 = _ ∧ fX11_about FU SM x1 = _ ∧ _
  unfold fX10_about fX11_about
  rw [t1, t2, g2, g3, l2, l3, b2, b3]
  by_cases h0 : x1 = 0
  · exact ⟨_, SC, SM, by rw [if_pos h0], by rw [if_pos h0], hR⟩
  · by_cases h1 : x1 = 1
    · exact ⟨_, SC, SM, by rw [if_neg h0, if_pos h1], by rw [if_neg h0, if_pos h1], hR⟩
    · by_cases h2 : x1 = 2
      · exact ⟨_, SC, SM, by rw [if_neg h0, if_neg h1, if_pos h2], by rw [if_neg h0, if_neg h1, if_pos h2], hR⟩
      · by_cases h3 : x1 = 3
        · exact ⟨_, SC, SM, by rw [if_neg h0, if_neg h1, if_neg h2, if_pos h3], by rw [if_neg h0, if_neg h1, if_neg h2, if_pos h3], hR⟩
        · exact ⟨_, SC, SM, by rw [if_neg h0, if_neg h1, if_neg h2, if_neg h3], by rw [if_neg h0, if_neg h1, if_neg h2, if_neg h3], hR⟩
theorem st_fault (x1 : Int32) : Sim Rel (fun S => fX10_fault FU S x1) (fun S => fX11_fault FU S x1) := by
  intro SC SM hR
  obtain ⟨f1, f2⟩ := hR.2.2.1
  show ∃ r SC2 SM2, fX10_fault FU SC x1 = _ ∧ fX11_fault FU SM x1 = _ ∧ _
  unfold fX10_fault fX11_fault
  rw [f1, f2]
  by_cases h0 : x1 = 0
  · exact ⟨_, SC, SM, by rw [if_pos h0], by rw [if_pos h0], hR⟩
  · by_cases h1 : x1 = 1
    · exact ⟨_, SC, SM, by rw [if_neg h0, if_pos h1], by rw [if_neg h0, if_pos h1], hR⟩
    · exact ⟨_, SC, SM, by rw [if_neg h0, if_neg h1], by rw [if_neg h0, if_neg h1], hR⟩
theorem st_end (x1 : Int32) : Sim Rel (fun S => fX10_end FU S x1) (fun S => fX11_end FU S x1) := by
  intro SC SM hR
  obtain ⟨hL, ⟨n, hn, t1, t2, t3⟩, hF, hG, hLf, hP, hC, hV, hPr, hPC⟩ := id hR
  show ∃ r SC2 SM2, fX10_end FU SC x1 = _ ∧ fX11_end FU SM x1 = _ ∧ _
  unfold fX10_end fX7_keep fX11_end
  rw [t1, t2]
  by_cases h0 : x1 < 0
  · exact ⟨_, SC, SM, by rw [if_pos h0]; rfl, by rw [if_pos h0], hR⟩
  · by_cases h1 : x1 ≤ nI n
    · refine ⟨_, us SC 2 1 x1, us SM 0 5 x1, by rw [if_neg h0, if_pos h1]; rfl, by rw [if_neg h0, if_pos h1]; rfl, hL.fr rfl rfl rfl, ?_, hF.fr rfl rfl rfl, hG.fr rfl rfl rfl rfl rfl rfl rfl rfl rfl rfl rfl, hLf.fr rfl rfl rfl rfl rfl rfl rfl rfl, hP.fr rfl rfl rfl rfl, hC.fr rfl rfl rfl rfl rfl rfl rfl rfl rfl rfl rfl rfl rfl rfl rfl rfl, hV.fr rfl rfl rfl rfl rfl rfl rfl rfl, hPr.fr rfl rfl rfl rfl rfl rfl rfl rfl rfl rfl, hPC.fr rfl rfl rfl rfl rfl rfl⟩
      simp [i_lt] at h0
      obtain ⟨k, rfl, k2, k3⟩ := i_ex h0
      rw [i_le, k2, i_lit (by omega)] at h1
      exact ⟨k, by omega, rfl, rfl, fun i hi => t3 i (by omega)⟩
    · exact ⟨_, SC, SM, by rw [if_neg h0, if_neg h1]; rfl, by rw [if_neg h0, if_neg h1], hR⟩
theorem st_patch (x1 x2 : Int32) : Sim Rel (fun S => fX10_patch FU S x1 x2) (fun S => fX11_patch FU S x1 x2) := by
  intro SC SM hR
  obtain ⟨hL, hT, hF, hG, hLf, hP, hC, hV, hPr, hPC⟩ := id hR
  show ∃ r SC2 SM2, fX10_patch FU SC x1 x2 = _ ∧ fX11_patch FU SM x1 x2 = _ ∧ _
  unfold fX10_patch fX11_patch fX0_setPatching
  by_cases h1 : 0 ≤ x1.toInt ∧ x1.toInt ≤ 3
  · by_cases h2 : 0 ≤ x2.toInt ∧ x2.toInt ≤ 100
    · refine ⟨1, us (us (us SC 9 8 x1) 9 9 x2) 9 11 1, us (us SM 0 33 x1) 0 34 x2, ?_, ?_, hL.fr rfl rfl rfl, hT.fr rfl rfl rfl rfl, hF.fr rfl rfl rfl, hG.fr rfl rfl rfl rfl rfl rfl rfl rfl rfl rfl rfl, hLf.fr rfl rfl rfl rfl rfl rfl rfl rfl, ?_, fun h => absurd h z10, hV.fr rfl rfl rfl rfl rfl rfl rfl rfl, hPr.fr rfl rfl rfl rfl rfl rfl rfl rfl rfl rfl, hPC.fr rfl rfl rfl rfl rfl rfl⟩
      · rw [within_T (by simp [i_le]; omega)]
        show (fX10_within FU SC x2 0 100).bind _ = _
        rw [within_T (by simp [i_le]; omega)]
        rfl
      · rw [if_neg (by simp [i_lt]; omega), if_neg (by simp [i_lt]; omega), if_neg (by simp [i_lt]; omega), if_pos (by simp [i_le]; omega)]
        rfl
      · obtain ⟨p, rfl, p2, p3⟩ := i_ex h1.1
        obtain ⟨c, rfl, c2, c3⟩ := i_ex h2.1
        exact ⟨⟨p, by omega, rfl, rfl⟩, c, by omega, rfl, rfl⟩
    · refine ⟨0, SC, SM, ?_, ?_, hR⟩
      · rw [within_T (by simp [i_le]; omega)]
        show (fX10_within FU SC x2 0 100).bind _ = _
        rw [within_F (by simp [i_le]; omega)]
        rfl
      · rw [if_neg (by simp [i_lt]; omega), if_neg (by simp [i_lt]; omega)]
        by_cases h3 : x2 < 0
        · rw [if_pos h3]
        · rw [if_neg h3, if_neg (by simp [i_lt] at h3; simp [i_le]; omega)]
  · refine ⟨0, SC, SM, ?_, ?_, hR⟩
    · rw [within_F (by simp [i_le]; omega)]
      rfl
    · by_cases h3 : x1 < 0
      · rw [if_pos h3]
      · rw [if_neg h3, if_pos (by simp [i_lt] at h3; simp [i_lt]; omega)]
theorem st_drop : Sim Rel (fun S => fX10_drop FU S) (fun S => fX11_drop FU S) := by
  intro SC SM hR
  obtain ⟨hL, hT, hF, hG, hLf, hP, hC, hV, ⟨⟨bn, b1, b2, b3, b4⟩, hPo⟩, hPC⟩ := id hR
  show ∃ r SC2 SM2, fX10_drop FU SC = _ ∧ fX11_drop FU SM = _ ∧ _
  unfold fX10_drop fX6_removeBoard fX11_drop
  rw [b2, b3]
  cases bn with
  | zero => exact ⟨0, SC, SM, by rw [if_neg (by decide)]; exact bz a1_0, by rw [if_pos (by decide)], hR⟩
  | succ k =>
    have e : nI (k + 1) - 1 = nI k := nI_pred k
    refine ⟨1, us (us SC 11 8 (nI k)) 11 15 1, us SM 0 53 (nI k), ?_, ?_, hL.fr rfl rfl rfl, hT.fr rfl rfl rfl rfl, hF.fr rfl rfl rfl, hG.fr rfl rfl rfl rfl rfl rfl rfl rfl rfl rfl rfl, hLf.fr rfl rfl rfl rfl rfl rfl rfl rfl, hP.fr rfl rfl rfl rfl, hC.fr rfl rfl rfl rfl rfl rfl rfl rfl rfl rfl rfl rfl rfl rfl rfl rfl, hV.fr rfl rfl rfl rfl rfl rfl rfl rfl, ⟨⟨k, by omega, rfl, rfl, fun i hi => b4 i (by omega)⟩, hPo⟩, fun h => absurd h z10⟩
    · rw [if_pos (show (0 : Int32) < nI (k + 1) from nI_lt (a := 0) (by omega) (by omega)), e]
      exact bz a1_1
    · rw [if_neg (nI_ne0 (by omega) (by omega)), e]
      rfl
theorem st_press (x1 x2 x3 x4 : Int32) : Sim Rel (fun S => fX10_press FU S x1 x2 x3 x4) (fun S => fX11_press FU S x1 x2 x3 x4) := by
  intro SC SM hR
  obtain ⟨hL, hT, hF, hG, hLf, hP, hC, hV, ⟨hPb, hPo⟩, hPC⟩ := id hR
  show ∃ r SC2 SM2, fX10_press FU SC x1 x2 x3 x4 = _ ∧ fX11_press FU SM x1 x2 x3 x4 = _ ∧ _
  unfold fX10_press fX11_press fX6_set
  by_cases h1 : 1 ≤ x1.toInt ∧ x1.toInt ≤ 10
  · rw [within_T (by simp [i_le]; omega), if_neg (by simp [i_lt]; omega), if_neg (by simp [i_lt]; omega)]
    show ∃ r SC2 SM2, (fX10_within FU SC x2 0 100).bind _ = _ ∧ _
    by_cases h2 : 0 ≤ x2.toInt ∧ x2.toInt ≤ 100
    · rw [within_T (by simp [i_le]; omega), if_neg (by simp [i_lt]; omega), if_neg (by simp [i_lt]; omega)]
      show ∃ r SC2 SM2, (fX10_within FU SC x3 0 10).bind _ = _ ∧ _
      by_cases h3 : 0 ≤ x3.toInt ∧ x3.toInt ≤ 10
      · rw [within_T (by simp [i_le]; omega), if_neg (by simp [i_lt]; omega), if_neg (by simp [i_lt]; omega)]
        show ∃ r SC2 SM2, (fX10_within FU SC x4 1 1000).bind _ = _ ∧ _
        by_cases h4 : 1 ≤ x4.toInt ∧ x4.toInt ≤ 1000
        · rw [within_T (by simp [i_le]; omega), if_neg (by simp [i_lt]; omega), if_pos (by simp [i_le]; omega)]
          refine ⟨1, us (us (us (us (us SC 11 9 x1) 11 10 x2) 11 11 x3) 11 12 x4) 11 15 1, us (us (us (us SM 0 49 x1) 0 50 x2) 0 51 x3) 0 52 x4, rfl, rfl, hL.fr rfl rfl rfl, hT.fr rfl rfl rfl rfl, hF.fr rfl rfl rfl, hG.fr rfl rfl rfl rfl rfl rfl rfl rfl rfl rfl rfl, hLf.fr rfl rfl rfl rfl rfl rfl rfl rfl, hP.fr rfl rfl rfl rfl, hC.fr rfl rfl rfl rfl rfl rfl rfl rfl rfl rfl rfl rfl rfl rfl rfl rfl, hV.fr rfl rfl rfl rfl rfl rfl rfl rfl, ⟨hPb, ?_⟩, fun h => absurd h z10⟩
          obtain ⟨o, rfl, o2, o3⟩ := i_ex (x := x1) (by omega)
          obtain ⟨b, rfl, b2, b3⟩ := i_ex h2.1
          obtain ⟨p, rfl, p2, p3⟩ := i_ex h3.1
          obtain ⟨l, rfl, l2, l3⟩ := i_ex (x := x4) (by omega)
          exact ⟨o, b, p, l, by omega, by omega, by omega, by omega, by omega, by omega, rfl, rfl, rfl, rfl, rfl, rfl, rfl, rfl⟩
        · rw [within_F (by simp [i_le]; omega)]
          refine ⟨0, SC, SM, rfl, ?_, hR⟩
          by_cases h5 : x4 < 1
          · rw [if_pos h5]
          · rw [if_neg h5, if_neg (by simp [i_lt] at h5; simp [i_le]; omega)]
      · rw [within_F (by simp [i_le]; omega)]
        refine ⟨0, SC, SM, rfl, ?_, hR⟩
        by_cases h5 : x3 < 0
        · rw [if_pos h5]
        · rw [if_neg h5, if_pos (by simp [i_lt] at h5; simp [i_lt]; omega)]
    · rw [within_F (by simp [i_le]; omega)]
      refine ⟨0, SC, SM, rfl, ?_, hR⟩
      by_cases h5 : x2 < 0
      · rw [if_pos h5]
      · rw [if_neg h5, if_pos (by simp [i_lt] at h5; simp [i_lt]; omega)]
  · rw [within_F (by simp [i_le]; omega)]
    refine ⟨0, SC, SM, rfl, ?_, hR⟩
    by_cases h5 : x1 < 1
    · rw [if_pos h5]
    · rw [if_neg h5, if_pos (by simp [i_lt] at h5; simp [i_lt]; omega)]
theorem st_glue (x1 x2 : Int32) : Sim Rel (fun S => fX10_glue FU S x1 x2) (fun S => fX11_glue FU S x1 x2) := by
  intro SC SM hR
  obtain ⟨hL, hT, hF, hG, hLf, hP, hC, hV, ⟨⟨bn, b1, b2, b3, b4⟩, hPo⟩, hPC⟩ := id hR
  show ∃ r SC2 SM2, fX10_glue FU SC x1 x2 = _ ∧ fX11_glue FU SM x1 x2 = _ ∧ _
  unfold fX10_glue fX11_glue fX6_addBoard
  rw [b3]
  by_cases h1 : 1 ≤ x1.toInt ∧ x1.toInt ≤ 500
  · rw [within_T (by simp [i_le]; omega), if_neg (c := x1 < 1) (by simp [i_lt]; omega), if_neg (c := (500 : Int32) < x1) (by simp [i_lt]; omega)]
    show ∃ r SC2 SM2, (fX10_within FU SC x2 0 10000).bind _ = _ ∧ _
    by_cases h2 : 0 ≤ x2.toInt ∧ x2.toInt ≤ 10000
    · rw [within_T (by simp [i_le]; omega), if_neg (c := x2 < 0) (by simp [i_lt]; omega), if_pos (c := x2 ≤ 10000) (by simp [i_le]; omega)]
      by_cases h3 : bn = 10
      · subst h3
        refine ⟨-1, SC, SM, ?_, by rw [if_pos (by decide)], hR⟩
        show Option.bind (if SC.1 11 8 < 0 then _ else _) _ = _
        rw [b2, if_neg (by decide), if_neg (by decide)]
        rfl
      · have hb : bn < 10 := by omega
        have e : nI bn + 1 = nI (bn + 1) := nI_1 bn
        have e2 : nI (bn + 1) - 1 = nI bn := nI_pred bn
        refine ⟨nI bn, us (us (us (us SC 41 bn x1) 42 bn x2) 11 8 (nI (bn + 1))) 11 15 1, us (us (us SM 28 bn x1) 29 bn x2) 0 53 (nI (bn + 1)), ?_, ?_, hL.fr rfl rfl rfl, hT.fr rfl rfl rfl rfl, hF.fr rfl rfl rfl, hG.fr rfl rfl rfl rfl rfl rfl rfl rfl rfl rfl rfl, hLf.fr rfl rfl rfl rfl rfl rfl rfl rfl, hP.fr rfl rfl rfl rfl, hC.fr rfl rfl rfl rfl rfl rfl rfl rfl rfl rfl rfl rfl rfl rfl rfl rfl, hV.fr rfl rfl rfl rfl rfl rfl rfl rfl, ⟨⟨bn + 1, by omega, rfl, rfl, fun i hi => ?_⟩, hPo⟩, fun h => absurd h z10⟩
        · show Option.bind (if SC.1 11 8 < 0 then _ else _) _ = _
          rw [b2, if_neg (nI_pos (by omega)), if_pos (c := nI bn < 10) (nI_lt (b := 10) hb (by omega)), if_pos (vin_nI hb (by omega)), ix_nI (by omega)]
          show Option.bind (if vin (SC.1 11 8) 10 = true then bindS (us (us SC 41 bn x1) 42 (ix (SC.1 11 8)) x2) _ else none) _ = _
          rw [b2, if_pos (vin_nI hb (by omega)), ix_nI (by omega)]
          show some ((SC.1 11 8 + 1) - 1, us (us (us (us SC 41 bn x1) 42 bn x2) 11 8 (SC.1 11 8 + 1)) 11 15 1) = _
          rw [b2, e, e2]
        · rw [if_neg (c := nI bn = 10) (fun h => h3 ((nI_eq (b := 10) (by omega) (by omega)).mp h)), if_pos (vin_nI hb (by omega)), ix_nI (by omega)]
          show (if vin (SM.1 0 53) 10 = true then bindS (us (us SM 28 bn x1) 29 (ix (SM.1 0 53)) x2) _ else none) = _
          rw [b3, if_pos (vin_nI hb (by omega)), ix_nI (by omega)]
          show some ((SM.1 0 53 + 1) - 1, us (us (us SM 28 bn x1) 29 bn x2) 0 53 (SM.1 0 53 + 1)) = _
          rw [b3, e, e2]
        · by_cases hi2 : i = bn
          · subst hi2
            obtain ⟨t, rfl, t2, t3⟩ := i_ex (x := x1) (by omega)
            obtain ⟨m, rfl, m2, m3⟩ := i_ex h2.1
            refine ⟨⟨t, by omega, by omega, ?_, ?_⟩, m, by omega, ?_, ?_⟩ <;> simp [us_rd]
          · have := b4 i (by omega)
            simpa [us_rd, hi2] using this
    · rw [within_F (by simp [i_le]; omega)]
      refine ⟨-1, SC, SM, rfl, ?_, hR⟩
      by_cases h3 : nI bn = 10
      · rw [if_pos h3]
      · rw [if_neg h3]
        by_cases h5 : x2 < 0
        · rw [if_pos h5]
        · rw [if_neg h5, if_neg (by simp [i_lt] at h5; simp [i_le]; omega)]
  · rw [within_F (by simp [i_le]; omega)]
    refine ⟨-1, SC, SM, rfl, ?_, hR⟩
    by_cases h3 : nI bn = 10
    · rw [if_pos h3]
    · rw [if_neg h3]
      by_cases h5 : x1 < 1
      · rw [if_pos h5]
      · rw [if_neg h5, if_pos (by simp [i_lt] at h5; simp [i_lt]; omega)]
theorem st_net (x1 x2 : Int32) : Sim Rel (fun S => fX10_net FU S x1 x2) (fun S => fX11_net FU S x1 x2) := by
  intro SC SM hR
  obtain ⟨⟨hL1, hL2⟩, hT, hF, hG, hLf, hP, hC, hV, hPr, hPC⟩ := id hR
  show ∃ r SC2 SM2, fX10_net FU SC x1 x2 = _ ∧ fX11_net FU SM x1 x2 = _ ∧ _
  unfold fX10_net fX4_putRow fX11_net
  by_cases h1 : x1 < 0
  · exact ⟨0, SC, SM, by rw [if_pos h1]; exact bz a1_0, by rw [if_pos h1], hR⟩
  · by_cases h2 : (24 : Int32) ≤ x1
    · exact ⟨0, SC, SM, by rw [if_neg h1, if_pos h2]; exact bz a1_0, by rw [if_neg h1, if_pos h2], hR⟩
    · rw [if_neg h1, if_neg h2, if_neg h1, if_neg h2]
      simp [i_lt] at h1
      simp [i_le] at h2
      have hv : vin x1 24 = true := by rw [vin_iff]; omega
      by_cases h3 : 0 ≤ x2.toInt ∧ x2.toInt ≤ 16777215
      · rw [within_T (by simp [i_le]; omega), if_neg (c := x2 < 0) (by simp [i_lt]; omega), if_pos (c := x2 < 16777216) (by simp [i_lt]; omega), if_pos hv]
        refine ⟨1, us (us SC 12 (ix x1) x2) 1 1 1, us SM 1 (ix x1) x2, ?_, rfl, ⟨fun r hr => ?_, fun h => absurd h z10⟩, hT.fr rfl rfl rfl rfl, hF.fr rfl rfl rfl, hG.fr rfl rfl rfl rfl rfl rfl rfl rfl rfl rfl rfl, hLf.fr rfl rfl rfl rfl rfl rfl rfl rfl, hP.fr rfl rfl rfl rfl, hC.fr rfl rfl rfl rfl rfl rfl rfl rfl rfl rfl rfl rfl rfl rfl rfl rfl, hV.fr rfl rfl rfl rfl rfl rfl rfl rfl, hPr.fr rfl rfl rfl rfl rfl rfl rfl rfl rfl rfl, hPC.fr rfl rfl rfl rfl rfl rfl⟩
        · show Option.bind (if vin x1 24 = true then _ else none) _ = _
          rw [if_pos hv]
          exact bz a1_1
        · obtain ⟨m, rfl, m2, m3⟩ := i_ex h3.1
          by_cases hr2 : r = ix x1
          · subst hr2
            exact ⟨by simp [us_rd], m, by omega, by simp [us_rd]⟩
          · have := hL1 r hr
            simpa [us_rd, hr2] using this
      · rw [within_F (by simp [i_le]; omega)]
        refine ⟨0, SC, SM, bz a1_0, ?_, hR⟩
        by_cases h5 : x2 < 0
        · rw [if_pos h5]
        · rw [if_neg h5, if_neg (by simp [i_lt] at h5; simp [i_lt]; omega)]
theorem st_veneer (x1 x2 x3 x4 x5 : Int32) (h5 : x5 &&& 1 = x5) : Sim Rel (fun S => fX10_veneer FU S x1 x2 x3 x4 x5) (fun S => fX11_veneer FU S x1 x2 x3 x4 x5) := by
  intro SC SM hR
  obtain ⟨hL, hT, hF, hG, hLf, hP, hC, hV, hPr, hPC⟩ := id hR
  show ∃ r SC2 SM2, fX10_veneer FU SC x1 x2 x3 x4 x5 = _ ∧ fX11_veneer FU SM x1 x2 x3 x4 x5 = _ ∧ _
  unfold fX10_veneer fX11_veneer fX9_set
  have hjm : ∀ x : Int32, 1 ≤ x.toInt → ((jmin 20 x).toInt = if x.toInt < 20 then x.toInt else 20) := fun x hx => by
    unfold jmin
    by_cases h : x < 20
    · rw [if_pos h]; simp [i_lt] at h; rw [if_pos h]
    · rw [if_neg h]; simp [i_lt] at h; rw [if_neg (by omega)]; rfl
  by_cases h1 : 0 ≤ x1.toInt ∧ x1.toInt ≤ 5
  · rw [within_T (by simp [i_le]; omega), if_neg (c := x1 < 0) (by simp [i_lt]; omega), if_neg (c := (6 : Int32) ≤ x1) (by simp [i_le]; omega)]
    show ∃ r SC2 SM2, (fX10_within FU SC x2 1 90).bind _ = _ ∧ _
    by_cases h2 : 1 ≤ x2.toInt ∧ x2.toInt ≤ 90
    · rw [within_T (by simp [i_le]; omega), if_neg (c := x2 < 1) (by simp [i_lt]; omega), if_neg (c := (90 : Int32) < x2) (by simp [i_lt]; omega)]
      show ∃ r SC2 SM2, (fX10_within FU SC x3 0 (jmin 20 x2)).bind _ = _ ∧ _
      have hj := hjm x2 h2.1
      by_cases h3 : 0 ≤ x3.toInt ∧ x3.toInt ≤ 20 ∧ x3.toInt ≤ x2.toInt
      · have h3b : x3.toInt ≤ (jmin 20 x2).toInt := by rw [hj]; split <;> omega
        rw [within_T ⟨by simp [i_le]; omega, i_le.mpr h3b⟩, if_neg (c := x3 < 0) (by simp [i_lt]; omega), if_neg (c := (20 : Int32) < x3) (by simp [i_lt]; omega), if_neg (c := x2 < x3) (by rw [i_lt]; omega)]
        show ∃ r SC2 SM2, (fX10_within FU SC x4 0 1000).bind _ = _ ∧ _
        by_cases h4 : 0 ≤ x4.toInt ∧ x4.toInt ≤ 1000
        · have hv : vin x1 6 = true := by rw [vin_iff]; omega
          rw [within_T (by simp [i_le]; omega), if_neg (c := x4 < 0) (by simp [i_lt]; omega), if_pos (c := x4 ≤ 1000) (by simp [i_le]; omega), if_pos hv]
          refine ⟨1, us (us (us (us SC 37 (ix x1) x2) 38 (ix x1) x3) 39 (ix x1) x4) 40 (ix x1) x5, us (us (us (us SM 23 (ix x1) x2) 24 (ix x1) x3) 25 (ix x1) x4) 27 (ix x1) x5, ?_, ?_, hL.fr rfl rfl rfl, hT.fr rfl rfl rfl rfl, hF.fr rfl rfl rfl, hG.fr rfl rfl rfl rfl rfl rfl rfl rfl rfl rfl rfl, hLf.fr rfl rfl rfl rfl rfl rfl rfl rfl, hP.fr rfl rfl rfl rfl, hC.fr rfl rfl rfl rfl rfl rfl rfl rfl rfl rfl rfl rfl rfl rfl rfl rfl, fun k hk => ?_, hPr.fr rfl rfl rfl rfl rfl rfl rfl rfl rfl rfl, hPC.fr rfl rfl rfl rfl rfl rfl⟩
          · show Option.bind (if x1 < 0 then _ else _) _ = _
            rw [if_neg (c := x1 < 0) (by simp [i_lt]; omega), if_pos (c := x1 < 6) (by simp [i_lt]; omega)]
            simp only [hv, if_true, bindS, h5]
            rfl
          · simp only [hv, if_true, bindS, h5]
          · by_cases hk2 : k = ix x1
            · subst hk2
              obtain ⟨t, rfl, t2, t3⟩ := i_ex (x := x2) (by omega)
              obtain ⟨o, rfl, o2, o3⟩ := i_ex h3.1
              obtain ⟨p, rfl, p2, p3⟩ := i_ex h4.1
              refine ⟨t, o, p, by omega, by omega, by omega, by omega, by omega, ?_, ?_, ?_, ?_, ?_, ?_, ?_, ?_⟩ <;> simp [us_rd]
              exact z01 h5
            · have := hV k hk
              simpa [us_rd, hk2] using this
        · rw [within_F (by simp [i_le]; omega)]
          refine ⟨0, SC, SM, rfl, ?_, hR⟩
          by_cases h6 : x4 < 0
          · rw [if_pos h6]
          · rw [if_neg h6, if_neg (by simp [i_lt] at h6; simp [i_le]; omega)]
      · rw [within_F (fun h => h3 (by have a1 := i_le.mp h.1; have a2 := i_le.mp h.2; simp at a1; rw [hj] at a2; split at a2 <;> omega))]
        refine ⟨0, SC, SM, rfl, ?_, hR⟩
        by_cases h6 : x3 < 0
        · rw [if_pos h6]
        · rw [if_neg h6]
          by_cases h7 : (20 : Int32) < x3
          · rw [if_pos h7]
          · rw [if_neg h7, if_pos (by simp [i_lt] at h6 h7; rw [i_lt]; omega)]
    · rw [within_F (by simp [i_le]; omega)]
      refine ⟨0, SC, SM, rfl, ?_, hR⟩
      by_cases h6 : x2 < 1
      · rw [if_pos h6]
      · rw [if_neg h6, if_pos (by simp [i_lt] at h6; simp [i_lt]; omega)]
  · rw [within_F (by simp [i_le]; omega)]
    refine ⟨0, SC, SM, rfl, ?_, hR⟩
    by_cases h6 : x1 < 0
    · rw [if_pos h6]
    · rw [if_neg h6, if_pos (by simp [i_lt] at h6; simp [i_le]; omega)]
