theorem clip_in {SC SM : ST} (hR : Rel SC SM) : ∃ (G N : Nat) (e wi wo mk : Nat → Nat) (P co : Nat), CI SC G N e wi wo mk (SC.1 24) P co ∧ MI SM G N e wi wo mk (SC.1 24) P co ∧ SF G N e wi wo mk (SC.1 24) P co := by
  obtain ⟨_, _, _, ⟨G, e, g1, g2, g3, g4, g5, g6, g7, g8, g9⟩, ⟨N, mk, l1, l2, l3, l4, _, _, _, _, _, l5⟩, ⟨⟨P, p1, p2, p3⟩, co, p4, p5, p6⟩, _⟩ := hR
  obtain ⟨wi, hwi⟩ := Classical.axiomOfChoice (r := fun g w => g < G → 1 ≤ w ∧ w ≤ 100 ∧ SC.1 21 g = nI w ∧ SM.1 3 g = nI w) (fun g => by
    by_cases hg : g < G
    · obtain ⟨⟨w, h⟩, _⟩ := g7 g hg
      exact ⟨w, fun _ => h⟩
    · exact ⟨0, fun h => absurd h hg⟩)
  obtain ⟨wo, hwo⟩ := Classical.axiomOfChoice (r := fun g w => g < G → 1 ≤ w ∧ w ≤ 9999 ∧ SC.1 22 g = nI w ∧ SM.1 4 g = nI w) (fun g => by
    by_cases hg : g < G
    · obtain ⟨_, ⟨w, h⟩, _⟩ := g7 g hg
      exact ⟨w, fun _ => h⟩
    · exact ⟨0, fun h => absurd h hg⟩)
  have hGC : GC SC G e wi wo := ⟨g1, g2, g4, g5, g6, fun g hg => ⟨⟨(hwi g hg).1, (hwi g hg).2.1, (hwi g hg).2.2.1⟩, ⟨(hwo g hg).1, (hwo g hg).2.1, (hwo g hg).2.2.1⟩, (g7 g hg).2.2.1, (g7 g hg).2.2.2⟩, fun k hk => ⟨_, _, g9 k hk⟩⟩
  refine ⟨G, N, e, wi, wo, mk, P, co, ⟨hGC, ⟨l1, l2, fun i hi => (l4 i hi).1, l5⟩, rfl, p2, p5, p1, p4⟩, ⟨⟨g3, fun g hg => ⟨(hwi g hg).2.2.2, (hwo g hg).2.2.2⟩, g8, g9⟩, ⟨l3, fun i hi => (l4 i hi).2⟩, p3, p6⟩, ⟨g1, l1, fun i hi => (l4 i hi).1, p1, p4, fun g hg => ⟨⟨(hwi g hg).1, (hwi g hg).2.1⟩, ⟨(hwo g hg).1, (hwo g hg).2.1⟩, hGC.bd hg, (g7 g hg).2.2.2⟩⟩⟩
theorem Rel.frC2 {SC SC2 SM : ST} (h : Rel SC SM) (f : frF SC SC2) (hc : RClip SC2) : Rel SC2 SM := by
  obtain ⟨hL, hT, hFl, hG, hLf, hPa, hC, hV, hPr, hPC⟩ := h
  have g : ∀ c, c ≠ 6 → c ≠ 8 → c ≠ 9 → c ≠ 25 → (c < 31 ∨ 36 < c) → SC2.1 c = SC.1 c := fun c a1 a2 a3 a4 a5 => f.1 c a1 a2 a3 a4 (by omega) (by omega)
  exact ⟨hL.fr (g 12 (by decide) (by decide) (by decide) (by decide) (by decide)) (g 1 (by decide) (by decide) (by decide) (by decide) (by decide)) rfl, hT.fr (by rw [g 2 (by decide) (by decide) (by decide) (by decide) (by decide)]) (g 13 (by decide) (by decide) (by decide) (by decide) (by decide)) rfl rfl, hFl.fr (g 0 (by decide) (by decide) (by decide) (by decide) (by decide)) rfl rfl, hG.fr (f.2.1 5 (by decide)) (g 21 (by decide) (by decide) (by decide) (by decide) (by decide)) (g 22 (by decide) (by decide) (by decide) (by decide) (by decide)) (g 23 (by decide) (by decide) (by decide) (by decide) (by decide)) (g 24 (by decide) (by decide) (by decide) (by decide) (by decide)) rfl rfl rfl rfl rfl rfl, hLf.fr (g 7 (by decide) (by decide) (by decide) (by decide) (by decide)) (g 26 (by decide) (by decide) (by decide) (by decide) (by decide)) (g 27 (by decide) (by decide) (by decide) (by decide) (by decide)) (g 28 (by decide) (by decide) (by decide) (by decide) (by decide)) (g 29 (by decide) (by decide) (by decide) (by decide) (by decide)) (g 30 (by decide) (by decide) (by decide) (by decide) (by decide)) rfl rfl, hPa.fr (f.2.2.1 8 (by decide) (by decide)) (f.2.2.1 9 (by decide) (by decide)) rfl rfl, hc, hV.fr (g 37 (by decide) (by decide) (by decide) (by decide) (by decide)) (g 38 (by decide) (by decide) (by decide) (by decide) (by decide)) (g 39 (by decide) (by decide) (by decide) (by decide) (by decide)) (g 40 (by decide) (by decide) (by decide) (by decide) (by decide)) rfl rfl rfl rfl, hPr.fr (g 11 (by decide) (by decide) (by decide) (by decide) (by decide)) (g 41 (by decide) (by decide) (by decide) (by decide) (by decide)) (g 42 (by decide) (by decide) (by decide) (by decide) (by decide)) rfl rfl rfl rfl rfl rfl rfl, hPC.fr (g 11 (by decide) (by decide) (by decide) (by decide) (by decide)) (g 41 (by decide) (by decide) (by decide) (by decide) (by decide)) (g 42 (by decide) (by decide) (by decide) (by decide) (by decide)) (g 46 (by decide) (by decide) (by decide) (by decide) (by decide)) (g 47 (by decide) (by decide) (by decide) (by decide) (by decide)) (g 48 (by decide) (by decide) (by decide) (by decide) (by decide))⟩
theorem Rel.frM3 {SC SM SM2 : ST} (h : Rel SC SM) (g : frMC SM SM2) : Rel SC SM2 := by
  obtain ⟨hL, hT, hFl, hG, hLf, hPa, hC, hV, hPr, hPC⟩ := h
  have k : ∀ a, a ≠ 0 → (a < 15 ∨ 22 < a) → SM2.1 a = SM.1 a := g.1
  have z : ∀ s, s ≠ 43 → SM2.1 0 s = SM.1 0 s := g.2.1
  exact ⟨hL.fr rfl rfl (k 1 (by decide) (by decide)), hT.fr rfl rfl (z 5 (by decide)) (k 2 (by decide) (by decide)), hFl.fr rfl (z 6 (by decide)) (z 7 (by decide)), hG.fr rfl rfl rfl rfl rfl (z 14 (by decide)) (k 3 (by decide) (by decide)) (k 4 (by decide) (by decide)) (k 5 (by decide) (by decide)) (k 6 (by decide) (by decide)) (k 7 (by decide) (by decide)), hLf.fr rfl rfl rfl rfl rfl rfl (z 32 (by decide)) (k 14 (by decide) (by decide)), hPa.fr rfl rfl (z 33 (by decide)) (z 34 (by decide)), hC, hV.fr rfl rfl rfl rfl (k 23 (by decide) (by decide)) (k 24 (by decide) (by decide)) (k 25 (by decide) (by decide)) (k 27 (by decide) (by decide)), hPr.fr rfl rfl rfl (z 53 (by decide)) (k 28 (by decide) (by decide)) (k 29 (by decide) (by decide)) (z 49 (by decide)) (z 50 (by decide)) (z 51 (by decide)) (z 52 (by decide)), hPC⟩
def OC (S : ST) (N : Nat) (E : Nat → Nat × Nat × Option Nat) (M : List Nat) : Prop := S.1 9 10 = nI M.length ∧ (∀ i, i < M.length → S.1 36 i = nI (M.getD i 0)) ∧ S.1 32 0 = nI (E 0).1 ∧ ∀ i, i < N → ∀ q, (E i).2.2 = some q → S.1 34 i = nI (q / 4) ∧ S.1 35 i = nI (q % 4)
theorem clip_find {SC SM : ST} (hR : Rel SC SM) {G N : Nat} {e wi wo mk : Nat → Nat} {P co : Nat} (hI : CI SC G N e wi wo mk (SC.1 24) P co) (F : Nat) (hF : 1000 ≤ F) (hFU : F = FU) : ∃ SC1 M, M = seqL G N wi wo co (spF P (SC.1 24) e mk wi) N 0 ∧ M.length ≤ N ∧ fX0_find F SC = some (0, SC1) ∧ OC SC1 N (clE G N wi wo co (spF P (SC.1 24) e mk wi)) M ∧ Rel SC1 SM := by
  by_cases h11 : SC.1 9 11 = 0
  · obtain ⟨S0, S1, a1, a2, a3, a4, a5, a6, a7, a8, a9, b1, b2, b3, b4, b5, b6, c1, c2, c3, c4, c5⟩ := hR.2.2.2.2.2.2.1 h11
    have hI0 : CI S0 G N e wi wo mk (SC.1 24) P co := by
      unfold CI GC LC at *
      rw [a2, a3, a4, a5, a6, a7, a8, a9, b1, b2, b3, b4, b5]
      exact hI
    obtain ⟨S2, M, d1, d2, d3, d4, d5, d6, d7, d8⟩ := findC_clip F hF S0 hI0 (by rw [a1]; exact z10)
    rw [hFU, b6] at d2
    have e : S1 = S2 := congrArg Prod.snd (Option.some.inj d2)
    subst e
    refine ⟨SC, M, d1, d5, ?_, ⟨by rw [← c1]; exact d4, fun i hi => by rw [← c5]; exact d6 i hi, by rw [← c2]; exact (d3.1 0 (Nat.le_refl _) (Nat.zero_le _)).1, fun i hi q hq => ?_⟩, hR⟩
    · unfold fX0_find
      rw [if_pos h11]
    · rw [← c3, ← c4]
      exact ((d3.2 i (Nat.zero_le _) hi).2.2.2 q hq).2
  · obtain ⟨S2, M, d1, d2, d3, d4, d5, d6, d7, d8⟩ := findC_clip F hF SC hI h11
    refine ⟨S2, M, d1, d5, d2, ⟨d4, d6, (d3.1 0 (Nat.le_refl _) (Nat.zero_le _)).1, fun i hi q hq => ((d3.2 i (Nat.zero_le _) hi).2.2.2 q hq).2⟩, hR.frC2 d8 ?_⟩
    intro _
    have g : ∀ c, c ≠ 6 → c ≠ 8 → c ≠ 9 → c ≠ 25 → (c < 31 ∨ 36 < c) → SC.1 c = S2.1 c := fun c a1 a2 a3 a4 a5 => (d8.1 c a1 a2 a3 a4 (by omega) (by omega)).symm
    refine ⟨us SC 9 11 1, S2, rfl, (d8.2.1 5 (by decide)).symm, g 21 (by decide) (by decide) (by decide) (by decide) (by decide), g 22 (by decide) (by decide) (by decide) (by decide) (by decide), g 23 (by decide) (by decide) (by decide) (by decide) (by decide), g 24 (by decide) (by decide) (by decide) (by decide) (by decide), by rw [← g 7 (by decide) (by decide) (by decide) (by decide) (by decide)]; rfl, g 26 (by decide) (by decide) (by decide) (by decide) (by decide), g 27 (by decide) (by decide) (by decide) (by decide) (by decide), g 28 (by decide) (by decide) (by decide) (by decide) (by decide), g 29 (by decide) (by decide) (by decide) (by decide) (by decide), g 30 (by decide) (by decide) (by decide) (by decide) (by decide), (d8.2.2.1 8 (by decide) (by decide)).symm, (d8.2.2.1 9 (by decide) (by decide)).symm, ?_, rfl, rfl, rfl, rfl, rfl⟩
    rw [← hFU, ← d2]
    unfold fX0_find
    rw [if_neg (show ¬ (us SC 9 11 1).1 9 11 = 0 from z10), if_neg h11]
    have e : us (us SC 9 11 1) 9 11 0 = us SC 9 11 0 := by
      apply Prod.ext
      · funext q j
        rw [us_rd, us_rd, us_rd]
        by_cases hq : q = 9
        · by_cases hj : j = 11
          · simp [hq, hj]
          · simp [hj]
        · simp [hq]
      · rfl
    rw [e]
theorem clip_both {SC SM : ST} (hR : Rel SC SM) (F : Nat) (hF : 1000 ≤ F) (hFU : F = FU) : ∃ SC1 SM1 N E M, N ≤ 300 ∧ M.length ≤ N ∧ (∀ x, x ∈ M → x < N) ∧ fX0_find F SC = some (0, SC1) ∧ OC SC1 N E M ∧ fX11_clip F SM = some (0, SM1) ∧ ctI M E SM1 ∧ SM1.1 17 0 = nI (E 0).1 ∧ Rel SC1 SM1 := by
  obtain ⟨G, N, e, wi, wo, mk, P, co, hI, hM, hS⟩ := clip_in hR
  obtain ⟨SC1, M, h1, h2, h3, h4, h5⟩ := clip_find hR hI F hF hFU
  obtain ⟨SM1, g1, g2, g3, g4⟩ := clipM_eq F hF hS SM hM
  rw [← h1] at g2
  have hw : ∀ g, g < G → 1 ≤ wi g := fun g hg => (hS.2.2.2.2.2 g hg).1.1
  exact ⟨SC1, SM1, N, _, M, hS.2.1, h2, fun x hx => by
    rw [h1] at hx
    exact (seqL_ok G N wi wo co _ hw N 0 x hx).2.1, h3, h4, g1, g2, g3, h5.frM3 g4⟩
theorem worth_sim (F : Nat) (hF : 1000 ≤ F) (hFU : F = FU) : Sim Rel (fun S => fX10_worth F S) (fun S => fX11_worth F S) := by
  intro SC SM hR
  show ∃ r SC2 SM2, fX10_worth F SC = _ ∧ fX11_worth F SM = _ ∧ _
  obtain ⟨SC1, SM1, N, E, M, hN, hl, hx, h1, h2, h3, h4, h5, h6⟩ := clip_both hR F hF hFU
  refine ⟨nI (E 0).1, SC1, SM1, ?_, ?_, h6⟩
  · unfold fX10_worth fX0_totalWorth
    rw [h1, Option.bind_some, if_pos (by decide), show ix 0 = 0 from rfl, h2.2.2.1, Option.bind_some]
  · unfold fX11_worth
    rw [h3, Option.bind_some, if_pos (by decide), show ix 0 = 0 from rfl, h5]
theorem sheets_sim (F : Nat) (hF : 1000 ≤ F) (hFU : F = FU) : Sim Rel (fun S => fX10_sheets F S) (fun S => fX11_sheets F S) := by
  intro SC SM hR
  show ∃ r SC2 SM2, fX10_sheets F SC = _ ∧ fX11_sheets F SM = _ ∧ _
  obtain ⟨SC1, SM1, N, E, M, hN, hl, hx, h1, h2, h3, h4, h5, h6⟩ := clip_both hR F hF hFU
  refine ⟨nI M.length, SC1, SM1, ?_, ?_, h6⟩
  · unfold fX10_sheets
    rw [h1, Option.bind_some, h2.1]
  · unfold fX11_sheets
    rw [h3, Option.bind_some, h4.1]
theorem clipped_sim (F : Nat) (hF : 1000 ≤ F) (hFU : F = FU) (x1 x2 : Int32) : Sim Rel (fun S => fX10_clipped F S x1 x2) (fun S => fX11_clipped F S x1 x2) := by
  intro SC SM hR
  show ∃ r SC2 SM2, fX10_clipped F SC x1 x2 = _ ∧ fX11_clipped F SM x1 x2 = _ ∧ _
  obtain ⟨SC1, SM1, N, E, M, hN, hl, hx, h1, h2, h3, h4, h5, h6⟩ := clip_both hR F hF hFU
  unfold fX10_clipped fX11_clipped fX0_tell
  rw [h1, h3, Option.bind_some, Option.bind_some]
  by_cases h0 : x1 < 0
  · exact ⟨-1, SC1, SM1, by rw [if_pos h0, Option.bind_some], by rw [if_pos h0], h6⟩
  · rw [if_neg h0, if_neg h0, h2.1, h4.1]
    obtain ⟨k, rfl, hk, hk2⟩ := i_ex (x := x1) (by rw [i_lt, i0z] at h0; omega)
    by_cases c1 : k < M.length
    · have hmem : M.getD k 0 ∈ M := by
        rw [List.getD_eq_getElem?_getD, List.getElem?_eq_getElem c1]
        exact List.getElem_mem c1
      have hxn := hx _ hmem
      obtain ⟨m1, q, m2, m3, m4⟩ := h4.2 k c1
      obtain ⟨t1, t2⟩ := h2.2.2.2 _ hxn q m2
      rw [if_neg (nI_ge c1 (by omega)), if_pos (nI_lt c1 (by omega)), if_pos (show nI k < 300 from nI_lt (b := 300) (by omega) (by omega)), if_pos (vin_nI (by omega) (by omega)), ix_nI (by omega), h2.2.1 k c1, bindI_eq, if_neg (nI_pos (by omega)), if_pos (show nI (M.getD k 0) < 301 from nI_lt (b := 301) (by omega) (by omega))]
      by_cases d0 : x2 = 0
      · refine ⟨nI (M.getD k 0), SC1, SM1, ?_, ?_, h6⟩
        · rw [if_pos d0, Option.bind_some]
        · rw [if_pos d0, if_pos (vin_nI (by omega) (by omega)), m1]
      · rw [if_neg d0, if_neg d0]
        by_cases d1 : x2 = 1
        · refine ⟨nI (q / 4), SC1, SM1, ?_, ?_, h6⟩
          · rw [if_pos d1, if_pos (vin_nI (by omega) (by omega)), ix_nI (by omega), t1, Option.bind_some]
          · rw [if_pos d1, if_pos (vin_nI (by omega) (by omega)), m3]
        · rw [if_neg d1, if_neg d1]
          by_cases d2 : x2 = 2
          · refine ⟨nI (q % 4), SC1, SM1, ?_, ?_, h6⟩
            · rw [if_pos d2, if_pos (vin_nI (by omega) (by omega)), ix_nI (by omega), t2, Option.bind_some]
            · rw [if_pos d2, if_pos (vin_nI (by omega) (by omega)), m4]
          · exact ⟨-1, SC1, SM1, by rw [if_neg d2, Option.bind_some], by rw [if_neg d2], h6⟩
    · exact ⟨-1, SC1, SM1, by rw [if_pos (nI_le (by omega) (by omega)), Option.bind_some], by rw [if_neg (nI_nlt (by omega) (by omega))], h6⟩
theorem isSheetC_eq (F : Nat) (hF : 400 ≤ F) (S : ST) {G N : Nat} {e wi wo mk : Nat → Nat} {P co : Nat} (hI : CI S G N e wi wo mk (S.1 24) P co) {a g k : Nat} (hg : g < G) (haw : a + wi g ≤ N) (hk : k ≤ 3) : ∃ S2, fX0_isSheet F S (nI a) (nI g) (nI k) = some (bI (shP P (S.1 24) e mk a (wi g) g k), S2) ∧ frF S S2 ∧ (∀ c, c ≠ 6 → c ≠ 8 → c ≠ 25 → c ≠ 31 → S2.1 c = S.1 c) := by
  obtain ⟨hG, hL, h24, h98, h99, hP, hco⟩ := id hI
  obtain ⟨⟨w1, w2, w3⟩, _⟩ := hG.2.2.2.2.2.1 g hg
  obtain ⟨S1, b1, b2, b3, b4⟩ := begin_eq F (by omega) S hL (show a ≤ N by omega)
  have f1 : frF S S1 := ⟨fun c _ a2 _ _ a5 _ => by rw [b3 c a5, us_row, if_neg a2], fun j _ => by rw [b3 6 (by decide)]; rfl, fun j _ _ => by rw [b3 9 (by decide)]; rfl, b4⟩
  have hI1 := hI.fr f1
  obtain ⟨S2, q1, q2, q3, q4, q5⟩ := ending_eq F S1 hI1.2.1 b2 w1 w2 haw
  have f2 : frF S1 S2 := ⟨fun c _ a2 _ _ _ _ => q4 c a2, fun j _ => by rw [q4 6 (by decide)], fun j _ _ => by rw [q4 9 (by decide)], q5⟩
  have hI2 := hI1.fr f2
  obtain ⟨S3, r1, r2, r3, r4, r5⟩ := pis_eq F hF S2 hI2.1 hg (k := k) q2 w2 hI2.2.2.2.1 hP (by omega)
  have f3 : frF S2 S3 := ⟨fun c a1 a2 _ a4 _ _ => r2 c a1 a2 a4, r3, fun j _ _ => by rw [r2 9 (by decide) (by decide) (by decide)], r5⟩
  refine ⟨S3, ?_, f1.tr (f2.tr f3), ?_⟩
  · unfold fX0_isSheet
    rw [b1, Option.bind_some, wOf_eq F S1 hI1.1 hg, Option.bind_some, nI_add, q1, Option.bind_some, r1, Option.bind_some, hI2.2.2.1]
    by_cases c : shP P (S.1 24) e mk a (wi g) g k
    · rw [bI_T c]; exact if_pos a1_1
    · rw [bI_F c]; exact if_pos a1_0
  · intro c h1 h2 h3 h4
    rw [r2 c h1 h2 h3, q4 c h2, b3 c h4, us_row, if_neg h2]
theorem sheet_sim (F : Nat) (hF : 1000 ≤ F) (x1 x2 x3 : Int32) : Sim Rel (fun S => fX10_sheet F S x1 x2 x3) (fun S => fX11_sheet F S x1 x2 x3) := by
  intro SC SM hR
  show ∃ r SC2 SM2, fX10_sheet F SC x1 x2 x3 = _ ∧ fX11_sheet F SM x1 x2 x3 = _ ∧ _
  obtain ⟨G, N, e, wi, wo, mk, P, co, hI, hM, hS⟩ := clip_in hR
  obtain ⟨hG8, hN, hmk, hP, hco, hSg⟩ := id hS
  have i1 : (nI G - 1).toInt = (G : Int) - 1 := pk_sub_toInt (b := 1) (by omega) (by omega)
  have bad : (¬ (0 ≤ x3.toInt ∧ x3.toInt ≤ 3) ∨ ¬ (0 ≤ x2.toInt ∧ x2.toInt ≤ (G : Int) - 1)) → ∃ r SC2 SM2, fX10_sheet F SC x1 x2 x3 = some (r, SC2) ∧ fX11_sheet F SM x1 x2 x3 = some (r, SM2) ∧ Rel SC2 SM2 := fun hb => by
    refine ⟨-1, SC, SM, ?_, ?_, hR⟩
    · unfold fX10_sheet
      by_cases h3 : 0 ≤ x3.toInt ∧ x3.toInt ≤ 3
      · rw [within_T ⟨by simp [i_le]; omega, by simp [i_le]; omega⟩, Option.bind_some]
        show (if (1 : Int32) = 0 then _ else (fX10_within F SC x2 0 (SC.1 6 5 - 1)).bind _) = _
        rw [if_neg z10, hI.1.2.1, within_F (fun h => by rw [i_le, i_le, i1, i0z] at h; omega), Option.bind_some]
        exact if_pos rfl
      · rw [within_F (fun h => by simp [i_le] at h; omega), Option.bind_some]
        exact if_pos rfl
    · unfold fX11_sheet
      by_cases d1 : x2 < 0
      · rw [if_pos d1]
      · rw [if_neg d1]
        rw [i_lt, i0z] at d1
        rw [hM.1.1]
        by_cases d2 : nI G ≤ x2
        · rw [if_pos d2]
        · rw [if_neg d2]
          rw [i_le, i_lit (by omega)] at d2
          obtain ⟨g, rfl, hg, hg2⟩ := i_ex (x := x2) (by omega)
          by_cases d3 : x1 < 0
          · rw [if_pos d3]
          · rw [if_neg d3, if_pos (vin_nI (by omega) (by omega))]
            by_cases d4 : SM.1 0 32 - SM.1 3 (ix (nI g)) < x1
            · rw [if_pos d4]
            · rw [if_neg d4]
              by_cases d5 : x3 < 0
              · rw [if_pos d5]
              · rw [if_neg d5]
                rw [i_lt, i0z] at d5
                rw [if_neg (by simp [i_le]; omega)]
  by_cases h3 : 0 ≤ x3.toInt ∧ x3.toInt ≤ 3
  · by_cases h2 : 0 ≤ x2.toInt ∧ x2.toInt ≤ (G : Int) - 1
    · obtain ⟨g, rfl, hg, hg2⟩ := i_ex (x := x2) (by omega)
      obtain ⟨k, rfl, hk, hk2⟩ := i_ex (x := x3) (by omega)
      have hgG : g < G := by omega
      obtain ⟨⟨w1, w2⟩, ⟨o1, o2⟩, hbe, hty⟩ := hSg g hgG
      have i2 : (nI N - nI (wi g)).toInt = (N : Int) - (wi g : Int) := pk_sub_toInt (by omega) (by omega)
      have hleft : fX10_sheet F SC x1 (nI g) (nI k) = (fX10_within F SC x1 0 (nI N - nI (wi g))).bind (fun q46 => if q46.1 = 0 then some (-1, q46.2) else (fX0_isSheet F q46.2 x1 (nI g) (nI k)).bind (fun q61 => if q61.1 = 0 then some (0, q61.2) else some (1, q61.2))) := by
        unfold fX10_sheet
        rw [within_T ⟨by simp [i_le]; omega, by simp [i_le]; omega⟩, Option.bind_some]
        show (if (1 : Int32) = 0 then _ else (fX10_within F SC (nI g) 0 (SC.1 6 5 - 1)).bind _) = _
        rw [if_neg z10, hI.1.2.1, within_T ⟨by simp [i_le]; omega, by rw [i_le, i1]; omega⟩, Option.bind_some]
        show (if (1 : Int32) = 0 then _ else (fX2_widthOf F SC (nI g)).bind (fun q42 => (fX10_within F q42.2 x1 0 (SC.1 7 5 - q42.1)).bind _)) = _
        rw [if_neg z10, wOf_eq F SC hI.1 hgG, Option.bind_some, hI.2.1.2.1]
      have hright : fX11_sheet F SM x1 (nI g) (nI k) = if x1 < 0 then some (-1, SM) else if nI N - nI (wi g) < x1 then some (-1, SM) else (fX11_isSheet F SM x1 (nI g) (nI k)).bind (fun q46 => if q46.1 = 0 then some (0, q46.2) else some (1, q46.2)) := by
        unfold fX11_sheet
        rw [if_neg (nI_pos (by omega)), hM.1.1, if_neg (nI_ge hgG (by omega)), if_pos (vin_nI (by omega) (by omega)), ix_nI (by omega), (hM.1.2.1 g hgG).1, hM.2.1.1, if_neg (nI_pos (n := k) (by omega)), if_pos (show nI k ≤ 3 from nI_le (b := 3) (by omega) (by omega))]
      rw [hleft, hright]
      by_cases c1 : 0 ≤ x1.toInt ∧ x1.toInt ≤ (N : Int) - (wi g : Int)
      · obtain ⟨a, rfl, ha, ha2⟩ := i_ex (x := x1) (by omega)
        rw [within_T ⟨by simp [i_le]; omega, by rw [i_le, i2]; omega⟩, if_neg (nI_pos (by omega)), if_neg (by rw [i_lt, i2]; omega), Option.bind_some]
        obtain ⟨SC2, s1, s2, s3⟩ := isSheetC_eq F (by omega) SC hI (a := a) (k := k) hgG (by omega) (by omega)
        obtain ⟨SM2, t1, t2⟩ := shM_eq F (by omega) SM (code := SC.1 24) (k := k) (a := a) hG8 hN hmk hgG ⟨w1, w2⟩ (show a + wi g ≤ N by omega) hM.1 hM.2.1 hbe hty (fun env => hvI_01 env _ _ _) hM.2.2.1 hP (by omega)
        have hC2 : RClip SC2 := hR.2.2.2.2.2.2.1.fr (s3 9 (by decide) (by decide) (by decide) (by decide)) (s2.2.1 5 (by decide)) (s2.1 7 (by decide) (by decide) (by decide) (by decide) (by decide) (by decide)) (s2.1 21 (by decide) (by decide) (by decide) (by decide) (by decide) (by decide)) (s2.1 22 (by decide) (by decide) (by decide) (by decide) (by decide) (by decide)) (s2.1 23 (by decide) (by decide) (by decide) (by decide) (by decide) (by decide)) (s2.1 24 (by decide) (by decide) (by decide) (by decide) (by decide) (by decide)) (s2.1 26 (by decide) (by decide) (by decide) (by decide) (by decide) (by decide)) (s2.1 27 (by decide) (by decide) (by decide) (by decide) (by decide) (by decide)) (s2.1 28 (by decide) (by decide) (by decide) (by decide) (by decide) (by decide)) (s2.1 29 (by decide) (by decide) (by decide) (by decide) (by decide) (by decide)) (s2.1 30 (by decide) (by decide) (by decide) (by decide) (by decide) (by decide)) (s3 32 (by decide) (by decide) (by decide) (by decide)) (s3 34 (by decide) (by decide) (by decide) (by decide)) (s3 35 (by decide) (by decide) (by decide) (by decide)) (s3 36 (by decide) (by decide) (by decide) (by decide))
        have hM2 : frMC SM SM2 := ⟨fun c _ a2 => t2.1 c (by omega) (by omega), fun j _ => by rw [t2.1 0 (by decide) (by decide)], t2.2⟩
        have hR2 := (hR.frC2 s2 hC2).frM3 hM2
        rw [t1]
        show ∃ r SC3 SM3, (if (1 : Int32) = 0 then _ else (fX0_isSheet F SC (nI a) (nI g) (nI k)).bind _) = _ ∧ _
        rw [if_neg z10, s1, Option.bind_some, Option.bind_some]
        by_cases c : shP P (SC.1 24) e mk a (wi g) g k
        · rw [bI_T c]
          exact ⟨1, SC2, SM2, if_neg z10, if_neg z10, hR2⟩
        · rw [bI_F c]
          exact ⟨0, SC2, SM2, if_pos rfl, if_pos rfl, hR2⟩
      · refine ⟨-1, SC, SM, ?_, ?_, hR⟩
        · rw [within_F (fun h => by rw [i_le, i_le, i2, i0z] at h; omega), Option.bind_some]
          exact if_pos rfl
        · by_cases d1 : x1 < 0
          · rw [if_pos d1]
          · rw [if_neg d1]
            rw [i_lt, i0z] at d1
            rw [if_pos (by rw [i_lt, i2]; omega)]
    · exact bad (Or.inr h2)
  · exact bad (Or.inl h3)
theorem st_sheet (x1 x2 x3 : Int32) : Sim Rel (fun S => fX10_sheet FU S x1 x2 x3) (fun S => fX11_sheet FU S x1 x2 x3) := sheet_sim FU (by decide) x1 x2 x3
theorem st_worth : Sim Rel (fun S => fX10_worth FU S) (fun S => fX11_worth FU S) := worth_sim FU (by decide) rfl
theorem st_sheets : Sim Rel (fun S => fX10_sheets FU S) (fun S => fX11_sheets FU S) := sheets_sim FU (by decide) rfl
theorem st_clipped (x1 x2 : Int32) : Sim Rel (fun S => fX10_clipped FU S x1 x2) (fun S => fX11_clipped FU S x1 x2) := clipped_sim FU (by decide) rfl x1 x2
