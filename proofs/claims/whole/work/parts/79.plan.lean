theorem press_in {SC SM : ST} (h : RPr SC SM) : ∃ (n : Nat) (th mi : Nat → Nat) (o ba pe li : Nat), n ≤ 10 ∧ PH th mi o ba pe li ∧ IC SC n th mi o ba pe li ∧ IM SM n th mi o ba pe li := by
  obtain ⟨⟨n, hn, b2, b3, b4⟩, o, b, p, l, h1, h2, h3, h4, h5, h6, c1, m1, c2, m2, c3, m3, c4, m4⟩ := h
  obtain ⟨th, hth⟩ := Classical.axiomOfChoice (r := fun i t => (1 ≤ t ∧ t ≤ 500) ∧ (i < n → SC.1 41 i = nI t ∧ SM.1 28 i = nI t)) (fun i => by
    by_cases hi : i < n
    · obtain ⟨⟨t, a1, a2, a3, a4⟩, _⟩ := b4 i hi
      exact ⟨t, ⟨a1, a2⟩, fun _ => ⟨a3, a4⟩⟩
    · exact ⟨1, ⟨by omega, by omega⟩, fun h => absurd h hi⟩)
  obtain ⟨mi, hmi⟩ := Classical.axiomOfChoice (r := fun i t => t ≤ 10000 ∧ (i < n → SC.1 42 i = nI t ∧ SM.1 29 i = nI t)) (fun i => by
    by_cases hi : i < n
    · obtain ⟨_, t, a1, a3, a4⟩ := b4 i hi
      exact ⟨t, a1, fun _ => ⟨a3, a4⟩⟩
    · exact ⟨0, by omega, fun h => absurd h hi⟩)
  refine ⟨n, th, mi, o, b, p, l, hn, ⟨fun i => ⟨(hth i).1.1, (hth i).1.2, (hmi i).1⟩, h3, h4, h6, h2⟩, ⟨b2, c1, c2, c3, c4, fun i hi => ⟨((hth i).2 hi).1, ((hmi i).2 hi).1⟩⟩, ⟨b3, m1, m2, m3, m4, fun i hi => ⟨((hth i).2 hi).2, ((hmi i).2 hi).2⟩⟩⟩
def PO (S : ST) (n : Nat) (th mi : Nat → Nat) (o ba pe li c N : Nat) : Prop := S.1 11 13 = nI c ∧ S.1 11 14 = nI N ∧ (∀ r, r < 2 ^ n → S.1 46 r = edI th mi o ba pe li r) ∧ LdC S th mi o ba pe li c N N
theorem press_find {SC SM : ST} (hR : Rel SC SM) {n : Nat} {th mi : Nat → Nat} {o ba pe li c N : Nat} (hn : n ≤ 10) (hP : PH th mi o ba pe li) (hI : IC SC n th mi o ba pe li) (hc : c = chT th mi o ba pe li (2 ^ n - 1)) (hN : N ≤ 10) (hN0 : chnT th mi o ba pe li c N = 0) (hN1 : ∀ k, k < N → 0 < chnT th mi o ba pe li c k) (F : Nat) (hF : 2000 ≤ F) (hFU : F = FU) : ∃ SC1, fX6_find F SC = some (0, SC1) ∧ PO SC1 n th mi o ba pe li c N ∧ Rel SC1 SM := by
  by_cases h15 : SC.1 11 15 = 0
  · refine ⟨SC, ?_, ?_, hR⟩
    · unfold fX6_find
      rw [if_pos h15]
    · obtain ⟨S0, S1, a1, a2, a3, a4, a5, a6, a7, a8, a9, b1, b2, b3, b4, b5⟩ := hR.2.2.2.2.2.2.2.2.2 h15
      have hI0 : IC S0 n th mi o ba pe li := by
        unfold IC at *
        rw [a2, a3, a4, a5, a6, a7, a8]
        exact hI
      obtain ⟨S2, c1, c2, c3, c4, c5, c6, c7⟩ := findP_eq F hF hn hP S0 hI0 (by rw [a1]; exact z10) hc hN hN0 hN1
      rw [hFU, a9] at c1
      have e : S1 = S2 := congrArg Prod.snd (Option.some.inj c1)
      subst e
      refine ⟨by rw [← b1]; exact c2, by rw [← b2]; exact c3, fun r hr => by rw [← b3]; exact c5 r hr, ?_⟩
      unfold LdC at *
      rw [← b4, ← b5]
      exact c6
  · obtain ⟨S2, c1, c2, c3, c4, c5, c6, c7⟩ := findP_eq F hF hn hP SC hI h15 hc hN hN0 hN1
    refine ⟨S2, c1, ⟨c2, c3, c5, c6⟩, ?_⟩
    obtain ⟨hL, hT, hFl, hG, hLf, hPa, hC, hV, hPr, hPC⟩ := hR
    have g : ∀ a, a ≠ 11 → (a < 43 ∨ 48 < a) → S2.1 a = SC.1 a := fun a h1 h2 => c7.1 a h1 (by omega) (by omega) (by omega) (by omega) (by omega) (by omega)
    refine ⟨hL.fr (g 12 (by decide) (by decide)) (g 1 (by decide) (by decide)) rfl, hT.fr (by rw [g 2 (by decide) (by decide)]) (g 13 (by decide) (by decide)) rfl rfl, hFl.fr (g 0 (by decide) (by decide)) rfl rfl, hG.fr (by rw [g 6 (by decide) (by decide)]) (g 21 (by decide) (by decide)) (g 22 (by decide) (by decide)) (g 23 (by decide) (by decide)) (g 24 (by decide) (by decide)) rfl rfl rfl rfl rfl rfl, hLf.fr (g 7 (by decide) (by decide)) (g 26 (by decide) (by decide)) (g 27 (by decide) (by decide)) (g 28 (by decide) (by decide)) (g 29 (by decide) (by decide)) (g 30 (by decide) (by decide)) rfl rfl, hPa.fr (by rw [g 9 (by decide) (by decide)]) (by rw [g 9 (by decide) (by decide)]) rfl rfl, hC.fr (g 9 (by decide) (by decide)) (by rw [g 6 (by decide) (by decide)]) (g 7 (by decide) (by decide)) (g 21 (by decide) (by decide)) (g 22 (by decide) (by decide)) (g 23 (by decide) (by decide)) (g 24 (by decide) (by decide)) (g 26 (by decide) (by decide)) (g 27 (by decide) (by decide)) (g 28 (by decide) (by decide)) (g 29 (by decide) (by decide)) (g 30 (by decide) (by decide)) (g 32 (by decide) (by decide)) (g 34 (by decide) (by decide)) (g 35 (by decide) (by decide)) (g 36 (by decide) (by decide)), hV.fr (g 37 (by decide) (by decide)) (g 38 (by decide) (by decide)) (g 39 (by decide) (by decide)) (g 40 (by decide) (by decide)) rfl rfl rfl rfl, ?_, ?_⟩
    · unfold RPr at *
      rw [g 41 (by decide) (by decide), g 42 (by decide) (by decide), c7.2.1 8 (by decide) (by decide) (by decide), c7.2.1 9 (by decide) (by decide) (by decide), c7.2.1 10 (by decide) (by decide) (by decide), c7.2.1 11 (by decide) (by decide) (by decide), c7.2.1 12 (by decide) (by decide) (by decide)]
      exact hPr
    · intro _
      refine ⟨us SC 11 15 1, S2, rfl, (g 41 (by decide) (by decide)).symm, (g 42 (by decide) (by decide)).symm, (c7.2.1 8 (by decide) (by decide) (by decide)).symm, (c7.2.1 9 (by decide) (by decide) (by decide)).symm, (c7.2.1 10 (by decide) (by decide) (by decide)).symm, (c7.2.1 11 (by decide) (by decide) (by decide)).symm, (c7.2.1 12 (by decide) (by decide) (by decide)).symm, ?_, rfl, rfl, rfl, rfl, rfl⟩
      rw [← hFU, ← c1]
      unfold fX6_find
      rw [if_neg (show ¬ (us SC 11 15 1).1 11 15 = 0 from z10), if_neg h15]
      have e : us (us SC 11 15 1) 11 15 0 = us SC 11 15 0 := by
        apply Prod.ext
        · funext q j
          rw [us_rd, us_rd, us_rd]
          by_cases hq : q = 11
          · by_cases hj : j = 15
            · simp [hq, hj]
            · simp [hj]
          · simp [hq]
        · rfl
      rw [e]
theorem Rel.frM2 {SC SM SM2 : ST} (h : Rel SC SM) (g : frPM SM SM2) : Rel SC SM2 := by
  obtain ⟨hL, hT, hFl, hG, hLf, hPa, hC, hV, hPr, hPC⟩ := h
  have k : ∀ a, a ≠ 0 → (a < 30 ∨ 32 < a) → SM2.1 a = SM.1 a := fun a h1 h2 => g.1 a h1 (by omega) (by omega) (by omega)
  have z : ∀ s, s ≠ 59 → s ≠ 60 → SM2.1 0 s = SM.1 0 s := g.2.1
  exact ⟨hL.fr rfl rfl (k 1 (by decide) (by decide)), hT.fr rfl rfl (z 5 (by decide) (by decide)) (k 2 (by decide) (by decide)), hFl.fr rfl (z 6 (by decide) (by decide)) (z 7 (by decide) (by decide)), hG.fr rfl rfl rfl rfl rfl (z 14 (by decide) (by decide)) (k 3 (by decide) (by decide)) (k 4 (by decide) (by decide)) (k 5 (by decide) (by decide)) (k 6 (by decide) (by decide)) (k 7 (by decide) (by decide)), hLf.fr rfl rfl rfl rfl rfl rfl (z 32 (by decide) (by decide)) (k 14 (by decide) (by decide)), hPa.fr rfl rfl (z 33 (by decide) (by decide)) (z 34 (by decide) (by decide)), hC, hV.fr rfl rfl rfl rfl (k 23 (by decide) (by decide)) (k 24 (by decide) (by decide)) (k 25 (by decide) (by decide)) (k 27 (by decide) (by decide)), hPr.fr rfl rfl rfl (z 53 (by decide) (by decide)) (k 28 (by decide) (by decide)) (k 29 (by decide) (by decide)) (z 49 (by decide) (by decide)) (z 50 (by decide) (by decide)) (z 51 (by decide) (by decide)) (z 52 (by decide) (by decide)), hPC⟩
theorem plan_sim (F : Nat) (hF : 2000 ≤ F) (hFU : F = FU) (x1 : Int32) : Sim Rel (fun S => fX10_plan F S x1) (fun S => fX11_plan F S x1) := by
  intro SC SM hR
  show ∃ r SC2 SM2, fX10_plan F SC x1 = _ ∧ fX11_plan F SM x1 = _ ∧ _
  obtain ⟨n, th, mi, o, ba, pe, li, hn, hP, hI, hIM⟩ := press_in hR.2.2.2.2.2.2.2.2.1
  have h10 : 2 ^ n ≤ 2 ^ 10 := Nat.pow_le_pow_right (by omega) hn
  have hpos : 0 < 2 ^ n := Nat.pow_pos (by omega)
  obtain ⟨S2, c, N, hc, hN, hN0, hN1, e1, e2, e3, e4, e5, e6⟩ := seekP_eq F hF hn hP SM hIM
  obtain ⟨SC1, d1, ⟨d2, d3, d4, d5⟩, d6⟩ := press_find hR hn hP hI hc hN hN0 hN1 F hF hFU
  have hck := chT_ok th mi o ba pe li (2 ^ n - 1)
  rw [← hc] at hck
  have hR2 := d6.frM2 e6
  unfold fX10_plan fX11_plan
  rw [d1, e1, Option.bind_some, Option.bind_some]
  by_cases h0 : x1 = 0
  · refine ⟨nI (cntN 10 c), SC1, S2, ?_, ?_, hR2⟩
    · rw [if_pos h0, d2, bc_eq F SC1 (by omega), Option.bind_some]
    · rw [if_pos h0, e3, mny_eq F (by omega) S2 (by omega), Option.bind_some]
  · rw [if_neg h0, if_neg h0]
    by_cases h1 : x1 = 1
    · exact ⟨nI c, SC1, S2, by rw [if_pos h1, d2], by rw [if_pos h1, e3], hR2⟩
    · rw [if_neg h1, if_neg h1]
      by_cases h2 : x1 = 2
      · refine ⟨nI (outT th mi o ba pe li c), SC1, S2, ?_, ?_, hR2⟩
        · rw [if_pos h2, d2, oOf_eq F hP SC1 (by omega) (d4 c (by omega)), Option.bind_some, if_neg hck.2]
        · rw [if_pos h2, e3, if_pos (vin_nI (by omega) (by omega)), ix_nI (by omega), e4 c (by omega)]
      · rw [if_neg h2, if_neg h2]
        by_cases h3 : x1 = 3
        · exact ⟨nI N, SC1, S2, by rw [if_pos h3, d3], by rw [if_pos h3, e2], hR2⟩
        · exact ⟨-1, SC1, S2, by rw [if_neg h3], by rw [if_neg h3], hR2⟩
theorem load_sim (F : Nat) (hF : 2000 ≤ F) (hFU : F = FU) (x1 x2 : Int32) : Sim Rel (fun S => fX10_load F S x1 x2) (fun S => fX11_load F S x1 x2) := by
  intro SC SM hR
  show ∃ r SC2 SM2, fX10_load F SC x1 x2 = _ ∧ fX11_load F SM x1 x2 = _ ∧ _
  obtain ⟨n, th, mi, o, ba, pe, li, hn, hP, hI, hIM⟩ := press_in hR.2.2.2.2.2.2.2.2.1
  obtain ⟨S2, c, N, hc, hN, hN0, hN1, e1, e2, e3, e4, e5, e6⟩ := seekP_eq F hF hn hP SM hIM
  obtain ⟨SC1, d1, ⟨d2, d3, d4, d5⟩, d6⟩ := press_find hR hn hP hI hc hN hN0 hN1 F hF hFU
  have hR2 := d6.frM2 e6
  unfold fX10_load fX11_load fX6_tell
  rw [d1, e1, Option.bind_some, Option.bind_some]
  by_cases h0 : x1 < 0
  · exact ⟨-1, SC1, S2, by rw [if_pos h0, Option.bind_some], by rw [if_pos h0], hR2⟩
  · rw [if_neg h0, if_neg h0, d3, e2]
    obtain ⟨k, rfl, hk, hk2⟩ := i_ex (x := x1) (by rw [i_lt, i0z] at h0; omega)
    by_cases h1 : k < N
    · obtain ⟨l1, l2⟩ := d5 (N - 1 - k) (by omega)
      obtain ⟨m1, m2⟩ := e5 (N - 1 - k) (by omega)
      rw [show N - 1 - (N - 1 - k) = k by omega] at l1 l2
      have e7 : nI N - 1 - nI k = nI (N - 1 - k) := by
        rw [show N = (N - 1) + 1 by omega, nI_pred, pk_sub (by omega)]
        rfl
      rw [if_neg (nI_ge h1 (by omega)), if_pos (nI_lt h1 (by omega)), if_pos (show nI k < 10 from nI_lt (b := 10) (by omega) (by omega)), e7]
      by_cases h2 : x2 = 0
      · refine ⟨SC1.1 47 k, SC1, S2, ?_, ?_, hR2⟩
        · rw [if_pos h2, if_pos (vin_nI (by omega) (by omega)), ix_nI (by omega), Option.bind_some]
        · rw [if_pos h2, if_pos (vin_nI (by omega) (by omega)), ix_nI (by omega), l1, m1]
      · rw [if_neg h2, if_neg h2]
        by_cases h3 : x2 = 1
        · refine ⟨SC1.1 48 k, SC1, S2, ?_, ?_, hR2⟩
          · rw [if_pos h3, if_pos (vin_nI (by omega) (by omega)), ix_nI (by omega), Option.bind_some]
          · rw [if_pos h3, if_pos (vin_nI (by omega) (by omega)), ix_nI (by omega), l2, m2]
        · exact ⟨-1, SC1, S2, by rw [if_neg h3, Option.bind_some], by rw [if_neg h3], hR2⟩
    · exact ⟨-1, SC1, S2, by rw [if_pos (nI_le (by omega) (by omega)), Option.bind_some], by rw [if_neg (nI_nlt (by omega) (by omega))], hR2⟩
theorem st_plan (x1 : Int32) : Sim Rel (fun S => fX10_plan FU S x1) (fun S => fX11_plan FU S x1) := plan_sim FU (by decide) rfl x1
theorem st_load (x1 x2 : Int32) : Sim Rel (fun S => fX10_load FU S x1 x2) (fun S => fX11_load FU S x1 x2) := load_sim FU (by decide) rfl x1 x2
