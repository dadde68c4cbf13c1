theorem by_eq (x : Int32) (n : Nat) (hn : n ≤ 24) : (x.toUInt32 >>> ((nI n).toUInt32 &&& Int32.toUInt32 31)).toInt32 &&& 255 = (x >>> (nI n &&& 31)) &&& 255 := by
  apply b_ext
  intro i hi
  rw [b_and, b_and, b_ushr n (by omega), b_sshr n (by omega) x hi, b_255]
  by_cases h : i < 8
  · rw [if_pos (by omega)]
  · simp [h]
def pb (x : Int32) (n : Nat) : Int32 := (x >>> (nI n &&& 31)) &&& 255
theorem pb_lt (x : Int32) (n : Nat) : ∃ b, b < 256 ∧ pb x n = nI b := by
  obtain ⟨j, h1, h2⟩ := pk_andE (x >>> (nI n &&& 31)) (m := 255) 8 (by decide)
  exact ⟨j, h1, h2⟩
def ap1 (S : ST) (c k j n : Nat) (v : Int32) : ST := us (us S c n v) k j (nI (n + 1))
def ap4 (S : ST) (c k j n : Nat) (x : Int32) : ST := ap1 (ap1 (ap1 (ap1 S c k j n (pb x 24)) c k j (n + 1) (pb x 16)) c k j (n + 2) (pb x 8)) c k j (n + 3) (pb x 0)
theorem ap_step (F f : Nat) (S : ST) (x : Int32) (s : Nat) (hs : s ≤ 24) (k : Nat) (hk : k < 600) (hl : S.1 2 1 = nI k) : fX7_append_3 F (f + 1) S x (nI s) = fX7_append_3 F f (ap1 S 13 2 1 k (pb x s)) x (nI s + -8) := by
  rw [fX7_append_3, if_neg (nI_pos (by omega)), hl, if_neg (c := (600 : Int32) ≤ nI k) (nI_ge (b := 600) (by omega) (by omega)), if_pos (vin_nI hk (by omega)), ix_nI (by omega), by_eq x s hs]
  show fX7_append_3 F f (us (us S 13 k (pb x s)) 2 1 (S.1 2 1 + 1)) x _ = _
  rw [hl, nI_1]
  rfl
theorem ap1_l (S : ST) (c k j n : Nat) (v : Int32) : (ap1 S c k j n v).1 k j = nI (n + 1) := by simp [ap1, us_rd]
theorem fu_5 : FU = 19995 + 1 + 1 + 1 + 1 + 1 := rfl
theorem ap_all (S : ST) (x : Int32) (k : Nat) (hk : k + 4 ≤ 600) (hl : S.1 2 1 = nI k) : fX7_append FU S x = some (0, ap4 S 13 2 1 k x) := by
  show fX7_append_3 FU FU S x (nI 24) = _
  generalize hF : FU = F
  rw [fu_5] at hF
  rw [← hF]
  rw [ap_step _ _ _ _ 24 (by omega) k (by omega) hl]
  rw [show nI 24 + -8 = nI 16 by decide, ap_step _ _ _ _ 16 (by omega) (k + 1) (by omega) (ap1_l _ _ _ _ _ _)]
  rw [show nI 16 + -8 = nI 8 by decide, ap_step _ _ _ _ 8 (by omega) (k + 2) (by omega) (ap1_l _ _ _ _ _ _)]
  rw [show nI 8 + -8 = nI 0 by decide, ap_step _ _ _ _ 0 (by omega) (k + 3) (by omega) (ap1_l _ _ _ _ _ _)]
  rw [fX7_append_3, if_pos (by decide)]
  rfl
theorem fo_step (F f : Nat) (S : ST) (x : Int32) (s : Nat) (hs : s ≤ 24) (k : Nat) (hk : k < 600) (hl : S.1 0 5 = nI k) : fX11_four_3 F (f + 1) S x (nI s) = fX11_four_3 F f (ap1 S 2 0 5 k (pb x s)) x (nI s + -8) := by
  rw [fX11_four_3, if_neg (nI_pos (by omega)), hl, if_pos (vin_nI hk (by omega)), ix_nI (by omega)]
  show fX11_four_3 F f (us (us S 2 k (pb x s)) 0 5 (S.1 0 5 + 1)) x _ = _
  rw [hl, nI_1]
  rfl
theorem fo_all (S : ST) (x : Int32) (k : Nat) (hk : k + 4 ≤ 600) (hl : S.1 0 5 = nI k) : fX11_four FU S x = some (0, ap4 S 2 0 5 k x) := by
  show fX11_four_3 FU FU S x (nI 24) = _
  generalize hF : FU = F
  rw [fu_5] at hF
  rw [← hF]
  rw [fo_step _ _ _ _ 24 (by omega) k (by omega) hl]
  rw [show nI 24 + -8 = nI 16 by decide, fo_step _ _ _ _ 16 (by omega) (k + 1) (by omega) (ap1_l _ _ _ _ _ _)]
  rw [show nI 16 + -8 = nI 8 by decide, fo_step _ _ _ _ 8 (by omega) (k + 2) (by omega) (ap1_l _ _ _ _ _ _)]
  rw [show nI 8 + -8 = nI 0 by decide, fo_step _ _ _ _ 0 (by omega) (k + 3) (by omega) (ap1_l _ _ _ _ _ _)]
  rw [fX11_four_3, if_pos (by decide)]
  rfl
theorem ap4_l (S : ST) (c k j n : Nat) (x : Int32) : (ap4 S c k j n x).1 k j = nI (n + 4) := by rw [ap4, ap1_l]
def TpR (n : Nat) (SC SM : ST) : Prop := ∀ i, i < n → SC.1 13 i = SM.1 2 i ∧ ∃ b, b < 256 ∧ SM.1 2 i = nI b
theorem ap1_T {n : Nat} {SC SM : ST} {v : Int32} (h : TpR n SC SM) (hv : ∃ b, b < 256 ∧ v = nI b) : TpR (n + 1) (ap1 SC 13 2 1 n v) (ap1 SM 2 0 5 n v) := by
  intro i hi
  by_cases h2 : i = n
  · subst h2
    simpa [ap1, us_rd] using hv
  · have := h i (by omega)
    simpa [ap1, us_rd, h2] using this
theorem ap4_T {n : Nat} {SC SM : ST} {x : Int32} (h : TpR n SC SM) : TpR (n + 4) (ap4 SC 13 2 1 n x) (ap4 SM 2 0 5 n x) := ap1_T (ap1_T (ap1_T (ap1_T h (pb_lt x 24)) (pb_lt x 16)) (pb_lt x 8)) (pb_lt x 0)
theorem st_feed (x1 x2 x3 x4 x5 : Int32) : Sim Rel (fun S => fX10_feed FU S x1 x2 x3 x4 x5) (fun S => fX11_feed FU S x1 x2 x3 x4 x5) := by
  intro SC SM hR
  obtain ⟨hL, ⟨n, hn, t1, t2, t3⟩, hF, hG, hLf, hP, hC, hV, hPr, hPC⟩ := id hR
  show ∃ r SC2 SM2, fX10_feed FU SC x1 x2 x3 x4 x5 = _ ∧ fX11_feed FU SM x1 x2 x3 x4 x5 = _ ∧ _
  unfold fX10_feed fX7_hasRoomForFeed fX11_feed
  rw [t1, t2, show nI n + 20 = nI (n + 20) from nI_add n 20]
  by_cases h : n + 20 ≤ 600
  · rw [if_neg (c := (600 : Int32) < nI (n + 20)) (nI_nlt (a := 600) h (by omega)), if_pos (c := nI (n + 20) ≤ 600) (nI_le (b := 600) h (by omega))]
    refine ⟨nI (n + 20), ap4 (ap4 (ap4 (ap4 (ap4 SC 13 2 1 n x1) 13 2 1 (n + 4) x2) 13 2 1 (n + 8) x3) 13 2 1 (n + 12) x4) 13 2 1 (n + 16) x5, ap4 (ap4 (ap4 (ap4 (ap4 SM 2 0 5 n x1) 2 0 5 (n + 4) x2) 2 0 5 (n + 8) x3) 2 0 5 (n + 12) x4) 2 0 5 (n + 16) x5, ?_, ?_, hL.fr rfl rfl rfl, ?_, hF.fr rfl rfl rfl, hG.fr rfl rfl rfl rfl rfl rfl rfl rfl rfl rfl rfl, hLf.fr rfl rfl rfl rfl rfl rfl rfl rfl, hP.fr rfl rfl rfl rfl, hC.fr rfl rfl rfl rfl rfl rfl rfl rfl rfl rfl rfl rfl rfl rfl rfl rfl, hV.fr rfl rfl rfl rfl rfl rfl rfl rfl, hPr.fr rfl rfl rfl rfl rfl rfl rfl rfl rfl rfl, hPC.fr rfl rfl rfl rfl rfl rfl⟩
    · show (fX7_append FU SC x1).bind _ = _
      rw [ap_all SC x1 n (by omega) t1]
      show (fX7_append FU _ x2).bind _ = _
      rw [ap_all _ x2 (n + 4) (by omega) (ap4_l _ _ _ _ _ _)]
      show (fX7_append FU _ x3).bind _ = _
      rw [ap_all _ x3 (n + 8) (by omega) (ap4_l _ _ _ _ _ _)]
      show (fX7_append FU _ x4).bind _ = _
      rw [ap_all _ x4 (n + 12) (by omega) (ap4_l _ _ _ _ _ _)]
      show (fX7_append FU _ x5).bind _ = _
      rw [ap_all _ x5 (n + 16) (by omega) (ap4_l _ _ _ _ _ _)]
      show some ((ap4 _ 13 2 1 (n + 16) x5).1 2 1, _) = _
      rw [ap4_l]
    · rw [fo_all SM x1 n (by omega) t2]
      show (fX11_four FU _ x2).bind _ = _
      rw [fo_all _ x2 (n + 4) (by omega) (ap4_l _ _ _ _ _ _)]
      show (fX11_four FU _ x3).bind _ = _
      rw [fo_all _ x3 (n + 8) (by omega) (ap4_l _ _ _ _ _ _)]
      show (fX11_four FU _ x4).bind _ = _
      rw [fo_all _ x4 (n + 12) (by omega) (ap4_l _ _ _ _ _ _)]
      show (fX11_four FU _ x5).bind _ = _
      rw [fo_all _ x5 (n + 16) (by omega) (ap4_l _ _ _ _ _ _)]
      show some ((ap4 _ 2 0 5 (n + 16) x5).1 0 5, _) = _
      rw [ap4_l]
    · have hT : TpR n SC SM := t3
      exact ⟨n + 20, h, ap4_l _ _ _ _ _ _, ap4_l _ _ _ _ _ _, ap4_T (ap4_T (ap4_T (ap4_T (ap4_T hT))))⟩
  · rw [if_pos (c := (600 : Int32) < nI (n + 20)) (nI_lt (a := 600) (by omega) (by omega)), if_neg (c := nI (n + 20) ≤ 600) (nI_ge (a := 600) (by omega) (by omega))]
    exact ⟨-1, SC, SM, rfl, rfl, hR⟩
