def LG (S : ST) (s : Nat × Nat × Nat) : Prop := S.1 1 4 = nI s.1 - 1 ∧ (s.1 ≠ 0 → S.1 1 2 = nI s.2.1 ∧ S.1 1 3 = nI s.2.2)
def frL (S S2 : ST) : Prop := (∀ a, a ≠ 1 → S2.1 a = S.1 a) ∧ S2.1 1 1 = S.1 1 1
theorem frL.refl (S : ST) : frL S S := ⟨fun _ _ => rfl, rfl⟩
theorem frL.trans {A B C : ST} (h1 : frL A B) (h2 : frL B C) : frL A C := ⟨fun a ha => (h2.1 a ha).trans (h1.1 a ha), h2.2.trans h1.2⟩
theorem grC_lp (F : Nat) (hF : 100 ≤ F) {y x : Nat} (hy : y < 24) (hx : x < 24) : ∀ (n f : Nat) (S : ST) (s : Nat × Nat × Nat), s.1 ≤ 12 → 12 ≤ s.1 + n → n < f → LG S s → ∃ S2, fX4_growAt_7 F f S (nI y) (nI x) (nI s.1) = some (0, S2) ∧ LG S2 (growS (S.1 12) y x n s) ∧ frL S S2 ∧ (growS (S.1 12) y x n s).1 ≤ 12
  | 0, f + 1, S, s, h1, h2, h3, h4 => by
    refine ⟨S, ?_, h4, frL.refl S, h1⟩
    rw [fX4_growAt_7, if_pos (c := (11 : Int32) < nI s.1) (nI_lt (a := 11) (by omega) (by omega))]
  | n + 1, f + 1, S, s, h1, h2, h3, h4 => by
    by_cases h5 : s.1 = 12
    · refine ⟨S, ?_, ?_, frL.refl S, ?_⟩
      · rw [fX4_growAt_7, if_pos (c := (11 : Int32) < nI s.1) (nI_lt (a := 11) (by omega) (by omega))]
      · rw [growS, if_neg (fun h => by omega)]
        exact h4
      · rw [growS, if_neg (fun h => by omega)]
        exact h1
    · rw [fX4_growAt_7, if_neg (c := (11 : Int32) < nI s.1) (nI_nlt (a := 11) (by omega) (by omega))]
      obtain ⟨b, c1, c2⟩ := disc_eq F hF S hy hx (r := s.1) (by omega)
      rw [c1]
      rcases c2 with ⟨rfl, c2⟩ | ⟨rfl, c2⟩
      · obtain ⟨S2, d1, d2, d3, d4⟩ := grC_lp F hF hy hx n f (us (us (us S 1 4 (nI s.1)) 1 2 (nI y)) 1 3 (nI x)) (s.1 + 1, y, x) (by show s.1 + 1 ≤ 12; omega) (by show 12 ≤ s.1 + 1 + n; omega) (by omega) ⟨(nI_pred s.1).symm, fun _ => ⟨rfl, rfl⟩⟩
        have e : growS (S.1 12) y x (n + 1) s = growS (S.1 12) y x n (s.1 + 1, y, x) := by rw [growS, if_pos ⟨by omega, c2⟩]
        refine ⟨S2, ?_, by rw [e]; exact d2, frL.trans (B := us (us (us S 1 4 (nI s.1)) 1 2 (nI y)) 1 3 (nI x)) ⟨fun a ha => by simp [us_row, ha], rfl⟩ d3, by rw [e]; exact d4⟩
        rw [show nI s.1 + 1 = nI (s.1 + 1) from nI_1 _]
        exact d1
      · have e : growS (S.1 12) y x (n + 1) s = s := by rw [growS, if_neg (fun h => c2 h.2)]
        exact ⟨S, rfl, by rw [e]; exact h4, frL.refl S, by rw [e]; exact h1⟩
theorem grC_eq (F : Nat) (hF : 100 ≤ F) {y x : Nat} (hy : y < 24) (hx : x < 24) (S : ST) (s : Nat × Nat × Nat) (h1 : s.1 ≤ 12) (h4 : LG S s) : ∃ S2, fX4_growAt F S (nI y) (nI x) = some (0, S2) ∧ LG S2 (growS (S.1 12) y x 12 s) ∧ frL S S2 ∧ (growS (S.1 12) y x 12 s).1 ≤ 12 := by
  have e : S.1 1 4 + 1 = nI s.1 := by rw [h4.1]; grind
  obtain ⟨S2, d1, d2⟩ := grC_lp F hF hy hx 12 F S s h1 (by omega) (by omega) h4
  refine ⟨S2, ?_, d2⟩
  show fX4_growAt_7 F F S (nI y) (nI x) (S.1 1 4 + 1) = _
  rw [e]
  exact d1
theorem rwC_lp (F : Nat) (hF : 100 ≤ F) (k20 : ST → Int32 → Option (Int32 × ST)) {y : Nat} (hy : y < 24) (s0 : Nat × Nat × Nat) : ∀ (d f x : Nat) (S : ST), x + d = 24 → d < f → LG S (rowS (S.1 12) y x s0) → (rowS (S.1 12) y x s0).1 ≤ 12 → ∃ S2, fX4_findCentre_28 F k20 f S (nI y) (nI x) = k20 S2 (nI (y + 1)) ∧ LG S2 (rowS (S.1 12) y 24 s0) ∧ frL S S2 ∧ (rowS (S.1 12) y 24 s0).1 ≤ 12
  | 0, f + 1, x, S, h1, h2, h3, h4 => by
    have e : x = 24 := by omega
    subst e
    refine ⟨S, ?_, h3, frL.refl S, h4⟩
    rw [fX4_findCentre_28, if_pos (by decide), nI_1]
  | d + 1, f + 1, x, S, h1, h2, h3, h4 => by
    rw [fX4_findCentre_28, if_neg (c := (24 : Int32) ≤ nI x) (nI_ge (b := 24) (by omega) (by omega))]
    obtain ⟨S2, d1, d2, d3, d4⟩ := grC_eq F hF hy (show x < 24 by omega) S _ h4 h3
    rw [d1]
    have e12 : S2.1 12 = S.1 12 := d3.1 12 (by decide)
    obtain ⟨S3, g1, g2, g3, g4⟩ := rwC_lp F hF k20 hy s0 d f (x + 1) S2 (by omega) (by omega) (by rw [e12]; exact d2) (by rw [e12]; exact d4)
    rw [e12] at g2 g4
    refine ⟨S3, ?_, g2, d3.trans g3, g4⟩
    show fX4_findCentre_28 F k20 f S2 (nI y) (nI x + 1) = _
    rw [nI_1]
    exact g1
theorem skC_lp (F : Nat) (hF : 100 ≤ F) (s0 : Nat × Nat × Nat) : ∀ (d f y : Nat) (S : ST), y + d = 24 → d < f → LG S (seekS (S.1 12) y s0) → (seekS (S.1 12) y s0).1 ≤ 12 → ∃ S2, fX4_findCentre_20 F f S (nI y) = some (0, S2) ∧ LG S2 (seekS (S.1 12) 24 s0) ∧ frL S S2 ∧ (seekS (S.1 12) 24 s0).1 ≤ 12
  | 0, f + 1, y, S, h1, h2, h3, h4 => by
    have e : y = 24 := by omega
    subst e
    refine ⟨S, ?_, h3, frL.refl S, h4⟩
    rw [fX4_findCentre_20, if_pos (by decide)]
  | d + 1, f + 1, y, S, h1, h2, h3, h4 => by
    rw [fX4_findCentre_20, if_neg (c := (24 : Int32) ≤ nI y) (nI_ge (b := 24) (by omega) (by omega)), show (0 : Int32) = nI 0 from rfl]
    obtain ⟨S2, d1, d2, d3, d4⟩ := rwC_lp F hF (fX4_findCentre_20 F f) (show y < 24 by omega) (seekS (S.1 12) y s0) 24 F 0 S (by omega) (by omega) h3 h4
    rw [d1]
    have e12 : S2.1 12 = S.1 12 := d3.1 12 (by decide)
    obtain ⟨S3, g1, g2, g3, g4⟩ := skC_lp F hF s0 d f (y + 1) S2 (by omega) (by omega) (by rw [e12]; exact d2) (by rw [e12]; exact d4)
    rw [e12] at g2 g4
    exact ⟨S3, g1, g2, d3.trans g3, g4⟩
theorem findC_eq (F : Nat) (hF : 100 ≤ F) (S : ST) (hs : S.1 1 1 = 0 → LogC (S.1 12) (S.1 1 4) (S.1 1 2) (S.1 1 3)) : ∃ S2, fX4_findCentre F S = some (0, S2) ∧ LogC (S.1 12) (S2.1 1 4) (S2.1 1 2) (S2.1 1 3) ∧ (∀ a, a ≠ 1 → S2.1 a = S.1 a) ∧ S2.1 1 1 = 0 ∧ (centS (S.1 12)).1 ≤ 12 := by
  obtain ⟨S2, d1, d2, d3, d4⟩ := skC_lp F hF (0, 0, 0) 24 F 0 (us (us S 1 1 0) 1 4 (-1)) (by omega) (by omega) ⟨by show (-1 : Int32) = nI 0 - 1; decide, fun h => absurd rfl h⟩ (by show 0 ≤ 12; omega)
  by_cases h : S.1 1 1 = 0
  · refine ⟨S, ?_, hs h, fun _ _ => rfl, h, d4⟩
    unfold fX4_findCentre
    rw [if_pos h]
  · refine ⟨S2, ?_, d2, fun a ha => by rw [d3.1 a ha]; simp [us_row, ha], by rw [d3.2]; rfl, d4⟩
    unfold fX4_findCentre
    rw [if_neg h]
    exact d1
def MG (S : ST) (s : Nat × Nat × Nat) : Prop := S.1 0 3 = nI s.1 - 1 ∧ (s.1 ≠ 0 → S.1 0 1 = nI s.2.1 ∧ S.1 0 2 = nI s.2.2)
def frM (S S2 : ST) : Prop := (∀ a, a ≠ 0 → S2.1 a = S.1 a) ∧ ∀ j, j ≠ 1 → j ≠ 2 → j ≠ 3 → S2.1 0 j = S.1 0 j
theorem frM.refl (S : ST) : frM S S := ⟨fun _ _ => rfl, fun _ _ _ _ => rfl⟩
theorem frM.trans {A B C : ST} (h1 : frM A B) (h2 : frM B C) : frM A C := ⟨fun a ha => (h2.1 a ha).trans (h1.1 a ha), fun j a b c => (h2.2 j a b c).trans (h1.2 j a b c)⟩
theorem rad_le {n : Nat} (h : n ≤ 12) : ((11 : Int32) ≤ nI n - 1) ↔ n = 12 := by
  have e : (nI n - nI 1).toInt = (n : Int) - 1 := pk_sub_toInt (by omega) (by omega)
  rw [i_le, show nI n - 1 = nI n - nI 1 from rfl, e]
  simp
  omega
theorem grM_lp (F : Nat) (hF : 100 ≤ F) (k7 : ST → Int32 → Option (Int32 × ST)) (k15 : ST → Int32 → Int32 → Option (Int32 × ST)) {y x : Nat} (hy : y < 24) (hx : x < 24) : ∀ (n f : Nat) (S : ST) (s : Nat × Nat × Nat), s.1 ≤ 12 → 12 ≤ s.1 + n → n < f → MG S s → ∃ S2, fX11_seekCentre_21 F k7 k15 f S (nI y) (nI x) = k15 S2 (nI y) (nI (x + 1)) ∧ MG S2 (growS (S.1 1) y x n s) ∧ frM S S2 ∧ (growS (S.1 1) y x n s).1 ≤ 12
  | 0, f + 1, S, s, h1, h2, h3, h4 => by
    refine ⟨S, ?_, h4, frM.refl S, h1⟩
    rw [fX11_seekCentre_21, h4.1, if_pos ((rad_le h1).mpr (by omega)), nI_1]
  | n + 1, f + 1, S, s, h1, h2, h3, h4 => by
    by_cases h5 : s.1 = 12
    · refine ⟨S, ?_, ?_, frM.refl S, ?_⟩
      · rw [fX11_seekCentre_21, h4.1, if_pos ((rad_le h1).mpr h5), nI_1]
      · rw [growS, if_neg (fun h => by omega)]
        exact h4
      · rw [growS, if_neg (fun h => by omega)]
        exact h1
    · have e0 : S.1 0 3 + 1 = nI s.1 := by rw [h4.1]; grind
      rw [fX11_seekCentre_21, e0, if_neg (fun h => h5 ((rad_le h1).mp (by rw [← h4.1]; exact h)))]
      obtain ⟨b, c1, c2⟩ := fits_eq F hF S hy hx (r := s.1) (by omega)
      rw [c1]
      rcases c2 with ⟨rfl, c2⟩ | ⟨rfl, c2⟩
      · obtain ⟨S2, d1, d2, d3, d4⟩ := grM_lp F hF k7 k15 hy hx n f (us (us (us S 0 3 (nI s.1)) 0 1 (nI y)) 0 2 (nI x)) (s.1 + 1, y, x) (by show s.1 + 1 ≤ 12; omega) (by show 12 ≤ s.1 + 1 + n; omega) (by omega) ⟨(nI_pred s.1).symm, fun _ => ⟨rfl, rfl⟩⟩
        have e : growS (S.1 1) y x (n + 1) s = growS (S.1 1) y x n (s.1 + 1, y, x) := by rw [growS, if_pos ⟨by omega, c2⟩]
        refine ⟨S2, ?_, by rw [e]; exact d2, frM.trans ⟨fun a ha => by simp [us_row, ha], fun j a b c => by simp [us_rd, a, b, c]⟩ d3, by rw [e]; exact d4⟩
        show fX11_seekCentre_21 F k7 k15 f (us (us (us S 0 3 (S.1 0 3 + 1)) 0 1 (nI y)) 0 2 (nI x)) (nI y) (nI x) = _
        rw [e0]
        exact d1
      · have e : growS (S.1 1) y x (n + 1) s = s := by rw [growS, if_neg (fun h => c2 h.2)]
        exact ⟨S, by rw [← nI_1]; rfl, by rw [e]; exact h4, frM.refl S, by rw [e]; exact h1⟩
theorem rwM_lp (F : Nat) (hF : 100 ≤ F) (k7 : ST → Int32 → Option (Int32 × ST)) {y : Nat} (hy : y < 24) (s0 : Nat × Nat × Nat) : ∀ (d f x : Nat) (S : ST), x + d = 24 → d < f → MG S (rowS (S.1 1) y x s0) → (rowS (S.1 1) y x s0).1 ≤ 12 → ∃ S2, fX11_seekCentre_15 F k7 f S (nI y) (nI x) = k7 S2 (nI (y + 1)) ∧ MG S2 (rowS (S.1 1) y 24 s0) ∧ frM S S2 ∧ (rowS (S.1 1) y 24 s0).1 ≤ 12
  | 0, f + 1, x, S, h1, h2, h3, h4 => by
    have e : x = 24 := by omega
    subst e
    refine ⟨S, ?_, h3, frM.refl S, h4⟩
    rw [fX11_seekCentre_15, if_pos (by decide), nI_1]
  | d + 1, f + 1, x, S, h1, h2, h3, h4 => by
    rw [fX11_seekCentre_15, if_neg (c := (24 : Int32) ≤ nI x) (nI_ge (b := 24) (by omega) (by omega))]
    obtain ⟨S2, d1, d2, d3, d4⟩ := grM_lp F hF k7 (fX11_seekCentre_15 F k7 f) hy (show x < 24 by omega) 12 F S _ h4 (by omega) (by omega) h3
    rw [d1]
    have e12 : S2.1 1 = S.1 1 := d3.1 1 (by decide)
    obtain ⟨S3, g1, g2, g3, g4⟩ := rwM_lp F hF k7 hy s0 d f (x + 1) S2 (by omega) (by omega) (by rw [e12]; exact d2) (by rw [e12]; exact d4)
    rw [e12] at g2 g4
    exact ⟨S3, g1, g2, d3.trans g3, g4⟩
theorem skM_lp (F : Nat) (hF : 100 ≤ F) (s0 : Nat × Nat × Nat) : ∀ (d f y : Nat) (S : ST), y + d = 24 → d < f → MG S (seekS (S.1 1) y s0) → (seekS (S.1 1) y s0).1 ≤ 12 → ∃ S2, fX11_seekCentre_7 F f S (nI y) = some (0, S2) ∧ MG S2 (seekS (S.1 1) 24 s0) ∧ frM S S2
  | 0, f + 1, y, S, h1, h2, h3, h4 => by
    have e : y = 24 := by omega
    subst e
    refine ⟨S, ?_, h3, frM.refl S⟩
    rw [fX11_seekCentre_7, if_pos (by decide)]
  | d + 1, f + 1, y, S, h1, h2, h3, h4 => by
    rw [fX11_seekCentre_7, if_neg (c := (24 : Int32) ≤ nI y) (nI_ge (b := 24) (by omega) (by omega)), show (0 : Int32) = nI 0 from rfl]
    obtain ⟨S2, d1, d2, d3, d4⟩ := rwM_lp F hF (fX11_seekCentre_7 F f) (show y < 24 by omega) (seekS (S.1 1) y s0) 24 F 0 S (by omega) (by omega) h3 h4
    rw [d1]
    have e12 : S2.1 1 = S.1 1 := d3.1 1 (by decide)
    obtain ⟨S3, g1, g2, g3⟩ := skM_lp F hF s0 d f (y + 1) S2 (by omega) (by omega) (by rw [e12]; exact d2) (by rw [e12]; exact d4)
    rw [e12] at g2
    exact ⟨S3, g1, g2, d3.trans g3⟩
theorem seekM_eq (F : Nat) (hF : 100 ≤ F) (S : ST) : ∃ S2, fX11_seekCentre F S = some (0, S2) ∧ MG S2 (centS (S.1 1)) ∧ frM S S2 := by
  obtain ⟨S2, d1, d2, d3⟩ := skM_lp F hF (0, 0, 0) 24 F 0 (us S 0 3 (-1)) (by omega) (by omega) ⟨by show (-1 : Int32) = nI 0 - 1; decide, fun h => absurd rfl h⟩ (by show 0 ≤ 12; omega)
  exact ⟨S2, d1, d2, frM.trans ⟨fun a ha => by simp [us_row, ha], fun j a b c => by simp [us_rd, c]⟩ d3⟩
theorem inNet_congr {n1 n2 : Nat → Int32} (h : ∀ r, r < 24 → n1 r = n2 r) (Y X : Int) : inNet n1 Y X ↔ inNet n2 Y X := by
  unfold inNet
  constructor
  · rintro ⟨a, b, c, d, e⟩
    exact ⟨a, b, c, d, by rw [← h _ (by omega)]; exact e⟩
  · rintro ⟨a, b, c, d, e⟩
    exact ⟨a, b, c, d, by rw [h _ (by omega)]; exact e⟩
theorem fit_congr {n1 n2 : Nat → Int32} (h : ∀ r, r < 24 → n1 r = n2 r) (y x r : Nat) : Fit n1 y x r ↔ Fit n2 y x r := by
  unfold Fit
  constructor
  · intro h2 dy dx h3
    exact (inNet_congr h _ _).mp (h2 dy dx h3)
  · intro h2 dy dx h3
    exact (inNet_congr h _ _).mpr (h2 dy dx h3)
theorem grow_congr {n1 n2 : Nat → Int32} (h : ∀ r, r < 24 → n1 r = n2 r) (y x : Nat) : ∀ n s, growS n1 y x n s = growS n2 y x n s
  | 0, _ => rfl
  | n + 1, s => by
    rw [growS, growS, grow_congr h y x n]
    by_cases h2 : s.1 < 12 ∧ Fit n1 y x s.1
    · rw [if_pos h2, if_pos ⟨h2.1, (fit_congr h _ _ _).mp h2.2⟩]
    · rw [if_neg h2, if_neg (fun h3 => h2 ⟨h3.1, (fit_congr h _ _ _).mpr h3.2⟩)]
theorem row_congr {n1 n2 : Nat → Int32} (h : ∀ r, r < 24 → n1 r = n2 r) (y : Nat) : ∀ n s, rowS n1 y n s = rowS n2 y n s
  | 0, _ => rfl
  | n + 1, s => by rw [rowS, rowS, row_congr h y n, grow_congr h]
theorem seek_congr {n1 n2 : Nat → Int32} (h : ∀ r, r < 24 → n1 r = n2 r) : ∀ n s, seekS n1 n s = seekS n2 n s
  | 0, _ => rfl
  | n + 1, s => by rw [seekS, seekS, seek_congr h n, row_congr h]
theorem cent_congr {n1 n2 : Nat → Int32} (h : ∀ r, r < 24 → n1 r = n2 r) : centS n1 = centS n2 := seek_congr h 24 _
theorem log_both (F : Nat) (hF : 100 ≤ F) {SC SM : ST} (hR : Rel SC SM) : ∃ SC2 SM2 : ST, fX4_findCentre F SC = some (0, SC2) ∧ fX11_seekCentre F SM = some (0, SM2) ∧ Rel SC2 SM2 ∧ LogC (SM.1 1) (SC2.1 1 4) (SC2.1 1 2) (SC2.1 1 3) ∧ MG SM2 (centS (SM.1 1)) ∧ (centS (SM.1 1)).1 ≤ 12 := by
  obtain ⟨hL, hT, hFl, hG, hLf, hP, hC, hV, hPr, hPC⟩ := hR
  have ec : centS (SC.1 12) = centS (SM.1 1) := cent_congr (fun r hr => (hL.1 r hr).1)
  have lc : ∀ a b c, LogC (SC.1 12) a b c ↔ LogC (SM.1 1) a b c := fun a b c => by unfold LogC; rw [ec]
  obtain ⟨SC2, c1, c2, c3, c4, c5⟩ := findC_eq F hF SC (fun h => (lc _ _ _).mpr (hL.2 h))
  obtain ⟨SM2, m1, m2, m3, m4⟩ := seekM_eq F hF SM
  rw [ec] at c5
  rw [lc] at c2
  refine ⟨SC2, SM2, c1, m1, ⟨⟨fun r hr => ?_, fun _ => ?_⟩, hT.fr (by rw [c3 2 (by decide)]) (c3 13 (by decide)) (m4 5 (by decide) (by decide) (by decide)) (m3 2 (by decide)), hFl.fr (c3 0 (by decide)) (m4 6 (by decide) (by decide) (by decide)) (m4 7 (by decide) (by decide) (by decide)), hG.fr (by rw [c3 6 (by decide)]) (c3 21 (by decide)) (c3 22 (by decide)) (c3 23 (by decide)) (c3 24 (by decide)) (m4 14 (by decide) (by decide) (by decide)) (m3 3 (by decide)) (m3 4 (by decide)) (m3 5 (by decide)) (m3 6 (by decide)) (m3 7 (by decide)), hLf.fr (c3 7 (by decide)) (c3 26 (by decide)) (c3 27 (by decide)) (c3 28 (by decide)) (c3 29 (by decide)) (c3 30 (by decide)) (m4 32 (by decide) (by decide) (by decide)) (m3 14 (by decide)), hP.fr (by rw [c3 9 (by decide)]) (by rw [c3 9 (by decide)]) (m4 33 (by decide) (by decide) (by decide)) (m4 34 (by decide) (by decide) (by decide)), hC.fr (c3 9 (by decide)) (by rw [c3 6 (by decide)]) (c3 7 (by decide)) (c3 21 (by decide)) (c3 22 (by decide)) (c3 23 (by decide)) (c3 24 (by decide)) (c3 26 (by decide)) (c3 27 (by decide)) (c3 28 (by decide)) (c3 29 (by decide)) (c3 30 (by decide)) (c3 32 (by decide)) (c3 34 (by decide)) (c3 35 (by decide)) (c3 36 (by decide)), hV.fr (c3 37 (by decide)) (c3 38 (by decide)) (c3 39 (by decide)) (c3 40 (by decide)) (m3 23 (by decide)) (m3 24 (by decide)) (m3 25 (by decide)) (m3 27 (by decide)), hPr.fr (c3 11 (by decide)) (c3 41 (by decide)) (c3 42 (by decide)) (m4 53 (by decide) (by decide) (by decide)) (m3 28 (by decide)) (m3 29 (by decide)) (m4 49 (by decide) (by decide) (by decide)) (m4 50 (by decide) (by decide) (by decide)) (m4 51 (by decide) (by decide) (by decide)) (m4 52 (by decide) (by decide) (by decide)), hPC.fr (c3 11 (by decide)) (c3 41 (by decide)) (c3 42 (by decide)) (c3 46 (by decide)) (c3 47 (by decide)) (c3 48 (by decide))⟩, c2, m2, c5⟩
  · rw [c3 12 (by decide), m3 1 (by decide)]
    exact hL.1 r hr
  · rw [m3 1 (by decide)]
    exact c2
theorem rad_nn {n : Nat} (h : n ≤ 12) : ((0 : Int32) ≤ nI n - 1) ↔ n ≠ 0 := by
  have e : (nI n - nI 1).toInt = (n : Int) - 1 := pk_sub_toInt (by omega) (by omega)
  rw [i_le, show nI n - 1 = nI n - nI 1 from rfl, e]
  simp
  omega
theorem rad_m1 {n : Nat} (h : n ≤ 12) : (nI n - 1 = -1) ↔ n = 0 := by
  have e : (nI n - nI 1).toInt = (n : Int) - 1 := pk_sub_toInt (by omega) (by omega)
  rw [i_eq, show nI n - 1 = nI n - nI 1 from rfl, e]
  simp
  omega
theorem st_centre (x1 : Int32) : Sim Rel (fun S => fX10_centre FU S x1) (fun S => fX11_centre FU S x1) := by
  intro SC SM hR
  obtain ⟨SC2, SM2, c1, m1, hR2, c2, m2, c3⟩ := log_both FU (by decide) hR
  show ∃ r SC2 SM2, fX10_centre FU SC x1 = _ ∧ fX11_centre FU SM x1 = _ ∧ _
  unfold fX10_centre fX11_centre
  rw [c1, m1]
  show ∃ r SC3 SM3, (if SC2.1 1 4 = -1 then _ else _) = _ ∧ (if 0 ≤ SM2.1 0 3 then _ else _) = _ ∧ _
  rw [c2.1, m2.1]
  by_cases h : (centS (SM.1 1)).1 = 0
  · rw [if_pos ((rad_m1 c3).mpr h), if_neg (fun h2 => (rad_nn c3).mp h2 h)]
    exact ⟨-1, SC2, SM2, rfl, rfl, hR2⟩
  · rw [if_neg (fun h2 => h ((rad_m1 c3).mp h2)), if_pos ((rad_nn c3).mpr h)]
    show ∃ r SC3 SM3, (if x1 = 0 then some (SC2.1 1 2, SC2) else if x1 = 1 then some (SC2.1 1 3, SC2) else if x1 = 2 then some (_, SC2) else some ((-1 : Int32), SC2)) = _ ∧ (if x1 = 0 then some (SM2.1 0 1, SM2) else if x1 = 1 then some (SM2.1 0 2, SM2) else if x1 = 2 then some (_, SM2) else some ((-1 : Int32), SM2)) = _ ∧ _
    rw [(c2.2 h).1, (c2.2 h).2, (m2.2 h).1, (m2.2 h).2]
    by_cases h0 : x1 = 0
    · exact ⟨_, SC2, SM2, by rw [if_pos h0], by rw [if_pos h0], hR2⟩
    · by_cases h1 : x1 = 1
      · exact ⟨_, SC2, SM2, by rw [if_neg h0, if_pos h1], by rw [if_neg h0, if_pos h1], hR2⟩
      · by_cases h2 : x1 = 2
        · exact ⟨_, SC2, SM2, by rw [if_neg h0, if_neg h1, if_pos h2], by rw [if_neg h0, if_neg h1, if_pos h2], hR2⟩
        · exact ⟨_, SC2, SM2, by rw [if_neg h0, if_neg h1, if_neg h2], by rw [if_neg h0, if_neg h1, if_neg h2], hR2⟩
theorem frM_rel {SC SM SM2 : ST} (hR : Rel SC SM) (h : frM SM SM2) : Rel SC SM2 := by
  obtain ⟨hL, hT, hFl, hG, hLf, hP, hC, hV, hPr, hPC⟩ := hR
  obtain ⟨m3, m4⟩ := h
  exact ⟨hL.fr rfl rfl (m3 1 (by decide)), hT.fr rfl rfl (m4 5 (by decide) (by decide) (by decide)) (m3 2 (by decide)), hFl.fr rfl (m4 6 (by decide) (by decide) (by decide)) (m4 7 (by decide) (by decide) (by decide)), hG.fr rfl rfl rfl rfl rfl (m4 14 (by decide) (by decide) (by decide)) (m3 3 (by decide)) (m3 4 (by decide)) (m3 5 (by decide)) (m3 6 (by decide)) (m3 7 (by decide)), hLf.fr rfl rfl rfl rfl rfl rfl (m4 32 (by decide) (by decide) (by decide)) (m3 14 (by decide)), hP.fr rfl rfl (m4 33 (by decide) (by decide) (by decide)) (m4 34 (by decide) (by decide) (by decide)), hC, hV.fr rfl rfl rfl rfl (m3 23 (by decide)) (m3 24 (by decide)) (m3 25 (by decide)) (m3 27 (by decide)), hPr.fr rfl rfl rfl (m4 53 (by decide) (by decide) (by decide)) (m3 28 (by decide)) (m3 29 (by decide)) (m4 49 (by decide) (by decide) (by decide)) (m4 50 (by decide) (by decide) (by decide)) (m4 51 (by decide) (by decide) (by decide)) (m4 52 (by decide) (by decide) (by decide)), hPC⟩
theorem st_fullF (F : Nat) (hF : 100 ≤ F) (x1 x2 : Int32) : Sim Rel (fun S => fX10_full F S x1 x2) (fun S => fX11_full F S x1 x2) := by
  intro SC SM hR
  obtain ⟨SC2, SM2, c1, m1, hR2, c2, m2, c3⟩ := log_both F hF hR
  obtain ⟨SM3, q1, _, q3⟩ := seekM_eq F hF SM
  have e : SM3 = SM2 := by
    rw [m1] at q1
    cases q1
    rfl
  subst e
  have hR3 : Rel SC SM3 := frM_rel hR q3
  show ∃ r SC2 SM2, fX10_full F SC x1 x2 = _ ∧ fX11_full F SM x1 x2 = _ ∧ _
  unfold fX10_full fX11_full
  rw [m1]
  by_cases h1 : 1 ≤ x1.toInt ∧ x1.toInt ≤ 200
  · rw [within_T (by simp [i_le]; omega)]
    show ∃ r SC3 SM4, (fX10_within F SC x2 1 50).bind _ = _ ∧ (if x1 < 1 then _ else if (200 : Int32) < x1 then _ else _) = _ ∧ _
    rw [if_neg (by simp [i_lt]; omega), if_neg (by simp [i_lt]; omega)]
    by_cases h2 : 1 ≤ x2.toInt ∧ x2.toInt ≤ 50
    · rw [within_T (by simp [i_le]; omega), if_neg (by simp [i_lt]; omega), if_neg (by simp [i_lt]; omega)]
      show ∃ r SC3 SM4, (fX4_findCentre F SC).bind _ = _ ∧ (if 0 ≤ SM3.1 0 3 then _ else _) = _ ∧ _
      rw [c1]
      show ∃ r SC3 SM4, (if SC2.1 1 4 = -1 then _ else (fX4_peeled F SC2 x1 x2).bind _) = _ ∧ _
      rw [c2.1, m2.1]
      by_cases h : (centS (SM.1 1)).1 = 0
      · rw [if_pos ((rad_m1 c3).mpr h), if_neg (fun h2 => (rad_nn c3).mp h2 h)]
        exact ⟨-1, SC2, SM3, rfl, rfl, hR2⟩
      · rw [if_neg (fun h2 => h ((rad_m1 c3).mp h2)), if_pos ((rad_nn c3).mpr h)]
        unfold fX4_peeled
        rw [c2.1]
        obtain ⟨t, rfl, t2, t3⟩ := i_ex (x := x2) (by omega)
        have e7 : (7 : Int32) * nI t = nI (7 * t) := pk_mul 7 t
        have hpos : (0 : Int32) < nI (7 * t) := nI_lt (a := 0) (by omega) (by omega)
        have hne : ¬ nI (7 * t) = 0 := nI_ne0 (by omega) (by omega)
        rw [e7]
        generalize hv : (10 : Int32) * (nI (centS (SM.1 1)).1 - 1) + 5 = v
        show ∃ r SC3 SM4, Option.bind (if v ≤ x1 then _ else if 0 < nI (7 * t) then (if nI (7 * t) = 0 then none else _) else _) _ = _ ∧ (if x1 < v then (if nI (7 * t) = 0 then none else _) else _) = _ ∧ _
        by_cases h5 : x1 < v
        · rw [if_neg (fun h6 => by rw [i_le] at h6; rw [i_lt] at h5; omega), if_pos hpos, if_neg hne, if_pos h5, if_neg hne]
          exact ⟨_, SC2, SM3, rfl, rfl, hR2⟩
        · rw [if_pos (show v ≤ x1 by rw [i_lt] at h5; rw [i_le]; omega), if_neg h5]
          exact ⟨_, SC2, SM3, rfl, rfl, hR2⟩
    · rw [within_F (by simp [i_le]; omega)]
      refine ⟨-1, SC, SM3, rfl, ?_, hR3⟩
      by_cases h5 : x2 < 1
      · rw [if_pos h5]
      · rw [if_neg h5, if_pos (by simp [i_lt] at h5; simp [i_lt]; omega)]
  · rw [within_F (by simp [i_le]; omega)]
    refine ⟨-1, SC, SM3, rfl, ?_, hR3⟩
    show (if x1 < 1 then some ((-1 : Int32), SM3) else if (200 : Int32) < x1 then some ((-1 : Int32), SM3) else _) = _
    by_cases h5 : x1 < 1
    · rw [if_pos h5]
    · rw [if_neg h5, if_pos (by simp [i_lt] at h5; simp [i_lt]; omega)]
theorem st_full (x1 x2 : Int32) : Sim Rel (fun S => fX10_full FU S x1 x2) (fun S => fX11_full FU S x1 x2) := st_fullF FU (by decide) x1 x2
