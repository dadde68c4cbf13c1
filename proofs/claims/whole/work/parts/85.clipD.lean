section CLIPD
variable {G N : Nat} {e wi wo mk : Nat → Nat} {code : Nat → Int32} {P co : Nat}
theorem wOf_eq (F : Nat) (S : ST) (hG : GC S G e wi wo) {g : Nat} (hg : g < G) : fX2_widthOf F S (nI g) = some (nI (wi g), S) := by
  have := hG.1
  unfold fX2_widthOf
  rw [if_neg (nI_pos (by omega)), if_neg (show ¬ (8 : Int32) ≤ nI g from nI_ge (b := 8) (by omega) (by omega)), if_pos (vin_nI (by omega) (by omega)), ix_nI (by omega), (hG.2.2.2.2.2.1 g hg).1.2.2]
theorem vOf_eq (F : Nat) (S : ST) (hG : GC S G e wi wo) {g : Nat} (hg : g < G) : fX2_worthOf F S (nI g) = some (nI (wo g), S) := by
  have := hG.1
  unfold fX2_worthOf
  rw [if_neg (nI_pos (by omega)), if_neg (show ¬ (8 : Int32) ≤ nI g from nI_ge (b := 8) (by omega) (by omega)), if_pos (vin_nI (by omega) (by omega)), ix_nI (by omega), (hG.2.2.2.2.2.1 g hg).2.1.2.2]
theorem trS_eq (F : Nat) (hF : 400 ≤ F) (E : Nat → Nat × Nat × Option Nat) {a g : Nat} (hg : g < G) (ha : a < N) (S : ST) (hI : CI S G N e wi wo mk code P co) (hR : RN S N mk a) (hEN : EN S a (flq N wi wo co (spF P code e mk wi) E a (4 * g))) (hb1 : (flq N wi wo co (spF P code e mk wi) E a (4 * g)).1 ≤ 3000000) (hb2 : (flq N wi wo co (spF P code e mk wi) E a (4 * g)).2.1 ≤ 301) (hT : ∀ i, a < i → i ≤ N → S.1 32 i = nI (E i).1 ∧ S.1 33 i = nI (E i).2.1 ∧ (E i).1 ≤ 3000000 ∧ (E i).2.1 ≤ 300) : ∃ S2, fX0_trySheets F S (nI a) (nI g) = some (0, S2) ∧ EN S2 a (flq N wi wo co (spF P code e mk wi) E a (4 * g + 4)) ∧ RN S2 N mk a ∧ frT a S S2 := by
  obtain ⟨hG, hL, h24, h98, h99, hP, hco⟩ := id hI
  obtain ⟨⟨w1, w2, w3⟩, ⟨o1, o2, o3⟩, _, _⟩ := hG.2.2.2.2.2.1 g hg
  have hN := hL.1
  unfold fX0_trySheets
  rw [wOf_eq F S hG hg, Option.bind_some, nI_add, bindI_eq, if_neg (nI_pos (by omega)), if_neg (nI_ge (by omega) (by omega))]
  show ∃ S2, (if S.1 7 5 < nI (a + wi g) then some (0, S) else _) = _ ∧ _
  rw [hL.2.1]
  by_cases c1 : N < a + wi g
  · rw [if_pos (nI_lt c1 (by omega))]
    refine ⟨S, rfl, ?_, hR, frT_refl a S⟩
    have := flq_skip N wi wo co (spF P code e mk wi) (E := E) (a := a) (q := 4 * g) 4 (fun p a1 a2 hh => by
      have h5 := hh.1.1
      rw [show p / 4 = g by omega] at h5
      omega)
    rw [this]
    exact hEN
  · rw [if_neg (nI_nlt (by omega) (by omega)), if_pos (show nI (a + wi g) < 301 from nI_lt (b := 301) (by omega) (by omega))]
    obtain ⟨S1, q1, q2, q3, q4, q5⟩ := ending_eq F S hL hR w1 w2 (show a + wi g ≤ N by omega)
    have fr1 : frT a S S1 := ⟨fun c _ a2 _ i _ => by rw [q4 c a2], fun j _ => by rw [q4 6 (by decide)], q5⟩
    have hI1 := hI.fr fr1.F
    have hTb := hT (a + wi g) (by omega) (by omega)
    show ∃ S2, (fX5_endBefore F S (nI (a + wi g))).bind _ = _ ∧ _
    rw [q1, Option.bind_some, vOf_eq F S1 hI1.1 hg, Option.bind_some]
    have hv : vin (nI (a + wi g)) 301 = true := vin_nI (by omega) (by omega)
    rw [if_pos hv, ix_nI (by omega)]
    show ∃ S2, bindI (nI (wo g) + S1.1 32 (a + wi g)) (fun v64 => if vin (nI (a + wi g)) 301 = true then bindI (1 + S1.1 33 (a + wi g)) (fun v74 => fX0_trySheets_79 F F S1 (nI a) (nI g) v64 v74 0) else none) = _ ∧ _
    rw [bindI_eq, if_pos hv, bindI_eq, q4 32 (by decide), q4 33 (by decide), hTb.1, hTb.2.1, nI_add, show (1 : Int32) = nI 1 from rfl, nI_add]
    have hEN1 : EN S1 a (flq N wi wo co (spF P code e mk wi) E a (4 * g)) := by
      unfold EN at *
      rw [q4 32 (by decide), q4 33 (by decide), q4 34 (by decide), q4 35 (by decide)]
      exact hEN
    obtain ⟨S2, r1, r2, r3, r4⟩ := try_lp F hF E hg (show a + wi g ≤ N by omega) hTb.2.2.1 hTb.2.2.2 4 F 0 S1 (by omega) (by omega) hI1 q2 hEN1 hb1 hb2
    refine ⟨S2, ?_, r2, ⟨by rw [r4 2 (by decide)]; exact q3.1, fun i a1 a2 a3 => by rw [r3.1 31 (by decide) (by decide) (by decide) i (Or.inl (by decide))]; exact q3.2 i a1 a2 a3⟩, fr1.tr r3⟩
    rw [Nat.zero_mul, show nI 0 = 0 from rfl] at r1
    rw [← r1]
    congr 1
    grind
theorem f101_lp (F : Nat) (hF : 400 ≤ F) (k45 : ST → Int32 → Int32 → Option (Int32 × ST)) (E : Nat → Nat × Nat × Option Nat) {a : Nat} (ha : a < N) (x1 : Int32) (hE : ∀ b, a < b → b ≤ N → (E b).1 ≤ 9999 * (N - b) ∧ (E b).2.1 ≤ N - b) : ∀ (d f g : Nat) (S : ST), g + d = G → d < f → CI S G N e wi wo mk code P co → RN S N mk a → EN S a (flq N wi wo co (spF P code e mk wi) E a (4 * g)) → (∀ i, a < i → i ≤ N → S.1 32 i = nI (E i).1 ∧ S.1 33 i = nI (E i).2.1) → ∃ S2, fX0_find_101 F k45 f S x1 (nI a) (nI g) = k45 S2 x1 (nI a + -1) ∧ EN S2 a (flq N wi wo co (spF P code e mk wi) E a (4 * G)) ∧ frT a S S2
  | 0, f + 1, g, S, h1, h2, hI, hR, hEN, hT => by
    have eg : g = G := by omega
    subst eg
    have := hI.1.1
    refine ⟨S, ?_, hEN, frT_refl a S⟩
    rw [fX0_find_101, hI.1.2.1, if_pos (nI_le (by omega) (by omega))]
  | d + 1, f + 1, g, S, h1, h2, hI, hR, hEN, hT => by
    have hG8 := hI.1.1
    have hN := hI.2.1.1
    have hw : ∀ g, g < G → 1 ≤ wi g := fun g hg => (hI.1.2.2.2.2.2.1 g hg).1.1
    have ho : ∀ g, g < G → wo g ≤ 9999 := fun g hg => (hI.1.2.2.2.2.2.1 g hg).2.1.2.1
    have hb := flq_bd G N wi wo co (spF P code e mk wi) ha hw ho hE (4 * g) (by omega)
    have hNa : 9999 * (N - a) ≤ 9999 * 300 := Nat.mul_le_mul_left _ (by omega)
    obtain ⟨S1, q1, q2, q3, q4⟩ := trS_eq F hF E (show g < G by omega) ha S hI hR hEN (by omega) (by omega) (fun i a1 a2 => by
      have h3 := hE i a1 a2
      have h4 : 9999 * (N - i) ≤ 9999 * 300 := Nat.mul_le_mul_left _ (by omega)
      exact ⟨(hT i a1 a2).1, (hT i a1 a2).2, by omega, by omega⟩)
    obtain ⟨S2, r1, r2, r3⟩ := f101_lp F hF k45 E ha x1 hE d f (g + 1) S1 (by omega) (by omega) (hI.fr q4.F) q3 q2 (fun i a1 a2 => by
      rw [q4.1 32 (by decide) (by decide) (by decide) i (by omega), q4.1 33 (by decide) (by decide) (by decide) i (by omega)]
      exact hT i a1 a2)
    refine ⟨S2, ?_, r2, q4.tr r3⟩
    rw [fX0_find_101, hI.1.2.1, if_neg (nI_ge (by omega) (by omega)), q1, Option.bind_some, nI_1]
    exact r1
def TB (S : ST) (N : Nat) (E : Nat → Nat × Nat × Option Nat) (a : Nat) : Prop := (∀ i, a ≤ i → i ≤ N → S.1 32 i = nI (E i).1 ∧ S.1 33 i = nI (E i).2.1) ∧ ∀ i, a ≤ i → i < N → EN S i (E i)
theorem f45_lp (F : Nat) (hF : 400 ≤ F) (x1 : Int32) : ∀ (a f : Nat) (S : ST), a ≤ N → a < f → CI S G N e wi wo mk code P co → TB S N (clE G N wi wo co (spF P code e mk wi)) a → ∃ S2, fX0_find_45 F f S x1 (nI a - 1) = (fX0_listSheets F S2 x1).bind (fun q132 => some ((0 : Int32), q132.2)) ∧ TB S2 N (clE G N wi wo co (spF P code e mk wi)) 0 ∧ frF S S2 ∧ S2.1 9 = S.1 9
  | 0, f + 1, S, h1, h2, hI, hT => ⟨S, by rw [fX0_find_45, if_pos (by decide)], hT, frF_refl S, rfl⟩
  | a + 1, f + 1, S, h1, h2, hI, hT => by
    obtain ⟨hG, hL, h24, h98, h99, hP, hco⟩ := id hI
    have hN := hL.1
    have hw : ∀ g, g < G → 1 ≤ wi g := fun g hg => (hG.2.2.2.2.2.1 g hg).1.1
    have ho : ∀ g, g < G → wo g ≤ 9999 := fun g hg => (hG.2.2.2.2.2.1 g hg).2.1.2.1
    generalize hEd : clE G N wi wo co (spF P code e mk wi) = E at *
    have hEa : E a = flq N wi wo co (spF P code e mk wi) E a (4 * G) := by
      rw [← hEd]
      exact clE_eq G N wi wo co (spF P code e mk wi) hw (by omega)
    have hbd : ∀ b, a < b → b ≤ N → (E b).1 ≤ 9999 * (N - b) ∧ (E b).2.1 ≤ N - b := fun b _ _ => by
      rw [← hEd]
      exact clE_bd G N wi wo co (spF P code e mk wi) hw ho (N - b) b (Nat.le_refl _)
    have hv1 : vin (nI (a + 1)) 301 = true := vin_nI (by omega) (by omega)
    have hv0 : vin (nI a) 301 = true := vin_nI (by omega) (by omega)
    have hT1 := hT.1 (a + 1) (Nat.le_refl _) h1
    let S4 : ST := us (us (us (us S 32 a (nI (E (a + 1)).1)) 33 a (nI (E (a + 1)).2.1)) 34 a (-1)) 35 a 0
    have fr4 : frT a S S4 := ⟨fun c _ _ _ i a4 => by
      show (us (us (us (us S 32 a _) 33 a _) 34 a _) 35 a _).1 c i = _
      rw [us_rd, us_rd, us_rd, us_rd]
      by_cases e1 : i = a
      · rw [if_neg (by omega), if_neg (by omega), if_neg (by omega), if_neg (by omega)]
      · rw [if_neg e1, if_neg e1, if_neg e1, if_neg e1]
        simp, fun _ _ => rfl, rfl⟩
    have hI4 := hI.fr fr4.F
    obtain ⟨S5, b1, b2, b3, b4⟩ := begin_eq F (by omega) S4 hI4.2.1 (show a ≤ N by omega)
    have fr5 : frF S4 S5 := ⟨fun c _ a2 _ _ a5 _ => by rw [b3 c a5, us_row, if_neg a2], fun j _ => by rw [b3 6 (by decide)]; rfl, fun j _ _ => by rw [b3 9 (by decide)]; rfl, b4⟩
    have hI5 := hI4.fr fr5
    have h5c : ∀ c, c ≠ 31 → c ≠ 8 → S5.1 c = S4.1 c := fun c a1 a2 => by rw [b3 c a1, us_row, if_neg a2]
    have hEN5 : EN S5 a (flq N wi wo co (spF P code e mk wi) E a (4 * 0)) := by
      show EN S5 a ((E (a + 1)).1, (E (a + 1)).2.1, none)
      unfold EN
      rw [h5c 32 (by decide) (by decide), h5c 33 (by decide) (by decide), h5c 34 (by decide) (by decide), h5c 35 (by decide) (by decide)]
      refine ⟨?_, ?_, fun _ => ?_, fun q hq => (by cases hq)⟩
      · show (us (us (us (us S 32 a _) 33 a _) 34 a _) 35 a _).1 32 a = _
        simp [us_rd]
      · show (us (us (us (us S 32 a _) 33 a _) 34 a _) 35 a _).1 33 a = _
        simp [us_rd]
      · show (us (us (us (us S 32 a _) 33 a _) 34 a _) 35 a _).1 34 a = _
        simp [us_rd]
    have hT5 : ∀ i, a < i → i ≤ N → S5.1 32 i = nI (E i).1 ∧ S5.1 33 i = nI (E i).2.1 := fun i a1 a2 => by
      rw [h5c 32 (by decide) (by decide), h5c 33 (by decide) (by decide), fr4.1 32 (by decide) (by decide) (by decide) i (by omega), fr4.1 33 (by decide) (by decide) (by decide) i (by omega)]
      exact hT.1 i (by omega) a2
    obtain ⟨S6, c1, c2, c3⟩ := f101_lp F hF (fX0_find_45 F f) E (show a < N by omega) x1 hbd G F 0 S5 (by omega) (by have := hG.1; omega) hI5 b2 hEN5 hT5
    rw [← hEa] at c2
    have hI6 := hI5.fr c3.F
    have hsame : ∀ c, 32 ≤ c → c ≤ 35 → ∀ i, i ≠ a → S6.1 c i = S.1 c i := fun c a1 a2 i a3 => by
      rw [c3.1 c (by omega) (by omega) (by omega) i (by omega), h5c c (by omega) (by omega), fr4.1 c (by omega) (by omega) (by omega) i (by omega)]
    have hT6 : TB S6 N E a := by
      refine ⟨fun i a1 a2 => ?_, fun i a1 a2 => ?_⟩
      · by_cases ei : i = a
        · subst ei
          exact ⟨c2.1, c2.2.1⟩
        · rw [hsame 32 (by omega) (by omega) i ei, hsame 33 (by omega) (by omega) i ei]
          exact hT.1 i (by omega) a2
      · by_cases ei : i = a
        · subst ei
          exact c2
        · unfold EN
          rw [hsame 32 (by omega) (by omega) i ei, hsame 33 (by omega) (by omega) i ei, hsame 34 (by omega) (by omega) i ei, hsame 35 (by omega) (by omega) i ei]
          exact hT.2 i (by omega) a2
    have hfr6 : frF S S6 := fr4.F.tr (fr5.tr c3.F)
    subst hEd
    obtain ⟨S7, r1, r2, r3, r4⟩ := f45_lp F hF x1 a f S6 (by omega) (by omega) hI6 hT6
    refine ⟨S7, ?_, r2, hfr6.tr r3, ?_⟩
    · rw [fX0_find_45, nI_pred, if_neg (nI_pos (by omega)), nI_1, if_pos hv1, if_pos hv0, ix_nI (by omega), ix_nI (by omega), hT1.1]
      have e33 : (us S 32 a (nI (clE G N wi wo co (spF P code e mk wi) (a + 1)).1)).1 33 (a + 1) = nI (clE G N wi wo co (spF P code e mk wi) (a + 1)).2.1 := hT1.2
      show (if vin (nI (a + 1)) 301 = true then (if vin (nI a) 301 = true then bindS (us (us S 32 a (nI (clE G N wi wo co (spF P code e mk wi) (a + 1)).1)) 33 a ((us S 32 a (nI (clE G N wi wo co (spF P code e mk wi) (a + 1)).1)).1 33 (a + 1))) _ else none) else none) = _
      rw [if_pos hv1, if_pos hv0, e33]
      show (if vin (nI a) 301 = true then bindS (us (us (us S 32 a (nI (clE G N wi wo co (spF P code e mk wi) (a + 1)).1)) 33 a (nI (clE G N wi wo co (spF P code e mk wi) (a + 1)).2.1)) 34 a (-1)) _ else none) = _
      rw [if_pos hv0]
      show (if vin (nI a) 301 = true then (fX5_beginAt F S4 (nI a)).bind _ else none) = _
      rw [if_pos hv0, b1, Option.bind_some]
      refine Eq.trans c1 ?_
      rw [show nI a + -1 = nI a - 1 by grind]
      exact r1
    · rw [r4]
      funext j
      rw [c3.1 9 (by decide) (by decide) (by decide) j (Or.inl (by decide)), h5c 9 (by decide) (by decide)]
      rfl
theorem upd_list {f : Nat → Int32} {L : List Nat} {v : Nat} (h : ∀ i, i < L.length → f i = nI (L.getD i 0)) : ∀ i, i < (L ++ [v]).length → upd f L.length (nI v) i = nI ((L ++ [v]).getD i 0) := fun i hi => by
  rw [List.length_append] at hi
  have hi2 : i < L.length + 1 := hi
  rw [upd_rd]
  by_cases e : i = L.length
  · rw [if_pos e, e]
    simp
  · rw [if_neg e, h i (by omega)]
    congr 1
    rw [List.getD_eq_getElem?_getD, List.getD_eq_getElem?_getD, List.getElem?_append_left (by omega)]
theorem ls_lp (F : Nat) (hw : ∀ g, g < G → 1 ≤ wi g) : ∀ (d f m b : Nat) (S : ST) (L : List Nat), m + d = N → d < f → GC S G e wi wo → N ≤ 300 → TB S N (clE G N wi wo co (spF P code e mk wi)) 0 → S.1 9 10 = nI L.length → L.length ≤ m → b ≤ 400 → (∀ i, i < L.length → S.1 36 i = nI (L.getD i 0)) → ∃ S2 M, M = L ++ seqL G N wi wo co (spF P code e mk wi) N (max m b) ∧ fX0_listSheets_9 F f S (nI N) (nI b) (nI m) = some (0, S2) ∧ S2.1 9 10 = nI M.length ∧ M.length ≤ N ∧ (∀ i, i < M.length → S2.1 36 i = nI (M.getD i 0)) ∧ (∀ c, c ≠ 9 → c ≠ 36 → S2.1 c = S.1 c) ∧ (∀ j, j ≠ 10 → S2.1 9 j = S.1 9 j) ∧ S2.2 = S.2
  | 0, f + 1, m, b, S, L, h1, h2, hG, hN, hT, h9, hl, hb, h36 => by
    have e0 : seqL G N wi wo co (spF P code e mk wi) N (max m b) = [] := by
      cases N with
      | zero => rfl
      | succ k => rw [seqL, if_pos (by omega)]
    refine ⟨S, L, by rw [e0, List.append_nil], ?_, h9, by omega, h36, fun _ _ _ => rfl, fun _ _ => rfl, rfl⟩
    rw [fX0_listSheets_9, if_pos (nI_le (by omega) (by omega))]
  | d + 1, f + 1, m, b, S, L, h1, h2, hG, hN, hT, h9, hl, hb, h36 => by
    rw [fX0_listSheets_9, if_neg (nI_ge (by omega) (by omega))]
    by_cases c1 : m < b
    · rw [if_pos (nI_lt c1 (by omega)), nI_1]
      have ih := ls_lp F hw d f (m + 1) b S L (by omega) (by omega) hG hN hT h9 (by omega) hb h36
      rw [show max (m + 1) b = max m b by omega] at ih
      exact ih
    · rw [if_neg (nI_nlt (by omega) (by omega)), if_pos (vin_nI (by omega) (by omega)), ix_nI (by omega), Nat.max_eq_left (by omega)]
      have hEN := hT.2 m (by omega) (by omega)
      cases hq : (clE G N wi wo co (spF P code e mk wi) m).2.2 with
      | none =>
        rw [if_pos (hEN.2.2.1 hq), nI_1]
        have ih := ls_lp F hw d f (m + 1) b S L (by omega) (by omega) hG hN hT h9 (by omega) hb h36
        rw [show max (m + 1) b = m + 1 by omega] at ih
        have es : seqL G N wi wo co (spF P code e mk wi) N m = seqL G N wi wo co (spF P code e mk wi) N (m + 1) := by
          rw [seqL_st G N wi wo co (spF P code e mk wi) hw N (N + 1) m (by omega) (by omega), seqL, if_neg (by omega), hq]
        rw [es]
        exact ih
      | some q =>
        obtain ⟨g1, g2, g3⟩ := hEN.2.2.2 q hq
        obtain ⟨k1, k2, _⟩ := clE_ch G N wi wo co (spF P code e mk wi) hw (show m < N by omega) hq
        have hqG : q / 4 < G := by omega
        have hwq := (hG.2.2.2.2.2.1 (q / 4) hqG).1
        have es : seqL G N wi wo co (spF P code e mk wi) N m = m :: seqL G N wi wo co (spF P code e mk wi) N (m + wi (q / 4)) := by
          rw [seqL_st G N wi wo co (spF P code e mk wi) hw N (N + 1) m (by omega) (by omega), seqL, if_neg (by omega), hq]
        have h34 : ¬ S.1 34 m = -1 := by rw [g2]; exact m1_ne (by omega)
        rw [if_neg h34, h9, if_pos (show nI L.length < 300 from nI_lt (b := 300) (by omega) (by omega)), if_pos (vin_nI (by omega) (by omega)), ix_nI (by omega)]
        have hG2 : GC (us (us S 36 L.length (nI m)) 9 10 (nI (L.length + 1))) G e wi wo := hG.fr rfl rfl rfl rfl rfl
        obtain ⟨S2, M, r1, r2, r3, r4, r5, r6, r7, r8⟩ := ls_lp F hw d f (m + 1) (m + wi (q / 4)) (us (us S 36 L.length (nI m)) 9 10 (nI (L.length + 1))) (L ++ [m]) (by omega) (by omega) hG2 hN ⟨fun i a1 a2 => hT.1 i a1 a2, fun i a1 a2 => hT.2 i a1 a2⟩ (by rw [List.length_append]; rfl) (by rw [List.length_append]; show L.length + 1 ≤ m + 1; omega) (by omega) (upd_list h36)
        refine ⟨S2, M, ?_, ?_, r3, r4, r5, fun c a1 a2 => by rw [r6 c a1 a2, us_row, if_neg a1, us_row, if_neg a2], fun j hj => by rw [r7 j hj, us_rd, if_pos rfl, if_neg hj]; rfl, r8⟩
        · rw [r1, es, show max (m + 1) (m + wi (q / 4)) = m + wi (q / 4) by omega]
          simp
        · show bindS (us (us S 36 L.length (nI m)) 9 10 (S.1 9 10 + 1)) (fun S61 => if vin (nI m) 301 = true then (fX2_widthOf F S61 (S61.1 34 m)).bind (fun q75 => bindI (nI m + q75.1) (fun v79 => fX0_listSheets_9 F f q75.2 (nI N) v79 (nI m + 1))) else none) = _
          rw [h9, nI_1 L.length]
          show (if vin (nI m) 301 = true then (fX2_widthOf F (us (us S 36 L.length (nI m)) 9 10 (nI (L.length + 1))) (S.1 34 m)).bind (fun q75 => bindI (nI m + q75.1) (fun v79 => fX0_listSheets_9 F f q75.2 (nI N) v79 (nI m + 1))) else none) = _
          rw [if_pos (vin_nI (by omega) (by omega)), g2, wOf_eq F _ hG2 hqG, Option.bind_some, nI_add, bindI_eq, nI_1]
          exact r2
theorem findC_clip (F : Nat) (hF : 1000 ≤ F) (S : ST) (hI : CI S G N e wi wo mk code P co) (hs : ¬ S.1 9 11 = 0) : ∃ S2 M, M = seqL G N wi wo co (spF P code e mk wi) N 0 ∧ fX0_find F S = some (0, S2) ∧ TB S2 N (clE G N wi wo co (spF P code e mk wi)) 0 ∧ S2.1 9 10 = nI M.length ∧ M.length ≤ N ∧ (∀ i, i < M.length → S2.1 36 i = nI (M.getD i 0)) ∧ S2.1 9 11 = 0 ∧ frF S S2 := by
  obtain ⟨hG, hL, h24, h98, h99, hP, hco⟩ := id hI
  have hN := hL.1
  have hw : ∀ g, g < G → 1 ≤ wi g := fun g hg => (hG.2.2.2.2.2.1 g hg).1.1
  have f0 : frF S (us (us (us S 9 11 0) 32 N 0) 33 N 0) := ⟨fun c _ _ a3 _ _ a6 => by rw [us_row, if_neg (by omega), us_row, if_neg (by omega), us_row, if_neg a3], fun _ _ => rfl, fun j _ hj => by
    show (us S 9 11 0).1 9 j = _
    rw [us_rd, if_pos rfl, if_neg hj], rfl⟩
  have hN0 := clE_N G N wi wo co (spF P code e mk wi) (Nat.le_refl N)
  obtain ⟨S1, a1, a2, a3, a4⟩ := f45_lp F (by omega) (nI N) N F (us (us (us S 9 11 0) 32 N 0) 33 N 0) (Nat.le_refl _) (by omega) (hI.fr f0) ⟨fun i b1 b2 => by
    have ei : i = N := by omega
    subst ei
    rw [hN0]
    simp [us_rd]
    rfl, fun i b1 b2 => by omega⟩
  have f1 := f0.tr a3
  have hI1 := hI.fr f1
  obtain ⟨S2, M, r1, r2, r3, r4, r5, r6, r7, r8⟩ := ls_lp F hw N F 0 0 (us S1 9 10 0) [] (by omega) (by omega) (hI1.1.fr rfl rfl rfl rfl rfl) hN ⟨fun i b1 b2 => a2.1 i b1 b2, fun i b1 b2 => a2.2 i b1 b2⟩ rfl (Nat.zero_le _) (by omega) (fun i hi => by cases hi)
  have f2 : frF S1 S2 := ⟨fun c _ _ c3 _ _ c6 => by rw [r6 c c3 (by omega), us_row, if_neg c3], fun j _ => by rw [r6 6 (by decide) (by decide)]; rfl, fun j hj _ => by rw [r7 j hj, us_rd, if_pos rfl, if_neg hj], r8⟩
  refine ⟨S2, M, by rw [r1]; rfl, ?_, ?_, r3, r4, r5, ?_, f1.tr f2⟩
  · unfold fX0_find
    rw [if_neg hs]
    have e75 : (us S 9 11 0).1 7 5 = nI N := hL.2.1
    show bindI (jmin ((us S 9 11 0).1 7 5) 300) (fun v26 => if vin v26 301 = true then bindS (us (us S 9 11 0) 32 (ix v26) 0) (fun S33 => if vin v26 301 = true then bindS (us S33 33 (ix v26) 0) (fun S40 => bindI (v26 - 1) (fun v44 => fX0_find_45 F F S40 v26 v44)) else none) else none) = _
    rw [e75, show (300 : Int32) = nI 300 from rfl, jmin_nI (by omega) (by omega), Nat.min_eq_left (by omega), bindI_eq, if_pos (vin_nI (by omega) (by omega)), ix_nI (by omega)]
    show (if vin (nI N) 301 = true then bindS (us (us (us S 9 11 0) 32 N 0) 33 N 0) (fun S40 => bindI (nI N - 1) (fun v44 => fX0_find_45 F F S40 (nI N) v44)) else none) = _
    rw [if_pos (vin_nI (by omega) (by omega))]
    refine Eq.trans a1 ?_
    have el : fX0_listSheets F S1 (nI N) = some (0, S2) := r2
    rw [el]
    rfl
  · refine ⟨fun i b1 b2 => ?_, fun i b1 b2 => ?_⟩
    · rw [r6 32 (by decide) (by decide), r6 33 (by decide) (by decide)]
      exact a2.1 i b1 b2
    · unfold EN
      rw [r6 32 (by decide) (by decide), r6 33 (by decide) (by decide), r6 34 (by decide) (by decide), r6 35 (by decide) (by decide)]
      exact a2.2 i b1 b2
  · rw [r7 11 (by decide)]
    show S1.1 9 11 = 0
    rw [a4]
    simp [us_rd]
end CLIPD
