section CLIPO
variable {G N : Nat} {e wi wo mk : Nat → Nat} {code : Nat → Int32} {P co : Nat}
def cutS (S : ST) (L a q : Nat) : ST := us (us (us (us S 19 L (nI a)) 20 L (nI (q / 4))) 21 L (nI (q % 4))) 0 43 (nI (L + 1))
theorem m267_lp (F : Nat) (hF : 400 ≤ F) (k252 : ST → Int32 → Option (Int32 × ST)) (E : Nat → Nat × Nat × Option Nat) (hS : SF G N e wi wo mk code P co) {a L : Nat} (ha : a < N) (hE : ∀ b, b ≤ N → (E b).1 ≤ 9999 * (N - b) ∧ (E b).2.1 ≤ N - b) (S : ST) (hI : MI S G N e wi wo mk code P co) (hT : TM S N E 0) (hC : CM S N G wi (spF P code e mk wi) 0) (h43 : S.1 0 43 = nI L) (hL : L < 300) : ∀ (d f g : Nat), g + d = G → d + 1 < f → (∀ p, p < 4 * g → ¬ hit N wi wo co (spF P code e mk wi) E a p) → (∃ q, q < 4 * G ∧ hit N wi wo co (spF P code e mk wi) E a q ∧ (∀ p, p < q → ¬ hit N wi wo co (spF P code e mk wi) E a p) ∧ fX11_clip_267 F k252 f S (nI a) (nI L) (nI g) = fX11_clip_432 F k252 (cutS S L a q) (nI a) (nI L)) ∨ ((∀ p, p < 4 * G → ¬ hit N wi wo co (spF P code e mk wi) E a p) ∧ fX11_clip_267 F k252 f S (nI a) (nI L) (nI g) = fX11_clip_432 F k252 S (nI a) (nI L))
  | 0, f + 1, g, h1, h2, hno => by
    have eg : g = G := by omega
    subst eg
    have hG8 := hS.1
    right
    refine ⟨hno, ?_⟩
    rw [fX11_clip_267, hI.1.1, if_pos (nI_le (by omega) (by omega))]
  | d + 1, f + 1, g, h1, h2, hno => by
    have hG8 := hS.1
    have hst : fX11_clip_267 F k252 (f + 1) S (nI a) (nI L) (nI g) = fX11_clip_286 F k252 (fX11_clip_267 F k252 f) F S (nI a) (nI L) (nI g) (nI 0) := by
      rw [fX11_clip_267, hI.1.1, if_neg (nI_ge (by omega) (by omega)), if_pos h43]
      rfl
    rw [hst]
    rcases m286_lp F k252 (fX11_clip_267 F k252 f) E hS (show g < G by omega) ha hE S hI hT hC h43 hL 4 F 0 (by omega) (by omega) hno with ⟨q, a1, a2, a3, a4, a5⟩ | ⟨b1, b2⟩
    · left
      refine ⟨q, by omega, a3, a4, ?_⟩
      rw [a5]
      obtain ⟨f', rfl⟩ : ∃ f', f = f' + 1 := ⟨f - 1, by omega⟩
      have h14 : (cutS S L a q).1 0 14 = nI G := hI.1.1
      show fX11_clip_267 F k252 (f' + 1) (cutS S L a q) (nI a) (nI L) (nI (g + 1)) = _
      rw [fX11_clip_267, h14]
      by_cases c : G ≤ g + 1
      · rw [if_pos (nI_le c (by omega))]
      · rw [if_neg (nI_ge (by omega) (by omega)), if_neg (c := (cutS S L a q).1 0 43 = nI L) (show ¬ nI (L + 1) = nI L by rw [nI_eq (by omega) (by omega)]; omega)]
    · rw [b2]
      exact m267_lp F hF k252 E hS ha hE S hI hT hC h43 hL d f (g + 1) (by omega) (by omega) b1
theorem frMC_cut (S : ST) (L a q : Nat) : frMC S (cutS S L a q) := ⟨fun c a1 a2 => by
  unfold cutS
  rw [us_row, if_neg a1, us_row, if_neg (by omega), us_row, if_neg (by omega), us_row, if_neg (by omega)], fun j hj => by
  unfold cutS
  simp [us_rd, hj], rfl⟩
theorem m252_lp (F : Nat) (hF : 400 ≤ F) (hS : SF G N e wi wo mk code P co) : ∀ (d f a : Nat) (S : ST) (M : List Nat), N - a ≤ d → d < f → a ≤ 400 → MI S G N e wi wo mk code P co → TM S N (clE G N wi wo co (spF P code e mk wi)) 0 → CM S N G wi (spF P code e mk wi) 0 → M.length ≤ a → M.length ≤ N → ctI M (clE G N wi wo co (spF P code e mk wi)) S → ∃ S2, fX11_clip_252 F f S (nI a) = some (0, S2) ∧ ctI (M ++ seqL G N wi wo co (spF P code e mk wi) N a) (clE G N wi wo co (spF P code e mk wi)) S2 ∧ S2.1 17 = S.1 17 ∧ frMC S S2
  | d, 0, a, S, M, h1, h2, h3, hI, hT, hC, hl, hlN, hc => by omega
  | d, f + 1, a, S, M, h1, h2, h3, hI, hT, hC, hl, hlN, hc => by
    obtain ⟨hG8, hN, hmk, hP, hco, hSg⟩ := id hS
    have hw : ∀ g, g < G → 1 ≤ wi g := fun g hg => (hSg g hg).1.1
    have ho : ∀ g, g < G → wo g ≤ 9999 := fun g hg => (hSg g hg).2.1.2
    by_cases c : N ≤ a
    · have e0 : seqL G N wi wo co (spF P code e mk wi) N a = [] := by
        cases N with
        | zero => rfl
        | succ k => rw [seqL, if_pos (by omega)]
      refine ⟨S, ?_, by rw [e0, List.append_nil]; exact hc, rfl, frMC_refl S⟩
      rw [fX11_clip_252, hI.2.1.1, if_pos (nI_le c (by omega))]
    · cases d with
      | zero => omega
      | succ d =>
        have hst : fX11_clip_252 F (f + 1) S (nI a) = fX11_clip_267 F (fX11_clip_252 F f) F S (nI a) (nI M.length) (nI 0) := by
          rw [fX11_clip_252, hI.2.1.1, if_neg (nI_ge (by omega) (by omega)), bindI_eq, hc.1]
          rfl
        have hL : M.length < 300 := by omega
        have hE : ∀ b, b ≤ N → (clE G N wi wo co (spF P code e mk wi) b).1 ≤ 9999 * (N - b) ∧ (clE G N wi wo co (spF P code e mk wi) b).2.1 ≤ N - b := fun b _ => clE_bd G N wi wo co (spF P code e mk wi) hw ho (N - b) b (Nat.le_refl _)
        rw [hst]
        rcases m267_lp F hF (fX11_clip_252 F f) (clE G N wi wo co (spF P code e mk wi)) hS (show a < N by omega) hE S hI hT hC hc.1 hL G F 0 (by omega) (by omega) (fun p hp => by omega) with ⟨q, a1, a2, a3, a4⟩ | ⟨b1, b2⟩
        · have hch : (clE G N wi wo co (spF P code e mk wi) a).2.2 = some q := by
            cases hq : (clE G N wi wo co (spF P code e mk wi) a).2.2 with
            | none => exact absurd a2.2 (clE_no G N wi wo co (spF P code e mk wi) hw (by omega) hq q a1 a2.1)
            | some q2 =>
              obtain ⟨k1, k2, k3, k4, k5⟩ := clE_ch G N wi wo co (spF P code e mk wi) hw (by omega) hq
              have e1 : ¬ q2 < q := fun h => a3 q2 h ⟨k2, k3, k4⟩
              have e2 : ¬ q < q2 := fun h => k5 q h a2.1 a2.2
              rw [show q2 = q by omega]
          have es : seqL G N wi wo co (spF P code e mk wi) N a = a :: seqL G N wi wo co (spF P code e mk wi) N (a + wi (q / 4)) := by
            rw [seqL_st G N wi wo co (spF P code e mk wi) hw N (N + 1) a (by omega) (by omega), seqL, if_neg (by omega), hch]
          have hqG : q / 4 < G := by omega
          have hwq := (hSg (q / 4) hqG).1
          have hI2 := hI.fr (frMC_cut S M.length a q)
          have hct2 : ctI (M ++ [a]) (clE G N wi wo co (spF P code e mk wi)) (cutS S M.length a q) := by
            refine ⟨by rw [List.length_append]; rfl, fun i hi => ?_⟩
            rw [List.length_append] at hi
            have hi2 : i < M.length + 1 := hi
            by_cases ei : i = M.length
            · subst ei
              have eg : (M ++ [a]).getD M.length 0 = a := by simp
              rw [eg]
              refine ⟨?_, q, hch, ?_, ?_⟩
              · unfold cutS; simp [us_rd]
              · unfold cutS; simp [us_rd]
              · unfold cutS; simp [us_rd]
            · have eg : (M ++ [a]).getD i 0 = M.getD i 0 := by
                rw [List.getD_eq_getElem?_getD, List.getD_eq_getElem?_getD, List.getElem?_append_left (by omega)]
              rw [eg]
              obtain ⟨g1, q', g2, g3, g4⟩ := hc.2 i (by omega)
              refine ⟨?_, q', g2, ?_, ?_⟩
              · unfold cutS; simp [us_rd, ei]; exact g1
              · unfold cutS; simp [us_rd, ei]; exact g3
              · unfold cutS; simp [us_rd, ei]; exact g4
          obtain ⟨S2, r1, r2, r3, r4⟩ := m252_lp F hF hS d f (a + wi (q / 4)) (cutS S M.length a q) (M ++ [a]) (by omega) (by omega) (by omega) hI2 (fun i x y => hT i x y) (fun i x y => hC i x y) (by rw [List.length_append]; show M.length + 1 ≤ _; omega) (by rw [List.length_append]; show M.length + 1 ≤ _; omega) hct2
          refine ⟨S2, ?_, ?_, r3, (frMC_cut S M.length a q).tr r4⟩
          · rw [a4]
            unfold fX11_clip_432
            have e43 : (cutS S M.length a q).1 0 43 = nI (M.length + 1) := rfl
            have e20 : (cutS S M.length a q).1 20 M.length = nI (q / 4) := by unfold cutS; simp [us_rd]
            have e3 : (cutS S M.length a q).1 3 (q / 4) = nI (wi (q / 4)) := (hI2.1.2.1 (q / 4) hqG).1
            rw [e43, if_neg (nI_ge (by omega) (by omega)), if_pos (vin_nI (by omega) (by omega)), ix_nI (by omega), e20, if_pos (vin_nI (by omega) (by omega)), ix_nI (by omega), e3, nI_add, bindI_eq]
            exact r1
          · rw [es, show M ++ a :: seqL G N wi wo co (spF P code e mk wi) N (a + wi (q / 4)) = M ++ [a] ++ seqL G N wi wo co (spF P code e mk wi) N (a + wi (q / 4)) by simp]
            exact r2
        · have hch : (clE G N wi wo co (spF P code e mk wi) a).2.2 = none := by
            cases hq : (clE G N wi wo co (spF P code e mk wi) a).2.2 with
            | none => rfl
            | some q2 =>
              obtain ⟨k1, k2, k3, k4, k5⟩ := clE_ch G N wi wo co (spF P code e mk wi) hw (by omega) hq
              exact absurd ⟨k2, k3, k4⟩ (b1 q2 k1)
          have es : seqL G N wi wo co (spF P code e mk wi) N a = seqL G N wi wo co (spF P code e mk wi) N (a + 1) := by
            rw [seqL_st G N wi wo co (spF P code e mk wi) hw N (N + 1) a (by omega) (by omega), seqL, if_neg (by omega), hch]
          obtain ⟨S2, r1, r2, r3, r4⟩ := m252_lp F hF hS d f (a + 1) S M (by omega) (by omega) (by omega) hI hT hC (by omega) hlN hc
          refine ⟨S2, ?_, by rw [es]; exact r2, r3, r4⟩
          rw [b2]
          unfold fX11_clip_432
          rw [hc.1, if_pos (nI_le (by omega) (by omega)), nI_1, bindI_eq]
          exact r1
theorem clipM_eq (F : Nat) (hF : 1000 ≤ F) (hS : SF G N e wi wo mk code P co) (S : ST) (hI : MI S G N e wi wo mk code P co) : ∃ S2, fX11_clip F S = some (0, S2) ∧ ctI (seqL G N wi wo co (spF P code e mk wi) N 0) (clE G N wi wo co (spF P code e mk wi)) S2 ∧ S2.1 17 0 = nI (clE G N wi wo co (spF P code e mk wi) 0).1 ∧ frMC S S2 := by
  obtain ⟨hG8, hN, hmk, hP, hco, hSg⟩ := id hS
  have f0 : frMC S (us (us S 17 N 0) 18 N 0) := (frMC_us S (by omega) (by omega) _ _).tr (frMC_us _ (by omega) (by omega) _ _)
  have hN0 := clE_N G N wi wo co (spF P code e mk wi) (Nat.le_refl N)
  obtain ⟨S1, a1, a2, a3, a4⟩ := m27_lp F (by omega) hS N F (us (us S 17 N 0) 18 N 0) (Nat.le_refl _) (by omega) (hI.fr f0) (fun i b1 b2 => by
    have ei : i = N := by omega
    subst ei
    rw [hN0]
    simp [us_rd]
    rfl) (fun i b1 b2 => by omega)
  have f1 := f0.tr a4
  have f2 : frMC S1 (us S1 0 43 0) := ⟨fun c h1 _ => by rw [us_row, if_neg h1], fun j hj => by simp [us_rd, hj], rfl⟩
  obtain ⟨S2, r1, r2, r3, r4⟩ := m252_lp F (by omega) hS N F 0 (us S1 0 43 0) [] (by omega) (by omega) (by omega) (hI.fr (f1.tr f2)) (fun i x y => a2 i x y) (fun i x y => a3 i x y) (Nat.le_refl _) (Nat.zero_le _) ⟨rfl, fun i hi => by cases hi⟩
  refine ⟨S2, ?_, r2, ?_, f1.tr (f2.tr r4)⟩
  · unfold fX11_clip
    rw [hI.2.1.1, if_pos (vin_nI (by omega) (by omega)), ix_nI (by omega), bindS_eq]
    show (if vin (S.1 0 32) 301 = true then bindS (us (us S 17 N 0) 18 (ix (S.1 0 32)) 0) (fun S19 => bindI (S19.1 0 32 - 1) (fun v26 => fX11_clip_27 F F S19 v26)) else none) = _
    rw [hI.2.1.1, if_pos (vin_nI (by omega) (by omega)), ix_nI (by omega), bindS_eq, bindI_eq]
    show fX11_clip_27 F F (us (us S 17 N 0) 18 N 0) (S.1 0 32 - 1) = _
    rw [hI.2.1.1, a1]
    exact r1
  · rw [r3]
    exact (a2 0 (Nat.le_refl _) (Nat.zero_le _)).1
end CLIPO
