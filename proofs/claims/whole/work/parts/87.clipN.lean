section CLIPN
variable {G N : Nat} {e wi wo mk : Nat → Nat} {code : Nat → Int32} {P co : Nat}
theorem m71_lp (F : Nat) (hF : 400 ≤ F) (k27 : ST → Int32 → Option (Int32 × ST)) (k61 : ST → Int32 → Int32 → Option (Int32 × ST)) (E : Nat → Nat × Nat × Option Nat) (hS : SF G N e wi wo mk code P co) {a g : Nat} (hg : g < G) (ha : a < N) (hE : ∀ b, a < b → b ≤ N → (E b).1 ≤ 9999 * (N - b) ∧ (E b).2.1 ≤ N - b) : ∀ (d f k : Nat) (S : ST), k + d = 4 → d < f → MI S G N e wi wo mk code P co → VN S a (flq N wi wo co (spF P code e mk wi) E a (4 * g + k)) → (∀ i, a < i → i ≤ N → S.1 17 i = nI (E i).1 ∧ S.1 18 i = nI (E i).2.1) → CAN S N G wi (spF P code e mk wi) a (4 * g + k) → ∃ S2, fX11_clip_71 F k27 k61 f S (nI a) (nI g) (nI k) = k61 S2 (nI a) (nI (g + 1)) ∧ VN S2 a (flq N wi wo co (spF P code e mk wi) E a (4 * (g + 1))) ∧ CAN S2 N G wi (spF P code e mk wi) a (4 * (g + 1)) ∧ frV a S S2
  | 0, f + 1, k, S, h1, h2, hI, hV, hT, hC => by
    have ek : k = 4 := by omega
    subst ek
    have := hS.1
    refine ⟨S, ?_, hV, hC, frV_refl a S⟩
    rw [fX11_clip_71, if_pos (by decide), nI_1]
  | d + 1, f + 1, k, S, h1, h2, hI, hV, hT, hC => by
    obtain ⟨hG8, hN, hmk, hP, hco, hSg⟩ := id hS
    obtain ⟨⟨w1, w2⟩, ⟨o1, o2⟩, hbe, hty⟩ := hSg g hg
    have hw : ∀ g, g < G → 1 ≤ wi g := fun g hg => (hSg g hg).1.1
    have ho : ∀ g, g < G → wo g ≤ 9999 := fun g hg => (hSg g hg).2.1.2
    have hb := flq_bd G N wi wo co (spF P code e mk wi) ha hw ho hE (4 * g + k) (by omega)
    have hNa : 9999 * (N - a) ≤ 9999 * 300 := Nat.mul_le_mul_left _ (by omega)
    have hq1 : (4 * g + k) / 4 = g := by omega
    have hq2 : (4 * g + k) % 4 = k := by omega
    have go : ∀ (S1 : ST), frV a S S1 → S1.1 17 = S.1 17 → S1.1 18 = S.1 18 → S1.1 22 = S.1 22 → ∃ S2, fX11_clip_106 F k27 k61 (fX11_clip_71 F k27 k61 f) S1 (nI a) (nI g) (nI k) (bI (cnd N wi (spF P code e mk wi) a (4 * g + k))) = k61 S2 (nI a) (nI (g + 1)) ∧ VN S2 a (flq N wi wo co (spF P code e mk wi) E a (4 * (g + 1))) ∧ CAN S2 N G wi (spF P code e mk wi) a (4 * (g + 1)) ∧ frV a S S2 := fun S1 fr1 e17 e18 e22 => by
      have hI1 := hI.fr fr1.M
      have hV1 : VN S1 a (flq N wi wo co (spF P code e mk wi) E a (4 * g + k)) := by
        unfold VN
        rw [e17, e18]
        exact hV
      have hC1 : CAN S1 N G wi (spF P code e mk wi) a (4 * g + k) := by
        unfold CAN
        rw [e22]
        exact hC
      obtain ⟨S2, q1, q2, q3, q4⟩ := m106_eq F k27 k61 (fX11_clip_71 F k27 k61 f) E hS hg (show k < 4 by omega) ha S1 hI1 hV1 (by omega) (by omega) (fun i a1 a2 => by
        have h3 := hE i a1 a2
        have h4 : 9999 * (N - i) ≤ 9999 * 300 := Nat.mul_le_mul_left _ (by omega)
        rw [e17, e18]
        exact ⟨(hT i a1 a2).1, (hT i a1 a2).2, by omega, by omega⟩) hC1
      have fr2 := fr1.tr q4
      obtain ⟨S3, r1, r2, r3, r4⟩ := m71_lp F hF k27 k61 E hS hg ha hE d f (k + 1) S2 (by omega) (by omega) (hI1.fr q4.M) q2 (fun i a1 a2 => by
        rw [(fr2.2.1 i (by omega)).1, (fr2.2.1 i (by omega)).2]
        exact hT i a1 a2) q3
      exact ⟨S3, by rw [q1]; exact r1, r2, r3, fr2.tr r4⟩
    rw [fX11_clip_71, if_neg (show ¬ (3 : Int32) < nI k from nI_nlt (a := 3) (by omega) (by omega)), if_pos (vin_nI (by omega) (by omega)), ix_nI (by omega), hI.2.1.1, (hI.1.2.1 g hg).1, nI_add]
    by_cases c1 : N < a + wi g
    · rw [if_pos (nI_lt c1 (by omega))]
      have := go S (frV_refl a S) rfl rfl rfl
      rw [bI_F (fun h : cnd N wi (spF P code e mk wi) a (4 * g + k) => by have := h.1; rw [hq1] at this; omega)] at this
      exact this
    · rw [if_neg (nI_nlt (by omega) (by omega))]
      obtain ⟨S1, s1, s2⟩ := shM_eq F hF S (code := code) (k := k) (a := a) hG8 hN hmk hg ⟨w1, w2⟩ (show a + wi g ≤ N by omega) hI.1 hI.2.1 hbe hty (fun env => hvI_01 env code _ _) hI.2.2.1 hP (by omega)
      have fr1 : frV a S S1 := ⟨fun c a1 a2 _ _ _ => s2.1 c a1 a2, fun i _ => ⟨by rw [s2.1 17 (by decide) (by decide)], by rw [s2.1 18 (by decide) (by decide)]⟩, s2.2⟩
      have := go S1 fr1 (s2.1 17 (by decide) (by decide)) (s2.1 18 (by decide) (by decide)) (s2.1 22 (by decide) (by decide))
      rw [s1, Option.bind_some]
      by_cases c2 : shP P code e mk a (wi g) g k
      · have hcn : cnd N wi (spF P code e mk wi) a (4 * g + k) := by
          unfold cnd
          rw [hq1, hq2]
          exact ⟨by omega, c2⟩
        rw [bI_T hcn] at this
        rw [bI_T c2]
        exact this
      · have hcn : ¬ cnd N wi (spF P code e mk wi) a (4 * g + k) := fun h => by
          unfold cnd at h
          rw [hq1, hq2] at h
          exact c2 h.2
        rw [bI_F hcn] at this
        rw [bI_F c2]
        exact this
theorem m61_lp (F : Nat) (hF : 400 ≤ F) (k27 : ST → Int32 → Option (Int32 × ST)) (E : Nat → Nat × Nat × Option Nat) (hS : SF G N e wi wo mk code P co) {a : Nat} (ha : a < N) (hE : ∀ b, a < b → b ≤ N → (E b).1 ≤ 9999 * (N - b) ∧ (E b).2.1 ≤ N - b) : ∀ (d f g : Nat) (S : ST), g + d = G → d < f → MI S G N e wi wo mk code P co → VN S a (flq N wi wo co (spF P code e mk wi) E a (4 * g)) → (∀ i, a < i → i ≤ N → S.1 17 i = nI (E i).1 ∧ S.1 18 i = nI (E i).2.1) → CAN S N G wi (spF P code e mk wi) a (4 * g) → ∃ S2, fX11_clip_61 F k27 f S (nI a) (nI g) = k27 S2 (nI a + -1) ∧ VN S2 a (flq N wi wo co (spF P code e mk wi) E a (4 * G)) ∧ CAN S2 N G wi (spF P code e mk wi) a (4 * G) ∧ frV a S S2
  | 0, f + 1, g, S, h1, h2, hI, hV, hT, hC => by
    have eg : g = G := by omega
    subst eg
    have := hS.1
    refine ⟨S, ?_, hV, hC, frV_refl a S⟩
    rw [fX11_clip_61, hI.1.1, if_pos (nI_le (by omega) (by omega))]
  | d + 1, f + 1, g, S, h1, h2, hI, hV, hT, hC => by
    have hG8 := hS.1
    obtain ⟨S1, q1, q2, q3, q4⟩ := m71_lp F hF k27 (fX11_clip_61 F k27 f) E hS (show g < G by omega) ha hE 4 F 0 S (by omega) (by omega) hI hV hT hC
    obtain ⟨S2, r1, r2, r3, r4⟩ := m61_lp F hF k27 E hS ha hE d f (g + 1) S1 (by omega) (by omega) (hI.fr q4.M) q2 (fun i a1 a2 => by
      rw [(q4.2.1 i (by omega)).1, (q4.2.1 i (by omega)).2]
      exact hT i a1 a2) q3
    refine ⟨S2, ?_, r2, r3, q4.tr r4⟩
    rw [fX11_clip_61, hI.1.1, if_neg (nI_ge (by omega) (by omega))]
    exact q1.trans r1
def TM (S : ST) (N : Nat) (E : Nat → Nat × Nat × Option Nat) (a : Nat) : Prop := ∀ i, a ≤ i → i ≤ N → S.1 17 i = nI (E i).1 ∧ S.1 18 i = nI (E i).2.1
def CM (S : ST) (N G : Nat) (wi : Nat → Nat) (sp : Nat → Nat → Nat → Prop) (a : Nat) : Prop := ∀ i, a ≤ i → i < N → ∀ q, q < 4 * G → S.1 22 (32 * i + q) = bI (cnd N wi sp i q)
theorem m27_lp (F : Nat) (hF : 400 ≤ F) (hS : SF G N e wi wo mk code P co) : ∀ (a f : Nat) (S : ST), a ≤ N → a < f → MI S G N e wi wo mk code P co → TM S N (clE G N wi wo co (spF P code e mk wi)) a → CM S N G wi (spF P code e mk wi) a → ∃ S2, fX11_clip_27 F f S (nI a - 1) = fX11_clip_252 F F (us S2 0 43 0) 0 ∧ TM S2 N (clE G N wi wo co (spF P code e mk wi)) 0 ∧ CM S2 N G wi (spF P code e mk wi) 0 ∧ frMC S S2
  | 0, f + 1, S, h1, h2, hI, hT, hC => ⟨S, by rw [fX11_clip_27, if_pos (by decide)]; rfl, hT, hC, frMC_refl S⟩
  | a + 1, f + 1, S, h1, h2, hI, hT, hC => by
    obtain ⟨hG8, hN, hmk, hP, hco, hSg⟩ := id hS
    have hw : ∀ g, g < G → 1 ≤ wi g := fun g hg => (hSg g hg).1.1
    have ho : ∀ g, g < G → wo g ≤ 9999 := fun g hg => (hSg g hg).2.1.2
    generalize hEd : clE G N wi wo co (spF P code e mk wi) = E at *
    have hEa : E a = flq N wi wo co (spF P code e mk wi) E a (4 * G) := by
      rw [← hEd]
      exact clE_eq G N wi wo co (spF P code e mk wi) hw (by omega)
    have hbd : ∀ b, a < b → b ≤ N → (E b).1 ≤ 9999 * (N - b) ∧ (E b).2.1 ≤ N - b := fun b _ _ => by
      rw [← hEd]
      exact clE_bd G N wi wo co (spF P code e mk wi) hw ho (N - b) b (Nat.le_refl _)
    have hv1 : vin (nI (a + 1)) 301 = true := vin_nI (by omega) (by omega)
    have hv0 : vin (nI a) 301 = true := vin_nI (by omega) (by omega)
    have hT1 := hT (a + 1) (Nat.le_refl _) h1
    have fr2 : frV a S (us (us S 17 a (nI (E (a + 1)).1)) 18 a (nI (E (a + 1)).2.1)) := ⟨fun c _ _ a3 a4 _ => by rw [us_row, if_neg a4, us_row, if_neg a3], fun i hi => ⟨by simp [us_rd, hi], by simp [us_rd, hi]⟩, rfl⟩
    have hI2 := hI.fr fr2.M
    obtain ⟨S3, q1, q2, q3, q4⟩ := m61_lp F hF (fX11_clip_27 F f) E hS (show a < N by omega) hbd G F 0 (us (us S 17 a (nI (E (a + 1)).1)) 18 a (nI (E (a + 1)).2.1)) (by omega) (by omega) hI2 ⟨by
      show (us (us S 17 a _) 18 a _).1 17 a = nI (E (a + 1)).1
      simp [us_rd], by
      show (us (us S 17 a _) 18 a _).1 18 a = nI (E (a + 1)).2.1
      simp [us_rd]⟩ (fun i a1 a2 => by
        rw [(fr2.2.1 i (by omega)).1, (fr2.2.1 i (by omega)).2]
        exact hT i (by omega) a2) (fun i hi q hq hc => by
        show S.1 22 (32 * i + q) = _
        exact hC i (by omega) hi q hq)
    rw [← hEa] at q2
    have fr3 := fr2.tr q4
    have hT3 : TM S3 N E a := fun i a1 a2 => by
      by_cases ei : i = a
      · subst ei
        exact q2
      · rw [(fr3.2.1 i ei).1, (fr3.2.1 i ei).2]
        exact hT i (by omega) a2
    have hC3 : CM S3 N G wi (spF P code e mk wi) a := fun i a1 a2 q hq => q3 i a2 q hq (by omega)
    subst hEd
    obtain ⟨S4, r1, r2, r3, r4⟩ := m27_lp F hF hS a f S3 (by omega) (by omega) (hI.fr fr3.M) hT3 hC3
    refine ⟨S4, ?_, r2, r3, fr3.M.tr r4⟩
    rw [fX11_clip_27, nI_pred, if_neg (nI_pos (by omega)), nI_1, if_pos hv1, if_pos hv0, ix_nI (by omega), ix_nI (by omega), hT1.1, bindS_eq, if_pos hv1, if_pos hv0]
    have e18 : (us S 17 a (nI (clE G N wi wo co (spF P code e mk wi) (a + 1)).1)).1 18 (a + 1) = nI (clE G N wi wo co (spF P code e mk wi) (a + 1)).2.1 := hT1.2
    rw [e18, bindS_eq]
    refine Eq.trans q1 ?_
    rw [show nI a + -1 = nI a - 1 by grind]
    exact r1
def ctI (M : List Nat) (E : Nat → Nat × Nat × Option Nat) (S : ST) : Prop := S.1 0 43 = nI M.length ∧ ∀ i, i < M.length → S.1 19 i = nI (M.getD i 0) ∧ ∃ q, (E (M.getD i 0)).2.2 = some q ∧ S.1 20 i = nI (q / 4) ∧ S.1 21 i = nI (q % 4)
def hit (N : Nat) (wi wo : Nat → Nat) (co : Nat) (sp : Nat → Nat → Nat → Prop) (E : Nat → Nat × Nat × Option Nat) (a q : Nat) : Prop := cnd N wi sp a q ∧ vlq wi wo co E a q = ((E a).1 : Int) ∧ ctq wi E a q = (E a).2.1
theorem m286_lp (F : Nat) (k252 : ST → Int32 → Option (Int32 × ST)) (k267 : ST → Int32 → Int32 → Int32 → Option (Int32 × ST)) (E : Nat → Nat × Nat × Option Nat) (hS : SF G N e wi wo mk code P co) {a g L : Nat} (hg : g < G) (ha : a < N) (hE : ∀ b, b ≤ N → (E b).1 ≤ 9999 * (N - b) ∧ (E b).2.1 ≤ N - b) (S : ST) (hI : MI S G N e wi wo mk code P co) (hT : TM S N E 0) (hC : CM S N G wi (spF P code e mk wi) 0) (h43 : S.1 0 43 = nI L) (hL : L < 300) : ∀ (d f k : Nat), k + d = 4 → d + 2 < f → (∀ p, p < 4 * g + k → ¬ hit N wi wo co (spF P code e mk wi) E a p) → (∃ q, 4 * g + k ≤ q ∧ q < 4 * g + 4 ∧ hit N wi wo co (spF P code e mk wi) E a q ∧ (∀ p, p < q → ¬ hit N wi wo co (spF P code e mk wi) E a p) ∧ fX11_clip_286 F k252 k267 f S (nI a) (nI L) (nI g) (nI k) = k267 (us (us (us (us S 19 L (nI a)) 20 L (nI (q / 4))) 21 L (nI (q % 4))) 0 43 (nI (L + 1))) (nI a) (nI L) (nI (g + 1))) ∨ ((∀ p, p < 4 * g + 4 → ¬ hit N wi wo co (spF P code e mk wi) E a p) ∧ fX11_clip_286 F k252 k267 f S (nI a) (nI L) (nI g) (nI k) = k267 S (nI a) (nI L) (nI (g + 1)))
  | 0, f + 1, k, h1, h2, hno => by
    have ek : k = 4 := by omega
    subst ek
    right
    refine ⟨hno, ?_⟩
    rw [fX11_clip_286, if_pos (by decide), nI_1]
  | d + 1, f + 1, k, h1, h2, hno => by
    obtain ⟨hG8, hN, hmk, hP, hco, hSg⟩ := id hS
    obtain ⟨⟨w1, w2⟩, ⟨o1, o2⟩, _, _⟩ := hSg g hg
    have hq1 : (4 * g + k) / 4 = g := by omega
    have hq2 : (4 * g + k) % 4 = k := by omega
    have hkc : k * co ≤ 3 * 100 := Nat.mul_le_mul (by omega) hco
    have hva : vin (nI a) 301 = true := vin_nI (by omega) (by omega)
    have hvg : vin (nI g) 8 = true := vin_nI (by omega) (by omega)
    have hvL : vin (nI L) 300 = true := vin_nI hL (by omega)
    have next : ¬ hit N wi wo co (spF P code e mk wi) E a (4 * g + k) → (∃ q, 4 * g + k ≤ q ∧ q < 4 * g + 4 ∧ hit N wi wo co (spF P code e mk wi) E a q ∧ (∀ p, p < q → ¬ hit N wi wo co (spF P code e mk wi) E a p) ∧ fX11_clip_286 F k252 k267 f S (nI a) (nI L) (nI g) (nI (k + 1)) = k267 (us (us (us (us S 19 L (nI a)) 20 L (nI (q / 4))) 21 L (nI (q % 4))) 0 43 (nI (L + 1))) (nI a) (nI L) (nI (g + 1))) ∨ ((∀ p, p < 4 * g + 4 → ¬ hit N wi wo co (spF P code e mk wi) E a p) ∧ fX11_clip_286 F k252 k267 f S (nI a) (nI L) (nI g) (nI (k + 1)) = k267 S (nI a) (nI L) (nI (g + 1))) := fun hn => by
      rcases m286_lp F k252 k267 E hS hg ha hE S hI hT hC h43 hL d f (k + 1) (by omega) (by omega) (fun p hp => by
        by_cases ep : p = 4 * g + k
        · rw [ep]; exact hn
        · exact hno p (by omega)) with ⟨q, a1, a2, a3, a4, a5⟩ | h
      · exact Or.inl ⟨q, by omega, a2, a3, a4, a5⟩
      · exact Or.inr h
    rw [fX11_clip_286, if_neg (show ¬ (3 : Int32) < nI k from nI_nlt (a := 3) (by omega) (by omega)), if_pos h43, cell_eq, Option.bind_some, if_pos (vin_nI (by omega) (by omega)), ix_nI (by omega), hC a (by omega) ha (4 * g + k) (by omega), nI_1]
    by_cases c : cnd N wi (spF P code e mk wi) a (4 * g + k)
    · have haw : a + wi g ≤ N := by
        have := c.1
        rw [hq1] at this
        exact this
      have hTb := hT (a + wi g) (by omega) haw
      have hTa := hT a (by omega) (by omega)
      have hEb := hE (a + wi g) haw
      have hEa := hE a (by omega)
      have hNa : 9999 * (N - a) ≤ 9999 * 300 := Nat.mul_le_mul_left _ (by omega)
      have hNb : 9999 * (N - (a + wi g)) ≤ 9999 * 300 := Nat.mul_le_mul_left _ (by omega)
      have hvw : vin (nI (a + wi g)) 301 = true := vin_nI (by omega) (by omega)
      have hct : ctq wi E a (4 * g + k) = 1 + (E (a + wi g)).2.1 := by unfold ctq; rw [hq1]
      have hVl : (nI (wo g + (E (a + wi g)).1) - nI (k * co)).toInt = vlq wi wo co E a (4 * g + k) := by
        rw [x4_to (by omega) (by omega)]
        unfold vlq
        rw [hq1, hq2]
        omega
      have e156 : nI (wo g) - nI k * nI co + nI (E (a + wi g)).1 = nI (wo g + (E (a + wi g)).1) - nI (k * co) := by
        rw [pk_mul, ← nI_add (wo g)]
        generalize nI (wo g) = x
        generalize nI (k * co) = y
        generalize nI (E (a + wi g)).1 = z
        grind
      rw [bI_T c, if_neg z10, if_pos hvg, if_pos hvg, ix_nI (by omega), (hI.1.2.1 g hg).1, (hI.1.2.1 g hg).2, nI_add, if_pos hvw, if_pos hva, hI.2.2.2, ix_nI (by omega), hTb.1, ix_nI (by omega), hTa.1, e156, if_pos hvg, if_pos hvw, if_pos hva, hTb.2, hTa.2, show (1 : Int32) = nI 1 from rfl, nI_add]
      by_cases d1 : vlq wi wo co E a (4 * g + k) = ((E a).1 : Int)
      · rw [if_pos (show nI (wo g + (E (a + wi g)).1) - nI (k * co) = nI (E a).1 by rw [i_eq, hVl, i_lit (by omega)]; exact d1)]
        by_cases d2 : 1 + (E (a + wi g)).2.1 = (E a).2.1
        · left
          refine ⟨4 * g + k, Nat.le_refl _, by omega, ⟨c, d1, by rw [hct]; exact d2⟩, hno, ?_⟩
          rw [if_pos (by rw [d2])]
          have h43' : S.1 0 43 = nI L := h43
          show (if vin (S.1 0 43) 300 = true then bindS (us S 19 (ix (S.1 0 43)) (nI a)) (fun S388 => if vin (S388.1 0 43) 300 = true then bindS (us S388 20 (ix (S388.1 0 43)) (nI g)) (fun S398 => if vin (S398.1 0 43) 300 = true then bindS (us S398 21 (ix (S398.1 0 43)) (nI k)) (fun S409 => bindS (us S409 0 43 (S409.1 0 43 + nI 1)) (fun S417 => fX11_clip_286 F k252 k267 f S417 (nI a) (nI L) (nI g) (nI (k + 1)))) else none) else none) else none) = _
          rw [h43, if_pos hvL, ix_nI (by omega), bindS_eq]
          show (if vin (S.1 0 43) 300 = true then bindS (us (us S 19 L (nI a)) 20 (ix (S.1 0 43)) (nI g)) (fun S398 => if vin (S398.1 0 43) 300 = true then bindS (us S398 21 (ix (S398.1 0 43)) (nI k)) (fun S409 => bindS (us S409 0 43 (S409.1 0 43 + nI 1)) (fun S417 => fX11_clip_286 F k252 k267 f S417 (nI a) (nI L) (nI g) (nI (k + 1)))) else none) else none) = _
          rw [h43, if_pos hvL, ix_nI (by omega), bindS_eq]
          show (if vin (S.1 0 43) 300 = true then bindS (us (us (us S 19 L (nI a)) 20 L (nI g)) 21 (ix (S.1 0 43)) (nI k)) (fun S409 => bindS (us S409 0 43 (S409.1 0 43 + nI 1)) (fun S417 => fX11_clip_286 F k252 k267 f S417 (nI a) (nI L) (nI g) (nI (k + 1)))) else none) = _
          rw [h43, if_pos hvL, ix_nI (by omega), bindS_eq]
          show fX11_clip_286 F k252 k267 f (us (us (us (us S 19 L (nI a)) 20 L (nI g)) 21 L (nI k)) 0 43 (S.1 0 43 + nI 1)) (nI a) (nI L) (nI g) (nI (k + 1)) = _
          rw [h43, nI_add, hq1, hq2]
          obtain ⟨f', rfl⟩ : ∃ f', f = f' + 1 := ⟨f - 1, by omega⟩
          rw [fX11_clip_286]
          by_cases c3 : (3 : Int32) < nI (k + 1)
          · rw [if_pos c3, nI_1]
          · rw [if_neg c3, if_neg (c := (us (us (us (us S 19 L (nI a)) 20 L (nI g)) 21 L (nI k)) 0 43 (nI (L + 1))).1 0 43 = nI L) (show ¬ nI (L + 1) = nI L by rw [nI_eq (by omega) (by omega)]; omega), nI_1]
        · rw [if_neg (by rw [nI_eq (by omega) (by omega)]; exact d2)]
          exact next (fun h => d2 (by rw [← hct]; exact h.2.2))
      · rw [if_neg (show ¬ nI (wo g + (E (a + wi g)).1) - nI (k * co) = nI (E a).1 by rw [i_eq, hVl, i_lit (by omega)]; exact d1)]
        exact next (fun h => d1 h.2.1)
    · rw [bI_F c, if_pos rfl]
      exact next (fun h => c h.1)
end CLIPN
