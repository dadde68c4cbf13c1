theorem topI_01 (L : List Int32) : topI L = 0 ∨ topI L = 1 := by
  cases L with
  | nil => exact Or.inl rfl
  | cons x r =>
    show (if x = 0 then (0 : Int32) else 1) = 0 ∨ (if x = 0 then (0 : Int32) else 1) = 1
    by_cases hx : x = 0
    · rw [if_pos hx]; exact Or.inl rfl
    · rw [if_neg hx]; exact Or.inr rfl
theorem hvI_01 (env : Int32 → Int32) (code : Nat → Int32) (k m : Nat) : hvI env code k m = 0 ∨ hvI env code k m = 1 := by
  unfold hvI
  by_cases h : m = 0
  · rw [if_pos h]; exact Or.inr rfl
  · rw [if_neg h]; exact topI_01 _
def SF (G N : Nat) (e wi wo mk : Nat → Nat) (code : Nat → Int32) (P co : Nat) : Prop := G ≤ 8 ∧ N ≤ 300 ∧ (∀ i, i < N → mk i < 5) ∧ P ≤ 3 ∧ co ≤ 100 ∧ ∀ g, g < G → (1 ≤ wi g ∧ wi g ≤ 100) ∧ (1 ≤ wo g ∧ wo g ≤ 9999) ∧ (e g ≤ e (g + 1) ∧ e (g + 1) ≤ e G ∧ e G ≤ 320) ∧ (e g < e (g + 1) → tyRun code (e g) (e (g + 1) - e g) [] = some [true])
def MI (S : ST) (G N : Nat) (e wi wo mk : Nat → Nat) (code : Nat → Int32) (P co : Nat) : Prop := GM S code G e wi wo ∧ LM S N mk ∧ S.1 0 33 = nI P ∧ S.1 0 34 = nI co
def frMC (S S2 : ST) : Prop := (∀ c, c ≠ 0 → (c < 15 ∨ 22 < c) → S2.1 c = S.1 c) ∧ (∀ j, j ≠ 43 → S2.1 0 j = S.1 0 j) ∧ S2.2 = S.2
theorem frMC_refl (S : ST) : frMC S S := ⟨fun _ _ _ => rfl, fun _ _ => rfl, rfl⟩
theorem frMC.tr {S S2 S3 : ST} (h : frMC S S2) (g : frMC S2 S3) : frMC S S3 := ⟨fun c a1 a2 => (g.1 c a1 a2).trans (h.1 c a1 a2), fun j a => (g.2.1 j a).trans (h.2.1 j a), g.2.2.trans h.2.2⟩
theorem MI.fr {S S2 : ST} {G N : Nat} {e wi wo mk : Nat → Nat} {code : Nat → Int32} {P co : Nat} (h : MI S G N e wi wo mk code P co) (f : frMC S S2) : MI S2 G N e wi wo mk code P co := by
  unfold MI GM LM at *
  rw [f.2.1 14 (by decide), f.2.1 32 (by decide), f.2.1 33 (by decide), f.2.1 34 (by decide), f.1 3 (by decide) (by decide), f.1 4 (by decide) (by decide), f.1 7 (by decide) (by decide), f.1 5 (by decide) (by decide), f.1 6 (by decide) (by decide), f.1 14 (by decide) (by decide)]
  exact h
theorem frMC_us (S : ST) {c : Nat} (h1 : 15 ≤ c) (h2 : c ≤ 22) (j : Nat) (v : Int32) : frMC S (us S c j v) := ⟨fun a _ a2 => by rw [us_row, if_neg (by omega)], fun i _ => by rw [us_rd, if_neg (by omega)], rfl⟩
def VN (S : ST) (a : Nat) (s : Nat × Nat × Option Nat) : Prop := S.1 17 a = nI s.1 ∧ S.1 18 a = nI s.2.1
theorem bindS_eq (x : ST) (k : ST → Option (Int32 × ST)) : bindS x k = k x := rfl
section CLIPM
variable {G N : Nat} {e wi wo mk : Nat → Nat} {code : Nat → Int32} {P co : Nat}
theorem cell_eq (F : Nat) (S : ST) (a g k : Nat) : fX11_cell F S (nI a) (nI g) (nI k) = some (nI (32 * a + (4 * g + k)), S) := by
  unfold fX11_cell
  congr 2
  rw [show (8 : Int32) = nI 8 from rfl, show (4 : Int32) = nI 4 from rfl, pk_mul, nI_add, pk_mul, nI_add]
  congr 1
  omega
def CAN (S : ST) (N G : Nat) (wi : Nat → Nat) (sp : Nat → Nat → Nat → Prop) (a q0 : Nat) : Prop := ∀ i, i < N → ∀ q, q < 4 * G → (a < i ∨ (i = a ∧ q < q0)) → S.1 22 (32 * i + q) = bI (cnd N wi sp i q)
def frV (a : Nat) (S S2 : ST) : Prop := (∀ c, c ≠ 15 → c ≠ 16 → c ≠ 17 → c ≠ 18 → c ≠ 22 → S2.1 c = S.1 c) ∧ (∀ i, i ≠ a → S2.1 17 i = S.1 17 i ∧ S2.1 18 i = S.1 18 i) ∧ S2.2 = S.2
theorem frV_refl (a : Nat) (S : ST) : frV a S S := ⟨fun _ _ _ _ _ _ => rfl, fun _ _ => ⟨rfl, rfl⟩, rfl⟩
theorem frV.tr {a : Nat} {S S2 S3 : ST} (h : frV a S S2) (g : frV a S2 S3) : frV a S S3 := ⟨fun c a1 a2 a3 a4 a5 => (g.1 c a1 a2 a3 a4 a5).trans (h.1 c a1 a2 a3 a4 a5), fun i hi => ⟨(g.2.1 i hi).1.trans (h.2.1 i hi).1, (g.2.1 i hi).2.trans (h.2.1 i hi).2⟩, g.2.2.trans h.2.2⟩
theorem frV.M {a : Nat} {S S2 : ST} (h : frV a S S2) : frMC S S2 := ⟨fun c a1 a2 => h.1 c (by omega) (by omega) (by omega) (by omega) (by omega), fun j _ => by rw [h.1 0 (by decide) (by decide) (by decide) (by decide) (by decide)], h.2.2⟩
theorem m106_eq (F : Nat) (k27 : ST → Int32 → Option (Int32 × ST)) (k61 : ST → Int32 → Int32 → Option (Int32 × ST)) (k71 : ST → Int32 → Int32 → Int32 → Option (Int32 × ST)) (E : Nat → Nat × Nat × Option Nat) (hS : SF G N e wi wo mk code P co) {a g k : Nat} (hg : g < G) (hk : k < 4) (ha : a < N) (S : ST) (hI : MI S G N e wi wo mk code P co) (hV : VN S a (flq N wi wo co (spF P code e mk wi) E a (4 * g + k))) (hb1 : (flq N wi wo co (spF P code e mk wi) E a (4 * g + k)).1 ≤ 3000000) (hb2 : (flq N wi wo co (spF P code e mk wi) E a (4 * g + k)).2.1 ≤ 301) (hT : ∀ i, a < i → i ≤ N → S.1 17 i = nI (E i).1 ∧ S.1 18 i = nI (E i).2.1 ∧ (E i).1 ≤ 3000000 ∧ (E i).2.1 ≤ 300) (hC : CAN S N G wi (spF P code e mk wi) a (4 * g + k)) : ∃ S2, fX11_clip_106 F k27 k61 k71 S (nI a) (nI g) (nI k) (bI (cnd N wi (spF P code e mk wi) a (4 * g + k))) = k71 S2 (nI a) (nI g) (nI (k + 1)) ∧ VN S2 a (flq N wi wo co (spF P code e mk wi) E a (4 * g + k + 1)) ∧ CAN S2 N G wi (spF P code e mk wi) a (4 * g + k + 1) ∧ frV a S S2 := by
  obtain ⟨hG8, hN, hmk, hP, hco, hSg⟩ := id hS
  obtain ⟨⟨w1, w2⟩, ⟨o1, o2⟩, _, _⟩ := hSg g hg
  have hq1 : (4 * g + k) / 4 = g := by omega
  have hq2 : (4 * g + k) % 4 = k := by omega
  have hkc : k * co ≤ 3 * 100 := Nat.mul_le_mul (by omega) hco
  have hva : vin (nI a) 301 = true := vin_nI (by omega) (by omega)
  have hvg : vin (nI g) 8 = true := vin_nI (by omega) (by omega)
  have hcl : ∀ (v : Int32), v = bI (cnd N wi (spF P code e mk wi) a (4 * g + k)) → CAN (us S 22 (32 * a + (4 * g + k)) v) N G wi (spF P code e mk wi) a (4 * g + k + 1) := fun v hv i hi q hq hc => by
    rw [us_rd, if_pos rfl]
    by_cases e1 : 32 * i + q = 32 * a + (4 * g + k)
    · have e2 : i = a := by omega
      have e3 : q = 4 * g + k := by omega
      rw [if_pos e1, hv, e2, e3]
    · rw [if_neg e1]
      exact hC i hi q hq (by omega)
  unfold fX11_clip_106
  rw [cell_eq, Option.bind_some, if_pos (vin_nI (by omega) (by omega)), ix_nI (by omega)]
  by_cases c : cnd N wi (spF P code e mk wi) a (4 * g + k)
  · have haw : a + wi g ≤ N := by
      have := c.1
      rw [hq1] at this
      exact this
    have hTb := hT (a + wi g) (by omega) haw
    have hvw : vin (nI (a + wi g)) 301 = true := vin_nI (by omega) (by omega)
    have hct : ctq wi E a (4 * g + k) = 1 + (E (a + wi g)).2.1 := by unfold ctq; rw [hq1]
    have hVl : (nI (wo g + (E (a + wi g)).1) - nI (k * co)).toInt = vlq wi wo co E a (4 * g + k) := by
      rw [x4_to (by omega) (by omega)]
      unfold vlq
      rw [hq1, hq2]
      omega
    rw [bI_T c]
    show ∃ S2, (if (1 : Int32) = 0 then k71 (us S 22 (32 * a + (4 * g + k)) (1 &&& 1)) (nI a) (nI g) (nI k + 1) else (if vin (nI g) 8 = true then (if vin (nI g) 8 = true then (if vin (nI a + S.1 3 (ix (nI g))) 301 = true then bindI (S.1 4 (ix (nI g)) - nI k * S.1 0 34 + S.1 17 (ix (nI a + S.1 3 (ix (nI g))))) (fun v156 => if vin (nI g) 8 = true then (if vin (nI a + S.1 3 (ix (nI g))) 301 = true then bindI (1 + S.1 18 (ix (nI a + S.1 3 (ix (nI g))))) (fun v173 => if vin (nI a) 301 = true then (if v156 < S.1 17 (ix (nI a)) then k71 (us S 22 (32 * a + (4 * g + k)) (1 &&& 1)) (nI a) (nI g) (nI k + 1) else (if vin (nI a) 301 = true then (if v156 = S.1 17 (ix (nI a)) then (if vin (nI a) 301 = true then (if v173 < S.1 18 (ix (nI a)) then fX11_clip_211 F k27 k61 k71 (us S 22 (32 * a + (4 * g + k)) (1 &&& 1)) (nI a) (nI g) (nI k) v156 v173 else k71 (us S 22 (32 * a + (4 * g + k)) (1 &&& 1)) (nI a) (nI g) (nI k + 1)) else none) else fX11_clip_211 F k27 k61 k71 (us S 22 (32 * a + (4 * g + k)) (1 &&& 1)) (nI a) (nI g) (nI k) v156 v173) else none)) else none) else none) else none) else none) else none) else none)) = _ ∧ _
    rw [if_neg z10, if_pos hvg, if_pos hvg, ix_nI (by omega), (hI.1.2.1 g hg).1, (hI.1.2.1 g hg).2, nI_add, if_pos hvw, hI.2.2.2, ix_nI (by omega), hTb.1, hTb.2.1, bindI_eq, if_pos hvg, if_pos hvw, bindI_eq, if_pos hva, if_pos hva, if_pos hva, ix_nI (by omega), hV.1, hV.2, nI_1, a1_1]
    have e156 : nI (wo g) - nI k * nI co + nI (E (a + wi g)).1 = nI (wo g + (E (a + wi g)).1) - nI (k * co) := by
      rw [pk_mul, ← nI_add (wo g)]
      generalize nI (wo g) = x
      generalize nI (k * co) = y
      generalize nI (E (a + wi g)).1 = z
      grind
    rw [e156, show (1 : Int32) = nI 1 from rfl, nI_add]
    generalize hs : flq N wi wo co (spF P code e mk wi) E a (4 * g + k) = s at *
    have hnext : flq N wi wo co (spF P code e mk wi) E a (4 * g + k + 1) = stq N wi wo co (spF P code e mk wi) E a s (4 * g + k) := by rw [← hs]; rfl
    rw [hnext]
    have keep : ¬ ((s.1 : Int) < vlq wi wo co E a (4 * g + k) ∨ ((s.1 : Int) = vlq wi wo co E a (4 * g + k) ∧ 1 + (E (a + wi g)).2.1 < s.2.1)) → ∃ S2, k71 (us S 22 (32 * a + (4 * g + k)) (nI 1)) (nI a) (nI g) (nI (k + 1)) = k71 S2 (nI a) (nI g) (nI (k + 1)) ∧ VN S2 a (stq N wi wo co (spF P code e mk wi) E a s (4 * g + k)) ∧ CAN S2 N G wi (spF P code e mk wi) a (4 * g + k + 1) ∧ frV a S S2 := fun hh => by
      refine ⟨_, rfl, ?_, hcl (nI 1) (by rw [bI_T c]; rfl), fun c _ _ _ _ h5 => by rw [us_row, if_neg h5], fun i _ => ⟨rfl, rfl⟩, rfl⟩
      unfold stq
      split
      · rename_i hc
        have hc2 := hc.2
        unfold btq at hc2
        rw [hct] at hc2
        have h1 : (s.1 : Int) = vlq wi wo co E a (4 * g + k) := by omega
        have h2 : 1 + (E (a + wi g)).2.1 = s.2.1 := by omega
        refine ⟨?_, ?_⟩
        · show S.1 17 a = nI (vlq wi wo co E a (4 * g + k)).toNat
          rw [hV.1, ← h1]
          rfl
        · show S.1 18 a = nI (ctq wi E a (4 * g + k))
          rw [hV.2, hct, h2]
      · exact hV
    have put : ((s.1 : Int) < vlq wi wo co E a (4 * g + k) ∨ ((s.1 : Int) = vlq wi wo co E a (4 * g + k) ∧ 1 + (E (a + wi g)).2.1 < s.2.1)) → ∃ S2, fX11_clip_211 F k27 k61 k71 (us S 22 (32 * a + (4 * g + k)) (nI 1)) (nI a) (nI g) (nI k) (nI (wo g + (E (a + wi g)).1) - nI (k * co)) (nI (1 + (E (a + wi g)).2.1)) = k71 S2 (nI a) (nI g) (nI (k + 1)) ∧ VN S2 a (stq N wi wo co (spF P code e mk wi) E a s (4 * g + k)) ∧ CAN S2 N G wi (spF P code e mk wi) a (4 * g + k + 1) ∧ frV a S S2 := fun hh => by
      refine ⟨us (us (us S 22 (32 * a + (4 * g + k)) (nI 1)) 17 a (nI (wo g + (E (a + wi g)).1) - nI (k * co))) 18 a (nI (1 + (E (a + wi g)).2.1)), ?_, ?_, ?_, ?_⟩
      · unfold fX11_clip_211
        rw [if_pos hva, ix_nI (by omega)]
        show (if vin (nI a) 301 = true then bindS (us (us (us S 22 (32 * a + (4 * g + k)) (nI 1)) 17 a (nI (wo g + (E (a + wi g)).1) - nI (k * co))) 18 a (nI (1 + (E (a + wi g)).2.1))) (fun S226 => k71 S226 (nI a) (nI g) (nI k + 1)) else none) = _
        rw [if_pos hva, nI_1]
        rfl
      · have hbt : btq wi wo co E a s (4 * g + k) := by
          unfold btq
          rw [hct]
          rcases hh with h | h
          · exact Or.inl h
          · exact Or.inr ⟨h.1, Or.inl h.2⟩
        unfold stq
        rw [if_pos ⟨c, hbt⟩]
        refine ⟨?_, ?_⟩
        · show (us (us (us S 22 _ _) 17 a (nI (wo g + (E (a + wi g)).1) - nI (k * co))) 18 a _).1 17 a = nI (vlq wi wo co E a (4 * g + k)).toNat
          simp only [us_rd]
          simp
          rw [i_eq, hVl, i_lit]
          · omega
          · have := hVl
            rw [x4_to (by omega) (by omega)] at this
            omega
        · show (us (us (us S 22 _ _) 17 a _) 18 a (nI (1 + (E (a + wi g)).2.1))).1 18 a = nI (ctq wi E a (4 * g + k))
          simp only [us_rd]
          simp
          rw [hct]
      · have := hcl (nI 1) (by rw [bI_T c]; rfl)
        exact this
      · refine ⟨fun c _ _ h3 h4 h5 => by rw [us_row, if_neg h4, us_row, if_neg h3, us_row, if_neg h5], fun i hi => ⟨?_, ?_⟩, rfl⟩
        · simp [us_rd, hi]
        · simp [us_rd, hi]
    by_cases d1 : nI (wo g + (E (a + wi g)).1) - nI (k * co) < nI s.1
    · rw [if_pos d1]
      rw [i_lt, hVl, i_lit (by omega)] at d1
      exact keep (by omega)
    · rw [if_neg d1]
      rw [i_lt, hVl, i_lit (by omega)] at d1
      by_cases d2 : nI (wo g + (E (a + wi g)).1) - nI (k * co) = nI s.1
      · rw [if_pos d2]
        rw [i_eq, hVl, i_lit (by omega)] at d2
        by_cases d3 : 1 + (E (a + wi g)).2.1 < s.2.1
        · rw [if_pos (nI_lt d3 (by omega))]
          exact put (Or.inr ⟨d2.symm, d3⟩)
        · rw [if_neg (nI_nlt (by omega) (by omega))]
          exact keep (by omega)
      · rw [if_neg d2]
        rw [i_eq, hVl, i_lit (by omega)] at d2
        exact put (Or.inl (by omega))
  · rw [bI_F c]
    refine ⟨us S 22 (32 * a + (4 * g + k)) 0, ?_, ?_, hcl 0 (bI_F c).symm, fun c _ _ _ _ h5 => by rw [us_row, if_neg h5], fun i _ => ⟨rfl, rfl⟩, rfl⟩
    · rw [bindS_eq, if_pos rfl, a1_0, nI_1]
    · show VN S a (stq N wi wo co (spF P code e mk wi) E a (flq N wi wo co (spF P code e mk wi) E a (4 * g + k)) (4 * g + k))
      rw [stq_no N wi wo co (spF P code e mk wi) (fun h => c h.1)]
      exact hV
end CLIPM
