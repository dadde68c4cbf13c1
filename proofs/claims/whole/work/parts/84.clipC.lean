def spF (P : Nat) (code : Nat → Int32) (e mk wi : Nat → Nat) (a g k : Nat) : Prop := shP P code e mk a (wi g) g k
def CI (S : ST) (G N : Nat) (e wi wo mk : Nat → Nat) (code : Nat → Int32) (P co : Nat) : Prop := GC S G e wi wo ∧ LC S N mk ∧ S.1 24 = code ∧ S.1 9 8 = nI P ∧ S.1 9 9 = nI co ∧ P ≤ 3 ∧ co ≤ 100
def frF (S S2 : ST) : Prop := (∀ c, c ≠ 6 → c ≠ 8 → c ≠ 9 → c ≠ 25 → c ≠ 31 → (c < 32 ∨ 36 < c) → S2.1 c = S.1 c) ∧ (∀ j, j ≠ 7 → S2.1 6 j = S.1 6 j) ∧ (∀ j, j ≠ 10 → j ≠ 11 → S2.1 9 j = S.1 9 j) ∧ S2.2 = S.2
theorem frF_refl (S : ST) : frF S S := ⟨fun _ _ _ _ _ _ _ => rfl, fun _ _ => rfl, fun _ _ _ => rfl, rfl⟩
theorem frF.tr {S S2 S3 : ST} (h : frF S S2) (g : frF S2 S3) : frF S S3 := ⟨fun c a1 a2 a3 a4 a5 a6 => (g.1 c a1 a2 a3 a4 a5 a6).trans (h.1 c a1 a2 a3 a4 a5 a6), fun j a => (g.2.1 j a).trans (h.2.1 j a), fun j a b => (g.2.2.1 j a b).trans (h.2.2.1 j a b), g.2.2.2.trans h.2.2.2⟩
theorem CI.fr {S S2 : ST} {G N : Nat} {e wi wo mk : Nat → Nat} {code : Nat → Int32} {P co : Nat} (h : CI S G N e wi wo mk code P co) (f : frF S S2) : CI S2 G N e wi wo mk code P co := by
  obtain ⟨h1, h2, h3, h4, h5, h6, h7⟩ := h
  have g : ∀ c, c ≠ 6 → c ≠ 8 → c ≠ 9 → c ≠ 25 → c ≠ 31 → (c < 32 ∨ 36 < c) → S2.1 c = S.1 c := f.1
  have k : ∀ c, c ≠ 6 → c ≠ 8 → c ≠ 9 → c ≠ 25 → c < 31 → S2.1 c = S.1 c := fun c a1 a2 a3 a4 a5 => g c a1 a2 a3 a4 (by omega) (by omega)
  exact ⟨h1.fr (f.2.1 5 (by decide)) (k 21 (by decide) (by decide) (by decide) (by decide) (by decide)) (k 22 (by decide) (by decide) (by decide) (by decide) (by decide)) (k 23 (by decide) (by decide) (by decide) (by decide) (by decide)) (k 24 (by decide) (by decide) (by decide) (by decide) (by decide)), h2.fr (k 7 (by decide) (by decide) (by decide) (by decide) (by decide)) (k 26 (by decide) (by decide) (by decide) (by decide) (by decide)) (k 27 (by decide) (by decide) (by decide) (by decide) (by decide)) (k 28 (by decide) (by decide) (by decide) (by decide) (by decide)) (k 29 (by decide) (by decide) (by decide) (by decide) (by decide)) (k 30 (by decide) (by decide) (by decide) (by decide) (by decide)), by rw [k 24 (by decide) (by decide) (by decide) (by decide) (by decide)]; exact h3, by rw [f.2.2.1 8 (by decide) (by decide)]; exact h4, by rw [f.2.2.1 9 (by decide) (by decide)]; exact h5, h6, h7⟩
def EN (S : ST) (a : Nat) (s : Nat × Nat × Option Nat) : Prop := S.1 32 a = nI s.1 ∧ S.1 33 a = nI s.2.1 ∧ (s.2.2 = none → S.1 34 a = -1) ∧ ∀ q, s.2.2 = some q → q < 100 ∧ S.1 34 a = nI (q / 4) ∧ S.1 35 a = nI (q % 4)
theorem EN.m1 {S : ST} {a : Nat} {s : Nat × Nat × Option Nat} (h : EN S a s) : S.1 34 a = -1 ↔ s.2.2 = none := by
  constructor
  · intro h1
    cases e : s.2.2 with
    | none => rfl
    | some q =>
      obtain ⟨g1, g2, _⟩ := h.2.2.2 q e
      rw [g2] at h1
      exact absurd h1 (m1_ne (by omega))
  · exact h.2.2.1
theorem ib_eq (F : Nat) (S : ST) {a v c d : Nat} {V : Int} {x4 : Int32} {ch : Option Nat} (ha : a < 301) (h1 : S.1 32 a = nI v) (h2 : S.1 33 a = nI c) (h3 : S.1 34 a = -1 ↔ ch = none) (h4 : x4.toInt = V) (hv : v < 2147483648) (hc : c < 2147483648) (hd : d < 2147483648) : fX0_isBetter F S (nI a) x4 (nI d) = some (bI ((v : Int) < V ∨ ((v : Int) = V ∧ (d < c ∨ (d = c ∧ ch = none)))), S) := by
  have hva : vin (nI a) 301 = true := vin_nI ha (by omega)
  unfold fX0_isBetter
  rw [if_neg (nI_pos (by omega)), if_pos (show nI a < 301 from nI_lt (b := 301) ha (by omega)), if_pos hva, if_pos hva, if_pos hva, if_pos hva, if_pos hva, ix_nI (by omega), h1, h2]
  by_cases c1 : (v : Int) = V
  · rw [if_pos (show x4 = nI v by rw [i_eq, h4, i_lit hv, c1])]
    by_cases c2 : d = c
    · rw [if_pos (by rw [c2])]
      by_cases c3 : ch = none
      · rw [if_pos (h3.mpr c3), bI_T (Or.inr ⟨c1, Or.inr ⟨c2, c3⟩⟩)]
      · rw [if_neg (fun h => c3 (h3.mp h)), bI_F (by
          rintro (h | ⟨_, h | h⟩)
          · omega
          · omega
          · exact c3 h.2)]
    · rw [if_neg (by rw [nI_eq (by omega) (by omega)]; exact c2)]
      by_cases c4 : c ≤ d
      · rw [if_pos (nI_le c4 (by omega)), bI_F (by
          rintro (h | ⟨_, h | h⟩)
          · omega
          · omega
          · exact c2 h.1)]
      · rw [if_neg (nI_ge (by omega) (by omega)), bI_T (Or.inr ⟨c1, Or.inl (by omega)⟩)]
  · rw [if_neg (fun h => c1 (by rw [← h4, h, i_lit hv]))]
    by_cases c4 : V ≤ (v : Int)
    · rw [if_pos (show x4 ≤ nI v by rw [i_le, h4, i_lit hv]; exact c4), bI_F (by
        rintro (h | ⟨h, _⟩)
        · omega
        · exact c1 h)]
    · rw [if_neg (show ¬ x4 ≤ nI v by rw [i_le, h4, i_lit hv]; exact c4), bI_T (Or.inl (by omega))]
def frT (a : Nat) (S S2 : ST) : Prop := (∀ c, c ≠ 6 → c ≠ 8 → c ≠ 25 → ∀ i, (c < 32 ∨ 35 < c ∨ i ≠ a) → S2.1 c i = S.1 c i) ∧ (∀ j, j ≠ 7 → S2.1 6 j = S.1 6 j) ∧ S2.2 = S.2
theorem frT_refl (a : Nat) (S : ST) : frT a S S := ⟨fun _ _ _ _ _ _ => rfl, fun _ _ => rfl, rfl⟩
theorem frT.tr {a : Nat} {S S2 S3 : ST} (h : frT a S S2) (g : frT a S2 S3) : frT a S S3 := ⟨fun c a1 a2 a3 i a4 => (g.1 c a1 a2 a3 i a4).trans (h.1 c a1 a2 a3 i a4), fun j a => (g.2.1 j a).trans (h.2.1 j a), g.2.2.trans h.2.2⟩
theorem frT.F {a : Nat} {S S2 : ST} (h : frT a S S2) : frF S S2 := ⟨fun c a1 a2 _ a3 _ a4 => funext (fun i => h.1 c a1 a2 a3 i (by omega)), h.2.1, fun j _ _ => h.1 9 (by decide) (by decide) (by decide) j (Or.inl (by decide)), h.2.2⟩
section CLIPC
variable {G N : Nat} {e wi wo mk : Nat → Nat} {code : Nat → Int32} {P co : Nat}
theorem sub_step (A k c : Nat) : nI A - nI (k * c) - nI c = nI A - nI ((k + 1) * c) := by
  rw [Nat.add_mul, Nat.one_mul, ← nI_add (k * c) c]
  generalize nI A = x
  generalize nI (k * c) = y
  generalize nI c = z
  grind
theorem x4_to {A k c : Nat} (hA : A < 1000000000) (hk : k * c < 1000000000) : (nI A - nI (k * c)).toInt = (A : Int) - ((k * c : Nat) : Int) := pk_sub_toInt (by omega) (by omega)
theorem try_lp (F : Nat) (hF : 400 ≤ F) (E : Nat → Nat × Nat × Option Nat) {a g : Nat} (hg : g < G) (haw : a + wi g ≤ N) (hE1 : (E (a + wi g)).1 ≤ 3000000) (hE2 : (E (a + wi g)).2.1 ≤ 300) : ∀ (d f k : Nat) (S : ST), k + d = 4 → d < f → CI S G N e wi wo mk code P co → PT S mk a (wi g) → EN S a (flq N wi wo co (spF P code e mk wi) E a (4 * g + k)) → (flq N wi wo co (spF P code e mk wi) E a (4 * g + k)).1 ≤ 3000000 → (flq N wi wo co (spF P code e mk wi) E a (4 * g + k)).2.1 ≤ 301 → ∃ S2, fX0_trySheets_79 F f S (nI a) (nI g) (nI (wo g + (E (a + wi g)).1) - nI (k * co)) (nI (1 + (E (a + wi g)).2.1)) (nI k) = some (0, S2) ∧ EN S2 a (flq N wi wo co (spF P code e mk wi) E a (4 * g + 4)) ∧ frT a S S2 ∧ (∀ j, j ≠ 8 → S2.1 8 j = S.1 8 j)
  | 0, f + 1, k, S, h1, h2, hI, hT, hEN, hb1, hb2 => by
    have ek : k = 4 := by omega
    subst ek
    refine ⟨S, ?_, hEN, frT_refl a S, fun _ _ => rfl⟩
    have hP := hI.2.2.2.2.2.1
    rw [fX0_trySheets_79, hI.2.2.2.1, if_pos (nI_lt (by omega) (by omega))]
  | d + 1, f + 1, k, S, h1, h2, hI, hT, hEN, hb1, hb2 => by
    obtain ⟨hG, hL, h24, h98, h99, hP, hco⟩ := id hI
    obtain ⟨⟨w1, w2, w3⟩, ⟨o1, o2, o3⟩, _, _⟩ := hG.2.2.2.2.2.1 g hg
    have hN := hL.1
    have hg8 := hG.1
    have hk3 : k ≤ 3 := by omega
    have hkc : k * co ≤ 3 * 100 := Nat.mul_le_mul hk3 hco
    have hq4 : ∀ p, 4 * g + k ≤ p → p < 4 * g + 4 → p / 4 = g ∧ p % 4 = p - 4 * g := fun p a1 a2 => ⟨by omega, by omega⟩
    have hq0 := hq4 (4 * g + k) (by omega) (by omega)
    have hqk : (4 * g + k) % 4 = k := by omega
    have hV : (nI (wo g + (E (a + wi g)).1) - nI (k * co)).toInt = vlq wi wo co E a (4 * g + k) := by
      rw [x4_to (by omega) (by omega)]
      unfold vlq
      rw [hq0.1, hqk]
      omega
    have hct : ctq wi E a (4 * g + k) = 1 + (E (a + wi g)).2.1 := by unfold ctq; rw [hq0.1]
    have hctp : ∀ p, 4 * g + k ≤ p → p < 4 * g + 4 → ctq wi E a p = 1 + (E (a + wi g)).2.1 := fun p a1 a2 => by unfold ctq; rw [(hq4 p a1 a2).1]
    have hvp : ∀ p, 4 * g + k ≤ p → p < 4 * g + 4 → vlq wi wo co E a p ≤ vlq wi wo co E a (4 * g + k) := fun p a1 a2 => by
      unfold vlq
      rw [(hq4 p a1 a2).1, hq0.1]
      have : (4 * g + k) % 4 * co ≤ p % 4 * co := Nat.mul_le_mul_right co (by omega)
      omega
    rw [fX0_trySheets_79, h98]
    by_cases c1 : P < k
    · rw [if_pos (nI_lt c1 (by omega))]
      refine ⟨S, rfl, ?_, frT_refl a S, fun _ _ => rfl⟩
      have := flq_skip N wi wo co (spF P code e mk wi) (E := E) (a := a) (q := 4 * g + k) (4 - k) (fun p a1 a2 hh => by
        have h5 := hh.1.2.1
        have := (hq4 p a1 (by omega)).2
        omega)
      rw [show 4 * g + k + (4 - k) = 4 * g + 4 by omega] at this
      rw [this]
      exact hEN
    · rw [if_neg (nI_nlt (by omega) (by omega)), ib_eq F S (by omega) hEN.1 hEN.2.1 hEN.m1 hV (by omega) (by omega) (by omega), Option.bind_some]
      have hbt : ((((flq N wi wo co (spF P code e mk wi) E a (4 * g + k)).1 : Int) < vlq wi wo co E a (4 * g + k)) ∨ (((flq N wi wo co (spF P code e mk wi) E a (4 * g + k)).1 : Int) = vlq wi wo co E a (4 * g + k) ∧ (1 + (E (a + wi g)).2.1 < (flq N wi wo co (spF P code e mk wi) E a (4 * g + k)).2.1 ∨ (1 + (E (a + wi g)).2.1 = (flq N wi wo co (spF P code e mk wi) E a (4 * g + k)).2.1 ∧ (flq N wi wo co (spF P code e mk wi) E a (4 * g + k)).2.2 = none)))) ↔ btq wi wo co E a (flq N wi wo co (spF P code e mk wi) E a (4 * g + k)) (4 * g + k) := by
        unfold btq
        rw [hct]
      by_cases c2 : btq wi wo co E a (flq N wi wo co (spF P code e mk wi) E a (4 * g + k)) (4 * g + k)
      · rw [bI_T (hbt.mpr c2)]
        show ∃ S2, (if (1 : Int32) = 0 then _ else _) = _ ∧ _
        rw [if_neg z10]
        obtain ⟨S1, q1, q2, q3, q4, q5⟩ := pis_eq F hF S hG hg (k := k) hT w2 h98 hP (by omega)
        rw [q1, Option.bind_some, h24]
        have fr1 : frT a S S1 := ⟨fun c a1 a2 a3 i _ => by rw [q2 c a1 a2 a3], q3, q5⟩
        have hT1 : PT S1 mk a (wi g) := by
          unfold PT at *
          rw [q4 3 (by decide), q4 4 (by decide), q4 5 (by decide), q4 6 (by decide), q4 7 (by decide)]
          exact hT
        have hEN1 : EN S1 a (flq N wi wo co (spF P code e mk wi) E a (4 * g + k)) := by
          unfold EN at *
          rw [q2 32 (by decide) (by decide) (by decide), q2 33 (by decide) (by decide) (by decide), q2 34 (by decide) (by decide) (by decide), q2 35 (by decide) (by decide) (by decide)]
          exact hEN
        by_cases c3 : shP P code e mk a (wi g) g k
        · have hcnd : cnd N wi (spF P code e mk wi) a (4 * g + k) := by
            unfold cnd
            rw [hq0.1, hqk]
            exact ⟨haw, c3⟩
          rw [bI_T c3]
          show ∃ S2, (if (1 : Int32) = 0 then _ else _) = _ ∧ _
          rw [if_neg z10]
          have hva : vin (nI a) 301 = true := vin_nI (by omega) (by omega)
          rw [if_pos hva, ix_nI (by omega)]
          have hs1 : flq N wi wo co (spF P code e mk wi) E a (4 * g + k + 1) = ((vlq wi wo co E a (4 * g + k)).toNat, 1 + (E (a + wi g)).2.1, some (4 * g + k)) := by
            show stq N wi wo co (spF P code e mk wi) E a (flq N wi wo co (spF P code e mk wi) E a (4 * g + k)) (4 * g + k) = _
            unfold stq
            rw [if_pos ⟨hcnd, c2⟩, hct]
          have hVn : 0 ≤ vlq wi wo co E a (4 * g + k) := by
            unfold btq at c2
            omega
          have hskip := flq_skip N wi wo co (spF P code e mk wi) (E := E) (a := a) (q := 4 * g + k + 1) (3 - k) (fun p a1 a2 hh => by
            have h5 := hh.2
            unfold btq at h5
            rw [hs1, hctp p (by omega) (by omega)] at h5
            have h6 := hvp p (by omega) (by omega)
            have h7 : (((vlq wi wo co E a (4 * g + k)).toNat : Nat) : Int) = vlq wi wo co E a (4 * g + k) := by omega
            rcases h5 with h5 | ⟨_, h5 | ⟨_, h5⟩⟩
            · have h5' : (((vlq wi wo co E a (4 * g + k)).toNat : Nat) : Int) < vlq wi wo co E a p := h5
              omega
            · have h5' : 1 + (E (a + wi g)).2.1 < 1 + (E (a + wi g)).2.1 := h5
              omega
            · cases h5)
          rw [show 4 * g + k + 1 + (3 - k) = 4 * g + 4 by omega, hs1] at hskip
          rw [hskip]
          refine ⟨us (us (us (us S1 32 a (nI (wo g + (E (a + wi g)).1) - nI (k * co))) 33 a (nI (1 + (E (a + wi g)).2.1))) 34 a (nI g)) 35 a (nI k), ?_, ?_, ?_, ?_⟩
          · show (if vin (nI a) 301 = true then (if vin (nI a) 301 = true then (if vin (nI a) 301 = true then some (0, us (us (us (us S1 32 a (nI (wo g + (E (a + wi g)).1) - nI (k * co))) 33 a (nI (1 + (E (a + wi g)).2.1))) 34 a (nI g)) 35 a (nI k)) else none) else none) else none) = _
            rw [if_pos hva, if_pos hva, if_pos hva]
          · refine ⟨?_, ?_, fun h => (by cases h), fun q hq => ?_⟩
            · show (us (us (us (us S1 32 a (nI (wo g + (E (a + wi g)).1) - nI (k * co))) 33 a _) 34 a _) 35 a _).1 32 a = nI (vlq wi wo co E a (4 * g + k)).toNat
              simp only [us_rd]
              simp
              rw [i_eq, hV, i_lit]
              · omega
              · have := hV
                rw [x4_to (by omega) (by omega)] at this
                omega
            · simp [us_rd]
            · have hq' : some (4 * g + k) = some q := hq
              cases hq'
              refine ⟨by omega, ?_, ?_⟩
              · simp [us_rd]
                rw [hq0.1]
              · simp [us_rd]
                rw [show k % 4 = k by omega]
          · refine fr1.tr ⟨fun c a1 a2 a3 i a4 => ?_, fun j _ => rfl, rfl⟩
            simp only [us_rd]
            by_cases e1 : i = a
            · rw [if_neg (by omega), if_neg (by omega), if_neg (by omega), if_neg (by omega)]
            · simp [e1]
          · intro j hj
            show S1.1 8 j = _
            exact q4 j hj
        · rw [bI_F c3]
          show ∃ S2, (if (0 : Int32) = 0 then fX0_trySheets_79 F f S1 (nI a) (nI g) (nI (wo g + (E (a + wi g)).1) - nI (k * co) - S1.1 9 9) (nI (1 + (E (a + wi g)).2.1)) (nI k + 1) else _) = _ ∧ _
          have hs1 : flq N wi wo co (spF P code e mk wi) E a (4 * g + k + 1) = flq N wi wo co (spF P code e mk wi) E a (4 * g + k) := by
            show stq N wi wo co (spF P code e mk wi) E a (flq N wi wo co (spF P code e mk wi) E a (4 * g + k)) (4 * g + k) = _
            apply stq_no
            rintro ⟨hh, _⟩
            unfold cnd at hh
            rw [hq0.1, hqk] at hh
            exact c3 hh.2
          obtain ⟨S2, r1, r2, r3, r4⟩ := try_lp F hF E hg haw hE1 hE2 d f (k + 1) S1 (by omega) (by omega) (hI.fr fr1.F) hT1 (by rw [← Nat.add_assoc, hs1]; exact hEN1) (by rw [← Nat.add_assoc, hs1]; exact hb1) (by rw [← Nat.add_assoc, hs1]; exact hb2)
          refine ⟨S2, ?_, r2, fr1.tr r3, fun j hj => by rw [r4 j hj, q4 j hj]⟩
          rw [if_pos rfl, q2 9 (by decide) (by decide) (by decide), h99, nI_1]
          rw [show nI (wo g + (E (a + wi g)).1) - nI (k * co) - nI co = nI (wo g + (E (a + wi g)).1) - nI ((k + 1) * co) from sub_step _ _ _]
          exact r1
      · rw [bI_F (fun h => c2 (hbt.mp h))]
        show ∃ S2, (if (0 : Int32) = 0 then _ else _) = _ ∧ _
        rw [if_pos rfl]
        refine ⟨S, rfl, ?_, frT_refl a S, fun _ _ => rfl⟩
        have := flq_skip N wi wo co (spF P code e mk wi) (E := E) (a := a) (q := 4 * g + k) (4 - k) (fun p a1 a2 hh => by
          have h5 := hh.2
          have h6 := hvp p a1 (by omega)
          apply c2
          unfold btq at h5 ⊢
          rw [hctp p a1 (by omega)] at h5
          rw [hct]
          rcases h5 with h5 | ⟨h5, h7⟩
          · exact Or.inl (by omega)
          · by_cases h8 : vlq wi wo co E a p = vlq wi wo co E a (4 * g + k)
            · exact Or.inr ⟨by omega, h7⟩
            · exact Or.inl (by omega))
        rw [show 4 * g + k + (4 - k) = 4 * g + 4 by omega] at this
        rw [this]
        exact hEN
end CLIPC
