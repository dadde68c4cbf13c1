section CLIPS
variable (G N : Nat) (wi wo : Nat → Nat) (co : Nat) (sp : Nat → Nat → Nat → Prop)
def cnd (a q : Nat) : Prop := a + wi (q / 4) ≤ N ∧ sp a (q / 4) (q % 4)
def vlq (E : Nat → Nat × Nat × Option Nat) (a q : Nat) : Int := (wo (q / 4) : Int) - ((q % 4 * co : Nat) : Int) + ((E (a + wi (q / 4))).1 : Int)
def ctq (E : Nat → Nat × Nat × Option Nat) (a q : Nat) : Nat := 1 + (E (a + wi (q / 4))).2.1
def btq (E : Nat → Nat × Nat × Option Nat) (a : Nat) (s : Nat × Nat × Option Nat) (q : Nat) : Prop := (s.1 : Int) < vlq wi wo co E a q ∨ ((s.1 : Int) = vlq wi wo co E a q ∧ (ctq wi E a q < s.2.1 ∨ (ctq wi E a q = s.2.1 ∧ s.2.2 = none)))
noncomputable def stq (E : Nat → Nat × Nat × Option Nat) (a : Nat) (s : Nat × Nat × Option Nat) (q : Nat) : Nat × Nat × Option Nat := @ite _ (cnd N wi sp a q ∧ btq wi wo co E a s q) (Classical.propDecidable _) ((vlq wi wo co E a q).toNat, ctq wi E a q, some q) s
noncomputable def flq (E : Nat → Nat × Nat × Option Nat) (a : Nat) : Nat → Nat × Nat × Option Nat
  | 0 => ((E (a + 1)).1, (E (a + 1)).2.1, none)
  | q + 1 => stq N wi wo co sp E a (flq E a q) q
noncomputable def tblE : Nat → Nat → Nat × Nat × Option Nat
  | 0 => fun _ => (0, 0, none)
  | d + 1 => fun a => if a + (d + 1) = N then flq N wi wo co sp (tblE d) a (4 * G) else tblE d a
noncomputable def clE (a : Nat) : Nat × Nat × Option Nat := tblE G N wi wo co sp (N - a) a
theorem clE_N {a : Nat} (h : N ≤ a) : clE G N wi wo co sp a = (0, 0, none) := by
  unfold clE
  rw [show N - a = 0 by omega]
  rfl
theorem tblE_st (b : Nat) : ∀ d, N - b ≤ d → tblE G N wi wo co sp d b = clE G N wi wo co sp b
  | 0, h => by
    unfold clE
    rw [show N - b = 0 by omega]
  | d + 1, h => by
    by_cases e : N - b = d + 1
    · unfold clE
      rw [e]
    · show (if b + (d + 1) = N then _ else tblE G N wi wo co sp d b) = _
      rw [if_neg (by omega)]
      exact tblE_st b d (by omega)
theorem flq_congr {E U : Nat → Nat × Nat × Option Nat} {a : Nat} (hw : ∀ g, g < G → 1 ≤ wi g) (h : ∀ b, a < b → E b = U b) : ∀ q, q ≤ 4 * G → flq N wi wo co sp E a q = flq N wi wo co sp U a q
  | 0, _ => by rw [flq, flq, h (a + 1) (by omega)]
  | q + 1, hq => by
    have hw1 := hw (q / 4) (by omega)
    rw [flq, flq, flq_congr hw h q (by omega)]
    unfold stq btq vlq ctq
    rw [h (a + wi (q / 4)) (by omega)]
theorem clE_eq (hw : ∀ g, g < G → 1 ≤ wi g) {a : Nat} (h : a < N) : clE G N wi wo co sp a = flq N wi wo co sp (clE G N wi wo co sp) a (4 * G) := by
  have h1 : clE G N wi wo co sp a = flq N wi wo co sp (tblE G N wi wo co sp (N - a - 1)) a (4 * G) := by
    unfold clE
    rw [show N - a = (N - a - 1) + 1 by omega]
    show (if a + (N - a - 1 + 1) = N then _ else _) = _
    rw [if_pos (by omega)]
    rfl
  rw [h1]
  exact flq_congr G N wi wo co sp hw (fun b hb => tblE_st G N wi wo co sp b _ (by omega)) _ (Nat.le_refl _)
theorem flq_bd {E : Nat → Nat × Nat × Option Nat} {a : Nat} (ha : a < N) (hw : ∀ g, g < G → 1 ≤ wi g) (ho : ∀ g, g < G → wo g ≤ 9999) (hE : ∀ b, a < b → b ≤ N → (E b).1 ≤ 9999 * (N - b) ∧ (E b).2.1 ≤ N - b) : ∀ q, q ≤ 4 * G → (flq N wi wo co sp E a q).1 ≤ 9999 * (N - a) ∧ (flq N wi wo co sp E a q).2.1 ≤ N - a
  | 0, _ => by
    have := hE (a + 1) (by omega) (by omega)
    rw [flq]
    exact ⟨by show (E (a + 1)).1 ≤ _; omega, by show (E (a + 1)).2.1 ≤ _; omega⟩
  | q + 1, hq => by
    have ih := flq_bd ha hw ho hE q (by omega)
    rw [flq]
    unfold stq
    split
    · rename_i hc
      have h1 := hw (q / 4) (by omega)
      have h2 := ho (q / 4) (by omega)
      have h3 := hE (a + wi (q / 4)) (by omega) hc.1.1
      have h4 := hc.1.1
      refine ⟨?_, ?_⟩
      · show (vlq wi wo co E a q).toNat ≤ _
        unfold vlq
        have h5 : (E (a + wi (q / 4))).1 + 9999 ≤ 9999 * (N - a) := by
          have : N - (a + wi (q / 4)) + 1 ≤ N - a := by omega
          omega
        omega
      · show 1 + _ ≤ _
        omega
    · exact ih
theorem clE_bd (hw : ∀ g, g < G → 1 ≤ wi g) (ho : ∀ g, g < G → wo g ≤ 9999) : ∀ (d a : Nat), N - a ≤ d → (clE G N wi wo co sp a).1 ≤ 9999 * (N - a) ∧ (clE G N wi wo co sp a).2.1 ≤ N - a
  | d, a, h => by
    by_cases e : N ≤ a
    · rw [clE_N G N wi wo co sp e]
      exact ⟨Nat.zero_le _, Nat.zero_le _⟩
    · cases d with
      | zero => omega
      | succ d =>
        rw [clE_eq G N wi wo co sp hw (by omega)]
        exact flq_bd G N wi wo co sp (by omega) hw ho (fun b h1 h2 => clE_bd hw ho d b (by omega)) _ (Nat.le_refl _)
def ivq (E : Nat → Nat × Nat × Option Nat) (a : Nat) (s : Nat × Nat × Option Nat) (q : Nat) : Prop := (∀ p, p < q → cnd N wi sp a p → vlq wi wo co E a p < (s.1 : Int) ∨ (vlq wi wo co E a p = (s.1 : Int) ∧ s.2.1 ≤ ctq wi E a p)) ∧ (∀ c, s.2.2 = some c → c < q ∧ cnd N wi sp a c ∧ vlq wi wo co E a c = (s.1 : Int) ∧ ctq wi E a c = s.2.1 ∧ ∀ p, p < c → cnd N wi sp a p → ¬ (vlq wi wo co E a p = (s.1 : Int) ∧ ctq wi E a p = s.2.1)) ∧ (s.2.2 = none → ∀ p, p < q → cnd N wi sp a p → ¬ (vlq wi wo co E a p = (s.1 : Int) ∧ ctq wi E a p = s.2.1))
theorem flq_iv (E : Nat → Nat × Nat × Option Nat) (a : Nat) : ∀ q, ivq N wi wo co sp E a (flq N wi wo co sp E a q) q
  | 0 => ⟨fun p h => (by omega), fun c h => (by cases h), fun _ p h => (by omega)⟩
  | q + 1 => by
    obtain ⟨i1, i2, i3⟩ := flq_iv E a q
    rw [flq]
    generalize flq N wi wo co sp E a q = s at *
    unfold stq
    split
    · rename_i hc
      obtain ⟨hc1, hc2⟩ := hc
      have hv : ((vlq wi wo co E a q).toNat : Int) = vlq wi wo co E a q := by
        rcases hc2 with h | h <;> omega
      refine ⟨?_, ?_, ?_⟩
      · intro p hp hcp
        show _ < ((vlq wi wo co E a q).toNat : Int) ∨ (_ = ((vlq wi wo co E a q).toNat : Int) ∧ ctq wi E a q ≤ _)
        rw [hv]
        by_cases e : p = q
        · subst e
          exact Or.inr ⟨rfl, Nat.le_refl _⟩
        · have := i1 p (by omega) hcp
          rcases hc2 with h | h <;> omega
      · intro c hcc
        have hcq : c = q := by
          have : some q = some c := hcc
          cases this
          rfl
        subst hcq
        refine ⟨by omega, hc1, hv.symm, rfl, ?_⟩
        intro p hp hcp
        show ¬ (_ = ((vlq wi wo co E a c).toNat : Int) ∧ _ = ctq wi E a c)
        rw [hv]
        have h1 := i1 p hp hcp
        rintro ⟨g1, g2⟩
        rcases hc2 with h | ⟨h, h2 | ⟨h2, h3⟩⟩
        · omega
        · omega
        · exact i3 h3 p hp hcp ⟨by omega, by omega⟩
      · intro h
        cases h
    · rename_i hc
      refine ⟨?_, ?_, ?_⟩
      · intro p hp hcp
        by_cases e : p = q
        · subst e
          have : ¬ btq wi wo co E a s p := fun h => hc ⟨hcp, h⟩
          unfold btq at this
          omega
        · exact i1 p (by omega) hcp
      · intro c hcc
        obtain ⟨j1, j2⟩ := i2 c hcc
        exact ⟨by omega, j2⟩
      · intro hn p hp hcp
        by_cases e : p = q
        · subst e
          have : ¬ btq wi wo co E a s p := fun h => hc ⟨hcp, h⟩
          rintro ⟨g1, g2⟩
          exact this (Or.inr ⟨g1.symm, Or.inr ⟨g2, hn⟩⟩)
        · exact i3 hn p (by omega) hcp
theorem stq_no {E : Nat → Nat × Nat × Option Nat} {a : Nat} {s : Nat × Nat × Option Nat} {q : Nat} (h : ¬ (cnd N wi sp a q ∧ btq wi wo co E a s q)) : stq N wi wo co sp E a s q = s := by
  unfold stq
  rw [if_neg h]
theorem flq_skip {E : Nat → Nat × Nat × Option Nat} {a q : Nat} : ∀ d, (∀ p, q ≤ p → p < q + d → ¬ (cnd N wi sp a p ∧ btq wi wo co E a (flq N wi wo co sp E a q) p)) → flq N wi wo co sp E a (q + d) = flq N wi wo co sp E a q
  | 0, _ => rfl
  | d + 1, h => by
    have ih := flq_skip d (fun p h1 h2 => h p h1 (by omega))
    show stq N wi wo co sp E a (flq N wi wo co sp E a (q + d)) (q + d) = _
    rw [ih]
    exact stq_no N wi wo co sp (h (q + d) (by omega) (by omega))
noncomputable def seqL : Nat → Nat → List Nat
  | 0, _ => []
  | d + 1, a => if N ≤ a then [] else match (clE G N wi wo co sp a).2.2 with
    | none => seqL d (a + 1)
    | some q => a :: seqL d (a + wi (q / 4))
theorem clE_ch (hw : ∀ g, g < G → 1 ≤ wi g) {a q : Nat} (h : a < N) (hq : (clE G N wi wo co sp a).2.2 = some q) : q < 4 * G ∧ cnd N wi sp a q ∧ vlq wi wo co (clE G N wi wo co sp) a q = ((clE G N wi wo co sp a).1 : Int) ∧ ctq wi (clE G N wi wo co sp) a q = (clE G N wi wo co sp a).2.1 ∧ ∀ p, p < q → cnd N wi sp a p → ¬ (vlq wi wo co (clE G N wi wo co sp) a p = ((clE G N wi wo co sp a).1 : Int) ∧ ctq wi (clE G N wi wo co sp) a p = (clE G N wi wo co sp a).2.1) := by
  have e := clE_eq G N wi wo co sp hw h
  obtain ⟨_, i2, _⟩ := flq_iv N wi wo co sp (clE G N wi wo co sp) a (4 * G)
  rw [← e] at i2
  exact i2 q hq
theorem clE_no (hw : ∀ g, g < G → 1 ≤ wi g) {a : Nat} (h : a < N) (hq : (clE G N wi wo co sp a).2.2 = none) : ∀ p, p < 4 * G → cnd N wi sp a p → ¬ (vlq wi wo co (clE G N wi wo co sp) a p = ((clE G N wi wo co sp a).1 : Int) ∧ ctq wi (clE G N wi wo co sp) a p = (clE G N wi wo co sp a).2.1) := by
  have e := clE_eq G N wi wo co sp hw h
  obtain ⟨_, _, i3⟩ := flq_iv N wi wo co sp (clE G N wi wo co sp) a (4 * G)
  rw [← e] at i3
  exact i3 hq
theorem seqL_st (hw : ∀ g, g < G → 1 ≤ wi g) : ∀ (d e a : Nat), N - a ≤ d → N - a ≤ e → seqL G N wi wo co sp d a = seqL G N wi wo co sp e a
  | 0, 0, a, _, _ => rfl
  | 0, e + 1, a, h1, h2 => by rw [seqL, seqL, if_pos (by omega)]
  | d + 1, 0, a, h1, h2 => by rw [seqL, seqL, if_pos (by omega)]
  | d + 1, e + 1, a, h1, h2 => by
    rw [seqL, seqL]
    by_cases c : N ≤ a
    · rw [if_pos c, if_pos c]
    · rw [if_neg c, if_neg c]
      cases hq : (clE G N wi wo co sp a).2.2 with
      | none => exact seqL_st hw d e (a + 1) (by omega) (by omega)
      | some q =>
        have h3 := (clE_ch G N wi wo co sp hw (by omega) hq).1
        have h4 := hw (q / 4) (by omega)
        show a :: seqL G N wi wo co sp d (a + wi (q / 4)) = a :: seqL G N wi wo co sp e (a + wi (q / 4))
        rw [seqL_st hw d e (a + wi (q / 4)) (by omega) (by omega)]
theorem seqL_ok (hw : ∀ g, g < G → 1 ≤ wi g) : ∀ (d a : Nat), ∀ x, x ∈ seqL G N wi wo co sp d a → a ≤ x ∧ x < N ∧ ∃ q, (clE G N wi wo co sp x).2.2 = some q
  | 0, a, x, h => by cases h
  | d + 1, a, x, h => by
    rw [seqL] at h
    by_cases c : N ≤ a
    · rw [if_pos c] at h; cases h
    · rw [if_neg c] at h
      cases hq : (clE G N wi wo co sp a).2.2 with
      | none =>
        rw [hq] at h
        have := seqL_ok hw d (a + 1) x h
        exact ⟨by omega, this.2⟩
      | some q =>
        rw [hq] at h
        have h' : x ∈ a :: seqL G N wi wo co sp d (a + wi (q / 4)) := h
        rcases List.mem_cons.mp h' with rfl | h2
        · exact ⟨Nat.le_refl _, by omega, q, hq⟩
        · have := seqL_ok hw d (a + wi (q / 4)) x h2
          exact ⟨by omega, this.2⟩
end CLIPS
