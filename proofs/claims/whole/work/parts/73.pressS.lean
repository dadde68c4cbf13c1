section PRESSS
variable (th mi : Nat → Nat) (o ba pe li : Nat)
def mnB (s : Nat) : Nat → Nat
  | 0 => 1000000000
  | k + 1 => if s.testBit k then min (mnB s k) (mi k) else mnB s k
def mxB (s : Nat) : Nat → Nat
  | 0 => 0
  | k + 1 => if s.testBit k then max (mxB s k) (mi k) else mxB s k
def tkB (s : Nat) : Nat → Nat
  | 0 => 0
  | k + 1 => if s.testBit k then th k else tkB s k
def akB (s : Nat) : Nat → Bool
  | 0 => true
  | k + 1 => if s.testBit k then (akB s k && (decide (tkB th s k = 0) || decide (tkB th s k = th k))) else akB s k
def vld (s : Nat) : Prop := akB th s 10 = true ∧ cntN 10 s ≤ o ∧ mxB mi s 10 ≤ mnB mi s 10 + li
noncomputable def obT (T : Nat → Nat) (s p : Nat) : Nat := @ite _ (T (s - p) ≠ 1000000000 ∧ vld th mi o li p ∧ T (s - p) ≤ mnB mi p 10 + li) (Classical.propDecidable _) (max (T (s - p)) (mxB mi p 10) + ba + pe * tkB th p 10) 1000000000
noncomputable def moT (T : Nat → Nat) (s : Nat) : Nat → Nat
  | 0 => 1000000000
  | p + 1 => @ite _ (sub (p + 1) s) (Classical.propDecidable _) (min (moT T s p) (obT th mi o ba pe li T s (p + 1))) (moT T s p)
noncomputable def coT (T : Nat → Nat) (s p : Nat) : Nat := if obT th mi o ba pe li T s p = 1000000000 then 1000000000 else obT th mi o ba pe li T s p * 1024 + p
noncomputable def mcT (T : Nat → Nat) (s : Nat) : Nat → Nat
  | 0 => 1000000000
  | p + 1 => @ite _ (sub (p + 1) s) (Classical.propDecidable _) (min (mcT T s p) (coT th mi o ba pe li T s (p + 1))) (mcT T s p)
noncomputable def tabT : Nat → Nat → Nat
  | 0 => fun _ => 0
  | k + 1 => fun s => if s = k then (if k = 0 then 0 else moT th mi o ba pe li (tabT k) k k) else tabT k s
noncomputable def outT (s : Nat) : Nat := tabT th mi o ba pe li (s + 1) s
def PH : Prop := (∀ i, 1 ≤ th i ∧ th i ≤ 500 ∧ mi i ≤ 10000) ∧ ba ≤ 100 ∧ pe ≤ 10 ∧ li ≤ 1000 ∧ o ≤ 10
theorem obT_congr {T U : Nat → Nat} {s p : Nat} (h : T (s - p) = U (s - p)) : obT th mi o ba pe li T s p = obT th mi o ba pe li U s p := by
  unfold obT
  rw [h]
theorem moT_congr {T U : Nat → Nat} {s : Nat} (h : ∀ r, r < s → T r = U r) : ∀ p, p ≤ s → moT th mi o ba pe li T s p = moT th mi o ba pe li U s p
  | 0, _ => rfl
  | p + 1, hp => by rw [moT, moT, moT_congr h p (by omega), obT_congr th mi o ba pe li (h (s - (p + 1)) (by omega))]
theorem tabT_st (s : Nat) : ∀ d, tabT th mi o ba pe li (s + 1 + d) s = outT th mi o ba pe li s
  | 0 => rfl
  | d + 1 => by
    show (if s = s + 1 + d then _ else tabT th mi o ba pe li (s + 1 + d) s) = _
    rw [if_neg (by omega)]
    exact tabT_st s d
theorem outT_0 : outT th mi o ba pe li 0 = 0 := rfl
theorem outT_eq {s : Nat} (h : 0 < s) : outT th mi o ba pe li s = moT th mi o ba pe li (outT th mi o ba pe li) s s := by
  have h1 : outT th mi o ba pe li s = moT th mi o ba pe li (tabT th mi o ba pe li s) s s := by
    show (if s = s then (if s = 0 then 0 else _) else _) = _
    rw [if_pos rfl, if_neg (by omega)]
  rw [h1]
  apply moT_congr _ _ _ _ _ _ _ s (Nat.le_refl _)
  intro r hr
  have := tabT_st th mi o ba pe li r (s - (r + 1))
  rw [show r + 1 + (s - (r + 1)) = s by omega] at this
  exact this
theorem gap_mo {T : Nat → Nat} {s q : Nat} : ∀ {p : Nat}, q ≤ p → (∀ r, q < r → r ≤ p → ¬ sub r s) → moT th mi o ba pe li T s p = moT th mi o ba pe li T s q
  | 0, h, g => by rw [show q = 0 by omega]
  | p + 1, h, g => by
    by_cases e : q = p + 1
    · rw [e]
    · rw [moT, if_neg (g (p + 1) (by omega) (by omega)), gap_mo (by omega) (fun r h1 h2 => g r h1 (by omega))]
theorem gap_mc {T : Nat → Nat} {s q : Nat} : ∀ {p : Nat}, q ≤ p → (∀ r, q < r → r ≤ p → ¬ sub r s) → mcT th mi o ba pe li T s p = mcT th mi o ba pe li T s q
  | 0, h, g => by rw [show q = 0 by omega]
  | p + 1, h, g => by
    by_cases e : q = p + 1
    · rw [e]
    · rw [mcT, if_neg (g (p + 1) (by omega) (by omega)), gap_mc (by omega) (fun r h1 h2 => g r h1 (by omega))]
theorem mo_dn {T : Nat → Nat} {s p : Nat} (hs : s < 1024) (hp : sub p s) (h0 : 0 < p) : moT th mi o ba pe li T s p = min (moT th mi o ba pe li T s ((p - 1) &&& s)) (obT th mi o ba pe li T s p) := by
  obtain ⟨q, rfl⟩ : ∃ q, p = q + 1 := ⟨p - 1, by omega⟩
  rw [moT, if_pos hp]
  have h1 := dn_lt (p := q + 1) (s := s) h0
  have h2 : ∀ r, ((q + 1 - 1) &&& s) < r → r ≤ q → ¬ sub r s := fun r a b c => by
    have := gapD 10 (p := q + 1) (s := s) (r := r) (by omega) hp h0 c (by omega)
    omega
  rw [gap_mo th mi o ba pe li (T := T) (s := s) (q := (q + 1 - 1) &&& s) (p := q) (by omega) h2]
theorem mc_up {T : Nat → Nat} {s p q : Nat} (hs : s < 1024) (hp : sub q s) (h0 : 0 < q) (e : p = (q - 1) &&& s) : mcT th mi o ba pe li T s q = min (mcT th mi o ba pe li T s p) (coT th mi o ba pe li T s q) := by
  subst e
  obtain ⟨k, rfl⟩ : ∃ k, q = k + 1 := ⟨q - 1, by omega⟩
  rw [mcT, if_pos hp]
  have h1 := dn_lt (p := k + 1) (s := s) h0
  have h2 : ∀ r, ((k + 1 - 1) &&& s) < r → r ≤ k → ¬ sub r s := fun r a b c => by
    have := gapD 10 (p := k + 1) (s := s) (r := r) (by omega) hp h0 c (by omega)
    omega
  rw [gap_mc th mi o ba pe li (T := T) (s := s) (q := (k + 1 - 1) &&& s) (p := k) (by omega) h2]
theorem mn_bd (hP : PH th mi o ba pe li) {p : Nat} : ∀ k, (∃ i, i < k ∧ p.testBit i = true) → mnB mi p k ≤ 10000
  | 0, ⟨i, h, _⟩ => by omega
  | k + 1, ⟨i, h, g⟩ => by
    rw [mnB]
    by_cases e : p.testBit k = true
    · rw [if_pos e]
      have := (hP.1 k).2.2
      omega
    · rw [if_neg e]
      apply mn_bd hP k
      refine ⟨i, ?_, g⟩
      by_cases e2 : i = k
      · subst e2; exact absurd g e
      · omega
theorem mx_bd (hP : PH th mi o ba pe li) {p : Nat} : ∀ k, mxB mi p k ≤ 10000
  | 0 => Nat.zero_le _
  | k + 1 => by
    have := mx_bd hP (p := p) k
    have := (hP.1 k).2.2
    rw [mxB]
    split <;> omega
theorem tk_bd (hP : PH th mi o ba pe li) {p : Nat} : ∀ k, tkB th p k ≤ 500
  | 0 => Nat.zero_le _
  | k + 1 => by
    have := tk_bd hP (p := p) k
    have := (hP.1 k).2.1
    rw [tkB]
    split <;> omega
theorem bit_ex {p : Nat} (h : p < 1024) (h0 : 0 < p) : ∃ i, i < 10 ∧ p.testBit i = true := by
  apply Classical.byContradiction
  intro hn
  have : p = 0 := by
    apply Nat.eq_of_testBit_eq
    intro i
    rw [Nat.zero_testBit]
    by_cases hi : i < 10
    · cases e : p.testBit i with
      | false => rfl
      | true => exact absurd ⟨i, hi, e⟩ hn
    · apply Nat.testBit_lt_two_pow
      have : 2 ^ 10 ≤ 2 ^ i := Nat.pow_le_pow_right (by omega) (by omega)
      omega
  omega
theorem ob_bd (hP : PH th mi o ba pe li) {T : Nat → Nat} {s p : Nat} (h : p < 1024) (h0 : 0 < p) : obT th mi o ba pe li T s p = 1000000000 ∨ obT th mi o ba pe li T s p ≤ 16100 := by
  unfold obT
  have a := mn_bd th mi o ba pe li hP 10 (bit_ex h h0)
  have b := mx_bd th mi o ba pe li hP (p := p) 10
  have c := tk_bd th mi o ba pe li hP (p := p) 10
  obtain ⟨_, h1, h2, h3, _⟩ := hP
  have d : pe * tkB th p 10 ≤ 10 * 500 := Nat.mul_le_mul h2 c
  split
  · rename_i g
    right
    have := g.2.2
    omega
  · exact Or.inl rfl
theorem mo_bd (hP : PH th mi o ba pe li) {T : Nat → Nat} {s : Nat} : ∀ p, p < 1024 → moT th mi o ba pe li T s p = 1000000000 ∨ moT th mi o ba pe li T s p ≤ 16100
  | 0, _ => Or.inl rfl
  | p + 1, h => by
    have a := mo_bd hP (T := T) (s := s) p (by omega)
    have b := ob_bd th mi o ba pe li hP (T := T) (s := s) (p := p + 1) h (by omega)
    rw [moT]
    split <;> omega
theorem mc_mo (hP : PH th mi o ba pe li) {T : Nat → Nat} {s : Nat} : ∀ p, p < 1024 → (mcT th mi o ba pe li T s p = 1000000000 ∧ moT th mi o ba pe li T s p = 1000000000) ∨ (mcT th mi o ba pe li T s p ≤ 16487423 ∧ moT th mi o ba pe li T s p = mcT th mi o ba pe li T s p / 1024)
  | 0, _ => Or.inl ⟨rfl, rfl⟩
  | p + 1, h => by
    have a := mc_mo hP (T := T) (s := s) p (by omega)
    have b := ob_bd th mi o ba pe li hP (T := T) (s := s) (p := p + 1) h (by omega)
    rw [mcT, moT]
    by_cases e : sub (p + 1) s
    · rw [if_pos e, if_pos e, coT]
      by_cases g : obT th mi o ba pe li T s (p + 1) = 1000000000
      · rw [if_pos g, g]
        omega
      · rw [if_neg g]
        omega
    · rw [if_neg e, if_neg e]
      exact a
theorem mc_min {T : Nat → Nat} {s r : Nat} : ∀ p, r ≤ p → 0 < r → sub r s → mcT th mi o ba pe li T s p ≤ coT th mi o ba pe li T s r
  | 0, h, h0, _ => by omega
  | p + 1, h, h0, g => by
    rw [mcT]
    by_cases e : r = p + 1
    · subst e
      rw [if_pos g]
      omega
    · have := mc_min (T := T) (s := s) (r := r) p (by omega) h0 g
      split <;> omega
theorem mc_wit {T : Nat → Nat} {s : Nat} : ∀ p, mcT th mi o ba pe li T s p ≠ 1000000000 → ∃ r, 0 < r ∧ r ≤ p ∧ sub r s ∧ mcT th mi o ba pe li T s p = coT th mi o ba pe li T s r
  | 0, h => absurd rfl h
  | p + 1, h => by
    rw [mcT] at h ⊢
    by_cases e : sub (p + 1) s
    · rw [if_pos e] at h ⊢
      by_cases c : coT th mi o ba pe li T s (p + 1) ≤ mcT th mi o ba pe li T s p
      · exact ⟨p + 1, by omega, by omega, e, by omega⟩
      · obtain ⟨r, h1, h2, h3, h4⟩ := mc_wit p (fun hh => by
          rw [Nat.min_eq_left (by omega), hh] at h
          exact h rfl)
        exact ⟨r, h1, by omega, h3, by omega⟩
    · rw [if_neg e] at h ⊢
      obtain ⟨r, h1, h2, h3, h4⟩ := mc_wit p h
      exact ⟨r, h1, by omega, h3, h4⟩
noncomputable def lstT (s : Nat) : Nat := mcT th mi o ba pe li (outT th mi o ba pe li) s s % 1024
theorem lst_ok (hP : PH th mi o ba pe li) {s : Nat} (hs : s < 1024) (h0 : 0 < s) (h : outT th mi o ba pe li s ≠ 1000000000) : 0 < lstT th mi o ba pe li s ∧ sub (lstT th mi o ba pe li s) s ∧ obT th mi o ba pe li (outT th mi o ba pe li) s (lstT th mi o ba pe li s) = outT th mi o ba pe li s ∧ (∀ r, 0 < r → r < lstT th mi o ba pe li s → sub r s → obT th mi o ba pe li (outT th mi o ba pe li) s r ≠ outT th mi o ba pe li s) ∧ mcT th mi o ba pe li (outT th mi o ba pe li) s s = outT th mi o ba pe li s * 1024 + lstT th mi o ba pe li s := by
  have a := mc_mo th mi o ba pe li hP (T := outT th mi o ba pe li) (s := s) s hs
  rw [← outT_eq th mi o ba pe li h0] at a
  have hc : mcT th mi o ba pe li (outT th mi o ba pe li) s s ≠ 1000000000 := by omega
  obtain ⟨r, h1, h2, h3, h4⟩ := mc_wit th mi o ba pe li s hc
  have h5 := h4
  rw [coT] at h5
  have h6 : obT th mi o ba pe li (outT th mi o ba pe li) s r ≠ 1000000000 := fun e => by
    rw [if_pos e] at h5
    exact hc h5
  rw [if_neg h6] at h5
  have h7 : lstT th mi o ba pe li s = r := by
    unfold lstT
    omega
  rw [h7]
  have h8 : obT th mi o ba pe li (outT th mi o ba pe li) s r = outT th mi o ba pe li s := by omega
  refine ⟨h1, h3, h8, ?_, by rw [h5, h8]⟩
  intro q g1 g2 g3 g4
  have := mc_min th mi o ba pe li (T := outT th mi o ba pe li) (s := s) (r := q) s (sub_le g3) g1 g3
  rw [coT, if_neg (by rw [g4]; exact h)] at this
  omega
theorem lst_rest (hP : PH th mi o ba pe li) {s : Nat} (hs : s < 1024) (h0 : 0 < s) (h : outT th mi o ba pe li s ≠ 1000000000) : outT th mi o ba pe li (s - lstT th mi o ba pe li s) ≠ 1000000000 ∧ vld th mi o li (lstT th mi o ba pe li s) ∧ outT th mi o ba pe li (s - lstT th mi o ba pe li s) ≤ mnB mi (lstT th mi o ba pe li s) 10 + li := by
  obtain ⟨_, _, h3, _, _⟩ := lst_ok th mi o ba pe li hP hs h0 h
  unfold obT at h3
  split at h3
  · rename_i g
    exact ⟨g.1, g.2⟩
  · exact absurd h3.symm h
theorem out_bd (hP : PH th mi o ba pe li) {s : Nat} (hs : s < 1024) : outT th mi o ba pe li s = 1000000000 ∨ outT th mi o ba pe li s ≤ 16100 := by
  by_cases h : s = 0
  · subst h
    right
    rw [outT_0]
    omega
  · rw [outT_eq th mi o ba pe li (by omega)]
    exact mo_bd th mi o ba pe li hP s hs
noncomputable def chT : Nat → Nat
  | 0 => 0
  | k + 1 => @ite _ (outT th mi o ba pe li (k + 1) ≠ 1000000000 ∧ (cntN 10 (chT k) < cntN 10 (k + 1) ∨ (cntN 10 (k + 1) = cntN 10 (chT k) ∧ outT th mi o ba pe li (k + 1) < outT th mi o ba pe li (chT k)))) (Classical.propDecidable _) (k + 1) (chT k)
theorem chT_ok : ∀ k, chT th mi o ba pe li k ≤ k ∧ outT th mi o ba pe li (chT th mi o ba pe li k) ≠ 1000000000
  | 0 => ⟨Nat.le_refl _, by rw [chT, outT_0]; omega⟩
  | k + 1 => by
    have := chT_ok k
    rw [chT]
    split
    · rename_i g
      exact ⟨Nat.le_refl _, g.1⟩
    · exact ⟨by omega, this.2⟩
noncomputable def chnT (c : Nat) : Nat → Nat
  | 0 => c
  | k + 1 => if chnT c k = 0 then 0 else chnT c k - lstT th mi o ba pe li (chnT c k)
theorem chn_ok (hP : PH th mi o ba pe li) {c : Nat} (hc : c < 1024) (h : outT th mi o ba pe li c ≠ 1000000000) : ∀ k, chnT th mi o ba pe li c k < 1024 ∧ outT th mi o ba pe li (chnT th mi o ba pe li c k) ≠ 1000000000 ∧ (chnT th mi o ba pe li c k = 0 ∨ cntN 10 (chnT th mi o ba pe li c k) + k ≤ 10)
  | 0 => ⟨hc, h, Or.inr (cnt_le 10 c)⟩
  | k + 1 => by
    obtain ⟨h1, h2, h3⟩ := chn_ok hP hc h k
    rw [chnT]
    by_cases e : chnT th mi o ba pe li c k = 0
    · rw [if_pos e]
      exact ⟨by omega, by rw [outT_0]; omega, Or.inl rfl⟩
    · rw [if_neg e]
      obtain ⟨g1, g2, g3, _⟩ := lst_ok th mi o ba pe li hP h1 (by omega) h2
      have g4 := lst_rest th mi o ba pe li hP h1 (by omega) h2
      have g5 := cnt_sub 10 g2
      have g7 := sub_le g2
      have g6 := cnt_pos 10 (p := lstT th mi o ba pe li (chnT th mi o ba pe li c k)) (by omega) g1
      refine ⟨by omega, g4.1, Or.inr (by omega)⟩
theorem chn_end (hP : PH th mi o ba pe li) {c : Nat} (hc : c < 1024) (h : outT th mi o ba pe li c ≠ 1000000000) : ∃ N, N ≤ 10 ∧ chnT th mi o ba pe li c N = 0 ∧ ∀ k, k < N → 0 < chnT th mi o ba pe li c k := by
  have h10 : chnT th mi o ba pe li c 10 = 0 := by
    obtain ⟨h1, h2, h3⟩ := chn_ok th mi o ba pe li hP hc h 10
    apply Classical.byContradiction
    intro hn
    have := cnt_pos 10 (p := chnT th mi o ba pe li c 10) (by omega) (by omega)
    omega
  have key : ∀ d, d ≤ 10 → chnT th mi o ba pe li c d = 0 → ∃ N, N ≤ 10 ∧ chnT th mi o ba pe li c N = 0 ∧ ∀ k, k < N → 0 < chnT th mi o ba pe li c k := fun d => by
    induction d with
    | zero => intro _ h; exact ⟨0, by omega, h, fun k hk => by omega⟩
    | succ d ih =>
      intro h1 h2
      by_cases e : chnT th mi o ba pe li c d = 0
      · exact ih (by omega) e
      · refine ⟨d + 1, h1, h2, fun k hk => ?_⟩
        apply Classical.byContradiction
        intro hn
        have hz : ∀ j, chnT th mi o ba pe li c (k + j) = 0 := fun j => by
          induction j with
          | zero => show chnT th mi o ba pe li c k = 0; omega
          | succ j ih2 =>
            show (if chnT th mi o ba pe li c (k + j) = 0 then 0 else _) = 0
            rw [if_pos ih2]
        have := hz (d - k)
        rw [show k + (d - k) = d by omega] at this
        exact e this
  exact key 10 (by omega) h10
end PRESSS
