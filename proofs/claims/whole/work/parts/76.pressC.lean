section PRESSC
variable {n : Nat} {th mi : Nat → Nat} {o ba pe li : Nat}
def IC (S : ST) (n : Nat) (th mi : Nat → Nat) (o ba pe li : Nat) : Prop := S.1 11 8 = nI n ∧ S.1 11 9 = nI o ∧ S.1 11 10 = nI ba ∧ S.1 11 11 = nI pe ∧ S.1 11 12 = nI li ∧ ∀ i, i < n → S.1 41 i = nI (th i) ∧ S.1 42 i = nI (mi i)
def frPC (S S2 : ST) : Prop := (∀ a, a ≠ 11 → a ≠ 43 → a ≠ 44 → a ≠ 45 → a ≠ 46 → a ≠ 47 → a ≠ 48 → S2.1 a = S.1 a) ∧ (∀ s, s ≠ 13 → s ≠ 14 → s ≠ 15 → S2.1 11 s = S.1 11 s) ∧ S2.2 = S.2
theorem frPC_refl (S : ST) : frPC S S := ⟨fun _ _ _ _ _ _ _ _ => rfl, fun _ _ _ _ => rfl, rfl⟩
theorem frPC.tr {S S2 S3 : ST} (h : frPC S S2) (g : frPC S2 S3) : frPC S S3 := ⟨fun a h1 h2 h3 h4 h5 h6 h7 => (g.1 a h1 h2 h3 h4 h5 h6 h7).trans (h.1 a h1 h2 h3 h4 h5 h6 h7), fun s h1 h2 h3 => (g.2.1 s h1 h2 h3).trans (h.2.1 s h1 h2 h3), g.2.2.trans h.2.2⟩
theorem IC.fr {S S2 : ST} (h : IC S n th mi o ba pe li) (g : frPC S S2) : IC S2 n th mi o ba pe li := by
  unfold IC at *
  rw [g.2.1 8 (by decide) (by decide) (by decide), g.2.1 9 (by decide) (by decide) (by decide), g.2.1 10 (by decide) (by decide) (by decide), g.2.1 11 (by decide) (by decide) (by decide), g.2.1 12 (by decide) (by decide) (by decide), g.1 41 (by decide) (by decide) (by decide) (by decide) (by decide) (by decide) (by decide), g.1 42 (by decide) (by decide) (by decide) (by decide) (by decide) (by decide) (by decide)]
  exact h
theorem frPC_43 (S : ST) (j : Nat) (v : Int32) : frPC S (us S 43 j v) := ⟨fun a _ h _ _ _ _ _ => by simp [us_row, h], fun s _ _ _ => by simp [us_rd], rfl⟩
theorem frPC_44 (S : ST) (j : Nat) (v : Int32) : frPC S (us S 44 j v) := ⟨fun a _ _ h _ _ _ _ => by simp [us_row, h], fun s _ _ _ => by simp [us_rd], rfl⟩
theorem frPC_45 (S : ST) (j : Nat) (v : Int32) : frPC S (us S 45 j v) := ⟨fun a _ _ _ h _ _ _ => by simp [us_row, h], fun s _ _ _ => by simp [us_rd], rfl⟩
theorem frPC_46 (S : ST) (j : Nat) (v : Int32) : frPC S (us S 46 j v) := ⟨fun a _ _ _ _ h _ _ => by simp [us_row, h], fun s _ _ _ => by simp [us_rd], rfl⟩
theorem frPC_47 (S : ST) (j : Nat) (v : Int32) : frPC S (us S 47 j v) := ⟨fun a _ _ _ _ _ h _ => by simp [us_row, h], fun s _ _ _ => by simp [us_rd], rfl⟩
theorem frPC_48 (S : ST) (j : Nat) (v : Int32) : frPC S (us S 48 j v) := ⟨fun a _ _ _ _ _ _ h => by simp [us_row, h], fun s _ _ _ => by simp [us_rd], rfl⟩
theorem frPC_11 (S : ST) (j : Nat) (v : Int32) (hj : j = 13 ∨ j = 14 ∨ j = 15) : frPC S (us S 11 j v) := ⟨fun a h _ _ _ _ _ _ => by simp [us_row, h], fun s h1 h2 h3 => by rw [us_rd, if_pos rfl, if_neg (by omega)], rfl⟩
theorem tb_top {b r : Nat} (h : r < 2 ^ b) : (r + 2 ^ b).testBit b = true := by
  rw [Nat.add_comm, Nat.testBit_two_pow_add_eq, Nat.testBit_lt_two_pow h]
  rfl
theorem tb_low {b r j : Nat} (hj : j < b) : (r + 2 ^ b).testBit j = r.testBit j := by
  rw [Nat.add_comm, Nat.testBit_two_pow_add_gt hj]
theorem low_eq {b r : Nat} : ∀ k, k ≤ b → mnB mi (r + 2 ^ b) k = mnB mi r k ∧ mxB mi (r + 2 ^ b) k = mxB mi r k ∧ tkB th (r + 2 ^ b) k = tkB th r k ∧ akB th (r + 2 ^ b) k = akB th r k
  | 0, _ => ⟨rfl, rfl, rfl, rfl⟩
  | k + 1, h => by
    obtain ⟨a, b', c, d⟩ := low_eq (b := b) (r := r) k (by omega)
    rw [mnB, mnB, mxB, mxB, tkB, tkB, akB, akB, a, b', c, d, tb_low (by omega)]
    exact ⟨rfl, rfl, rfl, rfl⟩
theorem top_eq {b r : Nat} (hb : b < 10) (hr : r < 2 ^ b) : mnB mi (r + 2 ^ b) 10 = min (mnB mi r 10) (mi b) ∧ mxB mi (r + 2 ^ b) 10 = max (mxB mi r 10) (mi b) ∧ tkB th (r + 2 ^ b) 10 = th b ∧ akB th (r + 2 ^ b) 10 = (akB th r 10 && (decide (tkB th r 10 = 0) || decide (tkB th r 10 = th b))) := by
  have hs : r + 2 ^ b < 2 ^ (b + 1) := by rw [Nat.pow_succ]; omega
  obtain ⟨a1, a2, a3, a4⟩ := to10 (th := th) (mi := mi) (n := b + 1) (by omega) hs
  obtain ⟨b1, b2, b3, b4⟩ := to10 (th := th) (mi := mi) (n := b) (by omega) hr
  obtain ⟨c1, c2, c3, c4⟩ := low_eq (th := th) (mi := mi) (b := b) (r := r) b (Nat.le_refl _)
  rw [a1, a2, a3, a4, b1, b2, b3, b4, mnB, mxB, tkB, akB, tb_top hr, if_pos rfl, if_pos rfl, if_pos rfl, if_pos rfl, c1, c2, c3, c4]
  exact ⟨rfl, rfl, rfl, rfl⟩
theorem tk_pos (hP : PH th mi o ba pe li) {r : Nat} (h : r < 1024) (h0 : 0 < r) : 0 < tkB th r 10 := by
  apply Classical.byContradiction
  intro hn
  obtain ⟨i, h1, h2⟩ := bit_ex h h0
  have := tk_0 hP (s := r) 10 (by omega) i h1
  rw [this] at h2
  cases h2
theorem z_eq : mnB mi 0 10 = 1000000000 ∧ mxB mi 0 10 = 0 ∧ tkB th 0 10 = 0 ∧ akB th 0 10 = true := by
  have := to10 (th := th) (mi := mi) (n := 0) (s := 0) (by omega) (by decide)
  exact this
noncomputable def ltI (th mi : Nat → Nat) (o li s : Nat) : Nat := @ite _ (vld th mi o li s) (Classical.propDecidable _) (tkB th s 10) 0
def DS (S : ST) (th mi : Nat → Nat) (o li k : Nat) : Prop := ∀ s, 0 < s → s < k → S.1 44 s = nI (mxB mi s 10) ∧ S.1 45 s = nI (mnB mi s 10 + li) ∧ S.1 43 s = nI (ltI th mi o li s)
theorem vld_top (hP : PH th mi o ba pe li) {b r : Nat} (hb : b < 10) (hr : r < 2 ^ b) : vld th mi o li (r + 2 ^ b) ↔ (r = 0 ∨ ltI th mi o li r = th b) ∧ cntN 10 (r + 2 ^ b) ≤ o ∧ mxB mi (r + 2 ^ b) 10 ≤ mnB mi (r + 2 ^ b) 10 + li := by
  obtain ⟨t1, t2, t3, t4⟩ := top_eq (th := th) (mi := mi) hb hr
  have hc := cnt_top 10 b r hb hr
  have hth := hP.1 b
  have h10 : 2 ^ b ≤ 2 ^ 9 := Nat.pow_le_pow_right (by omega) (by omega)
  unfold vld
  rw [t4, t1, t2, Bool.and_eq_true, Bool.or_eq_true, decide_eq_true_eq, decide_eq_true_eq]
  constructor
  · rintro ⟨⟨h1, h2⟩, h3, h4⟩
    refine ⟨?_, h3, h4⟩
    by_cases e : r = 0
    · exact Or.inl e
    · right
      have hp := tk_pos hP (r := r) (by omega) (by omega)
      have hv : vld th mi o li r := ⟨h1, by omega, by omega⟩
      unfold ltI
      rw [if_pos hv]
      omega
  · rintro ⟨h1, h3, h4⟩
    refine ⟨?_, h3, h4⟩
    by_cases e : r = 0
    · subst e
      exact ⟨z_eq (th := th) (mi := mi).2.2.2, Or.inl (z_eq (th := th) (mi := mi)).2.2.1⟩
    · have h5 : ltI th mi o li r = th b := by omega
      unfold ltI at h5
      split at h5
      · rename_i g
        exact ⟨g.1, Or.inr h5⟩
      · omega
theorem mnle (s : Nat) : ∀ k, mnB mi s k ≤ 1000000000
  | 0 => Nat.le_refl _
  | k + 1 => by
    have := mnle s k
    rw [mnB]
    split <;> omega
theorem ltI_bd (hP : PH th mi o ba pe li) (s : Nat) : ltI th mi o li s ≤ 500 := by
  have := tk_bd th mi o ba pe li hP (p := s) 10
  unfold ltI
  split <;> omega
theorem ds_step (F : Nat) (k33 : ST → Int32 → Int32 → Int32 → Int32 → Option (Int32 × ST)) (hn : n ≤ 10) (hP : PH th mi o ba pe li) {b r : Nat} (hb : b < n) (hr : r < 2 ^ b) (S : ST) (hI : IC S n th mi o ba pe li) (hD : DS S th mi o li (r + 2 ^ b)) (s0 : Int32) (hs0 : s0 = nI (mxB mi (r + 2 ^ b) 10)) : ∃ S2, fX6_describeSetsUpTo_83 F k33 S (nI (2 ^ b)) (nI (th b)) (nI (mi b)) (nI r) (nI (r + 2 ^ b)) s0 (nI (r + 2 ^ b)) = k33 S2 (nI (2 ^ b)) (nI (th b)) (nI (mi b)) (nI (r + 1)) ∧ DS S2 th mi o li (r + 1 + 2 ^ b) ∧ frPC S S2 ∧ S2.1 11 = S.1 11 := by
  have h10 : 2 ^ b ≤ 2 ^ 9 := Nat.pow_le_pow_right (by omega) (by omega)
  obtain ⟨t1, t2, t3, t4⟩ := top_eq (th := th) (mi := mi) (show b < 10 by omega) hr
  have hth := hP.1 b
  have hli := hP.2.2.2.1
  have ho := hP.2.2.2.2
  have hmn := mnle (mi := mi) r 10
  have hmx := mx_bd th mi o ba pe li hP (p := r) 10
  have hv : vin (nI (r + 2 ^ b)) 1024 = true := vin_nI (by omega) (by omega)
  have hvr : vin (nI r) 1024 = true := vin_nI (by omega) (by omega)
  have hcl := cnt_le 10 (r + 2 ^ b)
  subst hs0
  refine ⟨us (us (us S 44 (r + 2 ^ b) (nI (mxB mi (r + 2 ^ b) 10))) 45 (r + 2 ^ b) (nI (mnB mi (r + 2 ^ b) 10 + li))) 43 (r + 2 ^ b) (nI (ltI th mi o li (r + 2 ^ b))), ?_, ?_, (frPC_44 _ _ _).tr ((frPC_45 _ _ _).tr (frPC_43 _ _ _)), rfl⟩
  · have k203 : ∀ (S1 : ST) (v : Int32), fX6_describeSetsUpTo_203 F k33 S1 (nI (2 ^ b)) (nI (th b)) (nI (mi b)) (nI r) v (nI (r + 2 ^ b)) = k33 (us S1 43 (r + 2 ^ b) v) (nI (2 ^ b)) (nI (th b)) (nI (mi b)) (nI (r + 1)) := fun S1 v => by
      unfold fX6_describeSetsUpTo_203
      rw [if_pos hv, ix_nI (by omega), nI_1]
      rfl
    have k144 : ∀ (a : Bool), (a = true ↔ (r = 0 ∨ ltI th mi o li r = th b)) → fX6_describeSetsUpTo_144 F k33 (us (us S 44 (r + 2 ^ b) (nI (mxB mi (r + 2 ^ b) 10))) 45 (r + 2 ^ b) (nI (mnB mi (r + 2 ^ b) 10 + li))) (nI (2 ^ b)) (nI (th b)) (nI (mi b)) (nI r) (nI (r + 2 ^ b)) (flI a) = k33 (us (us (us S 44 (r + 2 ^ b) (nI (mxB mi (r + 2 ^ b) 10))) 45 (r + 2 ^ b) (nI (mnB mi (r + 2 ^ b) 10 + li))) 43 (r + 2 ^ b) (nI (ltI th mi o li (r + 2 ^ b)))) (nI (2 ^ b)) (nI (th b)) (nI (mi b)) (nI (r + 1)) := fun a ha => by
      have hvt := vld_top hP (show b < 10 by omega) hr
      unfold fX6_describeSetsUpTo_144 fX6_describeSetsUpTo_179
      rw [bc_eq F _ (show r + 2 ^ b < 1024 by omega)]
      show (if S.1 11 9 < nI (cntN 10 (r + 2 ^ b)) then _ else (if vin (nI (r + 2 ^ b)) 1024 = true then (if vin (nI (r + 2 ^ b)) 1024 = true then (if (us (us S 44 (r + 2 ^ b) (nI (mxB mi (r + 2 ^ b) 10))) 45 (r + 2 ^ b) (nI (mnB mi (r + 2 ^ b) 10 + li))).1 45 (ix (nI (r + 2 ^ b))) < (us (us S 44 (r + 2 ^ b) (nI (mxB mi (r + 2 ^ b) 10))) 45 (r + 2 ^ b) (nI (mnB mi (r + 2 ^ b) 10 + li))).1 44 (ix (nI (r + 2 ^ b))) then _ else _) else none) else none)) = _
      rw [hI.2.1, if_pos hv, if_pos hv, ix_nI (by omega), us_rd, if_pos rfl, if_pos rfl, us_rd, if_neg (show ¬ (44 : Nat) = 45 by decide), us_rd, if_pos rfl, if_pos rfl]
      have no : ¬ vld th mi o li (r + 2 ^ b) → nI (ltI th mi o li (r + 2 ^ b)) = 0 := fun h => by unfold ltI; rw [if_neg h]; rfl
      have k180 : ∀ (c : Bool), ((a && c) = true ↔ vld th mi o li (r + 2 ^ b)) → fX6_describeSetsUpTo_180 F k33 (us (us S 44 (r + 2 ^ b) (nI (mxB mi (r + 2 ^ b) 10))) 45 (r + 2 ^ b) (nI (mnB mi (r + 2 ^ b) 10 + li))) (nI (2 ^ b)) (nI (th b)) (nI (mi b)) (nI r) (nI (r + 2 ^ b)) (flI a) (flI c) = k33 (us (us (us S 44 (r + 2 ^ b) (nI (mxB mi (r + 2 ^ b) 10))) 45 (r + 2 ^ b) (nI (mnB mi (r + 2 ^ b) 10 + li))) 43 (r + 2 ^ b) (nI (ltI th mi o li (r + 2 ^ b)))) (nI (2 ^ b)) (nI (th b)) (nI (mi b)) (nI (r + 1)) := fun c hc => by
        unfold fX6_describeSetsUpTo_180 fX6_describeSetsUpTo_202
        rw [k203, k203]
        cases a with
        | false => rw [if_pos (show flI false = 0 from rfl), no (fun h => by have := hc.mpr h; cases this)]
        | true =>
          rw [if_neg (show ¬ flI true = 0 by decide)]
          cases c with
          | false => rw [if_pos (show flI false = 0 from rfl), no (fun h => by have := hc.mpr h; cases this)]
          | true =>
            rw [if_neg (show ¬ flI true = 0 by decide)]
            have : vld th mi o li (r + 2 ^ b) := hc.mp rfl
            unfold ltI
            rw [if_pos this, t3]
      by_cases c1 : o < cntN 10 (r + 2 ^ b)
      · rw [if_pos (nI_lt c1 (by omega))]
        refine k180 false ?_
        rw [Bool.and_false]
        constructor
        · intro h; cases h
        · intro h
          have := h.2.1
          omega
      · rw [if_neg (nI_nlt (by omega) (by omega))]
        by_cases c2 : mnB mi (r + 2 ^ b) 10 + li < mxB mi (r + 2 ^ b) 10
        · rw [if_pos (nI_lt c2 (by omega))]
          refine k180 false ?_
          rw [Bool.and_false]
          constructor
          · intro h; cases h
          · intro h
            have := h.2.2
            omega
        · rw [if_neg (nI_nlt (by omega) (by omega))]
          refine k180 true ?_
          rw [Bool.and_true, hvt, ha]
          constructor
          · intro h; exact ⟨h, by omega, by omega⟩
          · intro h; exact h.1
    have k122 : ∀ v, v = nI (mnB mi (r + 2 ^ b) 10 + li) → fX6_describeSetsUpTo_122 F k33 (us S 44 (r + 2 ^ b) (nI (mxB mi (r + 2 ^ b) 10))) (nI (2 ^ b)) (nI (th b)) (nI (mi b)) (nI r) (nI (r + 2 ^ b)) v (nI (r + 2 ^ b)) = k33 (us (us (us S 44 (r + 2 ^ b) (nI (mxB mi (r + 2 ^ b) 10))) 45 (r + 2 ^ b) (nI (mnB mi (r + 2 ^ b) 10 + li))) 43 (r + 2 ^ b) (nI (ltI th mi o li (r + 2 ^ b)))) (nI (2 ^ b)) (nI (th b)) (nI (mi b)) (nI (r + 1)) := fun v hv2 => by
      subst hv2
      unfold fX6_describeSetsUpTo_122
      rw [if_pos hv, ix_nI (by omega)]
      show (if nI r = 0 then _ else (if vin (nI r) 1024 = true then (if S.1 43 (ix (nI r)) = nI (th b) then _ else _) else none)) = _
      by_cases e : r = 0
      · rw [if_pos (by rw [e]; rfl)]
        exact k144 true ⟨fun _ => Or.inl e, fun _ => rfl⟩
      · have hlt := ltI_bd hP r
        rw [if_neg (nI_ne0 (by omega) (by omega)), if_pos hvr, ix_nI (by omega), (hD r (by omega) (by omega)).2.2]
        by_cases g : ltI th mi o li r = th b
        · rw [if_pos (by rw [g])]
          exact k144 true ⟨fun _ => Or.inr g, fun _ => rfl⟩
        · rw [if_neg (by rw [nI_eq (by omega) (by omega)]; exact g)]
          refine k144 false ⟨fun h => (by cases h), fun h => ?_⟩
          rcases h with h | h
          · exact absurd h e
          · exact absurd h g
    unfold fX6_describeSetsUpTo_83
    rw [if_pos hv, ix_nI (by omega)]
    show (if nI r = 0 then fX6_describeSetsUpTo_122 F k33 (us S 44 (r + 2 ^ b) (nI (mxB mi (r + 2 ^ b) 10))) _ _ _ _ _ (nI (mi b) + S.1 11 12) _ else (if vin (nI r) 1024 = true then fX6_describeSetsUpTo_122 F k33 (us S 44 (r + 2 ^ b) (nI (mxB mi (r + 2 ^ b) 10))) _ _ _ _ _ (jmin (S.1 45 (ix (nI r))) (nI (mi b) + S.1 11 12)) _ else none)) = _
    rw [hI.2.2.2.2.1, nI_add]
    by_cases e : r = 0
    · rw [if_pos (by rw [e]; rfl)]
      apply k122
      rw [t1, e, (z_eq (th := th) (mi := mi)).1, Nat.min_eq_right (by omega)]
    · rw [if_neg (nI_ne0 (by omega) (by omega)), if_pos hvr, ix_nI (by omega), (hD r (by omega) (by omega)).2.1, jmin_nI (by omega) (by omega)]
      apply k122
      rw [t1]
      congr 1
      omega
  · intro s h1 h2
    simp only [us_rd]
    by_cases e : s = r + 2 ^ b
    · subst e
      simp
    · simp [e]
      exact hD s h1 (by omega)
theorem ds33_lp (F : Nat) (hn : n ≤ 10) (hP : PH th mi o ba pe li) {b : Nat} (hb : b < n) : ∀ (d f r : Nat) (S : ST), r + d = 2 ^ b → d < f → IC S n th mi o ba pe li → DS S th mi o li (r + 2 ^ b) → ∃ S2, fX6_describeSetsUpTo_33 F f S (nI (2 ^ b)) (nI (th b)) (nI (mi b)) (nI r) = some (0, S2) ∧ DS S2 th mi o li (2 ^ (b + 1)) ∧ frPC S S2 ∧ S2.1 11 = S.1 11
  | 0, f + 1, r, S, h1, h2, hI, hD => by
    have h10 : 2 ^ b ≤ 2 ^ 9 := Nat.pow_le_pow_right (by omega) (by omega)
    refine ⟨S, ?_, ?_, frPC_refl S, rfl⟩
    · rw [fX6_describeSetsUpTo_33, if_pos (nI_le (by omega) (by omega))]
    · rw [Nat.pow_succ, show 2 ^ b * 2 = r + 2 ^ b by omega]
      exact hD
  | d + 1, f + 1, r, S, h1, h2, hI, hD => by
    have h10 : 2 ^ b ≤ 2 ^ 9 := Nat.pow_le_pow_right (by omega) (by omega)
    have hr : r < 2 ^ b := by omega
    obtain ⟨t1, t2, t3, t4⟩ := top_eq (th := th) (mi := mi) (show b < 10 by omega) hr
    have hmx := mx_bd th mi o ba pe li hP (p := r) 10
    have hth := hP.1 b
    rw [fX6_describeSetsUpTo_33, if_neg (nI_ge (by omega) (by omega)), nI_add, if_neg (c := (1024 : Int32) ≤ nI (r + 2 ^ b)) (nI_ge (b := 1024) (by omega) (by omega))]
    show ∃ S2, (if nI r = 0 then _ else _) = _ ∧ _
    have key : ∀ s0, s0 = nI (mxB mi (r + 2 ^ b) 10) → ∃ S2, fX6_describeSetsUpTo_83 F (fX6_describeSetsUpTo_33 F f) S (nI (2 ^ b)) (nI (th b)) (nI (mi b)) (nI r) (nI (r + 2 ^ b)) s0 (nI (r + 2 ^ b)) = some (0, S2) ∧ DS S2 th mi o li (2 ^ (b + 1)) ∧ frPC S S2 ∧ S2.1 11 = S.1 11 := fun s0 hs0 => by
      obtain ⟨S1, e1, e2, e3, e4⟩ := ds_step F (fX6_describeSetsUpTo_33 F f) hn hP hb hr S hI hD s0 hs0
      obtain ⟨S2, g1, g2, g3, g4⟩ := ds33_lp F hn hP hb d f (r + 1) S1 (by omega) (by omega) (hI.fr e3) e2
      exact ⟨S2, by rw [e1]; exact g1, g2, e3.tr g3, by rw [g4, e4]⟩
    by_cases e : r = 0
    · rw [if_pos (by rw [e]; rfl)]
      apply key
      rw [t2, e, (z_eq (th := th) (mi := mi)).2.1, Nat.max_eq_right (by omega)]
    · rw [if_neg (nI_ne0 (by omega) (by omega)), if_pos (vin_nI (by omega) (by omega)), ix_nI (by omega), (hD r (by omega) (by omega)).1, jmax_nI (by omega) (by omega)]
      apply key
      rw [t2]
theorem fi28_lp (F : Nat) (hF : 2000 ≤ F) (hn : n ≤ 10) (hP : PH th mi o ba pe li) (x1 : Int32) : ∀ (d f b : Nat) (S : ST), b + d = n → d < f → IC S n th mi o ba pe li → DS S th mi o li (2 ^ b) → ∃ S2, fX6_find_28 F f S x1 (nI b) = fX6_find_56 F F S2 x1 1 ∧ DS S2 th mi o li (2 ^ n) ∧ frPC S S2 ∧ S2.1 46 0 = 0 ∧ S2.1 11 = S.1 11
  | 0, f + 1, b, S, h1, h2, hI, hD => by
    have e : b = n := by omega
    subst e
    refine ⟨us S 46 0 0, ?_, hD, frPC_46 _ _ _, rfl, rfl⟩
    rw [fX6_find_28, hI.1, if_pos (nI_le (by omega) (by omega))]
    rfl
  | d + 1, f + 1, b, S, h1, h2, hI, hD => by
    have h10 : 2 ^ b ≤ 2 ^ 9 := Nat.pow_le_pow_right (by omega) (by omega)
    obtain ⟨S1, e1, e2, e3, e4⟩ := ds33_lp F hn hP (show b < n by omega) (2 ^ b) F 0 S (by omega) (by omega) hI (by rw [Nat.zero_add]; exact hD)
    obtain ⟨S2, g1, g2, g3, g4, g5⟩ := fi28_lp F hF hn hP x1 d f (b + 1) S1 (by omega) (by omega) (hI.fr e3) e2
    refine ⟨S2, ?_, g2, e3.tr g3, g4, by rw [g5, e4]⟩
    rw [fX6_find_28, hI.1, if_neg (nI_ge (by omega) (by omega))]
    have hd : fX6_describeSetsUpTo F S (nI b) = some (0, S1) := by
      unfold fX6_describeSetsUpTo
      rw [if_neg (nI_pos (by omega)), if_pos (c := nI b < 10) (nI_lt (b := 10) (by omega) (by omega)), shl_n b (by omega)]
      simp only [bindI]
      have hvb : vin (nI b) 10 = true := vin_nI (by omega) (by omega)
      rw [if_pos hvb, if_pos hvb, ix_nI (by omega), (hI.2.2.2.2.2 b (by omega)).1, (hI.2.2.2.2.2 b (by omega)).2]
      exact e1
    rw [hd]
    show fX6_find_28 F f S1 x1 (nI b + 1) = _
    rw [nI_1]
    exact g1
end PRESSC
