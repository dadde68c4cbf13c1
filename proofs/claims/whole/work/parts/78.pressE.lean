section PRESSE
variable {n : Nat} {th mi : Nat → Nat} {o ba pe li : Nat}
theorem fi56_lp (F : Nat) (hF : 2000 ≤ F) (hn : n ≤ 10) (hP : PH th mi o ba pe li) : ∀ (d f s : Nat) (S : ST), s + d = 2 ^ n → d < f → 0 < s → IC S n th mi o ba pe li → DS S th mi o li (2 ^ n) → (∀ r, r < s → S.1 46 r = edI th mi o ba pe li r) → ∃ S2, fX6_find_56 F f S (nI (2 ^ n)) (nI s) = (fX6_choose F S2 (nI (2 ^ n))).bind (fun q80 => (fX6_listLoads F q80.2).bind (fun q84 => some ((0 : Int32), q84.2))) ∧ (∀ r, r < 2 ^ n → S2.1 46 r = edI th mi o ba pe li r) ∧ DS S2 th mi o li (2 ^ n) ∧ frPC S S2 ∧ (∀ a, a ≠ 46 → S2.1 a = S.1 a)
  | 0, f + 1, s, S, h1, h2, h0, hI, hD, hE => by
    have h10 : 2 ^ n ≤ 2 ^ 10 := Nat.pow_le_pow_right (by omega) hn
    refine ⟨S, ?_, fun r hr => hE r (by omega), hD, frPC_refl S, fun _ _ => rfl⟩
    rw [fX6_find_56, if_pos (nI_le (by omega) (by omega))]
  | d + 1, f + 1, s, S, h1, h2, h0, hI, hD, hE => by
    have h10 : 2 ^ n ≤ 2 ^ 10 := Nat.pow_le_pow_right (by omega) hn
    have hfr := frPC_46 S s (edI th mi o ba pe li s)
    obtain ⟨S2, g1, g2, g3, g4, g5⟩ := fi56_lp F hF hn hP d f (s + 1) (us S 46 s (edI th mi o ba pe li s)) (by omega) (by omega) (by omega) (hI.fr hfr) (fun r a b => by rw [us_row, us_row, us_row]; exact hD r a b) (fun r hr => by
      rw [us_rd, if_pos rfl]
      by_cases e : r = s
      · rw [if_pos e, e]
      · rw [if_neg e]
        exact hE r (by omega))
    refine ⟨S2, ?_, g2, g3, hfr.tr g4, fun a ha => by rw [g5 a ha, us_row, if_neg ha]⟩
    rw [fX6_find_56, if_neg (nI_ge (by omega) (by omega)), fe_eq F hF hn hP S hI hD (by omega) h0 hE]
    show (if vin (nI s) 1024 = true then fX6_find_56 F f (us S 46 (ix (nI s)) (edI th mi o ba pe li s)) (nI (2 ^ n)) (nI s + 1) else none) = _
    rw [if_pos (vin_nI (by omega) (by omega)), ix_nI (by omega), nI_1]
    exact g1
def tkC (th mi : Nat → Nat) (o ba pe li s : Nat) : Prop := outT th mi o ba pe li (s + 1) ≠ 1000000000 ∧ (cntN 10 (chT th mi o ba pe li s) < cntN 10 (s + 1) ∨ (cntN 10 (s + 1) = cntN 10 (chT th mi o ba pe li s) ∧ outT th mi o ba pe li (s + 1) < outT th mi o ba pe li (chT th mi o ba pe li s)))
theorem chT_tk {s : Nat} : chT th mi o ba pe li (s + 1) = @ite _ (tkC th mi o ba pe li s) (Classical.propDecidable _) (s + 1) (chT th mi o ba pe li s) := chT_step
theorem i0z : (0 : Int32).toInt = 0 := by decide
theorem ch46_eq (F : Nat) (hP : PH th mi o ba pe li) (k7 : ST → Int32 → Int32 → Option (Int32 × ST)) (S : ST) (x1 : Int32) {s : Nat} (hs : s + 1 < 1024) (hE : S.1 46 (s + 1) = edI th mi o ba pe li (s + 1)) (s0 : Int32) (hs0 : (s0 = 0 ↔ ¬ outT th mi o ba pe li (s + 1) < outT th mi o ba pe li (chT th mi o ba pe li s)) ∨ outT th mi o ba pe li (s + 1) = 1000000000) : fX6_choose_46 F k7 S x1 (nI (s + 1)) (nI (cntN 10 (s + 1)) - nI (cntN 10 (chT th mi o ba pe li s))) s0 = @ite _ (tkC th mi o ba pe li s) (Classical.propDecidable _) (k7 (us S 11 13 (nI (s + 1))) x1 (nI (s + 2))) (k7 S x1 (nI (s + 2))) := by
  have b1 := cnt_le 10 (s + 1)
  have b2 := cnt_le 10 (chT th mi o ba pe li s)
  have o1 := out_bd th mi o ba pe li hP (s := s + 1) (by omega)
  have oo1 := oOf_eq F hP S (s := s + 1) (by omega) hE
  have hdi := pk_sub_toInt (a := cntN 10 (s + 1)) (b := cntN 10 (chT th mi o ba pe li s)) (by omega) (by omega)
  have h70 : fX6_choose_70 F k7 S x1 (nI (s + 1)) = k7 (us S 11 13 (nI (s + 1))) x1 (nI (s + 2)) := by
    show k7 (us S 11 13 (nI (s + 1))) x1 (nI (s + 1) + 1) = _
    rw [nI_1]
  unfold fX6_choose_46
  rw [oo1, Option.bind_some, h70, nI_1]
  by_cases c1 : outT th mi o ba pe li (s + 1) = 1000000000
  · rw [if_pos c1, if_pos rfl, if_neg (fun h : tkC th mi o ba pe li s => h.1 c1)]
  · have hs1 : s0 = 0 ↔ ¬ outT th mi o ba pe li (s + 1) < outT th mi o ba pe li (chT th mi o ba pe li s) := by
      rcases hs0 with h | h
      · exact h
      · exact absurd h c1
    rw [if_neg c1, if_neg (m1_ne (by omega))]
    by_cases c2 : cntN 10 (chT th mi o ba pe li s) < cntN 10 (s + 1)
    · rw [if_pos (by rw [i_lt, hdi, i0z]; omega), if_pos (show tkC th mi o ba pe li s from ⟨c1, Or.inl c2⟩)]
    · rw [if_neg (by rw [i_lt, hdi, i0z]; omega)]
      by_cases c3 : cntN 10 (s + 1) = cntN 10 (chT th mi o ba pe li s)
      · rw [if_pos (by rw [i_eq, hdi, i0z]; omega)]
        by_cases c4 : outT th mi o ba pe li (s + 1) < outT th mi o ba pe li (chT th mi o ba pe li s)
        · rw [if_neg (fun h => hs1.mp h c4), if_pos (show tkC th mi o ba pe li s from ⟨c1, Or.inr ⟨c3, c4⟩⟩)]
        · rw [if_pos (hs1.mpr c4), if_neg (fun h : tkC th mi o ba pe li s => by
            rcases h.2 with h | h
            · exact c2 h
            · exact c4 h.2)]
      · rw [if_neg (by rw [i_eq, hdi, i0z]; omega), if_neg (fun h : tkC th mi o ba pe li s => by
          rcases h.2 with h | h
          · exact c2 h
          · exact c3 h.1)]
theorem bindI_eq (v : Int32) (k : Int32 → Option (Int32 × ST)) : bindI v k = k v := rfl
theorem ch7_eq (F f : Nat) (hn : n ≤ 10) (hP : PH th mi o ba pe li) (S : ST) {s : Nat} (hs : s + 1 < 2 ^ n) (hE : ∀ r, r < 2 ^ n → S.1 46 r = edI th mi o ba pe li r) (hc : S.1 11 13 = nI (chT th mi o ba pe li s)) : fX6_choose_7 F (f + 1) S (nI (2 ^ n)) (nI (s + 1)) = @ite _ (tkC th mi o ba pe li s) (Classical.propDecidable _) (fX6_choose_7 F f (us S 11 13 (nI (s + 1))) (nI (2 ^ n)) (nI (s + 2))) (fX6_choose_7 F f S (nI (2 ^ n)) (nI (s + 2))) := by
  have h10 : 2 ^ n ≤ 2 ^ 10 := Nat.pow_le_pow_right (by omega) hn
  have hck := chT_ok th mi o ba pe li s
  have o1 := out_bd th mi o ba pe li hP (s := s + 1) (by omega)
  have o2 := out_bd th mi o ba pe li hP (s := chT th mi o ba pe li s) (by omega)
  have oo1 := oOf_eq F hP S (s := s + 1) (by omega) (hE _ (by omega))
  have oo2 := oOf_eq F hP S (s := chT th mi o ba pe li s) (by omega) (hE _ (by omega))
  rw [if_neg hck.2] at oo2
  have k46 := fun s0 hs0 => ch46_eq F hP (fX6_choose_7 F f) S (nI (2 ^ n)) (s := s) (by omega) (hE _ (by omega)) s0 hs0
  rw [fX6_choose_7, if_neg (nI_ge (by omega) (by omega)), bc_eq F S (by omega), Option.bind_some]
  rw [hc, bc_eq F S (by omega), Option.bind_some, bindI_eq, oo1, Option.bind_some, hc, oo2, Option.bind_some]
  by_cases c1 : outT th mi o ba pe li (s + 1) = 1000000000
  · rw [k46 0 (Or.inr c1), k46 1 (Or.inr c1), ite_self]
  · rw [if_neg c1]
    by_cases c4 : outT th mi o ba pe li (s + 1) < outT th mi o ba pe li (chT th mi o ba pe li s)
    · rw [if_neg (nI_ge c4 (by omega))]
      exact k46 1 (Or.inl ⟨fun h => absurd h z10, fun h => absurd c4 h⟩)
    · rw [if_pos (nI_le (by omega) (by omega))]
      exact k46 0 (Or.inl ⟨fun _ => c4, fun _ => rfl⟩)
theorem ch_lp (F : Nat) (hn : n ≤ 10) (hP : PH th mi o ba pe li) : ∀ (d f s : Nat) (S : ST), s + 1 + d = 2 ^ n → d < f → (∀ r, r < 2 ^ n → S.1 46 r = edI th mi o ba pe li r) → S.1 11 13 = nI (chT th mi o ba pe li s) → ∃ S2, fX6_choose_7 F f S (nI (2 ^ n)) (nI (s + 1)) = some (0, S2) ∧ S2.1 11 13 = nI (chT th mi o ba pe li (2 ^ n - 1)) ∧ frPC S S2 ∧ (∀ a, a ≠ 11 → S2.1 a = S.1 a) ∧ (∀ j, j ≠ 13 → S2.1 11 j = S.1 11 j)
  | 0, f + 1, s, S, h1, h2, hE, hc => by
    have h10 : 2 ^ n ≤ 2 ^ 10 := Nat.pow_le_pow_right (by omega) hn
    refine ⟨S, ?_, ?_, frPC_refl S, fun _ _ => rfl, fun _ _ => rfl⟩
    · rw [fX6_choose_7, if_pos (nI_le (by omega) (by omega))]
    · rw [hc, show 2 ^ n - 1 = s by omega]
  | d + 1, f + 1, s, S, h1, h2, hE, hc => by
    have h7 := ch7_eq F f hn hP S (s := s) (by omega) hE hc
    rw [h7]
    by_cases h : tkC th mi o ba pe li s
    · obtain ⟨S2, g1, g2, g3, g4, g5⟩ := ch_lp F hn hP d f (s + 1) (us S 11 13 (nI (s + 1))) (by omega) (by omega) (fun r hr => hE r hr) (by rw [chT_tk, if_pos h]; rfl)
      rw [if_pos h]
      exact ⟨S2, g1, g2, (frPC_11 S 13 _ (Or.inl rfl)).tr g3, fun a ha => by rw [g4 a ha, us_row, if_neg ha], fun j hj => by rw [g5 j hj, us_rd, if_pos rfl, if_neg hj]⟩
    · rw [if_neg h]
      exact ch_lp F hn hP d f (s + 1) S (by omega) (by omega) hE (by rw [chT_tk, if_neg h]; exact hc)
theorem ll_eq (F : Nat) (hP : PH th mi o ba pe li) (S : ST) {s : Nat} (hs : s < 1024) (h0 : 0 < s) (hf : outT th mi o ba pe li s ≠ 1000000000) (hE : S.1 46 s = edI th mi o ba pe li s) : fX6_lastLoadOf F S (nI s) = some (nI (lstT th mi o ba pe li s), S) := by
  obtain ⟨a, b, c⟩ := edI_ok hP hs hf
  unfold fX6_lastLoadOf
  rw [if_neg (nI_pos (by omega)), if_neg (c := (1024 : Int32) ≤ nI s) (nI_ge (b := 1024) (by omega) (by omega)), if_pos (vin_nI hs (by omega)), ix_nI (by omega), hE, if_neg a, if_pos (vin_nI hs (by omega)), c h0]
theorem ll12_lp (F : Nat) (hn : n ≤ 10) (hP : PH th mi o ba pe li) {c N : Nat} (hc : c < 2 ^ n) (hcf : outT th mi o ba pe li c ≠ 1000000000) (hN : N ≤ 10) (hN0 : chnT th mi o ba pe li c N = 0) (hN1 : ∀ k, k < N → 0 < chnT th mi o ba pe li c k) : ∀ (d f k : Nat) (S : ST), k + d = N → d < f → (∀ r, r < 2 ^ n → S.1 46 r = edI th mi o ba pe li r) → S.1 11 14 = nI k → fX6_listLoads_12 F f S (nI (chnT th mi o ba pe li c k)) (nI k) = fX6_listLoads_46 F (us S 11 14 (nI N))
  | 0, f + 1, k, S, h1, h2, hE, h14 => by
    have e : k = N := by omega
    subst e
    have es : us S 11 14 (nI k) = S := by
      rw [← h14]
      show (fun q => if q = 11 then upd (S.1 11) 14 (S.1 11 14) else S.1 q, S.2) = S
      apply Prod.ext
      · funext q j
        show (if q = 11 then upd (S.1 11) 14 (S.1 11 14) else S.1 q) j = S.1 q j
        by_cases hq : q = 11
        · rw [if_pos hq, hq, upd_rd]
          by_cases hj : j = 14
          · rw [if_pos hj, hj]
          · rw [if_neg hj]
        · rw [if_neg hq]
      · rfl
    rw [es, fX6_listLoads_12, hN0]
    by_cases h10 : 10 ≤ k
    · rw [if_pos (show (10 : Int32) ≤ nI k from nI_le (a := 10) h10 (by omega))]
    · rw [if_neg (show ¬ (10 : Int32) ≤ nI k from nI_ge (b := 10) (by omega) (by omega)), if_pos (by decide)]
  | d + 1, f + 1, k, S, h1, h2, hE, h14 => by
    have h10 : 2 ^ n ≤ 2 ^ 10 := Nat.pow_le_pow_right (by omega) hn
    obtain ⟨c1, c2, _⟩ := chn_ok th mi o ba pe li hP (c := c) (by omega) hcf k
    have hle : ∀ k, chnT th mi o ba pe li c k ≤ c := fun k => by
      induction k with
      | zero => exact Nat.le_refl _
      | succ k ih => rw [chnT]; split <;> omega
    have hk0 := hN1 k (by omega)
    have hkn : chnT th mi o ba pe li c k < 2 ^ n := by have := hle k; omega
    obtain ⟨l1, l2, _⟩ := lst_ok th mi o ba pe li hP c1 hk0 c2
    have e1 : chnT th mi o ba pe li c (k + 1) = chnT th mi o ba pe li c k - lstT th mi o ba pe li (chnT th mi o ba pe li c k) := by
      rw [chnT, if_neg (by omega)]
    have ih := ll12_lp F hn hP hc hcf hN hN0 hN1 d f (k + 1) (us S 11 14 (nI (k + 1))) (by omega) (by omega) (fun r hr => hE r hr) rfl
    rw [fX6_listLoads_12, if_neg (show ¬ (10 : Int32) ≤ nI k from nI_ge (b := 10) (by omega) (by omega)), if_neg (nI_nle hk0 (by omega)), ll_eq F hP S c1 hk0 c2 (hE _ hkn)]
    show fX6_listLoads_12 F f (us S 11 14 (S.1 11 14 + 1)) (nI (chnT th mi o ba pe li c k) - nI (lstT th mi o ba pe li (chnT th mi o ba pe li c k))) (nI k + 1) = _
    rw [h14, nI_1, pk_sub (sub_le l2), ← e1, ih]
    congr 1
    apply Prod.ext
    · funext q j
      rw [us_rd, us_rd, us_rd]
      by_cases hq : q = 11
      · by_cases hj : j = 14
        · simp [hq, hj]
        · simp [hj]
      · simp [hq]
    · rfl
def LdC (S : ST) (th mi : Nat → Nat) (o ba pe li c N k : Nat) : Prop := ∀ i, i < k → S.1 47 (N - 1 - i) = nI (lstT th mi o ba pe li (chnT th mi o ba pe li c i)) ∧ S.1 48 (N - 1 - i) = nI (max (outT th mi o ba pe li (chnT th mi o ba pe li c (i + 1))) (mxB mi (lstT th mi o ba pe li (chnT th mi o ba pe li c i)) 10))
theorem ll58_lp (F : Nat) (hn : n ≤ 10) (hP : PH th mi o ba pe li) {c N : Nat} (hc : c < 2 ^ n) (hcf : outT th mi o ba pe li c ≠ 1000000000) (hN : N ≤ 10) (hN0 : chnT th mi o ba pe li c N = 0) (hN1 : ∀ k, k < N → 0 < chnT th mi o ba pe li c k) : ∀ (d f k : Nat) (S : ST), k + d = N → d < f → (∀ r, r < 2 ^ n → S.1 46 r = edI th mi o ba pe li r) → DS S th mi o li (2 ^ n) → LdC S th mi o ba pe li c N k → ∃ S2, fX6_listLoads_58 F f S (nI (chnT th mi o ba pe li c k)) (nI (N - k) - 1) = some (0, S2) ∧ LdC S2 th mi o ba pe li c N N ∧ frPC S S2 ∧ (∀ a, a ≠ 47 → a ≠ 48 → S2.1 a = S.1 a)
  | 0, f + 1, k, S, h1, h2, hE, hD, hL => by
    have e : k = N := by omega
    subst e
    refine ⟨S, ?_, hL, frPC_refl S, fun _ _ _ => rfl⟩
    rw [fX6_listLoads_58, Nat.sub_self, if_pos (by decide)]
  | d + 1, f + 1, k, S, h1, h2, hE, hD, hL => by
    have h10 : 2 ^ n ≤ 2 ^ 10 := Nat.pow_le_pow_right (by omega) hn
    obtain ⟨c1, c2, _⟩ := chn_ok th mi o ba pe li hP (c := c) (by omega) hcf k
    obtain ⟨c3, c4, _⟩ := chn_ok th mi o ba pe li hP (c := c) (by omega) hcf (k + 1)
    have hle : ∀ k, chnT th mi o ba pe li c k ≤ c := fun k => by
      induction k with
      | zero => exact Nat.le_refl _
      | succ k ih => rw [chnT]; split <;> omega
    have hk0 := hN1 k (by omega)
    have hkn : chnT th mi o ba pe li c k < 2 ^ n := by have := hle k; omega
    have hkn2 : chnT th mi o ba pe li c (k + 1) < 2 ^ n := by have := hle (k + 1); omega
    obtain ⟨l1, l2, _⟩ := lst_ok th mi o ba pe li hP c1 hk0 c2
    have hll := sub_le l2
    have e1 : chnT th mi o ba pe li c (k + 1) = chnT th mi o ba pe li c k - lstT th mi o ba pe li (chnT th mi o ba pe li c k) := by
      rw [chnT, if_neg (by omega)]
    have hat : nI (N - k) - 1 = nI (N - 1 - k) := by
      rw [show N - k = (N - 1 - k) + 1 by omega, nI_pred]
    have o2 := out_bd th mi o ba pe li hP (s := chnT th mi o ba pe li c (k + 1)) c3
    have hmx := mx_bd th mi o ba pe li hP (p := lstT th mi o ba pe li (chnT th mi o ba pe li c k)) 10
    have oo := oOf_eq F hP S c3 (hE _ hkn2)
    rw [if_neg c4] at oo
    have hll2 := lst_lt (th := th) (mi := mi) (o := o) (ba := ba) (pe := pe) (li := li) (chnT th mi o ba pe li c k)
    have hw : fX6_writeLoad F S (nI (N - 1 - k)) (nI (lstT th mi o ba pe li (chnT th mi o ba pe li c k))) (nI (outT th mi o ba pe li (chnT th mi o ba pe li c (k + 1)))) = some (0, us (us S 47 (N - 1 - k) (nI (lstT th mi o ba pe li (chnT th mi o ba pe li c k)))) 48 (N - 1 - k) (nI (max (outT th mi o ba pe li (chnT th mi o ba pe li c (k + 1))) (mxB mi (lstT th mi o ba pe li (chnT th mi o ba pe li c k)) 10)))) := by
      have hv1 : vin (nI (N - 1 - k)) 10 = true := vin_nI (by omega) (by omega)
      have hv2 : vin (nI (lstT th mi o ba pe li (chnT th mi o ba pe li c k))) 1024 = true := vin_nI (by omega) (by omega)
      unfold fX6_writeLoad
      rw [if_neg (nI_pos (by omega)), if_neg (show ¬ (10 : Int32) ≤ nI (N - 1 - k) from nI_ge (b := 10) (by omega) (by omega)), if_neg (nI_pos (by omega)), if_pos (show nI (lstT th mi o ba pe li (chnT th mi o ba pe li c k)) < 1024 from nI_lt (b := 1024) (by omega) (by omega)), if_pos hv1, ix_nI (by omega), ix_nI (by omega)]
      show (if vin (nI (lstT th mi o ba pe li (chnT th mi o ba pe li c k))) 1024 = true then (if vin (nI (N - 1 - k)) 10 = true then some (0, us (us S 47 (N - 1 - k) (nI (lstT th mi o ba pe li (chnT th mi o ba pe li c k)))) 48 (N - 1 - k) (jmax (nI (outT th mi o ba pe li (chnT th mi o ba pe li c (k + 1)))) (S.1 44 (lstT th mi o ba pe li (chnT th mi o ba pe li c k))))) else none) else none) = _
      rw [if_pos hv2, if_pos hv1, (hD _ l1 (by omega)).1, jmax_nI (by omega) (by omega)]
    have hfr : frPC S (us (us S 47 (N - 1 - k) (nI (lstT th mi o ba pe li (chnT th mi o ba pe li c k)))) 48 (N - 1 - k) (nI (max (outT th mi o ba pe li (chnT th mi o ba pe li c (k + 1))) (mxB mi (lstT th mi o ba pe li (chnT th mi o ba pe li c k)) 10)))) := (frPC_47 S _ _).tr (frPC_48 _ _ _)
    obtain ⟨S2, g1, g2, g3, g4⟩ := ll58_lp F hn hP hc hcf hN hN0 hN1 d f (k + 1) (us (us S 47 (N - 1 - k) (nI (lstT th mi o ba pe li (chnT th mi o ba pe li c k)))) 48 (N - 1 - k) (nI (max (outT th mi o ba pe li (chnT th mi o ba pe li c (k + 1))) (mxB mi (lstT th mi o ba pe li (chnT th mi o ba pe li c k)) 10)))) (by omega) (by omega) (fun r hr => hE r hr) (fun r a b => hD r a b) (fun i hi => by
      show (us (us S 47 (N - 1 - k) (nI (lstT th mi o ba pe li (chnT th mi o ba pe li c k)))) 48 (N - 1 - k) (nI (max (outT th mi o ba pe li (chnT th mi o ba pe li c (k + 1))) (mxB mi (lstT th mi o ba pe li (chnT th mi o ba pe li c k)) 10)))).1 47 (N - 1 - i) = _ ∧ (us (us S 47 (N - 1 - k) (nI (lstT th mi o ba pe li (chnT th mi o ba pe li c k)))) 48 (N - 1 - k) (nI (max (outT th mi o ba pe li (chnT th mi o ba pe li c (k + 1))) (mxB mi (lstT th mi o ba pe li (chnT th mi o ba pe li c k)) 10)))).1 48 (N - 1 - i) = _
      rw [us_rd, us_rd, us_rd, us_rd]
      by_cases e : i = k
      · subst e
        simp
      · have hne : ¬ N - 1 - i = N - 1 - k := by omega
        have := hL i (by omega)
        simp [hne]
        exact this)
    refine ⟨S2, ?_, g2, hfr.tr g3, fun a h1 h2 => by rw [g4 a h1 h2, us_row, if_neg h2, us_row, if_neg h1]⟩
    rw [fX6_listLoads_58, hat, if_neg (nI_pos (by omega)), ll_eq F hP S c1 hk0 c2 (hE _ hkn)]
    show (fX6_outOf F S (nI (chnT th mi o ba pe li c k) - nI (lstT th mi o ba pe li (chnT th mi o ba pe li c k)))).bind _ = _
    rw [pk_sub hll, ← e1, oo]
    show (fX6_writeLoad F S (nI (N - 1 - k)) (nI (lstT th mi o ba pe li (chnT th mi o ba pe li c k))) (nI (outT th mi o ba pe li (chnT th mi o ba pe li c (k + 1))))).bind _ = _
    rw [hw]
    show fX6_listLoads_58 F f _ (nI (chnT th mi o ba pe li c (k + 1))) (nI (N - 1 - k) + -1) = _
    rw [show nI (N - 1 - k) + -1 = nI (N - (k + 1)) - 1 by rw [show N - 1 - k = N - (k + 1) by omega]; grind]
    exact g1
theorem findP_eq (F : Nat) (hF : 2000 ≤ F) (hn : n ≤ 10) (hP : PH th mi o ba pe li) (S : ST) (hI : IC S n th mi o ba pe li) (hs : ¬ S.1 11 15 = 0) {c N : Nat} (hc : c = chT th mi o ba pe li (2 ^ n - 1)) (hN : N ≤ 10) (hN0 : chnT th mi o ba pe li c N = 0) (hN1 : ∀ k, k < N → 0 < chnT th mi o ba pe li c k) : ∃ S2, fX6_find F S = some (0, S2) ∧ S2.1 11 13 = nI c ∧ S2.1 11 14 = nI N ∧ S2.1 11 15 = 0 ∧ (∀ r, r < 2 ^ n → S2.1 46 r = edI th mi o ba pe li r) ∧ LdC S2 th mi o ba pe li c N N ∧ frPC S S2 := by
  have h10 : 2 ^ n ≤ 2 ^ 10 := Nat.pow_le_pow_right (by omega) hn
  have hpos : 0 < 2 ^ n := Nat.pow_pos (by omega)
  have f0 := frPC_11 S 15 0 (Or.inr (Or.inr rfl))
  obtain ⟨S1, a1, a2, a3, a4, a5⟩ := fi28_lp F hF hn hP (nI (2 ^ n)) n F 0 (us S 11 15 0) (by omega) (by omega) (hI.fr f0) (fun r h1 h2 => by rw [Nat.pow_zero] at h2; omega)
  have f1 := f0.tr a3
  obtain ⟨S2, b1, b2, b3, b4, b5⟩ := fi56_lp F hF hn hP (2 ^ n - 1) F 1 S1 (by omega) (by omega) (by omega) (hI.fr f1) a2 (fun r hr => by
    have e : r = 0 := by omega
    subst e
    rw [a4, edI, if_pos rfl])
  obtain ⟨S3, c1, c2, c3, c4, c5⟩ := ch_lp F hn hP (2 ^ n - 1) F 0 (us S2 11 13 0) (by omega) (by omega) (fun r hr => b2 r hr) rfl
  have hck := chT_ok th mi o ba pe li (2 ^ n - 1)
  rw [← hc] at hck c2
  have hcl : c < 2 ^ n := by omega
  have hE3 : ∀ r, r < 2 ^ n → S3.1 46 r = edI th mi o ba pe li r := fun r hr => by
    rw [c4 46 (by decide)]
    exact b2 r hr
  have d1 := ll12_lp F hn hP hcl hck.2 hN hN0 hN1 N F 0 (us S3 11 14 0) (by omega) (by omega) (fun r hr => hE3 r hr) rfl
  have hD3 : DS S3 th mi o li (2 ^ n) := fun r x y => by
    rw [c4 43 (by decide), c4 44 (by decide), c4 45 (by decide)]
    exact b3 r x y
  obtain ⟨S4, e1, e2, e3, e4⟩ := ll58_lp F hn hP hcl hck.2 hN hN0 hN1 N F 0 (us (us S3 11 14 0) 11 14 (nI N)) (by omega) (by omega) (fun r hr => hE3 r hr) (fun r x y => hD3 r x y) (fun i hi => by omega)
  have f5 : frPC S S4 := f1.tr (b4.tr ((frPC_11 S2 13 0 (Or.inl rfl)).tr (c3.tr ((frPC_11 S3 14 0 (Or.inr (Or.inl rfl))).tr ((frPC_11 _ 14 (nI N) (Or.inr (Or.inl rfl))).tr e3)))))
  refine ⟨S4, ?_, ?_, ?_, ?_, fun r hr => by rw [e4 46 (by decide) (by decide)]; exact hE3 r hr, e2, f5⟩
  · unfold fX6_find
    rw [if_neg hs]
    show fX6_find_28 F F (us S 11 15 0) (jmin ((1 : Int32) <<< ((us S 11 15 0).1 11 8 &&& 31)) 1024) 0 = _
    rw [show (us S 11 15 0).1 11 8 = nI n from hI.1, shl_n n hn, show (1024 : Int32) = nI 1024 from rfl, jmin_nI (by omega) (by omega), Nat.min_eq_left (by omega)]
    rw [show fX6_find_28 F F (us S 11 15 0) (nI (2 ^ n)) 0 = _ from a1]
    rw [show fX6_find_56 F F S1 (nI (2 ^ n)) 1 = _ from b1]
    have ec : fX6_choose F S2 (nI (2 ^ n)) = some (0, S3) := c1
    rw [ec]
    show (fX6_listLoads F S3).bind _ = _
    have el : fX6_listLoads F S3 = some (0, S4) := by
      show fX6_listLoads_12 F F (us S3 11 14 0) (S3.1 11 13) 0 = _
      rw [c2]
      refine Eq.trans d1 ?_
      show fX6_listLoads_58 F F (us (us S3 11 14 0) 11 14 (nI N)) (S3.1 11 13) (nI N - 1) = _
      rw [c2]
      exact e1
    rw [el]
    rfl
  · rw [e4 11 (by decide) (by decide)]
    exact c2
  · rw [e4 11 (by decide) (by decide)]
    rfl
  · rw [e4 11 (by decide) (by decide)]
    show S3.1 11 15 = 0
    rw [c5 15 (by decide)]
    show S2.1 11 15 = 0
    rw [b5 11 (by decide), a5]
    rfl
end PRESSE
