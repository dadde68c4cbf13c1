section PRESSN
variable {n : Nat} {th mi : Nat → Nat} {o ba pe li : Nat}
theorem sk35_lp (F : Nat) (hF : 100 ≤ F) (hn : n ≤ 10) (hP : PH th mi o ba pe li) (k14 : ST → Int32 → Option (Int32 × ST)) {s : Nat} (hs : s < 2 ^ n) : ∀ (d f p cur : Nat) (S : ST), p ≤ d → d < f → IM S n th mi o ba pe li → sub p s → (∀ r, r < s → S.1 30 r = nI (outT th mi o ba pe li r)) → S.1 30 s = nI cur → cur ≤ 1000000000 → min cur (moT th mi o ba pe li (outT th mi o ba pe li) s p) = outT th mi o ba pe li s → ∃ f2 S2, fX11_seek_35 F k14 f S (nI s) (nI p) = fX11_seek_35 F k14 (f2 + 1) S2 (nI s) 0 ∧ S2.1 30 s = nI (outT th mi o ba pe li s) ∧ (∀ r, r ≠ s → S2.1 30 r = S.1 30 r) ∧ (∀ a, a ≠ 30 → S2.1 a = S.1 a) ∧ S2.2 = S.2
  | d, 0, p, cur, S, h1, h2, _, _, _, _, _, _ => by omega
  | d, f + 1, 0, cur, S, h1, h2, hI, hp, hT, hc, hc2, hm => by
    rw [moT, Nat.min_eq_left hc2] at hm
    exact ⟨f, S, rfl, by rw [hc, hm], fun _ _ => rfl, fun _ _ => rfl, rfl⟩
  | 0, f + 1, p + 1, cur, S, h1, h2, hI, hp, hT, hc, hc2, hm => by omega
  | d + 1, f + 1, p + 1, cur, S, h1, h2, hI, hp, hT, hc, hc2, hm => by
    have h10 : 2 ^ n ≤ 2 ^ 10 := Nat.pow_le_pow_right (by omega) hn
    have hle := sub_le hp
    have ho := oby_eq F hF hn hP hI hs hp (by omega) (hT _ (by omega))
    have hob := ob_bd th mi o ba pe li hP (T := outT th mi o ba pe li) (s := s) (p := p + 1) (by omega) (by omega)
    have hdn := dn_lt (p := p + 1) (s := s) (by omega)
    have hmo := mo_dn th mi o ba pe li (T := outT th mi o ba pe li) (by omega) hp (by omega)
    rw [hmo] at hm
    have hv : vin (nI s) 1024 = true := vin_nI (by omega) (by omega)
    have key : ∀ c, c ≤ 1000000000 → min c (moT th mi o ba pe li (outT th mi o ba pe li) s ((p + 1 - 1) &&& s)) = outT th mi o ba pe li s → ∃ f2 S2, fX11_seek_71 F k14 (fX11_seek_35 F k14 f) S (nI s) (nI (p + 1)) (nI c) (nI s) = fX11_seek_35 F k14 (f2 + 1) S2 (nI s) 0 ∧ S2.1 30 s = nI (outT th mi o ba pe li s) ∧ (∀ r, r ≠ s → S2.1 30 r = S.1 30 r) ∧ (∀ a, a ≠ 30 → S2.1 a = S.1 a) ∧ S2.2 = S.2 := fun c g1 g2 => by
      obtain ⟨f2, S2, e1, e2, e3, e4, e5⟩ := sk35_lp F hF hn hP k14 hs d f ((p + 1 - 1) &&& s) c (us S 30 s (nI c)) (by omega) (by omega) (hI.fr (frPM_30 S s _)) (sub_and _ _) (fun r hr => by rw [us_rd, if_pos rfl, if_neg (by omega)]; exact hT r hr) (by rw [us_rd, if_pos rfl, if_pos rfl]) g1 g2
      refine ⟨f2, S2, ?_, e2, fun r hr => by rw [e3 r hr, us_rd, if_pos rfl, if_neg hr], fun a ha => by rw [e4 a ha, us_row, if_neg ha], e5⟩
      unfold fX11_seek_71
      rw [if_pos hv, ix_nI (by omega), dn_eq (by omega) (by omega)]
      exact e1
    rw [fX11_seek_35, if_neg (show ¬ nI (p + 1) ≤ 0 from nI_nle (by omega) (by omega)), ho]
    show ∃ f2 S2, (if vin (nI s) 1024 = true then _ else _) = _ ∧ _
    rw [if_pos hv, ix_nI (by omega), hc]
    by_cases e : cur ≤ obT th mi o ba pe li (outT th mi o ba pe li) s (p + 1)
    · rw [if_pos (nI_le e (by omega)), if_pos hv]
      exact key cur hc2 (by omega)
    · rw [if_neg (nI_ge (by omega) (by omega))]
      exact key _ (by omega) (by omega)
theorem chT_step {s : Nat} : chT th mi o ba pe li (s + 1) = @ite _ (outT th mi o ba pe li (s + 1) ≠ 1000000000 ∧ (cntN 10 (chT th mi o ba pe li s) < cntN 10 (s + 1) ∨ (cntN 10 (s + 1) = cntN 10 (chT th mi o ba pe li s) ∧ outT th mi o ba pe li (s + 1) < outT th mi o ba pe li (chT th mi o ba pe li s)))) (Classical.propDecidable _) (s + 1) (chT th mi o ba pe li s) := rfl
theorem sk14_ch (F : Nat) (hF : 100 ≤ F) (hn : n ≤ 10) (hP : PH th mi o ba pe li) (k14 : ST → Int32 → Option (Int32 × ST)) {s f2 : Nat} (hs : s + 1 < 2 ^ n) (S : ST) (hT : ∀ r, r ≤ s + 1 → S.1 30 r = nI (outT th mi o ba pe li r)) (hc : S.1 0 59 = nI (chT th mi o ba pe li s)) : ∃ S2, fX11_seek_35 F k14 (f2 + 1) S (nI (s + 1)) 0 = k14 S2 (nI (s + 2)) ∧ S2.1 0 59 = nI (chT th mi o ba pe li (s + 1)) ∧ (∀ a, a ≠ 0 → S2.1 a = S.1 a) ∧ frPM S S2 := by
  have h10 : 2 ^ n ≤ 2 ^ 10 := Nat.pow_le_pow_right (by omega) hn
  have hck := chT_ok th mi o ba pe li s
  have b1 := cnt_le 10 (s + 1)
  have b2 := cnt_le 10 (chT th mi o ba pe li s)
  have o1 := out_bd th mi o ba pe li hP (s := s + 1) (by omega)
  have o2 := out_bd th mi o ba pe li hP (s := chT th mi o ba pe li s) (by omega)
  have hv : vin (nI (s + 1)) 1024 = true := vin_nI (by omega) (by omega)
  rw [fX11_seek_35, if_pos (by decide), mny_eq F hF S (by omega)]
  show ∃ S2, (fX11_many F S (S.1 0 59)).bind _ = _ ∧ _
  rw [hc, mny_eq F hF S (by omega)]
  show ∃ S2, (if vin (nI (s + 1)) 1024 = true then (if 1000000000 ≤ S.1 30 (ix (nI (s + 1))) then k14 S (nI (s + 1) + 1) else if nI (cntN 10 (chT th mi o ba pe li s)) < nI (cntN 10 (s + 1)) then fX11_seek_134 F k14 S (nI (s + 1)) else if nI (cntN 10 (s + 1)) = nI (cntN 10 (chT th mi o ba pe li s)) then (if vin (nI (s + 1)) 1024 = true then (if vin (S.1 0 59) 1024 = true then (if S.1 30 (ix (S.1 0 59)) ≤ S.1 30 (ix (nI (s + 1))) then k14 S (nI (s + 1) + 1) else fX11_seek_134 F k14 S (nI (s + 1))) else none) else none) else k14 S (nI (s + 1) + 1)) else none) = _ ∧ _
  rw [if_pos hv, if_pos hv, hc, if_pos (vin_nI (by omega) (by omega)), ix_nI (by omega), ix_nI (by omega), hT _ (Nat.le_refl _), hT _ (by omega), nI_1, chT_step]
  have skip : ¬ (outT th mi o ba pe li (s + 1) ≠ 1000000000 ∧ (cntN 10 (chT th mi o ba pe li s) < cntN 10 (s + 1) ∨ (cntN 10 (s + 1) = cntN 10 (chT th mi o ba pe li s) ∧ outT th mi o ba pe li (s + 1) < outT th mi o ba pe li (chT th mi o ba pe li s)))) → ∃ S2, k14 S (nI (s + 1 + 1)) = k14 S2 (nI (s + 2)) ∧ S2.1 0 59 = nI (@ite _ (outT th mi o ba pe li (s + 1) ≠ 1000000000 ∧ (cntN 10 (chT th mi o ba pe li s) < cntN 10 (s + 1) ∨ (cntN 10 (s + 1) = cntN 10 (chT th mi o ba pe li s) ∧ outT th mi o ba pe li (s + 1) < outT th mi o ba pe li (chT th mi o ba pe li s)))) (Classical.propDecidable _) (s + 1) (chT th mi o ba pe li s)) ∧ (∀ a, a ≠ 0 → S2.1 a = S.1 a) ∧ frPM S S2 := fun h => by
    rw [if_neg h]
    exact ⟨S, rfl, hc, fun _ _ => rfl, frPM_refl S⟩
  have take : (outT th mi o ba pe li (s + 1) ≠ 1000000000 ∧ (cntN 10 (chT th mi o ba pe li s) < cntN 10 (s + 1) ∨ (cntN 10 (s + 1) = cntN 10 (chT th mi o ba pe li s) ∧ outT th mi o ba pe li (s + 1) < outT th mi o ba pe li (chT th mi o ba pe li s)))) → ∃ S2, fX11_seek_134 F k14 S (nI (s + 1)) = k14 S2 (nI (s + 2)) ∧ S2.1 0 59 = nI (@ite _ (outT th mi o ba pe li (s + 1) ≠ 1000000000 ∧ (cntN 10 (chT th mi o ba pe li s) < cntN 10 (s + 1) ∨ (cntN 10 (s + 1) = cntN 10 (chT th mi o ba pe li s) ∧ outT th mi o ba pe li (s + 1) < outT th mi o ba pe li (chT th mi o ba pe li s)))) (Classical.propDecidable _) (s + 1) (chT th mi o ba pe li s)) ∧ (∀ a, a ≠ 0 → S2.1 a = S.1 a) ∧ frPM S S2 := fun h => by
    rw [if_pos h]
    refine ⟨us S 0 59 (nI (s + 1)), ?_, rfl, fun a ha => by rw [us_row, if_neg ha], frPM_59 S _⟩
    show k14 (us S 0 59 (nI (s + 1))) (nI (s + 1) + 1) = _
    rw [nI_1]
  by_cases c1 : outT th mi o ba pe li (s + 1) = 1000000000
  · rw [if_pos (show (1000000000 : Int32) ≤ nI _ from nI_le (a := 1000000000) (by omega) (by omega))]
    exact skip (fun h => h.1 c1)
  · rw [if_neg (show ¬ (1000000000 : Int32) ≤ nI _ from nI_ge (b := 1000000000) (by omega) (by omega))]
    by_cases c2 : cntN 10 (chT th mi o ba pe li s) < cntN 10 (s + 1)
    · rw [if_pos (nI_lt c2 (by omega))]
      exact take ⟨c1, Or.inl c2⟩
    · rw [if_neg (nI_nlt (by omega) (by omega))]
      by_cases c3 : cntN 10 (s + 1) = cntN 10 (chT th mi o ba pe li s)
      · rw [if_pos (by rw [c3])]
        by_cases c4 : outT th mi o ba pe li (s + 1) < outT th mi o ba pe li (chT th mi o ba pe li s)
        · rw [if_neg (nI_ge c4 (by omega))]
          exact take ⟨c1, Or.inr ⟨c3, c4⟩⟩
        · rw [if_pos (nI_le (by omega) (by omega))]
          exact skip (by omega)
      · rw [if_neg (by rw [nI_eq (by omega) (by omega)]; exact c3)]
        exact skip (by omega)
theorem shl_n : ∀ n, n ≤ 10 → (1 : Int32) <<< (nI n &&& 31) = nI (2 ^ n) := by decide +kernel
theorem sk14_lp (F : Nat) (hF : 2000 ≤ F) (hn : n ≤ 10) (hP : PH th mi o ba pe li) : ∀ (d f s : Nat) (S : ST), s + 1 + d = 2 ^ n → d < f → IM S n th mi o ba pe li → (∀ r, r ≤ s → S.1 30 r = nI (outT th mi o ba pe li r)) → S.1 0 59 = nI (chT th mi o ba pe li s) → ∃ S2, fX11_seek_14 F f S (nI (s + 1)) = fX11_seek_155 F F (us S2 0 60 0) (nI (chT th mi o ba pe li (2 ^ n - 1))) ∧ S2.1 0 59 = nI (chT th mi o ba pe li (2 ^ n - 1)) ∧ (∀ r, r < 2 ^ n → S2.1 30 r = nI (outT th mi o ba pe li r)) ∧ frPM S S2
  | 0, f + 1, s, S, h1, h2, hI, hT, hc => by
    have h10 : 2 ^ n ≤ 2 ^ 10 := Nat.pow_le_pow_right (by omega) hn
    refine ⟨S, ?_, ?_, fun r hr => hT r (by omega), frPM_refl S⟩
    · rw [fX11_seek_14, hI.1, shl_n n hn, if_pos (nI_le (by omega) (by omega))]
      show fX11_seek_155 F F (us S 0 60 0) (S.1 0 59) = _
      rw [hc, show 2 ^ n - 1 = s by omega]
    · rw [hc, show 2 ^ n - 1 = s by omega]
  | d + 1, f + 1, s, S, h1, h2, hI, hT, hc => by
    have h10 : 2 ^ n ≤ 2 ^ 10 := Nat.pow_le_pow_right (by omega) hn
    have hs : s + 1 < 2 ^ n := by omega
    rw [fX11_seek_14, hI.1, shl_n n hn, if_neg (nI_ge (by omega) (by omega)), if_pos (vin_nI (by omega) (by omega)), ix_nI (by omega)]
    have hmo : min 1000000000 (moT th mi o ba pe li (outT th mi o ba pe li) (s + 1) (s + 1)) = outT th mi o ba pe li (s + 1) := by
      rw [← outT_eq th mi o ba pe li (by omega)]
      have := out_bd th mi o ba pe li hP (s := s + 1) (by omega)
      omega
    have hI2 := hI.fr (frPM_30 S (s + 1) 1000000000)
    obtain ⟨f2, S2, e1, e2, e3, e4, e5⟩ := sk35_lp F (by omega) hn hP (fX11_seek_14 F f) hs (s + 1) F (s + 1) 1000000000 (us S 30 (s + 1) 1000000000) (Nat.le_refl _) (by omega) hI2 (subR _) (fun r hr => by rw [us_rd, if_pos rfl, if_neg (by omega)]; exact hT r (by omega)) (by rw [us_rd, if_pos rfl, if_pos rfl]; rfl) (Nat.le_refl _) hmo
    have hfr : frPM S S2 := ⟨fun a _ h _ _ => by rw [e4 a h, us_row, if_neg h], fun j _ _ => by rw [e4 0 (by decide)]; rfl, e5⟩
    have hT2 : ∀ r, r ≤ s + 1 → S2.1 30 r = nI (outT th mi o ba pe li r) := fun r hr => by
      by_cases e : r = s + 1
      · rw [e]; exact e2
      · rw [e3 r e, us_rd, if_pos rfl, if_neg e]
        exact hT r (by omega)
    obtain ⟨S3, g1, g2, g3, g4⟩ := sk14_ch F (by omega) hn hP (fX11_seek_14 F f) (f2 := f2) hs S2 hT2 (by rw [e4 0 (by decide)]; exact hc)
    have hfr2 := hfr.tr g4
    obtain ⟨S4, k1, k2, k3, k4⟩ := sk14_lp F hF hn hP d f (s + 1) S3 (by omega) (by omega) (hI.fr hfr2) (fun r hr => by rw [g3 30 (by decide)]; exact hT2 r hr) g2
    refine ⟨S4, ?_, k2, k3, hfr2.tr k4⟩
    show fX11_seek_35 F (fX11_seek_14 F f) F (us S 30 (s + 1) 1000000000) (nI (s + 1)) (nI (s + 1)) = _
    rw [e1, g1]
    exact k1
theorem sk161_lp (F : Nat) (hF : 2000 ≤ F) (hn : n ≤ 10) (hP : PH th mi o ba pe li) (k155 : ST → Int32 → Option (Int32 × ST)) {s k : Nat} (hs : s < 2 ^ n) (h0 : 0 < s) (hf : outT th mi o ba pe li s ≠ 1000000000) (hk : k < 10) (S : ST) (hI : IM S n th mi o ba pe li) (hT : ∀ r, r < 2 ^ n → S.1 30 r = nI (outT th mi o ba pe li r)) (h60 : S.1 0 60 = nI k) : ∀ (d f q : Nat), q + d = lstT th mi o ba pe li s → 0 < q → d < f → fX11_seek_161 F k155 f S (nI s) (nI q) = k155 (us (us (us S 31 k (nI (lstT th mi o ba pe li s))) 32 k (nI (max (outT th mi o ba pe li (s - lstT th mi o ba pe li s)) (mxB mi (lstT th mi o ba pe li s) 10)))) 0 60 (nI (k + 1))) (nI (s - lstT th mi o ba pe li s))
  | 0, f + 1, q, h1, h2, h3 => by
    have h10 : 2 ^ n ≤ 2 ^ 10 := Nat.pow_le_pow_right (by omega) hn
    obtain ⟨l1, l2, l3, l4, l5⟩ := lst_ok th mi o ba pe li hP (s := s) (by omega) h0 hf
    obtain ⟨m1, m2, m3⟩ := lst_rest th mi o ba pe li hP (s := s) (by omega) h0 hf
    have hle := sub_le l2
    have e : q = lstT th mi o ba pe li s := by omega
    rw [e]
    have ho := oby_eq F (by omega) hn hP hI hs l2 l1 (hT _ (by omega))
    have hv : vin (nI s) 1024 = true := vin_nI (by omega) (by omega)
    have hvk : vin (nI k) 10 = true := vin_nI hk (by omega)
    have hob := out_bd th mi o ba pe li hP (s := s - lstT th mi o ba pe li s) (by omega)
    have hpi := pin_eq F (by omega) hn hP (hI.fr (frPM_31 S k (nI (lstT th mi o ba pe li s)))) (p := lstT th mi o ba pe li s) (by omega) l1 (fr := outT th mi o ba pe li (s - lstT th mi o ba pe li s)) (by omega)
    rw [fX11_seek_161, if_pos ((mask_ck (by omega) (by omega)).mpr l2), ho]
    show (if vin (nI s) 1024 = true then _ else _) = _
    rw [if_pos hv, ix_nI (by omega), hT s hs, l3, if_pos rfl, h60, if_pos hvk, ix_nI (by omega), cmS_eq l2 (by omega)]
    show (if vin (nI (s - lstT th mi o ba pe li s)) 1024 = true then (fX11_putIn F (us S 31 k (nI (lstT th mi o ba pe li s))) (nI (lstT th mi o ba pe li s)) (S.1 30 (ix (nI (s - lstT th mi o ba pe li s))))).bind _ else none) = _
    rw [if_pos (vin_nI (by omega) (by omega)), ix_nI (by omega), hT _ (by omega), hpi, if_pos ⟨m2, m3⟩]
    show (if vin (S.1 0 60) 10 = true then k155 (us (us (us S 31 k (nI (lstT th mi o ba pe li s))) 32 (ix (S.1 0 60)) _) 0 60 (S.1 0 60 + 1)) _ else none) = _
    rw [h60, if_pos hvk, ix_nI (by omega), nI_1]
  | d + 1, f + 1, q, h1, h2, h3 => by
    have h10 : 2 ^ n ≤ 2 ^ 10 := Nat.pow_le_pow_right (by omega) hn
    obtain ⟨l1, l2, l3, l4, l5⟩ := lst_ok th mi o ba pe li hP (s := s) (by omega) h0 hf
    have hle := sub_le l2
    have ih := sk161_lp F hF hn hP k155 hs h0 hf hk S hI hT h60 d f (q + 1) (by omega) (by omega) (by omega)
    rw [fX11_seek_161]
    by_cases e : sub q s
    · have ho := oby_eq F (by omega) hn hP hI hs e h2 (hT _ (by omega))
      have hob := ob_bd th mi o ba pe li hP (T := outT th mi o ba pe li) (s := s) (p := q) (by omega) h2
      have hob2 := out_bd th mi o ba pe li hP (s := s) (by omega)
      rw [if_pos ((mask_ck (by omega) (by omega)).mpr e), ho]
      show (if vin (nI s) 1024 = true then _ else _) = _
      rw [if_pos (vin_nI (by omega) (by omega)), ix_nI (by omega), hT s hs, if_neg (fun h => l4 q h2 (by omega) e ((nI_eq (by omega) (by omega)).mp h)), nI_1]
      exact ih
    · rw [if_neg (fun h => e ((mask_ck (by omega) (by omega)).mp h)), nI_1]
      exact ih
def LdM (S : ST) (th mi : Nat → Nat) (o ba pe li c k : Nat) : Prop := ∀ i, i < k → S.1 31 i = nI (lstT th mi o ba pe li (chnT th mi o ba pe li c i)) ∧ S.1 32 i = nI (max (outT th mi o ba pe li (chnT th mi o ba pe li c (i + 1))) (mxB mi (lstT th mi o ba pe li (chnT th mi o ba pe li c i)) 10))
theorem sk155_lp (F : Nat) (hF : 2000 ≤ F) (hn : n ≤ 10) (hP : PH th mi o ba pe li) {c N : Nat} (hc : c < 2 ^ n) (hcf : outT th mi o ba pe li c ≠ 1000000000) (hN : N ≤ 10) (hN0 : chnT th mi o ba pe li c N = 0) (hN1 : ∀ k, k < N → 0 < chnT th mi o ba pe li c k) : ∀ (d f k : Nat) (S : ST), k + d = N → d < f → IM S n th mi o ba pe li → (∀ r, r < 2 ^ n → S.1 30 r = nI (outT th mi o ba pe li r)) → S.1 0 60 = nI k → S.1 0 59 = nI c → LdM S th mi o ba pe li c k → ∃ S2, fX11_seek_155 F f S (nI (chnT th mi o ba pe li c k)) = some (0, S2) ∧ S2.1 0 60 = nI N ∧ S2.1 0 59 = nI c ∧ (∀ r, r < 2 ^ n → S2.1 30 r = nI (outT th mi o ba pe li r)) ∧ LdM S2 th mi o ba pe li c N ∧ frPM S S2
  | 0, f + 1, k, S, h1, h2, hI, hT, h60, h59, hL => by
    have e : k = N := by omega
    subst e
    refine ⟨S, ?_, h60, h59, hT, hL, frPM_refl S⟩
    rw [fX11_seek_155, hN0, if_pos (by decide)]
  | d + 1, f + 1, k, S, h1, h2, hI, hT, h60, h59, hL => by
    have h10 : 2 ^ n ≤ 2 ^ 10 := Nat.pow_le_pow_right (by omega) hn
    obtain ⟨c1, c2, _⟩ := chn_ok th mi o ba pe li hP (c := c) (by omega) hcf k
    have hle : ∀ k, chnT th mi o ba pe li c k ≤ c := fun k => by
      induction k with
      | zero => exact Nat.le_refl _
      | succ k ih => rw [chnT]; split <;> omega
    have hk0 := hN1 k (by omega)
    have hkn : chnT th mi o ba pe li c k < 2 ^ n := by have := hle k; omega
    obtain ⟨l1, l2, _⟩ := lst_ok th mi o ba pe li hP c1 hk0 c2
    have e1 : chnT th mi o ba pe li c (k + 1) = chnT th mi o ba pe li c k - lstT th mi o ba pe li (chnT th mi o ba pe li c k) := by
      rw [chnT, if_neg (by omega)]
    have hll := sub_le l2
    have g := sk161_lp F hF hn hP (fX11_seek_155 F f) hkn hk0 c2 (show k < 10 by omega) S hI hT h60 (lstT th mi o ba pe li (chnT th mi o ba pe li c k) - 1) F 1 (by omega) (by omega) (by omega)
    rw [fX11_seek_155, if_neg (nI_nle hk0 (by omega))]
    rw [show fX11_seek_161 F (fX11_seek_155 F f) F S (nI (chnT th mi o ba pe li c k)) 1 = _ from g, ← e1]
    have hfr : frPM S (us (us (us S 31 k (nI (lstT th mi o ba pe li (chnT th mi o ba pe li c k)))) 32 k (nI (max (outT th mi o ba pe li (chnT th mi o ba pe li c (k + 1))) (mxB mi (lstT th mi o ba pe li (chnT th mi o ba pe li c k)) 10)))) 0 60 (nI (k + 1))) := (frPM_31 S _ _).tr ((frPM_32 _ _ _).tr (frPM_60 _ _))
    obtain ⟨S2, q1, q2, q3, q4, q5, q6⟩ := sk155_lp F hF hn hP hc hcf hN hN0 hN1 d f (k + 1) _ (by omega) (by omega) (hI.fr hfr) (fun r hr => hT r hr) rfl h59 (fun i hi => by
      rw [us_rd, us_rd, us_rd, us_rd, us_rd, us_rd]
      by_cases e : i = k
      · subst e
        simp
      · have := hL i (by omega)
        simp [e]
        exact this)
    exact ⟨S2, q1, q2, q3, q4, q5, hfr.tr q6⟩
theorem seekP_eq (F : Nat) (hF : 2000 ≤ F) (hn : n ≤ 10) (hP : PH th mi o ba pe li) (S : ST) (hI : IM S n th mi o ba pe li) : ∃ S2 c N, c = chT th mi o ba pe li (2 ^ n - 1) ∧ N ≤ 10 ∧ chnT th mi o ba pe li c N = 0 ∧ (∀ k, k < N → 0 < chnT th mi o ba pe li c k) ∧ fX11_seek F S = some (0, S2) ∧ S2.1 0 60 = nI N ∧ S2.1 0 59 = nI c ∧ (∀ r, r < 2 ^ n → S2.1 30 r = nI (outT th mi o ba pe li r)) ∧ LdM S2 th mi o ba pe li c N ∧ frPM S S2 := by
  have h10 : 2 ^ n ≤ 2 ^ 10 := Nat.pow_le_pow_right (by omega) hn
  have hpos : 0 < 2 ^ n := Nat.pow_pos (by omega)
  have hfr0 : frPM S (us (us S 0 59 0) 30 0 0) := (frPM_59 S _).tr (frPM_30 _ _ _)
  obtain ⟨S1, e1, e2, e3, e4⟩ := sk14_lp F hF hn hP (2 ^ n - 1) F 0 (us (us S 0 59 0) 30 0 0) (by omega) (by omega) (hI.fr hfr0) (fun r hr => by
    have e : r = 0 := by omega
    subst e
    rfl) rfl
  have hck := chT_ok th mi o ba pe li (2 ^ n - 1)
  obtain ⟨N, n1, n2, n3⟩ := chn_end th mi o ba pe li hP (c := chT th mi o ba pe li (2 ^ n - 1)) (by omega) hck.2
  have hfr1 := hfr0.tr (e4.tr (frPM_60 S1 0))
  obtain ⟨S2, q1, q2, q3, q4, q5, q6⟩ := sk155_lp F hF hn hP (show chT th mi o ba pe li (2 ^ n - 1) < 2 ^ n by omega) hck.2 n1 n2 n3 N F 0 (us S1 0 60 0) (by omega) (by omega) (hI.fr hfr1) (fun r hr => e3 r hr) rfl e2 (fun i hi => by omega)
  refine ⟨S2, _, N, rfl, n1, n2, n3, ?_, q2, q3, q4, q5, hfr1.tr q6⟩
  show fX11_seek_14 F F (us (us S 0 59 0) 30 0 0) (nI 1) = _
  rw [e1]
  exact q1
end PRESSN
