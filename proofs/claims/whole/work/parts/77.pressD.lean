section PRESSD
variable {n : Nat} {th mi : Nat → Nat} {o ba pe li : Nat}
noncomputable def edI (th mi : Nat → Nat) (o ba pe li s : Nat) : Int32 := if s = 0 then 0 else if outT th mi o ba pe li s = 1000000000 then -1 else nI (outT th mi o ba pe li s * 1024 + lstT th mi o ba pe li s)
theorem m1_ne {k : Nat} (h : k < 2147483648) : ¬ nI k = -1 := fun e => by
  have h1 : (nI k).toInt = (-1 : Int32).toInt := by rw [e]
  rw [i_lit h] at h1
  have : (-1 : Int32).toInt = -1 := by decide
  omega
theorem lst_lt (s : Nat) : lstT th mi o ba pe li s < 1024 := Nat.mod_lt _ (by omega)
theorem edI_ok (hP : PH th mi o ba pe li) {s : Nat} (hs : s < 1024) (h : outT th mi o ba pe li s ≠ 1000000000) : ¬ edI th mi o ba pe li s = -1 ∧ edI th mi o ba pe li s / 1024 = nI (outT th mi o ba pe li s) ∧ (0 < s → edI th mi o ba pe li s - edI th mi o ba pe li s / 1024 * 1024 = nI (lstT th mi o ba pe li s)) := by
  unfold edI
  by_cases e : s = 0
  · rw [if_pos e]
    subst e
    rw [outT_0]
    exact ⟨by decide, by decide, fun h => by omega⟩
  · have hb := out_bd th mi o ba pe li hP hs
    have hl := lst_lt (th := th) (mi := mi) (o := o) (ba := ba) (pe := pe) (li := li) s
    have e1 : (outT th mi o ba pe li s * 1024 + lstT th mi o ba pe li s) / 1024 = outT th mi o ba pe li s := by omega
    have e2 : (outT th mi o ba pe li s * 1024 + lstT th mi o ba pe li s) % 1024 = lstT th mi o ba pe li s := by omega
    rw [if_neg e, if_neg h, show (1024 : Int32) = nI 1024 from rfl, pk_rem (by omega) (by omega) (by omega), pk_div (by omega) (by omega) (by omega), e1, e2]
    exact ⟨m1_ne (by omega), rfl, fun _ => rfl⟩
theorem edI_no {s : Nat} (h : outT th mi o ba pe li s = 1000000000) : edI th mi o ba pe li s = -1 := by
  unfold edI
  by_cases e : s = 0
  · subst e
    rw [outT_0] at h
    omega
  · rw [if_neg e, if_pos h]
theorem oOf_eq (F : Nat) (hP : PH th mi o ba pe li) (S : ST) {s : Nat} (hs : s < 1024) (hE : S.1 46 s = edI th mi o ba pe li s) : fX6_outOf F S (nI s) = some (if outT th mi o ba pe li s = 1000000000 then -1 else nI (outT th mi o ba pe li s), S) := by
  unfold fX6_outOf
  rw [if_neg (nI_pos (by omega)), if_neg (c := (1024 : Int32) ≤ nI s) (nI_ge (b := 1024) (by omega) (by omega)), if_pos (vin_nI hs (by omega)), ix_nI (by omega), hE]
  by_cases e : outT th mi o ba pe li s = 1000000000
  · rw [if_pos (edI_no e), if_pos e]
  · obtain ⟨a, b, _⟩ := edI_ok hP hs e
    rw [if_neg a, if_pos (vin_nI hs (by omega)), b, if_neg e]
theorem oW_eq (F : Nat) (hn : n ≤ 10) (hP : PH th mi o ba pe li) (S : ST) (hI : IC S n th mi o ba pe li) (hD : DS S th mi o li (2 ^ n)) {s p : Nat} (hs : s < 2 ^ n) (hp : sub p s) (h0 : 0 < p) (hE : S.1 46 (s - p) = edI th mi o ba pe li (s - p)) : fX6_outWith F S (nI p) (nI (s - p)) = some (if obT th mi o ba pe li (outT th mi o ba pe li) s p = 1000000000 then -1 else nI (obT th mi o ba pe li (outT th mi o ba pe li) s p), S) := by
  have h10 : 2 ^ n ≤ 2 ^ 10 := Nat.pow_le_pow_right (by omega) hn
  have hle := sub_le hp
  have hvp : vin (nI p) 1024 = true := vin_nI (by omega) (by omega)
  have hvr : vin (nI (s - p)) 1024 = true := vin_nI (by omega) (by omega)
  obtain ⟨d1, d2, d3⟩ := hD p h0 (by omega)
  have hmx := mx_bd th mi o ba pe li hP (p := p) 10
  have hmn := mn_bd th mi o ba pe li hP 10 (bit_ex (p := p) (by omega) h0)
  have htk := tk_pos hP (r := p) (by omega) h0
  have htb := tk_bd th mi o ba pe li hP (p := p) 10
  have hli := hP.2.2.2.1
  have hlb := ltI_bd hP p
  unfold fX6_outWith
  rw [if_neg (nI_pos (by omega)), if_neg (c := (1024 : Int32) ≤ nI p) (nI_ge (b := 1024) (by omega) (by omega)), if_neg (nI_pos (by omega)), if_pos (c := nI (s - p) < 1024) (nI_lt (b := 1024) (by omega) (by omega)), if_pos hvp, ix_nI (by omega), ix_nI (by omega), d3, hE]
  by_cases e : vld th mi o li p
  · have e1 : ltI th mi o li p = tkB th p 10 := by unfold ltI; rw [if_pos e]
    rw [if_neg (by rw [e1]; exact nI_ne0 htk (by omega)), if_pos hvr]
    by_cases g : outT th mi o ba pe li (s - p) = 1000000000
    · have e2 : obT th mi o ba pe li (outT th mi o ba pe li) s p = 1000000000 := by unfold obT; rw [if_neg (fun h => h.1 g)]
      rw [if_pos (edI_no g), if_pos e2]
    · obtain ⟨a, b, _⟩ := edI_ok hP (s := s - p) (by omega) g
      have hob := out_bd th mi o ba pe li hP (s := s - p) (by omega)
      rw [if_neg a, if_pos hvr, b]
      show (if vin (nI p) 1024 = true then _ else _) = _
      rw [if_pos hvp, d2, d1]
      by_cases k : outT th mi o ba pe li (s - p) ≤ mnB mi p 10 + li
      · have e2 : obT th mi o ba pe li (outT th mi o ba pe li) s p = max (outT th mi o ba pe li (s - p)) (mxB mi p 10) + ba + pe * tkB th p 10 := by unfold obT; rw [if_pos ⟨g, e, k⟩]
        have hbd := ob_bd th mi o ba pe li hP (T := outT th mi o ba pe li) (s := s) (p := p) (by omega) h0
        have hpe := hP.2.2.1
        have hba := hP.2.1
        have hm : pe * tkB th p 10 ≤ 10 * 500 := Nat.mul_le_mul hpe htb
        rw [if_pos (nI_le k (by omega)), if_pos hvp, if_pos hvp, hI.2.2.1, hI.2.2.2.1, jmax_nI (by omega) (by omega), e1, pk_mul, nI_add, nI_add, if_neg (by omega), e2]
      · have e2 : obT th mi o ba pe li (outT th mi o ba pe li) s p = 1000000000 := by unfold obT; rw [if_neg (fun h => k h.2.2)]
        rw [if_neg (nI_ge (by omega) (by omega)), if_pos e2]
  · have e1 : ltI th mi o li p = 0 := by unfold ltI; rw [if_neg e]
    have e2 : obT th mi o ba pe li (outT th mi o ba pe li) s p = 1000000000 := by unfold obT; rw [if_neg (fun h => e h.2.1)]
    rw [if_pos (by rw [e1]; rfl), if_pos e2]
def eN (w : Nat) : Int32 := if w = 1000000000 then -1 else nI w
theorem mc_up2 {T : Nat → Nat} {s p q : Nat} (hq : sub q s) (hpq : p < q) (hg : ∀ r, p < r → r < q → ¬ sub r s) : mcT th mi o ba pe li T s q = min (mcT th mi o ba pe li T s p) (coT th mi o ba pe li T s q) := by
  obtain ⟨k, rfl⟩ : ∃ k, q = k + 1 := ⟨q - 1, by omega⟩
  rw [mcT, if_pos hq, gap_mc th mi o ba pe li (T := T) (s := s) (q := p) (p := k) (by omega) (fun r h1 h2 => hg r h1 (by omega))]
theorem fe_lp (F : Nat) (hn : n ≤ 10) (hP : PH th mi o ba pe li) (S : ST) (hI : IC S n th mi o ba pe li) (hD : DS S th mi o li (2 ^ n)) {s : Nat} (hs : s < 2 ^ n) (h0 : 0 < s) (hE : ∀ r, r < s → S.1 46 r = edI th mi o ba pe li r) : ∀ (d f c k : Nat), k + d = 2 ^ cntN 10 s → d < f → sub c s → rkN 10 s c = d → fX6_findEnding_15 F f S (nI s) (eN (mcT th mi o ba pe li (outT th mi o ba pe li) s (s - c))) (nI (2 ^ cntN 10 s)) (nI (s - c)) (nI k) = some (edI th mi o ba pe li s, S)
  | 0, f + 1, c, k, h1, h2, h3, h4 => by
    have h10 : 2 ^ n ≤ 2 ^ 10 := Nat.pow_le_pow_right (by omega) hn
    have hcnt : 2 ^ cntN 10 s ≤ 2 ^ 10 := Nat.pow_le_pow_right (by omega) (cnt_le 10 s)
    have hc0 : c = 0 := by
      apply Classical.byContradiction
      intro hn0
      have := rk_pos 10 (p := c) (s := s) (by omega) h3 (by omega)
      omega
    subst hc0
    rw [fX6_findEnding_15, if_pos (nI_le (by omega) (by omega)), Nat.sub_zero]
    congr 2
    have hmm := mc_mo th mi o ba pe li hP (T := outT th mi o ba pe li) (s := s) s (by omega)
    rw [← outT_eq th mi o ba pe li h0] at hmm
    unfold eN edI
    rw [if_neg (show ¬ s = 0 by omega)]
    by_cases e : outT th mi o ba pe li s = 1000000000
    · rw [if_pos (by omega), if_pos e]
    · obtain ⟨_, _, _, _, l5⟩ := lst_ok th mi o ba pe li hP (s := s) (by omega) h0 e
      rw [if_neg (by omega), if_neg e, l5]
  | d + 1, f + 1, c, k, h1, h2, h3, h4 => by
    have h10 : 2 ^ n ≤ 2 ^ 10 := Nat.pow_le_pow_right (by omega) hn
    have hcnt : 2 ^ cntN 10 s ≤ 2 ^ 10 := Nat.pow_le_pow_right (by omega) (cnt_le 10 s)
    have hz : ∀ f s, rkN f s 0 = 0 := fun f => by
      induction f with
      | zero => intro s; rfl
      | succ f ih => intro s; rw [rkN, ih]; simp
    have hc0 : 0 < c := by
      apply Classical.byContradiction
      intro hn0
      have : c = 0 := by omega
      subst this
      have := hz 10 s
      omega
    have hcle := sub_le h3
    have hrk := rk_dn 10 (p := c) (s := s) (by omega) h3 hc0
    have hdn := dn_lt (p := c) (s := s) hc0
    have hsub' : sub ((c - 1) &&& s) s := sub_and _ _
    have ih := fe_lp F hn hP S hI hD hs h0 hE d f ((c - 1) &&& s) (k + 1) (by omega) (by omega) hsub' (by omega)
    have hpart : sub (s - ((c - 1) &&& s)) s := sub_sub 10 (by omega) hsub'
    have hgap : ∀ r, s - c < r → r < s - ((c - 1) &&& s) → ¬ sub r s := fun r a b hr => by
      have hrle := sub_le hr
      have hrs := sub_sub 10 (s := s) (by omega) hr
      have := gapD 10 (p := c) (s := s) (r := s - r) (by omega) h3 hc0 hrs (by omega)
      omega
    have hmc := mc_up2 (th := th) (mi := mi) (o := o) (ba := ba) (pe := pe) (li := li) (T := outT th mi o ba pe li) hpart (show s - c < s - ((c - 1) &&& s) by omega) hgap
    rw [hmc] at ih
    have hq0 : 0 < s - ((c - 1) &&& s) := by omega
    have how := oW_eq F hn hP S hI hD hs hpart hq0 (hE _ (by omega))
    rw [fX6_findEnding_15, if_neg (nI_ge (by omega) (by omega)), up_eq h3 hc0 (by omega)]
    show (fX6_outWith F S (nI (s - ((c - 1) &&& s))) (nI s - nI (s - ((c - 1) &&& s)))).bind _ = _
    rw [pk_sub (by omega), how]
    have hob := ob_bd th mi o ba pe li hP (T := outT th mi o ba pe li) (s := s) (p := s - ((c - 1) &&& s)) (by omega) hq0
    have hmm := mc_mo th mi o ba pe li hP (T := outT th mi o ba pe li) (s := s) (s - c) (by omega)
    generalize hw : mcT th mi o ba pe li (outT th mi o ba pe li) s (s - c) = w at *
    generalize hv : obT th mi o ba pe li (outT th mi o ba pe li) s (s - ((c - 1) &&& s)) = v at *
    generalize hq : s - ((c - 1) &&& s) = q at *
    have hco : coT th mi o ba pe li (outT th mi o ba pe li) s q = if v = 1000000000 then 1000000000 else v * 1024 + q := by
      unfold coT
      rw [hv]
    rw [hco] at ih
    have hwb : w = 1000000000 ∨ w ≤ 16487423 := by omega
    show (if (if v = 1000000000 then (-1 : Int32) else nI v) = -1 then fX6_findEnding_15 F f S (nI s) (eN w) (nI (2 ^ cntN 10 s)) (nI q) (nI k + 1) else if eN w = -1 then fX6_findEnding_65 F (fX6_findEnding_15 F f) S (nI s) (nI (2 ^ cntN 10 s)) (nI q) (nI k) (if v = 1000000000 then (-1 : Int32) else nI v) else if eN w ≤ (if v = 1000000000 then (-1 : Int32) else nI v) * 1024 + nI q then fX6_findEnding_15 F f S (nI s) (eN w) (nI (2 ^ cntN 10 s)) (nI q) (nI k + 1) else fX6_findEnding_65 F (fX6_findEnding_15 F f) S (nI s) (nI (2 ^ cntN 10 s)) (nI q) (nI k) (if v = 1000000000 then (-1 : Int32) else nI v)) = _
    by_cases e : v = 1000000000
    · rw [if_pos e] at ih
      rw [if_pos e, if_pos rfl, nI_1]
      rw [Nat.min_eq_left (by omega)] at ih
      exact ih
    · rw [if_neg e] at ih
      have ecode : nI v * 1024 + nI q = nI (v * 1024 + q) := by
        rw [show (1024 : Int32) = nI 1024 from rfl, pk_mul, nI_add]
      have h65 : fX6_findEnding_65 F (fX6_findEnding_15 F f) S (nI s) (nI (2 ^ cntN 10 s)) (nI q) (nI k) (nI v) = fX6_findEnding_15 F f S (nI s) (eN (v * 1024 + q)) (nI (2 ^ cntN 10 s)) (nI q) (nI (k + 1)) := by
        unfold fX6_findEnding_65
        rw [ecode, nI_1, eN, if_neg (by omega)]
        rfl
      rw [if_neg e, if_neg (m1_ne (by omega)), h65, ecode, nI_1]
      by_cases g : w = 1000000000
      · rw [if_pos (by rw [eN, if_pos g])]
        rw [Nat.min_eq_right (by omega)] at ih
        exact ih
      · have ew : eN w = nI w := by rw [eN, if_neg g]
        rw [if_neg (by rw [ew]; exact m1_ne (by omega))]
        by_cases t : w ≤ v * 1024 + q
        · rw [if_pos (by rw [ew]; exact nI_le t (by omega))]
          rw [Nat.min_eq_left t] at ih
          exact ih
        · rw [if_neg (by rw [ew]; exact nI_ge (by omega) (by omega))]
          rw [Nat.min_eq_right (by omega)] at ih
          exact ih
theorem shl_c : ∀ k, k ≤ 10 → (1 : Int32) <<< (nI k &&& 31) = nI (2 ^ k) := shl_n
theorem fe_eq (F : Nat) (hF : 2000 ≤ F) (hn : n ≤ 10) (hP : PH th mi o ba pe li) (S : ST) (hI : IC S n th mi o ba pe li) (hD : DS S th mi o li (2 ^ n)) {s : Nat} (hs : s < 2 ^ n) (h0 : 0 < s) (hE : ∀ r, r < s → S.1 46 r = edI th mi o ba pe li r) : fX6_findEnding F S (nI s) = some (edI th mi o ba pe li s, S) := by
  have h10 : 2 ^ n ≤ 2 ^ 10 := Nat.pow_le_pow_right (by omega) hn
  have hcnt : 2 ^ cntN 10 s ≤ 2 ^ 10 := Nat.pow_le_pow_right (by omega) (cnt_le 10 s)
  have hra := rk_all 10 s
  have h := fe_lp F hn hP S hI hD hs h0 hE (2 ^ cntN 10 s - 1) F s 1 (by omega) (by omega) (subR s) (by omega)
  rw [Nat.sub_self] at h
  unfold fX6_findEnding
  rw [bc_eq F S (by omega)]
  show fX6_findEnding_15 F F S (nI s) (-1) ((1 : Int32) <<< (nI (cntN 10 s) &&& 31)) 0 1 = _
  rw [shl_n _ (cnt_le 10 s)]
  exact h
end PRESSD
