section PRESSM
variable {n : Nat} {th mi : Nat → Nat} {o ba pe li : Nat}
def IM (S : ST) (n : Nat) (th mi : Nat → Nat) (o ba pe li : Nat) : Prop := S.1 0 53 = nI n ∧ S.1 0 49 = nI o ∧ S.1 0 50 = nI ba ∧ S.1 0 51 = nI pe ∧ S.1 0 52 = nI li ∧ ∀ i, i < n → S.1 28 i = nI (th i) ∧ S.1 29 i = nI (mi i)
def frPM (S S2 : ST) : Prop := (∀ a, a ≠ 0 → a ≠ 30 → a ≠ 31 → a ≠ 32 → S2.1 a = S.1 a) ∧ (∀ s, s ≠ 59 → s ≠ 60 → S2.1 0 s = S.1 0 s) ∧ S2.2 = S.2
theorem frPM_refl (S : ST) : frPM S S := ⟨fun _ _ _ _ _ => rfl, fun _ _ _ => rfl, rfl⟩
theorem frPM.tr {S S2 S3 : ST} (h : frPM S S2) (g : frPM S2 S3) : frPM S S3 := ⟨fun a h1 h2 h3 h4 => (g.1 a h1 h2 h3 h4).trans (h.1 a h1 h2 h3 h4), fun s h1 h2 => (g.2.1 s h1 h2).trans (h.2.1 s h1 h2), g.2.2.trans h.2.2⟩
theorem IM.fr {S S2 : ST} (h : IM S n th mi o ba pe li) (g : frPM S S2) : IM S2 n th mi o ba pe li := by
  unfold IM at *
  rw [g.2.1 53 (by decide) (by decide), g.2.1 49 (by decide) (by decide), g.2.1 50 (by decide) (by decide), g.2.1 51 (by decide) (by decide), g.2.1 52 (by decide) (by decide), g.1 28 (by decide) (by decide) (by decide) (by decide), g.1 29 (by decide) (by decide) (by decide) (by decide)]
  exact h
theorem frPM_30 (S : ST) (j : Nat) (v : Int32) : frPM S (us S 30 j v) := ⟨fun a _ h2 _ _ => by simp [us_row, h2], fun s _ _ => by simp [us_rd], rfl⟩
theorem frPM_31 (S : ST) (j : Nat) (v : Int32) : frPM S (us S 31 j v) := ⟨fun a _ _ h2 _ => by simp [us_row, h2], fun s _ _ => by simp [us_rd], rfl⟩
theorem frPM_32 (S : ST) (j : Nat) (v : Int32) : frPM S (us S 32 j v) := ⟨fun a _ _ _ h2 => by simp [us_row, h2], fun s _ _ => by simp [us_rd], rfl⟩
theorem frPM_59 (S : ST) (v : Int32) : frPM S (us S 0 59 v) := ⟨fun a h2 _ _ _ => by simp [us_row, h2], fun s h1 _ => by simp [us_rd, h1], rfl⟩
theorem frPM_60 (S : ST) (v : Int32) : frPM S (us S 0 60 v) := ⟨fun a h2 _ _ _ => by simp [us_row, h2], fun s _ h1 => by simp [us_rd, h1], rfl⟩
theorem tb_hi {s k : Nat} (h : s < 2 ^ n) (hk : n ≤ k) : s.testBit k = false := by
  apply Nat.testBit_lt_two_pow
  have : 2 ^ n ≤ 2 ^ k := Nat.pow_le_pow_right (by omega) hk
  omega
theorem mnB_n {s : Nat} (h : s < 2 ^ n) : ∀ d, mnB mi s (n + d) = mnB mi s n
  | 0 => rfl
  | d + 1 => by
    show (if s.testBit (n + d) then _ else mnB mi s (n + d)) = _
    rw [tb_hi h (by omega)]
    exact mnB_n h d
theorem mxB_n {s : Nat} (h : s < 2 ^ n) : ∀ d, mxB mi s (n + d) = mxB mi s n
  | 0 => rfl
  | d + 1 => by
    show (if s.testBit (n + d) then _ else mxB mi s (n + d)) = _
    rw [tb_hi h (by omega)]
    exact mxB_n h d
theorem tkB_n {s : Nat} (h : s < 2 ^ n) : ∀ d, tkB th s (n + d) = tkB th s n
  | 0 => rfl
  | d + 1 => by
    show (if s.testBit (n + d) then _ else tkB th s (n + d)) = _
    rw [tb_hi h (by omega)]
    exact tkB_n h d
theorem akB_n {s : Nat} (h : s < 2 ^ n) : ∀ d, akB th s (n + d) = akB th s n
  | 0 => rfl
  | d + 1 => by
    show (if s.testBit (n + d) then _ else akB th s (n + d)) = _
    rw [tb_hi h (by omega)]
    exact akB_n h d
theorem to10 {s : Nat} (hn : n ≤ 10) (h : s < 2 ^ n) : mnB mi s 10 = mnB mi s n ∧ mxB mi s 10 = mxB mi s n ∧ tkB th s 10 = tkB th s n ∧ akB th s 10 = akB th s n := by
  have e : n + (10 - n) = 10 := by omega
  have a := mnB_n (mi := mi) h (10 - n)
  have b := mxB_n (mi := mi) h (10 - n)
  have c := tkB_n (th := th) h (10 - n)
  have d := akB_n (th := th) h (10 - n)
  rw [e] at a b c d
  exact ⟨a, b, c, d⟩
theorem tk_0 (hP : PH th mi o ba pe li) {s : Nat} : ∀ k, tkB th s k = 0 → ∀ i, i < k → s.testBit i = false
  | 0, _, i, h => by omega
  | k + 1, h, i, hi => by
    rw [tkB] at h
    by_cases e : s.testBit k = true
    · rw [if_pos e] at h
      have := (hP.1 k).1
      omega
    · rw [if_neg e] at h
      by_cases e2 : i = k
      · subst e2
        simpa using e
      · exact tk_0 hP k h i (by omega)
theorem ak_all (hP : PH th mi o ba pe li) {s : Nat} : ∀ k, akB th s k = true → ∀ i, i < k → s.testBit i = true → th i = tkB th s k
  | 0, _, i, h, _ => by omega
  | k + 1, h, i, hi, hb => by
    rw [akB] at h
    rw [tkB]
    by_cases e : s.testBit k = true
    · rw [if_pos e] at h ⊢
      rw [Bool.and_eq_true, Bool.or_eq_true, decide_eq_true_eq, decide_eq_true_eq] at h
      by_cases e2 : i = k
      · rw [e2]
      · have ih := ak_all hP k h.1 i (by omega) hb
        rcases h.2 with g | g
        · have := tk_0 hP k g i (by omega)
          rw [this] at hb
          cases hb
        · rw [ih, g]
    · rw [if_neg e] at h ⊢
      by_cases e2 : i = k
      · subst e2
        exact absurd hb e
      · exact ak_all hP k h i (by omega) hb
theorem lasts_lp (F : Nat) (hn : n ≤ 10) {S : ST} (hI : IM S n th mi o ba pe li) {p : Nat} (hp : p < 2 ^ n) : ∀ (d f k : Nat), k + d = n → d < f → (∃ i, k ≤ i ∧ i < n ∧ p.testBit i = true) → ∃ j, j < n ∧ p.testBit j = true ∧ fX11_lasts_2 F f S (nI p) (nI k) = some (nI (ba + pe * th j), S)
  | 0, f + 1, k, h1, h2, ⟨i, h3, h4, _⟩ => by omega
  | d + 1, f + 1, k, h1, h2, ⟨i, h3, h4, h5⟩ => by
    have hp10 : p < 1024 := by
      have : 2 ^ n ≤ 2 ^ 10 := Nat.pow_le_pow_right (by omega) hn
      omega
    rw [fX11_lasts_2, tb_all p hp10 k (by omega)]
    by_cases e : p.testBit k = true
    · refine ⟨k, by omega, e, ?_⟩
      rw [e, if_neg (by decide), if_pos (vin_nI (by omega) (by omega)), ix_nI (by omega), hI.2.2.1, hI.2.2.2.1, (hI.2.2.2.2.2 k (by omega)).1, pk_mul, nI_add]
    · have e' : p.testBit k = false := by simpa using e
      rw [e', if_pos (by decide), nI_1]
      exact lasts_lp F hn hI hp d f (k + 1) (by omega) (by omega) ⟨i, by
        by_cases e2 : i = k
        · subst e2
          exact absurd h5 e
        · omega, h4, h5⟩
theorem lasts_eq (F : Nat) (hF : 100 ≤ F) (hn : n ≤ 10) (hP : PH th mi o ba pe li) {S : ST} (hI : IM S n th mi o ba pe li) {p : Nat} (hp : p < 2 ^ n) (h0 : 0 < p) (hk : akB th p 10 = true) : fX11_lasts F S (nI p) = some (nI (ba + pe * tkB th p 10), S) := by
  have hp10 : p < 1024 := by
    have : 2 ^ n ≤ 2 ^ 10 := Nat.pow_le_pow_right (by omega) hn
    omega
  obtain ⟨i, h1, h2⟩ := bit_ex hp10 h0
  have h3 : i < n := by
    apply Classical.byContradiction
    intro h
    have := tb_hi (k := i) hp (by omega)
    rw [this] at h2
    cases h2
  obtain ⟨j, g1, g2, g3⟩ := lasts_lp F hn hI hp n F 0 (by omega) (by omega) ⟨i, by omega, h3, h2⟩
  rw [← ak_all hP 10 hk j (by omega) g2]
  exact g3
theorem big_eq {k : Nat} (h : k < 2147483648) : nI k = 1000000000 ↔ k = 1000000000 := nI_eq (b := 1000000000) h (by omega)
def x5I (t : Nat) : Int32 := if t = 0 then -1 else nI t
def flI (b : Bool) : Int32 := if b then 1 else 0
theorem pin_end (F : Nat) (f : Nat) {S : ST} (hn : n ≤ 10) (hP : PH th mi o ba pe li) (hI : IM S n th mi o ba pe li) {p fr : Nat} (hp : p < 2 ^ n) (h0 : 0 < p) (hfr : fr ≤ 16100) (x5 : Int32) (b : Bool) : fX11_putIn_31 F (f + 1) S (nI p) (nI fr) (nI (mnB mi p 10)) (nI (mxB mi p 10)) x5 (flI b) (nI n) = some (if b = true ∧ max fr (mxB mi p 10) ≤ mnB mi p 10 + li then nI (max fr (mxB mi p 10)) else 1000000000, S) := by
  have hp10 : p < 1024 := by
    have : 2 ^ n ≤ 2 ^ 10 := Nat.pow_le_pow_right (by omega) hn
    omega
  have a1 := mn_bd th mi o ba pe li hP 10 (bit_ex hp10 h0)
  have a2 := mx_bd th mi o ba pe li hP (p := p) 10
  have hli := hP.2.2.2.1
  have key : ∀ m, m ≤ 20000 → fX11_putIn_157 F S (nI (mnB mi p 10)) (flI b) (nI m) = some (if b = true ∧ m ≤ mnB mi p 10 + li then nI m else 1000000000, S) := fun m hm => by
    unfold fX11_putIn_157 fX11_putIn_180
    cases b with
    | false => rw [if_pos (show flI false = 0 from rfl), if_neg (fun h => by cases h.1)]
    | true =>
      rw [if_neg (show ¬ flI true = 0 by decide), hI.2.2.2.2.1]
      by_cases e : m ≤ mnB mi p 10 + li
      · rw [if_neg (by rw [i_lt, i_lit (by omega), pk_sub_toInt (by omega) (by omega)]; omega), if_pos ⟨rfl, e⟩]
      · rw [if_pos (by rw [i_lt, i_lit (by omega), pk_sub_toInt (by omega) (by omega)]; omega), if_neg (fun h => e h.2)]
  rw [fX11_putIn_31, hI.1, if_pos (nI_le (by omega) (by omega))]
  by_cases e : fr ≤ mxB mi p 10
  · rw [if_pos (nI_le e (by omega)), Nat.max_eq_right e]
    exact key _ (by omega)
  · rw [if_neg (nI_ge (by omega) (by omega)), Nat.max_eq_left (by omega)]
    exact key _ (by omega)
theorem pin_lp (F : Nat) {S : ST} (hn : n ≤ 10) (hP : PH th mi o ba pe li) (hI : IM S n th mi o ba pe li) {p : Nat} (hp : p < 2 ^ n) (h0 : 0 < p) {fr : Nat} (hfr : fr ≤ 16100) (b : Bool) : ∀ (d f k : Nat), k + d = n → d < f → fX11_putIn_31 F f S (nI p) (nI fr) (nI (mnB mi p k)) (nI (mxB mi p k)) (x5I (tkB th p k)) (flI (b && akB th p k)) (nI k) = some (if (b && akB th p 10) = true ∧ max fr (mxB mi p 10) ≤ mnB mi p 10 + li then nI (max fr (mxB mi p 10)) else 1000000000, S)
  | 0, f + 1, k, h1, h2 => by
    have e : k = n := by omega
    subst e
    obtain ⟨e1, e2, e3, e4⟩ := to10 (th := th) (mi := mi) hn hp
    rw [← e1, ← e2, ← e3, ← e4]
    exact pin_end F f hn hP hI hp h0 hfr _ _
  | d + 1, f + 1, k, h1, h2 => by
    have hp10 : p < 1024 := by
      have : 2 ^ n ≤ 2 ^ 10 := Nat.pow_le_pow_right (by omega) hn
      omega
    have ih := pin_lp F hn hP hI hp h0 hfr b d f (k + 1) (by omega) (by omega)
    rw [fX11_putIn_31, hI.1, if_neg (nI_ge (by omega) (by omega)), tb_all p hp10 k (by omega)]
    by_cases e : p.testBit k = true
    · rw [e, if_neg (by decide)]
      have hb := hP.1 k
      have hmx := mx_bd th mi o ba pe li hP (p := p) k
      have hmn : mnB mi p k ≤ 1000000000 := by
        have : ∀ k, mnB mi p k ≤ 1000000000 := fun k => by
          induction k with
          | zero => exact Nat.le_refl _
          | succ k ih => rw [mnB]; split <;> omega
        exact this k
      have hv : vin (nI k) 10 = true := vin_nI (by omega) (by omega)
      have htk := tk_bd th mi o ba pe li hP (p := p) k
      have key : ∀ (c : Bool), fX11_putIn_79 F (fX11_putIn_31 F f) S (nI p) (nI fr) (nI (mnB mi p k)) (nI (mxB mi p k)) (nI k) (flI c) = fX11_putIn_31 F f S (nI p) (nI fr) (nI (min (mnB mi p k) (mi k))) (nI (max (mxB mi p k) (mi k))) (nI (th k)) (flI c) (nI (k + 1)) := fun c => by
        have k2 : ∀ m, fX11_putIn_112 F (fX11_putIn_31 F f) S (nI p) (nI fr) (nI (mxB mi p k)) (nI (th k)) (flI c) (nI k) (nI m) = fX11_putIn_31 F f S (nI p) (nI fr) (nI m) (nI (max (mxB mi p k) (mi k))) (nI (th k)) (flI c) (nI (k + 1)) := fun m => by
          unfold fX11_putIn_112 fX11_putIn_137
          rw [if_pos hv, ix_nI (by omega), (hI.2.2.2.2.2 k (by omega)).2, nI_1]
          by_cases g : mi k ≤ mxB mi p k
          · rw [if_pos (nI_le g (by omega)), Nat.max_eq_left g]
          · rw [if_neg (nI_ge (by omega) (by omega)), if_pos hv, Nat.max_eq_right (by omega)]
        unfold fX11_putIn_79
        rw [if_pos hv, ix_nI (by omega), (hI.2.2.2.2.2 k (by omega)).2, (hI.2.2.2.2.2 k (by omega)).1]
        show (if vin (nI k) 10 = true then _ else _) = _
        rw [if_pos hv]
        by_cases g : mnB mi p k ≤ mi k
        · rw [if_pos (nI_le g (by omega)), k2, Nat.min_eq_left g]
        · rw [if_neg (nI_ge (by omega) (by omega)), if_pos hv, k2, Nat.min_eq_right (by omega)]
      have e5 : x5I (tkB th p (k + 1)) = nI (th k) := by
        rw [tkB, if_pos e, x5I, if_neg (by omega)]
      have e3 : mnB mi p (k + 1) = min (mnB mi p k) (mi k) := by rw [mnB, if_pos e]
      have e4 : mxB mi p (k + 1) = max (mxB mi p k) (mi k) := by rw [mxB, if_pos e]
      have e6 : akB th p (k + 1) = (akB th p k && (decide (tkB th p k = 0) || decide (tkB th p k = th k))) := by rw [akB, if_pos e]
      rw [e3, e4, e5, e6] at ih
      cases hbk : (b && akB th p k) with
      | false =>
        rw [if_pos (show flI false = 0 from rfl)]
        unfold fX11_putIn_78
        have := key false
        rw [show flI false = 0 from rfl] at this
        rw [this]
        have e7 : (b && (akB th p k && (decide (tkB th p k = 0) || decide (tkB th p k = th k)))) = false := by
          rw [← Bool.and_assoc, hbk, Bool.false_and]
        rw [e7] at ih
        exact ih
      | true =>
        have e7 : (b && (akB th p k && (decide (tkB th p k = 0) || decide (tkB th p k = th k)))) = (decide (tkB th p k = 0) || decide (tkB th p k = th k)) := by
          rw [← Bool.and_assoc, hbk, Bool.true_and]
        rw [e7] at ih
        rw [if_neg (show ¬ flI true = 0 by decide)]
        by_cases g : tkB th p k = 0
        · rw [if_pos (show x5I (tkB th p k) < 0 by rw [x5I, if_pos g]; decide)]
          have := key true
          rw [show flI true = 1 from rfl] at this
          rw [this]
          rw [decide_eq_true g, Bool.true_or] at ih
          exact ih
        · rw [x5I, if_neg g, if_neg (nI_pos (by omega)), if_pos hv, ix_nI (by omega), (hI.2.2.2.2.2 k (by omega)).1]
          by_cases g2 : tkB th p k = th k
          · rw [if_pos (by rw [g2])]
            have := key true
            rw [show flI true = 1 from rfl] at this
            rw [this]
            rw [decide_eq_true g2, Bool.or_true] at ih
            exact ih
          · rw [if_neg (by rw [nI_eq (by omega) (by omega)]; exact g2)]
            unfold fX11_putIn_78
            have := key false
            rw [show flI false = 0 from rfl] at this
            rw [this]
            rw [decide_eq_false g, decide_eq_false g2, Bool.or_false] at ih
            exact ih
    · have e' : p.testBit k = false := by simpa using e
      rw [e', if_pos (by decide), nI_1]
      rw [mnB, mxB, tkB, akB, if_neg e, if_neg e, if_neg e, if_neg e] at ih
      exact ih
theorem pin_eq (F : Nat) (hF : 100 ≤ F) {S : ST} (hn : n ≤ 10) (hP : PH th mi o ba pe li) (hI : IM S n th mi o ba pe li) {p : Nat} (hp : p < 2 ^ n) (h0 : 0 < p) {fr : Nat} (hfr : fr ≤ 16100) : fX11_putIn F S (nI p) (nI fr) = some (@ite _ (vld th mi o li p ∧ fr ≤ mnB mi p 10 + li) (Classical.propDecidable _) (nI (max fr (mxB mi p 10))) 1000000000, S) := by
  have hp10 : p < 1024 := by
    have : 2 ^ n ≤ 2 ^ 10 := Nat.pow_le_pow_right (by omega) hn
    omega
  have hc := cnt_le 10 p
  have ho := hP.2.2.2.2
  have h1 := pin_lp F hn hP hI hp h0 hfr (decide (cntN 10 p ≤ o)) n F 0 (by omega) (by omega)
  have e2 : (if (decide (cntN 10 p ≤ o) && akB th p 10) = true ∧ max fr (mxB mi p 10) ≤ mnB mi p 10 + li then nI (max fr (mxB mi p 10)) else 1000000000) = @ite _ (vld th mi o li p ∧ fr ≤ mnB mi p 10 + li) (Classical.propDecidable _) (nI (max fr (mxB mi p 10))) 1000000000 := by
    by_cases h : vld th mi o li p ∧ fr ≤ mnB mi p 10 + li
    · rw [if_pos h, if_pos]
      refine ⟨?_, ?_⟩
      · rw [Bool.and_eq_true, decide_eq_true_eq]
        exact ⟨h.1.2.1, h.1.1⟩
      · have := h.1.2.2
        have := h.2
        omega
    · rw [if_neg h, if_neg]
      rintro ⟨g1, g2⟩
      rw [Bool.and_eq_true, decide_eq_true_eq] at g1
      exact h ⟨⟨g1.2, g1.1, by omega⟩, by omega⟩
  rw [← e2, ← h1]
  unfold fX11_putIn
  rw [mny_eq F hF S hp10]
  show (if S.1 0 49 < nI (cntN 10 p) then _ else _) = _
  rw [hI.2.1]
  by_cases e : cntN 10 p ≤ o
  · rw [if_neg (nI_nlt e (by omega)), decide_eq_true e]
    rfl
  · rw [if_pos (nI_lt (by omega) (by omega)), decide_eq_false e]
    rfl
theorem oby_eq (F : Nat) (hF : 100 ≤ F) {S : ST} (hn : n ≤ 10) (hP : PH th mi o ba pe li) (hI : IM S n th mi o ba pe li) {s p : Nat} (hs : s < 2 ^ n) (hp : sub p s) (h0 : 0 < p) (hT : S.1 30 (s - p) = nI (outT th mi o ba pe li (s - p))) : fX11_outBy F S (nI s) (nI p) = some (nI (obT th mi o ba pe li (outT th mi o ba pe li) s p), S) := by
  have h10 : 2 ^ n ≤ 2 ^ 10 := Nat.pow_le_pow_right (by omega) hn
  have hle := sub_le hp
  unfold fX11_outBy
  rw [cmS_eq hp (by omega), if_pos (vin_nI (by omega) (by omega)), ix_nI (by omega), hT]
  show (if nI (outT th mi o ba pe li (s - p)) = 1000000000 then _ else _) = _
  have hb := out_bd th mi o ba pe li hP (s := s - p) (by omega)
  by_cases e : outT th mi o ba pe li (s - p) = 1000000000
  · rw [if_pos ((big_eq (by omega)).mpr e)]
    unfold fX11_outBy_30 obT
    rw [if_pos rfl, if_neg (fun h => h.1 e)]
    rfl
  · have hle2 : outT th mi o ba pe li (s - p) ≤ 16100 := by omega
    rw [if_neg (fun h => e ((big_eq (by omega)).mp h)), pin_eq F hF hn hP hI (by omega) h0 hle2]
    show fX11_outBy_30 F S (nI p) (@ite _ (vld th mi o li p ∧ outT th mi o ba pe li (s - p) ≤ mnB mi p 10 + li) (Classical.propDecidable _) (nI (max (outT th mi o ba pe li (s - p)) (mxB mi p 10))) 1000000000) = _
    have hmx := mx_bd th mi o ba pe li hP (p := p) 10
    by_cases g : vld th mi o li p ∧ outT th mi o ba pe li (s - p) ≤ mnB mi p 10 + li
    · have e1 : obT th mi o ba pe li (outT th mi o ba pe li) s p = max (outT th mi o ba pe li (s - p)) (mxB mi p 10) + ba + pe * tkB th p 10 := by
        unfold obT
        rw [if_pos ⟨e, g⟩]
      rw [if_pos g, e1]
      unfold fX11_outBy_30
      rw [if_neg (fun h => by have := (big_eq (by omega)).mp h; omega), lasts_eq F hF hn hP hI (by omega) h0 g.1.1]
      show some (_ + _, S) = _
      rw [nI_add, Nat.add_assoc]
    · have e1 : obT th mi o ba pe li (outT th mi o ba pe li) s p = 1000000000 := by
        unfold obT
        rw [if_neg (fun h => g h.2)]
      rw [if_neg g, e1]
      unfold fX11_outBy_30
      rw [if_pos rfl]
      rfl
end PRESSM
