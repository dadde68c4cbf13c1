theorem fb_bmod {z : Int} (h1 : -2147483648 ≤ z) (h2 : z < 2147483648) : z.bmod (2 ^ 32) = z := by
  rw [Int.bmod_def]
  split <;> omega
def oI (z : Int) : Int32 := Int32.ofInt z
theorem oI_t {z : Int} (h1 : -2147483648 ≤ z) (h2 : z < 2147483648) : (oI z).toInt = z := by
  unfold oI
  rw [Int32.toInt_ofInt]
  exact fb_bmod h1 h2
theorem oI_add (a b : Int) : oI a + oI b = oI (a + b) := (Int32.ofInt_add a b).symm
theorem oI_sub (a b : Int) : oI a - oI b = oI (a - b) := (Int32.ofInt_sub a b).symm
theorem oI_mul (a b : Int) : oI a * oI b = oI (a * b) := (Int32.ofInt_mul a b).symm
theorem oI_neg (a : Int) : -(oI a) = oI (-a) := (Int32.ofInt_neg a).symm
theorem oI_nat (n : Nat) : nI n = oI (n : Int) := by
  unfold oI nI
  first | rfl | exact (Int32.ofInt_eq_ofNat).symm | simp
theorem and1 (v : Int32) : (v &&& 1 = 1) ↔ bt v 0 = true := by
  rw [pk_and v (m := 1) 1 rfl]
  unfold bt
  rw [BitVec.getLsbD, Nat.testBit_zero, decide_eq_true_eq, Nat.pow_one]
  have h : v.toBitVec.toNat % 2 = 0 ∨ v.toBitVec.toNat % 2 = 1 := Nat.mod_two_eq_zero_or_one _
  rcases h with h | h
  · rw [h]; decide
  · rw [h]; decide
theorem msk_bits : ∀ h, h < 12 → ∀ x, x < 24 → h ≤ x → x + h < 24 → ∀ i, i < 32 → bt ((((1 : Int32) <<< ((((2 : Int32) * nI h) + 1) &&& 31)) - 1) <<< ((nI (x - h)) &&& 31)) i = decide (x ≤ i + h ∧ i ≤ x + h) := by decide +kernel
theorem sub_bits (v m : Int32) : (v &&& m = m) ↔ ∀ i, i < 32 → bt m i = true → bt v i = true := by
  constructor
  · intro h i hi hm
    have h2 := b_and v m i
    rw [h, hm] at h2
    simp at h2
    exact h2
  · intro h
    apply b_ext
    intro i hi
    rw [b_and]
    cases hm : bt m i with
    | false => simp
    | true => rw [h i hi hm]; rfl
theorem isIn_eq (F : Nat) (S : ST) (Y X : Int) (hY : -100 ≤ Y ∧ Y ≤ 100) (hX : -100 ≤ X ∧ X ≤ 100) : ∃ r, fX11_isIn F S (oI Y) (oI X) = some (r, S) ∧ ((r = 1 ∧ inNet (S.1 1) Y X) ∨ (r = 0 ∧ ¬ inNet (S.1 1) Y X)) := by
  have tY := oI_t (z := Y) (by omega) (by omega)
  have tX := oI_t (z := X) (by omega) (by omega)
  unfold fX11_isIn fX11_isIn_38
  by_cases h1 : Y < 0
  · refine ⟨0, by rw [if_pos (by simp [i_lt, tY]; omega)], Or.inr ⟨rfl, fun h => by have := h.1; omega⟩⟩
  · by_cases h2 : 24 ≤ Y
    · refine ⟨0, by rw [if_neg (by simp [i_lt, tY]; omega), if_pos (by simp [i_le, tY]; omega)], Or.inr ⟨rfl, fun h => by have := h.2.1; omega⟩⟩
    · by_cases h3 : X < 0
      · refine ⟨0, by rw [if_neg (by simp [i_lt, tY]; omega), if_neg (by simp [i_le, tY]; omega), if_pos (by simp [i_lt, tX]; omega)], Or.inr ⟨rfl, fun h => by have := h.2.2.1; omega⟩⟩
      · by_cases h4 : 24 ≤ X
        · refine ⟨0, by rw [if_neg (by simp [i_lt, tY]; omega), if_neg (by simp [i_le, tY]; omega), if_neg (by simp [i_lt, tX]; omega), if_pos (by simp [i_le, tX]; omega)], Or.inr ⟨rfl, fun h => by have := h.2.2.2.1; omega⟩⟩
        · obtain ⟨y, rfl⟩ := Int.eq_ofNat_of_zero_le (show 0 ≤ Y by omega)
          obtain ⟨x, rfl⟩ := Int.eq_ofNat_of_zero_le (show 0 ≤ X by omega)
          rw [if_neg (by simp [i_lt, tY]), if_neg (by simp [i_le, tY]; omega), if_neg (by simp [i_lt, tX]), if_neg (by simp [i_le, tX]; omega), ← oI_nat, ← oI_nat, if_pos (vin_nI (by omega) (by omega)), ix_nI (by omega)]
          have hb : ((S.1 1 y >>> (nI x &&& 31)) &&& 1 = 1) ↔ (S.1 1 y).toBitVec.getLsbD x = true := by
            rw [and1, b_sshr x (by omega) _ (by omega), if_pos (by omega)]
            rfl
          by_cases h5 : (S.1 1 y).toBitVec.getLsbD x = true
          · exact ⟨1, by rw [if_pos (hb.mpr h5)], Or.inl ⟨rfl, by omega, by omega, by omega, by omega, h5⟩⟩
          · exact ⟨0, by rw [if_neg (fun h => h5 (hb.mp h))], Or.inr ⟨rfl, fun h => h5 h.2.2.2.2⟩⟩
def okD (net : Nat → Int32) (y x r : Nat) (dy dx : Int) : Prop := dy * dy + dx * dx ≤ (r : Int) * r → inNet net (y + dy) (x + dx)
theorem sq_b {a : Int} (h1 : -12 ≤ a) (h2 : a ≤ 12) : 0 ≤ a * a ∧ a * a ≤ 144 := by
  refine ⟨?_, ?_⟩
  · rcases Int.le_total 0 a with h | h
    · exact Int.mul_nonneg h h
    · exact Int.mul_nonneg_of_nonpos_of_nonpos h h
  · have h3 : (12 - a) * (12 + a) ≥ 0 := Int.mul_nonneg (by omega) (by omega)
    have h4 : (12 - a) * (12 + a) = 144 - a * a := by grind
    omega
theorem nI_oI_lt {r : Nat} {e : Int} (hr : r < 1000) (h1 : -1000 ≤ e) (h2 : e ≤ 1000) : nI r < oI e ↔ (r : Int) < e := by
  rw [i_lt, i_lit (by omega), oI_t (by omega) (by omega)]
theorem fits22_lp (F : Nat) (S : ST) (k7 : ST → Int32 → Int32 → Int32 → Int32 → Int32 → Option (Int32 × ST)) {y x r : Nat} {dy : Int} (hy : y < 24) (hx : x < 24) (hr : r ≤ 11) (h1 : -(r : Int) ≤ dy) (h2 : dy ≤ r) : ∀ (d f : Nat) (dx : Int), dx + d = r + 1 → -(r : Int) ≤ dx → d + 1 < f → ∃ b, fX11_fits_22 F k7 f S (nI y) (nI x) (nI r) 1 (oI dy) (oI dx) = k7 S (nI y) (nI x) (nI r) b (oI (dy + 1)) ∧ ((b = 1 ∧ ∀ e : Int, dx ≤ e → e ≤ r → okD (S.1 1) y x r dy e) ∨ (b = 0 ∧ ∃ e : Int, dx ≤ e ∧ e ≤ r ∧ ¬ okD (S.1 1) y x r dy e))
  | 0, f + 1, dx, h3, h4, h5 => by
    refine ⟨1, ?_, Or.inl ⟨rfl, fun e a b => by omega⟩⟩
    rw [fX11_fits_22, if_pos ((nI_oI_lt (by omega) (by omega) (by omega)).mpr (by omega)), show oI dy + 1 = oI (dy + 1) from oI_add dy 1]
  | d + 1, f + 1, dx, h3, h4, h5 => by
    have s1 := sq_b (a := dy) (by omega) (by omega)
    have s2 := sq_b (a := dx) (by omega) (by omega)
    have s3 := sq_b (a := (r : Int)) (by omega) (by omega)
    have eD : oI dy + 1 = oI (dy + 1) := oI_add dy 1
    have eX : oI dx + 1 = oI (dx + 1) := oI_add dx 1
    have hq : (nI r * nI r < oI dy * oI dy + oI dx * oI dx) ↔ (r : Int) * r < dy * dy + dx * dx := by
      rw [oI_nat, oI_mul, oI_mul, oI_mul, oI_add, i_lt, oI_t (by omega) (by omega), oI_t (by omega) (by omega)]
    rw [fX11_fits_22, if_neg (fun h => by have := (nI_oI_lt (by omega) (by omega) (by omega)).mp h; omega), if_neg z10, eX]
    have ih := fits22_lp F S k7 hy hx hr h1 h2 d f (dx + 1) (by omega) (by omega) (by omega)
    have fin1 : okD (S.1 1) y x r dy dx → ∃ b, fX11_fits_22 F k7 f S (nI y) (nI x) (nI r) 1 (oI dy) (oI (dx + 1)) = k7 S (nI y) (nI x) (nI r) b (oI (dy + 1)) ∧ ((b = 1 ∧ ∀ e : Int, dx ≤ e → e ≤ r → okD (S.1 1) y x r dy e) ∨ (b = 0 ∧ ∃ e : Int, dx ≤ e ∧ e ≤ r ∧ ¬ okD (S.1 1) y x r dy e)) := fun hok => by
      obtain ⟨b, c1, c2⟩ := ih
      refine ⟨b, c1, ?_⟩
      rcases c2 with ⟨c2, c3⟩ | ⟨c2, e, c3, c4, c5⟩
      · refine Or.inl ⟨c2, fun e a1 a2 => ?_⟩
        by_cases he : e = dx
        · rw [he]; exact hok
        · exact c3 e (by omega) a2
      · exact Or.inr ⟨c2, e, by omega, c4, c5⟩
    by_cases h6 : (r : Int) * r < dy * dy + dx * dx
    · rw [if_pos (hq.mpr h6)]
      exact fin1 (fun h => by omega)
    · rw [if_neg (fun h => h6 (hq.mp h)), oI_nat y, oI_nat x, oI_add, oI_add]
      obtain ⟨q, c1, c2⟩ := isIn_eq F S ((y : Int) + dy) ((x : Int) + dx) (by omega) (by omega)
      rw [c1, ← oI_nat y, ← oI_nat x]
      rcases c2 with ⟨rfl, c2⟩ | ⟨rfl, c2⟩
      · exact fin1 (fun _ => c2)
      · refine ⟨0, ?_, Or.inr ⟨rfl, dx, by omega, by omega, fun h => c2 (h (by omega))⟩⟩
        show fX11_fits_22 F k7 f S (nI y) (nI x) (nI r) 0 (oI dy) (oI (dx + 1)) = _
        obtain ⟨m, rfl⟩ : ∃ m, f = m + 1 := ⟨f - 1, by omega⟩
        rw [fX11_fits_22]
        split
        · rw [eD]
        · rw [if_pos rfl, eD]
theorem fits7_lp (F : Nat) (hF : 100 ≤ F) (S : ST) {y x r : Nat} (hy : y < 24) (hx : x < 24) (hr : r ≤ 11) : ∀ (d f : Nat) (dy : Int), dy + d = r + 1 → -(r : Int) ≤ dy → d + 1 < f → ∃ b, fX11_fits_7 F f S (nI y) (nI x) (nI r) 1 (oI dy) = some (b, S) ∧ ((b = 1 ∧ ∀ e1 e : Int, dy ≤ e1 → e1 ≤ r → -(r : Int) ≤ e → e ≤ r → okD (S.1 1) y x r e1 e) ∨ (b = 0 ∧ ∃ e1 e : Int, ¬ okD (S.1 1) y x r e1 e))
  | 0, f + 1, dy, h3, h4, h5 => by
    refine ⟨1, ?_, Or.inl ⟨rfl, fun e1 e a b => by omega⟩⟩
    rw [fX11_fits_7, if_pos ((nI_oI_lt (by omega) (by omega) (by omega)).mpr (by omega)), if_pos a1_1]
  | d + 1, f + 1, dy, h3, h4, h5 => by
    rw [fX11_fits_7, if_neg (fun h => by have := (nI_oI_lt (by omega) (by omega) (by omega)).mp h; omega), if_neg z10]
    show ∃ b, fX11_fits_22 F (fX11_fits_7 F f) F S (nI y) (nI x) (nI r) 1 (oI dy) (-(nI r)) = _ ∧ _
    rw [show -(nI r) = oI (-(r : Int)) by rw [oI_nat, oI_neg]]
    obtain ⟨b, c1, c2⟩ := fits22_lp F S (fX11_fits_7 F f) hy hx hr h4 (by omega) (2 * r + 1) F (-(r : Int)) (by omega) (by omega) (by omega)
    rw [c1]
    rcases c2 with ⟨rfl, c2⟩ | ⟨rfl, e, c3, c4, c5⟩
    · obtain ⟨b2, d1, d2⟩ := fits7_lp F hF S hy hx hr d f (dy + 1) (by omega) (by omega) (by omega)
      refine ⟨b2, d1, ?_⟩
      rcases d2 with ⟨d2, d3⟩ | d2
      · refine Or.inl ⟨d2, fun e1 e a1 a2 a3 a4 => ?_⟩
        by_cases he : e1 = dy
        · rw [he]; exact c2 e a3 a4
        · exact d3 e1 e (by omega) a2 a3 a4
      · exact Or.inr d2
    · refine ⟨0, ?_, Or.inr ⟨rfl, dy, e, c5⟩⟩
      obtain ⟨m, rfl⟩ : ∃ m, f = m + 1 := ⟨f - 1, by omega⟩
      rw [fX11_fits_7]
      split
      · rw [if_pos a1_0]
      · rw [if_pos rfl, if_pos a1_0]
theorem sq_le {a : Int} {r : Nat} (h : a * a ≤ (r : Int) * r) : -(r : Int) ≤ a ∧ a ≤ r := by
  constructor
  · by_cases h2 : a < -(r : Int)
    · have h3 : (r : Int) * r < a * a := by
        have h4 : ((r : Int) + 1) * ((r : Int) + 1) ≤ (-a) * (-a) := Int.mul_le_mul (by omega) (by omega) (by omega) (by omega)
        have h5 : (-a) * (-a) = a * a := by grind
        have h6 : ((r : Int) + 1) * ((r : Int) + 1) = (r : Int) * r + 2 * r + 1 := by grind
        omega
      omega
    · omega
  · by_cases h2 : (r : Int) < a
    · have h3 : (r : Int) * r < a * a := by
        have h4 : ((r : Int) + 1) * ((r : Int) + 1) ≤ a * a := Int.mul_le_mul (by omega) (by omega) (by omega) (by omega)
        have h6 : ((r : Int) + 1) * ((r : Int) + 1) = (r : Int) * r + 2 * r + 1 := by grind
        omega
      omega
    · omega
theorem sq_nn (a : Int) : 0 ≤ a * a := by
  rcases Int.le_total 0 a with h | h
  · exact Int.mul_nonneg h h
  · exact Int.mul_nonneg_of_nonpos_of_nonpos h h
theorem fits_eq (F : Nat) (hF : 100 ≤ F) (S : ST) {y x r : Nat} (hy : y < 24) (hx : x < 24) (hr : r ≤ 11) : ∃ b, fX11_fits F S (nI y) (nI x) (nI r) = some (b, S) ∧ ((b = 1 ∧ Fit (S.1 1) y x r) ∨ (b = 0 ∧ ¬ Fit (S.1 1) y x r)) := by
  have h0 : fX11_fits F S (nI y) (nI x) (nI r) = fX11_fits_7 F F S (nI y) (nI x) (nI r) 1 (oI (-(r : Int))) := by
    show fX11_fits_7 F F S (nI y) (nI x) (nI r) 1 (-(nI r)) = _
    rw [show -(nI r) = oI (-(r : Int)) by rw [oI_nat, oI_neg]]
  obtain ⟨b, c1, c2⟩ := fits7_lp F hF S hy hx hr (2 * r + 1) F (-(r : Int)) (by omega) (by omega) (by omega)
  refine ⟨b, by rw [h0]; exact c1, ?_⟩
  rcases c2 with ⟨c2, c3⟩ | ⟨c2, e1, e, c3⟩
  · refine Or.inl ⟨c2, fun dy dx h => ?_⟩
    have a1 := sq_nn dy
    have a2 := sq_nn dx
    have b1 := sq_le (a := dy) (r := r) (by omega)
    have b2 := sq_le (a := dx) (r := r) (by omega)
    exact c3 dy dx b1.1 b1.2 b2.1 b2.2 h
  · exact Or.inr ⟨c2, fun h => c3 (fun h2 => h e1 e h2)⟩
theorem hasCells_eq (F : Nat) (S : ST) {Y h x : Nat} (hY : Y < 24) (hh : h < 12) (hx : x < 24) (h1 : h ≤ x) (h2 : x + h < 24) : ∃ b, fX4_hasCells F S (nI Y) ((((1 : Int32) <<< ((((2 : Int32) * nI h) + 1) &&& 31)) - 1) <<< ((nI (x - h)) &&& 31)) = some (b, S) ∧ ((b = 1 ∧ ∀ X, x ≤ X + h → X ≤ x + h → (S.1 12 Y).toBitVec.getLsbD X = true) ∨ (b = 0 ∧ ¬ ∀ X, x ≤ X + h → X ≤ x + h → (S.1 12 Y).toBitVec.getLsbD X = true)) := by
  unfold fX4_hasCells fX4_hasCells_29
  rw [if_neg (nI_pos (by omega)), if_neg (c := (24 : Int32) ≤ nI Y) (nI_ge (b := 24) hY (by omega)), if_pos (vin_nI hY (by omega)), ix_nI (by omega)]
  have hm := msk_bits h hh x hx h1 h2
  generalize ((((1 : Int32) <<< ((((2 : Int32) * nI h) + 1) &&& 31)) - 1) <<< ((nI (x - h)) &&& 31)) = M at hm
  have key : (S.1 12 Y &&& M = M) ↔ ∀ X, x ≤ X + h → X ≤ x + h → (S.1 12 Y).toBitVec.getLsbD X = true := by
    rw [sub_bits]
    constructor
    · intro h3 X a1 a2
      exact h3 X (by omega) (by rw [hm X (by omega), decide_eq_true_eq]; exact ⟨a1, a2⟩)
    · intro h3 i hi hb
      rw [hm i hi, decide_eq_true_eq] at hb
      exact h3 i hb.1 hb.2
  by_cases h3 : S.1 12 Y &&& M = M
  · exact ⟨1, by rw [if_pos h3], Or.inl ⟨rfl, key.mp h3⟩⟩
  · exact ⟨0, by rw [if_neg h3], Or.inr ⟨rfl, fun h4 => h3 (key.mpr h4)⟩⟩
def rowOK (net : Nat → Int32) (Y x h : Nat) : Prop := ∀ X, x ≤ X + h → X ≤ x + h → (net Y).toBitVec.getLsbD X = true
theorem disc70 (F : Nat) (S : ST) (k36 : ST → Int32 → Int32 → Int32 → Int32 → Int32 → Option (Int32 × ST)) {y x r h off : Nat} (hr : r ≤ 11) (hh : h ≤ r) (ho : off ≤ r) (b1 : r ≤ y) (b2 : y + r < 24) (b3 : r ≤ x) (b4 : x + r < 24) : (rowOK (S.1 12) (y - off) x h ∧ rowOK (S.1 12) (y + off) x h ∧ fX4_discFits_70 F k36 S (nI y) (nI x) (nI r) (nI h) (nI off) = k36 S (nI y) (nI x) (nI r) (nI h) (nI (off + 1))) ∨ (¬ (rowOK (S.1 12) (y - off) x h ∧ rowOK (S.1 12) (y + off) x h) ∧ fX4_discFits_70 F k36 S (nI y) (nI x) (nI r) (nI h) (nI off) = some (0, S)) := by
  unfold fX4_discFits_70
  rw [pk_sub (show h ≤ x by omega), pk_sub (show off ≤ y by omega), nI_add, nI_1]
  obtain ⟨c, c1, c2⟩ := hasCells_eq F S (Y := y - off) (h := h) (x := x) (by omega) (by omega) (by omega) (by omega) (by omega)
  obtain ⟨e, e1, e2⟩ := hasCells_eq F S (Y := y + off) (h := h) (x := x) (by omega) (by omega) (by omega) (by omega) (by omega)
  rcases c2 with ⟨rfl, c2⟩ | ⟨rfl, c2⟩
  · rcases e2 with ⟨rfl, e2⟩ | ⟨rfl, e2⟩
    · left
      refine ⟨c2, e2, ?_⟩
      show (fX4_hasCells F S (nI (y - off)) _).bind _ = _
      rw [c1]
      show (fX4_hasCells F S (nI (y + off)) _).bind _ = _
      rw [e1]
      rfl
    · right
      refine ⟨fun h => e2 h.2, ?_⟩
      show (fX4_hasCells F S (nI (y - off)) _).bind _ = _
      rw [c1]
      show (fX4_hasCells F S (nI (y + off)) _).bind _ = _
      rw [e1]
      rfl
  · right
    refine ⟨fun h => c2 h.1, ?_⟩
    show (fX4_hasCells F S (nI (y - off)) _).bind _ = _
    rw [c1]
    rfl
theorem disc42 (F : Nat) (S : ST) (k36 : ST → Int32 → Int32 → Int32 → Int32 → Int32 → Option (Int32 × ST)) {y x r off : Nat} (hr : r ≤ 11) (ho : off ≤ r) : ∀ (h f : Nat), h ≤ r → h < f → (∀ k, h < k → k ≤ r → r * r < k * k + off * off) → ∃ g, g ≤ h ∧ g * g + off * off ≤ r * r ∧ (∀ k, g < k → k ≤ r → r * r < k * k + off * off) ∧ fX4_discFits_42 F k36 f S (nI y) (nI x) (nI r) (nI h) (nI off) = fX4_discFits_70 F k36 S (nI y) (nI x) (nI r) (nI g) (nI off)
  | 0, f + 1, h1, h2, h3 => by
    refine ⟨0, Nat.le_refl 0, by have := Nat.mul_le_mul ho ho; omega, h3, ?_⟩
    rw [fX4_discFits_42, if_pos (by decide)]
  | h + 1, f + 1, h1, h2, h3 => by
    have m1 : (h + 1) * (h + 1) ≤ 121 := Nat.mul_le_mul (show h + 1 ≤ 11 by omega) (show h + 1 ≤ 11 by omega)
    have m2 : off * off ≤ 121 := Nat.mul_le_mul (show off ≤ 11 by omega) (show off ≤ 11 by omega)
    have m3 : r * r ≤ 121 := Nat.mul_le_mul hr hr
    rw [fX4_discFits_42, if_neg (nI_nle (by omega) (by omega)), pk_mul, pk_mul, pk_mul, nI_add]
    by_cases h4 : (h + 1) * (h + 1) + off * off ≤ r * r
    · exact ⟨h + 1, Nat.le_refl _, h4, h3, by rw [if_pos (nI_le h4 (by omega))]⟩
    · rw [if_neg (nI_ge (by omega) (by omega)), pk_m1]
      obtain ⟨g, g1, g2, g3, g4⟩ := disc42 F S k36 (y := y) (x := x) hr ho h f (by omega) (by omega) (fun k a1 a2 => by
        by_cases hk : k = h + 1
        · rw [hk]; omega
        · exact h3 k (by omega) a2)
      exact ⟨g, by omega, g2, g3, g4⟩
def discP (net : Nat → Int32) (y x r o0 : Nat) : Prop := ∀ off, o0 ≤ off → off ≤ r → ∀ g, g * g + off * off ≤ r * r → rowOK net (y - off) x g ∧ rowOK net (y + off) x g
theorem rowOK_mono {net : Nat → Int32} {Y x g h : Nat} (hg : g ≤ h) (h1 : rowOK net Y x h) : rowOK net Y x g := fun X a1 a2 => h1 X (by omega) (by omega)
theorem disc36 (F : Nat) (hF : 100 ≤ F) (S : ST) {y x r : Nat} (hr : r ≤ 11) (b1 : r ≤ y) (b2 : y + r < 24) (b3 : r ≤ x) (b4 : x + r < 24) : ∀ (d f off h : Nat), off + d = r + 1 → d < f → h ≤ r → (∀ k, h < k → k ≤ r → r * r < k * k + off * off) → ∃ b, fX4_discFits_36 F f S (nI y) (nI x) (nI r) (nI h) (nI off) = some (b, S) ∧ ((b = 1 ∧ discP (S.1 12) y x r off) ∨ (b = 0 ∧ ¬ discP (S.1 12) y x r off))
  | 0, f + 1, off, h, h1, h2, h3, h4 => by
    refine ⟨1, ?_, Or.inl ⟨rfl, fun o a1 a2 => by omega⟩⟩
    rw [fX4_discFits_36, if_pos (nI_lt (by omega) (by omega))]
  | d + 1, f + 1, off, h, h1, h2, h3, h4 => by
    rw [fX4_discFits_36, if_neg (nI_nlt (by omega) (by omega))]
    obtain ⟨g, g1, g2, g3, g4⟩ := disc42 F S (fX4_discFits_36 F f) (y := y) (x := x) hr (show off ≤ r by omega) h F h3 (by omega) h4
    rw [g4]
    rcases disc70 F S (fX4_discFits_36 F f) (h := g) hr (by omega) (show off ≤ r by omega) b1 b2 b3 b4 with ⟨c1, c2, c3⟩ | ⟨c1, c2⟩
    · rw [c3]
      have hmono : off * off ≤ (off + 1) * (off + 1) := Nat.mul_le_mul (by omega) (by omega)
      obtain ⟨b, e1, e2⟩ := disc36 F hF S hr b1 b2 b3 b4 d f (off + 1) g (by omega) (by omega) (by omega) (fun k a1 a2 => by
        have := g3 k a1 a2
        omega)
      refine ⟨b, e1, ?_⟩
      rcases e2 with ⟨e2, e3⟩ | ⟨e2, e3⟩
      · refine Or.inl ⟨e2, fun o a1 a2 k hk => ?_⟩
        by_cases ho : o = off
        · subst ho
          have hk2 : k ≤ g := by
            rcases Nat.lt_or_ge g k with h5 | h5
            · have hkr : k ≤ r := by
                rcases Nat.lt_or_ge r k with h6 | h6
                · have := Nat.mul_le_mul (show r + 1 ≤ k from h6) (show r + 1 ≤ k from h6)
                  have e : (r + 1) * (r + 1) = r * r + 2 * r + 1 := by grind
                  omega
                · exact h6
              have := g3 k h5 hkr
              omega
            · exact h5
          exact ⟨rowOK_mono hk2 c1, rowOK_mono hk2 c2⟩
        · exact e3 o (by omega) a2 k hk
      · exact Or.inr ⟨e2, fun h5 => e3 (fun o a1 a2 => h5 o (by omega) a2)⟩
    · exact ⟨0, c2, Or.inr ⟨rfl, fun h5 => c1 (h5 off (Nat.le_refl off) (by omega) g g2)⟩⟩
theorem fit_disc {net : Nat → Int32} {y x r : Nat} (hr : r ≤ 11) (b1 : r ≤ y) (b2 : y + r < 24) (b3 : r ≤ x) (b4 : x + r < 24) : discP net y x r 0 ↔ Fit net y x r := by
  constructor
  · intro h dy dx hd
    have a1 := sq_nn dy
    have a2 := sq_nn dx
    have c1 := sq_le (a := dy) (r := r) (by omega)
    have c2 := sq_le (a := dx) (r := r) (by omega)
    have hdy : dy * dy = ((dy.natAbs * dy.natAbs : Nat) : Int) := by rw [Int.natCast_mul, ← Int.natAbs_mul_self' dy]
    have hdx : dx * dx = ((dx.natAbs * dx.natAbs : Nat) : Int) := by rw [Int.natCast_mul, ← Int.natAbs_mul_self' dx]
    have hrr : ((r * r : Nat) : Int) = (r : Int) * r := Int.natCast_mul r r
    have hk : dx.natAbs * dx.natAbs + dy.natAbs * dy.natAbs ≤ r * r := by omega
    obtain ⟨r1, r2⟩ := h dy.natAbs (by omega) (by omega) dx.natAbs hk
    refine ⟨by omega, by omega, by omega, by omega, ?_⟩
    by_cases hs : dy ≤ 0
    · have e : ((y : Int) + dy).toNat = y - dy.natAbs := by omega
      rw [e]
      exact r1 _ (by omega) (by omega)
    · have e : ((y : Int) + dy).toNat = y + dy.natAbs := by omega
      rw [e]
      exact r2 _ (by omega) (by omega)
  · intro h off a1 a2 g hg
    have hrr : ((r * r : Nat) : Int) = (r : Int) * r := Int.natCast_mul r r
    have gen : ∀ X, x ≤ X + g → X ≤ x + g → ((X : Int) - x) * ((X : Int) - x) ≤ ((g * g : Nat) : Int) := fun X c1 c2 => by
      have : ((X : Int) - x) * ((X : Int) - x) ≤ (g : Int) * g := by
        have e : (g : Int) * g - ((X : Int) - x) * ((X : Int) - x) = (g - ((X : Int) - x)) * (g + ((X : Int) - x)) := by grind
        have : 0 ≤ ((g : Int) - ((X : Int) - x)) * (g + ((X : Int) - x)) := Int.mul_nonneg (by omega) (by omega)
        omega
      rw [Int.natCast_mul]
      exact this
    have ho : ((off * off : Nat) : Int) = (off : Int) * off := Int.natCast_mul off off
    constructor
    · intro X c1 c2
      have g1 := gen X c1 c2
      have e2 : (-(off : Int)) * (-(off : Int)) = (off : Int) * off := by grind
      have := (h (-(off : Int)) ((X : Int) - x) (by omega)).2.2.2.2
      rw [show ((y : Int) + -(off : Int)).toNat = y - off by omega, show ((x : Int) + ((X : Int) - x)).toNat = X by omega] at this
      exact this
    · intro X c1 c2
      have g1 := gen X c1 c2
      have := (h (off : Int) ((X : Int) - x) (by omega)).2.2.2.2
      rw [show ((y : Int) + (off : Int)).toNat = y + off by omega, show ((x : Int) + ((X : Int) - x)).toNat = X by omega] at this
      exact this
theorem disc_eq (F : Nat) (hF : 100 ≤ F) (S : ST) {y x r : Nat} (hy : y < 24) (hx : x < 24) (hr : r ≤ 11) : ∃ b, fX4_discFits F S (nI y) (nI x) (nI r) = some (b, S) ∧ ((b = 1 ∧ Fit (S.1 12) y x r) ∨ (b = 0 ∧ ¬ Fit (S.1 12) y x r)) := by
  have ty : (nI y - nI r).toInt = (y : Int) - r := pk_sub_toInt (by omega) (by omega)
  have tx : (nI x - nI r).toInt = (x : Int) - r := pk_sub_toInt (by omega) (by omega)
  have e0 : ((0 : Int) * 0 + (r : Int) * r) = (r : Int) * r := by grind
  have e1 : ((r : Int) * r + 0 * 0) = (r : Int) * r := by grind
  have e2 : (-(r : Int)) * (-(r : Int)) = (r : Int) * r := by grind
  unfold fX4_discFits
  rw [nI_add, nI_add]
  by_cases b1 : r ≤ y
  · rw [if_neg (by rw [i_lt, ty]; simp; omega)]
    by_cases b2 : y + r < 24
    · rw [if_neg (c := (24 : Int32) ≤ nI (y + r)) (nI_ge (b := 24) b2 (by omega))]
      by_cases b3 : r ≤ x
      · rw [if_neg (by rw [i_lt, tx]; simp; omega)]
        by_cases b4 : x + r < 24
        · rw [if_pos (c := nI (x + r) < 24) (nI_lt (b := 24) b4 (by omega))]
          obtain ⟨b, c1, c2⟩ := disc36 F hF S hr b1 b2 b3 b4 (r + 1) F 0 r (by omega) (by omega) (Nat.le_refl r) (fun k a1 a2 => by omega)
          rw [fit_disc hr b1 b2 b3 b4] at c2
          exact ⟨b, c1, c2⟩
        · rw [if_neg (c := nI (x + r) < 24) (nI_nlt (b := 24) (by omega) (by omega))]
          exact ⟨0, rfl, Or.inr ⟨rfl, fun h => by have := (h 0 (r : Int) (by omega)).2.2.2.1; omega⟩⟩
      · rw [if_pos (by rw [i_lt, tx]; simp; omega)]
        exact ⟨0, rfl, Or.inr ⟨rfl, fun h => by have := (h 0 (-(r : Int)) (by omega)).2.2.1; omega⟩⟩
    · rw [if_pos (c := (24 : Int32) ≤ nI (y + r)) (nI_le (a := 24) (by omega) (by omega))]
      exact ⟨0, rfl, Or.inr ⟨rfl, fun h => by have := (h (r : Int) 0 (by omega)).2.1; omega⟩⟩
  · rw [if_pos (by rw [i_lt, ty]; simp; omega)]
    exact ⟨0, rfl, Or.inr ⟨rfl, fun h => by have := (h (-(r : Int)) 0 (by omega)).1; omega⟩⟩
