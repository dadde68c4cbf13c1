theorem and2 (a b : Nat) : a &&& b = 2 * (a / 2 &&& b / 2) + min (a % 2) (b % 2) := by
  have h1 : (a &&& b) / 2 = a / 2 &&& b / 2 := Nat.and_div_two
  have h2 : (a &&& b) % 2 = (a % 2) &&& (b % 2) := by
    have := Nat.and_mod_two_pow (a := a) (b := b) (n := 1)
    simpa using this
  have h3 : (a % 2) &&& (b % 2) = min (a % 2) (b % 2) := by
    rcases Nat.mod_two_eq_zero_or_one a with h | h <;> rcases Nat.mod_two_eq_zero_or_one b with g | g <;> rw [h, g] <;> rfl
  rw [← h1, ← h3, ← h2]
  omega
def sub (p s : Nat) : Prop := p &&& s = p
theorem sub2 {p s : Nat} (h : sub p s) : sub (p / 2) (s / 2) ∧ p % 2 ≤ s % 2 := by
  unfold sub at *
  have := and2 p s
  omega
theorem sub2' {p s : Nat} (h : sub (p / 2) (s / 2)) (g : p % 2 ≤ s % 2) : sub p s := by
  unfold sub at *
  have := and2 p s
  omega
theorem sub0 (s : Nat) : sub 0 s := Nat.zero_and s
theorem subR (s : Nat) : sub s s := Nat.and_self s
theorem sub_le {p s : Nat} (h : sub p s) : p ≤ s := by
  unfold sub at h
  rw [← h]
  exact Nat.and_le_right
theorem sub_and (a s : Nat) : sub (a &&& s) s := by
  unfold sub
  rw [Nat.and_assoc, Nat.and_self]
theorem sub_sub : ∀ (f : Nat) {p s : Nat}, s < 2 ^ f → sub p s → sub (s - p) s
  | 0, p, s, h, g => by
    have := sub_le g
    have e : s = 0 := by simpa using h
    subst e
    have e2 : p = 0 := by omega
    subst e2
    exact g
  | f + 1, p, s, h, g => by
    have h1 := sub2 g
    have h2 := sub_le g
    have h3 := sub_le h1.1
    have ih := sub_sub f (p := p / 2) (s := s / 2) (by rw [Nat.pow_succ] at h; omega) h1.1
    have e : (s - p) / 2 = s / 2 - p / 2 := by omega
    apply sub2'
    · rw [e]; exact ih
    · omega
theorem gapD : ∀ (f : Nat) {p s r : Nat}, s < 2 ^ f → sub p s → 0 < p → sub r s → r < p → r ≤ ((p - 1) &&& s)
  | 0, p, s, r, h, g, h0, _, _ => by
    have := sub_le g
    have e : s = 0 := by simpa using h
    omega
  | f + 1, p, s, r, h, g, h0, k, l => by
    have h1 := sub2 g
    have k1 := sub2 k
    have a := and2 (p - 1) s
    rcases Nat.mod_two_eq_zero_or_one p with e | e
    · have ih := gapD f (p := p / 2) (s := s / 2) (r := r / 2) (by rw [Nat.pow_succ] at h; omega) h1.1 (by omega) k1.1 (by omega)
      have e1 : (p - 1) / 2 = p / 2 - 1 := by omega
      rw [e1] at a
      omega
    · have e1 : (p - 1) / 2 = p / 2 := by omega
      have e2 : (p / 2) &&& (s / 2) = p / 2 := h1.1
      rw [e1, e2] at a
      omega
theorem dn_lt {p s : Nat} (h0 : 0 < p) : ((p - 1) &&& s) < p := by
  have : (p - 1) &&& s ≤ p - 1 := Nat.and_le_left
  omega
def cntN : Nat → Nat → Nat
  | 0, _ => 0
  | f + 1, s => s % 2 + cntN f (s / 2)
def rkN : Nat → Nat → Nat → Nat
  | 0, _, _ => 0
  | f + 1, s, p => if s % 2 = 1 then 2 * rkN f (s / 2) (p / 2) + p % 2 else rkN f (s / 2) (p / 2)
theorem rk_dn : ∀ (f : Nat) {p s : Nat}, s < 2 ^ f → sub p s → 0 < p → rkN f s ((p - 1) &&& s) + 1 = rkN f s p
  | 0, p, s, h, g, h0 => by
    have := sub_le g
    have e : s = 0 := by simpa using h
    omega
  | f + 1, p, s, h, g, h0 => by
    have h1 := sub2 g
    have a := and2 (p - 1) s
    have b : ((p - 1) &&& s) / 2 = ((p - 1) / 2) &&& (s / 2) := Nat.and_div_two
    rw [rkN, rkN, b]
    rcases Nat.mod_two_eq_zero_or_one p with e | e
    · have ih := rk_dn f (p := p / 2) (s := s / 2) (by rw [Nat.pow_succ] at h; omega) h1.1 (by omega)
      have e1 : (p - 1) / 2 = p / 2 - 1 := by omega
      rw [e1] at a ⊢
      split <;> omega
    · have e1 : (p - 1) / 2 = p / 2 := by omega
      have e2 : (p / 2) &&& (s / 2) = p / 2 := h1.1
      rw [e1, e2] at a ⊢
      rw [if_pos (by omega), if_pos (by omega)]
      omega
theorem rk_all : ∀ (f s : Nat), rkN f s s + 1 = 2 ^ cntN f s
  | 0, s => rfl
  | f + 1, s => by
    have ih := rk_all f (s / 2)
    rw [rkN, cntN]
    rcases Nat.mod_two_eq_zero_or_one s with e | e
    · rw [if_neg (by omega), e, Nat.zero_add]; exact ih
    · rw [if_pos e, e, Nat.pow_add, ← ih]
      omega
theorem rk_pos : ∀ (f : Nat) {p s : Nat}, s < 2 ^ f → sub p s → 0 < p → 0 < rkN f s p
  | 0, p, s, h, g, h0 => by
    have := sub_le g
    have e : s = 0 := by simpa using h
    omega
  | f + 1, p, s, h, g, h0 => by
    have := rk_dn (f + 1) h g h0
    omega
theorem cnt_pos : ∀ (f : Nat) {p : Nat}, p < 2 ^ f → 0 < p → 0 < cntN f p
  | 0, p, h, h0 => by
    have e : p = 0 := by simpa using h
    omega
  | f + 1, p, h, h0 => by
    rw [cntN]
    by_cases e : p / 2 = 0
    · omega
    · have := cnt_pos f (p := p / 2) (by rw [Nat.pow_succ] at h; omega) (by omega)
      omega
theorem cnt_sub : ∀ (f : Nat) {p s : Nat}, sub p s → cntN f (s - p) + cntN f p = cntN f s
  | 0, _, _, _ => rfl
  | f + 1, p, s, g => by
    have h1 := sub2 g
    have h2 := sub_le g
    have h3 := sub_le h1.1
    have ih := cnt_sub f h1.1
    have e : (s - p) / 2 = s / 2 - p / 2 := by omega
    rw [cntN, cntN, cntN, e]
    omega
theorem cnt_le : ∀ (f s : Nat), cntN f s ≤ f
  | 0, _ => Nat.le_refl _
  | f + 1, s => by
    have := cnt_le f (s / 2)
    rw [cntN]
    omega
theorem cnt_top : ∀ (f b r : Nat), b < f → r < 2 ^ b → cntN f (r + 2 ^ b) = cntN f r + 1
  | 0, b, r, h, _ => by omega
  | f + 1, 0, r, h, g => by
    have e : r = 0 := by simpa using g
    subst e
    rw [cntN, cntN]
    simp
    omega
  | f + 1, b + 1, r, h, g => by
    rw [Nat.pow_succ] at g
    have ih := cnt_top f b (r / 2) (by omega) (by omega)
    have e1 : (r + 2 ^ (b + 1)) / 2 = r / 2 + 2 ^ b := by rw [Nat.pow_succ]; omega
    have e2 : (r + 2 ^ (b + 1)) % 2 = r % 2 := by rw [Nat.pow_succ]; omega
    rw [cntN, cntN, e1, e2, ih]
    omega
def bcv (x : Int32) : Int32 :=
  let v9 := x - (((x.toUInt32 >>> ((1 : Int32).toUInt32 &&& Int32.toUInt32 31)).toInt32) &&& (1431655765 : Int32))
  let v23 := (v9 &&& (858993459 : Int32)) + (((v9.toUInt32 >>> ((2 : Int32).toUInt32 &&& Int32.toUInt32 31)).toInt32) &&& (858993459 : Int32))
  let v33 := (v23 + ((v23.toUInt32 >>> ((4 : Int32).toUInt32 &&& Int32.toUInt32 31)).toInt32)) &&& (252645135 : Int32)
  let v40 := v33 + ((v33.toUInt32 >>> ((8 : Int32).toUInt32 &&& Int32.toUInt32 31)).toInt32)
  let v47 := v40 + ((v40.toUInt32 >>> ((16 : Int32).toUInt32 &&& Int32.toUInt32 31)).toInt32)
  v47 &&& (63 : Int32)
theorem bcv_all : ∀ s, s < 1024 → bcv (nI s) = nI (cntN 10 s) := by decide +kernel
theorem bc_eq (F : Nat) (S : ST) {s : Nat} (h : s < 1024) : fJ6_bitCount_0f7a4 F S (nI s) = some (nI (cntN 10 s), S) := by
  rw [← bcv_all s h]
  rfl
theorem bt_nI (p : Nat) {i : Nat} (hi : i < 32) : bt (nI p) i = p.testBit i := by
  show (BitVec.ofNat 32 p).getLsbD i = _
  rw [BitVec.getLsbD_ofNat]
  simp [hi]
theorem tb_all : ∀ s, s < 1024 → ∀ i, i < 10 → (nI s >>> (nI i &&& 31)) &&& 1 = nI (s.testBit i).toNat := by decide +kernel
def many10 (s : Nat) : Nat := (s.testBit 0).toNat + (s.testBit 1).toNat + (s.testBit 2).toNat + (s.testBit 3).toNat + (s.testBit 4).toNat + (s.testBit 5).toNat + (s.testBit 6).toNat + (s.testBit 7).toNat + (s.testBit 8).toNat + (s.testBit 9).toNat
theorem many10_all : ∀ s, s < 1024 → many10 s = cntN 10 s := by decide +kernel
theorem mny_step (F f : Nat) (S : ST) {s i a : Nat} (h : s < 1024) (hi : i < 10) : fX11_many_4 F (f + 1) S (nI s) (nI a) (nI i) = fX11_many_4 F f S (nI s) (nI (a + (s.testBit i).toNat)) (nI (i + 1)) := by
  rw [fX11_many_4, if_neg (c := (10 : Int32) ≤ nI i) (nI_ge (b := 10) hi (by omega)), tb_all s h i hi, nI_add, nI_1]
  rfl
theorem mny_eq (F : Nat) (hF : 100 ≤ F) (S : ST) {s : Nat} (h : s < 1024) : fX11_many F S (nI s) = some (nI (cntN 10 s), S) := by
  obtain ⟨f, rfl⟩ : ∃ f, F = f + 11 := ⟨F - 11, by omega⟩
  show fX11_many_4 (f + 11) (f + 11) S (nI s) (nI 0) (nI 0) = _
  rw [mny_step _ _ _ h (by omega), mny_step _ _ _ h (by omega), mny_step _ _ _ h (by omega), mny_step _ _ _ h (by omega), mny_step _ _ _ h (by omega), mny_step _ _ _ h (by omega), mny_step _ _ _ h (by omega), mny_step _ _ _ h (by omega), mny_step _ _ _ h (by omega), mny_step _ _ _ h (by omega), fX11_many_4, if_pos (by decide)]
  rw [← many10_all s h, many10, Nat.zero_add]
theorem nI_and (a b : Nat) (ha : a < 4294967296) : nI a &&& nI b = nI (a &&& b) := by
  apply b_ext
  intro i hi
  rw [b_and, bt_nI _ hi, bt_nI _ hi, bt_nI _ hi, Nat.testBit_and]
theorem int_cm (x y : Int32) : (x &&& (y ^^^ -1)) + (x &&& y) = x := by
  apply Int32.toBitVec_inj.mp
  rw [Int32.toBitVec_add, BitVec.add_eq_or_of_and_eq_zero]
  · apply BitVec.eq_of_getLsbD_eq
    intro i hi
    have h1 := b_and x (y ^^^ -1) i
    have h2 := b_and x y i
    have h3 := b_xor y (-1) i
    have h4 := b_m1 i hi
    unfold bt at h1 h2 h3 h4
    rw [BitVec.getLsbD_or, h1, h2, h3, h4]
    cases x.toBitVec.getLsbD i <;> cases y.toBitVec.getLsbD i <;> rfl
  · apply BitVec.eq_of_getLsbD_eq
    intro i hi
    have h1 := b_and x (y ^^^ -1) i
    have h2 := b_and x y i
    have h3 := b_xor y (-1) i
    have h4 := b_m1 i hi
    unfold bt at h1 h2 h3 h4
    rw [BitVec.getLsbD_and, h1, h2, h3, h4]
    cases x.toBitVec.getLsbD i <;> cases y.toBitVec.getLsbD i <;> simp
theorem cmS_eq {p s : Nat} (h : sub p s) (hs : s < 1024) : nI s &&& (nI p ^^^ -1) = nI (s - p) := by
  have h1 := int_cm (nI s) (nI p)
  have h2 := sub_le h
  have h3 : s &&& p = p := by rw [Nat.and_comm]; exact h
  rw [nI_and _ _ (by omega), h3] at h1
  rw [← pk_sub h2]
  grind
theorem dn_eq {p s : Nat} (h0 : 0 < p) (hp : p < 1024) : (nI p - 1) &&& nI s = nI ((p - 1) &&& s) := by
  obtain ⟨q, rfl⟩ : ∃ q, p = q + 1 := ⟨p - 1, by omega⟩
  rw [nI_pred, nI_and _ _ (by omega)]
  rfl
theorem up_eq {c s : Nat} (h : sub c s) (hc : 0 < c) (hs : s < 1024) : (nI (s - c) - nI s) &&& nI s = nI (s - ((c - 1) &&& s)) := by
  have h2 := sub_le h
  have e1 : nI (s - c) - nI s = (nI (c - 1)) ^^^ -1 := by
    have a : (nI (c - 1)) ^^^ -1 = -(nI (c - 1)) - 1 := by
      have h1 := int_cm (-1) (nI (c - 1))
      have h3 : (-1 : Int32) &&& (nI (c - 1) ^^^ -1) = nI (c - 1) ^^^ -1 := by
        apply b_ext; intro i hi; rw [b_and, b_m1 i hi]; rfl
      have h4 : (-1 : Int32) &&& nI (c - 1) = nI (c - 1) := by
        apply b_ext; intro i hi; rw [b_and, b_m1 i hi]; rfl
      rw [h3, h4] at h1
      grind
    rw [a, ← pk_sub h2, ← pk_sub (show 1 ≤ c by omega)]
    have : nI 1 = 1 := rfl
    grind
  rw [e1]
  have h5 : (nI (c - 1) ^^^ -1) &&& nI s = nI s &&& (nI (c - 1) ^^^ -1) := by
    apply b_ext; intro i hi; rw [b_and, b_and, Bool.and_comm]
  rw [h5]
  have h1 := int_cm (nI s) (nI (c - 1))
  rw [nI_and _ _ (by omega), Nat.and_comm s (c - 1)] at h1
  have h6 : (c - 1) &&& s ≤ s := Nat.and_le_right
  rw [← pk_sub h6]
  grind
theorem mask_ck {q s : Nat} (hq : q < 1024) (hs : s < 1024) : (nI q &&& (nI s ^^^ -1)) = 0 ↔ sub q s := by
  have h1 := int_cm (nI q) (nI s)
  rw [nI_and _ _ (by omega)] at h1
  unfold sub
  have h6 : q &&& s ≤ q := Nat.and_le_left
  constructor
  · intro h
    rw [h] at h1
    have : nI (q &&& s) = nI q := by grind
    exact (nI_eq (by omega) (by omega)).mp this
  · intro h
    rw [h] at h1
    grind
theorem jmax_nI {a b : Nat} (ha : a < 2147483648) (hb : b < 2147483648) : jmax (nI a) (nI b) = nI (max a b) := by
  unfold jmax
  by_cases h : a < b
  · rw [if_pos (nI_lt h hb), Nat.max_eq_right (by omega)]
  · rw [if_neg (nI_nlt (by omega) ha), Nat.max_eq_left (by omega)]
theorem jmin_nI {a b : Nat} (ha : a < 2147483648) (hb : b < 2147483648) : jmin (nI a) (nI b) = nI (min a b) := by
  unfold jmin
  by_cases h : b < a
  · rw [if_pos (nI_lt h ha), Nat.min_eq_right (by omega)]
  · rw [if_neg (nI_nlt (by omega) hb), Nat.min_eq_left (by omega)]
