def abD (f : Nat → Int32) (K n : Nat) : Nat → Int32
  | 0 => sumD f K n
  | l + 1 => abD f K n l - f (dig K l)
def evn (l : Nat) : Prop := nI l - nI l / 2 * 2 = 0
noncomputable def wpD (f : Nat → Int32) (K n : Nat) : Nat → Int32
  | 0 => 0
  | l + 1 => wpD f K n l + @ite _ (evn l) (Classical.propDecidable _) (f (dig K l) * (sumD f K l - (abD f K n l - f (dig K l)))) (-(f (dig K l) * (sumD f K l - (abD f K n l - f (dig K l)))))
theorem warpC_lp (F : Nat) (S : ST) {K n : Nat} (hK : K < 2 ^ 31) (hn : n ≤ 9) (ho : okK K n) : ∀ (d f l : Nat), d + l = n → d < f → fX9_warpOf_19 F f S (nI n) (nI K) (sumD (S.1 37) K l) (abD (S.1 37) K n l) (wpD (S.1 37) K n l) (nI l) = some (wpD (S.1 37) K n n, S)
  | 0, f + 1, l, h1, h2 => by
    have e : l = n := by omega
    rw [fX9_warpOf_19, if_pos (nI_le (by omega) (by omega)), e]
  | d + 1, f + 1, l, h1, h2 => by
    have ih := warpC_lp F S hK hn ho d f (l + 1) (by omega) (by omega)
    rw [fX9_warpOf_19, if_neg (nI_ge (by omega) (by omega)), kindAt_eq F S (by omega) (by omega)]
    show (fX9_ofKind F S 37 (nI (dig K l))).bind _ = _
    rw [ofKind_eq F S 37 (ho l (by omega))]
    show (if nI l - nI l / 2 * 2 = 0 then fX9_warpOf_73 F (fX9_warpOf_19 F f) S (nI n) (nI K) (sumD (S.1 37) K l) (abD (S.1 37) K n l - S.1 37 (dig K l)) (nI l) (S.1 37 (dig K l)) (S.1 37 (dig K l) * (sumD (S.1 37) K l - (abD (S.1 37) K n l - S.1 37 (dig K l)))) (wpD (S.1 37) K n l) else fX9_warpOf_73 F (fX9_warpOf_19 F f) S (nI n) (nI K) (sumD (S.1 37) K l) (abD (S.1 37) K n l - S.1 37 (dig K l)) (nI l) (S.1 37 (dig K l)) (-(S.1 37 (dig K l) * (sumD (S.1 37) K l - (abD (S.1 37) K n l - S.1 37 (dig K l))))) (wpD (S.1 37) K n l)) = _
    rw [wpD, abD, sumD, ← nI_1] at ih
    by_cases he : evn l
    · rw [if_pos he] at ih
      rw [if_pos (show nI l - nI l / 2 * 2 = 0 from he)]
      exact ih
    · rw [if_neg he] at ih
      rw [if_neg (show ¬ nI l - nI l / 2 * 2 = 0 from he)]
      exact ih
theorem warpC_eq (S : ST) {K n : Nat} (hK : K < 2 ^ 31) (hn : n ≤ 9) (ho : okK K n) : fX9_warpOf FU S (nI n) (nI K) = some (wpD (S.1 37) K n n, S) := by
  unfold fX9_warpOf
  rw [sumOf_eq S 37 hK hn ho]
  exact warpC_lp FU S hK hn ho n FU 0 (by omega) (by show n < 20000; omega)
def dkD (f : Nat → Int32) (K k : Nat) : Nat → Int32
  | 0 => 0
  | j + 1 => dkD f K k j + if j < k then f (dig K j) else if j = k then 0 else -(f (dig K j))
noncomputable def wmD (f : Nat → Int32) (K n : Nat) : Nat → Int32
  | 0 => 0
  | l + 1 => wmD f K n l + (@ite _ (evn l) (Classical.propDecidable _) (1 : Int32) (-1)) * f (dig K l) * dkD f K l n
theorem warpM_in (F : Nat) (S : ST) (kk : ST → Int32 → Int32 → Int32 → Option (Int32 × ST)) {K n k : Nat} (hn : n ≤ 9) (hk : k < n) (ho : okK K n) (hS : ∀ j, j < n → S.1 26 j = nI (dig K j)) (v : Int32) : ∀ (d f j : Nat), d + j = n → d < f → fX11_warp_30 F kk f S (nI n) v (nI k) (dkD (S.1 23) K k j) (nI j) = kk S (nI n) (v + (@ite _ (evn k) (Classical.propDecidable _) (1 : Int32) (-1)) * S.1 23 (dig K k) * dkD (S.1 23) K k n) (nI (k + 1))
  | 0, f + 1, j, h1, h2 => by
    have e : j = n := by omega
    have hv : vin (nI k) 9 = true := vin_nI (by omega) (by omega)
    have hv2 : vin (nI (dig K k)) 6 = true := vin_nI (ho k hk) (by omega)
    have h6 := ho k hk
    rw [fX11_warp_30, if_pos (nI_le (by omega) (by omega)), e]
    unfold fX11_warp_106
    rw [ix_nI (by omega), hS k hk, ix_nI (by omega), if_pos hv, if_pos hv2, if_pos hv, if_pos hv2, nI_1]
    by_cases he : evn k
    · rw [if_pos he, if_pos (show nI k - nI k / 2 * 2 = 0 from he)]
      rfl
    · rw [if_neg he, if_neg (show ¬ nI k - nI k / 2 * 2 = 0 from he)]
      rfl
  | d + 1, f + 1, j, h1, h2 => by
    have ih := warpM_in F S kk hn hk ho hS v d f (j + 1) (by omega) (by omega)
    have hv : vin (nI j) 9 = true := vin_nI (by omega) (by omega)
    have hv2 : vin (nI (dig K j)) 6 = true := vin_nI (ho j (by omega)) (by omega)
    have h6 := ho j (by omega)
    rw [dkD, ← nI_1] at ih
    rw [fX11_warp_30, if_neg (nI_ge (by omega) (by omega)), ix_nI (by omega), hS j (by omega), ix_nI (by omega)]
    by_cases hjk : j < k
    · rw [if_neg (nI_ge hjk (by omega)), if_pos hv, if_pos hv2]
      rw [if_pos hjk] at ih
      exact ih
    · rw [if_neg hjk] at ih
      by_cases hj2 : j = k
      · rw [if_pos hj2] at ih
        rw [if_pos (nI_le (by omega) (by omega)), if_pos (nI_le (by omega) (by omega))]
        exact ih
      · rw [if_neg hj2] at ih
        rw [if_pos (nI_le (by omega) (by omega)), if_neg (nI_ge (by omega) (by omega)), if_pos hv, if_pos hv2]
        exact ih
theorem warpM_lp (F : Nat) (hF : 20 ≤ F) (S : ST) {K n : Nat} (hn : n ≤ 9) (ho : okK K n) (hS : ∀ j, j < n → S.1 26 j = nI (dig K j)) : ∀ (d f l : Nat), d + l = n → d < f → fX11_warp_18 F f S (nI n) (wmD (S.1 23) K n l) (nI l) = some (wmD (S.1 23) K n n, S)
  | 0, f + 1, l, h1, h2 => by
    have e : l = n := by omega
    rw [fX11_warp_18, if_pos (nI_le (by omega) (by omega)), e]
  | d + 1, f + 1, l, h1, h2 => by
    rw [fX11_warp_18, if_neg (nI_ge (by omega) (by omega))]
    have h3 := warpM_in F S (fX11_warp_18 F f) hn (show l < n by omega) ho hS (wmD (S.1 23) K n l) n F 0 (by omega) (by omega)
    rw [show dkD (S.1 23) K l 0 = 0 from rfl, show nI 0 = 0 from rfl] at h3
    rw [h3]
    exact warpM_lp F hF S hn ho hS d f (l + 1) (by omega) (by omega)
theorem dk_lo (f : Nat → Int32) (K k : Nat) : ∀ j, j ≤ k → dkD f K k j = sumD f K j
  | 0, _ => rfl
  | j + 1, h => by rw [dkD, sumD, dk_lo f K k j (by omega), if_pos (by omega)]
theorem dk_hi (f : Nat → Int32) (K k : Nat) : ∀ d, dkD f K k (k + 1 + d) = sumD f K k - (sumD f K (k + 1 + d) - sumD f K (k + 1))
  | 0 => by
    rw [Nat.add_zero, dkD, dk_lo f K k k (Nat.le_refl k), if_neg (by omega), if_pos rfl]
    grind
  | d + 1 => by
    rw [show k + 1 + (d + 1) = (k + 1 + d) + 1 from rfl, dkD, dk_hi f K k d, if_neg (by omega), if_neg (by omega), show sumD f K (k + 1 + d + 1) = sumD f K (k + 1 + d) + f (dig K (k + 1 + d)) from rfl]
    grind
theorem ab_eq (f : Nat → Int32) (K n : Nat) : ∀ l, abD f K n l = sumD f K n - sumD f K l
  | 0 => by
    rw [abD, sumD]
    grind
  | l + 1 => by
    rw [abD, sumD, ab_eq f K n l]
    grind
theorem wp_wm (f : Nat → Int32) (K n : Nat) : ∀ l, l ≤ n → wmD f K n l = wpD f K n l
  | 0, _ => rfl
  | l + 1, h => by
    have e1 : dkD f K l n = sumD f K l - (abD f K n l - f (dig K l)) := by
      have h2 := dk_hi f K l (n - (l + 1))
      rw [show l + 1 + (n - (l + 1)) = n by omega] at h2
      rw [h2, ab_eq, sumD]
      grind
    rw [wmD, wpD, wp_wm f K n l (by omega), e1]
    by_cases he : evn l
    · rw [if_pos he, if_pos he, Int32.one_mul]
    · rw [if_neg he, if_neg he]
      grind
theorem wp_congr {f g : Nat → Int32} {K n : Nat} (h : ∀ l, l < n → f (dig K l) = g (dig K l)) : ∀ l, l ≤ n → wpD f K n l = wpD g K n l ∧ abD f K n l = abD g K n l
  | 0, _ => ⟨rfl, by rw [abD, abD, sumD_congr h]⟩
  | l + 1, hl => by
    obtain ⟨h1, h2⟩ := wp_congr h l (by omega)
    have h3 : sumD f K l = sumD g K l := sumD_congr (fun j hj => h j (by omega))
    rw [wpD, wpD, abD, abD, h1, h2, h3, h l (by omega)]
    exact ⟨rfl, rfl⟩
theorem st_warp (x1 x2 : Int32) : Sim Rel (fun S => fX10_warp FU S x1 x2) (fun S => fX11_warp FU S x1 x2) := by
  intro SC SM hR
  have hV := hR.2.2.2.2.2.2.2.1
  show ∃ r SC2 SM2, fX10_warp FU SC x1 x2 = _ ∧ fX11_warp FU SM x1 x2 = _ ∧ _
  unfold fX10_warp fX11_warp
  obtain ⟨r1, h1, h2⟩ := canBe_eq SC x1 x2
  obtain ⟨r2, g, h3, h4⟩ := lays_eq SM x1 x2
  rw [h1, h3]
  by_cases hl : laid x1 x2
  · have e1 : r1 = 1 := by
      rcases h2 with ⟨a, _⟩ | ⟨_, b⟩
      · exact a
      · exact absurd hl b
    obtain ⟨e2, h5⟩ : r2 = 1 ∧ ∀ K, x2 = nI K → K < 8 ^ (ix x1) → ∀ j, j < ix x1 → g j = nI (dig K j) := by
      rcases h4 with ⟨a, _, c⟩ | ⟨_, b⟩
      · exact ⟨a, c⟩
      · exact absurd hl b
    subst e1
    subst e2
    obtain ⟨a1, a2, K, rfl, a4, a5⟩ := hl
    obtain ⟨n, rfl, n2, n3⟩ := i_ex (x := x1) (by omega)
    rw [ix_nI n3] at a4 a5 h5
    have h8 := p8_9 (n := n) (by omega)
    have hS := h5 K rfl a4
    have eq1 : ∀ l, l < n → SC.1 37 (dig K l) = SM.1 23 (dig K l) := fun l hl => by
      obtain ⟨t, o, p, _, _, _, _, _, b1, b2, _⟩ := hV (dig K l) (a5 l hl)
      exact b1.trans b2.symm
    have mw := warpM_lp FU (by decide) (fun a => if a = 26 then g else SM.1 a, SM.2) (K := K) (n := n) (by omega) a5 hS n FU 0 (by omega) (by show n < 20000; omega)
    refine ⟨wpD (SC.1 37) K n n, SC, (fun a => if a = 26 then g else SM.1 a, SM.2), ?_, ?_, set26 hR⟩
    · show (fX9_warpOf FU SC (nI n) (nI K)).bind _ = _
      rw [warpC_eq SC (by omega) (by omega) a5]
      rfl
    · show fX11_warp_18 FU FU _ (nI n) 0 0 = _
      rw [show (0 : Int32) = nI 0 from rfl]
      refine Eq.trans mw ?_
      rw [wp_wm _ _ _ n (Nat.le_refl n), (wp_congr eq1 n (Nat.le_refl n)).1]
      rfl
  · have e1 : r1 = 0 := by
      rcases h2 with ⟨_, b⟩ | ⟨a, _⟩
      · exact absurd b hl
      · exact a
    have e2 : r2 = 0 := by
      rcases h4 with ⟨_, b, _⟩ | ⟨a, _⟩
      · exact absurd b hl
      · exact a
    subst e1
    subst e2
    exact ⟨-2000000, SC, (fun a => if a = 26 then g else SM.1 a, SM.2), rfl, rfl, set26 hR⟩
