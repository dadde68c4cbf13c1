def lng (mk : Nat → Nat) (a : Nat) : Nat → Nat
  | 0 => 0
  | j + 1 => max (lng mk a j) (min (j + 1) (runB mk (a + (j + 1))))
def cR (mk : Nat → Nat) (m a w : Nat) : Nat := cntS mk m (a + w) - cntS mk m a
theorem cntS_le (mk : Nat → Nat) (m : Nat) : ∀ i, cntS mk m i ≤ i
  | 0 => Nat.le_refl _
  | i + 1 => by
    have := cntS_le mk m i
    rw [cntS]
    split <;> omega
theorem cntS_mono (mk : Nat → Nat) (m a : Nat) : ∀ w, cntS mk m a ≤ cntS mk m (a + w)
  | 0 => Nat.le_refl _
  | w + 1 => by
    have := cntS_mono mk m a w
    show _ ≤ cntS mk m (a + w) + _
    omega
theorem runB_le (mk : Nat → Nat) : ∀ i, runB mk i ≤ i
  | 0 => Nat.le_refl _
  | i + 1 => by
    have := runB_le mk i
    rw [runB]
    split <;> omega
theorem lng_le (mk : Nat → Nat) (a : Nat) : ∀ j, lng mk a j ≤ j
  | 0 => Nat.le_refl _
  | j + 1 => by
    have := lng_le mk a j
    rw [lng]
    omega
theorem cR_s (mk : Nat → Nat) (m a j : Nat) : cR mk m a (j + 1) = cR mk m a j + if mk (a + j) = m then 1 else 0 := by
  have := cntS_mono mk m a j
  show cntS mk m (a + j) + (if mk (a + j) = m then 1 else 0) - cntS mk m a = cntS mk m (a + j) - cntS mk m a + _
  omega
theorem cR_le (mk : Nat → Nat) (m a w : Nat) : cR mk m a w ≤ w := by
  induction w with
  | zero => show cntS mk m a - cntS mk m a ≤ 0; omega
  | succ w ih => rw [cR_s]; split <;> omega
def LC (S : ST) (n : Nat) (mk : Nat → Nat) : Prop := n ≤ 300 ∧ S.1 7 5 = nI n ∧ (∀ i, i < n → mk i < 5) ∧ ∀ i, i ≤ n → S.1 26 i = nI (cntS mk 0 i) ∧ S.1 27 i = nI (cntS mk 1 i) ∧ S.1 28 i = nI (cntS mk 2 i) ∧ S.1 29 i = nI (cntS mk 3 i) ∧ S.1 30 i = nI (runB mk i)
def LM (S : ST) (n : Nat) (mk : Nat → Nat) : Prop := S.1 0 32 = nI n ∧ ∀ i, i < n → S.1 14 i = nI (mk i)
theorem LC.fr {S S2 : ST} {n : Nat} {mk : Nat → Nat} (h : LC S n mk) (a : S2.1 7 = S.1 7) (b : S2.1 26 = S.1 26) (c : S2.1 27 = S.1 27) (d : S2.1 28 = S.1 28) (e : S2.1 29 = S.1 29) (f : S2.1 30 = S.1 30) : LC S2 n mk := by
  unfold LC at *
  rw [a, b, c, d, e, f]
  exact h
theorem runs_lp (F : Nat) {n : Nat} {mk : Nat → Nat} {a : Nat} (ha : a ≤ n) : ∀ (d f j : Nat) (S : ST), j + d = 100 → d < f → LC S n mk → a + j ≤ n → (∀ i, 1 ≤ i → i ≤ j → S.1 31 i = nI (lng mk a i)) → ∃ S2, fX3_listRuns_5 F f S (nI a) (nI (lng mk a j)) (nI (j + 1)) = some (0, S2) ∧ (∀ i, 1 ≤ i → i ≤ 100 → a + i ≤ n → S2.1 31 i = nI (lng mk a i)) ∧ (∀ c, c ≠ 31 → S2.1 c = S.1 c) ∧ S2.2 = S.2
  | 0, f + 1, j, S, h1, h2, hL, hj, hr => by
    have hn := hL.1
    refine ⟨S, ?_, fun i g1 g2 g3 => hr i g1 (by omega), fun _ _ => rfl, rfl⟩
    rw [fX3_listRuns_5, if_neg (nI_pos (by omega)), nI_add, hL.2.1]
    by_cases e : n < a + (j + 1)
    · rw [if_pos (nI_lt e (by omega))]
    · rw [if_neg (nI_nlt (by omega) (by omega)), if_pos (show (101 : Int32) ≤ nI (j + 1) from nI_le (a := 101) (by omega) (by omega))]
  | d + 1, f + 1, j, S, h1, h2, hL, hj, hr => by
    have hn := hL.1
    rw [fX3_listRuns_5, if_neg (nI_pos (by omega)), nI_add, hL.2.1]
    by_cases e : n < a + (j + 1)
    · refine ⟨S, ?_, fun i g1 g2 g3 => hr i g1 (by omega), fun _ _ => rfl, rfl⟩
      rw [if_pos (nI_lt e (by omega))]
    · have hb := runB_le mk (a + (j + 1))
      have hl := lng_le mk a j
      obtain ⟨S2, q1, q2, q3, q4⟩ := runs_lp F ha d f (j + 1) (us S 31 (j + 1) (nI (lng mk a (j + 1)))) (by omega) (by omega) (hL.fr rfl rfl rfl rfl rfl rfl) (by omega) (fun i g1 g2 => by
        rw [us_rd, if_pos rfl]
        by_cases hi : i = j + 1
        · rw [if_pos hi, hi]
        · rw [if_neg hi]
          exact hr i g1 (by omega))
      refine ⟨S2, ?_, q2, fun c hc => by rw [q3 c hc, us_row, if_neg hc], q4⟩
      rw [if_neg (nI_nlt (by omega) (by omega)), if_neg (show ¬ (101 : Int32) ≤ nI (j + 1) from nI_ge (b := 101) (by omega) (by omega)), if_pos (vin_nI (by omega) (by omega)), ix_nI (by omega), (hL.2.2.2 (a + (j + 1)) (by omega)).2.2.2.2, jmin_nI (by omega) (by omega), jmax_nI (by omega) (by omega), bindI_eq, if_pos (vin_nI (by omega) (by omega)), ix_nI (by omega), nI_1]
      exact q1
def RN (S : ST) (n : Nat) (mk : Nat → Nat) (a : Nat) : Prop := S.1 8 2 = nI a ∧ ∀ i, 1 ≤ i → i ≤ 100 → a + i ≤ n → S.1 31 i = nI (lng mk a i)
theorem begin_eq (F : Nat) (hF : 200 ≤ F) (S : ST) {n : Nat} {mk : Nat → Nat} (hL : LC S n mk) {a : Nat} (ha : a ≤ n) : ∃ S2, fX5_beginAt F S (nI a) = some (0, S2) ∧ RN S2 n mk a ∧ (∀ c, c ≠ 31 → S2.1 c = (us S 8 2 (nI a)).1 c) ∧ S2.2 = S.2 := by
  obtain ⟨S2, q1, q2, q3, q4⟩ := runs_lp F ha 100 F 0 (us S 8 2 (nI a)) (by omega) (by omega) (hL.fr rfl rfl rfl rfl rfl rfl) ha (fun i g1 g2 => by omega)
  refine ⟨S2, ?_, ⟨by rw [q3 8 (by decide)]; rfl, q2⟩, q3, q4⟩
  unfold fX5_beginAt
  show (fX3_listRuns_5 F F (us S 8 2 (nI a)) (nI a) 0 1).bind _ = _
  rw [show fX3_listRuns_5 F F (us S 8 2 (nI a)) (nI a) 0 1 = _ from q1]
  rfl
theorem between_eq (F : Nat) (S : ST) (ka : Nat) {a b : Nat} (h : a ≤ b) (hb : b ≤ 300) : fX3_between F S ka (nI a) (nI b) = some (S.1 ka b - S.1 ka a, S) := by
  unfold fX3_between
  rw [if_neg (nI_pos (by omega)), if_neg (nI_nlt h (by omega)), if_pos (show nI b < 301 from nI_lt (b := 301) (by omega) (by omega)), if_pos (vin_nI (by omega) (by omega)), if_pos (vin_nI (by omega) (by omega)), ix_nI (by omega), ix_nI (by omega)]
def PT (S : ST) (mk : Nat → Nat) (a w : Nat) : Prop := S.1 8 3 = nI (cR mk 0 a w) ∧ S.1 8 4 = nI (cR mk 1 a w) ∧ S.1 8 5 = nI (cR mk 2 a w) ∧ S.1 8 6 = nI (cR mk 3 a w) ∧ S.1 8 7 = nI (lng mk a w)
theorem ending_eq (F : Nat) (S : ST) {n : Nat} {mk : Nat → Nat} (hL : LC S n mk) {a w : Nat} (hR : RN S n mk a) (h1 : 1 ≤ w) (h2 : w ≤ 100) (h3 : a + w ≤ n) : ∃ S2, fX5_endBefore F S (nI (a + w)) = some (0, S2) ∧ PT S2 mk a w ∧ RN S2 n mk a ∧ (∀ c, c ≠ 8 → S2.1 c = S.1 c) ∧ S2.2 = S.2 := by
  have hn := hL.1
  have q := fun i (hi : i ≤ n) => hL.2.2.2 i hi
  refine ⟨us (us (us (us (us S 8 3 (nI (cR mk 0 a w))) 8 4 (nI (cR mk 1 a w))) 8 5 (nI (cR mk 2 a w))) 8 6 (nI (cR mk 3 a w))) 8 7 (nI (lng mk a w)), ?_, ⟨rfl, rfl, rfl, rfl, rfl⟩, ⟨hR.1, hR.2⟩, fun c hc => by simp [us_row, hc], rfl⟩
  have d : ∀ m, nI (cntS mk m (a + w)) - nI (cntS mk m a) = nI (cR mk m a w) := fun m => pk_sub (cntS_mono mk m a w)
  unfold fX5_endBefore
  rw [hR.1, between_eq F S 26 (by omega) (by omega), Option.bind_some, (q _ h3).1, (q a (by omega)).1, d]
  show (fX3_between F (us S 8 3 (nI (cR mk 0 a w))) 27 (S.1 8 2) (nI (a + w))).bind _ = _
  rw [hR.1, between_eq F _ 27 (by omega) (by omega), Option.bind_some]
  show bindS (us (us S 8 3 (nI (cR mk 0 a w))) 8 4 (S.1 27 (a + w) - S.1 27 a)) _ = _
  rw [(q _ h3).2.1, (q a (by omega)).2.1, d]
  show (fX3_between F (us (us S 8 3 (nI (cR mk 0 a w))) 8 4 (nI (cR mk 1 a w))) 28 (S.1 8 2) (nI (a + w))).bind _ = _
  rw [hR.1, between_eq F _ 28 (by omega) (by omega), Option.bind_some]
  show bindS (us (us (us S 8 3 (nI (cR mk 0 a w))) 8 4 (nI (cR mk 1 a w))) 8 5 (S.1 28 (a + w) - S.1 28 a)) _ = _
  rw [(q _ h3).2.2.1, (q a (by omega)).2.2.1, d]
  show (fX3_between F (us (us (us S 8 3 (nI (cR mk 0 a w))) 8 4 (nI (cR mk 1 a w))) 8 5 (nI (cR mk 2 a w))) 29 (S.1 8 2) (nI (a + w))).bind _ = _
  rw [hR.1, between_eq F _ 29 (by omega) (by omega), Option.bind_some]
  show bindS (us (us (us (us S 8 3 (nI (cR mk 0 a w))) 8 4 (nI (cR mk 1 a w))) 8 5 (nI (cR mk 2 a w))) 8 6 (S.1 29 (a + w) - S.1 29 a)) _ = _
  rw [(q _ h3).2.2.2.1, (q a (by omega)).2.2.2.1, d]
  show (if nI (a + w) - S.1 8 2 < 0 then _ else if (101 : Int32) ≤ nI (a + w) - S.1 8 2 then _ else (if vin (nI (a + w) - S.1 8 2) 101 = true then fX5_endBefore_107 F (us (us (us (us S 8 3 (nI (cR mk 0 a w))) 8 4 (nI (cR mk 1 a w))) 8 5 (nI (cR mk 2 a w))) 8 6 (nI (cR mk 3 a w))) (S.1 31 (ix (nI (a + w) - S.1 8 2))) else none)) = _
  rw [hR.1, pk_sub (by omega), show a + w - a = w by omega, if_neg (nI_pos (by omega)), if_neg (show ¬ (101 : Int32) ≤ nI w from nI_ge (b := 101) (by omega) (by omega)), if_pos (vin_nI (by omega) (by omega)), ix_nI (by omega), hR.2 w h1 h2 h3]
  rfl
def envN (mk : Nat → Nat) (a w k : Nat) (c : Int32) : Int32 := if c = -5 then nI (lng mk a w) else if c = -4 then nI (cR mk 3 a w) + nI k else if c = -3 then nI (cR mk 2 a w) - nI k else if c = -2 then nI (cR mk 1 a w) else if c = -1 then nI (cR mk 0 a w) else 0
def shP (P : Nat) (code : Nat → Int32) (e : Nat → Nat) (mk : Nat → Nat) (a w g k : Nat) : Prop := k ≤ P ∧ k ≤ cR mk 2 a w ∧ hvI (envN mk a w k) code (e g) (e (g + 1) - e g) = 1
noncomputable def bI (p : Prop) : Int32 := @ite _ p (Classical.propDecidable _) 1 0
theorem bI_T {p : Prop} (h : p) : bI p = 1 := by unfold bI; rw [if_pos h]
theorem bI_F {p : Prop} (h : ¬ p) : bI p = 0 := by unfold bI; rw [if_neg h]
def frX (S S2 : ST) : Prop := (∀ a, a ≠ 6 → a ≠ 8 → a ≠ 25 → a ≠ 31 → S2.1 a = S.1 a) ∧ (∀ j, j ≠ 7 → S2.1 6 j = S.1 6 j) ∧ S2.2 = S.2
theorem pis_eq (F : Nat) (hF : 400 ≤ F) (S : ST) {n : Nat} {e wi wo mk : Nat → Nat} (hG : GC S n e wi wo) {g : Nat} (hg : g < n) {a w k P : Nat} (hT : PT S mk a w) (hw : w ≤ 100) (hP : S.1 9 8 = nI P) (hPb : P ≤ 3) (hk : k ≤ 1000) : ∃ S2, fX0_partIsSheet F S (nI g) (nI k) = some (bI (shP P (S.1 24) e mk a w g k), S2) ∧ (∀ c, c ≠ 6 → c ≠ 8 → c ≠ 25 → S2.1 c = S.1 c) ∧ (∀ j, j ≠ 7 → S2.1 6 j = S.1 6 j) ∧ (∀ j, j ≠ 8 → S2.1 8 j = S.1 8 j) ∧ S2.2 = S.2 := by
  have hr := cR_le mk 2 a w
  obtain ⟨t1, t2, t3, t4, t5⟩ := hT
  have henv : envC (us S 8 8 (nI k)) = envN mk a w k := by
    funext c
    unfold envC envN
    rw [← t1, ← t2, ← t3, ← t4, ← t5]
    rfl
  unfold fX0_partIsSheet
  show ∃ S2, (if S.1 9 8 < nI k then fX0_partIsSheet_46 F (us S 8 8 (nI k)) else if S.1 8 5 < nI k then fX0_partIsSheet_46 F (us S 8 8 (nI k)) else _) = _ ∧ _
  rw [hP, t3]
  by_cases c1 : P < k
  · rw [if_pos (nI_lt c1 (by omega)), bI_F (fun h => by have := h.1; omega)]
    exact ⟨us S 8 8 (nI k), rfl, fun c _ h _ => by simp [us_row, h], fun j _ => by simp [us_rd], fun j hj => by simp [us_rd, hj], rfl⟩
  · rw [if_neg (nI_nlt (by omega) (by omega))]
    by_cases c2 : cR mk 2 a w < k
    · rw [if_pos (nI_lt c2 (by omega)), bI_F (fun h => by have := h.2.1; omega)]
      exact ⟨us S 8 8 (nI k), rfl, fun c _ h _ => by simp [us_row, h], fun j _ => by simp [us_rd], fun j hj => by simp [us_rd, hj], rfl⟩
    · rw [if_neg (nI_nlt (by omega) (by omega))]
      obtain ⟨S2, q1, q2, q3⟩ := holdsC_eq F hF (us S 8 8 (nI k)) (hG.fr (S2 := us S 8 8 (nI k)) rfl rfl rfl rfl rfl) hg
      rw [henv] at q1 q3
      have q1' : fX2_holds F (us S 8 8 (nI k)) (nI g) = some (hvI (envN mk a w k) (S.1 24) (e g) (e (g + 1) - e g), S2) := q1
      have q3' : hvI (envN mk a w k) (S.1 24) (e g) (e (g + 1) - e g) = 0 ∨ hvI (envN mk a w k) (S.1 24) (e g) (e (g + 1) - e g) = 1 := q3
      rw [q1', Option.bind_some]
      have hfr : (∀ c, c ≠ 6 → c ≠ 8 → c ≠ 25 → S2.1 c = S.1 c) ∧ (∀ j, j ≠ 7 → S2.1 6 j = S.1 6 j) ∧ (∀ j, j ≠ 8 → S2.1 8 j = S.1 8 j) ∧ S2.2 = S.2 := ⟨fun c h1 h2 h3 => by rw [q2.1 c h1 h3, us_row, if_neg h2], fun j hj => by rw [q2.2.1 j hj]; rfl, fun j hj => by rw [q2.1 8 (by decide) (by decide), us_rd, if_pos rfl, if_neg hj], q2.2.2⟩
      rcases q3' with h | h
      · refine ⟨S2, ?_, hfr⟩
        rw [h, bI_F (fun hh => by have := hh.2.2; rw [h] at this; cases this)]
        show (if (0 : Int32) = 0 then _ else _) = _
        rw [if_pos rfl]
        rfl
      · refine ⟨S2, ?_, hfr⟩
        rw [h, bI_T ⟨by omega, by omega, h⟩]
        show (if (1 : Int32) = 0 then _ else _) = _
        rw [if_neg z10]
def frY (S S2 : ST) : Prop := (∀ a, a ≠ 15 → a ≠ 16 → S2.1 a = S.1 a) ∧ S2.2 = S.2
theorem shM_lp (F : Nat) {n nm : Nat} {e wi wo mk : Nat → Nat} {code : Nat → Int32} (hn : n ≤ 8) (hnm : nm ≤ 300) (hmk : ∀ i, i < nm → mk i < 5) {a g k : Nat} (hg : g < n) (hw : 1 ≤ wi g ∧ wi g ≤ 100) (haw : a + wi g ≤ nm) : ∀ (d f j : Nat) (S : ST), j + d = wi g → d < f → GM S code n e wi wo → LM S nm mk → S.1 15 0 = nI (cR mk 0 a j) → S.1 15 1 = nI (cR mk 1 a j) → S.1 15 2 = nI (cR mk 2 a j) → S.1 15 3 = nI (cR mk 3 a j) → S.1 15 4 = nI (lng mk a j) → ∃ f2 S2, fX11_isSheet_29 F f S (nI a) (nI g) (nI k) (nI (min j (runB mk (a + j)))) (nI (a + j)) = fX11_isSheet_29 F (f2 + 1) S2 (nI a) (nI g) (nI k) (nI (min (wi g) (runB mk (a + wi g)))) (nI (a + wi g)) ∧ S2.1 15 0 = nI (cR mk 0 a (wi g)) ∧ S2.1 15 1 = nI (cR mk 1 a (wi g)) ∧ S2.1 15 2 = nI (cR mk 2 a (wi g)) ∧ S2.1 15 3 = nI (cR mk 3 a (wi g)) ∧ S2.1 15 4 = nI (lng mk a (wi g)) ∧ (∀ c, c ≠ 15 → S2.1 c = S.1 c) ∧ S2.2 = S.2
  | 0, f + 1, j, S, h1, h2, hG, hL, e0, e1, e2, e3, e4 => by
    have e : j = wi g := by omega
    subst e
    exact ⟨f, S, rfl, e0, e1, e2, e3, e4, fun _ _ => rfl, rfl⟩
  | d + 1, f + 1, j, S, h1, h2, hG, hL, e0, e1, e2, e3, e4 => by
    have hm5 := hmk (a + j) (by omega)
    have hwg := (hG.2.1 g hg).1
    have h14 := hL.2 (a + j) (by omega)
    have hv3 : vin (nI (a + j)) 300 = true := vin_nI (by omega) (by omega)
    have hc0 := cR_le mk 0 a j
    have hc1 := cR_le mk 1 a j
    have hc2 := cR_le mk 2 a j
    have hc3 := cR_le mk 3 a j
    have hlg := lng_le mk a j
    have hrb := runB_le mk (a + j)
    have hrb2 := runB_le mk (a + (j + 1))
    have hrs : runB mk (a + (j + 1)) = if mk (a + j) = 4 then runB mk (a + j) + 1 else 0 := rfl
    have key : ∀ (S1 : ST), (∀ c, c ≠ 15 → S1.1 c = S.1 c) → S1.2 = S.2 → S1.1 15 0 = nI (cR mk 0 a (j + 1)) → S1.1 15 1 = nI (cR mk 1 a (j + 1)) → S1.1 15 2 = nI (cR mk 2 a (j + 1)) → S1.1 15 3 = nI (cR mk 3 a (j + 1)) → S1.1 15 4 = nI (lng mk a j) → ∃ f2 S2, fX11_isSheet_90 F (fX11_isSheet_29 F f) S1 (nI a) (nI g) (nI k) (nI (min (j + 1) (runB mk (a + (j + 1))))) (nI (a + j)) = fX11_isSheet_29 F (f2 + 1) S2 (nI a) (nI g) (nI k) (nI (min (wi g) (runB mk (a + wi g)))) (nI (a + wi g)) ∧ S2.1 15 0 = nI (cR mk 0 a (wi g)) ∧ S2.1 15 1 = nI (cR mk 1 a (wi g)) ∧ S2.1 15 2 = nI (cR mk 2 a (wi g)) ∧ S2.1 15 3 = nI (cR mk 3 a (wi g)) ∧ S2.1 15 4 = nI (lng mk a (wi g)) ∧ (∀ c, c ≠ 15 → S2.1 c = S.1 c) ∧ S2.2 = S.2 := fun S1 k1 k2 k3 k4 k5 k6 k7 => by
      have k90 : fX11_isSheet_90 F (fX11_isSheet_29 F f) S1 (nI a) (nI g) (nI k) (nI (min (j + 1) (runB mk (a + (j + 1))))) (nI (a + j)) = fX11_isSheet_29 F f (us S1 15 4 (nI (lng mk a (j + 1)))) (nI a) (nI g) (nI k) (nI (min (j + 1) (runB mk (a + (j + 1))))) (nI (a + (j + 1))) := by
        unfold fX11_isSheet_90 fX11_isSheet_117
        rw [if_pos (show vin 4 5 = true by decide), if_pos (show vin 4 5 = true by decide), if_pos (show vin 4 5 = true by decide), if_pos (show vin 4 5 = true by decide), show ix 4 = 4 by decide, k7, nI_1, lng]
        by_cases c : min (j + 1) (runB mk (a + (j + 1))) ≤ lng mk a j
        · rw [if_pos (nI_le c (by omega)), Nat.max_eq_left c]
          rfl
        · rw [if_neg (nI_ge (by omega) (by omega)), Nat.max_eq_right (by omega)]
          rfl
      have hG2 : GM (us S1 15 4 (nI (lng mk a (j + 1)))) code n e wi wo := by
        unfold GM at *
        have u : ∀ c, c ≠ 15 → (us S1 15 4 (nI (lng mk a (j + 1)))).1 c = S.1 c := fun c hc => by rw [us_row, if_neg hc, k1 c hc]
        rw [u 0 (by decide), u 3 (by decide), u 4 (by decide), u 7 (by decide), u 5 (by decide), u 6 (by decide)]
        exact hG
      have hL2 : LM (us S1 15 4 (nI (lng mk a (j + 1)))) nm mk := by
        unfold LM at *
        have u : ∀ c, c ≠ 15 → (us S1 15 4 (nI (lng mk a (j + 1)))).1 c = S.1 c := fun c hc => by rw [us_row, if_neg hc, k1 c hc]
        rw [u 0 (by decide), u 14 (by decide)]
        exact hL
      obtain ⟨f2, S2, q1, q2, q3, q4, q5, q6, q7, q8⟩ := shM_lp F hn hnm hmk (k := k) hg hw haw d f (j + 1) (us S1 15 4 (nI (lng mk a (j + 1)))) (by omega) (by omega) hG2 hL2 k3 k4 k5 k6 rfl
      exact ⟨f2, S2, by rw [k90]; exact q1, q2, q3, q4, q5, q6, fun c hc => by rw [q7 c hc, us_row, if_neg hc, k1 c hc], q8.trans k2⟩
    have k61 : ∀ (x : Int32), x = nI (min (j + 1) (runB mk (a + (j + 1)))) → ∃ f2 S2, fX11_isSheet_61 F (fX11_isSheet_29 F f) S (nI a) (nI g) (nI k) (nI (a + j)) x = fX11_isSheet_29 F (f2 + 1) S2 (nI a) (nI g) (nI k) (nI (min (wi g) (runB mk (a + wi g)))) (nI (a + wi g)) ∧ S2.1 15 0 = nI (cR mk 0 a (wi g)) ∧ S2.1 15 1 = nI (cR mk 1 a (wi g)) ∧ S2.1 15 2 = nI (cR mk 2 a (wi g)) ∧ S2.1 15 3 = nI (cR mk 3 a (wi g)) ∧ S2.1 15 4 = nI (lng mk a (wi g)) ∧ (∀ c, c ≠ 15 → S2.1 c = S.1 c) ∧ S2.2 = S.2 := fun x hx => by
      subst hx
      unfold fX11_isSheet_61
      rw [if_pos hv3, ix_nI (by omega), h14]
      by_cases c4 : mk (a + j) = 4
      · rw [if_pos (show (4 : Int32) ≤ nI (mk (a + j)) from nI_le (a := 4) (by omega) (by omega))]
        exact key S (fun _ _ => rfl) rfl (by rw [e0, cR_s, if_neg (by omega)]; rfl) (by rw [e1, cR_s, if_neg (by omega)]; rfl) (by rw [e2, cR_s, if_neg (by omega)]; rfl) (by rw [e3, cR_s, if_neg (by omega)]; rfl) e4
      · rw [if_neg (show ¬ (4 : Int32) ≤ nI (mk (a + j)) from nI_ge (b := 4) (by omega) (by omega)), if_pos hv3, if_pos (vin_nI (by omega) (by omega)), if_pos (vin_nI (by omega) (by omega)), ix_nI (by omega)]
        have hv : S.1 15 (mk (a + j)) = nI (cR mk (mk (a + j)) a j) := by
          rcases (show mk (a + j) = 0 ∨ mk (a + j) = 1 ∨ mk (a + j) = 2 ∨ mk (a + j) = 3 by omega) with h | h | h | h <;> rw [h]
          · exact e0
          · exact e1
          · exact e2
          · exact e3
        rw [hv, nI_1]
        have st : ∀ m, S.1 15 m = nI (cR mk m a j) → (us S 15 (mk (a + j)) (nI (cR mk (mk (a + j)) a j + 1))).1 15 m = nI (cR mk m a (j + 1)) := fun m hm => by
          rw [us_rd, if_pos rfl, cR_s]
          by_cases h : m = mk (a + j)
          · rw [if_pos h, ← h, if_pos rfl]
          · rw [if_neg h, if_neg (fun h2 => h h2.symm), hm]
            rfl
        exact key (us S 15 (mk (a + j)) (nI (cR mk (mk (a + j)) a j + 1))) (fun c hc => by rw [us_row, if_neg hc]) rfl (st 0 e0) (st 1 e1) (st 2 e2) (st 3 e3) (by rw [us_rd, if_pos rfl, if_neg (by omega)]; exact e4)
    rw [fX11_isSheet_29, if_pos (vin_nI (by omega) (by omega)), ix_nI (by omega), hwg, nI_add, if_neg (nI_ge (by omega) (by omega)), if_pos hv3, ix_nI (by omega), h14]
    by_cases c4 : mk (a + j) = 4
    · rw [if_pos (by rw [c4]; rfl), nI_1]
      apply k61
      rw [hrs, if_pos c4]
      congr 1
      omega
    · rw [if_neg (show ¬ nI (mk (a + j)) = 4 from fun h => c4 ((nI_eq (b := 4) (by omega) (by omega)).mp h))]
      apply k61
      rw [hrs, if_neg c4, Nat.min_eq_right (by omega)]
      rfl
theorem sh3_st (F f : Nat) (S : ST) (x1 x2 x3 : Int32) {m : Nat} (h : m < 5) : fX11_isSheet_3 F (f + 1) S x1 x2 x3 (nI m) = fX11_isSheet_3 F f (us S 15 m 0) x1 x2 x3 (nI (m + 1)) := by
  rw [fX11_isSheet_3, if_neg (show ¬ (5 : Int32) ≤ nI m from nI_ge (b := 5) h (by omega)), if_pos (vin_nI h (by omega)), ix_nI (by omega), nI_1]
  rfl
theorem sh3_eq (F : Nat) (hF : 10 ≤ F) (S : ST) (x1 x2 x3 : Int32) : ∃ S5, fX11_isSheet F S x1 x2 x3 = fX11_isSheet_29 F F S5 x1 x2 x3 0 x1 ∧ S5.1 15 0 = 0 ∧ S5.1 15 1 = 0 ∧ S5.1 15 2 = 0 ∧ S5.1 15 3 = 0 ∧ S5.1 15 4 = 0 ∧ (∀ c, c ≠ 15 → S5.1 c = S.1 c) ∧ S5.2 = S.2 := by
  refine ⟨us (us (us (us (us S 15 0 0) 15 1 0) 15 2 0) 15 3 0) 15 4 0, ?_, rfl, rfl, rfl, rfl, rfl, fun c hc => by rw [us_row, if_neg hc, us_row, if_neg hc, us_row, if_neg hc, us_row, if_neg hc, us_row, if_neg hc], rfl⟩
  obtain ⟨f, hf⟩ : ∃ f, F = f + 6 := ⟨F - 6, by omega⟩
  have h0 : fX11_isSheet F S x1 x2 x3 = fX11_isSheet_3 F (f + 6) S x1 x2 x3 (nI 0) := by rw [← hf]; rfl
  rw [h0, sh3_st F (f + 5) S x1 x2 x3 (by omega), sh3_st F (f + 4) _ x1 x2 x3 (by omega), sh3_st F (f + 3) _ x1 x2 x3 (by omega), sh3_st F (f + 2) _ x1 x2 x3 (by omega), sh3_st F (f + 1) _ x1 x2 x3 (by omega), fX11_isSheet_3, if_pos (by decide)]
theorem shM_eq (F : Nat) (hF : 400 ≤ F) (S : ST) {n nm : Nat} {e wi wo mk : Nat → Nat} {code : Nat → Int32} (hn : n ≤ 8) (hnm : nm ≤ 300) (hmk : ∀ i, i < nm → mk i < 5) {a g k P : Nat} (hg : g < n) (hw : 1 ≤ wi g ∧ wi g ≤ 100) (haw : a + wi g ≤ nm) (hG : GM S code n e wi wo) (hL : LM S nm mk) (hb : e g ≤ e (g + 1) ∧ e (g + 1) ≤ e n ∧ e n ≤ 320) (hty : e g < e (g + 1) → tyRun code (e g) (e (g + 1) - e g) [] = some [true]) (h01 : ∀ env, hvI env code (e g) (e (g + 1) - e g) = 0 ∨ hvI env code (e g) (e (g + 1) - e g) = 1) (hP : S.1 0 33 = nI P) (hPb : P ≤ 3) (hk : k ≤ 1000) : ∃ S2, fX11_isSheet F S (nI a) (nI g) (nI k) = some (bI (shP P code e mk a (wi g) g k), S2) ∧ frY S S2 := by
  have z0 : ∀ m, cR mk m a 0 = 0 := fun m => Nat.sub_self _
  obtain ⟨S5, hstart, y0, y1, y2, y3, y4, y5, y6⟩ := sh3_eq F (by omega) S (nI a) (nI g) (nI k)
  have hG5 : GM S5 code n e wi wo := by
    unfold GM at *
    rw [y5 0 (by decide), y5 3 (by decide), y5 4 (by decide), y5 7 (by decide), y5 5 (by decide), y5 6 (by decide)]
    exact hG
  have hL5 : LM S5 nm mk := by
    unfold LM at *
    rw [y5 0 (by decide), y5 14 (by decide)]
    exact hL
  obtain ⟨f2, S2, q1, q2, q3, q4, q5, q6, q7, q8⟩ := shM_lp F hn hnm hmk (k := k) (a := a) hg hw haw (wi g) F 0 S5 (by omega) (by omega) hG5 hL5 (by rw [z0, y0]; rfl) (by rw [z0, y1]; rfl) (by rw [z0, y2]; rfl) (by rw [z0, y3]; rfl) (by rw [y4]; rfl)
  rw [y6] at q8
  have q7' : ∀ c, c ≠ 15 → S2.1 c = S.1 c := fun c hc => by
    rw [q7 c hc, y5 c hc]
  rw [Nat.zero_min, Nat.add_zero] at q1
  rw [hstart, show (0 : Int32) = nI 0 from rfl, q1]
  have hwg : S2.1 3 g = nI (wi g) := by rw [q7' 3 (by decide)]; exact (hG.2.1 g hg).1
  have hr := cR_le mk 2 a (wi g)
  rw [fX11_isSheet_29, if_pos (vin_nI (by omega) (by omega)), ix_nI (by omega), hwg, nI_add, if_pos (nI_le (by omega) (by omega)), q7' 0 (by decide), hP]
  by_cases c1 : P < k
  · rw [if_pos (nI_lt c1 (by omega)), bI_F (fun h => by have := h.1; omega)]
    exact ⟨S2, rfl, fun c h1 _ => q7' c h1, q8⟩
  · rw [if_neg (nI_nlt (by omega) (by omega)), if_pos (show vin 2 5 = true by decide), show ix 2 = 2 by decide, q4]
    by_cases c2 : cR mk 2 a (wi g) < k
    · rw [if_neg (nI_ge c2 (by omega)), bI_F (fun h => by have := h.2.1; omega)]
      exact ⟨S2, rfl, fun c h1 _ => q7' c h1, q8⟩
    · rw [if_pos (nI_le (by omega) (by omega)), if_pos (show vin 2 5 = true by decide), if_pos (show vin 2 5 = true by decide)]
      let S3 : ST := us (us S2 15 2 (nI (cR mk 2 a (wi g)) - nI k)) 15 3 (nI (cR mk 3 a (wi g)) + nI k)
      have hG3 : GM S3 code n e wi wo := by
        unfold GM at *
        have u : ∀ c, c ≠ 15 → S3.1 c = S.1 c := fun c hc => by
          show (us (us S2 15 2 _) 15 3 _).1 c = _
          rw [us_row, if_neg hc, us_row, if_neg hc, q7' c hc]
        rw [u 0 (by decide), u 3 (by decide), u 4 (by decide), u 7 (by decide), u 5 (by decide), u 6 (by decide)]
        exact hG
      have henv : ∀ j, j < 5 → S3.1 15 j = envN mk a (wi g) k (-1 - nI j) := fun j hj => by
        rcases (show j = 0 ∨ j = 1 ∨ j = 2 ∨ j = 3 ∨ j = 4 by omega) with rfl | rfl | rfl | rfl | rfl
        · show S2.1 15 0 = _
          rw [q2]; rfl
        · show S2.1 15 1 = _
          rw [q3]; rfl
        · rfl
        · rfl
        · show S2.1 15 4 = _
          rw [q6]; rfl
      obtain ⟨S4, g1, g2⟩ := holdsM_eq F hF S3 code hn hG3 hg hb hty (envN mk a (wi g) k) henv
      show ∃ S2', (if vin 3 5 = true then (if vin 3 5 = true then (fX11_holds F (us (us S2 15 2 (nI (cR mk 2 a (wi g)) - nI k)) 15 3 ((us S2 15 2 (nI (cR mk 2 a (wi g)) - nI k)).1 15 3 + nI k)) (nI g)).bind _ else none) else none) = _ ∧ _
      rw [if_pos (show vin 3 5 = true by decide), if_pos (show vin 3 5 = true by decide), show (us S2 15 2 (nI (cR mk 2 a (wi g)) - nI k)).1 15 3 = S2.1 15 3 from rfl, q5, show fX11_holds F (us (us S2 15 2 (nI (cR mk 2 a (wi g)) - nI k)) 15 3 (nI (cR mk 3 a (wi g)) + nI k)) (nI g) = _ from g1]
      have hfr : frY S S4 := ⟨fun c h1 h2 => by
        rw [g2.1 c h2]
        show (us (us S2 15 2 _) 15 3 _).1 c = _
        rw [us_row, if_neg h1, us_row, if_neg h1, q7' c h1], by rw [g2.2]; exact q8⟩
      rcases h01 (envN mk a (wi g) k) with h | h
      · rw [h, bI_F (fun hh => by have := hh.2.2; rw [h] at this; cases this)]
        exact ⟨S4, bz a1_0, hfr⟩
      · rw [h, bI_T ⟨by omega, by omega, h⟩]
        exact ⟨S4, bz a1_1, hfr⟩
