def GC (S : ST) (n : Nat) (e wi wo : Nat → Nat) : Prop := n ≤ 8 ∧ S.1 6 5 = nI n ∧ e 0 = 0 ∧ (∀ g, g < n → e g ≤ e (g + 1)) ∧ e n ≤ 320 ∧ (∀ g, g < n → (1 ≤ wi g ∧ wi g ≤ 100 ∧ S.1 21 g = nI (wi g)) ∧ (1 ≤ wo g ∧ wo g ≤ 9999 ∧ S.1 22 g = nI (wo g)) ∧ S.1 23 g = nI (e (g + 1)) ∧ (e g < e (g + 1) → tyRun (S.1 24) (e g) (e (g + 1) - e g) [] = some [true])) ∧ ∀ k, k < e n → ∃ w v, codeRel (S.1 24 k) w v
def GM (S : ST) (code : Nat → Int32) (n : Nat) (e wi wo : Nat → Nat) : Prop := S.1 0 14 = nI n ∧ (∀ g, g < n → S.1 3 g = nI (wi g) ∧ S.1 4 g = nI (wo g)) ∧ (∀ g, g ≤ n → S.1 7 g = nI (e g)) ∧ ∀ k, k < e n → codeRel (code k) (S.1 5 k) (S.1 6 k)
theorem e_le {n : Nat} {e : Nat → Nat} (h : ∀ g, g < n → e g ≤ e (g + 1)) {g : Nat} : ∀ d, g + d ≤ n → e g ≤ e (g + d)
  | 0, _ => Nat.le_refl _
  | d + 1, hd => Nat.le_trans (e_le h d (by omega)) (h (g + d) (by omega))
def hvI (env : Int32 → Int32) (code : Nat → Int32) (k m : Nat) : Int32 := if m = 0 then 1 else topI (evR env code k m [])
theorem GC.fr {S S2 : ST} {n : Nat} {e wi wo : Nat → Nat} (h : GC S n e wi wo) (a1 : S2.1 6 5 = S.1 6 5) (a2 : S2.1 21 = S.1 21) (a3 : S2.1 22 = S.1 22) (a4 : S2.1 23 = S.1 23) (a5 : S2.1 24 = S.1 24) : GC S2 n e wi wo := by
  unfold GC at *
  rw [a1, a2, a3, a4, a5]
  exact h
theorem GC.bd {S : ST} {n : Nat} {e wi wo : Nat → Nat} (h : GC S n e wi wo) {g : Nat} (hg : g < n) : e g ≤ e (g + 1) ∧ e (g + 1) ≤ e n ∧ e n ≤ 320 := by
  have := e_le h.2.2.2.1 (g := g + 1) (n - (g + 1)) (by omega)
  rw [show g + 1 + (n - (g + 1)) = n by omega] at this
  exact ⟨h.2.2.2.1 g hg, this, h.2.2.2.2.1⟩
theorem holdsC_eq (F : Nat) (hF : 400 ≤ F) (S : ST) {n : Nat} {e wi wo : Nat → Nat} (hG : GC S n e wi wo) {g : Nat} (hg : g < n) : ∃ S2, fX2_holds F S (nI g) = some (hvI (envC S) (S.1 24) (e g) (e (g + 1) - e g), S2) ∧ frH S S2 ∧ (hvI (envC S) (S.1 24) (e g) (e (g + 1) - e g) = 0 ∨ hvI (envC S) (S.1 24) (e g) (e (g + 1) - e g) = 1) := by
  obtain ⟨b1, b2, b3⟩ := hG.bd hg
  have hn := hG.1
  obtain ⟨_, _, c23, cty⟩ := hG.2.2.2.2.2.1 g hg
  have f0 := frH_67 S 0
  have hend : fX2_codeEndOf F (us S 6 7 0) (nI g) = some (nI (e (g + 1)), us S 6 7 0) := by
    unfold fX2_codeEndOf
    rw [if_neg (nI_pos (by omega)), if_neg (show ¬ (8 : Int32) ≤ nI g from nI_ge (b := 8) (by omega) (by omega)), if_pos (vin_nI (by omega) (by omega)), ix_nI (by omega)]
    show some (S.1 23 g, us S 6 7 0) = _
    rw [c23]
  have hbeg : fX2_codeEndOf F (us S 6 7 0) (nI g - 1) = some (nI (e g), us S 6 7 0) := by
    unfold fX2_codeEndOf fX2_codeEndOf_19
    cases g with
    | zero => rw [if_pos (by decide), hG.2.2.1]; rfl
    | succ g =>
      obtain ⟨_, _, d23, _⟩ := hG.2.2.2.2.2.1 g (by omega)
      rw [nI_pred, if_neg (nI_pos (by omega)), if_neg (show ¬ (8 : Int32) ≤ nI g from nI_ge (b := 8) (by omega) (by omega)), if_pos (vin_nI (by omega) (by omega)), ix_nI (by omega)]
      show some (S.1 23 g, us S 6 7 0) = _
      rw [d23]
  have hmain : fX2_holds F S (nI g) = fX2_holds_36 F F (us S 6 7 0) (nI (e (g + 1))) (nI (e g)) (nI (e g)) := by
    unfold fX2_holds
    show (fX2_codeEndOf F (us S 6 7 0) (nI g)).bind _ = _
    rw [hend, Option.bind_some, bindI_eq, show (320 : Int32) = nI 320 from rfl, jmin_nI (by omega) (by omega), Nat.min_eq_left (by omega), hbeg, Option.bind_some, bindI_eq, show (0 : Int32) = nI 0 from rfl, jmax_nI (by omega) (by omega), Nat.max_eq_right (by omega)]
  rw [hmain]
  by_cases he : e g = e (g + 1)
  · refine ⟨us S 6 7 0, ?_, f0, Or.inr ?_⟩
    · obtain ⟨f, rfl⟩ : ∃ f, F = f + 1 := ⟨F - 1, by omega⟩
      rw [fX2_holds_36, he, if_pos (nI_le (by omega) (by omega)), if_pos (nI_le (by omega) (by omega)), hvI, if_pos (by omega)]
    · rw [hvI, if_pos (by omega)]
  · have hty := cty (by omega)
    obtain ⟨S2, x, q1, q2, q3, q4⟩ := holdsC_lp F (e1 := e (g + 1)) (by omega) (nI (e g)) (nI_ge (by omega) (by omega)) (e (g + 1) - e g) F (e g) (us S 6 7 0) [] [] (by omega) (by omega) (fun j _ hj => hG.2.2.2.2.2.2 j (by omega)) hty trivial ⟨rfl, trivial⟩
    have henv : envC (us S 6 7 0) = envC S := envC_fr f0
    have q2' : evR (envC S) (S.1 24) (e g) (e (g + 1) - e g) [] = [x] := by rw [← henv]; exact q2
    have hv : hvI (envC S) (S.1 24) (e g) (e (g + 1) - e g) = topI [x] := by rw [hvI, if_neg (by omega), q2']
    rw [hv]
    refine ⟨S2, q1, f0.tr q4, ?_⟩
    show (if x = 0 then (0 : Int32) else 1) = 0 ∨ (if x = 0 then (0 : Int32) else 1) = 1
    by_cases hx : x = 0
    · rw [if_pos hx]; exact Or.inl rfl
    · rw [if_neg hx]; exact Or.inr rfl
theorem nI_pm (d : Nat) : nI (d + 1) + -1 = nI d := by
  have := nI_pred d
  grind
def frK (S S2 : ST) : Prop := (∀ a, a ≠ 16 → S2.1 a = S.1 a) ∧ S2.2 = S.2
theorem frK_16 (S : ST) (k : Nat) (v : Int32) : frK S (us S 16 k v) := ⟨fun a h => by simp [us_row, h], rfl⟩
theorem frK.tr {S S2 S3 : ST} (h : frK S S2) (g : frK S2 S3) : frK S S3 := ⟨fun a h1 => (g.1 a h1).trans (h.1 a h1), g.2.trans h.2⟩
theorem holdsM_st (F f : Nat) (S : ST) {c w v : Int32} (h : codeRel c w v) {t t2 : List Bool} (ht : tyStep c t = some t2) {st : List Int32} (ho : okT t st) (hs : stkM (S.1 16) st) (hl : st.length ≤ 30) (env : Int32 → Int32) (henv : ∀ j, j < 5 → S.1 15 j = env (-1 - nI j)) {g k e1 : Nat} (hg : g < 8) (hk : k < e1) (he : e1 ≤ 320) (h7 : S.1 7 (g + 1) = nI e1) (h5 : S.1 5 k = w) (h6 : S.1 6 k = v) : ∃ S2, fX11_holds_9 F (f + 1) S (nI g) (nI st.length) (nI k) = fX11_holds_9 F f S2 (nI g) (nI (evS env c st).length) (nI (k + 1)) ∧ stkM (S2.1 16) (evS env c st) ∧ frK S S2 := by
  have hvg : vin (nI g + 1) 9 = true := by rw [nI_1]; exact vin_nI (by omega) (by omega)
  have hvk : vin (nI k) 600 = true := vin_nI (by omega) (by omega)
  rw [fX11_holds_9, if_pos hvg, nI_1, ix_nI (by omega), h7, if_neg (nI_ge hk (by omega)), if_pos hvk, ix_nI (by omega), bindI_eq, h5]
  rcases (ty_inv h ht ho env).1 with ⟨⟨n, h1, h2, h3, h4⟩, hev⟩ | ⟨⟨n, h1, h2, h3⟩, hev⟩ | ⟨⟨h1, h3⟩, x, r, e1', hx, hev⟩ | ⟨x, y, r, e1', hev, hc, hj⟩
  · rw [h3, if_neg (by decide), if_pos rfl, if_pos hvk, h6, h4, hev]
    refine ⟨us S 16 st.length (nI n), ?_, ?_, frK_16 _ _ _⟩
    · unfold fX11_holds_65
      rw [if_pos (vin_nI (by omega) (by omega)), ix_nI (by omega), nI_1, nI_1]
      rfl
    · rw [h2]
      exact stkM_push hs
  · have hw : ∀ n, n < 5 → ¬ (20 : Int32) ≤ nI (10 + n) ∧ ¬ nI (10 + n) = 0 ∧ nI (10 + n) - 10 = nI n := by decide
    obtain ⟨w1, w2, w3⟩ := hw n h1
    rw [h3, if_neg w1, if_neg w2, w3, if_pos (vin_nI (by omega) (by omega)), ix_nI (by omega), henv n h1, hev]
    refine ⟨us S 16 st.length (env (-1 - nI n)), ?_, ?_, frK_16 _ _ _⟩
    · unfold fX11_holds_65
      rw [if_pos (vin_nI (by omega) (by omega)), ix_nI (by omega), nI_1, nI_1]
      rfl
    · rw [h2]
      exact stkM_push hs
  · subst e1'
    have hl2 : r.length + 1 ≤ 30 := hl
    have hd : nI (x :: r).length = nI (r.length + 1) := rfl
    rw [h3, if_pos (by decide), if_pos rfl, hd, nI_pred, if_pos (vin_nI (by omega) (by omega)), if_pos (vin_nI (by omega) (by omega)), ix_nI (by omega), hs.1, hev, nI_1]
    have hx1 : (1 : Int32) - x = if x = 0 then 1 else 0 := by rcases hx with rfl | rfl <;> decide
    rw [hx1]
    exact ⟨us S 16 r.length (if x = 0 then 1 else 0), rfl, stkM_push hs.2, frK_16 _ _ _⟩
  · subst e1'
    have hl2 : r.length + 1 + 1 ≤ 30 := hl
    have hd : nI (y :: x :: r).length = nI (r.length + 1 + 1) := rfl
    have hw20 : (20 : Int32) ≤ w ∧ ¬ w = 20 := by
      rcases hj with ⟨(⟨_, rfl⟩ | ⟨_, rfl⟩), _⟩ | (⟨_, rfl⟩ | ⟨_, rfl⟩ | ⟨_, rfl⟩) | (⟨_, rfl⟩ | ⟨_, rfl⟩) <;> decide
    have hv0 : vin (nI r.length) 200 = true := vin_nI (by omega) (by omega)
    have hx : S.1 16 r.length = x := hs.2.1
    have hy : S.1 16 (r.length + 1) = y := hs.1
    rw [if_pos hw20.1, if_neg hw20.2, hd, nI_pm, nI_pred, if_pos hv0, ix_nI (by omega), bindI_eq, if_pos (vin_nI (by omega) (by omega)), ix_nI (by omega), bindI_eq, hx, hy, hev]
    have k180 : ∀ (k9 : ST → Int32 → Int32 → Int32 → Option (Int32 × ST)) (val : Int32), fX11_holds_180 F k9 S (nI g) (nI (r.length + 1)) (nI k) val (nI r.length) = k9 (us S 16 r.length val) (nI g) (nI (r.length + 1)) (nI (k + 1)) := fun k9 val => by
      unfold fX11_holds_180
      rw [if_pos hv0, ix_nI (by omega), nI_1]
      rfl
    have k205 : ∀ (k9 : ST → Int32 → Int32 → Int32 → Option (Int32 × ST)) (val : Int32), fX11_holds_205 F k9 S (nI g) (nI (r.length + 1)) (nI k) val (nI r.length) = k9 (us S 16 r.length val) (nI g) (nI (r.length + 1)) (nI (k + 1)) := k180
    have k228 : ∀ (k9 : ST → Int32 → Int32 → Int32 → Option (Int32 × ST)) (val : Int32), fX11_holds_228 F k9 S (nI g) (nI (r.length + 1)) (nI k) val (nI r.length) = k9 (us S 16 r.length val) (nI g) (nI (r.length + 1)) (nI (k + 1)) := k180
    have k251 : ∀ (k9 : ST → Int32 → Int32 → Int32 → Option (Int32 × ST)) (val : Int32), fX11_holds_251 F k9 S (nI g) (nI (r.length + 1)) (nI k) val (nI r.length) = k9 (us S 16 r.length val) (nI g) (nI (r.length + 1)) (nI (k + 1)) := k180
    have k274 : ∀ (k9 : ST → Int32 → Int32 → Int32 → Option (Int32 × ST)) (val : Int32), fX11_holds_274 F k9 S (nI g) (nI (r.length + 1)) (nI k) val (nI r.length) = k9 (us S 16 r.length val) (nI g) (nI (r.length + 1)) (nI (k + 1)) := k180
    refine ⟨us S 16 r.length (jnV c x y), ?_, stkM_push hs.2.2, frK_16 _ _ _⟩
    rw [if_pos hv0, if_pos hv0, nI_1, k180, k180, k205, k205, k228, k228, k251, k251, k274, k274]
    show _ = fX11_holds_9 F f (us S 16 r.length (jnV c x y)) (nI g) (nI (r.length + 1)) (nI (k + 1))
    rcases hj with ⟨hj, hxb, hyb⟩ | hj | hj
    · rcases hj with ⟨rfl, rfl⟩ | ⟨rfl, rfl⟩
      · rw [if_neg (by decide), if_pos rfl]
        rcases hxb with rfl | rfl <;> rcases hyb with rfl | rfl
        · rw [if_pos (by decide)]; rfl
        · rw [if_pos (by decide)]; rfl
        · rw [if_pos (by decide)]; rfl
        · rw [if_neg (by decide)]; rfl
      · rw [if_pos rfl]
        rcases hxb with rfl | rfl <;> rcases hyb with rfl | rfl
        · rw [if_pos (by decide)]; rfl
        · rw [if_neg (by decide)]; rfl
        · rw [if_neg (by decide)]; rfl
        · rw [if_neg (by decide)]; rfl
    · rcases hj with ⟨rfl, rfl⟩ | ⟨rfl, rfl⟩ | ⟨rfl, rfl⟩
      · rw [if_neg (by decide), if_neg (by decide), if_neg (by decide), if_pos rfl, show jnV (-9) x y = if y ≤ x then 0 else 1 by unfold jnV; rw [if_neg (by decide), if_neg (by decide), if_neg (by decide), if_neg (by decide), if_pos rfl]]
        split <;> rfl
      · rw [if_neg (by decide), if_neg (by decide), if_neg (by decide), if_neg (by decide), if_pos rfl, show jnV (-10) x y = if x ≤ y then 0 else 1 by unfold jnV; rw [if_neg (by decide), if_neg (by decide), if_neg (by decide), if_pos rfl]]
        split <;> rfl
      · rw [if_neg (by decide), if_neg (by decide), if_pos rfl, show jnV (-11) x y = if x = y then 1 else 0 by unfold jnV; rw [if_neg (by decide), if_neg (by decide), if_pos rfl]]
        split <;> rfl
    · rcases hj with ⟨rfl, rfl⟩ | ⟨rfl, rfl⟩
      · rw [if_neg (by decide), if_neg (by decide), if_neg (by decide), if_neg (by decide), if_neg (by decide), if_pos rfl, show jnV (-12) x y = x + y by unfold jnV; rw [if_neg (by decide), if_pos rfl]]
        rfl
      · rw [if_neg (by decide), if_neg (by decide), if_neg (by decide), if_neg (by decide), if_neg (by decide), if_neg (by decide), show jnV (-13) x y = x - y by unfold jnV; rw [if_pos rfl]]
        rfl
theorem holdsM_lp (F : Nat) (code : Nat → Int32) (env : Int32 → Int32) {g e1 : Nat} (hg : g < 8) (he : e1 ≤ 320) : ∀ (m f k : Nat) (S : ST) (t : List Bool) (st : List Int32), k + m = e1 → m < f → S.1 7 (g + 1) = nI e1 → (∀ j, j < 5 → S.1 15 j = env (-1 - nI j)) → (∀ j, k ≤ j → j < e1 → codeRel (code j) (S.1 5 j) (S.1 6 j)) → tyRun code k m t = some [true] → okT t st → stkM (S.1 16) st → ∃ S2 x, fX11_holds_9 F f S (nI g) (nI st.length) (nI k) = some (topI [x], S2) ∧ evR env code k m st = [x] ∧ frK S S2
  | 0, f + 1, k, S, t, st, h1, h2, h7, henv, hc, ht, ho, hs => by
    have e : k = e1 := by omega
    subst e
    rw [tyRun] at ht
    have ht2 : t = [true] := by
      split at ht
      · exact Option.some.inj ht
      · cases ht
    subst ht2
    match st, ho with
    | [x], ho =>
      refine ⟨S, x, ?_, rfl, fun _ _ => rfl, rfl⟩
      have hx : S.1 16 0 = x := hs.1
      have hvg : vin (nI g + 1) 9 = true := by rw [nI_1]; exact vin_nI (by omega) (by omega)
      have hd : nI [x].length = nI 1 := rfl
      rw [fX11_holds_9, if_pos hvg, nI_1, ix_nI (by omega), h7, if_pos (nI_le (by omega) (by omega)), hd, if_neg (by decide), if_pos (by decide), show ix 0 = 0 from rfl, hx]
      rcases ho.1 rfl with rfl | rfl
      · rw [if_neg (by decide)]; rfl
      · rw [if_pos rfl]; rfl
  | m + 1, f + 1, k, S, t, st, h1, h2, h7, henv, hc, ht, ho, hs => by
    have hcr := hc k (Nat.le_refl _) (by omega)
    rw [tyRun] at ht
    have hlen := okT_len ho
    by_cases hl : t.length ≤ 30
    · rw [if_pos hl] at ht
      cases hts : tyStep (code k) t with
      | none => rw [hts] at ht; cases ht
      | some t2 =>
        rw [hts, Option.bind_some] at ht
        obtain ⟨S1, g1, g2, g3⟩ := holdsM_st F f S hcr hts ho hs (by omega) env henv hg (show k < e1 by omega) he h7 rfl rfl
        have hok := (ty_inv hcr hts ho env).2
        obtain ⟨S2, x, q1, q2, q3⟩ := holdsM_lp F code env hg he m f (k + 1) S1 t2 (evS env (code k) st) (by omega) (by omega) (by rw [g3.1 7 (by decide)]; exact h7) (fun j hj => by rw [g3.1 15 (by decide)]; exact henv j hj) (fun j a b => by rw [g3.1 5 (by decide), g3.1 6 (by decide)]; exact hc j (by omega) b) ht hok g2
        exact ⟨S2, x, by rw [g1]; exact q1, q2, g3.tr q3⟩
    · rw [if_neg hl] at ht
      cases ht
theorem holdsM_eq (F : Nat) (hF : 400 ≤ F) (S : ST) (code : Nat → Int32) {n : Nat} {e wi wo : Nat → Nat} (hn : n ≤ 8) (hM : GM S code n e wi wo) {g : Nat} (hg : g < n) (hb : e g ≤ e (g + 1) ∧ e (g + 1) ≤ e n ∧ e n ≤ 320) (hty : e g < e (g + 1) → tyRun code (e g) (e (g + 1) - e g) [] = some [true]) (env : Int32 → Int32) (henv : ∀ j, j < 5 → S.1 15 j = env (-1 - nI j)) : ∃ S2, fX11_holds F S (nI g) = some (hvI env code (e g) (e (g + 1) - e g), S2) ∧ frK S S2 := by
  obtain ⟨b1, b2, b3⟩ := hb
  have hmain : fX11_holds F S (nI g) = fX11_holds_9 F F S (nI g) 0 (nI (e g)) := by
    unfold fX11_holds
    rw [if_pos (vin_nI (by omega) (by omega)), ix_nI (by omega), hM.2.2.1 g (by omega)]
    rfl
  rw [hmain]
  by_cases he : e g = e (g + 1)
  · refine ⟨S, ?_, fun _ _ => rfl, rfl⟩
    obtain ⟨f, rfl⟩ : ∃ f, F = f + 1 := ⟨F - 1, by omega⟩
    have hvg : vin (nI g + 1) 9 = true := by rw [nI_1]; exact vin_nI (by omega) (by omega)
    rw [fX11_holds_9, if_pos hvg, nI_1, ix_nI (by omega), hM.2.2.1 (g + 1) (by omega), he, if_pos (nI_le (by omega) (by omega)), if_pos rfl, hvI, if_pos (by omega)]
  · obtain ⟨S2, x, q1, q2, q3⟩ := holdsM_lp F code env (show g < 8 by omega) (show e (g + 1) ≤ 320 by omega) (e (g + 1) - e g) F (e g) S [] [] (by omega) (by omega) (hM.2.2.1 (g + 1) (by omega)) henv (fun j _ hj => hM.2.2.2 j (by omega)) (hty (by omega)) trivial trivial
    refine ⟨S2, ?_, q3⟩
    rw [hvI, if_neg (by omega), q2]
    exact q1
