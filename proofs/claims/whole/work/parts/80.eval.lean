def jnV (c x y : Int32) : Int32 := if c = -13 then x - y else if c = -12 then x + y else if c = -11 then (if x = y then 1 else 0) else if c = -10 then (if x ≤ y then 0 else 1) else if c = -9 then (if y ≤ x then 0 else 1) else if c = -8 then x ||| y else if c = -7 then x &&& y else 0
theorem joined_eq (F : Nat) (S : ST) (c x y : Int32) : fX2_joined F S c x y = some (jnV c x y, S) := by
  unfold fX2_joined jnV
  repeat' split
  all_goals first | rfl | contradiction
def evS (env : Int32 → Int32) (c : Int32) (st : List Int32) : List Int32 := if c < 0 then (if c < -5 then (if c = -6 then (match st with
    | x :: r => (if x = 0 then 1 else 0) :: r
    | [] => []) else (match st with
    | y :: x :: r => jnV c x y :: r
    | _ => [])) else env c :: st) else c :: st
def evR (env : Int32 → Int32) (code : Nat → Int32) : Nat → Nat → List Int32 → List Int32
  | _, 0, st => st
  | k, m + 1, st => evR env code (k + 1) m (evS env (code k) st)
def okT : List Bool → List Int32 → Prop
  | [], [] => True
  | b :: t, x :: s => (b = true → x = 0 ∨ x = 1) ∧ okT t s
  | _, _ => False
def stkM (f : Nat → Int32) : List Int32 → Prop
  | [] => True
  | x :: s => f s.length = x ∧ stkM f s
theorem okT_c {b : Bool} {t : List Bool} {x : Int32} {s : List Int32} (h : b = true → x = 0 ∨ x = 1) (g : okT t s) : okT (b :: t) (x :: s) := ⟨h, g⟩
theorem okT_len : ∀ {t : List Bool} {s : List Int32}, okT t s → t.length = s.length
  | [], [], _ => rfl
  | b :: t, x :: s, h => by
    show t.length + 1 = s.length + 1
    rw [okT_len h.2]
theorem stkM_upd {f : Nat → Int32} {k : Nat} {v : Int32} : ∀ {s : List Int32}, stkM f s → s.length ≤ k → stkM (upd f k v) s
  | [], _, _ => trivial
  | x :: s, h, hk => by
    have hk2 : s.length + 1 ≤ k := hk
    refine ⟨?_, stkM_upd h.2 (by omega)⟩
    rw [upd_rd, if_neg (by omega)]
    exact h.1
theorem stkM_push {f : Nat → Int32} {v : Int32} {s : List Int32} (h : stkM f s) : stkM (upd f s.length v) (v :: s) := ⟨by rw [upd_rd, if_pos rfl], stkM_upd h (Nat.le_refl _)⟩
theorem jn_bool {c x y : Int32} (h : c = -9 ∨ c = -10 ∨ c = -11) : jnV c x y = 0 ∨ jnV c x y = 1 := by
  unfold jnV
  rcases h with rfl | rfl | rfl
  · rw [if_neg (by decide), if_neg (by decide), if_neg (by decide), if_neg (by decide), if_pos rfl]
    split
    · exact Or.inl rfl
    · exact Or.inr rfl
  · rw [if_neg (by decide), if_neg (by decide), if_neg (by decide), if_pos rfl]
    split
    · exact Or.inl rfl
    · exact Or.inr rfl
  · rw [if_neg (by decide), if_neg (by decide), if_pos rfl]
    split
    · exact Or.inr rfl
    · exact Or.inl rfl
theorem jn_bb {c x y : Int32} (h : c = -7 ∨ c = -8) (hx : x = 0 ∨ x = 1) (hy : y = 0 ∨ y = 1) : jnV c x y = 0 ∨ jnV c x y = 1 := by
  rcases h with rfl | rfl <;> rcases hx with rfl | rfl <;> rcases hy with rfl | rfl <;> decide
theorem cd_cases {c w v : Int32} (h : codeRel c w v) : (∃ n, n < 10000 ∧ c = nI n ∧ w = 0 ∧ v = nI n) ∨ (∃ n, n < 5 ∧ c = -1 - nI n ∧ w = nI (10 + n)) ∨ (c = -6 ∧ w = 20) ∨ (((c = -7 ∧ w = 22) ∨ (c = -8 ∧ w = 21)) ∨ ((c = -9 ∧ w = 24) ∨ (c = -10 ∧ w = 25) ∨ (c = -11 ∧ w = 23)) ∨ ((c = -12 ∧ w = 26) ∨ (c = -13 ∧ w = 27))) := by
  rcases h with h | h | h | h | h | h | h | h | h | h
  · exact Or.inl h
  · exact Or.inr (Or.inl h)
  · exact Or.inr (Or.inr (Or.inl h))
  · exact Or.inr (Or.inr (Or.inr (Or.inl (Or.inl h))))
  · exact Or.inr (Or.inr (Or.inr (Or.inl (Or.inr h))))
  · exact Or.inr (Or.inr (Or.inr (Or.inr (Or.inl (Or.inl h)))))
  · exact Or.inr (Or.inr (Or.inr (Or.inr (Or.inl (Or.inr (Or.inl h))))))
  · exact Or.inr (Or.inr (Or.inr (Or.inr (Or.inl (Or.inr (Or.inr h))))))
  · exact Or.inr (Or.inr (Or.inr (Or.inr (Or.inr (Or.inl h)))))
  · exact Or.inr (Or.inr (Or.inr (Or.inr (Or.inr (Or.inr h)))))
theorem cv_num {n : Nat} (h : n < 10000) : (-5 : Int32) ≤ nI n ∧ ¬ nI n < 0 := by
  refine ⟨?_, nI_pos (by omega)⟩
  rw [i_le, i_lit (by omega)]
  have : (-5 : Int32).toInt = -5 := by decide
  omega
theorem cv_name : ∀ n, n < 5 → (-5 : Int32) ≤ -1 - nI n ∧ (-1 - nI n : Int32) < 0 ∧ ¬ (-1 - nI n : Int32) < -5 := by decide
theorem ty_inv {c w v : Int32} (h : codeRel c w v) {t t2 : List Bool} (ht : tyStep c t = some t2) {st : List Int32} (ho : okT t st) (env : Int32 → Int32) : (((∃ n, n < 10000 ∧ c = nI n ∧ w = 0 ∧ v = nI n) ∧ evS env c st = c :: st) ∨ ((∃ n, n < 5 ∧ c = -1 - nI n ∧ w = nI (10 + n)) ∧ evS env c st = env c :: st) ∨ ((c = -6 ∧ w = 20) ∧ ∃ x r, st = x :: r ∧ (x = 0 ∨ x = 1) ∧ evS env c st = (if x = 0 then 1 else 0) :: r) ∨ (∃ x y r, st = y :: x :: r ∧ evS env c st = jnV c x y :: r ∧ (c < 0 ∧ c < -5 ∧ c ≠ -6) ∧ ((((c = -7 ∧ w = 22) ∨ (c = -8 ∧ w = 21)) ∧ (x = 0 ∨ x = 1) ∧ (y = 0 ∨ y = 1)) ∨ ((c = -9 ∧ w = 24) ∨ (c = -10 ∧ w = 25) ∨ (c = -11 ∧ w = 23)) ∨ ((c = -12 ∧ w = 26) ∨ (c = -13 ∧ w = 27))))) ∧ okT t2 (evS env c st) := by
  rcases cd_cases h with ⟨n, h1, h2, h3, h4⟩ | ⟨n, h1, h2, h3⟩ | ⟨h1, h2⟩ | hj
  · have hc := cv_num h1
    rw [← h2] at hc
    have he : evS env c st = c :: st := by unfold evS; rw [if_neg hc.2]
    unfold tyStep at ht
    rw [if_pos hc.1] at ht
    cases ht
    rw [he]
    exact ⟨Or.inl ⟨⟨n, h1, h2, h3, h4⟩, rfl⟩, okT_c (fun h => by cases h) ho⟩
  · have hc := cv_name n h1
    rw [← h2] at hc
    have he : evS env c st = env c :: st := by unfold evS; rw [if_pos hc.2.1, if_neg hc.2.2]
    unfold tyStep at ht
    rw [if_pos hc.1] at ht
    cases ht
    rw [he]
    exact ⟨Or.inr (Or.inl ⟨⟨n, h1, h2, h3⟩, rfl⟩), okT_c (fun h => by cases h) ho⟩
  · subst h1
    unfold tyStep at ht
    rw [if_neg (by decide), if_pos rfl] at ht
    match t, st, ht, ho with
    | true :: t, x :: r, ht, ho =>
      cases ht
      have he : evS env (-6) (x :: r) = (if x = 0 then 1 else 0) :: r := by unfold evS; rw [if_pos (by decide), if_pos (by decide), if_pos rfl]
      rw [he]
      refine ⟨Or.inr (Or.inr (Or.inl ⟨⟨rfl, h2⟩, x, r, rfl, ho.1 rfl, rfl⟩)), okT_c (fun _ => ?_) ho.2⟩
      split
      · exact Or.inr rfl
      · exact Or.inl rfl
  · have hneg : c < 0 ∧ c < -5 ∧ c ≠ -6 ∧ ¬ (-5 : Int32) ≤ c := by
      rcases hj with (⟨rfl, _⟩ | ⟨rfl, _⟩) | (⟨rfl, _⟩ | ⟨rfl, _⟩ | ⟨rfl, _⟩) | (⟨rfl, _⟩ | ⟨rfl, _⟩) <;> decide
    have he : ∀ y x r, evS env c (y :: x :: r) = jnV c x y :: r := fun y x r => by unfold evS; rw [if_pos hneg.1, if_pos hneg.2.1, if_neg hneg.2.2.1]
    unfold tyStep at ht
    rw [if_neg hneg.2.2.2, if_neg hneg.2.2.1] at ht
    rcases hj with hj | hj | hj
    · have hc : c = -7 ∨ c = -8 := by
        rcases hj with ⟨h, _⟩ | ⟨h, _⟩
        · exact Or.inl h
        · exact Or.inr h
      rw [if_pos hc] at ht
      match t, st, ht, ho with
      | true :: true :: t, y :: x :: r, ht, ho =>
        cases ht
        rw [he]
        exact ⟨Or.inr (Or.inr (Or.inr ⟨x, y, r, rfl, rfl, ⟨hneg.1, hneg.2.1, hneg.2.2.1⟩, Or.inl ⟨hj, ho.2.1 rfl, ho.1 rfl⟩⟩)), okT_c (fun _ => jn_bb hc (ho.2.1 rfl) (ho.1 rfl)) ho.2.2⟩
    · have hc : c = -9 ∨ c = -10 ∨ c = -11 := by
        rcases hj with ⟨h, _⟩ | ⟨h, _⟩ | ⟨h, _⟩
        · exact Or.inl h
        · exact Or.inr (Or.inl h)
        · exact Or.inr (Or.inr h)
      have hn : ¬ (c = -7 ∨ c = -8) := by rcases hc with rfl | rfl | rfl <;> decide
      rw [if_neg hn, if_pos hc] at ht
      match t, st, ht, ho with
      | false :: false :: t, y :: x :: r, ht, ho =>
        cases ht
        rw [he]
        exact ⟨Or.inr (Or.inr (Or.inr ⟨x, y, r, rfl, rfl, ⟨hneg.1, hneg.2.1, hneg.2.2.1⟩, Or.inr (Or.inl hj)⟩)), okT_c (fun _ => jn_bool hc) ho.2.2⟩
    · have hc : c = -12 ∨ c = -13 := by
        rcases hj with ⟨h, _⟩ | ⟨h, _⟩
        · exact Or.inl h
        · exact Or.inr h
      have hn : ¬ (c = -7 ∨ c = -8) := by rcases hc with rfl | rfl <;> decide
      have hn2 : ¬ (c = -9 ∨ c = -10 ∨ c = -11) := by rcases hc with rfl | rfl <;> decide
      rw [if_neg hn, if_neg hn2] at ht
      match t, st, ht, ho with
      | false :: false :: t, y :: x :: r, ht, ho =>
        cases ht
        rw [he]
        exact ⟨Or.inr (Or.inr (Or.inr ⟨x, y, r, rfl, rfl, ⟨hneg.1, hneg.2.1, hneg.2.2.1⟩, Or.inr (Or.inr hj)⟩)), okT_c (fun h => by cases h) ho.2.2⟩
def frH (S S2 : ST) : Prop := (∀ a, a ≠ 6 → a ≠ 25 → S2.1 a = S.1 a) ∧ (∀ j, j ≠ 7 → S2.1 6 j = S.1 6 j) ∧ S2.2 = S.2
theorem frH_refl (S : ST) : frH S S := ⟨fun _ _ _ => rfl, fun _ _ => rfl, rfl⟩
theorem frH.tr {S S2 S3 : ST} (h : frH S S2) (g : frH S2 S3) : frH S S3 := ⟨fun a h1 h2 => (g.1 a h1 h2).trans (h.1 a h1 h2), fun s h1 => (g.2.1 s h1).trans (h.2.1 s h1), g.2.2.trans h.2.2⟩
theorem frH_67 (S : ST) (v : Int32) : frH S (us S 6 7 v) := ⟨fun a h _ => by simp [us_row, h], fun j h => by simp [us_rd, h], rfl⟩
theorem frH_25 (S : ST) (k : Nat) (v : Int32) : frH S (us S 25 k v) := ⟨fun a _ h => by simp [us_row, h], fun j h => by simp [us_rd], rfl⟩
theorem popC (F : Nat) (S : ST) {x : Int32} {st : List Int32} (h : S.1 6 7 = nI (x :: st).length) (hs : stkM (S.1 25) (x :: st)) (hl : st.length < 32) : fX2_pop F S = some (x, us S 6 7 (nI st.length)) := by
  have h' : S.1 6 7 = nI (st.length + 1) := h
  unfold fX2_pop
  rw [h', if_neg (nI_nle (by omega) (by omega)), if_pos (show nI (st.length + 1) ≤ 32 from nI_le (b := 32) (by omega) (by omega)), nI_pred]
  show (if vin (nI st.length) 32 = true then some (S.1 25 (ix (nI st.length)), us S 6 7 (nI st.length)) else none) = _
  rw [if_pos (vin_nI hl (by omega)), ix_nI (by omega), hs.1]
theorem pushC (F : Nat) (S : ST) (x : Int32) {st : List Int32} (h : S.1 6 7 = nI st.length) (hl : st.length < 32) : fX2_push F S x = some (0, us (us S 25 st.length x) 6 7 (nI (st.length + 1))) := by
  unfold fX2_push
  rw [h, if_neg (nI_pos (by omega)), if_neg (show ¬ (32 : Int32) ≤ nI st.length from nI_ge (b := 32) (by omega) (by omega)), if_pos (vin_nI hl (by omega)), ix_nI (by omega)]
  show some (0, us (us S 25 st.length x) 6 7 (S.1 6 7 + 1)) = _
  rw [h, nI_1]
def envC (S : ST) (c : Int32) : Int32 := if c = -5 then S.1 8 7 else if c = -4 then S.1 8 6 + S.1 8 8 else if c = -3 then S.1 8 5 - S.1 8 8 else if c = -2 then S.1 8 4 else if c = -1 then S.1 8 3 else 0
theorem countOf_eq (F : Nat) (S : ST) (c : Int32) : fX5_countOf F S c = some (envC S c, S) := by
  unfold fX5_countOf envC
  repeat' split
  all_goals first | rfl | contradiction
def stC (S : ST) (st : List Int32) : Prop := S.1 6 7 = nI st.length ∧ stkM (S.1 25) st
theorem stC_push {S : ST} {x : Int32} {st : List Int32} (h : stC S st) : stC (us (us S 25 st.length x) 6 7 (nI (st.length + 1))) (x :: st) := ⟨rfl, by
  show stkM (upd (S.1 25) st.length x) (x :: st)
  exact stkM_push h.2⟩
theorem doStepC (F : Nat) (S : ST) {c w v : Int32} (h : codeRel c w v) {t t2 : List Bool} (ht : tyStep c t = some t2) {st : List Int32} (ho : okT t st) (hs : stC S st) (hl : st.length ≤ 30) : ∃ S2, fX2_doStep F S c = some (0, S2) ∧ stC S2 (evS (envC S) c st) ∧ frH S S2 := by
  unfold fX2_doStep
  rcases (ty_inv h ht ho (envC S)).1 with ⟨⟨n, h1, h2, _, _⟩, he⟩ | ⟨⟨n, h1, h2, _⟩, he⟩ | ⟨⟨h1, _⟩, x, r, e1, _, he⟩ | ⟨x, y, r, e1, he, hc, _⟩
  · rw [if_neg (by rw [h2]; exact (cv_num h1).2), pushC F S c hs.1 (by omega), Option.bind_some, he]
    exact ⟨_, rfl, stC_push hs, (frH_25 _ _ _).tr (frH_67 _ _)⟩
  · have hc := cv_name n h1
    rw [← h2] at hc
    rw [if_pos hc.2.1, if_neg hc.2.2, countOf_eq, Option.bind_some, pushC F S _ hs.1 (by omega), Option.bind_some, he]
    exact ⟨_, rfl, stC_push hs, (frH_25 _ _ _).tr (frH_67 _ _)⟩
  · subst e1
    subst h1
    have hl2 : r.length + 1 ≤ 30 := hl
    rw [if_pos (by decide), if_pos (by decide), if_pos rfl, popC F S hs.1 hs.2 (by omega), Option.bind_some, he]
    have hs2 : stC (us S 6 7 (nI r.length)) r := ⟨rfl, hs.2.2⟩
    unfold fX2_doStep_49
    by_cases hx : x = 0
    · rw [if_pos hx, if_pos hx, pushC F _ _ hs2.1 (by omega), Option.bind_some]
      exact ⟨_, rfl, stC_push hs2, (frH_67 _ _).tr ((frH_25 _ _ _).tr (frH_67 _ _))⟩
    · rw [if_neg hx, if_neg hx, pushC F _ _ hs2.1 (by omega), Option.bind_some]
      exact ⟨_, rfl, stC_push hs2, (frH_67 _ _).tr ((frH_25 _ _ _).tr (frH_67 _ _))⟩
  · subst e1
    have hl2 : r.length + 1 + 1 ≤ 30 := hl
    have hs2 : stC (us S 6 7 (nI (x :: r).length)) (x :: r) := ⟨rfl, hs.2.2⟩
    have hs3 : stC (us (us S 6 7 (nI (x :: r).length)) 6 7 (nI r.length)) r := ⟨rfl, hs.2.2.2⟩
    rw [if_pos hc.1, if_pos hc.2.1, if_neg hc.2.2, popC F S hs.1 hs.2 (show r.length + 1 < 32 by omega), Option.bind_some, popC F _ hs2.1 hs2.2 (by omega), Option.bind_some, joined_eq, Option.bind_some, pushC F _ _ hs3.1 (by omega), Option.bind_some, he]
    exact ⟨_, rfl, stC_push hs3, (frH_67 _ _).tr ((frH_67 _ _).tr ((frH_25 _ _ _).tr (frH_67 _ _)))⟩
theorem envC_fr {S S2 : ST} (h : frH S S2) : envC S2 = envC S := by
  funext c
  unfold envC
  rw [h.1 8 (by decide) (by decide)]
def topI : List Int32 → Int32
  | x :: _ => if x = 0 then 0 else 1
  | [] => 0
theorem holdsC_lp (F : Nat) {e1 : Nat} (he : e1 ≤ 320) (st0 : Int32) (hne : ¬ nI e1 ≤ st0) : ∀ (m f k : Nat) (S : ST) (t : List Bool) (st : List Int32), k + m = e1 → m < f → (∀ j, k ≤ j → j < e1 → ∃ w v, codeRel (S.1 24 j) w v) → tyRun (S.1 24) k m t = some [true] → okT t st → stC S st → ∃ S2 x, fX2_holds_36 F f S (nI e1) st0 (nI k) = some (topI [x], S2) ∧ evR (envC S) (S.1 24) k m st = [x] ∧ (x = 0 ∨ x = 1) ∧ frH S S2
  | 0, f + 1, k, S, t, st, h1, h2, hc, ht, ho, hs => by
    have e : k = e1 := by omega
    subst e
    rw [tyRun] at ht
    have ht2 : t = [true] := by
      split at ht
      · exact Option.some.inj ht
      · cases ht
    subst ht2
    match st, ho with
    | [x], ho =>
      refine ⟨us S 6 7 (nI 0), x, ?_, rfl, ho.1 rfl, frH_67 _ _⟩
      rw [fX2_holds_36, if_pos (nI_le (by omega) (by omega)), if_neg hne, popC F S hs.1 hs.2 (by decide), Option.bind_some]
      show (if x = 0 then _ else _) = _
      by_cases hx : x = 0
      · rw [if_pos hx, topI, if_pos hx]; rfl
      · rw [if_neg hx, topI, if_neg hx]; rfl
  | m + 1, f + 1, k, S, t, st, h1, h2, hc, ht, ho, hs => by
    obtain ⟨w, v, hcr⟩ := hc k (Nat.le_refl _) (by omega)
    rw [tyRun] at ht
    have hlen := okT_len ho
    by_cases hl : t.length ≤ 30
    · rw [if_pos hl] at ht
      cases hts : tyStep (S.1 24 k) t with
      | none => rw [hts] at ht; cases ht
      | some t2 =>
        rw [hts, Option.bind_some] at ht
        obtain ⟨S1, g1, g2, g3⟩ := doStepC F S hcr hts ho hs (by omega)
        have h24 : S1.1 24 = S.1 24 := g3.1 24 (by decide) (by decide)
        have hok := (ty_inv hcr hts ho (envC S)).2
        obtain ⟨S2, x, q1, q2, q3, q4⟩ := holdsC_lp F he st0 hne m f (k + 1) S1 t2 (evS (envC S) (S.1 24 k) st) (by omega) (by omega) (fun j a b => by rw [h24]; exact hc j (by omega) b) (by rw [h24]; exact ht) hok g2
        rw [envC_fr g3, h24] at q2
        refine ⟨S2, x, ?_, q2, q3, g3.tr q4⟩
        rw [fX2_holds_36, if_neg (nI_ge (by omega) (by omega)), if_pos (vin_nI (by omega) (by omega)), ix_nI (by omega), g1, Option.bind_some, nI_1]
        exact q1
    · rw [if_neg hl] at ht
      cases ht
