section TOKD
variable {b : Nat → Nat} {n : Nat}
theorem sch_eq : ∀ w, w < 11 → ∀ j, j < wLen w → sch w (nI j) = nI (wCh w j) ∧ wCh w j < 256 := by decide
theorem wLen_le : ∀ w, w < 11 → wLen w ≤ 6 := by decide
theorem isW_lp (F : Nat) (S : ST) (hT : TP S b n) {w p k : Nat} (hw : w < 11) (hk : k = wLen w) (hp : p + k ≤ n) : ∀ (d f j : Nat), j + d = k → d < f → (∀ i, i < j → b (p + i) = wCh w i) → fX8_isWord_15 F w f S (nI p) (nI j) = some (bI (eqW b w p k), S)
  | 0, f + 1, j, h1, h2, h3 => by
    have hl := wLen_le w hw
    rw [fX8_isWord_15, show slen w = nI (wLen w) from rfl, if_pos (nI_le (by omega) (by omega)), bI_T ⟨hk, fun i hi => h3 i (by omega)⟩]
  | d + 1, f + 1, j, h1, h2, h3 => by
    have hl := wLen_le w hw
    have hn := hT.1
    obtain ⟨s1, s2⟩ := sch_eq w hw j (by omega)
    have hb := hT.byt (p + j) (by omega)
    rw [fX8_isWord_15, show slen w = nI (wLen w) from rfl, if_neg (nI_ge (by omega) (by omega)), nI_add, byte_eq F S hT (by omega), Option.bind_some, show stLen.getD w 0 = wLen w from rfl, if_pos (vin_nI (by omega) (by omega)), s1]
    show (if bA b n (p + j) = nI (wCh w j) then _ else _) = _
    have hbA : bA b n (p + j) = nI (b (p + j)) := by unfold bA; rw [if_pos (by omega)]
    rw [hbA]
    by_cases e : b (p + j) = wCh w j
    · rw [if_pos (by rw [e]), nI_1]
      exact isW_lp F S hT hw hk hp d f (j + 1) (by omega) (by omega) (fun i hi => by
        by_cases ei : i = j
        · rw [ei]; exact e
        · exact h3 i (by omega))
    · rw [if_neg (by rw [nI_eq (by omega) (by omega)]; exact e), bI_F (fun h => e (h.2 j (by omega)))]
theorem isW_eq (F : Nat) (hF : 100 ≤ F) (S : ST) (hT : TP S b n) {w p k : Nat} (hw : w < 11) (hp : p + k ≤ n) : fX8_isWord F S (nI p) (nI (p + k)) w = some (bI (eqW b w p k), S) := by
  have hl := wLen_le w hw
  have hn := hT.1
  unfold fX8_isWord
  rw [pk_sub (by omega), show p + k - p = k by omega, show slen w = nI (wLen w) from rfl]
  by_cases e : k = wLen w
  · rw [if_pos (by rw [e])]
    exact isW_lp F S hT hw e hp k F 0 (by omega) (by omega) (fun i hi => by omega)
  · rw [if_neg (by rw [nI_eq (by omega) (by omega)]; exact e), bI_F (fun h => e h.1)]
theorem bI_ite {α : Type} {p : Prop} {x y : α} : (if bI p = 0 then x else y) = @ite _ p (Classical.propDecidable _) y x := by
  by_cases h : p
  · rw [bI_T h, if_neg z10, if_pos h]
  · rw [bI_F h, if_pos rfl, if_neg h]
theorem termAt_eq (F : Nat) (hF : 100 ≤ F) (S : ST) (hT : TP S b n) {p k : Nat} (hp : p + k ≤ n) : fX8_termAt F S (nI p) (nI (p + k)) = some (iP (eqW b 6 p k) (-1) (iP (eqW b 7 p k) (-2) (iP (eqW b 8 p k) (-3) (iP (eqW b 9 p k) (-4) (iP (eqW b 10 p k) (-5) (-20))))), S) := by
  unfold fX8_termAt
  rw [isW_eq F hF S hT (by decide) hp, Option.bind_some]
  by_cases h6 : eqW b 6 p k
  · rw [bI_T h6, if_neg z10, iP_T h6]
  rw [bI_F h6, if_pos rfl, iP_F h6, isW_eq F hF S hT (by decide) hp, Option.bind_some]
  by_cases h7 : eqW b 7 p k
  · rw [bI_T h7, if_neg z10, iP_T h7]
  rw [bI_F h7, if_pos rfl, iP_F h7, isW_eq F hF S hT (by decide) hp, Option.bind_some]
  by_cases h8 : eqW b 8 p k
  · rw [bI_T h8, if_neg z10, iP_T h8]
  rw [bI_F h8, if_pos rfl, iP_F h8, isW_eq F hF S hT (by decide) hp, Option.bind_some]
  by_cases h9 : eqW b 9 p k
  · rw [bI_T h9, if_neg z10, iP_T h9]
  rw [bI_F h9, if_pos rfl, iP_F h9, isW_eq F hF S hT (by decide) hp, Option.bind_some]
  by_cases h10 : eqW b 10 p k
  · rw [bI_T h10, if_neg z10, iP_T h10]
  rw [bI_F h10, if_pos rfl, iP_F h10]
theorem wordAt_eq (F : Nat) (hF : 100 ≤ F) (S : ST) (hT : TP S b n) {p k : Nat} (hp : p + k ≤ n) : fX8_wordAt F S (nI p) (nI (p + k)) = some (wKind b p k, S) := by
  unfold fX8_wordAt wKind
  rw [isW_eq F hF S hT (by decide) hp, Option.bind_some]
  by_cases h0 : eqW b 0 p k
  · rw [bI_T h0, if_neg z10, iP_T h0]
  rw [bI_F h0, if_pos rfl, iP_F h0, isW_eq F hF S hT (by decide) hp, Option.bind_some]
  by_cases h1 : eqW b 1 p k
  · rw [bI_T h1, if_neg z10, iP_T h1]
  rw [bI_F h1, if_pos rfl, iP_F h1, isW_eq F hF S hT (by decide) hp, Option.bind_some]
  by_cases h2 : eqW b 2 p k
  · rw [bI_T h2, if_neg z10, iP_T h2]
  rw [bI_F h2, if_pos rfl, iP_F h2, isW_eq F hF S hT (by decide) hp, Option.bind_some]
  by_cases h3 : eqW b 3 p k
  · rw [bI_T h3, if_neg z10, iP_T h3]
  rw [bI_F h3, if_pos rfl, iP_F h3, isW_eq F hF S hT (by decide) hp, Option.bind_some]
  by_cases h4 : eqW b 4 p k
  · rw [bI_T h4, if_neg z10, iP_T h4]
  rw [bI_F h4, if_pos rfl, iP_F h4, isW_eq F hF S hT (by decide) hp, Option.bind_some]
  by_cases h5 : eqW b 5 p k
  · rw [bI_T h5, if_neg z10, iP_T h5]
  rw [bI_F h5, if_pos rfl, iP_F h5, termAt_eq F hF S hT hp, Option.bind_some]
theorem num_lp (F : Nat) (S : ST) (hT : TP S b n) {p k : Nat} (hk : k ≤ 4) (hp : p + k ≤ n) (hd : ∀ j, j < k → 48 ≤ b (p + j) ∧ b (p + j) ≤ 57) : ∀ (d f j : Nat), j + d = k → d < f → fX8_numberAt_26 F f S (nI (p + k)) (nI (nvN b p j)) (nI (p + j)) = some (nI (nvN b p k), S)
  | 0, f + 1, j, h1, h2 => by
    have hn := hT.1
    have e : j = k := by omega
    subst e
    rw [fX8_numberAt_26, if_pos (nI_le (by omega) (by omega))]
  | d + 1, f + 1, j, h1, h2 => by
    have hn := hT.1
    have h3 := hd j (by omega)
    rw [fX8_numberAt_26, if_neg (nI_ge (by omega) (by omega)), byte_eq F S hT (by omega), Option.bind_some, bindI_eq]
    have e1 : nI (nvN b p j) * 10 + bA b n (p + j) - 48 = nI (nvN b p (j + 1)) := by
      unfold bA
      rw [if_pos (by omega), show (10 : Int32) = nI 10 from rfl, show (48 : Int32) = nI 48 from rfl, pk_mul, nI_add, pk_sub (by omega), nvN]
      congr 1
      omega
    show fX8_numberAt_26 F f S (nI (p + k)) (nI (nvN b p j) * 10 + bA b n (p + j) - 48) (nI (p + j) + 1) = _
    rw [e1, nI_1]
    exact num_lp F S hT hk hp hd d f (j + 1) (by omega) (by omega)
theorem sgn_eq (F : Nat) (S : ST) : ∀ c, c < 256 → ¬ (48 ≤ c ∧ c ≤ 57) → fX8_signOf F S (nI c) = some (sgnK c, S) := fun c hc hd => by
  have key : ∀ m : Nat, m < 256 → (nI c = nI m ↔ c = m) := fun m hm => nI_eq (by omega) (by omega)
  unfold fX8_signOf sgnK
  by_cases h40 : c = 40
  · subst h40; rfl
  rw [if_neg (show ¬ nI c = 40 from fun h => h40 ((key 40 (by omega)).mp h)), if_neg h40]
  by_cases h41 : c = 41
  · subst h41; rfl
  rw [if_neg (show ¬ nI c = 41 from fun h => h41 ((key 41 (by omega)).mp h)), if_neg h41]
  by_cases h42 : c = 42
  · subst h42; rfl
  rw [if_neg (show ¬ nI c = 42 from fun h => h42 ((key 42 (by omega)).mp h))]
  by_cases h43 : c = 43
  · subst h43; rfl
  rw [if_neg (show ¬ nI c = 43 from fun h => h43 ((key 43 (by omega)).mp h)), if_neg h43]
  by_cases h44 : c = 44
  · subst h44; rfl
  rw [if_neg (show ¬ nI c = 44 from fun h => h44 ((key 44 (by omega)).mp h))]
  by_cases h45 : c = 45
  · subst h45; rfl
  rw [if_neg (show ¬ nI c = 45 from fun h => h45 ((key 45 (by omega)).mp h)), if_neg h45]
  by_cases h46 : c = 46
  · subst h46; rfl
  rw [if_neg (show ¬ nI c = 46 from fun h => h46 ((key 46 (by omega)).mp h))]
  by_cases h47 : c = 47
  · subst h47; rfl
  rw [if_neg (show ¬ nI c = 47 from fun h => h47 ((key 47 (by omega)).mp h)), if_neg (show ¬ nI c = 48 from fun h => by have := (key 48 (by omega)).mp h; omega), if_neg (show ¬ nI c = 49 from fun h => by have := (key 49 (by omega)).mp h; omega), if_neg (show ¬ nI c = 50 from fun h => by have := (key 50 (by omega)).mp h; omega), if_neg (show ¬ nI c = 51 from fun h => by have := (key 51 (by omega)).mp h; omega), if_neg (show ¬ nI c = 52 from fun h => by have := (key 52 (by omega)).mp h; omega), if_neg (show ¬ nI c = 53 from fun h => by have := (key 53 (by omega)).mp h; omega), if_neg (show ¬ nI c = 54 from fun h => by have := (key 54 (by omega)).mp h; omega), if_neg (show ¬ nI c = 55 from fun h => by have := (key 55 (by omega)).mp h; omega), if_neg (show ¬ nI c = 56 from fun h => by have := (key 56 (by omega)).mp h; omega), if_neg (show ¬ nI c = 57 from fun h => by have := (key 57 (by omega)).mp h; omega)]
  by_cases h58 : c = 58
  · subst h58; rfl
  rw [if_neg (show ¬ nI c = 58 from fun h => h58 ((key 58 (by omega)).mp h))]
  by_cases h59 : c = 59
  · subst h59; rfl
  rw [if_neg (show ¬ nI c = 59 from fun h => h59 ((key 59 (by omega)).mp h)), if_neg h59]
  by_cases h60 : c = 60
  · subst h60; rfl
  rw [if_neg (show ¬ nI c = 60 from fun h => h60 ((key 60 (by omega)).mp h)), if_neg h60]
  by_cases h61 : c = 61
  · subst h61; rfl
  rw [if_neg (show ¬ nI c = 61 from fun h => h61 ((key 61 (by omega)).mp h)), if_neg h61]
  by_cases h62 : c = 62
  · subst h62; rfl
  rw [if_neg (show ¬ nI c = 62 from fun h => h62 ((key 62 (by omega)).mp h)), if_neg h62]
theorem dg_in {p j : Nat} (h1 : p ≤ j) (h2 : j < enT n (dgB b n) p) : 48 ≤ b j ∧ b j ≤ 57 := by
  have := enT_in n (Q := dgB b n) (n - p) p j (Nat.le_refl _) h1 h2
  unfold dgB at this
  rw [decide_eq_true_eq] at this
  exact this.2
theorem lt_in {p j : Nat} (h1 : p ≤ j) (h2 : j < enT n (ltB b n) p) : 97 ≤ b j ∧ b j ≤ 122 := by
  have := enT_in n (Q := ltB b n) (n - p) p j (Nat.le_refl _) h1 h2
  unfold ltB at this
  rw [decide_eq_true_eq] at this
  exact this.2
theorem kindTk_eq (F : Nat) (hF : 1000 ≤ F) (S : ST) (hT : TP S b n) {p : Nat} (hp : p < n) : fX8_kindAt F S (nI p) (nI (stopS b n p)) = some (kindS b n p, S) := by
  have hn := hT.1
  unfold fX8_kindAt kindS stopS
  rw [byte_eq F S hT (by omega), Option.bind_some, isDC F S hT.byt p, Option.bind_some]
  cases hd : dgB b n p with
  | true =>
    have hge := enT_ge n (dgB b n) p
    have hle := enT_le n (dgB b n) (p := p) (by omega)
    obtain ⟨k, hk⟩ : ∃ k, enT n (dgB b n) p = p + k := ⟨enT n (dgB b n) p - p, by omega⟩
    rw [if_neg flT, if_pos rfl, if_pos rfl]
    show (fX8_numberAt F S (nI p) (nI (enT n (dgB b n) p))).bind _ = _
    rw [hk, show p + k - p = k by omega]
    unfold fX8_numberAt
    rw [pk_sub (by omega), show p + k - p = k by omega]
    by_cases c1 : 4 < k
    · rw [if_pos (show (4 : Int32) < nI k from nI_lt (a := 4) c1 (by omega)), if_pos (Or.inl c1)]
      rfl
    · rw [if_neg (show ¬ (4 : Int32) < nI k from nI_nlt (a := 4) (by omega) (by omega)), byte_eq F S hT (by omega), Option.bind_some, isLC F S hT.byt (p + k), Option.bind_some]
      cases hl : ltB b n (p + k) with
      | true =>
        rw [if_neg flT, if_pos (Or.inr rfl)]
        rfl
      | false =>
        rw [if_pos flF, if_neg (by rintro (h | h); exact c1 h; cases h)]
        have := num_lp F S hT (p := p) (k := k) (by omega) (by omega) (fun j hj => dg_in (b := b) (n := n) (p := p) (by omega) (by omega)) k F 0 (by omega) (by omega)
        rw [show fX8_numberAt_26 F F S (nI (p + k)) 0 (nI p) = _ from this]
        rfl
  | false =>
    rw [if_pos flF]
    show (fX8_isLetter F S (bA b n p)).bind _ = _
    rw [isLC F S hT.byt p, Option.bind_some, if_neg (show ¬ false = true by decide), if_neg (show ¬ false = true by decide)]
    cases hl : ltB b n p with
    | true =>
      have hge := enT_ge n (ltB b n) p
      have hle := enT_le n (ltB b n) (p := p) (by omega)
      obtain ⟨k, hk⟩ : ∃ k, enT n (ltB b n) p = p + k := ⟨enT n (ltB b n) p - p, by omega⟩
      rw [if_neg flT, if_pos rfl, if_pos rfl, hk, pk_sub (by omega), show p + k - p = k by omega]
      by_cases c1 : k ≤ 8
      · rw [if_pos (show nI k ≤ 8 from nI_le (b := 8) c1 (by omega)), if_pos c1]
        show (fX8_wordAt F S (nI p) (nI (p + k))).bind _ = _
        rw [wordAt_eq F (by omega) S hT (by omega)]
        rfl
      · rw [if_neg (show ¬ nI k ≤ 8 from nI_ge (a := 8) (by omega) (by omega)), if_neg c1]
    | false =>
      rw [if_pos flF, if_neg (show ¬ false = true by decide)]
      show (fX8_signOf F S (bA b n p)).bind _ = _
      have hbA : bA b n p = nI (b p) := by unfold bA; rw [if_pos hp]
      have hnd : ¬ (48 ≤ b p ∧ b p ≤ 57) := fun h => by
        have : dgB b n p = true := decide_eq_true ⟨hp, h⟩
        rw [this] at hd
        cases hd
      rw [hbA, sgn_eq F S (b p) (hT.byt p hp) hnd]
      rfl
def TKC (S : ST) (b : Nat → Nat) (n i : Nat) : Prop := ∀ k, k < i → S.1 14 k = kdS b n k ∧ S.1 15 k = nI (tqS b n k)
def frTk (S S2 : ST) : Prop := (∀ c, c ≠ 4 → c ≠ 14 → c ≠ 15 → S2.1 c = S.1 c) ∧ (∀ j, j ≠ 2 → S2.1 4 j = S.1 4 j) ∧ S2.2 = S.2
theorem frTk_refl (S : ST) : frTk S S := ⟨fun _ _ _ _ => rfl, fun _ _ => rfl, rfl⟩
theorem frTk.tr {S S2 S3 : ST} (h : frTk S S2) (g : frTk S2 S3) : frTk S S3 := ⟨fun c a1 a2 a3 => (g.1 c a1 a2 a3).trans (h.1 c a1 a2 a3), fun j a => (g.2.1 j a).trans (h.2.1 j a), g.2.2.trans h.2.2⟩
theorem TP.fr {S S2 : ST} (h : TP S b n) (f : frTk S S2) : TP S2 b n := by
  unfold TP at *
  rw [f.1 2 (by decide) (by decide) (by decide), f.1 13 (by decide) (by decide) (by decide)]
  exact h
theorem add_eq (F : Nat) (S : ST) (k x : Int32) {i : Nat} (hi : i < 601) (h : S.1 4 2 = nI i) : fX8_add F S k x = some (0, us (us (us S 14 i k) 15 i x) 4 2 (nI (i + 1))) := by
  unfold fX8_add
  rw [h, if_neg (nI_pos (by omega)), if_neg (show ¬ (601 : Int32) ≤ nI i from nI_ge (b := 601) (by omega) (by omega)), if_pos (vin_nI hi (by omega)), ix_nI (by omega), bindS_eq]
  show (if vin (S.1 4 2) 601 = true then bindS (us (us S 14 i k) 15 (ix (S.1 4 2)) x) (fun S38 => bindS (us S38 4 2 (S38.1 4 2 + 1)) (fun S46 => some (0, S46))) else none) = _
  rw [h, if_pos (vin_nI hi (by omega)), ix_nI (by omega), bindS_eq, bindS_eq]
  show some (0, us (us (us S 14 i k) 15 i x) 4 2 (S.1 4 2 + 1)) = _
  rw [h, nI_1]
theorem add_fr (S : ST) (i : Nat) (k x v : Int32) : frTk S (us (us (us S 14 i k) 15 i x) 4 2 v) := ⟨fun c a1 a2 a3 => by rw [us_row, if_neg a1, us_row, if_neg a3, us_row, if_neg a2], fun j hj => by simp [us_rd, hj], rfl⟩
theorem add_tk {S : ST} {i : Nat} {k x v : Int32} (h : TKC S b n i) (hk : k = kdS b n i) (hx : x = nI (tqS b n i)) : TKC (us (us (us S 14 i k) 15 i x) 4 2 v) b n (i + 1) := fun j hj => by
  rw [us_rd, us_rd, us_rd, us_rd, us_rd, us_rd]
  by_cases e : j = i
  · subst e
    simp [hk, hx]
  · simp [e]
    exact h j (by omega)
theorem split_lp (F : Nat) (hF : 1000 ≤ F) : ∀ (d f p i : Nat) (S : ST), n - p ≤ d → p ≤ n → d < f → TP S b n → S.1 4 2 = nI i → TKC S b n i → nxtS b n p = tqS b n i → (∀ k, k < i → tqS b n k < n) → ∃ S2 T, fX8_split_7 F f S (nI p) = some (0, S2) ∧ T ≤ 600 ∧ S2.1 4 2 = nI (T + 1) ∧ TKC S2 b n (T + 1) ∧ tqS b n T = n ∧ (∀ k, k < T → tqS b n k < n) ∧ frTk S S2
  | d, 0, p, i, S, h1, h2, h3, _, _, _, _, _ => by omega
  | d, f + 1, p, i, S, h1, h2, h3, hT, h4, hK, hx, hlt => by
    have hn := hT.1
    have hti := tq_le b n i
    have htg := tq_ge b n i hlt
    rw [fX8_split_7, hT.2.1]
    by_cases c : p = n
    · subst c
      have e : tqS b p i = p := by
        rw [← hx]
        unfold nxtS
        rw [enT_n p (by unfold blB; simp)]
      rw [if_pos (nI_le (by omega) (by omega)), add_eq F S (-22) (nI p) (i := i) (by omega) h4]
      exact ⟨_, i, rfl, by omega, rfl, add_tk hK (by unfold kdS; rw [if_neg (by omega)]) (by rw [e]), e, hlt, add_fr S i _ _ _⟩
    · have hp : p < n := by omega
      obtain ⟨q, e1, e2, e3⟩ := endAt_eq F hF S hT hp
      have hst := stop_gt b n hp
      rw [if_neg (nI_ge (by omega) (by omega)), e1, Option.bind_some]
      show ∃ S2 T, bindI (jmax (nI q) (nI p + 1)) _ = _ ∧ _
      rw [nI_1, jmax_nI (by omega) (by omega), e2, bindI_eq, byte_eq F S hT (by omega), Option.bind_some]
      have hbA : bA b n p = nI (b p) := by unfold bA; rw [if_pos hp]
      have hb := hT.byt p hp
      show ∃ S2 T, (fX8_isBlank F S (bA b n p)).bind _ = _ ∧ _
      cases hbl : blB b n p with
      | true =>
        have hbl2 : b p = 32 ∨ b p = 10 := by
          unfold blB at hbl
          rw [decide_eq_true_eq] at hbl
          exact hbl.2
        have eb : fX8_isBlank F S (bA b n p) = some (1, S) := by
          unfold fX8_isBlank
          rw [hbA]
          rcases hbl2 with h | h
          · rw [h]; rfl
          · rw [h]; rfl
        have es : stopS b n p = p + 1 := by
          unfold stopS
          rw [if_neg (by unfold dgB; rw [decide_eq_true_eq]; omega), if_neg (by unfold ltB; rw [decide_eq_true_eq]; omega)]
        have hd : 0 < d := by omega
        rw [eb, Option.bind_some, es]
        show ∃ S2 T, (if (1 : Int32) = 0 then _ else fX8_split_7 F f S (nI (p + 1))) = _ ∧ _
        rw [if_neg z10]
        exact split_lp F hF (d - 1) f (p + 1) i S (by omega) (by omega) (by omega) hT h4 hK (by
          rw [← hx]
          unfold nxtS
          rw [enT_y n hp hbl]) hlt
      | false =>
        have hbl2 : ¬ b p = 32 ∧ ¬ b p = 10 := by
          unfold blB at hbl
          rw [decide_eq_false_iff_not] at hbl
          exact ⟨fun h => hbl ⟨hp, Or.inl h⟩, fun h => hbl ⟨hp, Or.inr h⟩⟩
        have eb : fX8_isBlank F S (bA b n p) = some (0, S) := by
          unfold fX8_isBlank
          rw [hbA, if_neg (show ¬ nI (b p) = 32 from fun h => hbl2.1 ((nI_eq (b := 32) (by omega) (by omega)).mp h)), if_neg (show ¬ nI (b p) = 10 from fun h => hbl2.2 ((nI_eq (b := 10) (by omega) (by omega)).mp h))]
        have ep : p = tqS b n i := by
          rw [← hx]
          unfold nxtS
          rw [enT_n n hbl]
        rw [eb, Option.bind_some]
        show ∃ S2 T, (if (0 : Int32) = 0 then (fX8_kindAt F S (nI p) (nI (stopS b n p))).bind (fun q42 => (fX8_add F q42.2 q42.1 (nI p)).bind (fun q46 => fX8_split_7 F f q46.2 (nI (stopS b n p)))) else _) = _ ∧ _
        rw [if_pos rfl, kindTk_eq F hF S hT hp, Option.bind_some, add_eq F S (kindS b n p) (nI p) (i := i) (by omega) h4, Option.bind_some]
        have hfr := add_fr S i (kindS b n p) (nI p) (nI (i + 1))
        obtain ⟨S2, T, r1, r2, r3, r4, r5, r6, r7⟩ := split_lp F hF (d - 1) f (stopS b n p) (i + 1) (us (us (us S 14 i (kindS b n p)) 15 i (nI p)) 4 2 (nI (i + 1))) (by omega) (by omega) (by omega) (hT.fr hfr) rfl (add_tk hK (by unfold kdS; rw [if_pos (by omega), ← ep]) (by rw [← ep])) (by rw [tqS, if_pos (by omega), ← ep]) (fun k hk => by
          by_cases ek : k = i
          · rw [ek, ← ep]; exact hp
          · exact hlt k (by omega))
        exact ⟨S2, T, r1, r2, r3, r4, r5, r6, hfr.tr r7⟩
end TOKD
