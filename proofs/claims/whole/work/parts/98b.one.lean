def QN (now2 k : Int32) : Prop := (now2 = 4 ∨ now2 = 5) ∧ (now2 = 4 → k ≠ -12 ∧ k ≠ -13)
def QO (P : List Int32) (now2 k : Int32) : Prop := (∀ w, w ∈ P → w ≠ 28 ∧ ¬ w < 0 ∧ w ≠ 21) ∧ QN now2 k
def QB (P : List Int32) (now2 k : Int32) : Prop := (∀ w, w ∈ P → w ≠ 28 ∧ ¬ w < 0 ∧ w ≠ 21) ∧ QN now2 k ∧ k ≠ -7
def QE (P : List Int32) (now2 k : Int32) : Prop := (∀ w, w ∈ P → w ≠ 28 ∧ ¬ w < 0) ∧ QN now2 k ∧ k ≠ -7 ∧ k ≠ -8
def OneS (X : RCx) (F : Nat) (pr : ST → Int32 → Option (Int32 × ST)) (d : Nat) : Prop := ∀ (SC SM : ST) (i : Nat) (B : List Int32) (t s : Nat) (τ : List Bool) (f : Nat), RRr X SC SM i B [] t s τ → cntD B = d → B.length ≤ 3 * d + 2 → (∀ w r, B = w :: r → w = 28 ∨ w < 26) → τ.length ≤ 2 * d + 2 → 700 ≤ f + i → ResR X F (f + i) (pr SC (nI d)) (fX11_readE_14 F f SM 0 1) B t s τ true QO
def BothS (X : RCx) (F : Nat) (pr : ST → Int32 → Option (Int32 × ST)) (d : Nat) : Prop := ∀ (SC SM : ST) (i : Nat) (B : List Int32) (t s : Nat) (τ : List Bool) (f : Nat), RRr X SC SM i B [] t s τ → cntD B = d → B.length ≤ 3 * d + 1 → (∀ w r, B = w :: r → w = 28 ∨ w = 21) → τ.length ≤ 2 * d + 1 → 700 ≤ f + i → ResR X F (f + i) (pr SC (nI d)) (fX11_readE_14 F f SM 0 1) B t s τ true QB
def EitherS (X : RCx) (F : Nat) (pr : ST → Int32 → Option (Int32 × ST)) (d : Nat) : Prop := ∀ (SC SM : ST) (i : Nat) (B : List Int32) (t s : Nat) (τ : List Bool) (f : Nat), RRr X SC SM i B [] t s τ → cntD B = d → B.length ≤ 3 * d → (∀ w r, B = w :: r → w = 28) → τ.length ≤ 2 * d → 700 ≤ f + i → ResR X F (f + i) (pr SC (nI d)) (fX11_readE_14 F f SM 0 1) B t s τ true QE
section ONES
variable {X : RCx} {SC SM : ST} {i t s c : Nat} {W P B : List Int32} {τ : List Bool} {now : Int32}
theorem ty_ao {k : Int32} (h : k = -7 ∨ k = -8) (τ : List Bool) : tyStep k (true :: true :: τ) = some (true :: τ) := by
  rcases h with e | e <;> (rw [e]; rfl)
theorem ty_no (τ : List Bool) : tyStep (-6) (true :: τ) = some (true :: τ) := rfl
theorem ty_cp {k : Int32} (h : k = -9 ∨ k = -10 ∨ k = -11) (τ : List Bool) : tyStep k (false :: false :: τ) = some (true :: τ) := by
  rcases h with e | e | e <;> (rw [e]; rfl)
theorem RRr.i6 (hX : XOK X) (h : RRr X SC SM i W P t s τ) : i ≤ 600 ∧ t ≤ 60 := by
  obtain ⟨c, q, hC, _⟩ := h
  exact ⟨Nat.le_trans hC.2.2.2.2.2.1 hX.1, hC.2.2.2.2.2.2.1⟩
theorem app_c {w : Int32} : P ++ w :: B = (P ++ [w]) ++ B := by
  rw [List.append_assoc]
  rfl
theorem RRr.emit (F : Nat) {w k : Int32} {τ2 τ3 : List Bool} (h : RRr X SC SM i (P ++ w :: B) P t (s + 1) τ2) (hk : opR k w) (hy : tyStep k τ2 = some τ3) (h3 : τ3.length ≤ 30) : ∃ SC2, fX2_emit F SC k = some (0, SC2) ∧ RRr X SC2 SM i ((P ++ [w]) ++ B) (P ++ [w]) t s τ3 := by
  obtain ⟨c, q, hC, hM, hL, hs, hq⟩ := h
  have h600 := hM.q6 i
  have ht := hC.2.2.2.2.2.2.1
  obtain ⟨SC2, a1, a2, a3⟩ := emit_eq hC (by omega) hy h3 F
  refine ⟨SC2, a1, c + 1, q, a2, ?_, hL.emit a3 hk, by omega, hq⟩
  rw [← app_c]
  exact hM
theorem both_lp (hX : XOK X) (F : Nat) (hF : 1000 ≤ F) {pr : ST → Int32 → Option (Int32 × ST)} {d : Nat} (hd : d ≤ 6) (hO : OneS X F pr d) (hcn : cntD B = d) (hl : B.length ≤ 3 * d + 1) (hB : ∀ w r, B = w :: r → w = 28 ∨ w = 21) (hτ : τ.length ≤ 2 * d + 1) {t0 : Nat} : ∀ (e fc m : Nat) (SC SM : ST) (i t : Nat) (P : List Int32) (now : Int32) (f : Nat), m + e = 60 → e < fc → m + 1 ≤ t → t0 < t → RRr X SC SM i (P ++ B) P t (s + 1) (true :: τ) → QO P now (xk X i) → 700 ≤ f + i → ResR X F (f + i) (fX1_readBothP_12 F pr fc SC (nI d) (nI m)) (fX11_readE_14 F f SM now 1) B t0 s τ true QB
  | e, 0, m, SC, SM, i, t, P, now, f, h1, h2, h3, h4, h, hQ, hf => by omega
  | e, fc + 1, m, SC, SM, i, t, P, now, f, h1, h2, h3, h4, h, hQ, hf => by
    obtain ⟨i6, t6⟩ := h.i6 hX
    obtain ⟨c, q, hC, hM, hL, hs, hq⟩ := id h
    have h600 := hM.q6 i
    rw [fX1_readBothP_12, if_neg (show ¬ (60 : Int32) ≤ nI m from nI_ge (b := 60) (by omega) (by omega)), hC.tok]
    by_cases k : xk X i = -7
    · obtain ⟨SC2, a1, a2, a3⟩ := adv_eq hX hC (by rw [k]; decide) F
      obtain ⟨SM2, b1, b2, b3⟩ := sg_167 F hF hQ.2.1 (w := 22) (Or.inl ⟨k, rfl, hB, fun w hw => ⟨(hQ.1 w hw).1, (hQ.1 w hw).2.2⟩⟩) hM hL (by omega) (by omega)
      obtain ⟨f', rfl⟩ : ∃ f', f = f' + 1 := ⟨f - 1, by omega⟩
      have em : fX11_readE_14 F (f' + 1) SM now 1 = fX11_readE_14 F f' SM2 0 1 := by
        rw [lp_s45 F f' (by omega) hM hQ.2.1 (Or.inl (by rw [k]; decide)), b1, Option.bind_some]
      rw [if_pos k, a1, Option.bind_some, em]
      have hR : RRr X SC2 SM2 (i + 1) (22 :: B) [] t (s + 1) (true :: τ) := ⟨c, q, a2, b2, b3.c19 a3, hs, Nat.le_trans hq (xq_mono X i)⟩
      have := hO SC2 SM2 (i + 1) (22 :: B) t (s + 1) (true :: τ) f' hR (by rw [cntD, if_neg (by decide)]; exact hcn) (by show B.length + 1 ≤ _; omega) (fun w r hb => by cases hb; exact Or.inr (by decide)) (by show τ.length + 1 ≤ _; omega) (by omega)
      rcases this with ⟨SC3, SM3, e1, e2, e3⟩ | ⟨SC3, SM3, i3, P3, t3, now3, f3, e1, e2, e3, e4, e5, e6⟩
      · refine Or.inl ⟨SC3, SM3, ?_, e2, e3⟩
        show (pr SC2 (nI d)).bind _ = _
        rw [e1]
        rfl
      · obtain ⟨SC4, g1, g2⟩ := e3.emit F (k := -7) (Or.inr (Or.inl ⟨rfl, rfl⟩)) (ty_ao (Or.inl rfl) τ) (by show τ.length + 1 ≤ 30; omega)
        have e0 : ((fX1_advance F SC).bind fun q28 => (pr q28.2 (nI d)).bind fun q33 => if q33.1 = 0 then some ((0 : Int32), q33.2) else (fX2_emit F q33.2 (-7)).bind fun q47 => fX1_readBothP_12 F pr fc q47.2 (nI d) (nI m + 1)) = fX1_readBothP_12 F pr fc SC4 (nI d) (nI (m + 1)) := by
          rw [a1, Option.bind_some]
          show (pr SC2 (nI d)).bind _ = _
          rw [e1, Option.bind_some, if_neg z10]
          show (fX2_emit F SC3 (-7)).bind _ = _
          rw [g1, Option.bind_some, nI_1]
        rw [a1, Option.bind_some] at e0
        rw [e0, e2]
        have := both_lp hX F hF hd hO hcn hl hB hτ (t0 := t0) (e - 1) fc (m + 1) SC4 SM3 i3 t3 (P3 ++ [22]) now3 f3 (by omega) (by omega) (by omega) (by omega) g2 ⟨fun w hw => by
          rcases List.mem_append.mp hw with g | g
          · exact e4.1 w g
          · rw [List.mem_singleton] at g
            rw [g]
            decide, e4.2⟩ (by omega)
        rw [e5, show f' + (i + 1) = f' + 1 + i by omega] at this
        exact this
    · rw [if_neg k]
      exact Or.inr ⟨SC, SM, i, P, t, now, f, rfl, rfl, h, ⟨hQ.1, hQ.2, k⟩, rfl, h4⟩
theorem both_eq (hX : XOK X) (F : Nat) (hF : 1000 ≤ F) {pr : ST → Int32 → Option (Int32 × ST)} {d : Nat} (hd : d ≤ 6) (hO : OneS X F pr d) : BothS X F (fX1_readBothP F pr) d := by
  intro SC SM i B t s τ f h hcn hl hB hτ hf
  have := hO SC SM i B t s τ f h hcn (by omega) (fun w r hb => (hB w r hb).imp id (fun g => by rw [g]; decide)) (by omega) hf
  unfold fX1_readBothP
  rcases this with ⟨SC3, SM3, e1, e2, e3⟩ | ⟨SC3, SM3, i3, P3, t3, now3, f3, e1, e2, e3, e4, e5, e6⟩
  · refine Or.inl ⟨SC3, SM3, ?_, e2, e3⟩
    rw [e1]
    rfl
  · rw [e1, Option.bind_some, if_neg z10, e2]
    have := both_lp hX F hF hd hO hcn hl hB hτ (s := s) (t0 := t) 60 F 0 SC3 SM3 i3 t3 P3 now3 f3 (by omega) (by omega) (by omega) (by omega) e3 e4 (by omega)
    rw [e5] at this
    exact this
theorem either_lp (hX : XOK X) (F : Nat) (hF : 1000 ≤ F) {pr : ST → Int32 → Option (Int32 × ST)} {d : Nat} (hd : d ≤ 6) (hO : BothS X F pr d) (hcn : cntD B = d) (hl : B.length ≤ 3 * d) (hB : ∀ w r, B = w :: r → w = 28) (hτ : τ.length ≤ 2 * d) {t0 : Nat} : ∀ (e fc m : Nat) (SC SM : ST) (i t : Nat) (P : List Int32) (now : Int32) (f : Nat), m + e = 60 → e < fc → m + 1 ≤ t → t0 < t → RRr X SC SM i (P ++ B) P t (s + 1) (true :: τ) → ((∀ w, w ∈ P → w ≠ 28 ∧ ¬ w < 0) ∧ QN now (xk X i) ∧ xk X i ≠ -7) → 700 ≤ f + i → ResR X F (f + i) (fX1_readEitherP_23 F pr fc SC (nI d) (nI m)) (fX11_readE_14 F f SM now 1) B t0 s τ true QE
  | e, 0, m, SC, SM, i, t, P, now, f, h1, h2, h3, h4, h, hQ, hf => by omega
  | e, fc + 1, m, SC, SM, i, t, P, now, f, h1, h2, h3, h4, h, hQ, hf => by
    obtain ⟨i6, t6⟩ := h.i6 hX
    obtain ⟨c, q, hC, hM, hL, hs, hq⟩ := id h
    have h600 := hM.q6 i
    rw [fX1_readEitherP_23, if_neg (show ¬ (60 : Int32) ≤ nI m from nI_ge (b := 60) (by omega) (by omega)), hC.tok]
    by_cases k : xk X i = -8
    · obtain ⟨SC2, a1, a2, a3⟩ := adv_eq hX hC (by rw [k]; decide) F
      obtain ⟨SM2, b1, b2, b3⟩ := sg_167 F hF hQ.2.1.1 (w := 21) (Or.inr ⟨k, rfl, hB, fun w hw => (hQ.1 w hw).1⟩) hM hL (by omega) (by omega)
      obtain ⟨f', rfl⟩ : ∃ f', f = f' + 1 := ⟨f - 1, by omega⟩
      have em : fX11_readE_14 F (f' + 1) SM now 1 = fX11_readE_14 F f' SM2 0 1 := by
        rw [lp_s45 F f' (by omega) hM hQ.2.1.1 (Or.inl (by rw [k]; decide)), b1, Option.bind_some]
      rw [if_pos k, a1, Option.bind_some, em]
      have hR : RRr X SC2 SM2 (i + 1) (21 :: B) [] t (s + 1) (true :: τ) := ⟨c, q, a2, b2, b3.c19 a3, hs, Nat.le_trans hq (xq_mono X i)⟩
      have := hO SC2 SM2 (i + 1) (21 :: B) t (s + 1) (true :: τ) f' hR (by rw [cntD, if_neg (by decide)]; exact hcn) (by show B.length + 1 ≤ _; omega) (fun w r hb => by cases hb; exact Or.inr rfl) (by show τ.length + 1 ≤ _; omega) (by omega)
      rcases this with ⟨SC3, SM3, e1, e2, e3⟩ | ⟨SC3, SM3, i3, P3, t3, now3, f3, e1, e2, e3, e4, e5, e6⟩
      · refine Or.inl ⟨SC3, SM3, ?_, e2, e3⟩
        show (pr SC2 (nI d)).bind _ = _
        rw [e1]
        rfl
      · obtain ⟨SC4, g1, g2⟩ := e3.emit F (k := -8) (Or.inr (Or.inr (Or.inl ⟨rfl, rfl⟩))) (ty_ao (Or.inr rfl) τ) (by show τ.length + 1 ≤ 30; omega)
        have e0 : ((fX1_advance F SC).bind fun q39 => (pr q39.2 (nI d)).bind fun q44 => if q44.1 = 0 then some ((0 : Int32), q44.2) else (fX2_emit F q44.2 (-8)).bind fun q58 => fX1_readEitherP_23 F pr fc q58.2 (nI d) (nI m + 1)) = fX1_readEitherP_23 F pr fc SC4 (nI d) (nI (m + 1)) := by
          rw [a1, Option.bind_some]
          show (pr SC2 (nI d)).bind _ = _
          rw [e1, Option.bind_some, if_neg z10]
          show (fX2_emit F SC3 (-8)).bind _ = _
          rw [g1, Option.bind_some, nI_1]
        rw [a1, Option.bind_some] at e0
        rw [e0, e2]
        have := either_lp hX F hF hd hO hcn hl hB hτ (t0 := t0) (e - 1) fc (m + 1) SC4 SM3 i3 t3 (P3 ++ [21]) now3 f3 (by omega) (by omega) (by omega) (by omega) g2 ⟨fun w hw => by
          rcases List.mem_append.mp hw with g | g
          · exact ⟨(e4.1 w g).1, (e4.1 w g).2.1⟩
          · rw [List.mem_singleton] at g
            rw [g]
            decide, e4.2.1, e4.2.2⟩ (by omega)
        rw [e5, show f' + (i + 1) = f' + 1 + i by omega] at this
        exact this
    · rw [if_neg k]
      exact Or.inr ⟨SC, SM, i, P, t, now, f, rfl, rfl, h, ⟨hQ.1, hQ.2.1, hQ.2.2, k⟩, rfl, h4⟩
theorem deep_bad (hX : XOK X) (F : Nat) {f : Nat} (h : RRr X SC SM i B P t s τ) {d : Nat} (hcn : cntD B = d) (hd : 6 ≤ d) (hd2 : d ≤ 1000) (hf : 700 ≤ f + i) {y : Bool} {Q : List Int32 → Int32 → Int32 → Prop} {τ0 : List Bool} : ResR X F (f + i) ((fX1_refuse F SC).bind (fun q : Int32 × ST => if q.1 &&& 1 = q.1 then some (q.1, q.2) else none)) (fX11_readE_14 F f SM 0 1) B t s τ0 y Q := by
  obtain ⟨i6, t6⟩ := h.i6 hX
  obtain ⟨c, q, hC, hM, hL, hs, hq⟩ := id h
  obtain ⟨f', rfl⟩ : ∃ f', f = f' + 2 := ⟨f - 2, by omega⟩
  exact Or.inl ⟨_, _, refuse_b hC F, lp_bad hM (Or.inl rfl) (op_bad2 F hM (by omega) (by omega)), flt_mk hC hM⟩
theorem either_eq (hX : XOK X) (F : Nat) (hF : 1000 ≤ F) {pr : ST → Int32 → Option (Int32 × ST)} {d : Nat} (hd : d ≤ 6) (hO : BothS X F pr d) : EitherS X F (fX1_readEitherP F pr) d := by
  intro SC SM i B t s τ f h hcn hl hB hτ hf
  unfold fX1_readEitherP
  by_cases hd6 : d < 6
  · rw [if_pos (show nI d < 6 from nI_lt (b := 6) hd6 (by omega))]
    have := hO SC SM i B t s τ f h hcn (by omega) (fun w r hb => Or.inl (hB w r hb)) (by omega) hf
    rcases this with ⟨SC3, SM3, e1, e2, e3⟩ | ⟨SC3, SM3, i3, P3, t3, now3, f3, e1, e2, e3, e4, e5, e6⟩
    · refine Or.inl ⟨SC3, SM3, ?_, e2, e3⟩
      rw [e1]
      rfl
    · rw [e1, Option.bind_some, if_neg z10, e2]
      have := either_lp hX F hF hd hO hcn hl hB hτ (s := s) (t0 := t) 60 F 0 SC3 SM3 i3 t3 P3 now3 f3 (by omega) (by omega) (by omega) (by omega) e3 ⟨fun w hw => ⟨(e4.1 w hw).1, (e4.1 w hw).2.1⟩, e4.2.1, e4.2.2⟩ (by omega)
      rw [e5] at this
      exact this
  · rw [if_neg (show ¬ nI d < 6 from nI_nlt (b := 6) (by omega) (by omega))]
    exact deep_bad hX F h hcn (by omega) (by omega) hf
end ONES
