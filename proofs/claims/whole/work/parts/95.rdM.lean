def cntD : List Int32 → Nat
  | [] => 0
  | w :: r => cntD r + if w = 28 ∨ w = 20 then 1 else 0
def opR (c w : Int32) : Prop := (c = -6 ∧ w = 20) ∨ (c = -7 ∧ w = 22) ∨ (c = -8 ∧ w = 21) ∨ (c = -9 ∧ w = 24) ∨ (c = -10 ∧ w = 25) ∨ (c = -11 ∧ w = 23) ∨ (c = -12 ∧ w = 26) ∨ (c = -13 ∧ w = 27)
theorem opR.cd {c w : Int32} (h : opR c w) (v : Int32) : codeRel c w v := Or.inr (Or.inr h)
def pendR (code : Nat → Int32) : Nat → List Int32 → Prop
  | _, [] => True
  | m, w :: P => opR (code m) w ∧ pendR code (m + 1) P
theorem pendR_congr {f g : Nat → Int32} : ∀ (P : List Int32) (m : Nat), (∀ j, m ≤ j → j < m + P.length → f j = g j) → pendR f m P → pendR g m P
  | [], _, _, _ => trivial
  | w :: P, m, h, hp => by
    have hl : (w :: P).length = P.length + 1 := rfl
    refine ⟨?_, pendR_congr P (m + 1) (fun j h1 h2 => h j (by omega) (by omega)) hp.2⟩
    rw [← h m (Nat.le_refl _) (by omega)]
    exact hp.1
theorem pendR_snoc {f : Nat → Int32} {w : Int32} : ∀ (P : List Int32) (m : Nat), pendR f m P → opR (f (m + P.length)) w → pendR f m (P ++ [w])
  | [], m, _, h => ⟨h, trivial⟩
  | v :: P, m, hp, h => ⟨hp.1, pendR_snoc P (m + 1) hp.2 (by
      have hl : (v :: P).length = P.length + 1 := rfl
      rw [show m + 1 + P.length = m + (v :: P).length by omega]
      exact h)⟩
def LKr (SC SM : ST) (c : Nat) (P : List Int32) : Prop := ∃ m, SM.1 0 21 = nI m ∧ m + P.length = c ∧ (∀ k, k < m → codeRel (SC.1 19 k) (SM.1 10 k) (SM.1 11 k)) ∧ pendR (SC.1 19) m P
def MTk (X : RCx) (S : ST) (i : Nat) : Prop := TPM S X.1 X.2.1 ∧ S.1 0 11 = nI (xq X i) ∧ TkR S (xk X i) ∧ (xk X i ≠ -21 → xk X i ≠ -22 → ∃ p, p ≤ X.2.1 ∧ S.1 0 8 = nI p ∧ nxtS X.1 X.2.1 p = xq X (i + 1))
def MFr (X : RCx) (S : ST) : Prop := (∀ x, x ≠ 0 → x ≠ 10 → x ≠ 11 → x ≠ 13 → S.1 x = (xM X).1 x) ∧ ∀ j, j ∉ [6, 8, 10, 11, 12, 21, 22, 29, 30] → S.1 0 j = (xM X).1 0 j
def MMr (X : RCx) (S : ST) (i t : Nat) (W : List Int32) : Prop := MFr X S ∧ S.1 0 6 = 0 ∧ MTk X S i ∧ S.1 0 22 = nI t ∧ stkM (S.1 13) W ∧ S.1 0 29 = nI W.length ∧ S.1 0 30 = nI (cntD W) ∧ W.length ≤ 40
theorem MTk.fr {X : RCx} {S S2 : ST} {i : Nat} (h : MTk X S i) (e2 : S2.1 2 = S.1 2) (e : ∀ j, 8 ≤ j → j ≤ 12 → S2.1 0 j = S.1 0 j) (ew : S2.2 = S.2) : MTk X S2 i := by
  unfold MTk TPM TkR at *
  rw [e2, e 9 (by omega) (by omega), e 11 (by omega) (by omega), e 10 (by omega) (by omega), e 12 (by omega) (by omega), e 8 (by omega) (by omega), ew]
  exact h
theorem MFr.us0 {X : RCx} {S : ST} (h : MFr X S) {j : Nat} (hj : j ∈ [6, 8, 10, 11, 12, 21, 22, 29, 30]) (v : Int32) : MFr X (us S 0 j v) := ⟨fun x a1 a2 a3 a4 => by rw [us_nx a1]; exact h.1 x a1 a2 a3 a4, fun i hi => by rw [us_nj (fun e => by rw [e] at hi; exact hi hj)]; exact h.2 i hi⟩
theorem MFr.us1 {X : RCx} {S : ST} (h : MFr X S) {k : Nat} (hk : k = 10 ∨ k = 11 ∨ k = 13) (j : Nat) (v : Int32) : MFr X (us S k j v) := ⟨fun x a1 a2 a3 a4 => by rw [us_nx (by omega)]; exact h.1 x a1 a2 a3 a4, fun i hi => by rw [us_nx (by omega)]; exact h.2 i hi⟩
section RDM
variable {X : RCx} {S SC : ST} {i t c : Nat} {W P : List Int32}
theorem kd_xk (X : RCx) (i : Nat) : KD (xk X i) := kd_KD i
theorem xq_le (X : RCx) (i : Nat) : xq X i ≤ X.2.1 := tq_le X.1 X.2.1 i
theorem xq_mono (X : RCx) (i : Nat) : xq X i ≤ xq X (i + 1) := by
  by_cases h : tqS X.1 X.2.1 i < X.2.1
  · exact Nat.le_of_lt (tq_gt X.1 X.2.1 h)
  · unfold xq
    rw [tqS, if_neg h]
    exact tq_le _ _ _
theorem MMr.tk (h : MMr X S i t W) : TkR S (xk X i) := h.2.2.1.2.2.1
theorem MMr.sort (h : MMr X S i t W) : S.1 0 10 = srt (xk X i) := h.tk.1
theorem next_eq (F : Nat) (hF : 1000 ≤ F) (h : MMr X S i t W) (h1 : xk X i ≠ -21) (h2 : xk X i ≠ -22) : ∃ S2, fX11_next F S = some (0, S2) ∧ MMr X S2 (i + 1) t W ∧ (∀ SC c P, LKr SC S c P → LKr SC S2 c P) := by
  obtain ⟨f1, g1, ⟨k1, k2, k3, k4⟩, g3, g4, g5, g6, g7⟩ := h
  obtain ⟨p, p1, p2, p3⟩ := k4 h1 h2
  have hn := k1.1
  obtain ⟨S2, q1, q2, q3, q4, q5⟩ := next_lp F hF X.2.1 F p S (by omega) p1 (by omega) k1 p2
  have ek : kQ X.1 X.2.1 (nxtS X.1 X.2.1 p) = xk X (i + 1) := by
    rw [p3]
    rfl
  rw [ek] at q4 q5
  rw [p3] at q3 q5
  have r : ∀ j, j ≠ 8 → j ≠ 10 → j ≠ 11 → j ≠ 12 → S2.1 0 j = S.1 0 j := q2.2
  refine ⟨S2, q1, ⟨⟨fun x a1 a2 a3 a4 => by rw [q2.1 x a1]; exact f1.1 x a1 a2 a3 a4, fun j hj => ?_⟩, by rw [r 6 (by decide) (by decide) (by decide) (by decide)]; exact g1, ⟨k1.fr q2, q3, q4, fun a1 a2 => ?_⟩, by rw [r 22 (by decide) (by decide) (by decide) (by decide)]; exact g3, by rw [q2.1 13 (by decide)]; exact g4, by rw [r 29 (by decide) (by decide) (by decide) (by decide)]; exact g5, by rw [r 30 (by decide) (by decide) (by decide) (by decide)]; exact g6, g7⟩, ?_⟩
  · rw [r j (fun e => by subst e; exact hj (by decide)) (fun e => by subst e; exact hj (by decide)) (fun e => by subst e; exact hj (by decide)) (fun e => by subst e; exact hj (by decide))]
    exact f1.2 j hj
  · have hlt : xq X (i + 1) < X.2.1 := by
      rcases Nat.lt_or_ge (xq X (i + 1)) X.2.1 with g | g
      · exact g
      · exact absurd (kd_end.mpr (Nat.not_lt.mpr g)) a2
    refine ⟨_, ?_, q5 a1, ?_⟩
    · unfold stQ
      rw [if_pos hlt]
      exact (stop_gt X.1 X.2.1 hlt).2
    · unfold stQ
      rw [if_pos hlt]
      show _ = tqS X.1 X.2.1 (i + 1 + 1)
      rw [tqS, if_pos (show tqS X.1 X.2.1 (i + 1) < X.2.1 from hlt)]
      rfl
  · rintro SC c P ⟨m, m1, m2, m3, m4⟩
    exact ⟨m, by rw [r 21 (by decide) (by decide) (by decide) (by decide)]; exact m1, m2, by rw [q2.1 10 (by decide), q2.1 11 (by decide)]; exact m3, m4⟩
theorem hold_eq (F : Nat) (h : MMr X S i t W) (hl : W.length < 40) (w : Int32) : ∃ S2, fX11_hold F S w = some (0, S2) ∧ MMr X S2 i t (w :: W) ∧ (∀ SC c P, LKr SC S c P → LKr SC S2 c P) := by
  obtain ⟨f1, g1, g2, g3, g4, g5, g6, g7⟩ := h
  have hd : (w :: W).length = W.length + 1 := rfl
  unfold fX11_hold
  rw [g5, if_pos (vin_nI (by omega) (by omega)), ix_nI (by omega), bindS_eq, bindS_eq]
  show ∃ S2, (if w = 28 then fX11_hold_32 F (us (us S 13 W.length w) 0 29 (S.1 0 29 + 1)) else if w = 20 then fX11_hold_32 F (us (us S 13 W.length w) 0 29 (S.1 0 29 + 1)) else some (0, us (us S 13 W.length w) 0 29 (S.1 0 29 + 1))) = _ ∧ _
  rw [g5, nI_1]
  have f2 : MFr X (us (us S 13 W.length w) 0 29 (nI (W.length + 1))) := (f1.us1 (Or.inr (Or.inr rfl)) _ _).us0 (by decide) _
  by_cases c : w = 28 ∨ w = 20
  · have e : (if w = 28 then fX11_hold_32 F (us (us S 13 W.length w) 0 29 (nI (W.length + 1))) else if w = 20 then fX11_hold_32 F (us (us S 13 W.length w) 0 29 (nI (W.length + 1))) else some (0, us (us S 13 W.length w) 0 29 (nI (W.length + 1)))) = some (0, us (us (us S 13 W.length w) 0 29 (nI (W.length + 1))) 0 30 (nI (cntD W + 1))) := by
      have e2 : fX11_hold_32 F (us (us S 13 W.length w) 0 29 (nI (W.length + 1))) = some (0, us (us (us S 13 W.length w) 0 29 (nI (W.length + 1))) 0 30 (nI (cntD W + 1))) := by
        unfold fX11_hold_32
        rw [bindS_eq]
        show some (0, us _ 0 30 (S.1 0 30 + 1)) = _
        rw [g6, nI_1]
      rcases c with c | c
      · rw [if_pos c, e2]
      · rw [if_neg (by rw [c]; decide), if_pos c, e2]
    rw [e]
    refine ⟨_, rfl, ⟨f2.us0 (by decide) _, g1, g2.fr rfl (fun j a1 a2 => ?_) rfl, g3, stkM_push g4, rfl, ?_, by omega⟩, fun SC c P hL => hL⟩
    · rw [us_nj (by omega), us_nj (by omega)]
      rfl
    · show nI (cntD W + 1) = nI (cntD W + if w = 28 ∨ w = 20 then 1 else 0)
      rw [if_pos c]
  · rw [if_neg (fun e => c (Or.inl e)), if_neg (fun e => c (Or.inr e))]
    refine ⟨_, rfl, ⟨f2, g1, g2.fr rfl (fun j a1 a2 => ?_) rfl, g3, stkM_push g4, rfl, ?_, by omega⟩, fun SC c P hL => hL⟩
    · rw [us_nj (by omega)]
      rfl
    · show S.1 0 30 = nI (cntD W + if w = 28 ∨ w = 20 then 1 else 0)
      rw [if_neg c, Nat.add_zero]
      exact g6
theorem step_eq (F : Nat) {m : Nat} (h21 : S.1 0 21 = nI m) (hm : m < 600) (w v : Int32) : fX11_step F S w v = some (0, us (us (us S 10 m w) 11 m v) 0 21 (nI (m + 1))) := by
  unfold fX11_step
  rw [h21, if_pos (vin_nI hm (by omega)), ix_nI (by omega), bindS_eq]
  show (if vin (S.1 0 21) 600 = true then bindS (us (us S 10 m w) 11 (ix (S.1 0 21)) v) _ else none) = _
  rw [h21, if_pos (vin_nI hm (by omega)), ix_nI (by omega), bindS_eq, bindS_eq]
  show some (0, us (us (us S 10 m w) 11 m v) 0 21 (S.1 0 21 + 1)) = _
  rw [h21, nI_1]
theorem LKr.step {SC S : ST} {c m : Nat} {P : List Int32} {w v : Int32} (h1 : S.1 0 21 = nI m) (h2 : m + (P.length + 1) = c) (h3 : ∀ k, k < m → codeRel (SC.1 19 k) (S.1 10 k) (S.1 11 k)) (h4 : codeRel (SC.1 19 m) w v) (h5 : pendR (SC.1 19) (m + 1) P) {S2 : ST} (e21 : S2.1 0 21 = nI (m + 1)) (e10 : S2.1 10 = upd (S.1 10) m w) (e11 : S2.1 11 = upd (S.1 11) m v) : LKr SC S2 c P := by
  refine ⟨m + 1, e21, by omega, fun k hk => ?_, h5⟩
  rw [e10, e11, upd_rd, upd_rd]
  by_cases e : k = m
  · rw [if_pos e, if_pos e, e]; exact h4
  · rw [if_neg e, if_neg e]; exact h3 k (by omega)
theorem pop_eq (F : Nat) {w : Int32} (h : MMr X S i t (w :: W)) (hw : w ≠ 28) (hL : LKr SC S c (w :: P)) (hc : c ≤ 320) : ∃ S2, fX11_pop F S = some (0, S2) ∧ MMr X S2 i t W ∧ LKr SC S2 c P := by
  obtain ⟨f1, g1, g2, g3, g4, g5, g6, g7⟩ := h
  obtain ⟨m, m1, m2, m3, m4⟩ := hL
  have hd : (w :: W).length = W.length + 1 := rfl
  have hd2 : (w :: P).length = P.length + 1 := rfl
  rw [hd] at g5 g7
  have e13 : S.1 13 W.length = w := g4.1
  unfold fX11_pop
  rw [g5, nI_pred, bindS_eq]
  show ∃ S2, (if vin (nI W.length) 300 = true then if S.1 13 (ix (nI W.length)) = 20 then bindS (us (us S 0 29 (nI W.length)) 0 30 (S.1 0 30 - 1)) (fun S31 => fX11_pop_34 F S31) else fX11_pop_34 F (us S 0 29 (nI W.length)) else none) = _ ∧ _
  rw [if_pos (vin_nI (by omega) (by omega)), ix_nI (by omega), e13]
  have key : ∀ S7 : ST, S7.1 0 29 = nI W.length → S7.1 0 21 = nI m → S7.1 13 = S.1 13 → fX11_pop_34 F S7 = some (0, us (us (us S7 10 m w) 11 m 0) 0 21 (nI (m + 1))) := fun S7 a1 a2 a3 => by
    unfold fX11_pop_34
    rw [a1, if_pos (vin_nI (by omega) (by omega)), ix_nI (by omega), a3, e13, step_eq F a2 (by omega)]
    rfl
  by_cases e : w = 20
  · have e6 : S.1 0 30 - 1 = nI (cntD W) := by
      rw [g6, cntD, if_pos (Or.inr e), nI_pred]
    rw [if_pos e, bindS_eq, e6, key (us (us S 0 29 (nI W.length)) 0 30 (nI (cntD W))) rfl m1 rfl]
    refine ⟨_, rfl, ⟨((((f1.us0 (by decide) _).us0 (by decide) _).us1 (Or.inl rfl) _ _).us1 (Or.inr (Or.inl rfl)) _ _).us0 (by decide) _, g1, g2.fr rfl (fun j a1 a2 => ?_) rfl, g3, g4.2, rfl, rfl, by omega⟩, ?_⟩
    · rw [us_nj (by omega)]
      show (us (us S 0 29 (nI W.length)) 0 30 (nI (cntD W))).1 0 j = _
      rw [us_nj (by omega), us_nj (by omega)]
    · exact LKr.step m1 (by omega) m3 (m4.1.cd 0) m4.2 rfl rfl rfl
  · rw [if_neg e, key (us S 0 29 (nI W.length)) rfl m1 rfl]
    refine ⟨_, rfl, ⟨(((f1.us0 (by decide) _).us1 (Or.inl rfl) _ _).us1 (Or.inr (Or.inl rfl)) _ _).us0 (by decide) _, g1, g2.fr rfl (fun j a1 a2 => ?_) rfl, g3, g4.2, rfl, ?_, by omega⟩, ?_⟩
    · rw [us_nj (by omega)]
      show (us S 0 29 (nI W.length)).1 0 j = _
      rw [us_nj (by omega)]
    · show S.1 0 30 = _
      rw [g6, cntD, if_neg (fun h => h.elim hw e), Nat.add_zero]
    · exact LKr.step m1 (by omega) m3 (m4.1.cd 0) m4.2 rfl rfl rfl
theorem settle_lp (F : Nat) {SC : ST} {c : Nat} (hc : c ≤ 320) {i t : Nat} {least : Int32} {B : List Int32} (hB : ∀ w r, B = w :: r → w = 28 ∨ w < least) : ∀ (P : List Int32) (f : Nat) (S : ST), P.length < f → (∀ w, w ∈ P → w ≠ 28 ∧ ¬ w < least) → MMr X S i t (P ++ B) → LKr SC S c P → ∃ S2, fX11_settle_0 F f S least = some (0, S2) ∧ MMr X S2 i t B ∧ LKr SC S2 c []
  | [], f + 1, S, hf, hP, hM, hL => by
    refine ⟨S, ?_, hM, hL⟩
    rw [fX11_settle_0]
    have g5 := hM.2.2.2.2.2.1
    have g7 := hM.2.2.2.2.2.2.2
    rw [List.nil_append] at g5 g7
    cases hb : B with
    | nil =>
      rw [hb] at g5
      rw [g5, if_pos (show nI ([] : List Int32).length ≤ 0 by decide)]
    | cons w r =>
      have hd : (w :: r).length = r.length + 1 := rfl
      rw [hb, hd] at g5 g7
      have e13 : S.1 13 r.length = w := by
        have g4 := hM.2.2.2.2.1
        rw [List.nil_append, hb] at g4
        exact g4.1
      rw [g5, if_neg (nI_nle (by omega) (by omega)), nI_pred, if_pos (vin_nI (by omega) (by omega)), ix_nI (by omega), e13]
      rcases hB w r hb with h | h
      · rw [if_pos h]
      · by_cases h28 : w = 28
        · rw [if_pos h28]
        · rw [if_neg h28, if_pos (vin_nI (by omega) (by omega)), if_pos h]
  | w :: P, f + 1, S, hf, hP, hM, hL => by
    have hlf : (w :: P).length = P.length + 1 := rfl
    rw [hlf] at hf
    have g5 := hM.2.2.2.2.2.1
    have g7 := hM.2.2.2.2.2.2.2
    have hd : (w :: P ++ B).length = (P ++ B).length + 1 := rfl
    rw [hd] at g5 g7
    have e13 : S.1 13 (P ++ B).length = w := hM.2.2.2.2.1.1
    have hw := hP w List.mem_cons_self
    obtain ⟨S1, q1, q2, q3⟩ := pop_eq F (W := P ++ B) (w := w) hM hw.1 hL hc
    obtain ⟨S2, r1, r2, r3⟩ := settle_lp F hc hB P f S1 (by omega) (fun v hv => hP v (List.mem_cons_of_mem _ hv)) q2 q3
    refine ⟨S2, ?_, r2, r3⟩
    rw [fX11_settle_0, g5, if_neg (nI_nle (by omega) (by omega)), nI_pred, if_pos (vin_nI (by omega) (by omega)), ix_nI (by omega), e13, if_neg hw.1, if_pos (vin_nI (by omega) (by omega)), if_neg hw.2, q1, Option.bind_some, r1]
theorem ones_lp (F : Nat) {SC : ST} {c : Nat} (hc : c ≤ 320) {i t : Nat} {x1 : Int32} {B : List Int32} (hB : ∀ w r, B = w :: r → w = 28 ∨ (x1 ≠ 0 ∧ w = 21)) : ∀ (P : List Int32) (f : Nat) (S : ST), P.length + 1 < f → (∀ w, w ∈ P → w ≠ 28 ∧ (x1 ≠ 0 → w ≠ 21)) → MMr X S i t (P ++ B) → LKr SC S c P → ∃ S2, fX11_settleOnes_2 F f S x1 1 = some (0, S2) ∧ MMr X S2 i t B ∧ LKr SC S2 c []
  | [], f + 2, S, hf, hP, hM, hL => by
    refine ⟨S, ?_, hM, hL⟩
    have e50 : fX11_settleOnes_50 F (fX11_settleOnes_2 F (f + 1)) S x1 = some (0, S) := by
      unfold fX11_settleOnes_50 fX11_settleOnes_51
      rw [if_pos rfl, fX11_settleOnes_2, if_pos rfl]
    rw [fX11_settleOnes_2, if_neg z10]
    have g5 := hM.2.2.2.2.2.1
    have g7 := hM.2.2.2.2.2.2.2
    rw [List.nil_append] at g5 g7
    cases hb : B with
    | nil =>
      rw [hb] at g5
      rw [g5, if_pos (show nI ([] : List Int32).length = 0 by decide)]
      unfold fX11_settleOnes_29
      rw [if_pos rfl, e50]
    | cons w r =>
      have hd : (w :: r).length = r.length + 1 := rfl
      rw [hb, hd] at g5 g7
      have e13 : S.1 13 r.length = w := by
        have g4 := hM.2.2.2.2.1
        rw [List.nil_append, hb] at g4
        exact g4.1
      rw [g5, if_neg (nI_ne0 (by omega) (by omega)), nI_pred, if_pos (vin_nI (by omega) (by omega)), ix_nI (by omega), e13]
      unfold fX11_settleOnes_29
      rcases hB w r hb with h | ⟨h1, h2⟩
      · rw [if_pos h, e50]
      · rw [h2, if_neg (show ¬ (21 : Int32) = 28 by decide), if_neg h1, if_pos rfl, e50]
  | w :: P, f + 1, S, hf, hP, hM, hL => by
    have hlf : (w :: P).length = P.length + 1 := rfl
    rw [hlf] at hf
    have g5 := hM.2.2.2.2.2.1
    have g7 := hM.2.2.2.2.2.2.2
    have hd : (w :: P ++ B).length = (P ++ B).length + 1 := rfl
    rw [hd] at g5 g7
    have e13 : S.1 13 (P ++ B).length = w := hM.2.2.2.2.1.1
    have hw := hP w List.mem_cons_self
    obtain ⟨S1, q1, q2, q3⟩ := pop_eq F (W := P ++ B) (w := w) hM hw.1 hL hc
    obtain ⟨S2, r1, r2, r3⟩ := ones_lp F hc hB P f S1 (by omega) (fun v hv => hP v (List.mem_cons_of_mem _ hv)) q2 q3
    have e51 : fX11_settleOnes_51 F (fX11_settleOnes_2 F f) S x1 1 = some (0, S2) := by
      unfold fX11_settleOnes_51
      rw [if_neg z10, q1, Option.bind_some, r1]
    refine ⟨S2, ?_, r2, r3⟩
    rw [fX11_settleOnes_2, if_neg z10, g5, if_neg (nI_ne0 (by omega) (by omega)), nI_pred, if_pos (vin_nI (by omega) (by omega)), ix_nI (by omega), e13]
    unfold fX11_settleOnes_29
    rw [if_neg hw.1]
    by_cases h0 : x1 = 0
    · rw [if_pos h0, e51]
    · rw [if_neg h0, if_neg (hw.2 h0), e51]
theorem stk_mem {f : Nat → Int32} {x : Int32} : ∀ {W : List Int32}, stkM f W → ((∃ j, j < W.length ∧ f j = x) ↔ x ∈ W)
  | [], _ => ⟨fun ⟨j, h, _⟩ => absurd h (Nat.not_lt_zero _), fun h => by cases h⟩
  | w :: W, h => by
    have hl : (w :: W).length = W.length + 1 := rfl
    have ih := stk_mem (x := x) h.2
    rw [List.mem_cons, ← ih]
    constructor
    · rintro ⟨j, h1, h2⟩
      by_cases e : j = W.length
      · left; rw [← h2, e]; exact h.1
      · exact Or.inr ⟨j, by omega, h2⟩
    · rintro (e | ⟨j, h1, h2⟩)
      · exact ⟨W.length, by omega, by rw [e]; exact h.1⟩
      · exact ⟨j, by omega, h2⟩
theorem bI_and (p : Prop) : bI p &&& 1 = bI p := by
  by_cases h : p
  · rw [bI_T h]; decide
  · rw [bI_F h]; decide
theorem open_lp (F : Nat) (S : ST) {l : Nat} (hl : l ≤ 40) (h29 : S.1 0 29 = nI l) : ∀ (d f k : Nat), k + d = l → d < f → fX11_isOpen_4 F f S (bI (∃ j, j < k ∧ S.1 13 j = 28)) (nI k) = some (bI (∃ j, j < l ∧ S.1 13 j = 28), S)
  | 0, f + 1, k, h1, h2 => by
    have e : k = l := by omega
    rw [fX11_isOpen_4, h29, if_pos (nI_le (by omega) (by omega)), e, if_pos (bI_and _)]
  | d + 1, f + 1, k, h1, h2 => by
    have ih := open_lp F S hl h29 d f (k + 1) (by omega) (by omega)
    rw [fX11_isOpen_4, h29, if_neg (nI_ge (by omega) (by omega))]
    by_cases c : ∃ j, j < k ∧ S.1 13 j = 28
    · rw [bI_T c, if_neg z10, nI_1]
      obtain ⟨j, j1, j2⟩ := c
      rw [bI_T ⟨j, by omega, j2⟩] at ih
      exact ih
    · rw [bI_F c, if_pos rfl, if_pos (vin_nI (by omega) (by omega)), ix_nI (by omega), nI_1]
      by_cases e : S.1 13 k = 28
      · rw [if_pos e]
        rw [bI_T ⟨k, by omega, e⟩] at ih
        exact ih
      · rw [if_neg e]
        rw [bI_F (fun ⟨j, j1, j2⟩ => by
          by_cases ej : j = k
          · rw [ej] at j2; exact e j2
          · exact c ⟨j, by omega, j2⟩)] at ih
        exact ih
theorem isOpen_eq (F : Nat) (hF : 100 ≤ F) (h : MMr X S i t W) : fX11_isOpen F S = some (bI (28 ∈ W), S) := by
  have g4 := h.2.2.2.2.1
  have g5 := h.2.2.2.2.2.1
  have g7 := h.2.2.2.2.2.2.2
  have := open_lp F S g7 g5 W.length F 0 (by omega) (by omega)
  rw [bI_F (fun ⟨j, j1, _⟩ => absurd j1 (Nat.not_lt_zero _))] at this
  unfold fX11_isOpen
  rw [show (fX11_isOpen_4 F F S 0 0) = _ from this]
  have e := stk_mem (x := 28) g4
  by_cases c : 28 ∈ W
  · rw [bI_T c, bI_T (e.mpr c)]
  · rw [bI_F c, bI_F (fun h => c (e.mp h))]
def flS (S : ST) (φ : Int32) (p : Nat) : ST := us (us S 0 6 φ) 0 7 (nI p)
theorem wrong_eq (F : Nat) (h : MMr X S i t W) (x : Int32) : fX11_wrong F S x = some (0, flS S (if xk X i = -21 then 1 else x) (xq X i)) := by
  have h11 := h.2.2.1.2.1
  unfold fX11_wrong
  rw [h.2.1, if_pos (Int32.le_refl _), h.sort]
  have e : srt (xk X i) = 3 ↔ xk X i = -21 := by
    constructor
    · intro g
      unfold srt at g
      by_cases c1 : xk X i = -22
      · rw [if_pos c1] at g; cases g
      · rw [if_neg c1] at g
        by_cases c2 : xk X i = -21
        · exact c2
        · exfalso
          rw [if_neg c2] at g
          revert g
          repeat' split
          all_goals decide
    · intro g; rw [g]; decide
  have e2 : ∀ φ, fX11_wrong_22 F S φ = some (0, flS S φ (xq X i)) := fun φ => by
    unfold fX11_wrong_22 flS
    rw [bindS_eq, bindS_eq]
    show some (0, us (us S 0 6 φ) 0 7 (S.1 0 11)) = _
    rw [h11]
  by_cases c : xk X i = -21
  · rw [if_pos (e.mpr c), if_pos c, e2]
  · rw [if_neg (fun g => c (e.mp g)), if_neg c, e2]
theorem srt_cs (k : Int32) : (srt k = 43 ↔ k = -12) ∧ (srt k = 45 ↔ k = -13) ∧ (srt k = 61 ↔ k = -11) ∧ (srt k = 60 ↔ k = -9) ∧ (srt k = 62 ↔ k = -10) ∧ (srt k = 41 ↔ k = -15) ∧ (srt k = 40 ↔ k = -14) ∧ (srt k = 59 ↔ k = -16) ∧ (srt k = 0 ↔ k = -22) := by
  refine ⟨⟨fun g => ?_, fun g => by rw [g]; decide⟩, ⟨fun g => ?_, fun g => by rw [g]; decide⟩, ⟨fun g => ?_, fun g => by rw [g]; decide⟩, ⟨fun g => ?_, fun g => by rw [g]; decide⟩, ⟨fun g => ?_, fun g => by rw [g]; decide⟩, ⟨fun g => ?_, fun g => by rw [g]; decide⟩, ⟨fun g => ?_, fun g => by rw [g]; decide⟩, ⟨fun g => ?_, fun g => by rw [g]; decide⟩, ⟨fun g => ?_, fun g => by rw [g]; decide⟩⟩
  all_goals
    unfold srt at g
    revert g
    repeat' split
    all_goals first | (intro _; assumption) | (intro g; exact absurd g (by decide))
theorem srt_2 (k : Int32) : srt k = 2 ↔ 0 ≤ k := by
  constructor
  · intro g
    unfold srt at g
    revert g
    repeat' split
    all_goals first | (intro _; assumption) | (intro g; exact absurd g (by decide))
  · intro g
    unfold srt
    rw [if_neg (fun e => by rw [e] at g; exact absurd g (by decide)), if_neg (fun e => by rw [e] at g; exact absurd g (by decide)), if_pos g]
theorem isWd_eq (F : Nat) {k : Int32} (h : TkR S k) {w : Nat} (hw : w < 11) {x : Int64} (hx : x = w64 (wX w)) : fX11_isWord F S x = some (if k = wK w then 1 else 0, S) := by
  unfold fX11_isWord fX11_isWord_21
  rw [h.1]
  by_cases c : srt k = 1
  · rw [if_pos c]
    have e := h.2.2 c w hw
    rw [← hx] at e
    by_cases g : k = wK w
    · rw [if_pos g, if_pos ((lg_z _ _).mpr (e.mpr g))]
    · rw [if_neg g, if_neg (fun q => g (e.mp ((lg_z _ _).mp q)))]
  · rw [if_neg c, if_neg (fun g => c (by rw [g]; exact (wK_srt w hw).1))]
def nmK (k : Int32) : Int32 := if k = -1 then 0 else if k = -2 then 1 else if k = -3 then 2 else if k = -4 then 3 else if k = -5 then 4 else -1
theorem named_eq (F : Nat) {k : Int32} (h : TkR S k) : fX11_named F S = some (nmK k, S) := by
  unfold fX11_named
  rw [h.1]
  by_cases c : srt k = 1
  · rw [if_pos c]
    have e : ∀ w, w < 11 → ∀ x : Int64, x = w64 (wX w) → (lg_cmp S.2 x = 0 ↔ k = wK w) := fun w hw x hx => by
      rw [lg_z, hx]
      exact h.2.2 c w hw
    unfold nmK
    have e6 := e 6 (by decide) 461414298739 rfl
    have e7 := e 7 (by decide) 126926692381811 rfl
    have e8 := e 8 (by decide) 448545973619 rfl
    have e9 := e 9 (by decide) 482855970675 rfl
    have e10 := e 10 (by decide) 7501166 rfl
    by_cases h6 : k = -1
    · rw [if_pos h6, if_pos (e6.mpr h6)]
    rw [if_neg h6, if_neg (fun g => h6 (e6.mp g))]
    by_cases h7 : k = -2
    · rw [if_pos h7, if_pos (e7.mpr h7)]
    rw [if_neg h7, if_neg (fun g => h7 (e7.mp g))]
    by_cases h8 : k = -3
    · rw [if_pos h8, if_pos (e8.mpr h8)]
    rw [if_neg h8, if_neg (fun g => h8 (e8.mp g))]
    by_cases h9 : k = -4
    · rw [if_pos h9, if_pos (e9.mpr h9)]
    rw [if_neg h9, if_neg (fun g => h9 (e9.mp g))]
    by_cases h10 : k = -5
    · rw [if_pos h10, if_pos (e10.mpr h10)]
    rw [if_neg h10, if_neg (fun g => h10 (e10.mp g))]
  · rw [if_neg c]
    unfold nmK
    rw [if_neg (fun g => c (by rw [g]; decide)), if_neg (fun g => c (by rw [g]; decide)), if_neg (fun g => c (by rw [g]; decide)), if_neg (fun g => c (by rw [g]; decide)), if_neg (fun g => c (by rw [g]; decide))]
end RDM
