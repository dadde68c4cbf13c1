def RRr (X : RCx) (SC SM : ST) (i : Nat) (W P : List Int32) (t s : Nat) (τ : List Bool) : Prop := ∃ c q, CCr X SC i t τ c ∧ MMr X SM i t W ∧ LKr SC SM c P ∧ c + s ≤ 2 * t + q ∧ 3 * q ≤ xq X i
def MFl (X : RCx) (S : ST) : Prop := (∀ x, x ≠ 0 → x ≠ 10 → x ≠ 11 → x ≠ 13 → S.1 x = (xM X).1 x) ∧ ∀ j, j ∉ [6, 7, 8, 10, 11, 12, 21, 22, 29, 30] → S.1 0 j = (xM X).1 0 j
theorem MFr.fl {X : RCx} {S : ST} (h : MFr X S) (φ : Int32) (p : Nat) : MFl X (flS S φ p) := ⟨fun x a1 a2 a3 a4 => by
  unfold flS
  rw [us_nx a1, us_nx a1]
  exact h.1 x a1 a2 a3 a4, fun j hj => by
  unfold flS
  rw [us_nj (fun e => by rw [e] at hj; exact hj (by decide)), us_nj (fun e => by rw [e] at hj; exact hj (by decide))]
  exact h.2 j (fun hm => hj (by
    revert hm
    simp only [List.mem_cons, List.not_mem_nil, or_false]
    omega))⟩
def FLT (X : RCx) (SC SM : ST) : Prop := (∀ x, x ≠ 3 → x ≠ 5 → x ≠ 19 → SC.1 x = (xC X).1 x) ∧ MFl X SM ∧ ∃ (j : Nat) (φ : Int32), j ≤ xT X ∧ ¬ φ ≤ 0 ∧ φ ≠ 0 ∧ SC.1 3 2 = φ ∧ SM.1 0 6 = φ ∧ SC.1 3 3 = nI j ∧ SM.1 0 7 = nI (xq X j)
def ResR (X : RCx) (F K : Nat) (rc lp : Option (Int32 × ST)) (B : List Int32) (t s : Nat) (τ : List Bool) (y : Bool) (Q : List Int32 → Int32 → Int32 → Prop) : Prop := (∃ SC2 SM2, rc = some (0, SC2) ∧ lp = some (0, SM2) ∧ FLT X SC2 SM2) ∨ ∃ (SC2 SM2 : ST) (i2 : Nat) (P : List Int32) (t2 : Nat) (now2 : Int32) (f2 : Nat), rc = some (1, SC2) ∧ lp = fX11_readE_14 F f2 SM2 now2 1 ∧ RRr X SC2 SM2 i2 (P ++ B) P t2 (s + 1) (y :: τ) ∧ Q P now2 (xk X i2) ∧ f2 + i2 = K ∧ t < t2
section SUMS
variable {X : RCx} {SC SM : ST} {i t s c : Nat} {W P B : List Int32} {τ : List Bool} {now : Int32}
theorem flt_mk (h : CCr X SC i t τ c) (g : MMr X SM i t W) : FLT X (us SC 3 2 (rfC (xk X i))) (flS SM (rfC (xk X i)) (xq X i)) := ⟨fun x a1 a2 a3 => by rw [us_nx a1]; exact h.1.1 x a1 a2 a3, g.1.fl _ _, i, rfC (xk X i), h.2.2.2.2.2.1, (rfC_pos _).1, (rfC_pos _).2, rfl, rfl, h.2.2.1, rfl⟩
theorem MMr.q6 (g : MMr X SM i t W) (j : Nat) : xq X j ≤ 600 := Nat.le_trans (xq_le X j) g.2.2.1.1.1
theorem LKr.emit (h : LKr SC SM c P) {SC2 : ST} {cc w : Int32} (e : SC2.1 19 = upd (SC.1 19) c cc) (ho : opR cc w) : LKr SC2 SM (c + 1) (P ++ [w]) := by
  obtain ⟨m, m1, m2, m3, m4⟩ := h
  refine ⟨m, m1, by rw [List.length_append]; show m + (P.length + 1) = c + 1; omega, fun k hk => ?_, ?_⟩
  · rw [e, upd_rd, if_neg (by omega)]
    exact m3 k hk
  · rw [e]
    refine pendR_snoc P m (pendR_congr P m (fun j h1 h2 => by rw [upd_rd, if_neg (by omega)]) m4) ?_
    rw [upd_rd, if_pos m2]
    exact ho
theorem LKr.c19 (h : LKr SC SM c P) {SC2 : ST} (e : SC2.1 19 = SC.1 19) : LKr SC2 SM c P := by
  unfold LKr at *
  rw [e]
  exact h
theorem ResR.mono {F K t0 : Nat} {rc lp : Option (Int32 × ST)} {y : Bool} {Q : List Int32 → Int32 → Int32 → Prop} (h : ResR X F K rc lp B t s τ y Q) (h0 : t0 ≤ t) : ResR X F K rc lp B t0 s τ y Q := by
  rcases h with h | ⟨a1, a2, a3, a4, a5, a6, a7, b1, b2, b3, b4, b5, b6⟩
  · exact Or.inl h
  · exact Or.inr ⟨a1, a2, a3, a4, a5, a6, a7, b1, b2, b3, b4, b5, by omega⟩
def QS (nw : Int32) (P : List Int32) (now2 k : Int32) : Prop := (P = [] ∨ P = [26] ∨ P = [27]) ∧ now2 = nw ∧ k ≠ -12 ∧ k ≠ -13
def SumM (X : RCx) (F : Nat) (B : List Int32) (s : Nat) (τ : List Bool) (fc t j : Nat) : Prop := ∀ (SC SM : ST) (i : Nat) (w sg now : Int32) (f : Nat), RRr X SC SM i (w :: B) [] t (s + 1) (false :: τ) → (sg = -12 ∧ w = 26 ∨ sg = -13 ∧ w = 27) → (now = 1 ∨ now = 2) → 700 ≤ f + i → ResR X F (f + i) (fX1_readSum_4 F fc SC sg (nI j)) (fX11_readE_14 F f SM now 1) B t s τ false (QS (if now = 2 then 4 else 3))
theorem ty_term {k : Int32} (h5 : (-5 : Int32) ≤ k) (τ : List Bool) : tyStep k τ = some (false :: τ) := by
  unfold tyStep
  rw [if_pos h5]
theorem ty_pm {k : Int32} (h : k = -12 ∨ k = -13) (τ : List Bool) : tyStep k (false :: false :: τ) = some (false :: τ) := by
  rcases h with e | e <;> (rw [e]; rfl)
theorem pm_P {P : List Int32} (h : P = [] ∨ P = [26] ∨ P = [27]) : ∀ w, w ∈ P → w = 26 ∨ w = 27 := by
  intro w hw
  rcases h with e | e | e <;> rw [e] at hw
  · cases hw
  · rw [List.mem_singleton] at hw; exact Or.inl hw
  · rw [List.mem_singleton] at hw; exact Or.inr hw
theorem sum_tail (hX : XOK X) (F : Nat) (hF : 1000 ≤ F) (hB : ∀ w r, B = w :: r → w = 28 ∨ w < 26) (hl : B.length < 40) {fc j f t0 : Nat} (hrec : SumM X F B s τ fc t (j + 1)) (h : RRr X SC SM i (P ++ B) P t (s + 1) (false :: τ)) (hP : P = [] ∨ P = [26] ∨ P = [27]) (hn : now = 3 ∨ now = 4) (hf : 700 ≤ f + i) (h0 : t0 < t) : ResR X F (f + i) (fX1_readSum_70 F (fX1_readSum_4 F fc) SC (nI j)) (fX11_readE_14 F f SM now 1) B t0 s τ false (QS now) := by
  obtain ⟨c, q, hC, hM, hL, hs, hq⟩ := id h
  have hT := hX.1
  have hi := hC.2.2.2.2.2.1
  have ht := hC.2.2.2.2.2.2.1
  have h600 := hM.q6 i
  unfold fX1_readSum_70
  rw [hC.tok]
  by_cases k : xk X i = -12 ∨ xk X i = -13
  · obtain ⟨w, hw⟩ : ∃ w : Int32, xk X i = -12 ∧ w = 26 ∨ xk X i = -13 ∧ w = 27 := by
      rcases k with e | e
      · exact ⟨26, Or.inl ⟨e, rfl⟩⟩
      · exact ⟨27, Or.inr ⟨e, rfl⟩⟩
    have n22 : xk X i ≠ -22 := by rcases k with e | e <;> (rw [e]; decide)
    have n16 : xk X i ≠ -16 := by rcases k with e | e <;> (rw [e]; decide)
    obtain ⟨SC2, a1, a2, a3⟩ := adv_eq hX hC n22 F
    obtain ⟨SM2, b1, b2, b3⟩ := sg_plus F hF hn hw hB (pm_P hP) hM hL (by omega) hl
    obtain ⟨f', rfl⟩ : ∃ f', f = f' + 1 := ⟨f - 1, by omega⟩
    have e70 : (if xk X i = -12 then fX1_readSum_90 F (fX1_readSum_4 F fc) SC (nI j) else if xk X i = -13 then fX1_readSum_90 F (fX1_readSum_4 F fc) SC (nI j) else some (1, SC)) = fX1_readSum_4 F fc SC2 (xk X i) (nI (j + 1)) := by
      have e90 : fX1_readSum_90 F (fX1_readSum_4 F fc) SC (nI j) = fX1_readSum_4 F fc SC2 (xk X i) (nI (j + 1)) := by
        unfold fX1_readSum_90
        rw [bindI_eq, a1, Option.bind_some, hC.tok, nI_1]
      rcases k with e | e
      · rw [if_pos e, e90]
      · rw [if_neg (by rw [e]; decide), if_pos e, e90]
    have em : fX11_readE_14 F (f' + 1) SM now 1 = fX11_readE_14 F f' SM2 (if now = 3 then 1 else 2) 1 := by
      rcases hn with e | e
      · rw [e] at b1 ⊢
        rw [lp_s3 F f' hM.2.1, b1, Option.bind_some]
      · rw [lp_s45 F f' (by omega) hM (Or.inl e) (Or.inl n16), b1, Option.bind_some]
    rw [e70, em]
    have := hrec SC2 SM2 (i + 1) w (xk X i) (if now = 3 then 1 else 2) f' ⟨c, q, a2, b2, b3.c19 a3, hs, Nat.le_trans hq (xq_mono X i)⟩ hw (by
      by_cases e : now = 3
      · rw [if_pos e]; exact Or.inl rfl
      · rw [if_neg e]; exact Or.inr rfl) (by omega)
    rw [show f' + (i + 1) = f' + 1 + i by omega] at this
    have e34 : (if (if now = 3 then (1 : Int32) else 2) = 2 then (4 : Int32) else 3) = now := by
      rcases hn with e | e <;> (rw [e]; decide)
    rw [e34] at this
    exact this.mono (by omega)
  · rw [if_neg (fun e => k (Or.inl e)), if_neg (fun e => k (Or.inr e))]
    exact Or.inr ⟨SC, SM, i, P, t, now, f, rfl, rfl, h, ⟨hP, rfl, fun e => k (Or.inl e), fun e => k (Or.inr e)⟩, rfl, h0⟩
theorem sum_refuse {F fc f : Nat} {x1 : Int32} {j : Nat} (hj : j ≤ 60) (h : RRr X SC SM i W P t s τ) {t0 s0 : Nat} {τ0 : List Bool} {Q : List Int32 → Int32 → Int32 → Prop} (hb : ¬ ((-5 : Int32) ≤ xk X i ∧ t < 60)) (hM : fX11_readE_14 F f SM now 1 = some (0, flS SM (rfC (xk X i)) (xq X i))) : ResR X F (f + i) (fX1_readSum_4 F (fc + 1) SC x1 (nI j)) (fX11_readE_14 F f SM now 1) B t0 s0 τ0 false Q := by
  obtain ⟨c, q, hC, hMM, hL, hs, hq⟩ := id h
  have ht := hC.2.2.2.2.2.2.1
  refine Or.inl ⟨_, _, ?_, hM, flt_mk hC hMM⟩
  rw [fX1_readSum_4, if_neg (show ¬ (60 : Int32) < nI j from nI_nlt (a := 60) hj (by omega)), hC.2.2.2.2.1, hC.tok]
  have e28 : fX1_readSum_28 F SC = some (0, us SC 3 2 (rfC (xk X i))) := refuse_b hC F
  by_cases c1 : 60 ≤ t
  · rw [if_pos (show (60 : Int32) ≤ nI t from nI_le (a := 60) c1 (by omega)), e28]
  · rw [if_neg (show ¬ (60 : Int32) ≤ nI t from nI_ge (b := 60) (by omega) (by omega)), if_neg (fun g => hb ⟨g, by omega⟩), e28]
theorem lp_bad {F f : Nat} (hM : MMr X SM i t W) (hn : now = 0 ∨ now = 1 ∨ now = 2) (ho : fX11_operand F SM now = some (now, flS SM (rfC (xk X i)) (xq X i))) : fX11_readE_14 F (f + 2) SM now 1 = some (0, flS SM (rfC (xk X i)) (xq X i)) := by
  rw [lp_op F (f + 1) hM.2.1 hn, ho, Option.bind_some]
  exact lp_flt F f _ _ (rfC_pos _).2
theorem op_bad13 {F : Nat} (hM : MMr X SM i t W) (ht : t ≤ 60) (hb : ¬ ((-5 : Int32) ≤ xk X i ∧ t < 60)) (h0 : now = 0 → xk X i ≠ -14 ∧ xk X i ≠ -6) : fX11_operand F SM now = some (now, flS SM (rfC (xk X i)) (xq X i)) := by
  by_cases h5 : (-5 : Int32) ≤ xk X i
  · exact op_bad3 F hM h5 (by
      rcases Nat.lt_or_ge t 60 with g | g
      · exact absurd ⟨h5, g⟩ hb
      · omega)
  · exact op_bad1 F hM h5 h0
theorem sum_term (hX : XOK X) (F : Nat) (hF : 1000 ≤ F) {fc f j : Nat} {x1 : Int32} (hj : j ≤ 60) (h : RRr X SC SM i W [] t s τ) (hn : now = 0 ∧ cntD W < 6 ∨ now = 1 ∨ now = 2) (h5 : (-5 : Int32) ≤ xk X i) (ht : t < 60) (hτ : τ.length ≤ 28) : ∃ SC2 SM2, fX1_readSum_4 F (fc + 1) SC x1 (nI j) = (if nI j ≤ 0 then fX1_readSum_70 F (fX1_readSum_4 F fc) SC2 (nI j) else (fX2_emit F SC2 x1).bind (fun q67 => fX1_readSum_70 F (fX1_readSum_4 F fc) q67.2 (nI j))) ∧ fX11_readE_14 F (f + 1) SM now 1 = fX11_readE_14 F f SM2 (if now = 2 then 4 else 3) 1 ∧ RRr X SC2 SM2 (i + 1) W [] (t + 1) (s + 1) (false :: τ) := by
  obtain ⟨c, q, hC, hM, hL, hs, hq⟩ := id h
  have h600 := hM.q6 i
  have n22 : xk X i ≠ -22 := fun e => by rw [e] at h5; exact absurd h5 (by decide)
  obtain ⟨S1, a1, a2, a3⟩ := emit_eq hC (by omega) (ty_term h5 τ) (show (false :: τ).length ≤ 30 by show τ.length + 1 ≤ 30; omega) F
  have a4 := a2.trm ht
  obtain ⟨S2, b1, b2, b3⟩ := adv_eq hX a4 n22 F
  have e19 : S2.1 19 = upd (SC.1 19) c (xk X i) := by rw [b3]; exact a3
  obtain ⟨M2, m1, m2, m3⟩ := op_term (now := now) F hF hM h5 ht (fun e => by
    rcases hn with ⟨_, g⟩ | g | g
    · exact g
    · rw [g] at e; exact absurd e (by decide)
    · rw [g] at e; exact absurd e (by decide)) hL (by omega) e19
  refine ⟨S2, M2, ?_, ?_, ⟨c + 1, q, b2, m2, m3, by omega, Nat.le_trans hq (xq_mono X i)⟩⟩
  · rw [fX1_readSum_4, if_neg (show ¬ (60 : Int32) < nI j from nI_nlt (a := 60) hj (by omega)), hC.2.2.2.2.1, if_neg (show ¬ (60 : Int32) ≤ nI t from nI_ge (b := 60) ht (by omega)), hC.tok, if_pos h5, a1, Option.bind_some, bindS_eq]
    show (fX1_advance F (us S1 3 5 (S1.1 3 5 + 1))).bind _ = _
    rw [a2.2.2.2.2.1, nI_1, b1, Option.bind_some]
  · rw [lp_op F f hM.2.1 (by
      rcases hn with ⟨g, _⟩ | g | g
      · exact Or.inl g
      · exact Or.inr (Or.inl g)
      · exact Or.inr (Or.inr g)), m1, Option.bind_some]
theorem sum_more (hX : XOK X) (F : Nat) (hF : 1000 ≤ F) (hB : ∀ w r, B = w :: r → w = 28 ∨ w < 26) (hl : B.length < 40) (hτ : τ.length ≤ 26) : ∀ (d fc t j : Nat), t + d = 60 → d < fc → 1 ≤ j → j ≤ t → SumM X F B s τ fc t j
  | d, 0, t, j, h1, h2, h3, h4 => by omega
  | d, fc + 1, t, j, h1, h2, h3, h4 => by
    intro SC SM i w sg now f h hw hn hf
    obtain ⟨c, q, hC, hM, hL, hs, hq⟩ := id h
    have hT := hX.1
    have hi := hC.2.2.2.2.2.1
    have hn2 : now = 0 ∨ now = 1 ∨ now = 2 := Or.inr hn
    have n0 : ¬ now = 0 := by rcases hn with e | e <;> (rw [e]; decide)
    by_cases hb : (-5 : Int32) ≤ xk X i ∧ t < 60
    · obtain ⟨f', rfl⟩ : ∃ f', f = f' + 1 := ⟨f - 1, by omega⟩
      obtain ⟨SC2, SM2, a1, a2, a3⟩ := sum_term hX F hF (fc := fc) (f := f') (j := j) (x1 := sg) (by omega) h (Or.inr hn) hb.1 hb.2 (show (false :: τ).length ≤ 28 by show τ.length + 1 ≤ 28; omega)
      rw [a1, a2, if_neg (nI_nle (by omega) (by omega))]
      obtain ⟨c2, q2, hC2, hM2, hL2, hs2, hq2⟩ := a3
      have h600 := hM2.q6 (i + 1)
      have ht2 := hC2.2.2.2.2.2.2.1
      have hpm : sg = -12 ∨ sg = -13 := hw.imp (fun g => g.1) (fun g => g.1)
      have hop : opR sg w := by
        rcases hw with ⟨e1, e2⟩ | ⟨e1, e2⟩
        · exact Or.inr (Or.inr (Or.inr (Or.inr (Or.inr (Or.inr (Or.inl ⟨e1, e2⟩))))))
        · exact Or.inr (Or.inr (Or.inr (Or.inr (Or.inr (Or.inr (Or.inr ⟨e1, e2⟩))))))
      obtain ⟨SC3, b1, b2, b3⟩ := emit_eq hC2 (by omega) (ty_pm hpm τ) (show (false :: τ).length ≤ 30 by show τ.length + 1 ≤ 30; omega) F
      rw [b1, Option.bind_some]
      have := sum_tail hX F hF hB hl (s := s) (τ := τ) (P := [w]) (i := i + 1) (t := t + 1) (t0 := t) (now := if now = 2 then 4 else 3) (f := f') (sum_more hX F hF hB hl hτ (d - 1) fc (t + 1) (j + 1) (by omega) (by omega) (by omega) (by omega)) ⟨c2 + 1, q2, b2, hM2, hL2.emit b3 hop, by omega, hq2⟩ (by
        rcases hw with ⟨_, e⟩ | ⟨_, e⟩
        · rw [e]; exact Or.inr (Or.inl rfl)
        · rw [e]; exact Or.inr (Or.inr rfl)) (by
        by_cases e : now = 2
        · rw [if_pos e]; exact Or.inr rfl
        · rw [if_neg e]; exact Or.inl rfl) (by omega) (by omega)
      rw [show f' + (i + 1) = f' + 1 + i by omega] at this
      exact this
    · obtain ⟨f', rfl⟩ : ∃ f', f = f' + 2 := ⟨f - 2, by omega⟩
      exact sum_refuse (by omega) h hb (lp_bad hM hn2 (op_bad13 hM (by omega) hb (fun e => absurd e n0)))
theorem sum_eq (hX : XOK X) (F : Nat) (hF : 1000 ≤ F) (hB : ∀ w r, B = w :: r → w = 28 ∨ w < 26) (hl : B.length < 40) (hτ : τ.length ≤ 26) {f : Nat} (h : RRr X SC SM i B [] t s τ) (hn : now = 0 ∧ cntD B < 6 ∧ xk X i ≠ -14 ∧ xk X i ≠ -6 ∨ now = 2) (hf : 700 ≤ f + i) : ResR X F (f + i) (fX1_readSum F SC) (fX11_readE_14 F f SM now 1) B t s τ false (QS (if now = 2 then 4 else 3)) := by
  obtain ⟨c, q, hC, hM, hL, hs, hq⟩ := id h
  have hT := hX.1
  have hi := hC.2.2.2.2.2.1
  have ht := hC.2.2.2.2.2.2.1
  have hn2 : now = 0 ∨ now = 1 ∨ now = 2 := hn.imp (fun g => g.1) (fun g => Or.inr g)
  obtain ⟨fc, hfc⟩ : ∃ fc, F = fc + 1 := ⟨F - 1, by omega⟩
  have e4 : fX1_readSum F SC = fX1_readSum_4 F (fc + 1) SC (-1) (nI 0) := by
    unfold fX1_readSum
    rw [← hfc]
    rfl
  rw [e4]
  by_cases hb : (-5 : Int32) ≤ xk X i ∧ t < 60
  · obtain ⟨f', rfl⟩ : ∃ f', f = f' + 1 := ⟨f - 1, by omega⟩
    obtain ⟨SC2, SM2, a1, a2, a3⟩ := sum_term hX F hF (fc := fc) (f := f') (j := 0) (x1 := -1) (by omega) h (hn.imp (fun g => ⟨g.1, g.2.1⟩) (fun g => Or.inr g)) hb.1 hb.2 (by omega)
    rw [a1, a2, if_pos (show nI 0 ≤ 0 by decide)]
    have ht2 : t + 1 ≤ 60 := by omega
    have := sum_tail hX F hF hB hl (s := s) (τ := τ) (P := []) (i := i + 1) (t := t + 1) (t0 := t) (now := if now = 2 then 4 else 3) (f := f') (sum_more hX F hF hB hl hτ (60 - (t + 1)) fc (t + 1) (0 + 1) (by omega) (by omega) (by omega) (by omega)) a3 (Or.inl rfl) (by
      by_cases e : now = 2
      · rw [if_pos e]; exact Or.inr rfl
      · rw [if_neg e]; exact Or.inl rfl) (by omega) (by omega)
    rw [show f' + (i + 1) = f' + 1 + i by omega] at this
    exact this
  · obtain ⟨f', rfl⟩ : ∃ f', f = f' + 2 := ⟨f - 2, by omega⟩
    refine sum_refuse (by omega) h hb (lp_bad hM hn2 (op_bad13 hM ht hb (fun e => ?_)))
    rcases hn with g | g
    · exact g.2.2
    · rw [g] at e; exact absurd e (by decide)
end SUMS
