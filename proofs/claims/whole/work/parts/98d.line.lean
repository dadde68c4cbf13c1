def GFC (X : RCx) (S : ST) : Prop := ∀ x, x ∉ [3, 5, 16, 17, 18, 19] → S.1 x = (xC X).1 x
def GFM (X : RCx) (S : ST) : Prop := (∀ x, x ∉ [0, 8, 9, 10, 11, 12, 13] → S.1 x = (xM X).1 x) ∧ ∀ j, j ∉ [6, 8, 10, 11, 12, 20, 21, 22, 29, 30] → S.1 0 j = (xM X).1 0 j
def GFl (X : RCx) (S : ST) : Prop := (∀ x, x ∉ [0, 8, 9, 10, 11, 12, 13] → S.1 x = (xM X).1 x) ∧ ∀ j, j ∉ [6, 7, 8, 10, 11, 12, 20, 21, 22, 29, 30] → S.1 0 j = (xM X).1 0 j
theorem GFM.fl {X : RCx} {S : ST} (h : GFM X S) (φ : Int32) (p : Nat) : GFl X (flS S φ p) := ⟨fun x hx => by
  unfold flS
  rw [us_nx (fun e => by rw [e] at hx; exact hx (by decide)), us_nx (fun e => by rw [e] at hx; exact hx (by decide))]
  exact h.1 x hx, fun j hj => by
  unfold flS
  rw [us_nj (fun e => by rw [e] at hj; exact hj (by decide)), us_nj (fun e => by rw [e] at hj; exact hj (by decide))]
  exact h.2 j (fun hm => hj (by
    revert hm
    simp only [List.mem_cons, List.not_mem_nil, or_false]
    omega))⟩
def LTk (X : RCx) (SC SM : ST) (i t : Nat) : Prop := GFC X SC ∧ GFM X SM ∧ SC.1 3 2 = 0 ∧ SC.1 3 3 = nI i ∧ SC.1 3 4 = xk X i ∧ SC.1 3 5 = nI t ∧ i ≤ xT X ∧ t ≤ 60 ∧ SM.1 0 6 = 0 ∧ MTk X SM i ∧ SM.1 0 22 = nI t
def GFL (X : RCx) (SC SM : ST) : Prop := GFC X SC ∧ GFl X SM ∧ ∃ (j : Nat) (φ : Int32), j ≤ xT X ∧ ¬ φ ≤ 0 ∧ φ ≠ 0 ∧ SC.1 3 2 = φ ∧ SM.1 0 6 = φ ∧ SC.1 3 3 = nI j ∧ SM.1 0 7 = nI (xq X j)
def LNr (SC SM : ST) (e : Nat → Nat) (k : Nat) : Prop := (∃ w, 1 ≤ w ∧ w ≤ 100 ∧ SC.1 16 k = nI w ∧ SM.1 8 k = nI w) ∧ (∃ v, 1 ≤ v ∧ v ≤ 9999 ∧ SC.1 17 k = nI v ∧ SM.1 9 k = nI v) ∧ SC.1 18 k = nI (e (k + 1)) ∧ SM.1 12 k = nI (e k) ∧ (e k < e (k + 1) → tyRun (SC.1 19) (e k) (e (k + 1) - e k) [] = some [true])
def DLr (X : RCx) (SC SM : ST) (i t g : Nat) (e : Nat → Nat) : Prop := SC.1 5 5 = nI g ∧ SC.1 5 6 = nI (e g) ∧ SM.1 0 20 = nI g ∧ SM.1 0 21 = nI (e g) ∧ g ≤ 8 ∧ e 0 = 0 ∧ (∀ k, k < g → e k ≤ e (k + 1)) ∧ (∀ k, k < g → LNr SC SM e k) ∧ (∀ k, k < e g → codeRel (SC.1 19 k) (SM.1 10 k) (SM.1 11 k)) ∧ ∃ q, e g ≤ 2 * t + q ∧ 3 * q ≤ xq X i
section LINES
variable {X : RCx} {SC SM : ST} {i t g : Nat} {e : Nat → Nat}
theorem GFC.us3 (h : GFC X SC) (j : Nat) (v : Int32) : GFC X (us SC 3 j v) := fun x hx => by
  rw [us_nx (fun e => by rw [e] at hx; exact hx (by decide))]
  exact h x hx
theorem GFM.us0 (h : GFM X SM) {j : Nat} (hj : j ∈ [6, 8, 10, 11, 12, 20, 21, 22, 29, 30]) (v : Int32) : GFM X (us SM 0 j v) := ⟨fun x hx => by
  rw [us_nx (fun e => by rw [e] at hx; exact hx (by decide))]
  exact h.1 x hx, fun i hi => by
  rw [us_nj (fun e => by rw [e] at hi; exact hi hj)]
  exact h.2 i hi⟩
theorem GFM.us1 (h : GFM X SM) {k : Nat} (hk : k ∈ [8, 9, 10, 11, 12, 13]) (j : Nat) (v : Int32) : GFM X (us SM k j v) := ⟨fun x hx => by
  rw [us_nx (fun e => by rw [e] at hx; exact hx (List.mem_cons_of_mem _ hk))]
  exact h.1 x hx, fun i hi => by
  have : (us SM k j v).1 0 = SM.1 0 := us_nx (fun e => by rw [← e] at hk; exact absurd hk (by decide))
  rw [this]
  exact h.2 i hi⟩
theorem GFM.frN {S2 : ST} (h : GFM X SM) (f : frN SM S2) : GFM X S2 := ⟨fun x hx => by
  rw [f.1 x (fun e => by rw [e] at hx; exact hx (by decide))]
  exact h.1 x hx, fun j hj => by
  rw [f.2 j (fun e => by rw [e] at hj; exact hj (by decide)) (fun e => by rw [e] at hj; exact hj (by decide)) (fun e => by rw [e] at hj; exact hj (by decide)) (fun e => by rw [e] at hj; exact hj (by decide))]
  exact h.2 j hj⟩
theorem LTk.tok (h : LTk X SC SM i t) : SC.1 3 4 = xk X i := h.2.2.2.2.1
theorem LTk.tk (h : LTk X SC SM i t) : TkR SM (xk X i) := h.2.2.2.2.2.2.2.2.2.1.2.2.1
theorem LTk.sort (h : LTk X SC SM i t) : SM.1 0 10 = srt (xk X i) := h.tk.1
theorem LTk.f6 (h : LTk X SC SM i t) : SM.1 0 6 = 0 := h.2.2.2.2.2.2.2.2.1
theorem LTk.i6 (hX : XOK X) (h : LTk X SC SM i t) : i ≤ 600 := Nat.le_trans h.2.2.2.2.2.2.1 hX.1
theorem LTk.q6 (h : LTk X SC SM i t) (j : Nat) : xq X j ≤ 600 := Nat.le_trans (xq_le X j) h.2.2.2.2.2.2.2.2.2.1.1.1
theorem LTk.cc (h : LTk X SC SM i t) {c : Nat} (hc : SC.1 5 6 = nI c) (M : ST) : CCr (X.1, X.2.1, X.2.2.1, c, SC, M) SC i t [] c := by
  obtain ⟨g1, g2, a1, a2, a3, a4, a5, a6, b1, b2, b3⟩ := h
  refine ⟨⟨fun _ _ _ _ => rfl, fun _ _ => rfl, fun _ _ => rfl⟩, a1, a2, a3, a4, a5, a6, hc, Nat.le_refl _, ?_⟩
  show tyRun (SC.1 19) c (c - c) [] = some []
  rw [Nat.sub_self]
  rfl
theorem LTk.xok (hX : XOK X) (h : LTk X SC SM i t) (c : Nat) (M : ST) : XOK (X.1, X.2.1, X.2.2.1, c, SC, M) := by
  obtain ⟨x1, x2, x3, x4, x5⟩ := hX
  refine ⟨x1, ?_, ?_, x4, x5⟩
  · show SC.1 4 2 = _
    rw [h.1 4 (by decide)]
    exact x2
  · show ∀ k, k ≤ _ → SC.1 14 k = _ ∧ SC.1 15 k = _
    rw [h.1 14 (by decide), h.1 15 (by decide)]
    exact x3
theorem advL (hX : XOK X) (F : Nat) (hF : 1000 ≤ F) (h : LTk X SC SM i t) (k1 : xk X i ≠ -21) (k2 : xk X i ≠ -22) : ∃ SC2 SM2, fX1_advance F SC = some (0, SC2) ∧ fX11_next F SM = some (0, SM2) ∧ LTk X SC2 SM2 (i + 1) t ∧ (∀ x, x ≠ 3 → SC2.1 x = SC.1 x) ∧ frN SM SM2 := by
  have hi : i < xT X := by
    have h1 := h.2.2.2.2.2.2.1
    rcases Nat.lt_or_ge i (xT X) with g | g
    · exact g
    · have e : i = xT X := by omega
      rw [e] at k2
      exact absurd hX.2.2.2.2 k2
  obtain ⟨g1, g2, a1, a2, a3, a4, a5, a6, b1, b2, b3⟩ := h
  obtain ⟨x1, x2, x3, x4, x5⟩ := hX
  obtain ⟨m1, m2, m3, m4⟩ := b2
  obtain ⟨p, p1, p2, p3⟩ := m4 k1 k2
  have hn := m1.1
  obtain ⟨S2, q1, q2, q3, q4, q5⟩ := next_lp F hF X.2.1 F p SM (by omega) p1 (by omega) m1 p2
  have ek : kQ X.1 X.2.1 (nxtS X.1 X.2.1 p) = xk X (i + 1) := by
    rw [p3]
    rfl
  rw [ek] at q4 q5
  rw [p3] at q3 q5
  have r : ∀ j, j ≠ 8 → j ≠ 10 → j ≠ 11 → j ≠ 12 → S2.1 0 j = SM.1 0 j := q2.2
  have e4 : SC.1 4 2 = nI (xT X + 1) := by rw [g1 4 (by decide)]; exact x2
  have e14 : SC.1 14 (i + 1) = xk X (i + 1) := by rw [g1 14 (by decide)]; exact (x3 (i + 1) (by omega)).1
  refine ⟨us (us SC 3 3 (nI (i + 1))) 3 4 (xk X (i + 1)), S2, ?_, q1, ⟨(g1.us3 _ _).us3 _ _, g2.frN q2, a1, rfl, rfl, a4, by omega, a6, ?_, ⟨m1.fr q2, q3, q4, fun a1 a2 => ?_⟩, ?_⟩, fun x hx => by rw [us_nx hx, us_nx hx], q2⟩
  · unfold fX1_advance
    rw [bindS_eq, a2, nI_1]
    show (if nI (i + 1) < 0 then _ else if SC.1 4 2 ≤ nI (i + 1) then _ else if (601 : Int32) ≤ nI (i + 1) then _ else fX1_advance_51 F (us SC 3 3 (nI (i + 1))) 1) = _
    rw [if_neg (nI_pos (by omega)), e4, if_neg (nI_ge (by omega) (by omega)), if_neg (show ¬ (601 : Int32) ≤ nI (i + 1) from nI_ge (b := 601) (by omega) (by omega))]
    unfold fX1_advance_51
    rw [if_neg z10]
    show (if vin (nI (i + 1)) 601 = true then fX1_advance_74 F (us SC 3 3 (nI (i + 1))) (SC.1 14 (ix (nI (i + 1)))) else none) = _
    rw [if_pos (vin_nI (by omega) (by omega)), ix_nI (by omega), e14]
    rfl
  · rw [r 6 (by decide) (by decide) (by decide) (by decide)]; exact b1
  · have hlt : xq X (i + 1) < X.2.1 := by
      rcases Nat.lt_or_ge (xq X (i + 1)) X.2.1 with g | g
      · exact g
      · exact absurd (kd_end.mpr (Nat.not_lt.mpr g)) a2
    refine ⟨_, ?_, q5 a1, ?_⟩
    · unfold stQ
      rw [if_pos hlt]
      exact (stop_gt X.1 X.2.1 hlt).2
    · unfold stQ
      rw [if_pos hlt]
      show _ = tqS X.1 X.2.1 (i + 1 + 1)
      rw [tqS, if_pos (show tqS X.1 X.2.1 (i + 1) < X.2.1 from hlt)]
      rfl
  · rw [r 22 (by decide) (by decide) (by decide) (by decide)]; exact b3
theorem LNr.fr {SC2 SM2 : ST} {k : Nat} (h : LNr SC SM e k) (a16 : SC2.1 16 k = SC.1 16 k) (a17 : SC2.1 17 k = SC.1 17 k) (a18 : SC2.1 18 k = SC.1 18 k) (a19 : ∀ j, e k ≤ j → j < e (k + 1) → SC2.1 19 j = SC.1 19 j) (b8 : SM2.1 8 k = SM.1 8 k) (b9 : SM2.1 9 k = SM.1 9 k) (b12 : SM2.1 12 k = SM.1 12 k) : LNr SC2 SM2 e k := by
  unfold LNr at *
  rw [a16, a17, a18, b8, b9, b12]
  refine ⟨h.1, h.2.1, h.2.2.1, h.2.2.2.1, fun hk => ?_⟩
  rw [← h.2.2.2.2 hk]
  exact tyRun_congr _ _ _ (fun j g1 g2 => a19 j g1 (by omega))
theorem DLr.nx {SC2 SM2 : ST} (h : DLr X SC SM i t g e) (a : ∀ x, x ≠ 3 → SC2.1 x = SC.1 x) (f : frN SM SM2) : DLr X SC2 SM2 (i + 1) t g e := by
  obtain ⟨h1, h2, h3, h4, h5, h6, h7, h8, h9, q, h10, h11⟩ := h
  refine ⟨by rw [a 5 (by decide)]; exact h1, by rw [a 5 (by decide)]; exact h2, by rw [f.2 20 (by decide) (by decide) (by decide) (by decide)]; exact h3, by rw [f.2 21 (by decide) (by decide) (by decide) (by decide)]; exact h4, h5, h6, h7, fun k hk => (h8 k hk).fr (by rw [a 16 (by decide)]) (by rw [a 17 (by decide)]) (by rw [a 18 (by decide)]) (fun j _ _ => by rw [a 19 (by decide)]) (by rw [f.1 8 (by decide)]) (by rw [f.1 9 (by decide)]) (by rw [f.1 12 (by decide)]), ?_, q, h10, Nat.le_trans h11 (xq_mono X i)⟩
  rw [a 19 (by decide), f.1 10 (by decide), f.1 11 (by decide)]
  exact h9
theorem wrongL (F : Nat) (h : LTk X SC SM i t) (x : Int32) : fX11_wrong F SM x = some (0, flS SM (if xk X i = -21 then 1 else x) (xq X i)) := by
  have h11 := h.2.2.2.2.2.2.2.2.2.1.2.1
  unfold fX11_wrong
  rw [h.f6, if_pos (Int32.le_refl _), h.sort]
  have e2 : ∀ φ, fX11_wrong_22 F SM φ = some (0, flS SM φ (xq X i)) := fun φ => by
    unfold fX11_wrong_22 flS
    rw [bindS_eq, bindS_eq]
    show some (0, us (us SM 0 6 φ) 0 7 (SM.1 0 11)) = _
    rw [h11]
  have e : srt (xk X i) = 3 ↔ xk X i = -21 := by
    constructor
    · intro g
      unfold srt at g
      by_cases c1 : xk X i = -22
      · rw [if_pos c1] at g; cases g
      · rw [if_neg c1] at g
        by_cases c2 : xk X i = -21
        · exact c2
        · exfalso
          rw [if_neg c2] at g
          revert g
          repeat' split
          all_goals decide
    · intro g; rw [g]; decide
  by_cases c : xk X i = -21
  · rw [if_pos (e.mpr c), if_pos c, e2]
  · rw [if_neg (fun g => c (e.mp g)), if_neg c, e2]
theorem gfl_mk (h : LTk X SC SM i t) {φ : Int32} (h1 : ¬ φ ≤ 0) (h2 : φ ≠ 0) : GFL X (us SC 3 2 φ) (flS SM φ (xq X i)) := ⟨h.1.us3 _ _, h.2.1.fl _ _, i, φ, h.2.2.2.2.2.2.1, h1, h2, rfl, rfl, h.2.2.2.1, rfl⟩
theorem refuseL (F : Nat) (h : LTk X SC SM i t) : fX1_refuse F SC = some (0, us SC 3 2 (rfC (xk X i))) := by
  unfold fX1_refuse rfC
  rw [h.tok]
  by_cases e : xk X i = -21
  · rw [if_pos e, if_pos e]; rfl
  · rw [if_neg e, if_neg e]; rfl
theorem rtokF (F : Nat) (h : LTk X SC SM i t) {k : Int32} (hk : xk X i ≠ k) : fX1_readToken F SC k = some (0, us SC 3 2 (rfC (xk X i))) := by
  unfold fX1_readToken
  rw [h.tok, if_neg hk, refuseL F h]
  exact bz a1_0
theorem rtokT (F : Nat) (h : LTk X SC SM i t) {SC2 : ST} (ha : fX1_advance F SC = some (0, SC2)) : fX1_readToken F SC (xk X i) = some (1, SC2) := by
  unfold fX1_readToken
  rw [h.tok, if_pos rfl, ha]
  rfl
theorem told_eq (hX : XOK X) (F : Nat) (hF : 1000 ≤ F) (h : LTk X SC SM i t) {hi : Nat} (hh : hi < 10000) {lo hI : Int32} (el : lo = nI 1) (eh : hI = nI hi) : (∃ φ v, ¬ φ ≤ 0 ∧ φ ≠ 0 ∧ fX1_readNumber F SC lo hI = some (0, us SC 3 2 φ) ∧ fX11_told F SM lo hI = some (v, flS SM φ (xq X i))) ∨ ∃ w SC2 SM2, 1 ≤ w ∧ w ≤ hi ∧ xk X i = nI w ∧ fX1_readNumber F SC lo hI = some (1, SC2) ∧ fX11_told F SM lo hI = some (nI w, SM2) ∧ LTk X SC2 SM2 (i + 1) t ∧ (∀ x, x ≠ 3 → SC2.1 x = SC.1 x) ∧ frN SM SM2 := by
  have e37 : ∀ φ : Int32, φ ≠ 0 → fX11_told_37 F (flS SM φ (xq X i)) = some (SM.1 0 12, flS SM φ (xq X i)) := fun φ hφ => by
    unfold fX11_told_37
    rw [bindI_eq, if_neg (show ¬ (flS SM φ (xq X i)).1 0 6 = 0 from hφ)]
    rfl
  unfold fX1_readNumber fX11_told
  rw [h.tok, h.sort]
  by_cases c0 : (0 : Int32) ≤ xk X i
  · rw [if_pos c0, if_pos ((srt_2 _).mpr c0), h.tk.2.1 c0]
    obtain ⟨m, m1, m2⟩ : ∃ m, m < 10000 ∧ xk X i = nI m := by
      rcases kd_xk X i with g | ⟨j, j1, j2⟩
      · exact g
      · exfalso
        rw [j2] at c0
        have : ∀ j, j < 22 → ¬ (0 : Int32) ≤ -1 - nI j := by decide
        exact this j j1 c0
    rw [m2]
    have n21 : nI m ≠ -21 := fun e => by
      have := nI_pos' (n := m) (by omega)
      rw [e] at this
      exact absurd this (by decide)
    have n22 : nI m ≠ -22 := fun e => by
      have := nI_pos' (n := m) (by omega)
      rw [e] at this
      exact absurd this (by decide)
    by_cases c1 : 1 ≤ m ∧ m ≤ hi
    · obtain ⟨SC2, SM2, q1, q2, q3, q4, q5⟩ := advL hX F hF h (by rw [m2]; exact n21) (by rw [m2]; exact n22)
      refine Or.inr ⟨m, SC2, SM2, c1.1, c1.2, rfl, ?_, ?_, q3, q4, q5⟩
      · rw [el, eh, within_T ⟨nI_le c1.1 (by omega), nI_le c1.2 (by omega)⟩, Option.bind_some, if_neg z10]
        show (fX1_advance F SC).bind _ = _
        rw [q1]
        rfl
      · rw [el, eh, if_neg (nI_nlt c1.1 (by omega)), if_pos (nI_le c1.2 (by omega))]
        unfold fX11_told_37
        rw [bindI_eq, h.f6, if_pos rfl, q2, h.tk.2.1 c0, m2]
        rfl
    · refine Or.inl ⟨3, SM.1 0 12, by decide, by decide, ?_, ?_⟩
      · rw [el, eh, within_F (fun g => by
          rw [nI_leI (by omega) (by omega), nI_leI (by omega) (by omega)] at g
          exact c1 g), Option.bind_some, if_pos rfl]
        rfl
      · have e32 : fX11_told_32 F SM = some (SM.1 0 12, flS SM 3 (xq X i)) := by
          unfold fX11_told_32
          rw [wrongL F h 3, m2, if_neg n21, Option.bind_some]
          exact e37 3 (by decide)
        rw [el, eh]
        by_cases c2 : m < 1
        · rw [if_pos (nI_lt c2 (by omega)), e32]
        · rw [if_neg (nI_nlt (by omega) (by omega)), if_neg (nI_ge (by omega) (by omega)), e32]
  · rw [if_neg c0, if_neg (fun g => c0 ((srt_2 _).mp g)), refuseL F h, wrongL F h 2]
    refine Or.inl ⟨rfC (xk X i), SM.1 0 12, (rfC_pos _).1, (rfC_pos _).2, bz a1_0, ?_⟩
    rw [Option.bind_some]
    exact e37 _ (rfC_pos _).2
end LINES
