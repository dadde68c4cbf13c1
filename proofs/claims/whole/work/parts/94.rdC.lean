abbrev RCx : Type := (Nat → Nat) × Nat × Nat × Nat × ST × ST
noncomputable def xk (X : RCx) (i : Nat) : Int32 := kdS X.1 X.2.1 i
def xq (X : RCx) (i : Nat) : Nat := tqS X.1 X.2.1 i
def xT (X : RCx) : Nat := X.2.2.1
def xA (X : RCx) : Nat := X.2.2.2.1
def xC (X : RCx) : ST := X.2.2.2.2.1
def xM (X : RCx) : ST := X.2.2.2.2.2
def XOK (X : RCx) : Prop := xT X ≤ 600 ∧ (xC X).1 4 2 = nI (xT X + 1) ∧ (∀ k, k ≤ xT X → (xC X).1 14 k = xk X k ∧ (xC X).1 15 k = nI (xq X k)) ∧ (∀ k, k < xT X → xk X k ≠ -22) ∧ xk X (xT X) = -22
theorem us_nx {S : ST} {k j : Nat} {v : Int32} {x : Nat} (h : x ≠ k) : (us S k j v).1 x = S.1 x := by rw [us_row, if_neg h]
theorem us_nj {S : ST} {k j : Nat} {v : Int32} {i : Nat} (h : i ≠ j) : (us S k j v).1 k i = S.1 k i := by rw [us_rd, if_pos rfl, if_neg h]
theorem tyRun_snoc {code : Nat → Int32} {τ' : List Bool} (h30 : τ'.length ≤ 30) : ∀ (n k : Nat) (t τ : List Bool), tyRun code k n t = some τ → tyStep (code (k + n)) τ = some τ' → tyRun code k (n + 1) t = some τ'
  | 0, k, t, τ, h1, h2 => by
    rw [tyRun] at h1
    by_cases c : t.length ≤ 30
    · rw [if_pos c] at h1
      cases h1
      rw [tyRun, if_pos c, show code k = code (k + 0) from rfl, h2, Option.bind_some, tyRun, if_pos h30]
    · rw [if_neg c] at h1
      cases h1
  | n + 1, k, t, τ, h1, h2 => by
    rw [tyRun] at h1
    by_cases c : t.length ≤ 30
    · rw [if_pos c] at h1
      cases h3 : tyStep (code k) t with
      | none => rw [h3] at h1; cases h1
      | some t2 =>
        rw [h3, Option.bind_some] at h1
        rw [tyRun, if_pos c, h3, Option.bind_some]
        exact tyRun_snoc h30 n (k + 1) t2 τ h1 (by rw [show k + 1 + n = k + (n + 1) by omega]; exact h2)
    · rw [if_neg c] at h1
      cases h1
theorem tyRun_congr {f g : Nat → Int32} (n : Nat) : ∀ (k : Nat) (t : List Bool), (∀ j, k ≤ j → j < k + n → f j = g j) → tyRun f k n t = tyRun g k n t := by
  induction n with
  | zero =>
    intro k t _
    unfold tyRun
    exact Eq.refl _
  | succ n ih =>
    intro k t h
    have h0 := h k (Nat.le_refl _) (by omega)
    have e : tyRun f (k + 1) n = tyRun g (k + 1) n := funext fun t2 => ih (k + 1) t2 (fun j h1 h2 => h j (by omega) (by omega))
    unfold tyRun
    rw [h0, e]
def CFr (X : RCx) (S : ST) : Prop := (∀ x, x ≠ 3 → x ≠ 5 → x ≠ 19 → S.1 x = (xC X).1 x) ∧ (∀ j, j ≠ 6 → S.1 5 j = (xC X).1 5 j) ∧ ∀ k, k < xA X → S.1 19 k = (xC X).1 19 k
def CCr (X : RCx) (S : ST) (i t : Nat) (τ : List Bool) (c : Nat) : Prop := CFr X S ∧ S.1 3 2 = 0 ∧ S.1 3 3 = nI i ∧ S.1 3 4 = xk X i ∧ S.1 3 5 = nI t ∧ i ≤ xT X ∧ t ≤ 60 ∧ S.1 5 6 = nI c ∧ xA X ≤ c ∧ tyRun (S.1 19) (xA X) (c - xA X) [] = some τ
theorem CFr.us3 {X : RCx} {S : ST} (h : CFr X S) (j : Nat) (v : Int32) : CFr X (us S 3 j v) := ⟨fun x h3 h5 h19 => by rw [us_nx h3]; exact h.1 x h3 h5 h19, fun j hj => h.2.1 j hj, fun k hk => h.2.2 k hk⟩
section RDC
variable {X : RCx} {S : ST} {i t c : Nat} {τ : List Bool}
theorem CCr.tok (h : CCr X S i t τ c) : S.1 3 4 = xk X i := h.2.2.2.1
theorem CCr.ltT (hX : XOK X) (h : CCr X S i t τ c) (hk : xk X i ≠ -22) : i < xT X := by
  have h1 := h.2.2.2.2.2.1
  rcases Nat.lt_or_ge i (xT X) with g | g
  · exact g
  · have e : i = xT X := by omega
    rw [e] at hk
    exact absurd hX.2.2.2.2 hk
theorem adv_eq (hX : XOK X) (h : CCr X S i t τ c) (hk : xk X i ≠ -22) (F : Nat) : ∃ S2, fX1_advance F S = some (0, S2) ∧ CCr X S2 (i + 1) t τ c ∧ S2.1 19 = S.1 19 := by
  have hi := h.ltT hX hk
  obtain ⟨x1, x2, x3, x4, x5⟩ := hX
  obtain ⟨f1, h1, h2, h3, h4, h5, h6, h7, h8, h9⟩ := h
  have e4 : S.1 4 2 = nI (xT X + 1) := by rw [f1.1 4 (by decide) (by decide) (by decide)]; exact x2
  have e14 : S.1 14 (i + 1) = xk X (i + 1) := by rw [f1.1 14 (by decide) (by decide) (by decide)]; exact (x3 (i + 1) (by omega)).1
  refine ⟨us (us S 3 3 (nI (i + 1))) 3 4 (xk X (i + 1)), ?_, ⟨(f1.us3 _ _).us3 _ _, h1, rfl, rfl, h4, by omega, h6, h7, h8, h9⟩, rfl⟩
  unfold fX1_advance
  rw [bindS_eq, h2, nI_1]
  show (if nI (i + 1) < 0 then _ else if S.1 4 2 ≤ nI (i + 1) then _ else if (601 : Int32) ≤ nI (i + 1) then _ else fX1_advance_51 F (us S 3 3 (nI (i + 1))) 1) = _
  rw [if_neg (nI_pos (by omega)), e4, if_neg (nI_ge (by omega) (by omega)), if_neg (show ¬ (601 : Int32) ≤ nI (i + 1) from nI_ge (b := 601) (by omega) (by omega))]
  unfold fX1_advance_51
  rw [if_neg z10]
  show (if vin (nI (i + 1)) 601 = true then fX1_advance_74 F (us S 3 3 (nI (i + 1))) (S.1 14 (ix (nI (i + 1)))) else none) = _
  rw [if_pos (vin_nI (by omega) (by omega)), ix_nI (by omega), e14]
  rfl
theorem emit_eq (h : CCr X S i t τ c) (hc : c < 320) {k : Int32} {τ' : List Bool} (hk : tyStep k τ = some τ') (h30 : τ'.length ≤ 30) (F : Nat) : ∃ S2, fX2_emit F S k = some (0, S2) ∧ CCr X S2 i t τ' (c + 1) ∧ S2.1 19 = upd (S.1 19) c k := by
  obtain ⟨f1, h1, h2, h3, h4, h5, h6, h7, h8, h9⟩ := h
  have e19 : (us (us S 19 c k) 5 6 (nI (c + 1))).1 19 = upd (S.1 19) c k := rfl
  refine ⟨us (us S 19 c k) 5 6 (nI (c + 1)), ?_, ⟨⟨fun x a1 a2 a3 => ?_, fun j hj => ?_, fun j hj => ?_⟩, h1, h2, h3, h4, h5, h6, rfl, by omega, ?_⟩, e19⟩
  · unfold fX2_emit
    rw [h7, if_neg (show ¬ (320 : Int32) ≤ nI c from nI_ge (b := 320) (by omega) (by omega)), if_pos (vin_nI hc (by omega)), ix_nI (by omega), bindS_eq, bindS_eq]
    show some (0, us (us S 19 c k) 5 6 (S.1 5 6 + 1)) = _
    rw [h7, nI_1]
  · rw [us_nx a2, us_nx a3]
    exact f1.1 x a1 a2 a3
  · rw [us_nj hj]
    exact f1.2.1 j hj
  · rw [e19, upd_rd, if_neg (by omega)]
    exact f1.2.2 j hj
  · rw [e19, show c + 1 - xA X = (c - xA X) + 1 by omega]
    refine tyRun_snoc h30 _ _ _ τ ?_ ?_
    · rw [← h9]
      exact tyRun_congr _ _ _ (fun j g1 g2 => by rw [upd_rd, if_neg (by omega)])
    · rw [show xA X + (c - xA X) = c by omega, upd_rd, if_pos rfl]
      exact hk
theorem CCr.trm (h : CCr X S i t τ c) (ht : t < 60) : CCr X (us S 3 5 (nI (t + 1))) i (t + 1) τ c := by
  obtain ⟨f1, h1, h2, h3, h4, h5, h6, h7, h8, h9⟩ := h
  exact ⟨f1.us3 _ _, h1, h2, h3, rfl, h5, by omega, h7, h8, h9⟩
noncomputable def rfC (k : Int32) : Int32 := if k = -21 then 1 else 2
theorem refuse_eq (h : CCr X S i t τ c) (F : Nat) : fX1_refuse F S = some (0, us S 3 2 (rfC (xk X i))) := by
  unfold fX1_refuse rfC
  rw [h.tok]
  by_cases e : xk X i = -21
  · rw [if_pos e, if_pos e]; rfl
  · rw [if_neg e, if_neg e]; rfl
theorem refuse_b (h : CCr X S i t τ c) (F : Nat) : (fX1_refuse F S).bind (fun q : Int32 × ST => if q.1 &&& 1 = q.1 then some (q.1, q.2) else none) = some (0, us S 3 2 (rfC (xk X i))) := by
  rw [refuse_eq h F]
  exact bz a1_0
theorem rtok_F (h : CCr X S i t τ c) (F : Nat) {k : Int32} (hk : xk X i ≠ k) : fX1_readToken F S k = some (0, us S 3 2 (rfC (xk X i))) := by
  unfold fX1_readToken
  rw [h.tok, if_neg hk]
  exact refuse_b h F
theorem rtok_T (hX : XOK X) (h : CCr X S i t τ c) (F : Nat) {k : Int32} (hk : xk X i = k) (h22 : k ≠ -22) : ∃ S2, fX1_readToken F S k = some (1, S2) ∧ CCr X S2 (i + 1) t τ c ∧ S2.1 19 = S.1 19 := by
  obtain ⟨S2, e1, e2, e3⟩ := adv_eq hX h (by rw [hk]; exact h22) F
  refine ⟨S2, ?_, e2, e3⟩
  unfold fX1_readToken
  rw [h.tok, if_pos hk, e1]
  rfl
end RDC
