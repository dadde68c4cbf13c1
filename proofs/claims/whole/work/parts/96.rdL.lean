section RDL
variable {X : RCx} {S SC : ST} {i t c : Nat} {W P B : List Int32} {now : Int32}
theorem lp_flt (F f : Nat) (now x2 : Int32) (h : S.1 0 6 ≠ 0) : fX11_readE_14 F (f + 1) S now x2 = some (0, S) := by
  rw [fX11_readE_14, if_neg h]
  unfold fX11_readE_100
  rw [if_neg h]
theorem lp_op (F f : Nat) (h6 : S.1 0 6 = 0) (hn : now = 0 ∨ now = 1 ∨ now = 2) : fX11_readE_14 F (f + 1) S now 1 = (fX11_operand F S now).bind (fun q => fX11_readE_14 F f q.2 q.1 1) := by
  have a3 : ¬ now = 3 := by rcases hn with rfl | rfl | rfl <;> decide
  have a4 : ¬ now = 4 := by rcases hn with rfl | rfl | rfl <;> decide
  have a5 : ¬ now = 5 := by rcases hn with rfl | rfl | rfl <;> decide
  rw [fX11_readE_14, if_pos h6, if_neg z10, if_neg a4, if_neg a5]
  unfold fX11_readE_40 fX11_readE_66
  rw [if_pos rfl, if_neg z10, if_neg a3, if_pos rfl]
theorem lp_s3 (F f : Nat) (h6 : S.1 0 6 = 0) : fX11_readE_14 F (f + 1) S 3 1 = (fX11_sign F S 3).bind (fun q => fX11_readE_14 F f q.2 q.1 1) := by
  rw [fX11_readE_14, if_pos h6, if_neg z10, if_neg (by decide), if_neg (by decide)]
  unfold fX11_readE_40 fX11_readE_66
  rw [if_pos rfl, if_neg z10, if_pos rfl]
  rfl
theorem lp_40 (F f : Nat) (h6 : S.1 0 6 = 0) (hn : now = 4 ∨ now = 5) : fX11_readE_14 F (f + 1) S now 1 = fX11_readE_40 F (fX11_readE_14 F f) S now 1 := by
  rw [fX11_readE_14, if_pos h6, if_neg z10]
  rcases hn with rfl | rfl
  · rw [if_pos rfl]
  · rw [if_neg (by decide), if_pos rfl]
theorem lp_s45 (F f : Nat) (hF : 100 ≤ F) (h : MMr X S i t W) (hn : now = 4 ∨ now = 5) (hk : xk X i ≠ -16 ∨ 28 ∈ W) : fX11_readE_14 F (f + 1) S now 1 = (fX11_sign F S now).bind (fun q => fX11_readE_14 F f q.2 q.1 1) := by
  have a3 : ¬ now = 3 := by rcases hn with rfl | rfl <;> decide
  have e66 : fX11_readE_66 F (fX11_readE_14 F f) S now 1 1 = (fX11_sign F S now).bind (fun q => fX11_readE_14 F f q.2 q.1 1) := by
    unfold fX11_readE_66
    rw [if_neg z10, if_neg a3, if_neg z10]
    rfl
  rw [lp_40 F f h.2.1 hn]
  unfold fX11_readE_40
  rw [if_neg z10, h.sort]
  by_cases c : xk X i = -16
  · have ho : 28 ∈ W := hk.resolve_left (fun g => g c)
    rw [if_pos ((srt_cs _).2.2.2.2.2.2.2.1.mpr c), isOpen_eq F hF h, Option.bind_some, bI_T ho, if_neg z10, e66]
  · rw [if_neg (fun g => c ((srt_cs _).2.2.2.2.2.2.2.1.mp g)), e66]
theorem lp_end (F f : Nat) (hF : 100 ≤ F) (h : MMr X S i t W) (hn : now = 4 ∨ now = 5) (hk : xk X i = -16) (hW : 28 ∉ W) : fX11_readE_14 F (f + 2) S now 1 = fX11_readE_100 F S := by
  rw [lp_40 F (f + 1) h.2.1 hn]
  unfold fX11_readE_40
  rw [if_neg z10, h.sort, if_pos ((srt_cs _).2.2.2.2.2.2.2.1.mpr hk), isOpen_eq F hF h, Option.bind_some, bI_F hW, if_pos rfl]
  unfold fX11_readE_66
  rw [if_pos rfl, fX11_readE_14, if_pos h.2.1, if_pos rfl]
theorem trm_cs {k : Int32} (hk : KD k) (h5 : (-5 : Int32) ≤ k) : (∃ m, m < 10000 ∧ k = nI m ∧ nmK k = -1 ∧ srt k = 2) ∨ ∃ j, j < 5 ∧ k = -1 - nI j ∧ nmK k = nI j ∧ srt k = 1 := by
  rcases hk with ⟨m, m1, m2⟩ | ⟨j, j1, j2⟩
  · refine Or.inl ⟨m, m1, m2, ?_, ?_⟩
    · have := (srt_num m1).2
      rw [← m2] at this
      unfold nmK
      rw [if_neg (fun e => by rw [e] at this; exact absurd this (by decide)), if_neg (fun e => by rw [e] at this; exact absurd this (by decide)), if_neg (fun e => by rw [e] at this; exact absurd this (by decide)), if_neg (fun e => by rw [e] at this; exact absurd this (by decide)), if_neg (fun e => by rw [e] at this; exact absurd this (by decide))]
    · rw [m2]
      exact (srt_num m1).1
  · have g : ∀ j, j < 22 → (-5 : Int32) ≤ -1 - nI j → j < 5 ∧ nmK (-1 - nI j) = nI j ∧ srt (-1 - nI j) = 1 := by decide
    rw [j2] at h5
    have := g j j1 h5
    exact Or.inr ⟨j, this.1, j2, by rw [j2]; exact this.2.1, by rw [j2]; exact this.2.2⟩
theorem ntrm {k : Int32} (hk : KD k) (h5 : ¬ (-5 : Int32) ≤ k) : nmK k = -1 ∧ srt k ≠ 2 := by
  rcases hk with ⟨m, m1, m2⟩ | ⟨j, j1, j2⟩
  · exact absurd (by rw [m2]; exact (cv_num m1).1) h5
  · have g : ∀ j, j < 22 → ¬ (-5 : Int32) ≤ -1 - nI j → nmK (-1 - nI j) = -1 ∧ srt (-1 - nI j) ≠ 2 := by decide
    rw [j2] at h5 ⊢
    exact g j j1 h5
theorem op_t (F : Nat) (h : MMr X S i t W) (h5 : (-5 : Int32) ≤ xk X i) (now : Int32) : fX11_operand F S now = fX11_operand_55 F S now (nmK (xk X i)) 1 1 := by
  unfold fX11_operand
  rw [named_eq F h.tk, Option.bind_some]
  have e22 : fX11_operand_22 F S now (nmK (xk X i)) 1 = fX11_operand_55 F S now (nmK (xk X i)) 1 1 := by
    unfold fX11_operand_22
    rw [if_neg z10]
  show (if S.1 0 10 = 2 then fX11_operand_22 F S now (nmK (xk X i)) 1 else if nmK (xk X i) < 0 then fX11_operand_22 F S now (nmK (xk X i)) 0 else fX11_operand_22 F S now (nmK (xk X i)) 1) = _
  rw [h.sort]
  rcases trm_cs (kd_xk X i) h5 with ⟨m, m1, m2, m3, m4⟩ | ⟨j, j1, j2, j3, j4⟩
  · rw [if_pos m4, e22]
  · rw [j4, if_neg (by decide), if_neg (by rw [j3]; exact nI_pos (by omega)), e22]
theorem op_n (F : Nat) (h : MMr X S i t W) (h5 : ¬ (-5 : Int32) ≤ xk X i) (now : Int32) : fX11_operand F S now = fX11_operand_22 F S now (-1) 0 := by
  unfold fX11_operand
  rw [named_eq F h.tk, Option.bind_some]
  obtain ⟨g1, g2⟩ := ntrm (kd_xk X i) h5
  show (if S.1 0 10 = 2 then fX11_operand_22 F S now (nmK (xk X i)) 1 else if nmK (xk X i) < 0 then fX11_operand_22 F S now (nmK (xk X i)) 0 else fX11_operand_22 F S now (nmK (xk X i)) 1) = _
  rw [h.sort, if_neg g2, g1, if_pos (by decide)]
theorem rfC_pos (k : Int32) : ¬ rfC k ≤ 0 ∧ rfC k ≠ 0 := by
  unfold rfC
  by_cases e : k = -21
  · rw [if_pos e]; decide
  · rw [if_neg e]; decide
theorem op_88 (F : Nat) (h : MMr X S i t W) (x1 x2 x3 : Int32) : fX11_operand_88 F S x1 x2 x3 = some (x1, flS S (rfC (xk X i)) (xq X i)) := by
  unfold fX11_operand_88
  rw [wrong_eq F h 2, Option.bind_some]
  show fX11_operand_93 F (flS S (rfC (xk X i)) (xq X i)) x1 x2 x3 = _
  unfold fX11_operand_93
  rw [if_neg (show ¬ (flS S (rfC (xk X i)) (xq X i)).1 0 6 ≤ 0 from (rfC_pos _).1)]
theorem op_bad1 (F : Nat) (h : MMr X S i t W) (h5 : ¬ (-5 : Int32) ≤ xk X i) (hb : now = 0 → xk X i ≠ -14 ∧ xk X i ≠ -6) : fX11_operand F S now = some (now, flS S (rfC (xk X i)) (xq X i)) := by
  rw [op_n F h h5]
  have e54 : fX11_operand_54 F S now (-1) 0 = some (now, flS S (rfC (xk X i)) (xq X i)) := by
    unfold fX11_operand_54 fX11_operand_55
    rw [if_pos rfl, op_88 F h]
  unfold fX11_operand_22
  rw [if_pos rfl]
  by_cases c : now = 0
  · rw [if_pos c, h.sort, if_neg (fun g => (hb c).1 ((srt_cs _).2.2.2.2.2.2.1.mp g)), isWd_eq F h.tk (w := 3) (by decide) (by decide), if_neg (show ¬ xk X i = wK 3 from (hb c).2), Option.bind_some]
    exact e54
  · rw [if_neg c, e54]
theorem op_bad2 (F : Nat) (h : MMr X S i t W) (hd : 6 ≤ cntD W) (hd2 : cntD W ≤ 1000) : fX11_operand F S 0 = some (0, flS S (rfC (xk X i)) (xq X i)) := by
  have e55 : ∀ x2 x3 s0, fX11_operand_55 F S 0 x2 x3 s0 = some (0, flS S (rfC (xk X i)) (xq X i)) := fun x2 x3 s0 => by
    unfold fX11_operand_55
    by_cases c : s0 = 0
    · rw [if_pos c, op_88 F h]
    · rw [if_neg c, if_pos rfl, h.2.2.2.2.2.2.1, if_pos (show (6 : Int32) ≤ nI (cntD W) from nI_le (a := 6) hd (by omega)), op_88 F h]
  by_cases h5 : (-5 : Int32) ≤ xk X i
  · rw [op_t F h h5, e55]
  · rw [op_n F h h5]
    unfold fX11_operand_22
    rw [if_pos rfl, if_pos rfl]
    by_cases c : S.1 0 10 = 40
    · rw [if_pos c, e55]
    · rw [if_neg c, isWd_eq F h.tk (w := 3) (by decide) (by decide), Option.bind_some]
      by_cases c2 : xk X i = wK 3
      · rw [if_pos c2]
        show fX11_operand_55 F S 0 (-1) 0 1 = _
        rw [e55]
      · rw [if_neg c2]
        show fX11_operand_54 F S 0 (-1) 0 = _
        unfold fX11_operand_54
        rw [e55]
theorem op_bad3 (F : Nat) (h : MMr X S i t W) (h5 : (-5 : Int32) ≤ xk X i) (ht : t = 60) : fX11_operand F S now = some (now, flS S (rfC (xk X i)) (xq X i)) := by
  rw [op_t F h h5]
  have e75 : fX11_operand_75 F S now (nmK (xk X i)) 1 = some (now, flS S (rfC (xk X i)) (xq X i)) := by
    unfold fX11_operand_75
    rw [if_neg z10, h.2.2.2.1, if_pos (by rw [ht]; rfl), op_88 F h]
  unfold fX11_operand_55
  rw [if_neg z10]
  by_cases c : now = 0
  · rw [if_pos c]
    by_cases c2 : (6 : Int32) ≤ S.1 0 30
    · rw [if_pos c2, op_88 F h]
    · rw [if_neg c2, e75]
  · rw [if_neg c, e75]
theorem op_term (F : Nat) (hF : 1000 ≤ F) (h : MMr X S i t W) (h5 : (-5 : Int32) ≤ xk X i) (ht : t < 60) (hn : now = 0 → cntD W < 6) (hL : LKr SC S c []) (hc : c ≤ 320) {SC2 : ST} (e19 : SC2.1 19 = upd (SC.1 19) c (xk X i)) : ∃ S2, fX11_operand F S now = some (if now = 2 then 4 else 3, S2) ∧ MMr X S2 (i + 1) (t + 1) W ∧ LKr SC2 S2 (c + 1) [] := by
  have hk := kd_xk X i
  obtain ⟨m, m1, m2, m3, _⟩ := hL
  have m2' : m = c := m2
  subst m2'
  have h' := h
  obtain ⟨f1, g1, g2, g3, g4, g5, g6, g7⟩ := h
  have n21 : xk X i ≠ -21 := fun e => by rw [e] at h5; exact absurd h5 (by decide)
  have n22 : xk X i ≠ -22 := fun e => by rw [e] at h5; exact absurd h5 (by decide)
  obtain ⟨w, hw, hcr⟩ : ∃ w, (if nmK (xk X i) < 0 then fX11_operand_145 F S now 0 else fX11_operand_145 F S now (10 + nmK (xk X i))) = fX11_operand_145 F S now w ∧ codeRel (xk X i) w (S.1 0 12) := by
    rcases trm_cs hk h5 with ⟨v, v1, v2, v3, v4⟩ | ⟨j, j1, j2, j3, j4⟩
    · refine ⟨0, by rw [v3, if_pos (by decide)], Or.inl ⟨v, v1, v2, rfl, ?_⟩⟩
      rw [← v2]
      exact h'.tk.2.1 (by rw [v2]; exact (srt_num v1).2)
    · exact ⟨nI (10 + j), by rw [j3, if_neg (nI_pos (by omega)), show (10 : Int32) = nI 10 from rfl, nI_add], Or.inr (Or.inl ⟨j, j1, j2, rfl⟩)⟩
  have e93 : fX11_operand_93 F S now (nmK (xk X i)) 1 = fX11_operand_145 F S now w := by
    unfold fX11_operand_93
    rw [g1, if_pos (Int32.le_refl _), if_neg z10]
    exact hw
  have e75 : fX11_operand_75 F S now (nmK (xk X i)) 1 = fX11_operand_145 F S now w := by
    unfold fX11_operand_75
    rw [if_neg z10, g3, if_neg (show ¬ nI t = 60 from fun e => by have := (nI_eq (b := 60) (by omega) (by omega)).mp e; omega), e93]
  have e55 : fX11_operand F S now = fX11_operand_145 F S now w := by
    rw [op_t F h' h5]
    unfold fX11_operand_55
    rw [if_neg z10]
    by_cases cn : now = 0
    · rw [if_pos cn, g6, if_neg (show ¬ (6 : Int32) ≤ nI (cntD W) from nI_ge (b := 6) (hn cn) (by omega)), e75]
    · rw [if_neg cn, e75]
  rw [e55]
  unfold fX11_operand_145
  rw [step_eq F m1 (by omega), Option.bind_some, bindS_eq]
  show ∃ S2, (fX11_next F (us (us (us (us S 10 m w) 11 m (S.1 0 12)) 0 21 (nI (m + 1))) 0 22 (S.1 0 22 + 1))).bind _ = _ ∧ _
  rw [g3, nI_1]
  have hM : MMr X (us (us (us (us S 10 m w) 11 m (S.1 0 12)) 0 21 (nI (m + 1))) 0 22 (nI (t + 1))) i (t + 1) W := ⟨(((f1.us1 (Or.inl rfl) _ _).us1 (Or.inr (Or.inl rfl)) _ _).us0 (by decide) _).us0 (by decide) _, g1, g2.fr rfl (fun j a1 a2 => by
      rw [us_nj (by omega), us_nj (by omega)]
      rfl) rfl, rfl, g4, g5, g6, g7⟩
  obtain ⟨S2, q1, q2, q3⟩ := next_eq F hF hM n21 n22
  refine ⟨S2, ?_, q2, q3 SC2 (m + 1) [] ⟨m + 1, rfl, rfl, fun k hk2 => ?_, trivial⟩⟩
  · rw [q1, Option.bind_some]
    by_cases cn : now = 2
    · rw [if_pos cn, if_pos cn]
    · rw [if_neg cn, if_neg cn]
  · show codeRel (SC2.1 19 k) (upd (S.1 10) m w k) (upd (S.1 11) m (S.1 0 12) k)
    rw [e19, upd_rd, upd_rd, upd_rd]
    by_cases e : k = m
    · rw [if_pos e, if_pos e, if_pos e]; exact hcr
    · rw [if_neg e, if_neg e, if_neg e]; exact m3 k (by omega)
theorem op_hold (F : Nat) (hF : 1000 ≤ F) (h : MMr X S i t W) {w : Int32} (hw : xk X i = -14 ∧ w = 28 ∨ xk X i = -6 ∧ w = 20) (hd : cntD W < 6) (hl : W.length < 40) : ∃ S2, fX11_operand F S 0 = some (0, S2) ∧ MMr X S2 (i + 1) t (w :: W) ∧ (∀ SC c P, LKr SC S c P → LKr SC S2 c P) := by
  have n5 : ¬ (-5 : Int32) ≤ xk X i := by rcases hw with ⟨e, _⟩ | ⟨e, _⟩ <;> (rw [e]; decide)
  have n21 : xk X i ≠ -21 := by rcases hw with ⟨e, _⟩ | ⟨e, _⟩ <;> (rw [e]; decide)
  have n22 : xk X i ≠ -22 := by rcases hw with ⟨e, _⟩ | ⟨e, _⟩ <;> (rw [e]; decide)
  obtain ⟨S1, q1, q2, q3⟩ := hold_eq F h hl w
  obtain ⟨S2, r1, r2, r3⟩ := next_eq F hF q2 n21 n22
  refine ⟨S2, ?_, r2, fun SC c P hL => r3 SC c P (q3 SC c P hL)⟩
  have e123 : fX11_operand_123 F S w = some (0, S2) := by
    unfold fX11_operand_123
    rw [q1, Option.bind_some, r1]
    rfl
  have e55 : fX11_operand_55 F S 0 (-1) 0 1 = some (0, S2) := by
    unfold fX11_operand_55
    rw [if_neg z10, if_pos rfl, h.2.2.2.2.2.2.1, if_neg (show ¬ (6 : Int32) ≤ nI (cntD W) from nI_ge (b := 6) hd (by omega))]
    unfold fX11_operand_75 fX11_operand_93
    rw [if_pos rfl, h.2.1, if_pos (Int32.le_refl _), if_pos rfl, h.sort]
    rcases hw with ⟨e, e2⟩ | ⟨e, e2⟩
    · rw [e, if_pos (by decide), ← e2, e123]
    · rw [e, if_neg (by decide), ← e2, e123]
  rw [op_n F h n5]
  unfold fX11_operand_22
  rw [if_pos rfl, if_pos rfl, h.sort]
  rcases hw with ⟨e, e2⟩ | ⟨e, e2⟩
  · rw [if_pos (by rw [e]; decide), e55]
  · rw [if_neg (by rw [e]; decide), isWd_eq F h.tk (w := 3) (by decide) (by decide), if_pos (show xk X i = wK 3 from e), Option.bind_some]
    show fX11_operand_55 F S 0 (-1) 0 1 = _
    exact e55
end RDL
