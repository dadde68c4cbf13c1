section RDS
variable {X : RCx} {S SC : ST} {i t c : Nat} {W P B : List Int32} {now : Int32}
theorem MMr.len (h : MMr X S i t (P ++ B)) : P.length ≤ 40 ∧ B.length ≤ 40 := by
  have := h.2.2.2.2.2.2.2
  rw [List.length_append] at this
  omega
theorem settle_eq (F : Nat) (hF : 100 ≤ F) {least : Int32} (hB : ∀ w r, B = w :: r → w = 28 ∨ w < least) (hP : ∀ w, w ∈ P → w ≠ 28 ∧ ¬ w < least) (h : MMr X S i t (P ++ B)) (hL : LKr SC S c P) (hc : c ≤ 320) : ∃ S2, fX11_settle F S least = some (0, S2) ∧ MMr X S2 i t B ∧ LKr SC S2 c [] := settle_lp F hc hB P F S (by have := h.len; omega) hP h hL
theorem ones_eq (F : Nat) (hF : 100 ≤ F) {x1 : Int32} (hB : ∀ w r, B = w :: r → w = 28 ∨ (x1 ≠ 0 ∧ w = 21)) (hP : ∀ w, w ∈ P → w ≠ 28 ∧ (x1 ≠ 0 → w ≠ 21)) (h : MMr X S i t (P ++ B)) (hL : LKr SC S c P) (hc : c ≤ 320) : ∃ S2, fX11_settleOnes F S x1 = some (0, S2) ∧ MMr X S2 i t B ∧ LKr SC S2 c [] := ones_lp F hc hB P F S (by have := h.len; omega) hP h hL
theorem sg_253 (F : Nat) (h : MMr X S i t W) (x1 : Int32) : fX11_sign_253 F S x1 = some (x1, flS S (rfC (xk X i)) (xq X i)) := by
  unfold fX11_sign_253
  rw [wrong_eq F h 2]
  rfl
theorem sg_plus (F : Nat) (hF : 1000 ≤ F) (hn : now = 3 ∨ now = 4) {w : Int32} (hw : xk X i = -12 ∧ w = 26 ∨ xk X i = -13 ∧ w = 27) (hB : ∀ w r, B = w :: r → w = 28 ∨ w < 26) (hP : ∀ w, w ∈ P → w = 26 ∨ w = 27) (h : MMr X S i t (P ++ B)) (hL : LKr SC S c P) (hc : c ≤ 320) (hl : B.length < 40) : ∃ S2, fX11_sign F S now = some (if now = 3 then 1 else 2, S2) ∧ MMr X S2 (i + 1) t (w :: B) ∧ LKr SC S2 c [] := by
  have n21 : xk X i ≠ -21 := by rcases hw with ⟨e, _⟩ | ⟨e, _⟩ <;> (rw [e]; decide)
  have n22 : xk X i ≠ -22 := by rcases hw with ⟨e, _⟩ | ⟨e, _⟩ <;> (rw [e]; decide)
  obtain ⟨S1, q1, q2, q3⟩ := settle_eq F (by omega) (least := 26) hB (fun w hw => by rcases hP w hw with e | e <;> (rw [e]; decide)) h hL hc
  obtain ⟨S2, r1, r2, r3⟩ := hold_eq F q2 hl w
  obtain ⟨S3, u1, u2, u3⟩ := next_eq F hF r2 n21 n22
  refine ⟨S3, ?_, u2, u3 SC c [] (r3 SC c [] q3)⟩
  have e46 : fX11_sign_46 F S1 now w = some (if now = 3 then 1 else 2, S3) := by
    unfold fX11_sign_46
    rw [r1, Option.bind_some, u1, Option.bind_some]
    by_cases e : now = 3
    · rw [if_pos e, if_pos e]
    · rw [if_neg e, if_neg e]
  have e23 : fX11_sign_23 F S now = some (if now = 3 then 1 else 2, S3) := by
    unfold fX11_sign_23
    rw [q1, Option.bind_some]
    show (if S1.1 0 10 = 43 then fX11_sign_46 F S1 now 26 else fX11_sign_46 F S1 now 27) = _
    rw [q2.sort]
    rcases hw with ⟨e, e2⟩ | ⟨e, e2⟩
    · rw [e, if_pos (by decide), ← e2, e46]
    · rw [e, if_neg (by decide), ← e2, e46]
  unfold fX11_sign
  rw [if_neg (by rcases hn with e | e <;> (rw [e]; decide)), h.sort]
  rcases hw with ⟨e, e2⟩ | ⟨e, e2⟩
  · rw [e, if_pos (by decide), e23]
  · rw [e, if_neg (by decide), if_pos (by decide), e23]
theorem sg_cmp (F : Nat) (hF : 1000 ≤ F) {w : Int32} (hw : xk X i = -9 ∧ w = 24 ∨ xk X i = -10 ∧ w = 25 ∨ xk X i = -11 ∧ w = 23) (hB : ∀ w r, B = w :: r → w = 28 ∨ w < 26) (hP : ∀ w, w ∈ P → w = 26 ∨ w = 27) (h : MMr X S i t (P ++ B)) (hL : LKr SC S c P) (hc : c ≤ 320) (hl : B.length < 40) : ∃ S2, fX11_sign F S 3 = some (2, S2) ∧ MMr X S2 (i + 1) t (w :: B) ∧ LKr SC S2 c [] := by
  have n21 : xk X i ≠ -21 := by rcases hw with ⟨e, _⟩ | ⟨e, _⟩ | ⟨e, _⟩ <;> (rw [e]; decide)
  have n22 : xk X i ≠ -22 := by rcases hw with ⟨e, _⟩ | ⟨e, _⟩ | ⟨e, _⟩ <;> (rw [e]; decide)
  obtain ⟨S1, q1, q2, q3⟩ := settle_eq F (by omega) (least := 26) hB (fun w hw => by rcases hP w hw with e | e <;> (rw [e]; decide)) h hL hc
  obtain ⟨S2, r1, r2, r3⟩ := hold_eq F q2 hl w
  obtain ⟨S3, u1, u2, u3⟩ := next_eq F hF r2 n21 n22
  refine ⟨S3, ?_, u2, u3 SC c [] (r3 SC c [] q3)⟩
  have e133 : fX11_sign_133 F S1 w = some (2, S3) := by
    unfold fX11_sign_133
    rw [r1, Option.bind_some, u1, Option.bind_some]
  have e96 : fX11_sign_96 F S = some (2, S3) := by
    unfold fX11_sign_96
    rw [q1, Option.bind_some]
    show (if S1.1 0 10 = 61 then fX11_sign_133 F S1 23 else if S1.1 0 10 = 60 then fX11_sign_133 F S1 24 else fX11_sign_133 F S1 25) = _
    rw [q2.sort]
    rcases hw with ⟨e, e2⟩ | ⟨e, e2⟩ | ⟨e, e2⟩
    · rw [e, if_neg (by decide), if_pos (by decide), ← e2, e133]
    · rw [e, if_neg (by decide), if_neg (by decide), ← e2, e133]
    · rw [e, if_pos (by decide), ← e2, e133]
  unfold fX11_sign fX11_sign_64
  rw [if_neg (by decide), h.sort]
  rcases hw with ⟨e, e2⟩ | ⟨e, e2⟩ | ⟨e, e2⟩
  · rw [e, if_neg (by decide), if_neg (by decide), if_pos rfl, if_neg (by decide), if_pos (by decide), e96]
  · rw [e, if_neg (by decide), if_neg (by decide), if_pos rfl, if_neg (by decide), if_neg (by decide), if_pos (by decide), e96]
  · rw [e, if_neg (by decide), if_neg (by decide), if_pos rfl, if_pos (by decide), e96]
theorem sg_142 (F : Nat) (h : MMr X S i t W) (hn : now = 4 ∨ now = 5) (hk : now = 4 → xk X i ≠ -12 ∧ xk X i ≠ -13) : fX11_sign F S now = fX11_sign_142 F S now := by
  have e64 : fX11_sign_64 F S now = fX11_sign_142 F S now := by
    unfold fX11_sign_64
    rw [if_neg (by rcases hn with e | e <;> (rw [e]; decide))]
  unfold fX11_sign
  rcases hn with e | e
  · rw [if_neg (by rw [e]; decide), h.sort, if_neg (fun g => (hk e).1 ((srt_cs _).1.mp g)), if_neg (fun g => (hk e).2 ((srt_cs _).2.1.mp g)), e64]
  · rw [if_pos e, e64]
theorem sg_167 (F : Nat) (hF : 1000 ≤ F) (hn : now = 4 ∨ now = 5) {w : Int32} (hw : xk X i = -7 ∧ w = 22 ∧ (∀ w r, B = w :: r → w = 28 ∨ w = 21) ∧ (∀ w, w ∈ P → w ≠ 28 ∧ w ≠ 21) ∨ xk X i = -8 ∧ w = 21 ∧ (∀ w r, B = w :: r → w = 28) ∧ (∀ w, w ∈ P → w ≠ 28)) (h : MMr X S i t (P ++ B)) (hL : LKr SC S c P) (hc : c ≤ 320) (hl : B.length < 40) : ∃ S2, fX11_sign F S now = some (0, S2) ∧ MMr X S2 (i + 1) t (w :: B) ∧ LKr SC S2 c [] := by
  have n21 : xk X i ≠ -21 := by rcases hw with ⟨e, _⟩ | ⟨e, _⟩ <;> (rw [e]; decide)
  have n22 : xk X i ≠ -22 := by rcases hw with ⟨e, _⟩ | ⟨e, _⟩ <;> (rw [e]; decide)
  have n12 : xk X i ≠ -12 ∧ xk X i ≠ -13 := by rcases hw with ⟨e, _⟩ | ⟨e, _⟩ <;> (rw [e]; decide)
  obtain ⟨S1, q1, q2, q3⟩ : ∃ S1, fX11_settleOnes F S (if xk X i = wK 4 then 1 else 0) = some (0, S1) ∧ MMr X S1 i t B ∧ LKr SC S1 c [] := by
    rcases hw with ⟨e, _, b1, b2⟩ | ⟨e, _, b1, b2⟩
    · rw [if_pos (show xk X i = wK 4 from e)]
      exact ones_eq F (by omega) (fun w r hb => (b1 w r hb).imp id (fun g => ⟨z10, g⟩)) (fun w hw => ⟨(b2 w hw).1, fun _ => (b2 w hw).2⟩) h hL hc
    · rw [if_neg (by rw [e]; decide)]
      exact ones_eq F (by omega) (fun w r hb => Or.inl (b1 w r hb)) (fun w hw => ⟨b2 w hw, fun g => absurd rfl g⟩) h hL hc
  obtain ⟨S2, r1, r2, r3⟩ := hold_eq F q2 hl w
  obtain ⟨S3, u1, u2, u3⟩ := next_eq F hF r2 n21 n22
  refine ⟨S3, ?_, u2, u3 SC c [] (r3 SC c [] q3)⟩
  have e192 : fX11_sign_192 F S1 w = some (0, S3) := by
    unfold fX11_sign_192
    rw [r1, Option.bind_some, u1, Option.bind_some]
  have e167 : fX11_sign_167 F S = some (0, S3) := by
    unfold fX11_sign_167
    rw [isWd_eq F h.tk (w := 4) (by decide) (by decide), Option.bind_some]
    show (fX11_settleOnes F S (if xk X i = wK 4 then 1 else 0)).bind (fun q177 => if (if xk X i = wK 4 then (1 : Int32) else 0) = 0 then fX11_sign_192 F q177.2 21 else fX11_sign_192 F q177.2 22) = _
    rw [q1, Option.bind_some]
    rcases hw with ⟨e, e2, _⟩ | ⟨e, e2, _⟩
    · rw [if_pos (show xk X i = wK 4 from e), if_neg z10, ← e2, e192]
    · rw [if_neg (show ¬ xk X i = wK 4 by rw [e]; decide), if_pos rfl, ← e2, e192]
  rw [sg_142 F h hn (fun _ => n12)]
  unfold fX11_sign_142
  rw [if_neg (by rcases hn with e | e <;> (rw [e]; decide)), isWd_eq F h.tk (w := 4) (by decide) (by decide), Option.bind_some]
  rcases hw with ⟨e, _⟩ | ⟨e, _⟩
  · rw [if_pos (show xk X i = wK 4 from e), if_neg z10]
    exact e167
  · rw [if_neg (show ¬ xk X i = wK 4 by rw [e]; decide), if_pos rfl]
    show (fX11_isWord F S 28530).bind _ = _
    rw [isWd_eq F h.tk (w := 5) (by decide) (by decide), Option.bind_some, if_pos (show xk X i = wK 5 from e), if_neg z10]
    exact e167
theorem sg_201 (F : Nat) (h : MMr X S i t W) (hn : now = 4 ∨ now = 5) (hk : now = 4 → xk X i ≠ -12 ∧ xk X i ≠ -13) (h7 : xk X i ≠ -7) (h8 : xk X i ≠ -8) : fX11_sign F S now = fX11_sign_201 F S now := by
  rw [sg_142 F h hn hk]
  unfold fX11_sign_142
  rw [if_neg (by rcases hn with e | e <;> (rw [e]; decide)), isWd_eq F h.tk (w := 4) (by decide) (by decide), Option.bind_some, if_neg (show ¬ xk X i = wK 4 from h7), if_pos rfl]
  show (fX11_isWord F S 28530).bind _ = _
  rw [isWd_eq F h.tk (w := 5) (by decide) (by decide), Option.bind_some, if_neg (show ¬ xk X i = wK 5 from h8), if_pos rfl]
theorem sg_close (F : Nat) (hF : 1000 ≤ F) (hn : now = 4 ∨ now = 5) (hk : xk X i = -15) (hP : ∀ w, w ∈ P → w ≠ 28 ∧ ¬ w < 0) (h : MMr X S i t (P ++ 28 :: B)) (hL : LKr SC S c P) (hc : c ≤ 320) : ∃ S2, fX11_sign F S now = some (5, S2) ∧ MMr X S2 (i + 1) t B ∧ LKr SC S2 c [] := by
  obtain ⟨S1, q1, q2, q3⟩ := settle_eq F (by omega) (least := 0) (B := 28 :: B) (fun w r hb => by cases hb; exact Or.inl rfl) hP h hL hc
  obtain ⟨f1, g1, g2, g3, g4, g5, g6, g7⟩ := id q2
  have hd : ((28 : Int32) :: B).length = B.length + 1 := rfl
  have e5 : S1.1 0 29 - 1 = nI B.length := by rw [g5, hd, nI_pred]
  have e6 : S1.1 0 30 - 1 = nI (cntD B) := by rw [g6, cntD, if_pos (Or.inl rfl), nI_pred]
  have hM : MMr X (us (us S1 0 29 (nI B.length)) 0 30 (nI (cntD B))) i t B := ⟨(f1.us0 (by decide) _).us0 (by decide) _, g1, g2.fr rfl (fun j a1 a2 => by rw [us_nj (by omega), us_nj (by omega)]) rfl, g3, g4.2, rfl, rfl, by omega⟩
  obtain ⟨S3, u1, u2, u3⟩ := next_eq F hF hM (by rw [hk]; decide) (by rw [hk]; decide)
  refine ⟨S3, ?_, u2, u3 SC c [] q3⟩
  rw [sg_201 F h hn (fun _ => by rw [hk]; decide) (by rw [hk]; decide) (by rw [hk]; decide)]
  unfold fX11_sign_201
  rw [if_neg (by rcases hn with e | e <;> (rw [e]; decide)), h.sort, if_pos ((srt_cs _).2.2.2.2.2.1.mpr hk), isOpen_eq F (by omega) h, Option.bind_some, bI_T (List.mem_append_right _ List.mem_cons_self), if_neg z10]
  show (fX11_settle F S 0).bind _ = _
  rw [q1, Option.bind_some, bindS_eq, bindS_eq]
  show (fX11_next F (us (us S1 0 29 (S1.1 0 29 - 1)) 0 30 (S1.1 0 30 - 1))).bind _ = _
  rw [e5, e6, u1, Option.bind_some]
theorem sg_bad3 (F : Nat) (h : MMr X S i t W) (hk : xk X i ≠ -12 ∧ xk X i ≠ -13) (hc : xk X i ≠ -9 ∧ xk X i ≠ -10 ∧ xk X i ≠ -11) : fX11_sign F S 3 = some (3, flS S (rfC (xk X i)) (xq X i)) := by
  unfold fX11_sign fX11_sign_64 fX11_sign_142 fX11_sign_201
  have q := srt_cs (xk X i)
  rw [if_neg (by decide), h.sort, if_neg (fun g => hk.1 (q.1.mp g)), if_neg (fun g => hk.2 (q.2.1.mp g)), if_pos rfl, if_neg (fun g => hc.2.2 (q.2.2.1.mp g)), if_neg (fun g => hc.1 (q.2.2.2.1.mp g)), if_neg (fun g => hc.2.1 (q.2.2.2.2.1.mp g)), if_pos rfl, if_pos rfl, sg_253 F h]
theorem sg_bad45 (F : Nat) (hF : 100 ≤ F) (h : MMr X S i t W) (hn : now = 4 ∨ now = 5) (hk : now = 4 → xk X i ≠ -12 ∧ xk X i ≠ -13) (h7 : xk X i ≠ -7) (h8 : xk X i ≠ -8) (h15 : xk X i = -15 → 28 ∉ W) : fX11_sign F S now = some (now, flS S (rfC (xk X i)) (xq X i)) := by
  rw [sg_201 F h hn hk h7 h8]
  unfold fX11_sign_201
  rw [if_neg (by rcases hn with e | e <;> (rw [e]; decide)), h.sort]
  by_cases c : xk X i = -15
  · rw [if_pos ((srt_cs _).2.2.2.2.2.1.mpr c), isOpen_eq F hF h, Option.bind_some, bI_F (h15 c), if_pos rfl]
    exact sg_253 F h now
  · rw [if_neg (fun g => c ((srt_cs _).2.2.2.2.2.1.mp g)), sg_253 F h]
end RDS
