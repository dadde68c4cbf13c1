def wCN : List Nat := [444300616805, 512970880104, 2003330414, 7237492, 6385252, 28530, 461414298739, 126926692381811, 448545973619, 482855970675, 7501166]
def wKs : List Int32 := [-17, -18, -19, -6, -7, -8, -1, -2, -3, -4, -5]
def wK (w : Nat) : Int32 := wKs.getD w 0
def wX (w : Nat) : Nat := wCN.getD w 0
theorem wX_pk : ∀ w, w < 11 → wX w = pkF (wCh w) (wLen w) := by decide
theorem wX_inj : ∀ w, w < 11 → ∀ v, v < 11 → wX w = wX v → w = v := by decide
theorem wX_lt : ∀ w, w < 11 → wX w < 18446744073709551616 := by decide
theorem wK_inj : ∀ w, w < 11 → ∀ v, v < 11 → wK w = wK v → w = v := by decide
theorem wK_o : ∀ w, w < 11 → wK w ≠ -20 := by decide
def srt (k : Int32) : Int32 := if k = -22 then 0 else if k = -21 then 3 else if 0 ≤ k then 2 else if k = -9 then 60 else if k = -10 then 62 else if k = -11 then 61 else if k = -12 then 43 else if k = -13 then 45 else if k = -14 then 40 else if k = -15 then 41 else if k = -16 then 59 else 1
def TkR (S : ST) (k : Int32) : Prop := S.1 0 10 = srt k ∧ (0 ≤ k → S.1 0 12 = k) ∧ (srt k = 1 → ∀ w, w < 11 → (S.2 = w64 (wX w) ↔ k = wK w))
def KD (k : Int32) : Prop := (∃ m, m < 10000 ∧ k = nI m) ∨ ∃ j, j < 22 ∧ k = -1 - nI j
section TOKN
variable {b : Nat → Nat} {n : Nat}
theorem wd_bd {p k : Nat} (hl : ∀ j, j < k → 97 ≤ b (p + j) ∧ b (p + j) ≤ 122) {w : Nat} (hw : w < 11) : eqW b w p k ↔ pkF (fun j => b (p + j)) k = wX w := by
  rw [wX_pk w hw]
  constructor
  · rintro ⟨h1, h2⟩
    rw [← h1]
    exact pkF_congr k h2
  · intro h
    have hl2 := wLen_le w hw
    have e1 : pkF (fun j => b (p + j)) k = pkF (fun j => max 1 (min (b (p + j)) 122)) k := pkF_congr k (fun j hj => by
      have := hl j hj
      show b (p + j) = max 1 (min (b (p + j)) 122)
      omega)
    have e2 : pkF (wCh w) (wLen w) = pkF (fun j => if j < 6 then wCh w j else 97) (wLen w) := pkF_congr _ (fun j hj => by
      show wCh w j = if j < 6 then wCh w j else 97
      rw [if_pos (by omega)])
    rw [e1, e2] at h
    obtain ⟨h3, h4⟩ := pkF_inj (fun j => ⟨by omega, by omega⟩) (fun j => by
      show 1 ≤ (if j < 6 then wCh w j else 97) ∧ (if j < 6 then wCh w j else 97) < 256
      by_cases c : j < 6
      · rw [if_pos c]; exact wCh_b w hw j c
      · rw [if_neg c]; omega) _ _ h
    refine ⟨h3, fun j hj => ?_⟩
    have h5 := h4 j hj
    have h6 := hl j hj
    have h7 : max 1 (min (b (p + j)) 122) = if j < 6 then wCh w j else 97 := h5
    rw [if_pos (by omega)] at h7
    omega
theorem wKind_or {p k : Nat} : wKind b p k = -20 ∧ (∀ w, w < 11 → ¬ eqW b w p k) ∨ ∃ w, w < 11 ∧ eqW b w p k ∧ wKind b p k = wK w := by
  unfold wKind
  by_cases h0 : eqW b 0 p k
  · exact Or.inr ⟨0, by decide, h0, iP_T h0⟩
  rw [iP_F h0]
  by_cases h1 : eqW b 1 p k
  · exact Or.inr ⟨1, by decide, h1, iP_T h1⟩
  rw [iP_F h1]
  by_cases h2 : eqW b 2 p k
  · exact Or.inr ⟨2, by decide, h2, iP_T h2⟩
  rw [iP_F h2]
  by_cases h3 : eqW b 3 p k
  · exact Or.inr ⟨3, by decide, h3, iP_T h3⟩
  rw [iP_F h3]
  by_cases h4 : eqW b 4 p k
  · exact Or.inr ⟨4, by decide, h4, iP_T h4⟩
  rw [iP_F h4]
  by_cases h5 : eqW b 5 p k
  · exact Or.inr ⟨5, by decide, h5, iP_T h5⟩
  rw [iP_F h5]
  by_cases h6 : eqW b 6 p k
  · exact Or.inr ⟨6, by decide, h6, iP_T h6⟩
  rw [iP_F h6]
  by_cases h7 : eqW b 7 p k
  · exact Or.inr ⟨7, by decide, h7, iP_T h7⟩
  rw [iP_F h7]
  by_cases h8 : eqW b 8 p k
  · exact Or.inr ⟨8, by decide, h8, iP_T h8⟩
  rw [iP_F h8]
  by_cases h9 : eqW b 9 p k
  · exact Or.inr ⟨9, by decide, h9, iP_T h9⟩
  rw [iP_F h9]
  by_cases h10 : eqW b 10 p k
  · exact Or.inr ⟨10, by decide, h10, iP_T h10⟩
  rw [iP_F h10]
  refine Or.inl ⟨rfl, fun w hw => ?_⟩
  match w, hw with
  | 0, _ => exact h0
  | 1, _ => exact h1
  | 2, _ => exact h2
  | 3, _ => exact h3
  | 4, _ => exact h4
  | 5, _ => exact h5
  | 6, _ => exact h6
  | 7, _ => exact h7
  | 8, _ => exact h8
  | 9, _ => exact h9
  | 10, _ => exact h10
theorem wKind_iff {p k : Nat} (hl : ∀ j, j < k → 97 ≤ b (p + j) ∧ b (p + j) ≤ 122) {w : Nat} (hw : w < 11) : wKind b p k = wK w ↔ eqW b w p k := by
  rcases wKind_or (b := b) (p := p) (k := k) with ⟨h1, h2⟩ | ⟨v, h1, h2, h3⟩
  · rw [h1]
    exact ⟨fun h => absurd h.symm (wK_o w hw), fun h => absurd h (h2 w hw)⟩
  · rw [h3]
    constructor
    · intro h
      rw [← wK_inj v h1 w hw h]
      exact h2
    · intro h
      rw [wd_bd hl hw] at h
      rw [wd_bd hl h1] at h2
      rw [wX_inj v h1 w hw (h2.symm.trans h)]
theorem wK_srt : ∀ w, w < 11 → srt (wK w) = 1 ∧ ¬ (0 : Int32) ≤ wK w ∧ ∃ j, j < 22 ∧ wK w = -1 - nI j := by decide
theorem wKind_srt {p k : Nat} : srt (wKind b p k) = 1 ∧ ¬ (0 : Int32) ≤ wKind b p k ∧ KD (wKind b p k) := by
  rcases wKind_or (b := b) (p := p) (k := k) with ⟨h1, _⟩ | ⟨v, h1, _, h3⟩
  · rw [h1]
    exact ⟨by decide, by decide, Or.inr ⟨19, by decide, by decide⟩⟩
  · rw [h3]
    have := wK_srt v h1
    exact ⟨this.1, this.2.1, Or.inr this.2.2⟩
theorem nvN_lt {p : Nat} : ∀ (k : Nat), (∀ j, j < k → 48 ≤ b (p + j) ∧ b (p + j) ≤ 57) → nvN b p k < 10 ^ k
  | 0, _ => by show 0 < 1; decide
  | k + 1, h => by
    have h1 := nvN_lt k (fun j hj => h j (by omega))
    have h2 := h k (by omega)
    rw [nvN, Nat.pow_succ]
    omega
theorem nvN_b {p k : Nat} (hk : k ≤ 4) (h : ∀ j, j < k → 48 ≤ b (p + j) ∧ b (p + j) ≤ 57) : nvN b p k < 10000 := by
  have h1 := nvN_lt (b := b) (p := p) k h
  have h2 : 10 ^ k ≤ 10 ^ 4 := Nat.pow_le_pow_right (by omega) hk
  have h3 : (10 : Nat) ^ 4 = 10000 := by decide
  omega
theorem srt_num {m : Nat} (hm : m < 10000) : srt (nI m) = 2 ∧ (0 : Int32) ≤ nI m := by
  have h0 : (0 : Int32) ≤ nI m := nI_pos' (by omega)
  have e := i_lit (n := m) (by omega)
  refine ⟨?_, h0⟩
  unfold srt
  rw [if_neg (by rw [i_eq, e]; have : (-22 : Int32).toInt = -22 := by decide
                 omega), if_neg (by rw [i_eq, e]; have : (-21 : Int32).toInt = -21 := by decide
                                    omega), if_pos h0]
theorem sgnK_KD (c : Nat) : (c = 40 ∨ c = 41 ∨ c = 43 ∨ c = 45 ∨ c = 59 ∨ c = 60 ∨ c = 61 ∨ c = 62) ∧ srt (sgnK c) = nI c ∧ ¬ (0 : Int32) ≤ sgnK c ∧ KD (sgnK c) ∧ sgnK c ≠ -21 ∨ ¬ (c = 40 ∨ c = 41 ∨ c = 43 ∨ c = 45 ∨ c = 59 ∨ c = 60 ∨ c = 61 ∨ c = 62) ∧ sgnK c = -21 := by
  by_cases h : c = 40 ∨ c = 41 ∨ c = 43 ∨ c = 45 ∨ c = 59 ∨ c = 60 ∨ c = 61 ∨ c = 62
  · refine Or.inl ⟨h, ?_⟩
    rcases h with rfl | rfl | rfl | rfl | rfl | rfl | rfl | rfl
    · exact ⟨by decide, by decide, Or.inr ⟨13, by decide, by decide⟩, by decide⟩
    · exact ⟨by decide, by decide, Or.inr ⟨14, by decide, by decide⟩, by decide⟩
    · exact ⟨by decide, by decide, Or.inr ⟨11, by decide, by decide⟩, by decide⟩
    · exact ⟨by decide, by decide, Or.inr ⟨12, by decide, by decide⟩, by decide⟩
    · exact ⟨by decide, by decide, Or.inr ⟨15, by decide, by decide⟩, by decide⟩
    · exact ⟨by decide, by decide, Or.inr ⟨8, by decide, by decide⟩, by decide⟩
    · exact ⟨by decide, by decide, Or.inr ⟨10, by decide, by decide⟩, by decide⟩
    · exact ⟨by decide, by decide, Or.inr ⟨9, by decide, by decide⟩, by decide⟩
  · refine Or.inr ⟨h, ?_⟩
    unfold sgnK
    rw [if_neg (by omega), if_neg (by omega), if_neg (by omega), if_neg (by omega), if_neg (by omega), if_neg (by omega), if_neg (by omega), if_neg (by omega)]
theorem isSign_eq (F : Nat) (S : ST) {c : Nat} (hc : c < 256) : fX11_isSign F S (nI c) = some (if c = 40 ∨ c = 41 ∨ c = 43 ∨ c = 45 ∨ c = 59 ∨ c = 60 ∨ c = 61 ∨ c = 62 then 1 else 0, S) := by
  have key : ∀ m : Nat, m < 256 → (nI c = nI m ↔ c = m) := fun m hm => nI_eq (by omega) (by omega)
  by_cases h : c = 40 ∨ c = 41 ∨ c = 43 ∨ c = 45 ∨ c = 59 ∨ c = 60 ∨ c = 61 ∨ c = 62
  · rcases h with rfl | rfl | rfl | rfl | rfl | rfl | rfl | rfl <;> rfl
  · unfold fX11_isSign
    rw [if_neg h, if_neg (show ¬ nI c = 59 from fun e => by have := (key 59 (by omega)).mp e; omega), if_neg (show ¬ nI c = 40 from fun e => by have := (key 40 (by omega)).mp e; omega), if_neg (show ¬ nI c = 41 from fun e => by have := (key 41 (by omega)).mp e; omega), if_neg (show ¬ nI c = 60 from fun e => by have := (key 60 (by omega)).mp e; omega), if_neg (show ¬ nI c = 62 from fun e => by have := (key 62 (by omega)).mp e; omega), if_neg (show ¬ nI c = 61 from fun e => by have := (key 61 (by omega)).mp e; omega), if_neg (show ¬ nI c = 43 from fun e => by have := (key 43 (by omega)).mp e; omega), if_neg (show ¬ nI c = 45 from fun e => by have := (key 45 (by omega)).mp e; omega)]
noncomputable def kQ (b : Nat → Nat) (n q : Nat) : Int32 := if q < n then kindS b n q else -22
def stQ (b : Nat → Nat) (n q : Nat) : Nat := if q < n then stopS b n q else n
def nxO (b : Nat → Nat) (n p : Nat) (S S2 : ST) : Prop := frN S S2 ∧ S2.1 0 11 = nI p ∧ TkR S2 (kQ b n p) ∧ (kQ b n p ≠ -21 → S2.1 0 8 = nI (stQ b n p))
theorem next_tk (F : Nat) (hF : 1000 ≤ F) (S : ST) {p : Nat} (hp : p ≤ n) (hT : TPM S b n) (h8 : S.1 0 8 = nI p) (h11 : S.1 0 11 = nI p) (hw : S.2 = 0) (h12 : S.1 0 12 = 0) : ∃ S2, (if 0 ≤ bA b n p then
        ((fX11_isLetter F S (bA b n p)).bind (fun q72 => if q72.1 = 0 then
          ((fX11_isDigit F q72.2 (bA b n p)).bind (fun q138 => if q138.1 = 0 then
            ((fX11_isSign F q138.2 (bA b n p)).bind (fun q218 => if q218.1 = 0 then
              (fX11_next_229 F q218.2 (1 : Int32) (3 : Int32))
            else
              (fX11_next_229 F q218.2 (1 : Int32) (bA b n p))))
          else
            (fX11_next_144 F F q138.2 (0 : Int32))))
        else
          (fX11_next_78 F F q72.2 (0 : Int32))))
      else
        (bindS (us S 0 10 (0 : Int32)) (fun S65 => fX11_next_232 F S65 (0 : Int32)))) = some (0, S2) ∧ nxO b n p S S2 := by
  have hn := hT.1
  by_cases c : p = n
  · have e : bA b n p = -1 := by unfold bA; rw [if_neg (by omega)]
    rw [e, if_neg (by decide), bindS_eq]
    obtain ⟨S2, q1, q2, q3, q4, q5, q6, q7⟩ := nx232 F (us S 0 10 0) 0
    refine ⟨S2, q1, (frN_us S (Or.inr (Or.inl rfl)) 0).tr q2, by rw [q5]; exact h11, ?_, fun _ => ?_⟩
    · unfold kQ
      rw [if_neg (by omega)]
      exact ⟨q4, fun h => absurd h (by decide), fun h => absurd h (by decide)⟩
    · rw [q7 (show ¬ (0 : Int32) = 3 by decide)]
      unfold stQ
      rw [if_neg (by omega)]
      show S.1 0 8 + 0 = _
      rw [h8, c, Int32.add_zero]
  · have hp2 : p < n := by omega
    have hb := hT.byt p hp2
    have e : bA b n p = nI (b p) := by unfold bA; rw [if_pos hp2]
    have ek : kQ b n p = kindS b n p := by unfold kQ; rw [if_pos hp2]
    have es : stQ b n p = stopS b n p := by unfold stQ; rw [if_pos hp2]
    unfold nxO
    rw [if_pos (show (0 : Int32) ≤ bA b n p by rw [e]; exact nI_pos' (by omega)), isLM F S hT.byt p, Option.bind_some, ek, es]
    cases hl : ltB b n p with
    | true =>
      have hnd : dgB b n p = false := by
        cases hd : dgB b n p with
        | false => rfl
        | true => rw [not_dl hd] at hl; cases hl
      have hle := enT_le n (ltB b n) (p := p) hp
      have hge := enT_ge n (ltB b n) p
      rw [if_neg flT]
      obtain ⟨S2, q1, q2, q3, q4, q5, q6⟩ := nx78 F hp2 hl (enT n (ltB b n) p - p) F 0 S (by omega) (by omega) hT h8 (by rw [hw]; rfl)
      refine ⟨S2, q1, q2, by rw [q5]; exact h11, ?_, ?_⟩
      · unfold kindS
        rw [hnd, if_neg (by decide), hl, if_pos rfl]
        by_cases c8 : enT n (ltB b n) p - p ≤ 8
        · rw [if_pos c8] at q4 ⊢
          rw [Nat.min_eq_left c8] at q3
          have hin : ∀ j, j < enT n (ltB b n) p - p → 97 ≤ b (p + j) ∧ b (p + j) ≤ 122 := fun j hj => lt_in (b := b) (n := n) (p := p) (by omega) (by omega)
          have hk := wKind_srt (b := b) (p := p) (k := enT n (ltB b n) p - p)
          refine ⟨by rw [q4, hk.1], fun h => absurd h hk.2.1, fun _ w hw2 => ?_⟩
          rw [q3, wKind_iff hin hw2, wd_bd hin hw2]
          constructor
          · intro h
            refine w64_inj ?_ (wX_lt w hw2) h
            have h3 : pkF (fun j => b (p + j)) (enT n (ltB b n) p - p) = pkF (fun j => min (b (p + j)) 122) (enT n (ltB b n) p - p) := pkF_congr _ (fun j hj => by have := hin j hj; show b (p + j) = min (b (p + j)) 122; omega)
            rw [h3]
            have h4 := (pkF_lt (f := fun j => min (b (p + j)) 122) (fun j => by show min (b (p + j)) 122 < 123; omega) (enT n (ltB b n) p - p)).1
            have h5 : 256 ^ (enT n (ltB b n) p - p) ≤ 256 ^ 8 := Nat.pow_le_pow_right (by omega) (by omega)
            have h6 : (256 : Nat) ^ 8 = 18446744073709551616 := by decide
            omega
          · intro h
            rw [h]
        · rw [if_neg c8] at q4 ⊢
          exact ⟨by rw [q4]; decide, fun h => absurd h (by decide), fun h => absurd h (by decide)⟩
      · unfold kindS stopS
        rw [hnd, hl, if_neg (show ¬ false = true by decide), if_neg (show ¬ false = true by decide), if_pos rfl, if_pos rfl]
        intro h
        by_cases c8 : enT n (ltB b n) p - p ≤ 8
        · exact q6 c8
        · rw [if_neg c8] at h
          exact absurd rfl h
    | false =>
      rw [if_pos flF]
      show ∃ S2, (fX11_isDigit F S (bA b n p)).bind _ = _ ∧ _
      rw [isDM F S hT.byt p, Option.bind_some]
      cases hd : dgB b n p with
      | true =>
        have hle := enT_le n (dgB b n) (p := p) hp
        have hge := enT_ge n (dgB b n) p
        rw [if_neg flT]
        obtain ⟨S2, q1, q2, q3, q4, q5, q6⟩ := nx144 F hp2 (enT n (dgB b n) p - p) F 0 S (by omega) (by omega) hT h8 (by rw [h12]; rfl)
        refine ⟨S2, q1, q2, by rw [q5]; exact h11, ?_, ?_⟩
        · unfold kindS
          rw [hd, if_pos rfl]
          by_cases c4 : 4 < enT n (dgB b n) p - p ∨ ltB b n (enT n (dgB b n) p) = true
          · rw [if_pos c4] at q4 ⊢
            exact ⟨by rw [q4]; decide, fun h => absurd h (by decide), fun h => absurd h (by decide)⟩
          · rw [if_neg c4] at q4 ⊢
            have c5 : enT n (dgB b n) p - p ≤ 4 := by
              rcases Nat.lt_or_ge 4 (enT n (dgB b n) p - p) with h | h
              · exact absurd (Or.inl h) c4
              · exact h
            rw [Nat.min_eq_left c5] at q3
            have hm := nvN_b (b := b) (p := p) c5 (fun j hj => dg_in (b := b) (n := n) (p := p) (by omega) (by omega))
            have hs := srt_num hm
            exact ⟨by rw [q4, hs.1], fun _ => q3, fun h => by rw [hs.1] at h; cases h⟩
        · unfold kindS stopS
          rw [hd, if_pos rfl, if_pos rfl]
          intro h
          by_cases c4 : 4 < enT n (dgB b n) p - p ∨ ltB b n (enT n (dgB b n) p) = true
          · rw [if_pos c4] at h
            exact absurd rfl h
          · exact q6 c4
      | false =>
        rw [if_pos flF]
        show ∃ S2, (fX11_isSign F S (bA b n p)).bind _ = _ ∧ _
        unfold kindS stopS
        rw [hd, hl, if_neg (show ¬ false = true by decide), if_neg (show ¬ false = true by decide), if_neg (show ¬ false = true by decide), if_neg (show ¬ false = true by decide), e, isSign_eq F S hb, Option.bind_some]
        rcases sgnK_KD (b p) with ⟨g1, g2, g3, g4, g5⟩ | ⟨g1, g2⟩
        · rw [if_pos g1]
          show ∃ S2, (if (1 : Int32) = 0 then fX11_next_229 F S 1 3 else fX11_next_229 F S 1 (nI (b p))) = _ ∧ _
          rw [if_neg z10]
          unfold fX11_next_229
          rw [bindS_eq]
          obtain ⟨S2, q1, q2, q3, q4, q5, q6, q7⟩ := nx232 F (us S 0 10 (nI (b p))) 1
          refine ⟨S2, q1, (frN_us S (Or.inr (Or.inl rfl)) _).tr q2, by rw [q5]; exact h11, ⟨by rw [q4, g2]; rfl, fun h => absurd h g3, fun h => ?_⟩, fun _ => ?_⟩
          · rw [g2] at h
            have := (nI_eq (a := b p) (b := 1) (by omega) (by omega)).mp h
            omega
          · rw [q7 (show ¬ nI (b p) = 3 from fun h => by have := (nI_eq (a := b p) (b := 3) (by omega) (by omega)).mp h; omega)]
            show S.1 0 8 + 1 = _
            rw [h8, nI_1]
        · rw [if_neg g1]
          show ∃ S2, (if (0 : Int32) = 0 then fX11_next_229 F S 1 3 else fX11_next_229 F S 1 (nI (b p))) = _ ∧ _
          rw [if_pos rfl]
          unfold fX11_next_229
          rw [bindS_eq, g2]
          obtain ⟨S2, q1, q2, q3, q4, q5, q6, q7⟩ := nx232 F (us S 0 10 3) 1
          exact ⟨S2, q1, (frN_us S (Or.inr (Or.inl rfl)) _).tr q2, by rw [q5]; exact h11, ⟨by rw [q4]; rfl, fun h => absurd h (by decide), fun h => absurd h (by decide)⟩, fun h => absurd rfl h⟩
theorem next_lp (F : Nat) (hF : 1000 ≤ F) : ∀ (d f p : Nat) (S : ST), n - p ≤ d → p ≤ n → d < f → TPM S b n → S.1 0 8 = nI p → ∃ S2, fX11_next_0 F f S = some (0, S2) ∧ nxO b n (nxtS b n p) S S2
  | d, 0, p, S, h1, h2, h3, _, _ => by omega
  | d, f + 1, p, S, h1, h2, h3, hT, h8 => by
    have hn := hT.1
    rw [fX11_next_0]
    have hh := here_eq F S hT h8 (k := 0) (by omega)
    rw [show fX11_here F S 0 = some (bA b n p, S) from hh, Option.bind_some]
    cases hbl : blB b n p with
    | true =>
      have hp : p < n := bl_n b n hbl
      have hbb : b p = 32 ∨ b p = 10 := by
        unfold blB at hbl
        rw [decide_eq_true_eq] at hbl
        exact hbl.2
      have e : bA b n p = nI (b p) := by unfold bA; rw [if_pos hp]
      have en : nxtS b n p = nxtS b n (p + 1) := by unfold nxtS; exact enT_y n hp hbl
      have e20 : fX11_next_20 F (fX11_next_0 F f) S = fX11_next_0 F f (us S 0 8 (nI (p + 1))) := by
        unfold fX11_next_20
        rw [bindS_eq, h8, nI_1]
      have hfr := frN_us S (Or.inl rfl) (j := 8) (nI (p + 1))
      obtain ⟨S2, q1, q2, q3, q4, q5⟩ := next_lp F hF (d - 1) f (p + 1) (us S 0 8 (nI (p + 1))) (by omega) (by omega) (by omega) (hT.fr hfr) rfl
      refine ⟨S2, ?_, by rw [en]; exact ⟨hfr.tr q2, q3, q4, q5⟩⟩
      rcases hbb with h | h
      · rw [e, h, if_pos (show nI 32 = 32 from rfl), e20]
        exact q1
      · rw [e, h, if_neg (show ¬ nI 10 = 32 by decide)]
        show (fX11_here F S 0).bind _ = _
        rw [show fX11_here F S 0 = some (bA b n p, S) from hh, Option.bind_some, e, h, if_pos (show nI 10 = 10 from rfl), e20]
        exact q1
    | false =>
      have en : nxtS b n p = p := by unfold nxtS; exact enT_n n hbl
      rw [en]
      have h32 : ¬ bA b n p = 32 ∧ ¬ bA b n p = 10 := by
        unfold bA
        by_cases hp : p < n
        · have hb := hT.byt p hp
          have : ¬ (b p = 32 ∨ b p = 10) := fun h => by
            have h2 : blB b n p = true := decide_eq_true ⟨hp, h⟩
            rw [h2] at hbl
            cases hbl
          rw [if_pos hp]
          exact ⟨fun h => this (Or.inl ((nI_eq (b := 32) (by omega) (by omega)).mp h)), fun h => this (Or.inr ((nI_eq (b := 10) (by omega) (by omega)).mp h))⟩
        · rw [if_neg hp]
          decide
      rw [if_neg h32.1]
      show ∃ S2, (fX11_here F S 0).bind _ = _ ∧ _
      rw [show fX11_here F S 0 = some (bA b n p, S) from hh, Option.bind_some, if_neg h32.2, bindS_eq]
      show ∃ S2, (fX11_here F (us S 0 11 (S.1 0 8)) 0).bind _ = _ ∧ _
      have hf1 := frN_us S (Or.inr (Or.inr (Or.inl rfl))) (j := 11) (S.1 0 8)
      have hh2 := here_eq F (us S 0 11 (S.1 0 8)) (hT.fr hf1) (p := p) h8 (k := 0) (by omega)
      rw [show fX11_here F (us S 0 11 (S.1 0 8)) 0 = some (bA b n p, us S 0 11 (S.1 0 8)) from hh2, Option.bind_some, bindS_eq, bindS_eq]
      have hf2 := (hf1.tr (frN_ul _ 0)).tr (frN_us (ul (us S 0 11 (S.1 0 8)) 0) (Or.inr (Or.inr (Or.inr rfl))) (j := 12) 0)
      obtain ⟨S2, q1, q2, q3, q4, q5⟩ := next_tk F hF (us (ul (us S 0 11 (S.1 0 8)) 0) 0 12 0) h2 (hT.fr hf2) h8 h8 rfl rfl
      exact ⟨S2, q1, hf2.tr q2, q3, q4, q5⟩
theorem kd_KD (i : Nat) : KD (kdS b n i) := by
  unfold kdS
  by_cases h : tqS b n i < n
  · rw [if_pos h]
    have hp := h
    generalize tqS b n i = p at hp
    have hle := enT_le n (dgB b n) (p := p) (by omega)
    have hge := enT_ge n (dgB b n) p
    unfold kindS
    by_cases hd : dgB b n p = true
    · rw [if_pos hd]
      by_cases c4 : 4 < enT n (dgB b n) p - p ∨ ltB b n (enT n (dgB b n) p) = true
      · rw [if_pos c4]
        exact Or.inr ⟨20, by decide, by decide⟩
      · rw [if_neg c4]
        refine Or.inl ⟨_, nvN_b (b := b) (p := p) ?_ (fun j hj => dg_in (b := b) (n := n) (p := p) (by omega) (by omega)), rfl⟩
        rcases Nat.lt_or_ge 4 (enT n (dgB b n) p - p) with h | h
        · exact absurd (Or.inl h) c4
        · exact h
    · rw [if_neg hd]
      by_cases hl : ltB b n p = true
      · rw [if_pos hl]
        by_cases c8 : enT n (ltB b n) p - p ≤ 8
        · rw [if_pos c8]
          exact wKind_srt.2.2
        · rw [if_neg c8]
          exact Or.inr ⟨20, by decide, by decide⟩
      · rw [if_neg hl]
        rcases sgnK_KD (b p) with ⟨_, _, _, g4, _⟩ | ⟨_, g2⟩
        · exact g4
        · rw [g2]
          exact Or.inr ⟨20, by decide, by decide⟩
  · rw [if_neg h]
    exact Or.inr ⟨21, by decide, by decide⟩
theorem kind_ne (p : Nat) : kindS b n p ≠ -22 := by
  unfold kindS
  by_cases hd : dgB b n p = true
  · rw [if_pos hd]
    by_cases c4 : 4 < enT n (dgB b n) p - p ∨ ltB b n (enT n (dgB b n) p) = true
    · rw [if_pos c4]; decide
    · rw [if_neg c4]
      have c5 : enT n (dgB b n) p - p ≤ 4 := by
        rcases Nat.lt_or_ge 4 (enT n (dgB b n) p - p) with h | h
        · exact absurd (Or.inl h) c4
        · exact h
      have hm := nvN_b (b := b) (p := p) c5 (fun j hj => dg_in (b := b) (n := n) (p := p) (by omega) (by omega))
      intro h
      have := srt_num hm
      rw [h] at this
      exact absurd this.2 (by decide)
  · rw [if_neg hd]
    by_cases hl : ltB b n p = true
    · rw [if_pos hl]
      by_cases c8 : enT n (ltB b n) p - p ≤ 8
      · rw [if_pos c8]
        intro h
        have := (wKind_srt (b := b) (p := p) (k := enT n (ltB b n) p - p)).1
        rw [h] at this
        exact absurd this (by decide)
      · rw [if_neg c8]; decide
    · rw [if_neg hl]
      rcases sgnK_KD (b p) with ⟨_, g2, g3, _, _⟩ | ⟨_, g2⟩
      · intro h
        unfold sgnK at h
        revert h
        repeat' split
        all_goals decide
      · rw [g2]; decide
theorem kd_end {i : Nat} : kdS b n i = -22 ↔ ¬ tqS b n i < n := by
  unfold kdS
  by_cases h : tqS b n i < n
  · rw [if_pos h]
    exact ⟨fun g => absurd g (kind_ne _), fun g => absurd h g⟩
  · rw [if_neg h]
    exact ⟨fun _ => h, fun _ => rfl⟩
theorem kd_not {i : Nat} (h : kdS b n i = -6) : tqS b n i + 3 ≤ tqS b n (i + 1) := by
  unfold kdS at h
  by_cases hp : tqS b n i < n
  · rw [if_pos hp] at h
    rw [tqS, if_pos hp]
    have hnx := enT_ge n (blB b n) (stopS b n (tqS b n i))
    suffices tqS b n i + 3 ≤ stopS b n (tqS b n i) by
      unfold nxtS
      omega
    generalize tqS b n i = p at h hp
    unfold kindS at h
    unfold stopS
    by_cases hd : dgB b n p = true
    · rw [if_pos hd] at h
      by_cases c4 : 4 < enT n (dgB b n) p - p ∨ ltB b n (enT n (dgB b n) p) = true
      · rw [if_pos c4] at h
        exact absurd h (by decide)
      · rw [if_neg c4] at h
        have hle := enT_le n (dgB b n) (p := p) (by omega)
        have c5 : enT n (dgB b n) p - p ≤ 4 := by
          rcases Nat.lt_or_ge 4 (enT n (dgB b n) p - p) with h | h
          · exact absurd (Or.inl h) c4
          · exact h
        have hm := nvN_b (b := b) (p := p) c5 (fun j hj => dg_in (b := b) (n := n) (p := p) (by omega) (by omega))
        have := srt_num hm
        rw [h] at this
        exact absurd this.2 (by decide)
    · rw [if_neg hd] at h ⊢
      by_cases hl : ltB b n p = true
      · rw [if_pos hl] at h ⊢
        by_cases c8 : enT n (ltB b n) p - p ≤ 8
        · rw [if_pos c8] at h
          have hle := enT_le n (ltB b n) (p := p) (by omega)
          have hge := enT_ge n (ltB b n) p
          have hin : ∀ j, j < enT n (ltB b n) p - p → 97 ≤ b (p + j) ∧ b (p + j) ≤ 122 := fun j hj => lt_in (b := b) (n := n) (p := p) (by omega) (by omega)
          have h2 := (wKind_iff (b := b) hin (w := 3) (by decide)).mp h
          have h3 := h2.1
          have h4 : wLen 3 = 3 := by decide
          omega
        · rw [if_neg c8] at h
          exact absurd h (by decide)
      · rw [if_neg hl] at h
        exfalso
        unfold sgnK at h
        revert h
        repeat' split
        all_goals decide
  · rw [if_neg hp] at h
    exact absurd h (by decide)
end TOKN
