theorem cp68 (F : Nat) {c : Nat} (hc : c ≤ 320) : ∀ (d f k : Nat) (S : ST), k + d = c → d < f → S.1 6 6 = nI c → ∃ S2, fX2_copyFrom_68 F f S (nI k) = some (0, S2) ∧ (∀ x, x ≠ 24 → S2.1 x = S.1 x) ∧ (∀ j, k ≤ j → j < c → S2.1 24 j = S.1 19 j) ∧ ∀ j, j < k → S2.1 24 j = S.1 24 j
  | 0, f + 1, k, S, h1, h2, h3 => by
    refine ⟨S, ?_, fun _ _ => rfl, fun j a b => by omega, fun _ _ => rfl⟩
    rw [fX2_copyFrom_68, h3, if_pos (nI_le (by omega) (by omega))]
  | d + 1, f + 1, k, S, h1, h2, h3 => by
    obtain ⟨S2, q1, q2, q3, q4⟩ := cp68 F hc d f (k + 1) (us S 24 k (S.1 19 k)) (by omega) (by omega) h3
    refine ⟨S2, ?_, fun x hx => by rw [q2 x hx, us_nx hx], fun j a b => ?_, fun j a => ?_⟩
    · rw [fX2_copyFrom_68, h3, if_neg (nI_ge (by omega) (by omega)), if_neg (show ¬ (320 : Int32) ≤ nI k from nI_ge (b := 320) (by omega) (by omega)), if_pos (vin_nI (by omega) (by omega)), if_pos (vin_nI (by omega) (by omega)), ix_nI (by omega), bindS_eq, nI_1]
      exact q1
    · by_cases e : j = k
      · rw [q4 j (by omega), e, us_rd, if_pos rfl, if_pos rfl]
      · rw [q3 j (by omega) b]
        rfl
    · rw [q4 j (by omega), us_nj (by omega)]
theorem cp18 (F : Nat) (hF : 1000 ≤ F) {c : Nat} (hc : c ≤ 320) : ∀ (d f k : Nat) (S : ST), k + d = 8 → d < f → S.1 6 6 = nI c → ∃ S2, fX2_copyFrom_18 F f S (nI k) = some (0, S2) ∧ (∀ x, x ≠ 21 → x ≠ 22 → x ≠ 23 → x ≠ 24 → S2.1 x = S.1 x) ∧ (∀ j, k ≤ j → j < 8 → S2.1 21 j = S.1 16 j ∧ S2.1 22 j = S.1 17 j ∧ S2.1 23 j = S.1 18 j) ∧ (∀ j, j < k → S2.1 21 j = S.1 21 j ∧ S2.1 22 j = S.1 22 j ∧ S2.1 23 j = S.1 23 j) ∧ ∀ j, j < c → S2.1 24 j = S.1 19 j
  | 0, f + 1, k, S, h1, h2, h3 => by
    obtain ⟨S2, q1, q2, q3, q4⟩ := cp68 F hc c F 0 S (by omega) (by omega) h3
    refine ⟨S2, ?_, fun x _ _ _ a => q2 x a, fun j a b => by omega, fun j a => ⟨by rw [q2 21 (by decide)], by rw [q2 22 (by decide)], by rw [q2 23 (by decide)]⟩, fun j a => q3 j (by omega) a⟩
    rw [fX2_copyFrom_18, if_pos (show (8 : Int32) ≤ nI k from nI_le (a := 8) (by omega) (by omega))]
    exact q1
  | d + 1, f + 1, k, S, h1, h2, h3 => by
    obtain ⟨S2, q1, q2, q3, q4, q5⟩ := cp18 F hF hc d f (k + 1) (us (us (us S 21 k (S.1 16 k)) 22 k (S.1 17 k)) 23 k (S.1 18 k)) (by omega) (by omega) h3
    refine ⟨S2, ?_, fun x a1 a2 a3 a4 => by rw [q2 x a1 a2 a3 a4, us_nx a3, us_nx a2, us_nx a1], fun j a b => ?_, fun j a => ?_, fun j a => q5 j a⟩
    · rw [fX2_copyFrom_18, if_neg (show ¬ (8 : Int32) ≤ nI k from nI_ge (b := 8) (by omega) (by omega)), if_pos (vin_nI (by omega) (by omega)), if_pos (vin_nI (by omega) (by omega)), ix_nI (by omega), bindS_eq, if_pos (vin_nI (by omega) (by omega)), if_pos (vin_nI (by omega) (by omega)), bindS_eq, if_pos (vin_nI (by omega) (by omega)), if_pos (vin_nI (by omega) (by omega)), bindS_eq, nI_1]
      exact q1
    · by_cases e : j = k
      · obtain ⟨y1, y2, y3⟩ := q4 j (by omega)
        rw [y1, y2, y3, e]
        refine ⟨?_, ?_, ?_⟩
        · show upd (S.1 21) k (S.1 16 k) k = _
          rw [upd_rd, if_pos rfl]
        · show upd (S.1 22) k (S.1 17 k) k = _
          rw [upd_rd, if_pos rfl]
        · show upd (S.1 23) k (S.1 18 k) k = _
          rw [upd_rd, if_pos rfl]
      · exact q3 j (by omega) b
    · obtain ⟨y1, y2, y3⟩ := q4 j (by omega)
      rw [y1, y2, y3]
      refine ⟨?_, ?_, ?_⟩
      · show upd (S.1 21) k (S.1 16 k) j = _
        rw [upd_rd, if_neg (by omega)]
      · show upd (S.1 22) k (S.1 17 k) j = _
        rw [upd_rd, if_neg (by omega)]
      · show upd (S.1 23) k (S.1 18 k) j = _
        rw [upd_rd, if_neg (by omega)]
theorem copy_eq (F : Nat) (hF : 1000 ≤ F) (S : ST) {g c : Nat} (hc : c ≤ 320) (h5 : S.1 5 5 = nI g) (h6 : S.1 5 6 = nI c) : ∃ S2, fX2_copyFrom F S = some (0, S2) ∧ (∀ x, x ∉ [6, 21, 22, 23, 24] → S2.1 x = S.1 x) ∧ S2.1 6 5 = nI g ∧ (∀ j, j < 8 → S2.1 21 j = S.1 16 j ∧ S2.1 22 j = S.1 17 j ∧ S2.1 23 j = S.1 18 j) ∧ ∀ j, j < c → S2.1 24 j = S.1 19 j := by
  obtain ⟨S2, q1, q2, q3, q4, q5⟩ := cp18 F hF hc 8 F 0 (us (us S 6 5 (nI g)) 6 6 (nI c)) (by omega) (by omega) rfl
  refine ⟨S2, ?_, fun x hx => ?_, ?_, fun j a => q3 j (by omega) a, q5⟩
  · unfold fX2_copyFrom
    rw [bindS_eq, bindS_eq]
    show fX2_copyFrom_18 F F (us (us S 6 5 (S.1 5 5)) 6 6 (S.1 5 6)) (nI 0) = _
    rw [h5, h6]
    exact q1
  · rw [q2 x (fun e => by rw [e] at hx; exact hx (by decide)) (fun e => by rw [e] at hx; exact hx (by decide)) (fun e => by rw [e] at hx; exact hx (by decide)) (fun e => by rw [e] at hx; exact hx (by decide)), us_nx (fun e => by rw [e] at hx; exact hx (by decide)), us_nx (fun e => by rw [e] at hx; exact hx (by decide))]
  · rw [q2 6 (by decide) (by decide) (by decide) (by decide)]
    rfl
theorem cm337 (F : Nat) {g : Nat} (hg : g ≤ 8) : ∀ (d f k : Nat) (S : ST), k + d = g + 1 → d < f → S.1 0 20 = nI g → ∃ S2, fX11_grades_337 F f S (nI k) = some (nI g, S2) ∧ (∀ x, x ≠ 0 → x ≠ 7 → S2.1 x = S.1 x) ∧ (∀ j, j ≠ 14 → S2.1 0 j = S.1 0 j) ∧ S2.1 0 14 = nI g ∧ (∀ j, k ≤ j → j ≤ g → S2.1 7 j = S.1 12 j) ∧ ∀ j, j < k → S2.1 7 j = S.1 7 j
  | 0, f + 1, k, S, h1, h2, h3 => by
    refine ⟨us S 0 14 (nI g), ?_, fun x a b => us_nx a, fun j a => us_nj a, rfl, fun j a b => by omega, fun j a => rfl⟩
    rw [fX11_grades_337, h3, if_pos (nI_lt (by omega) (by omega)), bindS_eq]
    rfl
  | d + 1, f + 1, k, S, h1, h2, h3 => by
    obtain ⟨S2, q1, q2, q3, q4, q5, q6⟩ := cm337 F hg d f (k + 1) (us S 7 k (S.1 12 k)) (by omega) (by omega) h3
    refine ⟨S2, ?_, fun x a b => by rw [q2 x a b, us_nx b], fun j a => q3 j a, q4, fun j a b => ?_, fun j a => ?_⟩
    · rw [fX11_grades_337, h3, if_neg (nI_nlt (by omega) (by omega)), if_pos (vin_nI (by omega) (by omega)), if_pos (vin_nI (by omega) (by omega)), ix_nI (by omega), bindS_eq, nI_1]
      exact q1
    · by_cases e : j = k
      · rw [q6 j (by omega), e, us_rd, if_pos rfl, if_pos rfl]
      · exact q5 j (by omega) b
    · rw [q6 j (by omega), us_nj (by omega)]
theorem cm297 (F : Nat) (hF : 1000 ≤ F) {g : Nat} (hg : g ≤ 8) : ∀ (d f k : Nat) (S : ST), k + d = g → d < f → S.1 0 20 = nI g → ∃ S2, fX11_grades_297 F f S (nI k) = some (nI g, S2) ∧ (∀ x, x ≠ 0 → x ≠ 7 → x ≠ 3 → x ≠ 4 → S2.1 x = S.1 x) ∧ (∀ j, j ≠ 14 → S2.1 0 j = S.1 0 j) ∧ S2.1 0 14 = nI g ∧ (∀ j, j ≤ g → S2.1 7 j = S.1 12 j) ∧ (∀ j, k ≤ j → j < g → S2.1 3 j = S.1 8 j ∧ S2.1 4 j = S.1 9 j) ∧ ∀ j, j < k → S2.1 3 j = S.1 3 j ∧ S2.1 4 j = S.1 4 j
  | 0, f + 1, k, S, h1, h2, h3 => by
    obtain ⟨S2, q1, q2, q3, q4, q5, q6⟩ := cm337 F hg (g + 1) F 0 S (by omega) (by omega) h3
    refine ⟨S2, ?_, fun x a b _ _ => q2 x a b, q3, q4, fun j a => q5 j (by omega) a, fun j a b => by omega, fun j a => ⟨by rw [q2 3 (by decide) (by decide)], by rw [q2 4 (by decide) (by decide)]⟩⟩
    rw [fX11_grades_297, h3, if_pos (nI_le (by omega) (by omega))]
    exact q1
  | d + 1, f + 1, k, S, h1, h2, h3 => by
    obtain ⟨S2, q1, q2, q3, q4, q5, q6, q7⟩ := cm297 F hF hg d f (k + 1) (us (us S 3 k (S.1 8 k)) 4 k (S.1 9 k)) (by omega) (by omega) h3
    refine ⟨S2, ?_, fun x a b c d => by rw [q2 x a b c d, us_nx d, us_nx c], fun j a => q3 j a, q4, fun j a => q5 j a, fun j a b => ?_, fun j a => ?_⟩
    · rw [fX11_grades_297, h3, if_neg (nI_ge (by omega) (by omega)), if_pos (vin_nI (by omega) (by omega)), if_pos (vin_nI (by omega) (by omega)), ix_nI (by omega), bindS_eq, if_pos (vin_nI (by omega) (by omega)), if_pos (vin_nI (by omega) (by omega)), bindS_eq, nI_1]
      exact q1
    · by_cases e : j = k
      · obtain ⟨y1, y2⟩ := q7 j (by omega)
        rw [y1, y2, e]
        refine ⟨?_, ?_⟩
        · show upd (S.1 3) k (S.1 8 k) k = _
          rw [upd_rd, if_pos rfl]
        · show upd (S.1 4) k (S.1 9 k) k = _
          rw [upd_rd, if_pos rfl]
      · exact q6 j (by omega) b
    · obtain ⟨y1, y2⟩ := q7 j (by omega)
      rw [y1, y2]
      refine ⟨?_, ?_⟩
      · show upd (S.1 3) k (S.1 8 k) j = _
        rw [upd_rd, if_neg (by omega)]
      · show upd (S.1 4) k (S.1 9 k) j = _
        rw [upd_rd, if_neg (by omega)]
theorem cm257 (F : Nat) (hF : 1000 ≤ F) {g c : Nat} (hg : g ≤ 8) (hc : c ≤ 320) : ∀ (d f k : Nat) (S : ST), k + d = c → d < f → S.1 0 20 = nI g → S.1 0 21 = nI c → ∃ S2, fX11_grades_257 F f S (nI k) = some (nI g, S2) ∧ (∀ x, x ∉ [0, 3, 4, 5, 6, 7] → S2.1 x = S.1 x) ∧ (∀ j, j ≠ 14 → S2.1 0 j = S.1 0 j) ∧ S2.1 0 14 = nI g ∧ (∀ j, j ≤ g → S2.1 7 j = S.1 12 j) ∧ (∀ j, j < g → S2.1 3 j = S.1 8 j ∧ S2.1 4 j = S.1 9 j) ∧ (∀ j, k ≤ j → j < c → S2.1 5 j = S.1 10 j ∧ S2.1 6 j = S.1 11 j) ∧ ∀ j, j < k → S2.1 5 j = S.1 5 j ∧ S2.1 6 j = S.1 6 j
  | 0, f + 1, k, S, h1, h2, h3, h4 => by
    obtain ⟨S2, q1, q2, q3, q4, q5, q6, q7⟩ := cm297 F hF hg g F 0 S (by omega) (by omega) h3
    refine ⟨S2, ?_, fun x hx => q2 x (fun e => by rw [e] at hx; exact hx (by decide)) (fun e => by rw [e] at hx; exact hx (by decide)) (fun e => by rw [e] at hx; exact hx (by decide)) (fun e => by rw [e] at hx; exact hx (by decide)), q3, q4, q5, fun j a => q6 j (by omega) a, fun j a b => by omega, fun j a => ⟨by rw [q2 5 (by decide) (by decide) (by decide) (by decide)], by rw [q2 6 (by decide) (by decide) (by decide) (by decide)]⟩⟩
    rw [fX11_grades_257, h4, if_pos (nI_le (by omega) (by omega))]
    exact q1
  | d + 1, f + 1, k, S, h1, h2, h3, h4 => by
    obtain ⟨S2, q1, q2, q3, q4, q5, q6, q7, q8⟩ := cm257 F hF hg hc d f (k + 1) (us (us S 5 k (S.1 10 k)) 6 k (S.1 11 k)) (by omega) (by omega) h3 h4
    refine ⟨S2, ?_, fun x hx => by rw [q2 x hx, us_nx (fun e => by rw [e] at hx; exact hx (by decide)), us_nx (fun e => by rw [e] at hx; exact hx (by decide))], fun j a => q3 j a, q4, fun j a => q5 j a, fun j a => q6 j a, fun j a b => ?_, fun j a => ?_⟩
    · rw [fX11_grades_257, h4, if_neg (nI_ge (by omega) (by omega)), if_pos (vin_nI (by omega) (by omega)), if_pos (vin_nI (by omega) (by omega)), ix_nI (by omega), bindS_eq, if_pos (vin_nI (by omega) (by omega)), if_pos (vin_nI (by omega) (by omega)), bindS_eq, nI_1]
      exact q1
    · by_cases e : j = k
      · obtain ⟨y1, y2⟩ := q8 j (by omega)
        rw [y1, y2, e]
        refine ⟨?_, ?_⟩
        · show upd (S.1 5) k (S.1 10 k) k = _
          rw [upd_rd, if_pos rfl]
        · show upd (S.1 6) k (S.1 11 k) k = _
          rw [upd_rd, if_pos rfl]
      · exact q7 j (by omega) b
    · obtain ⟨y1, y2⟩ := q8 j (by omega)
      rw [y1, y2]
      refine ⟨?_, ?_⟩
      · show upd (S.1 5) k (S.1 10 k) j = _
        rw [upd_rd, if_neg (by omega)]
      · show upd (S.1 6) k (S.1 11 k) j = _
        rw [upd_rd, if_neg (by omega)]
theorem gr233_eq (F : Nat) (hF : 1000 ≤ F) (S : ST) {g c : Nat} (hg : g ≤ 8) (hc : c ≤ 320) (h6 : S.1 0 6 = 0) (h20 : S.1 0 20 = nI g) (h21 : S.1 0 21 = nI c) : ∃ S2, fX11_grades_233 F S = some (nI g, S2) ∧ (∀ x, x ∉ [0, 3, 4, 5, 6, 7, 12] → S2.1 x = S.1 x) ∧ (∀ j, j ≠ 14 → S2.1 0 j = S.1 0 j) ∧ S2.1 0 14 = nI g ∧ (∀ j, j < g → S2.1 7 j = S.1 12 j) ∧ S2.1 7 g = nI c ∧ (∀ j, j < g → S2.1 3 j = S.1 8 j ∧ S2.1 4 j = S.1 9 j) ∧ ∀ j, j < c → S2.1 5 j = S.1 10 j ∧ S2.1 6 j = S.1 11 j := by
  obtain ⟨S2, q1, q2, q3, q4, q5, q6, q7, q8⟩ := cm257 F hF hg hc c F 0 (us S 12 g (nI c)) (by omega) (by omega) h20 h21
  refine ⟨S2, ?_, fun x hx => ?_, fun j a => q3 j a, q4, fun j a => ?_, ?_, fun j a => q6 j a, fun j a => q7 j (by omega) a⟩
  · unfold fX11_grades_233
    rw [h6, if_pos (Int32.le_refl _), h20, if_pos (vin_nI (by omega) (by omega)), ix_nI (by omega), bindS_eq, h21]
    exact q1
  · rw [q2 x (fun hm => hx (by
      revert hm
      simp only [List.mem_cons, List.not_mem_nil, or_false]
      omega)), us_nx (fun e => by rw [e] at hx; exact hx (by decide))]
  · rw [q5 j (by omega), us_nj (by omega)]
  · rw [q5 g (by omega), us_rd, if_pos rfl, if_pos rfl]
