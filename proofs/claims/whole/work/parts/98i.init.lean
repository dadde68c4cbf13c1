theorem fit_no (y x : Nat) : ¬ Fit (fun _ => 0) y x 0 := fun h => by
  have h1 := h 0 0 (by decide)
  obtain ⟨_, _, _, _, h2⟩ := h1
  revert h2
  show (0 : Int32).toBitVec.getLsbD _ = true → False
  rw [show (0 : Int32).toBitVec = 0#32 from rfl, BitVec.getLsbD_zero]
  intro h2
  cases h2
theorem grow_no (y x : Nat) : ∀ n, growS (fun _ => 0) y x n (0, 0, 0) = (0, 0, 0)
  | 0 => rfl
  | n + 1 => by
    rw [growS, if_neg (fun h => fit_no y x h.2)]
theorem row_no (y : Nat) : ∀ n, rowS (fun _ => 0) y n (0, 0, 0) = (0, 0, 0)
  | 0 => rfl
  | n + 1 => by
    rw [rowS, row_no y n, grow_no]
theorem seek_no : ∀ n, seekS (fun _ => 0) n (0, 0, 0) = (0, 0, 0)
  | 0 => rfl
  | n + 1 => by
    rw [seekS, seek_no n, row_no]
theorem cent_no : centS (fun _ => 0) = (0, 0, 0) := seek_no 24
theorem bool_one : vp_nar .boolean 1 = 1 := by decide
theorem ven_0 : ∀ k, k < 6 → SC0.1 37 k = nI 10 ∧ SM0.1 23 k = nI 10 ∧ SC0.1 38 k = nI 0 ∧ SM0.1 24 k = nI 0 ∧ SC0.1 39 k = nI 1 ∧ SM0.1 25 k = nI 1 ∧ SC0.1 40 k = vp_nar .boolean 1 ∧ SM0.1 27 k = vp_nar .boolean 1
  | 0, _ => ⟨rfl, rfl, rfl, rfl, rfl, rfl, rfl, rfl⟩
  | 1, _ => ⟨rfl, rfl, rfl, rfl, rfl, rfl, rfl, rfl⟩
  | 2, _ => ⟨rfl, rfl, rfl, rfl, rfl, rfl, rfl, rfl⟩
  | 3, _ => ⟨rfl, rfl, rfl, rfl, rfl, rfl, rfl, rfl⟩
  | 4, _ => ⟨rfl, rfl, rfl, rfl, rfl, rfl, rfl, rfl⟩
  | 5, _ => ⟨rfl, rfl, rfl, rfl, rfl, rfl, rfl, rfl⟩
  | k + 6, h => by omega
theorem rel_0 : Rel SC0 SM0 := by
  have e1 : SM0.1 1 = fun _ => 0 := rfl
  have e12 : SC0.1 12 = fun _ => 0 := rfl
  refine ⟨⟨fun r _ => ⟨rfl, 0, by decide, rfl⟩, fun _ => ?_⟩, ⟨0, by decide, rfl, rfl, fun i hi => absurd hi (Nat.not_lt_zero _)⟩, ⟨rfl, rfl⟩, ⟨0, fun _ => 0, by decide, rfl, rfl, rfl, fun g hg => absurd hg (Nat.not_lt_zero _), by decide, fun g hg => absurd hg (Nat.not_lt_zero _), fun g hg => ?_, fun k hk => absurd hk (Nat.not_lt_zero _)⟩, ⟨0, fun _ => 0, by decide, rfl, rfl, fun i hi => absurd hi (Nat.not_lt_zero _), rfl, rfl, rfl, rfl, rfl, fun i hi => ?_⟩, ⟨⟨0, by decide, rfl, rfl⟩, 1, by decide, rfl, rfl⟩, fun h => absurd h z10, fun k hk => ?_, ⟨⟨0, by decide, rfl, rfl, fun i hi => absurd hi (Nat.not_lt_zero _)⟩, 1, 10, 1, 60, by decide, by decide, by decide, by decide, by decide, by decide, rfl, rfl, rfl, rfl, rfl, rfl, rfl, rfl⟩, fun h => absurd h z10⟩
  · rw [e1]
    unfold LogC
    rw [cent_no]
    exact ⟨by decide, fun h => absurd rfl h⟩
  · have : g = 0 := by omega
    rw [this]
    rfl
  · have : i = 0 := by omega
    rw [this]
    exact ⟨rfl, rfl, rfl, rfl, rfl⟩
  · obtain ⟨v1, v2, v3, v4, v5, v6, v7, v8⟩ := ven_0 k hk
    exact ⟨10, 0, 1, by decide, by decide, by decide, by decide, by decide, v1, v2, v3, v4, v5, v6, v7.trans v8.symm, Or.inr (v8.trans bool_one)⟩
