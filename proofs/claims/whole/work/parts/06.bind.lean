def bindS (S : ST) (k : ST → Option (Int32 × ST)) : Option (Int32 × ST) := k S
def bindI (x : Int32) (k : Int32 → Option (Int32 × ST)) : Option (Int32 × ST) := k x
theorem r_bindS {E : CT} {S : ST} {k : ST → Option (Int32 × ST)} {pc : Nat} {lv : List (Nat × Value)} {st : List Value} (h : ∀ S1, G E (k S1) S1 pc lv st) : G E (bindS S k) S pc lv st := h S
theorem r_bindI {E : CT} {S : ST} {x : Int32} {k : Int32 → Option (Int32 × ST)} {pc : Nat} {lv : List (Nat × Value)} {st : List Value} (h : ∀ y, G E (k y) S pc lv (.int y :: st)) : G E (bindI x k) S pc lv (.int x :: st) := h x
theorem ul_drop : (layM.drop 1).all (fun x => x.isRight) = true := by decide
theorem ul_set (ad : Nat → Nat) (S : ST) (v : Int64) (fl : List (Nat × Nat)) (h : layM[0]? = some (.inl (11, fl))) (hj : fl[13]? = some (2, 0)) (hc : (fl.mapIdx (fun i f => decide (i = 13) || decide (f.1 < 2))).all id = true) (cI cZ : ClassId) : (sW layM ad cI cZ S).set 0 (ad 0, .inr (11, (mapI (sF ad S 0) 0 fl).set 13 (.long v))) = sW layM ad cI cZ (ul S v) := by
  apply List.ext_getElem?
  intro i
  by_cases hi : i = 0
  · subst hi
    rw [List.getElem?_set_self (by rw [sW_len]; decide), sW_at h]
    have hL : (mapI (sF ad S 0) 0 fl).set 13 (.long v) = mapI (sF ad (ul S v) 0) 0 fl := by
      apply List.ext_getElem?
      intro q
      have hl := (List.getElem?_eq_some_iff.mp hj).1
      by_cases hq : q = 13
      · subst hq
        rw [List.getElem?_set_self (by rw [mapI_len]; exact hl), mapI_get0, hj]
        rfl
      · rw [List.getElem?_set_ne (Ne.symm hq), mapI_get0, mapI_get0]
        cases hf : fl[q]? with
        | none => rfl
        | some f =>
          have h3 : (fl.mapIdx (fun i f => decide (i = 13) || decide (f.1 < 2)))[q]? = some (decide (q = 13) || decide (f.1 < 2)) := by rw [List.getElem?_mapIdx, hf]; rfl
          have h4 := List.all_eq_true.mp hc _ (List.mem_of_getElem? h3)
          simp only [id, hq, decide_false, Bool.false_or, decide_eq_true_eq] at h4
          have h5 : f.1 = 0 ∨ f.1 = 1 := by omega
          rcases h5 with h5 | h5 <;> simp [sF, h5, ul]
    rw [hL]
    rfl
  · rw [List.getElem?_set_ne (Ne.symm hi)]
    cases hx : layM[i]? with
    | none => simp [sW, mapI_get0, hx]
    | some z =>
      rw [sW_at hx, sW_at hx]
      obtain ⟨i, rfl⟩ := Nat.exists_eq_succ_of_ne_zero hi
      have h6 : (layM.drop 1)[i]? = some z := by rw [List.getElem?_drop, Nat.add_comm]; exact hx
      have h7 := List.all_eq_true.mp ul_drop _ (List.mem_of_getElem? h6)
      cases z with
      | inl o => cases h7
      | inr a => rfl
theorem r_putL {E : CT} {f : Option (Int32 × ST)} {S : ST} {pc : Nat} {lv : List (Nat × Value)} {st : List Value} {cc : ByteArray} {own : String} {nL lev : Nat} {ret : Option FieldType} (X : Cx E layM cc own nL ret lev) {i : Nat} {v : Int64} (hF : pOK own i 11 13 .long) (d : decode cc pc = .ok (.putfield i, 3)) (kk : G E f (ul S v) (pc + 3) lv st) : G E f S pc lv (.long v :: .ref (eA E 0) :: st) := r_putV X hF lm_0 (by decide) rfl rfl (ul_set _ _ _ _ lm_0 rfl (by decide)) d kk
