theorem str_start {args : Array Value} {s : State} (hts : ∀ w ∈ lw_tbl, w.before args s = true) (hgv : (Jvm.Cond.and given_1 narrow_1).before args s = true) : ∃ adK adV : Nat → Nat, ∀ (lay : List LE) (ad : Nat → Nat), (∀ i, i < 11 → ad (100 + i) = adK i ∧ ad (200 + i) = adV i) → (∀ q, aW lay ad q → s.heap.size ≤ q) → sOK lay ad s s.heap := by
  have hs := flat_of_before _ hgv
  obtain ⟨adK, adV, h1, h2⟩ := vk_Sof (args := args) (s := s) (N := 11) (tm := tmS) (len := stLen) (byt := stByt) (A := fun q : Nat => s.heap.size ≤ q) (fun i hi => stLen_lt i hi) (fun i hi => hs _ (fn_ex i hi)) (fun i hi => hs _ (fn_co i hi)) (fun i hi => hs _ (fn_ar i hi)) (fun i hi => hs _ (fn_le i hi)) (fun i hi j hj => hs _ (fn_el i hi j hj)) (fun i j hi hj hij => (fn_ne i hi j hj hij).imp (fun h => hs _ h) (fun h => hs _ h)) (fun a ha => Nat.not_le.mpr ha)
  refine ⟨adK, adV, fun lay ad had hf => ⟨?_, ?_, ?_, ?_⟩⟩
  · have h3 := h1.narrow (B := aW lay ad) hf
    refine ⟨fun i hi => ?_, fun i j hi hj hij => ?_⟩
    · have h4 := h3.1 i hi
      rw [← (had i hi).1, ← (had i hi).2] at h4
      exact h4
    · refine h3.2 i j hi hj ?_
      rw [← (had i hi).1, ← (had j hj).1]
      exact hij
  · exact va_Zof (hts _ ls_cs) (hts _ li_st) (va_eqi (hs _ fn_cs)) (fun a ha h => absurd (hf a h) (Nat.not_le.mpr ha))
  · intro i q hq
    have hi : i < 11 := (List.getElem?_eq_some_iff.mp hq).1
    have e : tmS i = .string "PlyHouse$Tokens" q.1 := by
      have : stTab.getD i (0, "") = q := by rw [List.getD_eq_getElem?_getD, hq]; rfl
      rw [tmS, this]
    have h5 := h2 i hi
    rw [e] at h5
    rw [(had i hi).1]
    exact vk_R.of (A := args) (hts _ (sr_all i q hq)) h5
  · have h6 := hs _ fn_fo
    cases hv : (Term.static "jdk/internal/util/Preconditions" "SIOOBE_FORMATTER" "Ljava/util/function/BiFunction;").eval args s none [] s with
    | none => simp [Cond.before, Cond.holds, Cond.value, hv] at h6
    | some v =>
      refine ⟨v, ?_, va_Zof (hts _ ls_fo) (hts _ li_pr) hv (fun a ha h => absurd (hf a h) (Nat.not_le.mpr ha))⟩
      cases v <;> first | rfl | (simp [Cond.before, Cond.holds, Cond.value, hv] at h6)
theorem arr_start {args : Array Value} {s : State} {ty : FieldType} (h : (Cond.arrayClass ty).before args s = true) (hty : ty = .int ∨ ty = .boolean) : ∃ cA : ClassId, ArrOfT s cA ty ∧ va_RA s cA ty := by
  obtain ⟨cA, kA, comp, h1, h2, h3⟩ := Cond.arrayClass_spec h
  refine ⟨cA, fun n z => ⟨fun k h => (by cases h), kA, h2, comp, h3⟩, ?_⟩
  rcases hty with rfl | rfl <;> exact h1
set_option maxHeartbeats 4000000 in
set_option maxRecDepth 100000 in
theorem whole_of {Rel : ST → ST → Prop} (h0 : Rel SC0 SM0) (h_net : ∀ (x1 x2 : Int32), Sim Rel (fun S => fX10_net FU S x1 x2) (fun S => fX11_net FU S x1 x2)) (h_centre : ∀ (x1 : Int32), Sim Rel (fun S => fX10_centre FU S x1) (fun S => fX11_centre FU S x1)) (h_full : ∀ (x1 x2 : Int32), Sim Rel (fun S => fX10_full FU S x1 x2) (fun S => fX11_full FU S x1 x2)) (h_feed : ∀ (x1 x2 x3 x4 x5 : Int32), Sim Rel (fun S => fX10_feed FU S x1 x2 x3 x4 x5) (fun S => fX11_feed FU S x1 x2 x3 x4 x5)) (h_end : ∀ (x1 : Int32), Sim Rel (fun S => fX10_end FU S x1) (fun S => fX11_end FU S x1)) (h_grades : Sim Rel (fun S => fX10_grades FU S) (fun S => fX11_grades FU S)) (h_fault : ∀ (x1 : Int32), Sim Rel (fun S => fX10_fault FU S x1) (fun S => fX11_fault FU S x1)) (h_leaf : Sim Rel (fun S => fX10_leaf FU S) (fun S => fX11_leaf FU S)) (h_patch : ∀ (x1 x2 : Int32), Sim Rel (fun S => fX10_patch FU S x1 x2) (fun S => fX11_patch FU S x1 x2)) (h_sheet : ∀ (x1 x2 x3 : Int32), Sim Rel (fun S => fX10_sheet FU S x1 x2 x3) (fun S => fX11_sheet FU S x1 x2 x3)) (h_worth : Sim Rel (fun S => fX10_worth FU S) (fun S => fX11_worth FU S)) (h_sheets : Sim Rel (fun S => fX10_sheets FU S) (fun S => fX11_sheets FU S)) (h_clipped : ∀ (x1 x2 : Int32), Sim Rel (fun S => fX10_clipped FU S x1 x2) (fun S => fX11_clipped FU S x1 x2)) (h_veneer : ∀ (x1 x2 x3 x4 x5 : Int32), x5 &&& 1 = x5 → Sim Rel (fun S => fX10_veneer FU S x1 x2 x3 x4 x5) (fun S => fX11_veneer FU S x1 x2 x3 x4 x5)) (h_board : ∀ (x1 x2 x3 : Int32), Sim Rel (fun S => fX10_board FU S x1 x2 x3) (fun S => fX11_board FU S x1 x2 x3)) (h_warp : ∀ (x1 x2 : Int32), Sim Rel (fun S => fX10_warp FU S x1 x2) (fun S => fX11_warp FU S x1 x2)) (h_best : ∀ (x1 x2 x3 : Int32), Sim Rel (fun S => fX10_best FU S x1 x2 x3) (fun S => fX11_best FU S x1 x2 x3)) (h_press : ∀ (x1 x2 x3 x4 : Int32), Sim Rel (fun S => fX10_press FU S x1 x2 x3 x4) (fun S => fX11_press FU S x1 x2 x3 x4)) (h_glue : ∀ (x1 x2 : Int32), Sim Rel (fun S => fX10_glue FU S x1 x2) (fun S => fX11_glue FU S x1 x2)) (h_drop : Sim Rel (fun S => fX10_drop FU S) (fun S => fX11_drop FU S)) (h_plan : ∀ (x1 : Int32), Sim Rel (fun S => fX10_plan FU S x1) (fun S => fX11_plan FU S x1)) (h_load : ∀ (x1 x2 : Int32), Sim Rel (fun S => fX10_load FU S x1 x2) (fun S => fX11_load FU S x1 x2)) (h_about : ∀ (x1 : Int32), Sim Rel (fun S => fX10_about FU S x1) (fun S => fX11_about FU S x1)) {p : Program} {e : Env} {s : State} {m : MethodId} {below : List Frame} {meth : Method} {c : Code} (l : Launch) {b L : Nat} {xs : Nat → Int32} (hL : L ≤ 3072) (C0 : lw_At p s m meth c b L xs) : W p l e room_1 s m #[Value.ref b] below meth c s.heap [] 0 0 (lw_Z below #[Value.ref b] s) (entryFrame m ([Value.ref b] : List Value).toArray 4) := by
  obtain ⟨hx, hb, hr, hml, hown, hts0, hX, hbl, hlocks, hgv⟩ := C0
  have hts : ∀ w ∈ TG, w.before #[Value.ref b] s = true := fun w h => hts0 w (List.mem_filter.mp h).1
  have hN : ∀ w ∈ NW, va_Nw w s := fun w h => va_Nw.of (nw_tab h) (hts0 w (List.mem_filter.mp h).1)
  have hA : ∀ q : Nat, s.heap.size ≤ q → (fun q : Nat => s.heap.size ≤ q) q := fun _ h => h
  obtain ⟨adK, adV, hstr⟩ := str_start hts0 hgv
  obtain ⟨cI, hcI⟩ := arr_start (hts _ aw_int) (Or.inl rfl)
  obtain ⟨cZ, hcZ⟩ := arr_start (hts _ aw_boolean) (Or.inr rfl)
  obtain ⟨c0, iS0, hKn0⟩ := u_known (C := RX0) (T := TX0) (N := 12) (n := 12) hts cok_0.2.1 (hts _ iz_X0)
  obtain ⟨c1, iS1, hKn1⟩ := u_known (C := RX1) (T := TX1) (N := 6) (n := 6) hts cok_1.2.1 (hts _ iz_X1)
  obtain ⟨c2, iS2, hKn2⟩ := u_known (C := RX2) (T := TX2) (N := 8) (n := 8) hts cok_2.2.1 (hts _ iz_X2)
  obtain ⟨c3, iS3, hKn3⟩ := u_known (C := RX3) (T := TX3) (N := 6) (n := 6) hts cok_3.2.1 (hts _ iz_X3)
  obtain ⟨c4, iS4, hKn4⟩ := u_known (C := RX4) (T := TX4) (N := 5) (n := 5) hts cok_4.2.1 (hts _ iz_X4)
  obtain ⟨c5, iS5, hKn5⟩ := u_known (C := RX5) (T := TX5) (N := 9) (n := 9) hts cok_5.2.1 (hts _ iz_X5)
  obtain ⟨c6, iS6, hKn6⟩ := u_known (C := RX6) (T := TX6) (N := 16) (n := 16) hts cok_6.2.1 (hts _ iz_X6)
  obtain ⟨c7, iS7, hKn7⟩ := u_known (C := RX7) (T := TX7) (N := 2) (n := 2) hts cok_7.2.1 (hts _ iz_X7)
  obtain ⟨c8, iS8, hKn8⟩ := u_known (C := RX8) (T := TX8) (N := 3) (n := 3) hts cok_8.2.1 (hts _ iz_X8)
  obtain ⟨c9, iS9, hKn9⟩ := u_known (C := RX9) (T := TX9) (N := 9) (n := 9) hts cok_9.2.1 (hts _ iz_X9)
  obtain ⟨c10, iS10, hKn10⟩ := u_known (C := RX10) (T := TX10) (N := 10) (n := 10) hts cok_10.2.1 (hts _ iz_X10)
  obtain ⟨c11, iS11, hKn11⟩ := u_known (C := RX11) (T := TX11) (N := 61) (n := 61) hts cok_11.2.1 (hts _ iz_X11)
  obtain ⟨dC, dI, hKc⟩ : ∃ (dC : Nat → ClassId) (dI : Nat → Nat → Nat), ∀ (k : Nat) (q : vw_C), vwCl[k]? = some q → u_Kn s q.1 q.2.1 q.2.2 (dC k) (dI k) := by
    refine ⟨fun k => [c0, c1, c2, c3, c4, c5, c6, c7, c8, c9, c10, c11].getD k c0, fun k => [iS0, iS1, iS2, iS3, iS4, iS5, iS6, iS7, iS8, iS9, iS10, iS11].getD k iS0, ?_⟩
    intro k q hq
    match k, hq with
    | 0, hq => cases hq; exact hKn0
    | 1, hq => cases hq; exact hKn1
    | 2, hq => cases hq; exact hKn2
    | 3, hq => cases hq; exact hKn3
    | 4, hq => cases hq; exact hKn4
    | 5, hq => cases hq; exact hKn5
    | 6, hq => cases hq; exact hKn6
    | 7, hq => cases hq; exact hKn7
    | 8, hq => cases hq; exact hKn8
    | 9, hq => cases hq; exact hKn9
    | 10, hq => cases hq; exact hKn10
    | 11, hq => cases hq; exact hKn11
    | k + 12, hq => cases hq
  have hK : va_K (dC, dI) vwCl [(cI, .int), (cZ, .boolean)] s := by
    refine ⟨hKc, fun k q h => ?_⟩
    match k, h with
    | 0, h => cases h; exact hcI
    | 1, h => cases h; exact hcZ
    | k + 2, h => cases h
  have hS : va_S (fun q : Nat => s.heap.size ≤ q) s.heap s.heap [] := va_S.rf
  have hP : va_P (dC, dI) vwCl [] s.heap := fun k q h => by simp at h
  have hD : va_D (fun q : Nat => s.heap.size ≤ q) [] := ⟨fun i j p q h => by simp at h, fun k q h => by simp at h⟩
  have hl := lv_entry ([.ref b]) (n := 4) (Nat.le_of_ble_eq_true rfl)
  rw [lg_entry_eq]
  generalize (lg_sl ([.ref b]) ++ List.replicate (4 - (lg_sl ([.ref b])).length) Slot.unset).toArray = ls at hl ⊢
  have hl : lv_has ls 4 [(0, .ref b)] := hl
  refine va_new (ci := 10) (fs := [.null, .null, .null, .null, .null, .null, .null, .null, .int 0, .int 0]) (C := RX10) (T := TX10) (N := 10) hx hb hts cok_10.2.1 tyX10 cok_10.2.2.1 hown (hts _ lc_X10) (hts _ iw_X10) (hts _ nw_X10) hK hP hD hS hA rfl (by decide +kernel) (by decide) (by decide) dL_law_0 (fun q0 H hP hD hS => ?_)
  have hP : va_P (dC, dI) vwCl [(q0, .inr (10, [.null, .null, .null, .null, .null, .null, .null, .null, .int 0, .int 0]))] H := hP
  have hD : va_D (fun q : Nat => s.heap.size ≤ q) [(q0, .inr (10, [.null, .null, .null, .null, .null, .null, .null, .null, .int 0, .int 0]))] := hD
  refine lv_dup hx hb dL_law_3 rfl ?_
  have hFc := va_free (wc := [(q0, .inr (10, [.null, .null, .null, .null, .null, .null, .null, .null, .int 0, .int 0]))]) hD hS hA [0] rfl
  refine va_callv (va_runI (As := []) (rest := [.ref q0]) ⟨hx, hb, hml, hown, hts⟩ (nX10_init q0 l (dC, dI) cI cZ H.size) (cwI 0 hts (gi_code mi_X10_init.2.2.1) rfl rfl rfl (hts _ mi_X10_init.2.1) (hts _ lm_X10) (hts _ mi_X10_init.1) rfl mi_X10_init.2.2.2.2 ⟨by decide, by decide⟩) ⟨ipS_blind, fun U hU hW => ⟨rfl, by rw [hU], by rw [hU]; exact hP, va_K.moved hW.alike hK, fun w hw => nw_warm hw hW (hN w hw), hD.weaken (fun _ _ _ _ => trivial)⟩⟩ rfl rfl hl.1 rfl (lv_room (Nat.le_of_ble_eq_true rfl)) dL_law_4 ⟨by decide, by decide⟩) hS (fun q _ h => hFc q h) hFc (fun u t H1 locs ht hvm hw hB hz1 hk1 hS => ?_)
  obtain ⟨hP1, hD1⟩ := hB
  rw [ht] at hP1
  have hD1 := hD1.weaken (B := fun q : Nat => s.heap.size ≤ q) (fun _ q _ h => hFc q.1 h)
  have hP1 : va_P (dC, dI) vwCl (sW layC (adF q0 u) cI cZ SC0) H1 := hP1
  have hD1 : va_D (fun q : Nat => s.heap.size ≤ q) (sW layC (adF q0 u) cI cZ SC0) := hD1
  generalize hWc : sW layC (adF q0 u) cI cZ SC0 = wsC at hP1 hD1
  have hlen : wsC.length = 49 := by rw [← hWc, sW_len]; rfl
  refine lv_astore_n (lv' := [(1, .ref q0), (0, .ref b)]) hx hb dL_law_7 rfl hl (by decide) rfl (fun ls hl => ?_)
  refine va_new (ci := 11) (fs := (.null :: .int 0 :: .int 0 :: .int 0 :: .null :: .int 0 :: .int 0 :: .int 0 :: .int 0 :: .int 0 :: .int 0 :: .int 0 :: .int 0 :: .long 0 :: .int 0 :: .null :: .null :: .null :: .null :: .null :: .int 0 :: .int 0 :: .int 0 :: .null :: .null :: .null :: .null :: .null :: .null :: .int 0 :: .int 0 :: .null :: .int 0 :: .int 0 :: .int 0 :: .null :: .null :: .null :: .null :: .null :: .null :: .null :: .null :: .int 0 :: .null :: .null :: .null :: .null :: .null :: .int 0 :: .int 0 :: .int 0 :: .int 0 :: .int 0 :: .null :: .null :: .null :: .null :: .null :: .int 0 :: .int 0 :: [])) (C := RX11) (T := TX11) (N := 61) hx hb hts cok_11.2.1 tyX11 cok_11.2.2.1 hown (hts _ lc_X11) (hts _ iw_X11) (hts _ nw_X11) hK hP1 hD1 hS hA rfl (by decide +kernel) (by decide) (by decide) dL_law_8 (fun q8 H hP hD hS => ?_)
  refine lv_dup hx hb dL_law_11 rfl ?_
  have hat : (wsC ++ [(q8, (.inr (11, (.null :: .int 0 :: .int 0 :: .int 0 :: .null :: .int 0 :: .int 0 :: .int 0 :: .int 0 :: .int 0 :: .int 0 :: .int 0 :: .int 0 :: .long 0 :: .int 0 :: .null :: .null :: .null :: .null :: .null :: .int 0 :: .int 0 :: .int 0 :: .null :: .null :: .null :: .null :: .null :: .null :: .int 0 :: .int 0 :: .null :: .int 0 :: .int 0 :: .int 0 :: .null :: .null :: .null :: .null :: .null :: .null :: .null :: .null :: .int 0 :: .null :: .null :: .null :: .null :: .null :: .int 0 :: .int 0 :: .int 0 :: .int 0 :: .int 0 :: .null :: .null :: .null :: .null :: .null :: .int 0 :: .int 0 :: [])) : va_E))])[49]? = some (q8, .inr (11, (.null :: .int 0 :: .int 0 :: .int 0 :: .null :: .int 0 :: .int 0 :: .int 0 :: .int 0 :: .int 0 :: .int 0 :: .int 0 :: .int 0 :: .long 0 :: .int 0 :: .null :: .null :: .null :: .null :: .null :: .int 0 :: .int 0 :: .int 0 :: .null :: .null :: .null :: .null :: .null :: .null :: .int 0 :: .int 0 :: .null :: .int 0 :: .int 0 :: .int 0 :: .null :: .null :: .null :: .null :: .null :: .null :: .null :: .null :: .int 0 :: .null :: .null :: .null :: .null :: .null :: .int 0 :: .int 0 :: .int 0 :: .int 0 :: .int 0 :: .null :: .null :: .null :: .null :: .null :: .int 0 :: .int 0 :: []))) := by rw [List.getElem?_append_right (by omega), hlen]; rfl
  have hC0 : [49].map (fun i => (wsC ++ [(q8, (.inr (11, (.null :: .int 0 :: .int 0 :: .int 0 :: .null :: .int 0 :: .int 0 :: .int 0 :: .int 0 :: .int 0 :: .int 0 :: .int 0 :: .int 0 :: .long 0 :: .int 0 :: .null :: .null :: .null :: .null :: .null :: .int 0 :: .int 0 :: .int 0 :: .null :: .null :: .null :: .null :: .null :: .null :: .int 0 :: .int 0 :: .null :: .int 0 :: .int 0 :: .int 0 :: .null :: .null :: .null :: .null :: .null :: .null :: .null :: .null :: .int 0 :: .null :: .null :: .null :: .null :: .null :: .int 0 :: .int 0 :: .int 0 :: .int 0 :: .int 0 :: .null :: .null :: .null :: .null :: .null :: .int 0 :: .int 0 :: [])) : va_E))])[i]?) = [(q8, (.inr (11, (.null :: .int 0 :: .int 0 :: .int 0 :: .null :: .int 0 :: .int 0 :: .int 0 :: .int 0 :: .int 0 :: .int 0 :: .int 0 :: .int 0 :: .long 0 :: .int 0 :: .null :: .null :: .null :: .null :: .null :: .int 0 :: .int 0 :: .int 0 :: .null :: .null :: .null :: .null :: .null :: .null :: .int 0 :: .int 0 :: .null :: .int 0 :: .int 0 :: .int 0 :: .null :: .null :: .null :: .null :: .null :: .null :: .null :: .null :: .int 0 :: .null :: .null :: .null :: .null :: .null :: .int 0 :: .int 0 :: .int 0 :: .int 0 :: .int 0 :: .null :: .null :: .null :: .null :: .null :: .int 0 :: .int 0 :: [])) : va_E))].map some := by simp only [List.map_cons, List.map_nil, hat]
  have hPc := hP.sub (ws' := [(q8, .inr (11, (.null :: .int 0 :: .int 0 :: .int 0 :: .null :: .int 0 :: .int 0 :: .int 0 :: .int 0 :: .int 0 :: .int 0 :: .int 0 :: .int 0 :: .long 0 :: .int 0 :: .null :: .null :: .null :: .null :: .null :: .int 0 :: .int 0 :: .int 0 :: .null :: .null :: .null :: .null :: .null :: .null :: .int 0 :: .int 0 :: .null :: .int 0 :: .int 0 :: .int 0 :: .null :: .null :: .null :: .null :: .null :: .null :: .null :: .null :: .int 0 :: .null :: .null :: .null :: .null :: .null :: .int 0 :: .int 0 :: .int 0 :: .int 0 :: .int 0 :: .null :: .null :: .null :: .null :: .null :: .int 0 :: .int 0 :: [])))]) [49] (by simp only [List.filterMap_cons, List.filterMap_nil, hat])
  have hDc := hD.sub (ws' := [(q8, .inr (11, (.null :: .int 0 :: .int 0 :: .int 0 :: .null :: .int 0 :: .int 0 :: .int 0 :: .int 0 :: .int 0 :: .int 0 :: .int 0 :: .int 0 :: .long 0 :: .int 0 :: .null :: .null :: .null :: .null :: .null :: .int 0 :: .int 0 :: .int 0 :: .null :: .null :: .null :: .null :: .null :: .null :: .int 0 :: .int 0 :: .null :: .int 0 :: .int 0 :: .int 0 :: .null :: .null :: .null :: .null :: .null :: .null :: .null :: .null :: .int 0 :: .null :: .null :: .null :: .null :: .null :: .int 0 :: .int 0 :: .int 0 :: .int 0 :: .int 0 :: .null :: .null :: .null :: .null :: .null :: .int 0 :: .int 0 :: [])))]) [49] (by decide) hC0
  have hFc := va_free (wc := [(q8, .inr (11, (.null :: .int 0 :: .int 0 :: .int 0 :: .null :: .int 0 :: .int 0 :: .int 0 :: .int 0 :: .int 0 :: .int 0 :: .int 0 :: .int 0 :: .long 0 :: .int 0 :: .null :: .null :: .null :: .null :: .null :: .int 0 :: .int 0 :: .int 0 :: .null :: .null :: .null :: .null :: .null :: .null :: .int 0 :: .int 0 :: .null :: .int 0 :: .int 0 :: .int 0 :: .null :: .null :: .null :: .null :: .null :: .null :: .null :: .null :: .int 0 :: .null :: .null :: .null :: .null :: .null :: .int 0 :: .int 0 :: .int 0 :: .int 0 :: .int 0 :: .null :: .null :: .null :: .null :: .null :: .int 0 :: .int 0 :: [])))]) hD hS hA [49] hC0
  refine va_callv (va_runI (As := []) (rest := [.ref q8]) ⟨hx, hb, hml, hown, hts⟩ (nX11_init q8 l (dC, dI) cI cZ H.size) (cwI 0 hts (gi_code mi_X11_init.2.2.1) rfl rfl rfl (hts _ mi_X11_init.2.1) (hts _ lm_X11) (hts _ mi_X11_init.1) rfl mi_X11_init.2.2.2.2 ⟨by decide, by decide⟩) ⟨ipS_blind, fun U hU hW => ⟨rfl, by rw [hU], by rw [hU]; exact hPc, va_K.moved hW.alike hK, fun w hw => nw_warm hw hW (hN w hw), hDc.weaken (fun _ _ _ _ => trivial)⟩⟩ rfl rfl hl.1 rfl (lv_room (Nat.le_of_ble_eq_true rfl)) dL_law_12 ⟨by decide, by decide⟩) hS (fun q _ h => hFc q h) hFc (fun u2 t H2 locs ht hvm hw hB hz1 hk1 hS => ?_)
  obtain ⟨hP2, hD2⟩ := hB
  rw [ht] at hP2
  have hR0 : (List.range 49).map (fun i => (wsC ++ [(q8, (.inr (11, (.null :: .int 0 :: .int 0 :: .int 0 :: .null :: .int 0 :: .int 0 :: .int 0 :: .int 0 :: .int 0 :: .int 0 :: .int 0 :: .int 0 :: .long 0 :: .int 0 :: .null :: .null :: .null :: .null :: .null :: .int 0 :: .int 0 :: .int 0 :: .null :: .null :: .null :: .null :: .null :: .null :: .int 0 :: .int 0 :: .null :: .int 0 :: .int 0 :: .int 0 :: .null :: .null :: .null :: .null :: .null :: .null :: .null :: .null :: .int 0 :: .null :: .null :: .null :: .null :: .null :: .int 0 :: .int 0 :: .int 0 :: .int 0 :: .int 0 :: .null :: .null :: .null :: .null :: .null :: .int 0 :: .int 0 :: [])) : va_E))])[i]?) = wsC.map some := by
    apply List.ext_getElem?
    intro i
    rw [List.getElem?_map, List.getElem?_map]
    by_cases hi : i < 49
    · rw [List.getElem?_range hi, Option.map_some, List.getElem?_append_left (by omega), List.getElem?_eq_getElem (by omega)]
      rfl
    · rw [List.getElem?_eq_none (by simp; omega), List.getElem?_eq_none (by omega)]
      rfl
  obtain ⟨hPJ, hDJ⟩ := va_join (wr := wsC) (w1 := sW layM (adF q8 u2) cI cZ SM0) hP hD [49] (List.range 49) hC0 hR0 (by decide) (by decide) hk1 hFc hP2 hD2
  refine lv_astore_n (lv' := [(2, .ref q8), (1, .ref q0), (0, .ref b)]) hx hb dL_law_15 rfl hl (by decide) rfl (fun ls hl => ?_)
  refine lv_iconst (v := 0) hx hb dL_law_16 (by decide) ?_
  refine lv_istore_n (lv' := [(3, .int 0), (2, .ref q8), (1, .ref q0), (0, .ref b)]) hx hb dL_law_17 rfl hl (by decide) rfl (fun ls hl => ?_)
  obtain ⟨adC, eAC⟩ : ∃ f : Nat → Nat, f = fun k => if k < 49 then adF q0 u k else if k < 200 then adK (k - 100) else adV (k - 200) := ⟨_, rfl⟩
  obtain ⟨adM, eAM⟩ : ∃ f : Nat → Nat, f = fun k => if k < 33 then adF q8 u2 k else if k < 200 then adK (k - 100) else adV (k - 200) := ⟨_, rfl⟩
  have sC : ∀ S : ST, sW layC adC cI cZ S = sW layC (adF q0 u) cI cZ S := fun S => sW_ad (by decide) (fun k hk => by rw [eAC]; exact if_pos hk)
  have sM : ∀ S : ST, sW layM adM cI cZ S = sW layM (adF q8 u2) cI cZ S := fun S => sW_ad (by decide) (fun k hk => by rw [eAM]; exact if_pos hk)
  have hPC : va_P (dC, dI) vwCl (sW layC adC cI cZ SC0) H2 := by
    rw [sC, hWc]
    exact fun k q hk => hPJ k q (by rw [List.getElem?_append_left (List.getElem?_eq_some_iff.mp hk).1]; exact hk)
  have hPM : va_P (dC, dI) vwCl (sW layM adM cI cZ SM0) H2 := by
    rw [sM]
    exact fun k q hk => hPJ (wsC.length + k) q (by rw [List.getElem?_append_right (by omega), Nat.add_sub_cancel_left]; exact hk)
  have gC : ∀ k, k < 49 → ∃ e2, (wsC ++ sW layM (adF q8 u2) cI cZ SM0)[k]? = some (adC k, e2) := fun k hk => by
    obtain ⟨x, hx2⟩ : ∃ x, layC[k]? = some x := ⟨layC[k], List.getElem?_eq_getElem hk⟩
    refine ⟨sE adC cI cZ SC0 k x, ?_⟩
    rw [List.getElem?_append_left (by omega), ← hWc, ← sC, sW_at hx2]
  have gM : ∀ k, k < 33 → ∃ e2, (wsC ++ sW layM (adF q8 u2) cI cZ SM0)[49 + k]? = some (adM k, e2) := fun k hk => by
    obtain ⟨x, hx2⟩ : ∃ x, layM[k]? = some x := ⟨layM[k], List.getElem?_eq_getElem hk⟩
    refine ⟨sE adM cI cZ SM0 k x, ?_⟩
    rw [List.getElem?_append_right (by omega), hlen, Nat.add_sub_cancel_left, ← sM, sW_at hx2]
  have jC : injW layC adC := fun i j hi hj hij => by
    obtain ⟨e1, h1⟩ := gC i hi
    obtain ⟨e2, h2⟩ := gC j hj
    exact hDJ.1 i j _ _ h1 h2 hij
  have jM : injW layM adM := fun i j hi hj hij => by
    obtain ⟨e1, h1⟩ := gM i hi
    obtain ⟨e2, h2⟩ := gM j hj
    have := hDJ.1 _ _ _ _ h1 h2 hij
    omega
  have dj : ∀ q, aW layC adC q → ¬ aW layM adM q := by
    rintro q ⟨i, hi, rfl⟩ ⟨j, hj, hij⟩
    obtain ⟨e1, h1⟩ := gC i hi
    obtain ⟨e2, h2⟩ := gM j hj
    have := hDJ.1 _ _ _ _ h1 h2 hij.symm
    have hi2 : i < 49 := hi
    omega
  have fC : ∀ q, aW layC adC q → s.heap.size ≤ q := by
    rintro q ⟨i, hi, rfl⟩
    obtain ⟨e1, h1⟩ := gC i hi
    exact hDJ.2 _ _ h1
  have fM : ∀ q, aW layM adM q → s.heap.size ≤ q := by
    rintro q ⟨i, hi, rfl⟩
    obtain ⟨e1, h1⟩ := gM i hi
    exact hDJ.2 _ _ h1
  have kC : ∀ i, i < 11 → adC (100 + i) = adK i ∧ adC (200 + i) = adV i := fun i hi => by
    rw [eAC]
    constructor
    · show (if 100 + i < 49 then _ else if 100 + i < 200 then adK (100 + i - 100) else _) = _
      rw [if_neg (by omega), if_pos (by omega), Nat.add_sub_cancel_left]
    · show (if 200 + i < 49 then _ else if 200 + i < 200 then _ else adV (200 + i - 200)) = _
      rw [if_neg (by omega), if_neg (by omega), Nat.add_sub_cancel_left]
  have kM : ∀ i, i < 11 → adM (100 + i) = adK i ∧ adM (200 + i) = adV i := fun i hi => by
    rw [eAM]
    constructor
    · show (if 100 + i < 33 then _ else if 100 + i < 200 then adK (100 + i - 100) else _) = _
      rw [if_neg (by omega), if_pos (by omega), Nat.add_sub_cancel_left]
    · show (if 200 + i < 33 then _ else if 200 + i < 200 then _ else adV (200 + i - 200)) = _
      rw [if_neg (by omega), if_neg (by omega), Nat.add_sub_cancel_left]
  have X : CLw (p, l, e, s, m, below, meth, c, b, L, xs, (dC, dI), adC, adM, cI, cZ) := ⟨hx, hb, hml, hown, hts, hK, hN, hstr layC adC kC fC, hstr layM adM kM fM, jC, jM, dj, fC, fM, hX, hbl, hlocks, hr⟩
  have e0 : adC 0 = q0 := by rw [eAC]; rfl
  have e8 : adM 0 = q8 := by rw [eAM]; rfl
  have hl : lv_has ls c.maxLocals [(0, .ref b), (1, .ref (adC 0)), (2, .ref (adM 0)), (3, .int (nI 0))] := by
    rw [hml, e0, e8]
    exact lv_sub hl [3, 2, 1, 0] rfl
  exact law_loop X hL h_net h_centre h_full h_feed h_end h_grades h_fault h_leaf h_patch h_sheet h_worth h_sheets h_clipped h_veneer h_board h_warp h_best h_press h_glue h_drop h_plan h_load h_about (L + 1) 0 SC0 SM0 (Nat.zero_le _) (by show L + 1 ≤ 0 + (L + 1); omega) h0 H2 _ ls hPC hPM hS hl
