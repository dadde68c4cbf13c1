def refsOK (lay : List LE) : Bool := lay.all (fun x => match x with
  | .inl o => o.2.all (fun f => decide (f.2 < lay.length))
  | .inr _ => true)
theorem sW_ad {lay : List LE} {ad1 ad2 : Nat → Nat} {cI cZ : ClassId} {S : ST} (hr : refsOK lay = true) (h : ∀ k, k < lay.length → ad1 k = ad2 k) : sW lay ad1 cI cZ S = sW lay ad2 cI cZ S := by
  apply List.ext_getElem?
  intro i
  cases hx : lay[i]? with
  | none => simp [sW, mapI_get0, hx]
  | some x =>
    rw [sW_at hx, sW_at hx, h i (List.getElem?_eq_some_iff.mp hx).1]
    have h1 := List.all_eq_true.mp hr x (List.mem_of_getElem? hx)
    cases x with
    | inr a => rfl
    | inl q =>
      simp only [sE]
      have e : mapI (sF ad1 S i) 0 q.2 = mapI (sF ad2 S i) 0 q.2 := by
        apply List.ext_getElem?
        intro j
        rw [mapI_get0, mapI_get0]
        cases hf : q.2[j]? with
        | none => rfl
        | some f =>
          have h2 := List.all_eq_true.mp h1 f (List.mem_of_getElem? hf)
          simp only [decide_eq_true_eq] at h2
          simp only [Option.map_some, sF, h f.2 h2]
      rw [e]
def tmS (i : Nat) : Term := .string "PlyHouse$Tokens" ((stTab.getD i (0, "")).1)
def FN : List Cond := flatC (Jvm.Cond.and given_1 narrow_1)
set_option maxRecDepth 20000 in
theorem fn_ex : ∀ i, i < 11 → Cond.exactly (tmS i) "java/lang/String" ∈ FN := by decide +kernel
set_option maxRecDepth 20000 in
theorem fn_co : ∀ i, i < 11 → Cond.eq (.field (tmS i) "java/lang/String" "coder" "B") (.int 0) ∈ FN := by decide +kernel
set_option maxRecDepth 20000 in
theorem fn_ar : ∀ i, i < 11 → Cond.arrayOf (.field (tmS i) "java/lang/String" "value" "[B") .byte ∈ FN := by decide +kernel
set_option maxRecDepth 20000 in
theorem fn_le : ∀ i, i < 11 → Cond.eq (.length (.field (tmS i) "java/lang/String" "value" "[B")) (.int (Int32.ofNat (stLen.getD i 0))) ∈ FN := by decide +kernel
set_option maxRecDepth 20000 in
theorem fn_el : ∀ i, i < 11 → ∀ j, j < stLen.getD i 0 → Cond.eq (.elem (.field (tmS i) "java/lang/String" "value" "[B") (.int (Int32.ofNat j))) (.int ((stByt.getD i []).getD j 0)) ∈ FN := by decide +kernel
set_option maxRecDepth 20000 in
theorem fn_ne : ∀ i, i < 11 → ∀ j, j < 11 → i ≠ j → (Cond.not (Cond.eq (tmS i) (tmS j)) ∈ FN ∨ Cond.not (Cond.eq (tmS j) (tmS i)) ∈ FN) := by decide +kernel
theorem fn_cs : Cond.eq (.static "java/lang/String" "COMPACT_STRINGS" "Z") (.int 1) ∈ FN := by decide +kernel
theorem fn_fo : Cond.isRef (.static "jdk/internal/util/Preconditions" "SIOOBE_FORMATTER" "Ljava/util/function/BiFunction;") ∈ FN := by decide +kernel
theorem sr_0 : Cond.stringRef "PlyHouse$Tokens" 68 "grade" ∈ lw_tbl := tw_in 487 (by decide +kernel)
theorem sr_1 : Cond.stringRef "PlyHouse$Tokens" 74 "worth" ∈ lw_tbl := tw_in 539 (by decide +kernel)
theorem sr_2 : Cond.stringRef "PlyHouse$Tokens" 76 "when" ∈ lw_tbl := tw_in 540 (by decide +kernel)
theorem sr_3 : Cond.stringRef "PlyHouse$Tokens" 78 "not" ∈ lw_tbl := tw_in 541 (by decide +kernel)
theorem sr_4 : Cond.stringRef "PlyHouse$Tokens" 80 "and" ∈ lw_tbl := tw_in 542 (by decide +kernel)
theorem sr_5 : Cond.stringRef "PlyHouse$Tokens" 82 "or" ∈ lw_tbl := tw_in 543 (by decide +kernel)
theorem sr_6 : Cond.stringRef "PlyHouse$Tokens" 87 "knots" ∈ lw_tbl := tw_in 547 (by decide +kernel)
theorem sr_7 : Cond.stringRef "PlyHouse$Tokens" 89 "splits" ∈ lw_tbl := tw_in 548 (by decide +kernel)
theorem sr_8 : Cond.stringRef "PlyHouse$Tokens" 91 "holes" ∈ lw_tbl := tw_in 549 (by decide +kernel)
theorem sr_9 : Cond.stringRef "PlyHouse$Tokens" 93 "plugs" ∈ lw_tbl := tw_in 550 (by decide +kernel)
theorem sr_10 : Cond.stringRef "PlyHouse$Tokens" 95 "run" ∈ lw_tbl := tw_in 551 (by decide +kernel)
theorem sr_all (i : Nat) (q : Nat × String) (h : stTab[i]? = some q) : Cond.stringRef "PlyHouse$Tokens" q.1 q.2 ∈ lw_tbl := by
  match i, h with
  | 0, h => cases h; exact sr_0
  | 1, h => cases h; exact sr_1
  | 2, h => cases h; exact sr_2
  | 3, h => cases h; exact sr_3
  | 4, h => cases h; exact sr_4
  | 5, h => cases h; exact sr_5
  | 6, h => cases h; exact sr_6
  | 7, h => cases h; exact sr_7
  | 8, h => cases h; exact sr_8
  | 9, h => cases h; exact sr_9
  | 10, h => cases h; exact sr_10
  | n + 11, h => cases h
theorem ls_cs : Cond.laysStatic "java/lang/String" "COMPACT_STRINGS" "Z" ∈ lw_tbl := tw_in 500 (by decide +kernel)
theorem ls_fo : Cond.laysStatic "jdk/internal/util/Preconditions" "SIOOBE_FORMATTER" "Ljava/util/function/BiFunction;" ∈ lw_tbl := tw_in 516 (by decide +kernel)
theorem li_st : Cond.initialized "java/lang/String" ∈ lw_tbl := tw_in 14 (by decide +kernel)
theorem li_pr : Cond.initialized "jdk/internal/util/Preconditions" ∈ lw_tbl := tw_in 16 (by decide +kernel)
theorem lc_X10 : Cond.classLink RL 7 RX10 ∈ TG := tg_of 19 (by decide +kernel) rfl
theorem lc_X11 : Cond.classLink RL 10 RX11 ∈ TG := tg_of 899 (by decide +kernel) rfl
theorem iw_X10 : Cond.instantiable RX10 10 ∈ TG := tg_of 20 (by decide +kernel) rfl
theorem iw_X11 : Cond.instantiable RX11 61 ∈ TG := tg_of 900 (by decide +kernel) rfl
theorem nw_X10 : Cond.initialized RX10 ∈ TG := tg_of 1 (by decide +kernel) rfl
theorem nw_X11 : Cond.initialized RX11 ∈ TG := tg_of 12 (by decide +kernel) rfl
theorem lm_X10 : Cond.methodLink RL 9 yX10_init ∈ TG := tg_of 21 (by decide +kernel) rfl
theorem lm_X11 : Cond.methodLink RL 12 yX11_init ∈ TG := tg_of 901 (by decide +kernel) rfl
theorem iz_X0 : Cond.instantiable RX0 12 ∈ TG := tg_of 182 (by decide +kernel) rfl
theorem iz_X1 : Cond.instantiable RX1 6 ∈ TG := tg_of 70 (by decide +kernel) rfl
theorem iz_X2 : Cond.instantiable RX2 8 ∈ TG := tg_of 95 (by decide +kernel) rfl
theorem iz_X3 : Cond.instantiable RX3 6 ∈ TG := tg_of 151 (by decide +kernel) rfl
theorem iz_X4 : Cond.instantiable RX4 5 ∈ TG := tg_of 28 (by decide +kernel) rfl
theorem iz_X5 : Cond.instantiable RX5 9 ∈ TG := tg_of 188 (by decide +kernel) rfl
theorem iz_X6 : Cond.instantiable RX6 16 ∈ TG := tg_of 297 (by decide +kernel) rfl
theorem iz_X7 : Cond.instantiable RX7 2 ∈ TG := tg_of 54 (by decide +kernel) rfl
theorem iz_X8 : Cond.instantiable RX8 3 ∈ TG := tg_of 76 (by decide +kernel) rfl
theorem iz_X9 : Cond.instantiable RX9 9 ∈ TG := tg_of 262 (by decide +kernel) rfl
theorem iz_X10 : Cond.instantiable RX10 10 ∈ TG := iw_X10
theorem iz_X11 : Cond.instantiable RX11 61 ∈ TG := iw_X11
