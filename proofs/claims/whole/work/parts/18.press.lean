def fX6_removeBoard (F : Nat) (S : ST) : Option (Int32 × ST) :=
  if 0 < (S.1 11 8) then
    (bindS (us S 11 8 ((S.1 11 8) - (1 : Int32))) (fun S16 => bindS (us S16 11 15 (1 : Int32)) (fun S21 => some ((1 : Int32), S21))))
  else
    (some ((0 : Int32), S))
set_option maxRecDepth 4000 in
theorem gX6_removeBoard {E : CT} (X : Cx E layC cX6_removeBoard RX6 1 (some .boolean) 0) (F : Nat) (S : ST) : G E (fX6_removeBoard F S) S 0 [(0, .ref (eA E 11))] [] := by
  unfold fX6_removeBoard
  refine r_aload_n X 0 rfl dX6_removeBoard_0 ?_
  refine r_getI X fk_X6_36 lc_11 rfl dX6_removeBoard_1 ?_
  refine r_if_gt (tgt := 9) X dX6_removeBoard_4 (by decide) (fun _ => ?_) (fun _ => ?_)
  · refine r_aload_n X 0 rfl dX6_removeBoard_9 ?_
    refine r_dup X rfl dX6_removeBoard_10 ?_
    refine r_getI X fk_X6_36 lc_11 rfl dX6_removeBoard_11 ?_
    refine r_iconst (v := 1) X (by decide) dX6_removeBoard_14 ?_
    refine r_isub X dX6_removeBoard_15 ?_
    refine r_putI X pk_X6_36 lc_11 rfl dX6_removeBoard_16 ?_
    refine r_bindS (fun S16 => ?_)
    refine r_aload_n X 0 rfl dX6_removeBoard_19 ?_
    refine r_iconst (v := 1) X (by decide) dX6_removeBoard_20 ?_
    refine r_putZ X pk_X6_58 lc_11 rfl (by decide) dX6_removeBoard_21 ?_
    refine r_bindS (fun S21 => ?_)
    refine r_iconst (v := 1) X (by decide) dX6_removeBoard_24 ?_
    exact r_zret X (by decide) dX6_removeBoard_25
  · refine r_iconst (v := 0) X (by decide) dX6_removeBoard_7 ?_
    exact r_zret X (by decide) dX6_removeBoard_8
theorem mX6_removeBoard (F : Nat) (S : ST) : MetS yX6_removeBoard cX6_removeBoard 1 (some .boolean) 0 layC (fX6_removeBoard F S) S (fun ad => [.ref (ad 11)]) := mk_met (fun ad => [(0, .ref (ad 11))]) (by decide) (fun _ => Nat.le_of_ble_eq_true rfl) (fun _ => rfl) (fun E X => gX6_removeBoard X F S)
def fX6_addBoard (F : Nat) (S : ST) (x1 : Int32) (x2 : Int32) : Option (Int32 × ST) :=
  if (S.1 11 8) < 0 then
    (some ((-1 : Int32), S))
  else
    (if (S.1 11 8) < (10 : Int32) then
      ((if vin (S.1 11 8) 10 = true then bindS (us S 41 (ix (S.1 11 8)) x1) (fun S27 => (if vin (S27.1 11 8) 10 = true then bindS (us S27 42 (ix (S27.1 11 8)) x2) (fun S37 => bindS (us S37 11 8 ((S37.1 11 8) + (1 : Int32))) (fun S45 => bindS (us S45 11 15 (1 : Int32)) (fun S50 => some (((S50.1 11 8) - (1 : Int32)), S50)))) else none)) else none))
    else
      (some ((-1 : Int32), S)))
set_option maxRecDepth 4000 in
theorem gX6_addBoard {E : CT} (X : Cx E layC cX6_addBoard RX6 3 (some .int) 0) (F : Nat) (S : ST) (x1 : Int32) (x2 : Int32) : G E (fX6_addBoard F S x1 x2) S 0 [(0, .ref (eA E 11)), (1, .int x1), (2, .int x2)] [] := by
  unfold fX6_addBoard
  refine r_aload_n X 0 rfl dX6_addBoard_0 ?_
  refine r_getI X fk_X6_36 lc_11 rfl dX6_addBoard_1 ?_
  refine r_if_lt (tgt := 16) X dX6_addBoard_4 (by decide) (fun _ => ?_) (fun _ => ?_)
  · refine r_iconst (v := -1) X (by decide) dX6_addBoard_16 ?_
    exact r_iret X dX6_addBoard_17
  · refine r_aload_n X 0 rfl dX6_addBoard_7 ?_
    refine r_getI X fk_X6_36 lc_11 rfl dX6_addBoard_8 ?_
    refine r_bipush (v := 10) X (by decide) dX6_addBoard_11 ?_
    refine r_icmp_lt (tgt := 18) X dX6_addBoard_13 (by decide) (fun _ => ?_) (fun _ => ?_)
    · refine r_aload_n X 0 rfl dX6_addBoard_18 ?_
      refine r_getR X fk_X6_11 lc_11 rfl dX6_addBoard_19 ?_
      refine r_aload_n X 0 rfl dX6_addBoard_22 ?_
      refine r_getI X fk_X6_36 lc_11 rfl dX6_addBoard_23 ?_
      refine r_iload_n X 1 rfl dX6_addBoard_26 ?_
      refine r_iast X lc_41 dX6_addBoard_27 (fun _ => ?_)
      refine r_bindS (fun S27 => ?_)
      refine r_aload_n X 0 rfl dX6_addBoard_28 ?_
      refine r_getR X fk_X6_15 lc_11 rfl dX6_addBoard_29 ?_
      refine r_aload_n X 0 rfl dX6_addBoard_32 ?_
      refine r_getI X fk_X6_36 lc_11 rfl dX6_addBoard_33 ?_
      refine r_iload_n X 2 rfl dX6_addBoard_36 ?_
      refine r_iast X lc_42 dX6_addBoard_37 (fun _ => ?_)
      refine r_bindS (fun S37 => ?_)
      refine r_aload_n X 0 rfl dX6_addBoard_38 ?_
      refine r_dup X rfl dX6_addBoard_39 ?_
      refine r_getI X fk_X6_36 lc_11 rfl dX6_addBoard_40 ?_
      refine r_iconst (v := 1) X (by decide) dX6_addBoard_43 ?_
      refine r_iadd X dX6_addBoard_44 ?_
      refine r_putI X pk_X6_36 lc_11 rfl dX6_addBoard_45 ?_
      refine r_bindS (fun S45 => ?_)
      refine r_aload_n X 0 rfl dX6_addBoard_48 ?_
      refine r_iconst (v := 1) X (by decide) dX6_addBoard_49 ?_
      refine r_putZ X pk_X6_58 lc_11 rfl (by decide) dX6_addBoard_50 ?_
      refine r_bindS (fun S50 => ?_)
      refine r_aload_n X 0 rfl dX6_addBoard_53 ?_
      refine r_getI X fk_X6_36 lc_11 rfl dX6_addBoard_54 ?_
      refine r_iconst (v := 1) X (by decide) dX6_addBoard_57 ?_
      refine r_isub X dX6_addBoard_58 ?_
      exact r_iret X dX6_addBoard_59
    · refine r_iconst (v := -1) X (by decide) dX6_addBoard_16 ?_
      exact r_iret X dX6_addBoard_17
theorem mX6_addBoard (F : Nat) (S : ST) (x1 : Int32) (x2 : Int32) : MetS yX6_addBoard cX6_addBoard 3 (some .int) 0 layC (fX6_addBoard F S x1 x2) S (fun ad => [.ref (ad 11), .int x1, .int x2]) := mk_met (fun ad => [(0, .ref (ad 11)), (1, .int x1), (2, .int x2)]) (by decide) (fun _ => Nat.le_of_ble_eq_true rfl) (fun _ => rfl) (fun E X => gX6_addBoard X F S x1 x2)
def fX6_outOf (F : Nat) (S : ST) (x1 : Int32) : Option (Int32 × ST) :=
  if x1 < 0 then
    (some ((-1 : Int32), S))
  else
    (if (1024 : Int32) ≤ x1 then
      (some ((-1 : Int32), S))
    else
      ((if vin x1 1024 = true then if (S.1 46 (ix x1)) = (-1 : Int32) then
        (some ((-1 : Int32), S))
      else
        ((if vin x1 1024 = true then some (((S.1 46 (ix x1)) / (1024 : Int32)), S) else none)) else none)))
set_option maxRecDepth 4000 in
theorem gX6_outOf {E : CT} (X : Cx E layC cX6_outOf RX6 2 (some .int) 0) (F : Nat) (S : ST) (x1 : Int32) : G E (fX6_outOf F S x1) S 0 [(0, .ref (eA E 11)), (1, .int x1)] [] := by
  unfold fX6_outOf
  refine r_iload_n X 1 rfl dX6_outOf_0 ?_
  refine r_if_lt (tgt := 21) X dX6_outOf_1 (by decide) (fun _ => ?_) (fun _ => ?_)
  · refine r_iconst (v := -1) X (by decide) dX6_outOf_21 ?_
    refine r_goto (tgt := 35) X dX6_outOf_22 (by decide) ?_
    exact r_iret X dX6_outOf_35
  · refine r_iload_n X 1 rfl dX6_outOf_4 ?_
    refine r_sipush (v := 1024) X (by decide) dX6_outOf_5 ?_
    refine r_icmp_ge (tgt := 21) X dX6_outOf_8 (by decide) (fun _ => ?_) (fun _ => ?_)
    · refine r_iconst (v := -1) X (by decide) dX6_outOf_21 ?_
      refine r_goto (tgt := 35) X dX6_outOf_22 (by decide) ?_
      exact r_iret X dX6_outOf_35
    · refine r_aload_n X 0 rfl dX6_outOf_11 ?_
      refine r_getR X fk_X6_27 lc_11 rfl dX6_outOf_12 ?_
      refine r_iload_n X 1 rfl dX6_outOf_15 ?_
      refine r_iald X lc_46 dX6_outOf_16 (fun _ => ?_)
      refine r_iconst (v := -1) X (by decide) dX6_outOf_17 ?_
      refine r_icmp_ne (tgt := 25) X dX6_outOf_18 (by decide) (fun _ => ?_) (fun _ => ?_)
      · refine r_aload_n X 0 rfl dX6_outOf_25 ?_
        refine r_getR X fk_X6_27 lc_11 rfl dX6_outOf_26 ?_
        refine r_iload_n X 1 rfl dX6_outOf_29 ?_
        refine r_iald X lc_46 dX6_outOf_30 (fun _ => ?_)
        refine r_sipush (v := 1024) X (by decide) dX6_outOf_31 ?_
        refine r_idivK X dX6_outOf_34 (by decide) ?_
        exact r_iret X dX6_outOf_35
      · refine r_iconst (v := -1) X (by decide) dX6_outOf_21 ?_
        refine r_goto (tgt := 35) X dX6_outOf_22 (by decide) ?_
        exact r_iret X dX6_outOf_35
theorem mX6_outOf (F : Nat) (S : ST) (x1 : Int32) : MetS yX6_outOf cX6_outOf 2 (some .int) 0 layC (fX6_outOf F S x1) S (fun ad => [.ref (ad 11), .int x1]) := mk_met (fun ad => [(0, .ref (ad 11)), (1, .int x1)]) (by decide) (fun _ => Nat.le_of_ble_eq_true rfl) (fun _ => rfl) (fun E X => gX6_outOf X F S x1)
def fX6_choose_70 (F : Nat) (k7 : ST → Int32 → Int32 → Option (Int32 × ST)) (S : ST) (x1 : Int32) (x2 : Int32) : Option (Int32 × ST) :=
  bindS (us S 11 13 x2) (fun S72 => k7 S72 x1 (x2 + (1 : Int32)))
set_option maxRecDepth 4000 in
theorem gX6_choose_70 {E : CT} (X : Cx E layC cX6_choose RX6 5 none 1) (F : Nat) (k7 : ST → Int32 → Int32 → Option (Int32 × ST)) (h7 : ∀ (S : ST) (x1 : Int32) (x2 : Int32), G E (k7 S x1 x2) S 7 [(0, .ref (eA E 11)), (1, .int x1), (2, .int x2)] []) (S : ST) (x1 : Int32) (x2 : Int32) : G E (fX6_choose_70 F k7 S x1 x2) S 70 [(0, .ref (eA E 11)), (1, .int x1), (2, .int x2)] [] := by
  unfold fX6_choose_70
  refine r_aload_n X 0 rfl dX6_choose_70 ?_
  refine r_iload_n X 2 rfl dX6_choose_71 ?_
  refine r_putI X pk_X6_52 lc_11 rfl dX6_choose_72 ?_
  refine r_bindS (fun S72 => ?_)
  refine r_iinc (lv' := [(0, _), (1, _), (2, _)]) (dl := 1) X 2 rfl (by decide) (by decide) rfl dX6_choose_75 ?_
  refine r_goto (tgt := 7) X dX6_choose_78 (by decide) ?_
  exact h7 _ _ _
def fX6_choose_46 (F : Nat) (k7 : ST → Int32 → Int32 → Option (Int32 × ST)) (S : ST) (x1 : Int32) (x2 : Int32) (x3 : Int32) (s0 : Int32) : Option (Int32 × ST) :=
  (fX6_outOf F S x2).bind (fun q50 => if q50.1 = (-1 : Int32) then
    (k7 q50.2 x1 (x2 + (1 : Int32)))
  else
    (if 0 < x3 then
      (fX6_choose_70 F k7 q50.2 x1 x2)
    else
      (if x3 = 0 then
        (if s0 = 0 then
          (k7 q50.2 x1 (x2 + (1 : Int32)))
        else
          (fX6_choose_70 F k7 q50.2 x1 x2))
      else
        (k7 q50.2 x1 (x2 + (1 : Int32))))))
set_option maxRecDepth 4000 in
theorem gX6_choose_46 {E : CT} (X : Cx E layC cX6_choose RX6 5 none 1) (F : Nat) (k7 : ST → Int32 → Int32 → Option (Int32 × ST)) (h7 : ∀ (S : ST) (x1 : Int32) (x2 : Int32), G E (k7 S x1 x2) S 7 [(0, .ref (eA E 11)), (1, .int x1), (2, .int x2)] []) (S : ST) (x1 : Int32) (x2 : Int32) (x3 : Int32) (s0 : Int32) : G E (fX6_choose_46 F k7 S x1 x2 x3 s0) S 46 [(0, .ref (eA E 11)), (1, .int x1), (2, .int x2), (3, .int x3)] [.int s0] := by
  unfold fX6_choose_46
  refine r_istore (lv' := [(0, _), (1, _), (2, _), (3, _), (4, _)]) X (by decide) rfl dX6_choose_46 ?_
  refine r_aload_n X 0 rfl dX6_choose_48 ?_
  refine r_iload_n X 2 rfl dX6_choose_49 ?_
  refine r_callV X (mX6_outOf _ _ _) mk_X6_outOf lk_X6_93 lc_11 rfl rfl (by decide) (by decide) (Nat.le_of_ble_eq_true rfl) rfl dX6_choose_50 (fun q50 _ => ?_)
  refine r_iconst (v := -1) X (by decide) dX6_choose_53 ?_
  refine r_icmp_eq (tgt := 75) X dX6_choose_54 (by decide) (fun _ => ?_) (fun _ => ?_)
  · refine r_iinc (lv' := [(0, _), (1, _), (2, _), (3, _), (4, _)]) (dl := 1) X 2 rfl (by decide) (by decide) rfl dX6_choose_75 ?_
    refine r_goto (tgt := 7) X dX6_choose_78 (by decide) ?_
    refine r_sub [0, 1, 2] rfl ?_
    exact h7 _ _ _
  · refine r_iload_n X 3 rfl dX6_choose_57 ?_
    refine r_if_gt (tgt := 70) X dX6_choose_58 (by decide) (fun _ => ?_) (fun _ => ?_)
    · refine r_sub [0, 1, 2] rfl ?_
      exact gX6_choose_70 X F _ h7 _ _ _
    · refine r_iload_n X 3 rfl dX6_choose_61 ?_
      refine r_if_ne (tgt := 75) X dX6_choose_62 (by decide) (fun _ => ?_) (fun _ => ?_)
      · refine r_iinc (lv' := [(0, _), (1, _), (2, _), (3, _), (4, _)]) (dl := 1) X 2 rfl (by decide) (by decide) rfl dX6_choose_75 ?_
        refine r_goto (tgt := 7) X dX6_choose_78 (by decide) ?_
        refine r_sub [0, 1, 2] rfl ?_
        exact h7 _ _ _
      · refine r_iload X 4 rfl dX6_choose_65 ?_
        refine r_if_eq (tgt := 75) X dX6_choose_67 (by decide) (fun _ => ?_) (fun _ => ?_)
        · refine r_iinc (lv' := [(0, _), (1, _), (2, _), (3, _), (4, _)]) (dl := 1) X 2 rfl (by decide) (by decide) rfl dX6_choose_75 ?_
          refine r_goto (tgt := 7) X dX6_choose_78 (by decide) ?_
          refine r_sub [0, 1, 2] rfl ?_
          exact h7 _ _ _
        · refine r_sub [0, 1, 2] rfl ?_
          exact gX6_choose_70 X F _ h7 _ _ _
def fX6_choose_7 (F : Nat) : Nat → ST → Int32 → Int32 → Option (Int32 × ST)
  | 0, _, _, _ => none
  | n + 1, S, x1, x2 =>
  if x1 ≤ x2 then
    (some ((0 : Int32), S))
  else
    ((fJ6_bitCount_0f7a4 F S x2).bind (fun q13 => (fJ6_bitCount_0f7a4 F q13.2 (q13.2.1 11 13)).bind (fun q20 => bindI ((q13.1 - q20.1)) (fun v24 => (fX6_outOf F q20.2 x2).bind (fun q27 => (fX6_outOf F q27.2 (q27.2.1 11 13)).bind (fun q35 => if q35.1 ≤ q27.1 then
      (fX6_choose_46 F (fX6_choose_7 F n) q35.2 x1 x2 v24 (0 : Int32))
    else
      (fX6_choose_46 F (fX6_choose_7 F n) q35.2 x1 x2 v24 (1 : Int32))))))))
set_option maxRecDepth 4000 in
theorem gX6_choose_7 {E : CT} (X : Cx E layC cX6_choose RX6 5 none 1) (F : Nat) : ∀ (n : Nat) (S : ST) (x1 : Int32) (x2 : Int32), G E (fX6_choose_7 F n S x1 x2) S 7 [(0, .ref (eA E 11)), (1, .int x1), (2, .int x2)] []
  | 0, _, _, _ => r_none
  | n + 1, S, x1, x2 => by
    have ih := gX6_choose_7 X F n
    unfold fX6_choose_7
    refine r_iload_n X 2 rfl dX6_choose_7 ?_
    refine r_iload_n X 1 rfl dX6_choose_8 ?_
    refine r_icmp_ge (tgt := 81) X dX6_choose_9 (by decide) (fun _ => ?_) (fun _ => ?_)
    · exact r_vret X dX6_choose_81
    · refine r_iload_n X 2 rfl dX6_choose_12 ?_
      refine r_callS X (mJ6_bitCount_0f7a4 _ _ _) mk_J6_bitCount_0f7a4 lk_X6_85 rfl (by decide) (by decide) (Nat.le_of_ble_eq_true rfl) rfl dX6_choose_13 (fun q13 _ => ?_)
      refine r_aload_n X 0 rfl dX6_choose_16 ?_
      refine r_getI X fk_X6_52 lc_11 rfl dX6_choose_17 ?_
      refine r_callS X (mJ6_bitCount_0f7a4 _ _ _) mk_J6_bitCount_0f7a4 lk_X6_85 rfl (by decide) (by decide) (Nat.le_of_ble_eq_true rfl) rfl dX6_choose_20 (fun q20 _ => ?_)
      refine r_isub X dX6_choose_23 ?_
      refine r_bindI (fun v24 => ?_)
      refine r_istore_n (lv' := [(0, _), (1, _), (2, _), (3, _)]) X (by decide) rfl dX6_choose_24 ?_
      refine r_aload_n X 0 rfl dX6_choose_25 ?_
      refine r_iload_n X 2 rfl dX6_choose_26 ?_
      refine r_callV X (mX6_outOf _ _ _) mk_X6_outOf lk_X6_93 lc_11 rfl rfl (by decide) (by decide) (Nat.le_of_ble_eq_true rfl) rfl dX6_choose_27 (fun q27 _ => ?_)
      refine r_aload_n X 0 rfl dX6_choose_30 ?_
      refine r_aload_n X 0 rfl dX6_choose_31 ?_
      refine r_getI X fk_X6_52 lc_11 rfl dX6_choose_32 ?_
      refine r_callV X (mX6_outOf _ _ _) mk_X6_outOf lk_X6_93 lc_11 rfl rfl (by decide) (by decide) (Nat.le_of_ble_eq_true rfl) rfl dX6_choose_35 (fun q35 _ => ?_)
      refine r_icmp_ge (tgt := 45) X dX6_choose_38 (by decide) (fun _ => ?_) (fun _ => ?_)
      · refine r_iconst (v := 0) X (by decide) dX6_choose_45 ?_
        exact gX6_choose_46 X F _ ih _ _ _ _ _
      · refine r_iconst (v := 1) X (by decide) dX6_choose_41 ?_
        refine r_goto (tgt := 46) X dX6_choose_42 (by decide) ?_
        exact gX6_choose_46 X F _ ih _ _ _ _ _
def fX6_choose (F : Nat) (S : ST) (x1 : Int32) : Option (Int32 × ST) :=
  bindS (us S 11 13 (0 : Int32)) (fun S2 => fX6_choose_7 F F S2 x1 (1 : Int32))
set_option maxRecDepth 4000 in
theorem gX6_choose {E : CT} (X : Cx E layC cX6_choose RX6 5 none 1) (F : Nat) (S : ST) (x1 : Int32) : G E (fX6_choose F S x1) S 0 [(0, .ref (eA E 11)), (1, .int x1)] [] := by
  unfold fX6_choose
  refine r_aload_n X 0 rfl dX6_choose_0 ?_
  refine r_iconst (v := 0) X (by decide) dX6_choose_1 ?_
  refine r_putI X pk_X6_52 lc_11 rfl dX6_choose_2 ?_
  refine r_bindS (fun S2 => ?_)
  refine r_iconst (v := 1) X (by decide) dX6_choose_5 ?_
  refine r_istore_n (lv' := [(0, _), (1, _), (2, _)]) X (by decide) rfl dX6_choose_6 ?_
  exact gX6_choose_7 X F F _ _ _
theorem mX6_choose (F : Nat) (S : ST) (x1 : Int32) : MetS yX6_choose cX6_choose 5 none 1 layC (fX6_choose F S x1) S (fun ad => [.ref (ad 11), .int x1]) := mk_met (fun ad => [(0, .ref (ad 11)), (1, .int x1)]) (by decide) (fun _ => Nat.le_of_ble_eq_true rfl) (fun _ => rfl) (fun E X => gX6_choose X F S x1)
def fX6_describeSetsUpTo_203 (F : Nat) (k33 : ST → Int32 → Int32 → Int32 → Int32 → Option (Int32 × ST)) (S : ST) (x2 : Int32) (x3 : Int32) (x4 : Int32) (x5 : Int32) (s0 : Int32) (s1 : Int32) : Option (Int32 × ST) :=
  (if vin s1 1024 = true then bindS (us S 43 (ix s1) s0) (fun S203 => k33 S203 x2 x3 x4 (x5 + (1 : Int32))) else none)
set_option maxRecDepth 4000 in
theorem gX6_describeSetsUpTo_203 {E : CT} (X : Cx E layC cX6_describeSetsUpTo RX6 9 none 1) (F : Nat) (k33 : ST → Int32 → Int32 → Int32 → Int32 → Option (Int32 × ST)) (h33 : ∀ (S : ST) (x2 : Int32) (x3 : Int32) (x4 : Int32) (x5 : Int32), G E (k33 S x2 x3 x4 x5) S 33 [(0, .ref (eA E 11)), (2, .int x2), (3, .int x3), (4, .int x4), (5, .int x5)] []) (S : ST) (x2 : Int32) (x3 : Int32) (x4 : Int32) (x5 : Int32) (s0 : Int32) (s1 : Int32) : G E (fX6_describeSetsUpTo_203 F k33 S x2 x3 x4 x5 s0 s1) S 203 [(0, .ref (eA E 11)), (2, .int x2), (3, .int x3), (4, .int x4), (5, .int x5)] [.int s0, .int s1, .ref (eA E 43)] := by
  unfold fX6_describeSetsUpTo_203
  refine r_iast X lc_43 dX6_describeSetsUpTo_203 (fun _ => ?_)
  refine r_bindS (fun S203 => ?_)
  refine r_iinc (lv' := [(0, _), (2, _), (3, _), (4, _), (5, _)]) (dl := 1) X 4 rfl (by decide) (by decide) rfl dX6_describeSetsUpTo_204 ?_
  refine r_goto (tgt := 33) X dX6_describeSetsUpTo_207 (by decide) ?_
  exact h33 _ _ _ _ _
def fX6_describeSetsUpTo_202 (F : Nat) (k33 : ST → Int32 → Int32 → Int32 → Int32 → Option (Int32 × ST)) (S : ST) (x2 : Int32) (x3 : Int32) (x4 : Int32) (x5 : Int32) (s0 : Int32) : Option (Int32 × ST) :=
  fX6_describeSetsUpTo_203 F k33 S x2 x3 x4 x5 (0 : Int32) s0
set_option maxRecDepth 4000 in
theorem gX6_describeSetsUpTo_202 {E : CT} (X : Cx E layC cX6_describeSetsUpTo RX6 9 none 1) (F : Nat) (k33 : ST → Int32 → Int32 → Int32 → Int32 → Option (Int32 × ST)) (h33 : ∀ (S : ST) (x2 : Int32) (x3 : Int32) (x4 : Int32) (x5 : Int32), G E (k33 S x2 x3 x4 x5) S 33 [(0, .ref (eA E 11)), (2, .int x2), (3, .int x3), (4, .int x4), (5, .int x5)] []) (S : ST) (x2 : Int32) (x3 : Int32) (x4 : Int32) (x5 : Int32) (s0 : Int32) : G E (fX6_describeSetsUpTo_202 F k33 S x2 x3 x4 x5 s0) S 202 [(0, .ref (eA E 11)), (2, .int x2), (3, .int x3), (4, .int x4), (5, .int x5)] [.int s0, .ref (eA E 43)] := by
  unfold fX6_describeSetsUpTo_202
  refine r_iconst (v := 0) X (by decide) dX6_describeSetsUpTo_202 ?_
  exact gX6_describeSetsUpTo_203 X F _ h33 _ _ _ _ _ _ _
def fX6_describeSetsUpTo_180 (F : Nat) (k33 : ST → Int32 → Int32 → Int32 → Int32 → Option (Int32 × ST)) (S : ST) (x2 : Int32) (x3 : Int32) (x4 : Int32) (x5 : Int32) (x6 : Int32) (x7 : Int32) (s0 : Int32) : Option (Int32 × ST) :=
  if x7 = 0 then
    (fX6_describeSetsUpTo_202 F k33 S x2 x3 x4 x5 x6)
  else
    (if s0 = 0 then
      (fX6_describeSetsUpTo_202 F k33 S x2 x3 x4 x5 x6)
    else
      (fX6_describeSetsUpTo_203 F k33 S x2 x3 x4 x5 x3 x6))
set_option maxRecDepth 4000 in
theorem gX6_describeSetsUpTo_180 {E : CT} (X : Cx E layC cX6_describeSetsUpTo RX6 9 none 1) (F : Nat) (k33 : ST → Int32 → Int32 → Int32 → Int32 → Option (Int32 × ST)) (h33 : ∀ (S : ST) (x2 : Int32) (x3 : Int32) (x4 : Int32) (x5 : Int32), G E (k33 S x2 x3 x4 x5) S 33 [(0, .ref (eA E 11)), (2, .int x2), (3, .int x3), (4, .int x4), (5, .int x5)] []) (S : ST) (x2 : Int32) (x3 : Int32) (x4 : Int32) (x5 : Int32) (x6 : Int32) (x7 : Int32) (s0 : Int32) : G E (fX6_describeSetsUpTo_180 F k33 S x2 x3 x4 x5 x6 x7 s0) S 180 [(0, .ref (eA E 11)), (2, .int x2), (3, .int x3), (4, .int x4), (5, .int x5), (6, .int x6), (7, .int x7)] [.int s0] := by
  unfold fX6_describeSetsUpTo_180
  refine r_istore (lv' := [(0, _), (2, _), (3, _), (4, _), (5, _), (6, _), (7, _), (8, _)]) X (by decide) rfl dX6_describeSetsUpTo_180 ?_
  refine r_aload_n X 0 rfl dX6_describeSetsUpTo_182 ?_
  refine r_getR X fk_X6_18 lc_11 rfl dX6_describeSetsUpTo_183 ?_
  refine r_iload X 5 rfl dX6_describeSetsUpTo_186 ?_
  refine r_iload X 6 rfl dX6_describeSetsUpTo_188 ?_
  refine r_if_eq (tgt := 202) X dX6_describeSetsUpTo_190 (by decide) (fun _ => ?_) (fun _ => ?_)
  · refine r_sub [0, 1, 2, 3, 4] rfl ?_
    exact gX6_describeSetsUpTo_202 X F _ h33 _ _ _ _ _ _
  · refine r_iload X 7 rfl dX6_describeSetsUpTo_193 ?_
    refine r_if_eq (tgt := 202) X dX6_describeSetsUpTo_195 (by decide) (fun _ => ?_) (fun _ => ?_)
    · refine r_sub [0, 1, 2, 3, 4] rfl ?_
      exact gX6_describeSetsUpTo_202 X F _ h33 _ _ _ _ _ _
    · refine r_iload_n X 2 rfl dX6_describeSetsUpTo_198 ?_
      refine r_goto (tgt := 203) X dX6_describeSetsUpTo_199 (by decide) ?_
      refine r_sub [0, 1, 2, 3, 4] rfl ?_
      exact gX6_describeSetsUpTo_203 X F _ h33 _ _ _ _ _ _ _
def fX6_describeSetsUpTo_179 (F : Nat) (k33 : ST → Int32 → Int32 → Int32 → Int32 → Option (Int32 × ST)) (S : ST) (x2 : Int32) (x3 : Int32) (x4 : Int32) (x5 : Int32) (x6 : Int32) (x7 : Int32) : Option (Int32 × ST) :=
  fX6_describeSetsUpTo_180 F k33 S x2 x3 x4 x5 x6 x7 (0 : Int32)
set_option maxRecDepth 4000 in
theorem gX6_describeSetsUpTo_179 {E : CT} (X : Cx E layC cX6_describeSetsUpTo RX6 9 none 1) (F : Nat) (k33 : ST → Int32 → Int32 → Int32 → Int32 → Option (Int32 × ST)) (h33 : ∀ (S : ST) (x2 : Int32) (x3 : Int32) (x4 : Int32) (x5 : Int32), G E (k33 S x2 x3 x4 x5) S 33 [(0, .ref (eA E 11)), (2, .int x2), (3, .int x3), (4, .int x4), (5, .int x5)] []) (S : ST) (x2 : Int32) (x3 : Int32) (x4 : Int32) (x5 : Int32) (x6 : Int32) (x7 : Int32) : G E (fX6_describeSetsUpTo_179 F k33 S x2 x3 x4 x5 x6 x7) S 179 [(0, .ref (eA E 11)), (2, .int x2), (3, .int x3), (4, .int x4), (5, .int x5), (6, .int x6), (7, .int x7)] [] := by
  unfold fX6_describeSetsUpTo_179
  refine r_iconst (v := 0) X (by decide) dX6_describeSetsUpTo_179 ?_
  exact gX6_describeSetsUpTo_180 X F _ h33 _ _ _ _ _ _ _ _
def fX6_describeSetsUpTo_144 (F : Nat) (k33 : ST → Int32 → Int32 → Int32 → Int32 → Option (Int32 × ST)) (S : ST) (x2 : Int32) (x3 : Int32) (x4 : Int32) (x5 : Int32) (x6 : Int32) (s0 : Int32) : Option (Int32 × ST) :=
  (fJ6_bitCount_0f7a4 F S x6).bind (fun q148 => if (q148.2.1 11 9) < q148.1 then
    (fX6_describeSetsUpTo_179 F k33 q148.2 x2 x3 x4 x5 x6 s0)
  else
    ((if vin x6 1024 = true then (if vin x6 1024 = true then if (q148.2.1 45 (ix x6)) < (q148.2.1 44 (ix x6)) then
      (fX6_describeSetsUpTo_179 F k33 q148.2 x2 x3 x4 x5 x6 s0)
    else
      (fX6_describeSetsUpTo_180 F k33 q148.2 x2 x3 x4 x5 x6 s0 (1 : Int32)) else none) else none)))
set_option maxRecDepth 4000 in
theorem gX6_describeSetsUpTo_144 {E : CT} (X : Cx E layC cX6_describeSetsUpTo RX6 9 none 1) (F : Nat) (k33 : ST → Int32 → Int32 → Int32 → Int32 → Option (Int32 × ST)) (h33 : ∀ (S : ST) (x2 : Int32) (x3 : Int32) (x4 : Int32) (x5 : Int32), G E (k33 S x2 x3 x4 x5) S 33 [(0, .ref (eA E 11)), (2, .int x2), (3, .int x3), (4, .int x4), (5, .int x5)] []) (S : ST) (x2 : Int32) (x3 : Int32) (x4 : Int32) (x5 : Int32) (x6 : Int32) (s0 : Int32) : G E (fX6_describeSetsUpTo_144 F k33 S x2 x3 x4 x5 x6 s0) S 144 [(0, .ref (eA E 11)), (2, .int x2), (3, .int x3), (4, .int x4), (5, .int x5), (6, .int x6)] [.int s0] := by
  unfold fX6_describeSetsUpTo_144
  refine r_istore (lv' := [(0, _), (2, _), (3, _), (4, _), (5, _), (6, _), (7, _)]) X (by decide) rfl dX6_describeSetsUpTo_144 ?_
  refine r_iload X 5 rfl dX6_describeSetsUpTo_146 ?_
  refine r_callS X (mJ6_bitCount_0f7a4 _ _ _) mk_J6_bitCount_0f7a4 lk_X6_85 rfl (by decide) (by decide) (Nat.le_of_ble_eq_true rfl) rfl dX6_describeSetsUpTo_148 (fun q148 _ => ?_)
  refine r_aload_n X 0 rfl dX6_describeSetsUpTo_151 ?_
  refine r_getI X fk_X6_40 lc_11 rfl dX6_describeSetsUpTo_152 ?_
  refine r_icmp_gt (tgt := 179) X dX6_describeSetsUpTo_155 (by decide) (fun _ => ?_) (fun _ => ?_)
  · exact gX6_describeSetsUpTo_179 X F _ h33 _ _ _ _ _ _ _
  · refine r_aload_n X 0 rfl dX6_describeSetsUpTo_158 ?_
    refine r_getR X fk_X6_21 lc_11 rfl dX6_describeSetsUpTo_159 ?_
    refine r_iload X 5 rfl dX6_describeSetsUpTo_162 ?_
    refine r_iald X lc_44 dX6_describeSetsUpTo_164 (fun _ => ?_)
    refine r_aload_n X 0 rfl dX6_describeSetsUpTo_165 ?_
    refine r_getR X fk_X6_24 lc_11 rfl dX6_describeSetsUpTo_166 ?_
    refine r_iload X 5 rfl dX6_describeSetsUpTo_169 ?_
    refine r_iald X lc_45 dX6_describeSetsUpTo_171 (fun _ => ?_)
    refine r_icmp_gt (tgt := 179) X dX6_describeSetsUpTo_172 (by decide) (fun _ => ?_) (fun _ => ?_)
    · exact gX6_describeSetsUpTo_179 X F _ h33 _ _ _ _ _ _ _
    · refine r_iconst (v := 1) X (by decide) dX6_describeSetsUpTo_175 ?_
      refine r_goto (tgt := 180) X dX6_describeSetsUpTo_176 (by decide) ?_
      exact gX6_describeSetsUpTo_180 X F _ h33 _ _ _ _ _ _ _ _
def fX6_describeSetsUpTo_122 (F : Nat) (k33 : ST → Int32 → Int32 → Int32 → Int32 → Option (Int32 × ST)) (S : ST) (x2 : Int32) (x3 : Int32) (x4 : Int32) (x5 : Int32) (x6 : Int32) (s0 : Int32) (s1 : Int32) : Option (Int32 × ST) :=
  (if vin s1 1024 = true then bindS (us S 45 (ix s1) s0) (fun S122 => if x5 = 0 then
    (fX6_describeSetsUpTo_144 F k33 S122 x2 x3 x4 x5 x6 (1 : Int32))
  else
    ((if vin x5 1024 = true then if (S122.1 43 (ix x5)) = x3 then
      (fX6_describeSetsUpTo_144 F k33 S122 x2 x3 x4 x5 x6 (1 : Int32))
    else
      (fX6_describeSetsUpTo_144 F k33 S122 x2 x3 x4 x5 x6 (0 : Int32)) else none))) else none)
set_option maxRecDepth 4000 in
theorem gX6_describeSetsUpTo_122 {E : CT} (X : Cx E layC cX6_describeSetsUpTo RX6 9 none 1) (F : Nat) (k33 : ST → Int32 → Int32 → Int32 → Int32 → Option (Int32 × ST)) (h33 : ∀ (S : ST) (x2 : Int32) (x3 : Int32) (x4 : Int32) (x5 : Int32), G E (k33 S x2 x3 x4 x5) S 33 [(0, .ref (eA E 11)), (2, .int x2), (3, .int x3), (4, .int x4), (5, .int x5)] []) (S : ST) (x2 : Int32) (x3 : Int32) (x4 : Int32) (x5 : Int32) (x6 : Int32) (s0 : Int32) (s1 : Int32) : G E (fX6_describeSetsUpTo_122 F k33 S x2 x3 x4 x5 x6 s0 s1) S 122 [(0, .ref (eA E 11)), (2, .int x2), (3, .int x3), (4, .int x4), (5, .int x5), (6, .int x6)] [.int s0, .int s1, .ref (eA E 45)] := by
  unfold fX6_describeSetsUpTo_122
  refine r_iast X lc_45 dX6_describeSetsUpTo_122 (fun _ => ?_)
  refine r_bindS (fun S122 => ?_)
  refine r_iload X 4 rfl dX6_describeSetsUpTo_123 ?_
  refine r_if_eq (tgt := 139) X dX6_describeSetsUpTo_125 (by decide) (fun _ => ?_) (fun _ => ?_)
  · refine r_iconst (v := 1) X (by decide) dX6_describeSetsUpTo_139 ?_
    refine r_goto (tgt := 144) X dX6_describeSetsUpTo_140 (by decide) ?_
    exact gX6_describeSetsUpTo_144 X F _ h33 _ _ _ _ _ _ _
  · refine r_aload_n X 0 rfl dX6_describeSetsUpTo_128 ?_
    refine r_getR X fk_X6_18 lc_11 rfl dX6_describeSetsUpTo_129 ?_
    refine r_iload X 4 rfl dX6_describeSetsUpTo_132 ?_
    refine r_iald X lc_43 dX6_describeSetsUpTo_134 (fun _ => ?_)
    refine r_iload_n X 2 rfl dX6_describeSetsUpTo_135 ?_
    refine r_icmp_ne (tgt := 143) X dX6_describeSetsUpTo_136 (by decide) (fun _ => ?_) (fun _ => ?_)
    · refine r_iconst (v := 0) X (by decide) dX6_describeSetsUpTo_143 ?_
      exact gX6_describeSetsUpTo_144 X F _ h33 _ _ _ _ _ _ _
    · refine r_iconst (v := 1) X (by decide) dX6_describeSetsUpTo_139 ?_
      refine r_goto (tgt := 144) X dX6_describeSetsUpTo_140 (by decide) ?_
      exact gX6_describeSetsUpTo_144 X F _ h33 _ _ _ _ _ _ _
def fX6_describeSetsUpTo_83 (F : Nat) (k33 : ST → Int32 → Int32 → Int32 → Int32 → Option (Int32 × ST)) (S : ST) (x2 : Int32) (x3 : Int32) (x4 : Int32) (x5 : Int32) (x6 : Int32) (s0 : Int32) (s1 : Int32) : Option (Int32 × ST) :=
  (if vin s1 1024 = true then bindS (us S 44 (ix s1) s0) (fun S83 => if x5 = 0 then
    (fX6_describeSetsUpTo_122 F k33 S83 x2 x3 x4 x5 x6 (x4 + (S83.1 11 12)) x6)
  else
    ((if vin x5 1024 = true then fX6_describeSetsUpTo_122 F k33 S83 x2 x3 x4 x5 x6 (jmin (S83.1 45 (ix x5)) (x4 + (S83.1 11 12))) x6 else none))) else none)
set_option maxRecDepth 4000 in
theorem gX6_describeSetsUpTo_83 {E : CT} (X : Cx E layC cX6_describeSetsUpTo RX6 9 none 1) (F : Nat) (k33 : ST → Int32 → Int32 → Int32 → Int32 → Option (Int32 × ST)) (h33 : ∀ (S : ST) (x2 : Int32) (x3 : Int32) (x4 : Int32) (x5 : Int32), G E (k33 S x2 x3 x4 x5) S 33 [(0, .ref (eA E 11)), (2, .int x2), (3, .int x3), (4, .int x4), (5, .int x5)] []) (S : ST) (x2 : Int32) (x3 : Int32) (x4 : Int32) (x5 : Int32) (x6 : Int32) (s0 : Int32) (s1 : Int32) : G E (fX6_describeSetsUpTo_83 F k33 S x2 x3 x4 x5 x6 s0 s1) S 83 [(0, .ref (eA E 11)), (2, .int x2), (3, .int x3), (4, .int x4), (5, .int x5), (6, .int x6)] [.int s0, .int s1, .ref (eA E 44)] := by
  unfold fX6_describeSetsUpTo_83
  refine r_iast X lc_44 dX6_describeSetsUpTo_83 (fun _ => ?_)
  refine r_bindS (fun S83 => ?_)
  refine r_aload_n X 0 rfl dX6_describeSetsUpTo_84 ?_
  refine r_getR X fk_X6_24 lc_11 rfl dX6_describeSetsUpTo_85 ?_
  refine r_iload X 5 rfl dX6_describeSetsUpTo_88 ?_
  refine r_iload X 4 rfl dX6_describeSetsUpTo_90 ?_
  refine r_if_ne (tgt := 105) X dX6_describeSetsUpTo_92 (by decide) (fun _ => ?_) (fun _ => ?_)
  · refine r_aload_n X 0 rfl dX6_describeSetsUpTo_105 ?_
    refine r_getR X fk_X6_24 lc_11 rfl dX6_describeSetsUpTo_106 ?_
    refine r_iload X 4 rfl dX6_describeSetsUpTo_109 ?_
    refine r_iald X lc_45 dX6_describeSetsUpTo_111 (fun _ => ?_)
    refine r_iload X 3 rfl dX6_describeSetsUpTo_112 ?_
    refine r_aload_n X 0 rfl dX6_describeSetsUpTo_114 ?_
    refine r_getI X fk_X6_49 lc_11 rfl dX6_describeSetsUpTo_115 ?_
    refine r_iadd X dX6_describeSetsUpTo_118 ?_
    refine r_mmin X lk_X6_62 km_min_s km_i km_min_c (by decide) (Nat.le_of_ble_eq_true rfl) dX6_describeSetsUpTo_119 ?_
    exact gX6_describeSetsUpTo_122 X F _ h33 _ _ _ _ _ _ _ _
  · refine r_iload X 3 rfl dX6_describeSetsUpTo_95 ?_
    refine r_aload_n X 0 rfl dX6_describeSetsUpTo_97 ?_
    refine r_getI X fk_X6_49 lc_11 rfl dX6_describeSetsUpTo_98 ?_
    refine r_iadd X dX6_describeSetsUpTo_101 ?_
    refine r_goto (tgt := 122) X dX6_describeSetsUpTo_102 (by decide) ?_
    exact gX6_describeSetsUpTo_122 X F _ h33 _ _ _ _ _ _ _ _
def fX6_describeSetsUpTo_33 (F : Nat) : Nat → ST → Int32 → Int32 → Int32 → Int32 → Option (Int32 × ST)
  | 0, _, _, _, _, _ => none
  | n + 1, S, x2, x3, x4, x5 =>
  if x2 ≤ x5 then
    (some ((0 : Int32), S))
  else
    (if (1024 : Int32) ≤ (x5 + x2) then
      (some ((0 : Int32), S))
    else
      (bindI ((x5 + x2)) (fun v53 => if x5 = 0 then
        (fX6_describeSetsUpTo_83 F (fX6_describeSetsUpTo_33 F n) S x2 x3 x4 x5 v53 x4 v53)
      else
        ((if vin x5 1024 = true then fX6_describeSetsUpTo_83 F (fX6_describeSetsUpTo_33 F n) S x2 x3 x4 x5 v53 (jmax (S.1 44 (ix x5)) x4) v53 else none)))))
set_option maxRecDepth 4000 in
theorem gX6_describeSetsUpTo_33 {E : CT} (X : Cx E layC cX6_describeSetsUpTo RX6 9 none 1) (F : Nat) : ∀ (n : Nat) (S : ST) (x2 : Int32) (x3 : Int32) (x4 : Int32) (x5 : Int32), G E (fX6_describeSetsUpTo_33 F n S x2 x3 x4 x5) S 33 [(0, .ref (eA E 11)), (2, .int x2), (3, .int x3), (4, .int x4), (5, .int x5)] []
  | 0, _, _, _, _, _ => r_none
  | n + 1, S, x2, x3, x4, x5 => by
    have ih := gX6_describeSetsUpTo_33 X F n
    unfold fX6_describeSetsUpTo_33
    refine r_iload X 4 rfl dX6_describeSetsUpTo_33 ?_
    refine r_iload_n X 1 rfl dX6_describeSetsUpTo_35 ?_
    refine r_icmp_ge (tgt := 210) X dX6_describeSetsUpTo_36 (by decide) (fun _ => ?_) (fun _ => ?_)
    · exact r_vret X dX6_describeSetsUpTo_210
    · refine r_iload X 4 rfl dX6_describeSetsUpTo_39 ?_
      refine r_iload_n X 1 rfl dX6_describeSetsUpTo_41 ?_
      refine r_iadd X dX6_describeSetsUpTo_42 ?_
      refine r_sipush (v := 1024) X (by decide) dX6_describeSetsUpTo_43 ?_
      refine r_icmp_ge (tgt := 210) X dX6_describeSetsUpTo_46 (by decide) (fun _ => ?_) (fun _ => ?_)
      · exact r_vret X dX6_describeSetsUpTo_210
      · refine r_iload X 4 rfl dX6_describeSetsUpTo_49 ?_
        refine r_iload_n X 1 rfl dX6_describeSetsUpTo_51 ?_
        refine r_iadd X dX6_describeSetsUpTo_52 ?_
        refine r_bindI (fun v53 => ?_)
        refine r_istore (lv' := [(0, _), (2, _), (3, _), (4, _), (5, _), (6, _)]) X (by decide) rfl dX6_describeSetsUpTo_53 ?_
        refine r_aload_n X 0 rfl dX6_describeSetsUpTo_55 ?_
        refine r_getR X fk_X6_21 lc_11 rfl dX6_describeSetsUpTo_56 ?_
        refine r_iload X 5 rfl dX6_describeSetsUpTo_59 ?_
        refine r_iload X 4 rfl dX6_describeSetsUpTo_61 ?_
        refine r_if_ne (tgt := 71) X dX6_describeSetsUpTo_63 (by decide) (fun _ => ?_) (fun _ => ?_)
        · refine r_aload_n X 0 rfl dX6_describeSetsUpTo_71 ?_
          refine r_getR X fk_X6_21 lc_11 rfl dX6_describeSetsUpTo_72 ?_
          refine r_iload X 4 rfl dX6_describeSetsUpTo_75 ?_
          refine r_iald X lc_44 dX6_describeSetsUpTo_77 (fun _ => ?_)
          refine r_iload X 3 rfl dX6_describeSetsUpTo_78 ?_
          refine r_mmax X lk_X6_82 km_max_s km_i km_max_c (by decide) (Nat.le_of_ble_eq_true rfl) dX6_describeSetsUpTo_80 ?_
          exact gX6_describeSetsUpTo_83 X F _ ih _ _ _ _ _ _ _ _
        · refine r_iload X 3 rfl dX6_describeSetsUpTo_66 ?_
          refine r_goto (tgt := 83) X dX6_describeSetsUpTo_68 (by decide) ?_
          exact gX6_describeSetsUpTo_83 X F _ ih _ _ _ _ _ _ _ _
def fX6_describeSetsUpTo (F : Nat) (S : ST) (x1 : Int32) : Option (Int32 × ST) :=
  if x1 < 0 then
    (some ((0 : Int32), S))
  else
    (if x1 < (10 : Int32) then
      (bindI (((1 : Int32) <<< (x1 &&& 31))) (fun v14 => (if vin x1 10 = true then bindI ((S.1 41 (ix x1))) (fun v21 => (if vin x1 10 = true then bindI ((S.1 42 (ix x1))) (fun v28 => fX6_describeSetsUpTo_33 F F S v14 v21 v28 (0 : Int32)) else none)) else none)))
    else
      (some ((0 : Int32), S)))
set_option maxRecDepth 4000 in
theorem gX6_describeSetsUpTo {E : CT} (X : Cx E layC cX6_describeSetsUpTo RX6 9 none 1) (F : Nat) (S : ST) (x1 : Int32) : G E (fX6_describeSetsUpTo F S x1) S 0 [(0, .ref (eA E 11)), (1, .int x1)] [] := by
  unfold fX6_describeSetsUpTo
  refine r_iload_n X 1 rfl dX6_describeSetsUpTo_0 ?_
  refine r_if_lt (tgt := 10) X dX6_describeSetsUpTo_1 (by decide) (fun _ => ?_) (fun _ => ?_)
  · exact r_vret X dX6_describeSetsUpTo_10
  · refine r_iload_n X 1 rfl dX6_describeSetsUpTo_4 ?_
    refine r_bipush (v := 10) X (by decide) dX6_describeSetsUpTo_5 ?_
    refine r_icmp_lt (tgt := 11) X dX6_describeSetsUpTo_7 (by decide) (fun _ => ?_) (fun _ => ?_)
    · refine r_iconst (v := 1) X (by decide) dX6_describeSetsUpTo_11 ?_
      refine r_iload_n X 1 rfl dX6_describeSetsUpTo_12 ?_
      refine r_ishl X dX6_describeSetsUpTo_13 ?_
      refine r_bindI (fun v14 => ?_)
      refine r_istore_n (lv' := [(0, _), (1, _), (2, _)]) X (by decide) rfl dX6_describeSetsUpTo_14 ?_
      refine r_aload_n X 0 rfl dX6_describeSetsUpTo_15 ?_
      refine r_getR X fk_X6_11 lc_11 rfl dX6_describeSetsUpTo_16 ?_
      refine r_iload_n X 1 rfl dX6_describeSetsUpTo_19 ?_
      refine r_iald X lc_41 dX6_describeSetsUpTo_20 (fun _ => ?_)
      refine r_bindI (fun v21 => ?_)
      refine r_istore_n (lv' := [(0, _), (1, _), (2, _), (3, _)]) X (by decide) rfl dX6_describeSetsUpTo_21 ?_
      refine r_aload_n X 0 rfl dX6_describeSetsUpTo_22 ?_
      refine r_getR X fk_X6_15 lc_11 rfl dX6_describeSetsUpTo_23 ?_
      refine r_iload_n X 1 rfl dX6_describeSetsUpTo_26 ?_
      refine r_iald X lc_42 dX6_describeSetsUpTo_27 (fun _ => ?_)
      refine r_bindI (fun v28 => ?_)
      refine r_istore (lv' := [(0, _), (1, _), (2, _), (3, _), (4, _)]) X (by decide) rfl dX6_describeSetsUpTo_28 ?_
      refine r_iconst (v := 0) X (by decide) dX6_describeSetsUpTo_30 ?_
      refine r_istore (lv' := [(0, _), (1, _), (2, _), (3, _), (4, _), (5, _)]) X (by decide) rfl dX6_describeSetsUpTo_31 ?_
      refine r_sub [0, 2, 3, 4, 5] rfl ?_
      exact gX6_describeSetsUpTo_33 X F F _ _ _ _ _
    · exact r_vret X dX6_describeSetsUpTo_10
theorem mX6_describeSetsUpTo (F : Nat) (S : ST) (x1 : Int32) : MetS yX6_describeSetsUpTo cX6_describeSetsUpTo 9 none 1 layC (fX6_describeSetsUpTo F S x1) S (fun ad => [.ref (ad 11), .int x1]) := mk_met (fun ad => [(0, .ref (ad 11)), (1, .int x1)]) (by decide) (fun _ => Nat.le_of_ble_eq_true rfl) (fun _ => rfl) (fun E X => gX6_describeSetsUpTo X F S x1)
def fX6_outWith (F : Nat) (S : ST) (x1 : Int32) (x2 : Int32) : Option (Int32 × ST) :=
  if x1 < 0 then
    (some ((-1 : Int32), S))
  else
    (if (1024 : Int32) ≤ x1 then
      (some ((-1 : Int32), S))
    else
      (if x2 < 0 then
        (some ((-1 : Int32), S))
      else
        (if x2 < (1024 : Int32) then
          ((if vin x1 1024 = true then if (S.1 43 (ix x1)) = 0 then
            (some ((-1 : Int32), S))
          else
            ((if vin x2 1024 = true then if (S.1 46 (ix x2)) = (-1 : Int32) then
              (some ((-1 : Int32), S))
            else
              ((if vin x2 1024 = true then bindI (((S.1 46 (ix x2)) / (1024 : Int32))) (fun v55 => (if vin x1 1024 = true then if v55 ≤ (S.1 45 (ix x1)) then
                ((if vin x1 1024 = true then (if vin x1 1024 = true then some ((((jmax v55 (S.1 44 (ix x1))) + (S.1 11 10)) + ((S.1 11 11) * (S.1 43 (ix x1)))), S) else none) else none))
              else
                (some ((-1 : Int32), S)) else none)) else none)) else none)) else none))
        else
          (some ((-1 : Int32), S)))))
set_option maxRecDepth 4000 in
theorem gX6_outWith {E : CT} (X : Cx E layC cX6_outWith RX6 4 (some .int) 1) (F : Nat) (S : ST) (x1 : Int32) (x2 : Int32) : G E (fX6_outWith F S x1 x2) S 0 [(0, .ref (eA E 11)), (1, .int x1), (2, .int x2)] [] := by
  unfold fX6_outWith
  refine r_iload_n X 1 rfl dX6_outWith_0 ?_
  refine r_if_lt (tgt := 22) X dX6_outWith_1 (by decide) (fun _ => ?_) (fun _ => ?_)
  · refine r_iconst (v := -1) X (by decide) dX6_outWith_22 ?_
    exact r_iret X dX6_outWith_23
  · refine r_iload_n X 1 rfl dX6_outWith_4 ?_
    refine r_sipush (v := 1024) X (by decide) dX6_outWith_5 ?_
    refine r_icmp_ge (tgt := 22) X dX6_outWith_8 (by decide) (fun _ => ?_) (fun _ => ?_)
    · refine r_iconst (v := -1) X (by decide) dX6_outWith_22 ?_
      exact r_iret X dX6_outWith_23
    · refine r_iload_n X 2 rfl dX6_outWith_11 ?_
      refine r_if_lt (tgt := 22) X dX6_outWith_12 (by decide) (fun _ => ?_) (fun _ => ?_)
      · refine r_iconst (v := -1) X (by decide) dX6_outWith_22 ?_
        exact r_iret X dX6_outWith_23
      · refine r_iload_n X 2 rfl dX6_outWith_15 ?_
        refine r_sipush (v := 1024) X (by decide) dX6_outWith_16 ?_
        refine r_icmp_lt (tgt := 24) X dX6_outWith_19 (by decide) (fun _ => ?_) (fun _ => ?_)
        · refine r_aload_n X 0 rfl dX6_outWith_24 ?_
          refine r_getR X fk_X6_18 lc_11 rfl dX6_outWith_25 ?_
          refine r_iload_n X 1 rfl dX6_outWith_28 ?_
          refine r_iald X lc_43 dX6_outWith_29 (fun _ => ?_)
          refine r_if_eq (tgt := 43) X dX6_outWith_30 (by decide) (fun _ => ?_) (fun _ => ?_)
          · refine r_iconst (v := -1) X (by decide) dX6_outWith_43 ?_
            exact r_iret X dX6_outWith_44
          · refine r_aload_n X 0 rfl dX6_outWith_33 ?_
            refine r_getR X fk_X6_27 lc_11 rfl dX6_outWith_34 ?_
            refine r_iload_n X 2 rfl dX6_outWith_37 ?_
            refine r_iald X lc_46 dX6_outWith_38 (fun _ => ?_)
            refine r_iconst (v := -1) X (by decide) dX6_outWith_39 ?_
            refine r_icmp_ne (tgt := 45) X dX6_outWith_40 (by decide) (fun _ => ?_) (fun _ => ?_)
            · refine r_aload_n X 0 rfl dX6_outWith_45 ?_
              refine r_getR X fk_X6_27 lc_11 rfl dX6_outWith_46 ?_
              refine r_iload_n X 2 rfl dX6_outWith_49 ?_
              refine r_iald X lc_46 dX6_outWith_50 (fun _ => ?_)
              refine r_sipush (v := 1024) X (by decide) dX6_outWith_51 ?_
              refine r_idivK X dX6_outWith_54 (by decide) ?_
              refine r_bindI (fun v55 => ?_)
              refine r_istore_n (lv' := [(0, _), (1, _), (2, _), (3, _)]) X (by decide) rfl dX6_outWith_55 ?_
              refine r_iload_n X 3 rfl dX6_outWith_56 ?_
              refine r_aload_n X 0 rfl dX6_outWith_57 ?_
              refine r_getR X fk_X6_24 lc_11 rfl dX6_outWith_58 ?_
              refine r_iload_n X 1 rfl dX6_outWith_61 ?_
              refine r_iald X lc_45 dX6_outWith_62 (fun _ => ?_)
              refine r_icmp_le (tgt := 70) X dX6_outWith_63 (by decide) (fun _ => ?_) (fun _ => ?_)
              · refine r_iload_n X 3 rfl dX6_outWith_70 ?_
                refine r_aload_n X 0 rfl dX6_outWith_71 ?_
                refine r_getR X fk_X6_21 lc_11 rfl dX6_outWith_72 ?_
                refine r_iload_n X 1 rfl dX6_outWith_75 ?_
                refine r_iald X lc_44 dX6_outWith_76 (fun _ => ?_)
                refine r_mmax X lk_X6_82 km_max_s km_i km_max_c (by decide) (Nat.le_of_ble_eq_true rfl) dX6_outWith_77 ?_
                refine r_aload_n X 0 rfl dX6_outWith_80 ?_
                refine r_getI X fk_X6_43 lc_11 rfl dX6_outWith_81 ?_
                refine r_iadd X dX6_outWith_84 ?_
                refine r_aload_n X 0 rfl dX6_outWith_85 ?_
                refine r_getI X fk_X6_46 lc_11 rfl dX6_outWith_86 ?_
                refine r_aload_n X 0 rfl dX6_outWith_89 ?_
                refine r_getR X fk_X6_18 lc_11 rfl dX6_outWith_90 ?_
                refine r_iload_n X 1 rfl dX6_outWith_93 ?_
                refine r_iald X lc_43 dX6_outWith_94 (fun _ => ?_)
                refine r_imul X dX6_outWith_95 ?_
                refine r_iadd X dX6_outWith_96 ?_
                exact r_iret X dX6_outWith_97
              · refine r_iconst (v := -1) X (by decide) dX6_outWith_66 ?_
                refine r_goto (tgt := 97) X dX6_outWith_67 (by decide) ?_
                exact r_iret X dX6_outWith_97
            · refine r_iconst (v := -1) X (by decide) dX6_outWith_43 ?_
              exact r_iret X dX6_outWith_44
        · refine r_iconst (v := -1) X (by decide) dX6_outWith_22 ?_
          exact r_iret X dX6_outWith_23
theorem mX6_outWith (F : Nat) (S : ST) (x1 : Int32) (x2 : Int32) : MetS yX6_outWith cX6_outWith 4 (some .int) 1 layC (fX6_outWith F S x1 x2) S (fun ad => [.ref (ad 11), .int x1, .int x2]) := mk_met (fun ad => [(0, .ref (ad 11)), (1, .int x1), (2, .int x2)]) (by decide) (fun _ => Nat.le_of_ble_eq_true rfl) (fun _ => rfl) (fun E X => gX6_outWith X F S x1 x2)
def fX6_findEnding_65 (F : Nat) (k15 : ST → Int32 → Int32 → Int32 → Int32 → Int32 → Option (Int32 × ST)) (S : ST) (x1 : Int32) (x3 : Int32) (x4 : Int32) (x5 : Int32) (x6 : Int32) : Option (Int32 × ST) :=
  bindI (((x6 * (1024 : Int32)) + x4)) (fun v74 => k15 S x1 v74 x3 x4 (x5 + (1 : Int32)))
set_option maxRecDepth 4000 in
theorem gX6_findEnding_65 {E : CT} (X : Cx E layC cX6_findEnding RX6 7 (some .int) 2) (F : Nat) (k15 : ST → Int32 → Int32 → Int32 → Int32 → Int32 → Option (Int32 × ST)) (h15 : ∀ (S : ST) (x1 : Int32) (x2 : Int32) (x3 : Int32) (x4 : Int32) (x5 : Int32), G E (k15 S x1 x2 x3 x4 x5) S 15 [(0, .ref (eA E 11)), (1, .int x1), (2, .int x2), (3, .int x3), (4, .int x4), (5, .int x5)] []) (S : ST) (x1 : Int32) (x3 : Int32) (x4 : Int32) (x5 : Int32) (x6 : Int32) : G E (fX6_findEnding_65 F k15 S x1 x3 x4 x5 x6) S 65 [(0, .ref (eA E 11)), (1, .int x1), (3, .int x3), (4, .int x4), (5, .int x5), (6, .int x6)] [] := by
  unfold fX6_findEnding_65
  refine r_iload X 5 rfl dX6_findEnding_65 ?_
  refine r_sipush (v := 1024) X (by decide) dX6_findEnding_67 ?_
  refine r_imul X dX6_findEnding_70 ?_
  refine r_iload X 3 rfl dX6_findEnding_71 ?_
  refine r_iadd X dX6_findEnding_73 ?_
  refine r_bindI (fun v74 => ?_)
  refine r_istore_n (lv' := [(0, _), (1, _), (2, _), (3, _), (4, _), (5, _), (6, _)]) X (by decide) rfl dX6_findEnding_74 ?_
  refine r_iinc (lv' := [(0, _), (1, _), (2, _), (3, _), (4, _), (5, _), (6, _)]) (dl := 1) X 5 rfl (by decide) (by decide) rfl dX6_findEnding_75 ?_
  refine r_goto (tgt := 15) X dX6_findEnding_78 (by decide) ?_
  refine r_sub [0, 1, 2, 3, 4, 5] rfl ?_
  exact h15 _ _ _ _ _ _
def fX6_findEnding_15 (F : Nat) : Nat → ST → Int32 → Int32 → Int32 → Int32 → Int32 → Option (Int32 × ST)
  | 0, _, _, _, _, _, _ => none
  | n + 1, S, x1, x2, x3, x4, x5 =>
  if x3 ≤ x5 then
    (some (x2, S))
  else
    (bindI (((x4 - x1) &&& x1)) (fun v27 => (fX6_outWith F S v27 (x1 - v27)).bind (fun q36 => if q36.1 = (-1 : Int32) then
      (fX6_findEnding_15 F n q36.2 x1 x2 x3 v27 (x5 + (1 : Int32)))
    else
      (if x2 = (-1 : Int32) then
        (fX6_findEnding_65 F (fX6_findEnding_15 F n) q36.2 x1 x3 v27 x5 q36.1)
      else
        (if x2 ≤ ((q36.1 * (1024 : Int32)) + v27) then
          (fX6_findEnding_15 F n q36.2 x1 x2 x3 v27 (x5 + (1 : Int32)))
        else
          (fX6_findEnding_65 F (fX6_findEnding_15 F n) q36.2 x1 x3 v27 x5 q36.1))))))
set_option maxRecDepth 4000 in
theorem gX6_findEnding_15 {E : CT} (X : Cx E layC cX6_findEnding RX6 7 (some .int) 2) (F : Nat) : ∀ (n : Nat) (S : ST) (x1 : Int32) (x2 : Int32) (x3 : Int32) (x4 : Int32) (x5 : Int32), G E (fX6_findEnding_15 F n S x1 x2 x3 x4 x5) S 15 [(0, .ref (eA E 11)), (1, .int x1), (2, .int x2), (3, .int x3), (4, .int x4), (5, .int x5)] []
  | 0, _, _, _, _, _, _ => r_none
  | n + 1, S, x1, x2, x3, x4, x5 => by
    have ih := gX6_findEnding_15 X F n
    unfold fX6_findEnding_15
    refine r_iload X 5 rfl dX6_findEnding_15 ?_
    refine r_iload_n X 3 rfl dX6_findEnding_17 ?_
    refine r_icmp_ge (tgt := 81) X dX6_findEnding_18 (by decide) (fun _ => ?_) (fun _ => ?_)
    · refine r_iload_n X 2 rfl dX6_findEnding_81 ?_
      exact r_iret X dX6_findEnding_82
    · refine r_iload X 4 rfl dX6_findEnding_21 ?_
      refine r_iload_n X 1 rfl dX6_findEnding_23 ?_
      refine r_isub X dX6_findEnding_24 ?_
      refine r_iload_n X 1 rfl dX6_findEnding_25 ?_
      refine r_iand X dX6_findEnding_26 ?_
      refine r_bindI (fun v27 => ?_)
      refine r_istore (lv' := [(0, _), (1, _), (2, _), (3, _), (4, _), (5, _)]) X (by decide) rfl dX6_findEnding_27 ?_
      refine r_aload_n X 0 rfl dX6_findEnding_29 ?_
      refine r_iload X 4 rfl dX6_findEnding_30 ?_
      refine r_iload_n X 1 rfl dX6_findEnding_32 ?_
      refine r_iload X 4 rfl dX6_findEnding_33 ?_
      refine r_isub X dX6_findEnding_35 ?_
      refine r_callV X (mX6_outWith _ _ _ _) mk_X6_outWith lk_X6_90 lc_11 rfl rfl (by decide) (by decide) (Nat.le_of_ble_eq_true rfl) rfl dX6_findEnding_36 (fun q36 _ => ?_)
      refine r_istore (lv' := [(0, _), (1, _), (2, _), (3, _), (4, _), (5, _), (6, _)]) X (by decide) rfl dX6_findEnding_39 ?_
      refine r_iload X 6 rfl dX6_findEnding_41 ?_
      refine r_iconst (v := -1) X (by decide) dX6_findEnding_43 ?_
      refine r_icmp_eq (tgt := 75) X dX6_findEnding_44 (by decide) (fun _ => ?_) (fun _ => ?_)
      · refine r_iinc (lv' := [(0, _), (1, _), (2, _), (3, _), (4, _), (5, _), (6, _)]) (dl := 1) X 5 rfl (by decide) (by decide) rfl dX6_findEnding_75 ?_
        refine r_goto (tgt := 15) X dX6_findEnding_78 (by decide) ?_
        refine r_sub [0, 1, 2, 3, 4, 5] rfl ?_
        exact ih _ _ _ _ _ _
      · refine r_iload_n X 2 rfl dX6_findEnding_47 ?_
        refine r_iconst (v := -1) X (by decide) dX6_findEnding_48 ?_
        refine r_icmp_eq (tgt := 65) X dX6_findEnding_49 (by decide) (fun _ => ?_) (fun _ => ?_)
        · refine r_sub [0, 1, 3, 4, 5, 6] rfl ?_
          exact gX6_findEnding_65 X F _ ih _ _ _ _ _ _
        · refine r_iload X 6 rfl dX6_findEnding_52 ?_
          refine r_sipush (v := 1024) X (by decide) dX6_findEnding_54 ?_
          refine r_imul X dX6_findEnding_57 ?_
          refine r_iload X 4 rfl dX6_findEnding_58 ?_
          refine r_iadd X dX6_findEnding_60 ?_
          refine r_iload_n X 2 rfl dX6_findEnding_61 ?_
          refine r_icmp_ge (tgt := 75) X dX6_findEnding_62 (by decide) (fun _ => ?_) (fun _ => ?_)
          · refine r_iinc (lv' := [(0, _), (1, _), (2, _), (3, _), (4, _), (5, _), (6, _)]) (dl := 1) X 5 rfl (by decide) (by decide) rfl dX6_findEnding_75 ?_
            refine r_goto (tgt := 15) X dX6_findEnding_78 (by decide) ?_
            refine r_sub [0, 1, 2, 3, 4, 5] rfl ?_
            exact ih _ _ _ _ _ _
          · refine r_sub [0, 1, 3, 4, 5, 6] rfl ?_
            exact gX6_findEnding_65 X F _ ih _ _ _ _ _ _
def fX6_findEnding (F : Nat) (S : ST) (x1 : Int32) : Option (Int32 × ST) :=
  (fJ6_bitCount_0f7a4 F S x1).bind (fun q4 => bindI (((1 : Int32) <<< (q4.1 &&& 31))) (fun v8 => fX6_findEnding_15 F F q4.2 x1 (-1 : Int32) v8 (0 : Int32) (1 : Int32)))
set_option maxRecDepth 4000 in
theorem gX6_findEnding {E : CT} (X : Cx E layC cX6_findEnding RX6 7 (some .int) 2) (F : Nat) (S : ST) (x1 : Int32) : G E (fX6_findEnding F S x1) S 0 [(0, .ref (eA E 11)), (1, .int x1)] [] := by
  unfold fX6_findEnding
  refine r_iconst (v := -1) X (by decide) dX6_findEnding_0 ?_
  refine r_istore_n (lv' := [(0, _), (1, _), (2, _)]) X (by decide) rfl dX6_findEnding_1 ?_
  refine r_iconst (v := 1) X (by decide) dX6_findEnding_2 ?_
  refine r_iload_n X 1 rfl dX6_findEnding_3 ?_
  refine r_callS X (mJ6_bitCount_0f7a4 _ _ _) mk_J6_bitCount_0f7a4 lk_X6_85 rfl (by decide) (by decide) (Nat.le_of_ble_eq_true rfl) rfl dX6_findEnding_4 (fun q4 _ => ?_)
  refine r_ishl X dX6_findEnding_7 ?_
  refine r_bindI (fun v8 => ?_)
  refine r_istore_n (lv' := [(0, _), (1, _), (2, _), (3, _)]) X (by decide) rfl dX6_findEnding_8 ?_
  refine r_iconst (v := 0) X (by decide) dX6_findEnding_9 ?_
  refine r_istore (lv' := [(0, _), (1, _), (2, _), (3, _), (4, _)]) X (by decide) rfl dX6_findEnding_10 ?_
  refine r_iconst (v := 1) X (by decide) dX6_findEnding_12 ?_
  refine r_istore (lv' := [(0, _), (1, _), (2, _), (3, _), (4, _), (5, _)]) X (by decide) rfl dX6_findEnding_13 ?_
  exact gX6_findEnding_15 X F F _ _ _ _ _ _
theorem mX6_findEnding (F : Nat) (S : ST) (x1 : Int32) : MetS yX6_findEnding cX6_findEnding 7 (some .int) 2 layC (fX6_findEnding F S x1) S (fun ad => [.ref (ad 11), .int x1]) := mk_met (fun ad => [(0, .ref (ad 11)), (1, .int x1)]) (by decide) (fun _ => Nat.le_of_ble_eq_true rfl) (fun _ => rfl) (fun E X => gX6_findEnding X F S x1)
def fX6_lastLoadOf (F : Nat) (S : ST) (x1 : Int32) : Option (Int32 × ST) :=
  if x1 < 0 then
    (some ((0 : Int32), S))
  else
    (if (1024 : Int32) ≤ x1 then
      (some ((0 : Int32), S))
    else
      ((if vin x1 1024 = true then if (S.1 46 (ix x1)) = (-1 : Int32) then
        (some ((0 : Int32), S))
      else
        ((if vin x1 1024 = true then some (((S.1 46 (ix x1)) - (S.1 46 (ix x1)) / (1024 : Int32) * (1024 : Int32)), S) else none)) else none)))
set_option maxRecDepth 4000 in
theorem gX6_lastLoadOf {E : CT} (X : Cx E layC cX6_lastLoadOf RX6 2 (some .int) 0) (F : Nat) (S : ST) (x1 : Int32) : G E (fX6_lastLoadOf F S x1) S 0 [(0, .ref (eA E 11)), (1, .int x1)] [] := by
  unfold fX6_lastLoadOf
  refine r_iload_n X 1 rfl dX6_lastLoadOf_0 ?_
  refine r_if_lt (tgt := 21) X dX6_lastLoadOf_1 (by decide) (fun _ => ?_) (fun _ => ?_)
  · refine r_iconst (v := 0) X (by decide) dX6_lastLoadOf_21 ?_
    refine r_goto (tgt := 35) X dX6_lastLoadOf_22 (by decide) ?_
    exact r_iret X dX6_lastLoadOf_35
  · refine r_iload_n X 1 rfl dX6_lastLoadOf_4 ?_
    refine r_sipush (v := 1024) X (by decide) dX6_lastLoadOf_5 ?_
    refine r_icmp_ge (tgt := 21) X dX6_lastLoadOf_8 (by decide) (fun _ => ?_) (fun _ => ?_)
    · refine r_iconst (v := 0) X (by decide) dX6_lastLoadOf_21 ?_
      refine r_goto (tgt := 35) X dX6_lastLoadOf_22 (by decide) ?_
      exact r_iret X dX6_lastLoadOf_35
    · refine r_aload_n X 0 rfl dX6_lastLoadOf_11 ?_
      refine r_getR X fk_X6_27 lc_11 rfl dX6_lastLoadOf_12 ?_
      refine r_iload_n X 1 rfl dX6_lastLoadOf_15 ?_
      refine r_iald X lc_46 dX6_lastLoadOf_16 (fun _ => ?_)
      refine r_iconst (v := -1) X (by decide) dX6_lastLoadOf_17 ?_
      refine r_icmp_ne (tgt := 25) X dX6_lastLoadOf_18 (by decide) (fun _ => ?_) (fun _ => ?_)
      · refine r_aload_n X 0 rfl dX6_lastLoadOf_25 ?_
        refine r_getR X fk_X6_27 lc_11 rfl dX6_lastLoadOf_26 ?_
        refine r_iload_n X 1 rfl dX6_lastLoadOf_29 ?_
        refine r_iald X lc_46 dX6_lastLoadOf_30 (fun _ => ?_)
        refine r_sipush (v := 1024) X (by decide) dX6_lastLoadOf_31 ?_
        refine r_iremK X dX6_lastLoadOf_34 (by decide) ?_
        exact r_iret X dX6_lastLoadOf_35
      · refine r_iconst (v := 0) X (by decide) dX6_lastLoadOf_21 ?_
        refine r_goto (tgt := 35) X dX6_lastLoadOf_22 (by decide) ?_
        exact r_iret X dX6_lastLoadOf_35
theorem mX6_lastLoadOf (F : Nat) (S : ST) (x1 : Int32) : MetS yX6_lastLoadOf cX6_lastLoadOf 2 (some .int) 0 layC (fX6_lastLoadOf F S x1) S (fun ad => [.ref (ad 11), .int x1]) := mk_met (fun ad => [(0, .ref (ad 11)), (1, .int x1)]) (by decide) (fun _ => Nat.le_of_ble_eq_true rfl) (fun _ => rfl) (fun E X => gX6_lastLoadOf X F S x1)
def fX6_writeLoad (F : Nat) (S : ST) (x1 : Int32) (x2 : Int32) (x3 : Int32) : Option (Int32 × ST) :=
  if x1 < 0 then
    (some ((0 : Int32), S))
  else
    (if (10 : Int32) ≤ x1 then
      (some ((0 : Int32), S))
    else
      (if x2 < 0 then
        (some ((0 : Int32), S))
      else
        (if x2 < (1024 : Int32) then
          ((if vin x1 10 = true then bindS (us S 47 (ix x1) x2) (fun S28 => (if vin x2 1024 = true then (if vin x1 10 = true then bindS (us S28 48 (ix x1) (jmax x3 (S28.1 44 (ix x2)))) (fun S44 => some ((0 : Int32), S44)) else none) else none)) else none))
        else
          (some ((0 : Int32), S)))))
set_option maxRecDepth 4000 in
theorem gX6_writeLoad {E : CT} (X : Cx E layC cX6_writeLoad RX6 4 none 1) (F : Nat) (S : ST) (x1 : Int32) (x2 : Int32) (x3 : Int32) : G E (fX6_writeLoad F S x1 x2 x3) S 0 [(0, .ref (eA E 11)), (1, .int x1), (2, .int x2), (3, .int x3)] [] := by
  unfold fX6_writeLoad
  refine r_iload_n X 1 rfl dX6_writeLoad_0 ?_
  refine r_if_lt (tgt := 21) X dX6_writeLoad_1 (by decide) (fun _ => ?_) (fun _ => ?_)
  · exact r_vret X dX6_writeLoad_21
  · refine r_iload_n X 1 rfl dX6_writeLoad_4 ?_
    refine r_bipush (v := 10) X (by decide) dX6_writeLoad_5 ?_
    refine r_icmp_ge (tgt := 21) X dX6_writeLoad_7 (by decide) (fun _ => ?_) (fun _ => ?_)
    · exact r_vret X dX6_writeLoad_21
    · refine r_iload_n X 2 rfl dX6_writeLoad_10 ?_
      refine r_if_lt (tgt := 21) X dX6_writeLoad_11 (by decide) (fun _ => ?_) (fun _ => ?_)
      · exact r_vret X dX6_writeLoad_21
      · refine r_iload_n X 2 rfl dX6_writeLoad_14 ?_
        refine r_sipush (v := 1024) X (by decide) dX6_writeLoad_15 ?_
        refine r_icmp_lt (tgt := 22) X dX6_writeLoad_18 (by decide) (fun _ => ?_) (fun _ => ?_)
        · refine r_aload_n X 0 rfl dX6_writeLoad_22 ?_
          refine r_getR X fk_X6_30 lc_11 rfl dX6_writeLoad_23 ?_
          refine r_iload_n X 1 rfl dX6_writeLoad_26 ?_
          refine r_iload_n X 2 rfl dX6_writeLoad_27 ?_
          refine r_iast X lc_47 dX6_writeLoad_28 (fun _ => ?_)
          refine r_bindS (fun S28 => ?_)
          refine r_aload_n X 0 rfl dX6_writeLoad_29 ?_
          refine r_getR X fk_X6_33 lc_11 rfl dX6_writeLoad_30 ?_
          refine r_iload_n X 1 rfl dX6_writeLoad_33 ?_
          refine r_iload_n X 3 rfl dX6_writeLoad_34 ?_
          refine r_aload_n X 0 rfl dX6_writeLoad_35 ?_
          refine r_getR X fk_X6_21 lc_11 rfl dX6_writeLoad_36 ?_
          refine r_iload_n X 2 rfl dX6_writeLoad_39 ?_
          refine r_iald X lc_44 dX6_writeLoad_40 (fun _ => ?_)
          refine r_mmax X lk_X6_82 km_max_s km_i km_max_c (by decide) (Nat.le_of_ble_eq_true rfl) dX6_writeLoad_41 ?_
          refine r_iast X lc_48 dX6_writeLoad_44 (fun _ => ?_)
          refine r_bindS (fun S44 => ?_)
          exact r_vret X dX6_writeLoad_45
        · exact r_vret X dX6_writeLoad_21
theorem mX6_writeLoad (F : Nat) (S : ST) (x1 : Int32) (x2 : Int32) (x3 : Int32) : MetS yX6_writeLoad cX6_writeLoad 4 none 1 layC (fX6_writeLoad F S x1 x2 x3) S (fun ad => [.ref (ad 11), .int x1, .int x2, .int x3]) := mk_met (fun ad => [(0, .ref (ad 11)), (1, .int x1), (2, .int x2), (3, .int x3)]) (by decide) (fun _ => Nat.le_of_ble_eq_true rfl) (fun _ => rfl) (fun E X => gX6_writeLoad X F S x1 x2 x3)
def fX6_listLoads_58 (F : Nat) : Nat → ST → Int32 → Int32 → Option (Int32 × ST)
  | 0, _, _, _ => none
  | n + 1, S, x1, x2 =>
  if x2 < 0 then
    (some ((0 : Int32), S))
  else
    ((fX6_lastLoadOf F S x1).bind (fun q64 => bindI ((x1 - q64.1)) (fun v71 => (fX6_outOf F q64.2 v71).bind (fun q77 => (fX6_writeLoad F q77.2 x2 q64.1 q77.1).bind (fun q80 => fX6_listLoads_58 F n q80.2 v71 (x2 + (-1 : Int32)))))))
set_option maxRecDepth 4000 in
theorem gX6_listLoads_58 {E : CT} (X : Cx E layC cX6_listLoads RX6 4 none 2) (F : Nat) : ∀ (n : Nat) (S : ST) (x1 : Int32) (x2 : Int32), G E (fX6_listLoads_58 F n S x1 x2) S 58 [(0, .ref (eA E 11)), (1, .int x1), (2, .int x2)] []
  | 0, _, _, _ => r_none
  | n + 1, S, x1, x2 => by
    have ih := gX6_listLoads_58 X F n
    unfold fX6_listLoads_58
    refine r_iload_n X 2 rfl dX6_listLoads_58 ?_
    refine r_if_lt (tgt := 89) X dX6_listLoads_59 (by decide) (fun _ => ?_) (fun _ => ?_)
    · exact r_vret X dX6_listLoads_89
    · refine r_aload_n X 0 rfl dX6_listLoads_62 ?_
      refine r_iload_n X 1 rfl dX6_listLoads_63 ?_
      refine r_callV X (mX6_lastLoadOf _ _ _) mk_X6_lastLoadOf lk_X6_96 lc_11 rfl rfl (by decide) (by decide) (Nat.le_of_ble_eq_true rfl) rfl dX6_listLoads_64 (fun q64 _ => ?_)
      refine r_istore_n (lv' := [(0, _), (1, _), (2, _), (3, _)]) X (by decide) rfl dX6_listLoads_67 ?_
      refine r_iload_n X 1 rfl dX6_listLoads_68 ?_
      refine r_iload_n X 3 rfl dX6_listLoads_69 ?_
      refine r_isub X dX6_listLoads_70 ?_
      refine r_bindI (fun v71 => ?_)
      refine r_istore_n (lv' := [(0, _), (1, _), (2, _), (3, _)]) X (by decide) rfl dX6_listLoads_71 ?_
      refine r_aload_n X 0 rfl dX6_listLoads_72 ?_
      refine r_iload_n X 2 rfl dX6_listLoads_73 ?_
      refine r_iload_n X 3 rfl dX6_listLoads_74 ?_
      refine r_aload_n X 0 rfl dX6_listLoads_75 ?_
      refine r_iload_n X 1 rfl dX6_listLoads_76 ?_
      refine r_callV X (mX6_outOf _ _ _) mk_X6_outOf lk_X6_93 lc_11 rfl rfl (by decide) (by decide) (Nat.le_of_ble_eq_true rfl) rfl dX6_listLoads_77 (fun q77 _ => ?_)
      refine r_callVv X (mX6_writeLoad _ _ _ _ _) mk_X6_writeLoad lk_X6_99 lc_11 rfl rfl (by decide) (by decide) (Nat.le_of_ble_eq_true rfl) rfl dX6_listLoads_80 (fun q80 _ => ?_)
      refine r_iinc (lv' := [(0, _), (1, _), (2, _), (3, _)]) (dl := -1) X 2 rfl (by decide) (by decide) rfl dX6_listLoads_83 ?_
      refine r_goto (tgt := 58) X dX6_listLoads_86 (by decide) ?_
      refine r_sub [0, 1, 2] rfl ?_
      exact ih _ _ _
def fX6_listLoads_46 (F : Nat) (S : ST) : Option (Int32 × ST) :=
  bindI ((S.1 11 13)) (fun v50 => bindI (((S.1 11 14) - (1 : Int32))) (fun v57 => fX6_listLoads_58 F F S v50 v57))
set_option maxRecDepth 4000 in
theorem gX6_listLoads_46 {E : CT} (X : Cx E layC cX6_listLoads RX6 4 none 2) (F : Nat) (S : ST) : G E (fX6_listLoads_46 F S) S 46 [(0, .ref (eA E 11))] [] := by
  unfold fX6_listLoads_46
  refine r_aload_n X 0 rfl dX6_listLoads_46 ?_
  refine r_getI X fk_X6_52 lc_11 rfl dX6_listLoads_47 ?_
  refine r_bindI (fun v50 => ?_)
  refine r_istore_n (lv' := [(0, _), (1, _)]) X (by decide) rfl dX6_listLoads_50 ?_
  refine r_aload_n X 0 rfl dX6_listLoads_51 ?_
  refine r_getI X fk_X6_55 lc_11 rfl dX6_listLoads_52 ?_
  refine r_iconst (v := 1) X (by decide) dX6_listLoads_55 ?_
  refine r_isub X dX6_listLoads_56 ?_
  refine r_bindI (fun v57 => ?_)
  refine r_istore_n (lv' := [(0, _), (1, _), (2, _)]) X (by decide) rfl dX6_listLoads_57 ?_
  exact gX6_listLoads_58 X F F _ _ _
def fX6_listLoads_12 (F : Nat) : Nat → ST → Int32 → Int32 → Option (Int32 × ST)
  | 0, _, _, _ => none
  | n + 1, S, x1, x2 =>
  if (10 : Int32) ≤ x2 then
    (fX6_listLoads_46 F S)
  else
    (if x1 ≤ 0 then
      (fX6_listLoads_46 F S)
    else
      ((fX6_lastLoadOf F S x1).bind (fun q25 => bindI ((x1 - q25.1)) (fun v29 => bindS (us q25.2 11 14 ((q25.2.1 11 14) + (1 : Int32))) (fun S37 => fX6_listLoads_12 F n S37 v29 (x2 + (1 : Int32)))))))
set_option maxRecDepth 4000 in
theorem gX6_listLoads_12 {E : CT} (X : Cx E layC cX6_listLoads RX6 4 none 2) (F : Nat) : ∀ (n : Nat) (S : ST) (x1 : Int32) (x2 : Int32), G E (fX6_listLoads_12 F n S x1 x2) S 12 [(0, .ref (eA E 11)), (1, .int x1), (2, .int x2)] []
  | 0, _, _, _ => r_none
  | n + 1, S, x1, x2 => by
    have ih := gX6_listLoads_12 X F n
    unfold fX6_listLoads_12
    refine r_iload_n X 2 rfl dX6_listLoads_12 ?_
    refine r_bipush (v := 10) X (by decide) dX6_listLoads_13 ?_
    refine r_icmp_ge (tgt := 46) X dX6_listLoads_15 (by decide) (fun _ => ?_) (fun _ => ?_)
    · refine r_sub [0] rfl ?_
      exact gX6_listLoads_46 X F _
    · refine r_iload_n X 1 rfl dX6_listLoads_18 ?_
      refine r_if_le (tgt := 46) X dX6_listLoads_19 (by decide) (fun _ => ?_) (fun _ => ?_)
      · refine r_sub [0] rfl ?_
        exact gX6_listLoads_46 X F _
      · refine r_iload_n X 1 rfl dX6_listLoads_22 ?_
        refine r_aload_n X 0 rfl dX6_listLoads_23 ?_
        refine r_iload_n X 1 rfl dX6_listLoads_24 ?_
        refine r_callV X (mX6_lastLoadOf _ _ _) mk_X6_lastLoadOf lk_X6_96 lc_11 rfl rfl (by decide) (by decide) (Nat.le_of_ble_eq_true rfl) rfl dX6_listLoads_25 (fun q25 _ => ?_)
        refine r_isub X dX6_listLoads_28 ?_
        refine r_bindI (fun v29 => ?_)
        refine r_istore_n (lv' := [(0, _), (1, _), (2, _)]) X (by decide) rfl dX6_listLoads_29 ?_
        refine r_aload_n X 0 rfl dX6_listLoads_30 ?_
        refine r_dup X rfl dX6_listLoads_31 ?_
        refine r_getI X fk_X6_55 lc_11 rfl dX6_listLoads_32 ?_
        refine r_iconst (v := 1) X (by decide) dX6_listLoads_35 ?_
        refine r_iadd X dX6_listLoads_36 ?_
        refine r_putI X pk_X6_55 lc_11 rfl dX6_listLoads_37 ?_
        refine r_bindS (fun S37 => ?_)
        refine r_iinc (lv' := [(0, _), (1, _), (2, _)]) (dl := 1) X 2 rfl (by decide) (by decide) rfl dX6_listLoads_40 ?_
        refine r_goto (tgt := 12) X dX6_listLoads_43 (by decide) ?_
        exact ih _ _ _
def fX6_listLoads (F : Nat) (S : ST) : Option (Int32 × ST) :=
  bindS (us S 11 14 (0 : Int32)) (fun S2 => bindI ((S2.1 11 13)) (fun v9 => fX6_listLoads_12 F F S2 v9 (0 : Int32)))
set_option maxRecDepth 4000 in
theorem gX6_listLoads {E : CT} (X : Cx E layC cX6_listLoads RX6 4 none 2) (F : Nat) (S : ST) : G E (fX6_listLoads F S) S 0 [(0, .ref (eA E 11))] [] := by
  unfold fX6_listLoads
  refine r_aload_n X 0 rfl dX6_listLoads_0 ?_
  refine r_iconst (v := 0) X (by decide) dX6_listLoads_1 ?_
  refine r_putI X pk_X6_55 lc_11 rfl dX6_listLoads_2 ?_
  refine r_bindS (fun S2 => ?_)
  refine r_aload_n X 0 rfl dX6_listLoads_5 ?_
  refine r_getI X fk_X6_52 lc_11 rfl dX6_listLoads_6 ?_
  refine r_bindI (fun v9 => ?_)
  refine r_istore_n (lv' := [(0, _), (1, _)]) X (by decide) rfl dX6_listLoads_9 ?_
  refine r_iconst (v := 0) X (by decide) dX6_listLoads_10 ?_
  refine r_istore_n (lv' := [(0, _), (1, _), (2, _)]) X (by decide) rfl dX6_listLoads_11 ?_
  exact gX6_listLoads_12 X F F _ _ _
theorem mX6_listLoads (F : Nat) (S : ST) : MetS yX6_listLoads cX6_listLoads 4 none 2 layC (fX6_listLoads F S) S (fun ad => [.ref (ad 11)]) := mk_met (fun ad => [(0, .ref (ad 11))]) (by decide) (fun _ => Nat.le_of_ble_eq_true rfl) (fun _ => rfl) (fun E X => gX6_listLoads X F S)
def fX6_find_56 (F : Nat) : Nat → ST → Int32 → Int32 → Option (Int32 × ST)
  | 0, _, _, _ => none
  | n + 1, S, x1, x2 =>
  if x1 ≤ x2 then
    ((fX6_choose F S x1).bind (fun q80 => (fX6_listLoads F q80.2).bind (fun q84 => some ((0 : Int32), q84.2))))
  else
    ((fX6_findEnding F S x2).bind (fun q68 => (if vin x2 1024 = true then bindS (us q68.2 46 (ix x2) q68.1) (fun S71 => fX6_find_56 F n S71 x1 (x2 + (1 : Int32))) else none)))
set_option maxRecDepth 4000 in
theorem gX6_find_56 {E : CT} (X : Cx E layC cX6_find RX6 3 none 3) (F : Nat) : ∀ (n : Nat) (S : ST) (x1 : Int32) (x2 : Int32), G E (fX6_find_56 F n S x1 x2) S 56 [(0, .ref (eA E 11)), (1, .int x1), (2, .int x2)] []
  | 0, _, _, _ => r_none
  | n + 1, S, x1, x2 => by
    have ih := gX6_find_56 X F n
    unfold fX6_find_56
    refine r_iload_n X 2 rfl dX6_find_56 ?_
    refine r_iload_n X 1 rfl dX6_find_57 ?_
    refine r_icmp_ge (tgt := 78) X dX6_find_58 (by decide) (fun _ => ?_) (fun _ => ?_)
    · refine r_aload_n X 0 rfl dX6_find_78 ?_
      refine r_iload_n X 1 rfl dX6_find_79 ?_
      refine r_callVv X (mX6_choose _ _ _) mk_X6_choose lk_X6_76 lc_11 rfl rfl (by decide) (by decide) (Nat.le_of_ble_eq_true rfl) rfl dX6_find_80 (fun q80 _ => ?_)
      refine r_aload_n X 0 rfl dX6_find_83 ?_
      refine r_callVv X (mX6_listLoads _ _) mk_X6_listLoads lk_X6_79 lc_11 rfl rfl (by decide) (by decide) (Nat.le_of_ble_eq_true rfl) rfl dX6_find_84 (fun q84 _ => ?_)
      exact r_vret X dX6_find_87
    · refine r_aload_n X 0 rfl dX6_find_61 ?_
      refine r_getR X fk_X6_27 lc_11 rfl dX6_find_62 ?_
      refine r_iload_n X 2 rfl dX6_find_65 ?_
      refine r_aload_n X 0 rfl dX6_find_66 ?_
      refine r_iload_n X 2 rfl dX6_find_67 ?_
      refine r_callV X (mX6_findEnding _ _ _) mk_X6_findEnding lk_X6_72 lc_11 rfl rfl (by decide) (by decide) (Nat.le_of_ble_eq_true rfl) rfl dX6_find_68 (fun q68 _ => ?_)
      refine r_iast X lc_46 dX6_find_71 (fun _ => ?_)
      refine r_bindS (fun S71 => ?_)
      refine r_iinc (lv' := [(0, _), (1, _), (2, _)]) (dl := 1) X 2 rfl (by decide) (by decide) rfl dX6_find_72 ?_
      refine r_goto (tgt := 56) X dX6_find_75 (by decide) ?_
      exact ih _ _ _
def fX6_find_28 (F : Nat) : Nat → ST → Int32 → Int32 → Option (Int32 × ST)
  | 0, _, _, _ => none
  | n + 1, S, x1, x2 =>
  if (S.1 11 8) ≤ x2 then
    ((if vin (0 : Int32) 1024 = true then bindS (us S 46 (ix (0 : Int32)) (0 : Int32)) (fun S53 => fX6_find_56 F F S53 x1 (1 : Int32)) else none))
  else
    ((fX6_describeSetsUpTo F S x2).bind (fun q38 => fX6_find_28 F n q38.2 x1 (x2 + (1 : Int32))))
set_option maxRecDepth 4000 in
theorem gX6_find_28 {E : CT} (X : Cx E layC cX6_find RX6 3 none 3) (F : Nat) : ∀ (n : Nat) (S : ST) (x1 : Int32) (x2 : Int32), G E (fX6_find_28 F n S x1 x2) S 28 [(0, .ref (eA E 11)), (1, .int x1), (2, .int x2)] []
  | 0, _, _, _ => r_none
  | n + 1, S, x1, x2 => by
    have ih := gX6_find_28 X F n
    unfold fX6_find_28
    refine r_iload_n X 2 rfl dX6_find_28 ?_
    refine r_aload_n X 0 rfl dX6_find_29 ?_
    refine r_getI X fk_X6_36 lc_11 rfl dX6_find_30 ?_
    refine r_icmp_ge (tgt := 47) X dX6_find_33 (by decide) (fun _ => ?_) (fun _ => ?_)
    · refine r_aload_n X 0 rfl dX6_find_47 ?_
      refine r_getR X fk_X6_27 lc_11 rfl dX6_find_48 ?_
      refine r_iconst (v := 0) X (by decide) dX6_find_51 ?_
      refine r_iconst (v := 0) X (by decide) dX6_find_52 ?_
      refine r_iast X lc_46 dX6_find_53 (fun _ => ?_)
      refine r_bindS (fun S53 => ?_)
      refine r_iconst (v := 1) X (by decide) dX6_find_54 ?_
      refine r_istore_n (lv' := [(0, _), (1, _), (2, _)]) X (by decide) rfl dX6_find_55 ?_
      exact gX6_find_56 X F F _ _ _
    · refine r_aload_n X 0 rfl dX6_find_36 ?_
      refine r_iload_n X 2 rfl dX6_find_37 ?_
      refine r_callVv X (mX6_describeSetsUpTo _ _ _) mk_X6_describeSetsUpTo lk_X6_68 lc_11 rfl rfl (by decide) (by decide) (Nat.le_of_ble_eq_true rfl) rfl dX6_find_38 (fun q38 _ => ?_)
      refine r_iinc (lv' := [(0, _), (1, _), (2, _)]) (dl := 1) X 2 rfl (by decide) (by decide) rfl dX6_find_41 ?_
      refine r_goto (tgt := 28) X dX6_find_44 (by decide) ?_
      exact ih _ _ _
def fX6_find (F : Nat) (S : ST) : Option (Int32 × ST) :=
  if (S.1 11 15) = 0 then
    (some ((0 : Int32), S))
  else
    (bindS (us S 11 15 (0 : Int32)) (fun S10 => bindI ((jmin ((1 : Int32) <<< ((S10.1 11 8) &&& 31)) (1024 : Int32))) (fun v25 => fX6_find_28 F F S10 v25 (0 : Int32))))
set_option maxRecDepth 4000 in
theorem gX6_find {E : CT} (X : Cx E layC cX6_find RX6 3 none 3) (F : Nat) (S : ST) : G E (fX6_find F S) S 0 [(0, .ref (eA E 11))] [] := by
  unfold fX6_find
  refine r_aload_n X 0 rfl dX6_find_0 ?_
  refine r_getI X fk_X6_58 lc_11 rfl dX6_find_1 ?_
  refine r_if_ne (tgt := 8) X dX6_find_4 (by decide) (fun _ => ?_) (fun _ => ?_)
  · refine r_aload_n X 0 rfl dX6_find_8 ?_
    refine r_iconst (v := 0) X (by decide) dX6_find_9 ?_
    refine r_putZ X pk_X6_58 lc_11 rfl (by decide) dX6_find_10 ?_
    refine r_bindS (fun S10 => ?_)
    refine r_iconst (v := 1) X (by decide) dX6_find_13 ?_
    refine r_aload_n X 0 rfl dX6_find_14 ?_
    refine r_getI X fk_X6_36 lc_11 rfl dX6_find_15 ?_
    refine r_ishl X dX6_find_18 ?_
    refine r_sipush (v := 1024) X (by decide) dX6_find_19 ?_
    refine r_mmin X lk_X6_62 km_min_s km_i km_min_c (by decide) (Nat.le_of_ble_eq_true rfl) dX6_find_22 ?_
    refine r_bindI (fun v25 => ?_)
    refine r_istore_n (lv' := [(0, _), (1, _)]) X (by decide) rfl dX6_find_25 ?_
    refine r_iconst (v := 0) X (by decide) dX6_find_26 ?_
    refine r_istore_n (lv' := [(0, _), (1, _), (2, _)]) X (by decide) rfl dX6_find_27 ?_
    exact gX6_find_28 X F F _ _ _
  · exact r_vret X dX6_find_7
theorem mX6_find (F : Nat) (S : ST) : MetS yX6_find cX6_find 3 none 3 layC (fX6_find F S) S (fun ad => [.ref (ad 11)]) := mk_met (fun ad => [(0, .ref (ad 11))]) (by decide) (fun _ => Nat.le_of_ble_eq_true rfl) (fun _ => rfl) (fun E X => gX6_find X F S)
def fX6_tell (F : Nat) (S : ST) (x1 : Int32) (x2 : Int32) : Option (Int32 × ST) :=
  if x1 < 0 then
    (some ((-1 : Int32), S))
  else
    (if (S.1 11 14) ≤ x1 then
      (some ((-1 : Int32), S))
    else
      (if x1 < (10 : Int32) then
        ((if x2 = (0 : Int32) then
          ((if vin x1 10 = true then some ((S.1 47 (ix x1)), S) else none))
        else (if x2 = (1 : Int32) then
          ((if vin x1 10 = true then some ((S.1 48 (ix x1)), S) else none))
        else (some ((-1 : Int32), S)))))
      else
        (some ((-1 : Int32), S))))
set_option maxRecDepth 4000 in
theorem gX6_tell {E : CT} (X : Cx E layC cX6_tell RX6 3 (some .int) 0) (F : Nat) (S : ST) (x1 : Int32) (x2 : Int32) : G E (fX6_tell F S x1 x2) S 0 [(0, .ref (eA E 11)), (1, .int x1), (2, .int x2)] [] := by
  unfold fX6_tell
  refine r_iload_n X 1 rfl dX6_tell_0 ?_
  refine r_if_lt (tgt := 18) X dX6_tell_1 (by decide) (fun _ => ?_) (fun _ => ?_)
  · refine r_iconst (v := -1) X (by decide) dX6_tell_18 ?_
    exact r_iret X dX6_tell_19
  · refine r_iload_n X 1 rfl dX6_tell_4 ?_
    refine r_aload_n X 0 rfl dX6_tell_5 ?_
    refine r_getI X fk_X6_55 lc_11 rfl dX6_tell_6 ?_
    refine r_icmp_ge (tgt := 18) X dX6_tell_9 (by decide) (fun _ => ?_) (fun _ => ?_)
    · refine r_iconst (v := -1) X (by decide) dX6_tell_18 ?_
      exact r_iret X dX6_tell_19
    · refine r_iload_n X 1 rfl dX6_tell_12 ?_
      refine r_bipush (v := 10) X (by decide) dX6_tell_13 ?_
      refine r_icmp_lt (tgt := 20) X dX6_tell_15 (by decide) (fun _ => ?_) (fun _ => ?_)
      · refine r_iload_n X 2 rfl dX6_tell_20 ?_
        refine r_ite (fun hh0 => ?_) (fun hh0 => ?_)
        · refine r_lsw (tgt := 48) (off := 27) X dX6_tell_21 (by decide) (by rw [hh0] <;> rfl) (by decide) ?_
          refine r_aload_n X 0 rfl dX6_tell_48 ?_
          refine r_getR X fk_X6_30 lc_11 rfl dX6_tell_49 ?_
          refine r_iload_n X 1 rfl dX6_tell_52 ?_
          refine r_iald X lc_47 dX6_tell_53 (fun _ => ?_)
          exact r_iret X dX6_tell_54
        refine r_ite (fun hh1 => ?_) (fun hh1 => ?_)
        · refine r_lsw (tgt := 55) (off := 34) X dX6_tell_21 (by decide) (by rw [hh1] <;> rfl) (by decide) ?_
          refine r_aload_n X 0 rfl dX6_tell_55 ?_
          refine r_getR X fk_X6_33 lc_11 rfl dX6_tell_56 ?_
          refine r_iload_n X 1 rfl dX6_tell_59 ?_
          refine r_iald X lc_48 dX6_tell_60 (fun _ => ?_)
          exact r_iret X dX6_tell_61
        refine r_lsw (tgt := 62) (off := 41) X dX6_tell_21 (by decide) (by show Op.lookupswitch.offset [(0, 27), (1, 34)] 41 _ = 41; rw [lv_osw hh0 (k := 0) (a := 0) rfl, lv_osw hh1 (k := 1) (a := 1) rfl] <;> rfl) (by decide) ?_
        refine r_iconst (v := -1) X (by decide) dX6_tell_62 ?_
        exact r_iret X dX6_tell_63
      · refine r_iconst (v := -1) X (by decide) dX6_tell_18 ?_
        exact r_iret X dX6_tell_19
theorem mX6_tell (F : Nat) (S : ST) (x1 : Int32) (x2 : Int32) : MetS yX6_tell cX6_tell 3 (some .int) 0 layC (fX6_tell F S x1 x2) S (fun ad => [.ref (ad 11), .int x1, .int x2]) := mk_met (fun ad => [(0, .ref (ad 11)), (1, .int x1), (2, .int x2)]) (by decide) (fun _ => Nat.le_of_ble_eq_true rfl) (fun _ => rfl) (fun E X => gX6_tell X F S x1 x2)
def fX6_set (F : Nat) (S : ST) (x1 : Int32) (x2 : Int32) (x3 : Int32) (x4 : Int32) : Option (Int32 × ST) :=
  bindS (us S 11 9 x1) (fun S2 => bindS (us S2 11 10 x2) (fun S7 => bindS (us S7 11 11 x3) (fun S12 => bindS (us S12 11 12 x4) (fun S18 => bindS (us S18 11 15 (1 : Int32)) (fun S23 => some ((0 : Int32), S23))))))
set_option maxRecDepth 4000 in
theorem gX6_set {E : CT} (X : Cx E layC cX6_set RX6 5 none 0) (F : Nat) (S : ST) (x1 : Int32) (x2 : Int32) (x3 : Int32) (x4 : Int32) : G E (fX6_set F S x1 x2 x3 x4) S 0 [(0, .ref (eA E 11)), (1, .int x1), (2, .int x2), (3, .int x3), (4, .int x4)] [] := by
  unfold fX6_set
  refine r_aload_n X 0 rfl dX6_set_0 ?_
  refine r_iload_n X 1 rfl dX6_set_1 ?_
  refine r_putI X pk_X6_40 lc_11 rfl dX6_set_2 ?_
  refine r_bindS (fun S2 => ?_)
  refine r_aload_n X 0 rfl dX6_set_5 ?_
  refine r_iload_n X 2 rfl dX6_set_6 ?_
  refine r_putI X pk_X6_43 lc_11 rfl dX6_set_7 ?_
  refine r_bindS (fun S7 => ?_)
  refine r_aload_n X 0 rfl dX6_set_10 ?_
  refine r_iload_n X 3 rfl dX6_set_11 ?_
  refine r_putI X pk_X6_46 lc_11 rfl dX6_set_12 ?_
  refine r_bindS (fun S12 => ?_)
  refine r_aload_n X 0 rfl dX6_set_15 ?_
  refine r_iload X 4 rfl dX6_set_16 ?_
  refine r_putI X pk_X6_49 lc_11 rfl dX6_set_18 ?_
  refine r_bindS (fun S18 => ?_)
  refine r_aload_n X 0 rfl dX6_set_21 ?_
  refine r_iconst (v := 1) X (by decide) dX6_set_22 ?_
  refine r_putZ X pk_X6_58 lc_11 rfl (by decide) dX6_set_23 ?_
  refine r_bindS (fun S23 => ?_)
  exact r_vret X dX6_set_26
theorem mX6_set (F : Nat) (S : ST) (x1 : Int32) (x2 : Int32) (x3 : Int32) (x4 : Int32) : MetS yX6_set cX6_set 5 none 0 layC (fX6_set F S x1 x2 x3 x4) S (fun ad => [.ref (ad 11), .int x1, .int x2, .int x3, .int x4]) := mk_met (fun ad => [(0, .ref (ad 11)), (1, .int x1), (2, .int x2), (3, .int x3), (4, .int x4)]) (by decide) (fun _ => Nat.le_of_ble_eq_true rfl) (fun _ => rfl) (fun E X => gX6_set X F S x1 x2 x3 x4)
