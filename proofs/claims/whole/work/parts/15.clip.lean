def fX0_listSheets_9 (F : Nat) : Nat → ST → Int32 → Int32 → Int32 → Option (Int32 × ST)
  | 0, _, _, _, _ => none
  | n + 1, S, x1, x2, x3 =>
  if x1 ≤ x3 then
    (some ((0 : Int32), S))
  else
    (if x3 < x2 then
      (fX0_listSheets_9 F n S x1 x2 (x3 + (1 : Int32)))
    else
      ((if vin x3 301 = true then if (S.1 34 (ix x3)) = (-1 : Int32) then
        (fX0_listSheets_9 F n S x1 x2 (x3 + (1 : Int32)))
      else
        (if (S.1 9 10) < (300 : Int32) then
          ((if vin (S.1 9 10) 300 = true then bindS (us S 36 (ix (S.1 9 10)) x3) (fun S53 => bindS (us S53 9 10 ((S53.1 9 10) + (1 : Int32))) (fun S61 => (if vin x3 301 = true then (fX2_widthOf F S61 (S61.1 34 (ix x3))).bind (fun q75 => bindI ((x3 + q75.1)) (fun v79 => fX0_listSheets_9 F n q75.2 x1 v79 (x3 + (1 : Int32)))) else none))) else none))
        else
          (fX0_listSheets_9 F n S x1 x2 (x3 + (1 : Int32)))) else none)))
set_option maxRecDepth 4000 in
theorem gX0_listSheets_9 {E : CT} (X : Cx E layC cX0_listSheets RX0 4 none 1) (F : Nat) : ∀ (n : Nat) (S : ST) (x1 : Int32) (x2 : Int32) (x3 : Int32), G E (fX0_listSheets_9 F n S x1 x2 x3) S 9 [(0, .ref (eA E 9)), (1, .int x1), (2, .int x2), (3, .int x3)] []
  | 0, _, _, _, _ => r_none
  | n + 1, S, x1, x2, x3 => by
    have ih := gX0_listSheets_9 X F n
    unfold fX0_listSheets_9
    refine r_iload_n X 3 rfl dX0_listSheets_9 ?_
    refine r_iload_n X 1 rfl dX0_listSheets_10 ?_
    refine r_icmp_ge (tgt := 86) X dX0_listSheets_11 (by decide) (fun _ => ?_) (fun _ => ?_)
    · exact r_vret X dX0_listSheets_86
    · refine r_iload_n X 3 rfl dX0_listSheets_14 ?_
      refine r_iload_n X 2 rfl dX0_listSheets_15 ?_
      refine r_icmp_lt (tgt := 80) X dX0_listSheets_16 (by decide) (fun _ => ?_) (fun _ => ?_)
      · refine r_iinc (lv' := [(0, _), (1, _), (2, _), (3, _)]) (dl := 1) X 3 rfl (by decide) (by decide) rfl dX0_listSheets_80 ?_
        refine r_goto (tgt := 9) X dX0_listSheets_83 (by decide) ?_
        exact ih _ _ _ _
      · refine r_aload_n X 0 rfl dX0_listSheets_19 ?_
        refine r_getR X fk_X0_37 lc_9 rfl dX0_listSheets_20 ?_
        refine r_iload_n X 3 rfl dX0_listSheets_23 ?_
        refine r_iald X lc_34 dX0_listSheets_24 (fun _ => ?_)
        refine r_iconst (v := -1) X (by decide) dX0_listSheets_25 ?_
        refine r_icmp_eq (tgt := 80) X dX0_listSheets_26 (by decide) (fun _ => ?_) (fun _ => ?_)
        · refine r_iinc (lv' := [(0, _), (1, _), (2, _), (3, _)]) (dl := 1) X 3 rfl (by decide) (by decide) rfl dX0_listSheets_80 ?_
          refine r_goto (tgt := 9) X dX0_listSheets_83 (by decide) ?_
          exact ih _ _ _ _
        · refine r_aload_n X 0 rfl dX0_listSheets_29 ?_
          refine r_getI X fk_X0_53 lc_9 rfl dX0_listSheets_30 ?_
          refine r_aload_n X 0 rfl dX0_listSheets_33 ?_
          refine r_getR X fk_X0_43 lc_9 rfl dX0_listSheets_34 ?_
          refine r_alen (v := 300) X lc_36 (by decide) dX0_listSheets_37 ?_
          refine r_icmp_lt (tgt := 44) X dX0_listSheets_38 (by decide) (fun _ => ?_) (fun _ => ?_)
          · refine r_aload_n X 0 rfl dX0_listSheets_44 ?_
            refine r_getR X fk_X0_43 lc_9 rfl dX0_listSheets_45 ?_
            refine r_aload_n X 0 rfl dX0_listSheets_48 ?_
            refine r_getI X fk_X0_53 lc_9 rfl dX0_listSheets_49 ?_
            refine r_iload_n X 3 rfl dX0_listSheets_52 ?_
            refine r_iast X lc_36 dX0_listSheets_53 (fun _ => ?_)
            refine r_bindS (fun S53 => ?_)
            refine r_aload_n X 0 rfl dX0_listSheets_54 ?_
            refine r_dup X rfl dX0_listSheets_55 ?_
            refine r_getI X fk_X0_53 lc_9 rfl dX0_listSheets_56 ?_
            refine r_iconst (v := 1) X (by decide) dX0_listSheets_59 ?_
            refine r_iadd X dX0_listSheets_60 ?_
            refine r_putI X pk_X0_53 lc_9 rfl dX0_listSheets_61 ?_
            refine r_bindS (fun S61 => ?_)
            refine r_iload_n X 3 rfl dX0_listSheets_64 ?_
            refine r_aload_n X 0 rfl dX0_listSheets_65 ?_
            refine r_getR X fk_X0_9 lc_9 rfl dX0_listSheets_66 ?_
            refine r_aload_n X 0 rfl dX0_listSheets_69 ?_
            refine r_getR X fk_X0_37 lc_9 rfl dX0_listSheets_70 ?_
            refine r_iload_n X 3 rfl dX0_listSheets_73 ?_
            refine r_iald X lc_34 dX0_listSheets_74 (fun _ => ?_)
            refine r_callV X (mX2_widthOf _ _ _) mk_X2_widthOf lk_X0_64 lc_6 rfl rfl (by decide) (by decide) (Nat.le_of_ble_eq_true rfl) rfl dX0_listSheets_75 (fun q75 _ => ?_)
            refine r_iadd X dX0_listSheets_78 ?_
            refine r_bindI (fun v79 => ?_)
            refine r_istore_n (lv' := [(0, _), (1, _), (2, _), (3, _)]) X (by decide) rfl dX0_listSheets_79 ?_
            refine r_iinc (lv' := [(0, _), (1, _), (2, _), (3, _)]) (dl := 1) X 3 rfl (by decide) (by decide) rfl dX0_listSheets_80 ?_
            refine r_goto (tgt := 9) X dX0_listSheets_83 (by decide) ?_
            exact ih _ _ _ _
          · refine r_goto (tgt := 80) X dX0_listSheets_41 (by decide) ?_
            refine r_iinc (lv' := [(0, _), (1, _), (2, _), (3, _)]) (dl := 1) X 3 rfl (by decide) (by decide) rfl dX0_listSheets_80 ?_
            refine r_goto (tgt := 9) X dX0_listSheets_83 (by decide) ?_
            exact ih _ _ _ _
def fX0_listSheets (F : Nat) (S : ST) (x1 : Int32) : Option (Int32 × ST) :=
  bindS (us S 9 10 (0 : Int32)) (fun S2 => fX0_listSheets_9 F F S2 x1 (0 : Int32) (0 : Int32))
set_option maxRecDepth 4000 in
theorem gX0_listSheets {E : CT} (X : Cx E layC cX0_listSheets RX0 4 none 1) (F : Nat) (S : ST) (x1 : Int32) : G E (fX0_listSheets F S x1) S 0 [(0, .ref (eA E 9)), (1, .int x1)] [] := by
  unfold fX0_listSheets
  refine r_aload_n X 0 rfl dX0_listSheets_0 ?_
  refine r_iconst (v := 0) X (by decide) dX0_listSheets_1 ?_
  refine r_putI X pk_X0_53 lc_9 rfl dX0_listSheets_2 ?_
  refine r_bindS (fun S2 => ?_)
  refine r_iconst (v := 0) X (by decide) dX0_listSheets_5 ?_
  refine r_istore_n (lv' := [(0, _), (1, _), (2, _)]) X (by decide) rfl dX0_listSheets_6 ?_
  refine r_iconst (v := 0) X (by decide) dX0_listSheets_7 ?_
  refine r_istore_n (lv' := [(0, _), (1, _), (2, _), (3, _)]) X (by decide) rfl dX0_listSheets_8 ?_
  exact gX0_listSheets_9 X F F _ _ _ _
theorem mX0_listSheets (F : Nat) (S : ST) (x1 : Int32) : MetS yX0_listSheets cX0_listSheets 4 none 1 layC (fX0_listSheets F S x1) S (fun ad => [.ref (ad 9), .int x1]) := mk_met (fun ad => [(0, .ref (ad 9)), (1, .int x1)]) (by decide) (fun _ => Nat.le_of_ble_eq_true rfl) (fun _ => rfl) (fun E X => gX0_listSheets X F S x1)
def fX0_isBetter (F : Nat) (S : ST) (x1 : Int32) (x2 : Int32) (x3 : Int32) : Option (Int32 × ST) :=
  if x1 < 0 then
    (some ((0 : Int32), S))
  else
    (if x1 < (301 : Int32) then
      ((if vin x1 301 = true then if x2 = (S.1 32 (ix x1)) then
        ((if vin x1 301 = true then if x3 = (S.1 33 (ix x1)) then
          ((if vin x1 301 = true then if (S.1 34 (ix x1)) = (-1 : Int32) then
            (some ((1 : Int32), S))
          else
            (some ((0 : Int32), S)) else none))
        else
          ((if vin x1 301 = true then if (S.1 33 (ix x1)) ≤ x3 then
            (some ((0 : Int32), S))
          else
            (some ((1 : Int32), S)) else none)) else none))
      else
        ((if vin x1 301 = true then if x2 ≤ (S.1 32 (ix x1)) then
          (some ((0 : Int32), S))
        else
          (some ((1 : Int32), S)) else none)) else none))
    else
      (some ((0 : Int32), S)))
set_option maxRecDepth 4000 in
theorem gX0_isBetter {E : CT} (X : Cx E layC cX0_isBetter RX0 4 (some .boolean) 0) (F : Nat) (S : ST) (x1 : Int32) (x2 : Int32) (x3 : Int32) : G E (fX0_isBetter F S x1 x2 x3) S 0 [(0, .ref (eA E 9)), (1, .int x1), (2, .int x2), (3, .int x3)] [] := by
  unfold fX0_isBetter
  refine r_iload_n X 1 rfl dX0_isBetter_0 ?_
  refine r_if_lt (tgt := 13) X dX0_isBetter_1 (by decide) (fun _ => ?_) (fun _ => ?_)
  · refine r_iconst (v := 0) X (by decide) dX0_isBetter_13 ?_
    exact r_zret X (by decide) dX0_isBetter_14
  · refine r_iload_n X 1 rfl dX0_isBetter_4 ?_
    refine r_aload_n X 0 rfl dX0_isBetter_5 ?_
    refine r_getR X fk_X0_30 lc_9 rfl dX0_isBetter_6 ?_
    refine r_alen (v := 301) X lc_32 (by decide) dX0_isBetter_9 ?_
    refine r_icmp_lt (tgt := 15) X dX0_isBetter_10 (by decide) (fun _ => ?_) (fun _ => ?_)
    · refine r_iload_n X 2 rfl dX0_isBetter_15 ?_
      refine r_aload_n X 0 rfl dX0_isBetter_16 ?_
      refine r_getR X fk_X0_30 lc_9 rfl dX0_isBetter_17 ?_
      refine r_iload_n X 1 rfl dX0_isBetter_20 ?_
      refine r_iald X lc_32 dX0_isBetter_21 (fun _ => ?_)
      refine r_icmp_eq (tgt := 41) X dX0_isBetter_22 (by decide) (fun _ => ?_) (fun _ => ?_)
      · refine r_iload_n X 3 rfl dX0_isBetter_41 ?_
        refine r_aload_n X 0 rfl dX0_isBetter_42 ?_
        refine r_getR X fk_X0_34 lc_9 rfl dX0_isBetter_43 ?_
        refine r_iload_n X 1 rfl dX0_isBetter_46 ?_
        refine r_iald X lc_33 dX0_isBetter_47 (fun _ => ?_)
        refine r_icmp_eq (tgt := 67) X dX0_isBetter_48 (by decide) (fun _ => ?_) (fun _ => ?_)
        · refine r_aload_n X 0 rfl dX0_isBetter_67 ?_
          refine r_getR X fk_X0_37 lc_9 rfl dX0_isBetter_68 ?_
          refine r_iload_n X 1 rfl dX0_isBetter_71 ?_
          refine r_iald X lc_34 dX0_isBetter_72 (fun _ => ?_)
          refine r_iconst (v := -1) X (by decide) dX0_isBetter_73 ?_
          refine r_icmp_ne (tgt := 81) X dX0_isBetter_74 (by decide) (fun _ => ?_) (fun _ => ?_)
          · refine r_iconst (v := 0) X (by decide) dX0_isBetter_81 ?_
            exact r_zret X (by decide) dX0_isBetter_82
          · refine r_iconst (v := 1) X (by decide) dX0_isBetter_77 ?_
            refine r_goto (tgt := 82) X dX0_isBetter_78 (by decide) ?_
            exact r_zret X (by decide) dX0_isBetter_82
        · refine r_iload_n X 3 rfl dX0_isBetter_51 ?_
          refine r_aload_n X 0 rfl dX0_isBetter_52 ?_
          refine r_getR X fk_X0_34 lc_9 rfl dX0_isBetter_53 ?_
          refine r_iload_n X 1 rfl dX0_isBetter_56 ?_
          refine r_iald X lc_33 dX0_isBetter_57 (fun _ => ?_)
          refine r_icmp_ge (tgt := 65) X dX0_isBetter_58 (by decide) (fun _ => ?_) (fun _ => ?_)
          · refine r_iconst (v := 0) X (by decide) dX0_isBetter_65 ?_
            exact r_zret X (by decide) dX0_isBetter_66
          · refine r_iconst (v := 1) X (by decide) dX0_isBetter_61 ?_
            refine r_goto (tgt := 66) X dX0_isBetter_62 (by decide) ?_
            exact r_zret X (by decide) dX0_isBetter_66
      · refine r_iload_n X 2 rfl dX0_isBetter_25 ?_
        refine r_aload_n X 0 rfl dX0_isBetter_26 ?_
        refine r_getR X fk_X0_30 lc_9 rfl dX0_isBetter_27 ?_
        refine r_iload_n X 1 rfl dX0_isBetter_30 ?_
        refine r_iald X lc_32 dX0_isBetter_31 (fun _ => ?_)
        refine r_icmp_le (tgt := 39) X dX0_isBetter_32 (by decide) (fun _ => ?_) (fun _ => ?_)
        · refine r_iconst (v := 0) X (by decide) dX0_isBetter_39 ?_
          exact r_zret X (by decide) dX0_isBetter_40
        · refine r_iconst (v := 1) X (by decide) dX0_isBetter_35 ?_
          refine r_goto (tgt := 40) X dX0_isBetter_36 (by decide) ?_
          exact r_zret X (by decide) dX0_isBetter_40
    · refine r_iconst (v := 0) X (by decide) dX0_isBetter_13 ?_
      exact r_zret X (by decide) dX0_isBetter_14
theorem mX0_isBetter (F : Nat) (S : ST) (x1 : Int32) (x2 : Int32) (x3 : Int32) : MetS yX0_isBetter cX0_isBetter 4 (some .boolean) 0 layC (fX0_isBetter F S x1 x2 x3) S (fun ad => [.ref (ad 9), .int x1, .int x2, .int x3]) := mk_met (fun ad => [(0, .ref (ad 9)), (1, .int x1), (2, .int x2), (3, .int x3)]) (by decide) (fun _ => Nat.le_of_ble_eq_true rfl) (fun _ => rfl) (fun E X => gX0_isBetter X F S x1 x2 x3)
def fX0_partIsSheet_46 (F : Nat) (S : ST) : Option (Int32 × ST) :=
  some ((0 : Int32), S)
set_option maxRecDepth 4000 in
theorem gX0_partIsSheet_46 {E : CT} (X : Cx E layC cX0_partIsSheet RX0 3 (some .boolean) 3) (F : Nat) (S : ST) : G E (fX0_partIsSheet_46 F S) S 46 [] [] := by
  unfold fX0_partIsSheet_46
  refine r_iconst (v := 0) X (by decide) dX0_partIsSheet_46 ?_
  exact r_zret X (by decide) dX0_partIsSheet_47
def fX0_partIsSheet (F : Nat) (S : ST) (x1 : Int32) (x2 : Int32) : Option (Int32 × ST) :=
  bindS (us S 8 8 x2) (fun S5 => if (S5.1 9 8) < x2 then
    (fX0_partIsSheet_46 F S5)
  else
    (if (S5.1 8 5) < x2 then
      (fX0_partIsSheet_46 F S5)
    else
      ((fX2_holds F S5 x1).bind (fun q36 => if q36.1 = 0 then
        (fX0_partIsSheet_46 F q36.2)
      else
        (some ((1 : Int32), q36.2))))))
set_option maxRecDepth 4000 in
theorem gX0_partIsSheet {E : CT} (X : Cx E layC cX0_partIsSheet RX0 3 (some .boolean) 3) (F : Nat) (S : ST) (x1 : Int32) (x2 : Int32) : G E (fX0_partIsSheet F S x1 x2) S 0 [(0, .ref (eA E 9)), (1, .int x1), (2, .int x2)] [] := by
  unfold fX0_partIsSheet
  refine r_aload_n X 0 rfl dX0_partIsSheet_0 ?_
  refine r_getR X fk_X0_24 lc_9 rfl dX0_partIsSheet_1 ?_
  refine r_iload_n X 2 rfl dX0_partIsSheet_4 ?_
  refine r_putI X pk_X0_77 lc_8 rfl dX0_partIsSheet_5 ?_
  refine r_bindS (fun S5 => ?_)
  refine r_iload_n X 2 rfl dX0_partIsSheet_8 ?_
  refine r_aload_n X 0 rfl dX0_partIsSheet_9 ?_
  refine r_getI X fk_X0_46 lc_9 rfl dX0_partIsSheet_10 ?_
  refine r_icmp_gt (tgt := 46) X dX0_partIsSheet_13 (by decide) (fun _ => ?_) (fun _ => ?_)
  · refine r_sub [] rfl ?_
    exact gX0_partIsSheet_46 X F _
  · refine r_iload_n X 2 rfl dX0_partIsSheet_16 ?_
    refine r_aload_n X 0 rfl dX0_partIsSheet_17 ?_
    refine r_getR X fk_X0_24 lc_9 rfl dX0_partIsSheet_18 ?_
    refine r_getI X fk_X0_80 lc_8 rfl dX0_partIsSheet_21 ?_
    refine r_icmp_gt (tgt := 46) X dX0_partIsSheet_24 (by decide) (fun _ => ?_) (fun _ => ?_)
    · refine r_sub [] rfl ?_
      exact gX0_partIsSheet_46 X F _
    · refine r_aload_n X 0 rfl dX0_partIsSheet_27 ?_
      refine r_getR X fk_X0_9 lc_9 rfl dX0_partIsSheet_28 ?_
      refine r_iload_n X 1 rfl dX0_partIsSheet_31 ?_
      refine r_aload_n X 0 rfl dX0_partIsSheet_32 ?_
      refine r_getR X fk_X0_24 lc_9 rfl dX0_partIsSheet_33 ?_
      refine r_callV X (mX2_holds _ _ _) mk_X2_holds lk_X0_83 lc_6 rfl rfl (by decide) (by decide) (Nat.le_of_ble_eq_true rfl) rfl dX0_partIsSheet_36 (fun q36 _ => ?_)
      refine r_if_eq (tgt := 46) X dX0_partIsSheet_39 (by decide) (fun _ => ?_) (fun _ => ?_)
      · refine r_sub [] rfl ?_
        exact gX0_partIsSheet_46 X F _
      · refine r_iconst (v := 1) X (by decide) dX0_partIsSheet_42 ?_
        refine r_goto (tgt := 47) X dX0_partIsSheet_43 (by decide) ?_
        exact r_zret X (by decide) dX0_partIsSheet_47
theorem mX0_partIsSheet (F : Nat) (S : ST) (x1 : Int32) (x2 : Int32) : MetS yX0_partIsSheet cX0_partIsSheet 3 (some .boolean) 3 layC (fX0_partIsSheet F S x1 x2) S (fun ad => [.ref (ad 9), .int x1, .int x2]) := mk_met (fun ad => [(0, .ref (ad 9)), (1, .int x1), (2, .int x2)]) (by decide) (fun _ => Nat.le_of_ble_eq_true rfl) (fun _ => rfl) (fun E X => gX0_partIsSheet X F S x1 x2)
def fX0_trySheets_79 (F : Nat) : Nat → ST → Int32 → Int32 → Int32 → Int32 → Int32 → Option (Int32 × ST)
  | 0, _, _, _, _, _, _ => none
  | n + 1, S, x1, x2, x4, x5, x6 =>
  if (S.1 9 8) < x6 then
    (some ((0 : Int32), S))
  else
    ((fX0_isBetter F S x1 x4 x5).bind (fun q94 => if q94.1 = 0 then
      (some ((0 : Int32), q94.2))
    else
      ((fX0_partIsSheet F q94.2 x2 x6).bind (fun q104 => if q104.1 = 0 then
        (bindI ((x4 - (q104.2.1 9 9))) (fun v149 => fX0_trySheets_79 F n q104.2 x1 x2 v149 x5 (x6 + (1 : Int32))))
      else
        ((if vin x1 301 = true then bindS (us q104.2 32 (ix x1) x4) (fun S117 => (if vin x1 301 = true then bindS (us S117 33 (ix x1) x5) (fun S125 => (if vin x1 301 = true then bindS (us S125 34 (ix x1) x2) (fun S132 => (if vin x1 301 = true then bindS (us S132 35 (ix x1) x6) (fun S140 => some ((0 : Int32), S140)) else none)) else none)) else none)) else none))))))
set_option maxRecDepth 4000 in
theorem gX0_trySheets_79 {E : CT} (X : Cx E layC cX0_trySheets RX0 7 none 4) (F : Nat) : ∀ (n : Nat) (S : ST) (x1 : Int32) (x2 : Int32) (x4 : Int32) (x5 : Int32) (x6 : Int32), G E (fX0_trySheets_79 F n S x1 x2 x4 x5 x6) S 79 [(0, .ref (eA E 9)), (1, .int x1), (2, .int x2), (4, .int x4), (5, .int x5), (6, .int x6)] []
  | 0, _, _, _, _, _, _ => r_none
  | n + 1, S, x1, x2, x4, x5, x6 => by
    have ih := gX0_trySheets_79 X F n
    unfold fX0_trySheets_79
    refine r_iload X 5 rfl dX0_trySheets_79 ?_
    refine r_aload_n X 0 rfl dX0_trySheets_81 ?_
    refine r_getI X fk_X0_46 lc_9 rfl dX0_trySheets_82 ?_
    refine r_icmp_gt (tgt := 157) X dX0_trySheets_85 (by decide) (fun _ => ?_) (fun _ => ?_)
    · exact r_vret X dX0_trySheets_157
    · refine r_aload_n X 0 rfl dX0_trySheets_88 ?_
      refine r_iload_n X 1 rfl dX0_trySheets_89 ?_
      refine r_iload X 3 rfl dX0_trySheets_90 ?_
      refine r_iload X 4 rfl dX0_trySheets_92 ?_
      refine r_callV X (mX0_isBetter _ _ _ _ _) mk_X0_isBetter lk_X0_109 lc_9 rfl rfl (by decide) (by decide) (Nat.le_of_ble_eq_true rfl) rfl dX0_trySheets_94 (fun q94 _ => ?_)
      refine r_if_eq (tgt := 157) X dX0_trySheets_97 (by decide) (fun _ => ?_) (fun _ => ?_)
      · exact r_vret X dX0_trySheets_157
      · refine r_aload_n X 0 rfl dX0_trySheets_100 ?_
        refine r_iload_n X 2 rfl dX0_trySheets_101 ?_
        refine r_iload X 5 rfl dX0_trySheets_102 ?_
        refine r_callV X (mX0_partIsSheet _ _ _ _) mk_X0_partIsSheet lk_X0_73 lc_9 rfl rfl (by decide) (by decide) (Nat.le_of_ble_eq_true rfl) rfl dX0_trySheets_104 (fun q104 _ => ?_)
        refine r_if_eq (tgt := 142) X dX0_trySheets_107 (by decide) (fun _ => ?_) (fun _ => ?_)
        · refine r_iload X 3 rfl dX0_trySheets_142 ?_
          refine r_aload_n X 0 rfl dX0_trySheets_144 ?_
          refine r_getI X fk_X0_50 lc_9 rfl dX0_trySheets_145 ?_
          refine r_isub X dX0_trySheets_148 ?_
          refine r_bindI (fun v149 => ?_)
          refine r_istore (lv' := [(0, _), (1, _), (2, _), (4, _), (5, _), (6, _)]) X (by decide) rfl dX0_trySheets_149 ?_
          refine r_iinc (lv' := [(0, _), (1, _), (2, _), (4, _), (5, _), (6, _)]) (dl := 1) X 5 rfl (by decide) (by decide) rfl dX0_trySheets_151 ?_
          refine r_goto (tgt := 79) X dX0_trySheets_154 (by decide) ?_
          exact ih _ _ _ _ _ _
        · refine r_aload_n X 0 rfl dX0_trySheets_110 ?_
          refine r_getR X fk_X0_30 lc_9 rfl dX0_trySheets_111 ?_
          refine r_iload_n X 1 rfl dX0_trySheets_114 ?_
          refine r_iload X 3 rfl dX0_trySheets_115 ?_
          refine r_iast X lc_32 dX0_trySheets_117 (fun _ => ?_)
          refine r_bindS (fun S117 => ?_)
          refine r_aload_n X 0 rfl dX0_trySheets_118 ?_
          refine r_getR X fk_X0_34 lc_9 rfl dX0_trySheets_119 ?_
          refine r_iload_n X 1 rfl dX0_trySheets_122 ?_
          refine r_iload X 4 rfl dX0_trySheets_123 ?_
          refine r_iast X lc_33 dX0_trySheets_125 (fun _ => ?_)
          refine r_bindS (fun S125 => ?_)
          refine r_aload_n X 0 rfl dX0_trySheets_126 ?_
          refine r_getR X fk_X0_37 lc_9 rfl dX0_trySheets_127 ?_
          refine r_iload_n X 1 rfl dX0_trySheets_130 ?_
          refine r_iload_n X 2 rfl dX0_trySheets_131 ?_
          refine r_iast X lc_34 dX0_trySheets_132 (fun _ => ?_)
          refine r_bindS (fun S132 => ?_)
          refine r_aload_n X 0 rfl dX0_trySheets_133 ?_
          refine r_getR X fk_X0_40 lc_9 rfl dX0_trySheets_134 ?_
          refine r_iload_n X 1 rfl dX0_trySheets_137 ?_
          refine r_iload X 5 rfl dX0_trySheets_138 ?_
          refine r_iast X lc_35 dX0_trySheets_140 (fun _ => ?_)
          refine r_bindS (fun S140 => ?_)
          exact r_vret X dX0_trySheets_141
def fX0_trySheets (F : Nat) (S : ST) (x1 : Int32) (x2 : Int32) : Option (Int32 × ST) :=
  (fX2_widthOf F S x2).bind (fun q6 => bindI ((x1 + q6.1)) (fun v10 => if x1 < 0 then
    (some ((0 : Int32), q6.2))
  else
    (if v10 ≤ x1 then
      (some ((0 : Int32), q6.2))
    else
      (if (q6.2.1 7 5) < v10 then
        (some ((0 : Int32), q6.2))
      else
        (if v10 < (301 : Int32) then
          ((fX5_endBefore F q6.2 v10).bind (fun q46 => (fX2_worthOf F q46.2 x2).bind (fun q54 => (if vin v10 301 = true then bindI ((q54.1 + (q54.2.1 32 (ix v10)))) (fun v64 => (if vin v10 301 = true then bindI (((1 : Int32) + (q54.2.1 33 (ix v10)))) (fun v74 => fX0_trySheets_79 F F q54.2 x1 x2 v64 v74 (0 : Int32)) else none)) else none))))
        else
          (some ((0 : Int32), q6.2)))))))
set_option maxRecDepth 4000 in
theorem gX0_trySheets {E : CT} (X : Cx E layC cX0_trySheets RX0 7 none 4) (F : Nat) (S : ST) (x1 : Int32) (x2 : Int32) : G E (fX0_trySheets F S x1 x2) S 0 [(0, .ref (eA E 9)), (1, .int x1), (2, .int x2)] [] := by
  unfold fX0_trySheets
  refine r_iload_n X 1 rfl dX0_trySheets_0 ?_
  refine r_aload_n X 0 rfl dX0_trySheets_1 ?_
  refine r_getR X fk_X0_9 lc_9 rfl dX0_trySheets_2 ?_
  refine r_iload_n X 2 rfl dX0_trySheets_5 ?_
  refine r_callV X (mX2_widthOf _ _ _) mk_X2_widthOf lk_X0_64 lc_6 rfl rfl (by decide) (by decide) (Nat.le_of_ble_eq_true rfl) rfl dX0_trySheets_6 (fun q6 _ => ?_)
  refine r_iadd X dX0_trySheets_9 ?_
  refine r_bindI (fun v10 => ?_)
  refine r_istore_n (lv' := [(0, _), (1, _), (2, _), (3, _)]) X (by decide) rfl dX0_trySheets_10 ?_
  refine r_iload_n X 1 rfl dX0_trySheets_11 ?_
  refine r_if_lt (tgt := 40) X dX0_trySheets_12 (by decide) (fun _ => ?_) (fun _ => ?_)
  · exact r_vret X dX0_trySheets_40
  · refine r_iload_n X 3 rfl dX0_trySheets_15 ?_
    refine r_iload_n X 1 rfl dX0_trySheets_16 ?_
    refine r_icmp_le (tgt := 40) X dX0_trySheets_17 (by decide) (fun _ => ?_) (fun _ => ?_)
    · exact r_vret X dX0_trySheets_40
    · refine r_iload_n X 3 rfl dX0_trySheets_20 ?_
      refine r_aload_n X 0 rfl dX0_trySheets_21 ?_
      refine r_getR X fk_X0_15 lc_9 rfl dX0_trySheets_22 ?_
      refine r_getI X fk_X0_87 lc_7 rfl dX0_trySheets_25 ?_
      refine r_icmp_gt (tgt := 40) X dX0_trySheets_28 (by decide) (fun _ => ?_) (fun _ => ?_)
      · exact r_vret X dX0_trySheets_40
      · refine r_iload_n X 3 rfl dX0_trySheets_31 ?_
        refine r_aload_n X 0 rfl dX0_trySheets_32 ?_
        refine r_getR X fk_X0_30 lc_9 rfl dX0_trySheets_33 ?_
        refine r_alen (v := 301) X lc_32 (by decide) dX0_trySheets_36 ?_
        refine r_icmp_lt (tgt := 41) X dX0_trySheets_37 (by decide) (fun _ => ?_) (fun _ => ?_)
        · refine r_aload_n X 0 rfl dX0_trySheets_41 ?_
          refine r_getR X fk_X0_24 lc_9 rfl dX0_trySheets_42 ?_
          refine r_iload_n X 3 rfl dX0_trySheets_45 ?_
          refine r_callVv X (mX5_endBefore _ _ _) mk_X5_endBefore lk_X0_70 lc_8 rfl rfl (by decide) (by decide) (Nat.le_of_ble_eq_true rfl) rfl dX0_trySheets_46 (fun q46 _ => ?_)
          refine r_aload_n X 0 rfl dX0_trySheets_49 ?_
          refine r_getR X fk_X0_9 lc_9 rfl dX0_trySheets_50 ?_
          refine r_iload_n X 2 rfl dX0_trySheets_53 ?_
          refine r_callV X (mX2_worthOf _ _ _) mk_X2_worthOf lk_X0_106 lc_6 rfl rfl (by decide) (by decide) (Nat.le_of_ble_eq_true rfl) rfl dX0_trySheets_54 (fun q54 _ => ?_)
          refine r_aload_n X 0 rfl dX0_trySheets_57 ?_
          refine r_getR X fk_X0_30 lc_9 rfl dX0_trySheets_58 ?_
          refine r_iload_n X 3 rfl dX0_trySheets_61 ?_
          refine r_iald X lc_32 dX0_trySheets_62 (fun _ => ?_)
          refine r_iadd X dX0_trySheets_63 ?_
          refine r_bindI (fun v64 => ?_)
          refine r_istore (lv' := [(0, _), (1, _), (2, _), (3, _), (4, _)]) X (by decide) rfl dX0_trySheets_64 ?_
          refine r_iconst (v := 1) X (by decide) dX0_trySheets_66 ?_
          refine r_aload_n X 0 rfl dX0_trySheets_67 ?_
          refine r_getR X fk_X0_34 lc_9 rfl dX0_trySheets_68 ?_
          refine r_iload_n X 3 rfl dX0_trySheets_71 ?_
          refine r_iald X lc_33 dX0_trySheets_72 (fun _ => ?_)
          refine r_iadd X dX0_trySheets_73 ?_
          refine r_bindI (fun v74 => ?_)
          refine r_istore (lv' := [(0, _), (1, _), (2, _), (3, _), (4, _), (5, _)]) X (by decide) rfl dX0_trySheets_74 ?_
          refine r_iconst (v := 0) X (by decide) dX0_trySheets_76 ?_
          refine r_istore (lv' := [(0, _), (1, _), (2, _), (3, _), (4, _), (5, _), (6, _)]) X (by decide) rfl dX0_trySheets_77 ?_
          refine r_sub [0, 1, 2, 4, 5, 6] rfl ?_
          exact gX0_trySheets_79 X F F _ _ _ _ _ _
        · exact r_vret X dX0_trySheets_40
theorem mX0_trySheets (F : Nat) (S : ST) (x1 : Int32) (x2 : Int32) : MetS yX0_trySheets cX0_trySheets 7 none 4 layC (fX0_trySheets F S x1 x2) S (fun ad => [.ref (ad 9), .int x1, .int x2]) := mk_met (fun ad => [(0, .ref (ad 9)), (1, .int x1), (2, .int x2)]) (by decide) (fun _ => Nat.le_of_ble_eq_true rfl) (fun _ => rfl) (fun E X => gX0_trySheets X F S x1 x2)
def fX0_find_101 (F : Nat) (k45 : ST → Int32 → Int32 → Option (Int32 × ST)) : Nat → ST → Int32 → Int32 → Int32 → Option (Int32 × ST)
  | 0, _, _, _, _ => none
  | n + 1, S, x1, x2, x3 =>
  if (S.1 6 5) ≤ x3 then
    (k45 S x1 (x2 + (-1 : Int32)))
  else
    ((fX0_trySheets F S x2 x3).bind (fun q115 => fX0_find_101 F k45 n q115.2 x1 x2 (x3 + (1 : Int32))))
set_option maxRecDepth 4000 in
theorem gX0_find_101 {E : CT} (X : Cx E layC cX0_find RX0 4 none 5) (F : Nat) (k45 : ST → Int32 → Int32 → Option (Int32 × ST)) (h45 : ∀ (S : ST) (x1 : Int32) (x2 : Int32), G E (k45 S x1 x2) S 45 [(0, .ref (eA E 9)), (1, .int x1), (2, .int x2)] []) : ∀ (n : Nat) (S : ST) (x1 : Int32) (x2 : Int32) (x3 : Int32), G E (fX0_find_101 F k45 n S x1 x2 x3) S 101 [(0, .ref (eA E 9)), (1, .int x1), (2, .int x2), (3, .int x3)] []
  | 0, _, _, _, _ => r_none
  | n + 1, S, x1, x2, x3 => by
    have ih := gX0_find_101 X F k45 h45 n
    unfold fX0_find_101
    refine r_iload_n X 3 rfl dX0_find_101 ?_
    refine r_aload_n X 0 rfl dX0_find_102 ?_
    refine r_getR X fk_X0_9 lc_9 rfl dX0_find_103 ?_
    refine r_getI X fk_X0_96 lc_6 rfl dX0_find_106 ?_
    refine r_icmp_ge (tgt := 124) X dX0_find_109 (by decide) (fun _ => ?_) (fun _ => ?_)
    · refine r_iinc (lv' := [(0, _), (1, _), (2, _), (3, _)]) (dl := -1) X 2 rfl (by decide) (by decide) rfl dX0_find_124 ?_
      refine r_goto (tgt := 45) X dX0_find_127 (by decide) ?_
      refine r_sub [0, 1, 2] rfl ?_
      exact h45 _ _ _
    · refine r_aload_n X 0 rfl dX0_find_112 ?_
      refine r_iload_n X 2 rfl dX0_find_113 ?_
      refine r_iload_n X 3 rfl dX0_find_114 ?_
      refine r_callVv X (mX0_trySheets _ _ _ _) mk_X0_trySheets lk_X0_99 lc_9 rfl rfl (by decide) (by decide) (Nat.le_of_ble_eq_true rfl) rfl dX0_find_115 (fun q115 _ => ?_)
      refine r_iinc (lv' := [(0, _), (1, _), (2, _), (3, _)]) (dl := 1) X 3 rfl (by decide) (by decide) rfl dX0_find_118 ?_
      refine r_goto (tgt := 101) X dX0_find_121 (by decide) ?_
      exact ih _ _ _ _
def fX0_find_45 (F : Nat) : Nat → ST → Int32 → Int32 → Option (Int32 × ST)
  | 0, _, _, _ => none
  | n + 1, S, x1, x2 =>
  if x2 < 0 then
    ((fX0_listSheets F S x1).bind (fun q132 => some ((0 : Int32), q132.2)))
  else
    ((if vin (x2 + (1 : Int32)) 301 = true then (if vin x2 301 = true then bindS (us S 32 (ix x2) (S.1 32 (ix (x2 + (1 : Int32))))) (fun S62 => (if vin (x2 + (1 : Int32)) 301 = true then (if vin x2 301 = true then bindS (us S62 33 (ix x2) (S62.1 33 (ix (x2 + (1 : Int32))))) (fun S76 => (if vin x2 301 = true then bindS (us S76 34 (ix x2) (-1 : Int32)) (fun S83 => (if vin x2 301 = true then bindS (us S83 35 (ix x2) (0 : Int32)) (fun S90 => (fX5_beginAt F S90 x2).bind (fun q96 => fX0_find_101 F (fX0_find_45 F n) F q96.2 x1 x2 (0 : Int32))) else none)) else none)) else none) else none)) else none) else none))
set_option maxRecDepth 4000 in
theorem gX0_find_45 {E : CT} (X : Cx E layC cX0_find RX0 4 none 5) (F : Nat) : ∀ (n : Nat) (S : ST) (x1 : Int32) (x2 : Int32), G E (fX0_find_45 F n S x1 x2) S 45 [(0, .ref (eA E 9)), (1, .int x1), (2, .int x2)] []
  | 0, _, _, _ => r_none
  | n + 1, S, x1, x2 => by
    have ih := gX0_find_45 X F n
    unfold fX0_find_45
    refine r_iload_n X 2 rfl dX0_find_45 ?_
    refine r_if_lt (tgt := 130) X dX0_find_46 (by decide) (fun _ => ?_) (fun _ => ?_)
    · refine r_aload_n X 0 rfl dX0_find_130 ?_
      refine r_iload_n X 1 rfl dX0_find_131 ?_
      refine r_callVv X (mX0_listSheets _ _ _) mk_X0_listSheets lk_X0_103 lc_9 rfl rfl (by decide) (by decide) (Nat.le_of_ble_eq_true rfl) rfl dX0_find_132 (fun q132 _ => ?_)
      exact r_vret X dX0_find_135
    · refine r_aload_n X 0 rfl dX0_find_49 ?_
      refine r_getR X fk_X0_30 lc_9 rfl dX0_find_50 ?_
      refine r_iload_n X 2 rfl dX0_find_53 ?_
      refine r_aload_n X 0 rfl dX0_find_54 ?_
      refine r_getR X fk_X0_30 lc_9 rfl dX0_find_55 ?_
      refine r_iload_n X 2 rfl dX0_find_58 ?_
      refine r_iconst (v := 1) X (by decide) dX0_find_59 ?_
      refine r_iadd X dX0_find_60 ?_
      refine r_iald X lc_32 dX0_find_61 (fun _ => ?_)
      refine r_iast X lc_32 dX0_find_62 (fun _ => ?_)
      refine r_bindS (fun S62 => ?_)
      refine r_aload_n X 0 rfl dX0_find_63 ?_
      refine r_getR X fk_X0_34 lc_9 rfl dX0_find_64 ?_
      refine r_iload_n X 2 rfl dX0_find_67 ?_
      refine r_aload_n X 0 rfl dX0_find_68 ?_
      refine r_getR X fk_X0_34 lc_9 rfl dX0_find_69 ?_
      refine r_iload_n X 2 rfl dX0_find_72 ?_
      refine r_iconst (v := 1) X (by decide) dX0_find_73 ?_
      refine r_iadd X dX0_find_74 ?_
      refine r_iald X lc_33 dX0_find_75 (fun _ => ?_)
      refine r_iast X lc_33 dX0_find_76 (fun _ => ?_)
      refine r_bindS (fun S76 => ?_)
      refine r_aload_n X 0 rfl dX0_find_77 ?_
      refine r_getR X fk_X0_37 lc_9 rfl dX0_find_78 ?_
      refine r_iload_n X 2 rfl dX0_find_81 ?_
      refine r_iconst (v := -1) X (by decide) dX0_find_82 ?_
      refine r_iast X lc_34 dX0_find_83 (fun _ => ?_)
      refine r_bindS (fun S83 => ?_)
      refine r_aload_n X 0 rfl dX0_find_84 ?_
      refine r_getR X fk_X0_40 lc_9 rfl dX0_find_85 ?_
      refine r_iload_n X 2 rfl dX0_find_88 ?_
      refine r_iconst (v := 0) X (by decide) dX0_find_89 ?_
      refine r_iast X lc_35 dX0_find_90 (fun _ => ?_)
      refine r_bindS (fun S90 => ?_)
      refine r_aload_n X 0 rfl dX0_find_91 ?_
      refine r_getR X fk_X0_24 lc_9 rfl dX0_find_92 ?_
      refine r_iload_n X 2 rfl dX0_find_95 ?_
      refine r_callVv X (mX5_beginAt _ _ _) mk_X5_beginAt lk_X0_60 lc_8 rfl rfl (by decide) (by decide) (Nat.le_of_ble_eq_true rfl) rfl dX0_find_96 (fun q96 _ => ?_)
      refine r_iconst (v := 0) X (by decide) dX0_find_99 ?_
      refine r_istore_n (lv' := [(0, _), (1, _), (2, _), (3, _)]) X (by decide) rfl dX0_find_100 ?_
      exact gX0_find_101 X F _ ih F _ _ _ _
def fX0_find (F : Nat) (S : ST) : Option (Int32 × ST) :=
  if (S.1 9 11) = 0 then
    (some ((0 : Int32), S))
  else
    (bindS (us S 9 11 (0 : Int32)) (fun S10 => bindI ((jmin (S10.1 7 5) (300 : Int32))) (fun v26 => (if vin v26 301 = true then bindS (us S10 32 (ix v26) (0 : Int32)) (fun S33 => (if vin v26 301 = true then bindS (us S33 33 (ix v26) (0 : Int32)) (fun S40 => bindI ((v26 - (1 : Int32))) (fun v44 => fX0_find_45 F F S40 v26 v44)) else none)) else none))))
set_option maxRecDepth 4000 in
theorem gX0_find {E : CT} (X : Cx E layC cX0_find RX0 4 none 5) (F : Nat) (S : ST) : G E (fX0_find F S) S 0 [(0, .ref (eA E 9))] [] := by
  unfold fX0_find
  refine r_aload_n X 0 rfl dX0_find_0 ?_
  refine r_getI X fk_X0_56 lc_9 rfl dX0_find_1 ?_
  refine r_if_ne (tgt := 8) X dX0_find_4 (by decide) (fun _ => ?_) (fun _ => ?_)
  · refine r_aload_n X 0 rfl dX0_find_8 ?_
    refine r_iconst (v := 0) X (by decide) dX0_find_9 ?_
    refine r_putZ X pk_X0_56 lc_9 rfl (by decide) dX0_find_10 ?_
    refine r_bindS (fun S10 => ?_)
    refine r_aload_n X 0 rfl dX0_find_13 ?_
    refine r_getR X fk_X0_15 lc_9 rfl dX0_find_14 ?_
    refine r_getI X fk_X0_87 lc_7 rfl dX0_find_17 ?_
    refine r_sipush (v := 300) X (by decide) dX0_find_20 ?_
    refine r_mmin X lk_X0_90 km_min_s km_i km_min_c (by decide) (Nat.le_of_ble_eq_true rfl) dX0_find_23 ?_
    refine r_bindI (fun v26 => ?_)
    refine r_istore_n (lv' := [(0, _), (1, _)]) X (by decide) rfl dX0_find_26 ?_
    refine r_aload_n X 0 rfl dX0_find_27 ?_
    refine r_getR X fk_X0_30 lc_9 rfl dX0_find_28 ?_
    refine r_iload_n X 1 rfl dX0_find_31 ?_
    refine r_iconst (v := 0) X (by decide) dX0_find_32 ?_
    refine r_iast X lc_32 dX0_find_33 (fun _ => ?_)
    refine r_bindS (fun S33 => ?_)
    refine r_aload_n X 0 rfl dX0_find_34 ?_
    refine r_getR X fk_X0_34 lc_9 rfl dX0_find_35 ?_
    refine r_iload_n X 1 rfl dX0_find_38 ?_
    refine r_iconst (v := 0) X (by decide) dX0_find_39 ?_
    refine r_iast X lc_33 dX0_find_40 (fun _ => ?_)
    refine r_bindS (fun S40 => ?_)
    refine r_iload_n X 1 rfl dX0_find_41 ?_
    refine r_iconst (v := 1) X (by decide) dX0_find_42 ?_
    refine r_isub X dX0_find_43 ?_
    refine r_bindI (fun v44 => ?_)
    refine r_istore_n (lv' := [(0, _), (1, _), (2, _)]) X (by decide) rfl dX0_find_44 ?_
    exact gX0_find_45 X F F _ _ _
  · exact r_vret X dX0_find_7
theorem mX0_find (F : Nat) (S : ST) : MetS yX0_find cX0_find 4 none 5 layC (fX0_find F S) S (fun ad => [.ref (ad 9)]) := mk_met (fun ad => [(0, .ref (ad 9))]) (by decide) (fun _ => Nat.le_of_ble_eq_true rfl) (fun _ => rfl) (fun E X => gX0_find X F S)
def fX0_forget (F : Nat) (S : ST) : Option (Int32 × ST) :=
  bindS (us S 9 11 (1 : Int32)) (fun S2 => some ((0 : Int32), S2))
set_option maxRecDepth 4000 in
theorem gX0_forget {E : CT} (X : Cx E layC cX0_forget RX0 1 none 0) (F : Nat) (S : ST) : G E (fX0_forget F S) S 0 [(0, .ref (eA E 9))] [] := by
  unfold fX0_forget
  refine r_aload_n X 0 rfl dX0_forget_0 ?_
  refine r_iconst (v := 1) X (by decide) dX0_forget_1 ?_
  refine r_putZ X pk_X0_56 lc_9 rfl (by decide) dX0_forget_2 ?_
  refine r_bindS (fun S2 => ?_)
  exact r_vret X dX0_forget_5
theorem mX0_forget (F : Nat) (S : ST) : MetS yX0_forget cX0_forget 1 none 0 layC (fX0_forget F S) S (fun ad => [.ref (ad 9)]) := mk_met (fun ad => [(0, .ref (ad 9))]) (by decide) (fun _ => Nat.le_of_ble_eq_true rfl) (fun _ => rfl) (fun E X => gX0_forget X F S)
def fX0_isSheet (F : Nat) (S : ST) (x1 : Int32) (x2 : Int32) (x3 : Int32) : Option (Int32 × ST) :=
  (fX5_beginAt F S x1).bind (fun q5 => (fX2_widthOf F q5.2 x2).bind (fun q18 => (fX5_endBefore F q18.2 (x1 + q18.1)).bind (fun q22 => (fX0_partIsSheet F q22.2 x2 x3).bind (fun q28 => if q28.1 &&& 1 = q28.1 then some (q28.1, q28.2) else none))))
set_option maxRecDepth 4000 in
theorem gX0_isSheet {E : CT} (X : Cx E layC cX0_isSheet RX0 4 (some .boolean) 4) (F : Nat) (S : ST) (x1 : Int32) (x2 : Int32) (x3 : Int32) : G E (fX0_isSheet F S x1 x2 x3) S 0 [(0, .ref (eA E 9)), (1, .int x1), (2, .int x2), (3, .int x3)] [] := by
  unfold fX0_isSheet
  refine r_aload_n X 0 rfl dX0_isSheet_0 ?_
  refine r_getR X fk_X0_24 lc_9 rfl dX0_isSheet_1 ?_
  refine r_iload_n X 1 rfl dX0_isSheet_4 ?_
  refine r_callVv X (mX5_beginAt _ _ _) mk_X5_beginAt lk_X0_60 lc_8 rfl rfl (by decide) (by decide) (Nat.le_of_ble_eq_true rfl) rfl dX0_isSheet_5 (fun q5 _ => ?_)
  refine r_aload_n X 0 rfl dX0_isSheet_8 ?_
  refine r_getR X fk_X0_24 lc_9 rfl dX0_isSheet_9 ?_
  refine r_iload_n X 1 rfl dX0_isSheet_12 ?_
  refine r_aload_n X 0 rfl dX0_isSheet_13 ?_
  refine r_getR X fk_X0_9 lc_9 rfl dX0_isSheet_14 ?_
  refine r_iload_n X 2 rfl dX0_isSheet_17 ?_
  refine r_callV X (mX2_widthOf _ _ _) mk_X2_widthOf lk_X0_64 lc_6 rfl rfl (by decide) (by decide) (Nat.le_of_ble_eq_true rfl) rfl dX0_isSheet_18 (fun q18 _ => ?_)
  refine r_iadd X dX0_isSheet_21 ?_
  refine r_callVv X (mX5_endBefore _ _ _) mk_X5_endBefore lk_X0_70 lc_8 rfl rfl (by decide) (by decide) (Nat.le_of_ble_eq_true rfl) rfl dX0_isSheet_22 (fun q22 _ => ?_)
  refine r_aload_n X 0 rfl dX0_isSheet_25 ?_
  refine r_iload_n X 2 rfl dX0_isSheet_26 ?_
  refine r_iload_n X 3 rfl dX0_isSheet_27 ?_
  refine r_callV X (mX0_partIsSheet _ _ _ _) mk_X0_partIsSheet lk_X0_73 lc_9 rfl rfl (by decide) (by decide) (Nat.le_of_ble_eq_true rfl) rfl dX0_isSheet_28 (fun q28 _ => ?_)
  exact r_zretC X dX0_isSheet_31
theorem mX0_isSheet (F : Nat) (S : ST) (x1 : Int32) (x2 : Int32) (x3 : Int32) : MetS yX0_isSheet cX0_isSheet 4 (some .boolean) 4 layC (fX0_isSheet F S x1 x2 x3) S (fun ad => [.ref (ad 9), .int x1, .int x2, .int x3]) := mk_met (fun ad => [(0, .ref (ad 9)), (1, .int x1), (2, .int x2), (3, .int x3)]) (by decide) (fun _ => Nat.le_of_ble_eq_true rfl) (fun _ => rfl) (fun E X => gX0_isSheet X F S x1 x2 x3)
def fX0_setPatching (F : Nat) (S : ST) (x1 : Int32) (x2 : Int32) : Option (Int32 × ST) :=
  bindS (us S 9 8 x1) (fun S2 => bindS (us S2 9 9 x2) (fun S7 => bindS (us S7 9 11 (1 : Int32)) (fun S12 => some ((0 : Int32), S12))))
set_option maxRecDepth 4000 in
theorem gX0_setPatching {E : CT} (X : Cx E layC cX0_setPatching RX0 3 none 0) (F : Nat) (S : ST) (x1 : Int32) (x2 : Int32) : G E (fX0_setPatching F S x1 x2) S 0 [(0, .ref (eA E 9)), (1, .int x1), (2, .int x2)] [] := by
  unfold fX0_setPatching
  refine r_aload_n X 0 rfl dX0_setPatching_0 ?_
  refine r_iload_n X 1 rfl dX0_setPatching_1 ?_
  refine r_putI X pk_X0_46 lc_9 rfl dX0_setPatching_2 ?_
  refine r_bindS (fun S2 => ?_)
  refine r_aload_n X 0 rfl dX0_setPatching_5 ?_
  refine r_iload_n X 2 rfl dX0_setPatching_6 ?_
  refine r_putI X pk_X0_50 lc_9 rfl dX0_setPatching_7 ?_
  refine r_bindS (fun S7 => ?_)
  refine r_aload_n X 0 rfl dX0_setPatching_10 ?_
  refine r_iconst (v := 1) X (by decide) dX0_setPatching_11 ?_
  refine r_putZ X pk_X0_56 lc_9 rfl (by decide) dX0_setPatching_12 ?_
  refine r_bindS (fun S12 => ?_)
  exact r_vret X dX0_setPatching_15
theorem mX0_setPatching (F : Nat) (S : ST) (x1 : Int32) (x2 : Int32) : MetS yX0_setPatching cX0_setPatching 3 none 0 layC (fX0_setPatching F S x1 x2) S (fun ad => [.ref (ad 9), .int x1, .int x2]) := mk_met (fun ad => [(0, .ref (ad 9)), (1, .int x1), (2, .int x2)]) (by decide) (fun _ => Nat.le_of_ble_eq_true rfl) (fun _ => rfl) (fun E X => gX0_setPatching X F S x1 x2)
def fX0_tell (F : Nat) (S : ST) (x1 : Int32) (x2 : Int32) : Option (Int32 × ST) :=
  if x1 < 0 then
    (some ((-1 : Int32), S))
  else
    (if (S.1 9 10) ≤ x1 then
      (some ((-1 : Int32), S))
    else
      (if x1 < (300 : Int32) then
        ((if vin x1 300 = true then bindI ((S.1 36 (ix x1))) (fun v29 => if v29 < 0 then
          (some ((-1 : Int32), S))
        else
          (if v29 < (301 : Int32) then
            ((if x2 = (0 : Int32) then
              (some (v29, S))
            else (if x2 = (1 : Int32) then
              ((if vin v29 301 = true then some ((S.1 34 (ix v29)), S) else none))
            else (if x2 = (2 : Int32) then
              ((if vin v29 301 = true then some ((S.1 35 (ix v29)), S) else none))
            else (some ((-1 : Int32), S))))))
          else
            (some ((-1 : Int32), S)))) else none))
      else
        (some ((-1 : Int32), S))))
set_option maxRecDepth 4000 in
theorem gX0_tell {E : CT} (X : Cx E layC cX0_tell RX0 4 (some .int) 0) (F : Nat) (S : ST) (x1 : Int32) (x2 : Int32) : G E (fX0_tell F S x1 x2) S 0 [(0, .ref (eA E 9)), (1, .int x1), (2, .int x2)] [] := by
  unfold fX0_tell
  refine r_iload_n X 1 rfl dX0_tell_0 ?_
  refine r_if_lt (tgt := 21) X dX0_tell_1 (by decide) (fun _ => ?_) (fun _ => ?_)
  · refine r_iconst (v := -1) X (by decide) dX0_tell_21 ?_
    exact r_iret X dX0_tell_22
  · refine r_iload_n X 1 rfl dX0_tell_4 ?_
    refine r_aload_n X 0 rfl dX0_tell_5 ?_
    refine r_getI X fk_X0_53 lc_9 rfl dX0_tell_6 ?_
    refine r_icmp_ge (tgt := 21) X dX0_tell_9 (by decide) (fun _ => ?_) (fun _ => ?_)
    · refine r_iconst (v := -1) X (by decide) dX0_tell_21 ?_
      exact r_iret X dX0_tell_22
    · refine r_iload_n X 1 rfl dX0_tell_12 ?_
      refine r_aload_n X 0 rfl dX0_tell_13 ?_
      refine r_getR X fk_X0_43 lc_9 rfl dX0_tell_14 ?_
      refine r_alen (v := 300) X lc_36 (by decide) dX0_tell_17 ?_
      refine r_icmp_lt (tgt := 23) X dX0_tell_18 (by decide) (fun _ => ?_) (fun _ => ?_)
      · refine r_aload_n X 0 rfl dX0_tell_23 ?_
        refine r_getR X fk_X0_43 lc_9 rfl dX0_tell_24 ?_
        refine r_iload_n X 1 rfl dX0_tell_27 ?_
        refine r_iald X lc_36 dX0_tell_28 (fun _ => ?_)
        refine r_bindI (fun v29 => ?_)
        refine r_istore_n (lv' := [(0, _), (1, _), (2, _), (3, _)]) X (by decide) rfl dX0_tell_29 ?_
        refine r_iload_n X 3 rfl dX0_tell_30 ?_
        refine r_if_lt (tgt := 43) X dX0_tell_31 (by decide) (fun _ => ?_) (fun _ => ?_)
        · refine r_iconst (v := -1) X (by decide) dX0_tell_43 ?_
          exact r_iret X dX0_tell_44
        · refine r_iload_n X 3 rfl dX0_tell_34 ?_
          refine r_aload_n X 0 rfl dX0_tell_35 ?_
          refine r_getR X fk_X0_37 lc_9 rfl dX0_tell_36 ?_
          refine r_alen (v := 301) X lc_34 (by decide) dX0_tell_39 ?_
          refine r_icmp_lt (tgt := 45) X dX0_tell_40 (by decide) (fun _ => ?_) (fun _ => ?_)
          · refine r_iload_n X 2 rfl dX0_tell_45 ?_
            refine r_ite (fun hh0 => ?_) (fun hh0 => ?_)
            · refine r_tsIn (tgt := 72) X (0) hh0 dX0_tell_46 (by decide) (by decide) rfl (by decide) ?_
              refine r_iload_n X 3 rfl dX0_tell_72 ?_
              exact r_iret X dX0_tell_73
            refine r_ite (fun hh1 => ?_) (fun hh1 => ?_)
            · refine r_tsIn (tgt := 74) X (1) hh1 dX0_tell_46 (by decide) (by decide) rfl (by decide) ?_
              refine r_aload_n X 0 rfl dX0_tell_74 ?_
              refine r_getR X fk_X0_37 lc_9 rfl dX0_tell_75 ?_
              refine r_iload_n X 3 rfl dX0_tell_78 ?_
              refine r_iald X lc_34 dX0_tell_79 (fun _ => ?_)
              exact r_iret X dX0_tell_80
            refine r_ite (fun hh2 => ?_) (fun hh2 => ?_)
            · refine r_tsIn (tgt := 81) X (2) hh2 dX0_tell_46 (by decide) (by decide) rfl (by decide) ?_
              refine r_aload_n X 0 rfl dX0_tell_81 ?_
              refine r_getR X fk_X0_40 lc_9 rfl dX0_tell_82 ?_
              refine r_iload_n X 3 rfl dX0_tell_85 ?_
              refine r_iald X lc_35 dX0_tell_86 (fun _ => ?_)
              exact r_iret X dX0_tell_87
            refine r_tsOut (tgt := 88) X (by have a0 := lv_neT hh0 (k := 0) (a := 0) rfl; have a1 := lv_neT hh1 (k := 1) (a := 1) rfl; have a2 := lv_neT hh2 (k := 2) (a := 2) rfl; omega) dX0_tell_46 (by decide) ?_
            refine r_iconst (v := -1) X (by decide) dX0_tell_88 ?_
            exact r_iret X dX0_tell_89
          · refine r_iconst (v := -1) X (by decide) dX0_tell_43 ?_
            exact r_iret X dX0_tell_44
      · refine r_iconst (v := -1) X (by decide) dX0_tell_21 ?_
        exact r_iret X dX0_tell_22
theorem mX0_tell (F : Nat) (S : ST) (x1 : Int32) (x2 : Int32) : MetS yX0_tell cX0_tell 4 (some .int) 0 layC (fX0_tell F S x1 x2) S (fun ad => [.ref (ad 9), .int x1, .int x2]) := mk_met (fun ad => [(0, .ref (ad 9)), (1, .int x1), (2, .int x2)]) (by decide) (fun _ => Nat.le_of_ble_eq_true rfl) (fun _ => rfl) (fun E X => gX0_tell X F S x1 x2)
def fX0_totalWorth (F : Nat) (S : ST) : Option (Int32 × ST) :=
  (if vin (0 : Int32) 301 = true then some ((S.1 32 (ix (0 : Int32))), S) else none)
set_option maxRecDepth 4000 in
theorem gX0_totalWorth {E : CT} (X : Cx E layC cX0_totalWorth RX0 1 (some .int) 0) (F : Nat) (S : ST) : G E (fX0_totalWorth F S) S 0 [(0, .ref (eA E 9))] [] := by
  unfold fX0_totalWorth
  refine r_aload_n X 0 rfl dX0_totalWorth_0 ?_
  refine r_getR X fk_X0_30 lc_9 rfl dX0_totalWorth_1 ?_
  refine r_iconst (v := 0) X (by decide) dX0_totalWorth_4 ?_
  refine r_iald X lc_32 dX0_totalWorth_5 (fun _ => ?_)
  exact r_iret X dX0_totalWorth_6
theorem mX0_totalWorth (F : Nat) (S : ST) : MetS yX0_totalWorth cX0_totalWorth 1 (some .int) 0 layC (fX0_totalWorth F S) S (fun ad => [.ref (ad 9)]) := mk_met (fun ad => [(0, .ref (ad 9))]) (by decide) (fun _ => Nat.le_of_ble_eq_true rfl) (fun _ => rfl) (fun E X => gX0_totalWorth X F S)
