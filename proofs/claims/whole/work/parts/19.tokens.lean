def fX8_add (F : Nat) (S : ST) (x1 : Int32) (x2 : Int32) : Option (Int32 × ST) :=
  if (S.1 4 2) < 0 then
    (some ((0 : Int32), S))
  else
    (if (601 : Int32) ≤ (S.1 4 2) then
      (some ((0 : Int32), S))
    else
      ((if vin (S.1 4 2) 601 = true then bindS (us S 14 (ix (S.1 4 2)) x1) (fun S28 => (if vin (S28.1 4 2) 601 = true then bindS (us S28 15 (ix (S28.1 4 2)) x2) (fun S38 => bindS (us S38 4 2 ((S38.1 4 2) + (1 : Int32))) (fun S46 => some ((0 : Int32), S46))) else none)) else none)))
set_option maxRecDepth 4000 in
theorem gX8_add {E : CT} (X : Cx E layC cX8_add RX8 3 none 0) (F : Nat) (S : ST) (x1 : Int32) (x2 : Int32) : G E (fX8_add F S x1 x2) S 0 [(0, .ref (eA E 4)), (1, .int x1), (2, .int x2)] [] := by
  unfold fX8_add
  refine r_aload_n X 0 rfl dX8_add_0 ?_
  refine r_getI X fk_X8_20 lc_4 rfl dX8_add_1 ?_
  refine r_if_lt (tgt := 49) X dX8_add_4 (by decide) (fun _ => ?_) (fun _ => ?_)
  · exact r_vret X dX8_add_49
  · refine r_aload_n X 0 rfl dX8_add_7 ?_
    refine r_getI X fk_X8_20 lc_4 rfl dX8_add_8 ?_
    refine r_aload_n X 0 rfl dX8_add_11 ?_
    refine r_getR X fk_X8_11 lc_4 rfl dX8_add_12 ?_
    refine r_alen (v := 601) X lc_14 (by decide) dX8_add_15 ?_
    refine r_icmp_ge (tgt := 49) X dX8_add_16 (by decide) (fun _ => ?_) (fun _ => ?_)
    · exact r_vret X dX8_add_49
    · refine r_aload_n X 0 rfl dX8_add_19 ?_
      refine r_getR X fk_X8_11 lc_4 rfl dX8_add_20 ?_
      refine r_aload_n X 0 rfl dX8_add_23 ?_
      refine r_getI X fk_X8_20 lc_4 rfl dX8_add_24 ?_
      refine r_iload_n X 1 rfl dX8_add_27 ?_
      refine r_iast X lc_14 dX8_add_28 (fun _ => ?_)
      refine r_bindS (fun S28 => ?_)
      refine r_aload_n X 0 rfl dX8_add_29 ?_
      refine r_getR X fk_X8_17 lc_4 rfl dX8_add_30 ?_
      refine r_aload_n X 0 rfl dX8_add_33 ?_
      refine r_getI X fk_X8_20 lc_4 rfl dX8_add_34 ?_
      refine r_iload_n X 2 rfl dX8_add_37 ?_
      refine r_iast X lc_15 dX8_add_38 (fun _ => ?_)
      refine r_bindS (fun S38 => ?_)
      refine r_aload_n X 0 rfl dX8_add_39 ?_
      refine r_dup X rfl dX8_add_40 ?_
      refine r_getI X fk_X8_20 lc_4 rfl dX8_add_41 ?_
      refine r_iconst (v := 1) X (by decide) dX8_add_44 ?_
      refine r_iadd X dX8_add_45 ?_
      refine r_putI X pk_X8_20 lc_4 rfl dX8_add_46 ?_
      refine r_bindS (fun S46 => ?_)
      exact r_vret X dX8_add_49
theorem mX8_add (F : Nat) (S : ST) (x1 : Int32) (x2 : Int32) : MetS yX8_add cX8_add 3 none 0 layC (fX8_add F S x1 x2) S (fun ad => [.ref (ad 4), .int x1, .int x2]) := mk_met (fun ad => [(0, .ref (ad 4)), (1, .int x1), (2, .int x2)]) (by decide) (fun _ => Nat.le_of_ble_eq_true rfl) (fun _ => rfl) (fun E X => gX8_add X F S x1 x2)
def fX8_isDigit (F : Nat) (S : ST) (x0 : Int32) : Option (Int32 × ST) :=
  (fX10_within F S x0 (48 : Int32) (57 : Int32)).bind (fun q5 => if q5.1 &&& 1 = q5.1 then some (q5.1, q5.2) else none)
set_option maxRecDepth 4000 in
theorem gX8_isDigit {E : CT} (X : Cx E layC cX8_isDigit RX8 1 (some .boolean) 1) (F : Nat) (S : ST) (x0 : Int32) : G E (fX8_isDigit F S x0) S 0 [(0, .int x0)] [] := by
  unfold fX8_isDigit
  refine r_iload_n X 0 rfl dX8_isDigit_0 ?_
  refine r_bipush (v := 48) X (by decide) dX8_isDigit_1 ?_
  refine r_bipush (v := 57) X (by decide) dX8_isDigit_3 ?_
  refine r_callS X (mX10_within _ _ _ _ _) mk_X10_within lk_X8_106 rfl (by decide) (by decide) (Nat.le_of_ble_eq_true rfl) rfl dX8_isDigit_5 (fun q5 _ => ?_)
  exact r_zretC X dX8_isDigit_8
theorem mX8_isDigit (F : Nat) (S : ST) (x0 : Int32) : MetS yX8_isDigit cX8_isDigit 1 (some .boolean) 1 layC (fX8_isDigit F S x0) S (fun ad => [.int x0]) := mk_met (fun ad => [(0, .int x0)]) (by decide) (fun _ => Nat.le_of_ble_eq_true rfl) (fun _ => rfl) (fun E X => gX8_isDigit X F S x0)
def fX8_isLetter (F : Nat) (S : ST) (x0 : Int32) : Option (Int32 × ST) :=
  (fX10_within F S x0 (97 : Int32) (122 : Int32)).bind (fun q5 => if q5.1 &&& 1 = q5.1 then some (q5.1, q5.2) else none)
set_option maxRecDepth 4000 in
theorem gX8_isLetter {E : CT} (X : Cx E layC cX8_isLetter RX8 1 (some .boolean) 1) (F : Nat) (S : ST) (x0 : Int32) : G E (fX8_isLetter F S x0) S 0 [(0, .int x0)] [] := by
  unfold fX8_isLetter
  refine r_iload_n X 0 rfl dX8_isLetter_0 ?_
  refine r_bipush (v := 97) X (by decide) dX8_isLetter_1 ?_
  refine r_bipush (v := 122) X (by decide) dX8_isLetter_3 ?_
  refine r_callS X (mX10_within _ _ _ _ _) mk_X10_within lk_X8_106 rfl (by decide) (by decide) (Nat.le_of_ble_eq_true rfl) rfl dX8_isLetter_5 (fun q5 _ => ?_)
  exact r_zretC X dX8_isLetter_8
theorem mX8_isLetter (F : Nat) (S : ST) (x0 : Int32) : MetS yX8_isLetter cX8_isLetter 1 (some .boolean) 1 layC (fX8_isLetter F S x0) S (fun ad => [.int x0]) := mk_met (fun ad => [(0, .int x0)]) (by decide) (fun _ => Nat.le_of_ble_eq_true rfl) (fun _ => rfl) (fun E X => gX8_isLetter X F S x0)
def fX8_endAt_13 (F : Nat) : Nat → ST → Int32 → Option (Int32 × ST)
  | 0, _, _ => none
  | n + 1, S, x2 =>
  if (S.1 2 1) ≤ x2 then
    (some (x2, S))
  else
    ((fX7_byteAt F S x2).bind (fun q23 => (fX8_isDigit F q23.2 q23.1).bind (fun q26 => if q26.1 = 0 then
      (some (x2, q26.2))
    else
      (fX8_endAt_13 F n q26.2 (x2 + (1 : Int32))))))
set_option maxRecDepth 4000 in
theorem gX8_endAt_13 {E : CT} (X : Cx E layC cX8_endAt RX8 3 (some .int) 2) (F : Nat) : ∀ (n : Nat) (S : ST) (x2 : Int32), G E (fX8_endAt_13 F n S x2) S 13 [(0, .ref (eA E 2)), (2, .int x2)] []
  | 0, _, _ => r_none
  | n + 1, S, x2 => by
    have ih := gX8_endAt_13 X F n
    unfold fX8_endAt_13
    refine r_iload_n X 1 rfl dX8_endAt_13 ?_
    refine r_aload_n X 0 rfl dX8_endAt_14 ?_
    refine r_getI X fk_X8_24 lc_2 rfl dX8_endAt_15 ?_
    refine r_icmp_ge (tgt := 38) X dX8_endAt_18 (by decide) (fun _ => ?_) (fun _ => ?_)
    · refine r_iload_n X 1 rfl dX8_endAt_38 ?_
      exact r_iret X dX8_endAt_39
    · refine r_aload_n X 0 rfl dX8_endAt_21 ?_
      refine r_iload_n X 1 rfl dX8_endAt_22 ?_
      refine r_callV X (mX7_byteAt _ _ _) mk_X7_byteAt lk_X8_37 lc_2 rfl rfl (by decide) (by decide) (Nat.le_of_ble_eq_true rfl) rfl dX8_endAt_23 (fun q23 _ => ?_)
      refine r_callS X (mX8_isDigit _ _ _) mk_X8_isDigit lk_X8_53 rfl (by decide) (by decide) (Nat.le_of_ble_eq_true rfl) rfl dX8_endAt_26 (fun q26 _ => ?_)
      refine r_if_eq (tgt := 38) X dX8_endAt_29 (by decide) (fun _ => ?_) (fun _ => ?_)
      · refine r_iload_n X 1 rfl dX8_endAt_38 ?_
        exact r_iret X dX8_endAt_39
      · refine r_iinc (lv' := [(0, _), (2, _)]) (dl := 1) X 1 rfl (by decide) (by decide) rfl dX8_endAt_32 ?_
        refine r_goto (tgt := 13) X dX8_endAt_35 (by decide) ?_
        exact ih _ _
def fX8_endAt_40 (F : Nat) : Nat → ST → Int32 → Option (Int32 × ST)
  | 0, _, _ => none
  | n + 1, S, x2 =>
  if (S.1 2 1) ≤ x2 then
    (some (x2, S))
  else
    ((fX7_byteAt F S x2).bind (fun q50 => (fX8_isLetter F q50.2 q50.1).bind (fun q53 => if q53.1 = 0 then
      (some (x2, q53.2))
    else
      (fX8_endAt_40 F n q53.2 (x2 + (1 : Int32))))))
set_option maxRecDepth 4000 in
theorem gX8_endAt_40 {E : CT} (X : Cx E layC cX8_endAt RX8 3 (some .int) 2) (F : Nat) : ∀ (n : Nat) (S : ST) (x2 : Int32), G E (fX8_endAt_40 F n S x2) S 40 [(0, .ref (eA E 2)), (2, .int x2)] []
  | 0, _, _ => r_none
  | n + 1, S, x2 => by
    have ih := gX8_endAt_40 X F n
    unfold fX8_endAt_40
    refine r_iload_n X 1 rfl dX8_endAt_40 ?_
    refine r_aload_n X 0 rfl dX8_endAt_41 ?_
    refine r_getI X fk_X8_24 lc_2 rfl dX8_endAt_42 ?_
    refine r_icmp_ge (tgt := 65) X dX8_endAt_45 (by decide) (fun _ => ?_) (fun _ => ?_)
    · refine r_iload_n X 1 rfl dX8_endAt_65 ?_
      exact r_iret X dX8_endAt_66
    · refine r_aload_n X 0 rfl dX8_endAt_48 ?_
      refine r_iload_n X 1 rfl dX8_endAt_49 ?_
      refine r_callV X (mX7_byteAt _ _ _) mk_X7_byteAt lk_X8_37 lc_2 rfl rfl (by decide) (by decide) (Nat.le_of_ble_eq_true rfl) rfl dX8_endAt_50 (fun q50 _ => ?_)
      refine r_callS X (mX8_isLetter _ _ _) mk_X8_isLetter lk_X8_56 rfl (by decide) (by decide) (Nat.le_of_ble_eq_true rfl) rfl dX8_endAt_53 (fun q53 _ => ?_)
      refine r_if_eq (tgt := 65) X dX8_endAt_56 (by decide) (fun _ => ?_) (fun _ => ?_)
      · refine r_iload_n X 1 rfl dX8_endAt_65 ?_
        exact r_iret X dX8_endAt_66
      · refine r_iinc (lv' := [(0, _), (2, _)]) (dl := 1) X 1 rfl (by decide) (by decide) rfl dX8_endAt_59 ?_
        refine r_goto (tgt := 40) X dX8_endAt_62 (by decide) ?_
        exact ih _ _
def fX8_endAt (F : Nat) (S : ST) (x1 : Int32) : Option (Int32 × ST) :=
  (fX7_byteAt F S x1).bind (fun q4 => (fX8_isDigit F q4.2 q4.1).bind (fun q7 => if q7.1 = 0 then
    (fX8_endAt_40 F F q7.2 x1)
  else
    (fX8_endAt_13 F F q7.2 x1)))
set_option maxRecDepth 4000 in
theorem gX8_endAt {E : CT} (X : Cx E layC cX8_endAt RX8 3 (some .int) 2) (F : Nat) (S : ST) (x1 : Int32) : G E (fX8_endAt F S x1) S 0 [(0, .ref (eA E 2)), (1, .int x1)] [] := by
  unfold fX8_endAt
  refine r_iload_n X 1 rfl dX8_endAt_0 ?_
  refine r_istore_n (lv' := [(0, _), (1, _), (2, _)]) X (by decide) rfl dX8_endAt_1 ?_
  refine r_aload_n X 0 rfl dX8_endAt_2 ?_
  refine r_iload_n X 2 rfl dX8_endAt_3 ?_
  refine r_callV X (mX7_byteAt _ _ _) mk_X7_byteAt lk_X8_37 lc_2 rfl rfl (by decide) (by decide) (Nat.le_of_ble_eq_true rfl) rfl dX8_endAt_4 (fun q4 _ => ?_)
  refine r_callS X (mX8_isDigit _ _ _) mk_X8_isDigit lk_X8_53 rfl (by decide) (by decide) (Nat.le_of_ble_eq_true rfl) rfl dX8_endAt_7 (fun q7 _ => ?_)
  refine r_if_eq (tgt := 40) X dX8_endAt_10 (by decide) (fun _ => ?_) (fun _ => ?_)
  · refine r_sub [0, 2] rfl ?_
    exact gX8_endAt_40 X F F _ _
  · refine r_sub [0, 2] rfl ?_
    exact gX8_endAt_13 X F F _ _
theorem mX8_endAt (F : Nat) (S : ST) (x1 : Int32) : MetS yX8_endAt cX8_endAt 3 (some .int) 2 layC (fX8_endAt F S x1) S (fun ad => [.ref (ad 2), .int x1]) := mk_met (fun ad => [(0, .ref (ad 2)), (1, .int x1)]) (by decide) (fun _ => Nat.le_of_ble_eq_true rfl) (fun _ => rfl) (fun E X => gX8_endAt X F S x1)
def fX8_isBlank (F : Nat) (S : ST) (x0 : Int32) : Option (Int32 × ST) :=
  if x0 = (32 : Int32) then
    (some ((1 : Int32), S))
  else
    (if x0 = (10 : Int32) then
      (some ((1 : Int32), S))
    else
      (some ((0 : Int32), S)))
set_option maxRecDepth 4000 in
theorem gX8_isBlank {E : CT} (X : Cx E layC cX8_isBlank RX8 1 (some .boolean) 0) (F : Nat) (S : ST) (x0 : Int32) : G E (fX8_isBlank F S x0) S 0 [(0, .int x0)] [] := by
  unfold fX8_isBlank
  refine r_iload_n X 0 rfl dX8_isBlank_0 ?_
  refine r_bipush (v := 32) X (by decide) dX8_isBlank_1 ?_
  refine r_icmp_eq (tgt := 12) X dX8_isBlank_3 (by decide) (fun _ => ?_) (fun _ => ?_)
  · refine r_iconst (v := 1) X (by decide) dX8_isBlank_12 ?_
    refine r_goto (tgt := 17) X dX8_isBlank_13 (by decide) ?_
    exact r_zret X (by decide) dX8_isBlank_17
  · refine r_iload_n X 0 rfl dX8_isBlank_6 ?_
    refine r_bipush (v := 10) X (by decide) dX8_isBlank_7 ?_
    refine r_icmp_ne (tgt := 16) X dX8_isBlank_9 (by decide) (fun _ => ?_) (fun _ => ?_)
    · refine r_iconst (v := 0) X (by decide) dX8_isBlank_16 ?_
      exact r_zret X (by decide) dX8_isBlank_17
    · refine r_iconst (v := 1) X (by decide) dX8_isBlank_12 ?_
      refine r_goto (tgt := 17) X dX8_isBlank_13 (by decide) ?_
      exact r_zret X (by decide) dX8_isBlank_17
theorem mX8_isBlank (F : Nat) (S : ST) (x0 : Int32) : MetS yX8_isBlank cX8_isBlank 1 (some .boolean) 0 layC (fX8_isBlank F S x0) S (fun ad => [.int x0]) := mk_met (fun ad => [(0, .int x0)]) (by decide) (fun _ => Nat.le_of_ble_eq_true rfl) (fun _ => rfl) (fun E X => gX8_isBlank X F S x0)
def fX8_numberAt_26 (F : Nat) : Nat → ST → Int32 → Int32 → Int32 → Option (Int32 × ST)
  | 0, _, _, _, _ => none
  | n + 1, S, x2, x3, x4 =>
  if x2 ≤ x4 then
    (some (x3, S))
  else
    ((fX7_byteAt F S x4).bind (fun q39 => bindI ((((x3 * (10 : Int32)) + q39.1) - (48 : Int32))) (fun v46 => fX8_numberAt_26 F n q39.2 x2 v46 (x4 + (1 : Int32)))))
set_option maxRecDepth 4000 in
theorem gX8_numberAt_26 {E : CT} (X : Cx E layC cX8_numberAt RX8 5 (some .int) 2) (F : Nat) : ∀ (n : Nat) (S : ST) (x2 : Int32) (x3 : Int32) (x4 : Int32), G E (fX8_numberAt_26 F n S x2 x3 x4) S 26 [(0, .ref (eA E 2)), (2, .int x2), (3, .int x3), (4, .int x4)] []
  | 0, _, _, _, _ => r_none
  | n + 1, S, x2, x3, x4 => by
    have ih := gX8_numberAt_26 X F n
    unfold fX8_numberAt_26
    refine r_iload X 3 rfl dX8_numberAt_26 ?_
    refine r_iload_n X 1 rfl dX8_numberAt_28 ?_
    refine r_icmp_ge (tgt := 53) X dX8_numberAt_29 (by decide) (fun _ => ?_) (fun _ => ?_)
    · refine r_iload_n X 2 rfl dX8_numberAt_53 ?_
      exact r_iret X dX8_numberAt_54
    · refine r_iload_n X 2 rfl dX8_numberAt_32 ?_
      refine r_bipush (v := 10) X (by decide) dX8_numberAt_33 ?_
      refine r_imul X dX8_numberAt_35 ?_
      refine r_aload_n X 0 rfl dX8_numberAt_36 ?_
      refine r_iload X 3 rfl dX8_numberAt_37 ?_
      refine r_callV X (mX7_byteAt _ _ _) mk_X7_byteAt lk_X8_37 lc_2 rfl rfl (by decide) (by decide) (Nat.le_of_ble_eq_true rfl) rfl dX8_numberAt_39 (fun q39 _ => ?_)
      refine r_iadd X dX8_numberAt_42 ?_
      refine r_bipush (v := 48) X (by decide) dX8_numberAt_43 ?_
      refine r_isub X dX8_numberAt_45 ?_
      refine r_bindI (fun v46 => ?_)
      refine r_istore_n (lv' := [(0, _), (2, _), (3, _), (4, _)]) X (by decide) rfl dX8_numberAt_46 ?_
      refine r_iinc (lv' := [(0, _), (2, _), (3, _), (4, _)]) (dl := 1) X 3 rfl (by decide) (by decide) rfl dX8_numberAt_47 ?_
      refine r_goto (tgt := 26) X dX8_numberAt_50 (by decide) ?_
      exact ih _ _ _ _
def fX8_numberAt (F : Nat) (S : ST) (x1 : Int32) (x2 : Int32) : Option (Int32 × ST) :=
  if (4 : Int32) < (x2 - x1) then
    (some ((-21 : Int32), S))
  else
    ((fX7_byteAt F S x2).bind (fun q9 => (fX8_isLetter F q9.2 q9.1).bind (fun q12 => if q12.1 = 0 then
      (fX8_numberAt_26 F F q12.2 x2 (0 : Int32) x1)
    else
      (some ((-21 : Int32), q12.2)))))
set_option maxRecDepth 4000 in
theorem gX8_numberAt {E : CT} (X : Cx E layC cX8_numberAt RX8 5 (some .int) 2) (F : Nat) (S : ST) (x1 : Int32) (x2 : Int32) : G E (fX8_numberAt F S x1 x2) S 0 [(0, .ref (eA E 2)), (1, .int x1), (2, .int x2)] [] := by
  unfold fX8_numberAt
  refine r_iload_n X 2 rfl dX8_numberAt_0 ?_
  refine r_iload_n X 1 rfl dX8_numberAt_1 ?_
  refine r_isub X dX8_numberAt_2 ?_
  refine r_iconst (v := 4) X (by decide) dX8_numberAt_3 ?_
  refine r_icmp_gt (tgt := 18) X dX8_numberAt_4 (by decide) (fun _ => ?_) (fun _ => ?_)
  · refine r_bipush (v := -21) X (by decide) dX8_numberAt_18 ?_
    exact r_iret X dX8_numberAt_20
  · refine r_aload_n X 0 rfl dX8_numberAt_7 ?_
    refine r_iload_n X 2 rfl dX8_numberAt_8 ?_
    refine r_callV X (mX7_byteAt _ _ _) mk_X7_byteAt lk_X8_37 lc_2 rfl rfl (by decide) (by decide) (Nat.le_of_ble_eq_true rfl) rfl dX8_numberAt_9 (fun q9 _ => ?_)
    refine r_callS X (mX8_isLetter _ _ _) mk_X8_isLetter lk_X8_56 rfl (by decide) (by decide) (Nat.le_of_ble_eq_true rfl) rfl dX8_numberAt_12 (fun q12 _ => ?_)
    refine r_if_eq (tgt := 21) X dX8_numberAt_15 (by decide) (fun _ => ?_) (fun _ => ?_)
    · refine r_iconst (v := 0) X (by decide) dX8_numberAt_21 ?_
      refine r_istore_n (lv' := [(0, _), (1, _), (2, _), (3, _)]) X (by decide) rfl dX8_numberAt_22 ?_
      refine r_iload_n X 1 rfl dX8_numberAt_23 ?_
      refine r_istore (lv' := [(0, _), (1, _), (2, _), (3, _), (4, _)]) X (by decide) rfl dX8_numberAt_24 ?_
      refine r_sub [0, 2, 3, 4] rfl ?_
      exact gX8_numberAt_26 X F F _ _ _ _
    · refine r_bipush (v := -21) X (by decide) dX8_numberAt_18 ?_
      exact r_iret X dX8_numberAt_20
theorem mX8_numberAt (F : Nat) (S : ST) (x1 : Int32) (x2 : Int32) : MetS yX8_numberAt cX8_numberAt 5 (some .int) 2 layC (fX8_numberAt F S x1 x2) S (fun ad => [.ref (ad 2), .int x1, .int x2]) := mk_met (fun ad => [(0, .ref (ad 2)), (1, .int x1), (2, .int x2)]) (by decide) (fun _ => Nat.le_of_ble_eq_true rfl) (fun _ => rfl) (fun E X => gX8_numberAt X F S x1 x2)
def fX8_signOf (F : Nat) (S : ST) (x0 : Int32) : Option (Int32 × ST) :=
  (if x0 = (40 : Int32) then
    (some ((-14 : Int32), S))
  else (if x0 = (41 : Int32) then
    (some ((-15 : Int32), S))
  else (if x0 = (42 : Int32) then
    (some ((-21 : Int32), S))
  else (if x0 = (43 : Int32) then
    (some ((-12 : Int32), S))
  else (if x0 = (44 : Int32) then
    (some ((-21 : Int32), S))
  else (if x0 = (45 : Int32) then
    (some ((-13 : Int32), S))
  else (if x0 = (46 : Int32) then
    (some ((-21 : Int32), S))
  else (if x0 = (47 : Int32) then
    (some ((-21 : Int32), S))
  else (if x0 = (48 : Int32) then
    (some ((-21 : Int32), S))
  else (if x0 = (49 : Int32) then
    (some ((-21 : Int32), S))
  else (if x0 = (50 : Int32) then
    (some ((-21 : Int32), S))
  else (if x0 = (51 : Int32) then
    (some ((-21 : Int32), S))
  else (if x0 = (52 : Int32) then
    (some ((-21 : Int32), S))
  else (if x0 = (53 : Int32) then
    (some ((-21 : Int32), S))
  else (if x0 = (54 : Int32) then
    (some ((-21 : Int32), S))
  else (if x0 = (55 : Int32) then
    (some ((-21 : Int32), S))
  else (if x0 = (56 : Int32) then
    (some ((-21 : Int32), S))
  else (if x0 = (57 : Int32) then
    (some ((-21 : Int32), S))
  else (if x0 = (58 : Int32) then
    (some ((-21 : Int32), S))
  else (if x0 = (59 : Int32) then
    (some ((-16 : Int32), S))
  else (if x0 = (60 : Int32) then
    (some ((-9 : Int32), S))
  else (if x0 = (61 : Int32) then
    (some ((-11 : Int32), S))
  else (if x0 = (62 : Int32) then
    (some ((-10 : Int32), S))
  else (some ((-21 : Int32), S)))))))))))))))))))))))))
set_option maxRecDepth 4000 in
theorem gX8_signOf {E : CT} (X : Cx E layC cX8_signOf RX8 1 (some .int) 0) (F : Nat) (S : ST) (x0 : Int32) : G E (fX8_signOf F S x0) S 0 [(0, .int x0)] [] := by
  unfold fX8_signOf
  refine r_iload_n X 0 rfl dX8_signOf_0 ?_
  refine r_ite (fun hh0 => ?_) (fun hh0 => ?_)
  · refine r_tsIn (tgt := 111) X (40) hh0 dX8_signOf_1 (by decide) (by decide) rfl (by decide) ?_
    refine r_bipush (v := -14) X (by decide) dX8_signOf_111 ?_
    exact r_iret X dX8_signOf_113
  refine r_ite (fun hh1 => ?_) (fun hh1 => ?_)
  · refine r_tsIn (tgt := 114) X (41) hh1 dX8_signOf_1 (by decide) (by decide) rfl (by decide) ?_
    refine r_bipush (v := -15) X (by decide) dX8_signOf_114 ?_
    exact r_iret X dX8_signOf_116
  refine r_ite (fun hh2 => ?_) (fun hh2 => ?_)
  · refine r_tsIn (tgt := 132) X (42) hh2 dX8_signOf_1 (by decide) (by decide) rfl (by decide) ?_
    refine r_bipush (v := -21) X (by decide) dX8_signOf_132 ?_
    exact r_iret X dX8_signOf_134
  refine r_ite (fun hh3 => ?_) (fun hh3 => ?_)
  · refine r_tsIn (tgt := 126) X (43) hh3 dX8_signOf_1 (by decide) (by decide) rfl (by decide) ?_
    refine r_bipush (v := -12) X (by decide) dX8_signOf_126 ?_
    exact r_iret X dX8_signOf_128
  refine r_ite (fun hh4 => ?_) (fun hh4 => ?_)
  · refine r_tsIn (tgt := 132) X (44) hh4 dX8_signOf_1 (by decide) (by decide) rfl (by decide) ?_
    refine r_bipush (v := -21) X (by decide) dX8_signOf_132 ?_
    exact r_iret X dX8_signOf_134
  refine r_ite (fun hh5 => ?_) (fun hh5 => ?_)
  · refine r_tsIn (tgt := 129) X (45) hh5 dX8_signOf_1 (by decide) (by decide) rfl (by decide) ?_
    refine r_bipush (v := -13) X (by decide) dX8_signOf_129 ?_
    exact r_iret X dX8_signOf_131
  refine r_ite (fun hh6 => ?_) (fun hh6 => ?_)
  · refine r_tsIn (tgt := 132) X (46) hh6 dX8_signOf_1 (by decide) (by decide) rfl (by decide) ?_
    refine r_bipush (v := -21) X (by decide) dX8_signOf_132 ?_
    exact r_iret X dX8_signOf_134
  refine r_ite (fun hh7 => ?_) (fun hh7 => ?_)
  · refine r_tsIn (tgt := 132) X (47) hh7 dX8_signOf_1 (by decide) (by decide) rfl (by decide) ?_
    refine r_bipush (v := -21) X (by decide) dX8_signOf_132 ?_
    exact r_iret X dX8_signOf_134
  refine r_ite (fun hh8 => ?_) (fun hh8 => ?_)
  · refine r_tsIn (tgt := 132) X (48) hh8 dX8_signOf_1 (by decide) (by decide) rfl (by decide) ?_
    refine r_bipush (v := -21) X (by decide) dX8_signOf_132 ?_
    exact r_iret X dX8_signOf_134
  refine r_ite (fun hh9 => ?_) (fun hh9 => ?_)
  · refine r_tsIn (tgt := 132) X (49) hh9 dX8_signOf_1 (by decide) (by decide) rfl (by decide) ?_
    refine r_bipush (v := -21) X (by decide) dX8_signOf_132 ?_
    exact r_iret X dX8_signOf_134
  refine r_ite (fun hh10 => ?_) (fun hh10 => ?_)
  · refine r_tsIn (tgt := 132) X (50) hh10 dX8_signOf_1 (by decide) (by decide) rfl (by decide) ?_
    refine r_bipush (v := -21) X (by decide) dX8_signOf_132 ?_
    exact r_iret X dX8_signOf_134
  refine r_ite (fun hh11 => ?_) (fun hh11 => ?_)
  · refine r_tsIn (tgt := 132) X (51) hh11 dX8_signOf_1 (by decide) (by decide) rfl (by decide) ?_
    refine r_bipush (v := -21) X (by decide) dX8_signOf_132 ?_
    exact r_iret X dX8_signOf_134
  refine r_ite (fun hh12 => ?_) (fun hh12 => ?_)
  · refine r_tsIn (tgt := 132) X (52) hh12 dX8_signOf_1 (by decide) (by decide) rfl (by decide) ?_
    refine r_bipush (v := -21) X (by decide) dX8_signOf_132 ?_
    exact r_iret X dX8_signOf_134
  refine r_ite (fun hh13 => ?_) (fun hh13 => ?_)
  · refine r_tsIn (tgt := 132) X (53) hh13 dX8_signOf_1 (by decide) (by decide) rfl (by decide) ?_
    refine r_bipush (v := -21) X (by decide) dX8_signOf_132 ?_
    exact r_iret X dX8_signOf_134
  refine r_ite (fun hh14 => ?_) (fun hh14 => ?_)
  · refine r_tsIn (tgt := 132) X (54) hh14 dX8_signOf_1 (by decide) (by decide) rfl (by decide) ?_
    refine r_bipush (v := -21) X (by decide) dX8_signOf_132 ?_
    exact r_iret X dX8_signOf_134
  refine r_ite (fun hh15 => ?_) (fun hh15 => ?_)
  · refine r_tsIn (tgt := 132) X (55) hh15 dX8_signOf_1 (by decide) (by decide) rfl (by decide) ?_
    refine r_bipush (v := -21) X (by decide) dX8_signOf_132 ?_
    exact r_iret X dX8_signOf_134
  refine r_ite (fun hh16 => ?_) (fun hh16 => ?_)
  · refine r_tsIn (tgt := 132) X (56) hh16 dX8_signOf_1 (by decide) (by decide) rfl (by decide) ?_
    refine r_bipush (v := -21) X (by decide) dX8_signOf_132 ?_
    exact r_iret X dX8_signOf_134
  refine r_ite (fun hh17 => ?_) (fun hh17 => ?_)
  · refine r_tsIn (tgt := 132) X (57) hh17 dX8_signOf_1 (by decide) (by decide) rfl (by decide) ?_
    refine r_bipush (v := -21) X (by decide) dX8_signOf_132 ?_
    exact r_iret X dX8_signOf_134
  refine r_ite (fun hh18 => ?_) (fun hh18 => ?_)
  · refine r_tsIn (tgt := 132) X (58) hh18 dX8_signOf_1 (by decide) (by decide) rfl (by decide) ?_
    refine r_bipush (v := -21) X (by decide) dX8_signOf_132 ?_
    exact r_iret X dX8_signOf_134
  refine r_ite (fun hh19 => ?_) (fun hh19 => ?_)
  · refine r_tsIn (tgt := 108) X (59) hh19 dX8_signOf_1 (by decide) (by decide) rfl (by decide) ?_
    refine r_bipush (v := -16) X (by decide) dX8_signOf_108 ?_
    exact r_iret X dX8_signOf_110
  refine r_ite (fun hh20 => ?_) (fun hh20 => ?_)
  · refine r_tsIn (tgt := 117) X (60) hh20 dX8_signOf_1 (by decide) (by decide) rfl (by decide) ?_
    refine r_bipush (v := -9) X (by decide) dX8_signOf_117 ?_
    exact r_iret X dX8_signOf_119
  refine r_ite (fun hh21 => ?_) (fun hh21 => ?_)
  · refine r_tsIn (tgt := 123) X (61) hh21 dX8_signOf_1 (by decide) (by decide) rfl (by decide) ?_
    refine r_bipush (v := -11) X (by decide) dX8_signOf_123 ?_
    exact r_iret X dX8_signOf_125
  refine r_ite (fun hh22 => ?_) (fun hh22 => ?_)
  · refine r_tsIn (tgt := 120) X (62) hh22 dX8_signOf_1 (by decide) (by decide) rfl (by decide) ?_
    refine r_bipush (v := -10) X (by decide) dX8_signOf_120 ?_
    exact r_iret X dX8_signOf_122
  refine r_tsOut (tgt := 132) X (by have a0 := lv_neT hh0 (k := 40) (a := 40) rfl; have a1 := lv_neT hh1 (k := 41) (a := 41) rfl; have a2 := lv_neT hh2 (k := 42) (a := 42) rfl; have a3 := lv_neT hh3 (k := 43) (a := 43) rfl; have a4 := lv_neT hh4 (k := 44) (a := 44) rfl; have a5 := lv_neT hh5 (k := 45) (a := 45) rfl; have a6 := lv_neT hh6 (k := 46) (a := 46) rfl; have a7 := lv_neT hh7 (k := 47) (a := 47) rfl; have a8 := lv_neT hh8 (k := 48) (a := 48) rfl; have a9 := lv_neT hh9 (k := 49) (a := 49) rfl; have a10 := lv_neT hh10 (k := 50) (a := 50) rfl; have a11 := lv_neT hh11 (k := 51) (a := 51) rfl; have a12 := lv_neT hh12 (k := 52) (a := 52) rfl; have a13 := lv_neT hh13 (k := 53) (a := 53) rfl; have a14 := lv_neT hh14 (k := 54) (a := 54) rfl; have a15 := lv_neT hh15 (k := 55) (a := 55) rfl; have a16 := lv_neT hh16 (k := 56) (a := 56) rfl; have a17 := lv_neT hh17 (k := 57) (a := 57) rfl; have a18 := lv_neT hh18 (k := 58) (a := 58) rfl; have a19 := lv_neT hh19 (k := 59) (a := 59) rfl; have a20 := lv_neT hh20 (k := 60) (a := 60) rfl; have a21 := lv_neT hh21 (k := 61) (a := 61) rfl; have a22 := lv_neT hh22 (k := 62) (a := 62) rfl; omega) dX8_signOf_1 (by decide) ?_
  refine r_bipush (v := -21) X (by decide) dX8_signOf_132 ?_
  exact r_iret X dX8_signOf_134
theorem mX8_signOf (F : Nat) (S : ST) (x0 : Int32) : MetS yX8_signOf cX8_signOf 1 (some .int) 0 layC (fX8_signOf F S x0) S (fun ad => [.int x0]) := mk_met (fun ad => [(0, .int x0)]) (by decide) (fun _ => Nat.le_of_ble_eq_true rfl) (fun _ => rfl) (fun E X => gX8_signOf X F S x0)
def fX8_isWord_15 (F : Nat) (w3 : Nat) : Nat → ST → Int32 → Int32 → Option (Int32 × ST)
  | 0, _, _, _ => none
  | n + 1, S, x1, x4 =>
  if (slen w3) ≤ x4 then
    (some ((1 : Int32), S))
  else
    ((fX7_byteAt F S (x1 + x4)).bind (fun q29 => (if vin x4 (stLen.getD w3 0) = true then if q29.1 = (sch w3 x4) then
      (fX8_isWord_15 F w3 n q29.2 x1 (x4 + (1 : Int32)))
    else
      (some ((0 : Int32), q29.2)) else none)))
set_option maxRecDepth 4000 in
theorem gX8_isWord_15 {E : CT} (X : Cx E layC cX8_isWord RX8 5 (some .boolean) 5) (F : Nat) (w3 : Nat) (hw3 : w3 < 11) : ∀ (n : Nat) (S : ST) (x1 : Int32) (x4 : Int32), G E (fX8_isWord_15 F w3 n S x1 x4) S 15 [(0, .ref (eA E 2)), (1, .int x1), (3, .ref (eA E (100 + w3))), (4, .int x4)] []
  | 0, _, _, _ => r_none
  | n + 1, S, x1, x4 => by
    have ih := gX8_isWord_15 X F w3 hw3 n
    unfold fX8_isWord_15
    refine r_iload X 3 rfl dX8_isWord_15 ?_
    refine r_aload_n X 2 rfl dX8_isWord_17 ?_
    refine r_strLen X hw3 lk_X8_97 (by decide) (Nat.le_of_ble_eq_true rfl) dX8_isWord_18 ?_
    refine r_icmp_ge (tgt := 49) X dX8_isWord_21 (by decide) (fun _ => ?_) (fun _ => ?_)
    · refine r_iconst (v := 1) X (by decide) dX8_isWord_49 ?_
      exact r_zret X (by decide) dX8_isWord_50
    · refine r_aload_n X 0 rfl dX8_isWord_24 ?_
      refine r_iload_n X 1 rfl dX8_isWord_25 ?_
      refine r_iload X 3 rfl dX8_isWord_26 ?_
      refine r_iadd X dX8_isWord_28 ?_
      refine r_callV X (mX7_byteAt _ _ _) mk_X7_byteAt lk_X8_37 lc_2 rfl rfl (by decide) (by decide) (Nat.le_of_ble_eq_true rfl) rfl dX8_isWord_29 (fun q29 _ => ?_)
      refine r_aload_n X 2 rfl dX8_isWord_32 ?_
      refine r_iload X 3 rfl dX8_isWord_33 ?_
      refine r_strChar X hw3 lk_X8_102 (by decide) (Nat.le_of_ble_eq_true rfl) dX8_isWord_35 (fun _ => ?_)
      refine r_icmp_eq (tgt := 43) X dX8_isWord_38 (by decide) (fun _ => ?_) (fun _ => ?_)
      · refine r_iinc (lv' := [(0, _), (1, _), (3, _), (4, _)]) (dl := 1) X 3 rfl (by decide) (by decide) rfl dX8_isWord_43 ?_
        refine r_goto (tgt := 15) X dX8_isWord_46 (by decide) ?_
        exact ih _ _ _
      · refine r_iconst (v := 0) X (by decide) dX8_isWord_41 ?_
        exact r_zret X (by decide) dX8_isWord_42
def fX8_isWord (F : Nat) (S : ST) (x1 : Int32) (x2 : Int32) (w3 : Nat) : Option (Int32 × ST) :=
  if (x2 - x1) = (slen w3) then
    (fX8_isWord_15 F w3 F S x1 (0 : Int32))
  else
    (some ((0 : Int32), S))
set_option maxRecDepth 4000 in
theorem gX8_isWord {E : CT} (X : Cx E layC cX8_isWord RX8 5 (some .boolean) 5) (F : Nat) (S : ST) (x1 : Int32) (x2 : Int32) (w3 : Nat) (hw3 : w3 < 11) : G E (fX8_isWord F S x1 x2 w3) S 0 [(0, .ref (eA E 2)), (1, .int x1), (2, .int x2), (3, .ref (eA E (100 + w3)))] [] := by
  unfold fX8_isWord
  refine r_iload_n X 2 rfl dX8_isWord_0 ?_
  refine r_iload_n X 1 rfl dX8_isWord_1 ?_
  refine r_isub X dX8_isWord_2 ?_
  refine r_aload_n X 3 rfl dX8_isWord_3 ?_
  refine r_strLen X hw3 lk_X8_97 (by decide) (Nat.le_of_ble_eq_true rfl) dX8_isWord_4 ?_
  refine r_icmp_eq (tgt := 12) X dX8_isWord_7 (by decide) (fun _ => ?_) (fun _ => ?_)
  · refine r_iconst (v := 0) X (by decide) dX8_isWord_12 ?_
    refine r_istore (lv' := [(0, _), (1, _), (2, _), (3, _), (4, _)]) X (by decide) rfl dX8_isWord_13 ?_
    refine r_sub [0, 1, 3, 4] rfl ?_
    exact gX8_isWord_15 X F w3 hw3 F _ _ _
  · refine r_iconst (v := 0) X (by decide) dX8_isWord_10 ?_
    exact r_zret X (by decide) dX8_isWord_11
theorem mX8_isWord (F : Nat) (S : ST) (x1 : Int32) (x2 : Int32) (w3 : Nat) (hw3 : w3 < 11) : MetS yX8_isWord cX8_isWord 5 (some .boolean) 5 layC (fX8_isWord F S x1 x2 w3) S (fun ad => [.ref (ad 2), .int x1, .int x2, .ref (ad (100 + w3))]) := mk_met (fun ad => [(0, .ref (ad 2)), (1, .int x1), (2, .int x2), (3, .ref (ad (100 + w3)))]) (by decide) (fun _ => Nat.le_of_ble_eq_true rfl) (fun _ => rfl) (fun E X => gX8_isWord X F S x1 x2 w3 hw3)
def fX8_termAt (F : Nat) (S : ST) (x1 : Int32) (x2 : Int32) : Option (Int32 × ST) :=
  (fX8_isWord F S x1 x2 6).bind (fun q5 => if q5.1 = 0 then
    ((fX8_isWord F q5.2 x1 x2 7).bind (fun q18 => if q18.1 = 0 then
      ((fX8_isWord F q18.2 x1 x2 8).bind (fun q32 => if q32.1 = 0 then
        ((fX8_isWord F q32.2 x1 x2 9).bind (fun q46 => if q46.1 = 0 then
          ((fX8_isWord F q46.2 x1 x2 10).bind (fun q60 => if q60.1 = 0 then
            (some ((-20 : Int32), q60.2))
          else
            (some ((-5 : Int32), q60.2))))
        else
          (some ((-4 : Int32), q46.2))))
      else
        (some ((-3 : Int32), q32.2))))
    else
      (some ((-2 : Int32), q18.2))))
  else
    (some ((-1 : Int32), q5.2)))
set_option maxRecDepth 4000 in
theorem gX8_termAt {E : CT} (X : Cx E layC cX8_termAt RX8 3 (some .int) 6) (F : Nat) (S : ST) (x1 : Int32) (x2 : Int32) : G E (fX8_termAt F S x1 x2) S 0 [(0, .ref (eA E 2)), (1, .int x1), (2, .int x2)] [] := by
  unfold fX8_termAt
  refine r_aload_n X 0 rfl dX8_termAt_0 ?_
  refine r_iload_n X 1 rfl dX8_termAt_1 ?_
  refine r_iload_n X 2 rfl dX8_termAt_2 ?_
  refine r_ldcS X (i := 6) rfl dX8_termAt_3 ?_
  refine r_callS X (mX8_isWord _ _ _ _ _ (by decide)) mk_X8_isWord lk_X8_70 rfl (by decide) (by decide) (Nat.le_of_ble_eq_true rfl) rfl dX8_termAt_5 (fun q5 _ => ?_)
  refine r_if_eq (tgt := 13) X dX8_termAt_8 (by decide) (fun _ => ?_) (fun _ => ?_)
  · refine r_aload_n X 0 rfl dX8_termAt_13 ?_
    refine r_iload_n X 1 rfl dX8_termAt_14 ?_
    refine r_iload_n X 2 rfl dX8_termAt_15 ?_
    refine r_ldcS X (i := 7) rfl dX8_termAt_16 ?_
    refine r_callS X (mX8_isWord _ _ _ _ _ (by decide)) mk_X8_isWord lk_X8_70 rfl (by decide) (by decide) (Nat.le_of_ble_eq_true rfl) rfl dX8_termAt_18 (fun q18 _ => ?_)
    refine r_if_eq (tgt := 27) X dX8_termAt_21 (by decide) (fun _ => ?_) (fun _ => ?_)
    · refine r_aload_n X 0 rfl dX8_termAt_27 ?_
      refine r_iload_n X 1 rfl dX8_termAt_28 ?_
      refine r_iload_n X 2 rfl dX8_termAt_29 ?_
      refine r_ldcS X (i := 8) rfl dX8_termAt_30 ?_
      refine r_callS X (mX8_isWord _ _ _ _ _ (by decide)) mk_X8_isWord lk_X8_70 rfl (by decide) (by decide) (Nat.le_of_ble_eq_true rfl) rfl dX8_termAt_32 (fun q32 _ => ?_)
      refine r_if_eq (tgt := 41) X dX8_termAt_35 (by decide) (fun _ => ?_) (fun _ => ?_)
      · refine r_aload_n X 0 rfl dX8_termAt_41 ?_
        refine r_iload_n X 1 rfl dX8_termAt_42 ?_
        refine r_iload_n X 2 rfl dX8_termAt_43 ?_
        refine r_ldcS X (i := 9) rfl dX8_termAt_44 ?_
        refine r_callS X (mX8_isWord _ _ _ _ _ (by decide)) mk_X8_isWord lk_X8_70 rfl (by decide) (by decide) (Nat.le_of_ble_eq_true rfl) rfl dX8_termAt_46 (fun q46 _ => ?_)
        refine r_if_eq (tgt := 55) X dX8_termAt_49 (by decide) (fun _ => ?_) (fun _ => ?_)
        · refine r_aload_n X 0 rfl dX8_termAt_55 ?_
          refine r_iload_n X 1 rfl dX8_termAt_56 ?_
          refine r_iload_n X 2 rfl dX8_termAt_57 ?_
          refine r_ldcS X (i := 10) rfl dX8_termAt_58 ?_
          refine r_callS X (mX8_isWord _ _ _ _ _ (by decide)) mk_X8_isWord lk_X8_70 rfl (by decide) (by decide) (Nat.le_of_ble_eq_true rfl) rfl dX8_termAt_60 (fun q60 _ => ?_)
          refine r_if_eq (tgt := 71) X dX8_termAt_63 (by decide) (fun _ => ?_) (fun _ => ?_)
          · refine r_bipush (v := -20) X (by decide) dX8_termAt_71 ?_
            exact r_iret X dX8_termAt_73
          · refine r_bipush (v := -5) X (by decide) dX8_termAt_66 ?_
            refine r_goto (tgt := 73) X dX8_termAt_68 (by decide) ?_
            exact r_iret X dX8_termAt_73
        · refine r_bipush (v := -4) X (by decide) dX8_termAt_52 ?_
          exact r_iret X dX8_termAt_54
      · refine r_bipush (v := -3) X (by decide) dX8_termAt_38 ?_
        exact r_iret X dX8_termAt_40
    · refine r_bipush (v := -2) X (by decide) dX8_termAt_24 ?_
      exact r_iret X dX8_termAt_26
  · refine r_iconst (v := -1) X (by decide) dX8_termAt_11 ?_
    exact r_iret X dX8_termAt_12
theorem mX8_termAt (F : Nat) (S : ST) (x1 : Int32) (x2 : Int32) : MetS yX8_termAt cX8_termAt 3 (some .int) 6 layC (fX8_termAt F S x1 x2) S (fun ad => [.ref (ad 2), .int x1, .int x2]) := mk_met (fun ad => [(0, .ref (ad 2)), (1, .int x1), (2, .int x2)]) (by decide) (fun _ => Nat.le_of_ble_eq_true rfl) (fun _ => rfl) (fun E X => gX8_termAt X F S x1 x2)
def fX8_wordAt (F : Nat) (S : ST) (x1 : Int32) (x2 : Int32) : Option (Int32 × ST) :=
  (fX8_isWord F S x1 x2 0).bind (fun q5 => if q5.1 = 0 then
    ((fX8_isWord F q5.2 x1 x2 1).bind (fun q19 => if q19.1 = 0 then
      ((fX8_isWord F q19.2 x1 x2 2).bind (fun q33 => if q33.1 = 0 then
        ((fX8_isWord F q33.2 x1 x2 3).bind (fun q47 => if q47.1 = 0 then
          ((fX8_isWord F q47.2 x1 x2 4).bind (fun q61 => if q61.1 = 0 then
            ((fX8_isWord F q61.2 x1 x2 5).bind (fun q75 => if q75.1 = 0 then
              ((fX8_termAt F q75.2 x1 x2).bind (fun q89 => some (q89.1, q89.2)))
            else
              (some ((-8 : Int32), q75.2))))
          else
            (some ((-7 : Int32), q61.2))))
        else
          (some ((-6 : Int32), q47.2))))
      else
        (some ((-19 : Int32), q33.2))))
    else
      (some ((-18 : Int32), q19.2))))
  else
    (some ((-17 : Int32), q5.2)))
set_option maxRecDepth 4000 in
theorem gX8_wordAt {E : CT} (X : Cx E layC cX8_wordAt RX8 3 (some .int) 7) (F : Nat) (S : ST) (x1 : Int32) (x2 : Int32) : G E (fX8_wordAt F S x1 x2) S 0 [(0, .ref (eA E 2)), (1, .int x1), (2, .int x2)] [] := by
  unfold fX8_wordAt
  refine r_aload_n X 0 rfl dX8_wordAt_0 ?_
  refine r_iload_n X 1 rfl dX8_wordAt_1 ?_
  refine r_iload_n X 2 rfl dX8_wordAt_2 ?_
  refine r_ldcS X (i := 0) rfl dX8_wordAt_3 ?_
  refine r_callS X (mX8_isWord _ _ _ _ _ (by decide)) mk_X8_isWord lk_X8_70 rfl (by decide) (by decide) (Nat.le_of_ble_eq_true rfl) rfl dX8_wordAt_5 (fun q5 _ => ?_)
  refine r_if_eq (tgt := 14) X dX8_wordAt_8 (by decide) (fun _ => ?_) (fun _ => ?_)
  · refine r_aload_n X 0 rfl dX8_wordAt_14 ?_
    refine r_iload_n X 1 rfl dX8_wordAt_15 ?_
    refine r_iload_n X 2 rfl dX8_wordAt_16 ?_
    refine r_ldcS X (i := 1) rfl dX8_wordAt_17 ?_
    refine r_callS X (mX8_isWord _ _ _ _ _ (by decide)) mk_X8_isWord lk_X8_70 rfl (by decide) (by decide) (Nat.le_of_ble_eq_true rfl) rfl dX8_wordAt_19 (fun q19 _ => ?_)
    refine r_if_eq (tgt := 28) X dX8_wordAt_22 (by decide) (fun _ => ?_) (fun _ => ?_)
    · refine r_aload_n X 0 rfl dX8_wordAt_28 ?_
      refine r_iload_n X 1 rfl dX8_wordAt_29 ?_
      refine r_iload_n X 2 rfl dX8_wordAt_30 ?_
      refine r_ldcS X (i := 2) rfl dX8_wordAt_31 ?_
      refine r_callS X (mX8_isWord _ _ _ _ _ (by decide)) mk_X8_isWord lk_X8_70 rfl (by decide) (by decide) (Nat.le_of_ble_eq_true rfl) rfl dX8_wordAt_33 (fun q33 _ => ?_)
      refine r_if_eq (tgt := 42) X dX8_wordAt_36 (by decide) (fun _ => ?_) (fun _ => ?_)
      · refine r_aload_n X 0 rfl dX8_wordAt_42 ?_
        refine r_iload_n X 1 rfl dX8_wordAt_43 ?_
        refine r_iload_n X 2 rfl dX8_wordAt_44 ?_
        refine r_ldcS X (i := 3) rfl dX8_wordAt_45 ?_
        refine r_callS X (mX8_isWord _ _ _ _ _ (by decide)) mk_X8_isWord lk_X8_70 rfl (by decide) (by decide) (Nat.le_of_ble_eq_true rfl) rfl dX8_wordAt_47 (fun q47 _ => ?_)
        refine r_if_eq (tgt := 56) X dX8_wordAt_50 (by decide) (fun _ => ?_) (fun _ => ?_)
        · refine r_aload_n X 0 rfl dX8_wordAt_56 ?_
          refine r_iload_n X 1 rfl dX8_wordAt_57 ?_
          refine r_iload_n X 2 rfl dX8_wordAt_58 ?_
          refine r_ldcS X (i := 4) rfl dX8_wordAt_59 ?_
          refine r_callS X (mX8_isWord _ _ _ _ _ (by decide)) mk_X8_isWord lk_X8_70 rfl (by decide) (by decide) (Nat.le_of_ble_eq_true rfl) rfl dX8_wordAt_61 (fun q61 _ => ?_)
          refine r_if_eq (tgt := 70) X dX8_wordAt_64 (by decide) (fun _ => ?_) (fun _ => ?_)
          · refine r_aload_n X 0 rfl dX8_wordAt_70 ?_
            refine r_iload_n X 1 rfl dX8_wordAt_71 ?_
            refine r_iload_n X 2 rfl dX8_wordAt_72 ?_
            refine r_ldcS X (i := 5) rfl dX8_wordAt_73 ?_
            refine r_callS X (mX8_isWord _ _ _ _ _ (by decide)) mk_X8_isWord lk_X8_70 rfl (by decide) (by decide) (Nat.le_of_ble_eq_true rfl) rfl dX8_wordAt_75 (fun q75 _ => ?_)
            refine r_if_eq (tgt := 86) X dX8_wordAt_78 (by decide) (fun _ => ?_) (fun _ => ?_)
            · refine r_aload_n X 0 rfl dX8_wordAt_86 ?_
              refine r_iload_n X 1 rfl dX8_wordAt_87 ?_
              refine r_iload_n X 2 rfl dX8_wordAt_88 ?_
              refine r_callS X (mX8_termAt _ _ _ _) mk_X8_termAt lk_X8_84 rfl (by decide) (by decide) (Nat.le_of_ble_eq_true rfl) rfl dX8_wordAt_89 (fun q89 _ => ?_)
              exact r_iret X dX8_wordAt_92
            · refine r_bipush (v := -8) X (by decide) dX8_wordAt_81 ?_
              refine r_goto (tgt := 92) X dX8_wordAt_83 (by decide) ?_
              exact r_iret X dX8_wordAt_92
          · refine r_bipush (v := -7) X (by decide) dX8_wordAt_67 ?_
            exact r_iret X dX8_wordAt_69
        · refine r_bipush (v := -6) X (by decide) dX8_wordAt_53 ?_
          exact r_iret X dX8_wordAt_55
      · refine r_bipush (v := -19) X (by decide) dX8_wordAt_39 ?_
        exact r_iret X dX8_wordAt_41
    · refine r_bipush (v := -18) X (by decide) dX8_wordAt_25 ?_
      exact r_iret X dX8_wordAt_27
  · refine r_bipush (v := -17) X (by decide) dX8_wordAt_11 ?_
    exact r_iret X dX8_wordAt_13
theorem mX8_wordAt (F : Nat) (S : ST) (x1 : Int32) (x2 : Int32) : MetS yX8_wordAt cX8_wordAt 3 (some .int) 7 layC (fX8_wordAt F S x1 x2) S (fun ad => [.ref (ad 2), .int x1, .int x2]) := mk_met (fun ad => [(0, .ref (ad 2)), (1, .int x1), (2, .int x2)]) (by decide) (fun _ => Nat.le_of_ble_eq_true rfl) (fun _ => rfl) (fun E X => gX8_wordAt X F S x1 x2)
def fX8_kindAt (F : Nat) (S : ST) (x1 : Int32) (x2 : Int32) : Option (Int32 × ST) :=
  (fX7_byteAt F S x1).bind (fun q2 => (fX8_isDigit F q2.2 q2.1).bind (fun q7 => if q7.1 = 0 then
    ((fX8_isLetter F q7.2 q2.1).bind (fun q21 => if q21.1 = 0 then
      ((fX8_signOf F q21.2 q2.1).bind (fun q48 => some (q48.1, q48.2)))
    else
      (if (x2 - x1) ≤ (8 : Int32) then
        ((fX8_wordAt F q21.2 x1 x2).bind (fun q43 => some (q43.1, q43.2)))
      else
        (some ((-21 : Int32), q21.2)))))
  else
    ((fX8_numberAt F q7.2 x1 x2).bind (fun q16 => some (q16.1, q16.2)))))
set_option maxRecDepth 4000 in
theorem gX8_kindAt {E : CT} (X : Cx E layC cX8_kindAt RX8 4 (some .int) 8) (F : Nat) (S : ST) (x1 : Int32) (x2 : Int32) : G E (fX8_kindAt F S x1 x2) S 0 [(0, .ref (eA E 2)), (1, .int x1), (2, .int x2)] [] := by
  unfold fX8_kindAt
  refine r_aload_n X 0 rfl dX8_kindAt_0 ?_
  refine r_iload_n X 1 rfl dX8_kindAt_1 ?_
  refine r_callV X (mX7_byteAt _ _ _) mk_X7_byteAt lk_X8_37 lc_2 rfl rfl (by decide) (by decide) (Nat.le_of_ble_eq_true rfl) rfl dX8_kindAt_2 (fun q2 _ => ?_)
  refine r_istore_n (lv' := [(0, _), (1, _), (2, _), (3, _)]) X (by decide) rfl dX8_kindAt_5 ?_
  refine r_iload_n X 3 rfl dX8_kindAt_6 ?_
  refine r_callS X (mX8_isDigit _ _ _) mk_X8_isDigit lk_X8_53 rfl (by decide) (by decide) (Nat.le_of_ble_eq_true rfl) rfl dX8_kindAt_7 (fun q7 _ => ?_)
  refine r_if_eq (tgt := 20) X dX8_kindAt_10 (by decide) (fun _ => ?_) (fun _ => ?_)
  · refine r_iload_n X 3 rfl dX8_kindAt_20 ?_
    refine r_callS X (mX8_isLetter _ _ _) mk_X8_isLetter lk_X8_56 rfl (by decide) (by decide) (Nat.le_of_ble_eq_true rfl) rfl dX8_kindAt_21 (fun q21 _ => ?_)
    refine r_if_eq (tgt := 47) X dX8_kindAt_24 (by decide) (fun _ => ?_) (fun _ => ?_)
    · refine r_iload_n X 3 rfl dX8_kindAt_47 ?_
      refine r_callS X (mX8_signOf _ _ _) mk_X8_signOf lk_X8_65 rfl (by decide) (by decide) (Nat.le_of_ble_eq_true rfl) rfl dX8_kindAt_48 (fun q48 _ => ?_)
      exact r_iret X dX8_kindAt_51
    · refine r_iload_n X 2 rfl dX8_kindAt_27 ?_
      refine r_iload_n X 1 rfl dX8_kindAt_28 ?_
      refine r_isub X dX8_kindAt_29 ?_
      refine r_bipush (v := 8) X (by decide) dX8_kindAt_30 ?_
      refine r_icmp_le (tgt := 40) X dX8_kindAt_32 (by decide) (fun _ => ?_) (fun _ => ?_)
      · refine r_aload_n X 0 rfl dX8_kindAt_40 ?_
        refine r_iload_n X 1 rfl dX8_kindAt_41 ?_
        refine r_iload_n X 2 rfl dX8_kindAt_42 ?_
        refine r_callS X (mX8_wordAt _ _ _ _) mk_X8_wordAt lk_X8_62 rfl (by decide) (by decide) (Nat.le_of_ble_eq_true rfl) rfl dX8_kindAt_43 (fun q43 _ => ?_)
        exact r_iret X dX8_kindAt_46
      · refine r_bipush (v := -21) X (by decide) dX8_kindAt_35 ?_
        refine r_goto (tgt := 46) X dX8_kindAt_37 (by decide) ?_
        exact r_iret X dX8_kindAt_46
  · refine r_aload_n X 0 rfl dX8_kindAt_13 ?_
    refine r_iload_n X 1 rfl dX8_kindAt_14 ?_
    refine r_iload_n X 2 rfl dX8_kindAt_15 ?_
    refine r_callS X (mX8_numberAt _ _ _ _) mk_X8_numberAt lk_X8_59 rfl (by decide) (by decide) (Nat.le_of_ble_eq_true rfl) rfl dX8_kindAt_16 (fun q16 _ => ?_)
    exact r_iret X dX8_kindAt_19
theorem mX8_kindAt (F : Nat) (S : ST) (x1 : Int32) (x2 : Int32) : MetS yX8_kindAt cX8_kindAt 4 (some .int) 8 layC (fX8_kindAt F S x1 x2) S (fun ad => [.ref (ad 2), .int x1, .int x2]) := mk_met (fun ad => [(0, .ref (ad 2)), (1, .int x1), (2, .int x2)]) (by decide) (fun _ => Nat.le_of_ble_eq_true rfl) (fun _ => rfl) (fun E X => gX8_kindAt X F S x1 x2)
def fX8_split_7 (F : Nat) : Nat → ST → Int32 → Option (Int32 × ST)
  | 0, _, _ => none
  | n + 1, S, x2 =>
  if (S.1 2 1) ≤ x2 then
    ((fX8_add F S (-22 : Int32) (S.1 2 1)).bind (fun q61 => some ((0 : Int32), q61.2)))
  else
    ((fX8_endAt F S x2).bind (fun q17 => bindI ((jmax q17.1 (x2 + (1 : Int32)))) (fun v26 => (fX7_byteAt F q17.2 x2).bind (fun q29 => (fX8_isBlank F q29.2 q29.1).bind (fun q32 => if q32.1 = 0 then
      ((fX8_kindAt F q32.2 x2 v26).bind (fun q42 => (fX8_add F q42.2 q42.1 x2).bind (fun q46 => fX8_split_7 F n q46.2 v26)))
    else
      (fX8_split_7 F n q32.2 v26))))))
set_option maxRecDepth 4000 in
theorem gX8_split_7 {E : CT} (X : Cx E layC cX8_split RX8 4 none 9) (F : Nat) : ∀ (n : Nat) (S : ST) (x2 : Int32), G E (fX8_split_7 F n S x2) S 7 [(0, .ref (eA E 4)), (1, .ref (eA E 2)), (2, .int x2)] []
  | 0, _, _ => r_none
  | n + 1, S, x2 => by
    have ih := gX8_split_7 X F n
    unfold fX8_split_7
    refine r_iload_n X 2 rfl dX8_split_7 ?_
    refine r_aload_n X 1 rfl dX8_split_8 ?_
    refine r_getI X fk_X8_24 lc_2 rfl dX8_split_9 ?_
    refine r_icmp_ge (tgt := 54) X dX8_split_12 (by decide) (fun _ => ?_) (fun _ => ?_)
    · refine r_aload_n X 0 rfl dX8_split_54 ?_
      refine r_bipush (v := -22) X (by decide) dX8_split_55 ?_
      refine r_aload_n X 1 rfl dX8_split_57 ?_
      refine r_getI X fk_X8_24 lc_2 rfl dX8_split_58 ?_
      refine r_callVv X (mX8_add _ _ _ _) mk_X8_add lk_X8_49 lc_4 rfl rfl (by decide) (by decide) (Nat.le_of_ble_eq_true rfl) rfl dX8_split_61 (fun q61 _ => ?_)
      exact r_vret X dX8_split_64
    · refine r_aload_n X 1 rfl dX8_split_15 ?_
      refine r_iload_n X 2 rfl dX8_split_16 ?_
      refine r_callS X (mX8_endAt _ _ _) mk_X8_endAt lk_X8_27 rfl (by decide) (by decide) (Nat.le_of_ble_eq_true rfl) rfl dX8_split_17 (fun q17 _ => ?_)
      refine r_iload_n X 2 rfl dX8_split_20 ?_
      refine r_iconst (v := 1) X (by decide) dX8_split_21 ?_
      refine r_iadd X dX8_split_22 ?_
      refine r_mmax X lk_X8_31 km_max_s km_i km_max_c (by decide) (Nat.le_of_ble_eq_true rfl) dX8_split_23 ?_
      refine r_bindI (fun v26 => ?_)
      refine r_istore_n (lv' := [(0, _), (1, _), (2, _), (3, _)]) X (by decide) rfl dX8_split_26 ?_
      refine r_aload_n X 1 rfl dX8_split_27 ?_
      refine r_iload_n X 2 rfl dX8_split_28 ?_
      refine r_callV X (mX7_byteAt _ _ _) mk_X7_byteAt lk_X8_37 lc_2 rfl rfl (by decide) (by decide) (Nat.le_of_ble_eq_true rfl) rfl dX8_split_29 (fun q29 _ => ?_)
      refine r_callS X (mX8_isBlank _ _ _) mk_X8_isBlank lk_X8_41 rfl (by decide) (by decide) (Nat.le_of_ble_eq_true rfl) rfl dX8_split_32 (fun q32 _ => ?_)
      refine r_if_ne (tgt := 49) X dX8_split_35 (by decide) (fun _ => ?_) (fun _ => ?_)
      · refine r_iload_n X 3 rfl dX8_split_49 ?_
        refine r_istore_n (lv' := [(0, _), (1, _), (2, _), (3, _)]) X (by decide) rfl dX8_split_50 ?_
        refine r_goto (tgt := 7) X dX8_split_51 (by decide) ?_
        refine r_sub [0, 1, 2] rfl ?_
        exact ih _ _
      · refine r_aload_n X 0 rfl dX8_split_38 ?_
        refine r_aload_n X 1 rfl dX8_split_39 ?_
        refine r_iload_n X 2 rfl dX8_split_40 ?_
        refine r_iload_n X 3 rfl dX8_split_41 ?_
        refine r_callS X (mX8_kindAt _ _ _ _) mk_X8_kindAt lk_X8_45 rfl (by decide) (by decide) (Nat.le_of_ble_eq_true rfl) rfl dX8_split_42 (fun q42 _ => ?_)
        refine r_iload_n X 2 rfl dX8_split_45 ?_
        refine r_callVv X (mX8_add _ _ _ _) mk_X8_add lk_X8_49 lc_4 rfl rfl (by decide) (by decide) (Nat.le_of_ble_eq_true rfl) rfl dX8_split_46 (fun q46 _ => ?_)
        refine r_iload_n X 3 rfl dX8_split_49 ?_
        refine r_istore_n (lv' := [(0, _), (1, _), (2, _), (3, _)]) X (by decide) rfl dX8_split_50 ?_
        refine r_goto (tgt := 7) X dX8_split_51 (by decide) ?_
        refine r_sub [0, 1, 2] rfl ?_
        exact ih _ _
def fX8_split (F : Nat) (S : ST) : Option (Int32 × ST) :=
  bindS (us S 4 2 (0 : Int32)) (fun S2 => fX8_split_7 F F S2 (0 : Int32))
set_option maxRecDepth 4000 in
theorem gX8_split {E : CT} (X : Cx E layC cX8_split RX8 4 none 9) (F : Nat) (S : ST) : G E (fX8_split F S) S 0 [(0, .ref (eA E 4)), (1, .ref (eA E 2))] [] := by
  unfold fX8_split
  refine r_aload_n X 0 rfl dX8_split_0 ?_
  refine r_iconst (v := 0) X (by decide) dX8_split_1 ?_
  refine r_putI X pk_X8_20 lc_4 rfl dX8_split_2 ?_
  refine r_bindS (fun S2 => ?_)
  refine r_iconst (v := 0) X (by decide) dX8_split_5 ?_
  refine r_istore_n (lv' := [(0, _), (1, _), (2, _)]) X (by decide) rfl dX8_split_6 ?_
  exact gX8_split_7 X F F _ _
theorem mX8_split (F : Nat) (S : ST) : MetS yX8_split cX8_split 4 none 9 layC (fX8_split F S) S (fun ad => [.ref (ad 4), .ref (ad 2)]) := mk_met (fun ad => [(0, .ref (ad 4)), (1, .ref (ad 2))]) (by decide) (fun _ => Nat.le_of_ble_eq_true rfl) (fun _ => rfl) (fun E X => gX8_split X F S)
