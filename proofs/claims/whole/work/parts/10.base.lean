def fJ6_bitCount_0f7a4 (F : Nat) (S : ST) (x0 : Int32) : Option (Int32 × ST) :=
  bindI ((x0 - (((x0.toUInt32 >>> ((1 : Int32).toUInt32 &&& Int32.toUInt32 31)).toInt32) &&& (1431655765 : Int32)))) (fun v9 => bindI (((v9 &&& (858993459 : Int32)) + (((v9.toUInt32 >>> ((2 : Int32).toUInt32 &&& Int32.toUInt32 31)).toInt32) &&& (858993459 : Int32)))) (fun v23 => bindI (((v23 + ((v23.toUInt32 >>> ((4 : Int32).toUInt32 &&& Int32.toUInt32 31)).toInt32)) &&& (252645135 : Int32))) (fun v33 => bindI ((v33 + ((v33.toUInt32 >>> ((8 : Int32).toUInt32 &&& Int32.toUInt32 31)).toInt32))) (fun v40 => bindI ((v40 + ((v40.toUInt32 >>> ((16 : Int32).toUInt32 &&& Int32.toUInt32 31)).toInt32))) (fun v47 => some ((v47 &&& (63 : Int32)), S))))))
set_option maxRecDepth 4000 in
theorem gJ6_bitCount_0f7a4 {E : CT} (X : Cx E layC cJ6_bitCount_0f7a4 RJ6 1 (some .int) 0) (F : Nat) (S : ST) (x0 : Int32) : G E (fJ6_bitCount_0f7a4 F S x0) S 0 [(0, .int x0)] [] := by
  unfold fJ6_bitCount_0f7a4
  refine r_iload_n X 0 rfl dJ6_bitCount_0f7a4_0 ?_
  refine r_iload_n X 0 rfl dJ6_bitCount_0f7a4_1 ?_
  refine r_iconst (v := 1) X (by decide) dJ6_bitCount_0f7a4_2 ?_
  refine r_iushr X dJ6_bitCount_0f7a4_3 ?_
  refine r_ldcw X kc_J6_265 dJ6_bitCount_0f7a4_4 ?_
  refine r_iand X dJ6_bitCount_0f7a4_7 ?_
  refine r_isub X dJ6_bitCount_0f7a4_8 ?_
  refine r_bindI (fun v9 => ?_)
  refine r_istore_n (lv' := [(0, _)]) X (by decide) rfl dJ6_bitCount_0f7a4_9 ?_
  refine r_iload_n X 0 rfl dJ6_bitCount_0f7a4_10 ?_
  refine r_ldcw X kc_J6_266 dJ6_bitCount_0f7a4_11 ?_
  refine r_iand X dJ6_bitCount_0f7a4_14 ?_
  refine r_iload_n X 0 rfl dJ6_bitCount_0f7a4_15 ?_
  refine r_iconst (v := 2) X (by decide) dJ6_bitCount_0f7a4_16 ?_
  refine r_iushr X dJ6_bitCount_0f7a4_17 ?_
  refine r_ldcw X kc_J6_266 dJ6_bitCount_0f7a4_18 ?_
  refine r_iand X dJ6_bitCount_0f7a4_21 ?_
  refine r_iadd X dJ6_bitCount_0f7a4_22 ?_
  refine r_bindI (fun v23 => ?_)
  refine r_istore_n (lv' := [(0, _)]) X (by decide) rfl dJ6_bitCount_0f7a4_23 ?_
  refine r_iload_n X 0 rfl dJ6_bitCount_0f7a4_24 ?_
  refine r_iload_n X 0 rfl dJ6_bitCount_0f7a4_25 ?_
  refine r_iconst (v := 4) X (by decide) dJ6_bitCount_0f7a4_26 ?_
  refine r_iushr X dJ6_bitCount_0f7a4_27 ?_
  refine r_iadd X dJ6_bitCount_0f7a4_28 ?_
  refine r_ldcw X kc_J6_267 dJ6_bitCount_0f7a4_29 ?_
  refine r_iand X dJ6_bitCount_0f7a4_32 ?_
  refine r_bindI (fun v33 => ?_)
  refine r_istore_n (lv' := [(0, _)]) X (by decide) rfl dJ6_bitCount_0f7a4_33 ?_
  refine r_iload_n X 0 rfl dJ6_bitCount_0f7a4_34 ?_
  refine r_iload_n X 0 rfl dJ6_bitCount_0f7a4_35 ?_
  refine r_bipush (v := 8) X (by decide) dJ6_bitCount_0f7a4_36 ?_
  refine r_iushr X dJ6_bitCount_0f7a4_38 ?_
  refine r_iadd X dJ6_bitCount_0f7a4_39 ?_
  refine r_bindI (fun v40 => ?_)
  refine r_istore_n (lv' := [(0, _)]) X (by decide) rfl dJ6_bitCount_0f7a4_40 ?_
  refine r_iload_n X 0 rfl dJ6_bitCount_0f7a4_41 ?_
  refine r_iload_n X 0 rfl dJ6_bitCount_0f7a4_42 ?_
  refine r_bipush (v := 16) X (by decide) dJ6_bitCount_0f7a4_43 ?_
  refine r_iushr X dJ6_bitCount_0f7a4_45 ?_
  refine r_iadd X dJ6_bitCount_0f7a4_46 ?_
  refine r_bindI (fun v47 => ?_)
  refine r_istore_n (lv' := [(0, _)]) X (by decide) rfl dJ6_bitCount_0f7a4_47 ?_
  refine r_iload_n X 0 rfl dJ6_bitCount_0f7a4_48 ?_
  refine r_bipush (v := 63) X (by decide) dJ6_bitCount_0f7a4_49 ?_
  refine r_iand X dJ6_bitCount_0f7a4_51 ?_
  exact r_iret X dJ6_bitCount_0f7a4_52
theorem mJ6_bitCount_0f7a4 (F : Nat) (S : ST) (x0 : Int32) : MetS yJ6_bitCount_0f7a4 cJ6_bitCount_0f7a4 1 (some .int) 0 layC (fJ6_bitCount_0f7a4 F S x0) S (fun ad => [.int x0]) := mk_met (fun ad => [(0, .int x0)]) (by decide) (fun _ => Nat.le_of_ble_eq_true rfl) (fun _ => rfl) (fun E X => gJ6_bitCount_0f7a4 X F S x0)
def fX10_within_14 (F : Nat) (S : ST) : Option (Int32 × ST) :=
  some ((0 : Int32), S)
set_option maxRecDepth 4000 in
theorem gX10_within_14 {E : CT} (X : Cx E layC cX10_within RX10 3 (some .boolean) 0) (F : Nat) (S : ST) : G E (fX10_within_14 F S) S 14 [] [] := by
  unfold fX10_within_14
  refine r_iconst (v := 0) X (by decide) dX10_within_14 ?_
  exact r_zret X (by decide) dX10_within_15
def fX10_within (F : Nat) (S : ST) (x0 : Int32) (x1 : Int32) (x2 : Int32) : Option (Int32 × ST) :=
  if x0 < x1 then
    (fX10_within_14 F S)
  else
    (if x2 < x0 then
      (fX10_within_14 F S)
    else
      (some ((1 : Int32), S)))
set_option maxRecDepth 4000 in
theorem gX10_within {E : CT} (X : Cx E layC cX10_within RX10 3 (some .boolean) 0) (F : Nat) (S : ST) (x0 : Int32) (x1 : Int32) (x2 : Int32) : G E (fX10_within F S x0 x1 x2) S 0 [(0, .int x0), (1, .int x1), (2, .int x2)] [] := by
  unfold fX10_within
  refine r_iload_n X 1 rfl dX10_within_0 ?_
  refine r_iload_n X 0 rfl dX10_within_1 ?_
  refine r_icmp_gt (tgt := 14) X dX10_within_2 (by decide) (fun _ => ?_) (fun _ => ?_)
  · refine r_sub [] rfl ?_
    exact gX10_within_14 X F _
  · refine r_iload_n X 0 rfl dX10_within_5 ?_
    refine r_iload_n X 2 rfl dX10_within_6 ?_
    refine r_icmp_gt (tgt := 14) X dX10_within_7 (by decide) (fun _ => ?_) (fun _ => ?_)
    · refine r_sub [] rfl ?_
      exact gX10_within_14 X F _
    · refine r_iconst (v := 1) X (by decide) dX10_within_10 ?_
      refine r_goto (tgt := 15) X dX10_within_11 (by decide) ?_
      exact r_zret X (by decide) dX10_within_15
theorem mX10_within (F : Nat) (S : ST) (x0 : Int32) (x1 : Int32) (x2 : Int32) : MetS yX10_within cX10_within 3 (some .boolean) 0 layC (fX10_within F S x0 x1 x2) S (fun ad => [.int x0, .int x1, .int x2]) := mk_met (fun ad => [(0, .int x0), (1, .int x1), (2, .int x2)]) (by decide) (fun _ => Nat.le_of_ble_eq_true rfl) (fun _ => rfl) (fun E X => gX10_within X F S x0 x1 x2)
