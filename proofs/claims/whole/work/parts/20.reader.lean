def fX1_placeReached_41 (F : Nat) (S : ST) (s0 : Int32) : Option (Int32 × ST) :=
  if s0 = 0 then
    (some ((-1 : Int32), S))
  else
    ((if vin (S.1 3 3) 601 = true then some ((S.1 15 (ix (S.1 3 3))), S) else none))
set_option maxRecDepth 4000 in
theorem gX1_placeReached_41 {E : CT} (X : Cx E layC cX1_placeReached RX1 2 (some .int) 0) (F : Nat) (S : ST) (s0 : Int32) : G E (fX1_placeReached_41 F S s0) S 41 [(0, .ref (eA E 3))] [.int s0] := by
  unfold fX1_placeReached_41
  refine r_istore_n (lv' := [(0, _), (1, _)]) X (by decide) rfl dX1_placeReached_41 ?_
  refine r_iload_n X 1 rfl dX1_placeReached_42 ?_
  refine r_if_eq (tgt := 61) X dX1_placeReached_43 (by decide) (fun _ => ?_) (fun _ => ?_)
  · refine r_iconst (v := -1) X (by decide) dX1_placeReached_61 ?_
    exact r_iret X dX1_placeReached_62
  · refine r_aload_n X 0 rfl dX1_placeReached_46 ?_
    refine r_getR X fk_X1_12 lc_3 rfl dX1_placeReached_47 ?_
    refine r_getR X fk_X1_94 lc_4 rfl dX1_placeReached_50 ?_
    refine r_aload_n X 0 rfl dX1_placeReached_53 ?_
    refine r_getI X fk_X1_39 lc_3 rfl dX1_placeReached_54 ?_
    refine r_iald X lc_15 dX1_placeReached_57 (fun _ => ?_)
    refine r_goto (tgt := 62) X dX1_placeReached_58 (by decide) ?_
    exact r_iret X dX1_placeReached_62
def fX1_placeReached_40 (F : Nat) (S : ST) : Option (Int32 × ST) :=
  fX1_placeReached_41 F S (0 : Int32)
set_option maxRecDepth 4000 in
theorem gX1_placeReached_40 {E : CT} (X : Cx E layC cX1_placeReached RX1 2 (some .int) 0) (F : Nat) (S : ST) : G E (fX1_placeReached_40 F S) S 40 [(0, .ref (eA E 3))] [] := by
  unfold fX1_placeReached_40
  refine r_iconst (v := 0) X (by decide) dX1_placeReached_40 ?_
  exact gX1_placeReached_41 X F _ _
def fX1_placeReached (F : Nat) (S : ST) : Option (Int32 × ST) :=
  if (S.1 3 3) < 0 then
    (fX1_placeReached_40 F S)
  else
    (if (S.1 4 2) ≤ (S.1 3 3) then
      (fX1_placeReached_40 F S)
    else
      (if (601 : Int32) ≤ (S.1 3 3) then
        (fX1_placeReached_40 F S)
      else
        (fX1_placeReached_41 F S (1 : Int32))))
set_option maxRecDepth 4000 in
theorem gX1_placeReached {E : CT} (X : Cx E layC cX1_placeReached RX1 2 (some .int) 0) (F : Nat) (S : ST) : G E (fX1_placeReached F S) S 0 [(0, .ref (eA E 3))] [] := by
  unfold fX1_placeReached
  refine r_aload_n X 0 rfl dX1_placeReached_0 ?_
  refine r_getI X fk_X1_39 lc_3 rfl dX1_placeReached_1 ?_
  refine r_if_lt (tgt := 40) X dX1_placeReached_4 (by decide) (fun _ => ?_) (fun _ => ?_)
  · exact gX1_placeReached_40 X F _
  · refine r_aload_n X 0 rfl dX1_placeReached_7 ?_
    refine r_getI X fk_X1_39 lc_3 rfl dX1_placeReached_8 ?_
    refine r_aload_n X 0 rfl dX1_placeReached_11 ?_
    refine r_getR X fk_X1_12 lc_3 rfl dX1_placeReached_12 ?_
    refine r_getI X fk_X1_87 lc_4 rfl dX1_placeReached_15 ?_
    refine r_icmp_ge (tgt := 40) X dX1_placeReached_18 (by decide) (fun _ => ?_) (fun _ => ?_)
    · exact gX1_placeReached_40 X F _
    · refine r_aload_n X 0 rfl dX1_placeReached_21 ?_
      refine r_getI X fk_X1_39 lc_3 rfl dX1_placeReached_22 ?_
      refine r_aload_n X 0 rfl dX1_placeReached_25 ?_
      refine r_getR X fk_X1_12 lc_3 rfl dX1_placeReached_26 ?_
      refine r_getR X fk_X1_94 lc_4 rfl dX1_placeReached_29 ?_
      refine r_alen (v := 601) X lc_15 (by decide) dX1_placeReached_32 ?_
      refine r_icmp_ge (tgt := 40) X dX1_placeReached_33 (by decide) (fun _ => ?_) (fun _ => ?_)
      · exact gX1_placeReached_40 X F _
      · refine r_iconst (v := 1) X (by decide) dX1_placeReached_36 ?_
        refine r_goto (tgt := 41) X dX1_placeReached_37 (by decide) ?_
        exact gX1_placeReached_41 X F _ _
theorem mX1_placeReached (F : Nat) (S : ST) : MetS yX1_placeReached cX1_placeReached 2 (some .int) 0 layC (fX1_placeReached F S) S (fun ad => [.ref (ad 3)]) := mk_met (fun ad => [(0, .ref (ad 3))]) (by decide) (fun _ => Nat.le_of_ble_eq_true rfl) (fun _ => rfl) (fun E X => gX1_placeReached X F S)
def fX1_advance_74 (F : Nat) (S : ST) (s0 : Int32) : Option (Int32 × ST) :=
  bindS (us S 3 4 s0) (fun S74 => some ((0 : Int32), S74))
set_option maxRecDepth 4000 in
theorem gX1_advance_74 {E : CT} (X : Cx E layC cX1_advance RX1 2 none 0) (F : Nat) (S : ST) (s0 : Int32) : G E (fX1_advance_74 F S s0) S 74 [] [.int s0, .ref (eA E 3)] := by
  unfold fX1_advance_74
  refine r_putI X pk_X1_45 lc_3 rfl dX1_advance_74 ?_
  refine r_bindS (fun S74 => ?_)
  exact r_vret X dX1_advance_77
def fX1_advance_51 (F : Nat) (S : ST) (s0 : Int32) : Option (Int32 × ST) :=
  if s0 = 0 then
    (fX1_advance_74 F S (-22 : Int32))
  else
    ((if vin (S.1 3 3) 601 = true then fX1_advance_74 F S (S.1 14 (ix (S.1 3 3))) else none))
set_option maxRecDepth 4000 in
theorem gX1_advance_51 {E : CT} (X : Cx E layC cX1_advance RX1 2 none 0) (F : Nat) (S : ST) (s0 : Int32) : G E (fX1_advance_51 F S s0) S 51 [(0, .ref (eA E 3))] [.int s0] := by
  unfold fX1_advance_51
  refine r_istore_n (lv' := [(0, _), (1, _)]) X (by decide) rfl dX1_advance_51 ?_
  refine r_aload_n X 0 rfl dX1_advance_52 ?_
  refine r_iload_n X 1 rfl dX1_advance_53 ?_
  refine r_if_eq (tgt := 72) X dX1_advance_54 (by decide) (fun _ => ?_) (fun _ => ?_)
  · refine r_bipush (v := -22) X (by decide) dX1_advance_72 ?_
    refine r_sub [] rfl ?_
    exact gX1_advance_74 X F _ _
  · refine r_aload_n X 0 rfl dX1_advance_57 ?_
    refine r_getR X fk_X1_12 lc_3 rfl dX1_advance_58 ?_
    refine r_getR X fk_X1_90 lc_4 rfl dX1_advance_61 ?_
    refine r_aload_n X 0 rfl dX1_advance_64 ?_
    refine r_getI X fk_X1_39 lc_3 rfl dX1_advance_65 ?_
    refine r_iald X lc_14 dX1_advance_68 (fun _ => ?_)
    refine r_goto (tgt := 74) X dX1_advance_69 (by decide) ?_
    refine r_sub [] rfl ?_
    exact gX1_advance_74 X F _ _
def fX1_advance_50 (F : Nat) (S : ST) : Option (Int32 × ST) :=
  fX1_advance_51 F S (0 : Int32)
set_option maxRecDepth 4000 in
theorem gX1_advance_50 {E : CT} (X : Cx E layC cX1_advance RX1 2 none 0) (F : Nat) (S : ST) : G E (fX1_advance_50 F S) S 50 [(0, .ref (eA E 3))] [] := by
  unfold fX1_advance_50
  refine r_iconst (v := 0) X (by decide) dX1_advance_50 ?_
  exact gX1_advance_51 X F _ _
def fX1_advance (F : Nat) (S : ST) : Option (Int32 × ST) :=
  bindS (us S 3 3 ((S.1 3 3) + (1 : Int32))) (fun S7 => if (S7.1 3 3) < 0 then
    (fX1_advance_50 F S7)
  else
    (if (S7.1 4 2) ≤ (S7.1 3 3) then
      (fX1_advance_50 F S7)
    else
      (if (601 : Int32) ≤ (S7.1 3 3) then
        (fX1_advance_50 F S7)
      else
        (fX1_advance_51 F S7 (1 : Int32)))))
set_option maxRecDepth 4000 in
theorem gX1_advance {E : CT} (X : Cx E layC cX1_advance RX1 2 none 0) (F : Nat) (S : ST) : G E (fX1_advance F S) S 0 [(0, .ref (eA E 3))] [] := by
  unfold fX1_advance
  refine r_aload_n X 0 rfl dX1_advance_0 ?_
  refine r_dup X rfl dX1_advance_1 ?_
  refine r_getI X fk_X1_39 lc_3 rfl dX1_advance_2 ?_
  refine r_iconst (v := 1) X (by decide) dX1_advance_5 ?_
  refine r_iadd X dX1_advance_6 ?_
  refine r_putI X pk_X1_39 lc_3 rfl dX1_advance_7 ?_
  refine r_bindS (fun S7 => ?_)
  refine r_aload_n X 0 rfl dX1_advance_10 ?_
  refine r_getI X fk_X1_39 lc_3 rfl dX1_advance_11 ?_
  refine r_if_lt (tgt := 50) X dX1_advance_14 (by decide) (fun _ => ?_) (fun _ => ?_)
  · exact gX1_advance_50 X F _
  · refine r_aload_n X 0 rfl dX1_advance_17 ?_
    refine r_getI X fk_X1_39 lc_3 rfl dX1_advance_18 ?_
    refine r_aload_n X 0 rfl dX1_advance_21 ?_
    refine r_getR X fk_X1_12 lc_3 rfl dX1_advance_22 ?_
    refine r_getI X fk_X1_87 lc_4 rfl dX1_advance_25 ?_
    refine r_icmp_ge (tgt := 50) X dX1_advance_28 (by decide) (fun _ => ?_) (fun _ => ?_)
    · exact gX1_advance_50 X F _
    · refine r_aload_n X 0 rfl dX1_advance_31 ?_
      refine r_getI X fk_X1_39 lc_3 rfl dX1_advance_32 ?_
      refine r_aload_n X 0 rfl dX1_advance_35 ?_
      refine r_getR X fk_X1_12 lc_3 rfl dX1_advance_36 ?_
      refine r_getR X fk_X1_90 lc_4 rfl dX1_advance_39 ?_
      refine r_alen (v := 601) X lc_14 (by decide) dX1_advance_42 ?_
      refine r_icmp_ge (tgt := 50) X dX1_advance_43 (by decide) (fun _ => ?_) (fun _ => ?_)
      · exact gX1_advance_50 X F _
      · refine r_iconst (v := 1) X (by decide) dX1_advance_46 ?_
        refine r_goto (tgt := 51) X dX1_advance_47 (by decide) ?_
        exact gX1_advance_51 X F _ _
theorem mX1_advance (F : Nat) (S : ST) : MetS yX1_advance cX1_advance 2 none 0 layC (fX1_advance F S) S (fun ad => [.ref (ad 3)]) := mk_met (fun ad => [(0, .ref (ad 3))]) (by decide) (fun _ => Nat.le_of_ble_eq_true rfl) (fun _ => rfl) (fun E X => gX1_advance X F S)
def fX1_refuse_15 (F : Nat) (S : ST) (s0 : Int32) : Option (Int32 × ST) :=
  bindS (us S 3 2 s0) (fun S15 => some ((0 : Int32), S15))
set_option maxRecDepth 4000 in
theorem gX1_refuse_15 {E : CT} (X : Cx E layC cX1_refuse RX1 1 (some .boolean) 0) (F : Nat) (S : ST) (s0 : Int32) : G E (fX1_refuse_15 F S s0) S 15 [] [.int s0, .ref (eA E 3)] := by
  unfold fX1_refuse_15
  refine r_putI X pk_X1_25 lc_3 rfl dX1_refuse_15 ?_
  refine r_bindS (fun S15 => ?_)
  refine r_iconst (v := 0) X (by decide) dX1_refuse_18 ?_
  exact r_zret X (by decide) dX1_refuse_19
def fX1_refuse (F : Nat) (S : ST) : Option (Int32 × ST) :=
  if (S.1 3 4) = (-21 : Int32) then
    (fX1_refuse_15 F S (1 : Int32))
  else
    (fX1_refuse_15 F S (2 : Int32))
set_option maxRecDepth 4000 in
theorem gX1_refuse {E : CT} (X : Cx E layC cX1_refuse RX1 1 (some .boolean) 0) (F : Nat) (S : ST) : G E (fX1_refuse F S) S 0 [(0, .ref (eA E 3))] [] := by
  unfold fX1_refuse
  refine r_aload_n X 0 rfl dX1_refuse_0 ?_
  refine r_aload_n X 0 rfl dX1_refuse_1 ?_
  refine r_getI X fk_X1_45 lc_3 rfl dX1_refuse_2 ?_
  refine r_bipush (v := -21) X (by decide) dX1_refuse_5 ?_
  refine r_icmp_ne (tgt := 14) X dX1_refuse_7 (by decide) (fun _ => ?_) (fun _ => ?_)
  · refine r_iconst (v := 2) X (by decide) dX1_refuse_14 ?_
    refine r_sub [] rfl ?_
    exact gX1_refuse_15 X F _ _
  · refine r_iconst (v := 1) X (by decide) dX1_refuse_10 ?_
    refine r_goto (tgt := 15) X dX1_refuse_11 (by decide) ?_
    refine r_sub [] rfl ?_
    exact gX1_refuse_15 X F _ _
theorem mX1_refuse (F : Nat) (S : ST) : MetS yX1_refuse cX1_refuse 1 (some .boolean) 0 layC (fX1_refuse F S) S (fun ad => [.ref (ad 3)]) := mk_met (fun ad => [(0, .ref (ad 3))]) (by decide) (fun _ => Nat.le_of_ble_eq_true rfl) (fun _ => rfl) (fun E X => gX1_refuse X F S)
def fX1_readNumber (F : Nat) (S : ST) (x1 : Int32) (x2 : Int32) : Option (Int32 × ST) :=
  if 0 ≤ (S.1 3 4) then
    ((fX10_within F S (S.1 3 4) x1 x2).bind (fun q18 => if q18.1 = 0 then
      (bindS (us q18.2 3 2 (3 : Int32)) (fun S26 => some ((0 : Int32), S26)))
    else
      ((fX1_advance F q18.2).bind (fun q32 => some ((1 : Int32), q32.2)))))
  else
    ((fX1_refuse F S).bind (fun q8 => if q8.1 &&& 1 = q8.1 then some (q8.1, q8.2) else none))
set_option maxRecDepth 4000 in
theorem gX1_readNumber {E : CT} (X : Cx E layC cX1_readNumber RX1 3 (some .boolean) 1) (F : Nat) (S : ST) (x1 : Int32) (x2 : Int32) : G E (fX1_readNumber F S x1 x2) S 0 [(0, .ref (eA E 3)), (1, .int x1), (2, .int x2)] [] := by
  unfold fX1_readNumber
  refine r_aload_n X 0 rfl dX1_readNumber_0 ?_
  refine r_getI X fk_X1_45 lc_3 rfl dX1_readNumber_1 ?_
  refine r_if_ge (tgt := 12) X dX1_readNumber_4 (by decide) (fun _ => ?_) (fun _ => ?_)
  · refine r_aload_n X 0 rfl dX1_readNumber_12 ?_
    refine r_getI X fk_X1_45 lc_3 rfl dX1_readNumber_13 ?_
    refine r_iload_n X 1 rfl dX1_readNumber_16 ?_
    refine r_iload_n X 2 rfl dX1_readNumber_17 ?_
    refine r_callS X (mX10_within _ _ _ _ _) mk_X10_within lk_X1_83 rfl (by decide) (by decide) (Nat.le_of_ble_eq_true rfl) rfl dX1_readNumber_18 (fun q18 _ => ?_)
    refine r_if_ne (tgt := 31) X dX1_readNumber_21 (by decide) (fun _ => ?_) (fun _ => ?_)
    · refine r_aload_n X 0 rfl dX1_readNumber_31 ?_
      refine r_callVv X (mX1_advance _ _) mk_X1_advance lk_X1_42 lc_3 rfl rfl (by decide) (by decide) (Nat.le_of_ble_eq_true rfl) rfl dX1_readNumber_32 (fun q32 _ => ?_)
      refine r_iconst (v := 1) X (by decide) dX1_readNumber_35 ?_
      exact r_zret X (by decide) dX1_readNumber_36
    · refine r_aload_n X 0 rfl dX1_readNumber_24 ?_
      refine r_iconst (v := 3) X (by decide) dX1_readNumber_25 ?_
      refine r_putI X pk_X1_25 lc_3 rfl dX1_readNumber_26 ?_
      refine r_bindS (fun S26 => ?_)
      refine r_iconst (v := 0) X (by decide) dX1_readNumber_29 ?_
      exact r_zret X (by decide) dX1_readNumber_30
  · refine r_aload_n X 0 rfl dX1_readNumber_7 ?_
    refine r_callV X (mX1_refuse _ _) mk_X1_refuse lk_X1_52 lc_3 rfl rfl (by decide) (by decide) (Nat.le_of_ble_eq_true rfl) rfl dX1_readNumber_8 (fun q8 _ => ?_)
    exact r_zretC X dX1_readNumber_11
theorem mX1_readNumber (F : Nat) (S : ST) (x1 : Int32) (x2 : Int32) : MetS yX1_readNumber cX1_readNumber 3 (some .boolean) 1 layC (fX1_readNumber F S x1 x2) S (fun ad => [.ref (ad 3), .int x1, .int x2]) := mk_met (fun ad => [(0, .ref (ad 3)), (1, .int x1), (2, .int x2)]) (by decide) (fun _ => Nat.le_of_ble_eq_true rfl) (fun _ => rfl) (fun E X => gX1_readNumber X F S x1 x2)
def fX1_readToken (F : Nat) (S : ST) (x1 : Int32) : Option (Int32 × ST) :=
  if (S.1 3 4) = x1 then
    ((fX1_advance F S).bind (fun q14 => some ((1 : Int32), q14.2)))
  else
    ((fX1_refuse F S).bind (fun q9 => if q9.1 &&& 1 = q9.1 then some (q9.1, q9.2) else none))
set_option maxRecDepth 4000 in
theorem gX1_readToken {E : CT} (X : Cx E layC cX1_readToken RX1 2 (some .boolean) 1) (F : Nat) (S : ST) (x1 : Int32) : G E (fX1_readToken F S x1) S 0 [(0, .ref (eA E 3)), (1, .int x1)] [] := by
  unfold fX1_readToken
  refine r_aload_n X 0 rfl dX1_readToken_0 ?_
  refine r_getI X fk_X1_45 lc_3 rfl dX1_readToken_1 ?_
  refine r_iload_n X 1 rfl dX1_readToken_4 ?_
  refine r_icmp_eq (tgt := 13) X dX1_readToken_5 (by decide) (fun _ => ?_) (fun _ => ?_)
  · refine r_aload_n X 0 rfl dX1_readToken_13 ?_
    refine r_callVv X (mX1_advance _ _) mk_X1_advance lk_X1_42 lc_3 rfl rfl (by decide) (by decide) (Nat.le_of_ble_eq_true rfl) rfl dX1_readToken_14 (fun q14 _ => ?_)
    refine r_iconst (v := 1) X (by decide) dX1_readToken_17 ?_
    exact r_zret X (by decide) dX1_readToken_18
  · refine r_aload_n X 0 rfl dX1_readToken_8 ?_
    refine r_callV X (mX1_refuse _ _) mk_X1_refuse lk_X1_52 lc_3 rfl rfl (by decide) (by decide) (Nat.le_of_ble_eq_true rfl) rfl dX1_readToken_9 (fun q9 _ => ?_)
    exact r_zretC X dX1_readToken_12
theorem mX1_readToken (F : Nat) (S : ST) (x1 : Int32) : MetS yX1_readToken cX1_readToken 2 (some .boolean) 1 layC (fX1_readToken F S x1) S (fun ad => [.ref (ad 3), .int x1]) := mk_met (fun ad => [(0, .ref (ad 3)), (1, .int x1)]) (by decide) (fun _ => Nat.le_of_ble_eq_true rfl) (fun _ => rfl) (fun E X => gX1_readToken X F S x1)
def fX1_readSum_28 (F : Nat) (S : ST) : Option (Int32 × ST) :=
  (fX1_refuse F S).bind (fun q29 => if q29.1 &&& 1 = q29.1 then some (q29.1, q29.2) else none)
set_option maxRecDepth 4000 in
theorem gX1_readSum_28 {E : CT} (X : Cx E layC cX1_readSum RX1 3 (some .boolean) 1) (F : Nat) (S : ST) : G E (fX1_readSum_28 F S) S 28 [(0, .ref (eA E 3))] [] := by
  unfold fX1_readSum_28
  refine r_aload_n X 0 rfl dX1_readSum_28 ?_
  refine r_callV X (mX1_refuse _ _) mk_X1_refuse lk_X1_52 lc_3 rfl rfl (by decide) (by decide) (Nat.le_of_ble_eq_true rfl) rfl dX1_readSum_29 (fun q29 _ => ?_)
  exact r_zretC X dX1_readSum_32
def fX1_readSum_90 (F : Nat) (k4 : ST → Int32 → Int32 → Option (Int32 × ST)) (S : ST) (x2 : Int32) : Option (Int32 × ST) :=
  bindI ((S.1 3 4)) (fun v94 => (fX1_advance F S).bind (fun q96 => k4 q96.2 v94 (x2 + (1 : Int32))))
set_option maxRecDepth 4000 in
theorem gX1_readSum_90 {E : CT} (X : Cx E layC cX1_readSum RX1 3 (some .boolean) 1) (F : Nat) (k4 : ST → Int32 → Int32 → Option (Int32 × ST)) (h4 : ∀ (S : ST) (x1 : Int32) (x2 : Int32), G E (k4 S x1 x2) S 4 [(0, .ref (eA E 3)), (1, .int x1), (2, .int x2)] []) (S : ST) (x2 : Int32) : G E (fX1_readSum_90 F k4 S x2) S 90 [(0, .ref (eA E 3)), (2, .int x2)] [] := by
  unfold fX1_readSum_90
  refine r_aload_n X 0 rfl dX1_readSum_90 ?_
  refine r_getI X fk_X1_45 lc_3 rfl dX1_readSum_91 ?_
  refine r_bindI (fun v94 => ?_)
  refine r_istore_n (lv' := [(0, _), (1, _), (2, _)]) X (by decide) rfl dX1_readSum_94 ?_
  refine r_aload_n X 0 rfl dX1_readSum_95 ?_
  refine r_callVv X (mX1_advance _ _) mk_X1_advance lk_X1_42 lc_3 rfl rfl (by decide) (by decide) (Nat.le_of_ble_eq_true rfl) rfl dX1_readSum_96 (fun q96 _ => ?_)
  refine r_iinc (lv' := [(0, _), (1, _), (2, _)]) (dl := 1) X 2 rfl (by decide) (by decide) rfl dX1_readSum_99 ?_
  refine r_goto (tgt := 4) X dX1_readSum_102 (by decide) ?_
  exact h4 _ _ _
def fX1_readSum_70 (F : Nat) (k4 : ST → Int32 → Int32 → Option (Int32 × ST)) (S : ST) (x2 : Int32) : Option (Int32 × ST) :=
  if (S.1 3 4) = (-12 : Int32) then
    (fX1_readSum_90 F k4 S x2)
  else
    (if (S.1 3 4) = (-13 : Int32) then
      (fX1_readSum_90 F k4 S x2)
    else
      (some ((1 : Int32), S)))
set_option maxRecDepth 4000 in
theorem gX1_readSum_70 {E : CT} (X : Cx E layC cX1_readSum RX1 3 (some .boolean) 1) (F : Nat) (k4 : ST → Int32 → Int32 → Option (Int32 × ST)) (h4 : ∀ (S : ST) (x1 : Int32) (x2 : Int32), G E (k4 S x1 x2) S 4 [(0, .ref (eA E 3)), (1, .int x1), (2, .int x2)] []) (S : ST) (x2 : Int32) : G E (fX1_readSum_70 F k4 S x2) S 70 [(0, .ref (eA E 3)), (2, .int x2)] [] := by
  unfold fX1_readSum_70
  refine r_aload_n X 0 rfl dX1_readSum_70 ?_
  refine r_getI X fk_X1_45 lc_3 rfl dX1_readSum_71 ?_
  refine r_bipush (v := -12) X (by decide) dX1_readSum_74 ?_
  refine r_icmp_eq (tgt := 90) X dX1_readSum_76 (by decide) (fun _ => ?_) (fun _ => ?_)
  · exact gX1_readSum_90 X F _ h4 _ _
  · refine r_aload_n X 0 rfl dX1_readSum_79 ?_
    refine r_getI X fk_X1_45 lc_3 rfl dX1_readSum_80 ?_
    refine r_bipush (v := -13) X (by decide) dX1_readSum_83 ?_
    refine r_icmp_eq (tgt := 90) X dX1_readSum_85 (by decide) (fun _ => ?_) (fun _ => ?_)
    · exact gX1_readSum_90 X F _ h4 _ _
    · refine r_iconst (v := 1) X (by decide) dX1_readSum_88 ?_
      exact r_zret X (by decide) dX1_readSum_89
def fX1_readSum_4 (F : Nat) : Nat → ST → Int32 → Int32 → Option (Int32 × ST)
  | 0, _, _, _ => none
  | n + 1, S, x1, x2 =>
  if (60 : Int32) < x2 then
    ((fX1_refuse F S).bind (fun q106 => if q106.1 &&& 1 = q106.1 then some (q106.1, q106.2) else none))
  else
    (if (60 : Int32) ≤ (S.1 3 5) then
      (fX1_readSum_28 F S)
    else
      (if (-5 : Int32) ≤ (S.1 3 4) then
        ((fX2_emit F S (S.1 3 4)).bind (fun q41 => bindS (us q41.2 3 5 ((q41.2.1 3 5) + (1 : Int32))) (fun S51 => (fX1_advance F S51).bind (fun q55 => if x2 ≤ 0 then
          (fX1_readSum_70 F (fX1_readSum_4 F n) q55.2 x2)
        else
          ((fX2_emit F q55.2 x1).bind (fun q67 => fX1_readSum_70 F (fX1_readSum_4 F n) q67.2 x2))))))
      else
        (fX1_readSum_28 F S)))
set_option maxRecDepth 4000 in
theorem gX1_readSum_4 {E : CT} (X : Cx E layC cX1_readSum RX1 3 (some .boolean) 1) (F : Nat) : ∀ (n : Nat) (S : ST) (x1 : Int32) (x2 : Int32), G E (fX1_readSum_4 F n S x1 x2) S 4 [(0, .ref (eA E 3)), (1, .int x1), (2, .int x2)] []
  | 0, _, _, _ => r_none
  | n + 1, S, x1, x2 => by
    have ih := gX1_readSum_4 X F n
    unfold fX1_readSum_4
    refine r_iload_n X 2 rfl dX1_readSum_4 ?_
    refine r_bipush (v := 60) X (by decide) dX1_readSum_5 ?_
    refine r_icmp_gt (tgt := 105) X dX1_readSum_7 (by decide) (fun _ => ?_) (fun _ => ?_)
    · refine r_aload_n X 0 rfl dX1_readSum_105 ?_
      refine r_callV X (mX1_refuse _ _) mk_X1_refuse lk_X1_52 lc_3 rfl rfl (by decide) (by decide) (Nat.le_of_ble_eq_true rfl) rfl dX1_readSum_106 (fun q106 _ => ?_)
      exact r_zretC X dX1_readSum_109
    · refine r_aload_n X 0 rfl dX1_readSum_10 ?_
      refine r_getI X fk_X1_36 lc_3 rfl dX1_readSum_11 ?_
      refine r_bipush (v := 60) X (by decide) dX1_readSum_14 ?_
      refine r_icmp_ge (tgt := 28) X dX1_readSum_16 (by decide) (fun _ => ?_) (fun _ => ?_)
      · refine r_sub [0] rfl ?_
        exact gX1_readSum_28 X F _
      · refine r_aload_n X 0 rfl dX1_readSum_19 ?_
        refine r_getI X fk_X1_45 lc_3 rfl dX1_readSum_20 ?_
        refine r_bipush (v := -5) X (by decide) dX1_readSum_23 ?_
        refine r_icmp_ge (tgt := 33) X dX1_readSum_25 (by decide) (fun _ => ?_) (fun _ => ?_)
        · refine r_aload_n X 0 rfl dX1_readSum_33 ?_
          refine r_getR X fk_X1_21 lc_3 rfl dX1_readSum_34 ?_
          refine r_aload_n X 0 rfl dX1_readSum_37 ?_
          refine r_getI X fk_X1_45 lc_3 rfl dX1_readSum_38 ?_
          refine r_callVv X (mX2_emit _ _ _) mk_X2_emit lk_X1_73 lc_5 rfl rfl (by decide) (by decide) (Nat.le_of_ble_eq_true rfl) rfl dX1_readSum_41 (fun q41 _ => ?_)
          refine r_aload_n X 0 rfl dX1_readSum_44 ?_
          refine r_dup X rfl dX1_readSum_45 ?_
          refine r_getI X fk_X1_36 lc_3 rfl dX1_readSum_46 ?_
          refine r_iconst (v := 1) X (by decide) dX1_readSum_49 ?_
          refine r_iadd X dX1_readSum_50 ?_
          refine r_putI X pk_X1_36 lc_3 rfl dX1_readSum_51 ?_
          refine r_bindS (fun S51 => ?_)
          refine r_aload_n X 0 rfl dX1_readSum_54 ?_
          refine r_callVv X (mX1_advance _ _) mk_X1_advance lk_X1_42 lc_3 rfl rfl (by decide) (by decide) (Nat.le_of_ble_eq_true rfl) rfl dX1_readSum_55 (fun q55 _ => ?_)
          refine r_iload_n X 2 rfl dX1_readSum_58 ?_
          refine r_if_le (tgt := 70) X dX1_readSum_59 (by decide) (fun _ => ?_) (fun _ => ?_)
          · refine r_sub [0, 2] rfl ?_
            exact gX1_readSum_70 X F _ ih _ _
          · refine r_aload_n X 0 rfl dX1_readSum_62 ?_
            refine r_getR X fk_X1_21 lc_3 rfl dX1_readSum_63 ?_
            refine r_iload_n X 1 rfl dX1_readSum_66 ?_
            refine r_callVv X (mX2_emit _ _ _) mk_X2_emit lk_X1_73 lc_5 rfl rfl (by decide) (by decide) (Nat.le_of_ble_eq_true rfl) rfl dX1_readSum_67 (fun q67 _ => ?_)
            refine r_sub [0, 2] rfl ?_
            exact gX1_readSum_70 X F _ ih _ _
        · refine r_sub [0] rfl ?_
          exact gX1_readSum_28 X F _
def fX1_readSum (F : Nat) (S : ST) : Option (Int32 × ST) :=
  fX1_readSum_4 F F S (-1 : Int32) (0 : Int32)
set_option maxRecDepth 4000 in
theorem gX1_readSum {E : CT} (X : Cx E layC cX1_readSum RX1 3 (some .boolean) 1) (F : Nat) (S : ST) : G E (fX1_readSum F S) S 0 [(0, .ref (eA E 3))] [] := by
  unfold fX1_readSum
  refine r_iconst (v := -1) X (by decide) dX1_readSum_0 ?_
  refine r_istore_n (lv' := [(0, _), (1, _)]) X (by decide) rfl dX1_readSum_1 ?_
  refine r_iconst (v := 0) X (by decide) dX1_readSum_2 ?_
  refine r_istore_n (lv' := [(0, _), (1, _), (2, _)]) X (by decide) rfl dX1_readSum_3 ?_
  exact gX1_readSum_4 X F F _ _ _
theorem mX1_readSum (F : Nat) (S : ST) : MetS yX1_readSum cX1_readSum 3 (some .boolean) 1 layC (fX1_readSum F S) S (fun ad => [.ref (ad 3)]) := mk_met (fun ad => [(0, .ref (ad 3))]) (by decide) (fun _ => Nat.le_of_ble_eq_true rfl) (fun _ => rfl) (fun E X => gX1_readSum X F S)
def fX1_readOneP_83 (F : Nat) (r_readEither : ST → Int32 → Option (Int32 × ST)) (r_readOne : ST → Int32 → Option (Int32 × ST)) (S : ST) : Option (Int32 × ST) :=
  some ((0 : Int32), S)
set_option maxRecDepth 4000 in
theorem gX1_readOneP_83 {E : CT} {lv : Nat} (X : Cx E layC cX1_readOne RX1 3 (some .boolean) (lv + 3)) (F : Nat) (r_readEither : ST → Int32 → Option (Int32 × ST)) (r_readOne : ST → Int32 → Option (Int32 × ST)) (h_readEither : ∀ (S : ST) (x1 : Int32), MetS yX1_readEither cX1_readEither 3 (some .boolean) lv layC (r_readEither S x1) S (fun ad => [.ref (ad 3), .int x1])) (h_readOne : ∀ (S : ST) (x1 : Int32), MetS yX1_readOne cX1_readOne 3 (some .boolean) lv layC (r_readOne S x1) S (fun ad => [.ref (ad 3), .int x1])) (S : ST) : G E (fX1_readOneP_83 F r_readEither r_readOne S) S 83 [] [] := by
  unfold fX1_readOneP_83
  refine r_iconst (v := 0) X (by decide) dX1_readOne_83 ?_
  exact r_zret X (by decide) dX1_readOne_84
def fX1_readOneP_122 (F : Nat) (r_readEither : ST → Int32 → Option (Int32 × ST)) (r_readOne : ST → Int32 → Option (Int32 × ST)) (S : ST) (x2 : Int32) : Option (Int32 × ST) :=
  (fX1_advance F S).bind (fun q123 => (fX1_readSum F q123.2).bind (fun q127 => if q127.1 = 0 then
    (some ((0 : Int32), q127.2))
  else
    ((fX2_emit F q127.2 x2).bind (fun q140 => some ((1 : Int32), q140.2)))))
set_option maxRecDepth 4000 in
theorem gX1_readOneP_122 {E : CT} {lv : Nat} (X : Cx E layC cX1_readOne RX1 3 (some .boolean) (lv + 3)) (F : Nat) (r_readEither : ST → Int32 → Option (Int32 × ST)) (r_readOne : ST → Int32 → Option (Int32 × ST)) (h_readEither : ∀ (S : ST) (x1 : Int32), MetS yX1_readEither cX1_readEither 3 (some .boolean) lv layC (r_readEither S x1) S (fun ad => [.ref (ad 3), .int x1])) (h_readOne : ∀ (S : ST) (x1 : Int32), MetS yX1_readOne cX1_readOne 3 (some .boolean) lv layC (r_readOne S x1) S (fun ad => [.ref (ad 3), .int x1])) (S : ST) (x2 : Int32) : G E (fX1_readOneP_122 F r_readEither r_readOne S x2) S 122 [(0, .ref (eA E 3)), (2, .int x2)] [] := by
  unfold fX1_readOneP_122
  refine r_aload_n X 0 rfl dX1_readOne_122 ?_
  refine r_callVv X (mX1_advance _ _) mk_X1_advance lk_X1_42 lc_3 rfl rfl (by omega) (by decide) (Nat.le_of_ble_eq_true rfl) rfl dX1_readOne_123 (fun q123 _ => ?_)
  refine r_aload_n X 0 rfl dX1_readOne_126 ?_
  refine r_callV X (mX1_readSum _ _) mk_X1_readSum lk_X1_80 lc_3 rfl rfl (by omega) (by decide) (Nat.le_of_ble_eq_true rfl) rfl dX1_readOne_127 (fun q127 _ => ?_)
  refine r_if_ne (tgt := 135) X dX1_readOne_130 (by decide) (fun _ => ?_) (fun _ => ?_)
  · refine r_aload_n X 0 rfl dX1_readOne_135 ?_
    refine r_getR X fk_X1_21 lc_3 rfl dX1_readOne_136 ?_
    refine r_iload_n X 1 rfl dX1_readOne_139 ?_
    refine r_callVv X (mX2_emit _ _ _) mk_X2_emit lk_X1_73 lc_5 rfl rfl (by omega) (by decide) (Nat.le_of_ble_eq_true rfl) rfl dX1_readOne_140 (fun q140 _ => ?_)
    refine r_iconst (v := 1) X (by decide) dX1_readOne_143 ?_
    exact r_zret X (by decide) dX1_readOne_144
  · refine r_iconst (v := 0) X (by decide) dX1_readOne_133 ?_
    exact r_zret X (by decide) dX1_readOne_134
def fX1_readOneP (F : Nat) (r_readEither : ST → Int32 → Option (Int32 × ST)) (r_readOne : ST → Int32 → Option (Int32 × ST)) (S : ST) (x1 : Int32) : Option (Int32 × ST) :=
  if x1 < (6 : Int32) then
    (if (S.1 3 4) = (-6 : Int32) then
      ((fX1_advance F S).bind (fun q21 => (r_readOne q21.2 (x1 + (1 : Int32))).bind (fun q28 => if q28.1 = 0 then
        (some ((0 : Int32), q28.2))
      else
        ((fX2_emit F q28.2 (-6 : Int32)).bind (fun q42 => some ((1 : Int32), q42.2))))))
    else
      (if (S.1 3 4) = (-14 : Int32) then
        ((fX1_advance F S).bind (fun q57 => (r_readEither q57.2 (x1 + (1 : Int32))).bind (fun q64 => if q64.1 = 0 then
          (fX1_readOneP_83 F r_readEither r_readOne q64.2)
        else
          ((fX1_readToken F q64.2 (-15 : Int32)).bind (fun q73 => if q73.1 = 0 then
            (fX1_readOneP_83 F r_readEither r_readOne q73.2)
          else
            (some ((1 : Int32), q73.2)))))))
      else
        ((fX1_readSum F S).bind (fun q86 => if q86.1 = 0 then
          (some ((0 : Int32), q86.2))
        else
          (bindI ((q86.2.1 3 4)) (fun v98 => if v98 = (-9 : Int32) then
            (fX1_readOneP_122 F r_readEither r_readOne q86.2 v98)
          else
            (if v98 = (-10 : Int32) then
              (fX1_readOneP_122 F r_readEither r_readOne q86.2 v98)
            else
              (if v98 = (-11 : Int32) then
                (fX1_readOneP_122 F r_readEither r_readOne q86.2 v98)
              else
                ((fX1_refuse F q86.2).bind (fun q118 => if q118.1 &&& 1 = q118.1 then some (q118.1, q118.2) else none))))))))))
  else
    ((fX1_refuse F S).bind (fun q7 => if q7.1 &&& 1 = q7.1 then some (q7.1, q7.2) else none))
set_option maxRecDepth 4000 in
theorem gX1_readOneP {E : CT} {lv : Nat} (X : Cx E layC cX1_readOne RX1 3 (some .boolean) (lv + 3)) (F : Nat) (r_readEither : ST → Int32 → Option (Int32 × ST)) (r_readOne : ST → Int32 → Option (Int32 × ST)) (h_readEither : ∀ (S : ST) (x1 : Int32), MetS yX1_readEither cX1_readEither 3 (some .boolean) lv layC (r_readEither S x1) S (fun ad => [.ref (ad 3), .int x1])) (h_readOne : ∀ (S : ST) (x1 : Int32), MetS yX1_readOne cX1_readOne 3 (some .boolean) lv layC (r_readOne S x1) S (fun ad => [.ref (ad 3), .int x1])) (S : ST) (x1 : Int32) : G E (fX1_readOneP F r_readEither r_readOne S x1) S 0 [(0, .ref (eA E 3)), (1, .int x1)] [] := by
  unfold fX1_readOneP
  refine r_iload_n X 1 rfl dX1_readOne_0 ?_
  refine r_bipush (v := 6) X (by decide) dX1_readOne_1 ?_
  refine r_icmp_lt (tgt := 11) X dX1_readOne_3 (by decide) (fun _ => ?_) (fun _ => ?_)
  · refine r_aload_n X 0 rfl dX1_readOne_11 ?_
    refine r_getI X fk_X1_45 lc_3 rfl dX1_readOne_12 ?_
    refine r_bipush (v := -6) X (by decide) dX1_readOne_15 ?_
    refine r_icmp_ne (tgt := 47) X dX1_readOne_17 (by decide) (fun _ => ?_) (fun _ => ?_)
    · refine r_aload_n X 0 rfl dX1_readOne_47 ?_
      refine r_getI X fk_X1_45 lc_3 rfl dX1_readOne_48 ?_
      refine r_bipush (v := -14) X (by decide) dX1_readOne_51 ?_
      refine r_icmp_ne (tgt := 85) X dX1_readOne_53 (by decide) (fun _ => ?_) (fun _ => ?_)
      · refine r_aload_n X 0 rfl dX1_readOne_85 ?_
        refine r_callV X (mX1_readSum _ _) mk_X1_readSum lk_X1_80 lc_3 rfl rfl (by omega) (by decide) (Nat.le_of_ble_eq_true rfl) rfl dX1_readOne_86 (fun q86 _ => ?_)
        refine r_if_ne (tgt := 94) X dX1_readOne_89 (by decide) (fun _ => ?_) (fun _ => ?_)
        · refine r_aload_n X 0 rfl dX1_readOne_94 ?_
          refine r_getI X fk_X1_45 lc_3 rfl dX1_readOne_95 ?_
          refine r_bindI (fun v98 => ?_)
          refine r_istore_n (lv' := [(0, _), (1, _), (2, _)]) X (by decide) rfl dX1_readOne_98 ?_
          refine r_iload_n X 2 rfl dX1_readOne_99 ?_
          refine r_bipush (v := -9) X (by decide) dX1_readOne_100 ?_
          refine r_icmp_eq (tgt := 122) X dX1_readOne_102 (by decide) (fun _ => ?_) (fun _ => ?_)
          · refine r_sub [0, 2] rfl ?_
            exact gX1_readOneP_122 X F r_readEither r_readOne h_readEither h_readOne _ _
          · refine r_iload_n X 2 rfl dX1_readOne_105 ?_
            refine r_bipush (v := -10) X (by decide) dX1_readOne_106 ?_
            refine r_icmp_eq (tgt := 122) X dX1_readOne_108 (by decide) (fun _ => ?_) (fun _ => ?_)
            · refine r_sub [0, 2] rfl ?_
              exact gX1_readOneP_122 X F r_readEither r_readOne h_readEither h_readOne _ _
            · refine r_iload_n X 2 rfl dX1_readOne_111 ?_
              refine r_bipush (v := -11) X (by decide) dX1_readOne_112 ?_
              refine r_icmp_eq (tgt := 122) X dX1_readOne_114 (by decide) (fun _ => ?_) (fun _ => ?_)
              · refine r_sub [0, 2] rfl ?_
                exact gX1_readOneP_122 X F r_readEither r_readOne h_readEither h_readOne _ _
              · refine r_aload_n X 0 rfl dX1_readOne_117 ?_
                refine r_callV X (mX1_refuse _ _) mk_X1_refuse lk_X1_52 lc_3 rfl rfl (by omega) (by decide) (Nat.le_of_ble_eq_true rfl) rfl dX1_readOne_118 (fun q118 _ => ?_)
                exact r_zretC X dX1_readOne_121
        · refine r_iconst (v := 0) X (by decide) dX1_readOne_92 ?_
          exact r_zret X (by decide) dX1_readOne_93
      · refine r_aload_n X 0 rfl dX1_readOne_56 ?_
        refine r_callVv X (mX1_advance _ _) mk_X1_advance lk_X1_42 lc_3 rfl rfl (by omega) (by decide) (Nat.le_of_ble_eq_true rfl) rfl dX1_readOne_57 (fun q57 _ => ?_)
        refine r_aload_n X 0 rfl dX1_readOne_60 ?_
        refine r_iload_n X 1 rfl dX1_readOne_61 ?_
        refine r_iconst (v := 1) X (by decide) dX1_readOne_62 ?_
        refine r_iadd X dX1_readOne_63 ?_
        refine r_callV X (h_readEither _ _) mk_X1_readEither lk_X1_63 lc_3 rfl rfl (by omega) (by decide) (Nat.le_of_ble_eq_true rfl) rfl dX1_readOne_64 (fun q64 _ => ?_)
        refine r_if_eq (tgt := 83) X dX1_readOne_67 (by decide) (fun _ => ?_) (fun _ => ?_)
        · refine r_sub [] rfl ?_
          exact gX1_readOneP_83 X F r_readEither r_readOne h_readEither h_readOne _
        · refine r_aload_n X 0 rfl dX1_readOne_70 ?_
          refine r_bipush (v := -15) X (by decide) dX1_readOne_71 ?_
          refine r_callV X (mX1_readToken _ _ _) mk_X1_readToken lk_X1_55 lc_3 rfl rfl (by omega) (by decide) (Nat.le_of_ble_eq_true rfl) rfl dX1_readOne_73 (fun q73 _ => ?_)
          refine r_if_eq (tgt := 83) X dX1_readOne_76 (by decide) (fun _ => ?_) (fun _ => ?_)
          · refine r_sub [] rfl ?_
            exact gX1_readOneP_83 X F r_readEither r_readOne h_readEither h_readOne _
          · refine r_iconst (v := 1) X (by decide) dX1_readOne_79 ?_
            refine r_goto (tgt := 84) X dX1_readOne_80 (by decide) ?_
            exact r_zret X (by decide) dX1_readOne_84
    · refine r_aload_n X 0 rfl dX1_readOne_20 ?_
      refine r_callVv X (mX1_advance _ _) mk_X1_advance lk_X1_42 lc_3 rfl rfl (by omega) (by decide) (Nat.le_of_ble_eq_true rfl) rfl dX1_readOne_21 (fun q21 _ => ?_)
      refine r_aload_n X 0 rfl dX1_readOne_24 ?_
      refine r_iload_n X 1 rfl dX1_readOne_25 ?_
      refine r_iconst (v := 1) X (by decide) dX1_readOne_26 ?_
      refine r_iadd X dX1_readOne_27 ?_
      refine r_callV X (h_readOne _ _) mk_X1_readOne lk_X1_77 lc_3 rfl rfl (by omega) (by decide) (Nat.le_of_ble_eq_true rfl) rfl dX1_readOne_28 (fun q28 _ => ?_)
      refine r_if_ne (tgt := 36) X dX1_readOne_31 (by decide) (fun _ => ?_) (fun _ => ?_)
      · refine r_aload_n X 0 rfl dX1_readOne_36 ?_
        refine r_getR X fk_X1_21 lc_3 rfl dX1_readOne_37 ?_
        refine r_bipush (v := -6) X (by decide) dX1_readOne_40 ?_
        refine r_callVv X (mX2_emit _ _ _) mk_X2_emit lk_X1_73 lc_5 rfl rfl (by omega) (by decide) (Nat.le_of_ble_eq_true rfl) rfl dX1_readOne_42 (fun q42 _ => ?_)
        refine r_iconst (v := 1) X (by decide) dX1_readOne_45 ?_
        exact r_zret X (by decide) dX1_readOne_46
      · refine r_iconst (v := 0) X (by decide) dX1_readOne_34 ?_
        exact r_zret X (by decide) dX1_readOne_35
  · refine r_aload_n X 0 rfl dX1_readOne_6 ?_
    refine r_callV X (mX1_refuse _ _) mk_X1_refuse lk_X1_52 lc_3 rfl rfl (by omega) (by decide) (Nat.le_of_ble_eq_true rfl) rfl dX1_readOne_7 (fun q7 _ => ?_)
    exact r_zretC X dX1_readOne_10
theorem mX1_readOneP {lv : Nat} (F : Nat) (r_readEither : ST → Int32 → Option (Int32 × ST)) (r_readOne : ST → Int32 → Option (Int32 × ST)) (h_readEither : ∀ (S : ST) (x1 : Int32), MetS yX1_readEither cX1_readEither 3 (some .boolean) lv layC (r_readEither S x1) S (fun ad => [.ref (ad 3), .int x1])) (h_readOne : ∀ (S : ST) (x1 : Int32), MetS yX1_readOne cX1_readOne 3 (some .boolean) lv layC (r_readOne S x1) S (fun ad => [.ref (ad 3), .int x1])) (S : ST) (x1 : Int32) : MetS yX1_readOne cX1_readOne 3 (some .boolean) (lv + 3) layC (fX1_readOneP F r_readEither r_readOne S x1) S (fun ad => [.ref (ad 3), .int x1]) := mk_met (fun ad => [(0, .ref (ad 3)), (1, .int x1)]) (by decide) (fun _ => Nat.le_of_ble_eq_true rfl) (fun _ => rfl) (fun E X => gX1_readOneP X F r_readEither r_readOne h_readEither h_readOne S x1)
def fX1_readBothP_12 (F : Nat) (r_readOne : ST → Int32 → Option (Int32 × ST)) : Nat → ST → Int32 → Int32 → Option (Int32 × ST)
  | 0, _, _, _ => none
  | n + 1, S, x1, x2 =>
  if (60 : Int32) ≤ x2 then
    (some ((1 : Int32), S))
  else
    (if (S.1 3 4) = (-7 : Int32) then
      ((fX1_advance F S).bind (fun q28 => (r_readOne q28.2 x1).bind (fun q33 => if q33.1 = 0 then
        (some ((0 : Int32), q33.2))
      else
        ((fX2_emit F q33.2 (-7 : Int32)).bind (fun q47 => fX1_readBothP_12 F r_readOne n q47.2 x1 (x2 + (1 : Int32)))))))
    else
      (some ((1 : Int32), S)))
set_option maxRecDepth 4000 in
theorem gX1_readBothP_12 {E : CT} {lv : Nat} (X : Cx E layC cX1_readBoth RX1 3 (some .boolean) (lv + 2)) (F : Nat) (r_readOne : ST → Int32 → Option (Int32 × ST)) (h_readOne : ∀ (S : ST) (x1 : Int32), MetS yX1_readOne cX1_readOne 3 (some .boolean) lv layC (r_readOne S x1) S (fun ad => [.ref (ad 3), .int x1])) : ∀ (n : Nat) (S : ST) (x1 : Int32) (x2 : Int32), G E (fX1_readBothP_12 F r_readOne n S x1 x2) S 12 [(0, .ref (eA E 3)), (1, .int x1), (2, .int x2)] []
  | 0, _, _, _ => r_none
  | n + 1, S, x1, x2 => by
    have ih := gX1_readBothP_12 X F r_readOne h_readOne n
    unfold fX1_readBothP_12
    refine r_iload_n X 2 rfl dX1_readBoth_12 ?_
    refine r_bipush (v := 60) X (by decide) dX1_readBoth_13 ?_
    refine r_icmp_ge (tgt := 56) X dX1_readBoth_15 (by decide) (fun _ => ?_) (fun _ => ?_)
    · refine r_iconst (v := 1) X (by decide) dX1_readBoth_56 ?_
      exact r_zret X (by decide) dX1_readBoth_57
    · refine r_aload_n X 0 rfl dX1_readBoth_18 ?_
      refine r_getI X fk_X1_45 lc_3 rfl dX1_readBoth_19 ?_
      refine r_bipush (v := -7) X (by decide) dX1_readBoth_22 ?_
      refine r_icmp_ne (tgt := 56) X dX1_readBoth_24 (by decide) (fun _ => ?_) (fun _ => ?_)
      · refine r_iconst (v := 1) X (by decide) dX1_readBoth_56 ?_
        exact r_zret X (by decide) dX1_readBoth_57
      · refine r_aload_n X 0 rfl dX1_readBoth_27 ?_
        refine r_callVv X (mX1_advance _ _) mk_X1_advance lk_X1_42 lc_3 rfl rfl (by omega) (by decide) (Nat.le_of_ble_eq_true rfl) rfl dX1_readBoth_28 (fun q28 _ => ?_)
        refine r_aload_n X 0 rfl dX1_readBoth_31 ?_
        refine r_iload_n X 1 rfl dX1_readBoth_32 ?_
        refine r_callV X (h_readOne _ _) mk_X1_readOne lk_X1_77 lc_3 rfl rfl (by omega) (by decide) (Nat.le_of_ble_eq_true rfl) rfl dX1_readBoth_33 (fun q33 _ => ?_)
        refine r_if_ne (tgt := 41) X dX1_readBoth_36 (by decide) (fun _ => ?_) (fun _ => ?_)
        · refine r_aload_n X 0 rfl dX1_readBoth_41 ?_
          refine r_getR X fk_X1_21 lc_3 rfl dX1_readBoth_42 ?_
          refine r_bipush (v := -7) X (by decide) dX1_readBoth_45 ?_
          refine r_callVv X (mX2_emit _ _ _) mk_X2_emit lk_X1_73 lc_5 rfl rfl (by omega) (by decide) (Nat.le_of_ble_eq_true rfl) rfl dX1_readBoth_47 (fun q47 _ => ?_)
          refine r_iinc (lv' := [(0, _), (1, _), (2, _)]) (dl := 1) X 2 rfl (by decide) (by decide) rfl dX1_readBoth_50 ?_
          refine r_goto (tgt := 12) X dX1_readBoth_53 (by decide) ?_
          exact ih _ _ _
        · refine r_iconst (v := 0) X (by decide) dX1_readBoth_39 ?_
          exact r_zret X (by decide) dX1_readBoth_40
def fX1_readBothP (F : Nat) (r_readOne : ST → Int32 → Option (Int32 × ST)) (S : ST) (x1 : Int32) : Option (Int32 × ST) :=
  (r_readOne S x1).bind (fun q2 => if q2.1 = 0 then
    (some ((0 : Int32), q2.2))
  else
    (fX1_readBothP_12 F r_readOne F q2.2 x1 (0 : Int32)))
set_option maxRecDepth 4000 in
theorem gX1_readBothP {E : CT} {lv : Nat} (X : Cx E layC cX1_readBoth RX1 3 (some .boolean) (lv + 2)) (F : Nat) (r_readOne : ST → Int32 → Option (Int32 × ST)) (h_readOne : ∀ (S : ST) (x1 : Int32), MetS yX1_readOne cX1_readOne 3 (some .boolean) lv layC (r_readOne S x1) S (fun ad => [.ref (ad 3), .int x1])) (S : ST) (x1 : Int32) : G E (fX1_readBothP F r_readOne S x1) S 0 [(0, .ref (eA E 3)), (1, .int x1)] [] := by
  unfold fX1_readBothP
  refine r_aload_n X 0 rfl dX1_readBoth_0 ?_
  refine r_iload_n X 1 rfl dX1_readBoth_1 ?_
  refine r_callV X (h_readOne _ _) mk_X1_readOne lk_X1_77 lc_3 rfl rfl (by omega) (by decide) (Nat.le_of_ble_eq_true rfl) rfl dX1_readBoth_2 (fun q2 _ => ?_)
  refine r_if_ne (tgt := 10) X dX1_readBoth_5 (by decide) (fun _ => ?_) (fun _ => ?_)
  · refine r_iconst (v := 0) X (by decide) dX1_readBoth_10 ?_
    refine r_istore_n (lv' := [(0, _), (1, _), (2, _)]) X (by decide) rfl dX1_readBoth_11 ?_
    exact gX1_readBothP_12 X F r_readOne h_readOne F _ _ _
  · refine r_iconst (v := 0) X (by decide) dX1_readBoth_8 ?_
    exact r_zret X (by decide) dX1_readBoth_9
theorem mX1_readBothP {lv : Nat} (F : Nat) (r_readOne : ST → Int32 → Option (Int32 × ST)) (h_readOne : ∀ (S : ST) (x1 : Int32), MetS yX1_readOne cX1_readOne 3 (some .boolean) lv layC (r_readOne S x1) S (fun ad => [.ref (ad 3), .int x1])) (S : ST) (x1 : Int32) : MetS yX1_readBoth cX1_readBoth 3 (some .boolean) (lv + 2) layC (fX1_readBothP F r_readOne S x1) S (fun ad => [.ref (ad 3), .int x1]) := mk_met (fun ad => [(0, .ref (ad 3)), (1, .int x1)]) (by decide) (fun _ => Nat.le_of_ble_eq_true rfl) (fun _ => rfl) (fun E X => gX1_readBothP X F r_readOne h_readOne S x1)
def fX1_readEitherP_23 (F : Nat) (r_readBoth : ST → Int32 → Option (Int32 × ST)) : Nat → ST → Int32 → Int32 → Option (Int32 × ST)
  | 0, _, _, _ => none
  | n + 1, S, x1, x2 =>
  if (60 : Int32) ≤ x2 then
    (some ((1 : Int32), S))
  else
    (if (S.1 3 4) = (-8 : Int32) then
      ((fX1_advance F S).bind (fun q39 => (r_readBoth q39.2 x1).bind (fun q44 => if q44.1 = 0 then
        (some ((0 : Int32), q44.2))
      else
        ((fX2_emit F q44.2 (-8 : Int32)).bind (fun q58 => fX1_readEitherP_23 F r_readBoth n q58.2 x1 (x2 + (1 : Int32)))))))
    else
      (some ((1 : Int32), S)))
set_option maxRecDepth 4000 in
theorem gX1_readEitherP_23 {E : CT} {lv : Nat} (X : Cx E layC cX1_readEither RX1 3 (some .boolean) (lv + 2)) (F : Nat) (r_readBoth : ST → Int32 → Option (Int32 × ST)) (h_readBoth : ∀ (S : ST) (x1 : Int32), MetS yX1_readBoth cX1_readBoth 3 (some .boolean) lv layC (r_readBoth S x1) S (fun ad => [.ref (ad 3), .int x1])) : ∀ (n : Nat) (S : ST) (x1 : Int32) (x2 : Int32), G E (fX1_readEitherP_23 F r_readBoth n S x1 x2) S 23 [(0, .ref (eA E 3)), (1, .int x1), (2, .int x2)] []
  | 0, _, _, _ => r_none
  | n + 1, S, x1, x2 => by
    have ih := gX1_readEitherP_23 X F r_readBoth h_readBoth n
    unfold fX1_readEitherP_23
    refine r_iload_n X 2 rfl dX1_readEither_23 ?_
    refine r_bipush (v := 60) X (by decide) dX1_readEither_24 ?_
    refine r_icmp_ge (tgt := 67) X dX1_readEither_26 (by decide) (fun _ => ?_) (fun _ => ?_)
    · refine r_iconst (v := 1) X (by decide) dX1_readEither_67 ?_
      exact r_zret X (by decide) dX1_readEither_68
    · refine r_aload_n X 0 rfl dX1_readEither_29 ?_
      refine r_getI X fk_X1_45 lc_3 rfl dX1_readEither_30 ?_
      refine r_bipush (v := -8) X (by decide) dX1_readEither_33 ?_
      refine r_icmp_ne (tgt := 67) X dX1_readEither_35 (by decide) (fun _ => ?_) (fun _ => ?_)
      · refine r_iconst (v := 1) X (by decide) dX1_readEither_67 ?_
        exact r_zret X (by decide) dX1_readEither_68
      · refine r_aload_n X 0 rfl dX1_readEither_38 ?_
        refine r_callVv X (mX1_advance _ _) mk_X1_advance lk_X1_42 lc_3 rfl rfl (by omega) (by decide) (Nat.le_of_ble_eq_true rfl) rfl dX1_readEither_39 (fun q39 _ => ?_)
        refine r_aload_n X 0 rfl dX1_readEither_42 ?_
        refine r_iload_n X 1 rfl dX1_readEither_43 ?_
        refine r_callV X (h_readBoth _ _) mk_X1_readBoth lk_X1_70 lc_3 rfl rfl (by omega) (by decide) (Nat.le_of_ble_eq_true rfl) rfl dX1_readEither_44 (fun q44 _ => ?_)
        refine r_if_ne (tgt := 52) X dX1_readEither_47 (by decide) (fun _ => ?_) (fun _ => ?_)
        · refine r_aload_n X 0 rfl dX1_readEither_52 ?_
          refine r_getR X fk_X1_21 lc_3 rfl dX1_readEither_53 ?_
          refine r_bipush (v := -8) X (by decide) dX1_readEither_56 ?_
          refine r_callVv X (mX2_emit _ _ _) mk_X2_emit lk_X1_73 lc_5 rfl rfl (by omega) (by decide) (Nat.le_of_ble_eq_true rfl) rfl dX1_readEither_58 (fun q58 _ => ?_)
          refine r_iinc (lv' := [(0, _), (1, _), (2, _)]) (dl := 1) X 2 rfl (by decide) (by decide) rfl dX1_readEither_61 ?_
          refine r_goto (tgt := 23) X dX1_readEither_64 (by decide) ?_
          exact ih _ _ _
        · refine r_iconst (v := 0) X (by decide) dX1_readEither_50 ?_
          exact r_zret X (by decide) dX1_readEither_51
def fX1_readEitherP (F : Nat) (r_readBoth : ST → Int32 → Option (Int32 × ST)) (S : ST) (x1 : Int32) : Option (Int32 × ST) :=
  if x1 < (6 : Int32) then
    ((r_readBoth S x1).bind (fun q13 => if q13.1 = 0 then
      (some ((0 : Int32), q13.2))
    else
      (fX1_readEitherP_23 F r_readBoth F q13.2 x1 (0 : Int32))))
  else
    ((fX1_refuse F S).bind (fun q7 => if q7.1 &&& 1 = q7.1 then some (q7.1, q7.2) else none))
set_option maxRecDepth 4000 in
theorem gX1_readEitherP {E : CT} {lv : Nat} (X : Cx E layC cX1_readEither RX1 3 (some .boolean) (lv + 2)) (F : Nat) (r_readBoth : ST → Int32 → Option (Int32 × ST)) (h_readBoth : ∀ (S : ST) (x1 : Int32), MetS yX1_readBoth cX1_readBoth 3 (some .boolean) lv layC (r_readBoth S x1) S (fun ad => [.ref (ad 3), .int x1])) (S : ST) (x1 : Int32) : G E (fX1_readEitherP F r_readBoth S x1) S 0 [(0, .ref (eA E 3)), (1, .int x1)] [] := by
  unfold fX1_readEitherP
  refine r_iload_n X 1 rfl dX1_readEither_0 ?_
  refine r_bipush (v := 6) X (by decide) dX1_readEither_1 ?_
  refine r_icmp_lt (tgt := 11) X dX1_readEither_3 (by decide) (fun _ => ?_) (fun _ => ?_)
  · refine r_aload_n X 0 rfl dX1_readEither_11 ?_
    refine r_iload_n X 1 rfl dX1_readEither_12 ?_
    refine r_callV X (h_readBoth _ _) mk_X1_readBoth lk_X1_70 lc_3 rfl rfl (by omega) (by decide) (Nat.le_of_ble_eq_true rfl) rfl dX1_readEither_13 (fun q13 _ => ?_)
    refine r_if_ne (tgt := 21) X dX1_readEither_16 (by decide) (fun _ => ?_) (fun _ => ?_)
    · refine r_iconst (v := 0) X (by decide) dX1_readEither_21 ?_
      refine r_istore_n (lv' := [(0, _), (1, _), (2, _)]) X (by decide) rfl dX1_readEither_22 ?_
      exact gX1_readEitherP_23 X F r_readBoth h_readBoth F _ _ _
    · refine r_iconst (v := 0) X (by decide) dX1_readEither_19 ?_
      exact r_zret X (by decide) dX1_readEither_20
  · refine r_aload_n X 0 rfl dX1_readEither_6 ?_
    refine r_callV X (mX1_refuse _ _) mk_X1_refuse lk_X1_52 lc_3 rfl rfl (by omega) (by decide) (Nat.le_of_ble_eq_true rfl) rfl dX1_readEither_7 (fun q7 _ => ?_)
    exact r_zretC X dX1_readEither_10
theorem mX1_readEitherP {lv : Nat} (F : Nat) (r_readBoth : ST → Int32 → Option (Int32 × ST)) (h_readBoth : ∀ (S : ST) (x1 : Int32), MetS yX1_readBoth cX1_readBoth 3 (some .boolean) lv layC (r_readBoth S x1) S (fun ad => [.ref (ad 3), .int x1])) (S : ST) (x1 : Int32) : MetS yX1_readEither cX1_readEither 3 (some .boolean) (lv + 2) layC (fX1_readEitherP F r_readBoth S x1) S (fun ad => [.ref (ad 3), .int x1]) := mk_met (fun ad => [(0, .ref (ad 3)), (1, .int x1)]) (by decide) (fun _ => Nat.le_of_ble_eq_true rfl) (fun _ => rfl) (fun E X => gX1_readEitherP X F r_readBoth h_readBoth S x1)
def fX1_oneD (F : Nat) : Nat → ST → Int32 → Option (Int32 × ST)
  | 0, _, _ => none
  | d + 1, S, x1 => fX1_readOneP F (fX1_readEitherP F (fX1_readBothP F (fX1_oneD F d))) (fX1_oneD F d) S x1
def lvB : Nat → Nat
  | 0 => 0
  | d + 1 => lvB d + 7
theorem mX1_oneD (F : Nat) : ∀ (d k : Nat) (S : ST) (x1 : Int32), MetS yX1_readOne cX1_readOne 3 (some .boolean) (lvB d + k) layC (fX1_oneD F d S x1) S (fun ad => [.ref (ad 3), .int x1])
  | 0, _, _, _ => fun _ _ _ _ _ _ _ h => by cases h
  | d + 1, k, S, x1 => by
    have h1 := mX1_oneD F d
    have e1 : lvB (d + 1) + k = (lvB d + (4 + k)) + 3 := by show lvB d + 7 + k = _; omega
    rw [e1]
    refine mX1_readOneP F _ _ (fun S x1 => ?_) (h1 (4 + k)) S x1
    have e2 : lvB d + (4 + k) = (lvB d + k) + 2 + 2 := by omega
    rw [e2]
    exact mX1_readEitherP F _ (fun S x1 => mX1_readBothP F _ (h1 k) S x1) S x1
def fX1_readEither (F : Nat) (S : ST) (x1 : Int32) : Option (Int32 × ST) := fX1_readEitherP F (fX1_readBothP F (fX1_oneD F 8)) S x1
theorem mX1_readEither (F : Nat) (S : ST) (x1 : Int32) : MetS yX1_readEither cX1_readEither 3 (some .boolean) 60 layC (fX1_readEither F S x1) S (fun ad => [.ref (ad 3), .int x1]) := mX1_readEitherP (lv := 58) F _ (fun S x1 => mX1_readBothP (lv := 56) F _ (mX1_oneD F 8 0) S x1) S x1
def fX1_readLine_78 (F : Nat) (S : ST) (x1 : Int32) (x2 : Int32) : Option (Int32 × ST) :=
  (fX1_readToken F S (-16 : Int32)).bind (fun q81 => if q81.1 = 0 then
    (some ((0 : Int32), q81.2))
  else
    ((fX2_addLine F q81.2 x1 x2).bind (fun q95 => some ((1 : Int32), q95.2))))
set_option maxRecDepth 4000 in
theorem gX1_readLine_78 {E : CT} (X : Cx E layC cX1_readLine RX1 3 (some .boolean) 61) (F : Nat) (S : ST) (x1 : Int32) (x2 : Int32) : G E (fX1_readLine_78 F S x1 x2) S 78 [(0, .ref (eA E 3)), (1, .int x1), (2, .int x2)] [] := by
  unfold fX1_readLine_78
  refine r_aload_n X 0 rfl dX1_readLine_78 ?_
  refine r_bipush (v := -16) X (by decide) dX1_readLine_79 ?_
  refine r_callV X (mX1_readToken _ _ _) mk_X1_readToken lk_X1_55 lc_3 rfl rfl (by decide) (by decide) (Nat.le_of_ble_eq_true rfl) rfl dX1_readLine_81 (fun q81 _ => ?_)
  refine r_if_ne (tgt := 89) X dX1_readLine_84 (by decide) (fun _ => ?_) (fun _ => ?_)
  · refine r_aload_n X 0 rfl dX1_readLine_89 ?_
    refine r_getR X fk_X1_21 lc_3 rfl dX1_readLine_90 ?_
    refine r_iload_n X 1 rfl dX1_readLine_93 ?_
    refine r_iload_n X 2 rfl dX1_readLine_94 ?_
    refine r_callVv X (mX2_addLine _ _ _ _) mk_X2_addLine lk_X1_66 lc_5 rfl rfl (by decide) (by decide) (Nat.le_of_ble_eq_true rfl) rfl dX1_readLine_95 (fun q95 _ => ?_)
    refine r_iconst (v := 1) X (by decide) dX1_readLine_98 ?_
    exact r_zret X (by decide) dX1_readLine_99
  · refine r_iconst (v := 0) X (by decide) dX1_readLine_87 ?_
    exact r_zret X (by decide) dX1_readLine_88
def fX1_readLine (F : Nat) (S : ST) : Option (Int32 × ST) :=
  (fX1_readToken F S (-17 : Int32)).bind (fun q3 => if q3.1 = 0 then
    (some ((0 : Int32), q3.2))
  else
    (bindI ((q3.2.1 3 4)) (fun v15 => (fX1_readNumber F q3.2 (1 : Int32) (100 : Int32)).bind (fun q20 => if q20.1 = 0 then
      (some ((0 : Int32), q20.2))
    else
      ((fX1_readToken F q20.2 (-18 : Int32)).bind (fun q29 => if q29.1 = 0 then
        (some ((0 : Int32), q29.2))
      else
        (bindI ((q29.2.1 3 4)) (fun v41 => (fX1_readNumber F q29.2 (1 : Int32) (9999 : Int32)).bind (fun q47 => if q47.1 = 0 then
          (some ((0 : Int32), q47.2))
        else
          (if (q47.2.1 3 4) = (-19 : Int32) then
            ((fX1_advance F q47.2).bind (fun q65 => (fX1_readEither F q65.2 (0 : Int32)).bind (fun q70 => if q70.1 = 0 then
              (some ((0 : Int32), q70.2))
            else
              (fX1_readLine_78 F q70.2 v15 v41))))
          else
            (fX1_readLine_78 F q47.2 v15 v41)))))))))))
set_option maxRecDepth 4000 in
theorem gX1_readLine {E : CT} (X : Cx E layC cX1_readLine RX1 3 (some .boolean) 61) (F : Nat) (S : ST) : G E (fX1_readLine F S) S 0 [(0, .ref (eA E 3))] [] := by
  unfold fX1_readLine
  refine r_aload_n X 0 rfl dX1_readLine_0 ?_
  refine r_bipush (v := -17) X (by decide) dX1_readLine_1 ?_
  refine r_callV X (mX1_readToken _ _ _) mk_X1_readToken lk_X1_55 lc_3 rfl rfl (by decide) (by decide) (Nat.le_of_ble_eq_true rfl) rfl dX1_readLine_3 (fun q3 _ => ?_)
  refine r_if_ne (tgt := 11) X dX1_readLine_6 (by decide) (fun _ => ?_) (fun _ => ?_)
  · refine r_aload_n X 0 rfl dX1_readLine_11 ?_
    refine r_getI X fk_X1_45 lc_3 rfl dX1_readLine_12 ?_
    refine r_bindI (fun v15 => ?_)
    refine r_istore_n (lv' := [(0, _), (1, _)]) X (by decide) rfl dX1_readLine_15 ?_
    refine r_aload_n X 0 rfl dX1_readLine_16 ?_
    refine r_iconst (v := 1) X (by decide) dX1_readLine_17 ?_
    refine r_bipush (v := 100) X (by decide) dX1_readLine_18 ?_
    refine r_callV X (mX1_readNumber _ _ _ _) mk_X1_readNumber lk_X1_59 lc_3 rfl rfl (by decide) (by decide) (Nat.le_of_ble_eq_true rfl) rfl dX1_readLine_20 (fun q20 _ => ?_)
    refine r_if_eq (tgt := 35) X dX1_readLine_23 (by decide) (fun _ => ?_) (fun _ => ?_)
    · refine r_iconst (v := 0) X (by decide) dX1_readLine_35 ?_
      exact r_zret X (by decide) dX1_readLine_36
    · refine r_aload_n X 0 rfl dX1_readLine_26 ?_
      refine r_bipush (v := -18) X (by decide) dX1_readLine_27 ?_
      refine r_callV X (mX1_readToken _ _ _) mk_X1_readToken lk_X1_55 lc_3 rfl rfl (by decide) (by decide) (Nat.le_of_ble_eq_true rfl) rfl dX1_readLine_29 (fun q29 _ => ?_)
      refine r_if_ne (tgt := 37) X dX1_readLine_32 (by decide) (fun _ => ?_) (fun _ => ?_)
      · refine r_aload_n X 0 rfl dX1_readLine_37 ?_
        refine r_getI X fk_X1_45 lc_3 rfl dX1_readLine_38 ?_
        refine r_bindI (fun v41 => ?_)
        refine r_istore_n (lv' := [(0, _), (1, _), (2, _)]) X (by decide) rfl dX1_readLine_41 ?_
        refine r_aload_n X 0 rfl dX1_readLine_42 ?_
        refine r_iconst (v := 1) X (by decide) dX1_readLine_43 ?_
        refine r_sipush (v := 9999) X (by decide) dX1_readLine_44 ?_
        refine r_callV X (mX1_readNumber _ _ _ _) mk_X1_readNumber lk_X1_59 lc_3 rfl rfl (by decide) (by decide) (Nat.le_of_ble_eq_true rfl) rfl dX1_readLine_47 (fun q47 _ => ?_)
        refine r_if_ne (tgt := 55) X dX1_readLine_50 (by decide) (fun _ => ?_) (fun _ => ?_)
        · refine r_aload_n X 0 rfl dX1_readLine_55 ?_
          refine r_getI X fk_X1_45 lc_3 rfl dX1_readLine_56 ?_
          refine r_bipush (v := -19) X (by decide) dX1_readLine_59 ?_
          refine r_icmp_ne (tgt := 78) X dX1_readLine_61 (by decide) (fun _ => ?_) (fun _ => ?_)
          · exact gX1_readLine_78 X F _ _ _
          · refine r_aload_n X 0 rfl dX1_readLine_64 ?_
            refine r_callVv X (mX1_advance _ _) mk_X1_advance lk_X1_42 lc_3 rfl rfl (by decide) (by decide) (Nat.le_of_ble_eq_true rfl) rfl dX1_readLine_65 (fun q65 _ => ?_)
            refine r_aload_n X 0 rfl dX1_readLine_68 ?_
            refine r_iconst (v := 0) X (by decide) dX1_readLine_69 ?_
            refine r_callV X (mX1_readEither _ _ _) mk_X1_readEither lk_X1_63 lc_3 rfl rfl (by decide) (by decide) (Nat.le_of_ble_eq_true rfl) rfl dX1_readLine_70 (fun q70 _ => ?_)
            refine r_if_ne (tgt := 78) X dX1_readLine_73 (by decide) (fun _ => ?_) (fun _ => ?_)
            · exact gX1_readLine_78 X F _ _ _
            · refine r_iconst (v := 0) X (by decide) dX1_readLine_76 ?_
              exact r_zret X (by decide) dX1_readLine_77
        · refine r_iconst (v := 0) X (by decide) dX1_readLine_53 ?_
          exact r_zret X (by decide) dX1_readLine_54
      · refine r_iconst (v := 0) X (by decide) dX1_readLine_35 ?_
        exact r_zret X (by decide) dX1_readLine_36
  · refine r_iconst (v := 0) X (by decide) dX1_readLine_9 ?_
    exact r_zret X (by decide) dX1_readLine_10
theorem mX1_readLine (F : Nat) (S : ST) : MetS yX1_readLine cX1_readLine 3 (some .boolean) 61 layC (fX1_readLine F S) S (fun ad => [.ref (ad 3)]) := mk_met (fun ad => [(0, .ref (ad 3))]) (by decide) (fun _ => Nat.le_of_ble_eq_true rfl) (fun _ => rfl) (fun E X => gX1_readLine X F S)
def fX1_readLines_66 (F : Nat) (S : ST) : Option (Int32 × ST) :=
  if (S.1 3 4) = (-22 : Int32) then
    (some ((1 : Int32), S))
  else
    ((fX1_refuse F S).bind (fun q76 => if q76.1 = 0 then
      (some ((0 : Int32), q76.2))
    else
      (some ((1 : Int32), q76.2))))
set_option maxRecDepth 4000 in
theorem gX1_readLines_66 {E : CT} (X : Cx E layC cX1_readLines RX1 3 (some .boolean) 62) (F : Nat) (S : ST) : G E (fX1_readLines_66 F S) S 66 [(0, .ref (eA E 3))] [] := by
  unfold fX1_readLines_66
  refine r_aload_n X 0 rfl dX1_readLines_66 ?_
  refine r_getI X fk_X1_45 lc_3 rfl dX1_readLines_67 ?_
  refine r_bipush (v := -22) X (by decide) dX1_readLines_70 ?_
  refine r_icmp_eq (tgt := 82) X dX1_readLines_72 (by decide) (fun _ => ?_) (fun _ => ?_)
  · refine r_iconst (v := 1) X (by decide) dX1_readLines_82 ?_
    refine r_goto (tgt := 87) X dX1_readLines_83 (by decide) ?_
    exact r_zret X (by decide) dX1_readLines_87
  · refine r_aload_n X 0 rfl dX1_readLines_75 ?_
    refine r_callV X (mX1_refuse _ _) mk_X1_refuse lk_X1_52 lc_3 rfl rfl (by decide) (by decide) (Nat.le_of_ble_eq_true rfl) rfl dX1_readLines_76 (fun q76 _ => ?_)
    refine r_if_eq (tgt := 86) X dX1_readLines_79 (by decide) (fun _ => ?_) (fun _ => ?_)
    · refine r_iconst (v := 0) X (by decide) dX1_readLines_86 ?_
      exact r_zret X (by decide) dX1_readLines_87
    · refine r_iconst (v := 1) X (by decide) dX1_readLines_82 ?_
      refine r_goto (tgt := 87) X dX1_readLines_83 (by decide) ?_
      exact r_zret X (by decide) dX1_readLines_87
def fX1_readLines_36 (F : Nat) : Nat → ST → Int32 → Option (Int32 × ST)
  | 0, _, _ => none
  | n + 1, S, x2 =>
  if (8 : Int32) ≤ x2 then
    (fX1_readLines_66 F S)
  else
    (if (S.1 3 4) = (-22 : Int32) then
      (fX1_readLines_66 F S)
    else
      ((fX1_readLine F S).bind (fun q52 => if q52.1 = 0 then
        (some ((0 : Int32), q52.2))
      else
        (fX1_readLines_36 F n q52.2 (x2 + (1 : Int32))))))
set_option maxRecDepth 4000 in
theorem gX1_readLines_36 {E : CT} (X : Cx E layC cX1_readLines RX1 3 (some .boolean) 62) (F : Nat) : ∀ (n : Nat) (S : ST) (x2 : Int32), G E (fX1_readLines_36 F n S x2) S 36 [(0, .ref (eA E 3)), (2, .int x2)] []
  | 0, _, _ => r_none
  | n + 1, S, x2 => by
    have ih := gX1_readLines_36 X F n
    unfold fX1_readLines_36
    refine r_iload_n X 1 rfl dX1_readLines_36 ?_
    refine r_bipush (v := 8) X (by decide) dX1_readLines_37 ?_
    refine r_icmp_ge (tgt := 66) X dX1_readLines_39 (by decide) (fun _ => ?_) (fun _ => ?_)
    · refine r_sub [0] rfl ?_
      exact gX1_readLines_66 X F _
    · refine r_aload_n X 0 rfl dX1_readLines_42 ?_
      refine r_getI X fk_X1_45 lc_3 rfl dX1_readLines_43 ?_
      refine r_bipush (v := -22) X (by decide) dX1_readLines_46 ?_
      refine r_icmp_eq (tgt := 66) X dX1_readLines_48 (by decide) (fun _ => ?_) (fun _ => ?_)
      · refine r_sub [0] rfl ?_
        exact gX1_readLines_66 X F _
      · refine r_aload_n X 0 rfl dX1_readLines_51 ?_
        refine r_callV X (mX1_readLine _ _) mk_X1_readLine lk_X1_48 lc_3 rfl rfl (by decide) (by decide) (Nat.le_of_ble_eq_true rfl) rfl dX1_readLines_52 (fun q52 _ => ?_)
        refine r_if_ne (tgt := 60) X dX1_readLines_55 (by decide) (fun _ => ?_) (fun _ => ?_)
        · refine r_iinc (lv' := [(0, _), (2, _)]) (dl := 1) X 1 rfl (by decide) (by decide) rfl dX1_readLines_60 ?_
          refine r_goto (tgt := 36) X dX1_readLines_63 (by decide) ?_
          exact ih _ _
        · refine r_iconst (v := 0) X (by decide) dX1_readLines_58 ?_
          exact r_zret X (by decide) dX1_readLines_59
def fX1_readLines (F : Nat) (S : ST) : Option (Int32 × ST) :=
  (fX8_split F S).bind (fun q5 => (fX2_clear F q5.2).bind (fun q12 => bindS (us q12.2 3 2 (0 : Int32)) (fun S17 => bindS (us S17 3 5 (0 : Int32)) (fun S22 => bindS (us S22 3 3 (-1 : Int32)) (fun S27 => (fX1_advance F S27).bind (fun q31 => fX1_readLines_36 F F q31.2 (0 : Int32)))))))
set_option maxRecDepth 4000 in
theorem gX1_readLines {E : CT} (X : Cx E layC cX1_readLines RX1 3 (some .boolean) 62) (F : Nat) (S : ST) : G E (fX1_readLines F S) S 0 [(0, .ref (eA E 3)), (1, .ref (eA E 2))] [] := by
  unfold fX1_readLines
  refine r_aload_n X 0 rfl dX1_readLines_0 ?_
  refine r_getR X fk_X1_12 lc_3 rfl dX1_readLines_1 ?_
  refine r_aload_n X 1 rfl dX1_readLines_4 ?_
  refine r_callVv X (mX8_split _ _) mk_X8_split lk_X1_29 lc_4 rfl rfl (by decide) (by decide) (Nat.le_of_ble_eq_true rfl) rfl dX1_readLines_5 (fun q5 _ => ?_)
  refine r_aload_n X 0 rfl dX1_readLines_8 ?_
  refine r_getR X fk_X1_21 lc_3 rfl dX1_readLines_9 ?_
  refine r_callVv X (mX2_clear _ _) mk_X2_clear lk_X1_33 lc_5 rfl rfl (by decide) (by decide) (Nat.le_of_ble_eq_true rfl) rfl dX1_readLines_12 (fun q12 _ => ?_)
  refine r_aload_n X 0 rfl dX1_readLines_15 ?_
  refine r_iconst (v := 0) X (by decide) dX1_readLines_16 ?_
  refine r_putI X pk_X1_25 lc_3 rfl dX1_readLines_17 ?_
  refine r_bindS (fun S17 => ?_)
  refine r_aload_n X 0 rfl dX1_readLines_20 ?_
  refine r_iconst (v := 0) X (by decide) dX1_readLines_21 ?_
  refine r_putI X pk_X1_36 lc_3 rfl dX1_readLines_22 ?_
  refine r_bindS (fun S22 => ?_)
  refine r_aload_n X 0 rfl dX1_readLines_25 ?_
  refine r_iconst (v := -1) X (by decide) dX1_readLines_26 ?_
  refine r_putI X pk_X1_39 lc_3 rfl dX1_readLines_27 ?_
  refine r_bindS (fun S27 => ?_)
  refine r_aload_n X 0 rfl dX1_readLines_30 ?_
  refine r_callVv X (mX1_advance _ _) mk_X1_advance lk_X1_42 lc_3 rfl rfl (by decide) (by decide) (Nat.le_of_ble_eq_true rfl) rfl dX1_readLines_31 (fun q31 _ => ?_)
  refine r_iconst (v := 0) X (by decide) dX1_readLines_34 ?_
  refine r_istore_n (lv' := [(0, _), (1, _), (2, _)]) X (by decide) rfl dX1_readLines_35 ?_
  refine r_sub [0, 2] rfl ?_
  exact gX1_readLines_36 X F F _ _
theorem mX1_readLines (F : Nat) (S : ST) : MetS yX1_readLines cX1_readLines 3 (some .boolean) 62 layC (fX1_readLines F S) S (fun ad => [.ref (ad 3), .ref (ad 2)]) := mk_met (fun ad => [(0, .ref (ad 3)), (1, .ref (ad 2))]) (by decide) (fun _ => Nat.le_of_ble_eq_true rfl) (fun _ => rfl) (fun E X => gX1_readLines X F S)
