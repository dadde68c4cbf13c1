def fX2_widthOf_19 (F : Nat) (S : ST) : Option (Int32 × ST) :=
  some ((0 : Int32), S)
set_option maxRecDepth 4000 in
theorem gX2_widthOf_19 {E : CT} (X : Cx E layC cX2_widthOf RX2 2 (some .int) 0) (F : Nat) (S : ST) : G E (fX2_widthOf_19 F S) S 19 [] [] := by
  unfold fX2_widthOf_19
  refine r_iconst (v := 0) X (by decide) dX2_widthOf_19 ?_
  exact r_iret X dX2_widthOf_20
def fX2_widthOf (F : Nat) (S : ST) (x1 : Int32) : Option (Int32 × ST) :=
  if x1 < 0 then
    (fX2_widthOf_19 F S)
  else
    (if (8 : Int32) ≤ x1 then
      (fX2_widthOf_19 F S)
    else
      ((if vin x1 8 = true then some ((S.1 21 (ix x1)), S) else none)))
set_option maxRecDepth 4000 in
theorem gX2_widthOf {E : CT} (X : Cx E layC cX2_widthOf RX2 2 (some .int) 0) (F : Nat) (S : ST) (x1 : Int32) : G E (fX2_widthOf F S x1) S 0 [(0, .ref (eA E 6)), (1, .int x1)] [] := by
  unfold fX2_widthOf
  refine r_iload_n X 1 rfl dX2_widthOf_0 ?_
  refine r_if_lt (tgt := 19) X dX2_widthOf_1 (by decide) (fun _ => ?_) (fun _ => ?_)
  · refine r_sub [] rfl ?_
    exact gX2_widthOf_19 X F _
  · refine r_iload_n X 1 rfl dX2_widthOf_4 ?_
    refine r_bipush (v := 8) X (by decide) dX2_widthOf_5 ?_
    refine r_icmp_ge (tgt := 19) X dX2_widthOf_7 (by decide) (fun _ => ?_) (fun _ => ?_)
    · refine r_sub [] rfl ?_
      exact gX2_widthOf_19 X F _
    · refine r_aload_n X 0 rfl dX2_widthOf_10 ?_
      refine r_getR X fk_X2_13 lc_6 rfl dX2_widthOf_11 ?_
      refine r_iload_n X 1 rfl dX2_widthOf_14 ?_
      refine r_iald X lc_21 dX2_widthOf_15 (fun _ => ?_)
      refine r_goto (tgt := 20) X dX2_widthOf_16 (by decide) ?_
      exact r_iret X dX2_widthOf_20
theorem mX2_widthOf (F : Nat) (S : ST) (x1 : Int32) : MetS yX2_widthOf cX2_widthOf 2 (some .int) 0 layC (fX2_widthOf F S x1) S (fun ad => [.ref (ad 6), .int x1]) := mk_met (fun ad => [(0, .ref (ad 6)), (1, .int x1)]) (by decide) (fun _ => Nat.le_of_ble_eq_true rfl) (fun _ => rfl) (fun E X => gX2_widthOf X F S x1)
def fX2_codeEndOf_19 (F : Nat) (S : ST) : Option (Int32 × ST) :=
  some ((0 : Int32), S)
set_option maxRecDepth 4000 in
theorem gX2_codeEndOf_19 {E : CT} (X : Cx E layC cX2_codeEndOf RX2 2 (some .int) 0) (F : Nat) (S : ST) : G E (fX2_codeEndOf_19 F S) S 19 [] [] := by
  unfold fX2_codeEndOf_19
  refine r_iconst (v := 0) X (by decide) dX2_codeEndOf_19 ?_
  exact r_iret X dX2_codeEndOf_20
def fX2_codeEndOf (F : Nat) (S : ST) (x1 : Int32) : Option (Int32 × ST) :=
  if x1 < 0 then
    (fX2_codeEndOf_19 F S)
  else
    (if (8 : Int32) ≤ x1 then
      (fX2_codeEndOf_19 F S)
    else
      ((if vin x1 8 = true then some ((S.1 23 (ix x1)), S) else none)))
set_option maxRecDepth 4000 in
theorem gX2_codeEndOf {E : CT} (X : Cx E layC cX2_codeEndOf RX2 2 (some .int) 0) (F : Nat) (S : ST) (x1 : Int32) : G E (fX2_codeEndOf F S x1) S 0 [(0, .ref (eA E 6)), (1, .int x1)] [] := by
  unfold fX2_codeEndOf
  refine r_iload_n X 1 rfl dX2_codeEndOf_0 ?_
  refine r_if_lt (tgt := 19) X dX2_codeEndOf_1 (by decide) (fun _ => ?_) (fun _ => ?_)
  · refine r_sub [] rfl ?_
    exact gX2_codeEndOf_19 X F _
  · refine r_iload_n X 1 rfl dX2_codeEndOf_4 ?_
    refine r_bipush (v := 8) X (by decide) dX2_codeEndOf_5 ?_
    refine r_icmp_ge (tgt := 19) X dX2_codeEndOf_7 (by decide) (fun _ => ?_) (fun _ => ?_)
    · refine r_sub [] rfl ?_
      exact gX2_codeEndOf_19 X F _
    · refine r_aload_n X 0 rfl dX2_codeEndOf_10 ?_
      refine r_getR X fk_X2_20 lc_6 rfl dX2_codeEndOf_11 ?_
      refine r_iload_n X 1 rfl dX2_codeEndOf_14 ?_
      refine r_iald X lc_23 dX2_codeEndOf_15 (fun _ => ?_)
      refine r_goto (tgt := 20) X dX2_codeEndOf_16 (by decide) ?_
      exact r_iret X dX2_codeEndOf_20
theorem mX2_codeEndOf (F : Nat) (S : ST) (x1 : Int32) : MetS yX2_codeEndOf cX2_codeEndOf 2 (some .int) 0 layC (fX2_codeEndOf F S x1) S (fun ad => [.ref (ad 6), .int x1]) := mk_met (fun ad => [(0, .ref (ad 6)), (1, .int x1)]) (by decide) (fun _ => Nat.le_of_ble_eq_true rfl) (fun _ => rfl) (fun E X => gX2_codeEndOf X F S x1)
def fX2_joined (F : Nat) (S : ST) (x0 : Int32) (x1 : Int32) (x2 : Int32) : Option (Int32 × ST) :=
  (if x0 = (-13 : Int32) then
    (some ((x1 - x2), S))
  else (if x0 = (-12 : Int32) then
    (some ((x1 + x2), S))
  else (if x0 = (-11 : Int32) then
    (if x1 = x2 then
      (some ((1 : Int32), S))
    else
      (some ((0 : Int32), S)))
  else (if x0 = (-10 : Int32) then
    (if x1 ≤ x2 then
      (some ((0 : Int32), S))
    else
      (some ((1 : Int32), S)))
  else (if x0 = (-9 : Int32) then
    (if x2 ≤ x1 then
      (some ((0 : Int32), S))
    else
      (some ((1 : Int32), S)))
  else (if x0 = (-8 : Int32) then
    (some ((x1 ||| x2), S))
  else (if x0 = (-7 : Int32) then
    (some ((x1 &&& x2), S))
  else (some ((0 : Int32), S)))))))))
set_option maxRecDepth 4000 in
theorem gX2_joined {E : CT} (X : Cx E layC cX2_joined RX2 3 (some .int) 0) (F : Nat) (S : ST) (x0 : Int32) (x1 : Int32) (x2 : Int32) : G E (fX2_joined F S x0 x1 x2) S 0 [(0, .int x0), (1, .int x1), (2, .int x2)] [] := by
  unfold fX2_joined
  refine r_iload_n X 0 rfl dX2_joined_0 ?_
  refine r_ite (fun hh0 => ?_) (fun hh0 => ?_)
  · refine r_tsIn (tgt := 89) X (-13) hh0 dX2_joined_1 (by decide) (by decide) rfl (by decide) ?_
    refine r_iload_n X 1 rfl dX2_joined_89 ?_
    refine r_iload_n X 2 rfl dX2_joined_90 ?_
    refine r_isub X dX2_joined_91 ?_
    exact r_iret X dX2_joined_92
  refine r_ite (fun hh1 => ?_) (fun hh1 => ?_)
  · refine r_tsIn (tgt := 85) X (-12) hh1 dX2_joined_1 (by decide) (by decide) rfl (by decide) ?_
    refine r_iload_n X 1 rfl dX2_joined_85 ?_
    refine r_iload_n X 2 rfl dX2_joined_86 ?_
    refine r_iadd X dX2_joined_87 ?_
    exact r_iret X dX2_joined_88
  refine r_ite (fun hh2 => ?_) (fun hh2 => ?_)
  · refine r_tsIn (tgt := 74) X (-11) hh2 dX2_joined_1 (by decide) (by decide) rfl (by decide) ?_
    refine r_iload_n X 1 rfl dX2_joined_74 ?_
    refine r_iload_n X 2 rfl dX2_joined_75 ?_
    refine r_icmp_ne (tgt := 83) X dX2_joined_76 (by decide) (fun _ => ?_) (fun _ => ?_)
    · refine r_iconst (v := 0) X (by decide) dX2_joined_83 ?_
      exact r_iret X dX2_joined_84
    · refine r_iconst (v := 1) X (by decide) dX2_joined_79 ?_
      refine r_goto (tgt := 84) X dX2_joined_80 (by decide) ?_
      exact r_iret X dX2_joined_84
  refine r_ite (fun hh3 => ?_) (fun hh3 => ?_)
  · refine r_tsIn (tgt := 63) X (-10) hh3 dX2_joined_1 (by decide) (by decide) rfl (by decide) ?_
    refine r_iload_n X 1 rfl dX2_joined_63 ?_
    refine r_iload_n X 2 rfl dX2_joined_64 ?_
    refine r_icmp_le (tgt := 72) X dX2_joined_65 (by decide) (fun _ => ?_) (fun _ => ?_)
    · refine r_iconst (v := 0) X (by decide) dX2_joined_72 ?_
      exact r_iret X dX2_joined_73
    · refine r_iconst (v := 1) X (by decide) dX2_joined_68 ?_
      refine r_goto (tgt := 73) X dX2_joined_69 (by decide) ?_
      exact r_iret X dX2_joined_73
  refine r_ite (fun hh4 => ?_) (fun hh4 => ?_)
  · refine r_tsIn (tgt := 52) X (-9) hh4 dX2_joined_1 (by decide) (by decide) rfl (by decide) ?_
    refine r_iload_n X 1 rfl dX2_joined_52 ?_
    refine r_iload_n X 2 rfl dX2_joined_53 ?_
    refine r_icmp_ge (tgt := 61) X dX2_joined_54 (by decide) (fun _ => ?_) (fun _ => ?_)
    · refine r_iconst (v := 0) X (by decide) dX2_joined_61 ?_
      exact r_iret X dX2_joined_62
    · refine r_iconst (v := 1) X (by decide) dX2_joined_57 ?_
      refine r_goto (tgt := 62) X dX2_joined_58 (by decide) ?_
      exact r_iret X dX2_joined_62
  refine r_ite (fun hh5 => ?_) (fun hh5 => ?_)
  · refine r_tsIn (tgt := 48) X (-8) hh5 dX2_joined_1 (by decide) (by decide) rfl (by decide) ?_
    refine r_iload_n X 1 rfl dX2_joined_48 ?_
    refine r_iload_n X 2 rfl dX2_joined_49 ?_
    refine r_ior X dX2_joined_50 ?_
    exact r_iret X dX2_joined_51
  refine r_ite (fun hh6 => ?_) (fun hh6 => ?_)
  · refine r_tsIn (tgt := 44) X (-7) hh6 dX2_joined_1 (by decide) (by decide) rfl (by decide) ?_
    refine r_iload_n X 1 rfl dX2_joined_44 ?_
    refine r_iload_n X 2 rfl dX2_joined_45 ?_
    refine r_iand X dX2_joined_46 ?_
    exact r_iret X dX2_joined_47
  refine r_tsOut (tgt := 93) X (by have a0 := lv_neT hh0 (k := -13) (a := -13) rfl; have a1 := lv_neT hh1 (k := -12) (a := -12) rfl; have a2 := lv_neT hh2 (k := -11) (a := -11) rfl; have a3 := lv_neT hh3 (k := -10) (a := -10) rfl; have a4 := lv_neT hh4 (k := -9) (a := -9) rfl; have a5 := lv_neT hh5 (k := -8) (a := -8) rfl; have a6 := lv_neT hh6 (k := -7) (a := -7) rfl; omega) dX2_joined_1 (by decide) ?_
  refine r_iconst (v := 0) X (by decide) dX2_joined_93 ?_
  exact r_iret X dX2_joined_94
theorem mX2_joined (F : Nat) (S : ST) (x0 : Int32) (x1 : Int32) (x2 : Int32) : MetS yX2_joined cX2_joined 3 (some .int) 0 layC (fX2_joined F S x0 x1 x2) S (fun ad => [.int x0, .int x1, .int x2]) := mk_met (fun ad => [(0, .int x0), (1, .int x1), (2, .int x2)]) (by decide) (fun _ => Nat.le_of_ble_eq_true rfl) (fun _ => rfl) (fun E X => gX2_joined X F S x0 x1 x2)
def fX2_pop (F : Nat) (S : ST) : Option (Int32 × ST) :=
  if (S.1 6 7) ≤ 0 then
    (some ((0 : Int32), S))
  else
    (if (S.1 6 7) ≤ (32 : Int32) then
      (bindS (us S 6 7 ((S.1 6 7) - (1 : Int32))) (fun S28 => (if vin (S28.1 6 7) 32 = true then some ((S28.1 25 (ix (S28.1 6 7))), S28) else none)))
    else
      (some ((0 : Int32), S)))
set_option maxRecDepth 4000 in
theorem gX2_pop {E : CT} (X : Cx E layC cX2_pop RX2 1 (some .int) 0) (F : Nat) (S : ST) : G E (fX2_pop F S) S 0 [(0, .ref (eA E 6))] [] := by
  unfold fX2_pop
  refine r_aload_n X 0 rfl dX2_pop_0 ?_
  refine r_getI X fk_X2_36 lc_6 rfl dX2_pop_1 ?_
  refine r_if_le (tgt := 19) X dX2_pop_4 (by decide) (fun _ => ?_) (fun _ => ?_)
  · refine r_iconst (v := 0) X (by decide) dX2_pop_19 ?_
    exact r_iret X dX2_pop_20
  · refine r_aload_n X 0 rfl dX2_pop_7 ?_
    refine r_getI X fk_X2_36 lc_6 rfl dX2_pop_8 ?_
    refine r_aload_n X 0 rfl dX2_pop_11 ?_
    refine r_getR X fk_X2_26 lc_6 rfl dX2_pop_12 ?_
    refine r_alen (v := 32) X lc_25 (by decide) dX2_pop_15 ?_
    refine r_icmp_le (tgt := 21) X dX2_pop_16 (by decide) (fun _ => ?_) (fun _ => ?_)
    · refine r_aload_n X 0 rfl dX2_pop_21 ?_
      refine r_dup X rfl dX2_pop_22 ?_
      refine r_getI X fk_X2_36 lc_6 rfl dX2_pop_23 ?_
      refine r_iconst (v := 1) X (by decide) dX2_pop_26 ?_
      refine r_isub X dX2_pop_27 ?_
      refine r_putI X pk_X2_36 lc_6 rfl dX2_pop_28 ?_
      refine r_bindS (fun S28 => ?_)
      refine r_aload_n X 0 rfl dX2_pop_31 ?_
      refine r_getR X fk_X2_26 lc_6 rfl dX2_pop_32 ?_
      refine r_aload_n X 0 rfl dX2_pop_35 ?_
      refine r_getI X fk_X2_36 lc_6 rfl dX2_pop_36 ?_
      refine r_iald X lc_25 dX2_pop_39 (fun _ => ?_)
      exact r_iret X dX2_pop_40
    · refine r_iconst (v := 0) X (by decide) dX2_pop_19 ?_
      exact r_iret X dX2_pop_20
theorem mX2_pop (F : Nat) (S : ST) : MetS yX2_pop cX2_pop 1 (some .int) 0 layC (fX2_pop F S) S (fun ad => [.ref (ad 6)]) := mk_met (fun ad => [(0, .ref (ad 6))]) (by decide) (fun _ => Nat.le_of_ble_eq_true rfl) (fun _ => rfl) (fun E X => gX2_pop X F S)
def fX2_push (F : Nat) (S : ST) (x1 : Int32) : Option (Int32 × ST) :=
  if (S.1 6 7) < 0 then
    (some ((0 : Int32), S))
  else
    (if (32 : Int32) ≤ (S.1 6 7) then
      (some ((0 : Int32), S))
    else
      ((if vin (S.1 6 7) 32 = true then bindS (us S 25 (ix (S.1 6 7)) x1) (fun S28 => bindS (us S28 6 7 ((S28.1 6 7) + (1 : Int32))) (fun S36 => some ((0 : Int32), S36))) else none)))
set_option maxRecDepth 4000 in
theorem gX2_push {E : CT} (X : Cx E layC cX2_push RX2 2 none 0) (F : Nat) (S : ST) (x1 : Int32) : G E (fX2_push F S x1) S 0 [(0, .ref (eA E 6)), (1, .int x1)] [] := by
  unfold fX2_push
  refine r_aload_n X 0 rfl dX2_push_0 ?_
  refine r_getI X fk_X2_36 lc_6 rfl dX2_push_1 ?_
  refine r_if_lt (tgt := 39) X dX2_push_4 (by decide) (fun _ => ?_) (fun _ => ?_)
  · exact r_vret X dX2_push_39
  · refine r_aload_n X 0 rfl dX2_push_7 ?_
    refine r_getI X fk_X2_36 lc_6 rfl dX2_push_8 ?_
    refine r_aload_n X 0 rfl dX2_push_11 ?_
    refine r_getR X fk_X2_26 lc_6 rfl dX2_push_12 ?_
    refine r_alen (v := 32) X lc_25 (by decide) dX2_push_15 ?_
    refine r_icmp_ge (tgt := 39) X dX2_push_16 (by decide) (fun _ => ?_) (fun _ => ?_)
    · exact r_vret X dX2_push_39
    · refine r_aload_n X 0 rfl dX2_push_19 ?_
      refine r_getR X fk_X2_26 lc_6 rfl dX2_push_20 ?_
      refine r_aload_n X 0 rfl dX2_push_23 ?_
      refine r_getI X fk_X2_36 lc_6 rfl dX2_push_24 ?_
      refine r_iload_n X 1 rfl dX2_push_27 ?_
      refine r_iast X lc_25 dX2_push_28 (fun _ => ?_)
      refine r_bindS (fun S28 => ?_)
      refine r_aload_n X 0 rfl dX2_push_29 ?_
      refine r_dup X rfl dX2_push_30 ?_
      refine r_getI X fk_X2_36 lc_6 rfl dX2_push_31 ?_
      refine r_iconst (v := 1) X (by decide) dX2_push_34 ?_
      refine r_iadd X dX2_push_35 ?_
      refine r_putI X pk_X2_36 lc_6 rfl dX2_push_36 ?_
      refine r_bindS (fun S36 => ?_)
      exact r_vret X dX2_push_39
theorem mX2_push (F : Nat) (S : ST) (x1 : Int32) : MetS yX2_push cX2_push 2 none 0 layC (fX2_push F S x1) S (fun ad => [.ref (ad 6), .int x1]) := mk_met (fun ad => [(0, .ref (ad 6)), (1, .int x1)]) (by decide) (fun _ => Nat.le_of_ble_eq_true rfl) (fun _ => rfl) (fun E X => gX2_push X F S x1)
def fX2_doStep_49 (F : Nat) (S : ST) (s0 : Int32) : Option (Int32 × ST) :=
  (fX2_push F S s0).bind (fun q49 => some ((0 : Int32), q49.2))
set_option maxRecDepth 4000 in
theorem gX2_doStep_49 {E : CT} (X : Cx E layC cX2_doStep RX2 5 none 1) (F : Nat) (S : ST) (s0 : Int32) : G E (fX2_doStep_49 F S s0) S 49 [] [.int s0, .ref (eA E 6)] := by
  unfold fX2_doStep_49
  refine r_callVv X (mX2_push _ _ _) mk_X2_push lk_X2_60 lc_6 rfl rfl (by decide) (by decide) (Nat.le_of_ble_eq_true rfl) rfl dX2_doStep_49 (fun q49 _ => ?_)
  refine r_goto (tgt := 77) X dX2_doStep_52 (by decide) ?_
  exact r_vret X dX2_doStep_77
def fX2_doStep (F : Nat) (S : ST) (x1 : Int32) : Option (Int32 × ST) :=
  if x1 < 0 then
    (if x1 < (-5 : Int32) then
      (if x1 = (-6 : Int32) then
        ((fX2_pop F S).bind (fun q38 => if q38.1 = 0 then
          (fX2_doStep_49 F q38.2 (1 : Int32))
        else
          (fX2_doStep_49 F q38.2 (0 : Int32))))
      else
        ((fX2_pop F S).bind (fun q56 => (fX2_pop F q56.2).bind (fun q61 => (fX2_joined F q61.2 x1 q61.1 q56.1).bind (fun q71 => (fX2_push F q71.2 q71.1).bind (fun q74 => some ((0 : Int32), q74.2)))))))
    else
      ((fX5_countOf F S x1).bind (fun q21 => (fX2_push F q21.2 q21.1).bind (fun q24 => some ((0 : Int32), q24.2)))))
  else
    ((fX2_push F S x1).bind (fun q6 => some ((0 : Int32), q6.2)))
set_option maxRecDepth 4000 in
theorem gX2_doStep {E : CT} (X : Cx E layC cX2_doStep RX2 5 none 1) (F : Nat) (S : ST) (x1 : Int32) : G E (fX2_doStep F S x1) S 0 [(0, .ref (eA E 6)), (1, .int x1), (2, .ref (eA E 8))] [] := by
  unfold fX2_doStep
  refine r_iload_n X 1 rfl dX2_doStep_0 ?_
  refine r_if_lt (tgt := 12) X dX2_doStep_1 (by decide) (fun _ => ?_) (fun _ => ?_)
  · refine r_iload_n X 1 rfl dX2_doStep_12 ?_
    refine r_bipush (v := -5) X (by decide) dX2_doStep_13 ?_
    refine r_icmp_lt (tgt := 30) X dX2_doStep_15 (by decide) (fun _ => ?_) (fun _ => ?_)
    · refine r_iload_n X 1 rfl dX2_doStep_30 ?_
      refine r_bipush (v := -6) X (by decide) dX2_doStep_31 ?_
      refine r_icmp_ne (tgt := 55) X dX2_doStep_33 (by decide) (fun _ => ?_) (fun _ => ?_)
      · refine r_aload_n X 0 rfl dX2_doStep_55 ?_
        refine r_callV X (mX2_pop _ _) mk_X2_pop lk_X2_56 lc_6 rfl rfl (by decide) (by decide) (Nat.le_of_ble_eq_true rfl) rfl dX2_doStep_56 (fun q56 _ => ?_)
        refine r_istore_n (lv' := [(0, _), (1, _), (2, _), (3, _)]) X (by decide) rfl dX2_doStep_59 ?_
        refine r_aload_n X 0 rfl dX2_doStep_60 ?_
        refine r_callV X (mX2_pop _ _) mk_X2_pop lk_X2_56 lc_6 rfl rfl (by decide) (by decide) (Nat.le_of_ble_eq_true rfl) rfl dX2_doStep_61 (fun q61 _ => ?_)
        refine r_istore (lv' := [(0, _), (1, _), (2, _), (3, _), (4, _)]) X (by decide) rfl dX2_doStep_64 ?_
        refine r_aload_n X 0 rfl dX2_doStep_66 ?_
        refine r_iload_n X 1 rfl dX2_doStep_67 ?_
        refine r_iload X 4 rfl dX2_doStep_68 ?_
        refine r_iload_n X 3 rfl dX2_doStep_70 ?_
        refine r_callS X (mX2_joined _ _ _ _ _) mk_X2_joined lk_X2_69 rfl (by decide) (by decide) (Nat.le_of_ble_eq_true rfl) rfl dX2_doStep_71 (fun q71 _ => ?_)
        refine r_callVv X (mX2_push _ _ _) mk_X2_push lk_X2_60 lc_6 rfl rfl (by decide) (by decide) (Nat.le_of_ble_eq_true rfl) rfl dX2_doStep_74 (fun q74 _ => ?_)
        exact r_vret X dX2_doStep_77
      · refine r_aload_n X 0 rfl dX2_doStep_36 ?_
        refine r_aload_n X 0 rfl dX2_doStep_37 ?_
        refine r_callV X (mX2_pop _ _) mk_X2_pop lk_X2_56 lc_6 rfl rfl (by decide) (by decide) (Nat.le_of_ble_eq_true rfl) rfl dX2_doStep_38 (fun q38 _ => ?_)
        refine r_if_ne (tgt := 48) X dX2_doStep_41 (by decide) (fun _ => ?_) (fun _ => ?_)
        · refine r_iconst (v := 0) X (by decide) dX2_doStep_48 ?_
          refine r_sub [] rfl ?_
          exact gX2_doStep_49 X F _ _
        · refine r_iconst (v := 1) X (by decide) dX2_doStep_44 ?_
          refine r_goto (tgt := 49) X dX2_doStep_45 (by decide) ?_
          refine r_sub [] rfl ?_
          exact gX2_doStep_49 X F _ _
    · refine r_aload_n X 0 rfl dX2_doStep_18 ?_
      refine r_aload_n X 2 rfl dX2_doStep_19 ?_
      refine r_iload_n X 1 rfl dX2_doStep_20 ?_
      refine r_callV X (mX5_countOf _ _ _) mk_X5_countOf lk_X2_64 lc_8 rfl rfl (by decide) (by decide) (Nat.le_of_ble_eq_true rfl) rfl dX2_doStep_21 (fun q21 _ => ?_)
      refine r_callVv X (mX2_push _ _ _) mk_X2_push lk_X2_60 lc_6 rfl rfl (by decide) (by decide) (Nat.le_of_ble_eq_true rfl) rfl dX2_doStep_24 (fun q24 _ => ?_)
      refine r_goto (tgt := 77) X dX2_doStep_27 (by decide) ?_
      exact r_vret X dX2_doStep_77
  · refine r_aload_n X 0 rfl dX2_doStep_4 ?_
    refine r_iload_n X 1 rfl dX2_doStep_5 ?_
    refine r_callVv X (mX2_push _ _ _) mk_X2_push lk_X2_60 lc_6 rfl rfl (by decide) (by decide) (Nat.le_of_ble_eq_true rfl) rfl dX2_doStep_6 (fun q6 _ => ?_)
    refine r_goto (tgt := 77) X dX2_doStep_9 (by decide) ?_
    exact r_vret X dX2_doStep_77
theorem mX2_doStep (F : Nat) (S : ST) (x1 : Int32) : MetS yX2_doStep cX2_doStep 5 none 1 layC (fX2_doStep F S x1) S (fun ad => [.ref (ad 6), .int x1, .ref (ad 8)]) := mk_met (fun ad => [(0, .ref (ad 6)), (1, .int x1), (2, .ref (ad 8))]) (by decide) (fun _ => Nat.le_of_ble_eq_true rfl) (fun _ => rfl) (fun E X => gX2_doStep X F S x1)
def fX2_holds_36 (F : Nat) : Nat → ST → Int32 → Int32 → Int32 → Option (Int32 × ST)
  | 0, _, _, _, _ => none
  | n + 1, S, x3, x4, x5 =>
  if x3 ≤ x5 then
    (if x3 ≤ x4 then
      (some ((1 : Int32), S))
    else
      ((fX2_pop F S).bind (fun q67 => if q67.1 = 0 then
        (some ((0 : Int32), q67.2))
      else
        (some ((1 : Int32), q67.2)))))
  else
    ((if vin x5 320 = true then (fX2_doStep F S (S.1 24 (ix x5))).bind (fun q51 => fX2_holds_36 F n q51.2 x3 x4 (x5 + (1 : Int32))) else none))
set_option maxRecDepth 4000 in
theorem gX2_holds_36 {E : CT} (X : Cx E layC cX2_holds RX2 6 (some .boolean) 2) (F : Nat) : ∀ (n : Nat) (S : ST) (x3 : Int32) (x4 : Int32) (x5 : Int32), G E (fX2_holds_36 F n S x3 x4 x5) S 36 [(0, .ref (eA E 6)), (2, .ref (eA E 8)), (3, .int x3), (4, .int x4), (5, .int x5)] []
  | 0, _, _, _, _ => r_none
  | n + 1, S, x3, x4, x5 => by
    have ih := gX2_holds_36 X F n
    unfold fX2_holds_36
    refine r_iload X 4 rfl dX2_holds_36 ?_
    refine r_iload_n X 2 rfl dX2_holds_38 ?_
    refine r_icmp_ge (tgt := 60) X dX2_holds_39 (by decide) (fun _ => ?_) (fun _ => ?_)
    · refine r_iload X 3 rfl dX2_holds_60 ?_
      refine r_iload_n X 2 rfl dX2_holds_62 ?_
      refine r_icmp_ge (tgt := 73) X dX2_holds_63 (by decide) (fun _ => ?_) (fun _ => ?_)
      · refine r_iconst (v := 1) X (by decide) dX2_holds_73 ?_
        refine r_goto (tgt := 78) X dX2_holds_74 (by decide) ?_
        exact r_zret X (by decide) dX2_holds_78
      · refine r_aload_n X 0 rfl dX2_holds_66 ?_
        refine r_callV X (mX2_pop _ _) mk_X2_pop lk_X2_56 lc_6 rfl rfl (by decide) (by decide) (Nat.le_of_ble_eq_true rfl) rfl dX2_holds_67 (fun q67 _ => ?_)
        refine r_if_eq (tgt := 77) X dX2_holds_70 (by decide) (fun _ => ?_) (fun _ => ?_)
        · refine r_iconst (v := 0) X (by decide) dX2_holds_77 ?_
          exact r_zret X (by decide) dX2_holds_78
        · refine r_iconst (v := 1) X (by decide) dX2_holds_73 ?_
          refine r_goto (tgt := 78) X dX2_holds_74 (by decide) ?_
          exact r_zret X (by decide) dX2_holds_78
    · refine r_aload_n X 0 rfl dX2_holds_42 ?_
      refine r_aload_n X 0 rfl dX2_holds_43 ?_
      refine r_getR X fk_X2_23 lc_6 rfl dX2_holds_44 ?_
      refine r_iload X 4 rfl dX2_holds_47 ?_
      refine r_iald X lc_24 dX2_holds_49 (fun _ => ?_)
      refine r_aload_n X 1 rfl dX2_holds_50 ?_
      refine r_callVv X (mX2_doStep _ _ _) mk_X2_doStep lk_X2_52 lc_6 rfl rfl (by decide) (by decide) (Nat.le_of_ble_eq_true rfl) rfl dX2_holds_51 (fun q51 _ => ?_)
      refine r_iinc (lv' := [(0, _), (2, _), (3, _), (4, _), (5, _)]) (dl := 1) X 4 rfl (by decide) (by decide) rfl dX2_holds_54 ?_
      refine r_goto (tgt := 36) X dX2_holds_57 (by decide) ?_
      exact ih _ _ _ _
def fX2_holds (F : Nat) (S : ST) (x1 : Int32) : Option (Int32 × ST) :=
  bindS (us S 6 7 (0 : Int32)) (fun S2 => (fX2_codeEndOf F S2 x1).bind (fun q7 => bindI ((jmin q7.1 (320 : Int32))) (fun v18 => (fX2_codeEndOf F q7.2 (x1 - (1 : Int32))).bind (fun q24 => bindI ((jmax (0 : Int32) q24.1)) (fun v30 => fX2_holds_36 F F q24.2 v18 v30 v30)))))
set_option maxRecDepth 4000 in
theorem gX2_holds {E : CT} (X : Cx E layC cX2_holds RX2 6 (some .boolean) 2) (F : Nat) (S : ST) (x1 : Int32) : G E (fX2_holds F S x1) S 0 [(0, .ref (eA E 6)), (1, .int x1), (2, .ref (eA E 8))] [] := by
  unfold fX2_holds
  refine r_aload_n X 0 rfl dX2_holds_0 ?_
  refine r_iconst (v := 0) X (by decide) dX2_holds_1 ?_
  refine r_putI X pk_X2_36 lc_6 rfl dX2_holds_2 ?_
  refine r_bindS (fun S2 => ?_)
  refine r_aload_n X 0 rfl dX2_holds_5 ?_
  refine r_iload_n X 1 rfl dX2_holds_6 ?_
  refine r_callV X (mX2_codeEndOf _ _ _) mk_X2_codeEndOf lk_X2_39 lc_6 rfl rfl (by decide) (by decide) (Nat.le_of_ble_eq_true rfl) rfl dX2_holds_7 (fun q7 _ => ?_)
  refine r_aload_n X 0 rfl dX2_holds_10 ?_
  refine r_getR X fk_X2_23 lc_6 rfl dX2_holds_11 ?_
  refine r_alen (v := 320) X lc_24 (by decide) dX2_holds_14 ?_
  refine r_mmin X lk_X2_43 km_min_s km_i km_min_c (by decide) (Nat.le_of_ble_eq_true rfl) dX2_holds_15 ?_
  refine r_bindI (fun v18 => ?_)
  refine r_istore_n (lv' := [(0, _), (1, _), (2, _), (3, _)]) X (by decide) rfl dX2_holds_18 ?_
  refine r_iconst (v := 0) X (by decide) dX2_holds_19 ?_
  refine r_aload_n X 0 rfl dX2_holds_20 ?_
  refine r_iload_n X 1 rfl dX2_holds_21 ?_
  refine r_iconst (v := 1) X (by decide) dX2_holds_22 ?_
  refine r_isub X dX2_holds_23 ?_
  refine r_callV X (mX2_codeEndOf _ _ _) mk_X2_codeEndOf lk_X2_39 lc_6 rfl rfl (by decide) (by decide) (Nat.le_of_ble_eq_true rfl) rfl dX2_holds_24 (fun q24 _ => ?_)
  refine r_mmax X lk_X2_49 km_max_s km_i km_max_c (by decide) (Nat.le_of_ble_eq_true rfl) dX2_holds_27 ?_
  refine r_bindI (fun v30 => ?_)
  refine r_istore (lv' := [(0, _), (1, _), (2, _), (3, _), (4, _)]) X (by decide) rfl dX2_holds_30 ?_
  refine r_iload X 4 rfl dX2_holds_32 ?_
  refine r_istore (lv' := [(0, _), (1, _), (2, _), (3, _), (4, _), (5, _)]) X (by decide) rfl dX2_holds_34 ?_
  refine r_sub [0, 2, 3, 4, 5] rfl ?_
  exact gX2_holds_36 X F F _ _ _ _
theorem mX2_holds (F : Nat) (S : ST) (x1 : Int32) : MetS yX2_holds cX2_holds 6 (some .boolean) 2 layC (fX2_holds F S x1) S (fun ad => [.ref (ad 6), .int x1, .ref (ad 8)]) := mk_met (fun ad => [(0, .ref (ad 6)), (1, .int x1), (2, .ref (ad 8))]) (by decide) (fun _ => Nat.le_of_ble_eq_true rfl) (fun _ => rfl) (fun E X => gX2_holds X F S x1)
def fX2_worthOf_19 (F : Nat) (S : ST) : Option (Int32 × ST) :=
  some ((0 : Int32), S)
set_option maxRecDepth 4000 in
theorem gX2_worthOf_19 {E : CT} (X : Cx E layC cX2_worthOf RX2 2 (some .int) 0) (F : Nat) (S : ST) : G E (fX2_worthOf_19 F S) S 19 [] [] := by
  unfold fX2_worthOf_19
  refine r_iconst (v := 0) X (by decide) dX2_worthOf_19 ?_
  exact r_iret X dX2_worthOf_20
def fX2_worthOf (F : Nat) (S : ST) (x1 : Int32) : Option (Int32 × ST) :=
  if x1 < 0 then
    (fX2_worthOf_19 F S)
  else
    (if (8 : Int32) ≤ x1 then
      (fX2_worthOf_19 F S)
    else
      ((if vin x1 8 = true then some ((S.1 22 (ix x1)), S) else none)))
set_option maxRecDepth 4000 in
theorem gX2_worthOf {E : CT} (X : Cx E layC cX2_worthOf RX2 2 (some .int) 0) (F : Nat) (S : ST) (x1 : Int32) : G E (fX2_worthOf F S x1) S 0 [(0, .ref (eA E 6)), (1, .int x1)] [] := by
  unfold fX2_worthOf
  refine r_iload_n X 1 rfl dX2_worthOf_0 ?_
  refine r_if_lt (tgt := 19) X dX2_worthOf_1 (by decide) (fun _ => ?_) (fun _ => ?_)
  · refine r_sub [] rfl ?_
    exact gX2_worthOf_19 X F _
  · refine r_iload_n X 1 rfl dX2_worthOf_4 ?_
    refine r_bipush (v := 8) X (by decide) dX2_worthOf_5 ?_
    refine r_icmp_ge (tgt := 19) X dX2_worthOf_7 (by decide) (fun _ => ?_) (fun _ => ?_)
    · refine r_sub [] rfl ?_
      exact gX2_worthOf_19 X F _
    · refine r_aload_n X 0 rfl dX2_worthOf_10 ?_
      refine r_getR X fk_X2_17 lc_6 rfl dX2_worthOf_11 ?_
      refine r_iload_n X 1 rfl dX2_worthOf_14 ?_
      refine r_iald X lc_22 dX2_worthOf_15 (fun _ => ?_)
      refine r_goto (tgt := 20) X dX2_worthOf_16 (by decide) ?_
      exact r_iret X dX2_worthOf_20
theorem mX2_worthOf (F : Nat) (S : ST) (x1 : Int32) : MetS yX2_worthOf cX2_worthOf 2 (some .int) 0 layC (fX2_worthOf F S x1) S (fun ad => [.ref (ad 6), .int x1]) := mk_met (fun ad => [(0, .ref (ad 6)), (1, .int x1)]) (by decide) (fun _ => Nat.le_of_ble_eq_true rfl) (fun _ => rfl) (fun E X => gX2_worthOf X F S x1)
def fX2_addLine (F : Nat) (S : ST) (x1 : Int32) (x2 : Int32) : Option (Int32 × ST) :=
  if (8 : Int32) ≤ (S.1 5 5) then
    (some ((0 : Int32), S))
  else
    ((if vin (S.1 5 5) 8 = true then bindS (us S 16 (ix (S.1 5 5)) x1) (fun S18 => (if vin (S18.1 5 5) 8 = true then bindS (us S18 17 (ix (S18.1 5 5)) x2) (fun S28 => (if vin (S28.1 5 5) 8 = true then bindS (us S28 18 (ix (S28.1 5 5)) (S28.1 5 6)) (fun S41 => bindS (us S41 5 5 ((S41.1 5 5) + (1 : Int32))) (fun S49 => some ((0 : Int32), S49))) else none)) else none)) else none))
set_option maxRecDepth 4000 in
theorem gX2_addLine {E : CT} (X : Cx E layC cX2_addLine RX2 3 none 0) (F : Nat) (S : ST) (x1 : Int32) (x2 : Int32) : G E (fX2_addLine F S x1 x2) S 0 [(0, .ref (eA E 5)), (1, .int x1), (2, .int x2)] [] := by
  unfold fX2_addLine
  refine r_aload_n X 0 rfl dX2_addLine_0 ?_
  refine r_getI X fk_X2_29 lc_5 rfl dX2_addLine_1 ?_
  refine r_bipush (v := 8) X (by decide) dX2_addLine_4 ?_
  refine r_icmp_ge (tgt := 52) X dX2_addLine_6 (by decide) (fun _ => ?_) (fun _ => ?_)
  · exact r_vret X dX2_addLine_52
  · refine r_aload_n X 0 rfl dX2_addLine_9 ?_
    refine r_getR X fk_X2_13 lc_5 rfl dX2_addLine_10 ?_
    refine r_aload_n X 0 rfl dX2_addLine_13 ?_
    refine r_getI X fk_X2_29 lc_5 rfl dX2_addLine_14 ?_
    refine r_iload_n X 1 rfl dX2_addLine_17 ?_
    refine r_iast X lc_16 dX2_addLine_18 (fun _ => ?_)
    refine r_bindS (fun S18 => ?_)
    refine r_aload_n X 0 rfl dX2_addLine_19 ?_
    refine r_getR X fk_X2_17 lc_5 rfl dX2_addLine_20 ?_
    refine r_aload_n X 0 rfl dX2_addLine_23 ?_
    refine r_getI X fk_X2_29 lc_5 rfl dX2_addLine_24 ?_
    refine r_iload_n X 2 rfl dX2_addLine_27 ?_
    refine r_iast X lc_17 dX2_addLine_28 (fun _ => ?_)
    refine r_bindS (fun S28 => ?_)
    refine r_aload_n X 0 rfl dX2_addLine_29 ?_
    refine r_getR X fk_X2_20 lc_5 rfl dX2_addLine_30 ?_
    refine r_aload_n X 0 rfl dX2_addLine_33 ?_
    refine r_getI X fk_X2_29 lc_5 rfl dX2_addLine_34 ?_
    refine r_aload_n X 0 rfl dX2_addLine_37 ?_
    refine r_getI X fk_X2_33 lc_5 rfl dX2_addLine_38 ?_
    refine r_iast X lc_18 dX2_addLine_41 (fun _ => ?_)
    refine r_bindS (fun S41 => ?_)
    refine r_aload_n X 0 rfl dX2_addLine_42 ?_
    refine r_dup X rfl dX2_addLine_43 ?_
    refine r_getI X fk_X2_29 lc_5 rfl dX2_addLine_44 ?_
    refine r_iconst (v := 1) X (by decide) dX2_addLine_47 ?_
    refine r_iadd X dX2_addLine_48 ?_
    refine r_putI X pk_X2_29 lc_5 rfl dX2_addLine_49 ?_
    refine r_bindS (fun S49 => ?_)
    exact r_vret X dX2_addLine_52
theorem mX2_addLine (F : Nat) (S : ST) (x1 : Int32) (x2 : Int32) : MetS yX2_addLine cX2_addLine 3 none 0 layC (fX2_addLine F S x1 x2) S (fun ad => [.ref (ad 5), .int x1, .int x2]) := mk_met (fun ad => [(0, .ref (ad 5)), (1, .int x1), (2, .int x2)]) (by decide) (fun _ => Nat.le_of_ble_eq_true rfl) (fun _ => rfl) (fun E X => gX2_addLine X F S x1 x2)
def fX2_clear (F : Nat) (S : ST) : Option (Int32 × ST) :=
  bindS (us S 5 5 (0 : Int32)) (fun S2 => bindS (us S2 5 6 (0 : Int32)) (fun S7 => some ((0 : Int32), S7)))
set_option maxRecDepth 4000 in
theorem gX2_clear {E : CT} (X : Cx E layC cX2_clear RX2 1 none 0) (F : Nat) (S : ST) : G E (fX2_clear F S) S 0 [(0, .ref (eA E 5))] [] := by
  unfold fX2_clear
  refine r_aload_n X 0 rfl dX2_clear_0 ?_
  refine r_iconst (v := 0) X (by decide) dX2_clear_1 ?_
  refine r_putI X pk_X2_29 lc_5 rfl dX2_clear_2 ?_
  refine r_bindS (fun S2 => ?_)
  refine r_aload_n X 0 rfl dX2_clear_5 ?_
  refine r_iconst (v := 0) X (by decide) dX2_clear_6 ?_
  refine r_putI X pk_X2_33 lc_5 rfl dX2_clear_7 ?_
  refine r_bindS (fun S7 => ?_)
  exact r_vret X dX2_clear_10
theorem mX2_clear (F : Nat) (S : ST) : MetS yX2_clear cX2_clear 1 none 0 layC (fX2_clear F S) S (fun ad => [.ref (ad 5)]) := mk_met (fun ad => [(0, .ref (ad 5))]) (by decide) (fun _ => Nat.le_of_ble_eq_true rfl) (fun _ => rfl) (fun E X => gX2_clear X F S)
def fX2_copyFrom_68 (F : Nat) : Nat → ST → Int32 → Option (Int32 × ST)
  | 0, _, _ => none
  | n + 1, S, x2 =>
  if (S.1 6 6) ≤ x2 then
    (some ((0 : Int32), S))
  else
    (if (320 : Int32) ≤ x2 then
      (some ((0 : Int32), S))
    else
      ((if vin x2 320 = true then (if vin x2 320 = true then bindS (us S 24 (ix x2) (S.1 19 (ix x2))) (fun S96 => fX2_copyFrom_68 F n S96 (x2 + (1 : Int32))) else none) else none)))
set_option maxRecDepth 4000 in
theorem gX2_copyFrom_68 {E : CT} (X : Cx E layC cX2_copyFrom RX2 3 none 0) (F : Nat) : ∀ (n : Nat) (S : ST) (x2 : Int32), G E (fX2_copyFrom_68 F n S x2) S 68 [(0, .ref (eA E 6)), (1, .ref (eA E 5)), (2, .int x2)] []
  | 0, _, _ => r_none
  | n + 1, S, x2 => by
    have ih := gX2_copyFrom_68 X F n
    unfold fX2_copyFrom_68
    refine r_iload_n X 2 rfl dX2_copyFrom_68 ?_
    refine r_aload_n X 0 rfl dX2_copyFrom_69 ?_
    refine r_getI X fk_X2_33 lc_6 rfl dX2_copyFrom_70 ?_
    refine r_icmp_ge (tgt := 103) X dX2_copyFrom_73 (by decide) (fun _ => ?_) (fun _ => ?_)
    · exact r_vret X dX2_copyFrom_103
    · refine r_iload_n X 2 rfl dX2_copyFrom_76 ?_
      refine r_aload_n X 0 rfl dX2_copyFrom_77 ?_
      refine r_getR X fk_X2_23 lc_6 rfl dX2_copyFrom_78 ?_
      refine r_alen (v := 320) X lc_24 (by decide) dX2_copyFrom_81 ?_
      refine r_icmp_ge (tgt := 103) X dX2_copyFrom_82 (by decide) (fun _ => ?_) (fun _ => ?_)
      · exact r_vret X dX2_copyFrom_103
      · refine r_aload_n X 0 rfl dX2_copyFrom_85 ?_
        refine r_getR X fk_X2_23 lc_6 rfl dX2_copyFrom_86 ?_
        refine r_iload_n X 2 rfl dX2_copyFrom_89 ?_
        refine r_aload_n X 1 rfl dX2_copyFrom_90 ?_
        refine r_getR X fk_X2_23 lc_5 rfl dX2_copyFrom_91 ?_
        refine r_iload_n X 2 rfl dX2_copyFrom_94 ?_
        refine r_iald X lc_19 dX2_copyFrom_95 (fun _ => ?_)
        refine r_iast X lc_24 dX2_copyFrom_96 (fun _ => ?_)
        refine r_bindS (fun S96 => ?_)
        refine r_iinc (lv' := [(0, _), (1, _), (2, _)]) (dl := 1) X 2 rfl (by decide) (by decide) rfl dX2_copyFrom_97 ?_
        refine r_goto (tgt := 68) X dX2_copyFrom_100 (by decide) ?_
        exact ih _ _
def fX2_copyFrom_18 (F : Nat) : Nat → ST → Int32 → Option (Int32 × ST)
  | 0, _, _ => none
  | n + 1, S, x2 =>
  if (8 : Int32) ≤ x2 then
    (fX2_copyFrom_68 F F S (0 : Int32))
  else
    ((if vin x2 8 = true then (if vin x2 8 = true then bindS (us S 21 (ix x2) (S.1 16 (ix x2))) (fun S35 => (if vin x2 8 = true then (if vin x2 8 = true then bindS (us S35 22 (ix x2) (S35.1 17 (ix x2))) (fun S47 => (if vin x2 8 = true then (if vin x2 8 = true then bindS (us S47 23 (ix x2) (S47.1 18 (ix x2))) (fun S59 => fX2_copyFrom_18 F n S59 (x2 + (1 : Int32))) else none) else none)) else none) else none)) else none) else none))
set_option maxRecDepth 4000 in
theorem gX2_copyFrom_18 {E : CT} (X : Cx E layC cX2_copyFrom RX2 3 none 0) (F : Nat) : ∀ (n : Nat) (S : ST) (x2 : Int32), G E (fX2_copyFrom_18 F n S x2) S 18 [(0, .ref (eA E 6)), (1, .ref (eA E 5)), (2, .int x2)] []
  | 0, _, _ => r_none
  | n + 1, S, x2 => by
    have ih := gX2_copyFrom_18 X F n
    unfold fX2_copyFrom_18
    refine r_iload_n X 2 rfl dX2_copyFrom_18 ?_
    refine r_bipush (v := 8) X (by decide) dX2_copyFrom_19 ?_
    refine r_icmp_ge (tgt := 66) X dX2_copyFrom_21 (by decide) (fun _ => ?_) (fun _ => ?_)
    · refine r_iconst (v := 0) X (by decide) dX2_copyFrom_66 ?_
      refine r_istore_n (lv' := [(0, _), (1, _), (2, _)]) X (by decide) rfl dX2_copyFrom_67 ?_
      exact gX2_copyFrom_68 X F F _ _
    · refine r_aload_n X 0 rfl dX2_copyFrom_24 ?_
      refine r_getR X fk_X2_13 lc_6 rfl dX2_copyFrom_25 ?_
      refine r_iload_n X 2 rfl dX2_copyFrom_28 ?_
      refine r_aload_n X 1 rfl dX2_copyFrom_29 ?_
      refine r_getR X fk_X2_13 lc_5 rfl dX2_copyFrom_30 ?_
      refine r_iload_n X 2 rfl dX2_copyFrom_33 ?_
      refine r_iald X lc_16 dX2_copyFrom_34 (fun _ => ?_)
      refine r_iast X lc_21 dX2_copyFrom_35 (fun _ => ?_)
      refine r_bindS (fun S35 => ?_)
      refine r_aload_n X 0 rfl dX2_copyFrom_36 ?_
      refine r_getR X fk_X2_17 lc_6 rfl dX2_copyFrom_37 ?_
      refine r_iload_n X 2 rfl dX2_copyFrom_40 ?_
      refine r_aload_n X 1 rfl dX2_copyFrom_41 ?_
      refine r_getR X fk_X2_17 lc_5 rfl dX2_copyFrom_42 ?_
      refine r_iload_n X 2 rfl dX2_copyFrom_45 ?_
      refine r_iald X lc_17 dX2_copyFrom_46 (fun _ => ?_)
      refine r_iast X lc_22 dX2_copyFrom_47 (fun _ => ?_)
      refine r_bindS (fun S47 => ?_)
      refine r_aload_n X 0 rfl dX2_copyFrom_48 ?_
      refine r_getR X fk_X2_20 lc_6 rfl dX2_copyFrom_49 ?_
      refine r_iload_n X 2 rfl dX2_copyFrom_52 ?_
      refine r_aload_n X 1 rfl dX2_copyFrom_53 ?_
      refine r_getR X fk_X2_20 lc_5 rfl dX2_copyFrom_54 ?_
      refine r_iload_n X 2 rfl dX2_copyFrom_57 ?_
      refine r_iald X lc_18 dX2_copyFrom_58 (fun _ => ?_)
      refine r_iast X lc_23 dX2_copyFrom_59 (fun _ => ?_)
      refine r_bindS (fun S59 => ?_)
      refine r_iinc (lv' := [(0, _), (1, _), (2, _)]) (dl := 1) X 2 rfl (by decide) (by decide) rfl dX2_copyFrom_60 ?_
      refine r_goto (tgt := 18) X dX2_copyFrom_63 (by decide) ?_
      exact ih _ _
def fX2_copyFrom (F : Nat) (S : ST) : Option (Int32 × ST) :=
  bindS (us S 6 5 (S.1 5 5)) (fun S5 => bindS (us S5 6 6 (S5.1 5 6)) (fun S13 => fX2_copyFrom_18 F F S13 (0 : Int32)))
set_option maxRecDepth 4000 in
theorem gX2_copyFrom {E : CT} (X : Cx E layC cX2_copyFrom RX2 3 none 0) (F : Nat) (S : ST) : G E (fX2_copyFrom F S) S 0 [(0, .ref (eA E 6)), (1, .ref (eA E 5))] [] := by
  unfold fX2_copyFrom
  refine r_aload_n X 0 rfl dX2_copyFrom_0 ?_
  refine r_aload_n X 1 rfl dX2_copyFrom_1 ?_
  refine r_getI X fk_X2_29 lc_5 rfl dX2_copyFrom_2 ?_
  refine r_putI X pk_X2_29 lc_6 rfl dX2_copyFrom_5 ?_
  refine r_bindS (fun S5 => ?_)
  refine r_aload_n X 0 rfl dX2_copyFrom_8 ?_
  refine r_aload_n X 1 rfl dX2_copyFrom_9 ?_
  refine r_getI X fk_X2_33 lc_5 rfl dX2_copyFrom_10 ?_
  refine r_putI X pk_X2_33 lc_6 rfl dX2_copyFrom_13 ?_
  refine r_bindS (fun S13 => ?_)
  refine r_iconst (v := 0) X (by decide) dX2_copyFrom_16 ?_
  refine r_istore_n (lv' := [(0, _), (1, _), (2, _)]) X (by decide) rfl dX2_copyFrom_17 ?_
  exact gX2_copyFrom_18 X F F _ _
theorem mX2_copyFrom (F : Nat) (S : ST) : MetS yX2_copyFrom cX2_copyFrom 3 none 0 layC (fX2_copyFrom F S) S (fun ad => [.ref (ad 6), .ref (ad 5)]) := mk_met (fun ad => [(0, .ref (ad 6)), (1, .ref (ad 5))]) (by decide) (fun _ => Nat.le_of_ble_eq_true rfl) (fun _ => rfl) (fun E X => gX2_copyFrom X F S)
def fX2_emit (F : Nat) (S : ST) (x1 : Int32) : Option (Int32 × ST) :=
  if (320 : Int32) ≤ (S.1 5 6) then
    (some ((0 : Int32), S))
  else
    ((if vin (S.1 5 6) 320 = true then bindS (us S 19 (ix (S.1 5 6)) x1) (fun S21 => bindS (us S21 5 6 ((S21.1 5 6) + (1 : Int32))) (fun S29 => some ((0 : Int32), S29))) else none))
set_option maxRecDepth 4000 in
theorem gX2_emit {E : CT} (X : Cx E layC cX2_emit RX2 2 none 0) (F : Nat) (S : ST) (x1 : Int32) : G E (fX2_emit F S x1) S 0 [(0, .ref (eA E 5)), (1, .int x1)] [] := by
  unfold fX2_emit
  refine r_aload_n X 0 rfl dX2_emit_0 ?_
  refine r_getI X fk_X2_33 lc_5 rfl dX2_emit_1 ?_
  refine r_aload_n X 0 rfl dX2_emit_4 ?_
  refine r_getR X fk_X2_23 lc_5 rfl dX2_emit_5 ?_
  refine r_alen (v := 320) X lc_19 (by decide) dX2_emit_8 ?_
  refine r_icmp_ge (tgt := 32) X dX2_emit_9 (by decide) (fun _ => ?_) (fun _ => ?_)
  · exact r_vret X dX2_emit_32
  · refine r_aload_n X 0 rfl dX2_emit_12 ?_
    refine r_getR X fk_X2_23 lc_5 rfl dX2_emit_13 ?_
    refine r_aload_n X 0 rfl dX2_emit_16 ?_
    refine r_getI X fk_X2_33 lc_5 rfl dX2_emit_17 ?_
    refine r_iload_n X 1 rfl dX2_emit_20 ?_
    refine r_iast X lc_19 dX2_emit_21 (fun _ => ?_)
    refine r_bindS (fun S21 => ?_)
    refine r_aload_n X 0 rfl dX2_emit_22 ?_
    refine r_dup X rfl dX2_emit_23 ?_
    refine r_getI X fk_X2_33 lc_5 rfl dX2_emit_24 ?_
    refine r_iconst (v := 1) X (by decide) dX2_emit_27 ?_
    refine r_iadd X dX2_emit_28 ?_
    refine r_putI X pk_X2_33 lc_5 rfl dX2_emit_29 ?_
    refine r_bindS (fun S29 => ?_)
    exact r_vret X dX2_emit_32
theorem mX2_emit (F : Nat) (S : ST) (x1 : Int32) : MetS yX2_emit cX2_emit 2 none 0 layC (fX2_emit F S x1) S (fun ad => [.ref (ad 5), .int x1]) := mk_met (fun ad => [(0, .ref (ad 5)), (1, .int x1)]) (by decide) (fun _ => Nat.le_of_ble_eq_true rfl) (fun _ => rfl) (fun E X => gX2_emit X F S x1)
