def fX5_countOf (F : Nat) (S : ST) (x1 : Int32) : Option (Int32 × ST) :=
  (if x1 = (-5 : Int32) then
    (some ((S.1 8 7), S))
  else (if x1 = (-4 : Int32) then
    (some (((S.1 8 6) + (S.1 8 8)), S))
  else (if x1 = (-3 : Int32) then
    (some (((S.1 8 5) - (S.1 8 8)), S))
  else (if x1 = (-2 : Int32) then
    (some ((S.1 8 4), S))
  else (if x1 = (-1 : Int32) then
    (some ((S.1 8 3), S))
  else (some ((0 : Int32), S)))))))
set_option maxRecDepth 4000 in
theorem gX5_countOf {E : CT} (X : Cx E layC cX5_countOf RX5 2 (some .int) 0) (F : Nat) (S : ST) (x1 : Int32) : G E (fX5_countOf F S x1) S 0 [(0, .ref (eA E 8)), (1, .int x1)] [] := by
  unfold fX5_countOf
  refine r_iload_n X 1 rfl dX5_countOf_0 ?_
  refine r_ite (fun hh0 => ?_) (fun hh0 => ?_)
  · refine r_tsIn (tgt := 66) X (-5) hh0 dX5_countOf_1 (by decide) (by decide) rfl (by decide) ?_
    refine r_aload_n X 0 rfl dX5_countOf_66 ?_
    refine r_getI X fk_X5_59 lc_8 rfl dX5_countOf_67 ?_
    exact r_iret X dX5_countOf_70
  refine r_ite (fun hh1 => ?_) (fun hh1 => ?_)
  · refine r_tsIn (tgt := 56) X (-4) hh1 dX5_countOf_1 (by decide) (by decide) rfl (by decide) ?_
    refine r_aload_n X 0 rfl dX5_countOf_56 ?_
    refine r_getI X fk_X5_56 lc_8 rfl dX5_countOf_57 ?_
    refine r_aload_n X 0 rfl dX5_countOf_60 ?_
    refine r_getI X fk_X5_62 lc_8 rfl dX5_countOf_61 ?_
    refine r_iadd X dX5_countOf_64 ?_
    exact r_iret X dX5_countOf_65
  refine r_ite (fun hh2 => ?_) (fun hh2 => ?_)
  · refine r_tsIn (tgt := 46) X (-3) hh2 dX5_countOf_1 (by decide) (by decide) rfl (by decide) ?_
    refine r_aload_n X 0 rfl dX5_countOf_46 ?_
    refine r_getI X fk_X5_50 lc_8 rfl dX5_countOf_47 ?_
    refine r_aload_n X 0 rfl dX5_countOf_50 ?_
    refine r_getI X fk_X5_62 lc_8 rfl dX5_countOf_51 ?_
    refine r_isub X dX5_countOf_54 ?_
    exact r_iret X dX5_countOf_55
  refine r_ite (fun hh3 => ?_) (fun hh3 => ?_)
  · refine r_tsIn (tgt := 41) X (-2) hh3 dX5_countOf_1 (by decide) (by decide) rfl (by decide) ?_
    refine r_aload_n X 0 rfl dX5_countOf_41 ?_
    refine r_getI X fk_X5_44 lc_8 rfl dX5_countOf_42 ?_
    exact r_iret X dX5_countOf_45
  refine r_ite (fun hh4 => ?_) (fun hh4 => ?_)
  · refine r_tsIn (tgt := 36) X (-1) hh4 dX5_countOf_1 (by decide) (by decide) rfl (by decide) ?_
    refine r_aload_n X 0 rfl dX5_countOf_36 ?_
    refine r_getI X fk_X5_38 lc_8 rfl dX5_countOf_37 ?_
    exact r_iret X dX5_countOf_40
  refine r_tsOut (tgt := 71) X (by have a0 := lv_neT hh0 (k := -5) (a := -5) rfl; have a1 := lv_neT hh1 (k := -4) (a := -4) rfl; have a2 := lv_neT hh2 (k := -3) (a := -3) rfl; have a3 := lv_neT hh3 (k := -2) (a := -2) rfl; have a4 := lv_neT hh4 (k := -1) (a := -1) rfl; omega) dX5_countOf_1 (by decide) ?_
  refine r_iconst (v := 0) X (by decide) dX5_countOf_71 ?_
  exact r_iret X dX5_countOf_72
theorem mX5_countOf (F : Nat) (S : ST) (x1 : Int32) : MetS yX5_countOf cX5_countOf 2 (some .int) 0 layC (fX5_countOf F S x1) S (fun ad => [.ref (ad 8), .int x1]) := mk_met (fun ad => [(0, .ref (ad 8)), (1, .int x1)]) (by decide) (fun _ => Nat.le_of_ble_eq_true rfl) (fun _ => rfl) (fun E X => gX5_countOf X F S x1)
def fX5_endBefore_107 (F : Nat) (S : ST) (s0 : Int32) : Option (Int32 × ST) :=
  bindS (us S 8 7 s0) (fun S107 => some ((0 : Int32), S107))
set_option maxRecDepth 4000 in
theorem gX5_endBefore_107 {E : CT} (X : Cx E layC cX5_endBefore RX5 3 none 1) (F : Nat) (S : ST) (s0 : Int32) : G E (fX5_endBefore_107 F S s0) S 107 [] [.int s0, .ref (eA E 8)] := by
  unfold fX5_endBefore_107
  refine r_putI X pk_X5_59 lc_8 rfl dX5_endBefore_107 ?_
  refine r_bindS (fun S107 => ?_)
  exact r_vret X dX5_endBefore_110
def fX5_endBefore_106 (F : Nat) (S : ST) : Option (Int32 × ST) :=
  fX5_endBefore_107 F S (0 : Int32)
set_option maxRecDepth 4000 in
theorem gX5_endBefore_106 {E : CT} (X : Cx E layC cX5_endBefore RX5 3 none 1) (F : Nat) (S : ST) : G E (fX5_endBefore_106 F S) S 106 [] [.ref (eA E 8)] := by
  unfold fX5_endBefore_106
  refine r_iconst (v := 0) X (by decide) dX5_endBefore_106 ?_
  exact gX5_endBefore_107 X F _ _
def fX5_endBefore (F : Nat) (S : ST) (x1 : Int32) : Option (Int32 × ST) :=
  (fX3_between F S 26 (S.1 8 2) x1).bind (fun q13 => bindS (us q13.2 8 3 q13.1) (fun S16 => (fX3_between F S16 27 (S16.1 8 2) x1).bind (fun q32 => bindS (us q32.2 8 4 q32.1) (fun S35 => (fX3_between F S35 28 (S35.1 8 2) x1).bind (fun q51 => bindS (us q51.2 8 5 q51.1) (fun S54 => (fX3_between F S54 29 (S54.1 8 2) x1).bind (fun q70 => bindS (us q70.2 8 6 q70.1) (fun S73 => bindI ((x1 - (S73.1 8 2))) (fun v82 => if v82 < 0 then
    (fX5_endBefore_106 F S73)
  else
    (if (101 : Int32) ≤ v82 then
      (fX5_endBefore_106 F S73)
    else
      ((if vin v82 101 = true then fX5_endBefore_107 F S73 (S73.1 31 (ix v82)) else none))))))))))))
set_option maxRecDepth 4000 in
theorem gX5_endBefore {E : CT} (X : Cx E layC cX5_endBefore RX5 3 none 1) (F : Nat) (S : ST) (x1 : Int32) : G E (fX5_endBefore F S x1) S 0 [(0, .ref (eA E 8)), (1, .int x1)] [] := by
  unfold fX5_endBefore
  refine r_aload_n X 0 rfl dX5_endBefore_0 ?_
  refine r_aload_n X 0 rfl dX5_endBefore_1 ?_
  refine r_getR X fk_X5_9 lc_8 rfl dX5_endBefore_2 ?_
  refine r_getR X fk_X5_31 lc_7 rfl dX5_endBefore_5 ?_
  refine r_aload_n X 0 rfl dX5_endBefore_8 ?_
  refine r_getI X fk_X5_21 lc_8 rfl dX5_endBefore_9 ?_
  refine r_iload_n X 1 rfl dX5_endBefore_12 ?_
  refine r_callS X (mX3_between _ _ _ _ _ lc_26) mk_X3_between lk_X5_34 rfl (by decide) (by decide) (Nat.le_of_ble_eq_true rfl) rfl dX5_endBefore_13 (fun q13 _ => ?_)
  refine r_putI X pk_X5_38 lc_8 rfl dX5_endBefore_16 ?_
  refine r_bindS (fun S16 => ?_)
  refine r_aload_n X 0 rfl dX5_endBefore_19 ?_
  refine r_aload_n X 0 rfl dX5_endBefore_20 ?_
  refine r_getR X fk_X5_9 lc_8 rfl dX5_endBefore_21 ?_
  refine r_getR X fk_X5_41 lc_7 rfl dX5_endBefore_24 ?_
  refine r_aload_n X 0 rfl dX5_endBefore_27 ?_
  refine r_getI X fk_X5_21 lc_8 rfl dX5_endBefore_28 ?_
  refine r_iload_n X 1 rfl dX5_endBefore_31 ?_
  refine r_callS X (mX3_between _ _ _ _ _ lc_27) mk_X3_between lk_X5_34 rfl (by decide) (by decide) (Nat.le_of_ble_eq_true rfl) rfl dX5_endBefore_32 (fun q32 _ => ?_)
  refine r_putI X pk_X5_44 lc_8 rfl dX5_endBefore_35 ?_
  refine r_bindS (fun S35 => ?_)
  refine r_aload_n X 0 rfl dX5_endBefore_38 ?_
  refine r_aload_n X 0 rfl dX5_endBefore_39 ?_
  refine r_getR X fk_X5_9 lc_8 rfl dX5_endBefore_40 ?_
  refine r_getR X fk_X5_47 lc_7 rfl dX5_endBefore_43 ?_
  refine r_aload_n X 0 rfl dX5_endBefore_46 ?_
  refine r_getI X fk_X5_21 lc_8 rfl dX5_endBefore_47 ?_
  refine r_iload_n X 1 rfl dX5_endBefore_50 ?_
  refine r_callS X (mX3_between _ _ _ _ _ lc_28) mk_X3_between lk_X5_34 rfl (by decide) (by decide) (Nat.le_of_ble_eq_true rfl) rfl dX5_endBefore_51 (fun q51 _ => ?_)
  refine r_putI X pk_X5_50 lc_8 rfl dX5_endBefore_54 ?_
  refine r_bindS (fun S54 => ?_)
  refine r_aload_n X 0 rfl dX5_endBefore_57 ?_
  refine r_aload_n X 0 rfl dX5_endBefore_58 ?_
  refine r_getR X fk_X5_9 lc_8 rfl dX5_endBefore_59 ?_
  refine r_getR X fk_X5_53 lc_7 rfl dX5_endBefore_62 ?_
  refine r_aload_n X 0 rfl dX5_endBefore_65 ?_
  refine r_getI X fk_X5_21 lc_8 rfl dX5_endBefore_66 ?_
  refine r_iload_n X 1 rfl dX5_endBefore_69 ?_
  refine r_callS X (mX3_between _ _ _ _ _ lc_29) mk_X3_between lk_X5_34 rfl (by decide) (by decide) (Nat.le_of_ble_eq_true rfl) rfl dX5_endBefore_70 (fun q70 _ => ?_)
  refine r_putI X pk_X5_56 lc_8 rfl dX5_endBefore_73 ?_
  refine r_bindS (fun S73 => ?_)
  refine r_iload_n X 1 rfl dX5_endBefore_76 ?_
  refine r_aload_n X 0 rfl dX5_endBefore_77 ?_
  refine r_getI X fk_X5_21 lc_8 rfl dX5_endBefore_78 ?_
  refine r_isub X dX5_endBefore_81 ?_
  refine r_bindI (fun v82 => ?_)
  refine r_istore_n (lv' := [(0, _), (1, _), (2, _)]) X (by decide) rfl dX5_endBefore_82 ?_
  refine r_aload_n X 0 rfl dX5_endBefore_83 ?_
  refine r_iload_n X 2 rfl dX5_endBefore_84 ?_
  refine r_if_lt (tgt := 106) X dX5_endBefore_85 (by decide) (fun _ => ?_) (fun _ => ?_)
  · refine r_sub [] rfl ?_
    exact gX5_endBefore_106 X F _
  · refine r_iload_n X 2 rfl dX5_endBefore_88 ?_
    refine r_aload_n X 0 rfl dX5_endBefore_89 ?_
    refine r_getR X fk_X5_17 lc_8 rfl dX5_endBefore_90 ?_
    refine r_alen (v := 101) X lc_31 (by decide) dX5_endBefore_93 ?_
    refine r_icmp_ge (tgt := 106) X dX5_endBefore_94 (by decide) (fun _ => ?_) (fun _ => ?_)
    · refine r_sub [] rfl ?_
      exact gX5_endBefore_106 X F _
    · refine r_aload_n X 0 rfl dX5_endBefore_97 ?_
      refine r_getR X fk_X5_17 lc_8 rfl dX5_endBefore_98 ?_
      refine r_iload_n X 2 rfl dX5_endBefore_101 ?_
      refine r_iald X lc_31 dX5_endBefore_102 (fun _ => ?_)
      refine r_goto (tgt := 107) X dX5_endBefore_103 (by decide) ?_
      refine r_sub [] rfl ?_
      exact gX5_endBefore_107 X F _ _
theorem mX5_endBefore (F : Nat) (S : ST) (x1 : Int32) : MetS yX5_endBefore cX5_endBefore 3 none 1 layC (fX5_endBefore F S x1) S (fun ad => [.ref (ad 8), .int x1]) := mk_met (fun ad => [(0, .ref (ad 8)), (1, .int x1)]) (by decide) (fun _ => Nat.le_of_ble_eq_true rfl) (fun _ => rfl) (fun E X => gX5_endBefore X F S x1)
def fX5_beginAt (F : Nat) (S : ST) (x1 : Int32) : Option (Int32 × ST) :=
  bindS (us S 8 2 x1) (fun S2 => (fX3_listRuns F S2 x1).bind (fun q14 => some ((0 : Int32), q14.2)))
set_option maxRecDepth 4000 in
theorem gX5_beginAt {E : CT} (X : Cx E layC cX5_beginAt RX5 2 none 2) (F : Nat) (S : ST) (x1 : Int32) : G E (fX5_beginAt F S x1) S 0 [(0, .ref (eA E 8)), (1, .int x1)] [] := by
  unfold fX5_beginAt
  refine r_aload_n X 0 rfl dX5_beginAt_0 ?_
  refine r_iload_n X 1 rfl dX5_beginAt_1 ?_
  refine r_putI X pk_X5_21 lc_8 rfl dX5_beginAt_2 ?_
  refine r_bindS (fun S2 => ?_)
  refine r_aload_n X 0 rfl dX5_beginAt_5 ?_
  refine r_getR X fk_X5_9 lc_8 rfl dX5_beginAt_6 ?_
  refine r_iload_n X 1 rfl dX5_beginAt_9 ?_
  refine r_aload_n X 0 rfl dX5_beginAt_10 ?_
  refine r_getR X fk_X5_17 lc_8 rfl dX5_beginAt_11 ?_
  refine r_callVv X (mX3_listRuns _ _ _) mk_X3_listRuns lk_X5_25 lc_7 rfl rfl (by decide) (by decide) (Nat.le_of_ble_eq_true rfl) rfl dX5_beginAt_14 (fun q14 _ => ?_)
  exact r_vret X dX5_beginAt_17
theorem mX5_beginAt (F : Nat) (S : ST) (x1 : Int32) : MetS yX5_beginAt cX5_beginAt 2 none 2 layC (fX5_beginAt F S x1) S (fun ad => [.ref (ad 8), .int x1]) := mk_met (fun ad => [(0, .ref (ad 8)), (1, .int x1)]) (by decide) (fun _ => Nat.le_of_ble_eq_true rfl) (fun _ => rfl) (fun E X => gX5_beginAt X F S x1)
