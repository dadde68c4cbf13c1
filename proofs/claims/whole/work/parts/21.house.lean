def fX10_about (F : Nat) (S : ST) (x1 : Int32) : Option (Int32 × ST) :=
  (if x1 = (0 : Int32) then
    (some ((S.1 6 5), S))
  else (if x1 = (1 : Int32) then
    (some ((S.1 7 5), S))
  else (if x1 = (2 : Int32) then
    (some ((S.1 11 8), S))
  else (if x1 = (3 : Int32) then
    (some ((S.1 2 1), S))
  else (some ((-1 : Int32), S))))))
set_option maxRecDepth 4000 in
theorem gX10_about {E : CT} (X : Cx E layC cX10_about RX10 2 (some .int) 0) (F : Nat) (S : ST) (x1 : Int32) : G E (fX10_about F S x1) S 0 [(0, .ref (eA E 0)), (1, .int x1)] [] := by
  unfold fX10_about
  refine r_iload_n X 1 rfl dX10_about_0 ?_
  refine r_ite (fun hh0 => ?_) (fun hh0 => ?_)
  · refine r_tsIn (tgt := 32) X (0) hh0 dX10_about_1 (by decide) (by decide) rfl (by decide) ?_
    refine r_aload_n X 0 rfl dX10_about_32 ?_
    refine r_getR X fk_X10_33 lc_0 rfl dX10_about_33 ?_
    refine r_getI X fk_X10_134 lc_6 rfl dX10_about_36 ?_
    exact r_iret X dX10_about_39
  refine r_ite (fun hh1 => ?_) (fun hh1 => ?_)
  · refine r_tsIn (tgt := 40) X (1) hh1 dX10_about_1 (by decide) (by decide) rfl (by decide) ?_
    refine r_aload_n X 0 rfl dX10_about_40 ?_
    refine r_getR X fk_X10_40 lc_0 rfl dX10_about_41 ?_
    refine r_getI X fk_X10_145 lc_7 rfl dX10_about_44 ?_
    exact r_iret X dX10_about_47
  refine r_ite (fun hh2 => ?_) (fun hh2 => ?_)
  · refine r_tsIn (tgt := 48) X (2) hh2 dX10_about_1 (by decide) (by decide) rfl (by decide) ?_
    refine r_aload_n X 0 rfl dX10_about_48 ?_
    refine r_getR X fk_X10_63 lc_0 rfl dX10_about_49 ?_
    refine r_getI X fk_X10_225 lc_11 rfl dX10_about_52 ?_
    exact r_iret X dX10_about_55
  refine r_ite (fun hh3 => ?_) (fun hh3 => ?_)
  · refine r_tsIn (tgt := 56) X (3) hh3 dX10_about_1 (by decide) (by decide) rfl (by decide) ?_
    refine r_aload_n X 0 rfl dX10_about_56 ?_
    refine r_getR X fk_X10_19 lc_0 rfl dX10_about_57 ?_
    refine r_getI X fk_X10_106 lc_2 rfl dX10_about_60 ?_
    exact r_iret X dX10_about_63
  refine r_tsOut (tgt := 64) X (by have a0 := lv_neT hh0 (k := 0) (a := 0) rfl; have a1 := lv_neT hh1 (k := 1) (a := 1) rfl; have a2 := lv_neT hh2 (k := 2) (a := 2) rfl; have a3 := lv_neT hh3 (k := 3) (a := 3) rfl; omega) dX10_about_1 (by decide) ?_
  refine r_iconst (v := -1) X (by decide) dX10_about_64 ?_
  exact r_iret X dX10_about_65
theorem mX10_about (F : Nat) (S : ST) (x1 : Int32) : MetS yX10_about cX10_about 2 (some .int) 0 layC (fX10_about F S x1) S (fun ad => [.ref (ad 0), .int x1]) := mk_met (fun ad => [(0, .ref (ad 0)), (1, .int x1)]) (by decide) (fun _ => Nat.le_of_ble_eq_true rfl) (fun _ => rfl) (fun E X => gX10_about X F S x1)
def fX10_best (F : Nat) (S : ST) (x1 : Int32) (x2 : Int32) (x3 : Int32) : Option (Int32 × ST) :=
  (fX10_within F S x1 (1 : Int32) (9 : Int32)).bind (fun q4 => if q4.1 = 0 then
    (some ((-1 : Int32), q4.2))
  else
    (if (x1 - x1 / (2 : Int32) * (2 : Int32)) = 0 then
      (some ((-1 : Int32), q4.2))
    else
      ((fX9_cheapest F q4.2 x1 x2 x3).bind (fun q25 => some (q25.1, q25.2)))))
set_option maxRecDepth 4000 in
theorem gX10_best {E : CT} (X : Cx E layC cX10_best RX10 4 (some .int) 10) (F : Nat) (S : ST) (x1 : Int32) (x2 : Int32) (x3 : Int32) : G E (fX10_best F S x1 x2 x3) S 0 [(0, .ref (eA E 0)), (1, .int x1), (2, .int x2), (3, .int x3)] [] := by
  unfold fX10_best
  refine r_iload_n X 1 rfl dX10_best_0 ?_
  refine r_iconst (v := 1) X (by decide) dX10_best_1 ?_
  refine r_bipush (v := 9) X (by decide) dX10_best_2 ?_
  refine r_callS X (mX10_within _ _ _ _ _) mk_X10_within lk_X10_90 rfl (by decide) (by decide) (Nat.le_of_ble_eq_true rfl) rfl dX10_best_4 (fun q4 _ => ?_)
  refine r_if_eq (tgt := 16) X dX10_best_7 (by decide) (fun _ => ?_) (fun _ => ?_)
  · refine r_iconst (v := -1) X (by decide) dX10_best_16 ?_
    exact r_iret X dX10_best_17
  · refine r_iload_n X 1 rfl dX10_best_10 ?_
    refine r_iconst (v := 2) X (by decide) dX10_best_11 ?_
    refine r_iremK X dX10_best_12 (by decide) ?_
    refine r_if_ne (tgt := 18) X dX10_best_13 (by decide) (fun _ => ?_) (fun _ => ?_)
    · refine r_aload_n X 0 rfl dX10_best_18 ?_
      refine r_getR X fk_X10_56 lc_0 rfl dX10_best_19 ?_
      refine r_iload_n X 1 rfl dX10_best_22 ?_
      refine r_iload_n X 2 rfl dX10_best_23 ?_
      refine r_iload_n X 3 rfl dX10_best_24 ?_
      refine r_callV X (mX9_cheapest _ _ _ _ _) mk_X9_cheapest lk_X10_196 lc_10 rfl rfl (by decide) (by decide) (Nat.le_of_ble_eq_true rfl) rfl dX10_best_25 (fun q25 _ => ?_)
      exact r_iret X dX10_best_28
    · refine r_iconst (v := -1) X (by decide) dX10_best_16 ?_
      exact r_iret X dX10_best_17
theorem mX10_best (F : Nat) (S : ST) (x1 : Int32) (x2 : Int32) (x3 : Int32) : MetS yX10_best cX10_best 4 (some .int) 10 layC (fX10_best F S x1 x2 x3) S (fun ad => [.ref (ad 0), .int x1, .int x2, .int x3]) := mk_met (fun ad => [(0, .ref (ad 0)), (1, .int x1), (2, .int x2), (3, .int x3)]) (by decide) (fun _ => Nat.le_of_ble_eq_true rfl) (fun _ => rfl) (fun E X => gX10_best X F S x1 x2 x3)
def fX10_board (F : Nat) (S : ST) (x1 : Int32) (x2 : Int32) (x3 : Int32) : Option (Int32 × ST) :=
  (fX9_canBe F S x1 x2).bind (fun q2 => if q2.1 = 0 then
    (some ((-1 : Int32), q2.2))
  else
    ((if x3 = (0 : Int32) then
      ((fX9_thinOf F q2.2 x1 x2).bind (fun q42 => some (q42.1, q42.2)))
    else (if x3 = (1 : Int32) then
      ((fX9_thickOf F q2.2 x1 x2).bind (fun q52 => some (q52.1, q52.2)))
    else (if x3 = (2 : Int32) then
      ((fX9_priceOf F q2.2 x1 x2).bind (fun q62 => some (q62.1, q62.2)))
    else (some ((-1 : Int32), q2.2)))))))
set_option maxRecDepth 4000 in
theorem gX10_board {E : CT} (X : Cx E layC cX10_board RX10 4 (some .int) 3) (F : Nat) (S : ST) (x1 : Int32) (x2 : Int32) (x3 : Int32) : G E (fX10_board F S x1 x2 x3) S 0 [(0, .ref (eA E 0)), (1, .int x1), (2, .int x2), (3, .int x3)] [] := by
  unfold fX10_board
  refine r_iload_n X 1 rfl dX10_board_0 ?_
  refine r_iload_n X 2 rfl dX10_board_1 ?_
  refine r_callS X (mX9_canBe _ _ _ _) mk_X9_canBe lk_X10_180 rfl (by decide) (by decide) (Nat.le_of_ble_eq_true rfl) rfl dX10_board_2 (fun q2 _ => ?_)
  refine r_if_ne (tgt := 10) X dX10_board_5 (by decide) (fun _ => ?_) (fun _ => ?_)
  · refine r_iload_n X 3 rfl dX10_board_10 ?_
    refine r_ite (fun hh0 => ?_) (fun hh0 => ?_)
    · refine r_tsIn (tgt := 36) X (0) hh0 dX10_board_11 (by decide) (by decide) rfl (by decide) ?_
      refine r_aload_n X 0 rfl dX10_board_36 ?_
      refine r_getR X fk_X10_56 lc_0 rfl dX10_board_37 ?_
      refine r_iload_n X 1 rfl dX10_board_40 ?_
      refine r_iload_n X 2 rfl dX10_board_41 ?_
      refine r_callV X (mX9_thinOf _ _ _ _) mk_X9_thinOf lk_X10_183 lc_10 rfl rfl (by decide) (by decide) (Nat.le_of_ble_eq_true rfl) rfl dX10_board_42 (fun q42 _ => ?_)
      exact r_iret X dX10_board_45
    refine r_ite (fun hh1 => ?_) (fun hh1 => ?_)
    · refine r_tsIn (tgt := 46) X (1) hh1 dX10_board_11 (by decide) (by decide) rfl (by decide) ?_
      refine r_aload_n X 0 rfl dX10_board_46 ?_
      refine r_getR X fk_X10_56 lc_0 rfl dX10_board_47 ?_
      refine r_iload_n X 1 rfl dX10_board_50 ?_
      refine r_iload_n X 2 rfl dX10_board_51 ?_
      refine r_callV X (mX9_thickOf _ _ _ _) mk_X9_thickOf lk_X10_186 lc_10 rfl rfl (by decide) (by decide) (Nat.le_of_ble_eq_true rfl) rfl dX10_board_52 (fun q52 _ => ?_)
      exact r_iret X dX10_board_55
    refine r_ite (fun hh2 => ?_) (fun hh2 => ?_)
    · refine r_tsIn (tgt := 56) X (2) hh2 dX10_board_11 (by decide) (by decide) rfl (by decide) ?_
      refine r_aload_n X 0 rfl dX10_board_56 ?_
      refine r_getR X fk_X10_56 lc_0 rfl dX10_board_57 ?_
      refine r_iload_n X 1 rfl dX10_board_60 ?_
      refine r_iload_n X 2 rfl dX10_board_61 ?_
      refine r_callV X (mX9_priceOf _ _ _ _) mk_X9_priceOf lk_X10_189 lc_10 rfl rfl (by decide) (by decide) (Nat.le_of_ble_eq_true rfl) rfl dX10_board_62 (fun q62 _ => ?_)
      exact r_iret X dX10_board_65
    refine r_tsOut (tgt := 66) X (by have a0 := lv_neT hh0 (k := 0) (a := 0) rfl; have a1 := lv_neT hh1 (k := 1) (a := 1) rfl; have a2 := lv_neT hh2 (k := 2) (a := 2) rfl; omega) dX10_board_11 (by decide) ?_
    refine r_iconst (v := -1) X (by decide) dX10_board_66 ?_
    exact r_iret X dX10_board_67
  · refine r_iconst (v := -1) X (by decide) dX10_board_8 ?_
    exact r_iret X dX10_board_9
theorem mX10_board (F : Nat) (S : ST) (x1 : Int32) (x2 : Int32) (x3 : Int32) : MetS yX10_board cX10_board 4 (some .int) 3 layC (fX10_board F S x1 x2 x3) S (fun ad => [.ref (ad 0), .int x1, .int x2, .int x3]) := mk_met (fun ad => [(0, .ref (ad 0)), (1, .int x1), (2, .int x2), (3, .int x3)]) (by decide) (fun _ => Nat.le_of_ble_eq_true rfl) (fun _ => rfl) (fun E X => gX10_board X F S x1 x2 x3)
def fX10_centre (F : Nat) (S : ST) (x1 : Int32) : Option (Int32 × ST) :=
  (fX4_findCentre F S).bind (fun q4 => if (q4.2.1 1 4) = (-1 : Int32) then
    (some ((-1 : Int32), q4.2))
  else
    ((if x1 = (0 : Int32) then
      (some ((q4.2.1 1 2), q4.2))
    else (if x1 = (1 : Int32) then
      (some ((q4.2.1 1 3), q4.2))
    else (if x1 = (2 : Int32) then
      (some ((q4.2.1 1 4), q4.2))
    else (some ((-1 : Int32), q4.2)))))))
set_option maxRecDepth 4000 in
theorem gX10_centre {E : CT} (X : Cx E layC cX10_centre RX10 2 (some .int) 4) (F : Nat) (S : ST) (x1 : Int32) : G E (fX10_centre F S x1) S 0 [(0, .ref (eA E 0)), (1, .int x1)] [] := by
  unfold fX10_centre
  refine r_aload_n X 0 rfl dX10_centre_0 ?_
  refine r_getR X fk_X10_10 lc_0 rfl dX10_centre_1 ?_
  refine r_callVv X (mX4_findCentre _ _) mk_X4_findCentre lk_X10_78 lc_1 rfl rfl (by decide) (by decide) (Nat.le_of_ble_eq_true rfl) rfl dX10_centre_4 (fun q4 _ => ?_)
  refine r_aload_n X 0 rfl dX10_centre_7 ?_
  refine r_getR X fk_X10_10 lc_0 rfl dX10_centre_8 ?_
  refine r_getI X fk_X10_81 lc_1 rfl dX10_centre_11 ?_
  refine r_iconst (v := -1) X (by decide) dX10_centre_14 ?_
  refine r_icmp_ne (tgt := 20) X dX10_centre_15 (by decide) (fun _ => ?_) (fun _ => ?_)
  · refine r_iload_n X 1 rfl dX10_centre_20 ?_
    refine r_ite (fun hh0 => ?_) (fun hh0 => ?_)
    · refine r_tsIn (tgt := 48) X (0) hh0 dX10_centre_21 (by decide) (by decide) rfl (by decide) ?_
      refine r_aload_n X 0 rfl dX10_centre_48 ?_
      refine r_getR X fk_X10_10 lc_0 rfl dX10_centre_49 ?_
      refine r_getI X fk_X10_84 lc_1 rfl dX10_centre_52 ?_
      exact r_iret X dX10_centre_55
    refine r_ite (fun hh1 => ?_) (fun hh1 => ?_)
    · refine r_tsIn (tgt := 56) X (1) hh1 dX10_centre_21 (by decide) (by decide) rfl (by decide) ?_
      refine r_aload_n X 0 rfl dX10_centre_56 ?_
      refine r_getR X fk_X10_10 lc_0 rfl dX10_centre_57 ?_
      refine r_getI X fk_X10_87 lc_1 rfl dX10_centre_60 ?_
      exact r_iret X dX10_centre_63
    refine r_ite (fun hh2 => ?_) (fun hh2 => ?_)
    · refine r_tsIn (tgt := 64) X (2) hh2 dX10_centre_21 (by decide) (by decide) rfl (by decide) ?_
      refine r_aload_n X 0 rfl dX10_centre_64 ?_
      refine r_getR X fk_X10_10 lc_0 rfl dX10_centre_65 ?_
      refine r_getI X fk_X10_81 lc_1 rfl dX10_centre_68 ?_
      exact r_iret X dX10_centre_71
    refine r_tsOut (tgt := 72) X (by have a0 := lv_neT hh0 (k := 0) (a := 0) rfl; have a1 := lv_neT hh1 (k := 1) (a := 1) rfl; have a2 := lv_neT hh2 (k := 2) (a := 2) rfl; omega) dX10_centre_21 (by decide) ?_
    refine r_iconst (v := -1) X (by decide) dX10_centre_72 ?_
    exact r_iret X dX10_centre_73
  · refine r_iconst (v := -1) X (by decide) dX10_centre_18 ?_
    exact r_iret X dX10_centre_19
theorem mX10_centre (F : Nat) (S : ST) (x1 : Int32) : MetS yX10_centre cX10_centre 2 (some .int) 4 layC (fX10_centre F S x1) S (fun ad => [.ref (ad 0), .int x1]) := mk_met (fun ad => [(0, .ref (ad 0)), (1, .int x1)]) (by decide) (fun _ => Nat.le_of_ble_eq_true rfl) (fun _ => rfl) (fun E X => gX10_centre X F S x1)
def fX10_clipped (F : Nat) (S : ST) (x1 : Int32) (x2 : Int32) : Option (Int32 × ST) :=
  (fX0_find F S).bind (fun q4 => (fX0_tell F q4.2 x1 x2).bind (fun q13 => some (q13.1, q13.2)))
set_option maxRecDepth 4000 in
theorem gX10_clipped {E : CT} (X : Cx E layC cX10_clipped RX10 3 (some .int) 6) (F : Nat) (S : ST) (x1 : Int32) (x2 : Int32) : G E (fX10_clipped F S x1 x2) S 0 [(0, .ref (eA E 0)), (1, .int x1), (2, .int x2)] [] := by
  unfold fX10_clipped
  refine r_aload_n X 0 rfl dX10_clipped_0 ?_
  refine r_getR X fk_X10_49 lc_0 rfl dX10_clipped_1 ?_
  refine r_callVv X (mX0_find _ _) mk_X0_find lk_X10_159 lc_9 rfl rfl (by decide) (by decide) (Nat.le_of_ble_eq_true rfl) rfl dX10_clipped_4 (fun q4 _ => ?_)
  refine r_aload_n X 0 rfl dX10_clipped_7 ?_
  refine r_getR X fk_X10_49 lc_0 rfl dX10_clipped_8 ?_
  refine r_iload_n X 1 rfl dX10_clipped_11 ?_
  refine r_iload_n X 2 rfl dX10_clipped_12 ?_
  refine r_callV X (mX0_tell _ _ _ _) mk_X0_tell lk_X10_168 lc_9 rfl rfl (by decide) (by decide) (Nat.le_of_ble_eq_true rfl) rfl dX10_clipped_13 (fun q13 _ => ?_)
  exact r_iret X dX10_clipped_16
theorem mX10_clipped (F : Nat) (S : ST) (x1 : Int32) (x2 : Int32) : MetS yX10_clipped cX10_clipped 3 (some .int) 6 layC (fX10_clipped F S x1 x2) S (fun ad => [.ref (ad 0), .int x1, .int x2]) := mk_met (fun ad => [(0, .ref (ad 0)), (1, .int x1), (2, .int x2)]) (by decide) (fun _ => Nat.le_of_ble_eq_true rfl) (fun _ => rfl) (fun E X => gX10_clipped X F S x1 x2)
def fX10_drop (F : Nat) (S : ST) : Option (Int32 × ST) :=
  (fX6_removeBoard F S).bind (fun q4 => if q4.1 &&& 1 = q4.1 then some (q4.1, q4.2) else none)
set_option maxRecDepth 4000 in
theorem gX10_drop {E : CT} (X : Cx E layC cX10_drop RX10 1 (some .boolean) 1) (F : Nat) (S : ST) : G E (fX10_drop F S) S 0 [(0, .ref (eA E 0))] [] := by
  unfold fX10_drop
  refine r_aload_n X 0 rfl dX10_drop_0 ?_
  refine r_getR X fk_X10_63 lc_0 rfl dX10_drop_1 ?_
  refine r_callV X (mX6_removeBoard _ _) mk_X6_removeBoard lk_X10_206 lc_11 rfl rfl (by decide) (by decide) (Nat.le_of_ble_eq_true rfl) rfl dX10_drop_4 (fun q4 _ => ?_)
  exact r_zretC X dX10_drop_7
theorem mX10_drop (F : Nat) (S : ST) : MetS yX10_drop cX10_drop 1 (some .boolean) 1 layC (fX10_drop F S) S (fun ad => [.ref (ad 0)]) := mk_met (fun ad => [(0, .ref (ad 0))]) (by decide) (fun _ => Nat.le_of_ble_eq_true rfl) (fun _ => rfl) (fun E X => gX10_drop X F S)
def fX10_end (F : Nat) (S : ST) (x1 : Int32) : Option (Int32 × ST) :=
  (fX7_keep F S x1).bind (fun q5 => if q5.1 = 0 then
    (some ((-1 : Int32), q5.2))
  else
    (some (x1, q5.2)))
set_option maxRecDepth 4000 in
theorem gX10_end {E : CT} (X : Cx E layC cX10_end RX10 2 (some .int) 1) (F : Nat) (S : ST) (x1 : Int32) : G E (fX10_end F S x1) S 0 [(0, .ref (eA E 0)), (1, .int x1)] [] := by
  unfold fX10_end
  refine r_aload_n X 0 rfl dX10_end_0 ?_
  refine r_getR X fk_X10_19 lc_0 rfl dX10_end_1 ?_
  refine r_iload_n X 1 rfl dX10_end_4 ?_
  refine r_callV X (mX7_keep _ _ _) mk_X7_keep lk_X10_109 lc_2 rfl rfl (by decide) (by decide) (Nat.le_of_ble_eq_true rfl) rfl dX10_end_5 (fun q5 _ => ?_)
  refine r_if_eq (tgt := 15) X dX10_end_8 (by decide) (fun _ => ?_) (fun _ => ?_)
  · refine r_iconst (v := -1) X (by decide) dX10_end_15 ?_
    exact r_iret X dX10_end_16
  · refine r_iload_n X 1 rfl dX10_end_11 ?_
    refine r_goto (tgt := 16) X dX10_end_12 (by decide) ?_
    exact r_iret X dX10_end_16
theorem mX10_end (F : Nat) (S : ST) (x1 : Int32) : MetS yX10_end cX10_end 2 (some .int) 1 layC (fX10_end F S x1) S (fun ad => [.ref (ad 0), .int x1]) := mk_met (fun ad => [(0, .ref (ad 0)), (1, .int x1)]) (by decide) (fun _ => Nat.le_of_ble_eq_true rfl) (fun _ => rfl) (fun E X => gX10_end X F S x1)
def fX10_fault (F : Nat) (S : ST) (x1 : Int32) : Option (Int32 × ST) :=
  (if x1 = (0 : Int32) then
    (some ((S.1 0 8), S))
  else (if x1 = (1 : Int32) then
    (some ((S.1 0 9), S))
  else (some ((-1 : Int32), S))))
set_option maxRecDepth 4000 in
theorem gX10_fault {E : CT} (X : Cx E layC cX10_fault RX10 2 (some .int) 0) (F : Nat) (S : ST) (x1 : Int32) : G E (fX10_fault F S x1) S 0 [(0, .ref (eA E 0)), (1, .int x1)] [] := by
  unfold fX10_fault
  refine r_iload_n X 1 rfl dX10_fault_0 ?_
  refine r_ite (fun hh0 => ?_) (fun hh0 => ?_)
  · refine r_lsw (tgt := 28) (off := 27) X dX10_fault_1 (by decide) (by rw [hh0] <;> rfl) (by decide) ?_
    refine r_aload_n X 0 rfl dX10_fault_28 ?_
    refine r_getI X fk_X10_67 lc_0 rfl dX10_fault_29 ?_
    exact r_iret X dX10_fault_32
  refine r_ite (fun hh1 => ?_) (fun hh1 => ?_)
  · refine r_lsw (tgt := 33) (off := 32) X dX10_fault_1 (by decide) (by rw [hh1] <;> rfl) (by decide) ?_
    refine r_aload_n X 0 rfl dX10_fault_33 ?_
    refine r_getI X fk_X10_71 lc_0 rfl dX10_fault_34 ?_
    exact r_iret X dX10_fault_37
  refine r_lsw (tgt := 38) (off := 37) X dX10_fault_1 (by decide) (by show Op.lookupswitch.offset [(0, 27), (1, 32)] 37 _ = 37; rw [lv_osw hh0 (k := 0) (a := 0) rfl, lv_osw hh1 (k := 1) (a := 1) rfl] <;> rfl) (by decide) ?_
  refine r_iconst (v := -1) X (by decide) dX10_fault_38 ?_
  exact r_iret X dX10_fault_39
theorem mX10_fault (F : Nat) (S : ST) (x1 : Int32) : MetS yX10_fault cX10_fault 2 (some .int) 0 layC (fX10_fault F S x1) S (fun ad => [.ref (ad 0), .int x1]) := mk_met (fun ad => [(0, .ref (ad 0)), (1, .int x1)]) (by decide) (fun _ => Nat.le_of_ble_eq_true rfl) (fun _ => rfl) (fun E X => gX10_fault X F S x1)
def fX10_feed (F : Nat) (S : ST) (x1 : Int32) (x2 : Int32) (x3 : Int32) (x4 : Int32) (x5 : Int32) : Option (Int32 × ST) :=
  (fX7_hasRoomForFeed F S).bind (fun q4 => if q4.1 = 0 then
    (some ((-1 : Int32), q4.2))
  else
    ((fX7_append F q4.2 x1).bind (fun q17 => (fX7_append F q17.2 x2).bind (fun q25 => (fX7_append F q25.2 x3).bind (fun q33 => (fX7_append F q33.2 x4).bind (fun q42 => (fX7_append F q42.2 x5).bind (fun q51 => some ((q51.2.1 2 1), q51.2))))))))
set_option maxRecDepth 4000 in
theorem gX10_feed {E : CT} (X : Cx E layC cX10_feed RX10 6 (some .int) 1) (F : Nat) (S : ST) (x1 : Int32) (x2 : Int32) (x3 : Int32) (x4 : Int32) (x5 : Int32) : G E (fX10_feed F S x1 x2 x3 x4 x5) S 0 [(0, .ref (eA E 0)), (1, .int x1), (2, .int x2), (3, .int x3), (4, .int x4), (5, .int x5)] [] := by
  unfold fX10_feed
  refine r_aload_n X 0 rfl dX10_feed_0 ?_
  refine r_getR X fk_X10_19 lc_0 rfl dX10_feed_1 ?_
  refine r_callV X (mX7_hasRoomForFeed _ _) mk_X7_hasRoomForFeed lk_X10_98 lc_2 rfl rfl (by decide) (by decide) (Nat.le_of_ble_eq_true rfl) rfl dX10_feed_4 (fun q4 _ => ?_)
  refine r_if_ne (tgt := 12) X dX10_feed_7 (by decide) (fun _ => ?_) (fun _ => ?_)
  · refine r_aload_n X 0 rfl dX10_feed_12 ?_
    refine r_getR X fk_X10_19 lc_0 rfl dX10_feed_13 ?_
    refine r_iload_n X 1 rfl dX10_feed_16 ?_
    refine r_callVv X (mX7_append _ _ _) mk_X7_append lk_X10_102 lc_2 rfl rfl (by decide) (by decide) (Nat.le_of_ble_eq_true rfl) rfl dX10_feed_17 (fun q17 _ => ?_)
    refine r_aload_n X 0 rfl dX10_feed_20 ?_
    refine r_getR X fk_X10_19 lc_0 rfl dX10_feed_21 ?_
    refine r_iload_n X 2 rfl dX10_feed_24 ?_
    refine r_callVv X (mX7_append _ _ _) mk_X7_append lk_X10_102 lc_2 rfl rfl (by decide) (by decide) (Nat.le_of_ble_eq_true rfl) rfl dX10_feed_25 (fun q25 _ => ?_)
    refine r_aload_n X 0 rfl dX10_feed_28 ?_
    refine r_getR X fk_X10_19 lc_0 rfl dX10_feed_29 ?_
    refine r_iload_n X 3 rfl dX10_feed_32 ?_
    refine r_callVv X (mX7_append _ _ _) mk_X7_append lk_X10_102 lc_2 rfl rfl (by decide) (by decide) (Nat.le_of_ble_eq_true rfl) rfl dX10_feed_33 (fun q33 _ => ?_)
    refine r_aload_n X 0 rfl dX10_feed_36 ?_
    refine r_getR X fk_X10_19 lc_0 rfl dX10_feed_37 ?_
    refine r_iload X 4 rfl dX10_feed_40 ?_
    refine r_callVv X (mX7_append _ _ _) mk_X7_append lk_X10_102 lc_2 rfl rfl (by decide) (by decide) (Nat.le_of_ble_eq_true rfl) rfl dX10_feed_42 (fun q42 _ => ?_)
    refine r_aload_n X 0 rfl dX10_feed_45 ?_
    refine r_getR X fk_X10_19 lc_0 rfl dX10_feed_46 ?_
    refine r_iload X 5 rfl dX10_feed_49 ?_
    refine r_callVv X (mX7_append _ _ _) mk_X7_append lk_X10_102 lc_2 rfl rfl (by decide) (by decide) (Nat.le_of_ble_eq_true rfl) rfl dX10_feed_51 (fun q51 _ => ?_)
    refine r_aload_n X 0 rfl dX10_feed_54 ?_
    refine r_getR X fk_X10_19 lc_0 rfl dX10_feed_55 ?_
    refine r_getI X fk_X10_106 lc_2 rfl dX10_feed_58 ?_
    exact r_iret X dX10_feed_61
  · refine r_iconst (v := -1) X (by decide) dX10_feed_10 ?_
    exact r_iret X dX10_feed_11
theorem mX10_feed (F : Nat) (S : ST) (x1 : Int32) (x2 : Int32) (x3 : Int32) (x4 : Int32) (x5 : Int32) : MetS yX10_feed cX10_feed 6 (some .int) 1 layC (fX10_feed F S x1 x2 x3 x4 x5) S (fun ad => [.ref (ad 0), .int x1, .int x2, .int x3, .int x4, .int x5]) := mk_met (fun ad => [(0, .ref (ad 0)), (1, .int x1), (2, .int x2), (3, .int x3), (4, .int x4), (5, .int x5)]) (by decide) (fun _ => Nat.le_of_ble_eq_true rfl) (fun _ => rfl) (fun E X => gX10_feed X F S x1 x2 x3 x4 x5)
def fX10_full (F : Nat) (S : ST) (x1 : Int32) (x2 : Int32) : Option (Int32 × ST) :=
  (fX10_within F S x1 (1 : Int32) (200 : Int32)).bind (fun q5 => if q5.1 = 0 then
    (some ((-1 : Int32), q5.2))
  else
    ((fX10_within F q5.2 x2 (1 : Int32) (50 : Int32)).bind (fun q15 => if q15.1 = 0 then
      (some ((-1 : Int32), q15.2))
    else
      ((fX4_findCentre F q15.2).bind (fun q27 => if (q27.2.1 1 4) = (-1 : Int32) then
        (some ((-1 : Int32), q27.2))
      else
        ((fX4_peeled F q27.2 x1 x2).bind (fun q51 => some (q51.1, q51.2))))))))
set_option maxRecDepth 4000 in
theorem gX10_full {E : CT} (X : Cx E layC cX10_full RX10 3 (some .int) 4) (F : Nat) (S : ST) (x1 : Int32) (x2 : Int32) : G E (fX10_full F S x1 x2) S 0 [(0, .ref (eA E 0)), (1, .int x1), (2, .int x2)] [] := by
  unfold fX10_full
  refine r_iload_n X 1 rfl dX10_full_0 ?_
  refine r_iconst (v := 1) X (by decide) dX10_full_1 ?_
  refine r_sipush (v := 200) X (by decide) dX10_full_2 ?_
  refine r_callS X (mX10_within _ _ _ _ _) mk_X10_within lk_X10_90 rfl (by decide) (by decide) (Nat.le_of_ble_eq_true rfl) rfl dX10_full_5 (fun q5 _ => ?_)
  refine r_if_eq (tgt := 21) X dX10_full_8 (by decide) (fun _ => ?_) (fun _ => ?_)
  · refine r_iconst (v := -1) X (by decide) dX10_full_21 ?_
    exact r_iret X dX10_full_22
  · refine r_iload_n X 2 rfl dX10_full_11 ?_
    refine r_iconst (v := 1) X (by decide) dX10_full_12 ?_
    refine r_bipush (v := 50) X (by decide) dX10_full_13 ?_
    refine r_callS X (mX10_within _ _ _ _ _) mk_X10_within lk_X10_90 rfl (by decide) (by decide) (Nat.le_of_ble_eq_true rfl) rfl dX10_full_15 (fun q15 _ => ?_)
    refine r_if_ne (tgt := 23) X dX10_full_18 (by decide) (fun _ => ?_) (fun _ => ?_)
    · refine r_aload_n X 0 rfl dX10_full_23 ?_
      refine r_getR X fk_X10_10 lc_0 rfl dX10_full_24 ?_
      refine r_callVv X (mX4_findCentre _ _) mk_X4_findCentre lk_X10_78 lc_1 rfl rfl (by decide) (by decide) (Nat.le_of_ble_eq_true rfl) rfl dX10_full_27 (fun q27 _ => ?_)
      refine r_aload_n X 0 rfl dX10_full_30 ?_
      refine r_getR X fk_X10_10 lc_0 rfl dX10_full_31 ?_
      refine r_getI X fk_X10_81 lc_1 rfl dX10_full_34 ?_
      refine r_iconst (v := -1) X (by decide) dX10_full_37 ?_
      refine r_icmp_ne (tgt := 45) X dX10_full_38 (by decide) (fun _ => ?_) (fun _ => ?_)
      · refine r_aload_n X 0 rfl dX10_full_45 ?_
        refine r_getR X fk_X10_10 lc_0 rfl dX10_full_46 ?_
        refine r_iload_n X 1 rfl dX10_full_49 ?_
        refine r_iload_n X 2 rfl dX10_full_50 ?_
        refine r_callV X (mX4_peeled _ _ _ _) mk_X4_peeled lk_X10_94 lc_1 rfl rfl (by decide) (by decide) (Nat.le_of_ble_eq_true rfl) rfl dX10_full_51 (fun q51 _ => ?_)
        exact r_iret X dX10_full_54
      · refine r_iconst (v := -1) X (by decide) dX10_full_41 ?_
        refine r_goto (tgt := 54) X dX10_full_42 (by decide) ?_
        exact r_iret X dX10_full_54
    · refine r_iconst (v := -1) X (by decide) dX10_full_21 ?_
      exact r_iret X dX10_full_22
theorem mX10_full (F : Nat) (S : ST) (x1 : Int32) (x2 : Int32) : MetS yX10_full cX10_full 3 (some .int) 4 layC (fX10_full F S x1 x2) S (fun ad => [.ref (ad 0), .int x1, .int x2]) := mk_met (fun ad => [(0, .ref (ad 0)), (1, .int x1), (2, .int x2)]) (by decide) (fun _ => Nat.le_of_ble_eq_true rfl) (fun _ => rfl) (fun E X => gX10_full X F S x1 x2)
def fX10_glue (F : Nat) (S : ST) (x1 : Int32) (x2 : Int32) : Option (Int32 × ST) :=
  (fX10_within F S x1 (1 : Int32) (500 : Int32)).bind (fun q5 => if q5.1 = 0 then
    (some ((-1 : Int32), q5.2))
  else
    ((fX10_within F q5.2 x2 (0 : Int32) (10000 : Int32)).bind (fun q16 => if q16.1 = 0 then
      (some ((-1 : Int32), q16.2))
    else
      ((fX6_addBoard F q16.2 x1 x2).bind (fun q30 => some (q30.1, q30.2))))))
set_option maxRecDepth 4000 in
theorem gX10_glue {E : CT} (X : Cx E layC cX10_glue RX10 3 (some .int) 1) (F : Nat) (S : ST) (x1 : Int32) (x2 : Int32) : G E (fX10_glue F S x1 x2) S 0 [(0, .ref (eA E 0)), (1, .int x1), (2, .int x2)] [] := by
  unfold fX10_glue
  refine r_iload_n X 1 rfl dX10_glue_0 ?_
  refine r_iconst (v := 1) X (by decide) dX10_glue_1 ?_
  refine r_sipush (v := 500) X (by decide) dX10_glue_2 ?_
  refine r_callS X (mX10_within _ _ _ _ _) mk_X10_within lk_X10_90 rfl (by decide) (by decide) (Nat.le_of_ble_eq_true rfl) rfl dX10_glue_5 (fun q5 _ => ?_)
  refine r_if_eq (tgt := 22) X dX10_glue_8 (by decide) (fun _ => ?_) (fun _ => ?_)
  · refine r_iconst (v := -1) X (by decide) dX10_glue_22 ?_
    exact r_iret X dX10_glue_23
  · refine r_iload_n X 2 rfl dX10_glue_11 ?_
    refine r_iconst (v := 0) X (by decide) dX10_glue_12 ?_
    refine r_sipush (v := 10000) X (by decide) dX10_glue_13 ?_
    refine r_callS X (mX10_within _ _ _ _ _) mk_X10_within lk_X10_90 rfl (by decide) (by decide) (Nat.le_of_ble_eq_true rfl) rfl dX10_glue_16 (fun q16 _ => ?_)
    refine r_if_ne (tgt := 24) X dX10_glue_19 (by decide) (fun _ => ?_) (fun _ => ?_)
    · refine r_aload_n X 0 rfl dX10_glue_24 ?_
      refine r_getR X fk_X10_63 lc_0 rfl dX10_glue_25 ?_
      refine r_iload_n X 1 rfl dX10_glue_28 ?_
      refine r_iload_n X 2 rfl dX10_glue_29 ?_
      refine r_callV X (mX6_addBoard _ _ _ _) mk_X6_addBoard lk_X10_203 lc_11 rfl rfl (by decide) (by decide) (Nat.le_of_ble_eq_true rfl) rfl dX10_glue_30 (fun q30 _ => ?_)
      exact r_iret X dX10_glue_33
    · refine r_iconst (v := -1) X (by decide) dX10_glue_22 ?_
      exact r_iret X dX10_glue_23
theorem mX10_glue (F : Nat) (S : ST) (x1 : Int32) (x2 : Int32) : MetS yX10_glue cX10_glue 3 (some .int) 1 layC (fX10_glue F S x1 x2) S (fun ad => [.ref (ad 0), .int x1, .int x2]) := mk_met (fun ad => [(0, .ref (ad 0)), (1, .int x1), (2, .int x2)]) (by decide) (fun _ => Nat.le_of_ble_eq_true rfl) (fun _ => rfl) (fun E X => gX10_glue X F S x1 x2)
def fX10_grades_48 (F : Nat) (S : ST) (x1 : Int32) (s0 : Int32) : Option (Int32 × ST) :=
  bindS (us S 0 9 s0) (fun S48 => if x1 = 0 then
    (some ((-1 : Int32), S48))
  else
    ((fX2_copyFrom F S48).bind (fun q68 => (fX0_forget F q68.2).bind (fun q75 => some ((q75.2.1 6 5), q75.2)))))
set_option maxRecDepth 4000 in
theorem gX10_grades_48 {E : CT} (X : Cx E layC cX10_grades RX10 2 (some .int) 63) (F : Nat) (S : ST) (x1 : Int32) (s0 : Int32) : G E (fX10_grades_48 F S x1 s0) S 48 [(0, .ref (eA E 0)), (1, .int x1)] [.int s0, .ref (eA E 0)] := by
  unfold fX10_grades_48
  refine r_putI X pk_X10_71 lc_0 rfl dX10_grades_48 ?_
  refine r_bindS (fun S48 => ?_)
  refine r_iload_n X 1 rfl dX10_grades_51 ?_
  refine r_if_ne (tgt := 57) X dX10_grades_52 (by decide) (fun _ => ?_) (fun _ => ?_)
  · refine r_aload_n X 0 rfl dX10_grades_57 ?_
    refine r_getR X fk_X10_33 lc_0 rfl dX10_grades_58 ?_
    refine r_aload_n X 0 rfl dX10_grades_61 ?_
    refine r_getR X fk_X10_26 lc_0 rfl dX10_grades_62 ?_
    refine r_getR X fk_X10_124 lc_3 rfl dX10_grades_65 ?_
    refine r_callVv X (mX2_copyFrom _ _) mk_X2_copyFrom lk_X10_127 lc_6 rfl rfl (by decide) (by decide) (Nat.le_of_ble_eq_true rfl) rfl dX10_grades_68 (fun q68 _ => ?_)
    refine r_aload_n X 0 rfl dX10_grades_71 ?_
    refine r_getR X fk_X10_49 lc_0 rfl dX10_grades_72 ?_
    refine r_callVv X (mX0_forget _ _) mk_X0_forget lk_X10_131 lc_9 rfl rfl (by decide) (by decide) (Nat.le_of_ble_eq_true rfl) rfl dX10_grades_75 (fun q75 _ => ?_)
    refine r_aload_n X 0 rfl dX10_grades_78 ?_
    refine r_getR X fk_X10_33 lc_0 rfl dX10_grades_79 ?_
    refine r_getI X fk_X10_134 lc_6 rfl dX10_grades_82 ?_
    exact r_iret X dX10_grades_85
  · refine r_iconst (v := -1) X (by decide) dX10_grades_55 ?_
    exact r_iret X dX10_grades_56
def fX10_grades (F : Nat) (S : ST) : Option (Int32 × ST) :=
  (fX1_readLines F S).bind (fun q8 => (fX7_keep F q8.2 (0 : Int32)).bind (fun q17 => bindS (us q17.2 0 8 (q17.2.1 3 2)) (fun S29 => if q8.1 = 0 then
    ((fX1_placeReached F S29).bind (fun q45 => fX10_grades_48 F q45.2 q8.1 q45.1))
  else
    (fX10_grades_48 F S29 q8.1 (-1 : Int32)))))
set_option maxRecDepth 4000 in
theorem gX10_grades {E : CT} (X : Cx E layC cX10_grades RX10 2 (some .int) 63) (F : Nat) (S : ST) : G E (fX10_grades F S) S 0 [(0, .ref (eA E 0))] [] := by
  unfold fX10_grades
  refine r_aload_n X 0 rfl dX10_grades_0 ?_
  refine r_getR X fk_X10_26 lc_0 rfl dX10_grades_1 ?_
  refine r_aload_n X 0 rfl dX10_grades_4 ?_
  refine r_getR X fk_X10_19 lc_0 rfl dX10_grades_5 ?_
  refine r_callV X (mX1_readLines _ _) mk_X1_readLines lk_X10_113 lc_3 rfl rfl (by decide) (by decide) (Nat.le_of_ble_eq_true rfl) rfl dX10_grades_8 (fun q8 _ => ?_)
  refine r_istore_n (lv' := [(0, _), (1, _)]) X (by decide) rfl dX10_grades_11 ?_
  refine r_aload_n X 0 rfl dX10_grades_12 ?_
  refine r_getR X fk_X10_19 lc_0 rfl dX10_grades_13 ?_
  refine r_iconst (v := 0) X (by decide) dX10_grades_16 ?_
  refine r_callV X (mX7_keep _ _ _) mk_X7_keep lk_X10_109 lc_2 rfl rfl (by decide) (by decide) (Nat.le_of_ble_eq_true rfl) rfl dX10_grades_17 (fun q17 _ => ?_)
  refine r_pop X rfl dX10_grades_20 ?_
  refine r_aload_n X 0 rfl dX10_grades_21 ?_
  refine r_aload_n X 0 rfl dX10_grades_22 ?_
  refine r_getR X fk_X10_26 lc_0 rfl dX10_grades_23 ?_
  refine r_getI X fk_X10_117 lc_3 rfl dX10_grades_26 ?_
  refine r_putI X pk_X10_67 lc_0 rfl dX10_grades_29 ?_
  refine r_bindS (fun S29 => ?_)
  refine r_aload_n X 0 rfl dX10_grades_32 ?_
  refine r_iload_n X 1 rfl dX10_grades_33 ?_
  refine r_if_eq (tgt := 41) X dX10_grades_34 (by decide) (fun _ => ?_) (fun _ => ?_)
  · refine r_aload_n X 0 rfl dX10_grades_41 ?_
    refine r_getR X fk_X10_26 lc_0 rfl dX10_grades_42 ?_
    refine r_callV X (mX1_placeReached _ _) mk_X1_placeReached lk_X10_120 lc_3 rfl rfl (by decide) (by decide) (Nat.le_of_ble_eq_true rfl) rfl dX10_grades_45 (fun q45 _ => ?_)
    exact gX10_grades_48 X F _ _ _
  · refine r_iconst (v := -1) X (by decide) dX10_grades_37 ?_
    refine r_goto (tgt := 48) X dX10_grades_38 (by decide) ?_
    exact gX10_grades_48 X F _ _ _
theorem mX10_grades (F : Nat) (S : ST) : MetS yX10_grades cX10_grades 2 (some .int) 63 layC (fX10_grades F S) S (fun ad => [.ref (ad 0)]) := mk_met (fun ad => [(0, .ref (ad 0))]) (by decide) (fun _ => Nat.le_of_ble_eq_true rfl) (fun _ => rfl) (fun E X => gX10_grades X F S)
def fX10_leaf_53 (F : Nat) (S : ST) : Option (Int32 × ST) :=
  (fX7_keep F S (0 : Int32)).bind (fun q58 => if (q58.2.1 0 8) = 0 then
    (some ((q58.2.1 7 5), q58.2))
  else
    (some ((-1 : Int32), q58.2)))
set_option maxRecDepth 4000 in
theorem gX10_leaf_53 {E : CT} (X : Cx E layC cX10_leaf RX10 1 (some .int) 2) (F : Nat) (S : ST) : G E (fX10_leaf_53 F S) S 53 [(0, .ref (eA E 0))] [] := by
  unfold fX10_leaf_53
  refine r_aload_n X 0 rfl dX10_leaf_53 ?_
  refine r_getR X fk_X10_19 lc_0 rfl dX10_leaf_54 ?_
  refine r_iconst (v := 0) X (by decide) dX10_leaf_57 ?_
  refine r_callV X (mX7_keep _ _ _) mk_X7_keep lk_X10_109 lc_2 rfl rfl (by decide) (by decide) (Nat.le_of_ble_eq_true rfl) rfl dX10_leaf_58 (fun q58 _ => ?_)
  refine r_pop X rfl dX10_leaf_61 ?_
  refine r_aload_n X 0 rfl dX10_leaf_62 ?_
  refine r_getI X fk_X10_67 lc_0 rfl dX10_leaf_63 ?_
  refine r_if_ne (tgt := 79) X dX10_leaf_66 (by decide) (fun _ => ?_) (fun _ => ?_)
  · refine r_iconst (v := -1) X (by decide) dX10_leaf_79 ?_
    exact r_iret X dX10_leaf_80
  · refine r_aload_n X 0 rfl dX10_leaf_69 ?_
    refine r_getR X fk_X10_40 lc_0 rfl dX10_leaf_70 ?_
    refine r_getI X fk_X10_145 lc_7 rfl dX10_leaf_73 ?_
    refine r_goto (tgt := 80) X dX10_leaf_76 (by decide) ?_
    exact r_iret X dX10_leaf_80
def fX10_leaf_25 (F : Nat) (S : ST) (s0 : Int32) : Option (Int32 × ST) :=
  bindS (us S 0 8 s0) (fun S25 => if (S25.1 0 8) = 0 then
    ((fX3_take F S25).bind (fun q43 => (fX0_forget F q43.2).bind (fun q50 => fX10_leaf_53 F q50.2)))
  else
    (fX10_leaf_53 F S25))
set_option maxRecDepth 4000 in
theorem gX10_leaf_25 {E : CT} (X : Cx E layC cX10_leaf RX10 1 (some .int) 2) (F : Nat) (S : ST) (s0 : Int32) : G E (fX10_leaf_25 F S s0) S 25 [(0, .ref (eA E 0))] [.int s0, .ref (eA E 0)] := by
  unfold fX10_leaf_25
  refine r_putI X pk_X10_67 lc_0 rfl dX10_leaf_25 ?_
  refine r_bindS (fun S25 => ?_)
  refine r_aload_n X 0 rfl dX10_leaf_28 ?_
  refine r_getI X fk_X10_67 lc_0 rfl dX10_leaf_29 ?_
  refine r_if_ne (tgt := 53) X dX10_leaf_32 (by decide) (fun _ => ?_) (fun _ => ?_)
  · exact gX10_leaf_53 X F _
  · refine r_aload_n X 0 rfl dX10_leaf_35 ?_
    refine r_getR X fk_X10_40 lc_0 rfl dX10_leaf_36 ?_
    refine r_aload_n X 0 rfl dX10_leaf_39 ?_
    refine r_getR X fk_X10_19 lc_0 rfl dX10_leaf_40 ?_
    refine r_callVv X (mX3_take _ _) mk_X3_take lk_X10_141 lc_7 rfl rfl (by decide) (by decide) (Nat.le_of_ble_eq_true rfl) rfl dX10_leaf_43 (fun q43 _ => ?_)
    refine r_aload_n X 0 rfl dX10_leaf_46 ?_
    refine r_getR X fk_X10_49 lc_0 rfl dX10_leaf_47 ?_
    refine r_callVv X (mX0_forget _ _) mk_X0_forget lk_X10_131 lc_9 rfl rfl (by decide) (by decide) (Nat.le_of_ble_eq_true rfl) rfl dX10_leaf_50 (fun q50 _ => ?_)
    exact gX10_leaf_53 X F _
def fX10_leaf (F : Nat) (S : ST) : Option (Int32 × ST) :=
  (fX3_firstFault F S).bind (fun q5 => bindS (us q5.2 0 9 q5.1) (fun S8 => if (S8.1 0 9) = (-1 : Int32) then
    (fX10_leaf_25 F S8 (0 : Int32))
  else
    (fX10_leaf_25 F S8 (1 : Int32))))
set_option maxRecDepth 4000 in
theorem gX10_leaf {E : CT} (X : Cx E layC cX10_leaf RX10 1 (some .int) 2) (F : Nat) (S : ST) : G E (fX10_leaf F S) S 0 [(0, .ref (eA E 0))] [] := by
  unfold fX10_leaf
  refine r_aload_n X 0 rfl dX10_leaf_0 ?_
  refine r_aload_n X 0 rfl dX10_leaf_1 ?_
  refine r_getR X fk_X10_19 lc_0 rfl dX10_leaf_2 ?_
  refine r_callS X (mX3_firstFault _ _) mk_X3_firstFault lk_X10_137 rfl (by decide) (by decide) (Nat.le_of_ble_eq_true rfl) rfl dX10_leaf_5 (fun q5 _ => ?_)
  refine r_putI X pk_X10_71 lc_0 rfl dX10_leaf_8 ?_
  refine r_bindS (fun S8 => ?_)
  refine r_aload_n X 0 rfl dX10_leaf_11 ?_
  refine r_aload_n X 0 rfl dX10_leaf_12 ?_
  refine r_getI X fk_X10_71 lc_0 rfl dX10_leaf_13 ?_
  refine r_iconst (v := -1) X (by decide) dX10_leaf_16 ?_
  refine r_icmp_ne (tgt := 24) X dX10_leaf_17 (by decide) (fun _ => ?_) (fun _ => ?_)
  · refine r_iconst (v := 1) X (by decide) dX10_leaf_24 ?_
    exact gX10_leaf_25 X F _ _
  · refine r_iconst (v := 0) X (by decide) dX10_leaf_20 ?_
    refine r_goto (tgt := 25) X dX10_leaf_21 (by decide) ?_
    exact gX10_leaf_25 X F _ _
theorem mX10_leaf (F : Nat) (S : ST) : MetS yX10_leaf cX10_leaf 1 (some .int) 2 layC (fX10_leaf F S) S (fun ad => [.ref (ad 0)]) := mk_met (fun ad => [(0, .ref (ad 0))]) (by decide) (fun _ => Nat.le_of_ble_eq_true rfl) (fun _ => rfl) (fun E X => gX10_leaf X F S)
def fX10_load (F : Nat) (S : ST) (x1 : Int32) (x2 : Int32) : Option (Int32 × ST) :=
  (fX6_find F S).bind (fun q4 => (fX6_tell F q4.2 x1 x2).bind (fun q13 => some (q13.1, q13.2)))
set_option maxRecDepth 4000 in
theorem gX10_load {E : CT} (X : Cx E layC cX10_load RX10 3 (some .int) 4) (F : Nat) (S : ST) (x1 : Int32) (x2 : Int32) : G E (fX10_load F S x1 x2) S 0 [(0, .ref (eA E 0)), (1, .int x1), (2, .int x2)] [] := by
  unfold fX10_load
  refine r_aload_n X 0 rfl dX10_load_0 ?_
  refine r_getR X fk_X10_63 lc_0 rfl dX10_load_1 ?_
  refine r_callVv X (mX6_find _ _) mk_X6_find lk_X10_209 lc_11 rfl rfl (by decide) (by decide) (Nat.le_of_ble_eq_true rfl) rfl dX10_load_4 (fun q4 _ => ?_)
  refine r_aload_n X 0 rfl dX10_load_7 ?_
  refine r_getR X fk_X10_63 lc_0 rfl dX10_load_8 ?_
  refine r_iload_n X 1 rfl dX10_load_11 ?_
  refine r_iload_n X 2 rfl dX10_load_12 ?_
  refine r_callV X (mX6_tell _ _ _ _) mk_X6_tell lk_X10_224 lc_11 rfl rfl (by decide) (by decide) (Nat.le_of_ble_eq_true rfl) rfl dX10_load_13 (fun q13 _ => ?_)
  exact r_iret X dX10_load_16
theorem mX10_load (F : Nat) (S : ST) (x1 : Int32) (x2 : Int32) : MetS yX10_load cX10_load 3 (some .int) 4 layC (fX10_load F S x1 x2) S (fun ad => [.ref (ad 0), .int x1, .int x2]) := mk_met (fun ad => [(0, .ref (ad 0)), (1, .int x1), (2, .int x2)]) (by decide) (fun _ => Nat.le_of_ble_eq_true rfl) (fun _ => rfl) (fun E X => gX10_load X F S x1 x2)
def fX10_net (F : Nat) (S : ST) (x1 : Int32) (x2 : Int32) : Option (Int32 × ST) :=
  (fX4_putRow F S x1 x2).bind (fun q6 => if q6.1 &&& 1 = q6.1 then some (q6.1, q6.2) else none)
set_option maxRecDepth 4000 in
theorem gX10_net {E : CT} (X : Cx E layC cX10_net RX10 3 (some .boolean) 2) (F : Nat) (S : ST) (x1 : Int32) (x2 : Int32) : G E (fX10_net F S x1 x2) S 0 [(0, .ref (eA E 0)), (1, .int x1), (2, .int x2)] [] := by
  unfold fX10_net
  refine r_aload_n X 0 rfl dX10_net_0 ?_
  refine r_getR X fk_X10_10 lc_0 rfl dX10_net_1 ?_
  refine r_iload_n X 1 rfl dX10_net_4 ?_
  refine r_iload_n X 2 rfl dX10_net_5 ?_
  refine r_callV X (mX4_putRow _ _ _ _) mk_X4_putRow lk_X10_74 lc_1 rfl rfl (by decide) (by decide) (Nat.le_of_ble_eq_true rfl) rfl dX10_net_6 (fun q6 _ => ?_)
  exact r_zretC X dX10_net_9
theorem mX10_net (F : Nat) (S : ST) (x1 : Int32) (x2 : Int32) : MetS yX10_net cX10_net 3 (some .boolean) 2 layC (fX10_net F S x1 x2) S (fun ad => [.ref (ad 0), .int x1, .int x2]) := mk_met (fun ad => [(0, .ref (ad 0)), (1, .int x1), (2, .int x2)]) (by decide) (fun _ => Nat.le_of_ble_eq_true rfl) (fun _ => rfl) (fun E X => gX10_net X F S x1 x2)
def fX10_patch (F : Nat) (S : ST) (x1 : Int32) (x2 : Int32) : Option (Int32 × ST) :=
  (fX10_within F S x1 (0 : Int32) (3 : Int32)).bind (fun q3 => if q3.1 = 0 then
    (some ((0 : Int32), q3.2))
  else
    ((fX10_within F q3.2 x2 (0 : Int32) (100 : Int32)).bind (fun q13 => if q13.1 = 0 then
      (some ((0 : Int32), q13.2))
    else
      ((fX0_setPatching F q13.2 x1 x2).bind (fun q27 => some ((1 : Int32), q27.2))))))
set_option maxRecDepth 4000 in
theorem gX10_patch {E : CT} (X : Cx E layC cX10_patch RX10 3 (some .boolean) 1) (F : Nat) (S : ST) (x1 : Int32) (x2 : Int32) : G E (fX10_patch F S x1 x2) S 0 [(0, .ref (eA E 0)), (1, .int x1), (2, .int x2)] [] := by
  unfold fX10_patch
  refine r_iload_n X 1 rfl dX10_patch_0 ?_
  refine r_iconst (v := 0) X (by decide) dX10_patch_1 ?_
  refine r_iconst (v := 3) X (by decide) dX10_patch_2 ?_
  refine r_callS X (mX10_within _ _ _ _ _) mk_X10_within lk_X10_90 rfl (by decide) (by decide) (Nat.le_of_ble_eq_true rfl) rfl dX10_patch_3 (fun q3 _ => ?_)
  refine r_if_eq (tgt := 19) X dX10_patch_6 (by decide) (fun _ => ?_) (fun _ => ?_)
  · refine r_iconst (v := 0) X (by decide) dX10_patch_19 ?_
    exact r_zret X (by decide) dX10_patch_20
  · refine r_iload_n X 2 rfl dX10_patch_9 ?_
    refine r_iconst (v := 0) X (by decide) dX10_patch_10 ?_
    refine r_bipush (v := 100) X (by decide) dX10_patch_11 ?_
    refine r_callS X (mX10_within _ _ _ _ _) mk_X10_within lk_X10_90 rfl (by decide) (by decide) (Nat.le_of_ble_eq_true rfl) rfl dX10_patch_13 (fun q13 _ => ?_)
    refine r_if_ne (tgt := 21) X dX10_patch_16 (by decide) (fun _ => ?_) (fun _ => ?_)
    · refine r_aload_n X 0 rfl dX10_patch_21 ?_
      refine r_getR X fk_X10_49 lc_0 rfl dX10_patch_22 ?_
      refine r_iload_n X 1 rfl dX10_patch_25 ?_
      refine r_iload_n X 2 rfl dX10_patch_26 ?_
      refine r_callVv X (mX0_setPatching _ _ _ _) mk_X0_setPatching lk_X10_148 lc_9 rfl rfl (by decide) (by decide) (Nat.le_of_ble_eq_true rfl) rfl dX10_patch_27 (fun q27 _ => ?_)
      refine r_iconst (v := 1) X (by decide) dX10_patch_30 ?_
      exact r_zret X (by decide) dX10_patch_31
    · refine r_iconst (v := 0) X (by decide) dX10_patch_19 ?_
      exact r_zret X (by decide) dX10_patch_20
theorem mX10_patch (F : Nat) (S : ST) (x1 : Int32) (x2 : Int32) : MetS yX10_patch cX10_patch 3 (some .boolean) 1 layC (fX10_patch F S x1 x2) S (fun ad => [.ref (ad 0), .int x1, .int x2]) := mk_met (fun ad => [(0, .ref (ad 0)), (1, .int x1), (2, .int x2)]) (by decide) (fun _ => Nat.le_of_ble_eq_true rfl) (fun _ => rfl) (fun E X => gX10_patch X F S x1 x2)
def fX10_plan (F : Nat) (S : ST) (x1 : Int32) : Option (Int32 × ST) :=
  (fX6_find F S).bind (fun q4 => (if x1 = (0 : Int32) then
    ((fJ6_bitCount_0f7a4 F q4.2 (q4.2.1 11 13)).bind (fun q47 => some (q47.1, q47.2)))
  else (if x1 = (1 : Int32) then
    (some ((q4.2.1 11 13), q4.2))
  else (if x1 = (2 : Int32) then
    ((fX6_outOf F q4.2 (q4.2.1 11 13)).bind (fun q70 => some (q70.1, q70.2)))
  else (if x1 = (3 : Int32) then
    (some ((q4.2.1 11 14), q4.2))
  else (some ((-1 : Int32), q4.2)))))))
set_option maxRecDepth 4000 in
theorem gX10_plan {E : CT} (X : Cx E layC cX10_plan RX10 2 (some .int) 4) (F : Nat) (S : ST) (x1 : Int32) : G E (fX10_plan F S x1) S 0 [(0, .ref (eA E 0)), (1, .int x1)] [] := by
  unfold fX10_plan
  refine r_aload_n X 0 rfl dX10_plan_0 ?_
  refine r_getR X fk_X10_63 lc_0 rfl dX10_plan_1 ?_
  refine r_callVv X (mX6_find _ _) mk_X6_find lk_X10_209 lc_11 rfl rfl (by decide) (by decide) (Nat.le_of_ble_eq_true rfl) rfl dX10_plan_4 (fun q4 _ => ?_)
  refine r_iload_n X 1 rfl dX10_plan_7 ?_
  refine r_ite (fun hh0 => ?_) (fun hh0 => ?_)
  · refine r_tsIn (tgt := 40) X (0) hh0 dX10_plan_8 (by decide) (by decide) rfl (by decide) ?_
    refine r_aload_n X 0 rfl dX10_plan_40 ?_
    refine r_getR X fk_X10_63 lc_0 rfl dX10_plan_41 ?_
    refine r_getI X fk_X10_210 lc_11 rfl dX10_plan_44 ?_
    refine r_callS X (mJ6_bitCount_0f7a4 _ _ _) mk_J6_bitCount_0f7a4 lk_X10_213 rfl (by decide) (by decide) (Nat.le_of_ble_eq_true rfl) rfl dX10_plan_47 (fun q47 _ => ?_)
    exact r_iret X dX10_plan_50
  refine r_ite (fun hh1 => ?_) (fun hh1 => ?_)
  · refine r_tsIn (tgt := 51) X (1) hh1 dX10_plan_8 (by decide) (by decide) rfl (by decide) ?_
    refine r_aload_n X 0 rfl dX10_plan_51 ?_
    refine r_getR X fk_X10_63 lc_0 rfl dX10_plan_52 ?_
    refine r_getI X fk_X10_210 lc_11 rfl dX10_plan_55 ?_
    exact r_iret X dX10_plan_58
  refine r_ite (fun hh2 => ?_) (fun hh2 => ?_)
  · refine r_tsIn (tgt := 59) X (2) hh2 dX10_plan_8 (by decide) (by decide) rfl (by decide) ?_
    refine r_aload_n X 0 rfl dX10_plan_59 ?_
    refine r_getR X fk_X10_63 lc_0 rfl dX10_plan_60 ?_
    refine r_aload_n X 0 rfl dX10_plan_63 ?_
    refine r_getR X fk_X10_63 lc_0 rfl dX10_plan_64 ?_
    refine r_getI X fk_X10_210 lc_11 rfl dX10_plan_67 ?_
    refine r_callV X (mX6_outOf _ _ _) mk_X6_outOf lk_X10_218 lc_11 rfl rfl (by decide) (by decide) (Nat.le_of_ble_eq_true rfl) rfl dX10_plan_70 (fun q70 _ => ?_)
    exact r_iret X dX10_plan_73
  refine r_ite (fun hh3 => ?_) (fun hh3 => ?_)
  · refine r_tsIn (tgt := 74) X (3) hh3 dX10_plan_8 (by decide) (by decide) rfl (by decide) ?_
    refine r_aload_n X 0 rfl dX10_plan_74 ?_
    refine r_getR X fk_X10_63 lc_0 rfl dX10_plan_75 ?_
    refine r_getI X fk_X10_221 lc_11 rfl dX10_plan_78 ?_
    exact r_iret X dX10_plan_81
  refine r_tsOut (tgt := 82) X (by have a0 := lv_neT hh0 (k := 0) (a := 0) rfl; have a1 := lv_neT hh1 (k := 1) (a := 1) rfl; have a2 := lv_neT hh2 (k := 2) (a := 2) rfl; have a3 := lv_neT hh3 (k := 3) (a := 3) rfl; omega) dX10_plan_8 (by decide) ?_
  refine r_iconst (v := -1) X (by decide) dX10_plan_82 ?_
  exact r_iret X dX10_plan_83
theorem mX10_plan (F : Nat) (S : ST) (x1 : Int32) : MetS yX10_plan cX10_plan 2 (some .int) 4 layC (fX10_plan F S x1) S (fun ad => [.ref (ad 0), .int x1]) := mk_met (fun ad => [(0, .ref (ad 0)), (1, .int x1)]) (by decide) (fun _ => Nat.le_of_ble_eq_true rfl) (fun _ => rfl) (fun E X => gX10_plan X F S x1)
def fX10_press (F : Nat) (S : ST) (x1 : Int32) (x2 : Int32) (x3 : Int32) (x4 : Int32) : Option (Int32 × ST) :=
  (fX10_within F S x1 (1 : Int32) (10 : Int32)).bind (fun q4 => if q4.1 = 0 then
    (some ((0 : Int32), q4.2))
  else
    ((fX10_within F q4.2 x2 (0 : Int32) (100 : Int32)).bind (fun q14 => if q14.1 = 0 then
      (some ((0 : Int32), q14.2))
    else
      ((fX10_within F q14.2 x3 (0 : Int32) (10 : Int32)).bind (fun q26 => if q26.1 = 0 then
        (some ((0 : Int32), q26.2))
      else
        ((fX10_within F q26.2 x4 (1 : Int32) (1000 : Int32)).bind (fun q38 => if q38.1 = 0 then
          (some ((0 : Int32), q38.2))
        else
          ((fX6_set F q38.2 x1 x2 x3 x4).bind (fun q55 => some ((1 : Int32), q55.2))))))))))
set_option maxRecDepth 4000 in
theorem gX10_press {E : CT} (X : Cx E layC cX10_press RX10 5 (some .boolean) 1) (F : Nat) (S : ST) (x1 : Int32) (x2 : Int32) (x3 : Int32) (x4 : Int32) : G E (fX10_press F S x1 x2 x3 x4) S 0 [(0, .ref (eA E 0)), (1, .int x1), (2, .int x2), (3, .int x3), (4, .int x4)] [] := by
  unfold fX10_press
  refine r_iload_n X 1 rfl dX10_press_0 ?_
  refine r_iconst (v := 1) X (by decide) dX10_press_1 ?_
  refine r_bipush (v := 10) X (by decide) dX10_press_2 ?_
  refine r_callS X (mX10_within _ _ _ _ _) mk_X10_within lk_X10_90 rfl (by decide) (by decide) (Nat.le_of_ble_eq_true rfl) rfl dX10_press_4 (fun q4 _ => ?_)
  refine r_if_eq (tgt := 20) X dX10_press_7 (by decide) (fun _ => ?_) (fun _ => ?_)
  · refine r_iconst (v := 0) X (by decide) dX10_press_20 ?_
    exact r_zret X (by decide) dX10_press_21
  · refine r_iload_n X 2 rfl dX10_press_10 ?_
    refine r_iconst (v := 0) X (by decide) dX10_press_11 ?_
    refine r_bipush (v := 100) X (by decide) dX10_press_12 ?_
    refine r_callS X (mX10_within _ _ _ _ _) mk_X10_within lk_X10_90 rfl (by decide) (by decide) (Nat.le_of_ble_eq_true rfl) rfl dX10_press_14 (fun q14 _ => ?_)
    refine r_if_ne (tgt := 22) X dX10_press_17 (by decide) (fun _ => ?_) (fun _ => ?_)
    · refine r_iload_n X 3 rfl dX10_press_22 ?_
      refine r_iconst (v := 0) X (by decide) dX10_press_23 ?_
      refine r_bipush (v := 10) X (by decide) dX10_press_24 ?_
      refine r_callS X (mX10_within _ _ _ _ _) mk_X10_within lk_X10_90 rfl (by decide) (by decide) (Nat.le_of_ble_eq_true rfl) rfl dX10_press_26 (fun q26 _ => ?_)
      refine r_if_eq (tgt := 44) X dX10_press_29 (by decide) (fun _ => ?_) (fun _ => ?_)
      · refine r_iconst (v := 0) X (by decide) dX10_press_44 ?_
        exact r_zret X (by decide) dX10_press_45
      · refine r_iload X 4 rfl dX10_press_32 ?_
        refine r_iconst (v := 1) X (by decide) dX10_press_34 ?_
        refine r_sipush (v := 1000) X (by decide) dX10_press_35 ?_
        refine r_callS X (mX10_within _ _ _ _ _) mk_X10_within lk_X10_90 rfl (by decide) (by decide) (Nat.le_of_ble_eq_true rfl) rfl dX10_press_38 (fun q38 _ => ?_)
        refine r_if_ne (tgt := 46) X dX10_press_41 (by decide) (fun _ => ?_) (fun _ => ?_)
        · refine r_aload_n X 0 rfl dX10_press_46 ?_
          refine r_getR X fk_X10_63 lc_0 rfl dX10_press_47 ?_
          refine r_iload_n X 1 rfl dX10_press_50 ?_
          refine r_iload_n X 2 rfl dX10_press_51 ?_
          refine r_iload_n X 3 rfl dX10_press_52 ?_
          refine r_iload X 4 rfl dX10_press_53 ?_
          refine r_callVv X (mX6_set _ _ _ _ _ _) mk_X6_set lk_X10_200 lc_11 rfl rfl (by decide) (by decide) (Nat.le_of_ble_eq_true rfl) rfl dX10_press_55 (fun q55 _ => ?_)
          refine r_iconst (v := 1) X (by decide) dX10_press_58 ?_
          exact r_zret X (by decide) dX10_press_59
        · refine r_iconst (v := 0) X (by decide) dX10_press_44 ?_
          exact r_zret X (by decide) dX10_press_45
    · refine r_iconst (v := 0) X (by decide) dX10_press_20 ?_
      exact r_zret X (by decide) dX10_press_21
theorem mX10_press (F : Nat) (S : ST) (x1 : Int32) (x2 : Int32) (x3 : Int32) (x4 : Int32) : MetS yX10_press cX10_press 5 (some .boolean) 1 layC (fX10_press F S x1 x2 x3 x4) S (fun ad => [.ref (ad 0), .int x1, .int x2, .int x3, .int x4]) := mk_met (fun ad => [(0, .ref (ad 0)), (1, .int x1), (2, .int x2), (3, .int x3), (4, .int x4)]) (by decide) (fun _ => Nat.le_of_ble_eq_true rfl) (fun _ => rfl) (fun E X => gX10_press X F S x1 x2 x3 x4)
def fX10_sheet (F : Nat) (S : ST) (x1 : Int32) (x2 : Int32) (x3 : Int32) : Option (Int32 × ST) :=
  (fX10_within F S x3 (0 : Int32) (3 : Int32)).bind (fun q3 => if q3.1 = 0 then
    (some ((-1 : Int32), q3.2))
  else
    ((fX10_within F q3.2 x2 (0 : Int32) ((q3.2.1 6 5) - (1 : Int32))).bind (fun q20 => if q20.1 = 0 then
      (some ((-1 : Int32), q20.2))
    else
      ((fX2_widthOf F q20.2 x2).bind (fun q42 => (fX10_within F q42.2 x1 (0 : Int32) ((q20.2.1 7 5) - q42.1)).bind (fun q46 => if q46.1 = 0 then
        (some ((-1 : Int32), q46.2))
      else
        ((fX0_isSheet F q46.2 x1 x2 x3).bind (fun q61 => if q61.1 = 0 then
          (some ((0 : Int32), q61.2))
        else
          (some ((1 : Int32), q61.2))))))))))
set_option maxRecDepth 4000 in
theorem gX10_sheet {E : CT} (X : Cx E layC cX10_sheet RX10 4 (some .int) 5) (F : Nat) (S : ST) (x1 : Int32) (x2 : Int32) (x3 : Int32) : G E (fX10_sheet F S x1 x2 x3) S 0 [(0, .ref (eA E 0)), (1, .int x1), (2, .int x2), (3, .int x3)] [] := by
  unfold fX10_sheet
  refine r_iload_n X 3 rfl dX10_sheet_0 ?_
  refine r_iconst (v := 0) X (by decide) dX10_sheet_1 ?_
  refine r_iconst (v := 3) X (by decide) dX10_sheet_2 ?_
  refine r_callS X (mX10_within _ _ _ _ _) mk_X10_within lk_X10_90 rfl (by decide) (by decide) (Nat.le_of_ble_eq_true rfl) rfl dX10_sheet_3 (fun q3 _ => ?_)
  refine r_if_eq (tgt := 26) X dX10_sheet_6 (by decide) (fun _ => ?_) (fun _ => ?_)
  · refine r_iconst (v := -1) X (by decide) dX10_sheet_26 ?_
    exact r_iret X dX10_sheet_27
  · refine r_iload_n X 2 rfl dX10_sheet_9 ?_
    refine r_iconst (v := 0) X (by decide) dX10_sheet_10 ?_
    refine r_aload_n X 0 rfl dX10_sheet_11 ?_
    refine r_getR X fk_X10_33 lc_0 rfl dX10_sheet_12 ?_
    refine r_getI X fk_X10_134 lc_6 rfl dX10_sheet_15 ?_
    refine r_iconst (v := 1) X (by decide) dX10_sheet_18 ?_
    refine r_isub X dX10_sheet_19 ?_
    refine r_callS X (mX10_within _ _ _ _ _) mk_X10_within lk_X10_90 rfl (by decide) (by decide) (Nat.le_of_ble_eq_true rfl) rfl dX10_sheet_20 (fun q20 _ => ?_)
    refine r_if_ne (tgt := 28) X dX10_sheet_23 (by decide) (fun _ => ?_) (fun _ => ?_)
    · refine r_iload_n X 1 rfl dX10_sheet_28 ?_
      refine r_iconst (v := 0) X (by decide) dX10_sheet_29 ?_
      refine r_aload_n X 0 rfl dX10_sheet_30 ?_
      refine r_getR X fk_X10_40 lc_0 rfl dX10_sheet_31 ?_
      refine r_getI X fk_X10_145 lc_7 rfl dX10_sheet_34 ?_
      refine r_aload_n X 0 rfl dX10_sheet_37 ?_
      refine r_getR X fk_X10_33 lc_0 rfl dX10_sheet_38 ?_
      refine r_iload_n X 2 rfl dX10_sheet_41 ?_
      refine r_callV X (mX2_widthOf _ _ _) mk_X2_widthOf lk_X10_152 lc_6 rfl rfl (by decide) (by decide) (Nat.le_of_ble_eq_true rfl) rfl dX10_sheet_42 (fun q42 _ => ?_)
      refine r_isub X dX10_sheet_45 ?_
      refine r_callS X (mX10_within _ _ _ _ _) mk_X10_within lk_X10_90 rfl (by decide) (by decide) (Nat.le_of_ble_eq_true rfl) rfl dX10_sheet_46 (fun q46 _ => ?_)
      refine r_if_ne (tgt := 54) X dX10_sheet_49 (by decide) (fun _ => ?_) (fun _ => ?_)
      · refine r_aload_n X 0 rfl dX10_sheet_54 ?_
        refine r_getR X fk_X10_49 lc_0 rfl dX10_sheet_55 ?_
        refine r_iload_n X 1 rfl dX10_sheet_58 ?_
        refine r_iload_n X 2 rfl dX10_sheet_59 ?_
        refine r_iload_n X 3 rfl dX10_sheet_60 ?_
        refine r_callV X (mX0_isSheet _ _ _ _ _) mk_X0_isSheet lk_X10_156 lc_9 rfl rfl (by decide) (by decide) (Nat.le_of_ble_eq_true rfl) rfl dX10_sheet_61 (fun q61 _ => ?_)
        refine r_if_eq (tgt := 71) X dX10_sheet_64 (by decide) (fun _ => ?_) (fun _ => ?_)
        · refine r_iconst (v := 0) X (by decide) dX10_sheet_71 ?_
          exact r_iret X dX10_sheet_72
        · refine r_iconst (v := 1) X (by decide) dX10_sheet_67 ?_
          refine r_goto (tgt := 72) X dX10_sheet_68 (by decide) ?_
          exact r_iret X dX10_sheet_72
      · refine r_iconst (v := -1) X (by decide) dX10_sheet_52 ?_
        exact r_iret X dX10_sheet_53
    · refine r_iconst (v := -1) X (by decide) dX10_sheet_26 ?_
      exact r_iret X dX10_sheet_27
theorem mX10_sheet (F : Nat) (S : ST) (x1 : Int32) (x2 : Int32) (x3 : Int32) : MetS yX10_sheet cX10_sheet 4 (some .int) 5 layC (fX10_sheet F S x1 x2 x3) S (fun ad => [.ref (ad 0), .int x1, .int x2, .int x3]) := mk_met (fun ad => [(0, .ref (ad 0)), (1, .int x1), (2, .int x2), (3, .int x3)]) (by decide) (fun _ => Nat.le_of_ble_eq_true rfl) (fun _ => rfl) (fun E X => gX10_sheet X F S x1 x2 x3)
def fX10_sheets (F : Nat) (S : ST) : Option (Int32 × ST) :=
  (fX0_find F S).bind (fun q4 => some ((q4.2.1 9 10), q4.2))
set_option maxRecDepth 4000 in
theorem gX10_sheets {E : CT} (X : Cx E layC cX10_sheets RX10 1 (some .int) 6) (F : Nat) (S : ST) : G E (fX10_sheets F S) S 0 [(0, .ref (eA E 0))] [] := by
  unfold fX10_sheets
  refine r_aload_n X 0 rfl dX10_sheets_0 ?_
  refine r_getR X fk_X10_49 lc_0 rfl dX10_sheets_1 ?_
  refine r_callVv X (mX0_find _ _) mk_X0_find lk_X10_159 lc_9 rfl rfl (by decide) (by decide) (Nat.le_of_ble_eq_true rfl) rfl dX10_sheets_4 (fun q4 _ => ?_)
  refine r_aload_n X 0 rfl dX10_sheets_7 ?_
  refine r_getR X fk_X10_49 lc_0 rfl dX10_sheets_8 ?_
  refine r_getI X fk_X10_165 lc_9 rfl dX10_sheets_11 ?_
  exact r_iret X dX10_sheets_14
theorem mX10_sheets (F : Nat) (S : ST) : MetS yX10_sheets cX10_sheets 1 (some .int) 6 layC (fX10_sheets F S) S (fun ad => [.ref (ad 0)]) := mk_met (fun ad => [(0, .ref (ad 0))]) (by decide) (fun _ => Nat.le_of_ble_eq_true rfl) (fun _ => rfl) (fun E X => gX10_sheets X F S)
def fX10_veneer (F : Nat) (S : ST) (x1 : Int32) (x2 : Int32) (x3 : Int32) (x4 : Int32) (x5 : Int32) : Option (Int32 × ST) :=
  (fX10_within F S x1 (0 : Int32) (5 : Int32)).bind (fun q3 => if q3.1 = 0 then
    (some ((0 : Int32), q3.2))
  else
    ((fX10_within F q3.2 x2 (1 : Int32) (90 : Int32)).bind (fun q13 => if q13.1 = 0 then
      (some ((0 : Int32), q13.2))
    else
      ((fX10_within F q13.2 x3 (0 : Int32) (jmin (20 : Int32) x2)).bind (fun q29 => if q29.1 = 0 then
        (some ((0 : Int32), q29.2))
      else
        ((fX10_within F q29.2 x4 (0 : Int32) (1000 : Int32)).bind (fun q41 => if q41.1 = 0 then
          (some ((0 : Int32), q41.2))
        else
          ((fX9_set F q41.2 x1 x2 x3 x4 x5).bind (fun q60 => some ((1 : Int32), q60.2))))))))))
set_option maxRecDepth 4000 in
theorem gX10_veneer {E : CT} (X : Cx E layC cX10_veneer RX10 6 (some .boolean) 1) (F : Nat) (S : ST) (x1 : Int32) (x2 : Int32) (x3 : Int32) (x4 : Int32) (x5 : Int32) : G E (fX10_veneer F S x1 x2 x3 x4 x5) S 0 [(0, .ref (eA E 0)), (1, .int x1), (2, .int x2), (3, .int x3), (4, .int x4), (5, .int x5)] [] := by
  unfold fX10_veneer
  refine r_iload_n X 1 rfl dX10_veneer_0 ?_
  refine r_iconst (v := 0) X (by decide) dX10_veneer_1 ?_
  refine r_iconst (v := 5) X (by decide) dX10_veneer_2 ?_
  refine r_callS X (mX10_within _ _ _ _ _) mk_X10_within lk_X10_90 rfl (by decide) (by decide) (Nat.le_of_ble_eq_true rfl) rfl dX10_veneer_3 (fun q3 _ => ?_)
  refine r_if_eq (tgt := 19) X dX10_veneer_6 (by decide) (fun _ => ?_) (fun _ => ?_)
  · refine r_iconst (v := 0) X (by decide) dX10_veneer_19 ?_
    exact r_zret X (by decide) dX10_veneer_20
  · refine r_iload_n X 2 rfl dX10_veneer_9 ?_
    refine r_iconst (v := 1) X (by decide) dX10_veneer_10 ?_
    refine r_bipush (v := 90) X (by decide) dX10_veneer_11 ?_
    refine r_callS X (mX10_within _ _ _ _ _) mk_X10_within lk_X10_90 rfl (by decide) (by decide) (Nat.le_of_ble_eq_true rfl) rfl dX10_veneer_13 (fun q13 _ => ?_)
    refine r_if_ne (tgt := 21) X dX10_veneer_16 (by decide) (fun _ => ?_) (fun _ => ?_)
    · refine r_iload_n X 3 rfl dX10_veneer_21 ?_
      refine r_iconst (v := 0) X (by decide) dX10_veneer_22 ?_
      refine r_bipush (v := 20) X (by decide) dX10_veneer_23 ?_
      refine r_iload_n X 2 rfl dX10_veneer_25 ?_
      refine r_mmin X lk_X10_171 km_min_s km_i km_min_c (by decide) (Nat.le_of_ble_eq_true rfl) dX10_veneer_26 ?_
      refine r_callS X (mX10_within _ _ _ _ _) mk_X10_within lk_X10_90 rfl (by decide) (by decide) (Nat.le_of_ble_eq_true rfl) rfl dX10_veneer_29 (fun q29 _ => ?_)
      refine r_if_eq (tgt := 47) X dX10_veneer_32 (by decide) (fun _ => ?_) (fun _ => ?_)
      · refine r_iconst (v := 0) X (by decide) dX10_veneer_47 ?_
        exact r_zret X (by decide) dX10_veneer_48
      · refine r_iload X 4 rfl dX10_veneer_35 ?_
        refine r_iconst (v := 0) X (by decide) dX10_veneer_37 ?_
        refine r_sipush (v := 1000) X (by decide) dX10_veneer_38 ?_
        refine r_callS X (mX10_within _ _ _ _ _) mk_X10_within lk_X10_90 rfl (by decide) (by decide) (Nat.le_of_ble_eq_true rfl) rfl dX10_veneer_41 (fun q41 _ => ?_)
        refine r_if_ne (tgt := 49) X dX10_veneer_44 (by decide) (fun _ => ?_) (fun _ => ?_)
        · refine r_aload_n X 0 rfl dX10_veneer_49 ?_
          refine r_getR X fk_X10_56 lc_0 rfl dX10_veneer_50 ?_
          refine r_iload_n X 1 rfl dX10_veneer_53 ?_
          refine r_iload_n X 2 rfl dX10_veneer_54 ?_
          refine r_iload_n X 3 rfl dX10_veneer_55 ?_
          refine r_iload X 4 rfl dX10_veneer_56 ?_
          refine r_iload X 5 rfl dX10_veneer_58 ?_
          refine r_callVv X (mX9_set _ _ _ _ _ _ _) mk_X9_set lk_X10_176 lc_10 rfl rfl (by decide) (by decide) (Nat.le_of_ble_eq_true rfl) rfl dX10_veneer_60 (fun q60 _ => ?_)
          refine r_iconst (v := 1) X (by decide) dX10_veneer_63 ?_
          exact r_zret X (by decide) dX10_veneer_64
        · refine r_iconst (v := 0) X (by decide) dX10_veneer_47 ?_
          exact r_zret X (by decide) dX10_veneer_48
    · refine r_iconst (v := 0) X (by decide) dX10_veneer_19 ?_
      exact r_zret X (by decide) dX10_veneer_20
theorem mX10_veneer (F : Nat) (S : ST) (x1 : Int32) (x2 : Int32) (x3 : Int32) (x4 : Int32) (x5 : Int32) : MetS yX10_veneer cX10_veneer 6 (some .boolean) 1 layC (fX10_veneer F S x1 x2 x3 x4 x5) S (fun ad => [.ref (ad 0), .int x1, .int x2, .int x3, .int x4, .int x5]) := mk_met (fun ad => [(0, .ref (ad 0)), (1, .int x1), (2, .int x2), (3, .int x3), (4, .int x4), (5, .int x5)]) (by decide) (fun _ => Nat.le_of_ble_eq_true rfl) (fun _ => rfl) (fun E X => gX10_veneer X F S x1 x2 x3 x4 x5)
def fX10_warp (F : Nat) (S : ST) (x1 : Int32) (x2 : Int32) : Option (Int32 × ST) :=
  (fX9_canBe F S x1 x2).bind (fun q2 => if q2.1 = 0 then
    (some ((-2000000 : Int32), q2.2))
  else
    ((fX9_warpOf F q2.2 x1 x2).bind (fun q14 => some (q14.1, q14.2))))
set_option maxRecDepth 4000 in
theorem gX10_warp {E : CT} (X : Cx E layC cX10_warp RX10 3 (some .int) 3) (F : Nat) (S : ST) (x1 : Int32) (x2 : Int32) : G E (fX10_warp F S x1 x2) S 0 [(0, .ref (eA E 0)), (1, .int x1), (2, .int x2)] [] := by
  unfold fX10_warp
  refine r_iload_n X 1 rfl dX10_warp_0 ?_
  refine r_iload_n X 2 rfl dX10_warp_1 ?_
  refine r_callS X (mX9_canBe _ _ _ _) mk_X9_canBe lk_X10_180 rfl (by decide) (by decide) (Nat.le_of_ble_eq_true rfl) rfl dX10_warp_2 (fun q2 _ => ?_)
  refine r_if_eq (tgt := 20) X dX10_warp_5 (by decide) (fun _ => ?_) (fun _ => ?_)
  · refine r_ldc X kc_X10_195 dX10_warp_20 ?_
    exact r_iret X dX10_warp_22
  · refine r_aload_n X 0 rfl dX10_warp_8 ?_
    refine r_getR X fk_X10_56 lc_0 rfl dX10_warp_9 ?_
    refine r_iload_n X 1 rfl dX10_warp_12 ?_
    refine r_iload_n X 2 rfl dX10_warp_13 ?_
    refine r_callV X (mX9_warpOf _ _ _ _) mk_X9_warpOf lk_X10_192 lc_10 rfl rfl (by decide) (by decide) (Nat.le_of_ble_eq_true rfl) rfl dX10_warp_14 (fun q14 _ => ?_)
    refine r_goto (tgt := 22) X dX10_warp_17 (by decide) ?_
    exact r_iret X dX10_warp_22
theorem mX10_warp (F : Nat) (S : ST) (x1 : Int32) (x2 : Int32) : MetS yX10_warp cX10_warp 3 (some .int) 3 layC (fX10_warp F S x1 x2) S (fun ad => [.ref (ad 0), .int x1, .int x2]) := mk_met (fun ad => [(0, .ref (ad 0)), (1, .int x1), (2, .int x2)]) (by decide) (fun _ => Nat.le_of_ble_eq_true rfl) (fun _ => rfl) (fun E X => gX10_warp X F S x1 x2)
def fX10_worth (F : Nat) (S : ST) : Option (Int32 × ST) :=
  (fX0_find F S).bind (fun q4 => (fX0_totalWorth F q4.2).bind (fun q11 => some (q11.1, q11.2)))
set_option maxRecDepth 4000 in
theorem gX10_worth {E : CT} (X : Cx E layC cX10_worth RX10 1 (some .int) 6) (F : Nat) (S : ST) : G E (fX10_worth F S) S 0 [(0, .ref (eA E 0))] [] := by
  unfold fX10_worth
  refine r_aload_n X 0 rfl dX10_worth_0 ?_
  refine r_getR X fk_X10_49 lc_0 rfl dX10_worth_1 ?_
  refine r_callVv X (mX0_find _ _) mk_X0_find lk_X10_159 lc_9 rfl rfl (by decide) (by decide) (Nat.le_of_ble_eq_true rfl) rfl dX10_worth_4 (fun q4 _ => ?_)
  refine r_aload_n X 0 rfl dX10_worth_7 ?_
  refine r_getR X fk_X10_49 lc_0 rfl dX10_worth_8 ?_
  refine r_callV X (mX0_totalWorth _ _) mk_X0_totalWorth lk_X10_162 lc_9 rfl rfl (by decide) (by decide) (Nat.le_of_ble_eq_true rfl) rfl dX10_worth_11 (fun q11 _ => ?_)
  exact r_iret X dX10_worth_14
theorem mX10_worth (F : Nat) (S : ST) : MetS yX10_worth cX10_worth 1 (some .int) 6 layC (fX10_worth F S) S (fun ad => [.ref (ad 0)]) := mk_met (fun ad => [(0, .ref (ad 0))]) (by decide) (fun _ => Nat.le_of_ble_eq_true rfl) (fun _ => rfl) (fun E X => gX10_worth X F S)
