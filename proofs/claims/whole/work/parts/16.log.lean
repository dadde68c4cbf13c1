def fX4_hasCells_29 (F : Nat) (S : ST) : Option (Int32 × ST) :=
  some ((0 : Int32), S)
set_option maxRecDepth 4000 in
theorem gX4_hasCells_29 {E : CT} (X : Cx E layC cX4_hasCells RX4 3 (some .boolean) 0) (F : Nat) (S : ST) : G E (fX4_hasCells_29 F S) S 29 [] [] := by
  unfold fX4_hasCells_29
  refine r_iconst (v := 0) X (by decide) dX4_hasCells_29 ?_
  exact r_zret X (by decide) dX4_hasCells_30
def fX4_hasCells (F : Nat) (S : ST) (x1 : Int32) (x2 : Int32) : Option (Int32 × ST) :=
  if x1 < 0 then
    (fX4_hasCells_29 F S)
  else
    (if (24 : Int32) ≤ x1 then
      (fX4_hasCells_29 F S)
    else
      ((if vin x1 24 = true then if ((S.1 12 (ix x1)) &&& x2) = x2 then
        (some ((1 : Int32), S))
      else
        (fX4_hasCells_29 F S) else none)))
set_option maxRecDepth 4000 in
theorem gX4_hasCells {E : CT} (X : Cx E layC cX4_hasCells RX4 3 (some .boolean) 0) (F : Nat) (S : ST) (x1 : Int32) (x2 : Int32) : G E (fX4_hasCells F S x1 x2) S 0 [(0, .ref (eA E 1)), (1, .int x1), (2, .int x2)] [] := by
  unfold fX4_hasCells
  refine r_iload_n X 1 rfl dX4_hasCells_0 ?_
  refine r_if_lt (tgt := 29) X dX4_hasCells_1 (by decide) (fun _ => ?_) (fun _ => ?_)
  · refine r_sub [] rfl ?_
    exact gX4_hasCells_29 X F _
  · refine r_iload_n X 1 rfl dX4_hasCells_4 ?_
    refine r_aload_n X 0 rfl dX4_hasCells_5 ?_
    refine r_getR X fk_X4_11 lc_1 rfl dX4_hasCells_6 ?_
    refine r_alen (v := 24) X lc_12 (by decide) dX4_hasCells_9 ?_
    refine r_icmp_ge (tgt := 29) X dX4_hasCells_10 (by decide) (fun _ => ?_) (fun _ => ?_)
    · refine r_sub [] rfl ?_
      exact gX4_hasCells_29 X F _
    · refine r_aload_n X 0 rfl dX4_hasCells_13 ?_
      refine r_getR X fk_X4_11 lc_1 rfl dX4_hasCells_14 ?_
      refine r_iload_n X 1 rfl dX4_hasCells_17 ?_
      refine r_iald X lc_12 dX4_hasCells_18 (fun _ => ?_)
      refine r_iload_n X 2 rfl dX4_hasCells_19 ?_
      refine r_iand X dX4_hasCells_20 ?_
      refine r_iload_n X 2 rfl dX4_hasCells_21 ?_
      refine r_icmp_ne (tgt := 29) X dX4_hasCells_22 (by decide) (fun _ => ?_) (fun _ => ?_)
      · refine r_sub [] rfl ?_
        exact gX4_hasCells_29 X F _
      · refine r_iconst (v := 1) X (by decide) dX4_hasCells_25 ?_
        refine r_goto (tgt := 30) X dX4_hasCells_26 (by decide) ?_
        exact r_zret X (by decide) dX4_hasCells_30
theorem mX4_hasCells (F : Nat) (S : ST) (x1 : Int32) (x2 : Int32) : MetS yX4_hasCells cX4_hasCells 3 (some .boolean) 0 layC (fX4_hasCells F S x1 x2) S (fun ad => [.ref (ad 1), .int x1, .int x2]) := mk_met (fun ad => [(0, .ref (ad 1)), (1, .int x1), (2, .int x2)]) (by decide) (fun _ => Nat.le_of_ble_eq_true rfl) (fun _ => rfl) (fun E X => gX4_hasCells X F S x1 x2)
def fX4_discFits_70 (F : Nat) (k36 : ST → Int32 → Int32 → Int32 → Int32 → Int32 → Option (Int32 × ST)) (S : ST) (x1 : Int32) (x2 : Int32) (x3 : Int32) (x4 : Int32) (x5 : Int32) : Option (Int32 × ST) :=
  bindI (((((1 : Int32) <<< ((((2 : Int32) * x4) + (1 : Int32)) &&& 31)) - (1 : Int32)) <<< ((x2 - x4) &&& 31))) (fun v85 => (fX4_hasCells F S (x1 - x5) v85).bind (fun q94 => if q94.1 = 0 then
    (some ((0 : Int32), q94.2))
  else
    ((fX4_hasCells F q94.2 (x1 + x5) v85).bind (fun q107 => if q107.1 = 0 then
      (some ((0 : Int32), q107.2))
    else
      (k36 q107.2 x1 x2 x3 x4 (x5 + (1 : Int32)))))))
set_option maxRecDepth 4000 in
theorem gX4_discFits_70 {E : CT} (X : Cx E layC cX4_discFits RX4 7 (some .boolean) 1) (F : Nat) (k36 : ST → Int32 → Int32 → Int32 → Int32 → Int32 → Option (Int32 × ST)) (h36 : ∀ (S : ST) (x1 : Int32) (x2 : Int32) (x3 : Int32) (x4 : Int32) (x5 : Int32), G E (k36 S x1 x2 x3 x4 x5) S 36 [(0, .ref (eA E 1)), (1, .int x1), (2, .int x2), (3, .int x3), (4, .int x4), (5, .int x5)] []) (S : ST) (x1 : Int32) (x2 : Int32) (x3 : Int32) (x4 : Int32) (x5 : Int32) : G E (fX4_discFits_70 F k36 S x1 x2 x3 x4 x5) S 70 [(0, .ref (eA E 1)), (1, .int x1), (2, .int x2), (3, .int x3), (4, .int x4), (5, .int x5)] [] := by
  unfold fX4_discFits_70
  refine r_iconst (v := 1) X (by decide) dX4_discFits_70 ?_
  refine r_iconst (v := 2) X (by decide) dX4_discFits_71 ?_
  refine r_iload X 4 rfl dX4_discFits_72 ?_
  refine r_imul X dX4_discFits_74 ?_
  refine r_iconst (v := 1) X (by decide) dX4_discFits_75 ?_
  refine r_iadd X dX4_discFits_76 ?_
  refine r_ishl X dX4_discFits_77 ?_
  refine r_iconst (v := 1) X (by decide) dX4_discFits_78 ?_
  refine r_isub X dX4_discFits_79 ?_
  refine r_iload_n X 2 rfl dX4_discFits_80 ?_
  refine r_iload X 4 rfl dX4_discFits_81 ?_
  refine r_isub X dX4_discFits_83 ?_
  refine r_ishl X dX4_discFits_84 ?_
  refine r_bindI (fun v85 => ?_)
  refine r_istore (lv' := [(0, _), (1, _), (2, _), (3, _), (4, _), (5, _), (6, _)]) X (by decide) rfl dX4_discFits_85 ?_
  refine r_aload_n X 0 rfl dX4_discFits_87 ?_
  refine r_iload_n X 1 rfl dX4_discFits_88 ?_
  refine r_iload X 5 rfl dX4_discFits_89 ?_
  refine r_isub X dX4_discFits_91 ?_
  refine r_iload X 6 rfl dX4_discFits_92 ?_
  refine r_callV X (mX4_hasCells _ _ _ _) mk_X4_hasCells lk_X4_41 lc_1 rfl rfl (by decide) (by decide) (Nat.le_of_ble_eq_true rfl) rfl dX4_discFits_94 (fun q94 _ => ?_)
  refine r_if_eq (tgt := 113) X dX4_discFits_97 (by decide) (fun _ => ?_) (fun _ => ?_)
  · refine r_iconst (v := 0) X (by decide) dX4_discFits_113 ?_
    exact r_zret X (by decide) dX4_discFits_114
  · refine r_aload_n X 0 rfl dX4_discFits_100 ?_
    refine r_iload_n X 1 rfl dX4_discFits_101 ?_
    refine r_iload X 5 rfl dX4_discFits_102 ?_
    refine r_iadd X dX4_discFits_104 ?_
    refine r_iload X 6 rfl dX4_discFits_105 ?_
    refine r_callV X (mX4_hasCells _ _ _ _) mk_X4_hasCells lk_X4_41 lc_1 rfl rfl (by decide) (by decide) (Nat.le_of_ble_eq_true rfl) rfl dX4_discFits_107 (fun q107 _ => ?_)
    refine r_if_ne (tgt := 115) X dX4_discFits_110 (by decide) (fun _ => ?_) (fun _ => ?_)
    · refine r_iinc (lv' := [(0, _), (1, _), (2, _), (3, _), (4, _), (5, _), (6, _)]) (dl := 1) X 5 rfl (by decide) (by decide) rfl dX4_discFits_115 ?_
      refine r_goto (tgt := 36) X dX4_discFits_118 (by decide) ?_
      refine r_sub [0, 1, 2, 3, 4, 5] rfl ?_
      exact h36 _ _ _ _ _ _
    · refine r_iconst (v := 0) X (by decide) dX4_discFits_113 ?_
      exact r_zret X (by decide) dX4_discFits_114
def fX4_discFits_42 (F : Nat) (k36 : ST → Int32 → Int32 → Int32 → Int32 → Int32 → Option (Int32 × ST)) : Nat → ST → Int32 → Int32 → Int32 → Int32 → Int32 → Option (Int32 × ST)
  | 0, _, _, _, _, _, _ => none
  | n + 1, S, x1, x2, x3, x4, x5 =>
  if x4 ≤ 0 then
    (fX4_discFits_70 F k36 S x1 x2 x3 x4 x5)
  else
    (if ((x4 * x4) + (x5 * x5)) ≤ (x3 * x3) then
      (fX4_discFits_70 F k36 S x1 x2 x3 x4 x5)
    else
      (fX4_discFits_42 F k36 n S x1 x2 x3 (x4 + (-1 : Int32)) x5))
set_option maxRecDepth 4000 in
theorem gX4_discFits_42 {E : CT} (X : Cx E layC cX4_discFits RX4 7 (some .boolean) 1) (F : Nat) (k36 : ST → Int32 → Int32 → Int32 → Int32 → Int32 → Option (Int32 × ST)) (h36 : ∀ (S : ST) (x1 : Int32) (x2 : Int32) (x3 : Int32) (x4 : Int32) (x5 : Int32), G E (k36 S x1 x2 x3 x4 x5) S 36 [(0, .ref (eA E 1)), (1, .int x1), (2, .int x2), (3, .int x3), (4, .int x4), (5, .int x5)] []) : ∀ (n : Nat) (S : ST) (x1 : Int32) (x2 : Int32) (x3 : Int32) (x4 : Int32) (x5 : Int32), G E (fX4_discFits_42 F k36 n S x1 x2 x3 x4 x5) S 42 [(0, .ref (eA E 1)), (1, .int x1), (2, .int x2), (3, .int x3), (4, .int x4), (5, .int x5)] []
  | 0, _, _, _, _, _, _ => r_none
  | n + 1, S, x1, x2, x3, x4, x5 => by
    have ih := gX4_discFits_42 X F k36 h36 n
    unfold fX4_discFits_42
    refine r_iload X 4 rfl dX4_discFits_42 ?_
    refine r_if_le (tgt := 70) X dX4_discFits_44 (by decide) (fun _ => ?_) (fun _ => ?_)
    · exact gX4_discFits_70 X F _ h36 _ _ _ _ _ _
    · refine r_iload X 4 rfl dX4_discFits_47 ?_
      refine r_iload X 4 rfl dX4_discFits_49 ?_
      refine r_imul X dX4_discFits_51 ?_
      refine r_iload X 5 rfl dX4_discFits_52 ?_
      refine r_iload X 5 rfl dX4_discFits_54 ?_
      refine r_imul X dX4_discFits_56 ?_
      refine r_iadd X dX4_discFits_57 ?_
      refine r_iload_n X 3 rfl dX4_discFits_58 ?_
      refine r_iload_n X 3 rfl dX4_discFits_59 ?_
      refine r_imul X dX4_discFits_60 ?_
      refine r_icmp_le (tgt := 70) X dX4_discFits_61 (by decide) (fun _ => ?_) (fun _ => ?_)
      · exact gX4_discFits_70 X F _ h36 _ _ _ _ _ _
      · refine r_iinc (lv' := [(0, _), (1, _), (2, _), (3, _), (4, _), (5, _)]) (dl := -1) X 4 rfl (by decide) (by decide) rfl dX4_discFits_64 ?_
        refine r_goto (tgt := 42) X dX4_discFits_67 (by decide) ?_
        exact ih _ _ _ _ _ _
def fX4_discFits_36 (F : Nat) : Nat → ST → Int32 → Int32 → Int32 → Int32 → Int32 → Option (Int32 × ST)
  | 0, _, _, _, _, _, _ => none
  | n + 1, S, x1, x2, x3, x4, x5 =>
  if x3 < x5 then
    (some ((1 : Int32), S))
  else
    (fX4_discFits_42 F (fX4_discFits_36 F n) F S x1 x2 x3 x4 x5)
set_option maxRecDepth 4000 in
theorem gX4_discFits_36 {E : CT} (X : Cx E layC cX4_discFits RX4 7 (some .boolean) 1) (F : Nat) : ∀ (n : Nat) (S : ST) (x1 : Int32) (x2 : Int32) (x3 : Int32) (x4 : Int32) (x5 : Int32), G E (fX4_discFits_36 F n S x1 x2 x3 x4 x5) S 36 [(0, .ref (eA E 1)), (1, .int x1), (2, .int x2), (3, .int x3), (4, .int x4), (5, .int x5)] []
  | 0, _, _, _, _, _, _ => r_none
  | n + 1, S, x1, x2, x3, x4, x5 => by
    have ih := gX4_discFits_36 X F n
    unfold fX4_discFits_36
    refine r_iload X 5 rfl dX4_discFits_36 ?_
    refine r_iload_n X 3 rfl dX4_discFits_38 ?_
    refine r_icmp_gt (tgt := 121) X dX4_discFits_39 (by decide) (fun _ => ?_) (fun _ => ?_)
    · refine r_iconst (v := 1) X (by decide) dX4_discFits_121 ?_
      exact r_zret X (by decide) dX4_discFits_122
    · exact gX4_discFits_42 X F _ ih F _ _ _ _ _ _
def fX4_discFits (F : Nat) (S : ST) (x1 : Int32) (x2 : Int32) (x3 : Int32) : Option (Int32 × ST) :=
  if (x1 - x3) < 0 then
    (some ((0 : Int32), S))
  else
    (if (24 : Int32) ≤ (x1 + x3) then
      (some ((0 : Int32), S))
    else
      (if (x2 - x3) < 0 then
        (some ((0 : Int32), S))
      else
        (if (x2 + x3) < (24 : Int32) then
          (fX4_discFits_36 F F S x1 x2 x3 x3 (0 : Int32))
        else
          (some ((0 : Int32), S)))))
set_option maxRecDepth 4000 in
theorem gX4_discFits {E : CT} (X : Cx E layC cX4_discFits RX4 7 (some .boolean) 1) (F : Nat) (S : ST) (x1 : Int32) (x2 : Int32) (x3 : Int32) : G E (fX4_discFits F S x1 x2 x3) S 0 [(0, .ref (eA E 1)), (1, .int x1), (2, .int x2), (3, .int x3)] [] := by
  unfold fX4_discFits
  refine r_iload_n X 1 rfl dX4_discFits_0 ?_
  refine r_iload_n X 3 rfl dX4_discFits_1 ?_
  refine r_isub X dX4_discFits_2 ?_
  refine r_if_lt (tgt := 28) X dX4_discFits_3 (by decide) (fun _ => ?_) (fun _ => ?_)
  · refine r_iconst (v := 0) X (by decide) dX4_discFits_28 ?_
    exact r_zret X (by decide) dX4_discFits_29
  · refine r_iload_n X 1 rfl dX4_discFits_6 ?_
    refine r_iload_n X 3 rfl dX4_discFits_7 ?_
    refine r_iadd X dX4_discFits_8 ?_
    refine r_bipush (v := 24) X (by decide) dX4_discFits_9 ?_
    refine r_icmp_ge (tgt := 28) X dX4_discFits_11 (by decide) (fun _ => ?_) (fun _ => ?_)
    · refine r_iconst (v := 0) X (by decide) dX4_discFits_28 ?_
      exact r_zret X (by decide) dX4_discFits_29
    · refine r_iload_n X 2 rfl dX4_discFits_14 ?_
      refine r_iload_n X 3 rfl dX4_discFits_15 ?_
      refine r_isub X dX4_discFits_16 ?_
      refine r_if_lt (tgt := 28) X dX4_discFits_17 (by decide) (fun _ => ?_) (fun _ => ?_)
      · refine r_iconst (v := 0) X (by decide) dX4_discFits_28 ?_
        exact r_zret X (by decide) dX4_discFits_29
      · refine r_iload_n X 2 rfl dX4_discFits_20 ?_
        refine r_iload_n X 3 rfl dX4_discFits_21 ?_
        refine r_iadd X dX4_discFits_22 ?_
        refine r_bipush (v := 24) X (by decide) dX4_discFits_23 ?_
        refine r_icmp_lt (tgt := 30) X dX4_discFits_25 (by decide) (fun _ => ?_) (fun _ => ?_)
        · refine r_iload_n X 3 rfl dX4_discFits_30 ?_
          refine r_istore (lv' := [(0, _), (1, _), (2, _), (3, _), (4, _)]) X (by decide) rfl dX4_discFits_31 ?_
          refine r_iconst (v := 0) X (by decide) dX4_discFits_33 ?_
          refine r_istore (lv' := [(0, _), (1, _), (2, _), (3, _), (4, _), (5, _)]) X (by decide) rfl dX4_discFits_34 ?_
          exact gX4_discFits_36 X F F _ _ _ _ _ _
        · refine r_iconst (v := 0) X (by decide) dX4_discFits_28 ?_
          exact r_zret X (by decide) dX4_discFits_29
theorem mX4_discFits (F : Nat) (S : ST) (x1 : Int32) (x2 : Int32) (x3 : Int32) : MetS yX4_discFits cX4_discFits 7 (some .boolean) 1 layC (fX4_discFits F S x1 x2 x3) S (fun ad => [.ref (ad 1), .int x1, .int x2, .int x3]) := mk_met (fun ad => [(0, .ref (ad 1)), (1, .int x1), (2, .int x2), (3, .int x3)]) (by decide) (fun _ => Nat.le_of_ble_eq_true rfl) (fun _ => rfl) (fun E X => gX4_discFits X F S x1 x2 x3)
def fX4_growAt_7 (F : Nat) : Nat → ST → Int32 → Int32 → Int32 → Option (Int32 × ST)
  | 0, _, _, _, _ => none
  | n + 1, S, x1, x2, x3 =>
  if (11 : Int32) < x3 then
    (some ((0 : Int32), S))
  else
    ((fX4_discFits F S x1 x2 x3).bind (fun q17 => if q17.1 = 0 then
      (some ((0 : Int32), q17.2))
    else
      (bindS (us q17.2 1 4 x3) (fun S25 => bindS (us S25 1 2 x1) (fun S30 => bindS (us S30 1 3 x2) (fun S35 => fX4_growAt_7 F n S35 x1 x2 (x3 + (1 : Int32))))))))
set_option maxRecDepth 4000 in
theorem gX4_growAt_7 {E : CT} (X : Cx E layC cX4_growAt RX4 4 none 2) (F : Nat) : ∀ (n : Nat) (S : ST) (x1 : Int32) (x2 : Int32) (x3 : Int32), G E (fX4_growAt_7 F n S x1 x2 x3) S 7 [(0, .ref (eA E 1)), (1, .int x1), (2, .int x2), (3, .int x3)] []
  | 0, _, _, _, _ => r_none
  | n + 1, S, x1, x2, x3 => by
    have ih := gX4_growAt_7 X F n
    unfold fX4_growAt_7
    refine r_iload_n X 3 rfl dX4_growAt_7 ?_
    refine r_bipush (v := 11) X (by decide) dX4_growAt_8 ?_
    refine r_icmp_gt (tgt := 44) X dX4_growAt_10 (by decide) (fun _ => ?_) (fun _ => ?_)
    · exact r_vret X dX4_growAt_44
    · refine r_aload_n X 0 rfl dX4_growAt_13 ?_
      refine r_iload_n X 1 rfl dX4_growAt_14 ?_
      refine r_iload_n X 2 rfl dX4_growAt_15 ?_
      refine r_iload_n X 3 rfl dX4_growAt_16 ?_
      refine r_callV X (mX4_discFits _ _ _ _ _) mk_X4_discFits lk_X4_32 lc_1 rfl rfl (by decide) (by decide) (Nat.le_of_ble_eq_true rfl) rfl dX4_growAt_17 (fun q17 _ => ?_)
      refine r_if_eq (tgt := 44) X dX4_growAt_20 (by decide) (fun _ => ?_) (fun _ => ?_)
      · exact r_vret X dX4_growAt_44
      · refine r_aload_n X 0 rfl dX4_growAt_23 ?_
        refine r_iload_n X 3 rfl dX4_growAt_24 ?_
        refine r_putI X pk_X4_19 lc_1 rfl dX4_growAt_25 ?_
        refine r_bindS (fun S25 => ?_)
        refine r_aload_n X 0 rfl dX4_growAt_28 ?_
        refine r_iload_n X 1 rfl dX4_growAt_29 ?_
        refine r_putI X pk_X4_35 lc_1 rfl dX4_growAt_30 ?_
        refine r_bindS (fun S30 => ?_)
        refine r_aload_n X 0 rfl dX4_growAt_33 ?_
        refine r_iload_n X 2 rfl dX4_growAt_34 ?_
        refine r_putI X pk_X4_38 lc_1 rfl dX4_growAt_35 ?_
        refine r_bindS (fun S35 => ?_)
        refine r_iinc (lv' := [(0, _), (1, _), (2, _), (3, _)]) (dl := 1) X 3 rfl (by decide) (by decide) rfl dX4_growAt_38 ?_
        refine r_goto (tgt := 7) X dX4_growAt_41 (by decide) ?_
        exact ih _ _ _ _
def fX4_growAt (F : Nat) (S : ST) (x1 : Int32) (x2 : Int32) : Option (Int32 × ST) :=
  bindI (((S.1 1 4) + (1 : Int32))) (fun v6 => fX4_growAt_7 F F S x1 x2 v6)
set_option maxRecDepth 4000 in
theorem gX4_growAt {E : CT} (X : Cx E layC cX4_growAt RX4 4 none 2) (F : Nat) (S : ST) (x1 : Int32) (x2 : Int32) : G E (fX4_growAt F S x1 x2) S 0 [(0, .ref (eA E 1)), (1, .int x1), (2, .int x2)] [] := by
  unfold fX4_growAt
  refine r_aload_n X 0 rfl dX4_growAt_0 ?_
  refine r_getI X fk_X4_19 lc_1 rfl dX4_growAt_1 ?_
  refine r_iconst (v := 1) X (by decide) dX4_growAt_4 ?_
  refine r_iadd X dX4_growAt_5 ?_
  refine r_bindI (fun v6 => ?_)
  refine r_istore_n (lv' := [(0, _), (1, _), (2, _), (3, _)]) X (by decide) rfl dX4_growAt_6 ?_
  exact gX4_growAt_7 X F F _ _ _ _
theorem mX4_growAt (F : Nat) (S : ST) (x1 : Int32) (x2 : Int32) : MetS yX4_growAt cX4_growAt 4 none 2 layC (fX4_growAt F S x1 x2) S (fun ad => [.ref (ad 1), .int x1, .int x2]) := mk_met (fun ad => [(0, .ref (ad 1)), (1, .int x1), (2, .int x2)]) (by decide) (fun _ => Nat.le_of_ble_eq_true rfl) (fun _ => rfl) (fun E X => gX4_growAt X F S x1 x2)
def fX4_findCentre_28 (F : Nat) (k20 : ST → Int32 → Option (Int32 × ST)) : Nat → ST → Int32 → Int32 → Option (Int32 × ST)
  | 0, _, _, _ => none
  | n + 1, S, x1, x2 =>
  if (24 : Int32) ≤ x2 then
    (k20 S (x1 + (1 : Int32)))
  else
    ((fX4_growAt F S x1 x2).bind (fun q37 => fX4_findCentre_28 F k20 n q37.2 x1 (x2 + (1 : Int32))))
set_option maxRecDepth 4000 in
theorem gX4_findCentre_28 {E : CT} (X : Cx E layC cX4_findCentre RX4 3 none 3) (F : Nat) (k20 : ST → Int32 → Option (Int32 × ST)) (h20 : ∀ (S : ST) (x1 : Int32), G E (k20 S x1) S 20 [(0, .ref (eA E 1)), (1, .int x1)] []) : ∀ (n : Nat) (S : ST) (x1 : Int32) (x2 : Int32), G E (fX4_findCentre_28 F k20 n S x1 x2) S 28 [(0, .ref (eA E 1)), (1, .int x1), (2, .int x2)] []
  | 0, _, _, _ => r_none
  | n + 1, S, x1, x2 => by
    have ih := gX4_findCentre_28 X F k20 h20 n
    unfold fX4_findCentre_28
    refine r_iload_n X 2 rfl dX4_findCentre_28 ?_
    refine r_bipush (v := 24) X (by decide) dX4_findCentre_29 ?_
    refine r_icmp_ge (tgt := 46) X dX4_findCentre_31 (by decide) (fun _ => ?_) (fun _ => ?_)
    · refine r_iinc (lv' := [(0, _), (1, _), (2, _)]) (dl := 1) X 1 rfl (by decide) (by decide) rfl dX4_findCentre_46 ?_
      refine r_goto (tgt := 20) X dX4_findCentre_49 (by decide) ?_
      refine r_sub [0, 1] rfl ?_
      exact h20 _ _
    · refine r_aload_n X 0 rfl dX4_findCentre_34 ?_
      refine r_iload_n X 1 rfl dX4_findCentre_35 ?_
      refine r_iload_n X 2 rfl dX4_findCentre_36 ?_
      refine r_callVv X (mX4_growAt _ _ _ _) mk_X4_growAt lk_X4_28 lc_1 rfl rfl (by decide) (by decide) (Nat.le_of_ble_eq_true rfl) rfl dX4_findCentre_37 (fun q37 _ => ?_)
      refine r_iinc (lv' := [(0, _), (1, _), (2, _)]) (dl := 1) X 2 rfl (by decide) (by decide) rfl dX4_findCentre_40 ?_
      refine r_goto (tgt := 28) X dX4_findCentre_43 (by decide) ?_
      exact ih _ _ _
def fX4_findCentre_20 (F : Nat) : Nat → ST → Int32 → Option (Int32 × ST)
  | 0, _, _ => none
  | n + 1, S, x1 =>
  if (24 : Int32) ≤ x1 then
    (some ((0 : Int32), S))
  else
    (fX4_findCentre_28 F (fX4_findCentre_20 F n) F S x1 (0 : Int32))
set_option maxRecDepth 4000 in
theorem gX4_findCentre_20 {E : CT} (X : Cx E layC cX4_findCentre RX4 3 none 3) (F : Nat) : ∀ (n : Nat) (S : ST) (x1 : Int32), G E (fX4_findCentre_20 F n S x1) S 20 [(0, .ref (eA E 1)), (1, .int x1)] []
  | 0, _, _ => r_none
  | n + 1, S, x1 => by
    have ih := gX4_findCentre_20 X F n
    unfold fX4_findCentre_20
    refine r_iload_n X 1 rfl dX4_findCentre_20 ?_
    refine r_bipush (v := 24) X (by decide) dX4_findCentre_21 ?_
    refine r_icmp_ge (tgt := 52) X dX4_findCentre_23 (by decide) (fun _ => ?_) (fun _ => ?_)
    · exact r_vret X dX4_findCentre_52
    · refine r_iconst (v := 0) X (by decide) dX4_findCentre_26 ?_
      refine r_istore_n (lv' := [(0, _), (1, _), (2, _)]) X (by decide) rfl dX4_findCentre_27 ?_
      exact gX4_findCentre_28 X F _ ih F _ _ _
def fX4_findCentre (F : Nat) (S : ST) : Option (Int32 × ST) :=
  if (S.1 1 1) = 0 then
    (some ((0 : Int32), S))
  else
    (bindS (us S 1 1 (0 : Int32)) (fun S10 => bindS (us S10 1 4 (-1 : Int32)) (fun S15 => fX4_findCentre_20 F F S15 (0 : Int32))))
set_option maxRecDepth 4000 in
theorem gX4_findCentre {E : CT} (X : Cx E layC cX4_findCentre RX4 3 none 3) (F : Nat) (S : ST) : G E (fX4_findCentre F S) S 0 [(0, .ref (eA E 1))] [] := by
  unfold fX4_findCentre
  refine r_aload_n X 0 rfl dX4_findCentre_0 ?_
  refine r_getI X fk_X4_15 lc_1 rfl dX4_findCentre_1 ?_
  refine r_if_ne (tgt := 8) X dX4_findCentre_4 (by decide) (fun _ => ?_) (fun _ => ?_)
  · refine r_aload_n X 0 rfl dX4_findCentre_8 ?_
    refine r_iconst (v := 0) X (by decide) dX4_findCentre_9 ?_
    refine r_putZ X pk_X4_15 lc_1 rfl (by decide) dX4_findCentre_10 ?_
    refine r_bindS (fun S10 => ?_)
    refine r_aload_n X 0 rfl dX4_findCentre_13 ?_
    refine r_iconst (v := -1) X (by decide) dX4_findCentre_14 ?_
    refine r_putI X pk_X4_19 lc_1 rfl dX4_findCentre_15 ?_
    refine r_bindS (fun S15 => ?_)
    refine r_iconst (v := 0) X (by decide) dX4_findCentre_18 ?_
    refine r_istore_n (lv' := [(0, _), (1, _)]) X (by decide) rfl dX4_findCentre_19 ?_
    exact gX4_findCentre_20 X F F _ _
  · exact r_vret X dX4_findCentre_7
theorem mX4_findCentre (F : Nat) (S : ST) : MetS yX4_findCentre cX4_findCentre 3 none 3 layC (fX4_findCentre F S) S (fun ad => [.ref (ad 1)]) := mk_met (fun ad => [(0, .ref (ad 1))]) (by decide) (fun _ => Nat.le_of_ble_eq_true rfl) (fun _ => rfl) (fun E X => gX4_findCentre X F S)
def fX4_peeled (F : Nat) (S : ST) (x1 : Int32) (x2 : Int32) : Option (Int32 × ST) :=
  bindI ((((10 : Int32) * (S.1 1 4)) + (5 : Int32))) (fun v9 => bindI (((7 : Int32) * x2)) (fun v14 => if v9 ≤ x1 then
    (some ((0 : Int32), S))
  else
    (if 0 < v14 then
      ((if v14 = 0 then none else some (((((v9 * v9) - (x1 * x1)) * (22 : Int32)) / v14), S)))
    else
      (some ((0 : Int32), S)))))
set_option maxRecDepth 4000 in
theorem gX4_peeled {E : CT} (X : Cx E layC cX4_peeled RX4 5 (some .int) 0) (F : Nat) (S : ST) (x1 : Int32) (x2 : Int32) : G E (fX4_peeled F S x1 x2) S 0 [(0, .ref (eA E 1)), (1, .int x1), (2, .int x2)] [] := by
  unfold fX4_peeled
  refine r_bipush (v := 10) X (by decide) dX4_peeled_0 ?_
  refine r_aload_n X 0 rfl dX4_peeled_2 ?_
  refine r_getI X fk_X4_19 lc_1 rfl dX4_peeled_3 ?_
  refine r_imul X dX4_peeled_6 ?_
  refine r_iconst (v := 5) X (by decide) dX4_peeled_7 ?_
  refine r_iadd X dX4_peeled_8 ?_
  refine r_bindI (fun v9 => ?_)
  refine r_istore_n (lv' := [(0, _), (1, _), (2, _), (3, _)]) X (by decide) rfl dX4_peeled_9 ?_
  refine r_bipush (v := 7) X (by decide) dX4_peeled_10 ?_
  refine r_iload_n X 2 rfl dX4_peeled_12 ?_
  refine r_imul X dX4_peeled_13 ?_
  refine r_bindI (fun v14 => ?_)
  refine r_istore (lv' := [(0, _), (1, _), (2, _), (3, _), (4, _)]) X (by decide) rfl dX4_peeled_14 ?_
  refine r_iload_n X 1 rfl dX4_peeled_16 ?_
  refine r_iload_n X 3 rfl dX4_peeled_17 ?_
  refine r_icmp_ge (tgt := 26) X dX4_peeled_18 (by decide) (fun _ => ?_) (fun _ => ?_)
  · refine r_iconst (v := 0) X (by decide) dX4_peeled_26 ?_
    exact r_iret X dX4_peeled_27
  · refine r_iload X 4 rfl dX4_peeled_21 ?_
    refine r_if_gt (tgt := 28) X dX4_peeled_23 (by decide) (fun _ => ?_) (fun _ => ?_)
    · refine r_iload_n X 3 rfl dX4_peeled_28 ?_
      refine r_iload_n X 3 rfl dX4_peeled_29 ?_
      refine r_imul X dX4_peeled_30 ?_
      refine r_iload_n X 1 rfl dX4_peeled_31 ?_
      refine r_iload_n X 1 rfl dX4_peeled_32 ?_
      refine r_imul X dX4_peeled_33 ?_
      refine r_isub X dX4_peeled_34 ?_
      refine r_bipush (v := 22) X (by decide) dX4_peeled_35 ?_
      refine r_imul X dX4_peeled_37 ?_
      refine r_iload X 4 rfl dX4_peeled_38 ?_
      refine r_idiv X dX4_peeled_40 (fun _ => ?_)
      exact r_iret X dX4_peeled_41
    · refine r_iconst (v := 0) X (by decide) dX4_peeled_26 ?_
      exact r_iret X dX4_peeled_27
theorem mX4_peeled (F : Nat) (S : ST) (x1 : Int32) (x2 : Int32) : MetS yX4_peeled cX4_peeled 5 (some .int) 0 layC (fX4_peeled F S x1 x2) S (fun ad => [.ref (ad 1), .int x1, .int x2]) := mk_met (fun ad => [(0, .ref (ad 1)), (1, .int x1), (2, .int x2)]) (by decide) (fun _ => Nat.le_of_ble_eq_true rfl) (fun _ => rfl) (fun E X => gX4_peeled X F S x1 x2)
def fX4_putRow (F : Nat) (S : ST) (x1 : Int32) (x2 : Int32) : Option (Int32 × ST) :=
  if x1 < 0 then
    (some ((0 : Int32), S))
  else
    (if (24 : Int32) ≤ x1 then
      (some ((0 : Int32), S))
    else
      ((fX10_within F S x2 (0 : Int32) (16777215 : Int32)).bind (fun q17 => if q17.1 = 0 then
        (some ((0 : Int32), q17.2))
      else
        ((if vin x1 24 = true then bindS (us q17.2 12 (ix x1) x2) (fun S31 => bindS (us S31 1 1 (1 : Int32)) (fun S34 => some ((1 : Int32), S34))) else none)))))
set_option maxRecDepth 4000 in
theorem gX4_putRow {E : CT} (X : Cx E layC cX4_putRow RX4 3 (some .boolean) 1) (F : Nat) (S : ST) (x1 : Int32) (x2 : Int32) : G E (fX4_putRow F S x1 x2) S 0 [(0, .ref (eA E 1)), (1, .int x1), (2, .int x2)] [] := by
  unfold fX4_putRow
  refine r_iload_n X 1 rfl dX4_putRow_0 ?_
  refine r_if_lt (tgt := 23) X dX4_putRow_1 (by decide) (fun _ => ?_) (fun _ => ?_)
  · refine r_iconst (v := 0) X (by decide) dX4_putRow_23 ?_
    exact r_zret X (by decide) dX4_putRow_24
  · refine r_iload_n X 1 rfl dX4_putRow_4 ?_
    refine r_aload_n X 0 rfl dX4_putRow_5 ?_
    refine r_getR X fk_X4_11 lc_1 rfl dX4_putRow_6 ?_
    refine r_alen (v := 24) X lc_12 (by decide) dX4_putRow_9 ?_
    refine r_icmp_ge (tgt := 23) X dX4_putRow_10 (by decide) (fun _ => ?_) (fun _ => ?_)
    · refine r_iconst (v := 0) X (by decide) dX4_putRow_23 ?_
      exact r_zret X (by decide) dX4_putRow_24
    · refine r_iload_n X 2 rfl dX4_putRow_13 ?_
      refine r_iconst (v := 0) X (by decide) dX4_putRow_14 ?_
      refine r_ldc X kc_X4_23 dX4_putRow_15 ?_
      refine r_callS X (mX10_within _ _ _ _ _) mk_X10_within lk_X4_24 rfl (by decide) (by decide) (Nat.le_of_ble_eq_true rfl) rfl dX4_putRow_17 (fun q17 _ => ?_)
      refine r_if_ne (tgt := 25) X dX4_putRow_20 (by decide) (fun _ => ?_) (fun _ => ?_)
      · refine r_aload_n X 0 rfl dX4_putRow_25 ?_
        refine r_getR X fk_X4_11 lc_1 rfl dX4_putRow_26 ?_
        refine r_iload_n X 1 rfl dX4_putRow_29 ?_
        refine r_iload_n X 2 rfl dX4_putRow_30 ?_
        refine r_iast X lc_12 dX4_putRow_31 (fun _ => ?_)
        refine r_bindS (fun S31 => ?_)
        refine r_aload_n X 0 rfl dX4_putRow_32 ?_
        refine r_iconst (v := 1) X (by decide) dX4_putRow_33 ?_
        refine r_putZ X pk_X4_15 lc_1 rfl (by decide) dX4_putRow_34 ?_
        refine r_bindS (fun S34 => ?_)
        refine r_iconst (v := 1) X (by decide) dX4_putRow_37 ?_
        exact r_zret X (by decide) dX4_putRow_38
      · refine r_iconst (v := 0) X (by decide) dX4_putRow_23 ?_
        exact r_zret X (by decide) dX4_putRow_24
theorem mX4_putRow (F : Nat) (S : ST) (x1 : Int32) (x2 : Int32) : MetS yX4_putRow cX4_putRow 3 (some .boolean) 1 layC (fX4_putRow F S x1 x2) S (fun ad => [.ref (ad 1), .int x1, .int x2]) := mk_met (fun ad => [(0, .ref (ad 1)), (1, .int x1), (2, .int x2)]) (by decide) (fun _ => Nat.le_of_ble_eq_true rfl) (fun _ => rfl) (fun E X => gX4_putRow X F S x1 x2)
