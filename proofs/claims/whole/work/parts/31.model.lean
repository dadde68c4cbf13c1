def fX11_clipped (F : Nat) (S : ST) (x1 : Int32) (x2 : Int32) : Option (Int32 × ST) :=
  (fX11_clip F S).bind (fun q1 => if x1 < 0 then
    (some ((-1 : Int32), q1.2))
  else
    (if x1 < (q1.2.1 0 43) then
      (if x2 = 0 then
        ((if vin x1 300 = true then some ((q1.2.1 19 (ix x1)), q1.2) else none))
      else
        (if x2 = (1 : Int32) then
          ((if vin x1 300 = true then some ((q1.2.1 20 (ix x1)), q1.2) else none))
        else
          (if x2 = (2 : Int32) then
            ((if vin x1 300 = true then some ((q1.2.1 21 (ix x1)), q1.2) else none))
          else
            (some ((-1 : Int32), q1.2)))))
    else
      (some ((-1 : Int32), q1.2))))
set_option maxRecDepth 4000 in
theorem gX11_clipped {E : CT} (X : Cx E layM cX11_clipped RX11 3 (some .int) 3) (F : Nat) (S : ST) (x1 : Int32) (x2 : Int32) : G E (fX11_clipped F S x1 x2) S 0 [(0, .ref (eA E 0)), (1, .int x1), (2, .int x2)] [] := by
  unfold fX11_clipped
  refine r_aload_n X 0 rfl dX11_clipped_0 ?_
  refine r_callVv X (mX11_clip _ _) mk_X11_clip lk_X11_303 lm_0 rfl rfl (by decide) (by decide) (Nat.le_of_ble_eq_true rfl) rfl dX11_clipped_1 (fun q1 _ => ?_)
  refine r_iload_n X 1 rfl dX11_clipped_4 ?_
  refine r_if_lt (tgt := 16) X dX11_clipped_5 (by decide) (fun _ => ?_) (fun _ => ?_)
  · refine r_iconst (v := -1) X (by decide) dX11_clipped_16 ?_
    refine r_goto (tgt := 62) X dX11_clipped_17 (by decide) ?_
    exact r_iret X dX11_clipped_62
  · refine r_iload_n X 1 rfl dX11_clipped_8 ?_
    refine r_aload_n X 0 rfl dX11_clipped_9 ?_
    refine r_getI X fk_X11_300 lm_0 rfl dX11_clipped_10 ?_
    refine r_icmp_lt (tgt := 20) X dX11_clipped_13 (by decide) (fun _ => ?_) (fun _ => ?_)
    · refine r_iload_n X 2 rfl dX11_clipped_20 ?_
      refine r_if_ne (tgt := 33) X dX11_clipped_21 (by decide) (fun _ => ?_) (fun _ => ?_)
      · refine r_iload_n X 2 rfl dX11_clipped_33 ?_
        refine r_iconst (v := 1) X (by decide) dX11_clipped_34 ?_
        refine r_icmp_ne (tgt := 47) X dX11_clipped_35 (by decide) (fun _ => ?_) (fun _ => ?_)
        · refine r_iload_n X 2 rfl dX11_clipped_47 ?_
          refine r_iconst (v := 2) X (by decide) dX11_clipped_48 ?_
          refine r_icmp_ne (tgt := 61) X dX11_clipped_49 (by decide) (fun _ => ?_) (fun _ => ?_)
          · refine r_iconst (v := -1) X (by decide) dX11_clipped_61 ?_
            exact r_iret X dX11_clipped_62
          · refine r_aload_n X 0 rfl dX11_clipped_52 ?_
            refine r_getR X fk_X11_77 lm_0 rfl dX11_clipped_53 ?_
            refine r_iload_n X 1 rfl dX11_clipped_56 ?_
            refine r_iald X lm_21 dX11_clipped_57 (fun _ => ?_)
            refine r_goto (tgt := 62) X dX11_clipped_58 (by decide) ?_
            exact r_iret X dX11_clipped_62
        · refine r_aload_n X 0 rfl dX11_clipped_38 ?_
          refine r_getR X fk_X11_74 lm_0 rfl dX11_clipped_39 ?_
          refine r_iload_n X 1 rfl dX11_clipped_42 ?_
          refine r_iald X lm_20 dX11_clipped_43 (fun _ => ?_)
          refine r_goto (tgt := 62) X dX11_clipped_44 (by decide) ?_
          exact r_iret X dX11_clipped_62
      · refine r_aload_n X 0 rfl dX11_clipped_24 ?_
        refine r_getR X fk_X11_71 lm_0 rfl dX11_clipped_25 ?_
        refine r_iload_n X 1 rfl dX11_clipped_28 ?_
        refine r_iald X lm_19 dX11_clipped_29 (fun _ => ?_)
        refine r_goto (tgt := 62) X dX11_clipped_30 (by decide) ?_
        exact r_iret X dX11_clipped_62
    · refine r_iconst (v := -1) X (by decide) dX11_clipped_16 ?_
      refine r_goto (tgt := 62) X dX11_clipped_17 (by decide) ?_
      exact r_iret X dX11_clipped_62
theorem mX11_clipped (F : Nat) (S : ST) (x1 : Int32) (x2 : Int32) : MetS yX11_clipped cX11_clipped 3 (some .int) 3 layM (fX11_clipped F S x1 x2) S (fun ad => [.ref (ad 0), .int x1, .int x2]) := mk_met (fun ad => [(0, .ref (ad 0)), (1, .int x1), (2, .int x2)]) (by decide) (fun _ => Nat.le_of_ble_eq_true rfl) (fun _ => rfl) (fun E X => gX11_clipped X F S x1 x2)
def fX11_drop (F : Nat) (S : ST) : Option (Int32 × ST) :=
  if (S.1 0 53) = 0 then
    (some ((0 : Int32), S))
  else
    (bindS (us S 0 53 ((S.1 0 53) - (1 : Int32))) (fun S16 => some ((1 : Int32), S16)))
set_option maxRecDepth 4000 in
theorem gX11_drop {E : CT} (X : Cx E layM cX11_drop RX11 1 (some .boolean) 0) (F : Nat) (S : ST) : G E (fX11_drop F S) S 0 [(0, .ref (eA E 0))] [] := by
  unfold fX11_drop
  refine r_aload_n X 0 rfl dX11_drop_0 ?_
  refine r_getI X fk_X11_313 lm_0 rfl dX11_drop_1 ?_
  refine r_if_ne (tgt := 9) X dX11_drop_4 (by decide) (fun _ => ?_) (fun _ => ?_)
  · refine r_aload_n X 0 rfl dX11_drop_9 ?_
    refine r_dup X rfl dX11_drop_10 ?_
    refine r_getI X fk_X11_313 lm_0 rfl dX11_drop_11 ?_
    refine r_iconst (v := 1) X (by decide) dX11_drop_14 ?_
    refine r_isub X dX11_drop_15 ?_
    refine r_putI X pk_X11_313 lm_0 rfl dX11_drop_16 ?_
    refine r_bindS (fun S16 => ?_)
    refine r_iconst (v := 1) X (by decide) dX11_drop_19 ?_
    exact r_zret X (by decide) dX11_drop_20
  · refine r_iconst (v := 0) X (by decide) dX11_drop_7 ?_
    exact r_zret X (by decide) dX11_drop_8
theorem mX11_drop (F : Nat) (S : ST) : MetS yX11_drop cX11_drop 1 (some .boolean) 0 layM (fX11_drop F S) S (fun ad => [.ref (ad 0)]) := mk_met (fun ad => [(0, .ref (ad 0))]) (by decide) (fun _ => Nat.le_of_ble_eq_true rfl) (fun _ => rfl) (fun E X => gX11_drop X F S)
def fX11_end (F : Nat) (S : ST) (x1 : Int32) : Option (Int32 × ST) :=
  if x1 < 0 then
    (some ((-1 : Int32), S))
  else
    (if x1 ≤ (S.1 0 5) then
      (bindS (us S 0 5 x1) (fun S16 => some (x1, S16)))
    else
      (some ((-1 : Int32), S)))
set_option maxRecDepth 4000 in
theorem gX11_end {E : CT} (X : Cx E layM cX11_end RX11 2 (some .int) 0) (F : Nat) (S : ST) (x1 : Int32) : G E (fX11_end F S x1) S 0 [(0, .ref (eA E 0)), (1, .int x1)] [] := by
  unfold fX11_end
  refine r_iload_n X 1 rfl dX11_end_0 ?_
  refine r_if_lt (tgt := 12) X dX11_end_1 (by decide) (fun _ => ?_) (fun _ => ?_)
  · refine r_iconst (v := -1) X (by decide) dX11_end_12 ?_
    exact r_iret X dX11_end_13
  · refine r_iload_n X 1 rfl dX11_end_4 ?_
    refine r_aload_n X 0 rfl dX11_end_5 ?_
    refine r_getI X fk_X11_147 lm_0 rfl dX11_end_6 ?_
    refine r_icmp_le (tgt := 14) X dX11_end_9 (by decide) (fun _ => ?_) (fun _ => ?_)
    · refine r_aload_n X 0 rfl dX11_end_14 ?_
      refine r_iload_n X 1 rfl dX11_end_15 ?_
      refine r_putI X pk_X11_147 lm_0 rfl dX11_end_16 ?_
      refine r_bindS (fun S16 => ?_)
      refine r_iload_n X 1 rfl dX11_end_19 ?_
      exact r_iret X dX11_end_20
    · refine r_iconst (v := -1) X (by decide) dX11_end_12 ?_
      exact r_iret X dX11_end_13
theorem mX11_end (F : Nat) (S : ST) (x1 : Int32) : MetS yX11_end cX11_end 2 (some .int) 0 layM (fX11_end F S x1) S (fun ad => [.ref (ad 0), .int x1]) := mk_met (fun ad => [(0, .ref (ad 0)), (1, .int x1)]) (by decide) (fun _ => Nat.le_of_ble_eq_true rfl) (fun _ => rfl) (fun E X => gX11_end X F S x1)
def fX11_fault (F : Nat) (S : ST) (x1 : Int32) : Option (Int32 × ST) :=
  if x1 = 0 then
    (some ((S.1 0 6), S))
  else
    (if x1 = (1 : Int32) then
      (some ((S.1 0 7), S))
    else
      (some ((-1 : Int32), S)))
set_option maxRecDepth 4000 in
theorem gX11_fault {E : CT} (X : Cx E layM cX11_fault RX11 2 (some .int) 0) (F : Nat) (S : ST) (x1 : Int32) : G E (fX11_fault F S x1) S 0 [(0, .ref (eA E 0)), (1, .int x1)] [] := by
  unfold fX11_fault
  refine r_iload_n X 1 rfl dX11_fault_0 ?_
  refine r_if_ne (tgt := 11) X dX11_fault_1 (by decide) (fun _ => ?_) (fun _ => ?_)
  · refine r_iload_n X 1 rfl dX11_fault_11 ?_
    refine r_iconst (v := 1) X (by decide) dX11_fault_12 ?_
    refine r_icmp_ne (tgt := 23) X dX11_fault_13 (by decide) (fun _ => ?_) (fun _ => ?_)
    · refine r_iconst (v := -1) X (by decide) dX11_fault_23 ?_
      exact r_iret X dX11_fault_24
    · refine r_aload_n X 0 rfl dX11_fault_16 ?_
      refine r_getI X fk_X11_16 lm_0 rfl dX11_fault_17 ?_
      refine r_goto (tgt := 24) X dX11_fault_20 (by decide) ?_
      exact r_iret X dX11_fault_24
  · refine r_aload_n X 0 rfl dX11_fault_4 ?_
    refine r_getI X fk_X11_187 lm_0 rfl dX11_fault_5 ?_
    refine r_goto (tgt := 24) X dX11_fault_8 (by decide) ?_
    exact r_iret X dX11_fault_24
theorem mX11_fault (F : Nat) (S : ST) (x1 : Int32) : MetS yX11_fault cX11_fault 2 (some .int) 0 layM (fX11_fault F S x1) S (fun ad => [.ref (ad 0), .int x1]) := mk_met (fun ad => [(0, .ref (ad 0)), (1, .int x1)]) (by decide) (fun _ => Nat.le_of_ble_eq_true rfl) (fun _ => rfl) (fun E X => gX11_fault X F S x1)
def fX11_four_3 (F : Nat) : Nat → ST → Int32 → Int32 → Option (Int32 × ST)
  | 0, _, _, _ => none
  | n + 1, S, x1, x2 =>
  if x2 < 0 then
    (some ((0 : Int32), S))
  else
    ((if vin (S.1 0 5) 600 = true then bindS (us S 2 (ix (S.1 0 5)) ((x1 >>> (x2 &&& 31)) &&& (255 : Int32))) (fun S22 => bindS (us S22 0 5 ((S22.1 0 5) + (1 : Int32))) (fun S30 => fX11_four_3 F n S30 x1 (x2 + (-8 : Int32)))) else none))
set_option maxRecDepth 4000 in
theorem gX11_four_3 {E : CT} (X : Cx E layM cX11_four RX11 3 none 0) (F : Nat) : ∀ (n : Nat) (S : ST) (x1 : Int32) (x2 : Int32), G E (fX11_four_3 F n S x1 x2) S 3 [(0, .ref (eA E 0)), (1, .int x1), (2, .int x2)] []
  | 0, _, _, _ => r_none
  | n + 1, S, x1, x2 => by
    have ih := gX11_four_3 X F n
    unfold fX11_four_3
    refine r_iload_n X 2 rfl dX11_four_3 ?_
    refine r_if_lt (tgt := 39) X dX11_four_4 (by decide) (fun _ => ?_) (fun _ => ?_)
    · exact r_vret X dX11_four_39
    · refine r_aload_n X 0 rfl dX11_four_7 ?_
      refine r_getR X fk_X11_13 lm_0 rfl dX11_four_8 ?_
      refine r_aload_n X 0 rfl dX11_four_11 ?_
      refine r_getI X fk_X11_147 lm_0 rfl dX11_four_12 ?_
      refine r_iload_n X 1 rfl dX11_four_15 ?_
      refine r_iload_n X 2 rfl dX11_four_16 ?_
      refine r_ishr X dX11_four_17 ?_
      refine r_sipush (v := 255) X (by decide) dX11_four_18 ?_
      refine r_iand X dX11_four_21 ?_
      refine r_iast X lm_2 dX11_four_22 (fun _ => ?_)
      refine r_bindS (fun S22 => ?_)
      refine r_aload_n X 0 rfl dX11_four_23 ?_
      refine r_dup X rfl dX11_four_24 ?_
      refine r_getI X fk_X11_147 lm_0 rfl dX11_four_25 ?_
      refine r_iconst (v := 1) X (by decide) dX11_four_28 ?_
      refine r_iadd X dX11_four_29 ?_
      refine r_putI X pk_X11_147 lm_0 rfl dX11_four_30 ?_
      refine r_bindS (fun S30 => ?_)
      refine r_iinc (lv' := [(0, _), (1, _), (2, _)]) (dl := -8) X 2 rfl (by decide) (by decide) rfl dX11_four_33 ?_
      refine r_goto (tgt := 3) X dX11_four_36 (by decide) ?_
      exact ih _ _ _
def fX11_four (F : Nat) (S : ST) (x1 : Int32) : Option (Int32 × ST) :=
  fX11_four_3 F F S x1 (24 : Int32)
set_option maxRecDepth 4000 in
theorem gX11_four {E : CT} (X : Cx E layM cX11_four RX11 3 none 0) (F : Nat) (S : ST) (x1 : Int32) : G E (fX11_four F S x1) S 0 [(0, .ref (eA E 0)), (1, .int x1)] [] := by
  unfold fX11_four
  refine r_bipush (v := 24) X (by decide) dX11_four_0 ?_
  refine r_istore_n (lv' := [(0, _), (1, _), (2, _)]) X (by decide) rfl dX11_four_2 ?_
  exact gX11_four_3 X F F _ _ _
theorem mX11_four (F : Nat) (S : ST) (x1 : Int32) : MetS yX11_four cX11_four 3 none 0 layM (fX11_four F S x1) S (fun ad => [.ref (ad 0), .int x1]) := mk_met (fun ad => [(0, .ref (ad 0)), (1, .int x1)]) (by decide) (fun _ => Nat.le_of_ble_eq_true rfl) (fun _ => rfl) (fun E X => gX11_four X F S x1)
def fX11_feed (F : Nat) (S : ST) (x1 : Int32) (x2 : Int32) (x3 : Int32) (x4 : Int32) (x5 : Int32) : Option (Int32 × ST) :=
  if ((S.1 0 5) + (20 : Int32)) ≤ (600 : Int32) then
    ((fX11_four F S x1).bind (fun q17 => (fX11_four F q17.2 x2).bind (fun q22 => (fX11_four F q22.2 x3).bind (fun q27 => (fX11_four F q27.2 x4).bind (fun q33 => (fX11_four F q33.2 x5).bind (fun q39 => some ((q39.2.1 0 5), q39.2)))))))
  else
    (some ((-1 : Int32), S))
set_option maxRecDepth 4000 in
theorem gX11_feed {E : CT} (X : Cx E layM cX11_feed RX11 6 (some .int) 1) (F : Nat) (S : ST) (x1 : Int32) (x2 : Int32) (x3 : Int32) (x4 : Int32) (x5 : Int32) : G E (fX11_feed F S x1 x2 x3 x4 x5) S 0 [(0, .ref (eA E 0)), (1, .int x1), (2, .int x2), (3, .int x3), (4, .int x4), (5, .int x5)] [] := by
  unfold fX11_feed
  refine r_aload_n X 0 rfl dX11_feed_0 ?_
  refine r_getI X fk_X11_147 lm_0 rfl dX11_feed_1 ?_
  refine r_bipush (v := 20) X (by decide) dX11_feed_4 ?_
  refine r_iadd X dX11_feed_6 ?_
  refine r_sipush (v := 600) X (by decide) dX11_feed_7 ?_
  refine r_icmp_le (tgt := 15) X dX11_feed_10 (by decide) (fun _ => ?_) (fun _ => ?_)
  · refine r_aload_n X 0 rfl dX11_feed_15 ?_
    refine r_iload_n X 1 rfl dX11_feed_16 ?_
    refine r_callVv X (mX11_four _ _ _) mk_X11_four lk_X11_150 lm_0 rfl rfl (by decide) (by decide) (Nat.le_of_ble_eq_true rfl) rfl dX11_feed_17 (fun q17 _ => ?_)
    refine r_aload_n X 0 rfl dX11_feed_20 ?_
    refine r_iload_n X 2 rfl dX11_feed_21 ?_
    refine r_callVv X (mX11_four _ _ _) mk_X11_four lk_X11_150 lm_0 rfl rfl (by decide) (by decide) (Nat.le_of_ble_eq_true rfl) rfl dX11_feed_22 (fun q22 _ => ?_)
    refine r_aload_n X 0 rfl dX11_feed_25 ?_
    refine r_iload_n X 3 rfl dX11_feed_26 ?_
    refine r_callVv X (mX11_four _ _ _) mk_X11_four lk_X11_150 lm_0 rfl rfl (by decide) (by decide) (Nat.le_of_ble_eq_true rfl) rfl dX11_feed_27 (fun q27 _ => ?_)
    refine r_aload_n X 0 rfl dX11_feed_30 ?_
    refine r_iload X 4 rfl dX11_feed_31 ?_
    refine r_callVv X (mX11_four _ _ _) mk_X11_four lk_X11_150 lm_0 rfl rfl (by decide) (by decide) (Nat.le_of_ble_eq_true rfl) rfl dX11_feed_33 (fun q33 _ => ?_)
    refine r_aload_n X 0 rfl dX11_feed_36 ?_
    refine r_iload X 5 rfl dX11_feed_37 ?_
    refine r_callVv X (mX11_four _ _ _) mk_X11_four lk_X11_150 lm_0 rfl rfl (by decide) (by decide) (Nat.le_of_ble_eq_true rfl) rfl dX11_feed_39 (fun q39 _ => ?_)
    refine r_aload_n X 0 rfl dX11_feed_42 ?_
    refine r_getI X fk_X11_147 lm_0 rfl dX11_feed_43 ?_
    exact r_iret X dX11_feed_46
  · refine r_iconst (v := -1) X (by decide) dX11_feed_13 ?_
    exact r_iret X dX11_feed_14
theorem mX11_feed (F : Nat) (S : ST) (x1 : Int32) (x2 : Int32) (x3 : Int32) (x4 : Int32) (x5 : Int32) : MetS yX11_feed cX11_feed 6 (some .int) 1 layM (fX11_feed F S x1 x2 x3 x4 x5) S (fun ad => [.ref (ad 0), .int x1, .int x2, .int x3, .int x4, .int x5]) := mk_met (fun ad => [(0, .ref (ad 0)), (1, .int x1), (2, .int x2), (3, .int x3), (4, .int x4), (5, .int x5)]) (by decide) (fun _ => Nat.le_of_ble_eq_true rfl) (fun _ => rfl) (fun E X => gX11_feed X F S x1 x2 x3 x4 x5)
def fX11_full (F : Nat) (S : ST) (x1 : Int32) (x2 : Int32) : Option (Int32 × ST) :=
  (fX11_seekCentre F S).bind (fun q1 => if x1 < (1 : Int32) then
    (some ((-1 : Int32), q1.2))
  else
    (if (200 : Int32) < x1 then
      (some ((-1 : Int32), q1.2))
    else
      (if x2 < (1 : Int32) then
        (some ((-1 : Int32), q1.2))
      else
        (if (50 : Int32) < x2 then
          (some ((-1 : Int32), q1.2))
        else
          (if 0 ≤ (q1.2.1 0 3) then
            (bindI ((((10 : Int32) * (q1.2.1 0 3)) + (5 : Int32))) (fun v45 => if x1 < v45 then
              ((if ((7 : Int32) * x2) = 0 then none else some (((((v45 * v45) - (x1 * x1)) * (22 : Int32)) / ((7 : Int32) * x2)), q1.2)))
            else
              (some ((0 : Int32), q1.2))))
          else
            (some ((-1 : Int32), q1.2)))))))
set_option maxRecDepth 4000 in
theorem gX11_full {E : CT} (X : Cx E layM cX11_full RX11 4 (some .int) 3) (F : Nat) (S : ST) (x1 : Int32) (x2 : Int32) : G E (fX11_full F S x1 x2) S 0 [(0, .ref (eA E 0)), (1, .int x1), (2, .int x2)] [] := by
  unfold fX11_full
  refine r_aload_n X 0 rfl dX11_full_0 ?_
  refine r_callVv X (mX11_seekCentre _ _) mk_X11_seekCentre lk_X11_144 lm_0 rfl rfl (by decide) (by decide) (Nat.le_of_ble_eq_true rfl) rfl dX11_full_1 (fun q1 _ => ?_)
  refine r_iload_n X 1 rfl dX11_full_4 ?_
  refine r_iconst (v := 1) X (by decide) dX11_full_5 ?_
  refine r_icmp_lt (tgt := 34) X dX11_full_6 (by decide) (fun _ => ?_) (fun _ => ?_)
  · refine r_iconst (v := -1) X (by decide) dX11_full_34 ?_
    exact r_iret X dX11_full_35
  · refine r_iload_n X 1 rfl dX11_full_9 ?_
    refine r_sipush (v := 200) X (by decide) dX11_full_10 ?_
    refine r_icmp_gt (tgt := 34) X dX11_full_13 (by decide) (fun _ => ?_) (fun _ => ?_)
    · refine r_iconst (v := -1) X (by decide) dX11_full_34 ?_
      exact r_iret X dX11_full_35
    · refine r_iload_n X 2 rfl dX11_full_16 ?_
      refine r_iconst (v := 1) X (by decide) dX11_full_17 ?_
      refine r_icmp_lt (tgt := 34) X dX11_full_18 (by decide) (fun _ => ?_) (fun _ => ?_)
      · refine r_iconst (v := -1) X (by decide) dX11_full_34 ?_
        exact r_iret X dX11_full_35
      · refine r_iload_n X 2 rfl dX11_full_21 ?_
        refine r_bipush (v := 50) X (by decide) dX11_full_22 ?_
        refine r_icmp_gt (tgt := 34) X dX11_full_24 (by decide) (fun _ => ?_) (fun _ => ?_)
        · refine r_iconst (v := -1) X (by decide) dX11_full_34 ?_
          exact r_iret X dX11_full_35
        · refine r_aload_n X 0 rfl dX11_full_27 ?_
          refine r_getI X fk_X11_131 lm_0 rfl dX11_full_28 ?_
          refine r_if_ge (tgt := 36) X dX11_full_31 (by decide) (fun _ => ?_) (fun _ => ?_)
          · refine r_bipush (v := 10) X (by decide) dX11_full_36 ?_
            refine r_aload_n X 0 rfl dX11_full_38 ?_
            refine r_getI X fk_X11_131 lm_0 rfl dX11_full_39 ?_
            refine r_imul X dX11_full_42 ?_
            refine r_iconst (v := 5) X (by decide) dX11_full_43 ?_
            refine r_iadd X dX11_full_44 ?_
            refine r_bindI (fun v45 => ?_)
            refine r_istore_n (lv' := [(0, _), (1, _), (2, _), (3, _)]) X (by decide) rfl dX11_full_45 ?_
            refine r_iload_n X 1 rfl dX11_full_46 ?_
            refine r_iload_n X 3 rfl dX11_full_47 ?_
            refine r_icmp_lt (tgt := 55) X dX11_full_48 (by decide) (fun _ => ?_) (fun _ => ?_)
            · refine r_iload_n X 3 rfl dX11_full_55 ?_
              refine r_iload_n X 3 rfl dX11_full_56 ?_
              refine r_imul X dX11_full_57 ?_
              refine r_iload_n X 1 rfl dX11_full_58 ?_
              refine r_iload_n X 1 rfl dX11_full_59 ?_
              refine r_imul X dX11_full_60 ?_
              refine r_isub X dX11_full_61 ?_
              refine r_bipush (v := 22) X (by decide) dX11_full_62 ?_
              refine r_imul X dX11_full_64 ?_
              refine r_bipush (v := 7) X (by decide) dX11_full_65 ?_
              refine r_iload_n X 2 rfl dX11_full_67 ?_
              refine r_imul X dX11_full_68 ?_
              refine r_idiv X dX11_full_69 (fun _ => ?_)
              exact r_iret X dX11_full_70
            · refine r_iconst (v := 0) X (by decide) dX11_full_51 ?_
              refine r_goto (tgt := 70) X dX11_full_52 (by decide) ?_
              exact r_iret X dX11_full_70
          · refine r_iconst (v := -1) X (by decide) dX11_full_34 ?_
            exact r_iret X dX11_full_35
theorem mX11_full (F : Nat) (S : ST) (x1 : Int32) (x2 : Int32) : MetS yX11_full cX11_full 4 (some .int) 3 layM (fX11_full F S x1 x2) S (fun ad => [.ref (ad 0), .int x1, .int x2]) := mk_met (fun ad => [(0, .ref (ad 0)), (1, .int x1), (2, .int x2)]) (by decide) (fun _ => Nat.le_of_ble_eq_true rfl) (fun _ => rfl) (fun E X => gX11_full X F S x1 x2)
def fX11_glue (F : Nat) (S : ST) (x1 : Int32) (x2 : Int32) : Option (Int32 × ST) :=
  if (S.1 0 53) = (10 : Int32) then
    (some ((-1 : Int32), S))
  else
    (if x1 < (1 : Int32) then
      (some ((-1 : Int32), S))
    else
      (if (500 : Int32) < x1 then
        (some ((-1 : Int32), S))
      else
        (if x2 < 0 then
          (some ((-1 : Int32), S))
        else
          (if x2 ≤ (10000 : Int32) then
            ((if vin (S.1 0 53) 10 = true then bindS (us S 28 (ix (S.1 0 53)) x1) (fun S43 => (if vin (S43.1 0 53) 10 = true then bindS (us S43 29 (ix (S43.1 0 53)) x2) (fun S53 => bindS (us S53 0 53 ((S53.1 0 53) + (1 : Int32))) (fun S61 => some (((S61.1 0 53) - (1 : Int32)), S61))) else none)) else none))
          else
            (some ((-1 : Int32), S))))))
set_option maxRecDepth 4000 in
theorem gX11_glue {E : CT} (X : Cx E layM cX11_glue RX11 3 (some .int) 0) (F : Nat) (S : ST) (x1 : Int32) (x2 : Int32) : G E (fX11_glue F S x1 x2) S 0 [(0, .ref (eA E 0)), (1, .int x1), (2, .int x2)] [] := by
  unfold fX11_glue
  refine r_aload_n X 0 rfl dX11_glue_0 ?_
  refine r_getI X fk_X11_313 lm_0 rfl dX11_glue_1 ?_
  refine r_bipush (v := 10) X (by decide) dX11_glue_4 ?_
  refine r_icmp_eq (tgt := 32) X dX11_glue_6 (by decide) (fun _ => ?_) (fun _ => ?_)
  · refine r_iconst (v := -1) X (by decide) dX11_glue_32 ?_
    exact r_iret X dX11_glue_33
  · refine r_iload_n X 1 rfl dX11_glue_9 ?_
    refine r_iconst (v := 1) X (by decide) dX11_glue_10 ?_
    refine r_icmp_lt (tgt := 32) X dX11_glue_11 (by decide) (fun _ => ?_) (fun _ => ?_)
    · refine r_iconst (v := -1) X (by decide) dX11_glue_32 ?_
      exact r_iret X dX11_glue_33
    · refine r_iload_n X 1 rfl dX11_glue_14 ?_
      refine r_sipush (v := 500) X (by decide) dX11_glue_15 ?_
      refine r_icmp_gt (tgt := 32) X dX11_glue_18 (by decide) (fun _ => ?_) (fun _ => ?_)
      · refine r_iconst (v := -1) X (by decide) dX11_glue_32 ?_
        exact r_iret X dX11_glue_33
      · refine r_iload_n X 2 rfl dX11_glue_21 ?_
        refine r_if_lt (tgt := 32) X dX11_glue_22 (by decide) (fun _ => ?_) (fun _ => ?_)
        · refine r_iconst (v := -1) X (by decide) dX11_glue_32 ?_
          exact r_iret X dX11_glue_33
        · refine r_iload_n X 2 rfl dX11_glue_25 ?_
          refine r_sipush (v := 10000) X (by decide) dX11_glue_26 ?_
          refine r_icmp_le (tgt := 34) X dX11_glue_29 (by decide) (fun _ => ?_) (fun _ => ?_)
          · refine r_aload_n X 0 rfl dX11_glue_34 ?_
            refine r_getR X fk_X11_111 lm_0 rfl dX11_glue_35 ?_
            refine r_aload_n X 0 rfl dX11_glue_38 ?_
            refine r_getI X fk_X11_313 lm_0 rfl dX11_glue_39 ?_
            refine r_iload_n X 1 rfl dX11_glue_42 ?_
            refine r_iast X lm_28 dX11_glue_43 (fun _ => ?_)
            refine r_bindS (fun S43 => ?_)
            refine r_aload_n X 0 rfl dX11_glue_44 ?_
            refine r_getR X fk_X11_114 lm_0 rfl dX11_glue_45 ?_
            refine r_aload_n X 0 rfl dX11_glue_48 ?_
            refine r_getI X fk_X11_313 lm_0 rfl dX11_glue_49 ?_
            refine r_iload_n X 2 rfl dX11_glue_52 ?_
            refine r_iast X lm_29 dX11_glue_53 (fun _ => ?_)
            refine r_bindS (fun S53 => ?_)
            refine r_aload_n X 0 rfl dX11_glue_54 ?_
            refine r_dup X rfl dX11_glue_55 ?_
            refine r_getI X fk_X11_313 lm_0 rfl dX11_glue_56 ?_
            refine r_iconst (v := 1) X (by decide) dX11_glue_59 ?_
            refine r_iadd X dX11_glue_60 ?_
            refine r_putI X pk_X11_313 lm_0 rfl dX11_glue_61 ?_
            refine r_bindS (fun S61 => ?_)
            refine r_aload_n X 0 rfl dX11_glue_64 ?_
            refine r_getI X fk_X11_313 lm_0 rfl dX11_glue_65 ?_
            refine r_iconst (v := 1) X (by decide) dX11_glue_68 ?_
            refine r_isub X dX11_glue_69 ?_
            exact r_iret X dX11_glue_70
          · refine r_iconst (v := -1) X (by decide) dX11_glue_32 ?_
            exact r_iret X dX11_glue_33
theorem mX11_glue (F : Nat) (S : ST) (x1 : Int32) (x2 : Int32) : MetS yX11_glue cX11_glue 3 (some .int) 0 layM (fX11_glue F S x1 x2) S (fun ad => [.ref (ad 0), .int x1, .int x2]) := mk_met (fun ad => [(0, .ref (ad 0)), (1, .int x1), (2, .int x2)]) (by decide) (fun _ => Nat.le_of_ble_eq_true rfl) (fun _ => rfl) (fun E X => gX11_glue X F S x1 x2)
def fX11_isWord_21 (F : Nat) (S : ST) : Option (Int32 × ST) :=
  some ((0 : Int32), S)
set_option maxRecDepth 4000 in
theorem gX11_isWord_21 {E : CT} (X : Cx E layM cX11_isWord RX11 3 (some .boolean) 0) (F : Nat) (S : ST) : G E (fX11_isWord_21 F S) S 21 [] [] := by
  unfold fX11_isWord_21
  refine r_iconst (v := 0) X (by decide) dX11_isWord_21 ?_
  exact r_zret X (by decide) dX11_isWord_22
def fX11_isWord (F : Nat) (S : ST) (x1 : Int64) : Option (Int32 × ST) :=
  if (S.1 0 10) = (1 : Int32) then
    (if (lg_cmp S.2 x1) = 0 then
      (some ((1 : Int32), S))
    else
      (fX11_isWord_21 F S))
  else
    (fX11_isWord_21 F S)
set_option maxRecDepth 4000 in
theorem gX11_isWord {E : CT} (X : Cx E layM cX11_isWord RX11 3 (some .boolean) 0) (F : Nat) (S : ST) (x1 : Int64) : G E (fX11_isWord F S x1) S 0 [(0, .ref (eA E 0)), (1, .long x1)] [] := by
  unfold fX11_isWord
  refine r_aload_n X 0 rfl dX11_isWord_0 ?_
  refine r_getI X fk_X11_174 lm_0 rfl dX11_isWord_1 ?_
  refine r_iconst (v := 1) X (by decide) dX11_isWord_4 ?_
  refine r_icmp_ne (tgt := 21) X dX11_isWord_5 (by decide) (fun _ => ?_) (fun _ => ?_)
  · refine r_sub [] rfl ?_
    exact gX11_isWord_21 X F _
  · refine r_aload_n X 0 rfl dX11_isWord_8 ?_
    refine r_getL X fk_X11_167 lm_0 rfl dX11_isWord_9 ?_
    refine r_lload_n X 1 rfl dX11_isWord_12 ?_
    refine r_lcmp X dX11_isWord_13 ?_
    refine r_if_ne (tgt := 21) X dX11_isWord_14 (by decide) (fun _ => ?_) (fun _ => ?_)
    · refine r_sub [] rfl ?_
      exact gX11_isWord_21 X F _
    · refine r_iconst (v := 1) X (by decide) dX11_isWord_17 ?_
      refine r_goto (tgt := 22) X dX11_isWord_18 (by decide) ?_
      exact r_zret X (by decide) dX11_isWord_22
theorem mX11_isWord (F : Nat) (S : ST) (x1 : Int64) : MetS yX11_isWord cX11_isWord 3 (some .boolean) 0 layM (fX11_isWord F S x1) S (fun ad => [.ref (ad 0), .long x1]) := mk_met (fun ad => [(0, .ref (ad 0)), (1, .long x1)]) (by decide) (fun _ => Nat.le_of_ble_eq_true rfl) (fun _ => rfl) (fun E X => gX11_isWord X F S x1)
def fX11_here (F : Nat) (S : ST) (x1 : Int32) : Option (Int32 × ST) :=
  if (S.1 0 9) ≤ ((S.1 0 8) + x1) then
    (some ((-1 : Int32), S))
  else
    ((if vin ((S.1 0 8) + x1) 600 = true then some ((S.1 2 (ix ((S.1 0 8) + x1))), S) else none))
set_option maxRecDepth 4000 in
theorem gX11_here {E : CT} (X : Cx E layM cX11_here RX11 2 (some .int) 0) (F : Nat) (S : ST) (x1 : Int32) : G E (fX11_here F S x1) S 0 [(0, .ref (eA E 0)), (1, .int x1)] [] := by
  unfold fX11_here
  refine r_aload_n X 0 rfl dX11_here_0 ?_
  refine r_getI X fk_X11_154 lm_0 rfl dX11_here_1 ?_
  refine r_iload_n X 1 rfl dX11_here_4 ?_
  refine r_iadd X dX11_here_5 ?_
  refine r_aload_n X 0 rfl dX11_here_6 ?_
  refine r_getI X fk_X11_157 lm_0 rfl dX11_here_7 ?_
  refine r_icmp_ge (tgt := 27) X dX11_here_10 (by decide) (fun _ => ?_) (fun _ => ?_)
  · refine r_iconst (v := -1) X (by decide) dX11_here_27 ?_
    exact r_iret X dX11_here_28
  · refine r_aload_n X 0 rfl dX11_here_13 ?_
    refine r_getR X fk_X11_13 lm_0 rfl dX11_here_14 ?_
    refine r_aload_n X 0 rfl dX11_here_17 ?_
    refine r_getI X fk_X11_154 lm_0 rfl dX11_here_18 ?_
    refine r_iload_n X 1 rfl dX11_here_21 ?_
    refine r_iadd X dX11_here_22 ?_
    refine r_iald X lm_2 dX11_here_23 (fun _ => ?_)
    refine r_goto (tgt := 28) X dX11_here_24 (by decide) ?_
    exact r_iret X dX11_here_28
theorem mX11_here (F : Nat) (S : ST) (x1 : Int32) : MetS yX11_here cX11_here 2 (some .int) 0 layM (fX11_here F S x1) S (fun ad => [.ref (ad 0), .int x1]) := mk_met (fun ad => [(0, .ref (ad 0)), (1, .int x1)]) (by decide) (fun _ => Nat.le_of_ble_eq_true rfl) (fun _ => rfl) (fun E X => gX11_here X F S x1)
def fX11_isDigit_16 (F : Nat) (S : ST) : Option (Int32 × ST) :=
  some ((0 : Int32), S)
set_option maxRecDepth 4000 in
theorem gX11_isDigit_16 {E : CT} (X : Cx E layM cX11_isDigit RX11 1 (some .boolean) 0) (F : Nat) (S : ST) : G E (fX11_isDigit_16 F S) S 16 [] [] := by
  unfold fX11_isDigit_16
  refine r_iconst (v := 0) X (by decide) dX11_isDigit_16 ?_
  exact r_zret X (by decide) dX11_isDigit_17
def fX11_isDigit (F : Nat) (S : ST) (x0 : Int32) : Option (Int32 × ST) :=
  if x0 < (48 : Int32) then
    (fX11_isDigit_16 F S)
  else
    (if (57 : Int32) < x0 then
      (fX11_isDigit_16 F S)
    else
      (some ((1 : Int32), S)))
set_option maxRecDepth 4000 in
theorem gX11_isDigit {E : CT} (X : Cx E layM cX11_isDigit RX11 1 (some .boolean) 0) (F : Nat) (S : ST) (x0 : Int32) : G E (fX11_isDigit F S x0) S 0 [(0, .int x0)] [] := by
  unfold fX11_isDigit
  refine r_iload_n X 0 rfl dX11_isDigit_0 ?_
  refine r_bipush (v := 48) X (by decide) dX11_isDigit_1 ?_
  refine r_icmp_lt (tgt := 16) X dX11_isDigit_3 (by decide) (fun _ => ?_) (fun _ => ?_)
  · refine r_sub [] rfl ?_
    exact gX11_isDigit_16 X F _
  · refine r_iload_n X 0 rfl dX11_isDigit_6 ?_
    refine r_bipush (v := 57) X (by decide) dX11_isDigit_7 ?_
    refine r_icmp_gt (tgt := 16) X dX11_isDigit_9 (by decide) (fun _ => ?_) (fun _ => ?_)
    · refine r_sub [] rfl ?_
      exact gX11_isDigit_16 X F _
    · refine r_iconst (v := 1) X (by decide) dX11_isDigit_12 ?_
      refine r_goto (tgt := 17) X dX11_isDigit_13 (by decide) ?_
      exact r_zret X (by decide) dX11_isDigit_17
theorem mX11_isDigit (F : Nat) (S : ST) (x0 : Int32) : MetS yX11_isDigit cX11_isDigit 1 (some .boolean) 0 layM (fX11_isDigit F S x0) S (fun ad => [.int x0]) := mk_met (fun ad => [(0, .int x0)]) (by decide) (fun _ => Nat.le_of_ble_eq_true rfl) (fun _ => rfl) (fun E X => gX11_isDigit X F S x0)
def fX11_isLetter_16 (F : Nat) (S : ST) : Option (Int32 × ST) :=
  some ((0 : Int32), S)
set_option maxRecDepth 4000 in
theorem gX11_isLetter_16 {E : CT} (X : Cx E layM cX11_isLetter RX11 1 (some .boolean) 0) (F : Nat) (S : ST) : G E (fX11_isLetter_16 F S) S 16 [] [] := by
  unfold fX11_isLetter_16
  refine r_iconst (v := 0) X (by decide) dX11_isLetter_16 ?_
  exact r_zret X (by decide) dX11_isLetter_17
def fX11_isLetter (F : Nat) (S : ST) (x0 : Int32) : Option (Int32 × ST) :=
  if x0 < (97 : Int32) then
    (fX11_isLetter_16 F S)
  else
    (if (122 : Int32) < x0 then
      (fX11_isLetter_16 F S)
    else
      (some ((1 : Int32), S)))
set_option maxRecDepth 4000 in
theorem gX11_isLetter {E : CT} (X : Cx E layM cX11_isLetter RX11 1 (some .boolean) 0) (F : Nat) (S : ST) (x0 : Int32) : G E (fX11_isLetter F S x0) S 0 [(0, .int x0)] [] := by
  unfold fX11_isLetter
  refine r_iload_n X 0 rfl dX11_isLetter_0 ?_
  refine r_bipush (v := 97) X (by decide) dX11_isLetter_1 ?_
  refine r_icmp_lt (tgt := 16) X dX11_isLetter_3 (by decide) (fun _ => ?_) (fun _ => ?_)
  · refine r_sub [] rfl ?_
    exact gX11_isLetter_16 X F _
  · refine r_iload_n X 0 rfl dX11_isLetter_6 ?_
    refine r_bipush (v := 122) X (by decide) dX11_isLetter_7 ?_
    refine r_icmp_gt (tgt := 16) X dX11_isLetter_9 (by decide) (fun _ => ?_) (fun _ => ?_)
    · refine r_sub [] rfl ?_
      exact gX11_isLetter_16 X F _
    · refine r_iconst (v := 1) X (by decide) dX11_isLetter_12 ?_
      refine r_goto (tgt := 17) X dX11_isLetter_13 (by decide) ?_
      exact r_zret X (by decide) dX11_isLetter_17
theorem mX11_isLetter (F : Nat) (S : ST) (x0 : Int32) : MetS yX11_isLetter cX11_isLetter 1 (some .boolean) 0 layM (fX11_isLetter F S x0) S (fun ad => [.int x0]) := mk_met (fun ad => [(0, .int x0)]) (by decide) (fun _ => Nat.le_of_ble_eq_true rfl) (fun _ => rfl) (fun E X => gX11_isLetter X F S x0)
def fX11_isSign (F : Nat) (S : ST) (x0 : Int32) : Option (Int32 × ST) :=
  if x0 = (59 : Int32) then
    (some ((1 : Int32), S))
  else
    (if x0 = (40 : Int32) then
      (some ((1 : Int32), S))
    else
      (if x0 = (41 : Int32) then
        (some ((1 : Int32), S))
      else
        (if x0 = (60 : Int32) then
          (some ((1 : Int32), S))
        else
          (if x0 = (62 : Int32) then
            (some ((1 : Int32), S))
          else
            (if x0 = (61 : Int32) then
              (some ((1 : Int32), S))
            else
              (if x0 = (43 : Int32) then
                (some ((1 : Int32), S))
              else
                (if x0 = (45 : Int32) then
                  (some ((1 : Int32), S))
                else
                  (some ((0 : Int32), S)))))))))
set_option maxRecDepth 4000 in
theorem gX11_isSign {E : CT} (X : Cx E layM cX11_isSign RX11 1 (some .boolean) 0) (F : Nat) (S : ST) (x0 : Int32) : G E (fX11_isSign F S x0) S 0 [(0, .int x0)] [] := by
  unfold fX11_isSign
  refine r_iload_n X 0 rfl dX11_isSign_0 ?_
  refine r_bipush (v := 59) X (by decide) dX11_isSign_1 ?_
  refine r_icmp_eq (tgt := 48) X dX11_isSign_3 (by decide) (fun _ => ?_) (fun _ => ?_)
  · refine r_iconst (v := 1) X (by decide) dX11_isSign_48 ?_
    refine r_goto (tgt := 53) X dX11_isSign_49 (by decide) ?_
    exact r_zret X (by decide) dX11_isSign_53
  · refine r_iload_n X 0 rfl dX11_isSign_6 ?_
    refine r_bipush (v := 40) X (by decide) dX11_isSign_7 ?_
    refine r_icmp_eq (tgt := 48) X dX11_isSign_9 (by decide) (fun _ => ?_) (fun _ => ?_)
    · refine r_iconst (v := 1) X (by decide) dX11_isSign_48 ?_
      refine r_goto (tgt := 53) X dX11_isSign_49 (by decide) ?_
      exact r_zret X (by decide) dX11_isSign_53
    · refine r_iload_n X 0 rfl dX11_isSign_12 ?_
      refine r_bipush (v := 41) X (by decide) dX11_isSign_13 ?_
      refine r_icmp_eq (tgt := 48) X dX11_isSign_15 (by decide) (fun _ => ?_) (fun _ => ?_)
      · refine r_iconst (v := 1) X (by decide) dX11_isSign_48 ?_
        refine r_goto (tgt := 53) X dX11_isSign_49 (by decide) ?_
        exact r_zret X (by decide) dX11_isSign_53
      · refine r_iload_n X 0 rfl dX11_isSign_18 ?_
        refine r_bipush (v := 60) X (by decide) dX11_isSign_19 ?_
        refine r_icmp_eq (tgt := 48) X dX11_isSign_21 (by decide) (fun _ => ?_) (fun _ => ?_)
        · refine r_iconst (v := 1) X (by decide) dX11_isSign_48 ?_
          refine r_goto (tgt := 53) X dX11_isSign_49 (by decide) ?_
          exact r_zret X (by decide) dX11_isSign_53
        · refine r_iload_n X 0 rfl dX11_isSign_24 ?_
          refine r_bipush (v := 62) X (by decide) dX11_isSign_25 ?_
          refine r_icmp_eq (tgt := 48) X dX11_isSign_27 (by decide) (fun _ => ?_) (fun _ => ?_)
          · refine r_iconst (v := 1) X (by decide) dX11_isSign_48 ?_
            refine r_goto (tgt := 53) X dX11_isSign_49 (by decide) ?_
            exact r_zret X (by decide) dX11_isSign_53
          · refine r_iload_n X 0 rfl dX11_isSign_30 ?_
            refine r_bipush (v := 61) X (by decide) dX11_isSign_31 ?_
            refine r_icmp_eq (tgt := 48) X dX11_isSign_33 (by decide) (fun _ => ?_) (fun _ => ?_)
            · refine r_iconst (v := 1) X (by decide) dX11_isSign_48 ?_
              refine r_goto (tgt := 53) X dX11_isSign_49 (by decide) ?_
              exact r_zret X (by decide) dX11_isSign_53
            · refine r_iload_n X 0 rfl dX11_isSign_36 ?_
              refine r_bipush (v := 43) X (by decide) dX11_isSign_37 ?_
              refine r_icmp_eq (tgt := 48) X dX11_isSign_39 (by decide) (fun _ => ?_) (fun _ => ?_)
              · refine r_iconst (v := 1) X (by decide) dX11_isSign_48 ?_
                refine r_goto (tgt := 53) X dX11_isSign_49 (by decide) ?_
                exact r_zret X (by decide) dX11_isSign_53
              · refine r_iload_n X 0 rfl dX11_isSign_42 ?_
                refine r_bipush (v := 45) X (by decide) dX11_isSign_43 ?_
                refine r_icmp_ne (tgt := 52) X dX11_isSign_45 (by decide) (fun _ => ?_) (fun _ => ?_)
                · refine r_iconst (v := 0) X (by decide) dX11_isSign_52 ?_
                  exact r_zret X (by decide) dX11_isSign_53
                · refine r_iconst (v := 1) X (by decide) dX11_isSign_48 ?_
                  refine r_goto (tgt := 53) X dX11_isSign_49 (by decide) ?_
                  exact r_zret X (by decide) dX11_isSign_53
theorem mX11_isSign (F : Nat) (S : ST) (x0 : Int32) : MetS yX11_isSign cX11_isSign 1 (some .boolean) 0 layM (fX11_isSign F S x0) S (fun ad => [.int x0]) := mk_met (fun ad => [(0, .int x0)]) (by decide) (fun _ => Nat.le_of_ble_eq_true rfl) (fun _ => rfl) (fun E X => gX11_isSign X F S x0)
def fX11_next_20 (F : Nat) (k0 : ST → Option (Int32 × ST)) (S : ST) : Option (Int32 × ST) :=
  bindS (us S 0 8 ((S.1 0 8) + (1 : Int32))) (fun S27 => k0 S27)
set_option maxRecDepth 4000 in
theorem gX11_next_20 {E : CT} (X : Cx E layM cX11_next RX11 3 none 1) (F : Nat) (k0 : ST → Option (Int32 × ST)) (h0 : ∀ (S : ST), G E (k0 S) S 0 [(0, .ref (eA E 0))] []) (S : ST) : G E (fX11_next_20 F k0 S) S 20 [(0, .ref (eA E 0))] [] := by
  unfold fX11_next_20
  refine r_aload_n X 0 rfl dX11_next_20 ?_
  refine r_dup X rfl dX11_next_21 ?_
  refine r_getI X fk_X11_154 lm_0 rfl dX11_next_22 ?_
  refine r_iconst (v := 1) X (by decide) dX11_next_25 ?_
  refine r_iadd X dX11_next_26 ?_
  refine r_putI X pk_X11_154 lm_0 rfl dX11_next_27 ?_
  refine r_bindS (fun S27 => ?_)
  refine r_goto (tgt := 0) X dX11_next_30 (by decide) ?_
  exact h0 _
def fX11_next_232 (F : Nat) (S : ST) (x2 : Int32) : Option (Int32 × ST) :=
  if (S.1 0 10) = (3 : Int32) then
    (some ((0 : Int32), S))
  else
    (bindS (us S 0 8 ((S.1 0 8) + x2)) (fun S247 => some ((0 : Int32), S247)))
set_option maxRecDepth 4000 in
theorem gX11_next_232 {E : CT} (X : Cx E layM cX11_next RX11 3 none 1) (F : Nat) (S : ST) (x2 : Int32) : G E (fX11_next_232 F S x2) S 232 [(0, .ref (eA E 0)), (2, .int x2)] [] := by
  unfold fX11_next_232
  refine r_aload_n X 0 rfl dX11_next_232 ?_
  refine r_getI X fk_X11_174 lm_0 rfl dX11_next_233 ?_
  refine r_iconst (v := 3) X (by decide) dX11_next_236 ?_
  refine r_icmp_eq (tgt := 250) X dX11_next_237 (by decide) (fun _ => ?_) (fun _ => ?_)
  · exact r_vret X dX11_next_250
  · refine r_aload_n X 0 rfl dX11_next_240 ?_
    refine r_dup X rfl dX11_next_241 ?_
    refine r_getI X fk_X11_154 lm_0 rfl dX11_next_242 ?_
    refine r_iload_n X 1 rfl dX11_next_245 ?_
    refine r_iadd X dX11_next_246 ?_
    refine r_putI X pk_X11_154 lm_0 rfl dX11_next_247 ?_
    refine r_bindS (fun S247 => ?_)
    exact r_vret X dX11_next_250
def fX11_next_131 (F : Nat) (S : ST) (x2 : Int32) (s0 : Int32) : Option (Int32 × ST) :=
  bindS (us S 0 10 s0) (fun S131 => fX11_next_232 F S131 x2)
set_option maxRecDepth 4000 in
theorem gX11_next_131 {E : CT} (X : Cx E layM cX11_next RX11 3 none 1) (F : Nat) (S : ST) (x2 : Int32) (s0 : Int32) : G E (fX11_next_131 F S x2 s0) S 131 [(0, .ref (eA E 0)), (2, .int x2)] [.int s0, .ref (eA E 0)] := by
  unfold fX11_next_131
  refine r_putI X pk_X11_174 lm_0 rfl dX11_next_131 ?_
  refine r_bindS (fun S131 => ?_)
  refine r_goto (tgt := 232) X dX11_next_134 (by decide) ?_
  exact gX11_next_232 X F _ _
def fX11_next_78 (F : Nat) : Nat → ST → Int32 → Option (Int32 × ST)
  | 0, _, _ => none
  | n + 1, S, x2 =>
  (fX11_here F S x2).bind (fun q80 => (fX11_isLetter F q80.2 q80.1).bind (fun q83 => if q83.1 = 0 then
    (if x2 ≤ (8 : Int32) then
      (fX11_next_131 F q83.2 x2 (1 : Int32))
    else
      (fX11_next_131 F q83.2 x2 (3 : Int32)))
  else
    (if (8 : Int32) ≤ x2 then
      (fX11_next_78 F n q83.2 (x2 + (1 : Int32)))
    else
      ((fX11_here F q83.2 x2).bind (fun q105 => bindS (ul q105.2 ((q83.2.2 <<< ((8 : Int32).toInt64 &&& 63)) ||| (q105.1.toInt64))) (fun S110 => fX11_next_78 F n S110 (x2 + (1 : Int32))))))))
set_option maxRecDepth 4000 in
theorem gX11_next_78 {E : CT} (X : Cx E layM cX11_next RX11 3 none 1) (F : Nat) : ∀ (n : Nat) (S : ST) (x2 : Int32), G E (fX11_next_78 F n S x2) S 78 [(0, .ref (eA E 0)), (2, .int x2)] []
  | 0, _, _ => r_none
  | n + 1, S, x2 => by
    have ih := gX11_next_78 X F n
    unfold fX11_next_78
    refine r_aload_n X 0 rfl dX11_next_78 ?_
    refine r_iload_n X 1 rfl dX11_next_79 ?_
    refine r_callV X (mX11_here _ _ _) mk_X11_here lk_X11_160 lm_0 rfl rfl (by decide) (by decide) (Nat.le_of_ble_eq_true rfl) rfl dX11_next_80 (fun q80 _ => ?_)
    refine r_callS X (mX11_isLetter _ _ _) mk_X11_isLetter lk_X11_177 rfl (by decide) (by decide) (Nat.le_of_ble_eq_true rfl) rfl dX11_next_83 (fun q83 _ => ?_)
    refine r_if_eq (tgt := 119) X dX11_next_86 (by decide) (fun _ => ?_) (fun _ => ?_)
    · refine r_aload_n X 0 rfl dX11_next_119 ?_
      refine r_iload_n X 1 rfl dX11_next_120 ?_
      refine r_bipush (v := 8) X (by decide) dX11_next_121 ?_
      refine r_icmp_le (tgt := 130) X dX11_next_123 (by decide) (fun _ => ?_) (fun _ => ?_)
      · refine r_iconst (v := 1) X (by decide) dX11_next_130 ?_
        exact gX11_next_131 X F _ _ _
      · refine r_iconst (v := 3) X (by decide) dX11_next_126 ?_
        refine r_goto (tgt := 131) X dX11_next_127 (by decide) ?_
        exact gX11_next_131 X F _ _ _
    · refine r_iload_n X 1 rfl dX11_next_89 ?_
      refine r_bipush (v := 8) X (by decide) dX11_next_90 ?_
      refine r_icmp_ge (tgt := 113) X dX11_next_92 (by decide) (fun _ => ?_) (fun _ => ?_)
      · refine r_iinc (lv' := [(0, _), (2, _)]) (dl := 1) X 1 rfl (by decide) (by decide) rfl dX11_next_113 ?_
        refine r_goto (tgt := 78) X dX11_next_116 (by decide) ?_
        exact ih _ _
      · refine r_aload_n X 0 rfl dX11_next_95 ?_
        refine r_aload_n X 0 rfl dX11_next_96 ?_
        refine r_getL X fk_X11_167 lm_0 rfl dX11_next_97 ?_
        refine r_bipush (v := 8) X (by decide) dX11_next_100 ?_
        refine r_lshl X dX11_next_102 ?_
        refine r_aload_n X 0 rfl dX11_next_103 ?_
        refine r_iload_n X 1 rfl dX11_next_104 ?_
        refine r_callV X (mX11_here _ _ _) mk_X11_here lk_X11_160 lm_0 rfl rfl (by decide) (by decide) (Nat.le_of_ble_eq_true rfl) rfl dX11_next_105 (fun q105 _ => ?_)
        refine r_i2l X dX11_next_108 ?_
        refine r_lor X dX11_next_109 ?_
        refine r_putL X pk_X11_167 dX11_next_110 ?_
        refine r_bindS (fun S110 => ?_)
        refine r_iinc (lv' := [(0, _), (2, _)]) (dl := 1) X 1 rfl (by decide) (by decide) rfl dX11_next_113 ?_
        refine r_goto (tgt := 78) X dX11_next_116 (by decide) ?_
        exact ih _ _
def fX11_next_208 (F : Nat) (S : ST) (x2 : Int32) (s0 : Int32) : Option (Int32 × ST) :=
  bindS (us S 0 10 s0) (fun S208 => fX11_next_232 F S208 x2)
set_option maxRecDepth 4000 in
theorem gX11_next_208 {E : CT} (X : Cx E layM cX11_next RX11 3 none 1) (F : Nat) (S : ST) (x2 : Int32) (s0 : Int32) : G E (fX11_next_208 F S x2 s0) S 208 [(0, .ref (eA E 0)), (2, .int x2)] [.int s0, .ref (eA E 0)] := by
  unfold fX11_next_208
  refine r_putI X pk_X11_174 lm_0 rfl dX11_next_208 ?_
  refine r_bindS (fun S208 => ?_)
  refine r_goto (tgt := 232) X dX11_next_211 (by decide) ?_
  exact gX11_next_232 X F _ _
def fX11_next_144 (F : Nat) : Nat → ST → Int32 → Option (Int32 × ST)
  | 0, _, _ => none
  | n + 1, S, x2 =>
  (fX11_here F S x2).bind (fun q146 => (fX11_isDigit F q146.2 q146.1).bind (fun q149 => if q149.1 = 0 then
    (if (4 : Int32) < x2 then
      (fX11_next_208 F q149.2 x2 (3 : Int32))
    else
      ((fX11_here F q149.2 x2).bind (fun q194 => (fX11_isLetter F q194.2 q194.1).bind (fun q197 => if q197.1 = 0 then
        (fX11_next_208 F q197.2 x2 (2 : Int32))
      else
        (fX11_next_208 F q197.2 x2 (3 : Int32))))))
  else
    (if (4 : Int32) ≤ x2 then
      (fX11_next_144 F n q149.2 (x2 + (1 : Int32)))
    else
      ((fX11_here F q149.2 x2).bind (fun q170 => bindS (us q170.2 0 12 ((((10 : Int32) * (q149.2.1 0 12)) + q170.1) - (48 : Int32))) (fun S177 => fX11_next_144 F n S177 (x2 + (1 : Int32))))))))
set_option maxRecDepth 4000 in
theorem gX11_next_144 {E : CT} (X : Cx E layM cX11_next RX11 3 none 1) (F : Nat) : ∀ (n : Nat) (S : ST) (x2 : Int32), G E (fX11_next_144 F n S x2) S 144 [(0, .ref (eA E 0)), (2, .int x2)] []
  | 0, _, _ => r_none
  | n + 1, S, x2 => by
    have ih := gX11_next_144 X F n
    unfold fX11_next_144
    refine r_aload_n X 0 rfl dX11_next_144 ?_
    refine r_iload_n X 1 rfl dX11_next_145 ?_
    refine r_callV X (mX11_here _ _ _) mk_X11_here lk_X11_160 lm_0 rfl rfl (by decide) (by decide) (Nat.le_of_ble_eq_true rfl) rfl dX11_next_146 (fun q146 _ => ?_)
    refine r_callS X (mX11_isDigit _ _ _) mk_X11_isDigit lk_X11_181 rfl (by decide) (by decide) (Nat.le_of_ble_eq_true rfl) rfl dX11_next_149 (fun q149 _ => ?_)
    refine r_if_eq (tgt := 186) X dX11_next_152 (by decide) (fun _ => ?_) (fun _ => ?_)
    · refine r_aload_n X 0 rfl dX11_next_186 ?_
      refine r_iload_n X 1 rfl dX11_next_187 ?_
      refine r_iconst (v := 4) X (by decide) dX11_next_188 ?_
      refine r_icmp_gt (tgt := 203) X dX11_next_189 (by decide) (fun _ => ?_) (fun _ => ?_)
      · refine r_iconst (v := 3) X (by decide) dX11_next_203 ?_
        refine r_goto (tgt := 208) X dX11_next_204 (by decide) ?_
        exact gX11_next_208 X F _ _ _
      · refine r_aload_n X 0 rfl dX11_next_192 ?_
        refine r_iload_n X 1 rfl dX11_next_193 ?_
        refine r_callV X (mX11_here _ _ _) mk_X11_here lk_X11_160 lm_0 rfl rfl (by decide) (by decide) (Nat.le_of_ble_eq_true rfl) rfl dX11_next_194 (fun q194 _ => ?_)
        refine r_callS X (mX11_isLetter _ _ _) mk_X11_isLetter lk_X11_177 rfl (by decide) (by decide) (Nat.le_of_ble_eq_true rfl) rfl dX11_next_197 (fun q197 _ => ?_)
        refine r_if_eq (tgt := 207) X dX11_next_200 (by decide) (fun _ => ?_) (fun _ => ?_)
        · refine r_iconst (v := 2) X (by decide) dX11_next_207 ?_
          exact gX11_next_208 X F _ _ _
        · refine r_iconst (v := 3) X (by decide) dX11_next_203 ?_
          refine r_goto (tgt := 208) X dX11_next_204 (by decide) ?_
          exact gX11_next_208 X F _ _ _
    · refine r_iload_n X 1 rfl dX11_next_155 ?_
      refine r_iconst (v := 4) X (by decide) dX11_next_156 ?_
      refine r_icmp_ge (tgt := 180) X dX11_next_157 (by decide) (fun _ => ?_) (fun _ => ?_)
      · refine r_iinc (lv' := [(0, _), (2, _)]) (dl := 1) X 1 rfl (by decide) (by decide) rfl dX11_next_180 ?_
        refine r_goto (tgt := 144) X dX11_next_183 (by decide) ?_
        exact ih _ _
      · refine r_aload_n X 0 rfl dX11_next_160 ?_
        refine r_bipush (v := 10) X (by decide) dX11_next_161 ?_
        refine r_aload_n X 0 rfl dX11_next_163 ?_
        refine r_getI X fk_X11_171 lm_0 rfl dX11_next_164 ?_
        refine r_imul X dX11_next_167 ?_
        refine r_aload_n X 0 rfl dX11_next_168 ?_
        refine r_iload_n X 1 rfl dX11_next_169 ?_
        refine r_callV X (mX11_here _ _ _) mk_X11_here lk_X11_160 lm_0 rfl rfl (by decide) (by decide) (Nat.le_of_ble_eq_true rfl) rfl dX11_next_170 (fun q170 _ => ?_)
        refine r_iadd X dX11_next_173 ?_
        refine r_bipush (v := 48) X (by decide) dX11_next_174 ?_
        refine r_isub X dX11_next_176 ?_
        refine r_putI X pk_X11_171 lm_0 rfl dX11_next_177 ?_
        refine r_bindS (fun S177 => ?_)
        refine r_iinc (lv' := [(0, _), (2, _)]) (dl := 1) X 1 rfl (by decide) (by decide) rfl dX11_next_180 ?_
        refine r_goto (tgt := 144) X dX11_next_183 (by decide) ?_
        exact ih _ _
def fX11_next_229 (F : Nat) (S : ST) (x2 : Int32) (s0 : Int32) : Option (Int32 × ST) :=
  bindS (us S 0 10 s0) (fun S229 => fX11_next_232 F S229 x2)
set_option maxRecDepth 4000 in
theorem gX11_next_229 {E : CT} (X : Cx E layM cX11_next RX11 3 none 1) (F : Nat) (S : ST) (x2 : Int32) (s0 : Int32) : G E (fX11_next_229 F S x2 s0) S 229 [(0, .ref (eA E 0)), (2, .int x2)] [.int s0, .ref (eA E 0)] := by
  unfold fX11_next_229
  refine r_putI X pk_X11_174 lm_0 rfl dX11_next_229 ?_
  refine r_bindS (fun S229 => ?_)
  exact gX11_next_232 X F _ _
def fX11_next_0 (F : Nat) : Nat → ST → Option (Int32 × ST)
  | 0, _ => none
  | n + 1, S =>
  (fX11_here F S (0 : Int32)).bind (fun q2 => if q2.1 = (32 : Int32) then
    (fX11_next_20 F (fX11_next_0 F n) q2.2)
  else
    ((fX11_here F q2.2 (0 : Int32)).bind (fun q12 => if q12.1 = (10 : Int32) then
      (fX11_next_20 F (fX11_next_0 F n) q12.2)
    else
      (bindS (us q12.2 0 11 (q12.2.1 0 8)) (fun S38 => (fX11_here F S38 (0 : Int32)).bind (fun q43 => bindS (ul q43.2 (0 : Int64)) (fun S51 => bindS (us S51 0 12 (0 : Int32)) (fun S56 => if 0 ≤ q43.1 then
        ((fX11_isLetter F S56 q43.1).bind (fun q72 => if q72.1 = 0 then
          ((fX11_isDigit F q72.2 q43.1).bind (fun q138 => if q138.1 = 0 then
            ((fX11_isSign F q138.2 q43.1).bind (fun q218 => if q218.1 = 0 then
              (fX11_next_229 F q218.2 (1 : Int32) (3 : Int32))
            else
              (fX11_next_229 F q218.2 (1 : Int32) q43.1)))
          else
            (fX11_next_144 F F q138.2 (0 : Int32))))
        else
          (fX11_next_78 F F q72.2 (0 : Int32))))
      else
        (bindS (us S56 0 10 (0 : Int32)) (fun S65 => fX11_next_232 F S65 (0 : Int32)))))))))))
set_option maxRecDepth 4000 in
theorem gX11_next_0 {E : CT} (X : Cx E layM cX11_next RX11 3 none 1) (F : Nat) : ∀ (n : Nat) (S : ST), G E (fX11_next_0 F n S) S 0 [(0, .ref (eA E 0))] []
  | 0, _ => r_none
  | n + 1, S => by
    have ih := gX11_next_0 X F n
    unfold fX11_next_0
    refine r_aload_n X 0 rfl dX11_next_0 ?_
    refine r_iconst (v := 0) X (by decide) dX11_next_1 ?_
    refine r_callV X (mX11_here _ _ _) mk_X11_here lk_X11_160 lm_0 rfl rfl (by decide) (by decide) (Nat.le_of_ble_eq_true rfl) rfl dX11_next_2 (fun q2 _ => ?_)
    refine r_bipush (v := 32) X (by decide) dX11_next_5 ?_
    refine r_icmp_eq (tgt := 20) X dX11_next_7 (by decide) (fun _ => ?_) (fun _ => ?_)
    · exact gX11_next_20 X F _ ih _
    · refine r_aload_n X 0 rfl dX11_next_10 ?_
      refine r_iconst (v := 0) X (by decide) dX11_next_11 ?_
      refine r_callV X (mX11_here _ _ _) mk_X11_here lk_X11_160 lm_0 rfl rfl (by decide) (by decide) (Nat.le_of_ble_eq_true rfl) rfl dX11_next_12 (fun q12 _ => ?_)
      refine r_bipush (v := 10) X (by decide) dX11_next_15 ?_
      refine r_icmp_ne (tgt := 33) X dX11_next_17 (by decide) (fun _ => ?_) (fun _ => ?_)
      · refine r_aload_n X 0 rfl dX11_next_33 ?_
        refine r_aload_n X 0 rfl dX11_next_34 ?_
        refine r_getI X fk_X11_154 lm_0 rfl dX11_next_35 ?_
        refine r_putI X pk_X11_164 lm_0 rfl dX11_next_38 ?_
        refine r_bindS (fun S38 => ?_)
        refine r_aload_n X 0 rfl dX11_next_41 ?_
        refine r_iconst (v := 0) X (by decide) dX11_next_42 ?_
        refine r_callV X (mX11_here _ _ _) mk_X11_here lk_X11_160 lm_0 rfl rfl (by decide) (by decide) (Nat.le_of_ble_eq_true rfl) rfl dX11_next_43 (fun q43 _ => ?_)
        refine r_istore_n (lv' := [(0, _), (1, _)]) X (by decide) rfl dX11_next_46 ?_
        refine r_iconst (v := 0) X (by decide) dX11_next_47 ?_
        refine r_istore_n (lv' := [(0, _), (1, _), (2, _)]) X (by decide) rfl dX11_next_48 ?_
        refine r_aload_n X 0 rfl dX11_next_49 ?_
        refine r_lconst (v := 0) X (by decide) dX11_next_50 ?_
        refine r_putL X pk_X11_167 dX11_next_51 ?_
        refine r_bindS (fun S51 => ?_)
        refine r_aload_n X 0 rfl dX11_next_54 ?_
        refine r_iconst (v := 0) X (by decide) dX11_next_55 ?_
        refine r_putI X pk_X11_171 lm_0 rfl dX11_next_56 ?_
        refine r_bindS (fun S56 => ?_)
        refine r_iload_n X 1 rfl dX11_next_59 ?_
        refine r_if_ge (tgt := 71) X dX11_next_60 (by decide) (fun _ => ?_) (fun _ => ?_)
        · refine r_iload_n X 1 rfl dX11_next_71 ?_
          refine r_callS X (mX11_isLetter _ _ _) mk_X11_isLetter lk_X11_177 rfl (by decide) (by decide) (Nat.le_of_ble_eq_true rfl) rfl dX11_next_72 (fun q72 _ => ?_)
          refine r_if_eq (tgt := 137) X dX11_next_75 (by decide) (fun _ => ?_) (fun _ => ?_)
          · refine r_iload_n X 1 rfl dX11_next_137 ?_
            refine r_callS X (mX11_isDigit _ _ _) mk_X11_isDigit lk_X11_181 rfl (by decide) (by decide) (Nat.le_of_ble_eq_true rfl) rfl dX11_next_138 (fun q138 _ => ?_)
            refine r_if_eq (tgt := 214) X dX11_next_141 (by decide) (fun _ => ?_) (fun _ => ?_)
            · refine r_iconst (v := 1) X (by decide) dX11_next_214 ?_
              refine r_istore_n (lv' := [(0, _), (1, _), (2, _)]) X (by decide) rfl dX11_next_215 ?_
              refine r_aload_n X 0 rfl dX11_next_216 ?_
              refine r_iload_n X 1 rfl dX11_next_217 ?_
              refine r_callS X (mX11_isSign _ _ _) mk_X11_isSign lk_X11_184 rfl (by decide) (by decide) (Nat.le_of_ble_eq_true rfl) rfl dX11_next_218 (fun q218 _ => ?_)
              refine r_if_eq (tgt := 228) X dX11_next_221 (by decide) (fun _ => ?_) (fun _ => ?_)
              · refine r_iconst (v := 3) X (by decide) dX11_next_228 ?_
                refine r_sub [0, 2] rfl ?_
                exact gX11_next_229 X F _ _ _
              · refine r_iload_n X 1 rfl dX11_next_224 ?_
                refine r_goto (tgt := 229) X dX11_next_225 (by decide) ?_
                refine r_sub [0, 2] rfl ?_
                exact gX11_next_229 X F _ _ _
            · refine r_sub [0, 2] rfl ?_
              exact gX11_next_144 X F F _ _
          · refine r_sub [0, 2] rfl ?_
            exact gX11_next_78 X F F _ _
        · refine r_aload_n X 0 rfl dX11_next_63 ?_
          refine r_iconst (v := 0) X (by decide) dX11_next_64 ?_
          refine r_putI X pk_X11_174 lm_0 rfl dX11_next_65 ?_
          refine r_bindS (fun S65 => ?_)
          refine r_goto (tgt := 232) X dX11_next_68 (by decide) ?_
          refine r_sub [0, 2] rfl ?_
          exact gX11_next_232 X F _ _
      · exact gX11_next_20 X F _ ih _
def fX11_next (F : Nat) (S : ST) : Option (Int32 × ST) :=
  fX11_next_0 F F S
set_option maxRecDepth 4000 in
theorem gX11_next {E : CT} (X : Cx E layM cX11_next RX11 3 none 1) (F : Nat) (S : ST) : G E (fX11_next F S) S 0 [(0, .ref (eA E 0))] [] := by
  unfold fX11_next
  exact gX11_next_0 X F F _
theorem mX11_next (F : Nat) (S : ST) : MetS yX11_next cX11_next 3 none 1 layM (fX11_next F S) S (fun ad => [.ref (ad 0)]) := mk_met (fun ad => [(0, .ref (ad 0))]) (by decide) (fun _ => Nat.le_of_ble_eq_true rfl) (fun _ => rfl) (fun E X => gX11_next X F S)
def fX11_isOpen_4 (F : Nat) : Nat → ST → Int32 → Int32 → Option (Int32 × ST)
  | 0, _, _, _ => none
  | n + 1, S, x1, x2 =>
  if (S.1 0 29) ≤ x2 then
    (if x1 &&& 1 = x1 then some (x1, S) else none)
  else
    (if x1 = 0 then
      ((if vin x2 300 = true then if (S.1 13 (ix x2)) = (28 : Int32) then
        (fX11_isOpen_4 F n S (1 : Int32) (x2 + (1 : Int32)))
      else
        (fX11_isOpen_4 F n S (0 : Int32) (x2 + (1 : Int32))) else none))
    else
      (fX11_isOpen_4 F n S (1 : Int32) (x2 + (1 : Int32))))
set_option maxRecDepth 4000 in
theorem gX11_isOpen_4 {E : CT} (X : Cx E layM cX11_isOpen RX11 3 (some .boolean) 0) (F : Nat) : ∀ (n : Nat) (S : ST) (x1 : Int32) (x2 : Int32), G E (fX11_isOpen_4 F n S x1 x2) S 4 [(0, .ref (eA E 0)), (1, .int x1), (2, .int x2)] []
  | 0, _, _, _ => r_none
  | n + 1, S, x1, x2 => by
    have ih := gX11_isOpen_4 X F n
    unfold fX11_isOpen_4
    refine r_iload_n X 2 rfl dX11_isOpen_4 ?_
    refine r_aload_n X 0 rfl dX11_isOpen_5 ?_
    refine r_getI X fk_X11_209 lm_0 rfl dX11_isOpen_6 ?_
    refine r_icmp_ge (tgt := 39) X dX11_isOpen_9 (by decide) (fun _ => ?_) (fun _ => ?_)
    · refine r_iload_n X 1 rfl dX11_isOpen_39 ?_
      exact r_zretC X dX11_isOpen_40
    · refine r_iload_n X 1 rfl dX11_isOpen_12 ?_
      refine r_if_ne (tgt := 27) X dX11_isOpen_13 (by decide) (fun _ => ?_) (fun _ => ?_)
      · refine r_iconst (v := 1) X (by decide) dX11_isOpen_27 ?_
        refine r_goto (tgt := 32) X dX11_isOpen_28 (by decide) ?_
        refine r_istore_n (lv' := [(0, _), (1, _), (2, _)]) X (by decide) rfl dX11_isOpen_32 ?_
        refine r_iinc (lv' := [(0, _), (1, _), (2, _)]) (dl := 1) X 2 rfl (by decide) (by decide) rfl dX11_isOpen_33 ?_
        refine r_goto (tgt := 4) X dX11_isOpen_36 (by decide) ?_
        exact ih _ _ _
      · refine r_aload_n X 0 rfl dX11_isOpen_16 ?_
        refine r_getR X fk_X11_50 lm_0 rfl dX11_isOpen_17 ?_
        refine r_iload_n X 2 rfl dX11_isOpen_20 ?_
        refine r_iald X lm_13 dX11_isOpen_21 (fun _ => ?_)
        refine r_bipush (v := 28) X (by decide) dX11_isOpen_22 ?_
        refine r_icmp_ne (tgt := 31) X dX11_isOpen_24 (by decide) (fun _ => ?_) (fun _ => ?_)
        · refine r_iconst (v := 0) X (by decide) dX11_isOpen_31 ?_
          refine r_istore_n (lv' := [(0, _), (1, _), (2, _)]) X (by decide) rfl dX11_isOpen_32 ?_
          refine r_iinc (lv' := [(0, _), (1, _), (2, _)]) (dl := 1) X 2 rfl (by decide) (by decide) rfl dX11_isOpen_33 ?_
          refine r_goto (tgt := 4) X dX11_isOpen_36 (by decide) ?_
          exact ih _ _ _
        · refine r_iconst (v := 1) X (by decide) dX11_isOpen_27 ?_
          refine r_goto (tgt := 32) X dX11_isOpen_28 (by decide) ?_
          refine r_istore_n (lv' := [(0, _), (1, _), (2, _)]) X (by decide) rfl dX11_isOpen_32 ?_
          refine r_iinc (lv' := [(0, _), (1, _), (2, _)]) (dl := 1) X 2 rfl (by decide) (by decide) rfl dX11_isOpen_33 ?_
          refine r_goto (tgt := 4) X dX11_isOpen_36 (by decide) ?_
          exact ih _ _ _
def fX11_isOpen (F : Nat) (S : ST) : Option (Int32 × ST) :=
  fX11_isOpen_4 F F S (0 : Int32) (0 : Int32)
set_option maxRecDepth 4000 in
theorem gX11_isOpen {E : CT} (X : Cx E layM cX11_isOpen RX11 3 (some .boolean) 0) (F : Nat) (S : ST) : G E (fX11_isOpen F S) S 0 [(0, .ref (eA E 0))] [] := by
  unfold fX11_isOpen
  refine r_iconst (v := 0) X (by decide) dX11_isOpen_0 ?_
  refine r_istore_n (lv' := [(0, _), (1, _)]) X (by decide) rfl dX11_isOpen_1 ?_
  refine r_iconst (v := 0) X (by decide) dX11_isOpen_2 ?_
  refine r_istore_n (lv' := [(0, _), (1, _), (2, _)]) X (by decide) rfl dX11_isOpen_3 ?_
  exact gX11_isOpen_4 X F F _ _ _
theorem mX11_isOpen (F : Nat) (S : ST) : MetS yX11_isOpen cX11_isOpen 3 (some .boolean) 0 layM (fX11_isOpen F S) S (fun ad => [.ref (ad 0)]) := mk_met (fun ad => [(0, .ref (ad 0))]) (by decide) (fun _ => Nat.le_of_ble_eq_true rfl) (fun _ => rfl) (fun E X => gX11_isOpen X F S)
def fX11_hold_32 (F : Nat) (S : ST) : Option (Int32 × ST) :=
  bindS (us S 0 30 ((S.1 0 30) + (1 : Int32))) (fun S39 => some ((0 : Int32), S39))
set_option maxRecDepth 4000 in
theorem gX11_hold_32 {E : CT} (X : Cx E layM cX11_hold RX11 2 none 0) (F : Nat) (S : ST) : G E (fX11_hold_32 F S) S 32 [(0, .ref (eA E 0))] [] := by
  unfold fX11_hold_32
  refine r_aload_n X 0 rfl dX11_hold_32 ?_
  refine r_dup X rfl dX11_hold_33 ?_
  refine r_getI X fk_X11_212 lm_0 rfl dX11_hold_34 ?_
  refine r_iconst (v := 1) X (by decide) dX11_hold_37 ?_
  refine r_iadd X dX11_hold_38 ?_
  refine r_putI X pk_X11_212 lm_0 rfl dX11_hold_39 ?_
  refine r_bindS (fun S39 => ?_)
  exact r_vret X dX11_hold_42
def fX11_hold (F : Nat) (S : ST) (x1 : Int32) : Option (Int32 × ST) :=
  (if vin (S.1 0 29) 300 = true then bindS (us S 13 (ix (S.1 0 29)) x1) (fun S9 => bindS (us S9 0 29 ((S9.1 0 29) + (1 : Int32))) (fun S17 => if x1 = (28 : Int32) then
    (fX11_hold_32 F S17)
  else
    (if x1 = (20 : Int32) then
      (fX11_hold_32 F S17)
    else
      (some ((0 : Int32), S17))))) else none)
set_option maxRecDepth 4000 in
theorem gX11_hold {E : CT} (X : Cx E layM cX11_hold RX11 2 none 0) (F : Nat) (S : ST) (x1 : Int32) : G E (fX11_hold F S x1) S 0 [(0, .ref (eA E 0)), (1, .int x1)] [] := by
  unfold fX11_hold
  refine r_aload_n X 0 rfl dX11_hold_0 ?_
  refine r_getR X fk_X11_50 lm_0 rfl dX11_hold_1 ?_
  refine r_aload_n X 0 rfl dX11_hold_4 ?_
  refine r_getI X fk_X11_209 lm_0 rfl dX11_hold_5 ?_
  refine r_iload_n X 1 rfl dX11_hold_8 ?_
  refine r_iast X lm_13 dX11_hold_9 (fun _ => ?_)
  refine r_bindS (fun S9 => ?_)
  refine r_aload_n X 0 rfl dX11_hold_10 ?_
  refine r_dup X rfl dX11_hold_11 ?_
  refine r_getI X fk_X11_209 lm_0 rfl dX11_hold_12 ?_
  refine r_iconst (v := 1) X (by decide) dX11_hold_15 ?_
  refine r_iadd X dX11_hold_16 ?_
  refine r_putI X pk_X11_209 lm_0 rfl dX11_hold_17 ?_
  refine r_bindS (fun S17 => ?_)
  refine r_iload_n X 1 rfl dX11_hold_20 ?_
  refine r_bipush (v := 28) X (by decide) dX11_hold_21 ?_
  refine r_icmp_eq (tgt := 32) X dX11_hold_23 (by decide) (fun _ => ?_) (fun _ => ?_)
  · refine r_sub [0] rfl ?_
    exact gX11_hold_32 X F _
  · refine r_iload_n X 1 rfl dX11_hold_26 ?_
    refine r_bipush (v := 20) X (by decide) dX11_hold_27 ?_
    refine r_icmp_ne (tgt := 42) X dX11_hold_29 (by decide) (fun _ => ?_) (fun _ => ?_)
    · exact r_vret X dX11_hold_42
    · refine r_sub [0] rfl ?_
      exact gX11_hold_32 X F _
theorem mX11_hold (F : Nat) (S : ST) (x1 : Int32) : MetS yX11_hold cX11_hold 2 none 0 layM (fX11_hold F S x1) S (fun ad => [.ref (ad 0), .int x1]) := mk_met (fun ad => [(0, .ref (ad 0)), (1, .int x1)]) (by decide) (fun _ => Nat.le_of_ble_eq_true rfl) (fun _ => rfl) (fun E X => gX11_hold X F S x1)
def fX11_named (F : Nat) (S : ST) : Option (Int32 × ST) :=
  if (S.1 0 10) = (1 : Int32) then
    (if (lg_cmp S.2 (461414298739 : Int64)) = 0 then
      (some ((0 : Int32), S))
    else
      (if (lg_cmp S.2 (126926692381811 : Int64)) = 0 then
        (some ((1 : Int32), S))
      else
        (if (lg_cmp S.2 (448545973619 : Int64)) = 0 then
          (some ((2 : Int32), S))
        else
          (if (lg_cmp S.2 (482855970675 : Int64)) = 0 then
            (some ((3 : Int32), S))
          else
            (if (lg_cmp S.2 (7501166 : Int64)) = 0 then
              (some ((4 : Int32), S))
            else
              (some ((-1 : Int32), S)))))))
  else
    (some ((-1 : Int32), S))
set_option maxRecDepth 4000 in
theorem gX11_named {E : CT} (X : Cx E layM cX11_named RX11 1 (some .int) 0) (F : Nat) (S : ST) : G E (fX11_named F S) S 0 [(0, .ref (eA E 0))] [] := by
  unfold fX11_named
  refine r_aload_n X 0 rfl dX11_named_0 ?_
  refine r_getI X fk_X11_174 lm_0 rfl dX11_named_1 ?_
  refine r_iconst (v := 1) X (by decide) dX11_named_4 ?_
  refine r_icmp_eq (tgt := 12) X dX11_named_5 (by decide) (fun _ => ?_) (fun _ => ?_)
  · refine r_aload_n X 0 rfl dX11_named_12 ?_
    refine r_getL X fk_X11_167 lm_0 rfl dX11_named_13 ?_
    refine r_ldc2 X kc_X11_190 dX11_named_16 ?_
    refine r_lcmp X dX11_named_19 ?_
    refine r_if_ne (tgt := 27) X dX11_named_20 (by decide) (fun _ => ?_) (fun _ => ?_)
    · refine r_aload_n X 0 rfl dX11_named_27 ?_
      refine r_getL X fk_X11_167 lm_0 rfl dX11_named_28 ?_
      refine r_ldc2 X kc_X11_192 dX11_named_31 ?_
      refine r_lcmp X dX11_named_34 ?_
      refine r_if_ne (tgt := 42) X dX11_named_35 (by decide) (fun _ => ?_) (fun _ => ?_)
      · refine r_aload_n X 0 rfl dX11_named_42 ?_
        refine r_getL X fk_X11_167 lm_0 rfl dX11_named_43 ?_
        refine r_ldc2 X kc_X11_194 dX11_named_46 ?_
        refine r_lcmp X dX11_named_49 ?_
        refine r_if_ne (tgt := 57) X dX11_named_50 (by decide) (fun _ => ?_) (fun _ => ?_)
        · refine r_aload_n X 0 rfl dX11_named_57 ?_
          refine r_getL X fk_X11_167 lm_0 rfl dX11_named_58 ?_
          refine r_ldc2 X kc_X11_196 dX11_named_61 ?_
          refine r_lcmp X dX11_named_64 ?_
          refine r_if_ne (tgt := 72) X dX11_named_65 (by decide) (fun _ => ?_) (fun _ => ?_)
          · refine r_aload_n X 0 rfl dX11_named_72 ?_
            refine r_getL X fk_X11_167 lm_0 rfl dX11_named_73 ?_
            refine r_ldc2 X kc_X11_198 dX11_named_76 ?_
            refine r_lcmp X dX11_named_79 ?_
            refine r_if_ne (tgt := 87) X dX11_named_80 (by decide) (fun _ => ?_) (fun _ => ?_)
            · refine r_iconst (v := -1) X (by decide) dX11_named_87 ?_
              exact r_iret X dX11_named_88
            · refine r_iconst (v := 4) X (by decide) dX11_named_83 ?_
              refine r_goto (tgt := 88) X dX11_named_84 (by decide) ?_
              exact r_iret X dX11_named_88
          · refine r_iconst (v := 3) X (by decide) dX11_named_68 ?_
            refine r_goto (tgt := 88) X dX11_named_69 (by decide) ?_
            exact r_iret X dX11_named_88
        · refine r_iconst (v := 2) X (by decide) dX11_named_53 ?_
          refine r_goto (tgt := 88) X dX11_named_54 (by decide) ?_
          exact r_iret X dX11_named_88
      · refine r_iconst (v := 1) X (by decide) dX11_named_38 ?_
        refine r_goto (tgt := 88) X dX11_named_39 (by decide) ?_
        exact r_iret X dX11_named_88
    · refine r_iconst (v := 0) X (by decide) dX11_named_23 ?_
      refine r_goto (tgt := 88) X dX11_named_24 (by decide) ?_
      exact r_iret X dX11_named_88
  · refine r_iconst (v := -1) X (by decide) dX11_named_8 ?_
    refine r_goto (tgt := 88) X dX11_named_9 (by decide) ?_
    exact r_iret X dX11_named_88
theorem mX11_named (F : Nat) (S : ST) : MetS yX11_named cX11_named 1 (some .int) 0 layM (fX11_named F S) S (fun ad => [.ref (ad 0)]) := mk_met (fun ad => [(0, .ref (ad 0))]) (by decide) (fun _ => Nat.le_of_ble_eq_true rfl) (fun _ => rfl) (fun E X => gX11_named X F S)
def fX11_step (F : Nat) (S : ST) (x1 : Int32) (x2 : Int32) : Option (Int32 × ST) :=
  (if vin (S.1 0 21) 600 = true then bindS (us S 10 (ix (S.1 0 21)) x1) (fun S9 => (if vin (S9.1 0 21) 600 = true then bindS (us S9 11 (ix (S9.1 0 21)) x2) (fun S19 => bindS (us S19 0 21 ((S19.1 0 21) + (1 : Int32))) (fun S27 => some ((0 : Int32), S27))) else none)) else none)
set_option maxRecDepth 4000 in
theorem gX11_step {E : CT} (X : Cx E layM cX11_step RX11 3 none 0) (F : Nat) (S : ST) (x1 : Int32) (x2 : Int32) : G E (fX11_step F S x1 x2) S 0 [(0, .ref (eA E 0)), (1, .int x1), (2, .int x2)] [] := by
  unfold fX11_step
  refine r_aload_n X 0 rfl dX11_step_0 ?_
  refine r_getR X fk_X11_41 lm_0 rfl dX11_step_1 ?_
  refine r_aload_n X 0 rfl dX11_step_4 ?_
  refine r_getI X fk_X11_200 lm_0 rfl dX11_step_5 ?_
  refine r_iload_n X 1 rfl dX11_step_8 ?_
  refine r_iast X lm_10 dX11_step_9 (fun _ => ?_)
  refine r_bindS (fun S9 => ?_)
  refine r_aload_n X 0 rfl dX11_step_10 ?_
  refine r_getR X fk_X11_44 lm_0 rfl dX11_step_11 ?_
  refine r_aload_n X 0 rfl dX11_step_14 ?_
  refine r_getI X fk_X11_200 lm_0 rfl dX11_step_15 ?_
  refine r_iload_n X 2 rfl dX11_step_18 ?_
  refine r_iast X lm_11 dX11_step_19 (fun _ => ?_)
  refine r_bindS (fun S19 => ?_)
  refine r_aload_n X 0 rfl dX11_step_20 ?_
  refine r_dup X rfl dX11_step_21 ?_
  refine r_getI X fk_X11_200 lm_0 rfl dX11_step_22 ?_
  refine r_iconst (v := 1) X (by decide) dX11_step_25 ?_
  refine r_iadd X dX11_step_26 ?_
  refine r_putI X pk_X11_200 lm_0 rfl dX11_step_27 ?_
  refine r_bindS (fun S27 => ?_)
  exact r_vret X dX11_step_30
theorem mX11_step (F : Nat) (S : ST) (x1 : Int32) (x2 : Int32) : MetS yX11_step cX11_step 3 none 0 layM (fX11_step F S x1 x2) S (fun ad => [.ref (ad 0), .int x1, .int x2]) := mk_met (fun ad => [(0, .ref (ad 0)), (1, .int x1), (2, .int x2)]) (by decide) (fun _ => Nat.le_of_ble_eq_true rfl) (fun _ => rfl) (fun E X => gX11_step X F S x1 x2)
def fX11_wrong_22 (F : Nat) (S : ST) (s0 : Int32) : Option (Int32 × ST) :=
  bindS (us S 0 6 s0) (fun S22 => bindS (us S22 0 7 (S22.1 0 11)) (fun S30 => some ((0 : Int32), S30)))
set_option maxRecDepth 4000 in
theorem gX11_wrong_22 {E : CT} (X : Cx E layM cX11_wrong RX11 2 none 0) (F : Nat) (S : ST) (s0 : Int32) : G E (fX11_wrong_22 F S s0) S 22 [(0, .ref (eA E 0))] [.int s0, .ref (eA E 0)] := by
  unfold fX11_wrong_22
  refine r_putI X pk_X11_187 lm_0 rfl dX11_wrong_22 ?_
  refine r_bindS (fun S22 => ?_)
  refine r_aload_n X 0 rfl dX11_wrong_25 ?_
  refine r_aload_n X 0 rfl dX11_wrong_26 ?_
  refine r_getI X fk_X11_164 lm_0 rfl dX11_wrong_27 ?_
  refine r_putI X pk_X11_16 lm_0 rfl dX11_wrong_30 ?_
  refine r_bindS (fun S30 => ?_)
  exact r_vret X dX11_wrong_33
def fX11_wrong (F : Nat) (S : ST) (x1 : Int32) : Option (Int32 × ST) :=
  if (S.1 0 6) ≤ 0 then
    (if (S.1 0 10) = (3 : Int32) then
      (fX11_wrong_22 F S (1 : Int32))
    else
      (fX11_wrong_22 F S x1))
  else
    (some ((0 : Int32), S))
set_option maxRecDepth 4000 in
theorem gX11_wrong {E : CT} (X : Cx E layM cX11_wrong RX11 2 none 0) (F : Nat) (S : ST) (x1 : Int32) : G E (fX11_wrong F S x1) S 0 [(0, .ref (eA E 0)), (1, .int x1)] [] := by
  unfold fX11_wrong
  refine r_aload_n X 0 rfl dX11_wrong_0 ?_
  refine r_getI X fk_X11_187 lm_0 rfl dX11_wrong_1 ?_
  refine r_if_le (tgt := 8) X dX11_wrong_4 (by decide) (fun _ => ?_) (fun _ => ?_)
  · refine r_aload_n X 0 rfl dX11_wrong_8 ?_
    refine r_aload_n X 0 rfl dX11_wrong_9 ?_
    refine r_getI X fk_X11_174 lm_0 rfl dX11_wrong_10 ?_
    refine r_iconst (v := 3) X (by decide) dX11_wrong_13 ?_
    refine r_icmp_ne (tgt := 21) X dX11_wrong_14 (by decide) (fun _ => ?_) (fun _ => ?_)
    · refine r_iload_n X 1 rfl dX11_wrong_21 ?_
      refine r_sub [0] rfl ?_
      exact gX11_wrong_22 X F _ _
    · refine r_iconst (v := 1) X (by decide) dX11_wrong_17 ?_
      refine r_goto (tgt := 22) X dX11_wrong_18 (by decide) ?_
      refine r_sub [0] rfl ?_
      exact gX11_wrong_22 X F _ _
  · exact r_vret X dX11_wrong_7
theorem mX11_wrong (F : Nat) (S : ST) (x1 : Int32) : MetS yX11_wrong cX11_wrong 2 none 0 layM (fX11_wrong F S x1) S (fun ad => [.ref (ad 0), .int x1]) := mk_met (fun ad => [(0, .ref (ad 0)), (1, .int x1)]) (by decide) (fun _ => Nat.le_of_ble_eq_true rfl) (fun _ => rfl) (fun E X => gX11_wrong X F S x1)
def fX11_operand_123 (F : Nat) (S : ST) (s0 : Int32) : Option (Int32 × ST) :=
  (fX11_hold F S s0).bind (fun q123 => (fX11_next F q123.2).bind (fun q127 => some ((0 : Int32), q127.2)))
set_option maxRecDepth 4000 in
theorem gX11_operand_123 {E : CT} (X : Cx E layM cX11_operand RX11 5 (some .int) 2) (F : Nat) (S : ST) (s0 : Int32) : G E (fX11_operand_123 F S s0) S 123 [(0, .ref (eA E 0))] [.int s0, .ref (eA E 0)] := by
  unfold fX11_operand_123
  refine r_callVv X (mX11_hold _ _ _) mk_X11_hold lk_X11_248 lm_0 rfl rfl (by decide) (by decide) (Nat.le_of_ble_eq_true rfl) rfl dX11_operand_123 (fun q123 _ => ?_)
  refine r_aload_n X 0 rfl dX11_operand_126 ?_
  refine r_callVv X (mX11_next _ _) mk_X11_next lk_X11_206 lm_0 rfl rfl (by decide) (by decide) (Nat.le_of_ble_eq_true rfl) rfl dX11_operand_127 (fun q127 _ => ?_)
  refine r_iconst (v := 0) X (by decide) dX11_operand_130 ?_
  exact r_iret X dX11_operand_131
def fX11_operand_145 (F : Nat) (S : ST) (x1 : Int32) (s0 : Int32) : Option (Int32 × ST) :=
  (fX11_step F S s0 (S.1 0 12)).bind (fun q149 => bindS (us q149.2 0 22 ((q149.2.1 0 22) + (1 : Int32))) (fun S159 => (fX11_next F S159).bind (fun q163 => if x1 = (2 : Int32) then
    (some ((4 : Int32), q163.2))
  else
    (some ((3 : Int32), q163.2)))))
set_option maxRecDepth 4000 in
theorem gX11_operand_145 {E : CT} (X : Cx E layM cX11_operand RX11 5 (some .int) 2) (F : Nat) (S : ST) (x1 : Int32) (s0 : Int32) : G E (fX11_operand_145 F S x1 s0) S 145 [(0, .ref (eA E 0)), (1, .int x1)] [.int s0, .ref (eA E 0)] := by
  unfold fX11_operand_145
  refine r_aload_n X 0 rfl dX11_operand_145 ?_
  refine r_getI X fk_X11_171 lm_0 rfl dX11_operand_146 ?_
  refine r_callVv X (mX11_step _ _ _ _) mk_X11_step lk_X11_215 lm_0 rfl rfl (by decide) (by decide) (Nat.le_of_ble_eq_true rfl) rfl dX11_operand_149 (fun q149 _ => ?_)
  refine r_aload_n X 0 rfl dX11_operand_152 ?_
  refine r_dup X rfl dX11_operand_153 ?_
  refine r_getI X fk_X11_245 lm_0 rfl dX11_operand_154 ?_
  refine r_iconst (v := 1) X (by decide) dX11_operand_157 ?_
  refine r_iadd X dX11_operand_158 ?_
  refine r_putI X pk_X11_245 lm_0 rfl dX11_operand_159 ?_
  refine r_bindS (fun S159 => ?_)
  refine r_aload_n X 0 rfl dX11_operand_162 ?_
  refine r_callVv X (mX11_next _ _) mk_X11_next lk_X11_206 lm_0 rfl rfl (by decide) (by decide) (Nat.le_of_ble_eq_true rfl) rfl dX11_operand_163 (fun q163 _ => ?_)
  refine r_iload_n X 1 rfl dX11_operand_166 ?_
  refine r_iconst (v := 2) X (by decide) dX11_operand_167 ?_
  refine r_icmp_ne (tgt := 175) X dX11_operand_168 (by decide) (fun _ => ?_) (fun _ => ?_)
  · refine r_iconst (v := 3) X (by decide) dX11_operand_175 ?_
    exact r_iret X dX11_operand_176
  · refine r_iconst (v := 4) X (by decide) dX11_operand_171 ?_
    refine r_goto (tgt := 176) X dX11_operand_172 (by decide) ?_
    exact r_iret X dX11_operand_176
def fX11_operand_93 (F : Nat) (S : ST) (x1 : Int32) (x2 : Int32) (x3 : Int32) : Option (Int32 × ST) :=
  if (S.1 0 6) ≤ 0 then
    (if x3 = 0 then
      (if (S.1 0 10) = (40 : Int32) then
        (fX11_operand_123 F S (28 : Int32))
      else
        (fX11_operand_123 F S (20 : Int32)))
    else
      (if x2 < 0 then
        (fX11_operand_145 F S x1 (0 : Int32))
      else
        (fX11_operand_145 F S x1 ((10 : Int32) + x2))))
  else
    (some (x1, S))
set_option maxRecDepth 4000 in
theorem gX11_operand_93 {E : CT} (X : Cx E layM cX11_operand RX11 5 (some .int) 2) (F : Nat) (S : ST) (x1 : Int32) (x2 : Int32) (x3 : Int32) : G E (fX11_operand_93 F S x1 x2 x3) S 93 [(0, .ref (eA E 0)), (1, .int x1), (2, .int x2), (3, .int x3)] [] := by
  unfold fX11_operand_93
  refine r_aload_n X 0 rfl dX11_operand_93 ?_
  refine r_getI X fk_X11_187 lm_0 rfl dX11_operand_94 ?_
  refine r_if_le (tgt := 102) X dX11_operand_97 (by decide) (fun _ => ?_) (fun _ => ?_)
  · refine r_iload_n X 3 rfl dX11_operand_102 ?_
    refine r_if_ne (tgt := 132) X dX11_operand_103 (by decide) (fun _ => ?_) (fun _ => ?_)
    · refine r_aload_n X 0 rfl dX11_operand_132 ?_
      refine r_iload_n X 2 rfl dX11_operand_133 ?_
      refine r_if_lt (tgt := 144) X dX11_operand_134 (by decide) (fun _ => ?_) (fun _ => ?_)
      · refine r_iconst (v := 0) X (by decide) dX11_operand_144 ?_
        refine r_sub [0, 1] rfl ?_
        exact gX11_operand_145 X F _ _ _
      · refine r_bipush (v := 10) X (by decide) dX11_operand_137 ?_
        refine r_iload_n X 2 rfl dX11_operand_139 ?_
        refine r_iadd X dX11_operand_140 ?_
        refine r_goto (tgt := 145) X dX11_operand_141 (by decide) ?_
        refine r_sub [0, 1] rfl ?_
        exact gX11_operand_145 X F _ _ _
    · refine r_aload_n X 0 rfl dX11_operand_106 ?_
      refine r_aload_n X 0 rfl dX11_operand_107 ?_
      refine r_getI X fk_X11_174 lm_0 rfl dX11_operand_108 ?_
      refine r_bipush (v := 40) X (by decide) dX11_operand_111 ?_
      refine r_icmp_ne (tgt := 121) X dX11_operand_113 (by decide) (fun _ => ?_) (fun _ => ?_)
      · refine r_bipush (v := 20) X (by decide) dX11_operand_121 ?_
        refine r_sub [0] rfl ?_
        exact gX11_operand_123 X F _ _
      · refine r_bipush (v := 28) X (by decide) dX11_operand_116 ?_
        refine r_goto (tgt := 123) X dX11_operand_118 (by decide) ?_
        refine r_sub [0] rfl ?_
        exact gX11_operand_123 X F _ _
  · refine r_iload_n X 1 rfl dX11_operand_100 ?_
    exact r_iret X dX11_operand_101
def fX11_operand_88 (F : Nat) (S : ST) (x1 : Int32) (x2 : Int32) (x3 : Int32) : Option (Int32 × ST) :=
  (fX11_wrong F S (2 : Int32)).bind (fun q90 => fX11_operand_93 F q90.2 x1 x2 x3)
set_option maxRecDepth 4000 in
theorem gX11_operand_88 {E : CT} (X : Cx E layM cX11_operand RX11 5 (some .int) 2) (F : Nat) (S : ST) (x1 : Int32) (x2 : Int32) (x3 : Int32) : G E (fX11_operand_88 F S x1 x2 x3) S 88 [(0, .ref (eA E 0)), (1, .int x1), (2, .int x2), (3, .int x3)] [] := by
  unfold fX11_operand_88
  refine r_aload_n X 0 rfl dX11_operand_88 ?_
  refine r_iconst (v := 2) X (by decide) dX11_operand_89 ?_
  refine r_callVv X (mX11_wrong _ _ _) mk_X11_wrong lk_X11_203 lm_0 rfl rfl (by decide) (by decide) (Nat.le_of_ble_eq_true rfl) rfl dX11_operand_90 (fun q90 _ => ?_)
  exact gX11_operand_93 X F _ _ _ _
def fX11_operand_75 (F : Nat) (S : ST) (x1 : Int32) (x2 : Int32) (x3 : Int32) : Option (Int32 × ST) :=
  if x3 = 0 then
    (fX11_operand_93 F S x1 x2 x3)
  else
    (if (S.1 0 22) = (60 : Int32) then
      (fX11_operand_88 F S x1 x2 x3)
    else
      (fX11_operand_93 F S x1 x2 x3))
set_option maxRecDepth 4000 in
theorem gX11_operand_75 {E : CT} (X : Cx E layM cX11_operand RX11 5 (some .int) 2) (F : Nat) (S : ST) (x1 : Int32) (x2 : Int32) (x3 : Int32) : G E (fX11_operand_75 F S x1 x2 x3) S 75 [(0, .ref (eA E 0)), (1, .int x1), (2, .int x2), (3, .int x3)] [] := by
  unfold fX11_operand_75
  refine r_iload_n X 3 rfl dX11_operand_75 ?_
  refine r_if_eq (tgt := 93) X dX11_operand_76 (by decide) (fun _ => ?_) (fun _ => ?_)
  · exact gX11_operand_93 X F _ _ _ _
  · refine r_aload_n X 0 rfl dX11_operand_79 ?_
    refine r_getI X fk_X11_245 lm_0 rfl dX11_operand_80 ?_
    refine r_bipush (v := 60) X (by decide) dX11_operand_83 ?_
    refine r_icmp_ne (tgt := 93) X dX11_operand_85 (by decide) (fun _ => ?_) (fun _ => ?_)
    · exact gX11_operand_93 X F _ _ _ _
    · exact gX11_operand_88 X F _ _ _ _
def fX11_operand_55 (F : Nat) (S : ST) (x1 : Int32) (x2 : Int32) (x3 : Int32) (s0 : Int32) : Option (Int32 × ST) :=
  if s0 = 0 then
    (fX11_operand_88 F S x1 x2 x3)
  else
    (if x1 = 0 then
      (if (6 : Int32) ≤ (S.1 0 30) then
        (fX11_operand_88 F S x1 x2 x3)
      else
        (fX11_operand_75 F S x1 x2 x3))
    else
      (fX11_operand_75 F S x1 x2 x3))
set_option maxRecDepth 4000 in
theorem gX11_operand_55 {E : CT} (X : Cx E layM cX11_operand RX11 5 (some .int) 2) (F : Nat) (S : ST) (x1 : Int32) (x2 : Int32) (x3 : Int32) (s0 : Int32) : G E (fX11_operand_55 F S x1 x2 x3 s0) S 55 [(0, .ref (eA E 0)), (1, .int x1), (2, .int x2), (3, .int x3)] [.int s0] := by
  unfold fX11_operand_55
  refine r_istore (lv' := [(0, _), (1, _), (2, _), (3, _), (4, _)]) X (by decide) rfl dX11_operand_55 ?_
  refine r_iload X 4 rfl dX11_operand_57 ?_
  refine r_if_eq (tgt := 88) X dX11_operand_59 (by decide) (fun _ => ?_) (fun _ => ?_)
  · refine r_sub [0, 1, 2, 3] rfl ?_
    exact gX11_operand_88 X F _ _ _ _
  · refine r_iload_n X 1 rfl dX11_operand_62 ?_
    refine r_if_ne (tgt := 75) X dX11_operand_63 (by decide) (fun _ => ?_) (fun _ => ?_)
    · refine r_sub [0, 1, 2, 3] rfl ?_
      exact gX11_operand_75 X F _ _ _ _
    · refine r_aload_n X 0 rfl dX11_operand_66 ?_
      refine r_getI X fk_X11_212 lm_0 rfl dX11_operand_67 ?_
      refine r_bipush (v := 6) X (by decide) dX11_operand_70 ?_
      refine r_icmp_ge (tgt := 88) X dX11_operand_72 (by decide) (fun _ => ?_) (fun _ => ?_)
      · refine r_sub [0, 1, 2, 3] rfl ?_
        exact gX11_operand_88 X F _ _ _ _
      · refine r_sub [0, 1, 2, 3] rfl ?_
        exact gX11_operand_75 X F _ _ _ _
def fX11_operand_54 (F : Nat) (S : ST) (x1 : Int32) (x2 : Int32) (x3 : Int32) : Option (Int32 × ST) :=
  fX11_operand_55 F S x1 x2 x3 (0 : Int32)
set_option maxRecDepth 4000 in
theorem gX11_operand_54 {E : CT} (X : Cx E layM cX11_operand RX11 5 (some .int) 2) (F : Nat) (S : ST) (x1 : Int32) (x2 : Int32) (x3 : Int32) : G E (fX11_operand_54 F S x1 x2 x3) S 54 [(0, .ref (eA E 0)), (1, .int x1), (2, .int x2), (3, .int x3)] [] := by
  unfold fX11_operand_54
  refine r_iconst (v := 0) X (by decide) dX11_operand_54 ?_
  exact gX11_operand_55 X F _ _ _ _ _
def fX11_operand_22 (F : Nat) (S : ST) (x1 : Int32) (x2 : Int32) (s0 : Int32) : Option (Int32 × ST) :=
  if s0 = 0 then
    (if x1 = 0 then
      (if (S.1 0 10) = (40 : Int32) then
        (fX11_operand_55 F S x1 x2 s0 (1 : Int32))
      else
        ((fX11_isWord F S (7237492 : Int64)).bind (fun q44 => if q44.1 = 0 then
          (fX11_operand_54 F q44.2 x1 x2 s0)
        else
          (fX11_operand_55 F q44.2 x1 x2 s0 (1 : Int32)))))
    else
      (fX11_operand_54 F S x1 x2 s0))
  else
    (fX11_operand_55 F S x1 x2 s0 (1 : Int32))
set_option maxRecDepth 4000 in
theorem gX11_operand_22 {E : CT} (X : Cx E layM cX11_operand RX11 5 (some .int) 2) (F : Nat) (S : ST) (x1 : Int32) (x2 : Int32) (s0 : Int32) : G E (fX11_operand_22 F S x1 x2 s0) S 22 [(0, .ref (eA E 0)), (1, .int x1), (2, .int x2)] [.int s0] := by
  unfold fX11_operand_22
  refine r_istore_n (lv' := [(0, _), (1, _), (2, _), (3, _)]) X (by decide) rfl dX11_operand_22 ?_
  refine r_iload_n X 3 rfl dX11_operand_23 ?_
  refine r_if_ne (tgt := 50) X dX11_operand_24 (by decide) (fun _ => ?_) (fun _ => ?_)
  · refine r_iconst (v := 1) X (by decide) dX11_operand_50 ?_
    refine r_goto (tgt := 55) X dX11_operand_51 (by decide) ?_
    exact gX11_operand_55 X F _ _ _ _ _
  · refine r_iload_n X 1 rfl dX11_operand_27 ?_
    refine r_if_ne (tgt := 54) X dX11_operand_28 (by decide) (fun _ => ?_) (fun _ => ?_)
    · exact gX11_operand_54 X F _ _ _ _
    · refine r_aload_n X 0 rfl dX11_operand_31 ?_
      refine r_getI X fk_X11_174 lm_0 rfl dX11_operand_32 ?_
      refine r_bipush (v := 40) X (by decide) dX11_operand_35 ?_
      refine r_icmp_eq (tgt := 50) X dX11_operand_37 (by decide) (fun _ => ?_) (fun _ => ?_)
      · refine r_iconst (v := 1) X (by decide) dX11_operand_50 ?_
        refine r_goto (tgt := 55) X dX11_operand_51 (by decide) ?_
        exact gX11_operand_55 X F _ _ _ _ _
      · refine r_aload_n X 0 rfl dX11_operand_40 ?_
        refine r_ldc2 X kc_X11_239 dX11_operand_41 ?_
        refine r_callV X (mX11_isWord _ _ _) mk_X11_isWord lk_X11_241 lm_0 rfl rfl (by decide) (by decide) (Nat.le_of_ble_eq_true rfl) rfl dX11_operand_44 (fun q44 _ => ?_)
        refine r_if_eq (tgt := 54) X dX11_operand_47 (by decide) (fun _ => ?_) (fun _ => ?_)
        · exact gX11_operand_54 X F _ _ _ _
        · refine r_iconst (v := 1) X (by decide) dX11_operand_50 ?_
          refine r_goto (tgt := 55) X dX11_operand_51 (by decide) ?_
          exact gX11_operand_55 X F _ _ _ _ _
def fX11_operand (F : Nat) (S : ST) (x1 : Int32) : Option (Int32 × ST) :=
  (fX11_named F S).bind (fun q1 => if (q1.2.1 0 10) = (2 : Int32) then
    (fX11_operand_22 F q1.2 x1 q1.1 (1 : Int32))
  else
    (if q1.1 < 0 then
      (fX11_operand_22 F q1.2 x1 q1.1 (0 : Int32))
    else
      (fX11_operand_22 F q1.2 x1 q1.1 (1 : Int32))))
set_option maxRecDepth 4000 in
theorem gX11_operand {E : CT} (X : Cx E layM cX11_operand RX11 5 (some .int) 2) (F : Nat) (S : ST) (x1 : Int32) : G E (fX11_operand F S x1) S 0 [(0, .ref (eA E 0)), (1, .int x1)] [] := by
  unfold fX11_operand
  refine r_aload_n X 0 rfl dX11_operand_0 ?_
  refine r_callV X (mX11_named _ _) mk_X11_named lk_X11_235 lm_0 rfl rfl (by decide) (by decide) (Nat.le_of_ble_eq_true rfl) rfl dX11_operand_1 (fun q1 _ => ?_)
  refine r_istore_n (lv' := [(0, _), (1, _), (2, _)]) X (by decide) rfl dX11_operand_4 ?_
  refine r_aload_n X 0 rfl dX11_operand_5 ?_
  refine r_getI X fk_X11_174 lm_0 rfl dX11_operand_6 ?_
  refine r_iconst (v := 2) X (by decide) dX11_operand_9 ?_
  refine r_icmp_eq (tgt := 17) X dX11_operand_10 (by decide) (fun _ => ?_) (fun _ => ?_)
  · refine r_iconst (v := 1) X (by decide) dX11_operand_17 ?_
    refine r_goto (tgt := 22) X dX11_operand_18 (by decide) ?_
    exact gX11_operand_22 X F _ _ _ _
  · refine r_iload_n X 2 rfl dX11_operand_13 ?_
    refine r_if_lt (tgt := 21) X dX11_operand_14 (by decide) (fun _ => ?_) (fun _ => ?_)
    · refine r_iconst (v := 0) X (by decide) dX11_operand_21 ?_
      exact gX11_operand_22 X F _ _ _ _
    · refine r_iconst (v := 1) X (by decide) dX11_operand_17 ?_
      refine r_goto (tgt := 22) X dX11_operand_18 (by decide) ?_
      exact gX11_operand_22 X F _ _ _ _
theorem mX11_operand (F : Nat) (S : ST) (x1 : Int32) : MetS yX11_operand cX11_operand 5 (some .int) 2 layM (fX11_operand F S x1) S (fun ad => [.ref (ad 0), .int x1]) := mk_met (fun ad => [(0, .ref (ad 0)), (1, .int x1)]) (by decide) (fun _ => Nat.le_of_ble_eq_true rfl) (fun _ => rfl) (fun E X => gX11_operand X F S x1)
def fX11_pop_34 (F : Nat) (S : ST) : Option (Int32 × ST) :=
  (if vin (S.1 0 29) 300 = true then (fX11_step F S (S.1 13 (ix (S.1 0 29))) (0 : Int32)).bind (fun q45 => some ((0 : Int32), q45.2)) else none)
set_option maxRecDepth 4000 in
theorem gX11_pop_34 {E : CT} (X : Cx E layM cX11_pop RX11 1 none 1) (F : Nat) (S : ST) : G E (fX11_pop_34 F S) S 34 [(0, .ref (eA E 0))] [] := by
  unfold fX11_pop_34
  refine r_aload_n X 0 rfl dX11_pop_34 ?_
  refine r_aload_n X 0 rfl dX11_pop_35 ?_
  refine r_getR X fk_X11_50 lm_0 rfl dX11_pop_36 ?_
  refine r_aload_n X 0 rfl dX11_pop_39 ?_
  refine r_getI X fk_X11_209 lm_0 rfl dX11_pop_40 ?_
  refine r_iald X lm_13 dX11_pop_43 (fun _ => ?_)
  refine r_iconst (v := 0) X (by decide) dX11_pop_44 ?_
  refine r_callVv X (mX11_step _ _ _ _) mk_X11_step lk_X11_215 lm_0 rfl rfl (by decide) (by decide) (Nat.le_of_ble_eq_true rfl) rfl dX11_pop_45 (fun q45 _ => ?_)
  exact r_vret X dX11_pop_48
def fX11_pop (F : Nat) (S : ST) : Option (Int32 × ST) :=
  bindS (us S 0 29 ((S.1 0 29) - (1 : Int32))) (fun S7 => (if vin (S7.1 0 29) 300 = true then if (S7.1 13 (ix (S7.1 0 29))) = (20 : Int32) then
    (bindS (us S7 0 30 ((S7.1 0 30) - (1 : Int32))) (fun S31 => fX11_pop_34 F S31))
  else
    (fX11_pop_34 F S7) else none))
set_option maxRecDepth 4000 in
theorem gX11_pop {E : CT} (X : Cx E layM cX11_pop RX11 1 none 1) (F : Nat) (S : ST) : G E (fX11_pop F S) S 0 [(0, .ref (eA E 0))] [] := by
  unfold fX11_pop
  refine r_aload_n X 0 rfl dX11_pop_0 ?_
  refine r_dup X rfl dX11_pop_1 ?_
  refine r_getI X fk_X11_209 lm_0 rfl dX11_pop_2 ?_
  refine r_iconst (v := 1) X (by decide) dX11_pop_5 ?_
  refine r_isub X dX11_pop_6 ?_
  refine r_putI X pk_X11_209 lm_0 rfl dX11_pop_7 ?_
  refine r_bindS (fun S7 => ?_)
  refine r_aload_n X 0 rfl dX11_pop_10 ?_
  refine r_getR X fk_X11_50 lm_0 rfl dX11_pop_11 ?_
  refine r_aload_n X 0 rfl dX11_pop_14 ?_
  refine r_getI X fk_X11_209 lm_0 rfl dX11_pop_15 ?_
  refine r_iald X lm_13 dX11_pop_18 (fun _ => ?_)
  refine r_bipush (v := 20) X (by decide) dX11_pop_19 ?_
  refine r_icmp_ne (tgt := 34) X dX11_pop_21 (by decide) (fun _ => ?_) (fun _ => ?_)
  · exact gX11_pop_34 X F _
  · refine r_aload_n X 0 rfl dX11_pop_24 ?_
    refine r_dup X rfl dX11_pop_25 ?_
    refine r_getI X fk_X11_212 lm_0 rfl dX11_pop_26 ?_
    refine r_iconst (v := 1) X (by decide) dX11_pop_29 ?_
    refine r_isub X dX11_pop_30 ?_
    refine r_putI X pk_X11_212 lm_0 rfl dX11_pop_31 ?_
    refine r_bindS (fun S31 => ?_)
    exact gX11_pop_34 X F _
theorem mX11_pop (F : Nat) (S : ST) : MetS yX11_pop cX11_pop 1 none 1 layM (fX11_pop F S) S (fun ad => [.ref (ad 0)]) := mk_met (fun ad => [(0, .ref (ad 0))]) (by decide) (fun _ => Nat.le_of_ble_eq_true rfl) (fun _ => rfl) (fun E X => gX11_pop X F S)
def fX11_settle_0 (F : Nat) : Nat → ST → Int32 → Option (Int32 × ST)
  | 0, _, _ => none
  | n + 1, S, x1 =>
  if (S.1 0 29) ≤ 0 then
    (some ((0 : Int32), S))
  else
    ((if vin ((S.1 0 29) - (1 : Int32)) 300 = true then if (S.1 13 (ix ((S.1 0 29) - (1 : Int32)))) = (28 : Int32) then
      (some ((0 : Int32), S))
    else
      ((if vin ((S.1 0 29) - (1 : Int32)) 300 = true then if (S.1 13 (ix ((S.1 0 29) - (1 : Int32)))) < x1 then
        (some ((0 : Int32), S))
      else
        ((fX11_pop F S).bind (fun q39 => fX11_settle_0 F n q39.2 x1)) else none)) else none))
set_option maxRecDepth 4000 in
theorem gX11_settle_0 {E : CT} (X : Cx E layM cX11_settle RX11 2 none 2) (F : Nat) : ∀ (n : Nat) (S : ST) (x1 : Int32), G E (fX11_settle_0 F n S x1) S 0 [(0, .ref (eA E 0)), (1, .int x1)] []
  | 0, _, _ => r_none
  | n + 1, S, x1 => by
    have ih := gX11_settle_0 X F n
    unfold fX11_settle_0
    refine r_aload_n X 0 rfl dX11_settle_0 ?_
    refine r_getI X fk_X11_209 lm_0 rfl dX11_settle_1 ?_
    refine r_if_le (tgt := 45) X dX11_settle_4 (by decide) (fun _ => ?_) (fun _ => ?_)
    · exact r_vret X dX11_settle_45
    · refine r_aload_n X 0 rfl dX11_settle_7 ?_
      refine r_getR X fk_X11_50 lm_0 rfl dX11_settle_8 ?_
      refine r_aload_n X 0 rfl dX11_settle_11 ?_
      refine r_getI X fk_X11_209 lm_0 rfl dX11_settle_12 ?_
      refine r_iconst (v := 1) X (by decide) dX11_settle_15 ?_
      refine r_isub X dX11_settle_16 ?_
      refine r_iald X lm_13 dX11_settle_17 (fun _ => ?_)
      refine r_bipush (v := 28) X (by decide) dX11_settle_18 ?_
      refine r_icmp_eq (tgt := 45) X dX11_settle_20 (by decide) (fun _ => ?_) (fun _ => ?_)
      · exact r_vret X dX11_settle_45
      · refine r_aload_n X 0 rfl dX11_settle_23 ?_
        refine r_getR X fk_X11_50 lm_0 rfl dX11_settle_24 ?_
        refine r_aload_n X 0 rfl dX11_settle_27 ?_
        refine r_getI X fk_X11_209 lm_0 rfl dX11_settle_28 ?_
        refine r_iconst (v := 1) X (by decide) dX11_settle_31 ?_
        refine r_isub X dX11_settle_32 ?_
        refine r_iald X lm_13 dX11_settle_33 (fun _ => ?_)
        refine r_iload_n X 1 rfl dX11_settle_34 ?_
        refine r_icmp_lt (tgt := 45) X dX11_settle_35 (by decide) (fun _ => ?_) (fun _ => ?_)
        · exact r_vret X dX11_settle_45
        · refine r_aload_n X 0 rfl dX11_settle_38 ?_
          refine r_callVv X (mX11_pop _ _) mk_X11_pop lk_X11_219 lm_0 rfl rfl (by decide) (by decide) (Nat.le_of_ble_eq_true rfl) rfl dX11_settle_39 (fun q39 _ => ?_)
          refine r_goto (tgt := 0) X dX11_settle_42 (by decide) ?_
          exact ih _ _
def fX11_settle (F : Nat) (S : ST) (x1 : Int32) : Option (Int32 × ST) :=
  fX11_settle_0 F F S x1
set_option maxRecDepth 4000 in
theorem gX11_settle {E : CT} (X : Cx E layM cX11_settle RX11 2 none 2) (F : Nat) (S : ST) (x1 : Int32) : G E (fX11_settle F S x1) S 0 [(0, .ref (eA E 0)), (1, .int x1)] [] := by
  unfold fX11_settle
  exact gX11_settle_0 X F F _ _
theorem mX11_settle (F : Nat) (S : ST) (x1 : Int32) : MetS yX11_settle cX11_settle 2 none 2 layM (fX11_settle F S x1) S (fun ad => [.ref (ad 0), .int x1]) := mk_met (fun ad => [(0, .ref (ad 0)), (1, .int x1)]) (by decide) (fun _ => Nat.le_of_ble_eq_true rfl) (fun _ => rfl) (fun E X => gX11_settle X F S x1)
def fX11_settleOnes_51 (F : Nat) (k2 : ST → Int32 → Int32 → Option (Int32 × ST)) (S : ST) (x1 : Int32) (s0 : Int32) : Option (Int32 × ST) :=
  if s0 = 0 then
    (k2 S x1 s0)
  else
    ((fX11_pop F S).bind (fun q57 => k2 q57.2 x1 s0))
set_option maxRecDepth 4000 in
theorem gX11_settleOnes_51 {E : CT} (X : Cx E layM cX11_settleOnes RX11 4 none 2) (F : Nat) (k2 : ST → Int32 → Int32 → Option (Int32 × ST)) (h2 : ∀ (S : ST) (x1 : Int32) (x2 : Int32), G E (k2 S x1 x2) S 2 [(0, .ref (eA E 0)), (1, .int x1), (2, .int x2)] []) (S : ST) (x1 : Int32) (s0 : Int32) : G E (fX11_settleOnes_51 F k2 S x1 s0) S 51 [(0, .ref (eA E 0)), (1, .int x1)] [.int s0] := by
  unfold fX11_settleOnes_51
  refine r_istore_n (lv' := [(0, _), (1, _), (2, _)]) X (by decide) rfl dX11_settleOnes_51 ?_
  refine r_iload_n X 2 rfl dX11_settleOnes_52 ?_
  refine r_if_eq (tgt := 60) X dX11_settleOnes_53 (by decide) (fun _ => ?_) (fun _ => ?_)
  · refine r_goto (tgt := 2) X dX11_settleOnes_60 (by decide) ?_
    exact h2 _ _ _
  · refine r_aload_n X 0 rfl dX11_settleOnes_56 ?_
    refine r_callVv X (mX11_pop _ _) mk_X11_pop lk_X11_219 lm_0 rfl rfl (by decide) (by decide) (Nat.le_of_ble_eq_true rfl) rfl dX11_settleOnes_57 (fun q57 _ => ?_)
    refine r_goto (tgt := 2) X dX11_settleOnes_60 (by decide) ?_
    exact h2 _ _ _
def fX11_settleOnes_50 (F : Nat) (k2 : ST → Int32 → Int32 → Option (Int32 × ST)) (S : ST) (x1 : Int32) : Option (Int32 × ST) :=
  fX11_settleOnes_51 F k2 S x1 (0 : Int32)
set_option maxRecDepth 4000 in
theorem gX11_settleOnes_50 {E : CT} (X : Cx E layM cX11_settleOnes RX11 4 none 2) (F : Nat) (k2 : ST → Int32 → Int32 → Option (Int32 × ST)) (h2 : ∀ (S : ST) (x1 : Int32) (x2 : Int32), G E (k2 S x1 x2) S 2 [(0, .ref (eA E 0)), (1, .int x1), (2, .int x2)] []) (S : ST) (x1 : Int32) : G E (fX11_settleOnes_50 F k2 S x1) S 50 [(0, .ref (eA E 0)), (1, .int x1)] [] := by
  unfold fX11_settleOnes_50
  refine r_iconst (v := 0) X (by decide) dX11_settleOnes_50 ?_
  exact gX11_settleOnes_51 X F _ h2 _ _ _
def fX11_settleOnes_29 (F : Nat) (k2 : ST → Int32 → Int32 → Option (Int32 × ST)) (S : ST) (x1 : Int32) (s0 : Int32) : Option (Int32 × ST) :=
  if s0 = (28 : Int32) then
    (fX11_settleOnes_50 F k2 S x1)
  else
    (if x1 = 0 then
      (fX11_settleOnes_51 F k2 S x1 (1 : Int32))
    else
      (if s0 = (21 : Int32) then
        (fX11_settleOnes_50 F k2 S x1)
      else
        (fX11_settleOnes_51 F k2 S x1 (1 : Int32))))
set_option maxRecDepth 4000 in
theorem gX11_settleOnes_29 {E : CT} (X : Cx E layM cX11_settleOnes RX11 4 none 2) (F : Nat) (k2 : ST → Int32 → Int32 → Option (Int32 × ST)) (h2 : ∀ (S : ST) (x1 : Int32) (x2 : Int32), G E (k2 S x1 x2) S 2 [(0, .ref (eA E 0)), (1, .int x1), (2, .int x2)] []) (S : ST) (x1 : Int32) (s0 : Int32) : G E (fX11_settleOnes_29 F k2 S x1 s0) S 29 [(0, .ref (eA E 0)), (1, .int x1)] [.int s0] := by
  unfold fX11_settleOnes_29
  refine r_istore_n (lv' := [(0, _), (1, _), (3, _)]) X (by decide) rfl dX11_settleOnes_29 ?_
  refine r_iload_n X 2 rfl dX11_settleOnes_30 ?_
  refine r_bipush (v := 28) X (by decide) dX11_settleOnes_31 ?_
  refine r_icmp_eq (tgt := 50) X dX11_settleOnes_33 (by decide) (fun _ => ?_) (fun _ => ?_)
  · refine r_sub [0, 1] rfl ?_
    exact gX11_settleOnes_50 X F _ h2 _ _
  · refine r_iload_n X 1 rfl dX11_settleOnes_36 ?_
    refine r_if_eq (tgt := 46) X dX11_settleOnes_37 (by decide) (fun _ => ?_) (fun _ => ?_)
    · refine r_iconst (v := 1) X (by decide) dX11_settleOnes_46 ?_
      refine r_goto (tgt := 51) X dX11_settleOnes_47 (by decide) ?_
      refine r_sub [0, 1] rfl ?_
      exact gX11_settleOnes_51 X F _ h2 _ _ _
    · refine r_iload_n X 2 rfl dX11_settleOnes_40 ?_
      refine r_bipush (v := 21) X (by decide) dX11_settleOnes_41 ?_
      refine r_icmp_eq (tgt := 50) X dX11_settleOnes_43 (by decide) (fun _ => ?_) (fun _ => ?_)
      · refine r_sub [0, 1] rfl ?_
        exact gX11_settleOnes_50 X F _ h2 _ _
      · refine r_iconst (v := 1) X (by decide) dX11_settleOnes_46 ?_
        refine r_goto (tgt := 51) X dX11_settleOnes_47 (by decide) ?_
        refine r_sub [0, 1] rfl ?_
        exact gX11_settleOnes_51 X F _ h2 _ _ _
def fX11_settleOnes_2 (F : Nat) : Nat → ST → Int32 → Int32 → Option (Int32 × ST)
  | 0, _, _, _ => none
  | n + 1, S, x1, x2 =>
  if x2 = 0 then
    (some ((0 : Int32), S))
  else
    (if (S.1 0 29) = 0 then
      (fX11_settleOnes_29 F (fX11_settleOnes_2 F n) S x1 (28 : Int32))
    else
      ((if vin ((S.1 0 29) - (1 : Int32)) 300 = true then fX11_settleOnes_29 F (fX11_settleOnes_2 F n) S x1 (S.1 13 (ix ((S.1 0 29) - (1 : Int32)))) else none)))
set_option maxRecDepth 4000 in
theorem gX11_settleOnes_2 {E : CT} (X : Cx E layM cX11_settleOnes RX11 4 none 2) (F : Nat) : ∀ (n : Nat) (S : ST) (x1 : Int32) (x2 : Int32), G E (fX11_settleOnes_2 F n S x1 x2) S 2 [(0, .ref (eA E 0)), (1, .int x1), (2, .int x2)] []
  | 0, _, _, _ => r_none
  | n + 1, S, x1, x2 => by
    have ih := gX11_settleOnes_2 X F n
    unfold fX11_settleOnes_2
    refine r_iload_n X 2 rfl dX11_settleOnes_2 ?_
    refine r_if_eq (tgt := 63) X dX11_settleOnes_3 (by decide) (fun _ => ?_) (fun _ => ?_)
    · exact r_vret X dX11_settleOnes_63
    · refine r_aload_n X 0 rfl dX11_settleOnes_6 ?_
      refine r_getI X fk_X11_209 lm_0 rfl dX11_settleOnes_7 ?_
      refine r_if_ne (tgt := 18) X dX11_settleOnes_10 (by decide) (fun _ => ?_) (fun _ => ?_)
      · refine r_aload_n X 0 rfl dX11_settleOnes_18 ?_
        refine r_getR X fk_X11_50 lm_0 rfl dX11_settleOnes_19 ?_
        refine r_aload_n X 0 rfl dX11_settleOnes_22 ?_
        refine r_getI X fk_X11_209 lm_0 rfl dX11_settleOnes_23 ?_
        refine r_iconst (v := 1) X (by decide) dX11_settleOnes_26 ?_
        refine r_isub X dX11_settleOnes_27 ?_
        refine r_iald X lm_13 dX11_settleOnes_28 (fun _ => ?_)
        refine r_sub [0, 1] rfl ?_
        exact gX11_settleOnes_29 X F _ ih _ _ _
      · refine r_bipush (v := 28) X (by decide) dX11_settleOnes_13 ?_
        refine r_goto (tgt := 29) X dX11_settleOnes_15 (by decide) ?_
        refine r_sub [0, 1] rfl ?_
        exact gX11_settleOnes_29 X F _ ih _ _ _
def fX11_settleOnes (F : Nat) (S : ST) (x1 : Int32) : Option (Int32 × ST) :=
  fX11_settleOnes_2 F F S x1 (1 : Int32)
set_option maxRecDepth 4000 in
theorem gX11_settleOnes {E : CT} (X : Cx E layM cX11_settleOnes RX11 4 none 2) (F : Nat) (S : ST) (x1 : Int32) : G E (fX11_settleOnes F S x1) S 0 [(0, .ref (eA E 0)), (1, .int x1)] [] := by
  unfold fX11_settleOnes
  refine r_iconst (v := 1) X (by decide) dX11_settleOnes_0 ?_
  refine r_istore_n (lv' := [(0, _), (1, _), (2, _)]) X (by decide) rfl dX11_settleOnes_1 ?_
  exact gX11_settleOnes_2 X F F _ _ _
theorem mX11_settleOnes (F : Nat) (S : ST) (x1 : Int32) : MetS yX11_settleOnes cX11_settleOnes 4 none 2 layM (fX11_settleOnes F S x1) S (fun ad => [.ref (ad 0), .int x1]) := mk_met (fun ad => [(0, .ref (ad 0)), (1, .int x1)]) (by decide) (fun _ => Nat.le_of_ble_eq_true rfl) (fun _ => rfl) (fun E X => gX11_settleOnes X F S x1)
def fX11_sign_46 (F : Nat) (S : ST) (x1 : Int32) (s0 : Int32) : Option (Int32 × ST) :=
  (fX11_hold F S s0).bind (fun q46 => (fX11_next F q46.2).bind (fun q50 => if x1 = (3 : Int32) then
    (some ((1 : Int32), q50.2))
  else
    (some ((2 : Int32), q50.2))))
set_option maxRecDepth 4000 in
theorem gX11_sign_46 {E : CT} (X : Cx E layM cX11_sign RX11 3 (some .int) 3) (F : Nat) (S : ST) (x1 : Int32) (s0 : Int32) : G E (fX11_sign_46 F S x1 s0) S 46 [(0, .ref (eA E 0)), (1, .int x1)] [.int s0, .ref (eA E 0)] := by
  unfold fX11_sign_46
  refine r_callVv X (mX11_hold _ _ _) mk_X11_hold lk_X11_248 lm_0 rfl rfl (by decide) (by decide) (Nat.le_of_ble_eq_true rfl) rfl dX11_sign_46 (fun q46 _ => ?_)
  refine r_aload_n X 0 rfl dX11_sign_49 ?_
  refine r_callVv X (mX11_next _ _) mk_X11_next lk_X11_206 lm_0 rfl rfl (by decide) (by decide) (Nat.le_of_ble_eq_true rfl) rfl dX11_sign_50 (fun q50 _ => ?_)
  refine r_iload_n X 1 rfl dX11_sign_53 ?_
  refine r_iconst (v := 3) X (by decide) dX11_sign_54 ?_
  refine r_icmp_ne (tgt := 62) X dX11_sign_55 (by decide) (fun _ => ?_) (fun _ => ?_)
  · refine r_iconst (v := 2) X (by decide) dX11_sign_62 ?_
    exact r_iret X dX11_sign_63
  · refine r_iconst (v := 1) X (by decide) dX11_sign_58 ?_
    refine r_goto (tgt := 63) X dX11_sign_59 (by decide) ?_
    exact r_iret X dX11_sign_63
def fX11_sign_23 (F : Nat) (S : ST) (x1 : Int32) : Option (Int32 × ST) :=
  (fX11_settle F S (26 : Int32)).bind (fun q26 => if (q26.2.1 0 10) = (43 : Int32) then
    (fX11_sign_46 F q26.2 x1 (26 : Int32))
  else
    (fX11_sign_46 F q26.2 x1 (27 : Int32)))
set_option maxRecDepth 4000 in
theorem gX11_sign_23 {E : CT} (X : Cx E layM cX11_sign RX11 3 (some .int) 3) (F : Nat) (S : ST) (x1 : Int32) : G E (fX11_sign_23 F S x1) S 23 [(0, .ref (eA E 0)), (1, .int x1)] [] := by
  unfold fX11_sign_23
  refine r_aload_n X 0 rfl dX11_sign_23 ?_
  refine r_bipush (v := 26) X (by decide) dX11_sign_24 ?_
  refine r_callVv X (mX11_settle _ _ _) mk_X11_settle lk_X11_232 lm_0 rfl rfl (by decide) (by decide) (Nat.le_of_ble_eq_true rfl) rfl dX11_sign_26 (fun q26 _ => ?_)
  refine r_aload_n X 0 rfl dX11_sign_29 ?_
  refine r_aload_n X 0 rfl dX11_sign_30 ?_
  refine r_getI X fk_X11_174 lm_0 rfl dX11_sign_31 ?_
  refine r_bipush (v := 43) X (by decide) dX11_sign_34 ?_
  refine r_icmp_ne (tgt := 44) X dX11_sign_36 (by decide) (fun _ => ?_) (fun _ => ?_)
  · refine r_bipush (v := 27) X (by decide) dX11_sign_44 ?_
    exact gX11_sign_46 X F _ _ _
  · refine r_bipush (v := 26) X (by decide) dX11_sign_39 ?_
    refine r_goto (tgt := 46) X dX11_sign_41 (by decide) ?_
    exact gX11_sign_46 X F _ _ _
def fX11_sign_133 (F : Nat) (S : ST) (s0 : Int32) : Option (Int32 × ST) :=
  (fX11_hold F S s0).bind (fun q133 => (fX11_next F q133.2).bind (fun q137 => some ((2 : Int32), q137.2)))
set_option maxRecDepth 4000 in
theorem gX11_sign_133 {E : CT} (X : Cx E layM cX11_sign RX11 3 (some .int) 3) (F : Nat) (S : ST) (s0 : Int32) : G E (fX11_sign_133 F S s0) S 133 [(0, .ref (eA E 0))] [.int s0, .ref (eA E 0)] := by
  unfold fX11_sign_133
  refine r_callVv X (mX11_hold _ _ _) mk_X11_hold lk_X11_248 lm_0 rfl rfl (by decide) (by decide) (Nat.le_of_ble_eq_true rfl) rfl dX11_sign_133 (fun q133 _ => ?_)
  refine r_aload_n X 0 rfl dX11_sign_136 ?_
  refine r_callVv X (mX11_next _ _) mk_X11_next lk_X11_206 lm_0 rfl rfl (by decide) (by decide) (Nat.le_of_ble_eq_true rfl) rfl dX11_sign_137 (fun q137 _ => ?_)
  refine r_iconst (v := 2) X (by decide) dX11_sign_140 ?_
  exact r_iret X dX11_sign_141
def fX11_sign_96 (F : Nat) (S : ST) : Option (Int32 × ST) :=
  (fX11_settle F S (26 : Int32)).bind (fun q99 => if (q99.2.1 0 10) = (61 : Int32) then
    (fX11_sign_133 F q99.2 (23 : Int32))
  else
    (if (q99.2.1 0 10) = (60 : Int32) then
      (fX11_sign_133 F q99.2 (24 : Int32))
    else
      (fX11_sign_133 F q99.2 (25 : Int32))))
set_option maxRecDepth 4000 in
theorem gX11_sign_96 {E : CT} (X : Cx E layM cX11_sign RX11 3 (some .int) 3) (F : Nat) (S : ST) : G E (fX11_sign_96 F S) S 96 [(0, .ref (eA E 0))] [] := by
  unfold fX11_sign_96
  refine r_aload_n X 0 rfl dX11_sign_96 ?_
  refine r_bipush (v := 26) X (by decide) dX11_sign_97 ?_
  refine r_callVv X (mX11_settle _ _ _) mk_X11_settle lk_X11_232 lm_0 rfl rfl (by decide) (by decide) (Nat.le_of_ble_eq_true rfl) rfl dX11_sign_99 (fun q99 _ => ?_)
  refine r_aload_n X 0 rfl dX11_sign_102 ?_
  refine r_aload_n X 0 rfl dX11_sign_103 ?_
  refine r_getI X fk_X11_174 lm_0 rfl dX11_sign_104 ?_
  refine r_bipush (v := 61) X (by decide) dX11_sign_107 ?_
  refine r_icmp_ne (tgt := 117) X dX11_sign_109 (by decide) (fun _ => ?_) (fun _ => ?_)
  · refine r_aload_n X 0 rfl dX11_sign_117 ?_
    refine r_getI X fk_X11_174 lm_0 rfl dX11_sign_118 ?_
    refine r_bipush (v := 60) X (by decide) dX11_sign_121 ?_
    refine r_icmp_ne (tgt := 131) X dX11_sign_123 (by decide) (fun _ => ?_) (fun _ => ?_)
    · refine r_bipush (v := 25) X (by decide) dX11_sign_131 ?_
      exact gX11_sign_133 X F _ _
    · refine r_bipush (v := 24) X (by decide) dX11_sign_126 ?_
      refine r_goto (tgt := 133) X dX11_sign_128 (by decide) ?_
      exact gX11_sign_133 X F _ _
  · refine r_bipush (v := 23) X (by decide) dX11_sign_112 ?_
    refine r_goto (tgt := 133) X dX11_sign_114 (by decide) ?_
    exact gX11_sign_133 X F _ _
def fX11_sign_192 (F : Nat) (S : ST) (s0 : Int32) : Option (Int32 × ST) :=
  (fX11_hold F S s0).bind (fun q192 => (fX11_next F q192.2).bind (fun q196 => some ((0 : Int32), q196.2)))
set_option maxRecDepth 4000 in
theorem gX11_sign_192 {E : CT} (X : Cx E layM cX11_sign RX11 3 (some .int) 3) (F : Nat) (S : ST) (s0 : Int32) : G E (fX11_sign_192 F S s0) S 192 [(0, .ref (eA E 0))] [.int s0, .ref (eA E 0)] := by
  unfold fX11_sign_192
  refine r_callVv X (mX11_hold _ _ _) mk_X11_hold lk_X11_248 lm_0 rfl rfl (by decide) (by decide) (Nat.le_of_ble_eq_true rfl) rfl dX11_sign_192 (fun q192 _ => ?_)
  refine r_aload_n X 0 rfl dX11_sign_195 ?_
  refine r_callVv X (mX11_next _ _) mk_X11_next lk_X11_206 lm_0 rfl rfl (by decide) (by decide) (Nat.le_of_ble_eq_true rfl) rfl dX11_sign_196 (fun q196 _ => ?_)
  refine r_iconst (v := 0) X (by decide) dX11_sign_199 ?_
  exact r_iret X dX11_sign_200
def fX11_sign_167 (F : Nat) (S : ST) : Option (Int32 × ST) :=
  (fX11_isWord F S (6385252 : Int64)).bind (fun q171 => (fX11_settleOnes F q171.2 q171.1).bind (fun q177 => if q171.1 = 0 then
    (fX11_sign_192 F q177.2 (21 : Int32))
  else
    (fX11_sign_192 F q177.2 (22 : Int32))))
set_option maxRecDepth 4000 in
theorem gX11_sign_167 {E : CT} (X : Cx E layM cX11_sign RX11 3 (some .int) 3) (F : Nat) (S : ST) : G E (fX11_sign_167 F S) S 167 [(0, .ref (eA E 0))] [] := by
  unfold fX11_sign_167
  refine r_aload_n X 0 rfl dX11_sign_167 ?_
  refine r_ldc2 X kc_X11_251 dX11_sign_168 ?_
  refine r_callV X (mX11_isWord _ _ _) mk_X11_isWord lk_X11_241 lm_0 rfl rfl (by decide) (by decide) (Nat.le_of_ble_eq_true rfl) rfl dX11_sign_171 (fun q171 _ => ?_)
  refine r_istore_n (lv' := [(0, _), (2, _)]) X (by decide) rfl dX11_sign_174 ?_
  refine r_aload_n X 0 rfl dX11_sign_175 ?_
  refine r_iload_n X 1 rfl dX11_sign_176 ?_
  refine r_callVv X (mX11_settleOnes _ _ _) mk_X11_settleOnes lk_X11_255 lm_0 rfl rfl (by decide) (by decide) (Nat.le_of_ble_eq_true rfl) rfl dX11_sign_177 (fun q177 _ => ?_)
  refine r_aload_n X 0 rfl dX11_sign_180 ?_
  refine r_iload_n X 1 rfl dX11_sign_181 ?_
  refine r_if_eq (tgt := 190) X dX11_sign_182 (by decide) (fun _ => ?_) (fun _ => ?_)
  · refine r_bipush (v := 21) X (by decide) dX11_sign_190 ?_
    refine r_sub [0] rfl ?_
    exact gX11_sign_192 X F _ _
  · refine r_bipush (v := 22) X (by decide) dX11_sign_185 ?_
    refine r_goto (tgt := 192) X dX11_sign_187 (by decide) ?_
    refine r_sub [0] rfl ?_
    exact gX11_sign_192 X F _ _
def fX11_sign_253 (F : Nat) (S : ST) (x1 : Int32) : Option (Int32 × ST) :=
  (fX11_wrong F S (2 : Int32)).bind (fun q255 => some (x1, q255.2))
set_option maxRecDepth 4000 in
theorem gX11_sign_253 {E : CT} (X : Cx E layM cX11_sign RX11 3 (some .int) 3) (F : Nat) (S : ST) (x1 : Int32) : G E (fX11_sign_253 F S x1) S 253 [(0, .ref (eA E 0)), (1, .int x1)] [] := by
  unfold fX11_sign_253
  refine r_aload_n X 0 rfl dX11_sign_253 ?_
  refine r_iconst (v := 2) X (by decide) dX11_sign_254 ?_
  refine r_callVv X (mX11_wrong _ _ _) mk_X11_wrong lk_X11_203 lm_0 rfl rfl (by decide) (by decide) (Nat.le_of_ble_eq_true rfl) rfl dX11_sign_255 (fun q255 _ => ?_)
  refine r_iload_n X 1 rfl dX11_sign_258 ?_
  exact r_iret X dX11_sign_259
def fX11_sign_201 (F : Nat) (S : ST) (x1 : Int32) : Option (Int32 × ST) :=
  if x1 = (3 : Int32) then
    (fX11_sign_253 F S x1)
  else
    (if (S.1 0 10) = (41 : Int32) then
      ((fX11_isOpen F S).bind (fun q216 => if q216.1 = 0 then
        (fX11_sign_253 F q216.2 x1)
      else
        ((fX11_settle F q216.2 (0 : Int32)).bind (fun q224 => bindS (us q224.2 0 29 ((q224.2.1 0 29) - (1 : Int32))) (fun S234 => bindS (us S234 0 30 ((S234.1 0 30) - (1 : Int32))) (fun S244 => (fX11_next F S244).bind (fun q248 => some ((5 : Int32), q248.2))))))))
    else
      (fX11_sign_253 F S x1))
set_option maxRecDepth 4000 in
theorem gX11_sign_201 {E : CT} (X : Cx E layM cX11_sign RX11 3 (some .int) 3) (F : Nat) (S : ST) (x1 : Int32) : G E (fX11_sign_201 F S x1) S 201 [(0, .ref (eA E 0)), (1, .int x1)] [] := by
  unfold fX11_sign_201
  refine r_iload_n X 1 rfl dX11_sign_201 ?_
  refine r_iconst (v := 3) X (by decide) dX11_sign_202 ?_
  refine r_icmp_eq (tgt := 253) X dX11_sign_203 (by decide) (fun _ => ?_) (fun _ => ?_)
  · exact gX11_sign_253 X F _ _
  · refine r_aload_n X 0 rfl dX11_sign_206 ?_
    refine r_getI X fk_X11_174 lm_0 rfl dX11_sign_207 ?_
    refine r_bipush (v := 41) X (by decide) dX11_sign_210 ?_
    refine r_icmp_ne (tgt := 253) X dX11_sign_212 (by decide) (fun _ => ?_) (fun _ => ?_)
    · exact gX11_sign_253 X F _ _
    · refine r_aload_n X 0 rfl dX11_sign_215 ?_
      refine r_callV X (mX11_isOpen _ _) mk_X11_isOpen lk_X11_222 lm_0 rfl rfl (by decide) (by decide) (Nat.le_of_ble_eq_true rfl) rfl dX11_sign_216 (fun q216 _ => ?_)
      refine r_if_eq (tgt := 253) X dX11_sign_219 (by decide) (fun _ => ?_) (fun _ => ?_)
      · exact gX11_sign_253 X F _ _
      · refine r_aload_n X 0 rfl dX11_sign_222 ?_
        refine r_iconst (v := 0) X (by decide) dX11_sign_223 ?_
        refine r_callVv X (mX11_settle _ _ _) mk_X11_settle lk_X11_232 lm_0 rfl rfl (by decide) (by decide) (Nat.le_of_ble_eq_true rfl) rfl dX11_sign_224 (fun q224 _ => ?_)
        refine r_aload_n X 0 rfl dX11_sign_227 ?_
        refine r_dup X rfl dX11_sign_228 ?_
        refine r_getI X fk_X11_209 lm_0 rfl dX11_sign_229 ?_
        refine r_iconst (v := 1) X (by decide) dX11_sign_232 ?_
        refine r_isub X dX11_sign_233 ?_
        refine r_putI X pk_X11_209 lm_0 rfl dX11_sign_234 ?_
        refine r_bindS (fun S234 => ?_)
        refine r_aload_n X 0 rfl dX11_sign_237 ?_
        refine r_dup X rfl dX11_sign_238 ?_
        refine r_getI X fk_X11_212 lm_0 rfl dX11_sign_239 ?_
        refine r_iconst (v := 1) X (by decide) dX11_sign_242 ?_
        refine r_isub X dX11_sign_243 ?_
        refine r_putI X pk_X11_212 lm_0 rfl dX11_sign_244 ?_
        refine r_bindS (fun S244 => ?_)
        refine r_aload_n X 0 rfl dX11_sign_247 ?_
        refine r_callVv X (mX11_next _ _) mk_X11_next lk_X11_206 lm_0 rfl rfl (by decide) (by decide) (Nat.le_of_ble_eq_true rfl) rfl dX11_sign_248 (fun q248 _ => ?_)
        refine r_iconst (v := 5) X (by decide) dX11_sign_251 ?_
        exact r_iret X dX11_sign_252
def fX11_sign_142 (F : Nat) (S : ST) (x1 : Int32) : Option (Int32 × ST) :=
  if x1 = (3 : Int32) then
    (fX11_sign_201 F S x1)
  else
    ((fX11_isWord F S (6385252 : Int64)).bind (fun q151 => if q151.1 = 0 then
      ((fX11_isWord F q151.2 (28530 : Int64)).bind (fun q161 => if q161.1 = 0 then
        (fX11_sign_201 F q161.2 x1)
      else
        (fX11_sign_167 F q161.2)))
    else
      (fX11_sign_167 F q151.2)))
set_option maxRecDepth 4000 in
theorem gX11_sign_142 {E : CT} (X : Cx E layM cX11_sign RX11 3 (some .int) 3) (F : Nat) (S : ST) (x1 : Int32) : G E (fX11_sign_142 F S x1) S 142 [(0, .ref (eA E 0)), (1, .int x1)] [] := by
  unfold fX11_sign_142
  refine r_iload_n X 1 rfl dX11_sign_142 ?_
  refine r_iconst (v := 3) X (by decide) dX11_sign_143 ?_
  refine r_icmp_eq (tgt := 201) X dX11_sign_144 (by decide) (fun _ => ?_) (fun _ => ?_)
  · exact gX11_sign_201 X F _ _
  · refine r_aload_n X 0 rfl dX11_sign_147 ?_
    refine r_ldc2 X kc_X11_251 dX11_sign_148 ?_
    refine r_callV X (mX11_isWord _ _ _) mk_X11_isWord lk_X11_241 lm_0 rfl rfl (by decide) (by decide) (Nat.le_of_ble_eq_true rfl) rfl dX11_sign_151 (fun q151 _ => ?_)
    refine r_if_ne (tgt := 167) X dX11_sign_154 (by decide) (fun _ => ?_) (fun _ => ?_)
    · refine r_sub [0] rfl ?_
      exact gX11_sign_167 X F _
    · refine r_aload_n X 0 rfl dX11_sign_157 ?_
      refine r_ldc2 X kc_X11_253 dX11_sign_158 ?_
      refine r_callV X (mX11_isWord _ _ _) mk_X11_isWord lk_X11_241 lm_0 rfl rfl (by decide) (by decide) (Nat.le_of_ble_eq_true rfl) rfl dX11_sign_161 (fun q161 _ => ?_)
      refine r_if_eq (tgt := 201) X dX11_sign_164 (by decide) (fun _ => ?_) (fun _ => ?_)
      · exact gX11_sign_201 X F _ _
      · refine r_sub [0] rfl ?_
        exact gX11_sign_167 X F _
def fX11_sign_64 (F : Nat) (S : ST) (x1 : Int32) : Option (Int32 × ST) :=
  if x1 = (3 : Int32) then
    (if (S.1 0 10) = (61 : Int32) then
      (fX11_sign_96 F S)
    else
      (if (S.1 0 10) = (60 : Int32) then
        (fX11_sign_96 F S)
      else
        (if (S.1 0 10) = (62 : Int32) then
          (fX11_sign_96 F S)
        else
          (fX11_sign_142 F S x1))))
  else
    (fX11_sign_142 F S x1)
set_option maxRecDepth 4000 in
theorem gX11_sign_64 {E : CT} (X : Cx E layM cX11_sign RX11 3 (some .int) 3) (F : Nat) (S : ST) (x1 : Int32) : G E (fX11_sign_64 F S x1) S 64 [(0, .ref (eA E 0)), (1, .int x1)] [] := by
  unfold fX11_sign_64
  refine r_iload_n X 1 rfl dX11_sign_64 ?_
  refine r_iconst (v := 3) X (by decide) dX11_sign_65 ?_
  refine r_icmp_ne (tgt := 142) X dX11_sign_66 (by decide) (fun _ => ?_) (fun _ => ?_)
  · exact gX11_sign_142 X F _ _
  · refine r_aload_n X 0 rfl dX11_sign_69 ?_
    refine r_getI X fk_X11_174 lm_0 rfl dX11_sign_70 ?_
    refine r_bipush (v := 61) X (by decide) dX11_sign_73 ?_
    refine r_icmp_eq (tgt := 96) X dX11_sign_75 (by decide) (fun _ => ?_) (fun _ => ?_)
    · refine r_sub [0] rfl ?_
      exact gX11_sign_96 X F _
    · refine r_aload_n X 0 rfl dX11_sign_78 ?_
      refine r_getI X fk_X11_174 lm_0 rfl dX11_sign_79 ?_
      refine r_bipush (v := 60) X (by decide) dX11_sign_82 ?_
      refine r_icmp_eq (tgt := 96) X dX11_sign_84 (by decide) (fun _ => ?_) (fun _ => ?_)
      · refine r_sub [0] rfl ?_
        exact gX11_sign_96 X F _
      · refine r_aload_n X 0 rfl dX11_sign_87 ?_
        refine r_getI X fk_X11_174 lm_0 rfl dX11_sign_88 ?_
        refine r_bipush (v := 62) X (by decide) dX11_sign_91 ?_
        refine r_icmp_ne (tgt := 142) X dX11_sign_93 (by decide) (fun _ => ?_) (fun _ => ?_)
        · exact gX11_sign_142 X F _ _
        · refine r_sub [0] rfl ?_
          exact gX11_sign_96 X F _
def fX11_sign (F : Nat) (S : ST) (x1 : Int32) : Option (Int32 × ST) :=
  if x1 = (5 : Int32) then
    (fX11_sign_64 F S x1)
  else
    (if (S.1 0 10) = (43 : Int32) then
      (fX11_sign_23 F S x1)
    else
      (if (S.1 0 10) = (45 : Int32) then
        (fX11_sign_23 F S x1)
      else
        (fX11_sign_64 F S x1)))
set_option maxRecDepth 4000 in
theorem gX11_sign {E : CT} (X : Cx E layM cX11_sign RX11 3 (some .int) 3) (F : Nat) (S : ST) (x1 : Int32) : G E (fX11_sign F S x1) S 0 [(0, .ref (eA E 0)), (1, .int x1)] [] := by
  unfold fX11_sign
  refine r_iload_n X 1 rfl dX11_sign_0 ?_
  refine r_iconst (v := 5) X (by decide) dX11_sign_1 ?_
  refine r_icmp_eq (tgt := 64) X dX11_sign_2 (by decide) (fun _ => ?_) (fun _ => ?_)
  · exact gX11_sign_64 X F _ _
  · refine r_aload_n X 0 rfl dX11_sign_5 ?_
    refine r_getI X fk_X11_174 lm_0 rfl dX11_sign_6 ?_
    refine r_bipush (v := 43) X (by decide) dX11_sign_9 ?_
    refine r_icmp_eq (tgt := 23) X dX11_sign_11 (by decide) (fun _ => ?_) (fun _ => ?_)
    · exact gX11_sign_23 X F _ _
    · refine r_aload_n X 0 rfl dX11_sign_14 ?_
      refine r_getI X fk_X11_174 lm_0 rfl dX11_sign_15 ?_
      refine r_bipush (v := 45) X (by decide) dX11_sign_18 ?_
      refine r_icmp_ne (tgt := 64) X dX11_sign_20 (by decide) (fun _ => ?_) (fun _ => ?_)
      · exact gX11_sign_64 X F _ _
      · exact gX11_sign_23 X F _ _
theorem mX11_sign (F : Nat) (S : ST) (x1 : Int32) : MetS yX11_sign cX11_sign 3 (some .int) 3 layM (fX11_sign F S x1) S (fun ad => [.ref (ad 0), .int x1]) := mk_met (fun ad => [(0, .ref (ad 0)), (1, .int x1)]) (by decide) (fun _ => Nat.le_of_ble_eq_true rfl) (fun _ => rfl) (fun E X => gX11_sign X F S x1)
