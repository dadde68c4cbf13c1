def fX7_keep (F : Nat) (S : ST) (x1 : Int32) : Option (Int32 × ST) :=
  if x1 < 0 then
    (some ((0 : Int32), S))
  else
    (if x1 ≤ (S.1 2 1) then
      (bindS (us S 2 1 x1) (fun S16 => some ((1 : Int32), S16)))
    else
      (some ((0 : Int32), S)))
set_option maxRecDepth 4000 in
theorem gX7_keep {E : CT} (X : Cx E layC cX7_keep RX7 2 (some .boolean) 0) (F : Nat) (S : ST) (x1 : Int32) : G E (fX7_keep F S x1) S 0 [(0, .ref (eA E 2)), (1, .int x1)] [] := by
  unfold fX7_keep
  refine r_iload_n X 1 rfl dX7_keep_0 ?_
  refine r_if_lt (tgt := 12) X dX7_keep_1 (by decide) (fun _ => ?_) (fun _ => ?_)
  · refine r_iconst (v := 0) X (by decide) dX7_keep_12 ?_
    exact r_zret X (by decide) dX7_keep_13
  · refine r_iload_n X 1 rfl dX7_keep_4 ?_
    refine r_aload_n X 0 rfl dX7_keep_5 ?_
    refine r_getI X fk_X7_15 lc_2 rfl dX7_keep_6 ?_
    refine r_icmp_le (tgt := 14) X dX7_keep_9 (by decide) (fun _ => ?_) (fun _ => ?_)
    · refine r_aload_n X 0 rfl dX7_keep_14 ?_
      refine r_iload_n X 1 rfl dX7_keep_15 ?_
      refine r_putI X pk_X7_15 lc_2 rfl dX7_keep_16 ?_
      refine r_bindS (fun S16 => ?_)
      refine r_iconst (v := 1) X (by decide) dX7_keep_19 ?_
      exact r_zret X (by decide) dX7_keep_20
    · refine r_iconst (v := 0) X (by decide) dX7_keep_12 ?_
      exact r_zret X (by decide) dX7_keep_13
theorem mX7_keep (F : Nat) (S : ST) (x1 : Int32) : MetS yX7_keep cX7_keep 2 (some .boolean) 0 layC (fX7_keep F S x1) S (fun ad => [.ref (ad 2), .int x1]) := mk_met (fun ad => [(0, .ref (ad 2)), (1, .int x1)]) (by decide) (fun _ => Nat.le_of_ble_eq_true rfl) (fun _ => rfl) (fun E X => gX7_keep X F S x1)
def fX7_append_3 (F : Nat) : Nat → ST → Int32 → Int32 → Option (Int32 × ST)
  | 0, _, _, _ => none
  | n + 1, S, x1, x2 =>
  if x2 < 0 then
    (some ((0 : Int32), S))
  else
    (if (600 : Int32) ≤ (S.1 2 1) then
      (some ((0 : Int32), S))
    else
      ((if vin (S.1 2 1) 600 = true then bindS (us S 13 (ix (S.1 2 1)) (((x1.toUInt32 >>> (x2.toUInt32 &&& Int32.toUInt32 31)).toInt32) &&& (255 : Int32))) (fun S34 => bindS (us S34 2 1 ((S34.1 2 1) + (1 : Int32))) (fun S42 => fX7_append_3 F n S42 x1 (x2 + (-8 : Int32)))) else none)))
set_option maxRecDepth 4000 in
theorem gX7_append_3 {E : CT} (X : Cx E layC cX7_append RX7 3 none 0) (F : Nat) : ∀ (n : Nat) (S : ST) (x1 : Int32) (x2 : Int32), G E (fX7_append_3 F n S x1 x2) S 3 [(0, .ref (eA E 2)), (1, .int x1), (2, .int x2)] []
  | 0, _, _, _ => r_none
  | n + 1, S, x1, x2 => by
    have ih := gX7_append_3 X F n
    unfold fX7_append_3
    refine r_iload_n X 2 rfl dX7_append_3 ?_
    refine r_if_lt (tgt := 51) X dX7_append_4 (by decide) (fun _ => ?_) (fun _ => ?_)
    · exact r_vret X dX7_append_51
    · refine r_aload_n X 0 rfl dX7_append_7 ?_
      refine r_getI X fk_X7_15 lc_2 rfl dX7_append_8 ?_
      refine r_aload_n X 0 rfl dX7_append_11 ?_
      refine r_getR X fk_X7_11 lc_2 rfl dX7_append_12 ?_
      refine r_alen (v := 600) X lc_13 (by decide) dX7_append_15 ?_
      refine r_icmp_ge (tgt := 51) X dX7_append_16 (by decide) (fun _ => ?_) (fun _ => ?_)
      · exact r_vret X dX7_append_51
      · refine r_aload_n X 0 rfl dX7_append_19 ?_
        refine r_getR X fk_X7_11 lc_2 rfl dX7_append_20 ?_
        refine r_aload_n X 0 rfl dX7_append_23 ?_
        refine r_getI X fk_X7_15 lc_2 rfl dX7_append_24 ?_
        refine r_iload_n X 1 rfl dX7_append_27 ?_
        refine r_iload_n X 2 rfl dX7_append_28 ?_
        refine r_iushr X dX7_append_29 ?_
        refine r_sipush (v := 255) X (by decide) dX7_append_30 ?_
        refine r_iand X dX7_append_33 ?_
        refine r_iast X lc_13 dX7_append_34 (fun _ => ?_)
        refine r_bindS (fun S34 => ?_)
        refine r_aload_n X 0 rfl dX7_append_35 ?_
        refine r_dup X rfl dX7_append_36 ?_
        refine r_getI X fk_X7_15 lc_2 rfl dX7_append_37 ?_
        refine r_iconst (v := 1) X (by decide) dX7_append_40 ?_
        refine r_iadd X dX7_append_41 ?_
        refine r_putI X pk_X7_15 lc_2 rfl dX7_append_42 ?_
        refine r_bindS (fun S42 => ?_)
        refine r_iinc (lv' := [(0, _), (1, _), (2, _)]) (dl := -8) X 2 rfl (by decide) (by decide) rfl dX7_append_45 ?_
        refine r_goto (tgt := 3) X dX7_append_48 (by decide) ?_
        exact ih _ _ _
def fX7_append (F : Nat) (S : ST) (x1 : Int32) : Option (Int32 × ST) :=
  fX7_append_3 F F S x1 (24 : Int32)
set_option maxRecDepth 4000 in
theorem gX7_append {E : CT} (X : Cx E layC cX7_append RX7 3 none 0) (F : Nat) (S : ST) (x1 : Int32) : G E (fX7_append F S x1) S 0 [(0, .ref (eA E 2)), (1, .int x1)] [] := by
  unfold fX7_append
  refine r_bipush (v := 24) X (by decide) dX7_append_0 ?_
  refine r_istore_n (lv' := [(0, _), (1, _), (2, _)]) X (by decide) rfl dX7_append_2 ?_
  exact gX7_append_3 X F F _ _ _
theorem mX7_append (F : Nat) (S : ST) (x1 : Int32) : MetS yX7_append cX7_append 3 none 0 layC (fX7_append F S x1) S (fun ad => [.ref (ad 2), .int x1]) := mk_met (fun ad => [(0, .ref (ad 2)), (1, .int x1)]) (by decide) (fun _ => Nat.le_of_ble_eq_true rfl) (fun _ => rfl) (fun E X => gX7_append X F S x1)
def fX7_hasRoomForFeed (F : Nat) (S : ST) : Option (Int32 × ST) :=
  if (600 : Int32) < ((S.1 2 1) + (20 : Int32)) then
    (some ((0 : Int32), S))
  else
    (some ((1 : Int32), S))
set_option maxRecDepth 4000 in
theorem gX7_hasRoomForFeed {E : CT} (X : Cx E layC cX7_hasRoomForFeed RX7 1 (some .boolean) 0) (F : Nat) (S : ST) : G E (fX7_hasRoomForFeed F S) S 0 [(0, .ref (eA E 2))] [] := by
  unfold fX7_hasRoomForFeed
  refine r_aload_n X 0 rfl dX7_hasRoomForFeed_0 ?_
  refine r_getI X fk_X7_15 lc_2 rfl dX7_hasRoomForFeed_1 ?_
  refine r_bipush (v := 20) X (by decide) dX7_hasRoomForFeed_4 ?_
  refine r_iadd X dX7_hasRoomForFeed_6 ?_
  refine r_aload_n X 0 rfl dX7_hasRoomForFeed_7 ?_
  refine r_getR X fk_X7_11 lc_2 rfl dX7_hasRoomForFeed_8 ?_
  refine r_alen (v := 600) X lc_13 (by decide) dX7_hasRoomForFeed_11 ?_
  refine r_icmp_gt (tgt := 19) X dX7_hasRoomForFeed_12 (by decide) (fun _ => ?_) (fun _ => ?_)
  · refine r_iconst (v := 0) X (by decide) dX7_hasRoomForFeed_19 ?_
    exact r_zret X (by decide) dX7_hasRoomForFeed_20
  · refine r_iconst (v := 1) X (by decide) dX7_hasRoomForFeed_15 ?_
    refine r_goto (tgt := 20) X dX7_hasRoomForFeed_16 (by decide) ?_
    exact r_zret X (by decide) dX7_hasRoomForFeed_20
theorem mX7_hasRoomForFeed (F : Nat) (S : ST) : MetS yX7_hasRoomForFeed cX7_hasRoomForFeed 1 (some .boolean) 0 layC (fX7_hasRoomForFeed F S) S (fun ad => [.ref (ad 2)]) := mk_met (fun ad => [(0, .ref (ad 2))]) (by decide) (fun _ => Nat.le_of_ble_eq_true rfl) (fun _ => rfl) (fun E X => gX7_hasRoomForFeed X F S)
def fX7_byteAt_30 (F : Nat) (S : ST) : Option (Int32 × ST) :=
  some ((-1 : Int32), S)
set_option maxRecDepth 4000 in
theorem gX7_byteAt_30 {E : CT} (X : Cx E layC cX7_byteAt RX7 2 (some .int) 0) (F : Nat) (S : ST) : G E (fX7_byteAt_30 F S) S 30 [] [] := by
  unfold fX7_byteAt_30
  refine r_iconst (v := -1) X (by decide) dX7_byteAt_30 ?_
  exact r_iret X dX7_byteAt_31
def fX7_byteAt (F : Nat) (S : ST) (x1 : Int32) : Option (Int32 × ST) :=
  if x1 < 0 then
    (fX7_byteAt_30 F S)
  else
    (if (S.1 2 1) ≤ x1 then
      (fX7_byteAt_30 F S)
    else
      (if (600 : Int32) ≤ x1 then
        (fX7_byteAt_30 F S)
      else
        ((if vin x1 600 = true then some ((S.1 13 (ix x1)), S) else none))))
set_option maxRecDepth 4000 in
theorem gX7_byteAt {E : CT} (X : Cx E layC cX7_byteAt RX7 2 (some .int) 0) (F : Nat) (S : ST) (x1 : Int32) : G E (fX7_byteAt F S x1) S 0 [(0, .ref (eA E 2)), (1, .int x1)] [] := by
  unfold fX7_byteAt
  refine r_iload_n X 1 rfl dX7_byteAt_0 ?_
  refine r_if_lt (tgt := 30) X dX7_byteAt_1 (by decide) (fun _ => ?_) (fun _ => ?_)
  · refine r_sub [] rfl ?_
    exact gX7_byteAt_30 X F _
  · refine r_iload_n X 1 rfl dX7_byteAt_4 ?_
    refine r_aload_n X 0 rfl dX7_byteAt_5 ?_
    refine r_getI X fk_X7_15 lc_2 rfl dX7_byteAt_6 ?_
    refine r_icmp_ge (tgt := 30) X dX7_byteAt_9 (by decide) (fun _ => ?_) (fun _ => ?_)
    · refine r_sub [] rfl ?_
      exact gX7_byteAt_30 X F _
    · refine r_iload_n X 1 rfl dX7_byteAt_12 ?_
      refine r_aload_n X 0 rfl dX7_byteAt_13 ?_
      refine r_getR X fk_X7_11 lc_2 rfl dX7_byteAt_14 ?_
      refine r_alen (v := 600) X lc_13 (by decide) dX7_byteAt_17 ?_
      refine r_icmp_ge (tgt := 30) X dX7_byteAt_18 (by decide) (fun _ => ?_) (fun _ => ?_)
      · refine r_sub [] rfl ?_
        exact gX7_byteAt_30 X F _
      · refine r_aload_n X 0 rfl dX7_byteAt_21 ?_
        refine r_getR X fk_X7_11 lc_2 rfl dX7_byteAt_22 ?_
        refine r_iload_n X 1 rfl dX7_byteAt_25 ?_
        refine r_iald X lc_13 dX7_byteAt_26 (fun _ => ?_)
        refine r_goto (tgt := 31) X dX7_byteAt_27 (by decide) ?_
        exact r_iret X dX7_byteAt_31
theorem mX7_byteAt (F : Nat) (S : ST) (x1 : Int32) : MetS yX7_byteAt cX7_byteAt 2 (some .int) 0 layC (fX7_byteAt F S x1) S (fun ad => [.ref (ad 2), .int x1]) := mk_met (fun ad => [(0, .ref (ad 2)), (1, .int x1)]) (by decide) (fun _ => Nat.le_of_ble_eq_true rfl) (fun _ => rfl) (fun E X => gX7_byteAt X F S x1)
