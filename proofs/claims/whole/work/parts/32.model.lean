def fX11_readE_83 (F : Nat) (k14 : ST → Int32 → Int32 → Option (Int32 × ST)) (S : ST) (x1 : Int32) (x2 : Int32) : Option (Int32 × ST) :=
  (fX11_sign F S x1).bind (fun q85 => k14 q85.2 q85.1 x2)
set_option maxRecDepth 4000 in
theorem gX11_readE_83 {E : CT} (X : Cx E layM cX11_readE RX11 4 none 4) (F : Nat) (k14 : ST → Int32 → Int32 → Option (Int32 × ST)) (h14 : ∀ (S : ST) (x1 : Int32) (x2 : Int32), G E (k14 S x1 x2) S 14 [(0, .ref (eA E 0)), (1, .int x1), (2, .int x2)] []) (S : ST) (x1 : Int32) (x2 : Int32) : G E (fX11_readE_83 F k14 S x1 x2) S 83 [(0, .ref (eA E 0)), (1, .int x1), (2, .int x2)] [] := by
  unfold fX11_readE_83
  refine r_aload_n X 0 rfl dX11_readE_83 ?_
  refine r_iload_n X 1 rfl dX11_readE_84 ?_
  refine r_callV X (mX11_sign _ _ _) mk_X11_sign lk_X11_226 lm_0 rfl rfl (by decide) (by decide) (Nat.le_of_ble_eq_true rfl) rfl dX11_readE_85 (fun q85 _ => ?_)
  refine r_goto (tgt := 96) X dX11_readE_88 (by decide) ?_
  refine r_istore_n (lv' := [(0, _), (1, _), (2, _)]) X (by decide) rfl dX11_readE_96 ?_
  refine r_goto (tgt := 14) X dX11_readE_97 (by decide) ?_
  exact h14 _ _ _
def fX11_readE_66 (F : Nat) (k14 : ST → Int32 → Int32 → Option (Int32 × ST)) (S : ST) (x1 : Int32) (x3 : Int32) (s0 : Int32) : Option (Int32 × ST) :=
  if s0 = 0 then
    (k14 S x1 s0)
  else
    (if x1 = (3 : Int32) then
      (fX11_readE_83 F k14 S x1 s0)
    else
      (if x3 = 0 then
        ((fX11_operand F S x1).bind (fun q93 => k14 q93.2 q93.1 s0))
      else
        (fX11_readE_83 F k14 S x1 s0)))
set_option maxRecDepth 4000 in
theorem gX11_readE_66 {E : CT} (X : Cx E layM cX11_readE RX11 4 none 4) (F : Nat) (k14 : ST → Int32 → Int32 → Option (Int32 × ST)) (h14 : ∀ (S : ST) (x1 : Int32) (x2 : Int32), G E (k14 S x1 x2) S 14 [(0, .ref (eA E 0)), (1, .int x1), (2, .int x2)] []) (S : ST) (x1 : Int32) (x3 : Int32) (s0 : Int32) : G E (fX11_readE_66 F k14 S x1 x3 s0) S 66 [(0, .ref (eA E 0)), (1, .int x1), (3, .int x3)] [.int s0] := by
  unfold fX11_readE_66
  refine r_istore_n (lv' := [(0, _), (1, _), (2, _), (3, _)]) X (by decide) rfl dX11_readE_66 ?_
  refine r_iload_n X 2 rfl dX11_readE_67 ?_
  refine r_if_ne (tgt := 74) X dX11_readE_68 (by decide) (fun _ => ?_) (fun _ => ?_)
  · refine r_iload_n X 1 rfl dX11_readE_74 ?_
    refine r_iconst (v := 3) X (by decide) dX11_readE_75 ?_
    refine r_icmp_eq (tgt := 83) X dX11_readE_76 (by decide) (fun _ => ?_) (fun _ => ?_)
    · refine r_sub [0, 1, 2] rfl ?_
      exact gX11_readE_83 X F _ h14 _ _ _
    · refine r_iload_n X 3 rfl dX11_readE_79 ?_
      refine r_if_eq (tgt := 91) X dX11_readE_80 (by decide) (fun _ => ?_) (fun _ => ?_)
      · refine r_aload_n X 0 rfl dX11_readE_91 ?_
        refine r_iload_n X 1 rfl dX11_readE_92 ?_
        refine r_callV X (mX11_operand _ _ _) mk_X11_operand lk_X11_229 lm_0 rfl rfl (by decide) (by decide) (Nat.le_of_ble_eq_true rfl) rfl dX11_readE_93 (fun q93 _ => ?_)
        refine r_istore_n (lv' := [(0, _), (1, _), (2, _), (3, _)]) X (by decide) rfl dX11_readE_96 ?_
        refine r_goto (tgt := 14) X dX11_readE_97 (by decide) ?_
        refine r_sub [0, 1, 2] rfl ?_
        exact h14 _ _ _
      · refine r_sub [0, 1, 2] rfl ?_
        exact gX11_readE_83 X F _ h14 _ _ _
  · refine r_goto (tgt := 14) X dX11_readE_71 (by decide) ?_
    refine r_sub [0, 1, 2] rfl ?_
    exact h14 _ _ _
def fX11_readE_40 (F : Nat) (k14 : ST → Int32 → Int32 → Option (Int32 × ST)) (S : ST) (x1 : Int32) (s0 : Int32) : Option (Int32 × ST) :=
  if s0 = 0 then
    (fX11_readE_66 F k14 S x1 s0 (1 : Int32))
  else
    (if (S.1 0 10) = (59 : Int32) then
      ((fX11_isOpen F S).bind (fun q55 => if q55.1 = 0 then
        (fX11_readE_66 F k14 q55.2 x1 s0 (0 : Int32))
      else
        (fX11_readE_66 F k14 q55.2 x1 s0 (1 : Int32))))
    else
      (fX11_readE_66 F k14 S x1 s0 (1 : Int32)))
set_option maxRecDepth 4000 in
theorem gX11_readE_40 {E : CT} (X : Cx E layM cX11_readE RX11 4 none 4) (F : Nat) (k14 : ST → Int32 → Int32 → Option (Int32 × ST)) (h14 : ∀ (S : ST) (x1 : Int32) (x2 : Int32), G E (k14 S x1 x2) S 14 [(0, .ref (eA E 0)), (1, .int x1), (2, .int x2)] []) (S : ST) (x1 : Int32) (s0 : Int32) : G E (fX11_readE_40 F k14 S x1 s0) S 40 [(0, .ref (eA E 0)), (1, .int x1)] [.int s0] := by
  unfold fX11_readE_40
  refine r_istore_n (lv' := [(0, _), (1, _), (3, _)]) X (by decide) rfl dX11_readE_40 ?_
  refine r_iload_n X 2 rfl dX11_readE_41 ?_
  refine r_if_eq (tgt := 61) X dX11_readE_42 (by decide) (fun _ => ?_) (fun _ => ?_)
  · refine r_iconst (v := 1) X (by decide) dX11_readE_61 ?_
    refine r_goto (tgt := 66) X dX11_readE_62 (by decide) ?_
    exact gX11_readE_66 X F _ h14 _ _ _ _
  · refine r_aload_n X 0 rfl dX11_readE_45 ?_
    refine r_getI X fk_X11_174 lm_0 rfl dX11_readE_46 ?_
    refine r_bipush (v := 59) X (by decide) dX11_readE_49 ?_
    refine r_icmp_ne (tgt := 61) X dX11_readE_51 (by decide) (fun _ => ?_) (fun _ => ?_)
    · refine r_iconst (v := 1) X (by decide) dX11_readE_61 ?_
      refine r_goto (tgt := 66) X dX11_readE_62 (by decide) ?_
      exact gX11_readE_66 X F _ h14 _ _ _ _
    · refine r_aload_n X 0 rfl dX11_readE_54 ?_
      refine r_callV X (mX11_isOpen _ _) mk_X11_isOpen lk_X11_222 lm_0 rfl rfl (by decide) (by decide) (Nat.le_of_ble_eq_true rfl) rfl dX11_readE_55 (fun q55 _ => ?_)
      refine r_if_eq (tgt := 65) X dX11_readE_58 (by decide) (fun _ => ?_) (fun _ => ?_)
      · refine r_iconst (v := 0) X (by decide) dX11_readE_65 ?_
        exact gX11_readE_66 X F _ h14 _ _ _ _
      · refine r_iconst (v := 1) X (by decide) dX11_readE_61 ?_
        refine r_goto (tgt := 66) X dX11_readE_62 (by decide) ?_
        exact gX11_readE_66 X F _ h14 _ _ _ _
def fX11_readE_100 (F : Nat) (S : ST) : Option (Int32 × ST) :=
  if (S.1 0 6) = 0 then
    ((fX11_settle F S (0 : Int32)).bind (fun q109 => some ((0 : Int32), q109.2)))
  else
    (some ((0 : Int32), S))
set_option maxRecDepth 4000 in
theorem gX11_readE_100 {E : CT} (X : Cx E layM cX11_readE RX11 4 none 4) (F : Nat) (S : ST) : G E (fX11_readE_100 F S) S 100 [(0, .ref (eA E 0))] [] := by
  unfold fX11_readE_100
  refine r_aload_n X 0 rfl dX11_readE_100 ?_
  refine r_getI X fk_X11_187 lm_0 rfl dX11_readE_101 ?_
  refine r_if_ne (tgt := 112) X dX11_readE_104 (by decide) (fun _ => ?_) (fun _ => ?_)
  · exact r_vret X dX11_readE_112
  · refine r_aload_n X 0 rfl dX11_readE_107 ?_
    refine r_iconst (v := 0) X (by decide) dX11_readE_108 ?_
    refine r_callVv X (mX11_settle _ _ _) mk_X11_settle lk_X11_232 lm_0 rfl rfl (by decide) (by decide) (Nat.le_of_ble_eq_true rfl) rfl dX11_readE_109 (fun q109 _ => ?_)
    exact r_vret X dX11_readE_112
def fX11_readE_14 (F : Nat) : Nat → ST → Int32 → Int32 → Option (Int32 × ST)
  | 0, _, _, _ => none
  | n + 1, S, x1, x2 =>
  if (S.1 0 6) = 0 then
    (if x2 = 0 then
      (fX11_readE_100 F S)
    else
      (if x1 = (4 : Int32) then
        (fX11_readE_40 F (fX11_readE_14 F n) S x1 (1 : Int32))
      else
        (if x1 = (5 : Int32) then
          (fX11_readE_40 F (fX11_readE_14 F n) S x1 (1 : Int32))
        else
          (fX11_readE_40 F (fX11_readE_14 F n) S x1 (0 : Int32)))))
  else
    (fX11_readE_100 F S)
set_option maxRecDepth 4000 in
theorem gX11_readE_14 {E : CT} (X : Cx E layM cX11_readE RX11 4 none 4) (F : Nat) : ∀ (n : Nat) (S : ST) (x1 : Int32) (x2 : Int32), G E (fX11_readE_14 F n S x1 x2) S 14 [(0, .ref (eA E 0)), (1, .int x1), (2, .int x2)] []
  | 0, _, _, _ => r_none
  | n + 1, S, x1, x2 => by
    have ih := gX11_readE_14 X F n
    unfold fX11_readE_14
    refine r_aload_n X 0 rfl dX11_readE_14 ?_
    refine r_getI X fk_X11_187 lm_0 rfl dX11_readE_15 ?_
    refine r_if_ne (tgt := 100) X dX11_readE_18 (by decide) (fun _ => ?_) (fun _ => ?_)
    · refine r_sub [0] rfl ?_
      exact gX11_readE_100 X F _
    · refine r_iload_n X 2 rfl dX11_readE_21 ?_
      refine r_if_eq (tgt := 100) X dX11_readE_22 (by decide) (fun _ => ?_) (fun _ => ?_)
      · refine r_sub [0] rfl ?_
        exact gX11_readE_100 X F _
      · refine r_iload_n X 1 rfl dX11_readE_25 ?_
        refine r_iconst (v := 4) X (by decide) dX11_readE_26 ?_
        refine r_icmp_eq (tgt := 35) X dX11_readE_27 (by decide) (fun _ => ?_) (fun _ => ?_)
        · refine r_iconst (v := 1) X (by decide) dX11_readE_35 ?_
          refine r_goto (tgt := 40) X dX11_readE_36 (by decide) ?_
          refine r_sub [0, 1] rfl ?_
          exact gX11_readE_40 X F _ ih _ _ _
        · refine r_iload_n X 1 rfl dX11_readE_30 ?_
          refine r_iconst (v := 5) X (by decide) dX11_readE_31 ?_
          refine r_icmp_ne (tgt := 39) X dX11_readE_32 (by decide) (fun _ => ?_) (fun _ => ?_)
          · refine r_iconst (v := 0) X (by decide) dX11_readE_39 ?_
            refine r_sub [0, 1] rfl ?_
            exact gX11_readE_40 X F _ ih _ _ _
          · refine r_iconst (v := 1) X (by decide) dX11_readE_35 ?_
            refine r_goto (tgt := 40) X dX11_readE_36 (by decide) ?_
            refine r_sub [0, 1] rfl ?_
            exact gX11_readE_40 X F _ ih _ _ _
def fX11_readE (F : Nat) (S : ST) : Option (Int32 × ST) :=
  bindS (us S 0 29 (0 : Int32)) (fun S2 => bindS (us S2 0 30 (0 : Int32)) (fun S7 => fX11_readE_14 F F S7 (0 : Int32) (1 : Int32)))
set_option maxRecDepth 4000 in
theorem gX11_readE {E : CT} (X : Cx E layM cX11_readE RX11 4 none 4) (F : Nat) (S : ST) : G E (fX11_readE F S) S 0 [(0, .ref (eA E 0))] [] := by
  unfold fX11_readE
  refine r_aload_n X 0 rfl dX11_readE_0 ?_
  refine r_iconst (v := 0) X (by decide) dX11_readE_1 ?_
  refine r_putI X pk_X11_209 lm_0 rfl dX11_readE_2 ?_
  refine r_bindS (fun S2 => ?_)
  refine r_aload_n X 0 rfl dX11_readE_5 ?_
  refine r_iconst (v := 0) X (by decide) dX11_readE_6 ?_
  refine r_putI X pk_X11_212 lm_0 rfl dX11_readE_7 ?_
  refine r_bindS (fun S7 => ?_)
  refine r_iconst (v := 0) X (by decide) dX11_readE_10 ?_
  refine r_istore_n (lv' := [(0, _), (1, _)]) X (by decide) rfl dX11_readE_11 ?_
  refine r_iconst (v := 1) X (by decide) dX11_readE_12 ?_
  refine r_istore_n (lv' := [(0, _), (1, _), (2, _)]) X (by decide) rfl dX11_readE_13 ?_
  exact gX11_readE_14 X F F _ _ _
theorem mX11_readE (F : Nat) (S : ST) : MetS yX11_readE cX11_readE 4 none 4 layM (fX11_readE F S) S (fun ad => [.ref (ad 0)]) := mk_met (fun ad => [(0, .ref (ad 0))]) (by decide) (fun _ => Nat.le_of_ble_eq_true rfl) (fun _ => rfl) (fun E X => gX11_readE X F S)
def fX11_told_37 (F : Nat) (S : ST) : Option (Int32 × ST) :=
  bindI ((S.1 0 12)) (fun v41 => if (S.1 0 6) = 0 then
    ((fX11_next F S).bind (fun q50 => some (v41, q50.2)))
  else
    (some (v41, S)))
set_option maxRecDepth 4000 in
theorem gX11_told_37 {E : CT} (X : Cx E layM cX11_told RX11 4 (some .int) 2) (F : Nat) (S : ST) : G E (fX11_told_37 F S) S 37 [(0, .ref (eA E 0))] [] := by
  unfold fX11_told_37
  refine r_aload_n X 0 rfl dX11_told_37 ?_
  refine r_getI X fk_X11_171 lm_0 rfl dX11_told_38 ?_
  refine r_bindI (fun v41 => ?_)
  refine r_istore_n (lv' := [(0, _), (3, _)]) X (by decide) rfl dX11_told_41 ?_
  refine r_aload_n X 0 rfl dX11_told_42 ?_
  refine r_getI X fk_X11_187 lm_0 rfl dX11_told_43 ?_
  refine r_if_ne (tgt := 53) X dX11_told_46 (by decide) (fun _ => ?_) (fun _ => ?_)
  · refine r_iload_n X 1 rfl dX11_told_53 ?_
    exact r_iret X dX11_told_54
  · refine r_aload_n X 0 rfl dX11_told_49 ?_
    refine r_callVv X (mX11_next _ _) mk_X11_next lk_X11_206 lm_0 rfl rfl (by decide) (by decide) (Nat.le_of_ble_eq_true rfl) rfl dX11_told_50 (fun q50 _ => ?_)
    refine r_iload_n X 1 rfl dX11_told_53 ?_
    exact r_iret X dX11_told_54
def fX11_told_32 (F : Nat) (S : ST) : Option (Int32 × ST) :=
  (fX11_wrong F S (3 : Int32)).bind (fun q34 => fX11_told_37 F q34.2)
set_option maxRecDepth 4000 in
theorem gX11_told_32 {E : CT} (X : Cx E layM cX11_told RX11 4 (some .int) 2) (F : Nat) (S : ST) : G E (fX11_told_32 F S) S 32 [(0, .ref (eA E 0))] [] := by
  unfold fX11_told_32
  refine r_aload_n X 0 rfl dX11_told_32 ?_
  refine r_iconst (v := 3) X (by decide) dX11_told_33 ?_
  refine r_callVv X (mX11_wrong _ _ _) mk_X11_wrong lk_X11_203 lm_0 rfl rfl (by decide) (by decide) (Nat.le_of_ble_eq_true rfl) rfl dX11_told_34 (fun q34 _ => ?_)
  exact gX11_told_37 X F _
def fX11_told (F : Nat) (S : ST) (x1 : Int32) (x2 : Int32) : Option (Int32 × ST) :=
  if (S.1 0 10) = (2 : Int32) then
    (if (S.1 0 12) < x1 then
      (fX11_told_32 F S)
    else
      (if (S.1 0 12) ≤ x2 then
        (fX11_told_37 F S)
      else
        (fX11_told_32 F S)))
  else
    ((fX11_wrong F S (2 : Int32)).bind (fun q10 => fX11_told_37 F q10.2))
set_option maxRecDepth 4000 in
theorem gX11_told {E : CT} (X : Cx E layM cX11_told RX11 4 (some .int) 2) (F : Nat) (S : ST) (x1 : Int32) (x2 : Int32) : G E (fX11_told F S x1 x2) S 0 [(0, .ref (eA E 0)), (1, .int x1), (2, .int x2)] [] := by
  unfold fX11_told
  refine r_aload_n X 0 rfl dX11_told_0 ?_
  refine r_getI X fk_X11_174 lm_0 rfl dX11_told_1 ?_
  refine r_iconst (v := 2) X (by decide) dX11_told_4 ?_
  refine r_icmp_eq (tgt := 16) X dX11_told_5 (by decide) (fun _ => ?_) (fun _ => ?_)
  · refine r_aload_n X 0 rfl dX11_told_16 ?_
    refine r_getI X fk_X11_171 lm_0 rfl dX11_told_17 ?_
    refine r_iload_n X 1 rfl dX11_told_20 ?_
    refine r_icmp_lt (tgt := 32) X dX11_told_21 (by decide) (fun _ => ?_) (fun _ => ?_)
    · refine r_sub [0] rfl ?_
      exact gX11_told_32 X F _
    · refine r_aload_n X 0 rfl dX11_told_24 ?_
      refine r_getI X fk_X11_171 lm_0 rfl dX11_told_25 ?_
      refine r_iload_n X 2 rfl dX11_told_28 ?_
      refine r_icmp_le (tgt := 37) X dX11_told_29 (by decide) (fun _ => ?_) (fun _ => ?_)
      · refine r_sub [0] rfl ?_
        exact gX11_told_37 X F _
      · refine r_sub [0] rfl ?_
        exact gX11_told_32 X F _
  · refine r_aload_n X 0 rfl dX11_told_8 ?_
    refine r_iconst (v := 2) X (by decide) dX11_told_9 ?_
    refine r_callVv X (mX11_wrong _ _ _) mk_X11_wrong lk_X11_203 lm_0 rfl rfl (by decide) (by decide) (Nat.le_of_ble_eq_true rfl) rfl dX11_told_10 (fun q10 _ => ?_)
    refine r_goto (tgt := 37) X dX11_told_13 (by decide) ?_
    refine r_sub [0] rfl ?_
    exact gX11_told_37 X F _
theorem mX11_told (F : Nat) (S : ST) (x1 : Int32) (x2 : Int32) : MetS yX11_told cX11_told 4 (some .int) 2 layM (fX11_told F S x1 x2) S (fun ad => [.ref (ad 0), .int x1, .int x2]) := mk_met (fun ad => [(0, .ref (ad 0)), (1, .int x1), (2, .int x2)]) (by decide) (fun _ => Nat.le_of_ble_eq_true rfl) (fun _ => rfl) (fun E X => gX11_told X F S x1 x2)
def fX11_grades_207 (F : Nat) (k23 : ST → Option (Int32 × ST)) (S : ST) : Option (Int32 × ST) :=
  if (S.1 0 6) ≤ 0 then
    ((fX11_next F S).bind (fun q217 => bindS (us q217.2 0 20 ((q217.2.1 0 20) + (1 : Int32))) (fun S227 => k23 S227)))
  else
    (some ((-1 : Int32), S))
set_option maxRecDepth 4000 in
theorem gX11_grades_207 {E : CT} (X : Cx E layM cX11_grades RX11 3 (some .int) 5) (F : Nat) (k23 : ST → Option (Int32 × ST)) (h23 : ∀ (S : ST), G E (k23 S) S 23 [(0, .ref (eA E 0))] []) (S : ST) : G E (fX11_grades_207 F k23 S) S 207 [(0, .ref (eA E 0))] [] := by
  unfold fX11_grades_207
  refine r_aload_n X 0 rfl dX11_grades_207 ?_
  refine r_getI X fk_X11_187 lm_0 rfl dX11_grades_208 ?_
  refine r_if_le (tgt := 216) X dX11_grades_211 (by decide) (fun _ => ?_) (fun _ => ?_)
  · refine r_aload_n X 0 rfl dX11_grades_216 ?_
    refine r_callVv X (mX11_next _ _) mk_X11_next lk_X11_206 lm_0 rfl rfl (by decide) (by decide) (Nat.le_of_ble_eq_true rfl) rfl dX11_grades_217 (fun q217 _ => ?_)
    refine r_aload_n X 0 rfl dX11_grades_220 ?_
    refine r_dup X rfl dX11_grades_221 ?_
    refine r_getI X fk_X11_262 lm_0 rfl dX11_grades_222 ?_
    refine r_iconst (v := 1) X (by decide) dX11_grades_225 ?_
    refine r_iadd X dX11_grades_226 ?_
    refine r_putI X pk_X11_262 lm_0 rfl dX11_grades_227 ?_
    refine r_bindS (fun S227 => ?_)
    refine r_goto (tgt := 23) X dX11_grades_230 (by decide) ?_
    exact h23 _
  · refine r_iconst (v := -1) X (by decide) dX11_grades_214 ?_
    exact r_iret X dX11_grades_215
def fX11_grades_186 (F : Nat) (k23 : ST → Option (Int32 × ST)) (S : ST) : Option (Int32 × ST) :=
  if (S.1 0 6) = 0 then
    (if (S.1 0 10) = (59 : Int32) then
      (fX11_grades_207 F k23 S)
    else
      ((fX11_wrong F S (2 : Int32)).bind (fun q204 => fX11_grades_207 F k23 q204.2)))
  else
    (fX11_grades_207 F k23 S)
set_option maxRecDepth 4000 in
theorem gX11_grades_186 {E : CT} (X : Cx E layM cX11_grades RX11 3 (some .int) 5) (F : Nat) (k23 : ST → Option (Int32 × ST)) (h23 : ∀ (S : ST), G E (k23 S) S 23 [(0, .ref (eA E 0))] []) (S : ST) : G E (fX11_grades_186 F k23 S) S 186 [(0, .ref (eA E 0))] [] := by
  unfold fX11_grades_186
  refine r_aload_n X 0 rfl dX11_grades_186 ?_
  refine r_getI X fk_X11_187 lm_0 rfl dX11_grades_187 ?_
  refine r_if_ne (tgt := 207) X dX11_grades_190 (by decide) (fun _ => ?_) (fun _ => ?_)
  · exact gX11_grades_207 X F _ h23 _
  · refine r_aload_n X 0 rfl dX11_grades_193 ?_
    refine r_getI X fk_X11_174 lm_0 rfl dX11_grades_194 ?_
    refine r_bipush (v := 59) X (by decide) dX11_grades_197 ?_
    refine r_icmp_eq (tgt := 207) X dX11_grades_199 (by decide) (fun _ => ?_) (fun _ => ?_)
    · exact gX11_grades_207 X F _ h23 _
    · refine r_aload_n X 0 rfl dX11_grades_202 ?_
      refine r_iconst (v := 2) X (by decide) dX11_grades_203 ?_
      refine r_callVv X (mX11_wrong _ _ _) mk_X11_wrong lk_X11_203 lm_0 rfl rfl (by decide) (by decide) (Nat.le_of_ble_eq_true rfl) rfl dX11_grades_204 (fun q204 _ => ?_)
      exact gX11_grades_207 X F _ h23 _
def fX11_grades_104 (F : Nat) (k23 : ST → Option (Int32 × ST)) (S : ST) (x1 : Int32) : Option (Int32 × ST) :=
  if (S.1 0 6) ≤ 0 then
    ((fX11_next F S).bind (fun q114 => (fX11_told F q114.2 (1 : Int32) (9999 : Int32)).bind (fun q122 => if (q122.2.1 0 6) ≤ 0 then
      ((if vin (q122.2.1 0 20) 8 = true then bindS (us q122.2 8 (ix (q122.2.1 0 20)) x1) (fun S144 => (if vin (S144.1 0 20) 8 = true then bindS (us S144 9 (ix (S144.1 0 20)) q122.1) (fun S154 => (if vin (S154.1 0 20) 9 = true then bindS (us S154 12 (ix (S154.1 0 20)) (S154.1 0 21)) (fun S167 => (fX11_isWord F S167 (2003330414 : Int64)).bind (fun q172 => if q172.1 = 0 then
        (fX11_grades_186 F k23 q172.2)
      else
        ((fX11_next F q172.2).bind (fun q179 => (fX11_readE F q179.2).bind (fun q183 => fX11_grades_186 F k23 q183.2))))) else none)) else none)) else none))
    else
      (some ((-1 : Int32), q122.2)))))
  else
    (some ((-1 : Int32), S))
set_option maxRecDepth 4000 in
theorem gX11_grades_104 {E : CT} (X : Cx E layM cX11_grades RX11 3 (some .int) 5) (F : Nat) (k23 : ST → Option (Int32 × ST)) (h23 : ∀ (S : ST), G E (k23 S) S 23 [(0, .ref (eA E 0))] []) (S : ST) (x1 : Int32) : G E (fX11_grades_104 F k23 S x1) S 104 [(0, .ref (eA E 0)), (1, .int x1)] [] := by
  unfold fX11_grades_104
  refine r_aload_n X 0 rfl dX11_grades_104 ?_
  refine r_getI X fk_X11_187 lm_0 rfl dX11_grades_105 ?_
  refine r_if_le (tgt := 113) X dX11_grades_108 (by decide) (fun _ => ?_) (fun _ => ?_)
  · refine r_aload_n X 0 rfl dX11_grades_113 ?_
    refine r_callVv X (mX11_next _ _) mk_X11_next lk_X11_206 lm_0 rfl rfl (by decide) (by decide) (Nat.le_of_ble_eq_true rfl) rfl dX11_grades_114 (fun q114 _ => ?_)
    refine r_aload_n X 0 rfl dX11_grades_117 ?_
    refine r_iconst (v := 1) X (by decide) dX11_grades_118 ?_
    refine r_sipush (v := 9999) X (by decide) dX11_grades_119 ?_
    refine r_callV X (mX11_told _ _ _ _) mk_X11_told lk_X11_267 lm_0 rfl rfl (by decide) (by decide) (Nat.le_of_ble_eq_true rfl) rfl dX11_grades_122 (fun q122 _ => ?_)
    refine r_istore_n (lv' := [(0, _), (1, _), (2, _)]) X (by decide) rfl dX11_grades_125 ?_
    refine r_aload_n X 0 rfl dX11_grades_126 ?_
    refine r_getI X fk_X11_187 lm_0 rfl dX11_grades_127 ?_
    refine r_if_le (tgt := 135) X dX11_grades_130 (by decide) (fun _ => ?_) (fun _ => ?_)
    · refine r_aload_n X 0 rfl dX11_grades_135 ?_
      refine r_getR X fk_X11_35 lm_0 rfl dX11_grades_136 ?_
      refine r_aload_n X 0 rfl dX11_grades_139 ?_
      refine r_getI X fk_X11_262 lm_0 rfl dX11_grades_140 ?_
      refine r_iload_n X 1 rfl dX11_grades_143 ?_
      refine r_iast X lm_8 dX11_grades_144 (fun _ => ?_)
      refine r_bindS (fun S144 => ?_)
      refine r_aload_n X 0 rfl dX11_grades_145 ?_
      refine r_getR X fk_X11_38 lm_0 rfl dX11_grades_146 ?_
      refine r_aload_n X 0 rfl dX11_grades_149 ?_
      refine r_getI X fk_X11_262 lm_0 rfl dX11_grades_150 ?_
      refine r_iload_n X 2 rfl dX11_grades_153 ?_
      refine r_iast X lm_9 dX11_grades_154 (fun _ => ?_)
      refine r_bindS (fun S154 => ?_)
      refine r_aload_n X 0 rfl dX11_grades_155 ?_
      refine r_getR X fk_X11_47 lm_0 rfl dX11_grades_156 ?_
      refine r_aload_n X 0 rfl dX11_grades_159 ?_
      refine r_getI X fk_X11_262 lm_0 rfl dX11_grades_160 ?_
      refine r_aload_n X 0 rfl dX11_grades_163 ?_
      refine r_getI X fk_X11_200 lm_0 rfl dX11_grades_164 ?_
      refine r_iast X lm_12 dX11_grades_167 (fun _ => ?_)
      refine r_bindS (fun S167 => ?_)
      refine r_aload_n X 0 rfl dX11_grades_168 ?_
      refine r_ldc2 X kc_X11_273 dX11_grades_169 ?_
      refine r_callV X (mX11_isWord _ _ _) mk_X11_isWord lk_X11_241 lm_0 rfl rfl (by decide) (by decide) (Nat.le_of_ble_eq_true rfl) rfl dX11_grades_172 (fun q172 _ => ?_)
      refine r_if_eq (tgt := 186) X dX11_grades_175 (by decide) (fun _ => ?_) (fun _ => ?_)
      · refine r_sub [0] rfl ?_
        exact gX11_grades_186 X F _ h23 _
      · refine r_aload_n X 0 rfl dX11_grades_178 ?_
        refine r_callVv X (mX11_next _ _) mk_X11_next lk_X11_206 lm_0 rfl rfl (by decide) (by decide) (Nat.le_of_ble_eq_true rfl) rfl dX11_grades_179 (fun q179 _ => ?_)
        refine r_aload_n X 0 rfl dX11_grades_182 ?_
        refine r_callVv X (mX11_readE _ _) mk_X11_readE lk_X11_275 lm_0 rfl rfl (by decide) (by decide) (Nat.le_of_ble_eq_true rfl) rfl dX11_grades_183 (fun q183 _ => ?_)
        refine r_sub [0] rfl ?_
        exact gX11_grades_186 X F _ h23 _
    · refine r_iconst (v := -1) X (by decide) dX11_grades_133 ?_
      exact r_iret X dX11_grades_134
  · refine r_iconst (v := -1) X (by decide) dX11_grades_111 ?_
    exact r_iret X dX11_grades_112
def fX11_grades_61 (F : Nat) (k23 : ST → Option (Int32 × ST)) (S : ST) : Option (Int32 × ST) :=
  if (S.1 0 6) ≤ 0 then
    ((fX11_next F S).bind (fun q71 => (fX11_told F q71.2 (1 : Int32) (100 : Int32)).bind (fun q78 => if (q78.2.1 0 6) = 0 then
      ((fX11_isWord F q78.2 (512970880104 : Int64)).bind (fun q93 => if q93.1 = 0 then
        ((fX11_wrong F q93.2 (2 : Int32)).bind (fun q101 => fX11_grades_104 F k23 q101.2 q78.1))
      else
        (fX11_grades_104 F k23 q93.2 q78.1)))
    else
      (fX11_grades_104 F k23 q78.2 q78.1))))
  else
    (some ((-1 : Int32), S))
set_option maxRecDepth 4000 in
theorem gX11_grades_61 {E : CT} (X : Cx E layM cX11_grades RX11 3 (some .int) 5) (F : Nat) (k23 : ST → Option (Int32 × ST)) (h23 : ∀ (S : ST), G E (k23 S) S 23 [(0, .ref (eA E 0))] []) (S : ST) : G E (fX11_grades_61 F k23 S) S 61 [(0, .ref (eA E 0))] [] := by
  unfold fX11_grades_61
  refine r_aload_n X 0 rfl dX11_grades_61 ?_
  refine r_getI X fk_X11_187 lm_0 rfl dX11_grades_62 ?_
  refine r_if_le (tgt := 70) X dX11_grades_65 (by decide) (fun _ => ?_) (fun _ => ?_)
  · refine r_aload_n X 0 rfl dX11_grades_70 ?_
    refine r_callVv X (mX11_next _ _) mk_X11_next lk_X11_206 lm_0 rfl rfl (by decide) (by decide) (Nat.le_of_ble_eq_true rfl) rfl dX11_grades_71 (fun q71 _ => ?_)
    refine r_aload_n X 0 rfl dX11_grades_74 ?_
    refine r_iconst (v := 1) X (by decide) dX11_grades_75 ?_
    refine r_bipush (v := 100) X (by decide) dX11_grades_76 ?_
    refine r_callV X (mX11_told _ _ _ _) mk_X11_told lk_X11_267 lm_0 rfl rfl (by decide) (by decide) (Nat.le_of_ble_eq_true rfl) rfl dX11_grades_78 (fun q78 _ => ?_)
    refine r_istore_n (lv' := [(0, _), (1, _)]) X (by decide) rfl dX11_grades_81 ?_
    refine r_aload_n X 0 rfl dX11_grades_82 ?_
    refine r_getI X fk_X11_187 lm_0 rfl dX11_grades_83 ?_
    refine r_if_ne (tgt := 104) X dX11_grades_86 (by decide) (fun _ => ?_) (fun _ => ?_)
    · exact gX11_grades_104 X F _ h23 _ _
    · refine r_aload_n X 0 rfl dX11_grades_89 ?_
      refine r_ldc2 X kc_X11_271 dX11_grades_90 ?_
      refine r_callV X (mX11_isWord _ _ _) mk_X11_isWord lk_X11_241 lm_0 rfl rfl (by decide) (by decide) (Nat.le_of_ble_eq_true rfl) rfl dX11_grades_93 (fun q93 _ => ?_)
      refine r_if_ne (tgt := 104) X dX11_grades_96 (by decide) (fun _ => ?_) (fun _ => ?_)
      · exact gX11_grades_104 X F _ h23 _ _
      · refine r_aload_n X 0 rfl dX11_grades_99 ?_
        refine r_iconst (v := 2) X (by decide) dX11_grades_100 ?_
        refine r_callVv X (mX11_wrong _ _ _) mk_X11_wrong lk_X11_203 lm_0 rfl rfl (by decide) (by decide) (Nat.le_of_ble_eq_true rfl) rfl dX11_grades_101 (fun q101 _ => ?_)
        exact gX11_grades_104 X F _ h23 _ _
  · refine r_iconst (v := -1) X (by decide) dX11_grades_68 ?_
    exact r_iret X dX11_grades_69
def fX11_grades_56 (F : Nat) (k23 : ST → Option (Int32 × ST)) (S : ST) : Option (Int32 × ST) :=
  (fX11_wrong F S (2 : Int32)).bind (fun q58 => fX11_grades_61 F k23 q58.2)
set_option maxRecDepth 4000 in
theorem gX11_grades_56 {E : CT} (X : Cx E layM cX11_grades RX11 3 (some .int) 5) (F : Nat) (k23 : ST → Option (Int32 × ST)) (h23 : ∀ (S : ST), G E (k23 S) S 23 [(0, .ref (eA E 0))] []) (S : ST) : G E (fX11_grades_56 F k23 S) S 56 [(0, .ref (eA E 0))] [] := by
  unfold fX11_grades_56
  refine r_aload_n X 0 rfl dX11_grades_56 ?_
  refine r_iconst (v := 2) X (by decide) dX11_grades_57 ?_
  refine r_callVv X (mX11_wrong _ _ _) mk_X11_wrong lk_X11_203 lm_0 rfl rfl (by decide) (by decide) (Nat.le_of_ble_eq_true rfl) rfl dX11_grades_58 (fun q58 _ => ?_)
  exact gX11_grades_61 X F _ h23 _
def fX11_grades_337 (F : Nat) : Nat → ST → Int32 → Option (Int32 × ST)
  | 0, _, _ => none
  | n + 1, S, x1 =>
  if (S.1 0 20) < x1 then
    (bindS (us S 0 14 (S.1 0 20)) (fun S368 => some ((S368.1 0 14), S368)))
  else
    ((if vin x1 9 = true then (if vin x1 9 = true then bindS (us S 7 (ix x1) (S.1 12 (ix x1))) (fun S356 => fX11_grades_337 F n S356 (x1 + (1 : Int32))) else none) else none))
set_option maxRecDepth 4000 in
theorem gX11_grades_337 {E : CT} (X : Cx E layM cX11_grades RX11 3 (some .int) 5) (F : Nat) : ∀ (n : Nat) (S : ST) (x1 : Int32), G E (fX11_grades_337 F n S x1) S 337 [(0, .ref (eA E 0)), (1, .int x1)] []
  | 0, _, _ => r_none
  | n + 1, S, x1 => by
    have ih := gX11_grades_337 X F n
    unfold fX11_grades_337
    refine r_iload_n X 1 rfl dX11_grades_337 ?_
    refine r_aload_n X 0 rfl dX11_grades_338 ?_
    refine r_getI X fk_X11_262 lm_0 rfl dX11_grades_339 ?_
    refine r_icmp_gt (tgt := 363) X dX11_grades_342 (by decide) (fun _ => ?_) (fun _ => ?_)
    · refine r_aload_n X 0 rfl dX11_grades_363 ?_
      refine r_aload_n X 0 rfl dX11_grades_364 ?_
      refine r_getI X fk_X11_262 lm_0 rfl dX11_grades_365 ?_
      refine r_putI X pk_X11_278 lm_0 rfl dX11_grades_368 ?_
      refine r_bindS (fun S368 => ?_)
      refine r_aload_n X 0 rfl dX11_grades_371 ?_
      refine r_getI X fk_X11_278 lm_0 rfl dX11_grades_372 ?_
      exact r_iret X dX11_grades_375
    · refine r_aload_n X 0 rfl dX11_grades_345 ?_
      refine r_getR X fk_X11_32 lm_0 rfl dX11_grades_346 ?_
      refine r_iload_n X 1 rfl dX11_grades_349 ?_
      refine r_aload_n X 0 rfl dX11_grades_350 ?_
      refine r_getR X fk_X11_47 lm_0 rfl dX11_grades_351 ?_
      refine r_iload_n X 1 rfl dX11_grades_354 ?_
      refine r_iald X lm_12 dX11_grades_355 (fun _ => ?_)
      refine r_iast X lm_7 dX11_grades_356 (fun _ => ?_)
      refine r_bindS (fun S356 => ?_)
      refine r_iinc (lv' := [(0, _), (1, _)]) (dl := 1) X 1 rfl (by decide) (by decide) rfl dX11_grades_357 ?_
      refine r_goto (tgt := 337) X dX11_grades_360 (by decide) ?_
      exact ih _ _
def fX11_grades_297 (F : Nat) : Nat → ST → Int32 → Option (Int32 × ST)
  | 0, _, _ => none
  | n + 1, S, x1 =>
  if (S.1 0 20) ≤ x1 then
    (fX11_grades_337 F F S (0 : Int32))
  else
    ((if vin x1 8 = true then (if vin x1 8 = true then bindS (us S 3 (ix x1) (S.1 8 (ix x1))) (fun S316 => (if vin x1 8 = true then (if vin x1 8 = true then bindS (us S316 4 (ix x1) (S316.1 9 (ix x1))) (fun S328 => fX11_grades_297 F n S328 (x1 + (1 : Int32))) else none) else none)) else none) else none))
set_option maxRecDepth 4000 in
theorem gX11_grades_297 {E : CT} (X : Cx E layM cX11_grades RX11 3 (some .int) 5) (F : Nat) : ∀ (n : Nat) (S : ST) (x1 : Int32), G E (fX11_grades_297 F n S x1) S 297 [(0, .ref (eA E 0)), (1, .int x1)] []
  | 0, _, _ => r_none
  | n + 1, S, x1 => by
    have ih := gX11_grades_297 X F n
    unfold fX11_grades_297
    refine r_iload_n X 1 rfl dX11_grades_297 ?_
    refine r_aload_n X 0 rfl dX11_grades_298 ?_
    refine r_getI X fk_X11_262 lm_0 rfl dX11_grades_299 ?_
    refine r_icmp_ge (tgt := 335) X dX11_grades_302 (by decide) (fun _ => ?_) (fun _ => ?_)
    · refine r_iconst (v := 0) X (by decide) dX11_grades_335 ?_
      refine r_istore_n (lv' := [(0, _), (1, _)]) X (by decide) rfl dX11_grades_336 ?_
      exact gX11_grades_337 X F F _ _
    · refine r_aload_n X 0 rfl dX11_grades_305 ?_
      refine r_getR X fk_X11_20 lm_0 rfl dX11_grades_306 ?_
      refine r_iload_n X 1 rfl dX11_grades_309 ?_
      refine r_aload_n X 0 rfl dX11_grades_310 ?_
      refine r_getR X fk_X11_35 lm_0 rfl dX11_grades_311 ?_
      refine r_iload_n X 1 rfl dX11_grades_314 ?_
      refine r_iald X lm_8 dX11_grades_315 (fun _ => ?_)
      refine r_iast X lm_3 dX11_grades_316 (fun _ => ?_)
      refine r_bindS (fun S316 => ?_)
      refine r_aload_n X 0 rfl dX11_grades_317 ?_
      refine r_getR X fk_X11_23 lm_0 rfl dX11_grades_318 ?_
      refine r_iload_n X 1 rfl dX11_grades_321 ?_
      refine r_aload_n X 0 rfl dX11_grades_322 ?_
      refine r_getR X fk_X11_38 lm_0 rfl dX11_grades_323 ?_
      refine r_iload_n X 1 rfl dX11_grades_326 ?_
      refine r_iald X lm_9 dX11_grades_327 (fun _ => ?_)
      refine r_iast X lm_4 dX11_grades_328 (fun _ => ?_)
      refine r_bindS (fun S328 => ?_)
      refine r_iinc (lv' := [(0, _), (1, _)]) (dl := 1) X 1 rfl (by decide) (by decide) rfl dX11_grades_329 ?_
      refine r_goto (tgt := 297) X dX11_grades_332 (by decide) ?_
      exact ih _ _
def fX11_grades_257 (F : Nat) : Nat → ST → Int32 → Option (Int32 × ST)
  | 0, _, _ => none
  | n + 1, S, x1 =>
  if (S.1 0 21) ≤ x1 then
    (fX11_grades_297 F F S (0 : Int32))
  else
    ((if vin x1 600 = true then (if vin x1 600 = true then bindS (us S 5 (ix x1) (S.1 10 (ix x1))) (fun S276 => (if vin x1 600 = true then (if vin x1 600 = true then bindS (us S276 6 (ix x1) (S276.1 11 (ix x1))) (fun S288 => fX11_grades_257 F n S288 (x1 + (1 : Int32))) else none) else none)) else none) else none))
set_option maxRecDepth 4000 in
theorem gX11_grades_257 {E : CT} (X : Cx E layM cX11_grades RX11 3 (some .int) 5) (F : Nat) : ∀ (n : Nat) (S : ST) (x1 : Int32), G E (fX11_grades_257 F n S x1) S 257 [(0, .ref (eA E 0)), (1, .int x1)] []
  | 0, _, _ => r_none
  | n + 1, S, x1 => by
    have ih := gX11_grades_257 X F n
    unfold fX11_grades_257
    refine r_iload_n X 1 rfl dX11_grades_257 ?_
    refine r_aload_n X 0 rfl dX11_grades_258 ?_
    refine r_getI X fk_X11_200 lm_0 rfl dX11_grades_259 ?_
    refine r_icmp_ge (tgt := 295) X dX11_grades_262 (by decide) (fun _ => ?_) (fun _ => ?_)
    · refine r_iconst (v := 0) X (by decide) dX11_grades_295 ?_
      refine r_istore_n (lv' := [(0, _), (1, _)]) X (by decide) rfl dX11_grades_296 ?_
      exact gX11_grades_297 X F F _ _
    · refine r_aload_n X 0 rfl dX11_grades_265 ?_
      refine r_getR X fk_X11_26 lm_0 rfl dX11_grades_266 ?_
      refine r_iload_n X 1 rfl dX11_grades_269 ?_
      refine r_aload_n X 0 rfl dX11_grades_270 ?_
      refine r_getR X fk_X11_41 lm_0 rfl dX11_grades_271 ?_
      refine r_iload_n X 1 rfl dX11_grades_274 ?_
      refine r_iald X lm_10 dX11_grades_275 (fun _ => ?_)
      refine r_iast X lm_5 dX11_grades_276 (fun _ => ?_)
      refine r_bindS (fun S276 => ?_)
      refine r_aload_n X 0 rfl dX11_grades_277 ?_
      refine r_getR X fk_X11_29 lm_0 rfl dX11_grades_278 ?_
      refine r_iload_n X 1 rfl dX11_grades_281 ?_
      refine r_aload_n X 0 rfl dX11_grades_282 ?_
      refine r_getR X fk_X11_44 lm_0 rfl dX11_grades_283 ?_
      refine r_iload_n X 1 rfl dX11_grades_286 ?_
      refine r_iald X lm_11 dX11_grades_287 (fun _ => ?_)
      refine r_iast X lm_6 dX11_grades_288 (fun _ => ?_)
      refine r_bindS (fun S288 => ?_)
      refine r_iinc (lv' := [(0, _), (1, _)]) (dl := 1) X 1 rfl (by decide) (by decide) rfl dX11_grades_289 ?_
      refine r_goto (tgt := 257) X dX11_grades_292 (by decide) ?_
      exact ih _ _
def fX11_grades_233 (F : Nat) (S : ST) : Option (Int32 × ST) :=
  if (S.1 0 6) ≤ 0 then
    ((if vin (S.1 0 20) 9 = true then bindS (us S 12 (ix (S.1 0 20)) (S.1 0 21)) (fun S254 => fX11_grades_257 F F S254 (0 : Int32)) else none))
  else
    (some ((-1 : Int32), S))
set_option maxRecDepth 4000 in
theorem gX11_grades_233 {E : CT} (X : Cx E layM cX11_grades RX11 3 (some .int) 5) (F : Nat) (S : ST) : G E (fX11_grades_233 F S) S 233 [(0, .ref (eA E 0))] [] := by
  unfold fX11_grades_233
  refine r_aload_n X 0 rfl dX11_grades_233 ?_
  refine r_getI X fk_X11_187 lm_0 rfl dX11_grades_234 ?_
  refine r_if_le (tgt := 242) X dX11_grades_237 (by decide) (fun _ => ?_) (fun _ => ?_)
  · refine r_aload_n X 0 rfl dX11_grades_242 ?_
    refine r_getR X fk_X11_47 lm_0 rfl dX11_grades_243 ?_
    refine r_aload_n X 0 rfl dX11_grades_246 ?_
    refine r_getI X fk_X11_262 lm_0 rfl dX11_grades_247 ?_
    refine r_aload_n X 0 rfl dX11_grades_250 ?_
    refine r_getI X fk_X11_200 lm_0 rfl dX11_grades_251 ?_
    refine r_iast X lm_12 dX11_grades_254 (fun _ => ?_)
    refine r_bindS (fun S254 => ?_)
    refine r_iconst (v := 0) X (by decide) dX11_grades_255 ?_
    refine r_istore_n (lv' := [(0, _), (1, _)]) X (by decide) rfl dX11_grades_256 ?_
    exact gX11_grades_257 X F F _ _
  · refine r_iconst (v := -1) X (by decide) dX11_grades_240 ?_
    exact r_iret X dX11_grades_241
def fX11_grades_23 (F : Nat) : Nat → ST → Option (Int32 × ST)
  | 0, _ => none
  | n + 1, S =>
  if (S.1 0 6) = 0 then
    (if (S.1 0 10) = 0 then
      (fX11_grades_233 F S)
    else
      ((fX11_isWord F S (444300616805 : Int64)).bind (fun q41 => if q41.1 = 0 then
        (fX11_grades_56 F (fX11_grades_23 F n) q41.2)
      else
        (if (q41.2.1 0 20) = (8 : Int32) then
          (fX11_grades_56 F (fX11_grades_23 F n) q41.2)
        else
          (fX11_grades_61 F (fX11_grades_23 F n) q41.2)))))
  else
    (fX11_grades_233 F S)
set_option maxRecDepth 4000 in
theorem gX11_grades_23 {E : CT} (X : Cx E layM cX11_grades RX11 3 (some .int) 5) (F : Nat) : ∀ (n : Nat) (S : ST), G E (fX11_grades_23 F n S) S 23 [(0, .ref (eA E 0))] []
  | 0, _ => r_none
  | n + 1, S => by
    have ih := gX11_grades_23 X F n
    unfold fX11_grades_23
    refine r_aload_n X 0 rfl dX11_grades_23 ?_
    refine r_getI X fk_X11_187 lm_0 rfl dX11_grades_24 ?_
    refine r_if_ne (tgt := 233) X dX11_grades_27 (by decide) (fun _ => ?_) (fun _ => ?_)
    · exact gX11_grades_233 X F _
    · refine r_aload_n X 0 rfl dX11_grades_30 ?_
      refine r_getI X fk_X11_174 lm_0 rfl dX11_grades_31 ?_
      refine r_if_eq (tgt := 233) X dX11_grades_34 (by decide) (fun _ => ?_) (fun _ => ?_)
      · exact gX11_grades_233 X F _
      · refine r_aload_n X 0 rfl dX11_grades_37 ?_
        refine r_ldc2 X kc_X11_265 dX11_grades_38 ?_
        refine r_callV X (mX11_isWord _ _ _) mk_X11_isWord lk_X11_241 lm_0 rfl rfl (by decide) (by decide) (Nat.le_of_ble_eq_true rfl) rfl dX11_grades_41 (fun q41 _ => ?_)
        refine r_if_eq (tgt := 56) X dX11_grades_44 (by decide) (fun _ => ?_) (fun _ => ?_)
        · exact gX11_grades_56 X F _ ih _
        · refine r_aload_n X 0 rfl dX11_grades_47 ?_
          refine r_getI X fk_X11_262 lm_0 rfl dX11_grades_48 ?_
          refine r_bipush (v := 8) X (by decide) dX11_grades_51 ?_
          refine r_icmp_ne (tgt := 61) X dX11_grades_53 (by decide) (fun _ => ?_) (fun _ => ?_)
          · exact gX11_grades_61 X F _ ih _
          · exact gX11_grades_56 X F _ ih _
def fX11_grades (F : Nat) (S : ST) : Option (Int32 × ST) :=
  (fX11_begin F S).bind (fun q1 => bindS (us q1.2 0 20 (0 : Int32)) (fun S6 => bindS (us S6 0 21 (0 : Int32)) (fun S11 => bindS (us S11 0 22 (0 : Int32)) (fun S16 => (fX11_next F S16).bind (fun q20 => fX11_grades_23 F F q20.2)))))
set_option maxRecDepth 4000 in
theorem gX11_grades {E : CT} (X : Cx E layM cX11_grades RX11 3 (some .int) 5) (F : Nat) (S : ST) : G E (fX11_grades F S) S 0 [(0, .ref (eA E 0))] [] := by
  unfold fX11_grades
  refine r_aload_n X 0 rfl dX11_grades_0 ?_
  refine r_callVv X (mX11_begin _ _) mk_X11_begin lk_X11_259 lm_0 rfl rfl (by decide) (by decide) (Nat.le_of_ble_eq_true rfl) rfl dX11_grades_1 (fun q1 _ => ?_)
  refine r_aload_n X 0 rfl dX11_grades_4 ?_
  refine r_iconst (v := 0) X (by decide) dX11_grades_5 ?_
  refine r_putI X pk_X11_262 lm_0 rfl dX11_grades_6 ?_
  refine r_bindS (fun S6 => ?_)
  refine r_aload_n X 0 rfl dX11_grades_9 ?_
  refine r_iconst (v := 0) X (by decide) dX11_grades_10 ?_
  refine r_putI X pk_X11_200 lm_0 rfl dX11_grades_11 ?_
  refine r_bindS (fun S11 => ?_)
  refine r_aload_n X 0 rfl dX11_grades_14 ?_
  refine r_iconst (v := 0) X (by decide) dX11_grades_15 ?_
  refine r_putI X pk_X11_245 lm_0 rfl dX11_grades_16 ?_
  refine r_bindS (fun S16 => ?_)
  refine r_aload_n X 0 rfl dX11_grades_19 ?_
  refine r_callVv X (mX11_next _ _) mk_X11_next lk_X11_206 lm_0 rfl rfl (by decide) (by decide) (Nat.le_of_ble_eq_true rfl) rfl dX11_grades_20 (fun q20 _ => ?_)
  exact gX11_grades_23 X F F _
theorem mX11_grades (F : Nat) (S : ST) : MetS yX11_grades cX11_grades 3 (some .int) 5 layM (fX11_grades F S) S (fun ad => [.ref (ad 0)]) := mk_met (fun ad => [(0, .ref (ad 0))]) (by decide) (fun _ => Nat.le_of_ble_eq_true rfl) (fun _ => rfl) (fun E X => gX11_grades X F S)
def fX11_lasts_2 (F : Nat) : Nat → ST → Int32 → Int32 → Option (Int32 × ST)
  | 0, _, _, _ => none
  | n + 1, S, x1, x2 =>
  if ((x1 >>> (x2 &&& 31)) &&& (1 : Int32)) = 0 then
    (fX11_lasts_2 F n S x1 (x2 + (1 : Int32)))
  else
    ((if vin x2 10 = true then some (((S.1 0 50) + ((S.1 0 51) * (S.1 28 (ix x2)))), S) else none))
set_option maxRecDepth 4000 in
theorem gX11_lasts_2 {E : CT} (X : Cx E layM cX11_lasts RX11 3 (some .int) 0) (F : Nat) : ∀ (n : Nat) (S : ST) (x1 : Int32) (x2 : Int32), G E (fX11_lasts_2 F n S x1 x2) S 2 [(0, .ref (eA E 0)), (1, .int x1), (2, .int x2)] []
  | 0, _, _, _ => r_none
  | n + 1, S, x1, x2 => by
    have ih := gX11_lasts_2 X F n
    unfold fX11_lasts_2
    refine r_iload_n X 1 rfl dX11_lasts_2 ?_
    refine r_iload_n X 2 rfl dX11_lasts_3 ?_
    refine r_ishr X dX11_lasts_4 ?_
    refine r_iconst (v := 1) X (by decide) dX11_lasts_5 ?_
    refine r_iand X dX11_lasts_6 ?_
    refine r_if_ne (tgt := 16) X dX11_lasts_7 (by decide) (fun _ => ?_) (fun _ => ?_)
    · refine r_aload_n X 0 rfl dX11_lasts_16 ?_
      refine r_getI X fk_X11_102 lm_0 rfl dX11_lasts_17 ?_
      refine r_aload_n X 0 rfl dX11_lasts_20 ?_
      refine r_getI X fk_X11_105 lm_0 rfl dX11_lasts_21 ?_
      refine r_aload_n X 0 rfl dX11_lasts_24 ?_
      refine r_getR X fk_X11_111 lm_0 rfl dX11_lasts_25 ?_
      refine r_iload_n X 2 rfl dX11_lasts_28 ?_
      refine r_iald X lm_28 dX11_lasts_29 (fun _ => ?_)
      refine r_imul X dX11_lasts_30 ?_
      refine r_iadd X dX11_lasts_31 ?_
      exact r_iret X dX11_lasts_32
    · refine r_iinc (lv' := [(0, _), (1, _), (2, _)]) (dl := 1) X 2 rfl (by decide) (by decide) rfl dX11_lasts_10 ?_
      refine r_goto (tgt := 2) X dX11_lasts_13 (by decide) ?_
      exact ih _ _ _
def fX11_lasts (F : Nat) (S : ST) (x1 : Int32) : Option (Int32 × ST) :=
  fX11_lasts_2 F F S x1 (0 : Int32)
set_option maxRecDepth 4000 in
theorem gX11_lasts {E : CT} (X : Cx E layM cX11_lasts RX11 3 (some .int) 0) (F : Nat) (S : ST) (x1 : Int32) : G E (fX11_lasts F S x1) S 0 [(0, .ref (eA E 0)), (1, .int x1)] [] := by
  unfold fX11_lasts
  refine r_iconst (v := 0) X (by decide) dX11_lasts_0 ?_
  refine r_istore_n (lv' := [(0, _), (1, _), (2, _)]) X (by decide) rfl dX11_lasts_1 ?_
  exact gX11_lasts_2 X F F _ _ _
theorem mX11_lasts (F : Nat) (S : ST) (x1 : Int32) : MetS yX11_lasts cX11_lasts 3 (some .int) 0 layM (fX11_lasts F S x1) S (fun ad => [.ref (ad 0), .int x1]) := mk_met (fun ad => [(0, .ref (ad 0)), (1, .int x1)]) (by decide) (fun _ => Nat.le_of_ble_eq_true rfl) (fun _ => rfl) (fun E X => gX11_lasts X F S x1)
def fX11_markOf (F : Nat) (S : ST) (x0 : Int32) : Option (Int32 × ST) :=
  if x0 = (46 : Int32) then
    (some ((4 : Int32), S))
  else
    (if x0 = (107 : Int32) then
      (some ((0 : Int32), S))
    else
      (if x0 = (115 : Int32) then
        (some ((1 : Int32), S))
      else
        (if x0 = (111 : Int32) then
          (some ((2 : Int32), S))
        else
          (if x0 = (112 : Int32) then
            (some ((3 : Int32), S))
          else
            (some ((-1 : Int32), S))))))
set_option maxRecDepth 4000 in
theorem gX11_markOf {E : CT} (X : Cx E layM cX11_markOf RX11 1 (some .int) 0) (F : Nat) (S : ST) (x0 : Int32) : G E (fX11_markOf F S x0) S 0 [(0, .int x0)] [] := by
  unfold fX11_markOf
  refine r_iload_n X 0 rfl dX11_markOf_0 ?_
  refine r_bipush (v := 46) X (by decide) dX11_markOf_1 ?_
  refine r_icmp_ne (tgt := 10) X dX11_markOf_3 (by decide) (fun _ => ?_) (fun _ => ?_)
  · refine r_iload_n X 0 rfl dX11_markOf_10 ?_
    refine r_bipush (v := 107) X (by decide) dX11_markOf_11 ?_
    refine r_icmp_ne (tgt := 20) X dX11_markOf_13 (by decide) (fun _ => ?_) (fun _ => ?_)
    · refine r_iload_n X 0 rfl dX11_markOf_20 ?_
      refine r_bipush (v := 115) X (by decide) dX11_markOf_21 ?_
      refine r_icmp_ne (tgt := 30) X dX11_markOf_23 (by decide) (fun _ => ?_) (fun _ => ?_)
      · refine r_iload_n X 0 rfl dX11_markOf_30 ?_
        refine r_bipush (v := 111) X (by decide) dX11_markOf_31 ?_
        refine r_icmp_ne (tgt := 40) X dX11_markOf_33 (by decide) (fun _ => ?_) (fun _ => ?_)
        · refine r_iload_n X 0 rfl dX11_markOf_40 ?_
          refine r_bipush (v := 112) X (by decide) dX11_markOf_41 ?_
          refine r_icmp_ne (tgt := 50) X dX11_markOf_43 (by decide) (fun _ => ?_) (fun _ => ?_)
          · refine r_iconst (v := -1) X (by decide) dX11_markOf_50 ?_
            exact r_iret X dX11_markOf_51
          · refine r_iconst (v := 3) X (by decide) dX11_markOf_46 ?_
            refine r_goto (tgt := 51) X dX11_markOf_47 (by decide) ?_
            exact r_iret X dX11_markOf_51
        · refine r_iconst (v := 2) X (by decide) dX11_markOf_36 ?_
          refine r_goto (tgt := 51) X dX11_markOf_37 (by decide) ?_
          exact r_iret X dX11_markOf_51
      · refine r_iconst (v := 1) X (by decide) dX11_markOf_26 ?_
        refine r_goto (tgt := 51) X dX11_markOf_27 (by decide) ?_
        exact r_iret X dX11_markOf_51
    · refine r_iconst (v := 0) X (by decide) dX11_markOf_16 ?_
      refine r_goto (tgt := 51) X dX11_markOf_17 (by decide) ?_
      exact r_iret X dX11_markOf_51
  · refine r_iconst (v := 4) X (by decide) dX11_markOf_6 ?_
    refine r_goto (tgt := 51) X dX11_markOf_7 (by decide) ?_
    exact r_iret X dX11_markOf_51
theorem mX11_markOf (F : Nat) (S : ST) (x0 : Int32) : MetS yX11_markOf cX11_markOf 1 (some .int) 0 layM (fX11_markOf F S x0) S (fun ad => [.int x0]) := mk_met (fun ad => [(0, .int x0)]) (by decide) (fun _ => Nat.le_of_ble_eq_true rfl) (fun _ => rfl) (fun E X => gX11_markOf X F S x0)
def fX11_leaf_43 (F : Nat) (k6 : ST → Int32 → Option (Int32 × ST)) (S : ST) (x1 : Int32) : Option (Int32 × ST) :=
  bindS (us S 0 6 (1 : Int32)) (fun S45 => bindS (us S45 0 7 x1) (fun S50 => k6 S50 (x1 + (1 : Int32))))
set_option maxRecDepth 4000 in
theorem gX11_leaf_43 {E : CT} (X : Cx E layM cX11_leaf RX11 2 (some .int) 1) (F : Nat) (k6 : ST → Int32 → Option (Int32 × ST)) (h6 : ∀ (S : ST) (x1 : Int32), G E (k6 S x1) S 6 [(0, .ref (eA E 0)), (1, .int x1)] []) (S : ST) (x1 : Int32) : G E (fX11_leaf_43 F k6 S x1) S 43 [(0, .ref (eA E 0)), (1, .int x1)] [] := by
  unfold fX11_leaf_43
  refine r_aload_n X 0 rfl dX11_leaf_43 ?_
  refine r_iconst (v := 1) X (by decide) dX11_leaf_44 ?_
  refine r_putI X pk_X11_187 lm_0 rfl dX11_leaf_45 ?_
  refine r_bindS (fun S45 => ?_)
  refine r_aload_n X 0 rfl dX11_leaf_48 ?_
  refine r_iload_n X 1 rfl dX11_leaf_49 ?_
  refine r_putI X pk_X11_16 lm_0 rfl dX11_leaf_50 ?_
  refine r_bindS (fun S50 => ?_)
  refine r_iinc (lv' := [(0, _), (1, _)]) (dl := 1) X 1 rfl (by decide) (by decide) rfl dX11_leaf_53 ?_
  refine r_goto (tgt := 6) X dX11_leaf_56 (by decide) ?_
  exact h6 _ _
def fX11_leaf_70 (F : Nat) : Nat → ST → Int32 → Option (Int32 × ST)
  | 0, _, _ => none
  | n + 1, S, x1 =>
  if (S.1 0 9) ≤ x1 then
    (bindS (us S 0 32 (S.1 0 9)) (fun S104 => some ((S104.1 0 32), S104)))
  else
    ((if vin x1 600 = true then (fX11_markOf F S (S.1 2 (ix x1))).bind (fun q89 => (if vin x1 300 = true then bindS (us q89.2 14 (ix x1) q89.1) (fun S92 => fX11_leaf_70 F n S92 (x1 + (1 : Int32))) else none)) else none))
set_option maxRecDepth 4000 in
theorem gX11_leaf_70 {E : CT} (X : Cx E layM cX11_leaf RX11 2 (some .int) 1) (F : Nat) : ∀ (n : Nat) (S : ST) (x1 : Int32), G E (fX11_leaf_70 F n S x1) S 70 [(0, .ref (eA E 0)), (1, .int x1)] []
  | 0, _, _ => r_none
  | n + 1, S, x1 => by
    have ih := gX11_leaf_70 X F n
    unfold fX11_leaf_70
    refine r_iload_n X 1 rfl dX11_leaf_70 ?_
    refine r_aload_n X 0 rfl dX11_leaf_71 ?_
    refine r_getI X fk_X11_157 lm_0 rfl dX11_leaf_72 ?_
    refine r_icmp_ge (tgt := 99) X dX11_leaf_75 (by decide) (fun _ => ?_) (fun _ => ?_)
    · refine r_aload_n X 0 rfl dX11_leaf_99 ?_
      refine r_aload_n X 0 rfl dX11_leaf_100 ?_
      refine r_getI X fk_X11_157 lm_0 rfl dX11_leaf_101 ?_
      refine r_putI X pk_X11_284 lm_0 rfl dX11_leaf_104 ?_
      refine r_bindS (fun S104 => ?_)
      refine r_aload_n X 0 rfl dX11_leaf_107 ?_
      refine r_getI X fk_X11_284 lm_0 rfl dX11_leaf_108 ?_
      exact r_iret X dX11_leaf_111
    · refine r_aload_n X 0 rfl dX11_leaf_78 ?_
      refine r_getR X fk_X11_53 lm_0 rfl dX11_leaf_79 ?_
      refine r_iload_n X 1 rfl dX11_leaf_82 ?_
      refine r_aload_n X 0 rfl dX11_leaf_83 ?_
      refine r_getR X fk_X11_13 lm_0 rfl dX11_leaf_84 ?_
      refine r_iload_n X 1 rfl dX11_leaf_87 ?_
      refine r_iald X lm_2 dX11_leaf_88 (fun _ => ?_)
      refine r_callS X (mX11_markOf _ _ _) mk_X11_markOf lk_X11_281 rfl (by decide) (by decide) (Nat.le_of_ble_eq_true rfl) rfl dX11_leaf_89 (fun q89 _ => ?_)
      refine r_iast X lm_14 dX11_leaf_92 (fun _ => ?_)
      refine r_bindS (fun S92 => ?_)
      refine r_iinc (lv' := [(0, _), (1, _)]) (dl := 1) X 1 rfl (by decide) (by decide) rfl dX11_leaf_93 ?_
      refine r_goto (tgt := 70) X dX11_leaf_96 (by decide) ?_
      exact ih _ _
def fX11_leaf_59 (F : Nat) (S : ST) : Option (Int32 × ST) :=
  if (S.1 0 6) ≤ 0 then
    (fX11_leaf_70 F F S (0 : Int32))
  else
    (some ((-1 : Int32), S))
set_option maxRecDepth 4000 in
theorem gX11_leaf_59 {E : CT} (X : Cx E layM cX11_leaf RX11 2 (some .int) 1) (F : Nat) (S : ST) : G E (fX11_leaf_59 F S) S 59 [(0, .ref (eA E 0))] [] := by
  unfold fX11_leaf_59
  refine r_aload_n X 0 rfl dX11_leaf_59 ?_
  refine r_getI X fk_X11_187 lm_0 rfl dX11_leaf_60 ?_
  refine r_if_le (tgt := 68) X dX11_leaf_63 (by decide) (fun _ => ?_) (fun _ => ?_)
  · refine r_iconst (v := 0) X (by decide) dX11_leaf_68 ?_
    refine r_istore_n (lv' := [(0, _), (1, _)]) X (by decide) rfl dX11_leaf_69 ?_
    exact gX11_leaf_70 X F F _ _
  · refine r_iconst (v := -1) X (by decide) dX11_leaf_66 ?_
    exact r_iret X dX11_leaf_67
def fX11_leaf_6 (F : Nat) : Nat → ST → Int32 → Option (Int32 × ST)
  | 0, _, _ => none
  | n + 1, S, x1 =>
  if (S.1 0 9) ≤ x1 then
    (fX11_leaf_59 F S)
  else
    (if (S.1 0 6) = 0 then
      (if (300 : Int32) ≤ x1 then
        (fX11_leaf_43 F (fX11_leaf_6 F n) S x1)
      else
        ((if vin x1 600 = true then (fX11_markOf F S (S.1 2 (ix x1))).bind (fun q34 => if q34.1 < 0 then
          (fX11_leaf_43 F (fX11_leaf_6 F n) q34.2 x1)
        else
          (fX11_leaf_6 F n q34.2 (x1 + (1 : Int32)))) else none)))
    else
      (fX11_leaf_59 F S))
set_option maxRecDepth 4000 in
theorem gX11_leaf_6 {E : CT} (X : Cx E layM cX11_leaf RX11 2 (some .int) 1) (F : Nat) : ∀ (n : Nat) (S : ST) (x1 : Int32), G E (fX11_leaf_6 F n S x1) S 6 [(0, .ref (eA E 0)), (1, .int x1)] []
  | 0, _, _ => r_none
  | n + 1, S, x1 => by
    have ih := gX11_leaf_6 X F n
    unfold fX11_leaf_6
    refine r_iload_n X 1 rfl dX11_leaf_6 ?_
    refine r_aload_n X 0 rfl dX11_leaf_7 ?_
    refine r_getI X fk_X11_157 lm_0 rfl dX11_leaf_8 ?_
    refine r_icmp_ge (tgt := 59) X dX11_leaf_11 (by decide) (fun _ => ?_) (fun _ => ?_)
    · refine r_sub [0] rfl ?_
      exact gX11_leaf_59 X F _
    · refine r_aload_n X 0 rfl dX11_leaf_14 ?_
      refine r_getI X fk_X11_187 lm_0 rfl dX11_leaf_15 ?_
      refine r_if_ne (tgt := 59) X dX11_leaf_18 (by decide) (fun _ => ?_) (fun _ => ?_)
      · refine r_sub [0] rfl ?_
        exact gX11_leaf_59 X F _
      · refine r_iload_n X 1 rfl dX11_leaf_21 ?_
        refine r_sipush (v := 300) X (by decide) dX11_leaf_22 ?_
        refine r_icmp_ge (tgt := 43) X dX11_leaf_25 (by decide) (fun _ => ?_) (fun _ => ?_)
        · exact gX11_leaf_43 X F _ ih _ _
        · refine r_aload_n X 0 rfl dX11_leaf_28 ?_
          refine r_getR X fk_X11_13 lm_0 rfl dX11_leaf_29 ?_
          refine r_iload_n X 1 rfl dX11_leaf_32 ?_
          refine r_iald X lm_2 dX11_leaf_33 (fun _ => ?_)
          refine r_callS X (mX11_markOf _ _ _) mk_X11_markOf lk_X11_281 rfl (by decide) (by decide) (Nat.le_of_ble_eq_true rfl) rfl dX11_leaf_34 (fun q34 _ => ?_)
          refine r_if_lt (tgt := 43) X dX11_leaf_37 (by decide) (fun _ => ?_) (fun _ => ?_)
          · exact gX11_leaf_43 X F _ ih _ _
          · refine r_goto (tgt := 53) X dX11_leaf_40 (by decide) ?_
            refine r_iinc (lv' := [(0, _), (1, _)]) (dl := 1) X 1 rfl (by decide) (by decide) rfl dX11_leaf_53 ?_
            refine r_goto (tgt := 6) X dX11_leaf_56 (by decide) ?_
            exact ih _ _
def fX11_leaf (F : Nat) (S : ST) : Option (Int32 × ST) :=
  (fX11_begin F S).bind (fun q1 => fX11_leaf_6 F F q1.2 (0 : Int32))
set_option maxRecDepth 4000 in
theorem gX11_leaf {E : CT} (X : Cx E layM cX11_leaf RX11 2 (some .int) 1) (F : Nat) (S : ST) : G E (fX11_leaf F S) S 0 [(0, .ref (eA E 0))] [] := by
  unfold fX11_leaf
  refine r_aload_n X 0 rfl dX11_leaf_0 ?_
  refine r_callVv X (mX11_begin _ _) mk_X11_begin lk_X11_259 lm_0 rfl rfl (by decide) (by decide) (Nat.le_of_ble_eq_true rfl) rfl dX11_leaf_1 (fun q1 _ => ?_)
  refine r_iconst (v := 0) X (by decide) dX11_leaf_4 ?_
  refine r_istore_n (lv' := [(0, _), (1, _)]) X (by decide) rfl dX11_leaf_5 ?_
  exact gX11_leaf_6 X F F _ _
theorem mX11_leaf (F : Nat) (S : ST) : MetS yX11_leaf cX11_leaf 2 (some .int) 1 layM (fX11_leaf F S) S (fun ad => [.ref (ad 0)]) := mk_met (fun ad => [(0, .ref (ad 0))]) (by decide) (fun _ => Nat.le_of_ble_eq_true rfl) (fun _ => rfl) (fun E X => gX11_leaf X F S)
def fX11_many_4 (F : Nat) : Nat → ST → Int32 → Int32 → Int32 → Option (Int32 × ST)
  | 0, _, _, _, _ => none
  | n + 1, S, x0, x1, x2 =>
  if (10 : Int32) ≤ x2 then
    (some (x1, S))
  else
    (bindI ((x1 + ((x0 >>> (x2 &&& 31)) &&& (1 : Int32)))) (fun v17 => fX11_many_4 F n S x0 v17 (x2 + (1 : Int32))))
set_option maxRecDepth 4000 in
theorem gX11_many_4 {E : CT} (X : Cx E layM cX11_many RX11 3 (some .int) 0) (F : Nat) : ∀ (n : Nat) (S : ST) (x0 : Int32) (x1 : Int32) (x2 : Int32), G E (fX11_many_4 F n S x0 x1 x2) S 4 [(0, .int x0), (1, .int x1), (2, .int x2)] []
  | 0, _, _, _, _ => r_none
  | n + 1, S, x0, x1, x2 => by
    have ih := gX11_many_4 X F n
    unfold fX11_many_4
    refine r_iload_n X 2 rfl dX11_many_4 ?_
    refine r_bipush (v := 10) X (by decide) dX11_many_5 ?_
    refine r_icmp_ge (tgt := 24) X dX11_many_7 (by decide) (fun _ => ?_) (fun _ => ?_)
    · refine r_iload_n X 1 rfl dX11_many_24 ?_
      exact r_iret X dX11_many_25
    · refine r_iload_n X 1 rfl dX11_many_10 ?_
      refine r_iload_n X 0 rfl dX11_many_11 ?_
      refine r_iload_n X 2 rfl dX11_many_12 ?_
      refine r_ishr X dX11_many_13 ?_
      refine r_iconst (v := 1) X (by decide) dX11_many_14 ?_
      refine r_iand X dX11_many_15 ?_
      refine r_iadd X dX11_many_16 ?_
      refine r_bindI (fun v17 => ?_)
      refine r_istore_n (lv' := [(0, _), (1, _), (2, _)]) X (by decide) rfl dX11_many_17 ?_
      refine r_iinc (lv' := [(0, _), (1, _), (2, _)]) (dl := 1) X 2 rfl (by decide) (by decide) rfl dX11_many_18 ?_
      refine r_goto (tgt := 4) X dX11_many_21 (by decide) ?_
      exact ih _ _ _ _
def fX11_many (F : Nat) (S : ST) (x0 : Int32) : Option (Int32 × ST) :=
  fX11_many_4 F F S x0 (0 : Int32) (0 : Int32)
set_option maxRecDepth 4000 in
theorem gX11_many {E : CT} (X : Cx E layM cX11_many RX11 3 (some .int) 0) (F : Nat) (S : ST) (x0 : Int32) : G E (fX11_many F S x0) S 0 [(0, .int x0)] [] := by
  unfold fX11_many
  refine r_iconst (v := 0) X (by decide) dX11_many_0 ?_
  refine r_istore_n (lv' := [(0, _), (1, _)]) X (by decide) rfl dX11_many_1 ?_
  refine r_iconst (v := 0) X (by decide) dX11_many_2 ?_
  refine r_istore_n (lv' := [(0, _), (1, _), (2, _)]) X (by decide) rfl dX11_many_3 ?_
  exact gX11_many_4 X F F _ _ _ _
theorem mX11_many (F : Nat) (S : ST) (x0 : Int32) : MetS yX11_many cX11_many 3 (some .int) 0 layM (fX11_many F S x0) S (fun ad => [.int x0]) := mk_met (fun ad => [(0, .int x0)]) (by decide) (fun _ => Nat.le_of_ble_eq_true rfl) (fun _ => rfl) (fun E X => gX11_many X F S x0)
def fX11_putIn_137 (F : Nat) (k31 : ST → Int32 → Int32 → Int32 → Int32 → Int32 → Int32 → Int32 → Option (Int32 × ST)) (S : ST) (x1 : Int32) (x2 : Int32) (x3 : Int32) (x5 : Int32) (x6 : Int32) (x7 : Int32) (s0 : Int32) : Option (Int32 × ST) :=
  k31 S x1 x2 x3 s0 x5 x6 (x7 + (1 : Int32))
set_option maxRecDepth 4000 in
theorem gX11_putIn_137 {E : CT} (X : Cx E layM cX11_putIn RX11 8 (some .int) 1) (F : Nat) (k31 : ST → Int32 → Int32 → Int32 → Int32 → Int32 → Int32 → Int32 → Option (Int32 × ST)) (h31 : ∀ (S : ST) (x1 : Int32) (x2 : Int32) (x3 : Int32) (x4 : Int32) (x5 : Int32) (x6 : Int32) (x7 : Int32), G E (k31 S x1 x2 x3 x4 x5 x6 x7) S 31 [(0, .ref (eA E 0)), (1, .int x1), (2, .int x2), (3, .int x3), (4, .int x4), (5, .int x5), (6, .int x6), (7, .int x7)] []) (S : ST) (x1 : Int32) (x2 : Int32) (x3 : Int32) (x5 : Int32) (x6 : Int32) (x7 : Int32) (s0 : Int32) : G E (fX11_putIn_137 F k31 S x1 x2 x3 x5 x6 x7 s0) S 137 [(0, .ref (eA E 0)), (1, .int x1), (2, .int x2), (3, .int x3), (5, .int x5), (6, .int x6), (7, .int x7)] [.int s0] := by
  unfold fX11_putIn_137
  refine r_istore (lv' := [(0, _), (1, _), (2, _), (3, _), (4, _), (5, _), (6, _), (7, _)]) X (by decide) rfl dX11_putIn_137 ?_
  refine r_iinc (lv' := [(0, _), (1, _), (2, _), (3, _), (4, _), (5, _), (6, _), (7, _)]) (dl := 1) X 7 rfl (by decide) (by decide) rfl dX11_putIn_139 ?_
  refine r_goto (tgt := 31) X dX11_putIn_142 (by decide) ?_
  exact h31 _ _ _ _ _ _ _ _
def fX11_putIn_112 (F : Nat) (k31 : ST → Int32 → Int32 → Int32 → Int32 → Int32 → Int32 → Int32 → Option (Int32 × ST)) (S : ST) (x1 : Int32) (x2 : Int32) (x4 : Int32) (x5 : Int32) (x6 : Int32) (x7 : Int32) (s0 : Int32) : Option (Int32 × ST) :=
  (if vin x7 10 = true then if (S.1 29 (ix x7)) ≤ x4 then
    (fX11_putIn_137 F k31 S x1 x2 s0 x5 x6 x7 x4)
  else
    ((if vin x7 10 = true then fX11_putIn_137 F k31 S x1 x2 s0 x5 x6 x7 (S.1 29 (ix x7)) else none)) else none)
set_option maxRecDepth 4000 in
theorem gX11_putIn_112 {E : CT} (X : Cx E layM cX11_putIn RX11 8 (some .int) 1) (F : Nat) (k31 : ST → Int32 → Int32 → Int32 → Int32 → Int32 → Int32 → Int32 → Option (Int32 × ST)) (h31 : ∀ (S : ST) (x1 : Int32) (x2 : Int32) (x3 : Int32) (x4 : Int32) (x5 : Int32) (x6 : Int32) (x7 : Int32), G E (k31 S x1 x2 x3 x4 x5 x6 x7) S 31 [(0, .ref (eA E 0)), (1, .int x1), (2, .int x2), (3, .int x3), (4, .int x4), (5, .int x5), (6, .int x6), (7, .int x7)] []) (S : ST) (x1 : Int32) (x2 : Int32) (x4 : Int32) (x5 : Int32) (x6 : Int32) (x7 : Int32) (s0 : Int32) : G E (fX11_putIn_112 F k31 S x1 x2 x4 x5 x6 x7 s0) S 112 [(0, .ref (eA E 0)), (1, .int x1), (2, .int x2), (4, .int x4), (5, .int x5), (6, .int x6), (7, .int x7)] [.int s0] := by
  unfold fX11_putIn_112
  refine r_istore_n (lv' := [(0, _), (1, _), (2, _), (3, _), (4, _), (5, _), (6, _), (7, _)]) X (by decide) rfl dX11_putIn_112 ?_
  refine r_aload_n X 0 rfl dX11_putIn_113 ?_
  refine r_getR X fk_X11_114 lm_0 rfl dX11_putIn_114 ?_
  refine r_iload X 7 rfl dX11_putIn_117 ?_
  refine r_iald X lm_29 dX11_putIn_119 (fun _ => ?_)
  refine r_iload X 4 rfl dX11_putIn_120 ?_
  refine r_icmp_le (tgt := 135) X dX11_putIn_122 (by decide) (fun _ => ?_) (fun _ => ?_)
  · refine r_iload X 4 rfl dX11_putIn_135 ?_
    refine r_sub [0, 1, 2, 3, 5, 6, 7] rfl ?_
    exact gX11_putIn_137 X F _ h31 _ _ _ _ _ _ _ _
  · refine r_aload_n X 0 rfl dX11_putIn_125 ?_
    refine r_getR X fk_X11_114 lm_0 rfl dX11_putIn_126 ?_
    refine r_iload X 7 rfl dX11_putIn_129 ?_
    refine r_iald X lm_29 dX11_putIn_131 (fun _ => ?_)
    refine r_goto (tgt := 137) X dX11_putIn_132 (by decide) ?_
    refine r_sub [0, 1, 2, 3, 5, 6, 7] rfl ?_
    exact gX11_putIn_137 X F _ h31 _ _ _ _ _ _ _ _
def fX11_putIn_79 (F : Nat) (k31 : ST → Int32 → Int32 → Int32 → Int32 → Int32 → Int32 → Int32 → Option (Int32 × ST)) (S : ST) (x1 : Int32) (x2 : Int32) (x3 : Int32) (x4 : Int32) (x7 : Int32) (s0 : Int32) : Option (Int32 × ST) :=
  (if vin x7 10 = true then bindI ((S.1 28 (ix x7))) (fun v88 => (if vin x7 10 = true then if x3 ≤ (S.1 29 (ix x7)) then
    (fX11_putIn_112 F k31 S x1 x2 x4 v88 s0 x7 x3)
  else
    ((if vin x7 10 = true then fX11_putIn_112 F k31 S x1 x2 x4 v88 s0 x7 (S.1 29 (ix x7)) else none)) else none)) else none)
set_option maxRecDepth 4000 in
theorem gX11_putIn_79 {E : CT} (X : Cx E layM cX11_putIn RX11 8 (some .int) 1) (F : Nat) (k31 : ST → Int32 → Int32 → Int32 → Int32 → Int32 → Int32 → Int32 → Option (Int32 × ST)) (h31 : ∀ (S : ST) (x1 : Int32) (x2 : Int32) (x3 : Int32) (x4 : Int32) (x5 : Int32) (x6 : Int32) (x7 : Int32), G E (k31 S x1 x2 x3 x4 x5 x6 x7) S 31 [(0, .ref (eA E 0)), (1, .int x1), (2, .int x2), (3, .int x3), (4, .int x4), (5, .int x5), (6, .int x6), (7, .int x7)] []) (S : ST) (x1 : Int32) (x2 : Int32) (x3 : Int32) (x4 : Int32) (x7 : Int32) (s0 : Int32) : G E (fX11_putIn_79 F k31 S x1 x2 x3 x4 x7 s0) S 79 [(0, .ref (eA E 0)), (1, .int x1), (2, .int x2), (3, .int x3), (4, .int x4), (7, .int x7)] [.int s0] := by
  unfold fX11_putIn_79
  refine r_istore (lv' := [(0, _), (1, _), (2, _), (3, _), (4, _), (6, _), (7, _)]) X (by decide) rfl dX11_putIn_79 ?_
  refine r_aload_n X 0 rfl dX11_putIn_81 ?_
  refine r_getR X fk_X11_111 lm_0 rfl dX11_putIn_82 ?_
  refine r_iload X 6 rfl dX11_putIn_85 ?_
  refine r_iald X lm_28 dX11_putIn_87 (fun _ => ?_)
  refine r_bindI (fun v88 => ?_)
  refine r_istore (lv' := [(0, _), (1, _), (2, _), (3, _), (4, _), (5, _), (6, _), (7, _)]) X (by decide) rfl dX11_putIn_88 ?_
  refine r_aload_n X 0 rfl dX11_putIn_90 ?_
  refine r_getR X fk_X11_114 lm_0 rfl dX11_putIn_91 ?_
  refine r_iload X 7 rfl dX11_putIn_94 ?_
  refine r_iald X lm_29 dX11_putIn_96 (fun _ => ?_)
  refine r_iload_n X 3 rfl dX11_putIn_97 ?_
  refine r_icmp_ge (tgt := 111) X dX11_putIn_98 (by decide) (fun _ => ?_) (fun _ => ?_)
  · refine r_iload_n X 3 rfl dX11_putIn_111 ?_
    refine r_sub [0, 1, 2, 4, 5, 6, 7] rfl ?_
    exact gX11_putIn_112 X F _ h31 _ _ _ _ _ _ _ _
  · refine r_aload_n X 0 rfl dX11_putIn_101 ?_
    refine r_getR X fk_X11_114 lm_0 rfl dX11_putIn_102 ?_
    refine r_iload X 7 rfl dX11_putIn_105 ?_
    refine r_iald X lm_29 dX11_putIn_107 (fun _ => ?_)
    refine r_goto (tgt := 112) X dX11_putIn_108 (by decide) ?_
    refine r_sub [0, 1, 2, 4, 5, 6, 7] rfl ?_
    exact gX11_putIn_112 X F _ h31 _ _ _ _ _ _ _ _
def fX11_putIn_78 (F : Nat) (k31 : ST → Int32 → Int32 → Int32 → Int32 → Int32 → Int32 → Int32 → Option (Int32 × ST)) (S : ST) (x1 : Int32) (x2 : Int32) (x3 : Int32) (x4 : Int32) (x7 : Int32) : Option (Int32 × ST) :=
  fX11_putIn_79 F k31 S x1 x2 x3 x4 x7 (0 : Int32)
set_option maxRecDepth 4000 in
theorem gX11_putIn_78 {E : CT} (X : Cx E layM cX11_putIn RX11 8 (some .int) 1) (F : Nat) (k31 : ST → Int32 → Int32 → Int32 → Int32 → Int32 → Int32 → Int32 → Option (Int32 × ST)) (h31 : ∀ (S : ST) (x1 : Int32) (x2 : Int32) (x3 : Int32) (x4 : Int32) (x5 : Int32) (x6 : Int32) (x7 : Int32), G E (k31 S x1 x2 x3 x4 x5 x6 x7) S 31 [(0, .ref (eA E 0)), (1, .int x1), (2, .int x2), (3, .int x3), (4, .int x4), (5, .int x5), (6, .int x6), (7, .int x7)] []) (S : ST) (x1 : Int32) (x2 : Int32) (x3 : Int32) (x4 : Int32) (x7 : Int32) : G E (fX11_putIn_78 F k31 S x1 x2 x3 x4 x7) S 78 [(0, .ref (eA E 0)), (1, .int x1), (2, .int x2), (3, .int x3), (4, .int x4), (7, .int x7)] [] := by
  unfold fX11_putIn_78
  refine r_iconst (v := 0) X (by decide) dX11_putIn_78 ?_
  exact gX11_putIn_79 X F _ h31 _ _ _ _ _ _ _
def fX11_putIn_180 (F : Nat) (S : ST) : Option (Int32 × ST) :=
  some ((1000000000 : Int32), S)
set_option maxRecDepth 4000 in
theorem gX11_putIn_180 {E : CT} (X : Cx E layM cX11_putIn RX11 8 (some .int) 1) (F : Nat) (S : ST) : G E (fX11_putIn_180 F S) S 180 [] [] := by
  unfold fX11_putIn_180
  refine r_ldcw X kc_X11_316 dX11_putIn_180 ?_
  exact r_iret X dX11_putIn_183
def fX11_putIn_157 (F : Nat) (S : ST) (x3 : Int32) (x6 : Int32) (s0 : Int32) : Option (Int32 × ST) :=
  if x6 = 0 then
    (fX11_putIn_180 F S)
  else
    (if (S.1 0 52) < (s0 - x3) then
      (fX11_putIn_180 F S)
    else
      (some (s0, S)))
set_option maxRecDepth 4000 in
theorem gX11_putIn_157 {E : CT} (X : Cx E layM cX11_putIn RX11 8 (some .int) 1) (F : Nat) (S : ST) (x3 : Int32) (x6 : Int32) (s0 : Int32) : G E (fX11_putIn_157 F S x3 x6 s0) S 157 [(0, .ref (eA E 0)), (3, .int x3), (6, .int x6)] [.int s0] := by
  unfold fX11_putIn_157
  refine r_istore (lv' := [(0, _), (3, _), (6, _), (7, _)]) X (by decide) rfl dX11_putIn_157 ?_
  refine r_iload X 2 rfl dX11_putIn_159 ?_
  refine r_if_eq (tgt := 180) X dX11_putIn_161 (by decide) (fun _ => ?_) (fun _ => ?_)
  · refine r_sub [] rfl ?_
    exact gX11_putIn_180 X F _
  · refine r_iload X 3 rfl dX11_putIn_164 ?_
    refine r_iload_n X 1 rfl dX11_putIn_166 ?_
    refine r_isub X dX11_putIn_167 ?_
    refine r_aload_n X 0 rfl dX11_putIn_168 ?_
    refine r_getI X fk_X11_108 lm_0 rfl dX11_putIn_169 ?_
    refine r_icmp_gt (tgt := 180) X dX11_putIn_172 (by decide) (fun _ => ?_) (fun _ => ?_)
    · refine r_sub [] rfl ?_
      exact gX11_putIn_180 X F _
    · refine r_iload X 3 rfl dX11_putIn_175 ?_
      refine r_goto (tgt := 183) X dX11_putIn_177 (by decide) ?_
      exact r_iret X dX11_putIn_183
def fX11_putIn_31 (F : Nat) : Nat → ST → Int32 → Int32 → Int32 → Int32 → Int32 → Int32 → Int32 → Option (Int32 × ST)
  | 0, _, _, _, _, _, _, _, _ => none
  | n + 1, S, x1, x2, x3, x4, x5, x6, x7 =>
  if (S.1 0 53) ≤ x7 then
    (if x2 ≤ x4 then
      (fX11_putIn_157 F S x3 x6 x4)
    else
      (fX11_putIn_157 F S x3 x6 x2))
  else
    (if ((x1 >>> (x7 &&& 31)) &&& (1 : Int32)) = 0 then
      (fX11_putIn_31 F n S x1 x2 x3 x4 x5 x6 (x7 + (1 : Int32)))
    else
      (if x6 = 0 then
        (fX11_putIn_78 F (fX11_putIn_31 F n) S x1 x2 x3 x4 x7)
      else
        (if x5 < 0 then
          (fX11_putIn_79 F (fX11_putIn_31 F n) S x1 x2 x3 x4 x7 (1 : Int32))
        else
          ((if vin x7 10 = true then if x5 = (S.1 28 (ix x7)) then
            (fX11_putIn_79 F (fX11_putIn_31 F n) S x1 x2 x3 x4 x7 (1 : Int32))
          else
            (fX11_putIn_78 F (fX11_putIn_31 F n) S x1 x2 x3 x4 x7) else none)))))
set_option maxRecDepth 4000 in
theorem gX11_putIn_31 {E : CT} (X : Cx E layM cX11_putIn RX11 8 (some .int) 1) (F : Nat) : ∀ (n : Nat) (S : ST) (x1 : Int32) (x2 : Int32) (x3 : Int32) (x4 : Int32) (x5 : Int32) (x6 : Int32) (x7 : Int32), G E (fX11_putIn_31 F n S x1 x2 x3 x4 x5 x6 x7) S 31 [(0, .ref (eA E 0)), (1, .int x1), (2, .int x2), (3, .int x3), (4, .int x4), (5, .int x5), (6, .int x6), (7, .int x7)] []
  | 0, _, _, _, _, _, _, _, _ => r_none
  | n + 1, S, x1, x2, x3, x4, x5, x6, x7 => by
    have ih := gX11_putIn_31 X F n
    unfold fX11_putIn_31
    refine r_iload X 7 rfl dX11_putIn_31 ?_
    refine r_aload_n X 0 rfl dX11_putIn_33 ?_
    refine r_getI X fk_X11_313 lm_0 rfl dX11_putIn_34 ?_
    refine r_icmp_ge (tgt := 145) X dX11_putIn_37 (by decide) (fun _ => ?_) (fun _ => ?_)
    · refine r_iload_n X 2 rfl dX11_putIn_145 ?_
      refine r_iload X 4 rfl dX11_putIn_146 ?_
      refine r_icmp_le (tgt := 155) X dX11_putIn_148 (by decide) (fun _ => ?_) (fun _ => ?_)
      · refine r_iload X 4 rfl dX11_putIn_155 ?_
        refine r_sub [0, 3, 6] rfl ?_
        exact gX11_putIn_157 X F _ _ _ _
      · refine r_iload_n X 2 rfl dX11_putIn_151 ?_
        refine r_goto (tgt := 157) X dX11_putIn_152 (by decide) ?_
        refine r_sub [0, 3, 6] rfl ?_
        exact gX11_putIn_157 X F _ _ _ _
    · refine r_iload_n X 1 rfl dX11_putIn_40 ?_
      refine r_iload X 7 rfl dX11_putIn_41 ?_
      refine r_ishr X dX11_putIn_43 ?_
      refine r_iconst (v := 1) X (by decide) dX11_putIn_44 ?_
      refine r_iand X dX11_putIn_45 ?_
      refine r_if_ne (tgt := 52) X dX11_putIn_46 (by decide) (fun _ => ?_) (fun _ => ?_)
      · refine r_iload X 6 rfl dX11_putIn_52 ?_
        refine r_if_eq (tgt := 78) X dX11_putIn_54 (by decide) (fun _ => ?_) (fun _ => ?_)
        · refine r_sub [0, 1, 2, 3, 4, 7] rfl ?_
          exact gX11_putIn_78 X F _ ih _ _ _ _ _ _
        · refine r_iload X 5 rfl dX11_putIn_57 ?_
          refine r_if_lt (tgt := 74) X dX11_putIn_59 (by decide) (fun _ => ?_) (fun _ => ?_)
          · refine r_iconst (v := 1) X (by decide) dX11_putIn_74 ?_
            refine r_goto (tgt := 79) X dX11_putIn_75 (by decide) ?_
            refine r_sub [0, 1, 2, 3, 4, 7] rfl ?_
            exact gX11_putIn_79 X F _ ih _ _ _ _ _ _ _
          · refine r_iload X 5 rfl dX11_putIn_62 ?_
            refine r_aload_n X 0 rfl dX11_putIn_64 ?_
            refine r_getR X fk_X11_111 lm_0 rfl dX11_putIn_65 ?_
            refine r_iload X 7 rfl dX11_putIn_68 ?_
            refine r_iald X lm_28 dX11_putIn_70 (fun _ => ?_)
            refine r_icmp_ne (tgt := 78) X dX11_putIn_71 (by decide) (fun _ => ?_) (fun _ => ?_)
            · refine r_sub [0, 1, 2, 3, 4, 7] rfl ?_
              exact gX11_putIn_78 X F _ ih _ _ _ _ _ _
            · refine r_iconst (v := 1) X (by decide) dX11_putIn_74 ?_
              refine r_goto (tgt := 79) X dX11_putIn_75 (by decide) ?_
              refine r_sub [0, 1, 2, 3, 4, 7] rfl ?_
              exact gX11_putIn_79 X F _ ih _ _ _ _ _ _ _
      · refine r_goto (tgt := 139) X dX11_putIn_49 (by decide) ?_
        refine r_iinc (lv' := [(0, _), (1, _), (2, _), (3, _), (4, _), (5, _), (6, _), (7, _)]) (dl := 1) X 7 rfl (by decide) (by decide) rfl dX11_putIn_139 ?_
        refine r_goto (tgt := 31) X dX11_putIn_142 (by decide) ?_
        exact ih _ _ _ _ _ _ _ _
def fX11_putIn_26 (F : Nat) (S : ST) (x1 : Int32) (x2 : Int32) (x3 : Int32) (x4 : Int32) (x5 : Int32) (s0 : Int32) : Option (Int32 × ST) :=
  fX11_putIn_31 F F S x1 x2 x3 x4 x5 s0 (0 : Int32)
set_option maxRecDepth 4000 in
theorem gX11_putIn_26 {E : CT} (X : Cx E layM cX11_putIn RX11 8 (some .int) 1) (F : Nat) (S : ST) (x1 : Int32) (x2 : Int32) (x3 : Int32) (x4 : Int32) (x5 : Int32) (s0 : Int32) : G E (fX11_putIn_26 F S x1 x2 x3 x4 x5 s0) S 26 [(0, .ref (eA E 0)), (1, .int x1), (2, .int x2), (3, .int x3), (4, .int x4), (5, .int x5)] [.int s0] := by
  unfold fX11_putIn_26
  refine r_istore (lv' := [(0, _), (1, _), (2, _), (3, _), (4, _), (5, _), (6, _)]) X (by decide) rfl dX11_putIn_26 ?_
  refine r_iconst (v := 0) X (by decide) dX11_putIn_28 ?_
  refine r_istore (lv' := [(0, _), (1, _), (2, _), (3, _), (4, _), (5, _), (6, _), (7, _)]) X (by decide) rfl dX11_putIn_29 ?_
  exact gX11_putIn_31 X F F _ _ _ _ _ _ _ _
def fX11_putIn (F : Nat) (S : ST) (x1 : Int32) (x2 : Int32) : Option (Int32 × ST) :=
  (fX11_many F S x1).bind (fun q11 => if (q11.2.1 0 49) < q11.1 then
    (fX11_putIn_26 F q11.2 x1 x2 (1000000000 : Int32) (0 : Int32) (-1 : Int32) (0 : Int32))
  else
    (fX11_putIn_26 F q11.2 x1 x2 (1000000000 : Int32) (0 : Int32) (-1 : Int32) (1 : Int32)))
set_option maxRecDepth 4000 in
theorem gX11_putIn {E : CT} (X : Cx E layM cX11_putIn RX11 8 (some .int) 1) (F : Nat) (S : ST) (x1 : Int32) (x2 : Int32) : G E (fX11_putIn F S x1 x2) S 0 [(0, .ref (eA E 0)), (1, .int x1), (2, .int x2)] [] := by
  unfold fX11_putIn
  refine r_ldcw X kc_X11_316 dX11_putIn_0 ?_
  refine r_istore_n (lv' := [(0, _), (1, _), (2, _), (3, _)]) X (by decide) rfl dX11_putIn_3 ?_
  refine r_iconst (v := 0) X (by decide) dX11_putIn_4 ?_
  refine r_istore (lv' := [(0, _), (1, _), (2, _), (3, _), (4, _)]) X (by decide) rfl dX11_putIn_5 ?_
  refine r_iconst (v := -1) X (by decide) dX11_putIn_7 ?_
  refine r_istore (lv' := [(0, _), (1, _), (2, _), (3, _), (4, _), (5, _)]) X (by decide) rfl dX11_putIn_8 ?_
  refine r_iload_n X 1 rfl dX11_putIn_10 ?_
  refine r_callS X (mX11_many _ _ _) mk_X11_many lk_X11_317 rfl (by decide) (by decide) (Nat.le_of_ble_eq_true rfl) rfl dX11_putIn_11 (fun q11 _ => ?_)
  refine r_aload_n X 0 rfl dX11_putIn_14 ?_
  refine r_getI X fk_X11_99 lm_0 rfl dX11_putIn_15 ?_
  refine r_icmp_gt (tgt := 25) X dX11_putIn_18 (by decide) (fun _ => ?_) (fun _ => ?_)
  · refine r_iconst (v := 0) X (by decide) dX11_putIn_25 ?_
    exact gX11_putIn_26 X F _ _ _ _ _ _ _
  · refine r_iconst (v := 1) X (by decide) dX11_putIn_21 ?_
    refine r_goto (tgt := 26) X dX11_putIn_22 (by decide) ?_
    exact gX11_putIn_26 X F _ _ _ _ _ _ _
theorem mX11_putIn (F : Nat) (S : ST) (x1 : Int32) (x2 : Int32) : MetS yX11_putIn cX11_putIn 8 (some .int) 1 layM (fX11_putIn F S x1 x2) S (fun ad => [.ref (ad 0), .int x1, .int x2]) := mk_met (fun ad => [(0, .ref (ad 0)), (1, .int x1), (2, .int x2)]) (by decide) (fun _ => Nat.le_of_ble_eq_true rfl) (fun _ => rfl) (fun E X => gX11_putIn X F S x1 x2)
def fX11_outBy_30 (F : Nat) (S : ST) (x2 : Int32) (s0 : Int32) : Option (Int32 × ST) :=
  if s0 = (1000000000 : Int32) then
    (some ((1000000000 : Int32), S))
  else
    ((fX11_lasts F S x2).bind (fun q50 => some ((s0 + q50.1), q50.2)))
set_option maxRecDepth 4000 in
theorem gX11_outBy_30 {E : CT} (X : Cx E layM cX11_outBy RX11 5 (some .int) 2) (F : Nat) (S : ST) (x2 : Int32) (s0 : Int32) : G E (fX11_outBy_30 F S x2 s0) S 30 [(0, .ref (eA E 0)), (2, .int x2)] [.int s0] := by
  unfold fX11_outBy_30
  refine r_istore (lv' := [(0, _), (2, _), (4, _)]) X (by decide) rfl dX11_outBy_30 ?_
  refine r_iload X 2 rfl dX11_outBy_32 ?_
  refine r_ldcw X kc_X11_316 dX11_outBy_34 ?_
  refine r_icmp_ne (tgt := 46) X dX11_outBy_37 (by decide) (fun _ => ?_) (fun _ => ?_)
  · refine r_iload X 2 rfl dX11_outBy_46 ?_
    refine r_aload_n X 0 rfl dX11_outBy_48 ?_
    refine r_iload_n X 1 rfl dX11_outBy_49 ?_
    refine r_callV X (mX11_lasts _ _ _) mk_X11_lasts lk_X11_323 lm_0 rfl rfl (by decide) (by decide) (Nat.le_of_ble_eq_true rfl) rfl dX11_outBy_50 (fun q50 _ => ?_)
    refine r_iadd X dX11_outBy_53 ?_
    exact r_iret X dX11_outBy_54
  · refine r_ldcw X kc_X11_316 dX11_outBy_40 ?_
    refine r_goto (tgt := 54) X dX11_outBy_43 (by decide) ?_
    exact r_iret X dX11_outBy_54
def fX11_outBy (F : Nat) (S : ST) (x1 : Int32) (x2 : Int32) : Option (Int32 × ST) :=
  (if vin (x1 &&& (x2 ^^^ (-1 : Int32))) 1024 = true then bindI ((S.1 30 (ix (x1 &&& (x2 ^^^ (-1 : Int32)))))) (fun v10 => if v10 = (1000000000 : Int32) then
    (fX11_outBy_30 F S x2 (1000000000 : Int32))
  else
    ((fX11_putIn F S x2 v10).bind (fun q27 => fX11_outBy_30 F q27.2 x2 q27.1))) else none)
set_option maxRecDepth 4000 in
theorem gX11_outBy {E : CT} (X : Cx E layM cX11_outBy RX11 5 (some .int) 2) (F : Nat) (S : ST) (x1 : Int32) (x2 : Int32) : G E (fX11_outBy F S x1 x2) S 0 [(0, .ref (eA E 0)), (1, .int x1), (2, .int x2)] [] := by
  unfold fX11_outBy
  refine r_aload_n X 0 rfl dX11_outBy_0 ?_
  refine r_getR X fk_X11_117 lm_0 rfl dX11_outBy_1 ?_
  refine r_iload_n X 1 rfl dX11_outBy_4 ?_
  refine r_iload_n X 2 rfl dX11_outBy_5 ?_
  refine r_iconst (v := -1) X (by decide) dX11_outBy_6 ?_
  refine r_ixor X dX11_outBy_7 ?_
  refine r_iand X dX11_outBy_8 ?_
  refine r_iald X lm_30 dX11_outBy_9 (fun _ => ?_)
  refine r_bindI (fun v10 => ?_)
  refine r_istore_n (lv' := [(0, _), (1, _), (2, _), (3, _)]) X (by decide) rfl dX11_outBy_10 ?_
  refine r_iload_n X 3 rfl dX11_outBy_11 ?_
  refine r_ldcw X kc_X11_316 dX11_outBy_12 ?_
  refine r_icmp_ne (tgt := 24) X dX11_outBy_15 (by decide) (fun _ => ?_) (fun _ => ?_)
  · refine r_aload_n X 0 rfl dX11_outBy_24 ?_
    refine r_iload_n X 2 rfl dX11_outBy_25 ?_
    refine r_iload_n X 3 rfl dX11_outBy_26 ?_
    refine r_callV X (mX11_putIn _ _ _ _) mk_X11_putIn lk_X11_320 lm_0 rfl rfl (by decide) (by decide) (Nat.le_of_ble_eq_true rfl) rfl dX11_outBy_27 (fun q27 _ => ?_)
    refine r_sub [0, 2] rfl ?_
    exact gX11_outBy_30 X F _ _ _
  · refine r_ldcw X kc_X11_316 dX11_outBy_18 ?_
    refine r_goto (tgt := 30) X dX11_outBy_21 (by decide) ?_
    refine r_sub [0, 2] rfl ?_
    exact gX11_outBy_30 X F _ _ _
theorem mX11_outBy (F : Nat) (S : ST) (x1 : Int32) (x2 : Int32) : MetS yX11_outBy cX11_outBy 5 (some .int) 2 layM (fX11_outBy F S x1 x2) S (fun ad => [.ref (ad 0), .int x1, .int x2]) := mk_met (fun ad => [(0, .ref (ad 0)), (1, .int x1), (2, .int x2)]) (by decide) (fun _ => Nat.le_of_ble_eq_true rfl) (fun _ => rfl) (fun E X => gX11_outBy X F S x1 x2)
def fX11_seek_71 (F : Nat) (k14 : ST → Int32 → Option (Int32 × ST)) (k35 : ST → Int32 → Int32 → Option (Int32 × ST)) (S : ST) (x1 : Int32) (x2 : Int32) (s0 : Int32) (s1 : Int32) : Option (Int32 × ST) :=
  (if vin s1 1024 = true then bindS (us S 30 (ix s1) s0) (fun S71 => bindI (((x2 - (1 : Int32)) &&& x1)) (fun v77 => k35 S71 x1 v77)) else none)
set_option maxRecDepth 4000 in
theorem gX11_seek_71 {E : CT} (X : Cx E layM cX11_seek RX11 4 none 3) (F : Nat) (k14 : ST → Int32 → Option (Int32 × ST)) (h14 : ∀ (S : ST) (x1 : Int32), G E (k14 S x1) S 14 [(0, .ref (eA E 0)), (1, .int x1)] []) (k35 : ST → Int32 → Int32 → Option (Int32 × ST)) (h35 : ∀ (S : ST) (x1 : Int32) (x2 : Int32), G E (k35 S x1 x2) S 35 [(0, .ref (eA E 0)), (1, .int x1), (2, .int x2)] []) (S : ST) (x1 : Int32) (x2 : Int32) (s0 : Int32) (s1 : Int32) : G E (fX11_seek_71 F k14 k35 S x1 x2 s0 s1) S 71 [(0, .ref (eA E 0)), (1, .int x1), (2, .int x2)] [.int s0, .int s1, .ref (eA E 30)] := by
  unfold fX11_seek_71
  refine r_iast X lm_30 dX11_seek_71 (fun _ => ?_)
  refine r_bindS (fun S71 => ?_)
  refine r_iload_n X 2 rfl dX11_seek_72 ?_
  refine r_iconst (v := 1) X (by decide) dX11_seek_73 ?_
  refine r_isub X dX11_seek_74 ?_
  refine r_iload_n X 1 rfl dX11_seek_75 ?_
  refine r_iand X dX11_seek_76 ?_
  refine r_bindI (fun v77 => ?_)
  refine r_istore_n (lv' := [(0, _), (1, _), (2, _)]) X (by decide) rfl dX11_seek_77 ?_
  refine r_goto (tgt := 35) X dX11_seek_78 (by decide) ?_
  exact h35 _ _ _
def fX11_seek_134 (F : Nat) (k14 : ST → Int32 → Option (Int32 × ST)) (S : ST) (x1 : Int32) : Option (Int32 × ST) :=
  bindS (us S 0 59 x1) (fun S136 => k14 S136 (x1 + (1 : Int32)))
set_option maxRecDepth 4000 in
theorem gX11_seek_134 {E : CT} (X : Cx E layM cX11_seek RX11 4 none 3) (F : Nat) (k14 : ST → Int32 → Option (Int32 × ST)) (h14 : ∀ (S : ST) (x1 : Int32), G E (k14 S x1) S 14 [(0, .ref (eA E 0)), (1, .int x1)] []) (S : ST) (x1 : Int32) : G E (fX11_seek_134 F k14 S x1) S 134 [(0, .ref (eA E 0)), (1, .int x1)] [] := by
  unfold fX11_seek_134
  refine r_aload_n X 0 rfl dX11_seek_134 ?_
  refine r_iload_n X 1 rfl dX11_seek_135 ?_
  refine r_putI X pk_X11_326 lm_0 rfl dX11_seek_136 ?_
  refine r_bindS (fun S136 => ?_)
  refine r_iinc (lv' := [(0, _), (1, _)]) (dl := 1) X 1 rfl (by decide) (by decide) rfl dX11_seek_139 ?_
  refine r_goto (tgt := 14) X dX11_seek_142 (by decide) ?_
  exact h14 _ _
def fX11_seek_35 (F : Nat) (k14 : ST → Int32 → Option (Int32 × ST)) : Nat → ST → Int32 → Int32 → Option (Int32 × ST)
  | 0, _, _, _ => none
  | n + 1, S, x1, x2 =>
  if x2 ≤ 0 then
    ((fX11_many F S x1).bind (fun q82 => (fX11_many F q82.2 (q82.2.1 0 59)).bind (fun q90 => (if vin x1 1024 = true then if (1000000000 : Int32) ≤ (q90.2.1 30 (ix x1)) then
      (k14 q90.2 (x1 + (1 : Int32)))
    else
      (if q90.1 < q82.1 then
        (fX11_seek_134 F k14 q90.2 x1)
      else
        (if q82.1 = q90.1 then
          ((if vin x1 1024 = true then (if vin (q90.2.1 0 59) 1024 = true then if (q90.2.1 30 (ix (q90.2.1 0 59))) ≤ (q90.2.1 30 (ix x1)) then
            (k14 q90.2 (x1 + (1 : Int32)))
          else
            (fX11_seek_134 F k14 q90.2 x1) else none) else none))
        else
          (k14 q90.2 (x1 + (1 : Int32))))) else none))))
  else
    ((fX11_outBy F S x1 x2).bind (fun q42 => (if vin x1 1024 = true then if (q42.2.1 30 (ix x1)) ≤ q42.1 then
      ((if vin x1 1024 = true then fX11_seek_71 F k14 (fX11_seek_35 F k14 n) q42.2 x1 x2 (q42.2.1 30 (ix x1)) x1 else none))
    else
      (fX11_seek_71 F k14 (fX11_seek_35 F k14 n) q42.2 x1 x2 q42.1 x1) else none)))
set_option maxRecDepth 4000 in
theorem gX11_seek_35 {E : CT} (X : Cx E layM cX11_seek RX11 4 none 3) (F : Nat) (k14 : ST → Int32 → Option (Int32 × ST)) (h14 : ∀ (S : ST) (x1 : Int32), G E (k14 S x1) S 14 [(0, .ref (eA E 0)), (1, .int x1)] []) : ∀ (n : Nat) (S : ST) (x1 : Int32) (x2 : Int32), G E (fX11_seek_35 F k14 n S x1 x2) S 35 [(0, .ref (eA E 0)), (1, .int x1), (2, .int x2)] []
  | 0, _, _, _ => r_none
  | n + 1, S, x1, x2 => by
    have ih := gX11_seek_35 X F k14 h14 n
    unfold fX11_seek_35
    refine r_iload_n X 2 rfl dX11_seek_35 ?_
    refine r_if_le (tgt := 81) X dX11_seek_36 (by decide) (fun _ => ?_) (fun _ => ?_)
    · refine r_iload_n X 1 rfl dX11_seek_81 ?_
      refine r_callS X (mX11_many _ _ _) mk_X11_many lk_X11_317 rfl (by decide) (by decide) (Nat.le_of_ble_eq_true rfl) rfl dX11_seek_82 (fun q82 _ => ?_)
      refine r_istore_n (lv' := [(0, _), (1, _), (2, _)]) X (by decide) rfl dX11_seek_85 ?_
      refine r_aload_n X 0 rfl dX11_seek_86 ?_
      refine r_getI X fk_X11_326 lm_0 rfl dX11_seek_87 ?_
      refine r_callS X (mX11_many _ _ _) mk_X11_many lk_X11_317 rfl (by decide) (by decide) (Nat.le_of_ble_eq_true rfl) rfl dX11_seek_90 (fun q90 _ => ?_)
      refine r_istore_n (lv' := [(0, _), (1, _), (2, _), (3, _)]) X (by decide) rfl dX11_seek_93 ?_
      refine r_aload_n X 0 rfl dX11_seek_94 ?_
      refine r_getR X fk_X11_117 lm_0 rfl dX11_seek_95 ?_
      refine r_iload_n X 1 rfl dX11_seek_98 ?_
      refine r_iald X lm_30 dX11_seek_99 (fun _ => ?_)
      refine r_ldcw X kc_X11_316 dX11_seek_100 ?_
      refine r_icmp_ge (tgt := 139) X dX11_seek_103 (by decide) (fun _ => ?_) (fun _ => ?_)
      · refine r_iinc (lv' := [(0, _), (1, _), (2, _), (3, _)]) (dl := 1) X 1 rfl (by decide) (by decide) rfl dX11_seek_139 ?_
        refine r_goto (tgt := 14) X dX11_seek_142 (by decide) ?_
        refine r_sub [0, 1] rfl ?_
        exact h14 _ _
      · refine r_iload_n X 2 rfl dX11_seek_106 ?_
        refine r_iload_n X 3 rfl dX11_seek_107 ?_
        refine r_icmp_gt (tgt := 134) X dX11_seek_108 (by decide) (fun _ => ?_) (fun _ => ?_)
        · refine r_sub [0, 1] rfl ?_
          exact gX11_seek_134 X F _ h14 _ _
        · refine r_iload_n X 2 rfl dX11_seek_111 ?_
          refine r_iload_n X 3 rfl dX11_seek_112 ?_
          refine r_icmp_ne (tgt := 139) X dX11_seek_113 (by decide) (fun _ => ?_) (fun _ => ?_)
          · refine r_iinc (lv' := [(0, _), (1, _), (2, _), (3, _)]) (dl := 1) X 1 rfl (by decide) (by decide) rfl dX11_seek_139 ?_
            refine r_goto (tgt := 14) X dX11_seek_142 (by decide) ?_
            refine r_sub [0, 1] rfl ?_
            exact h14 _ _
          · refine r_aload_n X 0 rfl dX11_seek_116 ?_
            refine r_getR X fk_X11_117 lm_0 rfl dX11_seek_117 ?_
            refine r_iload_n X 1 rfl dX11_seek_120 ?_
            refine r_iald X lm_30 dX11_seek_121 (fun _ => ?_)
            refine r_aload_n X 0 rfl dX11_seek_122 ?_
            refine r_getR X fk_X11_117 lm_0 rfl dX11_seek_123 ?_
            refine r_aload_n X 0 rfl dX11_seek_126 ?_
            refine r_getI X fk_X11_326 lm_0 rfl dX11_seek_127 ?_
            refine r_iald X lm_30 dX11_seek_130 (fun _ => ?_)
            refine r_icmp_ge (tgt := 139) X dX11_seek_131 (by decide) (fun _ => ?_) (fun _ => ?_)
            · refine r_iinc (lv' := [(0, _), (1, _), (2, _), (3, _)]) (dl := 1) X 1 rfl (by decide) (by decide) rfl dX11_seek_139 ?_
              refine r_goto (tgt := 14) X dX11_seek_142 (by decide) ?_
              refine r_sub [0, 1] rfl ?_
              exact h14 _ _
            · refine r_sub [0, 1] rfl ?_
              exact gX11_seek_134 X F _ h14 _ _
    · refine r_aload_n X 0 rfl dX11_seek_39 ?_
      refine r_iload_n X 1 rfl dX11_seek_40 ?_
      refine r_iload_n X 2 rfl dX11_seek_41 ?_
      refine r_callV X (mX11_outBy _ _ _ _) mk_X11_outBy lk_X11_329 lm_0 rfl rfl (by decide) (by decide) (Nat.le_of_ble_eq_true rfl) rfl dX11_seek_42 (fun q42 _ => ?_)
      refine r_istore_n (lv' := [(0, _), (1, _), (2, _), (3, _)]) X (by decide) rfl dX11_seek_45 ?_
      refine r_aload_n X 0 rfl dX11_seek_46 ?_
      refine r_getR X fk_X11_117 lm_0 rfl dX11_seek_47 ?_
      refine r_iload_n X 1 rfl dX11_seek_50 ?_
      refine r_iload_n X 3 rfl dX11_seek_51 ?_
      refine r_aload_n X 0 rfl dX11_seek_52 ?_
      refine r_getR X fk_X11_117 lm_0 rfl dX11_seek_53 ?_
      refine r_iload_n X 1 rfl dX11_seek_56 ?_
      refine r_iald X lm_30 dX11_seek_57 (fun _ => ?_)
      refine r_icmp_ge (tgt := 65) X dX11_seek_58 (by decide) (fun _ => ?_) (fun _ => ?_)
      · refine r_aload_n X 0 rfl dX11_seek_65 ?_
        refine r_getR X fk_X11_117 lm_0 rfl dX11_seek_66 ?_
        refine r_iload_n X 1 rfl dX11_seek_69 ?_
        refine r_iald X lm_30 dX11_seek_70 (fun _ => ?_)
        refine r_sub [0, 1, 2] rfl ?_
        exact gX11_seek_71 X F _ h14 _ ih _ _ _ _ _
      · refine r_iload_n X 3 rfl dX11_seek_61 ?_
        refine r_goto (tgt := 71) X dX11_seek_62 (by decide) ?_
        refine r_sub [0, 1, 2] rfl ?_
        exact gX11_seek_71 X F _ h14 _ ih _ _ _ _ _
def fX11_seek_161 (F : Nat) (k155 : ST → Int32 → Option (Int32 × ST)) : Nat → ST → Int32 → Int32 → Option (Int32 × ST)
  | 0, _, _, _ => none
  | n + 1, S, x1, x2 =>
  if (x2 &&& (x1 ^^^ (-1 : Int32))) = 0 then
    ((fX11_outBy F S x1 x2).bind (fun q172 => (if vin x1 1024 = true then if q172.1 = (q172.2.1 30 (ix x1)) then
      ((if vin (q172.2.1 0 60) 10 = true then bindS (us q172.2 31 (ix (q172.2.1 0 60)) x2) (fun S199 => (if vin (x1 &&& (x2 ^^^ (-1 : Int32))) 1024 = true then (fX11_putIn F S199 x2 (S199.1 30 (ix (x1 &&& (x2 ^^^ (-1 : Int32)))))).bind (fun q220 => (if vin (S199.1 0 60) 10 = true then bindS (us q220.2 32 (ix (S199.1 0 60)) q220.1) (fun S223 => bindS (us S223 0 60 ((S223.1 0 60) + (1 : Int32))) (fun S231 => bindI ((x1 &&& (x2 ^^^ (-1 : Int32)))) (fun v239 => k155 S231 v239))) else none)) else none)) else none))
    else
      (fX11_seek_161 F k155 n q172.2 x1 (x2 + (1 : Int32))) else none)))
  else
    (fX11_seek_161 F k155 n S x1 (x2 + (1 : Int32)))
set_option maxRecDepth 4000 in
theorem gX11_seek_161 {E : CT} (X : Cx E layM cX11_seek RX11 4 none 3) (F : Nat) (k155 : ST → Int32 → Option (Int32 × ST)) (h155 : ∀ (S : ST) (x1 : Int32), G E (k155 S x1) S 155 [(0, .ref (eA E 0)), (1, .int x1)] []) : ∀ (n : Nat) (S : ST) (x1 : Int32) (x2 : Int32), G E (fX11_seek_161 F k155 n S x1 x2) S 161 [(0, .ref (eA E 0)), (1, .int x1), (2, .int x2)] []
  | 0, _, _, _ => r_none
  | n + 1, S, x1, x2 => by
    have ih := gX11_seek_161 X F k155 h155 n
    unfold fX11_seek_161
    refine r_iload_n X 2 rfl dX11_seek_161 ?_
    refine r_iload_n X 1 rfl dX11_seek_162 ?_
    refine r_iconst (v := -1) X (by decide) dX11_seek_163 ?_
    refine r_ixor X dX11_seek_164 ?_
    refine r_iand X dX11_seek_165 ?_
    refine r_if_ne (tgt := 184) X dX11_seek_166 (by decide) (fun _ => ?_) (fun _ => ?_)
    · refine r_iinc (lv' := [(0, _), (1, _), (2, _)]) (dl := 1) X 2 rfl (by decide) (by decide) rfl dX11_seek_184 ?_
      refine r_goto (tgt := 161) X dX11_seek_187 (by decide) ?_
      exact ih _ _ _
    · refine r_aload_n X 0 rfl dX11_seek_169 ?_
      refine r_iload_n X 1 rfl dX11_seek_170 ?_
      refine r_iload_n X 2 rfl dX11_seek_171 ?_
      refine r_callV X (mX11_outBy _ _ _ _) mk_X11_outBy lk_X11_329 lm_0 rfl rfl (by decide) (by decide) (Nat.le_of_ble_eq_true rfl) rfl dX11_seek_172 (fun q172 _ => ?_)
      refine r_aload_n X 0 rfl dX11_seek_175 ?_
      refine r_getR X fk_X11_117 lm_0 rfl dX11_seek_176 ?_
      refine r_iload_n X 1 rfl dX11_seek_179 ?_
      refine r_iald X lm_30 dX11_seek_180 (fun _ => ?_)
      refine r_icmp_eq (tgt := 190) X dX11_seek_181 (by decide) (fun _ => ?_) (fun _ => ?_)
      · refine r_aload_n X 0 rfl dX11_seek_190 ?_
        refine r_getR X fk_X11_120 lm_0 rfl dX11_seek_191 ?_
        refine r_aload_n X 0 rfl dX11_seek_194 ?_
        refine r_getI X fk_X11_332 lm_0 rfl dX11_seek_195 ?_
        refine r_iload_n X 2 rfl dX11_seek_198 ?_
        refine r_iast X lm_31 dX11_seek_199 (fun _ => ?_)
        refine r_bindS (fun S199 => ?_)
        refine r_aload_n X 0 rfl dX11_seek_200 ?_
        refine r_getR X fk_X11_123 lm_0 rfl dX11_seek_201 ?_
        refine r_aload_n X 0 rfl dX11_seek_204 ?_
        refine r_getI X fk_X11_332 lm_0 rfl dX11_seek_205 ?_
        refine r_aload_n X 0 rfl dX11_seek_208 ?_
        refine r_iload_n X 2 rfl dX11_seek_209 ?_
        refine r_aload_n X 0 rfl dX11_seek_210 ?_
        refine r_getR X fk_X11_117 lm_0 rfl dX11_seek_211 ?_
        refine r_iload_n X 1 rfl dX11_seek_214 ?_
        refine r_iload_n X 2 rfl dX11_seek_215 ?_
        refine r_iconst (v := -1) X (by decide) dX11_seek_216 ?_
        refine r_ixor X dX11_seek_217 ?_
        refine r_iand X dX11_seek_218 ?_
        refine r_iald X lm_30 dX11_seek_219 (fun _ => ?_)
        refine r_callV X (mX11_putIn _ _ _ _) mk_X11_putIn lk_X11_320 lm_0 rfl rfl (by decide) (by decide) (Nat.le_of_ble_eq_true rfl) rfl dX11_seek_220 (fun q220 _ => ?_)
        refine r_iast X lm_32 dX11_seek_223 (fun _ => ?_)
        refine r_bindS (fun S223 => ?_)
        refine r_aload_n X 0 rfl dX11_seek_224 ?_
        refine r_dup X rfl dX11_seek_225 ?_
        refine r_getI X fk_X11_332 lm_0 rfl dX11_seek_226 ?_
        refine r_iconst (v := 1) X (by decide) dX11_seek_229 ?_
        refine r_iadd X dX11_seek_230 ?_
        refine r_putI X pk_X11_332 lm_0 rfl dX11_seek_231 ?_
        refine r_bindS (fun S231 => ?_)
        refine r_iload_n X 1 rfl dX11_seek_234 ?_
        refine r_iload_n X 2 rfl dX11_seek_235 ?_
        refine r_iconst (v := -1) X (by decide) dX11_seek_236 ?_
        refine r_ixor X dX11_seek_237 ?_
        refine r_iand X dX11_seek_238 ?_
        refine r_bindI (fun v239 => ?_)
        refine r_istore_n (lv' := [(0, _), (1, _), (2, _)]) X (by decide) rfl dX11_seek_239 ?_
        refine r_goto (tgt := 155) X dX11_seek_240 (by decide) ?_
        refine r_sub [0, 1] rfl ?_
        exact h155 _ _
      · refine r_iinc (lv' := [(0, _), (1, _), (2, _)]) (dl := 1) X 2 rfl (by decide) (by decide) rfl dX11_seek_184 ?_
        refine r_goto (tgt := 161) X dX11_seek_187 (by decide) ?_
        exact ih _ _ _
def fX11_seek_155 (F : Nat) : Nat → ST → Int32 → Option (Int32 × ST)
  | 0, _, _ => none
  | n + 1, S, x1 =>
  if x1 ≤ 0 then
    (some ((0 : Int32), S))
  else
    (fX11_seek_161 F (fX11_seek_155 F n) F S x1 (1 : Int32))
set_option maxRecDepth 4000 in
theorem gX11_seek_155 {E : CT} (X : Cx E layM cX11_seek RX11 4 none 3) (F : Nat) : ∀ (n : Nat) (S : ST) (x1 : Int32), G E (fX11_seek_155 F n S x1) S 155 [(0, .ref (eA E 0)), (1, .int x1)] []
  | 0, _, _ => r_none
  | n + 1, S, x1 => by
    have ih := gX11_seek_155 X F n
    unfold fX11_seek_155
    refine r_iload_n X 1 rfl dX11_seek_155 ?_
    refine r_if_le (tgt := 243) X dX11_seek_156 (by decide) (fun _ => ?_) (fun _ => ?_)
    · exact r_vret X dX11_seek_243
    · refine r_iconst (v := 1) X (by decide) dX11_seek_159 ?_
      refine r_istore_n (lv' := [(0, _), (1, _), (2, _)]) X (by decide) rfl dX11_seek_160 ?_
      exact gX11_seek_161 X F _ ih F _ _ _
def fX11_seek_14 (F : Nat) : Nat → ST → Int32 → Option (Int32 × ST)
  | 0, _, _ => none
  | n + 1, S, x1 =>
  if ((1 : Int32) <<< ((S.1 0 53) &&& 31)) ≤ x1 then
    (bindS (us S 0 60 (0 : Int32)) (fun S147 => bindI ((S147.1 0 59)) (fun v154 => fX11_seek_155 F F S147 v154)))
  else
    ((if vin x1 1024 = true then bindS (us S 30 (ix x1) (1000000000 : Int32)) (fun S32 => fX11_seek_35 F (fX11_seek_14 F n) F S32 x1 x1) else none))
set_option maxRecDepth 4000 in
theorem gX11_seek_14 {E : CT} (X : Cx E layM cX11_seek RX11 4 none 3) (F : Nat) : ∀ (n : Nat) (S : ST) (x1 : Int32), G E (fX11_seek_14 F n S x1) S 14 [(0, .ref (eA E 0)), (1, .int x1)] []
  | 0, _, _ => r_none
  | n + 1, S, x1 => by
    have ih := gX11_seek_14 X F n
    unfold fX11_seek_14
    refine r_iload_n X 1 rfl dX11_seek_14 ?_
    refine r_iconst (v := 1) X (by decide) dX11_seek_15 ?_
    refine r_aload_n X 0 rfl dX11_seek_16 ?_
    refine r_getI X fk_X11_313 lm_0 rfl dX11_seek_17 ?_
    refine r_ishl X dX11_seek_20 ?_
    refine r_icmp_ge (tgt := 145) X dX11_seek_21 (by decide) (fun _ => ?_) (fun _ => ?_)
    · refine r_aload_n X 0 rfl dX11_seek_145 ?_
      refine r_iconst (v := 0) X (by decide) dX11_seek_146 ?_
      refine r_putI X pk_X11_332 lm_0 rfl dX11_seek_147 ?_
      refine r_bindS (fun S147 => ?_)
      refine r_aload_n X 0 rfl dX11_seek_150 ?_
      refine r_getI X fk_X11_326 lm_0 rfl dX11_seek_151 ?_
      refine r_bindI (fun v154 => ?_)
      refine r_istore_n (lv' := [(0, _), (1, _)]) X (by decide) rfl dX11_seek_154 ?_
      exact gX11_seek_155 X F F _ _
    · refine r_aload_n X 0 rfl dX11_seek_24 ?_
      refine r_getR X fk_X11_117 lm_0 rfl dX11_seek_25 ?_
      refine r_iload_n X 1 rfl dX11_seek_28 ?_
      refine r_ldcw X kc_X11_316 dX11_seek_29 ?_
      refine r_iast X lm_30 dX11_seek_32 (fun _ => ?_)
      refine r_bindS (fun S32 => ?_)
      refine r_iload_n X 1 rfl dX11_seek_33 ?_
      refine r_istore_n (lv' := [(0, _), (1, _), (2, _)]) X (by decide) rfl dX11_seek_34 ?_
      exact gX11_seek_35 X F _ ih F _ _ _
def fX11_seek (F : Nat) (S : ST) : Option (Int32 × ST) :=
  bindS (us S 0 59 (0 : Int32)) (fun S2 => (if vin (0 : Int32) 1024 = true then bindS (us S2 30 (ix (0 : Int32)) (0 : Int32)) (fun S11 => fX11_seek_14 F F S11 (1 : Int32)) else none))
set_option maxRecDepth 4000 in
theorem gX11_seek {E : CT} (X : Cx E layM cX11_seek RX11 4 none 3) (F : Nat) (S : ST) : G E (fX11_seek F S) S 0 [(0, .ref (eA E 0))] [] := by
  unfold fX11_seek
  refine r_aload_n X 0 rfl dX11_seek_0 ?_
  refine r_iconst (v := 0) X (by decide) dX11_seek_1 ?_
  refine r_putI X pk_X11_326 lm_0 rfl dX11_seek_2 ?_
  refine r_bindS (fun S2 => ?_)
  refine r_aload_n X 0 rfl dX11_seek_5 ?_
  refine r_getR X fk_X11_117 lm_0 rfl dX11_seek_6 ?_
  refine r_iconst (v := 0) X (by decide) dX11_seek_9 ?_
  refine r_iconst (v := 0) X (by decide) dX11_seek_10 ?_
  refine r_iast X lm_30 dX11_seek_11 (fun _ => ?_)
  refine r_bindS (fun S11 => ?_)
  refine r_iconst (v := 1) X (by decide) dX11_seek_12 ?_
  refine r_istore_n (lv' := [(0, _), (1, _)]) X (by decide) rfl dX11_seek_13 ?_
  exact gX11_seek_14 X F F _ _
theorem mX11_seek (F : Nat) (S : ST) : MetS yX11_seek cX11_seek 4 none 3 layM (fX11_seek F S) S (fun ad => [.ref (ad 0)]) := mk_met (fun ad => [(0, .ref (ad 0))]) (by decide) (fun _ => Nat.le_of_ble_eq_true rfl) (fun _ => rfl) (fun E X => gX11_seek X F S)
def fX11_load (F : Nat) (S : ST) (x1 : Int32) (x2 : Int32) : Option (Int32 × ST) :=
  (fX11_seek F S).bind (fun q1 => if x1 < 0 then
    (some ((-1 : Int32), q1.2))
  else
    (if x1 < (q1.2.1 0 60) then
      (if x2 = 0 then
        ((if vin (((q1.2.1 0 60) - (1 : Int32)) - x1) 10 = true then some ((q1.2.1 31 (ix (((q1.2.1 0 60) - (1 : Int32)) - x1))), q1.2) else none))
      else
        (if x2 = (1 : Int32) then
          ((if vin (((q1.2.1 0 60) - (1 : Int32)) - x1) 10 = true then some ((q1.2.1 32 (ix (((q1.2.1 0 60) - (1 : Int32)) - x1))), q1.2) else none))
        else
          (some ((-1 : Int32), q1.2))))
    else
      (some ((-1 : Int32), q1.2))))
set_option maxRecDepth 4000 in
theorem gX11_load {E : CT} (X : Cx E layM cX11_load RX11 3 (some .int) 4) (F : Nat) (S : ST) (x1 : Int32) (x2 : Int32) : G E (fX11_load F S x1 x2) S 0 [(0, .ref (eA E 0)), (1, .int x1), (2, .int x2)] [] := by
  unfold fX11_load
  refine r_aload_n X 0 rfl dX11_load_0 ?_
  refine r_callVv X (mX11_seek _ _) mk_X11_seek lk_X11_335 lm_0 rfl rfl (by decide) (by decide) (Nat.le_of_ble_eq_true rfl) rfl dX11_load_1 (fun q1 _ => ?_)
  refine r_iload_n X 1 rfl dX11_load_4 ?_
  refine r_if_lt (tgt := 16) X dX11_load_5 (by decide) (fun _ => ?_) (fun _ => ?_)
  · refine r_iconst (v := -1) X (by decide) dX11_load_16 ?_
    refine r_goto (tgt := 62) X dX11_load_17 (by decide) ?_
    exact r_iret X dX11_load_62
  · refine r_iload_n X 1 rfl dX11_load_8 ?_
    refine r_aload_n X 0 rfl dX11_load_9 ?_
    refine r_getI X fk_X11_332 lm_0 rfl dX11_load_10 ?_
    refine r_icmp_lt (tgt := 20) X dX11_load_13 (by decide) (fun _ => ?_) (fun _ => ?_)
    · refine r_iload_n X 2 rfl dX11_load_20 ?_
      refine r_if_ne (tgt := 40) X dX11_load_21 (by decide) (fun _ => ?_) (fun _ => ?_)
      · refine r_iload_n X 2 rfl dX11_load_40 ?_
        refine r_iconst (v := 1) X (by decide) dX11_load_41 ?_
        refine r_icmp_ne (tgt := 61) X dX11_load_42 (by decide) (fun _ => ?_) (fun _ => ?_)
        · refine r_iconst (v := -1) X (by decide) dX11_load_61 ?_
          exact r_iret X dX11_load_62
        · refine r_aload_n X 0 rfl dX11_load_45 ?_
          refine r_getR X fk_X11_123 lm_0 rfl dX11_load_46 ?_
          refine r_aload_n X 0 rfl dX11_load_49 ?_
          refine r_getI X fk_X11_332 lm_0 rfl dX11_load_50 ?_
          refine r_iconst (v := 1) X (by decide) dX11_load_53 ?_
          refine r_isub X dX11_load_54 ?_
          refine r_iload_n X 1 rfl dX11_load_55 ?_
          refine r_isub X dX11_load_56 ?_
          refine r_iald X lm_32 dX11_load_57 (fun _ => ?_)
          refine r_goto (tgt := 62) X dX11_load_58 (by decide) ?_
          exact r_iret X dX11_load_62
      · refine r_aload_n X 0 rfl dX11_load_24 ?_
        refine r_getR X fk_X11_120 lm_0 rfl dX11_load_25 ?_
        refine r_aload_n X 0 rfl dX11_load_28 ?_
        refine r_getI X fk_X11_332 lm_0 rfl dX11_load_29 ?_
        refine r_iconst (v := 1) X (by decide) dX11_load_32 ?_
        refine r_isub X dX11_load_33 ?_
        refine r_iload_n X 1 rfl dX11_load_34 ?_
        refine r_isub X dX11_load_35 ?_
        refine r_iald X lm_31 dX11_load_36 (fun _ => ?_)
        refine r_goto (tgt := 62) X dX11_load_37 (by decide) ?_
        exact r_iret X dX11_load_62
    · refine r_iconst (v := -1) X (by decide) dX11_load_16 ?_
      refine r_goto (tgt := 62) X dX11_load_17 (by decide) ?_
      exact r_iret X dX11_load_62
theorem mX11_load (F : Nat) (S : ST) (x1 : Int32) (x2 : Int32) : MetS yX11_load cX11_load 3 (some .int) 4 layM (fX11_load F S x1 x2) S (fun ad => [.ref (ad 0), .int x1, .int x2]) := mk_met (fun ad => [(0, .ref (ad 0)), (1, .int x1), (2, .int x2)]) (by decide) (fun _ => Nat.le_of_ble_eq_true rfl) (fun _ => rfl) (fun E X => gX11_load X F S x1 x2)
def fX11_net (F : Nat) (S : ST) (x1 : Int32) (x2 : Int32) : Option (Int32 × ST) :=
  if x1 < 0 then
    (some ((0 : Int32), S))
  else
    (if (24 : Int32) ≤ x1 then
      (some ((0 : Int32), S))
    else
      (if x2 < 0 then
        (some ((0 : Int32), S))
      else
        (if x2 < (16777216 : Int32) then
          ((if vin x1 24 = true then bindS (us S 1 (ix x1) x2) (fun S28 => some ((1 : Int32), S28)) else none))
        else
          (some ((0 : Int32), S)))))
set_option maxRecDepth 4000 in
theorem gX11_net {E : CT} (X : Cx E layM cX11_net RX11 3 (some .boolean) 0) (F : Nat) (S : ST) (x1 : Int32) (x2 : Int32) : G E (fX11_net F S x1 x2) S 0 [(0, .ref (eA E 0)), (1, .int x1), (2, .int x2)] [] := by
  unfold fX11_net
  refine r_iload_n X 1 rfl dX11_net_0 ?_
  refine r_if_lt (tgt := 20) X dX11_net_1 (by decide) (fun _ => ?_) (fun _ => ?_)
  · refine r_iconst (v := 0) X (by decide) dX11_net_20 ?_
    exact r_zret X (by decide) dX11_net_21
  · refine r_iload_n X 1 rfl dX11_net_4 ?_
    refine r_bipush (v := 24) X (by decide) dX11_net_5 ?_
    refine r_icmp_ge (tgt := 20) X dX11_net_7 (by decide) (fun _ => ?_) (fun _ => ?_)
    · refine r_iconst (v := 0) X (by decide) dX11_net_20 ?_
      exact r_zret X (by decide) dX11_net_21
    · refine r_iload_n X 2 rfl dX11_net_10 ?_
      refine r_if_lt (tgt := 20) X dX11_net_11 (by decide) (fun _ => ?_) (fun _ => ?_)
      · refine r_iconst (v := 0) X (by decide) dX11_net_20 ?_
        exact r_zret X (by decide) dX11_net_21
      · refine r_iload_n X 2 rfl dX11_net_14 ?_
        refine r_ldc X kc_X11_126 dX11_net_15 ?_
        refine r_icmp_lt (tgt := 22) X dX11_net_17 (by decide) (fun _ => ?_) (fun _ => ?_)
        · refine r_aload_n X 0 rfl dX11_net_22 ?_
          refine r_getR X fk_X11_7 lm_0 rfl dX11_net_23 ?_
          refine r_iload_n X 1 rfl dX11_net_26 ?_
          refine r_iload_n X 2 rfl dX11_net_27 ?_
          refine r_iast X lm_1 dX11_net_28 (fun _ => ?_)
          refine r_bindS (fun S28 => ?_)
          refine r_iconst (v := 1) X (by decide) dX11_net_29 ?_
          exact r_zret X (by decide) dX11_net_30
        · refine r_iconst (v := 0) X (by decide) dX11_net_20 ?_
          exact r_zret X (by decide) dX11_net_21
theorem mX11_net (F : Nat) (S : ST) (x1 : Int32) (x2 : Int32) : MetS yX11_net cX11_net 3 (some .boolean) 0 layM (fX11_net F S x1 x2) S (fun ad => [.ref (ad 0), .int x1, .int x2]) := mk_met (fun ad => [(0, .ref (ad 0)), (1, .int x1), (2, .int x2)]) (by decide) (fun _ => Nat.le_of_ble_eq_true rfl) (fun _ => rfl) (fun E X => gX11_net X F S x1 x2)
def fX11_patch (F : Nat) (S : ST) (x1 : Int32) (x2 : Int32) : Option (Int32 × ST) :=
  if x1 < 0 then
    (some ((0 : Int32), S))
  else
    (if (3 : Int32) < x1 then
      (some ((0 : Int32), S))
    else
      (if x2 < 0 then
        (some ((0 : Int32), S))
      else
        (if x2 ≤ (100 : Int32) then
          (bindS (us S 0 33 x1) (fun S23 => bindS (us S23 0 34 x2) (fun S28 => some ((1 : Int32), S28))))
        else
          (some ((0 : Int32), S)))))
set_option maxRecDepth 4000 in
theorem gX11_patch {E : CT} (X : Cx E layM cX11_patch RX11 3 (some .boolean) 0) (F : Nat) (S : ST) (x1 : Int32) (x2 : Int32) : G E (fX11_patch F S x1 x2) S 0 [(0, .ref (eA E 0)), (1, .int x1), (2, .int x2)] [] := by
  unfold fX11_patch
  refine r_iload_n X 1 rfl dX11_patch_0 ?_
  refine r_if_lt (tgt := 19) X dX11_patch_1 (by decide) (fun _ => ?_) (fun _ => ?_)
  · refine r_iconst (v := 0) X (by decide) dX11_patch_19 ?_
    exact r_zret X (by decide) dX11_patch_20
  · refine r_iload_n X 1 rfl dX11_patch_4 ?_
    refine r_iconst (v := 3) X (by decide) dX11_patch_5 ?_
    refine r_icmp_gt (tgt := 19) X dX11_patch_6 (by decide) (fun _ => ?_) (fun _ => ?_)
    · refine r_iconst (v := 0) X (by decide) dX11_patch_19 ?_
      exact r_zret X (by decide) dX11_patch_20
    · refine r_iload_n X 2 rfl dX11_patch_9 ?_
      refine r_if_lt (tgt := 19) X dX11_patch_10 (by decide) (fun _ => ?_) (fun _ => ?_)
      · refine r_iconst (v := 0) X (by decide) dX11_patch_19 ?_
        exact r_zret X (by decide) dX11_patch_20
      · refine r_iload_n X 2 rfl dX11_patch_13 ?_
        refine r_bipush (v := 100) X (by decide) dX11_patch_14 ?_
        refine r_icmp_le (tgt := 21) X dX11_patch_16 (by decide) (fun _ => ?_) (fun _ => ?_)
        · refine r_aload_n X 0 rfl dX11_patch_21 ?_
          refine r_iload_n X 1 rfl dX11_patch_22 ?_
          refine r_putI X pk_X11_287 lm_0 rfl dX11_patch_23 ?_
          refine r_bindS (fun S23 => ?_)
          refine r_aload_n X 0 rfl dX11_patch_26 ?_
          refine r_iload_n X 2 rfl dX11_patch_27 ?_
          refine r_putI X pk_X11_56 lm_0 rfl dX11_patch_28 ?_
          refine r_bindS (fun S28 => ?_)
          refine r_iconst (v := 1) X (by decide) dX11_patch_31 ?_
          exact r_zret X (by decide) dX11_patch_32
        · refine r_iconst (v := 0) X (by decide) dX11_patch_19 ?_
          exact r_zret X (by decide) dX11_patch_20
theorem mX11_patch (F : Nat) (S : ST) (x1 : Int32) (x2 : Int32) : MetS yX11_patch cX11_patch 3 (some .boolean) 0 layM (fX11_patch F S x1 x2) S (fun ad => [.ref (ad 0), .int x1, .int x2]) := mk_met (fun ad => [(0, .ref (ad 0)), (1, .int x1), (2, .int x2)]) (by decide) (fun _ => Nat.le_of_ble_eq_true rfl) (fun _ => rfl) (fun E X => gX11_patch X F S x1 x2)
def fX11_plan (F : Nat) (S : ST) (x1 : Int32) : Option (Int32 × ST) :=
  (fX11_seek F S).bind (fun q1 => if x1 = 0 then
    ((fX11_many F q1.2 (q1.2.1 0 59)).bind (fun q12 => some (q12.1, q12.2)))
  else
    (if x1 = (1 : Int32) then
      (some ((q1.2.1 0 59), q1.2))
    else
      (if x1 = (2 : Int32) then
        ((if vin (q1.2.1 0 59) 1024 = true then some ((q1.2.1 30 (ix (q1.2.1 0 59))), q1.2) else none))
      else
        (if x1 = (3 : Int32) then
          (some ((q1.2.1 0 60), q1.2))
        else
          (some ((-1 : Int32), q1.2))))))
set_option maxRecDepth 4000 in
theorem gX11_plan {E : CT} (X : Cx E layM cX11_plan RX11 2 (some .int) 4) (F : Nat) (S : ST) (x1 : Int32) : G E (fX11_plan F S x1) S 0 [(0, .ref (eA E 0)), (1, .int x1)] [] := by
  unfold fX11_plan
  refine r_aload_n X 0 rfl dX11_plan_0 ?_
  refine r_callVv X (mX11_seek _ _) mk_X11_seek lk_X11_335 lm_0 rfl rfl (by decide) (by decide) (Nat.le_of_ble_eq_true rfl) rfl dX11_plan_1 (fun q1 _ => ?_)
  refine r_iload_n X 1 rfl dX11_plan_4 ?_
  refine r_if_ne (tgt := 18) X dX11_plan_5 (by decide) (fun _ => ?_) (fun _ => ?_)
  · refine r_iload_n X 1 rfl dX11_plan_18 ?_
    refine r_iconst (v := 1) X (by decide) dX11_plan_19 ?_
    refine r_icmp_ne (tgt := 30) X dX11_plan_20 (by decide) (fun _ => ?_) (fun _ => ?_)
    · refine r_iload_n X 1 rfl dX11_plan_30 ?_
      refine r_iconst (v := 2) X (by decide) dX11_plan_31 ?_
      refine r_icmp_ne (tgt := 47) X dX11_plan_32 (by decide) (fun _ => ?_) (fun _ => ?_)
      · refine r_iload_n X 1 rfl dX11_plan_47 ?_
        refine r_iconst (v := 3) X (by decide) dX11_plan_48 ?_
        refine r_icmp_ne (tgt := 59) X dX11_plan_49 (by decide) (fun _ => ?_) (fun _ => ?_)
        · refine r_iconst (v := -1) X (by decide) dX11_plan_59 ?_
          exact r_iret X dX11_plan_60
        · refine r_aload_n X 0 rfl dX11_plan_52 ?_
          refine r_getI X fk_X11_332 lm_0 rfl dX11_plan_53 ?_
          refine r_goto (tgt := 60) X dX11_plan_56 (by decide) ?_
          exact r_iret X dX11_plan_60
      · refine r_aload_n X 0 rfl dX11_plan_35 ?_
        refine r_getR X fk_X11_117 lm_0 rfl dX11_plan_36 ?_
        refine r_aload_n X 0 rfl dX11_plan_39 ?_
        refine r_getI X fk_X11_326 lm_0 rfl dX11_plan_40 ?_
        refine r_iald X lm_30 dX11_plan_43 (fun _ => ?_)
        refine r_goto (tgt := 60) X dX11_plan_44 (by decide) ?_
        exact r_iret X dX11_plan_60
    · refine r_aload_n X 0 rfl dX11_plan_23 ?_
      refine r_getI X fk_X11_326 lm_0 rfl dX11_plan_24 ?_
      refine r_goto (tgt := 60) X dX11_plan_27 (by decide) ?_
      exact r_iret X dX11_plan_60
  · refine r_aload_n X 0 rfl dX11_plan_8 ?_
    refine r_getI X fk_X11_326 lm_0 rfl dX11_plan_9 ?_
    refine r_callS X (mX11_many _ _ _) mk_X11_many lk_X11_317 rfl (by decide) (by decide) (Nat.le_of_ble_eq_true rfl) rfl dX11_plan_12 (fun q12 _ => ?_)
    refine r_goto (tgt := 60) X dX11_plan_15 (by decide) ?_
    exact r_iret X dX11_plan_60
theorem mX11_plan (F : Nat) (S : ST) (x1 : Int32) : MetS yX11_plan cX11_plan 2 (some .int) 4 layM (fX11_plan F S x1) S (fun ad => [.ref (ad 0), .int x1]) := mk_met (fun ad => [(0, .ref (ad 0)), (1, .int x1)]) (by decide) (fun _ => Nat.le_of_ble_eq_true rfl) (fun _ => rfl) (fun E X => gX11_plan X F S x1)
def fX11_press (F : Nat) (S : ST) (x1 : Int32) (x2 : Int32) (x3 : Int32) (x4 : Int32) : Option (Int32 × ST) :=
  if x1 < (1 : Int32) then
    (some ((0 : Int32), S))
  else
    (if (10 : Int32) < x1 then
      (some ((0 : Int32), S))
    else
      (if x2 < 0 then
        (some ((0 : Int32), S))
      else
        (if (100 : Int32) < x2 then
          (some ((0 : Int32), S))
        else
          (if x3 < 0 then
            (some ((0 : Int32), S))
          else
            (if (10 : Int32) < x3 then
              (some ((0 : Int32), S))
            else
              (if x4 < (1 : Int32) then
                (some ((0 : Int32), S))
              else
                (if x4 ≤ (1000 : Int32) then
                  (bindS (us S 0 49 x1) (fun S49 => bindS (us S49 0 50 x2) (fun S54 => bindS (us S54 0 51 x3) (fun S59 => bindS (us S59 0 52 x4) (fun S65 => some ((1 : Int32), S65))))))
                else
                  (some ((0 : Int32), S)))))))))
set_option maxRecDepth 4000 in
theorem gX11_press {E : CT} (X : Cx E layM cX11_press RX11 5 (some .boolean) 0) (F : Nat) (S : ST) (x1 : Int32) (x2 : Int32) (x3 : Int32) (x4 : Int32) : G E (fX11_press F S x1 x2 x3 x4) S 0 [(0, .ref (eA E 0)), (1, .int x1), (2, .int x2), (3, .int x3), (4, .int x4)] [] := by
  unfold fX11_press
  refine r_iload_n X 1 rfl dX11_press_0 ?_
  refine r_iconst (v := 1) X (by decide) dX11_press_1 ?_
  refine r_icmp_lt (tgt := 45) X dX11_press_2 (by decide) (fun _ => ?_) (fun _ => ?_)
  · refine r_iconst (v := 0) X (by decide) dX11_press_45 ?_
    exact r_zret X (by decide) dX11_press_46
  · refine r_iload_n X 1 rfl dX11_press_5 ?_
    refine r_bipush (v := 10) X (by decide) dX11_press_6 ?_
    refine r_icmp_gt (tgt := 45) X dX11_press_8 (by decide) (fun _ => ?_) (fun _ => ?_)
    · refine r_iconst (v := 0) X (by decide) dX11_press_45 ?_
      exact r_zret X (by decide) dX11_press_46
    · refine r_iload_n X 2 rfl dX11_press_11 ?_
      refine r_if_lt (tgt := 45) X dX11_press_12 (by decide) (fun _ => ?_) (fun _ => ?_)
      · refine r_iconst (v := 0) X (by decide) dX11_press_45 ?_
        exact r_zret X (by decide) dX11_press_46
      · refine r_iload_n X 2 rfl dX11_press_15 ?_
        refine r_bipush (v := 100) X (by decide) dX11_press_16 ?_
        refine r_icmp_gt (tgt := 45) X dX11_press_18 (by decide) (fun _ => ?_) (fun _ => ?_)
        · refine r_iconst (v := 0) X (by decide) dX11_press_45 ?_
          exact r_zret X (by decide) dX11_press_46
        · refine r_iload_n X 3 rfl dX11_press_21 ?_
          refine r_if_lt (tgt := 45) X dX11_press_22 (by decide) (fun _ => ?_) (fun _ => ?_)
          · refine r_iconst (v := 0) X (by decide) dX11_press_45 ?_
            exact r_zret X (by decide) dX11_press_46
          · refine r_iload_n X 3 rfl dX11_press_25 ?_
            refine r_bipush (v := 10) X (by decide) dX11_press_26 ?_
            refine r_icmp_gt (tgt := 45) X dX11_press_28 (by decide) (fun _ => ?_) (fun _ => ?_)
            · refine r_iconst (v := 0) X (by decide) dX11_press_45 ?_
              exact r_zret X (by decide) dX11_press_46
            · refine r_iload X 4 rfl dX11_press_31 ?_
              refine r_iconst (v := 1) X (by decide) dX11_press_33 ?_
              refine r_icmp_lt (tgt := 45) X dX11_press_34 (by decide) (fun _ => ?_) (fun _ => ?_)
              · refine r_iconst (v := 0) X (by decide) dX11_press_45 ?_
                exact r_zret X (by decide) dX11_press_46
              · refine r_iload X 4 rfl dX11_press_37 ?_
                refine r_sipush (v := 1000) X (by decide) dX11_press_39 ?_
                refine r_icmp_le (tgt := 47) X dX11_press_42 (by decide) (fun _ => ?_) (fun _ => ?_)
                · refine r_aload_n X 0 rfl dX11_press_47 ?_
                  refine r_iload_n X 1 rfl dX11_press_48 ?_
                  refine r_putI X pk_X11_99 lm_0 rfl dX11_press_49 ?_
                  refine r_bindS (fun S49 => ?_)
                  refine r_aload_n X 0 rfl dX11_press_52 ?_
                  refine r_iload_n X 2 rfl dX11_press_53 ?_
                  refine r_putI X pk_X11_102 lm_0 rfl dX11_press_54 ?_
                  refine r_bindS (fun S54 => ?_)
                  refine r_aload_n X 0 rfl dX11_press_57 ?_
                  refine r_iload_n X 3 rfl dX11_press_58 ?_
                  refine r_putI X pk_X11_105 lm_0 rfl dX11_press_59 ?_
                  refine r_bindS (fun S59 => ?_)
                  refine r_aload_n X 0 rfl dX11_press_62 ?_
                  refine r_iload X 4 rfl dX11_press_63 ?_
                  refine r_putI X pk_X11_108 lm_0 rfl dX11_press_65 ?_
                  refine r_bindS (fun S65 => ?_)
                  refine r_iconst (v := 1) X (by decide) dX11_press_68 ?_
                  exact r_zret X (by decide) dX11_press_69
                · refine r_iconst (v := 0) X (by decide) dX11_press_45 ?_
                  exact r_zret X (by decide) dX11_press_46
theorem mX11_press (F : Nat) (S : ST) (x1 : Int32) (x2 : Int32) (x3 : Int32) (x4 : Int32) : MetS yX11_press cX11_press 5 (some .boolean) 0 layM (fX11_press F S x1 x2 x3 x4) S (fun ad => [.ref (ad 0), .int x1, .int x2, .int x3, .int x4]) := mk_met (fun ad => [(0, .ref (ad 0)), (1, .int x1), (2, .int x2), (3, .int x3), (4, .int x4)]) (by decide) (fun _ => Nat.le_of_ble_eq_true rfl) (fun _ => rfl) (fun E X => gX11_press X F S x1 x2 x3 x4)
def fX11_sheet (F : Nat) (S : ST) (x1 : Int32) (x2 : Int32) (x3 : Int32) : Option (Int32 × ST) :=
  if x2 < 0 then
    (some ((-1 : Int32), S))
  else
    (if (S.1 0 14) ≤ x2 then
      (some ((-1 : Int32), S))
    else
      (if x1 < 0 then
        (some ((-1 : Int32), S))
      else
        ((if vin x2 8 = true then if ((S.1 0 32) - (S.1 3 (ix x2))) < x1 then
          (some ((-1 : Int32), S))
        else
          (if x3 < 0 then
            (some ((-1 : Int32), S))
          else
            (if x3 ≤ (3 : Int32) then
              ((fX11_isSheet F S x1 x2 x3).bind (fun q46 => if q46.1 = 0 then
                (some ((0 : Int32), q46.2))
              else
                (some ((1 : Int32), q46.2))))
            else
              (some ((-1 : Int32), S)))) else none))))
set_option maxRecDepth 4000 in
theorem gX11_sheet {E : CT} (X : Cx E layM cX11_sheet RX11 4 (some .int) 2) (F : Nat) (S : ST) (x1 : Int32) (x2 : Int32) (x3 : Int32) : G E (fX11_sheet F S x1 x2 x3) S 0 [(0, .ref (eA E 0)), (1, .int x1), (2, .int x2), (3, .int x3)] [] := by
  unfold fX11_sheet
  refine r_iload_n X 2 rfl dX11_sheet_0 ?_
  refine r_if_lt (tgt := 40) X dX11_sheet_1 (by decide) (fun _ => ?_) (fun _ => ?_)
  · refine r_iconst (v := -1) X (by decide) dX11_sheet_40 ?_
    exact r_iret X dX11_sheet_41
  · refine r_iload_n X 2 rfl dX11_sheet_4 ?_
    refine r_aload_n X 0 rfl dX11_sheet_5 ?_
    refine r_getI X fk_X11_278 lm_0 rfl dX11_sheet_6 ?_
    refine r_icmp_ge (tgt := 40) X dX11_sheet_9 (by decide) (fun _ => ?_) (fun _ => ?_)
    · refine r_iconst (v := -1) X (by decide) dX11_sheet_40 ?_
      exact r_iret X dX11_sheet_41
    · refine r_iload_n X 1 rfl dX11_sheet_12 ?_
      refine r_if_lt (tgt := 40) X dX11_sheet_13 (by decide) (fun _ => ?_) (fun _ => ?_)
      · refine r_iconst (v := -1) X (by decide) dX11_sheet_40 ?_
        exact r_iret X dX11_sheet_41
      · refine r_iload_n X 1 rfl dX11_sheet_16 ?_
        refine r_aload_n X 0 rfl dX11_sheet_17 ?_
        refine r_getI X fk_X11_284 lm_0 rfl dX11_sheet_18 ?_
        refine r_aload_n X 0 rfl dX11_sheet_21 ?_
        refine r_getR X fk_X11_20 lm_0 rfl dX11_sheet_22 ?_
        refine r_iload_n X 2 rfl dX11_sheet_25 ?_
        refine r_iald X lm_3 dX11_sheet_26 (fun _ => ?_)
        refine r_isub X dX11_sheet_27 ?_
        refine r_icmp_gt (tgt := 40) X dX11_sheet_28 (by decide) (fun _ => ?_) (fun _ => ?_)
        · refine r_iconst (v := -1) X (by decide) dX11_sheet_40 ?_
          exact r_iret X dX11_sheet_41
        · refine r_iload_n X 3 rfl dX11_sheet_31 ?_
          refine r_if_lt (tgt := 40) X dX11_sheet_32 (by decide) (fun _ => ?_) (fun _ => ?_)
          · refine r_iconst (v := -1) X (by decide) dX11_sheet_40 ?_
            exact r_iret X dX11_sheet_41
          · refine r_iload_n X 3 rfl dX11_sheet_35 ?_
            refine r_iconst (v := 3) X (by decide) dX11_sheet_36 ?_
            refine r_icmp_le (tgt := 42) X dX11_sheet_37 (by decide) (fun _ => ?_) (fun _ => ?_)
            · refine r_aload_n X 0 rfl dX11_sheet_42 ?_
              refine r_iload_n X 1 rfl dX11_sheet_43 ?_
              refine r_iload_n X 2 rfl dX11_sheet_44 ?_
              refine r_iload_n X 3 rfl dX11_sheet_45 ?_
              refine r_callV X (mX11_isSheet _ _ _ _ _) mk_X11_isSheet lk_X11_293 lm_0 rfl rfl (by decide) (by decide) (Nat.le_of_ble_eq_true rfl) rfl dX11_sheet_46 (fun q46 _ => ?_)
              refine r_if_eq (tgt := 56) X dX11_sheet_49 (by decide) (fun _ => ?_) (fun _ => ?_)
              · refine r_iconst (v := 0) X (by decide) dX11_sheet_56 ?_
                exact r_iret X dX11_sheet_57
              · refine r_iconst (v := 1) X (by decide) dX11_sheet_52 ?_
                refine r_goto (tgt := 57) X dX11_sheet_53 (by decide) ?_
                exact r_iret X dX11_sheet_57
            · refine r_iconst (v := -1) X (by decide) dX11_sheet_40 ?_
              exact r_iret X dX11_sheet_41
theorem mX11_sheet (F : Nat) (S : ST) (x1 : Int32) (x2 : Int32) (x3 : Int32) : MetS yX11_sheet cX11_sheet 4 (some .int) 2 layM (fX11_sheet F S x1 x2 x3) S (fun ad => [.ref (ad 0), .int x1, .int x2, .int x3]) := mk_met (fun ad => [(0, .ref (ad 0)), (1, .int x1), (2, .int x2), (3, .int x3)]) (by decide) (fun _ => Nat.le_of_ble_eq_true rfl) (fun _ => rfl) (fun E X => gX11_sheet X F S x1 x2 x3)
