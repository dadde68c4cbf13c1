def fX3_between (F : Nat) (S : ST) (ka0 : Nat) (x1 : Int32) (x2 : Int32) : Option (Int32 × ST) :=
  if x1 < 0 then
    (some ((0 : Int32), S))
  else
    (if x2 < x1 then
      (some ((0 : Int32), S))
    else
      (if x2 < (301 : Int32) then
        ((if vin x2 301 = true then (if vin x1 301 = true then some (((S.1 ka0 (ix x2)) - (S.1 ka0 (ix x1))), S) else none) else none))
      else
        (some ((0 : Int32), S))))
set_option maxRecDepth 4000 in
theorem gX3_between {E : CT} (X : Cx E layC cX3_between RX3 3 (some .int) 0) (F : Nat) (S : ST) (ka0 : Nat) (x1 : Int32) (x2 : Int32) (hka0 : layC[ka0]? = some (.inr (false, 301))) : G E (fX3_between F S ka0 x1 x2) S 0 [(0, .ref (eA E ka0)), (1, .int x1), (2, .int x2)] [] := by
  unfold fX3_between
  refine r_iload_n X 1 rfl dX3_between_0 ?_
  refine r_if_lt (tgt := 15) X dX3_between_1 (by decide) (fun _ => ?_) (fun _ => ?_)
  · refine r_iconst (v := 0) X (by decide) dX3_between_15 ?_
    exact r_iret X dX3_between_16
  · refine r_iload_n X 1 rfl dX3_between_4 ?_
    refine r_iload_n X 2 rfl dX3_between_5 ?_
    refine r_icmp_gt (tgt := 15) X dX3_between_6 (by decide) (fun _ => ?_) (fun _ => ?_)
    · refine r_iconst (v := 0) X (by decide) dX3_between_15 ?_
      exact r_iret X dX3_between_16
    · refine r_iload_n X 2 rfl dX3_between_9 ?_
      refine r_aload_n X 0 rfl dX3_between_10 ?_
      refine r_alen (v := 301) X hka0 (by decide) dX3_between_11 ?_
      refine r_icmp_lt (tgt := 17) X dX3_between_12 (by decide) (fun _ => ?_) (fun _ => ?_)
      · refine r_aload_n X 0 rfl dX3_between_17 ?_
        refine r_iload_n X 2 rfl dX3_between_18 ?_
        refine r_iald X hka0 dX3_between_19 (fun _ => ?_)
        refine r_aload_n X 0 rfl dX3_between_20 ?_
        refine r_iload_n X 1 rfl dX3_between_21 ?_
        refine r_iald X hka0 dX3_between_22 (fun _ => ?_)
        refine r_isub X dX3_between_23 ?_
        exact r_iret X dX3_between_24
      · refine r_iconst (v := 0) X (by decide) dX3_between_15 ?_
        exact r_iret X dX3_between_16
theorem mX3_between (F : Nat) (S : ST) (ka0 : Nat) (x1 : Int32) (x2 : Int32) (hka0 : layC[ka0]? = some (.inr (false, 301))) : MetS yX3_between cX3_between 3 (some .int) 0 layC (fX3_between F S ka0 x1 x2) S (fun ad => [.ref (ad ka0), .int x1, .int x2]) := mk_met (fun ad => [(0, .ref (ad ka0)), (1, .int x1), (2, .int x2)]) (by decide) (fun _ => Nat.le_of_ble_eq_true rfl) (fun _ => rfl) (fun E X => gX3_between X F S ka0 x1 x2 hka0)
def fX3_listRuns_5 (F : Nat) : Nat → ST → Int32 → Int32 → Int32 → Option (Int32 × ST)
  | 0, _, _, _, _ => none
  | n + 1, S, x1, x3, x4 =>
  if x1 < 0 then
    (some ((0 : Int32), S))
  else
    (if (S.1 7 5) < (x1 + x4) then
      (some ((0 : Int32), S))
    else
      (if (101 : Int32) ≤ x4 then
        (some ((0 : Int32), S))
      else
        ((if vin (x1 + x4) 301 = true then bindI ((jmax x3 (jmin x4 (S.1 30 (ix (x1 + x4)))))) (fun v45 => (if vin x4 101 = true then bindS (us S 31 (ix x4) v45) (fun S50 => fX3_listRuns_5 F n S50 x1 v45 (x4 + (1 : Int32))) else none)) else none))))
set_option maxRecDepth 4000 in
theorem gX3_listRuns_5 {E : CT} (X : Cx E layC cX3_listRuns RX3 5 none 1) (F : Nat) : ∀ (n : Nat) (S : ST) (x1 : Int32) (x3 : Int32) (x4 : Int32), G E (fX3_listRuns_5 F n S x1 x3 x4) S 5 [(0, .ref (eA E 7)), (1, .int x1), (2, .ref (eA E 31)), (3, .int x3), (4, .int x4)] []
  | 0, _, _, _, _ => r_none
  | n + 1, S, x1, x3, x4 => by
    have ih := gX3_listRuns_5 X F n
    unfold fX3_listRuns_5
    refine r_iload_n X 1 rfl dX3_listRuns_5 ?_
    refine r_if_lt (tgt := 57) X dX3_listRuns_6 (by decide) (fun _ => ?_) (fun _ => ?_)
    · exact r_vret X dX3_listRuns_57
    · refine r_iload_n X 1 rfl dX3_listRuns_9 ?_
      refine r_iload X 4 rfl dX3_listRuns_10 ?_
      refine r_iadd X dX3_listRuns_12 ?_
      refine r_aload_n X 0 rfl dX3_listRuns_13 ?_
      refine r_getI X fk_X3_27 lc_7 rfl dX3_listRuns_14 ?_
      refine r_icmp_gt (tgt := 57) X dX3_listRuns_17 (by decide) (fun _ => ?_) (fun _ => ?_)
      · exact r_vret X dX3_listRuns_57
      · refine r_iload X 4 rfl dX3_listRuns_20 ?_
        refine r_aload_n X 2 rfl dX3_listRuns_22 ?_
        refine r_alen (v := 101) X lc_31 (by decide) dX3_listRuns_23 ?_
        refine r_icmp_ge (tgt := 57) X dX3_listRuns_24 (by decide) (fun _ => ?_) (fun _ => ?_)
        · exact r_vret X dX3_listRuns_57
        · refine r_iload_n X 3 rfl dX3_listRuns_27 ?_
          refine r_iload X 4 rfl dX3_listRuns_28 ?_
          refine r_aload_n X 0 rfl dX3_listRuns_30 ?_
          refine r_getR X fk_X3_24 lc_7 rfl dX3_listRuns_31 ?_
          refine r_iload_n X 1 rfl dX3_listRuns_34 ?_
          refine r_iload X 4 rfl dX3_listRuns_35 ?_
          refine r_iadd X dX3_listRuns_37 ?_
          refine r_iald X lc_30 dX3_listRuns_38 (fun _ => ?_)
          refine r_mmin X lk_X3_44 km_min_s km_i km_min_c (by decide) (Nat.le_of_ble_eq_true rfl) dX3_listRuns_39 ?_
          refine r_mmax X lk_X3_50 km_max_s km_i km_max_c (by decide) (Nat.le_of_ble_eq_true rfl) dX3_listRuns_42 ?_
          refine r_bindI (fun v45 => ?_)
          refine r_istore_n (lv' := [(0, _), (1, _), (2, _), (3, _), (4, _)]) X (by decide) rfl dX3_listRuns_45 ?_
          refine r_aload_n X 2 rfl dX3_listRuns_46 ?_
          refine r_iload X 4 rfl dX3_listRuns_47 ?_
          refine r_iload_n X 3 rfl dX3_listRuns_49 ?_
          refine r_iast X lc_31 dX3_listRuns_50 (fun _ => ?_)
          refine r_bindS (fun S50 => ?_)
          refine r_iinc (lv' := [(0, _), (1, _), (2, _), (3, _), (4, _)]) (dl := 1) X 4 rfl (by decide) (by decide) rfl dX3_listRuns_51 ?_
          refine r_goto (tgt := 5) X dX3_listRuns_54 (by decide) ?_
          exact ih _ _ _ _
def fX3_listRuns (F : Nat) (S : ST) (x1 : Int32) : Option (Int32 × ST) :=
  fX3_listRuns_5 F F S x1 (0 : Int32) (1 : Int32)
set_option maxRecDepth 4000 in
theorem gX3_listRuns {E : CT} (X : Cx E layC cX3_listRuns RX3 5 none 1) (F : Nat) (S : ST) (x1 : Int32) : G E (fX3_listRuns F S x1) S 0 [(0, .ref (eA E 7)), (1, .int x1), (2, .ref (eA E 31))] [] := by
  unfold fX3_listRuns
  refine r_iconst (v := 0) X (by decide) dX3_listRuns_0 ?_
  refine r_istore_n (lv' := [(0, _), (1, _), (2, _), (3, _)]) X (by decide) rfl dX3_listRuns_1 ?_
  refine r_iconst (v := 1) X (by decide) dX3_listRuns_2 ?_
  refine r_istore (lv' := [(0, _), (1, _), (2, _), (3, _), (4, _)]) X (by decide) rfl dX3_listRuns_3 ?_
  exact gX3_listRuns_5 X F F _ _ _ _
theorem mX3_listRuns (F : Nat) (S : ST) (x1 : Int32) : MetS yX3_listRuns cX3_listRuns 5 none 1 layC (fX3_listRuns F S x1) S (fun ad => [.ref (ad 7), .int x1, .ref (ad 31)]) := mk_met (fun ad => [(0, .ref (ad 7)), (1, .int x1), (2, .ref (ad 31))]) (by decide) (fun _ => Nat.le_of_ble_eq_true rfl) (fun _ => rfl) (fun E X => gX3_listRuns X F S x1)
def fX3_isMark (F : Nat) (S : ST) (x0 : Int32) : Option (Int32 × ST) :=
  if x0 = (46 : Int32) then
    (some ((1 : Int32), S))
  else
    (if x0 = (107 : Int32) then
      (some ((1 : Int32), S))
    else
      (if x0 = (115 : Int32) then
        (some ((1 : Int32), S))
      else
        (if x0 = (111 : Int32) then
          (some ((1 : Int32), S))
        else
          (if x0 = (112 : Int32) then
            (some ((1 : Int32), S))
          else
            (some ((0 : Int32), S))))))
set_option maxRecDepth 4000 in
theorem gX3_isMark {E : CT} (X : Cx E layC cX3_isMark RX3 1 (some .boolean) 0) (F : Nat) (S : ST) (x0 : Int32) : G E (fX3_isMark F S x0) S 0 [(0, .int x0)] [] := by
  unfold fX3_isMark
  refine r_iload_n X 0 rfl dX3_isMark_0 ?_
  refine r_bipush (v := 46) X (by decide) dX3_isMark_1 ?_
  refine r_icmp_eq (tgt := 30) X dX3_isMark_3 (by decide) (fun _ => ?_) (fun _ => ?_)
  · refine r_iconst (v := 1) X (by decide) dX3_isMark_30 ?_
    refine r_goto (tgt := 35) X dX3_isMark_31 (by decide) ?_
    exact r_zret X (by decide) dX3_isMark_35
  · refine r_iload_n X 0 rfl dX3_isMark_6 ?_
    refine r_bipush (v := 107) X (by decide) dX3_isMark_7 ?_
    refine r_icmp_eq (tgt := 30) X dX3_isMark_9 (by decide) (fun _ => ?_) (fun _ => ?_)
    · refine r_iconst (v := 1) X (by decide) dX3_isMark_30 ?_
      refine r_goto (tgt := 35) X dX3_isMark_31 (by decide) ?_
      exact r_zret X (by decide) dX3_isMark_35
    · refine r_iload_n X 0 rfl dX3_isMark_12 ?_
      refine r_bipush (v := 115) X (by decide) dX3_isMark_13 ?_
      refine r_icmp_eq (tgt := 30) X dX3_isMark_15 (by decide) (fun _ => ?_) (fun _ => ?_)
      · refine r_iconst (v := 1) X (by decide) dX3_isMark_30 ?_
        refine r_goto (tgt := 35) X dX3_isMark_31 (by decide) ?_
        exact r_zret X (by decide) dX3_isMark_35
      · refine r_iload_n X 0 rfl dX3_isMark_18 ?_
        refine r_bipush (v := 111) X (by decide) dX3_isMark_19 ?_
        refine r_icmp_eq (tgt := 30) X dX3_isMark_21 (by decide) (fun _ => ?_) (fun _ => ?_)
        · refine r_iconst (v := 1) X (by decide) dX3_isMark_30 ?_
          refine r_goto (tgt := 35) X dX3_isMark_31 (by decide) ?_
          exact r_zret X (by decide) dX3_isMark_35
        · refine r_iload_n X 0 rfl dX3_isMark_24 ?_
          refine r_bipush (v := 112) X (by decide) dX3_isMark_25 ?_
          refine r_icmp_ne (tgt := 34) X dX3_isMark_27 (by decide) (fun _ => ?_) (fun _ => ?_)
          · refine r_iconst (v := 0) X (by decide) dX3_isMark_34 ?_
            exact r_zret X (by decide) dX3_isMark_35
          · refine r_iconst (v := 1) X (by decide) dX3_isMark_30 ?_
            refine r_goto (tgt := 35) X dX3_isMark_31 (by decide) ?_
            exact r_zret X (by decide) dX3_isMark_35
theorem mX3_isMark (F : Nat) (S : ST) (x0 : Int32) : MetS yX3_isMark cX3_isMark 1 (some .boolean) 0 layC (fX3_isMark F S x0) S (fun ad => [.int x0]) := mk_met (fun ad => [(0, .int x0)]) (by decide) (fun _ => Nat.le_of_ble_eq_true rfl) (fun _ => rfl) (fun E X => gX3_isMark X F S x0)
def fX3_firstFault_2 (F : Nat) : Nat → ST → Int32 → Option (Int32 × ST)
  | 0, _, _ => none
  | n + 1, S, x1 =>
  if (S.1 2 1) ≤ x1 then
    (some ((-1 : Int32), S))
  else
    (if (300 : Int32) ≤ x1 then
      (some (x1, S))
    else
      ((fX7_byteAt F S x1).bind (fun q19 => (fX3_isMark F q19.2 q19.1).bind (fun q22 => if q22.1 = 0 then
        (some (x1, q22.2))
      else
        (fX3_firstFault_2 F n q22.2 (x1 + (1 : Int32)))))))
set_option maxRecDepth 4000 in
theorem gX3_firstFault_2 {E : CT} (X : Cx E layC cX3_firstFault RX3 2 (some .int) 1) (F : Nat) : ∀ (n : Nat) (S : ST) (x1 : Int32), G E (fX3_firstFault_2 F n S x1) S 2 [(0, .ref (eA E 2)), (1, .int x1)] []
  | 0, _, _ => r_none
  | n + 1, S, x1 => by
    have ih := gX3_firstFault_2 X F n
    unfold fX3_firstFault_2
    refine r_iload_n X 1 rfl dX3_firstFault_2 ?_
    refine r_aload_n X 0 rfl dX3_firstFault_3 ?_
    refine r_getI X fk_X3_31 lc_2 rfl dX3_firstFault_4 ?_
    refine r_icmp_ge (tgt := 36) X dX3_firstFault_7 (by decide) (fun _ => ?_) (fun _ => ?_)
    · refine r_iconst (v := -1) X (by decide) dX3_firstFault_36 ?_
      exact r_iret X dX3_firstFault_37
    · refine r_iload_n X 1 rfl dX3_firstFault_10 ?_
      refine r_sipush (v := 300) X (by decide) dX3_firstFault_11 ?_
      refine r_icmp_ge (tgt := 28) X dX3_firstFault_14 (by decide) (fun _ => ?_) (fun _ => ?_)
      · refine r_iload_n X 1 rfl dX3_firstFault_28 ?_
        exact r_iret X dX3_firstFault_29
      · refine r_aload_n X 0 rfl dX3_firstFault_17 ?_
        refine r_iload_n X 1 rfl dX3_firstFault_18 ?_
        refine r_callV X (mX7_byteAt _ _ _) mk_X7_byteAt lk_X3_36 lc_2 rfl rfl (by decide) (by decide) (Nat.le_of_ble_eq_true rfl) rfl dX3_firstFault_19 (fun q19 _ => ?_)
        refine r_callS X (mX3_isMark _ _ _) mk_X3_isMark lk_X3_40 rfl (by decide) (by decide) (Nat.le_of_ble_eq_true rfl) rfl dX3_firstFault_22 (fun q22 _ => ?_)
        refine r_if_ne (tgt := 30) X dX3_firstFault_25 (by decide) (fun _ => ?_) (fun _ => ?_)
        · refine r_iinc (lv' := [(0, _), (1, _)]) (dl := 1) X 1 rfl (by decide) (by decide) rfl dX3_firstFault_30 ?_
          refine r_goto (tgt := 2) X dX3_firstFault_33 (by decide) ?_
          exact ih _ _
        · refine r_iload_n X 1 rfl dX3_firstFault_28 ?_
          exact r_iret X dX3_firstFault_29
def fX3_firstFault (F : Nat) (S : ST) : Option (Int32 × ST) :=
  fX3_firstFault_2 F F S (0 : Int32)
set_option maxRecDepth 4000 in
theorem gX3_firstFault {E : CT} (X : Cx E layC cX3_firstFault RX3 2 (some .int) 1) (F : Nat) (S : ST) : G E (fX3_firstFault F S) S 0 [(0, .ref (eA E 2))] [] := by
  unfold fX3_firstFault
  refine r_iconst (v := 0) X (by decide) dX3_firstFault_0 ?_
  refine r_istore_n (lv' := [(0, _), (1, _)]) X (by decide) rfl dX3_firstFault_1 ?_
  exact gX3_firstFault_2 X F F _ _
theorem mX3_firstFault (F : Nat) (S : ST) : MetS yX3_firstFault cX3_firstFault 2 (some .int) 1 layC (fX3_firstFault F S) S (fun ad => [.ref (ad 2)]) := mk_met (fun ad => [(0, .ref (ad 2))]) (by decide) (fun _ => Nat.le_of_ble_eq_true rfl) (fun _ => rfl) (fun E X => gX3_firstFault X F S)
def fX3_take_159 (F : Nat) (k16 : ST → Int32 → Option (Int32 × ST)) (S : ST) (x2 : Int32) (s0 : Int32) (s1 : Int32) : Option (Int32 × ST) :=
  (if vin s1 301 = true then bindS (us S 30 (ix s1) s0) (fun S159 => k16 S159 (x2 + (1 : Int32))) else none)
set_option maxRecDepth 4000 in
theorem gX3_take_159 {E : CT} (X : Cx E layC cX3_take RX3 4 none 1) (F : Nat) (k16 : ST → Int32 → Option (Int32 × ST)) (h16 : ∀ (S : ST) (x2 : Int32), G E (k16 S x2) S 16 [(0, .ref (eA E 7)), (1, .ref (eA E 2)), (2, .int x2)] []) (S : ST) (x2 : Int32) (s0 : Int32) (s1 : Int32) : G E (fX3_take_159 F k16 S x2 s0 s1) S 159 [(0, .ref (eA E 7)), (1, .ref (eA E 2)), (2, .int x2)] [.int s0, .int s1, .ref (eA E 30)] := by
  unfold fX3_take_159
  refine r_iast X lc_30 dX3_take_159 (fun _ => ?_)
  refine r_bindS (fun S159 => ?_)
  refine r_iinc (lv' := [(0, _), (1, _), (2, _)]) (dl := 1) X 2 rfl (by decide) (by decide) rfl dX3_take_160 ?_
  refine r_goto (tgt := 16) X dX3_take_163 (by decide) ?_
  exact h16 _ _
def fX3_take_132 (F : Nat) (k16 : ST → Int32 → Option (Int32 × ST)) (S : ST) (x2 : Int32) (x3 : Int32) (s0 : Int32) (s1 : Int32) (s2 : Int32) : Option (Int32 × ST) :=
  (if vin s2 301 = true then bindS (us S 29 (ix s2) (s1 + s0)) (fun S133 => if x3 = (46 : Int32) then
    ((if vin x2 301 = true then fX3_take_159 F k16 S133 x2 ((S133.1 30 (ix x2)) + (1 : Int32)) (x2 + (1 : Int32)) else none))
  else
    (fX3_take_159 F k16 S133 x2 (0 : Int32) (x2 + (1 : Int32)))) else none)
set_option maxRecDepth 4000 in
theorem gX3_take_132 {E : CT} (X : Cx E layC cX3_take RX3 4 none 1) (F : Nat) (k16 : ST → Int32 → Option (Int32 × ST)) (h16 : ∀ (S : ST) (x2 : Int32), G E (k16 S x2) S 16 [(0, .ref (eA E 7)), (1, .ref (eA E 2)), (2, .int x2)] []) (S : ST) (x2 : Int32) (x3 : Int32) (s0 : Int32) (s1 : Int32) (s2 : Int32) : G E (fX3_take_132 F k16 S x2 x3 s0 s1 s2) S 132 [(0, .ref (eA E 7)), (1, .ref (eA E 2)), (2, .int x2), (3, .int x3)] [.int s0, .int s1, .int s2, .ref (eA E 29)] := by
  unfold fX3_take_132
  refine r_iadd X dX3_take_132 ?_
  refine r_iast X lc_29 dX3_take_133 (fun _ => ?_)
  refine r_bindS (fun S133 => ?_)
  refine r_aload_n X 0 rfl dX3_take_134 ?_
  refine r_getR X fk_X3_24 lc_7 rfl dX3_take_135 ?_
  refine r_iload_n X 2 rfl dX3_take_138 ?_
  refine r_iconst (v := 1) X (by decide) dX3_take_139 ?_
  refine r_iadd X dX3_take_140 ?_
  refine r_iload_n X 3 rfl dX3_take_141 ?_
  refine r_bipush (v := 46) X (by decide) dX3_take_142 ?_
  refine r_icmp_ne (tgt := 158) X dX3_take_144 (by decide) (fun _ => ?_) (fun _ => ?_)
  · refine r_iconst (v := 0) X (by decide) dX3_take_158 ?_
    refine r_sub [0, 1, 2] rfl ?_
    exact gX3_take_159 X F _ h16 _ _ _ _
  · refine r_aload_n X 0 rfl dX3_take_147 ?_
    refine r_getR X fk_X3_24 lc_7 rfl dX3_take_148 ?_
    refine r_iload_n X 2 rfl dX3_take_151 ?_
    refine r_iald X lc_30 dX3_take_152 (fun _ => ?_)
    refine r_iconst (v := 1) X (by decide) dX3_take_153 ?_
    refine r_iadd X dX3_take_154 ?_
    refine r_goto (tgt := 159) X dX3_take_155 (by decide) ?_
    refine r_sub [0, 1, 2] rfl ?_
    exact gX3_take_159 X F _ h16 _ _ _ _
def fX3_take_106 (F : Nat) (k16 : ST → Int32 → Option (Int32 × ST)) (S : ST) (x2 : Int32) (x3 : Int32) (s0 : Int32) (s1 : Int32) (s2 : Int32) : Option (Int32 × ST) :=
  (if vin s2 301 = true then bindS (us S 28 (ix s2) (s1 + s0)) (fun S107 => (if vin x2 301 = true then if x3 = (112 : Int32) then
    (fX3_take_132 F k16 S107 x2 x3 (1 : Int32) (S107.1 29 (ix x2)) (x2 + (1 : Int32)))
  else
    (fX3_take_132 F k16 S107 x2 x3 (0 : Int32) (S107.1 29 (ix x2)) (x2 + (1 : Int32))) else none)) else none)
set_option maxRecDepth 4000 in
theorem gX3_take_106 {E : CT} (X : Cx E layC cX3_take RX3 4 none 1) (F : Nat) (k16 : ST → Int32 → Option (Int32 × ST)) (h16 : ∀ (S : ST) (x2 : Int32), G E (k16 S x2) S 16 [(0, .ref (eA E 7)), (1, .ref (eA E 2)), (2, .int x2)] []) (S : ST) (x2 : Int32) (x3 : Int32) (s0 : Int32) (s1 : Int32) (s2 : Int32) : G E (fX3_take_106 F k16 S x2 x3 s0 s1 s2) S 106 [(0, .ref (eA E 7)), (1, .ref (eA E 2)), (2, .int x2), (3, .int x3)] [.int s0, .int s1, .int s2, .ref (eA E 28)] := by
  unfold fX3_take_106
  refine r_iadd X dX3_take_106 ?_
  refine r_iast X lc_28 dX3_take_107 (fun _ => ?_)
  refine r_bindS (fun S107 => ?_)
  refine r_aload_n X 0 rfl dX3_take_108 ?_
  refine r_getR X fk_X3_21 lc_7 rfl dX3_take_109 ?_
  refine r_iload_n X 2 rfl dX3_take_112 ?_
  refine r_iconst (v := 1) X (by decide) dX3_take_113 ?_
  refine r_iadd X dX3_take_114 ?_
  refine r_aload_n X 0 rfl dX3_take_115 ?_
  refine r_getR X fk_X3_21 lc_7 rfl dX3_take_116 ?_
  refine r_iload_n X 2 rfl dX3_take_119 ?_
  refine r_iald X lc_29 dX3_take_120 (fun _ => ?_)
  refine r_iload_n X 3 rfl dX3_take_121 ?_
  refine r_bipush (v := 112) X (by decide) dX3_take_122 ?_
  refine r_icmp_ne (tgt := 131) X dX3_take_124 (by decide) (fun _ => ?_) (fun _ => ?_)
  · refine r_iconst (v := 0) X (by decide) dX3_take_131 ?_
    exact gX3_take_132 X F _ h16 _ _ _ _ _ _
  · refine r_iconst (v := 1) X (by decide) dX3_take_127 ?_
    refine r_goto (tgt := 132) X dX3_take_128 (by decide) ?_
    exact gX3_take_132 X F _ h16 _ _ _ _ _ _
def fX3_take_80 (F : Nat) (k16 : ST → Int32 → Option (Int32 × ST)) (S : ST) (x2 : Int32) (x3 : Int32) (s0 : Int32) (s1 : Int32) (s2 : Int32) : Option (Int32 × ST) :=
  (if vin s2 301 = true then bindS (us S 27 (ix s2) (s1 + s0)) (fun S81 => (if vin x2 301 = true then if x3 = (111 : Int32) then
    (fX3_take_106 F k16 S81 x2 x3 (1 : Int32) (S81.1 28 (ix x2)) (x2 + (1 : Int32)))
  else
    (fX3_take_106 F k16 S81 x2 x3 (0 : Int32) (S81.1 28 (ix x2)) (x2 + (1 : Int32))) else none)) else none)
set_option maxRecDepth 4000 in
theorem gX3_take_80 {E : CT} (X : Cx E layC cX3_take RX3 4 none 1) (F : Nat) (k16 : ST → Int32 → Option (Int32 × ST)) (h16 : ∀ (S : ST) (x2 : Int32), G E (k16 S x2) S 16 [(0, .ref (eA E 7)), (1, .ref (eA E 2)), (2, .int x2)] []) (S : ST) (x2 : Int32) (x3 : Int32) (s0 : Int32) (s1 : Int32) (s2 : Int32) : G E (fX3_take_80 F k16 S x2 x3 s0 s1 s2) S 80 [(0, .ref (eA E 7)), (1, .ref (eA E 2)), (2, .int x2), (3, .int x3)] [.int s0, .int s1, .int s2, .ref (eA E 27)] := by
  unfold fX3_take_80
  refine r_iadd X dX3_take_80 ?_
  refine r_iast X lc_27 dX3_take_81 (fun _ => ?_)
  refine r_bindS (fun S81 => ?_)
  refine r_aload_n X 0 rfl dX3_take_82 ?_
  refine r_getR X fk_X3_18 lc_7 rfl dX3_take_83 ?_
  refine r_iload_n X 2 rfl dX3_take_86 ?_
  refine r_iconst (v := 1) X (by decide) dX3_take_87 ?_
  refine r_iadd X dX3_take_88 ?_
  refine r_aload_n X 0 rfl dX3_take_89 ?_
  refine r_getR X fk_X3_18 lc_7 rfl dX3_take_90 ?_
  refine r_iload_n X 2 rfl dX3_take_93 ?_
  refine r_iald X lc_28 dX3_take_94 (fun _ => ?_)
  refine r_iload_n X 3 rfl dX3_take_95 ?_
  refine r_bipush (v := 111) X (by decide) dX3_take_96 ?_
  refine r_icmp_ne (tgt := 105) X dX3_take_98 (by decide) (fun _ => ?_) (fun _ => ?_)
  · refine r_iconst (v := 0) X (by decide) dX3_take_105 ?_
    exact gX3_take_106 X F _ h16 _ _ _ _ _ _
  · refine r_iconst (v := 1) X (by decide) dX3_take_101 ?_
    refine r_goto (tgt := 106) X dX3_take_102 (by decide) ?_
    exact gX3_take_106 X F _ h16 _ _ _ _ _ _
def fX3_take_54 (F : Nat) (k16 : ST → Int32 → Option (Int32 × ST)) (S : ST) (x2 : Int32) (x3 : Int32) (s0 : Int32) (s1 : Int32) (s2 : Int32) : Option (Int32 × ST) :=
  (if vin s2 301 = true then bindS (us S 26 (ix s2) (s1 + s0)) (fun S55 => (if vin x2 301 = true then if x3 = (115 : Int32) then
    (fX3_take_80 F k16 S55 x2 x3 (1 : Int32) (S55.1 27 (ix x2)) (x2 + (1 : Int32)))
  else
    (fX3_take_80 F k16 S55 x2 x3 (0 : Int32) (S55.1 27 (ix x2)) (x2 + (1 : Int32))) else none)) else none)
set_option maxRecDepth 4000 in
theorem gX3_take_54 {E : CT} (X : Cx E layC cX3_take RX3 4 none 1) (F : Nat) (k16 : ST → Int32 → Option (Int32 × ST)) (h16 : ∀ (S : ST) (x2 : Int32), G E (k16 S x2) S 16 [(0, .ref (eA E 7)), (1, .ref (eA E 2)), (2, .int x2)] []) (S : ST) (x2 : Int32) (x3 : Int32) (s0 : Int32) (s1 : Int32) (s2 : Int32) : G E (fX3_take_54 F k16 S x2 x3 s0 s1 s2) S 54 [(0, .ref (eA E 7)), (1, .ref (eA E 2)), (2, .int x2), (3, .int x3)] [.int s0, .int s1, .int s2, .ref (eA E 26)] := by
  unfold fX3_take_54
  refine r_iadd X dX3_take_54 ?_
  refine r_iast X lc_26 dX3_take_55 (fun _ => ?_)
  refine r_bindS (fun S55 => ?_)
  refine r_aload_n X 0 rfl dX3_take_56 ?_
  refine r_getR X fk_X3_15 lc_7 rfl dX3_take_57 ?_
  refine r_iload_n X 2 rfl dX3_take_60 ?_
  refine r_iconst (v := 1) X (by decide) dX3_take_61 ?_
  refine r_iadd X dX3_take_62 ?_
  refine r_aload_n X 0 rfl dX3_take_63 ?_
  refine r_getR X fk_X3_15 lc_7 rfl dX3_take_64 ?_
  refine r_iload_n X 2 rfl dX3_take_67 ?_
  refine r_iald X lc_27 dX3_take_68 (fun _ => ?_)
  refine r_iload_n X 3 rfl dX3_take_69 ?_
  refine r_bipush (v := 115) X (by decide) dX3_take_70 ?_
  refine r_icmp_ne (tgt := 79) X dX3_take_72 (by decide) (fun _ => ?_) (fun _ => ?_)
  · refine r_iconst (v := 0) X (by decide) dX3_take_79 ?_
    exact gX3_take_80 X F _ h16 _ _ _ _ _ _
  · refine r_iconst (v := 1) X (by decide) dX3_take_75 ?_
    refine r_goto (tgt := 80) X dX3_take_76 (by decide) ?_
    exact gX3_take_80 X F _ h16 _ _ _ _ _ _
def fX3_take_16 (F : Nat) : Nat → ST → Int32 → Option (Int32 × ST)
  | 0, _, _ => none
  | n + 1, S, x2 =>
  if (S.1 7 5) ≤ x2 then
    (some ((0 : Int32), S))
  else
    ((fX7_byteAt F S x2).bind (fun q26 => (if vin x2 301 = true then if q26.1 = (107 : Int32) then
      (fX3_take_54 F (fX3_take_16 F n) q26.2 x2 q26.1 (1 : Int32) (q26.2.1 26 (ix x2)) (x2 + (1 : Int32)))
    else
      (fX3_take_54 F (fX3_take_16 F n) q26.2 x2 q26.1 (0 : Int32) (q26.2.1 26 (ix x2)) (x2 + (1 : Int32))) else none)))
set_option maxRecDepth 4000 in
theorem gX3_take_16 {E : CT} (X : Cx E layC cX3_take RX3 4 none 1) (F : Nat) : ∀ (n : Nat) (S : ST) (x2 : Int32), G E (fX3_take_16 F n S x2) S 16 [(0, .ref (eA E 7)), (1, .ref (eA E 2)), (2, .int x2)] []
  | 0, _, _ => r_none
  | n + 1, S, x2 => by
    have ih := gX3_take_16 X F n
    unfold fX3_take_16
    refine r_iload_n X 2 rfl dX3_take_16 ?_
    refine r_aload_n X 0 rfl dX3_take_17 ?_
    refine r_getI X fk_X3_27 lc_7 rfl dX3_take_18 ?_
    refine r_icmp_ge (tgt := 166) X dX3_take_21 (by decide) (fun _ => ?_) (fun _ => ?_)
    · exact r_vret X dX3_take_166
    · refine r_aload_n X 1 rfl dX3_take_24 ?_
      refine r_iload_n X 2 rfl dX3_take_25 ?_
      refine r_callV X (mX7_byteAt _ _ _) mk_X7_byteAt lk_X3_36 lc_2 rfl rfl (by decide) (by decide) (Nat.le_of_ble_eq_true rfl) rfl dX3_take_26 (fun q26 _ => ?_)
      refine r_istore_n (lv' := [(0, _), (1, _), (2, _), (3, _)]) X (by decide) rfl dX3_take_29 ?_
      refine r_aload_n X 0 rfl dX3_take_30 ?_
      refine r_getR X fk_X3_11 lc_7 rfl dX3_take_31 ?_
      refine r_iload_n X 2 rfl dX3_take_34 ?_
      refine r_iconst (v := 1) X (by decide) dX3_take_35 ?_
      refine r_iadd X dX3_take_36 ?_
      refine r_aload_n X 0 rfl dX3_take_37 ?_
      refine r_getR X fk_X3_11 lc_7 rfl dX3_take_38 ?_
      refine r_iload_n X 2 rfl dX3_take_41 ?_
      refine r_iald X lc_26 dX3_take_42 (fun _ => ?_)
      refine r_iload_n X 3 rfl dX3_take_43 ?_
      refine r_bipush (v := 107) X (by decide) dX3_take_44 ?_
      refine r_icmp_ne (tgt := 53) X dX3_take_46 (by decide) (fun _ => ?_) (fun _ => ?_)
      · refine r_iconst (v := 0) X (by decide) dX3_take_53 ?_
        exact gX3_take_54 X F _ ih _ _ _ _ _ _
      · refine r_iconst (v := 1) X (by decide) dX3_take_49 ?_
        refine r_goto (tgt := 54) X dX3_take_50 (by decide) ?_
        exact gX3_take_54 X F _ ih _ _ _ _ _ _
def fX3_take (F : Nat) (S : ST) : Option (Int32 × ST) :=
  bindS (us S 7 5 (jmin (S.1 2 1) (300 : Int32))) (fun S11 => fX3_take_16 F F S11 (0 : Int32))
set_option maxRecDepth 4000 in
theorem gX3_take {E : CT} (X : Cx E layC cX3_take RX3 4 none 1) (F : Nat) (S : ST) : G E (fX3_take F S) S 0 [(0, .ref (eA E 7)), (1, .ref (eA E 2))] [] := by
  unfold fX3_take
  refine r_aload_n X 0 rfl dX3_take_0 ?_
  refine r_aload_n X 1 rfl dX3_take_1 ?_
  refine r_getI X fk_X3_31 lc_2 rfl dX3_take_2 ?_
  refine r_sipush (v := 300) X (by decide) dX3_take_5 ?_
  refine r_mmin X lk_X3_44 km_min_s km_i km_min_c (by decide) (Nat.le_of_ble_eq_true rfl) dX3_take_8 ?_
  refine r_putI X pk_X3_27 lc_7 rfl dX3_take_11 ?_
  refine r_bindS (fun S11 => ?_)
  refine r_iconst (v := 0) X (by decide) dX3_take_14 ?_
  refine r_istore_n (lv' := [(0, _), (1, _), (2, _)]) X (by decide) rfl dX3_take_15 ?_
  exact gX3_take_16 X F F _ _
theorem mX3_take (F : Nat) (S : ST) : MetS yX3_take cX3_take 4 none 1 layC (fX3_take F S) S (fun ad => [.ref (ad 7), .ref (ad 2)]) := mk_met (fun ad => [(0, .ref (ad 7)), (1, .ref (ad 2))]) (by decide) (fun _ => Nat.le_of_ble_eq_true rfl) (fun _ => rfl) (fun E X => gX3_take X F S)
