def fX11_about (F : Nat) (S : ST) (x1 : Int32) : Option (Int32 × ST) :=
  if x1 = 0 then
    (some ((S.1 0 14), S))
  else
    (if x1 = (1 : Int32) then
      (some ((S.1 0 32), S))
    else
      (if x1 = (2 : Int32) then
        (some ((S.1 0 53), S))
      else
        (if x1 = (3 : Int32) then
          (some ((S.1 0 5), S))
        else
          (some ((-1 : Int32), S)))))
set_option maxRecDepth 4000 in
theorem gX11_about {E : CT} (X : Cx E layM cX11_about RX11 2 (some .int) 0) (F : Nat) (S : ST) (x1 : Int32) : G E (fX11_about F S x1) S 0 [(0, .ref (eA E 0)), (1, .int x1)] [] := by
  unfold fX11_about
  refine r_iload_n X 1 rfl dX11_about_0 ?_
  refine r_if_ne (tgt := 11) X dX11_about_1 (by decide) (fun _ => ?_) (fun _ => ?_)
  · refine r_iload_n X 1 rfl dX11_about_11 ?_
    refine r_iconst (v := 1) X (by decide) dX11_about_12 ?_
    refine r_icmp_ne (tgt := 23) X dX11_about_13 (by decide) (fun _ => ?_) (fun _ => ?_)
    · refine r_iload_n X 1 rfl dX11_about_23 ?_
      refine r_iconst (v := 2) X (by decide) dX11_about_24 ?_
      refine r_icmp_ne (tgt := 35) X dX11_about_25 (by decide) (fun _ => ?_) (fun _ => ?_)
      · refine r_iload_n X 1 rfl dX11_about_35 ?_
        refine r_iconst (v := 3) X (by decide) dX11_about_36 ?_
        refine r_icmp_ne (tgt := 47) X dX11_about_37 (by decide) (fun _ => ?_) (fun _ => ?_)
        · refine r_iconst (v := -1) X (by decide) dX11_about_47 ?_
          exact r_iret X dX11_about_48
        · refine r_aload_n X 0 rfl dX11_about_40 ?_
          refine r_getI X fk_X11_147 lm_0 rfl dX11_about_41 ?_
          refine r_goto (tgt := 48) X dX11_about_44 (by decide) ?_
          exact r_iret X dX11_about_48
      · refine r_aload_n X 0 rfl dX11_about_28 ?_
        refine r_getI X fk_X11_313 lm_0 rfl dX11_about_29 ?_
        refine r_goto (tgt := 48) X dX11_about_32 (by decide) ?_
        exact r_iret X dX11_about_48
    · refine r_aload_n X 0 rfl dX11_about_16 ?_
      refine r_getI X fk_X11_284 lm_0 rfl dX11_about_17 ?_
      refine r_goto (tgt := 48) X dX11_about_20 (by decide) ?_
      exact r_iret X dX11_about_48
  · refine r_aload_n X 0 rfl dX11_about_4 ?_
    refine r_getI X fk_X11_278 lm_0 rfl dX11_about_5 ?_
    refine r_goto (tgt := 48) X dX11_about_8 (by decide) ?_
    exact r_iret X dX11_about_48
theorem mX11_about (F : Nat) (S : ST) (x1 : Int32) : MetS yX11_about cX11_about 2 (some .int) 0 layM (fX11_about F S x1) S (fun ad => [.ref (ad 0), .int x1]) := mk_met (fun ad => [(0, .ref (ad 0)), (1, .int x1)]) (by decide) (fun _ => Nat.le_of_ble_eq_true rfl) (fun _ => rfl) (fun E X => gX11_about X F S x1)
def fX11_begin (F : Nat) (S : ST) : Option (Int32 × ST) :=
  bindS (us S 0 9 (S.1 0 5)) (fun S5 => bindS (us S5 0 5 (0 : Int32)) (fun S10 => bindS (us S10 0 8 (0 : Int32)) (fun S15 => bindS (us S15 0 6 (0 : Int32)) (fun S20 => bindS (us S20 0 7 (-1 : Int32)) (fun S25 => some ((0 : Int32), S25))))))
set_option maxRecDepth 4000 in
theorem gX11_begin {E : CT} (X : Cx E layM cX11_begin RX11 1 none 0) (F : Nat) (S : ST) : G E (fX11_begin F S) S 0 [(0, .ref (eA E 0))] [] := by
  unfold fX11_begin
  refine r_aload_n X 0 rfl dX11_begin_0 ?_
  refine r_aload_n X 0 rfl dX11_begin_1 ?_
  refine r_getI X fk_X11_147 lm_0 rfl dX11_begin_2 ?_
  refine r_putI X pk_X11_157 lm_0 rfl dX11_begin_5 ?_
  refine r_bindS (fun S5 => ?_)
  refine r_aload_n X 0 rfl dX11_begin_8 ?_
  refine r_iconst (v := 0) X (by decide) dX11_begin_9 ?_
  refine r_putI X pk_X11_147 lm_0 rfl dX11_begin_10 ?_
  refine r_bindS (fun S10 => ?_)
  refine r_aload_n X 0 rfl dX11_begin_13 ?_
  refine r_iconst (v := 0) X (by decide) dX11_begin_14 ?_
  refine r_putI X pk_X11_154 lm_0 rfl dX11_begin_15 ?_
  refine r_bindS (fun S15 => ?_)
  refine r_aload_n X 0 rfl dX11_begin_18 ?_
  refine r_iconst (v := 0) X (by decide) dX11_begin_19 ?_
  refine r_putI X pk_X11_187 lm_0 rfl dX11_begin_20 ?_
  refine r_bindS (fun S20 => ?_)
  refine r_aload_n X 0 rfl dX11_begin_23 ?_
  refine r_iconst (v := -1) X (by decide) dX11_begin_24 ?_
  refine r_putI X pk_X11_16 lm_0 rfl dX11_begin_25 ?_
  refine r_bindS (fun S25 => ?_)
  exact r_vret X dX11_begin_28
theorem mX11_begin (F : Nat) (S : ST) : MetS yX11_begin cX11_begin 1 none 0 layM (fX11_begin F S) S (fun ad => [.ref (ad 0)]) := mk_met (fun ad => [(0, .ref (ad 0))]) (by decide) (fun _ => Nat.le_of_ble_eq_true rfl) (fun _ => rfl) (fun E X => gX11_begin X F S)
def fX11_sum_77 (F : Nat) (k5 : ST → Int32 → Int32 → Int32 → Int32 → Option (Int32 × ST)) (S : ST) (x1 : Int32) (x2 : Int32) (x4 : Int32) (s0 : Int32) (s1 : Int32) : Option (Int32 × ST) :=
  bindI ((s1 + s0)) (fun v78 => k5 S x1 x2 v78 (x4 + (1 : Int32)))
set_option maxRecDepth 4000 in
theorem gX11_sum_77 {E : CT} (X : Cx E layM cX11_sum RX11 5 (some .int) 0) (F : Nat) (k5 : ST → Int32 → Int32 → Int32 → Int32 → Option (Int32 × ST)) (h5 : ∀ (S : ST) (x1 : Int32) (x2 : Int32) (x3 : Int32) (x4 : Int32), G E (k5 S x1 x2 x3 x4) S 5 [(0, .ref (eA E 0)), (1, .int x1), (2, .int x2), (3, .int x3), (4, .int x4)] []) (S : ST) (x1 : Int32) (x2 : Int32) (x4 : Int32) (s0 : Int32) (s1 : Int32) : G E (fX11_sum_77 F k5 S x1 x2 x4 s0 s1) S 77 [(0, .ref (eA E 0)), (1, .int x1), (2, .int x2), (4, .int x4)] [.int s0, .int s1] := by
  unfold fX11_sum_77
  refine r_iadd X dX11_sum_77 ?_
  refine r_bindI (fun v78 => ?_)
  refine r_istore_n (lv' := [(0, _), (1, _), (2, _), (3, _), (4, _)]) X (by decide) rfl dX11_sum_78 ?_
  refine r_iinc (lv' := [(0, _), (1, _), (2, _), (3, _), (4, _)]) (dl := 1) X 4 rfl (by decide) (by decide) rfl dX11_sum_79 ?_
  refine r_goto (tgt := 5) X dX11_sum_82 (by decide) ?_
  exact h5 _ _ _ _ _
def fX11_sum_76 (F : Nat) (k5 : ST → Int32 → Int32 → Int32 → Int32 → Option (Int32 × ST)) (S : ST) (x1 : Int32) (x2 : Int32) (x4 : Int32) (s0 : Int32) (s1 : Int32) (s2 : Int32) : Option (Int32 × ST) :=
  fX11_sum_77 F k5 S x1 x2 x4 (s1 + s0) s2
set_option maxRecDepth 4000 in
theorem gX11_sum_76 {E : CT} (X : Cx E layM cX11_sum RX11 5 (some .int) 0) (F : Nat) (k5 : ST → Int32 → Int32 → Int32 → Int32 → Option (Int32 × ST)) (h5 : ∀ (S : ST) (x1 : Int32) (x2 : Int32) (x3 : Int32) (x4 : Int32), G E (k5 S x1 x2 x3 x4) S 5 [(0, .ref (eA E 0)), (1, .int x1), (2, .int x2), (3, .int x3), (4, .int x4)] []) (S : ST) (x1 : Int32) (x2 : Int32) (x4 : Int32) (s0 : Int32) (s1 : Int32) (s2 : Int32) : G E (fX11_sum_76 F k5 S x1 x2 x4 s0 s1 s2) S 76 [(0, .ref (eA E 0)), (1, .int x1), (2, .int x2), (4, .int x4)] [.int s0, .int s1, .int s2] := by
  unfold fX11_sum_76
  refine r_iadd X dX11_sum_76 ?_
  exact gX11_sum_77 X F _ h5 _ _ _ _ _ _
def fX11_sum_5 (F : Nat) : Nat → ST → Int32 → Int32 → Int32 → Int32 → Option (Int32 × ST)
  | 0, _, _, _, _, _ => none
  | n + 1, S, x1, x2, x3, x4 =>
  if x1 ≤ x4 then
    (some (x3, S))
  else
    (if x2 = (2 : Int32) then
      ((if vin x4 9 = true then (if vin (S.1 26 (ix x4)) 6 = true then fX11_sum_77 F (fX11_sum_5 F n) S x1 x2 x4 (S.1 25 (ix (S.1 26 (ix x4)))) x3 else none) else none))
    else
      ((if vin x4 9 = true then (if vin (S.1 26 (ix x4)) 6 = true then if x2 = 0 then
        ((if vin x4 9 = true then (if vin (S.1 26 (ix x4)) 6 = true then fX11_sum_76 F (fX11_sum_5 F n) S x1 x2 x4 (-(S.1 24 (ix (S.1 26 (ix x4))))) (S.1 23 (ix (S.1 26 (ix x4)))) x3 else none) else none))
      else
        ((if vin x4 9 = true then (if vin (S.1 26 (ix x4)) 6 = true then fX11_sum_76 F (fX11_sum_5 F n) S x1 x2 x4 (S.1 24 (ix (S.1 26 (ix x4)))) (S.1 23 (ix (S.1 26 (ix x4)))) x3 else none) else none)) else none) else none)))
set_option maxRecDepth 4000 in
theorem gX11_sum_5 {E : CT} (X : Cx E layM cX11_sum RX11 5 (some .int) 0) (F : Nat) : ∀ (n : Nat) (S : ST) (x1 : Int32) (x2 : Int32) (x3 : Int32) (x4 : Int32), G E (fX11_sum_5 F n S x1 x2 x3 x4) S 5 [(0, .ref (eA E 0)), (1, .int x1), (2, .int x2), (3, .int x3), (4, .int x4)] []
  | 0, _, _, _, _, _ => r_none
  | n + 1, S, x1, x2, x3, x4 => by
    have ih := gX11_sum_5 X F n
    unfold fX11_sum_5
    refine r_iload X 4 rfl dX11_sum_5 ?_
    refine r_iload_n X 1 rfl dX11_sum_7 ?_
    refine r_icmp_ge (tgt := 85) X dX11_sum_8 (by decide) (fun _ => ?_) (fun _ => ?_)
    · refine r_iload_n X 3 rfl dX11_sum_85 ?_
      exact r_iret X dX11_sum_86
    · refine r_iload_n X 3 rfl dX11_sum_11 ?_
      refine r_iload_n X 2 rfl dX11_sum_12 ?_
      refine r_iconst (v := 2) X (by decide) dX11_sum_13 ?_
      refine r_icmp_ne (tgt := 32) X dX11_sum_14 (by decide) (fun _ => ?_) (fun _ => ?_)
      · refine r_aload_n X 0 rfl dX11_sum_32 ?_
        refine r_getR X fk_X11_84 lm_0 rfl dX11_sum_33 ?_
        refine r_aload_n X 0 rfl dX11_sum_36 ?_
        refine r_getR X fk_X11_93 lm_0 rfl dX11_sum_37 ?_
        refine r_iload X 4 rfl dX11_sum_40 ?_
        refine r_iald X lm_26 dX11_sum_42 (fun _ => ?_)
        refine r_iald X lm_23 dX11_sum_43 (fun _ => ?_)
        refine r_iload_n X 2 rfl dX11_sum_44 ?_
        refine r_if_ne (tgt := 64) X dX11_sum_45 (by decide) (fun _ => ?_) (fun _ => ?_)
        · refine r_aload_n X 0 rfl dX11_sum_64 ?_
          refine r_getR X fk_X11_87 lm_0 rfl dX11_sum_65 ?_
          refine r_aload_n X 0 rfl dX11_sum_68 ?_
          refine r_getR X fk_X11_93 lm_0 rfl dX11_sum_69 ?_
          refine r_iload X 4 rfl dX11_sum_72 ?_
          refine r_iald X lm_26 dX11_sum_74 (fun _ => ?_)
          refine r_iald X lm_24 dX11_sum_75 (fun _ => ?_)
          refine r_sub [0, 1, 2, 4] rfl ?_
          exact gX11_sum_76 X F _ ih _ _ _ _ _ _ _
        · refine r_aload_n X 0 rfl dX11_sum_48 ?_
          refine r_getR X fk_X11_87 lm_0 rfl dX11_sum_49 ?_
          refine r_aload_n X 0 rfl dX11_sum_52 ?_
          refine r_getR X fk_X11_93 lm_0 rfl dX11_sum_53 ?_
          refine r_iload X 4 rfl dX11_sum_56 ?_
          refine r_iald X lm_26 dX11_sum_58 (fun _ => ?_)
          refine r_iald X lm_24 dX11_sum_59 (fun _ => ?_)
          refine r_ineg X dX11_sum_60 ?_
          refine r_goto (tgt := 76) X dX11_sum_61 (by decide) ?_
          refine r_sub [0, 1, 2, 4] rfl ?_
          exact gX11_sum_76 X F _ ih _ _ _ _ _ _ _
      · refine r_aload_n X 0 rfl dX11_sum_17 ?_
        refine r_getR X fk_X11_90 lm_0 rfl dX11_sum_18 ?_
        refine r_aload_n X 0 rfl dX11_sum_21 ?_
        refine r_getR X fk_X11_93 lm_0 rfl dX11_sum_22 ?_
        refine r_iload X 4 rfl dX11_sum_25 ?_
        refine r_iald X lm_26 dX11_sum_27 (fun _ => ?_)
        refine r_iald X lm_25 dX11_sum_28 (fun _ => ?_)
        refine r_goto (tgt := 77) X dX11_sum_29 (by decide) ?_
        refine r_sub [0, 1, 2, 4] rfl ?_
        exact gX11_sum_77 X F _ ih _ _ _ _ _ _
def fX11_sum (F : Nat) (S : ST) (x1 : Int32) (x2 : Int32) : Option (Int32 × ST) :=
  fX11_sum_5 F F S x1 x2 (0 : Int32) (0 : Int32)
set_option maxRecDepth 4000 in
theorem gX11_sum {E : CT} (X : Cx E layM cX11_sum RX11 5 (some .int) 0) (F : Nat) (S : ST) (x1 : Int32) (x2 : Int32) : G E (fX11_sum F S x1 x2) S 0 [(0, .ref (eA E 0)), (1, .int x1), (2, .int x2)] [] := by
  unfold fX11_sum
  refine r_iconst (v := 0) X (by decide) dX11_sum_0 ?_
  refine r_istore_n (lv' := [(0, _), (1, _), (2, _), (3, _)]) X (by decide) rfl dX11_sum_1 ?_
  refine r_iconst (v := 0) X (by decide) dX11_sum_2 ?_
  refine r_istore (lv' := [(0, _), (1, _), (2, _), (3, _), (4, _)]) X (by decide) rfl dX11_sum_3 ?_
  exact gX11_sum_5 X F F _ _ _ _ _
theorem mX11_sum (F : Nat) (S : ST) (x1 : Int32) (x2 : Int32) : MetS yX11_sum cX11_sum 5 (some .int) 0 layM (fX11_sum F S x1 x2) S (fun ad => [.ref (ad 0), .int x1, .int x2]) := mk_met (fun ad => [(0, .ref (ad 0)), (1, .int x1), (2, .int x2)]) (by decide) (fun _ => Nat.le_of_ble_eq_true rfl) (fun _ => rfl) (fun E X => gX11_sum X F S x1 x2)
def fX11_best_191 (F : Nat) (k61 : ST → Int32 → Int32 → Int32 → Int32 → Int32 → Int32 → Int32 → Int32 → Option (Int32 × ST)) : Nat → ST → Int32 → Int32 → Int32 → Int32 → Int32 → Int32 → Int32 → Int32 → Int32 → Option (Int32 × ST)
  | 0, _, _, _, _, _, _, _, _, _, _ => none
  | n + 1, S, x1, x2, x3, x4, x5, x6, x7, x8, x11 =>
  if x1 ≤ x11 then
    (k61 S x1 x2 x3 x4 x5 x6 x7 (x8 + (1 : Int32)))
  else
    ((if vin x11 9 = true then bindI ((x6 ||| ((S.1 26 (ix x11)) <<< (((3 : Int32) * x11) &&& 31)))) (fun v212 => fX11_best_191 F k61 n S x1 x2 x3 x4 x5 v212 x7 x8 (x11 + (1 : Int32))) else none))
set_option maxRecDepth 4000 in
theorem gX11_best_191 {E : CT} (X : Cx E layM cX11_best RX11 12 (some .int) 1) (F : Nat) (k61 : ST → Int32 → Int32 → Int32 → Int32 → Int32 → Int32 → Int32 → Int32 → Option (Int32 × ST)) (h61 : ∀ (S : ST) (x1 : Int32) (x2 : Int32) (x3 : Int32) (x4 : Int32) (x5 : Int32) (x6 : Int32) (x7 : Int32) (x8 : Int32), G E (k61 S x1 x2 x3 x4 x5 x6 x7 x8) S 61 [(0, .ref (eA E 0)), (1, .int x1), (2, .int x2), (3, .int x3), (4, .int x4), (5, .int x5), (6, .int x6), (7, .int x7), (8, .int x8)] []) : ∀ (n : Nat) (S : ST) (x1 : Int32) (x2 : Int32) (x3 : Int32) (x4 : Int32) (x5 : Int32) (x6 : Int32) (x7 : Int32) (x8 : Int32) (x11 : Int32), G E (fX11_best_191 F k61 n S x1 x2 x3 x4 x5 x6 x7 x8 x11) S 191 [(0, .ref (eA E 0)), (1, .int x1), (2, .int x2), (3, .int x3), (4, .int x4), (5, .int x5), (6, .int x6), (7, .int x7), (8, .int x8), (11, .int x11)] []
  | 0, _, _, _, _, _, _, _, _, _, _ => r_none
  | n + 1, S, x1, x2, x3, x4, x5, x6, x7, x8, x11 => by
    have ih := gX11_best_191 X F k61 h61 n
    unfold fX11_best_191
    refine r_iload X 9 rfl dX11_best_191 ?_
    refine r_iload_n X 1 rfl dX11_best_193 ?_
    refine r_icmp_ge (tgt := 220) X dX11_best_194 (by decide) (fun _ => ?_) (fun _ => ?_)
    · refine r_iinc (lv' := [(0, _), (1, _), (2, _), (3, _), (4, _), (5, _), (6, _), (7, _), (8, _), (11, _)]) (dl := 1) X 8 rfl (by decide) (by decide) rfl dX11_best_220 ?_
      refine r_goto (tgt := 61) X dX11_best_223 (by decide) ?_
      refine r_sub [0, 1, 2, 3, 4, 5, 6, 7, 8] rfl ?_
      exact h61 _ _ _ _ _ _ _ _ _
    · refine r_iload X 6 rfl dX11_best_197 ?_
      refine r_aload_n X 0 rfl dX11_best_199 ?_
      refine r_getR X fk_X11_93 lm_0 rfl dX11_best_200 ?_
      refine r_iload X 9 rfl dX11_best_203 ?_
      refine r_iald X lm_26 dX11_best_205 (fun _ => ?_)
      refine r_iconst (v := 3) X (by decide) dX11_best_206 ?_
      refine r_iload X 9 rfl dX11_best_207 ?_
      refine r_imul X dX11_best_209 ?_
      refine r_ishl X dX11_best_210 ?_
      refine r_ior X dX11_best_211 ?_
      refine r_bindI (fun v212 => ?_)
      refine r_istore (lv' := [(0, _), (1, _), (2, _), (3, _), (4, _), (5, _), (6, _), (7, _), (8, _), (11, _)]) X (by decide) rfl dX11_best_212 ?_
      refine r_iinc (lv' := [(0, _), (1, _), (2, _), (3, _), (4, _), (5, _), (6, _), (7, _), (8, _), (11, _)]) (dl := 1) X 9 rfl (by decide) (by decide) rfl dX11_best_214 ?_
      refine r_goto (tgt := 191) X dX11_best_217 (by decide) ?_
      exact ih _ _ _ _ _ _ _ _ _ _
def fX11_best_181 (F : Nat) (k61 : ST → Int32 → Int32 → Int32 → Int32 → Int32 → Int32 → Int32 → Int32 → Option (Int32 × ST)) (S : ST) (x1 : Int32) (x2 : Int32) (x3 : Int32) (x4 : Int32) (x5 : Int32) (x8 : Int32) (x10 : Int32) : Option (Int32 × ST) :=
  fX11_best_191 F k61 F S x1 x2 x3 x4 x5 (0 : Int32) x10 x8 (0 : Int32)
set_option maxRecDepth 4000 in
theorem gX11_best_181 {E : CT} (X : Cx E layM cX11_best RX11 12 (some .int) 1) (F : Nat) (k61 : ST → Int32 → Int32 → Int32 → Int32 → Int32 → Int32 → Int32 → Int32 → Option (Int32 × ST)) (h61 : ∀ (S : ST) (x1 : Int32) (x2 : Int32) (x3 : Int32) (x4 : Int32) (x5 : Int32) (x6 : Int32) (x7 : Int32) (x8 : Int32), G E (k61 S x1 x2 x3 x4 x5 x6 x7 x8) S 61 [(0, .ref (eA E 0)), (1, .int x1), (2, .int x2), (3, .int x3), (4, .int x4), (5, .int x5), (6, .int x6), (7, .int x7), (8, .int x8)] []) (S : ST) (x1 : Int32) (x2 : Int32) (x3 : Int32) (x4 : Int32) (x5 : Int32) (x8 : Int32) (x10 : Int32) : G E (fX11_best_181 F k61 S x1 x2 x3 x4 x5 x8 x10) S 181 [(0, .ref (eA E 0)), (1, .int x1), (2, .int x2), (3, .int x3), (4, .int x4), (5, .int x5), (8, .int x8), (10, .int x10)] [] := by
  unfold fX11_best_181
  refine r_iload X 7 rfl dX11_best_181 ?_
  refine r_istore (lv' := [(0, _), (1, _), (2, _), (3, _), (4, _), (5, _), (7, _), (8, _), (10, _)]) X (by decide) rfl dX11_best_183 ?_
  refine r_iconst (v := 0) X (by decide) dX11_best_185 ?_
  refine r_istore (lv' := [(0, _), (1, _), (2, _), (3, _), (4, _), (5, _), (6, _), (7, _), (8, _), (10, _)]) X (by decide) rfl dX11_best_186 ?_
  refine r_iconst (v := 0) X (by decide) dX11_best_188 ?_
  refine r_istore (lv' := [(0, _), (1, _), (2, _), (3, _), (4, _), (5, _), (6, _), (7, _), (8, _), (10, _), (11, _)]) X (by decide) rfl dX11_best_189 ?_
  refine r_sub [0, 1, 2, 3, 4, 5, 6, 7, 8, 10] rfl ?_
  exact gX11_best_191 X F _ h61 F _ _ _ _ _ _ _ _ _ _
def fX11_best_78 (F : Nat) (k61 : ST → Int32 → Int32 → Int32 → Int32 → Int32 → Int32 → Int32 → Int32 → Option (Int32 × ST)) : Nat → ST → Int32 → Int32 → Int32 → Int32 → Int32 → Int32 → Int32 → Int32 → Int32 → Int32 → Option (Int32 × ST)
  | 0, _, _, _, _, _, _, _, _, _, _, _ => none
  | n + 1, S, x1, x2, x3, x4, x5, x6, x7, x8, x9, x10 =>
  if x10 < 0 then
    ((fX11_sum F S x1 (2 : Int32)).bind (fun q127 => (if vin (0 : Int32) 9 = true then (if vin (q127.2.1 26 (ix (0 : Int32))) 6 = true then if (q127.2.1 27 (ix (q127.2.1 26 (ix (0 : Int32))))) = 0 then
      (k61 q127.2 x1 x2 x3 x4 x5 x6 x7 (x8 + (1 : Int32)))
    else
      ((fX11_sum F q127.2 x1 (0 : Int32)).bind (fun q149 => if q149.1 < x2 then
        (k61 q149.2 x1 x2 x3 x4 x5 x6 x7 (x8 + (1 : Int32)))
      else
        ((fX11_sum F q149.2 x1 (1 : Int32)).bind (fun q159 => if x3 < q159.1 then
          (k61 q159.2 x1 x2 x3 x4 x5 x6 x7 (x8 + (1 : Int32)))
        else
          (if x6 < 0 then
            (fX11_best_181 F k61 q159.2 x1 x2 x3 x4 x5 x8 q127.1)
          else
            (if q127.1 < x7 then
              (fX11_best_181 F k61 q159.2 x1 x2 x3 x4 x5 x8 q127.1)
            else
              (k61 q159.2 x1 x2 x3 x4 x5 x6 x7 (x8 + (1 : Int32))))))))) else none) else none)))
  else
    ((if vin x10 9 = true then bindS (us S 26 (ix x10) (x9 - x9 / (6 : Int32) * (6 : Int32))) (fun S94 => (if vin ((x1 - (1 : Int32)) - x10) 9 = true then bindS (us S94 26 (ix ((x1 - (1 : Int32)) - x10)) (x9 - x9 / (6 : Int32) * (6 : Int32))) (fun S110 => bindI ((x9 / (6 : Int32))) (fun v116 => fX11_best_78 F k61 n S110 x1 x2 x3 x4 x5 x6 x7 x8 v116 (x10 + (-1 : Int32)))) else none)) else none))
set_option maxRecDepth 4000 in
theorem gX11_best_78 {E : CT} (X : Cx E layM cX11_best RX11 12 (some .int) 1) (F : Nat) (k61 : ST → Int32 → Int32 → Int32 → Int32 → Int32 → Int32 → Int32 → Int32 → Option (Int32 × ST)) (h61 : ∀ (S : ST) (x1 : Int32) (x2 : Int32) (x3 : Int32) (x4 : Int32) (x5 : Int32) (x6 : Int32) (x7 : Int32) (x8 : Int32), G E (k61 S x1 x2 x3 x4 x5 x6 x7 x8) S 61 [(0, .ref (eA E 0)), (1, .int x1), (2, .int x2), (3, .int x3), (4, .int x4), (5, .int x5), (6, .int x6), (7, .int x7), (8, .int x8)] []) : ∀ (n : Nat) (S : ST) (x1 : Int32) (x2 : Int32) (x3 : Int32) (x4 : Int32) (x5 : Int32) (x6 : Int32) (x7 : Int32) (x8 : Int32) (x9 : Int32) (x10 : Int32), G E (fX11_best_78 F k61 n S x1 x2 x3 x4 x5 x6 x7 x8 x9 x10) S 78 [(0, .ref (eA E 0)), (1, .int x1), (2, .int x2), (3, .int x3), (4, .int x4), (5, .int x5), (6, .int x6), (7, .int x7), (8, .int x8), (9, .int x9), (10, .int x10)] []
  | 0, _, _, _, _, _, _, _, _, _, _, _ => r_none
  | n + 1, S, x1, x2, x3, x4, x5, x6, x7, x8, x9, x10 => by
    have ih := gX11_best_78 X F k61 h61 n
    unfold fX11_best_78
    refine r_iload X 10 rfl dX11_best_78 ?_
    refine r_if_lt (tgt := 124) X dX11_best_80 (by decide) (fun _ => ?_) (fun _ => ?_)
    · refine r_aload_n X 0 rfl dX11_best_124 ?_
      refine r_iload_n X 1 rfl dX11_best_125 ?_
      refine r_iconst (v := 2) X (by decide) dX11_best_126 ?_
      refine r_callV X (mX11_sum _ _ _ _) mk_X11_sum lk_X11_309 lm_0 rfl rfl (by decide) (by decide) (Nat.le_of_ble_eq_true rfl) rfl dX11_best_127 (fun q127 _ => ?_)
      refine r_istore (lv' := [(0, _), (1, _), (2, _), (3, _), (4, _), (5, _), (6, _), (7, _), (8, _), (9, _), (10, _)]) X (by decide) rfl dX11_best_130 ?_
      refine r_aload_n X 0 rfl dX11_best_132 ?_
      refine r_getR X fk_X11_96 lm_0 rfl dX11_best_133 ?_
      refine r_aload_n X 0 rfl dX11_best_136 ?_
      refine r_getR X fk_X11_93 lm_0 rfl dX11_best_137 ?_
      refine r_iconst (v := 0) X (by decide) dX11_best_140 ?_
      refine r_iald X lm_26 dX11_best_141 (fun _ => ?_)
      refine r_zald X lm_27 dX11_best_142 (fun _ => ?_)
      refine r_if_eq (tgt := 220) X dX11_best_143 (by decide) (fun _ => ?_) (fun _ => ?_)
      · refine r_iinc (lv' := [(0, _), (1, _), (2, _), (3, _), (4, _), (5, _), (6, _), (7, _), (8, _), (9, _), (10, _)]) (dl := 1) X 8 rfl (by decide) (by decide) rfl dX11_best_220 ?_
        refine r_goto (tgt := 61) X dX11_best_223 (by decide) ?_
        refine r_sub [0, 1, 2, 3, 4, 5, 6, 7, 8] rfl ?_
        exact h61 _ _ _ _ _ _ _ _ _
      · refine r_aload_n X 0 rfl dX11_best_146 ?_
        refine r_iload_n X 1 rfl dX11_best_147 ?_
        refine r_iconst (v := 0) X (by decide) dX11_best_148 ?_
        refine r_callV X (mX11_sum _ _ _ _) mk_X11_sum lk_X11_309 lm_0 rfl rfl (by decide) (by decide) (Nat.le_of_ble_eq_true rfl) rfl dX11_best_149 (fun q149 _ => ?_)
        refine r_iload_n X 2 rfl dX11_best_152 ?_
        refine r_icmp_lt (tgt := 220) X dX11_best_153 (by decide) (fun _ => ?_) (fun _ => ?_)
        · refine r_iinc (lv' := [(0, _), (1, _), (2, _), (3, _), (4, _), (5, _), (6, _), (7, _), (8, _), (9, _), (10, _)]) (dl := 1) X 8 rfl (by decide) (by decide) rfl dX11_best_220 ?_
          refine r_goto (tgt := 61) X dX11_best_223 (by decide) ?_
          refine r_sub [0, 1, 2, 3, 4, 5, 6, 7, 8] rfl ?_
          exact h61 _ _ _ _ _ _ _ _ _
        · refine r_aload_n X 0 rfl dX11_best_156 ?_
          refine r_iload_n X 1 rfl dX11_best_157 ?_
          refine r_iconst (v := 1) X (by decide) dX11_best_158 ?_
          refine r_callV X (mX11_sum _ _ _ _) mk_X11_sum lk_X11_309 lm_0 rfl rfl (by decide) (by decide) (Nat.le_of_ble_eq_true rfl) rfl dX11_best_159 (fun q159 _ => ?_)
          refine r_iload_n X 3 rfl dX11_best_162 ?_
          refine r_icmp_gt (tgt := 220) X dX11_best_163 (by decide) (fun _ => ?_) (fun _ => ?_)
          · refine r_iinc (lv' := [(0, _), (1, _), (2, _), (3, _), (4, _), (5, _), (6, _), (7, _), (8, _), (9, _), (10, _)]) (dl := 1) X 8 rfl (by decide) (by decide) rfl dX11_best_220 ?_
            refine r_goto (tgt := 61) X dX11_best_223 (by decide) ?_
            refine r_sub [0, 1, 2, 3, 4, 5, 6, 7, 8] rfl ?_
            exact h61 _ _ _ _ _ _ _ _ _
          · refine r_iload X 6 rfl dX11_best_166 ?_
            refine r_if_lt (tgt := 181) X dX11_best_168 (by decide) (fun _ => ?_) (fun _ => ?_)
            · refine r_sub [0, 1, 2, 3, 4, 5, 8, 10] rfl ?_
              exact gX11_best_181 X F _ h61 _ _ _ _ _ _ _ _
            · refine r_iload X 10 rfl dX11_best_171 ?_
              refine r_iload X 7 rfl dX11_best_173 ?_
              refine r_icmp_lt (tgt := 181) X dX11_best_175 (by decide) (fun _ => ?_) (fun _ => ?_)
              · refine r_sub [0, 1, 2, 3, 4, 5, 8, 10] rfl ?_
                exact gX11_best_181 X F _ h61 _ _ _ _ _ _ _ _
              · refine r_goto (tgt := 220) X dX11_best_178 (by decide) ?_
                refine r_iinc (lv' := [(0, _), (1, _), (2, _), (3, _), (4, _), (5, _), (6, _), (7, _), (8, _), (9, _), (10, _)]) (dl := 1) X 8 rfl (by decide) (by decide) rfl dX11_best_220 ?_
                refine r_goto (tgt := 61) X dX11_best_223 (by decide) ?_
                refine r_sub [0, 1, 2, 3, 4, 5, 6, 7, 8] rfl ?_
                exact h61 _ _ _ _ _ _ _ _ _
    · refine r_aload_n X 0 rfl dX11_best_83 ?_
      refine r_getR X fk_X11_93 lm_0 rfl dX11_best_84 ?_
      refine r_iload X 10 rfl dX11_best_87 ?_
      refine r_iload X 9 rfl dX11_best_89 ?_
      refine r_bipush (v := 6) X (by decide) dX11_best_91 ?_
      refine r_iremK X dX11_best_93 (by decide) ?_
      refine r_iast X lm_26 dX11_best_94 (fun _ => ?_)
      refine r_bindS (fun S94 => ?_)
      refine r_aload_n X 0 rfl dX11_best_95 ?_
      refine r_getR X fk_X11_93 lm_0 rfl dX11_best_96 ?_
      refine r_iload_n X 1 rfl dX11_best_99 ?_
      refine r_iconst (v := 1) X (by decide) dX11_best_100 ?_
      refine r_isub X dX11_best_101 ?_
      refine r_iload X 10 rfl dX11_best_102 ?_
      refine r_isub X dX11_best_104 ?_
      refine r_iload X 9 rfl dX11_best_105 ?_
      refine r_bipush (v := 6) X (by decide) dX11_best_107 ?_
      refine r_iremK X dX11_best_109 (by decide) ?_
      refine r_iast X lm_26 dX11_best_110 (fun _ => ?_)
      refine r_bindS (fun S110 => ?_)
      refine r_iload X 9 rfl dX11_best_111 ?_
      refine r_bipush (v := 6) X (by decide) dX11_best_113 ?_
      refine r_idivK X dX11_best_115 (by decide) ?_
      refine r_bindI (fun v116 => ?_)
      refine r_istore (lv' := [(0, _), (1, _), (2, _), (3, _), (4, _), (5, _), (6, _), (7, _), (8, _), (9, _), (10, _)]) X (by decide) rfl dX11_best_116 ?_
      refine r_iinc (lv' := [(0, _), (1, _), (2, _), (3, _), (4, _), (5, _), (6, _), (7, _), (8, _), (9, _), (10, _)]) (dl := -1) X 10 rfl (by decide) (by decide) rfl dX11_best_118 ?_
      refine r_goto (tgt := 78) X dX11_best_121 (by decide) ?_
      exact ih _ _ _ _ _ _ _ _ _ _ _
def fX11_best_61 (F : Nat) : Nat → ST → Int32 → Int32 → Int32 → Int32 → Int32 → Int32 → Int32 → Int32 → Option (Int32 × ST)
  | 0, _, _, _, _, _, _, _, _, _ => none
  | n + 1, S, x1, x2, x3, x4, x5, x6, x7, x8 =>
  if x5 ≤ x8 then
    (some (x6, S))
  else
    (bindI ((x4 - (1 : Int32))) (fun v76 => fX11_best_78 F (fX11_best_61 F n) F S x1 x2 x3 x4 x5 x6 x7 x8 x8 v76))
set_option maxRecDepth 4000 in
theorem gX11_best_61 {E : CT} (X : Cx E layM cX11_best RX11 12 (some .int) 1) (F : Nat) : ∀ (n : Nat) (S : ST) (x1 : Int32) (x2 : Int32) (x3 : Int32) (x4 : Int32) (x5 : Int32) (x6 : Int32) (x7 : Int32) (x8 : Int32), G E (fX11_best_61 F n S x1 x2 x3 x4 x5 x6 x7 x8) S 61 [(0, .ref (eA E 0)), (1, .int x1), (2, .int x2), (3, .int x3), (4, .int x4), (5, .int x5), (6, .int x6), (7, .int x7), (8, .int x8)] []
  | 0, _, _, _, _, _, _, _, _, _ => r_none
  | n + 1, S, x1, x2, x3, x4, x5, x6, x7, x8 => by
    have ih := gX11_best_61 X F n
    unfold fX11_best_61
    refine r_iload X 8 rfl dX11_best_61 ?_
    refine r_iload X 5 rfl dX11_best_63 ?_
    refine r_icmp_ge (tgt := 226) X dX11_best_65 (by decide) (fun _ => ?_) (fun _ => ?_)
    · refine r_iload X 6 rfl dX11_best_226 ?_
      exact r_iret X dX11_best_228
    · refine r_iload X 8 rfl dX11_best_68 ?_
      refine r_istore (lv' := [(0, _), (1, _), (2, _), (3, _), (4, _), (5, _), (6, _), (7, _), (8, _), (9, _)]) X (by decide) rfl dX11_best_70 ?_
      refine r_iload X 4 rfl dX11_best_72 ?_
      refine r_iconst (v := 1) X (by decide) dX11_best_74 ?_
      refine r_isub X dX11_best_75 ?_
      refine r_bindI (fun v76 => ?_)
      refine r_istore (lv' := [(0, _), (1, _), (2, _), (3, _), (4, _), (5, _), (6, _), (7, _), (8, _), (9, _), (10, _)]) X (by decide) rfl dX11_best_76 ?_
      exact gX11_best_78 X F _ ih F _ _ _ _ _ _ _ _ _ _ _
def fX11_best_32 (F : Nat) : Nat → ST → Int32 → Int32 → Int32 → Int32 → Int32 → Int32 → Option (Int32 × ST)
  | 0, _, _, _, _, _, _, _ => none
  | n + 1, S, x1, x2, x3, x4, x5, x6 =>
  if x4 ≤ x6 then
    (fX11_best_61 F F S x1 x2 x3 x4 x5 (-1 : Int32) (0 : Int32) (0 : Int32))
  else
    (bindI ((x5 * (6 : Int32))) (fun v44 => fX11_best_32 F n S x1 x2 x3 x4 v44 (x6 + (1 : Int32))))
set_option maxRecDepth 4000 in
theorem gX11_best_32 {E : CT} (X : Cx E layM cX11_best RX11 12 (some .int) 1) (F : Nat) : ∀ (n : Nat) (S : ST) (x1 : Int32) (x2 : Int32) (x3 : Int32) (x4 : Int32) (x5 : Int32) (x6 : Int32), G E (fX11_best_32 F n S x1 x2 x3 x4 x5 x6) S 32 [(0, .ref (eA E 0)), (1, .int x1), (2, .int x2), (3, .int x3), (4, .int x4), (5, .int x5), (6, .int x6)] []
  | 0, _, _, _, _, _, _, _ => r_none
  | n + 1, S, x1, x2, x3, x4, x5, x6 => by
    have ih := gX11_best_32 X F n
    unfold fX11_best_32
    refine r_iload X 6 rfl dX11_best_32 ?_
    refine r_iload X 4 rfl dX11_best_34 ?_
    refine r_icmp_ge (tgt := 52) X dX11_best_36 (by decide) (fun _ => ?_) (fun _ => ?_)
    · refine r_iconst (v := -1) X (by decide) dX11_best_52 ?_
      refine r_istore (lv' := [(0, _), (1, _), (2, _), (3, _), (4, _), (5, _), (6, _)]) X (by decide) rfl dX11_best_53 ?_
      refine r_iconst (v := 0) X (by decide) dX11_best_55 ?_
      refine r_istore (lv' := [(0, _), (1, _), (2, _), (3, _), (4, _), (5, _), (6, _), (7, _)]) X (by decide) rfl dX11_best_56 ?_
      refine r_iconst (v := 0) X (by decide) dX11_best_58 ?_
      refine r_istore (lv' := [(0, _), (1, _), (2, _), (3, _), (4, _), (5, _), (6, _), (7, _), (8, _)]) X (by decide) rfl dX11_best_59 ?_
      exact gX11_best_61 X F F _ _ _ _ _ _ _ _ _
    · refine r_iload X 5 rfl dX11_best_39 ?_
      refine r_bipush (v := 6) X (by decide) dX11_best_41 ?_
      refine r_imul X dX11_best_43 ?_
      refine r_bindI (fun v44 => ?_)
      refine r_istore (lv' := [(0, _), (1, _), (2, _), (3, _), (4, _), (5, _), (6, _)]) X (by decide) rfl dX11_best_44 ?_
      refine r_iinc (lv' := [(0, _), (1, _), (2, _), (3, _), (4, _), (5, _), (6, _)]) (dl := 1) X 6 rfl (by decide) (by decide) rfl dX11_best_46 ?_
      refine r_goto (tgt := 32) X dX11_best_49 (by decide) ?_
      exact ih _ _ _ _ _ _ _
def fX11_best (F : Nat) (S : ST) (x1 : Int32) (x2 : Int32) (x3 : Int32) : Option (Int32 × ST) :=
  if x1 < (1 : Int32) then
    (some ((-1 : Int32), S))
  else
    (if (9 : Int32) < x1 then
      (some ((-1 : Int32), S))
    else
      (if (x1 - x1 / (2 : Int32) * (2 : Int32)) = 0 then
        (some ((-1 : Int32), S))
      else
        (bindI (((x1 + (1 : Int32)) / (2 : Int32))) (fun v24 => fX11_best_32 F F S x1 x2 x3 v24 (1 : Int32) (0 : Int32)))))
set_option maxRecDepth 4000 in
theorem gX11_best {E : CT} (X : Cx E layM cX11_best RX11 12 (some .int) 1) (F : Nat) (S : ST) (x1 : Int32) (x2 : Int32) (x3 : Int32) : G E (fX11_best F S x1 x2 x3) S 0 [(0, .ref (eA E 0)), (1, .int x1), (2, .int x2), (3, .int x3)] [] := by
  unfold fX11_best
  refine r_iload_n X 1 rfl dX11_best_0 ?_
  refine r_iconst (v := 1) X (by decide) dX11_best_1 ?_
  refine r_icmp_lt (tgt := 17) X dX11_best_2 (by decide) (fun _ => ?_) (fun _ => ?_)
  · refine r_iconst (v := -1) X (by decide) dX11_best_17 ?_
    exact r_iret X dX11_best_18
  · refine r_iload_n X 1 rfl dX11_best_5 ?_
    refine r_bipush (v := 9) X (by decide) dX11_best_6 ?_
    refine r_icmp_gt (tgt := 17) X dX11_best_8 (by decide) (fun _ => ?_) (fun _ => ?_)
    · refine r_iconst (v := -1) X (by decide) dX11_best_17 ?_
      exact r_iret X dX11_best_18
    · refine r_iload_n X 1 rfl dX11_best_11 ?_
      refine r_iconst (v := 2) X (by decide) dX11_best_12 ?_
      refine r_iremK X dX11_best_13 (by decide) ?_
      refine r_if_ne (tgt := 19) X dX11_best_14 (by decide) (fun _ => ?_) (fun _ => ?_)
      · refine r_iload_n X 1 rfl dX11_best_19 ?_
        refine r_iconst (v := 1) X (by decide) dX11_best_20 ?_
        refine r_iadd X dX11_best_21 ?_
        refine r_iconst (v := 2) X (by decide) dX11_best_22 ?_
        refine r_idivK X dX11_best_23 (by decide) ?_
        refine r_bindI (fun v24 => ?_)
        refine r_istore (lv' := [(0, _), (1, _), (2, _), (3, _), (4, _)]) X (by decide) rfl dX11_best_24 ?_
        refine r_iconst (v := 1) X (by decide) dX11_best_26 ?_
        refine r_istore (lv' := [(0, _), (1, _), (2, _), (3, _), (4, _), (5, _)]) X (by decide) rfl dX11_best_27 ?_
        refine r_iconst (v := 0) X (by decide) dX11_best_29 ?_
        refine r_istore (lv' := [(0, _), (1, _), (2, _), (3, _), (4, _), (5, _), (6, _)]) X (by decide) rfl dX11_best_30 ?_
        exact gX11_best_32 X F F _ _ _ _ _ _ _
      · refine r_iconst (v := -1) X (by decide) dX11_best_17 ?_
        exact r_iret X dX11_best_18
theorem mX11_best (F : Nat) (S : ST) (x1 : Int32) (x2 : Int32) (x3 : Int32) : MetS yX11_best cX11_best 12 (some .int) 1 layM (fX11_best F S x1 x2 x3) S (fun ad => [.ref (ad 0), .int x1, .int x2, .int x3]) := mk_met (fun ad => [(0, .ref (ad 0)), (1, .int x1), (2, .int x2), (3, .int x3)]) (by decide) (fun _ => Nat.le_of_ble_eq_true rfl) (fun _ => rfl) (fun E X => gX11_best X F S x1 x2 x3)
def fX11_lays_72 (F : Nat) (k30 : ST → Int32 → Int32 → Int32 → Int32 → Option (Int32 × ST)) (S : ST) (x1 : Int32) (x2 : Int32) (x4 : Int32) : Option (Int32 × ST) :=
  k30 S x1 x2 (0 : Int32) (x4 + (1 : Int32))
set_option maxRecDepth 4000 in
theorem gX11_lays_72 {E : CT} (X : Cx E layM cX11_lays RX11 5 (some .boolean) 0) (F : Nat) (k30 : ST → Int32 → Int32 → Int32 → Int32 → Option (Int32 × ST)) (h30 : ∀ (S : ST) (x1 : Int32) (x2 : Int32) (x3 : Int32) (x4 : Int32), G E (k30 S x1 x2 x3 x4) S 30 [(0, .ref (eA E 0)), (1, .int x1), (2, .int x2), (3, .int x3), (4, .int x4)] []) (S : ST) (x1 : Int32) (x2 : Int32) (x4 : Int32) : G E (fX11_lays_72 F k30 S x1 x2 x4) S 72 [(0, .ref (eA E 0)), (1, .int x1), (2, .int x2), (4, .int x4)] [] := by
  unfold fX11_lays_72
  refine r_iconst (v := 0) X (by decide) dX11_lays_72 ?_
  refine r_istore_n (lv' := [(0, _), (1, _), (2, _), (3, _), (4, _)]) X (by decide) rfl dX11_lays_73 ?_
  refine r_iinc (lv' := [(0, _), (1, _), (2, _), (3, _), (4, _)]) (dl := 1) X 4 rfl (by decide) (by decide) rfl dX11_lays_74 ?_
  refine r_goto (tgt := 30) X dX11_lays_77 (by decide) ?_
  exact h30 _ _ _ _ _
def fX11_lays_30 (F : Nat) : Nat → ST → Int32 → Int32 → Int32 → Int32 → Option (Int32 × ST)
  | 0, _, _, _, _, _ => none
  | n + 1, S, x1, x2, x3, x4 =>
  if x1 ≤ x4 then
    (if x3 &&& 1 = x3 then some (x3, S) else none)
  else
    ((if vin x4 9 = true then bindS (us S 26 (ix x4) ((x2 >>> (((3 : Int32) * x4) &&& 31)) &&& (7 : Int32))) (fun S51 => if x3 = 0 then
      (fX11_lays_72 F (fX11_lays_30 F n) S51 x1 x2 x4)
    else
      ((if vin x4 9 = true then if (6 : Int32) ≤ (S51.1 26 (ix x4)) then
        (fX11_lays_72 F (fX11_lays_30 F n) S51 x1 x2 x4)
      else
        (fX11_lays_30 F n S51 x1 x2 (1 : Int32) (x4 + (1 : Int32))) else none))) else none))
set_option maxRecDepth 4000 in
theorem gX11_lays_30 {E : CT} (X : Cx E layM cX11_lays RX11 5 (some .boolean) 0) (F : Nat) : ∀ (n : Nat) (S : ST) (x1 : Int32) (x2 : Int32) (x3 : Int32) (x4 : Int32), G E (fX11_lays_30 F n S x1 x2 x3 x4) S 30 [(0, .ref (eA E 0)), (1, .int x1), (2, .int x2), (3, .int x3), (4, .int x4)] []
  | 0, _, _, _, _, _ => r_none
  | n + 1, S, x1, x2, x3, x4 => by
    have ih := gX11_lays_30 X F n
    unfold fX11_lays_30
    refine r_iload X 4 rfl dX11_lays_30 ?_
    refine r_iload_n X 1 rfl dX11_lays_32 ?_
    refine r_icmp_ge (tgt := 80) X dX11_lays_33 (by decide) (fun _ => ?_) (fun _ => ?_)
    · refine r_iload_n X 3 rfl dX11_lays_80 ?_
      exact r_zretC X dX11_lays_81
    · refine r_aload_n X 0 rfl dX11_lays_36 ?_
      refine r_getR X fk_X11_93 lm_0 rfl dX11_lays_37 ?_
      refine r_iload X 4 rfl dX11_lays_40 ?_
      refine r_iload_n X 2 rfl dX11_lays_42 ?_
      refine r_iconst (v := 3) X (by decide) dX11_lays_43 ?_
      refine r_iload X 4 rfl dX11_lays_44 ?_
      refine r_imul X dX11_lays_46 ?_
      refine r_ishr X dX11_lays_47 ?_
      refine r_bipush (v := 7) X (by decide) dX11_lays_48 ?_
      refine r_iand X dX11_lays_50 ?_
      refine r_iast X lm_26 dX11_lays_51 (fun _ => ?_)
      refine r_bindS (fun S51 => ?_)
      refine r_iload_n X 3 rfl dX11_lays_52 ?_
      refine r_if_eq (tgt := 72) X dX11_lays_53 (by decide) (fun _ => ?_) (fun _ => ?_)
      · refine r_sub [0, 1, 2, 4] rfl ?_
        exact gX11_lays_72 X F _ ih _ _ _ _
      · refine r_aload_n X 0 rfl dX11_lays_56 ?_
        refine r_getR X fk_X11_93 lm_0 rfl dX11_lays_57 ?_
        refine r_iload X 4 rfl dX11_lays_60 ?_
        refine r_iald X lm_26 dX11_lays_62 (fun _ => ?_)
        refine r_bipush (v := 6) X (by decide) dX11_lays_63 ?_
        refine r_icmp_ge (tgt := 72) X dX11_lays_65 (by decide) (fun _ => ?_) (fun _ => ?_)
        · refine r_sub [0, 1, 2, 4] rfl ?_
          exact gX11_lays_72 X F _ ih _ _ _ _
        · refine r_iconst (v := 1) X (by decide) dX11_lays_68 ?_
          refine r_goto (tgt := 73) X dX11_lays_69 (by decide) ?_
          refine r_istore_n (lv' := [(0, _), (1, _), (2, _), (3, _), (4, _)]) X (by decide) rfl dX11_lays_73 ?_
          refine r_iinc (lv' := [(0, _), (1, _), (2, _), (3, _), (4, _)]) (dl := 1) X 4 rfl (by decide) (by decide) rfl dX11_lays_74 ?_
          refine r_goto (tgt := 30) X dX11_lays_77 (by decide) ?_
          exact ih _ _ _ _ _
def fX11_lays (F : Nat) (S : ST) (x1 : Int32) (x2 : Int32) : Option (Int32 × ST) :=
  if x1 < (1 : Int32) then
    (some ((0 : Int32), S))
  else
    (if (9 : Int32) < x1 then
      (some ((0 : Int32), S))
    else
      (if x2 < 0 then
        (some ((0 : Int32), S))
      else
        (if (x2 >>> (((3 : Int32) * x1) &&& 31)) = 0 then
          (fX11_lays_30 F F S x1 x2 (1 : Int32) (0 : Int32))
        else
          (some ((0 : Int32), S)))))
set_option maxRecDepth 4000 in
theorem gX11_lays {E : CT} (X : Cx E layM cX11_lays RX11 5 (some .boolean) 0) (F : Nat) (S : ST) (x1 : Int32) (x2 : Int32) : G E (fX11_lays F S x1 x2) S 0 [(0, .ref (eA E 0)), (1, .int x1), (2, .int x2)] [] := by
  unfold fX11_lays
  refine r_iload_n X 1 rfl dX11_lays_0 ?_
  refine r_iconst (v := 1) X (by decide) dX11_lays_1 ?_
  refine r_icmp_lt (tgt := 23) X dX11_lays_2 (by decide) (fun _ => ?_) (fun _ => ?_)
  · refine r_iconst (v := 0) X (by decide) dX11_lays_23 ?_
    exact r_zret X (by decide) dX11_lays_24
  · refine r_iload_n X 1 rfl dX11_lays_5 ?_
    refine r_bipush (v := 9) X (by decide) dX11_lays_6 ?_
    refine r_icmp_gt (tgt := 23) X dX11_lays_8 (by decide) (fun _ => ?_) (fun _ => ?_)
    · refine r_iconst (v := 0) X (by decide) dX11_lays_23 ?_
      exact r_zret X (by decide) dX11_lays_24
    · refine r_iload_n X 2 rfl dX11_lays_11 ?_
      refine r_if_lt (tgt := 23) X dX11_lays_12 (by decide) (fun _ => ?_) (fun _ => ?_)
      · refine r_iconst (v := 0) X (by decide) dX11_lays_23 ?_
        exact r_zret X (by decide) dX11_lays_24
      · refine r_iload_n X 2 rfl dX11_lays_15 ?_
        refine r_iconst (v := 3) X (by decide) dX11_lays_16 ?_
        refine r_iload_n X 1 rfl dX11_lays_17 ?_
        refine r_imul X dX11_lays_18 ?_
        refine r_ishr X dX11_lays_19 ?_
        refine r_if_eq (tgt := 25) X dX11_lays_20 (by decide) (fun _ => ?_) (fun _ => ?_)
        · refine r_iconst (v := 1) X (by decide) dX11_lays_25 ?_
          refine r_istore_n (lv' := [(0, _), (1, _), (2, _), (3, _)]) X (by decide) rfl dX11_lays_26 ?_
          refine r_iconst (v := 0) X (by decide) dX11_lays_27 ?_
          refine r_istore (lv' := [(0, _), (1, _), (2, _), (3, _), (4, _)]) X (by decide) rfl dX11_lays_28 ?_
          exact gX11_lays_30 X F F _ _ _ _ _
        · refine r_iconst (v := 0) X (by decide) dX11_lays_23 ?_
          exact r_zret X (by decide) dX11_lays_24
theorem mX11_lays (F : Nat) (S : ST) (x1 : Int32) (x2 : Int32) : MetS yX11_lays cX11_lays 5 (some .boolean) 0 layM (fX11_lays F S x1 x2) S (fun ad => [.ref (ad 0), .int x1, .int x2]) := mk_met (fun ad => [(0, .ref (ad 0)), (1, .int x1), (2, .int x2)]) (by decide) (fun _ => Nat.le_of_ble_eq_true rfl) (fun _ => rfl) (fun E X => gX11_lays X F S x1 x2)
def fX11_board (F : Nat) (S : ST) (x1 : Int32) (x2 : Int32) (x3 : Int32) : Option (Int32 × ST) :=
  if x3 < 0 then
    (some ((-1 : Int32), S))
  else
    (if (2 : Int32) < x3 then
      (some ((-1 : Int32), S))
    else
      ((fX11_lays F S x1 x2).bind (fun q12 => if q12.1 = 0 then
        (some ((-1 : Int32), q12.2))
      else
        ((fX11_sum F q12.2 x1 x3).bind (fun q25 => some (q25.1, q25.2))))))
set_option maxRecDepth 4000 in
theorem gX11_board {E : CT} (X : Cx E layM cX11_board RX11 4 (some .int) 1) (F : Nat) (S : ST) (x1 : Int32) (x2 : Int32) (x3 : Int32) : G E (fX11_board F S x1 x2 x3) S 0 [(0, .ref (eA E 0)), (1, .int x1), (2, .int x2), (3, .int x3)] [] := by
  unfold fX11_board
  refine r_iload_n X 3 rfl dX11_board_0 ?_
  refine r_if_lt (tgt := 18) X dX11_board_1 (by decide) (fun _ => ?_) (fun _ => ?_)
  · refine r_iconst (v := -1) X (by decide) dX11_board_18 ?_
    refine r_goto (tgt := 28) X dX11_board_19 (by decide) ?_
    exact r_iret X dX11_board_28
  · refine r_iload_n X 3 rfl dX11_board_4 ?_
    refine r_iconst (v := 2) X (by decide) dX11_board_5 ?_
    refine r_icmp_gt (tgt := 18) X dX11_board_6 (by decide) (fun _ => ?_) (fun _ => ?_)
    · refine r_iconst (v := -1) X (by decide) dX11_board_18 ?_
      refine r_goto (tgt := 28) X dX11_board_19 (by decide) ?_
      exact r_iret X dX11_board_28
    · refine r_aload_n X 0 rfl dX11_board_9 ?_
      refine r_iload_n X 1 rfl dX11_board_10 ?_
      refine r_iload_n X 2 rfl dX11_board_11 ?_
      refine r_callV X (mX11_lays _ _ _ _) mk_X11_lays lk_X11_306 lm_0 rfl rfl (by decide) (by decide) (Nat.le_of_ble_eq_true rfl) rfl dX11_board_12 (fun q12 _ => ?_)
      refine r_if_ne (tgt := 22) X dX11_board_15 (by decide) (fun _ => ?_) (fun _ => ?_)
      · refine r_aload_n X 0 rfl dX11_board_22 ?_
        refine r_iload_n X 1 rfl dX11_board_23 ?_
        refine r_iload_n X 3 rfl dX11_board_24 ?_
        refine r_callV X (mX11_sum _ _ _ _) mk_X11_sum lk_X11_309 lm_0 rfl rfl (by decide) (by decide) (Nat.le_of_ble_eq_true rfl) rfl dX11_board_25 (fun q25 _ => ?_)
        exact r_iret X dX11_board_28
      · refine r_iconst (v := -1) X (by decide) dX11_board_18 ?_
        refine r_goto (tgt := 28) X dX11_board_19 (by decide) ?_
        exact r_iret X dX11_board_28
theorem mX11_board (F : Nat) (S : ST) (x1 : Int32) (x2 : Int32) (x3 : Int32) : MetS yX11_board cX11_board 4 (some .int) 1 layM (fX11_board F S x1 x2 x3) S (fun ad => [.ref (ad 0), .int x1, .int x2, .int x3]) := mk_met (fun ad => [(0, .ref (ad 0)), (1, .int x1), (2, .int x2), (3, .int x3)]) (by decide) (fun _ => Nat.le_of_ble_eq_true rfl) (fun _ => rfl) (fun E X => gX11_board X F S x1 x2 x3)
def fX11_cell (F : Nat) (S : ST) (x0 : Int32) (x1 : Int32) (x2 : Int32) : Option (Int32 × ST) :=
  some (((((x0 * (8 : Int32)) + x1) * (4 : Int32)) + x2), S)
set_option maxRecDepth 4000 in
theorem gX11_cell {E : CT} (X : Cx E layM cX11_cell RX11 3 (some .int) 0) (F : Nat) (S : ST) (x0 : Int32) (x1 : Int32) (x2 : Int32) : G E (fX11_cell F S x0 x1 x2) S 0 [(0, .int x0), (1, .int x1), (2, .int x2)] [] := by
  unfold fX11_cell
  refine r_iload_n X 0 rfl dX11_cell_0 ?_
  refine r_bipush (v := 8) X (by decide) dX11_cell_1 ?_
  refine r_imul X dX11_cell_3 ?_
  refine r_iload_n X 1 rfl dX11_cell_4 ?_
  refine r_iadd X dX11_cell_5 ?_
  refine r_iconst (v := 4) X (by decide) dX11_cell_6 ?_
  refine r_imul X dX11_cell_7 ?_
  refine r_iload_n X 2 rfl dX11_cell_8 ?_
  refine r_iadd X dX11_cell_9 ?_
  exact r_iret X dX11_cell_10
theorem mX11_cell (F : Nat) (S : ST) (x0 : Int32) (x1 : Int32) (x2 : Int32) : MetS yX11_cell cX11_cell 3 (some .int) 0 layM (fX11_cell F S x0 x1 x2) S (fun ad => [.int x0, .int x1, .int x2]) := mk_met (fun ad => [(0, .int x0), (1, .int x1), (2, .int x2)]) (by decide) (fun _ => Nat.le_of_ble_eq_true rfl) (fun _ => rfl) (fun E X => gX11_cell X F S x0 x1 x2)
def fX11_isIn_38 (F : Nat) (S : ST) : Option (Int32 × ST) :=
  some ((0 : Int32), S)
set_option maxRecDepth 4000 in
theorem gX11_isIn_38 {E : CT} (X : Cx E layM cX11_isIn RX11 3 (some .boolean) 0) (F : Nat) (S : ST) : G E (fX11_isIn_38 F S) S 38 [] [] := by
  unfold fX11_isIn_38
  refine r_iconst (v := 0) X (by decide) dX11_isIn_38 ?_
  exact r_zret X (by decide) dX11_isIn_39
def fX11_isIn (F : Nat) (S : ST) (x1 : Int32) (x2 : Int32) : Option (Int32 × ST) :=
  if x1 < 0 then
    (fX11_isIn_38 F S)
  else
    (if (24 : Int32) ≤ x1 then
      (fX11_isIn_38 F S)
    else
      (if x2 < 0 then
        (fX11_isIn_38 F S)
      else
        (if (24 : Int32) ≤ x2 then
          (fX11_isIn_38 F S)
        else
          ((if vin x1 24 = true then if (((S.1 1 (ix x1)) >>> (x2 &&& 31)) &&& (1 : Int32)) = (1 : Int32) then
            (some ((1 : Int32), S))
          else
            (fX11_isIn_38 F S) else none)))))
set_option maxRecDepth 4000 in
theorem gX11_isIn {E : CT} (X : Cx E layM cX11_isIn RX11 3 (some .boolean) 0) (F : Nat) (S : ST) (x1 : Int32) (x2 : Int32) : G E (fX11_isIn F S x1 x2) S 0 [(0, .ref (eA E 0)), (1, .int x1), (2, .int x2)] [] := by
  unfold fX11_isIn
  refine r_iload_n X 1 rfl dX11_isIn_0 ?_
  refine r_if_lt (tgt := 38) X dX11_isIn_1 (by decide) (fun _ => ?_) (fun _ => ?_)
  · refine r_sub [] rfl ?_
    exact gX11_isIn_38 X F _
  · refine r_iload_n X 1 rfl dX11_isIn_4 ?_
    refine r_bipush (v := 24) X (by decide) dX11_isIn_5 ?_
    refine r_icmp_ge (tgt := 38) X dX11_isIn_7 (by decide) (fun _ => ?_) (fun _ => ?_)
    · refine r_sub [] rfl ?_
      exact gX11_isIn_38 X F _
    · refine r_iload_n X 2 rfl dX11_isIn_10 ?_
      refine r_if_lt (tgt := 38) X dX11_isIn_11 (by decide) (fun _ => ?_) (fun _ => ?_)
      · refine r_sub [] rfl ?_
        exact gX11_isIn_38 X F _
      · refine r_iload_n X 2 rfl dX11_isIn_14 ?_
        refine r_bipush (v := 24) X (by decide) dX11_isIn_15 ?_
        refine r_icmp_ge (tgt := 38) X dX11_isIn_17 (by decide) (fun _ => ?_) (fun _ => ?_)
        · refine r_sub [] rfl ?_
          exact gX11_isIn_38 X F _
        · refine r_aload_n X 0 rfl dX11_isIn_20 ?_
          refine r_getR X fk_X11_7 lm_0 rfl dX11_isIn_21 ?_
          refine r_iload_n X 1 rfl dX11_isIn_24 ?_
          refine r_iald X lm_1 dX11_isIn_25 (fun _ => ?_)
          refine r_iload_n X 2 rfl dX11_isIn_26 ?_
          refine r_ishr X dX11_isIn_27 ?_
          refine r_iconst (v := 1) X (by decide) dX11_isIn_28 ?_
          refine r_iand X dX11_isIn_29 ?_
          refine r_iconst (v := 1) X (by decide) dX11_isIn_30 ?_
          refine r_icmp_ne (tgt := 38) X dX11_isIn_31 (by decide) (fun _ => ?_) (fun _ => ?_)
          · refine r_sub [] rfl ?_
            exact gX11_isIn_38 X F _
          · refine r_iconst (v := 1) X (by decide) dX11_isIn_34 ?_
            refine r_goto (tgt := 39) X dX11_isIn_35 (by decide) ?_
            exact r_zret X (by decide) dX11_isIn_39
theorem mX11_isIn (F : Nat) (S : ST) (x1 : Int32) (x2 : Int32) : MetS yX11_isIn cX11_isIn 3 (some .boolean) 0 layM (fX11_isIn F S x1 x2) S (fun ad => [.ref (ad 0), .int x1, .int x2]) := mk_met (fun ad => [(0, .ref (ad 0)), (1, .int x1), (2, .int x2)]) (by decide) (fun _ => Nat.le_of_ble_eq_true rfl) (fun _ => rfl) (fun E X => gX11_isIn X F S x1 x2)
def fX11_fits_22 (F : Nat) (k7 : ST → Int32 → Int32 → Int32 → Int32 → Int32 → Option (Int32 × ST)) : Nat → ST → Int32 → Int32 → Int32 → Int32 → Int32 → Int32 → Option (Int32 × ST)
  | 0, _, _, _, _, _, _, _ => none
  | n + 1, S, x1, x2, x3, x4, x5, x6 =>
  if x3 < x6 then
    (k7 S x1 x2 x3 x4 (x5 + (1 : Int32)))
  else
    (if x4 = 0 then
      (k7 S x1 x2 x3 x4 (x5 + (1 : Int32)))
    else
      (if (x3 * x3) < ((x5 * x5) + (x6 * x6)) then
        (fX11_fits_22 F k7 n S x1 x2 x3 (1 : Int32) x5 (x6 + (1 : Int32)))
      else
        ((fX11_isIn F S (x1 + x5) (x2 + x6)).bind (fun q59 => if q59.1 = 0 then
          (fX11_fits_22 F k7 n q59.2 x1 x2 x3 (0 : Int32) x5 (x6 + (1 : Int32)))
        else
          (fX11_fits_22 F k7 n q59.2 x1 x2 x3 (1 : Int32) x5 (x6 + (1 : Int32)))))))
set_option maxRecDepth 4000 in
theorem gX11_fits_22 {E : CT} (X : Cx E layM cX11_fits RX11 7 (some .boolean) 1) (F : Nat) (k7 : ST → Int32 → Int32 → Int32 → Int32 → Int32 → Option (Int32 × ST)) (h7 : ∀ (S : ST) (x1 : Int32) (x2 : Int32) (x3 : Int32) (x4 : Int32) (x5 : Int32), G E (k7 S x1 x2 x3 x4 x5) S 7 [(0, .ref (eA E 0)), (1, .int x1), (2, .int x2), (3, .int x3), (4, .int x4), (5, .int x5)] []) : ∀ (n : Nat) (S : ST) (x1 : Int32) (x2 : Int32) (x3 : Int32) (x4 : Int32) (x5 : Int32) (x6 : Int32), G E (fX11_fits_22 F k7 n S x1 x2 x3 x4 x5 x6) S 22 [(0, .ref (eA E 0)), (1, .int x1), (2, .int x2), (3, .int x3), (4, .int x4), (5, .int x5), (6, .int x6)] []
  | 0, _, _, _, _, _, _, _ => r_none
  | n + 1, S, x1, x2, x3, x4, x5, x6 => by
    have ih := gX11_fits_22 X F k7 h7 n
    unfold fX11_fits_22
    refine r_iload X 6 rfl dX11_fits_22 ?_
    refine r_iload_n X 3 rfl dX11_fits_24 ?_
    refine r_icmp_gt (tgt := 78) X dX11_fits_25 (by decide) (fun _ => ?_) (fun _ => ?_)
    · refine r_iinc (lv' := [(0, _), (1, _), (2, _), (3, _), (4, _), (5, _), (6, _)]) (dl := 1) X 5 rfl (by decide) (by decide) rfl dX11_fits_78 ?_
      refine r_goto (tgt := 7) X dX11_fits_81 (by decide) ?_
      refine r_sub [0, 1, 2, 3, 4, 5] rfl ?_
      exact h7 _ _ _ _ _ _
    · refine r_iload X 4 rfl dX11_fits_28 ?_
      refine r_if_eq (tgt := 78) X dX11_fits_30 (by decide) (fun _ => ?_) (fun _ => ?_)
      · refine r_iinc (lv' := [(0, _), (1, _), (2, _), (3, _), (4, _), (5, _), (6, _)]) (dl := 1) X 5 rfl (by decide) (by decide) rfl dX11_fits_78 ?_
        refine r_goto (tgt := 7) X dX11_fits_81 (by decide) ?_
        refine r_sub [0, 1, 2, 3, 4, 5] rfl ?_
        exact h7 _ _ _ _ _ _
      · refine r_iload X 5 rfl dX11_fits_33 ?_
        refine r_iload X 5 rfl dX11_fits_35 ?_
        refine r_imul X dX11_fits_37 ?_
        refine r_iload X 6 rfl dX11_fits_38 ?_
        refine r_iload X 6 rfl dX11_fits_40 ?_
        refine r_imul X dX11_fits_42 ?_
        refine r_iadd X dX11_fits_43 ?_
        refine r_iload_n X 3 rfl dX11_fits_44 ?_
        refine r_iload_n X 3 rfl dX11_fits_45 ?_
        refine r_imul X dX11_fits_46 ?_
        refine r_icmp_gt (tgt := 65) X dX11_fits_47 (by decide) (fun _ => ?_) (fun _ => ?_)
        · refine r_iconst (v := 1) X (by decide) dX11_fits_65 ?_
          refine r_goto (tgt := 70) X dX11_fits_66 (by decide) ?_
          refine r_istore (lv' := [(0, _), (1, _), (2, _), (3, _), (4, _), (5, _), (6, _)]) X (by decide) rfl dX11_fits_70 ?_
          refine r_iinc (lv' := [(0, _), (1, _), (2, _), (3, _), (4, _), (5, _), (6, _)]) (dl := 1) X 6 rfl (by decide) (by decide) rfl dX11_fits_72 ?_
          refine r_goto (tgt := 22) X dX11_fits_75 (by decide) ?_
          exact ih _ _ _ _ _ _ _
        · refine r_aload_n X 0 rfl dX11_fits_50 ?_
          refine r_iload_n X 1 rfl dX11_fits_51 ?_
          refine r_iload X 5 rfl dX11_fits_52 ?_
          refine r_iadd X dX11_fits_54 ?_
          refine r_iload_n X 2 rfl dX11_fits_55 ?_
          refine r_iload X 6 rfl dX11_fits_56 ?_
          refine r_iadd X dX11_fits_58 ?_
          refine r_callV X (mX11_isIn _ _ _ _) mk_X11_isIn lk_X11_127 lm_0 rfl rfl (by decide) (by decide) (Nat.le_of_ble_eq_true rfl) rfl dX11_fits_59 (fun q59 _ => ?_)
          refine r_if_eq (tgt := 69) X dX11_fits_62 (by decide) (fun _ => ?_) (fun _ => ?_)
          · refine r_iconst (v := 0) X (by decide) dX11_fits_69 ?_
            refine r_istore (lv' := [(0, _), (1, _), (2, _), (3, _), (4, _), (5, _), (6, _)]) X (by decide) rfl dX11_fits_70 ?_
            refine r_iinc (lv' := [(0, _), (1, _), (2, _), (3, _), (4, _), (5, _), (6, _)]) (dl := 1) X 6 rfl (by decide) (by decide) rfl dX11_fits_72 ?_
            refine r_goto (tgt := 22) X dX11_fits_75 (by decide) ?_
            exact ih _ _ _ _ _ _ _
          · refine r_iconst (v := 1) X (by decide) dX11_fits_65 ?_
            refine r_goto (tgt := 70) X dX11_fits_66 (by decide) ?_
            refine r_istore (lv' := [(0, _), (1, _), (2, _), (3, _), (4, _), (5, _), (6, _)]) X (by decide) rfl dX11_fits_70 ?_
            refine r_iinc (lv' := [(0, _), (1, _), (2, _), (3, _), (4, _), (5, _), (6, _)]) (dl := 1) X 6 rfl (by decide) (by decide) rfl dX11_fits_72 ?_
            refine r_goto (tgt := 22) X dX11_fits_75 (by decide) ?_
            exact ih _ _ _ _ _ _ _
def fX11_fits_7 (F : Nat) : Nat → ST → Int32 → Int32 → Int32 → Int32 → Int32 → Option (Int32 × ST)
  | 0, _, _, _, _, _, _ => none
  | n + 1, S, x1, x2, x3, x4, x5 =>
  if x3 < x5 then
    (if x4 &&& 1 = x4 then some (x4, S) else none)
  else
    (if x4 = 0 then
      (if x4 &&& 1 = x4 then some (x4, S) else none)
    else
      (bindI ((-x3)) (fun v20 => fX11_fits_22 F (fX11_fits_7 F n) F S x1 x2 x3 x4 x5 v20)))
set_option maxRecDepth 4000 in
theorem gX11_fits_7 {E : CT} (X : Cx E layM cX11_fits RX11 7 (some .boolean) 1) (F : Nat) : ∀ (n : Nat) (S : ST) (x1 : Int32) (x2 : Int32) (x3 : Int32) (x4 : Int32) (x5 : Int32), G E (fX11_fits_7 F n S x1 x2 x3 x4 x5) S 7 [(0, .ref (eA E 0)), (1, .int x1), (2, .int x2), (3, .int x3), (4, .int x4), (5, .int x5)] []
  | 0, _, _, _, _, _, _ => r_none
  | n + 1, S, x1, x2, x3, x4, x5 => by
    have ih := gX11_fits_7 X F n
    unfold fX11_fits_7
    refine r_iload X 5 rfl dX11_fits_7 ?_
    refine r_iload_n X 3 rfl dX11_fits_9 ?_
    refine r_icmp_gt (tgt := 84) X dX11_fits_10 (by decide) (fun _ => ?_) (fun _ => ?_)
    · refine r_iload X 4 rfl dX11_fits_84 ?_
      exact r_zretC X dX11_fits_86
    · refine r_iload X 4 rfl dX11_fits_13 ?_
      refine r_if_eq (tgt := 84) X dX11_fits_15 (by decide) (fun _ => ?_) (fun _ => ?_)
      · refine r_iload X 4 rfl dX11_fits_84 ?_
        exact r_zretC X dX11_fits_86
      · refine r_iload_n X 3 rfl dX11_fits_18 ?_
        refine r_ineg X dX11_fits_19 ?_
        refine r_bindI (fun v20 => ?_)
        refine r_istore (lv' := [(0, _), (1, _), (2, _), (3, _), (4, _), (5, _), (6, _)]) X (by decide) rfl dX11_fits_20 ?_
        exact gX11_fits_22 X F _ ih F _ _ _ _ _ _ _
def fX11_fits (F : Nat) (S : ST) (x1 : Int32) (x2 : Int32) (x3 : Int32) : Option (Int32 × ST) :=
  bindI ((-x3)) (fun v5 => fX11_fits_7 F F S x1 x2 x3 (1 : Int32) v5)
set_option maxRecDepth 4000 in
theorem gX11_fits {E : CT} (X : Cx E layM cX11_fits RX11 7 (some .boolean) 1) (F : Nat) (S : ST) (x1 : Int32) (x2 : Int32) (x3 : Int32) : G E (fX11_fits F S x1 x2 x3) S 0 [(0, .ref (eA E 0)), (1, .int x1), (2, .int x2), (3, .int x3)] [] := by
  unfold fX11_fits
  refine r_iconst (v := 1) X (by decide) dX11_fits_0 ?_
  refine r_istore (lv' := [(0, _), (1, _), (2, _), (3, _), (4, _)]) X (by decide) rfl dX11_fits_1 ?_
  refine r_iload_n X 3 rfl dX11_fits_3 ?_
  refine r_ineg X dX11_fits_4 ?_
  refine r_bindI (fun v5 => ?_)
  refine r_istore (lv' := [(0, _), (1, _), (2, _), (3, _), (4, _), (5, _)]) X (by decide) rfl dX11_fits_5 ?_
  exact gX11_fits_7 X F F _ _ _ _ _ _
theorem mX11_fits (F : Nat) (S : ST) (x1 : Int32) (x2 : Int32) (x3 : Int32) : MetS yX11_fits cX11_fits 7 (some .boolean) 1 layM (fX11_fits F S x1 x2 x3) S (fun ad => [.ref (ad 0), .int x1, .int x2, .int x3]) := mk_met (fun ad => [(0, .ref (ad 0)), (1, .int x1), (2, .int x2), (3, .int x3)]) (by decide) (fun _ => Nat.le_of_ble_eq_true rfl) (fun _ => rfl) (fun E X => gX11_fits X F S x1 x2 x3)
def fX11_seekCentre_21 (F : Nat) (k7 : ST → Int32 → Option (Int32 × ST)) (k15 : ST → Int32 → Int32 → Option (Int32 × ST)) : Nat → ST → Int32 → Int32 → Option (Int32 × ST)
  | 0, _, _, _ => none
  | n + 1, S, x1, x2 =>
  if (11 : Int32) ≤ (S.1 0 3) then
    (k15 S x1 (x2 + (1 : Int32)))
  else
    ((fX11_fits F S x1 x2 ((S.1 0 3) + (1 : Int32))).bind (fun q39 => if q39.1 = 0 then
      (k15 q39.2 x1 (x2 + (1 : Int32)))
    else
      (bindS (us q39.2 0 3 ((q39.2.1 0 3) + (1 : Int32))) (fun S52 => bindS (us S52 0 1 x1) (fun S57 => bindS (us S57 0 2 x2) (fun S62 => fX11_seekCentre_21 F k7 k15 n S62 x1 x2))))))
set_option maxRecDepth 4000 in
theorem gX11_seekCentre_21 {E : CT} (X : Cx E layM cX11_seekCentre RX11 3 none 2) (F : Nat) (k7 : ST → Int32 → Option (Int32 × ST)) (h7 : ∀ (S : ST) (x1 : Int32), G E (k7 S x1) S 7 [(0, .ref (eA E 0)), (1, .int x1)] []) (k15 : ST → Int32 → Int32 → Option (Int32 × ST)) (h15 : ∀ (S : ST) (x1 : Int32) (x2 : Int32), G E (k15 S x1 x2) S 15 [(0, .ref (eA E 0)), (1, .int x1), (2, .int x2)] []) : ∀ (n : Nat) (S : ST) (x1 : Int32) (x2 : Int32), G E (fX11_seekCentre_21 F k7 k15 n S x1 x2) S 21 [(0, .ref (eA E 0)), (1, .int x1), (2, .int x2)] []
  | 0, _, _, _ => r_none
  | n + 1, S, x1, x2 => by
    have ih := gX11_seekCentre_21 X F k7 h7 k15 h15 n
    unfold fX11_seekCentre_21
    refine r_aload_n X 0 rfl dX11_seekCentre_21 ?_
    refine r_getI X fk_X11_131 lm_0 rfl dX11_seekCentre_22 ?_
    refine r_bipush (v := 11) X (by decide) dX11_seekCentre_25 ?_
    refine r_icmp_ge (tgt := 68) X dX11_seekCentre_27 (by decide) (fun _ => ?_) (fun _ => ?_)
    · refine r_iinc (lv' := [(0, _), (1, _), (2, _)]) (dl := 1) X 2 rfl (by decide) (by decide) rfl dX11_seekCentre_68 ?_
      refine r_goto (tgt := 15) X dX11_seekCentre_71 (by decide) ?_
      exact h15 _ _ _
    · refine r_aload_n X 0 rfl dX11_seekCentre_30 ?_
      refine r_iload_n X 1 rfl dX11_seekCentre_31 ?_
      refine r_iload_n X 2 rfl dX11_seekCentre_32 ?_
      refine r_aload_n X 0 rfl dX11_seekCentre_33 ?_
      refine r_getI X fk_X11_131 lm_0 rfl dX11_seekCentre_34 ?_
      refine r_iconst (v := 1) X (by decide) dX11_seekCentre_37 ?_
      refine r_iadd X dX11_seekCentre_38 ?_
      refine r_callV X (mX11_fits _ _ _ _ _) mk_X11_fits lk_X11_134 lm_0 rfl rfl (by decide) (by decide) (Nat.le_of_ble_eq_true rfl) rfl dX11_seekCentre_39 (fun q39 _ => ?_)
      refine r_if_eq (tgt := 68) X dX11_seekCentre_42 (by decide) (fun _ => ?_) (fun _ => ?_)
      · refine r_iinc (lv' := [(0, _), (1, _), (2, _)]) (dl := 1) X 2 rfl (by decide) (by decide) rfl dX11_seekCentre_68 ?_
        refine r_goto (tgt := 15) X dX11_seekCentre_71 (by decide) ?_
        exact h15 _ _ _
      · refine r_aload_n X 0 rfl dX11_seekCentre_45 ?_
        refine r_dup X rfl dX11_seekCentre_46 ?_
        refine r_getI X fk_X11_131 lm_0 rfl dX11_seekCentre_47 ?_
        refine r_iconst (v := 1) X (by decide) dX11_seekCentre_50 ?_
        refine r_iadd X dX11_seekCentre_51 ?_
        refine r_putI X pk_X11_131 lm_0 rfl dX11_seekCentre_52 ?_
        refine r_bindS (fun S52 => ?_)
        refine r_aload_n X 0 rfl dX11_seekCentre_55 ?_
        refine r_iload_n X 1 rfl dX11_seekCentre_56 ?_
        refine r_putI X pk_X11_138 lm_0 rfl dX11_seekCentre_57 ?_
        refine r_bindS (fun S57 => ?_)
        refine r_aload_n X 0 rfl dX11_seekCentre_60 ?_
        refine r_iload_n X 2 rfl dX11_seekCentre_61 ?_
        refine r_putI X pk_X11_141 lm_0 rfl dX11_seekCentre_62 ?_
        refine r_bindS (fun S62 => ?_)
        refine r_goto (tgt := 21) X dX11_seekCentre_65 (by decide) ?_
        exact ih _ _ _
def fX11_seekCentre_15 (F : Nat) (k7 : ST → Int32 → Option (Int32 × ST)) : Nat → ST → Int32 → Int32 → Option (Int32 × ST)
  | 0, _, _, _ => none
  | n + 1, S, x1, x2 =>
  if (24 : Int32) ≤ x2 then
    (k7 S (x1 + (1 : Int32)))
  else
    (fX11_seekCentre_21 F k7 (fX11_seekCentre_15 F k7 n) F S x1 x2)
set_option maxRecDepth 4000 in
theorem gX11_seekCentre_15 {E : CT} (X : Cx E layM cX11_seekCentre RX11 3 none 2) (F : Nat) (k7 : ST → Int32 → Option (Int32 × ST)) (h7 : ∀ (S : ST) (x1 : Int32), G E (k7 S x1) S 7 [(0, .ref (eA E 0)), (1, .int x1)] []) : ∀ (n : Nat) (S : ST) (x1 : Int32) (x2 : Int32), G E (fX11_seekCentre_15 F k7 n S x1 x2) S 15 [(0, .ref (eA E 0)), (1, .int x1), (2, .int x2)] []
  | 0, _, _, _ => r_none
  | n + 1, S, x1, x2 => by
    have ih := gX11_seekCentre_15 X F k7 h7 n
    unfold fX11_seekCentre_15
    refine r_iload_n X 2 rfl dX11_seekCentre_15 ?_
    refine r_bipush (v := 24) X (by decide) dX11_seekCentre_16 ?_
    refine r_icmp_ge (tgt := 74) X dX11_seekCentre_18 (by decide) (fun _ => ?_) (fun _ => ?_)
    · refine r_iinc (lv' := [(0, _), (1, _), (2, _)]) (dl := 1) X 1 rfl (by decide) (by decide) rfl dX11_seekCentre_74 ?_
      refine r_goto (tgt := 7) X dX11_seekCentre_77 (by decide) ?_
      refine r_sub [0, 1] rfl ?_
      exact h7 _ _
    · exact gX11_seekCentre_21 X F _ h7 _ ih F _ _ _
def fX11_seekCentre_7 (F : Nat) : Nat → ST → Int32 → Option (Int32 × ST)
  | 0, _, _ => none
  | n + 1, S, x1 =>
  if (24 : Int32) ≤ x1 then
    (some ((0 : Int32), S))
  else
    (fX11_seekCentre_15 F (fX11_seekCentre_7 F n) F S x1 (0 : Int32))
set_option maxRecDepth 4000 in
theorem gX11_seekCentre_7 {E : CT} (X : Cx E layM cX11_seekCentre RX11 3 none 2) (F : Nat) : ∀ (n : Nat) (S : ST) (x1 : Int32), G E (fX11_seekCentre_7 F n S x1) S 7 [(0, .ref (eA E 0)), (1, .int x1)] []
  | 0, _, _ => r_none
  | n + 1, S, x1 => by
    have ih := gX11_seekCentre_7 X F n
    unfold fX11_seekCentre_7
    refine r_iload_n X 1 rfl dX11_seekCentre_7 ?_
    refine r_bipush (v := 24) X (by decide) dX11_seekCentre_8 ?_
    refine r_icmp_ge (tgt := 80) X dX11_seekCentre_10 (by decide) (fun _ => ?_) (fun _ => ?_)
    · exact r_vret X dX11_seekCentre_80
    · refine r_iconst (v := 0) X (by decide) dX11_seekCentre_13 ?_
      refine r_istore_n (lv' := [(0, _), (1, _), (2, _)]) X (by decide) rfl dX11_seekCentre_14 ?_
      exact gX11_seekCentre_15 X F _ ih F _ _ _
def fX11_seekCentre (F : Nat) (S : ST) : Option (Int32 × ST) :=
  bindS (us S 0 3 (-1 : Int32)) (fun S2 => fX11_seekCentre_7 F F S2 (0 : Int32))
set_option maxRecDepth 4000 in
theorem gX11_seekCentre {E : CT} (X : Cx E layM cX11_seekCentre RX11 3 none 2) (F : Nat) (S : ST) : G E (fX11_seekCentre F S) S 0 [(0, .ref (eA E 0))] [] := by
  unfold fX11_seekCentre
  refine r_aload_n X 0 rfl dX11_seekCentre_0 ?_
  refine r_iconst (v := -1) X (by decide) dX11_seekCentre_1 ?_
  refine r_putI X pk_X11_131 lm_0 rfl dX11_seekCentre_2 ?_
  refine r_bindS (fun S2 => ?_)
  refine r_iconst (v := 0) X (by decide) dX11_seekCentre_5 ?_
  refine r_istore_n (lv' := [(0, _), (1, _)]) X (by decide) rfl dX11_seekCentre_6 ?_
  exact gX11_seekCentre_7 X F F _ _
theorem mX11_seekCentre (F : Nat) (S : ST) : MetS yX11_seekCentre cX11_seekCentre 3 none 2 layM (fX11_seekCentre F S) S (fun ad => [.ref (ad 0)]) := mk_met (fun ad => [(0, .ref (ad 0))]) (by decide) (fun _ => Nat.le_of_ble_eq_true rfl) (fun _ => rfl) (fun E X => gX11_seekCentre X F S)
def fX11_centre (F : Nat) (S : ST) (x1 : Int32) : Option (Int32 × ST) :=
  (fX11_seekCentre F S).bind (fun q1 => if 0 ≤ (q1.2.1 0 3) then
    (if x1 = 0 then
      (some ((q1.2.1 0 1), q1.2))
    else
      (if x1 = (1 : Int32) then
        (some ((q1.2.1 0 2), q1.2))
      else
        (if x1 = (2 : Int32) then
          (some ((q1.2.1 0 3), q1.2))
        else
          (some ((-1 : Int32), q1.2)))))
  else
    (some ((-1 : Int32), q1.2)))
set_option maxRecDepth 4000 in
theorem gX11_centre {E : CT} (X : Cx E layM cX11_centre RX11 2 (some .int) 3) (F : Nat) (S : ST) (x1 : Int32) : G E (fX11_centre F S x1) S 0 [(0, .ref (eA E 0)), (1, .int x1)] [] := by
  unfold fX11_centre
  refine r_aload_n X 0 rfl dX11_centre_0 ?_
  refine r_callVv X (mX11_seekCentre _ _) mk_X11_seekCentre lk_X11_144 lm_0 rfl rfl (by decide) (by decide) (Nat.le_of_ble_eq_true rfl) rfl dX11_centre_1 (fun q1 _ => ?_)
  refine r_aload_n X 0 rfl dX11_centre_4 ?_
  refine r_getI X fk_X11_131 lm_0 rfl dX11_centre_5 ?_
  refine r_if_ge (tgt := 15) X dX11_centre_8 (by decide) (fun _ => ?_) (fun _ => ?_)
  · refine r_iload_n X 1 rfl dX11_centre_15 ?_
    refine r_if_ne (tgt := 26) X dX11_centre_16 (by decide) (fun _ => ?_) (fun _ => ?_)
    · refine r_iload_n X 1 rfl dX11_centre_26 ?_
      refine r_iconst (v := 1) X (by decide) dX11_centre_27 ?_
      refine r_icmp_ne (tgt := 38) X dX11_centre_28 (by decide) (fun _ => ?_) (fun _ => ?_)
      · refine r_iload_n X 1 rfl dX11_centre_38 ?_
        refine r_iconst (v := 2) X (by decide) dX11_centre_39 ?_
        refine r_icmp_ne (tgt := 50) X dX11_centre_40 (by decide) (fun _ => ?_) (fun _ => ?_)
        · refine r_iconst (v := -1) X (by decide) dX11_centre_50 ?_
          exact r_iret X dX11_centre_51
        · refine r_aload_n X 0 rfl dX11_centre_43 ?_
          refine r_getI X fk_X11_131 lm_0 rfl dX11_centre_44 ?_
          refine r_goto (tgt := 51) X dX11_centre_47 (by decide) ?_
          exact r_iret X dX11_centre_51
      · refine r_aload_n X 0 rfl dX11_centre_31 ?_
        refine r_getI X fk_X11_141 lm_0 rfl dX11_centre_32 ?_
        refine r_goto (tgt := 51) X dX11_centre_35 (by decide) ?_
        exact r_iret X dX11_centre_51
    · refine r_aload_n X 0 rfl dX11_centre_19 ?_
      refine r_getI X fk_X11_138 lm_0 rfl dX11_centre_20 ?_
      refine r_goto (tgt := 51) X dX11_centre_23 (by decide) ?_
      exact r_iret X dX11_centre_51
  · refine r_iconst (v := -1) X (by decide) dX11_centre_11 ?_
    refine r_goto (tgt := 51) X dX11_centre_12 (by decide) ?_
    exact r_iret X dX11_centre_51
theorem mX11_centre (F : Nat) (S : ST) (x1 : Int32) : MetS yX11_centre cX11_centre 2 (some .int) 3 layM (fX11_centre F S x1) S (fun ad => [.ref (ad 0), .int x1]) := mk_met (fun ad => [(0, .ref (ad 0)), (1, .int x1)]) (by decide) (fun _ => Nat.le_of_ble_eq_true rfl) (fun _ => rfl) (fun E X => gX11_centre X F S x1)
def fX11_holds_65 (F : Nat) (k9 : ST → Int32 → Int32 → Int32 → Option (Int32 × ST)) (S : ST) (x1 : Int32) (x2 : Int32) (x3 : Int32) (s0 : Int32) (s1 : Int32) : Option (Int32 × ST) :=
  (if vin s1 200 = true then bindS (us S 16 (ix s1) s0) (fun S65 => k9 S65 x1 (x2 + (1 : Int32)) (x3 + (1 : Int32))) else none)
set_option maxRecDepth 4000 in
theorem gX11_holds_65 {E : CT} (X : Cx E layM cX11_holds RX11 7 (some .boolean) 0) (F : Nat) (k9 : ST → Int32 → Int32 → Int32 → Option (Int32 × ST)) (h9 : ∀ (S : ST) (x1 : Int32) (x2 : Int32) (x3 : Int32), G E (k9 S x1 x2 x3) S 9 [(0, .ref (eA E 0)), (1, .int x1), (2, .int x2), (3, .int x3)] []) (S : ST) (x1 : Int32) (x2 : Int32) (x3 : Int32) (s0 : Int32) (s1 : Int32) : G E (fX11_holds_65 F k9 S x1 x2 x3 s0 s1) S 65 [(0, .ref (eA E 0)), (1, .int x1), (2, .int x2), (3, .int x3)] [.int s0, .int s1, .ref (eA E 16)] := by
  unfold fX11_holds_65
  refine r_iast X lm_16 dX11_holds_65 (fun _ => ?_)
  refine r_bindS (fun S65 => ?_)
  refine r_iinc (lv' := [(0, _), (1, _), (2, _), (3, _)]) (dl := 1) X 2 rfl (by decide) (by decide) rfl dX11_holds_66 ?_
  refine r_goto (tgt := 307) X dX11_holds_69 (by decide) ?_
  refine r_iinc (lv' := [(0, _), (1, _), (2, _), (3, _)]) (dl := 1) X 3 rfl (by decide) (by decide) rfl dX11_holds_307 ?_
  refine r_goto (tgt := 9) X dX11_holds_310 (by decide) ?_
  exact h9 _ _ _ _
def fX11_holds_180 (F : Nat) (k9 : ST → Int32 → Int32 → Int32 → Option (Int32 × ST)) (S : ST) (x1 : Int32) (x2 : Int32) (x3 : Int32) (s0 : Int32) (s1 : Int32) : Option (Int32 × ST) :=
  (if vin s1 200 = true then bindS (us S 16 (ix s1) s0) (fun S180 => k9 S180 x1 x2 (x3 + (1 : Int32))) else none)
set_option maxRecDepth 4000 in
theorem gX11_holds_180 {E : CT} (X : Cx E layM cX11_holds RX11 7 (some .boolean) 0) (F : Nat) (k9 : ST → Int32 → Int32 → Int32 → Option (Int32 × ST)) (h9 : ∀ (S : ST) (x1 : Int32) (x2 : Int32) (x3 : Int32), G E (k9 S x1 x2 x3) S 9 [(0, .ref (eA E 0)), (1, .int x1), (2, .int x2), (3, .int x3)] []) (S : ST) (x1 : Int32) (x2 : Int32) (x3 : Int32) (s0 : Int32) (s1 : Int32) : G E (fX11_holds_180 F k9 S x1 x2 x3 s0 s1) S 180 [(0, .ref (eA E 0)), (1, .int x1), (2, .int x2), (3, .int x3)] [.int s0, .int s1, .ref (eA E 16)] := by
  unfold fX11_holds_180
  refine r_iast X lm_16 dX11_holds_180 (fun _ => ?_)
  refine r_bindS (fun S180 => ?_)
  refine r_goto (tgt := 307) X dX11_holds_181 (by decide) ?_
  refine r_iinc (lv' := [(0, _), (1, _), (2, _), (3, _)]) (dl := 1) X 3 rfl (by decide) (by decide) rfl dX11_holds_307 ?_
  refine r_goto (tgt := 9) X dX11_holds_310 (by decide) ?_
  exact h9 _ _ _ _
def fX11_holds_205 (F : Nat) (k9 : ST → Int32 → Int32 → Int32 → Option (Int32 × ST)) (S : ST) (x1 : Int32) (x2 : Int32) (x3 : Int32) (s0 : Int32) (s1 : Int32) : Option (Int32 × ST) :=
  (if vin s1 200 = true then bindS (us S 16 (ix s1) s0) (fun S205 => k9 S205 x1 x2 (x3 + (1 : Int32))) else none)
set_option maxRecDepth 4000 in
theorem gX11_holds_205 {E : CT} (X : Cx E layM cX11_holds RX11 7 (some .boolean) 0) (F : Nat) (k9 : ST → Int32 → Int32 → Int32 → Option (Int32 × ST)) (h9 : ∀ (S : ST) (x1 : Int32) (x2 : Int32) (x3 : Int32), G E (k9 S x1 x2 x3) S 9 [(0, .ref (eA E 0)), (1, .int x1), (2, .int x2), (3, .int x3)] []) (S : ST) (x1 : Int32) (x2 : Int32) (x3 : Int32) (s0 : Int32) (s1 : Int32) : G E (fX11_holds_205 F k9 S x1 x2 x3 s0 s1) S 205 [(0, .ref (eA E 0)), (1, .int x1), (2, .int x2), (3, .int x3)] [.int s0, .int s1, .ref (eA E 16)] := by
  unfold fX11_holds_205
  refine r_iast X lm_16 dX11_holds_205 (fun _ => ?_)
  refine r_bindS (fun S205 => ?_)
  refine r_goto (tgt := 307) X dX11_holds_206 (by decide) ?_
  refine r_iinc (lv' := [(0, _), (1, _), (2, _), (3, _)]) (dl := 1) X 3 rfl (by decide) (by decide) rfl dX11_holds_307 ?_
  refine r_goto (tgt := 9) X dX11_holds_310 (by decide) ?_
  exact h9 _ _ _ _
def fX11_holds_228 (F : Nat) (k9 : ST → Int32 → Int32 → Int32 → Option (Int32 × ST)) (S : ST) (x1 : Int32) (x2 : Int32) (x3 : Int32) (s0 : Int32) (s1 : Int32) : Option (Int32 × ST) :=
  (if vin s1 200 = true then bindS (us S 16 (ix s1) s0) (fun S228 => k9 S228 x1 x2 (x3 + (1 : Int32))) else none)
set_option maxRecDepth 4000 in
theorem gX11_holds_228 {E : CT} (X : Cx E layM cX11_holds RX11 7 (some .boolean) 0) (F : Nat) (k9 : ST → Int32 → Int32 → Int32 → Option (Int32 × ST)) (h9 : ∀ (S : ST) (x1 : Int32) (x2 : Int32) (x3 : Int32), G E (k9 S x1 x2 x3) S 9 [(0, .ref (eA E 0)), (1, .int x1), (2, .int x2), (3, .int x3)] []) (S : ST) (x1 : Int32) (x2 : Int32) (x3 : Int32) (s0 : Int32) (s1 : Int32) : G E (fX11_holds_228 F k9 S x1 x2 x3 s0 s1) S 228 [(0, .ref (eA E 0)), (1, .int x1), (2, .int x2), (3, .int x3)] [.int s0, .int s1, .ref (eA E 16)] := by
  unfold fX11_holds_228
  refine r_iast X lm_16 dX11_holds_228 (fun _ => ?_)
  refine r_bindS (fun S228 => ?_)
  refine r_goto (tgt := 307) X dX11_holds_229 (by decide) ?_
  refine r_iinc (lv' := [(0, _), (1, _), (2, _), (3, _)]) (dl := 1) X 3 rfl (by decide) (by decide) rfl dX11_holds_307 ?_
  refine r_goto (tgt := 9) X dX11_holds_310 (by decide) ?_
  exact h9 _ _ _ _
def fX11_holds_251 (F : Nat) (k9 : ST → Int32 → Int32 → Int32 → Option (Int32 × ST)) (S : ST) (x1 : Int32) (x2 : Int32) (x3 : Int32) (s0 : Int32) (s1 : Int32) : Option (Int32 × ST) :=
  (if vin s1 200 = true then bindS (us S 16 (ix s1) s0) (fun S251 => k9 S251 x1 x2 (x3 + (1 : Int32))) else none)
set_option maxRecDepth 4000 in
theorem gX11_holds_251 {E : CT} (X : Cx E layM cX11_holds RX11 7 (some .boolean) 0) (F : Nat) (k9 : ST → Int32 → Int32 → Int32 → Option (Int32 × ST)) (h9 : ∀ (S : ST) (x1 : Int32) (x2 : Int32) (x3 : Int32), G E (k9 S x1 x2 x3) S 9 [(0, .ref (eA E 0)), (1, .int x1), (2, .int x2), (3, .int x3)] []) (S : ST) (x1 : Int32) (x2 : Int32) (x3 : Int32) (s0 : Int32) (s1 : Int32) : G E (fX11_holds_251 F k9 S x1 x2 x3 s0 s1) S 251 [(0, .ref (eA E 0)), (1, .int x1), (2, .int x2), (3, .int x3)] [.int s0, .int s1, .ref (eA E 16)] := by
  unfold fX11_holds_251
  refine r_iast X lm_16 dX11_holds_251 (fun _ => ?_)
  refine r_bindS (fun S251 => ?_)
  refine r_goto (tgt := 307) X dX11_holds_252 (by decide) ?_
  refine r_iinc (lv' := [(0, _), (1, _), (2, _), (3, _)]) (dl := 1) X 3 rfl (by decide) (by decide) rfl dX11_holds_307 ?_
  refine r_goto (tgt := 9) X dX11_holds_310 (by decide) ?_
  exact h9 _ _ _ _
def fX11_holds_274 (F : Nat) (k9 : ST → Int32 → Int32 → Int32 → Option (Int32 × ST)) (S : ST) (x1 : Int32) (x2 : Int32) (x3 : Int32) (s0 : Int32) (s1 : Int32) : Option (Int32 × ST) :=
  (if vin s1 200 = true then bindS (us S 16 (ix s1) s0) (fun S274 => k9 S274 x1 x2 (x3 + (1 : Int32))) else none)
set_option maxRecDepth 4000 in
theorem gX11_holds_274 {E : CT} (X : Cx E layM cX11_holds RX11 7 (some .boolean) 0) (F : Nat) (k9 : ST → Int32 → Int32 → Int32 → Option (Int32 × ST)) (h9 : ∀ (S : ST) (x1 : Int32) (x2 : Int32) (x3 : Int32), G E (k9 S x1 x2 x3) S 9 [(0, .ref (eA E 0)), (1, .int x1), (2, .int x2), (3, .int x3)] []) (S : ST) (x1 : Int32) (x2 : Int32) (x3 : Int32) (s0 : Int32) (s1 : Int32) : G E (fX11_holds_274 F k9 S x1 x2 x3 s0 s1) S 274 [(0, .ref (eA E 0)), (1, .int x1), (2, .int x2), (3, .int x3)] [.int s0, .int s1, .ref (eA E 16)] := by
  unfold fX11_holds_274
  refine r_iast X lm_16 dX11_holds_274 (fun _ => ?_)
  refine r_bindS (fun S274 => ?_)
  refine r_goto (tgt := 307) X dX11_holds_275 (by decide) ?_
  refine r_iinc (lv' := [(0, _), (1, _), (2, _), (3, _)]) (dl := 1) X 3 rfl (by decide) (by decide) rfl dX11_holds_307 ?_
  refine r_goto (tgt := 9) X dX11_holds_310 (by decide) ?_
  exact h9 _ _ _ _
def fX11_holds_9 (F : Nat) : Nat → ST → Int32 → Int32 → Int32 → Option (Int32 × ST)
  | 0, _, _, _, _ => none
  | n + 1, S, x1, x2, x3 =>
  (if vin (x1 + (1 : Int32)) 9 = true then if (S.1 7 (ix (x1 + (1 : Int32)))) ≤ x3 then
    (if x2 = 0 then
      (some ((1 : Int32), S))
    else
      ((if vin (0 : Int32) 200 = true then if (S.1 16 (ix (0 : Int32))) = (1 : Int32) then
        (some ((1 : Int32), S))
      else
        (some ((0 : Int32), S)) else none)))
  else
    ((if vin x3 600 = true then bindI ((S.1 5 (ix x3))) (fun v27 => if (20 : Int32) ≤ v27 then
      (if v27 = (20 : Int32) then
        ((if vin (x2 - (1 : Int32)) 200 = true then (if vin (x2 - (1 : Int32)) 200 = true then bindS (us S 16 (ix (x2 - (1 : Int32))) ((1 : Int32) - (S.1 16 (ix (x2 - (1 : Int32)))))) (fun S96 => fX11_holds_9 F n S96 x1 x2 (x3 + (1 : Int32))) else none) else none))
      else
        ((if vin ((x2 + (-1 : Int32)) - (1 : Int32)) 200 = true then bindI ((S.1 16 (ix ((x2 + (-1 : Int32)) - (1 : Int32))))) (fun v111 => (if vin (x2 + (-1 : Int32)) 200 = true then bindI ((S.1 16 (ix (x2 + (-1 : Int32))))) (fun v119 => (if v27 = (21 : Int32) then
          (if (v111 + v119) ≤ 0 then
            (fX11_holds_180 F (fX11_holds_9 F n) S x1 (x2 + (-1 : Int32)) x3 (0 : Int32) ((x2 + (-1 : Int32)) - (1 : Int32)))
          else
            (fX11_holds_180 F (fX11_holds_9 F n) S x1 (x2 + (-1 : Int32)) x3 (1 : Int32) ((x2 + (-1 : Int32)) - (1 : Int32))))
        else (if v27 = (22 : Int32) then
          (if (v111 + v119) ≤ (1 : Int32) then
            (fX11_holds_205 F (fX11_holds_9 F n) S x1 (x2 + (-1 : Int32)) x3 (0 : Int32) ((x2 + (-1 : Int32)) - (1 : Int32)))
          else
            (fX11_holds_205 F (fX11_holds_9 F n) S x1 (x2 + (-1 : Int32)) x3 (1 : Int32) ((x2 + (-1 : Int32)) - (1 : Int32))))
        else (if v27 = (23 : Int32) then
          (if v111 = v119 then
            (fX11_holds_228 F (fX11_holds_9 F n) S x1 (x2 + (-1 : Int32)) x3 (1 : Int32) ((x2 + (-1 : Int32)) - (1 : Int32)))
          else
            (fX11_holds_228 F (fX11_holds_9 F n) S x1 (x2 + (-1 : Int32)) x3 (0 : Int32) ((x2 + (-1 : Int32)) - (1 : Int32))))
        else (if v27 = (24 : Int32) then
          (if v119 ≤ v111 then
            (fX11_holds_251 F (fX11_holds_9 F n) S x1 (x2 + (-1 : Int32)) x3 (0 : Int32) ((x2 + (-1 : Int32)) - (1 : Int32)))
          else
            (fX11_holds_251 F (fX11_holds_9 F n) S x1 (x2 + (-1 : Int32)) x3 (1 : Int32) ((x2 + (-1 : Int32)) - (1 : Int32))))
        else (if v27 = (25 : Int32) then
          (if v111 ≤ v119 then
            (fX11_holds_274 F (fX11_holds_9 F n) S x1 (x2 + (-1 : Int32)) x3 (0 : Int32) ((x2 + (-1 : Int32)) - (1 : Int32)))
          else
            (fX11_holds_274 F (fX11_holds_9 F n) S x1 (x2 + (-1 : Int32)) x3 (1 : Int32) ((x2 + (-1 : Int32)) - (1 : Int32))))
        else (if v27 = (26 : Int32) then
          ((if vin ((x2 + (-1 : Int32)) - (1 : Int32)) 200 = true then bindS (us S 16 (ix ((x2 + (-1 : Int32)) - (1 : Int32))) (v111 + v119)) (fun S290 => fX11_holds_9 F n S290 x1 (x2 + (-1 : Int32)) (x3 + (1 : Int32))) else none))
        else ((if vin ((x2 + (-1 : Int32)) - (1 : Int32)) 200 = true then bindS (us S 16 (ix ((x2 + (-1 : Int32)) - (1 : Int32))) (v111 - v119)) (fun S306 => fX11_holds_9 F n S306 x1 (x2 + (-1 : Int32)) (x3 + (1 : Int32))) else none))))))))) else none)) else none)))
    else
      (if v27 = 0 then
        ((if vin x3 600 = true then fX11_holds_65 F (fX11_holds_9 F n) S x1 x2 x3 (S.1 6 (ix x3)) x2 else none))
      else
        ((if vin (v27 - (10 : Int32)) 5 = true then fX11_holds_65 F (fX11_holds_9 F n) S x1 x2 x3 (S.1 15 (ix (v27 - (10 : Int32)))) x2 else none)))) else none)) else none)
set_option maxRecDepth 4000 in
theorem gX11_holds_9 {E : CT} (X : Cx E layM cX11_holds RX11 7 (some .boolean) 0) (F : Nat) : ∀ (n : Nat) (S : ST) (x1 : Int32) (x2 : Int32) (x3 : Int32), G E (fX11_holds_9 F n S x1 x2 x3) S 9 [(0, .ref (eA E 0)), (1, .int x1), (2, .int x2), (3, .int x3)] []
  | 0, _, _, _, _ => r_none
  | n + 1, S, x1, x2, x3 => by
    have ih := gX11_holds_9 X F n
    unfold fX11_holds_9
    refine r_iload_n X 3 rfl dX11_holds_9 ?_
    refine r_aload_n X 0 rfl dX11_holds_10 ?_
    refine r_getR X fk_X11_32 lm_0 rfl dX11_holds_11 ?_
    refine r_iload_n X 1 rfl dX11_holds_14 ?_
    refine r_iconst (v := 1) X (by decide) dX11_holds_15 ?_
    refine r_iadd X dX11_holds_16 ?_
    refine r_iald X lm_7 dX11_holds_17 (fun _ => ?_)
    refine r_icmp_ge (tgt := 313) X dX11_holds_18 (by decide) (fun _ => ?_) (fun _ => ?_)
    · refine r_iload_n X 2 rfl dX11_holds_313 ?_
      refine r_if_eq (tgt := 327) X dX11_holds_314 (by decide) (fun _ => ?_) (fun _ => ?_)
      · refine r_iconst (v := 1) X (by decide) dX11_holds_327 ?_
        refine r_goto (tgt := 332) X dX11_holds_328 (by decide) ?_
        exact r_zret X (by decide) dX11_holds_332
      · refine r_aload_n X 0 rfl dX11_holds_317 ?_
        refine r_getR X fk_X11_62 lm_0 rfl dX11_holds_318 ?_
        refine r_iconst (v := 0) X (by decide) dX11_holds_321 ?_
        refine r_iald X lm_16 dX11_holds_322 (fun _ => ?_)
        refine r_iconst (v := 1) X (by decide) dX11_holds_323 ?_
        refine r_icmp_ne (tgt := 331) X dX11_holds_324 (by decide) (fun _ => ?_) (fun _ => ?_)
        · refine r_iconst (v := 0) X (by decide) dX11_holds_331 ?_
          exact r_zret X (by decide) dX11_holds_332
        · refine r_iconst (v := 1) X (by decide) dX11_holds_327 ?_
          refine r_goto (tgt := 332) X dX11_holds_328 (by decide) ?_
          exact r_zret X (by decide) dX11_holds_332
    · refine r_aload_n X 0 rfl dX11_holds_21 ?_
      refine r_getR X fk_X11_26 lm_0 rfl dX11_holds_22 ?_
      refine r_iload_n X 3 rfl dX11_holds_25 ?_
      refine r_iald X lm_5 dX11_holds_26 (fun _ => ?_)
      refine r_bindI (fun v27 => ?_)
      refine r_istore (lv' := [(0, _), (1, _), (2, _), (3, _), (4, _)]) X (by decide) rfl dX11_holds_27 ?_
      refine r_iload X 4 rfl dX11_holds_29 ?_
      refine r_bipush (v := 20) X (by decide) dX11_holds_31 ?_
      refine r_icmp_ge (tgt := 72) X dX11_holds_33 (by decide) (fun _ => ?_) (fun _ => ?_)
      · refine r_iload X 4 rfl dX11_holds_72 ?_
        refine r_bipush (v := 20) X (by decide) dX11_holds_74 ?_
        refine r_icmp_ne (tgt := 100) X dX11_holds_76 (by decide) (fun _ => ?_) (fun _ => ?_)
        · refine r_iinc (lv' := [(0, _), (1, _), (2, _), (3, _), (4, _)]) (dl := -1) X 2 rfl (by decide) (by decide) rfl dX11_holds_100 ?_
          refine r_aload_n X 0 rfl dX11_holds_103 ?_
          refine r_getR X fk_X11_62 lm_0 rfl dX11_holds_104 ?_
          refine r_iload_n X 2 rfl dX11_holds_107 ?_
          refine r_iconst (v := 1) X (by decide) dX11_holds_108 ?_
          refine r_isub X dX11_holds_109 ?_
          refine r_iald X lm_16 dX11_holds_110 (fun _ => ?_)
          refine r_bindI (fun v111 => ?_)
          refine r_istore (lv' := [(0, _), (1, _), (2, _), (3, _), (4, _), (5, _)]) X (by decide) rfl dX11_holds_111 ?_
          refine r_aload_n X 0 rfl dX11_holds_113 ?_
          refine r_getR X fk_X11_62 lm_0 rfl dX11_holds_114 ?_
          refine r_iload_n X 2 rfl dX11_holds_117 ?_
          refine r_iald X lm_16 dX11_holds_118 (fun _ => ?_)
          refine r_bindI (fun v119 => ?_)
          refine r_istore (lv' := [(0, _), (1, _), (2, _), (3, _), (4, _), (5, _), (6, _)]) X (by decide) rfl dX11_holds_119 ?_
          refine r_iload X 4 rfl dX11_holds_121 ?_
          refine r_ite (fun hh0 => ?_) (fun hh0 => ?_)
          · refine r_tsIn (tgt := 160) X (21) hh0 dX11_holds_123 (by decide) (by decide) rfl (by decide) ?_
            refine r_aload_n X 0 rfl dX11_holds_160 ?_
            refine r_getR X fk_X11_62 lm_0 rfl dX11_holds_161 ?_
            refine r_iload_n X 2 rfl dX11_holds_164 ?_
            refine r_iconst (v := 1) X (by decide) dX11_holds_165 ?_
            refine r_isub X dX11_holds_166 ?_
            refine r_iload X 5 rfl dX11_holds_167 ?_
            refine r_iload X 6 rfl dX11_holds_169 ?_
            refine r_iadd X dX11_holds_171 ?_
            refine r_if_le (tgt := 179) X dX11_holds_172 (by decide) (fun _ => ?_) (fun _ => ?_)
            · refine r_iconst (v := 0) X (by decide) dX11_holds_179 ?_
              refine r_sub [0, 1, 2, 3] rfl ?_
              exact gX11_holds_180 X F _ ih _ _ _ _ _ _
            · refine r_iconst (v := 1) X (by decide) dX11_holds_175 ?_
              refine r_goto (tgt := 180) X dX11_holds_176 (by decide) ?_
              refine r_sub [0, 1, 2, 3] rfl ?_
              exact gX11_holds_180 X F _ ih _ _ _ _ _ _
          refine r_ite (fun hh1 => ?_) (fun hh1 => ?_)
          · refine r_tsIn (tgt := 184) X (22) hh1 dX11_holds_123 (by decide) (by decide) rfl (by decide) ?_
            refine r_aload_n X 0 rfl dX11_holds_184 ?_
            refine r_getR X fk_X11_62 lm_0 rfl dX11_holds_185 ?_
            refine r_iload_n X 2 rfl dX11_holds_188 ?_
            refine r_iconst (v := 1) X (by decide) dX11_holds_189 ?_
            refine r_isub X dX11_holds_190 ?_
            refine r_iload X 5 rfl dX11_holds_191 ?_
            refine r_iload X 6 rfl dX11_holds_193 ?_
            refine r_iadd X dX11_holds_195 ?_
            refine r_iconst (v := 1) X (by decide) dX11_holds_196 ?_
            refine r_icmp_le (tgt := 204) X dX11_holds_197 (by decide) (fun _ => ?_) (fun _ => ?_)
            · refine r_iconst (v := 0) X (by decide) dX11_holds_204 ?_
              refine r_sub [0, 1, 2, 3] rfl ?_
              exact gX11_holds_205 X F _ ih _ _ _ _ _ _
            · refine r_iconst (v := 1) X (by decide) dX11_holds_200 ?_
              refine r_goto (tgt := 205) X dX11_holds_201 (by decide) ?_
              refine r_sub [0, 1, 2, 3] rfl ?_
              exact gX11_holds_205 X F _ ih _ _ _ _ _ _
          refine r_ite (fun hh2 => ?_) (fun hh2 => ?_)
          · refine r_tsIn (tgt := 209) X (23) hh2 dX11_holds_123 (by decide) (by decide) rfl (by decide) ?_
            refine r_aload_n X 0 rfl dX11_holds_209 ?_
            refine r_getR X fk_X11_62 lm_0 rfl dX11_holds_210 ?_
            refine r_iload_n X 2 rfl dX11_holds_213 ?_
            refine r_iconst (v := 1) X (by decide) dX11_holds_214 ?_
            refine r_isub X dX11_holds_215 ?_
            refine r_iload X 5 rfl dX11_holds_216 ?_
            refine r_iload X 6 rfl dX11_holds_218 ?_
            refine r_icmp_ne (tgt := 227) X dX11_holds_220 (by decide) (fun _ => ?_) (fun _ => ?_)
            · refine r_iconst (v := 0) X (by decide) dX11_holds_227 ?_
              refine r_sub [0, 1, 2, 3] rfl ?_
              exact gX11_holds_228 X F _ ih _ _ _ _ _ _
            · refine r_iconst (v := 1) X (by decide) dX11_holds_223 ?_
              refine r_goto (tgt := 228) X dX11_holds_224 (by decide) ?_
              refine r_sub [0, 1, 2, 3] rfl ?_
              exact gX11_holds_228 X F _ ih _ _ _ _ _ _
          refine r_ite (fun hh3 => ?_) (fun hh3 => ?_)
          · refine r_tsIn (tgt := 232) X (24) hh3 dX11_holds_123 (by decide) (by decide) rfl (by decide) ?_
            refine r_aload_n X 0 rfl dX11_holds_232 ?_
            refine r_getR X fk_X11_62 lm_0 rfl dX11_holds_233 ?_
            refine r_iload_n X 2 rfl dX11_holds_236 ?_
            refine r_iconst (v := 1) X (by decide) dX11_holds_237 ?_
            refine r_isub X dX11_holds_238 ?_
            refine r_iload X 5 rfl dX11_holds_239 ?_
            refine r_iload X 6 rfl dX11_holds_241 ?_
            refine r_icmp_ge (tgt := 250) X dX11_holds_243 (by decide) (fun _ => ?_) (fun _ => ?_)
            · refine r_iconst (v := 0) X (by decide) dX11_holds_250 ?_
              refine r_sub [0, 1, 2, 3] rfl ?_
              exact gX11_holds_251 X F _ ih _ _ _ _ _ _
            · refine r_iconst (v := 1) X (by decide) dX11_holds_246 ?_
              refine r_goto (tgt := 251) X dX11_holds_247 (by decide) ?_
              refine r_sub [0, 1, 2, 3] rfl ?_
              exact gX11_holds_251 X F _ ih _ _ _ _ _ _
          refine r_ite (fun hh4 => ?_) (fun hh4 => ?_)
          · refine r_tsIn (tgt := 255) X (25) hh4 dX11_holds_123 (by decide) (by decide) rfl (by decide) ?_
            refine r_aload_n X 0 rfl dX11_holds_255 ?_
            refine r_getR X fk_X11_62 lm_0 rfl dX11_holds_256 ?_
            refine r_iload_n X 2 rfl dX11_holds_259 ?_
            refine r_iconst (v := 1) X (by decide) dX11_holds_260 ?_
            refine r_isub X dX11_holds_261 ?_
            refine r_iload X 5 rfl dX11_holds_262 ?_
            refine r_iload X 6 rfl dX11_holds_264 ?_
            refine r_icmp_le (tgt := 273) X dX11_holds_266 (by decide) (fun _ => ?_) (fun _ => ?_)
            · refine r_iconst (v := 0) X (by decide) dX11_holds_273 ?_
              refine r_sub [0, 1, 2, 3] rfl ?_
              exact gX11_holds_274 X F _ ih _ _ _ _ _ _
            · refine r_iconst (v := 1) X (by decide) dX11_holds_269 ?_
              refine r_goto (tgt := 274) X dX11_holds_270 (by decide) ?_
              refine r_sub [0, 1, 2, 3] rfl ?_
              exact gX11_holds_274 X F _ ih _ _ _ _ _ _
          refine r_ite (fun hh5 => ?_) (fun hh5 => ?_)
          · refine r_tsIn (tgt := 278) X (26) hh5 dX11_holds_123 (by decide) (by decide) rfl (by decide) ?_
            refine r_aload_n X 0 rfl dX11_holds_278 ?_
            refine r_getR X fk_X11_62 lm_0 rfl dX11_holds_279 ?_
            refine r_iload_n X 2 rfl dX11_holds_282 ?_
            refine r_iconst (v := 1) X (by decide) dX11_holds_283 ?_
            refine r_isub X dX11_holds_284 ?_
            refine r_iload X 5 rfl dX11_holds_285 ?_
            refine r_iload X 6 rfl dX11_holds_287 ?_
            refine r_iadd X dX11_holds_289 ?_
            refine r_iast X lm_16 dX11_holds_290 (fun _ => ?_)
            refine r_bindS (fun S290 => ?_)
            refine r_goto (tgt := 307) X dX11_holds_291 (by decide) ?_
            refine r_iinc (lv' := [(0, _), (1, _), (2, _), (3, _), (4, _), (5, _), (6, _)]) (dl := 1) X 3 rfl (by decide) (by decide) rfl dX11_holds_307 ?_
            refine r_goto (tgt := 9) X dX11_holds_310 (by decide) ?_
            refine r_sub [0, 1, 2, 3] rfl ?_
            exact ih _ _ _ _
          refine r_tsOut (tgt := 294) X (by have a0 := lv_neT hh0 (k := 21) (a := 21) rfl; have a1 := lv_neT hh1 (k := 22) (a := 22) rfl; have a2 := lv_neT hh2 (k := 23) (a := 23) rfl; have a3 := lv_neT hh3 (k := 24) (a := 24) rfl; have a4 := lv_neT hh4 (k := 25) (a := 25) rfl; have a5 := lv_neT hh5 (k := 26) (a := 26) rfl; omega) dX11_holds_123 (by decide) ?_
          refine r_aload_n X 0 rfl dX11_holds_294 ?_
          refine r_getR X fk_X11_62 lm_0 rfl dX11_holds_295 ?_
          refine r_iload_n X 2 rfl dX11_holds_298 ?_
          refine r_iconst (v := 1) X (by decide) dX11_holds_299 ?_
          refine r_isub X dX11_holds_300 ?_
          refine r_iload X 5 rfl dX11_holds_301 ?_
          refine r_iload X 6 rfl dX11_holds_303 ?_
          refine r_isub X dX11_holds_305 ?_
          refine r_iast X lm_16 dX11_holds_306 (fun _ => ?_)
          refine r_bindS (fun S306 => ?_)
          refine r_iinc (lv' := [(0, _), (1, _), (2, _), (3, _), (4, _), (5, _), (6, _)]) (dl := 1) X 3 rfl (by decide) (by decide) rfl dX11_holds_307 ?_
          refine r_goto (tgt := 9) X dX11_holds_310 (by decide) ?_
          refine r_sub [0, 1, 2, 3] rfl ?_
          exact ih _ _ _ _
        · refine r_aload_n X 0 rfl dX11_holds_79 ?_
          refine r_getR X fk_X11_62 lm_0 rfl dX11_holds_80 ?_
          refine r_iload_n X 2 rfl dX11_holds_83 ?_
          refine r_iconst (v := 1) X (by decide) dX11_holds_84 ?_
          refine r_isub X dX11_holds_85 ?_
          refine r_iconst (v := 1) X (by decide) dX11_holds_86 ?_
          refine r_aload_n X 0 rfl dX11_holds_87 ?_
          refine r_getR X fk_X11_62 lm_0 rfl dX11_holds_88 ?_
          refine r_iload_n X 2 rfl dX11_holds_91 ?_
          refine r_iconst (v := 1) X (by decide) dX11_holds_92 ?_
          refine r_isub X dX11_holds_93 ?_
          refine r_iald X lm_16 dX11_holds_94 (fun _ => ?_)
          refine r_isub X dX11_holds_95 ?_
          refine r_iast X lm_16 dX11_holds_96 (fun _ => ?_)
          refine r_bindS (fun S96 => ?_)
          refine r_goto (tgt := 307) X dX11_holds_97 (by decide) ?_
          refine r_iinc (lv' := [(0, _), (1, _), (2, _), (3, _), (4, _)]) (dl := 1) X 3 rfl (by decide) (by decide) rfl dX11_holds_307 ?_
          refine r_goto (tgt := 9) X dX11_holds_310 (by decide) ?_
          refine r_sub [0, 1, 2, 3] rfl ?_
          exact ih _ _ _ _
      · refine r_aload_n X 0 rfl dX11_holds_36 ?_
        refine r_getR X fk_X11_62 lm_0 rfl dX11_holds_37 ?_
        refine r_iload_n X 2 rfl dX11_holds_40 ?_
        refine r_iload X 4 rfl dX11_holds_41 ?_
        refine r_if_ne (tgt := 55) X dX11_holds_43 (by decide) (fun _ => ?_) (fun _ => ?_)
        · refine r_aload_n X 0 rfl dX11_holds_55 ?_
          refine r_getR X fk_X11_59 lm_0 rfl dX11_holds_56 ?_
          refine r_iload X 4 rfl dX11_holds_59 ?_
          refine r_bipush (v := 10) X (by decide) dX11_holds_61 ?_
          refine r_isub X dX11_holds_63 ?_
          refine r_iald X lm_15 dX11_holds_64 (fun _ => ?_)
          refine r_sub [0, 1, 2, 3] rfl ?_
          exact gX11_holds_65 X F _ ih _ _ _ _ _ _
        · refine r_aload_n X 0 rfl dX11_holds_46 ?_
          refine r_getR X fk_X11_29 lm_0 rfl dX11_holds_47 ?_
          refine r_iload_n X 3 rfl dX11_holds_50 ?_
          refine r_iald X lm_6 dX11_holds_51 (fun _ => ?_)
          refine r_goto (tgt := 65) X dX11_holds_52 (by decide) ?_
          refine r_sub [0, 1, 2, 3] rfl ?_
          exact gX11_holds_65 X F _ ih _ _ _ _ _ _
def fX11_holds (F : Nat) (S : ST) (x1 : Int32) : Option (Int32 × ST) :=
  (if vin x1 9 = true then bindI ((S.1 7 (ix x1))) (fun v8 => fX11_holds_9 F F S x1 (0 : Int32) v8) else none)
set_option maxRecDepth 4000 in
theorem gX11_holds {E : CT} (X : Cx E layM cX11_holds RX11 7 (some .boolean) 0) (F : Nat) (S : ST) (x1 : Int32) : G E (fX11_holds F S x1) S 0 [(0, .ref (eA E 0)), (1, .int x1)] [] := by
  unfold fX11_holds
  refine r_iconst (v := 0) X (by decide) dX11_holds_0 ?_
  refine r_istore_n (lv' := [(0, _), (1, _), (2, _)]) X (by decide) rfl dX11_holds_1 ?_
  refine r_aload_n X 0 rfl dX11_holds_2 ?_
  refine r_getR X fk_X11_32 lm_0 rfl dX11_holds_3 ?_
  refine r_iload_n X 1 rfl dX11_holds_6 ?_
  refine r_iald X lm_7 dX11_holds_7 (fun _ => ?_)
  refine r_bindI (fun v8 => ?_)
  refine r_istore_n (lv' := [(0, _), (1, _), (2, _), (3, _)]) X (by decide) rfl dX11_holds_8 ?_
  exact gX11_holds_9 X F F _ _ _ _
theorem mX11_holds (F : Nat) (S : ST) (x1 : Int32) : MetS yX11_holds cX11_holds 7 (some .boolean) 0 layM (fX11_holds F S x1) S (fun ad => [.ref (ad 0), .int x1]) := mk_met (fun ad => [(0, .ref (ad 0)), (1, .int x1)]) (by decide) (fun _ => Nat.le_of_ble_eq_true rfl) (fun _ => rfl) (fun E X => gX11_holds X F S x1)
def fX11_isSheet_117 (F : Nat) (k29 : ST → Int32 → Int32 → Int32 → Int32 → Int32 → Option (Int32 × ST)) (S : ST) (x1 : Int32) (x2 : Int32) (x3 : Int32) (x4 : Int32) (x5 : Int32) (s0 : Int32) (s1 : Int32) : Option (Int32 × ST) :=
  (if vin s1 5 = true then bindS (us S 15 (ix s1) s0) (fun S117 => k29 S117 x1 x2 x3 x4 (x5 + (1 : Int32))) else none)
set_option maxRecDepth 4000 in
theorem gX11_isSheet_117 {E : CT} (X : Cx E layM cX11_isSheet RX11 6 (some .boolean) 1) (F : Nat) (k29 : ST → Int32 → Int32 → Int32 → Int32 → Int32 → Option (Int32 × ST)) (h29 : ∀ (S : ST) (x1 : Int32) (x2 : Int32) (x3 : Int32) (x4 : Int32) (x5 : Int32), G E (k29 S x1 x2 x3 x4 x5) S 29 [(0, .ref (eA E 0)), (1, .int x1), (2, .int x2), (3, .int x3), (4, .int x4), (5, .int x5)] []) (S : ST) (x1 : Int32) (x2 : Int32) (x3 : Int32) (x4 : Int32) (x5 : Int32) (s0 : Int32) (s1 : Int32) : G E (fX11_isSheet_117 F k29 S x1 x2 x3 x4 x5 s0 s1) S 117 [(0, .ref (eA E 0)), (1, .int x1), (2, .int x2), (3, .int x3), (4, .int x4), (5, .int x5)] [.int s0, .int s1, .ref (eA E 15)] := by
  unfold fX11_isSheet_117
  refine r_iast X lm_15 dX11_isSheet_117 (fun _ => ?_)
  refine r_bindS (fun S117 => ?_)
  refine r_iinc (lv' := [(0, _), (1, _), (2, _), (3, _), (4, _), (5, _)]) (dl := 1) X 5 rfl (by decide) (by decide) rfl dX11_isSheet_118 ?_
  refine r_goto (tgt := 29) X dX11_isSheet_121 (by decide) ?_
  exact h29 _ _ _ _ _ _
def fX11_isSheet_90 (F : Nat) (k29 : ST → Int32 → Int32 → Int32 → Int32 → Int32 → Option (Int32 × ST)) (S : ST) (x1 : Int32) (x2 : Int32) (x3 : Int32) (x4 : Int32) (x5 : Int32) : Option (Int32 × ST) :=
  (if vin (4 : Int32) 5 = true then if x4 ≤ (S.1 15 (ix (4 : Int32))) then
    ((if vin (4 : Int32) 5 = true then fX11_isSheet_117 F k29 S x1 x2 x3 x4 x5 (S.1 15 (ix (4 : Int32))) (4 : Int32) else none))
  else
    (fX11_isSheet_117 F k29 S x1 x2 x3 x4 x5 x4 (4 : Int32)) else none)
set_option maxRecDepth 4000 in
theorem gX11_isSheet_90 {E : CT} (X : Cx E layM cX11_isSheet RX11 6 (some .boolean) 1) (F : Nat) (k29 : ST → Int32 → Int32 → Int32 → Int32 → Int32 → Option (Int32 × ST)) (h29 : ∀ (S : ST) (x1 : Int32) (x2 : Int32) (x3 : Int32) (x4 : Int32) (x5 : Int32), G E (k29 S x1 x2 x3 x4 x5) S 29 [(0, .ref (eA E 0)), (1, .int x1), (2, .int x2), (3, .int x3), (4, .int x4), (5, .int x5)] []) (S : ST) (x1 : Int32) (x2 : Int32) (x3 : Int32) (x4 : Int32) (x5 : Int32) : G E (fX11_isSheet_90 F k29 S x1 x2 x3 x4 x5) S 90 [(0, .ref (eA E 0)), (1, .int x1), (2, .int x2), (3, .int x3), (4, .int x4), (5, .int x5)] [] := by
  unfold fX11_isSheet_90
  refine r_aload_n X 0 rfl dX11_isSheet_90 ?_
  refine r_getR X fk_X11_59 lm_0 rfl dX11_isSheet_91 ?_
  refine r_iconst (v := 4) X (by decide) dX11_isSheet_94 ?_
  refine r_iload X 4 rfl dX11_isSheet_95 ?_
  refine r_aload_n X 0 rfl dX11_isSheet_97 ?_
  refine r_getR X fk_X11_59 lm_0 rfl dX11_isSheet_98 ?_
  refine r_iconst (v := 4) X (by decide) dX11_isSheet_101 ?_
  refine r_iald X lm_15 dX11_isSheet_102 (fun _ => ?_)
  refine r_icmp_le (tgt := 111) X dX11_isSheet_103 (by decide) (fun _ => ?_) (fun _ => ?_)
  · refine r_aload_n X 0 rfl dX11_isSheet_111 ?_
    refine r_getR X fk_X11_59 lm_0 rfl dX11_isSheet_112 ?_
    refine r_iconst (v := 4) X (by decide) dX11_isSheet_115 ?_
    refine r_iald X lm_15 dX11_isSheet_116 (fun _ => ?_)
    exact gX11_isSheet_117 X F _ h29 _ _ _ _ _ _ _ _
  · refine r_iload X 4 rfl dX11_isSheet_106 ?_
    refine r_goto (tgt := 117) X dX11_isSheet_108 (by decide) ?_
    exact gX11_isSheet_117 X F _ h29 _ _ _ _ _ _ _ _
def fX11_isSheet_61 (F : Nat) (k29 : ST → Int32 → Int32 → Int32 → Int32 → Int32 → Option (Int32 × ST)) (S : ST) (x1 : Int32) (x2 : Int32) (x3 : Int32) (x5 : Int32) (s0 : Int32) : Option (Int32 × ST) :=
  (if vin x5 300 = true then if (4 : Int32) ≤ (S.1 14 (ix x5)) then
    (fX11_isSheet_90 F k29 S x1 x2 x3 s0 x5)
  else
    ((if vin x5 300 = true then (if vin (S.1 14 (ix x5)) 5 = true then (if vin (S.1 14 (ix x5)) 5 = true then bindS (us S 15 (ix (S.1 14 (ix x5))) ((S.1 15 (ix (S.1 14 (ix x5)))) + (1 : Int32))) (fun S89 => fX11_isSheet_90 F k29 S89 x1 x2 x3 s0 x5) else none) else none) else none)) else none)
set_option maxRecDepth 4000 in
theorem gX11_isSheet_61 {E : CT} (X : Cx E layM cX11_isSheet RX11 6 (some .boolean) 1) (F : Nat) (k29 : ST → Int32 → Int32 → Int32 → Int32 → Int32 → Option (Int32 × ST)) (h29 : ∀ (S : ST) (x1 : Int32) (x2 : Int32) (x3 : Int32) (x4 : Int32) (x5 : Int32), G E (k29 S x1 x2 x3 x4 x5) S 29 [(0, .ref (eA E 0)), (1, .int x1), (2, .int x2), (3, .int x3), (4, .int x4), (5, .int x5)] []) (S : ST) (x1 : Int32) (x2 : Int32) (x3 : Int32) (x5 : Int32) (s0 : Int32) : G E (fX11_isSheet_61 F k29 S x1 x2 x3 x5 s0) S 61 [(0, .ref (eA E 0)), (1, .int x1), (2, .int x2), (3, .int x3), (5, .int x5)] [.int s0] := by
  unfold fX11_isSheet_61
  refine r_istore (lv' := [(0, _), (1, _), (2, _), (3, _), (4, _), (5, _)]) X (by decide) rfl dX11_isSheet_61 ?_
  refine r_aload_n X 0 rfl dX11_isSheet_63 ?_
  refine r_getR X fk_X11_53 lm_0 rfl dX11_isSheet_64 ?_
  refine r_iload X 5 rfl dX11_isSheet_67 ?_
  refine r_iald X lm_14 dX11_isSheet_69 (fun _ => ?_)
  refine r_iconst (v := 4) X (by decide) dX11_isSheet_70 ?_
  refine r_icmp_ge (tgt := 90) X dX11_isSheet_71 (by decide) (fun _ => ?_) (fun _ => ?_)
  · exact gX11_isSheet_90 X F _ h29 _ _ _ _ _ _
  · refine r_aload_n X 0 rfl dX11_isSheet_74 ?_
    refine r_getR X fk_X11_59 lm_0 rfl dX11_isSheet_75 ?_
    refine r_aload_n X 0 rfl dX11_isSheet_78 ?_
    refine r_getR X fk_X11_53 lm_0 rfl dX11_isSheet_79 ?_
    refine r_iload X 5 rfl dX11_isSheet_82 ?_
    refine r_iald X lm_14 dX11_isSheet_84 (fun _ => ?_)
    refine r_dup2 X rfl rfl dX11_isSheet_85 ?_
    refine r_iald X lm_15 dX11_isSheet_86 (fun _ => ?_)
    refine r_iconst (v := 1) X (by decide) dX11_isSheet_87 ?_
    refine r_iadd X dX11_isSheet_88 ?_
    refine r_iast X lm_15 dX11_isSheet_89 (fun _ => ?_)
    refine r_bindS (fun S89 => ?_)
    exact gX11_isSheet_90 X F _ h29 _ _ _ _ _ _
def fX11_isSheet_29 (F : Nat) : Nat → ST → Int32 → Int32 → Int32 → Int32 → Int32 → Option (Int32 × ST)
  | 0, _, _, _, _, _, _ => none
  | n + 1, S, x1, x2, x3, x4, x5 =>
  (if vin x2 8 = true then if (x1 + (S.1 3 (ix x2))) ≤ x5 then
    (if (S.1 0 33) < x3 then
      (some ((0 : Int32), S))
    else
      ((if vin (2 : Int32) 5 = true then if x3 ≤ (S.1 15 (ix (2 : Int32))) then
        ((if vin (2 : Int32) 5 = true then (if vin (2 : Int32) 5 = true then bindS (us S 15 (ix (2 : Int32)) ((S.1 15 (ix (2 : Int32))) - x3)) (fun S153 => (if vin (3 : Int32) 5 = true then (if vin (3 : Int32) 5 = true then bindS (us S153 15 (ix (3 : Int32)) ((S153.1 15 (ix (3 : Int32))) + x3)) (fun S163 => (fX11_holds F S163 x2).bind (fun q166 => if q166.1 &&& 1 = q166.1 then some (q166.1, q166.2) else none)) else none) else none)) else none) else none))
      else
        (some ((0 : Int32), S)) else none)))
  else
    ((if vin x5 300 = true then if (S.1 14 (ix x5)) = (4 : Int32) then
      (fX11_isSheet_61 F (fX11_isSheet_29 F n) S x1 x2 x3 x5 (x4 + (1 : Int32)))
    else
      (fX11_isSheet_61 F (fX11_isSheet_29 F n) S x1 x2 x3 x5 (0 : Int32)) else none)) else none)
set_option maxRecDepth 4000 in
theorem gX11_isSheet_29 {E : CT} (X : Cx E layM cX11_isSheet RX11 6 (some .boolean) 1) (F : Nat) : ∀ (n : Nat) (S : ST) (x1 : Int32) (x2 : Int32) (x3 : Int32) (x4 : Int32) (x5 : Int32), G E (fX11_isSheet_29 F n S x1 x2 x3 x4 x5) S 29 [(0, .ref (eA E 0)), (1, .int x1), (2, .int x2), (3, .int x3), (4, .int x4), (5, .int x5)] []
  | 0, _, _, _, _, _, _ => r_none
  | n + 1, S, x1, x2, x3, x4, x5 => by
    have ih := gX11_isSheet_29 X F n
    unfold fX11_isSheet_29
    refine r_iload X 5 rfl dX11_isSheet_29 ?_
    refine r_iload_n X 1 rfl dX11_isSheet_31 ?_
    refine r_aload_n X 0 rfl dX11_isSheet_32 ?_
    refine r_getR X fk_X11_20 lm_0 rfl dX11_isSheet_33 ?_
    refine r_iload_n X 2 rfl dX11_isSheet_36 ?_
    refine r_iald X lm_3 dX11_isSheet_37 (fun _ => ?_)
    refine r_iadd X dX11_isSheet_38 ?_
    refine r_icmp_ge (tgt := 124) X dX11_isSheet_39 (by decide) (fun _ => ?_) (fun _ => ?_)
    · refine r_iload_n X 3 rfl dX11_isSheet_124 ?_
      refine r_aload_n X 0 rfl dX11_isSheet_125 ?_
      refine r_getI X fk_X11_287 lm_0 rfl dX11_isSheet_126 ?_
      refine r_icmp_gt (tgt := 142) X dX11_isSheet_129 (by decide) (fun _ => ?_) (fun _ => ?_)
      · refine r_iconst (v := 0) X (by decide) dX11_isSheet_142 ?_
        exact r_zret X (by decide) dX11_isSheet_143
      · refine r_iload_n X 3 rfl dX11_isSheet_132 ?_
        refine r_aload_n X 0 rfl dX11_isSheet_133 ?_
        refine r_getR X fk_X11_59 lm_0 rfl dX11_isSheet_134 ?_
        refine r_iconst (v := 2) X (by decide) dX11_isSheet_137 ?_
        refine r_iald X lm_15 dX11_isSheet_138 (fun _ => ?_)
        refine r_icmp_le (tgt := 144) X dX11_isSheet_139 (by decide) (fun _ => ?_) (fun _ => ?_)
        · refine r_aload_n X 0 rfl dX11_isSheet_144 ?_
          refine r_getR X fk_X11_59 lm_0 rfl dX11_isSheet_145 ?_
          refine r_iconst (v := 2) X (by decide) dX11_isSheet_148 ?_
          refine r_dup2 X rfl rfl dX11_isSheet_149 ?_
          refine r_iald X lm_15 dX11_isSheet_150 (fun _ => ?_)
          refine r_iload_n X 3 rfl dX11_isSheet_151 ?_
          refine r_isub X dX11_isSheet_152 ?_
          refine r_iast X lm_15 dX11_isSheet_153 (fun _ => ?_)
          refine r_bindS (fun S153 => ?_)
          refine r_aload_n X 0 rfl dX11_isSheet_154 ?_
          refine r_getR X fk_X11_59 lm_0 rfl dX11_isSheet_155 ?_
          refine r_iconst (v := 3) X (by decide) dX11_isSheet_158 ?_
          refine r_dup2 X rfl rfl dX11_isSheet_159 ?_
          refine r_iald X lm_15 dX11_isSheet_160 (fun _ => ?_)
          refine r_iload_n X 3 rfl dX11_isSheet_161 ?_
          refine r_iadd X dX11_isSheet_162 ?_
          refine r_iast X lm_15 dX11_isSheet_163 (fun _ => ?_)
          refine r_bindS (fun S163 => ?_)
          refine r_aload_n X 0 rfl dX11_isSheet_164 ?_
          refine r_iload_n X 2 rfl dX11_isSheet_165 ?_
          refine r_callV X (mX11_holds _ _ _) mk_X11_holds lk_X11_290 lm_0 rfl rfl (by decide) (by decide) (Nat.le_of_ble_eq_true rfl) rfl dX11_isSheet_166 (fun q166 _ => ?_)
          exact r_zretC X dX11_isSheet_169
        · refine r_iconst (v := 0) X (by decide) dX11_isSheet_142 ?_
          exact r_zret X (by decide) dX11_isSheet_143
    · refine r_aload_n X 0 rfl dX11_isSheet_42 ?_
      refine r_getR X fk_X11_53 lm_0 rfl dX11_isSheet_43 ?_
      refine r_iload X 5 rfl dX11_isSheet_46 ?_
      refine r_iald X lm_14 dX11_isSheet_48 (fun _ => ?_)
      refine r_iconst (v := 4) X (by decide) dX11_isSheet_49 ?_
      refine r_icmp_ne (tgt := 60) X dX11_isSheet_50 (by decide) (fun _ => ?_) (fun _ => ?_)
      · refine r_iconst (v := 0) X (by decide) dX11_isSheet_60 ?_
        refine r_sub [0, 1, 2, 3, 5] rfl ?_
        exact gX11_isSheet_61 X F _ ih _ _ _ _ _ _
      · refine r_iload X 4 rfl dX11_isSheet_53 ?_
        refine r_iconst (v := 1) X (by decide) dX11_isSheet_55 ?_
        refine r_iadd X dX11_isSheet_56 ?_
        refine r_goto (tgt := 61) X dX11_isSheet_57 (by decide) ?_
        refine r_sub [0, 1, 2, 3, 5] rfl ?_
        exact gX11_isSheet_61 X F _ ih _ _ _ _ _ _
def fX11_isSheet_3 (F : Nat) : Nat → ST → Int32 → Int32 → Int32 → Int32 → Option (Int32 × ST)
  | 0, _, _, _, _, _ => none
  | n + 1, S, x1, x2, x3, x4 =>
  if (5 : Int32) ≤ x4 then
    (fX11_isSheet_29 F F S x1 x2 x3 (0 : Int32) x1)
  else
    ((if vin x4 5 = true then bindS (us S 15 (ix x4) (0 : Int32)) (fun S16 => fX11_isSheet_3 F n S16 x1 x2 x3 (x4 + (1 : Int32))) else none))
set_option maxRecDepth 4000 in
theorem gX11_isSheet_3 {E : CT} (X : Cx E layM cX11_isSheet RX11 6 (some .boolean) 1) (F : Nat) : ∀ (n : Nat) (S : ST) (x1 : Int32) (x2 : Int32) (x3 : Int32) (x4 : Int32), G E (fX11_isSheet_3 F n S x1 x2 x3 x4) S 3 [(0, .ref (eA E 0)), (1, .int x1), (2, .int x2), (3, .int x3), (4, .int x4)] []
  | 0, _, _, _, _, _ => r_none
  | n + 1, S, x1, x2, x3, x4 => by
    have ih := gX11_isSheet_3 X F n
    unfold fX11_isSheet_3
    refine r_iload X 4 rfl dX11_isSheet_3 ?_
    refine r_iconst (v := 5) X (by decide) dX11_isSheet_5 ?_
    refine r_icmp_ge (tgt := 23) X dX11_isSheet_6 (by decide) (fun _ => ?_) (fun _ => ?_)
    · refine r_iconst (v := 0) X (by decide) dX11_isSheet_23 ?_
      refine r_istore (lv' := [(0, _), (1, _), (2, _), (3, _), (4, _)]) X (by decide) rfl dX11_isSheet_24 ?_
      refine r_iload_n X 1 rfl dX11_isSheet_26 ?_
      refine r_istore (lv' := [(0, _), (1, _), (2, _), (3, _), (4, _), (5, _)]) X (by decide) rfl dX11_isSheet_27 ?_
      exact gX11_isSheet_29 X F F _ _ _ _ _ _
    · refine r_aload_n X 0 rfl dX11_isSheet_9 ?_
      refine r_getR X fk_X11_59 lm_0 rfl dX11_isSheet_10 ?_
      refine r_iload X 4 rfl dX11_isSheet_13 ?_
      refine r_iconst (v := 0) X (by decide) dX11_isSheet_15 ?_
      refine r_iast X lm_15 dX11_isSheet_16 (fun _ => ?_)
      refine r_bindS (fun S16 => ?_)
      refine r_iinc (lv' := [(0, _), (1, _), (2, _), (3, _), (4, _)]) (dl := 1) X 4 rfl (by decide) (by decide) rfl dX11_isSheet_17 ?_
      refine r_goto (tgt := 3) X dX11_isSheet_20 (by decide) ?_
      exact ih _ _ _ _ _
def fX11_isSheet (F : Nat) (S : ST) (x1 : Int32) (x2 : Int32) (x3 : Int32) : Option (Int32 × ST) :=
  fX11_isSheet_3 F F S x1 x2 x3 (0 : Int32)
set_option maxRecDepth 4000 in
theorem gX11_isSheet {E : CT} (X : Cx E layM cX11_isSheet RX11 6 (some .boolean) 1) (F : Nat) (S : ST) (x1 : Int32) (x2 : Int32) (x3 : Int32) : G E (fX11_isSheet F S x1 x2 x3) S 0 [(0, .ref (eA E 0)), (1, .int x1), (2, .int x2), (3, .int x3)] [] := by
  unfold fX11_isSheet
  refine r_iconst (v := 0) X (by decide) dX11_isSheet_0 ?_
  refine r_istore (lv' := [(0, _), (1, _), (2, _), (3, _), (4, _)]) X (by decide) rfl dX11_isSheet_1 ?_
  exact gX11_isSheet_3 X F F _ _ _ _ _
theorem mX11_isSheet (F : Nat) (S : ST) (x1 : Int32) (x2 : Int32) (x3 : Int32) : MetS yX11_isSheet cX11_isSheet 6 (some .boolean) 1 layM (fX11_isSheet F S x1 x2 x3) S (fun ad => [.ref (ad 0), .int x1, .int x2, .int x3]) := mk_met (fun ad => [(0, .ref (ad 0)), (1, .int x1), (2, .int x2), (3, .int x3)]) (by decide) (fun _ => Nat.le_of_ble_eq_true rfl) (fun _ => rfl) (fun E X => gX11_isSheet X F S x1 x2 x3)
def fX11_clip_211 (F : Nat) (k27 : ST → Int32 → Option (Int32 × ST)) (k61 : ST → Int32 → Int32 → Option (Int32 × ST)) (k71 : ST → Int32 → Int32 → Int32 → Option (Int32 × ST)) (S : ST) (x1 : Int32) (x2 : Int32) (x3 : Int32) (x5 : Int32) (x6 : Int32) : Option (Int32 × ST) :=
  (if vin x1 301 = true then bindS (us S 17 (ix x1) x5) (fun S218 => (if vin x1 301 = true then bindS (us S218 18 (ix x1) x6) (fun S226 => k71 S226 x1 x2 (x3 + (1 : Int32))) else none)) else none)
set_option maxRecDepth 4000 in
theorem gX11_clip_211 {E : CT} (X : Cx E layM cX11_clip RX11 7 none 2) (F : Nat) (k27 : ST → Int32 → Option (Int32 × ST)) (h27 : ∀ (S : ST) (x1 : Int32), G E (k27 S x1) S 27 [(0, .ref (eA E 0)), (1, .int x1)] []) (k61 : ST → Int32 → Int32 → Option (Int32 × ST)) (h61 : ∀ (S : ST) (x1 : Int32) (x2 : Int32), G E (k61 S x1 x2) S 61 [(0, .ref (eA E 0)), (1, .int x1), (2, .int x2)] []) (k71 : ST → Int32 → Int32 → Int32 → Option (Int32 × ST)) (h71 : ∀ (S : ST) (x1 : Int32) (x2 : Int32) (x3 : Int32), G E (k71 S x1 x2 x3) S 71 [(0, .ref (eA E 0)), (1, .int x1), (2, .int x2), (3, .int x3)] []) (S : ST) (x1 : Int32) (x2 : Int32) (x3 : Int32) (x5 : Int32) (x6 : Int32) : G E (fX11_clip_211 F k27 k61 k71 S x1 x2 x3 x5 x6) S 211 [(0, .ref (eA E 0)), (1, .int x1), (2, .int x2), (3, .int x3), (5, .int x5), (6, .int x6)] [] := by
  unfold fX11_clip_211
  refine r_aload_n X 0 rfl dX11_clip_211 ?_
  refine r_getR X fk_X11_65 lm_0 rfl dX11_clip_212 ?_
  refine r_iload_n X 1 rfl dX11_clip_215 ?_
  refine r_iload X 4 rfl dX11_clip_216 ?_
  refine r_iast X lm_17 dX11_clip_218 (fun _ => ?_)
  refine r_bindS (fun S218 => ?_)
  refine r_aload_n X 0 rfl dX11_clip_219 ?_
  refine r_getR X fk_X11_68 lm_0 rfl dX11_clip_220 ?_
  refine r_iload_n X 1 rfl dX11_clip_223 ?_
  refine r_iload X 5 rfl dX11_clip_224 ?_
  refine r_iast X lm_18 dX11_clip_226 (fun _ => ?_)
  refine r_bindS (fun S226 => ?_)
  refine r_iinc (lv' := [(0, _), (1, _), (2, _), (3, _), (5, _), (6, _)]) (dl := 1) X 3 rfl (by decide) (by decide) rfl dX11_clip_227 ?_
  refine r_goto (tgt := 71) X dX11_clip_230 (by decide) ?_
  refine r_sub [0, 1, 2, 3] rfl ?_
  exact h71 _ _ _ _
def fX11_clip_106 (F : Nat) (k27 : ST → Int32 → Option (Int32 × ST)) (k61 : ST → Int32 → Int32 → Option (Int32 × ST)) (k71 : ST → Int32 → Int32 → Int32 → Option (Int32 × ST)) (S : ST) (x1 : Int32) (x2 : Int32) (x3 : Int32) (s0 : Int32) : Option (Int32 × ST) :=
  (fX11_cell F S x1 x2 x3).bind (fun q115 => (if vin q115.1 9600 = true then bindS (us q115.2 22 (ix q115.1) (s0 &&& 1)) (fun S120 => if s0 = 0 then
    (k71 S120 x1 x2 (x3 + (1 : Int32)))
  else
    ((if vin x2 8 = true then (if vin x2 8 = true then (if vin (x1 + (S120.1 3 (ix x2))) 301 = true then bindI ((((S120.1 4 (ix x2)) - (x3 * (S120.1 0 34))) + (S120.1 17 (ix (x1 + (S120.1 3 (ix x2))))))) (fun v156 => (if vin x2 8 = true then (if vin (x1 + (S120.1 3 (ix x2))) 301 = true then bindI (((1 : Int32) + (S120.1 18 (ix (x1 + (S120.1 3 (ix x2))))))) (fun v173 => (if vin x1 301 = true then if v156 < (S120.1 17 (ix x1)) then
      (k71 S120 x1 x2 (x3 + (1 : Int32)))
    else
      ((if vin x1 301 = true then if v156 = (S120.1 17 (ix x1)) then
        ((if vin x1 301 = true then if v173 < (S120.1 18 (ix x1)) then
          (fX11_clip_211 F k27 k61 k71 S120 x1 x2 x3 v156 v173)
        else
          (k71 S120 x1 x2 (x3 + (1 : Int32))) else none))
      else
        (fX11_clip_211 F k27 k61 k71 S120 x1 x2 x3 v156 v173) else none)) else none)) else none) else none)) else none) else none) else none))) else none))
set_option maxRecDepth 4000 in
theorem gX11_clip_106 {E : CT} (X : Cx E layM cX11_clip RX11 7 none 2) (F : Nat) (k27 : ST → Int32 → Option (Int32 × ST)) (h27 : ∀ (S : ST) (x1 : Int32), G E (k27 S x1) S 27 [(0, .ref (eA E 0)), (1, .int x1)] []) (k61 : ST → Int32 → Int32 → Option (Int32 × ST)) (h61 : ∀ (S : ST) (x1 : Int32) (x2 : Int32), G E (k61 S x1 x2) S 61 [(0, .ref (eA E 0)), (1, .int x1), (2, .int x2)] []) (k71 : ST → Int32 → Int32 → Int32 → Option (Int32 × ST)) (h71 : ∀ (S : ST) (x1 : Int32) (x2 : Int32) (x3 : Int32), G E (k71 S x1 x2 x3) S 71 [(0, .ref (eA E 0)), (1, .int x1), (2, .int x2), (3, .int x3)] []) (S : ST) (x1 : Int32) (x2 : Int32) (x3 : Int32) (s0 : Int32) : G E (fX11_clip_106 F k27 k61 k71 S x1 x2 x3 s0) S 106 [(0, .ref (eA E 0)), (1, .int x1), (2, .int x2), (3, .int x3)] [.int s0] := by
  unfold fX11_clip_106
  refine r_istore (lv' := [(0, _), (1, _), (2, _), (3, _), (4, _)]) X (by decide) rfl dX11_clip_106 ?_
  refine r_aload_n X 0 rfl dX11_clip_108 ?_
  refine r_getR X fk_X11_80 lm_0 rfl dX11_clip_109 ?_
  refine r_iload_n X 1 rfl dX11_clip_112 ?_
  refine r_iload_n X 2 rfl dX11_clip_113 ?_
  refine r_iload_n X 3 rfl dX11_clip_114 ?_
  refine r_callS X (mX11_cell _ _ _ _ _) mk_X11_cell lk_X11_296 rfl (by decide) (by decide) (Nat.le_of_ble_eq_true rfl) rfl dX11_clip_115 (fun q115 _ => ?_)
  refine r_iload X 4 rfl dX11_clip_118 ?_
  refine r_zast X lm_22 dX11_clip_120 (fun _ => ?_)
  refine r_bindS (fun S120 => ?_)
  refine r_iload X 4 rfl dX11_clip_121 ?_
  refine r_if_ne (tgt := 129) X dX11_clip_123 (by decide) (fun _ => ?_) (fun _ => ?_)
  · refine r_aload_n X 0 rfl dX11_clip_129 ?_
    refine r_getR X fk_X11_23 lm_0 rfl dX11_clip_130 ?_
    refine r_iload_n X 2 rfl dX11_clip_133 ?_
    refine r_iald X lm_4 dX11_clip_134 (fun _ => ?_)
    refine r_iload_n X 3 rfl dX11_clip_135 ?_
    refine r_aload_n X 0 rfl dX11_clip_136 ?_
    refine r_getI X fk_X11_56 lm_0 rfl dX11_clip_137 ?_
    refine r_imul X dX11_clip_140 ?_
    refine r_isub X dX11_clip_141 ?_
    refine r_aload_n X 0 rfl dX11_clip_142 ?_
    refine r_getR X fk_X11_65 lm_0 rfl dX11_clip_143 ?_
    refine r_iload_n X 1 rfl dX11_clip_146 ?_
    refine r_aload_n X 0 rfl dX11_clip_147 ?_
    refine r_getR X fk_X11_20 lm_0 rfl dX11_clip_148 ?_
    refine r_iload_n X 2 rfl dX11_clip_151 ?_
    refine r_iald X lm_3 dX11_clip_152 (fun _ => ?_)
    refine r_iadd X dX11_clip_153 ?_
    refine r_iald X lm_17 dX11_clip_154 (fun _ => ?_)
    refine r_iadd X dX11_clip_155 ?_
    refine r_bindI (fun v156 => ?_)
    refine r_istore (lv' := [(0, _), (1, _), (2, _), (3, _), (4, _), (5, _)]) X (by decide) rfl dX11_clip_156 ?_
    refine r_iconst (v := 1) X (by decide) dX11_clip_158 ?_
    refine r_aload_n X 0 rfl dX11_clip_159 ?_
    refine r_getR X fk_X11_68 lm_0 rfl dX11_clip_160 ?_
    refine r_iload_n X 1 rfl dX11_clip_163 ?_
    refine r_aload_n X 0 rfl dX11_clip_164 ?_
    refine r_getR X fk_X11_20 lm_0 rfl dX11_clip_165 ?_
    refine r_iload_n X 2 rfl dX11_clip_168 ?_
    refine r_iald X lm_3 dX11_clip_169 (fun _ => ?_)
    refine r_iadd X dX11_clip_170 ?_
    refine r_iald X lm_18 dX11_clip_171 (fun _ => ?_)
    refine r_iadd X dX11_clip_172 ?_
    refine r_bindI (fun v173 => ?_)
    refine r_istore (lv' := [(0, _), (1, _), (2, _), (3, _), (4, _), (5, _), (6, _)]) X (by decide) rfl dX11_clip_173 ?_
    refine r_iload X 5 rfl dX11_clip_175 ?_
    refine r_aload_n X 0 rfl dX11_clip_177 ?_
    refine r_getR X fk_X11_65 lm_0 rfl dX11_clip_178 ?_
    refine r_iload_n X 1 rfl dX11_clip_181 ?_
    refine r_iald X lm_17 dX11_clip_182 (fun _ => ?_)
    refine r_icmp_lt (tgt := 227) X dX11_clip_183 (by decide) (fun _ => ?_) (fun _ => ?_)
    · refine r_iinc (lv' := [(0, _), (1, _), (2, _), (3, _), (4, _), (5, _), (6, _)]) (dl := 1) X 3 rfl (by decide) (by decide) rfl dX11_clip_227 ?_
      refine r_goto (tgt := 71) X dX11_clip_230 (by decide) ?_
      refine r_sub [0, 1, 2, 3] rfl ?_
      exact h71 _ _ _ _
    · refine r_iload X 5 rfl dX11_clip_186 ?_
      refine r_aload_n X 0 rfl dX11_clip_188 ?_
      refine r_getR X fk_X11_65 lm_0 rfl dX11_clip_189 ?_
      refine r_iload_n X 1 rfl dX11_clip_192 ?_
      refine r_iald X lm_17 dX11_clip_193 (fun _ => ?_)
      refine r_icmp_ne (tgt := 211) X dX11_clip_194 (by decide) (fun _ => ?_) (fun _ => ?_)
      · refine r_sub [0, 1, 2, 3, 5, 6] rfl ?_
        exact gX11_clip_211 X F _ h27 _ h61 _ h71 _ _ _ _ _ _
      · refine r_iload X 6 rfl dX11_clip_197 ?_
        refine r_aload_n X 0 rfl dX11_clip_199 ?_
        refine r_getR X fk_X11_68 lm_0 rfl dX11_clip_200 ?_
        refine r_iload_n X 1 rfl dX11_clip_203 ?_
        refine r_iald X lm_18 dX11_clip_204 (fun _ => ?_)
        refine r_icmp_lt (tgt := 211) X dX11_clip_205 (by decide) (fun _ => ?_) (fun _ => ?_)
        · refine r_sub [0, 1, 2, 3, 5, 6] rfl ?_
          exact gX11_clip_211 X F _ h27 _ h61 _ h71 _ _ _ _ _ _
        · refine r_goto (tgt := 227) X dX11_clip_208 (by decide) ?_
          refine r_iinc (lv' := [(0, _), (1, _), (2, _), (3, _), (4, _), (5, _), (6, _)]) (dl := 1) X 3 rfl (by decide) (by decide) rfl dX11_clip_227 ?_
          refine r_goto (tgt := 71) X dX11_clip_230 (by decide) ?_
          refine r_sub [0, 1, 2, 3] rfl ?_
          exact h71 _ _ _ _
  · refine r_goto (tgt := 227) X dX11_clip_126 (by decide) ?_
    refine r_iinc (lv' := [(0, _), (1, _), (2, _), (3, _), (4, _)]) (dl := 1) X 3 rfl (by decide) (by decide) rfl dX11_clip_227 ?_
    refine r_goto (tgt := 71) X dX11_clip_230 (by decide) ?_
    refine r_sub [0, 1, 2, 3] rfl ?_
    exact h71 _ _ _ _
def fX11_clip_105 (F : Nat) (k27 : ST → Int32 → Option (Int32 × ST)) (k61 : ST → Int32 → Int32 → Option (Int32 × ST)) (k71 : ST → Int32 → Int32 → Int32 → Option (Int32 × ST)) (S : ST) (x1 : Int32) (x2 : Int32) (x3 : Int32) : Option (Int32 × ST) :=
  fX11_clip_106 F k27 k61 k71 S x1 x2 x3 (0 : Int32)
set_option maxRecDepth 4000 in
theorem gX11_clip_105 {E : CT} (X : Cx E layM cX11_clip RX11 7 none 2) (F : Nat) (k27 : ST → Int32 → Option (Int32 × ST)) (h27 : ∀ (S : ST) (x1 : Int32), G E (k27 S x1) S 27 [(0, .ref (eA E 0)), (1, .int x1)] []) (k61 : ST → Int32 → Int32 → Option (Int32 × ST)) (h61 : ∀ (S : ST) (x1 : Int32) (x2 : Int32), G E (k61 S x1 x2) S 61 [(0, .ref (eA E 0)), (1, .int x1), (2, .int x2)] []) (k71 : ST → Int32 → Int32 → Int32 → Option (Int32 × ST)) (h71 : ∀ (S : ST) (x1 : Int32) (x2 : Int32) (x3 : Int32), G E (k71 S x1 x2 x3) S 71 [(0, .ref (eA E 0)), (1, .int x1), (2, .int x2), (3, .int x3)] []) (S : ST) (x1 : Int32) (x2 : Int32) (x3 : Int32) : G E (fX11_clip_105 F k27 k61 k71 S x1 x2 x3) S 105 [(0, .ref (eA E 0)), (1, .int x1), (2, .int x2), (3, .int x3)] [] := by
  unfold fX11_clip_105
  refine r_iconst (v := 0) X (by decide) dX11_clip_105 ?_
  exact gX11_clip_106 X F _ h27 _ h61 _ h71 _ _ _ _ _
def fX11_clip_71 (F : Nat) (k27 : ST → Int32 → Option (Int32 × ST)) (k61 : ST → Int32 → Int32 → Option (Int32 × ST)) : Nat → ST → Int32 → Int32 → Int32 → Option (Int32 × ST)
  | 0, _, _, _, _ => none
  | n + 1, S, x1, x2, x3 =>
  if (3 : Int32) < x3 then
    (k61 S x1 (x2 + (1 : Int32)))
  else
    ((if vin x2 8 = true then if (S.1 0 32) < (x1 + (S.1 3 (ix x2))) then
      (fX11_clip_105 F k27 k61 (fX11_clip_71 F k27 k61 n) S x1 x2 x3)
    else
      ((fX11_isSheet F S x1 x2 x3).bind (fun q95 => if q95.1 = 0 then
        (fX11_clip_105 F k27 k61 (fX11_clip_71 F k27 k61 n) q95.2 x1 x2 x3)
      else
        (fX11_clip_106 F k27 k61 (fX11_clip_71 F k27 k61 n) q95.2 x1 x2 x3 (1 : Int32)))) else none))
set_option maxRecDepth 4000 in
theorem gX11_clip_71 {E : CT} (X : Cx E layM cX11_clip RX11 7 none 2) (F : Nat) (k27 : ST → Int32 → Option (Int32 × ST)) (h27 : ∀ (S : ST) (x1 : Int32), G E (k27 S x1) S 27 [(0, .ref (eA E 0)), (1, .int x1)] []) (k61 : ST → Int32 → Int32 → Option (Int32 × ST)) (h61 : ∀ (S : ST) (x1 : Int32) (x2 : Int32), G E (k61 S x1 x2) S 61 [(0, .ref (eA E 0)), (1, .int x1), (2, .int x2)] []) : ∀ (n : Nat) (S : ST) (x1 : Int32) (x2 : Int32) (x3 : Int32), G E (fX11_clip_71 F k27 k61 n S x1 x2 x3) S 71 [(0, .ref (eA E 0)), (1, .int x1), (2, .int x2), (3, .int x3)] []
  | 0, _, _, _, _ => r_none
  | n + 1, S, x1, x2, x3 => by
    have ih := gX11_clip_71 X F k27 h27 k61 h61 n
    unfold fX11_clip_71
    refine r_iload_n X 3 rfl dX11_clip_71 ?_
    refine r_iconst (v := 3) X (by decide) dX11_clip_72 ?_
    refine r_icmp_gt (tgt := 233) X dX11_clip_73 (by decide) (fun _ => ?_) (fun _ => ?_)
    · refine r_iinc (lv' := [(0, _), (1, _), (2, _), (3, _)]) (dl := 1) X 2 rfl (by decide) (by decide) rfl dX11_clip_233 ?_
      refine r_goto (tgt := 61) X dX11_clip_236 (by decide) ?_
      refine r_sub [0, 1, 2] rfl ?_
      exact h61 _ _ _
    · refine r_iload_n X 1 rfl dX11_clip_76 ?_
      refine r_aload_n X 0 rfl dX11_clip_77 ?_
      refine r_getR X fk_X11_20 lm_0 rfl dX11_clip_78 ?_
      refine r_iload_n X 2 rfl dX11_clip_81 ?_
      refine r_iald X lm_3 dX11_clip_82 (fun _ => ?_)
      refine r_iadd X dX11_clip_83 ?_
      refine r_aload_n X 0 rfl dX11_clip_84 ?_
      refine r_getI X fk_X11_284 lm_0 rfl dX11_clip_85 ?_
      refine r_icmp_gt (tgt := 105) X dX11_clip_88 (by decide) (fun _ => ?_) (fun _ => ?_)
      · exact gX11_clip_105 X F _ h27 _ h61 _ ih _ _ _ _
      · refine r_aload_n X 0 rfl dX11_clip_91 ?_
        refine r_iload_n X 1 rfl dX11_clip_92 ?_
        refine r_iload_n X 2 rfl dX11_clip_93 ?_
        refine r_iload_n X 3 rfl dX11_clip_94 ?_
        refine r_callV X (mX11_isSheet _ _ _ _ _) mk_X11_isSheet lk_X11_293 lm_0 rfl rfl (by decide) (by decide) (Nat.le_of_ble_eq_true rfl) rfl dX11_clip_95 (fun q95 _ => ?_)
        refine r_if_eq (tgt := 105) X dX11_clip_98 (by decide) (fun _ => ?_) (fun _ => ?_)
        · exact gX11_clip_105 X F _ h27 _ h61 _ ih _ _ _ _
        · refine r_iconst (v := 1) X (by decide) dX11_clip_101 ?_
          refine r_goto (tgt := 106) X dX11_clip_102 (by decide) ?_
          exact gX11_clip_106 X F _ h27 _ h61 _ ih _ _ _ _ _
def fX11_clip_61 (F : Nat) (k27 : ST → Int32 → Option (Int32 × ST)) : Nat → ST → Int32 → Int32 → Option (Int32 × ST)
  | 0, _, _, _ => none
  | n + 1, S, x1, x2 =>
  if (S.1 0 14) ≤ x2 then
    (k27 S (x1 + (-1 : Int32)))
  else
    (fX11_clip_71 F k27 (fX11_clip_61 F k27 n) F S x1 x2 (0 : Int32))
set_option maxRecDepth 4000 in
theorem gX11_clip_61 {E : CT} (X : Cx E layM cX11_clip RX11 7 none 2) (F : Nat) (k27 : ST → Int32 → Option (Int32 × ST)) (h27 : ∀ (S : ST) (x1 : Int32), G E (k27 S x1) S 27 [(0, .ref (eA E 0)), (1, .int x1)] []) : ∀ (n : Nat) (S : ST) (x1 : Int32) (x2 : Int32), G E (fX11_clip_61 F k27 n S x1 x2) S 61 [(0, .ref (eA E 0)), (1, .int x1), (2, .int x2)] []
  | 0, _, _, _ => r_none
  | n + 1, S, x1, x2 => by
    have ih := gX11_clip_61 X F k27 h27 n
    unfold fX11_clip_61
    refine r_iload_n X 2 rfl dX11_clip_61 ?_
    refine r_aload_n X 0 rfl dX11_clip_62 ?_
    refine r_getI X fk_X11_278 lm_0 rfl dX11_clip_63 ?_
    refine r_icmp_ge (tgt := 239) X dX11_clip_66 (by decide) (fun _ => ?_) (fun _ => ?_)
    · refine r_iinc (lv' := [(0, _), (1, _), (2, _)]) (dl := -1) X 1 rfl (by decide) (by decide) rfl dX11_clip_239 ?_
      refine r_goto (tgt := 27) X dX11_clip_242 (by decide) ?_
      refine r_sub [0, 1] rfl ?_
      exact h27 _ _
    · refine r_iconst (v := 0) X (by decide) dX11_clip_69 ?_
      refine r_istore_n (lv' := [(0, _), (1, _), (2, _), (3, _)]) X (by decide) rfl dX11_clip_70 ?_
      exact gX11_clip_71 X F _ h27 _ ih F _ _ _ _
def fX11_clip_286 (F : Nat) (k252 : ST → Int32 → Option (Int32 × ST)) (k267 : ST → Int32 → Int32 → Int32 → Option (Int32 × ST)) : Nat → ST → Int32 → Int32 → Int32 → Int32 → Option (Int32 × ST)
  | 0, _, _, _, _, _ => none
  | n + 1, S, x1, x2, x3, x4 =>
  if (3 : Int32) < x4 then
    (k267 S x1 x2 (x3 + (1 : Int32)))
  else
    (if (S.1 0 43) = x2 then
      ((fX11_cell F S x1 x3 x4).bind (fun q308 => (if vin q308.1 9600 = true then if (q308.2.1 22 (ix q308.1)) = 0 then
        (fX11_clip_286 F k252 k267 n q308.2 x1 x2 x3 (x4 + (1 : Int32)))
      else
        ((if vin x3 8 = true then (if vin x3 8 = true then (if vin (x1 + (q308.2.1 3 (ix x3))) 301 = true then (if vin x1 301 = true then if (((q308.2.1 4 (ix x3)) - (x4 * (q308.2.1 0 34))) + (q308.2.1 17 (ix (x1 + (q308.2.1 3 (ix x3)))))) = (q308.2.1 17 (ix x1)) then
          ((if vin x3 8 = true then (if vin (x1 + (q308.2.1 3 (ix x3))) 301 = true then (if vin x1 301 = true then if ((1 : Int32) + (q308.2.1 18 (ix (x1 + (q308.2.1 3 (ix x3)))))) = (q308.2.1 18 (ix x1)) then
            ((if vin (q308.2.1 0 43) 300 = true then bindS (us q308.2 19 (ix (q308.2.1 0 43)) x1) (fun S388 => (if vin (S388.1 0 43) 300 = true then bindS (us S388 20 (ix (S388.1 0 43)) x3) (fun S398 => (if vin (S398.1 0 43) 300 = true then bindS (us S398 21 (ix (S398.1 0 43)) x4) (fun S409 => bindS (us S409 0 43 ((S409.1 0 43) + (1 : Int32))) (fun S417 => fX11_clip_286 F k252 k267 n S417 x1 x2 x3 (x4 + (1 : Int32)))) else none)) else none)) else none))
          else
            (fX11_clip_286 F k252 k267 n q308.2 x1 x2 x3 (x4 + (1 : Int32))) else none) else none) else none))
        else
          (fX11_clip_286 F k252 k267 n q308.2 x1 x2 x3 (x4 + (1 : Int32))) else none) else none) else none) else none)) else none)))
    else
      (k267 S x1 x2 (x3 + (1 : Int32))))
set_option maxRecDepth 4000 in
theorem gX11_clip_286 {E : CT} (X : Cx E layM cX11_clip RX11 7 none 2) (F : Nat) (k252 : ST → Int32 → Option (Int32 × ST)) (h252 : ∀ (S : ST) (x1 : Int32), G E (k252 S x1) S 252 [(0, .ref (eA E 0)), (1, .int x1)] []) (k267 : ST → Int32 → Int32 → Int32 → Option (Int32 × ST)) (h267 : ∀ (S : ST) (x1 : Int32) (x2 : Int32) (x3 : Int32), G E (k267 S x1 x2 x3) S 267 [(0, .ref (eA E 0)), (1, .int x1), (2, .int x2), (3, .int x3)] []) : ∀ (n : Nat) (S : ST) (x1 : Int32) (x2 : Int32) (x3 : Int32) (x4 : Int32), G E (fX11_clip_286 F k252 k267 n S x1 x2 x3 x4) S 286 [(0, .ref (eA E 0)), (1, .int x1), (2, .int x2), (3, .int x3), (4, .int x4)] []
  | 0, _, _, _, _, _ => r_none
  | n + 1, S, x1, x2, x3, x4 => by
    have ih := gX11_clip_286 X F k252 h252 k267 h267 n
    unfold fX11_clip_286
    refine r_iload X 4 rfl dX11_clip_286 ?_
    refine r_iconst (v := 3) X (by decide) dX11_clip_288 ?_
    refine r_icmp_gt (tgt := 426) X dX11_clip_289 (by decide) (fun _ => ?_) (fun _ => ?_)
    · refine r_iinc (lv' := [(0, _), (1, _), (2, _), (3, _), (4, _)]) (dl := 1) X 3 rfl (by decide) (by decide) rfl dX11_clip_426 ?_
      refine r_goto (tgt := 267) X dX11_clip_429 (by decide) ?_
      refine r_sub [0, 1, 2, 3] rfl ?_
      exact h267 _ _ _ _
    · refine r_aload_n X 0 rfl dX11_clip_292 ?_
      refine r_getI X fk_X11_300 lm_0 rfl dX11_clip_293 ?_
      refine r_iload_n X 2 rfl dX11_clip_296 ?_
      refine r_icmp_ne (tgt := 426) X dX11_clip_297 (by decide) (fun _ => ?_) (fun _ => ?_)
      · refine r_iinc (lv' := [(0, _), (1, _), (2, _), (3, _), (4, _)]) (dl := 1) X 3 rfl (by decide) (by decide) rfl dX11_clip_426 ?_
        refine r_goto (tgt := 267) X dX11_clip_429 (by decide) ?_
        refine r_sub [0, 1, 2, 3] rfl ?_
        exact h267 _ _ _ _
      · refine r_aload_n X 0 rfl dX11_clip_300 ?_
        refine r_getR X fk_X11_80 lm_0 rfl dX11_clip_301 ?_
        refine r_iload_n X 1 rfl dX11_clip_304 ?_
        refine r_iload_n X 3 rfl dX11_clip_305 ?_
        refine r_iload X 4 rfl dX11_clip_306 ?_
        refine r_callS X (mX11_cell _ _ _ _ _) mk_X11_cell lk_X11_296 rfl (by decide) (by decide) (Nat.le_of_ble_eq_true rfl) rfl dX11_clip_308 (fun q308 _ => ?_)
        refine r_zald X lm_22 dX11_clip_311 (fun _ => ?_)
        refine r_if_eq (tgt := 420) X dX11_clip_312 (by decide) (fun _ => ?_) (fun _ => ?_)
        · refine r_iinc (lv' := [(0, _), (1, _), (2, _), (3, _), (4, _)]) (dl := 1) X 4 rfl (by decide) (by decide) rfl dX11_clip_420 ?_
          refine r_goto (tgt := 286) X dX11_clip_423 (by decide) ?_
          exact ih _ _ _ _ _
        · refine r_aload_n X 0 rfl dX11_clip_315 ?_
          refine r_getR X fk_X11_23 lm_0 rfl dX11_clip_316 ?_
          refine r_iload_n X 3 rfl dX11_clip_319 ?_
          refine r_iald X lm_4 dX11_clip_320 (fun _ => ?_)
          refine r_iload X 4 rfl dX11_clip_321 ?_
          refine r_aload_n X 0 rfl dX11_clip_323 ?_
          refine r_getI X fk_X11_56 lm_0 rfl dX11_clip_324 ?_
          refine r_imul X dX11_clip_327 ?_
          refine r_isub X dX11_clip_328 ?_
          refine r_aload_n X 0 rfl dX11_clip_329 ?_
          refine r_getR X fk_X11_65 lm_0 rfl dX11_clip_330 ?_
          refine r_iload_n X 1 rfl dX11_clip_333 ?_
          refine r_aload_n X 0 rfl dX11_clip_334 ?_
          refine r_getR X fk_X11_20 lm_0 rfl dX11_clip_335 ?_
          refine r_iload_n X 3 rfl dX11_clip_338 ?_
          refine r_iald X lm_3 dX11_clip_339 (fun _ => ?_)
          refine r_iadd X dX11_clip_340 ?_
          refine r_iald X lm_17 dX11_clip_341 (fun _ => ?_)
          refine r_iadd X dX11_clip_342 ?_
          refine r_aload_n X 0 rfl dX11_clip_343 ?_
          refine r_getR X fk_X11_65 lm_0 rfl dX11_clip_344 ?_
          refine r_iload_n X 1 rfl dX11_clip_347 ?_
          refine r_iald X lm_17 dX11_clip_348 (fun _ => ?_)
          refine r_icmp_ne (tgt := 420) X dX11_clip_349 (by decide) (fun _ => ?_) (fun _ => ?_)
          · refine r_iinc (lv' := [(0, _), (1, _), (2, _), (3, _), (4, _)]) (dl := 1) X 4 rfl (by decide) (by decide) rfl dX11_clip_420 ?_
            refine r_goto (tgt := 286) X dX11_clip_423 (by decide) ?_
            exact ih _ _ _ _ _
          · refine r_iconst (v := 1) X (by decide) dX11_clip_352 ?_
            refine r_aload_n X 0 rfl dX11_clip_353 ?_
            refine r_getR X fk_X11_68 lm_0 rfl dX11_clip_354 ?_
            refine r_iload_n X 1 rfl dX11_clip_357 ?_
            refine r_aload_n X 0 rfl dX11_clip_358 ?_
            refine r_getR X fk_X11_20 lm_0 rfl dX11_clip_359 ?_
            refine r_iload_n X 3 rfl dX11_clip_362 ?_
            refine r_iald X lm_3 dX11_clip_363 (fun _ => ?_)
            refine r_iadd X dX11_clip_364 ?_
            refine r_iald X lm_18 dX11_clip_365 (fun _ => ?_)
            refine r_iadd X dX11_clip_366 ?_
            refine r_aload_n X 0 rfl dX11_clip_367 ?_
            refine r_getR X fk_X11_68 lm_0 rfl dX11_clip_368 ?_
            refine r_iload_n X 1 rfl dX11_clip_371 ?_
            refine r_iald X lm_18 dX11_clip_372 (fun _ => ?_)
            refine r_icmp_eq (tgt := 379) X dX11_clip_373 (by decide) (fun _ => ?_) (fun _ => ?_)
            · refine r_aload_n X 0 rfl dX11_clip_379 ?_
              refine r_getR X fk_X11_71 lm_0 rfl dX11_clip_380 ?_
              refine r_aload_n X 0 rfl dX11_clip_383 ?_
              refine r_getI X fk_X11_300 lm_0 rfl dX11_clip_384 ?_
              refine r_iload_n X 1 rfl dX11_clip_387 ?_
              refine r_iast X lm_19 dX11_clip_388 (fun _ => ?_)
              refine r_bindS (fun S388 => ?_)
              refine r_aload_n X 0 rfl dX11_clip_389 ?_
              refine r_getR X fk_X11_74 lm_0 rfl dX11_clip_390 ?_
              refine r_aload_n X 0 rfl dX11_clip_393 ?_
              refine r_getI X fk_X11_300 lm_0 rfl dX11_clip_394 ?_
              refine r_iload_n X 3 rfl dX11_clip_397 ?_
              refine r_iast X lm_20 dX11_clip_398 (fun _ => ?_)
              refine r_bindS (fun S398 => ?_)
              refine r_aload_n X 0 rfl dX11_clip_399 ?_
              refine r_getR X fk_X11_77 lm_0 rfl dX11_clip_400 ?_
              refine r_aload_n X 0 rfl dX11_clip_403 ?_
              refine r_getI X fk_X11_300 lm_0 rfl dX11_clip_404 ?_
              refine r_iload X 4 rfl dX11_clip_407 ?_
              refine r_iast X lm_21 dX11_clip_409 (fun _ => ?_)
              refine r_bindS (fun S409 => ?_)
              refine r_aload_n X 0 rfl dX11_clip_410 ?_
              refine r_dup X rfl dX11_clip_411 ?_
              refine r_getI X fk_X11_300 lm_0 rfl dX11_clip_412 ?_
              refine r_iconst (v := 1) X (by decide) dX11_clip_415 ?_
              refine r_iadd X dX11_clip_416 ?_
              refine r_putI X pk_X11_300 lm_0 rfl dX11_clip_417 ?_
              refine r_bindS (fun S417 => ?_)
              refine r_iinc (lv' := [(0, _), (1, _), (2, _), (3, _), (4, _)]) (dl := 1) X 4 rfl (by decide) (by decide) rfl dX11_clip_420 ?_
              refine r_goto (tgt := 286) X dX11_clip_423 (by decide) ?_
              exact ih _ _ _ _ _
            · refine r_goto (tgt := 420) X dX11_clip_376 (by decide) ?_
              refine r_iinc (lv' := [(0, _), (1, _), (2, _), (3, _), (4, _)]) (dl := 1) X 4 rfl (by decide) (by decide) rfl dX11_clip_420 ?_
              refine r_goto (tgt := 286) X dX11_clip_423 (by decide) ?_
              exact ih _ _ _ _ _
def fX11_clip_432 (F : Nat) (k252 : ST → Int32 → Option (Int32 × ST)) (S : ST) (x1 : Int32) (x2 : Int32) : Option (Int32 × ST) :=
  if (S.1 0 43) ≤ x2 then
    (bindI ((x1 + (1 : Int32))) (fun v457 => k252 S v457))
  else
    ((if vin x2 300 = true then (if vin (S.1 20 (ix x2)) 8 = true then bindI ((x1 + (S.1 3 (ix (S.1 20 (ix x2)))))) (fun v457 => k252 S v457) else none) else none))
set_option maxRecDepth 4000 in
theorem gX11_clip_432 {E : CT} (X : Cx E layM cX11_clip RX11 7 none 2) (F : Nat) (k252 : ST → Int32 → Option (Int32 × ST)) (h252 : ∀ (S : ST) (x1 : Int32), G E (k252 S x1) S 252 [(0, .ref (eA E 0)), (1, .int x1)] []) (S : ST) (x1 : Int32) (x2 : Int32) : G E (fX11_clip_432 F k252 S x1 x2) S 432 [(0, .ref (eA E 0)), (1, .int x1), (2, .int x2)] [] := by
  unfold fX11_clip_432
  refine r_iload_n X 1 rfl dX11_clip_432 ?_
  refine r_aload_n X 0 rfl dX11_clip_433 ?_
  refine r_getI X fk_X11_300 lm_0 rfl dX11_clip_434 ?_
  refine r_iload_n X 2 rfl dX11_clip_437 ?_
  refine r_icmp_le (tgt := 455) X dX11_clip_438 (by decide) (fun _ => ?_) (fun _ => ?_)
  · refine r_iconst (v := 1) X (by decide) dX11_clip_455 ?_
    refine r_iadd X dX11_clip_456 ?_
    refine r_bindI (fun v457 => ?_)
    refine r_istore_n (lv' := [(0, _), (1, _), (2, _)]) X (by decide) rfl dX11_clip_457 ?_
    refine r_goto (tgt := 252) X dX11_clip_458 (by decide) ?_
    refine r_sub [0, 1] rfl ?_
    exact h252 _ _
  · refine r_aload_n X 0 rfl dX11_clip_441 ?_
    refine r_getR X fk_X11_20 lm_0 rfl dX11_clip_442 ?_
    refine r_aload_n X 0 rfl dX11_clip_445 ?_
    refine r_getR X fk_X11_74 lm_0 rfl dX11_clip_446 ?_
    refine r_iload_n X 2 rfl dX11_clip_449 ?_
    refine r_iald X lm_20 dX11_clip_450 (fun _ => ?_)
    refine r_iald X lm_3 dX11_clip_451 (fun _ => ?_)
    refine r_goto (tgt := 456) X dX11_clip_452 (by decide) ?_
    refine r_iadd X dX11_clip_456 ?_
    refine r_bindI (fun v457 => ?_)
    refine r_istore_n (lv' := [(0, _), (1, _), (2, _)]) X (by decide) rfl dX11_clip_457 ?_
    refine r_goto (tgt := 252) X dX11_clip_458 (by decide) ?_
    refine r_sub [0, 1] rfl ?_
    exact h252 _ _
def fX11_clip_267 (F : Nat) (k252 : ST → Int32 → Option (Int32 × ST)) : Nat → ST → Int32 → Int32 → Int32 → Option (Int32 × ST)
  | 0, _, _, _, _ => none
  | n + 1, S, x1, x2, x3 =>
  if (S.1 0 14) ≤ x3 then
    (fX11_clip_432 F k252 S x1 x2)
  else
    (if (S.1 0 43) = x2 then
      (fX11_clip_286 F k252 (fX11_clip_267 F k252 n) F S x1 x2 x3 (0 : Int32))
    else
      (fX11_clip_432 F k252 S x1 x2))
set_option maxRecDepth 4000 in
theorem gX11_clip_267 {E : CT} (X : Cx E layM cX11_clip RX11 7 none 2) (F : Nat) (k252 : ST → Int32 → Option (Int32 × ST)) (h252 : ∀ (S : ST) (x1 : Int32), G E (k252 S x1) S 252 [(0, .ref (eA E 0)), (1, .int x1)] []) : ∀ (n : Nat) (S : ST) (x1 : Int32) (x2 : Int32) (x3 : Int32), G E (fX11_clip_267 F k252 n S x1 x2 x3) S 267 [(0, .ref (eA E 0)), (1, .int x1), (2, .int x2), (3, .int x3)] []
  | 0, _, _, _, _ => r_none
  | n + 1, S, x1, x2, x3 => by
    have ih := gX11_clip_267 X F k252 h252 n
    unfold fX11_clip_267
    refine r_iload_n X 3 rfl dX11_clip_267 ?_
    refine r_aload_n X 0 rfl dX11_clip_268 ?_
    refine r_getI X fk_X11_278 lm_0 rfl dX11_clip_269 ?_
    refine r_icmp_ge (tgt := 432) X dX11_clip_272 (by decide) (fun _ => ?_) (fun _ => ?_)
    · refine r_sub [0, 1, 2] rfl ?_
      exact gX11_clip_432 X F _ h252 _ _ _
    · refine r_aload_n X 0 rfl dX11_clip_275 ?_
      refine r_getI X fk_X11_300 lm_0 rfl dX11_clip_276 ?_
      refine r_iload_n X 2 rfl dX11_clip_279 ?_
      refine r_icmp_ne (tgt := 432) X dX11_clip_280 (by decide) (fun _ => ?_) (fun _ => ?_)
      · refine r_sub [0, 1, 2] rfl ?_
        exact gX11_clip_432 X F _ h252 _ _ _
      · refine r_iconst (v := 0) X (by decide) dX11_clip_283 ?_
        refine r_istore (lv' := [(0, _), (1, _), (2, _), (3, _), (4, _)]) X (by decide) rfl dX11_clip_284 ?_
        exact gX11_clip_286 X F _ h252 _ ih F _ _ _ _ _
def fX11_clip_252 (F : Nat) : Nat → ST → Int32 → Option (Int32 × ST)
  | 0, _, _ => none
  | n + 1, S, x1 =>
  if (S.1 0 32) ≤ x1 then
    (some ((0 : Int32), S))
  else
    (bindI ((S.1 0 43)) (fun v264 => fX11_clip_267 F (fX11_clip_252 F n) F S x1 v264 (0 : Int32)))
set_option maxRecDepth 4000 in
theorem gX11_clip_252 {E : CT} (X : Cx E layM cX11_clip RX11 7 none 2) (F : Nat) : ∀ (n : Nat) (S : ST) (x1 : Int32), G E (fX11_clip_252 F n S x1) S 252 [(0, .ref (eA E 0)), (1, .int x1)] []
  | 0, _, _ => r_none
  | n + 1, S, x1 => by
    have ih := gX11_clip_252 X F n
    unfold fX11_clip_252
    refine r_iload_n X 1 rfl dX11_clip_252 ?_
    refine r_aload_n X 0 rfl dX11_clip_253 ?_
    refine r_getI X fk_X11_284 lm_0 rfl dX11_clip_254 ?_
    refine r_icmp_ge (tgt := 461) X dX11_clip_257 (by decide) (fun _ => ?_) (fun _ => ?_)
    · exact r_vret X dX11_clip_461
    · refine r_aload_n X 0 rfl dX11_clip_260 ?_
      refine r_getI X fk_X11_300 lm_0 rfl dX11_clip_261 ?_
      refine r_bindI (fun v264 => ?_)
      refine r_istore_n (lv' := [(0, _), (1, _), (2, _)]) X (by decide) rfl dX11_clip_264 ?_
      refine r_iconst (v := 0) X (by decide) dX11_clip_265 ?_
      refine r_istore_n (lv' := [(0, _), (1, _), (2, _), (3, _)]) X (by decide) rfl dX11_clip_266 ?_
      exact gX11_clip_267 X F _ ih F _ _ _ _
def fX11_clip_27 (F : Nat) : Nat → ST → Int32 → Option (Int32 × ST)
  | 0, _, _ => none
  | n + 1, S, x1 =>
  if x1 < 0 then
    (bindS (us S 0 43 (0 : Int32)) (fun S247 => fX11_clip_252 F F S247 (0 : Int32)))
  else
    ((if vin (x1 + (1 : Int32)) 301 = true then (if vin x1 301 = true then bindS (us S 17 (ix x1) (S.1 17 (ix (x1 + (1 : Int32))))) (fun S44 => (if vin (x1 + (1 : Int32)) 301 = true then (if vin x1 301 = true then bindS (us S44 18 (ix x1) (S44.1 18 (ix (x1 + (1 : Int32))))) (fun S58 => fX11_clip_61 F (fX11_clip_27 F n) F S58 x1 (0 : Int32)) else none) else none)) else none) else none))
set_option maxRecDepth 4000 in
theorem gX11_clip_27 {E : CT} (X : Cx E layM cX11_clip RX11 7 none 2) (F : Nat) : ∀ (n : Nat) (S : ST) (x1 : Int32), G E (fX11_clip_27 F n S x1) S 27 [(0, .ref (eA E 0)), (1, .int x1)] []
  | 0, _, _ => r_none
  | n + 1, S, x1 => by
    have ih := gX11_clip_27 X F n
    unfold fX11_clip_27
    refine r_iload_n X 1 rfl dX11_clip_27 ?_
    refine r_if_lt (tgt := 245) X dX11_clip_28 (by decide) (fun _ => ?_) (fun _ => ?_)
    · refine r_aload_n X 0 rfl dX11_clip_245 ?_
      refine r_iconst (v := 0) X (by decide) dX11_clip_246 ?_
      refine r_putI X pk_X11_300 lm_0 rfl dX11_clip_247 ?_
      refine r_bindS (fun S247 => ?_)
      refine r_iconst (v := 0) X (by decide) dX11_clip_250 ?_
      refine r_istore_n (lv' := [(0, _), (1, _)]) X (by decide) rfl dX11_clip_251 ?_
      exact gX11_clip_252 X F F _ _
    · refine r_aload_n X 0 rfl dX11_clip_31 ?_
      refine r_getR X fk_X11_65 lm_0 rfl dX11_clip_32 ?_
      refine r_iload_n X 1 rfl dX11_clip_35 ?_
      refine r_aload_n X 0 rfl dX11_clip_36 ?_
      refine r_getR X fk_X11_65 lm_0 rfl dX11_clip_37 ?_
      refine r_iload_n X 1 rfl dX11_clip_40 ?_
      refine r_iconst (v := 1) X (by decide) dX11_clip_41 ?_
      refine r_iadd X dX11_clip_42 ?_
      refine r_iald X lm_17 dX11_clip_43 (fun _ => ?_)
      refine r_iast X lm_17 dX11_clip_44 (fun _ => ?_)
      refine r_bindS (fun S44 => ?_)
      refine r_aload_n X 0 rfl dX11_clip_45 ?_
      refine r_getR X fk_X11_68 lm_0 rfl dX11_clip_46 ?_
      refine r_iload_n X 1 rfl dX11_clip_49 ?_
      refine r_aload_n X 0 rfl dX11_clip_50 ?_
      refine r_getR X fk_X11_68 lm_0 rfl dX11_clip_51 ?_
      refine r_iload_n X 1 rfl dX11_clip_54 ?_
      refine r_iconst (v := 1) X (by decide) dX11_clip_55 ?_
      refine r_iadd X dX11_clip_56 ?_
      refine r_iald X lm_18 dX11_clip_57 (fun _ => ?_)
      refine r_iast X lm_18 dX11_clip_58 (fun _ => ?_)
      refine r_bindS (fun S58 => ?_)
      refine r_iconst (v := 0) X (by decide) dX11_clip_59 ?_
      refine r_istore_n (lv' := [(0, _), (1, _), (2, _)]) X (by decide) rfl dX11_clip_60 ?_
      exact gX11_clip_61 X F _ ih F _ _ _
def fX11_clip (F : Nat) (S : ST) : Option (Int32 × ST) :=
  (if vin (S.1 0 32) 301 = true then bindS (us S 17 (ix (S.1 0 32)) (0 : Int32)) (fun S9 => (if vin (S9.1 0 32) 301 = true then bindS (us S9 18 (ix (S9.1 0 32)) (0 : Int32)) (fun S19 => bindI (((S19.1 0 32) - (1 : Int32))) (fun v26 => fX11_clip_27 F F S19 v26)) else none)) else none)
set_option maxRecDepth 4000 in
theorem gX11_clip {E : CT} (X : Cx E layM cX11_clip RX11 7 none 2) (F : Nat) (S : ST) : G E (fX11_clip F S) S 0 [(0, .ref (eA E 0))] [] := by
  unfold fX11_clip
  refine r_aload_n X 0 rfl dX11_clip_0 ?_
  refine r_getR X fk_X11_65 lm_0 rfl dX11_clip_1 ?_
  refine r_aload_n X 0 rfl dX11_clip_4 ?_
  refine r_getI X fk_X11_284 lm_0 rfl dX11_clip_5 ?_
  refine r_iconst (v := 0) X (by decide) dX11_clip_8 ?_
  refine r_iast X lm_17 dX11_clip_9 (fun _ => ?_)
  refine r_bindS (fun S9 => ?_)
  refine r_aload_n X 0 rfl dX11_clip_10 ?_
  refine r_getR X fk_X11_68 lm_0 rfl dX11_clip_11 ?_
  refine r_aload_n X 0 rfl dX11_clip_14 ?_
  refine r_getI X fk_X11_284 lm_0 rfl dX11_clip_15 ?_
  refine r_iconst (v := 0) X (by decide) dX11_clip_18 ?_
  refine r_iast X lm_18 dX11_clip_19 (fun _ => ?_)
  refine r_bindS (fun S19 => ?_)
  refine r_aload_n X 0 rfl dX11_clip_20 ?_
  refine r_getI X fk_X11_284 lm_0 rfl dX11_clip_21 ?_
  refine r_iconst (v := 1) X (by decide) dX11_clip_24 ?_
  refine r_isub X dX11_clip_25 ?_
  refine r_bindI (fun v26 => ?_)
  refine r_istore_n (lv' := [(0, _), (1, _)]) X (by decide) rfl dX11_clip_26 ?_
  exact gX11_clip_27 X F F _ _
theorem mX11_clip (F : Nat) (S : ST) : MetS yX11_clip cX11_clip 7 none 2 layM (fX11_clip F S) S (fun ad => [.ref (ad 0)]) := mk_met (fun ad => [(0, .ref (ad 0))]) (by decide) (fun _ => Nat.le_of_ble_eq_true rfl) (fun _ => rfl) (fun E X => gX11_clip X F S)
