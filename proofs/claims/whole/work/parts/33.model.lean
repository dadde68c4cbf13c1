def fX11_sheets (F : Nat) (S : ST) : Option (Int32 × ST) :=
  (fX11_clip F S).bind (fun q1 => some ((q1.2.1 0 43), q1.2))
set_option maxRecDepth 4000 in
theorem gX11_sheets {E : CT} (X : Cx E layM cX11_sheets RX11 1 (some .int) 3) (F : Nat) (S : ST) : G E (fX11_sheets F S) S 0 [(0, .ref (eA E 0))] [] := by
  unfold fX11_sheets
  refine r_aload_n X 0 rfl dX11_sheets_0 ?_
  refine r_callVv X (mX11_clip _ _) mk_X11_clip lk_X11_303 lm_0 rfl rfl (by decide) (by decide) (Nat.le_of_ble_eq_true rfl) rfl dX11_sheets_1 (fun q1 _ => ?_)
  refine r_aload_n X 0 rfl dX11_sheets_4 ?_
  refine r_getI X fk_X11_300 lm_0 rfl dX11_sheets_5 ?_
  exact r_iret X dX11_sheets_8
theorem mX11_sheets (F : Nat) (S : ST) : MetS yX11_sheets cX11_sheets 1 (some .int) 3 layM (fX11_sheets F S) S (fun ad => [.ref (ad 0)]) := mk_met (fun ad => [(0, .ref (ad 0))]) (by decide) (fun _ => Nat.le_of_ble_eq_true rfl) (fun _ => rfl) (fun E X => gX11_sheets X F S)
def fX11_veneer (F : Nat) (S : ST) (x1 : Int32) (x2 : Int32) (x3 : Int32) (x4 : Int32) (x5 : Int32) : Option (Int32 × ST) :=
  if x1 < 0 then
    (some ((0 : Int32), S))
  else
    (if (6 : Int32) ≤ x1 then
      (some ((0 : Int32), S))
    else
      (if x2 < (1 : Int32) then
        (some ((0 : Int32), S))
      else
        (if (90 : Int32) < x2 then
          (some ((0 : Int32), S))
        else
          (if x3 < 0 then
            (some ((0 : Int32), S))
          else
            (if (20 : Int32) < x3 then
              (some ((0 : Int32), S))
            else
              (if x2 < x3 then
                (some ((0 : Int32), S))
              else
                (if x4 < 0 then
                  (some ((0 : Int32), S))
                else
                  (if x4 ≤ (1000 : Int32) then
                    ((if vin x1 6 = true then bindS (us S 23 (ix x1) x2) (fun S57 => (if vin x1 6 = true then bindS (us S57 24 (ix x1) x3) (fun S64 => (if vin x1 6 = true then bindS (us S64 25 (ix x1) x4) (fun S72 => (if vin x1 6 = true then bindS (us S72 27 (ix x1) (x5 &&& 1)) (fun S80 => some ((1 : Int32), S80)) else none)) else none)) else none)) else none))
                  else
                    (some ((0 : Int32), S))))))))))
set_option maxRecDepth 4000 in
theorem gX11_veneer {E : CT} (X : Cx E layM cX11_veneer RX11 6 (some .boolean) 0) (F : Nat) (S : ST) (x1 : Int32) (x2 : Int32) (x3 : Int32) (x4 : Int32) (x5 : Int32) : G E (fX11_veneer F S x1 x2 x3 x4 x5) S 0 [(0, .ref (eA E 0)), (1, .int x1), (2, .int x2), (3, .int x3), (4, .int x4), (5, .int x5)] [] := by
  unfold fX11_veneer
  refine r_iload_n X 1 rfl dX11_veneer_0 ?_
  refine r_if_lt (tgt := 49) X dX11_veneer_1 (by decide) (fun _ => ?_) (fun _ => ?_)
  · refine r_iconst (v := 0) X (by decide) dX11_veneer_49 ?_
    exact r_zret X (by decide) dX11_veneer_50
  · refine r_iload_n X 1 rfl dX11_veneer_4 ?_
    refine r_bipush (v := 6) X (by decide) dX11_veneer_5 ?_
    refine r_icmp_ge (tgt := 49) X dX11_veneer_7 (by decide) (fun _ => ?_) (fun _ => ?_)
    · refine r_iconst (v := 0) X (by decide) dX11_veneer_49 ?_
      exact r_zret X (by decide) dX11_veneer_50
    · refine r_iload_n X 2 rfl dX11_veneer_10 ?_
      refine r_iconst (v := 1) X (by decide) dX11_veneer_11 ?_
      refine r_icmp_lt (tgt := 49) X dX11_veneer_12 (by decide) (fun _ => ?_) (fun _ => ?_)
      · refine r_iconst (v := 0) X (by decide) dX11_veneer_49 ?_
        exact r_zret X (by decide) dX11_veneer_50
      · refine r_iload_n X 2 rfl dX11_veneer_15 ?_
        refine r_bipush (v := 90) X (by decide) dX11_veneer_16 ?_
        refine r_icmp_gt (tgt := 49) X dX11_veneer_18 (by decide) (fun _ => ?_) (fun _ => ?_)
        · refine r_iconst (v := 0) X (by decide) dX11_veneer_49 ?_
          exact r_zret X (by decide) dX11_veneer_50
        · refine r_iload_n X 3 rfl dX11_veneer_21 ?_
          refine r_if_lt (tgt := 49) X dX11_veneer_22 (by decide) (fun _ => ?_) (fun _ => ?_)
          · refine r_iconst (v := 0) X (by decide) dX11_veneer_49 ?_
            exact r_zret X (by decide) dX11_veneer_50
          · refine r_iload_n X 3 rfl dX11_veneer_25 ?_
            refine r_bipush (v := 20) X (by decide) dX11_veneer_26 ?_
            refine r_icmp_gt (tgt := 49) X dX11_veneer_28 (by decide) (fun _ => ?_) (fun _ => ?_)
            · refine r_iconst (v := 0) X (by decide) dX11_veneer_49 ?_
              exact r_zret X (by decide) dX11_veneer_50
            · refine r_iload_n X 3 rfl dX11_veneer_31 ?_
              refine r_iload_n X 2 rfl dX11_veneer_32 ?_
              refine r_icmp_gt (tgt := 49) X dX11_veneer_33 (by decide) (fun _ => ?_) (fun _ => ?_)
              · refine r_iconst (v := 0) X (by decide) dX11_veneer_49 ?_
                exact r_zret X (by decide) dX11_veneer_50
              · refine r_iload X 4 rfl dX11_veneer_36 ?_
                refine r_if_lt (tgt := 49) X dX11_veneer_38 (by decide) (fun _ => ?_) (fun _ => ?_)
                · refine r_iconst (v := 0) X (by decide) dX11_veneer_49 ?_
                  exact r_zret X (by decide) dX11_veneer_50
                · refine r_iload X 4 rfl dX11_veneer_41 ?_
                  refine r_sipush (v := 1000) X (by decide) dX11_veneer_43 ?_
                  refine r_icmp_le (tgt := 51) X dX11_veneer_46 (by decide) (fun _ => ?_) (fun _ => ?_)
                  · refine r_aload_n X 0 rfl dX11_veneer_51 ?_
                    refine r_getR X fk_X11_84 lm_0 rfl dX11_veneer_52 ?_
                    refine r_iload_n X 1 rfl dX11_veneer_55 ?_
                    refine r_iload_n X 2 rfl dX11_veneer_56 ?_
                    refine r_iast X lm_23 dX11_veneer_57 (fun _ => ?_)
                    refine r_bindS (fun S57 => ?_)
                    refine r_aload_n X 0 rfl dX11_veneer_58 ?_
                    refine r_getR X fk_X11_87 lm_0 rfl dX11_veneer_59 ?_
                    refine r_iload_n X 1 rfl dX11_veneer_62 ?_
                    refine r_iload_n X 3 rfl dX11_veneer_63 ?_
                    refine r_iast X lm_24 dX11_veneer_64 (fun _ => ?_)
                    refine r_bindS (fun S64 => ?_)
                    refine r_aload_n X 0 rfl dX11_veneer_65 ?_
                    refine r_getR X fk_X11_90 lm_0 rfl dX11_veneer_66 ?_
                    refine r_iload_n X 1 rfl dX11_veneer_69 ?_
                    refine r_iload X 4 rfl dX11_veneer_70 ?_
                    refine r_iast X lm_25 dX11_veneer_72 (fun _ => ?_)
                    refine r_bindS (fun S72 => ?_)
                    refine r_aload_n X 0 rfl dX11_veneer_73 ?_
                    refine r_getR X fk_X11_96 lm_0 rfl dX11_veneer_74 ?_
                    refine r_iload_n X 1 rfl dX11_veneer_77 ?_
                    refine r_iload X 5 rfl dX11_veneer_78 ?_
                    refine r_zast X lm_27 dX11_veneer_80 (fun _ => ?_)
                    refine r_bindS (fun S80 => ?_)
                    refine r_iconst (v := 1) X (by decide) dX11_veneer_81 ?_
                    exact r_zret X (by decide) dX11_veneer_82
                  · refine r_iconst (v := 0) X (by decide) dX11_veneer_49 ?_
                    exact r_zret X (by decide) dX11_veneer_50
theorem mX11_veneer (F : Nat) (S : ST) (x1 : Int32) (x2 : Int32) (x3 : Int32) (x4 : Int32) (x5 : Int32) : MetS yX11_veneer cX11_veneer 6 (some .boolean) 0 layM (fX11_veneer F S x1 x2 x3 x4 x5) S (fun ad => [.ref (ad 0), .int x1, .int x2, .int x3, .int x4, .int x5]) := mk_met (fun ad => [(0, .ref (ad 0)), (1, .int x1), (2, .int x2), (3, .int x3), (4, .int x4), (5, .int x5)]) (by decide) (fun _ => Nat.le_of_ble_eq_true rfl) (fun _ => rfl) (fun E X => gX11_veneer X F S x1 x2 x3 x4 x5)
def fX11_warp_84 (F : Nat) (k18 : ST → Int32 → Int32 → Int32 → Option (Int32 × ST)) (k30 : ST → Int32 → Int32 → Int32 → Int32 → Int32 → Option (Int32 × ST)) (S : ST) (x1 : Int32) (x3 : Int32) (x4 : Int32) (x6 : Int32) (s0 : Int32) (s1 : Int32) : Option (Int32 × ST) :=
  bindI ((s1 + s0)) (fun v85 => k30 S x1 x3 x4 v85 (x6 + (1 : Int32)))
set_option maxRecDepth 4000 in
theorem gX11_warp_84 {E : CT} (X : Cx E layM cX11_warp RX11 7 (some .int) 1) (F : Nat) (k18 : ST → Int32 → Int32 → Int32 → Option (Int32 × ST)) (h18 : ∀ (S : ST) (x1 : Int32) (x3 : Int32) (x4 : Int32), G E (k18 S x1 x3 x4) S 18 [(0, .ref (eA E 0)), (1, .int x1), (3, .int x3), (4, .int x4)] []) (k30 : ST → Int32 → Int32 → Int32 → Int32 → Int32 → Option (Int32 × ST)) (h30 : ∀ (S : ST) (x1 : Int32) (x3 : Int32) (x4 : Int32) (x5 : Int32) (x6 : Int32), G E (k30 S x1 x3 x4 x5 x6) S 30 [(0, .ref (eA E 0)), (1, .int x1), (3, .int x3), (4, .int x4), (5, .int x5), (6, .int x6)] []) (S : ST) (x1 : Int32) (x3 : Int32) (x4 : Int32) (x6 : Int32) (s0 : Int32) (s1 : Int32) : G E (fX11_warp_84 F k18 k30 S x1 x3 x4 x6 s0 s1) S 84 [(0, .ref (eA E 0)), (1, .int x1), (3, .int x3), (4, .int x4), (6, .int x6)] [.int s0, .int s1] := by
  unfold fX11_warp_84
  refine r_iadd X dX11_warp_84 ?_
  refine r_bindI (fun v85 => ?_)
  refine r_istore (lv' := [(0, _), (1, _), (3, _), (4, _), (5, _), (6, _)]) X (by decide) rfl dX11_warp_85 ?_
  refine r_iinc (lv' := [(0, _), (1, _), (3, _), (4, _), (5, _), (6, _)]) (dl := 1) X 5 rfl (by decide) (by decide) rfl dX11_warp_87 ?_
  refine r_goto (tgt := 30) X dX11_warp_90 (by decide) ?_
  exact h30 _ _ _ _ _ _
def fX11_warp_106 (F : Nat) (k18 : ST → Int32 → Int32 → Int32 → Option (Int32 × ST)) (S : ST) (x1 : Int32) (x4 : Int32) (x5 : Int32) (s0 : Int32) (s1 : Int32) : Option (Int32 × ST) :=
  (if vin x4 9 = true then (if vin (S.1 26 (ix x4)) 6 = true then bindI ((s1 + ((s0 * (S.1 23 (ix (S.1 26 (ix x4))))) * x5))) (fun v123 => k18 S x1 v123 (x4 + (1 : Int32))) else none) else none)
set_option maxRecDepth 4000 in
theorem gX11_warp_106 {E : CT} (X : Cx E layM cX11_warp RX11 7 (some .int) 1) (F : Nat) (k18 : ST → Int32 → Int32 → Int32 → Option (Int32 × ST)) (h18 : ∀ (S : ST) (x1 : Int32) (x3 : Int32) (x4 : Int32), G E (k18 S x1 x3 x4) S 18 [(0, .ref (eA E 0)), (1, .int x1), (3, .int x3), (4, .int x4)] []) (S : ST) (x1 : Int32) (x4 : Int32) (x5 : Int32) (s0 : Int32) (s1 : Int32) : G E (fX11_warp_106 F k18 S x1 x4 x5 s0 s1) S 106 [(0, .ref (eA E 0)), (1, .int x1), (4, .int x4), (5, .int x5)] [.int s0, .int s1] := by
  unfold fX11_warp_106
  refine r_aload_n X 0 rfl dX11_warp_106 ?_
  refine r_getR X fk_X11_84 lm_0 rfl dX11_warp_107 ?_
  refine r_aload_n X 0 rfl dX11_warp_110 ?_
  refine r_getR X fk_X11_93 lm_0 rfl dX11_warp_111 ?_
  refine r_iload X 2 rfl dX11_warp_114 ?_
  refine r_iald X lm_26 dX11_warp_116 (fun _ => ?_)
  refine r_iald X lm_23 dX11_warp_117 (fun _ => ?_)
  refine r_imul X dX11_warp_118 ?_
  refine r_iload X 3 rfl dX11_warp_119 ?_
  refine r_imul X dX11_warp_121 ?_
  refine r_iadd X dX11_warp_122 ?_
  refine r_bindI (fun v123 => ?_)
  refine r_istore_n (lv' := [(0, _), (1, _), (3, _), (4, _), (5, _)]) X (by decide) rfl dX11_warp_123 ?_
  refine r_iinc (lv' := [(0, _), (1, _), (3, _), (4, _), (5, _)]) (dl := 1) X 3 rfl (by decide) (by decide) rfl dX11_warp_124 ?_
  refine r_goto (tgt := 18) X dX11_warp_127 (by decide) ?_
  refine r_sub [0, 1, 2, 3] rfl ?_
  exact h18 _ _ _ _
def fX11_warp_30 (F : Nat) (k18 : ST → Int32 → Int32 → Int32 → Option (Int32 × ST)) : Nat → ST → Int32 → Int32 → Int32 → Int32 → Int32 → Option (Int32 × ST)
  | 0, _, _, _, _, _, _ => none
  | n + 1, S, x1, x3, x4, x5, x6 =>
  if x1 ≤ x6 then
    (if (x4 - x4 / (2 : Int32) * (2 : Int32)) = 0 then
      (fX11_warp_106 F k18 S x1 x4 x5 (1 : Int32) x3)
    else
      (fX11_warp_106 F k18 S x1 x4 x5 (-1 : Int32) x3))
  else
    (if x4 ≤ x6 then
      (if x6 ≤ x4 then
        (fX11_warp_84 F k18 (fX11_warp_30 F k18 n) S x1 x3 x4 x6 (0 : Int32) x5)
      else
        ((if vin x6 9 = true then (if vin (S.1 26 (ix x6)) 6 = true then fX11_warp_84 F k18 (fX11_warp_30 F k18 n) S x1 x3 x4 x6 (-(S.1 23 (ix (S.1 26 (ix x6))))) x5 else none) else none)))
    else
      ((if vin x6 9 = true then (if vin (S.1 26 (ix x6)) 6 = true then fX11_warp_84 F k18 (fX11_warp_30 F k18 n) S x1 x3 x4 x6 (S.1 23 (ix (S.1 26 (ix x6)))) x5 else none) else none)))
set_option maxRecDepth 4000 in
theorem gX11_warp_30 {E : CT} (X : Cx E layM cX11_warp RX11 7 (some .int) 1) (F : Nat) (k18 : ST → Int32 → Int32 → Int32 → Option (Int32 × ST)) (h18 : ∀ (S : ST) (x1 : Int32) (x3 : Int32) (x4 : Int32), G E (k18 S x1 x3 x4) S 18 [(0, .ref (eA E 0)), (1, .int x1), (3, .int x3), (4, .int x4)] []) : ∀ (n : Nat) (S : ST) (x1 : Int32) (x3 : Int32) (x4 : Int32) (x5 : Int32) (x6 : Int32), G E (fX11_warp_30 F k18 n S x1 x3 x4 x5 x6) S 30 [(0, .ref (eA E 0)), (1, .int x1), (3, .int x3), (4, .int x4), (5, .int x5), (6, .int x6)] []
  | 0, _, _, _, _, _, _ => r_none
  | n + 1, S, x1, x3, x4, x5, x6 => by
    have ih := gX11_warp_30 X F k18 h18 n
    unfold fX11_warp_30
    refine r_iload X 5 rfl dX11_warp_30 ?_
    refine r_iload_n X 1 rfl dX11_warp_32 ?_
    refine r_icmp_ge (tgt := 93) X dX11_warp_33 (by decide) (fun _ => ?_) (fun _ => ?_)
    · refine r_iload_n X 2 rfl dX11_warp_93 ?_
      refine r_iload X 3 rfl dX11_warp_94 ?_
      refine r_iconst (v := 2) X (by decide) dX11_warp_96 ?_
      refine r_iremK X dX11_warp_97 (by decide) ?_
      refine r_if_ne (tgt := 105) X dX11_warp_98 (by decide) (fun _ => ?_) (fun _ => ?_)
      · refine r_iconst (v := -1) X (by decide) dX11_warp_105 ?_
        refine r_sub [0, 1, 3, 4] rfl ?_
        exact gX11_warp_106 X F _ h18 _ _ _ _ _ _
      · refine r_iconst (v := 1) X (by decide) dX11_warp_101 ?_
        refine r_goto (tgt := 106) X dX11_warp_102 (by decide) ?_
        refine r_sub [0, 1, 3, 4] rfl ?_
        exact gX11_warp_106 X F _ h18 _ _ _ _ _ _
    · refine r_iload X 4 rfl dX11_warp_36 ?_
      refine r_iload X 5 rfl dX11_warp_38 ?_
      refine r_iload X 3 rfl dX11_warp_40 ?_
      refine r_icmp_ge (tgt := 60) X dX11_warp_42 (by decide) (fun _ => ?_) (fun _ => ?_)
      · refine r_iload X 5 rfl dX11_warp_60 ?_
        refine r_iload X 3 rfl dX11_warp_62 ?_
        refine r_icmp_le (tgt := 83) X dX11_warp_64 (by decide) (fun _ => ?_) (fun _ => ?_)
        · refine r_iconst (v := 0) X (by decide) dX11_warp_83 ?_
          refine r_sub [0, 1, 2, 3, 5] rfl ?_
          exact gX11_warp_84 X F _ h18 _ ih _ _ _ _ _ _ _
        · refine r_aload_n X 0 rfl dX11_warp_67 ?_
          refine r_getR X fk_X11_84 lm_0 rfl dX11_warp_68 ?_
          refine r_aload_n X 0 rfl dX11_warp_71 ?_
          refine r_getR X fk_X11_93 lm_0 rfl dX11_warp_72 ?_
          refine r_iload X 5 rfl dX11_warp_75 ?_
          refine r_iald X lm_26 dX11_warp_77 (fun _ => ?_)
          refine r_iald X lm_23 dX11_warp_78 (fun _ => ?_)
          refine r_ineg X dX11_warp_79 ?_
          refine r_goto (tgt := 84) X dX11_warp_80 (by decide) ?_
          refine r_sub [0, 1, 2, 3, 5] rfl ?_
          exact gX11_warp_84 X F _ h18 _ ih _ _ _ _ _ _ _
      · refine r_aload_n X 0 rfl dX11_warp_45 ?_
        refine r_getR X fk_X11_84 lm_0 rfl dX11_warp_46 ?_
        refine r_aload_n X 0 rfl dX11_warp_49 ?_
        refine r_getR X fk_X11_93 lm_0 rfl dX11_warp_50 ?_
        refine r_iload X 5 rfl dX11_warp_53 ?_
        refine r_iald X lm_26 dX11_warp_55 (fun _ => ?_)
        refine r_iald X lm_23 dX11_warp_56 (fun _ => ?_)
        refine r_goto (tgt := 84) X dX11_warp_57 (by decide) ?_
        refine r_sub [0, 1, 2, 3, 5] rfl ?_
        exact gX11_warp_84 X F _ h18 _ ih _ _ _ _ _ _ _
def fX11_warp_18 (F : Nat) : Nat → ST → Int32 → Int32 → Int32 → Option (Int32 × ST)
  | 0, _, _, _, _ => none
  | n + 1, S, x1, x3, x4 =>
  if x1 ≤ x4 then
    (some (x3, S))
  else
    (fX11_warp_30 F (fX11_warp_18 F n) F S x1 x3 x4 (0 : Int32) (0 : Int32))
set_option maxRecDepth 4000 in
theorem gX11_warp_18 {E : CT} (X : Cx E layM cX11_warp RX11 7 (some .int) 1) (F : Nat) : ∀ (n : Nat) (S : ST) (x1 : Int32) (x3 : Int32) (x4 : Int32), G E (fX11_warp_18 F n S x1 x3 x4) S 18 [(0, .ref (eA E 0)), (1, .int x1), (3, .int x3), (4, .int x4)] []
  | 0, _, _, _, _ => r_none
  | n + 1, S, x1, x3, x4 => by
    have ih := gX11_warp_18 X F n
    unfold fX11_warp_18
    refine r_iload X 3 rfl dX11_warp_18 ?_
    refine r_iload_n X 1 rfl dX11_warp_20 ?_
    refine r_icmp_ge (tgt := 130) X dX11_warp_21 (by decide) (fun _ => ?_) (fun _ => ?_)
    · refine r_iload_n X 2 rfl dX11_warp_130 ?_
      exact r_iret X dX11_warp_131
    · refine r_iconst (v := 0) X (by decide) dX11_warp_24 ?_
      refine r_istore (lv' := [(0, _), (1, _), (3, _), (4, _), (5, _)]) X (by decide) rfl dX11_warp_25 ?_
      refine r_iconst (v := 0) X (by decide) dX11_warp_27 ?_
      refine r_istore (lv' := [(0, _), (1, _), (3, _), (4, _), (5, _), (6, _)]) X (by decide) rfl dX11_warp_28 ?_
      exact gX11_warp_30 X F _ ih F _ _ _ _ _ _
def fX11_warp (F : Nat) (S : ST) (x1 : Int32) (x2 : Int32) : Option (Int32 × ST) :=
  (fX11_lays F S x1 x2).bind (fun q3 => if q3.1 = 0 then
    (some ((-2000000 : Int32), q3.2))
  else
    (fX11_warp_18 F F q3.2 x1 (0 : Int32) (0 : Int32)))
set_option maxRecDepth 4000 in
theorem gX11_warp {E : CT} (X : Cx E layM cX11_warp RX11 7 (some .int) 1) (F : Nat) (S : ST) (x1 : Int32) (x2 : Int32) : G E (fX11_warp F S x1 x2) S 0 [(0, .ref (eA E 0)), (1, .int x1), (2, .int x2)] [] := by
  unfold fX11_warp
  refine r_aload_n X 0 rfl dX11_warp_0 ?_
  refine r_iload_n X 1 rfl dX11_warp_1 ?_
  refine r_iload_n X 2 rfl dX11_warp_2 ?_
  refine r_callV X (mX11_lays _ _ _ _) mk_X11_lays lk_X11_306 lm_0 rfl rfl (by decide) (by decide) (Nat.le_of_ble_eq_true rfl) rfl dX11_warp_3 (fun q3 _ => ?_)
  refine r_if_ne (tgt := 13) X dX11_warp_6 (by decide) (fun _ => ?_) (fun _ => ?_)
  · refine r_iconst (v := 0) X (by decide) dX11_warp_13 ?_
    refine r_istore_n (lv' := [(0, _), (1, _), (2, _), (3, _)]) X (by decide) rfl dX11_warp_14 ?_
    refine r_iconst (v := 0) X (by decide) dX11_warp_15 ?_
    refine r_istore (lv' := [(0, _), (1, _), (2, _), (3, _), (4, _)]) X (by decide) rfl dX11_warp_16 ?_
    refine r_sub [0, 1, 3, 4] rfl ?_
    exact gX11_warp_18 X F F _ _ _ _
  · refine r_ldcw X kc_X11_312 dX11_warp_9 ?_
    exact r_iret X dX11_warp_12
theorem mX11_warp (F : Nat) (S : ST) (x1 : Int32) (x2 : Int32) : MetS yX11_warp cX11_warp 7 (some .int) 1 layM (fX11_warp F S x1 x2) S (fun ad => [.ref (ad 0), .int x1, .int x2]) := mk_met (fun ad => [(0, .ref (ad 0)), (1, .int x1), (2, .int x2)]) (by decide) (fun _ => Nat.le_of_ble_eq_true rfl) (fun _ => rfl) (fun E X => gX11_warp X F S x1 x2)
def fX11_worth (F : Nat) (S : ST) : Option (Int32 × ST) :=
  (fX11_clip F S).bind (fun q1 => (if vin (0 : Int32) 301 = true then some ((q1.2.1 17 (ix (0 : Int32))), q1.2) else none))
set_option maxRecDepth 4000 in
theorem gX11_worth {E : CT} (X : Cx E layM cX11_worth RX11 1 (some .int) 3) (F : Nat) (S : ST) : G E (fX11_worth F S) S 0 [(0, .ref (eA E 0))] [] := by
  unfold fX11_worth
  refine r_aload_n X 0 rfl dX11_worth_0 ?_
  refine r_callVv X (mX11_clip _ _) mk_X11_clip lk_X11_303 lm_0 rfl rfl (by decide) (by decide) (Nat.le_of_ble_eq_true rfl) rfl dX11_worth_1 (fun q1 _ => ?_)
  refine r_aload_n X 0 rfl dX11_worth_4 ?_
  refine r_getR X fk_X11_65 lm_0 rfl dX11_worth_5 ?_
  refine r_iconst (v := 0) X (by decide) dX11_worth_8 ?_
  refine r_iald X lm_17 dX11_worth_9 (fun _ => ?_)
  exact r_iret X dX11_worth_10
theorem mX11_worth (F : Nat) (S : ST) : MetS yX11_worth cX11_worth 1 (some .int) 3 layM (fX11_worth F S) S (fun ad => [.ref (ad 0)]) := mk_met (fun ad => [(0, .ref (ad 0))]) (by decide) (fun _ => Nat.le_of_ble_eq_true rfl) (fun _ => rfl) (fun E X => gX11_worth X F S)
