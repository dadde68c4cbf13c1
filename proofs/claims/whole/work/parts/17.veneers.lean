def fX9_layP_38 (F : Nat) (r_lay : ST → Int32 → Int32 → Int32 → Int32 → Int32 → Option (Int32 × ST)) (S : ST) (x2 : Int32) (x4 : Int32) (x5 : Int32) : Option (Int32 × ST) :=
  if x2 < (S.1 10 5) then
    (some ((0 : Int32), S))
  else
    (bindS (us S 10 7 x4) (fun S49 => bindS (us S49 10 8 x5) (fun S55 => some ((0 : Int32), S55))))
set_option maxRecDepth 4000 in
theorem gX9_layP_38 {E : CT} {lv : Nat} (X : Cx E layC cX9_lay RX9 12 none (lv + 1)) (F : Nat) (r_lay : ST → Int32 → Int32 → Int32 → Int32 → Int32 → Option (Int32 × ST)) (h_lay : ∀ (S : ST) (x1 : Int32) (x2 : Int32) (x3 : Int32) (x4 : Int32) (x5 : Int32), MetS yX9_lay cX9_lay 12 none lv layC (r_lay S x1 x2 x3 x4 x5) S (fun ad => [.ref (ad 10), .int x1, .int x2, .int x3, .int x4, .int x5])) (S : ST) (x2 : Int32) (x4 : Int32) (x5 : Int32) : G E (fX9_layP_38 F r_lay S x2 x4 x5) S 38 [(0, .ref (eA E 10)), (2, .int x2), (4, .int x4), (5, .int x5)] [] := by
  unfold fX9_layP_38
  refine r_iload_n X 1 rfl dX9_lay_38 ?_
  refine r_aload_n X 0 rfl dX9_lay_39 ?_
  refine r_getI X fk_X9_45 lc_10 rfl dX9_lay_40 ?_
  refine r_icmp_lt (tgt := 58) X dX9_lay_43 (by decide) (fun _ => ?_) (fun _ => ?_)
  · exact r_vret X dX9_lay_58
  · refine r_aload_n X 0 rfl dX9_lay_46 ?_
    refine r_iload X 2 rfl dX9_lay_47 ?_
    refine r_putI X pk_X9_51 lc_10 rfl dX9_lay_49 ?_
    refine r_bindS (fun S49 => ?_)
    refine r_aload_n X 0 rfl dX9_lay_52 ?_
    refine r_iload X 3 rfl dX9_lay_53 ?_
    refine r_putI X pk_X9_54 lc_10 rfl dX9_lay_55 ?_
    refine r_bindS (fun S55 => ?_)
    exact r_vret X dX9_lay_58
def fX9_layP_99 (F : Nat) (r_lay : ST → Int32 → Int32 → Int32 → Int32 → Int32 → Option (Int32 × ST)) (k75 : ST → Int32 → Int32 → Int32 → Int32 → Int32 → Int32 → Int32 → Option (Int32 × ST)) (S : ST) (x1 : Int32) (x2 : Int32) (x3 : Int32) (x4 : Int32) (x5 : Int32) (x7 : Int32) (x8 : Int32) : Option (Int32 × ST) :=
  bindI (((x5 ||| (x8 <<< (((3 : Int32) * x1) &&& 31))) ||| (x8 <<< (((3 : Int32) * (((S.1 10 4) - (1 : Int32)) - x1)) &&& 31)))) (fun v122 => (if vin x8 6 = true then (if vin x8 6 = true then bindI ((x2 + (x7 * ((S.1 37 (ix x8)) - (S.1 38 (ix x8)))))) (fun v144 => (if vin x8 6 = true then (if vin x8 6 = true then bindI ((x3 + (x7 * ((S.1 37 (ix x8)) + (S.1 38 (ix x8)))))) (fun v166 => (if vin x8 6 = true then (r_lay S (x1 + (1 : Int32)) v144 v166 (x4 + (x7 * (S.1 39 (ix x8)))) v122).bind (fun q191 => k75 q191.2 x1 x2 x3 x4 x5 x7 (x8 + (1 : Int32))) else none)) else none) else none)) else none) else none))
set_option maxRecDepth 4000 in
theorem gX9_layP_99 {E : CT} {lv : Nat} (X : Cx E layC cX9_lay RX9 12 none (lv + 1)) (F : Nat) (r_lay : ST → Int32 → Int32 → Int32 → Int32 → Int32 → Option (Int32 × ST)) (h_lay : ∀ (S : ST) (x1 : Int32) (x2 : Int32) (x3 : Int32) (x4 : Int32) (x5 : Int32), MetS yX9_lay cX9_lay 12 none lv layC (r_lay S x1 x2 x3 x4 x5) S (fun ad => [.ref (ad 10), .int x1, .int x2, .int x3, .int x4, .int x5])) (k75 : ST → Int32 → Int32 → Int32 → Int32 → Int32 → Int32 → Int32 → Option (Int32 × ST)) (h75 : ∀ (S : ST) (x1 : Int32) (x2 : Int32) (x3 : Int32) (x4 : Int32) (x5 : Int32) (x7 : Int32) (x8 : Int32), G E (k75 S x1 x2 x3 x4 x5 x7 x8) S 75 [(0, .ref (eA E 10)), (1, .int x1), (2, .int x2), (3, .int x3), (4, .int x4), (5, .int x5), (7, .int x7), (8, .int x8)] []) (S : ST) (x1 : Int32) (x2 : Int32) (x3 : Int32) (x4 : Int32) (x5 : Int32) (x7 : Int32) (x8 : Int32) : G E (fX9_layP_99 F r_lay k75 S x1 x2 x3 x4 x5 x7 x8) S 99 [(0, .ref (eA E 10)), (1, .int x1), (2, .int x2), (3, .int x3), (4, .int x4), (5, .int x5), (7, .int x7), (8, .int x8)] [] := by
  unfold fX9_layP_99
  refine r_iload X 5 rfl dX9_lay_99 ?_
  refine r_iload X 7 rfl dX9_lay_101 ?_
  refine r_iconst (v := 3) X (by decide) dX9_lay_103 ?_
  refine r_iload_n X 1 rfl dX9_lay_104 ?_
  refine r_imul X dX9_lay_105 ?_
  refine r_ishl X dX9_lay_106 ?_
  refine r_ior X dX9_lay_107 ?_
  refine r_iload X 7 rfl dX9_lay_108 ?_
  refine r_iconst (v := 3) X (by decide) dX9_lay_110 ?_
  refine r_aload_n X 0 rfl dX9_lay_111 ?_
  refine r_getI X fk_X9_41 lc_10 rfl dX9_lay_112 ?_
  refine r_iconst (v := 1) X (by decide) dX9_lay_115 ?_
  refine r_isub X dX9_lay_116 ?_
  refine r_iload_n X 1 rfl dX9_lay_117 ?_
  refine r_isub X dX9_lay_118 ?_
  refine r_imul X dX9_lay_119 ?_
  refine r_ishl X dX9_lay_120 ?_
  refine r_ior X dX9_lay_121 ?_
  refine r_bindI (fun v122 => ?_)
  refine r_istore (lv' := [(0, _), (1, _), (2, _), (3, _), (4, _), (5, _), (7, _), (8, _), (9, _)]) X (by decide) rfl dX9_lay_122 ?_
  refine r_iload_n X 2 rfl dX9_lay_124 ?_
  refine r_iload X 6 rfl dX9_lay_125 ?_
  refine r_aload_n X 0 rfl dX9_lay_127 ?_
  refine r_getR X fk_X9_11 lc_10 rfl dX9_lay_128 ?_
  refine r_iload X 7 rfl dX9_lay_131 ?_
  refine r_iald X lc_37 dX9_lay_133 (fun _ => ?_)
  refine r_aload_n X 0 rfl dX9_lay_134 ?_
  refine r_getR X fk_X9_15 lc_10 rfl dX9_lay_135 ?_
  refine r_iload X 7 rfl dX9_lay_138 ?_
  refine r_iald X lc_38 dX9_lay_140 (fun _ => ?_)
  refine r_isub X dX9_lay_141 ?_
  refine r_imul X dX9_lay_142 ?_
  refine r_iadd X dX9_lay_143 ?_
  refine r_bindI (fun v144 => ?_)
  refine r_istore (lv' := [(0, _), (1, _), (2, _), (3, _), (4, _), (5, _), (7, _), (8, _), (9, _), (10, _)]) X (by decide) rfl dX9_lay_144 ?_
  refine r_iload_n X 3 rfl dX9_lay_146 ?_
  refine r_iload X 6 rfl dX9_lay_147 ?_
  refine r_aload_n X 0 rfl dX9_lay_149 ?_
  refine r_getR X fk_X9_11 lc_10 rfl dX9_lay_150 ?_
  refine r_iload X 7 rfl dX9_lay_153 ?_
  refine r_iald X lc_37 dX9_lay_155 (fun _ => ?_)
  refine r_aload_n X 0 rfl dX9_lay_156 ?_
  refine r_getR X fk_X9_15 lc_10 rfl dX9_lay_157 ?_
  refine r_iload X 7 rfl dX9_lay_160 ?_
  refine r_iald X lc_38 dX9_lay_162 (fun _ => ?_)
  refine r_iadd X dX9_lay_163 ?_
  refine r_imul X dX9_lay_164 ?_
  refine r_iadd X dX9_lay_165 ?_
  refine r_bindI (fun v166 => ?_)
  refine r_istore (lv' := [(0, _), (1, _), (2, _), (3, _), (4, _), (5, _), (7, _), (8, _), (9, _), (10, _), (11, _)]) X (by decide) rfl dX9_lay_166 ?_
  refine r_aload_n X 0 rfl dX9_lay_168 ?_
  refine r_iload_n X 1 rfl dX9_lay_169 ?_
  refine r_iconst (v := 1) X (by decide) dX9_lay_170 ?_
  refine r_iadd X dX9_lay_171 ?_
  refine r_iload X 9 rfl dX9_lay_172 ?_
  refine r_iload X 10 rfl dX9_lay_174 ?_
  refine r_iload X 4 rfl dX9_lay_176 ?_
  refine r_iload X 6 rfl dX9_lay_178 ?_
  refine r_aload_n X 0 rfl dX9_lay_180 ?_
  refine r_getR X fk_X9_18 lc_10 rfl dX9_lay_181 ?_
  refine r_iload X 7 rfl dX9_lay_184 ?_
  refine r_iald X lc_39 dX9_lay_186 (fun _ => ?_)
  refine r_imul X dX9_lay_187 ?_
  refine r_iadd X dX9_lay_188 ?_
  refine r_iload X 8 rfl dX9_lay_189 ?_
  refine r_callVv X (h_lay _ _ _ _ _ _) mk_X9_lay lk_X9_57 lc_10 rfl rfl (by omega) (by decide) (Nat.le_of_ble_eq_true rfl) rfl dX9_lay_191 (fun q191 _ => ?_)
  refine r_iinc (lv' := [(0, _), (1, _), (2, _), (3, _), (4, _), (5, _), (7, _), (8, _), (9, _), (10, _), (11, _)]) (dl := 1) X 7 rfl (by decide) (by decide) rfl dX9_lay_194 ?_
  refine r_goto (tgt := 75) X dX9_lay_197 (by decide) ?_
  refine r_sub [0, 1, 2, 3, 4, 5, 6, 7] rfl ?_
  exact h75 _ _ _ _ _ _ _ _
def fX9_layP_75 (F : Nat) (r_lay : ST → Int32 → Int32 → Int32 → Int32 → Int32 → Option (Int32 × ST)) : Nat → ST → Int32 → Int32 → Int32 → Int32 → Int32 → Int32 → Int32 → Option (Int32 × ST)
  | 0, _, _, _, _, _, _, _, _ => none
  | n + 1, S, x1, x2, x3, x4, x5, x7, x8 =>
  if (6 : Int32) ≤ x8 then
    (some ((0 : Int32), S))
  else
    (if x1 = 0 then
      ((if vin x8 6 = true then if (S.1 40 (ix x8)) = 0 then
        (fX9_layP_75 F r_lay n S x1 x2 x3 x4 x5 x7 (x8 + (1 : Int32)))
      else
        (fX9_layP_99 F r_lay (fX9_layP_75 F r_lay n) S x1 x2 x3 x4 x5 x7 x8) else none))
    else
      (fX9_layP_99 F r_lay (fX9_layP_75 F r_lay n) S x1 x2 x3 x4 x5 x7 x8))
set_option maxRecDepth 4000 in
theorem gX9_layP_75 {E : CT} {lv : Nat} (X : Cx E layC cX9_lay RX9 12 none (lv + 1)) (F : Nat) (r_lay : ST → Int32 → Int32 → Int32 → Int32 → Int32 → Option (Int32 × ST)) (h_lay : ∀ (S : ST) (x1 : Int32) (x2 : Int32) (x3 : Int32) (x4 : Int32) (x5 : Int32), MetS yX9_lay cX9_lay 12 none lv layC (r_lay S x1 x2 x3 x4 x5) S (fun ad => [.ref (ad 10), .int x1, .int x2, .int x3, .int x4, .int x5])) : ∀ (n : Nat) (S : ST) (x1 : Int32) (x2 : Int32) (x3 : Int32) (x4 : Int32) (x5 : Int32) (x7 : Int32) (x8 : Int32), G E (fX9_layP_75 F r_lay n S x1 x2 x3 x4 x5 x7 x8) S 75 [(0, .ref (eA E 10)), (1, .int x1), (2, .int x2), (3, .int x3), (4, .int x4), (5, .int x5), (7, .int x7), (8, .int x8)] []
  | 0, _, _, _, _, _, _, _, _ => r_none
  | n + 1, S, x1, x2, x3, x4, x5, x7, x8 => by
    have ih := gX9_layP_75 X F r_lay h_lay n
    unfold fX9_layP_75
    refine r_iload X 7 rfl dX9_lay_75 ?_
    refine r_bipush (v := 6) X (by decide) dX9_lay_77 ?_
    refine r_icmp_ge (tgt := 200) X dX9_lay_79 (by decide) (fun _ => ?_) (fun _ => ?_)
    · exact r_vret X dX9_lay_200
    · refine r_iload_n X 1 rfl dX9_lay_82 ?_
      refine r_if_ne (tgt := 99) X dX9_lay_83 (by decide) (fun _ => ?_) (fun _ => ?_)
      · exact gX9_layP_99 X F r_lay h_lay _ ih _ _ _ _ _ _ _ _
      · refine r_aload_n X 0 rfl dX9_lay_86 ?_
        refine r_getR X fk_X9_21 lc_10 rfl dX9_lay_87 ?_
        refine r_iload X 7 rfl dX9_lay_90 ?_
        refine r_zald X lc_40 dX9_lay_92 (fun _ => ?_)
        refine r_if_ne (tgt := 99) X dX9_lay_93 (by decide) (fun _ => ?_) (fun _ => ?_)
        · exact gX9_layP_99 X F r_lay h_lay _ ih _ _ _ _ _ _ _ _
        · refine r_goto (tgt := 194) X dX9_lay_96 (by decide) ?_
          refine r_iinc (lv' := [(0, _), (1, _), (2, _), (3, _), (4, _), (5, _), (7, _), (8, _)]) (dl := 1) X 7 rfl (by decide) (by decide) rfl dX9_lay_194 ?_
          refine r_goto (tgt := 75) X dX9_lay_197 (by decide) ?_
          exact ih _ _ _ _ _ _ _ _
def fX9_layP_70 (F : Nat) (r_lay : ST → Int32 → Int32 → Int32 → Int32 → Int32 → Option (Int32 × ST)) (S : ST) (x1 : Int32) (x2 : Int32) (x3 : Int32) (x4 : Int32) (x5 : Int32) (s0 : Int32) : Option (Int32 × ST) :=
  fX9_layP_75 F r_lay F S x1 x2 x3 x4 x5 s0 (0 : Int32)
set_option maxRecDepth 4000 in
theorem gX9_layP_70 {E : CT} {lv : Nat} (X : Cx E layC cX9_lay RX9 12 none (lv + 1)) (F : Nat) (r_lay : ST → Int32 → Int32 → Int32 → Int32 → Int32 → Option (Int32 × ST)) (h_lay : ∀ (S : ST) (x1 : Int32) (x2 : Int32) (x3 : Int32) (x4 : Int32) (x5 : Int32), MetS yX9_lay cX9_lay 12 none lv layC (r_lay S x1 x2 x3 x4 x5) S (fun ad => [.ref (ad 10), .int x1, .int x2, .int x3, .int x4, .int x5])) (S : ST) (x1 : Int32) (x2 : Int32) (x3 : Int32) (x4 : Int32) (x5 : Int32) (s0 : Int32) : G E (fX9_layP_70 F r_lay S x1 x2 x3 x4 x5 s0) S 70 [(0, .ref (eA E 10)), (1, .int x1), (2, .int x2), (3, .int x3), (4, .int x4), (5, .int x5)] [.int s0] := by
  unfold fX9_layP_70
  refine r_istore (lv' := [(0, _), (1, _), (2, _), (3, _), (4, _), (5, _), (7, _)]) X (by decide) rfl dX9_lay_70 ?_
  refine r_iconst (v := 0) X (by decide) dX9_lay_72 ?_
  refine r_istore (lv' := [(0, _), (1, _), (2, _), (3, _), (4, _), (5, _), (7, _), (8, _)]) X (by decide) rfl dX9_lay_73 ?_
  exact gX9_layP_75 X F r_lay h_lay F _ _ _ _ _ _ _ _
def fX9_layP (F : Nat) (r_lay : ST → Int32 → Int32 → Int32 → Int32 → Int32 → Option (Int32 × ST)) (S : ST) (x1 : Int32) (x2 : Int32) (x3 : Int32) (x4 : Int32) (x5 : Int32) : Option (Int32 × ST) :=
  if (S.1 10 7) ≤ x4 then
    (some ((0 : Int32), S))
  else
    (if x3 ≤ (S.1 10 6) then
      (bindI (((S.1 10 4) / (2 : Int32))) (fun v24 => if v24 < x1 then
        (fX9_layP_38 F r_lay S x2 x4 x5)
      else
        (if x1 < (9 : Int32) then
          (if x1 = v24 then
            (fX9_layP_70 F r_lay S x1 x2 x3 x4 x5 (1 : Int32))
          else
            (fX9_layP_70 F r_lay S x1 x2 x3 x4 x5 (2 : Int32)))
        else
          (fX9_layP_38 F r_lay S x2 x4 x5))))
    else
      (some ((0 : Int32), S)))
set_option maxRecDepth 4000 in
theorem gX9_layP {E : CT} {lv : Nat} (X : Cx E layC cX9_lay RX9 12 none (lv + 1)) (F : Nat) (r_lay : ST → Int32 → Int32 → Int32 → Int32 → Int32 → Option (Int32 × ST)) (h_lay : ∀ (S : ST) (x1 : Int32) (x2 : Int32) (x3 : Int32) (x4 : Int32) (x5 : Int32), MetS yX9_lay cX9_lay 12 none lv layC (r_lay S x1 x2 x3 x4 x5) S (fun ad => [.ref (ad 10), .int x1, .int x2, .int x3, .int x4, .int x5])) (S : ST) (x1 : Int32) (x2 : Int32) (x3 : Int32) (x4 : Int32) (x5 : Int32) : G E (fX9_layP F r_lay S x1 x2 x3 x4 x5) S 0 [(0, .ref (eA E 10)), (1, .int x1), (2, .int x2), (3, .int x3), (4, .int x4), (5, .int x5)] [] := by
  unfold fX9_layP
  refine r_iload X 4 rfl dX9_lay_0 ?_
  refine r_aload_n X 0 rfl dX9_lay_2 ?_
  refine r_getI X fk_X9_51 lc_10 rfl dX9_lay_3 ?_
  refine r_icmp_ge (tgt := 17) X dX9_lay_6 (by decide) (fun _ => ?_) (fun _ => ?_)
  · exact r_vret X dX9_lay_17
  · refine r_iload_n X 3 rfl dX9_lay_9 ?_
    refine r_aload_n X 0 rfl dX9_lay_10 ?_
    refine r_getI X fk_X9_48 lc_10 rfl dX9_lay_11 ?_
    refine r_icmp_le (tgt := 18) X dX9_lay_14 (by decide) (fun _ => ?_) (fun _ => ?_)
    · refine r_aload_n X 0 rfl dX9_lay_18 ?_
      refine r_getI X fk_X9_41 lc_10 rfl dX9_lay_19 ?_
      refine r_iconst (v := 2) X (by decide) dX9_lay_22 ?_
      refine r_idivK X dX9_lay_23 (by decide) ?_
      refine r_bindI (fun v24 => ?_)
      refine r_istore (lv' := [(0, _), (1, _), (2, _), (3, _), (4, _), (5, _), (6, _)]) X (by decide) rfl dX9_lay_24 ?_
      refine r_iload_n X 1 rfl dX9_lay_26 ?_
      refine r_iload X 6 rfl dX9_lay_27 ?_
      refine r_icmp_gt (tgt := 38) X dX9_lay_29 (by decide) (fun _ => ?_) (fun _ => ?_)
      · refine r_sub [0, 2, 4, 5] rfl ?_
        exact gX9_layP_38 X F r_lay h_lay _ _ _ _
      · refine r_iload_n X 1 rfl dX9_lay_32 ?_
        refine r_bipush (v := 9) X (by decide) dX9_lay_33 ?_
        refine r_icmp_lt (tgt := 59) X dX9_lay_35 (by decide) (fun _ => ?_) (fun _ => ?_)
        · refine r_iload_n X 1 rfl dX9_lay_59 ?_
          refine r_iload X 6 rfl dX9_lay_60 ?_
          refine r_icmp_ne (tgt := 69) X dX9_lay_62 (by decide) (fun _ => ?_) (fun _ => ?_)
          · refine r_iconst (v := 2) X (by decide) dX9_lay_69 ?_
            refine r_sub [0, 1, 2, 3, 4, 5] rfl ?_
            exact gX9_layP_70 X F r_lay h_lay _ _ _ _ _ _ _
          · refine r_iconst (v := 1) X (by decide) dX9_lay_65 ?_
            refine r_goto (tgt := 70) X dX9_lay_66 (by decide) ?_
            refine r_sub [0, 1, 2, 3, 4, 5] rfl ?_
            exact gX9_layP_70 X F r_lay h_lay _ _ _ _ _ _ _
        · refine r_sub [0, 2, 4, 5] rfl ?_
          exact gX9_layP_38 X F r_lay h_lay _ _ _ _
    · exact r_vret X dX9_lay_17
theorem mX9_layP {lv : Nat} (F : Nat) (r_lay : ST → Int32 → Int32 → Int32 → Int32 → Int32 → Option (Int32 × ST)) (h_lay : ∀ (S : ST) (x1 : Int32) (x2 : Int32) (x3 : Int32) (x4 : Int32) (x5 : Int32), MetS yX9_lay cX9_lay 12 none lv layC (r_lay S x1 x2 x3 x4 x5) S (fun ad => [.ref (ad 10), .int x1, .int x2, .int x3, .int x4, .int x5])) (S : ST) (x1 : Int32) (x2 : Int32) (x3 : Int32) (x4 : Int32) (x5 : Int32) : MetS yX9_lay cX9_lay 12 none (lv + 1) layC (fX9_layP F r_lay S x1 x2 x3 x4 x5) S (fun ad => [.ref (ad 10), .int x1, .int x2, .int x3, .int x4, .int x5]) := mk_met (fun ad => [(0, .ref (ad 10)), (1, .int x1), (2, .int x2), (3, .int x3), (4, .int x4), (5, .int x5)]) (by decide) (fun _ => Nat.le_of_ble_eq_true rfl) (fun _ => rfl) (fun E X => gX9_layP X F r_lay h_lay S x1 x2 x3 x4 x5)
def fX9_layD (F : Nat) : Nat → ST → Int32 → Int32 → Int32 → Int32 → Int32 → Option (Int32 × ST)
  | 0, _, _, _, _, _, _ => none
  | d + 1, S, x1, x2, x3, x4, x5 => fX9_layP F (fX9_layD F d) S x1 x2 x3 x4 x5
def lvA : Nat → Nat
  | 0 => 0
  | d + 1 => lvA d + 1
theorem mX9_layD (F : Nat) : ∀ (d : Nat) (S : ST) (x1 x2 x3 x4 x5 : Int32), MetS yX9_lay cX9_lay 12 none (lvA d) layC (fX9_layD F d S x1 x2 x3 x4 x5) S (fun ad => [.ref (ad 10), .int x1, .int x2, .int x3, .int x4, .int x5])
  | 0, _, _, _, _, _, _ => fun _ _ _ _ _ _ _ h => by cases h
  | d + 1, S, x1, x2, x3, x4, x5 => mX9_layP F (fX9_layD F d) (mX9_layD F d) S x1 x2 x3 x4 x5
def fX9_lay (F : Nat) (S : ST) (x1 x2 x3 x4 x5 : Int32) : Option (Int32 × ST) := fX9_layD F 8 S x1 x2 x3 x4 x5
theorem mX9_lay (F : Nat) (S : ST) (x1 x2 x3 x4 x5 : Int32) : MetS yX9_lay cX9_lay 12 none 8 layC (fX9_lay F S x1 x2 x3 x4 x5) S (fun ad => [.ref (ad 10), .int x1, .int x2, .int x3, .int x4, .int x5]) := mX9_layD F 8 S x1 x2 x3 x4 x5
def fX9_cheapest (F : Nat) (S : ST) (x1 : Int32) (x2 : Int32) (x3 : Int32) : Option (Int32 × ST) :=
  bindS (us S 10 4 x1) (fun S2 => bindS (us S2 10 5 x2) (fun S7 => bindS (us S7 10 6 x3) (fun S12 => bindS (us S12 10 7 (9001 : Int32)) (fun S19 => bindS (us S19 10 8 (-1 : Int32)) (fun S24 => (fX9_lay F S24 (0 : Int32) (0 : Int32) (0 : Int32) (0 : Int32) (0 : Int32)).bind (fun q33 => some ((q33.2.1 10 8), q33.2)))))))
set_option maxRecDepth 4000 in
theorem gX9_cheapest {E : CT} (X : Cx E layC cX9_cheapest RX9 4 (some .int) 9) (F : Nat) (S : ST) (x1 : Int32) (x2 : Int32) (x3 : Int32) : G E (fX9_cheapest F S x1 x2 x3) S 0 [(0, .ref (eA E 10)), (1, .int x1), (2, .int x2), (3, .int x3)] [] := by
  unfold fX9_cheapest
  refine r_aload_n X 0 rfl dX9_cheapest_0 ?_
  refine r_iload_n X 1 rfl dX9_cheapest_1 ?_
  refine r_putI X pk_X9_41 lc_10 rfl dX9_cheapest_2 ?_
  refine r_bindS (fun S2 => ?_)
  refine r_aload_n X 0 rfl dX9_cheapest_5 ?_
  refine r_iload_n X 2 rfl dX9_cheapest_6 ?_
  refine r_putI X pk_X9_45 lc_10 rfl dX9_cheapest_7 ?_
  refine r_bindS (fun S7 => ?_)
  refine r_aload_n X 0 rfl dX9_cheapest_10 ?_
  refine r_iload_n X 3 rfl dX9_cheapest_11 ?_
  refine r_putI X pk_X9_48 lc_10 rfl dX9_cheapest_12 ?_
  refine r_bindS (fun S12 => ?_)
  refine r_aload_n X 0 rfl dX9_cheapest_15 ?_
  refine r_sipush (v := 9001) X (by decide) dX9_cheapest_16 ?_
  refine r_putI X pk_X9_51 lc_10 rfl dX9_cheapest_19 ?_
  refine r_bindS (fun S19 => ?_)
  refine r_aload_n X 0 rfl dX9_cheapest_22 ?_
  refine r_iconst (v := -1) X (by decide) dX9_cheapest_23 ?_
  refine r_putI X pk_X9_54 lc_10 rfl dX9_cheapest_24 ?_
  refine r_bindS (fun S24 => ?_)
  refine r_aload_n X 0 rfl dX9_cheapest_27 ?_
  refine r_iconst (v := 0) X (by decide) dX9_cheapest_28 ?_
  refine r_iconst (v := 0) X (by decide) dX9_cheapest_29 ?_
  refine r_iconst (v := 0) X (by decide) dX9_cheapest_30 ?_
  refine r_iconst (v := 0) X (by decide) dX9_cheapest_31 ?_
  refine r_iconst (v := 0) X (by decide) dX9_cheapest_32 ?_
  refine r_callVv X (mX9_lay _ _ _ _ _ _ _) mk_X9_lay lk_X9_57 lc_10 rfl rfl (by decide) (by decide) (Nat.le_of_ble_eq_true rfl) rfl dX9_cheapest_33 (fun q33 _ => ?_)
  refine r_aload_n X 0 rfl dX9_cheapest_36 ?_
  refine r_getI X fk_X9_54 lc_10 rfl dX9_cheapest_37 ?_
  exact r_iret X dX9_cheapest_40
theorem mX9_cheapest (F : Nat) (S : ST) (x1 : Int32) (x2 : Int32) (x3 : Int32) : MetS yX9_cheapest cX9_cheapest 4 (some .int) 9 layC (fX9_cheapest F S x1 x2 x3) S (fun ad => [.ref (ad 10), .int x1, .int x2, .int x3]) := mk_met (fun ad => [(0, .ref (ad 10)), (1, .int x1), (2, .int x2), (3, .int x3)]) (by decide) (fun _ => Nat.le_of_ble_eq_true rfl) (fun _ => rfl) (fun E X => gX9_cheapest X F S x1 x2 x3)
def fX9_kindAt (F : Nat) (S : ST) (x0 : Int32) (x1 : Int32) : Option (Int32 × ST) :=
  some ((((x0.toUInt32 >>> (((3 : Int32) * x1).toUInt32 &&& Int32.toUInt32 31)).toInt32) &&& (7 : Int32)), S)
set_option maxRecDepth 4000 in
theorem gX9_kindAt {E : CT} (X : Cx E layC cX9_kindAt RX9 2 (some .int) 0) (F : Nat) (S : ST) (x0 : Int32) (x1 : Int32) : G E (fX9_kindAt F S x0 x1) S 0 [(0, .int x0), (1, .int x1)] [] := by
  unfold fX9_kindAt
  refine r_iload_n X 0 rfl dX9_kindAt_0 ?_
  refine r_iconst (v := 3) X (by decide) dX9_kindAt_1 ?_
  refine r_iload_n X 1 rfl dX9_kindAt_2 ?_
  refine r_imul X dX9_kindAt_3 ?_
  refine r_iushr X dX9_kindAt_4 ?_
  refine r_bipush (v := 7) X (by decide) dX9_kindAt_5 ?_
  refine r_iand X dX9_kindAt_7 ?_
  exact r_iret X dX9_kindAt_8
theorem mX9_kindAt (F : Nat) (S : ST) (x0 : Int32) (x1 : Int32) : MetS yX9_kindAt cX9_kindAt 2 (some .int) 0 layC (fX9_kindAt F S x0 x1) S (fun ad => [.int x0, .int x1]) := mk_met (fun ad => [(0, .int x0), (1, .int x1)]) (by decide) (fun _ => Nat.le_of_ble_eq_true rfl) (fun _ => rfl) (fun E X => gX9_kindAt X F S x0 x1)
def fX9_canBe_22 (F : Nat) : Nat → ST → Int32 → Int32 → Int32 → Option (Int32 × ST)
  | 0, _, _, _, _ => none
  | n + 1, S, x0, x1, x2 =>
  if x0 ≤ x2 then
    (some ((1 : Int32), S))
  else
    ((fX9_kindAt F S x1 x2).bind (fun q29 => if q29.1 < (6 : Int32) then
      (fX9_canBe_22 F n q29.2 x0 x1 (x2 + (1 : Int32)))
    else
      (some ((0 : Int32), q29.2))))
set_option maxRecDepth 4000 in
theorem gX9_canBe_22 {E : CT} (X : Cx E layC cX9_canBe RX9 3 (some .boolean) 1) (F : Nat) : ∀ (n : Nat) (S : ST) (x0 : Int32) (x1 : Int32) (x2 : Int32), G E (fX9_canBe_22 F n S x0 x1 x2) S 22 [(0, .int x0), (1, .int x1), (2, .int x2)] []
  | 0, _, _, _, _ => r_none
  | n + 1, S, x0, x1, x2 => by
    have ih := gX9_canBe_22 X F n
    unfold fX9_canBe_22
    refine r_iload_n X 2 rfl dX9_canBe_22 ?_
    refine r_iload_n X 0 rfl dX9_canBe_23 ?_
    refine r_icmp_ge (tgt := 45) X dX9_canBe_24 (by decide) (fun _ => ?_) (fun _ => ?_)
    · refine r_iconst (v := 1) X (by decide) dX9_canBe_45 ?_
      exact r_zret X (by decide) dX9_canBe_46
    · refine r_iload_n X 1 rfl dX9_canBe_27 ?_
      refine r_iload_n X 2 rfl dX9_canBe_28 ?_
      refine r_callS X (mX9_kindAt _ _ _ _) mk_X9_kindAt lk_X9_29 rfl (by decide) (by decide) (Nat.le_of_ble_eq_true rfl) rfl dX9_canBe_29 (fun q29 _ => ?_)
      refine r_bipush (v := 6) X (by decide) dX9_canBe_32 ?_
      refine r_icmp_lt (tgt := 39) X dX9_canBe_34 (by decide) (fun _ => ?_) (fun _ => ?_)
      · refine r_iinc (lv' := [(0, _), (1, _), (2, _)]) (dl := 1) X 2 rfl (by decide) (by decide) rfl dX9_canBe_39 ?_
        refine r_goto (tgt := 22) X dX9_canBe_42 (by decide) ?_
        exact ih _ _ _ _
      · refine r_iconst (v := 0) X (by decide) dX9_canBe_37 ?_
        exact r_zret X (by decide) dX9_canBe_38
def fX9_canBe (F : Nat) (S : ST) (x0 : Int32) (x1 : Int32) : Option (Int32 × ST) :=
  (fX10_within F S x0 (1 : Int32) (9 : Int32)).bind (fun q4 => if q4.1 = 0 then
    (some ((0 : Int32), q4.2))
  else
    (if ((x1.toUInt32 >>> (((3 : Int32) * x0).toUInt32 &&& Int32.toUInt32 31)).toInt32) = 0 then
      (fX9_canBe_22 F F q4.2 x0 x1 (0 : Int32))
    else
      (some ((0 : Int32), q4.2))))
set_option maxRecDepth 4000 in
theorem gX9_canBe {E : CT} (X : Cx E layC cX9_canBe RX9 3 (some .boolean) 1) (F : Nat) (S : ST) (x0 : Int32) (x1 : Int32) : G E (fX9_canBe F S x0 x1) S 0 [(0, .int x0), (1, .int x1)] [] := by
  unfold fX9_canBe
  refine r_iload_n X 0 rfl dX9_canBe_0 ?_
  refine r_iconst (v := 1) X (by decide) dX9_canBe_1 ?_
  refine r_bipush (v := 9) X (by decide) dX9_canBe_2 ?_
  refine r_callS X (mX10_within _ _ _ _ _) mk_X10_within lk_X9_25 rfl (by decide) (by decide) (Nat.le_of_ble_eq_true rfl) rfl dX9_canBe_4 (fun q4 _ => ?_)
  refine r_if_eq (tgt := 18) X dX9_canBe_7 (by decide) (fun _ => ?_) (fun _ => ?_)
  · refine r_iconst (v := 0) X (by decide) dX9_canBe_18 ?_
    exact r_zret X (by decide) dX9_canBe_19
  · refine r_iload_n X 1 rfl dX9_canBe_10 ?_
    refine r_iconst (v := 3) X (by decide) dX9_canBe_11 ?_
    refine r_iload_n X 0 rfl dX9_canBe_12 ?_
    refine r_imul X dX9_canBe_13 ?_
    refine r_iushr X dX9_canBe_14 ?_
    refine r_if_eq (tgt := 20) X dX9_canBe_15 (by decide) (fun _ => ?_) (fun _ => ?_)
    · refine r_iconst (v := 0) X (by decide) dX9_canBe_20 ?_
      refine r_istore_n (lv' := [(0, _), (1, _), (2, _)]) X (by decide) rfl dX9_canBe_21 ?_
      exact gX9_canBe_22 X F F _ _ _ _
    · refine r_iconst (v := 0) X (by decide) dX9_canBe_18 ?_
      exact r_zret X (by decide) dX9_canBe_19
theorem mX9_canBe (F : Nat) (S : ST) (x0 : Int32) (x1 : Int32) : MetS yX9_canBe cX9_canBe 3 (some .boolean) 1 layC (fX9_canBe F S x0 x1) S (fun ad => [.int x0, .int x1]) := mk_met (fun ad => [(0, .int x0), (1, .int x1)]) (by decide) (fun _ => Nat.le_of_ble_eq_true rfl) (fun _ => rfl) (fun E X => gX9_canBe X F S x0 x1)
def fX9_ofKind_16 (F : Nat) (ka0 : Nat) (S : ST) : Option (Int32 × ST) :=
  some ((0 : Int32), S)
set_option maxRecDepth 4000 in
theorem gX9_ofKind_16 {E : CT} (X : Cx E layC cX9_ofKind RX9 2 (some .int) 0) (F : Nat) (ka0 : Nat) (hka0 : layC[ka0]? = some (.inr (false, 6))) (S : ST) : G E (fX9_ofKind_16 F ka0 S) S 16 [] [] := by
  unfold fX9_ofKind_16
  refine r_iconst (v := 0) X (by decide) dX9_ofKind_16 ?_
  exact r_iret X dX9_ofKind_17
def fX9_ofKind (F : Nat) (S : ST) (ka0 : Nat) (x1 : Int32) : Option (Int32 × ST) :=
  if x1 < 0 then
    (fX9_ofKind_16 F ka0 S)
  else
    (if (6 : Int32) ≤ x1 then
      (fX9_ofKind_16 F ka0 S)
    else
      ((if vin x1 6 = true then some ((S.1 ka0 (ix x1)), S) else none)))
set_option maxRecDepth 4000 in
theorem gX9_ofKind {E : CT} (X : Cx E layC cX9_ofKind RX9 2 (some .int) 0) (F : Nat) (S : ST) (ka0 : Nat) (x1 : Int32) (hka0 : layC[ka0]? = some (.inr (false, 6))) : G E (fX9_ofKind F S ka0 x1) S 0 [(0, .ref (eA E ka0)), (1, .int x1)] [] := by
  unfold fX9_ofKind
  refine r_iload_n X 1 rfl dX9_ofKind_0 ?_
  refine r_if_lt (tgt := 16) X dX9_ofKind_1 (by decide) (fun _ => ?_) (fun _ => ?_)
  · refine r_sub [] rfl ?_
    exact gX9_ofKind_16 X F ka0 hka0 _
  · refine r_iload_n X 1 rfl dX9_ofKind_4 ?_
    refine r_aload_n X 0 rfl dX9_ofKind_5 ?_
    refine r_alen (v := 6) X hka0 (by decide) dX9_ofKind_6 ?_
    refine r_icmp_ge (tgt := 16) X dX9_ofKind_7 (by decide) (fun _ => ?_) (fun _ => ?_)
    · refine r_sub [] rfl ?_
      exact gX9_ofKind_16 X F ka0 hka0 _
    · refine r_aload_n X 0 rfl dX9_ofKind_10 ?_
      refine r_iload_n X 1 rfl dX9_ofKind_11 ?_
      refine r_iald X hka0 dX9_ofKind_12 (fun _ => ?_)
      refine r_goto (tgt := 17) X dX9_ofKind_13 (by decide) ?_
      exact r_iret X dX9_ofKind_17
theorem mX9_ofKind (F : Nat) (S : ST) (ka0 : Nat) (x1 : Int32) (hka0 : layC[ka0]? = some (.inr (false, 6))) : MetS yX9_ofKind cX9_ofKind 2 (some .int) 0 layC (fX9_ofKind F S ka0 x1) S (fun ad => [.ref (ad ka0), .int x1]) := mk_met (fun ad => [(0, .ref (ad ka0)), (1, .int x1)]) (by decide) (fun _ => Nat.le_of_ble_eq_true rfl) (fun _ => rfl) (fun E X => gX9_ofKind X F S ka0 x1 hka0)
def fX9_sumOf_5 (F : Nat) (ka0 : Nat) : Nat → ST → Int32 → Int32 → Int32 → Int32 → Option (Int32 × ST)
  | 0, _, _, _, _, _ => none
  | n + 1, S, x1, x2, x3, x4 =>
  if x1 ≤ x4 then
    (some (x3, S))
  else
    ((fX9_kindAt F S x2 x4).bind (fun q16 => (fX9_ofKind F q16.2 ka0 q16.1).bind (fun q19 => bindI ((x3 + q19.1)) (fun v23 => fX9_sumOf_5 F ka0 n q19.2 x1 x2 v23 (x4 + (1 : Int32))))))
set_option maxRecDepth 4000 in
theorem gX9_sumOf_5 {E : CT} (X : Cx E layC cX9_sumOf RX9 5 (some .int) 1) (F : Nat) (ka0 : Nat) (hka0 : layC[ka0]? = some (.inr (false, 6))) : ∀ (n : Nat) (S : ST) (x1 : Int32) (x2 : Int32) (x3 : Int32) (x4 : Int32), G E (fX9_sumOf_5 F ka0 n S x1 x2 x3 x4) S 5 [(0, .ref (eA E ka0)), (1, .int x1), (2, .int x2), (3, .int x3), (4, .int x4)] []
  | 0, _, _, _, _, _ => r_none
  | n + 1, S, x1, x2, x3, x4 => by
    have ih := gX9_sumOf_5 X F ka0 hka0 n
    unfold fX9_sumOf_5
    refine r_iload X 4 rfl dX9_sumOf_5 ?_
    refine r_iload_n X 1 rfl dX9_sumOf_7 ?_
    refine r_icmp_ge (tgt := 30) X dX9_sumOf_8 (by decide) (fun _ => ?_) (fun _ => ?_)
    · refine r_iload_n X 3 rfl dX9_sumOf_30 ?_
      exact r_iret X dX9_sumOf_31
    · refine r_iload_n X 3 rfl dX9_sumOf_11 ?_
      refine r_aload_n X 0 rfl dX9_sumOf_12 ?_
      refine r_iload_n X 2 rfl dX9_sumOf_13 ?_
      refine r_iload X 4 rfl dX9_sumOf_14 ?_
      refine r_callS X (mX9_kindAt _ _ _ _) mk_X9_kindAt lk_X9_29 rfl (by decide) (by decide) (Nat.le_of_ble_eq_true rfl) rfl dX9_sumOf_16 (fun q16 _ => ?_)
      refine r_callS X (mX9_ofKind _ _ _ _ hka0) mk_X9_ofKind lk_X9_33 rfl (by decide) (by decide) (Nat.le_of_ble_eq_true rfl) rfl dX9_sumOf_19 (fun q19 _ => ?_)
      refine r_iadd X dX9_sumOf_22 ?_
      refine r_bindI (fun v23 => ?_)
      refine r_istore_n (lv' := [(0, _), (1, _), (2, _), (3, _), (4, _)]) X (by decide) rfl dX9_sumOf_23 ?_
      refine r_iinc (lv' := [(0, _), (1, _), (2, _), (3, _), (4, _)]) (dl := 1) X 4 rfl (by decide) (by decide) rfl dX9_sumOf_24 ?_
      refine r_goto (tgt := 5) X dX9_sumOf_27 (by decide) ?_
      exact ih _ _ _ _ _
def fX9_sumOf (F : Nat) (S : ST) (ka0 : Nat) (x1 : Int32) (x2 : Int32) : Option (Int32 × ST) :=
  fX9_sumOf_5 F ka0 F S x1 x2 (0 : Int32) (0 : Int32)
set_option maxRecDepth 4000 in
theorem gX9_sumOf {E : CT} (X : Cx E layC cX9_sumOf RX9 5 (some .int) 1) (F : Nat) (S : ST) (ka0 : Nat) (x1 : Int32) (x2 : Int32) (hka0 : layC[ka0]? = some (.inr (false, 6))) : G E (fX9_sumOf F S ka0 x1 x2) S 0 [(0, .ref (eA E ka0)), (1, .int x1), (2, .int x2)] [] := by
  unfold fX9_sumOf
  refine r_iconst (v := 0) X (by decide) dX9_sumOf_0 ?_
  refine r_istore_n (lv' := [(0, _), (1, _), (2, _), (3, _)]) X (by decide) rfl dX9_sumOf_1 ?_
  refine r_iconst (v := 0) X (by decide) dX9_sumOf_2 ?_
  refine r_istore (lv' := [(0, _), (1, _), (2, _), (3, _), (4, _)]) X (by decide) rfl dX9_sumOf_3 ?_
  exact gX9_sumOf_5 X F ka0 hka0 F _ _ _ _ _
theorem mX9_sumOf (F : Nat) (S : ST) (ka0 : Nat) (x1 : Int32) (x2 : Int32) (hka0 : layC[ka0]? = some (.inr (false, 6))) : MetS yX9_sumOf cX9_sumOf 5 (some .int) 1 layC (fX9_sumOf F S ka0 x1 x2) S (fun ad => [.ref (ad ka0), .int x1, .int x2]) := mk_met (fun ad => [(0, .ref (ad ka0)), (1, .int x1), (2, .int x2)]) (by decide) (fun _ => Nat.le_of_ble_eq_true rfl) (fun _ => rfl) (fun E X => gX9_sumOf X F S ka0 x1 x2 hka0)
def fX9_priceOf (F : Nat) (S : ST) (x1 : Int32) (x2 : Int32) : Option (Int32 × ST) :=
  (fX9_sumOf F S 39 x1 x2).bind (fun q6 => some (q6.1, q6.2))
set_option maxRecDepth 4000 in
theorem gX9_priceOf {E : CT} (X : Cx E layC cX9_priceOf RX9 3 (some .int) 2) (F : Nat) (S : ST) (x1 : Int32) (x2 : Int32) : G E (fX9_priceOf F S x1 x2) S 0 [(0, .ref (eA E 10)), (1, .int x1), (2, .int x2)] [] := by
  unfold fX9_priceOf
  refine r_aload_n X 0 rfl dX9_priceOf_0 ?_
  refine r_getR X fk_X9_18 lc_10 rfl dX9_priceOf_1 ?_
  refine r_iload_n X 1 rfl dX9_priceOf_4 ?_
  refine r_iload_n X 2 rfl dX9_priceOf_5 ?_
  refine r_callS X (mX9_sumOf _ _ _ _ _ lc_39) mk_X9_sumOf lk_X9_37 rfl (by decide) (by decide) (Nat.le_of_ble_eq_true rfl) rfl dX9_priceOf_6 (fun q6 _ => ?_)
  exact r_iret X dX9_priceOf_9
theorem mX9_priceOf (F : Nat) (S : ST) (x1 : Int32) (x2 : Int32) : MetS yX9_priceOf cX9_priceOf 3 (some .int) 2 layC (fX9_priceOf F S x1 x2) S (fun ad => [.ref (ad 10), .int x1, .int x2]) := mk_met (fun ad => [(0, .ref (ad 10)), (1, .int x1), (2, .int x2)]) (by decide) (fun _ => Nat.le_of_ble_eq_true rfl) (fun _ => rfl) (fun E X => gX9_priceOf X F S x1 x2)
def fX9_thickOf (F : Nat) (S : ST) (x1 : Int32) (x2 : Int32) : Option (Int32 × ST) :=
  (fX9_sumOf F S 37 x1 x2).bind (fun q6 => (fX9_sumOf F q6.2 38 x1 x2).bind (fun q15 => some ((q6.1 + q15.1), q15.2)))
set_option maxRecDepth 4000 in
theorem gX9_thickOf {E : CT} (X : Cx E layC cX9_thickOf RX9 3 (some .int) 2) (F : Nat) (S : ST) (x1 : Int32) (x2 : Int32) : G E (fX9_thickOf F S x1 x2) S 0 [(0, .ref (eA E 10)), (1, .int x1), (2, .int x2)] [] := by
  unfold fX9_thickOf
  refine r_aload_n X 0 rfl dX9_thickOf_0 ?_
  refine r_getR X fk_X9_11 lc_10 rfl dX9_thickOf_1 ?_
  refine r_iload_n X 1 rfl dX9_thickOf_4 ?_
  refine r_iload_n X 2 rfl dX9_thickOf_5 ?_
  refine r_callS X (mX9_sumOf _ _ _ _ _ lc_37) mk_X9_sumOf lk_X9_37 rfl (by decide) (by decide) (Nat.le_of_ble_eq_true rfl) rfl dX9_thickOf_6 (fun q6 _ => ?_)
  refine r_aload_n X 0 rfl dX9_thickOf_9 ?_
  refine r_getR X fk_X9_15 lc_10 rfl dX9_thickOf_10 ?_
  refine r_iload_n X 1 rfl dX9_thickOf_13 ?_
  refine r_iload_n X 2 rfl dX9_thickOf_14 ?_
  refine r_callS X (mX9_sumOf _ _ _ _ _ lc_38) mk_X9_sumOf lk_X9_37 rfl (by decide) (by decide) (Nat.le_of_ble_eq_true rfl) rfl dX9_thickOf_15 (fun q15 _ => ?_)
  refine r_iadd X dX9_thickOf_18 ?_
  exact r_iret X dX9_thickOf_19
theorem mX9_thickOf (F : Nat) (S : ST) (x1 : Int32) (x2 : Int32) : MetS yX9_thickOf cX9_thickOf 3 (some .int) 2 layC (fX9_thickOf F S x1 x2) S (fun ad => [.ref (ad 10), .int x1, .int x2]) := mk_met (fun ad => [(0, .ref (ad 10)), (1, .int x1), (2, .int x2)]) (by decide) (fun _ => Nat.le_of_ble_eq_true rfl) (fun _ => rfl) (fun E X => gX9_thickOf X F S x1 x2)
def fX9_thinOf (F : Nat) (S : ST) (x1 : Int32) (x2 : Int32) : Option (Int32 × ST) :=
  (fX9_sumOf F S 37 x1 x2).bind (fun q6 => (fX9_sumOf F q6.2 38 x1 x2).bind (fun q15 => some ((q6.1 - q15.1), q15.2)))
set_option maxRecDepth 4000 in
theorem gX9_thinOf {E : CT} (X : Cx E layC cX9_thinOf RX9 3 (some .int) 2) (F : Nat) (S : ST) (x1 : Int32) (x2 : Int32) : G E (fX9_thinOf F S x1 x2) S 0 [(0, .ref (eA E 10)), (1, .int x1), (2, .int x2)] [] := by
  unfold fX9_thinOf
  refine r_aload_n X 0 rfl dX9_thinOf_0 ?_
  refine r_getR X fk_X9_11 lc_10 rfl dX9_thinOf_1 ?_
  refine r_iload_n X 1 rfl dX9_thinOf_4 ?_
  refine r_iload_n X 2 rfl dX9_thinOf_5 ?_
  refine r_callS X (mX9_sumOf _ _ _ _ _ lc_37) mk_X9_sumOf lk_X9_37 rfl (by decide) (by decide) (Nat.le_of_ble_eq_true rfl) rfl dX9_thinOf_6 (fun q6 _ => ?_)
  refine r_aload_n X 0 rfl dX9_thinOf_9 ?_
  refine r_getR X fk_X9_15 lc_10 rfl dX9_thinOf_10 ?_
  refine r_iload_n X 1 rfl dX9_thinOf_13 ?_
  refine r_iload_n X 2 rfl dX9_thinOf_14 ?_
  refine r_callS X (mX9_sumOf _ _ _ _ _ lc_38) mk_X9_sumOf lk_X9_37 rfl (by decide) (by decide) (Nat.le_of_ble_eq_true rfl) rfl dX9_thinOf_15 (fun q15 _ => ?_)
  refine r_isub X dX9_thinOf_18 ?_
  exact r_iret X dX9_thinOf_19
theorem mX9_thinOf (F : Nat) (S : ST) (x1 : Int32) (x2 : Int32) : MetS yX9_thinOf cX9_thinOf 3 (some .int) 2 layC (fX9_thinOf F S x1 x2) S (fun ad => [.ref (ad 10), .int x1, .int x2]) := mk_met (fun ad => [(0, .ref (ad 10)), (1, .int x1), (2, .int x2)]) (by decide) (fun _ => Nat.le_of_ble_eq_true rfl) (fun _ => rfl) (fun E X => gX9_thinOf X F S x1 x2)
def fX9_set (F : Nat) (S : ST) (x1 : Int32) (x2 : Int32) (x3 : Int32) (x4 : Int32) (x5 : Int32) : Option (Int32 × ST) :=
  if x1 < 0 then
    (some ((0 : Int32), S))
  else
    (if x1 < (6 : Int32) then
      ((if vin x1 6 = true then bindS (us S 37 (ix x1) x2) (fun S17 => (if vin x1 6 = true then bindS (us S17 38 (ix x1) x3) (fun S24 => (if vin x1 6 = true then bindS (us S24 39 (ix x1) x4) (fun S32 => (if vin x1 6 = true then bindS (us S32 40 (ix x1) (x5 &&& 1)) (fun S40 => some ((0 : Int32), S40)) else none)) else none)) else none)) else none))
    else
      (some ((0 : Int32), S)))
set_option maxRecDepth 4000 in
theorem gX9_set {E : CT} (X : Cx E layC cX9_set RX9 6 none 0) (F : Nat) (S : ST) (x1 : Int32) (x2 : Int32) (x3 : Int32) (x4 : Int32) (x5 : Int32) : G E (fX9_set F S x1 x2 x3 x4 x5) S 0 [(0, .ref (eA E 10)), (1, .int x1), (2, .int x2), (3, .int x3), (4, .int x4), (5, .int x5)] [] := by
  unfold fX9_set
  refine r_iload_n X 1 rfl dX9_set_0 ?_
  refine r_if_lt (tgt := 10) X dX9_set_1 (by decide) (fun _ => ?_) (fun _ => ?_)
  · exact r_vret X dX9_set_10
  · refine r_iload_n X 1 rfl dX9_set_4 ?_
    refine r_bipush (v := 6) X (by decide) dX9_set_5 ?_
    refine r_icmp_lt (tgt := 11) X dX9_set_7 (by decide) (fun _ => ?_) (fun _ => ?_)
    · refine r_aload_n X 0 rfl dX9_set_11 ?_
      refine r_getR X fk_X9_11 lc_10 rfl dX9_set_12 ?_
      refine r_iload_n X 1 rfl dX9_set_15 ?_
      refine r_iload_n X 2 rfl dX9_set_16 ?_
      refine r_iast X lc_37 dX9_set_17 (fun _ => ?_)
      refine r_bindS (fun S17 => ?_)
      refine r_aload_n X 0 rfl dX9_set_18 ?_
      refine r_getR X fk_X9_15 lc_10 rfl dX9_set_19 ?_
      refine r_iload_n X 1 rfl dX9_set_22 ?_
      refine r_iload_n X 3 rfl dX9_set_23 ?_
      refine r_iast X lc_38 dX9_set_24 (fun _ => ?_)
      refine r_bindS (fun S24 => ?_)
      refine r_aload_n X 0 rfl dX9_set_25 ?_
      refine r_getR X fk_X9_18 lc_10 rfl dX9_set_26 ?_
      refine r_iload_n X 1 rfl dX9_set_29 ?_
      refine r_iload X 4 rfl dX9_set_30 ?_
      refine r_iast X lc_39 dX9_set_32 (fun _ => ?_)
      refine r_bindS (fun S32 => ?_)
      refine r_aload_n X 0 rfl dX9_set_33 ?_
      refine r_getR X fk_X9_21 lc_10 rfl dX9_set_34 ?_
      refine r_iload_n X 1 rfl dX9_set_37 ?_
      refine r_iload X 5 rfl dX9_set_38 ?_
      refine r_zast X lc_40 dX9_set_40 (fun _ => ?_)
      refine r_bindS (fun S40 => ?_)
      exact r_vret X dX9_set_41
    · exact r_vret X dX9_set_10
theorem mX9_set (F : Nat) (S : ST) (x1 : Int32) (x2 : Int32) (x3 : Int32) (x4 : Int32) (x5 : Int32) : MetS yX9_set cX9_set 6 none 0 layC (fX9_set F S x1 x2 x3 x4 x5) S (fun ad => [.ref (ad 10), .int x1, .int x2, .int x3, .int x4, .int x5]) := mk_met (fun ad => [(0, .ref (ad 10)), (1, .int x1), (2, .int x2), (3, .int x3), (4, .int x4), (5, .int x5)]) (by decide) (fun _ => Nat.le_of_ble_eq_true rfl) (fun _ => rfl) (fun E X => gX9_set X F S x1 x2 x3 x4 x5)
def fX9_warpOf_73 (F : Nat) (k19 : ST → Int32 → Int32 → Int32 → Int32 → Int32 → Int32 → Option (Int32 × ST)) (S : ST) (x1 : Int32) (x2 : Int32) (x3 : Int32) (x4 : Int32) (x6 : Int32) (x7 : Int32) (s0 : Int32) (s1 : Int32) : Option (Int32 × ST) :=
  bindI ((s1 + s0)) (fun v74 => bindI ((x3 + x7)) (fun v80 => k19 S x1 x2 v80 x4 v74 (x6 + (1 : Int32))))
set_option maxRecDepth 4000 in
theorem gX9_warpOf_73 {E : CT} (X : Cx E layC cX9_warpOf RX9 9 (some .int) 2) (F : Nat) (k19 : ST → Int32 → Int32 → Int32 → Int32 → Int32 → Int32 → Option (Int32 × ST)) (h19 : ∀ (S : ST) (x1 : Int32) (x2 : Int32) (x3 : Int32) (x4 : Int32) (x5 : Int32) (x6 : Int32), G E (k19 S x1 x2 x3 x4 x5 x6) S 19 [(0, .ref (eA E 10)), (1, .int x1), (2, .int x2), (3, .int x3), (4, .int x4), (5, .int x5), (6, .int x6)] []) (S : ST) (x1 : Int32) (x2 : Int32) (x3 : Int32) (x4 : Int32) (x6 : Int32) (x7 : Int32) (s0 : Int32) (s1 : Int32) : G E (fX9_warpOf_73 F k19 S x1 x2 x3 x4 x6 x7 s0 s1) S 73 [(0, .ref (eA E 10)), (1, .int x1), (2, .int x2), (3, .int x3), (4, .int x4), (6, .int x6), (7, .int x7)] [.int s0, .int s1] := by
  unfold fX9_warpOf_73
  refine r_iadd X dX9_warpOf_73 ?_
  refine r_bindI (fun v74 => ?_)
  refine r_istore (lv' := [(0, _), (1, _), (2, _), (3, _), (4, _), (5, _), (6, _), (7, _)]) X (by decide) rfl dX9_warpOf_74 ?_
  refine r_iload_n X 3 rfl dX9_warpOf_76 ?_
  refine r_iload X 7 rfl dX9_warpOf_77 ?_
  refine r_iadd X dX9_warpOf_79 ?_
  refine r_bindI (fun v80 => ?_)
  refine r_istore_n (lv' := [(0, _), (1, _), (2, _), (3, _), (4, _), (5, _), (6, _), (7, _)]) X (by decide) rfl dX9_warpOf_80 ?_
  refine r_iinc (lv' := [(0, _), (1, _), (2, _), (3, _), (4, _), (5, _), (6, _), (7, _)]) (dl := 1) X 6 rfl (by decide) (by decide) rfl dX9_warpOf_81 ?_
  refine r_goto (tgt := 19) X dX9_warpOf_84 (by decide) ?_
  refine r_sub [0, 1, 2, 3, 4, 5, 6] rfl ?_
  exact h19 _ _ _ _ _ _ _
def fX9_warpOf_19 (F : Nat) : Nat → ST → Int32 → Int32 → Int32 → Int32 → Int32 → Int32 → Option (Int32 × ST)
  | 0, _, _, _, _, _, _, _ => none
  | n + 1, S, x1, x2, x3, x4, x5, x6 =>
  if x1 ≤ x6 then
    (some (x5, S))
  else
    ((fX9_kindAt F S x2 x6).bind (fun q32 => (fX9_ofKind F q32.2 37 q32.1).bind (fun q35 => bindI ((x4 - q35.1)) (fun v45 => bindI ((q35.1 * (x3 - v45))) (fun v54 => if (x6 - x6 / (2 : Int32) * (2 : Int32)) = 0 then
      (fX9_warpOf_73 F (fX9_warpOf_19 F n) q35.2 x1 x2 x3 v45 x6 q35.1 v54 x5)
    else
      (fX9_warpOf_73 F (fX9_warpOf_19 F n) q35.2 x1 x2 x3 v45 x6 q35.1 (-v54) x5))))))
set_option maxRecDepth 4000 in
theorem gX9_warpOf_19 {E : CT} (X : Cx E layC cX9_warpOf RX9 9 (some .int) 2) (F : Nat) : ∀ (n : Nat) (S : ST) (x1 : Int32) (x2 : Int32) (x3 : Int32) (x4 : Int32) (x5 : Int32) (x6 : Int32), G E (fX9_warpOf_19 F n S x1 x2 x3 x4 x5 x6) S 19 [(0, .ref (eA E 10)), (1, .int x1), (2, .int x2), (3, .int x3), (4, .int x4), (5, .int x5), (6, .int x6)] []
  | 0, _, _, _, _, _, _, _ => r_none
  | n + 1, S, x1, x2, x3, x4, x5, x6 => by
    have ih := gX9_warpOf_19 X F n
    unfold fX9_warpOf_19
    refine r_iload X 6 rfl dX9_warpOf_19 ?_
    refine r_iload_n X 1 rfl dX9_warpOf_21 ?_
    refine r_icmp_ge (tgt := 87) X dX9_warpOf_22 (by decide) (fun _ => ?_) (fun _ => ?_)
    · refine r_iload X 5 rfl dX9_warpOf_87 ?_
      exact r_iret X dX9_warpOf_89
    · refine r_aload_n X 0 rfl dX9_warpOf_25 ?_
      refine r_getR X fk_X9_11 lc_10 rfl dX9_warpOf_26 ?_
      refine r_iload_n X 2 rfl dX9_warpOf_29 ?_
      refine r_iload X 6 rfl dX9_warpOf_30 ?_
      refine r_callS X (mX9_kindAt _ _ _ _) mk_X9_kindAt lk_X9_29 rfl (by decide) (by decide) (Nat.le_of_ble_eq_true rfl) rfl dX9_warpOf_32 (fun q32 _ => ?_)
      refine r_callS X (mX9_ofKind _ _ _ _ lc_37) mk_X9_ofKind lk_X9_33 rfl (by decide) (by decide) (Nat.le_of_ble_eq_true rfl) rfl dX9_warpOf_35 (fun q35 _ => ?_)
      refine r_istore (lv' := [(0, _), (1, _), (2, _), (3, _), (4, _), (5, _), (6, _), (7, _)]) X (by decide) rfl dX9_warpOf_38 ?_
      refine r_iload X 4 rfl dX9_warpOf_40 ?_
      refine r_iload X 7 rfl dX9_warpOf_42 ?_
      refine r_isub X dX9_warpOf_44 ?_
      refine r_bindI (fun v45 => ?_)
      refine r_istore (lv' := [(0, _), (1, _), (2, _), (3, _), (4, _), (5, _), (6, _), (7, _)]) X (by decide) rfl dX9_warpOf_45 ?_
      refine r_iload X 7 rfl dX9_warpOf_47 ?_
      refine r_iload_n X 3 rfl dX9_warpOf_49 ?_
      refine r_iload X 4 rfl dX9_warpOf_50 ?_
      refine r_isub X dX9_warpOf_52 ?_
      refine r_imul X dX9_warpOf_53 ?_
      refine r_bindI (fun v54 => ?_)
      refine r_istore (lv' := [(0, _), (1, _), (2, _), (3, _), (4, _), (5, _), (6, _), (7, _), (8, _)]) X (by decide) rfl dX9_warpOf_54 ?_
      refine r_iload X 5 rfl dX9_warpOf_56 ?_
      refine r_iload X 6 rfl dX9_warpOf_58 ?_
      refine r_iconst (v := 2) X (by decide) dX9_warpOf_60 ?_
      refine r_iremK X dX9_warpOf_61 (by decide) ?_
      refine r_if_ne (tgt := 70) X dX9_warpOf_62 (by decide) (fun _ => ?_) (fun _ => ?_)
      · refine r_iload X 8 rfl dX9_warpOf_70 ?_
        refine r_ineg X dX9_warpOf_72 ?_
        refine r_sub [0, 1, 2, 3, 4, 6, 7] rfl ?_
        exact gX9_warpOf_73 X F _ ih _ _ _ _ _ _ _ _ _
      · refine r_iload X 8 rfl dX9_warpOf_65 ?_
        refine r_goto (tgt := 73) X dX9_warpOf_67 (by decide) ?_
        refine r_sub [0, 1, 2, 3, 4, 6, 7] rfl ?_
        exact gX9_warpOf_73 X F _ ih _ _ _ _ _ _ _ _ _
def fX9_warpOf (F : Nat) (S : ST) (x1 : Int32) (x2 : Int32) : Option (Int32 × ST) :=
  (fX9_sumOf F S 37 x1 x2).bind (fun q8 => fX9_warpOf_19 F F q8.2 x1 x2 (0 : Int32) q8.1 (0 : Int32) (0 : Int32))
set_option maxRecDepth 4000 in
theorem gX9_warpOf {E : CT} (X : Cx E layC cX9_warpOf RX9 9 (some .int) 2) (F : Nat) (S : ST) (x1 : Int32) (x2 : Int32) : G E (fX9_warpOf F S x1 x2) S 0 [(0, .ref (eA E 10)), (1, .int x1), (2, .int x2)] [] := by
  unfold fX9_warpOf
  refine r_iconst (v := 0) X (by decide) dX9_warpOf_0 ?_
  refine r_istore_n (lv' := [(0, _), (1, _), (2, _), (3, _)]) X (by decide) rfl dX9_warpOf_1 ?_
  refine r_aload_n X 0 rfl dX9_warpOf_2 ?_
  refine r_getR X fk_X9_11 lc_10 rfl dX9_warpOf_3 ?_
  refine r_iload_n X 1 rfl dX9_warpOf_6 ?_
  refine r_iload_n X 2 rfl dX9_warpOf_7 ?_
  refine r_callS X (mX9_sumOf _ _ _ _ _ lc_37) mk_X9_sumOf lk_X9_37 rfl (by decide) (by decide) (Nat.le_of_ble_eq_true rfl) rfl dX9_warpOf_8 (fun q8 _ => ?_)
  refine r_istore (lv' := [(0, _), (1, _), (2, _), (3, _), (4, _)]) X (by decide) rfl dX9_warpOf_11 ?_
  refine r_iconst (v := 0) X (by decide) dX9_warpOf_13 ?_
  refine r_istore (lv' := [(0, _), (1, _), (2, _), (3, _), (4, _), (5, _)]) X (by decide) rfl dX9_warpOf_14 ?_
  refine r_iconst (v := 0) X (by decide) dX9_warpOf_16 ?_
  refine r_istore (lv' := [(0, _), (1, _), (2, _), (3, _), (4, _), (5, _), (6, _)]) X (by decide) rfl dX9_warpOf_17 ?_
  exact gX9_warpOf_19 X F F _ _ _ _ _ _ _
theorem mX9_warpOf (F : Nat) (S : ST) (x1 : Int32) (x2 : Int32) : MetS yX9_warpOf cX9_warpOf 9 (some .int) 2 layC (fX9_warpOf F S x1 x2) S (fun ad => [.ref (ad 10), .int x1, .int x2]) := mk_met (fun ad => [(0, .ref (ad 10)), (1, .int x1), (2, .int x2)]) (by decide) (fun _ => Nat.le_of_ble_eq_true rfl) (fun _ => rfl) (fun E X => gX9_warpOf X F S x1 x2)
