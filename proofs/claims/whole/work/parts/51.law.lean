theorem law_ex {L i : Nat} (h1 : L + 1 ≤ i) (h2 : L ≤ 3072) (h3 : i ≤ 4000) : Int32.ofNat L - 6 < nI i := by
  have e : (nI L - nI 6).toInt = (L : Int) - 6 := pk_sub_toInt (by omega) (by omega)
  have e2 : (nI i).toInt = (i : Int) := nI_toInt (by omega)
  show nI L - nI 6 < nI i
  rw [Int32.lt_iff_toInt_lt, e, e2]
  omega
theorem law_in {L i : Nat} (h2 : L ≤ 3072) (h3 : i ≤ 4000) (h : ¬ Int32.ofNat L - 6 < nI i) : i + 6 ≤ L := by
  have e : (nI L - nI 6).toInt = (L : Int) - 6 := pk_sub_toInt (by omega) (by omega)
  have e2 : (nI i).toInt = (i : Int) := nI_toInt (by omega)
  have h' : ¬ nI L - nI 6 < nI i := h
  rw [Int32.lt_iff_toInt_lt, e, e2] at h'
  omega
theorem law_out {x : Int32} (c0 : ¬ x = 0) (c1 : ¬ x = 1) (c2 : ¬ x = 2) (c3 : ¬ x = 3) (c4 : ¬ x = 4) (c5 : ¬ x = 5) (c6 : ¬ x = 6) (c7 : ¬ x = 7) (c8 : ¬ x = 8) (c9 : ¬ x = 9) (c10 : ¬ x = 10) (c11 : ¬ x = 11) (c12 : ¬ x = 12) (c13 : ¬ x = 13) (c14 : ¬ x = 14) (c15 : ¬ x = 15) (c16 : ¬ x = 16) (c17 : ¬ x = 17) (c18 : ¬ x = 18) (c19 : ¬ x = 19) (c20 : ¬ x = 20) (c21 : ¬ x = 21) (c22 : ¬ x = 22) : x.toInt < 0 ∨ 22 < x.toInt := by
  have a0 := lv_neT c0 (k := 0) (a := 0) rfl
  have a1 := lv_neT c1 (k := 1) (a := 1) rfl
  have a2 := lv_neT c2 (k := 2) (a := 2) rfl
  have a3 := lv_neT c3 (k := 3) (a := 3) rfl
  have a4 := lv_neT c4 (k := 4) (a := 4) rfl
  have a5 := lv_neT c5 (k := 5) (a := 5) rfl
  have a6 := lv_neT c6 (k := 6) (a := 6) rfl
  have a7 := lv_neT c7 (k := 7) (a := 7) rfl
  have a8 := lv_neT c8 (k := 8) (a := 8) rfl
  have a9 := lv_neT c9 (k := 9) (a := 9) rfl
  have a10 := lv_neT c10 (k := 10) (a := 10) rfl
  have a11 := lv_neT c11 (k := 11) (a := 11) rfl
  have a12 := lv_neT c12 (k := 12) (a := 12) rfl
  have a13 := lv_neT c13 (k := 13) (a := 13) rfl
  have a14 := lv_neT c14 (k := 14) (a := 14) rfl
  have a15 := lv_neT c15 (k := 15) (a := 15) rfl
  have a16 := lv_neT c16 (k := 16) (a := 16) rfl
  have a17 := lv_neT c17 (k := 17) (a := 17) rfl
  have a18 := lv_neT c18 (k := 18) (a := 18) rfl
  have a19 := lv_neT c19 (k := 19) (a := 19) rfl
  have a20 := lv_neT c20 (k := 20) (a := 20) rfl
  have a21 := lv_neT c21 (k := 21) (a := 21) rfl
  have a22 := lv_neT c22 (k := 22) (a := 22) rfl
  omega
def FU : Nat := 20000
def Sim (Rel : ST → ST → Prop) (fc fm : ST → Option (Int32 × ST)) : Prop := ∀ SC SM, Rel SC SM → ∃ (r : Int32) (SC2 SM2 : ST), fc SC = some (r, SC2) ∧ fm SM = some (r, SM2) ∧ Rel SC2 SM2
theorem ll_13 : Cond.methodLink RL 13 yX10_net ∈ TG := tg_of 385 (by decide +kernel) rfl
theorem ll_17 : Cond.methodLink RL 17 yX11_net ∈ TG := tg_of 1089 (by decide +kernel) rfl
theorem ll_18 : Cond.methodLink RL 18 yX10_centre ∈ TG := tg_of 397 (by decide +kernel) rfl
theorem ll_22 : Cond.methodLink RL 22 yX11_centre ∈ TG := tg_of 1094 (by decide +kernel) rfl
theorem ll_23 : Cond.methodLink RL 23 yX10_full ∈ TG := tg_of 417 (by decide +kernel) rfl
theorem ll_27 : Cond.methodLink RL 27 yX11_full ∈ TG := tg_of 1110 (by decide +kernel) rfl
theorem ll_28 : Cond.methodLink RL 28 yX10_feed ∈ TG := tg_of 426 (by decide +kernel) rfl
theorem ll_32 : Cond.methodLink RL 32 yX11_feed ∈ TG := tg_of 1114 (by decide +kernel) rfl
theorem ll_33 : Cond.methodLink RL 33 yX10_end ∈ TG := tg_of 438 (by decide +kernel) rfl
theorem ll_36 : Cond.methodLink RL 36 yX11_end ∈ TG := tg_of 1122 (by decide +kernel) rfl
theorem ll_37 : Cond.methodLink RL 37 yX10_grades ∈ TG := tg_of 446 (by decide +kernel) rfl
theorem ll_41 : Cond.methodLink RL 41 yX11_grades ∈ TG := tg_of 1126 (by decide +kernel) rfl
theorem ll_42 : Cond.methodLink RL 42 yX10_fault ∈ TG := tg_of 621 (by decide +kernel) rfl
theorem ll_45 : Cond.methodLink RL 45 yX11_fault ∈ TG := tg_of 1214 (by decide +kernel) rfl
theorem ll_46 : Cond.methodLink RL 46 yX10_leaf ∈ TG := tg_of 625 (by decide +kernel) rfl
theorem ll_49 : Cond.methodLink RL 49 yX11_leaf ∈ TG := tg_of 1218 (by decide +kernel) rfl
theorem ll_50 : Cond.methodLink RL 50 yX10_patch ∈ TG := tg_of 643 (by decide +kernel) rfl
theorem ll_53 : Cond.methodLink RL 53 yX11_patch ∈ TG := tg_of 1225 (by decide +kernel) rfl
theorem ll_54 : Cond.methodLink RL 54 yX10_sheet ∈ TG := tg_of 651 (by decide +kernel) rfl
theorem ll_58 : Cond.methodLink RL 58 yX11_sheet ∈ TG := tg_of 1229 (by decide +kernel) rfl
theorem ll_59 : Cond.methodLink RL 59 yX10_worth ∈ TG := tg_of 713 (by decide +kernel) rfl
theorem ll_62 : Cond.methodLink RL 62 yX11_worth ∈ TG := tg_of 1241 (by decide +kernel) rfl
theorem ll_63 : Cond.methodLink RL 63 yX10_sheets ∈ TG := tg_of 742 (by decide +kernel) rfl
theorem ll_66 : Cond.methodLink RL 66 yX11_sheets ∈ TG := tg_of 1252 (by decide +kernel) rfl
theorem ll_67 : Cond.methodLink RL 67 yX10_clipped ∈ TG := tg_of 746 (by decide +kernel) rfl
theorem ll_70 : Cond.methodLink RL 70 yX11_clipped ∈ TG := tg_of 1256 (by decide +kernel) rfl
theorem ll_71 : Cond.methodLink RL 71 yX10_veneer ∈ TG := tg_of 754 (by decide +kernel) rfl
theorem ll_75 : Cond.methodLink RL 75 yX11_veneer ∈ TG := tg_of 1260 (by decide +kernel) rfl
theorem ll_76 : Cond.methodLink RL 76 yX10_board ∈ TG := tg_of 763 (by decide +kernel) rfl
theorem ll_79 : Cond.methodLink RL 79 yX11_board ∈ TG := tg_of 1264 (by decide +kernel) rfl
theorem ll_80 : Cond.methodLink RL 80 yX10_warp ∈ TG := tg_of 792 (by decide +kernel) rfl
theorem ll_83 : Cond.methodLink RL 83 yX11_warp ∈ TG := tg_of 1276 (by decide +kernel) rfl
theorem ll_84 : Cond.methodLink RL 84 yX10_best ∈ TG := tg_of 801 (by decide +kernel) rfl
theorem ll_87 : Cond.methodLink RL 87 yX11_best ∈ TG := tg_of 1281 (by decide +kernel) rfl
theorem ll_88 : Cond.methodLink RL 88 yX10_press ∈ TG := tg_of 813 (by decide +kernel) rfl
theorem ll_92 : Cond.methodLink RL 92 yX11_press ∈ TG := tg_of 1285 (by decide +kernel) rfl
theorem ll_93 : Cond.methodLink RL 93 yX10_glue ∈ TG := tg_of 821 (by decide +kernel) rfl
theorem ll_96 : Cond.methodLink RL 96 yX11_glue ∈ TG := tg_of 1289 (by decide +kernel) rfl
theorem ll_97 : Cond.methodLink RL 97 yX10_drop ∈ TG := tg_of 829 (by decide +kernel) rfl
theorem ll_101 : Cond.methodLink RL 101 yX11_drop ∈ TG := tg_of 1293 (by decide +kernel) rfl
theorem ll_102 : Cond.methodLink RL 102 yX10_plan ∈ TG := tg_of 837 (by decide +kernel) rfl
theorem ll_105 : Cond.methodLink RL 105 yX11_plan ∈ TG := tg_of 1297 (by decide +kernel) rfl
theorem ll_106 : Cond.methodLink RL 106 yX10_load ∈ TG := tg_of 887 (by decide +kernel) rfl
theorem ll_109 : Cond.methodLink RL 109 yX11_load ∈ TG := tg_of 1321 (by decide +kernel) rfl
theorem ll_110 : Cond.methodLink RL 110 yX10_about ∈ TG := tg_of 895 (by decide +kernel) rfl
theorem ll_113 : Cond.methodLink RL 113 yX11_about ∈ TG := tg_of 1325 (by decide +kernel) rfl
set_option maxRecDepth 4000 in
theorem case_0 {E : LT} (X : CLw E) {Rel : ST → ST → Prop} (h_net : ∀ (x1 x2 : Int32), Sim Rel (fun S => fX10_net FU S x1 x2) (fun S => fX11_net FU S x1 x2)) {i : Nat} {SC SM : ST} (hR : Rel SC SM) (hin : ∀ k : Nat, k < 6 → vp_in (nI i + nI k) (lL E)) (hsx : ∀ k : Nat, k < 6 → lX E (nI i + nI k).toNatClampNeg = lX E (i + k)) (hnext : ∀ SC2 SM2, Rel SC2 SM2 → GL E SC2 SM2 875 [(0, .ref (lB E)), (1, .ref (lC E 0)), (2, .ref (lM E 0)), (3, .int (nI i))] []) : GL E SC SM 140 [(0, .ref (lB E)), (1, .ref (lC E 0)), (2, .ref (lM E 0)), (3, .int (nI i))] [] := by
  obtain ⟨r, SC2, SM2, hC, hM, hR2⟩ := h_net (lX E (i + 1)) (lX E (i + 2)) SC SM hR
  refine tl_aload_n X 1 rfl dL_law_140 ?_
  refine tl_aload_n X 0 rfl dL_law_141 ?_
  refine tl_iload_n X 3 rfl dL_law_142 ?_
  refine tl_iconst (v := 1) X (by decide) dL_law_143 ?_
  refine tl_iadd X dL_law_144 ?_
  refine tl_sld X (hin 1 (by decide)) (hsx 1 (by decide)) dL_law_145 ?_
  refine tl_aload_n X 0 rfl dL_law_146 ?_
  refine tl_iload_n X 3 rfl dL_law_147 ?_
  refine tl_iconst (v := 2) X (by decide) dL_law_148 ?_
  refine tl_iadd X dL_law_149 ?_
  refine tl_sld X (hin 2 (by decide)) (hsx 2 (by decide)) dL_law_150 ?_
  refine tl_callC X (mX10_net _ _ _ _) mk_X10_net ll_13 hC rfl (by decide) (by decide) (Nat.le_of_ble_eq_true rfl) rfl dL_law_151 ?_
  refine tl_aload_n X 2 rfl dL_law_154 ?_
  refine tl_aload_n X 0 rfl dL_law_155 ?_
  refine tl_iload_n X 3 rfl dL_law_156 ?_
  refine tl_iconst (v := 1) X (by decide) dL_law_157 ?_
  refine tl_iadd X dL_law_158 ?_
  refine tl_sld X (hin 1 (by decide)) (hsx 1 (by decide)) dL_law_159 ?_
  refine tl_aload_n X 0 rfl dL_law_160 ?_
  refine tl_iload_n X 3 rfl dL_law_161 ?_
  refine tl_iconst (v := 2) X (by decide) dL_law_162 ?_
  refine tl_iadd X dL_law_163 ?_
  refine tl_sld X (hin 2 (by decide)) (hsx 2 (by decide)) dL_law_164 ?_
  refine tl_callM X (mX11_net _ _ _ _) mk_X11_net ll_17 hM rfl (by decide) (by decide) (Nat.le_of_ble_eq_true rfl) rfl dL_law_165 ?_
  refine tl_eqT (tgt := 875) X dL_law_168 (by decide) rfl ?_
  exact hnext SC2 SM2 hR2
set_option maxRecDepth 4000 in
theorem case_1 {E : LT} (X : CLw E) {Rel : ST → ST → Prop} (h_centre : ∀ (x1 : Int32), Sim Rel (fun S => fX10_centre FU S x1) (fun S => fX11_centre FU S x1)) {i : Nat} {SC SM : ST} (hR : Rel SC SM) (hin : ∀ k : Nat, k < 6 → vp_in (nI i + nI k) (lL E)) (hsx : ∀ k : Nat, k < 6 → lX E (nI i + nI k).toNatClampNeg = lX E (i + k)) (hnext : ∀ SC2 SM2, Rel SC2 SM2 → GL E SC2 SM2 875 [(0, .ref (lB E)), (1, .ref (lC E 0)), (2, .ref (lM E 0)), (3, .int (nI i))] []) : GL E SC SM 173 [(0, .ref (lB E)), (1, .ref (lC E 0)), (2, .ref (lM E 0)), (3, .int (nI i))] [] := by
  obtain ⟨r, SC2, SM2, hC, hM, hR2⟩ := h_centre (lX E (i + 1)) SC SM hR
  refine tl_aload_n X 1 rfl dL_law_173 ?_
  refine tl_aload_n X 0 rfl dL_law_174 ?_
  refine tl_iload_n X 3 rfl dL_law_175 ?_
  refine tl_iconst (v := 1) X (by decide) dL_law_176 ?_
  refine tl_iadd X dL_law_177 ?_
  refine tl_sld X (hin 1 (by decide)) (hsx 1 (by decide)) dL_law_178 ?_
  refine tl_callC X (mX10_centre _ _ _) mk_X10_centre ll_18 hC rfl (by decide) (by decide) (Nat.le_of_ble_eq_true rfl) rfl dL_law_179 ?_
  refine tl_aload_n X 2 rfl dL_law_182 ?_
  refine tl_aload_n X 0 rfl dL_law_183 ?_
  refine tl_iload_n X 3 rfl dL_law_184 ?_
  refine tl_iconst (v := 1) X (by decide) dL_law_185 ?_
  refine tl_iadd X dL_law_186 ?_
  refine tl_sld X (hin 1 (by decide)) (hsx 1 (by decide)) dL_law_187 ?_
  refine tl_callM X (mX11_centre _ _ _) mk_X11_centre ll_22 hM rfl (by decide) (by decide) (Nat.le_of_ble_eq_true rfl) rfl dL_law_188 ?_
  refine tl_eqT (tgt := 875) X dL_law_191 (by decide) rfl ?_
  exact hnext SC2 SM2 hR2
set_option maxRecDepth 4000 in
theorem case_2 {E : LT} (X : CLw E) {Rel : ST → ST → Prop} (h_full : ∀ (x1 x2 : Int32), Sim Rel (fun S => fX10_full FU S x1 x2) (fun S => fX11_full FU S x1 x2)) {i : Nat} {SC SM : ST} (hR : Rel SC SM) (hin : ∀ k : Nat, k < 6 → vp_in (nI i + nI k) (lL E)) (hsx : ∀ k : Nat, k < 6 → lX E (nI i + nI k).toNatClampNeg = lX E (i + k)) (hnext : ∀ SC2 SM2, Rel SC2 SM2 → GL E SC2 SM2 875 [(0, .ref (lB E)), (1, .ref (lC E 0)), (2, .ref (lM E 0)), (3, .int (nI i))] []) : GL E SC SM 196 [(0, .ref (lB E)), (1, .ref (lC E 0)), (2, .ref (lM E 0)), (3, .int (nI i))] [] := by
  obtain ⟨r, SC2, SM2, hC, hM, hR2⟩ := h_full (lX E (i + 1)) (lX E (i + 2)) SC SM hR
  refine tl_aload_n X 1 rfl dL_law_196 ?_
  refine tl_aload_n X 0 rfl dL_law_197 ?_
  refine tl_iload_n X 3 rfl dL_law_198 ?_
  refine tl_iconst (v := 1) X (by decide) dL_law_199 ?_
  refine tl_iadd X dL_law_200 ?_
  refine tl_sld X (hin 1 (by decide)) (hsx 1 (by decide)) dL_law_201 ?_
  refine tl_aload_n X 0 rfl dL_law_202 ?_
  refine tl_iload_n X 3 rfl dL_law_203 ?_
  refine tl_iconst (v := 2) X (by decide) dL_law_204 ?_
  refine tl_iadd X dL_law_205 ?_
  refine tl_sld X (hin 2 (by decide)) (hsx 2 (by decide)) dL_law_206 ?_
  refine tl_callC X (mX10_full _ _ _ _) mk_X10_full ll_23 hC rfl (by decide) (by decide) (Nat.le_of_ble_eq_true rfl) rfl dL_law_207 ?_
  refine tl_aload_n X 2 rfl dL_law_210 ?_
  refine tl_aload_n X 0 rfl dL_law_211 ?_
  refine tl_iload_n X 3 rfl dL_law_212 ?_
  refine tl_iconst (v := 1) X (by decide) dL_law_213 ?_
  refine tl_iadd X dL_law_214 ?_
  refine tl_sld X (hin 1 (by decide)) (hsx 1 (by decide)) dL_law_215 ?_
  refine tl_aload_n X 0 rfl dL_law_216 ?_
  refine tl_iload_n X 3 rfl dL_law_217 ?_
  refine tl_iconst (v := 2) X (by decide) dL_law_218 ?_
  refine tl_iadd X dL_law_219 ?_
  refine tl_sld X (hin 2 (by decide)) (hsx 2 (by decide)) dL_law_220 ?_
  refine tl_callM X (mX11_full _ _ _ _) mk_X11_full ll_27 hM rfl (by decide) (by decide) (Nat.le_of_ble_eq_true rfl) rfl dL_law_221 ?_
  refine tl_eqT (tgt := 875) X dL_law_224 (by decide) rfl ?_
  exact hnext SC2 SM2 hR2
set_option maxRecDepth 4000 in
theorem case_3 {E : LT} (X : CLw E) {Rel : ST → ST → Prop} (h_feed : ∀ (x1 x2 x3 x4 x5 : Int32), Sim Rel (fun S => fX10_feed FU S x1 x2 x3 x4 x5) (fun S => fX11_feed FU S x1 x2 x3 x4 x5)) {i : Nat} {SC SM : ST} (hR : Rel SC SM) (hin : ∀ k : Nat, k < 6 → vp_in (nI i + nI k) (lL E)) (hsx : ∀ k : Nat, k < 6 → lX E (nI i + nI k).toNatClampNeg = lX E (i + k)) (hnext : ∀ SC2 SM2, Rel SC2 SM2 → GL E SC2 SM2 875 [(0, .ref (lB E)), (1, .ref (lC E 0)), (2, .ref (lM E 0)), (3, .int (nI i))] []) : GL E SC SM 229 [(0, .ref (lB E)), (1, .ref (lC E 0)), (2, .ref (lM E 0)), (3, .int (nI i))] [] := by
  obtain ⟨r, SC2, SM2, hC, hM, hR2⟩ := h_feed (lX E (i + 1)) (lX E (i + 2)) (lX E (i + 3)) (lX E (i + 4)) (lX E (i + 5)) SC SM hR
  refine tl_aload_n X 1 rfl dL_law_229 ?_
  refine tl_aload_n X 0 rfl dL_law_230 ?_
  refine tl_iload_n X 3 rfl dL_law_231 ?_
  refine tl_iconst (v := 1) X (by decide) dL_law_232 ?_
  refine tl_iadd X dL_law_233 ?_
  refine tl_sld X (hin 1 (by decide)) (hsx 1 (by decide)) dL_law_234 ?_
  refine tl_aload_n X 0 rfl dL_law_235 ?_
  refine tl_iload_n X 3 rfl dL_law_236 ?_
  refine tl_iconst (v := 2) X (by decide) dL_law_237 ?_
  refine tl_iadd X dL_law_238 ?_
  refine tl_sld X (hin 2 (by decide)) (hsx 2 (by decide)) dL_law_239 ?_
  refine tl_aload_n X 0 rfl dL_law_240 ?_
  refine tl_iload_n X 3 rfl dL_law_241 ?_
  refine tl_iconst (v := 3) X (by decide) dL_law_242 ?_
  refine tl_iadd X dL_law_243 ?_
  refine tl_sld X (hin 3 (by decide)) (hsx 3 (by decide)) dL_law_244 ?_
  refine tl_aload_n X 0 rfl dL_law_245 ?_
  refine tl_iload_n X 3 rfl dL_law_246 ?_
  refine tl_iconst (v := 4) X (by decide) dL_law_247 ?_
  refine tl_iadd X dL_law_248 ?_
  refine tl_sld X (hin 4 (by decide)) (hsx 4 (by decide)) dL_law_249 ?_
  refine tl_aload_n X 0 rfl dL_law_250 ?_
  refine tl_iload_n X 3 rfl dL_law_251 ?_
  refine tl_iconst (v := 5) X (by decide) dL_law_252 ?_
  refine tl_iadd X dL_law_253 ?_
  refine tl_sld X (hin 5 (by decide)) (hsx 5 (by decide)) dL_law_254 ?_
  refine tl_callC X (mX10_feed _ _ _ _ _ _ _) mk_X10_feed ll_28 hC rfl (by decide) (by decide) (Nat.le_of_ble_eq_true rfl) rfl dL_law_255 ?_
  refine tl_aload_n X 2 rfl dL_law_258 ?_
  refine tl_aload_n X 0 rfl dL_law_259 ?_
  refine tl_iload_n X 3 rfl dL_law_260 ?_
  refine tl_iconst (v := 1) X (by decide) dL_law_261 ?_
  refine tl_iadd X dL_law_262 ?_
  refine tl_sld X (hin 1 (by decide)) (hsx 1 (by decide)) dL_law_263 ?_
  refine tl_aload_n X 0 rfl dL_law_264 ?_
  refine tl_iload_n X 3 rfl dL_law_265 ?_
  refine tl_iconst (v := 2) X (by decide) dL_law_266 ?_
  refine tl_iadd X dL_law_267 ?_
  refine tl_sld X (hin 2 (by decide)) (hsx 2 (by decide)) dL_law_268 ?_
  refine tl_aload_n X 0 rfl dL_law_269 ?_
  refine tl_iload_n X 3 rfl dL_law_270 ?_
  refine tl_iconst (v := 3) X (by decide) dL_law_271 ?_
  refine tl_iadd X dL_law_272 ?_
  refine tl_sld X (hin 3 (by decide)) (hsx 3 (by decide)) dL_law_273 ?_
  refine tl_aload_n X 0 rfl dL_law_274 ?_
  refine tl_iload_n X 3 rfl dL_law_275 ?_
  refine tl_iconst (v := 4) X (by decide) dL_law_276 ?_
  refine tl_iadd X dL_law_277 ?_
  refine tl_sld X (hin 4 (by decide)) (hsx 4 (by decide)) dL_law_278 ?_
  refine tl_aload_n X 0 rfl dL_law_279 ?_
  refine tl_iload_n X 3 rfl dL_law_280 ?_
  refine tl_iconst (v := 5) X (by decide) dL_law_281 ?_
  refine tl_iadd X dL_law_282 ?_
  refine tl_sld X (hin 5 (by decide)) (hsx 5 (by decide)) dL_law_283 ?_
  refine tl_callM X (mX11_feed _ _ _ _ _ _ _) mk_X11_feed ll_32 hM rfl (by decide) (by decide) (Nat.le_of_ble_eq_true rfl) rfl dL_law_284 ?_
  refine tl_eqT (tgt := 875) X dL_law_287 (by decide) rfl ?_
  exact hnext SC2 SM2 hR2
set_option maxRecDepth 4000 in
theorem case_4 {E : LT} (X : CLw E) {Rel : ST → ST → Prop} (h_end : ∀ (x1 : Int32), Sim Rel (fun S => fX10_end FU S x1) (fun S => fX11_end FU S x1)) {i : Nat} {SC SM : ST} (hR : Rel SC SM) (hin : ∀ k : Nat, k < 6 → vp_in (nI i + nI k) (lL E)) (hsx : ∀ k : Nat, k < 6 → lX E (nI i + nI k).toNatClampNeg = lX E (i + k)) (hnext : ∀ SC2 SM2, Rel SC2 SM2 → GL E SC2 SM2 875 [(0, .ref (lB E)), (1, .ref (lC E 0)), (2, .ref (lM E 0)), (3, .int (nI i))] []) : GL E SC SM 292 [(0, .ref (lB E)), (1, .ref (lC E 0)), (2, .ref (lM E 0)), (3, .int (nI i))] [] := by
  obtain ⟨r, SC2, SM2, hC, hM, hR2⟩ := h_end (lX E (i + 1)) SC SM hR
  refine tl_aload_n X 1 rfl dL_law_292 ?_
  refine tl_aload_n X 0 rfl dL_law_293 ?_
  refine tl_iload_n X 3 rfl dL_law_294 ?_
  refine tl_iconst (v := 1) X (by decide) dL_law_295 ?_
  refine tl_iadd X dL_law_296 ?_
  refine tl_sld X (hin 1 (by decide)) (hsx 1 (by decide)) dL_law_297 ?_
  refine tl_callC X (mX10_end _ _ _) mk_X10_end ll_33 hC rfl (by decide) (by decide) (Nat.le_of_ble_eq_true rfl) rfl dL_law_298 ?_
  refine tl_aload_n X 2 rfl dL_law_301 ?_
  refine tl_aload_n X 0 rfl dL_law_302 ?_
  refine tl_iload_n X 3 rfl dL_law_303 ?_
  refine tl_iconst (v := 1) X (by decide) dL_law_304 ?_
  refine tl_iadd X dL_law_305 ?_
  refine tl_sld X (hin 1 (by decide)) (hsx 1 (by decide)) dL_law_306 ?_
  refine tl_callM X (mX11_end _ _ _) mk_X11_end ll_36 hM rfl (by decide) (by decide) (Nat.le_of_ble_eq_true rfl) rfl dL_law_307 ?_
  refine tl_eqT (tgt := 875) X dL_law_310 (by decide) rfl ?_
  exact hnext SC2 SM2 hR2
set_option maxRecDepth 4000 in
theorem case_5 {E : LT} (X : CLw E) {Rel : ST → ST → Prop} (h_grades : Sim Rel (fun S => fX10_grades FU S) (fun S => fX11_grades FU S)) {i : Nat} {SC SM : ST} (hR : Rel SC SM) (hin : ∀ k : Nat, k < 6 → vp_in (nI i + nI k) (lL E)) (hsx : ∀ k : Nat, k < 6 → lX E (nI i + nI k).toNatClampNeg = lX E (i + k)) (hnext : ∀ SC2 SM2, Rel SC2 SM2 → GL E SC2 SM2 875 [(0, .ref (lB E)), (1, .ref (lC E 0)), (2, .ref (lM E 0)), (3, .int (nI i))] []) : GL E SC SM 315 [(0, .ref (lB E)), (1, .ref (lC E 0)), (2, .ref (lM E 0)), (3, .int (nI i))] [] := by
  obtain ⟨r, SC2, SM2, hC, hM, hR2⟩ := h_grades SC SM hR
  refine tl_aload_n X 1 rfl dL_law_315 ?_
  refine tl_callC X (mX10_grades _ _) mk_X10_grades ll_37 hC rfl (by decide) (by decide) (Nat.le_of_ble_eq_true rfl) rfl dL_law_316 ?_
  refine tl_aload_n X 2 rfl dL_law_319 ?_
  refine tl_callM X (mX11_grades _ _) mk_X11_grades ll_41 hM rfl (by decide) (by decide) (Nat.le_of_ble_eq_true rfl) rfl dL_law_320 ?_
  refine tl_eqT (tgt := 875) X dL_law_323 (by decide) rfl ?_
  exact hnext SC2 SM2 hR2
set_option maxRecDepth 4000 in
theorem case_6 {E : LT} (X : CLw E) {Rel : ST → ST → Prop} (h_fault : ∀ (x1 : Int32), Sim Rel (fun S => fX10_fault FU S x1) (fun S => fX11_fault FU S x1)) {i : Nat} {SC SM : ST} (hR : Rel SC SM) (hin : ∀ k : Nat, k < 6 → vp_in (nI i + nI k) (lL E)) (hsx : ∀ k : Nat, k < 6 → lX E (nI i + nI k).toNatClampNeg = lX E (i + k)) (hnext : ∀ SC2 SM2, Rel SC2 SM2 → GL E SC2 SM2 875 [(0, .ref (lB E)), (1, .ref (lC E 0)), (2, .ref (lM E 0)), (3, .int (nI i))] []) : GL E SC SM 328 [(0, .ref (lB E)), (1, .ref (lC E 0)), (2, .ref (lM E 0)), (3, .int (nI i))] [] := by
  obtain ⟨r, SC2, SM2, hC, hM, hR2⟩ := h_fault (lX E (i + 1)) SC SM hR
  refine tl_aload_n X 1 rfl dL_law_328 ?_
  refine tl_aload_n X 0 rfl dL_law_329 ?_
  refine tl_iload_n X 3 rfl dL_law_330 ?_
  refine tl_iconst (v := 1) X (by decide) dL_law_331 ?_
  refine tl_iadd X dL_law_332 ?_
  refine tl_sld X (hin 1 (by decide)) (hsx 1 (by decide)) dL_law_333 ?_
  refine tl_callC X (mX10_fault _ _ _) mk_X10_fault ll_42 hC rfl (by decide) (by decide) (Nat.le_of_ble_eq_true rfl) rfl dL_law_334 ?_
  refine tl_aload_n X 2 rfl dL_law_337 ?_
  refine tl_aload_n X 0 rfl dL_law_338 ?_
  refine tl_iload_n X 3 rfl dL_law_339 ?_
  refine tl_iconst (v := 1) X (by decide) dL_law_340 ?_
  refine tl_iadd X dL_law_341 ?_
  refine tl_sld X (hin 1 (by decide)) (hsx 1 (by decide)) dL_law_342 ?_
  refine tl_callM X (mX11_fault _ _ _) mk_X11_fault ll_45 hM rfl (by decide) (by decide) (Nat.le_of_ble_eq_true rfl) rfl dL_law_343 ?_
  refine tl_eqT (tgt := 875) X dL_law_346 (by decide) rfl ?_
  exact hnext SC2 SM2 hR2
set_option maxRecDepth 4000 in
theorem case_7 {E : LT} (X : CLw E) {Rel : ST → ST → Prop} (h_leaf : Sim Rel (fun S => fX10_leaf FU S) (fun S => fX11_leaf FU S)) {i : Nat} {SC SM : ST} (hR : Rel SC SM) (hin : ∀ k : Nat, k < 6 → vp_in (nI i + nI k) (lL E)) (hsx : ∀ k : Nat, k < 6 → lX E (nI i + nI k).toNatClampNeg = lX E (i + k)) (hnext : ∀ SC2 SM2, Rel SC2 SM2 → GL E SC2 SM2 875 [(0, .ref (lB E)), (1, .ref (lC E 0)), (2, .ref (lM E 0)), (3, .int (nI i))] []) : GL E SC SM 351 [(0, .ref (lB E)), (1, .ref (lC E 0)), (2, .ref (lM E 0)), (3, .int (nI i))] [] := by
  obtain ⟨r, SC2, SM2, hC, hM, hR2⟩ := h_leaf SC SM hR
  refine tl_aload_n X 1 rfl dL_law_351 ?_
  refine tl_callC X (mX10_leaf _ _) mk_X10_leaf ll_46 hC rfl (by decide) (by decide) (Nat.le_of_ble_eq_true rfl) rfl dL_law_352 ?_
  refine tl_aload_n X 2 rfl dL_law_355 ?_
  refine tl_callM X (mX11_leaf _ _) mk_X11_leaf ll_49 hM rfl (by decide) (by decide) (Nat.le_of_ble_eq_true rfl) rfl dL_law_356 ?_
  refine tl_eqT (tgt := 875) X dL_law_359 (by decide) rfl ?_
  exact hnext SC2 SM2 hR2
set_option maxRecDepth 4000 in
theorem case_8 {E : LT} (X : CLw E) {Rel : ST → ST → Prop} (h_patch : ∀ (x1 x2 : Int32), Sim Rel (fun S => fX10_patch FU S x1 x2) (fun S => fX11_patch FU S x1 x2)) {i : Nat} {SC SM : ST} (hR : Rel SC SM) (hin : ∀ k : Nat, k < 6 → vp_in (nI i + nI k) (lL E)) (hsx : ∀ k : Nat, k < 6 → lX E (nI i + nI k).toNatClampNeg = lX E (i + k)) (hnext : ∀ SC2 SM2, Rel SC2 SM2 → GL E SC2 SM2 875 [(0, .ref (lB E)), (1, .ref (lC E 0)), (2, .ref (lM E 0)), (3, .int (nI i))] []) : GL E SC SM 364 [(0, .ref (lB E)), (1, .ref (lC E 0)), (2, .ref (lM E 0)), (3, .int (nI i))] [] := by
  obtain ⟨r, SC2, SM2, hC, hM, hR2⟩ := h_patch (lX E (i + 1)) (lX E (i + 2)) SC SM hR
  refine tl_aload_n X 1 rfl dL_law_364 ?_
  refine tl_aload_n X 0 rfl dL_law_365 ?_
  refine tl_iload_n X 3 rfl dL_law_366 ?_
  refine tl_iconst (v := 1) X (by decide) dL_law_367 ?_
  refine tl_iadd X dL_law_368 ?_
  refine tl_sld X (hin 1 (by decide)) (hsx 1 (by decide)) dL_law_369 ?_
  refine tl_aload_n X 0 rfl dL_law_370 ?_
  refine tl_iload_n X 3 rfl dL_law_371 ?_
  refine tl_iconst (v := 2) X (by decide) dL_law_372 ?_
  refine tl_iadd X dL_law_373 ?_
  refine tl_sld X (hin 2 (by decide)) (hsx 2 (by decide)) dL_law_374 ?_
  refine tl_callC X (mX10_patch _ _ _ _) mk_X10_patch ll_50 hC rfl (by decide) (by decide) (Nat.le_of_ble_eq_true rfl) rfl dL_law_375 ?_
  refine tl_aload_n X 2 rfl dL_law_378 ?_
  refine tl_aload_n X 0 rfl dL_law_379 ?_
  refine tl_iload_n X 3 rfl dL_law_380 ?_
  refine tl_iconst (v := 1) X (by decide) dL_law_381 ?_
  refine tl_iadd X dL_law_382 ?_
  refine tl_sld X (hin 1 (by decide)) (hsx 1 (by decide)) dL_law_383 ?_
  refine tl_aload_n X 0 rfl dL_law_384 ?_
  refine tl_iload_n X 3 rfl dL_law_385 ?_
  refine tl_iconst (v := 2) X (by decide) dL_law_386 ?_
  refine tl_iadd X dL_law_387 ?_
  refine tl_sld X (hin 2 (by decide)) (hsx 2 (by decide)) dL_law_388 ?_
  refine tl_callM X (mX11_patch _ _ _ _) mk_X11_patch ll_53 hM rfl (by decide) (by decide) (Nat.le_of_ble_eq_true rfl) rfl dL_law_389 ?_
  refine tl_eqT (tgt := 875) X dL_law_392 (by decide) rfl ?_
  exact hnext SC2 SM2 hR2
set_option maxRecDepth 4000 in
theorem case_9 {E : LT} (X : CLw E) {Rel : ST → ST → Prop} (h_sheet : ∀ (x1 x2 x3 : Int32), Sim Rel (fun S => fX10_sheet FU S x1 x2 x3) (fun S => fX11_sheet FU S x1 x2 x3)) {i : Nat} {SC SM : ST} (hR : Rel SC SM) (hin : ∀ k : Nat, k < 6 → vp_in (nI i + nI k) (lL E)) (hsx : ∀ k : Nat, k < 6 → lX E (nI i + nI k).toNatClampNeg = lX E (i + k)) (hnext : ∀ SC2 SM2, Rel SC2 SM2 → GL E SC2 SM2 875 [(0, .ref (lB E)), (1, .ref (lC E 0)), (2, .ref (lM E 0)), (3, .int (nI i))] []) : GL E SC SM 397 [(0, .ref (lB E)), (1, .ref (lC E 0)), (2, .ref (lM E 0)), (3, .int (nI i))] [] := by
  obtain ⟨r, SC2, SM2, hC, hM, hR2⟩ := h_sheet (lX E (i + 1)) (lX E (i + 2)) (lX E (i + 3)) SC SM hR
  refine tl_aload_n X 1 rfl dL_law_397 ?_
  refine tl_aload_n X 0 rfl dL_law_398 ?_
  refine tl_iload_n X 3 rfl dL_law_399 ?_
  refine tl_iconst (v := 1) X (by decide) dL_law_400 ?_
  refine tl_iadd X dL_law_401 ?_
  refine tl_sld X (hin 1 (by decide)) (hsx 1 (by decide)) dL_law_402 ?_
  refine tl_aload_n X 0 rfl dL_law_403 ?_
  refine tl_iload_n X 3 rfl dL_law_404 ?_
  refine tl_iconst (v := 2) X (by decide) dL_law_405 ?_
  refine tl_iadd X dL_law_406 ?_
  refine tl_sld X (hin 2 (by decide)) (hsx 2 (by decide)) dL_law_407 ?_
  refine tl_aload_n X 0 rfl dL_law_408 ?_
  refine tl_iload_n X 3 rfl dL_law_409 ?_
  refine tl_iconst (v := 3) X (by decide) dL_law_410 ?_
  refine tl_iadd X dL_law_411 ?_
  refine tl_sld X (hin 3 (by decide)) (hsx 3 (by decide)) dL_law_412 ?_
  refine tl_callC X (mX10_sheet _ _ _ _ _) mk_X10_sheet ll_54 hC rfl (by decide) (by decide) (Nat.le_of_ble_eq_true rfl) rfl dL_law_413 ?_
  refine tl_aload_n X 2 rfl dL_law_416 ?_
  refine tl_aload_n X 0 rfl dL_law_417 ?_
  refine tl_iload_n X 3 rfl dL_law_418 ?_
  refine tl_iconst (v := 1) X (by decide) dL_law_419 ?_
  refine tl_iadd X dL_law_420 ?_
  refine tl_sld X (hin 1 (by decide)) (hsx 1 (by decide)) dL_law_421 ?_
  refine tl_aload_n X 0 rfl dL_law_422 ?_
  refine tl_iload_n X 3 rfl dL_law_423 ?_
  refine tl_iconst (v := 2) X (by decide) dL_law_424 ?_
  refine tl_iadd X dL_law_425 ?_
  refine tl_sld X (hin 2 (by decide)) (hsx 2 (by decide)) dL_law_426 ?_
  refine tl_aload_n X 0 rfl dL_law_427 ?_
  refine tl_iload_n X 3 rfl dL_law_428 ?_
  refine tl_iconst (v := 3) X (by decide) dL_law_429 ?_
  refine tl_iadd X dL_law_430 ?_
  refine tl_sld X (hin 3 (by decide)) (hsx 3 (by decide)) dL_law_431 ?_
  refine tl_callM X (mX11_sheet _ _ _ _ _) mk_X11_sheet ll_58 hM rfl (by decide) (by decide) (Nat.le_of_ble_eq_true rfl) rfl dL_law_432 ?_
  refine tl_eqT (tgt := 875) X dL_law_435 (by decide) rfl ?_
  exact hnext SC2 SM2 hR2
set_option maxRecDepth 4000 in
theorem case_10 {E : LT} (X : CLw E) {Rel : ST → ST → Prop} (h_worth : Sim Rel (fun S => fX10_worth FU S) (fun S => fX11_worth FU S)) {i : Nat} {SC SM : ST} (hR : Rel SC SM) (hin : ∀ k : Nat, k < 6 → vp_in (nI i + nI k) (lL E)) (hsx : ∀ k : Nat, k < 6 → lX E (nI i + nI k).toNatClampNeg = lX E (i + k)) (hnext : ∀ SC2 SM2, Rel SC2 SM2 → GL E SC2 SM2 875 [(0, .ref (lB E)), (1, .ref (lC E 0)), (2, .ref (lM E 0)), (3, .int (nI i))] []) : GL E SC SM 440 [(0, .ref (lB E)), (1, .ref (lC E 0)), (2, .ref (lM E 0)), (3, .int (nI i))] [] := by
  obtain ⟨r, SC2, SM2, hC, hM, hR2⟩ := h_worth SC SM hR
  refine tl_aload_n X 1 rfl dL_law_440 ?_
  refine tl_callC X (mX10_worth _ _) mk_X10_worth ll_59 hC rfl (by decide) (by decide) (Nat.le_of_ble_eq_true rfl) rfl dL_law_441 ?_
  refine tl_aload_n X 2 rfl dL_law_444 ?_
  refine tl_callM X (mX11_worth _ _) mk_X11_worth ll_62 hM rfl (by decide) (by decide) (Nat.le_of_ble_eq_true rfl) rfl dL_law_445 ?_
  refine tl_eqT (tgt := 875) X dL_law_448 (by decide) rfl ?_
  exact hnext SC2 SM2 hR2
set_option maxRecDepth 4000 in
theorem case_11 {E : LT} (X : CLw E) {Rel : ST → ST → Prop} (h_sheets : Sim Rel (fun S => fX10_sheets FU S) (fun S => fX11_sheets FU S)) {i : Nat} {SC SM : ST} (hR : Rel SC SM) (hin : ∀ k : Nat, k < 6 → vp_in (nI i + nI k) (lL E)) (hsx : ∀ k : Nat, k < 6 → lX E (nI i + nI k).toNatClampNeg = lX E (i + k)) (hnext : ∀ SC2 SM2, Rel SC2 SM2 → GL E SC2 SM2 875 [(0, .ref (lB E)), (1, .ref (lC E 0)), (2, .ref (lM E 0)), (3, .int (nI i))] []) : GL E SC SM 453 [(0, .ref (lB E)), (1, .ref (lC E 0)), (2, .ref (lM E 0)), (3, .int (nI i))] [] := by
  obtain ⟨r, SC2, SM2, hC, hM, hR2⟩ := h_sheets SC SM hR
  refine tl_aload_n X 1 rfl dL_law_453 ?_
  refine tl_callC X (mX10_sheets _ _) mk_X10_sheets ll_63 hC rfl (by decide) (by decide) (Nat.le_of_ble_eq_true rfl) rfl dL_law_454 ?_
  refine tl_aload_n X 2 rfl dL_law_457 ?_
  refine tl_callM X (mX11_sheets _ _) mk_X11_sheets ll_66 hM rfl (by decide) (by decide) (Nat.le_of_ble_eq_true rfl) rfl dL_law_458 ?_
  refine tl_eqT (tgt := 875) X dL_law_461 (by decide) rfl ?_
  exact hnext SC2 SM2 hR2
set_option maxRecDepth 4000 in
theorem case_12 {E : LT} (X : CLw E) {Rel : ST → ST → Prop} (h_clipped : ∀ (x1 x2 : Int32), Sim Rel (fun S => fX10_clipped FU S x1 x2) (fun S => fX11_clipped FU S x1 x2)) {i : Nat} {SC SM : ST} (hR : Rel SC SM) (hin : ∀ k : Nat, k < 6 → vp_in (nI i + nI k) (lL E)) (hsx : ∀ k : Nat, k < 6 → lX E (nI i + nI k).toNatClampNeg = lX E (i + k)) (hnext : ∀ SC2 SM2, Rel SC2 SM2 → GL E SC2 SM2 875 [(0, .ref (lB E)), (1, .ref (lC E 0)), (2, .ref (lM E 0)), (3, .int (nI i))] []) : GL E SC SM 466 [(0, .ref (lB E)), (1, .ref (lC E 0)), (2, .ref (lM E 0)), (3, .int (nI i))] [] := by
  obtain ⟨r, SC2, SM2, hC, hM, hR2⟩ := h_clipped (lX E (i + 1)) (lX E (i + 2)) SC SM hR
  refine tl_aload_n X 1 rfl dL_law_466 ?_
  refine tl_aload_n X 0 rfl dL_law_467 ?_
  refine tl_iload_n X 3 rfl dL_law_468 ?_
  refine tl_iconst (v := 1) X (by decide) dL_law_469 ?_
  refine tl_iadd X dL_law_470 ?_
  refine tl_sld X (hin 1 (by decide)) (hsx 1 (by decide)) dL_law_471 ?_
  refine tl_aload_n X 0 rfl dL_law_472 ?_
  refine tl_iload_n X 3 rfl dL_law_473 ?_
  refine tl_iconst (v := 2) X (by decide) dL_law_474 ?_
  refine tl_iadd X dL_law_475 ?_
  refine tl_sld X (hin 2 (by decide)) (hsx 2 (by decide)) dL_law_476 ?_
  refine tl_callC X (mX10_clipped _ _ _ _) mk_X10_clipped ll_67 hC rfl (by decide) (by decide) (Nat.le_of_ble_eq_true rfl) rfl dL_law_477 ?_
  refine tl_aload_n X 2 rfl dL_law_480 ?_
  refine tl_aload_n X 0 rfl dL_law_481 ?_
  refine tl_iload_n X 3 rfl dL_law_482 ?_
  refine tl_iconst (v := 1) X (by decide) dL_law_483 ?_
  refine tl_iadd X dL_law_484 ?_
  refine tl_sld X (hin 1 (by decide)) (hsx 1 (by decide)) dL_law_485 ?_
  refine tl_aload_n X 0 rfl dL_law_486 ?_
  refine tl_iload_n X 3 rfl dL_law_487 ?_
  refine tl_iconst (v := 2) X (by decide) dL_law_488 ?_
  refine tl_iadd X dL_law_489 ?_
  refine tl_sld X (hin 2 (by decide)) (hsx 2 (by decide)) dL_law_490 ?_
  refine tl_callM X (mX11_clipped _ _ _ _) mk_X11_clipped ll_70 hM rfl (by decide) (by decide) (Nat.le_of_ble_eq_true rfl) rfl dL_law_491 ?_
  refine tl_eqT (tgt := 875) X dL_law_494 (by decide) rfl ?_
  exact hnext SC2 SM2 hR2
set_option maxRecDepth 4000 in
theorem case_13 {E : LT} (X : CLw E) {Rel : ST → ST → Prop} (h_veneer : ∀ (x1 x2 x3 x4 x5 : Int32), x5 &&& 1 = x5 → Sim Rel (fun S => fX10_veneer FU S x1 x2 x3 x4 x5) (fun S => fX11_veneer FU S x1 x2 x3 x4 x5)) {i : Nat} {SC SM : ST} (hR : Rel SC SM) (hin : ∀ k : Nat, k < 6 → vp_in (nI i + nI k) (lL E)) (hsx : ∀ k : Nat, k < 6 → lX E (nI i + nI k).toNatClampNeg = lX E (i + k)) (hnext : ∀ SC2 SM2, Rel SC2 SM2 → GL E SC2 SM2 875 [(0, .ref (lB E)), (1, .ref (lC E 0)), (2, .ref (lM E 0)), (3, .int (nI i))] []) : GL E SC SM 499 [(0, .ref (lB E)), (1, .ref (lC E 0)), (2, .ref (lM E 0)), (3, .int (nI i))] [] := by
  by_cases h0 : lX E (i + 5) = 0
  · obtain ⟨r, SC2, SM2, hC, hM, hR2⟩ := h_veneer (lX E (i + 1)) (lX E (i + 2)) (lX E (i + 3)) (lX E (i + 4)) 0 (by decide) SC SM hR
    refine tl_aload_n X 1 rfl dL_law_499 ?_
    refine tl_aload_n X 0 rfl dL_law_500 ?_
    refine tl_iload_n X 3 rfl dL_law_501 ?_
    refine tl_iconst (v := 1) X (by decide) dL_law_502 ?_
    refine tl_iadd X dL_law_503 ?_
    refine tl_sld X (hin 1 (by decide)) (hsx 1 (by decide)) dL_law_504 ?_
    refine tl_aload_n X 0 rfl dL_law_505 ?_
    refine tl_iload_n X 3 rfl dL_law_506 ?_
    refine tl_iconst (v := 2) X (by decide) dL_law_507 ?_
    refine tl_iadd X dL_law_508 ?_
    refine tl_sld X (hin 2 (by decide)) (hsx 2 (by decide)) dL_law_509 ?_
    refine tl_aload_n X 0 rfl dL_law_510 ?_
    refine tl_iload_n X 3 rfl dL_law_511 ?_
    refine tl_iconst (v := 3) X (by decide) dL_law_512 ?_
    refine tl_iadd X dL_law_513 ?_
    refine tl_sld X (hin 3 (by decide)) (hsx 3 (by decide)) dL_law_514 ?_
    refine tl_aload_n X 0 rfl dL_law_515 ?_
    refine tl_iload_n X 3 rfl dL_law_516 ?_
    refine tl_iconst (v := 4) X (by decide) dL_law_517 ?_
    refine tl_iadd X dL_law_518 ?_
    refine tl_sld X (hin 4 (by decide)) (hsx 4 (by decide)) dL_law_519 ?_
    refine tl_aload_n X 0 rfl dL_law_520 ?_
    refine tl_iload_n X 3 rfl dL_law_521 ?_
    refine tl_iconst (v := 5) X (by decide) dL_law_522 ?_
    refine tl_iadd X dL_law_523 ?_
    refine tl_sld X (hin 5 (by decide)) (hsx 5 (by decide)) dL_law_524 ?_
    refine tl_ifeqT (tgt := 532) X dL_law_525 (by decide) h0 ?_
    refine tl_iconst (v := 0) X (by decide) dL_law_532 ?_
    refine tl_callC X (mX10_veneer _ _ _ _ _ _ _) mk_X10_veneer ll_71 hC rfl (by decide) (by decide) (Nat.le_of_ble_eq_true rfl) rfl dL_law_533 ?_
    refine tl_aload_n X 2 rfl dL_law_536 ?_
    refine tl_aload_n X 0 rfl dL_law_537 ?_
    refine tl_iload_n X 3 rfl dL_law_538 ?_
    refine tl_iconst (v := 1) X (by decide) dL_law_539 ?_
    refine tl_iadd X dL_law_540 ?_
    refine tl_sld X (hin 1 (by decide)) (hsx 1 (by decide)) dL_law_541 ?_
    refine tl_aload_n X 0 rfl dL_law_542 ?_
    refine tl_iload_n X 3 rfl dL_law_543 ?_
    refine tl_iconst (v := 2) X (by decide) dL_law_544 ?_
    refine tl_iadd X dL_law_545 ?_
    refine tl_sld X (hin 2 (by decide)) (hsx 2 (by decide)) dL_law_546 ?_
    refine tl_aload_n X 0 rfl dL_law_547 ?_
    refine tl_iload_n X 3 rfl dL_law_548 ?_
    refine tl_iconst (v := 3) X (by decide) dL_law_549 ?_
    refine tl_iadd X dL_law_550 ?_
    refine tl_sld X (hin 3 (by decide)) (hsx 3 (by decide)) dL_law_551 ?_
    refine tl_aload_n X 0 rfl dL_law_552 ?_
    refine tl_iload_n X 3 rfl dL_law_553 ?_
    refine tl_iconst (v := 4) X (by decide) dL_law_554 ?_
    refine tl_iadd X dL_law_555 ?_
    refine tl_sld X (hin 4 (by decide)) (hsx 4 (by decide)) dL_law_556 ?_
    refine tl_aload_n X 0 rfl dL_law_557 ?_
    refine tl_iload_n X 3 rfl dL_law_558 ?_
    refine tl_iconst (v := 5) X (by decide) dL_law_559 ?_
    refine tl_iadd X dL_law_560 ?_
    refine tl_sld X (hin 5 (by decide)) (hsx 5 (by decide)) dL_law_561 ?_
    refine tl_ifeqT (tgt := 569) X dL_law_562 (by decide) h0 ?_
    refine tl_iconst (v := 0) X (by decide) dL_law_569 ?_
    refine tl_callM X (mX11_veneer _ _ _ _ _ _ _) mk_X11_veneer ll_75 hM rfl (by decide) (by decide) (Nat.le_of_ble_eq_true rfl) rfl dL_law_570 ?_
    refine tl_eqT (tgt := 875) X dL_law_573 (by decide) rfl ?_
    exact hnext SC2 SM2 hR2
  · obtain ⟨r, SC2, SM2, hC, hM, hR2⟩ := h_veneer (lX E (i + 1)) (lX E (i + 2)) (lX E (i + 3)) (lX E (i + 4)) 1 (by decide) SC SM hR
    refine tl_aload_n X 1 rfl dL_law_499 ?_
    refine tl_aload_n X 0 rfl dL_law_500 ?_
    refine tl_iload_n X 3 rfl dL_law_501 ?_
    refine tl_iconst (v := 1) X (by decide) dL_law_502 ?_
    refine tl_iadd X dL_law_503 ?_
    refine tl_sld X (hin 1 (by decide)) (hsx 1 (by decide)) dL_law_504 ?_
    refine tl_aload_n X 0 rfl dL_law_505 ?_
    refine tl_iload_n X 3 rfl dL_law_506 ?_
    refine tl_iconst (v := 2) X (by decide) dL_law_507 ?_
    refine tl_iadd X dL_law_508 ?_
    refine tl_sld X (hin 2 (by decide)) (hsx 2 (by decide)) dL_law_509 ?_
    refine tl_aload_n X 0 rfl dL_law_510 ?_
    refine tl_iload_n X 3 rfl dL_law_511 ?_
    refine tl_iconst (v := 3) X (by decide) dL_law_512 ?_
    refine tl_iadd X dL_law_513 ?_
    refine tl_sld X (hin 3 (by decide)) (hsx 3 (by decide)) dL_law_514 ?_
    refine tl_aload_n X 0 rfl dL_law_515 ?_
    refine tl_iload_n X 3 rfl dL_law_516 ?_
    refine tl_iconst (v := 4) X (by decide) dL_law_517 ?_
    refine tl_iadd X dL_law_518 ?_
    refine tl_sld X (hin 4 (by decide)) (hsx 4 (by decide)) dL_law_519 ?_
    refine tl_aload_n X 0 rfl dL_law_520 ?_
    refine tl_iload_n X 3 rfl dL_law_521 ?_
    refine tl_iconst (v := 5) X (by decide) dL_law_522 ?_
    refine tl_iadd X dL_law_523 ?_
    refine tl_sld X (hin 5 (by decide)) (hsx 5 (by decide)) dL_law_524 ?_
    refine tl_ifeqF (tgt := 532) X dL_law_525 (by decide) h0 ?_
    refine tl_iconst (v := 1) X (by decide) dL_law_528 ?_
    refine tl_goto (tgt := 533) X dL_law_529 (by decide) ?_
    refine tl_callC X (mX10_veneer _ _ _ _ _ _ _) mk_X10_veneer ll_71 hC rfl (by decide) (by decide) (Nat.le_of_ble_eq_true rfl) rfl dL_law_533 ?_
    refine tl_aload_n X 2 rfl dL_law_536 ?_
    refine tl_aload_n X 0 rfl dL_law_537 ?_
    refine tl_iload_n X 3 rfl dL_law_538 ?_
    refine tl_iconst (v := 1) X (by decide) dL_law_539 ?_
    refine tl_iadd X dL_law_540 ?_
    refine tl_sld X (hin 1 (by decide)) (hsx 1 (by decide)) dL_law_541 ?_
    refine tl_aload_n X 0 rfl dL_law_542 ?_
    refine tl_iload_n X 3 rfl dL_law_543 ?_
    refine tl_iconst (v := 2) X (by decide) dL_law_544 ?_
    refine tl_iadd X dL_law_545 ?_
    refine tl_sld X (hin 2 (by decide)) (hsx 2 (by decide)) dL_law_546 ?_
    refine tl_aload_n X 0 rfl dL_law_547 ?_
    refine tl_iload_n X 3 rfl dL_law_548 ?_
    refine tl_iconst (v := 3) X (by decide) dL_law_549 ?_
    refine tl_iadd X dL_law_550 ?_
    refine tl_sld X (hin 3 (by decide)) (hsx 3 (by decide)) dL_law_551 ?_
    refine tl_aload_n X 0 rfl dL_law_552 ?_
    refine tl_iload_n X 3 rfl dL_law_553 ?_
    refine tl_iconst (v := 4) X (by decide) dL_law_554 ?_
    refine tl_iadd X dL_law_555 ?_
    refine tl_sld X (hin 4 (by decide)) (hsx 4 (by decide)) dL_law_556 ?_
    refine tl_aload_n X 0 rfl dL_law_557 ?_
    refine tl_iload_n X 3 rfl dL_law_558 ?_
    refine tl_iconst (v := 5) X (by decide) dL_law_559 ?_
    refine tl_iadd X dL_law_560 ?_
    refine tl_sld X (hin 5 (by decide)) (hsx 5 (by decide)) dL_law_561 ?_
    refine tl_ifeqF (tgt := 569) X dL_law_562 (by decide) h0 ?_
    refine tl_iconst (v := 1) X (by decide) dL_law_565 ?_
    refine tl_goto (tgt := 570) X dL_law_566 (by decide) ?_
    refine tl_callM X (mX11_veneer _ _ _ _ _ _ _) mk_X11_veneer ll_75 hM rfl (by decide) (by decide) (Nat.le_of_ble_eq_true rfl) rfl dL_law_570 ?_
    refine tl_eqT (tgt := 875) X dL_law_573 (by decide) rfl ?_
    exact hnext SC2 SM2 hR2
set_option maxRecDepth 4000 in
theorem case_14 {E : LT} (X : CLw E) {Rel : ST → ST → Prop} (h_board : ∀ (x1 x2 x3 : Int32), Sim Rel (fun S => fX10_board FU S x1 x2 x3) (fun S => fX11_board FU S x1 x2 x3)) {i : Nat} {SC SM : ST} (hR : Rel SC SM) (hin : ∀ k : Nat, k < 6 → vp_in (nI i + nI k) (lL E)) (hsx : ∀ k : Nat, k < 6 → lX E (nI i + nI k).toNatClampNeg = lX E (i + k)) (hnext : ∀ SC2 SM2, Rel SC2 SM2 → GL E SC2 SM2 875 [(0, .ref (lB E)), (1, .ref (lC E 0)), (2, .ref (lM E 0)), (3, .int (nI i))] []) : GL E SC SM 578 [(0, .ref (lB E)), (1, .ref (lC E 0)), (2, .ref (lM E 0)), (3, .int (nI i))] [] := by
  obtain ⟨r, SC2, SM2, hC, hM, hR2⟩ := h_board (lX E (i + 1)) (lX E (i + 2)) (lX E (i + 3)) SC SM hR
  refine tl_aload_n X 1 rfl dL_law_578 ?_
  refine tl_aload_n X 0 rfl dL_law_579 ?_
  refine tl_iload_n X 3 rfl dL_law_580 ?_
  refine tl_iconst (v := 1) X (by decide) dL_law_581 ?_
  refine tl_iadd X dL_law_582 ?_
  refine tl_sld X (hin 1 (by decide)) (hsx 1 (by decide)) dL_law_583 ?_
  refine tl_aload_n X 0 rfl dL_law_584 ?_
  refine tl_iload_n X 3 rfl dL_law_585 ?_
  refine tl_iconst (v := 2) X (by decide) dL_law_586 ?_
  refine tl_iadd X dL_law_587 ?_
  refine tl_sld X (hin 2 (by decide)) (hsx 2 (by decide)) dL_law_588 ?_
  refine tl_aload_n X 0 rfl dL_law_589 ?_
  refine tl_iload_n X 3 rfl dL_law_590 ?_
  refine tl_iconst (v := 3) X (by decide) dL_law_591 ?_
  refine tl_iadd X dL_law_592 ?_
  refine tl_sld X (hin 3 (by decide)) (hsx 3 (by decide)) dL_law_593 ?_
  refine tl_callC X (mX10_board _ _ _ _ _) mk_X10_board ll_76 hC rfl (by decide) (by decide) (Nat.le_of_ble_eq_true rfl) rfl dL_law_594 ?_
  refine tl_aload_n X 2 rfl dL_law_597 ?_
  refine tl_aload_n X 0 rfl dL_law_598 ?_
  refine tl_iload_n X 3 rfl dL_law_599 ?_
  refine tl_iconst (v := 1) X (by decide) dL_law_600 ?_
  refine tl_iadd X dL_law_601 ?_
  refine tl_sld X (hin 1 (by decide)) (hsx 1 (by decide)) dL_law_602 ?_
  refine tl_aload_n X 0 rfl dL_law_603 ?_
  refine tl_iload_n X 3 rfl dL_law_604 ?_
  refine tl_iconst (v := 2) X (by decide) dL_law_605 ?_
  refine tl_iadd X dL_law_606 ?_
  refine tl_sld X (hin 2 (by decide)) (hsx 2 (by decide)) dL_law_607 ?_
  refine tl_aload_n X 0 rfl dL_law_608 ?_
  refine tl_iload_n X 3 rfl dL_law_609 ?_
  refine tl_iconst (v := 3) X (by decide) dL_law_610 ?_
  refine tl_iadd X dL_law_611 ?_
  refine tl_sld X (hin 3 (by decide)) (hsx 3 (by decide)) dL_law_612 ?_
  refine tl_callM X (mX11_board _ _ _ _ _) mk_X11_board ll_79 hM rfl (by decide) (by decide) (Nat.le_of_ble_eq_true rfl) rfl dL_law_613 ?_
  refine tl_eqT (tgt := 875) X dL_law_616 (by decide) rfl ?_
  exact hnext SC2 SM2 hR2
set_option maxRecDepth 4000 in
theorem case_15 {E : LT} (X : CLw E) {Rel : ST → ST → Prop} (h_warp : ∀ (x1 x2 : Int32), Sim Rel (fun S => fX10_warp FU S x1 x2) (fun S => fX11_warp FU S x1 x2)) {i : Nat} {SC SM : ST} (hR : Rel SC SM) (hin : ∀ k : Nat, k < 6 → vp_in (nI i + nI k) (lL E)) (hsx : ∀ k : Nat, k < 6 → lX E (nI i + nI k).toNatClampNeg = lX E (i + k)) (hnext : ∀ SC2 SM2, Rel SC2 SM2 → GL E SC2 SM2 875 [(0, .ref (lB E)), (1, .ref (lC E 0)), (2, .ref (lM E 0)), (3, .int (nI i))] []) : GL E SC SM 621 [(0, .ref (lB E)), (1, .ref (lC E 0)), (2, .ref (lM E 0)), (3, .int (nI i))] [] := by
  obtain ⟨r, SC2, SM2, hC, hM, hR2⟩ := h_warp (lX E (i + 1)) (lX E (i + 2)) SC SM hR
  refine tl_aload_n X 1 rfl dL_law_621 ?_
  refine tl_aload_n X 0 rfl dL_law_622 ?_
  refine tl_iload_n X 3 rfl dL_law_623 ?_
  refine tl_iconst (v := 1) X (by decide) dL_law_624 ?_
  refine tl_iadd X dL_law_625 ?_
  refine tl_sld X (hin 1 (by decide)) (hsx 1 (by decide)) dL_law_626 ?_
  refine tl_aload_n X 0 rfl dL_law_627 ?_
  refine tl_iload_n X 3 rfl dL_law_628 ?_
  refine tl_iconst (v := 2) X (by decide) dL_law_629 ?_
  refine tl_iadd X dL_law_630 ?_
  refine tl_sld X (hin 2 (by decide)) (hsx 2 (by decide)) dL_law_631 ?_
  refine tl_callC X (mX10_warp _ _ _ _) mk_X10_warp ll_80 hC rfl (by decide) (by decide) (Nat.le_of_ble_eq_true rfl) rfl dL_law_632 ?_
  refine tl_aload_n X 2 rfl dL_law_635 ?_
  refine tl_aload_n X 0 rfl dL_law_636 ?_
  refine tl_iload_n X 3 rfl dL_law_637 ?_
  refine tl_iconst (v := 1) X (by decide) dL_law_638 ?_
  refine tl_iadd X dL_law_639 ?_
  refine tl_sld X (hin 1 (by decide)) (hsx 1 (by decide)) dL_law_640 ?_
  refine tl_aload_n X 0 rfl dL_law_641 ?_
  refine tl_iload_n X 3 rfl dL_law_642 ?_
  refine tl_iconst (v := 2) X (by decide) dL_law_643 ?_
  refine tl_iadd X dL_law_644 ?_
  refine tl_sld X (hin 2 (by decide)) (hsx 2 (by decide)) dL_law_645 ?_
  refine tl_callM X (mX11_warp _ _ _ _) mk_X11_warp ll_83 hM rfl (by decide) (by decide) (Nat.le_of_ble_eq_true rfl) rfl dL_law_646 ?_
  refine tl_eqT (tgt := 875) X dL_law_649 (by decide) rfl ?_
  exact hnext SC2 SM2 hR2
set_option maxRecDepth 4000 in
theorem case_16 {E : LT} (X : CLw E) {Rel : ST → ST → Prop} (h_best : ∀ (x1 x2 x3 : Int32), Sim Rel (fun S => fX10_best FU S x1 x2 x3) (fun S => fX11_best FU S x1 x2 x3)) {i : Nat} {SC SM : ST} (hR : Rel SC SM) (hin : ∀ k : Nat, k < 6 → vp_in (nI i + nI k) (lL E)) (hsx : ∀ k : Nat, k < 6 → lX E (nI i + nI k).toNatClampNeg = lX E (i + k)) (hnext : ∀ SC2 SM2, Rel SC2 SM2 → GL E SC2 SM2 875 [(0, .ref (lB E)), (1, .ref (lC E 0)), (2, .ref (lM E 0)), (3, .int (nI i))] []) : GL E SC SM 654 [(0, .ref (lB E)), (1, .ref (lC E 0)), (2, .ref (lM E 0)), (3, .int (nI i))] [] := by
  obtain ⟨r, SC2, SM2, hC, hM, hR2⟩ := h_best (lX E (i + 1)) (lX E (i + 2)) (lX E (i + 3)) SC SM hR
  refine tl_aload_n X 1 rfl dL_law_654 ?_
  refine tl_aload_n X 0 rfl dL_law_655 ?_
  refine tl_iload_n X 3 rfl dL_law_656 ?_
  refine tl_iconst (v := 1) X (by decide) dL_law_657 ?_
  refine tl_iadd X dL_law_658 ?_
  refine tl_sld X (hin 1 (by decide)) (hsx 1 (by decide)) dL_law_659 ?_
  refine tl_aload_n X 0 rfl dL_law_660 ?_
  refine tl_iload_n X 3 rfl dL_law_661 ?_
  refine tl_iconst (v := 2) X (by decide) dL_law_662 ?_
  refine tl_iadd X dL_law_663 ?_
  refine tl_sld X (hin 2 (by decide)) (hsx 2 (by decide)) dL_law_664 ?_
  refine tl_aload_n X 0 rfl dL_law_665 ?_
  refine tl_iload_n X 3 rfl dL_law_666 ?_
  refine tl_iconst (v := 3) X (by decide) dL_law_667 ?_
  refine tl_iadd X dL_law_668 ?_
  refine tl_sld X (hin 3 (by decide)) (hsx 3 (by decide)) dL_law_669 ?_
  refine tl_callC X (mX10_best _ _ _ _ _) mk_X10_best ll_84 hC rfl (by decide) (by decide) (Nat.le_of_ble_eq_true rfl) rfl dL_law_670 ?_
  refine tl_aload_n X 2 rfl dL_law_673 ?_
  refine tl_aload_n X 0 rfl dL_law_674 ?_
  refine tl_iload_n X 3 rfl dL_law_675 ?_
  refine tl_iconst (v := 1) X (by decide) dL_law_676 ?_
  refine tl_iadd X dL_law_677 ?_
  refine tl_sld X (hin 1 (by decide)) (hsx 1 (by decide)) dL_law_678 ?_
  refine tl_aload_n X 0 rfl dL_law_679 ?_
  refine tl_iload_n X 3 rfl dL_law_680 ?_
  refine tl_iconst (v := 2) X (by decide) dL_law_681 ?_
  refine tl_iadd X dL_law_682 ?_
  refine tl_sld X (hin 2 (by decide)) (hsx 2 (by decide)) dL_law_683 ?_
  refine tl_aload_n X 0 rfl dL_law_684 ?_
  refine tl_iload_n X 3 rfl dL_law_685 ?_
  refine tl_iconst (v := 3) X (by decide) dL_law_686 ?_
  refine tl_iadd X dL_law_687 ?_
  refine tl_sld X (hin 3 (by decide)) (hsx 3 (by decide)) dL_law_688 ?_
  refine tl_callM X (mX11_best _ _ _ _ _) mk_X11_best ll_87 hM rfl (by decide) (by decide) (Nat.le_of_ble_eq_true rfl) rfl dL_law_689 ?_
  refine tl_eqT (tgt := 875) X dL_law_692 (by decide) rfl ?_
  exact hnext SC2 SM2 hR2
set_option maxRecDepth 4000 in
theorem case_17 {E : LT} (X : CLw E) {Rel : ST → ST → Prop} (h_press : ∀ (x1 x2 x3 x4 : Int32), Sim Rel (fun S => fX10_press FU S x1 x2 x3 x4) (fun S => fX11_press FU S x1 x2 x3 x4)) {i : Nat} {SC SM : ST} (hR : Rel SC SM) (hin : ∀ k : Nat, k < 6 → vp_in (nI i + nI k) (lL E)) (hsx : ∀ k : Nat, k < 6 → lX E (nI i + nI k).toNatClampNeg = lX E (i + k)) (hnext : ∀ SC2 SM2, Rel SC2 SM2 → GL E SC2 SM2 875 [(0, .ref (lB E)), (1, .ref (lC E 0)), (2, .ref (lM E 0)), (3, .int (nI i))] []) : GL E SC SM 697 [(0, .ref (lB E)), (1, .ref (lC E 0)), (2, .ref (lM E 0)), (3, .int (nI i))] [] := by
  obtain ⟨r, SC2, SM2, hC, hM, hR2⟩ := h_press (lX E (i + 1)) (lX E (i + 2)) (lX E (i + 3)) (lX E (i + 4)) SC SM hR
  refine tl_aload_n X 1 rfl dL_law_697 ?_
  refine tl_aload_n X 0 rfl dL_law_698 ?_
  refine tl_iload_n X 3 rfl dL_law_699 ?_
  refine tl_iconst (v := 1) X (by decide) dL_law_700 ?_
  refine tl_iadd X dL_law_701 ?_
  refine tl_sld X (hin 1 (by decide)) (hsx 1 (by decide)) dL_law_702 ?_
  refine tl_aload_n X 0 rfl dL_law_703 ?_
  refine tl_iload_n X 3 rfl dL_law_704 ?_
  refine tl_iconst (v := 2) X (by decide) dL_law_705 ?_
  refine tl_iadd X dL_law_706 ?_
  refine tl_sld X (hin 2 (by decide)) (hsx 2 (by decide)) dL_law_707 ?_
  refine tl_aload_n X 0 rfl dL_law_708 ?_
  refine tl_iload_n X 3 rfl dL_law_709 ?_
  refine tl_iconst (v := 3) X (by decide) dL_law_710 ?_
  refine tl_iadd X dL_law_711 ?_
  refine tl_sld X (hin 3 (by decide)) (hsx 3 (by decide)) dL_law_712 ?_
  refine tl_aload_n X 0 rfl dL_law_713 ?_
  refine tl_iload_n X 3 rfl dL_law_714 ?_
  refine tl_iconst (v := 4) X (by decide) dL_law_715 ?_
  refine tl_iadd X dL_law_716 ?_
  refine tl_sld X (hin 4 (by decide)) (hsx 4 (by decide)) dL_law_717 ?_
  refine tl_callC X (mX10_press _ _ _ _ _ _) mk_X10_press ll_88 hC rfl (by decide) (by decide) (Nat.le_of_ble_eq_true rfl) rfl dL_law_718 ?_
  refine tl_aload_n X 2 rfl dL_law_721 ?_
  refine tl_aload_n X 0 rfl dL_law_722 ?_
  refine tl_iload_n X 3 rfl dL_law_723 ?_
  refine tl_iconst (v := 1) X (by decide) dL_law_724 ?_
  refine tl_iadd X dL_law_725 ?_
  refine tl_sld X (hin 1 (by decide)) (hsx 1 (by decide)) dL_law_726 ?_
  refine tl_aload_n X 0 rfl dL_law_727 ?_
  refine tl_iload_n X 3 rfl dL_law_728 ?_
  refine tl_iconst (v := 2) X (by decide) dL_law_729 ?_
  refine tl_iadd X dL_law_730 ?_
  refine tl_sld X (hin 2 (by decide)) (hsx 2 (by decide)) dL_law_731 ?_
  refine tl_aload_n X 0 rfl dL_law_732 ?_
  refine tl_iload_n X 3 rfl dL_law_733 ?_
  refine tl_iconst (v := 3) X (by decide) dL_law_734 ?_
  refine tl_iadd X dL_law_735 ?_
  refine tl_sld X (hin 3 (by decide)) (hsx 3 (by decide)) dL_law_736 ?_
  refine tl_aload_n X 0 rfl dL_law_737 ?_
  refine tl_iload_n X 3 rfl dL_law_738 ?_
  refine tl_iconst (v := 4) X (by decide) dL_law_739 ?_
  refine tl_iadd X dL_law_740 ?_
  refine tl_sld X (hin 4 (by decide)) (hsx 4 (by decide)) dL_law_741 ?_
  refine tl_callM X (mX11_press _ _ _ _ _ _) mk_X11_press ll_92 hM rfl (by decide) (by decide) (Nat.le_of_ble_eq_true rfl) rfl dL_law_742 ?_
  refine tl_eqT (tgt := 875) X dL_law_745 (by decide) rfl ?_
  exact hnext SC2 SM2 hR2
set_option maxRecDepth 4000 in
theorem case_18 {E : LT} (X : CLw E) {Rel : ST → ST → Prop} (h_glue : ∀ (x1 x2 : Int32), Sim Rel (fun S => fX10_glue FU S x1 x2) (fun S => fX11_glue FU S x1 x2)) {i : Nat} {SC SM : ST} (hR : Rel SC SM) (hin : ∀ k : Nat, k < 6 → vp_in (nI i + nI k) (lL E)) (hsx : ∀ k : Nat, k < 6 → lX E (nI i + nI k).toNatClampNeg = lX E (i + k)) (hnext : ∀ SC2 SM2, Rel SC2 SM2 → GL E SC2 SM2 875 [(0, .ref (lB E)), (1, .ref (lC E 0)), (2, .ref (lM E 0)), (3, .int (nI i))] []) : GL E SC SM 750 [(0, .ref (lB E)), (1, .ref (lC E 0)), (2, .ref (lM E 0)), (3, .int (nI i))] [] := by
  obtain ⟨r, SC2, SM2, hC, hM, hR2⟩ := h_glue (lX E (i + 1)) (lX E (i + 2)) SC SM hR
  refine tl_aload_n X 1 rfl dL_law_750 ?_
  refine tl_aload_n X 0 rfl dL_law_751 ?_
  refine tl_iload_n X 3 rfl dL_law_752 ?_
  refine tl_iconst (v := 1) X (by decide) dL_law_753 ?_
  refine tl_iadd X dL_law_754 ?_
  refine tl_sld X (hin 1 (by decide)) (hsx 1 (by decide)) dL_law_755 ?_
  refine tl_aload_n X 0 rfl dL_law_756 ?_
  refine tl_iload_n X 3 rfl dL_law_757 ?_
  refine tl_iconst (v := 2) X (by decide) dL_law_758 ?_
  refine tl_iadd X dL_law_759 ?_
  refine tl_sld X (hin 2 (by decide)) (hsx 2 (by decide)) dL_law_760 ?_
  refine tl_callC X (mX10_glue _ _ _ _) mk_X10_glue ll_93 hC rfl (by decide) (by decide) (Nat.le_of_ble_eq_true rfl) rfl dL_law_761 ?_
  refine tl_aload_n X 2 rfl dL_law_764 ?_
  refine tl_aload_n X 0 rfl dL_law_765 ?_
  refine tl_iload_n X 3 rfl dL_law_766 ?_
  refine tl_iconst (v := 1) X (by decide) dL_law_767 ?_
  refine tl_iadd X dL_law_768 ?_
  refine tl_sld X (hin 1 (by decide)) (hsx 1 (by decide)) dL_law_769 ?_
  refine tl_aload_n X 0 rfl dL_law_770 ?_
  refine tl_iload_n X 3 rfl dL_law_771 ?_
  refine tl_iconst (v := 2) X (by decide) dL_law_772 ?_
  refine tl_iadd X dL_law_773 ?_
  refine tl_sld X (hin 2 (by decide)) (hsx 2 (by decide)) dL_law_774 ?_
  refine tl_callM X (mX11_glue _ _ _ _) mk_X11_glue ll_96 hM rfl (by decide) (by decide) (Nat.le_of_ble_eq_true rfl) rfl dL_law_775 ?_
  refine tl_eqT (tgt := 875) X dL_law_778 (by decide) rfl ?_
  exact hnext SC2 SM2 hR2
set_option maxRecDepth 4000 in
theorem case_19 {E : LT} (X : CLw E) {Rel : ST → ST → Prop} (h_drop : Sim Rel (fun S => fX10_drop FU S) (fun S => fX11_drop FU S)) {i : Nat} {SC SM : ST} (hR : Rel SC SM) (hin : ∀ k : Nat, k < 6 → vp_in (nI i + nI k) (lL E)) (hsx : ∀ k : Nat, k < 6 → lX E (nI i + nI k).toNatClampNeg = lX E (i + k)) (hnext : ∀ SC2 SM2, Rel SC2 SM2 → GL E SC2 SM2 875 [(0, .ref (lB E)), (1, .ref (lC E 0)), (2, .ref (lM E 0)), (3, .int (nI i))] []) : GL E SC SM 783 [(0, .ref (lB E)), (1, .ref (lC E 0)), (2, .ref (lM E 0)), (3, .int (nI i))] [] := by
  obtain ⟨r, SC2, SM2, hC, hM, hR2⟩ := h_drop SC SM hR
  refine tl_aload_n X 1 rfl dL_law_783 ?_
  refine tl_callC X (mX10_drop _ _) mk_X10_drop ll_97 hC rfl (by decide) (by decide) (Nat.le_of_ble_eq_true rfl) rfl dL_law_784 ?_
  refine tl_aload_n X 2 rfl dL_law_787 ?_
  refine tl_callM X (mX11_drop _ _) mk_X11_drop ll_101 hM rfl (by decide) (by decide) (Nat.le_of_ble_eq_true rfl) rfl dL_law_788 ?_
  refine tl_eqT (tgt := 875) X dL_law_791 (by decide) rfl ?_
  exact hnext SC2 SM2 hR2
set_option maxRecDepth 4000 in
theorem case_20 {E : LT} (X : CLw E) {Rel : ST → ST → Prop} (h_plan : ∀ (x1 : Int32), Sim Rel (fun S => fX10_plan FU S x1) (fun S => fX11_plan FU S x1)) {i : Nat} {SC SM : ST} (hR : Rel SC SM) (hin : ∀ k : Nat, k < 6 → vp_in (nI i + nI k) (lL E)) (hsx : ∀ k : Nat, k < 6 → lX E (nI i + nI k).toNatClampNeg = lX E (i + k)) (hnext : ∀ SC2 SM2, Rel SC2 SM2 → GL E SC2 SM2 875 [(0, .ref (lB E)), (1, .ref (lC E 0)), (2, .ref (lM E 0)), (3, .int (nI i))] []) : GL E SC SM 796 [(0, .ref (lB E)), (1, .ref (lC E 0)), (2, .ref (lM E 0)), (3, .int (nI i))] [] := by
  obtain ⟨r, SC2, SM2, hC, hM, hR2⟩ := h_plan (lX E (i + 1)) SC SM hR
  refine tl_aload_n X 1 rfl dL_law_796 ?_
  refine tl_aload_n X 0 rfl dL_law_797 ?_
  refine tl_iload_n X 3 rfl dL_law_798 ?_
  refine tl_iconst (v := 1) X (by decide) dL_law_799 ?_
  refine tl_iadd X dL_law_800 ?_
  refine tl_sld X (hin 1 (by decide)) (hsx 1 (by decide)) dL_law_801 ?_
  refine tl_callC X (mX10_plan _ _ _) mk_X10_plan ll_102 hC rfl (by decide) (by decide) (Nat.le_of_ble_eq_true rfl) rfl dL_law_802 ?_
  refine tl_aload_n X 2 rfl dL_law_805 ?_
  refine tl_aload_n X 0 rfl dL_law_806 ?_
  refine tl_iload_n X 3 rfl dL_law_807 ?_
  refine tl_iconst (v := 1) X (by decide) dL_law_808 ?_
  refine tl_iadd X dL_law_809 ?_
  refine tl_sld X (hin 1 (by decide)) (hsx 1 (by decide)) dL_law_810 ?_
  refine tl_callM X (mX11_plan _ _ _) mk_X11_plan ll_105 hM rfl (by decide) (by decide) (Nat.le_of_ble_eq_true rfl) rfl dL_law_811 ?_
  refine tl_eqT (tgt := 875) X dL_law_814 (by decide) rfl ?_
  exact hnext SC2 SM2 hR2
set_option maxRecDepth 4000 in
theorem case_21 {E : LT} (X : CLw E) {Rel : ST → ST → Prop} (h_load : ∀ (x1 x2 : Int32), Sim Rel (fun S => fX10_load FU S x1 x2) (fun S => fX11_load FU S x1 x2)) {i : Nat} {SC SM : ST} (hR : Rel SC SM) (hin : ∀ k : Nat, k < 6 → vp_in (nI i + nI k) (lL E)) (hsx : ∀ k : Nat, k < 6 → lX E (nI i + nI k).toNatClampNeg = lX E (i + k)) (hnext : ∀ SC2 SM2, Rel SC2 SM2 → GL E SC2 SM2 875 [(0, .ref (lB E)), (1, .ref (lC E 0)), (2, .ref (lM E 0)), (3, .int (nI i))] []) : GL E SC SM 819 [(0, .ref (lB E)), (1, .ref (lC E 0)), (2, .ref (lM E 0)), (3, .int (nI i))] [] := by
  obtain ⟨r, SC2, SM2, hC, hM, hR2⟩ := h_load (lX E (i + 1)) (lX E (i + 2)) SC SM hR
  refine tl_aload_n X 1 rfl dL_law_819 ?_
  refine tl_aload_n X 0 rfl dL_law_820 ?_
  refine tl_iload_n X 3 rfl dL_law_821 ?_
  refine tl_iconst (v := 1) X (by decide) dL_law_822 ?_
  refine tl_iadd X dL_law_823 ?_
  refine tl_sld X (hin 1 (by decide)) (hsx 1 (by decide)) dL_law_824 ?_
  refine tl_aload_n X 0 rfl dL_law_825 ?_
  refine tl_iload_n X 3 rfl dL_law_826 ?_
  refine tl_iconst (v := 2) X (by decide) dL_law_827 ?_
  refine tl_iadd X dL_law_828 ?_
  refine tl_sld X (hin 2 (by decide)) (hsx 2 (by decide)) dL_law_829 ?_
  refine tl_callC X (mX10_load _ _ _ _) mk_X10_load ll_106 hC rfl (by decide) (by decide) (Nat.le_of_ble_eq_true rfl) rfl dL_law_830 ?_
  refine tl_aload_n X 2 rfl dL_law_833 ?_
  refine tl_aload_n X 0 rfl dL_law_834 ?_
  refine tl_iload_n X 3 rfl dL_law_835 ?_
  refine tl_iconst (v := 1) X (by decide) dL_law_836 ?_
  refine tl_iadd X dL_law_837 ?_
  refine tl_sld X (hin 1 (by decide)) (hsx 1 (by decide)) dL_law_838 ?_
  refine tl_aload_n X 0 rfl dL_law_839 ?_
  refine tl_iload_n X 3 rfl dL_law_840 ?_
  refine tl_iconst (v := 2) X (by decide) dL_law_841 ?_
  refine tl_iadd X dL_law_842 ?_
  refine tl_sld X (hin 2 (by decide)) (hsx 2 (by decide)) dL_law_843 ?_
  refine tl_callM X (mX11_load _ _ _ _) mk_X11_load ll_109 hM rfl (by decide) (by decide) (Nat.le_of_ble_eq_true rfl) rfl dL_law_844 ?_
  refine tl_eqT (tgt := 875) X dL_law_847 (by decide) rfl ?_
  exact hnext SC2 SM2 hR2
set_option maxRecDepth 4000 in
theorem case_22 {E : LT} (X : CLw E) {Rel : ST → ST → Prop} (h_about : ∀ (x1 : Int32), Sim Rel (fun S => fX10_about FU S x1) (fun S => fX11_about FU S x1)) {i : Nat} {SC SM : ST} (hR : Rel SC SM) (hin : ∀ k : Nat, k < 6 → vp_in (nI i + nI k) (lL E)) (hsx : ∀ k : Nat, k < 6 → lX E (nI i + nI k).toNatClampNeg = lX E (i + k)) (hnext : ∀ SC2 SM2, Rel SC2 SM2 → GL E SC2 SM2 875 [(0, .ref (lB E)), (1, .ref (lC E 0)), (2, .ref (lM E 0)), (3, .int (nI i))] []) : GL E SC SM 852 [(0, .ref (lB E)), (1, .ref (lC E 0)), (2, .ref (lM E 0)), (3, .int (nI i))] [] := by
  obtain ⟨r, SC2, SM2, hC, hM, hR2⟩ := h_about (lX E (i + 1)) SC SM hR
  refine tl_aload_n X 1 rfl dL_law_852 ?_
  refine tl_aload_n X 0 rfl dL_law_853 ?_
  refine tl_iload_n X 3 rfl dL_law_854 ?_
  refine tl_iconst (v := 1) X (by decide) dL_law_855 ?_
  refine tl_iadd X dL_law_856 ?_
  refine tl_sld X (hin 1 (by decide)) (hsx 1 (by decide)) dL_law_857 ?_
  refine tl_callC X (mX10_about _ _ _) mk_X10_about ll_110 hC rfl (by decide) (by decide) (Nat.le_of_ble_eq_true rfl) rfl dL_law_858 ?_
  refine tl_aload_n X 2 rfl dL_law_861 ?_
  refine tl_aload_n X 0 rfl dL_law_862 ?_
  refine tl_iload_n X 3 rfl dL_law_863 ?_
  refine tl_iconst (v := 1) X (by decide) dL_law_864 ?_
  refine tl_iadd X dL_law_865 ?_
  refine tl_sld X (hin 1 (by decide)) (hsx 1 (by decide)) dL_law_866 ?_
  refine tl_callM X (mX11_about _ _ _) mk_X11_about ll_113 hM rfl (by decide) (by decide) (Nat.le_of_ble_eq_true rfl) rfl dL_law_867 ?_
  refine tl_eqT (tgt := 875) X dL_law_870 (by decide) rfl ?_
  exact hnext SC2 SM2 hR2
set_option maxRecDepth 4000 in
theorem law_loop {E : LT} (X : CLw E) (hL : lL E ≤ 3072) {Rel : ST → ST → Prop} (h_net : ∀ (x1 x2 : Int32), Sim Rel (fun S => fX10_net FU S x1 x2) (fun S => fX11_net FU S x1 x2)) (h_centre : ∀ (x1 : Int32), Sim Rel (fun S => fX10_centre FU S x1) (fun S => fX11_centre FU S x1)) (h_full : ∀ (x1 x2 : Int32), Sim Rel (fun S => fX10_full FU S x1 x2) (fun S => fX11_full FU S x1 x2)) (h_feed : ∀ (x1 x2 x3 x4 x5 : Int32), Sim Rel (fun S => fX10_feed FU S x1 x2 x3 x4 x5) (fun S => fX11_feed FU S x1 x2 x3 x4 x5)) (h_end : ∀ (x1 : Int32), Sim Rel (fun S => fX10_end FU S x1) (fun S => fX11_end FU S x1)) (h_grades : Sim Rel (fun S => fX10_grades FU S) (fun S => fX11_grades FU S)) (h_fault : ∀ (x1 : Int32), Sim Rel (fun S => fX10_fault FU S x1) (fun S => fX11_fault FU S x1)) (h_leaf : Sim Rel (fun S => fX10_leaf FU S) (fun S => fX11_leaf FU S)) (h_patch : ∀ (x1 x2 : Int32), Sim Rel (fun S => fX10_patch FU S x1 x2) (fun S => fX11_patch FU S x1 x2)) (h_sheet : ∀ (x1 x2 x3 : Int32), Sim Rel (fun S => fX10_sheet FU S x1 x2 x3) (fun S => fX11_sheet FU S x1 x2 x3)) (h_worth : Sim Rel (fun S => fX10_worth FU S) (fun S => fX11_worth FU S)) (h_sheets : Sim Rel (fun S => fX10_sheets FU S) (fun S => fX11_sheets FU S)) (h_clipped : ∀ (x1 x2 : Int32), Sim Rel (fun S => fX10_clipped FU S x1 x2) (fun S => fX11_clipped FU S x1 x2)) (h_veneer : ∀ (x1 x2 x3 x4 x5 : Int32), x5 &&& 1 = x5 → Sim Rel (fun S => fX10_veneer FU S x1 x2 x3 x4 x5) (fun S => fX11_veneer FU S x1 x2 x3 x4 x5)) (h_board : ∀ (x1 x2 x3 : Int32), Sim Rel (fun S => fX10_board FU S x1 x2 x3) (fun S => fX11_board FU S x1 x2 x3)) (h_warp : ∀ (x1 x2 : Int32), Sim Rel (fun S => fX10_warp FU S x1 x2) (fun S => fX11_warp FU S x1 x2)) (h_best : ∀ (x1 x2 x3 : Int32), Sim Rel (fun S => fX10_best FU S x1 x2 x3) (fun S => fX11_best FU S x1 x2 x3)) (h_press : ∀ (x1 x2 x3 x4 : Int32), Sim Rel (fun S => fX10_press FU S x1 x2 x3 x4) (fun S => fX11_press FU S x1 x2 x3 x4)) (h_glue : ∀ (x1 x2 : Int32), Sim Rel (fun S => fX10_glue FU S x1 x2) (fun S => fX11_glue FU S x1 x2)) (h_drop : Sim Rel (fun S => fX10_drop FU S) (fun S => fX11_drop FU S)) (h_plan : ∀ (x1 : Int32), Sim Rel (fun S => fX10_plan FU S x1) (fun S => fX11_plan FU S x1)) (h_load : ∀ (x1 x2 : Int32), Sim Rel (fun S => fX10_load FU S x1 x2) (fun S => fX11_load FU S x1 x2)) (h_about : ∀ (x1 : Int32), Sim Rel (fun S => fX10_about FU S x1) (fun S => fX11_about FU S x1)) : ∀ (n i : Nat) (SC SM : ST), i ≤ lL E + 6 → lL E + 1 ≤ i + n → Rel SC SM → GL E SC SM 18 [(0, .ref (lB E)), (1, .ref (lC E 0)), (2, .ref (lM E 0)), (3, .int (nI i))] []
  | 0, i, SC, SM, h1, h2, hR => by
    refine tl_iload_n X 3 rfl dL_law_18 ?_
    refine tl_aload_n X 0 rfl dL_law_19 ?_
    refine tl_slen X dL_law_20 ?_
    refine tl_bipush (v := 6) X (by decide) dL_law_21 ?_
    refine tl_isub X dL_law_23 ?_
    refine tl_gt (tgt := 881) X dL_law_24 (by decide) (fun _ => ?_) (fun h => absurd (law_ex (by omega) (by omega) (by omega)) h)
    refine tl_iconst (v := 1) X (by decide) dL_law_881 ?_
    exact tl_ret X dL_law_882
  | n + 1, i, SC, SM, h1, h2, hR => by
    have ih := law_loop X hL h_net h_centre h_full h_feed h_end h_grades h_fault h_leaf h_patch h_sheet h_worth h_sheets h_clipped h_veneer h_board h_warp h_best h_press h_glue h_drop h_plan h_load h_about n
    refine tl_iload_n X 3 rfl dL_law_18 ?_
    refine tl_aload_n X 0 rfl dL_law_19 ?_
    refine tl_slen X dL_law_20 ?_
    refine tl_bipush (v := 6) X (by decide) dL_law_21 ?_
    refine tl_isub X dL_law_23 ?_
    refine tl_gt (tgt := 881) X dL_law_24 (by decide) (fun _ => ?_) (fun h => ?_)
    · refine tl_iconst (v := 1) X (by decide) dL_law_881 ?_
      exact tl_ret X dL_law_882
    · have hi : i + 6 ≤ lL E := law_in (by omega) (by omega) h
      have hin : ∀ k : Nat, k < 6 → vp_in (nI i + nI k) (lL E) := fun k hk => by rw [nI_add]; exact vp_in_nI (by omega) (by omega)
      have hsx : ∀ k : Nat, k < 6 → lX E (nI i + nI k).toNatClampNeg = lX E (i + k) := fun k hk => by rw [nI_add, nI_clamp (by omega)]
      have hnext : ∀ SC2 SM2, Rel SC2 SM2 → GL E SC2 SM2 875 [(0, .ref (lB E)), (1, .ref (lC E 0)), (2, .ref (lM E 0)), (3, .int (nI i))] [] := fun SC2 SM2 hR2 => by
        refine tl_iinc (v := nI (i + 6)) (lv' := [(0, _), (1, _), (2, _), (3, _)]) X 3 rfl (by rw [← nI_add]; rfl) (by decide) rfl dL_law_875 ?_
        refine tl_goto (tgt := 18) X dL_law_878 (by decide) ?_
        exact ih (i + 6) SC2 SM2 (by omega) (by omega) hR2
      refine tl_aload_n X 0 rfl dL_law_27 ?_
      refine tl_iload_n X 3 rfl dL_law_28 ?_
      refine tl_sld (v := lX E i) X (vp_in_nI (by omega) (by omega)) (by rw [nI_clamp (by omega)]) dL_law_29 ?_
      refine tl_bipush (v := 31) X (by decide) dL_law_30 ?_
      refine tl_iand X dL_law_32 ?_
      by_cases c0 : (lX E i &&& 31) = 0
      · refine tl_tsIn (tgt := 140) X (0) c0 dL_law_33 (by decide) (by decide) rfl (by decide) ?_
        exact case_0 X h_net hR hin hsx hnext
      by_cases c1 : (lX E i &&& 31) = 1
      · refine tl_tsIn (tgt := 173) X (1) c1 dL_law_33 (by decide) (by decide) rfl (by decide) ?_
        exact case_1 X h_centre hR hin hsx hnext
      by_cases c2 : (lX E i &&& 31) = 2
      · refine tl_tsIn (tgt := 196) X (2) c2 dL_law_33 (by decide) (by decide) rfl (by decide) ?_
        exact case_2 X h_full hR hin hsx hnext
      by_cases c3 : (lX E i &&& 31) = 3
      · refine tl_tsIn (tgt := 229) X (3) c3 dL_law_33 (by decide) (by decide) rfl (by decide) ?_
        exact case_3 X h_feed hR hin hsx hnext
      by_cases c4 : (lX E i &&& 31) = 4
      · refine tl_tsIn (tgt := 292) X (4) c4 dL_law_33 (by decide) (by decide) rfl (by decide) ?_
        exact case_4 X h_end hR hin hsx hnext
      by_cases c5 : (lX E i &&& 31) = 5
      · refine tl_tsIn (tgt := 315) X (5) c5 dL_law_33 (by decide) (by decide) rfl (by decide) ?_
        exact case_5 X h_grades hR hin hsx hnext
      by_cases c6 : (lX E i &&& 31) = 6
      · refine tl_tsIn (tgt := 328) X (6) c6 dL_law_33 (by decide) (by decide) rfl (by decide) ?_
        exact case_6 X h_fault hR hin hsx hnext
      by_cases c7 : (lX E i &&& 31) = 7
      · refine tl_tsIn (tgt := 351) X (7) c7 dL_law_33 (by decide) (by decide) rfl (by decide) ?_
        exact case_7 X h_leaf hR hin hsx hnext
      by_cases c8 : (lX E i &&& 31) = 8
      · refine tl_tsIn (tgt := 364) X (8) c8 dL_law_33 (by decide) (by decide) rfl (by decide) ?_
        exact case_8 X h_patch hR hin hsx hnext
      by_cases c9 : (lX E i &&& 31) = 9
      · refine tl_tsIn (tgt := 397) X (9) c9 dL_law_33 (by decide) (by decide) rfl (by decide) ?_
        exact case_9 X h_sheet hR hin hsx hnext
      by_cases c10 : (lX E i &&& 31) = 10
      · refine tl_tsIn (tgt := 440) X (10) c10 dL_law_33 (by decide) (by decide) rfl (by decide) ?_
        exact case_10 X h_worth hR hin hsx hnext
      by_cases c11 : (lX E i &&& 31) = 11
      · refine tl_tsIn (tgt := 453) X (11) c11 dL_law_33 (by decide) (by decide) rfl (by decide) ?_
        exact case_11 X h_sheets hR hin hsx hnext
      by_cases c12 : (lX E i &&& 31) = 12
      · refine tl_tsIn (tgt := 466) X (12) c12 dL_law_33 (by decide) (by decide) rfl (by decide) ?_
        exact case_12 X h_clipped hR hin hsx hnext
      by_cases c13 : (lX E i &&& 31) = 13
      · refine tl_tsIn (tgt := 499) X (13) c13 dL_law_33 (by decide) (by decide) rfl (by decide) ?_
        exact case_13 X h_veneer hR hin hsx hnext
      by_cases c14 : (lX E i &&& 31) = 14
      · refine tl_tsIn (tgt := 578) X (14) c14 dL_law_33 (by decide) (by decide) rfl (by decide) ?_
        exact case_14 X h_board hR hin hsx hnext
      by_cases c15 : (lX E i &&& 31) = 15
      · refine tl_tsIn (tgt := 621) X (15) c15 dL_law_33 (by decide) (by decide) rfl (by decide) ?_
        exact case_15 X h_warp hR hin hsx hnext
      by_cases c16 : (lX E i &&& 31) = 16
      · refine tl_tsIn (tgt := 654) X (16) c16 dL_law_33 (by decide) (by decide) rfl (by decide) ?_
        exact case_16 X h_best hR hin hsx hnext
      by_cases c17 : (lX E i &&& 31) = 17
      · refine tl_tsIn (tgt := 697) X (17) c17 dL_law_33 (by decide) (by decide) rfl (by decide) ?_
        exact case_17 X h_press hR hin hsx hnext
      by_cases c18 : (lX E i &&& 31) = 18
      · refine tl_tsIn (tgt := 750) X (18) c18 dL_law_33 (by decide) (by decide) rfl (by decide) ?_
        exact case_18 X h_glue hR hin hsx hnext
      by_cases c19 : (lX E i &&& 31) = 19
      · refine tl_tsIn (tgt := 783) X (19) c19 dL_law_33 (by decide) (by decide) rfl (by decide) ?_
        exact case_19 X h_drop hR hin hsx hnext
      by_cases c20 : (lX E i &&& 31) = 20
      · refine tl_tsIn (tgt := 796) X (20) c20 dL_law_33 (by decide) (by decide) rfl (by decide) ?_
        exact case_20 X h_plan hR hin hsx hnext
      by_cases c21 : (lX E i &&& 31) = 21
      · refine tl_tsIn (tgt := 819) X (21) c21 dL_law_33 (by decide) (by decide) rfl (by decide) ?_
        exact case_21 X h_load hR hin hsx hnext
      by_cases c22 : (lX E i &&& 31) = 22
      · refine tl_tsIn (tgt := 852) X (22) c22 dL_law_33 (by decide) (by decide) rfl (by decide) ?_
        exact case_22 X h_about hR hin hsx hnext
      refine tl_tsOut (tgt := 875) X (law_out c0 c1 c2 c3 c4 c5 c6 c7 c8 c9 c10 c11 c12 c13 c14 c15 c16 c17 c18 c19 c20 c21 c22) dL_law_33 (by decide) ?_
      exact hnext SC SM hR
