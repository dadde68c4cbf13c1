set_option maxRecDepth 20000 in
set_option maxHeartbeats 4000000 in
theorem nX11_init (b : Nat) : IMet yX11_init cX11_init 2 1 32 16078 [.ref b] [(b, .inr (11, [.null, .int 0, .int 0, .int 0, .null, .int 0, .int 0, .int 0, .int 0, .int 0, .int 0, .int 0, .int 0, .long 0, .int 0, .null, .null, .null, .null, .null, .int 0, .int 0, .int 0, .null, .null, .null, .null, .null, .null, .int 0, .int 0, .null, .int 0, .int 0, .int 0, .null, .null, .null, .null, .null, .null, .null, .null, .int 0, .null, .null, .null, .null, .null, .int 0, .int 0, .int 0, .int 0, .int 0, .null, .null, .null, .null, .null, .int 0, .int 0]))] (fun cI cZ u => sW layM (adF b u) cI cZ SM0) := by
  refine mk_init [(0, .ref b)] (by decide) rfl (Nat.le_of_ble_eq_true rfl) rfl (fun E X hend => ?_)
  refine j_aload_n X 0 rfl dX11_init_0 ?_
  refine j_objInit X ow_X11_1 oi_i oi_c (by decide) (Nat.le_of_ble_eq_true rfl) dX11_init_1 ?_
  refine j_aload_n X 0 rfl dX11_init_4 ?_
  refine j_bipush (v := 24) X (by decide) dX11_init_5 ?_
  refine j_newI X 24 aw_int (by decide) (by decide) (by decide) (by decide) (by decide) dX11_init_7 (fun q7 => ?_)
  refine j_norm (ws' := ((_, _) :: (_, _) :: [])) rfl ?_
  refine j_putF (ws' := ((_, .inr (11, _ :: _ :: _ :: _ :: _ :: _ :: _ :: _ :: _ :: _ :: _ :: _ :: _ :: _ :: _ :: _ :: _ :: _ :: _ :: _ :: _ :: _ :: _ :: _ :: _ :: _ :: _ :: _ :: _ :: _ :: _ :: _ :: _ :: _ :: _ :: _ :: _ :: _ :: _ :: _ :: _ :: _ :: _ :: _ :: _ :: _ :: _ :: _ :: _ :: _ :: _ :: _ :: _ :: _ :: _ :: _ :: _ :: _ :: _ :: _ :: _ :: [])) :: (_, _) :: [])) X 0 (.array .int) cok_11 tf_X11_7 rfl (by decide) rfl rfl (by decide +kernel) rfl rfl (Nat.le_of_ble_eq_true rfl) rfl dX11_init_9 ?_
  refine j_aload_n X 0 rfl dX11_init_12 ?_
  refine j_sipush (v := 600) X (by decide) dX11_init_13 ?_
  refine j_newI X 600 aw_int (by decide) (by decide) (by decide) (by decide) (by decide) dX11_init_16 (fun q16 => ?_)
  refine j_norm (ws' := ((_, _) :: (_, _) :: (_, _) :: [])) rfl ?_
  refine j_putF (ws' := ((_, .inr (11, _ :: _ :: _ :: _ :: _ :: _ :: _ :: _ :: _ :: _ :: _ :: _ :: _ :: _ :: _ :: _ :: _ :: _ :: _ :: _ :: _ :: _ :: _ :: _ :: _ :: _ :: _ :: _ :: _ :: _ :: _ :: _ :: _ :: _ :: _ :: _ :: _ :: _ :: _ :: _ :: _ :: _ :: _ :: _ :: _ :: _ :: _ :: _ :: _ :: _ :: _ :: _ :: _ :: _ :: _ :: _ :: _ :: _ :: _ :: _ :: _ :: [])) :: (_, _) :: (_, _) :: [])) X 0 (.array .int) cok_11 tf_X11_13 rfl (by decide) rfl rfl (by decide +kernel) rfl rfl (Nat.le_of_ble_eq_true rfl) rfl dX11_init_18 ?_
  refine j_aload_n X 0 rfl dX11_init_21 ?_
  refine j_iconst (v := -1) X (by decide) dX11_init_22 ?_
  refine j_put (ws' := ((_, .inr (11, _ :: _ :: _ :: _ :: _ :: _ :: _ :: _ :: _ :: _ :: _ :: _ :: _ :: _ :: _ :: _ :: _ :: _ :: _ :: _ :: _ :: _ :: _ :: _ :: _ :: _ :: _ :: _ :: _ :: _ :: _ :: _ :: _ :: _ :: _ :: _ :: _ :: _ :: _ :: _ :: _ :: _ :: _ :: _ :: _ :: _ :: _ :: _ :: _ :: _ :: _ :: _ :: _ :: _ :: _ :: _ :: _ :: _ :: _ :: _ :: _ :: [])) :: (_, _) :: (_, _) :: [])) X 0 .int cok_11 lf_X11_16 rfl (by decide) rfl (by decide +kernel) rfl rfl (Nat.le_of_ble_eq_true rfl) rfl dX11_init_23 ?_
  refine j_aload_n X 0 rfl dX11_init_26 ?_
  refine j_bipush (v := 8) X (by decide) dX11_init_27 ?_
  refine j_newI X 8 aw_int (by decide) (by decide) (by decide) (by decide) (by decide) dX11_init_29 (fun q29 => ?_)
  refine j_norm (ws' := ((_, _) :: (_, _) :: (_, _) :: (_, _) :: [])) rfl ?_
  refine j_putF (ws' := ((_, .inr (11, _ :: _ :: _ :: _ :: _ :: _ :: _ :: _ :: _ :: _ :: _ :: _ :: _ :: _ :: _ :: _ :: _ :: _ :: _ :: _ :: _ :: _ :: _ :: _ :: _ :: _ :: _ :: _ :: _ :: _ :: _ :: _ :: _ :: _ :: _ :: _ :: _ :: _ :: _ :: _ :: _ :: _ :: _ :: _ :: _ :: _ :: _ :: _ :: _ :: _ :: _ :: _ :: _ :: _ :: _ :: _ :: _ :: _ :: _ :: _ :: _ :: [])) :: (_, _) :: (_, _) :: (_, _) :: [])) X 0 (.array .int) cok_11 tf_X11_20 rfl (by decide) rfl rfl (by decide +kernel) rfl rfl (Nat.le_of_ble_eq_true rfl) rfl dX11_init_31 ?_
  refine j_aload_n X 0 rfl dX11_init_34 ?_
  refine j_bipush (v := 8) X (by decide) dX11_init_35 ?_
  refine j_newI X 8 aw_int (by decide) (by decide) (by decide) (by decide) (by decide) dX11_init_37 (fun q37 => ?_)
  refine j_norm (ws' := ((_, _) :: (_, _) :: (_, _) :: (_, _) :: (_, _) :: [])) rfl ?_
  refine j_putF (ws' := ((_, .inr (11, _ :: _ :: _ :: _ :: _ :: _ :: _ :: _ :: _ :: _ :: _ :: _ :: _ :: _ :: _ :: _ :: _ :: _ :: _ :: _ :: _ :: _ :: _ :: _ :: _ :: _ :: _ :: _ :: _ :: _ :: _ :: _ :: _ :: _ :: _ :: _ :: _ :: _ :: _ :: _ :: _ :: _ :: _ :: _ :: _ :: _ :: _ :: _ :: _ :: _ :: _ :: _ :: _ :: _ :: _ :: _ :: _ :: _ :: _ :: _ :: _ :: [])) :: (_, _) :: (_, _) :: (_, _) :: (_, _) :: [])) X 0 (.array .int) cok_11 tf_X11_23 rfl (by decide) rfl rfl (by decide +kernel) rfl rfl (Nat.le_of_ble_eq_true rfl) rfl dX11_init_39 ?_
  refine j_aload_n X 0 rfl dX11_init_42 ?_
  refine j_sipush (v := 600) X (by decide) dX11_init_43 ?_
  refine j_newI X 600 aw_int (by decide) (by decide) (by decide) (by decide) (by decide) dX11_init_46 (fun q46 => ?_)
  refine j_norm (ws' := ((_, _) :: (_, _) :: (_, _) :: (_, _) :: (_, _) :: (_, _) :: [])) rfl ?_
  refine j_putF (ws' := ((_, .inr (11, _ :: _ :: _ :: _ :: _ :: _ :: _ :: _ :: _ :: _ :: _ :: _ :: _ :: _ :: _ :: _ :: _ :: _ :: _ :: _ :: _ :: _ :: _ :: _ :: _ :: _ :: _ :: _ :: _ :: _ :: _ :: _ :: _ :: _ :: _ :: _ :: _ :: _ :: _ :: _ :: _ :: _ :: _ :: _ :: _ :: _ :: _ :: _ :: _ :: _ :: _ :: _ :: _ :: _ :: _ :: _ :: _ :: _ :: _ :: _ :: _ :: [])) :: (_, _) :: (_, _) :: (_, _) :: (_, _) :: (_, _) :: [])) X 0 (.array .int) cok_11 tf_X11_26 rfl (by decide) rfl rfl (by decide +kernel) rfl rfl (Nat.le_of_ble_eq_true rfl) rfl dX11_init_48 ?_
  refine j_aload_n X 0 rfl dX11_init_51 ?_
  refine j_sipush (v := 600) X (by decide) dX11_init_52 ?_
  refine j_newI X 600 aw_int (by decide) (by decide) (by decide) (by decide) (by decide) dX11_init_55 (fun q55 => ?_)
  refine j_norm (ws' := ((_, _) :: (_, _) :: (_, _) :: (_, _) :: (_, _) :: (_, _) :: (_, _) :: [])) rfl ?_
  refine j_putF (ws' := ((_, .inr (11, _ :: _ :: _ :: _ :: _ :: _ :: _ :: _ :: _ :: _ :: _ :: _ :: _ :: _ :: _ :: _ :: _ :: _ :: _ :: _ :: _ :: _ :: _ :: _ :: _ :: _ :: _ :: _ :: _ :: _ :: _ :: _ :: _ :: _ :: _ :: _ :: _ :: _ :: _ :: _ :: _ :: _ :: _ :: _ :: _ :: _ :: _ :: _ :: _ :: _ :: _ :: _ :: _ :: _ :: _ :: _ :: _ :: _ :: _ :: _ :: _ :: [])) :: (_, _) :: (_, _) :: (_, _) :: (_, _) :: (_, _) :: (_, _) :: [])) X 0 (.array .int) cok_11 tf_X11_29 rfl (by decide) rfl rfl (by decide +kernel) rfl rfl (Nat.le_of_ble_eq_true rfl) rfl dX11_init_57 ?_
  refine j_aload_n X 0 rfl dX11_init_60 ?_
  refine j_bipush (v := 9) X (by decide) dX11_init_61 ?_
  refine j_newI X 9 aw_int (by decide) (by decide) (by decide) (by decide) (by decide) dX11_init_63 (fun q63 => ?_)
  refine j_norm (ws' := ((_, _) :: (_, _) :: (_, _) :: (_, _) :: (_, _) :: (_, _) :: (_, _) :: (_, _) :: [])) rfl ?_
  refine j_putF (ws' := ((_, .inr (11, _ :: _ :: _ :: _ :: _ :: _ :: _ :: _ :: _ :: _ :: _ :: _ :: _ :: _ :: _ :: _ :: _ :: _ :: _ :: _ :: _ :: _ :: _ :: _ :: _ :: _ :: _ :: _ :: _ :: _ :: _ :: _ :: _ :: _ :: _ :: _ :: _ :: _ :: _ :: _ :: _ :: _ :: _ :: _ :: _ :: _ :: _ :: _ :: _ :: _ :: _ :: _ :: _ :: _ :: _ :: _ :: _ :: _ :: _ :: _ :: _ :: [])) :: (_, _) :: (_, _) :: (_, _) :: (_, _) :: (_, _) :: (_, _) :: (_, _) :: [])) X 0 (.array .int) cok_11 tf_X11_32 rfl (by decide) rfl rfl (by decide +kernel) rfl rfl (Nat.le_of_ble_eq_true rfl) rfl dX11_init_65 ?_
  refine j_aload_n X 0 rfl dX11_init_68 ?_
  refine j_bipush (v := 8) X (by decide) dX11_init_69 ?_
  refine j_newI X 8 aw_int (by decide) (by decide) (by decide) (by decide) (by decide) dX11_init_71 (fun q71 => ?_)
  refine j_norm (ws' := ((_, _) :: (_, _) :: (_, _) :: (_, _) :: (_, _) :: (_, _) :: (_, _) :: (_, _) :: (_, _) :: [])) rfl ?_
  refine j_putF (ws' := ((_, .inr (11, _ :: _ :: _ :: _ :: _ :: _ :: _ :: _ :: _ :: _ :: _ :: _ :: _ :: _ :: _ :: _ :: _ :: _ :: _ :: _ :: _ :: _ :: _ :: _ :: _ :: _ :: _ :: _ :: _ :: _ :: _ :: _ :: _ :: _ :: _ :: _ :: _ :: _ :: _ :: _ :: _ :: _ :: _ :: _ :: _ :: _ :: _ :: _ :: _ :: _ :: _ :: _ :: _ :: _ :: _ :: _ :: _ :: _ :: _ :: _ :: _ :: [])) :: (_, _) :: (_, _) :: (_, _) :: (_, _) :: (_, _) :: (_, _) :: (_, _) :: (_, _) :: [])) X 0 (.array .int) cok_11 tf_X11_35 rfl (by decide) rfl rfl (by decide +kernel) rfl rfl (Nat.le_of_ble_eq_true rfl) rfl dX11_init_73 ?_
  refine j_aload_n X 0 rfl dX11_init_76 ?_
  refine j_bipush (v := 8) X (by decide) dX11_init_77 ?_
  refine j_newI X 8 aw_int (by decide) (by decide) (by decide) (by decide) (by decide) dX11_init_79 (fun q79 => ?_)
  refine j_norm (ws' := ((_, _) :: (_, _) :: (_, _) :: (_, _) :: (_, _) :: (_, _) :: (_, _) :: (_, _) :: (_, _) :: (_, _) :: [])) rfl ?_
  refine j_putF (ws' := ((_, .inr (11, _ :: _ :: _ :: _ :: _ :: _ :: _ :: _ :: _ :: _ :: _ :: _ :: _ :: _ :: _ :: _ :: _ :: _ :: _ :: _ :: _ :: _ :: _ :: _ :: _ :: _ :: _ :: _ :: _ :: _ :: _ :: _ :: _ :: _ :: _ :: _ :: _ :: _ :: _ :: _ :: _ :: _ :: _ :: _ :: _ :: _ :: _ :: _ :: _ :: _ :: _ :: _ :: _ :: _ :: _ :: _ :: _ :: _ :: _ :: _ :: _ :: [])) :: (_, _) :: (_, _) :: (_, _) :: (_, _) :: (_, _) :: (_, _) :: (_, _) :: (_, _) :: (_, _) :: [])) X 0 (.array .int) cok_11 tf_X11_38 rfl (by decide) rfl rfl (by decide +kernel) rfl rfl (Nat.le_of_ble_eq_true rfl) rfl dX11_init_81 ?_
  refine j_aload_n X 0 rfl dX11_init_84 ?_
  refine j_sipush (v := 600) X (by decide) dX11_init_85 ?_
  refine j_newI X 600 aw_int (by decide) (by decide) (by decide) (by decide) (by decide) dX11_init_88 (fun q88 => ?_)
  refine j_norm (ws' := ((_, _) :: (_, _) :: (_, _) :: (_, _) :: (_, _) :: (_, _) :: (_, _) :: (_, _) :: (_, _) :: (_, _) :: (_, _) :: [])) rfl ?_
  refine j_putF (ws' := ((_, .inr (11, _ :: _ :: _ :: _ :: _ :: _ :: _ :: _ :: _ :: _ :: _ :: _ :: _ :: _ :: _ :: _ :: _ :: _ :: _ :: _ :: _ :: _ :: _ :: _ :: _ :: _ :: _ :: _ :: _ :: _ :: _ :: _ :: _ :: _ :: _ :: _ :: _ :: _ :: _ :: _ :: _ :: _ :: _ :: _ :: _ :: _ :: _ :: _ :: _ :: _ :: _ :: _ :: _ :: _ :: _ :: _ :: _ :: _ :: _ :: _ :: _ :: [])) :: (_, _) :: (_, _) :: (_, _) :: (_, _) :: (_, _) :: (_, _) :: (_, _) :: (_, _) :: (_, _) :: (_, _) :: [])) X 0 (.array .int) cok_11 tf_X11_41 rfl (by decide) rfl rfl (by decide +kernel) rfl rfl (Nat.le_of_ble_eq_true rfl) rfl dX11_init_90 ?_
  refine j_aload_n X 0 rfl dX11_init_93 ?_
  refine j_sipush (v := 600) X (by decide) dX11_init_94 ?_
  refine j_newI X 600 aw_int (by decide) (by decide) (by decide) (by decide) (by decide) dX11_init_97 (fun q97 => ?_)
  refine j_norm (ws' := ((_, _) :: (_, _) :: (_, _) :: (_, _) :: (_, _) :: (_, _) :: (_, _) :: (_, _) :: (_, _) :: (_, _) :: (_, _) :: (_, _) :: [])) rfl ?_
  refine j_putF (ws' := ((_, .inr (11, _ :: _ :: _ :: _ :: _ :: _ :: _ :: _ :: _ :: _ :: _ :: _ :: _ :: _ :: _ :: _ :: _ :: _ :: _ :: _ :: _ :: _ :: _ :: _ :: _ :: _ :: _ :: _ :: _ :: _ :: _ :: _ :: _ :: _ :: _ :: _ :: _ :: _ :: _ :: _ :: _ :: _ :: _ :: _ :: _ :: _ :: _ :: _ :: _ :: _ :: _ :: _ :: _ :: _ :: _ :: _ :: _ :: _ :: _ :: _ :: _ :: [])) :: (_, _) :: (_, _) :: (_, _) :: (_, _) :: (_, _) :: (_, _) :: (_, _) :: (_, _) :: (_, _) :: (_, _) :: (_, _) :: [])) X 0 (.array .int) cok_11 tf_X11_44 rfl (by decide) rfl rfl (by decide +kernel) rfl rfl (Nat.le_of_ble_eq_true rfl) rfl dX11_init_99 ?_
  refine j_aload_n X 0 rfl dX11_init_102 ?_
  refine j_bipush (v := 9) X (by decide) dX11_init_103 ?_
  refine j_newI X 9 aw_int (by decide) (by decide) (by decide) (by decide) (by decide) dX11_init_105 (fun q105 => ?_)
  refine j_norm (ws' := ((_, _) :: (_, _) :: (_, _) :: (_, _) :: (_, _) :: (_, _) :: (_, _) :: (_, _) :: (_, _) :: (_, _) :: (_, _) :: (_, _) :: (_, _) :: [])) rfl ?_
  refine j_putF (ws' := ((_, .inr (11, _ :: _ :: _ :: _ :: _ :: _ :: _ :: _ :: _ :: _ :: _ :: _ :: _ :: _ :: _ :: _ :: _ :: _ :: _ :: _ :: _ :: _ :: _ :: _ :: _ :: _ :: _ :: _ :: _ :: _ :: _ :: _ :: _ :: _ :: _ :: _ :: _ :: _ :: _ :: _ :: _ :: _ :: _ :: _ :: _ :: _ :: _ :: _ :: _ :: _ :: _ :: _ :: _ :: _ :: _ :: _ :: _ :: _ :: _ :: _ :: _ :: [])) :: (_, _) :: (_, _) :: (_, _) :: (_, _) :: (_, _) :: (_, _) :: (_, _) :: (_, _) :: (_, _) :: (_, _) :: (_, _) :: (_, _) :: [])) X 0 (.array .int) cok_11 tf_X11_47 rfl (by decide) rfl rfl (by decide +kernel) rfl rfl (Nat.le_of_ble_eq_true rfl) rfl dX11_init_107 ?_
  refine j_aload_n X 0 rfl dX11_init_110 ?_
  refine j_sipush (v := 300) X (by decide) dX11_init_111 ?_
  refine j_newI X 300 aw_int (by decide) (by decide) (by decide) (by decide) (by decide) dX11_init_114 (fun q114 => ?_)
  refine j_norm (ws' := ((_, _) :: (_, _) :: (_, _) :: (_, _) :: (_, _) :: (_, _) :: (_, _) :: (_, _) :: (_, _) :: (_, _) :: (_, _) :: (_, _) :: (_, _) :: (_, _) :: [])) rfl ?_
  refine j_putF (ws' := ((_, .inr (11, _ :: _ :: _ :: _ :: _ :: _ :: _ :: _ :: _ :: _ :: _ :: _ :: _ :: _ :: _ :: _ :: _ :: _ :: _ :: _ :: _ :: _ :: _ :: _ :: _ :: _ :: _ :: _ :: _ :: _ :: _ :: _ :: _ :: _ :: _ :: _ :: _ :: _ :: _ :: _ :: _ :: _ :: _ :: _ :: _ :: _ :: _ :: _ :: _ :: _ :: _ :: _ :: _ :: _ :: _ :: _ :: _ :: _ :: _ :: _ :: _ :: [])) :: (_, _) :: (_, _) :: (_, _) :: (_, _) :: (_, _) :: (_, _) :: (_, _) :: (_, _) :: (_, _) :: (_, _) :: (_, _) :: (_, _) :: (_, _) :: [])) X 0 (.array .int) cok_11 tf_X11_50 rfl (by decide) rfl rfl (by decide +kernel) rfl rfl (Nat.le_of_ble_eq_true rfl) rfl dX11_init_116 ?_
  refine j_aload_n X 0 rfl dX11_init_119 ?_
  refine j_sipush (v := 300) X (by decide) dX11_init_120 ?_
  refine j_newI X 300 aw_int (by decide) (by decide) (by decide) (by decide) (by decide) dX11_init_123 (fun q123 => ?_)
  refine j_norm (ws' := ((_, _) :: (_, _) :: (_, _) :: (_, _) :: (_, _) :: (_, _) :: (_, _) :: (_, _) :: (_, _) :: (_, _) :: (_, _) :: (_, _) :: (_, _) :: (_, _) :: (_, _) :: [])) rfl ?_
  refine j_putF (ws' := ((_, .inr (11, _ :: _ :: _ :: _ :: _ :: _ :: _ :: _ :: _ :: _ :: _ :: _ :: _ :: _ :: _ :: _ :: _ :: _ :: _ :: _ :: _ :: _ :: _ :: _ :: _ :: _ :: _ :: _ :: _ :: _ :: _ :: _ :: _ :: _ :: _ :: _ :: _ :: _ :: _ :: _ :: _ :: _ :: _ :: _ :: _ :: _ :: _ :: _ :: _ :: _ :: _ :: _ :: _ :: _ :: _ :: _ :: _ :: _ :: _ :: _ :: _ :: [])) :: (_, _) :: (_, _) :: (_, _) :: (_, _) :: (_, _) :: (_, _) :: (_, _) :: (_, _) :: (_, _) :: (_, _) :: (_, _) :: (_, _) :: (_, _) :: (_, _) :: [])) X 0 (.array .int) cok_11 tf_X11_53 rfl (by decide) rfl rfl (by decide +kernel) rfl rfl (Nat.le_of_ble_eq_true rfl) rfl dX11_init_125 ?_
  refine j_aload_n X 0 rfl dX11_init_128 ?_
  refine j_iconst (v := 1) X (by decide) dX11_init_129 ?_
  refine j_put (ws' := ((_, .inr (11, _ :: _ :: _ :: _ :: _ :: _ :: _ :: _ :: _ :: _ :: _ :: _ :: _ :: _ :: _ :: _ :: _ :: _ :: _ :: _ :: _ :: _ :: _ :: _ :: _ :: _ :: _ :: _ :: _ :: _ :: _ :: _ :: _ :: _ :: _ :: _ :: _ :: _ :: _ :: _ :: _ :: _ :: _ :: _ :: _ :: _ :: _ :: _ :: _ :: _ :: _ :: _ :: _ :: _ :: _ :: _ :: _ :: _ :: _ :: _ :: _ :: [])) :: (_, _) :: (_, _) :: (_, _) :: (_, _) :: (_, _) :: (_, _) :: (_, _) :: (_, _) :: (_, _) :: (_, _) :: (_, _) :: (_, _) :: (_, _) :: (_, _) :: [])) X 0 .int cok_11 lf_X11_56 rfl (by decide) rfl (by decide +kernel) rfl rfl (Nat.le_of_ble_eq_true rfl) rfl dX11_init_130 ?_
  refine j_aload_n X 0 rfl dX11_init_133 ?_
  refine j_iconst (v := 5) X (by decide) dX11_init_134 ?_
  refine j_newI X 5 aw_int (by decide) (by decide) (by decide) (by decide) (by decide) dX11_init_135 (fun q135 => ?_)
  refine j_norm (ws' := ((_, _) :: (_, _) :: (_, _) :: (_, _) :: (_, _) :: (_, _) :: (_, _) :: (_, _) :: (_, _) :: (_, _) :: (_, _) :: (_, _) :: (_, _) :: (_, _) :: (_, _) :: (_, _) :: [])) rfl ?_
  refine j_putF (ws' := ((_, .inr (11, _ :: _ :: _ :: _ :: _ :: _ :: _ :: _ :: _ :: _ :: _ :: _ :: _ :: _ :: _ :: _ :: _ :: _ :: _ :: _ :: _ :: _ :: _ :: _ :: _ :: _ :: _ :: _ :: _ :: _ :: _ :: _ :: _ :: _ :: _ :: _ :: _ :: _ :: _ :: _ :: _ :: _ :: _ :: _ :: _ :: _ :: _ :: _ :: _ :: _ :: _ :: _ :: _ :: _ :: _ :: _ :: _ :: _ :: _ :: _ :: _ :: [])) :: (_, _) :: (_, _) :: (_, _) :: (_, _) :: (_, _) :: (_, _) :: (_, _) :: (_, _) :: (_, _) :: (_, _) :: (_, _) :: (_, _) :: (_, _) :: (_, _) :: (_, _) :: [])) X 0 (.array .int) cok_11 tf_X11_59 rfl (by decide) rfl rfl (by decide +kernel) rfl rfl (Nat.le_of_ble_eq_true rfl) rfl dX11_init_137 ?_
  refine j_aload_n X 0 rfl dX11_init_140 ?_
  refine j_sipush (v := 200) X (by decide) dX11_init_141 ?_
  refine j_newI X 200 aw_int (by decide) (by decide) (by decide) (by decide) (by decide) dX11_init_144 (fun q144 => ?_)
  refine j_norm (ws' := ((_, _) :: (_, _) :: (_, _) :: (_, _) :: (_, _) :: (_, _) :: (_, _) :: (_, _) :: (_, _) :: (_, _) :: (_, _) :: (_, _) :: (_, _) :: (_, _) :: (_, _) :: (_, _) :: (_, _) :: [])) rfl ?_
  refine j_putF (ws' := ((_, .inr (11, _ :: _ :: _ :: _ :: _ :: _ :: _ :: _ :: _ :: _ :: _ :: _ :: _ :: _ :: _ :: _ :: _ :: _ :: _ :: _ :: _ :: _ :: _ :: _ :: _ :: _ :: _ :: _ :: _ :: _ :: _ :: _ :: _ :: _ :: _ :: _ :: _ :: _ :: _ :: _ :: _ :: _ :: _ :: _ :: _ :: _ :: _ :: _ :: _ :: _ :: _ :: _ :: _ :: _ :: _ :: _ :: _ :: _ :: _ :: _ :: _ :: [])) :: (_, _) :: (_, _) :: (_, _) :: (_, _) :: (_, _) :: (_, _) :: (_, _) :: (_, _) :: (_, _) :: (_, _) :: (_, _) :: (_, _) :: (_, _) :: (_, _) :: (_, _) :: (_, _) :: [])) X 0 (.array .int) cok_11 tf_X11_62 rfl (by decide) rfl rfl (by decide +kernel) rfl rfl (Nat.le_of_ble_eq_true rfl) rfl dX11_init_146 ?_
  refine j_aload_n X 0 rfl dX11_init_149 ?_
  refine j_sipush (v := 301) X (by decide) dX11_init_150 ?_
  refine j_newI X 301 aw_int (by decide) (by decide) (by decide) (by decide) (by decide) dX11_init_153 (fun q153 => ?_)
  refine j_norm (ws' := ((_, _) :: (_, _) :: (_, _) :: (_, _) :: (_, _) :: (_, _) :: (_, _) :: (_, _) :: (_, _) :: (_, _) :: (_, _) :: (_, _) :: (_, _) :: (_, _) :: (_, _) :: (_, _) :: (_, _) :: (_, _) :: [])) rfl ?_
  refine j_putF (ws' := ((_, .inr (11, _ :: _ :: _ :: _ :: _ :: _ :: _ :: _ :: _ :: _ :: _ :: _ :: _ :: _ :: _ :: _ :: _ :: _ :: _ :: _ :: _ :: _ :: _ :: _ :: _ :: _ :: _ :: _ :: _ :: _ :: _ :: _ :: _ :: _ :: _ :: _ :: _ :: _ :: _ :: _ :: _ :: _ :: _ :: _ :: _ :: _ :: _ :: _ :: _ :: _ :: _ :: _ :: _ :: _ :: _ :: _ :: _ :: _ :: _ :: _ :: _ :: [])) :: (_, _) :: (_, _) :: (_, _) :: (_, _) :: (_, _) :: (_, _) :: (_, _) :: (_, _) :: (_, _) :: (_, _) :: (_, _) :: (_, _) :: (_, _) :: (_, _) :: (_, _) :: (_, _) :: (_, _) :: [])) X 0 (.array .int) cok_11 tf_X11_65 rfl (by decide) rfl rfl (by decide +kernel) rfl rfl (Nat.le_of_ble_eq_true rfl) rfl dX11_init_155 ?_
  refine j_aload_n X 0 rfl dX11_init_158 ?_
  refine j_sipush (v := 301) X (by decide) dX11_init_159 ?_
  refine j_newI X 301 aw_int (by decide) (by decide) (by decide) (by decide) (by decide) dX11_init_162 (fun q162 => ?_)
  refine j_norm (ws' := ((_, _) :: (_, _) :: (_, _) :: (_, _) :: (_, _) :: (_, _) :: (_, _) :: (_, _) :: (_, _) :: (_, _) :: (_, _) :: (_, _) :: (_, _) :: (_, _) :: (_, _) :: (_, _) :: (_, _) :: (_, _) :: (_, _) :: [])) rfl ?_
  refine j_putF (ws' := ((_, .inr (11, _ :: _ :: _ :: _ :: _ :: _ :: _ :: _ :: _ :: _ :: _ :: _ :: _ :: _ :: _ :: _ :: _ :: _ :: _ :: _ :: _ :: _ :: _ :: _ :: _ :: _ :: _ :: _ :: _ :: _ :: _ :: _ :: _ :: _ :: _ :: _ :: _ :: _ :: _ :: _ :: _ :: _ :: _ :: _ :: _ :: _ :: _ :: _ :: _ :: _ :: _ :: _ :: _ :: _ :: _ :: _ :: _ :: _ :: _ :: _ :: _ :: [])) :: (_, _) :: (_, _) :: (_, _) :: (_, _) :: (_, _) :: (_, _) :: (_, _) :: (_, _) :: (_, _) :: (_, _) :: (_, _) :: (_, _) :: (_, _) :: (_, _) :: (_, _) :: (_, _) :: (_, _) :: (_, _) :: [])) X 0 (.array .int) cok_11 tf_X11_68 rfl (by decide) rfl rfl (by decide +kernel) rfl rfl (Nat.le_of_ble_eq_true rfl) rfl dX11_init_164 ?_
  refine j_aload_n X 0 rfl dX11_init_167 ?_
  refine j_sipush (v := 300) X (by decide) dX11_init_168 ?_
  refine j_newI X 300 aw_int (by decide) (by decide) (by decide) (by decide) (by decide) dX11_init_171 (fun q171 => ?_)
  refine j_norm (ws' := ((_, _) :: (_, _) :: (_, _) :: (_, _) :: (_, _) :: (_, _) :: (_, _) :: (_, _) :: (_, _) :: (_, _) :: (_, _) :: (_, _) :: (_, _) :: (_, _) :: (_, _) :: (_, _) :: (_, _) :: (_, _) :: (_, _) :: (_, _) :: [])) rfl ?_
  refine j_putF (ws' := ((_, .inr (11, _ :: _ :: _ :: _ :: _ :: _ :: _ :: _ :: _ :: _ :: _ :: _ :: _ :: _ :: _ :: _ :: _ :: _ :: _ :: _ :: _ :: _ :: _ :: _ :: _ :: _ :: _ :: _ :: _ :: _ :: _ :: _ :: _ :: _ :: _ :: _ :: _ :: _ :: _ :: _ :: _ :: _ :: _ :: _ :: _ :: _ :: _ :: _ :: _ :: _ :: _ :: _ :: _ :: _ :: _ :: _ :: _ :: _ :: _ :: _ :: _ :: [])) :: (_, _) :: (_, _) :: (_, _) :: (_, _) :: (_, _) :: (_, _) :: (_, _) :: (_, _) :: (_, _) :: (_, _) :: (_, _) :: (_, _) :: (_, _) :: (_, _) :: (_, _) :: (_, _) :: (_, _) :: (_, _) :: (_, _) :: [])) X 0 (.array .int) cok_11 tf_X11_71 rfl (by decide) rfl rfl (by decide +kernel) rfl rfl (Nat.le_of_ble_eq_true rfl) rfl dX11_init_173 ?_
  refine j_aload_n X 0 rfl dX11_init_176 ?_
  refine j_sipush (v := 300) X (by decide) dX11_init_177 ?_
  refine j_newI X 300 aw_int (by decide) (by decide) (by decide) (by decide) (by decide) dX11_init_180 (fun q180 => ?_)
  refine j_norm (ws' := ((_, _) :: (_, _) :: (_, _) :: (_, _) :: (_, _) :: (_, _) :: (_, _) :: (_, _) :: (_, _) :: (_, _) :: (_, _) :: (_, _) :: (_, _) :: (_, _) :: (_, _) :: (_, _) :: (_, _) :: (_, _) :: (_, _) :: (_, _) :: (_, _) :: [])) rfl ?_
  refine j_putF (ws' := ((_, .inr (11, _ :: _ :: _ :: _ :: _ :: _ :: _ :: _ :: _ :: _ :: _ :: _ :: _ :: _ :: _ :: _ :: _ :: _ :: _ :: _ :: _ :: _ :: _ :: _ :: _ :: _ :: _ :: _ :: _ :: _ :: _ :: _ :: _ :: _ :: _ :: _ :: _ :: _ :: _ :: _ :: _ :: _ :: _ :: _ :: _ :: _ :: _ :: _ :: _ :: _ :: _ :: _ :: _ :: _ :: _ :: _ :: _ :: _ :: _ :: _ :: _ :: [])) :: (_, _) :: (_, _) :: (_, _) :: (_, _) :: (_, _) :: (_, _) :: (_, _) :: (_, _) :: (_, _) :: (_, _) :: (_, _) :: (_, _) :: (_, _) :: (_, _) :: (_, _) :: (_, _) :: (_, _) :: (_, _) :: (_, _) :: (_, _) :: [])) X 0 (.array .int) cok_11 tf_X11_74 rfl (by decide) rfl rfl (by decide +kernel) rfl rfl (Nat.le_of_ble_eq_true rfl) rfl dX11_init_182 ?_
  refine j_aload_n X 0 rfl dX11_init_185 ?_
  refine j_sipush (v := 300) X (by decide) dX11_init_186 ?_
  refine j_newI X 300 aw_int (by decide) (by decide) (by decide) (by decide) (by decide) dX11_init_189 (fun q189 => ?_)
  refine j_norm (ws' := ((_, _) :: (_, _) :: (_, _) :: (_, _) :: (_, _) :: (_, _) :: (_, _) :: (_, _) :: (_, _) :: (_, _) :: (_, _) :: (_, _) :: (_, _) :: (_, _) :: (_, _) :: (_, _) :: (_, _) :: (_, _) :: (_, _) :: (_, _) :: (_, _) :: (_, _) :: [])) rfl ?_
  refine j_putF (ws' := ((_, .inr (11, _ :: _ :: _ :: _ :: _ :: _ :: _ :: _ :: _ :: _ :: _ :: _ :: _ :: _ :: _ :: _ :: _ :: _ :: _ :: _ :: _ :: _ :: _ :: _ :: _ :: _ :: _ :: _ :: _ :: _ :: _ :: _ :: _ :: _ :: _ :: _ :: _ :: _ :: _ :: _ :: _ :: _ :: _ :: _ :: _ :: _ :: _ :: _ :: _ :: _ :: _ :: _ :: _ :: _ :: _ :: _ :: _ :: _ :: _ :: _ :: _ :: [])) :: (_, _) :: (_, _) :: (_, _) :: (_, _) :: (_, _) :: (_, _) :: (_, _) :: (_, _) :: (_, _) :: (_, _) :: (_, _) :: (_, _) :: (_, _) :: (_, _) :: (_, _) :: (_, _) :: (_, _) :: (_, _) :: (_, _) :: (_, _) :: (_, _) :: [])) X 0 (.array .int) cok_11 tf_X11_77 rfl (by decide) rfl rfl (by decide +kernel) rfl rfl (Nat.le_of_ble_eq_true rfl) rfl dX11_init_191 ?_
  refine j_aload_n X 0 rfl dX11_init_194 ?_
  refine j_sipush (v := 9600) X (by decide) dX11_init_195 ?_
  refine j_newZ X 9600 aw_boolean (by decide) (by decide) (by decide) (by decide) (by decide) dX11_init_198 (fun q198 => ?_)
  refine j_norm (ws' := ((_, _) :: (_, _) :: (_, _) :: (_, _) :: (_, _) :: (_, _) :: (_, _) :: (_, _) :: (_, _) :: (_, _) :: (_, _) :: (_, _) :: (_, _) :: (_, _) :: (_, _) :: (_, _) :: (_, _) :: (_, _) :: (_, _) :: (_, _) :: (_, _) :: (_, _) :: (_, _) :: [])) rfl ?_
  refine j_putF (ws' := ((_, .inr (11, _ :: _ :: _ :: _ :: _ :: _ :: _ :: _ :: _ :: _ :: _ :: _ :: _ :: _ :: _ :: _ :: _ :: _ :: _ :: _ :: _ :: _ :: _ :: _ :: _ :: _ :: _ :: _ :: _ :: _ :: _ :: _ :: _ :: _ :: _ :: _ :: _ :: _ :: _ :: _ :: _ :: _ :: _ :: _ :: _ :: _ :: _ :: _ :: _ :: _ :: _ :: _ :: _ :: _ :: _ :: _ :: _ :: _ :: _ :: _ :: _ :: [])) :: (_, _) :: (_, _) :: (_, _) :: (_, _) :: (_, _) :: (_, _) :: (_, _) :: (_, _) :: (_, _) :: (_, _) :: (_, _) :: (_, _) :: (_, _) :: (_, _) :: (_, _) :: (_, _) :: (_, _) :: (_, _) :: (_, _) :: (_, _) :: (_, _) :: (_, _) :: [])) X 0 (.array .boolean) cok_11 tf_X11_80 rfl (by decide) rfl rfl (by decide +kernel) rfl rfl (Nat.le_of_ble_eq_true rfl) rfl dX11_init_200 ?_
  refine j_aload_n X 0 rfl dX11_init_203 ?_
  refine j_bipush (v := 6) X (by decide) dX11_init_204 ?_
  refine j_newI X 6 aw_int (by decide) (by decide) (by decide) (by decide) (by decide) dX11_init_206 (fun q206 => ?_)
  refine j_norm (ws' := ((_, _) :: (_, _) :: (_, _) :: (_, _) :: (_, _) :: (_, _) :: (_, _) :: (_, _) :: (_, _) :: (_, _) :: (_, _) :: (_, _) :: (_, _) :: (_, _) :: (_, _) :: (_, _) :: (_, _) :: (_, _) :: (_, _) :: (_, _) :: (_, _) :: (_, _) :: (_, _) :: (_, _) :: [])) rfl ?_
  refine j_putF (ws' := ((_, .inr (11, _ :: _ :: _ :: _ :: _ :: _ :: _ :: _ :: _ :: _ :: _ :: _ :: _ :: _ :: _ :: _ :: _ :: _ :: _ :: _ :: _ :: _ :: _ :: _ :: _ :: _ :: _ :: _ :: _ :: _ :: _ :: _ :: _ :: _ :: _ :: _ :: _ :: _ :: _ :: _ :: _ :: _ :: _ :: _ :: _ :: _ :: _ :: _ :: _ :: _ :: _ :: _ :: _ :: _ :: _ :: _ :: _ :: _ :: _ :: _ :: _ :: [])) :: (_, _) :: (_, _) :: (_, _) :: (_, _) :: (_, _) :: (_, _) :: (_, _) :: (_, _) :: (_, _) :: (_, _) :: (_, _) :: (_, _) :: (_, _) :: (_, _) :: (_, _) :: (_, _) :: (_, _) :: (_, _) :: (_, _) :: (_, _) :: (_, _) :: (_, _) :: (_, _) :: [])) X 0 (.array .int) cok_11 tf_X11_84 rfl (by decide) rfl rfl (by decide +kernel) rfl rfl (Nat.le_of_ble_eq_true rfl) rfl dX11_init_208 ?_
  refine j_aload_n X 0 rfl dX11_init_211 ?_
  refine j_bipush (v := 6) X (by decide) dX11_init_212 ?_
  refine j_newI X 6 aw_int (by decide) (by decide) (by decide) (by decide) (by decide) dX11_init_214 (fun q214 => ?_)
  refine j_norm (ws' := ((_, _) :: (_, _) :: (_, _) :: (_, _) :: (_, _) :: (_, _) :: (_, _) :: (_, _) :: (_, _) :: (_, _) :: (_, _) :: (_, _) :: (_, _) :: (_, _) :: (_, _) :: (_, _) :: (_, _) :: (_, _) :: (_, _) :: (_, _) :: (_, _) :: (_, _) :: (_, _) :: (_, _) :: (_, _) :: [])) rfl ?_
  refine j_putF (ws' := ((_, .inr (11, _ :: _ :: _ :: _ :: _ :: _ :: _ :: _ :: _ :: _ :: _ :: _ :: _ :: _ :: _ :: _ :: _ :: _ :: _ :: _ :: _ :: _ :: _ :: _ :: _ :: _ :: _ :: _ :: _ :: _ :: _ :: _ :: _ :: _ :: _ :: _ :: _ :: _ :: _ :: _ :: _ :: _ :: _ :: _ :: _ :: _ :: _ :: _ :: _ :: _ :: _ :: _ :: _ :: _ :: _ :: _ :: _ :: _ :: _ :: _ :: _ :: [])) :: (_, _) :: (_, _) :: (_, _) :: (_, _) :: (_, _) :: (_, _) :: (_, _) :: (_, _) :: (_, _) :: (_, _) :: (_, _) :: (_, _) :: (_, _) :: (_, _) :: (_, _) :: (_, _) :: (_, _) :: (_, _) :: (_, _) :: (_, _) :: (_, _) :: (_, _) :: (_, _) :: (_, _) :: [])) X 0 (.array .int) cok_11 tf_X11_87 rfl (by decide) rfl rfl (by decide +kernel) rfl rfl (Nat.le_of_ble_eq_true rfl) rfl dX11_init_216 ?_
  refine j_aload_n X 0 rfl dX11_init_219 ?_
  refine j_bipush (v := 6) X (by decide) dX11_init_220 ?_
  refine j_newI X 6 aw_int (by decide) (by decide) (by decide) (by decide) (by decide) dX11_init_222 (fun q222 => ?_)
  refine j_norm (ws' := ((_, _) :: (_, _) :: (_, _) :: (_, _) :: (_, _) :: (_, _) :: (_, _) :: (_, _) :: (_, _) :: (_, _) :: (_, _) :: (_, _) :: (_, _) :: (_, _) :: (_, _) :: (_, _) :: (_, _) :: (_, _) :: (_, _) :: (_, _) :: (_, _) :: (_, _) :: (_, _) :: (_, _) :: (_, _) :: (_, _) :: [])) rfl ?_
  refine j_putF (ws' := ((_, .inr (11, _ :: _ :: _ :: _ :: _ :: _ :: _ :: _ :: _ :: _ :: _ :: _ :: _ :: _ :: _ :: _ :: _ :: _ :: _ :: _ :: _ :: _ :: _ :: _ :: _ :: _ :: _ :: _ :: _ :: _ :: _ :: _ :: _ :: _ :: _ :: _ :: _ :: _ :: _ :: _ :: _ :: _ :: _ :: _ :: _ :: _ :: _ :: _ :: _ :: _ :: _ :: _ :: _ :: _ :: _ :: _ :: _ :: _ :: _ :: _ :: _ :: [])) :: (_, _) :: (_, _) :: (_, _) :: (_, _) :: (_, _) :: (_, _) :: (_, _) :: (_, _) :: (_, _) :: (_, _) :: (_, _) :: (_, _) :: (_, _) :: (_, _) :: (_, _) :: (_, _) :: (_, _) :: (_, _) :: (_, _) :: (_, _) :: (_, _) :: (_, _) :: (_, _) :: (_, _) :: (_, _) :: [])) X 0 (.array .int) cok_11 tf_X11_90 rfl (by decide) rfl rfl (by decide +kernel) rfl rfl (Nat.le_of_ble_eq_true rfl) rfl dX11_init_224 ?_
  refine j_aload_n X 0 rfl dX11_init_227 ?_
  refine j_bipush (v := 9) X (by decide) dX11_init_228 ?_
  refine j_newI X 9 aw_int (by decide) (by decide) (by decide) (by decide) (by decide) dX11_init_230 (fun q230 => ?_)
  refine j_norm (ws' := ((_, _) :: (_, _) :: (_, _) :: (_, _) :: (_, _) :: (_, _) :: (_, _) :: (_, _) :: (_, _) :: (_, _) :: (_, _) :: (_, _) :: (_, _) :: (_, _) :: (_, _) :: (_, _) :: (_, _) :: (_, _) :: (_, _) :: (_, _) :: (_, _) :: (_, _) :: (_, _) :: (_, _) :: (_, _) :: (_, _) :: (_, _) :: [])) rfl ?_
  refine j_putF (ws' := ((_, .inr (11, _ :: _ :: _ :: _ :: _ :: _ :: _ :: _ :: _ :: _ :: _ :: _ :: _ :: _ :: _ :: _ :: _ :: _ :: _ :: _ :: _ :: _ :: _ :: _ :: _ :: _ :: _ :: _ :: _ :: _ :: _ :: _ :: _ :: _ :: _ :: _ :: _ :: _ :: _ :: _ :: _ :: _ :: _ :: _ :: _ :: _ :: _ :: _ :: _ :: _ :: _ :: _ :: _ :: _ :: _ :: _ :: _ :: _ :: _ :: _ :: _ :: [])) :: (_, _) :: (_, _) :: (_, _) :: (_, _) :: (_, _) :: (_, _) :: (_, _) :: (_, _) :: (_, _) :: (_, _) :: (_, _) :: (_, _) :: (_, _) :: (_, _) :: (_, _) :: (_, _) :: (_, _) :: (_, _) :: (_, _) :: (_, _) :: (_, _) :: (_, _) :: (_, _) :: (_, _) :: (_, _) :: (_, _) :: [])) X 0 (.array .int) cok_11 tf_X11_93 rfl (by decide) rfl rfl (by decide +kernel) rfl rfl (Nat.le_of_ble_eq_true rfl) rfl dX11_init_232 ?_
  refine j_aload_n X 0 rfl dX11_init_235 ?_
  refine j_bipush (v := 6) X (by decide) dX11_init_236 ?_
  refine j_newZ X 6 aw_boolean (by decide) (by decide) (by decide) (by decide) (by decide) dX11_init_238 (fun q238 => ?_)
  refine j_norm (ws' := ((_, _) :: (_, _) :: (_, _) :: (_, _) :: (_, _) :: (_, _) :: (_, _) :: (_, _) :: (_, _) :: (_, _) :: (_, _) :: (_, _) :: (_, _) :: (_, _) :: (_, _) :: (_, _) :: (_, _) :: (_, _) :: (_, _) :: (_, _) :: (_, _) :: (_, _) :: (_, _) :: (_, _) :: (_, _) :: (_, _) :: (_, _) :: (_, _) :: [])) rfl ?_
  refine j_putF (ws' := ((_, .inr (11, _ :: _ :: _ :: _ :: _ :: _ :: _ :: _ :: _ :: _ :: _ :: _ :: _ :: _ :: _ :: _ :: _ :: _ :: _ :: _ :: _ :: _ :: _ :: _ :: _ :: _ :: _ :: _ :: _ :: _ :: _ :: _ :: _ :: _ :: _ :: _ :: _ :: _ :: _ :: _ :: _ :: _ :: _ :: _ :: _ :: _ :: _ :: _ :: _ :: _ :: _ :: _ :: _ :: _ :: _ :: _ :: _ :: _ :: _ :: _ :: _ :: [])) :: (_, _) :: (_, _) :: (_, _) :: (_, _) :: (_, _) :: (_, _) :: (_, _) :: (_, _) :: (_, _) :: (_, _) :: (_, _) :: (_, _) :: (_, _) :: (_, _) :: (_, _) :: (_, _) :: (_, _) :: (_, _) :: (_, _) :: (_, _) :: (_, _) :: (_, _) :: (_, _) :: (_, _) :: (_, _) :: (_, _) :: (_, _) :: [])) X 0 (.array .boolean) cok_11 tf_X11_96 rfl (by decide) rfl rfl (by decide +kernel) rfl rfl (Nat.le_of_ble_eq_true rfl) rfl dX11_init_240 ?_
  refine j_aload_n X 0 rfl dX11_init_243 ?_
  refine j_iconst (v := 1) X (by decide) dX11_init_244 ?_
  refine j_put (ws' := ((_, .inr (11, _ :: _ :: _ :: _ :: _ :: _ :: _ :: _ :: _ :: _ :: _ :: _ :: _ :: _ :: _ :: _ :: _ :: _ :: _ :: _ :: _ :: _ :: _ :: _ :: _ :: _ :: _ :: _ :: _ :: _ :: _ :: _ :: _ :: _ :: _ :: _ :: _ :: _ :: _ :: _ :: _ :: _ :: _ :: _ :: _ :: _ :: _ :: _ :: _ :: _ :: _ :: _ :: _ :: _ :: _ :: _ :: _ :: _ :: _ :: _ :: _ :: [])) :: (_, _) :: (_, _) :: (_, _) :: (_, _) :: (_, _) :: (_, _) :: (_, _) :: (_, _) :: (_, _) :: (_, _) :: (_, _) :: (_, _) :: (_, _) :: (_, _) :: (_, _) :: (_, _) :: (_, _) :: (_, _) :: (_, _) :: (_, _) :: (_, _) :: (_, _) :: (_, _) :: (_, _) :: (_, _) :: (_, _) :: (_, _) :: [])) X 0 .int cok_11 lf_X11_99 rfl (by decide) rfl (by decide +kernel) rfl rfl (Nat.le_of_ble_eq_true rfl) rfl dX11_init_245 ?_
  refine j_aload_n X 0 rfl dX11_init_248 ?_
  refine j_bipush (v := 10) X (by decide) dX11_init_249 ?_
  refine j_put (ws' := ((_, .inr (11, _ :: _ :: _ :: _ :: _ :: _ :: _ :: _ :: _ :: _ :: _ :: _ :: _ :: _ :: _ :: _ :: _ :: _ :: _ :: _ :: _ :: _ :: _ :: _ :: _ :: _ :: _ :: _ :: _ :: _ :: _ :: _ :: _ :: _ :: _ :: _ :: _ :: _ :: _ :: _ :: _ :: _ :: _ :: _ :: _ :: _ :: _ :: _ :: _ :: _ :: _ :: _ :: _ :: _ :: _ :: _ :: _ :: _ :: _ :: _ :: _ :: [])) :: (_, _) :: (_, _) :: (_, _) :: (_, _) :: (_, _) :: (_, _) :: (_, _) :: (_, _) :: (_, _) :: (_, _) :: (_, _) :: (_, _) :: (_, _) :: (_, _) :: (_, _) :: (_, _) :: (_, _) :: (_, _) :: (_, _) :: (_, _) :: (_, _) :: (_, _) :: (_, _) :: (_, _) :: (_, _) :: (_, _) :: (_, _) :: [])) X 0 .int cok_11 lf_X11_102 rfl (by decide) rfl (by decide +kernel) rfl rfl (Nat.le_of_ble_eq_true rfl) rfl dX11_init_251 ?_
  refine j_aload_n X 0 rfl dX11_init_254 ?_
  refine j_iconst (v := 1) X (by decide) dX11_init_255 ?_
  refine j_put (ws' := ((_, .inr (11, _ :: _ :: _ :: _ :: _ :: _ :: _ :: _ :: _ :: _ :: _ :: _ :: _ :: _ :: _ :: _ :: _ :: _ :: _ :: _ :: _ :: _ :: _ :: _ :: _ :: _ :: _ :: _ :: _ :: _ :: _ :: _ :: _ :: _ :: _ :: _ :: _ :: _ :: _ :: _ :: _ :: _ :: _ :: _ :: _ :: _ :: _ :: _ :: _ :: _ :: _ :: _ :: _ :: _ :: _ :: _ :: _ :: _ :: _ :: _ :: _ :: [])) :: (_, _) :: (_, _) :: (_, _) :: (_, _) :: (_, _) :: (_, _) :: (_, _) :: (_, _) :: (_, _) :: (_, _) :: (_, _) :: (_, _) :: (_, _) :: (_, _) :: (_, _) :: (_, _) :: (_, _) :: (_, _) :: (_, _) :: (_, _) :: (_, _) :: (_, _) :: (_, _) :: (_, _) :: (_, _) :: (_, _) :: (_, _) :: [])) X 0 .int cok_11 lf_X11_105 rfl (by decide) rfl (by decide +kernel) rfl rfl (Nat.le_of_ble_eq_true rfl) rfl dX11_init_256 ?_
  refine j_aload_n X 0 rfl dX11_init_259 ?_
  refine j_bipush (v := 60) X (by decide) dX11_init_260 ?_
  refine j_put (ws' := ((_, .inr (11, _ :: _ :: _ :: _ :: _ :: _ :: _ :: _ :: _ :: _ :: _ :: _ :: _ :: _ :: _ :: _ :: _ :: _ :: _ :: _ :: _ :: _ :: _ :: _ :: _ :: _ :: _ :: _ :: _ :: _ :: _ :: _ :: _ :: _ :: _ :: _ :: _ :: _ :: _ :: _ :: _ :: _ :: _ :: _ :: _ :: _ :: _ :: _ :: _ :: _ :: _ :: _ :: _ :: _ :: _ :: _ :: _ :: _ :: _ :: _ :: _ :: [])) :: (_, _) :: (_, _) :: (_, _) :: (_, _) :: (_, _) :: (_, _) :: (_, _) :: (_, _) :: (_, _) :: (_, _) :: (_, _) :: (_, _) :: (_, _) :: (_, _) :: (_, _) :: (_, _) :: (_, _) :: (_, _) :: (_, _) :: (_, _) :: (_, _) :: (_, _) :: (_, _) :: (_, _) :: (_, _) :: (_, _) :: (_, _) :: [])) X 0 .int cok_11 lf_X11_108 rfl (by decide) rfl (by decide +kernel) rfl rfl (Nat.le_of_ble_eq_true rfl) rfl dX11_init_262 ?_
  refine j_aload_n X 0 rfl dX11_init_265 ?_
  refine j_bipush (v := 10) X (by decide) dX11_init_266 ?_
  refine j_newI X 10 aw_int (by decide) (by decide) (by decide) (by decide) (by decide) dX11_init_268 (fun q268 => ?_)
  refine j_norm (ws' := ((_, _) :: (_, _) :: (_, _) :: (_, _) :: (_, _) :: (_, _) :: (_, _) :: (_, _) :: (_, _) :: (_, _) :: (_, _) :: (_, _) :: (_, _) :: (_, _) :: (_, _) :: (_, _) :: (_, _) :: (_, _) :: (_, _) :: (_, _) :: (_, _) :: (_, _) :: (_, _) :: (_, _) :: (_, _) :: (_, _) :: (_, _) :: (_, _) :: (_, _) :: [])) rfl ?_
  refine j_putF (ws' := ((_, .inr (11, _ :: _ :: _ :: _ :: _ :: _ :: _ :: _ :: _ :: _ :: _ :: _ :: _ :: _ :: _ :: _ :: _ :: _ :: _ :: _ :: _ :: _ :: _ :: _ :: _ :: _ :: _ :: _ :: _ :: _ :: _ :: _ :: _ :: _ :: _ :: _ :: _ :: _ :: _ :: _ :: _ :: _ :: _ :: _ :: _ :: _ :: _ :: _ :: _ :: _ :: _ :: _ :: _ :: _ :: _ :: _ :: _ :: _ :: _ :: _ :: _ :: [])) :: (_, _) :: (_, _) :: (_, _) :: (_, _) :: (_, _) :: (_, _) :: (_, _) :: (_, _) :: (_, _) :: (_, _) :: (_, _) :: (_, _) :: (_, _) :: (_, _) :: (_, _) :: (_, _) :: (_, _) :: (_, _) :: (_, _) :: (_, _) :: (_, _) :: (_, _) :: (_, _) :: (_, _) :: (_, _) :: (_, _) :: (_, _) :: (_, _) :: [])) X 0 (.array .int) cok_11 tf_X11_111 rfl (by decide) rfl rfl (by decide +kernel) rfl rfl (Nat.le_of_ble_eq_true rfl) rfl dX11_init_270 ?_
  refine j_aload_n X 0 rfl dX11_init_273 ?_
  refine j_bipush (v := 10) X (by decide) dX11_init_274 ?_
  refine j_newI X 10 aw_int (by decide) (by decide) (by decide) (by decide) (by decide) dX11_init_276 (fun q276 => ?_)
  refine j_norm (ws' := ((_, _) :: (_, _) :: (_, _) :: (_, _) :: (_, _) :: (_, _) :: (_, _) :: (_, _) :: (_, _) :: (_, _) :: (_, _) :: (_, _) :: (_, _) :: (_, _) :: (_, _) :: (_, _) :: (_, _) :: (_, _) :: (_, _) :: (_, _) :: (_, _) :: (_, _) :: (_, _) :: (_, _) :: (_, _) :: (_, _) :: (_, _) :: (_, _) :: (_, _) :: (_, _) :: [])) rfl ?_
  refine j_putF (ws' := ((_, .inr (11, _ :: _ :: _ :: _ :: _ :: _ :: _ :: _ :: _ :: _ :: _ :: _ :: _ :: _ :: _ :: _ :: _ :: _ :: _ :: _ :: _ :: _ :: _ :: _ :: _ :: _ :: _ :: _ :: _ :: _ :: _ :: _ :: _ :: _ :: _ :: _ :: _ :: _ :: _ :: _ :: _ :: _ :: _ :: _ :: _ :: _ :: _ :: _ :: _ :: _ :: _ :: _ :: _ :: _ :: _ :: _ :: _ :: _ :: _ :: _ :: _ :: [])) :: (_, _) :: (_, _) :: (_, _) :: (_, _) :: (_, _) :: (_, _) :: (_, _) :: (_, _) :: (_, _) :: (_, _) :: (_, _) :: (_, _) :: (_, _) :: (_, _) :: (_, _) :: (_, _) :: (_, _) :: (_, _) :: (_, _) :: (_, _) :: (_, _) :: (_, _) :: (_, _) :: (_, _) :: (_, _) :: (_, _) :: (_, _) :: (_, _) :: (_, _) :: [])) X 0 (.array .int) cok_11 tf_X11_114 rfl (by decide) rfl rfl (by decide +kernel) rfl rfl (Nat.le_of_ble_eq_true rfl) rfl dX11_init_278 ?_
  refine j_aload_n X 0 rfl dX11_init_281 ?_
  refine j_sipush (v := 1024) X (by decide) dX11_init_282 ?_
  refine j_newI X 1024 aw_int (by decide) (by decide) (by decide) (by decide) (by decide) dX11_init_285 (fun q285 => ?_)
  refine j_norm (ws' := ((_, _) :: (_, _) :: (_, _) :: (_, _) :: (_, _) :: (_, _) :: (_, _) :: (_, _) :: (_, _) :: (_, _) :: (_, _) :: (_, _) :: (_, _) :: (_, _) :: (_, _) :: (_, _) :: (_, _) :: (_, _) :: (_, _) :: (_, _) :: (_, _) :: (_, _) :: (_, _) :: (_, _) :: (_, _) :: (_, _) :: (_, _) :: (_, _) :: (_, _) :: (_, _) :: (_, _) :: [])) rfl ?_
  refine j_putF (ws' := ((_, .inr (11, _ :: _ :: _ :: _ :: _ :: _ :: _ :: _ :: _ :: _ :: _ :: _ :: _ :: _ :: _ :: _ :: _ :: _ :: _ :: _ :: _ :: _ :: _ :: _ :: _ :: _ :: _ :: _ :: _ :: _ :: _ :: _ :: _ :: _ :: _ :: _ :: _ :: _ :: _ :: _ :: _ :: _ :: _ :: _ :: _ :: _ :: _ :: _ :: _ :: _ :: _ :: _ :: _ :: _ :: _ :: _ :: _ :: _ :: _ :: _ :: _ :: [])) :: (_, _) :: (_, _) :: (_, _) :: (_, _) :: (_, _) :: (_, _) :: (_, _) :: (_, _) :: (_, _) :: (_, _) :: (_, _) :: (_, _) :: (_, _) :: (_, _) :: (_, _) :: (_, _) :: (_, _) :: (_, _) :: (_, _) :: (_, _) :: (_, _) :: (_, _) :: (_, _) :: (_, _) :: (_, _) :: (_, _) :: (_, _) :: (_, _) :: (_, _) :: (_, _) :: [])) X 0 (.array .int) cok_11 tf_X11_117 rfl (by decide) rfl rfl (by decide +kernel) rfl rfl (Nat.le_of_ble_eq_true rfl) rfl dX11_init_287 ?_
  refine j_aload_n X 0 rfl dX11_init_290 ?_
  refine j_bipush (v := 10) X (by decide) dX11_init_291 ?_
  refine j_newI X 10 aw_int (by decide) (by decide) (by decide) (by decide) (by decide) dX11_init_293 (fun q293 => ?_)
  refine j_norm (ws' := ((_, _) :: (_, _) :: (_, _) :: (_, _) :: (_, _) :: (_, _) :: (_, _) :: (_, _) :: (_, _) :: (_, _) :: (_, _) :: (_, _) :: (_, _) :: (_, _) :: (_, _) :: (_, _) :: (_, _) :: (_, _) :: (_, _) :: (_, _) :: (_, _) :: (_, _) :: (_, _) :: (_, _) :: (_, _) :: (_, _) :: (_, _) :: (_, _) :: (_, _) :: (_, _) :: (_, _) :: (_, _) :: [])) rfl ?_
  refine j_putF (ws' := ((_, .inr (11, _ :: _ :: _ :: _ :: _ :: _ :: _ :: _ :: _ :: _ :: _ :: _ :: _ :: _ :: _ :: _ :: _ :: _ :: _ :: _ :: _ :: _ :: _ :: _ :: _ :: _ :: _ :: _ :: _ :: _ :: _ :: _ :: _ :: _ :: _ :: _ :: _ :: _ :: _ :: _ :: _ :: _ :: _ :: _ :: _ :: _ :: _ :: _ :: _ :: _ :: _ :: _ :: _ :: _ :: _ :: _ :: _ :: _ :: _ :: _ :: _ :: [])) :: (_, _) :: (_, _) :: (_, _) :: (_, _) :: (_, _) :: (_, _) :: (_, _) :: (_, _) :: (_, _) :: (_, _) :: (_, _) :: (_, _) :: (_, _) :: (_, _) :: (_, _) :: (_, _) :: (_, _) :: (_, _) :: (_, _) :: (_, _) :: (_, _) :: (_, _) :: (_, _) :: (_, _) :: (_, _) :: (_, _) :: (_, _) :: (_, _) :: (_, _) :: (_, _) :: (_, _) :: [])) X 0 (.array .int) cok_11 tf_X11_120 rfl (by decide) rfl rfl (by decide +kernel) rfl rfl (Nat.le_of_ble_eq_true rfl) rfl dX11_init_295 ?_
  refine j_aload_n X 0 rfl dX11_init_298 ?_
  refine j_bipush (v := 10) X (by decide) dX11_init_299 ?_
  refine j_newI X 10 aw_int (by decide) (by decide) (by decide) (by decide) (by decide) dX11_init_301 (fun q301 => ?_)
  refine j_norm (ws' := ((_, _) :: (_, _) :: (_, _) :: (_, _) :: (_, _) :: (_, _) :: (_, _) :: (_, _) :: (_, _) :: (_, _) :: (_, _) :: (_, _) :: (_, _) :: (_, _) :: (_, _) :: (_, _) :: (_, _) :: (_, _) :: (_, _) :: (_, _) :: (_, _) :: (_, _) :: (_, _) :: (_, _) :: (_, _) :: (_, _) :: (_, _) :: (_, _) :: (_, _) :: (_, _) :: (_, _) :: (_, _) :: (_, _) :: [])) rfl ?_
  refine j_putF (ws' := ((_, .inr (11, _ :: _ :: _ :: _ :: _ :: _ :: _ :: _ :: _ :: _ :: _ :: _ :: _ :: _ :: _ :: _ :: _ :: _ :: _ :: _ :: _ :: _ :: _ :: _ :: _ :: _ :: _ :: _ :: _ :: _ :: _ :: _ :: _ :: _ :: _ :: _ :: _ :: _ :: _ :: _ :: _ :: _ :: _ :: _ :: _ :: _ :: _ :: _ :: _ :: _ :: _ :: _ :: _ :: _ :: _ :: _ :: _ :: _ :: _ :: _ :: _ :: [])) :: (_, _) :: (_, _) :: (_, _) :: (_, _) :: (_, _) :: (_, _) :: (_, _) :: (_, _) :: (_, _) :: (_, _) :: (_, _) :: (_, _) :: (_, _) :: (_, _) :: (_, _) :: (_, _) :: (_, _) :: (_, _) :: (_, _) :: (_, _) :: (_, _) :: (_, _) :: (_, _) :: (_, _) :: (_, _) :: (_, _) :: (_, _) :: (_, _) :: (_, _) :: (_, _) :: (_, _) :: (_, _) :: [])) X 0 (.array .int) cok_11 tf_X11_123 rfl (by decide) rfl rfl (by decide +kernel) rfl rfl (Nat.le_of_ble_eq_true rfl) rfl dX11_init_303 ?_
  refine j_iconst (v := 0) X (by decide) dX11_init_306 ?_
  refine j_istore_n (lv' := [(0, _), (1, _)]) X (by decide) rfl dX11_init_307 ?_
  refine j_iload_n X 1 rfl dX11_init_308 ?_
  refine j_bipush (v := 6) X (by decide) dX11_init_309 ?_
  refine j_icmp_geF (tgt := 342) X dX11_init_311 (by decide) (by decide) ?_
  refine j_aload_n X 0 rfl dX11_init_314 ?_
  refine j_get X 0 cok_11 lf_X11_84 rfl (by decide) rfl dX11_init_315 ?_
  refine j_iload_n X 1 rfl dX11_init_318 ?_
  refine j_bipush (v := 10) X (by decide) dX11_init_319 ?_
  refine j_iast (ws' := ((_, _) :: (_, _) :: (_, _) :: (_, _) :: (_, _) :: (_, _) :: (_, _) :: (_, _) :: (_, _) :: (_, _) :: (_, _) :: (_, _) :: (_, _) :: (_, _) :: (_, _) :: (_, _) :: (_, _) :: (_, _) :: (_, _) :: (_, _) :: (_, _) :: (_, _) :: (_, _) :: (_, .inl (_, _, .inl (_))) :: (_, _) :: (_, _) :: (_, _) :: (_, _) :: (_, _) :: (_, _) :: (_, _) :: (_, _) :: (_, _) :: [])) X 23 0 rfl (by decide) (by decide) rfl dX11_init_321 ?_
  refine j_aload_n X 0 rfl dX11_init_322 ?_
  refine j_get X 0 cok_11 lf_X11_90 rfl (by decide) rfl dX11_init_323 ?_
  refine j_iload_n X 1 rfl dX11_init_326 ?_
  refine j_iconst (v := 1) X (by decide) dX11_init_327 ?_
  refine j_iast (ws' := ((_, _) :: (_, _) :: (_, _) :: (_, _) :: (_, _) :: (_, _) :: (_, _) :: (_, _) :: (_, _) :: (_, _) :: (_, _) :: (_, _) :: (_, _) :: (_, _) :: (_, _) :: (_, _) :: (_, _) :: (_, _) :: (_, _) :: (_, _) :: (_, _) :: (_, _) :: (_, _) :: (_, _) :: (_, _) :: (_, .inl (_, _, .inl (_))) :: (_, _) :: (_, _) :: (_, _) :: (_, _) :: (_, _) :: (_, _) :: (_, _) :: [])) X 25 0 rfl (by decide) (by decide) rfl dX11_init_328 ?_
  refine j_aload_n X 0 rfl dX11_init_329 ?_
  refine j_get X 0 cok_11 lf_X11_96 rfl (by decide) rfl dX11_init_330 ?_
  refine j_iload_n X 1 rfl dX11_init_333 ?_
  refine j_iconst (v := 1) X (by decide) dX11_init_334 ?_
  refine j_zast (ws' := ((_, _) :: (_, _) :: (_, _) :: (_, _) :: (_, _) :: (_, _) :: (_, _) :: (_, _) :: (_, _) :: (_, _) :: (_, _) :: (_, _) :: (_, _) :: (_, _) :: (_, _) :: (_, _) :: (_, _) :: (_, _) :: (_, _) :: (_, _) :: (_, _) :: (_, _) :: (_, _) :: (_, _) :: (_, _) :: (_, _) :: (_, _) :: (_, .inl (_, _, .inl (_))) :: (_, _) :: (_, _) :: (_, _) :: (_, _) :: (_, _) :: [])) X 27 0 rfl (by decide) (by decide) rfl dX11_init_335 ?_
  refine j_iinc (v := 1) (lv' := [(0, _), (1, _)]) X 1 rfl (by decide) (by decide) rfl dX11_init_336 ?_
  refine j_goto (tgt := 308) X dX11_init_339 (by decide) ?_
  refine j_iload_n X 1 rfl dX11_init_308 ?_
  refine j_bipush (v := 6) X (by decide) dX11_init_309 ?_
  refine j_icmp_geF (tgt := 342) X dX11_init_311 (by decide) (by decide) ?_
  refine j_aload_n X 0 rfl dX11_init_314 ?_
  refine j_get X 0 cok_11 lf_X11_84 rfl (by decide) rfl dX11_init_315 ?_
  refine j_iload_n X 1 rfl dX11_init_318 ?_
  refine j_bipush (v := 10) X (by decide) dX11_init_319 ?_
  refine j_iast (ws' := ((_, _) :: (_, _) :: (_, _) :: (_, _) :: (_, _) :: (_, _) :: (_, _) :: (_, _) :: (_, _) :: (_, _) :: (_, _) :: (_, _) :: (_, _) :: (_, _) :: (_, _) :: (_, _) :: (_, _) :: (_, _) :: (_, _) :: (_, _) :: (_, _) :: (_, _) :: (_, _) :: (_, .inl (_, _, .inl (_))) :: (_, _) :: (_, _) :: (_, _) :: (_, _) :: (_, _) :: (_, _) :: (_, _) :: (_, _) :: (_, _) :: [])) X 23 1 rfl (by decide) (by decide) rfl dX11_init_321 ?_
  refine j_aload_n X 0 rfl dX11_init_322 ?_
  refine j_get X 0 cok_11 lf_X11_90 rfl (by decide) rfl dX11_init_323 ?_
  refine j_iload_n X 1 rfl dX11_init_326 ?_
  refine j_iconst (v := 1) X (by decide) dX11_init_327 ?_
  refine j_iast (ws' := ((_, _) :: (_, _) :: (_, _) :: (_, _) :: (_, _) :: (_, _) :: (_, _) :: (_, _) :: (_, _) :: (_, _) :: (_, _) :: (_, _) :: (_, _) :: (_, _) :: (_, _) :: (_, _) :: (_, _) :: (_, _) :: (_, _) :: (_, _) :: (_, _) :: (_, _) :: (_, _) :: (_, _) :: (_, _) :: (_, .inl (_, _, .inl (_))) :: (_, _) :: (_, _) :: (_, _) :: (_, _) :: (_, _) :: (_, _) :: (_, _) :: [])) X 25 1 rfl (by decide) (by decide) rfl dX11_init_328 ?_
  refine j_aload_n X 0 rfl dX11_init_329 ?_
  refine j_get X 0 cok_11 lf_X11_96 rfl (by decide) rfl dX11_init_330 ?_
  refine j_iload_n X 1 rfl dX11_init_333 ?_
  refine j_iconst (v := 1) X (by decide) dX11_init_334 ?_
  refine j_zast (ws' := ((_, _) :: (_, _) :: (_, _) :: (_, _) :: (_, _) :: (_, _) :: (_, _) :: (_, _) :: (_, _) :: (_, _) :: (_, _) :: (_, _) :: (_, _) :: (_, _) :: (_, _) :: (_, _) :: (_, _) :: (_, _) :: (_, _) :: (_, _) :: (_, _) :: (_, _) :: (_, _) :: (_, _) :: (_, _) :: (_, _) :: (_, _) :: (_, .inl (_, _, .inl (_))) :: (_, _) :: (_, _) :: (_, _) :: (_, _) :: (_, _) :: [])) X 27 1 rfl (by decide) (by decide) rfl dX11_init_335 ?_
  refine j_iinc (v := 2) (lv' := [(0, _), (1, _)]) X 1 rfl (by decide) (by decide) rfl dX11_init_336 ?_
  refine j_goto (tgt := 308) X dX11_init_339 (by decide) ?_
  refine j_iload_n X 1 rfl dX11_init_308 ?_
  refine j_bipush (v := 6) X (by decide) dX11_init_309 ?_
  refine j_icmp_geF (tgt := 342) X dX11_init_311 (by decide) (by decide) ?_
  refine j_aload_n X 0 rfl dX11_init_314 ?_
  refine j_get X 0 cok_11 lf_X11_84 rfl (by decide) rfl dX11_init_315 ?_
  refine j_iload_n X 1 rfl dX11_init_318 ?_
  refine j_bipush (v := 10) X (by decide) dX11_init_319 ?_
  refine j_iast (ws' := ((_, _) :: (_, _) :: (_, _) :: (_, _) :: (_, _) :: (_, _) :: (_, _) :: (_, _) :: (_, _) :: (_, _) :: (_, _) :: (_, _) :: (_, _) :: (_, _) :: (_, _) :: (_, _) :: (_, _) :: (_, _) :: (_, _) :: (_, _) :: (_, _) :: (_, _) :: (_, _) :: (_, .inl (_, _, .inl (_))) :: (_, _) :: (_, _) :: (_, _) :: (_, _) :: (_, _) :: (_, _) :: (_, _) :: (_, _) :: (_, _) :: [])) X 23 2 rfl (by decide) (by decide) rfl dX11_init_321 ?_
  refine j_aload_n X 0 rfl dX11_init_322 ?_
  refine j_get X 0 cok_11 lf_X11_90 rfl (by decide) rfl dX11_init_323 ?_
  refine j_iload_n X 1 rfl dX11_init_326 ?_
  refine j_iconst (v := 1) X (by decide) dX11_init_327 ?_
  refine j_iast (ws' := ((_, _) :: (_, _) :: (_, _) :: (_, _) :: (_, _) :: (_, _) :: (_, _) :: (_, _) :: (_, _) :: (_, _) :: (_, _) :: (_, _) :: (_, _) :: (_, _) :: (_, _) :: (_, _) :: (_, _) :: (_, _) :: (_, _) :: (_, _) :: (_, _) :: (_, _) :: (_, _) :: (_, _) :: (_, _) :: (_, .inl (_, _, .inl (_))) :: (_, _) :: (_, _) :: (_, _) :: (_, _) :: (_, _) :: (_, _) :: (_, _) :: [])) X 25 2 rfl (by decide) (by decide) rfl dX11_init_328 ?_
  refine j_aload_n X 0 rfl dX11_init_329 ?_
  refine j_get X 0 cok_11 lf_X11_96 rfl (by decide) rfl dX11_init_330 ?_
  refine j_iload_n X 1 rfl dX11_init_333 ?_
  refine j_iconst (v := 1) X (by decide) dX11_init_334 ?_
  refine j_zast (ws' := ((_, _) :: (_, _) :: (_, _) :: (_, _) :: (_, _) :: (_, _) :: (_, _) :: (_, _) :: (_, _) :: (_, _) :: (_, _) :: (_, _) :: (_, _) :: (_, _) :: (_, _) :: (_, _) :: (_, _) :: (_, _) :: (_, _) :: (_, _) :: (_, _) :: (_, _) :: (_, _) :: (_, _) :: (_, _) :: (_, _) :: (_, _) :: (_, .inl (_, _, .inl (_))) :: (_, _) :: (_, _) :: (_, _) :: (_, _) :: (_, _) :: [])) X 27 2 rfl (by decide) (by decide) rfl dX11_init_335 ?_
  refine j_iinc (v := 3) (lv' := [(0, _), (1, _)]) X 1 rfl (by decide) (by decide) rfl dX11_init_336 ?_
  refine j_goto (tgt := 308) X dX11_init_339 (by decide) ?_
  refine j_iload_n X 1 rfl dX11_init_308 ?_
  refine j_bipush (v := 6) X (by decide) dX11_init_309 ?_
  refine j_icmp_geF (tgt := 342) X dX11_init_311 (by decide) (by decide) ?_
  refine j_aload_n X 0 rfl dX11_init_314 ?_
  refine j_get X 0 cok_11 lf_X11_84 rfl (by decide) rfl dX11_init_315 ?_
  refine j_iload_n X 1 rfl dX11_init_318 ?_
  refine j_bipush (v := 10) X (by decide) dX11_init_319 ?_
  refine j_iast (ws' := ((_, _) :: (_, _) :: (_, _) :: (_, _) :: (_, _) :: (_, _) :: (_, _) :: (_, _) :: (_, _) :: (_, _) :: (_, _) :: (_, _) :: (_, _) :: (_, _) :: (_, _) :: (_, _) :: (_, _) :: (_, _) :: (_, _) :: (_, _) :: (_, _) :: (_, _) :: (_, _) :: (_, .inl (_, _, .inl (_))) :: (_, _) :: (_, _) :: (_, _) :: (_, _) :: (_, _) :: (_, _) :: (_, _) :: (_, _) :: (_, _) :: [])) X 23 3 rfl (by decide) (by decide) rfl dX11_init_321 ?_
  refine j_aload_n X 0 rfl dX11_init_322 ?_
  refine j_get X 0 cok_11 lf_X11_90 rfl (by decide) rfl dX11_init_323 ?_
  refine j_iload_n X 1 rfl dX11_init_326 ?_
  refine j_iconst (v := 1) X (by decide) dX11_init_327 ?_
  refine j_iast (ws' := ((_, _) :: (_, _) :: (_, _) :: (_, _) :: (_, _) :: (_, _) :: (_, _) :: (_, _) :: (_, _) :: (_, _) :: (_, _) :: (_, _) :: (_, _) :: (_, _) :: (_, _) :: (_, _) :: (_, _) :: (_, _) :: (_, _) :: (_, _) :: (_, _) :: (_, _) :: (_, _) :: (_, _) :: (_, _) :: (_, .inl (_, _, .inl (_))) :: (_, _) :: (_, _) :: (_, _) :: (_, _) :: (_, _) :: (_, _) :: (_, _) :: [])) X 25 3 rfl (by decide) (by decide) rfl dX11_init_328 ?_
  refine j_aload_n X 0 rfl dX11_init_329 ?_
  refine j_get X 0 cok_11 lf_X11_96 rfl (by decide) rfl dX11_init_330 ?_
  refine j_iload_n X 1 rfl dX11_init_333 ?_
  refine j_iconst (v := 1) X (by decide) dX11_init_334 ?_
  refine j_zast (ws' := ((_, _) :: (_, _) :: (_, _) :: (_, _) :: (_, _) :: (_, _) :: (_, _) :: (_, _) :: (_, _) :: (_, _) :: (_, _) :: (_, _) :: (_, _) :: (_, _) :: (_, _) :: (_, _) :: (_, _) :: (_, _) :: (_, _) :: (_, _) :: (_, _) :: (_, _) :: (_, _) :: (_, _) :: (_, _) :: (_, _) :: (_, _) :: (_, .inl (_, _, .inl (_))) :: (_, _) :: (_, _) :: (_, _) :: (_, _) :: (_, _) :: [])) X 27 3 rfl (by decide) (by decide) rfl dX11_init_335 ?_
  refine j_iinc (v := 4) (lv' := [(0, _), (1, _)]) X 1 rfl (by decide) (by decide) rfl dX11_init_336 ?_
  refine j_goto (tgt := 308) X dX11_init_339 (by decide) ?_
  refine j_iload_n X 1 rfl dX11_init_308 ?_
  refine j_bipush (v := 6) X (by decide) dX11_init_309 ?_
  refine j_icmp_geF (tgt := 342) X dX11_init_311 (by decide) (by decide) ?_
  refine j_aload_n X 0 rfl dX11_init_314 ?_
  refine j_get X 0 cok_11 lf_X11_84 rfl (by decide) rfl dX11_init_315 ?_
  refine j_iload_n X 1 rfl dX11_init_318 ?_
  refine j_bipush (v := 10) X (by decide) dX11_init_319 ?_
  refine j_iast (ws' := ((_, _) :: (_, _) :: (_, _) :: (_, _) :: (_, _) :: (_, _) :: (_, _) :: (_, _) :: (_, _) :: (_, _) :: (_, _) :: (_, _) :: (_, _) :: (_, _) :: (_, _) :: (_, _) :: (_, _) :: (_, _) :: (_, _) :: (_, _) :: (_, _) :: (_, _) :: (_, _) :: (_, .inl (_, _, .inl (_))) :: (_, _) :: (_, _) :: (_, _) :: (_, _) :: (_, _) :: (_, _) :: (_, _) :: (_, _) :: (_, _) :: [])) X 23 4 rfl (by decide) (by decide) rfl dX11_init_321 ?_
  refine j_aload_n X 0 rfl dX11_init_322 ?_
  refine j_get X 0 cok_11 lf_X11_90 rfl (by decide) rfl dX11_init_323 ?_
  refine j_iload_n X 1 rfl dX11_init_326 ?_
  refine j_iconst (v := 1) X (by decide) dX11_init_327 ?_
  refine j_iast (ws' := ((_, _) :: (_, _) :: (_, _) :: (_, _) :: (_, _) :: (_, _) :: (_, _) :: (_, _) :: (_, _) :: (_, _) :: (_, _) :: (_, _) :: (_, _) :: (_, _) :: (_, _) :: (_, _) :: (_, _) :: (_, _) :: (_, _) :: (_, _) :: (_, _) :: (_, _) :: (_, _) :: (_, _) :: (_, _) :: (_, .inl (_, _, .inl (_))) :: (_, _) :: (_, _) :: (_, _) :: (_, _) :: (_, _) :: (_, _) :: (_, _) :: [])) X 25 4 rfl (by decide) (by decide) rfl dX11_init_328 ?_
  refine j_aload_n X 0 rfl dX11_init_329 ?_
  refine j_get X 0 cok_11 lf_X11_96 rfl (by decide) rfl dX11_init_330 ?_
  refine j_iload_n X 1 rfl dX11_init_333 ?_
  refine j_iconst (v := 1) X (by decide) dX11_init_334 ?_
  refine j_zast (ws' := ((_, _) :: (_, _) :: (_, _) :: (_, _) :: (_, _) :: (_, _) :: (_, _) :: (_, _) :: (_, _) :: (_, _) :: (_, _) :: (_, _) :: (_, _) :: (_, _) :: (_, _) :: (_, _) :: (_, _) :: (_, _) :: (_, _) :: (_, _) :: (_, _) :: (_, _) :: (_, _) :: (_, _) :: (_, _) :: (_, _) :: (_, _) :: (_, .inl (_, _, .inl (_))) :: (_, _) :: (_, _) :: (_, _) :: (_, _) :: (_, _) :: [])) X 27 4 rfl (by decide) (by decide) rfl dX11_init_335 ?_
  refine j_iinc (v := 5) (lv' := [(0, _), (1, _)]) X 1 rfl (by decide) (by decide) rfl dX11_init_336 ?_
  refine j_goto (tgt := 308) X dX11_init_339 (by decide) ?_
  refine j_iload_n X 1 rfl dX11_init_308 ?_
  refine j_bipush (v := 6) X (by decide) dX11_init_309 ?_
  refine j_icmp_geF (tgt := 342) X dX11_init_311 (by decide) (by decide) ?_
  refine j_aload_n X 0 rfl dX11_init_314 ?_
  refine j_get X 0 cok_11 lf_X11_84 rfl (by decide) rfl dX11_init_315 ?_
  refine j_iload_n X 1 rfl dX11_init_318 ?_
  refine j_bipush (v := 10) X (by decide) dX11_init_319 ?_
  refine j_iast (ws' := ((_, _) :: (_, _) :: (_, _) :: (_, _) :: (_, _) :: (_, _) :: (_, _) :: (_, _) :: (_, _) :: (_, _) :: (_, _) :: (_, _) :: (_, _) :: (_, _) :: (_, _) :: (_, _) :: (_, _) :: (_, _) :: (_, _) :: (_, _) :: (_, _) :: (_, _) :: (_, _) :: (_, .inl (_, _, .inl (_))) :: (_, _) :: (_, _) :: (_, _) :: (_, _) :: (_, _) :: (_, _) :: (_, _) :: (_, _) :: (_, _) :: [])) X 23 5 rfl (by decide) (by decide) rfl dX11_init_321 ?_
  refine j_aload_n X 0 rfl dX11_init_322 ?_
  refine j_get X 0 cok_11 lf_X11_90 rfl (by decide) rfl dX11_init_323 ?_
  refine j_iload_n X 1 rfl dX11_init_326 ?_
  refine j_iconst (v := 1) X (by decide) dX11_init_327 ?_
  refine j_iast (ws' := ((_, _) :: (_, _) :: (_, _) :: (_, _) :: (_, _) :: (_, _) :: (_, _) :: (_, _) :: (_, _) :: (_, _) :: (_, _) :: (_, _) :: (_, _) :: (_, _) :: (_, _) :: (_, _) :: (_, _) :: (_, _) :: (_, _) :: (_, _) :: (_, _) :: (_, _) :: (_, _) :: (_, _) :: (_, _) :: (_, .inl (_, _, .inl (_))) :: (_, _) :: (_, _) :: (_, _) :: (_, _) :: (_, _) :: (_, _) :: (_, _) :: [])) X 25 5 rfl (by decide) (by decide) rfl dX11_init_328 ?_
  refine j_aload_n X 0 rfl dX11_init_329 ?_
  refine j_get X 0 cok_11 lf_X11_96 rfl (by decide) rfl dX11_init_330 ?_
  refine j_iload_n X 1 rfl dX11_init_333 ?_
  refine j_iconst (v := 1) X (by decide) dX11_init_334 ?_
  refine j_zast (ws' := ((_, _) :: (_, _) :: (_, _) :: (_, _) :: (_, _) :: (_, _) :: (_, _) :: (_, _) :: (_, _) :: (_, _) :: (_, _) :: (_, _) :: (_, _) :: (_, _) :: (_, _) :: (_, _) :: (_, _) :: (_, _) :: (_, _) :: (_, _) :: (_, _) :: (_, _) :: (_, _) :: (_, _) :: (_, _) :: (_, _) :: (_, _) :: (_, .inl (_, _, .inl (_))) :: (_, _) :: (_, _) :: (_, _) :: (_, _) :: (_, _) :: [])) X 27 5 rfl (by decide) (by decide) rfl dX11_init_335 ?_
  refine j_iinc (v := 6) (lv' := [(0, _), (1, _)]) X 1 rfl (by decide) (by decide) rfl dX11_init_336 ?_
  refine j_goto (tgt := 308) X dX11_init_339 (by decide) ?_
  refine j_iload_n X 1 rfl dX11_init_308 ?_
  refine j_bipush (v := 6) X (by decide) dX11_init_309 ?_
  refine j_icmp_geT (tgt := 342) X dX11_init_311 (by decide) (by decide) ?_
  refine j_perm (ws' := sW layM (adF b (fun k => [b, q7, q16, q29, q37, q46, q55, q63, q71, q79, q88, q97, q105, q114, q123, q135, q144, q153, q162, q171, q180, q189, q198, q206, q214, q222, q230, q238, q268, q276, q285, q293, q301].getD k 0)) (eI E) (eZ E) SM0) [0, 1, 2, 3, 4, 5, 6, 7, 8, 9, 10, 11, 12, 13, 14, 15, 16, 17, 18, 19, 20, 21, 22, 23, 24, 25, 26, 27, 28, 29, 30, 31, 32] (by decide) rfl ?_
  exact j_cnt rfl rfl (hend (fun k => [b, q7, q16, q29, q37, q46, q55, q63, q71, q79, q88, q97, q105, q114, q123, q135, q144, q153, q162, q171, q180, q189, q198, q206, q214, q222, q230, q238, q268, q276, q285, q293, q301].getD k 0) _ _ dX11_init_342)
