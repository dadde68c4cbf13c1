set_option maxRecDepth 20000 in
set_option maxHeartbeats 4000000 in
theorem nX4_init (b : Nat) : IMet yX4_init cX4_init 1 1 1 24 [.ref b] [(b, .inr (4, [.null, .int 0, .int 0, .int 0, .int 0]))] (fun cI cZ u => [(b, .inr (4, [.ref (u 0), .int (0), .int 0, .int 0, .int (-1)])), ((u 0), .inl (cI, 24, .inl (fun _ => 0)))]) := by
  refine mk_init [(0, .ref b)] (by decide) rfl (Nat.le_of_ble_eq_true rfl) rfl (fun E X hend => ?_)
  refine j_aload_n X 0 rfl dX4_init_0 ?_
  refine j_objInit X ow_X4_3 oi_i oi_c (by decide) (Nat.le_of_ble_eq_true rfl) dX4_init_1 ?_
  refine j_aload_n X 0 rfl dX4_init_4 ?_
  refine j_bipush (v := 24) X (by decide) dX4_init_5 ?_
  refine j_newI X 24 aw_int (by decide) (by decide) (by decide) (by decide) (by decide) dX4_init_7 (fun q7 => ?_)
  refine j_norm (ws' := ((_, _) :: (_, _) :: [])) rfl ?_
  refine j_putF (ws' := ((_, .inr (4, _ :: _ :: _ :: _ :: _ :: [])) :: (_, _) :: [])) X 0 (.array .int) cok_4 tf_X4_11 rfl (by decide) rfl rfl (by decide +kernel) rfl rfl (Nat.le_of_ble_eq_true rfl) rfl dX4_init_9 ?_
  refine j_aload_n X 0 rfl dX4_init_12 ?_
  refine j_iconst (v := 0) X (by decide) dX4_init_13 ?_
  refine j_put (ws' := ((_, .inr (4, _ :: _ :: _ :: _ :: _ :: [])) :: (_, _) :: [])) X 0 .boolean cok_4 lf_X4_15 rfl (by decide) rfl (by decide +kernel) rfl rfl (Nat.le_of_ble_eq_true rfl) rfl dX4_init_14 ?_
  refine j_aload_n X 0 rfl dX4_init_17 ?_
  refine j_iconst (v := -1) X (by decide) dX4_init_18 ?_
  refine j_put (ws' := ((_, .inr (4, _ :: _ :: _ :: _ :: _ :: [])) :: (_, _) :: [])) X 0 .int cok_4 lf_X4_19 rfl (by decide) rfl (by decide +kernel) rfl rfl (Nat.le_of_ble_eq_true rfl) rfl dX4_init_19 ?_
  exact j_norm rfl (j_cnt rfl rfl (hend (fun k => [q7].getD k 0) _ _ dX4_init_22))
set_option maxRecDepth 20000 in
set_option maxHeartbeats 4000000 in
theorem nX7_init (b : Nat) : IMet yX7_init cX7_init 1 1 1 600 [.ref b] [(b, .inr (7, [.null, .int 0]))] (fun cI cZ u => [(b, .inr (7, [.ref (u 0), .int (0)])), ((u 0), .inl (cI, 600, .inl (fun _ => 0)))]) := by
  refine mk_init [(0, .ref b)] (by decide) rfl (Nat.le_of_ble_eq_true rfl) rfl (fun E X hend => ?_)
  refine j_aload_n X 0 rfl dX7_init_0 ?_
  refine j_objInit X ow_X7_3 oi_i oi_c (by decide) (Nat.le_of_ble_eq_true rfl) dX7_init_1 ?_
  refine j_aload_n X 0 rfl dX7_init_4 ?_
  refine j_sipush (v := 600) X (by decide) dX7_init_5 ?_
  refine j_newI X 600 aw_int (by decide) (by decide) (by decide) (by decide) (by decide) dX7_init_8 (fun q8 => ?_)
  refine j_norm (ws' := ((_, _) :: (_, _) :: [])) rfl ?_
  refine j_putF (ws' := ((_, .inr (7, _ :: _ :: [])) :: (_, _) :: [])) X 0 (.array .int) cok_7 tf_X7_11 rfl (by decide) rfl rfl (by decide +kernel) rfl rfl (Nat.le_of_ble_eq_true rfl) rfl dX7_init_10 ?_
  refine j_aload_n X 0 rfl dX7_init_13 ?_
  refine j_iconst (v := 0) X (by decide) dX7_init_14 ?_
  refine j_put (ws' := ((_, .inr (7, _ :: _ :: [])) :: (_, _) :: [])) X 0 .int cok_7 lf_X7_15 rfl (by decide) rfl (by decide +kernel) rfl rfl (Nat.le_of_ble_eq_true rfl) rfl dX7_init_15 ?_
  exact j_norm rfl (j_cnt rfl rfl (hend (fun k => [q8].getD k 0) _ _ dX7_init_18))
set_option maxRecDepth 20000 in
set_option maxHeartbeats 4000000 in
theorem nX8_init (b : Nat) : IMet yX8_init cX8_init 1 1 2 1202 [.ref b] [(b, .inr (8, [.null, .null, .int 0]))] (fun cI cZ u => [(b, .inr (8, [.ref (u 0), .ref (u 1), .int (0)])), ((u 0), .inl (cI, 601, .inl (fun _ => 0))), ((u 1), .inl (cI, 601, .inl (fun _ => 0)))]) := by
  refine mk_init [(0, .ref b)] (by decide) rfl (Nat.le_of_ble_eq_true rfl) rfl (fun E X hend => ?_)
  refine j_aload_n X 0 rfl dX8_init_0 ?_
  refine j_objInit X ow_X8_3 oi_i oi_c (by decide) (Nat.le_of_ble_eq_true rfl) dX8_init_1 ?_
  refine j_aload_n X 0 rfl dX8_init_4 ?_
  refine j_sipush (v := 601) X (by decide) dX8_init_5 ?_
  refine j_newI X 601 aw_int (by decide) (by decide) (by decide) (by decide) (by decide) dX8_init_8 (fun q8 => ?_)
  refine j_norm (ws' := ((_, _) :: (_, _) :: [])) rfl ?_
  refine j_putF (ws' := ((_, .inr (8, _ :: _ :: _ :: [])) :: (_, _) :: [])) X 0 (.array .int) cok_8 tf_X8_11 rfl (by decide) rfl rfl (by decide +kernel) rfl rfl (Nat.le_of_ble_eq_true rfl) rfl dX8_init_10 ?_
  refine j_aload_n X 0 rfl dX8_init_13 ?_
  refine j_sipush (v := 601) X (by decide) dX8_init_14 ?_
  refine j_newI X 601 aw_int (by decide) (by decide) (by decide) (by decide) (by decide) dX8_init_17 (fun q17 => ?_)
  refine j_norm (ws' := ((_, _) :: (_, _) :: (_, _) :: [])) rfl ?_
  refine j_putF (ws' := ((_, .inr (8, _ :: _ :: _ :: [])) :: (_, _) :: (_, _) :: [])) X 0 (.array .int) cok_8 tf_X8_17 rfl (by decide) rfl rfl (by decide +kernel) rfl rfl (Nat.le_of_ble_eq_true rfl) rfl dX8_init_19 ?_
  refine j_aload_n X 0 rfl dX8_init_22 ?_
  refine j_iconst (v := 0) X (by decide) dX8_init_23 ?_
  refine j_put (ws' := ((_, .inr (8, _ :: _ :: _ :: [])) :: (_, _) :: (_, _) :: [])) X 0 .int cok_8 lf_X8_20 rfl (by decide) rfl (by decide +kernel) rfl rfl (Nat.le_of_ble_eq_true rfl) rfl dX8_init_24 ?_
  exact j_norm rfl (j_cnt rfl rfl (hend (fun k => [q8, q17].getD k 0) _ _ dX8_init_27))
set_option maxRecDepth 20000 in
set_option maxHeartbeats 4000000 in
theorem nX2_init (b : Nat) : IMet yX2_init cX2_init 1 1 5 376 [.ref b] [(b, .inr (2, [.null, .null, .null, .null, .null, .int 0, .int 0, .int 0]))] (fun cI cZ u => [(b, .inr (2, [.ref (u 0), .ref (u 1), .ref (u 2), .ref (u 3), .ref (u 4), .int (0), .int (0), .int (0)])), ((u 0), .inl (cI, 8, .inl (fun _ => 0))), ((u 1), .inl (cI, 8, .inl (fun _ => 0))), ((u 2), .inl (cI, 8, .inl (fun _ => 0))), ((u 3), .inl (cI, 320, .inl (fun _ => 0))), ((u 4), .inl (cI, 32, .inl (fun _ => 0)))]) := by
  refine mk_init [(0, .ref b)] (by decide) rfl (Nat.le_of_ble_eq_true rfl) rfl (fun E X hend => ?_)
  refine j_aload_n X 0 rfl dX2_init_0 ?_
  refine j_objInit X ow_X2_7 oi_i oi_c (by decide) (Nat.le_of_ble_eq_true rfl) dX2_init_1 ?_
  refine j_aload_n X 0 rfl dX2_init_4 ?_
  refine j_bipush (v := 8) X (by decide) dX2_init_5 ?_
  refine j_newI X 8 aw_int (by decide) (by decide) (by decide) (by decide) (by decide) dX2_init_7 (fun q7 => ?_)
  refine j_norm (ws' := ((_, _) :: (_, _) :: [])) rfl ?_
  refine j_putF (ws' := ((_, .inr (2, _ :: _ :: _ :: _ :: _ :: _ :: _ :: _ :: [])) :: (_, _) :: [])) X 0 (.array .int) cok_2 tf_X2_13 rfl (by decide) rfl rfl (by decide +kernel) rfl rfl (Nat.le_of_ble_eq_true rfl) rfl dX2_init_9 ?_
  refine j_aload_n X 0 rfl dX2_init_12 ?_
  refine j_bipush (v := 8) X (by decide) dX2_init_13 ?_
  refine j_newI X 8 aw_int (by decide) (by decide) (by decide) (by decide) (by decide) dX2_init_15 (fun q15 => ?_)
  refine j_norm (ws' := ((_, _) :: (_, _) :: (_, _) :: [])) rfl ?_
  refine j_putF (ws' := ((_, .inr (2, _ :: _ :: _ :: _ :: _ :: _ :: _ :: _ :: [])) :: (_, _) :: (_, _) :: [])) X 0 (.array .int) cok_2 tf_X2_17 rfl (by decide) rfl rfl (by decide +kernel) rfl rfl (Nat.le_of_ble_eq_true rfl) rfl dX2_init_17 ?_
  refine j_aload_n X 0 rfl dX2_init_20 ?_
  refine j_bipush (v := 8) X (by decide) dX2_init_21 ?_
  refine j_newI X 8 aw_int (by decide) (by decide) (by decide) (by decide) (by decide) dX2_init_23 (fun q23 => ?_)
  refine j_norm (ws' := ((_, _) :: (_, _) :: (_, _) :: (_, _) :: [])) rfl ?_
  refine j_putF (ws' := ((_, .inr (2, _ :: _ :: _ :: _ :: _ :: _ :: _ :: _ :: [])) :: (_, _) :: (_, _) :: (_, _) :: [])) X 0 (.array .int) cok_2 tf_X2_20 rfl (by decide) rfl rfl (by decide +kernel) rfl rfl (Nat.le_of_ble_eq_true rfl) rfl dX2_init_25 ?_
  refine j_aload_n X 0 rfl dX2_init_28 ?_
  refine j_sipush (v := 320) X (by decide) dX2_init_29 ?_
  refine j_newI X 320 aw_int (by decide) (by decide) (by decide) (by decide) (by decide) dX2_init_32 (fun q32 => ?_)
  refine j_norm (ws' := ((_, _) :: (_, _) :: (_, _) :: (_, _) :: (_, _) :: [])) rfl ?_
  refine j_putF (ws' := ((_, .inr (2, _ :: _ :: _ :: _ :: _ :: _ :: _ :: _ :: [])) :: (_, _) :: (_, _) :: (_, _) :: (_, _) :: [])) X 0 (.array .int) cok_2 tf_X2_23 rfl (by decide) rfl rfl (by decide +kernel) rfl rfl (Nat.le_of_ble_eq_true rfl) rfl dX2_init_34 ?_
  refine j_aload_n X 0 rfl dX2_init_37 ?_
  refine j_bipush (v := 32) X (by decide) dX2_init_38 ?_
  refine j_newI X 32 aw_int (by decide) (by decide) (by decide) (by decide) (by decide) dX2_init_40 (fun q40 => ?_)
  refine j_norm (ws' := ((_, _) :: (_, _) :: (_, _) :: (_, _) :: (_, _) :: (_, _) :: [])) rfl ?_
  refine j_putF (ws' := ((_, .inr (2, _ :: _ :: _ :: _ :: _ :: _ :: _ :: _ :: [])) :: (_, _) :: (_, _) :: (_, _) :: (_, _) :: (_, _) :: [])) X 0 (.array .int) cok_2 tf_X2_26 rfl (by decide) rfl rfl (by decide +kernel) rfl rfl (Nat.le_of_ble_eq_true rfl) rfl dX2_init_42 ?_
  refine j_aload_n X 0 rfl dX2_init_45 ?_
  refine j_iconst (v := 0) X (by decide) dX2_init_46 ?_
  refine j_put (ws' := ((_, .inr (2, _ :: _ :: _ :: _ :: _ :: _ :: _ :: _ :: [])) :: (_, _) :: (_, _) :: (_, _) :: (_, _) :: (_, _) :: [])) X 0 .int cok_2 lf_X2_29 rfl (by decide) rfl (by decide +kernel) rfl rfl (Nat.le_of_ble_eq_true rfl) rfl dX2_init_47 ?_
  refine j_aload_n X 0 rfl dX2_init_50 ?_
  refine j_iconst (v := 0) X (by decide) dX2_init_51 ?_
  refine j_put (ws' := ((_, .inr (2, _ :: _ :: _ :: _ :: _ :: _ :: _ :: _ :: [])) :: (_, _) :: (_, _) :: (_, _) :: (_, _) :: (_, _) :: [])) X 0 .int cok_2 lf_X2_33 rfl (by decide) rfl (by decide +kernel) rfl rfl (Nat.le_of_ble_eq_true rfl) rfl dX2_init_52 ?_
  refine j_aload_n X 0 rfl dX2_init_55 ?_
  refine j_iconst (v := 0) X (by decide) dX2_init_56 ?_
  refine j_put (ws' := ((_, .inr (2, _ :: _ :: _ :: _ :: _ :: _ :: _ :: _ :: [])) :: (_, _) :: (_, _) :: (_, _) :: (_, _) :: (_, _) :: [])) X 0 .int cok_2 lf_X2_36 rfl (by decide) rfl (by decide +kernel) rfl rfl (Nat.le_of_ble_eq_true rfl) rfl dX2_init_57 ?_
  exact j_norm rfl (j_cnt rfl rfl (hend (fun k => [q7, q15, q23, q32, q40].getD k 0) _ _ dX2_init_60))
set_option maxRecDepth 20000 in
set_option maxHeartbeats 4000000 in
theorem nX3_init (b : Nat) : IMet yX3_init cX3_init 1 1 5 1505 [.ref b] [(b, .inr (3, [.null, .null, .null, .null, .null, .int 0]))] (fun cI cZ u => [(b, .inr (3, [.ref (u 0), .ref (u 1), .ref (u 2), .ref (u 3), .ref (u 4), .int (0)])), ((u 0), .inl (cI, 301, .inl (fun _ => 0))), ((u 1), .inl (cI, 301, .inl (fun _ => 0))), ((u 2), .inl (cI, 301, .inl (fun _ => 0))), ((u 3), .inl (cI, 301, .inl (fun _ => 0))), ((u 4), .inl (cI, 301, .inl (fun _ => 0)))]) := by
  refine mk_init [(0, .ref b)] (by decide) rfl (Nat.le_of_ble_eq_true rfl) rfl (fun E X hend => ?_)
  refine j_aload_n X 0 rfl dX3_init_0 ?_
  refine j_objInit X ow_X3_3 oi_i oi_c (by decide) (Nat.le_of_ble_eq_true rfl) dX3_init_1 ?_
  refine j_aload_n X 0 rfl dX3_init_4 ?_
  refine j_sipush (v := 301) X (by decide) dX3_init_5 ?_
  refine j_newI X 301 aw_int (by decide) (by decide) (by decide) (by decide) (by decide) dX3_init_8 (fun q8 => ?_)
  refine j_norm (ws' := ((_, _) :: (_, _) :: [])) rfl ?_
  refine j_putF (ws' := ((_, .inr (3, _ :: _ :: _ :: _ :: _ :: _ :: [])) :: (_, _) :: [])) X 0 (.array .int) cok_3 tf_X3_11 rfl (by decide) rfl rfl (by decide +kernel) rfl rfl (Nat.le_of_ble_eq_true rfl) rfl dX3_init_10 ?_
  refine j_aload_n X 0 rfl dX3_init_13 ?_
  refine j_sipush (v := 301) X (by decide) dX3_init_14 ?_
  refine j_newI X 301 aw_int (by decide) (by decide) (by decide) (by decide) (by decide) dX3_init_17 (fun q17 => ?_)
  refine j_norm (ws' := ((_, _) :: (_, _) :: (_, _) :: [])) rfl ?_
  refine j_putF (ws' := ((_, .inr (3, _ :: _ :: _ :: _ :: _ :: _ :: [])) :: (_, _) :: (_, _) :: [])) X 0 (.array .int) cok_3 tf_X3_15 rfl (by decide) rfl rfl (by decide +kernel) rfl rfl (Nat.le_of_ble_eq_true rfl) rfl dX3_init_19 ?_
  refine j_aload_n X 0 rfl dX3_init_22 ?_
  refine j_sipush (v := 301) X (by decide) dX3_init_23 ?_
  refine j_newI X 301 aw_int (by decide) (by decide) (by decide) (by decide) (by decide) dX3_init_26 (fun q26 => ?_)
  refine j_norm (ws' := ((_, _) :: (_, _) :: (_, _) :: (_, _) :: [])) rfl ?_
  refine j_putF (ws' := ((_, .inr (3, _ :: _ :: _ :: _ :: _ :: _ :: [])) :: (_, _) :: (_, _) :: (_, _) :: [])) X 0 (.array .int) cok_3 tf_X3_18 rfl (by decide) rfl rfl (by decide +kernel) rfl rfl (Nat.le_of_ble_eq_true rfl) rfl dX3_init_28 ?_
  refine j_aload_n X 0 rfl dX3_init_31 ?_
  refine j_sipush (v := 301) X (by decide) dX3_init_32 ?_
  refine j_newI X 301 aw_int (by decide) (by decide) (by decide) (by decide) (by decide) dX3_init_35 (fun q35 => ?_)
  refine j_norm (ws' := ((_, _) :: (_, _) :: (_, _) :: (_, _) :: (_, _) :: [])) rfl ?_
  refine j_putF (ws' := ((_, .inr (3, _ :: _ :: _ :: _ :: _ :: _ :: [])) :: (_, _) :: (_, _) :: (_, _) :: (_, _) :: [])) X 0 (.array .int) cok_3 tf_X3_21 rfl (by decide) rfl rfl (by decide +kernel) rfl rfl (Nat.le_of_ble_eq_true rfl) rfl dX3_init_37 ?_
  refine j_aload_n X 0 rfl dX3_init_40 ?_
  refine j_sipush (v := 301) X (by decide) dX3_init_41 ?_
  refine j_newI X 301 aw_int (by decide) (by decide) (by decide) (by decide) (by decide) dX3_init_44 (fun q44 => ?_)
  refine j_norm (ws' := ((_, _) :: (_, _) :: (_, _) :: (_, _) :: (_, _) :: (_, _) :: [])) rfl ?_
  refine j_putF (ws' := ((_, .inr (3, _ :: _ :: _ :: _ :: _ :: _ :: [])) :: (_, _) :: (_, _) :: (_, _) :: (_, _) :: (_, _) :: [])) X 0 (.array .int) cok_3 tf_X3_24 rfl (by decide) rfl rfl (by decide +kernel) rfl rfl (Nat.le_of_ble_eq_true rfl) rfl dX3_init_46 ?_
  refine j_aload_n X 0 rfl dX3_init_49 ?_
  refine j_iconst (v := 0) X (by decide) dX3_init_50 ?_
  refine j_put (ws' := ((_, .inr (3, _ :: _ :: _ :: _ :: _ :: _ :: [])) :: (_, _) :: (_, _) :: (_, _) :: (_, _) :: (_, _) :: [])) X 0 .int cok_3 lf_X3_27 rfl (by decide) rfl (by decide +kernel) rfl rfl (Nat.le_of_ble_eq_true rfl) rfl dX3_init_51 ?_
  exact j_norm rfl (j_cnt rfl rfl (hend (fun k => [q8, q17, q26, q35, q44].getD k 0) _ _ dX3_init_54))
set_option maxRecDepth 20000 in
set_option maxHeartbeats 4000000 in
theorem nX5_init (b a1 : Nat) : IMet yX5_init cX5_init 2 1 1 101 [.ref b, .ref a1] [(b, .inr (5, [.null, .null, .int 0, .int 0, .int 0, .int 0, .int 0, .int 0, .int 0]))] (fun cI cZ u => [(b, .inr (5, [.ref a1, .ref (u 0), .int 0, .int 0, .int 0, .int 0, .int 0, .int 0, .int 0])), ((u 0), .inl (cI, 101, .inl (fun _ => 0)))]) := by
  refine mk_init [(0, .ref b), (1, .ref a1)] (by decide) rfl (Nat.le_of_ble_eq_true rfl) rfl (fun E X hend => ?_)
  refine j_aload_n X 0 rfl dX5_init_0 ?_
  refine j_objInit X ow_X5_3 oi_i oi_c (by decide) (Nat.le_of_ble_eq_true rfl) dX5_init_1 ?_
  refine j_aload_n X 0 rfl dX5_init_4 ?_
  refine j_aload_n X 1 rfl dX5_init_5 ?_
  refine j_putF (ws' := ((_, .inr (5, _ :: _ :: _ :: _ :: _ :: _ :: _ :: _ :: _ :: [])) :: [])) X 0 (.object "PlyHouse$Leaf") cok_5 tf_X5_9 rfl (by decide) rfl rfl (by decide +kernel) rfl rfl (Nat.le_of_ble_eq_true rfl) rfl dX5_init_6 ?_
  refine j_aload_n X 0 rfl dX5_init_9 ?_
  refine j_bipush (v := 101) X (by decide) dX5_init_10 ?_
  refine j_newI X 101 aw_int (by decide) (by decide) (by decide) (by decide) (by decide) dX5_init_12 (fun q12 => ?_)
  refine j_norm (ws' := ((_, _) :: (_, _) :: [])) rfl ?_
  refine j_putF (ws' := ((_, .inr (5, _ :: _ :: _ :: _ :: _ :: _ :: _ :: _ :: _ :: [])) :: (_, _) :: [])) X 0 (.array .int) cok_5 tf_X5_17 rfl (by decide) rfl rfl (by decide +kernel) rfl rfl (Nat.le_of_ble_eq_true rfl) rfl dX5_init_14 ?_
  exact j_norm rfl (j_cnt rfl rfl (hend (fun k => [q12].getD k 0) _ _ dX5_init_17))
set_option maxRecDepth 20000 in
set_option maxHeartbeats 4000000 in
theorem nX9_init (b : Nat) : IMet yX9_init cX9_init 2 1 4 24 [.ref b] [(b, .inr (9, [.null, .null, .null, .null, .int 0, .int 0, .int 0, .int 0, .int 0]))] (fun cI cZ u => [(b, .inr (9, [.ref (u 0), .ref (u 1), .ref (u 2), .ref (u 3), .int 0, .int 0, .int 0, .int 0, .int 0])), ((u 0), .inl (cI, 6, .inl (upd (upd (upd (upd (upd (upd (fun _ => 0) 0 (10)) 1 (10)) 2 (10)) 3 (10)) 4 (10)) 5 (10)))), ((u 1), .inl (cI, 6, .inl (upd (upd (upd (upd (upd (upd (fun _ => 0) 0 (0)) 1 (0)) 2 (0)) 3 (0)) 4 (0)) 5 (0)))), ((u 2), .inl (cI, 6, .inl (upd (upd (upd (upd (upd (upd (fun _ => 0) 0 (1)) 1 (1)) 2 (1)) 3 (1)) 4 (1)) 5 (1)))), ((u 3), .inl (cZ, 6, .inl (upd (upd (upd (upd (upd (upd (fun _ => 0) 0 (vp_nar .boolean 1)) 1 (vp_nar .boolean 1)) 2 (vp_nar .boolean 1)) 3 (vp_nar .boolean 1)) 4 (vp_nar .boolean 1)) 5 (vp_nar .boolean 1))))]) := by
  refine mk_init [(0, .ref b)] (by decide) rfl (Nat.le_of_ble_eq_true rfl) rfl (fun E X hend => ?_)
  refine j_aload_n X 0 rfl dX9_init_0 ?_
  refine j_objInit X ow_X9_3 oi_i oi_c (by decide) (Nat.le_of_ble_eq_true rfl) dX9_init_1 ?_
  refine j_aload_n X 0 rfl dX9_init_4 ?_
  refine j_bipush (v := 6) X (by decide) dX9_init_5 ?_
  refine j_newI X 6 aw_int (by decide) (by decide) (by decide) (by decide) (by decide) dX9_init_7 (fun q7 => ?_)
  refine j_norm (ws' := ((_, _) :: (_, _) :: [])) rfl ?_
  refine j_putF (ws' := ((_, .inr (9, _ :: _ :: _ :: _ :: _ :: _ :: _ :: _ :: _ :: [])) :: (_, _) :: [])) X 0 (.array .int) cok_9 tf_X9_11 rfl (by decide) rfl rfl (by decide +kernel) rfl rfl (Nat.le_of_ble_eq_true rfl) rfl dX9_init_9 ?_
  refine j_aload_n X 0 rfl dX9_init_12 ?_
  refine j_bipush (v := 6) X (by decide) dX9_init_13 ?_
  refine j_newI X 6 aw_int (by decide) (by decide) (by decide) (by decide) (by decide) dX9_init_15 (fun q15 => ?_)
  refine j_norm (ws' := ((_, _) :: (_, _) :: (_, _) :: [])) rfl ?_
  refine j_putF (ws' := ((_, .inr (9, _ :: _ :: _ :: _ :: _ :: _ :: _ :: _ :: _ :: [])) :: (_, _) :: (_, _) :: [])) X 0 (.array .int) cok_9 tf_X9_15 rfl (by decide) rfl rfl (by decide +kernel) rfl rfl (Nat.le_of_ble_eq_true rfl) rfl dX9_init_17 ?_
  refine j_aload_n X 0 rfl dX9_init_20 ?_
  refine j_bipush (v := 6) X (by decide) dX9_init_21 ?_
  refine j_newI X 6 aw_int (by decide) (by decide) (by decide) (by decide) (by decide) dX9_init_23 (fun q23 => ?_)
  refine j_norm (ws' := ((_, _) :: (_, _) :: (_, _) :: (_, _) :: [])) rfl ?_
  refine j_putF (ws' := ((_, .inr (9, _ :: _ :: _ :: _ :: _ :: _ :: _ :: _ :: _ :: [])) :: (_, _) :: (_, _) :: (_, _) :: [])) X 0 (.array .int) cok_9 tf_X9_18 rfl (by decide) rfl rfl (by decide +kernel) rfl rfl (Nat.le_of_ble_eq_true rfl) rfl dX9_init_25 ?_
  refine j_aload_n X 0 rfl dX9_init_28 ?_
  refine j_bipush (v := 6) X (by decide) dX9_init_29 ?_
  refine j_newZ X 6 aw_boolean (by decide) (by decide) (by decide) (by decide) (by decide) dX9_init_31 (fun q31 => ?_)
  refine j_norm (ws' := ((_, _) :: (_, _) :: (_, _) :: (_, _) :: (_, _) :: [])) rfl ?_
  refine j_putF (ws' := ((_, .inr (9, _ :: _ :: _ :: _ :: _ :: _ :: _ :: _ :: _ :: [])) :: (_, _) :: (_, _) :: (_, _) :: (_, _) :: [])) X 0 (.array .boolean) cok_9 tf_X9_21 rfl (by decide) rfl rfl (by decide +kernel) rfl rfl (Nat.le_of_ble_eq_true rfl) rfl dX9_init_33 ?_
  refine j_iconst (v := 0) X (by decide) dX9_init_36 ?_
  refine j_istore_n (lv' := [(0, _), (1, _)]) X (by decide) rfl dX9_init_37 ?_
  refine j_iload_n X 1 rfl dX9_init_38 ?_
  refine j_bipush (v := 6) X (by decide) dX9_init_39 ?_
  refine j_icmp_geF (tgt := 79) X dX9_init_41 (by decide) (by decide) ?_
  refine j_aload_n X 0 rfl dX9_init_44 ?_
  refine j_get X 0 cok_9 lf_X9_11 rfl (by decide) rfl dX9_init_45 ?_
  refine j_iload_n X 1 rfl dX9_init_48 ?_
  refine j_bipush (v := 10) X (by decide) dX9_init_49 ?_
  refine j_iast (ws' := ((_, _) :: (_, .inl (_, _, .inl (_))) :: (_, _) :: (_, _) :: (_, _) :: [])) X 1 0 rfl (by decide) (by decide) rfl dX9_init_51 ?_
  refine j_aload_n X 0 rfl dX9_init_52 ?_
  refine j_get X 0 cok_9 lf_X9_15 rfl (by decide) rfl dX9_init_53 ?_
  refine j_iload_n X 1 rfl dX9_init_56 ?_
  refine j_iconst (v := 0) X (by decide) dX9_init_57 ?_
  refine j_iast (ws' := ((_, _) :: (_, _) :: (_, .inl (_, _, .inl (_))) :: (_, _) :: (_, _) :: [])) X 2 0 rfl (by decide) (by decide) rfl dX9_init_58 ?_
  refine j_aload_n X 0 rfl dX9_init_59 ?_
  refine j_get X 0 cok_9 lf_X9_18 rfl (by decide) rfl dX9_init_60 ?_
  refine j_iload_n X 1 rfl dX9_init_63 ?_
  refine j_iconst (v := 1) X (by decide) dX9_init_64 ?_
  refine j_iast (ws' := ((_, _) :: (_, _) :: (_, _) :: (_, .inl (_, _, .inl (_))) :: (_, _) :: [])) X 3 0 rfl (by decide) (by decide) rfl dX9_init_65 ?_
  refine j_aload_n X 0 rfl dX9_init_66 ?_
  refine j_get X 0 cok_9 lf_X9_21 rfl (by decide) rfl dX9_init_67 ?_
  refine j_iload_n X 1 rfl dX9_init_70 ?_
  refine j_iconst (v := 1) X (by decide) dX9_init_71 ?_
  refine j_zast (ws' := ((_, _) :: (_, _) :: (_, _) :: (_, _) :: (_, .inl (_, _, .inl (_))) :: [])) X 4 0 rfl (by decide) (by decide) rfl dX9_init_72 ?_
  refine j_iinc (v := 1) (lv' := [(0, _), (1, _)]) X 1 rfl (by decide) (by decide) rfl dX9_init_73 ?_
  refine j_goto (tgt := 38) X dX9_init_76 (by decide) ?_
  refine j_iload_n X 1 rfl dX9_init_38 ?_
  refine j_bipush (v := 6) X (by decide) dX9_init_39 ?_
  refine j_icmp_geF (tgt := 79) X dX9_init_41 (by decide) (by decide) ?_
  refine j_aload_n X 0 rfl dX9_init_44 ?_
  refine j_get X 0 cok_9 lf_X9_11 rfl (by decide) rfl dX9_init_45 ?_
  refine j_iload_n X 1 rfl dX9_init_48 ?_
  refine j_bipush (v := 10) X (by decide) dX9_init_49 ?_
  refine j_iast (ws' := ((_, _) :: (_, .inl (_, _, .inl (_))) :: (_, _) :: (_, _) :: (_, _) :: [])) X 1 1 rfl (by decide) (by decide) rfl dX9_init_51 ?_
  refine j_aload_n X 0 rfl dX9_init_52 ?_
  refine j_get X 0 cok_9 lf_X9_15 rfl (by decide) rfl dX9_init_53 ?_
  refine j_iload_n X 1 rfl dX9_init_56 ?_
  refine j_iconst (v := 0) X (by decide) dX9_init_57 ?_
  refine j_iast (ws' := ((_, _) :: (_, _) :: (_, .inl (_, _, .inl (_))) :: (_, _) :: (_, _) :: [])) X 2 1 rfl (by decide) (by decide) rfl dX9_init_58 ?_
  refine j_aload_n X 0 rfl dX9_init_59 ?_
  refine j_get X 0 cok_9 lf_X9_18 rfl (by decide) rfl dX9_init_60 ?_
  refine j_iload_n X 1 rfl dX9_init_63 ?_
  refine j_iconst (v := 1) X (by decide) dX9_init_64 ?_
  refine j_iast (ws' := ((_, _) :: (_, _) :: (_, _) :: (_, .inl (_, _, .inl (_))) :: (_, _) :: [])) X 3 1 rfl (by decide) (by decide) rfl dX9_init_65 ?_
  refine j_aload_n X 0 rfl dX9_init_66 ?_
  refine j_get X 0 cok_9 lf_X9_21 rfl (by decide) rfl dX9_init_67 ?_
  refine j_iload_n X 1 rfl dX9_init_70 ?_
  refine j_iconst (v := 1) X (by decide) dX9_init_71 ?_
  refine j_zast (ws' := ((_, _) :: (_, _) :: (_, _) :: (_, _) :: (_, .inl (_, _, .inl (_))) :: [])) X 4 1 rfl (by decide) (by decide) rfl dX9_init_72 ?_
  refine j_iinc (v := 2) (lv' := [(0, _), (1, _)]) X 1 rfl (by decide) (by decide) rfl dX9_init_73 ?_
  refine j_goto (tgt := 38) X dX9_init_76 (by decide) ?_
  refine j_iload_n X 1 rfl dX9_init_38 ?_
  refine j_bipush (v := 6) X (by decide) dX9_init_39 ?_
  refine j_icmp_geF (tgt := 79) X dX9_init_41 (by decide) (by decide) ?_
  refine j_aload_n X 0 rfl dX9_init_44 ?_
  refine j_get X 0 cok_9 lf_X9_11 rfl (by decide) rfl dX9_init_45 ?_
  refine j_iload_n X 1 rfl dX9_init_48 ?_
  refine j_bipush (v := 10) X (by decide) dX9_init_49 ?_
  refine j_iast (ws' := ((_, _) :: (_, .inl (_, _, .inl (_))) :: (_, _) :: (_, _) :: (_, _) :: [])) X 1 2 rfl (by decide) (by decide) rfl dX9_init_51 ?_
  refine j_aload_n X 0 rfl dX9_init_52 ?_
  refine j_get X 0 cok_9 lf_X9_15 rfl (by decide) rfl dX9_init_53 ?_
  refine j_iload_n X 1 rfl dX9_init_56 ?_
  refine j_iconst (v := 0) X (by decide) dX9_init_57 ?_
  refine j_iast (ws' := ((_, _) :: (_, _) :: (_, .inl (_, _, .inl (_))) :: (_, _) :: (_, _) :: [])) X 2 2 rfl (by decide) (by decide) rfl dX9_init_58 ?_
  refine j_aload_n X 0 rfl dX9_init_59 ?_
  refine j_get X 0 cok_9 lf_X9_18 rfl (by decide) rfl dX9_init_60 ?_
  refine j_iload_n X 1 rfl dX9_init_63 ?_
  refine j_iconst (v := 1) X (by decide) dX9_init_64 ?_
  refine j_iast (ws' := ((_, _) :: (_, _) :: (_, _) :: (_, .inl (_, _, .inl (_))) :: (_, _) :: [])) X 3 2 rfl (by decide) (by decide) rfl dX9_init_65 ?_
  refine j_aload_n X 0 rfl dX9_init_66 ?_
  refine j_get X 0 cok_9 lf_X9_21 rfl (by decide) rfl dX9_init_67 ?_
  refine j_iload_n X 1 rfl dX9_init_70 ?_
  refine j_iconst (v := 1) X (by decide) dX9_init_71 ?_
  refine j_zast (ws' := ((_, _) :: (_, _) :: (_, _) :: (_, _) :: (_, .inl (_, _, .inl (_))) :: [])) X 4 2 rfl (by decide) (by decide) rfl dX9_init_72 ?_
  refine j_iinc (v := 3) (lv' := [(0, _), (1, _)]) X 1 rfl (by decide) (by decide) rfl dX9_init_73 ?_
  refine j_goto (tgt := 38) X dX9_init_76 (by decide) ?_
  refine j_iload_n X 1 rfl dX9_init_38 ?_
  refine j_bipush (v := 6) X (by decide) dX9_init_39 ?_
  refine j_icmp_geF (tgt := 79) X dX9_init_41 (by decide) (by decide) ?_
  refine j_aload_n X 0 rfl dX9_init_44 ?_
  refine j_get X 0 cok_9 lf_X9_11 rfl (by decide) rfl dX9_init_45 ?_
  refine j_iload_n X 1 rfl dX9_init_48 ?_
  refine j_bipush (v := 10) X (by decide) dX9_init_49 ?_
  refine j_iast (ws' := ((_, _) :: (_, .inl (_, _, .inl (_))) :: (_, _) :: (_, _) :: (_, _) :: [])) X 1 3 rfl (by decide) (by decide) rfl dX9_init_51 ?_
  refine j_aload_n X 0 rfl dX9_init_52 ?_
  refine j_get X 0 cok_9 lf_X9_15 rfl (by decide) rfl dX9_init_53 ?_
  refine j_iload_n X 1 rfl dX9_init_56 ?_
  refine j_iconst (v := 0) X (by decide) dX9_init_57 ?_
  refine j_iast (ws' := ((_, _) :: (_, _) :: (_, .inl (_, _, .inl (_))) :: (_, _) :: (_, _) :: [])) X 2 3 rfl (by decide) (by decide) rfl dX9_init_58 ?_
  refine j_aload_n X 0 rfl dX9_init_59 ?_
  refine j_get X 0 cok_9 lf_X9_18 rfl (by decide) rfl dX9_init_60 ?_
  refine j_iload_n X 1 rfl dX9_init_63 ?_
  refine j_iconst (v := 1) X (by decide) dX9_init_64 ?_
  refine j_iast (ws' := ((_, _) :: (_, _) :: (_, _) :: (_, .inl (_, _, .inl (_))) :: (_, _) :: [])) X 3 3 rfl (by decide) (by decide) rfl dX9_init_65 ?_
  refine j_aload_n X 0 rfl dX9_init_66 ?_
  refine j_get X 0 cok_9 lf_X9_21 rfl (by decide) rfl dX9_init_67 ?_
  refine j_iload_n X 1 rfl dX9_init_70 ?_
  refine j_iconst (v := 1) X (by decide) dX9_init_71 ?_
  refine j_zast (ws' := ((_, _) :: (_, _) :: (_, _) :: (_, _) :: (_, .inl (_, _, .inl (_))) :: [])) X 4 3 rfl (by decide) (by decide) rfl dX9_init_72 ?_
  refine j_iinc (v := 4) (lv' := [(0, _), (1, _)]) X 1 rfl (by decide) (by decide) rfl dX9_init_73 ?_
  refine j_goto (tgt := 38) X dX9_init_76 (by decide) ?_
  refine j_iload_n X 1 rfl dX9_init_38 ?_
  refine j_bipush (v := 6) X (by decide) dX9_init_39 ?_
  refine j_icmp_geF (tgt := 79) X dX9_init_41 (by decide) (by decide) ?_
  refine j_aload_n X 0 rfl dX9_init_44 ?_
  refine j_get X 0 cok_9 lf_X9_11 rfl (by decide) rfl dX9_init_45 ?_
  refine j_iload_n X 1 rfl dX9_init_48 ?_
  refine j_bipush (v := 10) X (by decide) dX9_init_49 ?_
  refine j_iast (ws' := ((_, _) :: (_, .inl (_, _, .inl (_))) :: (_, _) :: (_, _) :: (_, _) :: [])) X 1 4 rfl (by decide) (by decide) rfl dX9_init_51 ?_
  refine j_aload_n X 0 rfl dX9_init_52 ?_
  refine j_get X 0 cok_9 lf_X9_15 rfl (by decide) rfl dX9_init_53 ?_
  refine j_iload_n X 1 rfl dX9_init_56 ?_
  refine j_iconst (v := 0) X (by decide) dX9_init_57 ?_
  refine j_iast (ws' := ((_, _) :: (_, _) :: (_, .inl (_, _, .inl (_))) :: (_, _) :: (_, _) :: [])) X 2 4 rfl (by decide) (by decide) rfl dX9_init_58 ?_
  refine j_aload_n X 0 rfl dX9_init_59 ?_
  refine j_get X 0 cok_9 lf_X9_18 rfl (by decide) rfl dX9_init_60 ?_
  refine j_iload_n X 1 rfl dX9_init_63 ?_
  refine j_iconst (v := 1) X (by decide) dX9_init_64 ?_
  refine j_iast (ws' := ((_, _) :: (_, _) :: (_, _) :: (_, .inl (_, _, .inl (_))) :: (_, _) :: [])) X 3 4 rfl (by decide) (by decide) rfl dX9_init_65 ?_
  refine j_aload_n X 0 rfl dX9_init_66 ?_
  refine j_get X 0 cok_9 lf_X9_21 rfl (by decide) rfl dX9_init_67 ?_
  refine j_iload_n X 1 rfl dX9_init_70 ?_
  refine j_iconst (v := 1) X (by decide) dX9_init_71 ?_
  refine j_zast (ws' := ((_, _) :: (_, _) :: (_, _) :: (_, _) :: (_, .inl (_, _, .inl (_))) :: [])) X 4 4 rfl (by decide) (by decide) rfl dX9_init_72 ?_
  refine j_iinc (v := 5) (lv' := [(0, _), (1, _)]) X 1 rfl (by decide) (by decide) rfl dX9_init_73 ?_
  refine j_goto (tgt := 38) X dX9_init_76 (by decide) ?_
  refine j_iload_n X 1 rfl dX9_init_38 ?_
  refine j_bipush (v := 6) X (by decide) dX9_init_39 ?_
  refine j_icmp_geF (tgt := 79) X dX9_init_41 (by decide) (by decide) ?_
  refine j_aload_n X 0 rfl dX9_init_44 ?_
  refine j_get X 0 cok_9 lf_X9_11 rfl (by decide) rfl dX9_init_45 ?_
  refine j_iload_n X 1 rfl dX9_init_48 ?_
  refine j_bipush (v := 10) X (by decide) dX9_init_49 ?_
  refine j_iast (ws' := ((_, _) :: (_, .inl (_, _, .inl (_))) :: (_, _) :: (_, _) :: (_, _) :: [])) X 1 5 rfl (by decide) (by decide) rfl dX9_init_51 ?_
  refine j_aload_n X 0 rfl dX9_init_52 ?_
  refine j_get X 0 cok_9 lf_X9_15 rfl (by decide) rfl dX9_init_53 ?_
  refine j_iload_n X 1 rfl dX9_init_56 ?_
  refine j_iconst (v := 0) X (by decide) dX9_init_57 ?_
  refine j_iast (ws' := ((_, _) :: (_, _) :: (_, .inl (_, _, .inl (_))) :: (_, _) :: (_, _) :: [])) X 2 5 rfl (by decide) (by decide) rfl dX9_init_58 ?_
  refine j_aload_n X 0 rfl dX9_init_59 ?_
  refine j_get X 0 cok_9 lf_X9_18 rfl (by decide) rfl dX9_init_60 ?_
  refine j_iload_n X 1 rfl dX9_init_63 ?_
  refine j_iconst (v := 1) X (by decide) dX9_init_64 ?_
  refine j_iast (ws' := ((_, _) :: (_, _) :: (_, _) :: (_, .inl (_, _, .inl (_))) :: (_, _) :: [])) X 3 5 rfl (by decide) (by decide) rfl dX9_init_65 ?_
  refine j_aload_n X 0 rfl dX9_init_66 ?_
  refine j_get X 0 cok_9 lf_X9_21 rfl (by decide) rfl dX9_init_67 ?_
  refine j_iload_n X 1 rfl dX9_init_70 ?_
  refine j_iconst (v := 1) X (by decide) dX9_init_71 ?_
  refine j_zast (ws' := ((_, _) :: (_, _) :: (_, _) :: (_, _) :: (_, .inl (_, _, .inl (_))) :: [])) X 4 5 rfl (by decide) (by decide) rfl dX9_init_72 ?_
  refine j_iinc (v := 6) (lv' := [(0, _), (1, _)]) X 1 rfl (by decide) (by decide) rfl dX9_init_73 ?_
  refine j_goto (tgt := 38) X dX9_init_76 (by decide) ?_
  refine j_iload_n X 1 rfl dX9_init_38 ?_
  refine j_bipush (v := 6) X (by decide) dX9_init_39 ?_
  refine j_icmp_geT (tgt := 79) X dX9_init_41 (by decide) (by decide) ?_
  exact j_norm rfl (j_cnt rfl rfl (hend (fun k => [q7, q15, q23, q31].getD k 0) _ _ dX9_init_79))
set_option maxRecDepth 20000 in
set_option maxHeartbeats 4000000 in
theorem nX6_init (b : Nat) : IMet yX6_init cX6_init 1 1 8 4136 [.ref b] [(b, .inr (6, [.null, .null, .null, .null, .null, .null, .null, .null, .int 0, .int 0, .int 0, .int 0, .int 0, .int 0, .int 0, .int 0]))] (fun cI cZ u => [(b, .inr (6, [.ref (u 0), .ref (u 1), .ref (u 2), .ref (u 3), .ref (u 4), .ref (u 5), .ref (u 6), .ref (u 7), .int (0), .int (1), .int (10), .int (1), .int (60), .int (0), .int (0), .int (1)])), ((u 0), .inl (cI, 10, .inl (fun _ => 0))), ((u 1), .inl (cI, 10, .inl (fun _ => 0))), ((u 2), .inl (cI, 1024, .inl (fun _ => 0))), ((u 3), .inl (cI, 1024, .inl (fun _ => 0))), ((u 4), .inl (cI, 1024, .inl (fun _ => 0))), ((u 5), .inl (cI, 1024, .inl (fun _ => 0))), ((u 6), .inl (cI, 10, .inl (fun _ => 0))), ((u 7), .inl (cI, 10, .inl (fun _ => 0)))]) := by
  refine mk_init [(0, .ref b)] (by decide) rfl (Nat.le_of_ble_eq_true rfl) rfl (fun E X hend => ?_)
  refine j_aload_n X 0 rfl dX6_init_0 ?_
  refine j_objInit X ow_X6_5 oi_i oi_c (by decide) (Nat.le_of_ble_eq_true rfl) dX6_init_1 ?_
  refine j_aload_n X 0 rfl dX6_init_4 ?_
  refine j_bipush (v := 10) X (by decide) dX6_init_5 ?_
  refine j_newI X 10 aw_int (by decide) (by decide) (by decide) (by decide) (by decide) dX6_init_7 (fun q7 => ?_)
  refine j_norm (ws' := ((_, _) :: (_, _) :: [])) rfl ?_
  refine j_putF (ws' := ((_, .inr (6, _ :: _ :: _ :: _ :: _ :: _ :: _ :: _ :: _ :: _ :: _ :: _ :: _ :: _ :: _ :: _ :: [])) :: (_, _) :: [])) X 0 (.array .int) cok_6 tf_X6_11 rfl (by decide) rfl rfl (by decide +kernel) rfl rfl (Nat.le_of_ble_eq_true rfl) rfl dX6_init_9 ?_
  refine j_aload_n X 0 rfl dX6_init_12 ?_
  refine j_bipush (v := 10) X (by decide) dX6_init_13 ?_
  refine j_newI X 10 aw_int (by decide) (by decide) (by decide) (by decide) (by decide) dX6_init_15 (fun q15 => ?_)
  refine j_norm (ws' := ((_, _) :: (_, _) :: (_, _) :: [])) rfl ?_
  refine j_putF (ws' := ((_, .inr (6, _ :: _ :: _ :: _ :: _ :: _ :: _ :: _ :: _ :: _ :: _ :: _ :: _ :: _ :: _ :: _ :: [])) :: (_, _) :: (_, _) :: [])) X 0 (.array .int) cok_6 tf_X6_15 rfl (by decide) rfl rfl (by decide +kernel) rfl rfl (Nat.le_of_ble_eq_true rfl) rfl dX6_init_17 ?_
  refine j_aload_n X 0 rfl dX6_init_20 ?_
  refine j_sipush (v := 1024) X (by decide) dX6_init_21 ?_
  refine j_newI X 1024 aw_int (by decide) (by decide) (by decide) (by decide) (by decide) dX6_init_24 (fun q24 => ?_)
  refine j_norm (ws' := ((_, _) :: (_, _) :: (_, _) :: (_, _) :: [])) rfl ?_
  refine j_putF (ws' := ((_, .inr (6, _ :: _ :: _ :: _ :: _ :: _ :: _ :: _ :: _ :: _ :: _ :: _ :: _ :: _ :: _ :: _ :: [])) :: (_, _) :: (_, _) :: (_, _) :: [])) X 0 (.array .int) cok_6 tf_X6_18 rfl (by decide) rfl rfl (by decide +kernel) rfl rfl (Nat.le_of_ble_eq_true rfl) rfl dX6_init_26 ?_
  refine j_aload_n X 0 rfl dX6_init_29 ?_
  refine j_sipush (v := 1024) X (by decide) dX6_init_30 ?_
  refine j_newI X 1024 aw_int (by decide) (by decide) (by decide) (by decide) (by decide) dX6_init_33 (fun q33 => ?_)
  refine j_norm (ws' := ((_, _) :: (_, _) :: (_, _) :: (_, _) :: (_, _) :: [])) rfl ?_
  refine j_putF (ws' := ((_, .inr (6, _ :: _ :: _ :: _ :: _ :: _ :: _ :: _ :: _ :: _ :: _ :: _ :: _ :: _ :: _ :: _ :: [])) :: (_, _) :: (_, _) :: (_, _) :: (_, _) :: [])) X 0 (.array .int) cok_6 tf_X6_21 rfl (by decide) rfl rfl (by decide +kernel) rfl rfl (Nat.le_of_ble_eq_true rfl) rfl dX6_init_35 ?_
  refine j_aload_n X 0 rfl dX6_init_38 ?_
  refine j_sipush (v := 1024) X (by decide) dX6_init_39 ?_
  refine j_newI X 1024 aw_int (by decide) (by decide) (by decide) (by decide) (by decide) dX6_init_42 (fun q42 => ?_)
  refine j_norm (ws' := ((_, _) :: (_, _) :: (_, _) :: (_, _) :: (_, _) :: (_, _) :: [])) rfl ?_
  refine j_putF (ws' := ((_, .inr (6, _ :: _ :: _ :: _ :: _ :: _ :: _ :: _ :: _ :: _ :: _ :: _ :: _ :: _ :: _ :: _ :: [])) :: (_, _) :: (_, _) :: (_, _) :: (_, _) :: (_, _) :: [])) X 0 (.array .int) cok_6 tf_X6_24 rfl (by decide) rfl rfl (by decide +kernel) rfl rfl (Nat.le_of_ble_eq_true rfl) rfl dX6_init_44 ?_
  refine j_aload_n X 0 rfl dX6_init_47 ?_
  refine j_sipush (v := 1024) X (by decide) dX6_init_48 ?_
  refine j_newI X 1024 aw_int (by decide) (by decide) (by decide) (by decide) (by decide) dX6_init_51 (fun q51 => ?_)
  refine j_norm (ws' := ((_, _) :: (_, _) :: (_, _) :: (_, _) :: (_, _) :: (_, _) :: (_, _) :: [])) rfl ?_
  refine j_putF (ws' := ((_, .inr (6, _ :: _ :: _ :: _ :: _ :: _ :: _ :: _ :: _ :: _ :: _ :: _ :: _ :: _ :: _ :: _ :: [])) :: (_, _) :: (_, _) :: (_, _) :: (_, _) :: (_, _) :: (_, _) :: [])) X 0 (.array .int) cok_6 tf_X6_27 rfl (by decide) rfl rfl (by decide +kernel) rfl rfl (Nat.le_of_ble_eq_true rfl) rfl dX6_init_53 ?_
  refine j_aload_n X 0 rfl dX6_init_56 ?_
  refine j_bipush (v := 10) X (by decide) dX6_init_57 ?_
  refine j_newI X 10 aw_int (by decide) (by decide) (by decide) (by decide) (by decide) dX6_init_59 (fun q59 => ?_)
  refine j_norm (ws' := ((_, _) :: (_, _) :: (_, _) :: (_, _) :: (_, _) :: (_, _) :: (_, _) :: (_, _) :: [])) rfl ?_
  refine j_putF (ws' := ((_, .inr (6, _ :: _ :: _ :: _ :: _ :: _ :: _ :: _ :: _ :: _ :: _ :: _ :: _ :: _ :: _ :: _ :: [])) :: (_, _) :: (_, _) :: (_, _) :: (_, _) :: (_, _) :: (_, _) :: (_, _) :: [])) X 0 (.array .int) cok_6 tf_X6_30 rfl (by decide) rfl rfl (by decide +kernel) rfl rfl (Nat.le_of_ble_eq_true rfl) rfl dX6_init_61 ?_
  refine j_aload_n X 0 rfl dX6_init_64 ?_
  refine j_bipush (v := 10) X (by decide) dX6_init_65 ?_
  refine j_newI X 10 aw_int (by decide) (by decide) (by decide) (by decide) (by decide) dX6_init_67 (fun q67 => ?_)
  refine j_norm (ws' := ((_, _) :: (_, _) :: (_, _) :: (_, _) :: (_, _) :: (_, _) :: (_, _) :: (_, _) :: (_, _) :: [])) rfl ?_
  refine j_putF (ws' := ((_, .inr (6, _ :: _ :: _ :: _ :: _ :: _ :: _ :: _ :: _ :: _ :: _ :: _ :: _ :: _ :: _ :: _ :: [])) :: (_, _) :: (_, _) :: (_, _) :: (_, _) :: (_, _) :: (_, _) :: (_, _) :: (_, _) :: [])) X 0 (.array .int) cok_6 tf_X6_33 rfl (by decide) rfl rfl (by decide +kernel) rfl rfl (Nat.le_of_ble_eq_true rfl) rfl dX6_init_69 ?_
  refine j_aload_n X 0 rfl dX6_init_72 ?_
  refine j_iconst (v := 0) X (by decide) dX6_init_73 ?_
  refine j_put (ws' := ((_, .inr (6, _ :: _ :: _ :: _ :: _ :: _ :: _ :: _ :: _ :: _ :: _ :: _ :: _ :: _ :: _ :: _ :: [])) :: (_, _) :: (_, _) :: (_, _) :: (_, _) :: (_, _) :: (_, _) :: (_, _) :: (_, _) :: [])) X 0 .int cok_6 lf_X6_36 rfl (by decide) rfl (by decide +kernel) rfl rfl (Nat.le_of_ble_eq_true rfl) rfl dX6_init_74 ?_
  refine j_aload_n X 0 rfl dX6_init_77 ?_
  refine j_iconst (v := 1) X (by decide) dX6_init_78 ?_
  refine j_put (ws' := ((_, .inr (6, _ :: _ :: _ :: _ :: _ :: _ :: _ :: _ :: _ :: _ :: _ :: _ :: _ :: _ :: _ :: _ :: [])) :: (_, _) :: (_, _) :: (_, _) :: (_, _) :: (_, _) :: (_, _) :: (_, _) :: (_, _) :: [])) X 0 .int cok_6 lf_X6_40 rfl (by decide) rfl (by decide +kernel) rfl rfl (Nat.le_of_ble_eq_true rfl) rfl dX6_init_79 ?_
  refine j_aload_n X 0 rfl dX6_init_82 ?_
  refine j_bipush (v := 10) X (by decide) dX6_init_83 ?_
  refine j_put (ws' := ((_, .inr (6, _ :: _ :: _ :: _ :: _ :: _ :: _ :: _ :: _ :: _ :: _ :: _ :: _ :: _ :: _ :: _ :: [])) :: (_, _) :: (_, _) :: (_, _) :: (_, _) :: (_, _) :: (_, _) :: (_, _) :: (_, _) :: [])) X 0 .int cok_6 lf_X6_43 rfl (by decide) rfl (by decide +kernel) rfl rfl (Nat.le_of_ble_eq_true rfl) rfl dX6_init_85 ?_
  refine j_aload_n X 0 rfl dX6_init_88 ?_
  refine j_iconst (v := 1) X (by decide) dX6_init_89 ?_
  refine j_put (ws' := ((_, .inr (6, _ :: _ :: _ :: _ :: _ :: _ :: _ :: _ :: _ :: _ :: _ :: _ :: _ :: _ :: _ :: _ :: [])) :: (_, _) :: (_, _) :: (_, _) :: (_, _) :: (_, _) :: (_, _) :: (_, _) :: (_, _) :: [])) X 0 .int cok_6 lf_X6_46 rfl (by decide) rfl (by decide +kernel) rfl rfl (Nat.le_of_ble_eq_true rfl) rfl dX6_init_90 ?_
  refine j_aload_n X 0 rfl dX6_init_93 ?_
  refine j_bipush (v := 60) X (by decide) dX6_init_94 ?_
  refine j_put (ws' := ((_, .inr (6, _ :: _ :: _ :: _ :: _ :: _ :: _ :: _ :: _ :: _ :: _ :: _ :: _ :: _ :: _ :: _ :: [])) :: (_, _) :: (_, _) :: (_, _) :: (_, _) :: (_, _) :: (_, _) :: (_, _) :: (_, _) :: [])) X 0 .int cok_6 lf_X6_49 rfl (by decide) rfl (by decide +kernel) rfl rfl (Nat.le_of_ble_eq_true rfl) rfl dX6_init_96 ?_
  refine j_aload_n X 0 rfl dX6_init_99 ?_
  refine j_iconst (v := 0) X (by decide) dX6_init_100 ?_
  refine j_put (ws' := ((_, .inr (6, _ :: _ :: _ :: _ :: _ :: _ :: _ :: _ :: _ :: _ :: _ :: _ :: _ :: _ :: _ :: _ :: [])) :: (_, _) :: (_, _) :: (_, _) :: (_, _) :: (_, _) :: (_, _) :: (_, _) :: (_, _) :: [])) X 0 .int cok_6 lf_X6_52 rfl (by decide) rfl (by decide +kernel) rfl rfl (Nat.le_of_ble_eq_true rfl) rfl dX6_init_101 ?_
  refine j_aload_n X 0 rfl dX6_init_104 ?_
  refine j_iconst (v := 0) X (by decide) dX6_init_105 ?_
  refine j_put (ws' := ((_, .inr (6, _ :: _ :: _ :: _ :: _ :: _ :: _ :: _ :: _ :: _ :: _ :: _ :: _ :: _ :: _ :: _ :: [])) :: (_, _) :: (_, _) :: (_, _) :: (_, _) :: (_, _) :: (_, _) :: (_, _) :: (_, _) :: [])) X 0 .int cok_6 lf_X6_55 rfl (by decide) rfl (by decide +kernel) rfl rfl (Nat.le_of_ble_eq_true rfl) rfl dX6_init_106 ?_
  refine j_aload_n X 0 rfl dX6_init_109 ?_
  refine j_iconst (v := 1) X (by decide) dX6_init_110 ?_
  refine j_put (ws' := ((_, .inr (6, _ :: _ :: _ :: _ :: _ :: _ :: _ :: _ :: _ :: _ :: _ :: _ :: _ :: _ :: _ :: _ :: [])) :: (_, _) :: (_, _) :: (_, _) :: (_, _) :: (_, _) :: (_, _) :: (_, _) :: (_, _) :: [])) X 0 .boolean cok_6 lf_X6_58 rfl (by decide) rfl (by decide +kernel) rfl rfl (Nat.le_of_ble_eq_true rfl) rfl dX6_init_111 ?_
  exact j_norm rfl (j_cnt rfl rfl (hend (fun k => [q7, q15, q24, q33, q42, q51, q59, q67].getD k 0) _ _ dX6_init_114))
set_option maxRecDepth 20000 in
set_option maxHeartbeats 4000000 in
theorem nX1_init (b : Nat) : IMet yX1_init cX1_init 1 2 9 1589 [.ref b] [(b, .inr (1, [.null, .null, .int 0, .int 0, .int 0, .int 0]))] (fun cI cZ u => [(b, .inr (1, [.ref (u 0), .ref (u 3), .int (0), .int 0, .int 0, .int 0])), ((u 0), .inr (8, [.ref (u 1), .ref (u 2), .int (0)])), ((u 1), .inl (cI, 601, .inl (fun _ => 0))), ((u 2), .inl (cI, 601, .inl (fun _ => 0))), ((u 3), .inr (2, [.ref (u 4), .ref (u 5), .ref (u 6), .ref (u 7), .ref (u 8), .int (0), .int (0), .int (0)])), ((u 4), .inl (cI, 8, .inl (fun _ => 0))), ((u 5), .inl (cI, 8, .inl (fun _ => 0))), ((u 6), .inl (cI, 8, .inl (fun _ => 0))), ((u 7), .inl (cI, 320, .inl (fun _ => 0))), ((u 8), .inl (cI, 32, .inl (fun _ => 0)))]) := by
  refine mk_init [(0, .ref b)] (by decide) rfl (Nat.le_of_ble_eq_true rfl) rfl (fun E X hend => ?_)
  refine j_aload_n X 0 rfl dX1_init_0 ?_
  refine j_objInit X ow_X1_3 oi_i oi_c (by decide) (Nat.le_of_ble_eq_true rfl) dX1_init_1 ?_
  refine j_aload_n X 0 rfl dX1_init_4 ?_
  refine j_new (fs := [.null, .null, .int 0]) X cok_8 cw_X1_9 iw_X8 nw_X8 (by decide +kernel) (by decide) (by decide) dX1_init_5 (fun q5 => ?_)
  refine j_norm (ws' := ((_, _) :: (_, _) :: [])) rfl ?_
  refine j_dup X rfl dX1_init_8 ?_
  refine j_call (wr := ((_, _) :: [])) X (nX8_init q5) mi_X8_init lki_X1_11 1 [0] rfl rfl (by decide) (by decide) rfl (by decide) (by decide) (Nat.le_of_ble_eq_true rfl) (by decide) (by decide) rfl dX1_init_9 (fun u9 => ?_)
  refine j_norm (ws' := ((_, _) :: (_, _) :: (_, _) :: (_, _) :: [])) rfl ?_
  refine j_putF (ws' := ((_, .inr (1, _ :: _ :: _ :: _ :: _ :: _ :: [])) :: (_, _) :: (_, _) :: (_, _) :: [])) X 0 (.object "PlyHouse$Tokens") cok_1 tf_X1_12 rfl (by decide) rfl rfl (by decide +kernel) rfl rfl (Nat.le_of_ble_eq_true rfl) rfl dX1_init_12 ?_
  refine j_aload_n X 0 rfl dX1_init_15 ?_
  refine j_new (fs := [.null, .null, .null, .null, .null, .int 0, .int 0, .int 0]) X cok_2 cw_X1_18 iw_X2 nw_X2 (by decide +kernel) (by decide) (by decide) dX1_init_16 (fun q16 => ?_)
  refine j_norm (ws' := ((_, _) :: (_, _) :: (_, _) :: (_, _) :: (_, _) :: [])) rfl ?_
  refine j_dup X rfl dX1_init_19 ?_
  refine j_call (wr := ((_, _) :: (_, _) :: (_, _) :: (_, _) :: [])) X (nX2_init q16) mi_X2_init lki_X1_20 4 [0, 1, 2, 3] rfl rfl (by decide) (by decide) rfl (by decide) (by decide) (Nat.le_of_ble_eq_true rfl) (by decide) (by decide) rfl dX1_init_20 (fun u20 => ?_)
  refine j_norm (ws' := ((_, _) :: (_, _) :: (_, _) :: (_, _) :: (_, _) :: (_, _) :: (_, _) :: (_, _) :: (_, _) :: (_, _) :: [])) rfl ?_
  refine j_putF (ws' := ((_, .inr (1, _ :: _ :: _ :: _ :: _ :: _ :: [])) :: (_, _) :: (_, _) :: (_, _) :: (_, _) :: (_, _) :: (_, _) :: (_, _) :: (_, _) :: (_, _) :: [])) X 0 (.object "PlyHouse$Grades") cok_1 tf_X1_21 rfl (by decide) rfl rfl (by decide +kernel) rfl rfl (Nat.le_of_ble_eq_true rfl) rfl dX1_init_23 ?_
  refine j_aload_n X 0 rfl dX1_init_26 ?_
  refine j_iconst (v := 0) X (by decide) dX1_init_27 ?_
  refine j_put (ws' := ((_, .inr (1, _ :: _ :: _ :: _ :: _ :: _ :: [])) :: (_, _) :: (_, _) :: (_, _) :: (_, _) :: (_, _) :: (_, _) :: (_, _) :: (_, _) :: (_, _) :: [])) X 0 .int cok_1 lf_X1_25 rfl (by decide) rfl (by decide +kernel) rfl rfl (Nat.le_of_ble_eq_true rfl) rfl dX1_init_28 ?_
  exact j_norm rfl (j_cnt rfl rfl (hend (fun k => [q5, (u9 0), (u9 1), q16, (u20 0), (u20 1), (u20 2), (u20 3), (u20 4)].getD k 0) _ _ dX1_init_31))
set_option maxRecDepth 20000 in
set_option maxHeartbeats 4000000 in
theorem nX0_init (b a1 a2 : Nat) : IMet yX0_init cX0_init 3 2 7 1614 [.ref b, .ref a1, .ref a2] [(b, .inr (0, [.null, .null, .null, .null, .null, .null, .null, .null, .int 0, .int 0, .int 0, .int 0]))] (fun cI cZ u => [(b, .inr (0, [.ref a1, .ref a2, .ref (u 0), .ref (u 2), .ref (u 3), .ref (u 4), .ref (u 5), .ref (u 6), .int (0), .int (1), .int (0), .int (1)])), ((u 0), .inr (5, [.ref a2, .ref (u 1), .int 0, .int 0, .int 0, .int 0, .int 0, .int 0, .int 0])), ((u 1), .inl (cI, 101, .inl (fun _ => 0))), ((u 2), .inl (cI, 301, .inl (fun _ => 0))), ((u 3), .inl (cI, 301, .inl (fun _ => 0))), ((u 4), .inl (cI, 301, .inl (fun _ => 0))), ((u 5), .inl (cI, 301, .inl (fun _ => 0))), ((u 6), .inl (cI, 300, .inl (fun _ => 0)))]) := by
  refine mk_init [(0, .ref b), (1, .ref a1), (2, .ref a2)] (by decide) rfl (Nat.le_of_ble_eq_true rfl) rfl (fun E X hend => ?_)
  refine j_aload_n X 0 rfl dX0_init_0 ?_
  refine j_objInit X ow_X0_3 oi_i oi_c (by decide) (Nat.le_of_ble_eq_true rfl) dX0_init_1 ?_
  refine j_aload_n X 0 rfl dX0_init_4 ?_
  refine j_aload_n X 1 rfl dX0_init_5 ?_
  refine j_putF (ws' := ((_, .inr (0, _ :: _ :: _ :: _ :: _ :: _ :: _ :: _ :: _ :: _ :: _ :: _ :: [])) :: [])) X 0 (.object "PlyHouse$Grades") cok_0 tf_X0_9 rfl (by decide) rfl rfl (by decide +kernel) rfl rfl (Nat.le_of_ble_eq_true rfl) rfl dX0_init_6 ?_
  refine j_aload_n X 0 rfl dX0_init_9 ?_
  refine j_aload_n X 2 rfl dX0_init_10 ?_
  refine j_putF (ws' := ((_, .inr (0, _ :: _ :: _ :: _ :: _ :: _ :: _ :: _ :: _ :: _ :: _ :: _ :: [])) :: [])) X 0 (.object "PlyHouse$Leaf") cok_0 tf_X0_15 rfl (by decide) rfl rfl (by decide +kernel) rfl rfl (Nat.le_of_ble_eq_true rfl) rfl dX0_init_11 ?_
  refine j_aload_n X 0 rfl dX0_init_14 ?_
  refine j_new (fs := [.null, .null, .int 0, .int 0, .int 0, .int 0, .int 0, .int 0, .int 0]) X cok_5 cw_X0_19 iw_X5 nw_X5 (by decide +kernel) (by decide) (by decide) dX0_init_15 (fun q15 => ?_)
  refine j_norm (ws' := ((_, _) :: (_, _) :: [])) rfl ?_
  refine j_dup X rfl dX0_init_18 ?_
  refine j_aload_n X 2 rfl dX0_init_19 ?_
  refine j_call (wr := ((_, _) :: [])) X (nX5_init q15 a2) mi_X5_init lki_X0_21 1 [0] rfl rfl (by decide) (by decide) rfl (by decide) (by decide) (Nat.le_of_ble_eq_true rfl) (by decide) (by decide) rfl dX0_init_20 (fun u20 => ?_)
  refine j_norm (ws' := ((_, _) :: (_, _) :: (_, _) :: [])) rfl ?_
  refine j_putF (ws' := ((_, .inr (0, _ :: _ :: _ :: _ :: _ :: _ :: _ :: _ :: _ :: _ :: _ :: _ :: [])) :: (_, _) :: (_, _) :: [])) X 0 (.object "PlyHouse$Part") cok_0 tf_X0_24 rfl (by decide) rfl rfl (by decide +kernel) rfl rfl (Nat.le_of_ble_eq_true rfl) rfl dX0_init_23 ?_
  refine j_aload_n X 0 rfl dX0_init_26 ?_
  refine j_sipush (v := 301) X (by decide) dX0_init_27 ?_
  refine j_newI X 301 aw_int (by decide) (by decide) (by decide) (by decide) (by decide) dX0_init_30 (fun q30 => ?_)
  refine j_norm (ws' := ((_, _) :: (_, _) :: (_, _) :: (_, _) :: [])) rfl ?_
  refine j_putF (ws' := ((_, .inr (0, _ :: _ :: _ :: _ :: _ :: _ :: _ :: _ :: _ :: _ :: _ :: _ :: [])) :: (_, _) :: (_, _) :: (_, _) :: [])) X 0 (.array .int) cok_0 tf_X0_30 rfl (by decide) rfl rfl (by decide +kernel) rfl rfl (Nat.le_of_ble_eq_true rfl) rfl dX0_init_32 ?_
  refine j_aload_n X 0 rfl dX0_init_35 ?_
  refine j_sipush (v := 301) X (by decide) dX0_init_36 ?_
  refine j_newI X 301 aw_int (by decide) (by decide) (by decide) (by decide) (by decide) dX0_init_39 (fun q39 => ?_)
  refine j_norm (ws' := ((_, _) :: (_, _) :: (_, _) :: (_, _) :: (_, _) :: [])) rfl ?_
  refine j_putF (ws' := ((_, .inr (0, _ :: _ :: _ :: _ :: _ :: _ :: _ :: _ :: _ :: _ :: _ :: _ :: [])) :: (_, _) :: (_, _) :: (_, _) :: (_, _) :: [])) X 0 (.array .int) cok_0 tf_X0_34 rfl (by decide) rfl rfl (by decide +kernel) rfl rfl (Nat.le_of_ble_eq_true rfl) rfl dX0_init_41 ?_
  refine j_aload_n X 0 rfl dX0_init_44 ?_
  refine j_sipush (v := 301) X (by decide) dX0_init_45 ?_
  refine j_newI X 301 aw_int (by decide) (by decide) (by decide) (by decide) (by decide) dX0_init_48 (fun q48 => ?_)
  refine j_norm (ws' := ((_, _) :: (_, _) :: (_, _) :: (_, _) :: (_, _) :: (_, _) :: [])) rfl ?_
  refine j_putF (ws' := ((_, .inr (0, _ :: _ :: _ :: _ :: _ :: _ :: _ :: _ :: _ :: _ :: _ :: _ :: [])) :: (_, _) :: (_, _) :: (_, _) :: (_, _) :: (_, _) :: [])) X 0 (.array .int) cok_0 tf_X0_37 rfl (by decide) rfl rfl (by decide +kernel) rfl rfl (Nat.le_of_ble_eq_true rfl) rfl dX0_init_50 ?_
  refine j_aload_n X 0 rfl dX0_init_53 ?_
  refine j_sipush (v := 301) X (by decide) dX0_init_54 ?_
  refine j_newI X 301 aw_int (by decide) (by decide) (by decide) (by decide) (by decide) dX0_init_57 (fun q57 => ?_)
  refine j_norm (ws' := ((_, _) :: (_, _) :: (_, _) :: (_, _) :: (_, _) :: (_, _) :: (_, _) :: [])) rfl ?_
  refine j_putF (ws' := ((_, .inr (0, _ :: _ :: _ :: _ :: _ :: _ :: _ :: _ :: _ :: _ :: _ :: _ :: [])) :: (_, _) :: (_, _) :: (_, _) :: (_, _) :: (_, _) :: (_, _) :: [])) X 0 (.array .int) cok_0 tf_X0_40 rfl (by decide) rfl rfl (by decide +kernel) rfl rfl (Nat.le_of_ble_eq_true rfl) rfl dX0_init_59 ?_
  refine j_aload_n X 0 rfl dX0_init_62 ?_
  refine j_sipush (v := 300) X (by decide) dX0_init_63 ?_
  refine j_newI X 300 aw_int (by decide) (by decide) (by decide) (by decide) (by decide) dX0_init_66 (fun q66 => ?_)
  refine j_norm (ws' := ((_, _) :: (_, _) :: (_, _) :: (_, _) :: (_, _) :: (_, _) :: (_, _) :: (_, _) :: [])) rfl ?_
  refine j_putF (ws' := ((_, .inr (0, _ :: _ :: _ :: _ :: _ :: _ :: _ :: _ :: _ :: _ :: _ :: _ :: [])) :: (_, _) :: (_, _) :: (_, _) :: (_, _) :: (_, _) :: (_, _) :: (_, _) :: [])) X 0 (.array .int) cok_0 tf_X0_43 rfl (by decide) rfl rfl (by decide +kernel) rfl rfl (Nat.le_of_ble_eq_true rfl) rfl dX0_init_68 ?_
  refine j_aload_n X 0 rfl dX0_init_71 ?_
  refine j_iconst (v := 0) X (by decide) dX0_init_72 ?_
  refine j_put (ws' := ((_, .inr (0, _ :: _ :: _ :: _ :: _ :: _ :: _ :: _ :: _ :: _ :: _ :: _ :: [])) :: (_, _) :: (_, _) :: (_, _) :: (_, _) :: (_, _) :: (_, _) :: (_, _) :: [])) X 0 .int cok_0 lf_X0_46 rfl (by decide) rfl (by decide +kernel) rfl rfl (Nat.le_of_ble_eq_true rfl) rfl dX0_init_73 ?_
  refine j_aload_n X 0 rfl dX0_init_76 ?_
  refine j_iconst (v := 1) X (by decide) dX0_init_77 ?_
  refine j_put (ws' := ((_, .inr (0, _ :: _ :: _ :: _ :: _ :: _ :: _ :: _ :: _ :: _ :: _ :: _ :: [])) :: (_, _) :: (_, _) :: (_, _) :: (_, _) :: (_, _) :: (_, _) :: (_, _) :: [])) X 0 .int cok_0 lf_X0_50 rfl (by decide) rfl (by decide +kernel) rfl rfl (Nat.le_of_ble_eq_true rfl) rfl dX0_init_78 ?_
  refine j_aload_n X 0 rfl dX0_init_81 ?_
  refine j_iconst (v := 0) X (by decide) dX0_init_82 ?_
  refine j_put (ws' := ((_, .inr (0, _ :: _ :: _ :: _ :: _ :: _ :: _ :: _ :: _ :: _ :: _ :: _ :: [])) :: (_, _) :: (_, _) :: (_, _) :: (_, _) :: (_, _) :: (_, _) :: (_, _) :: [])) X 0 .int cok_0 lf_X0_53 rfl (by decide) rfl (by decide +kernel) rfl rfl (Nat.le_of_ble_eq_true rfl) rfl dX0_init_83 ?_
  refine j_aload_n X 0 rfl dX0_init_86 ?_
  refine j_iconst (v := 1) X (by decide) dX0_init_87 ?_
  refine j_put (ws' := ((_, .inr (0, _ :: _ :: _ :: _ :: _ :: _ :: _ :: _ :: _ :: _ :: _ :: _ :: [])) :: (_, _) :: (_, _) :: (_, _) :: (_, _) :: (_, _) :: (_, _) :: (_, _) :: [])) X 0 .boolean cok_0 lf_X0_56 rfl (by decide) rfl (by decide +kernel) rfl rfl (Nat.le_of_ble_eq_true rfl) rfl dX0_init_88 ?_
  exact j_norm rfl (j_cnt rfl rfl (hend (fun k => [q15, (u20 0), q30, q39, q48, q57, q66].getD k 0) _ _ dX0_init_91))
