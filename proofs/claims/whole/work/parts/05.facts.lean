def layC : List LE := [.inl (10, [(0, 1), (0, 2), (0, 3), (0, 6), (0, 7), (0, 9), (0, 10), (0, 11), (1, 0), (1, 0)]), .inl (4, [(0, 12), (1, 0), (1, 0), (1, 0), (1, 0)]), .inl (7, [(0, 13), (1, 0)]), .inl (1, [(0, 4), (0, 5), (1, 0), (1, 0), (1, 0), (1, 0)]), .inl (8, [(0, 14), (0, 15), (1, 0)]), .inl (2, [(0, 16), (0, 17), (0, 18), (0, 19), (0, 20), (1, 0), (1, 0), (1, 0)]), .inl (2, [(0, 21), (0, 22), (0, 23), (0, 24), (0, 25), (1, 0), (1, 0), (1, 0)]), .inl (3, [(0, 26), (0, 27), (0, 28), (0, 29), (0, 30), (1, 0)]), .inl (5, [(0, 7), (0, 31), (1, 0), (1, 0), (1, 0), (1, 0), (1, 0), (1, 0), (1, 0)]), .inl (0, [(0, 6), (0, 7), (0, 8), (0, 32), (0, 33), (0, 34), (0, 35), (0, 36), (1, 0), (1, 0), (1, 0), (1, 0)]), .inl (9, [(0, 37), (0, 38), (0, 39), (0, 40), (1, 0), (1, 0), (1, 0), (1, 0), (1, 0)]), .inl (6, [(0, 41), (0, 42), (0, 43), (0, 44), (0, 45), (0, 46), (0, 47), (0, 48), (1, 0), (1, 0), (1, 0), (1, 0), (1, 0), (1, 0), (1, 0), (1, 0)]), .inr (false, 24), .inr (false, 600), .inr (false, 601), .inr (false, 601), .inr (false, 8), .inr (false, 8), .inr (false, 8), .inr (false, 320), .inr (false, 32), .inr (false, 8), .inr (false, 8), .inr (false, 8), .inr (false, 320), .inr (false, 32), .inr (false, 301), .inr (false, 301), .inr (false, 301), .inr (false, 301), .inr (false, 301), .inr (false, 101), .inr (false, 301), .inr (false, 301), .inr (false, 301), .inr (false, 301), .inr (false, 300), .inr (false, 6), .inr (false, 6), .inr (false, 6), .inr (true, 6), .inr (false, 10), .inr (false, 10), .inr (false, 1024), .inr (false, 1024), .inr (false, 1024), .inr (false, 1024), .inr (false, 10), .inr (false, 10)]
theorem lc_0 : layC[0]? = some (.inl (10, [(0, 1), (0, 2), (0, 3), (0, 6), (0, 7), (0, 9), (0, 10), (0, 11), (1, 0), (1, 0)])) := rfl
theorem lc_1 : layC[1]? = some (.inl (4, [(0, 12), (1, 0), (1, 0), (1, 0), (1, 0)])) := rfl
theorem lc_2 : layC[2]? = some (.inl (7, [(0, 13), (1, 0)])) := rfl
theorem lc_3 : layC[3]? = some (.inl (1, [(0, 4), (0, 5), (1, 0), (1, 0), (1, 0), (1, 0)])) := rfl
theorem lc_4 : layC[4]? = some (.inl (8, [(0, 14), (0, 15), (1, 0)])) := rfl
theorem lc_5 : layC[5]? = some (.inl (2, [(0, 16), (0, 17), (0, 18), (0, 19), (0, 20), (1, 0), (1, 0), (1, 0)])) := rfl
theorem lc_6 : layC[6]? = some (.inl (2, [(0, 21), (0, 22), (0, 23), (0, 24), (0, 25), (1, 0), (1, 0), (1, 0)])) := rfl
theorem lc_7 : layC[7]? = some (.inl (3, [(0, 26), (0, 27), (0, 28), (0, 29), (0, 30), (1, 0)])) := rfl
theorem lc_8 : layC[8]? = some (.inl (5, [(0, 7), (0, 31), (1, 0), (1, 0), (1, 0), (1, 0), (1, 0), (1, 0), (1, 0)])) := rfl
theorem lc_9 : layC[9]? = some (.inl (0, [(0, 6), (0, 7), (0, 8), (0, 32), (0, 33), (0, 34), (0, 35), (0, 36), (1, 0), (1, 0), (1, 0), (1, 0)])) := rfl
theorem lc_10 : layC[10]? = some (.inl (9, [(0, 37), (0, 38), (0, 39), (0, 40), (1, 0), (1, 0), (1, 0), (1, 0), (1, 0)])) := rfl
theorem lc_11 : layC[11]? = some (.inl (6, [(0, 41), (0, 42), (0, 43), (0, 44), (0, 45), (0, 46), (0, 47), (0, 48), (1, 0), (1, 0), (1, 0), (1, 0), (1, 0), (1, 0), (1, 0), (1, 0)])) := rfl
theorem lc_12 : layC[12]? = some (.inr (false, 24)) := rfl
theorem lc_13 : layC[13]? = some (.inr (false, 600)) := rfl
theorem lc_14 : layC[14]? = some (.inr (false, 601)) := rfl
theorem lc_15 : layC[15]? = some (.inr (false, 601)) := rfl
theorem lc_16 : layC[16]? = some (.inr (false, 8)) := rfl
theorem lc_17 : layC[17]? = some (.inr (false, 8)) := rfl
theorem lc_18 : layC[18]? = some (.inr (false, 8)) := rfl
theorem lc_19 : layC[19]? = some (.inr (false, 320)) := rfl
theorem lc_20 : layC[20]? = some (.inr (false, 32)) := rfl
theorem lc_21 : layC[21]? = some (.inr (false, 8)) := rfl
theorem lc_22 : layC[22]? = some (.inr (false, 8)) := rfl
theorem lc_23 : layC[23]? = some (.inr (false, 8)) := rfl
theorem lc_24 : layC[24]? = some (.inr (false, 320)) := rfl
theorem lc_25 : layC[25]? = some (.inr (false, 32)) := rfl
theorem lc_26 : layC[26]? = some (.inr (false, 301)) := rfl
theorem lc_27 : layC[27]? = some (.inr (false, 301)) := rfl
theorem lc_28 : layC[28]? = some (.inr (false, 301)) := rfl
theorem lc_29 : layC[29]? = some (.inr (false, 301)) := rfl
theorem lc_30 : layC[30]? = some (.inr (false, 301)) := rfl
theorem lc_31 : layC[31]? = some (.inr (false, 101)) := rfl
theorem lc_32 : layC[32]? = some (.inr (false, 301)) := rfl
theorem lc_33 : layC[33]? = some (.inr (false, 301)) := rfl
theorem lc_34 : layC[34]? = some (.inr (false, 301)) := rfl
theorem lc_35 : layC[35]? = some (.inr (false, 301)) := rfl
theorem lc_36 : layC[36]? = some (.inr (false, 300)) := rfl
theorem lc_37 : layC[37]? = some (.inr (false, 6)) := rfl
theorem lc_38 : layC[38]? = some (.inr (false, 6)) := rfl
theorem lc_39 : layC[39]? = some (.inr (false, 6)) := rfl
theorem lc_40 : layC[40]? = some (.inr (true, 6)) := rfl
theorem lc_41 : layC[41]? = some (.inr (false, 10)) := rfl
theorem lc_42 : layC[42]? = some (.inr (false, 10)) := rfl
theorem lc_43 : layC[43]? = some (.inr (false, 1024)) := rfl
theorem lc_44 : layC[44]? = some (.inr (false, 1024)) := rfl
theorem lc_45 : layC[45]? = some (.inr (false, 1024)) := rfl
theorem lc_46 : layC[46]? = some (.inr (false, 1024)) := rfl
theorem lc_47 : layC[47]? = some (.inr (false, 10)) := rfl
theorem lc_48 : layC[48]? = some (.inr (false, 10)) := rfl
def layM : List LE := [.inl (11, [(0, 1), (1, 0), (1, 0), (1, 0), (0, 2), (1, 0), (1, 0), (1, 0), (1, 0), (1, 0), (1, 0), (1, 0), (1, 0), (2, 0), (1, 0), (0, 3), (0, 4), (0, 5), (0, 6), (0, 7), (1, 0), (1, 0), (1, 0), (0, 8), (0, 9), (0, 10), (0, 11), (0, 12), (0, 13), (1, 0), (1, 0), (0, 14), (1, 0), (1, 0), (1, 0), (0, 15), (0, 16), (0, 17), (0, 18), (0, 19), (0, 20), (0, 21), (0, 22), (1, 0), (0, 23), (0, 24), (0, 25), (0, 26), (0, 27), (1, 0), (1, 0), (1, 0), (1, 0), (1, 0), (0, 28), (0, 29), (0, 30), (0, 31), (0, 32), (1, 0), (1, 0)]), .inr (false, 24), .inr (false, 600), .inr (false, 8), .inr (false, 8), .inr (false, 600), .inr (false, 600), .inr (false, 9), .inr (false, 8), .inr (false, 8), .inr (false, 600), .inr (false, 600), .inr (false, 9), .inr (false, 300), .inr (false, 300), .inr (false, 5), .inr (false, 200), .inr (false, 301), .inr (false, 301), .inr (false, 300), .inr (false, 300), .inr (false, 300), .inr (true, 9600), .inr (false, 6), .inr (false, 6), .inr (false, 6), .inr (false, 9), .inr (true, 6), .inr (false, 10), .inr (false, 10), .inr (false, 1024), .inr (false, 10), .inr (false, 10)]
theorem lm_0 : layM[0]? = some (.inl (11, [(0, 1), (1, 0), (1, 0), (1, 0), (0, 2), (1, 0), (1, 0), (1, 0), (1, 0), (1, 0), (1, 0), (1, 0), (1, 0), (2, 0), (1, 0), (0, 3), (0, 4), (0, 5), (0, 6), (0, 7), (1, 0), (1, 0), (1, 0), (0, 8), (0, 9), (0, 10), (0, 11), (0, 12), (0, 13), (1, 0), (1, 0), (0, 14), (1, 0), (1, 0), (1, 0), (0, 15), (0, 16), (0, 17), (0, 18), (0, 19), (0, 20), (0, 21), (0, 22), (1, 0), (0, 23), (0, 24), (0, 25), (0, 26), (0, 27), (1, 0), (1, 0), (1, 0), (1, 0), (1, 0), (0, 28), (0, 29), (0, 30), (0, 31), (0, 32), (1, 0), (1, 0)])) := rfl
theorem lm_1 : layM[1]? = some (.inr (false, 24)) := rfl
theorem lm_2 : layM[2]? = some (.inr (false, 600)) := rfl
theorem lm_3 : layM[3]? = some (.inr (false, 8)) := rfl
theorem lm_4 : layM[4]? = some (.inr (false, 8)) := rfl
theorem lm_5 : layM[5]? = some (.inr (false, 600)) := rfl
theorem lm_6 : layM[6]? = some (.inr (false, 600)) := rfl
theorem lm_7 : layM[7]? = some (.inr (false, 9)) := rfl
theorem lm_8 : layM[8]? = some (.inr (false, 8)) := rfl
theorem lm_9 : layM[9]? = some (.inr (false, 8)) := rfl
theorem lm_10 : layM[10]? = some (.inr (false, 600)) := rfl
theorem lm_11 : layM[11]? = some (.inr (false, 600)) := rfl
theorem lm_12 : layM[12]? = some (.inr (false, 9)) := rfl
theorem lm_13 : layM[13]? = some (.inr (false, 300)) := rfl
theorem lm_14 : layM[14]? = some (.inr (false, 300)) := rfl
theorem lm_15 : layM[15]? = some (.inr (false, 5)) := rfl
theorem lm_16 : layM[16]? = some (.inr (false, 200)) := rfl
theorem lm_17 : layM[17]? = some (.inr (false, 301)) := rfl
theorem lm_18 : layM[18]? = some (.inr (false, 301)) := rfl
theorem lm_19 : layM[19]? = some (.inr (false, 300)) := rfl
theorem lm_20 : layM[20]? = some (.inr (false, 300)) := rfl
theorem lm_21 : layM[21]? = some (.inr (false, 300)) := rfl
theorem lm_22 : layM[22]? = some (.inr (true, 9600)) := rfl
theorem lm_23 : layM[23]? = some (.inr (false, 6)) := rfl
theorem lm_24 : layM[24]? = some (.inr (false, 6)) := rfl
theorem lm_25 : layM[25]? = some (.inr (false, 6)) := rfl
theorem lm_26 : layM[26]? = some (.inr (false, 9)) := rfl
theorem lm_27 : layM[27]? = some (.inr (true, 6)) := rfl
theorem lm_28 : layM[28]? = some (.inr (false, 10)) := rfl
theorem lm_29 : layM[29]? = some (.inr (false, 10)) := rfl
theorem lm_30 : layM[30]? = some (.inr (false, 1024)) := rfl
theorem lm_31 : layM[31]? = some (.inr (false, 10)) := rfl
theorem lm_32 : layM[32]? = some (.inr (false, 10)) := rfl
theorem co_in {C : String} {T : u_T} {N : Nat} (is : List Nat) (h : u_ws C T N = is.filterMap (fun i => tables_1[i]?)) (g : (u_ws C T N).all goodWord = true) : ∀ w ∈ u_ws C T N, w ∈ TG := by
  intro w hw
  have h1 := List.all_eq_true.mp g w hw
  rw [h] at hw
  obtain ⟨i, -, hi⟩ := List.mem_filterMap.mp hw
  exact tg_of i hi h1
theorem cok_0 : cOK 0 RX0 TX0 12 tyX0 := ⟨rfl, co_in [236, 238, 240, 242, 244, 246, 248, 250, 252, 254, 256, 258] (by decide +kernel) (by decide +kernel), tyX0_ok, nmX0⟩
theorem cok_1 : cOK 1 RX1 TX1 6 tyX1 := ⟨rfl, co_in [135, 137, 139, 141, 143, 145] (by decide +kernel) (by decide +kernel), tyX1_ok, nmX1⟩
theorem cok_2 : cOK 2 RX2 TX2 8 tyX2 := ⟨rfl, co_in [110, 112, 114, 116, 118, 120, 122, 124] (by decide +kernel) (by decide +kernel), tyX2_ok, nmX2⟩
theorem cok_3 : cOK 3 RX3 TX3 6 tyX3 := ⟨rfl, co_in [168, 170, 172, 174, 176, 178] (by decide +kernel) (by decide +kernel), tyX3_ok, nmX3⟩
theorem cok_4 : cOK 4 RX4 TX4 5 tyX4 := ⟨rfl, co_in [41, 43, 45, 47, 49] (by decide +kernel) (by decide +kernel), tyX4_ok, nmX4⟩
theorem cok_5 : cOK 5 RX5 TX5 9 tyX5 := ⟨rfl, co_in [204, 206, 208, 210, 212, 214, 216, 218, 220] (by decide +kernel) (by decide +kernel), tyX5_ok, nmX5⟩
theorem cok_6 : cOK 6 RX6 TX6 16 tyX6 := ⟨rfl, co_in [321, 323, 325, 327, 329, 331, 333, 335, 337, 339, 341, 343, 345, 347, 349, 351] (by decide +kernel) (by decide +kernel), tyX6_ok, nmX6⟩
theorem cok_7 : cOK 7 RX7 TX7 2 tyX7 := ⟨rfl, co_in [64, 66] (by decide +kernel) (by decide +kernel), tyX7_ok, nmX7⟩
theorem cok_8 : cOK 8 RX8 TX8 3 tyX8 := ⟨rfl, co_in [87, 89, 91] (by decide +kernel) (by decide +kernel), tyX8_ok, nmX8⟩
theorem cok_9 : cOK 9 RX9 TX9 9 tyX9 := ⟨rfl, co_in [276, 278, 280, 282, 284, 286, 288, 290, 292] (by decide +kernel) (by decide +kernel), tyX9_ok, nmX9⟩
theorem cok_10 : cOK 10 RX10 TX10 10 tyX10 := ⟨rfl, co_in [364, 366, 368, 370, 372, 374, 376, 378, 380, 382] (by decide +kernel) (by decide +kernel), tyX10_ok, nmX10⟩
theorem cok_11 : cOK 11 RX11 TX11 61 tyX11 := ⟨rfl, co_in [967, 969, 971, 973, 975, 977, 979, 981, 983, 985, 987, 989, 991, 993, 995, 997, 999, 1001, 1003, 1005, 1007, 1009, 1011, 1013, 1015, 1017, 1019, 1021, 1023, 1025, 1027, 1029, 1031, 1033, 1035, 1037, 1039, 1041, 1043, 1045, 1047, 1049, 1051, 1053, 1055, 1057, 1059, 1061, 1063, 1065, 1067, 1069, 1071, 1073, 1075, 1077, 1079, 1081, 1083, 1085, 1087] (by decide +kernel) (by decide +kernel), tyX11_ok, nmX11⟩
theorem lf_X10_10 : lkF RX10 10 TX10 0 := Or.inl (tg_of 354 (by decide +kernel) rfl)
theorem fk_X10_10 : fOK RX10 10 10 0 := ⟨_, _, _, _, cok_10, by decide, lf_X10_10⟩
theorem lf_X10_19 : lkF RX10 19 TX10 1 := Or.inl (tg_of 355 (by decide +kernel) rfl)
theorem fk_X10_19 : fOK RX10 19 10 1 := ⟨_, _, _, _, cok_10, by decide, lf_X10_19⟩
theorem lf_X10_26 : lkF RX10 26 TX10 2 := Or.inl (tg_of 356 (by decide +kernel) rfl)
theorem fk_X10_26 : fOK RX10 26 10 2 := ⟨_, _, _, _, cok_10, by decide, lf_X10_26⟩
theorem lf_X10_33 : lkF RX10 33 TX10 3 := Or.inl (tg_of 357 (by decide +kernel) rfl)
theorem fk_X10_33 : fOK RX10 33 10 3 := ⟨_, _, _, _, cok_10, by decide, lf_X10_33⟩
theorem lf_X10_40 : lkF RX10 40 TX10 4 := Or.inl (tg_of 358 (by decide +kernel) rfl)
theorem fk_X10_40 : fOK RX10 40 10 4 := ⟨_, _, _, _, cok_10, by decide, lf_X10_40⟩
theorem lf_X10_49 : lkF RX10 49 TX10 5 := Or.inl (tg_of 359 (by decide +kernel) rfl)
theorem fk_X10_49 : fOK RX10 49 10 5 := ⟨_, _, _, _, cok_10, by decide, lf_X10_49⟩
theorem lf_X10_56 : lkF RX10 56 TX10 6 := Or.inl (tg_of 360 (by decide +kernel) rfl)
theorem fk_X10_56 : fOK RX10 56 10 6 := ⟨_, _, _, _, cok_10, by decide, lf_X10_56⟩
theorem lf_X10_63 : lkF RX10 63 TX10 7 := Or.inl (tg_of 361 (by decide +kernel) rfl)
theorem fk_X10_63 : fOK RX10 63 10 7 := ⟨_, _, _, _, cok_10, by decide, lf_X10_63⟩
theorem lf_X10_67 : lkF RX10 67 TX10 8 := Or.inl (tg_of 362 (by decide +kernel) rfl)
theorem fk_X10_67 : fOK RX10 67 10 8 := ⟨_, _, _, _, cok_10, by decide, lf_X10_67⟩
theorem pk_X10_67 : pOK RX10 67 10 8 .int := ⟨_, _, _, _, cok_10, by decide, lf_X10_67, rfl, by decide +kernel⟩
theorem lf_X10_71 : lkF RX10 71 TX10 9 := Or.inl (tg_of 363 (by decide +kernel) rfl)
theorem fk_X10_71 : fOK RX10 71 10 9 := ⟨_, _, _, _, cok_10, by decide, lf_X10_71⟩
theorem pk_X10_71 : pOK RX10 71 10 9 .int := ⟨_, _, _, _, cok_10, by decide, lf_X10_71, rfl, by decide +kernel⟩
theorem lf_X10_81 : lkF RX10 81 TX4 4 := Or.inr ⟨"PlyHouse", nw_of 40 (by decide +kernel) rfl⟩
theorem fk_X10_81 : fOK RX10 81 4 4 := ⟨_, _, _, _, cok_4, by decide, lf_X10_81⟩
theorem pk_X10_81 : pOK RX10 81 4 4 .int := ⟨_, _, _, _, cok_4, by decide, lf_X10_81, rfl, by decide +kernel⟩
theorem lf_X10_84 : lkF RX10 84 TX4 2 := Or.inr ⟨"PlyHouse", nw_of 35 (by decide +kernel) rfl⟩
theorem fk_X10_84 : fOK RX10 84 4 2 := ⟨_, _, _, _, cok_4, by decide, lf_X10_84⟩
theorem pk_X10_84 : pOK RX10 84 4 2 .int := ⟨_, _, _, _, cok_4, by decide, lf_X10_84, rfl, by decide +kernel⟩
theorem lf_X10_87 : lkF RX10 87 TX4 3 := Or.inr ⟨"PlyHouse", nw_of 37 (by decide +kernel) rfl⟩
theorem fk_X10_87 : fOK RX10 87 4 3 := ⟨_, _, _, _, cok_4, by decide, lf_X10_87⟩
theorem pk_X10_87 : pOK RX10 87 4 3 .int := ⟨_, _, _, _, cok_4, by decide, lf_X10_87, rfl, by decide +kernel⟩
theorem lf_X10_106 : lkF RX10 106 TX7 1 := Or.inr ⟨"PlyHouse", nw_of 63 (by decide +kernel) rfl⟩
theorem fk_X10_106 : fOK RX10 106 7 1 := ⟨_, _, _, _, cok_7, by decide, lf_X10_106⟩
theorem pk_X10_106 : pOK RX10 106 7 1 .int := ⟨_, _, _, _, cok_7, by decide, lf_X10_106, rfl, by decide +kernel⟩
theorem lf_X10_117 : lkF RX10 117 TX1 2 := Or.inr ⟨"PlyHouse", nw_of 131 (by decide +kernel) rfl⟩
theorem fk_X10_117 : fOK RX10 117 1 2 := ⟨_, _, _, _, cok_1, by decide, lf_X10_117⟩
theorem pk_X10_117 : pOK RX10 117 1 2 .int := ⟨_, _, _, _, cok_1, by decide, lf_X10_117, rfl, by decide +kernel⟩
theorem lf_X10_124 : lkF RX10 124 TX1 1 := Or.inr ⟨"PlyHouse", nw_of 129 (by decide +kernel) rfl⟩
theorem fk_X10_124 : fOK RX10 124 1 1 := ⟨_, _, _, _, cok_1, by decide, lf_X10_124⟩
theorem lf_X10_134 : lkF RX10 134 TX2 5 := Or.inr ⟨"PlyHouse", nw_of 107 (by decide +kernel) rfl⟩
theorem fk_X10_134 : fOK RX10 134 2 5 := ⟨_, _, _, _, cok_2, by decide, lf_X10_134⟩
theorem pk_X10_134 : pOK RX10 134 2 5 .int := ⟨_, _, _, _, cok_2, by decide, lf_X10_134, rfl, by decide +kernel⟩
theorem lf_X10_145 : lkF RX10 145 TX3 5 := Or.inr ⟨"PlyHouse", nw_of 167 (by decide +kernel) rfl⟩
theorem fk_X10_145 : fOK RX10 145 3 5 := ⟨_, _, _, _, cok_3, by decide, lf_X10_145⟩
theorem pk_X10_145 : pOK RX10 145 3 5 .int := ⟨_, _, _, _, cok_3, by decide, lf_X10_145, rfl, by decide +kernel⟩
theorem lf_X10_165 : lkF RX10 165 TX0 10 := Or.inr ⟨"PlyHouse", nw_of 234 (by decide +kernel) rfl⟩
theorem fk_X10_165 : fOK RX10 165 0 10 := ⟨_, _, _, _, cok_0, by decide, lf_X10_165⟩
theorem pk_X10_165 : pOK RX10 165 0 10 .int := ⟨_, _, _, _, cok_0, by decide, lf_X10_165, rfl, by decide +kernel⟩
theorem lf_X10_210 : lkF RX10 210 TX6 13 := Or.inr ⟨"PlyHouse", nw_of 317 (by decide +kernel) rfl⟩
theorem fk_X10_210 : fOK RX10 210 6 13 := ⟨_, _, _, _, cok_6, by decide, lf_X10_210⟩
theorem pk_X10_210 : pOK RX10 210 6 13 .int := ⟨_, _, _, _, cok_6, by decide, lf_X10_210, rfl, by decide +kernel⟩
theorem lf_X10_221 : lkF RX10 221 TX6 14 := Or.inr ⟨"PlyHouse", nw_of 319 (by decide +kernel) rfl⟩
theorem fk_X10_221 : fOK RX10 221 6 14 := ⟨_, _, _, _, cok_6, by decide, lf_X10_221⟩
theorem pk_X10_221 : pOK RX10 221 6 14 .int := ⟨_, _, _, _, cok_6, by decide, lf_X10_221, rfl, by decide +kernel⟩
theorem lf_X10_225 : lkF RX10 225 TX6 8 := Or.inr ⟨"PlyHouse", nw_of 311 (by decide +kernel) rfl⟩
theorem fk_X10_225 : fOK RX10 225 6 8 := ⟨_, _, _, _, cok_6, by decide, lf_X10_225⟩
theorem pk_X10_225 : pOK RX10 225 6 8 .int := ⟨_, _, _, _, cok_6, by decide, lf_X10_225, rfl, by decide +kernel⟩
theorem lf_X0_9 : lkF RX0 9 TX0 0 := Or.inl (tg_of 223 (by decide +kernel) rfl)
theorem fk_X0_9 : fOK RX0 9 0 0 := ⟨_, _, _, _, cok_0, by decide, lf_X0_9⟩
theorem lf_X0_15 : lkF RX0 15 TX0 1 := Or.inl (tg_of 224 (by decide +kernel) rfl)
theorem fk_X0_15 : fOK RX0 15 0 1 := ⟨_, _, _, _, cok_0, by decide, lf_X0_15⟩
theorem lf_X0_24 : lkF RX0 24 TX0 2 := Or.inl (tg_of 225 (by decide +kernel) rfl)
theorem fk_X0_24 : fOK RX0 24 0 2 := ⟨_, _, _, _, cok_0, by decide, lf_X0_24⟩
theorem lf_X0_30 : lkF RX0 30 TX0 3 := Or.inl (tg_of 226 (by decide +kernel) rfl)
theorem fk_X0_30 : fOK RX0 30 0 3 := ⟨_, _, _, _, cok_0, by decide, lf_X0_30⟩
theorem lf_X0_34 : lkF RX0 34 TX0 4 := Or.inl (tg_of 227 (by decide +kernel) rfl)
theorem fk_X0_34 : fOK RX0 34 0 4 := ⟨_, _, _, _, cok_0, by decide, lf_X0_34⟩
theorem lf_X0_37 : lkF RX0 37 TX0 5 := Or.inl (tg_of 228 (by decide +kernel) rfl)
theorem fk_X0_37 : fOK RX0 37 0 5 := ⟨_, _, _, _, cok_0, by decide, lf_X0_37⟩
theorem lf_X0_40 : lkF RX0 40 TX0 6 := Or.inl (tg_of 229 (by decide +kernel) rfl)
theorem fk_X0_40 : fOK RX0 40 0 6 := ⟨_, _, _, _, cok_0, by decide, lf_X0_40⟩
theorem lf_X0_43 : lkF RX0 43 TX0 7 := Or.inl (tg_of 230 (by decide +kernel) rfl)
theorem fk_X0_43 : fOK RX0 43 0 7 := ⟨_, _, _, _, cok_0, by decide, lf_X0_43⟩
theorem lf_X0_46 : lkF RX0 46 TX0 8 := Or.inl (tg_of 231 (by decide +kernel) rfl)
theorem fk_X0_46 : fOK RX0 46 0 8 := ⟨_, _, _, _, cok_0, by decide, lf_X0_46⟩
theorem pk_X0_46 : pOK RX0 46 0 8 .int := ⟨_, _, _, _, cok_0, by decide, lf_X0_46, rfl, by decide +kernel⟩
theorem lf_X0_50 : lkF RX0 50 TX0 9 := Or.inl (tg_of 232 (by decide +kernel) rfl)
theorem fk_X0_50 : fOK RX0 50 0 9 := ⟨_, _, _, _, cok_0, by decide, lf_X0_50⟩
theorem pk_X0_50 : pOK RX0 50 0 9 .int := ⟨_, _, _, _, cok_0, by decide, lf_X0_50, rfl, by decide +kernel⟩
theorem lf_X0_53 : lkF RX0 53 TX0 10 := Or.inl (tg_of 233 (by decide +kernel) rfl)
theorem fk_X0_53 : fOK RX0 53 0 10 := ⟨_, _, _, _, cok_0, by decide, lf_X0_53⟩
theorem pk_X0_53 : pOK RX0 53 0 10 .int := ⟨_, _, _, _, cok_0, by decide, lf_X0_53, rfl, by decide +kernel⟩
theorem lf_X0_56 : lkF RX0 56 TX0 11 := Or.inl (tg_of 235 (by decide +kernel) rfl)
theorem fk_X0_56 : fOK RX0 56 0 11 := ⟨_, _, _, _, cok_0, by decide, lf_X0_56⟩
theorem pk_X0_56 : pOK RX0 56 0 11 .boolean := ⟨_, _, _, _, cok_0, by decide, lf_X0_56, rfl, by decide +kernel⟩
theorem lf_X0_77 : lkF RX0 77 TX5 8 := Or.inr ⟨"PlyHouse", nw_of 203 (by decide +kernel) rfl⟩
theorem fk_X0_77 : fOK RX0 77 5 8 := ⟨_, _, _, _, cok_5, by decide, lf_X0_77⟩
theorem pk_X0_77 : pOK RX0 77 5 8 .int := ⟨_, _, _, _, cok_5, by decide, lf_X0_77, rfl, by decide +kernel⟩
theorem lf_X0_80 : lkF RX0 80 TX5 5 := Or.inr ⟨"PlyHouse", nw_of 199 (by decide +kernel) rfl⟩
theorem fk_X0_80 : fOK RX0 80 5 5 := ⟨_, _, _, _, cok_5, by decide, lf_X0_80⟩
theorem pk_X0_80 : pOK RX0 80 5 5 .int := ⟨_, _, _, _, cok_5, by decide, lf_X0_80, rfl, by decide +kernel⟩
theorem lf_X0_87 : lkF RX0 87 TX3 5 := Or.inr ⟨"PlyHouse", nw_of 166 (by decide +kernel) rfl⟩
theorem fk_X0_87 : fOK RX0 87 3 5 := ⟨_, _, _, _, cok_3, by decide, lf_X0_87⟩
theorem pk_X0_87 : pOK RX0 87 3 5 .int := ⟨_, _, _, _, cok_3, by decide, lf_X0_87, rfl, by decide +kernel⟩
theorem lf_X0_96 : lkF RX0 96 TX2 5 := Or.inr ⟨"PlyHouse", nw_of 106 (by decide +kernel) rfl⟩
theorem fk_X0_96 : fOK RX0 96 2 5 := ⟨_, _, _, _, cok_2, by decide, lf_X0_96⟩
theorem pk_X0_96 : pOK RX0 96 2 5 .int := ⟨_, _, _, _, cok_2, by decide, lf_X0_96, rfl, by decide +kernel⟩
theorem lf_X1_12 : lkF RX1 12 TX1 0 := Or.inl (tg_of 127 (by decide +kernel) rfl)
theorem fk_X1_12 : fOK RX1 12 1 0 := ⟨_, _, _, _, cok_1, by decide, lf_X1_12⟩
theorem lf_X1_21 : lkF RX1 21 TX1 1 := Or.inl (tg_of 128 (by decide +kernel) rfl)
theorem fk_X1_21 : fOK RX1 21 1 1 := ⟨_, _, _, _, cok_1, by decide, lf_X1_21⟩
theorem lf_X1_25 : lkF RX1 25 TX1 2 := Or.inl (tg_of 130 (by decide +kernel) rfl)
theorem fk_X1_25 : fOK RX1 25 1 2 := ⟨_, _, _, _, cok_1, by decide, lf_X1_25⟩
theorem pk_X1_25 : pOK RX1 25 1 2 .int := ⟨_, _, _, _, cok_1, by decide, lf_X1_25, rfl, by decide +kernel⟩
theorem lf_X1_36 : lkF RX1 36 TX1 5 := Or.inl (tg_of 134 (by decide +kernel) rfl)
theorem fk_X1_36 : fOK RX1 36 1 5 := ⟨_, _, _, _, cok_1, by decide, lf_X1_36⟩
theorem pk_X1_36 : pOK RX1 36 1 5 .int := ⟨_, _, _, _, cok_1, by decide, lf_X1_36, rfl, by decide +kernel⟩
theorem lf_X1_39 : lkF RX1 39 TX1 3 := Or.inl (tg_of 132 (by decide +kernel) rfl)
theorem fk_X1_39 : fOK RX1 39 1 3 := ⟨_, _, _, _, cok_1, by decide, lf_X1_39⟩
theorem pk_X1_39 : pOK RX1 39 1 3 .int := ⟨_, _, _, _, cok_1, by decide, lf_X1_39, rfl, by decide +kernel⟩
theorem lf_X1_45 : lkF RX1 45 TX1 4 := Or.inl (tg_of 133 (by decide +kernel) rfl)
theorem fk_X1_45 : fOK RX1 45 1 4 := ⟨_, _, _, _, cok_1, by decide, lf_X1_45⟩
theorem pk_X1_45 : pOK RX1 45 1 4 .int := ⟨_, _, _, _, cok_1, by decide, lf_X1_45, rfl, by decide +kernel⟩
theorem lf_X1_87 : lkF RX1 87 TX8 2 := Or.inr ⟨"PlyHouse", nw_of 86 (by decide +kernel) rfl⟩
theorem fk_X1_87 : fOK RX1 87 8 2 := ⟨_, _, _, _, cok_8, by decide, lf_X1_87⟩
theorem pk_X1_87 : pOK RX1 87 8 2 .int := ⟨_, _, _, _, cok_8, by decide, lf_X1_87, rfl, by decide +kernel⟩
theorem lf_X1_90 : lkF RX1 90 TX8 0 := Or.inr ⟨"PlyHouse", nw_of 82 (by decide +kernel) rfl⟩
theorem fk_X1_90 : fOK RX1 90 8 0 := ⟨_, _, _, _, cok_8, by decide, lf_X1_90⟩
theorem lf_X1_94 : lkF RX1 94 TX8 1 := Or.inr ⟨"PlyHouse", nw_of 84 (by decide +kernel) rfl⟩
theorem fk_X1_94 : fOK RX1 94 8 1 := ⟨_, _, _, _, cok_8, by decide, lf_X1_94⟩
theorem lf_X2_13 : lkF RX2 13 TX2 0 := Or.inl (tg_of 100 (by decide +kernel) rfl)
theorem fk_X2_13 : fOK RX2 13 2 0 := ⟨_, _, _, _, cok_2, by decide, lf_X2_13⟩
theorem lf_X2_17 : lkF RX2 17 TX2 1 := Or.inl (tg_of 101 (by decide +kernel) rfl)
theorem fk_X2_17 : fOK RX2 17 2 1 := ⟨_, _, _, _, cok_2, by decide, lf_X2_17⟩
theorem lf_X2_20 : lkF RX2 20 TX2 2 := Or.inl (tg_of 102 (by decide +kernel) rfl)
theorem fk_X2_20 : fOK RX2 20 2 2 := ⟨_, _, _, _, cok_2, by decide, lf_X2_20⟩
theorem lf_X2_23 : lkF RX2 23 TX2 3 := Or.inl (tg_of 103 (by decide +kernel) rfl)
theorem fk_X2_23 : fOK RX2 23 2 3 := ⟨_, _, _, _, cok_2, by decide, lf_X2_23⟩
theorem lf_X2_26 : lkF RX2 26 TX2 4 := Or.inl (tg_of 104 (by decide +kernel) rfl)
theorem fk_X2_26 : fOK RX2 26 2 4 := ⟨_, _, _, _, cok_2, by decide, lf_X2_26⟩
theorem lf_X2_29 : lkF RX2 29 TX2 5 := Or.inl (tg_of 105 (by decide +kernel) rfl)
theorem fk_X2_29 : fOK RX2 29 2 5 := ⟨_, _, _, _, cok_2, by decide, lf_X2_29⟩
theorem pk_X2_29 : pOK RX2 29 2 5 .int := ⟨_, _, _, _, cok_2, by decide, lf_X2_29, rfl, by decide +kernel⟩
theorem lf_X2_33 : lkF RX2 33 TX2 6 := Or.inl (tg_of 108 (by decide +kernel) rfl)
theorem fk_X2_33 : fOK RX2 33 2 6 := ⟨_, _, _, _, cok_2, by decide, lf_X2_33⟩
theorem pk_X2_33 : pOK RX2 33 2 6 .int := ⟨_, _, _, _, cok_2, by decide, lf_X2_33, rfl, by decide +kernel⟩
theorem lf_X2_36 : lkF RX2 36 TX2 7 := Or.inl (tg_of 109 (by decide +kernel) rfl)
theorem fk_X2_36 : fOK RX2 36 2 7 := ⟨_, _, _, _, cok_2, by decide, lf_X2_36⟩
theorem pk_X2_36 : pOK RX2 36 2 7 .int := ⟨_, _, _, _, cok_2, by decide, lf_X2_36, rfl, by decide +kernel⟩
theorem lf_X3_11 : lkF RX3 11 TX3 0 := Or.inl (tg_of 156 (by decide +kernel) rfl)
theorem fk_X3_11 : fOK RX3 11 3 0 := ⟨_, _, _, _, cok_3, by decide, lf_X3_11⟩
theorem lf_X3_15 : lkF RX3 15 TX3 1 := Or.inl (tg_of 158 (by decide +kernel) rfl)
theorem fk_X3_15 : fOK RX3 15 3 1 := ⟨_, _, _, _, cok_3, by decide, lf_X3_15⟩
theorem lf_X3_18 : lkF RX3 18 TX3 2 := Or.inl (tg_of 160 (by decide +kernel) rfl)
theorem fk_X3_18 : fOK RX3 18 3 2 := ⟨_, _, _, _, cok_3, by decide, lf_X3_18⟩
theorem lf_X3_21 : lkF RX3 21 TX3 3 := Or.inl (tg_of 162 (by decide +kernel) rfl)
theorem fk_X3_21 : fOK RX3 21 3 3 := ⟨_, _, _, _, cok_3, by decide, lf_X3_21⟩
theorem lf_X3_24 : lkF RX3 24 TX3 4 := Or.inl (tg_of 164 (by decide +kernel) rfl)
theorem fk_X3_24 : fOK RX3 24 3 4 := ⟨_, _, _, _, cok_3, by decide, lf_X3_24⟩
theorem lf_X3_27 : lkF RX3 27 TX3 5 := Or.inl (tg_of 165 (by decide +kernel) rfl)
theorem fk_X3_27 : fOK RX3 27 3 5 := ⟨_, _, _, _, cok_3, by decide, lf_X3_27⟩
theorem pk_X3_27 : pOK RX3 27 3 5 .int := ⟨_, _, _, _, cok_3, by decide, lf_X3_27, rfl, by decide +kernel⟩
theorem lf_X3_31 : lkF RX3 31 TX7 1 := Or.inr ⟨"PlyHouse", nw_of 61 (by decide +kernel) rfl⟩
theorem fk_X3_31 : fOK RX3 31 7 1 := ⟨_, _, _, _, cok_7, by decide, lf_X3_31⟩
theorem pk_X3_31 : pOK RX3 31 7 1 .int := ⟨_, _, _, _, cok_7, by decide, lf_X3_31, rfl, by decide +kernel⟩
theorem lf_X4_11 : lkF RX4 11 TX4 0 := Or.inl (tg_of 33 (by decide +kernel) rfl)
theorem fk_X4_11 : fOK RX4 11 4 0 := ⟨_, _, _, _, cok_4, by decide, lf_X4_11⟩
theorem lf_X4_15 : lkF RX4 15 TX4 1 := Or.inl (tg_of 34 (by decide +kernel) rfl)
theorem fk_X4_15 : fOK RX4 15 4 1 := ⟨_, _, _, _, cok_4, by decide, lf_X4_15⟩
theorem pk_X4_15 : pOK RX4 15 4 1 .boolean := ⟨_, _, _, _, cok_4, by decide, lf_X4_15, rfl, by decide +kernel⟩
theorem lf_X4_19 : lkF RX4 19 TX4 4 := Or.inl (tg_of 39 (by decide +kernel) rfl)
theorem fk_X4_19 : fOK RX4 19 4 4 := ⟨_, _, _, _, cok_4, by decide, lf_X4_19⟩
theorem pk_X4_19 : pOK RX4 19 4 4 .int := ⟨_, _, _, _, cok_4, by decide, lf_X4_19, rfl, by decide +kernel⟩
theorem lf_X4_35 : lkF RX4 35 TX4 2 := Or.inl (tg_of 36 (by decide +kernel) rfl)
theorem fk_X4_35 : fOK RX4 35 4 2 := ⟨_, _, _, _, cok_4, by decide, lf_X4_35⟩
theorem pk_X4_35 : pOK RX4 35 4 2 .int := ⟨_, _, _, _, cok_4, by decide, lf_X4_35, rfl, by decide +kernel⟩
theorem lf_X4_38 : lkF RX4 38 TX4 3 := Or.inl (tg_of 38 (by decide +kernel) rfl)
theorem fk_X4_38 : fOK RX4 38 4 3 := ⟨_, _, _, _, cok_4, by decide, lf_X4_38⟩
theorem pk_X4_38 : pOK RX4 38 4 3 .int := ⟨_, _, _, _, cok_4, by decide, lf_X4_38, rfl, by decide +kernel⟩
theorem lf_X5_9 : lkF RX5 9 TX5 0 := Or.inl (tg_of 193 (by decide +kernel) rfl)
theorem fk_X5_9 : fOK RX5 9 5 0 := ⟨_, _, _, _, cok_5, by decide, lf_X5_9⟩
theorem lf_X5_17 : lkF RX5 17 TX5 1 := Or.inl (tg_of 194 (by decide +kernel) rfl)
theorem fk_X5_17 : fOK RX5 17 5 1 := ⟨_, _, _, _, cok_5, by decide, lf_X5_17⟩
theorem lf_X5_21 : lkF RX5 21 TX5 2 := Or.inl (tg_of 195 (by decide +kernel) rfl)
theorem fk_X5_21 : fOK RX5 21 5 2 := ⟨_, _, _, _, cok_5, by decide, lf_X5_21⟩
theorem pk_X5_21 : pOK RX5 21 5 2 .int := ⟨_, _, _, _, cok_5, by decide, lf_X5_21, rfl, by decide +kernel⟩
theorem lf_X5_31 : lkF RX5 31 TX3 0 := Or.inr ⟨"PlyHouse", nw_of 157 (by decide +kernel) rfl⟩
theorem fk_X5_31 : fOK RX5 31 3 0 := ⟨_, _, _, _, cok_3, by decide, lf_X5_31⟩
theorem lf_X5_38 : lkF RX5 38 TX5 3 := Or.inl (tg_of 196 (by decide +kernel) rfl)
theorem fk_X5_38 : fOK RX5 38 5 3 := ⟨_, _, _, _, cok_5, by decide, lf_X5_38⟩
theorem pk_X5_38 : pOK RX5 38 5 3 .int := ⟨_, _, _, _, cok_5, by decide, lf_X5_38, rfl, by decide +kernel⟩
theorem lf_X5_41 : lkF RX5 41 TX3 1 := Or.inr ⟨"PlyHouse", nw_of 159 (by decide +kernel) rfl⟩
theorem fk_X5_41 : fOK RX5 41 3 1 := ⟨_, _, _, _, cok_3, by decide, lf_X5_41⟩
theorem lf_X5_44 : lkF RX5 44 TX5 4 := Or.inl (tg_of 197 (by decide +kernel) rfl)
theorem fk_X5_44 : fOK RX5 44 5 4 := ⟨_, _, _, _, cok_5, by decide, lf_X5_44⟩
theorem pk_X5_44 : pOK RX5 44 5 4 .int := ⟨_, _, _, _, cok_5, by decide, lf_X5_44, rfl, by decide +kernel⟩
theorem lf_X5_47 : lkF RX5 47 TX3 2 := Or.inr ⟨"PlyHouse", nw_of 161 (by decide +kernel) rfl⟩
theorem fk_X5_47 : fOK RX5 47 3 2 := ⟨_, _, _, _, cok_3, by decide, lf_X5_47⟩
theorem lf_X5_50 : lkF RX5 50 TX5 5 := Or.inl (tg_of 198 (by decide +kernel) rfl)
theorem fk_X5_50 : fOK RX5 50 5 5 := ⟨_, _, _, _, cok_5, by decide, lf_X5_50⟩
theorem pk_X5_50 : pOK RX5 50 5 5 .int := ⟨_, _, _, _, cok_5, by decide, lf_X5_50, rfl, by decide +kernel⟩
theorem lf_X5_53 : lkF RX5 53 TX3 3 := Or.inr ⟨"PlyHouse", nw_of 163 (by decide +kernel) rfl⟩
theorem fk_X5_53 : fOK RX5 53 3 3 := ⟨_, _, _, _, cok_3, by decide, lf_X5_53⟩
theorem lf_X5_56 : lkF RX5 56 TX5 6 := Or.inl (tg_of 200 (by decide +kernel) rfl)
theorem fk_X5_56 : fOK RX5 56 5 6 := ⟨_, _, _, _, cok_5, by decide, lf_X5_56⟩
theorem pk_X5_56 : pOK RX5 56 5 6 .int := ⟨_, _, _, _, cok_5, by decide, lf_X5_56, rfl, by decide +kernel⟩
theorem lf_X5_59 : lkF RX5 59 TX5 7 := Or.inl (tg_of 201 (by decide +kernel) rfl)
theorem fk_X5_59 : fOK RX5 59 5 7 := ⟨_, _, _, _, cok_5, by decide, lf_X5_59⟩
theorem pk_X5_59 : pOK RX5 59 5 7 .int := ⟨_, _, _, _, cok_5, by decide, lf_X5_59, rfl, by decide +kernel⟩
theorem lf_X5_62 : lkF RX5 62 TX5 8 := Or.inl (tg_of 202 (by decide +kernel) rfl)
theorem fk_X5_62 : fOK RX5 62 5 8 := ⟨_, _, _, _, cok_5, by decide, lf_X5_62⟩
theorem pk_X5_62 : pOK RX5 62 5 8 .int := ⟨_, _, _, _, cok_5, by decide, lf_X5_62, rfl, by decide +kernel⟩
theorem lf_X6_11 : lkF RX6 11 TX6 0 := Or.inl (tg_of 302 (by decide +kernel) rfl)
theorem fk_X6_11 : fOK RX6 11 6 0 := ⟨_, _, _, _, cok_6, by decide, lf_X6_11⟩
theorem lf_X6_15 : lkF RX6 15 TX6 1 := Or.inl (tg_of 303 (by decide +kernel) rfl)
theorem fk_X6_15 : fOK RX6 15 6 1 := ⟨_, _, _, _, cok_6, by decide, lf_X6_15⟩
theorem lf_X6_18 : lkF RX6 18 TX6 2 := Or.inl (tg_of 304 (by decide +kernel) rfl)
theorem fk_X6_18 : fOK RX6 18 6 2 := ⟨_, _, _, _, cok_6, by decide, lf_X6_18⟩
theorem lf_X6_21 : lkF RX6 21 TX6 3 := Or.inl (tg_of 305 (by decide +kernel) rfl)
theorem fk_X6_21 : fOK RX6 21 6 3 := ⟨_, _, _, _, cok_6, by decide, lf_X6_21⟩
theorem lf_X6_24 : lkF RX6 24 TX6 4 := Or.inl (tg_of 306 (by decide +kernel) rfl)
theorem fk_X6_24 : fOK RX6 24 6 4 := ⟨_, _, _, _, cok_6, by decide, lf_X6_24⟩
theorem lf_X6_27 : lkF RX6 27 TX6 5 := Or.inl (tg_of 307 (by decide +kernel) rfl)
theorem fk_X6_27 : fOK RX6 27 6 5 := ⟨_, _, _, _, cok_6, by decide, lf_X6_27⟩
theorem lf_X6_30 : lkF RX6 30 TX6 6 := Or.inl (tg_of 308 (by decide +kernel) rfl)
theorem fk_X6_30 : fOK RX6 30 6 6 := ⟨_, _, _, _, cok_6, by decide, lf_X6_30⟩
theorem lf_X6_33 : lkF RX6 33 TX6 7 := Or.inl (tg_of 309 (by decide +kernel) rfl)
theorem fk_X6_33 : fOK RX6 33 6 7 := ⟨_, _, _, _, cok_6, by decide, lf_X6_33⟩
theorem lf_X6_36 : lkF RX6 36 TX6 8 := Or.inl (tg_of 310 (by decide +kernel) rfl)
theorem fk_X6_36 : fOK RX6 36 6 8 := ⟨_, _, _, _, cok_6, by decide, lf_X6_36⟩
theorem pk_X6_36 : pOK RX6 36 6 8 .int := ⟨_, _, _, _, cok_6, by decide, lf_X6_36, rfl, by decide +kernel⟩
theorem lf_X6_40 : lkF RX6 40 TX6 9 := Or.inl (tg_of 312 (by decide +kernel) rfl)
theorem fk_X6_40 : fOK RX6 40 6 9 := ⟨_, _, _, _, cok_6, by decide, lf_X6_40⟩
theorem pk_X6_40 : pOK RX6 40 6 9 .int := ⟨_, _, _, _, cok_6, by decide, lf_X6_40, rfl, by decide +kernel⟩
theorem lf_X6_43 : lkF RX6 43 TX6 10 := Or.inl (tg_of 313 (by decide +kernel) rfl)
theorem fk_X6_43 : fOK RX6 43 6 10 := ⟨_, _, _, _, cok_6, by decide, lf_X6_43⟩
theorem pk_X6_43 : pOK RX6 43 6 10 .int := ⟨_, _, _, _, cok_6, by decide, lf_X6_43, rfl, by decide +kernel⟩
theorem lf_X6_46 : lkF RX6 46 TX6 11 := Or.inl (tg_of 314 (by decide +kernel) rfl)
theorem fk_X6_46 : fOK RX6 46 6 11 := ⟨_, _, _, _, cok_6, by decide, lf_X6_46⟩
theorem pk_X6_46 : pOK RX6 46 6 11 .int := ⟨_, _, _, _, cok_6, by decide, lf_X6_46, rfl, by decide +kernel⟩
theorem lf_X6_49 : lkF RX6 49 TX6 12 := Or.inl (tg_of 315 (by decide +kernel) rfl)
theorem fk_X6_49 : fOK RX6 49 6 12 := ⟨_, _, _, _, cok_6, by decide, lf_X6_49⟩
theorem pk_X6_49 : pOK RX6 49 6 12 .int := ⟨_, _, _, _, cok_6, by decide, lf_X6_49, rfl, by decide +kernel⟩
theorem lf_X6_52 : lkF RX6 52 TX6 13 := Or.inl (tg_of 316 (by decide +kernel) rfl)
theorem fk_X6_52 : fOK RX6 52 6 13 := ⟨_, _, _, _, cok_6, by decide, lf_X6_52⟩
theorem pk_X6_52 : pOK RX6 52 6 13 .int := ⟨_, _, _, _, cok_6, by decide, lf_X6_52, rfl, by decide +kernel⟩
theorem lf_X6_55 : lkF RX6 55 TX6 14 := Or.inl (tg_of 318 (by decide +kernel) rfl)
theorem fk_X6_55 : fOK RX6 55 6 14 := ⟨_, _, _, _, cok_6, by decide, lf_X6_55⟩
theorem pk_X6_55 : pOK RX6 55 6 14 .int := ⟨_, _, _, _, cok_6, by decide, lf_X6_55, rfl, by decide +kernel⟩
theorem lf_X6_58 : lkF RX6 58 TX6 15 := Or.inl (tg_of 320 (by decide +kernel) rfl)
theorem fk_X6_58 : fOK RX6 58 6 15 := ⟨_, _, _, _, cok_6, by decide, lf_X6_58⟩
theorem pk_X6_58 : pOK RX6 58 6 15 .boolean := ⟨_, _, _, _, cok_6, by decide, lf_X6_58, rfl, by decide +kernel⟩
theorem lf_X7_11 : lkF RX7 11 TX7 0 := Or.inl (tg_of 59 (by decide +kernel) rfl)
theorem fk_X7_11 : fOK RX7 11 7 0 := ⟨_, _, _, _, cok_7, by decide, lf_X7_11⟩
theorem lf_X7_15 : lkF RX7 15 TX7 1 := Or.inl (tg_of 60 (by decide +kernel) rfl)
theorem fk_X7_15 : fOK RX7 15 7 1 := ⟨_, _, _, _, cok_7, by decide, lf_X7_15⟩
theorem pk_X7_15 : pOK RX7 15 7 1 .int := ⟨_, _, _, _, cok_7, by decide, lf_X7_15, rfl, by decide +kernel⟩
theorem lf_X8_11 : lkF RX8 11 TX8 0 := Or.inl (tg_of 81 (by decide +kernel) rfl)
theorem fk_X8_11 : fOK RX8 11 8 0 := ⟨_, _, _, _, cok_8, by decide, lf_X8_11⟩
theorem lf_X8_17 : lkF RX8 17 TX8 1 := Or.inl (tg_of 83 (by decide +kernel) rfl)
theorem fk_X8_17 : fOK RX8 17 8 1 := ⟨_, _, _, _, cok_8, by decide, lf_X8_17⟩
theorem lf_X8_20 : lkF RX8 20 TX8 2 := Or.inl (tg_of 85 (by decide +kernel) rfl)
theorem fk_X8_20 : fOK RX8 20 8 2 := ⟨_, _, _, _, cok_8, by decide, lf_X8_20⟩
theorem pk_X8_20 : pOK RX8 20 8 2 .int := ⟨_, _, _, _, cok_8, by decide, lf_X8_20, rfl, by decide +kernel⟩
theorem lf_X8_24 : lkF RX8 24 TX7 1 := Or.inr ⟨"PlyHouse", nw_of 62 (by decide +kernel) rfl⟩
theorem fk_X8_24 : fOK RX8 24 7 1 := ⟨_, _, _, _, cok_7, by decide, lf_X8_24⟩
theorem pk_X8_24 : pOK RX8 24 7 1 .int := ⟨_, _, _, _, cok_7, by decide, lf_X8_24, rfl, by decide +kernel⟩
theorem lf_X9_11 : lkF RX9 11 TX9 0 := Or.inl (tg_of 267 (by decide +kernel) rfl)
theorem fk_X9_11 : fOK RX9 11 9 0 := ⟨_, _, _, _, cok_9, by decide, lf_X9_11⟩
theorem lf_X9_15 : lkF RX9 15 TX9 1 := Or.inl (tg_of 268 (by decide +kernel) rfl)
theorem fk_X9_15 : fOK RX9 15 9 1 := ⟨_, _, _, _, cok_9, by decide, lf_X9_15⟩
theorem lf_X9_18 : lkF RX9 18 TX9 2 := Or.inl (tg_of 269 (by decide +kernel) rfl)
theorem fk_X9_18 : fOK RX9 18 9 2 := ⟨_, _, _, _, cok_9, by decide, lf_X9_18⟩
theorem lf_X9_21 : lkF RX9 21 TX9 3 := Or.inl (tg_of 270 (by decide +kernel) rfl)
theorem fk_X9_21 : fOK RX9 21 9 3 := ⟨_, _, _, _, cok_9, by decide, lf_X9_21⟩
theorem lf_X9_41 : lkF RX9 41 TX9 4 := Or.inl (tg_of 271 (by decide +kernel) rfl)
theorem fk_X9_41 : fOK RX9 41 9 4 := ⟨_, _, _, _, cok_9, by decide, lf_X9_41⟩
theorem pk_X9_41 : pOK RX9 41 9 4 .int := ⟨_, _, _, _, cok_9, by decide, lf_X9_41, rfl, by decide +kernel⟩
theorem lf_X9_45 : lkF RX9 45 TX9 5 := Or.inl (tg_of 272 (by decide +kernel) rfl)
theorem fk_X9_45 : fOK RX9 45 9 5 := ⟨_, _, _, _, cok_9, by decide, lf_X9_45⟩
theorem pk_X9_45 : pOK RX9 45 9 5 .int := ⟨_, _, _, _, cok_9, by decide, lf_X9_45, rfl, by decide +kernel⟩
theorem lf_X9_48 : lkF RX9 48 TX9 6 := Or.inl (tg_of 273 (by decide +kernel) rfl)
theorem fk_X9_48 : fOK RX9 48 9 6 := ⟨_, _, _, _, cok_9, by decide, lf_X9_48⟩
theorem pk_X9_48 : pOK RX9 48 9 6 .int := ⟨_, _, _, _, cok_9, by decide, lf_X9_48, rfl, by decide +kernel⟩
theorem lf_X9_54 : lkF RX9 54 TX9 7 := Or.inl (tg_of 274 (by decide +kernel) rfl)
theorem fk_X9_54 : fOK RX9 54 9 7 := ⟨_, _, _, _, cok_9, by decide, lf_X9_54⟩
theorem pk_X9_54 : pOK RX9 54 9 7 .int := ⟨_, _, _, _, cok_9, by decide, lf_X9_54, rfl, by decide +kernel⟩
theorem lf_X9_57 : lkF RX9 57 TX9 8 := Or.inl (tg_of 275 (by decide +kernel) rfl)
theorem fk_X9_57 : fOK RX9 57 9 8 := ⟨_, _, _, _, cok_9, by decide, lf_X9_57⟩
theorem pk_X9_57 : pOK RX9 57 9 8 .int := ⟨_, _, _, _, cok_9, by decide, lf_X9_57, rfl, by decide +kernel⟩
theorem lf_X11_7 : lkF RX11 7 TX11 0 := Or.inl (tg_of 906 (by decide +kernel) rfl)
theorem fk_X11_7 : fOK RX11 7 11 0 := ⟨_, _, _, _, cok_11, by decide, lf_X11_7⟩
theorem lf_X11_13 : lkF RX11 13 TX11 4 := Or.inl (tg_of 910 (by decide +kernel) rfl)
theorem fk_X11_13 : fOK RX11 13 11 4 := ⟨_, _, _, _, cok_11, by decide, lf_X11_13⟩
theorem lf_X11_16 : lkF RX11 16 TX11 7 := Or.inl (tg_of 913 (by decide +kernel) rfl)
theorem fk_X11_16 : fOK RX11 16 11 7 := ⟨_, _, _, _, cok_11, by decide, lf_X11_16⟩
theorem pk_X11_16 : pOK RX11 16 11 7 .int := ⟨_, _, _, _, cok_11, by decide, lf_X11_16, rfl, by decide +kernel⟩
theorem lf_X11_20 : lkF RX11 20 TX11 15 := Or.inl (tg_of 921 (by decide +kernel) rfl)
theorem fk_X11_20 : fOK RX11 20 11 15 := ⟨_, _, _, _, cok_11, by decide, lf_X11_20⟩
theorem lf_X11_23 : lkF RX11 23 TX11 16 := Or.inl (tg_of 922 (by decide +kernel) rfl)
theorem fk_X11_23 : fOK RX11 23 11 16 := ⟨_, _, _, _, cok_11, by decide, lf_X11_23⟩
theorem lf_X11_26 : lkF RX11 26 TX11 17 := Or.inl (tg_of 923 (by decide +kernel) rfl)
theorem fk_X11_26 : fOK RX11 26 11 17 := ⟨_, _, _, _, cok_11, by decide, lf_X11_26⟩
theorem lf_X11_29 : lkF RX11 29 TX11 18 := Or.inl (tg_of 924 (by decide +kernel) rfl)
theorem fk_X11_29 : fOK RX11 29 11 18 := ⟨_, _, _, _, cok_11, by decide, lf_X11_29⟩
theorem lf_X11_32 : lkF RX11 32 TX11 19 := Or.inl (tg_of 925 (by decide +kernel) rfl)
theorem fk_X11_32 : fOK RX11 32 11 19 := ⟨_, _, _, _, cok_11, by decide, lf_X11_32⟩
theorem lf_X11_35 : lkF RX11 35 TX11 23 := Or.inl (tg_of 929 (by decide +kernel) rfl)
theorem fk_X11_35 : fOK RX11 35 11 23 := ⟨_, _, _, _, cok_11, by decide, lf_X11_35⟩
theorem lf_X11_38 : lkF RX11 38 TX11 24 := Or.inl (tg_of 930 (by decide +kernel) rfl)
theorem fk_X11_38 : fOK RX11 38 11 24 := ⟨_, _, _, _, cok_11, by decide, lf_X11_38⟩
theorem lf_X11_41 : lkF RX11 41 TX11 25 := Or.inl (tg_of 931 (by decide +kernel) rfl)
theorem fk_X11_41 : fOK RX11 41 11 25 := ⟨_, _, _, _, cok_11, by decide, lf_X11_41⟩
theorem lf_X11_44 : lkF RX11 44 TX11 26 := Or.inl (tg_of 932 (by decide +kernel) rfl)
theorem fk_X11_44 : fOK RX11 44 11 26 := ⟨_, _, _, _, cok_11, by decide, lf_X11_44⟩
theorem lf_X11_47 : lkF RX11 47 TX11 27 := Or.inl (tg_of 933 (by decide +kernel) rfl)
theorem fk_X11_47 : fOK RX11 47 11 27 := ⟨_, _, _, _, cok_11, by decide, lf_X11_47⟩
theorem lf_X11_50 : lkF RX11 50 TX11 28 := Or.inl (tg_of 934 (by decide +kernel) rfl)
theorem fk_X11_50 : fOK RX11 50 11 28 := ⟨_, _, _, _, cok_11, by decide, lf_X11_50⟩
theorem lf_X11_53 : lkF RX11 53 TX11 31 := Or.inl (tg_of 937 (by decide +kernel) rfl)
theorem fk_X11_53 : fOK RX11 53 11 31 := ⟨_, _, _, _, cok_11, by decide, lf_X11_53⟩
theorem lf_X11_56 : lkF RX11 56 TX11 34 := Or.inl (tg_of 940 (by decide +kernel) rfl)
theorem fk_X11_56 : fOK RX11 56 11 34 := ⟨_, _, _, _, cok_11, by decide, lf_X11_56⟩
theorem pk_X11_56 : pOK RX11 56 11 34 .int := ⟨_, _, _, _, cok_11, by decide, lf_X11_56, rfl, by decide +kernel⟩
theorem lf_X11_59 : lkF RX11 59 TX11 35 := Or.inl (tg_of 941 (by decide +kernel) rfl)
theorem fk_X11_59 : fOK RX11 59 11 35 := ⟨_, _, _, _, cok_11, by decide, lf_X11_59⟩
theorem lf_X11_62 : lkF RX11 62 TX11 36 := Or.inl (tg_of 942 (by decide +kernel) rfl)
theorem fk_X11_62 : fOK RX11 62 11 36 := ⟨_, _, _, _, cok_11, by decide, lf_X11_62⟩
theorem lf_X11_65 : lkF RX11 65 TX11 37 := Or.inl (tg_of 943 (by decide +kernel) rfl)
theorem fk_X11_65 : fOK RX11 65 11 37 := ⟨_, _, _, _, cok_11, by decide, lf_X11_65⟩
theorem lf_X11_68 : lkF RX11 68 TX11 38 := Or.inl (tg_of 944 (by decide +kernel) rfl)
theorem fk_X11_68 : fOK RX11 68 11 38 := ⟨_, _, _, _, cok_11, by decide, lf_X11_68⟩
theorem lf_X11_71 : lkF RX11 71 TX11 39 := Or.inl (tg_of 945 (by decide +kernel) rfl)
theorem fk_X11_71 : fOK RX11 71 11 39 := ⟨_, _, _, _, cok_11, by decide, lf_X11_71⟩
theorem lf_X11_74 : lkF RX11 74 TX11 40 := Or.inl (tg_of 946 (by decide +kernel) rfl)
theorem fk_X11_74 : fOK RX11 74 11 40 := ⟨_, _, _, _, cok_11, by decide, lf_X11_74⟩
theorem lf_X11_77 : lkF RX11 77 TX11 41 := Or.inl (tg_of 947 (by decide +kernel) rfl)
theorem fk_X11_77 : fOK RX11 77 11 41 := ⟨_, _, _, _, cok_11, by decide, lf_X11_77⟩
theorem lf_X11_80 : lkF RX11 80 TX11 42 := Or.inl (tg_of 948 (by decide +kernel) rfl)
theorem fk_X11_80 : fOK RX11 80 11 42 := ⟨_, _, _, _, cok_11, by decide, lf_X11_80⟩
theorem lf_X11_84 : lkF RX11 84 TX11 44 := Or.inl (tg_of 950 (by decide +kernel) rfl)
theorem fk_X11_84 : fOK RX11 84 11 44 := ⟨_, _, _, _, cok_11, by decide, lf_X11_84⟩
theorem lf_X11_87 : lkF RX11 87 TX11 45 := Or.inl (tg_of 951 (by decide +kernel) rfl)
theorem fk_X11_87 : fOK RX11 87 11 45 := ⟨_, _, _, _, cok_11, by decide, lf_X11_87⟩
theorem lf_X11_90 : lkF RX11 90 TX11 46 := Or.inl (tg_of 952 (by decide +kernel) rfl)
theorem fk_X11_90 : fOK RX11 90 11 46 := ⟨_, _, _, _, cok_11, by decide, lf_X11_90⟩
theorem lf_X11_93 : lkF RX11 93 TX11 47 := Or.inl (tg_of 953 (by decide +kernel) rfl)
theorem fk_X11_93 : fOK RX11 93 11 47 := ⟨_, _, _, _, cok_11, by decide, lf_X11_93⟩
theorem lf_X11_96 : lkF RX11 96 TX11 48 := Or.inl (tg_of 954 (by decide +kernel) rfl)
theorem fk_X11_96 : fOK RX11 96 11 48 := ⟨_, _, _, _, cok_11, by decide, lf_X11_96⟩
theorem lf_X11_99 : lkF RX11 99 TX11 49 := Or.inl (tg_of 955 (by decide +kernel) rfl)
theorem fk_X11_99 : fOK RX11 99 11 49 := ⟨_, _, _, _, cok_11, by decide, lf_X11_99⟩
theorem pk_X11_99 : pOK RX11 99 11 49 .int := ⟨_, _, _, _, cok_11, by decide, lf_X11_99, rfl, by decide +kernel⟩
theorem lf_X11_102 : lkF RX11 102 TX11 50 := Or.inl (tg_of 956 (by decide +kernel) rfl)
theorem fk_X11_102 : fOK RX11 102 11 50 := ⟨_, _, _, _, cok_11, by decide, lf_X11_102⟩
theorem pk_X11_102 : pOK RX11 102 11 50 .int := ⟨_, _, _, _, cok_11, by decide, lf_X11_102, rfl, by decide +kernel⟩
theorem lf_X11_105 : lkF RX11 105 TX11 51 := Or.inl (tg_of 957 (by decide +kernel) rfl)
theorem fk_X11_105 : fOK RX11 105 11 51 := ⟨_, _, _, _, cok_11, by decide, lf_X11_105⟩
theorem pk_X11_105 : pOK RX11 105 11 51 .int := ⟨_, _, _, _, cok_11, by decide, lf_X11_105, rfl, by decide +kernel⟩
theorem lf_X11_108 : lkF RX11 108 TX11 52 := Or.inl (tg_of 958 (by decide +kernel) rfl)
theorem fk_X11_108 : fOK RX11 108 11 52 := ⟨_, _, _, _, cok_11, by decide, lf_X11_108⟩
theorem pk_X11_108 : pOK RX11 108 11 52 .int := ⟨_, _, _, _, cok_11, by decide, lf_X11_108, rfl, by decide +kernel⟩
theorem lf_X11_111 : lkF RX11 111 TX11 54 := Or.inl (tg_of 960 (by decide +kernel) rfl)
theorem fk_X11_111 : fOK RX11 111 11 54 := ⟨_, _, _, _, cok_11, by decide, lf_X11_111⟩
theorem lf_X11_114 : lkF RX11 114 TX11 55 := Or.inl (tg_of 961 (by decide +kernel) rfl)
theorem fk_X11_114 : fOK RX11 114 11 55 := ⟨_, _, _, _, cok_11, by decide, lf_X11_114⟩
theorem lf_X11_117 : lkF RX11 117 TX11 56 := Or.inl (tg_of 962 (by decide +kernel) rfl)
theorem fk_X11_117 : fOK RX11 117 11 56 := ⟨_, _, _, _, cok_11, by decide, lf_X11_117⟩
theorem lf_X11_120 : lkF RX11 120 TX11 57 := Or.inl (tg_of 963 (by decide +kernel) rfl)
theorem fk_X11_120 : fOK RX11 120 11 57 := ⟨_, _, _, _, cok_11, by decide, lf_X11_120⟩
theorem lf_X11_123 : lkF RX11 123 TX11 58 := Or.inl (tg_of 964 (by decide +kernel) rfl)
theorem fk_X11_123 : fOK RX11 123 11 58 := ⟨_, _, _, _, cok_11, by decide, lf_X11_123⟩
theorem lf_X11_131 : lkF RX11 131 TX11 3 := Or.inl (tg_of 909 (by decide +kernel) rfl)
theorem fk_X11_131 : fOK RX11 131 11 3 := ⟨_, _, _, _, cok_11, by decide, lf_X11_131⟩
theorem pk_X11_131 : pOK RX11 131 11 3 .int := ⟨_, _, _, _, cok_11, by decide, lf_X11_131, rfl, by decide +kernel⟩
theorem lf_X11_138 : lkF RX11 138 TX11 1 := Or.inl (tg_of 907 (by decide +kernel) rfl)
theorem fk_X11_138 : fOK RX11 138 11 1 := ⟨_, _, _, _, cok_11, by decide, lf_X11_138⟩
theorem pk_X11_138 : pOK RX11 138 11 1 .int := ⟨_, _, _, _, cok_11, by decide, lf_X11_138, rfl, by decide +kernel⟩
theorem lf_X11_141 : lkF RX11 141 TX11 2 := Or.inl (tg_of 908 (by decide +kernel) rfl)
theorem fk_X11_141 : fOK RX11 141 11 2 := ⟨_, _, _, _, cok_11, by decide, lf_X11_141⟩
theorem pk_X11_141 : pOK RX11 141 11 2 .int := ⟨_, _, _, _, cok_11, by decide, lf_X11_141, rfl, by decide +kernel⟩
theorem lf_X11_147 : lkF RX11 147 TX11 5 := Or.inl (tg_of 911 (by decide +kernel) rfl)
theorem fk_X11_147 : fOK RX11 147 11 5 := ⟨_, _, _, _, cok_11, by decide, lf_X11_147⟩
theorem pk_X11_147 : pOK RX11 147 11 5 .int := ⟨_, _, _, _, cok_11, by decide, lf_X11_147, rfl, by decide +kernel⟩
theorem lf_X11_154 : lkF RX11 154 TX11 8 := Or.inl (tg_of 914 (by decide +kernel) rfl)
theorem fk_X11_154 : fOK RX11 154 11 8 := ⟨_, _, _, _, cok_11, by decide, lf_X11_154⟩
theorem pk_X11_154 : pOK RX11 154 11 8 .int := ⟨_, _, _, _, cok_11, by decide, lf_X11_154, rfl, by decide +kernel⟩
theorem lf_X11_157 : lkF RX11 157 TX11 9 := Or.inl (tg_of 915 (by decide +kernel) rfl)
theorem fk_X11_157 : fOK RX11 157 11 9 := ⟨_, _, _, _, cok_11, by decide, lf_X11_157⟩
theorem pk_X11_157 : pOK RX11 157 11 9 .int := ⟨_, _, _, _, cok_11, by decide, lf_X11_157, rfl, by decide +kernel⟩
theorem lf_X11_164 : lkF RX11 164 TX11 11 := Or.inl (tg_of 917 (by decide +kernel) rfl)
theorem fk_X11_164 : fOK RX11 164 11 11 := ⟨_, _, _, _, cok_11, by decide, lf_X11_164⟩
theorem pk_X11_164 : pOK RX11 164 11 11 .int := ⟨_, _, _, _, cok_11, by decide, lf_X11_164, rfl, by decide +kernel⟩
theorem lf_X11_167 : lkF RX11 167 TX11 13 := Or.inl (tg_of 919 (by decide +kernel) rfl)
theorem fk_X11_167 : fOK RX11 167 11 13 := ⟨_, _, _, _, cok_11, by decide, lf_X11_167⟩
theorem pk_X11_167 : pOK RX11 167 11 13 .long := ⟨_, _, _, _, cok_11, by decide, lf_X11_167, rfl, by decide +kernel⟩
theorem lf_X11_171 : lkF RX11 171 TX11 12 := Or.inl (tg_of 918 (by decide +kernel) rfl)
theorem fk_X11_171 : fOK RX11 171 11 12 := ⟨_, _, _, _, cok_11, by decide, lf_X11_171⟩
theorem pk_X11_171 : pOK RX11 171 11 12 .int := ⟨_, _, _, _, cok_11, by decide, lf_X11_171, rfl, by decide +kernel⟩
theorem lf_X11_174 : lkF RX11 174 TX11 10 := Or.inl (tg_of 916 (by decide +kernel) rfl)
theorem fk_X11_174 : fOK RX11 174 11 10 := ⟨_, _, _, _, cok_11, by decide, lf_X11_174⟩
theorem pk_X11_174 : pOK RX11 174 11 10 .int := ⟨_, _, _, _, cok_11, by decide, lf_X11_174, rfl, by decide +kernel⟩
theorem lf_X11_187 : lkF RX11 187 TX11 6 := Or.inl (tg_of 912 (by decide +kernel) rfl)
theorem fk_X11_187 : fOK RX11 187 11 6 := ⟨_, _, _, _, cok_11, by decide, lf_X11_187⟩
theorem pk_X11_187 : pOK RX11 187 11 6 .int := ⟨_, _, _, _, cok_11, by decide, lf_X11_187, rfl, by decide +kernel⟩
theorem lf_X11_200 : lkF RX11 200 TX11 21 := Or.inl (tg_of 927 (by decide +kernel) rfl)
theorem fk_X11_200 : fOK RX11 200 11 21 := ⟨_, _, _, _, cok_11, by decide, lf_X11_200⟩
theorem pk_X11_200 : pOK RX11 200 11 21 .int := ⟨_, _, _, _, cok_11, by decide, lf_X11_200, rfl, by decide +kernel⟩
theorem lf_X11_209 : lkF RX11 209 TX11 29 := Or.inl (tg_of 935 (by decide +kernel) rfl)
theorem fk_X11_209 : fOK RX11 209 11 29 := ⟨_, _, _, _, cok_11, by decide, lf_X11_209⟩
theorem pk_X11_209 : pOK RX11 209 11 29 .int := ⟨_, _, _, _, cok_11, by decide, lf_X11_209, rfl, by decide +kernel⟩
theorem lf_X11_212 : lkF RX11 212 TX11 30 := Or.inl (tg_of 936 (by decide +kernel) rfl)
theorem fk_X11_212 : fOK RX11 212 11 30 := ⟨_, _, _, _, cok_11, by decide, lf_X11_212⟩
theorem pk_X11_212 : pOK RX11 212 11 30 .int := ⟨_, _, _, _, cok_11, by decide, lf_X11_212, rfl, by decide +kernel⟩
theorem lf_X11_245 : lkF RX11 245 TX11 22 := Or.inl (tg_of 928 (by decide +kernel) rfl)
theorem fk_X11_245 : fOK RX11 245 11 22 := ⟨_, _, _, _, cok_11, by decide, lf_X11_245⟩
theorem pk_X11_245 : pOK RX11 245 11 22 .int := ⟨_, _, _, _, cok_11, by decide, lf_X11_245, rfl, by decide +kernel⟩
theorem lf_X11_262 : lkF RX11 262 TX11 20 := Or.inl (tg_of 926 (by decide +kernel) rfl)
theorem fk_X11_262 : fOK RX11 262 11 20 := ⟨_, _, _, _, cok_11, by decide, lf_X11_262⟩
theorem pk_X11_262 : pOK RX11 262 11 20 .int := ⟨_, _, _, _, cok_11, by decide, lf_X11_262, rfl, by decide +kernel⟩
theorem lf_X11_278 : lkF RX11 278 TX11 14 := Or.inl (tg_of 920 (by decide +kernel) rfl)
theorem fk_X11_278 : fOK RX11 278 11 14 := ⟨_, _, _, _, cok_11, by decide, lf_X11_278⟩
theorem pk_X11_278 : pOK RX11 278 11 14 .int := ⟨_, _, _, _, cok_11, by decide, lf_X11_278, rfl, by decide +kernel⟩
theorem lf_X11_284 : lkF RX11 284 TX11 32 := Or.inl (tg_of 938 (by decide +kernel) rfl)
theorem fk_X11_284 : fOK RX11 284 11 32 := ⟨_, _, _, _, cok_11, by decide, lf_X11_284⟩
theorem pk_X11_284 : pOK RX11 284 11 32 .int := ⟨_, _, _, _, cok_11, by decide, lf_X11_284, rfl, by decide +kernel⟩
theorem lf_X11_287 : lkF RX11 287 TX11 33 := Or.inl (tg_of 939 (by decide +kernel) rfl)
theorem fk_X11_287 : fOK RX11 287 11 33 := ⟨_, _, _, _, cok_11, by decide, lf_X11_287⟩
theorem pk_X11_287 : pOK RX11 287 11 33 .int := ⟨_, _, _, _, cok_11, by decide, lf_X11_287, rfl, by decide +kernel⟩
theorem lf_X11_300 : lkF RX11 300 TX11 43 := Or.inl (tg_of 949 (by decide +kernel) rfl)
theorem fk_X11_300 : fOK RX11 300 11 43 := ⟨_, _, _, _, cok_11, by decide, lf_X11_300⟩
theorem pk_X11_300 : pOK RX11 300 11 43 .int := ⟨_, _, _, _, cok_11, by decide, lf_X11_300, rfl, by decide +kernel⟩
theorem lf_X11_313 : lkF RX11 313 TX11 53 := Or.inl (tg_of 959 (by decide +kernel) rfl)
theorem fk_X11_313 : fOK RX11 313 11 53 := ⟨_, _, _, _, cok_11, by decide, lf_X11_313⟩
theorem pk_X11_313 : pOK RX11 313 11 53 .int := ⟨_, _, _, _, cok_11, by decide, lf_X11_313, rfl, by decide +kernel⟩
theorem lf_X11_326 : lkF RX11 326 TX11 59 := Or.inl (tg_of 965 (by decide +kernel) rfl)
theorem fk_X11_326 : fOK RX11 326 11 59 := ⟨_, _, _, _, cok_11, by decide, lf_X11_326⟩
theorem pk_X11_326 : pOK RX11 326 11 59 .int := ⟨_, _, _, _, cok_11, by decide, lf_X11_326, rfl, by decide +kernel⟩
theorem lf_X11_332 : lkF RX11 332 TX11 60 := Or.inl (tg_of 966 (by decide +kernel) rfl)
theorem fk_X11_332 : fOK RX11 332 11 60 := ⟨_, _, _, _, cok_11, by decide, lf_X11_332⟩
theorem pk_X11_332 : pOK RX11 332 11 60 .int := ⟨_, _, _, _, cok_11, by decide, lf_X11_332, rfl, by decide +kernel⟩
theorem mk_X0_forget : mkV yX0_forget RX0 cX0_forget 1 none 0 := ⟨tg_of 618 (by decide +kernel) rfl, tgs_of 27 (by decide +kernel) rfl, tg_of 8 (by decide +kernel) rfl, tg_of 619 (by decide +kernel) rfl, by decide +kernel⟩
theorem mk_X0_setPatching : mkV yX0_setPatching RX0 cX0_setPatching 3 none 2 := ⟨tg_of 649 (by decide +kernel) rfl, tgs_of 29 (by decide +kernel) rfl, tg_of 8 (by decide +kernel) rfl, tg_of 650 (by decide +kernel) rfl, by decide +kernel⟩
theorem mk_X0_isSheet : mkV yX0_isSheet RX0 cX0_isSheet 4 (some .boolean) 3 := ⟨tg_of 661 (by decide +kernel) rfl, tgs_of 31 (by decide +kernel) rfl, tg_of 8 (by decide +kernel) rfl, tg_of 662 (by decide +kernel) rfl, by decide +kernel⟩
theorem mk_X0_partIsSheet : mkV yX0_partIsSheet RX0 cX0_partIsSheet 3 (some .boolean) 2 := ⟨tg_of 682 (by decide +kernel) rfl, tgs_of 35 (by decide +kernel) rfl, tg_of 8 (by decide +kernel) rfl, tg_of 683 (by decide +kernel) rfl, by decide +kernel⟩
theorem mk_X0_find : mkV yX0_find RX0 cX0_find 4 none 0 := ⟨tg_of 719 (by decide +kernel) rfl, tgs_of 42 (by decide +kernel) rfl, tg_of 8 (by decide +kernel) rfl, tg_of 720 (by decide +kernel) rfl, by decide +kernel⟩
theorem mk_X0_trySheets : mkV yX0_trySheets RX0 cX0_trySheets 7 none 2 := ⟨tg_of 724 (by decide +kernel) rfl, tgs_of 43 (by decide +kernel) rfl, tg_of 8 (by decide +kernel) rfl, tg_of 725 (by decide +kernel) rfl, by decide +kernel⟩
theorem mk_X0_isBetter : mkV yX0_isBetter RX0 cX0_isBetter 4 (some .boolean) 3 := ⟨tg_of 732 (by decide +kernel) rfl, tgs_of 45 (by decide +kernel) rfl, tg_of 8 (by decide +kernel) rfl, tg_of 733 (by decide +kernel) rfl, by decide +kernel⟩
theorem mk_X0_listSheets : mkV yX0_listSheets RX0 cX0_listSheets 4 none 1 := ⟨tg_of 736 (by decide +kernel) rfl, tgs_of 46 (by decide +kernel) rfl, tg_of 8 (by decide +kernel) rfl, tg_of 737 (by decide +kernel) rfl, by decide +kernel⟩
theorem mk_X0_totalWorth : mkV yX0_totalWorth RX0 cX0_totalWorth 1 (some .int) 0 := ⟨tg_of 740 (by decide +kernel) rfl, tgs_of 47 (by decide +kernel) rfl, tg_of 8 (by decide +kernel) rfl, tg_of 741 (by decide +kernel) rfl, by decide +kernel⟩
theorem mk_X0_tell : mkV yX0_tell RX0 cX0_tell 4 (some .int) 2 := ⟨tg_of 752 (by decide +kernel) rfl, tgs_of 48 (by decide +kernel) rfl, tg_of 8 (by decide +kernel) rfl, tg_of 753 (by decide +kernel) rfl, by decide +kernel⟩
theorem mk_X1_readLines : mkV yX1_readLines RX1 cX1_readLines 3 (some .boolean) 1 := ⟨tg_of 452 (by decide +kernel) rfl, tgs_of 9 (by decide +kernel) rfl, tg_of 4 (by decide +kernel) rfl, tg_of 453 (by decide +kernel) rfl, by decide +kernel⟩
theorem mk_X1_readLine : mkV yX1_readLine RX1 cX1_readLine 3 (some .boolean) 0 := ⟨tg_of 569 (by decide +kernel) rfl, tgs_of 15 (by decide +kernel) rfl, tg_of 4 (by decide +kernel) rfl, tg_of 570 (by decide +kernel) rfl, by decide +kernel⟩
theorem mk_X1_readEither : mkV yX1_readEither RX1 cX1_readEither 3 (some .boolean) 1 := ⟨tg_of 586 (by decide +kernel) rfl, tgs_of 19 (by decide +kernel) rfl, tg_of 4 (by decide +kernel) rfl, tg_of 587 (by decide +kernel) rfl, by decide +kernel⟩
theorem mk_X1_readBoth : mkV yX1_readBoth RX1 cX1_readBoth 3 (some .boolean) 1 := ⟨tg_of 590 (by decide +kernel) rfl, tgs_of 20 (by decide +kernel) rfl, tg_of 4 (by decide +kernel) rfl, tg_of 591 (by decide +kernel) rfl, by decide +kernel⟩
theorem mk_X1_readOne : mkV yX1_readOne RX1 cX1_readOne 3 (some .boolean) 1 := ⟨tg_of 594 (by decide +kernel) rfl, tgs_of 21 (by decide +kernel) rfl, tg_of 4 (by decide +kernel) rfl, tg_of 595 (by decide +kernel) rfl, by decide +kernel⟩
theorem mk_X1_readSum : mkV yX1_readSum RX1 cX1_readSum 3 (some .boolean) 0 := ⟨tg_of 602 (by decide +kernel) rfl, tgs_of 23 (by decide +kernel) rfl, tg_of 4 (by decide +kernel) rfl, tg_of 603 (by decide +kernel) rfl, by decide +kernel⟩
theorem mk_X1_readToken : mkV yX1_readToken RX1 cX1_readToken 2 (some .boolean) 1 := ⟨tg_of 573 (by decide +kernel) rfl, tgs_of 16 (by decide +kernel) rfl, tg_of 4 (by decide +kernel) rfl, tg_of 574 (by decide +kernel) rfl, by decide +kernel⟩
theorem mk_X1_readNumber : mkV yX1_readNumber RX1 cX1_readNumber 3 (some .boolean) 2 := ⟨tg_of 581 (by decide +kernel) rfl, tgs_of 18 (by decide +kernel) rfl, tg_of 4 (by decide +kernel) rfl, tg_of 582 (by decide +kernel) rfl, by decide +kernel⟩
theorem mk_X1_refuse : mkV yX1_refuse RX1 cX1_refuse 1 (some .boolean) 0 := ⟨tg_of 577 (by decide +kernel) rfl, tgs_of 17 (by decide +kernel) rfl, tg_of 4 (by decide +kernel) rfl, tg_of 578 (by decide +kernel) rfl, by decide +kernel⟩
theorem mk_X1_advance : mkV yX1_advance RX1 cX1_advance 2 none 0 := ⟨tg_of 565 (by decide +kernel) rfl, tgs_of 14 (by decide +kernel) rfl, tg_of 4 (by decide +kernel) rfl, tg_of 566 (by decide +kernel) rfl, by decide +kernel⟩
theorem mk_X1_placeReached : mkV yX1_placeReached RX1 cX1_placeReached 2 (some .int) 0 := ⟨tg_of 610 (by decide +kernel) rfl, tgs_of 25 (by decide +kernel) rfl, tg_of 4 (by decide +kernel) rfl, tg_of 611 (by decide +kernel) rfl, by decide +kernel⟩
theorem mk_X2_clear : mkV yX2_clear RX2 cX2_clear 1 none 0 := ⟨tg_of 561 (by decide +kernel) rfl, tgs_of 13 (by decide +kernel) rfl, tg_of 6 (by decide +kernel) rfl, tg_of 562 (by decide +kernel) rfl, by decide +kernel⟩
theorem mk_X2_emit : mkV yX2_emit RX2 cX2_emit 2 none 1 := ⟨tg_of 598 (by decide +kernel) rfl, tgs_of 22 (by decide +kernel) rfl, tg_of 6 (by decide +kernel) rfl, tg_of 599 (by decide +kernel) rfl, by decide +kernel⟩
theorem mk_X2_addLine : mkV yX2_addLine RX2 cX2_addLine 3 none 2 := ⟨tg_of 606 (by decide +kernel) rfl, tgs_of 24 (by decide +kernel) rfl, tg_of 6 (by decide +kernel) rfl, tg_of 607 (by decide +kernel) rfl, by decide +kernel⟩
theorem mk_X2_copyFrom : mkV yX2_copyFrom RX2 cX2_copyFrom 3 none 1 := ⟨tg_of 614 (by decide +kernel) rfl, tgs_of 26 (by decide +kernel) rfl, tg_of 6 (by decide +kernel) rfl, tg_of 615 (by decide +kernel) rfl, by decide +kernel⟩
theorem mk_X2_widthOf : mkV yX2_widthOf RX2 cX2_widthOf 2 (some .int) 1 := ⟨tg_of 657 (by decide +kernel) rfl, tgs_of 30 (by decide +kernel) rfl, tg_of 6 (by decide +kernel) rfl, tg_of 658 (by decide +kernel) rfl, by decide +kernel⟩
theorem mk_X2_worthOf : mkV yX2_worthOf RX2 cX2_worthOf 2 (some .int) 1 := ⟨tg_of 728 (by decide +kernel) rfl, tgs_of 44 (by decide +kernel) rfl, tg_of 6 (by decide +kernel) rfl, tg_of 729 (by decide +kernel) rfl, by decide +kernel⟩
theorem mk_X2_codeEndOf : mkV yX2_codeEndOf RX2 cX2_codeEndOf 2 (some .int) 1 := ⟨tg_of 690 (by decide +kernel) rfl, tgs_of 37 (by decide +kernel) rfl, tg_of 6 (by decide +kernel) rfl, tg_of 691 (by decide +kernel) rfl, by decide +kernel⟩
theorem mk_X2_holds : mkV yX2_holds RX2 cX2_holds 6 (some .boolean) 2 := ⟨tg_of 686 (by decide +kernel) rfl, tgs_of 36 (by decide +kernel) rfl, tg_of 6 (by decide +kernel) rfl, tg_of 687 (by decide +kernel) rfl, by decide +kernel⟩
theorem mk_X2_doStep : mkV yX2_doStep RX2 cX2_doStep 5 none 2 := ⟨tg_of 696 (by decide +kernel) rfl, tgs_of 38 (by decide +kernel) rfl, tg_of 6 (by decide +kernel) rfl, tg_of 697 (by decide +kernel) rfl, by decide +kernel⟩
theorem mk_X2_joined : mkS yX2_joined cX2_joined 3 (some .int) 3 := ⟨tg_of 711 (by decide +kernel) rfl, tg_of 6 (by decide +kernel) rfl, tg_of 712 (by decide +kernel) rfl, by decide +kernel⟩
theorem mk_X2_push : mkV yX2_push RX2 cX2_push 2 none 1 := ⟨tg_of 700 (by decide +kernel) rfl, tgs_of 39 (by decide +kernel) rfl, tg_of 6 (by decide +kernel) rfl, tg_of 701 (by decide +kernel) rfl, by decide +kernel⟩
theorem mk_X2_pop : mkV yX2_pop RX2 cX2_pop 1 (some .int) 0 := ⟨tg_of 708 (by decide +kernel) rfl, tgs_of 41 (by decide +kernel) rfl, tg_of 6 (by decide +kernel) rfl, tg_of 709 (by decide +kernel) rfl, by decide +kernel⟩
theorem mk_X3_firstFault : mkS yX3_firstFault cX3_firstFault 2 (some .int) 1 := ⟨tg_of 630 (by decide +kernel) rfl, tg_of 7 (by decide +kernel) rfl, tg_of 631 (by decide +kernel) rfl, by decide +kernel⟩
theorem mk_X3_isMark : mkS yX3_isMark cX3_isMark 1 (some .boolean) 1 := ⟨tg_of 634 (by decide +kernel) rfl, tg_of 7 (by decide +kernel) rfl, tg_of 635 (by decide +kernel) rfl, by decide +kernel⟩
theorem mk_X3_take : mkV yX3_take RX3 cX3_take 4 none 1 := ⟨tg_of 638 (by decide +kernel) rfl, tgs_of 28 (by decide +kernel) rfl, tg_of 7 (by decide +kernel) rfl, tg_of 639 (by decide +kernel) rfl, by decide +kernel⟩
theorem mk_X3_listRuns : mkV yX3_listRuns RX3 cX3_listRuns 5 none 2 := ⟨tg_of 669 (by decide +kernel) rfl, tgs_of 33 (by decide +kernel) rfl, tg_of 7 (by decide +kernel) rfl, tg_of 670 (by decide +kernel) rfl, by decide +kernel⟩
theorem mk_X3_between : mkS yX3_between cX3_between 3 (some .int) 3 := ⟨tg_of 678 (by decide +kernel) rfl, tg_of 7 (by decide +kernel) rfl, tg_of 679 (by decide +kernel) rfl, by decide +kernel⟩
theorem mk_X4_putRow : mkV yX4_putRow RX4 cX4_putRow 3 (some .boolean) 2 := ⟨tg_of 391 (by decide +kernel) rfl, tgs_of 0 (by decide +kernel) rfl, tg_of 2 (by decide +kernel) rfl, tg_of 392 (by decide +kernel) rfl, by decide +kernel⟩
theorem mk_X4_findCentre : mkV yX4_findCentre RX4 cX4_findCentre 3 none 0 := ⟨tg_of 403 (by decide +kernel) rfl, tgs_of 1 (by decide +kernel) rfl, tg_of 2 (by decide +kernel) rfl, tg_of 404 (by decide +kernel) rfl, by decide +kernel⟩
theorem mk_X4_growAt : mkV yX4_growAt RX4 cX4_growAt 4 none 2 := ⟨tg_of 407 (by decide +kernel) rfl, tgs_of 2 (by decide +kernel) rfl, tg_of 2 (by decide +kernel) rfl, tg_of 408 (by decide +kernel) rfl, by decide +kernel⟩
theorem mk_X4_discFits : mkV yX4_discFits RX4 cX4_discFits 7 (some .boolean) 3 := ⟨tg_of 411 (by decide +kernel) rfl, tgs_of 3 (by decide +kernel) rfl, tg_of 2 (by decide +kernel) rfl, tg_of 412 (by decide +kernel) rfl, by decide +kernel⟩
theorem mk_X4_hasCells : mkV yX4_hasCells RX4 cX4_hasCells 3 (some .boolean) 2 := ⟨tg_of 415 (by decide +kernel) rfl, tgs_of 4 (by decide +kernel) rfl, tg_of 2 (by decide +kernel) rfl, tg_of 416 (by decide +kernel) rfl, by decide +kernel⟩
theorem mk_X4_peeled : mkV yX4_peeled RX4 cX4_peeled 5 (some .int) 2 := ⟨tg_of 424 (by decide +kernel) rfl, tgs_of 5 (by decide +kernel) rfl, tg_of 2 (by decide +kernel) rfl, tg_of 425 (by decide +kernel) rfl, by decide +kernel⟩
theorem mk_X5_beginAt : mkV yX5_beginAt RX5 cX5_beginAt 2 none 1 := ⟨tg_of 665 (by decide +kernel) rfl, tgs_of 32 (by decide +kernel) rfl, tg_of 9 (by decide +kernel) rfl, tg_of 666 (by decide +kernel) rfl, by decide +kernel⟩
theorem mk_X5_endBefore : mkV yX5_endBefore RX5 cX5_endBefore 3 none 1 := ⟨tg_of 675 (by decide +kernel) rfl, tgs_of 34 (by decide +kernel) rfl, tg_of 9 (by decide +kernel) rfl, tg_of 676 (by decide +kernel) rfl, by decide +kernel⟩
theorem mk_X5_countOf : mkV yX5_countOf RX5 cX5_countOf 2 (some .int) 1 := ⟨tg_of 704 (by decide +kernel) rfl, tgs_of 40 (by decide +kernel) rfl, tg_of 9 (by decide +kernel) rfl, tg_of 705 (by decide +kernel) rfl, by decide +kernel⟩
theorem mk_X6_set : mkV yX6_set RX6 cX6_set 5 none 4 := ⟨tg_of 820 (by decide +kernel) rfl, tgs_of 56 (by decide +kernel) rfl, tg_of 11 (by decide +kernel) rfl, tg_of 821 (by decide +kernel) rfl, by decide +kernel⟩
theorem mk_X6_addBoard : mkV yX6_addBoard RX6 cX6_addBoard 3 (some .int) 2 := ⟨tg_of 828 (by decide +kernel) rfl, tgs_of 57 (by decide +kernel) rfl, tg_of 11 (by decide +kernel) rfl, tg_of 829 (by decide +kernel) rfl, by decide +kernel⟩
theorem mk_X6_removeBoard : mkV yX6_removeBoard RX6 cX6_removeBoard 1 (some .boolean) 0 := ⟨tg_of 836 (by decide +kernel) rfl, tgs_of 58 (by decide +kernel) rfl, tg_of 11 (by decide +kernel) rfl, tg_of 837 (by decide +kernel) rfl, by decide +kernel⟩
theorem mk_X6_find : mkV yX6_find RX6 cX6_find 3 none 0 := ⟨tg_of 844 (by decide +kernel) rfl, tgs_of 59 (by decide +kernel) rfl, tg_of 11 (by decide +kernel) rfl, tg_of 845 (by decide +kernel) rfl, by decide +kernel⟩
theorem mk_X6_describeSetsUpTo : mkV yX6_describeSetsUpTo RX6 cX6_describeSetsUpTo 9 none 1 := ⟨tg_of 849 (by decide +kernel) rfl, tgs_of 60 (by decide +kernel) rfl, tg_of 11 (by decide +kernel) rfl, tg_of 850 (by decide +kernel) rfl, by decide +kernel⟩
theorem mk_X6_findEnding : mkV yX6_findEnding RX6 cX6_findEnding 7 (some .int) 1 := ⟨tg_of 860 (by decide +kernel) rfl, tgs_of 61 (by decide +kernel) rfl, tg_of 11 (by decide +kernel) rfl, tg_of 861 (by decide +kernel) rfl, by decide +kernel⟩
theorem mk_X6_outWith : mkV yX6_outWith RX6 cX6_outWith 4 (some .int) 2 := ⟨tg_of 864 (by decide +kernel) rfl, tgs_of 62 (by decide +kernel) rfl, tg_of 11 (by decide +kernel) rfl, tg_of 865 (by decide +kernel) rfl, by decide +kernel⟩
theorem mk_X6_choose : mkV yX6_choose RX6 cX6_choose 5 none 1 := ⟨tg_of 868 (by decide +kernel) rfl, tgs_of 63 (by decide +kernel) rfl, tg_of 11 (by decide +kernel) rfl, tg_of 869 (by decide +kernel) rfl, by decide +kernel⟩
theorem mk_X6_outOf : mkV yX6_outOf RX6 cX6_outOf 2 (some .int) 1 := ⟨tg_of 872 (by decide +kernel) rfl, tgs_of 64 (by decide +kernel) rfl, tg_of 11 (by decide +kernel) rfl, tg_of 873 (by decide +kernel) rfl, by decide +kernel⟩
theorem mk_X6_lastLoadOf : mkV yX6_lastLoadOf RX6 cX6_lastLoadOf 2 (some .int) 1 := ⟨tg_of 880 (by decide +kernel) rfl, tgs_of 66 (by decide +kernel) rfl, tg_of 11 (by decide +kernel) rfl, tg_of 881 (by decide +kernel) rfl, by decide +kernel⟩
theorem mk_X6_listLoads : mkV yX6_listLoads RX6 cX6_listLoads 4 none 0 := ⟨tg_of 876 (by decide +kernel) rfl, tgs_of 65 (by decide +kernel) rfl, tg_of 11 (by decide +kernel) rfl, tg_of 877 (by decide +kernel) rfl, by decide +kernel⟩
theorem mk_X6_writeLoad : mkV yX6_writeLoad RX6 cX6_writeLoad 4 none 3 := ⟨tg_of 884 (by decide +kernel) rfl, tgs_of 67 (by decide +kernel) rfl, tg_of 11 (by decide +kernel) rfl, tg_of 885 (by decide +kernel) rfl, by decide +kernel⟩
theorem mk_X6_tell : mkV yX6_tell RX6 cX6_tell 3 (some .int) 2 := ⟨tg_of 894 (by decide +kernel) rfl, tgs_of 68 (by decide +kernel) rfl, tg_of 11 (by decide +kernel) rfl, tg_of 895 (by decide +kernel) rfl, by decide +kernel⟩
theorem mk_X7_hasRoomForFeed : mkV yX7_hasRoomForFeed RX7 cX7_hasRoomForFeed 1 (some .boolean) 0 := ⟨tg_of 432 (by decide +kernel) rfl, tgs_of 6 (by decide +kernel) rfl, tg_of 3 (by decide +kernel) rfl, tg_of 433 (by decide +kernel) rfl, by decide +kernel⟩
theorem mk_X7_append : mkV yX7_append RX7 cX7_append 3 none 1 := ⟨tg_of 436 (by decide +kernel) rfl, tgs_of 7 (by decide +kernel) rfl, tg_of 3 (by decide +kernel) rfl, tg_of 437 (by decide +kernel) rfl, by decide +kernel⟩
theorem mk_X7_keep : mkV yX7_keep RX7 cX7_keep 2 (some .boolean) 1 := ⟨tg_of 444 (by decide +kernel) rfl, tgs_of 8 (by decide +kernel) rfl, tg_of 3 (by decide +kernel) rfl, tg_of 445 (by decide +kernel) rfl, by decide +kernel⟩
theorem mk_X7_byteAt : mkV yX7_byteAt RX7 cX7_byteAt 2 (some .int) 1 := ⟨tg_of 463 (by decide +kernel) rfl, tgs_of 11 (by decide +kernel) rfl, tg_of 3 (by decide +kernel) rfl, tg_of 464 (by decide +kernel) rfl, by decide +kernel⟩
theorem mk_X8_split : mkV yX8_split RX8 cX8_split 4 none 1 := ⟨tg_of 456 (by decide +kernel) rfl, tgs_of 10 (by decide +kernel) rfl, tg_of 5 (by decide +kernel) rfl, tg_of 457 (by decide +kernel) rfl, by decide +kernel⟩
theorem mk_X8_add : mkV yX8_add RX8 cX8_add 3 none 2 := ⟨tg_of 557 (by decide +kernel) rfl, tgs_of 12 (by decide +kernel) rfl, tg_of 5 (by decide +kernel) rfl, tg_of 558 (by decide +kernel) rfl, by decide +kernel⟩
theorem mk_X8_endAt : mkS yX8_endAt cX8_endAt 3 (some .int) 2 := ⟨tg_of 459 (by decide +kernel) rfl, tg_of 5 (by decide +kernel) rfl, tg_of 460 (by decide +kernel) rfl, by decide +kernel⟩
theorem mk_X8_kindAt : mkS yX8_kindAt cX8_kindAt 4 (some .int) 3 := ⟨tg_of 479 (by decide +kernel) rfl, tg_of 5 (by decide +kernel) rfl, tg_of 480 (by decide +kernel) rfl, by decide +kernel⟩
theorem mk_X8_numberAt : mkS yX8_numberAt cX8_numberAt 5 (some .int) 3 := ⟨tg_of 482 (by decide +kernel) rfl, tg_of 5 (by decide +kernel) rfl, tg_of 483 (by decide +kernel) rfl, by decide +kernel⟩
theorem mk_X8_wordAt : mkS yX8_wordAt cX8_wordAt 3 (some .int) 3 := ⟨tg_of 485 (by decide +kernel) rfl, tg_of 5 (by decide +kernel) rfl, tg_of 486 (by decide +kernel) rfl, by decide +kernel⟩
theorem mk_X8_termAt : mkS yX8_termAt cX8_termAt 3 (some .int) 3 := ⟨tg_of 545 (by decide +kernel) rfl, tg_of 5 (by decide +kernel) rfl, tg_of 546 (by decide +kernel) rfl, by decide +kernel⟩
theorem mk_X8_isWord : mkS yX8_isWord cX8_isWord 5 (some .boolean) 4 := ⟨tg_of 489 (by decide +kernel) rfl, tg_of 5 (by decide +kernel) rfl, tg_of 490 (by decide +kernel) rfl, by decide +kernel⟩
theorem mk_X8_signOf : mkS yX8_signOf cX8_signOf 1 (some .int) 1 := ⟨tg_of 553 (by decide +kernel) rfl, tg_of 5 (by decide +kernel) rfl, tg_of 554 (by decide +kernel) rfl, by decide +kernel⟩
theorem mk_X8_isBlank : mkS yX8_isBlank cX8_isBlank 1 (some .boolean) 1 := ⟨tg_of 476 (by decide +kernel) rfl, tg_of 5 (by decide +kernel) rfl, tg_of 477 (by decide +kernel) rfl, by decide +kernel⟩
theorem mk_X8_isLetter : mkS yX8_isLetter cX8_isLetter 1 (some .boolean) 1 := ⟨tg_of 470 (by decide +kernel) rfl, tg_of 5 (by decide +kernel) rfl, tg_of 471 (by decide +kernel) rfl, by decide +kernel⟩
theorem mk_X8_isDigit : mkS yX8_isDigit cX8_isDigit 1 (some .boolean) 1 := ⟨tg_of 466 (by decide +kernel) rfl, tg_of 5 (by decide +kernel) rfl, tg_of 467 (by decide +kernel) rfl, by decide +kernel⟩
theorem mk_X9_set : mkV yX9_set RX9 cX9_set 6 none 5 := ⟨tg_of 761 (by decide +kernel) rfl, tgs_of 49 (by decide +kernel) rfl, tg_of 10 (by decide +kernel) rfl, tg_of 762 (by decide +kernel) rfl, by decide +kernel⟩
theorem mk_X9_canBe : mkS yX9_canBe cX9_canBe 3 (some .boolean) 2 := ⟨tg_of 768 (by decide +kernel) rfl, tg_of 10 (by decide +kernel) rfl, tg_of 769 (by decide +kernel) rfl, by decide +kernel⟩
theorem mk_X9_kindAt : mkS yX9_kindAt cX9_kindAt 2 (some .int) 2 := ⟨tg_of 772 (by decide +kernel) rfl, tg_of 10 (by decide +kernel) rfl, tg_of 773 (by decide +kernel) rfl, by decide +kernel⟩
theorem mk_X9_ofKind : mkS yX9_ofKind cX9_ofKind 2 (some .int) 2 := ⟨tg_of 782 (by decide +kernel) rfl, tg_of 10 (by decide +kernel) rfl, tg_of 783 (by decide +kernel) rfl, by decide +kernel⟩
theorem mk_X9_sumOf : mkS yX9_sumOf cX9_sumOf 5 (some .int) 3 := ⟨tg_of 779 (by decide +kernel) rfl, tg_of 10 (by decide +kernel) rfl, tg_of 780 (by decide +kernel) rfl, by decide +kernel⟩
theorem mk_X9_thinOf : mkV yX9_thinOf RX9 cX9_thinOf 3 (some .int) 2 := ⟨tg_of 776 (by decide +kernel) rfl, tgs_of 50 (by decide +kernel) rfl, tg_of 10 (by decide +kernel) rfl, tg_of 777 (by decide +kernel) rfl, by decide +kernel⟩
theorem mk_X9_thickOf : mkV yX9_thickOf RX9 cX9_thickOf 3 (some .int) 2 := ⟨tg_of 786 (by decide +kernel) rfl, tgs_of 51 (by decide +kernel) rfl, tg_of 10 (by decide +kernel) rfl, tg_of 787 (by decide +kernel) rfl, by decide +kernel⟩
theorem mk_X9_priceOf : mkV yX9_priceOf RX9 cX9_priceOf 3 (some .int) 2 := ⟨tg_of 790 (by decide +kernel) rfl, tgs_of 52 (by decide +kernel) rfl, tg_of 10 (by decide +kernel) rfl, tg_of 791 (by decide +kernel) rfl, by decide +kernel⟩
theorem mk_X9_warpOf : mkV yX9_warpOf RX9 cX9_warpOf 9 (some .int) 2 := ⟨tg_of 798 (by decide +kernel) rfl, tgs_of 53 (by decide +kernel) rfl, tg_of 10 (by decide +kernel) rfl, tg_of 799 (by decide +kernel) rfl, by decide +kernel⟩
theorem mk_X9_cheapest : mkV yX9_cheapest RX9 cX9_cheapest 4 (some .int) 3 := ⟨tg_of 807 (by decide +kernel) rfl, tgs_of 54 (by decide +kernel) rfl, tg_of 10 (by decide +kernel) rfl, tg_of 808 (by decide +kernel) rfl, by decide +kernel⟩
theorem mk_X9_lay : mkV yX9_lay RX9 cX9_lay 12 none 5 := ⟨tg_of 812 (by decide +kernel) rfl, tgs_of 55 (by decide +kernel) rfl, tg_of 10 (by decide +kernel) rfl, tg_of 813 (by decide +kernel) rfl, by decide +kernel⟩
theorem mk_X10_net : mkV yX10_net RX10 cX10_net 3 (some .boolean) 2 := ⟨tg_of 386 (by decide +kernel) rfl, tg_of 387 (by decide +kernel) rfl, tg_of 1 (by decide +kernel) rfl, tg_of 388 (by decide +kernel) rfl, by decide +kernel⟩
theorem mk_X10_centre : mkV yX10_centre RX10 cX10_centre 2 (some .int) 1 := ⟨tg_of 398 (by decide +kernel) rfl, tg_of 399 (by decide +kernel) rfl, tg_of 1 (by decide +kernel) rfl, tg_of 400 (by decide +kernel) rfl, by decide +kernel⟩
theorem mk_X10_full : mkV yX10_full RX10 cX10_full 3 (some .int) 2 := ⟨tg_of 418 (by decide +kernel) rfl, tg_of 419 (by decide +kernel) rfl, tg_of 1 (by decide +kernel) rfl, tg_of 420 (by decide +kernel) rfl, by decide +kernel⟩
theorem mk_X10_feed : mkV yX10_feed RX10 cX10_feed 6 (some .int) 5 := ⟨tg_of 427 (by decide +kernel) rfl, tg_of 428 (by decide +kernel) rfl, tg_of 1 (by decide +kernel) rfl, tg_of 429 (by decide +kernel) rfl, by decide +kernel⟩
theorem mk_X10_end : mkV yX10_end RX10 cX10_end 2 (some .int) 1 := ⟨tg_of 439 (by decide +kernel) rfl, tg_of 440 (by decide +kernel) rfl, tg_of 1 (by decide +kernel) rfl, tg_of 441 (by decide +kernel) rfl, by decide +kernel⟩
theorem mk_X10_grades : mkV yX10_grades RX10 cX10_grades 2 (some .int) 0 := ⟨tg_of 447 (by decide +kernel) rfl, tg_of 448 (by decide +kernel) rfl, tg_of 1 (by decide +kernel) rfl, tg_of 449 (by decide +kernel) rfl, by decide +kernel⟩
theorem mk_X10_fault : mkV yX10_fault RX10 cX10_fault 2 (some .int) 1 := ⟨tg_of 622 (by decide +kernel) rfl, tg_of 623 (by decide +kernel) rfl, tg_of 1 (by decide +kernel) rfl, tg_of 624 (by decide +kernel) rfl, by decide +kernel⟩
theorem mk_X10_leaf : mkV yX10_leaf RX10 cX10_leaf 1 (some .int) 0 := ⟨tg_of 626 (by decide +kernel) rfl, tg_of 627 (by decide +kernel) rfl, tg_of 1 (by decide +kernel) rfl, tg_of 628 (by decide +kernel) rfl, by decide +kernel⟩
theorem mk_X10_patch : mkV yX10_patch RX10 cX10_patch 3 (some .boolean) 2 := ⟨tg_of 644 (by decide +kernel) rfl, tg_of 645 (by decide +kernel) rfl, tg_of 1 (by decide +kernel) rfl, tg_of 646 (by decide +kernel) rfl, by decide +kernel⟩
theorem mk_X10_sheet : mkV yX10_sheet RX10 cX10_sheet 4 (some .int) 3 := ⟨tg_of 652 (by decide +kernel) rfl, tg_of 653 (by decide +kernel) rfl, tg_of 1 (by decide +kernel) rfl, tg_of 654 (by decide +kernel) rfl, by decide +kernel⟩
theorem mk_X10_worth : mkV yX10_worth RX10 cX10_worth 1 (some .int) 0 := ⟨tg_of 714 (by decide +kernel) rfl, tg_of 715 (by decide +kernel) rfl, tg_of 1 (by decide +kernel) rfl, tg_of 716 (by decide +kernel) rfl, by decide +kernel⟩
theorem mk_X10_sheets : mkV yX10_sheets RX10 cX10_sheets 1 (some .int) 0 := ⟨tg_of 743 (by decide +kernel) rfl, tg_of 744 (by decide +kernel) rfl, tg_of 1 (by decide +kernel) rfl, tg_of 745 (by decide +kernel) rfl, by decide +kernel⟩
theorem mk_X10_clipped : mkV yX10_clipped RX10 cX10_clipped 3 (some .int) 2 := ⟨tg_of 747 (by decide +kernel) rfl, tg_of 748 (by decide +kernel) rfl, tg_of 1 (by decide +kernel) rfl, tg_of 749 (by decide +kernel) rfl, by decide +kernel⟩
theorem mk_X10_veneer : mkV yX10_veneer RX10 cX10_veneer 6 (some .boolean) 5 := ⟨tg_of 755 (by decide +kernel) rfl, tg_of 756 (by decide +kernel) rfl, tg_of 1 (by decide +kernel) rfl, tg_of 757 (by decide +kernel) rfl, by decide +kernel⟩
theorem mk_X10_board : mkV yX10_board RX10 cX10_board 4 (some .int) 3 := ⟨tg_of 764 (by decide +kernel) rfl, tg_of 765 (by decide +kernel) rfl, tg_of 1 (by decide +kernel) rfl, tg_of 766 (by decide +kernel) rfl, by decide +kernel⟩
theorem mk_X10_warp : mkV yX10_warp RX10 cX10_warp 3 (some .int) 2 := ⟨tg_of 793 (by decide +kernel) rfl, tg_of 794 (by decide +kernel) rfl, tg_of 1 (by decide +kernel) rfl, tg_of 795 (by decide +kernel) rfl, by decide +kernel⟩
theorem mk_X10_best : mkV yX10_best RX10 cX10_best 4 (some .int) 3 := ⟨tg_of 802 (by decide +kernel) rfl, tg_of 803 (by decide +kernel) rfl, tg_of 1 (by decide +kernel) rfl, tg_of 804 (by decide +kernel) rfl, by decide +kernel⟩
theorem mk_X10_press : mkV yX10_press RX10 cX10_press 5 (some .boolean) 4 := ⟨tg_of 815 (by decide +kernel) rfl, tg_of 816 (by decide +kernel) rfl, tg_of 1 (by decide +kernel) rfl, tg_of 817 (by decide +kernel) rfl, by decide +kernel⟩
theorem mk_X10_glue : mkV yX10_glue RX10 cX10_glue 3 (some .int) 2 := ⟨tg_of 823 (by decide +kernel) rfl, tg_of 824 (by decide +kernel) rfl, tg_of 1 (by decide +kernel) rfl, tg_of 825 (by decide +kernel) rfl, by decide +kernel⟩
theorem mk_X10_drop : mkV yX10_drop RX10 cX10_drop 1 (some .boolean) 0 := ⟨tg_of 831 (by decide +kernel) rfl, tg_of 832 (by decide +kernel) rfl, tg_of 1 (by decide +kernel) rfl, tg_of 833 (by decide +kernel) rfl, by decide +kernel⟩
theorem mk_X10_plan : mkV yX10_plan RX10 cX10_plan 2 (some .int) 1 := ⟨tg_of 839 (by decide +kernel) rfl, tg_of 840 (by decide +kernel) rfl, tg_of 1 (by decide +kernel) rfl, tg_of 841 (by decide +kernel) rfl, by decide +kernel⟩
theorem mk_X10_load : mkV yX10_load RX10 cX10_load 3 (some .int) 2 := ⟨tg_of 889 (by decide +kernel) rfl, tg_of 890 (by decide +kernel) rfl, tg_of 1 (by decide +kernel) rfl, tg_of 891 (by decide +kernel) rfl, by decide +kernel⟩
theorem mk_X10_about : mkV yX10_about RX10 cX10_about 2 (some .int) 1 := ⟨tg_of 897 (by decide +kernel) rfl, tg_of 898 (by decide +kernel) rfl, tg_of 1 (by decide +kernel) rfl, tg_of 899 (by decide +kernel) rfl, by decide +kernel⟩
theorem mk_X10_within : mkS yX10_within cX10_within 3 (some .boolean) 3 := ⟨tg_of 395 (by decide +kernel) rfl, tg_of 1 (by decide +kernel) rfl, tg_of 396 (by decide +kernel) rfl, by decide +kernel⟩
theorem mk_X11_net : mkV yX11_net RX11 cX11_net 3 (some .boolean) 2 := ⟨tg_of 1091 (by decide +kernel) rfl, tg_of 1092 (by decide +kernel) rfl, tg_of 12 (by decide +kernel) rfl, tg_of 1093 (by decide +kernel) rfl, by decide +kernel⟩
theorem mk_X11_isIn : mkV yX11_isIn RX11 cX11_isIn 3 (some .boolean) 2 := ⟨tg_of 1109 (by decide +kernel) rfl, tgs_of 71 (by decide +kernel) rfl, tg_of 12 (by decide +kernel) rfl, tg_of 1110 (by decide +kernel) rfl, by decide +kernel⟩
theorem mk_X11_fits : mkV yX11_fits RX11 cX11_fits 7 (some .boolean) 3 := ⟨tg_of 1105 (by decide +kernel) rfl, tgs_of 70 (by decide +kernel) rfl, tg_of 12 (by decide +kernel) rfl, tg_of 1106 (by decide +kernel) rfl, by decide +kernel⟩
theorem mk_X11_seekCentre : mkV yX11_seekCentre RX11 cX11_seekCentre 3 none 0 := ⟨tg_of 1101 (by decide +kernel) rfl, tgs_of 69 (by decide +kernel) rfl, tg_of 12 (by decide +kernel) rfl, tg_of 1102 (by decide +kernel) rfl, by decide +kernel⟩
theorem mk_X11_centre : mkV yX11_centre RX11 cX11_centre 2 (some .int) 1 := ⟨tg_of 1096 (by decide +kernel) rfl, tg_of 1097 (by decide +kernel) rfl, tg_of 12 (by decide +kernel) rfl, tg_of 1098 (by decide +kernel) rfl, by decide +kernel⟩
theorem mk_X11_full : mkV yX11_full RX11 cX11_full 4 (some .int) 2 := ⟨tg_of 1112 (by decide +kernel) rfl, tg_of 1113 (by decide +kernel) rfl, tg_of 12 (by decide +kernel) rfl, tg_of 1114 (by decide +kernel) rfl, by decide +kernel⟩
theorem mk_X11_feed : mkV yX11_feed RX11 cX11_feed 6 (some .int) 5 := ⟨tg_of 1116 (by decide +kernel) rfl, tg_of 1117 (by decide +kernel) rfl, tg_of 12 (by decide +kernel) rfl, tg_of 1118 (by decide +kernel) rfl, by decide +kernel⟩
theorem mk_X11_four : mkV yX11_four RX11 cX11_four 3 none 1 := ⟨tg_of 1121 (by decide +kernel) rfl, tgs_of 72 (by decide +kernel) rfl, tg_of 12 (by decide +kernel) rfl, tg_of 1122 (by decide +kernel) rfl, by decide +kernel⟩
theorem mk_X11_end : mkV yX11_end RX11 cX11_end 2 (some .int) 1 := ⟨tg_of 1124 (by decide +kernel) rfl, tg_of 1125 (by decide +kernel) rfl, tg_of 12 (by decide +kernel) rfl, tg_of 1126 (by decide +kernel) rfl, by decide +kernel⟩
theorem mk_X11_here : mkV yX11_here RX11 cX11_here 2 (some .int) 1 := ⟨tg_of 1141 (by decide +kernel) rfl, tgs_of 75 (by decide +kernel) rfl, tg_of 12 (by decide +kernel) rfl, tg_of 1142 (by decide +kernel) rfl, by decide +kernel⟩
theorem mk_X11_isLetter : mkS yX11_isLetter cX11_isLetter 1 (some .boolean) 1 := ⟨tg_of 1144 (by decide +kernel) rfl, tg_of 12 (by decide +kernel) rfl, tg_of 1145 (by decide +kernel) rfl, by decide +kernel⟩
theorem mk_X11_isDigit : mkS yX11_isDigit cX11_isDigit 1 (some .boolean) 1 := ⟨tg_of 1147 (by decide +kernel) rfl, tg_of 12 (by decide +kernel) rfl, tg_of 1148 (by decide +kernel) rfl, by decide +kernel⟩
theorem mk_X11_isSign : mkS yX11_isSign cX11_isSign 1 (some .boolean) 1 := ⟨tg_of 1150 (by decide +kernel) rfl, tg_of 12 (by decide +kernel) rfl, tg_of 1151 (by decide +kernel) rfl, by decide +kernel⟩
theorem mk_X11_next : mkV yX11_next RX11 cX11_next 3 none 0 := ⟨tg_of 1137 (by decide +kernel) rfl, tgs_of 74 (by decide +kernel) rfl, tg_of 12 (by decide +kernel) rfl, tg_of 1138 (by decide +kernel) rfl, by decide +kernel⟩
theorem mk_X11_wrong : mkV yX11_wrong RX11 cX11_wrong 2 none 1 := ⟨tg_of 1159 (by decide +kernel) rfl, tgs_of 77 (by decide +kernel) rfl, tg_of 12 (by decide +kernel) rfl, tg_of 1160 (by decide +kernel) rfl, by decide +kernel⟩
theorem mk_X11_isWord : mkV yX11_isWord RX11 cX11_isWord 3 (some .boolean) 1 := ⟨tg_of 1155 (by decide +kernel) rfl, tgs_of 76 (by decide +kernel) rfl, tg_of 12 (by decide +kernel) rfl, tg_of 1156 (by decide +kernel) rfl, by decide +kernel⟩
theorem mk_X11_named : mkV yX11_named RX11 cX11_named 1 (some .int) 0 := ⟨tg_of 1207 (by decide +kernel) rfl, tgs_of 88 (by decide +kernel) rfl, tg_of 12 (by decide +kernel) rfl, tg_of 1208 (by decide +kernel) rfl, by decide +kernel⟩
theorem mk_X11_step : mkV yX11_step RX11 cX11_step 3 none 2 := ⟨tg_of 1189 (by decide +kernel) rfl, tgs_of 84 (by decide +kernel) rfl, tg_of 12 (by decide +kernel) rfl, tg_of 1190 (by decide +kernel) rfl, by decide +kernel⟩
theorem mk_X11_told : mkV yX11_told RX11 cX11_told 4 (some .int) 2 := ⟨tg_of 1163 (by decide +kernel) rfl, tgs_of 78 (by decide +kernel) rfl, tg_of 12 (by decide +kernel) rfl, tg_of 1164 (by decide +kernel) rfl, by decide +kernel⟩
theorem mk_X11_hold : mkV yX11_hold RX11 cX11_hold 2 none 1 := ⟨tg_of 1193 (by decide +kernel) rfl, tgs_of 85 (by decide +kernel) rfl, tg_of 12 (by decide +kernel) rfl, tg_of 1194 (by decide +kernel) rfl, by decide +kernel⟩
theorem mk_X11_pop : mkV yX11_pop RX11 cX11_pop 1 none 0 := ⟨tg_of 1185 (by decide +kernel) rfl, tgs_of 83 (by decide +kernel) rfl, tg_of 12 (by decide +kernel) rfl, tg_of 1186 (by decide +kernel) rfl, by decide +kernel⟩
theorem mk_X11_settle : mkV yX11_settle RX11 cX11_settle 2 none 1 := ⟨tg_of 1181 (by decide +kernel) rfl, tgs_of 82 (by decide +kernel) rfl, tg_of 12 (by decide +kernel) rfl, tg_of 1182 (by decide +kernel) rfl, by decide +kernel⟩
theorem mk_X11_isOpen : mkV yX11_isOpen RX11 cX11_isOpen 3 (some .boolean) 0 := ⟨tg_of 1173 (by decide +kernel) rfl, tgs_of 80 (by decide +kernel) rfl, tg_of 12 (by decide +kernel) rfl, tg_of 1174 (by decide +kernel) rfl, by decide +kernel⟩
theorem mk_X11_readE : mkV yX11_readE RX11 cX11_readE 4 none 0 := ⟨tg_of 1169 (by decide +kernel) rfl, tgs_of 79 (by decide +kernel) rfl, tg_of 12 (by decide +kernel) rfl, tg_of 1170 (by decide +kernel) rfl, by decide +kernel⟩
theorem mk_X11_operand : mkV yX11_operand RX11 cX11_operand 5 (some .int) 1 := ⟨tg_of 1203 (by decide +kernel) rfl, tgs_of 87 (by decide +kernel) rfl, tg_of 12 (by decide +kernel) rfl, tg_of 1204 (by decide +kernel) rfl, by decide +kernel⟩
theorem mk_X11_sign : mkV yX11_sign RX11 cX11_sign 3 (some .int) 1 := ⟨tg_of 1177 (by decide +kernel) rfl, tgs_of 81 (by decide +kernel) rfl, tg_of 12 (by decide +kernel) rfl, tg_of 1178 (by decide +kernel) rfl, by decide +kernel⟩
theorem mk_X11_settleOnes : mkV yX11_settleOnes RX11 cX11_settleOnes 4 none 1 := ⟨tg_of 1199 (by decide +kernel) rfl, tgs_of 86 (by decide +kernel) rfl, tg_of 12 (by decide +kernel) rfl, tg_of 1200 (by decide +kernel) rfl, by decide +kernel⟩
theorem mk_X11_begin : mkV yX11_begin RX11 cX11_begin 1 none 0 := ⟨tg_of 1133 (by decide +kernel) rfl, tgs_of 73 (by decide +kernel) rfl, tg_of 12 (by decide +kernel) rfl, tg_of 1134 (by decide +kernel) rfl, by decide +kernel⟩
theorem mk_X11_grades : mkV yX11_grades RX11 cX11_grades 3 (some .int) 0 := ⟨tg_of 1128 (by decide +kernel) rfl, tg_of 1129 (by decide +kernel) rfl, tg_of 12 (by decide +kernel) rfl, tg_of 1130 (by decide +kernel) rfl, by decide +kernel⟩
theorem mk_X11_fault : mkV yX11_fault RX11 cX11_fault 2 (some .int) 1 := ⟨tg_of 1216 (by decide +kernel) rfl, tg_of 1217 (by decide +kernel) rfl, tg_of 12 (by decide +kernel) rfl, tg_of 1218 (by decide +kernel) rfl, by decide +kernel⟩
theorem mk_X11_markOf : mkS yX11_markOf cX11_markOf 1 (some .int) 1 := ⟨tg_of 1224 (by decide +kernel) rfl, tg_of 12 (by decide +kernel) rfl, tg_of 1225 (by decide +kernel) rfl, by decide +kernel⟩
theorem mk_X11_leaf : mkV yX11_leaf RX11 cX11_leaf 2 (some .int) 0 := ⟨tg_of 1220 (by decide +kernel) rfl, tg_of 1221 (by decide +kernel) rfl, tg_of 12 (by decide +kernel) rfl, tg_of 1222 (by decide +kernel) rfl, by decide +kernel⟩
theorem mk_X11_patch : mkV yX11_patch RX11 cX11_patch 3 (some .boolean) 2 := ⟨tg_of 1227 (by decide +kernel) rfl, tg_of 1228 (by decide +kernel) rfl, tg_of 12 (by decide +kernel) rfl, tg_of 1229 (by decide +kernel) rfl, by decide +kernel⟩
theorem mk_X11_holds : mkV yX11_holds RX11 cX11_holds 7 (some .boolean) 1 := ⟨tg_of 1240 (by decide +kernel) rfl, tgs_of 90 (by decide +kernel) rfl, tg_of 12 (by decide +kernel) rfl, tg_of 1241 (by decide +kernel) rfl, by decide +kernel⟩
theorem mk_X11_isSheet : mkV yX11_isSheet RX11 cX11_isSheet 6 (some .boolean) 3 := ⟨tg_of 1236 (by decide +kernel) rfl, tgs_of 89 (by decide +kernel) rfl, tg_of 12 (by decide +kernel) rfl, tg_of 1237 (by decide +kernel) rfl, by decide +kernel⟩
theorem mk_X11_sheet : mkV yX11_sheet RX11 cX11_sheet 4 (some .int) 3 := ⟨tg_of 1231 (by decide +kernel) rfl, tg_of 1232 (by decide +kernel) rfl, tg_of 12 (by decide +kernel) rfl, tg_of 1233 (by decide +kernel) rfl, by decide +kernel⟩
theorem mk_X11_cell : mkS yX11_cell cX11_cell 3 (some .int) 3 := ⟨tg_of 1251 (by decide +kernel) rfl, tg_of 12 (by decide +kernel) rfl, tg_of 1252 (by decide +kernel) rfl, by decide +kernel⟩
theorem mk_X11_clip : mkV yX11_clip RX11 cX11_clip 7 none 0 := ⟨tg_of 1248 (by decide +kernel) rfl, tgs_of 91 (by decide +kernel) rfl, tg_of 12 (by decide +kernel) rfl, tg_of 1249 (by decide +kernel) rfl, by decide +kernel⟩
theorem mk_X11_worth : mkV yX11_worth RX11 cX11_worth 1 (some .int) 0 := ⟨tg_of 1243 (by decide +kernel) rfl, tg_of 1244 (by decide +kernel) rfl, tg_of 12 (by decide +kernel) rfl, tg_of 1245 (by decide +kernel) rfl, by decide +kernel⟩
theorem mk_X11_sheets : mkV yX11_sheets RX11 cX11_sheets 1 (some .int) 0 := ⟨tg_of 1254 (by decide +kernel) rfl, tg_of 1255 (by decide +kernel) rfl, tg_of 12 (by decide +kernel) rfl, tg_of 1256 (by decide +kernel) rfl, by decide +kernel⟩
theorem mk_X11_clipped : mkV yX11_clipped RX11 cX11_clipped 3 (some .int) 2 := ⟨tg_of 1258 (by decide +kernel) rfl, tg_of 1259 (by decide +kernel) rfl, tg_of 12 (by decide +kernel) rfl, tg_of 1260 (by decide +kernel) rfl, by decide +kernel⟩
theorem mk_X11_veneer : mkV yX11_veneer RX11 cX11_veneer 6 (some .boolean) 5 := ⟨tg_of 1262 (by decide +kernel) rfl, tg_of 1263 (by decide +kernel) rfl, tg_of 12 (by decide +kernel) rfl, tg_of 1264 (by decide +kernel) rfl, by decide +kernel⟩
theorem mk_X11_lays : mkV yX11_lays RX11 cX11_lays 5 (some .boolean) 2 := ⟨tg_of 1271 (by decide +kernel) rfl, tgs_of 92 (by decide +kernel) rfl, tg_of 12 (by decide +kernel) rfl, tg_of 1272 (by decide +kernel) rfl, by decide +kernel⟩
theorem mk_X11_sum : mkV yX11_sum RX11 cX11_sum 5 (some .int) 2 := ⟨tg_of 1275 (by decide +kernel) rfl, tgs_of 93 (by decide +kernel) rfl, tg_of 12 (by decide +kernel) rfl, tg_of 1276 (by decide +kernel) rfl, by decide +kernel⟩
theorem mk_X11_board : mkV yX11_board RX11 cX11_board 4 (some .int) 3 := ⟨tg_of 1266 (by decide +kernel) rfl, tg_of 1267 (by decide +kernel) rfl, tg_of 12 (by decide +kernel) rfl, tg_of 1268 (by decide +kernel) rfl, by decide +kernel⟩
theorem mk_X11_warp : mkV yX11_warp RX11 cX11_warp 7 (some .int) 2 := ⟨tg_of 1278 (by decide +kernel) rfl, tg_of 1279 (by decide +kernel) rfl, tg_of 12 (by decide +kernel) rfl, tg_of 1280 (by decide +kernel) rfl, by decide +kernel⟩
theorem mk_X11_best : mkV yX11_best RX11 cX11_best 12 (some .int) 3 := ⟨tg_of 1283 (by decide +kernel) rfl, tg_of 1284 (by decide +kernel) rfl, tg_of 12 (by decide +kernel) rfl, tg_of 1285 (by decide +kernel) rfl, by decide +kernel⟩
theorem mk_X11_press : mkV yX11_press RX11 cX11_press 5 (some .boolean) 4 := ⟨tg_of 1287 (by decide +kernel) rfl, tg_of 1288 (by decide +kernel) rfl, tg_of 12 (by decide +kernel) rfl, tg_of 1289 (by decide +kernel) rfl, by decide +kernel⟩
theorem mk_X11_glue : mkV yX11_glue RX11 cX11_glue 3 (some .int) 2 := ⟨tg_of 1291 (by decide +kernel) rfl, tg_of 1292 (by decide +kernel) rfl, tg_of 12 (by decide +kernel) rfl, tg_of 1293 (by decide +kernel) rfl, by decide +kernel⟩
theorem mk_X11_drop : mkV yX11_drop RX11 cX11_drop 1 (some .boolean) 0 := ⟨tg_of 1295 (by decide +kernel) rfl, tg_of 1296 (by decide +kernel) rfl, tg_of 12 (by decide +kernel) rfl, tg_of 1297 (by decide +kernel) rfl, by decide +kernel⟩
theorem mk_X11_many : mkS yX11_many cX11_many 3 (some .int) 1 := ⟨tg_of 1316 (by decide +kernel) rfl, tg_of 12 (by decide +kernel) rfl, tg_of 1317 (by decide +kernel) rfl, by decide +kernel⟩
theorem mk_X11_putIn : mkV yX11_putIn RX11 cX11_putIn 8 (some .int) 2 := ⟨tg_of 1313 (by decide +kernel) rfl, tgs_of 96 (by decide +kernel) rfl, tg_of 12 (by decide +kernel) rfl, tg_of 1314 (by decide +kernel) rfl, by decide +kernel⟩
theorem mk_X11_lasts : mkV yX11_lasts RX11 cX11_lasts 3 (some .int) 1 := ⟨tg_of 1320 (by decide +kernel) rfl, tgs_of 97 (by decide +kernel) rfl, tg_of 12 (by decide +kernel) rfl, tg_of 1321 (by decide +kernel) rfl, by decide +kernel⟩
theorem mk_X11_outBy : mkV yX11_outBy RX11 cX11_outBy 5 (some .int) 2 := ⟨tg_of 1309 (by decide +kernel) rfl, tgs_of 95 (by decide +kernel) rfl, tg_of 12 (by decide +kernel) rfl, tg_of 1310 (by decide +kernel) rfl, by decide +kernel⟩
theorem mk_X11_seek : mkV yX11_seek RX11 cX11_seek 4 none 0 := ⟨tg_of 1304 (by decide +kernel) rfl, tgs_of 94 (by decide +kernel) rfl, tg_of 12 (by decide +kernel) rfl, tg_of 1305 (by decide +kernel) rfl, by decide +kernel⟩
theorem mk_X11_plan : mkV yX11_plan RX11 cX11_plan 2 (some .int) 1 := ⟨tg_of 1299 (by decide +kernel) rfl, tg_of 1300 (by decide +kernel) rfl, tg_of 12 (by decide +kernel) rfl, tg_of 1301 (by decide +kernel) rfl, by decide +kernel⟩
theorem mk_X11_load : mkV yX11_load RX11 cX11_load 3 (some .int) 2 := ⟨tg_of 1323 (by decide +kernel) rfl, tg_of 1324 (by decide +kernel) rfl, tg_of 12 (by decide +kernel) rfl, tg_of 1325 (by decide +kernel) rfl, by decide +kernel⟩
theorem mk_X11_about : mkV yX11_about RX11 cX11_about 2 (some .int) 1 := ⟨tg_of 1327 (by decide +kernel) rfl, tg_of 1328 (by decide +kernel) rfl, tg_of 12 (by decide +kernel) rfl, tg_of 1329 (by decide +kernel) rfl, by decide +kernel⟩
theorem mk_J6_bitCount_0f7a4 : mkS yJ6_bitCount_0f7a4 cJ6_bitCount_0f7a4 1 (some .int) 1 := ⟨tg_of 853 (by decide +kernel) rfl, tg_of 18 (by decide +kernel) rfl, tg_of 854 (by decide +kernel) rfl, by decide +kernel⟩
theorem lk_X10_74 : lkM RX10 74 yX4_putRow := Or.inr ⟨"PlyHouse", nw_of 389 (by decide +kernel) rfl⟩
theorem lk_X10_78 : lkM RX10 78 yX4_findCentre := Or.inr ⟨"PlyHouse", nw_of 401 (by decide +kernel) rfl⟩
theorem lk_X10_90 : lkM RX10 90 yX10_within := Or.inl (tg_of 421 (by decide +kernel) rfl)
theorem lk_X10_94 : lkM RX10 94 yX4_peeled := Or.inr ⟨"PlyHouse", nw_of 422 (by decide +kernel) rfl⟩
theorem lk_X10_98 : lkM RX10 98 yX7_hasRoomForFeed := Or.inr ⟨"PlyHouse", nw_of 430 (by decide +kernel) rfl⟩
theorem lk_X10_102 : lkM RX10 102 yX7_append := Or.inr ⟨"PlyHouse", nw_of 434 (by decide +kernel) rfl⟩
theorem lk_X10_109 : lkM RX10 109 yX7_keep := Or.inr ⟨"PlyHouse", nw_of 442 (by decide +kernel) rfl⟩
theorem lk_X10_113 : lkM RX10 113 yX1_readLines := Or.inr ⟨"PlyHouse", nw_of 450 (by decide +kernel) rfl⟩
theorem lk_X10_120 : lkM RX10 120 yX1_placeReached := Or.inr ⟨"PlyHouse", nw_of 608 (by decide +kernel) rfl⟩
theorem lk_X10_127 : lkM RX10 127 yX2_copyFrom := Or.inr ⟨"PlyHouse", nw_of 612 (by decide +kernel) rfl⟩
theorem lk_X10_131 : lkM RX10 131 yX0_forget := Or.inr ⟨"PlyHouse", nw_of 616 (by decide +kernel) rfl⟩
theorem lk_X10_137 : lkM RX10 137 yX3_firstFault := Or.inr ⟨"PlyHouse", nw_of 629 (by decide +kernel) rfl⟩
theorem lk_X10_141 : lkM RX10 141 yX3_take := Or.inr ⟨"PlyHouse", nw_of 636 (by decide +kernel) rfl⟩
theorem lk_X10_148 : lkM RX10 148 yX0_setPatching := Or.inr ⟨"PlyHouse", nw_of 647 (by decide +kernel) rfl⟩
theorem lk_X10_152 : lkM RX10 152 yX2_widthOf := Or.inr ⟨"PlyHouse", nw_of 655 (by decide +kernel) rfl⟩
theorem lk_X10_156 : lkM RX10 156 yX0_isSheet := Or.inr ⟨"PlyHouse", nw_of 659 (by decide +kernel) rfl⟩
theorem lk_X10_159 : lkM RX10 159 yX0_find := Or.inr ⟨"PlyHouse", nw_of 717 (by decide +kernel) rfl⟩
theorem lk_X10_162 : lkM RX10 162 yX0_totalWorth := Or.inr ⟨"PlyHouse", nw_of 738 (by decide +kernel) rfl⟩
theorem lk_X10_168 : lkM RX10 168 yX0_tell := Or.inr ⟨"PlyHouse", nw_of 750 (by decide +kernel) rfl⟩
theorem lk_X10_171 : Cond.methodLink RX10 171 Lib.Math.min.name ∈ TG := tg_of 758 (by decide +kernel) rfl
theorem lk_X10_176 : lkM RX10 176 yX9_set := Or.inr ⟨"PlyHouse", nw_of 759 (by decide +kernel) rfl⟩
theorem lk_X10_180 : lkM RX10 180 yX9_canBe := Or.inr ⟨"PlyHouse", nw_of 767 (by decide +kernel) rfl⟩
theorem lk_X10_183 : lkM RX10 183 yX9_thinOf := Or.inr ⟨"PlyHouse", nw_of 774 (by decide +kernel) rfl⟩
theorem lk_X10_186 : lkM RX10 186 yX9_thickOf := Or.inr ⟨"PlyHouse", nw_of 784 (by decide +kernel) rfl⟩
theorem lk_X10_189 : lkM RX10 189 yX9_priceOf := Or.inr ⟨"PlyHouse", nw_of 788 (by decide +kernel) rfl⟩
theorem lk_X10_192 : lkM RX10 192 yX9_warpOf := Or.inr ⟨"PlyHouse", nw_of 796 (by decide +kernel) rfl⟩
theorem lk_X10_196 : lkM RX10 196 yX9_cheapest := Or.inr ⟨"PlyHouse", nw_of 805 (by decide +kernel) rfl⟩
theorem lk_X10_200 : lkM RX10 200 yX6_set := Or.inr ⟨"PlyHouse", nw_of 818 (by decide +kernel) rfl⟩
theorem lk_X10_203 : lkM RX10 203 yX6_addBoard := Or.inr ⟨"PlyHouse", nw_of 826 (by decide +kernel) rfl⟩
theorem lk_X10_206 : lkM RX10 206 yX6_removeBoard := Or.inr ⟨"PlyHouse", nw_of 834 (by decide +kernel) rfl⟩
theorem lk_X10_209 : lkM RX10 209 yX6_find := Or.inr ⟨"PlyHouse", nw_of 842 (by decide +kernel) rfl⟩
theorem lk_X10_213 : lkM RX10 213 yJ6_bitCount_0f7a4 := Or.inl (tg_of 886 (by decide +kernel) rfl)
theorem lk_X10_218 : lkM RX10 218 yX6_outOf := Or.inr ⟨"PlyHouse", nw_of 887 (by decide +kernel) rfl⟩
theorem lk_X10_224 : lkM RX10 224 yX6_tell := Or.inr ⟨"PlyHouse", nw_of 892 (by decide +kernel) rfl⟩
theorem lk_X0_60 : lkM RX0 60 yX5_beginAt := Or.inr ⟨"PlyHouse", nw_of 663 (by decide +kernel) rfl⟩
theorem lk_X0_64 : lkM RX0 64 yX2_widthOf := Or.inr ⟨"PlyHouse", nw_of 672 (by decide +kernel) rfl⟩
theorem lk_X0_70 : lkM RX0 70 yX5_endBefore := Or.inr ⟨"PlyHouse", nw_of 673 (by decide +kernel) rfl⟩
theorem lk_X0_73 : lkM RX0 73 yX0_partIsSheet := Or.inl (tg_of 680 (by decide +kernel) rfl)
theorem lk_X0_83 : lkM RX0 83 yX2_holds := Or.inr ⟨"PlyHouse", nw_of 684 (by decide +kernel) rfl⟩
theorem lk_X0_90 : Cond.methodLink RX0 90 Lib.Math.min.name ∈ TG := tg_of 721 (by decide +kernel) rfl
theorem lk_X0_99 : lkM RX0 99 yX0_trySheets := Or.inl (tg_of 722 (by decide +kernel) rfl)
theorem lk_X0_103 : lkM RX0 103 yX0_listSheets := Or.inl (tg_of 734 (by decide +kernel) rfl)
theorem lk_X0_106 : lkM RX0 106 yX2_worthOf := Or.inr ⟨"PlyHouse", nw_of 726 (by decide +kernel) rfl⟩
theorem lk_X0_109 : lkM RX0 109 yX0_isBetter := Or.inl (tg_of 730 (by decide +kernel) rfl)
theorem lk_X1_29 : lkM RX1 29 yX8_split := Or.inr ⟨"PlyHouse", nw_of 454 (by decide +kernel) rfl⟩
theorem lk_X1_33 : lkM RX1 33 yX2_clear := Or.inr ⟨"PlyHouse", nw_of 559 (by decide +kernel) rfl⟩
theorem lk_X1_42 : lkM RX1 42 yX1_advance := Or.inl (tg_of 563 (by decide +kernel) rfl)
theorem lk_X1_48 : lkM RX1 48 yX1_readLine := Or.inl (tg_of 567 (by decide +kernel) rfl)
theorem lk_X1_52 : lkM RX1 52 yX1_refuse := Or.inl (tg_of 575 (by decide +kernel) rfl)
theorem lk_X1_55 : lkM RX1 55 yX1_readToken := Or.inl (tg_of 571 (by decide +kernel) rfl)
theorem lk_X1_59 : lkM RX1 59 yX1_readNumber := Or.inl (tg_of 579 (by decide +kernel) rfl)
theorem lk_X1_63 : lkM RX1 63 yX1_readEither := Or.inl (tg_of 584 (by decide +kernel) rfl)
theorem lk_X1_66 : lkM RX1 66 yX2_addLine := Or.inr ⟨"PlyHouse", nw_of 604 (by decide +kernel) rfl⟩
theorem lk_X1_70 : lkM RX1 70 yX1_readBoth := Or.inl (tg_of 588 (by decide +kernel) rfl)
theorem lk_X1_73 : lkM RX1 73 yX2_emit := Or.inr ⟨"PlyHouse", nw_of 596 (by decide +kernel) rfl⟩
theorem lk_X1_77 : lkM RX1 77 yX1_readOne := Or.inl (tg_of 592 (by decide +kernel) rfl)
theorem lk_X1_80 : lkM RX1 80 yX1_readSum := Or.inl (tg_of 600 (by decide +kernel) rfl)
theorem lk_X1_83 : lkM RX1 83 yX10_within := Or.inr ⟨"PlyHouse", nw_of 583 (by decide +kernel) rfl⟩
theorem lk_X2_39 : lkM RX2 39 yX2_codeEndOf := Or.inl (tg_of 688 (by decide +kernel) rfl)
theorem lk_X2_43 : Cond.methodLink RX2 43 Lib.Math.min.name ∈ TG := tg_of 692 (by decide +kernel) rfl
theorem lk_X2_49 : Cond.methodLink RX2 49 Lib.Math.max.name ∈ TG := tg_of 693 (by decide +kernel) rfl
theorem lk_X2_52 : lkM RX2 52 yX2_doStep := Or.inl (tg_of 694 (by decide +kernel) rfl)
theorem lk_X2_56 : lkM RX2 56 yX2_pop := Or.inl (tg_of 706 (by decide +kernel) rfl)
theorem lk_X2_60 : lkM RX2 60 yX2_push := Or.inl (tg_of 698 (by decide +kernel) rfl)
theorem lk_X2_64 : lkM RX2 64 yX5_countOf := Or.inr ⟨"PlyHouse", nw_of 702 (by decide +kernel) rfl⟩
theorem lk_X2_69 : lkM RX2 69 yX2_joined := Or.inl (tg_of 710 (by decide +kernel) rfl)
theorem lk_X3_36 : lkM RX3 36 yX7_byteAt := Or.inr ⟨"PlyHouse", nw_of 632 (by decide +kernel) rfl⟩
theorem lk_X3_40 : lkM RX3 40 yX3_isMark := Or.inl (tg_of 633 (by decide +kernel) rfl)
theorem lk_X3_44 : Cond.methodLink RX3 44 Lib.Math.min.name ∈ TG := tg_of 640 (by decide +kernel) rfl
theorem lk_X3_50 : Cond.methodLink RX3 50 Lib.Math.max.name ∈ TG := tg_of 671 (by decide +kernel) rfl
theorem lk_X4_24 : lkM RX4 24 yX10_within := Or.inr ⟨"PlyHouse", nw_of 394 (by decide +kernel) rfl⟩
theorem lk_X4_28 : lkM RX4 28 yX4_growAt := Or.inl (tg_of 405 (by decide +kernel) rfl)
theorem lk_X4_32 : lkM RX4 32 yX4_discFits := Or.inl (tg_of 409 (by decide +kernel) rfl)
theorem lk_X4_41 : lkM RX4 41 yX4_hasCells := Or.inl (tg_of 413 (by decide +kernel) rfl)
theorem lk_X5_25 : lkM RX5 25 yX3_listRuns := Or.inr ⟨"PlyHouse", nw_of 667 (by decide +kernel) rfl⟩
theorem lk_X5_34 : lkM RX5 34 yX3_between := Or.inr ⟨"PlyHouse", nw_of 677 (by decide +kernel) rfl⟩
theorem lk_X6_62 : Cond.methodLink RX6 62 Lib.Math.min.name ∈ TG := tg_of 846 (by decide +kernel) rfl
theorem lk_X6_68 : lkM RX6 68 yX6_describeSetsUpTo := Or.inl (tg_of 847 (by decide +kernel) rfl)
theorem lk_X6_72 : lkM RX6 72 yX6_findEnding := Or.inl (tg_of 858 (by decide +kernel) rfl)
theorem lk_X6_76 : lkM RX6 76 yX6_choose := Or.inl (tg_of 866 (by decide +kernel) rfl)
theorem lk_X6_79 : lkM RX6 79 yX6_listLoads := Or.inl (tg_of 874 (by decide +kernel) rfl)
theorem lk_X6_82 : Cond.methodLink RX6 82 Lib.Math.max.name ∈ TG := tg_of 851 (by decide +kernel) rfl
theorem lk_X6_85 : lkM RX6 85 yJ6_bitCount_0f7a4 := Or.inl (tg_of 852 (by decide +kernel) rfl)
theorem lk_X6_90 : lkM RX6 90 yX6_outWith := Or.inl (tg_of 862 (by decide +kernel) rfl)
theorem lk_X6_93 : lkM RX6 93 yX6_outOf := Or.inl (tg_of 870 (by decide +kernel) rfl)
theorem lk_X6_96 : lkM RX6 96 yX6_lastLoadOf := Or.inl (tg_of 878 (by decide +kernel) rfl)
theorem lk_X6_99 : lkM RX6 99 yX6_writeLoad := Or.inl (tg_of 882 (by decide +kernel) rfl)
theorem lk_X8_27 : lkM RX8 27 yX8_endAt := Or.inl (tg_of 458 (by decide +kernel) rfl)
theorem lk_X8_31 : Cond.methodLink RX8 31 Lib.Math.max.name ∈ TG := tg_of 472 (by decide +kernel) rfl
theorem lk_X8_37 : lkM RX8 37 yX7_byteAt := Or.inr ⟨"PlyHouse", nw_of 461 (by decide +kernel) rfl⟩
theorem lk_X8_41 : lkM RX8 41 yX8_isBlank := Or.inl (tg_of 475 (by decide +kernel) rfl)
theorem lk_X8_45 : lkM RX8 45 yX8_kindAt := Or.inl (tg_of 478 (by decide +kernel) rfl)
theorem lk_X8_49 : lkM RX8 49 yX8_add := Or.inl (tg_of 555 (by decide +kernel) rfl)
theorem lk_X8_53 : lkM RX8 53 yX8_isDigit := Or.inl (tg_of 465 (by decide +kernel) rfl)
theorem lk_X8_56 : lkM RX8 56 yX8_isLetter := Or.inl (tg_of 469 (by decide +kernel) rfl)
theorem lk_X8_59 : lkM RX8 59 yX8_numberAt := Or.inl (tg_of 481 (by decide +kernel) rfl)
theorem lk_X8_62 : lkM RX8 62 yX8_wordAt := Or.inl (tg_of 484 (by decide +kernel) rfl)
theorem lk_X8_65 : lkM RX8 65 yX8_signOf := Or.inl (tg_of 552 (by decide +kernel) rfl)
theorem lk_X8_70 : lkM RX8 70 yX8_isWord := Or.inl (tg_of 488 (by decide +kernel) rfl)
theorem lk_X8_84 : lkM RX8 84 yX8_termAt := Or.inl (tg_of 544 (by decide +kernel) rfl)
theorem lk_X8_106 : lkM RX8 106 yX10_within := Or.inr ⟨"PlyHouse", nw_of 468 (by decide +kernel) rfl⟩
theorem lk_X9_25 : lkM RX9 25 yX10_within := Or.inr ⟨"PlyHouse", nw_of 770 (by decide +kernel) rfl⟩
theorem lk_X9_29 : lkM RX9 29 yX9_kindAt := Or.inl (tg_of 771 (by decide +kernel) rfl)
theorem lk_X9_33 : lkM RX9 33 yX9_ofKind := Or.inl (tg_of 781 (by decide +kernel) rfl)
theorem lk_X9_37 : lkM RX9 37 yX9_sumOf := Or.inl (tg_of 778 (by decide +kernel) rfl)
theorem lk_X9_60 : lkM RX9 60 yX9_lay := Or.inl (tg_of 810 (by decide +kernel) rfl)
theorem lk_L_13 : lkM RL 13 yX10_net := Or.inl (tg_of 385 (by decide +kernel) rfl)
theorem lk_L_17 : lkM RL 17 yX11_net := Or.inl (tg_of 1090 (by decide +kernel) rfl)
theorem lk_L_18 : lkM RL 18 yX10_centre := Or.inl (tg_of 397 (by decide +kernel) rfl)
theorem lk_L_22 : lkM RL 22 yX11_centre := Or.inl (tg_of 1095 (by decide +kernel) rfl)
theorem lk_L_23 : lkM RL 23 yX10_full := Or.inl (tg_of 417 (by decide +kernel) rfl)
theorem lk_L_27 : lkM RL 27 yX11_full := Or.inl (tg_of 1111 (by decide +kernel) rfl)
theorem lk_L_28 : lkM RL 28 yX10_feed := Or.inl (tg_of 426 (by decide +kernel) rfl)
theorem lk_L_32 : lkM RL 32 yX11_feed := Or.inl (tg_of 1115 (by decide +kernel) rfl)
theorem lk_L_33 : lkM RL 33 yX10_end := Or.inl (tg_of 438 (by decide +kernel) rfl)
theorem lk_L_36 : lkM RL 36 yX11_end := Or.inl (tg_of 1123 (by decide +kernel) rfl)
theorem lk_L_37 : lkM RL 37 yX10_grades := Or.inl (tg_of 446 (by decide +kernel) rfl)
theorem lk_L_41 : lkM RL 41 yX11_grades := Or.inl (tg_of 1127 (by decide +kernel) rfl)
theorem lk_L_42 : lkM RL 42 yX10_fault := Or.inl (tg_of 621 (by decide +kernel) rfl)
theorem lk_L_45 : lkM RL 45 yX11_fault := Or.inl (tg_of 1215 (by decide +kernel) rfl)
theorem lk_L_46 : lkM RL 46 yX10_leaf := Or.inl (tg_of 625 (by decide +kernel) rfl)
theorem lk_L_49 : lkM RL 49 yX11_leaf := Or.inl (tg_of 1219 (by decide +kernel) rfl)
theorem lk_L_50 : lkM RL 50 yX10_patch := Or.inl (tg_of 643 (by decide +kernel) rfl)
theorem lk_L_53 : lkM RL 53 yX11_patch := Or.inl (tg_of 1226 (by decide +kernel) rfl)
theorem lk_L_54 : lkM RL 54 yX10_sheet := Or.inl (tg_of 651 (by decide +kernel) rfl)
theorem lk_L_58 : lkM RL 58 yX11_sheet := Or.inl (tg_of 1230 (by decide +kernel) rfl)
theorem lk_L_59 : lkM RL 59 yX10_worth := Or.inl (tg_of 713 (by decide +kernel) rfl)
theorem lk_L_62 : lkM RL 62 yX11_worth := Or.inl (tg_of 1242 (by decide +kernel) rfl)
theorem lk_L_63 : lkM RL 63 yX10_sheets := Or.inl (tg_of 742 (by decide +kernel) rfl)
theorem lk_L_66 : lkM RL 66 yX11_sheets := Or.inl (tg_of 1253 (by decide +kernel) rfl)
theorem lk_L_67 : lkM RL 67 yX10_clipped := Or.inl (tg_of 746 (by decide +kernel) rfl)
theorem lk_L_70 : lkM RL 70 yX11_clipped := Or.inl (tg_of 1257 (by decide +kernel) rfl)
theorem lk_L_71 : lkM RL 71 yX10_veneer := Or.inl (tg_of 754 (by decide +kernel) rfl)
theorem lk_L_75 : lkM RL 75 yX11_veneer := Or.inl (tg_of 1261 (by decide +kernel) rfl)
theorem lk_L_76 : lkM RL 76 yX10_board := Or.inl (tg_of 763 (by decide +kernel) rfl)
theorem lk_L_79 : lkM RL 79 yX11_board := Or.inl (tg_of 1265 (by decide +kernel) rfl)
theorem lk_L_80 : lkM RL 80 yX10_warp := Or.inl (tg_of 792 (by decide +kernel) rfl)
theorem lk_L_83 : lkM RL 83 yX11_warp := Or.inl (tg_of 1277 (by decide +kernel) rfl)
theorem lk_L_84 : lkM RL 84 yX10_best := Or.inl (tg_of 801 (by decide +kernel) rfl)
theorem lk_L_87 : lkM RL 87 yX11_best := Or.inl (tg_of 1282 (by decide +kernel) rfl)
theorem lk_L_88 : lkM RL 88 yX10_press := Or.inl (tg_of 814 (by decide +kernel) rfl)
theorem lk_L_92 : lkM RL 92 yX11_press := Or.inl (tg_of 1286 (by decide +kernel) rfl)
theorem lk_L_93 : lkM RL 93 yX10_glue := Or.inl (tg_of 822 (by decide +kernel) rfl)
theorem lk_L_96 : lkM RL 96 yX11_glue := Or.inl (tg_of 1290 (by decide +kernel) rfl)
theorem lk_L_97 : lkM RL 97 yX10_drop := Or.inl (tg_of 830 (by decide +kernel) rfl)
theorem lk_L_101 : lkM RL 101 yX11_drop := Or.inl (tg_of 1294 (by decide +kernel) rfl)
theorem lk_L_102 : lkM RL 102 yX10_plan := Or.inl (tg_of 838 (by decide +kernel) rfl)
theorem lk_L_105 : lkM RL 105 yX11_plan := Or.inl (tg_of 1298 (by decide +kernel) rfl)
theorem lk_L_106 : lkM RL 106 yX10_load := Or.inl (tg_of 888 (by decide +kernel) rfl)
theorem lk_L_109 : lkM RL 109 yX11_load := Or.inl (tg_of 1322 (by decide +kernel) rfl)
theorem lk_L_110 : lkM RL 110 yX10_about := Or.inl (tg_of 896 (by decide +kernel) rfl)
theorem lk_L_113 : lkM RL 113 yX11_about := Or.inl (tg_of 1326 (by decide +kernel) rfl)
theorem lk_X11_127 : lkM RX11 127 yX11_isIn := Or.inl (tg_of 1107 (by decide +kernel) rfl)
theorem lk_X11_134 : lkM RX11 134 yX11_fits := Or.inl (tg_of 1103 (by decide +kernel) rfl)
theorem lk_X11_144 : lkM RX11 144 yX11_seekCentre := Or.inl (tg_of 1099 (by decide +kernel) rfl)
theorem lk_X11_150 : lkM RX11 150 yX11_four := Or.inl (tg_of 1119 (by decide +kernel) rfl)
theorem lk_X11_160 : lkM RX11 160 yX11_here := Or.inl (tg_of 1139 (by decide +kernel) rfl)
theorem lk_X11_177 : lkM RX11 177 yX11_isLetter := Or.inl (tg_of 1143 (by decide +kernel) rfl)
theorem lk_X11_181 : lkM RX11 181 yX11_isDigit := Or.inl (tg_of 1146 (by decide +kernel) rfl)
theorem lk_X11_184 : lkM RX11 184 yX11_isSign := Or.inl (tg_of 1149 (by decide +kernel) rfl)
theorem lk_X11_203 : lkM RX11 203 yX11_wrong := Or.inl (tg_of 1157 (by decide +kernel) rfl)
theorem lk_X11_206 : lkM RX11 206 yX11_next := Or.inl (tg_of 1135 (by decide +kernel) rfl)
theorem lk_X11_215 : lkM RX11 215 yX11_step := Or.inl (tg_of 1187 (by decide +kernel) rfl)
theorem lk_X11_219 : lkM RX11 219 yX11_pop := Or.inl (tg_of 1183 (by decide +kernel) rfl)
theorem lk_X11_222 : lkM RX11 222 yX11_isOpen := Or.inl (tg_of 1171 (by decide +kernel) rfl)
theorem lk_X11_226 : lkM RX11 226 yX11_sign := Or.inl (tg_of 1175 (by decide +kernel) rfl)
theorem lk_X11_229 : lkM RX11 229 yX11_operand := Or.inl (tg_of 1201 (by decide +kernel) rfl)
theorem lk_X11_232 : lkM RX11 232 yX11_settle := Or.inl (tg_of 1179 (by decide +kernel) rfl)
theorem lk_X11_235 : lkM RX11 235 yX11_named := Or.inl (tg_of 1205 (by decide +kernel) rfl)
theorem lk_X11_241 : lkM RX11 241 yX11_isWord := Or.inl (tg_of 1153 (by decide +kernel) rfl)
theorem lk_X11_248 : lkM RX11 248 yX11_hold := Or.inl (tg_of 1191 (by decide +kernel) rfl)
theorem lk_X11_255 : lkM RX11 255 yX11_settleOnes := Or.inl (tg_of 1197 (by decide +kernel) rfl)
theorem lk_X11_259 : lkM RX11 259 yX11_begin := Or.inl (tg_of 1131 (by decide +kernel) rfl)
theorem lk_X11_267 : lkM RX11 267 yX11_told := Or.inl (tg_of 1161 (by decide +kernel) rfl)
theorem lk_X11_275 : lkM RX11 275 yX11_readE := Or.inl (tg_of 1167 (by decide +kernel) rfl)
theorem lk_X11_281 : lkM RX11 281 yX11_markOf := Or.inl (tg_of 1223 (by decide +kernel) rfl)
theorem lk_X11_290 : lkM RX11 290 yX11_holds := Or.inl (tg_of 1238 (by decide +kernel) rfl)
theorem lk_X11_293 : lkM RX11 293 yX11_isSheet := Or.inl (tg_of 1234 (by decide +kernel) rfl)
theorem lk_X11_296 : lkM RX11 296 yX11_cell := Or.inl (tg_of 1250 (by decide +kernel) rfl)
theorem lk_X11_303 : lkM RX11 303 yX11_clip := Or.inl (tg_of 1246 (by decide +kernel) rfl)
theorem lk_X11_306 : lkM RX11 306 yX11_lays := Or.inl (tg_of 1269 (by decide +kernel) rfl)
theorem lk_X11_309 : lkM RX11 309 yX11_sum := Or.inl (tg_of 1273 (by decide +kernel) rfl)
theorem lk_X11_317 : lkM RX11 317 yX11_many := Or.inl (tg_of 1315 (by decide +kernel) rfl)
theorem lk_X11_320 : lkM RX11 320 yX11_putIn := Or.inl (tg_of 1311 (by decide +kernel) rfl)
theorem lk_X11_323 : lkM RX11 323 yX11_lasts := Or.inl (tg_of 1318 (by decide +kernel) rfl)
theorem lk_X11_329 : lkM RX11 329 yX11_outBy := Or.inl (tg_of 1307 (by decide +kernel) rfl)
theorem lk_X11_335 : lkM RX11 335 yX11_seek := Or.inl (tg_of 1302 (by decide +kernel) rfl)
theorem km_max_s : Cond.static Lib.Math.max.name ∈ TG := tg_of 473 (by decide +kernel) rfl
theorem km_max_c : Cond.code Lib.Math.max.name Lib.Math.max.code 2 (some .int) ∈ TG := tg_of 474 (by decide +kernel) rfl
theorem km_min_s : Cond.static Lib.Math.min.name ∈ TG := tg_of 641 (by decide +kernel) rfl
theorem km_min_c : Cond.code Lib.Math.min.name Lib.Math.min.code 2 (some .int) ∈ TG := tg_of 642 (by decide +kernel) rfl
theorem km_i : Cond.initialized "java/lang/Math" ∈ TG := tg_of 13 (by decide +kernel) rfl
theorem kc_X4_23 : Cond.constant RX4 23 (16777215) ∈ TG := tg_of 393 (by decide +kernel) rfl
theorem kc_X10_195 : Cond.constant RX10 195 (-2000000) ∈ TG := tg_of 800 (by decide +kernel) rfl
theorem kc_X9_53 : Cond.constant RX9 53 (2147483647) ∈ TG := tg_of 809 (by decide +kernel) rfl
theorem kc_J6_265 : Cond.constant RJ6 265 (1431655765) ∈ TG := tg_of 855 (by decide +kernel) rfl
theorem kc_J6_266 : Cond.constant RJ6 266 (858993459) ∈ TG := tg_of 856 (by decide +kernel) rfl
theorem kc_J6_267 : Cond.constant RJ6 267 (252645135) ∈ TG := tg_of 857 (by decide +kernel) rfl
theorem kc_X11_126 : Cond.constant RX11 126 (16777216) ∈ TG := tg_of 1094 (by decide +kernel) rfl
theorem kc_X11_312 : Cond.constant RX11 312 (-2000000) ∈ TG := tg_of 1281 (by decide +kernel) rfl
theorem kc_X11_316 : Cond.constant RX11 316 (1000000000) ∈ TG := tg_of 1306 (by decide +kernel) rfl
theorem kc_X11_265 : Cond.constantLong RX11 265 (444300616805) ∈ TG := tg_of 1152 (by decide +kernel) rfl
theorem kc_X11_271 : Cond.constantLong RX11 271 (512970880104) ∈ TG := tg_of 1165 (by decide +kernel) rfl
theorem kc_X11_273 : Cond.constantLong RX11 273 (2003330414) ∈ TG := tg_of 1166 (by decide +kernel) rfl
theorem kc_X11_251 : Cond.constantLong RX11 251 (6385252) ∈ TG := tg_of 1195 (by decide +kernel) rfl
theorem kc_X11_253 : Cond.constantLong RX11 253 (28530) ∈ TG := tg_of 1196 (by decide +kernel) rfl
theorem kc_X11_190 : Cond.constantLong RX11 190 (461414298739) ∈ TG := tg_of 1209 (by decide +kernel) rfl
theorem kc_X11_192 : Cond.constantLong RX11 192 (126926692381811) ∈ TG := tg_of 1210 (by decide +kernel) rfl
theorem kc_X11_194 : Cond.constantLong RX11 194 (448545973619) ∈ TG := tg_of 1211 (by decide +kernel) rfl
theorem kc_X11_196 : Cond.constantLong RX11 196 (482855970675) ∈ TG := tg_of 1212 (by decide +kernel) rfl
theorem kc_X11_198 : Cond.constantLong RX11 198 (7501166) ∈ TG := tg_of 1213 (by decide +kernel) rfl
theorem kc_X11_239 : Cond.constantLong RX11 239 (7237492) ∈ TG := tg_of 1214 (by decide +kernel) rfl
def bindS (S : ST) (k : ST → Option (Int32 × ST)) : Option (Int32 × ST) := k S
def bindI (x : Int32) (k : Int32 → Option (Int32 × ST)) : Option (Int32 × ST) := k x
theorem r_bindS {E : CT} {S : ST} {k : ST → Option (Int32 × ST)} {pc : Nat} {lv : List (Nat × Value)} {st : List Value} (h : ∀ S1, G E (k S1) S1 pc lv st) : G E (bindS S k) S pc lv st := h S
theorem r_bindI {E : CT} {S : ST} {x : Int32} {k : Int32 → Option (Int32 × ST)} {pc : Nat} {lv : List (Nat × Value)} {st : List Value} (h : ∀ y, G E (k y) S pc lv (.int y :: st)) : G E (bindI x k) S pc lv (.int x :: st) := h x
theorem ul_drop : (layM.drop 1).all (fun x => x.isRight) = true := by decide
theorem ul_set (ad : Nat → Nat) (S : ST) (v : Int64) (fl : List (Nat × Nat)) (h : layM[0]? = some (.inl (11, fl))) (hj : fl[13]? = some (2, 0)) (hc : (fl.mapIdx (fun i f => decide (i = 13) || decide (f.1 < 2))).all id = true) (cI cZ : ClassId) : (sW layM ad cI cZ S).set 0 (ad 0, .inr (11, (fl.mapIdx (sF ad S 0)).set 13 (.long v))) = sW layM ad cI cZ (ul S v) := by
  apply List.ext_getElem?
  intro i
  by_cases hi : i = 0
  · subst hi
    rw [List.getElem?_set_self (by rw [sW_len]; decide), sW_at h]
    simp only [sE]
    congr 3
    apply List.ext_getElem?
    intro q
    have hl := (List.getElem?_eq_some_iff.mp hj).1
    by_cases hq : q = 13
    · subst hq
      rw [List.getElem?_set_self (by simpa using hl), List.getElem?_mapIdx, hj]
      rfl
    · rw [List.getElem?_set_ne (Ne.symm hq), List.getElem?_mapIdx, List.getElem?_mapIdx]
      cases hf : fl[q]? with
      | none => rfl
      | some f =>
        have h3 : (fl.mapIdx (fun i f => decide (i = 13) || decide (f.1 < 2)))[q]? = some (decide (q = 13) || decide (f.1 < 2)) := by rw [List.getElem?_mapIdx, hf]; rfl
        have h4 := List.all_eq_true.mp hc _ (List.mem_of_getElem? h3)
        simp only [id, hq, decide_false, Bool.false_or, decide_eq_true_eq] at h4
        have h5 : f.1 = 0 ∨ f.1 = 1 := by omega
        rcases h5 with h5 | h5 <;> simp [sF, h5, ul]
  · rw [List.getElem?_set_ne (Ne.symm hi)]
    cases hx : layM[i]? with
    | none => simp [sW, List.getElem?_mapIdx, hx]
    | some z =>
      rw [sW_at hx, sW_at hx]
      obtain ⟨i, rfl⟩ := Nat.exists_eq_succ_of_ne_zero hi
      have h6 : (layM.drop 1)[i]? = some z := by rw [List.getElem?_drop, Nat.add_comm]; exact hx
      have h7 := List.all_eq_true.mp ul_drop _ (List.mem_of_getElem? h6)
      cases z with
      | inl o => cases h7
      | inr a => rfl
theorem r_putL {E : CT} {f : Option (Int32 × ST)} {S : ST} {pc : Nat} {lv : List (Nat × Value)} {st : List Value} {cc : ByteArray} {own : String} {nL lev : Nat} {ret : Option FieldType} (X : Cx E layM cc own nL ret lev) {i : Nat} {v : Int64} (hF : pOK own i 11 13 .long) (d : decode cc pc = .ok (.putfield i, 3)) (kk : G E f (ul S v) (pc + 3) lv st) : G E f S pc lv (.long v :: .ref (eA E 0) :: st) := r_putV X hF lm_0 (by decide) rfl rfl (ul_set _ _ _ _ lm_0 rfl (by decide)) d kk
