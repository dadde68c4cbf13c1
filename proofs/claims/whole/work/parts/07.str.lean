theorem mk_J0_length_8abf5 : mkV yJ0_length_8abf5 RJ0 cJ0_length_8abf5 1 (some .int) 0 := ⟨tg_of 492 (by decide +kernel) rfl, tg_of 493 (by decide +kernel) rfl, tg_of 14 (by decide +kernel) rfl, tg_of 494 (by decide +kernel) rfl, by decide +kernel⟩
theorem mk_J0_charAt_5068e : mkV yJ0_charAt_5068e RJ0 cJ0_charAt_5068e 2 (some .char) 1 := ⟨tg_of 502 (by decide +kernel) rfl, tg_of 503 (by decide +kernel) rfl, tg_of 14 (by decide +kernel) rfl, tg_of 504 (by decide +kernel) rfl, by decide +kernel⟩
theorem mk_J0_coder_7d493 : mkV yJ0_coder_7d493 RJ0 cJ0_coder_7d493 1 (some .byte) 0 := ⟨tg_of 496 (by decide +kernel) rfl, tg_of 497 (by decide +kernel) rfl, tg_of 14 (by decide +kernel) rfl, tg_of 498 (by decide +kernel) rfl, by decide +kernel⟩
theorem mk_J0_isLatin1_aae02 : mkV yJ0_isLatin1_aae02 RJ0 cJ0_isLatin1_aae02 1 (some .boolean) 0 := ⟨tg_of 506 (by decide +kernel) rfl, tg_of 507 (by decide +kernel) rfl, tg_of 14 (by decide +kernel) rfl, tg_of 508 (by decide +kernel) rfl, by decide +kernel⟩
theorem mk_J0_checkIndex_df160 : mkS yJ0_checkIndex_df160 cJ0_checkIndex_df160 2 none 2 := ⟨tg_of 513 (by decide +kernel) rfl, tg_of 14 (by decide +kernel) rfl, tg_of 514 (by decide +kernel) rfl, by decide +kernel⟩
theorem mk_J1_charAt_3b067 : mkS yJ1_charAt_3b067 cJ1_charAt_3b067 2 (some .char) 2 := ⟨tg_of 510 (by decide +kernel) rfl, tg_of 15 (by decide +kernel) rfl, tg_of 511 (by decide +kernel) rfl, by decide +kernel⟩
theorem mk_J3_checkIndex_8e157 : mkS yJ3_checkIndex_8e157 cJ3_checkIndex_8e157 3 (some .int) 3 := ⟨tg_of 518 (by decide +kernel) rfl, tg_of 16 (by decide +kernel) rfl, tg_of 519 (by decide +kernel) rfl, by decide +kernel⟩
theorem lk_X8_97 : lkM RX8 97 yJ0_length_8abf5 := Or.inl (tg_of 491 (by decide +kernel) rfl)
theorem lk_J0_335 : lkM RJ0 335 yJ0_coder_7d493 := Or.inl (tg_of 495 (by decide +kernel) rfl)
theorem lk_X8_102 : lkM RX8 102 yJ0_charAt_5068e := Or.inl (tg_of 501 (by decide +kernel) rfl)
theorem lk_J0_492 : lkM RJ0 492 yJ0_isLatin1_aae02 := Or.inl (tg_of 505 (by decide +kernel) rfl)
theorem lk_J0_495 : lkM RJ0 495 yJ1_charAt_3b067 := Or.inl (tg_of 509 (by decide +kernel) rfl)
theorem lk_J1_9 : lkM RJ1 9 yJ0_checkIndex_df160 := Or.inl (tg_of 512 (by decide +kernel) rfl)
theorem lk_J0_1059 : lkM RJ0 1059 yJ3_checkIndex_8e157 := Or.inl (tg_of 517 (by decide +kernel) rfl)
theorem lfs_38 : Cond.fieldLink RJ0 38 "java/lang/String" "COMPACT_STRINGS" "Z" ∈ TG := tg_of 499 (by decide +kernel) rfl
theorem lfs_1053 : Cond.fieldLink RJ0 1053 "jdk/internal/util/Preconditions" "SIOOBE_FORMATTER" "Ljava/util/function/BiFunction;" ∈ TG := tg_of 515 (by decide +kernel) rfl
theorem lfs_9 : Cond.fieldLink RJ0 9 "java/lang/String" "value" "[B" ∈ TG := tg_of 1329 (by decide +kernel) rfl
theorem lfs_15 : Cond.fieldLink RJ0 15 "java/lang/String" "coder" "B" ∈ TG := tg_of 1330 (by decide +kernel) rfl
def slen (i : Nat) : Int32 := Int32.ofNat (stLen.getD i 0)
def sch (i : Nat) (x : Int32) : Int32 := (stByt.getD i []).getD (ix x) 0 &&& 255
section STRS
variable {E : CT} {f f1 f2 : Option (Int32 × ST)} {S : ST} {pc : Nat} {lv lv' : List (Nat × Value)} {st : List Value} {lay : List LE} {cc : ByteArray} {own : String} {nL lev : Nat} {ret : Option FieldType}
theorem r_nret {ty : FieldType} (X : Cx E lay cc own nL (some ty) lev) {v : Int32} (hn : narrow ty (.int v) = .int v) (d : decode cc pc = .ok (.ireturn, 1)) : G E (some (v, S)) S pc lv [.int v] := by
  obtain ⟨p, l, e, R, s, m, args, below, meth, c, rt, D, ad, cI, cZ, ly⟩ := E
  obtain ⟨hx, hb, hml, hown, hts, hK, hN, hj, hlk, hrt, hr1, hly, hR, hstr⟩ := X
  intro r hr H locs ls hP hS hl
  cases hr
  subst hr1
  exact W.zret hx hb hrt hn (fun t ht hW => ⟨⟨v, (), rfl, rfl, by show va_P _ _ _ t.heap; rw [ht]; exact hP⟩, hS.F ht⟩) hS.2.2 d
theorem r_i2c (X : Cx E lay cc own nL ret lev) {x : Int32} (d : decode cc pc = .ok (.i2c, 1)) (kk : G E f S (pc + 1) lv (.int (x.toUInt32 % 65536).toInt32 :: st)) : G E f S pc lv (.int x :: st) := by
  obtain ⟨p, l, e, R, s, m, args, below, meth, c, rt, D, ad, cI, cZ, ly⟩ := E
  obtain ⟨hx, hb, hml, hown, hts, hK, hN, hj, hlk, hrt, hr1, hly, hR, hstr⟩ := X
  intro r hr H locs ls hP hS hl
  exact lv_i2c hx hb d rfl (kk r hr H locs ls hP hS hl)
theorem r_strVal (X : Cx E lay cc own nL ret lev) {w i : Nat} (hw : Cond.fieldLink own w "java/lang/String" "value" "[B" ∈ TG) (hi : i < 11) (d : decode cc pc = .ok (.getfield w, 3)) (kk : G E f S (pc + 3) lv (.ref (eA E (200 + i)) :: st)) : G E f S pc lv (.ref (eA E (100 + i)) :: st) := by
  obtain ⟨p, l, e, R, s, m, args, below, meth, c, rt, D, ad, cI, cZ, ly⟩ := E
  obtain ⟨hx, hb, hml, hown, hts, hK, hN, hj, hlk, hrt, hr1, hly, hR, hstr⟩ := X
  intro r hr H locs ls hP hS hl
  subst hly
  exact vk_getf hx hb (hstr.1.1 i hi).2.2.1 hS hown (hts _ hw) (fun _ h => h) d (kk r hr H locs ls hP hS hl)
theorem r_strCoder (X : Cx E lay cc own nL ret lev) {w i : Nat} (hw : Cond.fieldLink own w "java/lang/String" "coder" "B" ∈ TG) (hi : i < 11) (d : decode cc pc = .ok (.getfield w, 3)) (kk : G E f S (pc + 3) lv (.int 0 :: st)) : G E f S pc lv (.ref (eA E (100 + i)) :: st) := by
  obtain ⟨p, l, e, R, s, m, args, below, meth, c, rt, D, ad, cI, cZ, ly⟩ := E
  obtain ⟨hx, hb, hml, hown, hts, hK, hN, hj, hlk, hrt, hr1, hly, hR, hstr⟩ := X
  intro r hr H locs ls hP hS hl
  subst hly
  exact vk_getf hx hb (hstr.1.1 i hi).2.1 hS hown (hts _ hw) (fun _ h => h) d (kk r hr H locs ls hP hS hl)
theorem r_tlenS (X : Cx E lay cc own nL ret lev) {i : Nat} (hi : i < 11) (d : decode cc pc = .ok (.arraylength, 1)) (kk : G E f S (pc + 1) lv (.int (slen i) :: st)) : G E f S pc lv (.ref (eA E (200 + i)) :: st) := by
  obtain ⟨p, l, e, R, s, m, args, below, meth, c, rt, D, ad, cI, cZ, ly⟩ := E
  obtain ⟨hx, hb, hml, hown, hts, hK, hN, hj, hlk, hrt, hr1, hly, hR, hstr⟩ := X
  intro r hr H locs ls hP hS hl
  subst hly
  exact va_tlen hx hb (hstr.1.1 i hi).2.2.2 hS rfl d (kk r hr H locs ls hP hS hl)
theorem r_tbS (X : Cx E lay cc own nL ret lev) {i : Nat} {x : Int32} (hi : i < 11) (hv : vin x (stLen.getD i 0) = true) (d : decode cc pc = .ok (.baload, 1)) (kk : G E f S (pc + 1) lv (.int ((stByt.getD i []).getD (ix x) 0) :: st)) : G E f S pc lv (.int x :: .ref (eA E (200 + i)) :: st) := by
  obtain ⟨p, l, e, R, s, m, args, below, meth, c, rt, D, ad, cI, cZ, ly⟩ := E
  obtain ⟨hx, hb, hml, hown, hts, hK, hN, hj, hlk, hrt, hr1, hly, hR, hstr⟩ := X
  intro r hr H locs ls hP hS hl
  subst hly
  exact va_tb hx hb (hstr.1.1 i hi).2.2.2 hS (vin_in hv) rfl d (kk r hr H locs ls hP hS hl)
theorem r_getsCS (X : Cx E lay cc own nL ret lev) {w : Nat} (hw : Cond.fieldLink own w "java/lang/String" "COMPACT_STRINGS" "Z" ∈ TG) (d : decode cc pc = .ok (.getstatic w, 3)) (kk : G E f S (pc + 3) lv (.int 1 :: st)) : G E f S pc lv st := by
  obtain ⟨p, l, e, R, s, m, args, below, meth, c, rt, D, ad, cI, cZ, ly⟩ := E
  obtain ⟨hx, hb, hml, hown, hts, hK, hN, hj, hlk, hrt, hr1, hly, hR, hstr⟩ := X
  intro r hr H locs ls hP hS hl
  subst hly
  exact va_gets hx hb hstr.2.1 hS hown (hts _ hw) (fun _ h => h) d (kk r hr H locs ls hP hS hl)
theorem r_getsF (X : Cx E lay cc own nL ret lev) {w : Nat} (hw : Cond.fieldLink own w "jdk/internal/util/Preconditions" "SIOOBE_FORMATTER" "Ljava/util/function/BiFunction;" ∈ TG) (d : decode cc pc = .ok (.getstatic w, 3)) (kk : ∀ v : Value, v.category = 1 → G E f S (pc + 3) lv (v :: st)) : G E f S pc lv st := by
  obtain ⟨p, l, e, R, s, m, args, below, meth, c, rt, D, ad, cI, cZ, ly⟩ := E
  obtain ⟨hx, hb, hml, hown, hts, hK, hN, hj, hlk, hrt, hr1, hly, hR, hstr⟩ := X
  intro r hr H locs ls hP hS hl
  subst hly
  obtain ⟨v, h1, h2⟩ := hstr.2.2.2
  exact va_gets hx hb h2 hS hown (hts _ hw) (fun _ h => h) d (kk v h1 r hr H locs ls hP hS hl)
theorem r_ldcS (X : Cx E lay cc "PlyHouse$Tokens" nL ret lev) {i w : Nat} {tx : String} (hq : stTab[i]? = some (w, tx)) (d : decode cc pc = .ok (.ldc w, 2)) (kk : G E f S (pc + 2) lv (.ref (eA E (100 + i)) :: st)) : G E f S pc lv st := by
  obtain ⟨p, l, e, R, s, m, args, below, meth, c, rt, D, ad, cI, cZ, ly⟩ := E
  obtain ⟨hx, hb, hml, hown, hts, hK, hN, hj, hlk, hrt, hr1, hly, hR, hstr⟩ := X
  intro r hr H locs ls hP hS hl
  subst hly
  exact va_ldcS hx hb hown (hstr.2.2.1 i (w, tx) hq) d (kk r hr H locs ls hP hS hl)
theorem r_callT (X : Cx E lay cc own nL ret lev) {i k n maxL lev' : Nat} {y : MethodName} {bytes : ByteArray} {rt : FieldType} {As : (Nat → Nat) → List Value} {o : Option (Int32 × ST)} {kf : Int32 × ST → Option (Int32 × ST)} {st0 : List Value} (hM : MetS y bytes maxL (some rt) lev' lay o S (fun ad => .ref (ad (100 + k)) :: As ad)) (hm : mkV y "java/lang/String" bytes maxL (some rt) n) (hl0 : lkM own i y) (hk : k < 11) (hn : (As (eA E)).length = n) (hlev : lev' + 1 ≤ lev) (hmx : maxL ≤ 21) (hroom : (st.map fun v => v.category).sum ≤ 8) (hst : st0 = (As (eA E)).reverse ++ .ref (eA E (100 + k)) :: st) (d : decode cc pc = .ok (.invokevirtual i, 3)) (kk : ∀ q : Int32 × ST, o = some q → G E (kf q) q.2 (pc + 3) lv (.int q.1 :: st)) : G E (o.bind kf) S pc lv st0 := by
  obtain ⟨p, l, e, R, s, m, args, below, meth, c, rt, D, ad, cI, cZ, ly⟩ := E
  obtain ⟨hx, hb, hml, hown, hts, hK, hN, hj, hlk, hrt, hr1, hly, hR, hstr⟩ := X
  intro r hr H locs ls hP hS hl
  obtain ⟨q, ho, hq⟩ := Option.bind_eq_some_iff.mp hr
  subst hly
  subst hR
  have hMe := hM l D ad cI cZ hj q ho
  have hR2 : (rmL lev').frames + 1 ≤ (rmL lev).frames ∧ 8 + (maxL + 11) + (rmL lev').locals ≤ (rmL lev).locals := ⟨hlev, by show 8 + (maxL + 11) + (40 * lev' + 20) ≤ 40 * lev + 20; omega⟩
  have hsz : (F0 m pc ls st0).locals.size = nL := hl.1.trans hml
  have hpre : PreV s H "java/lang/String" (ad (100 + k)) (pcS ly ad cI cZ D S (.ref (ad (100 + k)) :: As ad)) (As ad) := ⟨pcS_blind, vk_recv (adK := fun i => ad (100 + i)) (i := k) hstr.1 hk hS, fun U hU hW => pcS_at hP hK hN hstr hS hU hW⟩
  rcases hl0 with hL | ⟨host, hL⟩
  · exact va_calli (va_runV (As := As ad) (rest := st) ⟨hx, hb, hml, hown, hts⟩ hMe (cwV n hts (gi_V hm hL) rfl rfl rfl hm.2.2.2.2 hR2) hpre rfl hn hsz hst (lv_room hroom) d ⟨Nat.le_refl _, Nat.le_refl _⟩) hS (fun q _ h => h) (fun q h => h) (fun v u t H1 locs1 ht hvm hp1 hB hz hk1 hS1 => by rw [hp1]; exact kk q ho r hq H1 locs1 ls (by rw [← ht]; exact hB) hS1 hl)
  · exact va_calli (va_runVN (As := As ad) (rest := st) ⟨hx, hb, hml, hown, hts⟩ hMe ⟨va_cnB n hts (gi_code hm.2.2.2.1) rfl rfl rfl (hN _ hL) (hm.2.2.2.2.1 ▸ hts _ hm.2.2.1) hm.2.2.2.2.2 hR2, hts _ hm.1, hts _ hm.2.1⟩ hpre rfl hn hsz hst (lv_room hroom) d ⟨Nat.le_refl _, Nat.le_refl _⟩) hS (fun q _ h => h) (fun q h => h) (fun v u t H1 locs1 ht hvm hp1 hB hz hk1 hS1 => by rw [hp1]; exact kk q ho r hq H1 locs1 ls (by rw [← ht]; exact hB) hS1 hl)
theorem vin_lt {x : Int32} {n : Nat} (hn : n < 2 ^ 31) (h : vin x n = true) : ¬ x < 0 ∧ x < Int32.ofNat n := by
  obtain ⟨j, hj, rfl⟩ := vp_in_of (vin_in h) hn
  exact ⟨nI_pos (by omega), nI_lt hj hn⟩
theorem mJ3_checkIndex (S : ST) (x1 x2 : Int32) (v : Value) (hv : v.category = 1) (h0 : ¬ x1 < 0) (h1 : x1 < x2) : MetS yJ3_checkIndex_8e157 cJ3_checkIndex_8e157 3 (some .int) 0 lay (some (x1, S)) S (fun _ => [.int x1, .int x2, v]) := by
  refine mk_met (fun _ => [(0, .int x1), (1, .int x2), (2, v)]) (by decide) (fun _ => ?_) (fun _ => rfl) (fun E X => ?_)
  · cases v <;> first | exact Nat.le_of_ble_eq_true rfl | (simp [Value.category] at hv)
  · refine r_iload_n X 0 rfl dJ3_checkIndex_8e157_0 ?_
    refine r_if_ltF (tgt := 9) X dJ3_checkIndex_8e157_1 (by decide) h0 ?_
    refine r_iload_n X 0 rfl dJ3_checkIndex_8e157_4 ?_
    refine r_iload_n X 1 rfl dJ3_checkIndex_8e157_5 ?_
    have hg : G E (some (x1, S)) S 16 [(0, .int x1), (1, .int x2), (2, v)] [] := by
      refine r_iload_n X 0 rfl dJ3_checkIndex_8e157_16 ?_
      exact r_iret X dJ3_checkIndex_8e157_17
    have hh := r_icmp_lt (f1 := some (x1, S)) (f2 := none) (tgt := 16) (x := x1) (y := x2) (lv := [(0, .int x1), (1, .int x2), (2, v)]) (st := []) X dJ3_checkIndex_8e157_6 (by decide) (fun _ => hg) (fun _ => r_none)
    rw [if_pos h1] at hh
    exact hh
theorem mJ0_checkIndex (S : ST) (x1 x2 : Int32) (h0 : ¬ x1 < 0) (h1 : x1 < x2) : MetS yJ0_checkIndex_df160 cJ0_checkIndex_df160 2 none 1 lay (some (0, S)) S (fun _ => [.int x1, .int x2]) := by
  refine mk_met (fun _ => [(0, .int x1), (1, .int x2)]) (by decide) (fun _ => Nat.le_of_ble_eq_true rfl) (fun _ => rfl) (fun E X => ?_)
  refine r_iload_n X 0 rfl dJ0_checkIndex_df160_0 ?_
  refine r_iload_n X 1 rfl dJ0_checkIndex_df160_1 ?_
  refine r_getsF X lfs_1053 dJ0_checkIndex_df160_2 (fun v hv => ?_)
  refine r_callS (o := some (x1, S)) (kf := fun q => some (0, q.2)) (st := []) X (mJ3_checkIndex S x1 x2 v hv h0 h1) mk_J3_checkIndex_8e157 lk_J0_1059 rfl (by decide) (by decide) (by decide) rfl dJ0_checkIndex_df160_5 (fun q ho => ?_)
  refine r_pop X rfl dJ0_checkIndex_df160_8 ?_
  exact r_vret X dJ0_checkIndex_df160_9
theorem mJ0_coder (S : ST) (i : Nat) (hi : i < 11) : MetS yJ0_coder_7d493 cJ0_coder_7d493 1 (some .byte) 0 lay (some (0, S)) S (fun ad => [.ref (ad (100 + i))]) := by
  refine mk_met (fun ad => [(0, .ref (ad (100 + i)))]) (by decide) (fun _ => Nat.le_of_ble_eq_true rfl) (fun _ => rfl) (fun E X => ?_)
  refine r_getsCS X lfs_38 dJ0_coder_7d493_0 ?_
  refine r_if_eqF (tgt := 13) X dJ0_coder_7d493_3 (by decide) (by decide) ?_
  refine r_aload_n X 0 rfl dJ0_coder_7d493_6 ?_
  refine r_strCoder X lfs_15 hi dJ0_coder_7d493_7 ?_
  refine r_goto (tgt := 14) X dJ0_coder_7d493_10 (by decide) ?_
  exact r_nret X rfl dJ0_coder_7d493_14
theorem mJ0_isLatin1 (S : ST) (i : Nat) (hi : i < 11) : MetS yJ0_isLatin1_aae02 cJ0_isLatin1_aae02 1 (some .boolean) 0 lay (some (1, S)) S (fun ad => [.ref (ad (100 + i))]) := by
  refine mk_met (fun ad => [(0, .ref (ad (100 + i)))]) (by decide) (fun _ => Nat.le_of_ble_eq_true rfl) (fun _ => rfl) (fun E X => ?_)
  refine r_getsCS X lfs_38 dJ0_isLatin1_aae02_0 ?_
  refine r_if_eqF (tgt := 17) X dJ0_isLatin1_aae02_3 (by decide) (by decide) ?_
  refine r_aload_n X 0 rfl dJ0_isLatin1_aae02_6 ?_
  refine r_strCoder X lfs_15 hi dJ0_isLatin1_aae02_7 ?_
  refine r_if_neF (tgt := 17) X dJ0_isLatin1_aae02_10 (by decide) rfl ?_
  refine r_iconst (v := 1) X (by decide) dJ0_isLatin1_aae02_13 ?_
  refine r_goto (tgt := 18) X dJ0_isLatin1_aae02_14 (by decide) ?_
  exact r_zret X (by decide) dJ0_isLatin1_aae02_18
theorem mJ0_length (S : ST) (i : Nat) (hi : i < 11) : MetS yJ0_length_8abf5 cJ0_length_8abf5 1 (some .int) 1 lay (some (slen i, S)) S (fun ad => [.ref (ad (100 + i))]) := by
  refine mk_met (fun ad => [(0, .ref (ad (100 + i)))]) (by decide) (fun _ => Nat.le_of_ble_eq_true rfl) (fun _ => rfl) (fun E X => ?_)
  refine r_aload_n X 0 rfl dJ0_length_8abf5_0 ?_
  refine r_strVal X lfs_9 hi dJ0_length_8abf5_1 ?_
  refine r_tlenS X hi dJ0_length_8abf5_4 ?_
  refine r_aload_n X 0 rfl dJ0_length_8abf5_5 ?_
  have e : some (slen i, S) = (some ((0 : Int32), S)).bind (fun q => some (slen i >>> (q.1 &&& 31), q.2)) := by
    show _ = some (slen i >>> ((0 : Int32) &&& 31), S)
    rw [sb_shr0]
  rw [e]
  refine r_callT (st := [.int (slen i)]) X (mJ0_coder S i hi) mk_J0_coder_7d493 lk_J0_335 hi rfl (by decide) (by decide) (Nat.le_of_ble_eq_true rfl) rfl dJ0_length_8abf5_6 (fun q ho => ?_)
  refine r_ishr X dJ0_length_8abf5_9 ?_
  exact r_iret X dJ0_length_8abf5_10
theorem stLen_lt (i : Nat) (hi : i < 11) : stLen.getD i 0 < 2 ^ 31 := by
  have h : ∀ i, i < 11 → stLen.getD i 0 < 2 ^ 31 := by decide
  exact h i hi
theorem mJ1_charAt (S : ST) (i : Nat) (x1 : Int32) (hi : i < 11) (hv : vin x1 (stLen.getD i 0) = true) : MetS yJ1_charAt_3b067 cJ1_charAt_3b067 2 (some .char) 2 lay (some (sch i x1, S)) S (fun ad => [.ref (ad (200 + i)), .int x1]) := by
  have hb := vin_lt (stLen_lt i hi) hv
  refine mk_met (fun ad => [(0, .ref (ad (200 + i))), (1, .int x1)]) (by decide) (fun _ => Nat.le_of_ble_eq_true rfl) (fun _ => rfl) (fun E X => ?_)
  refine r_iload_n X 1 rfl dJ1_charAt_3b067_0 ?_
  refine r_aload_n X 0 rfl dJ1_charAt_3b067_1 ?_
  refine r_tlenS X hi dJ1_charAt_3b067_2 ?_
  refine r_callSv (o := some (0, S)) (kf := fun q => some (sch i x1, q.2)) (st := []) X (mJ0_checkIndex S x1 (slen i) hb.1 hb.2) mk_J0_checkIndex_df160 lk_J1_9 rfl (by decide) (by decide) (by decide) rfl dJ1_charAt_3b067_3 (fun q ho => ?_)
  refine r_aload_n X 0 rfl dJ1_charAt_3b067_6 ?_
  refine r_iload_n X 1 rfl dJ1_charAt_3b067_7 ?_
  refine r_tbS X hi hv dJ1_charAt_3b067_8 ?_
  refine r_sipush (v := 255) X (by decide) dJ1_charAt_3b067_9 ?_
  refine r_iand X dJ1_charAt_3b067_12 ?_
  refine r_i2c X dJ1_charAt_3b067_13 ?_
  rw [sc_c2]
  exact r_nret X (sc_nar _) dJ1_charAt_3b067_14
theorem mJ0_charAt (S : ST) (i : Nat) (x1 : Int32) (hi : i < 11) (hv : vin x1 (stLen.getD i 0) = true) : MetS yJ0_charAt_5068e cJ0_charAt_5068e 2 (some .char) 3 lay (some (sch i x1, S)) S (fun ad => [.ref (ad (100 + i)), .int x1]) := by
  refine mk_met (fun ad => [(0, .ref (ad (100 + i))), (1, .int x1)]) (by decide) (fun _ => Nat.le_of_ble_eq_true rfl) (fun _ => rfl) (fun E X => ?_)
  refine r_aload_n X 0 rfl dJ0_charAt_5068e_0 ?_
  refine r_callT (o := some (1, S)) (kf := fun q => if q.1 = 0 then none else some (sch i x1, q.2)) (st := []) X (mJ0_isLatin1 S i hi) mk_J0_isLatin1_aae02 lk_J0_492 hi rfl (by decide) (by decide) (by decide) rfl dJ0_charAt_5068e_1 (fun q ho => ?_)
  refine r_if_eq (tgt := 16) X dJ0_charAt_5068e_4 (by decide) (fun _ => r_none) (fun _ => ?_)
  refine r_aload_n X 0 rfl dJ0_charAt_5068e_7 ?_
  refine r_strVal X lfs_9 hi dJ0_charAt_5068e_8 ?_
  refine r_iload_n X 1 rfl dJ0_charAt_5068e_11 ?_
  refine r_callS (o := some (sch i x1, q.2)) (kf := fun q => some (q.1, q.2)) (st := []) X (mJ1_charAt q.2 i x1 hi hv) mk_J1_charAt_3b067 lk_J0_495 rfl (by decide) (by decide) (by decide) rfl dJ0_charAt_5068e_12 (fun q2 ho2 => ?_)
  cases ho2
  exact r_nret X (sc_nar _) dJ0_charAt_5068e_15
theorem r_strLen (X : Cx E lay cc own nL ret lev) {i k : Nat} (hk : k < 11) (hl0 : lkM own i yJ0_length_8abf5) (hlev : 2 ≤ lev) (hroom : (st.map fun v => v.category).sum ≤ 8) (d : decode cc pc = .ok (.invokevirtual i, 3)) (kk : G E f S (pc + 3) lv (.int (slen k) :: st)) : G E f S pc lv (.ref (eA E (100 + k)) :: st) :=
  r_callT (o := some (slen k, S)) (kf := fun _ => f) X (mJ0_length S k hk) mk_J0_length_8abf5 hl0 hk rfl hlev (by decide) hroom rfl d (fun q ho => by cases ho; exact kk)
theorem r_strChar (X : Cx E lay cc own nL ret lev) {i k : Nat} {x : Int32} (hk : k < 11) (hl0 : lkM own i yJ0_charAt_5068e) (hlev : 4 ≤ lev) (hroom : (st.map fun v => v.category).sum ≤ 8) (d : decode cc pc = .ok (.invokevirtual i, 3)) (kk : vin x (stLen.getD k 0) = true → G E f S (pc + 3) lv (.int (sch k x) :: st)) : G E (if vin x (stLen.getD k 0) = true then f else none) S pc lv (.int x :: .ref (eA E (100 + k)) :: st) := by
  refine r_chk (fun h0 => ?_)
  exact r_callT (o := some (sch k x, S)) (kf := fun _ => f) X (mJ0_charAt S k x hk h0) mk_J0_charAt_5068e hl0 hk rfl hlev (by decide) hroom rfl d (fun q ho => by cases ho; exact kk h0)
end STRS
