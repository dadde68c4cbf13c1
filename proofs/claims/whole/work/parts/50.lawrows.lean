abbrev LT : Type := Program × Launch × Env × State × MethodId × List Frame × Method × Code × Nat × Nat × (Nat → Int32) × va_G × (Nat → Nat) × (Nat → Nat) × ClassId × ClassId
def lB (E : LT) : Nat := E.2.2.2.2.2.2.2.2.1
def lL (E : LT) : Nat := E.2.2.2.2.2.2.2.2.2.1
def lX (E : LT) : Nat → Int32 := E.2.2.2.2.2.2.2.2.2.2.1
def lC (E : LT) : Nat → Nat := E.2.2.2.2.2.2.2.2.2.2.2.2.1
def lM (E : LT) : Nat → Nat := E.2.2.2.2.2.2.2.2.2.2.2.2.2.1
def CLw (E : LT) : Prop := match E with
  | (p, _, _, s, m, _, meth, c, b, L, xs, D, adC, adM, cI, cZ) => p.tables.exec = Jvm.exec ∧ c.code = cL_law ∧ c.maxLocals = 4 ∧ s.vm.findClass RL = some m.cls ∧ (∀ w ∈ TG, w.before #[Value.ref b] s = true) ∧ va_K D vwCl [(cI, .int), (cZ, .boolean)] s ∧ (∀ w ∈ NW, va_Nw w s) ∧ sOK layC adC s s.heap ∧ sOK layM adM s s.heap ∧ injW layC adC ∧ injW layM adM ∧ (∀ q, aW layC adC q → ¬ aW layM adM q) ∧ (∀ q, aW layC adC q → s.heap.size ≤ q) ∧ (∀ q, aW layM adM q → s.heap.size ≤ q) ∧ va_X b L xs s s.heap ∧ b < s.heap.size ∧ meth.locks = false ∧ meth.sig.returnType = ret
def GL (E : LT) (SC SM : ST) (pc : Nat) (lv : List (Nat × Value)) (st : List Value) : Prop := match E with
  | (p, l, e, s, m, below, meth, c, b, _, _, D, adC, adM, cI, cZ) => ∀ (H : Heap) (locs : List Loc) (ls : Array Slot), va_P D vwCl (sW layC adC cI cZ SC) H → va_P D vwCl (sW layM adM cI cZ SM) H → va_S (fun q : Nat => s.heap.size ≤ q) s.heap H locs → lv_has ls c.maxLocals lv → W p l e room_1 s m #[Value.ref b] below meth c H locs 82 26081 (lw_Z below #[Value.ref b] s) (F0 m pc ls st)
section LAWROWS
variable {E : LT} {SC SM : ST} {pc : Nat} {lv lv' : List (Nat × Value)} {st : List Value}
theorem sOK.old {lay : List LE} {ad : Nat → Nat} {U : State} {H H1 : Heap} {locs : List Loc} (h : sOK lay ad U H) (hS : va_S (fun q : Nat => H.size ≤ q) H H1 locs) : sOK lay ad U H1 := by
  have hk : ∀ a : Nat, a < H.size → ¬ aW lay ad a → H1[a]? = H[a]? := fun a ha _ => hS.2.1 a ha (Nat.not_le.mpr ha)
  refine ⟨h.1.kept hk, h.2.1.kept hk, h.2.2.1, ?_⟩
  obtain ⟨v, h1, h2⟩ := h.2.2.2
  exact ⟨v, h1, h2.kept hk⟩
theorem tl_iconst (X : CLw E) {n : Int} {v : Int32} (hv : Int32.ofInt n = v) (d : decode cL_law pc = .ok (.iconst n, 1)) (kk : GL E SC SM (pc + 1) lv (.int v :: st)) : GL E SC SM pc lv (st) := by
  obtain ⟨p, l, e, s, m, below, meth, c, b, L, xs, D, adC, adM, cI, cZ⟩ := E
  obtain ⟨hx, hb, hml, hown, hts, hK, hN, hsC, hsM, hjC, hjM, hdj, hfC, hfM, hX, hbl, hlk, hrt⟩ := X
  intro H locs ls hPC hPM hS hl
  exact lv_iconst hx hb d hv (kk H locs ls hPC hPM hS hl)
theorem tl_bipush (X : CLw E) {n : Int} {v : Int32} (hv : (Int8.ofInt n).toInt32 = v) (d : decode cL_law pc = .ok (.bipush n, 2)) (kk : GL E SC SM (pc + 2) lv (.int v :: st)) : GL E SC SM pc lv (st) := by
  obtain ⟨p, l, e, s, m, below, meth, c, b, L, xs, D, adC, adM, cI, cZ⟩ := E
  obtain ⟨hx, hb, hml, hown, hts, hK, hN, hsC, hsM, hjC, hjM, hdj, hfC, hfM, hX, hbl, hlk, hrt⟩ := X
  intro H locs ls hPC hPM hS hl
  exact lv_bipush hx hb d hv (kk H locs ls hPC hPM hS hl)
theorem tl_aload_n (X : CLw E) {q : Fin 4} {x : Nat} (k : Nat) (hk : lv[k]? = some ((q : Nat), .ref x)) (d : decode cL_law pc = .ok (.aload_n q, 1)) (kk : GL E SC SM (pc + 1) lv (.ref x :: st)) : GL E SC SM pc lv (st) := by
  obtain ⟨p, l, e, s, m, below, meth, c, b, L, xs, D, adC, adM, cI, cZ⟩ := E
  obtain ⟨hx, hb, hml, hown, hts, hK, hN, hsC, hsM, hjC, hjM, hdj, hfC, hfM, hX, hbl, hlk, hrt⟩ := X
  intro H locs ls hPC hPM hS hl
  exact lv_aload_n hx hb d rfl (lv_at hl k hk) (kk H locs ls hPC hPM hS hl)
theorem tl_iload_n (X : CLw E) {q : Fin 4} {x : Int32} (k : Nat) (hk : lv[k]? = some ((q : Nat), .int x)) (d : decode cL_law pc = .ok (.iload_n q, 1)) (kk : GL E SC SM (pc + 1) lv (.int x :: st)) : GL E SC SM pc lv (st) := by
  obtain ⟨p, l, e, s, m, below, meth, c, b, L, xs, D, adC, adM, cI, cZ⟩ := E
  obtain ⟨hx, hb, hml, hown, hts, hK, hN, hsC, hsM, hjC, hjM, hdj, hfC, hfM, hX, hbl, hlk, hrt⟩ := X
  intro H locs ls hPC hPM hS hl
  exact lv_iload_n hx hb d rfl (lv_at hl k hk) (kk H locs ls hPC hPM hS hl)
theorem tl_iadd (X : CLw E) {x y : Int32} (d : decode cL_law pc = .ok (.iadd, 1)) (kk : GL E SC SM (pc + 1) lv (.int (x + y) :: st)) : GL E SC SM pc lv (.int y :: .int x :: st) := by
  obtain ⟨p, l, e, s, m, below, meth, c, b, L, xs, D, adC, adM, cI, cZ⟩ := E
  obtain ⟨hx, hb, hml, hown, hts, hK, hN, hsC, hsM, hjC, hjM, hdj, hfC, hfM, hX, hbl, hlk, hrt⟩ := X
  intro H locs ls hPC hPM hS hl
  exact lv_iadd hx hb d (kk H locs ls hPC hPM hS hl)
theorem tl_isub (X : CLw E) {x y : Int32} (d : decode cL_law pc = .ok (.isub, 1)) (kk : GL E SC SM (pc + 1) lv (.int (x - y) :: st)) : GL E SC SM pc lv (.int y :: .int x :: st) := by
  obtain ⟨p, l, e, s, m, below, meth, c, b, L, xs, D, adC, adM, cI, cZ⟩ := E
  obtain ⟨hx, hb, hml, hown, hts, hK, hN, hsC, hsM, hjC, hjM, hdj, hfC, hfM, hX, hbl, hlk, hrt⟩ := X
  intro H locs ls hPC hPM hS hl
  exact lv_isub hx hb d (kk H locs ls hPC hPM hS hl)
theorem tl_iand (X : CLw E) {x y : Int32} (d : decode cL_law pc = .ok (.iand, 1)) (kk : GL E SC SM (pc + 1) lv (.int (x &&& y) :: st)) : GL E SC SM pc lv (.int y :: .int x :: st) := by
  obtain ⟨p, l, e, s, m, below, meth, c, b, L, xs, D, adC, adM, cI, cZ⟩ := E
  obtain ⟨hx, hb, hml, hown, hts, hK, hN, hsC, hsM, hjC, hjM, hdj, hfC, hfM, hX, hbl, hlk, hrt⟩ := X
  intro H locs ls hPC hPM hS hl
  exact lv_iand hx hb d (kk H locs ls hPC hPM hS hl)
theorem tl_iinc (X : CLw E) {i : Nat} {n : Int} {x v : Int32} (k : Nat) (hk : lv[k]? = some (i, .int x)) (hd : x + Int32.ofInt n = v) (hn : i < 4) (hlv : lvPut lv i (.int v) = lv') (d : decode cL_law pc = .ok (.iinc i n, 3)) (kk : GL E SC SM (pc + 3) lv' (st)) : GL E SC SM pc lv (st) := by
  obtain ⟨p, l, e, s, m, below, meth, c, b, L, xs, D, adC, adM, cI, cZ⟩ := E
  obtain ⟨hx, hb, hml, hown, hts, hK, hN, hsC, hsM, hjC, hjM, hdj, hfC, hfM, hX, hbl, hlk, hrt⟩ := X
  intro H locs ls hPC hPM hS hl
  exact lv_iinc hx hb d hl hk hd (by rw [hml]; exact hn) rfl (fun ls' hl' => kk H locs ls' hPC hPM hS (by rw [← hlv]; exact lvPut_has hl'))
theorem tl_goto (X : CLw E) {off : Int} {tgt : Nat} (d : decode cL_law pc = .ok (.goto off, 3)) (ht : (pc : Int) + off = (tgt : Int)) (kk : GL E SC SM (tgt) lv (st)) : GL E SC SM pc lv (st) := by
  obtain ⟨p, l, e, s, m, below, meth, c, b, L, xs, D, adC, adM, cI, cZ⟩ := E
  obtain ⟨hx, hb, hml, hown, hts, hK, hN, hsC, hsM, hjC, hjM, hdj, hfC, hfM, hX, hbl, hlk, hrt⟩ := X
  intro H locs ls hPC hPM hS hl
  exact lv_goto hx hb d ht (kk H locs ls hPC hPM hS hl)
theorem tl_slen (X : CLw E) (d : decode cL_law pc = .ok (.arraylength, 1)) (kk : GL E SC SM (pc + 1) lv (.int (Int32.ofNat (lL E)) :: st)) : GL E SC SM pc lv (.ref (lB E) :: st) := by
  obtain ⟨p, l, e, s, m, below, meth, c, b, L, xs, D, adC, adM, cI, cZ⟩ := E
  obtain ⟨hx, hb, hml, hown, hts, hK, hN, hsC, hsM, hjC, hjM, hdj, hfC, hfM, hX, hbl, hlk, hrt⟩ := X
  intro H locs ls hPC hPM hS hl
  exact va_slen hx hb hX hbl (Nat.not_le.mpr hbl) hS d (kk H locs ls hPC hPM hS hl)
theorem tl_sld (X : CLw E) {i : Int32} {v : Int32} (hin : vp_in i (lL E)) (hv : lX E i.toNatClampNeg = v) (d : decode cL_law pc = .ok (.iaload, 1)) (kk : GL E SC SM (pc + 1) lv (.int v :: st)) : GL E SC SM pc lv (.int i :: .ref (lB E) :: st) := by
  obtain ⟨p, l, e, s, m, below, meth, c, b, L, xs, D, adC, adM, cI, cZ⟩ := E
  obtain ⟨hx, hb, hml, hown, hts, hK, hN, hsC, hsM, hjC, hjM, hdj, hfC, hfM, hX, hbl, hlk, hrt⟩ := X
  intro H locs ls hPC hPM hS hl
  exact va_sld hx hb hX hbl (Nat.not_le.mpr hbl) hS hin d (by rw [show xs i.toNatClampNeg = v from hv]; exact kk H locs ls hPC hPM hS hl)
theorem tl_eqT (X : CLw E) {x y : Int32} {off : Int} {tgt : Nat} (d : decode cL_law pc = .ok (.if_icmp .eq off, 3)) (ht : (pc : Int) + off = (tgt : Int)) (h0 : x = y) (kk : GL E SC SM (tgt) lv (st)) : GL E SC SM pc lv (.int y :: .int x :: st) := by
  obtain ⟨p, l, e, s, m, below, meth, c, b, L, xs, D, adC, adM, cI, cZ⟩ := E
  obtain ⟨hx, hb, hml, hown, hts, hK, hN, hsC, hsM, hjC, hjM, hdj, hfC, hfM, hX, hbl, hlk, hrt⟩ := X
  intro H locs ls hPC hPM hS hl
  exact lv_icmp_eq hx hb d ht (fun _ => kk H locs ls hPC hPM hS hl) (fun h => absurd h0 h)
theorem tl_ifeqT (X : CLw E) {x : Int32} {off : Int} {tgt : Nat} (d : decode cL_law pc = .ok (.ifCond .eq off, 3)) (ht : (pc : Int) + off = (tgt : Int)) (h0 : x = 0) (kk : GL E SC SM (tgt) lv (st)) : GL E SC SM pc lv (.int x :: st) := by
  obtain ⟨p, l, e, s, m, below, meth, c, b, L, xs, D, adC, adM, cI, cZ⟩ := E
  obtain ⟨hx, hb, hml, hown, hts, hK, hN, hsC, hsM, hjC, hjM, hdj, hfC, hfM, hX, hbl, hlk, hrt⟩ := X
  intro H locs ls hPC hPM hS hl
  exact lv_if_eq hx hb d ht (fun _ => kk H locs ls hPC hPM hS hl) (fun h => absurd h0 h)
theorem tl_ifeqF (X : CLw E) {x : Int32} {off : Int} {tgt : Nat} (d : decode cL_law pc = .ok (.ifCond .eq off, 3)) (ht : (pc : Int) + off = (tgt : Int)) (h0 : ¬ x = 0) (kk : GL E SC SM (pc + 3) lv (st)) : GL E SC SM pc lv (.int x :: st) := by
  obtain ⟨p, l, e, s, m, below, meth, c, b, L, xs, D, adC, adM, cI, cZ⟩ := E
  obtain ⟨hx, hb, hml, hown, hts, hK, hN, hsC, hsM, hjC, hjM, hdj, hfC, hfM, hX, hbl, hlk, hrt⟩ := X
  intro H locs ls hPC hPM hS hl
  exact lv_if_eq hx hb d ht (fun h => absurd h h0) (fun _ => kk H locs ls hPC hPM hS hl)
theorem tl_gt (X : CLw E) {x y : Int32} {off : Int} {tgt : Nat} (d : decode cL_law pc = .ok (.if_icmp .gt off, 3)) (ht : (pc : Int) + off = (tgt : Int)) (k1 : y < x → GL E SC SM tgt lv st) (k2 : ¬ y < x → GL E SC SM (pc + 3) lv st) : GL E SC SM pc lv (.int y :: .int x :: st) := by
  obtain ⟨p, l, e, s, m, below, meth, c, b, L, xs, D, adC, adM, cI, cZ⟩ := E
  obtain ⟨hx, hb, hml, hown, hts, hK, hN, hsC, hsM, hjC, hjM, hdj, hfC, hfM, hX, hbl, hlk, hrt⟩ := X
  intro H locs ls hPC hPM hS hl
  exact lv_icmp_gt hx hb d ht (fun h => k1 h H locs ls hPC hPM hS hl) (fun h => k2 h H locs ls hPC hPM hS hl)
theorem tl_tsIn (X : CLw E) {x : Int32} {dflt lo hi off : Int} {offs : Array Int} {len tgt : Nat} (cv : Int32) (h : x = cv) (d : decode cL_law pc = .ok (.tableswitch dflt lo hi offs, len)) (h1 : ¬ cv.toInt < lo) (h2 : ¬ hi < cv.toInt) (ho : offs[(cv.toInt - lo).toNat]? = some off) (ht : (pc : Int) + off = (tgt : Int)) (kk : GL E SC SM (tgt) lv (st)) : GL E SC SM pc lv (.int x :: st) := by
  obtain ⟨p, l, e, s, m, below, meth, c, b, L, xs, D, adC, adM, cI, cZ⟩ := E
  obtain ⟨hx, hb, hml, hown, hts, hK, hN, hsC, hsM, hjC, hjM, hdj, hfC, hfM, hX, hbl, hlk, hrt⟩ := X
  intro H locs ls hPC hPM hS hl
  exact lv_tableIn hx hb d (by rw [h]; exact h1) (by rw [h]; exact h2) (by rw [h]; exact ho) ht (kk H locs ls hPC hPM hS hl)
theorem tl_tsOut (X : CLw E) {x : Int32} {dflt lo hi : Int} {offs : Array Int} {len tgt : Nat} (h : x.toInt < lo ∨ hi < x.toInt) (d : decode cL_law pc = .ok (.tableswitch dflt lo hi offs, len)) (ht : (pc : Int) + dflt = (tgt : Int)) (kk : GL E SC SM (tgt) lv (st)) : GL E SC SM pc lv (.int x :: st) := by
  obtain ⟨p, l, e, s, m, below, meth, c, b, L, xs, D, adC, adM, cI, cZ⟩ := E
  obtain ⟨hx, hb, hml, hown, hts, hK, hN, hsC, hsM, hjC, hjM, hdj, hfC, hfM, hX, hbl, hlk, hrt⟩ := X
  intro H locs ls hPC hPM hS hl
  exact lv_tableOut hx hb d h ht (kk H locs ls hPC hPM hS hl)
theorem tl_ret (X : CLw E) (d : decode cL_law pc = .ok (.ireturn, 1)) : GL E SC SM pc lv [.int 1] := by
  obtain ⟨p, l, e, s, m, below, meth, c, b, L, xs, D, adC, adM, cI, cZ⟩ := E
  obtain ⟨hx, hb, hml, hown, hts, hK, hN, hsC, hsM, hjC, hjM, hdj, hfC, hfM, hX, hbl, hlk, hrt⟩ := X
  intro H locs ls hPC hPM hS hl
  refine va_forget (fun q hq => hS.2.2 q hq) ?_
  refine W.widen (k := 600000) (n := 7302250) (by decide) (by decide) ?_
  exact lw_ret hx hb hrt hlk d
theorem tl_callC (X : CLw E) {i n maxL lev' : Nat} {y : MethodName} {bytes : ByteArray} {rt : FieldType} {As : List Value} {o : Option (Int32 × ST)} {q : Int32 × ST} {st0 : List Value} (hM : MetS y bytes maxL (some rt) lev' layC o SC (fun ad => .ref (ad 0) :: As)) (hm : mkV y RX10 bytes maxL (some rt) n) (hl0 : Cond.methodLink RL i y ∈ TG) (ho : o = some q) (hn : As.length = n) (hlev : lev' ≤ 100) (hmx : maxL ≤ 21) (hroom : (st.map fun v => v.category).sum ≤ 8) (hst : st0 = As.reverse ++ .ref (lC E 0) :: st) (d : decode cL_law pc = .ok (.invokevirtual i, 3)) (kk : GL E q.2 SM (pc + 3) lv (.int q.1 :: st)) : GL E SC SM pc lv st0 := by
  obtain ⟨p, l, e, s, m, below, meth, c, b, L, xs, D, adC, adM, cI, cZ⟩ := E
  obtain ⟨hx, hb, hml, hown, hts, hK, hN, hsC, hsM, hjC, hjM, hdj, hfC, hfM, hX, hbl, hlk, hrt⟩ := X
  intro H locs ls hPC hPM hS hl
  have hMe := hM l D adC cI cZ hjC q ho
  have hR2 : (rmL lev').frames + 1 ≤ room_1.frames ∧ 8 + (maxL + 11) + (rmL lev').locals ≤ room_1.locals := ⟨by show lev' + 1 ≤ 2048; omega, by show 8 + (maxL + 11) + (40 * lev' + 20) ≤ 84000; omega⟩
  have hsz : (F0 m pc ls st0).locals.size = 4 := hl.1.trans hml
  have hpre : PreV s H RX10 (adC 0) (pcS layC adC cI cZ D SC (.ref (adC 0) :: As)) As := ⟨pcS_blind, va_recv hK hPC rfl (sW_at lc_0), fun U hU hW => ⟨rfl, by rw [hU]; exact hPC, va_K.moved hW.alike hK, fun w hw => nw_warm hw hW (hN w hw), by rw [hU]; exact (hsC.warm hW).old hS⟩⟩
  exact va_calli (va_runV (As := As) (rest := st) ⟨hx, hb, hml, hown, hts⟩ hMe (cwV n hts (gi_V hm hl0) rfl rfl rfl hm.2.2.2.2 hR2) hpre rfl hn hsz hst (lv_room hroom) d ⟨by decide, by decide⟩) hS (fun q _ h => hfC q h) (fun q h => hfC q h) (fun v u t H1 locs1 ht hvm hp1 hB hz hk1 hS1 => by
    rw [hp1]
    have hQ : va_P D vwCl (sW layM adM cI cZ SM) H1 := hPM.kept (fun k x hx2 => by
      have a1 := sW_fst hx2
      have a2 : aW layM adM x.1 := ⟨k, a1.1, a1.2.symm⟩
      exact hk1 x.1 ((hPM k x hx2).lt) (fun h => hdj _ h a2))
    have hB2 : va_P D vwCl (sW layC adC cI cZ q.2) H1 := by rw [← ht]; exact hB
    exact kk H1 locs1 ls hB2 hQ hS1 hl)
theorem tl_callM (X : CLw E) {i n maxL lev' : Nat} {y : MethodName} {bytes : ByteArray} {rt : FieldType} {As : List Value} {o : Option (Int32 × ST)} {q : Int32 × ST} {st0 : List Value} (hM : MetS y bytes maxL (some rt) lev' layM o SM (fun ad => .ref (ad 0) :: As)) (hm : mkV y RX11 bytes maxL (some rt) n) (hl0 : Cond.methodLink RL i y ∈ TG) (ho : o = some q) (hn : As.length = n) (hlev : lev' ≤ 100) (hmx : maxL ≤ 21) (hroom : (st.map fun v => v.category).sum ≤ 8) (hst : st0 = As.reverse ++ .ref (lM E 0) :: st) (d : decode cL_law pc = .ok (.invokevirtual i, 3)) (kk : GL E SC q.2 (pc + 3) lv (.int q.1 :: st)) : GL E SC SM pc lv st0 := by
  obtain ⟨p, l, e, s, m, below, meth, c, b, L, xs, D, adC, adM, cI, cZ⟩ := E
  obtain ⟨hx, hb, hml, hown, hts, hK, hN, hsC, hsM, hjC, hjM, hdj, hfC, hfM, hX, hbl, hlk, hrt⟩ := X
  intro H locs ls hPC hPM hS hl
  have hMe := hM l D adM cI cZ hjM q ho
  have hR2 : (rmL lev').frames + 1 ≤ room_1.frames ∧ 8 + (maxL + 11) + (rmL lev').locals ≤ room_1.locals := ⟨by show lev' + 1 ≤ 2048; omega, by show 8 + (maxL + 11) + (40 * lev' + 20) ≤ 84000; omega⟩
  have hsz : (F0 m pc ls st0).locals.size = 4 := hl.1.trans hml
  have hpre : PreV s H RX11 (adM 0) (pcS layM adM cI cZ D SM (.ref (adM 0) :: As)) As := ⟨pcS_blind, va_recv hK hPM rfl (sW_at lm_0), fun U hU hW => ⟨rfl, by rw [hU]; exact hPM, va_K.moved hW.alike hK, fun w hw => nw_warm hw hW (hN w hw), by rw [hU]; exact (hsM.warm hW).old hS⟩⟩
  exact va_calli (va_runV (As := As) (rest := st) ⟨hx, hb, hml, hown, hts⟩ hMe (cwV n hts (gi_V hm hl0) rfl rfl rfl hm.2.2.2.2 hR2) hpre rfl hn hsz hst (lv_room hroom) d ⟨by decide, by decide⟩) hS (fun q _ h => hfM q h) (fun q h => hfM q h) (fun v u t H1 locs1 ht hvm hp1 hB hz hk1 hS1 => by
    rw [hp1]
    have hQ : va_P D vwCl (sW layC adC cI cZ SC) H1 := hPC.kept (fun k x hx2 => by
      have a1 := sW_fst hx2
      have a2 : aW layC adC x.1 := ⟨k, a1.1, a1.2.symm⟩
      exact hk1 x.1 ((hPC k x hx2).lt) (fun h => hdj _ a2 h))
    have hB2 : va_P D vwCl (sW layM adM cI cZ q.2) H1 := by rw [← ht]; exact hB
    exact kk H1 locs1 ls hQ hB2 hS1 hl)
end LAWROWS
