def rmC (n mc ms : Nat) : Room := { frames := n, cells := mc, slots := ms, locals := 40 * n + 20 }
abbrev JT : Type := Program × Launch × Env × Room × State × MethodId × Array Value × List Frame × Method × Code × (State → Prop) × va_G × ClassId × ClassId × (Nat → Prop)
def eI (E : JT) : ClassId := E.2.2.2.2.2.2.2.2.2.2.2.2.1
def eZ (E : JT) : ClassId := E.2.2.2.2.2.2.2.2.2.2.2.2.2.1
def Cj (E : JT) (cc : ByteArray) (own : String) (nL lev mc ms : Nat) : Prop := match E with
  | (p, _, _, R, s, m, args, _, meth, c, _, D, cI, cZ, A) => p.tables.exec = Jvm.exec ∧ c.code = cc ∧ c.maxLocals = nL ∧ s.vm.findClass own = some m.cls ∧ (∀ w ∈ TG, w.before args s = true) ∧ va_K D vwCl [(cI, .int), (cZ, .boolean)] s ∧ (∀ w ∈ NW, va_Nw w s) ∧ meth.locks = false ∧ meth.sig.returnType = none ∧ meth.name = "<init>" ∧ (∀ q, s.heap.size ≤ q → A q) ∧ R = rmC lev mc ms
def J (E : JT) (ws : va_W) (cells slots pc : Nat) (lv : List (Nat × Value)) (st : List Value) : Prop := match E with
  | (p, l, e, R, s, m, args, below, meth, c, Q, D, _, _, A) => ∀ (H : Heap) (locs : List Loc) (ls : Array Slot), va_P D vwCl ws H → va_D A ws → va_S A s.heap H locs → lv_has ls c.maxLocals lv → W p l e R s m args below meth c H locs cells slots Q (F0 m pc ls st)
section CTOR
variable {E : JT} {ws ws' : va_W} {cells slots pc : Nat} {lv lv' : List (Nat × Value)} {st : List Value} {cc : ByteArray} {own : String} {nL lev mc ms : Nat}
theorem j_norm (h : ws = ws') (kk : J E ws' cells slots pc lv st) : J E ws cells slots pc lv st := h ▸ kk
theorem j_cnt {c2 s2 : Nat} (h : cells = c2) (h2 : slots = s2) (kk : J E ws c2 s2 pc lv st) : J E ws cells slots pc lv st := by subst h; subst h2; exact kk
theorem j_iconst (X : Cj E cc own nL lev mc ms) {n : Int} {v : Int32} (hv : Int32.ofInt n = v) (d : decode cc pc = .ok (.iconst n, 1)) (kk : J E ws cells slots (pc + 1) lv (.int v :: st)) : J E ws cells slots pc lv (st) := by
  obtain ⟨p, l, e, R, s, m, args, below, meth, c, Q, D, cI, cZ, A⟩ := E
  obtain ⟨hx, hb, hml, hown, hts, hK, hN, hlk, hrt, hin0, hA, hR⟩ := X
  intro H locs ls hP hD hS hl
  exact lv_iconst hx hb d hv (kk H locs ls hP hD hS hl)
theorem j_bipush (X : Cj E cc own nL lev mc ms) {n : Int} {v : Int32} (hv : (Int8.ofInt n).toInt32 = v) (d : decode cc pc = .ok (.bipush n, 2)) (kk : J E ws cells slots (pc + 2) lv (.int v :: st)) : J E ws cells slots pc lv (st) := by
  obtain ⟨p, l, e, R, s, m, args, below, meth, c, Q, D, cI, cZ, A⟩ := E
  obtain ⟨hx, hb, hml, hown, hts, hK, hN, hlk, hrt, hin0, hA, hR⟩ := X
  intro H locs ls hP hD hS hl
  exact lv_bipush hx hb d hv (kk H locs ls hP hD hS hl)
theorem j_sipush (X : Cj E cc own nL lev mc ms) {n : Int} {v : Int32} (hv : (Int16.ofInt n).toInt32 = v) (d : decode cc pc = .ok (.sipush n, 3)) (kk : J E ws cells slots (pc + 3) lv (.int v :: st)) : J E ws cells slots pc lv (st) := by
  obtain ⟨p, l, e, R, s, m, args, below, meth, c, Q, D, cI, cZ, A⟩ := E
  obtain ⟨hx, hb, hml, hown, hts, hK, hN, hlk, hrt, hin0, hA, hR⟩ := X
  intro H locs ls hP hD hS hl
  exact lv_sipush hx hb d hv (kk H locs ls hP hD hS hl)
theorem j_aload_n (X : Cj E cc own nL lev mc ms) {q : Fin 4} {x : Nat} (k : Nat) (hk : lv[k]? = some ((q : Nat), .ref x)) (d : decode cc pc = .ok (.aload_n q, 1)) (kk : J E ws cells slots (pc + 1) lv (.ref x :: st)) : J E ws cells slots pc lv (st) := by
  obtain ⟨p, l, e, R, s, m, args, below, meth, c, Q, D, cI, cZ, A⟩ := E
  obtain ⟨hx, hb, hml, hown, hts, hK, hN, hlk, hrt, hin0, hA, hR⟩ := X
  intro H locs ls hP hD hS hl
  exact lv_aload_n hx hb d rfl (lv_at hl k hk) (kk H locs ls hP hD hS hl)
theorem j_iload_n (X : Cj E cc own nL lev mc ms) {q : Fin 4} {x : Int32} (k : Nat) (hk : lv[k]? = some ((q : Nat), .int x)) (d : decode cc pc = .ok (.iload_n q, 1)) (kk : J E ws cells slots (pc + 1) lv (.int x :: st)) : J E ws cells slots pc lv (st) := by
  obtain ⟨p, l, e, R, s, m, args, below, meth, c, Q, D, cI, cZ, A⟩ := E
  obtain ⟨hx, hb, hml, hown, hts, hK, hN, hlk, hrt, hin0, hA, hR⟩ := X
  intro H locs ls hP hD hS hl
  exact lv_iload_n hx hb d rfl (lv_at hl k hk) (kk H locs ls hP hD hS hl)
theorem j_istore_n (X : Cj E cc own nL lev mc ms) {q : Fin 4} {x : Int32} (hn : (q : Nat) < nL) (hlv : lvPut lv (q : Nat) (.int x) = lv') (d : decode cc pc = .ok (.istore_n q, 1)) (kk : J E ws cells slots (pc + 1) lv' (st)) : J E ws cells slots pc lv (.int x :: st) := by
  obtain ⟨p, l, e, R, s, m, args, below, meth, c, Q, D, cI, cZ, A⟩ := E
  obtain ⟨hx, hb, hml, hown, hts, hK, hN, hlk, hrt, hin0, hA, hR⟩ := X
  intro H locs ls hP hD hS hl
  exact lv_istore_n hx hb d rfl hl (by rw [hml]; exact hn) rfl (fun ls' hl' => kk H locs ls' hP hD hS (by rw [← hlv]; exact lvPut_has hl'))
theorem j_iinc (X : Cj E cc own nL lev mc ms) {i : Nat} {n : Int} {x v : Int32} (k : Nat) (hk : lv[k]? = some (i, .int x)) (hd : x + Int32.ofInt n = v) (hn : i < nL) (hlv : lvPut lv i (.int v) = lv') (d : decode cc pc = .ok (.iinc i n, 3)) (kk : J E ws cells slots (pc + 3) lv' (st)) : J E ws cells slots pc lv (st) := by
  obtain ⟨p, l, e, R, s, m, args, below, meth, c, Q, D, cI, cZ, A⟩ := E
  obtain ⟨hx, hb, hml, hown, hts, hK, hN, hlk, hrt, hin0, hA, hR⟩ := X
  intro H locs ls hP hD hS hl
  exact lv_iinc hx hb d hl hk hd (by rw [hml]; exact hn) rfl (fun ls' hl' => kk H locs ls' hP hD hS (by rw [← hlv]; exact lvPut_has hl'))
theorem j_goto (X : Cj E cc own nL lev mc ms) {off : Int} {tgt : Nat} (d : decode cc pc = .ok (.goto off, 3)) (ht : (pc : Int) + off = (tgt : Int)) (kk : J E ws cells slots (tgt) lv (st)) : J E ws cells slots pc lv (st) := by
  obtain ⟨p, l, e, R, s, m, args, below, meth, c, Q, D, cI, cZ, A⟩ := E
  obtain ⟨hx, hb, hml, hown, hts, hK, hN, hlk, hrt, hin0, hA, hR⟩ := X
  intro H locs ls hP hD hS hl
  exact lv_goto hx hb d ht (kk H locs ls hP hD hS hl)
theorem j_dup (X : Cj E cc own nL lev mc ms) {va : Value} (hc : va.category = 1) (d : decode cc pc = .ok (.dup, 1)) (kk : J E ws cells slots (pc + 1) lv (va :: va :: st)) : J E ws cells slots pc lv (va :: st) := by
  obtain ⟨p, l, e, R, s, m, args, below, meth, c, Q, D, cI, cZ, A⟩ := E
  obtain ⟨hx, hb, hml, hown, hts, hK, hN, hlk, hrt, hin0, hA, hR⟩ := X
  intro H locs ls hP hD hS hl
  exact lv_dup hx hb d hc (kk H locs ls hP hD hS hl)
theorem j_icmp_geT (X : Cj E cc own nL lev mc ms) {x y : Int32} {off : Int} {tgt : Nat} (d : decode cc pc = .ok (.if_icmp .ge off, 3)) (ht : (pc : Int) + off = (tgt : Int)) (h0 : y ≤ x) (kk : J E ws cells slots (tgt) lv (st)) : J E ws cells slots pc lv (.int y :: .int x :: st) := by
  obtain ⟨p, l, e, R, s, m, args, below, meth, c, Q, D, cI, cZ, A⟩ := E
  obtain ⟨hx, hb, hml, hown, hts, hK, hN, hlk, hrt, hin0, hA, hR⟩ := X
  intro H locs ls hP hD hS hl
  exact lv_icmp_ge hx hb d ht (fun _ => kk H locs ls hP hD hS hl) (fun h => absurd h0 h)
theorem j_icmp_geF (X : Cj E cc own nL lev mc ms) {x y : Int32} {off : Int} {tgt : Nat} (d : decode cc pc = .ok (.if_icmp .ge off, 3)) (ht : (pc : Int) + off = (tgt : Int)) (h0 : ¬ y ≤ x) (kk : J E ws cells slots (pc + 3) lv (st)) : J E ws cells slots pc lv (.int y :: .int x :: st) := by
  obtain ⟨p, l, e, R, s, m, args, below, meth, c, Q, D, cI, cZ, A⟩ := E
  obtain ⟨hx, hb, hml, hown, hts, hK, hN, hlk, hrt, hin0, hA, hR⟩ := X
  intro H locs ls hP hD hS hl
  exact lv_icmp_ge hx hb d ht (fun h => absurd h h0) (fun _ => kk H locs ls hP hD hS hl)
theorem j_objInit (X : Cj E cc own nL lev mc ms) {i x : Nat} (hw : Cond.methodLink own i objectInit ∈ TG) (hw2 : Cond.instanceMethod objectInit ∈ TG) (hw3 : Cond.code objectInit ⟨#[0xb1]⟩ 1 none ∈ TG) (hlev : 1 ≤ lev) (hroom : (st.map fun v => v.category).sum ≤ 8) (d : decode cc pc = .ok (.invokespecial i, 3)) (kk : J E ws cells slots (pc + 3) lv st) : J E ws cells slots pc lv (.ref x :: st) := by
  obtain ⟨p, l, e, R, s, m, args, below, meth, c, Q, D, cI, cZ, A⟩ := E
  obtain ⟨hx, hb, hml, hown, hts, hK, hN, hlk, hrt, hin0, hA, hR⟩ := X
  intro H locs ls hP hD hS hl
  subst hR
  exact W.objInit hx hb hown (hts _ hw) (hts _ hw2) (hts _ hw3) rfl hl.1 rfl d hlev (by show 2 * 0 + _ + 12 ≤ 40 * lev + 20; omega) (kk H locs ls hP hD hS hl)
theorem j_new (X : Cj E cc own nL lev mc ms) {i ci N : Nat} {C : String} {T : u_T} {ty0 : Nat → FieldType} {fs : List Value} (hF : cOK ci C T N ty0) (hw : Cond.classLink own i C ∈ TG) (hw2 : Cond.instantiable C N ∈ TG) (hw3 : Cond.initialized C ∈ TG) (hfs : ∀ j, j < N → defaultValue (ty0 j) = vp_V fs j) (hc : cells + 1 ≤ mc) (hs : slots + N ≤ ms) (d : decode cc pc = .ok (.new i, 3)) (kk : ∀ q : Nat, J E (ws ++ [(q, .inr (ci, fs))]) (cells + 1) (slots + N) (pc + 3) lv (.ref q :: st)) : J E ws cells slots pc lv st := by
  obtain ⟨p, l, e, R, s, m, args, below, meth, c, Q, D, cI, cZ, A⟩ := E
  obtain ⟨hx, hb, hml, hown, hts, hK, hN, hlk, hrt, hin0, hA, hR⟩ := X
  intro H locs ls hP hD hS hl
  subst hR
  obtain ⟨hcl, hin, hty, hnm⟩ := hF
  exact va_new hx hb hts hin ty0 hty hown (hts _ hw) (hts _ hw2) (hts _ hw3) hK hP hD hS hA hcl hfs hc hs d (fun q H1 h1 h2 h3 => kk q H1 locs ls h1 h2 h3 hl)
theorem j_newI (X : Cj E cc own nL lev mc ms) {n : Int32} (N : Nat) (hw : Cond.arrayClass .int ∈ TG) (hn : ¬ n < 0) (hNN : n.toNatClampNeg = N) (hby : N ≤ 10000) (hc : cells + 1 ≤ mc) (hs : slots + N ≤ ms) (d : decode cc pc = .ok (.newarray .int, 2)) (kk : ∀ q : Nat, J E (ws ++ [(q, .inl (eI E, N, .inl (fun _ => 0)))]) (cells + 1) (slots + N) (pc + 2) lv (.ref q :: st)) : J E ws cells slots pc lv (.int n :: st) := by
  obtain ⟨p, l, e, R, s, m, args, below, meth, c, Q, D, cI, cZ, A⟩ := E
  obtain ⟨hx, hb, hml, hown, hts, hK, hN, hlk, hrt, hin0, hA, hR⟩ := X
  intro H locs ls hP hD hS hl
  subst hR
  have hby2 : N * componentBytes .int ≤ 536870912 := Nat.le_trans (Nat.mul_le_mul hby (show componentBytes .int ≤ 4 by decide)) (by decide)
  refine va_newa (atype := .int) (ty := .int) (a0 := (N, .inl (fun _ => 0))) hx hb (hts _ hw) rfl hK hP hD hS hA (fun cA => rfl) hn hNN hby2 hc hs d (fun q cA H1 hK1 h1 h2 h3 => ?_)
  have e : cA = cI := by
    have a1 : s.vm.findClass ("[" ++ FieldType.toString .int) = some cA := (hK1.2 2 (cA, .int) rfl).2
    have a2 : s.vm.findClass ("[" ++ FieldType.toString .int) = some cI := (hK.2 0 (cI, .int) rfl).2
    exact Option.some.inj (a1.symm.trans a2)
  subst e
  exact kk q H1 locs ls h1 h2 h3 hl
theorem j_newZ (X : Cj E cc own nL lev mc ms) {n : Int32} (N : Nat) (hw : Cond.arrayClass .boolean ∈ TG) (hn : ¬ n < 0) (hNN : n.toNatClampNeg = N) (hby : N ≤ 10000) (hc : cells + 1 ≤ mc) (hs : slots + N ≤ ms) (d : decode cc pc = .ok (.newarray .boolean, 2)) (kk : ∀ q : Nat, J E (ws ++ [(q, .inl (eZ E, N, .inl (fun _ => 0)))]) (cells + 1) (slots + N) (pc + 2) lv (.ref q :: st)) : J E ws cells slots pc lv (.int n :: st) := by
  obtain ⟨p, l, e, R, s, m, args, below, meth, c, Q, D, cI, cZ, A⟩ := E
  obtain ⟨hx, hb, hml, hown, hts, hK, hN, hlk, hrt, hin0, hA, hR⟩ := X
  intro H locs ls hP hD hS hl
  subst hR
  have hby2 : N * componentBytes .boolean ≤ 536870912 := Nat.le_trans (Nat.mul_le_mul hby (show componentBytes .boolean ≤ 4 by decide)) (by decide)
  refine va_newa (atype := .boolean) (ty := .boolean) (a0 := (N, .inl (fun _ => 0))) hx hb (hts _ hw) rfl hK hP hD hS hA (fun cA => rfl) hn hNN hby2 hc hs d (fun q cA H1 hK1 h1 h2 h3 => ?_)
  have e : cA = cZ := by
    have a1 : s.vm.findClass ("[" ++ FieldType.toString .boolean) = some cA := (hK1.2 2 (cA, .boolean) rfl).2
    have a2 : s.vm.findClass ("[" ++ FieldType.toString .boolean) = some cZ := (hK.2 1 (cZ, .boolean) rfl).2
    exact Option.some.inj (a1.symm.trans a2)
  subst e
  exact kk q H1 locs ls h1 h2 h3 hl
theorem j_put (X : Cj E cc own nL lev mc ms) {i ci N j a : Nat} {T : u_T} {C : String} {ty0 : Nat → FieldType} {fs : List Value} {v : Value} (q0 : Nat) (ty : FieldType) (hF : cOK ci C T N ty0) (hL : lkF own i T j) (he : ws[q0]? = some (a, .inr (ci, fs))) (hj : j < N) (hfin : (T j).2.2.2 = false)  (hd : parseFieldDescriptor (T j).2.2.1 = some ty) (hn : narrow ty v = v) (hfit : fits ty v = true) (hlen : j < fs.length) (hws : ws.set q0 (a, .inr (ci, fs.set j v)) = ws') (d : decode cc pc = .ok (.putfield i, 3)) (kk : J E ws' cells slots (pc + 3) lv st) : J E ws cells slots pc lv (v :: .ref a :: st) := by
  obtain ⟨p, l, e, R, s, m, args, below, meth, c, Q, D, cI, cZ, A⟩ := E
  obtain ⟨hx, hb, hml, hown, hts, hK, hN, hlk, hrt, hin0, hA, hR⟩ := X
  intro H locs ls hP hD hS hl
  obtain ⟨hcl, hin, hty, hnm⟩ := hF
  subst hws
  rcases hL with hL | ⟨host, hL⟩
  · exact va_put hx hb hts hin ty0 hty hnm hown hK hP hD hS q0 he hcl j hj (hts _ hL) (fun _ h => h) hfin  hd hn hfit hlen d (fun H1 locs1 h1 h2 h3 => kk H1 locs1 ls h1 h2 h3 hl)
  · exact va_putN hx hb hts hin ty0 hty hnm hown hK hP hD hS q0 he hcl j hj (va_Nw.use rfl (hN _ hL)) (fun _ h => h) hfin hd hn hfit hlen d (fun H1 locs1 h1 h2 h3 => kk H1 locs1 ls h1 h2 h3 hl)
theorem j_putF (X : Cj E cc own nL lev mc ms) {i ci N j a : Nat} {T : u_T} {C : String} {ty0 : Nat → FieldType} {fs : List Value} {v : Value} (q0 : Nat) (ty : FieldType) (hF : cOK ci C T N ty0) (hL : Cond.fieldLink own i (T j).1 (T j).2.1 (T j).2.2.1 ∈ TG) (he : ws[q0]? = some (a, .inr (ci, fs))) (hj : j < N) (hfin : (T j).2.2.2 = true) (hdecl : (T j).1 = own) (hd : parseFieldDescriptor (T j).2.2.1 = some ty) (hn : narrow ty v = v) (hfit : fits ty v = true) (hlen : j < fs.length) (hws : ws.set q0 (a, .inr (ci, fs.set j v)) = ws') (d : decode cc pc = .ok (.putfield i, 3)) (kk : J E ws' cells slots (pc + 3) lv st) : J E ws cells slots pc lv (v :: .ref a :: st) := by
  obtain ⟨p, l, e, R, s, m, args, below, meth, c, Q, D, cI, cZ, A⟩ := E
  obtain ⟨hx, hb, hml, hown, hts, hK, hN, hlk, hrt, hin0, hA, hR⟩ := X
  intro H locs ls hP hD hS hl
  obtain ⟨hcl, hin, hty, hnm⟩ := hF
  subst hws
  exact va_putF hx hb hts hin ty0 hty hnm hown hK hP hD hS q0 he hcl j hj (hts _ hL) (fun _ h => h) hfin hin0 hdecl hd hn hfit hlen d (fun H1 locs1 h1 h2 h3 => kk H1 locs1 ls h1 h2 h3 hl)
theorem j_get (X : Cj E cc own nL lev mc ms) {i ci N j a : Nat} {T : u_T} {C : String} {ty0 : Nat → FieldType} {fs : List Value} {v : Value} (q0 : Nat) (hF : cOK ci C T N ty0) (hL : lkF own i T j) (he : ws[q0]? = some (a, .inr (ci, fs))) (hj : j < N) (hv : fs[j]? = some v) (d : decode cc pc = .ok (.getfield i, 3)) (kk : J E ws cells slots (pc + 3) lv (v :: st)) : J E ws cells slots pc lv (.ref a :: st) := by
  obtain ⟨p, l, e, R, s, m, args, below, meth, c, Q, D, cI, cZ, A⟩ := E
  obtain ⟨hx, hb, hml, hown, hts, hK, hN, hlk, hrt, hin0, hA, hR⟩ := X
  intro H locs ls hP hD hS hl
  obtain ⟨hcl, hin, hty, hnm⟩ := hF
  rcases hL with hL | ⟨host, hL⟩
  · exact va_get hx hb hts hin hown hK hP q0 he hcl j hj (hts _ hL) (fun _ h => h) hv d (kk H locs ls hP hD hS hl)
  · exact va_getN hx hb hts hin hown hK hP q0 he hcl j hj (va_Nw.use rfl (hN _ hL)) (fun _ h => h) hv d (kk H locs ls hP hD hS hl)
theorem j_iast (X : Cj E cc own nL lev mc ms) {a n : Nat} {f : Nat → Int32} {i x : Int32} (q0 I : Nat) (he : ws[q0]? = some (a, .inl (eI E, n, .inl f))) (hI : i.toNatClampNeg = I) (hin : vin i n = true) (hws : ws.set q0 (a, .inl (eI E, n, .inl (upd f I (x)))) = ws') (d : decode cc pc = .ok (.iastore, 1)) (kk : J E ws' cells slots (pc + 1) lv st) : J E ws cells slots pc lv (.int x :: .int i :: .ref a :: st) := by
  obtain ⟨p, l, e, R, s, m, args, below, meth, c, Q, D, cI, cZ, A⟩ := E
  obtain ⟨hx, hb, hml, hown, hts, hK, hN, hlk, hrt, hin0, hA, hR⟩ := X
  intro H locs ls hP hD hS hl
  subst hws
  subst hI
  exact va_iast hx hb hK hP hD hS q0 0 he rfl (vin_in hin) d (fun H1 locs1 h1 h2 h3 => kk H1 locs1 ls h1 h2 h3 hl)
theorem j_zast (X : Cj E cc own nL lev mc ms) {a n : Nat} {f : Nat → Int32} {i x : Int32} (q0 I : Nat) (he : ws[q0]? = some (a, .inl (eZ E, n, .inl f))) (hI : i.toNatClampNeg = I) (hin : vin i n = true) (hws : ws.set q0 (a, .inl (eZ E, n, .inl (upd f I (vp_nar .boolean x)))) = ws') (d : decode cc pc = .ok (.bastore, 1)) (kk : J E ws' cells slots (pc + 1) lv st) : J E ws cells slots pc lv (.int x :: .int i :: .ref a :: st) := by
  obtain ⟨p, l, e, R, s, m, args, below, meth, c, Q, D, cI, cZ, A⟩ := E
  obtain ⟨hx, hb, hml, hown, hts, hK, hN, hlk, hrt, hin0, hA, hR⟩ := X
  intro H locs ls hP hD hS hl
  subst hws
  subst hI
  exact va_zast hx hb hK hP hD hS q0 1 he rfl (vin_in hin) d (fun H1 locs1 h1 h2 h3 => kk H1 locs1 ls h1 h2 h3 hl)
def ipS (As : List Value) (ws0 : va_W) (sz : Nat) (D : va_G) (cI cZ : ClassId) : Array Value → State → Prop := va_Pc As (fun U => U.heap.size = sz ∧ va_P D vwCl ws0 U.heap ∧ va_K D vwCl [(cI, .int), (cZ, .boolean)] U ∧ (∀ w ∈ NW, va_Nw w U) ∧ va_D (fun _ => True) ws0)
def iqS (ws0 : va_W) (W1 : (Nat → Nat) → va_W) (sz : Nat) (D : va_G) : Array Value → State → Outcome → State → Prop := va_Qv (fun _ : Nat → Nat => True) (fun u t => va_P D vwCl (W1 u) t.heap ∧ va_D (va_A ws0 sz) (W1 u)) (va_A ws0 sz)
def IMet (y : MethodName) (bytes : ByteArray) (maxL lev mc ms : Nat) (As : List Value) (ws0 : va_W) (W1 : ClassId → ClassId → (Nat → Nat) → va_W) : Prop := ∀ (l : Launch) (D : va_G) (cI cZ : ClassId) (sz : Nat), Met l y (.code y bytes maxL none :: TG) (rmC lev mc ms) (ipS As ws0 sz D cI cZ) (iqS ws0 (W1 cI cZ) sz D) mc ms (va_A ws0 sz)
theorem mk_init {y : MethodName} {bytes : ByteArray} {maxL : Nat} {As : List Value} {ws0 : va_W} {W1 : ClassId → ClassId → (Nat → Nat) → va_W} (lv0 : List (Nat × Value)) (hp : plainName y.cls = true) (hnm : y.name = "<init>") (hlen : (lg_sl As).length ≤ maxL) (hlv : lv_args 0 As = lv0) (hG : ∀ E : JT, Cj E bytes y.cls maxL lev mc ms → (∀ (u : Nat → Nat) (pc : Nat) (lv : List (Nat × Value)), decode bytes pc = .ok (.return_, 1) → J E (W1 (eI E) (eZ E) u) mc ms pc lv []) → J E ws0 0 0 0 lv0 []) : IMet y bytes maxL lev mc ms As ws0 W1 := by
  intro l D cI cZ sz
  refine Met.ofW (cc := bytes) (maxL := maxL) (ret := none) hp rfl ?_
  intro p e s m args below meth c s₁ B hml hv
  obtain ⟨rfl, hsz, hP, hK, hN, hD0⟩ := hv
  subst hsz
  have hts := atoms_spec (ws := Cond.code y bytes maxL none :: TG) B.pre
  have hb := B.bytes
  have hlk := B.notSynchronized
  have X : Cj (p, l, e, (headSpec (Cond.code y bytes maxL none :: TG) (rmC lev mc ms)).room, s, m, As.toArray, below, meth, c, MQ below (iqS ws0 (W1 cI cZ) s.heap.size D) As.toArray s mc ms (va_A ws0 s.heap.size), D, cI, cZ, va_A ws0 s.heap.size) bytes y.cls maxL lev mc ms := ⟨B.exec, hb, hml, findClass_of_methodNamed B.named, fun w hw => hts w (List.mem_cons_of_mem _ hw), hK, hN, hlk, B.returns, (name_of_methodNamed B.named B.method).1.trans hnm, fun q h => Or.inr h, rfl⟩
  have hl := lv_entry As (n := maxL) hlen
  rw [hlv] at hl
  rw [lg_entry_eq]
  refine hG _ X ?_ s.heap [] _ hP (hD0.self (sz := s.heap.size)) va_S.rf (by rw [hml]; exact hl)
  intro u pc lv hd H locs ls hP1 hD1 hS1 hl1
  exact W.vret B.exec hb B.returns (fun t ht hW => ⟨⟨u, rfl, trivial, by rw [ht]; exact hP1, hD1⟩, hS1.F ht⟩) hS1.2.2 hd
def mkI (y : MethodName) (bytes : ByteArray) (maxL n : Nat) : Prop := Cond.instanceMethod y ∈ TG ∧ Cond.initialized y.cls ∈ TG ∧ Cond.code y bytes maxL none ∈ TG ∧ y.name = "<init>" ∧ (y.cls ≠ "java/lang/invoke/MethodHandle" ∧ y.cls ≠ "java/lang/invoke/VarHandle" ∧ (parseMethodDescriptor y.desc).map (fun d => d.parameters.length) = some n)
theorem ipS_blind {As : List Value} {ws0 : va_W} {sz : Nat} {D : va_G} {cI cZ : ClassId} : FrameBlind (ipS As ws0 sz D cI cZ) := fun a U g mk h => by
  obtain ⟨h1, h2, h3, h4, h5, h6⟩ := h
  exact ⟨h1, h2, h3, va_K.moved (u := U) (U := U.calling g mk a) (Vm.Alike.refl U.vm) h4, fun w hw => va_Nw.same (u := U) (U := U.calling g mk a) (nw_tab hw) rfl (h5 w hw), h6⟩
theorem j_call (X : Cj E cc own nL lev mc ms) {i n maxL lev' mc' ms' b : Nat} {y : MethodName} {bytes : ByteArray} {e0 : va_E} {As : List Value} {wr : va_W} {W1 : ClassId → ClassId → (Nat → Nat) → va_W} {st0 : List Value} (hM : IMet y bytes maxL lev' mc' ms' (.ref b :: As) [(b, e0)] W1) (hm : mkI y bytes maxL n) (hl0 : lkM own i y) (k : Nat) (isR : List Nat) (hk : ws[k]? = some (b, e0)) (hR0 : isR.map (fun i => ws[i]?) = wr.map some) (hnd : va_nd isR = true) (hdis : ∀ i ∈ isR, i ∉ [k]) (hn : As.length = n) (hlev : lev' + 1 ≤ lev) (hmx : maxL ≤ 21) (hroom : (st.map fun v => v.category).sum ≤ 8) (hc : cells + mc' ≤ mc) (hs : slots + ms' ≤ ms) (hst : st0 = As.reverse ++ .ref b :: st) (d : decode cc pc = .ok (.invokespecial i, 3)) (kk : ∀ u : Nat → Nat, J E (wr ++ W1 (eI E) (eZ E) u) (cells + mc') (slots + ms') (pc + 3) lv st) : J E ws cells slots pc lv st0 := by
  obtain ⟨p, l, e, R, s, m, args, below, meth, c, Q, D, cI, cZ, A⟩ := E
  obtain ⟨hx, hb, hml, hown, hts, hK, hN, hlk, hrt, hin0, hA, hR⟩ := X
  intro H locs ls hP hD hS hl
  subst hR
  have hC0 : [k].map (fun i => ws[i]?) = [(b, e0)].map some := by simp [hk]
  have hPc := hP.sub (ws' := [(b, e0)]) [k] (by simp [hk])
  have hDc := hD.sub (ws' := [(b, e0)]) [k] (by simp [va_nd]) hC0
  have hFc := va_free (wc := [(b, e0)]) hD hS hA [k] hC0
  have hMe := hM l D cI cZ H.size
  have hR2 : (rmC lev' mc' ms').frames + 1 ≤ (rmC lev mc ms).frames ∧ 8 + (maxL + 11) + (rmC lev' mc' ms').locals ≤ (rmC lev mc ms).locals := ⟨hlev, by show 8 + (maxL + 11) + (40 * lev' + 20) ≤ 40 * lev + 20; omega⟩
  have hsz : (F0 m pc ls st0).locals.size = nL := hl.1.trans hml
  have hpre : PreS s H (ipS (.ref b :: As) [(b, e0)] H.size D cI cZ) (.ref b :: As) := ⟨ipS_blind, fun U hU hW => ⟨rfl, by rw [hU], by rw [hU]; exact hPc, va_K.moved hW.alike hK, fun w hw => nw_warm hw hW (hN w hw), hDc.weaken (fun _ _ _ _ => trivial)⟩⟩
  rcases hl0 with hL | ⟨host, hL⟩
  · exact va_callv (va_runI (As := As) (rest := st) ⟨hx, hb, hml, hown, hts⟩ hMe (cwI n hts (gi_code hm.2.2.1) rfl rfl rfl (hts _ hm.2.1) (hts _ hL) (hts _ hm.1) hm.2.2.2.1 hm.2.2.2.2 hR2) hpre rfl hn hsz hst (lv_room hroom) d ⟨hc, hs⟩) hS (fun q _ h => hFc q h) hFc (fun u t H1 locs1 ht hvm hp1 hB hz hk1 hS1 => by
      obtain ⟨hP1, hD1⟩ := hB
      rw [ht] at hP1
      obtain ⟨hP2, hD2⟩ := va_join (wr := wr) hP hD [k] isR hC0 hR0 hnd hdis hk1 hFc hP1 hD1
      exact kk u H1 locs1 ls hP2 hD2 hS1 hl)
  · exact va_callv (va_runIN (As := As) (rest := st) ⟨hx, hb, hml, hown, hts⟩ hMe ⟨va_cnB n hts (gi_code hm.2.2.1) rfl rfl rfl (hN _ hL) (hts _ hm.2.1) hm.2.2.2.2 hR2, hm.2.2.2.1, hts _ hm.1⟩ hpre rfl hn hsz hst (lv_room hroom) d ⟨hc, hs⟩) hS (fun q _ h => hFc q h) hFc (fun u t H1 locs1 ht hvm hp1 hB hz hk1 hS1 => by
      obtain ⟨hP1, hD1⟩ := hB
      rw [ht] at hP1
      obtain ⟨hP2, hD2⟩ := va_join (wr := wr) hP hD [k] isR hC0 hR0 hnd hdis hk1 hFc hP1 hD1
      exact kk u H1 locs1 ls hP2 hD2 hS1 hl)
end CTOR
