theorem tw_in {w : Cond} (i : Nat) (h : tables_1[i]? = some w) : w ∈ lw_tbl := List.mem_append_right _ (List.mem_of_getElem? h)
theorem ts_in {w : Cond} (i : Nat) (h : (k2_sels lw_privs)[i]? = some w) : w ∈ lw_tbl := List.mem_append_left _ (List.mem_of_getElem? h)
def nestWord : Cond → Bool
  | .fieldLinkNest .. => true
  | .methodLinkNest .. => true
  | _ => false
def TG : List Cond := lw_tbl.filter goodWord
def NW : List Cond := lw_tbl.filter nestWord
theorem tg_of {w : Cond} (i : Nat) (h : tables_1[i]? = some w) (g : goodWord w = true) : w ∈ TG := List.mem_filter.mpr ⟨tw_in i h, g⟩
theorem tgs_of {w : Cond} (i : Nat) (h : (k2_sels lw_privs)[i]? = some w) (g : goodWord w = true) : w ∈ TG := List.mem_filter.mpr ⟨ts_in i h, g⟩
theorem nw_of {w : Cond} (i : Nat) (h : tables_1[i]? = some w) (g : nestWord w = true) : w ∈ NW := List.mem_filter.mpr ⟨tw_in i h, g⟩
theorem tg_good {w : Cond} (h : w ∈ TG) : (w.onTables && w.keeps) = true ∨ ∃ ty, w = .arrayClass ty := good_of_word (List.mem_filter.mp h).2
theorem nw_warm {w : Cond} (h : w ∈ NW) {s U : State} (hW : s.WarmedH U.vm) (hZ : va_Nw w s) : va_Nw w U := by
  have h2 := (List.mem_filter.mp h).2
  cases w <;> first | exact va_Nw.warmF hW hZ | exact va_Nw.warmM hW hZ | (exact absurd h2 (by decide)) | (exfalso; revert h2; simp [nestWord])
theorem nw_tab {w : Cond} (h : w ∈ NW) : w.onTables = true := by
  have h2 := (List.mem_filter.mp h).2
  cases w <;> first | rfl | (exfalso; revert h2; simp [nestWord])
abbrev ST : Type := (Nat → Nat → Int32) × Int64
abbrev LE : Type := (Nat × List (Nat × Nat)) ⊕ (Bool × Nat)
def mapI {α β : Type} (f : Nat → α → β) : Nat → List α → List β
  | _, [] => []
  | i, a :: l => f i a :: mapI f (i + 1) l
theorem mapI_get {α β : Type} (f : Nat → α → β) : ∀ (l : List α) (n i : Nat), (mapI f n l)[i]? = l[i]?.map (f (n + i))
  | [], _, _ => by simp [mapI]
  | a :: l, n, 0 => by simp [mapI]
  | a :: l, n, i + 1 => by
    show (mapI f (n + 1) l)[i]? = _
    rw [mapI_get f l (n + 1) i, List.getElem?_cons_succ]
    have e : n + 1 + i = n + (i + 1) := by omega
    rw [e]
theorem mapI_get0 {α β : Type} {f : Nat → α → β} {l : List α} {i : Nat} : (mapI f 0 l)[i]? = l[i]?.map (f i) := by rw [mapI_get, Nat.zero_add]
theorem mapI_len {α β : Type} (f : Nat → α → β) : ∀ (l : List α) (n : Nat), (mapI f n l).length = l.length
  | [], _ => rfl
  | a :: l, n => by show (mapI f (n + 1) l).length + 1 = _; rw [mapI_len f l (n + 1)]; rfl
def sF (ad : Nat → Nat) (S : ST) (k j : Nat) (f : Nat × Nat) : Value := if f.1 = 0 then .ref (ad f.2) else if f.1 = 1 then .int (S.1 k j) else .long S.2
def sE (ad : Nat → Nat) (cI cZ : ClassId) (S : ST) (k : Nat) (x : LE) : va_E := match x with
  | .inl o => .inr (o.1, mapI (sF ad S k) 0 o.2)
  | .inr a => .inl (if a.1 then cZ else cI, a.2, .inl (S.1 k))
def sW (lay : List LE) (ad : Nat → Nat) (cI cZ : ClassId) (S : ST) : va_W := mapI (fun k x => (ad k, sE ad cI cZ S k x)) 0 lay
def us (S : ST) (k j : Nat) (v : Int32) : ST := (fun a => if a = k then upd (S.1 k) j v else S.1 a, S.2)
def ul (S : ST) (v : Int64) : ST := (S.1, v)
theorem us_at (S : ST) (k j : Nat) (v : Int32) : (us S k j v).1 k = upd (S.1 k) j v := by simp [us]
theorem us_ne (S : ST) {k a : Nat} (j : Nat) (v : Int32) (h : a ≠ k) : (us S k j v).1 a = S.1 a := by simp [us, h]
theorem us_2 (S : ST) (k j : Nat) (v : Int32) : (us S k j v).2 = S.2 := rfl
theorem sW_at {lay : List LE} {ad : Nat → Nat} {cI cZ : ClassId} {S : ST} {k : Nat} {x : LE} (h : lay[k]? = some x) : (sW lay ad cI cZ S)[k]? = some (ad k, sE ad cI cZ S k x) := by
  simp [sW, mapI_get0, h]
theorem sE_ne {ad : Nat → Nat} {cI cZ : ClassId} {S : ST} {k i j : Nat} {v : Int32} (x : LE) (h : i ≠ k) : sE ad cI cZ (us S k j v) i x = sE ad cI cZ S i x := by
  have e : sF ad (us S k j v) i = sF ad S i := by
    funext a f
    simp only [sF, us_ne S j v h]
    rfl
  cases x with
  | inl o => simp only [sE, e]
  | inr a => simp only [sE, us_ne S j v h]
theorem sW_put {lay : List LE} {ad : Nat → Nat} {cI cZ : ClassId} {S : ST} {k j : Nat} {v : Int32} {x : LE} {y : va_E} (h : lay[k]? = some x) (hy : y = sE ad cI cZ (us S k j v) k x) : (sW lay ad cI cZ S).set k (ad k, y) = sW lay ad cI cZ (us S k j v) := by
  apply List.ext_getElem?
  intro i
  have hl : k < lay.length := (List.getElem?_eq_some_iff.mp h).1
  by_cases hi : i = k
  · subst hi
    rw [List.getElem?_set_self (by rw [sW, mapI_len]; exact hl), sW_at h, hy]
  · rw [List.getElem?_set_ne (Ne.symm hi)]
    simp only [sW, mapI_get0]
    cases hx : lay[i]? with
    | none => rfl
    | some z => simp only [Option.map_some, sE_ne z hi]
theorem sW_putI {lay : List LE} {ad : Nat → Nat} {cI cZ : ClassId} {S : ST} {k j ci d : Nat} {fl : List (Nat × Nat)} {v : Int32} (h : lay[k]? = some (.inl (ci, fl))) (hj : fl[j]? = some (1, d)) : (sW lay ad cI cZ S).set k (ad k, .inr (ci, (mapI (sF ad S k) 0 fl).set j (.int v))) = sW lay ad cI cZ (us S k j v) := by
  refine sW_put h ?_
  simp only [sE]
  congr 2
  apply List.ext_getElem?
  intro i
  have hl : j < fl.length := (List.getElem?_eq_some_iff.mp hj).1
  by_cases hi : i = j
  · subst hi
    rw [List.getElem?_set_self (by rw [mapI_len]; exact hl), mapI_get0, hj]
    simp [sF, us_at, upd]
  · rw [List.getElem?_set_ne (Ne.symm hi), mapI_get0, mapI_get0]
    cases fl[i]? with
    | none => rfl
    | some f => simp [sF, us_at, us_2, upd, hi]
theorem sW_putA {lay : List LE} {ad : Nat → Nat} {cI cZ : ClassId} {S : ST} {k i n : Nat} {b : Bool} {v : Int32} (h : lay[k]? = some (.inr (b, n))) : (sW lay ad cI cZ S).set k (ad k, .inl (if b then cZ else cI, n, .inl (upd (S.1 k) i v))) = sW lay ad cI cZ (us S k i v) := by
  refine sW_put h ?_
  simp only [sE, us_at]
def aW (lay : List LE) (ad : Nat → Nat) (q : Nat) : Prop := ∃ k, k < lay.length ∧ ad k = q
def injW (lay : List LE) (ad : Nat → Nat) : Prop := ∀ i j, i < lay.length → j < lay.length → ad i = ad j → i = j
theorem sW_len {lay : List LE} {ad : Nat → Nat} {cI cZ : ClassId} {S : ST} : (sW lay ad cI cZ S).length = lay.length := by rw [sW, mapI_len]
theorem sW_fst {lay : List LE} {ad : Nat → Nat} {cI cZ : ClassId} {S : ST} {k : Nat} {q : Nat × va_E} (h : (sW lay ad cI cZ S)[k]? = some q) : k < lay.length ∧ q.1 = ad k := by
  have hl : k < lay.length := by rw [← sW_len (lay := lay) (ad := ad) (cI := cI) (cZ := cZ) (S := S)]; exact (List.getElem?_eq_some_iff.mp h).1
  obtain ⟨x, hx⟩ : ∃ x, lay[k]? = some x := ⟨lay[k], List.getElem?_eq_getElem hl⟩
  rw [sW_at hx] at h
  cases h
  exact ⟨hl, rfl⟩
theorem sW_D {lay : List LE} {ad : Nat → Nat} {cI cZ : ClassId} (hi : injW lay ad) (S : ST) : va_D (aW lay ad) (sW lay ad cI cZ S) := by
  refine ⟨fun i j p q h1 h2 h3 => ?_, fun k q h => ?_⟩
  · have a1 := sW_fst h1
    have a2 := sW_fst h2
    exact hi i j a1.1 a2.1 (by rw [← a1.2, ← a2.2, h3])
  · have a1 := sW_fst h
    exact ⟨k, a1.1, a1.2.symm⟩
def cOK (ci : Nat) (C : String) (T : u_T) (N : Nat) (ty0 : Nat → FieldType) : Prop := vwCl[ci]? = some (C, T, N) ∧ (∀ w ∈ u_ws C T N, w ∈ TG) ∧ (∀ k, k < N → parseFieldDescriptor (T k).2.2.1 = some (ty0 k)) ∧ (∀ a, a < N → ∀ b, b < N → a ≠ b → (T a).2.1 ≠ (T b).2.1)
def lkF (own : String) (idx : Nat) (T : u_T) (j : Nat) : Prop := Cond.fieldLink own idx (T j).1 (T j).2.1 (T j).2.2.1 ∈ TG ∨ ∃ host, Cond.fieldLinkNest own idx (T j).1 (T j).2.1 (T j).2.2.1 host ∈ NW
def fOK (own : String) (idx ci j : Nat) : Prop := ∃ (C : String) (T : u_T) (N : Nat) (ty0 : Nat → FieldType), cOK ci C T N ty0 ∧ j < N ∧ lkF own idx T j
def pOK (own : String) (idx ci j : Nat) (ty : FieldType) : Prop := ∃ (C : String) (T : u_T) (N : Nat) (ty0 : Nat → FieldType), cOK ci C T N ty0 ∧ j < N ∧ lkF own idx T j ∧ (T j).2.2.2 = false ∧ parseFieldDescriptor (T j).2.2.1 = some ty
def stTab : List (Nat × String) := [(68, "grade"), (74, "worth"), (76, "when"), (78, "not"), (80, "and"), (82, "or"), (87, "knots"), (89, "splits"), (91, "holes"), (93, "plugs"), (95, "run")]
def stLen : List Nat := [5, 5, 4, 3, 3, 2, 5, 6, 5, 5, 3]
def stByt : List (List Int32) := [[103, 114, 97, 100, 101], [119, 111, 114, 116, 104], [119, 104, 101, 110], [110, 111, 116], [97, 110, 100], [111, 114], [107, 110, 111, 116, 115], [115, 112, 108, 105, 116, 115], [104, 111, 108, 101, 115], [112, 108, 117, 103, 115], [114, 117, 110]]
def sOK (lay : List LE) (ad : Nat → Nat) (U : State) (H : Heap) : Prop := vk_S 11 stLen stByt (fun i => ad (100 + i)) (fun i => ad (200 + i)) (aW lay ad) U H ∧ va_Z "java/lang/String" "COMPACT_STRINGS" "Z" (.int 1) (aW lay ad) U H ∧ (∀ (i : Nat) (q : Nat × String), stTab[i]? = some q → vk_R "PlyHouse$Tokens" q.1 q.2 (ad (100 + i)) U) ∧ ∃ v : Value, v.category = 1 ∧ va_Z "jdk/internal/util/Preconditions" "SIOOBE_FORMATTER" "Ljava/util/function/BiFunction;" v (aW lay ad) U H
theorem sOK.same {lay : List LE} {ad : Nat → Nat} {u U : State} {H : Heap} (hv : U.vm = u.vm) (h : sOK lay ad u H) : sOK lay ad U H := ⟨vk_S.moved (by rw [hv]; exact Vm.Alike.refl _) h.1, va_Z.moved (by rw [hv]; exact Vm.Alike.refl _) h.2.1, fun i q hq => vk_R.same hv (h.2.2.1 i q hq), by obtain ⟨v, h1, h2⟩ := h.2.2.2; exact ⟨v, h1, va_Z.moved (by rw [hv]; exact Vm.Alike.refl _) h2⟩⟩
theorem sOK.warm {lay : List LE} {ad : Nat → Nat} {s U : State} {H : Heap} (hW : s.WarmedH U.vm) (h : sOK lay ad s H) : sOK lay ad U H := ⟨vk_S.moved hW.alike h.1, va_Z.moved hW.alike h.2.1, fun i q hq => vk_R.warm hW (h.2.2.1 i q hq), by obtain ⟨v, h1, h2⟩ := h.2.2.2; exact ⟨v, h1, va_Z.moved hW.alike h2⟩⟩
theorem sOK.kept {lay : List LE} {ad : Nat → Nat} {U : State} {H H1 : Heap} {locs : List Loc} (h : sOK lay ad U H) (hS : va_S (aW lay ad) H H1 locs) : sOK lay ad U H1 := ⟨h.1.kept hS.2.1, h.2.1.kept hS.2.1, h.2.2.1, by obtain ⟨v, h1, h2⟩ := h.2.2.2; exact ⟨v, h1, h2.kept hS.2.1⟩⟩
def rmL (n : Nat) : Room := { frames := n, cells := 0, slots := 0, locals := 40 * n + 20 }
def pcS (lay : List LE) (ad : Nat → Nat) (cI cZ : ClassId) (D : va_G) (S : ST) (As : List Value) : Array Value → State → Prop := va_Pc As (fun U => va_P D vwCl (sW lay ad cI cZ S) U.heap ∧ va_K D vwCl [(cI, .int), (cZ, .boolean)] U ∧ (∀ w ∈ NW, va_Nw w U) ∧ sOK lay ad U U.heap)
def qqS (lay : List LE) (ad : Nat → Nat) (cI cZ : ClassId) (D : va_G) (ret : Option FieldType) (r : Int32 × ST) : Array Value → State → Outcome → State → Prop := match ret with
  | none => va_Qv (fun _ : Unit => True) (fun _ t => va_P D vwCl (sW lay ad cI cZ r.2) t.heap) (aW lay ad)
  | some _ => va_Qi (fun v (_ : Unit) => v = r.1) (fun _ t => va_P D vwCl (sW lay ad cI cZ r.2) t.heap) (aW lay ad)
abbrev CT : Type := Program × Launch × Env × Room × State × MethodId × Array Value × List Frame × Method × Code × Option FieldType × va_G × (Nat → Nat) × ClassId × ClassId × List LE
def eA (E : CT) : Nat → Nat := E.2.2.2.2.2.2.2.2.2.2.2.2.1
def Cx (E : CT) (lay : List LE) (cc : ByteArray) (own : String) (nL : Nat) (ret : Option FieldType) (lev : Nat) : Prop := match E with
  | (p, _, _, R, s, m, args, _, meth, c, rt, D, ad, cI, cZ, ly) => p.tables.exec = Jvm.exec ∧ c.code = cc ∧ c.maxLocals = nL ∧ s.vm.findClass own = some m.cls ∧ (∀ w ∈ TG, w.before args s = true) ∧ va_K D vwCl [(cI, .int), (cZ, .boolean)] s ∧ (∀ w ∈ NW, va_Nw w s) ∧ injW lay ad ∧ meth.locks = false ∧ meth.sig.returnType = ret ∧ rt = ret ∧ ly = lay ∧ R = rmL lev ∧ sOK lay ad s s.heap
def G (E : CT) (f : Option (Int32 × ST)) (S : ST) (pc : Nat) (lv : List (Nat × Value)) (st : List Value) : Prop := match E with
  | (p, l, e, R, s, m, args, below, meth, c, rt, D, ad, cI, cZ, ly) => ∀ r, f = some r → ∀ (H : Heap) (locs : List Loc) (ls : Array Slot), va_P D vwCl (sW ly ad cI cZ S) H → va_S (aW ly ad) s.heap H locs → lv_has ls c.maxLocals lv → W p l e R s m args below meth c H locs 0 0 (MQ below (qqS ly ad cI cZ D rt r) args s 0 0 (aW ly ad)) (F0 m pc ls st)
def vin (i : Int32) (n : Nat) : Bool := decide (0 ≤ i.toInt ∧ i.toInt < (n : Int))
def ix (i : Int32) : Nat := i.toNatClampNeg
theorem vin_in {i : Int32} {n : Nat} (h : vin i n = true) : vp_in i n := vp_in_iff.mpr (of_decide_eq_true h)
def jmax (x y : Int32) : Int32 := if x < y then y else x
def jmin (x y : Int32) : Int32 := if y < x then y else x
def lvIns (a : Nat × Value) : List (Nat × Value) → List (Nat × Value)
  | [] => [a]
  | q :: t => if a.1 < q.1 then a :: q :: t else q :: lvIns a t
def lvPut (lv : List (Nat × Value)) (i : Nat) (v : Value) : List (Nat × Value) := lvIns (i, v) (lv.filter (fun q => !(q.1 == i) && !(q.1 + 1 == i && q.2.category == 2)))
theorem lvIns_mem {a q : Nat × Value} : ∀ {l : List (Nat × Value)}, q ∈ lvIns a l → q ∈ a :: l
  | [], h => h
  | b :: t, h => by
    unfold lvIns at h
    split at h
    · exact h
    · rcases List.mem_cons.mp h with h | h
      · rw [h]; exact List.mem_cons_of_mem _ List.mem_cons_self
      · rcases List.mem_cons.mp (lvIns_mem h) with h | h
        · rw [h]; exact List.mem_cons_self
        · exact List.mem_cons_of_mem _ (List.mem_cons_of_mem _ h)
theorem lvPut_has {ls : Array Slot} {nL i : Nat} {v : Value} {lv : List (Nat × Value)} (h : lv_has ls nL ((i, v) :: lv.filter (fun q => !(q.1 == i) && !(q.1 + 1 == i && q.2.category == 2)))) : lv_has ls nL (lvPut lv i v) := ⟨h.1, h.2.1, fun q hq => h.2.2 q (lvIns_mem hq)⟩
theorem lv_fewer {ls : Array Slot} {nL : Nat} {l l' : List (Nat × Value)} (h : lv_has ls nL l) (hs : ∀ q ∈ l', q ∈ l) : lv_has ls nL l' := ⟨h.1, h.2.1, fun q hq => h.2.2 q (hs q hq)⟩
theorem z01 {v : Int32} (hv : v &&& 1 = v) : v = 0 ∨ v = 1 := by
  have h := pk_and v (m := 1) 1 rfl
  rw [hv] at h
  rcases Nat.mod_two_eq_zero_or_one v.toBitVec.toNat with h2 | h2
  · exact Or.inl (by rw [h]; simp only [Nat.pow_one, h2]; rfl)
  · exact Or.inr (by rw [h]; simp only [Nat.pow_one, h2]; rfl)
theorem fits_z {v : Int32} (hv : v &&& 1 = v) : fits .boolean (.int v) = true := by
  rcases z01 hv with rfl | rfl <;> decide
section ROWS
variable {E : CT} {f f1 f2 : Option (Int32 × ST)} {S : ST} {pc : Nat} {lv lv' : List (Nat × Value)} {st : List Value} {lay : List LE} {cc : ByteArray} {own : String} {nL lev : Nat} {ret : Option FieldType}
theorem r_none : G E none S pc lv st := by
  obtain ⟨p, l, e, R, s, m, args, below, meth, c, rt, D, ad, cI, cZ, ly⟩ := E
  intro r hr
  cases hr
theorem r_ite {c : Prop} [Decidable c] (h1 : c → G E f1 S pc lv st) (h2 : ¬ c → G E f2 S pc lv st) : G E (if c then f1 else f2) S pc lv st := by
  by_cases h : c
  · rw [if_pos h]; exact h1 h
  · rw [if_neg h]; exact h2 h
theorem r_chk {b : Bool} (h1 : b = true → G E f S pc lv st) : G E (if b = true then f else none) S pc lv st := r_ite h1 (fun _ => r_none)
theorem r_sub (ks : List Nat) (hl : lv_pick lv ks = lv') (h : G E f S pc lv' st) : G E f S pc lv st := by
  obtain ⟨p, l, e, R, s, m, args, below, meth, c, rt, D, ad, cI, cZ, ly⟩ := E
  intro r hr H locs ls hP hS hv
  exact h r hr H locs ls hP hS (lv_sub hv ks hl)
theorem r_iconst (X : Cx E lay cc own nL ret lev) {n : Int} {v : Int32} (hv : Int32.ofInt n = v) (d : decode cc pc = .ok (.iconst n, 1)) (kk : G E f S (pc + 1) lv (.int v :: st)) : G E f S pc lv (st) := by
  obtain ⟨p, l, e, R, s, m, args, below, meth, c, rt, D, ad, cI, cZ, ly⟩ := E
  obtain ⟨hx, hb, hml, hown, hts, hK, hN, hj, hlk, hrt, hr1, hly, hR, hstr⟩ := X
  intro r hr H locs ls hP hS hl
  exact lv_iconst hx hb d hv (kk r hr H locs ls hP hS hl)
theorem r_bipush (X : Cx E lay cc own nL ret lev) {n : Int} {v : Int32} (hv : (Int8.ofInt n).toInt32 = v) (d : decode cc pc = .ok (.bipush n, 2)) (kk : G E f S (pc + 2) lv (.int v :: st)) : G E f S pc lv (st) := by
  obtain ⟨p, l, e, R, s, m, args, below, meth, c, rt, D, ad, cI, cZ, ly⟩ := E
  obtain ⟨hx, hb, hml, hown, hts, hK, hN, hj, hlk, hrt, hr1, hly, hR, hstr⟩ := X
  intro r hr H locs ls hP hS hl
  exact lv_bipush hx hb d hv (kk r hr H locs ls hP hS hl)
theorem r_sipush (X : Cx E lay cc own nL ret lev) {n : Int} {v : Int32} (hv : (Int16.ofInt n).toInt32 = v) (d : decode cc pc = .ok (.sipush n, 3)) (kk : G E f S (pc + 3) lv (.int v :: st)) : G E f S pc lv (st) := by
  obtain ⟨p, l, e, R, s, m, args, below, meth, c, rt, D, ad, cI, cZ, ly⟩ := E
  obtain ⟨hx, hb, hml, hown, hts, hK, hN, hj, hlk, hrt, hr1, hly, hR, hstr⟩ := X
  intro r hr H locs ls hP hS hl
  exact lv_sipush hx hb d hv (kk r hr H locs ls hP hS hl)
theorem r_lconst (X : Cx E lay cc own nL ret lev) {n : Fin 2} {v : Int64} (hv : Int64.ofNat (n : Nat) = v) (d : decode cc pc = .ok (.lconst n, 1)) (kk : G E f S (pc + 1) lv (.long v :: st)) : G E f S pc lv (st) := by
  obtain ⟨p, l, e, R, s, m, args, below, meth, c, rt, D, ad, cI, cZ, ly⟩ := E
  obtain ⟨hx, hb, hml, hown, hts, hK, hN, hj, hlk, hrt, hr1, hly, hR, hstr⟩ := X
  intro r hr H locs ls hP hS hl
  exact lv_lconst hx hb d hv (kk r hr H locs ls hP hS hl)
theorem r_iload_n (X : Cx E lay cc own nL ret lev) {q : Fin 4} {x : Int32} (k : Nat) (hk : lv[k]? = some ((q : Nat), .int x)) (d : decode cc pc = .ok (.iload_n q, 1)) (kk : G E f S (pc + 1) lv (.int x :: st)) : G E f S pc lv (st) := by
  obtain ⟨p, l, e, R, s, m, args, below, meth, c, rt, D, ad, cI, cZ, ly⟩ := E
  obtain ⟨hx, hb, hml, hown, hts, hK, hN, hj, hlk, hrt, hr1, hly, hR, hstr⟩ := X
  intro r hr H locs ls hP hS hl
  exact lv_iload_n hx hb d rfl (lv_at hl k hk) (kk r hr H locs ls hP hS hl)
theorem r_iload (X : Cx E lay cc own nL ret lev) {i : Nat} {x : Int32} (k : Nat) (hk : lv[k]? = some (i, .int x)) (d : decode cc pc = .ok (.iload i, 2)) (kk : G E f S (pc + 2) lv (.int x :: st)) : G E f S pc lv (st) := by
  obtain ⟨p, l, e, R, s, m, args, below, meth, c, rt, D, ad, cI, cZ, ly⟩ := E
  obtain ⟨hx, hb, hml, hown, hts, hK, hN, hj, hlk, hrt, hr1, hly, hR, hstr⟩ := X
  intro r hr H locs ls hP hS hl
  exact lv_iload hx hb d (lv_at hl k hk) (kk r hr H locs ls hP hS hl)
theorem r_aload_n (X : Cx E lay cc own nL ret lev) {q : Fin 4} {x : Nat} (k : Nat) (hk : lv[k]? = some ((q : Nat), .ref x)) (d : decode cc pc = .ok (.aload_n q, 1)) (kk : G E f S (pc + 1) lv (.ref x :: st)) : G E f S pc lv (st) := by
  obtain ⟨p, l, e, R, s, m, args, below, meth, c, rt, D, ad, cI, cZ, ly⟩ := E
  obtain ⟨hx, hb, hml, hown, hts, hK, hN, hj, hlk, hrt, hr1, hly, hR, hstr⟩ := X
  intro r hr H locs ls hP hS hl
  exact lv_aload_n hx hb d rfl (lv_at hl k hk) (kk r hr H locs ls hP hS hl)
theorem r_aload (X : Cx E lay cc own nL ret lev) {i : Nat} {x : Nat} (k : Nat) (hk : lv[k]? = some (i, .ref x)) (d : decode cc pc = .ok (.aload i, 2)) (kk : G E f S (pc + 2) lv (.ref x :: st)) : G E f S pc lv (st) := by
  obtain ⟨p, l, e, R, s, m, args, below, meth, c, rt, D, ad, cI, cZ, ly⟩ := E
  obtain ⟨hx, hb, hml, hown, hts, hK, hN, hj, hlk, hrt, hr1, hly, hR, hstr⟩ := X
  intro r hr H locs ls hP hS hl
  exact lv_aload hx hb d (lv_at hl k hk) (kk r hr H locs ls hP hS hl)
theorem r_lload_n (X : Cx E lay cc own nL ret lev) {q : Fin 4} {x : Int64} (k : Nat) (hk : lv[k]? = some ((q : Nat), .long x)) (d : decode cc pc = .ok (.lload_n q, 1)) (kk : G E f S (pc + 1) lv (.long x :: st)) : G E f S pc lv (st) := by
  obtain ⟨p, l, e, R, s, m, args, below, meth, c, rt, D, ad, cI, cZ, ly⟩ := E
  obtain ⟨hx, hb, hml, hown, hts, hK, hN, hj, hlk, hrt, hr1, hly, hR, hstr⟩ := X
  intro r hr H locs ls hP hS hl
  exact lv_lload_n hx hb d rfl (lv_at hl k hk) (kk r hr H locs ls hP hS hl)
theorem r_lload (X : Cx E lay cc own nL ret lev) {i : Nat} {x : Int64} (k : Nat) (hk : lv[k]? = some (i, .long x)) (d : decode cc pc = .ok (.lload i, 2)) (kk : G E f S (pc + 2) lv (.long x :: st)) : G E f S pc lv (st) := by
  obtain ⟨p, l, e, R, s, m, args, below, meth, c, rt, D, ad, cI, cZ, ly⟩ := E
  obtain ⟨hx, hb, hml, hown, hts, hK, hN, hj, hlk, hrt, hr1, hly, hR, hstr⟩ := X
  intro r hr H locs ls hP hS hl
  exact lv_lload hx hb d (lv_at hl k hk) (kk r hr H locs ls hP hS hl)
theorem r_istore_n (X : Cx E lay cc own nL ret lev) {q : Fin 4} {x : Int32} (hn : (q : Nat) < nL) (hlv : lvPut lv (q : Nat) (.int x) = lv') (d : decode cc pc = .ok (.istore_n q, 1)) (kk : G E f S (pc + 1) lv' (st)) : G E f S pc lv (.int x :: st) := by
  obtain ⟨p, l, e, R, s, m, args, below, meth, c, rt, D, ad, cI, cZ, ly⟩ := E
  obtain ⟨hx, hb, hml, hown, hts, hK, hN, hj, hlk, hrt, hr1, hly, hR, hstr⟩ := X
  intro r hr H locs ls hP hS hl
  exact lv_istore_n hx hb d rfl hl (by rw [hml]; exact hn) rfl (fun ls' hl' => kk r hr H locs ls' hP hS (by rw [← hlv]; exact lvPut_has hl'))
theorem r_istore (X : Cx E lay cc own nL ret lev) {i : Nat} {x : Int32} (hn : i < nL) (hlv : lvPut lv i (.int x) = lv') (d : decode cc pc = .ok (.istore i, 2)) (kk : G E f S (pc + 2) lv' (st)) : G E f S pc lv (.int x :: st) := by
  obtain ⟨p, l, e, R, s, m, args, below, meth, c, rt, D, ad, cI, cZ, ly⟩ := E
  obtain ⟨hx, hb, hml, hown, hts, hK, hN, hj, hlk, hrt, hr1, hly, hR, hstr⟩ := X
  intro r hr H locs ls hP hS hl
  exact lv_istore hx hb d hl (by rw [hml]; exact hn) rfl (fun ls' hl' => kk r hr H locs ls' hP hS (by rw [← hlv]; exact lvPut_has hl'))
theorem r_iinc (X : Cx E lay cc own nL ret lev) {i : Nat} {n : Int} {x dl : Int32} (k : Nat) (hk : lv[k]? = some (i, .int x)) (hd : Int32.ofInt n = dl) (hn : i < nL) (hlv : lvPut lv i (.int (x + dl)) = lv') (d : decode cc pc = .ok (.iinc i n, 3)) (kk : G E f S (pc + 3) lv' (st)) : G E f S pc lv (st) := by
  obtain ⟨p, l, e, R, s, m, args, below, meth, c, rt, D, ad, cI, cZ, ly⟩ := E
  obtain ⟨hx, hb, hml, hown, hts, hK, hN, hj, hlk, hrt, hr1, hly, hR, hstr⟩ := X
  intro r hr H locs ls hP hS hl
  exact lv_iinc hx hb d hl hk (by rw [hd]) (by rw [hml]; exact hn) rfl (fun ls' hl' => kk r hr H locs ls' hP hS (by rw [← hlv]; exact lvPut_has hl'))
theorem r_iadd (X : Cx E lay cc own nL ret lev) {x y : Int32} (d : decode cc pc = .ok (.iadd, 1)) (kk : G E f S (pc + 1) lv (.int (x + y) :: st)) : G E f S pc lv (.int y :: .int x :: st) := by
  obtain ⟨p, l, e, R, s, m, args, below, meth, c, rt, D, ad, cI, cZ, ly⟩ := E
  obtain ⟨hx, hb, hml, hown, hts, hK, hN, hj, hlk, hrt, hr1, hly, hR, hstr⟩ := X
  intro r hr H locs ls hP hS hl
  exact lv_iadd hx hb d  (kk r hr H locs ls hP hS hl)
theorem r_isub (X : Cx E lay cc own nL ret lev) {x y : Int32} (d : decode cc pc = .ok (.isub, 1)) (kk : G E f S (pc + 1) lv (.int (x - y) :: st)) : G E f S pc lv (.int y :: .int x :: st) := by
  obtain ⟨p, l, e, R, s, m, args, below, meth, c, rt, D, ad, cI, cZ, ly⟩ := E
  obtain ⟨hx, hb, hml, hown, hts, hK, hN, hj, hlk, hrt, hr1, hly, hR, hstr⟩ := X
  intro r hr H locs ls hP hS hl
  exact lv_isub hx hb d  (kk r hr H locs ls hP hS hl)
theorem r_imul (X : Cx E lay cc own nL ret lev) {x y : Int32} (d : decode cc pc = .ok (.imul, 1)) (kk : G E f S (pc + 1) lv (.int (x * y) :: st)) : G E f S pc lv (.int y :: .int x :: st) := by
  obtain ⟨p, l, e, R, s, m, args, below, meth, c, rt, D, ad, cI, cZ, ly⟩ := E
  obtain ⟨hx, hb, hml, hown, hts, hK, hN, hj, hlk, hrt, hr1, hly, hR, hstr⟩ := X
  intro r hr H locs ls hP hS hl
  exact lv_imul hx hb d  (kk r hr H locs ls hP hS hl)
theorem r_iand (X : Cx E lay cc own nL ret lev) {x y : Int32} (d : decode cc pc = .ok (.iand, 1)) (kk : G E f S (pc + 1) lv (.int (x &&& y) :: st)) : G E f S pc lv (.int y :: .int x :: st) := by
  obtain ⟨p, l, e, R, s, m, args, below, meth, c, rt, D, ad, cI, cZ, ly⟩ := E
  obtain ⟨hx, hb, hml, hown, hts, hK, hN, hj, hlk, hrt, hr1, hly, hR, hstr⟩ := X
  intro r hr H locs ls hP hS hl
  exact lv_iand hx hb d  (kk r hr H locs ls hP hS hl)
theorem r_ior (X : Cx E lay cc own nL ret lev) {x y : Int32} (d : decode cc pc = .ok (.ior, 1)) (kk : G E f S (pc + 1) lv (.int (x ||| y) :: st)) : G E f S pc lv (.int y :: .int x :: st) := by
  obtain ⟨p, l, e, R, s, m, args, below, meth, c, rt, D, ad, cI, cZ, ly⟩ := E
  obtain ⟨hx, hb, hml, hown, hts, hK, hN, hj, hlk, hrt, hr1, hly, hR, hstr⟩ := X
  intro r hr H locs ls hP hS hl
  exact lv_ior hx hb d  (kk r hr H locs ls hP hS hl)
theorem r_ixor (X : Cx E lay cc own nL ret lev) {x y : Int32} (d : decode cc pc = .ok (.ixor, 1)) (kk : G E f S (pc + 1) lv (.int (x ^^^ y) :: st)) : G E f S pc lv (.int y :: .int x :: st) := by
  obtain ⟨p, l, e, R, s, m, args, below, meth, c, rt, D, ad, cI, cZ, ly⟩ := E
  obtain ⟨hx, hb, hml, hown, hts, hK, hN, hj, hlk, hrt, hr1, hly, hR, hstr⟩ := X
  intro r hr H locs ls hP hS hl
  exact lv_ixor hx hb d  (kk r hr H locs ls hP hS hl)
theorem r_ishl (X : Cx E lay cc own nL ret lev) {x y : Int32} (d : decode cc pc = .ok (.ishl, 1)) (kk : G E f S (pc + 1) lv (.int (x <<< (y &&& 31)) :: st)) : G E f S pc lv (.int y :: .int x :: st) := by
  obtain ⟨p, l, e, R, s, m, args, below, meth, c, rt, D, ad, cI, cZ, ly⟩ := E
  obtain ⟨hx, hb, hml, hown, hts, hK, hN, hj, hlk, hrt, hr1, hly, hR, hstr⟩ := X
  intro r hr H locs ls hP hS hl
  exact lv_ishl hx hb d  (kk r hr H locs ls hP hS hl)
theorem r_ishr (X : Cx E lay cc own nL ret lev) {x y : Int32} (d : decode cc pc = .ok (.ishr, 1)) (kk : G E f S (pc + 1) lv (.int (x >>> (y &&& 31)) :: st)) : G E f S pc lv (.int y :: .int x :: st) := by
  obtain ⟨p, l, e, R, s, m, args, below, meth, c, rt, D, ad, cI, cZ, ly⟩ := E
  obtain ⟨hx, hb, hml, hown, hts, hK, hN, hj, hlk, hrt, hr1, hly, hR, hstr⟩ := X
  intro r hr H locs ls hP hS hl
  exact lv_ishr hx hb d  (kk r hr H locs ls hP hS hl)
theorem r_ineg (X : Cx E lay cc own nL ret lev) {x : Int32} (d : decode cc pc = .ok (.ineg, 1)) (kk : G E f S (pc + 1) lv (.int (-x) :: st)) : G E f S pc lv (.int x :: st) := by
  obtain ⟨p, l, e, R, s, m, args, below, meth, c, rt, D, ad, cI, cZ, ly⟩ := E
  obtain ⟨hx, hb, hml, hown, hts, hK, hN, hj, hlk, hrt, hr1, hly, hR, hstr⟩ := X
  intro r hr H locs ls hP hS hl
  exact lv_ineg hx hb d  (kk r hr H locs ls hP hS hl)
theorem r_iushr (X : Cx E lay cc own nL ret lev) {x y : Int32} (d : decode cc pc = .ok (.iushr, 1)) (kk : G E f S (pc + 1) lv (.int ((x.toUInt32 >>> (y.toUInt32 &&& Int32.toUInt32 31)).toInt32) :: st)) : G E f S pc lv (.int y :: .int x :: st) := by
  obtain ⟨p, l, e, R, s, m, args, below, meth, c, rt, D, ad, cI, cZ, ly⟩ := E
  obtain ⟨hx, hb, hml, hown, hts, hK, hN, hj, hlk, hrt, hr1, hly, hR, hstr⟩ := X
  intro r hr H locs ls hP hS hl
  exact lv_iushr hx hb d rfl (kk r hr H locs ls hP hS hl)
theorem r_i2l (X : Cx E lay cc own nL ret lev) {x : Int32} (d : decode cc pc = .ok (.i2l, 1)) (kk : G E f S (pc + 1) lv (.long (x.toInt64) :: st)) : G E f S pc lv (.int x :: st) := by
  obtain ⟨p, l, e, R, s, m, args, below, meth, c, rt, D, ad, cI, cZ, ly⟩ := E
  obtain ⟨hx, hb, hml, hown, hts, hK, hN, hj, hlk, hrt, hr1, hly, hR, hstr⟩ := X
  intro r hr H locs ls hP hS hl
  exact lv_i2l hx hb d rfl (kk r hr H locs ls hP hS hl)
theorem r_lshl (X : Cx E lay cc own nL ret lev) {x : Int64} {y : Int32} (d : decode cc pc = .ok (.lshl, 1)) (kk : G E f S (pc + 1) lv (.long (x <<< (y.toInt64 &&& 63)) :: st)) : G E f S pc lv (.int y :: .long x :: st) := by
  obtain ⟨p, l, e, R, s, m, args, below, meth, c, rt, D, ad, cI, cZ, ly⟩ := E
  obtain ⟨hx, hb, hml, hown, hts, hK, hN, hj, hlk, hrt, hr1, hly, hR, hstr⟩ := X
  intro r hr H locs ls hP hS hl
  exact lv_lshl hx hb d rfl (kk r hr H locs ls hP hS hl)
theorem r_lor (X : Cx E lay cc own nL ret lev) {x y : Int64} (d : decode cc pc = .ok (.lor, 1)) (kk : G E f S (pc + 1) lv (.long (x ||| y) :: st)) : G E f S pc lv (.long y :: .long x :: st) := by
  obtain ⟨p, l, e, R, s, m, args, below, meth, c, rt, D, ad, cI, cZ, ly⟩ := E
  obtain ⟨hx, hb, hml, hown, hts, hK, hN, hj, hlk, hrt, hr1, hly, hR, hstr⟩ := X
  intro r hr H locs ls hP hS hl
  exact lv_lor hx hb d  (kk r hr H locs ls hP hS hl)
theorem r_lcmp (X : Cx E lay cc own nL ret lev) {x y : Int64} (d : decode cc pc = .ok (.lcmp, 1)) (kk : G E f S (pc + 1) lv (.int (lg_cmp x y) :: st)) : G E f S pc lv (.long y :: .long x :: st) := by
  obtain ⟨p, l, e, R, s, m, args, below, meth, c, rt, D, ad, cI, cZ, ly⟩ := E
  obtain ⟨hx, hb, hml, hown, hts, hK, hN, hj, hlk, hrt, hr1, hly, hR, hstr⟩ := X
  intro r hr H locs ls hP hS hl
  exact W.lcmp hx hb d  (kk r hr H locs ls hP hS hl)
theorem r_dup (X : Cx E lay cc own nL ret lev) {va : Value} (hc : va.category = 1) (d : decode cc pc = .ok (.dup, 1)) (kk : G E f S (pc + 1) lv (va :: va :: st)) : G E f S pc lv (va :: st) := by
  obtain ⟨p, l, e, R, s, m, args, below, meth, c, rt, D, ad, cI, cZ, ly⟩ := E
  obtain ⟨hx, hb, hml, hown, hts, hK, hN, hj, hlk, hrt, hr1, hly, hR, hstr⟩ := X
  intro r hr H locs ls hP hS hl
  exact lv_dup hx hb d hc (kk r hr H locs ls hP hS hl)
theorem r_pop (X : Cx E lay cc own nL ret lev) {va : Value} (hc : va.category = 1) (d : decode cc pc = .ok (.pop, 1)) (kk : G E f S (pc + 1) lv (st)) : G E f S pc lv (va :: st) := by
  obtain ⟨p, l, e, R, s, m, args, below, meth, c, rt, D, ad, cI, cZ, ly⟩ := E
  obtain ⟨hx, hb, hml, hown, hts, hK, hN, hj, hlk, hrt, hr1, hly, hR, hstr⟩ := X
  intro r hr H locs ls hP hS hl
  exact lv_pop hx hb d hc (kk r hr H locs ls hP hS hl)
theorem r_dup2 (X : Cx E lay cc own nL ret lev) {va vb : Value} (hc : va.category = 1) (hc2 : vb.category = 1) (d : decode cc pc = .ok (.dup2, 1)) (kk : G E f S (pc + 1) lv (va :: vb :: va :: vb :: st)) : G E f S pc lv (va :: vb :: st) := by
  obtain ⟨p, l, e, R, s, m, args, below, meth, c, rt, D, ad, cI, cZ, ly⟩ := E
  obtain ⟨hx, hb, hml, hown, hts, hK, hN, hj, hlk, hrt, hr1, hly, hR, hstr⟩ := X
  intro r hr H locs ls hP hS hl
  exact lv_dup2_11 hx hb d hc hc2 (kk r hr H locs ls hP hS hl)
theorem r_idiv (X : Cx E lay cc own nL ret lev) {x y : Int32} (d : decode cc pc = .ok (.idiv, 1)) (kk : ¬ y = 0 → G E f S (pc + 1) lv (.int (x / y) :: st)) : G E (if y = 0 then none else f) S pc lv (.int y :: .int x :: st) := by
  refine r_ite (fun _ => r_none) (fun h0 => ?_)
  replace kk := kk h0
  obtain ⟨p, l, e, R, s, m, args, below, meth, c, rt, D, ad, cI, cZ, ly⟩ := E
  obtain ⟨hx, hb, hml, hown, hts, hK, hN, hj, hlk, hrt, hr1, hly, hR, hstr⟩ := X
  intro r hr H locs ls hP hS hl
  exact lv_idiv hx hb d h0 (kk r hr H locs ls hP hS hl)
theorem r_idivK (X : Cx E lay cc own nL ret lev) {x y : Int32} (d : decode cc pc = .ok (.idiv, 1)) (h0 : ¬ y = 0) (kk : G E f S (pc + 1) lv (.int (x / y) :: st)) : G E f S pc lv (.int y :: .int x :: st) := by
  obtain ⟨p, l, e, R, s, m, args, below, meth, c, rt, D, ad, cI, cZ, ly⟩ := E
  obtain ⟨hx, hb, hml, hown, hts, hK, hN, hj, hlk, hrt, hr1, hly, hR, hstr⟩ := X
  intro r hr H locs ls hP hS hl
  exact lv_idiv hx hb d h0 (kk r hr H locs ls hP hS hl)
theorem r_irem (X : Cx E lay cc own nL ret lev) {x y : Int32} (d : decode cc pc = .ok (.irem, 1)) (kk : ¬ y = 0 → G E f S (pc + 1) lv (.int (x - x / y * y) :: st)) : G E (if y = 0 then none else f) S pc lv (.int y :: .int x :: st) := by
  refine r_ite (fun _ => r_none) (fun h0 => ?_)
  replace kk := kk h0
  obtain ⟨p, l, e, R, s, m, args, below, meth, c, rt, D, ad, cI, cZ, ly⟩ := E
  obtain ⟨hx, hb, hml, hown, hts, hK, hN, hj, hlk, hrt, hr1, hly, hR, hstr⟩ := X
  intro r hr H locs ls hP hS hl
  exact lv_irem hx hb d h0 (kk r hr H locs ls hP hS hl)
theorem r_iremK (X : Cx E lay cc own nL ret lev) {x y : Int32} (d : decode cc pc = .ok (.irem, 1)) (h0 : ¬ y = 0) (kk : G E f S (pc + 1) lv (.int (x - x / y * y) :: st)) : G E f S pc lv (.int y :: .int x :: st) := by
  obtain ⟨p, l, e, R, s, m, args, below, meth, c, rt, D, ad, cI, cZ, ly⟩ := E
  obtain ⟨hx, hb, hml, hown, hts, hK, hN, hj, hlk, hrt, hr1, hly, hR, hstr⟩ := X
  intro r hr H locs ls hP hS hl
  exact lv_irem hx hb d h0 (kk r hr H locs ls hP hS hl)
theorem r_icmp_eq (X : Cx E lay cc own nL ret lev) {x y : Int32} {off : Int} {tgt : Nat} [Decidable (x = y)] (d : decode cc pc = .ok (.if_icmp .eq off, 3)) (ht : (pc : Int) + off = (tgt : Int)) (k1 : x = y → G E f1 S tgt lv st) (k2 : ¬ (x = y) → G E f2 S (pc + 3) lv st) : G E (if x = y then f1 else f2) S pc lv (.int y :: .int x :: st) := by
  refine r_ite (fun h0 => ?_) (fun h0 => ?_)
  · replace k1 := k1 h0
    obtain ⟨p, l, e, R, s, m, args, below, meth, c, rt, D, ad, cI, cZ, ly⟩ := E
    obtain ⟨hx, hb, hml, hown, hts, hK, hN, hj, hlk, hrt, hr1, hly, hR, hstr⟩ := X
    intro r hr H locs ls hP hS hl
    exact lv_icmp_eq hx hb d ht (fun _ => k1 r hr H locs ls hP hS hl) (fun h => absurd h0 h)
  · replace k2 := k2 h0
    obtain ⟨p, l, e, R, s, m, args, below, meth, c, rt, D, ad, cI, cZ, ly⟩ := E
    obtain ⟨hx, hb, hml, hown, hts, hK, hN, hj, hlk, hrt, hr1, hly, hR, hstr⟩ := X
    intro r hr H locs ls hP hS hl
    exact lv_icmp_eq hx hb d ht (fun h => absurd h h0) (fun _ => k2 r hr H locs ls hP hS hl)
theorem r_if_eq (X : Cx E lay cc own nL ret lev) {x : Int32} {off : Int} {tgt : Nat} [Decidable (x = 0)] (d : decode cc pc = .ok (.ifCond .eq off, 3)) (ht : (pc : Int) + off = (tgt : Int)) (k1 : x = 0 → G E f1 S tgt lv st) (k2 : ¬ (x = 0) → G E f2 S (pc + 3) lv st) : G E (if x = 0 then f1 else f2) S pc lv (.int x :: st) := by
  refine r_ite (fun h0 => ?_) (fun h0 => ?_)
  · replace k1 := k1 h0
    obtain ⟨p, l, e, R, s, m, args, below, meth, c, rt, D, ad, cI, cZ, ly⟩ := E
    obtain ⟨hx, hb, hml, hown, hts, hK, hN, hj, hlk, hrt, hr1, hly, hR, hstr⟩ := X
    intro r hr H locs ls hP hS hl
    exact lv_if_eq hx hb d ht (fun _ => k1 r hr H locs ls hP hS hl) (fun h => absurd h0 h)
  · replace k2 := k2 h0
    obtain ⟨p, l, e, R, s, m, args, below, meth, c, rt, D, ad, cI, cZ, ly⟩ := E
    obtain ⟨hx, hb, hml, hown, hts, hK, hN, hj, hlk, hrt, hr1, hly, hR, hstr⟩ := X
    intro r hr H locs ls hP hS hl
    exact lv_if_eq hx hb d ht (fun h => absurd h h0) (fun _ => k2 r hr H locs ls hP hS hl)
theorem r_if_eqT (X : Cx E lay cc own nL ret lev) {x : Int32} {off : Int} {tgt : Nat} (d : decode cc pc = .ok (.ifCond .eq off, 3)) (ht : (pc : Int) + off = (tgt : Int)) (h0 : x = 0) (k1 : G E f S tgt lv st) : G E f S pc lv (.int x :: st) := by
  obtain ⟨p, l, e, R, s, m, args, below, meth, c, rt, D, ad, cI, cZ, ly⟩ := E
  obtain ⟨hx, hb, hml, hown, hts, hK, hN, hj, hlk, hrt, hr1, hly, hR, hstr⟩ := X
  intro r hr H locs ls hP hS hl
  exact lv_if_eq hx hb d ht (fun _ => k1 r hr H locs ls hP hS hl) (fun h => absurd h0 h)
theorem r_if_eqF (X : Cx E lay cc own nL ret lev) {x : Int32} {off : Int} {tgt : Nat} (d : decode cc pc = .ok (.ifCond .eq off, 3)) (ht : (pc : Int) + off = (tgt : Int)) (h0 : ¬ (x = 0)) (k2 : G E f S (pc + 3) lv st) : G E f S pc lv (.int x :: st) := by
  obtain ⟨p, l, e, R, s, m, args, below, meth, c, rt, D, ad, cI, cZ, ly⟩ := E
  obtain ⟨hx, hb, hml, hown, hts, hK, hN, hj, hlk, hrt, hr1, hly, hR, hstr⟩ := X
  intro r hr H locs ls hP hS hl
  exact lv_if_eq hx hb d ht (fun h => absurd h h0) (fun _ => k2 r hr H locs ls hP hS hl)
theorem r_icmp_lt (X : Cx E lay cc own nL ret lev) {x y : Int32} {off : Int} {tgt : Nat} [Decidable (x < y)] (d : decode cc pc = .ok (.if_icmp .lt off, 3)) (ht : (pc : Int) + off = (tgt : Int)) (k1 : x < y → G E f1 S tgt lv st) (k2 : ¬ (x < y) → G E f2 S (pc + 3) lv st) : G E (if x < y then f1 else f2) S pc lv (.int y :: .int x :: st) := by
  refine r_ite (fun h0 => ?_) (fun h0 => ?_)
  · replace k1 := k1 h0
    obtain ⟨p, l, e, R, s, m, args, below, meth, c, rt, D, ad, cI, cZ, ly⟩ := E
    obtain ⟨hx, hb, hml, hown, hts, hK, hN, hj, hlk, hrt, hr1, hly, hR, hstr⟩ := X
    intro r hr H locs ls hP hS hl
    exact lv_icmp_lt hx hb d ht (fun _ => k1 r hr H locs ls hP hS hl) (fun h => absurd h0 h)
  · replace k2 := k2 h0
    obtain ⟨p, l, e, R, s, m, args, below, meth, c, rt, D, ad, cI, cZ, ly⟩ := E
    obtain ⟨hx, hb, hml, hown, hts, hK, hN, hj, hlk, hrt, hr1, hly, hR, hstr⟩ := X
    intro r hr H locs ls hP hS hl
    exact lv_icmp_lt hx hb d ht (fun h => absurd h h0) (fun _ => k2 r hr H locs ls hP hS hl)
theorem r_if_lt (X : Cx E lay cc own nL ret lev) {x : Int32} {off : Int} {tgt : Nat} [Decidable (x < 0)] (d : decode cc pc = .ok (.ifCond .lt off, 3)) (ht : (pc : Int) + off = (tgt : Int)) (k1 : x < 0 → G E f1 S tgt lv st) (k2 : ¬ (x < 0) → G E f2 S (pc + 3) lv st) : G E (if x < 0 then f1 else f2) S pc lv (.int x :: st) := by
  refine r_ite (fun h0 => ?_) (fun h0 => ?_)
  · replace k1 := k1 h0
    obtain ⟨p, l, e, R, s, m, args, below, meth, c, rt, D, ad, cI, cZ, ly⟩ := E
    obtain ⟨hx, hb, hml, hown, hts, hK, hN, hj, hlk, hrt, hr1, hly, hR, hstr⟩ := X
    intro r hr H locs ls hP hS hl
    exact lv_if_lt hx hb d ht (fun _ => k1 r hr H locs ls hP hS hl) (fun h => absurd h0 h)
  · replace k2 := k2 h0
    obtain ⟨p, l, e, R, s, m, args, below, meth, c, rt, D, ad, cI, cZ, ly⟩ := E
    obtain ⟨hx, hb, hml, hown, hts, hK, hN, hj, hlk, hrt, hr1, hly, hR, hstr⟩ := X
    intro r hr H locs ls hP hS hl
    exact lv_if_lt hx hb d ht (fun h => absurd h h0) (fun _ => k2 r hr H locs ls hP hS hl)
theorem r_if_ltT (X : Cx E lay cc own nL ret lev) {x : Int32} {off : Int} {tgt : Nat} (d : decode cc pc = .ok (.ifCond .lt off, 3)) (ht : (pc : Int) + off = (tgt : Int)) (h0 : x < 0) (k1 : G E f S tgt lv st) : G E f S pc lv (.int x :: st) := by
  obtain ⟨p, l, e, R, s, m, args, below, meth, c, rt, D, ad, cI, cZ, ly⟩ := E
  obtain ⟨hx, hb, hml, hown, hts, hK, hN, hj, hlk, hrt, hr1, hly, hR, hstr⟩ := X
  intro r hr H locs ls hP hS hl
  exact lv_if_lt hx hb d ht (fun _ => k1 r hr H locs ls hP hS hl) (fun h => absurd h0 h)
theorem r_if_ltF (X : Cx E lay cc own nL ret lev) {x : Int32} {off : Int} {tgt : Nat} (d : decode cc pc = .ok (.ifCond .lt off, 3)) (ht : (pc : Int) + off = (tgt : Int)) (h0 : ¬ (x < 0)) (k2 : G E f S (pc + 3) lv st) : G E f S pc lv (.int x :: st) := by
  obtain ⟨p, l, e, R, s, m, args, below, meth, c, rt, D, ad, cI, cZ, ly⟩ := E
  obtain ⟨hx, hb, hml, hown, hts, hK, hN, hj, hlk, hrt, hr1, hly, hR, hstr⟩ := X
  intro r hr H locs ls hP hS hl
  exact lv_if_lt hx hb d ht (fun h => absurd h h0) (fun _ => k2 r hr H locs ls hP hS hl)
theorem r_icmp_ge (X : Cx E lay cc own nL ret lev) {x y : Int32} {off : Int} {tgt : Nat} [Decidable (y ≤ x)] (d : decode cc pc = .ok (.if_icmp .ge off, 3)) (ht : (pc : Int) + off = (tgt : Int)) (k1 : y ≤ x → G E f1 S tgt lv st) (k2 : ¬ (y ≤ x) → G E f2 S (pc + 3) lv st) : G E (if y ≤ x then f1 else f2) S pc lv (.int y :: .int x :: st) := by
  refine r_ite (fun h0 => ?_) (fun h0 => ?_)
  · replace k1 := k1 h0
    obtain ⟨p, l, e, R, s, m, args, below, meth, c, rt, D, ad, cI, cZ, ly⟩ := E
    obtain ⟨hx, hb, hml, hown, hts, hK, hN, hj, hlk, hrt, hr1, hly, hR, hstr⟩ := X
    intro r hr H locs ls hP hS hl
    exact lv_icmp_ge hx hb d ht (fun _ => k1 r hr H locs ls hP hS hl) (fun h => absurd h0 h)
  · replace k2 := k2 h0
    obtain ⟨p, l, e, R, s, m, args, below, meth, c, rt, D, ad, cI, cZ, ly⟩ := E
    obtain ⟨hx, hb, hml, hown, hts, hK, hN, hj, hlk, hrt, hr1, hly, hR, hstr⟩ := X
    intro r hr H locs ls hP hS hl
    exact lv_icmp_ge hx hb d ht (fun h => absurd h h0) (fun _ => k2 r hr H locs ls hP hS hl)
theorem r_if_ge (X : Cx E lay cc own nL ret lev) {x : Int32} {off : Int} {tgt : Nat} [Decidable (0 ≤ x)] (d : decode cc pc = .ok (.ifCond .ge off, 3)) (ht : (pc : Int) + off = (tgt : Int)) (k1 : 0 ≤ x → G E f1 S tgt lv st) (k2 : ¬ (0 ≤ x) → G E f2 S (pc + 3) lv st) : G E (if 0 ≤ x then f1 else f2) S pc lv (.int x :: st) := by
  refine r_ite (fun h0 => ?_) (fun h0 => ?_)
  · replace k1 := k1 h0
    obtain ⟨p, l, e, R, s, m, args, below, meth, c, rt, D, ad, cI, cZ, ly⟩ := E
    obtain ⟨hx, hb, hml, hown, hts, hK, hN, hj, hlk, hrt, hr1, hly, hR, hstr⟩ := X
    intro r hr H locs ls hP hS hl
    exact lv_if_ge hx hb d ht (fun _ => k1 r hr H locs ls hP hS hl) (fun h => absurd h0 h)
  · replace k2 := k2 h0
    obtain ⟨p, l, e, R, s, m, args, below, meth, c, rt, D, ad, cI, cZ, ly⟩ := E
    obtain ⟨hx, hb, hml, hown, hts, hK, hN, hj, hlk, hrt, hr1, hly, hR, hstr⟩ := X
    intro r hr H locs ls hP hS hl
    exact lv_if_ge hx hb d ht (fun h => absurd h h0) (fun _ => k2 r hr H locs ls hP hS hl)
theorem r_if_geT (X : Cx E lay cc own nL ret lev) {x : Int32} {off : Int} {tgt : Nat} (d : decode cc pc = .ok (.ifCond .ge off, 3)) (ht : (pc : Int) + off = (tgt : Int)) (h0 : 0 ≤ x) (k1 : G E f S tgt lv st) : G E f S pc lv (.int x :: st) := by
  obtain ⟨p, l, e, R, s, m, args, below, meth, c, rt, D, ad, cI, cZ, ly⟩ := E
  obtain ⟨hx, hb, hml, hown, hts, hK, hN, hj, hlk, hrt, hr1, hly, hR, hstr⟩ := X
  intro r hr H locs ls hP hS hl
  exact lv_if_ge hx hb d ht (fun _ => k1 r hr H locs ls hP hS hl) (fun h => absurd h0 h)
theorem r_if_geF (X : Cx E lay cc own nL ret lev) {x : Int32} {off : Int} {tgt : Nat} (d : decode cc pc = .ok (.ifCond .ge off, 3)) (ht : (pc : Int) + off = (tgt : Int)) (h0 : ¬ (0 ≤ x)) (k2 : G E f S (pc + 3) lv st) : G E f S pc lv (.int x :: st) := by
  obtain ⟨p, l, e, R, s, m, args, below, meth, c, rt, D, ad, cI, cZ, ly⟩ := E
  obtain ⟨hx, hb, hml, hown, hts, hK, hN, hj, hlk, hrt, hr1, hly, hR, hstr⟩ := X
  intro r hr H locs ls hP hS hl
  exact lv_if_ge hx hb d ht (fun h => absurd h h0) (fun _ => k2 r hr H locs ls hP hS hl)
theorem r_icmp_gt (X : Cx E lay cc own nL ret lev) {x y : Int32} {off : Int} {tgt : Nat} [Decidable (y < x)] (d : decode cc pc = .ok (.if_icmp .gt off, 3)) (ht : (pc : Int) + off = (tgt : Int)) (k1 : y < x → G E f1 S tgt lv st) (k2 : ¬ (y < x) → G E f2 S (pc + 3) lv st) : G E (if y < x then f1 else f2) S pc lv (.int y :: .int x :: st) := by
  refine r_ite (fun h0 => ?_) (fun h0 => ?_)
  · replace k1 := k1 h0
    obtain ⟨p, l, e, R, s, m, args, below, meth, c, rt, D, ad, cI, cZ, ly⟩ := E
    obtain ⟨hx, hb, hml, hown, hts, hK, hN, hj, hlk, hrt, hr1, hly, hR, hstr⟩ := X
    intro r hr H locs ls hP hS hl
    exact lv_icmp_gt hx hb d ht (fun _ => k1 r hr H locs ls hP hS hl) (fun h => absurd h0 h)
  · replace k2 := k2 h0
    obtain ⟨p, l, e, R, s, m, args, below, meth, c, rt, D, ad, cI, cZ, ly⟩ := E
    obtain ⟨hx, hb, hml, hown, hts, hK, hN, hj, hlk, hrt, hr1, hly, hR, hstr⟩ := X
    intro r hr H locs ls hP hS hl
    exact lv_icmp_gt hx hb d ht (fun h => absurd h h0) (fun _ => k2 r hr H locs ls hP hS hl)
theorem r_if_gt (X : Cx E lay cc own nL ret lev) {x : Int32} {off : Int} {tgt : Nat} [Decidable (0 < x)] (d : decode cc pc = .ok (.ifCond .gt off, 3)) (ht : (pc : Int) + off = (tgt : Int)) (k1 : 0 < x → G E f1 S tgt lv st) (k2 : ¬ (0 < x) → G E f2 S (pc + 3) lv st) : G E (if 0 < x then f1 else f2) S pc lv (.int x :: st) := by
  refine r_ite (fun h0 => ?_) (fun h0 => ?_)
  · replace k1 := k1 h0
    obtain ⟨p, l, e, R, s, m, args, below, meth, c, rt, D, ad, cI, cZ, ly⟩ := E
    obtain ⟨hx, hb, hml, hown, hts, hK, hN, hj, hlk, hrt, hr1, hly, hR, hstr⟩ := X
    intro r hr H locs ls hP hS hl
    exact lv_if_gt hx hb d ht (fun _ => k1 r hr H locs ls hP hS hl) (fun h => absurd h0 h)
  · replace k2 := k2 h0
    obtain ⟨p, l, e, R, s, m, args, below, meth, c, rt, D, ad, cI, cZ, ly⟩ := E
    obtain ⟨hx, hb, hml, hown, hts, hK, hN, hj, hlk, hrt, hr1, hly, hR, hstr⟩ := X
    intro r hr H locs ls hP hS hl
    exact lv_if_gt hx hb d ht (fun h => absurd h h0) (fun _ => k2 r hr H locs ls hP hS hl)
theorem r_if_gtT (X : Cx E lay cc own nL ret lev) {x : Int32} {off : Int} {tgt : Nat} (d : decode cc pc = .ok (.ifCond .gt off, 3)) (ht : (pc : Int) + off = (tgt : Int)) (h0 : 0 < x) (k1 : G E f S tgt lv st) : G E f S pc lv (.int x :: st) := by
  obtain ⟨p, l, e, R, s, m, args, below, meth, c, rt, D, ad, cI, cZ, ly⟩ := E
  obtain ⟨hx, hb, hml, hown, hts, hK, hN, hj, hlk, hrt, hr1, hly, hR, hstr⟩ := X
  intro r hr H locs ls hP hS hl
  exact lv_if_gt hx hb d ht (fun _ => k1 r hr H locs ls hP hS hl) (fun h => absurd h0 h)
theorem r_if_gtF (X : Cx E lay cc own nL ret lev) {x : Int32} {off : Int} {tgt : Nat} (d : decode cc pc = .ok (.ifCond .gt off, 3)) (ht : (pc : Int) + off = (tgt : Int)) (h0 : ¬ (0 < x)) (k2 : G E f S (pc + 3) lv st) : G E f S pc lv (.int x :: st) := by
  obtain ⟨p, l, e, R, s, m, args, below, meth, c, rt, D, ad, cI, cZ, ly⟩ := E
  obtain ⟨hx, hb, hml, hown, hts, hK, hN, hj, hlk, hrt, hr1, hly, hR, hstr⟩ := X
  intro r hr H locs ls hP hS hl
  exact lv_if_gt hx hb d ht (fun h => absurd h h0) (fun _ => k2 r hr H locs ls hP hS hl)
theorem r_icmp_le (X : Cx E lay cc own nL ret lev) {x y : Int32} {off : Int} {tgt : Nat} [Decidable (x ≤ y)] (d : decode cc pc = .ok (.if_icmp .le off, 3)) (ht : (pc : Int) + off = (tgt : Int)) (k1 : x ≤ y → G E f1 S tgt lv st) (k2 : ¬ (x ≤ y) → G E f2 S (pc + 3) lv st) : G E (if x ≤ y then f1 else f2) S pc lv (.int y :: .int x :: st) := by
  refine r_ite (fun h0 => ?_) (fun h0 => ?_)
  · replace k1 := k1 h0
    obtain ⟨p, l, e, R, s, m, args, below, meth, c, rt, D, ad, cI, cZ, ly⟩ := E
    obtain ⟨hx, hb, hml, hown, hts, hK, hN, hj, hlk, hrt, hr1, hly, hR, hstr⟩ := X
    intro r hr H locs ls hP hS hl
    exact lv_icmp_le hx hb d ht (fun _ => k1 r hr H locs ls hP hS hl) (fun h => absurd h0 h)
  · replace k2 := k2 h0
    obtain ⟨p, l, e, R, s, m, args, below, meth, c, rt, D, ad, cI, cZ, ly⟩ := E
    obtain ⟨hx, hb, hml, hown, hts, hK, hN, hj, hlk, hrt, hr1, hly, hR, hstr⟩ := X
    intro r hr H locs ls hP hS hl
    exact lv_icmp_le hx hb d ht (fun h => absurd h h0) (fun _ => k2 r hr H locs ls hP hS hl)
theorem r_if_le (X : Cx E lay cc own nL ret lev) {x : Int32} {off : Int} {tgt : Nat} [Decidable (x ≤ 0)] (d : decode cc pc = .ok (.ifCond .le off, 3)) (ht : (pc : Int) + off = (tgt : Int)) (k1 : x ≤ 0 → G E f1 S tgt lv st) (k2 : ¬ (x ≤ 0) → G E f2 S (pc + 3) lv st) : G E (if x ≤ 0 then f1 else f2) S pc lv (.int x :: st) := by
  refine r_ite (fun h0 => ?_) (fun h0 => ?_)
  · replace k1 := k1 h0
    obtain ⟨p, l, e, R, s, m, args, below, meth, c, rt, D, ad, cI, cZ, ly⟩ := E
    obtain ⟨hx, hb, hml, hown, hts, hK, hN, hj, hlk, hrt, hr1, hly, hR, hstr⟩ := X
    intro r hr H locs ls hP hS hl
    exact lv_if_le hx hb d ht (fun _ => k1 r hr H locs ls hP hS hl) (fun h => absurd h0 h)
  · replace k2 := k2 h0
    obtain ⟨p, l, e, R, s, m, args, below, meth, c, rt, D, ad, cI, cZ, ly⟩ := E
    obtain ⟨hx, hb, hml, hown, hts, hK, hN, hj, hlk, hrt, hr1, hly, hR, hstr⟩ := X
    intro r hr H locs ls hP hS hl
    exact lv_if_le hx hb d ht (fun h => absurd h h0) (fun _ => k2 r hr H locs ls hP hS hl)
theorem r_if_leT (X : Cx E lay cc own nL ret lev) {x : Int32} {off : Int} {tgt : Nat} (d : decode cc pc = .ok (.ifCond .le off, 3)) (ht : (pc : Int) + off = (tgt : Int)) (h0 : x ≤ 0) (k1 : G E f S tgt lv st) : G E f S pc lv (.int x :: st) := by
  obtain ⟨p, l, e, R, s, m, args, below, meth, c, rt, D, ad, cI, cZ, ly⟩ := E
  obtain ⟨hx, hb, hml, hown, hts, hK, hN, hj, hlk, hrt, hr1, hly, hR, hstr⟩ := X
  intro r hr H locs ls hP hS hl
  exact lv_if_le hx hb d ht (fun _ => k1 r hr H locs ls hP hS hl) (fun h => absurd h0 h)
theorem r_if_leF (X : Cx E lay cc own nL ret lev) {x : Int32} {off : Int} {tgt : Nat} (d : decode cc pc = .ok (.ifCond .le off, 3)) (ht : (pc : Int) + off = (tgt : Int)) (h0 : ¬ (x ≤ 0)) (k2 : G E f S (pc + 3) lv st) : G E f S pc lv (.int x :: st) := by
  obtain ⟨p, l, e, R, s, m, args, below, meth, c, rt, D, ad, cI, cZ, ly⟩ := E
  obtain ⟨hx, hb, hml, hown, hts, hK, hN, hj, hlk, hrt, hr1, hly, hR, hstr⟩ := X
  intro r hr H locs ls hP hS hl
  exact lv_if_le hx hb d ht (fun h => absurd h h0) (fun _ => k2 r hr H locs ls hP hS hl)
theorem r_goto (X : Cx E lay cc own nL ret lev) {off : Int} {tgt : Nat} (d : decode cc pc = .ok (.goto off, 3)) (ht : (pc : Int) + off = (tgt : Int)) (kk : G E f S (tgt) lv (st)) : G E f S pc lv (st) := by
  obtain ⟨p, l, e, R, s, m, args, below, meth, c, rt, D, ad, cI, cZ, ly⟩ := E
  obtain ⟨hx, hb, hml, hown, hts, hK, hN, hj, hlk, hrt, hr1, hly, hR, hstr⟩ := X
  intro r hr H locs ls hP hS hl
  exact lv_goto hx hb d ht (kk r hr H locs ls hP hS hl)
theorem r_ldc (X : Cx E lay cc own nL ret lev) {i : Nat} {v : Int32} (hw : Cond.constant own i v ∈ TG) (d : decode cc pc = .ok (.ldc i, 2)) (kk : G E f S (pc + 2) lv (.int v :: st)) : G E f S pc lv (st) := by
  obtain ⟨p, l, e, R, s, m, args, below, meth, c, rt, D, ad, cI, cZ, ly⟩ := E
  obtain ⟨hx, hb, hml, hown, hts, hK, hN, hj, hlk, hrt, hr1, hly, hR, hstr⟩ := X
  intro r hr H locs ls hP hS hl
  exact lv_ldc hx hb hown (hts _ hw) d (kk r hr H locs ls hP hS hl)
theorem r_ldcw (X : Cx E lay cc own nL ret lev) {i : Nat} {v : Int32} (hw : Cond.constant own i v ∈ TG) (d : decode cc pc = .ok (.ldc_w i, 3)) (kk : G E f S (pc + 3) lv (.int v :: st)) : G E f S pc lv (st) := by
  obtain ⟨p, l, e, R, s, m, args, below, meth, c, rt, D, ad, cI, cZ, ly⟩ := E
  obtain ⟨hx, hb, hml, hown, hts, hK, hN, hj, hlk, hrt, hr1, hly, hR, hstr⟩ := X
  intro r hr H locs ls hP hS hl
  exact lv_ldcw hx hb hown (hts _ hw) d (kk r hr H locs ls hP hS hl)
theorem r_ldc2 (X : Cx E lay cc own nL ret lev) {i : Nat} {v : Int64} (hw : Cond.constantLong own i v ∈ TG) (d : decode cc pc = .ok (.ldc2_w i, 3)) (kk : G E f S (pc + 3) lv (.long v :: st)) : G E f S pc lv (st) := by
  obtain ⟨p, l, e, R, s, m, args, below, meth, c, rt, D, ad, cI, cZ, ly⟩ := E
  obtain ⟨hx, hb, hml, hown, hts, hK, hN, hj, hlk, hrt, hr1, hly, hR, hstr⟩ := X
  intro r hr H locs ls hP hS hl
  exact lv_ldc2 hx hb hown (hts _ hw) d (kk r hr H locs ls hP hS hl)
theorem r_tsIn (X : Cx E lay cc own nL ret lev) {x : Int32} {dflt lo hi off : Int} {offs : Array Int} {len tgt : Nat} (cv : Int32) (h : x = cv) (d : decode cc pc = .ok (.tableswitch dflt lo hi offs, len)) (h1 : ¬ cv.toInt < lo) (h2 : ¬ hi < cv.toInt) (ho : offs[(cv.toInt - lo).toNat]? = some off) (ht : (pc : Int) + off = (tgt : Int)) (kk : G E f S (tgt) lv (st)) : G E f S pc lv (.int x :: st) := by
  obtain ⟨p, l, e, R, s, m, args, below, meth, c, rt, D, ad, cI, cZ, ly⟩ := E
  obtain ⟨hx, hb, hml, hown, hts, hK, hN, hj, hlk, hrt, hr1, hly, hR, hstr⟩ := X
  intro r hr H locs ls hP hS hl
  exact lv_tableIn hx hb d (by rw [h]; exact h1) (by rw [h]; exact h2) (by rw [h]; exact ho) ht (kk r hr H locs ls hP hS hl)
theorem r_tsOut (X : Cx E lay cc own nL ret lev) {x : Int32} {dflt lo hi : Int} {offs : Array Int} {len tgt : Nat} (h : x.toInt < lo ∨ hi < x.toInt) (d : decode cc pc = .ok (.tableswitch dflt lo hi offs, len)) (ht : (pc : Int) + dflt = (tgt : Int)) (kk : G E f S (tgt) lv (st)) : G E f S pc lv (.int x :: st) := by
  obtain ⟨p, l, e, R, s, m, args, below, meth, c, rt, D, ad, cI, cZ, ly⟩ := E
  obtain ⟨hx, hb, hml, hown, hts, hK, hN, hj, hlk, hrt, hr1, hly, hR, hstr⟩ := X
  intro r hr H locs ls hP hS hl
  exact lv_tableOut hx hb d h ht (kk r hr H locs ls hP hS hl)
theorem r_lsw (X : Cx E lay cc own nL ret lev) {x : Int32} {dflt off : Int} {ps : Array (Int × Int)} {len tgt : Nat} (d : decode cc pc = .ok (.lookupswitch dflt ps, len)) (hp : (ps.toList.zip (ps.toList.drop 1)).all (fun (a, next) => a.1 < next.1) = true) (ho : Op.lookupswitch.offset ps.toList dflt x.toInt = off) (ht : (pc : Int) + off = (tgt : Int)) (kk : G E f S (tgt) lv (st)) : G E f S pc lv (.int x :: st) := by
  obtain ⟨p, l, e, R, s, m, args, below, meth, c, rt, D, ad, cI, cZ, ly⟩ := E
  obtain ⟨hx, hb, hml, hown, hts, hK, hN, hj, hlk, hrt, hr1, hly, hR, hstr⟩ := X
  intro r hr H locs ls hP hS hl
  exact lv_lookup hx hb d hp ho ht (kk r hr H locs ls hP hS hl)
theorem r_mmax (X : Cx E lay cc own nL ret lev) {i : Nat} {x y : Int32} (hw : Cond.methodLink own i Lib.Math.max.name ∈ TG) (hw2 : Cond.static Lib.Math.max.name ∈ TG) (hw3 : Cond.initialized "java/lang/Math" ∈ TG) (hw4 : Cond.code Lib.Math.max.name Lib.Math.max.code 2 (some .int) ∈ TG) (hlev : 1 ≤ lev) (hroom : (st.map fun v => v.category).sum ≤ 8) (d : decode cc pc = .ok (.invokestatic i, 3)) (kk : G E f S (pc + 3) lv (.int (jmax x y) :: st)) : G E f S pc lv (.int y :: .int x :: st) := by
  obtain ⟨p, l, e, R, s, m, args, below, meth, c, rt, D, ad, cI, cZ, ly⟩ := E
  obtain ⟨hx, hb, hml, hown, hts, hK, hN, hj, hlk, hrt, hr1, hly, hR, hstr⟩ := X
  intro r hr H locs ls hP hS hl
  subst hR
  exact va_mmax hx hb hl.1.symm hown (hts _ hw) (hts _ hw2) (hts _ hw3) (hts _ hw4) hlev (by show _ ≤ 40 * lev + 20; omega) (Nat.zero_le _) (Nat.zero_le _) d (kk r hr H locs ls hP hS hl)
theorem r_mmin (X : Cx E lay cc own nL ret lev) {i : Nat} {x y : Int32} (hw : Cond.methodLink own i Lib.Math.min.name ∈ TG) (hw2 : Cond.static Lib.Math.min.name ∈ TG) (hw3 : Cond.initialized "java/lang/Math" ∈ TG) (hw4 : Cond.code Lib.Math.min.name Lib.Math.min.code 2 (some .int) ∈ TG) (hlev : 1 ≤ lev) (hroom : (st.map fun v => v.category).sum ≤ 8) (d : decode cc pc = .ok (.invokestatic i, 3)) (kk : G E f S (pc + 3) lv (.int (jmin x y) :: st)) : G E f S pc lv (.int y :: .int x :: st) := by
  obtain ⟨p, l, e, R, s, m, args, below, meth, c, rt, D, ad, cI, cZ, ly⟩ := E
  obtain ⟨hx, hb, hml, hown, hts, hK, hN, hj, hlk, hrt, hr1, hly, hR, hstr⟩ := X
  intro r hr H locs ls hP hS hl
  subst hR
  exact va_mmin hx hb hl.1.symm hown (hts _ hw) (hts _ hw2) (hts _ hw3) (hts _ hw4) hlev (by show _ ≤ 40 * lev + 20; omega) (Nat.zero_le _) (Nat.zero_le _) d (kk r hr H locs ls hP hS hl)
theorem r_get (X : Cx E lay cc own nL ret lev) {i k ci j : Nat} {fl : List (Nat × Nat)} {q : Nat × Nat} (hF : fOK own i ci j) (hk : lay[k]? = some (.inl (ci, fl))) (hq : fl[j]? = some q) (d : decode cc pc = .ok (.getfield i, 3)) (kk : G E f S (pc + 3) lv (sF (eA E) S k j q :: st)) : G E f S pc lv (.ref (eA E k) :: st) := by
  obtain ⟨p, l, e, R, s, m, args, below, meth, c, rt, D, ad, cI, cZ, ly⟩ := E
  obtain ⟨hx, hb, hml, hown, hts, hK, hN, hj, hlk, hrt, hr1, hly, hR, hstr⟩ := X
  intro r hr H locs ls hP hS hl
  subst hly
  obtain ⟨C, T, N, ty0, ⟨hc, hin, -, -⟩, hj2, hL⟩ := hF
  have hv : (mapI (sF ad S k) 0 fl)[j]? = some (sF ad S k j q) := by rw [mapI_get0, hq]; rfl
  rcases hL with hL | ⟨host, hL⟩
  · exact va_get hx hb hts hin hown hK hP k (sW_at hk) hc j hj2 (hts _ hL) (fun _ h => h) hv d (kk r hr H locs ls hP hS hl)
  · exact va_getN hx hb hts hin hown hK hP k (sW_at hk) hc j hj2 (va_Nw.use rfl (hN _ hL)) (fun _ h => h) hv d (kk r hr H locs ls hP hS hl)
theorem r_getI (X : Cx E lay cc own nL ret lev) {i k ci j : Nat} {fl : List (Nat × Nat)} {dd : Nat} (hF : fOK own i ci j) (hk : lay[k]? = some (.inl (ci, fl))) (hq : fl[j]? = some (1, dd)) (d : decode cc pc = .ok (.getfield i, 3)) (kk : G E f S (pc + 3) lv (.int (S.1 k j) :: st)) : G E f S pc lv (.ref (eA E k) :: st) := r_get X hF hk hq d kk
theorem r_getL (X : Cx E lay cc own nL ret lev) {i k ci j : Nat} {fl : List (Nat × Nat)} {dd : Nat} (hF : fOK own i ci j) (hk : lay[k]? = some (.inl (ci, fl))) (hq : fl[j]? = some (2, dd)) (d : decode cc pc = .ok (.getfield i, 3)) (kk : G E f S (pc + 3) lv (.long S.2 :: st)) : G E f S pc lv (.ref (eA E k) :: st) := r_get X hF hk hq d kk
theorem r_getR (X : Cx E lay cc own nL ret lev) {i k ci j : Nat} {fl : List (Nat × Nat)} {dd : Nat} (hF : fOK own i ci j) (hk : lay[k]? = some (.inl (ci, fl))) (hq : fl[j]? = some (0, dd)) (d : decode cc pc = .ok (.getfield i, 3)) (kk : G E f S (pc + 3) lv (.ref (eA E dd) :: st)) : G E f S pc lv (.ref (eA E k) :: st) := r_get X hF hk hq d kk
theorem r_putV (X : Cx E lay cc own nL ret lev) {i k ci j : Nat} {fl : List (Nat × Nat)} {v : Value} {S' : ST} {ty : FieldType} (hF : pOK own i ci j ty) (hk : lay[k]? = some (.inl (ci, fl))) (hl0 : j < fl.length) (hn : narrow ty v = v) (hfit : fits ty v = true) (hS' : ∀ cI cZ, (sW lay (eA E) cI cZ S).set k (eA E k, .inr (ci, (mapI (sF (eA E) S k) 0 fl).set j v)) = sW lay (eA E) cI cZ S') (d : decode cc pc = .ok (.putfield i, 3)) (kk : G E f S' (pc + 3) lv st) : G E f S pc lv (v :: .ref (eA E k) :: st) := by
  obtain ⟨p, l, e, R, s, m, args, below, meth, c, rt, D, ad, cI, cZ, ly⟩ := E
  obtain ⟨hx, hb, hml, hown, hts, hK, hN, hj, hlk, hrt, hr1, hly, hR, hstr⟩ := X
  intro r hr H locs ls hP hS hl
  subst hly
  obtain ⟨C, T, N, ty0, ⟨hc, hin, hty, hnm⟩, hj2, hL, hfin, hd⟩ := hF
  have hll : j < (mapI (sF ad S k) 0 fl).length := by rw [mapI_len]; exact hl0
  have fin : ∀ (H1 : Heap) (locs1 : List Loc), va_P D vwCl ((sW ly ad cI cZ S).set k (ad k, .inr (ci, (mapI (sF ad S k) 0 fl).set j v))) H1 → va_S (aW ly ad) s.heap H1 locs1 → W p l e R s m args below meth c H1 locs1 0 0 (MQ below (qqS ly ad cI cZ D rt r) args s 0 0 (aW ly ad)) (F0 m (pc + 3) ls st) := fun H1 locs1 h1 h3 => kk r hr H1 locs1 ls ((hS' cI cZ) ▸ h1) h3 hl
  rcases hL with hL | ⟨host, hL⟩
  · exact va_put hx hb hts hin ty0 hty hnm hown hK hP (sW_D hj S) hS k (sW_at hk) hc j hj2 (hts _ hL) (fun _ h => h) hfin hd hn hfit hll d (fun H1 locs1 h1 _ h3 => fin H1 locs1 h1 h3)
  · exact va_putN hx hb hts hin ty0 hty hnm hown hK hP (sW_D hj S) hS k (sW_at hk) hc j hj2 (va_Nw.use rfl (hN _ hL)) (fun _ h => h) hfin hd hn hfit hll d (fun H1 locs1 h1 _ h3 => fin H1 locs1 h1 h3)
theorem r_putI (X : Cx E lay cc own nL ret lev) {i k ci j dd : Nat} {fl : List (Nat × Nat)} {v : Int32} (hF : pOK own i ci j .int) (hk : lay[k]? = some (.inl (ci, fl))) (hq : fl[j]? = some (1, dd)) (d : decode cc pc = .ok (.putfield i, 3)) (kk : G E f (us S k j v) (pc + 3) lv st) : G E f S pc lv (.int v :: .ref (eA E k) :: st) := r_putV X hF hk (List.getElem?_eq_some_iff.mp hq).1 rfl rfl (fun _ _ => sW_putI hk hq) d kk
theorem r_putZ (X : Cx E lay cc own nL ret lev) {i k ci j dd : Nat} {fl : List (Nat × Nat)} {v : Int32} (hF : pOK own i ci j .boolean) (hk : lay[k]? = some (.inl (ci, fl))) (hq : fl[j]? = some (1, dd)) (hv : v &&& 1 = v) (d : decode cc pc = .ok (.putfield i, 3)) (kk : G E f (us S k j v) (pc + 3) lv st) : G E f S pc lv (.int v :: .ref (eA E k) :: st) := r_putV X hF hk (List.getElem?_eq_some_iff.mp hq).1 (by show Value.int (v &&& 1) = _; rw [hv]) (fits_z hv) (fun _ _ => sW_putI hk hq) d kk
theorem r_iald (X : Cx E lay cc own nL ret lev) {k n : Nat} {i : Int32} (hk : lay[k]? = some (.inr (false, n))) (d : decode cc pc = .ok (.iaload, 1)) (kk : vin i n = true → G E f S (pc + 1) lv (.int (S.1 k (ix i)) :: st)) : G E (if vin i n = true then f else none) S pc lv (.int i :: .ref (eA E k) :: st) := by
  refine r_chk (fun h0 => ?_)
  replace kk := kk h0
  obtain ⟨p, l, e, R, s, m, args, below, meth, c, rt, D, ad, cI, cZ, ly⟩ := E
  obtain ⟨hx, hb, hml, hown, hts, hK, hN, hj, hlk, hrt, hr1, hly, hR, hstr⟩ := X
  intro r hr H locs ls hP hS hl
  subst hly
  exact va_iald hx hb hK hP k 0 (sW_at hk) rfl (vin_in h0) d (kk r hr H locs ls hP hS hl)
theorem r_zald (X : Cx E lay cc own nL ret lev) {k n : Nat} {i : Int32} (hk : lay[k]? = some (.inr (true, n))) (d : decode cc pc = .ok (.baload, 1)) (kk : vin i n = true → G E f S (pc + 1) lv (.int (S.1 k (ix i)) :: st)) : G E (if vin i n = true then f else none) S pc lv (.int i :: .ref (eA E k) :: st) := by
  refine r_chk (fun h0 => ?_)
  replace kk := kk h0
  obtain ⟨p, l, e, R, s, m, args, below, meth, c, rt, D, ad, cI, cZ, ly⟩ := E
  obtain ⟨hx, hb, hml, hown, hts, hK, hN, hj, hlk, hrt, hr1, hly, hR, hstr⟩ := X
  intro r hr H locs ls hP hS hl
  subst hly
  exact va_zald hx hb hK hP k 1 (sW_at hk) rfl (vin_in h0) d (kk r hr H locs ls hP hS hl)
theorem r_iast (X : Cx E lay cc own nL ret lev) {k n : Nat} {i x : Int32} (hk : lay[k]? = some (.inr (false, n))) (d : decode cc pc = .ok (.iastore, 1)) (kk : vin i n = true → G E f (us S k (ix i) x) (pc + 1) lv st) : G E (if vin i n = true then f else none) S pc lv (.int x :: .int i :: .ref (eA E k) :: st) := by
  refine r_chk (fun h0 => ?_)
  replace kk := kk h0
  obtain ⟨p, l, e, R, s, m, args, below, meth, c, rt, D, ad, cI, cZ, ly⟩ := E
  obtain ⟨hx, hb, hml, hown, hts, hK, hN, hj, hlk, hrt, hr1, hly, hR, hstr⟩ := X
  intro r hr H locs ls hP hS hl
  subst hly
  exact va_iast hx hb hK hP (sW_D hj S) hS k 0 (sW_at hk) rfl (vin_in h0) d (fun H1 locs1 h1 _ h3 => kk r hr H1 locs1 ls ((sW_putA (cI := cI) (cZ := cZ) (ad := ad) (S := S) (i := ix i) (v := x) hk) ▸ h1) h3 hl)
theorem r_zast (X : Cx E lay cc own nL ret lev) {k n : Nat} {i x : Int32} (hk : lay[k]? = some (.inr (true, n))) (d : decode cc pc = .ok (.bastore, 1)) (kk : vin i n = true → G E f (us S k (ix i) (x &&& 1)) (pc + 1) lv st) : G E (if vin i n = true then f else none) S pc lv (.int x :: .int i :: .ref (eA E k) :: st) := by
  refine r_chk (fun h0 => ?_)
  replace kk := kk h0
  obtain ⟨p, l, e, R, s, m, args, below, meth, c, rt, D, ad, cI, cZ, ly⟩ := E
  obtain ⟨hx, hb, hml, hown, hts, hK, hN, hj, hlk, hrt, hr1, hly, hR, hstr⟩ := X
  intro r hr H locs ls hP hS hl
  subst hly
  exact va_zast hx hb hK hP (sW_D hj S) hS k 1 (sW_at hk) rfl (vin_in h0) d (fun H1 locs1 h1 _ h3 => kk r hr H1 locs1 ls ((sW_putA (cI := cI) (cZ := cZ) (ad := ad) (S := S) (i := ix i) (v := x &&& 1) hk) ▸ h1) h3 hl)
theorem r_alen (X : Cx E lay cc own nL ret lev) {k n : Nat} {v : Int32} (hk : lay[k]? = some (.inr (false, n))) (hv : Int32.ofNat n = v) (d : decode cc pc = .ok (.arraylength, 1)) (kk : G E f S (pc + 1) lv (.int v :: st)) : G E f S pc lv (.ref (eA E k) :: st) := by
  obtain ⟨p, l, e, R, s, m, args, below, meth, c, rt, D, ad, cI, cZ, ly⟩ := E
  obtain ⟨hx, hb, hml, hown, hts, hK, hN, hj, hlk, hrt, hr1, hly, hR, hstr⟩ := X
  intro r hr H locs ls hP hS hl
  subst hly
  exact va_alen hx hb hK hP k 0 (sW_at hk) rfl hv d (kk r hr H locs ls hP hS hl)
theorem r_iret (X : Cx E lay cc own nL (some .int) lev) {v : Int32} (d : decode cc pc = .ok (.ireturn, 1)) : G E (some (v, S)) S pc lv [.int v] := by
  obtain ⟨p, l, e, R, s, m, args, below, meth, c, rt, D, ad, cI, cZ, ly⟩ := E
  obtain ⟨hx, hb, hml, hown, hts, hK, hN, hj, hlk, hrt, hr1, hly, hR, hstr⟩ := X
  intro r hr H locs ls hP hS hl
  cases hr
  subst hr1
  exact W.iret hx hb hrt (fun t ht hW => ⟨⟨v, (), rfl, rfl, by show va_P _ _ _ t.heap; rw [ht]; exact hP⟩, hS.F ht⟩) hS.2.2 d
theorem r_zret (X : Cx E lay cc own nL (some .boolean) lev) {v : Int32} (hv : v &&& 1 = v) (d : decode cc pc = .ok (.ireturn, 1)) : G E (some (v, S)) S pc lv [.int v] := by
  obtain ⟨p, l, e, R, s, m, args, below, meth, c, rt, D, ad, cI, cZ, ly⟩ := E
  obtain ⟨hx, hb, hml, hown, hts, hK, hN, hj, hlk, hrt, hr1, hly, hR, hstr⟩ := X
  intro r hr H locs ls hP hS hl
  cases hr
  subst hr1
  exact W.zret hx hb hrt (by show Value.int (v &&& 1) = _; rw [hv]) (fun t ht hW => ⟨⟨v, (), rfl, rfl, by show va_P _ _ _ t.heap; rw [ht]; exact hP⟩, hS.F ht⟩) hS.2.2 d
theorem r_zretC (X : Cx E lay cc own nL (some .boolean) lev) {v : Int32} (d : decode cc pc = .ok (.ireturn, 1)) : G E (if v &&& 1 = v then some (v, S) else none) S pc lv [.int v] := r_ite (fun h => r_zret X h d) (fun _ => r_none)
theorem r_vret (X : Cx E lay cc own nL none lev) (d : decode cc pc = .ok (.return_, 1)) : G E (some (0, S)) S pc lv [] := by
  obtain ⟨p, l, e, R, s, m, args, below, meth, c, rt, D, ad, cI, cZ, ly⟩ := E
  obtain ⟨hx, hb, hml, hown, hts, hK, hN, hj, hlk, hrt, hr1, hly, hR, hstr⟩ := X
  intro r hr H locs ls hP hS hl
  cases hr
  subst hr1
  exact W.vret hx hb hrt (fun t ht hW => ⟨⟨(), rfl, trivial, by show va_P _ _ _ t.heap; rw [ht]; exact hP⟩, hS.F ht⟩) hS.2.2 d
theorem r_icmp_ne (X : Cx E lay cc own nL ret lev) {x y : Int32} {off : Int} {tgt : Nat} [Decidable (x = y)] (d : decode cc pc = .ok (.if_icmp .ne off, 3)) (ht : (pc : Int) + off = (tgt : Int)) (k1 : ¬ x = y → G E f1 S tgt lv st) (k2 : x = y → G E f2 S (pc + 3) lv st) : G E (if x = y then f2 else f1) S pc lv (.int y :: .int x :: st) := by
  refine r_ite (fun h0 => ?_) (fun h0 => ?_)
  · replace k2 := k2 h0
    obtain ⟨p, l, e, R, s, m, args, below, meth, c, rt, D, ad, cI, cZ, ly⟩ := E
    obtain ⟨hx, hb, hml, hown, hts, hK, hN, hj, hlk, hrt, hr1, hly, hR, hstr⟩ := X
    intro r hr H locs ls hP hS hl
    exact lv_icmp_ne hx hb d ht (fun h => absurd h0 h) (fun _ => k2 r hr H locs ls hP hS hl)
  · replace k1 := k1 h0
    obtain ⟨p, l, e, R, s, m, args, below, meth, c, rt, D, ad, cI, cZ, ly⟩ := E
    obtain ⟨hx, hb, hml, hown, hts, hK, hN, hj, hlk, hrt, hr1, hly, hR, hstr⟩ := X
    intro r hr H locs ls hP hS hl
    exact lv_icmp_ne hx hb d ht (fun _ => k1 r hr H locs ls hP hS hl) (fun h => absurd h h0)
theorem r_if_ne (X : Cx E lay cc own nL ret lev) {x : Int32} {off : Int} {tgt : Nat} [Decidable (x = 0)] (d : decode cc pc = .ok (.ifCond .ne off, 3)) (ht : (pc : Int) + off = (tgt : Int)) (k1 : ¬ x = 0 → G E f1 S tgt lv st) (k2 : x = 0 → G E f2 S (pc + 3) lv st) : G E (if x = 0 then f2 else f1) S pc lv (.int x :: st) := by
  refine r_ite (fun h0 => ?_) (fun h0 => ?_)
  · replace k2 := k2 h0
    obtain ⟨p, l, e, R, s, m, args, below, meth, c, rt, D, ad, cI, cZ, ly⟩ := E
    obtain ⟨hx, hb, hml, hown, hts, hK, hN, hj, hlk, hrt, hr1, hly, hR, hstr⟩ := X
    intro r hr H locs ls hP hS hl
    exact lv_if_ne hx hb d ht (fun h => absurd h0 h) (fun _ => k2 r hr H locs ls hP hS hl)
  · replace k1 := k1 h0
    obtain ⟨p, l, e, R, s, m, args, below, meth, c, rt, D, ad, cI, cZ, ly⟩ := E
    obtain ⟨hx, hb, hml, hown, hts, hK, hN, hj, hlk, hrt, hr1, hly, hR, hstr⟩ := X
    intro r hr H locs ls hP hS hl
    exact lv_if_ne hx hb d ht (fun _ => k1 r hr H locs ls hP hS hl) (fun h => absurd h h0)
theorem r_if_neT (X : Cx E lay cc own nL ret lev) {x : Int32} {off : Int} {tgt : Nat} (d : decode cc pc = .ok (.ifCond .ne off, 3)) (ht : (pc : Int) + off = (tgt : Int)) (h0 : ¬ x = 0) (k1 : G E f S tgt lv st) : G E f S pc lv (.int x :: st) := by
  obtain ⟨p, l, e, R, s, m, args, below, meth, c, rt, D, ad, cI, cZ, ly⟩ := E
  obtain ⟨hx, hb, hml, hown, hts, hK, hN, hj, hlk, hrt, hr1, hly, hR, hstr⟩ := X
  intro r hr H locs ls hP hS hl
  exact lv_if_ne hx hb d ht (fun _ => k1 r hr H locs ls hP hS hl) (fun h => absurd h h0)
theorem r_if_neF (X : Cx E lay cc own nL ret lev) {x : Int32} {off : Int} {tgt : Nat} (d : decode cc pc = .ok (.ifCond .ne off, 3)) (ht : (pc : Int) + off = (tgt : Int)) (h0 : x = 0) (k2 : G E f S (pc + 3) lv st) : G E f S pc lv (.int x :: st) := by
  obtain ⟨p, l, e, R, s, m, args, below, meth, c, rt, D, ad, cI, cZ, ly⟩ := E
  obtain ⟨hx, hb, hml, hown, hts, hK, hN, hj, hlk, hrt, hr1, hly, hR, hstr⟩ := X
  intro r hr H locs ls hP hS hl
  exact lv_if_ne hx hb d ht (fun h => absurd h0 h) (fun _ => k2 r hr H locs ls hP hS hl)
def MetS (y : MethodName) (bytes : ByteArray) (maxL : Nat) (ret : Option FieldType) (lev : Nat) (lay : List LE) (f : Option (Int32 × ST)) (S : ST) (As : (Nat → Nat) → List Value) : Prop := ∀ (l : Launch) (D : va_G) (ad : Nat → Nat) (cI cZ : ClassId), injW lay ad → ∀ r, f = some r → Met l y (.code y bytes maxL ret :: TG) (rmL lev) (pcS lay ad cI cZ D S (As ad)) (qqS lay ad cI cZ D ret r) 0 0 (aW lay ad)
theorem mk_met {y : MethodName} {bytes : ByteArray} {maxL : Nat} {As : (Nat → Nat) → List Value} (lv0 : (Nat → Nat) → List (Nat × Value)) (hp : plainName y.cls = true) (hlen : ∀ ad, (lg_sl (As ad)).length ≤ maxL) (hlv : ∀ ad, lv_args 0 (As ad) = lv0 ad) (hG : ∀ E, Cx E lay bytes y.cls maxL ret lev → G E f S 0 (lv0 (eA E)) []) : MetS y bytes maxL ret lev lay f S As := by
  intro l D ad cI cZ hj r hr
  refine Met.ofW (cc := bytes) (maxL := maxL) (ret := ret) hp rfl ?_
  intro p e s m args below meth c s₁ B hml hv
  obtain ⟨rfl, hP, hK, hN, hstr⟩ := hv
  have hts := atoms_spec (ws := Cond.code y bytes maxL ret :: TG) B.pre
  have X : Cx (p, l, e, (headSpec (Cond.code y bytes maxL ret :: TG) (rmL lev)).room, s, m, (As ad).toArray, below, meth, c, ret, D, ad, cI, cZ, lay) lay bytes y.cls maxL ret lev := ⟨B.exec, B.bytes, hml, findClass_of_methodNamed B.named, fun w hw => hts w (List.mem_cons_of_mem _ hw), hK, hN, hj, B.notSynchronized, B.returns, rfl, rfl, rfl, hstr⟩
  have hl := lv_entry (As ad) (n := maxL) (hlen ad)
  rw [hlv ad] at hl
  rw [lg_entry_eq]
  exact hG _ X r hr s.heap [] _ hP va_S.rf (by rw [hml]; exact hl)
def mkV (y : MethodName) (C : String) (bytes : ByteArray) (maxL : Nat) (ret : Option FieldType) (n : Nat) : Prop := Cond.instanceMethod y ∈ TG ∧ Cond.selects C y y ∈ TG ∧ Cond.initialized C ∈ TG ∧ Cond.code y bytes maxL ret ∈ TG ∧ (y.cls = C ∧ y.cls ≠ "java/lang/invoke/MethodHandle" ∧ y.cls ≠ "java/lang/invoke/VarHandle" ∧ (parseMethodDescriptor y.desc).map (fun d => d.parameters.length) = some n)
def mkS (y : MethodName) (bytes : ByteArray) (maxL : Nat) (ret : Option FieldType) (n : Nat) : Prop := Cond.static y ∈ TG ∧ Cond.initialized y.cls ∈ TG ∧ Cond.code y bytes maxL ret ∈ TG ∧ (y.cls ≠ "java/lang/invoke/MethodHandle" ∧ y.cls ≠ "java/lang/invoke/VarHandle" ∧ (parseMethodDescriptor y.desc).map (fun d => d.parameters.length) = some n)
def lkM (own : String) (i : Nat) (y : MethodName) : Prop := Cond.methodLink own i y ∈ TG ∨ ∃ host, Cond.methodLinkNest own i y host ∈ NW
theorem gi_code {y : MethodName} {bytes : ByteArray} {maxL : Nat} {rt : Option FieldType} (h : Cond.code y bytes maxL rt ∈ TG) : GoodIn TG (Cond.code y bytes maxL rt :: TG) := fun w hw => by
  rcases List.mem_cons.mp hw with h1 | h1
  · rw [h1]; exact ⟨h, tg_good h⟩
  · exact ⟨h1, tg_good h1⟩
theorem gi_app {a b : List Cond} (ha : ∀ w ∈ a, w ∈ TG) (hb : GoodIn TG b) : GoodIn TG (a ++ b) := fun w hw => (List.mem_append.mp hw).elim (fun h => ⟨ha w h, tg_good (ha w h)⟩) (hb w)
theorem gi_V {i : Nat} {y : MethodName} {C : String} {bytes : ByteArray} {maxL n : Nat} {rt : Option FieldType} (hm : mkV y C bytes maxL rt n) (hl : Cond.methodLink own i y ∈ TG) : GoodIn TG (wsV own i C y (Cond.code y bytes maxL rt :: TG)) := by
  refine gi_app (fun w hw => ?_) (gi_code hm.2.2.2.1)
  simp only [List.mem_cons, List.not_mem_nil, or_false] at hw
  rcases hw with rfl | rfl | rfl | rfl
  · exact hl
  · exact hm.1
  · exact hm.2.1
  · exact hm.2.2.1
theorem gi_S {i : Nat} {y : MethodName} {bytes : ByteArray} {maxL n : Nat} {rt : Option FieldType} (hm : mkS y bytes maxL rt n) (hl : Cond.methodLink own i y ∈ TG) : GoodIn TG (va_wsS own i y (Cond.code y bytes maxL rt :: TG)) := by
  refine gi_app (fun w hw => ?_) (gi_code hm.2.2.1)
  simp only [List.mem_cons, List.not_mem_nil, or_false] at hw
  rcases hw with rfl | rfl | rfl
  · exact hl
  · exact hm.1
  · exact hm.2.1
theorem pcS_blind {ad : Nat → Nat} {cI cZ : ClassId} {D : va_G} {As : List Value} : FrameBlind (pcS lay ad cI cZ D S As) := fun a U g mk h => by
  obtain ⟨h1, h2, h3, h4, h5⟩ := h
  exact ⟨h1, h2, va_K.moved (u := U) (U := U.calling g mk a) (Vm.Alike.refl U.vm) h3, fun w hw => va_Nw.same (u := U) (U := U.calling g mk a) (nw_tab hw) rfl (h4 w hw), sOK.same (u := U) (U := U.calling g mk a) rfl h5⟩
theorem pcS_at {ad : Nat → Nat} {cI cZ : ClassId} {D : va_G} {As : List Value} {s U : State} {H : Heap} (hP : va_P D vwCl (sW lay ad cI cZ S) H) (hK : va_K D vwCl [(cI, .int), (cZ, .boolean)] s) (hN : ∀ w ∈ NW, va_Nw w s) {locs : List Loc} (hstr : sOK lay ad s s.heap) (hS : va_S (aW lay ad) s.heap H locs) (hU : U.heap = H) (hW : s.WarmedH U.vm) : pcS lay ad cI cZ D S As As.toArray U := ⟨rfl, by rw [hU]; exact hP, va_K.moved hW.alike hK, fun w hw => nw_warm hw hW (hN w hw), by rw [hU]; exact (hstr.warm hW).kept hS⟩
theorem r_callV (X : Cx E lay cc own nL ret lev) {i k ci n maxL lev' N : Nat} {fl : List (Nat × Nat)} {y : MethodName} {C : String} {bytes : ByteArray} {T : u_T} {rt : FieldType} {As : (Nat → Nat) → List Value} {o : Option (Int32 × ST)} {kf : Int32 × ST → Option (Int32 × ST)} {st0 : List Value} (hM : MetS y bytes maxL (some rt) lev' lay o S (fun ad => .ref (ad k) :: As ad)) (hm : mkV y C bytes maxL (some rt) n) (hl0 : lkM own i y) (hk : lay[k]? = some (.inl (ci, fl))) (hc : vwCl[ci]? = some (C, T, N)) (hn : (As (eA E)).length = n) (hlev : lev' + 1 ≤ lev) (hmx : maxL ≤ 21) (hroom : (st.map fun v => v.category).sum ≤ 8) (hst : st0 = (As (eA E)).reverse ++ .ref (eA E k) :: st) (d : decode cc pc = .ok (.invokevirtual i, 3)) (kk : ∀ q : Int32 × ST, o = some q → G E (kf q) q.2 (pc + 3) lv (.int q.1 :: st)) : G E (o.bind kf) S pc lv st0 := by
  obtain ⟨p, l, e, R, s, m, args, below, meth, c, rt, D, ad, cI, cZ, ly⟩ := E
  obtain ⟨hx, hb, hml, hown, hts, hK, hN, hj, hlk, hrt, hr1, hly, hR, hstr⟩ := X
  intro r hr H locs ls hP hS hl
  obtain ⟨q, ho, hq⟩ := Option.bind_eq_some_iff.mp hr
  subst hly
  subst hR
  have hMe := hM l D ad cI cZ hj q ho
  have hR2 : (rmL lev').frames + 1 ≤ (rmL lev).frames ∧ 8 + (maxL + 11) + (rmL lev').locals ≤ (rmL lev).locals := ⟨hlev, by show 8 + (maxL + 11) + (40 * lev' + 20) ≤ 40 * lev + 20; omega⟩
  have hsz : (F0 m pc ls st0).locals.size = nL := hl.1.trans hml
  have hpre : PreV s H C (ad k) (pcS ly ad cI cZ D S (.ref (ad k) :: As ad)) (As ad) := ⟨pcS_blind, va_recv hK hP hc (sW_at hk), fun U hU hW => pcS_at hP hK hN hstr hS hU hW⟩
  rcases hl0 with hL | ⟨host, hL⟩
  · exact va_calli (va_runV (As := As ad) (rest := st) ⟨hx, hb, hml, hown, hts⟩ hMe (cwV n hts (gi_V hm hL) rfl rfl rfl hm.2.2.2.2 hR2) hpre rfl hn hsz hst (lv_room hroom) d ⟨Nat.le_refl _, Nat.le_refl _⟩) hS (fun q _ h => h) (fun q h => h) (fun v u t H1 locs1 ht hvm hp1 hB hz hk1 hS1 => by rw [hp1]; exact kk q ho r hq H1 locs1 ls (by rw [← ht]; exact hB) hS1 hl)
  · exact va_calli (va_runVN (As := As ad) (rest := st) ⟨hx, hb, hml, hown, hts⟩ hMe ⟨va_cnB n hts (gi_code hm.2.2.2.1) rfl rfl rfl (hN _ hL) (hm.2.2.2.2.1 ▸ hts _ hm.2.2.1) hm.2.2.2.2.2 hR2, hts _ hm.1, hts _ hm.2.1⟩ hpre rfl hn hsz hst (lv_room hroom) d ⟨Nat.le_refl _, Nat.le_refl _⟩) hS (fun q _ h => h) (fun q h => h) (fun v u t H1 locs1 ht hvm hp1 hB hz hk1 hS1 => by rw [hp1]; exact kk q ho r hq H1 locs1 ls (by rw [← ht]; exact hB) hS1 hl)
theorem r_callVv (X : Cx E lay cc own nL ret lev) {i k ci n maxL lev' N : Nat} {fl : List (Nat × Nat)} {y : MethodName} {C : String} {bytes : ByteArray} {T : u_T} {As : (Nat → Nat) → List Value} {o : Option (Int32 × ST)} {kf : Int32 × ST → Option (Int32 × ST)} {st0 : List Value} (hM : MetS y bytes maxL none lev' lay o S (fun ad => .ref (ad k) :: As ad)) (hm : mkV y C bytes maxL none n) (hl0 : lkM own i y) (hk : lay[k]? = some (.inl (ci, fl))) (hc : vwCl[ci]? = some (C, T, N)) (hn : (As (eA E)).length = n) (hlev : lev' + 1 ≤ lev) (hmx : maxL ≤ 21) (hroom : (st.map fun v => v.category).sum ≤ 8) (hst : st0 = (As (eA E)).reverse ++ .ref (eA E k) :: st) (d : decode cc pc = .ok (.invokevirtual i, 3)) (kk : ∀ q : Int32 × ST, o = some q → G E (kf q) q.2 (pc + 3) lv (st)) : G E (o.bind kf) S pc lv st0 := by
  obtain ⟨p, l, e, R, s, m, args, below, meth, c, rt, D, ad, cI, cZ, ly⟩ := E
  obtain ⟨hx, hb, hml, hown, hts, hK, hN, hj, hlk, hrt, hr1, hly, hR, hstr⟩ := X
  intro r hr H locs ls hP hS hl
  obtain ⟨q, ho, hq⟩ := Option.bind_eq_some_iff.mp hr
  subst hly
  subst hR
  have hMe := hM l D ad cI cZ hj q ho
  have hR2 : (rmL lev').frames + 1 ≤ (rmL lev).frames ∧ 8 + (maxL + 11) + (rmL lev').locals ≤ (rmL lev).locals := ⟨hlev, by show 8 + (maxL + 11) + (40 * lev' + 20) ≤ 40 * lev + 20; omega⟩
  have hsz : (F0 m pc ls st0).locals.size = nL := hl.1.trans hml
  have hpre : PreV s H C (ad k) (pcS ly ad cI cZ D S (.ref (ad k) :: As ad)) (As ad) := ⟨pcS_blind, va_recv hK hP hc (sW_at hk), fun U hU hW => pcS_at hP hK hN hstr hS hU hW⟩
  rcases hl0 with hL | ⟨host, hL⟩
  · exact va_callv (va_runV (As := As ad) (rest := st) ⟨hx, hb, hml, hown, hts⟩ hMe (cwV n hts (gi_V hm hL) rfl rfl rfl hm.2.2.2.2 hR2) hpre rfl hn hsz hst (lv_room hroom) d ⟨Nat.le_refl _, Nat.le_refl _⟩) hS (fun q _ h => h) (fun q h => h) (fun u t H1 locs1 ht hvm hp1 hB hz hk1 hS1 => kk q ho r hq H1 locs1 ls (by rw [← ht]; exact hB) hS1 hl)
  · exact va_callv (va_runVN (As := As ad) (rest := st) ⟨hx, hb, hml, hown, hts⟩ hMe ⟨va_cnB n hts (gi_code hm.2.2.2.1) rfl rfl rfl (hN _ hL) (hm.2.2.2.2.1 ▸ hts _ hm.2.2.1) hm.2.2.2.2.2 hR2, hts _ hm.1, hts _ hm.2.1⟩ hpre rfl hn hsz hst (lv_room hroom) d ⟨Nat.le_refl _, Nat.le_refl _⟩) hS (fun q _ h => h) (fun q h => h) (fun u t H1 locs1 ht hvm hp1 hB hz hk1 hS1 => kk q ho r hq H1 locs1 ls (by rw [← ht]; exact hB) hS1 hl)
theorem r_callS (X : Cx E lay cc own nL ret lev) {i n maxL lev' : Nat} {y : MethodName} {bytes : ByteArray} {rt : FieldType} {As : (Nat → Nat) → List Value} {o : Option (Int32 × ST)} {kf : Int32 × ST → Option (Int32 × ST)} {st0 : List Value} (hM : MetS y bytes maxL (some rt) lev' lay o S As) (hm : mkS y bytes maxL (some rt) n) (hl0 : lkM own i y) (hn : (As (eA E)).length = n) (hlev : lev' + 1 ≤ lev) (hmx : maxL ≤ 21) (hroom : (st.map fun v => v.category).sum ≤ 8) (hst : st0 = (As (eA E)).reverse ++ st) (d : decode cc pc = .ok (.invokestatic i, 3)) (kk : ∀ q : Int32 × ST, o = some q → G E (kf q) q.2 (pc + 3) lv (.int q.1 :: st)) : G E (o.bind kf) S pc lv st0 := by
  obtain ⟨p, l, e, R, s, m, args, below, meth, c, rt, D, ad, cI, cZ, ly⟩ := E
  obtain ⟨hx, hb, hml, hown, hts, hK, hN, hj, hlk, hrt, hr1, hly, hR, hstr⟩ := X
  intro r hr H locs ls hP hS hl
  obtain ⟨q, ho, hq⟩ := Option.bind_eq_some_iff.mp hr
  subst hly
  subst hR
  have hMe := hM l D ad cI cZ hj q ho
  have hR2 : (rmL lev').frames + 1 ≤ (rmL lev).frames ∧ 8 + (maxL + 11) + (rmL lev').locals ≤ (rmL lev).locals := ⟨hlev, by show 8 + (maxL + 11) + (40 * lev' + 20) ≤ 40 * lev + 20; omega⟩
  have hsz : (F0 m pc ls st0).locals.size = nL := hl.1.trans hml
  have hpre : PreS s H (pcS ly ad cI cZ D S (As ad)) (As ad) := ⟨pcS_blind, fun U hU hW => pcS_at hP hK hN hstr hS hU hW⟩
  rcases hl0 with hL | ⟨host, hL⟩
  · exact va_calli (va_runS (As := As ad) (rest := st) ⟨hx, hb, hml, hown, hts⟩ hMe (va_cwS n hts (gi_S hm hL) rfl rfl rfl hm.2.2.2 hR2) hpre rfl hn hsz hst (lv_room hroom) d ⟨Nat.le_refl _, Nat.le_refl _⟩) hS (fun q _ h => h) (fun q h => h) (fun v u t H1 locs1 ht hvm hp1 hB hz hk1 hS1 => by rw [hp1]; exact kk q ho r hq H1 locs1 ls (by rw [← ht]; exact hB) hS1 hl)
  · exact va_calli (va_runSN (As := As ad) (rest := st) ⟨hx, hb, hml, hown, hts⟩ hMe ⟨va_cnB n hts (gi_code hm.2.2.1) rfl rfl rfl (hN _ hL) (hts _ hm.2.1) hm.2.2.2 hR2, hts _ hm.1, trivial⟩ hpre rfl hn hsz hst (lv_room hroom) d ⟨Nat.le_refl _, Nat.le_refl _⟩) hS (fun q _ h => h) (fun q h => h) (fun v u t H1 locs1 ht hvm hp1 hB hz hk1 hS1 => by rw [hp1]; exact kk q ho r hq H1 locs1 ls (by rw [← ht]; exact hB) hS1 hl)
theorem r_callSv (X : Cx E lay cc own nL ret lev) {i n maxL lev' : Nat} {y : MethodName} {bytes : ByteArray} {As : (Nat → Nat) → List Value} {o : Option (Int32 × ST)} {kf : Int32 × ST → Option (Int32 × ST)} {st0 : List Value} (hM : MetS y bytes maxL none lev' lay o S As) (hm : mkS y bytes maxL none n) (hl0 : lkM own i y) (hn : (As (eA E)).length = n) (hlev : lev' + 1 ≤ lev) (hmx : maxL ≤ 21) (hroom : (st.map fun v => v.category).sum ≤ 8) (hst : st0 = (As (eA E)).reverse ++ st) (d : decode cc pc = .ok (.invokestatic i, 3)) (kk : ∀ q : Int32 × ST, o = some q → G E (kf q) q.2 (pc + 3) lv (st)) : G E (o.bind kf) S pc lv st0 := by
  obtain ⟨p, l, e, R, s, m, args, below, meth, c, rt, D, ad, cI, cZ, ly⟩ := E
  obtain ⟨hx, hb, hml, hown, hts, hK, hN, hj, hlk, hrt, hr1, hly, hR, hstr⟩ := X
  intro r hr H locs ls hP hS hl
  obtain ⟨q, ho, hq⟩ := Option.bind_eq_some_iff.mp hr
  subst hly
  subst hR
  have hMe := hM l D ad cI cZ hj q ho
  have hR2 : (rmL lev').frames + 1 ≤ (rmL lev).frames ∧ 8 + (maxL + 11) + (rmL lev').locals ≤ (rmL lev).locals := ⟨hlev, by show 8 + (maxL + 11) + (40 * lev' + 20) ≤ 40 * lev + 20; omega⟩
  have hsz : (F0 m pc ls st0).locals.size = nL := hl.1.trans hml
  have hpre : PreS s H (pcS ly ad cI cZ D S (As ad)) (As ad) := ⟨pcS_blind, fun U hU hW => pcS_at hP hK hN hstr hS hU hW⟩
  rcases hl0 with hL | ⟨host, hL⟩
  · exact va_callv (va_runS (As := As ad) (rest := st) ⟨hx, hb, hml, hown, hts⟩ hMe (va_cwS n hts (gi_S hm hL) rfl rfl rfl hm.2.2.2 hR2) hpre rfl hn hsz hst (lv_room hroom) d ⟨Nat.le_refl _, Nat.le_refl _⟩) hS (fun q _ h => h) (fun q h => h) (fun u t H1 locs1 ht hvm hp1 hB hz hk1 hS1 => kk q ho r hq H1 locs1 ls (by rw [← ht]; exact hB) hS1 hl)
  · exact va_callv (va_runSN (As := As ad) (rest := st) ⟨hx, hb, hml, hown, hts⟩ hMe ⟨va_cnB n hts (gi_code hm.2.2.1) rfl rfl rfl (hN _ hL) (hts _ hm.2.1) hm.2.2.2 hR2, hts _ hm.1, trivial⟩ hpre rfl hn hsz hst (lv_room hroom) d ⟨Nat.le_refl _, Nat.le_refl _⟩) hS (fun q _ h => h) (fun q h => h) (fun u t H1 locs1 ht hvm hp1 hB hz hk1 hS1 => kk q ho r hq H1 locs1 ls (by rw [← ht]; exact hB) hS1 hl)
end ROWS
