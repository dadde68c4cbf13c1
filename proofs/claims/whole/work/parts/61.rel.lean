def inNet (net : Nat → Int32) (Y X : Int) : Prop := 0 ≤ Y ∧ Y < 24 ∧ 0 ≤ X ∧ X < 24 ∧ (net Y.toNat).toBitVec.getLsbD X.toNat = true
def Fit (net : Nat → Int32) (y x r : Nat) : Prop := ∀ dy dx : Int, dy * dy + dx * dx ≤ (r : Int) * r → inNet net (y + dy) (x + dx)
noncomputable def growS (net : Nat → Int32) (y x : Nat) : Nat → Nat × Nat × Nat → Nat × Nat × Nat
  | 0, s => s
  | n + 1, s => @ite _ (s.1 < 12 ∧ Fit net y x s.1) (Classical.propDecidable _) (growS net y x n (s.1 + 1, y, x)) s
noncomputable def rowS (net : Nat → Int32) (y : Nat) : Nat → Nat × Nat × Nat → Nat × Nat × Nat
  | 0, s => s
  | n + 1, s => growS net y n 12 (rowS net y n s)
noncomputable def seekS (net : Nat → Int32) : Nat → Nat × Nat × Nat → Nat × Nat × Nat
  | 0, s => s
  | n + 1, s => rowS net n 24 (seekS net n s)
noncomputable def centS (net : Nat → Int32) : Nat × Nat × Nat := seekS net 24 (0, 0, 0)
def LogC (net : Nat → Int32) (ra cy cx : Int32) : Prop := ra = nI (centS net).1 - 1 ∧ ((centS net).1 ≠ 0 → cy = nI (centS net).2.1 ∧ cx = nI (centS net).2.2)
def RLog (SC SM : ST) : Prop := (∀ r, r < 24 → SC.1 12 r = SM.1 1 r ∧ ∃ n, n < 16777216 ∧ SM.1 1 r = nI n) ∧ (SC.1 1 1 = 0 → LogC (SM.1 1) (SC.1 1 4) (SC.1 1 2) (SC.1 1 3))
def RTape (SC SM : ST) : Prop := ∃ n, n ≤ 600 ∧ SC.1 2 1 = nI n ∧ SM.1 0 5 = nI n ∧ ∀ i, i < n → SC.1 13 i = SM.1 2 i ∧ ∃ b, b < 256 ∧ SM.1 2 i = nI b
def RFlt (SC SM : ST) : Prop := SC.1 0 8 = SM.1 0 6 ∧ SC.1 0 9 = SM.1 0 7
def codeRel (c w v : Int32) : Prop := (∃ n, n < 10000 ∧ c = nI n ∧ w = 0 ∧ v = nI n) ∨ (∃ n, n < 5 ∧ c = -1 - nI n ∧ w = nI (10 + n)) ∨ (c = -6 ∧ w = 20) ∨ (c = -7 ∧ w = 22) ∨ (c = -8 ∧ w = 21) ∨ (c = -9 ∧ w = 24) ∨ (c = -10 ∧ w = 25) ∨ (c = -11 ∧ w = 23) ∨ (c = -12 ∧ w = 26) ∨ (c = -13 ∧ w = 27)
def tyStep (c : Int32) (t : List Bool) : Option (List Bool) := if -5 ≤ c then some (false :: t) else if c = -6 then (match t with
    | true :: r => some (true :: r)
    | _ => none) else if c = -7 ∨ c = -8 then (match t with
    | true :: true :: r => some (true :: r)
    | _ => none) else if c = -9 ∨ c = -10 ∨ c = -11 then (match t with
    | false :: false :: r => some (true :: r)
    | _ => none) else (match t with
    | false :: false :: r => some (false :: r)
    | _ => none)
def tyRun (code : Nat → Int32) : Nat → Nat → List Bool → Option (List Bool)
  | _, 0, t => if t.length ≤ 30 then some t else none
  | k, n + 1, t => if t.length ≤ 30 then (tyStep (code k) t).bind (tyRun code (k + 1) n) else none
def RGr (SC SM : ST) : Prop := ∃ (n : Nat) (e : Nat → Nat), n ≤ 8 ∧ SC.1 6 5 = nI n ∧ SM.1 0 14 = nI n ∧ e 0 = 0 ∧ (∀ g, g < n → e g ≤ e (g + 1)) ∧ e n ≤ 320 ∧ (∀ g, g < n → (∃ w, 1 ≤ w ∧ w ≤ 100 ∧ SC.1 21 g = nI w ∧ SM.1 3 g = nI w) ∧ (∃ v, 1 ≤ v ∧ v ≤ 9999 ∧ SC.1 22 g = nI v ∧ SM.1 4 g = nI v) ∧ SC.1 23 g = nI (e (g + 1)) ∧ (e g < e (g + 1) → tyRun (SC.1 24) (e g) (e (g + 1) - e g) [] = some [true])) ∧ (∀ g, g ≤ n → SM.1 7 g = nI (e g)) ∧ ∀ k, k < e n → codeRel (SC.1 24 k) (SM.1 5 k) (SM.1 6 k)
def cntS (mk : Nat → Nat) (m : Nat) : Nat → Nat
  | 0 => 0
  | n + 1 => cntS mk m n + if mk n = m then 1 else 0
def runB (mk : Nat → Nat) : Nat → Nat
  | 0 => 0
  | n + 1 => if mk n = 4 then runB mk n + 1 else 0
def RLeaf (SC SM : ST) : Prop := ∃ (n : Nat) (mk : Nat → Nat), n ≤ 300 ∧ SC.1 7 5 = nI n ∧ SM.1 0 32 = nI n ∧ (∀ i, i < n → mk i < 5 ∧ SM.1 14 i = nI (mk i)) ∧ SC.1 26 0 = 0 ∧ SC.1 27 0 = 0 ∧ SC.1 28 0 = 0 ∧ SC.1 29 0 = 0 ∧ SC.1 30 0 = 0 ∧ ∀ i, i ≤ n → SC.1 26 i = nI (cntS mk 0 i) ∧ SC.1 27 i = nI (cntS mk 1 i) ∧ SC.1 28 i = nI (cntS mk 2 i) ∧ SC.1 29 i = nI (cntS mk 3 i) ∧ SC.1 30 i = nI (runB mk i)
def RPat (SC SM : ST) : Prop := (∃ p, p ≤ 3 ∧ SC.1 9 8 = nI p ∧ SM.1 0 33 = nI p) ∧ ∃ c, c ≤ 100 ∧ SC.1 9 9 = nI c ∧ SM.1 0 34 = nI c
def RClip (SC : ST) : Prop := SC.1 9 11 = 0 → ∃ S0 S1 : ST, S0.1 9 11 = 1 ∧ S0.1 6 5 = SC.1 6 5 ∧ S0.1 21 = SC.1 21 ∧ S0.1 22 = SC.1 22 ∧ S0.1 23 = SC.1 23 ∧ S0.1 24 = SC.1 24 ∧ S0.1 7 5 = SC.1 7 5 ∧ S0.1 26 = SC.1 26 ∧ S0.1 27 = SC.1 27 ∧ S0.1 28 = SC.1 28 ∧ S0.1 29 = SC.1 29 ∧ S0.1 30 = SC.1 30 ∧ S0.1 9 8 = SC.1 9 8 ∧ S0.1 9 9 = SC.1 9 9 ∧ fX0_find FU S0 = some (0, S1) ∧ S1.1 9 10 = SC.1 9 10 ∧ S1.1 32 = SC.1 32 ∧ S1.1 34 = SC.1 34 ∧ S1.1 35 = SC.1 35 ∧ S1.1 36 = SC.1 36
def RVen (SC SM : ST) : Prop := ∀ k, k < 6 → ∃ t o p : Nat, 1 ≤ t ∧ t ≤ 90 ∧ o ≤ 20 ∧ o ≤ t ∧ p ≤ 1000 ∧ SC.1 37 k = nI t ∧ SM.1 23 k = nI t ∧ SC.1 38 k = nI o ∧ SM.1 24 k = nI o ∧ SC.1 39 k = nI p ∧ SM.1 25 k = nI p ∧ SC.1 40 k = SM.1 27 k ∧ (SM.1 27 k = 0 ∨ SM.1 27 k = 1)
def RPr (SC SM : ST) : Prop := (∃ n, n ≤ 10 ∧ SC.1 11 8 = nI n ∧ SM.1 0 53 = nI n ∧ ∀ i, i < n → (∃ t, 1 ≤ t ∧ t ≤ 500 ∧ SC.1 41 i = nI t ∧ SM.1 28 i = nI t) ∧ ∃ m, m ≤ 10000 ∧ SC.1 42 i = nI m ∧ SM.1 29 i = nI m) ∧ ∃ o b p l : Nat, 1 ≤ o ∧ o ≤ 10 ∧ b ≤ 100 ∧ p ≤ 10 ∧ 1 ≤ l ∧ l ≤ 1000 ∧ SC.1 11 9 = nI o ∧ SM.1 0 49 = nI o ∧ SC.1 11 10 = nI b ∧ SM.1 0 50 = nI b ∧ SC.1 11 11 = nI p ∧ SM.1 0 51 = nI p ∧ SC.1 11 12 = nI l ∧ SM.1 0 52 = nI l
def RPrC (SC : ST) : Prop := SC.1 11 15 = 0 → ∃ S0 S1 : ST, S0.1 11 15 = 1 ∧ S0.1 41 = SC.1 41 ∧ S0.1 42 = SC.1 42 ∧ S0.1 11 8 = SC.1 11 8 ∧ S0.1 11 9 = SC.1 11 9 ∧ S0.1 11 10 = SC.1 11 10 ∧ S0.1 11 11 = SC.1 11 11 ∧ S0.1 11 12 = SC.1 11 12 ∧ fX6_find FU S0 = some (0, S1) ∧ S1.1 11 13 = SC.1 11 13 ∧ S1.1 11 14 = SC.1 11 14 ∧ S1.1 46 = SC.1 46 ∧ S1.1 47 = SC.1 47 ∧ S1.1 48 = SC.1 48
def Rel (SC SM : ST) : Prop := RLog SC SM ∧ RTape SC SM ∧ RFlt SC SM ∧ RGr SC SM ∧ RLeaf SC SM ∧ RPat SC SM ∧ RClip SC ∧ RVen SC SM ∧ RPr SC SM ∧ RPrC SC
theorem RLog.fr {SC SM SC2 SM2 : ST} (h : RLog SC SM) (a1 : SC2.1 12 = SC.1 12) (a2 : SC2.1 1 = SC.1 1) (b1 : SM2.1 1 = SM.1 1) : RLog SC2 SM2 := by
  unfold RLog at *
  rw [a1, a2, b1]
  exact h
theorem RTape.fr {SC SM SC2 SM2 : ST} (h : RTape SC SM) (a1 : SC2.1 2 1 = SC.1 2 1) (a2 : SC2.1 13 = SC.1 13) (b1 : SM2.1 0 5 = SM.1 0 5) (b2 : SM2.1 2 = SM.1 2) : RTape SC2 SM2 := by
  unfold RTape at *
  rw [a1, a2, b1, b2]
  exact h
theorem RFlt.fr {SC SM SC2 SM2 : ST} (h : RFlt SC SM) (a1 : SC2.1 0 = SC.1 0) (b1 : SM2.1 0 6 = SM.1 0 6) (b2 : SM2.1 0 7 = SM.1 0 7) : RFlt SC2 SM2 := by
  unfold RFlt at *
  rw [a1, b1, b2]
  exact h
theorem RGr.fr {SC SM SC2 SM2 : ST} (h : RGr SC SM) (a1 : SC2.1 6 5 = SC.1 6 5) (a2 : SC2.1 21 = SC.1 21) (a3 : SC2.1 22 = SC.1 22) (a4 : SC2.1 23 = SC.1 23) (a5 : SC2.1 24 = SC.1 24) (b1 : SM2.1 0 14 = SM.1 0 14) (b2 : SM2.1 3 = SM.1 3) (b3 : SM2.1 4 = SM.1 4) (b4 : SM2.1 5 = SM.1 5) (b5 : SM2.1 6 = SM.1 6) (b6 : SM2.1 7 = SM.1 7) : RGr SC2 SM2 := by
  unfold RGr at *
  rw [a1, a2, a3, a4, a5, b1, b2, b3, b4, b5, b6]
  exact h
theorem RLeaf.fr {SC SM SC2 SM2 : ST} (h : RLeaf SC SM) (a1 : SC2.1 7 = SC.1 7) (a2 : SC2.1 26 = SC.1 26) (a3 : SC2.1 27 = SC.1 27) (a4 : SC2.1 28 = SC.1 28) (a5 : SC2.1 29 = SC.1 29) (a6 : SC2.1 30 = SC.1 30) (b1 : SM2.1 0 32 = SM.1 0 32) (b2 : SM2.1 14 = SM.1 14) : RLeaf SC2 SM2 := by
  unfold RLeaf at *
  rw [a1, a2, a3, a4, a5, a6, b1, b2]
  exact h
theorem RPat.fr {SC SM SC2 SM2 : ST} (h : RPat SC SM) (a1 : SC2.1 9 8 = SC.1 9 8) (a2 : SC2.1 9 9 = SC.1 9 9) (b1 : SM2.1 0 33 = SM.1 0 33) (b2 : SM2.1 0 34 = SM.1 0 34) : RPat SC2 SM2 := by
  unfold RPat at *
  rw [a1, a2, b1, b2]
  exact h
theorem RClip.fr {SC SC2 : ST} (h : RClip SC) (a1 : SC2.1 9 = SC.1 9) (a2 : SC2.1 6 5 = SC.1 6 5) (a3 : SC2.1 7 = SC.1 7) (b1 : SC2.1 21 = SC.1 21) (b2 : SC2.1 22 = SC.1 22) (b3 : SC2.1 23 = SC.1 23) (b4 : SC2.1 24 = SC.1 24) (c1 : SC2.1 26 = SC.1 26) (c2 : SC2.1 27 = SC.1 27) (c3 : SC2.1 28 = SC.1 28) (c4 : SC2.1 29 = SC.1 29) (c5 : SC2.1 30 = SC.1 30) (d1 : SC2.1 32 = SC.1 32) (d3 : SC2.1 34 = SC.1 34) (d4 : SC2.1 35 = SC.1 35) (d5 : SC2.1 36 = SC.1 36) : RClip SC2 := by
  unfold RClip at *
  rw [a1, a2, a3, b1, b2, b3, b4, c1, c2, c3, c4, c5, d1, d3, d4, d5]
  exact h
theorem RVen.fr {SC SM SC2 SM2 : ST} (h : RVen SC SM) (a1 : SC2.1 37 = SC.1 37) (a2 : SC2.1 38 = SC.1 38) (a3 : SC2.1 39 = SC.1 39) (a4 : SC2.1 40 = SC.1 40) (b1 : SM2.1 23 = SM.1 23) (b2 : SM2.1 24 = SM.1 24) (b3 : SM2.1 25 = SM.1 25) (b4 : SM2.1 27 = SM.1 27) : RVen SC2 SM2 := by
  unfold RVen at *
  rw [a1, a2, a3, a4, b1, b2, b3, b4]
  exact h
theorem RPr.fr {SC SM SC2 SM2 : ST} (h : RPr SC SM) (a1 : SC2.1 11 = SC.1 11) (a2 : SC2.1 41 = SC.1 41) (a3 : SC2.1 42 = SC.1 42) (b1 : SM2.1 0 53 = SM.1 0 53) (b2 : SM2.1 28 = SM.1 28) (b3 : SM2.1 29 = SM.1 29) (b4 : SM2.1 0 49 = SM.1 0 49) (b5 : SM2.1 0 50 = SM.1 0 50) (b6 : SM2.1 0 51 = SM.1 0 51) (b7 : SM2.1 0 52 = SM.1 0 52) : RPr SC2 SM2 := by
  unfold RPr at *
  rw [a1, a2, a3, b1, b2, b3, b4, b5, b6, b7]
  exact h
theorem RPrC.fr {SC SC2 : ST} (h : RPrC SC) (a1 : SC2.1 11 = SC.1 11) (a2 : SC2.1 41 = SC.1 41) (a3 : SC2.1 42 = SC.1 42) (b1 : SC2.1 46 = SC.1 46) (b2 : SC2.1 47 = SC.1 47) (b3 : SC2.1 48 = SC.1 48) : RPrC SC2 := by
  unfold RPrC at *
  rw [a1, a2, a3, b1, b2, b3]
  exact h
