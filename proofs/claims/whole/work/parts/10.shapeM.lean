/-! what the cells of the two systems hold -/
abbrev I1 : Type := Nat → Int32
abbrev I2 : Type := Nat → Nat → Int32
/-- only what stands below n counts -/
def nrm (n : Nat) (f : I1) : I1 := fun j => if j < n then f j else 0
def nrmL (n : Nat) (f : Nat → Int64) : Nat → Int64 := fun j => if j < n then f j else 0
def aI (g : GG) (n : Nat) (f : I1) : va_E := .inl (g.2.1 0, n, .inl (nrm n f))
def aB (g : GG) (n : Nat) (f : I1) : va_E := .inl (g.2.1 1, n, .inl (nrm n f))
def aC (g : GG) (n : Nat) (f : I1) : va_E := .inl (g.2.1 2, n, .inl (nrm n f))
def aL (g : GG) (n : Nat) (f : Nat → Int64) : va_E := .inl (g.2.1 3, n, .inr (.inl (nrmL n f)))
def aR (g : GG) (t n : Nat) (f : Nat → VA) : va_E := .inl (g.2.1 t, n, .inr (.inr (.inr (.inr (fun j => if j < n then some (bG g + ad (f j)) else none)))))
theorem nrm_lt {n i : Nat} {f : I1} (h : i < n) : nrm n f i = f i := if_pos h
theorem nrmL_lt {n i : Nat} {f : Nat → Int64} (h : i < n) : nrmL n f i = f i := if_pos h
theorem nrm_upd {n i : Nat} {f : I1} {v : Int32} (h : i < n) : upd (nrm n f) i v = nrm n (upd f i v) := by
  funext j
  simp only [upd, nrm]
  by_cases e : j = i
  · subst e; rw [if_pos rfl, if_pos h, if_pos rfl]
  · rw [if_neg e, if_neg e]
theorem nrmL_upd {n i : Nat} {f : Nat → Int64} {v : Int64} (h : i < n) : vp_updL (nrmL n f) i v = nrmL n (vp_updL f i v) := by
  funext j
  simp only [vp_updL, nrmL]
  by_cases e : j = i
  · subst e; rw [if_pos rfl, if_pos h, if_pos rfl]
  · rw [if_neg e, if_neg e]
theorem nrm_eq {n : Nat} {f f1 : I1} (h : ∀ j, j < n → f j = f1 j) : nrm n f = nrm n f1 := by
  funext j
  simp only [nrm]
  by_cases e : j < n
  · rw [if_pos e, if_pos e, h j e]
  · rw [if_neg e, if_neg e]
theorem nrmL_eq {n : Nat} {f f1 : Nat → Int64} (h : ∀ j, j < n → f j = f1 j) : nrmL n f = nrmL n f1 := by
  funext j
  simp only [nrmL]
  by_cases e : j < n
  · rw [if_pos e, if_pos e, h j e]
  · rw [if_neg e, if_neg e]
theorem aI_eq {g : GG} {n : Nat} {f f1 : I1} (h : ∀ j, j < n → f j = f1 j) : aI g n f = aI g n f1 := by rw [aI, aI, nrm_eq h]
theorem aL_eq {g : GG} {n : Nat} {f f1 : Nat → Int64} (h : ∀ j, j < n → f j = f1 j) : aL g n f = aL g n f1 := by rw [aL, aL, nrmL_eq h]
def dflt : va_E := .inr (0, [])
def mLet : I1 := fun j => [112, 107, 118, 115, 99, 100].getD j 0
def mBeg : I1 := fun j => [102, 119, 114].getD j 0
def mWor : I1 := fun j => [102, 105, 114, 109, 0, 119, 101, 97, 107, 0, 114, 117, 98, 0, 0].getD j 0
def mAbo : I1 := fun j => [-1, 0, 0, 0, 1, 2, 3].getD j 0
def mBod : I1 := fun j => [10, 11, 12, 0, 20, 0, 30, 0, 0, 0, 0, 40, 50, 51, 0, 0, 0, 60, 71, 70, 0].getD j 0
/-- text, texted, rules, sizes, ruled -/
abbrev TXt : Type := I1 × Int32 × I1 × I1 × Int32
/-- read, size, at, well, within, sum, rub, names, covers, hurts -/
abbrev Zt : Type := I1 × Int32 × Int32 × Int32 × Int32 × Int32 × Int32 × I1 × I1 × I1
/-- sorts, lengths, items, moved -/
abbrev TPt : Type := I1 × I1 × (Nat → Int64) × (Nat → Int64)
def hM (g : GG) (now mind : I1) (th : I1 × Int32) (tx : TXt) (z : Zt) (tr : I1 × Int32) (tp : TPt) : PHp := fun a => match a with
  | (22, 0, 0) => .inr (10, [rf g (23, 0, 0), rf g (23, 1, 0), rf g (23, 2, 0), .int th.2, rf g (23, 4, 0), .int tx.2.1, rf g (23, 6, 0), rf g (23, 7, 0), .int tx.2.2.2.2, rf g (23, 9, 0), .int z.2.1, .int z.2.2.1, .int z.2.2.2.1, .int z.2.2.2.2.1, .int z.2.2.2.2.2.1, .int z.2.2.2.2.2.2.1, rf g (23, 16, 0), rf g (23, 17, 0), rf g (23, 18, 0), rf g (23, 19, 0), rf g (23, 20, 0), rf g (23, 21, 0), rf g (23, 22, 0), rf g (23, 23, 0), rf g (23, 24, 0), .int tr.2, rf g (23, 26, 0), rf g (23, 27, 0), rf g (23, 28, 0), rf g (23, 29, 0)])
  | (23, 0, 0) => aI g 152 now
  | (23, 1, 0) => aI g 152 mind
  | (23, 2, 0) => aI g 152 th.1
  | (23, 4, 0) => aI g 100 tx.1
  | (23, 6, 0) => aI g 600 tx.2.2.1
  | (23, 7, 0) => aI g 6 tx.2.2.2.1
  | (23, 9, 0) => aI g 100 z.1
  | (23, 16, 0) => aI g 6 z.2.2.2.2.2.2.2.1
  | (23, 17, 0) => aC g 6 mLet
  | (23, 18, 0) => aC g 3 mBeg
  | (23, 19, 0) => aC g 15 mWor
  | (23, 20, 0) => aI g 6 z.2.2.2.2.2.2.2.2.1
  | (23, 21, 0) => aI g 6 z.2.2.2.2.2.2.2.2.2
  | (23, 22, 0) => aI g 7 mAbo
  | (23, 23, 0) => aI g 21 mBod
  | (23, 24, 0) => aI g 20 tr.1
  | (23, 26, 0) => aI g 6 tp.1
  | (23, 27, 0) => aI g 6 tp.2.1
  | (23, 28, 0) => aL g 360 tp.2.2.1
  | (23, 29, 0) => aL g 60 tp.2.2.2
  | _ => dflt
/-- the class's cells below kind 22, the reference's from there on -/
def jn (X Y : PHp) : PHp := fun a => cond (Nat.blt a.1 22) (X a) (Y a)
theorem jn_upR {X Y Y1 : PHp} {k w i : Nat} {e : va_E} (hk : Nat.blt k 22 = false) (h : ∀ a, a ≠ (k, w, i) → Y1 a = Y a) (he : Y1 (k, w, i) = e) : up (jn X Y) (k, w, i) e = jn X Y1 := by
  funext a
  unfold up jn
  split
  · next q => subst q; rw [hk]; exact he.symm
  · next q => rw [h a q]
theorem jn_upL {X Y X1 : PHp} {k w i : Nat} {e : va_E} (hk : Nat.blt k 22 = true) (h : ∀ a, a ≠ (k, w, i) → X1 a = X a) (he : X1 (k, w, i) = e) : up (jn X Y) (k, w, i) e = jn X1 Y := by
  funext a
  unfold up jn
  split
  · next q => subst q; rw [hk]; exact he.symm
  · next q => rw [h a q]
theorem uM_kept {g : GG} {X : PHp} {now mind : I1} {th : I1 × Int32} {tx : TXt} {z : Zt} {tr : I1 × Int32} {tp : TPt} {v : Int32} : up (jn X (hM g now mind th tx z tr tp)) (22, 0, 0) (.inr (10, List.set [rf g (23, 0, 0), rf g (23, 1, 0), rf g (23, 2, 0), .int th.2, rf g (23, 4, 0), .int tx.2.1, rf g (23, 6, 0), rf g (23, 7, 0), .int tx.2.2.2.2, rf g (23, 9, 0), .int z.2.1, .int z.2.2.1, .int z.2.2.2.1, .int z.2.2.2.2.1, .int z.2.2.2.2.2.1, .int z.2.2.2.2.2.2.1, rf g (23, 16, 0), rf g (23, 17, 0), rf g (23, 18, 0), rf g (23, 19, 0), rf g (23, 20, 0), rf g (23, 21, 0), rf g (23, 22, 0), rf g (23, 23, 0), rf g (23, 24, 0), .int tr.2, rf g (23, 26, 0), rf g (23, 27, 0), rf g (23, 28, 0), rf g (23, 29, 0)] 3 (.int v))) = jn X (hM g now mind (th.1, v) tx z tr tp) := jn_upR rfl (fun a h => by unfold hM; split <;> first | rfl | exact absurd rfl h) rfl
theorem uM_texted {g : GG} {X : PHp} {now mind : I1} {th : I1 × Int32} {tx : TXt} {z : Zt} {tr : I1 × Int32} {tp : TPt} {v : Int32} : up (jn X (hM g now mind th tx z tr tp)) (22, 0, 0) (.inr (10, List.set [rf g (23, 0, 0), rf g (23, 1, 0), rf g (23, 2, 0), .int th.2, rf g (23, 4, 0), .int tx.2.1, rf g (23, 6, 0), rf g (23, 7, 0), .int tx.2.2.2.2, rf g (23, 9, 0), .int z.2.1, .int z.2.2.1, .int z.2.2.2.1, .int z.2.2.2.2.1, .int z.2.2.2.2.2.1, .int z.2.2.2.2.2.2.1, rf g (23, 16, 0), rf g (23, 17, 0), rf g (23, 18, 0), rf g (23, 19, 0), rf g (23, 20, 0), rf g (23, 21, 0), rf g (23, 22, 0), rf g (23, 23, 0), rf g (23, 24, 0), .int tr.2, rf g (23, 26, 0), rf g (23, 27, 0), rf g (23, 28, 0), rf g (23, 29, 0)] 5 (.int v))) = jn X (hM g now mind th (tx.1, v, tx.2.2.1, tx.2.2.2.1, tx.2.2.2.2) z tr tp) := jn_upR rfl (fun a h => by unfold hM; split <;> first | rfl | exact absurd rfl h) rfl
theorem uM_ruled {g : GG} {X : PHp} {now mind : I1} {th : I1 × Int32} {tx : TXt} {z : Zt} {tr : I1 × Int32} {tp : TPt} {v : Int32} : up (jn X (hM g now mind th tx z tr tp)) (22, 0, 0) (.inr (10, List.set [rf g (23, 0, 0), rf g (23, 1, 0), rf g (23, 2, 0), .int th.2, rf g (23, 4, 0), .int tx.2.1, rf g (23, 6, 0), rf g (23, 7, 0), .int tx.2.2.2.2, rf g (23, 9, 0), .int z.2.1, .int z.2.2.1, .int z.2.2.2.1, .int z.2.2.2.2.1, .int z.2.2.2.2.2.1, .int z.2.2.2.2.2.2.1, rf g (23, 16, 0), rf g (23, 17, 0), rf g (23, 18, 0), rf g (23, 19, 0), rf g (23, 20, 0), rf g (23, 21, 0), rf g (23, 22, 0), rf g (23, 23, 0), rf g (23, 24, 0), .int tr.2, rf g (23, 26, 0), rf g (23, 27, 0), rf g (23, 28, 0), rf g (23, 29, 0)] 8 (.int v))) = jn X (hM g now mind th (tx.1, tx.2.1, tx.2.2.1, tx.2.2.2.1, v) z tr tp) := jn_upR rfl (fun a h => by unfold hM; split <;> first | rfl | exact absurd rfl h) rfl
theorem uM_size {g : GG} {X : PHp} {now mind : I1} {th : I1 × Int32} {tx : TXt} {z : Zt} {tr : I1 × Int32} {tp : TPt} {v : Int32} : up (jn X (hM g now mind th tx z tr tp)) (22, 0, 0) (.inr (10, List.set [rf g (23, 0, 0), rf g (23, 1, 0), rf g (23, 2, 0), .int th.2, rf g (23, 4, 0), .int tx.2.1, rf g (23, 6, 0), rf g (23, 7, 0), .int tx.2.2.2.2, rf g (23, 9, 0), .int z.2.1, .int z.2.2.1, .int z.2.2.2.1, .int z.2.2.2.2.1, .int z.2.2.2.2.2.1, .int z.2.2.2.2.2.2.1, rf g (23, 16, 0), rf g (23, 17, 0), rf g (23, 18, 0), rf g (23, 19, 0), rf g (23, 20, 0), rf g (23, 21, 0), rf g (23, 22, 0), rf g (23, 23, 0), rf g (23, 24, 0), .int tr.2, rf g (23, 26, 0), rf g (23, 27, 0), rf g (23, 28, 0), rf g (23, 29, 0)] 10 (.int v))) = jn X (hM g now mind th tx (z.1, v, z.2.2.1, z.2.2.2.1, z.2.2.2.2.1, z.2.2.2.2.2.1, z.2.2.2.2.2.2.1, z.2.2.2.2.2.2.2.1, z.2.2.2.2.2.2.2.2.1, z.2.2.2.2.2.2.2.2.2) tr tp) := jn_upR rfl (fun a h => by unfold hM; split <;> first | rfl | exact absurd rfl h) rfl
theorem uM_at {g : GG} {X : PHp} {now mind : I1} {th : I1 × Int32} {tx : TXt} {z : Zt} {tr : I1 × Int32} {tp : TPt} {v : Int32} : up (jn X (hM g now mind th tx z tr tp)) (22, 0, 0) (.inr (10, List.set [rf g (23, 0, 0), rf g (23, 1, 0), rf g (23, 2, 0), .int th.2, rf g (23, 4, 0), .int tx.2.1, rf g (23, 6, 0), rf g (23, 7, 0), .int tx.2.2.2.2, rf g (23, 9, 0), .int z.2.1, .int z.2.2.1, .int z.2.2.2.1, .int z.2.2.2.2.1, .int z.2.2.2.2.2.1, .int z.2.2.2.2.2.2.1, rf g (23, 16, 0), rf g (23, 17, 0), rf g (23, 18, 0), rf g (23, 19, 0), rf g (23, 20, 0), rf g (23, 21, 0), rf g (23, 22, 0), rf g (23, 23, 0), rf g (23, 24, 0), .int tr.2, rf g (23, 26, 0), rf g (23, 27, 0), rf g (23, 28, 0), rf g (23, 29, 0)] 11 (.int v))) = jn X (hM g now mind th tx (z.1, z.2.1, v, z.2.2.2.1, z.2.2.2.2.1, z.2.2.2.2.2.1, z.2.2.2.2.2.2.1, z.2.2.2.2.2.2.2.1, z.2.2.2.2.2.2.2.2.1, z.2.2.2.2.2.2.2.2.2) tr tp) := jn_upR rfl (fun a h => by unfold hM; split <;> first | rfl | exact absurd rfl h) rfl
theorem uM_well {g : GG} {X : PHp} {now mind : I1} {th : I1 × Int32} {tx : TXt} {z : Zt} {tr : I1 × Int32} {tp : TPt} {v : Int32} : up (jn X (hM g now mind th tx z tr tp)) (22, 0, 0) (.inr (10, List.set [rf g (23, 0, 0), rf g (23, 1, 0), rf g (23, 2, 0), .int th.2, rf g (23, 4, 0), .int tx.2.1, rf g (23, 6, 0), rf g (23, 7, 0), .int tx.2.2.2.2, rf g (23, 9, 0), .int z.2.1, .int z.2.2.1, .int z.2.2.2.1, .int z.2.2.2.2.1, .int z.2.2.2.2.2.1, .int z.2.2.2.2.2.2.1, rf g (23, 16, 0), rf g (23, 17, 0), rf g (23, 18, 0), rf g (23, 19, 0), rf g (23, 20, 0), rf g (23, 21, 0), rf g (23, 22, 0), rf g (23, 23, 0), rf g (23, 24, 0), .int tr.2, rf g (23, 26, 0), rf g (23, 27, 0), rf g (23, 28, 0), rf g (23, 29, 0)] 12 (.int v))) = jn X (hM g now mind th tx (z.1, z.2.1, z.2.2.1, v, z.2.2.2.2.1, z.2.2.2.2.2.1, z.2.2.2.2.2.2.1, z.2.2.2.2.2.2.2.1, z.2.2.2.2.2.2.2.2.1, z.2.2.2.2.2.2.2.2.2) tr tp) := jn_upR rfl (fun a h => by unfold hM; split <;> first | rfl | exact absurd rfl h) rfl
theorem uM_within {g : GG} {X : PHp} {now mind : I1} {th : I1 × Int32} {tx : TXt} {z : Zt} {tr : I1 × Int32} {tp : TPt} {v : Int32} : up (jn X (hM g now mind th tx z tr tp)) (22, 0, 0) (.inr (10, List.set [rf g (23, 0, 0), rf g (23, 1, 0), rf g (23, 2, 0), .int th.2, rf g (23, 4, 0), .int tx.2.1, rf g (23, 6, 0), rf g (23, 7, 0), .int tx.2.2.2.2, rf g (23, 9, 0), .int z.2.1, .int z.2.2.1, .int z.2.2.2.1, .int z.2.2.2.2.1, .int z.2.2.2.2.2.1, .int z.2.2.2.2.2.2.1, rf g (23, 16, 0), rf g (23, 17, 0), rf g (23, 18, 0), rf g (23, 19, 0), rf g (23, 20, 0), rf g (23, 21, 0), rf g (23, 22, 0), rf g (23, 23, 0), rf g (23, 24, 0), .int tr.2, rf g (23, 26, 0), rf g (23, 27, 0), rf g (23, 28, 0), rf g (23, 29, 0)] 13 (.int v))) = jn X (hM g now mind th tx (z.1, z.2.1, z.2.2.1, z.2.2.2.1, v, z.2.2.2.2.2.1, z.2.2.2.2.2.2.1, z.2.2.2.2.2.2.2.1, z.2.2.2.2.2.2.2.2.1, z.2.2.2.2.2.2.2.2.2) tr tp) := jn_upR rfl (fun a h => by unfold hM; split <;> first | rfl | exact absurd rfl h) rfl
theorem uM_sum {g : GG} {X : PHp} {now mind : I1} {th : I1 × Int32} {tx : TXt} {z : Zt} {tr : I1 × Int32} {tp : TPt} {v : Int32} : up (jn X (hM g now mind th tx z tr tp)) (22, 0, 0) (.inr (10, List.set [rf g (23, 0, 0), rf g (23, 1, 0), rf g (23, 2, 0), .int th.2, rf g (23, 4, 0), .int tx.2.1, rf g (23, 6, 0), rf g (23, 7, 0), .int tx.2.2.2.2, rf g (23, 9, 0), .int z.2.1, .int z.2.2.1, .int z.2.2.2.1, .int z.2.2.2.2.1, .int z.2.2.2.2.2.1, .int z.2.2.2.2.2.2.1, rf g (23, 16, 0), rf g (23, 17, 0), rf g (23, 18, 0), rf g (23, 19, 0), rf g (23, 20, 0), rf g (23, 21, 0), rf g (23, 22, 0), rf g (23, 23, 0), rf g (23, 24, 0), .int tr.2, rf g (23, 26, 0), rf g (23, 27, 0), rf g (23, 28, 0), rf g (23, 29, 0)] 14 (.int v))) = jn X (hM g now mind th tx (z.1, z.2.1, z.2.2.1, z.2.2.2.1, z.2.2.2.2.1, v, z.2.2.2.2.2.2.1, z.2.2.2.2.2.2.2.1, z.2.2.2.2.2.2.2.2.1, z.2.2.2.2.2.2.2.2.2) tr tp) := jn_upR rfl (fun a h => by unfold hM; split <;> first | rfl | exact absurd rfl h) rfl
theorem uM_rub {g : GG} {X : PHp} {now mind : I1} {th : I1 × Int32} {tx : TXt} {z : Zt} {tr : I1 × Int32} {tp : TPt} {v : Int32} : up (jn X (hM g now mind th tx z tr tp)) (22, 0, 0) (.inr (10, List.set [rf g (23, 0, 0), rf g (23, 1, 0), rf g (23, 2, 0), .int th.2, rf g (23, 4, 0), .int tx.2.1, rf g (23, 6, 0), rf g (23, 7, 0), .int tx.2.2.2.2, rf g (23, 9, 0), .int z.2.1, .int z.2.2.1, .int z.2.2.2.1, .int z.2.2.2.2.1, .int z.2.2.2.2.2.1, .int z.2.2.2.2.2.2.1, rf g (23, 16, 0), rf g (23, 17, 0), rf g (23, 18, 0), rf g (23, 19, 0), rf g (23, 20, 0), rf g (23, 21, 0), rf g (23, 22, 0), rf g (23, 23, 0), rf g (23, 24, 0), .int tr.2, rf g (23, 26, 0), rf g (23, 27, 0), rf g (23, 28, 0), rf g (23, 29, 0)] 15 (.int v))) = jn X (hM g now mind th tx (z.1, z.2.1, z.2.2.1, z.2.2.2.1, z.2.2.2.2.1, z.2.2.2.2.2.1, v, z.2.2.2.2.2.2.2.1, z.2.2.2.2.2.2.2.2.1, z.2.2.2.2.2.2.2.2.2) tr tp) := jn_upR rfl (fun a h => by unfold hM; split <;> first | rfl | exact absurd rfl h) rfl
theorem uM_ran {g : GG} {X : PHp} {now mind : I1} {th : I1 × Int32} {tx : TXt} {z : Zt} {tr : I1 × Int32} {tp : TPt} {v : Int32} : up (jn X (hM g now mind th tx z tr tp)) (22, 0, 0) (.inr (10, List.set [rf g (23, 0, 0), rf g (23, 1, 0), rf g (23, 2, 0), .int th.2, rf g (23, 4, 0), .int tx.2.1, rf g (23, 6, 0), rf g (23, 7, 0), .int tx.2.2.2.2, rf g (23, 9, 0), .int z.2.1, .int z.2.2.1, .int z.2.2.2.1, .int z.2.2.2.2.1, .int z.2.2.2.2.2.1, .int z.2.2.2.2.2.2.1, rf g (23, 16, 0), rf g (23, 17, 0), rf g (23, 18, 0), rf g (23, 19, 0), rf g (23, 20, 0), rf g (23, 21, 0), rf g (23, 22, 0), rf g (23, 23, 0), rf g (23, 24, 0), .int tr.2, rf g (23, 26, 0), rf g (23, 27, 0), rf g (23, 28, 0), rf g (23, 29, 0)] 25 (.int v))) = jn X (hM g now mind th tx z (tr.1, v) tp) := jn_upR rfl (fun a h => by unfold hM; split <;> first | rfl | exact absurd rfl h) rfl
theorem uM_now {g : GG} {X : PHp} {now mind : I1} {th : I1 × Int32} {tx : TXt} {z : Zt} {tr : I1 × Int32} {tp : TPt} {v : I1} : up (jn X (hM g now mind th tx z tr tp)) (23, 0, 0) (aI g 152 v) = jn X (hM g v mind th tx z tr tp) := jn_upR rfl (fun a h => by unfold hM; split <;> first | rfl | exact absurd rfl h) rfl
theorem uM_mind {g : GG} {X : PHp} {now mind : I1} {th : I1 × Int32} {tx : TXt} {z : Zt} {tr : I1 × Int32} {tp : TPt} {v : I1} : up (jn X (hM g now mind th tx z tr tp)) (23, 1, 0) (aI g 152 v) = jn X (hM g now v th tx z tr tp) := jn_upR rfl (fun a h => by unfold hM; split <;> first | rfl | exact absurd rfl h) rfl
theorem uM_then {g : GG} {X : PHp} {now mind : I1} {th : I1 × Int32} {tx : TXt} {z : Zt} {tr : I1 × Int32} {tp : TPt} {v : I1} : up (jn X (hM g now mind th tx z tr tp)) (23, 2, 0) (aI g 152 v) = jn X (hM g now mind (v, th.2) tx z tr tp) := jn_upR rfl (fun a h => by unfold hM; split <;> first | rfl | exact absurd rfl h) rfl
theorem uM_text {g : GG} {X : PHp} {now mind : I1} {th : I1 × Int32} {tx : TXt} {z : Zt} {tr : I1 × Int32} {tp : TPt} {v : I1} : up (jn X (hM g now mind th tx z tr tp)) (23, 4, 0) (aI g 100 v) = jn X (hM g now mind th (v, tx.2.1, tx.2.2.1, tx.2.2.2.1, tx.2.2.2.2) z tr tp) := jn_upR rfl (fun a h => by unfold hM; split <;> first | rfl | exact absurd rfl h) rfl
theorem uM_rules {g : GG} {X : PHp} {now mind : I1} {th : I1 × Int32} {tx : TXt} {z : Zt} {tr : I1 × Int32} {tp : TPt} {v : I1} : up (jn X (hM g now mind th tx z tr tp)) (23, 6, 0) (aI g 600 v) = jn X (hM g now mind th (tx.1, tx.2.1, v, tx.2.2.2.1, tx.2.2.2.2) z tr tp) := jn_upR rfl (fun a h => by unfold hM; split <;> first | rfl | exact absurd rfl h) rfl
theorem uM_sizes {g : GG} {X : PHp} {now mind : I1} {th : I1 × Int32} {tx : TXt} {z : Zt} {tr : I1 × Int32} {tp : TPt} {v : I1} : up (jn X (hM g now mind th tx z tr tp)) (23, 7, 0) (aI g 6 v) = jn X (hM g now mind th (tx.1, tx.2.1, tx.2.2.1, v, tx.2.2.2.2) z tr tp) := jn_upR rfl (fun a h => by unfold hM; split <;> first | rfl | exact absurd rfl h) rfl
theorem uM_read {g : GG} {X : PHp} {now mind : I1} {th : I1 × Int32} {tx : TXt} {z : Zt} {tr : I1 × Int32} {tp : TPt} {v : I1} : up (jn X (hM g now mind th tx z tr tp)) (23, 9, 0) (aI g 100 v) = jn X (hM g now mind th tx (v, z.2.1, z.2.2.1, z.2.2.2.1, z.2.2.2.2.1, z.2.2.2.2.2.1, z.2.2.2.2.2.2.1, z.2.2.2.2.2.2.2.1, z.2.2.2.2.2.2.2.2.1, z.2.2.2.2.2.2.2.2.2) tr tp) := jn_upR rfl (fun a h => by unfold hM; split <;> first | rfl | exact absurd rfl h) rfl
theorem uM_names {g : GG} {X : PHp} {now mind : I1} {th : I1 × Int32} {tx : TXt} {z : Zt} {tr : I1 × Int32} {tp : TPt} {v : I1} : up (jn X (hM g now mind th tx z tr tp)) (23, 16, 0) (aI g 6 v) = jn X (hM g now mind th tx (z.1, z.2.1, z.2.2.1, z.2.2.2.1, z.2.2.2.2.1, z.2.2.2.2.2.1, z.2.2.2.2.2.2.1, v, z.2.2.2.2.2.2.2.2.1, z.2.2.2.2.2.2.2.2.2) tr tp) := jn_upR rfl (fun a h => by unfold hM; split <;> first | rfl | exact absurd rfl h) rfl
theorem uM_covers {g : GG} {X : PHp} {now mind : I1} {th : I1 × Int32} {tx : TXt} {z : Zt} {tr : I1 × Int32} {tp : TPt} {v : I1} : up (jn X (hM g now mind th tx z tr tp)) (23, 20, 0) (aI g 6 v) = jn X (hM g now mind th tx (z.1, z.2.1, z.2.2.1, z.2.2.2.1, z.2.2.2.2.1, z.2.2.2.2.2.1, z.2.2.2.2.2.2.1, z.2.2.2.2.2.2.2.1, v, z.2.2.2.2.2.2.2.2.2) tr tp) := jn_upR rfl (fun a h => by unfold hM; split <;> first | rfl | exact absurd rfl h) rfl
theorem uM_hurts {g : GG} {X : PHp} {now mind : I1} {th : I1 × Int32} {tx : TXt} {z : Zt} {tr : I1 × Int32} {tp : TPt} {v : I1} : up (jn X (hM g now mind th tx z tr tp)) (23, 21, 0) (aI g 6 v) = jn X (hM g now mind th tx (z.1, z.2.1, z.2.2.1, z.2.2.2.1, z.2.2.2.2.1, z.2.2.2.2.2.1, z.2.2.2.2.2.2.1, z.2.2.2.2.2.2.2.1, z.2.2.2.2.2.2.2.2.1, v) tr tp) := jn_upR rfl (fun a h => by unfold hM; split <;> first | rfl | exact absurd rfl h) rfl
theorem uM_trace {g : GG} {X : PHp} {now mind : I1} {th : I1 × Int32} {tx : TXt} {z : Zt} {tr : I1 × Int32} {tp : TPt} {v : I1} : up (jn X (hM g now mind th tx z tr tp)) (23, 24, 0) (aI g 20 v) = jn X (hM g now mind th tx z (v, tr.2) tp) := jn_upR rfl (fun a h => by unfold hM; split <;> first | rfl | exact absurd rfl h) rfl
theorem uM_sorts {g : GG} {X : PHp} {now mind : I1} {th : I1 × Int32} {tx : TXt} {z : Zt} {tr : I1 × Int32} {tp : TPt} {v : I1} : up (jn X (hM g now mind th tx z tr tp)) (23, 26, 0) (aI g 6 v) = jn X (hM g now mind th tx z tr (v, tp.2.1, tp.2.2.1, tp.2.2.2)) := jn_upR rfl (fun a h => by unfold hM; split <;> first | rfl | exact absurd rfl h) rfl
theorem uM_lengths {g : GG} {X : PHp} {now mind : I1} {th : I1 × Int32} {tx : TXt} {z : Zt} {tr : I1 × Int32} {tp : TPt} {v : I1} : up (jn X (hM g now mind th tx z tr tp)) (23, 27, 0) (aI g 6 v) = jn X (hM g now mind th tx z tr (tp.1, v, tp.2.2.1, tp.2.2.2)) := jn_upR rfl (fun a h => by unfold hM; split <;> first | rfl | exact absurd rfl h) rfl
theorem uM_items {g : GG} {X : PHp} {now mind : I1} {th : I1 × Int32} {tx : TXt} {z : Zt} {tr : I1 × Int32} {tp : TPt} {v : Nat → Int64} : up (jn X (hM g now mind th tx z tr tp)) (23, 28, 0) (aL g 360 v) = jn X (hM g now mind th tx z tr (tp.1, tp.2.1, v, tp.2.2.2)) := jn_upR rfl (fun a h => by unfold hM; split <;> first | rfl | exact absurd rfl h) rfl
theorem uM_moved {g : GG} {X : PHp} {now mind : I1} {th : I1 × Int32} {tx : TXt} {z : Zt} {tr : I1 × Int32} {tp : TPt} {v : Nat → Int64} : up (jn X (hM g now mind th tx z tr tp)) (23, 29, 0) (aL g 60 v) = jn X (hM g now mind th tx z tr (tp.1, tp.2.1, tp.2.2.1, v)) := jn_upR rfl (fun a h => by unfold hM; split <;> first | rfl | exact absurd rfl h) rfl
theorem okM : Ok (22, 0, 0) NN := ⟨by decide +kernel, by decide +kernel⟩
theorem okM_0 : Ok (23, 0, 0) NN := ⟨by decide +kernel, by decide +kernel⟩
theorem okM_1 : Ok (23, 1, 0) NN := ⟨by decide +kernel, by decide +kernel⟩
theorem okM_2 : Ok (23, 2, 0) NN := ⟨by decide +kernel, by decide +kernel⟩
theorem okM_4 : Ok (23, 4, 0) NN := ⟨by decide +kernel, by decide +kernel⟩
theorem okM_6 : Ok (23, 6, 0) NN := ⟨by decide +kernel, by decide +kernel⟩
theorem okM_7 : Ok (23, 7, 0) NN := ⟨by decide +kernel, by decide +kernel⟩
theorem okM_9 : Ok (23, 9, 0) NN := ⟨by decide +kernel, by decide +kernel⟩
theorem okM_16 : Ok (23, 16, 0) NN := ⟨by decide +kernel, by decide +kernel⟩
theorem okM_17 : Ok (23, 17, 0) NN := ⟨by decide +kernel, by decide +kernel⟩
theorem okM_18 : Ok (23, 18, 0) NN := ⟨by decide +kernel, by decide +kernel⟩
theorem okM_19 : Ok (23, 19, 0) NN := ⟨by decide +kernel, by decide +kernel⟩
theorem okM_20 : Ok (23, 20, 0) NN := ⟨by decide +kernel, by decide +kernel⟩
theorem okM_21 : Ok (23, 21, 0) NN := ⟨by decide +kernel, by decide +kernel⟩
theorem okM_22 : Ok (23, 22, 0) NN := ⟨by decide +kernel, by decide +kernel⟩
theorem okM_23 : Ok (23, 23, 0) NN := ⟨by decide +kernel, by decide +kernel⟩
theorem okM_24 : Ok (23, 24, 0) NN := ⟨by decide +kernel, by decide +kernel⟩
theorem okM_26 : Ok (23, 26, 0) NN := ⟨by decide +kernel, by decide +kernel⟩
theorem okM_27 : Ok (23, 27, 0) NN := ⟨by decide +kernel, by decide +kernel⟩
theorem okM_28 : Ok (23, 28, 0) NN := ⟨by decide +kernel, by decide +kernel⟩
theorem okM_29 : Ok (23, 29, 0) NN := ⟨by decide +kernel, by decide +kernel⟩
