/-! rows of making; the constructors: what they make is what stands at the start -/
theorem oi_i : Cond.instanceMethod objectInit ∈ gws := tb_at 25 (by decide +kernel) rfl
theorem oi_c : Cond.code objectInit ⟨#[0xb1]⟩ 1 none ∈ gws := tb_at 26 (by decide +kernel) rfl
section VMAKE
variable {l : Launch} {Γ : Cxt} {g : GG} {cc : ByteArray} {y : MethodName} {nL : Nat} {ret : Option FieldType} {lvl mc ms : Nat} {Q : State → Prop} {cells slots n : Nat} {PH PH1 : PHp} {pc q : Nat} {lv : List (Option Value)} {st : List Value}
theorem V.objInit {idx : Nat} {a : VA} (C : Cx Γ g cc y nL ret lvl mc ms) (hl : Cond.methodLink y.cls idx objectInit ∈ gws) (d : decode cc pc = .ok (.invokespecial idx, 3)) (hq : pc + 3 = q) (hw : (st.map fun v => v.category).sum ≤ 8) (hlvl : 1 ≤ lvl) (k : V l Γ g nL Q cells slots n PH q lv st) : V l Γ g nL Q cells slots n PH pc lv (rf g a :: st) := by
  obtain ⟨p, e, R, s, m, args, below, meth, c⟩ := Γ
  subst hq
  intro H locs ls hH hS hL
  have h1 := C.2.2.2.2.2.2.2.2.2.2.2.2.1
  have h2 := C.2.2.2.2.2.2.2.2.2.2.2.2.2.1
  have h3 := lv_room (m := m) (pc := pc) (ls := ls) (rest := rf g a :: st) hw
  refine W.objInit C.1 C.2.1 C.2.2.2.1 (C.2.2.2.2.1 _ hl) (C.2.2.2.2.1 _ oi_i) (C.2.2.2.2.1 _ oi_c) rfl (hL.1.trans C.2.2.1.symm) rfl d (by omega) (by omega) (k H locs ls hH hS hL)
theorem S_push {A : Nat → Prop} {H0 H H1 : Heap} {locs : List Loc} (hS : va_S A H0 H locs) (z : H1.size = H.size + 1) (o : ∀ q : Nat, q < H.size → H1[q]? = H[q]?) : va_S A H0 H1 locs :=
  ⟨Nat.le_trans hS.1 (by omega), fun x h1 h2 => (o x (Nat.lt_of_lt_of_le h1 hS.1)).trans (hS.2.1 x h1 h2), hS.2.2⟩
theorem V.new {idx ci N : Nat} {Cn : String} {T : u_T} {ty : Nat → FieldType} {fs : List Value} {a : VA} (C : Cx Γ g cc y nL ret lvl mc ms) (hin : ∀ w ∈ u_ws Cn T N, w ∈ gws) (hty : ∀ k, k < N → parseFieldDescriptor (T k).2.2.1 = some (ty k)) (hcl : Cond.classLink y.cls idx Cn ∈ gws) (hins : Cond.instantiable Cn N ∈ gws) (hini : Cond.initialized Cn ∈ gws) (hc : vwCl[ci]? = some (Cn, T, N)) (hfs : ∀ j, j < N → defaultValue (ty j) = vp_V fs j) (d : decode cc pc = .ok (.new idx, 3)) (hq : pc + 3 = q) (hn : n < NN) (ha : vaT n = a) (hp : up PH a (.inr (ci, fs)) = PH1) (hcells : cells + 1 ≤ mc) (hslots : slots + N ≤ ms) (k : V l Γ g nL Q (cells + 1) (slots + N) (n + 1) PH1 q lv (rf g a :: st)) : V l Γ g nL Q cells slots n PH pc lv st := by
  obtain ⟨p, e, R, s, m, args, below, meth, c⟩ := Γ
  subst hq
  intro H locs ls hH hS hL
  have hKn := C.2.2.2.2.2.1.1 ci _ hc
  have hr := C.cells hcells hslots
  refine W.newcK C.1 C.2.1 C.2.2.2.1 (C.2.2.2.2.1 _ hcl) (C.2.2.2.2.1 _ hins) (C.2.2.2.2.1 _ hini) rfl d hr.1 hr.2 hKn.2.1 rfl fun H1 kC hkC e1 z1 o1 => ?_
  have hH1 : HP g PH1 (n + 1) H1 := HP.push (e := .inr (ci, fs)) hn ha hH z1 o1 ⟨_, hc, (u_born ty C.2.2.2.2.1 hin hKn hkC e1 hty).to hfs⟩ hp
  have e9 : H.size = bG g + ad a := by rw [hH.1, ← ha, ad_vaT n hn]
  rw [e9]
  exact k H1 locs ls hH1 (S_push hS z1 o1) hL
theorem V.newa {atype : ArrayType} {t0 N : Nat} {ty : FieldType} {x : vp_A} {z : Int32} {a : VA} (C : Cx Γ g cc y nL ret lvl mc ms) (harr : Cond.arrayClass (newarray.typeOf atype) ∈ gws) (hty : newarray.typeOf atype = ty) (ht : (tysL g.2.1)[t0]? = some (g.2.1 t0, ty)) (hR : ∀ (U : State) (cA : ClassId), va_RA U cA ty → U.vm.findClass ("[" ++ ty.toString) = some cA) (hx : ∀ cA : ClassId, vp_cell cA x = arrV cA N (fun _ => defaultValue ty)) (hz : z = nI N) (hN : N * componentBytes ty ≤ 536870912) (hN2 : N < 2 ^ 31) (d : decode cc pc = .ok (.newarray atype, 2)) (hq : pc + 2 = q) (hn : n < NN) (ha : vaT n = a) (hp : up PH a (.inl (g.2.1 t0, x)) = PH1) (hcells : cells + 1 ≤ mc) (hslots : slots + N ≤ ms) (k : V l Γ g nL Q (cells + 1) (slots + N) (n + 1) PH1 q lv (rf g a :: st)) : V l Γ g nL Q cells slots n PH pc lv (.int z :: st) := by
  obtain ⟨p, e, R, s, m, args, below, meth, c⟩ := Γ
  subst hq
  subst hty
  subst hz
  intro H locs ls hH hS hL
  have hr := C.cells hcells hslots
  refine va_newaK C.1 C.2.1 (C.2.2.2.2.1 _ harr) rfl d rfl (nI_pos hN2) (nI_clamp hN2) hN hr.1 hr.2 rfl fun H1 cA e1 z1 o1 hAr hNm => ?_
  have hcA : cA = g.2.1 t0 := Option.some.inj (hNm.symm.trans (hR s _ (C.2.2.2.2.2.1.2 t0 _ ht).2))
  subst hcA
  have hH1 : HP g PH1 (n + 1) H1 := HP.push (e := .inl (g.2.1 t0, x)) hn ha hH z1 o1 (show H1[H.size]? = some (vp_cell _ _) by rw [hx]; exact e1) hp
  have e9 : H.size = bG g + ad a := by rw [hH.1, ← ha, ad_vaT n hn]
  rw [e9]
  exact k H1 locs ls hH1 (S_push hS z1 o1) hL
theorem nrm0 {N : Nat} : nrm N (fun _ => nI 0) = fun _ => nI 0 := by funext j; simp [nrm, nI_0]
theorem nrmL0 {N : Nat} : nrmL N (fun _ => 0) = fun _ => 0 := by funext j; simp [nrmL]
theorem V.newI {N : Nat} {z : Int32} {a : VA} (C : Cx Γ g cc y nL ret lvl mc ms) (hz : z = nI N) (hN : N ≤ 1000) (d : decode cc pc = .ok (.newarray .int, 2)) (hq : pc + 2 = q) (hn : n < NN) (ha : vaT n = a) (hp : up PH a (aI g N (fun _ => nI 0)) = PH1) (hcells : cells + 1 ≤ mc) (hslots : slots + N ≤ ms) (k : V l Γ g nL Q (cells + 1) (slots + N) (n + 1) PH1 q lv (rf g a :: st)) : V l Γ g nL Q cells slots n PH pc lv (.int z :: st) :=
  V.newa (atype := .int) (ty := .int) (t0 := 0) (x := (N, .inl (nrm N (fun _ => nI 0)))) C (tb_at 83 (by decide +kernel) rfl) rfl rfl (fun _ _ h => h) (fun cA => by rw [nrm0]; rfl) hz (by show N * 4 ≤ _; omega) (by omega) d hq hn ha hp hcells hslots k
theorem V.newB {N : Nat} {z : Int32} {a : VA} (C : Cx Γ g cc y nL ret lvl mc ms) (hz : z = nI N) (hN : N ≤ 1000) (d : decode cc pc = .ok (.newarray .byte, 2)) (hq : pc + 2 = q) (hn : n < NN) (ha : vaT n = a) (hp : up PH a (aB g N (fun _ => nI 0)) = PH1) (hcells : cells + 1 ≤ mc) (hslots : slots + N ≤ ms) (k : V l Γ g nL Q (cells + 1) (slots + N) (n + 1) PH1 q lv (rf g a :: st)) : V l Γ g nL Q cells slots n PH pc lv (.int z :: st) :=
  V.newa (atype := .byte) (ty := .byte) (t0 := 1) (x := (N, .inl (nrm N (fun _ => nI 0)))) C (tb_at 47 (by decide +kernel) rfl) rfl rfl (fun _ _ h => h) (fun cA => by rw [nrm0]; rfl) hz (by show N * 1 ≤ _; omega) (by omega) d hq hn ha hp hcells hslots k
theorem V.newC {N : Nat} {z : Int32} {a : VA} (C : Cx Γ g cc y nL ret lvl mc ms) (hz : z = nI N) (hN : N ≤ 1000) (d : decode cc pc = .ok (.newarray .char, 2)) (hq : pc + 2 = q) (hn : n < NN) (ha : vaT n = a) (hp : up PH a (aC g N (fun _ => nI 0)) = PH1) (hcells : cells + 1 ≤ mc) (hslots : slots + N ≤ ms) (k : V l Γ g nL Q (cells + 1) (slots + N) (n + 1) PH1 q lv (rf g a :: st)) : V l Γ g nL Q cells slots n PH pc lv (.int z :: st) :=
  V.newa (atype := .char) (ty := .char) (t0 := 2) (x := (N, .inl (nrm N (fun _ => nI 0)))) C (tb_at 862 (by decide +kernel) rfl) rfl rfl (fun _ _ h => h) (fun cA => by rw [nrm0]; rfl) hz (by show N * 2 ≤ _; omega) (by omega) d hq hn ha hp hcells hslots k
theorem V.newL {N : Nat} {z : Int32} {a : VA} (C : Cx Γ g cc y nL ret lvl mc ms) (hz : z = nI N) (hN : N ≤ 1000) (d : decode cc pc = .ok (.newarray .long, 2)) (hq : pc + 2 = q) (hn : n < NN) (ha : vaT n = a) (hp : up PH a (aL g N (fun _ => 0)) = PH1) (hcells : cells + 1 ≤ mc) (hslots : slots + N ≤ ms) (k : V l Γ g nL Q (cells + 1) (slots + N) (n + 1) PH1 q lv (rf g a :: st)) : V l Γ g nL Q cells slots n PH pc lv (.int z :: st) :=
  V.newa (atype := .long) (ty := .long) (t0 := 3) (x := (N, .inr (.inl (nrmL N (fun _ => 0))))) C (tb_at 258 (by decide +kernel) rfl) rfl rfl (fun _ _ h => h) (fun cA => by rw [nrmL0]; rfl) hz (by show N * 8 ≤ _; omega) (by omega) d hq hn ha hp hcells hslots k
/-- an array of references, the first p of them set -/
def aRp (g : GG) (t n p : Nat) (f : Nat → VA) : va_E := .inl (g.2.1 t, n, .inr (.inr (.inr (.inr (fun j => if j < p then some (bG g + ad (f j)) else none)))))
theorem aRp_all {g : GG} {t n : Nat} {f : Nat → VA} : aRp g t n n f = aR g t n f := rfl
theorem aRp_0 {g : GG} {t n : Nat} {f : Nat → VA} : aRp g t n 0 f = .inl (g.2.1 t, n, .inr (.inr (.inr (.inr (fun _ => none))))) := by
  unfold aRp
  simp only [Nat.not_lt_zero, if_false]
theorem aRp_1 {g : GG} {t n p : Nat} {f : Nat → VA} : (.inl (g.2.1 t, n, .inr (.inr (.inr (.inr (va_up (fun j => if j < p then some (bG g + ad (f j)) else none) p (some (bG g + ad (f p)))))))) : va_E) = aRp g t n (p + 1) f := by
  unfold aRp
  congr 7
  funext j
  unfold va_up
  by_cases h : j = p
  · subst h; rw [if_pos rfl, if_pos (by omega)]
  · rw [if_neg h]
    dsimp only
    by_cases h2 : j < p
    · rw [if_pos h2, if_pos (by omega)]
    · rw [if_neg h2, if_neg (by omega)]
theorem V.newR {idx t0 N : Nat} {CC : String} {f : Nat → VA} {z : Int32} {a : VA} (C : Cx Γ g cc y nL ret lvl mc ms) (hcl : Cond.classLink y.cls idx CC ∈ gws) (hao : CC ∈ aos) (ht : (tysL g.2.1)[t0]? = some (g.2.1 t0, .object CC)) (hz : z = nI N) (hN : N ≤ 1000) (d : decode cc pc = .ok (.anewarray idx, 3)) (hq : pc + 3 = q) (hn : n < NN) (ha : vaT n = a) (hp : up PH a (aRp g t0 N 0 f) = PH1) (hcells : cells + 1 ≤ mc) (hslots : slots + N ≤ ms) (k : V l Γ g nL Q (cells + 1) (slots + N) (n + 1) PH1 q lv (rf g a :: st)) : V l Γ g nL Q cells slots n PH pc lv (.int z :: st) := by
  obtain ⟨p, e, R, s, m, args, below, meth, c⟩ := Γ
  subst hq
  subst hz
  intro H locs ls hH hS hL
  have hr := C.cells hcells hslots
  have hcl0 : (nI N).toNatClampNeg = N := nI_clamp (by omega)
  refine W.anew C.1 C.2.1 C.2.2.2.1 (C.2.2.2.2.1 _ hcl) (va_AO.use (C.2.2.2.2.2.2.2.2.2.2.1.2.2 _ hao)) rfl d rfl (nI_pos (by omega)) (by rw [hcl0]; omega) hr.1 (by rw [hcl0]; exact hr.2) fun cA kA comp f1 f2 f3 f4 => ?_
  rw [hcl0]
  generalize hH1 : H.push ({ cls := cA, slots := Array.replicate N .null, vm := .none } : Cell) = H1
  have z1 : H1.size = H.size + 1 := by rw [← hH1, Array.size_push]
  have e1 : H1[H.size]? = some (arrV cA N (fun _ => .null)) := by rw [← hH1, Array.getElem?_push_size, ← arrV_new]
  have o1 : ∀ q : Nat, q < H.size → H1[q]? = H[q]? := fun q hq => by rw [← hH1, Array.getElem?_push, if_neg (Nat.ne_of_lt hq)]
  obtain ⟨-, -, -, -, -, h9⟩ := (C.2.2.2.2.2.1.2 t0 _ ht).2
  have hcA : cA = g.2.1 t0 := Option.some.inj (f1.symm.trans h9)
  subst hcA
  have hH2 : HP g PH1 (n + 1) H1 := by
    refine HP.push (e := aRp g t0 N 0 f) hn ha hH z1 o1 ?_ hp
    rw [aRp_0]
    show H1[H.size]? = some (vp_cell _ _)
    rw [vp_cell_q]
    exact e1
  have e9 : H.size = bG g + ad a := by rw [hH.1, ← ha, ad_vaT n hn]
  rw [e9]
  exact k H1 locs ls hH2 (S_push hS z1 o1) hL
theorem V.astR {i len t0 ci : Nat} {rr : vw_C} {f : Nat → VA} {x : Int32} {a b : VA} {vs : List Value} (C : Cx Γ g cc y nL ret lvl mc ms) (d : decode cc pc = .ok (.aastore, 1)) (hq : pc + 1 = q) (ok : Ok a n) (hc : PH a = aRp g t0 len i f) (ht : (tysL g.2.1)[t0]? = some (g.2.1 t0, .object rr.1)) (okb : Ok b n) (hcb : PH b = .inr (ci, vs)) (hr : vwCl[ci]? = some rr) (hx : x = nI i) (hi : i < len) (hz : len < 2 ^ 31) (hb : f i = b) (hp : up PH a (aRp g t0 len (i + 1) f) = PH1) (k : V l Γ g nL Q cells slots n PH1 q lv (st)) : V l Γ g nL Q cells slots n PH pc lv (rf g b :: .int x :: rf g a :: st) := by
  subst hb
  exact V.aast C d hq ok hc ht okb hcb hr hx hi hz (by rw [aRp_1]; exact hp) k
theorem V.len_aRp {t0 : Nat} {CC : String} {len p : Nat} {a : VA} {f : Nat → VA} (C : Cx Γ g cc y nL ret lvl mc ms) (ht : (tysL g.2.1)[t0]? = some (g.2.1 t0, .object CC)) (d : decode cc pc = .ok (.arraylength, 1)) (hq : pc + 1 = q) (ok : Ok a n) (hc : PH a = aRp g t0 len p f) (k : V l Γ g nL Q cells slots n PH q lv (.int (nI len) :: st)) : V l Γ g nL Q cells slots n PH pc lv (rf g a :: st) :=
  V.alen (t0 := t0) C d hq ok hc ht rfl k
theorem V.cs {c2 s2 : Nat} (h1 : cells = c2) (h2 : slots = s2) (k : V l Γ g nL Q c2 s2 n PH pc lv st) : V l Γ g nL Q cells slots n PH pc lv st := by subst h1; subst h2; exact k
theorem V.nn {n2 : Nat} (h : n = n2) (k : V l Γ g nL Q cells slots n2 PH pc lv st) : V l Γ g nL Q cells slots n PH pc lv st := by subst h; exact k
end VMAKE
theorem up_up {PH : PHp} {a : VA} {e e2 : va_E} : up (up PH a e) a e2 = up PH a e2 := by
  funext q
  simp only [up]
  split <;> rfl
theorem up_sw {PH : PHp} {a b : VA} {e f : va_E} (h : a ≠ b) : up (up PH a e) b f = up (up PH b f) a e := by
  funext q
  simp only [up]
  by_cases h1 : q = b
  · subst h1; rw [if_pos rfl, if_pos rfl, if_neg (Ne.symm h)]
  · rw [if_neg h1, if_neg h1]
theorem up_md {PH : PHp} {a b : VA} {e f f2 : va_E} (h : a ≠ b) : up (up (up PH b f) a e) b f2 = up (up PH b f2) a e := by rw [up_sw h, up_up]
theorem Ok_of {i n : Nat} {a : VA} (h : vaT i = a) (hi : i < n) (hn : i < NN) : Ok a n := by
  rw [← h]
  exact ⟨by rw [ad_vaT i hn]; exact hi, by rw [ad_vaT i hn]; exact hn⟩
theorem vaT_inj {i j : Nat} (hi : i < NN) (hj : j < NN) (h : vaT i = vaT j) : i = j := by rw [← ad_vaT i hi, ← ad_vaT j hj, h]
/-- the number of the city that a world has of its own -/
def wc : Nat → Nat
  | 0 => 0
  | u + 1 => u + 7
/-- the start -/
def iB : I2 := fun _ k => if 54 ≤ k ∧ k < 78 ∧ k % 3 = 1 then nI 1 else if 54 ≤ k ∧ k < 78 ∧ k % 3 = 2 then -5 else nI 0
def iC (g : GG) : PHp := hC g (nI 0, nI 0) (fun _ _ => nI 0, fun _ _ => nI 0, fun _ => nI 0, fun _ => nI 3) (fun _ _ => nI 0) (fun _ => nI 0, nI 0, nI 0) iB wc (fun _ _ _ => nI 0, fun _ _ _ => nI 0, fun _ _ _ => nI 0, fun _ _ => nI 0) (fun _ => nI 0, nI 0) (fun _ _ => 0, fun _ => -1, fun _ => nI 0)
def iM (g : GG) : PHp := hM g (fun _ => nI 0) (fun _ => nI 0) (fun _ => nI 0, nI 0) (fun _ => nI 0, nI 0, fun _ => nI 0, fun _ => nI 0, nI 0) (fun _ => nI 0, nI 0, nI 0, nI 0, nI 0, nI 0, nI 0, fun _ => nI 0, fun _ => nI 0, fun _ => nI 0) (fun _ => nI 0, nI 0) (fun _ => -1, fun _ => nI 0, fun _ => 0, fun _ => 0)
def iH (g : GG) : PHp := jn (iC g) (iM g)
theorem iB_lo {u k : Nat} (h : k < 54) : iB u k = nI 0 := by
  unfold iB
  rw [if_neg (by omega), if_neg (by omega)]
theorem iB_0 {u s : Nat} : iB u (54 + 3 * s + 0) = nI 0 := by
  unfold iB
  rw [if_neg (by omega), if_neg (by omega)]
theorem iB_1 {u s : Nat} (h : s < 8) : iB u (54 + 3 * s + 1) = nI 1 := by
  unfold iB
  rw [if_pos (by omega)]
theorem iB_2 {u s : Nat} (h : s < 8) : iB u (54 + 3 * s + 2) = -5 := by
  unfold iB
  rw [if_neg (by omega), if_pos (by omega)]
theorem iH9 {g : GG} {u p : Nat} (h : p < 6) : iH g (9, u, p) = .inr (7, [.int (nI p), rf g (10, u, p), .int (nI 0), .int (nI 0), .int (nI 0), .int (nI 0), .int (nI 0)]) := by
  show (Sum.inr (7, [.int (nI p), rf g (10, u, p), .int (iB u (9 * p + 0)), .int (iB u (9 * p + 1)), .int (iB u (9 * p + 2)), .int (iB u (9 * p + 3)), .int (iB u (9 * p + 4))]) : va_E) = _
  rw [iB_lo (by omega), iB_lo (by omega), iB_lo (by omega), iB_lo (by omega), iB_lo (by omega)]
theorem iH10 {g : GG} {u p : Nat} (h : p < 6) : iH g (10, u, p) = aI g 4 (fun _ => nI 0) := aI_eq (fun j hj => iB_lo (by omega))
theorem iH11 {g : GG} {u s : Nat} (h : s < 8) : iH g (11, u, s) = .inr (4, [.int (nI 0), .int (nI 1), .int (-5)]) := by
  show (Sum.inr (4, [.int (iB u (54 + 3 * s + 0)), .int (iB u (54 + 3 * s + 1)), .int (iB u (54 + 3 * s + 2))]) : va_E) = _
  rw [iB_0, iB_1 h, iB_2 h]
/-- what is behind a constructor: from place i to k all is as at the start -/
def pN (g : GG) (PH : PHp) (i k : Nat) : Option Value → PHp → Nat → Prop := fun v PH1 n1 => v = none ∧ n1 = k ∧ ∀ j, j < k → PH1 (vaT j) = if j < i then PH (vaT j) else iH g (vaT j)
/-- the same but for places that are not done yet -/
def Dn (g : GG) (PH : PHp) (i : Nat) (L : List Nat) (n : Nat) (X : PHp) : Prop := ∀ j, j < n → j ∉ L → X (vaT j) = if j < i then PH (vaT j) else iH g (vaT j)
theorem Dn.base {g : GG} {PH : PHp} {i : Nat} : Dn g PH i [i] (i + 1) PH := fun j hj hn => by
  rw [List.mem_singleton] at hn
  rw [if_pos (by omega)]
theorem Dn.new {g : GG} {PH X : PHp} {i n : Nat} {L : List Nat} {a : VA} {e : va_E} (h : Dn g PH i L n X) (hn : n < NN) (ha : vaT n = a) : Dn g PH i (n :: L) (n + 1) (up X a e) := by
  intro j hj hm
  rw [List.mem_cons, not_or] at hm
  rw [← ha, up_ne (fun z => hm.1 (vaT_inj (by omega) hn z))]
  exact h j (by omega) hm.2
theorem Dn.arr {g : GG} {PH X : PHp} {i n : Nat} {L : List Nat} {a : VA} {e : va_E} (h : Dn g PH i L n X) (hi : i ≤ n) (hn : n < NN) (ha : vaT n = a) (he : e = iH g a) : Dn g PH i L (n + 1) (up X a e) := by
  intro j hj hm
  by_cases q : j = n
  · subst q
    rw [ha, up_eq, if_neg (by omega)]
    exact he
  · rw [← ha, up_ne (fun z => q (vaT_inj (by omega) hn z))]
    exact h j (by omega) hm
theorem Dn.call {g : GG} {PH X X2 : PHp} {i n k n2 : Nat} {v : Option Value} {L : List Nat} (h : Dn g PH i (n :: L) (n + 1) X) (hi : i ≤ n) (hp : pN g X n k v X2 n2) : Dn g PH i L n2 X2 := by
  obtain ⟨-, rfl, hp⟩ := hp
  intro j hj hm
  rw [hp j hj]
  by_cases q : j < n
  · rw [if_pos q]
    exact h j (by omega) (fun z => (List.mem_cons.mp z).elim (fun e => absurd e (by omega)) hm)
  · rw [if_neg q, if_neg (by omega)]
theorem Dn.put {g : GG} {PH X : PHp} {i n k : Nat} {L : List Nat} {a : VA} {e : va_E} (h : Dn g PH i L n X) (hn : n ≤ NN) (hk : k < NN) (ha : vaT k = a) (hm : k ∈ L) : Dn g PH i L n (up X a e) := by
  intro j hj hl
  rw [← ha, up_ne (fun z => hl (by rw [vaT_inj (by omega) hk z]; exact hm))]
  exact h j hj hl
theorem pN.at {g : GG} {X X2 : PHp} {n k n2 j : Nat} {v : Option Value} {a : VA} (hp : pN g X n k v X2 n2) (ha : vaT j = a) (hj : j < n) (hk : j < k) : X2 a = X a := by
  rw [← ha, hp.2.2 j hk, if_pos hj]
theorem pN.own {g : GG} {X X2 : PHp} {n k n2 : Nat} {v : Option Value} {a : VA} (hp : pN g X n k v X2 n2) (ha : vaT n = a) (hk : n < k) : X2 a = iH g a := by
  rw [← ha, hp.2.2 n hk, if_neg (by omega)]
theorem Dn.done {g : GG} {PH X : PHp} {i n : Nat} {L : List Nat} (h : Dn g PH i L n X) (hL : ∀ j, j ∈ L → i ≤ j ∧ X (vaT j) = iH g (vaT j)) : pN g PH i n none X n := by
  refine ⟨rfl, rfl, fun j hj => ?_⟩
  by_cases q : j ∈ L
  · rw [if_neg (by have := (hL j q).1; omega)]
    exact (hL j q).2
  · exact h j hj q
theorem up_n {X : PHp} {i j : Nat} {a b : VA} {e f : va_E} (ha : vaT i = a) (hb : vaT j = b) (hi : i < NN) (hj : j < NN) (h : i ≠ j) (hX : X a = f) : up X b e a = f := by
  rw [← hb, ← ha, up_ne (fun z => h (vaT_inj hi hj z)), ha]
  exact hX
set_option maxHeartbeats 1000000 in
theorem c_i0 {l : Launch} {g : GG} {PH : PHp} {c i : Nat} (hi : i + 4 ≤ NN) (hA : vaT i = (2, c, 0)) (h1 : vaT (i + 1) = (3, c, 0)) (h2 : vaT (i + 2) = (3, c, 1)) (h3 : vaT (i + 3) = (3, c, 2)) (hP : PH (2, c, 0) = .inr (0, [.null, .null, .null, .int 0, .int 0])) : Ct l g yX0_init cX0_init 1 none 1 3 206 [rf g (2, c, 0)] (i + 1) PH (pN g PH i (i + 4)) := by
  refine Ct.of (lv := [some (rf g (2, c, 0))]) (by decide +kernel) rfl (Nat.le_of_ble_eq_true rfl) ?_
  intro Γ C
  have HE1 : aI g 100 (fun _ => nI 0) = iH g (3, c, 0) := rfl
  have HE2 : aI g 100 (fun _ => nI 0) = iH g (3, c, 1) := rfl
  have HE3 : aI g 6 (fun _ => nI 0) = iH g (3, c, 2) := rfl
  have okA : ∀ n, i < n → Ok (2, c, 0) n := fun n h => Ok_of hA h (by omega)
  have d0 := Dn.base (g := g) (PH := PH) (i := i)
  have ne1 : ((2, c, 0) : VA) ≠ (3, c, 0) := by simp
  have ne2 : ((2, c, 0) : VA) ≠ (3, c, 1) := by simp
  have ne3 : ((2, c, 0) : VA) ≠ (3, c, 2) := by simp
  refine V.aload_n (q := 1) C dX0_init_0 rfl rfl ?_
  refine V.objInit (q := 4) C (tb_at 63 (by decide +kernel) rfl) dX0_init_1 rfl (Nat.le_of_ble_eq_true rfl) (by omega) ?_
  refine V.aload_n (q := 5) C dX0_init_4 rfl rfl ?_
  refine V.bipush (q := 7) (v := nI 100) C dX0_init_5 rfl (by decide) ?_
  refine V.newI (q := 9) (N := 100) (a := (3, c, 0)) (PH1 := (up PH (3, c, 0) (aI g 100 (fun _ => nI 0)))) C rfl (by omega) dX0_init_7 rfl (by omega) h1 rfl (by omega) (by omega) ?_
  have d1 := d0.arr (a := (3, c, 0)) (e := (aI g 100 (fun _ => nI 0))) (by omega) (by omega) h1 HE1
  refine V.putF (q := 12) (PH1 := (up (up PH (3, c, 0) (aI g 100 (fun _ => nI 0))) (2, c, 0) (.inr (0, [rf g (3, c, 0), .null, .null, .int 0, .int 0])))) C fl_X0_9 rfl rfl rfl dX0_init_9 rfl (okA _ (by omega)) ((up_ne ne1).trans hP) (Nat.le_of_ble_eq_true rfl) rfl rfl rfl ?_
  refine V.aload_n (q := 13) C dX0_init_12 rfl rfl ?_
  refine V.bipush (q := 15) (v := nI 100) C dX0_init_13 rfl (by decide) ?_
  refine V.newI (q := 17) (N := 100) (a := (3, c, 1)) (PH1 := (up (up (up PH (3, c, 0) (aI g 100 (fun _ => nI 0))) (3, c, 1) (aI g 100 (fun _ => nI 0))) (2, c, 0) (.inr (0, [rf g (3, c, 0), .null, .null, .int 0, .int 0])))) C rfl (by omega) dX0_init_15 rfl (by omega) h2 (up_sw ne2) (by omega) (by omega) ?_
  have d2 := d1.arr (a := (3, c, 1)) (e := (aI g 100 (fun _ => nI 0))) (by omega) (by omega) h2 HE2
  refine V.putF (q := 20) (PH1 := (up (up (up PH (3, c, 0) (aI g 100 (fun _ => nI 0))) (3, c, 1) (aI g 100 (fun _ => nI 0))) (2, c, 0) (.inr (0, [rf g (3, c, 0), rf g (3, c, 1), .null, .int 0, .int 0])))) C fl_X0_15 rfl rfl rfl dX0_init_17 rfl (okA _ (by omega)) up_eq (Nat.le_of_ble_eq_true rfl) rfl rfl up_up ?_
  refine V.aload_n (q := 21) C dX0_init_20 rfl rfl ?_
  refine V.bipush (q := 23) (v := nI 6) C dX0_init_21 rfl (by decide) ?_
  refine V.newI (q := 25) (N := 6) (a := (3, c, 2)) (PH1 := (up (up (up (up PH (3, c, 0) (aI g 100 (fun _ => nI 0))) (3, c, 1) (aI g 100 (fun _ => nI 0))) (3, c, 2) (aI g 6 (fun _ => nI 0))) (2, c, 0) (.inr (0, [rf g (3, c, 0), rf g (3, c, 1), .null, .int 0, .int 0])))) C rfl (by omega) dX0_init_23 rfl (by omega) h3 (up_sw ne3) (by omega) (by omega) ?_
  have d3 := d2.arr (a := (3, c, 2)) (e := (aI g 6 (fun _ => nI 0))) (by omega) (by omega) h3 HE3
  refine V.putF (q := 28) (PH1 := (up (up (up (up PH (3, c, 0) (aI g 100 (fun _ => nI 0))) (3, c, 1) (aI g 100 (fun _ => nI 0))) (3, c, 2) (aI g 6 (fun _ => nI 0))) (2, c, 0) (.inr (0, [rf g (3, c, 0), rf g (3, c, 1), rf g (3, c, 2), .int 0, .int 0])))) C fl_X0_18 rfl rfl rfl dX0_init_25 rfl (okA _ (by omega)) up_eq (Nat.le_of_ble_eq_true rfl) rfl rfl up_up ?_
  refine V.aload_n (q := 29) C dX0_init_28 rfl rfl ?_
  refine V.iconst (q := 30) (v := nI 0) C dX0_init_29 rfl (by decide) ?_
  refine V.put (q := 33) (PH1 := (up (up (up (up PH (3, c, 0) (aI g 100 (fun _ => nI 0))) (3, c, 1) (aI g 100 (fun _ => nI 0))) (3, c, 2) (aI g 6 (fun _ => nI 0))) (2, c, 0) (.inr (0, [rf g (3, c, 0), rf g (3, c, 1), rf g (3, c, 2), .int (nI 0), .int 0])))) C fl_X0_21 rfl dX0_init_30 rfl (okA _ (by omega)) up_eq (Nat.le_of_ble_eq_true rfl) rfl rfl up_up ?_
  refine V.aload_n (q := 34) C dX0_init_33 rfl rfl ?_
  refine V.iconst (q := 35) (v := nI 3) C dX0_init_34 rfl (by decide) ?_
  refine V.put (q := 38) (PH1 := (up (up (up (up PH (3, c, 0) (aI g 100 (fun _ => nI 0))) (3, c, 1) (aI g 100 (fun _ => nI 0))) (3, c, 2) (aI g 6 (fun _ => nI 0))) (2, c, 0) (.inr (0, [rf g (3, c, 0), rf g (3, c, 1), rf g (3, c, 2), .int (nI 0), .int (nI 3)])))) C fl_X0_25 rfl dX0_init_35 rfl (okA _ (by omega)) up_eq (Nat.le_of_ble_eq_true rfl) rfl rfl up_up ?_
  refine V.cs (c2 := 3) (s2 := 206) (by omega) (by omega) ?_
  refine V.vreturn C dX0_init_38 ?_
  have dE := Dn.put (a := (2, c, 0)) (e := .inr (0, [rf g (3, c, 0), rf g (3, c, 1), rf g (3, c, 2), .int (nI 0), .int (nI 3)])) d3 (by omega) (show i < NN by omega) hA List.mem_cons_self
  refine dE.done (fun j hj => ?_)
  obtain rfl := List.mem_singleton.mp hj
  refine ⟨Nat.le_refl _, ?_⟩
  rw [hA, up_eq]
  exact rfl
set_option maxHeartbeats 1000000 in
theorem c_i2 {l : Launch} {g : GG} {PH : PHp} {i : Nat} (hi : i + 2 ≤ NN) (hA : vaT i = (4, 0, 0)) (h1 : vaT (i + 1) = (5, 0, 0)) (hP : PH (4, 0, 0) = .inr (2, [.null, .int 0, .int 0])) : Ct l g yX2_init cX2_init 1 none 1 1 100 [rf g (4, 0, 0)] (i + 1) PH (pN g PH i (i + 2)) := by
  refine Ct.of (lv := [some (rf g (4, 0, 0))]) (by decide +kernel) rfl (Nat.le_of_ble_eq_true rfl) ?_
  intro Γ C
  have HE1 : aB g 100 (fun _ => nI 0) = iH g (5, 0, 0) := rfl
  have okA : ∀ n, i < n → Ok (4, 0, 0) n := fun n h => Ok_of hA h (by omega)
  have d0 := Dn.base (g := g) (PH := PH) (i := i)
  have ne1 : ((4, 0, 0) : VA) ≠ (5, 0, 0) := by simp
  refine V.aload_n (q := 1) C dX2_init_0 rfl rfl ?_
  refine V.objInit (q := 4) C (tb_at 34 (by decide +kernel) rfl) dX2_init_1 rfl (Nat.le_of_ble_eq_true rfl) (by omega) ?_
  refine V.aload_n (q := 5) C dX2_init_4 rfl rfl ?_
  refine V.bipush (q := 7) (v := nI 100) C dX2_init_5 rfl (by decide) ?_
  refine V.newB (q := 9) (N := 100) (a := (5, 0, 0)) (PH1 := (up PH (5, 0, 0) (aB g 100 (fun _ => nI 0)))) C rfl (by omega) dX2_init_7 rfl (by omega) h1 rfl (by omega) (by omega) ?_
  have d1 := d0.arr (a := (5, 0, 0)) (e := (aB g 100 (fun _ => nI 0))) (by omega) (by omega) h1 HE1
  refine V.putF (q := 12) (PH1 := (up (up PH (5, 0, 0) (aB g 100 (fun _ => nI 0))) (4, 0, 0) (.inr (2, [rf g (5, 0, 0), .int 0, .int 0])))) C fl_X2_9 rfl rfl rfl dX2_init_9 rfl (okA _ (by omega)) ((up_ne ne1).trans hP) (Nat.le_of_ble_eq_true rfl) rfl rfl rfl ?_
  refine V.aload_n (q := 13) C dX2_init_12 rfl rfl ?_
  refine V.iconst (q := 14) (v := nI 0) C dX2_init_13 rfl (by decide) ?_
  refine V.put (q := 17) (PH1 := (up (up PH (5, 0, 0) (aB g 100 (fun _ => nI 0))) (4, 0, 0) (.inr (2, [rf g (5, 0, 0), .int (nI 0), .int 0])))) C fl_X2_15 rfl dX2_init_14 rfl (okA _ (by omega)) up_eq (Nat.le_of_ble_eq_true rfl) rfl rfl up_up ?_
  refine V.aload_n (q := 18) C dX2_init_17 rfl rfl ?_
  refine V.iconst (q := 19) (v := nI 0) C dX2_init_18 rfl (by decide) ?_
  refine V.put (q := 22) (PH1 := (up (up PH (5, 0, 0) (aB g 100 (fun _ => nI 0))) (4, 0, 0) (.inr (2, [rf g (5, 0, 0), .int (nI 0), .int (nI 0)])))) C fl_X2_19 rfl dX2_init_19 rfl (okA _ (by omega)) up_eq (Nat.le_of_ble_eq_true rfl) rfl rfl up_up ?_
  refine V.cs (c2 := 1) (s2 := 100) (by omega) (by omega) ?_
  refine V.vreturn C dX2_init_22 ?_
  have dE := Dn.put (a := (4, 0, 0)) (e := .inr (2, [rf g (5, 0, 0), .int (nI 0), .int (nI 0)])) d1 (by omega) (show i < NN by omega) hA List.mem_cons_self
  refine dE.done (fun j hj => ?_)
  obtain rfl := List.mem_singleton.mp hj
  refine ⟨Nat.le_refl _, ?_⟩
  rw [hA, up_eq]
  exact rfl
set_option maxHeartbeats 1000000 in
theorem c_i3 {l : Launch} {g : GG} {PH : PHp} {h r i : Nat} (hr : rwN r ≤ 100) (hi : i + 4 ≤ NN) (hA : vaT i = (13, h, r)) (h1 : vaT (i + 1) = (14, h, r)) (h2 : vaT (i + 2) = (15, h, r)) (h3 : vaT (i + 3) = (16, h, r)) (hP : PH (13, h, r) = .inr (3, [.null, .null, .null, .int 0])) : Ct l g yX3_init cX3_init 3 none 1 3 (3 * rwN r) [rf g (13, h, r), .int (nI (rwN r))] (i + 1) PH (pN g PH i (i + 4)) := by
  refine Ct.of (lv := [some (rf g (13, h, r)), some (.int (nI (rwN r))), none]) (by decide +kernel) rfl (Nat.le_of_ble_eq_true rfl) ?_
  intro Γ C
  have HE1 : aI g (rwN r) (fun _ => nI 0) = iH g (14, h, r) := rfl
  have HE2 : aI g (rwN r) (fun _ => nI 0) = iH g (15, h, r) := rfl
  have HE3 : aI g (rwN r) (fun _ => nI 0) = iH g (16, h, r) := rfl
  have hmax : (if nI (rwN r) < nI 0 then nI 0 else nI (rwN r)) = nI (rwN r) := if_neg (nI_nlt (Nat.zero_le _) (by omega))
  have okA : ∀ n, i < n → Ok (13, h, r) n := fun n h => Ok_of hA h (by omega)
  have d0 := Dn.base (g := g) (PH := PH) (i := i)
  have ne1 : ((13, h, r) : VA) ≠ (14, h, r) := by simp
  have ne2 : ((13, h, r) : VA) ≠ (15, h, r) := by simp
  have ne3 : ((13, h, r) : VA) ≠ (16, h, r) := by simp
  refine V.aload_n (q := 1) C dX3_init_0 rfl rfl ?_
  refine V.objInit (q := 4) C (tb_at 184 (by decide +kernel) rfl) dX3_init_1 rfl (Nat.le_of_ble_eq_true rfl) (by omega) ?_
  refine V.aload_n (q := 5) C dX3_init_4 rfl rfl ?_
  refine V.iconst (q := 6) (v := nI 0) C dX3_init_5 rfl (by decide) ?_
  refine V.put (q := 9) (PH1 := (up PH (13, h, r) (.inr (3, [.null, .null, .null, .int (nI 0)])))) C fl_X3_9 rfl dX3_init_6 rfl (okA _ (by omega)) hP (Nat.le_of_ble_eq_true rfl) rfl rfl rfl ?_
  refine V.iload_n (q := 10) C dX3_init_9 rfl rfl ?_
  refine V.iconst (q := 11) (v := nI 0) C dX3_init_10 rfl (by decide) ?_
  refine V.max (q := 14) C dX3_init_11 (tb_at 185 (by decide +kernel) rfl) rfl ?_
  refine V.topi (x1 := nI (rwN r)) hmax ?_
  refine V.istore_n (q := 15) C dX3_init_14 rfl (by decide) rfl rfl ?_
  refine V.aload_n (q := 16) C dX3_init_15 rfl rfl ?_
  refine V.iload_n (q := 17) C dX3_init_16 rfl rfl ?_
  refine V.newI (q := 19) (N := (rwN r)) (a := (14, h, r)) (PH1 := (up (up PH (14, h, r) (aI g (rwN r) (fun _ => nI 0))) (13, h, r) (.inr (3, [.null, .null, .null, .int (nI 0)])))) C rfl (by omega) dX3_init_17 rfl (by omega) h1 (up_sw ne1) (by omega) (by omega) ?_
  have d1 := d0.arr (a := (14, h, r)) (e := (aI g (rwN r) (fun _ => nI 0))) (by omega) (by omega) h1 HE1
  refine V.putF (q := 22) (PH1 := (up (up PH (14, h, r) (aI g (rwN r) (fun _ => nI 0))) (13, h, r) (.inr (3, [rf g (14, h, r), .null, .null, .int (nI 0)])))) C fl_X3_21 rfl rfl rfl dX3_init_19 rfl (okA _ (by omega)) up_eq (Nat.le_of_ble_eq_true rfl) rfl rfl up_up ?_
  refine V.aload_n (q := 23) C dX3_init_22 rfl rfl ?_
  refine V.iload_n (q := 24) C dX3_init_23 rfl rfl ?_
  refine V.newI (q := 26) (N := (rwN r)) (a := (15, h, r)) (PH1 := (up (up (up PH (14, h, r) (aI g (rwN r) (fun _ => nI 0))) (15, h, r) (aI g (rwN r) (fun _ => nI 0))) (13, h, r) (.inr (3, [rf g (14, h, r), .null, .null, .int (nI 0)])))) C rfl (by omega) dX3_init_24 rfl (by omega) h2 (up_sw ne2) (by omega) (by omega) ?_
  have d2 := d1.arr (a := (15, h, r)) (e := (aI g (rwN r) (fun _ => nI 0))) (by omega) (by omega) h2 HE2
  refine V.putF (q := 29) (PH1 := (up (up (up PH (14, h, r) (aI g (rwN r) (fun _ => nI 0))) (15, h, r) (aI g (rwN r) (fun _ => nI 0))) (13, h, r) (.inr (3, [rf g (14, h, r), rf g (15, h, r), .null, .int (nI 0)])))) C fl_X3_25 rfl rfl rfl dX3_init_26 rfl (okA _ (by omega)) up_eq (Nat.le_of_ble_eq_true rfl) rfl rfl up_up ?_
  refine V.aload_n (q := 30) C dX3_init_29 rfl rfl ?_
  refine V.iload_n (q := 31) C dX3_init_30 rfl rfl ?_
  refine V.newI (q := 33) (N := (rwN r)) (a := (16, h, r)) (PH1 := (up (up (up (up PH (14, h, r) (aI g (rwN r) (fun _ => nI 0))) (15, h, r) (aI g (rwN r) (fun _ => nI 0))) (16, h, r) (aI g (rwN r) (fun _ => nI 0))) (13, h, r) (.inr (3, [rf g (14, h, r), rf g (15, h, r), .null, .int (nI 0)])))) C rfl (by omega) dX3_init_31 rfl (by omega) h3 (up_sw ne3) (by omega) (by omega) ?_
  have d3 := d2.arr (a := (16, h, r)) (e := (aI g (rwN r) (fun _ => nI 0))) (by omega) (by omega) h3 HE3
  refine V.putF (q := 36) (PH1 := (up (up (up (up PH (14, h, r) (aI g (rwN r) (fun _ => nI 0))) (15, h, r) (aI g (rwN r) (fun _ => nI 0))) (16, h, r) (aI g (rwN r) (fun _ => nI 0))) (13, h, r) (.inr (3, [rf g (14, h, r), rf g (15, h, r), rf g (16, h, r), .int (nI 0)])))) C fl_X3_28 rfl rfl rfl dX3_init_33 rfl (okA _ (by omega)) up_eq (Nat.le_of_ble_eq_true rfl) rfl rfl up_up ?_
  refine V.cs (c2 := 3) (s2 := (3 * rwN r)) (by omega) (by omega) ?_
  refine V.vreturn C dX3_init_36 ?_
  have dE := Dn.put (a := (13, h, r)) (e := .inr (3, [rf g (14, h, r), rf g (15, h, r), rf g (16, h, r), .int (nI 0)])) d3 (by omega) (show i < NN by omega) hA List.mem_cons_self
  refine dE.done (fun j hj => ?_)
  obtain rfl := List.mem_singleton.mp hj
  refine ⟨Nat.le_refl _, ?_⟩
  rw [hA, up_eq]
  exact rfl
set_option maxHeartbeats 1000000 in
theorem c_i4 {l : Launch} {g : GG} {PH : PHp} {u s i : Nat} (hs : s < 8) (hi : i + 1 ≤ NN) (hA : vaT i = (11, u, s))  (hP : PH (11, u, s) = .inr (4, [.int 0, .int 0, .int 0])) : Ct l g yX4_init cX4_init 1 none 1 0 0 [rf g (11, u, s)] (i + 1) PH (pN g PH i (i + 1)) := by
  refine Ct.of (lv := [some (rf g (11, u, s))]) (by decide +kernel) rfl (Nat.le_of_ble_eq_true rfl) ?_
  intro Γ C
  have okA : ∀ n, i < n → Ok (11, u, s) n := fun n h => Ok_of hA h (by omega)
  have d0 := Dn.base (g := g) (PH := PH) (i := i)
  refine V.aload_n (q := 1) C dX4_init_0 rfl rfl ?_
  refine V.objInit (q := 4) C (tb_at 131 (by decide +kernel) rfl) dX4_init_1 rfl (Nat.le_of_ble_eq_true rfl) (by omega) ?_
  refine V.aload_n (q := 5) C dX4_init_4 rfl rfl ?_
  refine V.iconst (q := 6) (v := nI 0) C dX4_init_5 rfl (by decide) ?_
  refine V.put (q := 9) (PH1 := (up PH (11, u, s) (.inr (4, [.int (nI 0), .int 0, .int 0])))) C fl_X4_9 rfl dX4_init_6 rfl (okA _ (by omega)) hP (Nat.le_of_ble_eq_true rfl) rfl rfl rfl ?_
  refine V.aload_n (q := 10) C dX4_init_9 rfl rfl ?_
  refine V.iconst (q := 11) (v := nI 1) C dX4_init_10 rfl (by decide) ?_
  refine V.put (q := 14) (PH1 := (up PH (11, u, s) (.inr (4, [.int (nI 0), .int (nI 1), .int 0])))) C fl_X4_15 rfl dX4_init_11 rfl (okA _ (by omega)) up_eq (Nat.le_of_ble_eq_true rfl) rfl rfl up_up ?_
  refine V.aload_n (q := 15) C dX4_init_14 rfl rfl ?_
  refine V.bipush (q := 17) (v := -5) C dX4_init_15 rfl (by decide) ?_
  refine V.put (q := 20) (PH1 := (up PH (11, u, s) (.inr (4, [.int (nI 0), .int (nI 1), .int (-5)])))) C fl_X4_18 rfl dX4_init_17 rfl (okA _ (by omega)) up_eq (Nat.le_of_ble_eq_true rfl) rfl rfl up_up ?_
  refine V.cs (c2 := 0) (s2 := 0) (by omega) (by omega) ?_
  refine V.vreturn C dX4_init_20 ?_
  have dE := Dn.put (a := (11, u, s)) (e := .inr (4, [.int (nI 0), .int (nI 1), .int (-5)])) d0 (by omega) (show i < NN by omega) hA List.mem_cons_self
  refine dE.done (fun j hj => ?_)
  obtain rfl := List.mem_singleton.mp hj
  refine ⟨Nat.le_refl _, ?_⟩
  rw [hA, up_eq]
  exact (iH11 hs).symm
set_option maxHeartbeats 1000000 in
theorem c_i5 {l : Launch} {g : GG} {PH : PHp} {t i : Nat} (hi : i + 2 ≤ NN) (hA : vaT i = (20, t, 0)) (h1 : vaT (i + 1) = (21, t, 0)) (hP : PH (20, t, 0) = .inr (5, [.null, .int 0, .int 0])) : Ct l g yX5_init cX5_init 1 none 1 1 60 [rf g (20, t, 0)] (i + 1) PH (pN g PH i (i + 2)) := by
  refine Ct.of (lv := [some (rf g (20, t, 0))]) (by decide +kernel) rfl (Nat.le_of_ble_eq_true rfl) ?_
  intro Γ C
  have HE1 : aL g 60 (fun _ => 0) = iH g (21, t, 0) := rfl
  have okA : ∀ n, i < n → Ok (20, t, 0) n := fun n h => Ok_of hA h (by omega)
  have d0 := Dn.base (g := g) (PH := PH) (i := i)
  have ne1 : ((20, t, 0) : VA) ≠ (21, t, 0) := by simp
  refine V.aload_n (q := 1) C dX5_init_0 rfl rfl ?_
  refine V.objInit (q := 4) C (tb_at 244 (by decide +kernel) rfl) dX5_init_1 rfl (Nat.le_of_ble_eq_true rfl) (by omega) ?_
  refine V.aload_n (q := 5) C dX5_init_4 rfl rfl ?_
  refine V.bipush (q := 7) (v := nI 60) C dX5_init_5 rfl (by decide) ?_
  refine V.newL (q := 9) (N := 60) (a := (21, t, 0)) (PH1 := (up PH (21, t, 0) (aL g 60 (fun _ => 0)))) C rfl (by omega) dX5_init_7 rfl (by omega) h1 rfl (by omega) (by omega) ?_
  have d1 := d0.arr (a := (21, t, 0)) (e := (aL g 60 (fun _ => 0))) (by omega) (by omega) h1 HE1
  refine V.putF (q := 12) (PH1 := (up (up PH (21, t, 0) (aL g 60 (fun _ => 0))) (20, t, 0) (.inr (5, [rf g (21, t, 0), .int 0, .int 0])))) C fl_X5_9 rfl rfl rfl dX5_init_9 rfl (okA _ (by omega)) ((up_ne ne1).trans hP) (Nat.le_of_ble_eq_true rfl) rfl rfl rfl ?_
  refine V.aload_n (q := 13) C dX5_init_12 rfl rfl ?_
  refine V.iconst (q := 14) (v := -1) C dX5_init_13 rfl (by decide) ?_
  refine V.put (q := 17) (PH1 := (up (up PH (21, t, 0) (aL g 60 (fun _ => 0))) (20, t, 0) (.inr (5, [rf g (21, t, 0), .int (-1), .int 0])))) C fl_X5_15 rfl dX5_init_14 rfl (okA _ (by omega)) up_eq (Nat.le_of_ble_eq_true rfl) rfl rfl up_up ?_
  refine V.aload_n (q := 18) C dX5_init_17 rfl rfl ?_
  refine V.iconst (q := 19) (v := nI 0) C dX5_init_18 rfl (by decide) ?_
  refine V.put (q := 22) (PH1 := (up (up PH (21, t, 0) (aL g 60 (fun _ => 0))) (20, t, 0) (.inr (5, [rf g (21, t, 0), .int (-1), .int (nI 0)])))) C fl_X5_19 rfl dX5_init_19 rfl (okA _ (by omega)) up_eq (Nat.le_of_ble_eq_true rfl) rfl rfl up_up ?_
  refine V.cs (c2 := 1) (s2 := 60) (by omega) (by omega) ?_
  refine V.vreturn C dX5_init_22 ?_
  have dE := Dn.put (a := (20, t, 0)) (e := .inr (5, [rf g (21, t, 0), .int (-1), .int (nI 0)])) d1 (by omega) (show i < NN by omega) hA List.mem_cons_self
  refine dE.done (fun j hj => ?_)
  obtain rfl := List.mem_singleton.mp hj
  refine ⟨Nat.le_refl _, ?_⟩
  rw [hA, up_eq]
  exact rfl
set_option maxHeartbeats 1000000 in
theorem c_i6 {l : Launch} {g : GG} {PH : PHp} {i : Nat} (hi : i + 2 ≤ NN) (hA : vaT i = (17, 0, 0)) (h1 : vaT (i + 1) = (18, 0, 0)) (hP : PH (17, 0, 0) = .inr (6, [.null, .int 0])) : Ct l g yX6_init cX6_init 1 none 1 1 20 [rf g (17, 0, 0)] (i + 1) PH (pN g PH i (i + 2)) := by
  refine Ct.of (lv := [some (rf g (17, 0, 0))]) (by decide +kernel) rfl (Nat.le_of_ble_eq_true rfl) ?_
  intro Γ C
  have HE1 : aI g 20 (fun _ => nI 0) = iH g (18, 0, 0) := rfl
  have okA : ∀ n, i < n → Ok (17, 0, 0) n := fun n h => Ok_of hA h (by omega)
  have d0 := Dn.base (g := g) (PH := PH) (i := i)
  have ne1 : ((17, 0, 0) : VA) ≠ (18, 0, 0) := by simp
  refine V.aload_n (q := 1) C dX6_init_0 rfl rfl ?_
  refine V.objInit (q := 4) C (tb_at 227 (by decide +kernel) rfl) dX6_init_1 rfl (Nat.le_of_ble_eq_true rfl) (by omega) ?_
  refine V.aload_n (q := 5) C dX6_init_4 rfl rfl ?_
  refine V.bipush (q := 7) (v := nI 20) C dX6_init_5 rfl (by decide) ?_
  refine V.newI (q := 9) (N := 20) (a := (18, 0, 0)) (PH1 := (up PH (18, 0, 0) (aI g 20 (fun _ => nI 0)))) C rfl (by omega) dX6_init_7 rfl (by omega) h1 rfl (by omega) (by omega) ?_
  have d1 := d0.arr (a := (18, 0, 0)) (e := (aI g 20 (fun _ => nI 0))) (by omega) (by omega) h1 HE1
  refine V.putF (q := 12) (PH1 := (up (up PH (18, 0, 0) (aI g 20 (fun _ => nI 0))) (17, 0, 0) (.inr (6, [rf g (18, 0, 0), .int 0])))) C fl_X6_9 rfl rfl rfl dX6_init_9 rfl (okA _ (by omega)) ((up_ne ne1).trans hP) (Nat.le_of_ble_eq_true rfl) rfl rfl rfl ?_
  refine V.aload_n (q := 13) C dX6_init_12 rfl rfl ?_
  refine V.iconst (q := 14) (v := nI 0) C dX6_init_13 rfl (by decide) ?_
  refine V.put (q := 17) (PH1 := (up (up PH (18, 0, 0) (aI g 20 (fun _ => nI 0))) (17, 0, 0) (.inr (6, [rf g (18, 0, 0), .int (nI 0)])))) C fl_X6_15 rfl dX6_init_14 rfl (okA _ (by omega)) up_eq (Nat.le_of_ble_eq_true rfl) rfl rfl up_up ?_
  refine V.cs (c2 := 1) (s2 := 20) (by omega) (by omega) ?_
  refine V.vreturn C dX6_init_17 ?_
  have dE := Dn.put (a := (17, 0, 0)) (e := .inr (6, [rf g (18, 0, 0), .int (nI 0)])) d1 (by omega) (show i < NN by omega) hA List.mem_cons_self
  refine dE.done (fun j hj => ?_)
  obtain rfl := List.mem_singleton.mp hj
  refine ⟨Nat.le_refl _, ?_⟩
  rw [hA, up_eq]
  exact rfl
set_option maxHeartbeats 1000000 in
theorem c_i7 {l : Launch} {g : GG} {PH : PHp} {u p i : Nat} (hp : p < 6) (hi : i + 2 ≤ NN) (hA : vaT i = (9, u, p)) (h1 : vaT (i + 1) = (10, u, p)) (hP : PH (9, u, p) = .inr (7, [.int 0, .null, .int 0, .int 0, .int 0, .int 0, .int 0])) : Ct l g yX7_init cX7_init 2 none 1 1 4 [rf g (9, u, p), .int (nI p)] (i + 1) PH (pN g PH i (i + 2)) := by
  refine Ct.of (lv := [some (rf g (9, u, p)), some (.int (nI p))]) (by decide +kernel) rfl (Nat.le_of_ble_eq_true rfl) ?_
  intro Γ C
  have HE1 : aI g 4 (fun _ => nI 0) = iH g (10, u, p) := (iH10 hp).symm
  have okA : ∀ n, i < n → Ok (9, u, p) n := fun n h => Ok_of hA h (by omega)
  have d0 := Dn.base (g := g) (PH := PH) (i := i)
  have ne1 : ((9, u, p) : VA) ≠ (10, u, p) := by simp
  refine V.aload_n (q := 1) C dX7_init_0 rfl rfl ?_
  refine V.objInit (q := 4) C (tb_at 88 (by decide +kernel) rfl) dX7_init_1 rfl (Nat.le_of_ble_eq_true rfl) (by omega) ?_
  refine V.aload_n (q := 5) C dX7_init_4 rfl rfl ?_
  refine V.iconst (q := 6) (v := nI 4) C dX7_init_5 rfl (by decide) ?_
  refine V.newI (q := 8) (N := 4) (a := (10, u, p)) (PH1 := (up PH (10, u, p) (aI g 4 (fun _ => nI 0)))) C rfl (by omega) dX7_init_6 rfl (by omega) h1 rfl (by omega) (by omega) ?_
  have d1 := d0.arr (a := (10, u, p)) (e := (aI g 4 (fun _ => nI 0))) (by omega) (by omega) h1 HE1
  refine V.putF (q := 11) (PH1 := (up (up PH (10, u, p) (aI g 4 (fun _ => nI 0))) (9, u, p) (.inr (7, [.int 0, rf g (10, u, p), .int 0, .int 0, .int 0, .int 0, .int 0])))) C fl_X7_9 rfl rfl rfl dX7_init_8 rfl (okA _ (by omega)) ((up_ne ne1).trans hP) (Nat.le_of_ble_eq_true rfl) rfl rfl rfl ?_
  refine V.aload_n (q := 12) C dX7_init_11 rfl rfl ?_
  refine V.iconst (q := 13) (v := nI 0) C dX7_init_12 rfl (by decide) ?_
  refine V.put (q := 16) (PH1 := (up (up PH (10, u, p) (aI g 4 (fun _ => nI 0))) (9, u, p) (.inr (7, [.int 0, rf g (10, u, p), .int (nI 0), .int 0, .int 0, .int 0, .int 0])))) C fl_X7_15 rfl dX7_init_13 rfl (okA _ (by omega)) up_eq (Nat.le_of_ble_eq_true rfl) rfl rfl up_up ?_
  refine V.aload_n (q := 17) C dX7_init_16 rfl rfl ?_
  refine V.iconst (q := 18) (v := nI 0) C dX7_init_17 rfl (by decide) ?_
  refine V.put (q := 21) (PH1 := (up (up PH (10, u, p) (aI g 4 (fun _ => nI 0))) (9, u, p) (.inr (7, [.int 0, rf g (10, u, p), .int (nI 0), .int (nI 0), .int 0, .int 0, .int 0])))) C fl_X7_19 rfl dX7_init_18 rfl (okA _ (by omega)) up_eq (Nat.le_of_ble_eq_true rfl) rfl rfl up_up ?_
  refine V.aload_n (q := 22) C dX7_init_21 rfl rfl ?_
  refine V.iconst (q := 23) (v := nI 0) C dX7_init_22 rfl (by decide) ?_
  refine V.put (q := 26) (PH1 := (up (up PH (10, u, p) (aI g 4 (fun _ => nI 0))) (9, u, p) (.inr (7, [.int 0, rf g (10, u, p), .int (nI 0), .int (nI 0), .int (nI 0), .int 0, .int 0])))) C fl_X7_22 rfl dX7_init_23 rfl (okA _ (by omega)) up_eq (Nat.le_of_ble_eq_true rfl) rfl rfl up_up ?_
  refine V.aload_n (q := 27) C dX7_init_26 rfl rfl ?_
  refine V.iconst (q := 28) (v := nI 0) C dX7_init_27 rfl (by decide) ?_
  refine V.put (q := 31) (PH1 := (up (up PH (10, u, p) (aI g 4 (fun _ => nI 0))) (9, u, p) (.inr (7, [.int 0, rf g (10, u, p), .int (nI 0), .int (nI 0), .int (nI 0), .int (nI 0), .int 0])))) C fl_X7_25 rfl dX7_init_28 rfl (okA _ (by omega)) up_eq (Nat.le_of_ble_eq_true rfl) rfl rfl up_up ?_
  refine V.aload_n (q := 32) C dX7_init_31 rfl rfl ?_
  refine V.iconst (q := 33) (v := nI 0) C dX7_init_32 rfl (by decide) ?_
  refine V.put (q := 36) (PH1 := (up (up PH (10, u, p) (aI g 4 (fun _ => nI 0))) (9, u, p) (.inr (7, [.int 0, rf g (10, u, p), .int (nI 0), .int (nI 0), .int (nI 0), .int (nI 0), .int (nI 0)])))) C fl_X7_28 rfl dX7_init_33 rfl (okA _ (by omega)) up_eq (Nat.le_of_ble_eq_true rfl) rfl rfl up_up ?_
  refine V.aload_n (q := 37) C dX7_init_36 rfl rfl ?_
  refine V.iload_n (q := 38) C dX7_init_37 rfl rfl ?_
  refine V.putF (q := 41) (PH1 := (up (up PH (10, u, p) (aI g 4 (fun _ => nI 0))) (9, u, p) (.inr (7, [.int (nI p), rf g (10, u, p), .int (nI 0), .int (nI 0), .int (nI 0), .int (nI 0), .int (nI 0)])))) C fl_X7_31 rfl rfl rfl dX7_init_38 rfl (okA _ (by omega)) up_eq (Nat.le_of_ble_eq_true rfl) rfl rfl up_up ?_
  refine V.cs (c2 := 1) (s2 := 4) (by omega) (by omega) ?_
  refine V.vreturn C dX7_init_41 ?_
  have dE := Dn.put (a := (9, u, p)) (e := .inr (7, [.int (nI p), rf g (10, u, p), .int (nI 0), .int (nI 0), .int (nI 0), .int (nI 0), .int (nI 0)])) d1 (by omega) (show i < NN by omega) hA List.mem_cons_self
  refine dE.done (fun j hj => ?_)
  obtain rfl := List.mem_singleton.mp hj
  refine ⟨Nat.le_refl _, ?_⟩
  rw [hA, up_eq]
  exact (iH9 hp).symm
