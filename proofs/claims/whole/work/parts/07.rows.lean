section VROWS
variable {l : Launch} {Γ : Cxt} {g : GG} {cc : ByteArray} {y : MethodName} {nL : Nat} {ret : Option FieldType} {lvl mc ms : Nat} {Q : State → Prop} {cells slots n : Nat} {PH PH1 : PHp} {pc q : Nat} {lv : List (Option Value)} {st : List Value}
theorem V.iconst {z : Int} {v : Int32} (C : Cx Γ g cc y nL ret lvl mc ms) (d : decode cc pc = .ok (.iconst z, 1)) (hq : pc + 1 = q) (hv : Int32.ofInt z = v) (k : V l Γ g nL Q cells slots n PH q lv (.int v :: st)) : V l Γ g nL Q cells slots n PH pc lv (st) := by
  obtain ⟨p, e, R, s, m, args, below, meth, c⟩ := Γ
  subst hq
  intro H locs ls hH hS hL
  exact lv_iconst C.1 C.2.1 d hv (k H locs ls hH hS hL)
theorem V.bipush {z : Int} {v : Int32} (C : Cx Γ g cc y nL ret lvl mc ms) (d : decode cc pc = .ok (.bipush z, 2)) (hq : pc + 2 = q) (hv : (Int8.ofInt z).toInt32 = v) (k : V l Γ g nL Q cells slots n PH q lv (.int v :: st)) : V l Γ g nL Q cells slots n PH pc lv (st) := by
  obtain ⟨p, e, R, s, m, args, below, meth, c⟩ := Γ
  subst hq
  intro H locs ls hH hS hL
  exact lv_bipush C.1 C.2.1 d hv (k H locs ls hH hS hL)
theorem V.sipush {z : Int} {v : Int32} (C : Cx Γ g cc y nL ret lvl mc ms) (d : decode cc pc = .ok (.sipush z, 3)) (hq : pc + 3 = q) (hv : (Int16.ofInt z).toInt32 = v) (k : V l Γ g nL Q cells slots n PH q lv (.int v :: st)) : V l Γ g nL Q cells slots n PH pc lv (st) := by
  obtain ⟨p, e, R, s, m, args, below, meth, c⟩ := Γ
  subst hq
  intro H locs ls hH hS hL
  exact lv_sipush C.1 C.2.1 d hv (k H locs ls hH hS hL)
theorem V.lconst {z : Fin 2} {v : Int64} (C : Cx Γ g cc y nL ret lvl mc ms) (d : decode cc pc = .ok (.lconst z, 1)) (hq : pc + 1 = q) (hv : Int64.ofNat (z : Nat) = v) (k : V l Γ g nL Q cells slots n PH q lv (.long v :: st)) : V l Γ g nL Q cells slots n PH pc lv (st) := by
  obtain ⟨p, e, R, s, m, args, below, meth, c⟩ := Γ
  subst hq
  intro H locs ls hH hS hL
  exact lv_lconst C.1 C.2.1 d hv (k H locs ls hH hS hL)
theorem V.iload_n {k : Fin 4} {x : Int32} (C : Cx Γ g cc y nL ret lvl mc ms) (d : decode cc pc = .ok (.iload_n k, 1)) (hq : pc + 1 = q) (h : lv[(k : Nat)]? = some (some (.int x))) (kk : V l Γ g nL Q cells slots n PH q lv (.int x :: st)) : V l Γ g nL Q cells slots n PH pc lv (st) := by
  obtain ⟨p, e, R, s, m, args, below, meth, c⟩ := Γ
  subst hq
  intro H locs ls hH hS hL
  exact lv_iload_n C.1 C.2.1 d rfl (hL.get h) (kk H locs ls hH hS hL)
theorem V.iload {i : Nat} {x : Int32} (C : Cx Γ g cc y nL ret lvl mc ms) (d : decode cc pc = .ok (.iload i, 2)) (hq : pc + 2 = q) (h : lv[i]? = some (some (.int x))) (kk : V l Γ g nL Q cells slots n PH q lv (.int x :: st)) : V l Γ g nL Q cells slots n PH pc lv (st) := by
  obtain ⟨p, e, R, s, m, args, below, meth, c⟩ := Γ
  subst hq
  intro H locs ls hH hS hL
  exact lv_iload C.1 C.2.1 d (hL.get h) (kk H locs ls hH hS hL)
theorem V.lload_n {k : Fin 4} {x : Int64} (C : Cx Γ g cc y nL ret lvl mc ms) (d : decode cc pc = .ok (.lload_n k, 1)) (hq : pc + 1 = q) (h : lv[(k : Nat)]? = some (some (.long x))) (kk : V l Γ g nL Q cells slots n PH q lv (.long x :: st)) : V l Γ g nL Q cells slots n PH pc lv (st) := by
  obtain ⟨p, e, R, s, m, args, below, meth, c⟩ := Γ
  subst hq
  intro H locs ls hH hS hL
  exact lv_lload_n C.1 C.2.1 d rfl (hL.get h) (kk H locs ls hH hS hL)
theorem V.lload {i : Nat} {x : Int64} (C : Cx Γ g cc y nL ret lvl mc ms) (d : decode cc pc = .ok (.lload i, 2)) (hq : pc + 2 = q) (h : lv[i]? = some (some (.long x))) (kk : V l Γ g nL Q cells slots n PH q lv (.long x :: st)) : V l Γ g nL Q cells slots n PH pc lv (st) := by
  obtain ⟨p, e, R, s, m, args, below, meth, c⟩ := Γ
  subst hq
  intro H locs ls hH hS hL
  exact lv_lload C.1 C.2.1 d (hL.get h) (kk H locs ls hH hS hL)
theorem V.aload_n {k : Fin 4} {x : VA} (C : Cx Γ g cc y nL ret lvl mc ms) (d : decode cc pc = .ok (.aload_n k, 1)) (hq : pc + 1 = q) (h : lv[(k : Nat)]? = some (some (rf g x))) (kk : V l Γ g nL Q cells slots n PH q lv (rf g x :: st)) : V l Γ g nL Q cells slots n PH pc lv (st) := by
  obtain ⟨p, e, R, s, m, args, below, meth, c⟩ := Γ
  subst hq
  intro H locs ls hH hS hL
  exact lv_aload_n C.1 C.2.1 d rfl (hL.get h) (kk H locs ls hH hS hL)
theorem V.aload_nR {k : Fin 4} {x : Nat} (C : Cx Γ g cc y nL ret lvl mc ms) (d : decode cc pc = .ok (.aload_n k, 1)) (hq : pc + 1 = q) (h : lv[(k : Nat)]? = some (some (.ref x))) (kk : V l Γ g nL Q cells slots n PH q lv (.ref x :: st)) : V l Γ g nL Q cells slots n PH pc lv (st) := by
  obtain ⟨p, e, R, s, m, args, below, meth, c⟩ := Γ
  subst hq
  intro H locs ls hH hS hL
  exact lv_aload_n C.1 C.2.1 d rfl (hL.get h) (kk H locs ls hH hS hL)
theorem V.aload {i : Nat} {x : VA} (C : Cx Γ g cc y nL ret lvl mc ms) (d : decode cc pc = .ok (.aload i, 2)) (hq : pc + 2 = q) (h : lv[i]? = some (some (rf g x))) (kk : V l Γ g nL Q cells slots n PH q lv (rf g x :: st)) : V l Γ g nL Q cells slots n PH pc lv (st) := by
  obtain ⟨p, e, R, s, m, args, below, meth, c⟩ := Γ
  subst hq
  intro H locs ls hH hS hL
  exact lv_aload C.1 C.2.1 d (hL.get h) (kk H locs ls hH hS hL)
theorem V.aloadR {i : Nat} {x : Nat} (C : Cx Γ g cc y nL ret lvl mc ms) (d : decode cc pc = .ok (.aload i, 2)) (hq : pc + 2 = q) (h : lv[i]? = some (some (.ref x))) (kk : V l Γ g nL Q cells slots n PH q lv (.ref x :: st)) : V l Γ g nL Q cells slots n PH pc lv (st) := by
  obtain ⟨p, e, R, s, m, args, below, meth, c⟩ := Γ
  subst hq
  intro H locs ls hH hS hL
  exact lv_aload C.1 C.2.1 d (hL.get h) (kk H locs ls hH hS hL)
theorem V.istore_n {k : Fin 4} {x : Int32} {lv1 : List (Option Value)} (C : Cx Γ g cc y nL ret lvl mc ms) (d : decode cc pc = .ok (.istore_n k, 1)) (hq : pc + 1 = q) (hi : (k : Nat) < nL) (h2 : c2 lv (k : Nat) = true) (hs : lv.set (k : Nat) (some (.int x)) = lv1) (kk : V l Γ g nL Q cells slots n PH q lv1 (st)) : V l Γ g nL Q cells slots n PH pc lv (.int x :: st) := by
  subst hs
  obtain ⟨p, e, R, s, m, args, below, meth, c⟩ := Γ
  subst hq
  intro H locs ls hH hS hL
  exact lv_istore_n C.1 C.2.1 d rfl hL hi rfl (fun ls1 h => kk H locs ls1 hH hS (LV.set1 h2 h))
theorem V.istore {i : Nat} {x : Int32} {lv1 : List (Option Value)} (C : Cx Γ g cc y nL ret lvl mc ms) (d : decode cc pc = .ok (.istore i, 2)) (hq : pc + 2 = q) (hi : i < nL) (h2 : c2 lv i = true) (hs : lv.set i (some (.int x)) = lv1) (kk : V l Γ g nL Q cells slots n PH q lv1 (st)) : V l Γ g nL Q cells slots n PH pc lv (.int x :: st) := by
  subst hs
  obtain ⟨p, e, R, s, m, args, below, meth, c⟩ := Γ
  subst hq
  intro H locs ls hH hS hL
  exact lv_istore C.1 C.2.1 d hL hi rfl (fun ls1 h => kk H locs ls1 hH hS (LV.set1 h2 h))
theorem V.astore_n {k : Fin 4} {x : VA} {lv1 : List (Option Value)} (C : Cx Γ g cc y nL ret lvl mc ms) (d : decode cc pc = .ok (.astore_n k, 1)) (hq : pc + 1 = q) (hi : (k : Nat) < nL) (h2 : c2 lv (k : Nat) = true) (hs : lv.set (k : Nat) (some (rf g x)) = lv1) (kk : V l Γ g nL Q cells slots n PH q lv1 (st)) : V l Γ g nL Q cells slots n PH pc lv (rf g x :: st) := by
  subst hs
  obtain ⟨p, e, R, s, m, args, below, meth, c⟩ := Γ
  subst hq
  intro H locs ls hH hS hL
  exact lv_astore_n C.1 C.2.1 d rfl hL hi rfl (fun ls1 h => kk H locs ls1 hH hS (LV.set1 h2 h))
theorem V.astore {i : Nat} {x : VA} {lv1 : List (Option Value)} (C : Cx Γ g cc y nL ret lvl mc ms) (d : decode cc pc = .ok (.astore i, 2)) (hq : pc + 2 = q) (hi : i < nL) (h2 : c2 lv i = true) (hs : lv.set i (some (rf g x)) = lv1) (kk : V l Γ g nL Q cells slots n PH q lv1 (st)) : V l Γ g nL Q cells slots n PH pc lv (rf g x :: st) := by
  subst hs
  obtain ⟨p, e, R, s, m, args, below, meth, c⟩ := Γ
  subst hq
  intro H locs ls hH hS hL
  exact lv_astore C.1 C.2.1 d hL hi rfl (fun ls1 h => kk H locs ls1 hH hS (LV.set1 h2 h))
theorem V.lstore_n {k : Fin 4} {x : Int64} {lv1 : List (Option Value)} (C : Cx Γ g cc y nL ret lvl mc ms) (d : decode cc pc = .ok (.lstore_n k, 1)) (hq : pc + 1 = q) (hi : (k : Nat) + 1 < nL) (h2 : c2 lv (k : Nat) = true) (hs : (lv.set (k : Nat) (some (.long x))).set ((k : Nat) + 1) none = lv1) (kk : V l Γ g nL Q cells slots n PH q lv1 (st)) : V l Γ g nL Q cells slots n PH pc lv (.long x :: st) := by
  subst hs
  obtain ⟨p, e, R, s, m, args, below, meth, c⟩ := Γ
  subst hq
  intro H locs ls hH hS hL
  exact lv_lstore_n C.1 C.2.1 d rfl hL hi rfl (fun ls1 h => kk H locs ls1 hH hS (LV.set2 h2 h))
theorem V.lstore {i : Nat} {x : Int64} {lv1 : List (Option Value)} (C : Cx Γ g cc y nL ret lvl mc ms) (d : decode cc pc = .ok (.lstore i, 2)) (hq : pc + 2 = q) (hi : i + 1 < nL) (h2 : c2 lv i = true) (hs : (lv.set i (some (.long x))).set (i + 1) none = lv1) (kk : V l Γ g nL Q cells slots n PH q lv1 (st)) : V l Γ g nL Q cells slots n PH pc lv (.long x :: st) := by
  subst hs
  obtain ⟨p, e, R, s, m, args, below, meth, c⟩ := Γ
  subst hq
  intro H locs ls hH hS hL
  exact lv_lstore C.1 C.2.1 d hL hi rfl (fun ls1 h => kk H locs ls1 hH hS (LV.set2 h2 h))
theorem lvL_at {lv : List (Option Value)} {i : Nat} {v : Value} (h : lv[i]? = some (some v)) : ∃ k : Nat, (lvL 0 lv)[k]? = some (i, v) := List.getElem?_of_mem ((lvL_mem lv 0 i v).mpr ⟨Nat.zero_le i, h⟩)
theorem V.iinc {i : Nat} {z : Int} {x v : Int32} {lv1 : List (Option Value)} (C : Cx Γ g cc y nL ret lvl mc ms) (d : decode cc pc = .ok (.iinc i z, 3)) (hq : pc + 3 = q) (h : lv[i]? = some (some (.int x))) (hv : x + Int32.ofInt z = v) (hi : i < nL) (h2 : c2 lv i = true) (hs : lv.set i (some (.int v)) = lv1) (kk : V l Γ g nL Q cells slots n PH q lv1 (st)) : V l Γ g nL Q cells slots n PH pc lv (st) := by
  subst hs
  obtain ⟨p, e, R, s, m, args, below, meth, c⟩ := Γ
  subst hq
  intro H locs ls hH hS hL
  obtain ⟨k0, hk0⟩ := lvL_at h
  exact lv_iinc C.1 C.2.1 d hL hk0 hv hi rfl (fun ls1 h => kk H locs ls1 hH hS (LV.set1 h2 h))
theorem V.iadd {x z : Int32} (C : Cx Γ g cc y nL ret lvl mc ms) (d : decode cc pc = .ok (.iadd, 1)) (hq : pc + 1 = q)  (k : V l Γ g nL Q cells slots n PH q lv (.int (x + z) :: st)) : V l Γ g nL Q cells slots n PH pc lv (.int z :: .int x :: st) := by
  obtain ⟨p, e, R, s, m, args, below, meth, c⟩ := Γ
  subst hq
  intro H locs ls hH hS hL
  exact lv_iadd C.1 C.2.1 d  (k H locs ls hH hS hL)
theorem V.isub {x z : Int32} (C : Cx Γ g cc y nL ret lvl mc ms) (d : decode cc pc = .ok (.isub, 1)) (hq : pc + 1 = q)  (k : V l Γ g nL Q cells slots n PH q lv (.int (x - z) :: st)) : V l Γ g nL Q cells slots n PH pc lv (.int z :: .int x :: st) := by
  obtain ⟨p, e, R, s, m, args, below, meth, c⟩ := Γ
  subst hq
  intro H locs ls hH hS hL
  exact lv_isub C.1 C.2.1 d  (k H locs ls hH hS hL)
theorem V.imul {x z : Int32} (C : Cx Γ g cc y nL ret lvl mc ms) (d : decode cc pc = .ok (.imul, 1)) (hq : pc + 1 = q)  (k : V l Γ g nL Q cells slots n PH q lv (.int (x * z) :: st)) : V l Γ g nL Q cells slots n PH pc lv (.int z :: .int x :: st) := by
  obtain ⟨p, e, R, s, m, args, below, meth, c⟩ := Γ
  subst hq
  intro H locs ls hH hS hL
  exact lv_imul C.1 C.2.1 d  (k H locs ls hH hS hL)
theorem V.iand {x z : Int32} (C : Cx Γ g cc y nL ret lvl mc ms) (d : decode cc pc = .ok (.iand, 1)) (hq : pc + 1 = q)  (k : V l Γ g nL Q cells slots n PH q lv (.int (x &&& z) :: st)) : V l Γ g nL Q cells slots n PH pc lv (.int z :: .int x :: st) := by
  obtain ⟨p, e, R, s, m, args, below, meth, c⟩ := Γ
  subst hq
  intro H locs ls hH hS hL
  exact lv_iand C.1 C.2.1 d  (k H locs ls hH hS hL)
theorem V.ior {x z : Int32} (C : Cx Γ g cc y nL ret lvl mc ms) (d : decode cc pc = .ok (.ior, 1)) (hq : pc + 1 = q)  (k : V l Γ g nL Q cells slots n PH q lv (.int (x ||| z) :: st)) : V l Γ g nL Q cells slots n PH pc lv (.int z :: .int x :: st) := by
  obtain ⟨p, e, R, s, m, args, below, meth, c⟩ := Γ
  subst hq
  intro H locs ls hH hS hL
  exact lv_ior C.1 C.2.1 d  (k H locs ls hH hS hL)
theorem V.ixor {x z : Int32} (C : Cx Γ g cc y nL ret lvl mc ms) (d : decode cc pc = .ok (.ixor, 1)) (hq : pc + 1 = q)  (k : V l Γ g nL Q cells slots n PH q lv (.int (x ^^^ z) :: st)) : V l Γ g nL Q cells slots n PH pc lv (.int z :: .int x :: st) := by
  obtain ⟨p, e, R, s, m, args, below, meth, c⟩ := Γ
  subst hq
  intro H locs ls hH hS hL
  exact lv_ixor C.1 C.2.1 d  (k H locs ls hH hS hL)
theorem V.ishl {x z : Int32} (C : Cx Γ g cc y nL ret lvl mc ms) (d : decode cc pc = .ok (.ishl, 1)) (hq : pc + 1 = q)  (k : V l Γ g nL Q cells slots n PH q lv (.int (x <<< (z &&& 31)) :: st)) : V l Γ g nL Q cells slots n PH pc lv (.int z :: .int x :: st) := by
  obtain ⟨p, e, R, s, m, args, below, meth, c⟩ := Γ
  subst hq
  intro H locs ls hH hS hL
  exact lv_ishl C.1 C.2.1 d  (k H locs ls hH hS hL)
theorem V.ishr {x z : Int32} (C : Cx Γ g cc y nL ret lvl mc ms) (d : decode cc pc = .ok (.ishr, 1)) (hq : pc + 1 = q)  (k : V l Γ g nL Q cells slots n PH q lv (.int (x >>> (z &&& 31)) :: st)) : V l Γ g nL Q cells slots n PH pc lv (.int z :: .int x :: st) := by
  obtain ⟨p, e, R, s, m, args, below, meth, c⟩ := Γ
  subst hq
  intro H locs ls hH hS hL
  exact lv_ishr C.1 C.2.1 d  (k H locs ls hH hS hL)
theorem V.idiv {x z : Int32} (C : Cx Γ g cc y nL ret lvl mc ms) (d : decode cc pc = .ok (.idiv, 1)) (hq : pc + 1 = q) (hne : ¬ z = 0) (k : V l Γ g nL Q cells slots n PH q lv (.int (x / z) :: st)) : V l Γ g nL Q cells slots n PH pc lv (.int z :: .int x :: st) := by
  obtain ⟨p, e, R, s, m, args, below, meth, c⟩ := Γ
  subst hq
  intro H locs ls hH hS hL
  exact lv_idiv C.1 C.2.1 d hne (k H locs ls hH hS hL)
theorem V.irem {x z : Int32} (C : Cx Γ g cc y nL ret lvl mc ms) (d : decode cc pc = .ok (.irem, 1)) (hq : pc + 1 = q) (hne : ¬ z = 0) (k : V l Γ g nL Q cells slots n PH q lv (.int (x - x / z * z) :: st)) : V l Γ g nL Q cells slots n PH pc lv (.int z :: .int x :: st) := by
  obtain ⟨p, e, R, s, m, args, below, meth, c⟩ := Γ
  subst hq
  intro H locs ls hH hS hL
  exact lv_irem C.1 C.2.1 d hne (k H locs ls hH hS hL)
theorem V.ineg {x : Int32} (C : Cx Γ g cc y nL ret lvl mc ms) (d : decode cc pc = .ok (.ineg, 1)) (hq : pc + 1 = q)  (k : V l Γ g nL Q cells slots n PH q lv (.int (-x) :: st)) : V l Γ g nL Q cells slots n PH pc lv (.int x :: st) := by
  obtain ⟨p, e, R, s, m, args, below, meth, c⟩ := Γ
  subst hq
  intro H locs ls hH hS hL
  exact lv_ineg C.1 C.2.1 d  (k H locs ls hH hS hL)
theorem V.ladd {x z : Int64} (C : Cx Γ g cc y nL ret lvl mc ms) (d : decode cc pc = .ok (.ladd, 1)) (hq : pc + 1 = q)  (k : V l Γ g nL Q cells slots n PH q lv (.long (x + z) :: st)) : V l Γ g nL Q cells slots n PH pc lv (.long z :: .long x :: st) := by
  obtain ⟨p, e, R, s, m, args, below, meth, c⟩ := Γ
  subst hq
  intro H locs ls hH hS hL
  exact lv_ladd C.1 C.2.1 d  (k H locs ls hH hS hL)
theorem V.land {x z : Int64} (C : Cx Γ g cc y nL ret lvl mc ms) (d : decode cc pc = .ok (.land, 1)) (hq : pc + 1 = q)  (k : V l Γ g nL Q cells slots n PH q lv (.long (x &&& z) :: st)) : V l Γ g nL Q cells slots n PH pc lv (.long z :: .long x :: st) := by
  obtain ⟨p, e, R, s, m, args, below, meth, c⟩ := Γ
  subst hq
  intro H locs ls hH hS hL
  exact lv_land C.1 C.2.1 d  (k H locs ls hH hS hL)
theorem V.lor {x z : Int64} (C : Cx Γ g cc y nL ret lvl mc ms) (d : decode cc pc = .ok (.lor, 1)) (hq : pc + 1 = q)  (k : V l Γ g nL Q cells slots n PH q lv (.long (x ||| z) :: st)) : V l Γ g nL Q cells slots n PH pc lv (.long z :: .long x :: st) := by
  obtain ⟨p, e, R, s, m, args, below, meth, c⟩ := Γ
  subst hq
  intro H locs ls hH hS hL
  exact lv_lor C.1 C.2.1 d  (k H locs ls hH hS hL)
theorem V.ldiv {x z : Int64} (C : Cx Γ g cc y nL ret lvl mc ms) (d : decode cc pc = .ok (.ldiv, 1)) (hq : pc + 1 = q) (hne : ¬ z = 0) (k : V l Γ g nL Q cells slots n PH q lv (.long (x / z) :: st)) : V l Γ g nL Q cells slots n PH pc lv (.long z :: .long x :: st) := by
  obtain ⟨p, e, R, s, m, args, below, meth, c⟩ := Γ
  subst hq
  intro H locs ls hH hS hL
  exact lv_ldiv C.1 C.2.1 d hne (k H locs ls hH hS hL)
theorem V.lrem {x z : Int64} (C : Cx Γ g cc y nL ret lvl mc ms) (d : decode cc pc = .ok (.lrem, 1)) (hq : pc + 1 = q) (hne : ¬ z = 0) (k : V l Γ g nL Q cells slots n PH q lv (.long (x - x / z * z) :: st)) : V l Γ g nL Q cells slots n PH pc lv (.long z :: .long x :: st) := by
  obtain ⟨p, e, R, s, m, args, below, meth, c⟩ := Γ
  subst hq
  intro H locs ls hH hS hL
  exact lv_lrem C.1 C.2.1 d hne (k H locs ls hH hS hL)
theorem V.lshl {x v : Int64} {z : Int32} (C : Cx Γ g cc y nL ret lvl mc ms) (d : decode cc pc = .ok (.lshl, 1)) (hq : pc + 1 = q) (hv : x <<< (z.toInt64 &&& 63) = v) (k : V l Γ g nL Q cells slots n PH q lv (.long v :: st)) : V l Γ g nL Q cells slots n PH pc lv (.int z :: .long x :: st) := by
  obtain ⟨p, e, R, s, m, args, below, meth, c⟩ := Γ
  subst hq
  intro H locs ls hH hS hL
  exact lv_lshl C.1 C.2.1 d hv (k H locs ls hH hS hL)
theorem V.i2l {x : Int32} {v : Int64} (C : Cx Γ g cc y nL ret lvl mc ms) (d : decode cc pc = .ok (.i2l, 1)) (hq : pc + 1 = q) (hv : x.toInt64 = v) (k : V l Γ g nL Q cells slots n PH q lv (.long v :: st)) : V l Γ g nL Q cells slots n PH pc lv (.int x :: st) := by
  obtain ⟨p, e, R, s, m, args, below, meth, c⟩ := Γ
  subst hq
  intro H locs ls hH hS hL
  exact lv_i2l C.1 C.2.1 d hv (k H locs ls hH hS hL)
theorem V.l2i {x : Int64} {v : Int32} (C : Cx Γ g cc y nL ret lvl mc ms) (d : decode cc pc = .ok (.l2i, 1)) (hq : pc + 1 = q) (hv : x.toInt32 = v) (k : V l Γ g nL Q cells slots n PH q lv (.int v :: st)) : V l Γ g nL Q cells slots n PH pc lv (.long x :: st) := by
  obtain ⟨p, e, R, s, m, args, below, meth, c⟩ := Γ
  subst hq
  intro H locs ls hH hS hL
  exact lv_l2i C.1 C.2.1 d hv (k H locs ls hH hS hL)
theorem V.i2b {x v : Int32} (C : Cx Γ g cc y nL ret lvl mc ms) (d : decode cc pc = .ok (.i2b, 1)) (hq : pc + 1 = q) (hv : x.toInt8.toInt32 = v) (k : V l Γ g nL Q cells slots n PH q lv (.int v :: st)) : V l Γ g nL Q cells slots n PH pc lv (.int x :: st) := by
  obtain ⟨p, e, R, s, m, args, below, meth, c⟩ := Γ
  subst hq
  intro H locs ls hH hS hL
  exact lv_i2b C.1 C.2.1 d hv (k H locs ls hH hS hL)
theorem V.i2s {x v : Int32} (C : Cx Γ g cc y nL ret lvl mc ms) (d : decode cc pc = .ok (.i2s, 1)) (hq : pc + 1 = q) (hv : x.toInt16.toInt32 = v) (k : V l Γ g nL Q cells slots n PH q lv (.int v :: st)) : V l Γ g nL Q cells slots n PH pc lv (.int x :: st) := by
  obtain ⟨p, e, R, s, m, args, below, meth, c⟩ := Γ
  subst hq
  intro H locs ls hH hS hL
  exact lv_i2s C.1 C.2.1 d hv (k H locs ls hH hS hL)
theorem V.dup {v : Value} (C : Cx Γ g cc y nL ret lvl mc ms) (d : decode cc pc = .ok (.dup, 1)) (hq : pc + 1 = q) (hc : v.category = 1) (k : V l Γ g nL Q cells slots n PH q lv (v :: v :: st)) : V l Γ g nL Q cells slots n PH pc lv (v :: st) := by
  obtain ⟨p, e, R, s, m, args, below, meth, c⟩ := Γ
  subst hq
  intro H locs ls hH hS hL
  exact lv_dup C.1 C.2.1 d hc (k H locs ls hH hS hL)
theorem V.pop {v : Value} (C : Cx Γ g cc y nL ret lvl mc ms) (d : decode cc pc = .ok (.pop, 1)) (hq : pc + 1 = q) (hc : v.category = 1) (k : V l Γ g nL Q cells slots n PH q lv (st)) : V l Γ g nL Q cells slots n PH pc lv (v :: st) := by
  obtain ⟨p, e, R, s, m, args, below, meth, c⟩ := Γ
  subst hq
  intro H locs ls hH hS hL
  exact lv_pop C.1 C.2.1 d hc (k H locs ls hH hS hL)
theorem V.dup2 {v u : Value} (C : Cx Γ g cc y nL ret lvl mc ms) (d : decode cc pc = .ok (.dup2, 1)) (hq : pc + 1 = q) (hc : v.category = 1) (hc2 : u.category = 1) (k : V l Γ g nL Q cells slots n PH q lv (v :: u :: v :: u :: st)) : V l Γ g nL Q cells slots n PH pc lv (v :: u :: st) := by
  obtain ⟨p, e, R, s, m, args, below, meth, c⟩ := Γ
  subst hq
  intro H locs ls hH hS hL
  exact lv_dup2_11 C.1 C.2.1 d hc hc2 (k H locs ls hH hS hL)
theorem V.lcmp {x z : Int64} (C : Cx Γ g cc y nL ret lvl mc ms) (d : decode cc pc = .ok (.lcmp, 1)) (hq : pc + 1 = q) (k : V l Γ g nL Q cells slots n PH q lv (.int (lg_cmp x z) :: st)) : V l Γ g nL Q cells slots n PH pc lv (.long z :: .long x :: st) := by
  obtain ⟨p, e, R, s, m, args, below, meth, c⟩ := Γ
  subst hq
  intro H locs ls hH hS hL
  exact W.lcmp C.1 C.2.1 d (k H locs ls hH hS hL)
theorem V.icmp_eq {x z : Int32} {off : Int} {tgt : Nat} (C : Cx Γ g cc y nL ret lvl mc ms) (d : decode cc pc = .ok (.if_icmp .eq off, 3)) (hq : pc + 3 = q) (ht : (pc : Int) + off = (tgt : Int)) (kt : x = z → V l Γ g nL Q cells slots n PH tgt lv (st)) (kf : ¬ (x = z) → V l Γ g nL Q cells slots n PH q lv (st)) : V l Γ g nL Q cells slots n PH pc lv (.int z :: .int x :: st) := by
  obtain ⟨p, e, R, s, m, args, below, meth, c⟩ := Γ
  subst hq
  intro H locs ls hH hS hL
  exact lv_icmp_eq C.1 C.2.1 d ht (fun h => kt h H locs ls hH hS hL) (fun h => kf h H locs ls hH hS hL)
theorem V.icmp_ne {x z : Int32} {off : Int} {tgt : Nat} (C : Cx Γ g cc y nL ret lvl mc ms) (d : decode cc pc = .ok (.if_icmp .ne off, 3)) (hq : pc + 3 = q) (ht : (pc : Int) + off = (tgt : Int)) (kt : ¬ x = z → V l Γ g nL Q cells slots n PH tgt lv (st)) (kf : x = z → V l Γ g nL Q cells slots n PH q lv (st)) : V l Γ g nL Q cells slots n PH pc lv (.int z :: .int x :: st) := by
  obtain ⟨p, e, R, s, m, args, below, meth, c⟩ := Γ
  subst hq
  intro H locs ls hH hS hL
  exact lv_icmp_ne C.1 C.2.1 d ht (fun h => kt h H locs ls hH hS hL) (fun h => kf h H locs ls hH hS hL)
theorem V.icmp_lt {x z : Int32} {off : Int} {tgt : Nat} (C : Cx Γ g cc y nL ret lvl mc ms) (d : decode cc pc = .ok (.if_icmp .lt off, 3)) (hq : pc + 3 = q) (ht : (pc : Int) + off = (tgt : Int)) (kt : x < z → V l Γ g nL Q cells slots n PH tgt lv (st)) (kf : ¬ (x < z) → V l Γ g nL Q cells slots n PH q lv (st)) : V l Γ g nL Q cells slots n PH pc lv (.int z :: .int x :: st) := by
  obtain ⟨p, e, R, s, m, args, below, meth, c⟩ := Γ
  subst hq
  intro H locs ls hH hS hL
  exact lv_icmp_lt C.1 C.2.1 d ht (fun h => kt h H locs ls hH hS hL) (fun h => kf h H locs ls hH hS hL)
theorem V.icmp_ge {x z : Int32} {off : Int} {tgt : Nat} (C : Cx Γ g cc y nL ret lvl mc ms) (d : decode cc pc = .ok (.if_icmp .ge off, 3)) (hq : pc + 3 = q) (ht : (pc : Int) + off = (tgt : Int)) (kt : z ≤ x → V l Γ g nL Q cells slots n PH tgt lv (st)) (kf : ¬ (z ≤ x) → V l Γ g nL Q cells slots n PH q lv (st)) : V l Γ g nL Q cells slots n PH pc lv (.int z :: .int x :: st) := by
  obtain ⟨p, e, R, s, m, args, below, meth, c⟩ := Γ
  subst hq
  intro H locs ls hH hS hL
  exact lv_icmp_ge C.1 C.2.1 d ht (fun h => kt h H locs ls hH hS hL) (fun h => kf h H locs ls hH hS hL)
theorem V.icmp_gt {x z : Int32} {off : Int} {tgt : Nat} (C : Cx Γ g cc y nL ret lvl mc ms) (d : decode cc pc = .ok (.if_icmp .gt off, 3)) (hq : pc + 3 = q) (ht : (pc : Int) + off = (tgt : Int)) (kt : z < x → V l Γ g nL Q cells slots n PH tgt lv (st)) (kf : ¬ (z < x) → V l Γ g nL Q cells slots n PH q lv (st)) : V l Γ g nL Q cells slots n PH pc lv (.int z :: .int x :: st) := by
  obtain ⟨p, e, R, s, m, args, below, meth, c⟩ := Γ
  subst hq
  intro H locs ls hH hS hL
  exact lv_icmp_gt C.1 C.2.1 d ht (fun h => kt h H locs ls hH hS hL) (fun h => kf h H locs ls hH hS hL)
theorem V.icmp_le {x z : Int32} {off : Int} {tgt : Nat} (C : Cx Γ g cc y nL ret lvl mc ms) (d : decode cc pc = .ok (.if_icmp .le off, 3)) (hq : pc + 3 = q) (ht : (pc : Int) + off = (tgt : Int)) (kt : x ≤ z → V l Γ g nL Q cells slots n PH tgt lv (st)) (kf : ¬ (x ≤ z) → V l Γ g nL Q cells slots n PH q lv (st)) : V l Γ g nL Q cells slots n PH pc lv (.int z :: .int x :: st) := by
  obtain ⟨p, e, R, s, m, args, below, meth, c⟩ := Γ
  subst hq
  intro H locs ls hH hS hL
  exact lv_icmp_le C.1 C.2.1 d ht (fun h => kt h H locs ls hH hS hL) (fun h => kf h H locs ls hH hS hL)
theorem V.if_eq {x : Int32} {off : Int} {tgt : Nat} (C : Cx Γ g cc y nL ret lvl mc ms) (d : decode cc pc = .ok (.ifCond .eq off, 3)) (hq : pc + 3 = q) (ht : (pc : Int) + off = (tgt : Int)) (kt : x = 0 → V l Γ g nL Q cells slots n PH tgt lv (st)) (kf : ¬ (x = 0) → V l Γ g nL Q cells slots n PH q lv (st)) : V l Γ g nL Q cells slots n PH pc lv (.int x :: st) := by
  obtain ⟨p, e, R, s, m, args, below, meth, c⟩ := Γ
  subst hq
  intro H locs ls hH hS hL
  exact lv_if_eq C.1 C.2.1 d ht (fun h => kt h H locs ls hH hS hL) (fun h => kf h H locs ls hH hS hL)
theorem V.if_ne {x : Int32} {off : Int} {tgt : Nat} (C : Cx Γ g cc y nL ret lvl mc ms) (d : decode cc pc = .ok (.ifCond .ne off, 3)) (hq : pc + 3 = q) (ht : (pc : Int) + off = (tgt : Int)) (kt : ¬ x = 0 → V l Γ g nL Q cells slots n PH tgt lv (st)) (kf : x = 0 → V l Γ g nL Q cells slots n PH q lv (st)) : V l Γ g nL Q cells slots n PH pc lv (.int x :: st) := by
  obtain ⟨p, e, R, s, m, args, below, meth, c⟩ := Γ
  subst hq
  intro H locs ls hH hS hL
  exact lv_if_ne C.1 C.2.1 d ht (fun h => kt h H locs ls hH hS hL) (fun h => kf h H locs ls hH hS hL)
theorem V.if_lt {x : Int32} {off : Int} {tgt : Nat} (C : Cx Γ g cc y nL ret lvl mc ms) (d : decode cc pc = .ok (.ifCond .lt off, 3)) (hq : pc + 3 = q) (ht : (pc : Int) + off = (tgt : Int)) (kt : x < 0 → V l Γ g nL Q cells slots n PH tgt lv (st)) (kf : ¬ (x < 0) → V l Γ g nL Q cells slots n PH q lv (st)) : V l Γ g nL Q cells slots n PH pc lv (.int x :: st) := by
  obtain ⟨p, e, R, s, m, args, below, meth, c⟩ := Γ
  subst hq
  intro H locs ls hH hS hL
  exact lv_if_lt C.1 C.2.1 d ht (fun h => kt h H locs ls hH hS hL) (fun h => kf h H locs ls hH hS hL)
theorem V.if_ge {x : Int32} {off : Int} {tgt : Nat} (C : Cx Γ g cc y nL ret lvl mc ms) (d : decode cc pc = .ok (.ifCond .ge off, 3)) (hq : pc + 3 = q) (ht : (pc : Int) + off = (tgt : Int)) (kt : 0 ≤ x → V l Γ g nL Q cells slots n PH tgt lv (st)) (kf : ¬ (0 ≤ x) → V l Γ g nL Q cells slots n PH q lv (st)) : V l Γ g nL Q cells slots n PH pc lv (.int x :: st) := by
  obtain ⟨p, e, R, s, m, args, below, meth, c⟩ := Γ
  subst hq
  intro H locs ls hH hS hL
  exact lv_if_ge C.1 C.2.1 d ht (fun h => kt h H locs ls hH hS hL) (fun h => kf h H locs ls hH hS hL)
theorem V.if_gt {x : Int32} {off : Int} {tgt : Nat} (C : Cx Γ g cc y nL ret lvl mc ms) (d : decode cc pc = .ok (.ifCond .gt off, 3)) (hq : pc + 3 = q) (ht : (pc : Int) + off = (tgt : Int)) (kt : 0 < x → V l Γ g nL Q cells slots n PH tgt lv (st)) (kf : ¬ (0 < x) → V l Γ g nL Q cells slots n PH q lv (st)) : V l Γ g nL Q cells slots n PH pc lv (.int x :: st) := by
  obtain ⟨p, e, R, s, m, args, below, meth, c⟩ := Γ
  subst hq
  intro H locs ls hH hS hL
  exact lv_if_gt C.1 C.2.1 d ht (fun h => kt h H locs ls hH hS hL) (fun h => kf h H locs ls hH hS hL)
theorem V.if_le {x : Int32} {off : Int} {tgt : Nat} (C : Cx Γ g cc y nL ret lvl mc ms) (d : decode cc pc = .ok (.ifCond .le off, 3)) (hq : pc + 3 = q) (ht : (pc : Int) + off = (tgt : Int)) (kt : x ≤ 0 → V l Γ g nL Q cells slots n PH tgt lv (st)) (kf : ¬ (x ≤ 0) → V l Γ g nL Q cells slots n PH q lv (st)) : V l Γ g nL Q cells slots n PH pc lv (.int x :: st) := by
  obtain ⟨p, e, R, s, m, args, below, meth, c⟩ := Γ
  subst hq
  intro H locs ls hH hS hL
  exact lv_if_le C.1 C.2.1 d ht (fun h => kt h H locs ls hH hS hL) (fun h => kf h H locs ls hH hS hL)
theorem V.goto {off : Int} {tgt : Nat} (C : Cx Γ g cc y nL ret lvl mc ms) (d : decode cc pc = .ok (.goto off, 3)) (ht : (pc : Int) + off = (tgt : Int)) (k : V l Γ g nL Q cells slots n PH tgt lv (st)) : V l Γ g nL Q cells slots n PH pc lv (st) := by
  obtain ⟨p, e, R, s, m, args, below, meth, c⟩ := Γ
  intro H locs ls hH hS hL
  exact lv_goto C.1 C.2.1 d ht (k H locs ls hH hS hL)
theorem V.tableIn {dflt lo hi : Int} {offs : Array Int} {len : Nat} {x : Int32} {off : Int} {tgt : Nat} (C : Cx Γ g cc y nL ret lvl mc ms) (d : decode cc pc = .ok (.tableswitch dflt lo hi offs, len)) (h1 : ¬ x.toInt < lo) (h2 : ¬ hi < x.toInt) (ho : offs[(x.toInt - lo).toNat]? = some off) (ht : (pc : Int) + off = (tgt : Int)) (k : V l Γ g nL Q cells slots n PH tgt lv (st)) : V l Γ g nL Q cells slots n PH pc lv (.int x :: st) := by
  obtain ⟨p, e, R, s, m, args, below, meth, c⟩ := Γ
  intro H locs ls hH hS hL
  exact lv_tableIn C.1 C.2.1 d h1 h2 ho ht (k H locs ls hH hS hL)
theorem V.tableOut {dflt lo hi : Int} {offs : Array Int} {len : Nat} {x : Int32} {tgt : Nat} (C : Cx Γ g cc y nL ret lvl mc ms) (d : decode cc pc = .ok (.tableswitch dflt lo hi offs, len)) (h : x.toInt < lo ∨ hi < x.toInt) (ht : (pc : Int) + dflt = (tgt : Int)) (k : V l Γ g nL Q cells slots n PH tgt lv (st)) : V l Γ g nL Q cells slots n PH pc lv (.int x :: st) := by
  obtain ⟨p, e, R, s, m, args, below, meth, c⟩ := Γ
  intro H locs ls hH hS hL
  exact lv_tableOut C.1 C.2.1 d h ht (k H locs ls hH hS hL)
theorem V.lookup {dflt : Int} {ps : Array (Int × Int)} {len : Nat} {x : Int32} {off : Int} {tgt : Nat} (C : Cx Γ g cc y nL ret lvl mc ms) (d : decode cc pc = .ok (.lookupswitch dflt ps, len)) (hp : (ps.toList.zip (ps.toList.drop 1)).all (fun (a, next) => a.1 < next.1) = true) (ho : Op.lookupswitch.offset ps.toList dflt x.toInt = off) (ht : (pc : Int) + off = (tgt : Int)) (k : V l Γ g nL Q cells slots n PH tgt lv (st)) : V l Γ g nL Q cells slots n PH pc lv (.int x :: st) := by
  obtain ⟨p, e, R, s, m, args, below, meth, c⟩ := Γ
  intro H locs ls hH hS hL
  exact lv_lookup C.1 C.2.1 d hp ho ht (k H locs ls hH hS hL)
theorem V.stk {st1 : List Value} (h : st = st1) (k : V l Γ g nL Q cells slots n PH pc lv (st1)) : V l Γ g nL Q cells slots n PH pc lv (st) := h ▸ k
theorem V.loc {lv1 : List (Option Value)} (h : lv = lv1) (k : V l Γ g nL Q cells slots n PH pc lv1 (st)) : V l Γ g nL Q cells slots n PH pc lv (st) := h ▸ k
theorem V.ph (h : PH = PH1) (k : V l Γ g nL Q cells slots n PH1 pc lv (st)) : V l Γ g nL Q cells slots n PH pc lv (st) := h ▸ k
theorem V.topi {x x1 : Int32} (h : x = x1) (k : V l Γ g nL Q cells slots n PH pc lv (.int x1 :: st)) : V l Γ g nL Q cells slots n PH pc lv (.int x :: st) := h ▸ k
theorem V.topi2 {v : Value} {x x1 : Int32} (h : x = x1) (k : V l Γ g nL Q cells slots n PH pc lv (v :: .int x1 :: st)) : V l Γ g nL Q cells slots n PH pc lv (v :: .int x :: st) := h ▸ k
theorem V.topl {x x1 : Int64} (h : x = x1) (k : V l Γ g nL Q cells slots n PH pc lv (.long x1 :: st)) : V l Γ g nL Q cells slots n PH pc lv (.long x :: st) := h ▸ k
theorem V.ldc {i : Nat} {v : Int32} (C : Cx Γ g cc y nL ret lvl mc ms) (hw : Cond.constant y.cls i v ∈ gws) (d : decode cc pc = .ok (.ldc i, 2)) (hq : pc + 2 = q) (k : V l Γ g nL Q cells slots n PH q lv (.int v :: st)) : V l Γ g nL Q cells slots n PH pc lv (st) := by
  obtain ⟨p, e, R, s, m, args, below, meth, c⟩ := Γ
  subst hq
  intro H locs ls hH hS hL
  exact lv_ldc C.1 C.2.1 C.2.2.2.1 (C.2.2.2.2.1 _ hw) d (k H locs ls hH hS hL)
theorem V.ldc2 {i : Nat} {v : Int64} (C : Cx Γ g cc y nL ret lvl mc ms) (hw : Cond.constantLong y.cls i v ∈ gws) (d : decode cc pc = .ok (.ldc2_w i, 3)) (hq : pc + 3 = q) (k : V l Γ g nL Q cells slots n PH q lv (.long v :: st)) : V l Γ g nL Q cells slots n PH pc lv (st) := by
  obtain ⟨p, e, R, s, m, args, below, meth, c⟩ := Γ
  subst hq
  intro H locs ls hH hS hL
  exact lv_ldc2 C.1 C.2.1 C.2.2.2.1 (C.2.2.2.2.1 _ hw) d (k H locs ls hH hS hL)
/-- a field access: the class's place, the field's place, what the tables say -/
def FL (own : String) (idx ci j : Nat) (Cn : String) (T : u_T) (N : Nat) (ty : Nat → FieldType) : Prop := vwCl[ci]? = some (Cn, T, N) ∧ (∀ w ∈ u_ws Cn T N, w ∈ gws) ∧ (∀ k, k < N → parseFieldDescriptor (T k).2.2.1 = some (ty k)) ∧ (∀ a, a < N → ∀ b, b < N → a ≠ b → (T a).2.1 ≠ (T b).2.1) ∧ Cond.fieldLink own idx Cn (T j).2.1 (T j).2.2.1 ∈ gws ∧ (T j).1 = Cn ∧ j < N
theorem V.get {idx ci j N : Nat} {Cn : String} {T : u_T} {ty : Nat → FieldType} {fs : List Value} {v : Value} {a : VA}  (C : Cx Γ g cc y nL ret lvl mc ms) (F : FL y.cls idx ci j Cn T N ty) (d : decode cc pc = .ok (.getfield idx, 3)) (hq : pc + 3 = q) (ok : Ok a n) (hc : PH a = .inr (ci, fs)) (hf : fs[j]? = some v) (k : V l Γ g nL Q cells slots n PH q lv (v :: st)) : V l Γ g nL Q cells slots n PH pc lv (rf g a :: st) := by
  obtain ⟨p, e, R, s, m, args, below, meth, c⟩ := Γ
  subst hq
  intro H locs ls hH hS hL
  obtain ⟨f1, f2, f3, f4, f5, f6, f7⟩ := F
  exact va_get C.1 C.2.1 C.2.2.2.2.1 f2 C.2.2.2.1 C.2.2.2.2.2.1 hH.2 (ad a) (by rw [wl_at ok, hc]) f1 j f7 (C.2.2.2.2.1 _ f5) (fun x h => by rw [← f6]; exact h) hf d (k H locs ls hH hS hL)
theorem HP.set {H H1 : Heap} {a : VA} {e : va_E} (ok : Ok a n) (hH : HP g PH n H) (hz : H1.size = H.size) (oq : ∀ q : Nat, q ≠ bG g + ad a → H1[q]? = H[q]?) (he : va_at g.1 vwCl (bG g + ad a, e) H1) (hp : up PH a e = PH1) : HP g PH1 n H1 :=
  ⟨hz.trans hH.1, by rw [← hp, ← wl_set ok]; exact va_P.set hH.2 wl_D (wl_at ok) he oq⟩
theorem HP.push {H H1 : Heap} {a : VA} {e : va_E} (hn : n < NN) (ha : vaT n = a) (hH : HP g PH n H) (hz : H1.size = H.size + 1) (oq : ∀ q : Nat, q < H.size → H1[q]? = H[q]?) (he : va_at g.1 vwCl (H.size, e) H1) (hp : up PH a e = PH1) : HP g PH1 (n + 1) H1 := by
  subst ha
  refine ⟨by rw [hz, hH.1]; omega, ?_⟩
  rw [← hp, ← wl_push hn, ← hH.1]
  refine va_P.app (hH.2.kept fun k x hx => oq x.1 ((hH.2 k x hx).lt)) (fun k x hx => ?_)
  have hz : k < 1 := (List.getElem?_eq_some_iff.mp hx).1
  rw [show k = 0 by omega] at hx
  cases hx
  exact he
theorem bG_le {a : VA} : bG g ≤ bG g + ad a := Nat.le_add_right _ _
theorem V.put {idx ci j N : Nat} {Cn : String} {T : u_T} {ty : Nat → FieldType} {fs : List Value} {v : Value} {a : VA}  (C : Cx Γ g cc y nL ret lvl mc ms) (F : FL y.cls idx ci j Cn T N ty) (hfin : (T j).2.2.2 = false) (d : decode cc pc = .ok (.putfield idx, 3)) (hq : pc + 3 = q) (ok : Ok a n) (hc : PH a = .inr (ci, fs)) (hl : j < fs.length) (hn : narrow (ty j) v = v) (hfit : fits (ty j) v = true) (hp : up PH a (.inr (ci, fs.set j v)) = PH1) (k : V l Γ g nL Q cells slots n PH1 q lv (st)) : V l Γ g nL Q cells slots n PH pc lv (v :: rf g a :: st) := by
  obtain ⟨p, e, R, s, m, args, below, meth, c⟩ := Γ
  subst hq
  intro H locs ls hH hS hL
  obtain ⟨f1, f2, f3, f4, f5, f6, f7⟩ := F
  obtain ⟨r, g1, cell, q1, q2, q3, q4⟩ := hH.2 (ad a) (bG g + ad a, .inr (ci, fs)) (by rw [wl_at ok, hc])
  have hr : r = (Cn, T, N) := Option.some.inj (g1.symm.trans f1)
  subst hr
  obtain ⟨sl, hfc, kC, hkC, hkind⟩ := C.2.2.2.2.2.1.1 ci _ f1
  obtain ⟨cf, kf, fi, f, hi, hsl⟩ := sl j f7
  have hap := va_apart (own := y.cls) C.2.2.2.2.1 f2 ty f3 f4 C.2.2.2.2.2.1 f1
  have hlay := C.2.2.2.2.1 _ (f2 _ (u_in_lay f7))
  unfold u_lay at hlay
  have hst := (u_facts hfc hkC (u_lays C.2.2.2.2.1 f2 f7) hi).1
  rw [if_neg (by rw [hfin]; decide)] at hlay
  have h6 := u_store hfc hkC hkind hlay hi (f3 j f7) hn hfit
  refine W.putK C.1 C.2.1 (f := f) ⟨C.2.2.2.1, C.2.2.2.2.1 _ f5, ⟨_, _, _, by rw [← f6]; exact hi⟩, hst⟩ (by rw [q2]; exact h6) q1 q3 (by rw [hsl]; exact k2_hasslot (q4 j f7)) rfl rfl d fun H1 e1 e2 e3 => ?_
  rw [hsl] at e1 ⊢
  exact k H1 _ ls (HP.set (e := .inr (ci, fs.set j v)) ok hH e2 e3 ⟨_, f1, t_OB.to (V := updV (vp_V fs) j v) ⟨_, e1, q2, q3, t_set q4 hap f7 v⟩ (fun i _ => vp_updV_set hl v i)⟩ hp) (hS.put e2 e3 bG_le) hL
theorem V.putF {idx ci j N : Nat} {Cn : String} {T : u_T} {ty : Nat → FieldType} {fs : List Value} {v : Value} {a : VA}  (C : Cx Γ g cc y nL ret lvl mc ms) (F : FL y.cls idx ci j Cn T N ty) (hfin : (T j).2.2.2 = true) (hy : y.name = "<init>") (hown : Cn = y.cls) (d : decode cc pc = .ok (.putfield idx, 3)) (hq : pc + 3 = q) (ok : Ok a n) (hc : PH a = .inr (ci, fs)) (hl : j < fs.length) (hn : narrow (ty j) v = v) (hfit : fits (ty j) v = true) (hp : up PH a (.inr (ci, fs.set j v)) = PH1) (k : V l Γ g nL Q cells slots n PH1 q lv (st)) : V l Γ g nL Q cells slots n PH pc lv (v :: rf g a :: st) := by
  obtain ⟨p, e, R, s, m, args, below, meth, c⟩ := Γ
  subst hq
  intro H locs ls hH hS hL
  obtain ⟨f1, f2, f3, f4, f5, f6, f7⟩ := F
  obtain ⟨r, g1, cell, q1, q2, q3, q4⟩ := hH.2 (ad a) (bG g + ad a, .inr (ci, fs)) (by rw [wl_at ok, hc])
  have hr : r = (Cn, T, N) := Option.some.inj (g1.symm.trans f1)
  subst hr
  obtain ⟨sl, hfc, kC, hkC, hkind⟩ := C.2.2.2.2.2.1.1 ci _ f1
  obtain ⟨cf, kf, fi, f, hi, hsl⟩ := sl j f7
  have hap := va_apart (own := y.cls) C.2.2.2.2.1 f2 ty f3 f4 C.2.2.2.2.2.1 f1
  have hlay := C.2.2.2.2.1 _ (f2 _ (u_in_lay f7))
  unfold u_lay at hlay
  have hst := (u_facts hfc hkC (u_lays C.2.2.2.2.1 f2 f7) hi).1
  rw [if_pos hfin] at hlay
  have hcf : m.cls = cf := by
    obtain ⟨_, _, c', _, _, _, -, -, hf', -, -, -, hown2, -⟩ := Cond.laysFinal_spec hlay
    have e1 : c' = cf := by have := hi.symm.trans hf'; simp at this; exact this.1.symm
    rw [f6, hown] at hown2
    rw [← e1]; exact Option.some.inj (C.2.2.2.1.symm.trans hown2)
  have h6 := u_fits hfc hkC hkind (Or.inr hlay) hi (f3 j f7) hn hfit
  refine W.putFinK C.1 C.2.1 C.2.2.2.1 (C.2.2.2.2.1 _ f5) (by rw [← f6]; exact hi) hst hcf (C.2.2.2.2.2.2.2.2.2.2.2.1 hy) (by rw [q2]; exact h6) q1 q3 (by rw [hsl]; exact k2_hasslot (q4 j f7)) rfl rfl d fun H1 e1 e2 e3 => ?_
  rw [hsl] at e1 ⊢
  exact k H1 _ ls (HP.set (e := .inr (ci, fs.set j v)) ok hH e2 e3 ⟨_, f1, t_OB.to (V := updV (vp_V fs) j v) ⟨_, e1, q2, q3, t_set q4 hap f7 v⟩ (fun i _ => vp_updV_set hl v i)⟩ hp) (hS.put e2 e3 bG_le) hL
theorem V.iald {len i : Nat} {x : Int32} {a : VA} {f : Nat → Int32} (C : Cx Γ g cc y nL ret lvl mc ms) (d : decode cc pc = .ok (.iaload, 1)) (hq : pc + 1 = q) (ok : Ok a n) (hc : PH a = .inl (g.2.1 0, len, .inl f)) (hx : x = nI i) (hi : i < len) (hz : len < 2 ^ 31) (k : V l Γ g nL Q cells slots n PH q lv (.int (f i) :: st)) : V l Γ g nL Q cells slots n PH pc lv (.int x :: rf g a :: st) := by
  subst hx
  obtain ⟨p, e, R, s, m, args, below, meth, c⟩ := Γ
  subst hq
  intro H locs ls hH hS hL
  have e := nI_clamp (n := i) (by omega)
  refine va_iald (t0 := 0) C.1 C.2.1 C.2.2.2.2.2.1 hH.2 (ad a) (by rw [wl_at ok, hc]) rfl (vp_in_nI hi hz) d ?_
  rw [e]
  exact k H locs ls hH hS hL
theorem V.bald {len i : Nat} {x : Int32} {a : VA} {f : Nat → Int32} (C : Cx Γ g cc y nL ret lvl mc ms) (d : decode cc pc = .ok (.baload, 1)) (hq : pc + 1 = q) (ok : Ok a n) (hc : PH a = .inl (g.2.1 1, len, .inl f)) (hx : x = nI i) (hi : i < len) (hz : len < 2 ^ 31) (k : V l Γ g nL Q cells slots n PH q lv (.int (f i) :: st)) : V l Γ g nL Q cells slots n PH pc lv (.int x :: rf g a :: st) := by
  subst hx
  obtain ⟨p, e, R, s, m, args, below, meth, c⟩ := Γ
  subst hq
  intro H locs ls hH hS hL
  have e := nI_clamp (n := i) (by omega)
  refine va_bald (t0 := 1) C.1 C.2.1 C.2.2.2.2.2.1 hH.2 (ad a) (by rw [wl_at ok, hc]) rfl (vp_in_nI hi hz) d ?_
  rw [e]
  exact k H locs ls hH hS hL
theorem V.cald {len i : Nat} {x : Int32} {a : VA} {f : Nat → Int32} (C : Cx Γ g cc y nL ret lvl mc ms) (d : decode cc pc = .ok (.caload, 1)) (hq : pc + 1 = q) (ok : Ok a n) (hc : PH a = .inl (g.2.1 2, len, .inl f)) (hx : x = nI i) (hi : i < len) (hz : len < 2 ^ 31) (k : V l Γ g nL Q cells slots n PH q lv (.int (f i) :: st)) : V l Γ g nL Q cells slots n PH pc lv (.int x :: rf g a :: st) := by
  subst hx
  obtain ⟨p, e, R, s, m, args, below, meth, c⟩ := Γ
  subst hq
  intro H locs ls hH hS hL
  have e := nI_clamp (n := i) (by omega)
  refine va_cald (t0 := 2) C.1 C.2.1 C.2.2.2.2.2.1 hH.2 (ad a) (by rw [wl_at ok, hc]) rfl (vp_in_nI hi hz) d ?_
  rw [e]
  exact k H locs ls hH hS hL
theorem V.lald {len i : Nat} {x : Int32} {a : VA} {f : Nat → Int64} (C : Cx Γ g cc y nL ret lvl mc ms) (d : decode cc pc = .ok (.laload, 1)) (hq : pc + 1 = q) (ok : Ok a n) (hc : PH a = .inl (g.2.1 3, len, .inr (.inl f))) (hx : x = nI i) (hi : i < len) (hz : len < 2 ^ 31) (k : V l Γ g nL Q cells slots n PH q lv (.long (f i) :: st)) : V l Γ g nL Q cells slots n PH pc lv (.int x :: rf g a :: st) := by
  subst hx
  obtain ⟨p, e, R, s, m, args, below, meth, c⟩ := Γ
  subst hq
  intro H locs ls hH hS hL
  have e := nI_clamp (n := i) (by omega)
  refine va_lald (t0 := 3) C.1 C.2.1 C.2.2.2.2.2.1 hH.2 (ad a) (by rw [wl_at ok, hc]) rfl (vp_in_nI hi hz) d ?_
  rw [e]
  exact k H locs ls hH hS hL
theorem V.aald {len i : Nat} {x : Int32} {a : VA} {f : Nat → Option Nat} {t0 : Nat} {cA : ClassId} {CC : String} {b : VA} (C : Cx Γ g cc y nL ret lvl mc ms) (d : decode cc pc = .ok (.aaload, 1)) (hq : pc + 1 = q) (ok : Ok a n) (hc : PH a = .inl (cA, len, .inr (.inr (.inr (.inr f))))) (ht : (tysL g.2.1)[t0]? = some (cA, .object CC)) (hx : x = nI i) (hi : i < len) (hz : len < 2 ^ 31) (hf : f i = some (bG g + ad b)) (k : V l Γ g nL Q cells slots n PH q lv (rf g b :: st)) : V l Γ g nL Q cells slots n PH pc lv (.int x :: rf g a :: st) := by
  subst hx
  obtain ⟨p, e, R, s, m, args, below, meth, c⟩ := Γ
  subst hq
  intro H locs ls hH hS hL
  have e := nI_clamp (n := i) (by omega)
  refine va_aldq (C := CC) C.1 C.2.1 C.2.2.2.2.2.1 hH.2 (ad a) t0 (by rw [wl_at ok, hc]) ht (vp_in_nI hi hz) d ?_
  rw [e, hf]
  exact k H locs ls hH hS hL
theorem V.iast {len i : Nat} {x : Int32} {a : VA} {f : Nat → Int32} {v : Int32} (C : Cx Γ g cc y nL ret lvl mc ms) (d : decode cc pc = .ok (.iastore, 1)) (hq : pc + 1 = q) (ok : Ok a n) (hc : PH a = .inl (g.2.1 0, len, .inl f)) (hx : x = nI i) (hi : i < len) (hz : len < 2 ^ 31) (hp : up PH a (.inl (g.2.1 0, len, .inl (upd f i v))) = PH1) (k : V l Γ g nL Q cells slots n PH1 q lv (st)) : V l Γ g nL Q cells slots n PH pc lv (.int v :: .int x :: rf g a :: st) := by
  subst hx
  obtain ⟨p, e, R, s, m, args, below, meth, c⟩ := Γ
  subst hq
  intro H locs ls hH hS hL
  have e0 := nI_clamp (n := i) (by omega)
  have hat := hH.2 (ad a) (bG g + ad a, .inl (g.2.1 0, len, .inl f)) (by rw [wl_at ok, hc])
  refine W.iast C.1 C.2.1 hat ((C.2.2.2.2.2.1.2 0 (g.2.1 0, .int) rfl).1 len (fun j => .int (f j))) (fun q => by cases q) (by show ¬ (nI i < 0 ∨ (arrV _ _ _).slots.size ≤ _); rw [arrV_size]; exact vp_in_nI hi hz) rfl rfl d fun H1 e1 e2 e3 => ?_
  refine k H1 _ ls (HP.set ok hH e2 e3 ?_ hp) (hS.put e2 e3 bG_le) hL
  show H1[bG g + ad a]? = some (vp_cell _ _)
  rw [e1, e0]
  rw [vp_cell_i, vp_cell_i, arrV_store]
  congr 2
  funext j
  by_cases hj : j = i
  · subst hj
    simp [updV, upd]
  · simp [updV, upd, hj]
theorem V.last {len i : Nat} {x : Int32} {a : VA} {f : Nat → Int64} {v : Int64} (C : Cx Γ g cc y nL ret lvl mc ms) (d : decode cc pc = .ok (.lastore, 1)) (hq : pc + 1 = q) (ok : Ok a n) (hc : PH a = .inl (g.2.1 3, len, .inr (.inl f))) (hx : x = nI i) (hi : i < len) (hz : len < 2 ^ 31) (hp : up PH a (.inl (g.2.1 3, len, .inr (.inl (vp_updL f i v)))) = PH1) (k : V l Γ g nL Q cells slots n PH1 q lv (st)) : V l Γ g nL Q cells slots n PH pc lv (.long v :: .int x :: rf g a :: st) := by
  subst hx
  obtain ⟨p, e, R, s, m, args, below, meth, c⟩ := Γ
  subst hq
  intro H locs ls hH hS hL
  have e0 := nI_clamp (n := i) (by omega)
  have hat := hH.2 (ad a) (bG g + ad a, .inl (g.2.1 3, len, .inr (.inl f))) (by rw [wl_at ok, hc])
  refine W.last C.1 C.2.1 hat ((C.2.2.2.2.2.1.2 3 (g.2.1 3, .long) rfl).1 len (fun j => .long (f j))) (fun q => by cases q) (by show ¬ (nI i < 0 ∨ (arrV _ _ _).slots.size ≤ _); rw [arrV_size]; exact vp_in_nI hi hz) rfl rfl d fun H1 e1 e2 e3 => ?_
  refine k H1 _ ls (HP.set ok hH e2 e3 ?_ hp) (hS.put e2 e3 bG_le) hL
  show H1[bG g + ad a]? = some (vp_cell _ _)
  rw [e1, e0]
  rw [vp_cell_l, vp_cell_l, arrV_store]
  congr 2
  funext j
  by_cases hj : j = i
  · subst hj
    simp [updV, vp_updL]
  · simp [updV, vp_updL, hj]
theorem V.bast {len i : Nat} {x : Int32} {a : VA} {f : Nat → Int32} {v u : Int32} (C : Cx Γ g cc y nL ret lvl mc ms) (d : decode cc pc = .ok (.bastore, 1)) (hq : pc + 1 = q) (ok : Ok a n) (hc : PH a = .inl (g.2.1 1, len, .inl f)) (hx : x = nI i) (hi : i < len) (hz : len < 2 ^ 31) (hu : narrow .byte (.int v) = .int u) (hp : up PH a (.inl (g.2.1 1, len, .inl (upd f i u))) = PH1) (k : V l Γ g nL Q cells slots n PH1 q lv (st)) : V l Γ g nL Q cells slots n PH pc lv (.int v :: .int x :: rf g a :: st) := by
  subst hx
  obtain ⟨p, e, R, s, m, args, below, meth, c⟩ := Γ
  subst hq
  intro H locs ls hH hS hL
  have e0 := nI_clamp (n := i) (by omega)
  have hat := hH.2 (ad a) (bG g + ad a, .inl (g.2.1 1, len, .inl f)) (by rw [wl_at ok, hc])
  refine W.bast C.1 C.2.1 hat ((C.2.2.2.2.2.1.2 1 (g.2.1 1, .byte) rfl).1 len (fun j => .int (f j))) (fun q => by cases q) (by show ¬ (nI i < 0 ∨ (arrV _ _ _).slots.size ≤ _); rw [arrV_size]; exact vp_in_nI hi hz) rfl rfl d fun H1 e1 e2 e3 => ?_
  refine k H1 _ ls (HP.set ok hH e2 e3 ?_ hp) (hS.put e2 e3 bG_le) hL
  show H1[bG g + ad a]? = some (vp_cell _ _)
  rw [e1, e0]
  rw [vp_cell_i, vp_cell_i, arrV_store]
  congr 2
  funext j
  by_cases hj : j = i
  · subst hj
    simp [updV, upd, hu]
  · simp [updV, upd, hj]
theorem V.cast {len i : Nat} {x : Int32} {a : VA} {f : Nat → Int32} {v u : Int32} (C : Cx Γ g cc y nL ret lvl mc ms) (d : decode cc pc = .ok (.castore, 1)) (hq : pc + 1 = q) (ok : Ok a n) (hc : PH a = .inl (g.2.1 2, len, .inl f)) (hx : x = nI i) (hi : i < len) (hz : len < 2 ^ 31) (hu : narrow .char (.int v) = .int u) (hp : up PH a (.inl (g.2.1 2, len, .inl (upd f i u))) = PH1) (k : V l Γ g nL Q cells slots n PH1 q lv (st)) : V l Γ g nL Q cells slots n PH pc lv (.int v :: .int x :: rf g a :: st) := by
  subst hx
  obtain ⟨p, e, R, s, m, args, below, meth, c⟩ := Γ
  subst hq
  intro H locs ls hH hS hL
  have e0 := nI_clamp (n := i) (by omega)
  have hat := hH.2 (ad a) (bG g + ad a, .inl (g.2.1 2, len, .inl f)) (by rw [wl_at ok, hc])
  refine W.cast C.1 C.2.1 hat ((C.2.2.2.2.2.1.2 2 (g.2.1 2, .char) rfl).1 len (fun j => .int (f j))) (fun q => by cases q) (by show ¬ (nI i < 0 ∨ (arrV _ _ _).slots.size ≤ _); rw [arrV_size]; exact vp_in_nI hi hz) rfl rfl d fun H1 e1 e2 e3 => ?_
  refine k H1 _ ls (HP.set ok hH e2 e3 ?_ hp) (hS.put e2 e3 bG_le) hL
  show H1[bG g + ad a]? = some (vp_cell _ _)
  rw [e1, e0]
  rw [vp_cell_i, vp_cell_i, arrV_store]
  congr 2
  funext j
  by_cases hj : j = i
  · subst hj
    simp [updV, upd, hu]
  · simp [updV, upd, hj]
theorem V.aast {len i : Nat} {x : Int32} {a : VA} {f : Nat → Option Nat} {t0 ci : Nat} {cA : ClassId} {rr : vw_C} {vs : List Value} {b : VA} (C : Cx Γ g cc y nL ret lvl mc ms) (d : decode cc pc = .ok (.aastore, 1)) (hq : pc + 1 = q) (ok : Ok a n) (hc : PH a = .inl (cA, len, .inr (.inr (.inr (.inr f))))) (ht : (tysL g.2.1)[t0]? = some (cA, .object rr.1)) (okb : Ok b n) (hcb : PH b = .inr (ci, vs)) (hr : vwCl[ci]? = some rr) (hx : x = nI i) (hi : i < len) (hz : len < 2 ^ 31) (hp : up PH a (.inl (cA, len, .inr (.inr (.inr (.inr (va_up f i (some (bG g + ad b)))))))) = PH1) (k : V l Γ g nL Q cells slots n PH1 q lv (st)) : V l Γ g nL Q cells slots n PH pc lv (rf g b :: .int x :: rf g a :: st) := by
  subst hx
  obtain ⟨p, e, R, s, m, args, below, meth, c⟩ := Γ
  subst hq
  intro H locs ls hH hS hL
  have e0 := nI_clamp (n := i) (by omega)
  have hat := hH.2 (ad a) (bG g + ad a, .inl (cA, len, .inr (.inr (.inr (.inr f))))) (by rw [wl_at ok, hc])
  obtain ⟨r', hr', cellV, g1, g2, g3, -⟩ := hH.2 (ad b) (bG g + ad b, .inr (ci, vs)) (by rw [wl_at okb, hcb])
  have hcls := (C.2.2.2.2.2.1.1 ci rr hr).2
  obtain ⟨kA, comp, k1, k2, k3, -⟩ := (C.2.2.2.2.2.1.2 t0 _ ht).2
  have hcomp : comp = g.1.1 ci := Option.some.inj (k3.symm.trans hcls.1)
  subst hcomp
  obtain ⟨kC, hkC, -⟩ := hcls.2
  refine W.aast C.1 C.2.1 hat (fun q h => by cases h) (fun h => by cases h) k1 k2 rfl hkC ⟨nI_pos (by omega), by show _ < (arrV _ _ _).slots.size; rw [arrV_size, e0]; exact hi⟩ g1 (fun q h => by rw [g3] at h; cases h) (by rw [g2]; exact hkC) (by rw [g2]; exact va_assign hcls) rfl rfl d fun H1 e1 e2 e3 => ?_
  refine k H1 _ ls (HP.set ok hH e2 e3 ?_ hp) (hS.put e2 e3 bG_le) hL
  show H1[bG g + ad a]? = some (vp_cell _ _)
  rw [e1, e0]
  rw [vp_cell_q, vp_cell_q, arrV_store]
  congr 2
  funext j
  by_cases hj : j = i
  · subst hj
    simp [updV, va_up, va_rf]
  · simp [updV, va_up, hj]
theorem V.alen {xx : vp_A} {cA : ClassId} {t0 : Nat} {tt : FieldType} {v : Int32} {a : VA} (C : Cx Γ g cc y nL ret lvl mc ms) (d : decode cc pc = .ok (.arraylength, 1)) (hq : pc + 1 = q) (ok : Ok a n) (hc : PH a = .inl (cA, xx)) (ht : (tysL g.2.1)[t0]? = some (cA, tt)) (hv : nI xx.1 = v) (k : V l Γ g nL Q cells slots n PH q lv (.int v :: st)) : V l Γ g nL Q cells slots n PH pc lv (rf g a :: st) := by
  obtain ⟨p, e, R, s, m, args, below, meth, c⟩ := Γ
  subst hq
  intro H locs ls hH hS hL
  exact va_alen C.1 C.2.1 C.2.2.2.2.2.1 hH.2 (ad a) t0 (by rw [wl_at ok, hc]) ht hv d (k H locs ls hH hS hL)
theorem V.ireturn {post : Option Value → PHp → Nat → Prop} {v : Int32} (C : Cx Γ g cc y nL (some .int) lvl mc ms) (d : decode cc pc = .ok (.ireturn, 1)) (h : post (some (.int v)) PH n) : V l Γ g nL (QM Γ g post cells slots) cells slots n PH pc lv (.int v :: []) := by
  obtain ⟨p, e, R, s, m, args, below, meth, c⟩ := Γ
  intro H locs ls hH hS hL
  exact W.iret C.1 C.2.1 C.2.2.2.2.2.2.2.2.1 (fun t ht hW => ⟨⟨_, PH, n, rfl, h, by rw [ht]; exact hH⟩, hS.F ht⟩) hS.2.2 d C.2.2.2.2.2.2.2.1
theorem V.zreturn {post : Option Value → PHp → Nat → Prop} {v : Int32} {rt : FieldType} (C : Cx Γ g cc y nL (some rt) lvl mc ms) (d : decode cc pc = .ok (.ireturn, 1)) (hn : narrow rt (.int v) = .int v) (h : post (some (.int v)) PH n) : V l Γ g nL (QM Γ g post cells slots) cells slots n PH pc lv (.int v :: []) := by
  obtain ⟨p, e, R, s, m, args, below, meth, c⟩ := Γ
  intro H locs ls hH hS hL
  exact W.zret C.1 C.2.1 C.2.2.2.2.2.2.2.2.1 hn (fun t ht hW => ⟨⟨_, PH, n, rfl, h, by rw [ht]; exact hH⟩, hS.F ht⟩) hS.2.2 d C.2.2.2.2.2.2.2.1
theorem V.lreturn {post : Option Value → PHp → Nat → Prop} {v : Int64} (C : Cx Γ g cc y nL (some .long) lvl mc ms) (d : decode cc pc = .ok (.lreturn, 1)) (h : post (some (.long v)) PH n) : V l Γ g nL (QM Γ g post cells slots) cells slots n PH pc lv (.long v :: []) := by
  obtain ⟨p, e, R, s, m, args, below, meth, c⟩ := Γ
  intro H locs ls hH hS hL
  exact W.lret C.1 C.2.1 C.2.2.2.2.2.2.2.2.1 (fun t ht hW => ⟨⟨_, PH, n, rfl, h, by rw [ht]; exact hH⟩, hS.F ht⟩) hS.2.2 d C.2.2.2.2.2.2.2.1
theorem V.vreturn {post : Option Value → PHp → Nat → Prop} (C : Cx Γ g cc y nL none lvl mc ms) (d : decode cc pc = .ok (.return_, 1)) (h : post none PH n) : V l Γ g nL (QM Γ g post cells slots) cells slots n PH pc lv ([]) := by
  obtain ⟨p, e, R, s, m, args, below, meth, c⟩ := Γ
  intro H locs ls hH hS hL
  exact W.vret C.1 C.2.1 C.2.2.2.2.2.2.2.2.1 (fun t ht hW => ⟨⟨_, PH, n, rfl, h, by rw [ht]; exact hH⟩, hS.F ht⟩) hS.2.2 d C.2.2.2.2.2.2.2.1
theorem V.widen {c2 s2 : Nat} (h1 : cells ≤ c2) (h2 : slots ≤ s2) (k : V l Γ g nL Q c2 s2 n PH pc lv st) : V l Γ g nL Q cells slots n PH pc lv (st) := by
  obtain ⟨p, e, R, s, m, args, below, meth, c⟩ := Γ
  intro H locs ls hH hS hL
  exact W.widen h1 h2 (k H locs ls hH hS hL)
end VROWS
