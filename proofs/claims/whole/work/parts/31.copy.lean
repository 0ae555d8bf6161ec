theorem nrm_cpy {f f1 : Nat → Int32} {n0 n1 sp dp k : Nat} (h0 : sp + k ≤ n0) (h1 : dp + k ≤ n1) : va_cpy (nrm n0 f) (nrm n1 f1) sp dp k = nrm n1 (va_cpy f f1 sp dp k) := by
  funext j
  simp only [va_cpy, nrm]
  by_cases q : dp ≤ j ∧ j < dp + k
  · rw [if_pos q, if_pos (by omega), if_pos (by omega), if_pos q]
  · rw [if_neg q]
    by_cases e : j < n1
    · rw [if_pos e, if_pos e, if_neg q]
    · rw [if_neg e, if_neg e]
theorem V.copyI {l : Launch} {Γ : Cxt} {g : GG} {cc : ByteArray} {y : MethodName} {nL : Nat} {ret : Option FieldType} {lvl mc ms : Nat} {Q : State → Prop} {PH PH1 : PHp} {pc q : Nat} {lv : List (Option Value)} {rest : List Value} {i : Nat} {a0 a : VA} {n0 n1 sp dp k : Nat} {x1 x2 x3 : Int32} {f f1 : Nat → Int32}
    (C : Cx Γ g cc y nL ret lvl mc ms) (d : decode cc pc = .ok (.invokestatic i, 3)) (hl : Cond.methodLink y.cls i arraycopyName ∈ gws) (hq : pc + 3 = q) (ok0 : Ok a0 NN) (ok : Ok a NN) (h0 : PH a0 = aI g n0 f) (h1 : PH a = aI g n1 f1) (e1 : x1 = nI sp) (e2 : x2 = nI dp) (e3 : x3 = nI k) (hs : sp + k ≤ n0) (hd : dp + k ≤ n1) (hz : n0 < 2 ^ 31 ∧ n1 < 2 ^ 31) (hp : up PH a (aI g n1 (va_cpy f f1 sp dp k)) = PH1) (kk : V l Γ g nL Q 0 0 NN PH1 q lv rest) (hw : (rest.map fun v => v.category).sum ≤ 8 := by exact Nat.le_of_ble_eq_true rfl) (hlv : 2 ≤ lvl := by omega) (hnw : 8 + (nativeFrameWords "java/lang/System" "arraycopy" 5 + 11) ≤ 80 := by decide +kernel) : V l Γ g nL Q 0 0 NN PH pc lv (.int x3 :: .int x2 :: rf g a :: .int x1 :: rf g a0 :: rest) := by
  obtain ⟨p, e, R, s, m, args, below, meth, c⟩ := Γ
  subst hq; subst e1; subst e2; subst e3
  intro H locs ls hH hS hL
  have h3 := C.2.2.2.2.2.2.2.2.2.2.2.2.1
  have h4 := C.2.2.2.2.2.2.2.2.2.2.2.2.2.1
  have c1 := nI_clamp (n := sp) (by omega)
  have c2 := nI_clamp (n := dp) (by omega)
  have c3 := nI_clamp (n := k) (by omega)
  intro T0 hT0 X0
  have zH : T0.heap.size ≤ s.heap.size + 0 := X0.same.2.2.1
  rw [hT0] at zH
  refine (va_copyi (ty := .int) C.1 C.2.1 (C.2.2.1.trans hL.1.symm) C.2.2.2.1 (C.2.2.2.2.1 _ hl) (C.2.2.2.2.1 _ (tb_at 330 (by decide +kernel) rfl)) (C.2.2.2.2.1 _ (tb_at 329 (by decide +kernel) rfl)) (C.2.2.2.2.1 _ (tb_at 13 (by decide +kernel) rfl)) C.2.2.2.2.2.1 hH.2 wl_D hS (ad a0) (ad a) 0 0 (by rw [wl_at ok0, h0]; rfl) (by rw [wl_at ok, h1]; rfl) rfl rfl rfl (nI_pos (by omega)) (nI_pos (by omega)) (nI_pos (by omega)) (by rw [c1, c3]; exact hs) (by rw [c2, c3]; exact hd) (fun i hi => rfl) (by omega) (by omega) d (fun H1 locs1 hP1 hD1 hS1 => ?_)) T0 hT0 X0
  rw [c1, c2, c3, nrm_cpy hs hd] at hP1
  intro T hT X
  have z1 := X.same.2.2.1
  have z2 : T.heap.size ≤ s.heap.size + 0 := z1
  have z3 : H1.size = H.size := by
    have q1 := hS.1
    have q2 := hS1.1
    rw [hT] at z2
    omega
  refine kk H1 locs1 ls ⟨z3.trans hH.1, ?_⟩ hS1 hL T hT X
  rw [← hp, ← wl_set ok]
  exact hP1
theorem nrmL_cpy {f f1 : Nat → Int64} {n0 n1 sp dp k : Nat} (h0 : sp + k ≤ n0) (h1 : dp + k ≤ n1) : va_cpy (nrmL n0 f) (nrmL n1 f1) sp dp k = nrmL n1 (va_cpy f f1 sp dp k) := by
  funext j
  simp only [va_cpy, nrmL]
  by_cases q : dp ≤ j ∧ j < dp + k
  · rw [if_pos q, if_pos (by omega), if_pos (by omega), if_pos q]
  · rw [if_neg q]
    by_cases e : j < n1
    · rw [if_pos e, if_pos e, if_neg q]
    · rw [if_neg e, if_neg e]
theorem V.copyL {l : Launch} {Γ : Cxt} {g : GG} {cc : ByteArray} {y : MethodName} {nL : Nat} {ret : Option FieldType} {lvl mc ms : Nat} {Q : State → Prop} {PH PH1 : PHp} {pc q : Nat} {lv : List (Option Value)} {rest : List Value} {i : Nat} {a0 a : VA} {n0 n1 sp dp k : Nat} {x1 x2 x3 : Int32} {f f1 : Nat → Int64}
    (C : Cx Γ g cc y nL ret lvl mc ms) (d : decode cc pc = .ok (.invokestatic i, 3)) (hl : Cond.methodLink y.cls i arraycopyName ∈ gws) (hq : pc + 3 = q) (ok0 : Ok a0 NN) (ok : Ok a NN) (h0 : PH a0 = aL g n0 f) (h1 : PH a = aL g n1 f1) (e1 : x1 = nI sp) (e2 : x2 = nI dp) (e3 : x3 = nI k) (hs : sp + k ≤ n0) (hd : dp + k ≤ n1) (hz : n0 < 2 ^ 31 ∧ n1 < 2 ^ 31) (hp : up PH a (aL g n1 (va_cpy f f1 sp dp k)) = PH1) (kk : V l Γ g nL Q 0 0 NN PH1 q lv rest) (hw : (rest.map fun v => v.category).sum ≤ 8 := by exact Nat.le_of_ble_eq_true rfl) (hlv : 2 ≤ lvl := by omega) (hnw : 8 + (nativeFrameWords "java/lang/System" "arraycopy" 5 + 11) ≤ 80 := by decide +kernel) : V l Γ g nL Q 0 0 NN PH pc lv (.int x3 :: .int x2 :: rf g a :: .int x1 :: rf g a0 :: rest) := by
  obtain ⟨p, e, R, s, m, args, below, meth, c⟩ := Γ
  subst hq; subst e1; subst e2; subst e3
  intro H locs ls hH hS hL
  have h3 := C.2.2.2.2.2.2.2.2.2.2.2.2.1
  have h4 := C.2.2.2.2.2.2.2.2.2.2.2.2.2.1
  have c1 := nI_clamp (n := sp) (by omega)
  have c2 := nI_clamp (n := dp) (by omega)
  have c3 := nI_clamp (n := k) (by omega)
  intro T0 hT0 X0
  have zH : T0.heap.size ≤ s.heap.size + 0 := X0.same.2.2.1
  rw [hT0] at zH
  refine (va_copyl (ty := .long) C.1 C.2.1 (C.2.2.1.trans hL.1.symm) C.2.2.2.1 (C.2.2.2.2.1 _ hl) (C.2.2.2.2.1 _ (tb_at 330 (by decide +kernel) rfl)) (C.2.2.2.2.1 _ (tb_at 329 (by decide +kernel) rfl)) (C.2.2.2.2.1 _ (tb_at 13 (by decide +kernel) rfl)) C.2.2.2.2.2.1 hH.2 wl_D hS (ad a0) (ad a) 3 3 (by rw [wl_at ok0, h0]; rfl) (by rw [wl_at ok, h1]; rfl) rfl rfl rfl (nI_pos (by omega)) (nI_pos (by omega)) (nI_pos (by omega)) (by rw [c1, c3]; exact hs) (by rw [c2, c3]; exact hd) (fun i hi => rfl) (by omega) (by omega) d (fun H1 locs1 hP1 hD1 hS1 => ?_)) T0 hT0 X0
  rw [c1, c2, c3, nrmL_cpy hs hd] at hP1
  intro T hT X
  have z1 := X.same.2.2.1
  have z2 : T.heap.size ≤ s.heap.size + 0 := z1
  have z3 : H1.size = H.size := by
    have q1 := hS.1
    have q2 := hS1.1
    rw [hT] at z2
    omega
  refine kk H1 locs1 ls ⟨z3.trans hH.1, ?_⟩ hS1 hL T hT X
  rw [← hp, ← wl_set ok]
  exact hP1
