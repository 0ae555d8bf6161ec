section VROWS4
variable {l : Launch} {Γ : Cxt} {g : GG} {cc : ByteArray} {y : MethodName} {nL : Nat} {ret : Option FieldType} {lvl mc ms : Nat} {Q : State → Prop} {cells slots n : Nat} {PH PH1 : PHp} {pc q : Nat} {lv : List (Option Value)} {st rest : List Value}
theorem nI_inj {x : Int32} {m : Nat} (hm : m < 2 ^ 31) (h : x.toInt = m) : x = nI m := by
  apply Int32.toInt_inj.mp
  rw [nI_toInt hm, h]
theorem V.tsw {dflt hi : Int} {lo N : Nat} {offs : Array Int} {len : Nat} {x : Int32} {tgt : Nat} (C : Cx Γ g cc y nL ret lvl mc ms) (d : decode cc pc = .ok (.tableswitch dflt (lo : Int) hi offs, len)) (hN : hi + 1 = ((lo + N : Nat) : Int)) (hz : lo + N < 2 ^ 31) (ht : (pc : Int) + dflt = (tgt : Int))
    (kt : ∀ k, k < N → x = nI (lo + k) → ∃ (off : Int) (t : Nat), offs[k]? = some off ∧ (pc : Int) + off = (t : Int) ∧ V l Γ g nL Q cells slots n PH t lv st) (kf : (∀ k, k < N → x ≠ nI (lo + k)) → V l Γ g nL Q cells slots n PH tgt lv st) : V l Γ g nL Q cells slots n PH pc lv (.int x :: st) := by
  by_cases h1 : x.toInt < (lo : Int) ∨ hi < x.toInt
  · exact V.tableOut C d h1 ht (kf (fun k hk e => by rw [e, nI_toInt (by omega)] at h1; omega))
  · obtain ⟨k, hk⟩ : ∃ k : Nat, x.toInt = ((lo + k : Nat) : Int) := ⟨(x.toInt - lo).toNat, by omega⟩
    have hkN : k < N := by omega
    obtain ⟨off, t, h2, h3, h4⟩ := kt k hkN (nI_inj (by omega) hk)
    exact V.tableIn C d (by omega) (by omega) (by rw [hk, show ((lo + k : Nat) : Int) - (lo : Int) = (k : Int) by omega, Int.toNat_natCast]; exact h2) h3 h4
theorem V.max {i : Nat} {x z : Int32} (C : Cx Γ g cc y nL ret lvl mc ms) (d : decode cc pc = .ok (.invokestatic i, 3)) (hl : Cond.methodLink y.cls i Lib.Math.max.name ∈ gws) (hq : pc + 3 = q) (k : V l Γ g nL Q cells slots n PH q lv (.int (if x < z then z else x) :: rest)) (hw : (rest.map fun v => v.category).sum ≤ 8 := by exact Nat.le_of_ble_eq_true rfl) (hlv : 1 ≤ lvl := by omega) (h0 : cells ≤ mc := by exact Nat.zero_le _) (h1 : slots ≤ ms := by exact Nat.zero_le _) : V l Γ g nL Q cells slots n PH pc lv (.int z :: .int x :: rest) := by
  obtain ⟨p, e, R, s, m, args, below, meth, c⟩ := Γ
  subst hq
  intro H locs ls hH hS hL
  have h2 := C.cells h0 h1
  have h3 := C.2.2.2.2.2.2.2.2.2.2.2.2.1
  have h4 := C.2.2.2.2.2.2.2.2.2.2.2.2.2.1
  exact va_mmax C.1 C.2.1 (C.2.2.1.trans hL.1.symm) C.2.2.2.1 (C.2.2.2.2.1 _ hl) (C.2.2.2.2.1 _ (tb_at 186 (by decide +kernel) rfl)) (C.2.2.2.2.1 _ (tb_at 9 (by decide +kernel) rfl)) (C.2.2.2.2.1 _ (tb_at 187 (by decide +kernel) rfl)) (by omega) (by omega) h2.1 h2.2 d (k H locs ls hH hS hL)
theorem V.min {i : Nat} {x z : Int32} (C : Cx Γ g cc y nL ret lvl mc ms) (d : decode cc pc = .ok (.invokestatic i, 3)) (hl : Cond.methodLink y.cls i Lib.Math.min.name ∈ gws) (hq : pc + 3 = q) (k : V l Γ g nL Q cells slots n PH q lv (.int (if z < x then z else x) :: rest)) (hw : (rest.map fun v => v.category).sum ≤ 8 := by exact Nat.le_of_ble_eq_true rfl) (hlv : 1 ≤ lvl := by omega) (h0 : cells ≤ mc := by exact Nat.zero_le _) (h1 : slots ≤ ms := by exact Nat.zero_le _) : V l Γ g nL Q cells slots n PH pc lv (.int z :: .int x :: rest) := by
  obtain ⟨p, e, R, s, m, args, below, meth, c⟩ := Γ
  subst hq
  intro H locs ls hH hS hL
  have h2 := C.cells h0 h1
  have h3 := C.2.2.2.2.2.2.2.2.2.2.2.2.1
  have h4 := C.2.2.2.2.2.2.2.2.2.2.2.2.2.1
  exact va_mmin C.1 C.2.1 (C.2.2.1.trans hL.1.symm) C.2.2.2.1 (C.2.2.2.2.1 _ hl) (C.2.2.2.2.1 _ (tb_at 361 (by decide +kernel) rfl)) (C.2.2.2.2.1 _ (tb_at 9 (by decide +kernel) rfl)) (C.2.2.2.2.1 _ (tb_at 362 (by decide +kernel) rfl)) (by omega) (by omega) h2.1 h2.2 d (k H locs ls hH hS hL)
theorem V.ldcS {i : Nat} (C : Cx Γ g cc y nL ret lvl mc ms) (hi : i < 5 ∧ y.cls = RX2) (d : decode cc pc = .ok (.ldc (idxS i), 2)) (hq : pc + 2 = q) (k : V l Γ g nL Q cells slots n PH q lv (.ref (g.2.2.2.1 i) :: st)) : V l Γ g nL Q cells slots n PH pc lv st := by
  obtain ⟨p, e, R, s, m, args, below, meth, c⟩ := Γ
  subst hq
  intro H locs ls hH hS hL
  have ho := C.2.2.2.1
  rw [hi.2] at ho
  exact va_ldcS C.1 C.2.1 ho (C.2.2.2.2.2.2.2.2.2.2.1.1 i hi.1) d (k H locs ls hH hS hL)
end VROWS4
