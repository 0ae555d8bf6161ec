theorem V.i2c {l : Launch} {Γ : Cxt} {g : GG} {cc : ByteArray} {y : MethodName} {nL : Nat} {ret : Option FieldType} {lvl mc ms : Nat} {Q : State → Prop} {cells slots n : Nat} {PH : PHp} {pc q : Nat} {lv : List (Option Value)} {st : List Value} {x v : Int32} (C : Cx Γ g cc y nL ret lvl mc ms) (d : decode cc pc = .ok (.i2c, 1)) (hq : pc + 1 = q) (hv : (x.toUInt32 % 65536).toInt32 = v) (k : V l Γ g nL Q cells slots n PH q lv (.int v :: st)) : V l Γ g nL Q cells slots n PH pc lv (.int x :: st) := by
  obtain ⟨p, e, R, s, m, args, below, meth, c⟩ := Γ
  subst hq
  intro H locs ls hH hS hL
  exact lv_i2c C.1 C.2.1 d hv (k H locs ls hH hS hL)
theorem V.getsZ {l : Launch} {Γ : Cxt} {g : GG} {cc : ByteArray} {y : MethodName} {nL : Nat} {ret : Option FieldType} {lvl mc ms : Nat} {Q : State → Prop} {cells slots n : Nat} {PH : PHp} {pc q : Nat} {lv : List (Option Value)} {st : List Value} {idx : Nat} (C : Cx Γ g cc y nL ret lvl mc ms) (hl : Cond.fieldLink y.cls idx "java/lang/String" "COMPACT_STRINGS" "Z" ∈ gws) (d : decode cc pc = .ok (.getstatic idx, 3)) (hq : pc + 3 = q) (k : V l Γ g nL Q cells slots n PH q lv (.int 1 :: st)) : V l Γ g nL Q cells slots n PH pc lv (st) := by
  obtain ⟨p, e, R, s, m, args, below, meth, c⟩ := Γ
  subst hq
  intro H locs ls hH hS hL
  exact va_gets C.1 C.2.1 C.2.2.2.2.2.2.2.2.2.1.2.1 hS C.2.2.2.1 (C.2.2.2.2.1 _ hl) (fun _ h => h) d (k H locs ls hH hS hL)
theorem V.getsF {l : Launch} {Γ : Cxt} {g : GG} {cc : ByteArray} {y : MethodName} {nL : Nat} {ret : Option FieldType} {lvl mc ms : Nat} {Q : State → Prop} {cells slots n : Nat} {PH : PHp} {pc q : Nat} {lv : List (Option Value)} {st : List Value} {idx : Nat} (C : Cx Γ g cc y nL ret lvl mc ms) (hl : Cond.fieldLink y.cls idx "jdk/internal/util/Preconditions" "SIOOBE_FORMATTER" "Ljava/util/function/BiFunction;" ∈ gws) (d : decode cc pc = .ok (.getstatic idx, 3)) (hq : pc + 3 = q) (k : ∀ v : Value, (v = .null ∨ ∃ t : Nat, v = .ref t) → V l Γ g nL Q cells slots n PH q lv (v :: st)) : V l Γ g nL Q cells slots n PH pc lv (st) := by
  obtain ⟨p, e, R, s, m, args, below, meth, c⟩ := Γ
  subst hq
  intro H locs ls hH hS hL
  rcases C.2.2.2.2.2.2.2.2.2.1.2.2 with hz | ⟨t, hz⟩
  · exact va_gets C.1 C.2.1 hz hS C.2.2.2.1 (C.2.2.2.2.1 _ hl) (fun _ h => h) d (k _ (Or.inl rfl) H locs ls hH hS hL)
  · exact va_gets C.1 C.2.1 hz hS C.2.2.2.1 (C.2.2.2.2.1 _ hl) (fun _ h => h) d (k _ (Or.inr ⟨t, rfl⟩) H locs ls hH hS hL)
theorem V.sgetC {l : Launch} {Γ : Cxt} {g : GG} {cc : ByteArray} {y : MethodName} {nL : Nat} {ret : Option FieldType} {lvl mc ms : Nat} {Q : State → Prop} {cells slots n : Nat} {PH : PHp} {pc q : Nat} {lv : List (Option Value)} {st : List Value} {idx i : Nat} (C : Cx Γ g cc y nL ret lvl mc ms) (hi : i < 5) (hl : Cond.fieldLink y.cls idx "java/lang/String" "coder" "B" ∈ gws) (d : decode cc pc = .ok (.getfield idx, 3)) (hq : pc + 3 = q) (k : V l Γ g nL Q cells slots n PH q lv (.int 0 :: st)) : V l Γ g nL Q cells slots n PH pc lv (.ref (g.2.2.2.1 i) :: st) := by
  obtain ⟨p, e, R, s, m, args, below, meth, c⟩ := Γ
  subst hq
  intro H locs ls hH hS hL
  exact vk_getf C.1 C.2.1 (C.2.2.2.2.2.2.2.2.2.1.1.1 i hi).2.1 hS C.2.2.2.1 (C.2.2.2.2.1 _ hl) (fun _ h => h) d (k H locs ls hH hS hL)
theorem V.sgetV {l : Launch} {Γ : Cxt} {g : GG} {cc : ByteArray} {y : MethodName} {nL : Nat} {ret : Option FieldType} {lvl mc ms : Nat} {Q : State → Prop} {cells slots n : Nat} {PH : PHp} {pc q : Nat} {lv : List (Option Value)} {st : List Value} {idx i : Nat} (C : Cx Γ g cc y nL ret lvl mc ms) (hi : i < 5) (hl : Cond.fieldLink y.cls idx "java/lang/String" "value" "[B" ∈ gws) (d : decode cc pc = .ok (.getfield idx, 3)) (hq : pc + 3 = q) (k : V l Γ g nL Q cells slots n PH q lv (.ref (g.2.2.2.2 i) :: st)) : V l Γ g nL Q cells slots n PH pc lv (.ref (g.2.2.2.1 i) :: st) := by
  obtain ⟨p, e, R, s, m, args, below, meth, c⟩ := Γ
  subst hq
  intro H locs ls hH hS hL
  exact vk_getf C.1 C.2.1 (C.2.2.2.2.2.2.2.2.2.1.1.1 i hi).2.2.1 hS C.2.2.2.1 (C.2.2.2.2.1 _ hl) (fun _ h => h) d (k H locs ls hH hS hL)
theorem V.slen {l : Launch} {Γ : Cxt} {g : GG} {cc : ByteArray} {y : MethodName} {nL : Nat} {ret : Option FieldType} {lvl mc ms : Nat} {Q : State → Prop} {cells slots n : Nat} {PH : PHp} {pc q : Nat} {lv : List (Option Value)} {st : List Value} {i : Nat} (C : Cx Γ g cc y nL ret lvl mc ms) (hi : i < 5) (d : decode cc pc = .ok (.arraylength, 1)) (hq : pc + 1 = q) (k : V l Γ g nL Q cells slots n PH q lv (.int (nI (lenS.getD i 0)) :: st)) : V l Γ g nL Q cells slots n PH pc lv (.ref (g.2.2.2.2 i) :: st) := by
  obtain ⟨p, e, R, s, m, args, below, meth, c⟩ := Γ
  subst hq
  intro H locs ls hH hS hL
  exact va_tlen C.1 C.2.1 (C.2.2.2.2.2.2.2.2.2.1.1.1 i hi).2.2.2 hS rfl d (k H locs ls hH hS hL)
theorem V.sbld {l : Launch} {Γ : Cxt} {g : GG} {cc : ByteArray} {y : MethodName} {nL : Nat} {ret : Option FieldType} {lvl mc ms : Nat} {Q : State → Prop} {cells slots n : Nat} {PH : PHp} {pc q : Nat} {lv : List (Option Value)} {st : List Value} {i j : Nat} {x : Int32} (C : Cx Γ g cc y nL ret lvl mc ms) (hi : i < 5) (hx : x = nI j) (hj : j < lenS.getD i 0) (hz : j < 2 ^ 31) (d : decode cc pc = .ok (.baload, 1)) (hq : pc + 1 = q) (k : V l Γ g nL Q cells slots n PH q lv (.int ((bytS.getD i []).getD j 0) :: st)) : V l Γ g nL Q cells slots n PH pc lv (.int x :: .ref (g.2.2.2.2 i) :: st) := by
  subst hx
  obtain ⟨p, e, R, s, m, args, below, meth, c⟩ := Γ
  subst hq
  intro H locs ls hH hS hL
  have hl9 : ∀ i, i < 5 → lenS.getD i 0 < 2 ^ 31 := by decide
  exact va_tb C.1 C.2.1 (C.2.2.2.2.2.2.2.2.2.1.1.1 i hi).2.2.2 hS (nI_in hj (hl9 i hi)) (by rw [nI_clamp hz]) d (k H locs ls hH hS hL)
theorem V.callK {l : Launch} {g : GG} {cc : ByteArray} {y : MethodName} {nL : Nat} {ret : Option FieldType} {lvl mc ms : Nat} {Q : State → Prop} {PH : PHp} {pc q : Nat} {lv : List (Option Value)} {st0 rest As : List Value} {y1 : MethodName} {cc1 : ByteArray} {nL1 : Nat} {ret1 : Option FieldType} {lvl1 k1 idx i : Nat} {r : Int32} {Γ : Cxt} (C : Cx Γ g cc y nL ret lvl mc ms) (hi : i < 5)
    (M : ME y1 cc1 nL1 ret1 k1 ∧ Cond.instanceMethod y1 ∈ gws ∧ Cond.selects y1.cls y1 y1 ∈ gws) (hcls : y1.cls = "java/lang/String") (hM : Ct l g y1 cc1 nL1 ret1 lvl1 0 0 (.ref (g.2.2.2.1 i) :: As) NN PH (pI r PH)) (hl : Cond.methodLink y.cls idx y1 ∈ gws) (d : decode cc pc = .ok (.invokevirtual idx, 3)) (hq : pc + 3 = q) (hk : As.length = k1) (hst : st0 = As.reverse ++ .ref (g.2.2.2.1 i) :: rest) (hw : (rest.map fun v => v.category).sum ≤ 8) (hlv : lvl1 + 1 ≤ lvl)
    (kk : V l Γ g nL Q 0 0 NN PH q lv (.int r :: rest)) : V l Γ g nL Q 0 0 NN PH pc lv st0 := by
  obtain ⟨p, e, R, s, m, args, below, meth, c⟩ := Γ
  subst hq
  intro H locs ls hH hS hL
  obtain ⟨⟨M1, M2, M3, M4⟩, Mi, Ms⟩ := M
  have hr := C.room (mc1 := 0) (ms1 := 0) hlv M4
  have hrecv : ∃ cell : Cell, H[g.2.2.2.1 i]? = some cell ∧ cell.vm.isStatics = false ∧ s.vm.findClass y1.cls = some cell.cls := by
    rw [hcls]
    exact vk_recv C.2.2.2.2.2.2.2.2.2.1.1 hi hS
  refine V.ofRun (rest := rest) (va_runV (Ts := gws) (own := y.cls) (C := y1.cls) (b := g.2.2.2.1 i) (As := As) (n := k1) ⟨C.1, C.2.1, C.2.2.1, C.2.2.2.1, C.2.2.2.2.1⟩ hM ⟨callB_of k1 C.2.2.2.2.1 (gw_code ⟨M1, M2, M3, M4⟩) rfl rfl rfl (C.2.2.2.2.1 _ M2) (C.2.2.2.2.1 _ hl) M3 hr, C.2.2.2.2.1 _ Mi, C.2.2.2.2.1 _ Ms⟩ ⟨RP.blind, hrecv, fun U hU hW => ⟨rfl, C.rp hH hS hU hW⟩⟩ rfl hk hL.1 hst (lv_room hw) d (C.cells (Nat.zero_le _) (Nat.zero_le _))) hS hL ?_
  intro v PH9 n9 h
  obtain ⟨rfl, rfl, rfl⟩ := h
  exact kk
theorem me_J0_coder_7d493 : ME yJ0_coder_7d493 cJ0_coder_7d493 1 (some .byte) 0 ∧ Cond.instanceMethod yJ0_coder_7d493 ∈ gws ∧ Cond.selects yJ0_coder_7d493.cls yJ0_coder_7d493 yJ0_coder_7d493 ∈ gws := ⟨⟨tb_at 458 (by decide +kernel) rfl, tb_at 14 (by decide +kernel) rfl, (by decide +kernel), by decide⟩, tb_at 456 (by decide +kernel) rfl, tb_at 457 (by decide +kernel) rfl⟩
theorem j_coder {l : Launch} {g : GG} {P : PHp} {i : Nat} (hi : i < 5) : Ct l g yJ0_coder_7d493 cJ0_coder_7d493 1 (some .byte) 1 0 0 [.ref (g.2.2.2.1 i)] NN P (pI 0 P) := by
  refine Ct.of (lv := [some (.ref (g.2.2.2.1 i))]) (by decide +kernel) rfl (Nat.le_of_ble_eq_true rfl) ?_
  intro Γ C
  refine V.getsZ (q := 3) C (tb_at 459 (by decide +kernel) rfl) dJ0_coder_7d493_0 rfl ?_
  refine V.if_eq (q := 6) (tgt := 13) C dJ0_coder_7d493_3 rfl rfl (fun hb => absurd hb (by decide)) (fun _ => ?_)
  refine V.aload_nR (q := 7) C dJ0_coder_7d493_6 rfl rfl ?_
  refine V.sgetC (q := 10) C hi (tb_at 1168 (by decide +kernel) rfl) dJ0_coder_7d493_7 rfl ?_
  refine V.goto (tgt := 14) C dJ0_coder_7d493_10 rfl ?_
  exact V.zreturn C dJ0_coder_7d493_14 rfl ⟨rfl, rfl, rfl⟩
theorem me_J0_isLatin1_aae02 : ME yJ0_isLatin1_aae02 cJ0_isLatin1_aae02 1 (some .boolean) 0 ∧ Cond.instanceMethod yJ0_isLatin1_aae02 ∈ gws ∧ Cond.selects yJ0_isLatin1_aae02.cls yJ0_isLatin1_aae02 yJ0_isLatin1_aae02 ∈ gws := ⟨⟨tb_at 468 (by decide +kernel) rfl, tb_at 14 (by decide +kernel) rfl, (by decide +kernel), by decide⟩, tb_at 466 (by decide +kernel) rfl, tb_at 467 (by decide +kernel) rfl⟩
theorem j_isLatin1 {l : Launch} {g : GG} {P : PHp} {i : Nat} (hi : i < 5) : Ct l g yJ0_isLatin1_aae02 cJ0_isLatin1_aae02 1 (some .boolean) 1 0 0 [.ref (g.2.2.2.1 i)] NN P (pI (nI 1) P) := by
  refine Ct.of (lv := [some (.ref (g.2.2.2.1 i))]) (by decide +kernel) rfl (Nat.le_of_ble_eq_true rfl) ?_
  intro Γ C
  refine V.getsZ (q := 3) C (tb_at 459 (by decide +kernel) rfl) dJ0_isLatin1_aae02_0 rfl ?_
  refine V.if_eq (q := 6) (tgt := 17) C dJ0_isLatin1_aae02_3 rfl rfl (fun hb => absurd hb (by decide)) (fun _ => ?_)
  refine V.aload_nR (q := 7) C dJ0_isLatin1_aae02_6 rfl rfl ?_
  refine V.sgetC (q := 10) C hi (tb_at 1168 (by decide +kernel) rfl) dJ0_isLatin1_aae02_7 rfl ?_
  refine V.if_ne (q := 13) (tgt := 17) C dJ0_isLatin1_aae02_10 rfl rfl (fun hb => absurd rfl hb) (fun _ => ?_)
  refine V.iconst (q := 14) (v := nI 1) C dJ0_isLatin1_aae02_13 rfl (by decide) ?_
  refine V.goto (tgt := 18) C dJ0_isLatin1_aae02_14 rfl ?_
  exact V.zreturn C dJ0_isLatin1_aae02_18 rfl ⟨rfl, rfl, rfl⟩
theorem me_J0_length_8abf5 : ME yJ0_length_8abf5 cJ0_length_8abf5 1 (some .int) 0 ∧ Cond.instanceMethod yJ0_length_8abf5 ∈ gws ∧ Cond.selects yJ0_length_8abf5.cls yJ0_length_8abf5 yJ0_length_8abf5 ∈ gws := ⟨⟨tb_at 454 (by decide +kernel) rfl, tb_at 14 (by decide +kernel) rfl, (by decide +kernel), by decide⟩, tb_at 452 (by decide +kernel) rfl, tb_at 453 (by decide +kernel) rfl⟩
theorem j_length {l : Launch} {g : GG} {P : PHp} {i : Nat} (hi : i < 5) : Ct l g yJ0_length_8abf5 cJ0_length_8abf5 1 (some .int) 2 0 0 [.ref (g.2.2.2.1 i)] NN P (pI (nI (lenS.getD i 0)) P) := by
  refine Ct.of (lv := [some (.ref (g.2.2.2.1 i))]) (by decide +kernel) rfl (Nat.le_of_ble_eq_true rfl) ?_
  intro Γ C
  refine V.aload_nR (q := 1) C dJ0_length_8abf5_0 rfl rfl ?_
  refine V.sgetV (q := 4) C hi (tb_at 1167 (by decide +kernel) rfl) dJ0_length_8abf5_1 rfl ?_
  refine V.slen (q := 5) C hi dJ0_length_8abf5_4 rfl ?_
  refine V.aload_nR (q := 6) C dJ0_length_8abf5_5 rfl rfl ?_
  refine V.callK (q := 9) (As := []) (r := 0) C hi me_J0_coder_7d493 rfl (j_coder hi) (tb_at 455 (by decide +kernel) rfl) dJ0_length_8abf5_6 rfl rfl rfl (Nat.le_of_ble_eq_true rfl) (by omega) ?_
  refine V.ishr (q := 10) C dJ0_length_8abf5_9 rfl ?_
  have hl9 : ∀ i, i < 5 → nI (lenS.getD i 0) >>> ((0 : Int32) &&& 31) = nI (lenS.getD i 0) := by decide
  refine V.topi (hl9 i hi) ?_
  exact V.ireturn C dJ0_length_8abf5_10 ⟨rfl, rfl, rfl⟩
theorem me_J3_checkIndex_8e157 : MES yJ3_checkIndex_8e157 cJ3_checkIndex_8e157 3 (some .int) 3 := ⟨⟨tb_at 479 (by decide +kernel) rfl, tb_at 16 (by decide +kernel) rfl, (by decide +kernel), by decide⟩, tb_at 478 (by decide +kernel) rfl⟩
theorem j_pcheck {l : Launch} {g : GG} {P : PHp} {a b : Nat} {v : Value} (hv : v = .null ∨ ∃ t : Nat, v = .ref t) (hab : a < b) (hb9 : b < 2 ^ 31) : Ct l g yJ3_checkIndex_8e157 cJ3_checkIndex_8e157 3 (some .int) 1 0 0 [.int (nI a), .int (nI b), v] NN P (pI (nI a) P) := by
  rcases hv with rfl | ⟨t, rfl⟩
  · refine Ct.of (lv := [some (.int (nI a)), some (.int (nI b)), some (.null)]) (by decide +kernel) rfl (Nat.le_of_ble_eq_true rfl) ?_
    intro Γ C
    refine V.iload_n (q := 1) C dJ3_checkIndex_8e157_0 rfl rfl ?_
    refine V.if_lt (q := 4) (tgt := 9) C dJ3_checkIndex_8e157_1 rfl rfl (fun h => absurd h (nI_pos (by omega))) (fun _ => ?_)
    refine V.iload_n (q := 5) C dJ3_checkIndex_8e157_4 rfl rfl ?_
    refine V.iload_n (q := 6) C dJ3_checkIndex_8e157_5 rfl rfl ?_
    refine V.icmp_lt (q := 9) (tgt := 16) C dJ3_checkIndex_8e157_6 rfl rfl (fun _ => ?_) (fun h => absurd (nI_lt hab hb9) h)
    refine V.iload_n (q := 17) C dJ3_checkIndex_8e157_16 rfl rfl ?_
    exact V.ireturn C dJ3_checkIndex_8e157_17 ⟨rfl, rfl, rfl⟩
  · refine Ct.of (lv := [some (.int (nI a)), some (.int (nI b)), some (.ref t)]) (by decide +kernel) rfl (Nat.le_of_ble_eq_true rfl) ?_
    intro Γ C
    refine V.iload_n (q := 1) C dJ3_checkIndex_8e157_0 rfl rfl ?_
    refine V.if_lt (q := 4) (tgt := 9) C dJ3_checkIndex_8e157_1 rfl rfl (fun h => absurd h (nI_pos (by omega))) (fun _ => ?_)
    refine V.iload_n (q := 5) C dJ3_checkIndex_8e157_4 rfl rfl ?_
    refine V.iload_n (q := 6) C dJ3_checkIndex_8e157_5 rfl rfl ?_
    refine V.icmp_lt (q := 9) (tgt := 16) C dJ3_checkIndex_8e157_6 rfl rfl (fun _ => ?_) (fun h => absurd (nI_lt hab hb9) h)
    refine V.iload_n (q := 17) C dJ3_checkIndex_8e157_16 rfl rfl ?_
    exact V.ireturn C dJ3_checkIndex_8e157_17 ⟨rfl, rfl, rfl⟩
theorem me_J0_checkIndex_df160 : MES yJ0_checkIndex_df160 cJ0_checkIndex_df160 2 none 2 := ⟨⟨tb_at 474 (by decide +kernel) rfl, tb_at 14 (by decide +kernel) rfl, (by decide +kernel), by decide⟩, tb_at 473 (by decide +kernel) rfl⟩
theorem j_scheck {l : Launch} {g : GG} {P : PHp} {a b : Nat} (hab : a < b) (hb9 : b < 2 ^ 31) : Ct l g yJ0_checkIndex_df160 cJ0_checkIndex_df160 2 none 2 0 0 [.int (nI a), .int (nI b)] NN P (pV P) := by
  refine Ct.of (lv := [some (.int (nI a)), some (.int (nI b))]) (by decide +kernel) rfl (Nat.le_of_ble_eq_true rfl) ?_
  intro Γ C
  refine V.iload_n (q := 1) C dJ0_checkIndex_df160_0 rfl rfl ?_
  refine V.iload_n (q := 2) C dJ0_checkIndex_df160_1 rfl rfl ?_
  refine V.getsF (q := 5) C (tb_at 475 (by decide +kernel) rfl) dJ0_checkIndex_df160_2 rfl (fun v hv => ?_)
  refine V.callSi (q := 8) (As := [.int (nI a), .int (nI b), v]) C me_J3_checkIndex_8e157 (j_pcheck hv hab hb9) (tb_at 477 (by decide +kernel) rfl) dJ0_checkIndex_df160_5 rfl rfl rfl (Nat.le_of_ble_eq_true rfl) (by omega) (Nat.zero_le _) (Nat.zero_le _) ?_
  refine V.pop (q := 9) C dJ0_checkIndex_df160_8 rfl rfl ?_
  exact V.vreturn C dJ0_checkIndex_df160_9 ⟨rfl, rfl, rfl⟩
theorem me_J1_charAt_3b067 : MES yJ1_charAt_3b067 cJ1_charAt_3b067 2 (some .char) 2 := ⟨⟨tb_at 471 (by decide +kernel) rfl, tb_at 15 (by decide +kernel) rfl, (by decide +kernel), by decide⟩, tb_at 470 (by decide +kernel) rfl⟩
theorem byt_c : ∀ i, i < 5 → ∀ j, j < lenS.getD i 0 → (((bytS.getD i []).getD j 0 &&& nI 255).toUInt32 % 65536).toInt32 = (bytS.getD i []).getD j 0 ∧ narrow .char (.int ((bytS.getD i []).getD j 0)) = .int ((bytS.getD i []).getD j 0) := by decide
theorem len_S : ∀ i, i < 5 → lenS.getD i 0 ≤ 6 := by decide
theorem j_lcharAt {l : Launch} {g : GG} {P : PHp} {i j : Nat} (hi : i < 5) (hj : j < lenS.getD i 0) : Ct l g yJ1_charAt_3b067 cJ1_charAt_3b067 2 (some .char) 3 0 0 [.ref (g.2.2.2.2 i), .int (nI j)] NN P (pI ((bytS.getD i []).getD j 0) P) := by
  have hl9 := len_S i hi
  refine Ct.of (lv := [some (.ref (g.2.2.2.2 i)), some (.int (nI j))]) (by decide +kernel) rfl (Nat.le_of_ble_eq_true rfl) ?_
  intro Γ C
  refine V.iload_n (q := 1) C dJ1_charAt_3b067_0 rfl rfl ?_
  refine V.aload_nR (q := 2) C dJ1_charAt_3b067_1 rfl rfl ?_
  refine V.slen (q := 3) C hi dJ1_charAt_3b067_2 rfl ?_
  refine V.callSv (q := 6) (As := [.int (nI j), .int (nI (lenS.getD i 0))]) C me_J0_checkIndex_df160 (j_scheck hj (by omega)) (tb_at 472 (by decide +kernel) rfl) dJ1_charAt_3b067_3 rfl rfl rfl (Nat.le_of_ble_eq_true rfl) (by omega) (Nat.zero_le _) (Nat.zero_le _) ?_
  refine V.aload_nR (q := 7) C dJ1_charAt_3b067_6 rfl rfl ?_
  refine V.iload_n (q := 8) C dJ1_charAt_3b067_7 rfl rfl ?_
  refine V.sbld (q := 9) (j := j) C hi rfl hj (by omega) dJ1_charAt_3b067_8 rfl ?_
  refine V.sipush (q := 12) (v := nI 255) C dJ1_charAt_3b067_9 rfl (by decide) ?_
  refine V.iand (q := 13) C dJ1_charAt_3b067_12 rfl ?_
  refine V.i2c (q := 14) C dJ1_charAt_3b067_13 rfl (byt_c i hi j hj).1 ?_
  exact V.zreturn C dJ1_charAt_3b067_14 (byt_c i hi j hj).2 ⟨rfl, rfl, rfl⟩
theorem me_J0_charAt_5068e : ME yJ0_charAt_5068e cJ0_charAt_5068e 2 (some .char) 1 ∧ Cond.instanceMethod yJ0_charAt_5068e ∈ gws ∧ Cond.selects yJ0_charAt_5068e.cls yJ0_charAt_5068e yJ0_charAt_5068e ∈ gws := ⟨⟨tb_at 464 (by decide +kernel) rfl, tb_at 14 (by decide +kernel) rfl, (by decide +kernel), by decide⟩, tb_at 462 (by decide +kernel) rfl, tb_at 463 (by decide +kernel) rfl⟩
theorem j_charAt {l : Launch} {g : GG} {P : PHp} {i j : Nat} (hi : i < 5) (hj : j < lenS.getD i 0) : Ct l g yJ0_charAt_5068e cJ0_charAt_5068e 2 (some .char) 4 0 0 [.ref (g.2.2.2.1 i), .int (nI j)] NN P (pI ((bytS.getD i []).getD j 0) P) := by
  refine Ct.of (lv := [some (.ref (g.2.2.2.1 i)), some (.int (nI j))]) (by decide +kernel) rfl (Nat.le_of_ble_eq_true rfl) ?_
  intro Γ C
  refine V.aload_nR (q := 1) C dJ0_charAt_5068e_0 rfl rfl ?_
  refine V.callK (q := 4) (As := []) (r := nI 1) C hi me_J0_isLatin1_aae02 rfl (j_isLatin1 hi) (tb_at 465 (by decide +kernel) rfl) dJ0_charAt_5068e_1 rfl rfl rfl (Nat.le_of_ble_eq_true rfl) (by omega) ?_
  refine V.if_eq (q := 7) (tgt := 16) C dJ0_charAt_5068e_4 rfl rfl (fun hb => absurd hb (by decide)) (fun _ => ?_)
  refine V.aload_nR (q := 8) C dJ0_charAt_5068e_7 rfl rfl ?_
  refine V.sgetV (q := 11) C hi (tb_at 1167 (by decide +kernel) rfl) dJ0_charAt_5068e_8 rfl ?_
  refine V.iload_n (q := 12) C dJ0_charAt_5068e_11 rfl rfl ?_
  refine V.callSi (q := 15) (As := [.ref (g.2.2.2.2 i), .int (nI j)]) C me_J1_charAt_3b067 (j_lcharAt hi hj) (tb_at 469 (by decide +kernel) rfl) dJ0_charAt_5068e_12 rfl rfl rfl (Nat.le_of_ble_eq_true rfl) (by omega) (Nat.zero_le _) (Nat.zero_le _) ?_
  exact V.zreturn C dJ0_charAt_5068e_15 (byt_c i hi j hj).2 ⟨rfl, rfl, rfl⟩
theorem me_J1_canEncode_9a6ad : MES yJ1_canEncode_9a6ad cJ1_canEncode_9a6ad 1 (some .boolean) 1 := ⟨⟨tb_at 541 (by decide +kernel) rfl, tb_at 15 (by decide +kernel) rfl, (by decide +kernel), by decide⟩, tb_at 540 (by decide +kernel) rfl⟩
theorem j_canEncode {l : Launch} {g : GG} {P : PHp} {c : Nat} (hc : c < 128) : Ct l g yJ1_canEncode_9a6ad cJ1_canEncode_9a6ad 1 (some .boolean) 1 0 0 [.int (nI c)] NN P (pI (nI 1) P) := by
  refine Ct.of (lv := [some (.int (nI c))]) (by decide +kernel) rfl (Nat.le_of_ble_eq_true rfl) ?_
  intro Γ C
  refine V.iload_n (q := 1) C dJ1_canEncode_9a6ad_0 rfl rfl ?_
  refine V.if_lt (q := 4) (tgt := 15) C dJ1_canEncode_9a6ad_1 rfl rfl (fun h => absurd h (nI_pos (by omega))) (fun _ => ?_)
  refine V.iload_n (q := 5) C dJ1_canEncode_9a6ad_4 rfl rfl ?_
  refine V.sipush (q := 8) (v := nI 255) C dJ1_canEncode_9a6ad_5 rfl (by decide) ?_
  refine V.icmp_gt (q := 11) (tgt := 15) C dJ1_canEncode_9a6ad_8 rfl rfl (fun h => absurd h (nI_nlt (by omega) (by omega))) (fun _ => ?_)
  refine V.iconst (q := 12) (v := nI 1) C dJ1_canEncode_9a6ad_11 rfl (by decide) ?_
  refine V.goto (tgt := 16) C dJ1_canEncode_9a6ad_12 rfl ?_
  exact V.zreturn C dJ1_canEncode_9a6ad_16 rfl ⟨rfl, rfl, rfl⟩
/-- the place of a sign from j on, f places long: or -1 -/
def ioF (i : Nat) (x : Int32) : Nat → Nat → Int32
  | 0, _ => -1
  | f + 1, j => if (bytS.getD i []).getD j 0 = x then nI j else ioF i x f (j + 1)
theorem me_J1_indexOfChar_4cfef : MES yJ1_indexOfChar_4cfef cJ1_indexOfChar_4cfef 6 (some .int) 4 := ⟨⟨tb_at 546 (by decide +kernel) rfl, tb_at 15 (by decide +kernel) rfl, (by decide +kernel), by decide⟩, tb_at 545 (by decide +kernel) rfl⟩
theorem byte_c : ∀ c, c < 128 → (nI c).toInt8.toInt32 = nI c := by decide
theorem j_indexOfChar_l {l : Launch} {g : GG} {P : PHp} {Γ : Cxt} {i c : Nat} (hi : i < 5) (C : Cx Γ g cJ1_indexOfChar_4cfef yJ1_indexOfChar_4cfef 6 (some .int) 1 0 0) : ∀ f j : Nat, j + f = (lenS.getD i 0) → V l Γ g 6 (QM Γ g (pI (ioF i (nI c) f j) P) 0 0) 0 0 NN P 7 [some (.ref (g.2.2.2.2 i)), some (.int (nI c)), some (.int (nI 0)), some (.int (nI (lenS.getD i 0))), some (.int (nI c)), some (.int (nI j))] [] := by
  have hl9 := len_S i hi
  intro f
  induction f with
  | zero =>
    intro j hj
    obtain rfl : j = lenS.getD i 0 := by omega
    refine V.iload (q := 9) C dJ1_indexOfChar_4cfef_7 rfl rfl ?_
    refine V.iload_n (q := 10) C dJ1_indexOfChar_4cfef_9 rfl rfl ?_
    refine V.icmp_ge (q := 13) (tgt := 31) C dJ1_indexOfChar_4cfef_10 rfl rfl (fun _ => ?_) (fun h => absurd (Int32.le_refl _) h)
    refine V.iconst (q := 32) (v := -1) C dJ1_indexOfChar_4cfef_31 rfl (by decide) ?_
    exact V.ireturn C dJ1_indexOfChar_4cfef_32 ⟨rfl, rfl, rfl⟩
  | succ f ih =>
    intro j hj
    refine V.iload (q := 9) C dJ1_indexOfChar_4cfef_7 rfl rfl ?_
    refine V.iload_n (q := 10) C dJ1_indexOfChar_4cfef_9 rfl rfl ?_
    refine V.icmp_ge (q := 13) (tgt := 31) C dJ1_indexOfChar_4cfef_10 rfl rfl (fun h => absurd ((nI_leI (by omega) (by omega)).mp h) (by omega)) (fun _ => ?_)
    refine V.aload_nR (q := 14) C dJ1_indexOfChar_4cfef_13 rfl rfl ?_
    refine V.iload (q := 16) C dJ1_indexOfChar_4cfef_14 rfl rfl ?_
    refine V.sbld (q := 17) (j := j) C hi rfl (by omega) (by omega) dJ1_indexOfChar_4cfef_16 rfl ?_
    refine V.iload (q := 19) C dJ1_indexOfChar_4cfef_17 rfl rfl ?_
    refine V.icmp_ne (q := 22) (tgt := 25) C dJ1_indexOfChar_4cfef_19 rfl rfl (fun hb => ?_) (fun hb => ?_)
    · refine V.iinc (q := 28) (v := nI (j + 1)) C dJ1_indexOfChar_4cfef_25 rfl rfl (nI_1 _) (by decide) rfl rfl ?_
      refine V.goto (tgt := 7) C dJ1_indexOfChar_4cfef_28 rfl ?_
      rw [show ioF i (nI c) (f + 1) j = ioF i (nI c) f (j + 1) from if_neg hb]
      exact ih (j + 1) (by omega)
    · refine V.iload (q := 24) C dJ1_indexOfChar_4cfef_22 rfl rfl ?_
      exact V.ireturn C dJ1_indexOfChar_4cfef_24 ⟨by rw [show ioF i (nI c) (f + 1) j = nI j from if_pos hb], rfl, rfl⟩
theorem j_indexOfChar {l : Launch} {g : GG} {P : PHp} {i c : Nat} (hi : i < 5) (hc : c < 128) : Ct l g yJ1_indexOfChar_4cfef cJ1_indexOfChar_4cfef 6 (some .int) 1 0 0 [.ref (g.2.2.2.2 i), .int (nI c), .int (nI 0), .int (nI (lenS.getD i 0))] NN P (pI (ioF i (nI c) (lenS.getD i 0) 0) P) := by
  refine Ct.of (lv := [some (.ref (g.2.2.2.2 i)), some (.int (nI c)), some (.int (nI 0)), some (.int (nI (lenS.getD i 0))), none, none]) (by decide +kernel) rfl (Nat.le_of_ble_eq_true rfl) ?_
  intro Γ C
  refine V.iload_n (q := 1) C dJ1_indexOfChar_4cfef_0 rfl rfl ?_
  refine V.i2b (q := 2) C dJ1_indexOfChar_4cfef_1 rfl (byte_c c hc) ?_
  refine V.istore (q := 4) C dJ1_indexOfChar_4cfef_2 rfl (by decide) rfl rfl ?_
  refine V.iload_n (q := 5) C dJ1_indexOfChar_4cfef_4 rfl rfl ?_
  refine V.istore (q := 7) C dJ1_indexOfChar_4cfef_5 rfl (by decide) rfl rfl ?_
  exact j_indexOfChar_l hi C (lenS.getD i 0) 0 (by omega)
theorem me_J1_indexOf_4cfef : MES yJ1_indexOf_4cfef cJ1_indexOf_4cfef 4 (some .int) 4 := ⟨⟨tb_at 538 (by decide +kernel) rfl, tb_at 15 (by decide +kernel) rfl, (by decide +kernel), by decide⟩, tb_at 537 (by decide +kernel) rfl⟩
theorem j_lindexOf {l : Launch} {g : GG} {P : PHp} {i c : Nat} (hi : i < 5) (hc : c < 128) : Ct l g yJ1_indexOf_4cfef cJ1_indexOf_4cfef 4 (some .int) 2 0 0 [.ref (g.2.2.2.2 i), .int (nI c), .int (nI 0), .int (nI (lenS.getD i 0))] NN P (pI (ioF i (nI c) (lenS.getD i 0) 0) P) := by
  have hl9 := len_S i hi
  have hp9 : 0 < lenS.getD i 0 := (show ∀ i, i < 5 → 0 < lenS.getD i 0 by decide) i hi
  refine Ct.of (lv := [some (.ref (g.2.2.2.2 i)), some (.int (nI c)), some (.int (nI 0)), some (.int (nI (lenS.getD i 0)))]) (by decide +kernel) rfl (Nat.le_of_ble_eq_true rfl) ?_
  intro Γ C
  refine V.iload_n (q := 1) C dJ1_indexOf_4cfef_0 rfl rfl ?_
  refine V.callSi (q := 4) (As := [.int (nI c)]) C me_J1_canEncode_9a6ad (j_canEncode hc) (tb_at 539 (by decide +kernel) rfl) dJ1_indexOf_4cfef_1 rfl rfl rfl (Nat.le_of_ble_eq_true rfl) (by omega) (Nat.zero_le _) (Nat.zero_le _) ?_
  refine V.if_ne (q := 7) (tgt := 9) C dJ1_indexOf_4cfef_4 rfl rfl (fun _ => ?_) (fun hb => absurd hb (by decide))
  refine V.iload_n (q := 10) C dJ1_indexOf_4cfef_9 rfl rfl ?_
  refine V.iconst (q := 11) (v := nI 0) C dJ1_indexOf_4cfef_10 rfl (by decide) ?_
  refine V.max (q := 14) C dJ1_indexOf_4cfef_11 (tb_at 542 (by decide +kernel) rfl) rfl ?_
  refine V.topi (x1 := nI 0) (by decide) ?_
  refine V.istore_n (q := 15) C dJ1_indexOf_4cfef_14 rfl (by decide) rfl rfl ?_
  refine V.iload_n (q := 16) C dJ1_indexOf_4cfef_15 rfl rfl ?_
  refine V.aload_nR (q := 17) C dJ1_indexOf_4cfef_16 rfl rfl ?_
  refine V.slen (q := 18) C hi dJ1_indexOf_4cfef_17 rfl ?_
  refine V.min (q := 21) C dJ1_indexOf_4cfef_18 (tb_at 543 (by decide +kernel) rfl) rfl ?_
  refine V.topi (x1 := nI (lenS.getD i 0)) (if_neg (nI_nlt (Nat.le_refl _) (by omega))) ?_
  refine V.istore_n (q := 22) C dJ1_indexOf_4cfef_21 rfl (by decide) rfl rfl ?_
  refine V.iload_n (q := 23) C dJ1_indexOf_4cfef_22 rfl rfl ?_
  refine V.iload_n (q := 24) C dJ1_indexOf_4cfef_23 rfl rfl ?_
  refine V.icmp_lt (q := 27) (tgt := 29) C dJ1_indexOf_4cfef_24 rfl rfl (fun _ => ?_) (fun h => absurd (nI_lt hp9 (by omega)) h)
  refine V.aload_nR (q := 30) C dJ1_indexOf_4cfef_29 rfl rfl ?_
  refine V.iload_n (q := 31) C dJ1_indexOf_4cfef_30 rfl rfl ?_
  refine V.iload_n (q := 32) C dJ1_indexOf_4cfef_31 rfl rfl ?_
  refine V.iload_n (q := 33) C dJ1_indexOf_4cfef_32 rfl rfl ?_
  refine V.callSi (q := 36) (As := [.ref (g.2.2.2.2 i), .int (nI c), .int (nI 0), .int (nI (lenS.getD i 0))]) C me_J1_indexOfChar_4cfef (j_indexOfChar hi hc) (tb_at 544 (by decide +kernel) rfl) dJ1_indexOf_4cfef_33 rfl rfl rfl (Nat.le_of_ble_eq_true rfl) (by omega) (Nat.zero_le _) (Nat.zero_le _) ?_
  exact V.ireturn C dJ1_indexOf_4cfef_36 ⟨rfl, rfl, rfl⟩
theorem me_J0_indexOf_7cf53 : ME yJ0_indexOf_7cf53 cJ0_indexOf_7cf53 3 (some .int) 2 ∧ Cond.instanceMethod yJ0_indexOf_7cf53 ∈ gws ∧ Cond.selects yJ0_indexOf_7cf53.cls yJ0_indexOf_7cf53 yJ0_indexOf_7cf53 ∈ gws := ⟨⟨tb_at 534 (by decide +kernel) rfl, tb_at 14 (by decide +kernel) rfl, (by decide +kernel), by decide⟩, tb_at 532 (by decide +kernel) rfl, tb_at 533 (by decide +kernel) rfl⟩
theorem j_indexOf2 {l : Launch} {g : GG} {P : PHp} {i c : Nat} (hi : i < 5) (hc : c < 128) : Ct l g yJ0_indexOf_7cf53 cJ0_indexOf_7cf53 3 (some .int) 3 0 0 [.ref (g.2.2.2.1 i), .int (nI c), .int (nI 0)] NN P (pI (ioF i (nI c) (lenS.getD i 0) 0) P) := by
  refine Ct.of (lv := [some (.ref (g.2.2.2.1 i)), some (.int (nI c)), some (.int (nI 0))]) (by decide +kernel) rfl (Nat.le_of_ble_eq_true rfl) ?_
  intro Γ C
  refine V.aload_nR (q := 1) C dJ0_indexOf_7cf53_0 rfl rfl ?_
  refine V.callK (q := 4) (As := []) (r := nI 1) C hi me_J0_isLatin1_aae02 rfl (j_isLatin1 hi) (tb_at 465 (by decide +kernel) rfl) dJ0_indexOf_7cf53_1 rfl rfl rfl (Nat.le_of_ble_eq_true rfl) (by omega) ?_
  refine V.if_eq (q := 7) (tgt := 23) C dJ0_indexOf_7cf53_4 rfl rfl (fun hb => absurd hb (by decide)) (fun _ => ?_)
  refine V.aload_nR (q := 8) C dJ0_indexOf_7cf53_7 rfl rfl ?_
  refine V.sgetV (q := 11) C hi (tb_at 1167 (by decide +kernel) rfl) dJ0_indexOf_7cf53_8 rfl ?_
  refine V.iload_n (q := 12) C dJ0_indexOf_7cf53_11 rfl rfl ?_
  refine V.iload_n (q := 13) C dJ0_indexOf_7cf53_12 rfl rfl ?_
  refine V.aload_nR (q := 14) C dJ0_indexOf_7cf53_13 rfl rfl ?_
  refine V.callK (q := 17) (As := []) C hi me_J0_length_8abf5 rfl (j_length hi) (tb_at 535 (by decide +kernel) rfl) dJ0_indexOf_7cf53_14 rfl rfl rfl (Nat.le_of_ble_eq_true rfl) (by omega) ?_
  refine V.callSi (q := 20) (As := [.ref (g.2.2.2.2 i), .int (nI c), .int (nI 0), .int (nI (lenS.getD i 0))]) C me_J1_indexOf_4cfef (j_lindexOf hi hc) (tb_at 536 (by decide +kernel) rfl) dJ0_indexOf_7cf53_17 rfl rfl rfl (Nat.le_of_ble_eq_true rfl) (by omega) (Nat.zero_le _) (Nat.zero_le _) ?_
  refine V.goto (tgt := 36) C dJ0_indexOf_7cf53_20 rfl ?_
  exact V.ireturn C dJ0_indexOf_7cf53_36 ⟨rfl, rfl, rfl⟩
theorem me_J0_indexOf_0f7a4 : ME yJ0_indexOf_0f7a4 cJ0_indexOf_0f7a4 2 (some .int) 1 ∧ Cond.instanceMethod yJ0_indexOf_0f7a4 ∈ gws ∧ Cond.selects yJ0_indexOf_0f7a4.cls yJ0_indexOf_0f7a4 yJ0_indexOf_0f7a4 ∈ gws := ⟨⟨tb_at 530 (by decide +kernel) rfl, tb_at 14 (by decide +kernel) rfl, (by decide +kernel), by decide⟩, tb_at 528 (by decide +kernel) rfl, tb_at 529 (by decide +kernel) rfl⟩
theorem j_indexOf {l : Launch} {g : GG} {P : PHp} {i c : Nat} (hi : i < 5) (hc : c < 128) : Ct l g yJ0_indexOf_0f7a4 cJ0_indexOf_0f7a4 2 (some .int) 4 0 0 [.ref (g.2.2.2.1 i), .int (nI c)] NN P (pI (ioF i (nI c) (lenS.getD i 0) 0) P) := by
  refine Ct.of (lv := [some (.ref (g.2.2.2.1 i)), some (.int (nI c))]) (by decide +kernel) rfl (Nat.le_of_ble_eq_true rfl) ?_
  intro Γ C
  refine V.aload_nR (q := 1) C dJ0_indexOf_0f7a4_0 rfl rfl ?_
  refine V.iload_n (q := 2) C dJ0_indexOf_0f7a4_1 rfl rfl ?_
  refine V.iconst (q := 3) (v := nI 0) C dJ0_indexOf_0f7a4_2 rfl (by decide) ?_
  refine V.callK (q := 6) (As := [.int (nI c), .int (nI 0)]) C hi me_J0_indexOf_7cf53 rfl (j_indexOf2 hi hc) (tb_at 531 (by decide +kernel) rfl) dJ0_indexOf_0f7a4_3 rfl rfl rfl (Nat.le_of_ble_eq_true rfl) (by omega) ?_
  exact V.ireturn C dJ0_indexOf_0f7a4_6 ⟨rfl, rfl, rfl⟩
