theorem hM_now {g : GG} {X : PHp} {now now1 mind : I1} {th : I1 × Int32} {tx : TXt} {z : Zt} {tr : I1 × Int32} {tp : TPt} (h : ∀ j, j < 152 → now j = now1 j) : jn X (hM g now mind th tx z tr tp) = jn X (hM g now1 mind th tx z tr tp) := by
  have e := aI_eq (g := g) h
  unfold hM
  rw [e]
theorem hM_mind {g : GG} {X : PHp} {now mind mind1 : I1} {th : I1 × Int32} {tx : TXt} {z : Zt} {tr : I1 × Int32} {tp : TPt} (h : ∀ j, j < 152 → mind j = mind1 j) : jn X (hM g now mind th tx z tr tp) = jn X (hM g now mind1 th tx z tr tp) := by
  have e := aI_eq (g := g) h
  unfold hM
  rw [e]
theorem m_isIn {l : Launch} {g : GG} {P : PHp} {v lo hi : Int32} : Ct l g yX10_isIn cX10_isIn 3 (some .boolean) 1 0 0 [.int v, .int lo, .int hi] NN P (pI (b2i (inR v lo hi = true)) P) := by
  refine Ct.of (lv := [some (.int v), some (.int lo), some (.int hi)]) (by decide +kernel) rfl (Nat.le_of_ble_eq_true rfl) ?_
  intro Γ C
  refine V.iload_n (q := 1) C dX10_isIn_0 rfl rfl ?_
  refine V.iload_n (q := 2) C dX10_isIn_1 rfl rfl ?_
  refine V.icmp_lt (q := 5) (tgt := 14) C dX10_isIn_2 rfl rfl (fun hb2 => ?_) (fun hb2 => ?_)
  · refine V.iconst (q := 15) (v := nI 0) C dX10_isIn_14 rfl (by decide) ?_
    exact V.zreturn C dX10_isIn_15 rfl ⟨by rw [b2i_f (fun q => (InR_iff.mp q).1 hb2)], rfl, rfl⟩
  · refine V.iload_n (q := 6) C dX10_isIn_5 rfl rfl ?_
    refine V.iload_n (q := 7) C dX10_isIn_6 rfl rfl ?_
    refine V.icmp_gt (q := 10) (tgt := 14) C dX10_isIn_7 rfl rfl (fun hb7 => ?_) (fun hb7 => ?_)
    · refine V.iconst (q := 15) (v := nI 0) C dX10_isIn_14 rfl (by decide) ?_
      exact V.zreturn C dX10_isIn_15 rfl ⟨by rw [b2i_f (fun q => (InR_iff.mp q).2 hb7)], rfl, rfl⟩
    · refine V.iconst (q := 11) (v := nI 1) C dX10_isIn_10 rfl (by decide) ?_
      refine V.goto (tgt := 15) C dX10_isIn_11 rfl ?_
      exact V.zreturn C dX10_isIn_15 rfl ⟨by rw [b2i_t (InR_iff.mpr ⟨hb2, hb7⟩)], rfl, rfl⟩
theorem m_one {l : Launch} {g : GG} {X : PHp} {now mind : I1} {th : I1 × Int32} {tx : TXt} {z : Zt} {tr : I1 × Int32} {tp : TPt} {i w : Nat} (h : 9 * i + w < 152) : Ct l g yX10_one cX10_one 3 (some .int) 1 0 0 [rf g (22, 0, 0), .int (nI i), .int (nI w)] NN (jn X (hM g now mind th tx z tr tp)) (pI (now (9 * i + w)) (jn X (hM g now mind th tx z tr tp))) := by
  refine Ct.of (lv := [some (rf g (22, 0, 0)), some (.int (nI i)), some (.int (nI w))]) (by decide +kernel) rfl (Nat.le_of_ble_eq_true rfl) ?_
  intro Γ C
  refine V.aload_n (q := 1) C dX10_one_0 rfl rfl ?_
  refine V.get (q := 4) C fl_X10_9 dX10_one_1 rfl okM rfl rfl ?_
  refine V.bipush (q := 6) (v := nI 9) C dX10_one_4 rfl (by decide) ?_
  refine V.iload_n (q := 7) C dX10_one_6 rfl rfl ?_
  refine V.imul (q := 8) C dX10_one_7 rfl ?_
  refine V.topi (x1 := nI (9 * i)) (pk_mul _ _) ?_
  refine V.iload_n (q := 9) C dX10_one_8 rfl rfl ?_
  refine V.iadd (q := 10) C dX10_one_9 rfl ?_
  refine V.topi (x1 := nI ((9 * i) + w)) (nI_add _ _) ?_
  refine V.ild (q := 11) (i := ((9 * i) + w)) C dX10_one_10 rfl okM_0 rfl rfl (by omega) (by decide) ?_
  exact V.ireturn C dX10_one_11 ⟨rfl, rfl, rfl⟩
theorem m_word {l : Launch} {g : GG} {X : PHp} {now mind : I1} {th : I1 × Int32} {tx : TXt} {z : Zt} {tr : I1 × Int32} {tp : TPt} {s w : Nat} (h : 54 + 3 * s + w < 152) : Ct l g yX10_word cX10_word 3 (some .int) 1 0 0 [rf g (22, 0, 0), .int (nI s), .int (nI w)] NN (jn X (hM g now mind th tx z tr tp)) (pI (now (54 + 3 * s + w)) (jn X (hM g now mind th tx z tr tp))) := by
  refine Ct.of (lv := [some (rf g (22, 0, 0)), some (.int (nI s)), some (.int (nI w))]) (by decide +kernel) rfl (Nat.le_of_ble_eq_true rfl) ?_
  intro Γ C
  refine V.aload_n (q := 1) C dX10_word_0 rfl rfl ?_
  refine V.get (q := 4) C fl_X10_9 dX10_word_1 rfl okM rfl rfl ?_
  refine V.bipush (q := 6) (v := nI 54) C dX10_word_4 rfl (by decide) ?_
  refine V.iconst (q := 7) (v := nI 3) C dX10_word_6 rfl (by decide) ?_
  refine V.iload_n (q := 8) C dX10_word_7 rfl rfl ?_
  refine V.imul (q := 9) C dX10_word_8 rfl ?_
  refine V.topi (x1 := nI (3 * s)) (pk_mul _ _) ?_
  refine V.iadd (q := 10) C dX10_word_9 rfl ?_
  refine V.topi (x1 := nI (54 + (3 * s))) (nI_add _ _) ?_
  refine V.iload_n (q := 11) C dX10_word_10 rfl rfl ?_
  refine V.iadd (q := 12) C dX10_word_11 rfl ?_
  refine V.topi (x1 := nI ((54 + (3 * s)) + w)) (nI_add _ _) ?_
  refine V.ild (q := 13) (i := ((54 + (3 * s)) + w)) C dX10_word_12 rfl okM_0 rfl rfl (by omega) (by decide) ?_
  exact V.ireturn C dX10_word_13 ⟨rfl, rfl, rfl⟩
theorem m_change {l : Launch} {g : GG} {X : PHp} {now mind : I1} {th : I1 × Int32} {tx : TXt} {z : Zt} {tr : I1 × Int32} {tp : TPt} {i w : Nat} {v : Int32} (h : 9 * i + w < 152) : Ct l g yX10_change cX10_change 5 (some .int) 2 0 0 [rf g (22, 0, 0), .int (nI i), .int (nI w), .int v] NN (jn X (hM g now mind th tx z tr tp)) (pI (now (9 * i + w)) (jn X (hM g (upd now (9 * i + w) v) mind th tx z tr tp))) := by
  refine Ct.of (lv := [some (rf g (22, 0, 0)), some (.int (nI i)), some (.int (nI w)), some (.int v), none]) (by decide +kernel) rfl (Nat.le_of_ble_eq_true rfl) ?_
  intro Γ C
  refine V.aload_n (q := 1) C dX10_change_0 rfl rfl ?_
  refine V.iload_n (q := 2) C dX10_change_1 rfl rfl ?_
  refine V.iload_n (q := 3) C dX10_change_2 rfl rfl ?_
  refine V.callVi (q := 6) C me_X10_one (m_one (by omega)) ml_X10_86 dX10_change_3 rfl okM ⟨_, rfl⟩ rfl rfl (Nat.le_of_ble_eq_true rfl) (by omega) (Nat.zero_le _) (Nat.zero_le _) ?_
  refine V.istore (q := 8) C dX10_change_6 rfl (by decide) rfl rfl ?_
  refine V.aload_n (q := 9) C dX10_change_8 rfl rfl ?_
  refine V.get (q := 12) C fl_X10_9 dX10_change_9 rfl okM rfl rfl ?_
  refine V.bipush (q := 14) (v := nI 9) C dX10_change_12 rfl (by decide) ?_
  refine V.iload_n (q := 15) C dX10_change_14 rfl rfl ?_
  refine V.imul (q := 16) C dX10_change_15 rfl ?_
  refine V.topi (x1 := nI (9 * i)) (pk_mul _ _) ?_
  refine V.iload_n (q := 17) C dX10_change_16 rfl rfl ?_
  refine V.iadd (q := 18) C dX10_change_17 rfl ?_
  refine V.topi (x1 := nI ((9 * i) + w)) (nI_add _ _) ?_
  refine V.iload_n (q := 19) C dX10_change_18 rfl rfl ?_
  refine V.ist (q := 20) (i := ((9 * i) + w)) C dX10_change_19 rfl okM_0 rfl rfl (by omega) (by decide) uM_now ?_
  refine V.iload (q := 22) C dX10_change_20 rfl rfl ?_
  exact V.ireturn C dX10_change_22 ⟨rfl, rfl, rfl⟩
theorem m_aims {l : Launch} {g : GG} {X : PHp} {now mind : I1} {th : I1 × Int32} {tx : TXt} {z : Zt} {tr : I1 × Int32} {tp : TPt} {s : Nat} {v : Int32} (h : s < 8) : Ct l g yX10_aims cX10_aims 4 (some .int) 2 0 0 [rf g (22, 0, 0), .int (nI s), .int v] NN (jn X (hM g now mind th tx z tr tp)) (pI (now (54 + 3 * s + 2)) (jn X (hM g (upd now (54 + 3 * s + 2) v) mind th tx z tr tp))) := by
  refine Ct.of (lv := [some (rf g (22, 0, 0)), some (.int (nI s)), some (.int v), none]) (by decide +kernel) rfl (Nat.le_of_ble_eq_true rfl) ?_
  intro Γ C
  refine V.aload_n (q := 1) C dX10_aims_0 rfl rfl ?_
  refine V.iload_n (q := 2) C dX10_aims_1 rfl rfl ?_
  refine V.iconst (q := 3) (v := nI 2) C dX10_aims_2 rfl (by decide) ?_
  refine V.callVi (q := 6) C me_X10_word (m_word (by omega)) ml_X10_90 dX10_aims_3 rfl okM ⟨_, rfl⟩ rfl rfl (Nat.le_of_ble_eq_true rfl) (by omega) (Nat.zero_le _) (Nat.zero_le _) ?_
  refine V.istore_n (q := 7) C dX10_aims_6 rfl (by decide) rfl rfl ?_
  refine V.aload_n (q := 8) C dX10_aims_7 rfl rfl ?_
  refine V.get (q := 11) C fl_X10_9 dX10_aims_8 rfl okM rfl rfl ?_
  refine V.bipush (q := 13) (v := nI 54) C dX10_aims_11 rfl (by decide) ?_
  refine V.iconst (q := 14) (v := nI 3) C dX10_aims_13 rfl (by decide) ?_
  refine V.iload_n (q := 15) C dX10_aims_14 rfl rfl ?_
  refine V.imul (q := 16) C dX10_aims_15 rfl ?_
  refine V.topi (x1 := nI (3 * s)) (pk_mul _ _) ?_
  refine V.iadd (q := 17) C dX10_aims_16 rfl ?_
  refine V.topi (x1 := nI (54 + (3 * s))) (nI_add _ _) ?_
  refine V.iconst (q := 18) (v := nI 2) C dX10_aims_17 rfl (by decide) ?_
  refine V.iadd (q := 19) C dX10_aims_18 rfl ?_
  refine V.topi (x1 := nI ((54 + (3 * s)) + 2)) (nI_add _ _) ?_
  refine V.iload_n (q := 20) C dX10_aims_19 rfl rfl ?_
  refine V.ist (q := 21) (i := ((54 + (3 * s)) + 2)) C dX10_aims_20 rfl okM_0 rfl rfl (by omega) (by decide) uM_now ?_
  refine V.iload_n (q := 22) C dX10_aims_21 rfl rfl ?_
  exact V.ireturn C dX10_aims_22 ⟨rfl, rfl, rfl⟩
theorem m_orNever {l : Launch} {g : GG} {P : PHp} {v : Int32} : Ct l g yX10_orNever cX10_orNever 1 (some .int) 1 0 0 [.int v] NN P (pI (noN v) P) := by
  refine Ct.of (lv := [some (.int v)]) (by decide +kernel) rfl (Nat.le_of_ble_eq_true rfl) ?_
  intro Γ C
  refine V.iload_n (q := 1) C dX10_orNever_0 rfl rfl ?_
  refine V.iconst (q := 2) (v := -1) C dX10_orNever_1 rfl (by decide) ?_
  refine V.icmp_ne (q := 5) (tgt := 10) C dX10_orNever_2 rfl rfl (fun hb2 => ?_) (fun hb2 => ?_)
  · refine V.iload_n (q := 11) C dX10_orNever_10 rfl rfl ?_
    exact V.ireturn C dX10_orNever_11 ⟨by rw [noN, if_neg hb2], rfl, rfl⟩
  · refine V.bipush (q := 7) (v := -5) C dX10_orNever_5 rfl (by decide) ?_
    refine V.goto (tgt := 11) C dX10_orNever_7 rfl ?_
    exact V.ireturn C dX10_orNever_11 ⟨by rw [noN, if_pos hb2], rfl, rfl⟩
theorem m_isOne {l : Launch} {g : GG} {X : PHp} {now mind : I1} {th : I1 × Int32} {tx : TXt} {z : Zt} {tr : I1 × Int32} {tp : TPt} {n : Nat} {v : Int32} (hn : now 78 = nI n) (hn9 : n < 9) : Ct l g yX10_isOne cX10_isOne 2 (some .boolean) 2 0 0 [rf g (22, 0, 0), .int v] NN (jn X (hM g now mind th tx z tr tp)) (pI (b2i (inN v n = true)) (jn X (hM g now mind th tx z tr tp))) := by
  refine Ct.of (lv := [some (rf g (22, 0, 0)), some (.int v)]) (by decide +kernel) rfl (Nat.le_of_ble_eq_true rfl) ?_
  intro Γ C
  refine V.iload_n (q := 1) C dX10_isOne_0 rfl rfl ?_
  refine V.iconst (q := 2) (v := nI 0) C dX10_isOne_1 rfl (by decide) ?_
  refine V.aload_n (q := 3) C dX10_isOne_2 rfl rfl ?_
  refine V.get (q := 6) C fl_X10_9 dX10_isOne_3 rfl okM rfl rfl ?_
  refine V.bipush (q := 8) (v := nI 78) C dX10_isOne_6 rfl (by decide) ?_
  refine V.ild (q := 9) (i := 78) C dX10_isOne_8 rfl okM_0 rfl rfl (by omega) (by decide) ?_
  refine V.topi (x1 := nI (n)) hn ?_
  refine V.iconst (q := 10) (v := nI 1) C dX10_isOne_9 rfl (by decide) ?_
  refine V.isub (q := 11) C dX10_isOne_10 rfl ?_
  refine V.callSi (q := 14) C me_X10_isIn m_isIn ml_X10_82 dX10_isOne_11 rfl rfl rfl (Nat.le_of_ble_eq_true rfl) (by omega) (Nat.zero_le _) (Nat.zero_le _) ?_
  exact V.zreturn C dX10_isOne_14 b2i_n ⟨by rw [b2i_iff (InR_InN (by omega))], rfl, rfl⟩
theorem m_isSaying {l : Launch} {g : GG} {X : PHp} {now mind : I1} {th : I1 × Int32} {tx : TXt} {z : Zt} {tr : I1 × Int32} {tp : TPt} {n : Nat} {v : Int32} (hn : now 79 = nI n) (hn9 : n < 9) : Ct l g yX10_isSaying cX10_isSaying 2 (some .boolean) 2 0 0 [rf g (22, 0, 0), .int v] NN (jn X (hM g now mind th tx z tr tp)) (pI (b2i (inN v n = true)) (jn X (hM g now mind th tx z tr tp))) := by
  refine Ct.of (lv := [some (rf g (22, 0, 0)), some (.int v)]) (by decide +kernel) rfl (Nat.le_of_ble_eq_true rfl) ?_
  intro Γ C
  refine V.iload_n (q := 1) C dX10_isSaying_0 rfl rfl ?_
  refine V.iconst (q := 2) (v := nI 0) C dX10_isSaying_1 rfl (by decide) ?_
  refine V.aload_n (q := 3) C dX10_isSaying_2 rfl rfl ?_
  refine V.get (q := 6) C fl_X10_9 dX10_isSaying_3 rfl okM rfl rfl ?_
  refine V.bipush (q := 8) (v := nI 79) C dX10_isSaying_6 rfl (by decide) ?_
  refine V.ild (q := 9) (i := 79) C dX10_isSaying_8 rfl okM_0 rfl rfl (by omega) (by decide) ?_
  refine V.topi (x1 := nI (n)) hn ?_
  refine V.iconst (q := 10) (v := nI 1) C dX10_isSaying_9 rfl (by decide) ?_
  refine V.isub (q := 11) C dX10_isSaying_10 rfl ?_
  refine V.callSi (q := 14) C me_X10_isIn m_isIn ml_X10_82 dX10_isSaying_11 rfl rfl rfl (Nat.le_of_ble_eq_true rfl) (by omega) (Nat.zero_le _) (Nat.zero_le _) ?_
  exact V.zreturn C dX10_isSaying_14 b2i_n ⟨by rw [b2i_iff (InR_InN (by omega))], rfl, rfl⟩
theorem m_isTape {l : Launch} {g : GG} {P : PHp} {v : Int32} : Ct l g yX10_isTape cX10_isTape 1 (some .boolean) 2 0 0 [.int v] NN P (pI (b2i (inN v 6 = true)) P) := by
  refine Ct.of (lv := [some (.int v)]) (by decide +kernel) rfl (Nat.le_of_ble_eq_true rfl) ?_
  intro Γ C
  refine V.iload_n (q := 1) C dX10_isTape_0 rfl rfl ?_
  refine V.iconst (q := 2) (v := nI 0) C dX10_isTape_1 rfl (by decide) ?_
  refine V.iconst (q := 3) (v := nI 5) C dX10_isTape_2 rfl (by decide) ?_
  refine V.callSi (q := 6) C me_X10_isIn m_isIn ml_X10_82 dX10_isTape_3 rfl rfl rfl (Nat.le_of_ble_eq_true rfl) (by omega) (Nat.zero_le _) (Nat.zero_le _) ?_
  exact V.zreturn C dX10_isTape_6 b2i_n ⟨by rw [show nI 5 = nI 6 - nI 1 by decide, b2i_iff (InR_InN (n := 6) (v := v) (by omega))], rfl, rfl⟩
