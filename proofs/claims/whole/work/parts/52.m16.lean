theorem m_act_0 {l : Launch} {g : GG} {X : PHp} {now mind : I1} {th : I1 × Int32} {tx : TXt} {z : Zt} {tr : I1 × Int32} {tp : TPt} {n : Nat} (hn : now 78 = nI n) (hn6 : n ≤ 6) (hK : ∀ i, i < n → ∃ K, K < 7 ∧ now (9 * i + 0) = nI K) {p x : Int32} : Ct l g yX10_act cX10_act 4 (some .int) 12 0 0 [rf g (22, 0, 0), .int p, .int (nI 0), .int x] NN (jn X (hM g now mind th tx z tr tp)) (pI (actQ now tr.1 n p (nI 0) x).1 (jn X (hM g now mind th tx z ((actQ now tr.1 n p (nI 0) x).2.1, nI (actQ now tr.1 n p (nI 0) x).2.2) tp))) := by
  refine Ct.of (lv := [some (rf g (22, 0, 0)), some (.int p), some (.int (nI 0)), some (.int x)]) (by decide +kernel) rfl (Nat.le_of_ble_eq_true rfl) ?_
  intro Γ C
  refine V.aload_n (q := 1) C dX10_act_0 rfl rfl ?_
  refine V.iconst (q := 2) (v := nI 0) C dX10_act_1 rfl (by decide) ?_
  refine V.put (q := 5) C fl_X10_249 rfl dX10_act_2 rfl okM rfl (Nat.le_of_ble_eq_true rfl) rfl rfl uM_ran ?_
  try dsimp only
  refine V.aload_n (q := 6) C dX10_act_5 rfl rfl ?_
  refine V.iload_n (q := 7) C dX10_act_6 rfl rfl ?_
  refine V.callVi (q := 10) C me_X10_isOne (m_isOne hn (by omega)) ml_X10_97 dX10_act_7 rfl okM ⟨_, rfl⟩ rfl rfl (Nat.le_of_ble_eq_true rfl) (by omega) (Nat.zero_le _) (Nat.zero_le _) ?_
  refine V.if_eqB (q := 13) (tgt := 32) C dX10_act_10 rfl rfl (fun hb10 => ?_) (fun hb10 => ?_)
  · refine V.iconst (q := 33) (v := nI 0) C dX10_act_32 rfl (by decide) ?_
    exact V.ireturn C dX10_act_33 ⟨by rw [actQ, if_neg hb10] <;> rfl, by rw [actQ, if_neg hb10], rfl⟩
  · have hn9 := hb10
    obtain ⟨j, hj, rfl⟩ := InN_nat (by omega) hb10
    have hj6 : j < 6 := by omega
    obtain ⟨K, hK7, hK1⟩ := hK j hj
    refine V.iload_n (q := 14) C dX10_act_13 rfl rfl ?_
    refine V.iconst (q := 15) (v := nI 0) C dX10_act_14 rfl (by decide) ?_
    refine V.iconst (q := 16) (v := nI 2) C dX10_act_15 rfl (by decide) ?_
    refine V.callSi (q := 19) C me_X10_isIn m_isIn ml_X10_82 dX10_act_16 rfl rfl rfl (Nat.le_of_ble_eq_true rfl) (by omega) (Nat.zero_le _) (Nat.zero_le _) ?_
    refine V.if_eqB (q := 22) (tgt := 32) C dX10_act_19 rfl rfl (fun hb19 => ?_) (fun hb19 => ?_)
    · exact absurd (by decide) hb19
    · refine V.aload_n (q := 23) C dX10_act_22 rfl rfl ?_
      refine V.iload_n (q := 24) C dX10_act_23 rfl rfl ?_
      refine V.iload_n (q := 25) C dX10_act_24 rfl rfl ?_
      refine V.iload_n (q := 26) C dX10_act_25 rfl rfl ?_
      refine V.callVi (q := 29) C me_X10_begin (m_begin0 (lv := 4) (s := (tr.1, 0)) (by omega) hj6 hK7 hK1 (Nat.zero_le _)) ml_X10_258 dX10_act_26 rfl okM ⟨_, rfl⟩ rfl rfl (Nat.le_of_ble_eq_true rfl) (by omega) (Nat.zero_le _) (Nat.zero_le _) ?_
      refine V.goto (tgt := 33) C dX10_act_29 rfl ?_
      exact V.ireturn C dX10_act_33 ⟨by rw [act_0 hn9 hj6 hK1 hK7], by rw [act_0 hn9 hj6 hK1 hK7], rfl⟩
theorem m_act_1 {l : Launch} {g : GG} {X : PHp} {now mind : I1} {th : I1 × Int32} {tx : TXt} {z : Zt} {tr : I1 × Int32} {tp : TPt} {n : Nat} (hn : now 78 = nI n) (hn6 : n ≤ 6) (hK : ∀ i, i < n → ∃ K, K < 7 ∧ now (9 * i + 0) = nI K) {p x : Int32} : Ct l g yX10_act cX10_act 4 (some .int) 12 0 0 [rf g (22, 0, 0), .int p, .int (nI 1), .int x] NN (jn X (hM g now mind th tx z tr tp)) (pI (actQ now tr.1 n p (nI 1) x).1 (jn X (hM g now mind th tx z ((actQ now tr.1 n p (nI 1) x).2.1, nI (actQ now tr.1 n p (nI 1) x).2.2) tp))) := by
  refine Ct.of (lv := [some (rf g (22, 0, 0)), some (.int p), some (.int (nI 1)), some (.int x)]) (by decide +kernel) rfl (Nat.le_of_ble_eq_true rfl) ?_
  intro Γ C
  refine V.aload_n (q := 1) C dX10_act_0 rfl rfl ?_
  refine V.iconst (q := 2) (v := nI 0) C dX10_act_1 rfl (by decide) ?_
  refine V.put (q := 5) C fl_X10_249 rfl dX10_act_2 rfl okM rfl (Nat.le_of_ble_eq_true rfl) rfl rfl uM_ran ?_
  try dsimp only
  refine V.aload_n (q := 6) C dX10_act_5 rfl rfl ?_
  refine V.iload_n (q := 7) C dX10_act_6 rfl rfl ?_
  refine V.callVi (q := 10) C me_X10_isOne (m_isOne hn (by omega)) ml_X10_97 dX10_act_7 rfl okM ⟨_, rfl⟩ rfl rfl (Nat.le_of_ble_eq_true rfl) (by omega) (Nat.zero_le _) (Nat.zero_le _) ?_
  refine V.if_eqB (q := 13) (tgt := 32) C dX10_act_10 rfl rfl (fun hb10 => ?_) (fun hb10 => ?_)
  · refine V.iconst (q := 33) (v := nI 0) C dX10_act_32 rfl (by decide) ?_
    exact V.ireturn C dX10_act_33 ⟨by rw [actQ, if_neg hb10] <;> rfl, by rw [actQ, if_neg hb10], rfl⟩
  · have hn9 := hb10
    obtain ⟨j, hj, rfl⟩ := InN_nat (by omega) hb10
    have hj6 : j < 6 := by omega
    obtain ⟨K, hK7, hK1⟩ := hK j hj
    refine V.iload_n (q := 14) C dX10_act_13 rfl rfl ?_
    refine V.iconst (q := 15) (v := nI 0) C dX10_act_14 rfl (by decide) ?_
    refine V.iconst (q := 16) (v := nI 2) C dX10_act_15 rfl (by decide) ?_
    refine V.callSi (q := 19) C me_X10_isIn m_isIn ml_X10_82 dX10_act_16 rfl rfl rfl (Nat.le_of_ble_eq_true rfl) (by omega) (Nat.zero_le _) (Nat.zero_le _) ?_
    refine V.if_eqB (q := 22) (tgt := 32) C dX10_act_19 rfl rfl (fun hb19 => ?_) (fun hb19 => ?_)
    · exact absurd (by decide) hb19
    · refine V.aload_n (q := 23) C dX10_act_22 rfl rfl ?_
      refine V.iload_n (q := 24) C dX10_act_23 rfl rfl ?_
      refine V.iload_n (q := 25) C dX10_act_24 rfl rfl ?_
      refine V.iload_n (q := 26) C dX10_act_25 rfl rfl ?_
      refine V.callVi (q := 29) C me_X10_begin (m_begin1 (lv := 8) (s := (tr.1, 0)) (by omega) hj6 hK7 hK1 (Nat.zero_le _)) ml_X10_258 dX10_act_26 rfl okM ⟨_, rfl⟩ rfl rfl (Nat.le_of_ble_eq_true rfl) (by omega) (Nat.zero_le _) (Nat.zero_le _) ?_
      refine V.goto (tgt := 33) C dX10_act_29 rfl ?_
      exact V.ireturn C dX10_act_33 ⟨by rw [act_1 hn9 hj6 hK1 hK7], by rw [act_1 hn9 hj6 hK1 hK7], rfl⟩
theorem m_act_2 {l : Launch} {g : GG} {X : PHp} {now mind : I1} {th : I1 × Int32} {tx : TXt} {z : Zt} {tr : I1 × Int32} {tp : TPt} {n : Nat} (hn : now 78 = nI n) (hn6 : n ≤ 6) (hK : ∀ i, i < n → ∃ K, K < 7 ∧ now (9 * i + 0) = nI K) {p x : Int32} : Ct l g yX10_act cX10_act 4 (some .int) 12 0 0 [rf g (22, 0, 0), .int p, .int (nI 2), .int x] NN (jn X (hM g now mind th tx z tr tp)) (pI (actQ now tr.1 n p (nI 2) x).1 (jn X (hM g now mind th tx z ((actQ now tr.1 n p (nI 2) x).2.1, nI (actQ now tr.1 n p (nI 2) x).2.2) tp))) := by
  refine Ct.of (lv := [some (rf g (22, 0, 0)), some (.int p), some (.int (nI 2)), some (.int x)]) (by decide +kernel) rfl (Nat.le_of_ble_eq_true rfl) ?_
  intro Γ C
  refine V.aload_n (q := 1) C dX10_act_0 rfl rfl ?_
  refine V.iconst (q := 2) (v := nI 0) C dX10_act_1 rfl (by decide) ?_
  refine V.put (q := 5) C fl_X10_249 rfl dX10_act_2 rfl okM rfl (Nat.le_of_ble_eq_true rfl) rfl rfl uM_ran ?_
  try dsimp only
  refine V.aload_n (q := 6) C dX10_act_5 rfl rfl ?_
  refine V.iload_n (q := 7) C dX10_act_6 rfl rfl ?_
  refine V.callVi (q := 10) C me_X10_isOne (m_isOne hn (by omega)) ml_X10_97 dX10_act_7 rfl okM ⟨_, rfl⟩ rfl rfl (Nat.le_of_ble_eq_true rfl) (by omega) (Nat.zero_le _) (Nat.zero_le _) ?_
  refine V.if_eqB (q := 13) (tgt := 32) C dX10_act_10 rfl rfl (fun hb10 => ?_) (fun hb10 => ?_)
  · refine V.iconst (q := 33) (v := nI 0) C dX10_act_32 rfl (by decide) ?_
    exact V.ireturn C dX10_act_33 ⟨by rw [actQ, if_neg hb10] <;> rfl, by rw [actQ, if_neg hb10], rfl⟩
  · have hn9 := hb10
    obtain ⟨j, hj, rfl⟩ := InN_nat (by omega) hb10
    have hj6 : j < 6 := by omega
    obtain ⟨K, hK7, hK1⟩ := hK j hj
    refine V.iload_n (q := 14) C dX10_act_13 rfl rfl ?_
    refine V.iconst (q := 15) (v := nI 0) C dX10_act_14 rfl (by decide) ?_
    refine V.iconst (q := 16) (v := nI 2) C dX10_act_15 rfl (by decide) ?_
    refine V.callSi (q := 19) C me_X10_isIn m_isIn ml_X10_82 dX10_act_16 rfl rfl rfl (Nat.le_of_ble_eq_true rfl) (by omega) (Nat.zero_le _) (Nat.zero_le _) ?_
    refine V.if_eqB (q := 22) (tgt := 32) C dX10_act_19 rfl rfl (fun hb19 => ?_) (fun hb19 => ?_)
    · exact absurd (by decide) hb19
    · refine V.aload_n (q := 23) C dX10_act_22 rfl rfl ?_
      refine V.iload_n (q := 24) C dX10_act_23 rfl rfl ?_
      refine V.iload_n (q := 25) C dX10_act_24 rfl rfl ?_
      refine V.iload_n (q := 26) C dX10_act_25 rfl rfl ?_
      refine V.callVi (q := 29) C me_X10_begin (m_begin2 (lv := 11) (s := (tr.1, 0)) (by omega) hj6 hK7 hK1 (Nat.zero_le _)) ml_X10_258 dX10_act_26 rfl okM ⟨_, rfl⟩ rfl rfl (Nat.le_of_ble_eq_true rfl) (by omega) (Nat.zero_le _) (Nat.zero_le _) ?_
      refine V.goto (tgt := 33) C dX10_act_29 rfl ?_
      exact V.ireturn C dX10_act_33 ⟨by rw [act_2 hn9 hj6 hK1 hK7], by rw [act_2 hn9 hj6 hK1 hK7], rfl⟩
theorem act_no {A T : I1} {n : Nat} {p a x : Int32} (h : ¬ inN p n = true ∨ ¬ inR a (nI 0) (nI 2) = true) : actQ A T n p a x = (0, (T, 0)) := by
  unfold actQ
  split
  · next h1 =>
    split
    · next h2 => exact absurd h (fun z => z.elim (fun y => y h1) (fun y => y h2))
    · rfl
  · rfl
theorem m_act_no {l : Launch} {g : GG} {X : PHp} {now mind : I1} {th : I1 × Int32} {tx : TXt} {z : Zt} {tr : I1 × Int32} {tp : TPt} {n : Nat} (hn : now 78 = nI n) (hn6 : n ≤ 6) {p a x : Int32} (h : ¬ inN p n = true ∨ ¬ inR a (nI 0) (nI 2) = true) : Ct l g yX10_act cX10_act 4 (some .int) 12 0 0 [rf g (22, 0, 0), .int p, .int a, .int x] NN (jn X (hM g now mind th tx z tr tp)) (pI (actQ now tr.1 n p a x).1 (jn X (hM g now mind th tx z ((actQ now tr.1 n p a x).2.1, nI (actQ now tr.1 n p a x).2.2) tp))) := by
  refine Ct.of (lv := [some (rf g (22, 0, 0)), some (.int p), some (.int a), some (.int x)]) (by decide +kernel) rfl (Nat.le_of_ble_eq_true rfl) ?_
  intro Γ C
  refine V.aload_n (q := 1) C dX10_act_0 rfl rfl ?_
  refine V.iconst (q := 2) (v := nI 0) C dX10_act_1 rfl (by decide) ?_
  refine V.put (q := 5) C fl_X10_249 rfl dX10_act_2 rfl okM rfl (Nat.le_of_ble_eq_true rfl) rfl rfl uM_ran ?_
  try dsimp only
  refine V.aload_n (q := 6) C dX10_act_5 rfl rfl ?_
  refine V.iload_n (q := 7) C dX10_act_6 rfl rfl ?_
  refine V.callVi (q := 10) C me_X10_isOne (m_isOne hn (by omega)) ml_X10_97 dX10_act_7 rfl okM ⟨_, rfl⟩ rfl rfl (Nat.le_of_ble_eq_true rfl) (by omega) (Nat.zero_le _) (Nat.zero_le _) ?_
  refine V.if_eqB (q := 13) (tgt := 32) C dX10_act_10 rfl rfl (fun hb10 => ?_) (fun hb10 => ?_)
  · refine V.iconst (q := 33) (v := nI 0) C dX10_act_32 rfl (by decide) ?_
    exact V.ireturn C dX10_act_33 ⟨by rw [act_no h] <;> rfl, by rw [act_no h], rfl⟩
  · refine V.iload_n (q := 14) C dX10_act_13 rfl rfl ?_
    refine V.iconst (q := 15) (v := nI 0) C dX10_act_14 rfl (by decide) ?_
    refine V.iconst (q := 16) (v := nI 2) C dX10_act_15 rfl (by decide) ?_
    refine V.callSi (q := 19) C me_X10_isIn m_isIn ml_X10_82 dX10_act_16 rfl rfl rfl (Nat.le_of_ble_eq_true rfl) (by omega) (Nat.zero_le _) (Nat.zero_le _) ?_
    refine V.if_eqB (q := 22) (tgt := 32) C dX10_act_19 rfl rfl (fun hb19 => ?_) (fun hb19 => ?_)
    · refine V.iconst (q := 33) (v := nI 0) C dX10_act_32 rfl (by decide) ?_
      exact V.ireturn C dX10_act_33 ⟨by rw [act_no h] <;> rfl, by rw [act_no h], rfl⟩
    · exact absurd h (fun z => z.elim (fun y => y hb10) (fun y => y hb19))
theorem m_act {l : Launch} {g : GG} {X : PHp} {now mind : I1} {th : I1 × Int32} {tx : TXt} {z : Zt} {tr : I1 × Int32} {tp : TPt} {n : Nat} (hn : now 78 = nI n) (hn6 : n ≤ 6) (hK : ∀ i, i < n → ∃ K, K < 7 ∧ now (9 * i + 0) = nI K) {p a x : Int32} : Ct l g yX10_act cX10_act 4 (some .int) 12 0 0 [rf g (22, 0, 0), .int p, .int a, .int x] NN (jn X (hM g now mind th tx z tr tp)) (pI (actQ now tr.1 n p a x).1 (jn X (hM g now mind th tx z ((actQ now tr.1 n p a x).2.1, nI (actQ now tr.1 n p a x).2.2) tp))) := by
  by_cases h : inR a (nI 0) (nI 2) = true
  · obtain ⟨e, -, he, rfl⟩ := InR_nat (by omega) (by omega) h
    obtain rfl | rfl | rfl := (show e = 0 ∨ e = 1 ∨ e = 2 by omega)
    · exact m_act_0 hn hn6 hK
    · exact m_act_1 hn hn6 hK
    · exact m_act_2 hn hn6 hK
  · exact m_act_no hn hn6 (Or.inr h)
