theorem m_one {l : Launch} {g : GG} {X : PHp} {now mind : I1} {th : I1 × Int32} {tx : TXt} {z : Zt} {tr : I1 × Int32} {tp : TPt} {i w : Nat} (h : 9 * i + w < 152) : Ct l g yX10_one cX10_one 3 (some .int) 1 0 0 [rf g (22, 0, 0), .int (nI i), .int (nI w)] NN (jn X (hM g now mind th tx z tr tp)) (pI (now (9 * i + w)) (jn X (hM g now mind th tx z tr tp))) := by
  refine Ct.of (lv := [some (rf g (22, 0, 0)), some (.int (nI i)), some (.int (nI w))]) (by decide +kernel) rfl (Nat.le_of_ble_eq_true rfl) ?_
  intro Γ C
  refine V.aload_n (q := 1) C dX10_one_0 rfl rfl ?_
  refine V.get (q := 4) C fl_X10_9 dX10_one_1 rfl okM rfl rfl ?_
  refine V.bipush (q := 6) (v := 9) C dX10_one_4 rfl (by decide) ?_
  refine V.iload_n (q := 7) C dX10_one_6 rfl rfl ?_
  refine V.imul (q := 8) C dX10_one_7 rfl ?_
  refine V.iload_n (q := 9) C dX10_one_8 rfl rfl ?_
  refine V.iadd (q := 10) C dX10_one_9 rfl ?_
  refine V.ild (q := 11) C dX10_one_10 rfl okM_0 rfl (show 9 * nI i + nI w = nI (9 * i + w) by rw [show (9 : Int32) = nI 9 from rfl, pk_mul, nI_add]) h (by decide) ?_
  exact V.ireturn C dX10_one_11 ⟨rfl, rfl, rfl⟩
