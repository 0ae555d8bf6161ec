theorem nI_m1 {k : Nat} (h : k < 2 ^ 31) : ¬ nI k = -1 := fun e => nI_pos h (by rw [e]; decide)
theorem m_isAt {l : Launch} {g : GG} {X : PHp} {now mind : I1} {th : I1 × Int32} {tx : TXt} {T : I1} {sz a : Nat} {w : Bool} {d : Nat} {S Rb : Int32} {Nm cv hu : I1} {tr : I1 × Int32} {tp : TPt} {c : Int32} (hsz : sz ≤ 100) (ha : a ≤ sz) : Ct l g yX10_isAt cX10_isAt 2 (some .boolean) 1 0 0 [rf g (22, 0, 0), .int c] NN (jn X (hM g now mind th tx (T, nI sz, nI a, b2i (w = true), nI d, S, Rb, Nm, cv, hu) tr tp)) (pI (b2i (isA T sz w a c = true)) (jn X (hM g now mind th tx (T, nI sz, nI a, b2i (w = true), nI d, S, Rb, Nm, cv, hu) tr tp))) := by
  refine Ct.of (lv := [some (rf g (22, 0, 0)), some (.int c)]) (by decide +kernel) rfl (Nat.le_of_ble_eq_true rfl) ?_
  intro Γ C
  refine V.aload_n (q := 1) C dX10_isAt_0 rfl rfl ?_
  refine V.get (q := 4) C fl_X10_124 dX10_isAt_1 rfl okM rfl rfl ?_
  try dsimp only
  refine V.if_eqB (q := 7) (tgt := 35) C dX10_isAt_4 rfl rfl (fun hb4 => ?_) (fun hb4 => ?_)
  · refine V.iconst (q := 36) (v := nI 0) C dX10_isAt_35 rfl (by decide) ?_
    exact V.zreturn C dX10_isAt_36 rfl ⟨congrArg (fun x => some (Value.int x)) (b2i_f (isA_f (Or.inl hb4))).symm, rfl, rfl⟩
  · refine V.aload_n (q := 8) C dX10_isAt_7 rfl rfl ?_
    refine V.get (q := 11) C fl_X10_127 dX10_isAt_8 rfl okM rfl rfl ?_
    try dsimp only
    refine V.aload_n (q := 12) C dX10_isAt_11 rfl rfl ?_
    refine V.get (q := 15) C fl_X10_130 dX10_isAt_12 rfl okM rfl rfl ?_
    try dsimp only
    refine V.icmp_ge (q := 18) (tgt := 35) C dX10_isAt_15 rfl rfl (fun hb15 => ?_) (fun hb15 => ?_)
    · have h15 : ¬ a < sz := fun q => absurd ((nI_leI (by omega) (by omega)).mp hb15) (by omega)
      refine V.iconst (q := 36) (v := nI 0) C dX10_isAt_35 rfl (by decide) ?_
      exact V.zreturn C dX10_isAt_36 rfl ⟨congrArg (fun x => some (Value.int x)) (b2i_f (isA_f (Or.inr (Or.inl h15)))).symm, rfl, rfl⟩
    · have h15 : a < sz := Nat.lt_of_not_le (fun q => hb15 ((nI_leI (by omega) (by omega)).mpr q))
      refine V.aload_n (q := 19) C dX10_isAt_18 rfl rfl ?_
      refine V.get (q := 22) C fl_X10_30 dX10_isAt_19 rfl okM rfl rfl ?_
      refine V.aload_n (q := 23) C dX10_isAt_22 rfl rfl ?_
      refine V.get (q := 26) C fl_X10_127 dX10_isAt_23 rfl okM rfl rfl ?_
      try dsimp only
      refine V.ild (q := 27) (i := a) C dX10_isAt_26 rfl okM_9 rfl rfl (by omega) (by decide) ?_
      try dsimp only
      refine V.iload_n (q := 28) C dX10_isAt_27 rfl rfl ?_
      refine V.icmp_ne (q := 31) (tgt := 35) C dX10_isAt_28 rfl rfl (fun hb28 => ?_) (fun hb28 => ?_)
      · refine V.iconst (q := 36) (v := nI 0) C dX10_isAt_35 rfl (by decide) ?_
        exact V.zreturn C dX10_isAt_36 rfl ⟨congrArg (fun x => some (Value.int x)) (b2i_f (isA_f (Or.inr (Or.inr hb28)))).symm, rfl, rfl⟩
      · refine V.iconst (q := 32) (v := nI 1) C dX10_isAt_31 rfl (by decide) ?_
        refine V.goto (tgt := 36) C dX10_isAt_32 rfl ?_
        exact V.zreturn C dX10_isAt_36 rfl ⟨congrArg (fun x => some (Value.int x)) (b2i_t (isA_t hb4 h15 hb28)).symm, rfl, rfl⟩
theorem m_takes {l : Launch} {g : GG} {X : PHp} {now mind : I1} {th : I1 × Int32} {tx : TXt} {T : I1} {sz a : Nat} {w : Bool} {d : Nat} {S Rb : Int32} {Nm cv hu : I1} {tr : I1 × Int32} {tp : TPt} {c : Int32} (hsz : sz ≤ 100) (ha : a ≤ sz) : Ct l g yX10_takes cX10_takes 2 none 2 0 0 [rf g (22, 0, 0), .int c] NN (jn X (hM g now mind th tx (T, nI sz, nI a, b2i (w = true), nI d, S, Rb, Nm, cv, hu) tr tp)) (pV (jn X (hM g now mind th tx (T, nI sz, nI (tkP T sz c w a).2, b2i ((tkP T sz c w a).1 = true), nI d, S, Rb, Nm, cv, hu) tr tp))) := by
  refine Ct.of (lv := [some (rf g (22, 0, 0)), some (.int c)]) (by decide +kernel) rfl (Nat.le_of_ble_eq_true rfl) ?_
  intro Γ C
  refine V.aload_n (q := 1) C dX10_takes_0 rfl rfl ?_
  refine V.iload_n (q := 2) C dX10_takes_1 rfl rfl ?_
  refine V.callVi (q := 5) C me_X10_isAt (m_isAt (by omega) (by omega)) ml_X10_133 dX10_takes_2 rfl okM ⟨_, rfl⟩ rfl rfl (Nat.le_of_ble_eq_true rfl) (by omega) (Nat.zero_le _) (Nat.zero_le _) ?_
  refine V.if_eqB (q := 8) (tgt := 21) C dX10_takes_5 rfl rfl (fun hb5 => ?_) (fun hb5 => ?_)
  · refine V.aload_n (q := 22) C dX10_takes_21 rfl rfl ?_
    refine V.iconst (q := 23) (v := nI 0) C dX10_takes_22 rfl (by decide) ?_
    refine V.put (q := 26) C fl_X10_124 rfl dX10_takes_23 rfl okM rfl (Nat.le_of_ble_eq_true rfl) rfl rfl uM_well ?_
    try dsimp only
    exact V.vreturn C dX10_takes_26 ⟨rfl, by rw [tk_f hb5]; rfl, rfl⟩
  · obtain rfl : w = true := (isA_of hb5).1
    refine V.aload_n (q := 9) C dX10_takes_8 rfl rfl ?_
    refine V.dup (q := 10) C dX10_takes_9 rfl rfl ?_
    refine V.get (q := 13) C fl_X10_127 dX10_takes_10 rfl okM rfl rfl ?_
    try dsimp only
    refine V.iconst (q := 14) (v := nI 1) C dX10_takes_13 rfl (by decide) ?_
    refine V.iadd (q := 15) C dX10_takes_14 rfl ?_
    refine V.topi (x1 := nI (a + 1)) (nI_add _ _) ?_
    refine V.put (q := 18) C fl_X10_127 rfl dX10_takes_15 rfl okM rfl (Nat.le_of_ble_eq_true rfl) rfl rfl uM_at ?_
    try dsimp only
    refine V.goto (tgt := 26) C dX10_takes_18 rfl ?_
    exact V.vreturn C dX10_takes_26 ⟨rfl, by rw [tk_t hb5], rfl⟩
theorem m_isDigit {l : Launch} {g : GG} {X : PHp} {now mind : I1} {th : I1 × Int32} {tx : TXt} {T : I1} {sz a : Nat} {w : Bool} {d : Nat} {S Rb : Int32} {Nm cv hu : I1} {tr : I1 × Int32} {tp : TPt} (hsz : sz ≤ 100) (ha : a ≤ sz) : Ct l g yX10_isDigit cX10_isDigit 1 (some .boolean) 1 0 0 [rf g (22, 0, 0)] NN (jn X (hM g now mind th tx (T, nI sz, nI a, b2i (w = true), nI d, S, Rb, Nm, cv, hu) tr tp)) (pI (b2i (dgP T sz w a = true)) (jn X (hM g now mind th tx (T, nI sz, nI a, b2i (w = true), nI d, S, Rb, Nm, cv, hu) tr tp))) := by
  refine Ct.of (lv := [some (rf g (22, 0, 0))]) (by decide +kernel) rfl (Nat.le_of_ble_eq_true rfl) ?_
  intro Γ C
  refine V.aload_n (q := 1) C dX10_isDigit_0 rfl rfl ?_
  refine V.get (q := 4) C fl_X10_124 dX10_isDigit_1 rfl okM rfl rfl ?_
  try dsimp only
  refine V.if_eqB (q := 7) (tgt := 50) C dX10_isDigit_4 rfl rfl (fun hb4 => ?_) (fun hb4 => ?_)
  · refine V.iconst (q := 51) (v := nI 0) C dX10_isDigit_50 rfl (by decide) ?_
    exact V.zreturn C dX10_isDigit_51 rfl ⟨congrArg (fun x => some (Value.int x)) (b2i_f (fun q => hb4 (dg_of q).1)).symm, rfl, rfl⟩
  · refine V.aload_n (q := 8) C dX10_isDigit_7 rfl rfl ?_
    refine V.get (q := 11) C fl_X10_127 dX10_isDigit_8 rfl okM rfl rfl ?_
    try dsimp only
    refine V.aload_n (q := 12) C dX10_isDigit_11 rfl rfl ?_
    refine V.get (q := 15) C fl_X10_130 dX10_isDigit_12 rfl okM rfl rfl ?_
    try dsimp only
    refine V.icmp_ge (q := 18) (tgt := 50) C dX10_isDigit_15 rfl rfl (fun hb15 => ?_) (fun hb15 => ?_)
    · have h15 : ¬ a < sz := fun q => absurd ((nI_leI (by omega) (by omega)).mp hb15) (by omega)
      refine V.iconst (q := 51) (v := nI 0) C dX10_isDigit_50 rfl (by decide) ?_
      exact V.zreturn C dX10_isDigit_51 rfl ⟨congrArg (fun x => some (Value.int x)) (b2i_f (fun q => h15 (dg_of q).2.1)).symm, rfl, rfl⟩
    · have h15 : a < sz := Nat.lt_of_not_le (fun q => hb15 ((nI_leI (by omega) (by omega)).mpr q))
      refine V.aload_n (q := 19) C dX10_isDigit_18 rfl rfl ?_
      refine V.get (q := 22) C fl_X10_30 dX10_isDigit_19 rfl okM rfl rfl ?_
      refine V.aload_n (q := 23) C dX10_isDigit_22 rfl rfl ?_
      refine V.get (q := 26) C fl_X10_127 dX10_isDigit_23 rfl okM rfl rfl ?_
      try dsimp only
      refine V.ild (q := 27) (i := a) C dX10_isDigit_26 rfl okM_9 rfl rfl (by omega) (by decide) ?_
      try dsimp only
      refine V.bipush (q := 29) (v := nI 48) C dX10_isDigit_27 rfl (by decide) ?_
      refine V.icmp_lt (q := 32) (tgt := 50) C dX10_isDigit_29 rfl rfl (fun hb29 => ?_) (fun hb29 => ?_)
      · refine V.iconst (q := 51) (v := nI 0) C dX10_isDigit_50 rfl (by decide) ?_
        exact V.zreturn C dX10_isDigit_51 rfl ⟨congrArg (fun x => some (Value.int x)) (b2i_f (fun q => (dg_of q).2.2.1 hb29)).symm, rfl, rfl⟩
      · refine V.aload_n (q := 33) C dX10_isDigit_32 rfl rfl ?_
        refine V.get (q := 36) C fl_X10_30 dX10_isDigit_33 rfl okM rfl rfl ?_
        refine V.aload_n (q := 37) C dX10_isDigit_36 rfl rfl ?_
        refine V.get (q := 40) C fl_X10_127 dX10_isDigit_37 rfl okM rfl rfl ?_
        try dsimp only
        refine V.ild (q := 41) (i := a) C dX10_isDigit_40 rfl okM_9 rfl rfl (by omega) (by decide) ?_
        try dsimp only
        refine V.bipush (q := 43) (v := nI 57) C dX10_isDigit_41 rfl (by decide) ?_
        refine V.icmp_gt (q := 46) (tgt := 50) C dX10_isDigit_43 rfl rfl (fun hb43 => ?_) (fun hb43 => ?_)
        · refine V.iconst (q := 51) (v := nI 0) C dX10_isDigit_50 rfl (by decide) ?_
          exact V.zreturn C dX10_isDigit_51 rfl ⟨congrArg (fun x => some (Value.int x)) (b2i_f (fun q => (dg_of q).2.2.2 hb43)).symm, rfl, rfl⟩
        · refine V.iconst (q := 47) (v := nI 1) C dX10_isDigit_46 rfl (by decide) ?_
          refine V.goto (tgt := 51) C dX10_isDigit_47 rfl ?_
          exact V.zreturn C dX10_isDigit_51 rfl ⟨congrArg (fun x => some (Value.int x)) (b2i_t (dg_t hb4 h15 hb29 hb43)).symm, rfl, rfl⟩
theorem m_number {l : Launch} {g : GG} {X : PHp} {now mind : I1} {th : I1 × Int32} {tx : TXt} {T : I1} {sz a : Nat} {w : Bool} {d : Nat} {S Rb : Int32} {Nm cv hu : I1} {tr : I1 × Int32} {tp : TPt} (hsz : sz ≤ 100) (ha : a ≤ sz) : Ct l g yX10_number cX10_number 2 (some .int) 2 0 0 [rf g (22, 0, 0)] NN (jn X (hM g now mind th tx (T, nI sz, nI a, b2i (w = true), nI d, S, Rb, Nm, cv, hu) tr tp)) (pI (nuP T sz w a).2.2 (jn X (hM g now mind th tx (T, nI sz, nI (nuP T sz w a).2.1, b2i ((nuP T sz w a).1 = true), nI d, S, Rb, Nm, cv, hu) tr tp))) := by
  refine Ct.of (lv := [some (rf g (22, 0, 0)), none]) (by decide +kernel) rfl (Nat.le_of_ble_eq_true rfl) ?_
  intro Γ C
  refine V.aload_n (q := 1) C dX10_number_0 rfl rfl ?_
  refine V.callVi (q := 4) C me_X10_isDigit (m_isDigit (by omega) (by omega)) ml_X10_136 dX10_number_1 rfl okM ⟨_, rfl⟩ rfl rfl (Nat.le_of_ble_eq_true rfl) (by omega) (Nat.zero_le _) (Nat.zero_le _) ?_
  refine V.if_neB (q := 7) (tgt := 14) C dX10_number_4 rfl rfl (fun hb4 => ?_) (fun hb4 => ?_)
  · obtain ⟨rfl, hlt, -, -⟩ := dg_of hb4
    refine V.aload_n (q := 15) C dX10_number_14 rfl rfl ?_
    refine V.get (q := 18) C fl_X10_30 dX10_number_15 rfl okM rfl rfl ?_
    refine V.aload_n (q := 19) C dX10_number_18 rfl rfl ?_
    refine V.get (q := 22) C fl_X10_127 dX10_number_19 rfl okM rfl rfl ?_
    try dsimp only
    refine V.ild (q := 23) (i := a) C dX10_number_22 rfl okM_9 rfl rfl (by omega) (by decide) ?_
    try dsimp only
    refine V.bipush (q := 25) (v := nI 48) C dX10_number_23 rfl (by decide) ?_
    refine V.isub (q := 26) C dX10_number_25 rfl ?_
    refine V.istore_n (q := 27) C dX10_number_26 rfl (by decide) rfl rfl ?_
    refine V.aload_n (q := 28) C dX10_number_27 rfl rfl ?_
    refine V.dup (q := 29) C dX10_number_28 rfl rfl ?_
    refine V.get (q := 32) C fl_X10_127 dX10_number_29 rfl okM rfl rfl ?_
    try dsimp only
    refine V.iconst (q := 33) (v := nI 1) C dX10_number_32 rfl (by decide) ?_
    refine V.iadd (q := 34) C dX10_number_33 rfl ?_
    refine V.topi (x1 := nI (a + 1)) (nI_add _ _) ?_
    refine V.put (q := 37) C fl_X10_127 rfl dX10_number_34 rfl okM rfl (Nat.le_of_ble_eq_true rfl) rfl rfl uM_at ?_
    try dsimp only
    refine V.aload_n (q := 38) C dX10_number_37 rfl rfl ?_
    refine V.callVi (q := 41) C me_X10_isDigit (m_isDigit (by omega) (by omega)) ml_X10_136 dX10_number_38 rfl okM ⟨_, rfl⟩ rfl rfl (Nat.le_of_ble_eq_true rfl) (by omega) (Nat.zero_le _) (Nat.zero_le _) ?_
    refine V.if_eqB (q := 44) (tgt := 72) C dX10_number_41 rfl rfl (fun hb41 => ?_) (fun hb41 => ?_)
    · refine V.iload_n (q := 73) C dX10_number_72 rfl rfl ?_
      exact V.ireturn C dX10_number_73 ⟨by rw [nu_1 hb4 hb41], by rw [nu_1 hb4 hb41], rfl⟩
    · obtain ⟨-, hlt2, -, -⟩ := dg_of hb41
      refine V.bipush (q := 46) (v := nI 10) C dX10_number_44 rfl (by decide) ?_
      refine V.iload_n (q := 47) C dX10_number_46 rfl rfl ?_
      refine V.imul (q := 48) C dX10_number_47 rfl ?_
      refine V.aload_n (q := 49) C dX10_number_48 rfl rfl ?_
      refine V.get (q := 52) C fl_X10_30 dX10_number_49 rfl okM rfl rfl ?_
      refine V.aload_n (q := 53) C dX10_number_52 rfl rfl ?_
      refine V.get (q := 56) C fl_X10_127 dX10_number_53 rfl okM rfl rfl ?_
      try dsimp only
      refine V.ild (q := 57) (i := (a + 1)) C dX10_number_56 rfl okM_9 rfl rfl (by omega) (by decide) ?_
      try dsimp only
      refine V.iadd (q := 58) C dX10_number_57 rfl ?_
      refine V.bipush (q := 60) (v := nI 48) C dX10_number_58 rfl (by decide) ?_
      refine V.isub (q := 61) C dX10_number_60 rfl ?_
      refine V.istore_n (q := 62) C dX10_number_61 rfl (by decide) rfl rfl ?_
      refine V.aload_n (q := 63) C dX10_number_62 rfl rfl ?_
      refine V.dup (q := 64) C dX10_number_63 rfl rfl ?_
      refine V.get (q := 67) C fl_X10_127 dX10_number_64 rfl okM rfl rfl ?_
      try dsimp only
      refine V.iconst (q := 68) (v := nI 1) C dX10_number_67 rfl (by decide) ?_
      refine V.iadd (q := 69) C dX10_number_68 rfl ?_
      refine V.topi (x1 := nI ((a + 1) + 1)) (nI_add _ _) ?_
      refine V.put (q := 72) C fl_X10_127 rfl dX10_number_69 rfl okM rfl (Nat.le_of_ble_eq_true rfl) rfl rfl uM_at ?_
      try dsimp only
      refine V.iload_n (q := 73) C dX10_number_72 rfl rfl ?_
      exact V.ireturn C dX10_number_73 ⟨by rw [nu_2 hb4 hb41], by rw [nu_2 hb4 hb41], rfl⟩
  · refine V.aload_n (q := 8) C dX10_number_7 rfl rfl ?_
    refine V.iconst (q := 9) (v := nI 0) C dX10_number_8 rfl (by decide) ?_
    refine V.put (q := 12) C fl_X10_124 rfl dX10_number_9 rfl okM rfl (Nat.le_of_ble_eq_true rfl) rfl rfl uM_well ?_
    try dsimp only
    refine V.iconst (q := 13) (v := nI 0) C dX10_number_12 rfl (by decide) ?_
    exact V.ireturn C dX10_number_13 ⟨by rw [nu_0 hb4], by rw [nu_0 hb4]; rfl, rfl⟩
theorem m_test_l {l : Launch} {g : GG} {X : PHp} {now mind : I1} {th : I1 × Int32} {tx : TXt} {T : I1} {sz a : Nat} {w : Bool} {d : Nat} {S Rb : Int32} {Nm cv hu : I1} {tr : I1 × Int32} {tp : TPt} {Γ : Cxt} {Q : State → Prop} (hsz : sz ≤ 100) (ha : a ≤ sz) (C : Cx Γ g cX10_test yX10_test 4 (some .boolean) 3 0 0) (kx : V l Γ g 4 Q 0 0 NN (jn X (hM g now mind th tx (T, nI sz, nI a, b2i (w = true), nI d, S, Rb, Nm, cv, hu) tr tp)) 35 [some (rf g (22, 0, 0)), some (.int (lsP T sz w a mLet 6)), some (.int (nI 6)), none] []) : ∀ k j : Nat, j + k = 6 → V l Γ g 4 Q 0 0 NN (jn X (hM g now mind th tx (T, nI sz, nI a, b2i (w = true), nI d, S, Rb, Nm, cv, hu) tr tp)) 4 [some (rf g (22, 0, 0)), some (.int (lsP T sz w a mLet j)), some (.int (nI j)), none] [] := by
  intro k
  induction k with
  | zero =>
    intro j hj
    have ej : j = 6 := by omega
    subst ej
    refine V.iload_n (q := 5) C dX10_test_4 rfl rfl ?_
    refine V.bipush (q := 7) (v := nI 6) C dX10_test_5 rfl (by decide) ?_
    refine V.icmp_ge (q := 10) (tgt := 35) C dX10_test_7 rfl rfl (fun hb7 => ?_) (fun hb7 => ?_)
    · exact kx
    · exact absurd ((nI_leI (by omega) (by omega)).mpr (by omega)) hb7
  | succ k ih =>
    intro j hj
    refine V.iload_n (q := 5) C dX10_test_4 rfl rfl ?_
    refine V.bipush (q := 7) (v := nI 6) C dX10_test_5 rfl (by decide) ?_
    refine V.icmp_ge (q := 10) (tgt := 35) C dX10_test_7 rfl rfl (fun hb7 => ?_) (fun hb7 => ?_)
    · exact absurd ((nI_leI (by omega) (by omega)).mp hb7) (by omega)
    · refine V.aload_n (q := 11) C dX10_test_10 rfl rfl ?_
      refine V.aload_n (q := 12) C dX10_test_11 rfl rfl ?_
      refine V.get (q := 15) C fl_X10_36 dX10_test_12 rfl okM rfl rfl ?_
      refine V.iload_n (q := 16) C dX10_test_15 rfl rfl ?_
      refine V.cld (q := 17) (i := j) C dX10_test_16 rfl okM_17 rfl rfl (by omega) (by decide) ?_
      try dsimp only
      refine V.callVi (q := 20) C me_X10_isAt (m_isAt (by omega) (by omega)) ml_X10_133 dX10_test_17 rfl okM ⟨_, rfl⟩ rfl rfl (Nat.le_of_ble_eq_true rfl) (by omega) (Nat.zero_le _) (Nat.zero_le _) ?_
      refine V.if_eqB (q := 23) (tgt := 27) C dX10_test_20 rfl rfl (fun hb20 => ?_) (fun hb20 => ?_)
      · refine V.iload_n (q := 28) C dX10_test_27 rfl rfl ?_
        refine V.istore_n (q := 29) C dX10_test_28 rfl (by decide) rfl rfl ?_
        refine V.iinc (q := 32) (v := nI (j + 1)) C dX10_test_29 rfl rfl (nI_1 _) (by decide) rfl rfl ?_
        refine V.goto (tgt := 4) C dX10_test_32 rfl ?_
        have e9 : lsP T sz w a mLet (j + 1) = lsP T sz w a mLet j := if_neg hb20
        have h9 := ih (j + 1) (by omega)
        rw [e9] at h9
        exact h9
      · refine V.iload_n (q := 24) C dX10_test_23 rfl rfl ?_
        refine V.goto (tgt := 28) C dX10_test_24 rfl ?_
        refine V.istore_n (q := 29) C dX10_test_28 rfl (by decide) rfl rfl ?_
        refine V.iinc (q := 32) (v := nI (j + 1)) C dX10_test_29 rfl rfl (nI_1 _) (by decide) rfl rfl ?_
        refine V.goto (tgt := 4) C dX10_test_32 rfl ?_
        have e9 : lsP T sz w a mLet (j + 1) = nI j := if_pos hb20
        have h9 := ih (j + 1) (by omega)
        rw [e9] at h9
        exact h9
theorem m_test_106 {l : Launch} {g : GG} {X : PHp} {now mind : I1} {th : I1 × Int32} {tx : TXt} {T : I1} {sz a : Nat} {d : Nat} {S Rb : Int32} {Nm cv hu : I1} {tr : I1 × Int32} {tp : TPt} {Γ : Cxt} {k : Nat} {c : Int32} (hsz : sz ≤ 100) (ha : a + 1 ≤ sz) (hk : k < 6) (C : Cx Γ g cX10_test yX10_test 4 (some .boolean) 3 0 0) : V l Γ g 4 (QM Γ g (pI (b2i (rlV c (Nm k) (nuP T sz (tkP T sz (rlC c) true (a + 1)).1 (tkP T sz (rlC c) true (a + 1)).2).2.2 = true)) (jn X (hM g now mind th tx (T, nI sz, nI (nuP T sz (tkP T sz (rlC c) true (a + 1)).1 (tkP T sz (rlC c) true (a + 1)).2).2.1, b2i ((nuP T sz (tkP T sz (rlC c) true (a + 1)).1 (tkP T sz (rlC c) true (a + 1)).2).1 = true), nI d, S, Rb, Nm, cv, hu) tr tp))) 0 0) 0 0 NN (jn X (hM g now mind th tx (T, nI sz, nI (a + 1), b2i (true = true), nI d, S, Rb, Nm, cv, hu) tr tp)) 106 [some (rf g (22, 0, 0)), some (.int (nI k)), some (.int c), none] [.int (rlC c), rf g (22, 0, 0)] := by
  refine V.callVv (q := 109) C me_X10_takes (m_takes (by omega) (by omega)) ml_X10_140 dX10_test_106 rfl okM ⟨_, rfl⟩ rfl rfl (Nat.le_of_ble_eq_true rfl) (by omega) (Nat.zero_le _) (Nat.zero_le _) ?_
  refine V.aload_n (q := 110) C dX10_test_109 rfl rfl ?_
  refine V.callVi (q := 113) C me_X10_number (m_number (by omega) (tk_le (by omega)).2) ml_X10_144 dX10_test_110 rfl okM ⟨_, rfl⟩ rfl rfl (Nat.le_of_ble_eq_true rfl) (by omega) (Nat.zero_le _) (Nat.zero_le _) ?_
  refine V.istore_n (q := 114) C dX10_test_113 rfl (by decide) rfl rfl ?_
  refine V.iload_n (q := 115) C dX10_test_114 rfl rfl ?_
  refine V.if_ge (q := 118) (tgt := 136) C dX10_test_115 rfl rfl (fun hb115 => ?_) (fun hb115 => ?_)
  · refine V.iload_n (q := 137) C dX10_test_136 rfl rfl ?_
    refine V.if_le (q := 140) (tgt := 158) C dX10_test_137 rfl rfl (fun hb137 => ?_) (fun hb137 => ?_)
    · refine V.aload_n (q := 159) C dX10_test_158 rfl rfl ?_
      refine V.get (q := 162) C fl_X10_33 dX10_test_159 rfl okM rfl rfl ?_
      refine V.iload_n (q := 163) C dX10_test_162 rfl rfl ?_
      refine V.ild (q := 164) (i := k) C dX10_test_163 rfl okM_16 rfl rfl (by omega) (by decide) ?_
      try dsimp only
      refine V.iload_n (q := 165) C dX10_test_164 rfl rfl ?_
      refine V.icmp_ne (q := 168) (tgt := 172) C dX10_test_165 rfl rfl (fun hb165 => ?_) (fun hb165 => ?_)
      · refine V.iconst (q := 173) (v := nI 0) C dX10_test_172 rfl (by decide) ?_
        exact V.zreturn C dX10_test_173 rfl ⟨congrArg (fun x => some (Value.int x)) (b2i_f (by rw [rlV_c hb115 hb137]; exact fun q => hb165 (of_decide_eq_true q))).symm, rfl, rfl⟩
      · refine V.iconst (q := 169) (v := nI 1) C dX10_test_168 rfl (by decide) ?_
        refine V.goto (tgt := 173) C dX10_test_169 rfl ?_
        exact V.zreturn C dX10_test_173 rfl ⟨congrArg (fun x => some (Value.int x)) (b2i_t (by rw [rlV_c hb115 hb137]; exact decide_eq_true hb165)).symm, rfl, rfl⟩
    · refine V.aload_n (q := 141) C dX10_test_140 rfl rfl ?_
      refine V.get (q := 144) C fl_X10_33 dX10_test_141 rfl okM rfl rfl ?_
      refine V.iload_n (q := 145) C dX10_test_144 rfl rfl ?_
      refine V.ild (q := 146) (i := k) C dX10_test_145 rfl okM_16 rfl rfl (by omega) (by decide) ?_
      try dsimp only
      refine V.iload_n (q := 147) C dX10_test_146 rfl rfl ?_
      refine V.icmp_le (q := 150) (tgt := 154) C dX10_test_147 rfl rfl (fun hb147 => ?_) (fun hb147 => ?_)
      · refine V.iconst (q := 155) (v := nI 0) C dX10_test_154 rfl (by decide) ?_
        refine V.goto (tgt := 173) C dX10_test_155 rfl ?_
        exact V.zreturn C dX10_test_173 rfl ⟨congrArg (fun x => some (Value.int x)) (b2i_f (by rw [rlV_b hb115 hb137]; exact fun q => of_decide_eq_true q hb147)).symm, rfl, rfl⟩
      · refine V.iconst (q := 151) (v := nI 1) C dX10_test_150 rfl (by decide) ?_
        refine V.goto (tgt := 173) C dX10_test_151 rfl ?_
        exact V.zreturn C dX10_test_173 rfl ⟨congrArg (fun x => some (Value.int x)) (b2i_t (by rw [rlV_b hb115 hb137]; exact decide_eq_true hb147)).symm, rfl, rfl⟩
  · refine V.aload_n (q := 119) C dX10_test_118 rfl rfl ?_
    refine V.get (q := 122) C fl_X10_33 dX10_test_119 rfl okM rfl rfl ?_
    refine V.iload_n (q := 123) C dX10_test_122 rfl rfl ?_
    refine V.ild (q := 124) (i := k) C dX10_test_123 rfl okM_16 rfl rfl (by omega) (by decide) ?_
    try dsimp only
    refine V.iload_n (q := 125) C dX10_test_124 rfl rfl ?_
    refine V.icmp_ge (q := 128) (tgt := 132) C dX10_test_125 rfl rfl (fun hb125 => ?_) (fun hb125 => ?_)
    · refine V.iconst (q := 133) (v := nI 0) C dX10_test_132 rfl (by decide) ?_
      refine V.goto (tgt := 173) C dX10_test_133 rfl ?_
      exact V.zreturn C dX10_test_173 rfl ⟨congrArg (fun x => some (Value.int x)) (b2i_f (by rw [rlV_a hb115]; exact fun q => of_decide_eq_true q hb125)).symm, rfl, rfl⟩
    · refine V.iconst (q := 129) (v := nI 1) C dX10_test_128 rfl (by decide) ?_
      refine V.goto (tgt := 173) C dX10_test_129 rfl ?_
      exact V.zreturn C dX10_test_173 rfl ⟨congrArg (fun x => some (Value.int x)) (b2i_t (by rw [rlV_a hb115]; exact decide_eq_true hb125)).symm, rfl, rfl⟩
theorem m_test_84 {l : Launch} {g : GG} {X : PHp} {now mind : I1} {th : I1 × Int32} {tx : TXt} {T : I1} {sz a : Nat} {d : Nat} {S Rb : Int32} {Nm cv hu : I1} {tr : I1 × Int32} {tp : TPt} {Γ : Cxt} {k : Nat} {c u : Int32} (hsz : sz ≤ 100) (ha : a + 1 ≤ sz) (hk : k < 6) (C : Cx Γ g cX10_test yX10_test 4 (some .boolean) 3 0 0) : V l Γ g 4 (QM Γ g (pI (b2i (rlV c (Nm k) (nuP T sz (tkP T sz (rlC c) true (a + 1)).1 (tkP T sz (rlC c) true (a + 1)).2).2.2 = true)) (jn X (hM g now mind th tx (T, nI sz, nI (nuP T sz (tkP T sz (rlC c) true (a + 1)).1 (tkP T sz (rlC c) true (a + 1)).2).2.1, b2i ((nuP T sz (tkP T sz (rlC c) true (a + 1)).1 (tkP T sz (rlC c) true (a + 1)).2).1 = true), nI d, S, Rb, Nm, cv, hu) tr tp))) 0 0) 0 0 NN (jn X (hM g now mind th tx (T, nI sz, nI (a + 1), b2i (true = true), nI d, S, Rb, Nm, cv, hu) tr tp)) 84 [some (rf g (22, 0, 0)), some (.int (nI k)), some (.int u), none] [.int c] := by
  refine V.istore_n (q := 85) C dX10_test_84 rfl (by decide) rfl rfl ?_
  refine V.aload_n (q := 86) C dX10_test_85 rfl rfl ?_
  refine V.iload_n (q := 87) C dX10_test_86 rfl rfl ?_
  refine V.if_ge (q := 90) (tgt := 95) C dX10_test_87 rfl rfl (fun hb87 => ?_) (fun hb87 => ?_)
  · refine V.iload_n (q := 96) C dX10_test_95 rfl rfl ?_
    refine V.if_le (q := 99) (tgt := 104) C dX10_test_96 rfl rfl (fun hb96 => ?_) (fun hb96 => ?_)
    · refine V.bipush (q := 106) (v := nI 61) C dX10_test_104 rfl (by decide) ?_
      refine V.stk (st1 := [.int (rlC c), rf g (22, 0, 0)]) (by simp only [rlC, hb87, hb96, ↓reduceIte]) ?_
      exact m_test_106 hsz ha hk C
    · refine V.bipush (q := 101) (v := nI 62) C dX10_test_99 rfl (by decide) ?_
      refine V.goto (tgt := 106) C dX10_test_101 rfl ?_
      refine V.stk (st1 := [.int (rlC c), rf g (22, 0, 0)]) (by simp only [rlC, hb87, hb96, ↓reduceIte]) ?_
      exact m_test_106 hsz ha hk C
  · refine V.bipush (q := 92) (v := nI 60) C dX10_test_90 rfl (by decide) ?_
    refine V.goto (tgt := 106) C dX10_test_92 rfl ?_
    refine V.stk (st1 := [.int (rlC c), rf g (22, 0, 0)]) (by simp only [rlC, hb87, ↓reduceIte]) ?_
    exact m_test_106 hsz ha hk C
theorem m_test0 {l : Launch} {g : GG} {X : PHp} {now mind : I1} {th : I1 × Int32} {tx : TXt} {T : I1} {sz a : Nat} {w : Bool} {d : Nat} {S Rb : Int32} {Nm cv hu : I1} {tr : I1 × Int32} {tp : TPt} (hsz : sz ≤ 100) (ha : a ≤ sz) (hq : lsP T sz w a mLet 6 = -1) : Ct l g yX10_test cX10_test 4 (some .boolean) 3 0 0 [rf g (22, 0, 0)] NN (jn X (hM g now mind th tx (T, nI sz, nI a, b2i (w = true), nI d, S, Rb, Nm, cv, hu) tr tp)) (pI (b2i (false = true)) (jn X (hM g now mind th tx (T, nI sz, nI a, b2i (false = true), nI d, S, Rb, Nm, cv, hu) tr tp))) := by
  refine Ct.of (lv := [some (rf g (22, 0, 0)), none, none, none]) (by decide +kernel) rfl (Nat.le_of_ble_eq_true rfl) ?_
  intro Γ C
  refine V.iconst (q := 1) (v := -1) C dX10_test_0 rfl (by decide) ?_
  refine V.istore_n (q := 2) C dX10_test_1 rfl (by decide) rfl rfl ?_
  refine V.iconst (q := 3) (v := nI 0) C dX10_test_2 rfl (by decide) ?_
  refine V.istore_n (q := 4) C dX10_test_3 rfl (by decide) rfl rfl ?_
  refine m_test_l hsz ha C ?_ 6 0 rfl
  refine V.loc (lv1 := [some (rf g (22, 0, 0)), some (.int (-1)), some (.int (nI 6)), none]) (by rw [hq]) ?_
  refine V.iload_n (q := 36) C dX10_test_35 rfl rfl ?_
  refine V.iconst (q := 37) (v := -1) C dX10_test_36 rfl (by decide) ?_
  refine V.icmp_ne (q := 40) (tgt := 47) C dX10_test_37 rfl rfl (fun hb37 => ?_) (fun hb37 => ?_)
  · exact absurd rfl hb37
  · refine V.aload_n (q := 41) C dX10_test_40 rfl rfl ?_
    refine V.iconst (q := 42) (v := nI 0) C dX10_test_41 rfl (by decide) ?_
    refine V.put (q := 45) C fl_X10_124 rfl dX10_test_42 rfl okM rfl (Nat.le_of_ble_eq_true rfl) rfl rfl uM_well ?_
    try dsimp only
    refine V.iconst (q := 46) (v := nI 0) C dX10_test_45 rfl (by decide) ?_
    exact V.zreturn C dX10_test_46 rfl ⟨rfl, rfl, rfl⟩
theorem m_test1 {l : Launch} {g : GG} {X : PHp} {now mind : I1} {th : I1 × Int32} {tx : TXt} {T : I1} {sz a : Nat} {d : Nat} {S Rb : Int32} {Nm cv hu : I1} {tr : I1 × Int32} {tp : TPt} {k : Nat} (hsz : sz ≤ 100) (ha : a + 1 ≤ sz) (hk : k < 6) (hq : lsP T sz true a mLet 6 = nI k) : Ct l g yX10_test cX10_test 4 (some .boolean) 3 0 0 [rf g (22, 0, 0)] NN (jn X (hM g now mind th tx (T, nI sz, nI a, b2i (true = true), nI d, S, Rb, Nm, cv, hu) tr tp)) (pI (b2i (rlV (rlP T sz (a + 1)) (Nm k) (nuP T sz (tkP T sz (rlC (rlP T sz (a + 1))) true (a + 1)).1 (tkP T sz (rlC (rlP T sz (a + 1))) true (a + 1)).2).2.2 = true)) (jn X (hM g now mind th tx (T, nI sz, nI (nuP T sz (tkP T sz (rlC (rlP T sz (a + 1))) true (a + 1)).1 (tkP T sz (rlC (rlP T sz (a + 1))) true (a + 1)).2).2.1, b2i ((nuP T sz (tkP T sz (rlC (rlP T sz (a + 1))) true (a + 1)).1 (tkP T sz (rlC (rlP T sz (a + 1))) true (a + 1)).2).1 = true), nI d, S, Rb, Nm, cv, hu) tr tp))) := by
  refine Ct.of (lv := [some (rf g (22, 0, 0)), none, none, none]) (by decide +kernel) rfl (Nat.le_of_ble_eq_true rfl) ?_
  intro Γ C
  refine V.iconst (q := 1) (v := -1) C dX10_test_0 rfl (by decide) ?_
  refine V.istore_n (q := 2) C dX10_test_1 rfl (by decide) rfl rfl ?_
  refine V.iconst (q := 3) (v := nI 0) C dX10_test_2 rfl (by decide) ?_
  refine V.istore_n (q := 4) C dX10_test_3 rfl (by decide) rfl rfl ?_
  refine m_test_l hsz (by omega) C ?_ 6 0 rfl
  refine V.loc (lv1 := [some (rf g (22, 0, 0)), some (.int (nI k)), some (.int (nI 6)), none]) (by rw [hq]) ?_
  refine V.iload_n (q := 36) C dX10_test_35 rfl rfl ?_
  refine V.iconst (q := 37) (v := -1) C dX10_test_36 rfl (by decide) ?_
  refine V.icmp_ne (q := 40) (tgt := 47) C dX10_test_37 rfl rfl (fun hb37 => ?_) (fun hb37 => ?_)
  · refine V.aload_n (q := 48) C dX10_test_47 rfl rfl ?_
    refine V.dup (q := 49) C dX10_test_48 rfl rfl ?_
    refine V.get (q := 52) C fl_X10_127 dX10_test_49 rfl okM rfl rfl ?_
    try dsimp only
    refine V.iconst (q := 53) (v := nI 1) C dX10_test_52 rfl (by decide) ?_
    refine V.iadd (q := 54) C dX10_test_53 rfl ?_
    refine V.topi (x1 := nI (a + 1)) (nI_add _ _) ?_
    refine V.put (q := 57) C fl_X10_127 rfl dX10_test_54 rfl okM rfl (Nat.le_of_ble_eq_true rfl) rfl rfl uM_at ?_
    try dsimp only
    refine V.aload_n (q := 58) C dX10_test_57 rfl rfl ?_
    refine V.bipush (q := 60) (v := nI 60) C dX10_test_58 rfl (by decide) ?_
    refine V.callVi (q := 63) C me_X10_isAt (m_isAt (by omega) (by omega)) ml_X10_133 dX10_test_60 rfl okM ⟨_, rfl⟩ rfl rfl (Nat.le_of_ble_eq_true rfl) (by omega) (Nat.zero_le _) (Nat.zero_le _) ?_
    refine V.if_eqB (q := 66) (tgt := 70) C dX10_test_63 rfl rfl (fun hb63 => ?_) (fun hb63 => ?_)
    · refine V.aload_n (q := 71) C dX10_test_70 rfl rfl ?_
      refine V.bipush (q := 73) (v := nI 62) C dX10_test_71 rfl (by decide) ?_
      refine V.callVi (q := 76) C me_X10_isAt (m_isAt (by omega) (by omega)) ml_X10_133 dX10_test_73 rfl okM ⟨_, rfl⟩ rfl rfl (Nat.le_of_ble_eq_true rfl) (by omega) (Nat.zero_le _) (Nat.zero_le _) ?_
      refine V.if_eqB (q := 79) (tgt := 83) C dX10_test_76 rfl rfl (fun hb76 => ?_) (fun hb76 => ?_)
      · refine V.iconst (q := 84) (v := nI 0) C dX10_test_83 rfl (by decide) ?_
        refine V.stk (st1 := [.int (rlP T sz (a + 1))]) (by simp only [rlP, hb63, hb76, Bool.false_eq_true, ↓reduceIte]) ?_
        exact m_test_84 hsz (by omega) hk C
      · refine V.iconst (q := 80) (v := nI 1) C dX10_test_79 rfl (by decide) ?_
        refine V.goto (tgt := 84) C dX10_test_80 rfl ?_
        refine V.stk (st1 := [.int (rlP T sz (a + 1))]) (by simp only [rlP, hb63, hb76, Bool.false_eq_true, ↓reduceIte]) ?_
        exact m_test_84 hsz (by omega) hk C
    · refine V.iconst (q := 67) (v := -1) C dX10_test_66 rfl (by decide) ?_
      refine V.goto (tgt := 84) C dX10_test_67 rfl ?_
      refine V.stk (st1 := [.int (rlP T sz (a + 1))]) (by simp only [rlP, hb63, Bool.false_eq_true, ↓reduceIte]) ?_
      exact m_test_84 hsz (by omega) hk C
  · exact absurd hb37 (nI_m1 (by omega))
theorem m_test {l : Launch} {g : GG} {X : PHp} {now mind : I1} {th : I1 × Int32} {tx : TXt} {T : I1} {sz a : Nat} {w : Bool} {d : Nat} {S Rb : Int32} {Nm cv hu : I1} {tr : I1 × Int32} {tp : TPt} (hsz : sz ≤ 100) (ha : a ≤ sz) : Ct l g yX10_test cX10_test 4 (some .boolean) 3 0 0 [rf g (22, 0, 0)] NN (jn X (hM g now mind th tx (T, nI sz, nI a, b2i (w = true), nI d, S, Rb, Nm, cv, hu) tr tp)) (pI (b2i ((teP T sz Nm w a).2.2.2 = true)) (jn X (hM g now mind th tx (T, nI sz, nI (teP T sz Nm w a).2.1, b2i ((teP T sz Nm w a).1 = true), nI d, S, Rb, Nm, cv, hu) tr tp))) := by
  rcases ls_cases (T := T) (sz := sz) (a := a) (w := w) (L := mLet) 6 with ⟨h1, -⟩ | ⟨k, hk, h2, h3⟩
  · rw [show teP T sz Nm w a = (false, a, [], false) from if_pos h1]
    exact m_test0 hsz ha h1
  · obtain ⟨rfl, h4, -⟩ := isA_of h3
    have e : teP T sz Nm true a = (((nuP T sz (tkP T sz (rlC (rlP T sz (a + 1))) true (a + 1)).1 (tkP T sz (rlC (rlP T sz (a + 1))) true (a + 1)).2)).1, ((nuP T sz (tkP T sz (rlC (rlP T sz (a + 1))) true (a + 1)).1 (tkP T sz (rlC (rlP T sz (a + 1))) true (a + 1)).2)).2.1, [(nI k * nI 3 + (rlP T sz (a + 1) + nI 1), ((nuP T sz (tkP T sz (rlC (rlP T sz (a + 1))) true (a + 1)).1 (tkP T sz (rlC (rlP T sz (a + 1))) true (a + 1)).2)).2.2)], rlV (rlP T sz (a + 1)) (Nm k) ((nuP T sz (tkP T sz (rlC (rlP T sz (a + 1))) true (a + 1)).1 (tkP T sz (rlC (rlP T sz (a + 1))) true (a + 1)).2)).2.2) := by
      unfold teP
      rw [h2, if_neg (nI_m1 (by omega)), ix_nI (by omega)]
    rw [e]
    exact m_test1 hsz (by omega) hk h2
def FacC (l : Launch) (g : GG) (X : PHp) (k d lv : Nat) : Prop := ∀ (now mind : I1) (th : I1 × Int32) (tx : TXt) (T : I1) (sz a : Nat) (w : Bool) (S Rb : Int32) (Nm cv hu : I1) (tr : I1 × Int32) (tp : TPt), sz ≤ 100 → a ≤ sz → Ct l g yX10_factor cX10_factor 2 (some .boolean) lv 0 0 [rf g (22, 0, 0)] NN (jn X (hM g now mind th tx (T, nI sz, nI a, b2i (w = true), nI d, S, Rb, Nm, cv, hu) tr tp)) (pI (b2i ((faP T sz Nm k w a).2.2.2 = true)) (jn X (hM g now mind th tx (T, nI sz, nI (faP T sz Nm k w a).2.1, b2i ((faP T sz Nm k w a).1 = true), nI d, S, Rb, Nm, cv, hu) tr tp)))
def BotC (l : Launch) (g : GG) (X : PHp) (k d lv : Nat) : Prop := ∀ (now mind : I1) (th : I1 × Int32) (tx : TXt) (T : I1) (sz a : Nat) (w : Bool) (S Rb : Int32) (Nm cv hu : I1) (tr : I1 × Int32) (tp : TPt), sz ≤ 100 → a ≤ sz → Ct l g yX10_both cX10_both 3 (some .boolean) lv 0 0 [rf g (22, 0, 0)] NN (jn X (hM g now mind th tx (T, nI sz, nI a, b2i (w = true), nI d, S, Rb, Nm, cv, hu) tr tp)) (pI (b2i ((boP (faP T sz Nm k) T sz w a).2.2.2 = true)) (jn X (hM g now mind th tx (T, nI sz, nI (boP (faP T sz Nm k) T sz w a).2.1, b2i ((boP (faP T sz Nm k) T sz w a).1 = true), nI d, S, Rb, Nm, cv, hu) tr tp)))
def AnyC (l : Launch) (g : GG) (X : PHp) (k d lv : Nat) : Prop := ∀ (now mind : I1) (th : I1 × Int32) (tx : TXt) (T : I1) (sz a : Nat) (w : Bool) (S Rb : Int32) (Nm cv hu : I1) (tr : I1 × Int32) (tp : TPt), sz ≤ 100 → a ≤ sz → Ct l g yX10_any cX10_any 3 (some .boolean) lv 0 0 [rf g (22, 0, 0)] NN (jn X (hM g now mind th tx (T, nI sz, nI a, b2i (w = true), nI d, S, Rb, Nm, cv, hu) tr tp)) (pI (b2i ((anP (faP T sz Nm k) T sz w a).2.2.2 = true)) (jn X (hM g now mind th tx (T, nI sz, nI (anP (faP T sz Nm k) T sz w a).2.1, b2i ((anP (faP T sz Nm k) T sz w a).1 = true), nI d, S, Rb, Nm, cv, hu) tr tp)))
theorem m_both_l {l : Launch} {g : GG} {X : PHp} {now mind : I1} {th : I1 × Int32} {tx : TXt} {T : I1} {sz : Nat} {d k lv : Nat} {S Rb : Int32} {Nm cv hu : I1} {tr : I1 × Int32} {tp : TPt} {Γ : Cxt} (hF : FacC l g X k d lv) (hsz : sz ≤ 100) (C : Cx Γ g cX10_both yX10_both 3 (some .boolean) (lv + 1) 0 0) (hlv : 1 ≤ lv) : ∀ (f : Nat) (r : PR) (u : Option Value), r.2.1 ≤ sz → sz ≤ f + r.2.1 → V l Γ g 3 (QM Γ g (pI (b2i ((tlP (faP T sz Nm k) T sz (nI 38) (nI 18) and f r).2.2.2 = true)) (jn X (hM g now mind th tx (T, nI sz, nI (tlP (faP T sz Nm k) T sz (nI 38) (nI 18) and f r).2.1, b2i ((tlP (faP T sz Nm k) T sz (nI 38) (nI 18) and f r).1 = true), nI d, S, Rb, Nm, cv, hu) tr tp))) 0 0) 0 0 NN (jn X (hM g now mind th tx (T, nI sz, nI r.2.1, b2i (r.1 = true), nI d, S, Rb, Nm, cv, hu) tr tp)) 5 [some (rf g (22, 0, 0)), some (.int (b2i (r.2.2.2 = true))), u] [] := by
  intro f
  induction f with
  | zero =>
    intro r u hr hf
    refine V.aload_n (q := 6) C dX10_both_5 rfl rfl ?_
    refine V.bipush (q := 8) (v := nI 38) C dX10_both_6 rfl (by decide) ?_
    refine V.callVi (q := 11) C me_X10_isAt (m_isAt hsz (by omega)) ml_X10_133 dX10_both_8 rfl okM ⟨_, rfl⟩ rfl rfl (Nat.le_of_ble_eq_true rfl) (by omega) (Nat.zero_le _) (Nat.zero_le _) ?_
    refine V.if_eqB (q := 14) (tgt := 46) C dX10_both_11 rfl rfl (fun hb11 => ?_) (fun hb11 => ?_)
    · refine V.iload_n (q := 47) C dX10_both_46 rfl rfl ?_
      exact V.zreturn C dX10_both_47 b2i_n ⟨rfl, rfl, rfl⟩
    · exact absurd (isA_of hb11).2.1 (by omega)
  | succ f ih =>
    intro r u hr hf
    refine V.aload_n (q := 6) C dX10_both_5 rfl rfl ?_
    refine V.bipush (q := 8) (v := nI 38) C dX10_both_6 rfl (by decide) ?_
    refine V.callVi (q := 11) C me_X10_isAt (m_isAt hsz (by omega)) ml_X10_133 dX10_both_8 rfl okM ⟨_, rfl⟩ rfl rfl (Nat.le_of_ble_eq_true rfl) (by omega) (Nat.zero_le _) (Nat.zero_le _) ?_
    refine V.if_eqB (q := 14) (tgt := 46) C dX10_both_11 rfl rfl (fun hb11 => ?_) (fun hb11 => ?_)
    · have h6 : (tlP (faP T sz Nm k) T sz (nI 38) (nI 18) and (f + 1) r) = r := if_neg hb11
      rw [h6]
      refine V.iload_n (q := 47) C dX10_both_46 rfl rfl ?_
      exact V.zreturn C dX10_both_47 b2i_n ⟨rfl, rfl, rfl⟩
    · have h4 := (isA_of hb11).2.1
      have h5 := (fa_in k : Pin sz (faP T sz Nm k)) true (r.2.1 + 1) (by omega)
      have h6 : (tlP (faP T sz Nm k) T sz (nI 38) (nI 18) and (f + 1) r) = (tlP (faP T sz Nm k) T sz (nI 38) (nI 18) and f (((faP T sz Nm k) true (r.2.1 + 1)).1, ((faP T sz Nm k) true (r.2.1 + 1)).2.1, r.2.2.1 ++ ((faP T sz Nm k) true (r.2.1 + 1)).2.2.1 ++ [(nI 18, nI 0)], and r.2.2.2 ((faP T sz Nm k) true (r.2.1 + 1)).2.2.2)) := if_pos hb11
      rw [h6]
      have hw1 := (isA_of hb11).1
      rw [hw1]
      refine V.aload_n (q := 15) C dX10_both_14 rfl rfl ?_
      refine V.dup (q := 16) C dX10_both_15 rfl rfl ?_
      refine V.get (q := 19) C fl_X10_127 dX10_both_16 rfl okM rfl rfl ?_
      try dsimp only
      refine V.iconst (q := 20) (v := nI 1) C dX10_both_19 rfl (by decide) ?_
      refine V.iadd (q := 21) C dX10_both_20 rfl ?_
      refine V.topi (x1 := nI (r.2.1 + 1)) (nI_add _ _) ?_
      refine V.put (q := 24) C fl_X10_127 rfl dX10_both_21 rfl okM rfl (Nat.le_of_ble_eq_true rfl) rfl rfl uM_at ?_
      try dsimp only
      refine V.aload_n (q := 25) C dX10_both_24 rfl rfl ?_
      refine V.callVi (q := 28) C me_X10_factor (hF _ _ _ _ _ _ _ _ _ _ _ _ _ _ _ hsz (by omega)) ml_X10_151 dX10_both_25 rfl okM ⟨_, rfl⟩ rfl rfl (Nat.le_of_ble_eq_true rfl) (by omega) (Nat.zero_le _) (Nat.zero_le _) ?_
      refine V.istore_n (q := 29) C dX10_both_28 rfl (by decide) rfl rfl ?_
      refine V.iload_n (q := 30) C dX10_both_29 rfl rfl ?_
      refine V.if_eqB (q := 33) (tgt := 41) C dX10_both_30 rfl rfl (fun hb30 => ?_) (fun hb30 => ?_)
      · refine V.iconst (q := 42) (v := nI 0) C dX10_both_41 rfl (by decide) ?_
        refine V.istore_n (q := 43) C dX10_both_42 rfl (by decide) rfl rfl ?_
        refine V.goto (tgt := 5) C dX10_both_43 rfl ?_
        have h8 : nI 0 = b2i (((((faP T sz Nm k) true (r.2.1 + 1)).1, ((faP T sz Nm k) true (r.2.1 + 1)).2.1, r.2.2.1 ++ ((faP T sz Nm k) true (r.2.1 + 1)).2.2.1 ++ [(nI 18, nI 0)], and r.2.2.2 ((faP T sz Nm k) true (r.2.1 + 1)).2.2.2)).2.2.2 = true) := by simp [b2i, hb30]
        refine V.loc (lv1 := [some (rf g (22, 0, 0)), some (.int (b2i (((((faP T sz Nm k) true (r.2.1 + 1)).1, ((faP T sz Nm k) true (r.2.1 + 1)).2.1, r.2.2.1 ++ ((faP T sz Nm k) true (r.2.1 + 1)).2.2.1 ++ [(nI 18, nI 0)], and r.2.2.2 ((faP T sz Nm k) true (r.2.1 + 1)).2.2.2)).2.2.2 = true))), some (.int (b2i (((faP T sz Nm k) true (r.2.1 + 1)).2.2.2 = true)))]) (by rw [← h8] <;> rfl) ?_
        exact ih (((faP T sz Nm k) true (r.2.1 + 1)).1, ((faP T sz Nm k) true (r.2.1 + 1)).2.1, r.2.2.1 ++ ((faP T sz Nm k) true (r.2.1 + 1)).2.2.1 ++ [(nI 18, nI 0)], and r.2.2.2 ((faP T sz Nm k) true (r.2.1 + 1)).2.2.2) _ h5.2 (by dsimp only; omega)
      · refine V.iload_n (q := 34) C dX10_both_33 rfl rfl ?_
        refine V.if_eqB (q := 37) (tgt := 41) C dX10_both_34 rfl rfl (fun hb34 => ?_) (fun hb34 => ?_)
        · refine V.iconst (q := 42) (v := nI 0) C dX10_both_41 rfl (by decide) ?_
          refine V.istore_n (q := 43) C dX10_both_42 rfl (by decide) rfl rfl ?_
          refine V.goto (tgt := 5) C dX10_both_43 rfl ?_
          have h8 : nI 0 = b2i (((((faP T sz Nm k) true (r.2.1 + 1)).1, ((faP T sz Nm k) true (r.2.1 + 1)).2.1, r.2.2.1 ++ ((faP T sz Nm k) true (r.2.1 + 1)).2.2.1 ++ [(nI 18, nI 0)], and r.2.2.2 ((faP T sz Nm k) true (r.2.1 + 1)).2.2.2)).2.2.2 = true) := by simp [b2i, hb30, hb34]
          refine V.loc (lv1 := [some (rf g (22, 0, 0)), some (.int (b2i (((((faP T sz Nm k) true (r.2.1 + 1)).1, ((faP T sz Nm k) true (r.2.1 + 1)).2.1, r.2.2.1 ++ ((faP T sz Nm k) true (r.2.1 + 1)).2.2.1 ++ [(nI 18, nI 0)], and r.2.2.2 ((faP T sz Nm k) true (r.2.1 + 1)).2.2.2)).2.2.2 = true))), some (.int (b2i (((faP T sz Nm k) true (r.2.1 + 1)).2.2.2 = true)))]) (by rw [← h8] <;> rfl) ?_
          exact ih (((faP T sz Nm k) true (r.2.1 + 1)).1, ((faP T sz Nm k) true (r.2.1 + 1)).2.1, r.2.2.1 ++ ((faP T sz Nm k) true (r.2.1 + 1)).2.2.1 ++ [(nI 18, nI 0)], and r.2.2.2 ((faP T sz Nm k) true (r.2.1 + 1)).2.2.2) _ h5.2 (by dsimp only; omega)
        · refine V.iconst (q := 38) (v := nI 1) C dX10_both_37 rfl (by decide) ?_
          refine V.goto (tgt := 42) C dX10_both_38 rfl ?_
          refine V.istore_n (q := 43) C dX10_both_42 rfl (by decide) rfl rfl ?_
          refine V.goto (tgt := 5) C dX10_both_43 rfl ?_
          have h8 : nI 1 = b2i (((((faP T sz Nm k) true (r.2.1 + 1)).1, ((faP T sz Nm k) true (r.2.1 + 1)).2.1, r.2.2.1 ++ ((faP T sz Nm k) true (r.2.1 + 1)).2.2.1 ++ [(nI 18, nI 0)], and r.2.2.2 ((faP T sz Nm k) true (r.2.1 + 1)).2.2.2)).2.2.2 = true) := by simp [b2i, hb30, hb34]
          refine V.loc (lv1 := [some (rf g (22, 0, 0)), some (.int (b2i (((((faP T sz Nm k) true (r.2.1 + 1)).1, ((faP T sz Nm k) true (r.2.1 + 1)).2.1, r.2.2.1 ++ ((faP T sz Nm k) true (r.2.1 + 1)).2.2.1 ++ [(nI 18, nI 0)], and r.2.2.2 ((faP T sz Nm k) true (r.2.1 + 1)).2.2.2)).2.2.2 = true))), some (.int (b2i (((faP T sz Nm k) true (r.2.1 + 1)).2.2.2 = true)))]) (by rw [← h8] <;> rfl) ?_
          exact ih (((faP T sz Nm k) true (r.2.1 + 1)).1, ((faP T sz Nm k) true (r.2.1 + 1)).2.1, r.2.2.1 ++ ((faP T sz Nm k) true (r.2.1 + 1)).2.2.1 ++ [(nI 18, nI 0)], and r.2.2.2 ((faP T sz Nm k) true (r.2.1 + 1)).2.2.2) _ h5.2 (by dsimp only; omega)
theorem m_both {l : Launch} {g : GG} {X : PHp} {now mind : I1} {th : I1 × Int32} {tx : TXt} {T : I1} {sz a : Nat} {w : Bool} {d k lv : Nat} {S Rb : Int32} {Nm cv hu : I1} {tr : I1 × Int32} {tp : TPt} (hF : FacC l g X k d lv) (hlv : 1 ≤ lv) (hsz : sz ≤ 100) (ha : a ≤ sz) : Ct l g yX10_both cX10_both 3 (some .boolean) (lv + 1) 0 0 [rf g (22, 0, 0)] NN (jn X (hM g now mind th tx (T, nI sz, nI a, b2i (w = true), nI d, S, Rb, Nm, cv, hu) tr tp)) (pI (b2i ((boP (faP T sz Nm k) T sz w a).2.2.2 = true)) (jn X (hM g now mind th tx (T, nI sz, nI (boP (faP T sz Nm k) T sz w a).2.1, b2i ((boP (faP T sz Nm k) T sz w a).1 = true), nI d, S, Rb, Nm, cv, hu) tr tp))) := by
  refine Ct.of (lv := [some (rf g (22, 0, 0)), none, none]) (by decide +kernel) rfl (Nat.le_of_ble_eq_true rfl) ?_
  intro Γ C
  refine V.aload_n (q := 1) C dX10_both_0 rfl rfl ?_
  refine V.callVi (q := 4) C me_X10_factor (hF _ _ _ _ _ _ _ _ _ _ _ _ _ _ _ hsz ha) ml_X10_151 dX10_both_1 rfl okM ⟨_, rfl⟩ rfl rfl (Nat.le_of_ble_eq_true rfl) (by omega) (Nat.zero_le _) (Nat.zero_le _) ?_
  refine V.istore_n (q := 5) C dX10_both_4 rfl (by decide) rfl rfl ?_
  exact m_both_l hF hsz C hlv sz _ _ ((fa_in k : Pin sz (faP T sz Nm k)) w a ha).2 (by omega)
theorem m_any_l {l : Launch} {g : GG} {X : PHp} {now mind : I1} {th : I1 × Int32} {tx : TXt} {T : I1} {sz : Nat} {d k lv : Nat} {S Rb : Int32} {Nm cv hu : I1} {tr : I1 × Int32} {tp : TPt} {Γ : Cxt} (hF : BotC l g X k d lv) (hsz : sz ≤ 100) (C : Cx Γ g cX10_any yX10_any 3 (some .boolean) (lv + 1) 0 0) (hlv : 1 ≤ lv) : ∀ (f : Nat) (r : PR) (u : Option Value), r.2.1 ≤ sz → sz ≤ f + r.2.1 → V l Γ g 3 (QM Γ g (pI (b2i ((tlP (boP (faP T sz Nm k) T sz) T sz (nI 124) (nI 19) or f r).2.2.2 = true)) (jn X (hM g now mind th tx (T, nI sz, nI (tlP (boP (faP T sz Nm k) T sz) T sz (nI 124) (nI 19) or f r).2.1, b2i ((tlP (boP (faP T sz Nm k) T sz) T sz (nI 124) (nI 19) or f r).1 = true), nI d, S, Rb, Nm, cv, hu) tr tp))) 0 0) 0 0 NN (jn X (hM g now mind th tx (T, nI sz, nI r.2.1, b2i (r.1 = true), nI d, S, Rb, Nm, cv, hu) tr tp)) 5 [some (rf g (22, 0, 0)), some (.int (b2i (r.2.2.2 = true))), u] [] := by
  intro f
  induction f with
  | zero =>
    intro r u hr hf
    refine V.aload_n (q := 6) C dX10_any_5 rfl rfl ?_
    refine V.bipush (q := 8) (v := nI 124) C dX10_any_6 rfl (by decide) ?_
    refine V.callVi (q := 11) C me_X10_isAt (m_isAt hsz (by omega)) ml_X10_133 dX10_any_8 rfl okM ⟨_, rfl⟩ rfl rfl (Nat.le_of_ble_eq_true rfl) (by omega) (Nat.zero_le _) (Nat.zero_le _) ?_
    refine V.if_eqB (q := 14) (tgt := 46) C dX10_any_11 rfl rfl (fun hb11 => ?_) (fun hb11 => ?_)
    · refine V.iload_n (q := 47) C dX10_any_46 rfl rfl ?_
      exact V.zreturn C dX10_any_47 b2i_n ⟨rfl, rfl, rfl⟩
    · exact absurd (isA_of hb11).2.1 (by omega)
  | succ f ih =>
    intro r u hr hf
    refine V.aload_n (q := 6) C dX10_any_5 rfl rfl ?_
    refine V.bipush (q := 8) (v := nI 124) C dX10_any_6 rfl (by decide) ?_
    refine V.callVi (q := 11) C me_X10_isAt (m_isAt hsz (by omega)) ml_X10_133 dX10_any_8 rfl okM ⟨_, rfl⟩ rfl rfl (Nat.le_of_ble_eq_true rfl) (by omega) (Nat.zero_le _) (Nat.zero_le _) ?_
    refine V.if_eqB (q := 14) (tgt := 46) C dX10_any_11 rfl rfl (fun hb11 => ?_) (fun hb11 => ?_)
    · have h6 : (tlP (boP (faP T sz Nm k) T sz) T sz (nI 124) (nI 19) or (f + 1) r) = r := if_neg hb11
      rw [h6]
      refine V.iload_n (q := 47) C dX10_any_46 rfl rfl ?_
      exact V.zreturn C dX10_any_47 b2i_n ⟨rfl, rfl, rfl⟩
    · have h4 := (isA_of hb11).2.1
      have h5 := (bo_in (fa_in k) : Pin sz (boP (faP T sz Nm k) T sz)) true (r.2.1 + 1) (by omega)
      have h6 : (tlP (boP (faP T sz Nm k) T sz) T sz (nI 124) (nI 19) or (f + 1) r) = (tlP (boP (faP T sz Nm k) T sz) T sz (nI 124) (nI 19) or f (((boP (faP T sz Nm k) T sz) true (r.2.1 + 1)).1, ((boP (faP T sz Nm k) T sz) true (r.2.1 + 1)).2.1, r.2.2.1 ++ ((boP (faP T sz Nm k) T sz) true (r.2.1 + 1)).2.2.1 ++ [(nI 19, nI 0)], or r.2.2.2 ((boP (faP T sz Nm k) T sz) true (r.2.1 + 1)).2.2.2)) := if_pos hb11
      rw [h6]
      have hw1 := (isA_of hb11).1
      rw [hw1]
      refine V.aload_n (q := 15) C dX10_any_14 rfl rfl ?_
      refine V.dup (q := 16) C dX10_any_15 rfl rfl ?_
      refine V.get (q := 19) C fl_X10_127 dX10_any_16 rfl okM rfl rfl ?_
      try dsimp only
      refine V.iconst (q := 20) (v := nI 1) C dX10_any_19 rfl (by decide) ?_
      refine V.iadd (q := 21) C dX10_any_20 rfl ?_
      refine V.topi (x1 := nI (r.2.1 + 1)) (nI_add _ _) ?_
      refine V.put (q := 24) C fl_X10_127 rfl dX10_any_21 rfl okM rfl (Nat.le_of_ble_eq_true rfl) rfl rfl uM_at ?_
      try dsimp only
      refine V.aload_n (q := 25) C dX10_any_24 rfl rfl ?_
      refine V.callVi (q := 28) C me_X10_both (hF _ _ _ _ _ _ _ _ _ _ _ _ _ _ _ hsz (by omega)) ml_X10_160 dX10_any_25 rfl okM ⟨_, rfl⟩ rfl rfl (Nat.le_of_ble_eq_true rfl) (by omega) (Nat.zero_le _) (Nat.zero_le _) ?_
      refine V.istore_n (q := 29) C dX10_any_28 rfl (by decide) rfl rfl ?_
      refine V.iload_n (q := 30) C dX10_any_29 rfl rfl ?_
      refine V.if_neB (q := 33) (tgt := 37) C dX10_any_30 rfl rfl (fun hb30 => ?_) (fun hb30 => ?_)
      · refine V.iconst (q := 38) (v := nI 1) C dX10_any_37 rfl (by decide) ?_
        refine V.goto (tgt := 42) C dX10_any_38 rfl ?_
        refine V.istore_n (q := 43) C dX10_any_42 rfl (by decide) rfl rfl ?_
        refine V.goto (tgt := 5) C dX10_any_43 rfl ?_
        have h8 : nI 1 = b2i (((((boP (faP T sz Nm k) T sz) true (r.2.1 + 1)).1, ((boP (faP T sz Nm k) T sz) true (r.2.1 + 1)).2.1, r.2.2.1 ++ ((boP (faP T sz Nm k) T sz) true (r.2.1 + 1)).2.2.1 ++ [(nI 19, nI 0)], or r.2.2.2 ((boP (faP T sz Nm k) T sz) true (r.2.1 + 1)).2.2.2)).2.2.2 = true) := by simp [b2i, hb30]
        refine V.loc (lv1 := [some (rf g (22, 0, 0)), some (.int (b2i (((((boP (faP T sz Nm k) T sz) true (r.2.1 + 1)).1, ((boP (faP T sz Nm k) T sz) true (r.2.1 + 1)).2.1, r.2.2.1 ++ ((boP (faP T sz Nm k) T sz) true (r.2.1 + 1)).2.2.1 ++ [(nI 19, nI 0)], or r.2.2.2 ((boP (faP T sz Nm k) T sz) true (r.2.1 + 1)).2.2.2)).2.2.2 = true))), some (.int (b2i (((boP (faP T sz Nm k) T sz) true (r.2.1 + 1)).2.2.2 = true)))]) (by rw [← h8] <;> rfl) ?_
        exact ih (((boP (faP T sz Nm k) T sz) true (r.2.1 + 1)).1, ((boP (faP T sz Nm k) T sz) true (r.2.1 + 1)).2.1, r.2.2.1 ++ ((boP (faP T sz Nm k) T sz) true (r.2.1 + 1)).2.2.1 ++ [(nI 19, nI 0)], or r.2.2.2 ((boP (faP T sz Nm k) T sz) true (r.2.1 + 1)).2.2.2) _ h5.2 (by dsimp only; omega)
      · refine V.iload_n (q := 34) C dX10_any_33 rfl rfl ?_
        refine V.if_eqB (q := 37) (tgt := 41) C dX10_any_34 rfl rfl (fun hb34 => ?_) (fun hb34 => ?_)
        · refine V.iconst (q := 42) (v := nI 0) C dX10_any_41 rfl (by decide) ?_
          refine V.istore_n (q := 43) C dX10_any_42 rfl (by decide) rfl rfl ?_
          refine V.goto (tgt := 5) C dX10_any_43 rfl ?_
          have h8 : nI 0 = b2i (((((boP (faP T sz Nm k) T sz) true (r.2.1 + 1)).1, ((boP (faP T sz Nm k) T sz) true (r.2.1 + 1)).2.1, r.2.2.1 ++ ((boP (faP T sz Nm k) T sz) true (r.2.1 + 1)).2.2.1 ++ [(nI 19, nI 0)], or r.2.2.2 ((boP (faP T sz Nm k) T sz) true (r.2.1 + 1)).2.2.2)).2.2.2 = true) := by simp [b2i, hb30, hb34]
          refine V.loc (lv1 := [some (rf g (22, 0, 0)), some (.int (b2i (((((boP (faP T sz Nm k) T sz) true (r.2.1 + 1)).1, ((boP (faP T sz Nm k) T sz) true (r.2.1 + 1)).2.1, r.2.2.1 ++ ((boP (faP T sz Nm k) T sz) true (r.2.1 + 1)).2.2.1 ++ [(nI 19, nI 0)], or r.2.2.2 ((boP (faP T sz Nm k) T sz) true (r.2.1 + 1)).2.2.2)).2.2.2 = true))), some (.int (b2i (((boP (faP T sz Nm k) T sz) true (r.2.1 + 1)).2.2.2 = true)))]) (by rw [← h8] <;> rfl) ?_
          exact ih (((boP (faP T sz Nm k) T sz) true (r.2.1 + 1)).1, ((boP (faP T sz Nm k) T sz) true (r.2.1 + 1)).2.1, r.2.2.1 ++ ((boP (faP T sz Nm k) T sz) true (r.2.1 + 1)).2.2.1 ++ [(nI 19, nI 0)], or r.2.2.2 ((boP (faP T sz Nm k) T sz) true (r.2.1 + 1)).2.2.2) _ h5.2 (by dsimp only; omega)
        · refine V.iconst (q := 38) (v := nI 1) C dX10_any_37 rfl (by decide) ?_
          refine V.goto (tgt := 42) C dX10_any_38 rfl ?_
          refine V.istore_n (q := 43) C dX10_any_42 rfl (by decide) rfl rfl ?_
          refine V.goto (tgt := 5) C dX10_any_43 rfl ?_
          have h8 : nI 1 = b2i (((((boP (faP T sz Nm k) T sz) true (r.2.1 + 1)).1, ((boP (faP T sz Nm k) T sz) true (r.2.1 + 1)).2.1, r.2.2.1 ++ ((boP (faP T sz Nm k) T sz) true (r.2.1 + 1)).2.2.1 ++ [(nI 19, nI 0)], or r.2.2.2 ((boP (faP T sz Nm k) T sz) true (r.2.1 + 1)).2.2.2)).2.2.2 = true) := by simp [b2i, hb30, hb34]
          refine V.loc (lv1 := [some (rf g (22, 0, 0)), some (.int (b2i (((((boP (faP T sz Nm k) T sz) true (r.2.1 + 1)).1, ((boP (faP T sz Nm k) T sz) true (r.2.1 + 1)).2.1, r.2.2.1 ++ ((boP (faP T sz Nm k) T sz) true (r.2.1 + 1)).2.2.1 ++ [(nI 19, nI 0)], or r.2.2.2 ((boP (faP T sz Nm k) T sz) true (r.2.1 + 1)).2.2.2)).2.2.2 = true))), some (.int (b2i (((boP (faP T sz Nm k) T sz) true (r.2.1 + 1)).2.2.2 = true)))]) (by rw [← h8] <;> rfl) ?_
          exact ih (((boP (faP T sz Nm k) T sz) true (r.2.1 + 1)).1, ((boP (faP T sz Nm k) T sz) true (r.2.1 + 1)).2.1, r.2.2.1 ++ ((boP (faP T sz Nm k) T sz) true (r.2.1 + 1)).2.2.1 ++ [(nI 19, nI 0)], or r.2.2.2 ((boP (faP T sz Nm k) T sz) true (r.2.1 + 1)).2.2.2) _ h5.2 (by dsimp only; omega)
theorem m_any {l : Launch} {g : GG} {X : PHp} {now mind : I1} {th : I1 × Int32} {tx : TXt} {T : I1} {sz a : Nat} {w : Bool} {d k lv : Nat} {S Rb : Int32} {Nm cv hu : I1} {tr : I1 × Int32} {tp : TPt} (hF : BotC l g X k d lv) (hlv : 1 ≤ lv) (hsz : sz ≤ 100) (ha : a ≤ sz) : Ct l g yX10_any cX10_any 3 (some .boolean) (lv + 1) 0 0 [rf g (22, 0, 0)] NN (jn X (hM g now mind th tx (T, nI sz, nI a, b2i (w = true), nI d, S, Rb, Nm, cv, hu) tr tp)) (pI (b2i ((anP (faP T sz Nm k) T sz w a).2.2.2 = true)) (jn X (hM g now mind th tx (T, nI sz, nI (anP (faP T sz Nm k) T sz w a).2.1, b2i ((anP (faP T sz Nm k) T sz w a).1 = true), nI d, S, Rb, Nm, cv, hu) tr tp))) := by
  refine Ct.of (lv := [some (rf g (22, 0, 0)), none, none]) (by decide +kernel) rfl (Nat.le_of_ble_eq_true rfl) ?_
  intro Γ C
  refine V.aload_n (q := 1) C dX10_any_0 rfl rfl ?_
  refine V.callVi (q := 4) C me_X10_both (hF _ _ _ _ _ _ _ _ _ _ _ _ _ _ _ hsz ha) ml_X10_160 dX10_any_1 rfl okM ⟨_, rfl⟩ rfl rfl (Nat.le_of_ble_eq_true rfl) (by omega) (Nat.zero_le _) (Nat.zero_le _) ?_
  refine V.istore_n (q := 5) C dX10_any_4 rfl (by decide) rfl rfl ?_
  exact m_any_l hF hsz C hlv sz _ _ ((bo_in (fa_in k) : Pin sz (boP (faP T sz Nm k) T sz)) w a ha).2 (by omega)
theorem m_factor_0 {l : Launch} {g : GG} {X : PHp} {now mind : I1} {th : I1 × Int32} {tx : TXt} {T : I1} {sz a : Nat} {w : Bool} {d : Nat} {S Rb : Int32} {Nm cv hu : I1} {tr : I1 × Int32} {tp : TPt} (hd : d = 4) (hsz : sz ≤ 100) (ha : a ≤ sz) : Ct l g yX10_factor cX10_factor 2 (some .boolean) 4 0 0 [rf g (22, 0, 0)] NN (jn X (hM g now mind th tx (T, nI sz, nI a, b2i (w = true), nI d, S, Rb, Nm, cv, hu) tr tp)) (pI (b2i ((faP T sz Nm 0 w a).2.2.2 = true)) (jn X (hM g now mind th tx (T, nI sz, nI (faP T sz Nm 0 w a).2.1, b2i ((faP T sz Nm 0 w a).1 = true), nI d, S, Rb, Nm, cv, hu) tr tp))) := by
  refine Ct.of (lv := [some (rf g (22, 0, 0)), none]) (by decide +kernel) rfl (Nat.le_of_ble_eq_true rfl) ?_
  intro Γ C
  subst hd
  refine V.aload_n (q := 1) C dX10_factor_0 rfl rfl ?_
  refine V.get (q := 4) C fl_X10_148 dX10_factor_1 rfl okM rfl rfl ?_
  try dsimp only
  refine V.iconst (q := 5) (v := nI 4) C dX10_factor_4 rfl (by decide) ?_
  refine V.icmp_ge (q := 8) (tgt := 63) C dX10_factor_5 rfl rfl (fun hb5 => ?_) (fun hb5 => ?_)
  · refine V.aload_n (q := 64) C dX10_factor_63 rfl rfl ?_
    refine V.get (q := 67) C fl_X10_148 dX10_factor_64 rfl okM rfl rfl ?_
    try dsimp only
    refine V.iconst (q := 68) (v := nI 4) C dX10_factor_67 rfl (by decide) ?_
    refine V.icmp_ge (q := 71) (tgt := 124) C dX10_factor_68 rfl rfl (fun hb68 => ?_) (fun hb68 => ?_)
    · refine V.aload_n (q := 125) C dX10_factor_124 rfl rfl ?_
      refine V.callVi (q := 128) C me_X10_test (m_test (by omega) (by omega)) ml_X10_157 dX10_factor_125 rfl okM ⟨_, rfl⟩ rfl rfl (Nat.le_of_ble_eq_true rfl) (by omega) (Nat.zero_le _) (Nat.zero_le _) ?_
      refine V.istore_n (q := 129) C dX10_factor_128 rfl (by decide) rfl rfl ?_
      refine V.iload_n (q := 130) C dX10_factor_129 rfl rfl ?_
      exact V.zreturn C dX10_factor_130 b2i_n ⟨rfl, rfl, rfl⟩
    · exact absurd (nI_leI (a := 4) (b := 4) (by omega) (by omega) |>.mpr (by omega)) hb68
  · exact absurd (nI_leI (a := 4) (b := 4) (by omega) (by omega) |>.mpr (by omega)) hb5
theorem m_factor_s {l : Launch} {g : GG} {X : PHp} {now mind : I1} {th : I1 × Int32} {tx : TXt} {T : I1} {sz a : Nat} {w : Bool} {d k lv : Nat} {S Rb : Int32} {Nm cv hu : I1} {tr : I1 × Int32} {tp : TPt} (hd : d + 1 ≤ 4) (hF : FacC l g X k (d + 1) lv) (hA : AnyC l g X k (d + 1) (lv + 2)) (h4 : 4 ≤ lv) (hsz : sz ≤ 100) (ha : a ≤ sz) : Ct l g yX10_factor cX10_factor 2 (some .boolean) (lv + 3) 0 0 [rf g (22, 0, 0)] NN (jn X (hM g now mind th tx (T, nI sz, nI a, b2i (w = true), nI d, S, Rb, Nm, cv, hu) tr tp)) (pI (b2i ((faP T sz Nm (k + 1) w a).2.2.2 = true)) (jn X (hM g now mind th tx (T, nI sz, nI (faP T sz Nm (k + 1) w a).2.1, b2i ((faP T sz Nm (k + 1) w a).1 = true), nI d, S, Rb, Nm, cv, hu) tr tp))) := by
  refine Ct.of (lv := [some (rf g (22, 0, 0)), none]) (by decide +kernel) rfl (Nat.le_of_ble_eq_true rfl) ?_
  intro Γ C
  refine V.aload_n (q := 1) C dX10_factor_0 rfl rfl ?_
  refine V.get (q := 4) C fl_X10_148 dX10_factor_1 rfl okM rfl rfl ?_
  try dsimp only
  refine V.iconst (q := 5) (v := nI 4) C dX10_factor_4 rfl (by decide) ?_
  refine V.icmp_ge (q := 8) (tgt := 63) C dX10_factor_5 rfl rfl (fun hb5 => ?_) (fun hb5 => ?_)
  · exact absurd ((nI_leI (by omega) (by omega)).mp hb5) (by omega)
  · refine V.aload_n (q := 9) C dX10_factor_8 rfl rfl ?_
    refine V.bipush (q := 11) (v := nI 33) C dX10_factor_9 rfl (by decide) ?_
    refine V.callVi (q := 14) C me_X10_isAt (m_isAt (by omega) (by omega)) ml_X10_133 dX10_factor_11 rfl okM ⟨_, rfl⟩ rfl rfl (Nat.le_of_ble_eq_true rfl) (by omega) (Nat.zero_le _) (Nat.zero_le _) ?_
    refine V.if_eqB (q := 17) (tgt := 63) C dX10_factor_14 rfl rfl (fun hb14 => ?_) (fun hb14 => ?_)
    · refine V.aload_n (q := 64) C dX10_factor_63 rfl rfl ?_
      refine V.get (q := 67) C fl_X10_148 dX10_factor_64 rfl okM rfl rfl ?_
      try dsimp only
      refine V.iconst (q := 68) (v := nI 4) C dX10_factor_67 rfl (by decide) ?_
      refine V.icmp_ge (q := 71) (tgt := 124) C dX10_factor_68 rfl rfl (fun hb68 => ?_) (fun hb68 => ?_)
      · exact absurd ((nI_leI (by omega) (by omega)).mp hb68) (by omega)
      · refine V.aload_n (q := 72) C dX10_factor_71 rfl rfl ?_
        refine V.bipush (q := 74) (v := nI 40) C dX10_factor_72 rfl (by decide) ?_
        refine V.callVi (q := 77) C me_X10_isAt (m_isAt (by omega) (by omega)) ml_X10_133 dX10_factor_74 rfl okM ⟨_, rfl⟩ rfl rfl (Nat.le_of_ble_eq_true rfl) (by omega) (Nat.zero_le _) (Nat.zero_le _) ?_
        refine V.if_eqB (q := 80) (tgt := 124) C dX10_factor_77 rfl rfl (fun hb77 => ?_) (fun hb77 => ?_)
        · rw [show faP T sz Nm (k + 1) w a = teP T sz Nm w a from (if_neg hb14).trans (if_neg hb77)]
          refine V.aload_n (q := 125) C dX10_factor_124 rfl rfl ?_
          refine V.callVi (q := 128) C me_X10_test (m_test (by omega) (by omega)) ml_X10_157 dX10_factor_125 rfl okM ⟨_, rfl⟩ rfl rfl (Nat.le_of_ble_eq_true rfl) (by omega) (Nat.zero_le _) (Nat.zero_le _) ?_
          refine V.istore_n (q := 129) C dX10_factor_128 rfl (by decide) rfl rfl ?_
          refine V.iload_n (q := 130) C dX10_factor_129 rfl rfl ?_
          exact V.zreturn C dX10_factor_130 b2i_n ⟨rfl, rfl, rfl⟩
        · obtain ⟨rfl, h5, -⟩ := isA_of hb77
          rw [show faP T sz Nm (k + 1) true a = ((tkP T sz (nI 41) (anP (faP T sz Nm k) T sz true (a + 1)).1 (anP (faP T sz Nm k) T sz true (a + 1)).2.1).1, (tkP T sz (nI 41) (anP (faP T sz Nm k) T sz true (a + 1)).1 (anP (faP T sz Nm k) T sz true (a + 1)).2.1).2, (anP (faP T sz Nm k) T sz true (a + 1)).2.2.1, (anP (faP T sz Nm k) T sz true (a + 1)).2.2.2) from (if_neg hb14).trans (if_pos hb77)]
          try dsimp only
          refine V.aload_n (q := 81) C dX10_factor_80 rfl rfl ?_
          refine V.dup (q := 82) C dX10_factor_81 rfl rfl ?_
          refine V.get (q := 85) C fl_X10_127 dX10_factor_82 rfl okM rfl rfl ?_
          try dsimp only
          refine V.iconst (q := 86) (v := nI 1) C dX10_factor_85 rfl (by decide) ?_
          refine V.iadd (q := 87) C dX10_factor_86 rfl ?_
          refine V.topi (x1 := nI (a + 1)) (nI_add _ _) ?_
          refine V.put (q := 90) C fl_X10_127 rfl dX10_factor_87 rfl okM rfl (Nat.le_of_ble_eq_true rfl) rfl rfl uM_at ?_
          try dsimp only
          refine V.aload_n (q := 91) C dX10_factor_90 rfl rfl ?_
          refine V.dup (q := 92) C dX10_factor_91 rfl rfl ?_
          refine V.get (q := 95) C fl_X10_148 dX10_factor_92 rfl okM rfl rfl ?_
          try dsimp only
          refine V.iconst (q := 96) (v := nI 1) C dX10_factor_95 rfl (by decide) ?_
          refine V.iadd (q := 97) C dX10_factor_96 rfl ?_
          refine V.topi (x1 := nI (d + 1)) (nI_add _ _) ?_
          refine V.put (q := 100) C fl_X10_148 rfl dX10_factor_97 rfl okM rfl (Nat.le_of_ble_eq_true rfl) rfl rfl uM_within ?_
          try dsimp only
          refine V.aload_n (q := 101) C dX10_factor_100 rfl rfl ?_
          refine V.callVi (q := 104) C me_X10_any (hA _ _ _ _ _ _ _ _ _ _ _ _ _ _ _ hsz (by omega)) ml_X10_154 dX10_factor_101 rfl okM ⟨_, rfl⟩ rfl rfl (Nat.le_of_ble_eq_true rfl) (by omega) (Nat.zero_le _) (Nat.zero_le _) ?_
          refine V.istore_n (q := 105) C dX10_factor_104 rfl (by decide) rfl rfl ?_
          refine V.aload_n (q := 106) C dX10_factor_105 rfl rfl ?_
          refine V.dup (q := 107) C dX10_factor_106 rfl rfl ?_
          refine V.get (q := 110) C fl_X10_148 dX10_factor_107 rfl okM rfl rfl ?_
          try dsimp only
          refine V.iconst (q := 111) (v := nI 1) C dX10_factor_110 rfl (by decide) ?_
          refine V.isub (q := 112) C dX10_factor_111 rfl ?_
          refine V.topi (x1 := nI d) (pk_sub (by omega)) ?_
          refine V.put (q := 115) C fl_X10_148 rfl dX10_factor_112 rfl okM rfl (Nat.le_of_ble_eq_true rfl) rfl rfl uM_within ?_
          try dsimp only
          refine V.aload_n (q := 116) C dX10_factor_115 rfl rfl ?_
          refine V.bipush (q := 118) (v := nI 41) C dX10_factor_116 rfl (by decide) ?_
          refine V.callVv (q := 121) C me_X10_takes (m_takes hsz ((an_in (fa_in k) : Pin sz (anP (faP T sz Nm k) T sz)) true (a + 1) (by omega)).2) ml_X10_140 dX10_factor_118 rfl okM ⟨_, rfl⟩ rfl rfl (Nat.le_of_ble_eq_true rfl) (by omega) (Nat.zero_le _) (Nat.zero_le _) ?_
          refine V.goto (tgt := 129) C dX10_factor_121 rfl ?_
          refine V.iload_n (q := 130) C dX10_factor_129 rfl rfl ?_
          exact V.zreturn C dX10_factor_130 b2i_n ⟨rfl, rfl, rfl⟩
    · obtain ⟨rfl, h5, -⟩ := isA_of hb14
      rw [show faP T sz Nm (k + 1) true a = ((faP T sz Nm k true (a + 1)).1, (faP T sz Nm k true (a + 1)).2.1, (faP T sz Nm k true (a + 1)).2.2.1 ++ [(nI 20, nI 0)], !(faP T sz Nm k true (a + 1)).2.2.2) from if_pos hb14]
      try dsimp only
      refine V.aload_n (q := 18) C dX10_factor_17 rfl rfl ?_
      refine V.dup (q := 19) C dX10_factor_18 rfl rfl ?_
      refine V.get (q := 22) C fl_X10_127 dX10_factor_19 rfl okM rfl rfl ?_
      try dsimp only
      refine V.iconst (q := 23) (v := nI 1) C dX10_factor_22 rfl (by decide) ?_
      refine V.iadd (q := 24) C dX10_factor_23 rfl ?_
      refine V.topi (x1 := nI (a + 1)) (nI_add _ _) ?_
      refine V.put (q := 27) C fl_X10_127 rfl dX10_factor_24 rfl okM rfl (Nat.le_of_ble_eq_true rfl) rfl rfl uM_at ?_
      try dsimp only
      refine V.aload_n (q := 28) C dX10_factor_27 rfl rfl ?_
      refine V.dup (q := 29) C dX10_factor_28 rfl rfl ?_
      refine V.get (q := 32) C fl_X10_148 dX10_factor_29 rfl okM rfl rfl ?_
      try dsimp only
      refine V.iconst (q := 33) (v := nI 1) C dX10_factor_32 rfl (by decide) ?_
      refine V.iadd (q := 34) C dX10_factor_33 rfl ?_
      refine V.topi (x1 := nI (d + 1)) (nI_add _ _) ?_
      refine V.put (q := 37) C fl_X10_148 rfl dX10_factor_34 rfl okM rfl (Nat.le_of_ble_eq_true rfl) rfl rfl uM_within ?_
      try dsimp only
      refine V.aload_n (q := 38) C dX10_factor_37 rfl rfl ?_
      refine V.callVi (q := 41) C me_X10_factor (hF _ _ _ _ _ _ _ _ _ _ _ _ _ _ _ hsz (by omega)) ml_X10_151 dX10_factor_38 rfl okM ⟨_, rfl⟩ rfl rfl (Nat.le_of_ble_eq_true rfl) (by omega) (Nat.zero_le _) (Nat.zero_le _) ?_
      refine V.if_neB (q := 44) (tgt := 48) C dX10_factor_41 rfl rfl (fun hb41 => ?_) (fun hb41 => ?_)
      · rw [hb41]
        refine V.iconst (q := 49) (v := nI 0) C dX10_factor_48 rfl (by decide) ?_
        refine V.istore_n (q := 50) C dX10_factor_49 rfl (by decide) rfl rfl ?_
        refine V.aload_n (q := 51) C dX10_factor_50 rfl rfl ?_
        refine V.dup (q := 52) C dX10_factor_51 rfl rfl ?_
        refine V.get (q := 55) C fl_X10_148 dX10_factor_52 rfl okM rfl rfl ?_
        try dsimp only
        refine V.iconst (q := 56) (v := nI 1) C dX10_factor_55 rfl (by decide) ?_
        refine V.isub (q := 57) C dX10_factor_56 rfl ?_
        refine V.topi (x1 := nI d) (pk_sub (by omega)) ?_
        refine V.put (q := 60) C fl_X10_148 rfl dX10_factor_57 rfl okM rfl (Nat.le_of_ble_eq_true rfl) rfl rfl uM_within ?_
        try dsimp only
        refine V.goto (tgt := 129) C dX10_factor_60 rfl ?_
        refine V.iload_n (q := 130) C dX10_factor_129 rfl rfl ?_
        exact V.zreturn C dX10_factor_130 rfl ⟨rfl, rfl, rfl⟩
      · rw [Bool.eq_false_iff.mpr hb41]
        refine V.iconst (q := 45) (v := nI 1) C dX10_factor_44 rfl (by decide) ?_
        refine V.goto (tgt := 49) C dX10_factor_45 rfl ?_
        refine V.istore_n (q := 50) C dX10_factor_49 rfl (by decide) rfl rfl ?_
        refine V.aload_n (q := 51) C dX10_factor_50 rfl rfl ?_
        refine V.dup (q := 52) C dX10_factor_51 rfl rfl ?_
        refine V.get (q := 55) C fl_X10_148 dX10_factor_52 rfl okM rfl rfl ?_
        try dsimp only
        refine V.iconst (q := 56) (v := nI 1) C dX10_factor_55 rfl (by decide) ?_
        refine V.isub (q := 57) C dX10_factor_56 rfl ?_
        refine V.topi (x1 := nI d) (pk_sub (by omega)) ?_
        refine V.put (q := 60) C fl_X10_148 rfl dX10_factor_57 rfl okM rfl (Nat.le_of_ble_eq_true rfl) rfl rfl uM_within ?_
        try dsimp only
        refine V.goto (tgt := 129) C dX10_factor_60 rfl ?_
        refine V.iload_n (q := 130) C dX10_factor_129 rfl rfl ?_
        exact V.zreturn C dX10_factor_130 rfl ⟨rfl, rfl, rfl⟩
theorem m_fac {l : Launch} {g : GG} {X : PHp} : ∀ k d, d + k = 4 → FacC l g X k d (4 + 3 * k) := by
  intro k
  induction k with
  | zero =>
    intro d hd now mind th tx T sz a w S Rb Nm cv hu tr tp hsz ha
    exact m_factor_0 (by omega) hsz ha
  | succ k ih =>
    intro d hd now mind th tx T sz a w S Rb Nm cv hu tr tp hsz ha
    have h1 := ih (d + 1) (by omega)
    have h2 : BotC l g X k (d + 1) (4 + 3 * k + 1) := fun now mind th tx T sz a w S Rb Nm cv hu tr tp hsz ha => m_both h1 (by omega) hsz ha
    have h3 : AnyC l g X k (d + 1) (4 + 3 * k + 2) := fun now mind th tx T sz a w S Rb Nm cv hu tr tp hsz ha => m_any h2 (by omega) hsz ha
    exact m_factor_s (lv := 4 + 3 * k) (by omega) h1 h3 (by omega) hsz ha
theorem m_any4 {l : Launch} {g : GG} {X : PHp} : AnyC l g X 4 0 18 := fun now mind th tx T sz a w S Rb Nm cv hu tr tp hsz ha => m_any (lv := 17) (fun now mind th tx T sz a w S Rb Nm cv hu tr tp hsz ha => m_both (lv := 16) (m_fac 4 0 (by omega)) (by omega) hsz ha) (by omega) hsz ha
