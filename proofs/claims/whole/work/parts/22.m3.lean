theorem m_isAt {l : Launch} {g : GG} {X : PHp} {now mind : I1} {th : I1 × Int32} {tx : TXt} {T : I1} {sz a : Nat} {w : Bool} {d : Nat} {S Rb : Int32} {Nm cv hu : I1} {tr : I1 × Int32} {tp : TPt} {c : Int32} (hsz : sz ≤ 100) (ha : a ≤ sz) : Ct l g yX10_isAt cX10_isAt 2 (some .boolean) 1 0 0 [rf g (22, 0, 0), .int c] NN (jn X (hM g now mind th tx (T, nI sz, nI a, b2i (w = true), nI d, S, Rb, Nm, cv, hu) tr tp)) (pI (b2i (isA T sz w a c = true)) (jn X (hM g now mind th tx (T, nI sz, nI a, b2i (w = true), nI d, S, Rb, Nm, cv, hu) tr tp))) := by
  refine Ct.of (lv := [some (rf g (22, 0, 0)), some (.int c)]) (by decide +kernel) rfl (Nat.le_of_ble_eq_true rfl) ?_
  intro Γ C
  refine V.aload_n (q := 1) C dX10_isAt_0 rfl rfl ?_
  refine V.get (q := 4) C fl_X10_124 dX10_isAt_1 rfl okM rfl rfl ?_
  try dsimp only
  refine V.if_eqB (q := 7) (tgt := 35) C dX10_isAt_4 rfl rfl (fun hb4 => ?_) (fun hb4 => ?_)
  · refine V.iconst (q := 36) (v := nI 0) C dX10_isAt_35 rfl (by decide) ?_
    exact V.zreturn C dX10_isAt_36 rfl ⟨congrArg (fun x => some (Value.int x)) (b2i_f (isA_f (Or.inl hb4))).symm, rfl, rfl⟩
  · refine V.aload_n (q := 8) C dX10_isAt_7 rfl rfl ?_
    refine V.get (q := 11) C fl_X10_127 dX10_isAt_8 rfl okM rfl rfl ?_
    try dsimp only
    refine V.aload_n (q := 12) C dX10_isAt_11 rfl rfl ?_
    refine V.get (q := 15) C fl_X10_130 dX10_isAt_12 rfl okM rfl rfl ?_
    try dsimp only
    refine V.icmp_ge (q := 18) (tgt := 35) C dX10_isAt_15 rfl rfl (fun hb15 => ?_) (fun hb15 => ?_)
    · have h15 : ¬ a < sz := fun q => absurd ((nI_leI (by omega) (by omega)).mp hb15) (by omega)
      refine V.iconst (q := 36) (v := nI 0) C dX10_isAt_35 rfl (by decide) ?_
      exact V.zreturn C dX10_isAt_36 rfl ⟨congrArg (fun x => some (Value.int x)) (b2i_f (isA_f (Or.inr (Or.inl h15)))).symm, rfl, rfl⟩
    · have h15 : a < sz := Nat.lt_of_not_le (fun q => hb15 ((nI_leI (by omega) (by omega)).mpr q))
      refine V.aload_n (q := 19) C dX10_isAt_18 rfl rfl ?_
      refine V.get (q := 22) C fl_X10_30 dX10_isAt_19 rfl okM rfl rfl ?_
      refine V.aload_n (q := 23) C dX10_isAt_22 rfl rfl ?_
      refine V.get (q := 26) C fl_X10_127 dX10_isAt_23 rfl okM rfl rfl ?_
      try dsimp only
      refine V.ild (q := 27) (i := a) C dX10_isAt_26 rfl okM_9 rfl rfl (by omega) (by decide) ?_
      try dsimp only
      refine V.iload_n (q := 28) C dX10_isAt_27 rfl rfl ?_
      refine V.icmp_ne (q := 31) (tgt := 35) C dX10_isAt_28 rfl rfl (fun hb28 => ?_) (fun hb28 => ?_)
      · refine V.iconst (q := 36) (v := nI 0) C dX10_isAt_35 rfl (by decide) ?_
        exact V.zreturn C dX10_isAt_36 rfl ⟨congrArg (fun x => some (Value.int x)) (b2i_f (isA_f (Or.inr (Or.inr hb28)))).symm, rfl, rfl⟩
      · refine V.iconst (q := 32) (v := nI 1) C dX10_isAt_31 rfl (by decide) ?_
        refine V.goto (tgt := 36) C dX10_isAt_32 rfl ?_
        exact V.zreturn C dX10_isAt_36 rfl ⟨congrArg (fun x => some (Value.int x)) (b2i_t (isA_t hb4 h15 hb28)).symm, rfl, rfl⟩
theorem m_takes {l : Launch} {g : GG} {X : PHp} {now mind : I1} {th : I1 × Int32} {tx : TXt} {T : I1} {sz a : Nat} {w : Bool} {d : Nat} {S Rb : Int32} {Nm cv hu : I1} {tr : I1 × Int32} {tp : TPt} {c : Int32} (hsz : sz ≤ 100) (ha : a ≤ sz) : Ct l g yX10_takes cX10_takes 2 none 2 0 0 [rf g (22, 0, 0), .int c] NN (jn X (hM g now mind th tx (T, nI sz, nI a, b2i (w = true), nI d, S, Rb, Nm, cv, hu) tr tp)) (pV (jn X (hM g now mind th tx (T, nI sz, nI (tkP T sz c w a).2, b2i ((tkP T sz c w a).1 = true), nI d, S, Rb, Nm, cv, hu) tr tp))) := by
  refine Ct.of (lv := [some (rf g (22, 0, 0)), some (.int c)]) (by decide +kernel) rfl (Nat.le_of_ble_eq_true rfl) ?_
  intro Γ C
  refine V.aload_n (q := 1) C dX10_takes_0 rfl rfl ?_
  refine V.iload_n (q := 2) C dX10_takes_1 rfl rfl ?_
  refine V.callVi (q := 5) C me_X10_isAt (m_isAt (by omega) (by omega)) ml_X10_133 dX10_takes_2 rfl okM ⟨_, rfl⟩ rfl rfl (Nat.le_of_ble_eq_true rfl) (by omega) (Nat.zero_le _) (Nat.zero_le _) ?_
  refine V.if_eqB (q := 8) (tgt := 21) C dX10_takes_5 rfl rfl (fun hb5 => ?_) (fun hb5 => ?_)
  · refine V.aload_n (q := 22) C dX10_takes_21 rfl rfl ?_
    refine V.iconst (q := 23) (v := nI 0) C dX10_takes_22 rfl (by decide) ?_
    refine V.put (q := 26) C fl_X10_124 rfl dX10_takes_23 rfl okM rfl (Nat.le_of_ble_eq_true rfl) rfl rfl uM_well ?_
    try dsimp only
    exact V.vreturn C dX10_takes_26 ⟨rfl, by rw [tk_f hb5]; rfl, rfl⟩
  · obtain rfl : w = true := (isA_of hb5).1
    refine V.aload_n (q := 9) C dX10_takes_8 rfl rfl ?_
    refine V.dup (q := 10) C dX10_takes_9 rfl rfl ?_
    refine V.get (q := 13) C fl_X10_127 dX10_takes_10 rfl okM rfl rfl ?_
    try dsimp only
    refine V.iconst (q := 14) (v := nI 1) C dX10_takes_13 rfl (by decide) ?_
    refine V.iadd (q := 15) C dX10_takes_14 rfl ?_
    refine V.topi (x1 := nI (a + 1)) (nI_add _ _) ?_
    refine V.put (q := 18) C fl_X10_127 rfl dX10_takes_15 rfl okM rfl (Nat.le_of_ble_eq_true rfl) rfl rfl uM_at ?_
    try dsimp only
    refine V.goto (tgt := 26) C dX10_takes_18 rfl ?_
    exact V.vreturn C dX10_takes_26 ⟨rfl, by rw [tk_t hb5], rfl⟩
theorem m_isDigit {l : Launch} {g : GG} {X : PHp} {now mind : I1} {th : I1 × Int32} {tx : TXt} {T : I1} {sz a : Nat} {w : Bool} {d : Nat} {S Rb : Int32} {Nm cv hu : I1} {tr : I1 × Int32} {tp : TPt} (hsz : sz ≤ 100) (ha : a ≤ sz) : Ct l g yX10_isDigit cX10_isDigit 1 (some .boolean) 1 0 0 [rf g (22, 0, 0)] NN (jn X (hM g now mind th tx (T, nI sz, nI a, b2i (w = true), nI d, S, Rb, Nm, cv, hu) tr tp)) (pI (b2i (dgP T sz w a = true)) (jn X (hM g now mind th tx (T, nI sz, nI a, b2i (w = true), nI d, S, Rb, Nm, cv, hu) tr tp))) := by
  refine Ct.of (lv := [some (rf g (22, 0, 0))]) (by decide +kernel) rfl (Nat.le_of_ble_eq_true rfl) ?_
  intro Γ C
  refine V.aload_n (q := 1) C dX10_isDigit_0 rfl rfl ?_
  refine V.get (q := 4) C fl_X10_124 dX10_isDigit_1 rfl okM rfl rfl ?_
  try dsimp only
  refine V.if_eqB (q := 7) (tgt := 50) C dX10_isDigit_4 rfl rfl (fun hb4 => ?_) (fun hb4 => ?_)
  · refine V.iconst (q := 51) (v := nI 0) C dX10_isDigit_50 rfl (by decide) ?_
    exact V.zreturn C dX10_isDigit_51 rfl ⟨congrArg (fun x => some (Value.int x)) (b2i_f (fun q => hb4 (dg_of q).1)).symm, rfl, rfl⟩
  · refine V.aload_n (q := 8) C dX10_isDigit_7 rfl rfl ?_
    refine V.get (q := 11) C fl_X10_127 dX10_isDigit_8 rfl okM rfl rfl ?_
    try dsimp only
    refine V.aload_n (q := 12) C dX10_isDigit_11 rfl rfl ?_
    refine V.get (q := 15) C fl_X10_130 dX10_isDigit_12 rfl okM rfl rfl ?_
    try dsimp only
    refine V.icmp_ge (q := 18) (tgt := 50) C dX10_isDigit_15 rfl rfl (fun hb15 => ?_) (fun hb15 => ?_)
    · have h15 : ¬ a < sz := fun q => absurd ((nI_leI (by omega) (by omega)).mp hb15) (by omega)
      refine V.iconst (q := 51) (v := nI 0) C dX10_isDigit_50 rfl (by decide) ?_
      exact V.zreturn C dX10_isDigit_51 rfl ⟨congrArg (fun x => some (Value.int x)) (b2i_f (fun q => h15 (dg_of q).2.1)).symm, rfl, rfl⟩
    · have h15 : a < sz := Nat.lt_of_not_le (fun q => hb15 ((nI_leI (by omega) (by omega)).mpr q))
      refine V.aload_n (q := 19) C dX10_isDigit_18 rfl rfl ?_
      refine V.get (q := 22) C fl_X10_30 dX10_isDigit_19 rfl okM rfl rfl ?_
      refine V.aload_n (q := 23) C dX10_isDigit_22 rfl rfl ?_
      refine V.get (q := 26) C fl_X10_127 dX10_isDigit_23 rfl okM rfl rfl ?_
      try dsimp only
      refine V.ild (q := 27) (i := a) C dX10_isDigit_26 rfl okM_9 rfl rfl (by omega) (by decide) ?_
      try dsimp only
      refine V.bipush (q := 29) (v := nI 48) C dX10_isDigit_27 rfl (by decide) ?_
      refine V.icmp_lt (q := 32) (tgt := 50) C dX10_isDigit_29 rfl rfl (fun hb29 => ?_) (fun hb29 => ?_)
      · refine V.iconst (q := 51) (v := nI 0) C dX10_isDigit_50 rfl (by decide) ?_
        exact V.zreturn C dX10_isDigit_51 rfl ⟨congrArg (fun x => some (Value.int x)) (b2i_f (fun q => (dg_of q).2.2.1 hb29)).symm, rfl, rfl⟩
      · refine V.aload_n (q := 33) C dX10_isDigit_32 rfl rfl ?_
        refine V.get (q := 36) C fl_X10_30 dX10_isDigit_33 rfl okM rfl rfl ?_
        refine V.aload_n (q := 37) C dX10_isDigit_36 rfl rfl ?_
        refine V.get (q := 40) C fl_X10_127 dX10_isDigit_37 rfl okM rfl rfl ?_
        try dsimp only
        refine V.ild (q := 41) (i := a) C dX10_isDigit_40 rfl okM_9 rfl rfl (by omega) (by decide) ?_
        try dsimp only
        refine V.bipush (q := 43) (v := nI 57) C dX10_isDigit_41 rfl (by decide) ?_
        refine V.icmp_gt (q := 46) (tgt := 50) C dX10_isDigit_43 rfl rfl (fun hb43 => ?_) (fun hb43 => ?_)
        · refine V.iconst (q := 51) (v := nI 0) C dX10_isDigit_50 rfl (by decide) ?_
          exact V.zreturn C dX10_isDigit_51 rfl ⟨congrArg (fun x => some (Value.int x)) (b2i_f (fun q => (dg_of q).2.2.2 hb43)).symm, rfl, rfl⟩
        · refine V.iconst (q := 47) (v := nI 1) C dX10_isDigit_46 rfl (by decide) ?_
          refine V.goto (tgt := 51) C dX10_isDigit_47 rfl ?_
          exact V.zreturn C dX10_isDigit_51 rfl ⟨congrArg (fun x => some (Value.int x)) (b2i_t (dg_t hb4 h15 hb29 hb43)).symm, rfl, rfl⟩
theorem m_number {l : Launch} {g : GG} {X : PHp} {now mind : I1} {th : I1 × Int32} {tx : TXt} {T : I1} {sz a : Nat} {w : Bool} {d : Nat} {S Rb : Int32} {Nm cv hu : I1} {tr : I1 × Int32} {tp : TPt} (hsz : sz ≤ 100) (ha : a ≤ sz) : Ct l g yX10_number cX10_number 2 (some .int) 2 0 0 [rf g (22, 0, 0)] NN (jn X (hM g now mind th tx (T, nI sz, nI a, b2i (w = true), nI d, S, Rb, Nm, cv, hu) tr tp)) (pI (nuP T sz w a).2.2 (jn X (hM g now mind th tx (T, nI sz, nI (nuP T sz w a).2.1, b2i ((nuP T sz w a).1 = true), nI d, S, Rb, Nm, cv, hu) tr tp))) := by
  refine Ct.of (lv := [some (rf g (22, 0, 0)), none]) (by decide +kernel) rfl (Nat.le_of_ble_eq_true rfl) ?_
  intro Γ C
  refine V.aload_n (q := 1) C dX10_number_0 rfl rfl ?_
  refine V.callVi (q := 4) C me_X10_isDigit (m_isDigit (by omega) (by omega)) ml_X10_136 dX10_number_1 rfl okM ⟨_, rfl⟩ rfl rfl (Nat.le_of_ble_eq_true rfl) (by omega) (Nat.zero_le _) (Nat.zero_le _) ?_
  refine V.if_neB (q := 7) (tgt := 14) C dX10_number_4 rfl rfl (fun hb4 => ?_) (fun hb4 => ?_)
  · obtain ⟨rfl, hlt, -, -⟩ := dg_of hb4
    refine V.aload_n (q := 15) C dX10_number_14 rfl rfl ?_
    refine V.get (q := 18) C fl_X10_30 dX10_number_15 rfl okM rfl rfl ?_
    refine V.aload_n (q := 19) C dX10_number_18 rfl rfl ?_
    refine V.get (q := 22) C fl_X10_127 dX10_number_19 rfl okM rfl rfl ?_
    try dsimp only
    refine V.ild (q := 23) (i := a) C dX10_number_22 rfl okM_9 rfl rfl (by omega) (by decide) ?_
    try dsimp only
    refine V.bipush (q := 25) (v := nI 48) C dX10_number_23 rfl (by decide) ?_
    refine V.isub (q := 26) C dX10_number_25 rfl ?_
    refine V.istore_n (q := 27) C dX10_number_26 rfl (by decide) rfl rfl ?_
    refine V.aload_n (q := 28) C dX10_number_27 rfl rfl ?_
    refine V.dup (q := 29) C dX10_number_28 rfl rfl ?_
    refine V.get (q := 32) C fl_X10_127 dX10_number_29 rfl okM rfl rfl ?_
    try dsimp only
    refine V.iconst (q := 33) (v := nI 1) C dX10_number_32 rfl (by decide) ?_
    refine V.iadd (q := 34) C dX10_number_33 rfl ?_
    refine V.topi (x1 := nI (a + 1)) (nI_add _ _) ?_
    refine V.put (q := 37) C fl_X10_127 rfl dX10_number_34 rfl okM rfl (Nat.le_of_ble_eq_true rfl) rfl rfl uM_at ?_
    try dsimp only
    refine V.aload_n (q := 38) C dX10_number_37 rfl rfl ?_
    refine V.callVi (q := 41) C me_X10_isDigit (m_isDigit (by omega) (by omega)) ml_X10_136 dX10_number_38 rfl okM ⟨_, rfl⟩ rfl rfl (Nat.le_of_ble_eq_true rfl) (by omega) (Nat.zero_le _) (Nat.zero_le _) ?_
    refine V.if_eqB (q := 44) (tgt := 72) C dX10_number_41 rfl rfl (fun hb41 => ?_) (fun hb41 => ?_)
    · refine V.iload_n (q := 73) C dX10_number_72 rfl rfl ?_
      exact V.ireturn C dX10_number_73 ⟨by rw [nu_1 hb4 hb41], by rw [nu_1 hb4 hb41], rfl⟩
    · obtain ⟨-, hlt2, -, -⟩ := dg_of hb41
      refine V.bipush (q := 46) (v := nI 10) C dX10_number_44 rfl (by decide) ?_
      refine V.iload_n (q := 47) C dX10_number_46 rfl rfl ?_
      refine V.imul (q := 48) C dX10_number_47 rfl ?_
      refine V.aload_n (q := 49) C dX10_number_48 rfl rfl ?_
      refine V.get (q := 52) C fl_X10_30 dX10_number_49 rfl okM rfl rfl ?_
      refine V.aload_n (q := 53) C dX10_number_52 rfl rfl ?_
      refine V.get (q := 56) C fl_X10_127 dX10_number_53 rfl okM rfl rfl ?_
      try dsimp only
      refine V.ild (q := 57) (i := (a + 1)) C dX10_number_56 rfl okM_9 rfl rfl (by omega) (by decide) ?_
      try dsimp only
      refine V.iadd (q := 58) C dX10_number_57 rfl ?_
      refine V.bipush (q := 60) (v := nI 48) C dX10_number_58 rfl (by decide) ?_
      refine V.isub (q := 61) C dX10_number_60 rfl ?_
      refine V.istore_n (q := 62) C dX10_number_61 rfl (by decide) rfl rfl ?_
      refine V.aload_n (q := 63) C dX10_number_62 rfl rfl ?_
      refine V.dup (q := 64) C dX10_number_63 rfl rfl ?_
      refine V.get (q := 67) C fl_X10_127 dX10_number_64 rfl okM rfl rfl ?_
      try dsimp only
      refine V.iconst (q := 68) (v := nI 1) C dX10_number_67 rfl (by decide) ?_
      refine V.iadd (q := 69) C dX10_number_68 rfl ?_
      refine V.topi (x1 := nI ((a + 1) + 1)) (nI_add _ _) ?_
      refine V.put (q := 72) C fl_X10_127 rfl dX10_number_69 rfl okM rfl (Nat.le_of_ble_eq_true rfl) rfl rfl uM_at ?_
      try dsimp only
      refine V.iload_n (q := 73) C dX10_number_72 rfl rfl ?_
      exact V.ireturn C dX10_number_73 ⟨by rw [nu_2 hb4 hb41], by rw [nu_2 hb4 hb41], rfl⟩
  · refine V.aload_n (q := 8) C dX10_number_7 rfl rfl ?_
    refine V.iconst (q := 9) (v := nI 0) C dX10_number_8 rfl (by decide) ?_
    refine V.put (q := 12) C fl_X10_124 rfl dX10_number_9 rfl okM rfl (Nat.le_of_ble_eq_true rfl) rfl rfl uM_well ?_
    try dsimp only
    refine V.iconst (q := 13) (v := nI 0) C dX10_number_12 rfl (by decide) ?_
    exact V.ireturn C dX10_number_13 ⟨by rw [nu_0 hb4], by rw [nu_0 hb4]; rfl, rfl⟩
