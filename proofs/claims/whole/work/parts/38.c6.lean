theorem tk_t2 {T : I1} {sz a : Nat} {w : Bool} {c : Int32} (h : isA T sz w a c = true) : (tkP T sz c w a).2 = a + 1 := by rw [tk_t h]
theorem tk_f2 {T : I1} {sz a : Nat} {w : Bool} {c : Int32} (h : ¬ isA T sz w a c = true) : (tkP T sz c w a).2 = a := by rw [tk_f h]
theorem tk_0 {T : I1} {sz a : Nat} {c : Int32} : tkP T sz c false a = (false, a) := tk_f isA_0
theorem byte_n {c : Nat} (hc : c < 128) : narrow .byte (.int (nI c)) = .int (nI c) := by
  have h := pk_nb (nI c)
  rw [byte_c c hc] at h
  exact h
theorem c_isSign {l : Launch} {g : GG} {X : PHp} {h0 : HZ} {ct : CTt} {cl : I2} {T : I1} {sz a : Nat} {B : I2} {cy : Nat → Nat} {rw : RWt} {tl : TLt} {sp : SPt} {c : Int32} (hsz : sz ≤ 100) (ha : a ≤ sz) : Ct l g yX2_isSign cX2_isSign 2 (some .boolean) 1 0 0 [rf g (4, 0, 0), .int c] NN (jn (hC g h0 ct cl (T, nI sz, nI a) B cy rw tl sp) X) (pI (b2i (isA T sz true a c = true)) (jn (hC g h0 ct cl (T, nI sz, nI (tkP T sz c true a).2) B cy rw tl sp) X)) := by
  refine Ct.of (lv := [some (rf g (4, 0, 0)), some (.int c)]) (by decide +kernel) rfl (Nat.le_of_ble_eq_true rfl) ?_
  intro Γ C
  refine V.aload_n (q := 1) C dX2_isSign_0 rfl rfl ?_
  refine V.get (q := 4) C fl_X2_19 dX2_isSign_1 rfl okC_4 rfl rfl ?_
  try dsimp only
  refine V.aload_n (q := 5) C dX2_isSign_4 rfl rfl ?_
  refine V.get (q := 8) C fl_X2_15 dX2_isSign_5 rfl okC_4 rfl rfl ?_
  try dsimp only
  refine V.icmp_ge (q := 11) (tgt := 24) C dX2_isSign_8 rfl rfl (fun hb8 => ?_) (fun hb8 => ?_)
  · replace hb8 : ¬ a < sz := fun z => absurd ((nI_leI (by omega) (by omega)).mp hb8) (by omega)
    refine V.iconst (q := 25) (v := nI 0) C dX2_isSign_24 rfl (by decide) ?_
    exact V.zreturn C dX2_isSign_25 rfl ⟨congrArg (fun x => some (Value.int x)) (b2i_f (isA_f (Or.inr (Or.inl hb8)))).symm, by rw [tk_f2 (isA_f (Or.inr (Or.inl hb8)))], rfl⟩
  · replace hb8 : a < sz := Nat.lt_of_not_le (fun z => hb8 ((nI_leI (by omega) (by omega)).mpr z))
    refine V.aload_n (q := 12) C dX2_isSign_11 rfl rfl ?_
    refine V.get (q := 15) C fl_X2_9 dX2_isSign_12 rfl okC_4 rfl rfl ?_
    refine V.aload_n (q := 16) C dX2_isSign_15 rfl rfl ?_
    refine V.get (q := 19) C fl_X2_19 dX2_isSign_16 rfl okC_4 rfl rfl ?_
    try dsimp only
    refine V.bld (q := 20) (i := a) C dX2_isSign_19 rfl okC_5 rfl rfl (by omega) (by decide) ?_
    try dsimp only
    refine V.iload_n (q := 21) C dX2_isSign_20 rfl rfl ?_
    refine V.icmp_eq (q := 24) (tgt := 26) C dX2_isSign_21 rfl rfl (fun hb21 => ?_) (fun hb21 => ?_)
    · refine V.aload_n (q := 27) C dX2_isSign_26 rfl rfl ?_
      refine V.dup (q := 28) C dX2_isSign_27 rfl rfl ?_
      refine V.get (q := 31) C fl_X2_19 dX2_isSign_28 rfl okC_4 rfl rfl ?_
      try dsimp only
      refine V.iconst (q := 32) (v := nI 1) C dX2_isSign_31 rfl (by decide) ?_
      refine V.iadd (q := 33) C dX2_isSign_32 rfl ?_
      refine V.topi (x1 := nI (a + 1)) (nI_add _ _) ?_
      refine V.put (q := 36) C fl_X2_19 rfl dX2_isSign_33 rfl okC_4 rfl (Nat.le_of_ble_eq_true rfl) rfl rfl rfl ?_
      refine V.phE (uC_4_2) ?_
      try dsimp only
      refine V.iconst (q := 37) (v := nI 1) C dX2_isSign_36 rfl (by decide) ?_
      exact V.zreturn C dX2_isSign_37 rfl ⟨congrArg (fun x => some (Value.int x)) (b2i_t (isA_t rfl hb8 hb21)).symm, by rw [tk_t2 (isA_t rfl hb8 hb21)], rfl⟩
    · refine V.iconst (q := 25) (v := nI 0) C dX2_isSign_24 rfl (by decide) ?_
      exact V.zreturn C dX2_isSign_25 rfl ⟨congrArg (fun x => some (Value.int x)) (b2i_f (isA_f (Or.inr (Or.inr hb21)))).symm, by rw [tk_f2 (isA_f (Or.inr (Or.inr hb21)))], rfl⟩
def fdR (t : Nat) : Int32 := if t = 100 then -4 else nI (t + 1)
def fdT (T : I1) (t : Nat) (c : Int32) : I1 := if t = 100 then T else upd T t c
def fdK (t : Nat) : Nat := if t = 100 then t else t + 1
theorem c_takes {l : Launch} {g : GG} {X : PHp} {h0 : HZ} {ct : CTt} {cl : I2} {T : I1} {sz a : Nat} {B : I2} {cy : Nat → Nat} {rw : RWt} {tl : TLt} {sp : SPt} {p : Int32} {c : Nat} (hc : c < 128) (hsz : sz ≤ 100) : Ct l g yX2_takes cX2_takes 2 (some .int) 1 0 0 [rf g (4, 0, 0), .int (nI c)] NN (jn (hC g h0 ct cl (T, nI sz, p) B cy rw tl sp) X) (pI (fdR sz) (jn (hC g h0 ct cl (fdT T sz (nI c), nI (fdK sz), p) B cy rw tl sp) X)) := by
  refine Ct.of (lv := [some (rf g (4, 0, 0)), some (.int (nI c))]) (by decide +kernel) rfl (Nat.le_of_ble_eq_true rfl) ?_
  intro Γ C
  refine V.aload_n (q := 1) C dX2_takes_0 rfl rfl ?_
  refine V.get (q := 4) C fl_X2_15 dX2_takes_1 rfl okC_4 rfl rfl ?_
  try dsimp only
  refine V.aload_n (q := 5) C dX2_takes_4 rfl rfl ?_
  refine V.get (q := 8) C fl_X2_9 dX2_takes_5 rfl okC_4 rfl rfl ?_
  refine V.len_aB (q := 9) C dX2_takes_8 rfl okC_5 rfl ?_
  refine V.icmp_lt (q := 12) (tgt := 15) C dX2_takes_9 rfl rfl (fun hb9 => ?_) (fun hb9 => ?_)
  · have k9 : sz < 100 := (nI_ltI (by omega) (by omega)).mp hb9
    have q9 : ¬ sz = 100 := by omega
    refine V.aload_n (q := 16) C dX2_takes_15 rfl rfl ?_
    refine V.get (q := 19) C fl_X2_9 dX2_takes_16 rfl okC_4 rfl rfl ?_
    refine V.aload_n (q := 20) C dX2_takes_19 rfl rfl ?_
    refine V.get (q := 23) C fl_X2_15 dX2_takes_20 rfl okC_4 rfl rfl ?_
    try dsimp only
    refine V.iload_n (q := 24) C dX2_takes_23 rfl rfl ?_
    refine V.i2b (q := 25) C dX2_takes_24 rfl rfl ?_
    refine V.topi (x1 := nI c) (byte_c c hc) ?_
    refine V.bst (q := 26) (i := sz) C dX2_takes_25 rfl okC_5 rfl rfl (by omega) (by decide) (byte_n hc) rfl ?_
    refine V.phE (uC_5) ?_
    try dsimp only
    refine V.aload_n (q := 27) C dX2_takes_26 rfl rfl ?_
    refine V.dup (q := 28) C dX2_takes_27 rfl rfl ?_
    refine V.get (q := 31) C fl_X2_15 dX2_takes_28 rfl okC_4 rfl rfl ?_
    try dsimp only
    refine V.iconst (q := 32) (v := nI 1) C dX2_takes_31 rfl (by decide) ?_
    refine V.iadd (q := 33) C dX2_takes_32 rfl ?_
    refine V.topi (x1 := nI (sz + 1)) (nI_add _ _) ?_
    refine V.put (q := 36) C fl_X2_15 rfl dX2_takes_33 rfl okC_4 rfl (Nat.le_of_ble_eq_true rfl) rfl rfl rfl ?_
    refine V.phE (uC_4_1) ?_
    try dsimp only
    refine V.aload_n (q := 37) C dX2_takes_36 rfl rfl ?_
    refine V.get (q := 40) C fl_X2_15 dX2_takes_37 rfl okC_4 rfl rfl ?_
    try dsimp only
    exact V.ireturn C dX2_takes_40 ⟨by rw [fdR, if_neg q9], by rw [fdT, fdK, if_neg q9, if_neg q9], rfl⟩
  · have q9 : sz = 100 := by
      rcases Nat.lt_or_ge sz 100 with q | q
      · exact absurd ((nI_ltI (by omega) (by omega)).mpr q) hb9
      · omega
    refine V.bipush (q := 14) (v := -4) C dX2_takes_12 rfl (by decide) ?_
    exact V.ireturn C dX2_takes_14 ⟨by rw [fdR, if_pos q9], by rw [fdT, fdK, if_pos q9, if_pos q9], rfl⟩
/-- what number answers -/
def nuV (r : Bool × Nat × Int32) : Int32 := if r.1 = true then r.2.2 else -1
theorem nu_sub {T : I1} {a c : Nat} (e : T a = nI c) (h : c < 128) (h48 : ¬ T a < nI 48) : ¬ T a - nI 48 < nI 0 := by
  rw [e] at h48 ⊢
  have h1 : 48 ≤ c := Nat.le_of_not_lt (fun z => h48 (nI_lt z (by omega)))
  rw [pk_sub h1]
  exact nI_pos (by omega)
theorem nu_v {T : I1} {sz a : Nat} (hT : ∀ j, j < sz → ∃ c, c < 128 ∧ T j = nI c) (h : (nuP T sz true a).1 = true) : ∃ v, v < 100 ∧ (nuP T sz true a).2.2 = nI v := by
  have key : ∀ b, dgP T sz true b = true → ∃ v, v < 10 ∧ T b - nI 48 = nI v := by
    intro b hb
    obtain ⟨-, h1, h2, h3⟩ := dg_of hb
    obtain ⟨c, hc, e⟩ := hT b h1
    rw [e] at h2 h3 ⊢
    have q1 : 48 ≤ c := Nat.le_of_not_lt (fun z => h2 (nI_lt z (by omega)))
    have q2 : c ≤ 57 := Nat.le_of_not_lt (fun z => h3 (nI_lt z (by omega)))
    exact ⟨c - 48, by omega, pk_sub q1⟩
  by_cases h1 : dgP T sz true a = true
  · obtain ⟨v, hv, ev⟩ := key a h1
    by_cases h2 : dgP T sz true (a + 1) = true
    · obtain ⟨u, hu, eu⟩ := key (a + 1) h2
      refine ⟨10 * v + u, by omega, ?_⟩
      rw [nu_2 h1 h2]
      show nI 10 * (T a - nI 48) + T (a + 1) - nI 48 = _
      rw [Int32.sub_eq_add_neg, Int32.add_assoc, ← Int32.sub_eq_add_neg, ev, eu, pk_mul, nI_add]
    · exact ⟨v, by omega, by rw [nu_1 h1 h2]; exact ev⟩
  · rw [nu_0 h1] at h
    exact absurd h Bool.false_ne_true
theorem c_number {l : Launch} {g : GG} {X : PHp} {h0 : HZ} {ct : CTt} {cl : I2} {T : I1} {sz a : Nat} {B : I2} {cy : Nat → Nat} {rw : RWt} {tl : TLt} {sp : SPt} (hsz : sz ≤ 100) (ha : a ≤ sz) (hT : ∀ j, j < sz → ∃ c, c < 128 ∧ T j = nI c) : Ct l g yX2_number cX2_number 3 (some .int) 1 0 0 [rf g (4, 0, 0)] NN (jn (hC g h0 ct cl (T, nI sz, nI a) B cy rw tl sp) X) (pI (nuV (nuP T sz true a)) (jn (hC g h0 ct cl (T, nI sz, nI (nuP T sz true a).2.1) B cy rw tl sp) X)) := by
  refine Ct.of (lv := [some (rf g (4, 0, 0)), none, none]) (by decide +kernel) rfl (Nat.le_of_ble_eq_true rfl) ?_
  intro Γ C
  refine V.iconst (q := 1) (v := -1) C dX2_number_0 rfl (by decide) ?_
  refine V.istore_n (q := 2) C dX2_number_1 rfl (by decide) rfl rfl ?_
  refine V.iconst (q := 3) (v := nI 0) C dX2_number_2 rfl (by decide) ?_
  refine V.istore_n (q := 4) C dX2_number_3 rfl (by decide) rfl rfl ?_
  refine V.iload_n (q := 5) C dX2_number_4 rfl rfl ?_
  refine V.iconst (q := 6) (v := nI 2) C dX2_number_5 rfl (by decide) ?_
  refine V.icmp_ge (q := 9) (tgt := 86) C dX2_number_6 rfl rfl (fun hb6 => ?_) (fun hb6 => ?_)
  · exact absurd hb6 (by decide)
  · refine V.aload_n (q := 10) C dX2_number_9 rfl rfl ?_
    refine V.get (q := 13) C fl_X2_19 dX2_number_10 rfl okC_4 rfl rfl ?_
    try dsimp only
    refine V.aload_n (q := 14) C dX2_number_13 rfl rfl ?_
    refine V.get (q := 17) C fl_X2_15 dX2_number_14 rfl okC_4 rfl rfl ?_
    try dsimp only
    refine V.icmp_ge (q := 20) (tgt := 86) C dX2_number_17 rfl rfl (fun hb17 => ?_) (fun hb17 => ?_)
    · have d0 : ¬ dgP T sz true a = true := fun z => absurd ((nI_leI (by omega) (by omega)).mp hb17) (by have := (dg_of z).2.1; omega)
      refine V.iload_n (q := 87) C dX2_number_86 rfl rfl ?_
      exact V.ireturn C dX2_number_87 ⟨by rw [nuV, nu_0 d0] <;> rfl, by rw [nu_0 d0] <;> rfl, rfl⟩
    · have p0 : a < sz := Nat.lt_of_not_le (fun z => hb17 ((nI_leI (by omega) (by omega)).mpr z))
      refine V.aload_n (q := 21) C dX2_number_20 rfl rfl ?_
      refine V.get (q := 24) C fl_X2_9 dX2_number_21 rfl okC_4 rfl rfl ?_
      refine V.aload_n (q := 25) C dX2_number_24 rfl rfl ?_
      refine V.get (q := 28) C fl_X2_19 dX2_number_25 rfl okC_4 rfl rfl ?_
      try dsimp only
      refine V.bld (q := 29) (i := a) C dX2_number_28 rfl okC_5 rfl rfl (by omega) (by decide) ?_
      try dsimp only
      refine V.bipush (q := 31) (v := nI 48) C dX2_number_29 rfl (by decide) ?_
      refine V.icmp_lt (q := 34) (tgt := 86) C dX2_number_31 rfl rfl (fun hb31 => ?_) (fun hb31 => ?_)
      · have d0 : ¬ dgP T sz true a = true := fun z => (dg_of z).2.2.1 hb31
        refine V.iload_n (q := 87) C dX2_number_86 rfl rfl ?_
        exact V.ireturn C dX2_number_87 ⟨by rw [nuV, nu_0 d0] <;> rfl, by rw [nu_0 d0] <;> rfl, rfl⟩
      · have l0 := hb31
        refine V.aload_n (q := 35) C dX2_number_34 rfl rfl ?_
        refine V.get (q := 38) C fl_X2_9 dX2_number_35 rfl okC_4 rfl rfl ?_
        refine V.aload_n (q := 39) C dX2_number_38 rfl rfl ?_
        refine V.get (q := 42) C fl_X2_19 dX2_number_39 rfl okC_4 rfl rfl ?_
        try dsimp only
        refine V.bld (q := 43) (i := a) C dX2_number_42 rfl okC_5 rfl rfl (by omega) (by decide) ?_
        try dsimp only
        refine V.bipush (q := 45) (v := nI 57) C dX2_number_43 rfl (by decide) ?_
        refine V.icmp_gt (q := 48) (tgt := 86) C dX2_number_45 rfl rfl (fun hb45 => ?_) (fun hb45 => ?_)
        · have d0 : ¬ dgP T sz true a = true := fun z => (dg_of z).2.2.2 hb45
          refine V.iload_n (q := 87) C dX2_number_86 rfl rfl ?_
          exact V.ireturn C dX2_number_87 ⟨by rw [nuV, nu_0 d0] <;> rfl, by rw [nu_0 d0] <;> rfl, rfl⟩
        · have d0 : dgP T sz true a = true := dg_t rfl p0 l0 hb45
          refine V.iload_n (q := 49) C dX2_number_48 rfl rfl ?_
          refine V.iconst (q := 50) (v := nI 0) C dX2_number_49 rfl (by decide) ?_
          refine V.max (q := 53) C dX2_number_50 (tb_at 503 (by decide +kernel) rfl) rfl ?_
          refine V.topi (x1 := nI 0) (by decide) ?_
          refine V.bipush (q := 55) (v := nI 10) C dX2_number_53 rfl (by decide) ?_
          refine V.imul (q := 56) C dX2_number_55 rfl ?_
          refine V.topi (x1 := nI 0) (by decide) ?_
          refine V.aload_n (q := 57) C dX2_number_56 rfl rfl ?_
          refine V.get (q := 60) C fl_X2_9 dX2_number_57 rfl okC_4 rfl rfl ?_
          refine V.aload_n (q := 61) C dX2_number_60 rfl rfl ?_
          refine V.get (q := 64) C fl_X2_19 dX2_number_61 rfl okC_4 rfl rfl ?_
          try dsimp only
          refine V.bld (q := 65) (i := a) C dX2_number_64 rfl okC_5 rfl rfl (by omega) (by decide) ?_
          try dsimp only
          refine V.iadd (q := 66) C dX2_number_65 rfl ?_
          refine V.topi (x1 := T a) (Int32.zero_add _) ?_
          refine V.bipush (q := 68) (v := nI 48) C dX2_number_66 rfl (by decide) ?_
          refine V.isub (q := 69) C dX2_number_68 rfl ?_
          refine V.istore_n (q := 70) C dX2_number_69 rfl (by decide) rfl rfl ?_
          refine V.aload_n (q := 71) C dX2_number_70 rfl rfl ?_
          refine V.dup (q := 72) C dX2_number_71 rfl rfl ?_
          refine V.get (q := 75) C fl_X2_19 dX2_number_72 rfl okC_4 rfl rfl ?_
          try dsimp only
          refine V.iconst (q := 76) (v := nI 1) C dX2_number_75 rfl (by decide) ?_
          refine V.iadd (q := 77) C dX2_number_76 rfl ?_
          refine V.topi (x1 := nI (a + 1)) (nI_add _ _) ?_
          refine V.put (q := 80) C fl_X2_19 rfl dX2_number_77 rfl okC_4 rfl (Nat.le_of_ble_eq_true rfl) rfl rfl rfl ?_
          refine V.phE (uC_4_2) ?_
          try dsimp only
          refine V.iinc (q := 83) (v := nI (0 + 1)) C dX2_number_80 rfl rfl (nI_1 _) (by decide) rfl rfl ?_
          refine V.goto (tgt := 4) C dX2_number_83 rfl ?_
          refine V.iload_n (q := 5) C dX2_number_4 rfl rfl ?_
          refine V.iconst (q := 6) (v := nI 2) C dX2_number_5 rfl (by decide) ?_
          refine V.icmp_ge (q := 9) (tgt := 86) C dX2_number_6 rfl rfl (fun hb6 => ?_) (fun hb6 => ?_)
          · exact absurd hb6 (by decide)
          · refine V.aload_n (q := 10) C dX2_number_9 rfl rfl ?_
            refine V.get (q := 13) C fl_X2_19 dX2_number_10 rfl okC_4 rfl rfl ?_
            try dsimp only
            refine V.aload_n (q := 14) C dX2_number_13 rfl rfl ?_
            refine V.get (q := 17) C fl_X2_15 dX2_number_14 rfl okC_4 rfl rfl ?_
            try dsimp only
            refine V.icmp_ge (q := 20) (tgt := 86) C dX2_number_17 rfl rfl (fun hb17 => ?_) (fun hb17 => ?_)
            · have d1 : ¬ dgP T sz true (a + 1) = true := fun z => absurd ((nI_leI (by omega) (by omega)).mp hb17) (by have := (dg_of z).2.1; omega)
              refine V.iload_n (q := 87) C dX2_number_86 rfl rfl ?_
              exact V.ireturn C dX2_number_87 ⟨by rw [nuV, nu_1 d0 d1] <;> rfl, by rw [nu_1 d0 d1] <;> rfl, rfl⟩
            · have p1 : (a + 1) < sz := Nat.lt_of_not_le (fun z => hb17 ((nI_leI (by omega) (by omega)).mpr z))
              refine V.aload_n (q := 21) C dX2_number_20 rfl rfl ?_
              refine V.get (q := 24) C fl_X2_9 dX2_number_21 rfl okC_4 rfl rfl ?_
              refine V.aload_n (q := 25) C dX2_number_24 rfl rfl ?_
              refine V.get (q := 28) C fl_X2_19 dX2_number_25 rfl okC_4 rfl rfl ?_
              try dsimp only
              refine V.bld (q := 29) (i := (a + 1)) C dX2_number_28 rfl okC_5 rfl rfl (by omega) (by decide) ?_
              try dsimp only
              refine V.bipush (q := 31) (v := nI 48) C dX2_number_29 rfl (by decide) ?_
              refine V.icmp_lt (q := 34) (tgt := 86) C dX2_number_31 rfl rfl (fun hb31 => ?_) (fun hb31 => ?_)
              · have d1 : ¬ dgP T sz true (a + 1) = true := fun z => (dg_of z).2.2.1 hb31
                refine V.iload_n (q := 87) C dX2_number_86 rfl rfl ?_
                exact V.ireturn C dX2_number_87 ⟨by rw [nuV, nu_1 d0 d1] <;> rfl, by rw [nu_1 d0 d1] <;> rfl, rfl⟩
              · have l1 := hb31
                refine V.aload_n (q := 35) C dX2_number_34 rfl rfl ?_
                refine V.get (q := 38) C fl_X2_9 dX2_number_35 rfl okC_4 rfl rfl ?_
                refine V.aload_n (q := 39) C dX2_number_38 rfl rfl ?_
                refine V.get (q := 42) C fl_X2_19 dX2_number_39 rfl okC_4 rfl rfl ?_
                try dsimp only
                refine V.bld (q := 43) (i := (a + 1)) C dX2_number_42 rfl okC_5 rfl rfl (by omega) (by decide) ?_
                try dsimp only
                refine V.bipush (q := 45) (v := nI 57) C dX2_number_43 rfl (by decide) ?_
                refine V.icmp_gt (q := 48) (tgt := 86) C dX2_number_45 rfl rfl (fun hb45 => ?_) (fun hb45 => ?_)
                · have d1 : ¬ dgP T sz true (a + 1) = true := fun z => (dg_of z).2.2.2 hb45
                  refine V.iload_n (q := 87) C dX2_number_86 rfl rfl ?_
                  exact V.ireturn C dX2_number_87 ⟨by rw [nuV, nu_1 d0 d1] <;> rfl, by rw [nu_1 d0 d1] <;> rfl, rfl⟩
                · have d1 : dgP T sz true (a + 1) = true := dg_t rfl p1 l1 hb45
                  refine V.iload_n (q := 49) C dX2_number_48 rfl rfl ?_
                  refine V.iconst (q := 50) (v := nI 0) C dX2_number_49 rfl (by decide) ?_
                  refine V.max (q := 53) C dX2_number_50 (tb_at 503 (by decide +kernel) rfl) rfl ?_
                  refine V.topi (x1 := T a - nI 48) (by obtain ⟨c, hc, e⟩ := hT a p0; exact if_neg (nu_sub e hc l0)) ?_
                  refine V.bipush (q := 55) (v := nI 10) C dX2_number_53 rfl (by decide) ?_
                  refine V.imul (q := 56) C dX2_number_55 rfl ?_
                  refine V.topi (x1 := nI 10 * (T a - nI 48)) (Int32.mul_comm _ _) ?_
                  refine V.aload_n (q := 57) C dX2_number_56 rfl rfl ?_
                  refine V.get (q := 60) C fl_X2_9 dX2_number_57 rfl okC_4 rfl rfl ?_
                  refine V.aload_n (q := 61) C dX2_number_60 rfl rfl ?_
                  refine V.get (q := 64) C fl_X2_19 dX2_number_61 rfl okC_4 rfl rfl ?_
                  try dsimp only
                  refine V.bld (q := 65) (i := (a + 1)) C dX2_number_64 rfl okC_5 rfl rfl (by omega) (by decide) ?_
                  try dsimp only
                  refine V.iadd (q := 66) C dX2_number_65 rfl ?_
                  refine V.bipush (q := 68) (v := nI 48) C dX2_number_66 rfl (by decide) ?_
                  refine V.isub (q := 69) C dX2_number_68 rfl ?_
                  refine V.istore_n (q := 70) C dX2_number_69 rfl (by decide) rfl rfl ?_
                  refine V.aload_n (q := 71) C dX2_number_70 rfl rfl ?_
                  refine V.dup (q := 72) C dX2_number_71 rfl rfl ?_
                  refine V.get (q := 75) C fl_X2_19 dX2_number_72 rfl okC_4 rfl rfl ?_
                  try dsimp only
                  refine V.iconst (q := 76) (v := nI 1) C dX2_number_75 rfl (by decide) ?_
                  refine V.iadd (q := 77) C dX2_number_76 rfl ?_
                  refine V.topi (x1 := nI ((a + 1) + 1)) (nI_add _ _) ?_
                  refine V.put (q := 80) C fl_X2_19 rfl dX2_number_77 rfl okC_4 rfl (Nat.le_of_ble_eq_true rfl) rfl rfl rfl ?_
                  refine V.phE (uC_4_2) ?_
                  try dsimp only
                  refine V.iinc (q := 83) (v := nI ((0 + 1) + 1)) C dX2_number_80 rfl rfl (nI_1 _) (by decide) rfl rfl ?_
                  refine V.goto (tgt := 4) C dX2_number_83 rfl ?_
                  refine V.iload_n (q := 5) C dX2_number_4 rfl rfl ?_
                  refine V.iconst (q := 6) (v := nI 2) C dX2_number_5 rfl (by decide) ?_
                  refine V.icmp_ge (q := 9) (tgt := 86) C dX2_number_6 rfl rfl (fun hb6 => ?_) (fun hb6 => ?_)
                  · refine V.iload_n (q := 87) C dX2_number_86 rfl rfl ?_
                    exact V.ireturn C dX2_number_87 ⟨by rw [nuV, nu_2 d0 d1] <;> rfl, by rw [nu_2 d0 d1] <;> rfl, rfl⟩
                  · exact absurd (by decide) hb6
/-- a sign's place among those of String i: its number or -1, the place behind -/
def soV (T : I1) (sz a i : Nat) : Int32 := if a < sz then ioF i (T a) (lenS.getD i 0) 0 else -1
def soA (T : I1) (sz a i : Nat) : Nat := if 0 ≤ soV T sz a i then a + 1 else a
theorem io_c {i : Nat} {x : Int32} : ∀ f j, ioF i x f j = -1 ∨ ∃ k, j ≤ k ∧ k < j + f ∧ ioF i x f j = nI k ∧ (bytS.getD i []).getD k 0 = x := by
  intro f
  induction f with
  | zero => intro j; exact Or.inl rfl
  | succ f ih =>
    intro j
    by_cases h : (bytS.getD i []).getD j 0 = x
    · exact Or.inr ⟨j, by omega, by omega, if_pos h, h⟩
    · rw [show ioF i x (f + 1) j = ioF i x f (j + 1) from if_neg h]
      rcases ih (j + 1) with h1 | ⟨k, h1, h2, h3, h4⟩
      · exact Or.inl h1
      · exact Or.inr ⟨k, by omega, by omega, h3, h4⟩
theorem so_c {T : I1} {sz a i : Nat} (hi : i < 5) : (soV T sz a i = -1 ∧ soA T sz a i = a) ∨ ∃ k, k < lenS.getD i 0 ∧ soV T sz a i = nI k ∧ soA T sz a i = a + 1 ∧ a < sz ∧ (bytS.getD i []).getD k 0 = T a := by
  have hl9 := len_S i hi
  unfold soA soV
  by_cases h : a < sz
  · rw [if_pos h]
    rcases io_c (i := i) (x := T a) (lenS.getD i 0) 0 with h1 | ⟨k, h1, h2, h3, h4⟩
    · rw [h1]; exact Or.inl ⟨rfl, rfl⟩
    · rw [h3]; exact Or.inr ⟨k, by omega, rfl, if_pos (nI_pos' (by omega)), h, h4⟩
  · rw [if_neg h]; exact Or.inl ⟨rfl, rfl⟩
theorem c_signOf {l : Launch} {g : GG} {X : PHp} {h0 : HZ} {ct : CTt} {cl : I2} {T : I1} {sz a : Nat} {B : I2} {cy : Nat → Nat} {rw : RWt} {tl : TLt} {sp : SPt} {i : Nat} (hi : i < 5) (hsz : sz ≤ 100) (ha : a ≤ sz) (hT : ∀ j, j < sz → ∃ c, c < 128 ∧ T j = nI c) : Ct l g yX2_signOf cX2_signOf 3 (some .int) 5 0 0 [rf g (4, 0, 0), .ref (g.2.2.2.1 i)] NN (jn (hC g h0 ct cl (T, nI sz, nI a) B cy rw tl sp) X) (pI (soV T sz a i) (jn (hC g h0 ct cl (T, nI sz, nI (soA T sz a i)) B cy rw tl sp) X)) := by
  refine Ct.of (lv := [some (rf g (4, 0, 0)), some (.ref (g.2.2.2.1 i)), none]) (by decide +kernel) rfl (Nat.le_of_ble_eq_true rfl) ?_
  intro Γ C
  refine V.aload_n (q := 1) C dX2_signOf_0 rfl rfl ?_
  refine V.get (q := 4) C fl_X2_19 dX2_signOf_1 rfl okC_4 rfl rfl ?_
  try dsimp only
  refine V.aload_n (q := 5) C dX2_signOf_4 rfl rfl ?_
  refine V.get (q := 8) C fl_X2_15 dX2_signOf_5 rfl okC_4 rfl rfl ?_
  try dsimp only
  refine V.icmp_ge (q := 11) (tgt := 28) C dX2_signOf_8 rfl rfl (fun hb8 => ?_) (fun hb8 => ?_)
  · have e8 : soV T sz a i = -1 := if_neg (fun z => absurd ((nI_leI (by omega) (by omega)).mp hb8) (by omega))
    refine V.iconst (q := 29) (v := -1) C dX2_signOf_28 rfl (by decide) ?_
    refine V.istore_n (q := 30) C dX2_signOf_29 rfl (by decide) rfl rfl ?_
    refine V.iload_n (q := 31) C dX2_signOf_30 rfl rfl ?_
    refine V.if_lt (q := 34) (tgt := 44) C dX2_signOf_31 rfl rfl (fun hb31 => ?_) (fun hb31 => ?_)
    · refine V.iload_n (q := 45) C dX2_signOf_44 rfl rfl ?_
      exact V.ireturn C dX2_signOf_45 ⟨by rw [e8], by rw [show soA T sz a i = a from if_neg (by rw [e8]; decide)], rfl⟩
    · exact absurd (by decide) hb31
  · have p8 : a < sz := Nat.lt_of_not_le (fun z => hb8 ((nI_leI (by omega) (by omega)).mpr z))
    obtain ⟨c, hc, ec⟩ := hT a p8
    refine V.aload_nR (q := 12) C dX2_signOf_11 rfl rfl ?_
    refine V.aload_n (q := 13) C dX2_signOf_12 rfl rfl ?_
    refine V.get (q := 16) C fl_X2_9 dX2_signOf_13 rfl okC_4 rfl rfl ?_
    refine V.aload_n (q := 17) C dX2_signOf_16 rfl rfl ?_
    refine V.get (q := 20) C fl_X2_19 dX2_signOf_17 rfl okC_4 rfl rfl ?_
    try dsimp only
    refine V.bld (q := 21) (i := a) C dX2_signOf_20 rfl okC_5 rfl rfl (by omega) (by decide) ?_
    try dsimp only
    refine V.topi (x1 := nI c) ec ?_
    refine V.i2c (q := 22) C dX2_signOf_21 rfl (show ((nI c).toUInt32 % 65536).toInt32 = nI c from by rw [pk_char, pk_tn (by omega), Nat.mod_eq_of_lt (by omega)]) ?_
    refine V.callK (q := 25) (As := [.int (nI c)]) C hi me_J0_indexOf_0f7a4 rfl (j_indexOf hi hc) (tb_at 527 (by decide +kernel) rfl) dX2_signOf_22 rfl rfl rfl (Nat.le_of_ble_eq_true rfl) (by omega) ?_
    have e8 : soV T sz a i = ioF i (nI c) (lenS.getD i 0) 0 := by rw [soV, if_pos p8, ec]
    refine V.goto (tgt := 29) C dX2_signOf_25 rfl ?_
    refine V.istore_n (q := 30) C dX2_signOf_29 rfl (by decide) rfl rfl ?_
    refine V.iload_n (q := 31) C dX2_signOf_30 rfl rfl ?_
    refine V.if_lt (q := 34) (tgt := 44) C dX2_signOf_31 rfl rfl (fun hb31 => ?_) (fun hb31 => ?_)
    · have e31 : soA T sz a i = a := if_neg (fun z => absurd hb31 (Int32.not_lt.mpr (by rw [e8] at z; exact z)))
      refine V.iload_n (q := 45) C dX2_signOf_44 rfl rfl ?_
      exact V.ireturn C dX2_signOf_45 ⟨by rw [e8], by rw [e31], rfl⟩
    · have e31 : soA T sz a i = a + 1 := if_pos (by rw [e8]; exact Int32.not_lt.mp hb31)
      refine V.aload_n (q := 35) C dX2_signOf_34 rfl rfl ?_
      refine V.dup (q := 36) C dX2_signOf_35 rfl rfl ?_
      refine V.get (q := 39) C fl_X2_19 dX2_signOf_36 rfl okC_4 rfl rfl ?_
      try dsimp only
      refine V.iconst (q := 40) (v := nI 1) C dX2_signOf_39 rfl (by decide) ?_
      refine V.iadd (q := 41) C dX2_signOf_40 rfl ?_
      refine V.topi (x1 := nI (a + 1)) (nI_add _ _) ?_
      refine V.put (q := 44) C fl_X2_19 rfl dX2_signOf_41 rfl okC_4 rfl (Nat.le_of_ble_eq_true rfl) rfl rfl rfl ?_
      refine V.phE (uC_4_2) ?_
      try dsimp only
      refine V.iload_n (q := 45) C dX2_signOf_44 rfl rfl ?_
      exact V.ireturn C dX2_signOf_45 ⟨by rw [e8], by rw [e31], rfl⟩
def wd0 : List Int32 := [nI 117, nI 98, nI 32]
theorem c_isWord_0 {l : Launch} {g : GG} {X : PHp} {h0 : HZ} {ct : CTt} {cl : I2} {T : I1} {sz a : Nat} {B : I2} {cy : Nat → Nat} {rw : RWt} {tl : TLt} {sp : SPt} (hsz : sz ≤ 100) (ha : a ≤ sz) : Ct l g yX2_isWord cX2_isWord 3 (some .boolean) 5 0 0 [rf g (4, 0, 0), .ref (g.2.2.2.1 0)] NN (jn (hC g h0 ct cl (T, nI sz, nI a) B cy rw tl sp) X) (pI (b2i ((wdP T sz wd0 true a).1 = true)) (jn (hC g h0 ct cl (T, nI sz, nI (wdP T sz wd0 true a).2) B cy rw tl sp) X)) := by
  refine Ct.of (lv := [some (rf g (4, 0, 0)), some (.ref (g.2.2.2.1 0)), none]) (by decide +kernel) rfl (Nat.le_of_ble_eq_true rfl) ?_
  intro Γ C
  refine V.iconst (q := 1) (v := nI 0) C dX2_isWord_0 rfl (by decide) ?_
  refine V.istore_n (q := 2) C dX2_isWord_1 rfl (by decide) rfl rfl ?_
  refine V.iload_n (q := 3) C dX2_isWord_2 rfl rfl ?_
  refine V.aload_nR (q := 4) C dX2_isWord_3 rfl rfl ?_
  refine V.callK (q := 7) (As := []) C (by decide) me_J0_length_8abf5 rfl (j_length (i := 0) (by decide)) (tb_at 451 (by decide +kernel) rfl) dX2_isWord_4 rfl rfl rfl (Nat.le_of_ble_eq_true rfl) (by omega) ?_
  refine V.topi (x1 := nI (3)) rfl ?_
  refine V.icmp_ge (q := 10) (tgt := 30) C dX2_isWord_7 rfl rfl (fun hb7 => ?_) (fun hb7 => ?_)
  · exact absurd hb7 (by decide)
  · refine V.aload_n (q := 11) C dX2_isWord_10 rfl rfl ?_
    refine V.aload_nR (q := 12) C dX2_isWord_11 rfl rfl ?_
    refine V.iload_n (q := 13) C dX2_isWord_12 rfl rfl ?_
    refine V.callK (q := 16) (As := [.int (nI 0)]) C (by decide) me_J0_charAt_5068e rfl (j_charAt (i := 0) (j := 0) (by decide) (by decide)) (tb_at 461 (by decide +kernel) rfl) dX2_isWord_13 rfl rfl rfl (Nat.le_of_ble_eq_true rfl) (by omega) ?_
    refine V.topi (x1 := nI 117) (by decide) ?_
    refine V.callVi (q := 19) C me_X2_isSign (c_isSign (by omega) (by omega)) ml_X2_27 dX2_isWord_16 rfl okC_4 ⟨_, rfl⟩ rfl rfl (Nat.le_of_ble_eq_true rfl) (by omega) (Nat.zero_le _) (Nat.zero_le _) ?_
    refine V.if_neB (q := 22) (tgt := 24) C dX2_isWord_19 rfl rfl (fun hb19 => ?_) (fun hb19 => ?_)
    · have s0 := hb19
      rw [tk_t2 s0]
      have q0 := (isA_of s0).2.1
      refine V.iinc (q := 27) (v := nI (0 + 1)) C dX2_isWord_24 rfl rfl (nI_1 _) (by decide) rfl rfl ?_
      refine V.goto (tgt := 2) C dX2_isWord_27 rfl ?_
      refine V.iload_n (q := 3) C dX2_isWord_2 rfl rfl ?_
      refine V.aload_nR (q := 4) C dX2_isWord_3 rfl rfl ?_
      refine V.callK (q := 7) (As := []) C (by decide) me_J0_length_8abf5 rfl (j_length (i := 0) (by decide)) (tb_at 451 (by decide +kernel) rfl) dX2_isWord_4 rfl rfl rfl (Nat.le_of_ble_eq_true rfl) (by omega) ?_
      refine V.topi (x1 := nI (3)) rfl ?_
      refine V.icmp_ge (q := 10) (tgt := 30) C dX2_isWord_7 rfl rfl (fun hb7 => ?_) (fun hb7 => ?_)
      · exact absurd hb7 (by decide)
      · refine V.aload_n (q := 11) C dX2_isWord_10 rfl rfl ?_
        refine V.aload_nR (q := 12) C dX2_isWord_11 rfl rfl ?_
        refine V.iload_n (q := 13) C dX2_isWord_12 rfl rfl ?_
        refine V.callK (q := 16) (As := [.int (nI (0 + 1))]) C (by decide) me_J0_charAt_5068e rfl (j_charAt (i := 0) (j := (0 + 1)) (by decide) (by decide)) (tb_at 461 (by decide +kernel) rfl) dX2_isWord_13 rfl rfl rfl (Nat.le_of_ble_eq_true rfl) (by omega) ?_
        refine V.topi (x1 := nI 98) (by decide) ?_
        refine V.callVi (q := 19) C me_X2_isSign (c_isSign (by omega) (by omega)) ml_X2_27 dX2_isWord_16 rfl okC_4 ⟨_, rfl⟩ rfl rfl (Nat.le_of_ble_eq_true rfl) (by omega) (Nat.zero_le _) (Nat.zero_le _) ?_
        refine V.if_neB (q := 22) (tgt := 24) C dX2_isWord_19 rfl rfl (fun hb19 => ?_) (fun hb19 => ?_)
        · have s1 := hb19
          rw [tk_t2 s1]
          have q1 := (isA_of s1).2.1
          refine V.iinc (q := 27) (v := nI ((0 + 1) + 1)) C dX2_isWord_24 rfl rfl (nI_1 _) (by decide) rfl rfl ?_
          refine V.goto (tgt := 2) C dX2_isWord_27 rfl ?_
          refine V.iload_n (q := 3) C dX2_isWord_2 rfl rfl ?_
          refine V.aload_nR (q := 4) C dX2_isWord_3 rfl rfl ?_
          refine V.callK (q := 7) (As := []) C (by decide) me_J0_length_8abf5 rfl (j_length (i := 0) (by decide)) (tb_at 451 (by decide +kernel) rfl) dX2_isWord_4 rfl rfl rfl (Nat.le_of_ble_eq_true rfl) (by omega) ?_
          refine V.topi (x1 := nI (3)) rfl ?_
          refine V.icmp_ge (q := 10) (tgt := 30) C dX2_isWord_7 rfl rfl (fun hb7 => ?_) (fun hb7 => ?_)
          · exact absurd hb7 (by decide)
          · refine V.aload_n (q := 11) C dX2_isWord_10 rfl rfl ?_
            refine V.aload_nR (q := 12) C dX2_isWord_11 rfl rfl ?_
            refine V.iload_n (q := 13) C dX2_isWord_12 rfl rfl ?_
            refine V.callK (q := 16) (As := [.int (nI ((0 + 1) + 1))]) C (by decide) me_J0_charAt_5068e rfl (j_charAt (i := 0) (j := ((0 + 1) + 1)) (by decide) (by decide)) (tb_at 461 (by decide +kernel) rfl) dX2_isWord_13 rfl rfl rfl (Nat.le_of_ble_eq_true rfl) (by omega) ?_
            refine V.topi (x1 := nI 32) (by decide) ?_
            refine V.callVi (q := 19) C me_X2_isSign (c_isSign (by omega) (by omega)) ml_X2_27 dX2_isWord_16 rfl okC_4 ⟨_, rfl⟩ rfl rfl (Nat.le_of_ble_eq_true rfl) (by omega) (Nat.zero_le _) (Nat.zero_le _) ?_
            refine V.if_neB (q := 22) (tgt := 24) C dX2_isWord_19 rfl rfl (fun hb19 => ?_) (fun hb19 => ?_)
            · have s2 := hb19
              rw [tk_t2 s2]
              have q2 := (isA_of s2).2.1
              refine V.iinc (q := 27) (v := nI (((0 + 1) + 1) + 1)) C dX2_isWord_24 rfl rfl (nI_1 _) (by decide) rfl rfl ?_
              refine V.goto (tgt := 2) C dX2_isWord_27 rfl ?_
              refine V.iload_n (q := 3) C dX2_isWord_2 rfl rfl ?_
              refine V.aload_nR (q := 4) C dX2_isWord_3 rfl rfl ?_
              refine V.callK (q := 7) (As := []) C (by decide) me_J0_length_8abf5 rfl (j_length (i := 0) (by decide)) (tb_at 451 (by decide +kernel) rfl) dX2_isWord_4 rfl rfl rfl (Nat.le_of_ble_eq_true rfl) (by omega) ?_
              refine V.topi (x1 := nI (3)) rfl ?_
              refine V.icmp_ge (q := 10) (tgt := 30) C dX2_isWord_7 rfl rfl (fun hb7 => ?_) (fun hb7 => ?_)
              · refine V.iconst (q := 31) (v := nI 1) C dX2_isWord_30 rfl (by decide) ?_
                exact V.zreturn C dX2_isWord_31 rfl ⟨by simp only [wd0, wdP, tk_t s0, tk_t s1, tk_t s2]; rfl, by simp only [wd0, wdP, tk_t s0, tk_t s1, tk_t s2], rfl⟩
              · exact absurd (by decide) hb7
            · have s2 := hb19
              rw [tk_f2 s2]
              refine V.iconst (q := 23) (v := nI 0) C dX2_isWord_22 rfl (by decide) ?_
              exact V.zreturn C dX2_isWord_23 rfl ⟨by simp only [wd0, wdP, tk_t s0, tk_t s1, tk_f s2, tk_0]; rfl, by simp only [wd0, wdP, tk_t s0, tk_t s1, tk_f s2, tk_0], rfl⟩
        · have s1 := hb19
          rw [tk_f2 s1]
          refine V.iconst (q := 23) (v := nI 0) C dX2_isWord_22 rfl (by decide) ?_
          exact V.zreturn C dX2_isWord_23 rfl ⟨by simp only [wd0, wdP, tk_t s0, tk_f s1, tk_0]; rfl, by simp only [wd0, wdP, tk_t s0, tk_f s1, tk_0], rfl⟩
    · have s0 := hb19
      rw [tk_f2 s0]
      refine V.iconst (q := 23) (v := nI 0) C dX2_isWord_22 rfl (by decide) ?_
      exact V.zreturn C dX2_isWord_23 rfl ⟨by simp only [wd0, wdP, tk_f s0, tk_0]; rfl, by simp only [wd0, wdP, tk_f s0, tk_0], rfl⟩
def wd1 : List Int32 := [nI 105, nI 114, nI 109, nI 32]
theorem c_isWord_1 {l : Launch} {g : GG} {X : PHp} {h0 : HZ} {ct : CTt} {cl : I2} {T : I1} {sz a : Nat} {B : I2} {cy : Nat → Nat} {rw : RWt} {tl : TLt} {sp : SPt} (hsz : sz ≤ 100) (ha : a ≤ sz) : Ct l g yX2_isWord cX2_isWord 3 (some .boolean) 5 0 0 [rf g (4, 0, 0), .ref (g.2.2.2.1 1)] NN (jn (hC g h0 ct cl (T, nI sz, nI a) B cy rw tl sp) X) (pI (b2i ((wdP T sz wd1 true a).1 = true)) (jn (hC g h0 ct cl (T, nI sz, nI (wdP T sz wd1 true a).2) B cy rw tl sp) X)) := by
  refine Ct.of (lv := [some (rf g (4, 0, 0)), some (.ref (g.2.2.2.1 1)), none]) (by decide +kernel) rfl (Nat.le_of_ble_eq_true rfl) ?_
  intro Γ C
  refine V.iconst (q := 1) (v := nI 0) C dX2_isWord_0 rfl (by decide) ?_
  refine V.istore_n (q := 2) C dX2_isWord_1 rfl (by decide) rfl rfl ?_
  refine V.iload_n (q := 3) C dX2_isWord_2 rfl rfl ?_
  refine V.aload_nR (q := 4) C dX2_isWord_3 rfl rfl ?_
  refine V.callK (q := 7) (As := []) C (by decide) me_J0_length_8abf5 rfl (j_length (i := 1) (by decide)) (tb_at 451 (by decide +kernel) rfl) dX2_isWord_4 rfl rfl rfl (Nat.le_of_ble_eq_true rfl) (by omega) ?_
  refine V.topi (x1 := nI (4)) rfl ?_
  refine V.icmp_ge (q := 10) (tgt := 30) C dX2_isWord_7 rfl rfl (fun hb7 => ?_) (fun hb7 => ?_)
  · exact absurd hb7 (by decide)
  · refine V.aload_n (q := 11) C dX2_isWord_10 rfl rfl ?_
    refine V.aload_nR (q := 12) C dX2_isWord_11 rfl rfl ?_
    refine V.iload_n (q := 13) C dX2_isWord_12 rfl rfl ?_
    refine V.callK (q := 16) (As := [.int (nI 0)]) C (by decide) me_J0_charAt_5068e rfl (j_charAt (i := 1) (j := 0) (by decide) (by decide)) (tb_at 461 (by decide +kernel) rfl) dX2_isWord_13 rfl rfl rfl (Nat.le_of_ble_eq_true rfl) (by omega) ?_
    refine V.topi (x1 := nI 105) (by decide) ?_
    refine V.callVi (q := 19) C me_X2_isSign (c_isSign (by omega) (by omega)) ml_X2_27 dX2_isWord_16 rfl okC_4 ⟨_, rfl⟩ rfl rfl (Nat.le_of_ble_eq_true rfl) (by omega) (Nat.zero_le _) (Nat.zero_le _) ?_
    refine V.if_neB (q := 22) (tgt := 24) C dX2_isWord_19 rfl rfl (fun hb19 => ?_) (fun hb19 => ?_)
    · have s0 := hb19
      rw [tk_t2 s0]
      have q0 := (isA_of s0).2.1
      refine V.iinc (q := 27) (v := nI (0 + 1)) C dX2_isWord_24 rfl rfl (nI_1 _) (by decide) rfl rfl ?_
      refine V.goto (tgt := 2) C dX2_isWord_27 rfl ?_
      refine V.iload_n (q := 3) C dX2_isWord_2 rfl rfl ?_
      refine V.aload_nR (q := 4) C dX2_isWord_3 rfl rfl ?_
      refine V.callK (q := 7) (As := []) C (by decide) me_J0_length_8abf5 rfl (j_length (i := 1) (by decide)) (tb_at 451 (by decide +kernel) rfl) dX2_isWord_4 rfl rfl rfl (Nat.le_of_ble_eq_true rfl) (by omega) ?_
      refine V.topi (x1 := nI (4)) rfl ?_
      refine V.icmp_ge (q := 10) (tgt := 30) C dX2_isWord_7 rfl rfl (fun hb7 => ?_) (fun hb7 => ?_)
      · exact absurd hb7 (by decide)
      · refine V.aload_n (q := 11) C dX2_isWord_10 rfl rfl ?_
        refine V.aload_nR (q := 12) C dX2_isWord_11 rfl rfl ?_
        refine V.iload_n (q := 13) C dX2_isWord_12 rfl rfl ?_
        refine V.callK (q := 16) (As := [.int (nI (0 + 1))]) C (by decide) me_J0_charAt_5068e rfl (j_charAt (i := 1) (j := (0 + 1)) (by decide) (by decide)) (tb_at 461 (by decide +kernel) rfl) dX2_isWord_13 rfl rfl rfl (Nat.le_of_ble_eq_true rfl) (by omega) ?_
        refine V.topi (x1 := nI 114) (by decide) ?_
        refine V.callVi (q := 19) C me_X2_isSign (c_isSign (by omega) (by omega)) ml_X2_27 dX2_isWord_16 rfl okC_4 ⟨_, rfl⟩ rfl rfl (Nat.le_of_ble_eq_true rfl) (by omega) (Nat.zero_le _) (Nat.zero_le _) ?_
        refine V.if_neB (q := 22) (tgt := 24) C dX2_isWord_19 rfl rfl (fun hb19 => ?_) (fun hb19 => ?_)
        · have s1 := hb19
          rw [tk_t2 s1]
          have q1 := (isA_of s1).2.1
          refine V.iinc (q := 27) (v := nI ((0 + 1) + 1)) C dX2_isWord_24 rfl rfl (nI_1 _) (by decide) rfl rfl ?_
          refine V.goto (tgt := 2) C dX2_isWord_27 rfl ?_
          refine V.iload_n (q := 3) C dX2_isWord_2 rfl rfl ?_
          refine V.aload_nR (q := 4) C dX2_isWord_3 rfl rfl ?_
          refine V.callK (q := 7) (As := []) C (by decide) me_J0_length_8abf5 rfl (j_length (i := 1) (by decide)) (tb_at 451 (by decide +kernel) rfl) dX2_isWord_4 rfl rfl rfl (Nat.le_of_ble_eq_true rfl) (by omega) ?_
          refine V.topi (x1 := nI (4)) rfl ?_
          refine V.icmp_ge (q := 10) (tgt := 30) C dX2_isWord_7 rfl rfl (fun hb7 => ?_) (fun hb7 => ?_)
          · exact absurd hb7 (by decide)
          · refine V.aload_n (q := 11) C dX2_isWord_10 rfl rfl ?_
            refine V.aload_nR (q := 12) C dX2_isWord_11 rfl rfl ?_
            refine V.iload_n (q := 13) C dX2_isWord_12 rfl rfl ?_
            refine V.callK (q := 16) (As := [.int (nI ((0 + 1) + 1))]) C (by decide) me_J0_charAt_5068e rfl (j_charAt (i := 1) (j := ((0 + 1) + 1)) (by decide) (by decide)) (tb_at 461 (by decide +kernel) rfl) dX2_isWord_13 rfl rfl rfl (Nat.le_of_ble_eq_true rfl) (by omega) ?_
            refine V.topi (x1 := nI 109) (by decide) ?_
            refine V.callVi (q := 19) C me_X2_isSign (c_isSign (by omega) (by omega)) ml_X2_27 dX2_isWord_16 rfl okC_4 ⟨_, rfl⟩ rfl rfl (Nat.le_of_ble_eq_true rfl) (by omega) (Nat.zero_le _) (Nat.zero_le _) ?_
            refine V.if_neB (q := 22) (tgt := 24) C dX2_isWord_19 rfl rfl (fun hb19 => ?_) (fun hb19 => ?_)
            · have s2 := hb19
              rw [tk_t2 s2]
              have q2 := (isA_of s2).2.1
              refine V.iinc (q := 27) (v := nI (((0 + 1) + 1) + 1)) C dX2_isWord_24 rfl rfl (nI_1 _) (by decide) rfl rfl ?_
              refine V.goto (tgt := 2) C dX2_isWord_27 rfl ?_
              refine V.iload_n (q := 3) C dX2_isWord_2 rfl rfl ?_
              refine V.aload_nR (q := 4) C dX2_isWord_3 rfl rfl ?_
              refine V.callK (q := 7) (As := []) C (by decide) me_J0_length_8abf5 rfl (j_length (i := 1) (by decide)) (tb_at 451 (by decide +kernel) rfl) dX2_isWord_4 rfl rfl rfl (Nat.le_of_ble_eq_true rfl) (by omega) ?_
              refine V.topi (x1 := nI (4)) rfl ?_
              refine V.icmp_ge (q := 10) (tgt := 30) C dX2_isWord_7 rfl rfl (fun hb7 => ?_) (fun hb7 => ?_)
              · exact absurd hb7 (by decide)
              · refine V.aload_n (q := 11) C dX2_isWord_10 rfl rfl ?_
                refine V.aload_nR (q := 12) C dX2_isWord_11 rfl rfl ?_
                refine V.iload_n (q := 13) C dX2_isWord_12 rfl rfl ?_
                refine V.callK (q := 16) (As := [.int (nI (((0 + 1) + 1) + 1))]) C (by decide) me_J0_charAt_5068e rfl (j_charAt (i := 1) (j := (((0 + 1) + 1) + 1)) (by decide) (by decide)) (tb_at 461 (by decide +kernel) rfl) dX2_isWord_13 rfl rfl rfl (Nat.le_of_ble_eq_true rfl) (by omega) ?_
                refine V.topi (x1 := nI 32) (by decide) ?_
                refine V.callVi (q := 19) C me_X2_isSign (c_isSign (by omega) (by omega)) ml_X2_27 dX2_isWord_16 rfl okC_4 ⟨_, rfl⟩ rfl rfl (Nat.le_of_ble_eq_true rfl) (by omega) (Nat.zero_le _) (Nat.zero_le _) ?_
                refine V.if_neB (q := 22) (tgt := 24) C dX2_isWord_19 rfl rfl (fun hb19 => ?_) (fun hb19 => ?_)
                · have s3 := hb19
                  rw [tk_t2 s3]
                  have q3 := (isA_of s3).2.1
                  refine V.iinc (q := 27) (v := nI ((((0 + 1) + 1) + 1) + 1)) C dX2_isWord_24 rfl rfl (nI_1 _) (by decide) rfl rfl ?_
                  refine V.goto (tgt := 2) C dX2_isWord_27 rfl ?_
                  refine V.iload_n (q := 3) C dX2_isWord_2 rfl rfl ?_
                  refine V.aload_nR (q := 4) C dX2_isWord_3 rfl rfl ?_
                  refine V.callK (q := 7) (As := []) C (by decide) me_J0_length_8abf5 rfl (j_length (i := 1) (by decide)) (tb_at 451 (by decide +kernel) rfl) dX2_isWord_4 rfl rfl rfl (Nat.le_of_ble_eq_true rfl) (by omega) ?_
                  refine V.topi (x1 := nI (4)) rfl ?_
                  refine V.icmp_ge (q := 10) (tgt := 30) C dX2_isWord_7 rfl rfl (fun hb7 => ?_) (fun hb7 => ?_)
                  · refine V.iconst (q := 31) (v := nI 1) C dX2_isWord_30 rfl (by decide) ?_
                    exact V.zreturn C dX2_isWord_31 rfl ⟨by simp only [wd1, wdP, tk_t s0, tk_t s1, tk_t s2, tk_t s3]; rfl, by simp only [wd1, wdP, tk_t s0, tk_t s1, tk_t s2, tk_t s3], rfl⟩
                  · exact absurd (by decide) hb7
                · have s3 := hb19
                  rw [tk_f2 s3]
                  refine V.iconst (q := 23) (v := nI 0) C dX2_isWord_22 rfl (by decide) ?_
                  exact V.zreturn C dX2_isWord_23 rfl ⟨by simp only [wd1, wdP, tk_t s0, tk_t s1, tk_t s2, tk_f s3, tk_0]; rfl, by simp only [wd1, wdP, tk_t s0, tk_t s1, tk_t s2, tk_f s3, tk_0], rfl⟩
            · have s2 := hb19
              rw [tk_f2 s2]
              refine V.iconst (q := 23) (v := nI 0) C dX2_isWord_22 rfl (by decide) ?_
              exact V.zreturn C dX2_isWord_23 rfl ⟨by simp only [wd1, wdP, tk_t s0, tk_t s1, tk_f s2, tk_0]; rfl, by simp only [wd1, wdP, tk_t s0, tk_t s1, tk_f s2, tk_0], rfl⟩
        · have s1 := hb19
          rw [tk_f2 s1]
          refine V.iconst (q := 23) (v := nI 0) C dX2_isWord_22 rfl (by decide) ?_
          exact V.zreturn C dX2_isWord_23 rfl ⟨by simp only [wd1, wdP, tk_t s0, tk_f s1, tk_0]; rfl, by simp only [wd1, wdP, tk_t s0, tk_f s1, tk_0], rfl⟩
    · have s0 := hb19
      rw [tk_f2 s0]
      refine V.iconst (q := 23) (v := nI 0) C dX2_isWord_22 rfl (by decide) ?_
      exact V.zreturn C dX2_isWord_23 rfl ⟨by simp only [wd1, wdP, tk_f s0, tk_0]; rfl, by simp only [wd1, wdP, tk_f s0, tk_0], rfl⟩
def wd2 : List Int32 := [nI 101, nI 97, nI 107, nI 32]
theorem c_isWord_2 {l : Launch} {g : GG} {X : PHp} {h0 : HZ} {ct : CTt} {cl : I2} {T : I1} {sz a : Nat} {B : I2} {cy : Nat → Nat} {rw : RWt} {tl : TLt} {sp : SPt} (hsz : sz ≤ 100) (ha : a ≤ sz) : Ct l g yX2_isWord cX2_isWord 3 (some .boolean) 5 0 0 [rf g (4, 0, 0), .ref (g.2.2.2.1 2)] NN (jn (hC g h0 ct cl (T, nI sz, nI a) B cy rw tl sp) X) (pI (b2i ((wdP T sz wd2 true a).1 = true)) (jn (hC g h0 ct cl (T, nI sz, nI (wdP T sz wd2 true a).2) B cy rw tl sp) X)) := by
  refine Ct.of (lv := [some (rf g (4, 0, 0)), some (.ref (g.2.2.2.1 2)), none]) (by decide +kernel) rfl (Nat.le_of_ble_eq_true rfl) ?_
  intro Γ C
  refine V.iconst (q := 1) (v := nI 0) C dX2_isWord_0 rfl (by decide) ?_
  refine V.istore_n (q := 2) C dX2_isWord_1 rfl (by decide) rfl rfl ?_
  refine V.iload_n (q := 3) C dX2_isWord_2 rfl rfl ?_
  refine V.aload_nR (q := 4) C dX2_isWord_3 rfl rfl ?_
  refine V.callK (q := 7) (As := []) C (by decide) me_J0_length_8abf5 rfl (j_length (i := 2) (by decide)) (tb_at 451 (by decide +kernel) rfl) dX2_isWord_4 rfl rfl rfl (Nat.le_of_ble_eq_true rfl) (by omega) ?_
  refine V.topi (x1 := nI (4)) rfl ?_
  refine V.icmp_ge (q := 10) (tgt := 30) C dX2_isWord_7 rfl rfl (fun hb7 => ?_) (fun hb7 => ?_)
  · exact absurd hb7 (by decide)
  · refine V.aload_n (q := 11) C dX2_isWord_10 rfl rfl ?_
    refine V.aload_nR (q := 12) C dX2_isWord_11 rfl rfl ?_
    refine V.iload_n (q := 13) C dX2_isWord_12 rfl rfl ?_
    refine V.callK (q := 16) (As := [.int (nI 0)]) C (by decide) me_J0_charAt_5068e rfl (j_charAt (i := 2) (j := 0) (by decide) (by decide)) (tb_at 461 (by decide +kernel) rfl) dX2_isWord_13 rfl rfl rfl (Nat.le_of_ble_eq_true rfl) (by omega) ?_
    refine V.topi (x1 := nI 101) (by decide) ?_
    refine V.callVi (q := 19) C me_X2_isSign (c_isSign (by omega) (by omega)) ml_X2_27 dX2_isWord_16 rfl okC_4 ⟨_, rfl⟩ rfl rfl (Nat.le_of_ble_eq_true rfl) (by omega) (Nat.zero_le _) (Nat.zero_le _) ?_
    refine V.if_neB (q := 22) (tgt := 24) C dX2_isWord_19 rfl rfl (fun hb19 => ?_) (fun hb19 => ?_)
    · have s0 := hb19
      rw [tk_t2 s0]
      have q0 := (isA_of s0).2.1
      refine V.iinc (q := 27) (v := nI (0 + 1)) C dX2_isWord_24 rfl rfl (nI_1 _) (by decide) rfl rfl ?_
      refine V.goto (tgt := 2) C dX2_isWord_27 rfl ?_
      refine V.iload_n (q := 3) C dX2_isWord_2 rfl rfl ?_
      refine V.aload_nR (q := 4) C dX2_isWord_3 rfl rfl ?_
      refine V.callK (q := 7) (As := []) C (by decide) me_J0_length_8abf5 rfl (j_length (i := 2) (by decide)) (tb_at 451 (by decide +kernel) rfl) dX2_isWord_4 rfl rfl rfl (Nat.le_of_ble_eq_true rfl) (by omega) ?_
      refine V.topi (x1 := nI (4)) rfl ?_
      refine V.icmp_ge (q := 10) (tgt := 30) C dX2_isWord_7 rfl rfl (fun hb7 => ?_) (fun hb7 => ?_)
      · exact absurd hb7 (by decide)
      · refine V.aload_n (q := 11) C dX2_isWord_10 rfl rfl ?_
        refine V.aload_nR (q := 12) C dX2_isWord_11 rfl rfl ?_
        refine V.iload_n (q := 13) C dX2_isWord_12 rfl rfl ?_
        refine V.callK (q := 16) (As := [.int (nI (0 + 1))]) C (by decide) me_J0_charAt_5068e rfl (j_charAt (i := 2) (j := (0 + 1)) (by decide) (by decide)) (tb_at 461 (by decide +kernel) rfl) dX2_isWord_13 rfl rfl rfl (Nat.le_of_ble_eq_true rfl) (by omega) ?_
        refine V.topi (x1 := nI 97) (by decide) ?_
        refine V.callVi (q := 19) C me_X2_isSign (c_isSign (by omega) (by omega)) ml_X2_27 dX2_isWord_16 rfl okC_4 ⟨_, rfl⟩ rfl rfl (Nat.le_of_ble_eq_true rfl) (by omega) (Nat.zero_le _) (Nat.zero_le _) ?_
        refine V.if_neB (q := 22) (tgt := 24) C dX2_isWord_19 rfl rfl (fun hb19 => ?_) (fun hb19 => ?_)
        · have s1 := hb19
          rw [tk_t2 s1]
          have q1 := (isA_of s1).2.1
          refine V.iinc (q := 27) (v := nI ((0 + 1) + 1)) C dX2_isWord_24 rfl rfl (nI_1 _) (by decide) rfl rfl ?_
          refine V.goto (tgt := 2) C dX2_isWord_27 rfl ?_
          refine V.iload_n (q := 3) C dX2_isWord_2 rfl rfl ?_
          refine V.aload_nR (q := 4) C dX2_isWord_3 rfl rfl ?_
          refine V.callK (q := 7) (As := []) C (by decide) me_J0_length_8abf5 rfl (j_length (i := 2) (by decide)) (tb_at 451 (by decide +kernel) rfl) dX2_isWord_4 rfl rfl rfl (Nat.le_of_ble_eq_true rfl) (by omega) ?_
          refine V.topi (x1 := nI (4)) rfl ?_
          refine V.icmp_ge (q := 10) (tgt := 30) C dX2_isWord_7 rfl rfl (fun hb7 => ?_) (fun hb7 => ?_)
          · exact absurd hb7 (by decide)
          · refine V.aload_n (q := 11) C dX2_isWord_10 rfl rfl ?_
            refine V.aload_nR (q := 12) C dX2_isWord_11 rfl rfl ?_
            refine V.iload_n (q := 13) C dX2_isWord_12 rfl rfl ?_
            refine V.callK (q := 16) (As := [.int (nI ((0 + 1) + 1))]) C (by decide) me_J0_charAt_5068e rfl (j_charAt (i := 2) (j := ((0 + 1) + 1)) (by decide) (by decide)) (tb_at 461 (by decide +kernel) rfl) dX2_isWord_13 rfl rfl rfl (Nat.le_of_ble_eq_true rfl) (by omega) ?_
            refine V.topi (x1 := nI 107) (by decide) ?_
            refine V.callVi (q := 19) C me_X2_isSign (c_isSign (by omega) (by omega)) ml_X2_27 dX2_isWord_16 rfl okC_4 ⟨_, rfl⟩ rfl rfl (Nat.le_of_ble_eq_true rfl) (by omega) (Nat.zero_le _) (Nat.zero_le _) ?_
            refine V.if_neB (q := 22) (tgt := 24) C dX2_isWord_19 rfl rfl (fun hb19 => ?_) (fun hb19 => ?_)
            · have s2 := hb19
              rw [tk_t2 s2]
              have q2 := (isA_of s2).2.1
              refine V.iinc (q := 27) (v := nI (((0 + 1) + 1) + 1)) C dX2_isWord_24 rfl rfl (nI_1 _) (by decide) rfl rfl ?_
              refine V.goto (tgt := 2) C dX2_isWord_27 rfl ?_
              refine V.iload_n (q := 3) C dX2_isWord_2 rfl rfl ?_
              refine V.aload_nR (q := 4) C dX2_isWord_3 rfl rfl ?_
              refine V.callK (q := 7) (As := []) C (by decide) me_J0_length_8abf5 rfl (j_length (i := 2) (by decide)) (tb_at 451 (by decide +kernel) rfl) dX2_isWord_4 rfl rfl rfl (Nat.le_of_ble_eq_true rfl) (by omega) ?_
              refine V.topi (x1 := nI (4)) rfl ?_
              refine V.icmp_ge (q := 10) (tgt := 30) C dX2_isWord_7 rfl rfl (fun hb7 => ?_) (fun hb7 => ?_)
              · exact absurd hb7 (by decide)
              · refine V.aload_n (q := 11) C dX2_isWord_10 rfl rfl ?_
                refine V.aload_nR (q := 12) C dX2_isWord_11 rfl rfl ?_
                refine V.iload_n (q := 13) C dX2_isWord_12 rfl rfl ?_
                refine V.callK (q := 16) (As := [.int (nI (((0 + 1) + 1) + 1))]) C (by decide) me_J0_charAt_5068e rfl (j_charAt (i := 2) (j := (((0 + 1) + 1) + 1)) (by decide) (by decide)) (tb_at 461 (by decide +kernel) rfl) dX2_isWord_13 rfl rfl rfl (Nat.le_of_ble_eq_true rfl) (by omega) ?_
                refine V.topi (x1 := nI 32) (by decide) ?_
                refine V.callVi (q := 19) C me_X2_isSign (c_isSign (by omega) (by omega)) ml_X2_27 dX2_isWord_16 rfl okC_4 ⟨_, rfl⟩ rfl rfl (Nat.le_of_ble_eq_true rfl) (by omega) (Nat.zero_le _) (Nat.zero_le _) ?_
                refine V.if_neB (q := 22) (tgt := 24) C dX2_isWord_19 rfl rfl (fun hb19 => ?_) (fun hb19 => ?_)
                · have s3 := hb19
                  rw [tk_t2 s3]
                  have q3 := (isA_of s3).2.1
                  refine V.iinc (q := 27) (v := nI ((((0 + 1) + 1) + 1) + 1)) C dX2_isWord_24 rfl rfl (nI_1 _) (by decide) rfl rfl ?_
                  refine V.goto (tgt := 2) C dX2_isWord_27 rfl ?_
                  refine V.iload_n (q := 3) C dX2_isWord_2 rfl rfl ?_
                  refine V.aload_nR (q := 4) C dX2_isWord_3 rfl rfl ?_
                  refine V.callK (q := 7) (As := []) C (by decide) me_J0_length_8abf5 rfl (j_length (i := 2) (by decide)) (tb_at 451 (by decide +kernel) rfl) dX2_isWord_4 rfl rfl rfl (Nat.le_of_ble_eq_true rfl) (by omega) ?_
                  refine V.topi (x1 := nI (4)) rfl ?_
                  refine V.icmp_ge (q := 10) (tgt := 30) C dX2_isWord_7 rfl rfl (fun hb7 => ?_) (fun hb7 => ?_)
                  · refine V.iconst (q := 31) (v := nI 1) C dX2_isWord_30 rfl (by decide) ?_
                    exact V.zreturn C dX2_isWord_31 rfl ⟨by simp only [wd2, wdP, tk_t s0, tk_t s1, tk_t s2, tk_t s3]; rfl, by simp only [wd2, wdP, tk_t s0, tk_t s1, tk_t s2, tk_t s3], rfl⟩
                  · exact absurd (by decide) hb7
                · have s3 := hb19
                  rw [tk_f2 s3]
                  refine V.iconst (q := 23) (v := nI 0) C dX2_isWord_22 rfl (by decide) ?_
                  exact V.zreturn C dX2_isWord_23 rfl ⟨by simp only [wd2, wdP, tk_t s0, tk_t s1, tk_t s2, tk_f s3, tk_0]; rfl, by simp only [wd2, wdP, tk_t s0, tk_t s1, tk_t s2, tk_f s3, tk_0], rfl⟩
            · have s2 := hb19
              rw [tk_f2 s2]
              refine V.iconst (q := 23) (v := nI 0) C dX2_isWord_22 rfl (by decide) ?_
              exact V.zreturn C dX2_isWord_23 rfl ⟨by simp only [wd2, wdP, tk_t s0, tk_t s1, tk_f s2, tk_0]; rfl, by simp only [wd2, wdP, tk_t s0, tk_t s1, tk_f s2, tk_0], rfl⟩
        · have s1 := hb19
          rw [tk_f2 s1]
          refine V.iconst (q := 23) (v := nI 0) C dX2_isWord_22 rfl (by decide) ?_
          exact V.zreturn C dX2_isWord_23 rfl ⟨by simp only [wd2, wdP, tk_t s0, tk_f s1, tk_0]; rfl, by simp only [wd2, wdP, tk_t s0, tk_f s1, tk_0], rfl⟩
    · have s0 := hb19
      rw [tk_f2 s0]
      refine V.iconst (q := 23) (v := nI 0) C dX2_isWord_22 rfl (by decide) ?_
      exact V.zreturn C dX2_isWord_23 rfl ⟨by simp only [wd2, wdP, tk_f s0, tk_0]; rfl, by simp only [wd2, wdP, tk_f s0, tk_0], rfl⟩
