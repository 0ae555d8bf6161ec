/-- the reader's own numbers: read, size, at, well, within, sum, rub, names -/
abbrev SC : Type := I1 × Int32 × Int32 × Int32 × Nat × Int32 × Int32 × I1
def zS (q : SC) (cv hu : I1) : Zt := (q.1, q.2.1, q.2.2.1, q.2.2.2.1, nI q.2.2.2.2.1, q.2.2.2.2.2.1, q.2.2.2.2.2.2.1, q.2.2.2.2.2.2.2, cv, hu)
theorem hM_names {g : GG} {X : PHp} {now mind : I1} {th : I1 × Int32} {tx : TXt} {T0 : I1} {x0 x1 x2 : Int32} {d : Nat} {S Rb : Int32} {Nm : I1} {cv hu : I1} {tr : I1 × Int32} {tp : TPt} {Nm1 : I1} (h : ∀ j, j < 6 → Nm j = Nm1 j) : (jn X (hM g now mind th tx (T0, x0, x1, x2, nI d, S, Rb, Nm, cv, hu) tr tp)) = (jn X (hM g now mind th tx (T0, x0, x1, x2, nI d, S, Rb, Nm1, cv, hu) tr tp)) := by
  have e := aI_eq (g := g) h
  unfold hM
  dsimp only
  rw [e]
theorem m_readFor_l {l : Launch} {g : GG} {X : PHp} {now mind : I1} {th : I1 × Int32} {tx : TXt} {T0 : I1} {x1 x2 : Int32} {d : Nat} {S Rb : Int32} {Nm : I1} {cv hu : I1} {tr : I1 × Int32} {tp : TPt} {Γ : Cxt} {Q : State → Prop} {p n : Nat} {u u2 : Value} (hp : p < 6) (hn : n ≤ 100) (C : Cx Γ g cX10_readFor yX10_readFor 5 none 22 0 0) (kx : V l Γ g 5 Q 0 0 NN (jn X (hM g now mind th tx ((mix n (rulT tx.2.2.1 p) T0), nI n, x1, x2, nI d, S, Rb, Nm, cv, hu) tr tp)) 154 [some (rf g (22, 0, 0)), some u, some u2, some (.int (nI p)), some (.int (nI n))] []) : ∀ k j : Nat, j + k = n → V l Γ g 5 Q 0 0 NN (jn X (hM g now mind th tx ((mix j (rulT tx.2.2.1 p) T0), nI n, x1, x2, nI d, S, Rb, Nm, cv, hu) tr tp)) 120 [some (rf g (22, 0, 0)), some u, some u2, some (.int (nI p)), some (.int (nI j))] [] := by
  intro k
  induction k with
  | zero =>
    intro j hj
    obtain rfl : n = j := by omega
    refine V.iload (q := 122) C dX10_readFor_120 rfl rfl ?_
    refine V.aload_n (q := 123) C dX10_readFor_122 rfl rfl ?_
    refine V.get (q := 126) C fl_X10_130 dX10_readFor_123 rfl okM rfl rfl ?_
    try dsimp only
    refine V.icmp_ge (q := 129) (tgt := 154) C dX10_readFor_126 rfl rfl (fun hb126 => ?_) (fun hb126 => ?_)
    · exact kx
    · exact absurd ((nI_leI (by omega) (by omega)).mpr (by omega)) hb126
  | succ k ih =>
    intro j hj
    refine V.iload (q := 122) C dX10_readFor_120 rfl rfl ?_
    refine V.aload_n (q := 123) C dX10_readFor_122 rfl rfl ?_
    refine V.get (q := 126) C fl_X10_130 dX10_readFor_123 rfl okM rfl rfl ?_
    try dsimp only
    refine V.icmp_ge (q := 129) (tgt := 154) C dX10_readFor_126 rfl rfl (fun hb126 => ?_) (fun hb126 => ?_)
    · exact absurd ((nI_leI (by omega) (by omega)).mp hb126) (by omega)
    · refine V.aload_n (q := 130) C dX10_readFor_129 rfl rfl ?_
      refine V.get (q := 133) C fl_X10_30 dX10_readFor_130 rfl okM rfl rfl ?_
      refine V.iload (q := 135) C dX10_readFor_133 rfl rfl ?_
      refine V.aload_n (q := 136) C dX10_readFor_135 rfl rfl ?_
      refine V.get (q := 139) C fl_X10_24 dX10_readFor_136 rfl okM rfl rfl ?_
      refine V.bipush (q := 141) (v := nI 100) C dX10_readFor_139 rfl (by decide) ?_
      refine V.iload_n (q := 142) C dX10_readFor_141 rfl rfl ?_
      refine V.imul (q := 143) C dX10_readFor_142 rfl ?_
      refine V.topi (x1 := nI (100 * p)) (pk_mul _ _) ?_
      refine V.iload (q := 145) C dX10_readFor_143 rfl rfl ?_
      refine V.iadd (q := 146) C dX10_readFor_145 rfl ?_
      refine V.topi (x1 := nI ((100 * p) + j)) (nI_add _ _) ?_
      refine V.ild (q := 147) (i := ((100 * p) + j)) C dX10_readFor_146 rfl okM_6 rfl rfl (by omega) (by decide) ?_
      try dsimp only
      refine V.ist (q := 148) (i := j) C dX10_readFor_147 rfl okM_9 rfl rfl (by omega) (by decide) uM_read ?_
      try dsimp only
      refine V.iinc (q := 151) (v := nI (j + 1)) C dX10_readFor_148 rfl rfl (nI_1 _) (by decide) rfl rfl ?_
      refine V.goto (tgt := 120) C dX10_readFor_151 rfl ?_
      refine V.ph (PH1 := (jn X (hM g now mind th tx ((mix (j + 1) (rulT tx.2.2.1 p) T0), nI n, x1, x2, nI d, S, Rb, Nm, cv, hu) tr tp))) (by rw [← mix_s]; rfl) ?_
      exact ih (j + 1) (by omega)
theorem m_readFor_v {now rules sizes T0 : I1} {i p n d : Nat} {s : Int32} (e81 : now 81 = nI (p + 1)) (ez : sizes p = nI n) (hn : n ≤ 100) (hp : p < 6 := by omega) : ((raP (mix n (rulT rules p) T0) n (namF now i s) (now (9 * i + 2) / nI 5) d).2.2.2.1, (raP (mix n (rulT rules p) T0) n (namF now i s) (now (9 * i + 2) / nI 5) d).2.2.2.2.1) = evR rules sizes now i s := by
  unfold evR
  have h1 : ¬ now 81 = nI 0 := fun q => by rw [e81] at q; exact absurd ((nI_eq (by omega) (by omega)).mp q) (by omega)
  rw [if_neg h1, e81, ix_nI (by omega), Nat.add_sub_cancel, ez, ix_nI (by omega)]
  have h2 := ra_cg (T := mix n (rulT rules p) T0) (T1 := rulT rules p) (sz := n) (fun k hk => if_pos hk)
  rw [h2]
  have h3 := ra_d (T := rulT rules p) (sz := n) (Nm := namF now i s) (S := now (9 * i + 2) / nI 5) d 0
  simp only [dpd, Prod.mk.injEq] at h3
  rw [h3.2.2.2.1, h3.2.2.2.2]
theorem m_readFor {l : Launch} {g : GG} {X : PHp} {now mind : I1} {th : I1 × Int32} {tx : TXt} {q : SC} {cv hu : I1} {tr : I1 × Int32} {tp : TPt} {i : Nat} {s : Int32} (hi : i < 6) (hR : RuI tx.2.2.2.1 now) : Ct l g yX10_readFor cX10_readFor 5 none 22 0 0 [rf g (22, 0, 0), .int (nI i), .int s] NN (jn X (hM g now mind th tx (zS q cv hu) tr tp)) (xV (fun q1 : SC => (q1.2.2.2.2.2.1, q1.2.2.2.2.2.2.1) = (evR tx.2.2.1 tx.2.2.2.1 now i s)) (fun q1 => (jn X (hM g now mind th tx (zS q1 cv hu) tr tp)))) := by
  refine Ct.of (lv := [some (rf g (22, 0, 0)), some (.int (nI i)), some (.int s), none, none]) (by decide +kernel) rfl (Nat.le_of_ble_eq_true rfl) ?_
  intro Γ C
  obtain ⟨T0, x0, x1, x2, d, S, Rb, Nm⟩ := q
  dsimp only [zS]
  obtain ⟨ρ, hρ, e81, hz⟩ := hR
  refine V.aload_n (q := 1) C dX10_readFor_0 rfl rfl ?_
  refine V.get (q := 4) C fl_X10_33 dX10_readFor_1 rfl okM rfl rfl ?_
  refine V.iconst (q := 5) (v := nI 0) C dX10_readFor_4 rfl (by decide) ?_
  refine V.iload_n (q := 6) C dX10_readFor_5 rfl rfl ?_
  refine V.ist (q := 7) (i := 0) C dX10_readFor_6 rfl okM_16 rfl rfl (by omega) (by decide) uM_names ?_
  try dsimp only
  refine V.aload_n (q := 8) C dX10_readFor_7 rfl rfl ?_
  refine V.get (q := 11) C fl_X10_33 dX10_readFor_8 rfl okM rfl rfl ?_
  refine V.iconst (q := 12) (v := nI 1) C dX10_readFor_11 rfl (by decide) ?_
  refine V.aload_n (q := 13) C dX10_readFor_12 rfl rfl ?_
  refine V.iload_n (q := 14) C dX10_readFor_13 rfl rfl ?_
  refine V.iconst (q := 15) (v := nI 0) C dX10_readFor_14 rfl (by decide) ?_
  refine V.callVi (q := 18) C me_X10_one (m_one (by omega)) ml_X10_86 dX10_readFor_15 rfl okM ⟨_, rfl⟩ rfl rfl (Nat.le_of_ble_eq_true rfl) (by omega) (Nat.zero_le _) (Nat.zero_le _) ?_
  refine V.ist (q := 19) (i := 1) C dX10_readFor_18 rfl okM_16 rfl rfl (by omega) (by decide) uM_names ?_
  try dsimp only
  refine V.aload_n (q := 20) C dX10_readFor_19 rfl rfl ?_
  refine V.get (q := 23) C fl_X10_33 dX10_readFor_20 rfl okM rfl rfl ?_
  refine V.iconst (q := 24) (v := nI 2) C dX10_readFor_23 rfl (by decide) ?_
  refine V.aload_n (q := 25) C dX10_readFor_24 rfl rfl ?_
  refine V.iload_n (q := 26) C dX10_readFor_25 rfl rfl ?_
  refine V.iconst (q := 27) (v := nI 1) C dX10_readFor_26 rfl (by decide) ?_
  refine V.callVi (q := 30) C me_X10_one (m_one (by omega)) ml_X10_86 dX10_readFor_27 rfl okM ⟨_, rfl⟩ rfl rfl (Nat.le_of_ble_eq_true rfl) (by omega) (Nat.zero_le _) (Nat.zero_le _) ?_
  refine V.ist (q := 31) (i := 2) C dX10_readFor_30 rfl okM_16 rfl rfl (by omega) (by decide) uM_names ?_
  try dsimp only
  refine V.aload_n (q := 32) C dX10_readFor_31 rfl rfl ?_
  refine V.get (q := 35) C fl_X10_33 dX10_readFor_32 rfl okM rfl rfl ?_
  refine V.iconst (q := 36) (v := nI 3) C dX10_readFor_35 rfl (by decide) ?_
  refine V.iload_n (q := 37) C dX10_readFor_36 rfl rfl ?_
  refine V.ist (q := 38) (i := 3) C dX10_readFor_37 rfl okM_16 rfl rfl (by omega) (by decide) uM_names ?_
  try dsimp only
  refine V.aload_n (q := 39) C dX10_readFor_38 rfl rfl ?_
  refine V.get (q := 42) C fl_X10_33 dX10_readFor_39 rfl okM rfl rfl ?_
  refine V.iconst (q := 43) (v := nI 4) C dX10_readFor_42 rfl (by decide) ?_
  refine V.aload_n (q := 44) C dX10_readFor_43 rfl rfl ?_
  refine V.iload_n (q := 45) C dX10_readFor_44 rfl rfl ?_
  refine V.iconst (q := 46) (v := nI 2) C dX10_readFor_45 rfl (by decide) ?_
  refine V.callVi (q := 49) C me_X10_one (m_one (by omega)) ml_X10_86 dX10_readFor_46 rfl okM ⟨_, rfl⟩ rfl rfl (Nat.le_of_ble_eq_true rfl) (by omega) (Nat.zero_le _) (Nat.zero_le _) ?_
  refine V.bipush (q := 51) (v := nI 10) C dX10_readFor_49 rfl (by decide) ?_
  refine V.idiv (q := 52) C dX10_readFor_51 rfl (by decide) ?_
  refine V.ist (q := 53) (i := 4) C dX10_readFor_52 rfl okM_16 rfl rfl (by omega) (by decide) uM_names ?_
  try dsimp only
  refine V.aload_n (q := 54) C dX10_readFor_53 rfl rfl ?_
  refine V.get (q := 57) C fl_X10_33 dX10_readFor_54 rfl okM rfl rfl ?_
  refine V.iconst (q := 58) (v := nI 5) C dX10_readFor_57 rfl (by decide) ?_
  refine V.aload_n (q := 59) C dX10_readFor_58 rfl rfl ?_
  refine V.get (q := 62) C fl_X10_9 dX10_readFor_59 rfl okM rfl rfl ?_
  refine V.bipush (q := 64) (v := nI 80) C dX10_readFor_62 rfl (by decide) ?_
  refine V.ild (q := 65) (i := 80) C dX10_readFor_64 rfl okM_0 rfl rfl (by omega) (by decide) ?_
  try dsimp only
  refine V.bipush (q := 67) (v := nI 10) C dX10_readFor_65 rfl (by decide) ?_
  refine V.irem (q := 68) C dX10_readFor_67 rfl (by decide) ?_
  refine V.ist (q := 69) (i := 5) C dX10_readFor_68 rfl okM_16 rfl rfl (by omega) (by decide) uM_names ?_
  try dsimp only
  refine V.ph (hM_names (Nm1 := namF now i s) (fun j hj => by obtain rfl | rfl | rfl | rfl | rfl | rfl := (show j = 0 ∨ j = 1 ∨ j = 2 ∨ j = 3 ∨ j = 4 ∨ j = 5 by omega) <;> rfl)) ?_
  refine V.aload_n (q := 70) C dX10_readFor_69 rfl rfl ?_
  refine V.get (q := 73) C fl_X10_9 dX10_readFor_70 rfl okM rfl rfl ?_
  refine V.bipush (q := 75) (v := nI 81) C dX10_readFor_73 rfl (by decide) ?_
  refine V.ild (q := 76) (i := 81) C dX10_readFor_75 rfl okM_0 rfl rfl (by omega) (by decide) ?_
  try dsimp only
  refine V.topi (x1 := nI (ρ)) e81 ?_
  refine V.if_ne (q := 79) (tgt := 97) C dX10_readFor_76 rfl rfl (fun hb76 => ?_) (fun hb76 => ?_)
  · obtain ⟨p, rfl⟩ : ∃ p, ρ = p + 1 := ⟨ρ - 1, by have h9 : ρ ≠ 0 := (fun q => hb76 (by rw [q]; rfl)); omega⟩
    obtain ⟨n, hn, ez⟩ := hz.resolve_left (by omega)
    refine V.aload_n (q := 98) C dX10_readFor_97 rfl rfl ?_
    refine V.get (q := 101) C fl_X10_9 dX10_readFor_98 rfl okM rfl rfl ?_
    refine V.bipush (q := 103) (v := nI 81) C dX10_readFor_101 rfl (by decide) ?_
    refine V.ild (q := 104) (i := 81) C dX10_readFor_103 rfl okM_0 rfl rfl (by omega) (by decide) ?_
    try dsimp only
    refine V.topi (x1 := nI (p + 1)) e81 ?_
    refine V.iconst (q := 105) (v := nI 1) C dX10_readFor_104 rfl (by decide) ?_
    refine V.isub (q := 106) C dX10_readFor_105 rfl ?_
    refine V.topi (x1 := nI p) (pk_sub (by omega)) ?_
    refine V.istore_n (q := 107) C dX10_readFor_106 rfl (by decide) rfl rfl ?_
    refine V.aload_n (q := 108) C dX10_readFor_107 rfl rfl ?_
    refine V.aload_n (q := 109) C dX10_readFor_108 rfl rfl ?_
    refine V.get (q := 112) C fl_X10_27 dX10_readFor_109 rfl okM rfl rfl ?_
    refine V.iload_n (q := 113) C dX10_readFor_112 rfl rfl ?_
    refine V.ild (q := 114) (i := p) C dX10_readFor_113 rfl okM_7 rfl rfl (by omega) (by decide) ?_
    try dsimp only
    refine V.topi (x1 := nI (n)) ez ?_
    refine V.put (q := 117) C fl_X10_130 rfl dX10_readFor_114 rfl okM rfl (Nat.le_of_ble_eq_true rfl) rfl rfl uM_size ?_
    try dsimp only
    refine V.iconst (q := 118) (v := nI 0) C dX10_readFor_117 rfl (by decide) ?_
    refine V.istore (q := 120) C dX10_readFor_118 rfl (by decide) rfl rfl ?_
    refine V.ph (PH1 := (jn X (hM g now mind th tx ((mix 0 (rulT tx.2.2.1 p) T0), nI n, x1, x2, nI d, S, Rb, (namF now i s), cv, hu) tr tp))) (by rw [mix_0]) ?_
    refine m_readFor_l (by omega) hn C ?_ n 0 (by omega)
    refine V.aload_n (q := 155) C dX10_readFor_154 rfl rfl ?_
    refine V.callVi (q := 158) C me_X10_readAll (m_readAll (i := i) (by omega) rfl hn) ml_X10_172 dX10_readFor_155 rfl okM ⟨_, rfl⟩ rfl rfl (Nat.le_of_ble_eq_true rfl) (by omega) (Nat.zero_le _) (Nat.zero_le _) ?_
    refine V.pop (q := 159) C dX10_readFor_158 rfl rfl ?_
    exact V.vreturn C dX10_readFor_159 ⟨(mix n (rulT tx.2.2.1 p) T0, nI n, nI (raP (mix n (rulT tx.2.2.1 p) T0) n (namF now i s) (now (9 * i + 2) / nI 5) d).2.1, b2i ((raP (mix n (rulT tx.2.2.1 p) T0) n (namF now i s) (now (9 * i + 2) / nI 5) d).1 = true), (raP (mix n (rulT tx.2.2.1 p) T0) n (namF now i s) (now (9 * i + 2) / nI 5) d).2.2.2.2.2, (raP (mix n (rulT tx.2.2.1 p) T0) n (namF now i s) (now (9 * i + 2) / nI 5) d).2.2.2.1, (raP (mix n (rulT tx.2.2.1 p) T0) n (namF now i s) (now (9 * i + 2) / nI 5) d).2.2.2.2.1, namF now i s), (m_readFor_v e81 ez hn), rfl, rfl, rfl⟩
  · obtain rfl : ρ = 0 := (nI_eq (by omega) (by omega)).mp hb76
    refine V.aload_n (q := 80) C dX10_readFor_79 rfl rfl ?_
    refine V.aload_n (q := 81) C dX10_readFor_80 rfl rfl ?_
    refine V.iload_n (q := 82) C dX10_readFor_81 rfl rfl ?_
    refine V.iconst (q := 83) (v := nI 2) C dX10_readFor_82 rfl (by decide) ?_
    refine V.callVi (q := 86) C me_X10_one (m_one (by omega)) ml_X10_86 dX10_readFor_83 rfl okM ⟨_, rfl⟩ rfl rfl (Nat.le_of_ble_eq_true rfl) (by omega) (Nat.zero_le _) (Nat.zero_le _) ?_
    refine V.iconst (q := 87) (v := nI 5) C dX10_readFor_86 rfl (by decide) ?_
    refine V.idiv (q := 88) C dX10_readFor_87 rfl (by decide) ?_
    refine V.put (q := 91) C fl_X10_166 rfl dX10_readFor_88 rfl okM rfl (Nat.le_of_ble_eq_true rfl) rfl rfl uM_sum ?_
    try dsimp only
    refine V.aload_n (q := 92) C dX10_readFor_91 rfl rfl ?_
    refine V.iconst (q := 93) (v := nI 3) C dX10_readFor_92 rfl (by decide) ?_
    refine V.put (q := 96) C fl_X10_163 rfl dX10_readFor_93 rfl okM rfl (Nat.le_of_ble_eq_true rfl) rfl rfl uM_rub ?_
    try dsimp only
    exact V.vreturn C dX10_readFor_96 ⟨(T0, x0, x1, x2, d, now (9 * i + 2) / nI 5, nI 3, namF now i s), (by unfold evR; rw [if_pos (show now 81 = nI 0 by rw [e81])]), rfl, rfl, rfl⟩
theorem m_rubNow {l : Launch} {g : GG} {X : PHp} {now mind : I1} {th : I1 × Int32} {tx : TXt} {q : SC} {cv hu : I1} {tr : I1 × Int32} {tp : TPt} (hR : RuI tx.2.2.2.1 now) : Ct l g yX10_rubNow cX10_rubNow 1 (some .int) 23 0 0 [rf g (22, 0, 0)] NN (jn X (hM g now mind th tx (zS q cv hu) tr tp)) (xI (fun _ : SC => True) (fun _ => ruR tx.2.2.1 tx.2.2.2.1 now) (fun q1 => (jn X (hM g now mind th tx (zS q1 cv hu) tr tp)))) := by
  refine Ct.of (lv := [some (rf g (22, 0, 0))]) (by decide +kernel) rfl (Nat.le_of_ble_eq_true rfl) ?_
  intro Γ C
  refine V.aload_n (q := 1) C dX10_rubNow_0 rfl rfl ?_
  refine V.iconst (q := 2) (v := nI 0) C dX10_rubNow_1 rfl (by decide) ?_
  refine V.iconst (q := 3) (v := nI 0) C dX10_rubNow_2 rfl (by decide) ?_
  refine V.callVxv (q := 6) C me_X10_readFor (m_readFor (by omega) hR) ml_X10_178 dX10_rubNow_3 rfl okM ⟨_, rfl⟩ rfl rfl (Nat.le_of_ble_eq_true rfl) (by omega) (Nat.zero_le _) (Nat.zero_le _) (fun zz hzz => ?_)
  obtain ⟨T1, y0, y1, y2, d1, S1, Rb1, Nm1⟩ := zz
  try dsimp only
  dsimp only at hzz
  dsimp only [zS]
  refine V.aload_n (q := 7) C dX10_rubNow_6 rfl rfl ?_
  refine V.get (q := 10) C fl_X10_163 dX10_rubNow_7 rfl okM rfl rfl ?_
  try dsimp only
  exact V.ireturn C dX10_rubNow_10 ⟨(T1, y0, y1, y2, d1, S1, Rb1, Nm1), trivial, congrArg (fun x : Int32 × Int32 => some (Value.int x.2)) hzz, rfl, rfl⟩
theorem m_guard {l : Launch} {g : GG} {X : PHp} {now mind : I1} {th : I1 × Int32} {tx : TXt} {q : SC} {cv hu : I1} {tr : I1 × Int32} {tp : TPt} {i s : Nat} (hi : i < 6) (hs : s < 8) (hR : RuI tx.2.2.2.1 now) : Ct l g yX10_guard cX10_guard 5 (some .int) 23 0 0 [rf g (22, 0, 0), .int (nI i), .int (nI s)] NN (jn X (hM g now mind th tx (zS q cv hu) tr tp)) (xI (fun _ : SC => True) (fun _ => (guR tx.2.2.1 tx.2.2.2.1 now i s)) (fun q1 => (jn X (hM g now mind th tx (zS q1 cv hu) tr tp)))) := by
  refine Ct.of (lv := [some (rf g (22, 0, 0)), some (.int (nI i)), some (.int (nI s)), none, none]) (by decide +kernel) rfl (Nat.le_of_ble_eq_true rfl) ?_
  intro Γ C
  refine V.aload_n (q := 1) C dX10_guard_0 rfl rfl ?_
  refine V.iload_n (q := 2) C dX10_guard_1 rfl rfl ?_
  refine V.iload_n (q := 3) C dX10_guard_2 rfl rfl ?_
  refine V.callVxv (q := 6) C me_X10_readFor (m_readFor (by omega) hR) ml_X10_178 dX10_guard_3 rfl okM ⟨_, rfl⟩ rfl rfl (Nat.le_of_ble_eq_true rfl) (by omega) (Nat.zero_le _) (Nat.zero_le _) (fun zz hzz => ?_)
  obtain ⟨T1, y0, y1, y2, d1, S1, Rb1, Nm1⟩ := zz
  try dsimp only
  dsimp only at hzz
  dsimp only [zS]
  refine V.aload_n (q := 7) C dX10_guard_6 rfl rfl ?_
  refine V.get (q := 10) C fl_X10_166 dX10_guard_7 rfl okM rfl rfl ?_
  try dsimp only
  refine V.aload_n (q := 11) C dX10_guard_10 rfl rfl ?_
  refine V.iload_n (q := 12) C dX10_guard_11 rfl rfl ?_
  refine V.iconst (q := 13) (v := nI 1) C dX10_guard_12 rfl (by decide) ?_
  refine V.callVi (q := 16) C me_X10_one (m_one (by omega)) ml_X10_86 dX10_guard_13 rfl okM ⟨_, rfl⟩ rfl rfl (Nat.le_of_ble_eq_true rfl) (by omega) (Nat.zero_le _) (Nat.zero_le _) ?_
  refine V.iadd (q := 17) C dX10_guard_16 rfl ?_
  refine V.istore_n (q := 18) C dX10_guard_17 rfl (by decide) rfl rfl ?_
  refine V.aload_n (q := 19) C dX10_guard_18 rfl rfl ?_
  refine V.get (q := 22) C fl_X10_166 dX10_guard_19 rfl okM rfl rfl ?_
  try dsimp only
  refine V.bipush (q := 24) (v := nI 9) C dX10_guard_22 rfl (by decide) ?_
  refine V.aload_n (q := 25) C dX10_guard_24 rfl rfl ?_
  refine V.iload_n (q := 26) C dX10_guard_25 rfl rfl ?_
  refine V.iconst (q := 27) (v := nI 3) C dX10_guard_26 rfl (by decide) ?_
  refine V.callVi (q := 30) C me_X10_one (m_one (by omega)) ml_X10_86 dX10_guard_27 rfl okM ⟨_, rfl⟩ rfl rfl (Nat.le_of_ble_eq_true rfl) (by omega) (Nat.zero_le _) (Nat.zero_le _) ?_
  refine V.iconst (q := 31) (v := nI 5) C dX10_guard_30 rfl (by decide) ?_
  refine V.idiv (q := 32) C dX10_guard_31 rfl (by decide) ?_
  refine V.min (q := 35) C dX10_guard_32 (tb_at 969 (by decide +kernel) rfl) rfl ?_
  refine V.iadd (q := 36) C dX10_guard_35 rfl ?_
  refine V.istore (q := 38) C dX10_guard_36 rfl (by decide) rfl rfl ?_
  refine V.aload_n (q := 39) C dX10_guard_38 rfl rfl ?_
  refine V.iload_n (q := 40) C dX10_guard_39 rfl rfl ?_
  refine V.iconst (q := 41) (v := nI 0) C dX10_guard_40 rfl (by decide) ?_
  refine V.callVi (q := 44) C me_X10_one (m_one (by omega)) ml_X10_86 dX10_guard_41 rfl okM ⟨_, rfl⟩ rfl rfl (Nat.le_of_ble_eq_true rfl) (by omega) (Nat.zero_le _) (Nat.zero_le _) ?_
  refine V.tsw (lo := 1) (N := 6) (tgt := 141) C dX10_guard_44 (by decide) (by decide) rfl (fun k hk hx44 => ?_) (fun hx44 => ?_)
  · obtain rfl | rfl | rfl | rfl | rfl | rfl := (show k = 0 ∨ k = 1 ∨ k = 2 ∨ k = 3 ∨ k = 4 ∨ k = 5 by omega)
    · refine ⟨_, 84, rfl, rfl, ?_⟩
      replace hx44 : _ = nI 1 := hx44
      refine V.iload_n (q := 85) C dX10_guard_84 rfl rfl ?_
      exact V.ireturn C dX10_guard_85 ⟨(T1, y0, y1, y2, d1, S1, Rb1, Nm1), trivial, congrArg (fun x : Int32 => some (Value.int x)) (by rw [guR, gd1 hx44, ← hzz] <;> rfl), rfl, rfl⟩
    · refine ⟨_, 86, rfl, rfl, ?_⟩
      replace hx44 : _ = nI 2 := hx44
      refine V.aload_n (q := 87) C dX10_guard_86 rfl rfl ?_
      refine V.get (q := 90) C fl_X10_166 dX10_guard_87 rfl okM rfl rfl ?_
      try dsimp only
      refine V.iconst (q := 91) (v := nI 2) C dX10_guard_90 rfl (by decide) ?_
      refine V.idiv (q := 92) C dX10_guard_91 rfl (by decide) ?_
      exact V.ireturn C dX10_guard_92 ⟨(T1, y0, y1, y2, d1, S1, Rb1, Nm1), trivial, congrArg (fun x : Int32 => some (Value.int x)) (by rw [guR, gd2 hx44, ← hzz] <;> rfl), rfl, rfl⟩
    · refine ⟨_, 93, rfl, rfl, ?_⟩
      replace hx44 : _ = nI 3 := hx44
      refine V.iload (q := 95) C dX10_guard_93 rfl rfl ?_
      exact V.ireturn C dX10_guard_95 ⟨(T1, y0, y1, y2, d1, S1, Rb1, Nm1), trivial, congrArg (fun x : Int32 => some (Value.int x)) (by rw [guR, gd3 hx44, ← hzz] <;> rfl), rfl, rfl⟩
    · refine ⟨_, 96, rfl, rfl, ?_⟩
      replace hx44 : _ = nI 4 := hx44
      refine V.aload_n (q := 97) C dX10_guard_96 rfl rfl ?_
      refine V.iload_n (q := 98) C dX10_guard_97 rfl rfl ?_
      refine V.iconst (q := 99) (v := nI 2) C dX10_guard_98 rfl (by decide) ?_
      refine V.callVi (q := 102) C me_X10_one (m_one (by omega)) ml_X10_86 dX10_guard_99 rfl okM ⟨_, rfl⟩ rfl rfl (Nat.le_of_ble_eq_true rfl) (by omega) (Nat.zero_le _) (Nat.zero_le _) ?_
      refine V.bipush (q := 104) (v := nI 50) C dX10_guard_102 rfl (by decide) ?_
      refine V.icmp_lt (q := 107) (tgt := 113) C dX10_guard_104 rfl rfl (fun hb104 => ?_) (fun hb104 => ?_)
      · rw [show guR tx.2.2.1 tx.2.2.2.1 now i s = (evR tx.2.2.1 tx.2.2.2.1 now i (nI s)).1 + now (9 * i + 1) from (gd4 hx44).trans (if_pos hb104)]
        refine V.iload_n (q := 114) C dX10_guard_113 rfl rfl ?_
        exact V.ireturn C dX10_guard_114 ⟨(T1, y0, y1, y2, d1, S1, Rb1, Nm1), trivial, by rw [← hzz], rfl, rfl⟩
      · rw [show guR tx.2.2.1 tx.2.2.2.1 now i s = nI 2 * ((evR tx.2.2.1 tx.2.2.2.1 now i (nI s)).1 + now (9 * i + 1)) from (gd4 hx44).trans (if_neg hb104)]
        refine V.iconst (q := 108) (v := nI 2) C dX10_guard_107 rfl (by decide) ?_
        refine V.iload_n (q := 109) C dX10_guard_108 rfl rfl ?_
        refine V.imul (q := 110) C dX10_guard_109 rfl ?_
        refine V.goto (tgt := 114) C dX10_guard_110 rfl ?_
        exact V.ireturn C dX10_guard_114 ⟨(T1, y0, y1, y2, d1, S1, Rb1, Nm1), trivial, by rw [← hzz], rfl, rfl⟩
    · refine ⟨_, 115, rfl, rfl, ?_⟩
      replace hx44 : _ = nI 5 := hx44
      refine V.aload_n (q := 116) C dX10_guard_115 rfl rfl ?_
      refine V.get (q := 119) C fl_X10_166 dX10_guard_116 rfl okM rfl rfl ?_
      try dsimp only
      refine V.iconst (q := 120) (v := nI 2) C dX10_guard_119 rfl (by decide) ?_
      refine V.idiv (q := 121) C dX10_guard_120 rfl (by decide) ?_
      refine V.bipush (q := 123) (v := nI 10) C dX10_guard_121 rfl (by decide) ?_
      refine V.iadd (q := 124) C dX10_guard_123 rfl ?_
      exact V.ireturn C dX10_guard_124 ⟨(T1, y0, y1, y2, d1, S1, Rb1, Nm1), trivial, congrArg (fun x : Int32 => some (Value.int x)) (by rw [guR, gd5 hx44, ← hzz] <;> rfl), rfl, rfl⟩
    · refine ⟨_, 125, rfl, rfl, ?_⟩
      replace hx44 : _ = nI 6 := hx44
      refine V.iload (q := 127) C dX10_guard_125 rfl rfl ?_
      refine V.aload_n (q := 128) C dX10_guard_127 rfl rfl ?_
      refine V.iload_n (q := 129) C dX10_guard_128 rfl rfl ?_
      refine V.iconst (q := 130) (v := nI 5) C dX10_guard_129 rfl (by decide) ?_
      refine V.iload_n (q := 131) C dX10_guard_130 rfl rfl ?_
      refine V.iconst (q := 132) (v := nI 4) C dX10_guard_131 rfl (by decide) ?_
      refine V.irem (q := 133) C dX10_guard_132 rfl (by decide) ?_
      refine V.topi (x1 := nI (s % 4)) (by rw [pk_rem (by omega) (by omega) (by omega)]) ?_
      refine V.iadd (q := 134) C dX10_guard_133 rfl ?_
      refine V.topi (x1 := nI (5 + (s % 4))) (nI_add _ _) ?_
      refine V.callVi (q := 137) C me_X10_one (m_one (by omega)) ml_X10_86 dX10_guard_134 rfl okM ⟨_, rfl⟩ rfl rfl (Nat.le_of_ble_eq_true rfl) (by omega) (Nat.zero_le _) (Nat.zero_le _) ?_
      refine V.iadd (q := 138) C dX10_guard_137 rfl ?_
      refine V.iconst (q := 139) (v := nI 4) C dX10_guard_138 rfl (by decide) ?_
      refine V.isub (q := 140) C dX10_guard_139 rfl ?_
      exact V.ireturn C dX10_guard_140 ⟨(T1, y0, y1, y2, d1, S1, Rb1, Nm1), trivial, congrArg (fun x : Int32 => some (Value.int x)) (by rw [guR, gd6 hx44, ← hzz] <;> rfl), rfl, rfl⟩
  · refine V.aload_n (q := 142) C dX10_guard_141 rfl rfl ?_
    refine V.get (q := 145) C fl_X10_166 dX10_guard_142 rfl okM rfl rfl ?_
    try dsimp only
    exact V.ireturn C dX10_guard_145 ⟨(T1, y0, y1, y2, d1, S1, Rb1, Nm1), trivial, congrArg (fun x : Int32 => some (Value.int x)) (by rw [guR, gd0 hx44, ← hzz] <;> rfl), rfl, rfl⟩
theorem m_isStriking {l : Launch} {g : GG} {X : PHp} {now mind : I1} {th : I1 × Int32} {tx : TXt} {z : Zt} {tr : I1 × Int32} {tp : TPt} {s : Nat} (hs : s < 8) (he : ¬ now (54 + 3 * s + 1) = 0) : Ct l g yX10_isStriking cX10_isStriking 2 (some .boolean) 2 0 0 [rf g (22, 0, 0), .int (nI s)] NN (jn X (hM g now mind th tx z tr tp)) (pI (b2i (stB now s = true)) (jn X (hM g now mind th tx z tr tp))) := by
  refine Ct.of (lv := [some (rf g (22, 0, 0)), some (.int (nI s))]) (by decide +kernel) rfl (Nat.le_of_ble_eq_true rfl) ?_
  intro Γ C
  refine V.aload_n (q := 1) C dX10_isStriking_0 rfl rfl ?_
  refine V.iload_n (q := 2) C dX10_isStriking_1 rfl rfl ?_
  refine V.iconst (q := 3) (v := nI 2) C dX10_isStriking_2 rfl (by decide) ?_
  refine V.callVi (q := 6) C me_X10_word (m_word (by omega)) ml_X10_90 dX10_isStriking_3 rfl okM ⟨_, rfl⟩ rfl rfl (Nat.le_of_ble_eq_true rfl) (by omega) (Nat.zero_le _) (Nat.zero_le _) ?_
  refine V.iconst (q := 7) (v := -1) C dX10_isStriking_6 rfl (by decide) ?_
  refine V.icmp_eq (q := 10) (tgt := 31) C dX10_isStriking_7 rfl rfl (fun hb7 => ?_) (fun hb7 => ?_)
  · refine V.iconst (q := 32) (v := nI 0) C dX10_isStriking_31 rfl (by decide) ?_
    exact V.zreturn C dX10_isStriking_32 rfl ⟨congrArg (fun x => some (Value.int x)) (b2i_f (fun q => (stB_of q).1 hb7)).symm, rfl, rfl⟩
  · refine V.aload_n (q := 11) C dX10_isStriking_10 rfl rfl ?_
    refine V.get (q := 14) C fl_X10_9 dX10_isStriking_11 rfl okM rfl rfl ?_
    refine V.bipush (q := 16) (v := nI 80) C dX10_isStriking_14 rfl (by decide) ?_
    refine V.ild (q := 17) (i := 80) C dX10_isStriking_16 rfl okM_0 rfl rfl (by omega) (by decide) ?_
    refine V.aload_n (q := 18) C dX10_isStriking_17 rfl rfl ?_
    refine V.iload_n (q := 19) C dX10_isStriking_18 rfl rfl ?_
    refine V.iconst (q := 20) (v := nI 1) C dX10_isStriking_19 rfl (by decide) ?_
    refine V.callVi (q := 23) C me_X10_word (m_word (by omega)) ml_X10_90 dX10_isStriking_20 rfl okM ⟨_, rfl⟩ rfl rfl (Nat.le_of_ble_eq_true rfl) (by omega) (Nat.zero_le _) (Nat.zero_le _) ?_
    refine V.irem (q := 24) C dX10_isStriking_23 rfl he ?_
    refine V.if_ne (q := 27) (tgt := 31) C dX10_isStriking_24 rfl rfl (fun hb24 => ?_) (fun hb24 => ?_)
    · refine V.iconst (q := 32) (v := nI 0) C dX10_isStriking_31 rfl (by decide) ?_
      exact V.zreturn C dX10_isStriking_32 rfl ⟨congrArg (fun x => some (Value.int x)) (b2i_f (fun q => hb24 (stB_of q).2)).symm, rfl, rfl⟩
    · refine V.iconst (q := 28) (v := nI 1) C dX10_isStriking_27 rfl (by decide) ?_
      refine V.goto (tgt := 32) C dX10_isStriking_28 rfl ?_
      exact V.zreturn C dX10_isStriking_32 rfl ⟨congrArg (fun x => some (Value.int x)) (b2i_t (stB_t hb7 (hb24 : _ = (0 : Int32)))).symm, rfl, rfl⟩
theorem m_strikes {l : Launch} {g : GG} {X : PHp} {now mind : I1} {th : I1 × Int32} {tx : TXt} {q : SC} {cv hu : I1} {tr : I1 × Int32} {tp : TPt} {s i : Nat} {rub : Int32} (hs : s < 8) (hi : i < 6) (ht : now (54 + 3 * s + 2) = nI i) (hR : RuI tx.2.2.2.1 now) : Ct l g yX10_strikes cX10_strikes 5 none 24 0 0 [rf g (22, 0, 0), .int (nI s), .int rub] NN (jn X (hM g now mind th tx (zS q cv hu) tr tp)) (xV (fun _ : SC => True) (fun q1 => (jn X (hM g (skA tx.2.2.1 tx.2.2.2.1 rub now s i) mind th tx (zS q1 cv hu) tr tp)))) := by
  refine Ct.of (lv := [some (rf g (22, 0, 0)), some (.int (nI s)), some (.int rub), none, none]) (by decide +kernel) rfl (Nat.le_of_ble_eq_true rfl) ?_
  intro Γ C
  refine V.aload_n (q := 1) C dX10_strikes_0 rfl rfl ?_
  refine V.iload_n (q := 2) C dX10_strikes_1 rfl rfl ?_
  refine V.iconst (q := 3) (v := nI 2) C dX10_strikes_2 rfl (by decide) ?_
  refine V.callVi (q := 6) C me_X10_word (m_word (by omega)) ml_X10_90 dX10_strikes_3 rfl okM ⟨_, rfl⟩ rfl rfl (Nat.le_of_ble_eq_true rfl) (by omega) (Nat.zero_le _) (Nat.zero_le _) ?_
  refine V.topi (x1 := nI (i)) ht ?_
  refine V.istore_n (q := 7) C dX10_strikes_6 rfl (by decide) rfl rfl ?_
  refine V.iconst (q := 8) (v := nI 0) C dX10_strikes_7 rfl (by decide) ?_
  refine V.bipush (q := 10) (v := nI 99) C dX10_strikes_8 rfl (by decide) ?_
  refine V.aload_n (q := 11) C dX10_strikes_10 rfl rfl ?_
  refine V.iload_n (q := 12) C dX10_strikes_11 rfl rfl ?_
  refine V.iconst (q := 13) (v := nI 0) C dX10_strikes_12 rfl (by decide) ?_
  refine V.callVi (q := 16) C me_X10_word (m_word (by omega)) ml_X10_90 dX10_strikes_13 rfl okM ⟨_, rfl⟩ rfl rfl (Nat.le_of_ble_eq_true rfl) (by omega) (Nat.zero_le _) (Nat.zero_le _) ?_
  refine V.aload_n (q := 17) C dX10_strikes_16 rfl rfl ?_
  refine V.iload_n (q := 18) C dX10_strikes_17 rfl rfl ?_
  refine V.iload_n (q := 19) C dX10_strikes_18 rfl rfl ?_
  refine V.callVxi (q := 22) C me_X10_guard (m_guard (by omega) (by omega) hR) ml_X10_111 dX10_strikes_19 rfl okM ⟨_, rfl⟩ rfl rfl (Nat.le_of_ble_eq_true rfl) (by omega) (Nat.zero_le _) (Nat.zero_le _) (fun q1 _ => ?_)
  refine V.isub (q := 23) C dX10_strikes_22 rfl ?_
  refine V.min (q := 26) C dX10_strikes_23 (tb_at 969 (by decide +kernel) rfl) rfl ?_
  refine V.max (q := 29) C dX10_strikes_26 (tb_at 970 (by decide +kernel) rfl) rfl ?_
  refine V.istore (q := 31) C dX10_strikes_29 rfl (by decide) rfl rfl ?_
  refine V.aload_n (q := 32) C dX10_strikes_31 rfl rfl ?_
  refine V.iload_n (q := 33) C dX10_strikes_32 rfl rfl ?_
  refine V.iconst (q := 34) (v := nI 4) C dX10_strikes_33 rfl (by decide) ?_
  refine V.sipush (q := 37) (v := nI 9999) C dX10_strikes_34 rfl (by decide) ?_
  refine V.aload_n (q := 38) C dX10_strikes_37 rfl rfl ?_
  refine V.iload_n (q := 39) C dX10_strikes_38 rfl rfl ?_
  refine V.iconst (q := 40) (v := nI 4) C dX10_strikes_39 rfl (by decide) ?_
  refine V.callVi (q := 43) C me_X10_one (m_one (by omega)) ml_X10_86 dX10_strikes_40 rfl okM ⟨_, rfl⟩ rfl rfl (Nat.le_of_ble_eq_true rfl) (by omega) (Nat.zero_le _) (Nat.zero_le _) ?_
  refine V.iload (q := 45) C dX10_strikes_43 rfl rfl ?_
  refine V.iadd (q := 46) C dX10_strikes_45 rfl ?_
  refine V.min (q := 49) C dX10_strikes_46 (tb_at 969 (by decide +kernel) rfl) rfl ?_
  refine V.callVi (q := 52) C me_X10_change (m_change (by omega)) ml_X10_93 dX10_strikes_49 rfl okM ⟨_, rfl⟩ rfl rfl (Nat.le_of_ble_eq_true rfl) (by omega) (Nat.zero_le _) (Nat.zero_le _) ?_
  refine V.pop (q := 53) C dX10_strikes_52 rfl rfl ?_
  refine V.aload_n (q := 54) C dX10_strikes_53 rfl rfl ?_
  refine V.iload_n (q := 55) C dX10_strikes_54 rfl rfl ?_
  refine V.iconst (q := 56) (v := nI 3) C dX10_strikes_55 rfl (by decide) ?_
  refine V.sipush (q := 59) (v := nI 9999) C dX10_strikes_56 rfl (by decide) ?_
  refine V.aload_n (q := 60) C dX10_strikes_59 rfl rfl ?_
  refine V.iload_n (q := 61) C dX10_strikes_60 rfl rfl ?_
  refine V.iconst (q := 62) (v := nI 3) C dX10_strikes_61 rfl (by decide) ?_
  refine V.callVi (q := 65) C me_X10_one (m_one (by omega)) ml_X10_86 dX10_strikes_62 rfl okM ⟨_, rfl⟩ rfl rfl (Nat.le_of_ble_eq_true rfl) (by omega) (Nat.zero_le _) (Nat.zero_le _) ?_
  refine V.iconst (q := 66) (v := nI 1) C dX10_strikes_65 rfl (by decide) ?_
  refine V.iadd (q := 67) C dX10_strikes_66 rfl ?_
  refine V.min (q := 70) C dX10_strikes_67 (tb_at 969 (by decide +kernel) rfl) rfl ?_
  refine V.callVi (q := 73) C me_X10_change (m_change (by omega)) ml_X10_93 dX10_strikes_70 rfl okM ⟨_, rfl⟩ rfl rfl (Nat.le_of_ble_eq_true rfl) (by omega) (Nat.zero_le _) (Nat.zero_le _) ?_
  refine V.pop (q := 74) C dX10_strikes_73 rfl rfl ?_
  refine V.aload_n (q := 75) C dX10_strikes_74 rfl rfl ?_
  refine V.iload_n (q := 76) C dX10_strikes_75 rfl rfl ?_
  refine V.iconst (q := 77) (v := nI 2) C dX10_strikes_76 rfl (by decide) ?_
  refine V.iconst (q := 78) (v := nI 0) C dX10_strikes_77 rfl (by decide) ?_
  refine V.aload_n (q := 79) C dX10_strikes_78 rfl rfl ?_
  refine V.iload_n (q := 80) C dX10_strikes_79 rfl rfl ?_
  refine V.iconst (q := 81) (v := nI 2) C dX10_strikes_80 rfl (by decide) ?_
  refine V.callVi (q := 84) C me_X10_one (m_one (by omega)) ml_X10_86 dX10_strikes_81 rfl okM ⟨_, rfl⟩ rfl rfl (Nat.le_of_ble_eq_true rfl) (by omega) (Nat.zero_le _) (Nat.zero_le _) ?_
  refine V.iload_n (q := 85) C dX10_strikes_84 rfl rfl ?_
  refine V.isub (q := 86) C dX10_strikes_85 rfl ?_
  refine V.max (q := 89) C dX10_strikes_86 (tb_at 970 (by decide +kernel) rfl) rfl ?_
  refine V.callVi (q := 92) C me_X10_change (m_change (by omega)) ml_X10_93 dX10_strikes_89 rfl okM ⟨_, rfl⟩ rfl rfl (Nat.le_of_ble_eq_true rfl) (by omega) (Nat.zero_le _) (Nat.zero_le _) ?_
  refine V.pop (q := 93) C dX10_strikes_92 rfl rfl ?_
  exact V.vreturn C dX10_strikes_93 ⟨q1, trivial, rfl, rfl, rfl⟩
theorem m_day_l {l : Launch} {g : GG} {X : PHp} {now mind : I1} {th : I1 × Int32} {tx : TXt} {cv hu : I1} {tr : I1 × Int32} {tp : TPt} {Γ : Cxt} {Q : State → Prop} {rub : Int32} {n m : Nat} (hW : WI now n m) (hR : RuI tx.2.2.2.1 now) (C : Cx Γ g cX10_day yX10_day 3 none 25 0 0) (kx : ∀ q : SC, V l Γ g 3 Q 0 0 NN (jn X (hM g (dyL tx.2.2.1 tx.2.2.2.1 rub m now) mind th tx (zS q cv hu) tr tp)) 38 [some (rf g (22, 0, 0)), some (.int rub), some (.int (nI m))] []) : ∀ (k j : Nat) (q : SC), j + k = m → V l Γ g 3 Q 0 0 NN (jn X (hM g (dyL tx.2.2.1 tx.2.2.2.1 rub j now) mind th tx (zS q cv hu) tr tp)) 7 [some (rf g (22, 0, 0)), some (.int rub), some (.int (nI j))] [] := by
  have h6 := hW.2.1
  have h8 := hW.2.2.2.1
  intro k
  induction k with
  | zero =>
    intro j q hj
    obtain rfl : j = m := by omega
    have hB : WI (dyL tx.2.2.1 tx.2.2.2.1 rub j now) n j := WI_hi (fun k hk _ => dyL_hi hW j (by omega) k hk) hW
    refine V.iload_n (q := 8) C dX10_day_7 rfl rfl ?_
    refine V.aload_n (q := 9) C dX10_day_8 rfl rfl ?_
    refine V.get (q := 12) C fl_X10_9 dX10_day_9 rfl okM rfl rfl ?_
    refine V.bipush (q := 14) (v := nI 79) C dX10_day_12 rfl (by decide) ?_
    refine V.ild (q := 15) (i := 79) C dX10_day_14 rfl okM_0 rfl rfl (by omega) (by decide) ?_
    refine V.topi (x1 := nI (j)) hB.2.2.1 ?_
    refine V.icmp_ge (q := 18) (tgt := 38) C dX10_day_15 rfl rfl (fun hb15 => ?_) (fun hb15 => ?_)
    · exact kx q
    · exact absurd ((nI_leI (by omega) (by omega)).mpr (by omega)) hb15
  | succ k ih =>
    intro j q hj
    have hB : WI (dyL tx.2.2.1 tx.2.2.2.1 rub j now) n m := WI_hi (fun k hk _ => dyL_hi hW j (by omega) k hk) hW
    have hR2 : RuI tx.2.2.2.1 (dyL tx.2.2.1 tx.2.2.2.1 rub j now) := RuI_hi (dyL_hi hW j (by omega) 81 (by omega)) hR
    have he := hB.2.2.2.2.1 j (by omega)
    refine V.iload_n (q := 8) C dX10_day_7 rfl rfl ?_
    refine V.aload_n (q := 9) C dX10_day_8 rfl rfl ?_
    refine V.get (q := 12) C fl_X10_9 dX10_day_9 rfl okM rfl rfl ?_
    refine V.bipush (q := 14) (v := nI 79) C dX10_day_12 rfl (by decide) ?_
    refine V.ild (q := 15) (i := 79) C dX10_day_14 rfl okM_0 rfl rfl (by omega) (by decide) ?_
    refine V.topi (x1 := nI (m)) hB.2.2.1 ?_
    refine V.icmp_ge (q := 18) (tgt := 38) C dX10_day_15 rfl rfl (fun hb15 => ?_) (fun hb15 => ?_)
    · exact absurd ((nI_leI (by omega) (by omega)).mp hb15) (by omega)
    · refine V.aload_n (q := 19) C dX10_day_18 rfl rfl ?_
      refine V.iload_n (q := 20) C dX10_day_19 rfl rfl ?_
      refine V.callVi (q := 23) C me_X10_isStriking (m_isStriking (by omega) he) ml_X10_193 dX10_day_20 rfl okM ⟨_, rfl⟩ rfl rfl (Nat.le_of_ble_eq_true rfl) (by omega) (Nat.zero_le _) (Nat.zero_le _) ?_
      refine V.if_eqB (q := 26) (tgt := 32) C dX10_day_23 rfl rfl (fun hb23 => ?_) (fun hb23 => ?_)
      · have e9 : (dyL tx.2.2.1 tx.2.2.2.1 rub (j + 1) now) = (dyL tx.2.2.1 tx.2.2.2.1 rub j now) := if_neg hb23
        refine V.iinc (q := 35) (v := nI (j + 1)) C dX10_day_32 rfl rfl (nI_1 _) (by decide) rfl rfl ?_
        refine V.goto (tgt := 7) C dX10_day_35 rfl ?_
        have h9 := ih (j + 1) q (by omega)
        rw [e9] at h9
        exact h9
      · obtain ⟨i, hi, ht⟩ := (hB.2.2.2.2.2 j (by omega)).resolve_left (stB_of hb23).1
        refine V.aload_n (q := 27) C dX10_day_26 rfl rfl ?_
        refine V.iload_n (q := 28) C dX10_day_27 rfl rfl ?_
        refine V.iload_n (q := 29) C dX10_day_28 rfl rfl ?_
        refine V.callVxv (q := 32) C me_X10_strikes (m_strikes (by omega) (show i < 6 by omega) ht hR2) ml_X10_196 dX10_day_29 rfl okM ⟨_, rfl⟩ rfl rfl (Nat.le_of_ble_eq_true rfl) (by omega) (Nat.zero_le _) (Nat.zero_le _) (fun q1 _ => ?_)
        have e9 : (dyL tx.2.2.1 tx.2.2.2.1 rub (j + 1) now) = skA tx.2.2.1 tx.2.2.2.1 rub (dyL tx.2.2.1 tx.2.2.2.1 rub j now) j i := (if_pos hb23).trans (by show skA _ _ _ (dyL tx.2.2.1 tx.2.2.2.1 rub j now) j (ix ((dyL tx.2.2.1 tx.2.2.2.1 rub j now) (54 + 3 * j + 2))) = _; rw [ht, ix_nI (by omega)])
        refine V.iinc (q := 35) (v := nI (j + 1)) C dX10_day_32 rfl rfl (nI_1 _) (by decide) rfl rfl ?_
        refine V.goto (tgt := 7) C dX10_day_35 rfl ?_
        have h9 := ih (j + 1) q1 (by omega)
        rw [e9] at h9
        exact h9
theorem m_day {l : Launch} {g : GG} {X : PHp} {now mind : I1} {th : I1 × Int32} {tx : TXt} {q : SC} {cv hu : I1} {tr : I1 × Int32} {tp : TPt} {n m : Nat} (hW : WI now n m) (hR : RuI tx.2.2.2.1 now) : Ct l g yX10_day cX10_day 3 none 25 0 0 [rf g (22, 0, 0)] NN (jn X (hM g now mind th tx (zS q cv hu) tr tp)) (xV (fun _ : SC => True) (fun q1 => (jn X (hM g (dyA tx.2.2.1 tx.2.2.2.1 m now) mind th tx (zS q1 cv hu) tr tp)))) := by
  refine Ct.of (lv := [some (rf g (22, 0, 0)), none, none]) (by decide +kernel) rfl (Nat.le_of_ble_eq_true rfl) ?_
  intro Γ C
  refine V.aload_n (q := 1) C dX10_day_0 rfl rfl ?_
  refine V.callVxi (q := 4) C me_X10_rubNow (m_rubNow hR) ml_X10_190 dX10_day_1 rfl okM ⟨_, rfl⟩ rfl rfl (Nat.le_of_ble_eq_true rfl) (by omega) (Nat.zero_le _) (Nat.zero_le _) (fun q1 _ => ?_)
  refine V.istore_n (q := 5) C dX10_day_4 rfl (by decide) rfl rfl ?_
  refine V.iconst (q := 6) (v := nI 0) C dX10_day_5 rfl (by decide) ?_
  refine V.istore_n (q := 7) C dX10_day_6 rfl (by decide) rfl rfl ?_
  refine m_day_l hW hR C ?_ m 0 q1 (by omega)
  intro q2
  refine V.aload_n (q := 39) C dX10_day_38 rfl rfl ?_
  refine V.get (q := 42) C fl_X10_9 dX10_day_39 rfl okM rfl rfl ?_
  refine V.bipush (q := 44) (v := nI 80) C dX10_day_42 rfl (by decide) ?_
  refine V.dup2 (q := 45) C dX10_day_44 rfl rfl rfl ?_
  refine V.ild (q := 46) (i := 80) C dX10_day_45 rfl okM_0 rfl rfl (by omega) (by decide) ?_
  refine V.iconst (q := 47) (v := nI 1) C dX10_day_46 rfl (by decide) ?_
  refine V.iadd (q := 48) C dX10_day_47 rfl ?_
  refine V.ist (q := 49) (i := 80) C dX10_day_48 rfl okM_0 rfl rfl (by omega) (by decide) uM_now ?_
  exact V.vreturn C dX10_day_49 ⟨q2, trivial, rfl, rfl, rfl⟩
theorem m_days_l {l : Launch} {g : GG} {X : PHp} {now mind : I1} {th : I1 × Int32} {tx : TXt} {cv hu : I1} {tr : I1 × Int32} {tp : TPt} {Γ : Cxt} {Q : State → Prop} {n m k0 : Nat} (hk0 : k0 ≤ 60) (hW : WI now n m) (hR : RuI tx.2.2.2.1 now) (C : Cx Γ g cX10_days yX10_days 3 none 26 0 0) (kx : ∀ q : SC, V l Γ g 3 Q 0 0 NN (jn X (hM g (dsA tx.2.2.1 tx.2.2.2.1 m k0 now) mind th tx (zS q cv hu) tr tp)) 17 [some (rf g (22, 0, 0)), some (.int (nI k0)), some (.int (nI k0))] []) : ∀ (k j : Nat) (q : SC), j + k = k0 → V l Γ g 3 Q 0 0 NN (jn X (hM g (dsA tx.2.2.1 tx.2.2.2.1 m j now) mind th tx (zS q cv hu) tr tp)) 2 [some (rf g (22, 0, 0)), some (.int (nI k0)), some (.int (nI j))] [] := by
  intro k
  induction k with
  | zero =>
    intro j q hj
    obtain rfl : j = k0 := by omega
    refine V.iload_n (q := 3) C dX10_days_2 rfl rfl ?_
    refine V.iload_n (q := 4) C dX10_days_3 rfl rfl ?_
    refine V.icmp_ge (q := 7) (tgt := 17) C dX10_days_4 rfl rfl (fun hb4 => ?_) (fun hb4 => ?_)
    · exact kx q
    · exact absurd ((nI_leI (by omega) (by omega)).mpr (by omega)) hb4
  | succ k ih =>
    intro j q hj
    have hB : WI (dsA tx.2.2.1 tx.2.2.2.1 m j now) n m := dsA_W hW
    have hR2 : RuI tx.2.2.2.1 (dsA tx.2.2.1 tx.2.2.2.1 m j now) := RuI_hi (dsA_hi hW j 81 (by omega) (by omega)) hR
    refine V.iload_n (q := 3) C dX10_days_2 rfl rfl ?_
    refine V.iload_n (q := 4) C dX10_days_3 rfl rfl ?_
    refine V.icmp_ge (q := 7) (tgt := 17) C dX10_days_4 rfl rfl (fun hb4 => ?_) (fun hb4 => ?_)
    · exact absurd ((nI_leI (by omega) (by omega)).mp hb4) (by omega)
    · refine V.aload_n (q := 8) C dX10_days_7 rfl rfl ?_
      refine V.callVxv (q := 11) C me_X10_day (m_day hB hR2) ml_X10_199 dX10_days_8 rfl okM ⟨_, rfl⟩ rfl rfl (Nat.le_of_ble_eq_true rfl) (by omega) (Nat.zero_le _) (Nat.zero_le _) (fun q1 _ => ?_)
      refine V.iinc (q := 14) (v := nI (j + 1)) C dX10_days_11 rfl rfl (nI_1 _) (by decide) rfl rfl ?_
      refine V.goto (tgt := 2) C dX10_days_14 rfl ?_
      exact ih (j + 1) q1 (by omega)
theorem m_days {l : Launch} {g : GG} {X : PHp} {now mind : I1} {th : I1 × Int32} {tx : TXt} {q : SC} {cv hu : I1} {tr : I1 × Int32} {tp : TPt} {n m k0 : Nat} (hk0 : k0 ≤ 60) (hW : WI now n m) (hR : RuI tx.2.2.2.1 now) : Ct l g yX10_days cX10_days 3 none 26 0 0 [rf g (22, 0, 0), .int (nI k0)] NN (jn X (hM g now mind th tx (zS q cv hu) tr tp)) (xV (fun _ : SC => True) (fun q1 => (jn X (hM g (dsA tx.2.2.1 tx.2.2.2.1 m k0 now) mind th tx (zS q1 cv hu) tr tp)))) := by
  refine Ct.of (lv := [some (rf g (22, 0, 0)), some (.int (nI k0)), none]) (by decide +kernel) rfl (Nat.le_of_ble_eq_true rfl) ?_
  intro Γ C
  refine V.iconst (q := 1) (v := nI 0) C dX10_days_0 rfl (by decide) ?_
  refine V.istore_n (q := 2) C dX10_days_1 rfl (by decide) rfl rfl ?_
  refine m_days_l hk0 hW hR C ?_ k0 0 q (by omega)
  intro q2
  exact V.vreturn C dX10_days_17 ⟨q2, trivial, rfl, rfl, rfl⟩
theorem m_all_l {l : Launch} {g : GG} {X : PHp} {now mind : I1} {th : I1 × Int32} {tx : TXt} {z : Zt} {tr : I1 × Int32} {tp : TPt} {Γ : Cxt} {Q : State → Prop} {n w : Nat} (hn : now 78 = nI n) (hn6 : n ≤ 6) (hw : w < 9) (C : Cx Γ g cX10_all yX10_all 4 (some .int) 3 0 0) (kx : V l Γ g 4 Q 0 0 NN (jn X (hM g now mind th tx z tr tp)) 30 [some (rf g (22, 0, 0)), some (.int (nI w)), some (.int (alR now w n)), some (.int (nI n))] []) : ∀ k j : Nat, j + k = n → V l Γ g 4 Q 0 0 NN (jn X (hM g now mind th tx z tr tp)) 4 [some (rf g (22, 0, 0)), some (.int (nI w)), some (.int (alR now w j)), some (.int (nI j))] [] := by
  intro k
  induction k with
  | zero =>
    intro j hj
    obtain rfl : n = j := by omega
    refine V.iload_n (q := 5) C dX10_all_4 rfl rfl ?_
    refine V.aload_n (q := 6) C dX10_all_5 rfl rfl ?_
    refine V.get (q := 9) C fl_X10_9 dX10_all_6 rfl okM rfl rfl ?_
    refine V.bipush (q := 11) (v := nI 78) C dX10_all_9 rfl (by decide) ?_
    refine V.ild (q := 12) (i := 78) C dX10_all_11 rfl okM_0 rfl rfl (by omega) (by decide) ?_
    refine V.topi (x1 := nI (n)) hn ?_
    refine V.icmp_ge (q := 15) (tgt := 30) C dX10_all_12 rfl rfl (fun hb12 => ?_) (fun hb12 => ?_)
    · exact kx
    · exact absurd ((nI_leI (by omega) (by omega)).mpr (by omega)) hb12
  | succ k ih =>
    intro j hj
    refine V.iload_n (q := 5) C dX10_all_4 rfl rfl ?_
    refine V.aload_n (q := 6) C dX10_all_5 rfl rfl ?_
    refine V.get (q := 9) C fl_X10_9 dX10_all_6 rfl okM rfl rfl ?_
    refine V.bipush (q := 11) (v := nI 78) C dX10_all_9 rfl (by decide) ?_
    refine V.ild (q := 12) (i := 78) C dX10_all_11 rfl okM_0 rfl rfl (by omega) (by decide) ?_
    refine V.topi (x1 := nI (n)) hn ?_
    refine V.icmp_ge (q := 15) (tgt := 30) C dX10_all_12 rfl rfl (fun hb12 => ?_) (fun hb12 => ?_)
    · exact absurd ((nI_leI (by omega) (by omega)).mp hb12) (by omega)
    · refine V.iload_n (q := 16) C dX10_all_15 rfl rfl ?_
      refine V.aload_n (q := 17) C dX10_all_16 rfl rfl ?_
      refine V.iload_n (q := 18) C dX10_all_17 rfl rfl ?_
      refine V.iload_n (q := 19) C dX10_all_18 rfl rfl ?_
      refine V.callVi (q := 22) C me_X10_one (m_one (by omega)) ml_X10_86 dX10_all_19 rfl okM ⟨_, rfl⟩ rfl rfl (Nat.le_of_ble_eq_true rfl) (by omega) (Nat.zero_le _) (Nat.zero_le _) ?_
      refine V.iadd (q := 23) C dX10_all_22 rfl ?_
      refine V.istore_n (q := 24) C dX10_all_23 rfl (by decide) rfl rfl ?_
      refine V.iinc (q := 27) (v := nI (j + 1)) C dX10_all_24 rfl rfl (nI_1 _) (by decide) rfl rfl ?_
      refine V.goto (tgt := 4) C dX10_all_27 rfl ?_
      exact ih (j + 1) (by omega)
theorem m_all {l : Launch} {g : GG} {X : PHp} {now mind : I1} {th : I1 × Int32} {tx : TXt} {z : Zt} {tr : I1 × Int32} {tp : TPt} {n w : Nat} (hn : now 78 = nI n) (hn6 : n ≤ 6) (hw : w < 9) : Ct l g yX10_all cX10_all 4 (some .int) 3 0 0 [rf g (22, 0, 0), .int (nI w)] NN (jn X (hM g now mind th tx z tr tp)) (pI (alR now w n) (jn X (hM g now mind th tx z tr tp))) := by
  refine Ct.of (lv := [some (rf g (22, 0, 0)), some (.int (nI w)), none, none]) (by decide +kernel) rfl (Nat.le_of_ble_eq_true rfl) ?_
  intro Γ C
  refine V.iconst (q := 1) (v := nI 0) C dX10_all_0 rfl (by decide) ?_
  refine V.istore_n (q := 2) C dX10_all_1 rfl (by decide) rfl rfl ?_
  refine V.iconst (q := 3) (v := nI 0) C dX10_all_2 rfl (by decide) ?_
  refine V.istore_n (q := 4) C dX10_all_3 rfl (by decide) rfl rfl ?_
  refine m_all_l hn hn6 hw C ?_ n 0 (by omega)
  refine V.iload_n (q := 31) C dX10_all_30 rfl rfl ?_
  exact V.ireturn C dX10_all_31 ⟨rfl, rfl, rfl⟩
