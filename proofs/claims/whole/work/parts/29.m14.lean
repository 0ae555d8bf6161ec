def putI (G : I1) (b : Nat) (F : I1) (j : Nat) : I1 := fun q => if b ≤ q ∧ q < b + j then F (q - b) else G q
theorem putI_0 {F G : I1} {b : Nat} : putI G b F 0 = G := by funext q; exact if_neg (by omega)
theorem putI_s {F G : I1} {b j : Nat} : upd (putI G b F j) (b + j) (F j) = putI G b F (j + 1) := by
  funext q
  simp only [upd, putI]
  by_cases e : q = b + j
  · subst e; rw [if_pos rfl, if_pos (by omega), Nat.add_sub_cancel_left]
  · rw [if_neg e]
    by_cases e2 : b ≤ q ∧ q < b + j
    · rw [if_pos e2, if_pos (by omega)]
    · rw [if_neg e2, if_neg (by omega)]
def cityR (text : I1) (t r : Nat) : Int32 := if r = 6 then -4 else if okP (rcP text t) t = true then nI r else -10 - nI (rcP text t).2.1
def cityA (A text : I1) (t r : Nat) : I1 := if r = 6 then A else if okP (rcP text t) t = true then upd A 81 (nI (r + 1)) else A
def cityX (text rules sizes : I1) (t r : Nat) : TXt := if r = 6 then (text, nI t, rules, sizes, nI r) else if okP (rcP text t) t = true then (text, nI 0, putI rules (100 * r) text t, upd sizes r (nI t), nI (r + 1)) else (text, nI 0, rules, sizes, nI r)
theorem m_city_a {l : Launch} {g : GG} {X : PHp} {now mind : I1} {th : I1 × Int32} {text rules sizes : I1} {t r : Nat} {T0 : I1} {x1 x2 : Int32} {d : Nat} {S Rb : Int32} {Nm : I1} {cv hu : I1} {tr : I1 × Int32} {tp : TPt} {Γ : Cxt} {Q : State → Prop} (ht : t ≤ 100) (C : Cx Γ g cX10_city yX10_city 2 (some .int) 22 0 0) (kx : V l Γ g 2 Q 0 0 NN (jn X (hM g now mind th (text, nI t, rules, sizes, nI r) ((mix t text T0), nI t, x1, x2, nI d, S, Rb, Nm, cv, hu) tr tp)) 48 [some (rf g (22, 0, 0)), some (.int (nI t))] []) : ∀ k j : Nat, j + k = t → V l Γ g 2 Q 0 0 NN (jn X (hM g now mind th (text, nI t, rules, sizes, nI r) ((mix j text T0), nI t, x1, x2, nI d, S, Rb, Nm, cv, hu) tr tp)) 22 [some (rf g (22, 0, 0)), some (.int (nI j))] [] := by
  intro k
  induction k with
  | zero =>
    intro j hj
    obtain rfl : t = j := by omega
    refine V.iload_n (q := 23) C dX10_city_22 rfl rfl ?_
    refine V.aload_n (q := 24) C dX10_city_23 rfl rfl ?_
    refine V.get (q := 27) C fl_X10_130 dX10_city_24 rfl okM rfl rfl ?_
    try dsimp only
    refine V.icmp_ge (q := 30) (tgt := 48) C dX10_city_27 rfl rfl (fun hb27 => ?_) (fun hb27 => ?_)
    · exact kx
    · exact absurd ((nI_leI (by omega) (by omega)).mpr (by omega)) hb27
  | succ k ih =>
    intro j hj
    refine V.iload_n (q := 23) C dX10_city_22 rfl rfl ?_
    refine V.aload_n (q := 24) C dX10_city_23 rfl rfl ?_
    refine V.get (q := 27) C fl_X10_130 dX10_city_24 rfl okM rfl rfl ?_
    try dsimp only
    refine V.icmp_ge (q := 30) (tgt := 48) C dX10_city_27 rfl rfl (fun hb27 => ?_) (fun hb27 => ?_)
    · exact absurd ((nI_leI (by omega) (by omega)).mp hb27) (by omega)
    · refine V.aload_n (q := 31) C dX10_city_30 rfl rfl ?_
      refine V.get (q := 34) C fl_X10_30 dX10_city_31 rfl okM rfl rfl ?_
      refine V.iload_n (q := 35) C dX10_city_34 rfl rfl ?_
      refine V.aload_n (q := 36) C dX10_city_35 rfl rfl ?_
      refine V.get (q := 39) C fl_X10_21 dX10_city_36 rfl okM rfl rfl ?_
      refine V.iload_n (q := 40) C dX10_city_39 rfl rfl ?_
      refine V.ild (q := 41) (i := j) C dX10_city_40 rfl okM_4 rfl rfl (by omega) (by decide) ?_
      try dsimp only
      refine V.ist (q := 42) (i := j) C dX10_city_41 rfl okM_9 rfl rfl (by omega) (by decide) uM_read ?_
      try dsimp only
      refine V.ph (PH1 := (jn X (hM g now mind th (text, nI t, rules, sizes, nI r) ((mix (j + 1) text T0), nI t, x1, x2, nI d, S, Rb, Nm, cv, hu) tr tp))) (by rw [← mix_s]) ?_
      refine V.iinc (q := 45) (v := nI (j + 1)) C dX10_city_42 rfl rfl (nI_1 _) (by decide) rfl rfl ?_
      refine V.goto (tgt := 22) C dX10_city_45 rfl ?_
      exact ih (j + 1) (by omega)
theorem m_city_b {l : Launch} {g : GG} {X : PHp} {now mind : I1} {th : I1 × Int32} {text rules sizes : I1} {t r : Nat} {T0 : I1} {x1 x2 : Int32} {d : Nat} {S Rb : Int32} {Nm : I1} {cv hu : I1} {tr : I1 × Int32} {tp : TPt} {Γ : Cxt} {Q : State → Prop} (ht : t ≤ 100) (hr : r < 6) (C : Cx Γ g cX10_city yX10_city 2 (some .int) 22 0 0) (kx : V l Γ g 2 Q 0 0 NN (jn X (hM g now mind th (text, nI 0, putI rules (100 * r) text t, sizes, nI r) (mix t text T0, nI t, x1, x2, nI d, S, Rb, Nm, cv, hu) tr tp)) 111 [some (rf g (22, 0, 0)), some (.int (nI t))] []) : ∀ k j : Nat, j + k = t → V l Γ g 2 Q 0 0 NN (jn X (hM g now mind th (text, nI 0, putI rules (100 * r) text j, sizes, nI r) (mix t text T0, nI t, x1, x2, nI d, S, Rb, Nm, cv, hu) tr tp)) 77 [some (rf g (22, 0, 0)), some (.int (nI j))] [] := by
  intro k
  induction k with
  | zero =>
    intro j hj
    obtain rfl : t = j := by omega
    refine V.iload_n (q := 78) C dX10_city_77 rfl rfl ?_
    refine V.aload_n (q := 79) C dX10_city_78 rfl rfl ?_
    refine V.get (q := 82) C fl_X10_130 dX10_city_79 rfl okM rfl rfl ?_
    try dsimp only
    refine V.icmp_ge (q := 85) (tgt := 111) C dX10_city_82 rfl rfl (fun hb82 => ?_) (fun hb82 => ?_)
    · exact kx
    · exact absurd ((nI_leI (by omega) (by omega)).mpr (by omega)) hb82
  | succ k ih =>
    intro j hj
    refine V.iload_n (q := 78) C dX10_city_77 rfl rfl ?_
    refine V.aload_n (q := 79) C dX10_city_78 rfl rfl ?_
    refine V.get (q := 82) C fl_X10_130 dX10_city_79 rfl okM rfl rfl ?_
    try dsimp only
    refine V.icmp_ge (q := 85) (tgt := 111) C dX10_city_82 rfl rfl (fun hb82 => ?_) (fun hb82 => ?_)
    · exact absurd ((nI_leI (by omega) (by omega)).mp hb82) (by omega)
    · refine V.aload_n (q := 86) C dX10_city_85 rfl rfl ?_
      refine V.get (q := 89) C fl_X10_24 dX10_city_86 rfl okM rfl rfl ?_
      refine V.bipush (q := 91) (v := nI 100) C dX10_city_89 rfl (by decide) ?_
      refine V.aload_n (q := 92) C dX10_city_91 rfl rfl ?_
      refine V.get (q := 95) C fl_X10_175 dX10_city_92 rfl okM rfl rfl ?_
      try dsimp only
      refine V.imul (q := 96) C dX10_city_95 rfl ?_
      refine V.topi (x1 := nI (100 * r)) (pk_mul _ _) ?_
      refine V.iload_n (q := 97) C dX10_city_96 rfl rfl ?_
      refine V.iadd (q := 98) C dX10_city_97 rfl ?_
      refine V.topi (x1 := nI ((100 * r) + j)) (nI_add _ _) ?_
      refine V.aload_n (q := 99) C dX10_city_98 rfl rfl ?_
      refine V.get (q := 102) C fl_X10_30 dX10_city_99 rfl okM rfl rfl ?_
      refine V.iload_n (q := 103) C dX10_city_102 rfl rfl ?_
      refine V.ild (q := 104) (i := j) C dX10_city_103 rfl okM_9 rfl rfl (by omega) (by decide) ?_
      try dsimp only
      refine V.topi (x1 := text j) (if_pos (by omega)) ?_
      refine V.ist (q := 105) (i := ((100 * r) + j)) C dX10_city_104 rfl okM_6 rfl rfl (by omega) (by decide) uM_rules ?_
      try dsimp only
      refine V.ph (PH1 := (jn X (hM g now mind th (text, nI 0, putI rules (100 * r) text (j + 1), sizes, nI r) (mix t text T0, nI t, x1, x2, nI d, S, Rb, Nm, cv, hu) tr tp))) (by rw [← putI_s]) ?_
      refine V.iinc (q := 108) (v := nI (j + 1)) C dX10_city_105 rfl rfl (nI_1 _) (by decide) rfl rfl ?_
      refine V.goto (tgt := 77) C dX10_city_108 rfl ?_
      exact ih (j + 1) (by omega)
theorem m_city {l : Launch} {g : GG} {X : PHp} {now mind : I1} {th : I1 × Int32} {text rules sizes : I1} {t r : Nat} {T0 : I1} {x0 x1 x2 : Int32} {d : Nat} {S Rb : Int32} {Nm : I1} {cv hu : I1} {tr : I1 × Int32} {tp : TPt} (ht : t ≤ 100) (hr : r ≤ 6) : Ct l g yX10_city cX10_city 2 (some .int) 22 0 0 [rf g (22, 0, 0)] NN (jn X (hM g now mind th (text, nI t, rules, sizes, nI r) (T0, x0, x1, x2, nI d, S, Rb, Nm, cv, hu) tr tp)) (xI (fun _ : SC => True) (fun _ => cityR text t r) (fun q1 => (jn X (hM g (cityA now text t r) mind th (cityX text rules sizes t r) (zS q1 cv hu) tr tp)))) := by
  refine Ct.of (lv := [some (rf g (22, 0, 0)), none]) (by decide +kernel) rfl (Nat.le_of_ble_eq_true rfl) ?_
  intro Γ C
  refine V.aload_n (q := 1) C dX10_city_0 rfl rfl ?_
  refine V.get (q := 4) C fl_X10_175 dX10_city_1 rfl okM rfl rfl ?_
  try dsimp only
  refine V.bipush (q := 6) (v := nI 6) C dX10_city_4 rfl (by decide) ?_
  refine V.icmp_ne (q := 9) (tgt := 12) C dX10_city_6 rfl rfl (fun hb6 => ?_) (fun hb6 => ?_)
  · replace hb6 : ¬ r = 6 := fun e => hb6 (by rw [e])
    refine V.aload_n (q := 13) C dX10_city_12 rfl rfl ?_
    refine V.aload_n (q := 14) C dX10_city_13 rfl rfl ?_
    refine V.get (q := 17) C fl_X10_120 dX10_city_14 rfl okM rfl rfl ?_
    try dsimp only
    refine V.put (q := 20) C fl_X10_130 rfl dX10_city_17 rfl okM rfl (Nat.le_of_ble_eq_true rfl) rfl rfl uM_size ?_
    try dsimp only
    refine V.iconst (q := 21) (v := nI 0) C dX10_city_20 rfl (by decide) ?_
    refine V.istore_n (q := 22) C dX10_city_21 rfl (by decide) rfl rfl ?_
    refine V.ph (PH1 := (jn X (hM g now mind th (text, nI t, rules, sizes, nI r) ((mix 0 text T0), nI t, x1, x2, nI d, S, Rb, Nm, cv, hu) tr tp))) (by rw [mix_0]) ?_
    refine m_city_a ht C ?_ t 0 (by omega)
    refine V.aload_n (q := 49) C dX10_city_48 rfl rfl ?_
    refine V.iconst (q := 50) (v := nI 0) C dX10_city_49 rfl (by decide) ?_
    refine V.put (q := 53) C fl_X10_120 rfl dX10_city_50 rfl okM rfl (Nat.le_of_ble_eq_true rfl) rfl rfl uM_texted ?_
    try dsimp only
    refine V.aload_n (q := 54) C dX10_city_53 rfl rfl ?_
    refine V.get (q := 57) C fl_X10_33 dX10_city_54 rfl okM rfl rfl ?_
    refine V.iconst (q := 58) (v := nI 0) C dX10_city_57 rfl (by decide) ?_
    refine V.iconst (q := 59) (v := nI 0) C dX10_city_58 rfl (by decide) ?_
    refine V.ist (q := 60) (i := 0) C dX10_city_59 rfl okM_16 rfl rfl (by omega) (by decide) uM_names ?_
    try dsimp only
    have e4 : p4 (raP (mix t text T0) t (upd Nm 0 (nI 0)) (now (9 * 0 + 2) / nI 5) d) = p4 (rcP text t) := by
      rw [show raP (mix t text T0) t = raP text t from ra_cg (fun k hk => if_pos hk)]
      exact ra_p4
    simp only [p4, Prod.mk.injEq] at e4
    have e21 := e4.2.1
    have hok : okP (raP (mix t text T0) t (upd Nm 0 (nI 0)) (now (9 * 0 + 2) / nI 5) d) t = okP (rcP text t) t := by simp only [okP, e4.1, e4.2.1]
    refine V.aload_n (q := 61) C dX10_city_60 rfl rfl ?_
    refine V.callVi (q := 64) C me_X10_readAll (m_readAll (i := 0) (by omega) rfl ht) ml_X10_172 dX10_city_61 rfl okM ⟨_, rfl⟩ rfl rfl (Nat.le_of_ble_eq_true rfl) (by omega) (Nat.zero_le _) (Nat.zero_le _) ?_
    refine V.if_neB (q := 67) (tgt := 75) C dX10_city_64 rfl rfl (fun hb64 => ?_) (fun hb64 => ?_)
    · refine V.iconst (q := 76) (v := nI 0) C dX10_city_75 rfl (by decide) ?_
      refine V.istore_n (q := 77) C dX10_city_76 rfl (by decide) rfl rfl ?_
      refine V.ph (PH1 := (jn X (hM g now mind th (text, nI 0, putI rules (100 * r) text 0, sizes, nI r) (mix t text T0, nI t, nI (raP (mix t text T0) t (upd Nm 0 (nI 0)) (now (9 * 0 + 2) / nI 5) d).2.1, b2i ((raP (mix t text T0) t (upd Nm 0 (nI 0)) (now (9 * 0 + 2) / nI 5) d).1 = true), nI (raP (mix t text T0) t (upd Nm 0 (nI 0)) (now (9 * 0 + 2) / nI 5) d).2.2.2.2.2, (raP (mix t text T0) t (upd Nm 0 (nI 0)) (now (9 * 0 + 2) / nI 5) d).2.2.2.1, (raP (mix t text T0) t (upd Nm 0 (nI 0)) (now (9 * 0 + 2) / nI 5) d).2.2.2.2.1, upd Nm 0 (nI 0), cv, hu) tr tp))) (by rw [putI_0]) ?_
      refine m_city_b ht (by omega) C ?_ t 0 (by omega)
      refine V.aload_n (q := 112) C dX10_city_111 rfl rfl ?_
      refine V.get (q := 115) C fl_X10_27 dX10_city_112 rfl okM rfl rfl ?_
      refine V.aload_n (q := 116) C dX10_city_115 rfl rfl ?_
      refine V.get (q := 119) C fl_X10_175 dX10_city_116 rfl okM rfl rfl ?_
      try dsimp only
      refine V.aload_n (q := 120) C dX10_city_119 rfl rfl ?_
      refine V.get (q := 123) C fl_X10_130 dX10_city_120 rfl okM rfl rfl ?_
      try dsimp only
      refine V.ist (q := 124) (i := r) C dX10_city_123 rfl okM_7 rfl rfl (by omega) (by decide) uM_sizes ?_
      try dsimp only
      refine V.aload_n (q := 125) C dX10_city_124 rfl rfl ?_
      refine V.dup (q := 126) C dX10_city_125 rfl rfl ?_
      refine V.get (q := 129) C fl_X10_175 dX10_city_126 rfl okM rfl rfl ?_
      try dsimp only
      refine V.iconst (q := 130) (v := nI 1) C dX10_city_129 rfl (by decide) ?_
      refine V.iadd (q := 131) C dX10_city_130 rfl ?_
      refine V.topi (x1 := nI (r + 1)) (nI_add _ _) ?_
      refine V.put (q := 134) C fl_X10_175 rfl dX10_city_131 rfl okM rfl (Nat.le_of_ble_eq_true rfl) rfl rfl uM_ruled ?_
      try dsimp only
      refine V.aload_n (q := 135) C dX10_city_134 rfl rfl ?_
      refine V.get (q := 138) C fl_X10_9 dX10_city_135 rfl okM rfl rfl ?_
      refine V.bipush (q := 140) (v := nI 81) C dX10_city_138 rfl (by decide) ?_
      refine V.aload_n (q := 141) C dX10_city_140 rfl rfl ?_
      refine V.get (q := 144) C fl_X10_175 dX10_city_141 rfl okM rfl rfl ?_
      try dsimp only
      refine V.ist (q := 145) (i := 81) C dX10_city_144 rfl okM_0 rfl rfl (by omega) (by decide) uM_now ?_
      try dsimp only
      refine V.aload_n (q := 146) C dX10_city_145 rfl rfl ?_
      refine V.get (q := 149) C fl_X10_175 dX10_city_146 rfl okM rfl rfl ?_
      try dsimp only
      refine V.iconst (q := 150) (v := nI 1) C dX10_city_149 rfl (by decide) ?_
      refine V.isub (q := 151) C dX10_city_150 rfl ?_
      refine V.topi (x1 := nI r) (pk_sub (by omega)) ?_
      exact V.ireturn C dX10_city_151 ⟨(mix t text T0, nI t, nI (raP (mix t text T0) t (upd Nm 0 (nI 0)) (now (9 * 0 + 2) / nI 5) d).2.1, b2i ((raP (mix t text T0) t (upd Nm 0 (nI 0)) (now (9 * 0 + 2) / nI 5) d).1 = true), (raP (mix t text T0) t (upd Nm 0 (nI 0)) (now (9 * 0 + 2) / nI 5) d).2.2.2.2.2, (raP (mix t text T0) t (upd Nm 0 (nI 0)) (now (9 * 0 + 2) / nI 5) d).2.2.2.1, (raP (mix t text T0) t (upd Nm 0 (nI 0)) (now (9 * 0 + 2) / nI 5) d).2.2.2.2.1, upd Nm 0 (nI 0)), trivial, by rw [cityR, if_neg hb6, if_pos (by rw [← hok]; exact hb64)], by rw [cityA, cityX, if_neg hb6, if_neg hb6, if_pos (by rw [← hok]; exact hb64), if_pos (by rw [← hok]; exact hb64)]; rfl, rfl⟩
    · refine V.bipush (q := 69) (v := -10) C dX10_city_67 rfl (by decide) ?_
      refine V.aload_n (q := 70) C dX10_city_69 rfl rfl ?_
      refine V.get (q := 73) C fl_X10_127 dX10_city_70 rfl okM rfl rfl ?_
      try dsimp only
      refine V.isub (q := 74) C dX10_city_73 rfl ?_
      exact V.ireturn C dX10_city_74 ⟨(mix t text T0, nI t, nI (raP (mix t text T0) t (upd Nm 0 (nI 0)) (now (9 * 0 + 2) / nI 5) d).2.1, b2i ((raP (mix t text T0) t (upd Nm 0 (nI 0)) (now (9 * 0 + 2) / nI 5) d).1 = true), (raP (mix t text T0) t (upd Nm 0 (nI 0)) (now (9 * 0 + 2) / nI 5) d).2.2.2.2.2, (raP (mix t text T0) t (upd Nm 0 (nI 0)) (now (9 * 0 + 2) / nI 5) d).2.2.2.1, (raP (mix t text T0) t (upd Nm 0 (nI 0)) (now (9 * 0 + 2) / nI 5) d).2.2.2.2.1, upd Nm 0 (nI 0)), trivial, by rw [cityR, if_neg hb6, if_neg (by rw [← hok]; exact hb64), ← e21], by rw [cityA, cityX, if_neg hb6, if_neg hb6, if_neg (by rw [← hok]; exact hb64), if_neg (by rw [← hok]; exact hb64)]; rfl, rfl⟩
  · replace hb6 : r = 6 := (nI_eq (by omega) (by omega)).mp hb6
    refine V.bipush (q := 11) (v := -4) C dX10_city_9 rfl (by decide) ?_
    exact V.ireturn C dX10_city_11 ⟨(T0, x0, x1, x2, d, S, Rb, Nm), trivial, by rw [cityR, if_pos hb6], by rw [cityA, cityX, if_pos hb6, if_pos hb6]; rfl, rfl⟩
