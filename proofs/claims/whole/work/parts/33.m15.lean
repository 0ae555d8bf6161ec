/-- the bodies that ran: those kept, how many -/
abbrev TS : Type := I1 × Nat
def bdy (b : Int32) (s : TS) : TS := (if s.2 < 20 then upd s.1 s.2 b else s.1, s.2 + 1)
theorem bdy_t {b : Int32} {s : TS} (h : s.2 < 20) : bdy b s = (upd s.1 s.2 b, s.2 + 1) := by rw [bdy, if_pos h]
theorem bdy_f {b : Int32} {s : TS} (h : ¬ s.2 < 20) : bdy b s = (s.1, s.2 + 1) := by rw [bdy, if_neg h]
def nodsB (i : Nat) (x : Int32) (s : TS) : Int32 × TS := (x + nI i, bdy (nI 10) s)
def nodsF (i : Nat) (v : Int32) (q : Nat) (x : Int32) (s : TS) : Int32 × TS :=
  if q = 2 ∨ q = 5 then nodsB i (x * nI 3) (bdy (nI 30) s)
  else if q = 4 then (-(nodsB i x (bdy (nI 50) s)).1, (nodsB i x (bdy (nI 50) s)).2)
  else if q = 6 then ((nodsB i x (bdy (nI 71) s)).1 ^^^ v, (nodsB i x (bdy (nI 71) s)).2)
  else nodsB i x s
def knocksB (i : Nat) (v : Int32) (K : Nat) (x : Int32) (s : TS) : Int32 × TS := ((nodsF i v K x (bdy (nI 11) s)).1 - v, (nodsF i v K x (bdy (nI 11) s)).2)
def knocks1 (i : Nat) (v : Int32) (K : Nat) (x : Int32) (s : TS) : Int32 × TS := ((knocksB i v K x (bdy (nI 20) s)).1 ^^^ nI 6, (knocksB i v K x (bdy (nI 20) s)).2)
def knocksF (i : Nat) (v : Int32) (K q : Nat) (x : Int32) (s : TS) : Int32 × TS :=
  if q = 1 then knocks1 i v K x s
  else if q = 4 then knocks1 i v K (x + nI 1) (bdy (nI 51) s)
  else if q = 6 then ((knocksB i v K x (bdy (nI 70) s)).1 + (nodsB i (nI 2) (knocksB i v K x (bdy (nI 70) s)).2).1, (nodsB i (nI 2) (knocksB i v K x (bdy (nI 70) s)).2).2)
  else knocksB i v K x s
def tellsB (i : Nat) (v : Int32) (K : Nat) (x : Int32) (s : TS) : Int32 × TS := ((knocksF i v K K x (bdy (nI 12) s)).1 * nI 2, (knocksF i v K K x (bdy (nI 12) s)).2)
def tellsF (i : Nat) (v : Int32) (K q : Nat) (x : Int32) (s : TS) : Int32 × TS :=
  if q = 3 ∨ q = 6 then ((tellsB i v K x (bdy (nI 40) s)).1 + (knocksF i v K K (nI 1) (tellsB i v K x (bdy (nI 40) s)).2).1, (knocksF i v K K (nI 1) (tellsB i v K x (bdy (nI 40) s)).2).2)
  else if q = 5 then tellsB i v K (x - nI i) (bdy (nI 60) s)
  else tellsB i v K x s
theorem bdy_n {b : Int32} {s : TS} : (bdy b s).2 = s.2 + 1 := rfl
theorem nodsF_n {i : Nat} {v : Int32} {q : Nat} {x : Int32} {s : TS} : (nodsF i v q x s).2.2 ≤ s.2 + 2 := by
  unfold nodsF nodsB
  split
  · exact Nat.le_refl _
  · split
    · exact Nat.le_refl _
    · split
      · exact Nat.le_refl _
      · exact Nat.le_succ _
theorem knocksB_n {i : Nat} {v : Int32} {K : Nat} {x : Int32} {s : TS} : (knocksB i v K x s).2.2 ≤ s.2 + 3 := Nat.le_trans nodsF_n (by rw [bdy_n]; omega)
theorem knocks1_n {i : Nat} {v : Int32} {K : Nat} {x : Int32} {s : TS} : (knocks1 i v K x s).2.2 ≤ s.2 + 4 := Nat.le_trans knocksB_n (by rw [bdy_n]; omega)
theorem knocksF_n {i : Nat} {v : Int32} {K q : Nat} {x : Int32} {s : TS} : (knocksF i v K q x s).2.2 ≤ s.2 + 5 := by
  unfold knocksF
  split
  · exact Nat.le_trans knocks1_n (by omega)
  · split
    · exact Nat.le_trans knocks1_n (by rw [bdy_n]; omega)
    · split
      · have h := knocksB_n (i := i) (v := v) (K := K) (x := x) (s := bdy (nI 70) s)
        rw [bdy_n] at h
        show (knocksB i v K x (bdy (nI 70) s)).2.2 + 1 ≤ _
        omega
      · exact Nat.le_trans knocksB_n (by omega)
theorem tellsB_n {i : Nat} {v : Int32} {K : Nat} {x : Int32} {s : TS} : (tellsB i v K x s).2.2 ≤ s.2 + 6 := Nat.le_trans knocksF_n (by rw [bdy_n]; omega)
theorem tellsF_n {i : Nat} {v : Int32} {K q : Nat} {x : Int32} {s : TS} : (tellsF i v K q x s).2.2 ≤ s.2 + 12 := by
  unfold tellsF
  split
  · have h := tellsB_n (i := i) (v := v) (K := K) (x := x) (s := bdy (nI 40) s)
    rw [bdy_n] at h
    exact Nat.le_trans knocksF_n (by omega)
  · split
    · exact Nat.le_trans tellsB_n (by rw [bdy_n]; omega)
    · exact Nat.le_trans tellsB_n (by omega)
theorem eq0_0 {i : Nat} {v x : Int32} {s : TS} : nodsF i v 0 x s = (x + nI i, bdy (nI 10) s) := by simp [nodsF, nodsB]
theorem eq0_1 {i : Nat} {v x : Int32} {s : TS} : nodsF i v 1 x s = (x + nI i, bdy (nI 10) s) := by simp [nodsF, nodsB]
theorem eq0_3 {i : Nat} {v x : Int32} {s : TS} : nodsF i v 3 x s = (x + nI i, bdy (nI 10) s) := by simp [nodsF, nodsB]
theorem eq0_2 {i : Nat} {v x : Int32} {s : TS} : nodsF i v 2 x s = nodsF i v 0 (x * nI 3) (bdy (nI 30) s) := by simp [nodsF, nodsB]
theorem eq0_5 {i : Nat} {v x : Int32} {s : TS} : nodsF i v 5 x s = nodsF i v 0 (x * nI 3) (bdy (nI 30) s) := by simp [nodsF, nodsB]
theorem eq0_4 {i : Nat} {v x : Int32} {s : TS} : nodsF i v 4 x s = (-(nodsF i v 1 x (bdy (nI 50) s)).1, (nodsF i v 1 x (bdy (nI 50) s)).2) := by simp [nodsF, nodsB]
theorem eq0_6 {i : Nat} {v x : Int32} {s : TS} : nodsF i v 6 x s = ((nodsF i v 3 x (bdy (nI 71) s)).1 ^^^ v, (nodsF i v 3 x (bdy (nI 71) s)).2) := by simp [nodsF, nodsB]
theorem eq1_0 {i K : Nat} {v x : Int32} {s : TS} : knocksF i v K 0 x s = ((nodsF i v K x (bdy (nI 11) s)).1 - v, (nodsF i v K x (bdy (nI 11) s)).2) := by simp [knocksF, knocks1, knocksB]
theorem eq1_2 {i K : Nat} {v x : Int32} {s : TS} : knocksF i v K 2 x s = ((nodsF i v K x (bdy (nI 11) s)).1 - v, (nodsF i v K x (bdy (nI 11) s)).2) := by simp [knocksF, knocks1, knocksB]
theorem eq1_3 {i K : Nat} {v x : Int32} {s : TS} : knocksF i v K 3 x s = ((nodsF i v K x (bdy (nI 11) s)).1 - v, (nodsF i v K x (bdy (nI 11) s)).2) := by simp [knocksF, knocks1, knocksB]
theorem eq1_5 {i K : Nat} {v x : Int32} {s : TS} : knocksF i v K 5 x s = ((nodsF i v K x (bdy (nI 11) s)).1 - v, (nodsF i v K x (bdy (nI 11) s)).2) := by simp [knocksF, knocks1, knocksB]
theorem eq1_1 {i K : Nat} {v x : Int32} {s : TS} : knocksF i v K 1 x s = ((knocksF i v K 0 x (bdy (nI 20) s)).1 ^^^ nI 6, (knocksF i v K 0 x (bdy (nI 20) s)).2) := by simp [knocksF, knocks1, knocksB]
theorem eq1_4 {i K : Nat} {v x : Int32} {s : TS} : knocksF i v K 4 x s = knocksF i v K 1 (x + nI 1) (bdy (nI 51) s) := by simp [knocksF, knocks1, knocksB]
theorem eq1_6 {i K : Nat} {v x : Int32} {s : TS} : knocksF i v K 6 x s = ((knocksF i v K 3 x (bdy (nI 70) s)).1 + (nodsF i v 3 (nI 2) (knocksF i v K 3 x (bdy (nI 70) s)).2).1, (nodsF i v 3 (nI 2) (knocksF i v K 3 x (bdy (nI 70) s)).2).2) := by simp [knocksF, knocks1, knocksB, nodsF]
theorem eq2_0 {i K : Nat} {v x : Int32} {s : TS} : tellsF i v K 0 x s = ((knocksF i v K K x (bdy (nI 12) s)).1 * nI 2, (knocksF i v K K x (bdy (nI 12) s)).2) := by simp [tellsF, tellsB]
theorem eq2_1 {i K : Nat} {v x : Int32} {s : TS} : tellsF i v K 1 x s = ((knocksF i v K K x (bdy (nI 12) s)).1 * nI 2, (knocksF i v K K x (bdy (nI 12) s)).2) := by simp [tellsF, tellsB]
theorem eq2_2 {i K : Nat} {v x : Int32} {s : TS} : tellsF i v K 2 x s = ((knocksF i v K K x (bdy (nI 12) s)).1 * nI 2, (knocksF i v K K x (bdy (nI 12) s)).2) := by simp [tellsF, tellsB]
theorem eq2_4 {i K : Nat} {v x : Int32} {s : TS} : tellsF i v K 4 x s = ((knocksF i v K K x (bdy (nI 12) s)).1 * nI 2, (knocksF i v K K x (bdy (nI 12) s)).2) := by simp [tellsF, tellsB]
theorem eq2_3 {i K : Nat} {v x : Int32} {s : TS} : tellsF i v K 3 x s = ((tellsF i v K 0 x (bdy (nI 40) s)).1 + (knocksF i v K K (nI 1) (tellsF i v K 0 x (bdy (nI 40) s)).2).1, (knocksF i v K K (nI 1) (tellsF i v K 0 x (bdy (nI 40) s)).2).2) := by simp [tellsF, tellsB]
theorem eq2_6 {i K : Nat} {v x : Int32} {s : TS} : tellsF i v K 6 x s = ((tellsF i v K 0 x (bdy (nI 40) s)).1 + (knocksF i v K K (nI 1) (tellsF i v K 0 x (bdy (nI 40) s)).2).1, (knocksF i v K K (nI 1) (tellsF i v K 0 x (bdy (nI 40) s)).2).2) := by simp [tellsF, tellsB]
theorem eq2_5 {i K : Nat} {v x : Int32} {s : TS} : tellsF i v K 5 x s = tellsF i v K 2 (x - nI i) (bdy (nI 60) s) := by simp [tellsF, tellsB]
theorem m_body {l : Launch} {g : GG} {X : PHp} {now mind : I1} {th : I1 × Int32} {tx : TXt} {z : Zt} {s : TS} {tp : TPt} {b : Int32} (hs : s.2 ≤ 960) : Ct l g yX10_body cX10_body 2 (some .int) 1 0 0 [rf g (22, 0, 0), .int b] NN (jn X (hM g now mind th tx z (s.1, nI s.2) tp)) (pI b (jn X (hM g now mind th tx z ((bdy b s).1, nI (bdy b s).2) tp))) := by
  refine Ct.of (lv := [some (rf g (22, 0, 0)), some (.int b)]) (by decide +kernel) rfl (Nat.le_of_ble_eq_true rfl) ?_
  intro Γ C
  refine V.aload_n (q := 1) C dX10_body_0 rfl rfl ?_
  refine V.get (q := 4) C fl_X10_249 dX10_body_1 rfl okM rfl rfl ?_
  try dsimp only
  refine V.bipush (q := 6) (v := nI 20) C dX10_body_4 rfl (by decide) ?_
  refine V.icmp_ge (q := 9) (tgt := 19) C dX10_body_6 rfl rfl (fun hb6 => ?_) (fun hb6 => ?_)
  · replace hb6 : ¬ s.2 < 20 := fun z => absurd ((nI_leI (by omega) (by omega)).mp hb6) (by omega)
    refine V.aload_n (q := 20) C dX10_body_19 rfl rfl ?_
    refine V.dup (q := 21) C dX10_body_20 rfl rfl ?_
    refine V.get (q := 24) C fl_X10_249 dX10_body_21 rfl okM rfl rfl ?_
    try dsimp only
    refine V.iconst (q := 25) (v := nI 1) C dX10_body_24 rfl (by decide) ?_
    refine V.iadd (q := 26) C dX10_body_25 rfl ?_
    refine V.topi (x1 := nI (s.2 + 1)) (nI_add _ _) ?_
    refine V.put (q := 29) C fl_X10_249 rfl dX10_body_26 rfl okM rfl (Nat.le_of_ble_eq_true rfl) rfl rfl uM_ran ?_
    try dsimp only
    refine V.iload_n (q := 30) C dX10_body_29 rfl rfl ?_
    exact V.ireturn C dX10_body_30 ⟨rfl, by rw [bdy_f hb6], rfl⟩
  · replace hb6 : s.2 < 20 := Nat.lt_of_not_le (fun z => hb6 ((nI_leI (by omega) (by omega)).mpr z))
    refine V.aload_n (q := 10) C dX10_body_9 rfl rfl ?_
    refine V.get (q := 13) C fl_X10_58 dX10_body_10 rfl okM rfl rfl ?_
    refine V.aload_n (q := 14) C dX10_body_13 rfl rfl ?_
    refine V.get (q := 17) C fl_X10_249 dX10_body_14 rfl okM rfl rfl ?_
    try dsimp only
    refine V.iload_n (q := 18) C dX10_body_17 rfl rfl ?_
    refine V.ist (q := 19) (i := s.2) C dX10_body_18 rfl okM_24 rfl rfl hb6 (by decide) uM_trace ?_
    try dsimp only
    refine V.aload_n (q := 20) C dX10_body_19 rfl rfl ?_
    refine V.dup (q := 21) C dX10_body_20 rfl rfl ?_
    refine V.get (q := 24) C fl_X10_249 dX10_body_21 rfl okM rfl rfl ?_
    try dsimp only
    refine V.iconst (q := 25) (v := nI 1) C dX10_body_24 rfl (by decide) ?_
    refine V.iadd (q := 26) C dX10_body_25 rfl ?_
    refine V.topi (x1 := nI (s.2 + 1)) (nI_add _ _) ?_
    refine V.put (q := 29) C fl_X10_249 rfl dX10_body_26 rfl okM rfl (Nat.le_of_ble_eq_true rfl) rfl rfl uM_ran ?_
    try dsimp only
    refine V.iload_n (q := 30) C dX10_body_29 rfl rfl ?_
    exact V.ireturn C dX10_body_30 ⟨rfl, by rw [bdy_t hb6], rfl⟩
theorem m_bk0_0 {l : Launch} {g : GG} {X : PHp} {now mind : I1} {th : I1 × Int32} {tx : TXt} {z : Zt} {s : TS} {tp : TPt} {lv i : Nat} {x : Int32} (hlv : 2 ≤ lv) (hi : i < 6) (hs : s.2 ≤ 956) : Ct l g yX10_byKind cX10_byKind 7 (some .int) lv 0 0 [rf g (22, 0, 0), .int (nI 0), .int (nI i), .int (nI 0), .int x] NN (jn X (hM g now mind th tx z (s.1, nI s.2) tp)) (pI (nodsF i (now (9 * i + 1)) 0 x s).1 (jn X (hM g now mind th tx z ((nodsF i (now (9 * i + 1)) 0 x s).2.1, nI (nodsF i (now (9 * i + 1)) 0 x s).2.2) tp))) := by
  refine Ct.of (lv := [some (rf g (22, 0, 0)), some (.int (nI 0)), some (.int (nI i)), some (.int (nI 0)), some (.int x), none, none]) (by decide +kernel) rfl (Nat.le_of_ble_eq_true rfl) ?_
  intro Γ C
  refine V.iload_n (q := 1) C dX10_byKind_0 rfl rfl ?_
  refine V.istore (q := 3) C dX10_byKind_1 rfl (by decide) rfl rfl ?_
  refine V.aload_n (q := 4) C dX10_byKind_3 rfl rfl ?_
  refine V.get (q := 7) C fl_X10_55 dX10_byKind_4 rfl okM rfl rfl ?_
  refine V.iconst (q := 8) (v := nI 3) C dX10_byKind_7 rfl (by decide) ?_
  refine V.iload (q := 10) C dX10_byKind_8 rfl rfl ?_
  refine V.imul (q := 11) C dX10_byKind_10 rfl ?_
  refine V.topi (x1 := nI (3 * 0)) (pk_mul _ _) ?_
  refine V.iload_n (q := 12) C dX10_byKind_11 rfl rfl ?_
  refine V.iadd (q := 13) C dX10_byKind_12 rfl ?_
  refine V.topi (x1 := nI ((3 * 0) + 0)) (nI_add _ _) ?_
  refine V.ild (q := 14) (i := ((3 * 0) + 0)) C dX10_byKind_13 rfl okM_23 rfl rfl (by omega) (by decide) ?_
  try dsimp only
  refine V.topi (x1 := nI (10)) (by decide) ?_
  refine V.if_ne (q := 17) (tgt := 29) C dX10_byKind_14 rfl rfl (fun hb14 => ?_) (fun hb14 => ?_)
  · refine V.aload_n (q := 30) C dX10_byKind_29 rfl rfl ?_
    refine V.get (q := 33) C fl_X10_52 dX10_byKind_30 rfl okM rfl rfl ?_
    refine V.iload (q := 35) C dX10_byKind_33 rfl rfl ?_
    refine V.ild (q := 36) (i := 0) C dX10_byKind_35 rfl okM_22 rfl rfl (by omega) (by decide) ?_
    try dsimp only
    refine V.topi (x1 := -1) (by decide) ?_
    refine V.istore (q := 38) C dX10_byKind_36 rfl (by decide) rfl rfl ?_
    refine V.aload_n (q := 39) C dX10_byKind_38 rfl rfl ?_
    refine V.aload_n (q := 40) C dX10_byKind_39 rfl rfl ?_
    refine V.get (q := 43) C fl_X10_55 dX10_byKind_40 rfl okM rfl rfl ?_
    refine V.iconst (q := 44) (v := nI 3) C dX10_byKind_43 rfl (by decide) ?_
    refine V.iload (q := 46) C dX10_byKind_44 rfl rfl ?_
    refine V.imul (q := 47) C dX10_byKind_46 rfl ?_
    refine V.topi (x1 := nI (3 * 0)) (pk_mul _ _) ?_
    refine V.iload_n (q := 48) C dX10_byKind_47 rfl rfl ?_
    refine V.iadd (q := 49) C dX10_byKind_48 rfl ?_
    refine V.topi (x1 := nI ((3 * 0) + 0)) (nI_add _ _) ?_
    refine V.ild (q := 50) (i := ((3 * 0) + 0)) C dX10_byKind_49 rfl okM_23 rfl rfl (by omega) (by decide) ?_
    try dsimp only
    refine V.topi (x1 := nI (10)) (by decide) ?_
    refine V.callVi (q := 53) C me_X10_body (m_body (by first | omega | (simp only [bdy_n]; omega))) ml_X10_255 dX10_byKind_50 rfl okM ⟨_, rfl⟩ rfl rfl (Nat.le_of_ble_eq_true rfl) (by omega) (Nat.zero_le _) (Nat.zero_le _) ?_
    refine V.lookup (off := 91) (tgt := 144) C dX10_byKind_53 (by decide) (by decide) rfl ?_
    refine V.iload (q := 146) C dX10_byKind_144 rfl rfl ?_
    refine V.iload_n (q := 147) C dX10_byKind_146 rfl rfl ?_
    refine V.iadd (q := 148) C dX10_byKind_147 rfl ?_
    exact V.ireturn C dX10_byKind_148 ⟨by rw [eq0_0] <;> rfl, by rw [eq0_0] <;> rfl, rfl⟩
  · exact absurd hb14 (by decide)
theorem m_bk0_1 {l : Launch} {g : GG} {X : PHp} {now mind : I1} {th : I1 × Int32} {tx : TXt} {z : Zt} {s : TS} {tp : TPt} {lv i : Nat} {x : Int32} (hlv : 2 ≤ lv) (hi : i < 6) (hs : s.2 ≤ 956) : Ct l g yX10_byKind cX10_byKind 7 (some .int) lv 0 0 [rf g (22, 0, 0), .int (nI 1), .int (nI i), .int (nI 0), .int x] NN (jn X (hM g now mind th tx z (s.1, nI s.2) tp)) (pI (nodsF i (now (9 * i + 1)) 1 x s).1 (jn X (hM g now mind th tx z ((nodsF i (now (9 * i + 1)) 1 x s).2.1, nI (nodsF i (now (9 * i + 1)) 1 x s).2.2) tp))) := by
  refine Ct.of (lv := [some (rf g (22, 0, 0)), some (.int (nI 1)), some (.int (nI i)), some (.int (nI 0)), some (.int x), none, none]) (by decide +kernel) rfl (Nat.le_of_ble_eq_true rfl) ?_
  intro Γ C
  refine V.iload_n (q := 1) C dX10_byKind_0 rfl rfl ?_
  refine V.istore (q := 3) C dX10_byKind_1 rfl (by decide) rfl rfl ?_
  refine V.aload_n (q := 4) C dX10_byKind_3 rfl rfl ?_
  refine V.get (q := 7) C fl_X10_55 dX10_byKind_4 rfl okM rfl rfl ?_
  refine V.iconst (q := 8) (v := nI 3) C dX10_byKind_7 rfl (by decide) ?_
  refine V.iload (q := 10) C dX10_byKind_8 rfl rfl ?_
  refine V.imul (q := 11) C dX10_byKind_10 rfl ?_
  refine V.topi (x1 := nI (3 * 1)) (pk_mul _ _) ?_
  refine V.iload_n (q := 12) C dX10_byKind_11 rfl rfl ?_
  refine V.iadd (q := 13) C dX10_byKind_12 rfl ?_
  refine V.topi (x1 := nI ((3 * 1) + 0)) (nI_add _ _) ?_
  refine V.ild (q := 14) (i := ((3 * 1) + 0)) C dX10_byKind_13 rfl okM_23 rfl rfl (by omega) (by decide) ?_
  try dsimp only
  refine V.topi (x1 := nI (0)) (by decide) ?_
  refine V.if_ne (q := 17) (tgt := 29) C dX10_byKind_14 rfl rfl (fun hb14 => ?_) (fun hb14 => ?_)
  · exact absurd (by decide) hb14
  · refine V.aload_n (q := 18) C dX10_byKind_17 rfl rfl ?_
    refine V.get (q := 21) C fl_X10_52 dX10_byKind_18 rfl okM rfl rfl ?_
    refine V.iload (q := 23) C dX10_byKind_21 rfl rfl ?_
    refine V.ild (q := 24) (i := 1) C dX10_byKind_23 rfl okM_22 rfl rfl (by omega) (by decide) ?_
    try dsimp only
    refine V.topi (x1 := nI (0)) (by decide) ?_
    refine V.istore (q := 26) C dX10_byKind_24 rfl (by decide) rfl rfl ?_
    refine V.goto (tgt := 3) C dX10_byKind_26 rfl ?_
    refine V.aload_n (q := 4) C dX10_byKind_3 rfl rfl ?_
    refine V.get (q := 7) C fl_X10_55 dX10_byKind_4 rfl okM rfl rfl ?_
    refine V.iconst (q := 8) (v := nI 3) C dX10_byKind_7 rfl (by decide) ?_
    refine V.iload (q := 10) C dX10_byKind_8 rfl rfl ?_
    refine V.imul (q := 11) C dX10_byKind_10 rfl ?_
    refine V.topi (x1 := nI (3 * (0))) (pk_mul _ _) ?_
    refine V.iload_n (q := 12) C dX10_byKind_11 rfl rfl ?_
    refine V.iadd (q := 13) C dX10_byKind_12 rfl ?_
    refine V.topi (x1 := nI ((3 * (0)) + 0)) (nI_add _ _) ?_
    refine V.ild (q := 14) (i := ((3 * (0)) + 0)) C dX10_byKind_13 rfl okM_23 rfl rfl (by omega) (by decide) ?_
    try dsimp only
    refine V.topi (x1 := nI (10)) (by decide) ?_
    refine V.if_ne (q := 17) (tgt := 29) C dX10_byKind_14 rfl rfl (fun hb14 => ?_) (fun hb14 => ?_)
    · refine V.aload_n (q := 30) C dX10_byKind_29 rfl rfl ?_
      refine V.get (q := 33) C fl_X10_52 dX10_byKind_30 rfl okM rfl rfl ?_
      refine V.iload (q := 35) C dX10_byKind_33 rfl rfl ?_
      refine V.ild (q := 36) (i := (0)) C dX10_byKind_35 rfl okM_22 rfl rfl (by omega) (by decide) ?_
      try dsimp only
      refine V.topi (x1 := -1) (by decide) ?_
      refine V.istore (q := 38) C dX10_byKind_36 rfl (by decide) rfl rfl ?_
      refine V.aload_n (q := 39) C dX10_byKind_38 rfl rfl ?_
      refine V.aload_n (q := 40) C dX10_byKind_39 rfl rfl ?_
      refine V.get (q := 43) C fl_X10_55 dX10_byKind_40 rfl okM rfl rfl ?_
      refine V.iconst (q := 44) (v := nI 3) C dX10_byKind_43 rfl (by decide) ?_
      refine V.iload (q := 46) C dX10_byKind_44 rfl rfl ?_
      refine V.imul (q := 47) C dX10_byKind_46 rfl ?_
      refine V.topi (x1 := nI (3 * (0))) (pk_mul _ _) ?_
      refine V.iload_n (q := 48) C dX10_byKind_47 rfl rfl ?_
      refine V.iadd (q := 49) C dX10_byKind_48 rfl ?_
      refine V.topi (x1 := nI ((3 * (0)) + 0)) (nI_add _ _) ?_
      refine V.ild (q := 50) (i := ((3 * (0)) + 0)) C dX10_byKind_49 rfl okM_23 rfl rfl (by omega) (by decide) ?_
      try dsimp only
      refine V.topi (x1 := nI (10)) (by decide) ?_
      refine V.callVi (q := 53) C me_X10_body (m_body (by first | omega | (simp only [bdy_n]; omega))) ml_X10_255 dX10_byKind_50 rfl okM ⟨_, rfl⟩ rfl rfl (Nat.le_of_ble_eq_true rfl) (by omega) (Nat.zero_le _) (Nat.zero_le _) ?_
      refine V.lookup (off := 91) (tgt := 144) C dX10_byKind_53 (by decide) (by decide) rfl ?_
      refine V.iload (q := 146) C dX10_byKind_144 rfl rfl ?_
      refine V.iload_n (q := 147) C dX10_byKind_146 rfl rfl ?_
      refine V.iadd (q := 148) C dX10_byKind_147 rfl ?_
      exact V.ireturn C dX10_byKind_148 ⟨by rw [eq0_1] <;> rfl, by rw [eq0_1] <;> rfl, rfl⟩
    · exact absurd hb14 (by decide)
theorem m_bk0_3 {l : Launch} {g : GG} {X : PHp} {now mind : I1} {th : I1 × Int32} {tx : TXt} {z : Zt} {s : TS} {tp : TPt} {lv i : Nat} {x : Int32} (hlv : 2 ≤ lv) (hi : i < 6) (hs : s.2 ≤ 956) : Ct l g yX10_byKind cX10_byKind 7 (some .int) lv 0 0 [rf g (22, 0, 0), .int (nI 3), .int (nI i), .int (nI 0), .int x] NN (jn X (hM g now mind th tx z (s.1, nI s.2) tp)) (pI (nodsF i (now (9 * i + 1)) 3 x s).1 (jn X (hM g now mind th tx z ((nodsF i (now (9 * i + 1)) 3 x s).2.1, nI (nodsF i (now (9 * i + 1)) 3 x s).2.2) tp))) := by
  refine Ct.of (lv := [some (rf g (22, 0, 0)), some (.int (nI 3)), some (.int (nI i)), some (.int (nI 0)), some (.int x), none, none]) (by decide +kernel) rfl (Nat.le_of_ble_eq_true rfl) ?_
  intro Γ C
  refine V.iload_n (q := 1) C dX10_byKind_0 rfl rfl ?_
  refine V.istore (q := 3) C dX10_byKind_1 rfl (by decide) rfl rfl ?_
  refine V.aload_n (q := 4) C dX10_byKind_3 rfl rfl ?_
  refine V.get (q := 7) C fl_X10_55 dX10_byKind_4 rfl okM rfl rfl ?_
  refine V.iconst (q := 8) (v := nI 3) C dX10_byKind_7 rfl (by decide) ?_
  refine V.iload (q := 10) C dX10_byKind_8 rfl rfl ?_
  refine V.imul (q := 11) C dX10_byKind_10 rfl ?_
  refine V.topi (x1 := nI (3 * 3)) (pk_mul _ _) ?_
  refine V.iload_n (q := 12) C dX10_byKind_11 rfl rfl ?_
  refine V.iadd (q := 13) C dX10_byKind_12 rfl ?_
  refine V.topi (x1 := nI ((3 * 3) + 0)) (nI_add _ _) ?_
  refine V.ild (q := 14) (i := ((3 * 3) + 0)) C dX10_byKind_13 rfl okM_23 rfl rfl (by omega) (by decide) ?_
  try dsimp only
  refine V.topi (x1 := nI (0)) (by decide) ?_
  refine V.if_ne (q := 17) (tgt := 29) C dX10_byKind_14 rfl rfl (fun hb14 => ?_) (fun hb14 => ?_)
  · exact absurd (by decide) hb14
  · refine V.aload_n (q := 18) C dX10_byKind_17 rfl rfl ?_
    refine V.get (q := 21) C fl_X10_52 dX10_byKind_18 rfl okM rfl rfl ?_
    refine V.iload (q := 23) C dX10_byKind_21 rfl rfl ?_
    refine V.ild (q := 24) (i := 3) C dX10_byKind_23 rfl okM_22 rfl rfl (by omega) (by decide) ?_
    try dsimp only
    refine V.topi (x1 := nI (0)) (by decide) ?_
    refine V.istore (q := 26) C dX10_byKind_24 rfl (by decide) rfl rfl ?_
    refine V.goto (tgt := 3) C dX10_byKind_26 rfl ?_
    refine V.aload_n (q := 4) C dX10_byKind_3 rfl rfl ?_
    refine V.get (q := 7) C fl_X10_55 dX10_byKind_4 rfl okM rfl rfl ?_
    refine V.iconst (q := 8) (v := nI 3) C dX10_byKind_7 rfl (by decide) ?_
    refine V.iload (q := 10) C dX10_byKind_8 rfl rfl ?_
    refine V.imul (q := 11) C dX10_byKind_10 rfl ?_
    refine V.topi (x1 := nI (3 * (0))) (pk_mul _ _) ?_
    refine V.iload_n (q := 12) C dX10_byKind_11 rfl rfl ?_
    refine V.iadd (q := 13) C dX10_byKind_12 rfl ?_
    refine V.topi (x1 := nI ((3 * (0)) + 0)) (nI_add _ _) ?_
    refine V.ild (q := 14) (i := ((3 * (0)) + 0)) C dX10_byKind_13 rfl okM_23 rfl rfl (by omega) (by decide) ?_
    try dsimp only
    refine V.topi (x1 := nI (10)) (by decide) ?_
    refine V.if_ne (q := 17) (tgt := 29) C dX10_byKind_14 rfl rfl (fun hb14 => ?_) (fun hb14 => ?_)
    · refine V.aload_n (q := 30) C dX10_byKind_29 rfl rfl ?_
      refine V.get (q := 33) C fl_X10_52 dX10_byKind_30 rfl okM rfl rfl ?_
      refine V.iload (q := 35) C dX10_byKind_33 rfl rfl ?_
      refine V.ild (q := 36) (i := (0)) C dX10_byKind_35 rfl okM_22 rfl rfl (by omega) (by decide) ?_
      try dsimp only
      refine V.topi (x1 := -1) (by decide) ?_
      refine V.istore (q := 38) C dX10_byKind_36 rfl (by decide) rfl rfl ?_
      refine V.aload_n (q := 39) C dX10_byKind_38 rfl rfl ?_
      refine V.aload_n (q := 40) C dX10_byKind_39 rfl rfl ?_
      refine V.get (q := 43) C fl_X10_55 dX10_byKind_40 rfl okM rfl rfl ?_
      refine V.iconst (q := 44) (v := nI 3) C dX10_byKind_43 rfl (by decide) ?_
      refine V.iload (q := 46) C dX10_byKind_44 rfl rfl ?_
      refine V.imul (q := 47) C dX10_byKind_46 rfl ?_
      refine V.topi (x1 := nI (3 * (0))) (pk_mul _ _) ?_
      refine V.iload_n (q := 48) C dX10_byKind_47 rfl rfl ?_
      refine V.iadd (q := 49) C dX10_byKind_48 rfl ?_
      refine V.topi (x1 := nI ((3 * (0)) + 0)) (nI_add _ _) ?_
      refine V.ild (q := 50) (i := ((3 * (0)) + 0)) C dX10_byKind_49 rfl okM_23 rfl rfl (by omega) (by decide) ?_
      try dsimp only
      refine V.topi (x1 := nI (10)) (by decide) ?_
      refine V.callVi (q := 53) C me_X10_body (m_body (by first | omega | (simp only [bdy_n]; omega))) ml_X10_255 dX10_byKind_50 rfl okM ⟨_, rfl⟩ rfl rfl (Nat.le_of_ble_eq_true rfl) (by omega) (Nat.zero_le _) (Nat.zero_le _) ?_
      refine V.lookup (off := 91) (tgt := 144) C dX10_byKind_53 (by decide) (by decide) rfl ?_
      refine V.iload (q := 146) C dX10_byKind_144 rfl rfl ?_
      refine V.iload_n (q := 147) C dX10_byKind_146 rfl rfl ?_
      refine V.iadd (q := 148) C dX10_byKind_147 rfl ?_
      exact V.ireturn C dX10_byKind_148 ⟨by rw [eq0_3] <;> rfl, by rw [eq0_3] <;> rfl, rfl⟩
    · exact absurd hb14 (by decide)
theorem m_bk0_2 {l : Launch} {g : GG} {X : PHp} {now mind : I1} {th : I1 × Int32} {tx : TXt} {z : Zt} {s : TS} {tp : TPt} {lv i : Nat} {x : Int32} (hlv : 3 ≤ lv) (hi : i < 6) (hs : s.2 ≤ 955) : Ct l g yX10_byKind cX10_byKind 7 (some .int) lv 0 0 [rf g (22, 0, 0), .int (nI 2), .int (nI i), .int (nI 0), .int x] NN (jn X (hM g now mind th tx z (s.1, nI s.2) tp)) (pI (nodsF i (now (9 * i + 1)) 2 x s).1 (jn X (hM g now mind th tx z ((nodsF i (now (9 * i + 1)) 2 x s).2.1, nI (nodsF i (now (9 * i + 1)) 2 x s).2.2) tp))) := by
  refine Ct.of (lv := [some (rf g (22, 0, 0)), some (.int (nI 2)), some (.int (nI i)), some (.int (nI 0)), some (.int x), none, none]) (by decide +kernel) rfl (Nat.le_of_ble_eq_true rfl) ?_
  intro Γ C
  refine V.iload_n (q := 1) C dX10_byKind_0 rfl rfl ?_
  refine V.istore (q := 3) C dX10_byKind_1 rfl (by decide) rfl rfl ?_
  refine V.aload_n (q := 4) C dX10_byKind_3 rfl rfl ?_
  refine V.get (q := 7) C fl_X10_55 dX10_byKind_4 rfl okM rfl rfl ?_
  refine V.iconst (q := 8) (v := nI 3) C dX10_byKind_7 rfl (by decide) ?_
  refine V.iload (q := 10) C dX10_byKind_8 rfl rfl ?_
  refine V.imul (q := 11) C dX10_byKind_10 rfl ?_
  refine V.topi (x1 := nI (3 * 2)) (pk_mul _ _) ?_
  refine V.iload_n (q := 12) C dX10_byKind_11 rfl rfl ?_
  refine V.iadd (q := 13) C dX10_byKind_12 rfl ?_
  refine V.topi (x1 := nI ((3 * 2) + 0)) (nI_add _ _) ?_
  refine V.ild (q := 14) (i := ((3 * 2) + 0)) C dX10_byKind_13 rfl okM_23 rfl rfl (by omega) (by decide) ?_
  try dsimp only
  refine V.topi (x1 := nI (30)) (by decide) ?_
  refine V.if_ne (q := 17) (tgt := 29) C dX10_byKind_14 rfl rfl (fun hb14 => ?_) (fun hb14 => ?_)
  · refine V.aload_n (q := 30) C dX10_byKind_29 rfl rfl ?_
    refine V.get (q := 33) C fl_X10_52 dX10_byKind_30 rfl okM rfl rfl ?_
    refine V.iload (q := 35) C dX10_byKind_33 rfl rfl ?_
    refine V.ild (q := 36) (i := 2) C dX10_byKind_35 rfl okM_22 rfl rfl (by omega) (by decide) ?_
    try dsimp only
    refine V.topi (x1 := nI (0)) (by decide) ?_
    refine V.istore (q := 38) C dX10_byKind_36 rfl (by decide) rfl rfl ?_
    refine V.aload_n (q := 39) C dX10_byKind_38 rfl rfl ?_
    refine V.aload_n (q := 40) C dX10_byKind_39 rfl rfl ?_
    refine V.get (q := 43) C fl_X10_55 dX10_byKind_40 rfl okM rfl rfl ?_
    refine V.iconst (q := 44) (v := nI 3) C dX10_byKind_43 rfl (by decide) ?_
    refine V.iload (q := 46) C dX10_byKind_44 rfl rfl ?_
    refine V.imul (q := 47) C dX10_byKind_46 rfl ?_
    refine V.topi (x1 := nI (3 * 2)) (pk_mul _ _) ?_
    refine V.iload_n (q := 48) C dX10_byKind_47 rfl rfl ?_
    refine V.iadd (q := 49) C dX10_byKind_48 rfl ?_
    refine V.topi (x1 := nI ((3 * 2) + 0)) (nI_add _ _) ?_
    refine V.ild (q := 50) (i := ((3 * 2) + 0)) C dX10_byKind_49 rfl okM_23 rfl rfl (by omega) (by decide) ?_
    try dsimp only
    refine V.topi (x1 := nI (30)) (by decide) ?_
    refine V.callVi (q := 53) C me_X10_body (m_body (by first | omega | (simp only [bdy_n]; omega))) ml_X10_255 dX10_byKind_50 rfl okM ⟨_, rfl⟩ rfl rfl (Nat.le_of_ble_eq_true rfl) (by omega) (Nat.zero_le _) (Nat.zero_le _) ?_
    refine V.lookup (off := 137) (tgt := 190) C dX10_byKind_53 (by decide) (by decide) rfl ?_
    refine V.aload_n (q := 191) C dX10_byKind_190 rfl rfl ?_
    refine V.iload (q := 193) C dX10_byKind_191 rfl rfl ?_
    refine V.iload_n (q := 194) C dX10_byKind_193 rfl rfl ?_
    refine V.iconst (q := 195) (v := nI 0) C dX10_byKind_194 rfl (by decide) ?_
    refine V.iload (q := 197) C dX10_byKind_195 rfl rfl ?_
    refine V.iconst (q := 198) (v := nI 3) C dX10_byKind_197 rfl (by decide) ?_
    refine V.imul (q := 199) C dX10_byKind_198 rfl ?_
    refine V.callVi (q := 202) C me_X10_byKind (m_bk0_0 (lv := 2) (by omega) hi (by rw [bdy_n]; omega)) ml_X10_252 dX10_byKind_199 rfl okM ⟨_, rfl⟩ rfl rfl (Nat.le_of_ble_eq_true rfl) (by omega) (Nat.zero_le _) (Nat.zero_le _) ?_
    exact V.ireturn C dX10_byKind_202 ⟨by rw [eq0_2] <;> rfl, by rw [eq0_2] <;> rfl, rfl⟩
  · exact absurd hb14 (by decide)
theorem m_bk0_5 {l : Launch} {g : GG} {X : PHp} {now mind : I1} {th : I1 × Int32} {tx : TXt} {z : Zt} {s : TS} {tp : TPt} {lv i : Nat} {x : Int32} (hlv : 3 ≤ lv) (hi : i < 6) (hs : s.2 ≤ 955) : Ct l g yX10_byKind cX10_byKind 7 (some .int) lv 0 0 [rf g (22, 0, 0), .int (nI 5), .int (nI i), .int (nI 0), .int x] NN (jn X (hM g now mind th tx z (s.1, nI s.2) tp)) (pI (nodsF i (now (9 * i + 1)) 5 x s).1 (jn X (hM g now mind th tx z ((nodsF i (now (9 * i + 1)) 5 x s).2.1, nI (nodsF i (now (9 * i + 1)) 5 x s).2.2) tp))) := by
  refine Ct.of (lv := [some (rf g (22, 0, 0)), some (.int (nI 5)), some (.int (nI i)), some (.int (nI 0)), some (.int x), none, none]) (by decide +kernel) rfl (Nat.le_of_ble_eq_true rfl) ?_
  intro Γ C
  refine V.iload_n (q := 1) C dX10_byKind_0 rfl rfl ?_
  refine V.istore (q := 3) C dX10_byKind_1 rfl (by decide) rfl rfl ?_
  refine V.aload_n (q := 4) C dX10_byKind_3 rfl rfl ?_
  refine V.get (q := 7) C fl_X10_55 dX10_byKind_4 rfl okM rfl rfl ?_
  refine V.iconst (q := 8) (v := nI 3) C dX10_byKind_7 rfl (by decide) ?_
  refine V.iload (q := 10) C dX10_byKind_8 rfl rfl ?_
  refine V.imul (q := 11) C dX10_byKind_10 rfl ?_
  refine V.topi (x1 := nI (3 * 5)) (pk_mul _ _) ?_
  refine V.iload_n (q := 12) C dX10_byKind_11 rfl rfl ?_
  refine V.iadd (q := 13) C dX10_byKind_12 rfl ?_
  refine V.topi (x1 := nI ((3 * 5) + 0)) (nI_add _ _) ?_
  refine V.ild (q := 14) (i := ((3 * 5) + 0)) C dX10_byKind_13 rfl okM_23 rfl rfl (by omega) (by decide) ?_
  try dsimp only
  refine V.topi (x1 := nI (0)) (by decide) ?_
  refine V.if_ne (q := 17) (tgt := 29) C dX10_byKind_14 rfl rfl (fun hb14 => ?_) (fun hb14 => ?_)
  · exact absurd (by decide) hb14
  · refine V.aload_n (q := 18) C dX10_byKind_17 rfl rfl ?_
    refine V.get (q := 21) C fl_X10_52 dX10_byKind_18 rfl okM rfl rfl ?_
    refine V.iload (q := 23) C dX10_byKind_21 rfl rfl ?_
    refine V.ild (q := 24) (i := 5) C dX10_byKind_23 rfl okM_22 rfl rfl (by omega) (by decide) ?_
    try dsimp only
    refine V.topi (x1 := nI (2)) (by decide) ?_
    refine V.istore (q := 26) C dX10_byKind_24 rfl (by decide) rfl rfl ?_
    refine V.goto (tgt := 3) C dX10_byKind_26 rfl ?_
    refine V.aload_n (q := 4) C dX10_byKind_3 rfl rfl ?_
    refine V.get (q := 7) C fl_X10_55 dX10_byKind_4 rfl okM rfl rfl ?_
    refine V.iconst (q := 8) (v := nI 3) C dX10_byKind_7 rfl (by decide) ?_
    refine V.iload (q := 10) C dX10_byKind_8 rfl rfl ?_
    refine V.imul (q := 11) C dX10_byKind_10 rfl ?_
    refine V.topi (x1 := nI (3 * (2))) (pk_mul _ _) ?_
    refine V.iload_n (q := 12) C dX10_byKind_11 rfl rfl ?_
    refine V.iadd (q := 13) C dX10_byKind_12 rfl ?_
    refine V.topi (x1 := nI ((3 * (2)) + 0)) (nI_add _ _) ?_
    refine V.ild (q := 14) (i := ((3 * (2)) + 0)) C dX10_byKind_13 rfl okM_23 rfl rfl (by omega) (by decide) ?_
    try dsimp only
    refine V.topi (x1 := nI (30)) (by decide) ?_
    refine V.if_ne (q := 17) (tgt := 29) C dX10_byKind_14 rfl rfl (fun hb14 => ?_) (fun hb14 => ?_)
    · refine V.aload_n (q := 30) C dX10_byKind_29 rfl rfl ?_
      refine V.get (q := 33) C fl_X10_52 dX10_byKind_30 rfl okM rfl rfl ?_
      refine V.iload (q := 35) C dX10_byKind_33 rfl rfl ?_
      refine V.ild (q := 36) (i := (2)) C dX10_byKind_35 rfl okM_22 rfl rfl (by omega) (by decide) ?_
      try dsimp only
      refine V.topi (x1 := nI (0)) (by decide) ?_
      refine V.istore (q := 38) C dX10_byKind_36 rfl (by decide) rfl rfl ?_
      refine V.aload_n (q := 39) C dX10_byKind_38 rfl rfl ?_
      refine V.aload_n (q := 40) C dX10_byKind_39 rfl rfl ?_
      refine V.get (q := 43) C fl_X10_55 dX10_byKind_40 rfl okM rfl rfl ?_
      refine V.iconst (q := 44) (v := nI 3) C dX10_byKind_43 rfl (by decide) ?_
      refine V.iload (q := 46) C dX10_byKind_44 rfl rfl ?_
      refine V.imul (q := 47) C dX10_byKind_46 rfl ?_
      refine V.topi (x1 := nI (3 * (2))) (pk_mul _ _) ?_
      refine V.iload_n (q := 48) C dX10_byKind_47 rfl rfl ?_
      refine V.iadd (q := 49) C dX10_byKind_48 rfl ?_
      refine V.topi (x1 := nI ((3 * (2)) + 0)) (nI_add _ _) ?_
      refine V.ild (q := 50) (i := ((3 * (2)) + 0)) C dX10_byKind_49 rfl okM_23 rfl rfl (by omega) (by decide) ?_
      try dsimp only
      refine V.topi (x1 := nI (30)) (by decide) ?_
      refine V.callVi (q := 53) C me_X10_body (m_body (by first | omega | (simp only [bdy_n]; omega))) ml_X10_255 dX10_byKind_50 rfl okM ⟨_, rfl⟩ rfl rfl (Nat.le_of_ble_eq_true rfl) (by omega) (Nat.zero_le _) (Nat.zero_le _) ?_
      refine V.lookup (off := 137) (tgt := 190) C dX10_byKind_53 (by decide) (by decide) rfl ?_
      refine V.aload_n (q := 191) C dX10_byKind_190 rfl rfl ?_
      refine V.iload (q := 193) C dX10_byKind_191 rfl rfl ?_
      refine V.iload_n (q := 194) C dX10_byKind_193 rfl rfl ?_
      refine V.iconst (q := 195) (v := nI 0) C dX10_byKind_194 rfl (by decide) ?_
      refine V.iload (q := 197) C dX10_byKind_195 rfl rfl ?_
      refine V.iconst (q := 198) (v := nI 3) C dX10_byKind_197 rfl (by decide) ?_
      refine V.imul (q := 199) C dX10_byKind_198 rfl ?_
      refine V.callVi (q := 202) C me_X10_byKind (m_bk0_0 (lv := 2) (by omega) hi (by rw [bdy_n]; omega)) ml_X10_252 dX10_byKind_199 rfl okM ⟨_, rfl⟩ rfl rfl (Nat.le_of_ble_eq_true rfl) (by omega) (Nat.zero_le _) (Nat.zero_le _) ?_
      exact V.ireturn C dX10_byKind_202 ⟨by rw [eq0_5] <;> rfl, by rw [eq0_5] <;> rfl, rfl⟩
    · exact absurd hb14 (by decide)
theorem m_bk0_4 {l : Launch} {g : GG} {X : PHp} {now mind : I1} {th : I1 × Int32} {tx : TXt} {z : Zt} {s : TS} {tp : TPt} {lv i : Nat} {x : Int32} (hlv : 3 ≤ lv) (hi : i < 6) (hs : s.2 ≤ 955) : Ct l g yX10_byKind cX10_byKind 7 (some .int) lv 0 0 [rf g (22, 0, 0), .int (nI 4), .int (nI i), .int (nI 0), .int x] NN (jn X (hM g now mind th tx z (s.1, nI s.2) tp)) (pI (nodsF i (now (9 * i + 1)) 4 x s).1 (jn X (hM g now mind th tx z ((nodsF i (now (9 * i + 1)) 4 x s).2.1, nI (nodsF i (now (9 * i + 1)) 4 x s).2.2) tp))) := by
  refine Ct.of (lv := [some (rf g (22, 0, 0)), some (.int (nI 4)), some (.int (nI i)), some (.int (nI 0)), some (.int x), none, none]) (by decide +kernel) rfl (Nat.le_of_ble_eq_true rfl) ?_
  intro Γ C
  refine V.iload_n (q := 1) C dX10_byKind_0 rfl rfl ?_
  refine V.istore (q := 3) C dX10_byKind_1 rfl (by decide) rfl rfl ?_
  refine V.aload_n (q := 4) C dX10_byKind_3 rfl rfl ?_
  refine V.get (q := 7) C fl_X10_55 dX10_byKind_4 rfl okM rfl rfl ?_
  refine V.iconst (q := 8) (v := nI 3) C dX10_byKind_7 rfl (by decide) ?_
  refine V.iload (q := 10) C dX10_byKind_8 rfl rfl ?_
  refine V.imul (q := 11) C dX10_byKind_10 rfl ?_
  refine V.topi (x1 := nI (3 * 4)) (pk_mul _ _) ?_
  refine V.iload_n (q := 12) C dX10_byKind_11 rfl rfl ?_
  refine V.iadd (q := 13) C dX10_byKind_12 rfl ?_
  refine V.topi (x1 := nI ((3 * 4) + 0)) (nI_add _ _) ?_
  refine V.ild (q := 14) (i := ((3 * 4) + 0)) C dX10_byKind_13 rfl okM_23 rfl rfl (by omega) (by decide) ?_
  try dsimp only
  refine V.topi (x1 := nI (50)) (by decide) ?_
  refine V.if_ne (q := 17) (tgt := 29) C dX10_byKind_14 rfl rfl (fun hb14 => ?_) (fun hb14 => ?_)
  · refine V.aload_n (q := 30) C dX10_byKind_29 rfl rfl ?_
    refine V.get (q := 33) C fl_X10_52 dX10_byKind_30 rfl okM rfl rfl ?_
    refine V.iload (q := 35) C dX10_byKind_33 rfl rfl ?_
    refine V.ild (q := 36) (i := 4) C dX10_byKind_35 rfl okM_22 rfl rfl (by omega) (by decide) ?_
    try dsimp only
    refine V.topi (x1 := nI (1)) (by decide) ?_
    refine V.istore (q := 38) C dX10_byKind_36 rfl (by decide) rfl rfl ?_
    refine V.aload_n (q := 39) C dX10_byKind_38 rfl rfl ?_
    refine V.aload_n (q := 40) C dX10_byKind_39 rfl rfl ?_
    refine V.get (q := 43) C fl_X10_55 dX10_byKind_40 rfl okM rfl rfl ?_
    refine V.iconst (q := 44) (v := nI 3) C dX10_byKind_43 rfl (by decide) ?_
    refine V.iload (q := 46) C dX10_byKind_44 rfl rfl ?_
    refine V.imul (q := 47) C dX10_byKind_46 rfl ?_
    refine V.topi (x1 := nI (3 * 4)) (pk_mul _ _) ?_
    refine V.iload_n (q := 48) C dX10_byKind_47 rfl rfl ?_
    refine V.iadd (q := 49) C dX10_byKind_48 rfl ?_
    refine V.topi (x1 := nI ((3 * 4) + 0)) (nI_add _ _) ?_
    refine V.ild (q := 50) (i := ((3 * 4) + 0)) C dX10_byKind_49 rfl okM_23 rfl rfl (by omega) (by decide) ?_
    try dsimp only
    refine V.topi (x1 := nI (50)) (by decide) ?_
    refine V.callVi (q := 53) C me_X10_body (m_body (by first | omega | (simp only [bdy_n]; omega))) ml_X10_255 dX10_byKind_50 rfl okM ⟨_, rfl⟩ rfl rfl (Nat.le_of_ble_eq_true rfl) (by omega) (Nat.zero_le _) (Nat.zero_le _) ?_
    refine V.lookup (off := 169) (tgt := 222) C dX10_byKind_53 (by decide) (by decide) rfl ?_
    refine V.aload_n (q := 223) C dX10_byKind_222 rfl rfl ?_
    refine V.iload (q := 225) C dX10_byKind_223 rfl rfl ?_
    refine V.iload_n (q := 226) C dX10_byKind_225 rfl rfl ?_
    refine V.iconst (q := 227) (v := nI 0) C dX10_byKind_226 rfl (by decide) ?_
    refine V.iload (q := 229) C dX10_byKind_227 rfl rfl ?_
    refine V.callVi (q := 232) C me_X10_byKind (m_bk0_1 (lv := 2) (by omega) hi (by rw [bdy_n]; omega)) ml_X10_252 dX10_byKind_229 rfl okM ⟨_, rfl⟩ rfl rfl (Nat.le_of_ble_eq_true rfl) (by omega) (Nat.zero_le _) (Nat.zero_le _) ?_
    refine V.ineg (q := 233) C dX10_byKind_232 rfl ?_
    exact V.ireturn C dX10_byKind_233 ⟨by rw [eq0_4] <;> rfl, by rw [eq0_4] <;> rfl, rfl⟩
  · exact absurd hb14 (by decide)
theorem m_bk0_6 {l : Launch} {g : GG} {X : PHp} {now mind : I1} {th : I1 × Int32} {tx : TXt} {z : Zt} {s : TS} {tp : TPt} {lv i : Nat} {x : Int32} (hlv : 3 ≤ lv) (hi : i < 6) (hs : s.2 ≤ 955) : Ct l g yX10_byKind cX10_byKind 7 (some .int) lv 0 0 [rf g (22, 0, 0), .int (nI 6), .int (nI i), .int (nI 0), .int x] NN (jn X (hM g now mind th tx z (s.1, nI s.2) tp)) (pI (nodsF i (now (9 * i + 1)) 6 x s).1 (jn X (hM g now mind th tx z ((nodsF i (now (9 * i + 1)) 6 x s).2.1, nI (nodsF i (now (9 * i + 1)) 6 x s).2.2) tp))) := by
  refine Ct.of (lv := [some (rf g (22, 0, 0)), some (.int (nI 6)), some (.int (nI i)), some (.int (nI 0)), some (.int x), none, none]) (by decide +kernel) rfl (Nat.le_of_ble_eq_true rfl) ?_
  intro Γ C
  refine V.iload_n (q := 1) C dX10_byKind_0 rfl rfl ?_
  refine V.istore (q := 3) C dX10_byKind_1 rfl (by decide) rfl rfl ?_
  refine V.aload_n (q := 4) C dX10_byKind_3 rfl rfl ?_
  refine V.get (q := 7) C fl_X10_55 dX10_byKind_4 rfl okM rfl rfl ?_
  refine V.iconst (q := 8) (v := nI 3) C dX10_byKind_7 rfl (by decide) ?_
  refine V.iload (q := 10) C dX10_byKind_8 rfl rfl ?_
  refine V.imul (q := 11) C dX10_byKind_10 rfl ?_
  refine V.topi (x1 := nI (3 * 6)) (pk_mul _ _) ?_
  refine V.iload_n (q := 12) C dX10_byKind_11 rfl rfl ?_
  refine V.iadd (q := 13) C dX10_byKind_12 rfl ?_
  refine V.topi (x1 := nI ((3 * 6) + 0)) (nI_add _ _) ?_
  refine V.ild (q := 14) (i := ((3 * 6) + 0)) C dX10_byKind_13 rfl okM_23 rfl rfl (by omega) (by decide) ?_
  try dsimp only
  refine V.topi (x1 := nI (71)) (by decide) ?_
  refine V.if_ne (q := 17) (tgt := 29) C dX10_byKind_14 rfl rfl (fun hb14 => ?_) (fun hb14 => ?_)
  · refine V.aload_n (q := 30) C dX10_byKind_29 rfl rfl ?_
    refine V.get (q := 33) C fl_X10_52 dX10_byKind_30 rfl okM rfl rfl ?_
    refine V.iload (q := 35) C dX10_byKind_33 rfl rfl ?_
    refine V.ild (q := 36) (i := 6) C dX10_byKind_35 rfl okM_22 rfl rfl (by omega) (by decide) ?_
    try dsimp only
    refine V.topi (x1 := nI (3)) (by decide) ?_
    refine V.istore (q := 38) C dX10_byKind_36 rfl (by decide) rfl rfl ?_
    refine V.aload_n (q := 39) C dX10_byKind_38 rfl rfl ?_
    refine V.aload_n (q := 40) C dX10_byKind_39 rfl rfl ?_
    refine V.get (q := 43) C fl_X10_55 dX10_byKind_40 rfl okM rfl rfl ?_
    refine V.iconst (q := 44) (v := nI 3) C dX10_byKind_43 rfl (by decide) ?_
    refine V.iload (q := 46) C dX10_byKind_44 rfl rfl ?_
    refine V.imul (q := 47) C dX10_byKind_46 rfl ?_
    refine V.topi (x1 := nI (3 * 6)) (pk_mul _ _) ?_
    refine V.iload_n (q := 48) C dX10_byKind_47 rfl rfl ?_
    refine V.iadd (q := 49) C dX10_byKind_48 rfl ?_
    refine V.topi (x1 := nI ((3 * 6) + 0)) (nI_add _ _) ?_
    refine V.ild (q := 50) (i := ((3 * 6) + 0)) C dX10_byKind_49 rfl okM_23 rfl rfl (by omega) (by decide) ?_
    try dsimp only
    refine V.topi (x1 := nI (71)) (by decide) ?_
    refine V.callVi (q := 53) C me_X10_body (m_body (by first | omega | (simp only [bdy_n]; omega))) ml_X10_255 dX10_byKind_50 rfl okM ⟨_, rfl⟩ rfl rfl (Nat.le_of_ble_eq_true rfl) (by omega) (Nat.zero_le _) (Nat.zero_le _) ?_
    refine V.lookup (off := 228) (tgt := 281) C dX10_byKind_53 (by decide) (by decide) rfl ?_
    refine V.aload_n (q := 282) C dX10_byKind_281 rfl rfl ?_
    refine V.iload (q := 284) C dX10_byKind_282 rfl rfl ?_
    refine V.iload_n (q := 285) C dX10_byKind_284 rfl rfl ?_
    refine V.iconst (q := 286) (v := nI 0) C dX10_byKind_285 rfl (by decide) ?_
    refine V.iload (q := 288) C dX10_byKind_286 rfl rfl ?_
    refine V.callVi (q := 291) C me_X10_byKind (m_bk0_3 (lv := 2) (by omega) hi (by rw [bdy_n]; omega)) ml_X10_252 dX10_byKind_288 rfl okM ⟨_, rfl⟩ rfl rfl (Nat.le_of_ble_eq_true rfl) (by omega) (Nat.zero_le _) (Nat.zero_le _) ?_
    refine V.aload_n (q := 292) C dX10_byKind_291 rfl rfl ?_
    refine V.iload_n (q := 293) C dX10_byKind_292 rfl rfl ?_
    refine V.iconst (q := 294) (v := nI 1) C dX10_byKind_293 rfl (by decide) ?_
    refine V.callVi (q := 297) C me_X10_one (m_one (by omega)) ml_X10_86 dX10_byKind_294 rfl okM ⟨_, rfl⟩ rfl rfl (Nat.le_of_ble_eq_true rfl) (by omega) (Nat.zero_le _) (Nat.zero_le _) ?_
    refine V.ixor (q := 298) C dX10_byKind_297 rfl ?_
    exact V.ireturn C dX10_byKind_298 ⟨by rw [eq0_6] <;> rfl, by rw [eq0_6] <;> rfl, rfl⟩
  · exact absurd hb14 (by decide)
theorem m_bk0 {l : Launch} {g : GG} {X : PHp} {now mind : I1} {th : I1 × Int32} {tx : TXt} {z : Zt} {s : TS} {tp : TPt} {lv i q : Nat} {x : Int32} (hlv : 3 ≤ lv) (hi : i < 6) (hs : s.2 ≤ 955) (hq : q < 7) : Ct l g yX10_byKind cX10_byKind 7 (some .int) lv 0 0 [rf g (22, 0, 0), .int (nI q), .int (nI i), .int (nI 0), .int x] NN (jn X (hM g now mind th tx z (s.1, nI s.2) tp)) (pI (nodsF i (now (9 * i + 1)) q x s).1 (jn X (hM g now mind th tx z ((nodsF i (now (9 * i + 1)) q x s).2.1, nI (nodsF i (now (9 * i + 1)) q x s).2.2) tp))) := by
  obtain rfl | rfl | rfl | rfl | rfl | rfl | rfl := (show q = 0 ∨ q = 1 ∨ q = 2 ∨ q = 3 ∨ q = 4 ∨ q = 5 ∨ q = 6 by omega)
  · exact m_bk0_0 (by omega) hi (by omega)
  · exact m_bk0_1 (by omega) hi (by omega)
  · exact m_bk0_2 (by omega) hi (by omega)
  · exact m_bk0_3 (by omega) hi (by omega)
  · exact m_bk0_4 (by omega) hi (by omega)
  · exact m_bk0_5 (by omega) hi (by omega)
  · exact m_bk0_6 (by omega) hi (by omega)
theorem m_begin0 {l : Launch} {g : GG} {X : PHp} {now mind : I1} {th : I1 × Int32} {tx : TXt} {z : Zt} {s : TS} {tp : TPt} {lv i K : Nat} {x : Int32} (hlv : 4 ≤ lv) (hi : i < 6) (hK : K < 7) (hk : now (9 * i + 0) = nI K) (hs : s.2 ≤ 955) : Ct l g yX10_begin cX10_begin 4 (some .int) lv 0 0 [rf g (22, 0, 0), .int (nI i), .int (nI 0), .int x] NN (jn X (hM g now mind th tx z (s.1, nI s.2) tp)) (pI (nodsF i (now (9 * i + 1)) K x s).1 (jn X (hM g now mind th tx z ((nodsF i (now (9 * i + 1)) K x s).2.1, nI (nodsF i (now (9 * i + 1)) K x s).2.2) tp))) := by
  refine Ct.of (lv := [some (rf g (22, 0, 0)), some (.int (nI i)), some (.int (nI 0)), some (.int x)]) (by decide +kernel) rfl (Nat.le_of_ble_eq_true rfl) ?_
  intro Γ C
  refine V.aload_n (q := 1) C dX10_begin_0 rfl rfl ?_
  refine V.aload_n (q := 2) C dX10_begin_1 rfl rfl ?_
  refine V.iload_n (q := 3) C dX10_begin_2 rfl rfl ?_
  refine V.iconst (q := 4) (v := nI 0) C dX10_begin_3 rfl (by decide) ?_
  refine V.callVi (q := 7) C me_X10_one (m_one (by omega)) ml_X10_86 dX10_begin_4 rfl okM ⟨_, rfl⟩ rfl rfl (Nat.le_of_ble_eq_true rfl) (by omega) (Nat.zero_le _) (Nat.zero_le _) ?_
  refine V.topi (x1 := nI (K)) hk ?_
  refine V.iload_n (q := 8) C dX10_begin_7 rfl rfl ?_
  refine V.iload_n (q := 9) C dX10_begin_8 rfl rfl ?_
  refine V.iload_n (q := 10) C dX10_begin_9 rfl rfl ?_
  refine V.callVi (q := 13) C me_X10_byKind (m_bk0 (lv := 3) (by omega) hi hs hK) ml_X10_252 dX10_begin_10 rfl okM ⟨_, rfl⟩ rfl rfl (Nat.le_of_ble_eq_true rfl) (by omega) (Nat.zero_le _) (Nat.zero_le _) ?_
  exact V.ireturn C dX10_begin_13 ⟨rfl, rfl, rfl⟩
theorem m_bk1_0 {l : Launch} {g : GG} {X : PHp} {now mind : I1} {th : I1 × Int32} {tx : TXt} {z : Zt} {s : TS} {tp : TPt} {lv i : Nat} {K : Nat} {x : Int32} (hlv : 5 ≤ lv) (hi : i < 6) (hK : K < 7) (hk : now (9 * i + 0) = nI K) (hs : s.2 ≤ 945) : Ct l g yX10_byKind cX10_byKind 7 (some .int) lv 0 0 [rf g (22, 0, 0), .int (nI 0), .int (nI i), .int (nI 1), .int x] NN (jn X (hM g now mind th tx z (s.1, nI s.2) tp)) (pI (knocksF i (now (9 * i + 1)) K 0 x s).1 (jn X (hM g now mind th tx z ((knocksF i (now (9 * i + 1)) K 0 x s).2.1, nI (knocksF i (now (9 * i + 1)) K 0 x s).2.2) tp))) := by
  refine Ct.of (lv := [some (rf g (22, 0, 0)), some (.int (nI 0)), some (.int (nI i)), some (.int (nI 1)), some (.int x), none, none]) (by decide +kernel) rfl (Nat.le_of_ble_eq_true rfl) ?_
  intro Γ C
  refine V.iload_n (q := 1) C dX10_byKind_0 rfl rfl ?_
  refine V.istore (q := 3) C dX10_byKind_1 rfl (by decide) rfl rfl ?_
  refine V.aload_n (q := 4) C dX10_byKind_3 rfl rfl ?_
  refine V.get (q := 7) C fl_X10_55 dX10_byKind_4 rfl okM rfl rfl ?_
  refine V.iconst (q := 8) (v := nI 3) C dX10_byKind_7 rfl (by decide) ?_
  refine V.iload (q := 10) C dX10_byKind_8 rfl rfl ?_
  refine V.imul (q := 11) C dX10_byKind_10 rfl ?_
  refine V.topi (x1 := nI (3 * 0)) (pk_mul _ _) ?_
  refine V.iload_n (q := 12) C dX10_byKind_11 rfl rfl ?_
  refine V.iadd (q := 13) C dX10_byKind_12 rfl ?_
  refine V.topi (x1 := nI ((3 * 0) + 1)) (nI_add _ _) ?_
  refine V.ild (q := 14) (i := ((3 * 0) + 1)) C dX10_byKind_13 rfl okM_23 rfl rfl (by omega) (by decide) ?_
  try dsimp only
  refine V.topi (x1 := nI (11)) (by decide) ?_
  refine V.if_ne (q := 17) (tgt := 29) C dX10_byKind_14 rfl rfl (fun hb14 => ?_) (fun hb14 => ?_)
  · refine V.aload_n (q := 30) C dX10_byKind_29 rfl rfl ?_
    refine V.get (q := 33) C fl_X10_52 dX10_byKind_30 rfl okM rfl rfl ?_
    refine V.iload (q := 35) C dX10_byKind_33 rfl rfl ?_
    refine V.ild (q := 36) (i := 0) C dX10_byKind_35 rfl okM_22 rfl rfl (by omega) (by decide) ?_
    try dsimp only
    refine V.topi (x1 := -1) (by decide) ?_
    refine V.istore (q := 38) C dX10_byKind_36 rfl (by decide) rfl rfl ?_
    refine V.aload_n (q := 39) C dX10_byKind_38 rfl rfl ?_
    refine V.aload_n (q := 40) C dX10_byKind_39 rfl rfl ?_
    refine V.get (q := 43) C fl_X10_55 dX10_byKind_40 rfl okM rfl rfl ?_
    refine V.iconst (q := 44) (v := nI 3) C dX10_byKind_43 rfl (by decide) ?_
    refine V.iload (q := 46) C dX10_byKind_44 rfl rfl ?_
    refine V.imul (q := 47) C dX10_byKind_46 rfl ?_
    refine V.topi (x1 := nI (3 * 0)) (pk_mul _ _) ?_
    refine V.iload_n (q := 48) C dX10_byKind_47 rfl rfl ?_
    refine V.iadd (q := 49) C dX10_byKind_48 rfl ?_
    refine V.topi (x1 := nI ((3 * 0) + 1)) (nI_add _ _) ?_
    refine V.ild (q := 50) (i := ((3 * 0) + 1)) C dX10_byKind_49 rfl okM_23 rfl rfl (by omega) (by decide) ?_
    try dsimp only
    refine V.topi (x1 := nI (11)) (by decide) ?_
    refine V.callVi (q := 53) C me_X10_body (m_body (by first | omega | (simp only [bdy_n]; omega))) ml_X10_255 dX10_byKind_50 rfl okM ⟨_, rfl⟩ rfl rfl (Nat.le_of_ble_eq_true rfl) (by omega) (Nat.zero_le _) (Nat.zero_le _) ?_
    refine V.lookup (off := 96) (tgt := 149) C dX10_byKind_53 (by decide) (by decide) rfl ?_
    refine V.aload_n (q := 150) C dX10_byKind_149 rfl rfl ?_
    refine V.iload_n (q := 151) C dX10_byKind_150 rfl rfl ?_
    refine V.iconst (q := 152) (v := nI 0) C dX10_byKind_151 rfl (by decide) ?_
    refine V.iload (q := 154) C dX10_byKind_152 rfl rfl ?_
    refine V.callVi (q := 157) C me_X10_begin (m_begin0 (lv := 4) (by omega) hi hK hk (by rw [bdy_n]; omega)) ml_X10_258 dX10_byKind_154 rfl okM ⟨_, rfl⟩ rfl rfl (Nat.le_of_ble_eq_true rfl) (by omega) (Nat.zero_le _) (Nat.zero_le _) ?_
    refine V.aload_n (q := 158) C dX10_byKind_157 rfl rfl ?_
    refine V.iload_n (q := 159) C dX10_byKind_158 rfl rfl ?_
    refine V.iconst (q := 160) (v := nI 1) C dX10_byKind_159 rfl (by decide) ?_
    refine V.callVi (q := 163) C me_X10_one (m_one (by omega)) ml_X10_86 dX10_byKind_160 rfl okM ⟨_, rfl⟩ rfl rfl (Nat.le_of_ble_eq_true rfl) (by omega) (Nat.zero_le _) (Nat.zero_le _) ?_
    refine V.isub (q := 164) C dX10_byKind_163 rfl ?_
    exact V.ireturn C dX10_byKind_164 ⟨by rw [eq1_0] <;> rfl, by rw [eq1_0] <;> rfl, rfl⟩
  · exact absurd hb14 (by decide)
theorem m_bk1_2 {l : Launch} {g : GG} {X : PHp} {now mind : I1} {th : I1 × Int32} {tx : TXt} {z : Zt} {s : TS} {tp : TPt} {lv i : Nat} {K : Nat} {x : Int32} (hlv : 5 ≤ lv) (hi : i < 6) (hK : K < 7) (hk : now (9 * i + 0) = nI K) (hs : s.2 ≤ 945) : Ct l g yX10_byKind cX10_byKind 7 (some .int) lv 0 0 [rf g (22, 0, 0), .int (nI 2), .int (nI i), .int (nI 1), .int x] NN (jn X (hM g now mind th tx z (s.1, nI s.2) tp)) (pI (knocksF i (now (9 * i + 1)) K 2 x s).1 (jn X (hM g now mind th tx z ((knocksF i (now (9 * i + 1)) K 2 x s).2.1, nI (knocksF i (now (9 * i + 1)) K 2 x s).2.2) tp))) := by
  refine Ct.of (lv := [some (rf g (22, 0, 0)), some (.int (nI 2)), some (.int (nI i)), some (.int (nI 1)), some (.int x), none, none]) (by decide +kernel) rfl (Nat.le_of_ble_eq_true rfl) ?_
  intro Γ C
  refine V.iload_n (q := 1) C dX10_byKind_0 rfl rfl ?_
  refine V.istore (q := 3) C dX10_byKind_1 rfl (by decide) rfl rfl ?_
  refine V.aload_n (q := 4) C dX10_byKind_3 rfl rfl ?_
  refine V.get (q := 7) C fl_X10_55 dX10_byKind_4 rfl okM rfl rfl ?_
  refine V.iconst (q := 8) (v := nI 3) C dX10_byKind_7 rfl (by decide) ?_
  refine V.iload (q := 10) C dX10_byKind_8 rfl rfl ?_
  refine V.imul (q := 11) C dX10_byKind_10 rfl ?_
  refine V.topi (x1 := nI (3 * 2)) (pk_mul _ _) ?_
  refine V.iload_n (q := 12) C dX10_byKind_11 rfl rfl ?_
  refine V.iadd (q := 13) C dX10_byKind_12 rfl ?_
  refine V.topi (x1 := nI ((3 * 2) + 1)) (nI_add _ _) ?_
  refine V.ild (q := 14) (i := ((3 * 2) + 1)) C dX10_byKind_13 rfl okM_23 rfl rfl (by omega) (by decide) ?_
  try dsimp only
  refine V.topi (x1 := nI (0)) (by decide) ?_
  refine V.if_ne (q := 17) (tgt := 29) C dX10_byKind_14 rfl rfl (fun hb14 => ?_) (fun hb14 => ?_)
  · exact absurd (by decide) hb14
  · refine V.aload_n (q := 18) C dX10_byKind_17 rfl rfl ?_
    refine V.get (q := 21) C fl_X10_52 dX10_byKind_18 rfl okM rfl rfl ?_
    refine V.iload (q := 23) C dX10_byKind_21 rfl rfl ?_
    refine V.ild (q := 24) (i := 2) C dX10_byKind_23 rfl okM_22 rfl rfl (by omega) (by decide) ?_
    try dsimp only
    refine V.topi (x1 := nI (0)) (by decide) ?_
    refine V.istore (q := 26) C dX10_byKind_24 rfl (by decide) rfl rfl ?_
    refine V.goto (tgt := 3) C dX10_byKind_26 rfl ?_
    refine V.aload_n (q := 4) C dX10_byKind_3 rfl rfl ?_
    refine V.get (q := 7) C fl_X10_55 dX10_byKind_4 rfl okM rfl rfl ?_
    refine V.iconst (q := 8) (v := nI 3) C dX10_byKind_7 rfl (by decide) ?_
    refine V.iload (q := 10) C dX10_byKind_8 rfl rfl ?_
    refine V.imul (q := 11) C dX10_byKind_10 rfl ?_
    refine V.topi (x1 := nI (3 * (0))) (pk_mul _ _) ?_
    refine V.iload_n (q := 12) C dX10_byKind_11 rfl rfl ?_
    refine V.iadd (q := 13) C dX10_byKind_12 rfl ?_
    refine V.topi (x1 := nI ((3 * (0)) + 1)) (nI_add _ _) ?_
    refine V.ild (q := 14) (i := ((3 * (0)) + 1)) C dX10_byKind_13 rfl okM_23 rfl rfl (by omega) (by decide) ?_
    try dsimp only
    refine V.topi (x1 := nI (11)) (by decide) ?_
    refine V.if_ne (q := 17) (tgt := 29) C dX10_byKind_14 rfl rfl (fun hb14 => ?_) (fun hb14 => ?_)
    · refine V.aload_n (q := 30) C dX10_byKind_29 rfl rfl ?_
      refine V.get (q := 33) C fl_X10_52 dX10_byKind_30 rfl okM rfl rfl ?_
      refine V.iload (q := 35) C dX10_byKind_33 rfl rfl ?_
      refine V.ild (q := 36) (i := (0)) C dX10_byKind_35 rfl okM_22 rfl rfl (by omega) (by decide) ?_
      try dsimp only
      refine V.topi (x1 := -1) (by decide) ?_
      refine V.istore (q := 38) C dX10_byKind_36 rfl (by decide) rfl rfl ?_
      refine V.aload_n (q := 39) C dX10_byKind_38 rfl rfl ?_
      refine V.aload_n (q := 40) C dX10_byKind_39 rfl rfl ?_
      refine V.get (q := 43) C fl_X10_55 dX10_byKind_40 rfl okM rfl rfl ?_
      refine V.iconst (q := 44) (v := nI 3) C dX10_byKind_43 rfl (by decide) ?_
      refine V.iload (q := 46) C dX10_byKind_44 rfl rfl ?_
      refine V.imul (q := 47) C dX10_byKind_46 rfl ?_
      refine V.topi (x1 := nI (3 * (0))) (pk_mul _ _) ?_
      refine V.iload_n (q := 48) C dX10_byKind_47 rfl rfl ?_
      refine V.iadd (q := 49) C dX10_byKind_48 rfl ?_
      refine V.topi (x1 := nI ((3 * (0)) + 1)) (nI_add _ _) ?_
      refine V.ild (q := 50) (i := ((3 * (0)) + 1)) C dX10_byKind_49 rfl okM_23 rfl rfl (by omega) (by decide) ?_
      try dsimp only
      refine V.topi (x1 := nI (11)) (by decide) ?_
      refine V.callVi (q := 53) C me_X10_body (m_body (by first | omega | (simp only [bdy_n]; omega))) ml_X10_255 dX10_byKind_50 rfl okM ⟨_, rfl⟩ rfl rfl (Nat.le_of_ble_eq_true rfl) (by omega) (Nat.zero_le _) (Nat.zero_le _) ?_
      refine V.lookup (off := 96) (tgt := 149) C dX10_byKind_53 (by decide) (by decide) rfl ?_
      refine V.aload_n (q := 150) C dX10_byKind_149 rfl rfl ?_
      refine V.iload_n (q := 151) C dX10_byKind_150 rfl rfl ?_
      refine V.iconst (q := 152) (v := nI 0) C dX10_byKind_151 rfl (by decide) ?_
      refine V.iload (q := 154) C dX10_byKind_152 rfl rfl ?_
      refine V.callVi (q := 157) C me_X10_begin (m_begin0 (lv := 4) (by omega) hi hK hk (by rw [bdy_n]; omega)) ml_X10_258 dX10_byKind_154 rfl okM ⟨_, rfl⟩ rfl rfl (Nat.le_of_ble_eq_true rfl) (by omega) (Nat.zero_le _) (Nat.zero_le _) ?_
      refine V.aload_n (q := 158) C dX10_byKind_157 rfl rfl ?_
      refine V.iload_n (q := 159) C dX10_byKind_158 rfl rfl ?_
      refine V.iconst (q := 160) (v := nI 1) C dX10_byKind_159 rfl (by decide) ?_
      refine V.callVi (q := 163) C me_X10_one (m_one (by omega)) ml_X10_86 dX10_byKind_160 rfl okM ⟨_, rfl⟩ rfl rfl (Nat.le_of_ble_eq_true rfl) (by omega) (Nat.zero_le _) (Nat.zero_le _) ?_
      refine V.isub (q := 164) C dX10_byKind_163 rfl ?_
      exact V.ireturn C dX10_byKind_164 ⟨by rw [eq1_2] <;> rfl, by rw [eq1_2] <;> rfl, rfl⟩
    · exact absurd hb14 (by decide)
theorem m_bk1_3 {l : Launch} {g : GG} {X : PHp} {now mind : I1} {th : I1 × Int32} {tx : TXt} {z : Zt} {s : TS} {tp : TPt} {lv i : Nat} {K : Nat} {x : Int32} (hlv : 5 ≤ lv) (hi : i < 6) (hK : K < 7) (hk : now (9 * i + 0) = nI K) (hs : s.2 ≤ 945) : Ct l g yX10_byKind cX10_byKind 7 (some .int) lv 0 0 [rf g (22, 0, 0), .int (nI 3), .int (nI i), .int (nI 1), .int x] NN (jn X (hM g now mind th tx z (s.1, nI s.2) tp)) (pI (knocksF i (now (9 * i + 1)) K 3 x s).1 (jn X (hM g now mind th tx z ((knocksF i (now (9 * i + 1)) K 3 x s).2.1, nI (knocksF i (now (9 * i + 1)) K 3 x s).2.2) tp))) := by
  refine Ct.of (lv := [some (rf g (22, 0, 0)), some (.int (nI 3)), some (.int (nI i)), some (.int (nI 1)), some (.int x), none, none]) (by decide +kernel) rfl (Nat.le_of_ble_eq_true rfl) ?_
  intro Γ C
  refine V.iload_n (q := 1) C dX10_byKind_0 rfl rfl ?_
  refine V.istore (q := 3) C dX10_byKind_1 rfl (by decide) rfl rfl ?_
  refine V.aload_n (q := 4) C dX10_byKind_3 rfl rfl ?_
  refine V.get (q := 7) C fl_X10_55 dX10_byKind_4 rfl okM rfl rfl ?_
  refine V.iconst (q := 8) (v := nI 3) C dX10_byKind_7 rfl (by decide) ?_
  refine V.iload (q := 10) C dX10_byKind_8 rfl rfl ?_
  refine V.imul (q := 11) C dX10_byKind_10 rfl ?_
  refine V.topi (x1 := nI (3 * 3)) (pk_mul _ _) ?_
  refine V.iload_n (q := 12) C dX10_byKind_11 rfl rfl ?_
  refine V.iadd (q := 13) C dX10_byKind_12 rfl ?_
  refine V.topi (x1 := nI ((3 * 3) + 1)) (nI_add _ _) ?_
  refine V.ild (q := 14) (i := ((3 * 3) + 1)) C dX10_byKind_13 rfl okM_23 rfl rfl (by omega) (by decide) ?_
  try dsimp only
  refine V.topi (x1 := nI (0)) (by decide) ?_
  refine V.if_ne (q := 17) (tgt := 29) C dX10_byKind_14 rfl rfl (fun hb14 => ?_) (fun hb14 => ?_)
  · exact absurd (by decide) hb14
  · refine V.aload_n (q := 18) C dX10_byKind_17 rfl rfl ?_
    refine V.get (q := 21) C fl_X10_52 dX10_byKind_18 rfl okM rfl rfl ?_
    refine V.iload (q := 23) C dX10_byKind_21 rfl rfl ?_
    refine V.ild (q := 24) (i := 3) C dX10_byKind_23 rfl okM_22 rfl rfl (by omega) (by decide) ?_
    try dsimp only
    refine V.topi (x1 := nI (0)) (by decide) ?_
    refine V.istore (q := 26) C dX10_byKind_24 rfl (by decide) rfl rfl ?_
    refine V.goto (tgt := 3) C dX10_byKind_26 rfl ?_
    refine V.aload_n (q := 4) C dX10_byKind_3 rfl rfl ?_
    refine V.get (q := 7) C fl_X10_55 dX10_byKind_4 rfl okM rfl rfl ?_
    refine V.iconst (q := 8) (v := nI 3) C dX10_byKind_7 rfl (by decide) ?_
    refine V.iload (q := 10) C dX10_byKind_8 rfl rfl ?_
    refine V.imul (q := 11) C dX10_byKind_10 rfl ?_
    refine V.topi (x1 := nI (3 * (0))) (pk_mul _ _) ?_
    refine V.iload_n (q := 12) C dX10_byKind_11 rfl rfl ?_
    refine V.iadd (q := 13) C dX10_byKind_12 rfl ?_
    refine V.topi (x1 := nI ((3 * (0)) + 1)) (nI_add _ _) ?_
    refine V.ild (q := 14) (i := ((3 * (0)) + 1)) C dX10_byKind_13 rfl okM_23 rfl rfl (by omega) (by decide) ?_
    try dsimp only
    refine V.topi (x1 := nI (11)) (by decide) ?_
    refine V.if_ne (q := 17) (tgt := 29) C dX10_byKind_14 rfl rfl (fun hb14 => ?_) (fun hb14 => ?_)
    · refine V.aload_n (q := 30) C dX10_byKind_29 rfl rfl ?_
      refine V.get (q := 33) C fl_X10_52 dX10_byKind_30 rfl okM rfl rfl ?_
      refine V.iload (q := 35) C dX10_byKind_33 rfl rfl ?_
      refine V.ild (q := 36) (i := (0)) C dX10_byKind_35 rfl okM_22 rfl rfl (by omega) (by decide) ?_
      try dsimp only
      refine V.topi (x1 := -1) (by decide) ?_
      refine V.istore (q := 38) C dX10_byKind_36 rfl (by decide) rfl rfl ?_
      refine V.aload_n (q := 39) C dX10_byKind_38 rfl rfl ?_
      refine V.aload_n (q := 40) C dX10_byKind_39 rfl rfl ?_
      refine V.get (q := 43) C fl_X10_55 dX10_byKind_40 rfl okM rfl rfl ?_
      refine V.iconst (q := 44) (v := nI 3) C dX10_byKind_43 rfl (by decide) ?_
      refine V.iload (q := 46) C dX10_byKind_44 rfl rfl ?_
      refine V.imul (q := 47) C dX10_byKind_46 rfl ?_
      refine V.topi (x1 := nI (3 * (0))) (pk_mul _ _) ?_
      refine V.iload_n (q := 48) C dX10_byKind_47 rfl rfl ?_
      refine V.iadd (q := 49) C dX10_byKind_48 rfl ?_
      refine V.topi (x1 := nI ((3 * (0)) + 1)) (nI_add _ _) ?_
      refine V.ild (q := 50) (i := ((3 * (0)) + 1)) C dX10_byKind_49 rfl okM_23 rfl rfl (by omega) (by decide) ?_
      try dsimp only
      refine V.topi (x1 := nI (11)) (by decide) ?_
      refine V.callVi (q := 53) C me_X10_body (m_body (by first | omega | (simp only [bdy_n]; omega))) ml_X10_255 dX10_byKind_50 rfl okM ⟨_, rfl⟩ rfl rfl (Nat.le_of_ble_eq_true rfl) (by omega) (Nat.zero_le _) (Nat.zero_le _) ?_
      refine V.lookup (off := 96) (tgt := 149) C dX10_byKind_53 (by decide) (by decide) rfl ?_
      refine V.aload_n (q := 150) C dX10_byKind_149 rfl rfl ?_
      refine V.iload_n (q := 151) C dX10_byKind_150 rfl rfl ?_
      refine V.iconst (q := 152) (v := nI 0) C dX10_byKind_151 rfl (by decide) ?_
      refine V.iload (q := 154) C dX10_byKind_152 rfl rfl ?_
      refine V.callVi (q := 157) C me_X10_begin (m_begin0 (lv := 4) (by omega) hi hK hk (by rw [bdy_n]; omega)) ml_X10_258 dX10_byKind_154 rfl okM ⟨_, rfl⟩ rfl rfl (Nat.le_of_ble_eq_true rfl) (by omega) (Nat.zero_le _) (Nat.zero_le _) ?_
      refine V.aload_n (q := 158) C dX10_byKind_157 rfl rfl ?_
      refine V.iload_n (q := 159) C dX10_byKind_158 rfl rfl ?_
      refine V.iconst (q := 160) (v := nI 1) C dX10_byKind_159 rfl (by decide) ?_
      refine V.callVi (q := 163) C me_X10_one (m_one (by omega)) ml_X10_86 dX10_byKind_160 rfl okM ⟨_, rfl⟩ rfl rfl (Nat.le_of_ble_eq_true rfl) (by omega) (Nat.zero_le _) (Nat.zero_le _) ?_
      refine V.isub (q := 164) C dX10_byKind_163 rfl ?_
      exact V.ireturn C dX10_byKind_164 ⟨by rw [eq1_3] <;> rfl, by rw [eq1_3] <;> rfl, rfl⟩
    · exact absurd hb14 (by decide)
theorem m_bk1_5 {l : Launch} {g : GG} {X : PHp} {now mind : I1} {th : I1 × Int32} {tx : TXt} {z : Zt} {s : TS} {tp : TPt} {lv i : Nat} {K : Nat} {x : Int32} (hlv : 5 ≤ lv) (hi : i < 6) (hK : K < 7) (hk : now (9 * i + 0) = nI K) (hs : s.2 ≤ 945) : Ct l g yX10_byKind cX10_byKind 7 (some .int) lv 0 0 [rf g (22, 0, 0), .int (nI 5), .int (nI i), .int (nI 1), .int x] NN (jn X (hM g now mind th tx z (s.1, nI s.2) tp)) (pI (knocksF i (now (9 * i + 1)) K 5 x s).1 (jn X (hM g now mind th tx z ((knocksF i (now (9 * i + 1)) K 5 x s).2.1, nI (knocksF i (now (9 * i + 1)) K 5 x s).2.2) tp))) := by
  refine Ct.of (lv := [some (rf g (22, 0, 0)), some (.int (nI 5)), some (.int (nI i)), some (.int (nI 1)), some (.int x), none, none]) (by decide +kernel) rfl (Nat.le_of_ble_eq_true rfl) ?_
  intro Γ C
  refine V.iload_n (q := 1) C dX10_byKind_0 rfl rfl ?_
  refine V.istore (q := 3) C dX10_byKind_1 rfl (by decide) rfl rfl ?_
  refine V.aload_n (q := 4) C dX10_byKind_3 rfl rfl ?_
  refine V.get (q := 7) C fl_X10_55 dX10_byKind_4 rfl okM rfl rfl ?_
  refine V.iconst (q := 8) (v := nI 3) C dX10_byKind_7 rfl (by decide) ?_
  refine V.iload (q := 10) C dX10_byKind_8 rfl rfl ?_
  refine V.imul (q := 11) C dX10_byKind_10 rfl ?_
  refine V.topi (x1 := nI (3 * 5)) (pk_mul _ _) ?_
  refine V.iload_n (q := 12) C dX10_byKind_11 rfl rfl ?_
  refine V.iadd (q := 13) C dX10_byKind_12 rfl ?_
  refine V.topi (x1 := nI ((3 * 5) + 1)) (nI_add _ _) ?_
  refine V.ild (q := 14) (i := ((3 * 5) + 1)) C dX10_byKind_13 rfl okM_23 rfl rfl (by omega) (by decide) ?_
  try dsimp only
  refine V.topi (x1 := nI (0)) (by decide) ?_
  refine V.if_ne (q := 17) (tgt := 29) C dX10_byKind_14 rfl rfl (fun hb14 => ?_) (fun hb14 => ?_)
  · exact absurd (by decide) hb14
  · refine V.aload_n (q := 18) C dX10_byKind_17 rfl rfl ?_
    refine V.get (q := 21) C fl_X10_52 dX10_byKind_18 rfl okM rfl rfl ?_
    refine V.iload (q := 23) C dX10_byKind_21 rfl rfl ?_
    refine V.ild (q := 24) (i := 5) C dX10_byKind_23 rfl okM_22 rfl rfl (by omega) (by decide) ?_
    try dsimp only
    refine V.topi (x1 := nI (2)) (by decide) ?_
    refine V.istore (q := 26) C dX10_byKind_24 rfl (by decide) rfl rfl ?_
    refine V.goto (tgt := 3) C dX10_byKind_26 rfl ?_
    refine V.aload_n (q := 4) C dX10_byKind_3 rfl rfl ?_
    refine V.get (q := 7) C fl_X10_55 dX10_byKind_4 rfl okM rfl rfl ?_
    refine V.iconst (q := 8) (v := nI 3) C dX10_byKind_7 rfl (by decide) ?_
    refine V.iload (q := 10) C dX10_byKind_8 rfl rfl ?_
    refine V.imul (q := 11) C dX10_byKind_10 rfl ?_
    refine V.topi (x1 := nI (3 * (2))) (pk_mul _ _) ?_
    refine V.iload_n (q := 12) C dX10_byKind_11 rfl rfl ?_
    refine V.iadd (q := 13) C dX10_byKind_12 rfl ?_
    refine V.topi (x1 := nI ((3 * (2)) + 1)) (nI_add _ _) ?_
    refine V.ild (q := 14) (i := ((3 * (2)) + 1)) C dX10_byKind_13 rfl okM_23 rfl rfl (by omega) (by decide) ?_
    try dsimp only
    refine V.topi (x1 := nI (0)) (by decide) ?_
    refine V.if_ne (q := 17) (tgt := 29) C dX10_byKind_14 rfl rfl (fun hb14 => ?_) (fun hb14 => ?_)
    · exact absurd (by decide) hb14
    · refine V.aload_n (q := 18) C dX10_byKind_17 rfl rfl ?_
      refine V.get (q := 21) C fl_X10_52 dX10_byKind_18 rfl okM rfl rfl ?_
      refine V.iload (q := 23) C dX10_byKind_21 rfl rfl ?_
      refine V.ild (q := 24) (i := (2)) C dX10_byKind_23 rfl okM_22 rfl rfl (by omega) (by decide) ?_
      try dsimp only
      refine V.topi (x1 := nI (0)) (by decide) ?_
      refine V.istore (q := 26) C dX10_byKind_24 rfl (by decide) rfl rfl ?_
      refine V.goto (tgt := 3) C dX10_byKind_26 rfl ?_
      refine V.aload_n (q := 4) C dX10_byKind_3 rfl rfl ?_
      refine V.get (q := 7) C fl_X10_55 dX10_byKind_4 rfl okM rfl rfl ?_
      refine V.iconst (q := 8) (v := nI 3) C dX10_byKind_7 rfl (by decide) ?_
      refine V.iload (q := 10) C dX10_byKind_8 rfl rfl ?_
      refine V.imul (q := 11) C dX10_byKind_10 rfl ?_
      refine V.topi (x1 := nI (3 * (0))) (pk_mul _ _) ?_
      refine V.iload_n (q := 12) C dX10_byKind_11 rfl rfl ?_
      refine V.iadd (q := 13) C dX10_byKind_12 rfl ?_
      refine V.topi (x1 := nI ((3 * (0)) + 1)) (nI_add _ _) ?_
      refine V.ild (q := 14) (i := ((3 * (0)) + 1)) C dX10_byKind_13 rfl okM_23 rfl rfl (by omega) (by decide) ?_
      try dsimp only
      refine V.topi (x1 := nI (11)) (by decide) ?_
      refine V.if_ne (q := 17) (tgt := 29) C dX10_byKind_14 rfl rfl (fun hb14 => ?_) (fun hb14 => ?_)
      · refine V.aload_n (q := 30) C dX10_byKind_29 rfl rfl ?_
        refine V.get (q := 33) C fl_X10_52 dX10_byKind_30 rfl okM rfl rfl ?_
        refine V.iload (q := 35) C dX10_byKind_33 rfl rfl ?_
        refine V.ild (q := 36) (i := (0)) C dX10_byKind_35 rfl okM_22 rfl rfl (by omega) (by decide) ?_
        try dsimp only
        refine V.topi (x1 := -1) (by decide) ?_
        refine V.istore (q := 38) C dX10_byKind_36 rfl (by decide) rfl rfl ?_
        refine V.aload_n (q := 39) C dX10_byKind_38 rfl rfl ?_
        refine V.aload_n (q := 40) C dX10_byKind_39 rfl rfl ?_
        refine V.get (q := 43) C fl_X10_55 dX10_byKind_40 rfl okM rfl rfl ?_
        refine V.iconst (q := 44) (v := nI 3) C dX10_byKind_43 rfl (by decide) ?_
        refine V.iload (q := 46) C dX10_byKind_44 rfl rfl ?_
        refine V.imul (q := 47) C dX10_byKind_46 rfl ?_
        refine V.topi (x1 := nI (3 * (0))) (pk_mul _ _) ?_
        refine V.iload_n (q := 48) C dX10_byKind_47 rfl rfl ?_
        refine V.iadd (q := 49) C dX10_byKind_48 rfl ?_
        refine V.topi (x1 := nI ((3 * (0)) + 1)) (nI_add _ _) ?_
        refine V.ild (q := 50) (i := ((3 * (0)) + 1)) C dX10_byKind_49 rfl okM_23 rfl rfl (by omega) (by decide) ?_
        try dsimp only
        refine V.topi (x1 := nI (11)) (by decide) ?_
        refine V.callVi (q := 53) C me_X10_body (m_body (by first | omega | (simp only [bdy_n]; omega))) ml_X10_255 dX10_byKind_50 rfl okM ⟨_, rfl⟩ rfl rfl (Nat.le_of_ble_eq_true rfl) (by omega) (Nat.zero_le _) (Nat.zero_le _) ?_
        refine V.lookup (off := 96) (tgt := 149) C dX10_byKind_53 (by decide) (by decide) rfl ?_
        refine V.aload_n (q := 150) C dX10_byKind_149 rfl rfl ?_
        refine V.iload_n (q := 151) C dX10_byKind_150 rfl rfl ?_
        refine V.iconst (q := 152) (v := nI 0) C dX10_byKind_151 rfl (by decide) ?_
        refine V.iload (q := 154) C dX10_byKind_152 rfl rfl ?_
        refine V.callVi (q := 157) C me_X10_begin (m_begin0 (lv := 4) (by omega) hi hK hk (by rw [bdy_n]; omega)) ml_X10_258 dX10_byKind_154 rfl okM ⟨_, rfl⟩ rfl rfl (Nat.le_of_ble_eq_true rfl) (by omega) (Nat.zero_le _) (Nat.zero_le _) ?_
        refine V.aload_n (q := 158) C dX10_byKind_157 rfl rfl ?_
        refine V.iload_n (q := 159) C dX10_byKind_158 rfl rfl ?_
        refine V.iconst (q := 160) (v := nI 1) C dX10_byKind_159 rfl (by decide) ?_
        refine V.callVi (q := 163) C me_X10_one (m_one (by omega)) ml_X10_86 dX10_byKind_160 rfl okM ⟨_, rfl⟩ rfl rfl (Nat.le_of_ble_eq_true rfl) (by omega) (Nat.zero_le _) (Nat.zero_le _) ?_
        refine V.isub (q := 164) C dX10_byKind_163 rfl ?_
        exact V.ireturn C dX10_byKind_164 ⟨by rw [eq1_5] <;> rfl, by rw [eq1_5] <;> rfl, rfl⟩
      · exact absurd hb14 (by decide)
theorem m_bk1_1 {l : Launch} {g : GG} {X : PHp} {now mind : I1} {th : I1 × Int32} {tx : TXt} {z : Zt} {s : TS} {tp : TPt} {lv i : Nat} {K : Nat} {x : Int32} (hlv : 6 ≤ lv) (hi : i < 6) (hK : K < 7) (hk : now (9 * i + 0) = nI K) (hs : s.2 ≤ 944) : Ct l g yX10_byKind cX10_byKind 7 (some .int) lv 0 0 [rf g (22, 0, 0), .int (nI 1), .int (nI i), .int (nI 1), .int x] NN (jn X (hM g now mind th tx z (s.1, nI s.2) tp)) (pI (knocksF i (now (9 * i + 1)) K 1 x s).1 (jn X (hM g now mind th tx z ((knocksF i (now (9 * i + 1)) K 1 x s).2.1, nI (knocksF i (now (9 * i + 1)) K 1 x s).2.2) tp))) := by
  refine Ct.of (lv := [some (rf g (22, 0, 0)), some (.int (nI 1)), some (.int (nI i)), some (.int (nI 1)), some (.int x), none, none]) (by decide +kernel) rfl (Nat.le_of_ble_eq_true rfl) ?_
  intro Γ C
  refine V.iload_n (q := 1) C dX10_byKind_0 rfl rfl ?_
  refine V.istore (q := 3) C dX10_byKind_1 rfl (by decide) rfl rfl ?_
  refine V.aload_n (q := 4) C dX10_byKind_3 rfl rfl ?_
  refine V.get (q := 7) C fl_X10_55 dX10_byKind_4 rfl okM rfl rfl ?_
  refine V.iconst (q := 8) (v := nI 3) C dX10_byKind_7 rfl (by decide) ?_
  refine V.iload (q := 10) C dX10_byKind_8 rfl rfl ?_
  refine V.imul (q := 11) C dX10_byKind_10 rfl ?_
  refine V.topi (x1 := nI (3 * 1)) (pk_mul _ _) ?_
  refine V.iload_n (q := 12) C dX10_byKind_11 rfl rfl ?_
  refine V.iadd (q := 13) C dX10_byKind_12 rfl ?_
  refine V.topi (x1 := nI ((3 * 1) + 1)) (nI_add _ _) ?_
  refine V.ild (q := 14) (i := ((3 * 1) + 1)) C dX10_byKind_13 rfl okM_23 rfl rfl (by omega) (by decide) ?_
  try dsimp only
  refine V.topi (x1 := nI (20)) (by decide) ?_
  refine V.if_ne (q := 17) (tgt := 29) C dX10_byKind_14 rfl rfl (fun hb14 => ?_) (fun hb14 => ?_)
  · refine V.aload_n (q := 30) C dX10_byKind_29 rfl rfl ?_
    refine V.get (q := 33) C fl_X10_52 dX10_byKind_30 rfl okM rfl rfl ?_
    refine V.iload (q := 35) C dX10_byKind_33 rfl rfl ?_
    refine V.ild (q := 36) (i := 1) C dX10_byKind_35 rfl okM_22 rfl rfl (by omega) (by decide) ?_
    try dsimp only
    refine V.topi (x1 := nI (0)) (by decide) ?_
    refine V.istore (q := 38) C dX10_byKind_36 rfl (by decide) rfl rfl ?_
    refine V.aload_n (q := 39) C dX10_byKind_38 rfl rfl ?_
    refine V.aload_n (q := 40) C dX10_byKind_39 rfl rfl ?_
    refine V.get (q := 43) C fl_X10_55 dX10_byKind_40 rfl okM rfl rfl ?_
    refine V.iconst (q := 44) (v := nI 3) C dX10_byKind_43 rfl (by decide) ?_
    refine V.iload (q := 46) C dX10_byKind_44 rfl rfl ?_
    refine V.imul (q := 47) C dX10_byKind_46 rfl ?_
    refine V.topi (x1 := nI (3 * 1)) (pk_mul _ _) ?_
    refine V.iload_n (q := 48) C dX10_byKind_47 rfl rfl ?_
    refine V.iadd (q := 49) C dX10_byKind_48 rfl ?_
    refine V.topi (x1 := nI ((3 * 1) + 1)) (nI_add _ _) ?_
    refine V.ild (q := 50) (i := ((3 * 1) + 1)) C dX10_byKind_49 rfl okM_23 rfl rfl (by omega) (by decide) ?_
    try dsimp only
    refine V.topi (x1 := nI (20)) (by decide) ?_
    refine V.callVi (q := 53) C me_X10_body (m_body (by first | omega | (simp only [bdy_n]; omega))) ml_X10_255 dX10_byKind_50 rfl okM ⟨_, rfl⟩ rfl rfl (Nat.le_of_ble_eq_true rfl) (by omega) (Nat.zero_le _) (Nat.zero_le _) ?_
    refine V.lookup (off := 123) (tgt := 176) C dX10_byKind_53 (by decide) (by decide) rfl ?_
    refine V.aload_n (q := 177) C dX10_byKind_176 rfl rfl ?_
    refine V.iload (q := 179) C dX10_byKind_177 rfl rfl ?_
    refine V.iload_n (q := 180) C dX10_byKind_179 rfl rfl ?_
    refine V.iconst (q := 181) (v := nI 1) C dX10_byKind_180 rfl (by decide) ?_
    refine V.iload (q := 183) C dX10_byKind_181 rfl rfl ?_
    refine V.callVi (q := 186) C me_X10_byKind (m_bk1_0 (lv := 5) (by omega) hi hK hk (by rw [bdy_n]; omega)) ml_X10_252 dX10_byKind_183 rfl okM ⟨_, rfl⟩ rfl rfl (Nat.le_of_ble_eq_true rfl) (by omega) (Nat.zero_le _) (Nat.zero_le _) ?_
    refine V.bipush (q := 188) (v := nI 6) C dX10_byKind_186 rfl (by decide) ?_
    refine V.ixor (q := 189) C dX10_byKind_188 rfl ?_
    exact V.ireturn C dX10_byKind_189 ⟨by rw [eq1_1] <;> rfl, by rw [eq1_1] <;> rfl, rfl⟩
  · exact absurd hb14 (by decide)
theorem m_bk1_4 {l : Launch} {g : GG} {X : PHp} {now mind : I1} {th : I1 × Int32} {tx : TXt} {z : Zt} {s : TS} {tp : TPt} {lv i : Nat} {K : Nat} {x : Int32} (hlv : 7 ≤ lv) (hi : i < 6) (hK : K < 7) (hk : now (9 * i + 0) = nI K) (hs : s.2 ≤ 943) : Ct l g yX10_byKind cX10_byKind 7 (some .int) lv 0 0 [rf g (22, 0, 0), .int (nI 4), .int (nI i), .int (nI 1), .int x] NN (jn X (hM g now mind th tx z (s.1, nI s.2) tp)) (pI (knocksF i (now (9 * i + 1)) K 4 x s).1 (jn X (hM g now mind th tx z ((knocksF i (now (9 * i + 1)) K 4 x s).2.1, nI (knocksF i (now (9 * i + 1)) K 4 x s).2.2) tp))) := by
  refine Ct.of (lv := [some (rf g (22, 0, 0)), some (.int (nI 4)), some (.int (nI i)), some (.int (nI 1)), some (.int x), none, none]) (by decide +kernel) rfl (Nat.le_of_ble_eq_true rfl) ?_
  intro Γ C
  refine V.iload_n (q := 1) C dX10_byKind_0 rfl rfl ?_
  refine V.istore (q := 3) C dX10_byKind_1 rfl (by decide) rfl rfl ?_
  refine V.aload_n (q := 4) C dX10_byKind_3 rfl rfl ?_
  refine V.get (q := 7) C fl_X10_55 dX10_byKind_4 rfl okM rfl rfl ?_
  refine V.iconst (q := 8) (v := nI 3) C dX10_byKind_7 rfl (by decide) ?_
  refine V.iload (q := 10) C dX10_byKind_8 rfl rfl ?_
  refine V.imul (q := 11) C dX10_byKind_10 rfl ?_
  refine V.topi (x1 := nI (3 * 4)) (pk_mul _ _) ?_
  refine V.iload_n (q := 12) C dX10_byKind_11 rfl rfl ?_
  refine V.iadd (q := 13) C dX10_byKind_12 rfl ?_
  refine V.topi (x1 := nI ((3 * 4) + 1)) (nI_add _ _) ?_
  refine V.ild (q := 14) (i := ((3 * 4) + 1)) C dX10_byKind_13 rfl okM_23 rfl rfl (by omega) (by decide) ?_
  try dsimp only
  refine V.topi (x1 := nI (51)) (by decide) ?_
  refine V.if_ne (q := 17) (tgt := 29) C dX10_byKind_14 rfl rfl (fun hb14 => ?_) (fun hb14 => ?_)
  · refine V.aload_n (q := 30) C dX10_byKind_29 rfl rfl ?_
    refine V.get (q := 33) C fl_X10_52 dX10_byKind_30 rfl okM rfl rfl ?_
    refine V.iload (q := 35) C dX10_byKind_33 rfl rfl ?_
    refine V.ild (q := 36) (i := 4) C dX10_byKind_35 rfl okM_22 rfl rfl (by omega) (by decide) ?_
    try dsimp only
    refine V.topi (x1 := nI (1)) (by decide) ?_
    refine V.istore (q := 38) C dX10_byKind_36 rfl (by decide) rfl rfl ?_
    refine V.aload_n (q := 39) C dX10_byKind_38 rfl rfl ?_
    refine V.aload_n (q := 40) C dX10_byKind_39 rfl rfl ?_
    refine V.get (q := 43) C fl_X10_55 dX10_byKind_40 rfl okM rfl rfl ?_
    refine V.iconst (q := 44) (v := nI 3) C dX10_byKind_43 rfl (by decide) ?_
    refine V.iload (q := 46) C dX10_byKind_44 rfl rfl ?_
    refine V.imul (q := 47) C dX10_byKind_46 rfl ?_
    refine V.topi (x1 := nI (3 * 4)) (pk_mul _ _) ?_
    refine V.iload_n (q := 48) C dX10_byKind_47 rfl rfl ?_
    refine V.iadd (q := 49) C dX10_byKind_48 rfl ?_
    refine V.topi (x1 := nI ((3 * 4) + 1)) (nI_add _ _) ?_
    refine V.ild (q := 50) (i := ((3 * 4) + 1)) C dX10_byKind_49 rfl okM_23 rfl rfl (by omega) (by decide) ?_
    try dsimp only
    refine V.topi (x1 := nI (51)) (by decide) ?_
    refine V.callVi (q := 53) C me_X10_body (m_body (by first | omega | (simp only [bdy_n]; omega))) ml_X10_255 dX10_byKind_50 rfl okM ⟨_, rfl⟩ rfl rfl (Nat.le_of_ble_eq_true rfl) (by omega) (Nat.zero_le _) (Nat.zero_le _) ?_
    refine V.lookup (off := 181) (tgt := 234) C dX10_byKind_53 (by decide) (by decide) rfl ?_
    refine V.aload_n (q := 235) C dX10_byKind_234 rfl rfl ?_
    refine V.iload (q := 237) C dX10_byKind_235 rfl rfl ?_
    refine V.iload_n (q := 238) C dX10_byKind_237 rfl rfl ?_
    refine V.iconst (q := 239) (v := nI 1) C dX10_byKind_238 rfl (by decide) ?_
    refine V.iload (q := 241) C dX10_byKind_239 rfl rfl ?_
    refine V.iconst (q := 242) (v := nI 1) C dX10_byKind_241 rfl (by decide) ?_
    refine V.iadd (q := 243) C dX10_byKind_242 rfl ?_
    refine V.callVi (q := 246) C me_X10_byKind (m_bk1_1 (lv := 6) (by omega) hi hK hk (by rw [bdy_n]; omega)) ml_X10_252 dX10_byKind_243 rfl okM ⟨_, rfl⟩ rfl rfl (Nat.le_of_ble_eq_true rfl) (by omega) (Nat.zero_le _) (Nat.zero_le _) ?_
    exact V.ireturn C dX10_byKind_246 ⟨by rw [eq1_4] <;> rfl, by rw [eq1_4] <;> rfl, rfl⟩
  · exact absurd hb14 (by decide)
theorem m_bk1_6 {l : Launch} {g : GG} {X : PHp} {now mind : I1} {th : I1 × Int32} {tx : TXt} {z : Zt} {s : TS} {tp : TPt} {lv i : Nat} {K : Nat} {x : Int32} (hlv : 7 ≤ lv) (hi : i < 6) (hK : K < 7) (hk : now (9 * i + 0) = nI K) (hs : s.2 ≤ 940) : Ct l g yX10_byKind cX10_byKind 7 (some .int) lv 0 0 [rf g (22, 0, 0), .int (nI 6), .int (nI i), .int (nI 1), .int x] NN (jn X (hM g now mind th tx z (s.1, nI s.2) tp)) (pI (knocksF i (now (9 * i + 1)) K 6 x s).1 (jn X (hM g now mind th tx z ((knocksF i (now (9 * i + 1)) K 6 x s).2.1, nI (knocksF i (now (9 * i + 1)) K 6 x s).2.2) tp))) := by
  refine Ct.of (lv := [some (rf g (22, 0, 0)), some (.int (nI 6)), some (.int (nI i)), some (.int (nI 1)), some (.int x), none, none]) (by decide +kernel) rfl (Nat.le_of_ble_eq_true rfl) ?_
  intro Γ C
  refine V.iload_n (q := 1) C dX10_byKind_0 rfl rfl ?_
  refine V.istore (q := 3) C dX10_byKind_1 rfl (by decide) rfl rfl ?_
  refine V.aload_n (q := 4) C dX10_byKind_3 rfl rfl ?_
  refine V.get (q := 7) C fl_X10_55 dX10_byKind_4 rfl okM rfl rfl ?_
  refine V.iconst (q := 8) (v := nI 3) C dX10_byKind_7 rfl (by decide) ?_
  refine V.iload (q := 10) C dX10_byKind_8 rfl rfl ?_
  refine V.imul (q := 11) C dX10_byKind_10 rfl ?_
  refine V.topi (x1 := nI (3 * 6)) (pk_mul _ _) ?_
  refine V.iload_n (q := 12) C dX10_byKind_11 rfl rfl ?_
  refine V.iadd (q := 13) C dX10_byKind_12 rfl ?_
  refine V.topi (x1 := nI ((3 * 6) + 1)) (nI_add _ _) ?_
  refine V.ild (q := 14) (i := ((3 * 6) + 1)) C dX10_byKind_13 rfl okM_23 rfl rfl (by omega) (by decide) ?_
  try dsimp only
  refine V.topi (x1 := nI (70)) (by decide) ?_
  refine V.if_ne (q := 17) (tgt := 29) C dX10_byKind_14 rfl rfl (fun hb14 => ?_) (fun hb14 => ?_)
  · refine V.aload_n (q := 30) C dX10_byKind_29 rfl rfl ?_
    refine V.get (q := 33) C fl_X10_52 dX10_byKind_30 rfl okM rfl rfl ?_
    refine V.iload (q := 35) C dX10_byKind_33 rfl rfl ?_
    refine V.ild (q := 36) (i := 6) C dX10_byKind_35 rfl okM_22 rfl rfl (by omega) (by decide) ?_
    try dsimp only
    refine V.topi (x1 := nI (3)) (by decide) ?_
    refine V.istore (q := 38) C dX10_byKind_36 rfl (by decide) rfl rfl ?_
    refine V.aload_n (q := 39) C dX10_byKind_38 rfl rfl ?_
    refine V.aload_n (q := 40) C dX10_byKind_39 rfl rfl ?_
    refine V.get (q := 43) C fl_X10_55 dX10_byKind_40 rfl okM rfl rfl ?_
    refine V.iconst (q := 44) (v := nI 3) C dX10_byKind_43 rfl (by decide) ?_
    refine V.iload (q := 46) C dX10_byKind_44 rfl rfl ?_
    refine V.imul (q := 47) C dX10_byKind_46 rfl ?_
    refine V.topi (x1 := nI (3 * 6)) (pk_mul _ _) ?_
    refine V.iload_n (q := 48) C dX10_byKind_47 rfl rfl ?_
    refine V.iadd (q := 49) C dX10_byKind_48 rfl ?_
    refine V.topi (x1 := nI ((3 * 6) + 1)) (nI_add _ _) ?_
    refine V.ild (q := 50) (i := ((3 * 6) + 1)) C dX10_byKind_49 rfl okM_23 rfl rfl (by omega) (by decide) ?_
    try dsimp only
    refine V.topi (x1 := nI (70)) (by decide) ?_
    refine V.callVi (q := 53) C me_X10_body (m_body (by first | omega | (simp only [bdy_n]; omega))) ml_X10_255 dX10_byKind_50 rfl okM ⟨_, rfl⟩ rfl rfl (Nat.le_of_ble_eq_true rfl) (by omega) (Nat.zero_le _) (Nat.zero_le _) ?_
    refine V.lookup (off := 207) (tgt := 260) C dX10_byKind_53 (by decide) (by decide) rfl ?_
    refine V.aload_n (q := 261) C dX10_byKind_260 rfl rfl ?_
    refine V.iload (q := 263) C dX10_byKind_261 rfl rfl ?_
    refine V.iload_n (q := 264) C dX10_byKind_263 rfl rfl ?_
    refine V.iconst (q := 265) (v := nI 1) C dX10_byKind_264 rfl (by decide) ?_
    refine V.iload (q := 267) C dX10_byKind_265 rfl rfl ?_
    refine V.callVi (q := 270) C me_X10_byKind (m_bk1_3 (lv := 5) (by omega) hi hK hk (by rw [bdy_n]; omega)) ml_X10_252 dX10_byKind_267 rfl okM ⟨_, rfl⟩ rfl rfl (Nat.le_of_ble_eq_true rfl) (by omega) (Nat.zero_le _) (Nat.zero_le _) ?_
    refine V.aload_n (q := 271) C dX10_byKind_270 rfl rfl ?_
    refine V.iload (q := 273) C dX10_byKind_271 rfl rfl ?_
    refine V.iload_n (q := 274) C dX10_byKind_273 rfl rfl ?_
    refine V.iconst (q := 275) (v := nI 0) C dX10_byKind_274 rfl (by decide) ?_
    refine V.iconst (q := 276) (v := nI 2) C dX10_byKind_275 rfl (by decide) ?_
    refine V.callVi (q := 279) C me_X10_byKind (m_bk0_3 (lv := 2) (by omega) hi (by have h1 := @knocksF_n i (now (9 * i + 1)) K 3 x (bdy (nI 70) s); rw [bdy_n] at h1; omega)) ml_X10_252 dX10_byKind_276 rfl okM ⟨_, rfl⟩ rfl rfl (Nat.le_of_ble_eq_true rfl) (by omega) (Nat.zero_le _) (Nat.zero_le _) ?_
    refine V.iadd (q := 280) C dX10_byKind_279 rfl ?_
    exact V.ireturn C dX10_byKind_280 ⟨by rw [eq1_6] <;> rfl, by rw [eq1_6] <;> rfl, rfl⟩
  · exact absurd hb14 (by decide)
theorem m_bk1 {l : Launch} {g : GG} {X : PHp} {now mind : I1} {th : I1 × Int32} {tx : TXt} {z : Zt} {s : TS} {tp : TPt} {lv i q : Nat} {K : Nat} {x : Int32} (hlv : 7 ≤ lv) (hi : i < 6) (hK : K < 7) (hk : now (9 * i + 0) = nI K) (hs : s.2 ≤ 940) (hq : q < 7) : Ct l g yX10_byKind cX10_byKind 7 (some .int) lv 0 0 [rf g (22, 0, 0), .int (nI q), .int (nI i), .int (nI 1), .int x] NN (jn X (hM g now mind th tx z (s.1, nI s.2) tp)) (pI (knocksF i (now (9 * i + 1)) K q x s).1 (jn X (hM g now mind th tx z ((knocksF i (now (9 * i + 1)) K q x s).2.1, nI (knocksF i (now (9 * i + 1)) K q x s).2.2) tp))) := by
  obtain rfl | rfl | rfl | rfl | rfl | rfl | rfl := (show q = 0 ∨ q = 1 ∨ q = 2 ∨ q = 3 ∨ q = 4 ∨ q = 5 ∨ q = 6 by omega)
  · exact m_bk1_0 (by omega) hi hK hk (by omega)
  · exact m_bk1_1 (by omega) hi hK hk (by omega)
  · exact m_bk1_2 (by omega) hi hK hk (by omega)
  · exact m_bk1_3 (by omega) hi hK hk (by omega)
  · exact m_bk1_4 (by omega) hi hK hk (by omega)
  · exact m_bk1_5 (by omega) hi hK hk (by omega)
  · exact m_bk1_6 (by omega) hi hK hk (by omega)
theorem m_begin1 {l : Launch} {g : GG} {X : PHp} {now mind : I1} {th : I1 × Int32} {tx : TXt} {z : Zt} {s : TS} {tp : TPt} {lv i K : Nat} {x : Int32} (hlv : 8 ≤ lv) (hi : i < 6) (hK : K < 7) (hk : now (9 * i + 0) = nI K) (hs : s.2 ≤ 940) : Ct l g yX10_begin cX10_begin 4 (some .int) lv 0 0 [rf g (22, 0, 0), .int (nI i), .int (nI 1), .int x] NN (jn X (hM g now mind th tx z (s.1, nI s.2) tp)) (pI (knocksF i (now (9 * i + 1)) K K x s).1 (jn X (hM g now mind th tx z ((knocksF i (now (9 * i + 1)) K K x s).2.1, nI (knocksF i (now (9 * i + 1)) K K x s).2.2) tp))) := by
  refine Ct.of (lv := [some (rf g (22, 0, 0)), some (.int (nI i)), some (.int (nI 1)), some (.int x)]) (by decide +kernel) rfl (Nat.le_of_ble_eq_true rfl) ?_
  intro Γ C
  refine V.aload_n (q := 1) C dX10_begin_0 rfl rfl ?_
  refine V.aload_n (q := 2) C dX10_begin_1 rfl rfl ?_
  refine V.iload_n (q := 3) C dX10_begin_2 rfl rfl ?_
  refine V.iconst (q := 4) (v := nI 0) C dX10_begin_3 rfl (by decide) ?_
  refine V.callVi (q := 7) C me_X10_one (m_one (by omega)) ml_X10_86 dX10_begin_4 rfl okM ⟨_, rfl⟩ rfl rfl (Nat.le_of_ble_eq_true rfl) (by omega) (Nat.zero_le _) (Nat.zero_le _) ?_
  refine V.topi (x1 := nI (K)) hk ?_
  refine V.iload_n (q := 8) C dX10_begin_7 rfl rfl ?_
  refine V.iload_n (q := 9) C dX10_begin_8 rfl rfl ?_
  refine V.iload_n (q := 10) C dX10_begin_9 rfl rfl ?_
  refine V.callVi (q := 13) C me_X10_byKind (m_bk1 (lv := 7) (by omega) hi hK hk hs hK) ml_X10_252 dX10_begin_10 rfl okM ⟨_, rfl⟩ rfl rfl (Nat.le_of_ble_eq_true rfl) (by omega) (Nat.zero_le _) (Nat.zero_le _) ?_
  exact V.ireturn C dX10_begin_13 ⟨rfl, rfl, rfl⟩
theorem m_bk2_0 {l : Launch} {g : GG} {X : PHp} {now mind : I1} {th : I1 × Int32} {tx : TXt} {z : Zt} {s : TS} {tp : TPt} {lv i : Nat} {K : Nat} {x : Int32} (hlv : 9 ≤ lv) (hi : i < 6) (hK : K < 7) (hk : now (9 * i + 0) = nI K) (hs : s.2 ≤ 930) : Ct l g yX10_byKind cX10_byKind 7 (some .int) lv 0 0 [rf g (22, 0, 0), .int (nI 0), .int (nI i), .int (nI 2), .int x] NN (jn X (hM g now mind th tx z (s.1, nI s.2) tp)) (pI (tellsF i (now (9 * i + 1)) K 0 x s).1 (jn X (hM g now mind th tx z ((tellsF i (now (9 * i + 1)) K 0 x s).2.1, nI (tellsF i (now (9 * i + 1)) K 0 x s).2.2) tp))) := by
  refine Ct.of (lv := [some (rf g (22, 0, 0)), some (.int (nI 0)), some (.int (nI i)), some (.int (nI 2)), some (.int x), none, none]) (by decide +kernel) rfl (Nat.le_of_ble_eq_true rfl) ?_
  intro Γ C
  refine V.iload_n (q := 1) C dX10_byKind_0 rfl rfl ?_
  refine V.istore (q := 3) C dX10_byKind_1 rfl (by decide) rfl rfl ?_
  refine V.aload_n (q := 4) C dX10_byKind_3 rfl rfl ?_
  refine V.get (q := 7) C fl_X10_55 dX10_byKind_4 rfl okM rfl rfl ?_
  refine V.iconst (q := 8) (v := nI 3) C dX10_byKind_7 rfl (by decide) ?_
  refine V.iload (q := 10) C dX10_byKind_8 rfl rfl ?_
  refine V.imul (q := 11) C dX10_byKind_10 rfl ?_
  refine V.topi (x1 := nI (3 * 0)) (pk_mul _ _) ?_
  refine V.iload_n (q := 12) C dX10_byKind_11 rfl rfl ?_
  refine V.iadd (q := 13) C dX10_byKind_12 rfl ?_
  refine V.topi (x1 := nI ((3 * 0) + 2)) (nI_add _ _) ?_
  refine V.ild (q := 14) (i := ((3 * 0) + 2)) C dX10_byKind_13 rfl okM_23 rfl rfl (by omega) (by decide) ?_
  try dsimp only
  refine V.topi (x1 := nI (12)) (by decide) ?_
  refine V.if_ne (q := 17) (tgt := 29) C dX10_byKind_14 rfl rfl (fun hb14 => ?_) (fun hb14 => ?_)
  · refine V.aload_n (q := 30) C dX10_byKind_29 rfl rfl ?_
    refine V.get (q := 33) C fl_X10_52 dX10_byKind_30 rfl okM rfl rfl ?_
    refine V.iload (q := 35) C dX10_byKind_33 rfl rfl ?_
    refine V.ild (q := 36) (i := 0) C dX10_byKind_35 rfl okM_22 rfl rfl (by omega) (by decide) ?_
    try dsimp only
    refine V.topi (x1 := -1) (by decide) ?_
    refine V.istore (q := 38) C dX10_byKind_36 rfl (by decide) rfl rfl ?_
    refine V.aload_n (q := 39) C dX10_byKind_38 rfl rfl ?_
    refine V.aload_n (q := 40) C dX10_byKind_39 rfl rfl ?_
    refine V.get (q := 43) C fl_X10_55 dX10_byKind_40 rfl okM rfl rfl ?_
    refine V.iconst (q := 44) (v := nI 3) C dX10_byKind_43 rfl (by decide) ?_
    refine V.iload (q := 46) C dX10_byKind_44 rfl rfl ?_
    refine V.imul (q := 47) C dX10_byKind_46 rfl ?_
    refine V.topi (x1 := nI (3 * 0)) (pk_mul _ _) ?_
    refine V.iload_n (q := 48) C dX10_byKind_47 rfl rfl ?_
    refine V.iadd (q := 49) C dX10_byKind_48 rfl ?_
    refine V.topi (x1 := nI ((3 * 0) + 2)) (nI_add _ _) ?_
    refine V.ild (q := 50) (i := ((3 * 0) + 2)) C dX10_byKind_49 rfl okM_23 rfl rfl (by omega) (by decide) ?_
    try dsimp only
    refine V.topi (x1 := nI (12)) (by decide) ?_
    refine V.callVi (q := 53) C me_X10_body (m_body (by first | omega | (simp only [bdy_n]; omega))) ml_X10_255 dX10_byKind_50 rfl okM ⟨_, rfl⟩ rfl rfl (Nat.le_of_ble_eq_true rfl) (by omega) (Nat.zero_le _) (Nat.zero_le _) ?_
    refine V.lookup (off := 112) (tgt := 165) C dX10_byKind_53 (by decide) (by decide) rfl ?_
    refine V.aload_n (q := 166) C dX10_byKind_165 rfl rfl ?_
    refine V.iload_n (q := 167) C dX10_byKind_166 rfl rfl ?_
    refine V.iconst (q := 168) (v := nI 1) C dX10_byKind_167 rfl (by decide) ?_
    refine V.iload (q := 170) C dX10_byKind_168 rfl rfl ?_
    refine V.callVi (q := 173) C me_X10_begin (m_begin1 (lv := 8) (by omega) hi hK hk (by rw [bdy_n]; omega)) ml_X10_258 dX10_byKind_170 rfl okM ⟨_, rfl⟩ rfl rfl (Nat.le_of_ble_eq_true rfl) (by omega) (Nat.zero_le _) (Nat.zero_le _) ?_
    refine V.iconst (q := 174) (v := nI 2) C dX10_byKind_173 rfl (by decide) ?_
    refine V.imul (q := 175) C dX10_byKind_174 rfl ?_
    exact V.ireturn C dX10_byKind_175 ⟨by rw [eq2_0] <;> rfl, by rw [eq2_0] <;> rfl, rfl⟩
  · exact absurd hb14 (by decide)
theorem m_bk2_1 {l : Launch} {g : GG} {X : PHp} {now mind : I1} {th : I1 × Int32} {tx : TXt} {z : Zt} {s : TS} {tp : TPt} {lv i : Nat} {K : Nat} {x : Int32} (hlv : 9 ≤ lv) (hi : i < 6) (hK : K < 7) (hk : now (9 * i + 0) = nI K) (hs : s.2 ≤ 930) : Ct l g yX10_byKind cX10_byKind 7 (some .int) lv 0 0 [rf g (22, 0, 0), .int (nI 1), .int (nI i), .int (nI 2), .int x] NN (jn X (hM g now mind th tx z (s.1, nI s.2) tp)) (pI (tellsF i (now (9 * i + 1)) K 1 x s).1 (jn X (hM g now mind th tx z ((tellsF i (now (9 * i + 1)) K 1 x s).2.1, nI (tellsF i (now (9 * i + 1)) K 1 x s).2.2) tp))) := by
  refine Ct.of (lv := [some (rf g (22, 0, 0)), some (.int (nI 1)), some (.int (nI i)), some (.int (nI 2)), some (.int x), none, none]) (by decide +kernel) rfl (Nat.le_of_ble_eq_true rfl) ?_
  intro Γ C
  refine V.iload_n (q := 1) C dX10_byKind_0 rfl rfl ?_
  refine V.istore (q := 3) C dX10_byKind_1 rfl (by decide) rfl rfl ?_
  refine V.aload_n (q := 4) C dX10_byKind_3 rfl rfl ?_
  refine V.get (q := 7) C fl_X10_55 dX10_byKind_4 rfl okM rfl rfl ?_
  refine V.iconst (q := 8) (v := nI 3) C dX10_byKind_7 rfl (by decide) ?_
  refine V.iload (q := 10) C dX10_byKind_8 rfl rfl ?_
  refine V.imul (q := 11) C dX10_byKind_10 rfl ?_
  refine V.topi (x1 := nI (3 * 1)) (pk_mul _ _) ?_
  refine V.iload_n (q := 12) C dX10_byKind_11 rfl rfl ?_
  refine V.iadd (q := 13) C dX10_byKind_12 rfl ?_
  refine V.topi (x1 := nI ((3 * 1) + 2)) (nI_add _ _) ?_
  refine V.ild (q := 14) (i := ((3 * 1) + 2)) C dX10_byKind_13 rfl okM_23 rfl rfl (by omega) (by decide) ?_
  try dsimp only
  refine V.topi (x1 := nI (0)) (by decide) ?_
  refine V.if_ne (q := 17) (tgt := 29) C dX10_byKind_14 rfl rfl (fun hb14 => ?_) (fun hb14 => ?_)
  · exact absurd (by decide) hb14
  · refine V.aload_n (q := 18) C dX10_byKind_17 rfl rfl ?_
    refine V.get (q := 21) C fl_X10_52 dX10_byKind_18 rfl okM rfl rfl ?_
    refine V.iload (q := 23) C dX10_byKind_21 rfl rfl ?_
    refine V.ild (q := 24) (i := 1) C dX10_byKind_23 rfl okM_22 rfl rfl (by omega) (by decide) ?_
    try dsimp only
    refine V.topi (x1 := nI (0)) (by decide) ?_
    refine V.istore (q := 26) C dX10_byKind_24 rfl (by decide) rfl rfl ?_
    refine V.goto (tgt := 3) C dX10_byKind_26 rfl ?_
    refine V.aload_n (q := 4) C dX10_byKind_3 rfl rfl ?_
    refine V.get (q := 7) C fl_X10_55 dX10_byKind_4 rfl okM rfl rfl ?_
    refine V.iconst (q := 8) (v := nI 3) C dX10_byKind_7 rfl (by decide) ?_
    refine V.iload (q := 10) C dX10_byKind_8 rfl rfl ?_
    refine V.imul (q := 11) C dX10_byKind_10 rfl ?_
    refine V.topi (x1 := nI (3 * (0))) (pk_mul _ _) ?_
    refine V.iload_n (q := 12) C dX10_byKind_11 rfl rfl ?_
    refine V.iadd (q := 13) C dX10_byKind_12 rfl ?_
    refine V.topi (x1 := nI ((3 * (0)) + 2)) (nI_add _ _) ?_
    refine V.ild (q := 14) (i := ((3 * (0)) + 2)) C dX10_byKind_13 rfl okM_23 rfl rfl (by omega) (by decide) ?_
    try dsimp only
    refine V.topi (x1 := nI (12)) (by decide) ?_
    refine V.if_ne (q := 17) (tgt := 29) C dX10_byKind_14 rfl rfl (fun hb14 => ?_) (fun hb14 => ?_)
    · refine V.aload_n (q := 30) C dX10_byKind_29 rfl rfl ?_
      refine V.get (q := 33) C fl_X10_52 dX10_byKind_30 rfl okM rfl rfl ?_
      refine V.iload (q := 35) C dX10_byKind_33 rfl rfl ?_
      refine V.ild (q := 36) (i := (0)) C dX10_byKind_35 rfl okM_22 rfl rfl (by omega) (by decide) ?_
      try dsimp only
      refine V.topi (x1 := -1) (by decide) ?_
      refine V.istore (q := 38) C dX10_byKind_36 rfl (by decide) rfl rfl ?_
      refine V.aload_n (q := 39) C dX10_byKind_38 rfl rfl ?_
      refine V.aload_n (q := 40) C dX10_byKind_39 rfl rfl ?_
      refine V.get (q := 43) C fl_X10_55 dX10_byKind_40 rfl okM rfl rfl ?_
      refine V.iconst (q := 44) (v := nI 3) C dX10_byKind_43 rfl (by decide) ?_
      refine V.iload (q := 46) C dX10_byKind_44 rfl rfl ?_
      refine V.imul (q := 47) C dX10_byKind_46 rfl ?_
      refine V.topi (x1 := nI (3 * (0))) (pk_mul _ _) ?_
      refine V.iload_n (q := 48) C dX10_byKind_47 rfl rfl ?_
      refine V.iadd (q := 49) C dX10_byKind_48 rfl ?_
      refine V.topi (x1 := nI ((3 * (0)) + 2)) (nI_add _ _) ?_
      refine V.ild (q := 50) (i := ((3 * (0)) + 2)) C dX10_byKind_49 rfl okM_23 rfl rfl (by omega) (by decide) ?_
      try dsimp only
      refine V.topi (x1 := nI (12)) (by decide) ?_
      refine V.callVi (q := 53) C me_X10_body (m_body (by first | omega | (simp only [bdy_n]; omega))) ml_X10_255 dX10_byKind_50 rfl okM ⟨_, rfl⟩ rfl rfl (Nat.le_of_ble_eq_true rfl) (by omega) (Nat.zero_le _) (Nat.zero_le _) ?_
      refine V.lookup (off := 112) (tgt := 165) C dX10_byKind_53 (by decide) (by decide) rfl ?_
      refine V.aload_n (q := 166) C dX10_byKind_165 rfl rfl ?_
      refine V.iload_n (q := 167) C dX10_byKind_166 rfl rfl ?_
      refine V.iconst (q := 168) (v := nI 1) C dX10_byKind_167 rfl (by decide) ?_
      refine V.iload (q := 170) C dX10_byKind_168 rfl rfl ?_
      refine V.callVi (q := 173) C me_X10_begin (m_begin1 (lv := 8) (by omega) hi hK hk (by rw [bdy_n]; omega)) ml_X10_258 dX10_byKind_170 rfl okM ⟨_, rfl⟩ rfl rfl (Nat.le_of_ble_eq_true rfl) (by omega) (Nat.zero_le _) (Nat.zero_le _) ?_
      refine V.iconst (q := 174) (v := nI 2) C dX10_byKind_173 rfl (by decide) ?_
      refine V.imul (q := 175) C dX10_byKind_174 rfl ?_
      exact V.ireturn C dX10_byKind_175 ⟨by rw [eq2_1] <;> rfl, by rw [eq2_1] <;> rfl, rfl⟩
    · exact absurd hb14 (by decide)
theorem m_bk2_2 {l : Launch} {g : GG} {X : PHp} {now mind : I1} {th : I1 × Int32} {tx : TXt} {z : Zt} {s : TS} {tp : TPt} {lv i : Nat} {K : Nat} {x : Int32} (hlv : 9 ≤ lv) (hi : i < 6) (hK : K < 7) (hk : now (9 * i + 0) = nI K) (hs : s.2 ≤ 930) : Ct l g yX10_byKind cX10_byKind 7 (some .int) lv 0 0 [rf g (22, 0, 0), .int (nI 2), .int (nI i), .int (nI 2), .int x] NN (jn X (hM g now mind th tx z (s.1, nI s.2) tp)) (pI (tellsF i (now (9 * i + 1)) K 2 x s).1 (jn X (hM g now mind th tx z ((tellsF i (now (9 * i + 1)) K 2 x s).2.1, nI (tellsF i (now (9 * i + 1)) K 2 x s).2.2) tp))) := by
  refine Ct.of (lv := [some (rf g (22, 0, 0)), some (.int (nI 2)), some (.int (nI i)), some (.int (nI 2)), some (.int x), none, none]) (by decide +kernel) rfl (Nat.le_of_ble_eq_true rfl) ?_
  intro Γ C
  refine V.iload_n (q := 1) C dX10_byKind_0 rfl rfl ?_
  refine V.istore (q := 3) C dX10_byKind_1 rfl (by decide) rfl rfl ?_
  refine V.aload_n (q := 4) C dX10_byKind_3 rfl rfl ?_
  refine V.get (q := 7) C fl_X10_55 dX10_byKind_4 rfl okM rfl rfl ?_
  refine V.iconst (q := 8) (v := nI 3) C dX10_byKind_7 rfl (by decide) ?_
  refine V.iload (q := 10) C dX10_byKind_8 rfl rfl ?_
  refine V.imul (q := 11) C dX10_byKind_10 rfl ?_
  refine V.topi (x1 := nI (3 * 2)) (pk_mul _ _) ?_
  refine V.iload_n (q := 12) C dX10_byKind_11 rfl rfl ?_
  refine V.iadd (q := 13) C dX10_byKind_12 rfl ?_
  refine V.topi (x1 := nI ((3 * 2) + 2)) (nI_add _ _) ?_
  refine V.ild (q := 14) (i := ((3 * 2) + 2)) C dX10_byKind_13 rfl okM_23 rfl rfl (by omega) (by decide) ?_
  try dsimp only
  refine V.topi (x1 := nI (0)) (by decide) ?_
  refine V.if_ne (q := 17) (tgt := 29) C dX10_byKind_14 rfl rfl (fun hb14 => ?_) (fun hb14 => ?_)
  · exact absurd (by decide) hb14
  · refine V.aload_n (q := 18) C dX10_byKind_17 rfl rfl ?_
    refine V.get (q := 21) C fl_X10_52 dX10_byKind_18 rfl okM rfl rfl ?_
    refine V.iload (q := 23) C dX10_byKind_21 rfl rfl ?_
    refine V.ild (q := 24) (i := 2) C dX10_byKind_23 rfl okM_22 rfl rfl (by omega) (by decide) ?_
    try dsimp only
    refine V.topi (x1 := nI (0)) (by decide) ?_
    refine V.istore (q := 26) C dX10_byKind_24 rfl (by decide) rfl rfl ?_
    refine V.goto (tgt := 3) C dX10_byKind_26 rfl ?_
    refine V.aload_n (q := 4) C dX10_byKind_3 rfl rfl ?_
    refine V.get (q := 7) C fl_X10_55 dX10_byKind_4 rfl okM rfl rfl ?_
    refine V.iconst (q := 8) (v := nI 3) C dX10_byKind_7 rfl (by decide) ?_
    refine V.iload (q := 10) C dX10_byKind_8 rfl rfl ?_
    refine V.imul (q := 11) C dX10_byKind_10 rfl ?_
    refine V.topi (x1 := nI (3 * (0))) (pk_mul _ _) ?_
    refine V.iload_n (q := 12) C dX10_byKind_11 rfl rfl ?_
    refine V.iadd (q := 13) C dX10_byKind_12 rfl ?_
    refine V.topi (x1 := nI ((3 * (0)) + 2)) (nI_add _ _) ?_
    refine V.ild (q := 14) (i := ((3 * (0)) + 2)) C dX10_byKind_13 rfl okM_23 rfl rfl (by omega) (by decide) ?_
    try dsimp only
    refine V.topi (x1 := nI (12)) (by decide) ?_
    refine V.if_ne (q := 17) (tgt := 29) C dX10_byKind_14 rfl rfl (fun hb14 => ?_) (fun hb14 => ?_)
    · refine V.aload_n (q := 30) C dX10_byKind_29 rfl rfl ?_
      refine V.get (q := 33) C fl_X10_52 dX10_byKind_30 rfl okM rfl rfl ?_
      refine V.iload (q := 35) C dX10_byKind_33 rfl rfl ?_
      refine V.ild (q := 36) (i := (0)) C dX10_byKind_35 rfl okM_22 rfl rfl (by omega) (by decide) ?_
      try dsimp only
      refine V.topi (x1 := -1) (by decide) ?_
      refine V.istore (q := 38) C dX10_byKind_36 rfl (by decide) rfl rfl ?_
      refine V.aload_n (q := 39) C dX10_byKind_38 rfl rfl ?_
      refine V.aload_n (q := 40) C dX10_byKind_39 rfl rfl ?_
      refine V.get (q := 43) C fl_X10_55 dX10_byKind_40 rfl okM rfl rfl ?_
      refine V.iconst (q := 44) (v := nI 3) C dX10_byKind_43 rfl (by decide) ?_
      refine V.iload (q := 46) C dX10_byKind_44 rfl rfl ?_
      refine V.imul (q := 47) C dX10_byKind_46 rfl ?_
      refine V.topi (x1 := nI (3 * (0))) (pk_mul _ _) ?_
      refine V.iload_n (q := 48) C dX10_byKind_47 rfl rfl ?_
      refine V.iadd (q := 49) C dX10_byKind_48 rfl ?_
      refine V.topi (x1 := nI ((3 * (0)) + 2)) (nI_add _ _) ?_
      refine V.ild (q := 50) (i := ((3 * (0)) + 2)) C dX10_byKind_49 rfl okM_23 rfl rfl (by omega) (by decide) ?_
      try dsimp only
      refine V.topi (x1 := nI (12)) (by decide) ?_
      refine V.callVi (q := 53) C me_X10_body (m_body (by first | omega | (simp only [bdy_n]; omega))) ml_X10_255 dX10_byKind_50 rfl okM ⟨_, rfl⟩ rfl rfl (Nat.le_of_ble_eq_true rfl) (by omega) (Nat.zero_le _) (Nat.zero_le _) ?_
      refine V.lookup (off := 112) (tgt := 165) C dX10_byKind_53 (by decide) (by decide) rfl ?_
      refine V.aload_n (q := 166) C dX10_byKind_165 rfl rfl ?_
      refine V.iload_n (q := 167) C dX10_byKind_166 rfl rfl ?_
      refine V.iconst (q := 168) (v := nI 1) C dX10_byKind_167 rfl (by decide) ?_
      refine V.iload (q := 170) C dX10_byKind_168 rfl rfl ?_
      refine V.callVi (q := 173) C me_X10_begin (m_begin1 (lv := 8) (by omega) hi hK hk (by rw [bdy_n]; omega)) ml_X10_258 dX10_byKind_170 rfl okM ⟨_, rfl⟩ rfl rfl (Nat.le_of_ble_eq_true rfl) (by omega) (Nat.zero_le _) (Nat.zero_le _) ?_
      refine V.iconst (q := 174) (v := nI 2) C dX10_byKind_173 rfl (by decide) ?_
      refine V.imul (q := 175) C dX10_byKind_174 rfl ?_
      exact V.ireturn C dX10_byKind_175 ⟨by rw [eq2_2] <;> rfl, by rw [eq2_2] <;> rfl, rfl⟩
    · exact absurd hb14 (by decide)
theorem m_bk2_4 {l : Launch} {g : GG} {X : PHp} {now mind : I1} {th : I1 × Int32} {tx : TXt} {z : Zt} {s : TS} {tp : TPt} {lv i : Nat} {K : Nat} {x : Int32} (hlv : 9 ≤ lv) (hi : i < 6) (hK : K < 7) (hk : now (9 * i + 0) = nI K) (hs : s.2 ≤ 930) : Ct l g yX10_byKind cX10_byKind 7 (some .int) lv 0 0 [rf g (22, 0, 0), .int (nI 4), .int (nI i), .int (nI 2), .int x] NN (jn X (hM g now mind th tx z (s.1, nI s.2) tp)) (pI (tellsF i (now (9 * i + 1)) K 4 x s).1 (jn X (hM g now mind th tx z ((tellsF i (now (9 * i + 1)) K 4 x s).2.1, nI (tellsF i (now (9 * i + 1)) K 4 x s).2.2) tp))) := by
  refine Ct.of (lv := [some (rf g (22, 0, 0)), some (.int (nI 4)), some (.int (nI i)), some (.int (nI 2)), some (.int x), none, none]) (by decide +kernel) rfl (Nat.le_of_ble_eq_true rfl) ?_
  intro Γ C
  refine V.iload_n (q := 1) C dX10_byKind_0 rfl rfl ?_
  refine V.istore (q := 3) C dX10_byKind_1 rfl (by decide) rfl rfl ?_
  refine V.aload_n (q := 4) C dX10_byKind_3 rfl rfl ?_
  refine V.get (q := 7) C fl_X10_55 dX10_byKind_4 rfl okM rfl rfl ?_
  refine V.iconst (q := 8) (v := nI 3) C dX10_byKind_7 rfl (by decide) ?_
  refine V.iload (q := 10) C dX10_byKind_8 rfl rfl ?_
  refine V.imul (q := 11) C dX10_byKind_10 rfl ?_
  refine V.topi (x1 := nI (3 * 4)) (pk_mul _ _) ?_
  refine V.iload_n (q := 12) C dX10_byKind_11 rfl rfl ?_
  refine V.iadd (q := 13) C dX10_byKind_12 rfl ?_
  refine V.topi (x1 := nI ((3 * 4) + 2)) (nI_add _ _) ?_
  refine V.ild (q := 14) (i := ((3 * 4) + 2)) C dX10_byKind_13 rfl okM_23 rfl rfl (by omega) (by decide) ?_
  try dsimp only
  refine V.topi (x1 := nI (0)) (by decide) ?_
  refine V.if_ne (q := 17) (tgt := 29) C dX10_byKind_14 rfl rfl (fun hb14 => ?_) (fun hb14 => ?_)
  · exact absurd (by decide) hb14
  · refine V.aload_n (q := 18) C dX10_byKind_17 rfl rfl ?_
    refine V.get (q := 21) C fl_X10_52 dX10_byKind_18 rfl okM rfl rfl ?_
    refine V.iload (q := 23) C dX10_byKind_21 rfl rfl ?_
    refine V.ild (q := 24) (i := 4) C dX10_byKind_23 rfl okM_22 rfl rfl (by omega) (by decide) ?_
    try dsimp only
    refine V.topi (x1 := nI (1)) (by decide) ?_
    refine V.istore (q := 26) C dX10_byKind_24 rfl (by decide) rfl rfl ?_
    refine V.goto (tgt := 3) C dX10_byKind_26 rfl ?_
    refine V.aload_n (q := 4) C dX10_byKind_3 rfl rfl ?_
    refine V.get (q := 7) C fl_X10_55 dX10_byKind_4 rfl okM rfl rfl ?_
    refine V.iconst (q := 8) (v := nI 3) C dX10_byKind_7 rfl (by decide) ?_
    refine V.iload (q := 10) C dX10_byKind_8 rfl rfl ?_
    refine V.imul (q := 11) C dX10_byKind_10 rfl ?_
    refine V.topi (x1 := nI (3 * (1))) (pk_mul _ _) ?_
    refine V.iload_n (q := 12) C dX10_byKind_11 rfl rfl ?_
    refine V.iadd (q := 13) C dX10_byKind_12 rfl ?_
    refine V.topi (x1 := nI ((3 * (1)) + 2)) (nI_add _ _) ?_
    refine V.ild (q := 14) (i := ((3 * (1)) + 2)) C dX10_byKind_13 rfl okM_23 rfl rfl (by omega) (by decide) ?_
    try dsimp only
    refine V.topi (x1 := nI (0)) (by decide) ?_
    refine V.if_ne (q := 17) (tgt := 29) C dX10_byKind_14 rfl rfl (fun hb14 => ?_) (fun hb14 => ?_)
    · exact absurd (by decide) hb14
    · refine V.aload_n (q := 18) C dX10_byKind_17 rfl rfl ?_
      refine V.get (q := 21) C fl_X10_52 dX10_byKind_18 rfl okM rfl rfl ?_
      refine V.iload (q := 23) C dX10_byKind_21 rfl rfl ?_
      refine V.ild (q := 24) (i := (1)) C dX10_byKind_23 rfl okM_22 rfl rfl (by omega) (by decide) ?_
      try dsimp only
      refine V.topi (x1 := nI (0)) (by decide) ?_
      refine V.istore (q := 26) C dX10_byKind_24 rfl (by decide) rfl rfl ?_
      refine V.goto (tgt := 3) C dX10_byKind_26 rfl ?_
      refine V.aload_n (q := 4) C dX10_byKind_3 rfl rfl ?_
      refine V.get (q := 7) C fl_X10_55 dX10_byKind_4 rfl okM rfl rfl ?_
      refine V.iconst (q := 8) (v := nI 3) C dX10_byKind_7 rfl (by decide) ?_
      refine V.iload (q := 10) C dX10_byKind_8 rfl rfl ?_
      refine V.imul (q := 11) C dX10_byKind_10 rfl ?_
      refine V.topi (x1 := nI (3 * (0))) (pk_mul _ _) ?_
      refine V.iload_n (q := 12) C dX10_byKind_11 rfl rfl ?_
      refine V.iadd (q := 13) C dX10_byKind_12 rfl ?_
      refine V.topi (x1 := nI ((3 * (0)) + 2)) (nI_add _ _) ?_
      refine V.ild (q := 14) (i := ((3 * (0)) + 2)) C dX10_byKind_13 rfl okM_23 rfl rfl (by omega) (by decide) ?_
      try dsimp only
      refine V.topi (x1 := nI (12)) (by decide) ?_
      refine V.if_ne (q := 17) (tgt := 29) C dX10_byKind_14 rfl rfl (fun hb14 => ?_) (fun hb14 => ?_)
      · refine V.aload_n (q := 30) C dX10_byKind_29 rfl rfl ?_
        refine V.get (q := 33) C fl_X10_52 dX10_byKind_30 rfl okM rfl rfl ?_
        refine V.iload (q := 35) C dX10_byKind_33 rfl rfl ?_
        refine V.ild (q := 36) (i := (0)) C dX10_byKind_35 rfl okM_22 rfl rfl (by omega) (by decide) ?_
        try dsimp only
        refine V.topi (x1 := -1) (by decide) ?_
        refine V.istore (q := 38) C dX10_byKind_36 rfl (by decide) rfl rfl ?_
        refine V.aload_n (q := 39) C dX10_byKind_38 rfl rfl ?_
        refine V.aload_n (q := 40) C dX10_byKind_39 rfl rfl ?_
        refine V.get (q := 43) C fl_X10_55 dX10_byKind_40 rfl okM rfl rfl ?_
        refine V.iconst (q := 44) (v := nI 3) C dX10_byKind_43 rfl (by decide) ?_
        refine V.iload (q := 46) C dX10_byKind_44 rfl rfl ?_
        refine V.imul (q := 47) C dX10_byKind_46 rfl ?_
        refine V.topi (x1 := nI (3 * (0))) (pk_mul _ _) ?_
        refine V.iload_n (q := 48) C dX10_byKind_47 rfl rfl ?_
        refine V.iadd (q := 49) C dX10_byKind_48 rfl ?_
        refine V.topi (x1 := nI ((3 * (0)) + 2)) (nI_add _ _) ?_
        refine V.ild (q := 50) (i := ((3 * (0)) + 2)) C dX10_byKind_49 rfl okM_23 rfl rfl (by omega) (by decide) ?_
        try dsimp only
        refine V.topi (x1 := nI (12)) (by decide) ?_
        refine V.callVi (q := 53) C me_X10_body (m_body (by first | omega | (simp only [bdy_n]; omega))) ml_X10_255 dX10_byKind_50 rfl okM ⟨_, rfl⟩ rfl rfl (Nat.le_of_ble_eq_true rfl) (by omega) (Nat.zero_le _) (Nat.zero_le _) ?_
        refine V.lookup (off := 112) (tgt := 165) C dX10_byKind_53 (by decide) (by decide) rfl ?_
        refine V.aload_n (q := 166) C dX10_byKind_165 rfl rfl ?_
        refine V.iload_n (q := 167) C dX10_byKind_166 rfl rfl ?_
        refine V.iconst (q := 168) (v := nI 1) C dX10_byKind_167 rfl (by decide) ?_
        refine V.iload (q := 170) C dX10_byKind_168 rfl rfl ?_
        refine V.callVi (q := 173) C me_X10_begin (m_begin1 (lv := 8) (by omega) hi hK hk (by rw [bdy_n]; omega)) ml_X10_258 dX10_byKind_170 rfl okM ⟨_, rfl⟩ rfl rfl (Nat.le_of_ble_eq_true rfl) (by omega) (Nat.zero_le _) (Nat.zero_le _) ?_
        refine V.iconst (q := 174) (v := nI 2) C dX10_byKind_173 rfl (by decide) ?_
        refine V.imul (q := 175) C dX10_byKind_174 rfl ?_
        exact V.ireturn C dX10_byKind_175 ⟨by rw [eq2_4] <;> rfl, by rw [eq2_4] <;> rfl, rfl⟩
      · exact absurd hb14 (by decide)
theorem m_bk2_3 {l : Launch} {g : GG} {X : PHp} {now mind : I1} {th : I1 × Int32} {tx : TXt} {z : Zt} {s : TS} {tp : TPt} {lv i : Nat} {K : Nat} {x : Int32} (hlv : 10 ≤ lv) (hi : i < 6) (hK : K < 7) (hk : now (9 * i + 0) = nI K) (hs : s.2 ≤ 900) : Ct l g yX10_byKind cX10_byKind 7 (some .int) lv 0 0 [rf g (22, 0, 0), .int (nI 3), .int (nI i), .int (nI 2), .int x] NN (jn X (hM g now mind th tx z (s.1, nI s.2) tp)) (pI (tellsF i (now (9 * i + 1)) K 3 x s).1 (jn X (hM g now mind th tx z ((tellsF i (now (9 * i + 1)) K 3 x s).2.1, nI (tellsF i (now (9 * i + 1)) K 3 x s).2.2) tp))) := by
  refine Ct.of (lv := [some (rf g (22, 0, 0)), some (.int (nI 3)), some (.int (nI i)), some (.int (nI 2)), some (.int x), none, none]) (by decide +kernel) rfl (Nat.le_of_ble_eq_true rfl) ?_
  intro Γ C
  refine V.iload_n (q := 1) C dX10_byKind_0 rfl rfl ?_
  refine V.istore (q := 3) C dX10_byKind_1 rfl (by decide) rfl rfl ?_
  refine V.aload_n (q := 4) C dX10_byKind_3 rfl rfl ?_
  refine V.get (q := 7) C fl_X10_55 dX10_byKind_4 rfl okM rfl rfl ?_
  refine V.iconst (q := 8) (v := nI 3) C dX10_byKind_7 rfl (by decide) ?_
  refine V.iload (q := 10) C dX10_byKind_8 rfl rfl ?_
  refine V.imul (q := 11) C dX10_byKind_10 rfl ?_
  refine V.topi (x1 := nI (3 * 3)) (pk_mul _ _) ?_
  refine V.iload_n (q := 12) C dX10_byKind_11 rfl rfl ?_
  refine V.iadd (q := 13) C dX10_byKind_12 rfl ?_
  refine V.topi (x1 := nI ((3 * 3) + 2)) (nI_add _ _) ?_
  refine V.ild (q := 14) (i := ((3 * 3) + 2)) C dX10_byKind_13 rfl okM_23 rfl rfl (by omega) (by decide) ?_
  try dsimp only
  refine V.topi (x1 := nI (40)) (by decide) ?_
  refine V.if_ne (q := 17) (tgt := 29) C dX10_byKind_14 rfl rfl (fun hb14 => ?_) (fun hb14 => ?_)
  · refine V.aload_n (q := 30) C dX10_byKind_29 rfl rfl ?_
    refine V.get (q := 33) C fl_X10_52 dX10_byKind_30 rfl okM rfl rfl ?_
    refine V.iload (q := 35) C dX10_byKind_33 rfl rfl ?_
    refine V.ild (q := 36) (i := 3) C dX10_byKind_35 rfl okM_22 rfl rfl (by omega) (by decide) ?_
    try dsimp only
    refine V.topi (x1 := nI (0)) (by decide) ?_
    refine V.istore (q := 38) C dX10_byKind_36 rfl (by decide) rfl rfl ?_
    refine V.aload_n (q := 39) C dX10_byKind_38 rfl rfl ?_
    refine V.aload_n (q := 40) C dX10_byKind_39 rfl rfl ?_
    refine V.get (q := 43) C fl_X10_55 dX10_byKind_40 rfl okM rfl rfl ?_
    refine V.iconst (q := 44) (v := nI 3) C dX10_byKind_43 rfl (by decide) ?_
    refine V.iload (q := 46) C dX10_byKind_44 rfl rfl ?_
    refine V.imul (q := 47) C dX10_byKind_46 rfl ?_
    refine V.topi (x1 := nI (3 * 3)) (pk_mul _ _) ?_
    refine V.iload_n (q := 48) C dX10_byKind_47 rfl rfl ?_
    refine V.iadd (q := 49) C dX10_byKind_48 rfl ?_
    refine V.topi (x1 := nI ((3 * 3) + 2)) (nI_add _ _) ?_
    refine V.ild (q := 50) (i := ((3 * 3) + 2)) C dX10_byKind_49 rfl okM_23 rfl rfl (by omega) (by decide) ?_
    try dsimp only
    refine V.topi (x1 := nI (40)) (by decide) ?_
    refine V.callVi (q := 53) C me_X10_body (m_body (by first | omega | (simp only [bdy_n]; omega))) ml_X10_255 dX10_byKind_50 rfl okM ⟨_, rfl⟩ rfl rfl (Nat.le_of_ble_eq_true rfl) (by omega) (Nat.zero_le _) (Nat.zero_le _) ?_
    refine V.lookup (off := 150) (tgt := 203) C dX10_byKind_53 (by decide) (by decide) rfl ?_
    refine V.aload_n (q := 204) C dX10_byKind_203 rfl rfl ?_
    refine V.iload (q := 206) C dX10_byKind_204 rfl rfl ?_
    refine V.iload_n (q := 207) C dX10_byKind_206 rfl rfl ?_
    refine V.iconst (q := 208) (v := nI 2) C dX10_byKind_207 rfl (by decide) ?_
    refine V.iload (q := 210) C dX10_byKind_208 rfl rfl ?_
    refine V.callVi (q := 213) C me_X10_byKind (m_bk2_0 (lv := 9) (by omega) hi hK hk (by rw [bdy_n]; omega)) ml_X10_252 dX10_byKind_210 rfl okM ⟨_, rfl⟩ rfl rfl (Nat.le_of_ble_eq_true rfl) (by omega) (Nat.zero_le _) (Nat.zero_le _) ?_
    refine V.aload_n (q := 214) C dX10_byKind_213 rfl rfl ?_
    refine V.iload_n (q := 215) C dX10_byKind_214 rfl rfl ?_
    refine V.iconst (q := 216) (v := nI 1) C dX10_byKind_215 rfl (by decide) ?_
    refine V.iconst (q := 217) (v := nI 1) C dX10_byKind_216 rfl (by decide) ?_
    refine V.callVi (q := 220) C me_X10_begin (m_begin1 (lv := 8) (by omega) hi hK hk (by have h1 := @tellsF_n i (now (9 * i + 1)) K 0 x (bdy (nI 40) s); rw [bdy_n] at h1; omega)) ml_X10_258 dX10_byKind_217 rfl okM ⟨_, rfl⟩ rfl rfl (Nat.le_of_ble_eq_true rfl) (by omega) (Nat.zero_le _) (Nat.zero_le _) ?_
    refine V.iadd (q := 221) C dX10_byKind_220 rfl ?_
    exact V.ireturn C dX10_byKind_221 ⟨by rw [eq2_3] <;> rfl, by rw [eq2_3] <;> rfl, rfl⟩
  · exact absurd hb14 (by decide)
theorem m_bk2_6 {l : Launch} {g : GG} {X : PHp} {now mind : I1} {th : I1 × Int32} {tx : TXt} {z : Zt} {s : TS} {tp : TPt} {lv i : Nat} {K : Nat} {x : Int32} (hlv : 10 ≤ lv) (hi : i < 6) (hK : K < 7) (hk : now (9 * i + 0) = nI K) (hs : s.2 ≤ 900) : Ct l g yX10_byKind cX10_byKind 7 (some .int) lv 0 0 [rf g (22, 0, 0), .int (nI 6), .int (nI i), .int (nI 2), .int x] NN (jn X (hM g now mind th tx z (s.1, nI s.2) tp)) (pI (tellsF i (now (9 * i + 1)) K 6 x s).1 (jn X (hM g now mind th tx z ((tellsF i (now (9 * i + 1)) K 6 x s).2.1, nI (tellsF i (now (9 * i + 1)) K 6 x s).2.2) tp))) := by
  refine Ct.of (lv := [some (rf g (22, 0, 0)), some (.int (nI 6)), some (.int (nI i)), some (.int (nI 2)), some (.int x), none, none]) (by decide +kernel) rfl (Nat.le_of_ble_eq_true rfl) ?_
  intro Γ C
  refine V.iload_n (q := 1) C dX10_byKind_0 rfl rfl ?_
  refine V.istore (q := 3) C dX10_byKind_1 rfl (by decide) rfl rfl ?_
  refine V.aload_n (q := 4) C dX10_byKind_3 rfl rfl ?_
  refine V.get (q := 7) C fl_X10_55 dX10_byKind_4 rfl okM rfl rfl ?_
  refine V.iconst (q := 8) (v := nI 3) C dX10_byKind_7 rfl (by decide) ?_
  refine V.iload (q := 10) C dX10_byKind_8 rfl rfl ?_
  refine V.imul (q := 11) C dX10_byKind_10 rfl ?_
  refine V.topi (x1 := nI (3 * 6)) (pk_mul _ _) ?_
  refine V.iload_n (q := 12) C dX10_byKind_11 rfl rfl ?_
  refine V.iadd (q := 13) C dX10_byKind_12 rfl ?_
  refine V.topi (x1 := nI ((3 * 6) + 2)) (nI_add _ _) ?_
  refine V.ild (q := 14) (i := ((3 * 6) + 2)) C dX10_byKind_13 rfl okM_23 rfl rfl (by omega) (by decide) ?_
  try dsimp only
  refine V.topi (x1 := nI (0)) (by decide) ?_
  refine V.if_ne (q := 17) (tgt := 29) C dX10_byKind_14 rfl rfl (fun hb14 => ?_) (fun hb14 => ?_)
  · exact absurd (by decide) hb14
  · refine V.aload_n (q := 18) C dX10_byKind_17 rfl rfl ?_
    refine V.get (q := 21) C fl_X10_52 dX10_byKind_18 rfl okM rfl rfl ?_
    refine V.iload (q := 23) C dX10_byKind_21 rfl rfl ?_
    refine V.ild (q := 24) (i := 6) C dX10_byKind_23 rfl okM_22 rfl rfl (by omega) (by decide) ?_
    try dsimp only
    refine V.topi (x1 := nI (3)) (by decide) ?_
    refine V.istore (q := 26) C dX10_byKind_24 rfl (by decide) rfl rfl ?_
    refine V.goto (tgt := 3) C dX10_byKind_26 rfl ?_
    refine V.aload_n (q := 4) C dX10_byKind_3 rfl rfl ?_
    refine V.get (q := 7) C fl_X10_55 dX10_byKind_4 rfl okM rfl rfl ?_
    refine V.iconst (q := 8) (v := nI 3) C dX10_byKind_7 rfl (by decide) ?_
    refine V.iload (q := 10) C dX10_byKind_8 rfl rfl ?_
    refine V.imul (q := 11) C dX10_byKind_10 rfl ?_
    refine V.topi (x1 := nI (3 * (3))) (pk_mul _ _) ?_
    refine V.iload_n (q := 12) C dX10_byKind_11 rfl rfl ?_
    refine V.iadd (q := 13) C dX10_byKind_12 rfl ?_
    refine V.topi (x1 := nI ((3 * (3)) + 2)) (nI_add _ _) ?_
    refine V.ild (q := 14) (i := ((3 * (3)) + 2)) C dX10_byKind_13 rfl okM_23 rfl rfl (by omega) (by decide) ?_
    try dsimp only
    refine V.topi (x1 := nI (40)) (by decide) ?_
    refine V.if_ne (q := 17) (tgt := 29) C dX10_byKind_14 rfl rfl (fun hb14 => ?_) (fun hb14 => ?_)
    · refine V.aload_n (q := 30) C dX10_byKind_29 rfl rfl ?_
      refine V.get (q := 33) C fl_X10_52 dX10_byKind_30 rfl okM rfl rfl ?_
      refine V.iload (q := 35) C dX10_byKind_33 rfl rfl ?_
      refine V.ild (q := 36) (i := (3)) C dX10_byKind_35 rfl okM_22 rfl rfl (by omega) (by decide) ?_
      try dsimp only
      refine V.topi (x1 := nI (0)) (by decide) ?_
      refine V.istore (q := 38) C dX10_byKind_36 rfl (by decide) rfl rfl ?_
      refine V.aload_n (q := 39) C dX10_byKind_38 rfl rfl ?_
      refine V.aload_n (q := 40) C dX10_byKind_39 rfl rfl ?_
      refine V.get (q := 43) C fl_X10_55 dX10_byKind_40 rfl okM rfl rfl ?_
      refine V.iconst (q := 44) (v := nI 3) C dX10_byKind_43 rfl (by decide) ?_
      refine V.iload (q := 46) C dX10_byKind_44 rfl rfl ?_
      refine V.imul (q := 47) C dX10_byKind_46 rfl ?_
      refine V.topi (x1 := nI (3 * (3))) (pk_mul _ _) ?_
      refine V.iload_n (q := 48) C dX10_byKind_47 rfl rfl ?_
      refine V.iadd (q := 49) C dX10_byKind_48 rfl ?_
      refine V.topi (x1 := nI ((3 * (3)) + 2)) (nI_add _ _) ?_
      refine V.ild (q := 50) (i := ((3 * (3)) + 2)) C dX10_byKind_49 rfl okM_23 rfl rfl (by omega) (by decide) ?_
      try dsimp only
      refine V.topi (x1 := nI (40)) (by decide) ?_
      refine V.callVi (q := 53) C me_X10_body (m_body (by first | omega | (simp only [bdy_n]; omega))) ml_X10_255 dX10_byKind_50 rfl okM ⟨_, rfl⟩ rfl rfl (Nat.le_of_ble_eq_true rfl) (by omega) (Nat.zero_le _) (Nat.zero_le _) ?_
      refine V.lookup (off := 150) (tgt := 203) C dX10_byKind_53 (by decide) (by decide) rfl ?_
      refine V.aload_n (q := 204) C dX10_byKind_203 rfl rfl ?_
      refine V.iload (q := 206) C dX10_byKind_204 rfl rfl ?_
      refine V.iload_n (q := 207) C dX10_byKind_206 rfl rfl ?_
      refine V.iconst (q := 208) (v := nI 2) C dX10_byKind_207 rfl (by decide) ?_
      refine V.iload (q := 210) C dX10_byKind_208 rfl rfl ?_
      refine V.callVi (q := 213) C me_X10_byKind (m_bk2_0 (lv := 9) (by omega) hi hK hk (by rw [bdy_n]; omega)) ml_X10_252 dX10_byKind_210 rfl okM ⟨_, rfl⟩ rfl rfl (Nat.le_of_ble_eq_true rfl) (by omega) (Nat.zero_le _) (Nat.zero_le _) ?_
      refine V.aload_n (q := 214) C dX10_byKind_213 rfl rfl ?_
      refine V.iload_n (q := 215) C dX10_byKind_214 rfl rfl ?_
      refine V.iconst (q := 216) (v := nI 1) C dX10_byKind_215 rfl (by decide) ?_
      refine V.iconst (q := 217) (v := nI 1) C dX10_byKind_216 rfl (by decide) ?_
      refine V.callVi (q := 220) C me_X10_begin (m_begin1 (lv := 8) (by omega) hi hK hk (by have h1 := @tellsF_n i (now (9 * i + 1)) K 0 x (bdy (nI 40) s); rw [bdy_n] at h1; omega)) ml_X10_258 dX10_byKind_217 rfl okM ⟨_, rfl⟩ rfl rfl (Nat.le_of_ble_eq_true rfl) (by omega) (Nat.zero_le _) (Nat.zero_le _) ?_
      refine V.iadd (q := 221) C dX10_byKind_220 rfl ?_
      exact V.ireturn C dX10_byKind_221 ⟨by rw [eq2_6] <;> rfl, by rw [eq2_6] <;> rfl, rfl⟩
    · exact absurd hb14 (by decide)
theorem m_bk2_5 {l : Launch} {g : GG} {X : PHp} {now mind : I1} {th : I1 × Int32} {tx : TXt} {z : Zt} {s : TS} {tp : TPt} {lv i : Nat} {K : Nat} {x : Int32} (hlv : 10 ≤ lv) (hi : i < 6) (hK : K < 7) (hk : now (9 * i + 0) = nI K) (hs : s.2 ≤ 900) : Ct l g yX10_byKind cX10_byKind 7 (some .int) lv 0 0 [rf g (22, 0, 0), .int (nI 5), .int (nI i), .int (nI 2), .int x] NN (jn X (hM g now mind th tx z (s.1, nI s.2) tp)) (pI (tellsF i (now (9 * i + 1)) K 5 x s).1 (jn X (hM g now mind th tx z ((tellsF i (now (9 * i + 1)) K 5 x s).2.1, nI (tellsF i (now (9 * i + 1)) K 5 x s).2.2) tp))) := by
  refine Ct.of (lv := [some (rf g (22, 0, 0)), some (.int (nI 5)), some (.int (nI i)), some (.int (nI 2)), some (.int x), none, none]) (by decide +kernel) rfl (Nat.le_of_ble_eq_true rfl) ?_
  intro Γ C
  refine V.iload_n (q := 1) C dX10_byKind_0 rfl rfl ?_
  refine V.istore (q := 3) C dX10_byKind_1 rfl (by decide) rfl rfl ?_
  refine V.aload_n (q := 4) C dX10_byKind_3 rfl rfl ?_
  refine V.get (q := 7) C fl_X10_55 dX10_byKind_4 rfl okM rfl rfl ?_
  refine V.iconst (q := 8) (v := nI 3) C dX10_byKind_7 rfl (by decide) ?_
  refine V.iload (q := 10) C dX10_byKind_8 rfl rfl ?_
  refine V.imul (q := 11) C dX10_byKind_10 rfl ?_
  refine V.topi (x1 := nI (3 * 5)) (pk_mul _ _) ?_
  refine V.iload_n (q := 12) C dX10_byKind_11 rfl rfl ?_
  refine V.iadd (q := 13) C dX10_byKind_12 rfl ?_
  refine V.topi (x1 := nI ((3 * 5) + 2)) (nI_add _ _) ?_
  refine V.ild (q := 14) (i := ((3 * 5) + 2)) C dX10_byKind_13 rfl okM_23 rfl rfl (by omega) (by decide) ?_
  try dsimp only
  refine V.topi (x1 := nI (60)) (by decide) ?_
  refine V.if_ne (q := 17) (tgt := 29) C dX10_byKind_14 rfl rfl (fun hb14 => ?_) (fun hb14 => ?_)
  · refine V.aload_n (q := 30) C dX10_byKind_29 rfl rfl ?_
    refine V.get (q := 33) C fl_X10_52 dX10_byKind_30 rfl okM rfl rfl ?_
    refine V.iload (q := 35) C dX10_byKind_33 rfl rfl ?_
    refine V.ild (q := 36) (i := 5) C dX10_byKind_35 rfl okM_22 rfl rfl (by omega) (by decide) ?_
    try dsimp only
    refine V.topi (x1 := nI (2)) (by decide) ?_
    refine V.istore (q := 38) C dX10_byKind_36 rfl (by decide) rfl rfl ?_
    refine V.aload_n (q := 39) C dX10_byKind_38 rfl rfl ?_
    refine V.aload_n (q := 40) C dX10_byKind_39 rfl rfl ?_
    refine V.get (q := 43) C fl_X10_55 dX10_byKind_40 rfl okM rfl rfl ?_
    refine V.iconst (q := 44) (v := nI 3) C dX10_byKind_43 rfl (by decide) ?_
    refine V.iload (q := 46) C dX10_byKind_44 rfl rfl ?_
    refine V.imul (q := 47) C dX10_byKind_46 rfl ?_
    refine V.topi (x1 := nI (3 * 5)) (pk_mul _ _) ?_
    refine V.iload_n (q := 48) C dX10_byKind_47 rfl rfl ?_
    refine V.iadd (q := 49) C dX10_byKind_48 rfl ?_
    refine V.topi (x1 := nI ((3 * 5) + 2)) (nI_add _ _) ?_
    refine V.ild (q := 50) (i := ((3 * 5) + 2)) C dX10_byKind_49 rfl okM_23 rfl rfl (by omega) (by decide) ?_
    try dsimp only
    refine V.topi (x1 := nI (60)) (by decide) ?_
    refine V.callVi (q := 53) C me_X10_body (m_body (by first | omega | (simp only [bdy_n]; omega))) ml_X10_255 dX10_byKind_50 rfl okM ⟨_, rfl⟩ rfl rfl (Nat.le_of_ble_eq_true rfl) (by omega) (Nat.zero_le _) (Nat.zero_le _) ?_
    refine V.lookup (off := 194) (tgt := 247) C dX10_byKind_53 (by decide) (by decide) rfl ?_
    refine V.aload_n (q := 248) C dX10_byKind_247 rfl rfl ?_
    refine V.iload (q := 250) C dX10_byKind_248 rfl rfl ?_
    refine V.iload_n (q := 251) C dX10_byKind_250 rfl rfl ?_
    refine V.iconst (q := 252) (v := nI 2) C dX10_byKind_251 rfl (by decide) ?_
    refine V.iload (q := 254) C dX10_byKind_252 rfl rfl ?_
    refine V.iload_n (q := 255) C dX10_byKind_254 rfl rfl ?_
    refine V.isub (q := 256) C dX10_byKind_255 rfl ?_
    refine V.callVi (q := 259) C me_X10_byKind (m_bk2_2 (lv := 9) (by omega) hi hK hk (by rw [bdy_n]; omega)) ml_X10_252 dX10_byKind_256 rfl okM ⟨_, rfl⟩ rfl rfl (Nat.le_of_ble_eq_true rfl) (by omega) (Nat.zero_le _) (Nat.zero_le _) ?_
    exact V.ireturn C dX10_byKind_259 ⟨by rw [eq2_5] <;> rfl, by rw [eq2_5] <;> rfl, rfl⟩
  · exact absurd hb14 (by decide)
theorem m_bk2 {l : Launch} {g : GG} {X : PHp} {now mind : I1} {th : I1 × Int32} {tx : TXt} {z : Zt} {s : TS} {tp : TPt} {lv i q : Nat} {K : Nat} {x : Int32} (hlv : 10 ≤ lv) (hi : i < 6) (hK : K < 7) (hk : now (9 * i + 0) = nI K) (hs : s.2 ≤ 900) (hq : q < 7) : Ct l g yX10_byKind cX10_byKind 7 (some .int) lv 0 0 [rf g (22, 0, 0), .int (nI q), .int (nI i), .int (nI 2), .int x] NN (jn X (hM g now mind th tx z (s.1, nI s.2) tp)) (pI (tellsF i (now (9 * i + 1)) K q x s).1 (jn X (hM g now mind th tx z ((tellsF i (now (9 * i + 1)) K q x s).2.1, nI (tellsF i (now (9 * i + 1)) K q x s).2.2) tp))) := by
  obtain rfl | rfl | rfl | rfl | rfl | rfl | rfl := (show q = 0 ∨ q = 1 ∨ q = 2 ∨ q = 3 ∨ q = 4 ∨ q = 5 ∨ q = 6 by omega)
  · exact m_bk2_0 (by omega) hi hK hk (by omega)
  · exact m_bk2_1 (by omega) hi hK hk (by omega)
  · exact m_bk2_2 (by omega) hi hK hk (by omega)
  · exact m_bk2_3 (by omega) hi hK hk (by omega)
  · exact m_bk2_4 (by omega) hi hK hk (by omega)
  · exact m_bk2_5 (by omega) hi hK hk (by omega)
  · exact m_bk2_6 (by omega) hi hK hk (by omega)
theorem m_begin2 {l : Launch} {g : GG} {X : PHp} {now mind : I1} {th : I1 × Int32} {tx : TXt} {z : Zt} {s : TS} {tp : TPt} {lv i K : Nat} {x : Int32} (hlv : 11 ≤ lv) (hi : i < 6) (hK : K < 7) (hk : now (9 * i + 0) = nI K) (hs : s.2 ≤ 900) : Ct l g yX10_begin cX10_begin 4 (some .int) lv 0 0 [rf g (22, 0, 0), .int (nI i), .int (nI 2), .int x] NN (jn X (hM g now mind th tx z (s.1, nI s.2) tp)) (pI (tellsF i (now (9 * i + 1)) K K x s).1 (jn X (hM g now mind th tx z ((tellsF i (now (9 * i + 1)) K K x s).2.1, nI (tellsF i (now (9 * i + 1)) K K x s).2.2) tp))) := by
  refine Ct.of (lv := [some (rf g (22, 0, 0)), some (.int (nI i)), some (.int (nI 2)), some (.int x)]) (by decide +kernel) rfl (Nat.le_of_ble_eq_true rfl) ?_
  intro Γ C
  refine V.aload_n (q := 1) C dX10_begin_0 rfl rfl ?_
  refine V.aload_n (q := 2) C dX10_begin_1 rfl rfl ?_
  refine V.iload_n (q := 3) C dX10_begin_2 rfl rfl ?_
  refine V.iconst (q := 4) (v := nI 0) C dX10_begin_3 rfl (by decide) ?_
  refine V.callVi (q := 7) C me_X10_one (m_one (by omega)) ml_X10_86 dX10_begin_4 rfl okM ⟨_, rfl⟩ rfl rfl (Nat.le_of_ble_eq_true rfl) (by omega) (Nat.zero_le _) (Nat.zero_le _) ?_
  refine V.topi (x1 := nI (K)) hk ?_
  refine V.iload_n (q := 8) C dX10_begin_7 rfl rfl ?_
  refine V.iload_n (q := 9) C dX10_begin_8 rfl rfl ?_
  refine V.iload_n (q := 10) C dX10_begin_9 rfl rfl ?_
  refine V.callVi (q := 13) C me_X10_byKind (m_bk2 (lv := 10) (by omega) hi hK hk hs hK) ml_X10_252 dX10_begin_10 rfl okM ⟨_, rfl⟩ rfl rfl (Nat.le_of_ble_eq_true rfl) (by omega) (Nat.zero_le _) (Nat.zero_le _) ?_
  exact V.ireturn C dX10_begin_13 ⟨rfl, rfl, rfl⟩
def actR (A : I1) (n : Nat) (p a x : Int32) : Int32 × TS := if inN p n then (if inR a (nI 0) (nI 2) then (if a = nI 0 then nodsF (ix p) (A (9 * ix p + 1)) (ix (A (9 * ix p + 0))) x (fun _ => 0, 0) else if a = nI 1 then knocksF (ix p) (A (9 * ix p + 1)) (ix (A (9 * ix p + 0))) (ix (A (9 * ix p + 0))) x (fun _ => 0, 0) else tellsF (ix p) (A (9 * ix p + 1)) (ix (A (9 * ix p + 0))) (ix (A (9 * ix p + 0))) x (fun _ => 0, 0)) else (0, (fun _ => 0, 0))) else (0, (fun _ => 0, 0))
