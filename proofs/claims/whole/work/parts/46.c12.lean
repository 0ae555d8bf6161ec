theorem c_image {l : Launch} {g : GG} {X : PHp} {h0 : HZ} {ct : CTt} {cl : I2} {rd : RDt} {B : I2} {cy : Nat → Nat} {rw : RWt} {tl : TLt} {sp : SPt} {A : I1} {n m : Nat} (hI : CI (B 0) n m) (hT : TR TT (B 0) A n m) {k : Nat → Nat} (hk : ∀ r, r < 4 → rw.2.2.2 0 r = nI (k r) ∧ k r ≤ rwN r) : Ct l g yX9_image cX9_image 1 (some .int) 24 0 0 [rf g (0, 0, 0)] NN (jn (hC g h0 ct cl rd B cy rw tl sp) X) (xI (fun b : I1 => TR TT b A n m ∧ CI b n m) (fun _ => nI n) (fun b => (jn (hC g (h0.1, nI 1) ct cl rd (putR B 2 b) (va_up cy 2 (cy 0)) (bkH rw 1 0 k) tl sp) X))) := by
  refine Ct.of (lv := [some (rf g (0, 0, 0))]) (by decide +kernel) rfl (Nat.le_of_ble_eq_true rfl) ?_
  intro Γ C
  have h6 := hI.2.1
  have h8 := hI.2.2.2
  refine V.aload_n (q := 1) C dX9_image_0 rfl rfl ?_
  refine V.get (q := 4) C fl_X9_34 dX9_image_1 rfl okC_0 rfl rfl ?_
  refine V.aload_n (q := 5) C dX9_image_4 rfl rfl ?_
  refine V.get (q := 8) C fl_X9_27 dX9_image_5 rfl okC_0 rfl rfl ?_
  refine V.callVxv (q := 11) C me_X8_become (c_becomeT (P := TT) (D := A) (n := n) (m := m) (by omega) (by omega) (by omega) hT hI) ml_X9_178 dX9_image_8 rfl (okC_6 (by omega)) ⟨_, rfl⟩ rfl rfl (Nat.le_of_ble_eq_true rfl) (by omega) (Nat.zero_le _) (Nat.zero_le _) (fun b hb => ?_)
  refine V.aload_n (q := 12) C dX9_image_11 rfl rfl ?_
  refine V.get (q := 15) C fl_X9_44 dX9_image_12 rfl okC_0 rfl rfl ?_
  refine V.aload_n (q := 16) C dX9_image_15 rfl rfl ?_
  refine V.get (q := 19) C fl_X9_40 dX9_image_16 rfl okC_0 rfl rfl ?_
  refine V.callVv (q := 22) C me_X1_become (c_hbecome (k := k) (by omega) (by omega) (by omega) hk) ml_X9_246 dX9_image_19 rfl (okC_12 (by omega)) ⟨_, rfl⟩ rfl rfl (Nat.le_of_ble_eq_true rfl) (by omega) (Nat.zero_le _) (Nat.zero_le _) ?_
  refine V.aload_n (q := 23) C dX9_image_22 rfl rfl ?_
  refine V.iconst (q := 24) (v := nI 1) C dX9_image_23 rfl (by decide) ?_
  refine V.put (q := 27) C fl_X9_64 rfl dX9_image_24 rfl okC_0 rfl (Nat.le_of_ble_eq_true rfl) rfl rfl rfl ?_
  refine V.phE (uC_0_10) ?_
  refine V.aload_n (q := 28) C dX9_image_27 rfl rfl ?_
  refine V.get (q := 31) C fl_X9_27 dX9_image_28 rfl okC_0 rfl rfl ?_
  refine V.get (q := 34) C fl_X9_208 dX9_image_31 rfl (okC_6 (by omega)) rfl rfl ?_
  refine V.topi (x1 := nI (n)) ((congrFun (putR_o (by omega)) 78).trans hI.1) ?_
  exact V.ireturn C dX9_image_34 ⟨b, hb, rfl, rfl, rfl⟩
theorem c_undo0 {l : Launch} {g : GG} {X : PHp} {h0 : HZ} {ct : CTt} {cl : I2} {rd : RDt} {B : I2} {cy : Nat → Nat} {rw : RWt} {tl : TLt} {sp : SPt} (hh : h0.2 = nI 0) : Ct l g yX9_undo cX9_undo 1 (some .int) 24 0 0 [rf g (0, 0, 0)] NN (jn (hC g h0 ct cl rd B cy rw tl sp) X) (pI (-3) (jn (hC g h0 ct cl rd B cy rw tl sp) X)) := by
  refine Ct.of (lv := [some (rf g (0, 0, 0))]) (by decide +kernel) rfl (Nat.le_of_ble_eq_true rfl) ?_
  intro Γ C
  refine V.aload_n (q := 1) C dX9_undo_0 rfl rfl ?_
  refine V.get (q := 4) C fl_X9_64 dX9_undo_1 rfl okC_0 rfl rfl ?_
  refine V.if_ne (q := 7) (tgt := 10) C dX9_undo_4 rfl rfl (fun hb4 => ?_) (fun hb4 => ?_)
  · exact absurd hh hb4
  · refine V.bipush (q := 9) (v := -3) C dX9_undo_7 rfl (by decide) ?_
    exact V.ireturn C dX9_undo_9 ⟨rfl, rfl, rfl⟩
theorem c_undo1 {l : Launch} {g : GG} {X : PHp} {h0 : HZ} {ct : CTt} {cl : I2} {rd : RDt} {B : I2} {cy : Nat → Nat} {rw : RWt} {tl : TLt} {sp : SPt} {A : I1} {n m : Nat} (hh : h0.2 = nI 1) (hI : CI (B 2) n m) (hT : TR TT (B 2) A n m) {k : Nat → Nat} (hk : ∀ r, r < 4 → rw.2.2.2 1 r = nI (k r) ∧ k r ≤ rwN r) : Ct l g yX9_undo cX9_undo 1 (some .int) 24 0 0 [rf g (0, 0, 0)] NN (jn (hC g h0 ct cl rd B cy rw tl sp) X) (xI (fun b : I1 => TR TT b A n m ∧ CI b n m) (fun _ => nI n) (fun b => (jn (hC g h0 ct cl rd (putR B 0 b) (va_up cy 0 (cy 2)) (bkH rw 0 1 k) tl sp) X))) := by
  refine Ct.of (lv := [some (rf g (0, 0, 0))]) (by decide +kernel) rfl (Nat.le_of_ble_eq_true rfl) ?_
  intro Γ C
  have h6 := hI.2.1
  have h8 := hI.2.2.2
  refine V.aload_n (q := 1) C dX9_undo_0 rfl rfl ?_
  refine V.get (q := 4) C fl_X9_64 dX9_undo_1 rfl okC_0 rfl rfl ?_
  refine V.if_ne (q := 7) (tgt := 10) C dX9_undo_4 rfl rfl (fun hb4 => ?_) (fun hb4 => ?_)
  · refine V.aload_n (q := 11) C dX9_undo_10 rfl rfl ?_
    refine V.get (q := 14) C fl_X9_27 dX9_undo_11 rfl okC_0 rfl rfl ?_
    refine V.aload_n (q := 15) C dX9_undo_14 rfl rfl ?_
    refine V.get (q := 18) C fl_X9_34 dX9_undo_15 rfl okC_0 rfl rfl ?_
    refine V.callVxv (q := 21) C me_X8_become (c_becomeT (P := TT) (D := A) (n := n) (m := m) (by omega) (by omega) (by omega) hT hI) ml_X9_178 dX9_undo_18 rfl (okC_6 (by omega)) ⟨_, rfl⟩ rfl rfl (Nat.le_of_ble_eq_true rfl) (by omega) (Nat.zero_le _) (Nat.zero_le _) (fun b hb => ?_)
    refine V.aload_n (q := 22) C dX9_undo_21 rfl rfl ?_
    refine V.get (q := 25) C fl_X9_40 dX9_undo_22 rfl okC_0 rfl rfl ?_
    refine V.aload_n (q := 26) C dX9_undo_25 rfl rfl ?_
    refine V.get (q := 29) C fl_X9_44 dX9_undo_26 rfl okC_0 rfl rfl ?_
    refine V.callVv (q := 32) C me_X1_become (c_hbecome (k := k) (by omega) (by omega) (by omega) hk) ml_X9_246 dX9_undo_29 rfl (okC_12 (by omega)) ⟨_, rfl⟩ rfl rfl (Nat.le_of_ble_eq_true rfl) (by omega) (Nat.zero_le _) (Nat.zero_le _) ?_
    refine V.aload_n (q := 33) C dX9_undo_32 rfl rfl ?_
    refine V.get (q := 36) C fl_X9_27 dX9_undo_33 rfl okC_0 rfl rfl ?_
    refine V.get (q := 39) C fl_X9_208 dX9_undo_36 rfl (okC_6 (by omega)) rfl rfl ?_
    refine V.topi (x1 := nI (n)) ((congrFun putR_w 78).trans hb.2.1) ?_
    exact V.ireturn C dX9_undo_39 ⟨b, hb, rfl, rfl, rfl⟩
  · exact absurd (hb4.symm.trans hh) (by decide)
/-- an act: its answer, the trail; T is what the trail's places held before -/
def actQ (A T : I1) (n : Nat) (p a x : Int32) : Int32 × TS := if inN p n then (if inR a (nI 0) (nI 2) then (if a = nI 0 then nodsF (ix p) (A (9 * ix p + 1)) (ix (A (9 * ix p + 0))) x (T, 0) else if a = nI 1 then knocksF (ix p) (A (9 * ix p + 1)) (ix (A (9 * ix p + 0))) (ix (A (9 * ix p + 0))) x (T, 0) else tellsF (ix p) (A (9 * ix p + 1)) (ix (A (9 * ix p + 0))) (ix (A (9 * ix p + 0))) x (T, 0)) else (0, (T, 0))) else (0, (T, 0))
theorem act_0 {A T : I1} {n j K : Nat} {x : Int32} (h : inN (nI j) n = true) (hj : j < 6) (hK : A (9 * j + 0) = nI K) (hK7 : K < 7) : actQ A T n (nI j) (nI 0) x = nodsF j (A (9 * j + 1)) K x (T, 0) := by
  rw [actQ, if_pos h, if_pos (by decide), if_pos rfl, ix_k (by omega), hK, ix_k (by omega)]
theorem act_1 {A T : I1} {n j K : Nat} {x : Int32} (h : inN (nI j) n = true) (hj : j < 6) (hK : A (9 * j + 0) = nI K) (hK7 : K < 7) : actQ A T n (nI j) (nI 1) x = knocksF j (A (9 * j + 1)) K K x (T, 0) := by
  rw [actQ, if_pos h, if_pos (by decide), if_neg (by decide), if_pos rfl, ix_k (by omega), hK, ix_k (by omega)]
theorem act_2 {A T : I1} {n j K : Nat} {x : Int32} (h : inN (nI j) n = true) (hj : j < 6) (hK : A (9 * j + 0) = nI K) (hK7 : K < 7) : actQ A T n (nI j) (nI 2) x = tellsF j (A (9 * j + 1)) K K x (T, 0) := by
  rw [actQ, if_pos h, if_pos (by decide), if_neg (by decide), if_neg (by decide), ix_k (by omega), hK, ix_k (by omega)]
theorem act_d {A T : I1} {n : Nat} {p a x : Int32} (h : ∀ k, k < 3 → a ≠ nI (0 + k)) : actQ A T n p a x = (0, (T, 0)) := by
  rw [actQ]
  split
  · rw [if_neg]
    intro z
    obtain ⟨j, -, hj, e⟩ := InR_nat (by omega) (by omega) z
    exact h j (by omega) (by rw [e, Nat.zero_add])
  · rfl
theorem c_act {l : Launch} {g : GG} {X : PHp} {h0 : HZ} {ct : CTt} {cl : I2} {rd : RDt} {B : I2} {cy : Nat → Nat} {rw : RWt} {tl : TLt} {sp : SPt} {A : I1} {n m : Nat} (hI : CI (B 0) n m) (hT : TR TT (B 0) A n m) (hK : ∀ i, i < n → ∃ K, K < 7 ∧ A (9 * i + 0) = nI K) {p a x : Int32} : Ct l g yX9_act cX9_act 5 (some .int) 24 0 0 [rf g (0, 0, 0), .int p, .int a, .int x] NN (jn (hC g h0 ct cl rd B cy rw tl sp) X) (pI (actQ A tl.1 n p a x).1 (jn (hC g h0 ct cl rd B cy rw ((actQ A tl.1 n p a x).2.1, nI (actQ A tl.1 n p a x).2.2) sp) X)) := by
  refine Ct.of (lv := [some (rf g (0, 0, 0)), some (.int p), some (.int a), some (.int x), none]) (by decide +kernel) rfl (Nat.le_of_ble_eq_true rfl) ?_
  intro Γ C
  have h6 := hI.2.1
  have h8 := hI.2.2.2
  refine V.aload_n (q := 1) C dX9_act_0 rfl rfl ?_
  refine V.get (q := 4) C fl_X9_50 dX9_act_1 rfl okC_0 rfl rfl ?_
  refine V.iconst (q := 5) (v := nI 0) C dX9_act_4 rfl (by decide) ?_
  refine V.put (q := 8) C fl_X9_249 rfl dX9_act_5 rfl okC_17 rfl (Nat.le_of_ble_eq_true rfl) rfl rfl rfl ?_
  refine V.phE (uC_17_1) ?_
  try dsimp only
  refine V.aload_n (q := 9) C dX9_act_8 rfl rfl ?_
  refine V.get (q := 12) C fl_X9_27 dX9_act_9 rfl okC_0 rfl rfl ?_
  refine V.iload_n (q := 13) C dX9_act_12 rfl rfl ?_
  refine V.callVi (q := 16) C me_X8_hasWearer (c_hasWearer (by omega) hI) ml_X9_78 dX9_act_13 rfl (okC_6 (by omega)) ⟨_, rfl⟩ rfl rfl (Nat.le_of_ble_eq_true rfl) (by omega) (Nat.zero_le _) (Nat.zero_le _) ?_
  refine V.if_neB (q := 19) (tgt := 21) C dX9_act_16 rfl rfl (fun hb16 => ?_) (fun hb16 => ?_)
  · have hn9 := hb16
    obtain ⟨j, hj, rfl⟩ := InN_nat (by omega) hb16
    have hj6 : j < 6 := by omega
    obtain ⟨K, hK7, hK1⟩ := hK j hj
    have hK0 : B 0 (9 * j + 0) = nI K := (hT.1 j hj trivial 0 (by omega)).trans hK1
    have e1 := (hT.1 j hj trivial 1 (by omega)).symm
    refine V.aload_n (q := 22) C dX9_act_21 rfl rfl ?_
    refine V.get (q := 25) C fl_X9_27 dX9_act_22 rfl okC_0 rfl rfl ?_
    refine V.get (q := 28) C fl_X9_82 dX9_act_25 rfl (okC_6 (by omega)) rfl rfl ?_
    refine V.iload_n (q := 29) C dX9_act_28 rfl rfl ?_
    refine V.rld (q := 30) (i := j) C rfl dX9_act_29 rfl (okC_7 (by omega)) rfl rfl (by omega) (by decide) ?_
    refine V.astore (q := 32) C dX9_act_30 rfl (by decide) rfl rfl ?_
    refine V.iload_n (q := 33) C dX9_act_32 rfl rfl ?_
    refine V.tsw (lo := 0) (N := 3) (tgt := 108) C dX9_act_33 (by decide) (by decide) rfl (fun k hk hx33 => ?_) (fun hx33 => ?_)
    · obtain rfl | rfl | rfl := (show k = 0 ∨ k = 1 ∨ k = 2 by omega)
      · refine ⟨_, 60, rfl, rfl, ?_⟩
        replace hx33 : _ = nI 0 := hx33
        refine V.aload (q := 62) C dX9_act_60 rfl rfl ?_
        refine V.aload (q := 64) C dX9_act_62 rfl rfl ?_
        refine V.get (q := 67) C fl_X9_86 dX9_act_64 rfl (okC_9 (by omega) (by omega)) rfl rfl ?_
        try dsimp only
        refine V.topi (x1 := nI (K)) hK0 ?_
        refine V.iload_n (q := 68) C dX9_act_67 rfl rfl ?_
        refine V.aload_n (q := 69) C dX9_act_68 rfl rfl ?_
        refine V.get (q := 72) C fl_X9_50 dX9_act_69 rfl okC_0 rfl rfl ?_
        refine V.callSNi (q := 75) C me_X6_nods (c_nods (lv := 3) (s := (tl.1, 0)) (by omega) hj6 (Nat.zero_le _) hK7) ml_X9_252 dX9_act_72 rfl rfl rfl (Nat.le_of_ble_eq_true rfl) (by omega) (Nat.zero_le _) (Nat.zero_le _) ?_
        exact V.ireturn C dX9_act_75 ⟨by rw [hx33, act_0 hn9 hj6 hK1 hK7, e1], by rw [hx33, act_0 hn9 hj6 hK1 hK7, e1], rfl⟩
      · refine ⟨_, 76, rfl, rfl, ?_⟩
        replace hx33 : _ = nI 1 := hx33
        refine V.aload (q := 78) C dX9_act_76 rfl rfl ?_
        refine V.aload (q := 80) C dX9_act_78 rfl rfl ?_
        refine V.get (q := 83) C fl_X9_86 dX9_act_80 rfl (okC_9 (by omega) (by omega)) rfl rfl ?_
        try dsimp only
        refine V.topi (x1 := nI (K)) hK0 ?_
        refine V.iload_n (q := 84) C dX9_act_83 rfl rfl ?_
        refine V.aload_n (q := 85) C dX9_act_84 rfl rfl ?_
        refine V.get (q := 88) C fl_X9_50 dX9_act_85 rfl okC_0 rfl rfl ?_
        refine V.callSNi (q := 91) C me_X6_knocks (c_knocks (lv := 6) (s := (tl.1, 0)) (by omega) hj6 hK7 hK0 (Nat.zero_le _) hK7) ml_X9_256 dX9_act_88 rfl rfl rfl (Nat.le_of_ble_eq_true rfl) (by omega) (Nat.zero_le _) (Nat.zero_le _) ?_
        exact V.ireturn C dX9_act_91 ⟨by rw [hx33, act_1 hn9 hj6 hK1 hK7, e1], by rw [hx33, act_1 hn9 hj6 hK1 hK7, e1], rfl⟩
      · refine ⟨_, 92, rfl, rfl, ?_⟩
        replace hx33 : _ = nI 2 := hx33
        refine V.aload (q := 94) C dX9_act_92 rfl rfl ?_
        refine V.aload (q := 96) C dX9_act_94 rfl rfl ?_
        refine V.get (q := 99) C fl_X9_86 dX9_act_96 rfl (okC_9 (by omega) (by omega)) rfl rfl ?_
        try dsimp only
        refine V.topi (x1 := nI (K)) hK0 ?_
        refine V.iload_n (q := 100) C dX9_act_99 rfl rfl ?_
        refine V.aload_n (q := 101) C dX9_act_100 rfl rfl ?_
        refine V.get (q := 104) C fl_X9_50 dX9_act_101 rfl okC_0 rfl rfl ?_
        refine V.callSNi (q := 107) C me_X6_tells (c_tells (lv := 8) (s := (tl.1, 0)) (by omega) hj6 hK7 hK0 (Nat.zero_le _) hK7) ml_X9_259 dX9_act_104 rfl rfl rfl (Nat.le_of_ble_eq_true rfl) (by omega) (Nat.zero_le _) (Nat.zero_le _) ?_
        exact V.ireturn C dX9_act_107 ⟨by rw [hx33, act_2 hn9 hj6 hK1 hK7, e1], by rw [hx33, act_2 hn9 hj6 hK1 hK7, e1], rfl⟩
    · refine V.iconst (q := 109) (v := nI 0) C dX9_act_108 rfl (by decide) ?_
      exact V.ireturn C dX9_act_109 ⟨by rw [act_d hx33] <;> rfl, by rw [act_d hx33], rfl⟩
  · refine V.iconst (q := 20) (v := nI 0) C dX9_act_19 rfl (by decide) ?_
    exact V.ireturn C dX9_act_20 ⟨by rw [actQ, if_neg hb16] <;> rfl, by rw [actQ, if_neg hb16], rfl⟩
def cyK (T : I1) (t r : Nat) : Nat := if r = 6 then r else if okP (rcP T t) t = true then r + 1 else r
def cyC (cy : Nat → Nat) (T : I1) (t r : Nat) : Nat → Nat := if r = 6 then cy else if okP (rcP T t) t = true then va_up cy 0 (r + 1) else cy
def cyT (t r : Nat) : Nat := if r = 6 then t else 0
theorem c_city {l : Launch} {g : GG} {X : PHp} {ct : CTt} {cl : I2} {B : I2} {cy : Nat → Nat} {rw : RWt} {tl : TLt} {sp : SPt} {T : I1} {t r : Nat} {p9 h9 : Int32} (hr : r ≤ 6) (ht : t ≤ 100) (hT : ∀ j, j < t → ∃ c, c < 128 ∧ T j = nI c) : Ct l g yX9_city cX9_city 3 (some .int) 24 0 0 [rf g (0, 0, 0)] NN (jn (hC g (nI r, h9) ct cl (T, nI t, p9) B cy rw tl sp) X) (xI (fun z : CTt × Int32 => (r = 6 → z.1 = ct) ∧ (¬ r = 6 → MkO ct z.1 (r + 1) t (rcP T t))) (fun _ => cityR T t r) (fun z => (jn (hC g (nI (cyK T t r), h9) z.1 cl (T, nI (cyT t r), z.2) B (cyC cy T t r) rw tl sp) X))) := by
  refine Ct.of (lv := [some (rf g (0, 0, 0)), none, none]) (by decide +kernel) rfl (Nat.le_of_ble_eq_true rfl) ?_
  intro Γ C
  refine V.aload_n (q := 1) C dX9_city_0 rfl rfl ?_
  refine V.get (q := 4) C fl_X9_60 dX9_city_1 rfl okC_0 rfl rfl ?_
  try dsimp only
  refine V.aload_n (q := 5) C dX9_city_4 rfl rfl ?_
  refine V.get (q := 8) C fl_X9_13 dX9_city_5 rfl okC_0 rfl rfl ?_
  refine V.len_aR (q := 9) C rfl dX9_city_8 rfl okC_1 rfl ?_
  refine V.icmp_lt (q := 12) (tgt := 15) C dX9_city_9 rfl rfl (fun hb9 => ?_) (fun hb9 => ?_)
  · have hr5 : r < 6 := (nI_ltI (by omega) (by omega)).mp hb9
    have hr6 : ¬ r = 6 := by omega
    refine V.aload_n (q := 16) C dX9_city_15 rfl rfl ?_
    refine V.get (q := 19) C fl_X9_13 dX9_city_16 rfl okC_0 rfl rfl ?_
    refine V.aload_n (q := 20) C dX9_city_19 rfl rfl ?_
    refine V.get (q := 23) C fl_X9_60 dX9_city_20 rfl okC_0 rfl rfl ?_
    try dsimp only
    refine V.rld (q := 24) (i := r) C rfl dX9_city_23 rfl okC_1 rfl rfl (by omega) (by decide) ?_
    refine V.astore_n (q := 25) C dX9_city_24 rfl (by decide) rfl rfl ?_
    refine V.aload_n (q := 26) C dX9_city_25 rfl rfl ?_
    refine V.get (q := 29) C fl_X9_20 dX9_city_26 rfl okC_0 rfl rfl ?_
    refine V.aload_n (q := 30) C dX9_city_29 rfl rfl ?_
    refine V.callVxi (q := 33) C me_X2_makes (c_makes (c := r + 1) (Nm := fun _ => 0) (by omega) ht hT) ml_X9_144 dX9_city_30 rfl okC_4 ⟨_, rfl⟩ rfl rfl (Nat.le_of_ble_eq_true rfl) (by omega) (Nat.zero_le _) (Nat.zero_le _) (fun z1 hz1 => ?_)
    refine V.istore_n (q := 34) C dX9_city_33 rfl (by decide) rfl rfl ?_
    refine V.aload_n (q := 35) C dX9_city_34 rfl rfl ?_
    refine V.get (q := 38) C fl_X9_20 dX9_city_35 rfl okC_0 rfl rfl ?_
    refine V.iconst (q := 39) (v := nI 0) C dX9_city_38 rfl (by decide) ?_
    refine V.put (q := 42) C fl_X9_148 rfl dX9_city_39 rfl okC_4 rfl (Nat.le_of_ble_eq_true rfl) rfl rfl rfl ?_
    refine V.phE (uC_4_1) ?_
    try dsimp only
    refine V.iload_n (q := 43) C dX9_city_42 rfl rfl ?_
    refine V.if_neB (q := 46) (tgt := 57) C dX9_city_43 rfl rfl (fun hb43 => ?_) (fun hb43 => ?_)
    · replace hb43 : okP (rcP T t) t = true := hb43
      refine V.aload_n (q := 58) C dX9_city_57 rfl rfl ?_
      refine V.get (q := 61) C fl_X9_27 dX9_city_58 rfl okC_0 rfl rfl ?_
      refine V.aload_n (q := 62) C dX9_city_61 rfl rfl ?_
      refine V.put (q := 65) C fl_X9_154 rfl dX9_city_62 rfl (okC_6 (by omega)) rfl (Nat.le_of_ble_eq_true rfl) rfl rfl rfl ?_
      refine V.phE (uC_6_5) ?_
      try dsimp only
      refine V.aload_n (q := 66) C dX9_city_65 rfl rfl ?_
      refine V.dup (q := 67) C dX9_city_66 rfl rfl ?_
      refine V.get (q := 70) C fl_X9_60 dX9_city_67 rfl okC_0 rfl rfl ?_
      try dsimp only
      refine V.iconst (q := 71) (v := nI 1) C dX9_city_70 rfl (by decide) ?_
      refine V.iadd (q := 72) C dX9_city_71 rfl ?_
      refine V.topi (x1 := nI (r + 1)) (nI_add _ _) ?_
      refine V.put (q := 75) C fl_X9_60 rfl dX9_city_72 rfl okC_0 rfl (Nat.le_of_ble_eq_true rfl) rfl rfl rfl ?_
      refine V.phE (uC_0_9) ?_
      try dsimp only
      refine V.aload_n (q := 76) C dX9_city_75 rfl rfl ?_
      refine V.get (q := 79) C fl_X9_60 dX9_city_76 rfl okC_0 rfl rfl ?_
      try dsimp only
      refine V.iconst (q := 80) (v := nI 1) C dX9_city_79 rfl (by decide) ?_
      refine V.isub (q := 81) C dX9_city_80 rfl ?_
      refine V.topi (x1 := nI r) (pk_sub (by omega)) ?_
      exact V.ireturn C dX9_city_81 ⟨(z1, nI (rcP T t).2.1), ⟨fun q => absurd q hr6, fun _ => hz1⟩, by rw [cityR, if_neg hr6, if_pos hb43] <;> rfl, by rw [cyK, cyT, cyC, if_neg hr6, if_neg hr6, if_neg hr6, if_pos hb43, if_pos hb43] <;> rfl, rfl⟩
    · replace hb43 : ¬ okP (rcP T t) t = true := hb43
      refine V.bipush (q := 48) (v := -10) C dX9_city_46 rfl (by decide) ?_
      refine V.aload_n (q := 49) C dX9_city_48 rfl rfl ?_
      refine V.get (q := 52) C fl_X9_20 dX9_city_49 rfl okC_0 rfl rfl ?_
      refine V.get (q := 55) C fl_X9_151 dX9_city_52 rfl okC_4 rfl rfl ?_
      try dsimp only
      refine V.isub (q := 56) C dX9_city_55 rfl ?_
      exact V.ireturn C dX9_city_56 ⟨(z1, nI (rcP T t).2.1), ⟨fun q => absurd q hr6, fun _ => hz1⟩, by rw [cityR, if_neg hr6, if_neg hb43] <;> rfl, by rw [cyK, cyT, cyC, if_neg hr6, if_neg hr6, if_neg hr6, if_neg hb43, if_neg hb43] <;> rfl, rfl⟩
  · have hr6 : r = 6 := by
      rcases Nat.lt_or_ge r 6 with q | q
      · exact absurd ((nI_ltI (by omega) (by omega)).mpr q) hb9
      · omega
    refine V.bipush (q := 14) (v := -4) C dX9_city_12 rfl (by decide) ?_
    exact V.ireturn C dX9_city_14 ⟨(ct, p9), ⟨fun _ => rfl, fun q => absurd hr6 q⟩, by rw [cityR, if_pos hr6], by rw [cyK, cyT, cyC, if_pos hr6, if_pos hr6, if_pos hr6], rfl⟩
