theorem V.ldc_w {l : Launch} {Γ : Cxt} {g : GG} {cc : ByteArray} {y : MethodName} {nL : Nat} {ret : Option FieldType} {lvl mc ms : Nat} {Q : State → Prop} {cells slots n : Nat} {PH : PHp} {pc q : Nat} {lv : List (Option Value)} {st : List Value} {i : Nat} {v : Int32} (C : Cx Γ g cc y nL ret lvl mc ms) (hw : Cond.constant y.cls i v ∈ gws) (d : decode cc pc = .ok (.ldc_w i, 3)) (hq : pc + 3 = q) (k : V l Γ g nL Q cells slots n PH q lv (.int v :: st)) : V l Γ g nL Q cells slots n PH pc lv (st) := by
  obtain ⟨p, e, R, s, m, args, below, meth, c⟩ := Γ
  subst hq
  intro H locs ls hH hS hL
  exact lv_ldcw C.1 C.2.1 C.2.2.2.1 (C.2.2.2.2.1 _ hw) d (k H locs ls hH hS hL)
theorem set1 {B : I2} {b : I1} {w k : Nat} {x : Int32} : setB (putR B w b) w k x = putR B w (upd b k x) := by rw [setB_put, putR_put, putR_w]
theorem c_begT {l : Launch} {g : GG} {X : PHp} {h0 : HZ} {ct : CTt} {cl : I2} {rd : RDt} {B : I2} {cy : Nat → Nat} {rw : RWt} {tl : TLt} {sp : SPt} {rules sizes A : I1} {n m r q : Nat} {b0 : I1} {c0 : Nat} (hS : SH ct rules sizes A n m r q) (hI : CI (B 0) n m) (hT : TR TT (B 0) A n m) (hcy : cy 0 = q) : Ct l g yX8_become cX8_become 3 none 3 0 0 [rf g (6, 1, 0), rf g (6, 0, 0)] NN (jn (hC g h0 ct cl rd (putR B 1 b0) (va_up cy 1 c0) rw tl sp) X) (xV (fun b : I1 => TR TT b A n m ∧ CI b n m) (fun b => (jn (hC g h0 ct cl rd (putR B 1 b) (va_up cy 1 q) rw tl sp) X))) := by
  refine (c_becomeT (P := TT) (D := A) (n := n) (m := m) (w := 1) (w2 := 0) (by omega) (by omega) (by omega) (by rw [putR_o (by omega)]; exact hT) (by rw [putR_o (by omega)]; exact hI)).weak ?_
  rintro v PH n9 ⟨z, hz, rfl, rfl, rfl⟩
  refine ⟨z, hz, rfl, ?_, rfl⟩
  dsimp only
  rw [putR_put, va_up_ne _ _ (show (0 : Nat) ≠ 1 by omega), va_up_up, hcy]
theorem c_go1 {l : Launch} {g : GG} {X : PHp} {h0 : HZ} {ct : CTt} {cl : I2} {rd : RDt} {B : I2} {cy : Nat → Nat} {rw : RWt} {tl : TLt} {sp : SPt} {P : Nat → Prop} {b D : I1} {k : Nat} {one : Int32} {rules sizes : I1} {n m r q : Nat} (hS : SH ct rules sizes D n m r q) (hT : TR P b D n m) (hI : CI b n m) (ho : Who one P) (hk : k ≤ 60) : Ct l g yX8_go cX8_go 5 none 5 0 0 [rf g (6, 1, 0), .int (nI k), .int one] NN (jn (hC g h0 ct cl rd (putR B 1 b) (va_up cy 1 q) rw tl sp) X) (xV (fun z : I2 × I1 => TR P z.2 (dsA rules sizes m k D) n m ∧ CI z.2 n m ∧ ∀ j, 54 ≤ j → j ≠ 80 → z.2 j = b j) (fun z => (jn (hC g h0 ct z.1 rd (putR B 1 z.2) (va_up cy 1 q) rw tl sp) X))) :=
  c_goT hS (by omega) hT hI (va_up_self _ _ _) ho hk
theorem c_more {l : Launch} {g : GG} {X : PHp} {h0 : HZ} {ct : CTt} {cl : I2} {rd : RDt} {B : I2} {cy : Nat → Nat} {rw : RWt} {tl : TLt} {sp : SPt} {P : Nat → Prop} {b D A : I1} {n m p c0 : Nat} (hb : TR P b D n m) (hT : TR TT (B 0) A n m) (hp : p < n) (h6 : n ≤ 6) (hP : P p) : Ct l g yX9_isMoreHurt cX9_isMoreHurt 2 (some .boolean) 1 0 0 [rf g (0, 0, 0), .int (nI p)] NN (jn (hC g h0 ct cl rd (putR B 1 b) (va_up cy 1 c0) rw tl sp) X) (pI (b2i (¬ D (9 * p + 4) ≤ A (9 * p + 4))) (jn (hC g h0 ct cl rd (putR B 1 b) (va_up cy 1 c0) rw tl sp) X)) := by
  refine Ct.of (lv := [some (rf g (0, 0, 0)), some (.int (nI p))]) (by decide +kernel) rfl (Nat.le_of_ble_eq_true rfl) ?_
  intro Γ C
  refine V.aload_n (q := 1) C dX9_isMoreHurt_0 rfl rfl ?_
  refine V.get (q := 4) C fl_X9_31 dX9_isMoreHurt_1 rfl okC_0 rfl rfl ?_
  refine V.get (q := 7) C fl_X9_82 dX9_isMoreHurt_4 rfl (okC_6 (by omega)) rfl rfl ?_
  refine V.iload_n (q := 8) C dX9_isMoreHurt_7 rfl rfl ?_
  refine V.rld (q := 9) (i := p) C rfl dX9_isMoreHurt_8 rfl (okC_7 (by omega)) rfl rfl (by omega) (by decide) ?_
  refine V.get (q := 12) C fl_X9_100 dX9_isMoreHurt_9 rfl (okC_9 (by omega) (by omega)) rfl rfl ?_
  refine V.topi (x1 := D (9 * p + 4)) ((congrFun putR_w _).trans (hb.1 p hp hP 4 (by omega))) ?_
  refine V.aload_n (q := 13) C dX9_isMoreHurt_12 rfl rfl ?_
  refine V.get (q := 16) C fl_X9_27 dX9_isMoreHurt_13 rfl okC_0 rfl rfl ?_
  refine V.get (q := 19) C fl_X9_82 dX9_isMoreHurt_16 rfl (okC_6 (by omega)) rfl rfl ?_
  refine V.iload_n (q := 20) C dX9_isMoreHurt_19 rfl rfl ?_
  refine V.rld (q := 21) (i := p) C rfl dX9_isMoreHurt_20 rfl (okC_7 (by omega)) rfl rfl (by omega) (by decide) ?_
  refine V.get (q := 24) C fl_X9_100 dX9_isMoreHurt_21 rfl (okC_9 (by omega) (by omega)) rfl rfl ?_
  refine V.topi (x1 := A (9 * p + 4)) ((congrFun (putR_o (by omega)) _).trans (hT.1 p hp trivial 4 (by omega))) ?_
  refine V.icmp_le (q := 27) (tgt := 31) C dX9_isMoreHurt_24 rfl rfl (fun hb24 => ?_) (fun hb24 => ?_)
  · refine V.iconst (q := 32) (v := nI 0) C dX9_isMoreHurt_31 rfl (by decide) ?_
    exact V.zreturn C dX9_isMoreHurt_32 rfl ⟨congrArg (fun x => some (Value.int x)) (b2i_f (p := ¬ D (9 * p + 4) ≤ A (9 * p + 4)) (fun z => z hb24)).symm, rfl, rfl⟩
  · refine V.iconst (q := 28) (v := nI 1) C dX9_isMoreHurt_27 rfl (by decide) ?_
    refine V.goto (tgt := 32) C dX9_isMoreHurt_28 rfl ?_
    exact V.zreturn C dX9_isMoreHurt_32 rfl ⟨congrArg (fun x => some (Value.int x)) (b2i_t (p := ¬ D (9 * p + 4) ≤ A (9 * p + 4)) hb24).symm, rfl, rfl⟩
theorem on_no {x : Int32} {n : Nat} (hn : n ≤ 6) (h : ¬ (¬ x / nI 10 < nI 1 ∧ ¬ nI 3 < x / nI 10 ∧ inN (x - x / nI 10 * nI 10) n = true)) : ¬ inN (x - nI 10) n = true ∧ ¬ inN (x - nI 20) n = true ∧ ¬ inN (x - nI 30) n = true := by
  have key : ∀ t, 1 ≤ t → t < 4 → ¬ inN (x - nI (10 * t)) n = true := by
    intro t h1 h4 z
    obtain ⟨j, hj, e⟩ := InN_nat (by omega) z
    obtain rfl := sub_nI e
    apply h
    rw [on_rem t h4 j (by omega), on_div t h4 j (by omega)]
    exact ⟨nI_nlt (by omega) (by omega), nI_nlt (by omega) (by omega), InN_of (by omega) hj⟩
  exact ⟨key 1 (by omega) (by omega), key 2 (by omega) (by omega), key 3 (by omega) (by omega)⟩
theorem on_yes {x : Int32} {n : Nat} (hn : n ≤ 6) (h1 : ¬ x / nI 10 < nI 1) (h2 : ¬ nI 3 < x / nI 10) (h3 : inN (x - x / nI 10 * nI 10) n = true) : ∃ t j, 1 ≤ t ∧ t < 4 ∧ j < n ∧ x = nI (10 * t + j) := by
  have hx : ¬ x < 0 := by
    intro z
    apply h1
    rw [Int32.lt_iff_toInt_lt] at z ⊢
    have e0 : (0 : Int32).toInt = 0 := by decide
    have e1 : (nI 1).toInt = 1 := by decide
    have e10 : (nI 10).toInt = 10 := by decide
    have h9 : (x / nI 10).toInt = x.toInt.tdiv 10 := by
      have q := @Int32.toInt_div_of_ne_right x (nI 10) (by decide)
      rw [q, e10]
    rw [h9, e1]
    have q1 : (-(-x.toInt)).tdiv 10 = -((-x.toInt).tdiv 10) := by rw [Int.neg_tdiv]
    have q2 : 0 ≤ (-x.toInt).tdiv 10 := Int.tdiv_nonneg (by omega) (by omega)
    rw [Int.neg_neg] at q1
    omega
  obtain ⟨a, ha, rfl⟩ := nI_of hx
  rw [pk_div ha (by omega) (by omega)] at h1 h2
  rw [pk_rem ha (by omega) (by omega)] at h3
  obtain ⟨j, hj, e⟩ := InN_nat (by omega) h3
  have hj2 := (nI_eq (by omega) (by omega)).mp e
  have q1 : 1 ≤ a / 10 := Nat.le_of_not_lt (fun z => h1 (nI_lt z (by omega)))
  have q2 : a / 10 ≤ 3 := Nat.le_of_not_lt (fun z => h2 (nI_lt z (by omega)))
  exact ⟨a / 10, j, q1, by omega, hj, congrArg nI (by omega)⟩
theorem on_v {rules sizes A : I1} {n m t j : Nat} {k : Int32} (hn : n ≤ 6) (hj : j < n) (h1 : 1 ≤ t) (h4 : t < 4) : onR rules sizes A n m k (nI (10 * t + j)) = onV rules sizes A n m k (fun D => D (9 * j + (t + 1))) := by
  have hs : ∀ a, a ≤ t → nI (10 * t + j) - nI (10 * a) = nI (10 * (t - a) + j) := fun a h => by rw [pk_sub (by omega)]; congr 1; omega
  have hN : ∀ a, 1 ≤ a → a < t → ¬ inN (nI (10 * t + j) - nI (10 * a)) n = true := by
    intro a ha hat z
    rw [hs a (by omega)] at z
    obtain ⟨i, hi, e⟩ := InN_nat (by omega) z
    have := (nI_eq (by omega) (by omega)).mp e
    omega
  have hY : inN (nI (10 * t + j) - nI (10 * t)) n = true := by rw [hs t (Nat.le_refl t), show 10 * (t - t) + j = j by omega]; exact InN_of (by omega) hj
  have eY : ix (nI (10 * t + j) - nI (10 * t)) = j := by rw [hs t (Nat.le_refl t), show 10 * (t - t) + j = j by omega, ix_k (by omega)]
  have h0 : ¬ nI (10 * t + j) = 0 := nI_ne0 (by omega) (by omega)
  obtain rfl | rfl | rfl := (show t = 1 ∨ t = 2 ∨ t = 3 by omega)
  · rw [onR, if_neg h0, if_pos hY, eY]
  · rw [onR, if_neg h0, if_neg (hN 1 (by omega) (by omega)), if_pos hY, eY]
  · rw [onR, if_neg h0, if_neg (hN 1 (by omega) (by omega)), if_neg (hN 2 (by omega) (by omega)), if_pos hY, eY]
theorem on_bad {rules sizes A : I1} {n m : Nat} {k x : Int32} (h0 : ¬ x = 0) (h : ¬ inN (x - nI 10) n = true ∧ ¬ inN (x - nI 20) n = true ∧ ¬ inN (x - nI 30) n = true) : onR rules sizes A n m k x = -1 := by
  rw [onR, if_neg h0, if_neg h.1, if_neg h.2.1, if_neg h.2.2]
theorem c_on {l : Launch} {g : GG} {X : PHp} {h0 : HZ} {ct : CTt} {cl : I2} {rd : RDt} {B : I2} {cy : Nat → Nat} {rw : RWt} {tl : TLt} {sp : SPt} {rules sizes A : I1} {n m r q : Nat} (hS : SH ct rules sizes A n m r q) (hI : CI (B 0) n m) (hT : TR TT (B 0) A n m) (hcy : cy 0 = q) {k x : Int32} : Ct l g yX9_on cX9_on 7 (some .int) 24 0 0 [rf g (0, 0, 0), .int k, .int x] NN (jn (hC g h0 ct cl rd B cy rw tl sp) X) (xI (fun _ : I2 × I1 × Nat => True) (fun _ => onR rules sizes A n m k x) (fun z => (jn (hC g h0 ct z.1 rd (putR B 1 z.2.1) (va_up cy 1 z.2.2) rw tl sp) X))) := by
  refine Ct.of (lv := [some (rf g (0, 0, 0)), some (.int k), some (.int x), none, none, none, none]) (by decide +kernel) rfl (Nat.le_of_ble_eq_true rfl) ?_
  intro Γ C
  have h6 := hI.2.1
  have h8 := hI.2.2.2
  refine V.iload_n (q := 1) C dX9_on_0 rfl rfl ?_
  refine V.bipush (q := 3) (v := nI 10) C dX9_on_1 rfl (by decide) ?_
  refine V.idiv (q := 4) C dX9_on_3 rfl (by decide) ?_
  refine V.istore_n (q := 5) C dX9_on_4 rfl (by decide) rfl rfl ?_
  refine V.iload_n (q := 6) C dX9_on_5 rfl rfl ?_
  refine V.bipush (q := 8) (v := nI 10) C dX9_on_6 rfl (by decide) ?_
  refine V.irem (q := 9) C dX9_on_8 rfl (by decide) ?_
  refine V.istore (q := 11) C dX9_on_9 rfl (by decide) rfl rfl ?_
  refine V.iload_n (q := 12) C dX9_on_11 rfl rfl ?_
  refine V.if_ne (q := 15) (tgt := 19) C dX9_on_12 rfl rfl (fun hb12 => ?_) (fun hb12 => ?_)
  · have hx0 : ¬ x = 0 := hb12
    refine V.iconst (q := 20) (v := nI 0) C dX9_on_19 rfl (by decide) ?_
    refine V.istore (q := 22) C dX9_on_20 rfl (by decide) rfl rfl ?_
    refine V.iload (q := 24) C dX9_on_22 rfl rfl ?_
    refine V.if_ne (q := 27) (tgt := 51) C dX9_on_24 rfl rfl (fun hb24 => ?_) (fun hb24 => ?_)
    · exact absurd rfl hb24
    · refine V.iload_n (q := 28) C dX9_on_27 rfl rfl ?_
      refine V.iconst (q := 29) (v := nI 1) C dX9_on_28 rfl (by decide) ?_
      refine V.icmp_lt (q := 32) (tgt := 49) C dX9_on_29 rfl rfl (fun hb29 => ?_) (fun hb29 => ?_)
      · refine V.iconst (q := 50) (v := -1) C dX9_on_49 rfl (by decide) ?_
        exact V.ireturn C dX9_on_50 ⟨(cl, B 1, cy 1), trivial, by rw [on_bad hx0 (on_no h6 (fun z => z.1 hb29))], (congrArg (fun z => (jn (hC g h0 ct cl rd z cy rw tl sp) X)) (putR_id (B := B) (w := 1)).symm).trans (congrArg (fun z => (jn (hC g h0 ct cl rd (putR B 1 (B 1)) z rw tl sp) X)) (va_up_id (f := cy) (k := 1)).symm), rfl⟩
      · refine V.iload_n (q := 33) C dX9_on_32 rfl rfl ?_
        refine V.iconst (q := 34) (v := nI 3) C dX9_on_33 rfl (by decide) ?_
        refine V.icmp_gt (q := 37) (tgt := 49) C dX9_on_34 rfl rfl (fun hb34 => ?_) (fun hb34 => ?_)
        · refine V.iconst (q := 50) (v := -1) C dX9_on_49 rfl (by decide) ?_
          exact V.ireturn C dX9_on_50 ⟨(cl, B 1, cy 1), trivial, by rw [on_bad hx0 (on_no h6 (fun z => z.2.1 hb34))], (congrArg (fun z => (jn (hC g h0 ct cl rd z cy rw tl sp) X)) (putR_id (B := B) (w := 1)).symm).trans (congrArg (fun z => (jn (hC g h0 ct cl rd (putR B 1 (B 1)) z rw tl sp) X)) (va_up_id (f := cy) (k := 1)).symm), rfl⟩
        · refine V.aload_n (q := 38) C dX9_on_37 rfl rfl ?_
          refine V.get (q := 41) C fl_X9_27 dX9_on_38 rfl okC_0 rfl rfl ?_
          refine V.iload (q := 43) C dX9_on_41 rfl rfl ?_
          refine V.callVi (q := 46) C me_X8_hasWearer (c_hasWearer (by omega) hI) ml_X9_78 dX9_on_43 rfl (okC_6 (by omega)) ⟨_, rfl⟩ rfl rfl (Nat.le_of_ble_eq_true rfl) (by omega) (Nat.zero_le _) (Nat.zero_le _) ?_
          refine V.if_neB (q := 49) (tgt := 51) C dX9_on_46 rfl rfl (fun hb46 => ?_) (fun hb46 => ?_)
          · obtain ⟨t, j, ht1, ht4, hj, ex⟩ := on_yes h6 hb29 hb34 hb46
            have e1 : x / nI 10 = nI t := by rw [ex]; exact on_div t ht4 j (by omega)
            have e2 : x - x / nI 10 * nI 10 = nI j := by rw [ex]; exact on_rem t ht4 j (by omega)
            subst ex
            rw [e2, e1]
            refine V.iload_n (q := 52) C dX9_on_51 rfl rfl ?_
            refine V.bipush (q := 54) (v := nI 60) C dX9_on_52 rfl (by decide) ?_
            refine V.callSi (q := 57) C me_X9_isOut c_isOut ml_X9_70 dX9_on_54 rfl rfl rfl (Nat.le_of_ble_eq_true rfl) (by omega) (Nat.zero_le _) (Nat.zero_le _) ?_
            refine V.if_eqB (q := 60) (tgt := 63) C dX9_on_57 rfl rfl (fun hb57 => ?_) (fun hb57 => ?_)
            · replace hb57 := Decidable.not_not.mp hb57
              have hd9 := hb57
              obtain ⟨d, -, hd, rfl⟩ := InR_nat (a := 0) (b := 60) (by omega) (by omega) hb57
              have id9 := ix_k (k := d) (by omega)
              refine V.phE (fun q _ => congrFun (congrArg (fun z => (jn (hC g h0 ct cl rd z cy rw tl sp) X)) (putR_id (B := B) (w := 1)).symm) q) ?_
              refine V.phE (fun q _ => congrFun (congrArg (fun z => (jn (hC g h0 ct cl rd (putR B 1 (B 1)) z rw tl sp) X)) (va_up_id (f := cy) (k := 1)).symm) q) ?_
              refine V.aload_n (q := 64) C dX9_on_63 rfl rfl ?_
              refine V.get (q := 67) C fl_X9_31 dX9_on_64 rfl okC_0 rfl rfl ?_
              refine V.aload_n (q := 68) C dX9_on_67 rfl rfl ?_
              refine V.get (q := 71) C fl_X9_27 dX9_on_68 rfl okC_0 rfl rfl ?_
              refine V.callVxv (q := 74) C me_X8_become (c_begT hS hI hT hcy) ml_X9_178 dX9_on_71 rfl (okC_6 (by omega)) ⟨_, rfl⟩ rfl rfl (Nat.le_of_ble_eq_true rfl) (by omega) (Nat.zero_le _) (Nat.zero_le _) (fun b1 hB1 => ?_)
              refine V.aload_n (q := 75) C dX9_on_74 rfl rfl ?_
              refine V.get (q := 78) C fl_X9_31 dX9_on_75 rfl okC_0 rfl rfl ?_
              refine V.iload_n (q := 79) C dX9_on_78 rfl rfl ?_
              refine V.iconst (q := 80) (v := -1) C dX9_on_79 rfl (by decide) ?_
              refine V.callVxv (q := 83) C me_X8_go (c_go1 hS hB1.1 hB1.2 (Who.all (fun _ => trivial)) hd) ml_X9_174 dX9_on_80 rfl (okC_6 (by omega)) ⟨_, rfl⟩ rfl rfl (Nat.le_of_ble_eq_true rfl) (by omega) (Nat.zero_le _) (Nat.zero_le _) (fun z2 hz2 => ?_)
              refine V.iload (q := 85) C dX9_on_83 rfl rfl ?_
              refine V.if_eq (q := 88) (tgt := 96) C dX9_on_85 rfl rfl (fun hb85 => ?_) (fun hb85 => ?_)
              · refine V.aload_n (q := 97) C dX9_on_96 rfl rfl ?_
                refine V.get (q := 100) C fl_X9_31 dX9_on_97 rfl okC_0 rfl rfl ?_
                refine V.get (q := 103) C fl_X9_82 dX9_on_100 rfl (okC_6 (by omega)) rfl rfl ?_
                refine V.iload (q := 105) C dX9_on_103 rfl rfl ?_
                refine V.rld (q := 106) (i := j) C rfl dX9_on_105 rfl (okC_7 (by omega)) rfl rfl (by omega) (by decide) ?_
                refine V.astore (q := 108) C dX9_on_106 rfl (by decide) rfl rfl ?_
                refine V.iload_n (q := 109) C dX9_on_108 rfl rfl ?_
                refine V.iconst (q := 110) (v := nI 1) C dX9_on_109 rfl (by decide) ?_
                refine V.icmp_ne (q := 113) (tgt := 121) C dX9_on_110 rfl rfl (fun hb110 => ?_) (fun hb110 => ?_)
                · refine V.iload_n (q := 122) C dX9_on_121 rfl rfl ?_
                  refine V.iconst (q := 123) (v := nI 2) C dX9_on_122 rfl (by decide) ?_
                  refine V.icmp_ne (q := 126) (tgt := 134) C dX9_on_123 rfl rfl (fun hb123 => ?_) (fun hb123 => ?_)
                  · have et : t = 3 := by
                      have q1 : ¬ t = 1 := fun z => hb110 (congrArg nI z)
                      have q2 : ¬ t = 2 := fun z => hb123 (congrArg nI z)
                      omega
                    refine V.aload (q := 136) C dX9_on_134 rfl rfl ?_
                    refine V.get (q := 139) C fl_X9_100 dX9_on_136 rfl (okC_9 (by omega) (by omega)) rfl rfl ?_
                    exact V.ireturn C dX9_on_139 ⟨(z2.1, z2.2, q), trivial, by rw [on_v h6 hj ht1 ht4, onV, if_pos hd9, id9, et]; exact congrArg (fun x => some (Value.int x)) (((congrFun putR_w _).trans (hz2.1.1 j hj trivial 4 (by omega)))), rfl, rfl⟩
                  · have et : t = 2 := (nI_eq (by omega) (by omega)).mp hb123
                    refine V.aload (q := 128) C dX9_on_126 rfl rfl ?_
                    refine V.get (q := 131) C fl_X9_97 dX9_on_128 rfl (okC_9 (by omega) (by omega)) rfl rfl ?_
                    refine V.goto (tgt := 139) C dX9_on_131 rfl ?_
                    exact V.ireturn C dX9_on_139 ⟨(z2.1, z2.2, q), trivial, by rw [on_v h6 hj ht1 ht4, onV, if_pos hd9, id9, et]; exact congrArg (fun x => some (Value.int x)) (((congrFun putR_w _).trans (hz2.1.1 j hj trivial 3 (by omega)))), rfl, rfl⟩
                · have et : t = 1 := (nI_eq (by omega) (by omega)).mp hb110
                  refine V.aload (q := 115) C dX9_on_113 rfl rfl ?_
                  refine V.get (q := 118) C fl_X9_94 dX9_on_115 rfl (okC_9 (by omega) (by omega)) rfl rfl ?_
                  refine V.goto (tgt := 139) C dX9_on_118 rfl ?_
                  exact V.ireturn C dX9_on_139 ⟨(z2.1, z2.2, q), trivial, by rw [on_v h6 hj ht1 ht4, onV, if_pos hd9, id9, et]; exact congrArg (fun x => some (Value.int x)) (((congrFun putR_w _).trans (hz2.1.1 j hj trivial 2 (by omega)))), rfl, rfl⟩
              · exact absurd rfl hb85
            · refine V.bipush (q := 62) (v := -2) C dX9_on_60 rfl (by decide) ?_
              exact V.ireturn C dX9_on_62 ⟨(cl, B 1, cy 1), trivial, by rw [on_v h6 hj ht1 ht4, onV, if_neg hb57], (congrArg (fun z => (jn (hC g h0 ct cl rd z cy rw tl sp) X)) (putR_id (B := B) (w := 1)).symm).trans (congrArg (fun z => (jn (hC g h0 ct cl rd (putR B 1 (B 1)) z rw tl sp) X)) (va_up_id (f := cy) (k := 1)).symm), rfl⟩
          · refine V.iconst (q := 50) (v := -1) C dX9_on_49 rfl (by decide) ?_
            exact V.ireturn C dX9_on_50 ⟨(cl, B 1, cy 1), trivial, by rw [on_bad hx0 (on_no h6 (fun z => hb46 z.2.2))], (congrArg (fun z => (jn (hC g h0 ct cl rd z cy rw tl sp) X)) (putR_id (B := B) (w := 1)).symm).trans (congrArg (fun z => (jn (hC g h0 ct cl rd (putR B 1 (B 1)) z rw tl sp) X)) (va_up_id (f := cy) (k := 1)).symm), rfl⟩
  · have hx0 : x = 0 := hb12
    refine V.iconst (q := 16) (v := nI 1) C dX9_on_15 rfl (by decide) ?_
    refine V.goto (tgt := 20) C dX9_on_16 rfl ?_
    refine V.istore (q := 22) C dX9_on_20 rfl (by decide) rfl rfl ?_
    refine V.iload (q := 24) C dX9_on_22 rfl rfl ?_
    refine V.if_ne (q := 27) (tgt := 51) C dX9_on_24 rfl rfl (fun hb24 => ?_) (fun hb24 => ?_)
    · refine V.iload_n (q := 52) C dX9_on_51 rfl rfl ?_
      refine V.bipush (q := 54) (v := nI 60) C dX9_on_52 rfl (by decide) ?_
      refine V.callSi (q := 57) C me_X9_isOut c_isOut ml_X9_70 dX9_on_54 rfl rfl rfl (Nat.le_of_ble_eq_true rfl) (by omega) (Nat.zero_le _) (Nat.zero_le _) ?_
      refine V.if_eqB (q := 60) (tgt := 63) C dX9_on_57 rfl rfl (fun hb57 => ?_) (fun hb57 => ?_)
      · replace hb57 := Decidable.not_not.mp hb57
        have hd9 := hb57
        obtain ⟨d, -, hd, rfl⟩ := InR_nat (a := 0) (b := 60) (by omega) (by omega) hb57
        have id9 := ix_k (k := d) (by omega)
        refine V.phE (fun q _ => congrFun (congrArg (fun z => (jn (hC g h0 ct cl rd z cy rw tl sp) X)) (putR_id (B := B) (w := 1)).symm) q) ?_
        refine V.phE (fun q _ => congrFun (congrArg (fun z => (jn (hC g h0 ct cl rd (putR B 1 (B 1)) z rw tl sp) X)) (va_up_id (f := cy) (k := 1)).symm) q) ?_
        refine V.aload_n (q := 64) C dX9_on_63 rfl rfl ?_
        refine V.get (q := 67) C fl_X9_31 dX9_on_64 rfl okC_0 rfl rfl ?_
        refine V.aload_n (q := 68) C dX9_on_67 rfl rfl ?_
        refine V.get (q := 71) C fl_X9_27 dX9_on_68 rfl okC_0 rfl rfl ?_
        refine V.callVxv (q := 74) C me_X8_become (c_begT hS hI hT hcy) ml_X9_178 dX9_on_71 rfl (okC_6 (by omega)) ⟨_, rfl⟩ rfl rfl (Nat.le_of_ble_eq_true rfl) (by omega) (Nat.zero_le _) (Nat.zero_le _) (fun b1 hB1 => ?_)
        refine V.aload_n (q := 75) C dX9_on_74 rfl rfl ?_
        refine V.get (q := 78) C fl_X9_31 dX9_on_75 rfl okC_0 rfl rfl ?_
        refine V.iload_n (q := 79) C dX9_on_78 rfl rfl ?_
        refine V.iconst (q := 80) (v := -1) C dX9_on_79 rfl (by decide) ?_
        refine V.callVxv (q := 83) C me_X8_go (c_go1 hS hB1.1 hB1.2 (Who.all (fun _ => trivial)) hd) ml_X9_174 dX9_on_80 rfl (okC_6 (by omega)) ⟨_, rfl⟩ rfl rfl (Nat.le_of_ble_eq_true rfl) (by omega) (Nat.zero_le _) (Nat.zero_le _) (fun z2 hz2 => ?_)
        refine V.iload (q := 85) C dX9_on_83 rfl rfl ?_
        refine V.if_eq (q := 88) (tgt := 96) C dX9_on_85 rfl rfl (fun hb85 => ?_) (fun hb85 => ?_)
        · exact absurd hb85 (by decide)
        · refine V.aload_n (q := 89) C dX9_on_88 rfl rfl ?_
          refine V.get (q := 92) C fl_X9_31 dX9_on_89 rfl okC_0 rfl rfl ?_
          refine V.callVi (q := 95) C me_X8_hurtOfAll (c_hurtT (P := TT) (by omega) hz2.1 (fun _ => trivial) hz2.2.1) ml_X9_164 dX9_on_92 rfl (okC_6 (by omega)) ⟨_, rfl⟩ rfl rfl (Nat.le_of_ble_eq_true rfl) (by omega) (Nat.zero_le _) (Nat.zero_le _) ?_
          exact V.ireturn C dX9_on_95 ⟨(z2.1, z2.2, q), trivial, by rw [onR, if_pos hx0, onV, if_pos hd9, id9], rfl, rfl⟩
      · refine V.bipush (q := 62) (v := -2) C dX9_on_60 rfl (by decide) ?_
        exact V.ireturn C dX9_on_62 ⟨(cl, B 1, cy 1), trivial, by rw [onR, if_pos hx0, onV, if_neg hb57], (congrArg (fun z => (jn (hC g h0 ct cl rd z cy rw tl sp) X)) (putR_id (B := B) (w := 1)).symm).trans (congrArg (fun z => (jn (hC g h0 ct cl rd (putR B 1 (B 1)) z rw tl sp) X)) (va_up_id (f := cy) (k := 1)).symm), rfl⟩
    · exact absurd hb24 (by decide)
theorem ls_t {h x : Int32} {r : Int32 × Int32} (q : h < r.1) : lsS h x r = (h, x) := by
  rw [lsS, if_neg (fun z => absurd (Int32.lt_iff_toInt_lt.mp z) (by have := Int32.lt_iff_toInt_lt.mp q; omega)), if_neg (fun z => absurd (Int32.le_iff_toInt_le.mp z) (by have := Int32.lt_iff_toInt_lt.mp q; omega))]
theorem ls_f {h x : Int32} {r : Int32 × Int32} (q : ¬ h < r.1) : lsS h x r = r := by
  have h2 : r.1 ≤ h := Int32.not_lt.mp q
  by_cases q2 : r.1 < h
  · rw [lsS, if_pos q2, if_pos h2]
  · rw [lsS, if_neg q2, if_pos h2]
    have e : h = r.1 := Int32.le_antisymm (Int32.not_lt.mp q2) h2
    rw [e]
theorem SH.lo2 {ct : CTt} {rules sizes A : I1} {n m r q k : Nat} {x : Int32} (h : SH ct rules sizes A n m r q) (hk : k < 54) : SH ct rules sizes (upd A k x) n m r q := h.lo (upd_hi hk)
theorem c_bc_i {l : Launch} {g : GG} {X : PHp} {h0 : HZ} {ct : CTt} {rd : RDt} {B : I2} {cy : Nat → Nat} {rw : RWt} {tl : TLt} {sp : SPt} {rules sizes A : I1} {n m r q : Nat} {Γ : Cxt} {Q : State → Prop} (hS : SH ct rules sizes A n m r q) (hI : CI (B 0) n m) (hT : TR TT (B 0) A n m) (hcy : cy 0 = q) {k a : Nat} {r0 : Int32 × Int32} (hk : k ≤ 60) (ha : a < n) (C : Cx Γ g cX9_bestChange yX9_bestChange 7 (some .int) 6 0 0) (kx : ∀ (cl : I2) (b : I1) (c : Nat) (u : Option Value), V l Γ g 7 Q 0 0 NN (jn (hC g h0 ct cl rd (putR B 1 b) (va_up cy 1 c) rw tl sp) X) 169 [some (rf g (0, 0, 0)), some (.int (nI k)), some (.int (chI rules sizes A n m k a r0 (n - (a + 1))).1), some (.int (chI rules sizes A n m k a r0 (n - (a + 1))).2), some (.int (nI a)), some (.int (nI n)), u] []) : ∀ (f j : Nat) (cl : I2) (b : I1) (c : Nat) (u : Option Value), j + f = n - (a + 1) → V l Γ g 7 Q 0 0 NN (jn (hC g h0 ct cl rd (putR B 1 b) (va_up cy 1 c) rw tl sp) X) 52 [some (rf g (0, 0, 0)), some (.int (nI k)), some (.int (chI rules sizes A n m k a r0 j).1), some (.int (chI rules sizes A n m k a r0 j).2), some (.int (nI a)), some (.int (nI (a + 1 + j))), u] [] := by
  have h6 := hI.2.1
  have h8 := hI.2.2.2
  have e78 : ∀ b, (putR B 1 b) 0 78 = nI n := fun b => (congrFun (putR_o (by omega)) 78).trans hI.1
  intro f
  induction f with
  | zero =>
    intro j cl b c u hj
    obtain rfl : j = n - (a + 1) := by omega
    rw [show a + 1 + (n - (a + 1)) = n by omega]
    refine V.iload (q := 54) C dX9_bestChange_52 rfl rfl ?_
    refine V.aload_n (q := 55) C dX9_bestChange_54 rfl rfl ?_
    refine V.get (q := 58) C fl_X9_27 dX9_bestChange_55 rfl okC_0 rfl rfl ?_
    refine V.get (q := 61) C fl_X9_208 dX9_bestChange_58 rfl (okC_6 (by omega)) rfl rfl ?_
    refine V.topi (x1 := nI (n)) (e78 _) ?_
    refine V.icmp_ge (q := 64) (tgt := 169) C dX9_bestChange_61 rfl rfl (fun hb61 => ?_) (fun hb61 => ?_)
    · exact kx cl b c u
    · exact absurd (Int32.le_refl _) hb61
  | succ f ih =>
    intro j cl b c u hj
    obtain ⟨p, hp⟩ : ∃ p, p = a + 1 + j := ⟨_, rfl⟩
    rw [← hp]
    have hpn : p < n := by omega
    refine V.iload (q := 54) C dX9_bestChange_52 rfl rfl ?_
    refine V.aload_n (q := 55) C dX9_bestChange_54 rfl rfl ?_
    refine V.get (q := 58) C fl_X9_27 dX9_bestChange_55 rfl okC_0 rfl rfl ?_
    refine V.get (q := 61) C fl_X9_208 dX9_bestChange_58 rfl (okC_6 (by omega)) rfl rfl ?_
    refine V.topi (x1 := nI (n)) (e78 _) ?_
    refine V.icmp_ge (q := 64) (tgt := 169) C dX9_bestChange_61 rfl rfl (fun hb61 => ?_) (fun hb61 => ?_)
    · exact absurd ((nI_leI (by omega) (by omega)).mp hb61) (by omega)
    · refine V.aload_n (q := 65) C dX9_bestChange_64 rfl rfl ?_
      refine V.get (q := 68) C fl_X9_31 dX9_bestChange_65 rfl okC_0 rfl rfl ?_
      refine V.aload_n (q := 69) C dX9_bestChange_68 rfl rfl ?_
      refine V.get (q := 72) C fl_X9_27 dX9_bestChange_69 rfl okC_0 rfl rfl ?_
      refine V.callVxv (q := 75) C me_X8_become (c_begT hS hI hT hcy) ml_X9_178 dX9_bestChange_72 rfl (okC_6 (by omega)) ⟨_, rfl⟩ rfl rfl (Nat.le_of_ble_eq_true rfl) (by omega) (Nat.zero_le _) (Nat.zero_le _) (fun b1 hB1 => ?_)
      refine V.aload_n (q := 76) C dX9_bestChange_75 rfl rfl ?_
      refine V.get (q := 79) C fl_X9_31 dX9_bestChange_76 rfl okC_0 rfl rfl ?_
      refine V.get (q := 82) C fl_X9_82 dX9_bestChange_79 rfl (okC_6 (by omega)) rfl rfl ?_
      refine V.iload (q := 84) C dX9_bestChange_82 rfl rfl ?_
      refine V.rld (q := 85) (i := a) C rfl dX9_bestChange_84 rfl (okC_7 (by omega)) rfl rfl (by omega) (by decide) ?_
      refine V.aload_n (q := 86) C dX9_bestChange_85 rfl rfl ?_
      refine V.get (q := 89) C fl_X9_27 dX9_bestChange_86 rfl okC_0 rfl rfl ?_
      refine V.get (q := 92) C fl_X9_82 dX9_bestChange_89 rfl (okC_6 (by omega)) rfl rfl ?_
      refine V.iload (q := 94) C dX9_bestChange_92 rfl rfl ?_
      refine V.rld (q := 95) (i := p) C rfl dX9_bestChange_94 rfl (okC_7 (by omega)) rfl rfl (by omega) (by decide) ?_
      refine V.get (q := 98) C fl_X9_94 dX9_bestChange_95 rfl (okC_9 (by omega) (by omega)) rfl rfl ?_
      refine V.topi (x1 := A (9 * p + 2)) ((congrFun (putR_o (by omega)) _).trans (hT.1 p hpn trivial 2 (by omega))) ?_
      refine V.put (q := 101) C fl_X9_94 rfl dX9_bestChange_98 rfl (okC_9 (by omega) (by omega)) rfl (Nat.le_of_ble_eq_true rfl) rfl rfl rfl ?_
      refine V.phE (uC_9_4 (by omega)) ?_
      rw [set1]
      refine V.aload_n (q := 102) C dX9_bestChange_101 rfl rfl ?_
      refine V.get (q := 105) C fl_X9_31 dX9_bestChange_102 rfl okC_0 rfl rfl ?_
      refine V.get (q := 108) C fl_X9_82 dX9_bestChange_105 rfl (okC_6 (by omega)) rfl rfl ?_
      refine V.iload (q := 110) C dX9_bestChange_108 rfl rfl ?_
      refine V.rld (q := 111) (i := p) C rfl dX9_bestChange_110 rfl (okC_7 (by omega)) rfl rfl (by omega) (by decide) ?_
      refine V.aload_n (q := 112) C dX9_bestChange_111 rfl rfl ?_
      refine V.get (q := 115) C fl_X9_27 dX9_bestChange_112 rfl okC_0 rfl rfl ?_
      refine V.get (q := 118) C fl_X9_82 dX9_bestChange_115 rfl (okC_6 (by omega)) rfl rfl ?_
      refine V.iload (q := 120) C dX9_bestChange_118 rfl rfl ?_
      refine V.rld (q := 121) (i := a) C rfl dX9_bestChange_120 rfl (okC_7 (by omega)) rfl rfl (by omega) (by decide) ?_
      refine V.get (q := 124) C fl_X9_94 dX9_bestChange_121 rfl (okC_9 (by omega) (by omega)) rfl rfl ?_
      refine V.topi (x1 := A (9 * a + 2)) ((congrFun (putR_o (by omega)) _).trans (hT.1 a ha trivial 2 (by omega))) ?_
      refine V.put (q := 127) C fl_X9_94 rfl dX9_bestChange_124 rfl (okC_9 (by omega) (by omega)) rfl (Nat.le_of_ble_eq_true rfl) rfl rfl rfl ?_
      refine V.phE (uC_9_4 (by omega)) ?_
      rw [set1]
      have hT2 : TR TT (upd (upd b1 (9 * a + 2) (A (9 * p + 2))) (9 * p + 2) (A (9 * a + 2))) (swA A a p) n m := (hB1.1.up1 (by omega) h8).up1 (by omega) h8
      have hI2 : CI (upd (upd b1 (9 * a + 2) (A (9 * p + 2))) (9 * p + 2) (A (9 * a + 2))) n m := (hB1.2.up1 (by omega)).up1 (by omega)
      refine V.aload_n (q := 128) C dX9_bestChange_127 rfl rfl ?_
      refine V.get (q := 131) C fl_X9_31 dX9_bestChange_128 rfl okC_0 rfl rfl ?_
      refine V.iload_n (q := 132) C dX9_bestChange_131 rfl rfl ?_
      refine V.iconst (q := 133) (v := -1) C dX9_bestChange_132 rfl (by decide) ?_
      refine V.callVxv (q := 136) C me_X8_go (c_go1 (hS.lo2 (k := 9 * a + 2) (by omega) |>.lo2 (k := 9 * p + 2) (by omega)) hT2 hI2 (Who.all (fun _ => trivial)) hk) ml_X9_174 dX9_bestChange_133 rfl (okC_6 (by omega)) ⟨_, rfl⟩ rfl rfl (Nat.le_of_ble_eq_true rfl) (by omega) (Nat.zero_le _) (Nat.zero_le _) (fun z2 hz2 => ?_)
      refine V.aload_n (q := 137) C dX9_bestChange_136 rfl rfl ?_
      refine V.get (q := 140) C fl_X9_31 dX9_bestChange_137 rfl okC_0 rfl rfl ?_
      refine V.callVi (q := 143) C me_X8_hurtOfAll (c_hurtT (P := TT) (by omega) hz2.1 (fun _ => trivial) hz2.2.1) ml_X9_164 dX9_bestChange_140 rfl (okC_6 (by omega)) ⟨_, rfl⟩ rfl rfl (Nat.le_of_ble_eq_true rfl) (by omega) (Nat.zero_le _) (Nat.zero_le _) ?_
      refine V.istore (q := 145) C dX9_bestChange_143 rfl (by decide) rfl rfl ?_
      refine V.iload (q := 147) C dX9_bestChange_145 rfl rfl ?_
      refine V.iload_n (q := 148) C dX9_bestChange_147 rfl rfl ?_
      refine V.icmp_ge (q := 151) (tgt := 163) C dX9_bestChange_148 rfl rfl (fun hb148 => ?_) (fun hb148 => ?_)
      · replace hb148 := Int32.not_lt.mpr hb148
        refine V.iinc (q := 166) (v := nI (p + 1)) C dX9_bestChange_163 rfl rfl (nI_1 _) (by decide) rfl rfl ?_
        refine V.goto (tgt := 52) C dX9_bestChange_166 rfl ?_
        have e9 := (show chI rules sizes A n m k a r0 (j + 1) = lsS (alR (dsA rules sizes m k (swA A a p)) 4 n) (nI (10 * a + p)) (chI rules sizes A n m k a r0 j) from by rw [hp] <;> rfl).trans (ls_f hb148)
        have h9 := fun cl b c u => ih (j + 1) cl b c u (by omega)
        rw [e9, show a + 1 + (j + 1) = p + 1 by omega] at h9
        exact h9 _ _ _ _
      · replace hb148 := Int32.not_le.mp hb148
        refine V.iload (q := 153) C dX9_bestChange_151 rfl rfl ?_
        refine V.istore_n (q := 154) C dX9_bestChange_153 rfl (by decide) rfl rfl ?_
        refine V.bipush (q := 156) (v := nI 10) C dX9_bestChange_154 rfl (by decide) ?_
        refine V.iload (q := 158) C dX9_bestChange_156 rfl rfl ?_
        refine V.imul (q := 159) C dX9_bestChange_158 rfl ?_
        refine V.topi (x1 := nI (10 * a)) (pk_mul _ _) ?_
        refine V.iload (q := 161) C dX9_bestChange_159 rfl rfl ?_
        refine V.iadd (q := 162) C dX9_bestChange_161 rfl ?_
        refine V.topi (x1 := nI ((10 * a) + p)) (nI_add _ _) ?_
        refine V.istore_n (q := 163) C dX9_bestChange_162 rfl (by decide) rfl rfl ?_
        refine V.iinc (q := 166) (v := nI (p + 1)) C dX9_bestChange_163 rfl rfl (nI_1 _) (by decide) rfl rfl ?_
        refine V.goto (tgt := 52) C dX9_bestChange_166 rfl ?_
        have e9 := (show chI rules sizes A n m k a r0 (j + 1) = lsS (alR (dsA rules sizes m k (swA A a p)) 4 n) (nI (10 * a + p)) (chI rules sizes A n m k a r0 j) from by rw [hp] <;> rfl).trans (ls_t hb148)
        have h9 := fun cl b c u => ih (j + 1) cl b c u (by omega)
        rw [e9, show a + 1 + (j + 1) = p + 1 by omega] at h9
        exact h9 _ _ _ _
theorem c_bc_o {l : Launch} {g : GG} {X : PHp} {h0 : HZ} {ct : CTt} {rd : RDt} {B : I2} {cy : Nat → Nat} {rw : RWt} {tl : TLt} {sp : SPt} {rules sizes A : I1} {n m r q : Nat} {Γ : Cxt} (hS : SH ct rules sizes A n m r q) (hI : CI (B 0) n m) (hT : TR TT (B 0) A n m) (hcy : cy 0 = q) {k : Nat} (hk : k ≤ 60) (C : Cx Γ g cX9_bestChange yX9_bestChange 7 (some .int) 6 0 0) : ∀ (f a : Nat) (cl : I2) (b : I1) (c : Nat) (u v : Option Value), a + f = n → V l Γ g 7 (QM Γ g (xI (fun _ : I2 × I1 × Nat => True) (fun _ => (chO rules sizes A n m k n).2) (fun z => (jn (hC g h0 ct z.1 rd (putR B 1 z.2.1) (va_up cy 1 z.2.2) rw tl sp) X))) 0 0) 0 0 NN (jn (hC g h0 ct cl rd (putR B 1 b) (va_up cy 1 c) rw tl sp) X) 34 [some (rf g (0, 0, 0)), some (.int (nI k)), some (.int (chO rules sizes A n m k a).1), some (.int (chO rules sizes A n m k a).2), some (.int (nI a)), u, v] [] := by
  have h6 := hI.2.1
  have e78 : ∀ b, (putR B 1 b) 0 78 = nI n := fun b => (congrFun (putR_o (by omega)) 78).trans hI.1
  intro f
  induction f with
  | zero =>
    intro a cl b c u v ha
    obtain rfl : a = n := by omega
    refine V.iload (q := 36) C dX9_bestChange_34 rfl rfl ?_
    refine V.aload_n (q := 37) C dX9_bestChange_36 rfl rfl ?_
    refine V.get (q := 40) C fl_X9_27 dX9_bestChange_37 rfl okC_0 rfl rfl ?_
    refine V.get (q := 43) C fl_X9_208 dX9_bestChange_40 rfl (okC_6 (by omega)) rfl rfl ?_
    refine V.topi (x1 := nI (a)) (e78 _) ?_
    refine V.icmp_ge (q := 46) (tgt := 175) C dX9_bestChange_43 rfl rfl (fun hb43 => ?_) (fun hb43 => ?_)
    · refine V.iload_n (q := 176) C dX9_bestChange_175 rfl rfl ?_
      exact V.ireturn C dX9_bestChange_176 ⟨(cl, b, c), trivial, rfl, rfl, rfl⟩
    · exact absurd (Int32.le_refl _) hb43
  | succ f ih =>
    intro a cl b c u v ha
    refine V.iload (q := 36) C dX9_bestChange_34 rfl rfl ?_
    refine V.aload_n (q := 37) C dX9_bestChange_36 rfl rfl ?_
    refine V.get (q := 40) C fl_X9_27 dX9_bestChange_37 rfl okC_0 rfl rfl ?_
    refine V.get (q := 43) C fl_X9_208 dX9_bestChange_40 rfl (okC_6 (by omega)) rfl rfl ?_
    refine V.topi (x1 := nI (n)) (e78 _) ?_
    refine V.icmp_ge (q := 46) (tgt := 175) C dX9_bestChange_43 rfl rfl (fun hb43 => ?_) (fun hb43 => ?_)
    · exact absurd ((nI_leI (by omega) (by omega)).mp hb43) (by omega)
    · refine V.iload (q := 48) C dX9_bestChange_46 rfl rfl ?_
      refine V.iconst (q := 49) (v := nI 1) C dX9_bestChange_48 rfl (by decide) ?_
      refine V.iadd (q := 50) C dX9_bestChange_49 rfl ?_
      refine V.topi (x1 := nI (a + 1)) (nI_add _ _) ?_
      refine V.istore (q := 52) C dX9_bestChange_50 rfl (by decide) rfl rfl ?_
      refine c_bc_i (r0 := (chO rules sizes A n m k a)) hS hI hT hcy hk (by omega) C (fun cl1 b1 c1 u1 => ?_) (n - (a + 1)) 0 cl b c _ (by omega)
      refine V.iinc (q := 172) (v := nI (a + 1)) C dX9_bestChange_169 rfl rfl (nI_1 _) (by decide) rfl rfl ?_
      refine V.goto (tgt := 34) C dX9_bestChange_172 rfl ?_
      exact ih (a + 1) _ _ _ _ _ (by omega)
theorem c_bestChange {l : Launch} {g : GG} {X : PHp} {h0 : HZ} {ct : CTt} {cl : I2} {rd : RDt} {B : I2} {cy : Nat → Nat} {rw : RWt} {tl : TLt} {sp : SPt} {rules sizes A : I1} {n m r q : Nat} (hS : SH ct rules sizes A n m r q) (hI : CI (B 0) n m) (hT : TR TT (B 0) A n m) (hcy : cy 0 = q) {k : Nat} (hk : k ≤ 60) {b : I1} {c : Nat} : Ct l g yX9_bestChange cX9_bestChange 7 (some .int) 6 0 0 [rf g (0, 0, 0), .int (nI k)] NN (jn (hC g h0 ct cl rd (putR B 1 b) (va_up cy 1 c) rw tl sp) X) (xI (fun _ : I2 × I1 × Nat => True) (fun _ => (chO rules sizes A n m k n).2) (fun z => (jn (hC g h0 ct z.1 rd (putR B 1 z.2.1) (va_up cy 1 z.2.2) rw tl sp) X))) := by
  refine Ct.of (lv := [some (rf g (0, 0, 0)), some (.int (nI k)), none, none, none, none, none]) (by decide +kernel) rfl (Nat.le_of_ble_eq_true rfl) ?_
  intro Γ C
  have h6 := hI.2.1
  have h8 := hI.2.2.2
  refine V.aload_n (q := 1) C dX9_bestChange_0 rfl rfl ?_
  refine V.get (q := 4) C fl_X9_31 dX9_bestChange_1 rfl okC_0 rfl rfl ?_
  refine V.aload_n (q := 5) C dX9_bestChange_4 rfl rfl ?_
  refine V.get (q := 8) C fl_X9_27 dX9_bestChange_5 rfl okC_0 rfl rfl ?_
  refine V.callVxv (q := 11) C me_X8_become (c_begT hS hI hT hcy) ml_X9_178 dX9_bestChange_8 rfl (okC_6 (by omega)) ⟨_, rfl⟩ rfl rfl (Nat.le_of_ble_eq_true rfl) (by omega) (Nat.zero_le _) (Nat.zero_le _) (fun b1 hB1 => ?_)
  refine V.aload_n (q := 12) C dX9_bestChange_11 rfl rfl ?_
  refine V.get (q := 15) C fl_X9_31 dX9_bestChange_12 rfl okC_0 rfl rfl ?_
  refine V.iload_n (q := 16) C dX9_bestChange_15 rfl rfl ?_
  refine V.iconst (q := 17) (v := -1) C dX9_bestChange_16 rfl (by decide) ?_
  refine V.callVxv (q := 20) C me_X8_go (c_go1 hS hB1.1 hB1.2 (Who.all (fun _ => trivial)) hk) ml_X9_174 dX9_bestChange_17 rfl (okC_6 (by omega)) ⟨_, rfl⟩ rfl rfl (Nat.le_of_ble_eq_true rfl) (by omega) (Nat.zero_le _) (Nat.zero_le _) (fun z2 hz2 => ?_)
  refine V.aload_n (q := 21) C dX9_bestChange_20 rfl rfl ?_
  refine V.get (q := 24) C fl_X9_31 dX9_bestChange_21 rfl okC_0 rfl rfl ?_
  refine V.callVi (q := 27) C me_X8_hurtOfAll (c_hurtT (P := TT) (by omega) hz2.1 (fun _ => trivial) hz2.2.1) ml_X9_164 dX9_bestChange_24 rfl (okC_6 (by omega)) ⟨_, rfl⟩ rfl rfl (Nat.le_of_ble_eq_true rfl) (by omega) (Nat.zero_le _) (Nat.zero_le _) ?_
  refine V.istore_n (q := 28) C dX9_bestChange_27 rfl (by decide) rfl rfl ?_
  refine V.bipush (q := 30) (v := -5) C dX9_bestChange_28 rfl (by decide) ?_
  refine V.istore_n (q := 31) C dX9_bestChange_30 rfl (by decide) rfl rfl ?_
  refine V.iconst (q := 32) (v := nI 0) C dX9_bestChange_31 rfl (by decide) ?_
  refine V.istore (q := 34) C dX9_bestChange_32 rfl (by decide) rfl rfl ?_
  exact c_bc_o hS hI hT hcy hk C n 0 _ _ _ _ _ (by omega)
theorem c_so_l {l : Launch} {g : GG} {X : PHp} {h0 : HZ} {ct : CTt} {rd : RDt} {B : I2} {cy : Nat → Nat} {rw : RWt} {tl : TLt} {sp : SPt} {rules sizes A : I1} {n m r q : Nat} {Γ : Cxt} (hS : SH ct rules sizes A n m r q) (hI : CI (B 0) n m) (hT : TR TT (B 0) A n m) (hcy : cy 0 = q) {p : Nat} (hp : p < n) (C : Cx Γ g cX9_daysUntilSore yX9_daysUntilSore 3 (some .int) 6 0 0) : ∀ (f d : Nat) (cl : I2) (b D : I1), d + f = 61 → SH ct rules sizes D n m r q → TR (fun i => i = p) b D n m → CI b n m → V l Γ g 3 (QM Γ g (xI (fun _ : I2 × I1 × Nat => True) (fun _ => (soF rules sizes m p (A (9 * p + 4)) f d (dyA rules sizes m D))) (fun z => (jn (hC g h0 ct z.1 rd (putR B 1 z.2.1) (va_up cy 1 z.2.2) rw tl sp) X))) 0 0) 0 0 NN (jn (hC g h0 ct cl rd (putR B 1 b) (va_up cy 1 q) rw tl sp) X) 13 [some (rf g (0, 0, 0)), some (.int (nI p)), some (.int (nI d))] [] := by
  have h6 := hI.2.1
  intro f
  induction f with
  | zero =>
    intro d cl b D hd hSD hTD hID
    obtain rfl : d = 61 := by omega
    refine V.iload_n (q := 14) C dX9_daysUntilSore_13 rfl rfl ?_
    refine V.bipush (q := 16) (v := nI 60) C dX9_daysUntilSore_14 rfl (by decide) ?_
    refine V.icmp_gt (q := 19) (tgt := 44) C dX9_daysUntilSore_16 rfl rfl (fun hb16 => ?_) (fun hb16 => ?_)
    · refine V.bipush (q := 46) (v := -5) C dX9_daysUntilSore_44 rfl (by decide) ?_
      exact V.ireturn C dX9_daysUntilSore_46 ⟨(cl, b, q), trivial, rfl, rfl, rfl⟩
    · exact absurd (by decide) hb16
  | succ f ih =>
    intro d cl b D hd hSD hTD hID
    refine V.iload_n (q := 14) C dX9_daysUntilSore_13 rfl rfl ?_
    refine V.bipush (q := 16) (v := nI 60) C dX9_daysUntilSore_14 rfl (by decide) ?_
    refine V.icmp_gt (q := 19) (tgt := 44) C dX9_daysUntilSore_16 rfl rfl (fun hb16 => ?_) (fun hb16 => ?_)
    · exact absurd ((nI_ltI (by omega) (by omega)).mp hb16) (by omega)
    · refine V.aload_n (q := 20) C dX9_daysUntilSore_19 rfl rfl ?_
      refine V.get (q := 23) C fl_X9_31 dX9_daysUntilSore_20 rfl okC_0 rfl rfl ?_
      refine V.iconst (q := 24) (v := nI 1) C dX9_daysUntilSore_23 rfl (by decide) ?_
      refine V.iload_n (q := 25) C dX9_daysUntilSore_24 rfl rfl ?_
      refine V.callVxv (q := 28) C me_X8_go (c_go1 hSD hTD hID (Who.one (by omega)) (by omega)) ml_X9_174 dX9_daysUntilSore_25 rfl (okC_6 (by omega)) ⟨_, rfl⟩ rfl rfl (Nat.le_of_ble_eq_true rfl) (by omega) (Nat.zero_le _) (Nat.zero_le _) (fun z2 hz2 => ?_)
      refine V.aload_n (q := 29) C dX9_daysUntilSore_28 rfl rfl ?_
      refine V.iload_n (q := 30) C dX9_daysUntilSore_29 rfl rfl ?_
      refine V.callVi (q := 33) C me_X9_isMoreHurt (c_more hz2.1 hT hp h6 rfl) ml_X9_211 dX9_daysUntilSore_30 rfl okC_0 ⟨_, rfl⟩ rfl rfl (Nat.le_of_ble_eq_true rfl) (by omega) (Nat.zero_le _) (Nat.zero_le _) ?_
      refine V.if_eqB (q := 36) (tgt := 38) C dX9_daysUntilSore_33 rfl rfl (fun hb33 => ?_) (fun hb33 => ?_)
      · replace hb33 := Decidable.not_not.mp hb33
        refine V.iinc (q := 41) (v := nI (d + 1)) C dX9_daysUntilSore_38 rfl rfl (nI_1 _) (by decide) rfl rfl ?_
        refine V.goto (tgt := 13) C dX9_daysUntilSore_41 rfl ?_
        rw [show soF rules sizes m p (A (9 * p + 4)) (f + 1) d (dyA rules sizes m D) = soF rules sizes m p (A (9 * p + 4)) f (d + 1) (dyA rules sizes m (dyA rules sizes m D)) from if_pos hb33]
        exact ih (d + 1) z2.1 z2.2 (dyA rules sizes m D) (by omega) (SH.ds (k := 1) hSD) hz2.1 hz2.2.1
      · replace hb33 : ¬ dyA rules sizes m D (9 * p + 4) ≤ A (9 * p + 4) := hb33
        refine V.iload_n (q := 37) C dX9_daysUntilSore_36 rfl rfl ?_
        exact V.ireturn C dX9_daysUntilSore_37 ⟨(z2.1, z2.2, q), trivial, by rw [soF, if_neg hb33], rfl, rfl⟩
theorem c_sore {l : Launch} {g : GG} {X : PHp} {h0 : HZ} {ct : CTt} {cl : I2} {rd : RDt} {B : I2} {cy : Nat → Nat} {rw : RWt} {tl : TLt} {sp : SPt} {rules sizes A : I1} {n m r q : Nat} (hS : SH ct rules sizes A n m r q) (hI : CI (B 0) n m) (hT : TR TT (B 0) A n m) (hcy : cy 0 = q) {p : Nat} (hp : p < n) {b : I1} {c : Nat} : Ct l g yX9_daysUntilSore cX9_daysUntilSore 3 (some .int) 6 0 0 [rf g (0, 0, 0), .int (nI p)] NN (jn (hC g h0 ct cl rd (putR B 1 b) (va_up cy 1 c) rw tl sp) X) (xI (fun _ : I2 × I1 × Nat => True) (fun _ => (soF rules sizes m p (A (9 * p + 4)) 61 0 A)) (fun z => (jn (hC g h0 ct z.1 rd (putR B 1 z.2.1) (va_up cy 1 z.2.2) rw tl sp) X))) := by
  refine Ct.of (lv := [some (rf g (0, 0, 0)), some (.int (nI p)), none]) (by decide +kernel) rfl (Nat.le_of_ble_eq_true rfl) ?_
  intro Γ C
  have h6 := hI.2.1
  have h8 := hI.2.2.2
  refine V.aload_n (q := 1) C dX9_daysUntilSore_0 rfl rfl ?_
  refine V.get (q := 4) C fl_X9_31 dX9_daysUntilSore_1 rfl okC_0 rfl rfl ?_
  refine V.aload_n (q := 5) C dX9_daysUntilSore_4 rfl rfl ?_
  refine V.get (q := 8) C fl_X9_27 dX9_daysUntilSore_5 rfl okC_0 rfl rfl ?_
  refine V.callVxv (q := 11) C me_X8_become (c_begT hS hI hT hcy) ml_X9_178 dX9_daysUntilSore_8 rfl (okC_6 (by omega)) ⟨_, rfl⟩ rfl rfl (Nat.le_of_ble_eq_true rfl) (by omega) (Nat.zero_le _) (Nat.zero_le _) (fun b1 hB1 => ?_)
  refine V.iconst (q := 12) (v := nI 1) C dX9_daysUntilSore_11 rfl (by decide) ?_
  refine V.istore_n (q := 13) C dX9_daysUntilSore_12 rfl (by decide) rfl rfl ?_
  rw [show soF rules sizes m p (A (9 * p + 4)) 61 0 A = soF rules sizes m p (A (9 * p + 4)) 60 1 (dyA rules sizes m A) from if_pos (Int32.le_refl _)]
  exact c_so_l hS hI hT hcy hp C 60 1 _ _ A (by omega) hS (hB1.1.mono (fun _ _ => trivial)) hB1.2
