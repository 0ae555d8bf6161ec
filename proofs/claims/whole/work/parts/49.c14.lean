theorem c_mhb_l {l : Launch} {g : GG} {X : PHp} {h0 : HZ} {ct : CTt} {cl : I2} {rd : RDt} {B : I2} {cy : Nat → Nat} {rw : RWt} {tl : TLt} {sp : SPt} {A : I1} {n m : Nat} {Γ : Cxt} {Q : State → Prop} {b D : I1} {c : Nat} (hb : TR TT b D n m) (hI : CI (B 0) n m) (hT : TR TT (B 0) A n m) (C : Cx Γ g cX9_moreHurtBits yX9_moreHurtBits 3 (some .int) 2 0 0) (kx : V l Γ g 3 Q 0 0 NN (jn (hC g h0 ct cl rd (putR B 1 b) (va_up cy 1 c) rw tl sp) X) 35 [some (rf g (0, 0, 0)), some (.int (mbF (fun i => decide (¬ D (9 * i + 4) ≤ A (9 * i + 4))) n)), some (.int (nI n))] []) : ∀ f j : Nat, j + f = n → V l Γ g 3 Q 0 0 NN (jn (hC g h0 ct cl rd (putR B 1 b) (va_up cy 1 c) rw tl sp) X) 4 [some (rf g (0, 0, 0)), some (.int (mbF (fun i => decide (¬ D (9 * i + 4) ≤ A (9 * i + 4))) j)), some (.int (nI j))] [] := by
  have h6 := hI.2.1
  have e78 : (putR B 1 b) 0 78 = nI n := (congrFun (putR_o (by omega)) 78).trans hI.1
  intro f
  induction f with
  | zero =>
    intro j hj
    obtain rfl : j = n := by omega
    refine V.iload_n (q := 5) C dX9_moreHurtBits_4 rfl rfl ?_
    refine V.aload_n (q := 6) C dX9_moreHurtBits_5 rfl rfl ?_
    refine V.get (q := 9) C fl_X9_27 dX9_moreHurtBits_6 rfl okC_0 rfl rfl ?_
    refine V.get (q := 12) C fl_X9_208 dX9_moreHurtBits_9 rfl (okC_6 (by omega)) rfl rfl ?_
    refine V.topi (x1 := nI (j)) e78 ?_
    refine V.icmp_ge (q := 15) (tgt := 35) C dX9_moreHurtBits_12 rfl rfl (fun hb12 => ?_) (fun hb12 => ?_)
    · exact kx
    · exact absurd (Int32.le_refl _) hb12
  | succ f ih =>
    intro j hj
    refine V.iload_n (q := 5) C dX9_moreHurtBits_4 rfl rfl ?_
    refine V.aload_n (q := 6) C dX9_moreHurtBits_5 rfl rfl ?_
    refine V.get (q := 9) C fl_X9_27 dX9_moreHurtBits_6 rfl okC_0 rfl rfl ?_
    refine V.get (q := 12) C fl_X9_208 dX9_moreHurtBits_9 rfl (okC_6 (by omega)) rfl rfl ?_
    refine V.topi (x1 := nI (n)) e78 ?_
    refine V.icmp_ge (q := 15) (tgt := 35) C dX9_moreHurtBits_12 rfl rfl (fun hb12 => ?_) (fun hb12 => ?_)
    · exact absurd ((nI_leI (by omega) (by omega)).mp hb12) (by omega)
    · refine V.aload_n (q := 16) C dX9_moreHurtBits_15 rfl rfl ?_
      refine V.iload_n (q := 17) C dX9_moreHurtBits_16 rfl rfl ?_
      refine V.callVi (q := 20) C me_X9_isMoreHurt (c_more hb hT (p := j) (by omega) h6 trivial) ml_X9_211 dX9_moreHurtBits_17 rfl okC_0 ⟨_, rfl⟩ rfl rfl (Nat.le_of_ble_eq_true rfl) (by omega) (Nat.zero_le _) (Nat.zero_le _) ?_
      refine V.if_eqB (q := 23) (tgt := 29) C dX9_moreHurtBits_20 rfl rfl (fun hb20 => ?_) (fun hb20 => ?_)
      · refine V.iinc (q := 32) (v := nI (j + 1)) C dX9_moreHurtBits_29 rfl rfl (nI_1 _) (by decide) rfl rfl ?_
        refine V.goto (tgt := 4) C dX9_moreHurtBits_32 rfl ?_
        have h9 := ih (j + 1) (by omega)
        rw [show mbF (fun i => decide (¬ D (9 * i + 4) ≤ A (9 * i + 4))) (j + 1) = _ from if_neg (fun z => hb20 (of_decide_eq_true z))] at h9
        exact h9
      · refine V.iload_n (q := 24) C dX9_moreHurtBits_23 rfl rfl ?_
        refine V.iconst (q := 25) (v := nI 1) C dX9_moreHurtBits_24 rfl (by decide) ?_
        refine V.iload_n (q := 26) C dX9_moreHurtBits_25 rfl rfl ?_
        refine V.ishl (q := 27) C dX9_moreHurtBits_26 rfl ?_
        refine V.ior (q := 28) C dX9_moreHurtBits_27 rfl ?_
        refine V.istore_n (q := 29) C dX9_moreHurtBits_28 rfl (by decide) rfl rfl ?_
        refine V.iinc (q := 32) (v := nI (j + 1)) C dX9_moreHurtBits_29 rfl rfl (nI_1 _) (by decide) rfl rfl ?_
        refine V.goto (tgt := 4) C dX9_moreHurtBits_32 rfl ?_
        have h9 := ih (j + 1) (by omega)
        rw [show mbF (fun i => decide (¬ D (9 * i + 4) ≤ A (9 * i + 4))) (j + 1) = _ from if_pos (decide_eq_true hb20)] at h9
        exact h9
theorem c_mhb {l : Launch} {g : GG} {X : PHp} {h0 : HZ} {ct : CTt} {cl : I2} {rd : RDt} {B : I2} {cy : Nat → Nat} {rw : RWt} {tl : TLt} {sp : SPt} {A : I1} {n m : Nat} {b D : I1} {c : Nat} (hb : TR TT b D n m) (hI : CI (B 0) n m) (hT : TR TT (B 0) A n m) : Ct l g yX9_moreHurtBits cX9_moreHurtBits 3 (some .int) 2 0 0 [rf g (0, 0, 0)] NN (jn (hC g h0 ct cl rd (putR B 1 b) (va_up cy 1 c) rw tl sp) X) (pI (nI (nbF (fun i => decide (¬ D (9 * i + 4) ≤ A (9 * i + 4))) n)) (jn (hC g h0 ct cl rd (putR B 1 b) (va_up cy 1 c) rw tl sp) X)) := by
  refine Ct.of (lv := [some (rf g (0, 0, 0)), none, none]) (by decide +kernel) rfl (Nat.le_of_ble_eq_true rfl) ?_
  intro Γ C
  have h6 := hI.2.1
  have h8 := hI.2.2.2
  refine V.iconst (q := 1) (v := nI 0) C dX9_moreHurtBits_0 rfl (by decide) ?_
  refine V.istore_n (q := 2) C dX9_moreHurtBits_1 rfl (by decide) rfl rfl ?_
  refine V.iconst (q := 3) (v := nI 0) C dX9_moreHurtBits_2 rfl (by decide) ?_
  refine V.istore_n (q := 4) C dX9_moreHurtBits_3 rfl (by decide) rfl rfl ?_
  refine c_mhb_l hb hI hT C ?_ n 0 (by omega)
  refine V.iload_n (q := 36) C dX9_moreHurtBits_35 rfl rfl ?_
  exact V.ireturn C dX9_moreHurtBits_36 ⟨by rw [mb_nb n h6], rfl, rfl⟩
theorem c_few_l {l : Launch} {g : GG} {X : PHp} {h0 : HZ} {ct : CTt} {cl : I2} {rd : RDt} {B : I2} {cy : Nat → Nat} {rw : RWt} {tl : TLt} {sp : SPt} {rules sizes A : I1} {n m r q : Nat} {Γ : Cxt} {Q : State → Prop} (hS : SH ct rules sizes A n m r q) (hI : CI (B 0) n m) (hT : TR TT (B 0) A n m) (hcy : cy 0 = q) {k : Nat} {x : Int32} (C : Cx Γ g cX9_fewestToMend yX9_fewestToMend 4 (some .int) 6 0 0) (kx : ∀ b : I1, TR TT b (c9A A n) n m → CI b n m → V l Γ g 4 Q 0 0 NN (jn (hC g h0 ct cl rd (putR B 1 b) (va_up cy 1 q) rw tl sp) X) 69 [some (rf g (0, 0, 0)), some (.int (nI k)), some (.int x), some (.int (nI n))] []) : ∀ (f j : Nat) (b : I1), j + f = n → TR TT b (c9A A j) n m → CI b n m → V l Γ g 4 Q 0 0 NN (jn (hC g h0 ct cl rd (putR B 1 b) (va_up cy 1 q) rw tl sp) X) 38 [some (rf g (0, 0, 0)), some (.int (nI k)), some (.int x), some (.int (nI j))] [] := by
  have h6 := hI.2.1
  have h8 := hI.2.2.2
  intro f
  induction f with
  | zero =>
    intro j b hj hb hbI
    obtain rfl : j = n := by omega
    refine V.iload_n (q := 39) C dX9_fewestToMend_38 rfl rfl ?_
    refine V.aload_n (q := 40) C dX9_fewestToMend_39 rfl rfl ?_
    refine V.get (q := 43) C fl_X9_31 dX9_fewestToMend_40 rfl okC_0 rfl rfl ?_
    refine V.get (q := 46) C fl_X9_208 dX9_fewestToMend_43 rfl (okC_6 (by omega)) rfl rfl ?_
    refine V.topi (x1 := nI (j)) ((congrFun putR_w 78).trans hbI.1) ?_
    refine V.icmp_ge (q := 49) (tgt := 69) C dX9_fewestToMend_46 rfl rfl (fun hb46 => ?_) (fun hb46 => ?_)
    · exact kx b hb hbI
    · exact absurd (Int32.le_refl _) hb46
  | succ f ih =>
    intro j b hj hb hbI
    refine V.iload_n (q := 39) C dX9_fewestToMend_38 rfl rfl ?_
    refine V.aload_n (q := 40) C dX9_fewestToMend_39 rfl rfl ?_
    refine V.get (q := 43) C fl_X9_31 dX9_fewestToMend_40 rfl okC_0 rfl rfl ?_
    refine V.get (q := 46) C fl_X9_208 dX9_fewestToMend_43 rfl (okC_6 (by omega)) rfl rfl ?_
    refine V.topi (x1 := nI (n)) ((congrFun putR_w 78).trans hbI.1) ?_
    refine V.icmp_ge (q := 49) (tgt := 69) C dX9_fewestToMend_46 rfl rfl (fun hb46 => ?_) (fun hb46 => ?_)
    · exact absurd ((nI_leI (by omega) (by omega)).mp hb46) (by omega)
    · refine V.aload_n (q := 50) C dX9_fewestToMend_49 rfl rfl ?_
      refine V.get (q := 53) C fl_X9_31 dX9_fewestToMend_50 rfl okC_0 rfl rfl ?_
      refine V.get (q := 56) C fl_X9_82 dX9_fewestToMend_53 rfl (okC_6 (by omega)) rfl rfl ?_
      refine V.iload_n (q := 57) C dX9_fewestToMend_56 rfl rfl ?_
      refine V.rld (q := 58) (i := j) C rfl dX9_fewestToMend_57 rfl (okC_7 (by omega)) rfl rfl (by omega) (by decide) ?_
      refine V.bipush (q := 60) (v := nI 99) C dX9_fewestToMend_58 rfl (by decide) ?_
      refine V.put (q := 63) C fl_X9_94 rfl dX9_fewestToMend_60 rfl (okC_9 (by omega) (by omega)) rfl (Nat.le_of_ble_eq_true rfl) rfl rfl rfl ?_
      refine V.phE (uC_9_4 (by omega)) ?_
      refine V.iinc (q := 66) (v := nI (j + 1)) C dX9_fewestToMend_63 rfl rfl (nI_1 _) (by decide) rfl rfl ?_
      refine V.goto (tgt := 38) C dX9_fewestToMend_66 rfl ?_
      rw [set1]
      exact ih (j + 1) _ (by omega) (hb.up1 (by omega) h8) (hbI.up1 (by omega))
theorem c_few {l : Launch} {g : GG} {X : PHp} {h0 : HZ} {ct : CTt} {cl : I2} {rd : RDt} {B : I2} {cy : Nat → Nat} {rw : RWt} {tl : TLt} {sp : SPt} {rules sizes A : I1} {n m r q : Nat} (hS : SH ct rules sizes A n m r q) (hI : CI (B 0) n m) (hT : TR TT (B 0) A n m) (hcy : cy 0 = q) (hH : ∀ i, i < n → ∃ h, HB A i h) {k : Nat} (hk : k ≤ 60) {b : I1} {c : Nat} : Ct l g yX9_fewestToMend cX9_fewestToMend 4 (some .int) 6 0 0 [rf g (0, 0, 0), .int (nI k)] NN (jn (hC g h0 ct cl rd (putR B 1 b) (va_up cy 1 c) rw tl sp) X) (xI (fun _ : I2 × I1 × Nat => True) (fun _ => mdF rules sizes A n m k (2 ^ n)) (fun z => (jn (hC g h0 ct z.1 rd (putR B 1 z.2.1) (va_up cy 1 z.2.2) rw tl sp) X))) := by
  refine Ct.of (lv := [some (rf g (0, 0, 0)), some (.int (nI k)), none, none]) (by decide +kernel) rfl (Nat.le_of_ble_eq_true rfl) ?_
  intro Γ C
  have h6 := hI.2.1
  have h8 := hI.2.2.2
  refine V.aload_n (q := 1) C dX9_fewestToMend_0 rfl rfl ?_
  refine V.get (q := 4) C fl_X9_31 dX9_fewestToMend_1 rfl okC_0 rfl rfl ?_
  refine V.aload_n (q := 5) C dX9_fewestToMend_4 rfl rfl ?_
  refine V.get (q := 8) C fl_X9_27 dX9_fewestToMend_5 rfl okC_0 rfl rfl ?_
  refine V.callVxv (q := 11) C me_X8_become (c_begT hS hI hT hcy) ml_X9_178 dX9_fewestToMend_8 rfl (okC_6 (by omega)) ⟨_, rfl⟩ rfl rfl (Nat.le_of_ble_eq_true rfl) (by omega) (Nat.zero_le _) (Nat.zero_le _) (fun b1 hB1 => ?_)
  refine V.aload_n (q := 12) C dX9_fewestToMend_11 rfl rfl ?_
  refine V.get (q := 15) C fl_X9_31 dX9_fewestToMend_12 rfl okC_0 rfl rfl ?_
  refine V.iload_n (q := 16) C dX9_fewestToMend_15 rfl rfl ?_
  refine V.iconst (q := 17) (v := -1) C dX9_fewestToMend_16 rfl (by decide) ?_
  refine V.callVxv (q := 20) C me_X8_go (c_go1 hS hB1.1 hB1.2 (Who.all (fun _ => trivial)) hk) ml_X9_174 dX9_fewestToMend_17 rfl (okC_6 (by omega)) ⟨_, rfl⟩ rfl rfl (Nat.le_of_ble_eq_true rfl) (by omega) (Nat.zero_le _) (Nat.zero_le _) (fun z2 hz2 => ?_)
  refine V.aload_n (q := 21) C dX9_fewestToMend_20 rfl rfl ?_
  refine V.callVi (q := 24) C me_X9_moreHurtBits (c_mhb hz2.1 hI hT) ml_X9_286 dX9_fewestToMend_21 rfl okC_0 ⟨_, rfl⟩ rfl rfl (Nat.le_of_ble_eq_true rfl) (by omega) (Nat.zero_le _) (Nat.zero_le _) ?_
  refine V.istore_n (q := 25) C dX9_fewestToMend_24 rfl (by decide) rfl rfl ?_
  refine V.aload_n (q := 26) C dX9_fewestToMend_25 rfl rfl ?_
  refine V.get (q := 29) C fl_X9_31 dX9_fewestToMend_26 rfl okC_0 rfl rfl ?_
  refine V.aload_n (q := 30) C dX9_fewestToMend_29 rfl rfl ?_
  refine V.get (q := 33) C fl_X9_27 dX9_fewestToMend_30 rfl okC_0 rfl rfl ?_
  refine V.callVxv (q := 36) C me_X8_become (c_begT hS hI hT hcy) ml_X9_178 dX9_fewestToMend_33 rfl (okC_6 (by omega)) ⟨_, rfl⟩ rfl rfl (Nat.le_of_ble_eq_true rfl) (by omega) (Nat.zero_le _) (Nat.zero_le _) (fun b3 hB3 => ?_)
  refine V.iconst (q := 37) (v := nI 0) C dX9_fewestToMend_36 rfl (by decide) ?_
  refine V.istore_n (q := 38) C dX9_fewestToMend_37 rfl (by decide) rfl rfl ?_
  refine c_few_l hS hI hT hcy C (fun b9 hb9 hbI9 => ?_) n 0 b3 (by omega) hB3.1 hB3.2
  refine V.aload_n (q := 70) C dX9_fewestToMend_69 rfl rfl ?_
  refine V.get (q := 73) C fl_X9_31 dX9_fewestToMend_70 rfl okC_0 rfl rfl ?_
  refine V.iload_n (q := 74) C dX9_fewestToMend_73 rfl rfl ?_
  refine V.iconst (q := 75) (v := -1) C dX9_fewestToMend_74 rfl (by decide) ?_
  refine V.callVxv (q := 78) C me_X8_go (c_go1 (hS.lo (fun k hk _ => c9_o n k (fun i hi => by omega))) hb9 hbI9 (Who.all (fun _ => trivial)) hk) ml_X9_174 dX9_fewestToMend_75 rfl (okC_6 (by omega)) ⟨_, rfl⟩ rfl rfl (Nat.le_of_ble_eq_true rfl) (by omega) (Nat.zero_le _) (Nat.zero_le _) (fun z4 hz4 => ?_)
  refine V.iload_n (q := 79) C dX9_fewestToMend_78 rfl rfl ?_
  refine V.aload_n (q := 80) C dX9_fewestToMend_79 rfl rfl ?_
  refine V.callVi (q := 83) C me_X9_moreHurtBits (c_mhb hz4.1 hI hT) ml_X9_286 dX9_fewestToMend_80 rfl okC_0 ⟨_, rfl⟩ rfl rfl (Nat.le_of_ble_eq_true rfl) (by omega) (Nat.zero_le _) (Nat.zero_le _) ?_
  refine V.iand (q := 84) C dX9_fewestToMend_83 rfl ?_
  refine V.if_ne (q := 87) (tgt := 91) C dX9_fewestToMend_84 rfl rfl (fun hb84 => ?_) (fun hb84 => ?_)
  · refine V.bipush (q := 93) (v := -5) C dX9_fewestToMend_91 rfl (by decide) ?_
    exact V.ireturn C dX9_fewestToMend_93 ⟨(z4.1, z4.2, q), trivial, by rw [md_T hS hH, if_neg hb84], rfl, rfl⟩
  · refine V.iload_n (q := 88) C dX9_fewestToMend_87 rfl rfl ?_
    refine V.goto (tgt := 93) C dX9_fewestToMend_88 rfl ?_
    exact V.ireturn C dX9_fewestToMend_93 ⟨(z4.1, z4.2, q), trivial, by rw [md_T hS hH, if_pos hb84], rfl, rfl⟩
theorem TR.aim {P : Nat → Prop} {b A : I1} {n m s i : Nat} (h : TR P b A n m) (hs : s < 8) (hn : n ≤ 6) (hi : i < 6) : TR P (upd b (54 + 3 * s + 2) (nI i)) (upd A (54 + 3 * s + 2) (nI i)) n m := by
  refine ⟨fun j hj hP c hc => ?_, fun t ht => ?_, ?_⟩
  · simp only [upd]
    rw [if_neg (by omega), if_neg (by omega)]
    exact h.1 j hj hP c hc
  · simp only [upd]
    have h1 := h.2.1 t ht
    rw [if_neg (by omega), if_neg (by omega), if_neg (by omega), if_neg (by omega)]
    refine ⟨h1.1, h1.2.1, ?_⟩
    by_cases e : t = s
    · subst e
      rw [if_pos rfl, if_pos rfl, noN, if_neg (nI_m1 (by omega))]
    · rw [if_neg (by omega), if_neg (by omega)]
      exact h1.2.2
  · simp only [upd]
    rw [if_neg (by omega), if_neg (by omega)]
    exact h.2.2
theorem SH.aim {ct : CTt} {rules sizes A : I1} {n m r q s i : Nat} (h : SH ct rules sizes A n m r q) (hs : s < 8) (hi : i < n) : SH ct rules sizes (upd A (54 + 3 * s + 2) (nI i)) n m r q := by
  obtain ⟨⟨w1, w2, w3, w4, w5, w6⟩, h2, h3, h4⟩ := h
  have ho : ∀ k, k ≠ 54 + 3 * s + 2 → upd A (54 + 3 * s + 2) (nI i) k = A k := fun k hk => if_neg hk
  refine ⟨⟨(ho 78 (by omega)).trans w1, w2, (ho 79 (by omega)).trans w3, w4, fun t ht => by rw [ho _ (by omega)]; exact w5 t ht, fun t ht => ?_⟩, fun t ht => by rw [ho _ (by omega)]; exact h2 t ht, (ho 81 (by omega)).trans h3, h4⟩
  by_cases e : t = s
  · subst e
    exact Or.inr ⟨i, hi, if_pos rfl⟩
  · rw [ho _ (by omega)]
    exact w6 t ht
theorem nI_m5 {k : Nat} (h : k < 2 ^ 31) : ¬ nI k = -5 := fun e => nI_pos h (by rw [e]; decide)
/-- all hurts together stay far below the greatest number -/
theorem hurt_lt {rules sizes A : I1} {n m k : Nat} (hW : WI A n m) (hH : ∀ i, i < n → ∃ h, HB A i h) : alR (dsA rules sizes m k A) 4 n < 2147483647 := by
  have hn := hW.2.1
  obtain ⟨g, hg⟩ := Classical.axiomOfChoice (fun i : Nat => show ∃ g, i < n → HB (dsA rules sizes m k A) i g from by
    by_cases hi : i < n
    · obtain ⟨h, e⟩ := hH i hi
      obtain ⟨g, -, e2⟩ := hb_N (rules := rules) (sizes := sizes) hW hi e k
      exact ⟨g, fun _ => e2⟩
    · exact ⟨0, fun z => absurd z hi⟩)
  rw [al_s (fun i hi => (hg i hi).1)]
  have b1 := s_le (h := g) (n := n) (M := 9999) (fun i hi => (hg i hi).2)
  show nI (sN g n) < nI 2147483647
  exact nI_lt (by omega) (by omega)
theorem HB.aim {A : I1} {i h s : Nat} {x : Int32} (hi : i < 6) (hH : HB A i h) : HB (upd A (54 + 3 * s + 2) x) i h := ⟨(if_neg (by omega)).trans hH.1, hH.2⟩
/-- what the class has found so far is what the reference has -/
def btZ (r : Int32 × Int32) (u1 u2 : Int32) : Prop := u2 = r.2 ∧ (u2 = -5 → r.1 = 2147483647) ∧ (¬ u2 = -5 → u1 = r.1)
theorem btZ.one {r : Int32 × Int32} {u1 u2 h : Int32} {j : Nat} (hz : btZ r u1 u2) (hj : j < 2 ^ 31) (hb : h < r.1) : btZ (lsS h (nI j) r) h (nI j) := by
  rw [ls_t hb]
  exact ⟨rfl, fun z => absurd z (nI_m5 hj), fun _ => rfl⟩
theorem btZ.same {r : Int32 × Int32} {u1 u2 h x : Int32} (hz : btZ r u1 u2) (hb : ¬ h < r.1) : btZ (lsS h x r) u1 u2 := by
  rw [ls_f hb]
  exact hz
theorem c_bt_l {l : Launch} {g : GG} {X : PHp} {h0 : HZ} {ct : CTt} {rd : RDt} {B : I2} {cy : Nat → Nat} {rw : RWt} {tl : TLt} {sp : SPt} {rules sizes A : I1} {n m r q : Nat} {Γ : Cxt} (hS : SH ct rules sizes A n m r q) (hI : CI (B 0) n m) (hT : TR TT (B 0) A n m) (hcy : cy 0 = q) (hH : ∀ i, i < n → ∃ h, HB A i h) {s k : Nat} (hs : s < m) (hk : k ≤ 60) (C : Cx Γ g cX9_bestTarget yX9_bestTarget 7 (some .int) 6 0 0) : ∀ (f j : Nat) (cl : I2) (b : I1) (c : Nat) (u : Option Value) (u1 u2 : Int32), j + f = n → btZ (amF rules sizes A n m s k j) u1 u2 → V l Γ g 7 (QM Γ g (xI (fun _ : I2 × I1 × Nat => True) (fun _ => (amF rules sizes A n m s k n).2) (fun z => (jn (hC g h0 ct z.1 rd (putR B 1 z.2.1) (va_up cy 1 z.2.2) rw tl sp) X))) 0 0) 0 0 NN (jn (hC g h0 ct cl rd (putR B 1 b) (va_up cy 1 c) rw tl sp) X) 9 [some (rf g (0, 0, 0)), some (.int (nI s)), some (.int (nI k)), some (.int u1), some (.int u2), some (.int (nI j)), u] [] := by
  have h6 := hI.2.1
  have h8 := hI.2.2.2
  have e78 : ∀ b, (putR B 1 b) 0 78 = nI n := fun b => (congrFun (putR_o (by omega)) 78).trans hI.1
  intro f
  induction f with
  | zero =>
    intro j cl b c u u1 u2 hj hz
    obtain rfl : j = n := by omega
    refine V.iload (q := 11) C dX9_bestTarget_9 rfl rfl ?_
    refine V.aload_n (q := 12) C dX9_bestTarget_11 rfl rfl ?_
    refine V.get (q := 15) C fl_X9_27 dX9_bestTarget_12 rfl okC_0 rfl rfl ?_
    refine V.get (q := 18) C fl_X9_208 dX9_bestTarget_15 rfl (okC_6 (by omega)) rfl rfl ?_
    refine V.topi (x1 := nI (j)) (e78 _) ?_
    refine V.icmp_ge (q := 21) (tgt := 90) C dX9_bestTarget_18 rfl rfl (fun hb18 => ?_) (fun hb18 => ?_)
    · refine V.iload (q := 92) C dX9_bestTarget_90 rfl rfl ?_
      exact V.ireturn C dX9_bestTarget_92 ⟨(cl, b, c), trivial, by rw [hz.1], rfl, rfl⟩
    · exact absurd (Int32.le_refl _) hb18
  | succ f ih =>
    intro j cl b c u u1 u2 hj hz
    have hlt : alR (dsA rules sizes m k (upd A (54 + 3 * s + 2) (nI j))) 4 n < 2147483647 := hurt_lt (WI_aim hS.1 (by omega) (Or.inr ⟨j, by omega, rfl⟩)) (fun i hi => by obtain ⟨h, e⟩ := hH i hi; exact ⟨h, e.aim (by omega)⟩)
    refine V.iload (q := 11) C dX9_bestTarget_9 rfl rfl ?_
    refine V.aload_n (q := 12) C dX9_bestTarget_11 rfl rfl ?_
    refine V.get (q := 15) C fl_X9_27 dX9_bestTarget_12 rfl okC_0 rfl rfl ?_
    refine V.get (q := 18) C fl_X9_208 dX9_bestTarget_15 rfl (okC_6 (by omega)) rfl rfl ?_
    refine V.topi (x1 := nI (n)) (e78 _) ?_
    refine V.icmp_ge (q := 21) (tgt := 90) C dX9_bestTarget_18 rfl rfl (fun hb18 => ?_) (fun hb18 => ?_)
    · exact absurd ((nI_leI (by omega) (by omega)).mp hb18) (by omega)
    · refine V.aload_n (q := 22) C dX9_bestTarget_21 rfl rfl ?_
      refine V.get (q := 25) C fl_X9_31 dX9_bestTarget_22 rfl okC_0 rfl rfl ?_
      refine V.aload_n (q := 26) C dX9_bestTarget_25 rfl rfl ?_
      refine V.get (q := 29) C fl_X9_27 dX9_bestTarget_26 rfl okC_0 rfl rfl ?_
      refine V.callVxv (q := 32) C me_X8_become (c_begT hS hI hT hcy) ml_X9_178 dX9_bestTarget_29 rfl (okC_6 (by omega)) ⟨_, rfl⟩ rfl rfl (Nat.le_of_ble_eq_true rfl) (by omega) (Nat.zero_le _) (Nat.zero_le _) (fun b1 hB1 => ?_)
      refine V.aload_n (q := 33) C dX9_bestTarget_32 rfl rfl ?_
      refine V.get (q := 36) C fl_X9_31 dX9_bestTarget_33 rfl okC_0 rfl rfl ?_
      refine V.get (q := 39) C fl_X9_122 dX9_bestTarget_36 rfl (okC_6 (by omega)) rfl rfl ?_
      refine V.iload_n (q := 40) C dX9_bestTarget_39 rfl rfl ?_
      refine V.rld (q := 41) (i := s) C rfl dX9_bestTarget_40 rfl (okC_8 (by omega)) rfl rfl (by omega) (by decide) ?_
      refine V.iload (q := 43) C dX9_bestTarget_41 rfl rfl ?_
      refine V.put (q := 46) C fl_X9_134 rfl dX9_bestTarget_43 rfl (okC_11 (by omega) (by omega)) rfl (Nat.le_of_ble_eq_true rfl) rfl rfl rfl ?_
      refine V.phE (uC_11_2 (by omega)) ?_
      rw [set1]
      refine V.aload_n (q := 47) C dX9_bestTarget_46 rfl rfl ?_
      refine V.get (q := 50) C fl_X9_31 dX9_bestTarget_47 rfl okC_0 rfl rfl ?_
      refine V.iload_n (q := 51) C dX9_bestTarget_50 rfl rfl ?_
      refine V.iconst (q := 52) (v := -1) C dX9_bestTarget_51 rfl (by decide) ?_
      refine V.callVxv (q := 55) C me_X8_go (c_go1 (hS.aim (s := s) (i := j) (by omega) (by omega)) (hB1.1.aim (s := s) (by omega) h6 (by omega)) (hB1.2.up1 (by omega)) (Who.all (fun _ => trivial)) hk) ml_X9_174 dX9_bestTarget_52 rfl (okC_6 (by omega)) ⟨_, rfl⟩ rfl rfl (Nat.le_of_ble_eq_true rfl) (by omega) (Nat.zero_le _) (Nat.zero_le _) (fun z2 hz2 => ?_)
      refine V.aload_n (q := 56) C dX9_bestTarget_55 rfl rfl ?_
      refine V.get (q := 59) C fl_X9_31 dX9_bestTarget_56 rfl okC_0 rfl rfl ?_
      refine V.callVi (q := 62) C me_X8_hurtOfAll (c_hurtT (P := TT) (by omega) hz2.1 (fun _ => trivial) hz2.2.1) ml_X9_164 dX9_bestTarget_59 rfl (okC_6 (by omega)) ⟨_, rfl⟩ rfl rfl (Nat.le_of_ble_eq_true rfl) (by omega) (Nat.zero_le _) (Nat.zero_le _) ?_
      refine V.istore (q := 64) C dX9_bestTarget_62 rfl (by decide) rfl rfl ?_
      refine V.iload (q := 66) C dX9_bestTarget_64 rfl rfl ?_
      refine V.bipush (q := 68) (v := -5) C dX9_bestTarget_66 rfl (by decide) ?_
      refine V.icmp_eq (q := 71) (tgt := 77) C dX9_bestTarget_68 rfl rfl (fun hb68 => ?_) (fun hb68 => ?_)
      · refine V.iload (q := 79) C dX9_bestTarget_77 rfl rfl ?_
        refine V.istore_n (q := 80) C dX9_bestTarget_79 rfl (by decide) rfl rfl ?_
        refine V.iload (q := 82) C dX9_bestTarget_80 rfl rfl ?_
        refine V.istore (q := 84) C dX9_bestTarget_82 rfl (by decide) rfl rfl ?_
        refine V.iinc (q := 87) (v := nI (j + 1)) C dX9_bestTarget_84 rfl rfl (nI_1 _) (by decide) rfl rfl ?_
        refine V.goto (tgt := 9) C dX9_bestTarget_87 rfl ?_
        have e9 : (amF rules sizes A n m s k (j + 1)) = lsS (alR (dsA rules sizes m k (upd A (54 + 3 * s + 2) (nI j))) 4 n) (nI j) (amF rules sizes A n m s k j) := rfl
        refine ih (j + 1) _ _ _ _ _ _ (by omega) ?_
        rw [e9]
        exact (hz.one (by omega) (by rw [hz.2.1 hb68]; exact hlt))
      · refine V.iload (q := 73) C dX9_bestTarget_71 rfl rfl ?_
        refine V.iload_n (q := 74) C dX9_bestTarget_73 rfl rfl ?_
        refine V.icmp_ge (q := 77) (tgt := 84) C dX9_bestTarget_74 rfl rfl (fun hb74 => ?_) (fun hb74 => ?_)
        · refine V.iinc (q := 87) (v := nI (j + 1)) C dX9_bestTarget_84 rfl rfl (nI_1 _) (by decide) rfl rfl ?_
          refine V.goto (tgt := 9) C dX9_bestTarget_87 rfl ?_
          have e9 : (amF rules sizes A n m s k (j + 1)) = lsS (alR (dsA rules sizes m k (upd A (54 + 3 * s + 2) (nI j))) 4 n) (nI j) (amF rules sizes A n m s k j) := rfl
          refine ih (j + 1) _ _ _ _ _ _ (by omega) ?_
          rw [e9]
          exact (hz.same (by rw [← hz.2.2 hb68]; exact Int32.not_lt.mpr hb74))
        · refine V.iload (q := 79) C dX9_bestTarget_77 rfl rfl ?_
          refine V.istore_n (q := 80) C dX9_bestTarget_79 rfl (by decide) rfl rfl ?_
          refine V.iload (q := 82) C dX9_bestTarget_80 rfl rfl ?_
          refine V.istore (q := 84) C dX9_bestTarget_82 rfl (by decide) rfl rfl ?_
          refine V.iinc (q := 87) (v := nI (j + 1)) C dX9_bestTarget_84 rfl rfl (nI_1 _) (by decide) rfl rfl ?_
          refine V.goto (tgt := 9) C dX9_bestTarget_87 rfl ?_
          have e9 : (amF rules sizes A n m s k (j + 1)) = lsS (alR (dsA rules sizes m k (upd A (54 + 3 * s + 2) (nI j))) 4 n) (nI j) (amF rules sizes A n m s k j) := rfl
          refine ih (j + 1) _ _ _ _ _ _ (by omega) ?_
          rw [e9]
          exact (hz.one (by omega) (by rw [← hz.2.2 hb68]; exact Int32.not_le.mp hb74))
theorem c_bestTarget {l : Launch} {g : GG} {X : PHp} {h0 : HZ} {ct : CTt} {cl : I2} {rd : RDt} {B : I2} {cy : Nat → Nat} {rw : RWt} {tl : TLt} {sp : SPt} {rules sizes A : I1} {n m r q : Nat} (hS : SH ct rules sizes A n m r q) (hI : CI (B 0) n m) (hT : TR TT (B 0) A n m) (hcy : cy 0 = q) (hH : ∀ i, i < n → ∃ h, HB A i h) {s k : Nat} (hs : s < m) (hk : k ≤ 60) {b : I1} {c : Nat} : Ct l g yX9_bestTarget cX9_bestTarget 7 (some .int) 6 0 0 [rf g (0, 0, 0), .int (nI s), .int (nI k)] NN (jn (hC g h0 ct cl rd (putR B 1 b) (va_up cy 1 c) rw tl sp) X) (xI (fun _ : I2 × I1 × Nat => True) (fun _ => (amF rules sizes A n m s k n).2) (fun z => (jn (hC g h0 ct z.1 rd (putR B 1 z.2.1) (va_up cy 1 z.2.2) rw tl sp) X))) := by
  refine Ct.of (lv := [some (rf g (0, 0, 0)), some (.int (nI s)), some (.int (nI k)), none, none, none, none]) (by decide +kernel) rfl (Nat.le_of_ble_eq_true rfl) ?_
  intro Γ C
  have h6 := hI.2.1
  have h8 := hI.2.2.2
  refine V.iconst (q := 1) (v := nI 0) C dX9_bestTarget_0 rfl (by decide) ?_
  refine V.istore_n (q := 2) C dX9_bestTarget_1 rfl (by decide) rfl rfl ?_
  refine V.bipush (q := 4) (v := -5) C dX9_bestTarget_2 rfl (by decide) ?_
  refine V.istore (q := 6) C dX9_bestTarget_4 rfl (by decide) rfl rfl ?_
  refine V.iconst (q := 7) (v := nI 0) C dX9_bestTarget_6 rfl (by decide) ?_
  refine V.istore (q := 9) C dX9_bestTarget_7 rfl (by decide) rfl rfl ?_
  exact c_bt_l hS hI hT hcy hH hs hk C n 0 _ _ _ _ _ _ (by omega) ⟨rfl, fun _ => rfl, fun z => absurd rfl z⟩
theorem inR01 {x : Int32} : inR x (nI 0) (nI 1) = true ↔ x = 0 ∨ x = nI 1 := by
  constructor
  · intro h
    obtain ⟨j, -, hj, rfl⟩ := InR_nat (by omega) (by omega) h
    obtain rfl | rfl := (show j = 0 ∨ j = 1 by omega)
    · exact Or.inl rfl
    · exact Or.inr rfl
  · rintro (h | h) <;> (rw [h]; decide)
theorem c_best {l : Launch} {g : GG} {X : PHp} {h0 : HZ} {ct : CTt} {cl : I2} {rd : RDt} {B : I2} {cy : Nat → Nat} {rw : RWt} {tl : TLt} {sp : SPt} {rules sizes A : I1} {n m r q : Nat} (hS : SH ct rules sizes A n m r q) (hI : CI (B 0) n m) (hT : TR TT (B 0) A n m) (hcy : cy 0 = q) (hH : ∀ i, i < n → ∃ h, HB A i h) {k x : Int32} : Ct l g yX9_best cX9_best 4 (some .int) 24 0 0 [rf g (0, 0, 0), .int k, .int x] NN (jn (hC g h0 ct cl rd B cy rw tl sp) X) (xI (fun _ : I2 × I1 × Nat => True) (fun _ => bestR rules sizes A n m k x) (fun z => (jn (hC g h0 ct z.1 rd (putR B 1 z.2.1) (va_up cy 1 z.2.2) rw tl sp) X))) := by
  refine Ct.of (lv := [some (rf g (0, 0, 0)), some (.int k), some (.int x), none]) (by decide +kernel) rfl (Nat.le_of_ble_eq_true rfl) ?_
  intro Γ C
  have h6 := hI.2.1
  have h8 := hI.2.2.2
  refine V.iload_n (q := 1) C dX9_best_0 rfl rfl ?_
  refine V.bipush (q := 3) (v := nI 10) C dX9_best_1 rfl (by decide) ?_
  refine V.isub (q := 4) C dX9_best_3 rfl ?_
  refine V.istore_n (q := 5) C dX9_best_4 rfl (by decide) rfl rfl ?_
  refine V.iload_n (q := 6) C dX9_best_5 rfl rfl ?_
  refine V.if_eq (q := 9) (tgt := 27) C dX9_best_6 rfl rfl (fun hb6 => ?_) (fun hb6 => ?_)
  · have hx : x = 0 := hb6
    refine V.iload_n (q := 28) C dX9_best_27 rfl rfl ?_
    refine V.iconst (q := 29) (v := nI 1) C dX9_best_28 rfl (by decide) ?_
    refine V.icmp_lt (q := 32) (tgt := 47) C dX9_best_29 rfl rfl (fun hb29 => ?_) (fun hb29 => ?_)
    · have hbad : ¬ inR k (nI 1) (nI 12) = true := fun z => (InR_iff.mp z).1 hb29
      refine V.bipush (q := 49) (v := -2) C dX9_best_47 rfl (by decide) ?_
      exact V.ireturn C dX9_best_49 ⟨(cl, B 1, cy 1), trivial, by rw [bestR, if_pos (inR01.mpr (Or.inl hx)), if_pos hx, if_neg hbad], (congrArg (fun z => (jn (hC g h0 ct cl rd z cy rw tl sp) X)) (putR_id (B := B) (w := 1)).symm).trans (congrArg (fun z => (jn (hC g h0 ct cl rd (putR B 1 (B 1)) z rw tl sp) X)) (va_up_id (f := cy) (k := 1)).symm), rfl⟩
    · refine V.iload_n (q := 33) C dX9_best_32 rfl rfl ?_
      refine V.iload_n (q := 34) C dX9_best_33 rfl rfl ?_
      refine V.if_ne (q := 37) (tgt := 42) C dX9_best_34 rfl rfl (fun hb34 => ?_) (fun hb34 => ?_)
      · exact absurd hx hb34
      · refine V.bipush (q := 39) (v := nI 12) C dX9_best_37 rfl (by decide) ?_
        refine V.goto (tgt := 44) C dX9_best_39 rfl ?_
        refine V.icmp_le (q := 47) (tgt := 50) C dX9_best_44 rfl rfl (fun hb44 => ?_) (fun hb44 => ?_)
        · have hk9 : inR k (nI 1) (nI 12) = true := InR_iff.mpr ⟨hb29, Int32.not_lt.mpr hb44⟩
          obtain ⟨d, hd1, hd2, rfl⟩ := InR_nat (by omega) (by omega) hk9
          have id9 := ix_k (k := d) (by omega)
          refine V.phE (fun q _ => congrFun (congrArg (fun z => (jn (hC g h0 ct cl rd z cy rw tl sp) X)) (putR_id (B := B) (w := 1)).symm) q) ?_
          refine V.phE (fun q _ => congrFun (congrArg (fun z => (jn (hC g h0 ct cl rd (putR B 1 (B 1)) z rw tl sp) X)) (va_up_id (f := cy) (k := 1)).symm) q) ?_
          refine V.iload_n (q := 51) C dX9_best_50 rfl rfl ?_
          refine V.if_ne (q := 54) (tgt := 60) C dX9_best_51 rfl rfl (fun hb51 => ?_) (fun hb51 => ?_)
          · exact absurd hx hb51
          · refine V.aload_n (q := 55) C dX9_best_54 rfl rfl ?_
            refine V.iload_n (q := 56) C dX9_best_55 rfl rfl ?_
            refine V.callVxi (q := 59) C me_X9_fewestToMend (c_few hS hI hT hcy hH (by omega)) ml_X9_182 dX9_best_56 rfl okC_0 ⟨_, rfl⟩ rfl rfl (Nat.le_of_ble_eq_true rfl) (by omega) (Nat.zero_le _) (Nat.zero_le _) (fun z9 _ => ?_)
            exact V.ireturn C dX9_best_59 ⟨z9, trivial, by rw [bestR, if_pos (inR01.mpr (Or.inl hx)), if_pos hx, if_pos hk9, id9], rfl, rfl⟩
        · have hbad : ¬ inR k (nI 1) (nI 12) = true := fun z => hb44 (Int32.not_lt.mp (InR_iff.mp z).2)
          refine V.bipush (q := 49) (v := -2) C dX9_best_47 rfl (by decide) ?_
          exact V.ireturn C dX9_best_49 ⟨(cl, B 1, cy 1), trivial, by rw [bestR, if_pos (inR01.mpr (Or.inl hx)), if_pos hx, if_neg hbad], (congrArg (fun z => (jn (hC g h0 ct cl rd z cy rw tl sp) X)) (putR_id (B := B) (w := 1)).symm).trans (congrArg (fun z => (jn (hC g h0 ct cl rd (putR B 1 (B 1)) z rw tl sp) X)) (va_up_id (f := cy) (k := 1)).symm), rfl⟩
  · have hx0 : ¬ x = 0 := hb6
    refine V.iload_n (q := 10) C dX9_best_9 rfl rfl ?_
    refine V.iconst (q := 11) (v := nI 1) C dX9_best_10 rfl (by decide) ?_
    refine V.icmp_eq (q := 14) (tgt := 27) C dX9_best_11 rfl rfl (fun hb11 => ?_) (fun hb11 => ?_)
    · have hx : x = nI 1 := hb11
      refine V.iload_n (q := 28) C dX9_best_27 rfl rfl ?_
      refine V.iconst (q := 29) (v := nI 1) C dX9_best_28 rfl (by decide) ?_
      refine V.icmp_lt (q := 32) (tgt := 47) C dX9_best_29 rfl rfl (fun hb29 => ?_) (fun hb29 => ?_)
      · have hbad : ¬ inR k (nI 1) (nI 20) = true := fun z => (InR_iff.mp z).1 hb29
        refine V.bipush (q := 49) (v := -2) C dX9_best_47 rfl (by decide) ?_
        exact V.ireturn C dX9_best_49 ⟨(cl, B 1, cy 1), trivial, by rw [bestR, if_pos (inR01.mpr (Or.inr hx)), if_neg hx0, if_neg hbad], (congrArg (fun z => (jn (hC g h0 ct cl rd z cy rw tl sp) X)) (putR_id (B := B) (w := 1)).symm).trans (congrArg (fun z => (jn (hC g h0 ct cl rd (putR B 1 (B 1)) z rw tl sp) X)) (va_up_id (f := cy) (k := 1)).symm), rfl⟩
      · refine V.iload_n (q := 33) C dX9_best_32 rfl rfl ?_
        refine V.iload_n (q := 34) C dX9_best_33 rfl rfl ?_
        refine V.if_ne (q := 37) (tgt := 42) C dX9_best_34 rfl rfl (fun hb34 => ?_) (fun hb34 => ?_)
        · refine V.bipush (q := 44) (v := nI 20) C dX9_best_42 rfl (by decide) ?_
          refine V.icmp_le (q := 47) (tgt := 50) C dX9_best_44 rfl rfl (fun hb44 => ?_) (fun hb44 => ?_)
          · have hk9 : inR k (nI 1) (nI 20) = true := InR_iff.mpr ⟨hb29, Int32.not_lt.mpr hb44⟩
            obtain ⟨d, hd1, hd2, rfl⟩ := InR_nat (by omega) (by omega) hk9
            have id9 := ix_k (k := d) (by omega)
            refine V.phE (fun q _ => congrFun (congrArg (fun z => (jn (hC g h0 ct cl rd z cy rw tl sp) X)) (putR_id (B := B) (w := 1)).symm) q) ?_
            refine V.phE (fun q _ => congrFun (congrArg (fun z => (jn (hC g h0 ct cl rd (putR B 1 (B 1)) z rw tl sp) X)) (va_up_id (f := cy) (k := 1)).symm) q) ?_
            refine V.iload_n (q := 51) C dX9_best_50 rfl rfl ?_
            refine V.if_ne (q := 54) (tgt := 60) C dX9_best_51 rfl rfl (fun hb51 => ?_) (fun hb51 => ?_)
            · refine V.iload_n (q := 61) C dX9_best_60 rfl rfl ?_
              refine V.iconst (q := 62) (v := nI 1) C dX9_best_61 rfl (by decide) ?_
              refine V.icmp_ne (q := 65) (tgt := 73) C dX9_best_62 rfl rfl (fun hb62 => ?_) (fun hb62 => ?_)
              · exact absurd hx hb62
              · refine V.aload_n (q := 66) C dX9_best_65 rfl rfl ?_
                refine V.iload_n (q := 67) C dX9_best_66 rfl rfl ?_
                refine V.callVxi (q := 70) C me_X9_bestChange (c_bestChange hS hI hT hcy (by omega)) ml_X9_185 dX9_best_67 rfl okC_0 ⟨_, rfl⟩ rfl rfl (Nat.le_of_ble_eq_true rfl) (by omega) (Nat.zero_le _) (Nat.zero_le _) (fun z9 _ => ?_)
                refine V.goto (tgt := 79) C dX9_best_70 rfl ?_
                exact V.ireturn C dX9_best_79 ⟨z9, trivial, by rw [bestR, if_pos (inR01.mpr (Or.inr hx)), if_neg hx0, if_pos hk9, id9], rfl, rfl⟩
            · exact absurd hb51 hx0
          · have hbad : ¬ inR k (nI 1) (nI 20) = true := fun z => hb44 (Int32.not_lt.mp (InR_iff.mp z).2)
            refine V.bipush (q := 49) (v := -2) C dX9_best_47 rfl (by decide) ?_
            exact V.ireturn C dX9_best_49 ⟨(cl, B 1, cy 1), trivial, by rw [bestR, if_pos (inR01.mpr (Or.inr hx)), if_neg hx0, if_neg hbad], (congrArg (fun z => (jn (hC g h0 ct cl rd z cy rw tl sp) X)) (putR_id (B := B) (w := 1)).symm).trans (congrArg (fun z => (jn (hC g h0 ct cl rd (putR B 1 (B 1)) z rw tl sp) X)) (va_up_id (f := cy) (k := 1)).symm), rfl⟩
        · exact absurd hb34 hx0
    · have hx1 : ¬ x = nI 1 := hb11
      have hx01 : ¬ inR x (nI 0) (nI 1) = true := fun z => (inR01.mp z).elim hx0 hx1
      refine V.aload_n (q := 15) C dX9_best_14 rfl rfl ?_
      refine V.get (q := 18) C fl_X9_27 dX9_best_15 rfl okC_0 rfl rfl ?_
      refine V.iload_n (q := 19) C dX9_best_18 rfl rfl ?_
      refine V.callVi (q := 22) C me_X8_hasSaying (c_hasSaying (by omega) hI) ml_X9_111 dX9_best_19 rfl (okC_6 (by omega)) ⟨_, rfl⟩ rfl rfl (Nat.le_of_ble_eq_true rfl) (by omega) (Nat.zero_le _) (Nat.zero_le _) ?_
      refine V.if_neB (q := 25) (tgt := 27) C dX9_best_22 rfl rfl (fun hb22 => ?_) (fun hb22 => ?_)
      · have hsay := hb22
        obtain ⟨s9, hs9, es⟩ := InN_nat (by omega) hb22
        rw [es]
        have is9 : ix (x - nI 10) = s9 := by rw [es, ix_k (by omega)]
        refine V.iload_n (q := 28) C dX9_best_27 rfl rfl ?_
        refine V.iconst (q := 29) (v := nI 1) C dX9_best_28 rfl (by decide) ?_
        refine V.icmp_lt (q := 32) (tgt := 47) C dX9_best_29 rfl rfl (fun hb29 => ?_) (fun hb29 => ?_)
        · have hbad : ¬ inR k (nI 1) (nI 20) = true := fun z => (InR_iff.mp z).1 hb29
          refine V.bipush (q := 49) (v := -2) C dX9_best_47 rfl (by decide) ?_
          exact V.ireturn C dX9_best_49 ⟨(cl, B 1, cy 1), trivial, by rw [bestR, if_neg hx01, if_pos hsay, if_neg hbad], (congrArg (fun z => (jn (hC g h0 ct cl rd z cy rw tl sp) X)) (putR_id (B := B) (w := 1)).symm).trans (congrArg (fun z => (jn (hC g h0 ct cl rd (putR B 1 (B 1)) z rw tl sp) X)) (va_up_id (f := cy) (k := 1)).symm), rfl⟩
        · refine V.iload_n (q := 33) C dX9_best_32 rfl rfl ?_
          refine V.iload_n (q := 34) C dX9_best_33 rfl rfl ?_
          refine V.if_ne (q := 37) (tgt := 42) C dX9_best_34 rfl rfl (fun hb34 => ?_) (fun hb34 => ?_)
          · refine V.bipush (q := 44) (v := nI 20) C dX9_best_42 rfl (by decide) ?_
            refine V.icmp_le (q := 47) (tgt := 50) C dX9_best_44 rfl rfl (fun hb44 => ?_) (fun hb44 => ?_)
            · have hk9 : inR k (nI 1) (nI 20) = true := InR_iff.mpr ⟨hb29, Int32.not_lt.mpr hb44⟩
              obtain ⟨d, hd1, hd2, rfl⟩ := InR_nat (by omega) (by omega) hk9
              have id9 := ix_k (k := d) (by omega)
              refine V.phE (fun q _ => congrFun (congrArg (fun z => (jn (hC g h0 ct cl rd z cy rw tl sp) X)) (putR_id (B := B) (w := 1)).symm) q) ?_
              refine V.phE (fun q _ => congrFun (congrArg (fun z => (jn (hC g h0 ct cl rd (putR B 1 (B 1)) z rw tl sp) X)) (va_up_id (f := cy) (k := 1)).symm) q) ?_
              refine V.iload_n (q := 51) C dX9_best_50 rfl rfl ?_
              refine V.if_ne (q := 54) (tgt := 60) C dX9_best_51 rfl rfl (fun hb51 => ?_) (fun hb51 => ?_)
              · refine V.iload_n (q := 61) C dX9_best_60 rfl rfl ?_
                refine V.iconst (q := 62) (v := nI 1) C dX9_best_61 rfl (by decide) ?_
                refine V.icmp_ne (q := 65) (tgt := 73) C dX9_best_62 rfl rfl (fun hb62 => ?_) (fun hb62 => ?_)
                · refine V.aload_n (q := 74) C dX9_best_73 rfl rfl ?_
                  refine V.iload_n (q := 75) C dX9_best_74 rfl rfl ?_
                  refine V.iload_n (q := 76) C dX9_best_75 rfl rfl ?_
                  refine V.callVxi (q := 79) C me_X9_bestTarget (c_bestTarget hS hI hT hcy hH hs9 (by omega)) ml_X9_188 dX9_best_76 rfl okC_0 ⟨_, rfl⟩ rfl rfl (Nat.le_of_ble_eq_true rfl) (by omega) (Nat.zero_le _) (Nat.zero_le _) (fun z9 _ => ?_)
                  exact V.ireturn C dX9_best_79 ⟨z9, trivial, by rw [bestR, if_neg hx01, if_pos hsay, if_pos hk9, id9, is9], rfl, rfl⟩
                · exact absurd (Or.inr hb62 : x = 0 ∨ x = nI 1) (fun z => hx01 (inR01.mpr z))
              · exact absurd hb51 hx0
            · have hbad : ¬ inR k (nI 1) (nI 20) = true := fun z => hb44 (Int32.not_lt.mp (InR_iff.mp z).2)
              refine V.bipush (q := 49) (v := -2) C dX9_best_47 rfl (by decide) ?_
              exact V.ireturn C dX9_best_49 ⟨(cl, B 1, cy 1), trivial, by rw [bestR, if_neg hx01, if_pos hsay, if_neg hbad], (congrArg (fun z => (jn (hC g h0 ct cl rd z cy rw tl sp) X)) (putR_id (B := B) (w := 1)).symm).trans (congrArg (fun z => (jn (hC g h0 ct cl rd (putR B 1 (B 1)) z rw tl sp) X)) (va_up_id (f := cy) (k := 1)).symm), rfl⟩
          · exact absurd hb34 hx0
      · refine V.iconst (q := 26) (v := -1) C dX9_best_25 rfl (by decide) ?_
        exact V.ireturn C dX9_best_26 ⟨(cl, B 1, cy 1), trivial, by rw [bestR, if_neg (fun z => (inR01.mp z).elim hb6 hb11), if_neg hb22], (congrArg (fun z => (jn (hC g h0 ct cl rd z cy rw tl sp) X)) (putR_id (B := B) (w := 1)).symm).trans (congrArg (fun z => (jn (hC g h0 ct cl rd (putR B 1 (B 1)) z rw tl sp) X)) (va_up_id (f := cy) (k := 1)).symm), rfl⟩
theorem c_low_l {l : Launch} {g : GG} {P : PHp} {Γ : Cxt} {Q : State → Prop} {a b9 : Nat} {p : Int32} (ha : a < 2 ^ 31) (hb : b9 ≤ 6) (hb1 : 0 < b9) (C : Cx Γ g cX9_ofLowestTerms yX9_ofLowestTerms 5 (some .long) 1 0 0) (kx : V l Γ g 5 Q 0 0 NN P 34 [some (.int (nI a)), some (.int (nI b9)), some (.int p), some (.int (nI (lgd a b9 ((b9 + 1) - 1)))), some (.int (nI (b9 + 1)))] []) : ∀ f d : Nat, d + f = b9 + 1 → 1 ≤ d → V l Γ g 5 Q 0 0 NN P 5 [some (.int (nI a)), some (.int (nI b9)), some (.int p), some (.int (nI (lgd a b9 (d - 1)))), some (.int (nI d))] [] := by
  intro f
  induction f with
  | zero =>
    intro d hd h1
    obtain rfl : d = b9 + 1 := by omega
    refine V.iload (q := 7) C dX9_ofLowestTerms_5 rfl rfl ?_
    refine V.iload_n (q := 8) C dX9_ofLowestTerms_7 rfl rfl ?_
    refine V.icmp_gt (q := 11) (tgt := 34) C dX9_ofLowestTerms_8 rfl rfl (fun hb8 => ?_) (fun hb8 => ?_)
    · exact kx
    · exact absurd (nI_lt (a := b9) (b := b9 + 1) (by omega) (by omega)) hb8
  | succ f ih =>
    intro d hd h1
    obtain ⟨e, rfl⟩ : ∃ e, d = e + 1 := ⟨d - 1, by omega⟩
    refine V.iload (q := 7) C dX9_ofLowestTerms_5 rfl rfl ?_
    refine V.iload_n (q := 8) C dX9_ofLowestTerms_7 rfl rfl ?_
    refine V.icmp_gt (q := 11) (tgt := 34) C dX9_ofLowestTerms_8 rfl rfl (fun hb8 => ?_) (fun hb8 => ?_)
    · exact absurd ((nI_ltI (by omega) (by omega)).mp hb8) (by omega)
    · refine V.iload_n (q := 12) C dX9_ofLowestTerms_11 rfl rfl ?_
      refine V.iload (q := 14) C dX9_ofLowestTerms_12 rfl rfl ?_
      refine V.irem (q := 15) C dX9_ofLowestTerms_14 rfl (nI_ne0 (by omega) (by omega)) ?_
      refine V.topi (x1 := nI (a % (e + 1))) (pk_rem (by omega) (by omega) (by omega)) ?_
      refine V.if_ne (q := 18) (tgt := 28) C dX9_ofLowestTerms_15 rfl rfl (fun hb15 => ?_) (fun hb15 => ?_)
      · have m1 : ¬ a % (e + 1) = 0 := fun z => hb15 (by rw [z]; rfl)
        refine V.iinc (q := 31) (v := nI ((e + 1) + 1)) C dX9_ofLowestTerms_28 rfl rfl (nI_1 _) (by decide) rfl rfl ?_
        refine V.goto (tgt := 5) C dX9_ofLowestTerms_31 rfl ?_
        have h9 := ih (e + 1 + 1) (by omega) (by omega)
        rw [show lgd a b9 (e + 1 + 1 - 1) = _ from if_neg (fun z => m1 z.1)] at h9
        exact h9
      · have m1 : a % (e + 1) = 0 := (nI_eq (b := 0) (by have := Nat.mod_lt a (show e + 1 > 0 by omega); omega) (by omega)).mp hb15
        refine V.iload_n (q := 19) C dX9_ofLowestTerms_18 rfl rfl ?_
        refine V.iload (q := 21) C dX9_ofLowestTerms_19 rfl rfl ?_
        refine V.irem (q := 22) C dX9_ofLowestTerms_21 rfl (nI_ne0 (by omega) (by omega)) ?_
        refine V.topi (x1 := nI (b9 % (e + 1))) (pk_rem (by omega) (by omega) (by omega)) ?_
        refine V.if_ne (q := 25) (tgt := 28) C dX9_ofLowestTerms_22 rfl rfl (fun hb22 => ?_) (fun hb22 => ?_)
        · have m2 : ¬ b9 % (e + 1) = 0 := fun z => hb22 (by rw [z]; rfl)
          refine V.iinc (q := 31) (v := nI ((e + 1) + 1)) C dX9_ofLowestTerms_28 rfl rfl (nI_1 _) (by decide) rfl rfl ?_
          refine V.goto (tgt := 5) C dX9_ofLowestTerms_31 rfl ?_
          have h9 := ih (e + 1 + 1) (by omega) (by omega)
          rw [show lgd a b9 (e + 1 + 1 - 1) = _ from if_neg (fun z => m2 z.2)] at h9
          exact h9
        · have m2 : b9 % (e + 1) = 0 := (nI_eq (b := 0) (by have := Nat.mod_lt b9 (show e + 1 > 0 by omega); omega) (by omega)).mp hb22
          refine V.iload (q := 27) C dX9_ofLowestTerms_25 rfl rfl ?_
          refine V.istore_n (q := 28) C dX9_ofLowestTerms_27 rfl (by decide) rfl rfl ?_
          refine V.iinc (q := 31) (v := nI ((e + 1) + 1)) C dX9_ofLowestTerms_28 rfl rfl (nI_1 _) (by decide) rfl rfl ?_
          refine V.goto (tgt := 5) C dX9_ofLowestTerms_31 rfl ?_
          have h9 := ih (e + 1 + 1) (by omega) (by omega)
          rw [show lgd a b9 (e + 1 + 1 - 1) = _ from if_pos ⟨m1, m2⟩] at h9
          exact h9
theorem c_low {l : Launch} {g : GG} {P : PHp} {a b9 : Nat} {p : Int32} (ha : a < 2 ^ 31) (hb : b9 ≤ 6) (hb1 : 0 < b9) : Ct l g yX9_ofLowestTerms cX9_ofLowestTerms 5 (some .long) 1 0 0 [.int (nI a), .int (nI b9), .int p] NN P (pL (frR a b9 (Nat.gcd a b9) p) P) := by
  refine Ct.of (lv := [some (.int (nI a)), some (.int (nI b9)), some (.int p), none, none]) (by decide +kernel) rfl (Nat.le_of_ble_eq_true rfl) ?_
  intro Γ C
  refine V.iconst (q := 1) (v := nI 1) C dX9_ofLowestTerms_0 rfl (by decide) ?_
  refine V.istore_n (q := 2) C dX9_ofLowestTerms_1 rfl (by decide) rfl rfl ?_
  refine V.iconst (q := 3) (v := nI 2) C dX9_ofLowestTerms_2 rfl (by decide) ?_
  refine V.istore (q := 5) C dX9_ofLowestTerms_3 rfl (by decide) rfl rfl ?_
  have e1 : lgd a b9 (2 - 1) = 1 := by
    show (if a % 1 = 0 ∧ b9 % 1 = 0 then 1 else 1) = 1
    split <;> rfl
  refine V.loc (lv1 := [some (.int (nI a)), some (.int (nI b9)), some (.int p), some (.int (nI (lgd a b9 (2 - 1)))), some (.int (nI 2))]) (by rw [e1] <;> rfl) ?_
  refine c_low_l ha hb hb1 C ?_ (b9 - 1) 2 (by omega) (by omega)
  rw [show b9 + 1 - 1 = b9 by omega, lgd_gcd hb1]
  have hg := Nat.gcd_pos_of_pos_right a hb1
  have hgl := Nat.le_of_dvd hb1 (Nat.gcd_dvd_right a b9)
  refine V.iload_n (q := 35) C dX9_ofLowestTerms_34 rfl rfl ?_
  refine V.if_ne (q := 38) (tgt := 42) C dX9_ofLowestTerms_35 rfl rfl (fun hb35 => ?_) (fun hb35 => ?_)
  · refine V.iload_n (q := 43) C dX9_ofLowestTerms_42 rfl rfl ?_
    refine V.iload_n (q := 44) C dX9_ofLowestTerms_43 rfl rfl ?_
    refine V.idiv (q := 45) C dX9_ofLowestTerms_44 rfl (nI_ne0 hg (by omega)) ?_
    refine V.topi (x1 := nI (b9 / Nat.gcd a b9)) (pk_div (by omega) hg (by omega)) ?_
    refine V.i2l (q := 46) C dX9_ofLowestTerms_45 rfl rfl ?_
    refine V.topl (nI_l (by have := Nat.div_le_self a (Nat.gcd a b9); have := Nat.div_le_self b9 (Nat.gcd a b9); omega)) ?_
    exact V.lreturn C dX9_ofLowestTerms_46 ⟨by rw [frR, if_neg hb35, pk_lDiv (by omega) hg (by omega)], rfl, rfl⟩
  · refine V.iload_n (q := 39) C dX9_ofLowestTerms_38 rfl rfl ?_
    refine V.goto (tgt := 43) C dX9_ofLowestTerms_39 rfl ?_
    refine V.iload_n (q := 44) C dX9_ofLowestTerms_43 rfl rfl ?_
    refine V.idiv (q := 45) C dX9_ofLowestTerms_44 rfl (nI_ne0 hg (by omega)) ?_
    refine V.topi (x1 := nI (a / Nat.gcd a b9)) (pk_div (by omega) hg (by omega)) ?_
    refine V.i2l (q := 46) C dX9_ofLowestTerms_45 rfl rfl ?_
    refine V.topl (nI_l (by have := Nat.div_le_self a (Nat.gcd a b9); have := Nat.div_le_self b9 (Nat.gcd a b9); omega)) ?_
    exact V.lreturn C dX9_ofLowestTerms_46 ⟨by rw [frR, if_pos hb35, pk_lDiv (by omega) hg (by omega)], rfl, rfl⟩
theorem mean_0 {rules sizes A : I1} {n m : Nat} {k p : Int32} (h : n = 0) : meanR rules sizes A n m k p = -9223372036854775808 := by
  unfold meanR
  rw [if_pos h, ite_self, ite_self]
theorem c_mean {l : Launch} {g : GG} {X : PHp} {h0 : HZ} {ct : CTt} {cl : I2} {rd : RDt} {B : I2} {cy : Nat → Nat} {rw : RWt} {tl : TLt} {sp : SPt} {rules sizes A : I1} {n m r q : Nat} (hS : SH ct rules sizes A n m r q) (hI : CI (B 0) n m) (hT : TR TT (B 0) A n m) (hcy : cy 0 = q) {k p : Int32} (hs : ∀ d, d ≤ 60 → ∃ a, a < 2 ^ 31 ∧ alR (dsA rules sizes m d A) 2 n = nI a) : Ct l g yX9_mean cX9_mean 3 (some .long) 24 0 0 [rf g (0, 0, 0), .int k, .int p] NN (jn (hC g h0 ct cl rd B cy rw tl sp) X) (xL (fun _ : I2 × I1 × Nat => True) (fun _ => meanR rules sizes A n m k p) (fun z => (jn (hC g h0 ct z.1 rd (putR B 1 z.2.1) (va_up cy 1 z.2.2) rw tl sp) X))) := by
  refine Ct.of (lv := [some (rf g (0, 0, 0)), some (.int k), some (.int p)]) (by decide +kernel) rfl (Nat.le_of_ble_eq_true rfl) ?_
  intro Γ C
  have h6 := hI.2.1
  have h8 := hI.2.2.2
  refine V.aload_n (q := 1) C dX9_mean_0 rfl rfl ?_
  refine V.get (q := 4) C fl_X9_27 dX9_mean_1 rfl okC_0 rfl rfl ?_
  refine V.get (q := 7) C fl_X9_208 dX9_mean_4 rfl (okC_6 (by omega)) rfl rfl ?_
  refine V.topi (x1 := nI (n)) hI.1 ?_
  refine V.if_eq (q := 10) (tgt := 27) C dX9_mean_7 rfl rfl (fun hb7 => ?_) (fun hb7 => ?_)
  · have hz0 : n = 0 := (nI_eq (b := 0) (by omega) (by omega)).mp hb7
    refine V.ldc2 (q := 30) (v := -9223372036854775808) C (tb_at 651 (by decide +kernel) rfl) dX9_mean_27 rfl ?_
    exact V.lreturn C dX9_mean_30 ⟨(cl, B 1, cy 1), trivial, (by rw [mean_0 hz0]), (congrArg (fun z => (jn (hC g h0 ct cl rd z cy rw tl sp) X)) (putR_id (B := B) (w := 1)).symm).trans (congrArg (fun z => (jn (hC g h0 ct cl rd (putR B 1 (B 1)) z rw tl sp) X)) (va_up_id (f := cy) (k := 1)).symm), rfl⟩
  · have hz0 : ¬ n = 0 := fun z => hb7 (by rw [z]; rfl)
    refine V.iload_n (q := 11) C dX9_mean_10 rfl rfl ?_
    refine V.bipush (q := 13) (v := nI 60) C dX9_mean_11 rfl (by decide) ?_
    refine V.callSi (q := 16) C me_X9_isOut c_isOut ml_X9_70 dX9_mean_13 rfl rfl rfl (Nat.le_of_ble_eq_true rfl) (by omega) (Nat.zero_le _) (Nat.zero_le _) ?_
    refine V.if_neB (q := 19) (tgt := 27) C dX9_mean_16 rfl rfl (fun hb16 => ?_) (fun hb16 => ?_)
    · refine V.ldc2 (q := 30) (v := -9223372036854775808) C (tb_at 651 (by decide +kernel) rfl) dX9_mean_27 rfl ?_
      exact V.lreturn C dX9_mean_30 ⟨(cl, B 1, cy 1), trivial, (by rw [meanR, if_neg hb16]), (congrArg (fun z => (jn (hC g h0 ct cl rd z cy rw tl sp) X)) (putR_id (B := B) (w := 1)).symm).trans (congrArg (fun z => (jn (hC g h0 ct cl rd (putR B 1 (B 1)) z rw tl sp) X)) (va_up_id (f := cy) (k := 1)).symm), rfl⟩
    · replace hb16 := Decidable.not_not.mp hb16
      have hd9 := hb16
      obtain ⟨d, -, hd, rfl⟩ := InR_nat (a := 0) (b := 60) (by omega) (by omega) hb16
      have id9 := ix_k (k := d) (by omega)
      refine V.iload_n (q := 20) C dX9_mean_19 rfl rfl ?_
      refine V.iconst (q := 21) (v := nI 1) C dX9_mean_20 rfl (by decide) ?_
      refine V.callSi (q := 24) C me_X9_isOut c_isOut ml_X9_70 dX9_mean_21 rfl rfl rfl (Nat.le_of_ble_eq_true rfl) (by omega) (Nat.zero_le _) (Nat.zero_le _) ?_
      refine V.if_eqB (q := 27) (tgt := 31) C dX9_mean_24 rfl rfl (fun hb24 => ?_) (fun hb24 => ?_)
      · replace hb24 := Decidable.not_not.mp hb24
        obtain ⟨a9, ha9, es⟩ := hs d hd
        refine V.phE (fun q _ => congrFun (congrArg (fun z => (jn (hC g h0 ct cl rd z cy rw tl sp) X)) (putR_id (B := B) (w := 1)).symm) q) ?_
        refine V.phE (fun q _ => congrFun (congrArg (fun z => (jn (hC g h0 ct cl rd (putR B 1 (B 1)) z rw tl sp) X)) (va_up_id (f := cy) (k := 1)).symm) q) ?_
        refine V.aload_n (q := 32) C dX9_mean_31 rfl rfl ?_
        refine V.get (q := 35) C fl_X9_31 dX9_mean_32 rfl okC_0 rfl rfl ?_
        refine V.aload_n (q := 36) C dX9_mean_35 rfl rfl ?_
        refine V.get (q := 39) C fl_X9_27 dX9_mean_36 rfl okC_0 rfl rfl ?_
        refine V.callVxv (q := 42) C me_X8_become (c_begT hS hI hT hcy) ml_X9_178 dX9_mean_39 rfl (okC_6 (by omega)) ⟨_, rfl⟩ rfl rfl (Nat.le_of_ble_eq_true rfl) (by omega) (Nat.zero_le _) (Nat.zero_le _) (fun b1 hB1 => ?_)
        refine V.aload_n (q := 43) C dX9_mean_42 rfl rfl ?_
        refine V.get (q := 46) C fl_X9_31 dX9_mean_43 rfl okC_0 rfl rfl ?_
        refine V.iload_n (q := 47) C dX9_mean_46 rfl rfl ?_
        refine V.iconst (q := 48) (v := -1) C dX9_mean_47 rfl (by decide) ?_
        refine V.callVxv (q := 51) C me_X8_go (c_go1 hS hB1.1 hB1.2 (Who.all (fun _ => trivial)) hd) ml_X9_174 dX9_mean_48 rfl (okC_6 (by omega)) ⟨_, rfl⟩ rfl rfl (Nat.le_of_ble_eq_true rfl) (by omega) (Nat.zero_le _) (Nat.zero_le _) (fun z2 hz2 => ?_)
        refine V.aload_n (q := 52) C dX9_mean_51 rfl rfl ?_
        refine V.get (q := 55) C fl_X9_31 dX9_mean_52 rfl okC_0 rfl rfl ?_
        refine V.callVi (q := 58) C me_X8_coverOfAll (c_coverT (P := TT) (by omega) hz2.1 (fun _ => trivial) hz2.2.1) ml_X9_168 dX9_mean_55 rfl (okC_6 (by omega)) ⟨_, rfl⟩ rfl rfl (Nat.le_of_ble_eq_true rfl) (by omega) (Nat.zero_le _) (Nat.zero_le _) ?_
        refine V.topi (x1 := nI (a9)) es ?_
        refine V.aload_n (q := 59) C dX9_mean_58 rfl rfl ?_
        refine V.get (q := 62) C fl_X9_27 dX9_mean_59 rfl okC_0 rfl rfl ?_
        refine V.get (q := 65) C fl_X9_208 dX9_mean_62 rfl (okC_6 (by omega)) rfl rfl ?_
        refine V.topi (x1 := nI (n)) ((congrFun (putR_o (by omega)) 78).trans hI.1) ?_
        refine V.iload_n (q := 66) C dX9_mean_65 rfl rfl ?_
        refine V.callSl (q := 69) C me_X9_ofLowestTerms (c_low ha9 h6 (by omega)) ml_X9_214 dX9_mean_66 rfl rfl rfl (Nat.le_of_ble_eq_true rfl) (by omega) (Nat.zero_le _) (Nat.zero_le _) ?_
        exact V.lreturn C dX9_mean_69 ⟨(z2.1, z2.2, q), trivial, by rw [meanR, if_pos hd9, if_pos hb24, if_neg hz0, id9, es, ix_k (by omega)], rfl, rfl⟩
      · refine V.ldc2 (q := 30) (v := -9223372036854775808) C (tb_at 651 (by decide +kernel) rfl) dX9_mean_27 rfl ?_
        exact V.lreturn C dX9_mean_30 ⟨(cl, B 1, cy 1), trivial, (by rw [meanR, if_pos hd9, if_neg hb24]), (congrArg (fun z => (jn (hC g h0 ct cl rd z cy rw tl sp) X)) (putR_id (B := B) (w := 1)).symm).trans (congrArg (fun z => (jn (hC g h0 ct cl rd (putR B 1 (B 1)) z rw tl sp) X)) (va_up_id (f := cy) (k := 1)).symm), rfl⟩
theorem od_1 {rules sizes A : I1} {n m k p : Nat} (hn : n ≤ 6) (hp : p < n) (hk : k ≤ 60) : onR rules sizes A n m (nI k) (nI (30 + p)) = dsA rules sizes m k A (9 * p + 4) := by
  rw [show 30 + p = 10 * 3 + p by omega, on_v hn hp (by omega) (by omega), onV, if_pos (InR_of (by omega) (by omega) hk (by omega)), ix_k (by omega)]
theorem od_le {rules sizes A : I1} {n m s p : Nat} {k : Int32} : ∀ j, odC rules sizes A n m s p k j ≤ j := by
  intro j
  induction j with
  | zero => exact Nat.le_refl 0
  | succ j ih =>
    show odC rules sizes A n m s p k j + (if _ then 0 else 1) ≤ j + 1
    split <;> omega
theorem c_od_l {l : Launch} {g : GG} {X : PHp} {h0 : HZ} {ct : CTt} {rd : RDt} {B : I2} {cy : Nat → Nat} {rw : RWt} {tl : TLt} {sp : SPt} {rules sizes A : I1} {n m r q : Nat} {Γ : Cxt} {Q : State → Prop} (hS : SH ct rules sizes A n m r q) (hI : CI (B 0) n m) (hT : TR TT (B 0) A n m) (hcy : cy 0 = q) {s p k : Nat} {pt : Int32} (hs : s < m) (hp : p < n) (hk : k ≤ 60) (C : Cx Γ g cX9_odds yX9_odds 7 (some .long) 24 0 0) (kx : ∀ (cl : I2) (b : I1) (c : Nat), V l Γ g 7 Q 0 0 NN (jn (hC g h0 ct cl rd (putR B 1 b) (va_up cy 1 c) rw tl sp) X) 113 [some (rf g (0, 0, 0)), some (.int (nI s)), some (.int (nI p)), some (.int (nI k)), some (.int pt), some (.int (nI (odC rules sizes A n m s p (nI k) n))), some (.int (nI n))] []) : ∀ (f j : Nat) (cl : I2) (b : I1) (c : Nat), j + f = n → V l Γ g 7 Q 0 0 NN (jn (hC g h0 ct cl rd (putR B 1 b) (va_up cy 1 c) rw tl sp) X) 50 [some (rf g (0, 0, 0)), some (.int (nI s)), some (.int (nI p)), some (.int (nI k)), some (.int pt), some (.int (nI (odC rules sizes A n m s p (nI k) j))), some (.int (nI j))] [] := by
  have h6 := hI.2.1
  have h8 := hI.2.2.2
  have e78 : ∀ b, (putR B 1 b) 0 78 = nI n := fun b => (congrFun (putR_o (by omega)) 78).trans hI.1
  intro f
  induction f with
  | zero =>
    intro j cl b c hj
    obtain rfl : j = n := by omega
    refine V.iload (q := 52) C dX9_odds_50 rfl rfl ?_
    refine V.aload_n (q := 53) C dX9_odds_52 rfl rfl ?_
    refine V.get (q := 56) C fl_X9_27 dX9_odds_53 rfl okC_0 rfl rfl ?_
    refine V.get (q := 59) C fl_X9_208 dX9_odds_56 rfl (okC_6 (by omega)) rfl rfl ?_
    refine V.topi (x1 := nI (j)) (e78 _) ?_
    refine V.icmp_ge (q := 62) (tgt := 113) C dX9_odds_59 rfl rfl (fun hb59 => ?_) (fun hb59 => ?_)
    · exact kx cl b c
    · exact absurd (Int32.le_refl _) hb59
  | succ f ih =>
    intro j cl b c hj
    have hol := od_le (rules := rules) (sizes := sizes) (A := A) (n := n) (m := m) (s := s) (p := p) (k := nI k) j
    refine V.iload (q := 52) C dX9_odds_50 rfl rfl ?_
    refine V.aload_n (q := 53) C dX9_odds_52 rfl rfl ?_
    refine V.get (q := 56) C fl_X9_27 dX9_odds_53 rfl okC_0 rfl rfl ?_
    refine V.get (q := 59) C fl_X9_208 dX9_odds_56 rfl (okC_6 (by omega)) rfl rfl ?_
    refine V.topi (x1 := nI (n)) (e78 _) ?_
    refine V.icmp_ge (q := 62) (tgt := 113) C dX9_odds_59 rfl rfl (fun hb59 => ?_) (fun hb59 => ?_)
    · exact absurd ((nI_leI (by omega) (by omega)).mp hb59) (by omega)
    · refine V.aload_n (q := 63) C dX9_odds_62 rfl rfl ?_
      refine V.get (q := 66) C fl_X9_31 dX9_odds_63 rfl okC_0 rfl rfl ?_
      refine V.aload_n (q := 67) C dX9_odds_66 rfl rfl ?_
      refine V.get (q := 70) C fl_X9_27 dX9_odds_67 rfl okC_0 rfl rfl ?_
      refine V.callVxv (q := 73) C me_X8_become (c_begT hS hI hT hcy) ml_X9_178 dX9_odds_70 rfl (okC_6 (by omega)) ⟨_, rfl⟩ rfl rfl (Nat.le_of_ble_eq_true rfl) (by omega) (Nat.zero_le _) (Nat.zero_le _) (fun b1 hB1 => ?_)
      refine V.aload_n (q := 74) C dX9_odds_73 rfl rfl ?_
      refine V.get (q := 77) C fl_X9_31 dX9_odds_74 rfl okC_0 rfl rfl ?_
      refine V.get (q := 80) C fl_X9_122 dX9_odds_77 rfl (okC_6 (by omega)) rfl rfl ?_
      refine V.iload_n (q := 81) C dX9_odds_80 rfl rfl ?_
      refine V.rld (q := 82) (i := s) C rfl dX9_odds_81 rfl (okC_8 (by omega)) rfl rfl (by omega) (by decide) ?_
      refine V.iload (q := 84) C dX9_odds_82 rfl rfl ?_
      refine V.put (q := 87) C fl_X9_134 rfl dX9_odds_84 rfl (okC_11 (by omega) (by omega)) rfl (Nat.le_of_ble_eq_true rfl) rfl rfl rfl ?_
      refine V.phE (uC_11_2 (by omega)) ?_
      rw [set1]
      refine V.aload_n (q := 88) C dX9_odds_87 rfl rfl ?_
      refine V.get (q := 91) C fl_X9_31 dX9_odds_88 rfl okC_0 rfl rfl ?_
      refine V.iload_n (q := 92) C dX9_odds_91 rfl rfl ?_
      refine V.iload_n (q := 93) C dX9_odds_92 rfl rfl ?_
      refine V.callVxv (q := 96) C me_X8_go (c_go1 (hS.aim (s := s) (i := j) (by omega) (by omega)) ((hB1.1.aim (s := s) (by omega) h6 (show j < 6 by omega)).mono (Q := fun i => i = p) (fun _ _ => trivial)) (hB1.2.up1 (by omega)) (Who.one (by omega)) hk) ml_X9_174 dX9_odds_93 rfl (okC_6 (by omega)) ⟨_, rfl⟩ rfl rfl (Nat.le_of_ble_eq_true rfl) (by omega) (Nat.zero_le _) (Nat.zero_le _) (fun z2 hz2 => ?_)
      refine V.aload_n (q := 97) C dX9_odds_96 rfl rfl ?_
      refine V.iload_n (q := 98) C dX9_odds_97 rfl rfl ?_
      refine V.callVi (q := 101) C me_X9_isMoreHurt (c_more hz2.1 hT hp h6 rfl) ml_X9_211 dX9_odds_98 rfl okC_0 ⟨_, rfl⟩ rfl rfl (Nat.le_of_ble_eq_true rfl) (by omega) (Nat.zero_le _) (Nat.zero_le _) ?_
      refine V.if_eqB (q := 104) (tgt := 107) C dX9_odds_101 rfl rfl (fun hb101 => ?_) (fun hb101 => ?_)
      · have h9 := Decidable.not_not.mp hb101
        refine V.iinc (q := 110) (v := nI (j + 1)) C dX9_odds_107 rfl rfl (nI_1 _) (by decide) rfl rfl ?_
        refine V.goto (tgt := 50) C dX9_odds_110 rfl ?_
        have e9 : (odC rules sizes A n m s p (nI k) (j + 1)) = (odC rules sizes A n m s p (nI k) j) + 0 := by
          show (odC rules sizes A n m s p (nI k) j) + (if _ then 0 else 1) = _
          rw [od_1 h6 hp hk, if_pos h9]
        have h8 := fun cl b c => ih (j + 1) cl b c (by omega)
        rw [e9] at h8
        exact h8 _ _ _
      · have h9 := hb101
        refine V.iinc (q := 107) (v := nI ((odC rules sizes A n m s p (nI k) j) + 1)) C dX9_odds_104 rfl rfl (nI_1 _) (by decide) rfl rfl ?_
        refine V.iinc (q := 110) (v := nI (j + 1)) C dX9_odds_107 rfl rfl (nI_1 _) (by decide) rfl rfl ?_
        refine V.goto (tgt := 50) C dX9_odds_110 rfl ?_
        have e9 : (odC rules sizes A n m s p (nI k) (j + 1)) = (odC rules sizes A n m s p (nI k) j) + 1 := by
          show (odC rules sizes A n m s p (nI k) j) + (if _ then 0 else 1) = _
          rw [od_1 h6 hp hk, if_neg h9]
        have h8 := fun cl b c => ih (j + 1) cl b c (by omega)
        rw [e9] at h8
        exact h8 _ _ _
theorem c_odds {l : Launch} {g : GG} {X : PHp} {h0 : HZ} {ct : CTt} {cl : I2} {rd : RDt} {B : I2} {cy : Nat → Nat} {rw : RWt} {tl : TLt} {sp : SPt} {rules sizes A : I1} {n m r q : Nat} (hS : SH ct rules sizes A n m r q) (hI : CI (B 0) n m) (hT : TR TT (B 0) A n m) (hcy : cy 0 = q) {s p k pt : Int32} : Ct l g yX9_odds cX9_odds 7 (some .long) 24 0 0 [rf g (0, 0, 0), .int s, .int p, .int k, .int pt] NN (jn (hC g h0 ct cl rd B cy rw tl sp) X) (xL (fun _ : I2 × I1 × Nat => True) (fun _ => oddsR rules sizes A n m s p k pt) (fun z => (jn (hC g h0 ct z.1 rd (putR B 1 z.2.1) (va_up cy 1 z.2.2) rw tl sp) X))) := by
  refine Ct.of (lv := [some (rf g (0, 0, 0)), some (.int s), some (.int p), some (.int k), some (.int pt), none, none]) (by decide +kernel) rfl (Nat.le_of_ble_eq_true rfl) ?_
  intro Γ C
  have h6 := hI.2.1
  have h8 := hI.2.2.2
  refine V.aload_n (q := 1) C dX9_odds_0 rfl rfl ?_
  refine V.get (q := 4) C fl_X9_27 dX9_odds_1 rfl okC_0 rfl rfl ?_
  refine V.iload_n (q := 5) C dX9_odds_4 rfl rfl ?_
  refine V.callVi (q := 8) C me_X8_hasSaying (c_hasSaying (by omega) hI) ml_X9_111 dX9_odds_5 rfl (okC_6 (by omega)) ⟨_, rfl⟩ rfl rfl (Nat.le_of_ble_eq_true rfl) (by omega) (Nat.zero_le _) (Nat.zero_le _) ?_
  refine V.if_eqB (q := 11) (tgt := 40) C dX9_odds_8 rfl rfl (fun hb8 => ?_) (fun hb8 => ?_)
  · refine V.ldc2 (q := 43) (v := -9223372036854775808) C (tb_at 651 (by decide +kernel) rfl) dX9_odds_40 rfl ?_
    exact V.lreturn C dX9_odds_43 ⟨(cl, B 1, cy 1), trivial, (by rw [oddsR, if_neg hb8]), (congrArg (fun z => (jn (hC g h0 ct cl rd z cy rw tl sp) X)) (putR_id (B := B) (w := 1)).symm).trans (congrArg (fun z => (jn (hC g h0 ct cl rd (putR B 1 (B 1)) z rw tl sp) X)) (va_up_id (f := cy) (k := 1)).symm), rfl⟩
  · have s9 := hb8
    obtain ⟨s1, hs1, rfl⟩ := InN_nat (by omega) hb8
    have is9 := ix_k (k := s1) (by omega)
    refine V.aload_n (q := 12) C dX9_odds_11 rfl rfl ?_
    refine V.get (q := 15) C fl_X9_27 dX9_odds_12 rfl okC_0 rfl rfl ?_
    refine V.iload_n (q := 16) C dX9_odds_15 rfl rfl ?_
    refine V.callVi (q := 19) C me_X8_hasWearer (c_hasWearer (by omega) hI) ml_X9_78 dX9_odds_16 rfl (okC_6 (by omega)) ⟨_, rfl⟩ rfl rfl (Nat.le_of_ble_eq_true rfl) (by omega) (Nat.zero_le _) (Nat.zero_le _) ?_
    refine V.if_eqB (q := 22) (tgt := 40) C dX9_odds_19 rfl rfl (fun hb19 => ?_) (fun hb19 => ?_)
    · refine V.ldc2 (q := 43) (v := -9223372036854775808) C (tb_at 651 (by decide +kernel) rfl) dX9_odds_40 rfl ?_
      exact V.lreturn C dX9_odds_43 ⟨(cl, B 1, cy 1), trivial, (by rw [oddsR, if_pos s9, if_neg hb19]), (congrArg (fun z => (jn (hC g h0 ct cl rd z cy rw tl sp) X)) (putR_id (B := B) (w := 1)).symm).trans (congrArg (fun z => (jn (hC g h0 ct cl rd (putR B 1 (B 1)) z rw tl sp) X)) (va_up_id (f := cy) (k := 1)).symm), rfl⟩
    · have p9 := hb19
      obtain ⟨p1, hp1, rfl⟩ := InN_nat (by omega) hb19
      have ip9 := ix_k (k := p1) (by omega)
      refine V.iload_n (q := 23) C dX9_odds_22 rfl rfl ?_
      refine V.bipush (q := 25) (v := nI 20) C dX9_odds_23 rfl (by decide) ?_
      refine V.callSi (q := 28) C me_X9_isOut c_isOut ml_X9_70 dX9_odds_25 rfl rfl rfl (Nat.le_of_ble_eq_true rfl) (by omega) (Nat.zero_le _) (Nat.zero_le _) ?_
      refine V.if_neB (q := 31) (tgt := 40) C dX9_odds_28 rfl rfl (fun hb28 => ?_) (fun hb28 => ?_)
      · refine V.ldc2 (q := 43) (v := -9223372036854775808) C (tb_at 651 (by decide +kernel) rfl) dX9_odds_40 rfl ?_
        exact V.lreturn C dX9_odds_43 ⟨(cl, B 1, cy 1), trivial, (by rw [oddsR, if_pos s9, if_pos p9, if_neg hb28]), (congrArg (fun z => (jn (hC g h0 ct cl rd z cy rw tl sp) X)) (putR_id (B := B) (w := 1)).symm).trans (congrArg (fun z => (jn (hC g h0 ct cl rd (putR B 1 (B 1)) z rw tl sp) X)) (va_up_id (f := cy) (k := 1)).symm), rfl⟩
      · replace hb28 := Decidable.not_not.mp hb28
        have hd9 := hb28
        obtain ⟨d, -, hd, rfl⟩ := InR_nat (a := 0) (b := 20) (by omega) (by omega) hb28
        refine V.iload (q := 33) C dX9_odds_31 rfl rfl ?_
        refine V.iconst (q := 34) (v := nI 1) C dX9_odds_33 rfl (by decide) ?_
        refine V.callSi (q := 37) C me_X9_isOut c_isOut ml_X9_70 dX9_odds_34 rfl rfl rfl (Nat.le_of_ble_eq_true rfl) (by omega) (Nat.zero_le _) (Nat.zero_le _) ?_
        refine V.if_eqB (q := 40) (tgt := 44) C dX9_odds_37 rfl rfl (fun hb37 => ?_) (fun hb37 => ?_)
        · replace hb37 := Decidable.not_not.mp hb37
          refine V.phE (fun q _ => congrFun (congrArg (fun z => (jn (hC g h0 ct cl rd z cy rw tl sp) X)) (putR_id (B := B) (w := 1)).symm) q) ?_
          refine V.phE (fun q _ => congrFun (congrArg (fun z => (jn (hC g h0 ct cl rd (putR B 1 (B 1)) z rw tl sp) X)) (va_up_id (f := cy) (k := 1)).symm) q) ?_
          refine V.iconst (q := 45) (v := nI 0) C dX9_odds_44 rfl (by decide) ?_
          refine V.istore (q := 47) C dX9_odds_45 rfl (by decide) rfl rfl ?_
          refine V.iconst (q := 48) (v := nI 0) C dX9_odds_47 rfl (by decide) ?_
          refine V.istore (q := 50) C dX9_odds_48 rfl (by decide) rfl rfl ?_
          refine c_od_l hS hI hT hcy (pt := pt) hs1 hp1 (by omega) C (fun cl9 b9 c9 => ?_) n 0 cl _ _ (by omega)
          refine V.iload (q := 115) C dX9_odds_113 rfl rfl ?_
          refine V.aload_n (q := 116) C dX9_odds_115 rfl rfl ?_
          refine V.get (q := 119) C fl_X9_27 dX9_odds_116 rfl okC_0 rfl rfl ?_
          refine V.get (q := 122) C fl_X9_208 dX9_odds_119 rfl (okC_6 (by omega)) rfl rfl ?_
          refine V.topi (x1 := nI (n)) ((congrFun (putR_o (by omega)) 78).trans hI.1) ?_
          refine V.iload (q := 124) C dX9_odds_122 rfl rfl ?_
          refine V.callSl (q := 127) C me_X9_ofLowestTerms (c_low (by have := od_le (rules := rules) (sizes := sizes) (A := A) (n := n) (m := m) (s := s1) (p := p1) (k := nI d) n; omega) h6 (by omega)) ml_X9_214 dX9_odds_124 rfl rfl rfl (Nat.le_of_ble_eq_true rfl) (by omega) (Nat.zero_le _) (Nat.zero_le _) ?_
          exact V.lreturn C dX9_odds_127 ⟨(cl9, b9, c9), trivial, by rw [oddsR, if_pos s9, if_pos p9, if_pos hd9, if_pos hb37, is9, ip9], rfl, rfl⟩
        · refine V.ldc2 (q := 43) (v := -9223372036854775808) C (tb_at 651 (by decide +kernel) rfl) dX9_odds_40 rfl ?_
          exact V.lreturn C dX9_odds_43 ⟨(cl, B 1, cy 1), trivial, (by rw [oddsR, if_pos s9, if_pos p9, if_pos hd9, if_neg hb37]), (congrArg (fun z => (jn (hC g h0 ct cl rd z cy rw tl sp) X)) (putR_id (B := B) (w := 1)).symm).trans (congrArg (fun z => (jn (hC g h0 ct cl rd (putR B 1 (B 1)) z rw tl sp) X)) (va_up_id (f := cy) (k := 1)).symm), rfl⟩
theorem TR.rest {P : Nat → Prop} {b A : I1} {n m s : Nat} (h : TR P b A n m) (hs : s < 8) (hn : n ≤ 6) : TR P (upd b (54 + 3 * s + 2) (-5)) (upd A (54 + 3 * s + 2) (-1)) n m := by
  refine ⟨fun j hj hP c hc => ?_, fun t ht => ?_, ?_⟩
  · simp only [upd]
    rw [if_neg (by omega), if_neg (by omega)]
    exact h.1 j hj hP c hc
  · simp only [upd]
    have h1 := h.2.1 t ht
    rw [if_neg (by omega), if_neg (by omega), if_neg (by omega), if_neg (by omega)]
    refine ⟨h1.1, h1.2.1, ?_⟩
    by_cases e : t = s
    · subst e
      rw [if_pos rfl, if_pos rfl]
      rfl
    · rw [if_neg (by omega), if_neg (by omega)]
      exact h1.2.2
  · simp only [upd]
    rw [if_neg (by omega), if_neg (by omega)]
    exact h.2.2
theorem SH.rest {ct : CTt} {rules sizes A : I1} {n m r q s : Nat} (h : SH ct rules sizes A n m r q) (hs : s < 8) : SH ct rules sizes (upd A (54 + 3 * s + 2) (-1)) n m r q := by
  obtain ⟨⟨w1, w2, w3, w4, w5, w6⟩, h2, h3, h4⟩ := h
  have ho : ∀ k, k ≠ 54 + 3 * s + 2 → upd A (54 + 3 * s + 2) (-1) k = A k := fun k hk => if_neg hk
  refine ⟨⟨(ho 78 (by omega)).trans w1, w2, (ho 79 (by omega)).trans w3, w4, fun t ht => by rw [ho _ (by omega)]; exact w5 t ht, fun t ht => ?_⟩, fun t ht => by rw [ho _ (by omega)]; exact h2 t ht, (ho 81 (by omega)).trans h3, h4⟩
  by_cases e : t = s
  · subst e
    exact Or.inl (if_pos rfl)
  · rw [ho _ (by omega)]
    exact w6 t ht
/-- one row of a plan -/
def PlO (n m : Nat) (a x : Int32) : Prop := a = 0 ∨ ((a = nI 1 ∨ a = nI 3) ∧ ∃ i, i < n ∧ x = nI i) ∨ (a = nI 2 ∧ ∃ s, s < m ∧ x = nI s)
def plS (rules sizes : I1) (m : Nat) (a x : Int32) (D : I1) : I1 := if a = 0 then dyA rules sizes m D else if a = nI 1 then upd D (9 * ix x + 2) (nI 99) else if a = nI 2 then upd D (54 + 3 * ix x + 2) (-1) else upd D (9 * ix x + 4) (nI 0)
theorem c_follow {l : Launch} {g : GG} {X : PHp} {h0 : HZ} {ct : CTt} {cl : I2} {rd : RDt} {B : I2} {cy : Nat → Nat} {rw : RWt} {tl : TLt} {sp : SPt} {rules sizes D : I1} {n m r q : Nat} (hS : SH ct rules sizes D n m r q) {b : I1} (hT : TR TT b D n m) (hI : CI b n m) {a x : Int32} (hp : PlO n m a x) : Ct l g yX9_followPlan cX9_followPlan 3 none 6 0 0 [rf g (0, 0, 0), .int a, .int x] NN (jn (hC g h0 ct cl rd (putR B 1 b) (va_up cy 1 q) rw tl sp) X) (xV (fun z : I2 × I1 => TR TT z.2 (plS rules sizes m a x D) n m ∧ CI z.2 n m ∧ SH ct rules sizes (plS rules sizes m a x D) n m r q) (fun z => (jn (hC g h0 ct z.1 rd (putR B 1 z.2) (va_up cy 1 q) rw tl sp) X))) := by
  refine Ct.of (lv := [some (rf g (0, 0, 0)), some (.int a), some (.int x)]) (by decide +kernel) rfl (Nat.le_of_ble_eq_true rfl) ?_
  intro Γ C
  have h6 := hI.2.1
  have h8 := hI.2.2.2
  refine V.iload_n (q := 1) C dX9_followPlan_0 rfl rfl ?_
  refine V.tsw (lo := 0) (N := 3) (tgt := 74) C dX9_followPlan_1 (by decide) (by decide) rfl (fun k hk hx1 => ?_) (fun hx1 => ?_)
  · obtain rfl | rfl | rfl := (show k = 0 ∨ k = 1 ∨ k = 2 by omega)
    · refine ⟨_, 28, rfl, rfl, ?_⟩
      replace hx1 : _ = nI 0 := hx1
      have ea : a = 0 := hx1
      have eP : plS rules sizes m a x D = dsA rules sizes m 1 D := if_pos ea
      refine V.aload_n (q := 29) C dX9_followPlan_28 rfl rfl ?_
      refine V.get (q := 32) C fl_X9_31 dX9_followPlan_29 rfl okC_0 rfl rfl ?_
      refine V.iconst (q := 33) (v := nI 1) C dX9_followPlan_32 rfl (by decide) ?_
      refine V.iconst (q := 34) (v := -1) C dX9_followPlan_33 rfl (by decide) ?_
      refine V.callVxv (q := 37) C me_X8_go (c_go1 hS hT hI (Who.all (fun _ => trivial)) (by omega)) ml_X9_174 dX9_followPlan_34 rfl (okC_6 (by omega)) ⟨_, rfl⟩ rfl rfl (Nat.le_of_ble_eq_true rfl) (by omega) (Nat.zero_le _) (Nat.zero_le _) (fun z2 hz2 => ?_)
      refine V.goto (tgt := 87) C dX9_followPlan_37 rfl ?_
      exact V.vreturn C dX9_followPlan_87 ⟨z2, (by rw [eP]; exact ⟨hz2.1, hz2.2.1, SH.ds (k := 1) hS⟩), rfl, rfl, rfl⟩
    · refine ⟨_, 40, rfl, rfl, ?_⟩
      replace hx1 : _ = nI 1 := hx1
      have ea : a = nI 1 := hx1
      obtain ⟨i, hi, rfl⟩ : ∃ i, i < n ∧ x = nI i := by
        rcases hp with e | ⟨e, h⟩ | ⟨e, -⟩
        · exact absurd (ea.symm.trans e) (by decide)
        · exact h
        · exact absurd (ea.symm.trans e) (by decide)
      have eP : plS rules sizes m a (nI i) D = upd D (9 * i + 2) (nI 99) := by rw [plS, if_neg (by rw [ea]; decide), if_pos ea, ix_k (by omega)]
      refine V.aload_n (q := 41) C dX9_followPlan_40 rfl rfl ?_
      refine V.get (q := 44) C fl_X9_31 dX9_followPlan_41 rfl okC_0 rfl rfl ?_
      refine V.get (q := 47) C fl_X9_82 dX9_followPlan_44 rfl (okC_6 (by omega)) rfl rfl ?_
      refine V.iload_n (q := 48) C dX9_followPlan_47 rfl rfl ?_
      refine V.rld (q := 49) (i := i) C rfl dX9_followPlan_48 rfl (okC_7 (by omega)) rfl rfl (by omega) (by decide) ?_
      refine V.bipush (q := 51) (v := nI 99) C dX9_followPlan_49 rfl (by decide) ?_
      refine V.put (q := 54) C fl_X9_94 rfl dX9_followPlan_51 rfl (okC_9 (by omega) (by omega)) rfl (Nat.le_of_ble_eq_true rfl) rfl rfl rfl ?_
      refine V.phE (uC_9_4 (by omega)) ?_
      refine V.goto (tgt := 87) C dX9_followPlan_54 rfl ?_
      exact V.vreturn C dX9_followPlan_87 ⟨(cl, upd b (9 * i + 2) (nI 99)), (by rw [eP]; exact ⟨hT.up1 (by omega) h8, hI.up1 (by omega), hS.lo2 (by omega)⟩), rfl, (by rw [set1]), rfl⟩
    · refine ⟨_, 57, rfl, rfl, ?_⟩
      replace hx1 : _ = nI 2 := hx1
      have ea : a = nI 2 := hx1
      obtain ⟨s, hs, rfl⟩ : ∃ s, s < m ∧ x = nI s := by
        rcases hp with e | ⟨e, -⟩ | ⟨e, h⟩
        · exact absurd (ea.symm.trans e) (by decide)
        · rcases e with e | e <;> exact absurd (ea.symm.trans e) (by decide)
        · exact h
      have eP : plS rules sizes m a (nI s) D = upd D (54 + 3 * s + 2) (-1) := by rw [plS, if_neg (by rw [ea]; decide), if_neg (by rw [ea]; decide), if_pos ea, ix_k (by omega)]
      refine V.aload_n (q := 58) C dX9_followPlan_57 rfl rfl ?_
      refine V.get (q := 61) C fl_X9_31 dX9_followPlan_58 rfl okC_0 rfl rfl ?_
      refine V.get (q := 64) C fl_X9_122 dX9_followPlan_61 rfl (okC_6 (by omega)) rfl rfl ?_
      refine V.iload_n (q := 65) C dX9_followPlan_64 rfl rfl ?_
      refine V.rld (q := 66) (i := s) C rfl dX9_followPlan_65 rfl (okC_8 (by omega)) rfl rfl (by omega) (by decide) ?_
      refine V.bipush (q := 68) (v := -5) C dX9_followPlan_66 rfl (by decide) ?_
      refine V.put (q := 71) C fl_X9_134 rfl dX9_followPlan_68 rfl (okC_11 (by omega) (by omega)) rfl (Nat.le_of_ble_eq_true rfl) rfl rfl rfl ?_
      refine V.phE (uC_11_2 (by omega)) ?_
      refine V.goto (tgt := 87) C dX9_followPlan_71 rfl ?_
      exact V.vreturn C dX9_followPlan_87 ⟨(cl, upd b (54 + 3 * s + 2) (-5)), (by rw [eP]; exact ⟨hT.rest (by omega) h6, hI.up1 (by omega), hS.rest (by omega)⟩), rfl, (by rw [set1]), rfl⟩
  · have ea : a = nI 3 ∧ ∃ i, i < n ∧ x = nI i := by
      rcases hp with e | ⟨e, h⟩ | ⟨e, -⟩
      · exact absurd e (hx1 0 (by omega))
      · exact ⟨e.elim (fun e => absurd e (hx1 1 (by omega))) id, h⟩
      · exact absurd e (hx1 2 (by omega))
    obtain ⟨ea, i, hi, rfl⟩ := ea
    have eP : plS rules sizes m a (nI i) D = upd D (9 * i + 4) (nI 0) := by rw [plS, if_neg (by rw [ea]; decide), if_neg (by rw [ea]; decide), if_neg (by rw [ea]; decide), ix_k (by omega)]
    refine V.aload_n (q := 75) C dX9_followPlan_74 rfl rfl ?_
    refine V.get (q := 78) C fl_X9_31 dX9_followPlan_75 rfl okC_0 rfl rfl ?_
    refine V.get (q := 81) C fl_X9_82 dX9_followPlan_78 rfl (okC_6 (by omega)) rfl rfl ?_
    refine V.iload_n (q := 82) C dX9_followPlan_81 rfl rfl ?_
    refine V.rld (q := 83) (i := i) C rfl dX9_followPlan_82 rfl (okC_7 (by omega)) rfl rfl (by omega) (by decide) ?_
    refine V.iconst (q := 84) (v := nI 0) C dX9_followPlan_83 rfl (by decide) ?_
    refine V.put (q := 87) C fl_X9_100 rfl dX9_followPlan_84 rfl (okC_9 (by omega) (by omega)) rfl (Nat.le_of_ble_eq_true rfl) rfl rfl rfl ?_
    refine V.phE (uC_9_6 (by omega)) ?_
    exact V.vreturn C dX9_followPlan_87 ⟨(cl, upd b (9 * i + 4) (nI 0)), (by rw [eP]; exact ⟨hT.up1 (by omega) h8, hI.up1 (by omega), hS.lo2 (by omega)⟩), rfl, (by rw [set1]), rfl⟩
theorem en_hi {ct : CTt} {rules sizes A : I1} {n m r q c : Nat} (hS : SH ct rules sizes A n m r q) (hP : PlI A n m c) : ∀ j, j ≤ c → SH ct rules sizes (enA rules sizes m j A) n m r q ∧ ∀ k, 81 ≤ k → (enA rules sizes m j A) k = A k := by
  have h6 := hS.1.2.1
  have h8 := hS.1.2.2.2.1
  intro j
  induction j with
  | zero => intro _; exact ⟨hS, fun _ _ => rfl⟩
  | succ j ih =>
    intro hj
    obtain ⟨h1, h2⟩ := ih (by omega)
    have e : (enA rules sizes m (j + 1) A) = enS rules sizes m j (enA rules sizes m j A) := rfl
    have e1 := h2 (115 + 2 * j) (by omega)
    have e2 := h2 (116 + 2 * j) (by omega)
    rw [e]
    unfold enS
    rw [e1, e2]
    rcases hP.2.2 j (by omega) with z | ⟨z, i, hi, ei⟩ | ⟨z, s, hs, es⟩
    · rw [if_pos z]
      exact ⟨SH.ds (k := 1) h1, fun k hk => (dyA_hi h1.1 (by omega) (by omega)).trans (h2 k hk)⟩
    · rw [ei, ix_k (by omega)]
      rcases z with z | z
      · rw [if_neg (by rw [z]; decide), if_pos z]
        exact ⟨h1.lo2 (by omega), fun k hk => (if_neg (by omega)).trans (h2 k hk)⟩
      · rw [if_neg (by rw [z]; decide), if_neg (by rw [z]; decide), if_neg (by rw [z]; decide)]
        exact ⟨h1.lo2 (by omega), fun k hk => (if_neg (by omega)).trans (h2 k hk)⟩
    · rw [es, ix_k (by omega), if_neg (by rw [z]; decide), if_neg (by rw [z]; decide), if_pos z]
      exact ⟨h1.rest (by omega), fun k hk => (if_neg (by omega)).trans (h2 k hk)⟩
theorem c_en_l {l : Launch} {g : GG} {X : PHp} {h0 : HZ} {ct : CTt} {rd : RDt} {B : I2} {cy : Nat → Nat} {rw : RWt} {tl : TLt} {sp : SPt} {rules sizes A : I1} {n m r q : Nat} {Γ : Cxt} {Q : State → Prop} (hS : SH ct rules sizes A n m r q) (hI : CI (B 0) n m) (hT : TR TT (B 0) A n m) (hcy : cy 0 = q) {c : Nat} (hP : PlI A n m c) (hk : rw.2.2.2 0 2 = nI c) (hb : ∀ i, i < c → rw.2.1 0 2 i = A (115 + 2 * i) ∧ rw.1 0 2 i = A (116 + 2 * i)) {x : Int32} (C : Cx Γ g cX9_ends yX9_ends 3 (some .int) 24 0 0) (kx : ∀ (cl : I2) (b : I1), TR TT b (enA rules sizes m c A) n m → CI b n m → V l Γ g 3 Q 0 0 NN (jn (hC g h0 ct cl rd (putR B 1 b) (va_up cy 1 q) rw tl sp) X) 71 [some (rf g (0, 0, 0)), some (.int x), some (.int (nI c))] []) : ∀ (f j : Nat) (cl : I2) (b : I1), j + f = c → TR TT b (enA rules sizes m j A) n m → CI b n m → V l Γ g 3 Q 0 0 NN (jn (hC g h0 ct cl rd (putR B 1 b) (va_up cy 1 q) rw tl sp) X) 23 [some (rf g (0, 0, 0)), some (.int x), some (.int (nI j))] [] := by
  have h6 := hI.2.1
  have h8 := hI.2.2.2
  have hc := hP.2.1
  have hz := rwN_le 2
  intro f
  induction f with
  | zero =>
    intro j cl b hj hb1 hbI
    obtain rfl : j = c := by omega
    refine V.iload_n (q := 24) C dX9_ends_23 rfl rfl ?_
    refine V.aload_n (q := 25) C dX9_ends_24 rfl rfl ?_
    refine V.get (q := 28) C fl_X9_40 dX9_ends_25 rfl okC_0 rfl rfl ?_
    refine V.get (q := 31) C fl_X9_218 dX9_ends_28 rfl (okC_12 (by omega)) rfl rfl ?_
    refine V.get (q := 34) C fl_X9_221 dX9_ends_31 rfl (okC_13 (by omega) (by omega)) rfl rfl ?_
    refine V.topi (x1 := nI (j)) hk ?_
    refine V.icmp_ge (q := 37) (tgt := 71) C dX9_ends_34 rfl rfl (fun hb34 => ?_) (fun hb34 => ?_)
    · exact kx cl b hb1 hbI
    · exact absurd (Int32.le_refl _) hb34
  | succ f ih =>
    intro j cl b hj hb1 hbI
    obtain ⟨r1, r2⟩ := hb j (by omega)
    have hr8 : j < rwN 2 := by rw [rw10]; omega
    obtain ⟨n1, n2⟩ := en_hi hS hP j (by omega)
    refine V.iload_n (q := 24) C dX9_ends_23 rfl rfl ?_
    refine V.aload_n (q := 25) C dX9_ends_24 rfl rfl ?_
    refine V.get (q := 28) C fl_X9_40 dX9_ends_25 rfl okC_0 rfl rfl ?_
    refine V.get (q := 31) C fl_X9_218 dX9_ends_28 rfl (okC_12 (by omega)) rfl rfl ?_
    refine V.get (q := 34) C fl_X9_221 dX9_ends_31 rfl (okC_13 (by omega) (by omega)) rfl rfl ?_
    refine V.topi (x1 := nI (c)) hk ?_
    refine V.icmp_ge (q := 37) (tgt := 71) C dX9_ends_34 rfl rfl (fun hb34 => ?_) (fun hb34 => ?_)
    · exact absurd ((nI_leI (by omega) (by omega)).mp hb34) (by omega)
    · refine V.aload_n (q := 38) C dX9_ends_37 rfl rfl ?_
      refine V.aload_n (q := 39) C dX9_ends_38 rfl rfl ?_
      refine V.get (q := 42) C fl_X9_40 dX9_ends_39 rfl okC_0 rfl rfl ?_
      refine V.get (q := 45) C fl_X9_218 dX9_ends_42 rfl (okC_12 (by omega)) rfl rfl ?_
      refine V.get (q := 48) C fl_X9_224 dX9_ends_45 rfl (okC_13 (by omega) (by omega)) rfl rfl ?_
      refine V.iload_n (q := 49) C dX9_ends_48 rfl rfl ?_
      refine V.ild (q := 50) (i := j) C dX9_ends_49 rfl (okC_15 (by omega) (by omega)) rfl rfl hr8 (by omega) ?_
      refine V.topi (x1 := A (115 + 2 * j)) r1 ?_
      refine V.aload_n (q := 51) C dX9_ends_50 rfl rfl ?_
      refine V.get (q := 54) C fl_X9_40 dX9_ends_51 rfl okC_0 rfl rfl ?_
      refine V.get (q := 57) C fl_X9_218 dX9_ends_54 rfl (okC_12 (by omega)) rfl rfl ?_
      refine V.get (q := 60) C fl_X9_227 dX9_ends_57 rfl (okC_13 (by omega) (by omega)) rfl rfl ?_
      refine V.iload_n (q := 61) C dX9_ends_60 rfl rfl ?_
      refine V.ild (q := 62) (i := j) C dX9_ends_61 rfl (okC_14 (by omega) (by omega)) rfl rfl hr8 (by omega) ?_
      refine V.topi (x1 := A (116 + 2 * j)) r2 ?_
      refine V.callVxv (q := 65) C me_X9_followPlan (c_follow n1 hb1 hbI (hP.2.2 j (by omega))) ml_X9_230 dX9_ends_62 rfl okC_0 ⟨_, rfl⟩ rfl rfl (Nat.le_of_ble_eq_true rfl) (by omega) (Nat.zero_le _) (Nat.zero_le _) (fun z9 hz9 => ?_)
      refine V.iinc (q := 68) (v := nI (j + 1)) C dX9_ends_65 rfl rfl (nI_1 _) (by decide) rfl rfl ?_
      refine V.goto (tgt := 23) C dX9_ends_68 rfl ?_
      have e9 : plS rules sizes m (A (115 + 2 * j)) (A (116 + 2 * j)) (enA rules sizes m j A) = (enA rules sizes m (j + 1) A) := by
        rw [← n2 (115 + 2 * j) (by omega), ← n2 (116 + 2 * j) (by omega)]
        rfl
      rw [e9] at hz9
      exact ih (j + 1) z9.1 z9.2 (by omega) hz9.1 hz9.2.1
theorem c_ends {l : Launch} {g : GG} {X : PHp} {h0 : HZ} {ct : CTt} {cl : I2} {rd : RDt} {B : I2} {cy : Nat → Nat} {rw : RWt} {tl : TLt} {sp : SPt} {rules sizes A : I1} {n m r q : Nat} (hS : SH ct rules sizes A n m r q) (hI : CI (B 0) n m) (hT : TR TT (B 0) A n m) (hcy : cy 0 = q) {c : Nat} (hP : PlI A n m c) (hk : rw.2.2.2 0 2 = nI c) (hb : ∀ i, i < c → rw.2.1 0 2 i = A (115 + 2 * i) ∧ rw.1 0 2 i = A (116 + 2 * i)) {x : Int32} : Ct l g yX9_ends cX9_ends 3 (some .int) 24 0 0 [rf g (0, 0, 0), .int x] NN (jn (hC g h0 ct cl rd B cy rw tl sp) X) (xI (fun _ : I2 × I1 × Nat => True) (fun _ => endsR rules sizes A n m c x) (fun z => (jn (hC g h0 ct z.1 rd (putR B 1 z.2.1) (va_up cy 1 z.2.2) rw tl sp) X))) := by
  refine Ct.of (lv := [some (rf g (0, 0, 0)), some (.int x), none]) (by decide +kernel) rfl (Nat.le_of_ble_eq_true rfl) ?_
  intro Γ C
  have h6 := hI.2.1
  have h8 := hI.2.2.2
  refine V.iload_n (q := 1) C dX9_ends_0 rfl rfl ?_
  refine V.iconst (q := 2) (v := nI 1) C dX9_ends_1 rfl (by decide) ?_
  refine V.callSi (q := 5) C me_X9_isOut c_isOut ml_X9_70 dX9_ends_2 rfl rfl rfl (Nat.le_of_ble_eq_true rfl) (by omega) (Nat.zero_le _) (Nat.zero_le _) ?_
  refine V.if_eqB (q := 8) (tgt := 10) C dX9_ends_5 rfl rfl (fun hb5 => ?_) (fun hb5 => ?_)
  · replace hb5 := Decidable.not_not.mp hb5
    have hx9 := hb5
    refine V.phE (fun q _ => congrFun (congrArg (fun z => (jn (hC g h0 ct cl rd z cy rw tl sp) X)) (putR_id (B := B) (w := 1)).symm) q) ?_
    refine V.phE (fun q _ => congrFun (congrArg (fun z => (jn (hC g h0 ct cl rd (putR B 1 (B 1)) z rw tl sp) X)) (va_up_id (f := cy) (k := 1)).symm) q) ?_
    refine V.aload_n (q := 11) C dX9_ends_10 rfl rfl ?_
    refine V.get (q := 14) C fl_X9_31 dX9_ends_11 rfl okC_0 rfl rfl ?_
    refine V.aload_n (q := 15) C dX9_ends_14 rfl rfl ?_
    refine V.get (q := 18) C fl_X9_27 dX9_ends_15 rfl okC_0 rfl rfl ?_
    refine V.callVxv (q := 21) C me_X8_become (c_begT hS hI hT hcy) ml_X9_178 dX9_ends_18 rfl (okC_6 (by omega)) ⟨_, rfl⟩ rfl rfl (Nat.le_of_ble_eq_true rfl) (by omega) (Nat.zero_le _) (Nat.zero_le _) (fun b1 hB1 => ?_)
    refine V.iconst (q := 22) (v := nI 0) C dX9_ends_21 rfl (by decide) ?_
    refine V.istore_n (q := 23) C dX9_ends_22 rfl (by decide) rfl rfl ?_
    refine c_en_l hS hI hT hcy hP hk hb C (fun cl9 b9 hb9 hbI9 => ?_) c 0 cl b1 (by omega) hB1.1 hB1.2
    refine V.iload_n (q := 72) C dX9_ends_71 rfl rfl ?_
    refine V.if_ne (q := 75) (tgt := 85) C dX9_ends_72 rfl rfl (fun hb72 => ?_) (fun hb72 => ?_)
    · refine V.aload_n (q := 86) C dX9_ends_85 rfl rfl ?_
      refine V.get (q := 89) C fl_X9_31 dX9_ends_86 rfl okC_0 rfl rfl ?_
      refine V.callVi (q := 92) C me_X8_coverOfAll (c_coverT (P := TT) (by omega) hb9 (fun _ => trivial) hbI9) ml_X9_168 dX9_ends_89 rfl (okC_6 (by omega)) ⟨_, rfl⟩ rfl rfl (Nat.le_of_ble_eq_true rfl) (by omega) (Nat.zero_le _) (Nat.zero_le _) ?_
      exact V.ireturn C dX9_ends_92 ⟨(cl9, b9, q), trivial, by rw [endsR, if_pos hx9, if_neg hb72], rfl, rfl⟩
    · refine V.aload_n (q := 76) C dX9_ends_75 rfl rfl ?_
      refine V.get (q := 79) C fl_X9_31 dX9_ends_76 rfl okC_0 rfl rfl ?_
      refine V.callVi (q := 82) C me_X8_hurtOfAll (c_hurtT (P := TT) (by omega) hb9 (fun _ => trivial) hbI9) ml_X9_164 dX9_ends_79 rfl (okC_6 (by omega)) ⟨_, rfl⟩ rfl rfl (Nat.le_of_ble_eq_true rfl) (by omega) (Nat.zero_le _) (Nat.zero_le _) ?_
      refine V.goto (tgt := 92) C dX9_ends_82 rfl ?_
      exact V.ireturn C dX9_ends_92 ⟨(cl9, b9, q), trivial, by rw [endsR, if_pos hx9, if_pos hb72], rfl, rfl⟩
  · refine V.iconst (q := 9) (v := -1) C dX9_ends_8 rfl (by decide) ?_
    exact V.ireturn C dX9_ends_9 ⟨(cl, B 1, cy 1), trivial, (by rw [endsR, if_neg hb5]), (congrArg (fun z => (jn (hC g h0 ct cl rd z cy rw tl sp) X)) (putR_id (B := B) (w := 1)).symm).trans (congrArg (fun z => (jn (hC g h0 ct cl rd (putR B 1 (B 1)) z rw tl sp) X)) (va_up_id (f := cy) (k := 1)).symm), rfl⟩
