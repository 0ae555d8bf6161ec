theorem c_guard {l : Launch} {g : GG} {X : PHp} {h0 : HZ} {ct : CTt} {cl : I2} {rd : RDt} {B : I2} {cy : Nat → Nat} {rw : RWt} {tl : TLt} {sp : SPt} {w i s kc : Nat} (hw : w < 3) (hi : i < 6) (hs : s < 8) (hO : CtO ct (cy w) kc) : Ct l g yX8_guard cX8_guard 3 (some .int) 3 0 0 [rf g (6, w, 0), rf g (9, w, i), .int (nI s)] NN (jn (hC g h0 ct cl rd B cy rw tl sp) X) (xI (fun _ : I2 => True) (fun _ => guC ct (cy w) kc (B w) i s) (fun cl1 => (jn (hC g h0 ct cl1 rd B cy rw tl sp) X))) := by
  refine Ct.of (lv := [some (rf g (6, w, 0)), some (rf g (9, w, i)), some (.int (nI s))]) (by decide +kernel) rfl (Nat.le_of_ble_eq_true rfl) ?_
  intro Γ C
  have hc := hO.1
  refine V.aload_n (q := 1) C dX8_guard_0 rfl rfl ?_
  refine V.aload_n (q := 2) C dX8_guard_1 rfl rfl ?_
  refine V.get (q := 5) C fl_X8_36 dX8_guard_2 rfl (okC_6 (by omega)) rfl rfl ?_
  refine V.aload_n (q := 6) C dX8_guard_5 rfl rfl ?_
  refine V.iload_n (q := 7) C dX8_guard_6 rfl rfl ?_
  refine V.aload_n (q := 8) C dX8_guard_7 rfl rfl ?_
  refine V.get (q := 11) C fl_X8_30 dX8_guard_8 rfl (okC_6 (by omega)) rfl rfl ?_
  refine V.callVxi (q := 14) C me_X0_sum (c_sum (by omega) (by omega) hO) ml_X8_72 dX8_guard_11 rfl (okC_2 (by omega)) ⟨_, rfl⟩ rfl rfl (Nat.le_of_ble_eq_true rfl) (by omega) (Nat.zero_le _) (Nat.zero_le _) (fun cl1 _ => ?_)
  refine V.iload_n (q := 15) C dX8_guard_14 rfl rfl ?_
  refine V.callVi (q := 18) C me_X7_guardBy (c_guardBy (by omega) (by omega) (by omega)) ml_X8_76 dX8_guard_15 rfl (okC_9 (by omega) (by omega)) ⟨_, rfl⟩ rfl rfl (Nat.le_of_ble_eq_true rfl) (by omega) (Nat.zero_le _) (Nat.zero_le _) ?_
  exact V.ireturn C dX8_guard_18 ⟨cl1, trivial, rfl, rfl, rfl⟩
theorem c_strike {l : Launch} {g : GG} {X : PHp} {h0 : HZ} {ct : CTt} {cl : I2} {rd : RDt} {B : I2} {cy : Nat → Nat} {rw : RWt} {tl : TLt} {sp : SPt} {w i s kc : Nat} (hw : w < 3) (hi : i < 6) (hs : s < 8) (hT : B w (54 + 3 * s + 2) = nI i) (hO : CtO ct (cy w) kc) : Ct l g yX8_strike cX8_strike 5 none 4 0 0 [rf g (6, w, 0), .int (nI s)] NN (jn (hC g h0 ct cl rd B cy rw tl sp) X) (xV (fun _ : I2 => True) (fun cl1 => (jn (hC g h0 ct cl1 rd (putR B w (skC (guC ct (cy w) kc (B w) i s) (ct.2.2.2 (cy w)) (B w) s i)) cy rw tl sp) X))) := by
  refine Ct.of (lv := [some (rf g (6, w, 0)), some (.int (nI s)), none, none, none]) (by decide +kernel) rfl (Nat.le_of_ble_eq_true rfl) ?_
  intro Γ C
  have hc := hO.1
  refine V.aload_n (q := 1) C dX8_strike_0 rfl rfl ?_
  refine V.get (q := 4) C fl_X8_19 dX8_strike_1 rfl (okC_6 (by omega)) rfl rfl ?_
  refine V.iload_n (q := 5) C dX8_strike_4 rfl rfl ?_
  refine V.rld (q := 6) (i := s) C rfl dX8_strike_5 rfl (okC_8 (by omega)) rfl rfl (by omega) (by decide) ?_
  refine V.astore_n (q := 7) C dX8_strike_6 rfl (by decide) rfl rfl ?_
  refine V.aload_n (q := 8) C dX8_strike_7 rfl rfl ?_
  refine V.get (q := 11) C fl_X8_11 dX8_strike_8 rfl (okC_6 (by omega)) rfl rfl ?_
  refine V.aload_n (q := 12) C dX8_strike_11 rfl rfl ?_
  refine V.get (q := 15) C fl_X8_61 dX8_strike_12 rfl (okC_11 (by omega) (by omega)) rfl rfl ?_
  refine V.topi (x1 := nI (i)) hT ?_
  refine V.rld (q := 16) (i := (i)) C rfl dX8_strike_15 rfl (okC_7 (by omega)) rfl rfl (by omega) (by decide) ?_
  refine V.astore_n (q := 17) C dX8_strike_16 rfl (by decide) rfl rfl ?_
  refine V.aload_n (q := 18) C dX8_strike_17 rfl rfl ?_
  refine V.get (q := 21) C fl_X8_55 dX8_strike_18 rfl (okC_11 (by omega) (by omega)) rfl rfl ?_
  refine V.aload_n (q := 22) C dX8_strike_21 rfl rfl ?_
  refine V.aload_n (q := 23) C dX8_strike_22 rfl rfl ?_
  refine V.iload_n (q := 24) C dX8_strike_23 rfl rfl ?_
  refine V.callVxi (q := 27) C me_X8_guard (c_guard (by omega) (by omega) (by omega) hO) ml_X8_83 dX8_strike_24 rfl (okC_6 (by omega)) ⟨_, rfl⟩ rfl rfl (Nat.le_of_ble_eq_true rfl) (by omega) (Nat.zero_le _) (Nat.zero_le _) (fun cl1 _ => ?_)
  refine V.isub (q := 28) C dX8_strike_27 rfl ?_
  refine V.iconst (q := 29) (v := nI 0) C dX8_strike_28 rfl (by decide) ?_
  refine V.max (q := 32) C dX8_strike_29 (tb_at 363 (by decide +kernel) rfl) rfl ?_
  refine V.topi (mx0_c _) ?_
  refine V.bipush (q := 34) (v := nI 99) C dX8_strike_32 rfl (by decide) ?_
  refine V.min (q := 37) C dX8_strike_34 (tb_at 364 (by decide +kernel) rfl) rfl ?_
  refine V.topi (mn99_c _) ?_
  refine V.istore (q := 39) C dX8_strike_37 rfl (by decide) rfl rfl ?_
  refine V.aload_n (q := 40) C dX8_strike_39 rfl rfl ?_
  refine V.aload_n (q := 41) C dX8_strike_40 rfl rfl ?_
  refine V.get (q := 44) C fl_X8_95 dX8_strike_41 rfl (okC_9 (by omega) (by omega)) rfl rfl ?_
  refine V.iload (q := 46) C dX8_strike_44 rfl rfl ?_
  refine V.iadd (q := 47) C dX8_strike_46 rfl ?_
  refine V.sipush (q := 50) (v := nI 9999) C dX8_strike_47 rfl (by decide) ?_
  refine V.min (q := 53) C dX8_strike_50 (tb_at 364 (by decide +kernel) rfl) rfl ?_
  refine V.topi (mnT_c _) ?_
  refine V.put (q := 56) C fl_X8_95 rfl dX8_strike_53 rfl (okC_9 (by omega) (by omega)) rfl (Nat.le_of_ble_eq_true rfl) rfl rfl rfl ?_
  refine V.phE (uC_9_6 (by omega)) ?_
  refine V.aload_n (q := 57) C dX8_strike_56 rfl rfl ?_
  refine V.aload_n (q := 58) C dX8_strike_57 rfl rfl ?_
  refine V.get (q := 61) C fl_X8_98 dX8_strike_58 rfl (okC_9 (by omega) (by omega)) rfl rfl ?_
  refine V.iconst (q := 62) (v := nI 1) C dX8_strike_61 rfl (by decide) ?_
  refine V.iadd (q := 63) C dX8_strike_62 rfl ?_
  refine V.sipush (q := 66) (v := nI 9999) C dX8_strike_63 rfl (by decide) ?_
  refine V.min (q := 69) C dX8_strike_66 (tb_at 364 (by decide +kernel) rfl) rfl ?_
  refine V.topi (mnT_c _) ?_
  refine V.put (q := 72) C fl_X8_98 rfl dX8_strike_69 rfl (okC_9 (by omega) (by omega)) rfl (Nat.le_of_ble_eq_true rfl) rfl rfl rfl ?_
  refine V.phE (uC_9_5 (by omega)) ?_
  refine V.aload_n (q := 73) C dX8_strike_72 rfl rfl ?_
  refine V.aload_n (q := 74) C dX8_strike_73 rfl rfl ?_
  refine V.get (q := 77) C fl_X8_101 dX8_strike_74 rfl (okC_9 (by omega) (by omega)) rfl rfl ?_
  refine V.aload_n (q := 78) C dX8_strike_77 rfl rfl ?_
  refine V.get (q := 81) C fl_X8_36 dX8_strike_78 rfl (okC_6 (by omega)) rfl rfl ?_
  refine V.get (q := 84) C fl_X8_104 dX8_strike_81 rfl (okC_2 (by omega)) rfl rfl ?_
  refine V.isub (q := 85) C dX8_strike_84 rfl ?_
  refine V.iconst (q := 86) (v := nI 0) C dX8_strike_85 rfl (by decide) ?_
  refine V.max (q := 89) C dX8_strike_86 (tb_at 363 (by decide +kernel) rfl) rfl ?_
  refine V.topi (mx0_c _) ?_
  refine V.put (q := 92) C fl_X8_101 rfl dX8_strike_89 rfl (okC_9 (by omega) (by omega)) rfl (Nat.le_of_ble_eq_true rfl) rfl rfl rfl ?_
  refine V.phE (uC_9_4 (by omega)) ?_
  exact V.vreturn C dX8_strike_92 ⟨cl1, trivial, rfl, by simp only [setB_put, putR_put, putR_w, skC], rfl⟩
theorem c_go_i {l : Launch} {g : GG} {X : PHp} {h0 : HZ} {ct : CTt} {rd : RDt} {B : I2} {cy : Nat → Nat} {rw : RWt} {tl : TLt} {sp : SPt} {Γ : Cxt} {Q : State → Prop} {w n m k d kc : Nat} {one : Int32} (hw : w < 3) (hI : CI (B w) n m) (hO : CtO ct (cy w) kc) (C : Cx Γ g cX8_go yX8_go 5 none 5 0 0) (kx : ∀ cl : I2, V l Γ g 5 Q 0 0 NN (jn (hC g h0 ct cl rd (putR B w (goL (guC ct (cy w) kc) (ct.2.2.2 (cy w)) n one m (B w))) cy rw tl sp) X) 64 [some (rf g (6, w, 0)), some (.int (nI k)), some (.int one), some (.int (nI d)), some (.int (nI m))] []) : ∀ (f j : Nat) (cl : I2), j + f = m → V l Γ g 5 Q 0 0 NN (jn (hC g h0 ct cl rd (putR B w (goL (guC ct (cy w) kc) (ct.2.2.2 (cy w)) n one j (B w))) cy rw tl sp) X) 10 [some (rf g (6, w, 0)), some (.int (nI k)), some (.int one), some (.int (nI d)), some (.int (nI j))] [] := by
  have h6 := hI.2.1
  have h8 := hI.2.2.2
  intro f
  induction f with
  | zero =>
    intro j cl hj
    obtain rfl : j = m := by omega
    refine V.iload (q := 12) C dX8_go_10 rfl rfl ?_
    refine V.aload_n (q := 13) C dX8_go_12 rfl rfl ?_
    refine V.get (q := 16) C fl_X8_27 dX8_go_13 rfl (okC_6 (by omega)) rfl rfl ?_
    refine V.topi (x1 := nI (j)) (by rw [putR_w]; exact (CI_L h6 hI).2.2.1) ?_
    refine V.icmp_ge (q := 19) (tgt := 64) C dX8_go_16 rfl rfl (fun hb16 => ?_) (fun hb16 => ?_)
    · exact kx cl
    · exact absurd ((nI_leI (by omega) (by omega)).mpr (by omega)) hb16
  | succ f ih =>
    intro j cl hj
    obtain ⟨B1, hB⟩ : ∃ B1, B1 = putR B w (goL (guC ct (cy w) kc) (ct.2.2.2 (cy w)) n one j (B w)) := ⟨_, rfl⟩
    have hb : B1 w = (goL (guC ct (cy w) kc) (ct.2.2.2 (cy w)) n one j (B w)) := by rw [hB, putR_w]
    have hI1 : CI (B1 w) n m := by rw [hb]; exact CI_L h6 hI
    rw [← hB]
    refine V.iload (q := 12) C dX8_go_10 rfl rfl ?_
    refine V.aload_n (q := 13) C dX8_go_12 rfl rfl ?_
    refine V.get (q := 16) C fl_X8_27 dX8_go_13 rfl (okC_6 (by omega)) rfl rfl ?_
    refine V.topi (x1 := nI (m)) hI1.2.2.1 ?_
    refine V.icmp_ge (q := 19) (tgt := 64) C dX8_go_16 rfl rfl (fun hb16 => ?_) (fun hb16 => ?_)
    · exact absurd ((nI_leI (by omega) (by omega)).mp hb16) (by omega)
    · refine V.iload_n (q := 20) C dX8_go_19 rfl rfl ?_
      refine V.iconst (q := 21) (v := -1) C dX8_go_20 rfl (by decide) ?_
      refine V.icmp_eq (q := 24) (tgt := 38) C dX8_go_21 rfl rfl (fun hb21 => ?_) (fun hb21 => ?_)
      · refine V.aload_n (q := 39) C dX8_go_38 rfl rfl ?_
        refine V.aload_n (q := 40) C dX8_go_39 rfl rfl ?_
        refine V.get (q := 43) C fl_X8_19 dX8_go_40 rfl (okC_6 (by omega)) rfl rfl ?_
        refine V.iload (q := 45) C dX8_go_43 rfl rfl ?_
        refine V.rld (q := 46) (i := j) C rfl dX8_go_45 rfl (okC_8 (by omega)) rfl rfl (by omega) (by decide) ?_
        refine V.callVi (q := 49) C me_X8_isStriking (c_isStriking (by omega) (by omega) hI1) ml_X8_68 dX8_go_46 rfl (okC_6 (by omega)) ⟨_, rfl⟩ rfl rfl (Nat.le_of_ble_eq_true rfl) (by omega) (Nat.zero_le _) (Nat.zero_le _) ?_
        refine V.if_eqB (q := 52) (tgt := 58) C dX8_go_49 rfl rfl (fun hb49 => ?_) (fun hb49 => ?_)
        · refine V.iinc (q := 61) (v := nI (j + 1)) C dX8_go_58 rfl rfl (nI_1 _) (by decide) rfl rfl ?_
          refine V.goto (tgt := 10) C dX8_go_61 rfl ?_
          have e : B1 = putR B w (goL (guC ct (cy w) kc) (ct.2.2.2 (cy w)) n one (j + 1) (B w)) := by
            rw [show (goL (guC ct (cy w) kc) (ct.2.2.2 (cy w)) n one (j + 1) (B w)) = goS (guC ct (cy w) kc) (ct.2.2.2 (cy w)) n one j (goL (guC ct (cy w) kc) (ct.2.2.2 (cy w)) n one j (B w)) from rfl, ← hb, goS, if_neg (fun z => hb49 z.2), hb]
            exact hB
          rw [e]
          exact ih (j + 1) cl (by omega)
        · obtain ⟨i, hi6, ei⟩ := InN_nat (n := n) (by omega) (sbC_of hb49).1
          refine V.aload_n (q := 53) C dX8_go_52 rfl rfl ?_
          refine V.iload (q := 55) C dX8_go_53 rfl rfl ?_
          refine V.callVxv (q := 58) C me_X8_strike (c_strike (i := i) (by omega) (by omega) (by omega) ei hO) ml_X8_80 dX8_go_55 rfl (okC_6 (by omega)) ⟨_, rfl⟩ rfl rfl (Nat.le_of_ble_eq_true rfl) (by omega) (Nat.zero_le _) (Nat.zero_le _) (fun cl1 _ => ?_)
          refine V.iinc (q := 61) (v := nI (j + 1)) C dX8_go_58 rfl rfl (nI_1 _) (by decide) rfl rfl ?_
          refine V.goto (tgt := 10) C dX8_go_61 rfl ?_
          have e : putR B1 w (skC (guC ct (cy w) kc (B1 w) i j) (ct.2.2.2 (cy w)) (B1 w) j i) = putR B w (goL (guC ct (cy w) kc) (ct.2.2.2 (cy w)) n one (j + 1) (B w)) := by
            rw [show (goL (guC ct (cy w) kc) (ct.2.2.2 (cy w)) n one (j + 1) (B w)) = goS (guC ct (cy w) kc) (ct.2.2.2 (cy w)) n one j (goL (guC ct (cy w) kc) (ct.2.2.2 (cy w)) n one j (B w)) from rfl, ← hb, goS, if_pos ⟨Or.inl hb21, hb49⟩, ei, ix_nI (by omega), hB, putR_put]
          rw [e]
          exact ih (j + 1) cl1 (by omega)
      · refine V.aload_n (q := 25) C dX8_go_24 rfl rfl ?_
        refine V.get (q := 28) C fl_X8_19 dX8_go_25 rfl (okC_6 (by omega)) rfl rfl ?_
        refine V.iload (q := 30) C dX8_go_28 rfl rfl ?_
        refine V.rld (q := 31) (i := j) C rfl dX8_go_30 rfl (okC_8 (by omega)) rfl rfl (by omega) (by decide) ?_
        refine V.get (q := 34) C fl_X8_61 dX8_go_31 rfl (okC_11 (by omega) (by omega)) rfl rfl ?_
        refine V.iload_n (q := 35) C dX8_go_34 rfl rfl ?_
        refine V.icmp_ne (q := 38) (tgt := 58) C dX8_go_35 rfl rfl (fun hb35 => ?_) (fun hb35 => ?_)
        · refine V.iinc (q := 61) (v := nI (j + 1)) C dX8_go_58 rfl rfl (nI_1 _) (by decide) rfl rfl ?_
          refine V.goto (tgt := 10) C dX8_go_61 rfl ?_
          have e : B1 = putR B w (goL (guC ct (cy w) kc) (ct.2.2.2 (cy w)) n one (j + 1) (B w)) := by
            rw [show (goL (guC ct (cy w) kc) (ct.2.2.2 (cy w)) n one (j + 1) (B w)) = goS (guC ct (cy w) kc) (ct.2.2.2 (cy w)) n one j (goL (guC ct (cy w) kc) (ct.2.2.2 (cy w)) n one j (B w)) from rfl, ← hb, goS, if_neg (fun z => z.1.elim hb21 hb35), hb]
            exact hB
          rw [e]
          exact ih (j + 1) cl (by omega)
        · refine V.aload_n (q := 39) C dX8_go_38 rfl rfl ?_
          refine V.aload_n (q := 40) C dX8_go_39 rfl rfl ?_
          refine V.get (q := 43) C fl_X8_19 dX8_go_40 rfl (okC_6 (by omega)) rfl rfl ?_
          refine V.iload (q := 45) C dX8_go_43 rfl rfl ?_
          refine V.rld (q := 46) (i := j) C rfl dX8_go_45 rfl (okC_8 (by omega)) rfl rfl (by omega) (by decide) ?_
          refine V.callVi (q := 49) C me_X8_isStriking (c_isStriking (by omega) (by omega) hI1) ml_X8_68 dX8_go_46 rfl (okC_6 (by omega)) ⟨_, rfl⟩ rfl rfl (Nat.le_of_ble_eq_true rfl) (by omega) (Nat.zero_le _) (Nat.zero_le _) ?_
          refine V.if_eqB (q := 52) (tgt := 58) C dX8_go_49 rfl rfl (fun hb49 => ?_) (fun hb49 => ?_)
          · refine V.iinc (q := 61) (v := nI (j + 1)) C dX8_go_58 rfl rfl (nI_1 _) (by decide) rfl rfl ?_
            refine V.goto (tgt := 10) C dX8_go_61 rfl ?_
            have e : B1 = putR B w (goL (guC ct (cy w) kc) (ct.2.2.2 (cy w)) n one (j + 1) (B w)) := by
              rw [show (goL (guC ct (cy w) kc) (ct.2.2.2 (cy w)) n one (j + 1) (B w)) = goS (guC ct (cy w) kc) (ct.2.2.2 (cy w)) n one j (goL (guC ct (cy w) kc) (ct.2.2.2 (cy w)) n one j (B w)) from rfl, ← hb, goS, if_neg (fun z => hb49 z.2), hb]
              exact hB
            rw [e]
            exact ih (j + 1) cl (by omega)
          · obtain ⟨i, hi6, ei⟩ := InN_nat (n := n) (by omega) (sbC_of hb49).1
            refine V.aload_n (q := 53) C dX8_go_52 rfl rfl ?_
            refine V.iload (q := 55) C dX8_go_53 rfl rfl ?_
            refine V.callVxv (q := 58) C me_X8_strike (c_strike (i := i) (by omega) (by omega) (by omega) ei hO) ml_X8_80 dX8_go_55 rfl (okC_6 (by omega)) ⟨_, rfl⟩ rfl rfl (Nat.le_of_ble_eq_true rfl) (by omega) (Nat.zero_le _) (Nat.zero_le _) (fun cl1 _ => ?_)
            refine V.iinc (q := 61) (v := nI (j + 1)) C dX8_go_58 rfl rfl (nI_1 _) (by decide) rfl rfl ?_
            refine V.goto (tgt := 10) C dX8_go_61 rfl ?_
            have e : putR B1 w (skC (guC ct (cy w) kc (B1 w) i j) (ct.2.2.2 (cy w)) (B1 w) j i) = putR B w (goL (guC ct (cy w) kc) (ct.2.2.2 (cy w)) n one (j + 1) (B w)) := by
              rw [show (goL (guC ct (cy w) kc) (ct.2.2.2 (cy w)) n one (j + 1) (B w)) = goS (guC ct (cy w) kc) (ct.2.2.2 (cy w)) n one j (goL (guC ct (cy w) kc) (ct.2.2.2 (cy w)) n one j (B w)) from rfl, ← hb, goS, if_pos ⟨Or.inr hb35, hb49⟩, ei, ix_nI (by omega), hB, putR_put]
            rw [e]
            exact ih (j + 1) cl1 (by omega)
theorem c_go_o {l : Launch} {g : GG} {X : PHp} {h0 : HZ} {ct : CTt} {rd : RDt} {B : I2} {cy : Nat → Nat} {rw : RWt} {tl : TLt} {sp : SPt} {Γ : Cxt} {Q : State → Prop} {w n m k kc : Nat} {one : Int32} (hw : w < 3) (hI : CI (B w) n m) (hO : CtO ct (cy w) kc) (hk : k ≤ 60) (C : Cx Γ g cX8_go yX8_go 5 none 5 0 0) (kx : ∀ (cl : I2) (u4 : Option Value), V l Γ g 5 Q 0 0 NN (jn (hC g h0 ct cl rd (putR B w (goN (guC ct (cy w) kc) (ct.2.2.2 (cy w)) n one m k (B w))) cy rw tl sp) X) 80 [some (rf g (6, w, 0)), some (.int (nI k)), some (.int one), some (.int (nI k)), u4] []) : ∀ (f j : Nat) (cl : I2) (u4 : Option Value), j + f = k → V l Γ g 5 Q 0 0 NN (jn (hC g h0 ct cl rd (putR B w (goN (guC ct (cy w) kc) (ct.2.2.2 (cy w)) n one m j (B w))) cy rw tl sp) X) 2 [some (rf g (6, w, 0)), some (.int (nI k)), some (.int one), some (.int (nI j)), u4] [] := by
  have h6 := hI.2.1
  have h8 := hI.2.2.2
  intro f
  induction f with
  | zero =>
    intro j cl u4 hj
    obtain rfl : j = k := by omega
    refine V.iload_n (q := 3) C dX8_go_2 rfl rfl ?_
    refine V.iload_n (q := 4) C dX8_go_3 rfl rfl ?_
    refine V.icmp_ge (q := 7) (tgt := 80) C dX8_go_4 rfl rfl (fun hb4 => ?_) (fun hb4 => ?_)
    · exact kx cl u4
    · exact absurd ((nI_leI (by omega) (by omega)).mpr (by omega)) hb4
  | succ f ih =>
    intro j cl u4 hj
    obtain ⟨B1, hB⟩ : ∃ B1, B1 = putR B w (goN (guC ct (cy w) kc) (ct.2.2.2 (cy w)) n one m j (B w)) := ⟨_, rfl⟩
    have hb : B1 w = (goN (guC ct (cy w) kc) (ct.2.2.2 (cy w)) n one m j (B w)) := by rw [hB, putR_w]
    have hI1 : CI (B1 w) n m := by rw [hb]; exact CI_N h6 hI
    rw [← hB]
    refine V.iload_n (q := 3) C dX8_go_2 rfl rfl ?_
    refine V.iload_n (q := 4) C dX8_go_3 rfl rfl ?_
    refine V.icmp_ge (q := 7) (tgt := 80) C dX8_go_4 rfl rfl (fun hb4 => ?_) (fun hb4 => ?_)
    · exact absurd ((nI_leI (by omega) (by omega)).mp hb4) (by omega)
    · refine V.iconst (q := 8) (v := nI 0) C dX8_go_7 rfl (by decide) ?_
      refine V.istore (q := 10) C dX8_go_8 rfl (by decide) rfl rfl ?_
      refine V.phE (fun q _ => congrFun (congrArg (fun z => (jn (hC g h0 ct cl rd z cy rw tl sp) X)) (putR_id (B := B1) (w := w)).symm) q) ?_
      refine c_go_i (B := B1) hw hI1 hO C (fun cl1 => ?_) m 0 cl (by omega)
      refine V.aload_n (q := 65) C dX8_go_64 rfl rfl ?_
      refine V.dup (q := 66) C dX8_go_65 rfl rfl ?_
      refine V.get (q := 69) C fl_X8_30 dX8_go_66 rfl (okC_6 (by omega)) rfl rfl ?_
      refine V.iconst (q := 70) (v := nI 1) C dX8_go_69 rfl (by decide) ?_
      refine V.iadd (q := 71) C dX8_go_70 rfl ?_
      refine V.put (q := 74) C fl_X8_30 rfl dX8_go_71 rfl (okC_6 (by omega)) rfl (Nat.le_of_ble_eq_true rfl) rfl rfl rfl ?_
      refine V.phE (uC_6_4) ?_
      refine V.iinc (q := 77) (v := nI (j + 1)) C dX8_go_74 rfl rfl (nI_1 _) (by decide) rfl rfl ?_
      refine V.goto (tgt := 2) C dX8_go_77 rfl ?_
      have e : setB (putR B1 w (goL (guC ct (cy w) kc) (ct.2.2.2 (cy w)) n one m (B1 w))) w 80 ((putR B1 w (goL (guC ct (cy w) kc) (ct.2.2.2 (cy w)) n one m (B1 w))) w 80 + nI 1) = putR B w (goN (guC ct (cy w) kc) (ct.2.2.2 (cy w)) n one m (j + 1) (B w)) := by
        rw [setB_put, putR_put, putR_w, show (goN (guC ct (cy w) kc) (ct.2.2.2 (cy w)) n one m (j + 1) (B w)) = goD (guC ct (cy w) kc) (ct.2.2.2 (cy w)) n one m (goN (guC ct (cy w) kc) (ct.2.2.2 (cy w)) n one m j (B w)) from rfl, ← hb, goD, hB, putR_put]
      rw [e]
      exact ih (j + 1) _ _ (by omega)
theorem c_go {l : Launch} {g : GG} {X : PHp} {h0 : HZ} {ct : CTt} {cl : I2} {rd : RDt} {B : I2} {cy : Nat → Nat} {rw : RWt} {tl : TLt} {sp : SPt} {w n m k kc : Nat} {one : Int32} (hw : w < 3) (hI : CI (B w) n m) (hO : CtO ct (cy w) kc) (hk : k ≤ 60) : Ct l g yX8_go cX8_go 5 none 5 0 0 [rf g (6, w, 0), .int (nI k), .int one] NN (jn (hC g h0 ct cl rd B cy rw tl sp) X) (xV (fun _ : I2 => True) (fun cl1 => (jn (hC g h0 ct cl1 rd (putR B w (goN (guC ct (cy w) kc) (ct.2.2.2 (cy w)) n one m k (B w))) cy rw tl sp) X))) := by
  refine Ct.of (lv := [some (rf g (6, w, 0)), some (.int (nI k)), some (.int one), none, none]) (by decide +kernel) rfl (Nat.le_of_ble_eq_true rfl) ?_
  intro Γ C
  refine V.iconst (q := 1) (v := nI 0) C dX8_go_0 rfl (by decide) ?_
  refine V.istore_n (q := 2) C dX8_go_1 rfl (by decide) rfl rfl ?_
  refine V.phE (fun q _ => congrFun (congrArg (fun z => (jn (hC g h0 ct cl rd z cy rw tl sp) X)) (putR_id (B := B) (w := w)).symm) q) ?_
  refine c_go_o (n := n) (m := m) hw hI hO hk C (fun cl1 u4 => ?_) k 0 cl _ (by omega)
  exact V.vreturn C dX8_go_80 ⟨cl1, trivial, rfl, rfl, rfl⟩
/-- world w becomes world w2, as far as n wearers and m sayings -/
def bcB (B : I2) (w w2 n m : Nat) : I2 := fun w1 k => if w1 = w ∧ (k < 9 * n ∨ 54 ≤ k ∧ k < 54 + 3 * m ∨ k = 78 ∨ k = 79 ∨ k = 80) then B w2 k else B w1 k
theorem bcB_0 {B : I2} {w w2 : Nat} : setB (setB (setB B w 78 (B w2 78)) w 79 (B w2 79)) w 80 (B w2 80) = bcB B w w2 0 0 := by
  funext w1 k
  simp only [setB, upd, bcB]
  by_cases h : w1 = w
  · subst h
    by_cases h0 : k = 80
    · subst h0; simp [upd]
    · by_cases h1 : k = 79
      · subst h1; simp [upd]
      · by_cases h2 : k = 78
        · subst h2; simp [upd]
        · simp [upd, h0, h1, h2]; try (intros; omega)
  · simp [h]
theorem bcB_w {B : I2} {w w2 j : Nat} (h : w2 ≠ w) (hj : j < 6) : cpW (bcB B w w2 j 0) w j w2 j = bcB B w w2 (j + 1) 0 := by
  funext w1 k
  simp only [cpW, bcB]
  by_cases h1 : w1 = w
  · subst h1
    by_cases hk : 9 * j ≤ k ∧ k < 9 * j + 9
    · rw [if_pos ⟨rfl, hk⟩, if_neg (fun z => h z.1), if_pos ⟨rfl, by omega⟩, show 9 * j + (k - 9 * j) = k by omega]
    · rw [if_neg (fun z => hk z.2)]
      by_cases h2 : k < 9 * j ∨ 54 ≤ k ∧ k < 54 + 3 * 0 ∨ k = 78 ∨ k = 79 ∨ k = 80
      · rw [if_pos ⟨rfl, h2⟩, if_pos ⟨rfl, by omega⟩]
      · rw [if_neg (fun z => h2 z.2), if_neg (fun z => by omega)]
  · rw [if_neg (fun z => h1 z.1), if_neg (fun z => h1 z.1), if_neg (fun z => h1 z.1)]
theorem bcB_s {B : I2} {w w2 n j : Nat} (h : w2 ≠ w) (hn : n ≤ 6) (hj : j < 8) : cpS (bcB B w w2 n j) w j w2 j = bcB B w w2 n (j + 1) := by
  funext w1 k
  simp only [cpS, bcB]
  by_cases h1 : w1 = w
  · subst h1
    by_cases hk : 54 + 3 * j ≤ k ∧ k < 54 + 3 * j + 3
    · rw [if_pos ⟨rfl, hk⟩, if_neg (fun z => h z.1), if_pos ⟨rfl, by omega⟩, show 54 + 3 * j + (k - (54 + 3 * j)) = k by omega]
    · rw [if_neg (fun z => hk z.2)]
      by_cases h2 : k < 9 * n ∨ 54 ≤ k ∧ k < 54 + 3 * j ∨ k = 78 ∨ k = 79 ∨ k = 80
      · rw [if_pos ⟨rfl, h2⟩, if_pos ⟨rfl, by omega⟩]
      · rw [if_neg (fun z => h2 z.2), if_neg (fun z => by omega)]
  · rw [if_neg (fun z => h1 z.1), if_neg (fun z => h1 z.1), if_neg (fun z => h1 z.1)]
theorem bcB_78 {B : I2} {w w2 n m : Nat} : bcB B w w2 n m w 78 = B w2 78 := if_pos ⟨rfl, by omega⟩
theorem bcB_79 {B : I2} {w w2 n m : Nat} : bcB B w w2 n m w 79 = B w2 79 := if_pos ⟨rfl, by omega⟩
theorem bcB_o {B : I2} {w w2 n m w1 : Nat} (h : w1 ≠ w) : bcB B w w2 n m w1 = B w1 := by
  funext k
  exact if_neg (fun z => h z.1)
theorem c_become_w {l : Launch} {g : GG} {X : PHp} {h0 : HZ} {ct : CTt} {cl : I2} {rd : RDt} {B : I2} {cy1 : Nat → Nat} {rw : RWt} {tl : TLt} {sp : SPt} {Γ : Cxt} {Q : State → Prop} {w w2 n m : Nat} (hw : w < 3) (hw2 : w2 < 3) (h : w2 ≠ w) (hI : CI (B w2) n m) (C : Cx Γ g cX8_become yX8_become 3 none 3 0 0) (kx : V l Γ g 3 Q 0 0 NN (jn (hC g h0 ct cl rd (bcB B w w2 n 0) cy1 rw tl sp) X) 63 [some (rf g (6, w, 0)), some (rf g (6, w2, 0)), some (.int (nI n))] []) : ∀ k j : Nat, j + k = n → V l Γ g 3 Q 0 0 NN (jn (hC g h0 ct cl rd (bcB B w w2 j 0) cy1 rw tl sp) X) 34 [some (rf g (6, w, 0)), some (rf g (6, w2, 0)), some (.int (nI j))] [] := by
  intro k
  induction k with
  | zero =>
    intro j hj
    obtain rfl : n = j := by omega
    have h6 := hI.2.1
    have h8 := hI.2.2.2
    refine V.iload_n (q := 35) C dX8_become_34 rfl rfl ?_
    refine V.aload_n (q := 36) C dX8_become_35 rfl rfl ?_
    refine V.get (q := 39) C fl_X8_23 dX8_become_36 rfl (okC_6 (by omega)) rfl rfl ?_
    refine V.topi (x1 := nI (n)) (bcB_78.trans hI.1) ?_
    refine V.icmp_ge (q := 42) (tgt := 63) C dX8_become_39 rfl rfl (fun hb39 => ?_) (fun hb39 => ?_)
    · exact kx
    · exact absurd ((nI_leI (by omega) (by omega)).mpr (by omega)) hb39
  | succ k ih =>
    intro j hj
    have h6 := hI.2.1
    have h8 := hI.2.2.2
    refine V.iload_n (q := 35) C dX8_become_34 rfl rfl ?_
    refine V.aload_n (q := 36) C dX8_become_35 rfl rfl ?_
    refine V.get (q := 39) C fl_X8_23 dX8_become_36 rfl (okC_6 (by omega)) rfl rfl ?_
    refine V.topi (x1 := nI (n)) (bcB_78.trans hI.1) ?_
    refine V.icmp_ge (q := 42) (tgt := 63) C dX8_become_39 rfl rfl (fun hb39 => ?_) (fun hb39 => ?_)
    · exact absurd ((nI_leI (by omega) (by omega)).mp hb39) (by omega)
    · refine V.aload_n (q := 43) C dX8_become_42 rfl rfl ?_
      refine V.get (q := 46) C fl_X8_11 dX8_become_43 rfl (okC_6 (by omega)) rfl rfl ?_
      refine V.iload_n (q := 47) C dX8_become_46 rfl rfl ?_
      refine V.rld (q := 48) (i := j) C rfl dX8_become_47 rfl (okC_7 (by omega)) rfl rfl (by omega) (by decide) ?_
      refine V.aload_n (q := 49) C dX8_become_48 rfl rfl ?_
      refine V.get (q := 52) C fl_X8_11 dX8_become_49 rfl (okC_6 (by omega)) rfl rfl ?_
      refine V.iload_n (q := 53) C dX8_become_52 rfl rfl ?_
      refine V.rld (q := 54) (i := j) C rfl dX8_become_53 rfl (okC_7 (by omega)) rfl rfl (by omega) (by decide) ?_
      refine V.callVv (q := 57) C me_X7_become (c_wbecome (by omega) (by omega) (by omega) (by omega) (by omega)) ml_X8_44 dX8_become_54 rfl (okC_9 (by omega) (by omega)) ⟨_, rfl⟩ rfl rfl (Nat.le_of_ble_eq_true rfl) (by omega) (Nat.zero_le _) (Nat.zero_le _) ?_
      refine V.iinc (q := 60) (v := nI (j + 1)) C dX8_become_57 rfl rfl (nI_1 _) (by decide) rfl rfl ?_
      refine V.goto (tgt := 34) C dX8_become_60 rfl ?_
      rw [bcB_w h (by omega)]
      exact ih (j + 1) (by omega)
theorem c_become_s {l : Launch} {g : GG} {X : PHp} {h0 : HZ} {ct : CTt} {cl : I2} {rd : RDt} {B : I2} {cy1 : Nat → Nat} {rw : RWt} {tl : TLt} {sp : SPt} {Γ : Cxt} {Q : State → Prop} {w w2 n m : Nat} (hw : w < 3) (hw2 : w2 < 3) (h : w2 ≠ w) (hI : CI (B w2) n m) (C : Cx Γ g cX8_become yX8_become 3 none 3 0 0) (kx : V l Γ g 3 Q 0 0 NN (jn (hC g h0 ct cl rd (bcB B w w2 n m) cy1 rw tl sp) X) 94 [some (rf g (6, w, 0)), some (rf g (6, w2, 0)), some (.int (nI m))] []) : ∀ k j : Nat, j + k = m → V l Γ g 3 Q 0 0 NN (jn (hC g h0 ct cl rd (bcB B w w2 n j) cy1 rw tl sp) X) 65 [some (rf g (6, w, 0)), some (rf g (6, w2, 0)), some (.int (nI j))] [] := by
  intro k
  induction k with
  | zero =>
    intro j hj
    obtain rfl : m = j := by omega
    have h6 := hI.2.1
    have h8 := hI.2.2.2
    refine V.iload_n (q := 66) C dX8_become_65 rfl rfl ?_
    refine V.aload_n (q := 67) C dX8_become_66 rfl rfl ?_
    refine V.get (q := 70) C fl_X8_27 dX8_become_67 rfl (okC_6 (by omega)) rfl rfl ?_
    refine V.topi (x1 := nI (m)) (bcB_79.trans hI.2.2.1) ?_
    refine V.icmp_ge (q := 73) (tgt := 94) C dX8_become_70 rfl rfl (fun hb70 => ?_) (fun hb70 => ?_)
    · exact kx
    · exact absurd ((nI_leI (by omega) (by omega)).mpr (by omega)) hb70
  | succ k ih =>
    intro j hj
    have h6 := hI.2.1
    have h8 := hI.2.2.2
    refine V.iload_n (q := 66) C dX8_become_65 rfl rfl ?_
    refine V.aload_n (q := 67) C dX8_become_66 rfl rfl ?_
    refine V.get (q := 70) C fl_X8_27 dX8_become_67 rfl (okC_6 (by omega)) rfl rfl ?_
    refine V.topi (x1 := nI (m)) (bcB_79.trans hI.2.2.1) ?_
    refine V.icmp_ge (q := 73) (tgt := 94) C dX8_become_70 rfl rfl (fun hb70 => ?_) (fun hb70 => ?_)
    · exact absurd ((nI_leI (by omega) (by omega)).mp hb70) (by omega)
    · refine V.aload_n (q := 74) C dX8_become_73 rfl rfl ?_
      refine V.get (q := 77) C fl_X8_19 dX8_become_74 rfl (okC_6 (by omega)) rfl rfl ?_
      refine V.iload_n (q := 78) C dX8_become_77 rfl rfl ?_
      refine V.rld (q := 79) (i := j) C rfl dX8_become_78 rfl (okC_8 (by omega)) rfl rfl (by omega) (by decide) ?_
      refine V.aload_n (q := 80) C dX8_become_79 rfl rfl ?_
      refine V.get (q := 83) C fl_X8_19 dX8_become_80 rfl (okC_6 (by omega)) rfl rfl ?_
      refine V.iload_n (q := 84) C dX8_become_83 rfl rfl ?_
      refine V.rld (q := 85) (i := j) C rfl dX8_become_84 rfl (okC_8 (by omega)) rfl rfl (by omega) (by decide) ?_
      refine V.callVv (q := 88) C me_X4_become (c_sbecome (by omega) (by omega) (by omega) (by omega) (by omega)) ml_X8_48 dX8_become_85 rfl (okC_11 (by omega) (by omega)) ⟨_, rfl⟩ rfl rfl (Nat.le_of_ble_eq_true rfl) (by omega) (Nat.zero_le _) (Nat.zero_le _) ?_
      refine V.iinc (q := 91) (v := nI (j + 1)) C dX8_become_88 rfl rfl (nI_1 _) (by decide) rfl rfl ?_
      refine V.goto (tgt := 65) C dX8_become_91 rfl ?_
      rw [bcB_s h h6 (by omega)]
      exact ih (j + 1) (by omega)
theorem c_become {l : Launch} {g : GG} {X : PHp} {h0 : HZ} {ct : CTt} {cl : I2} {rd : RDt} {B : I2} {cy : Nat → Nat} {rw : RWt} {tl : TLt} {sp : SPt} {w w2 n m : Nat} (hw : w < 3) (hw2 : w2 < 3) (h : w2 ≠ w) (hI : CI (B w2) n m) : Ct l g yX8_become cX8_become 3 none 3 0 0 [rf g (6, w, 0), rf g (6, w2, 0)] NN (jn (hC g h0 ct cl rd B cy rw tl sp) X) (pV (jn (hC g h0 ct cl rd (bcB B w w2 n m) (va_up cy w (cy w2)) rw tl sp) X)) := by
  refine Ct.of (lv := [some (rf g (6, w, 0)), some (rf g (6, w2, 0)), none]) (by decide +kernel) rfl (Nat.le_of_ble_eq_true rfl) ?_
  intro Γ C
  refine V.aload_n (q := 1) C dX8_become_0 rfl rfl ?_
  refine V.aload_n (q := 2) C dX8_become_1 rfl rfl ?_
  refine V.get (q := 5) C fl_X8_23 dX8_become_2 rfl (okC_6 (by omega)) rfl rfl ?_
  refine V.put (q := 8) C fl_X8_23 rfl dX8_become_5 rfl (okC_6 (by omega)) rfl (Nat.le_of_ble_eq_true rfl) rfl rfl rfl ?_
  refine V.phE (uC_6_2) ?_
  refine V.aload_n (q := 9) C dX8_become_8 rfl rfl ?_
  refine V.aload_n (q := 10) C dX8_become_9 rfl rfl ?_
  refine V.get (q := 13) C fl_X8_27 dX8_become_10 rfl (okC_6 (by omega)) rfl rfl ?_
  refine V.topi (x1 := B w2 79) (setB_ne (Or.inl h)) ?_
  refine V.put (q := 16) C fl_X8_27 rfl dX8_become_13 rfl (okC_6 (by omega)) rfl (Nat.le_of_ble_eq_true rfl) rfl rfl rfl ?_
  refine V.phE (uC_6_3) ?_
  refine V.aload_n (q := 17) C dX8_become_16 rfl rfl ?_
  refine V.aload_n (q := 18) C dX8_become_17 rfl rfl ?_
  refine V.get (q := 21) C fl_X8_30 dX8_become_18 rfl (okC_6 (by omega)) rfl rfl ?_
  refine V.topi (x1 := B w2 80) ((setB_ne (Or.inl h)).trans (setB_ne (Or.inl h))) ?_
  refine V.put (q := 24) C fl_X8_30 rfl dX8_become_21 rfl (okC_6 (by omega)) rfl (Nat.le_of_ble_eq_true rfl) rfl rfl rfl ?_
  refine V.phE (uC_6_4) ?_
  refine V.aload_n (q := 25) C dX8_become_24 rfl rfl ?_
  refine V.aload_n (q := 26) C dX8_become_25 rfl rfl ?_
  refine V.get (q := 29) C fl_X8_36 dX8_become_26 rfl (okC_6 (by omega)) rfl rfl ?_
  refine V.put (q := 32) C fl_X8_36 rfl dX8_become_29 rfl (okC_6 (by omega)) rfl (Nat.le_of_ble_eq_true rfl) rfl rfl rfl ?_
  refine V.phE (uC_6_5) ?_
  rw [bcB_0]
  refine V.iconst (q := 33) (v := nI 0) C dX8_become_32 rfl (by decide) ?_
  refine V.istore_n (q := 34) C dX8_become_33 rfl (by decide) rfl rfl ?_
  refine c_become_w hw hw2 h hI C ?_ n 0 (by omega)
  refine V.iconst (q := 64) (v := nI 0) C dX8_become_63 rfl (by decide) ?_
  refine V.istore_n (q := 65) C dX8_become_64 rfl (by decide) rfl rfl ?_
  refine c_become_s hw hw2 h hI C ?_ m 0 (by omega)
  exact V.vreturn C dX8_become_94 ⟨rfl, rfl, rfl⟩
theorem c_becomeOne {l : Launch} {g : GG} {X : PHp} {h0 : HZ} {ct : CTt} {cl : I2} {rd : RDt} {B : I2} {cy : Nat → Nat} {rw : RWt} {tl : TLt} {sp : SPt} {w w2 p : Nat} (hw : w < 3) (hw2 : w2 < 3) (h : w2 ≠ w) (hp : p < 6) : Ct l g yX8_becomeOne cX8_becomeOne 3 none 3 0 0 [rf g (6, w, 0), rf g (6, w2, 0), .int (nI p)] NN (jn (hC g h0 ct cl rd B cy rw tl sp) X) (pV (jn (hC g h0 ct cl rd (cpW (setB B w 80 (B w2 80)) w p w2 p) cy rw tl sp) X)) := by
  refine Ct.of (lv := [some (rf g (6, w, 0)), some (rf g (6, w2, 0)), some (.int (nI p))]) (by decide +kernel) rfl (Nat.le_of_ble_eq_true rfl) ?_
  intro Γ C
  refine V.aload_n (q := 1) C dX8_becomeOne_0 rfl rfl ?_
  refine V.aload_n (q := 2) C dX8_becomeOne_1 rfl rfl ?_
  refine V.get (q := 5) C fl_X8_30 dX8_becomeOne_2 rfl (okC_6 (by omega)) rfl rfl ?_
  refine V.put (q := 8) C fl_X8_30 rfl dX8_becomeOne_5 rfl (okC_6 (by omega)) rfl (Nat.le_of_ble_eq_true rfl) rfl rfl rfl ?_
  refine V.phE (uC_6_4) ?_
  refine V.aload_n (q := 9) C dX8_becomeOne_8 rfl rfl ?_
  refine V.get (q := 12) C fl_X8_11 dX8_becomeOne_9 rfl (okC_6 (by omega)) rfl rfl ?_
  refine V.iload_n (q := 13) C dX8_becomeOne_12 rfl rfl ?_
  refine V.rld (q := 14) (i := p) C rfl dX8_becomeOne_13 rfl (okC_7 (by omega)) rfl rfl (by omega) (by decide) ?_
  refine V.aload_n (q := 15) C dX8_becomeOne_14 rfl rfl ?_
  refine V.get (q := 18) C fl_X8_11 dX8_becomeOne_15 rfl (okC_6 (by omega)) rfl rfl ?_
  refine V.iload_n (q := 19) C dX8_becomeOne_18 rfl rfl ?_
  refine V.rld (q := 20) (i := p) C rfl dX8_becomeOne_19 rfl (okC_7 (by omega)) rfl rfl (by omega) (by decide) ?_
  refine V.callVv (q := 23) C me_X7_become (c_wbecome (by omega) (by omega) (by omega) (by omega) (by omega)) ml_X8_44 dX8_becomeOne_20 rfl (okC_9 (by omega) (by omega)) ⟨_, rfl⟩ rfl rfl (Nat.le_of_ble_eq_true rfl) (by omega) (Nat.zero_le _) (Nat.zero_le _) ?_
  exact V.vreturn C dX8_becomeOne_23 ⟨rfl, rfl, rfl⟩
theorem bgC_hi {B : I2} {w i : Nat} {k9 v c : Int32} (hi : i < 6) {w1 k : Nat} (hk : 54 ≤ k) : bgC B w i k9 v c 4 w1 k = B w1 k := by
  simp only [bgC, itr]
  rw [setB_ne (by omega), setB_ne (by omega), setB_ne (by omega), setB_ne (by omega), setB_ne (by omega), setB_ne (by omega), setB_ne (by omega), setB_ne (by omega), setB_ne (by omega)]
def adW (B : I2) (w n : Nat) (k v c : Int32) : I2 := if n = 6 then B else setB (bgC B w n k v c 4) w 78 (nI (n + 1))
def adS (B : I2) (w m : Nat) (h e : Int32) : I2 := if m = 8 then B else setB (setB (setB (setB B w (54 + 3 * m + 0) h) w (54 + 3 * m + 1) e) w (54 + 3 * m + 2) (-5)) w 79 (nI (m + 1))
theorem c_addWearer {l : Launch} {g : GG} {X : PHp} {h0 : HZ} {ct : CTt} {cl : I2} {rd : RDt} {B : I2} {cy : Nat → Nat} {rw : RWt} {tl : TLt} {sp : SPt} {w n m : Nat} {k v c : Int32} (hw : w < 3) (hI : CI (B w) n m) : Ct l g yX8_addWearer cX8_addWearer 4 (some .int) 2 0 0 [rf g (6, w, 0), .int k, .int v, .int c] NN (jn (hC g h0 ct cl rd B cy rw tl sp) X) (pI (if n = 6 then -4 else nI n) (jn (hC g h0 ct cl rd (adW B w n k v c) cy rw tl sp) X)) := by
  refine Ct.of (lv := [some (rf g (6, w, 0)), some (.int k), some (.int v), some (.int c)]) (by decide +kernel) rfl (Nat.le_of_ble_eq_true rfl) ?_
  intro Γ C
  have h6 := hI.2.1
  refine V.aload_n (q := 1) C dX8_addWearer_0 rfl rfl ?_
  refine V.get (q := 4) C fl_X8_23 dX8_addWearer_1 rfl (okC_6 (by omega)) rfl rfl ?_
  refine V.topi (x1 := nI (n)) hI.1 ?_
  refine V.aload_n (q := 5) C dX8_addWearer_4 rfl rfl ?_
  refine V.get (q := 8) C fl_X8_11 dX8_addWearer_5 rfl (okC_6 (by omega)) rfl rfl ?_
  refine V.len_aR (q := 9) C rfl dX8_addWearer_8 rfl (okC_7 (by omega)) rfl ?_
  refine V.icmp_lt (q := 12) (tgt := 15) C dX8_addWearer_9 rfl rfl (fun hb9 => ?_) (fun hb9 => ?_)
  · have hn9 : n < 6 := (nI_ltI (by omega) (by omega)).mp hb9
    have q9 : ¬ n = 6 := by omega
    refine V.aload_n (q := 16) C dX8_addWearer_15 rfl rfl ?_
    refine V.get (q := 19) C fl_X8_11 dX8_addWearer_16 rfl (okC_6 (by omega)) rfl rfl ?_
    refine V.aload_n (q := 20) C dX8_addWearer_19 rfl rfl ?_
    refine V.get (q := 23) C fl_X8_23 dX8_addWearer_20 rfl (okC_6 (by omega)) rfl rfl ?_
    refine V.topi (x1 := nI (n)) hI.1 ?_
    refine V.rld (q := 24) (i := (n)) C rfl dX8_addWearer_23 rfl (okC_7 (by omega)) rfl rfl (by omega) (by decide) ?_
    refine V.iload_n (q := 25) C dX8_addWearer_24 rfl rfl ?_
    refine V.iload_n (q := 26) C dX8_addWearer_25 rfl rfl ?_
    refine V.iload_n (q := 27) C dX8_addWearer_26 rfl rfl ?_
    refine V.callVv (q := 30) C me_X7_begin (c_begin (by omega) (by omega)) ml_X8_51 dX8_addWearer_27 rfl (okC_9 (by omega) (by omega)) ⟨_, rfl⟩ rfl rfl (Nat.le_of_ble_eq_true rfl) (by omega) (Nat.zero_le _) (Nat.zero_le _) ?_
    refine V.aload_n (q := 31) C dX8_addWearer_30 rfl rfl ?_
    refine V.dup (q := 32) C dX8_addWearer_31 rfl rfl ?_
    refine V.get (q := 35) C fl_X8_23 dX8_addWearer_32 rfl (okC_6 (by omega)) rfl rfl ?_
    refine V.topi (x1 := nI (n)) ((bgC_hi (by omega) (by omega)).trans hI.1) ?_
    refine V.iconst (q := 36) (v := nI 1) C dX8_addWearer_35 rfl (by decide) ?_
    refine V.iadd (q := 37) C dX8_addWearer_36 rfl ?_
    refine V.topi (x1 := nI ((n) + 1)) (nI_add _ _) ?_
    refine V.put (q := 40) C fl_X8_23 rfl dX8_addWearer_37 rfl (okC_6 (by omega)) rfl (Nat.le_of_ble_eq_true rfl) rfl rfl rfl ?_
    refine V.phE (uC_6_2) ?_
    refine V.aload_n (q := 41) C dX8_addWearer_40 rfl rfl ?_
    refine V.get (q := 44) C fl_X8_23 dX8_addWearer_41 rfl (okC_6 (by omega)) rfl rfl ?_
    refine V.topi (x1 := nI ((n + 1))) setB_eq ?_
    refine V.iconst (q := 45) (v := nI 1) C dX8_addWearer_44 rfl (by decide) ?_
    refine V.isub (q := 46) C dX8_addWearer_45 rfl ?_
    refine V.topi (x1 := nI n) (pk_sub (by omega)) ?_
    exact V.ireturn C dX8_addWearer_46 ⟨by rw [if_neg q9], by rw [adW, if_neg q9], rfl⟩
  · have hn9 : n = 6 := by
      rcases Nat.lt_or_ge n 6 with q | q
      · exact absurd ((nI_ltI (by omega) (by omega)).mpr q) hb9
      · omega
    refine V.bipush (q := 14) (v := -4) C dX8_addWearer_12 rfl (by decide) ?_
    exact V.ireturn C dX8_addWearer_14 ⟨by rw [if_pos hn9], by rw [adW, if_pos hn9], rfl⟩
theorem c_addSaying {l : Launch} {g : GG} {X : PHp} {h0 : HZ} {ct : CTt} {cl : I2} {rd : RDt} {B : I2} {cy : Nat → Nat} {rw : RWt} {tl : TLt} {sp : SPt} {w n m : Nat} {h e : Int32} (hw : w < 3) (hI : CI (B w) n m) : Ct l g yX8_addSaying cX8_addSaying 4 (some .int) 1 0 0 [rf g (6, w, 0), .int h, .int e] NN (jn (hC g h0 ct cl rd B cy rw tl sp) X) (pI (if m = 8 then -4 else nI m) (jn (hC g h0 ct cl rd (adS B w m h e) cy rw tl sp) X)) := by
  refine Ct.of (lv := [some (rf g (6, w, 0)), some (.int h), some (.int e), none]) (by decide +kernel) rfl (Nat.le_of_ble_eq_true rfl) ?_
  intro Γ C
  have h6 := hI.2.2.2
  refine V.aload_n (q := 1) C dX8_addSaying_0 rfl rfl ?_
  refine V.get (q := 4) C fl_X8_27 dX8_addSaying_1 rfl (okC_6 (by omega)) rfl rfl ?_
  refine V.topi (x1 := nI (m)) hI.2.2.1 ?_
  refine V.aload_n (q := 5) C dX8_addSaying_4 rfl rfl ?_
  refine V.get (q := 8) C fl_X8_19 dX8_addSaying_5 rfl (okC_6 (by omega)) rfl rfl ?_
  refine V.len_aR (q := 9) C rfl dX8_addSaying_8 rfl (okC_8 (by omega)) rfl ?_
  refine V.icmp_lt (q := 12) (tgt := 15) C dX8_addSaying_9 rfl rfl (fun hb9 => ?_) (fun hb9 => ?_)
  · have hm9 : m < 8 := (nI_ltI (by omega) (by omega)).mp hb9
    have q9 : ¬ m = 8 := by omega
    refine V.aload_n (q := 16) C dX8_addSaying_15 rfl rfl ?_
    refine V.get (q := 19) C fl_X8_19 dX8_addSaying_16 rfl (okC_6 (by omega)) rfl rfl ?_
    refine V.aload_n (q := 20) C dX8_addSaying_19 rfl rfl ?_
    refine V.get (q := 23) C fl_X8_27 dX8_addSaying_20 rfl (okC_6 (by omega)) rfl rfl ?_
    refine V.topi (x1 := nI (m)) hI.2.2.1 ?_
    refine V.rld (q := 24) (i := (m)) C rfl dX8_addSaying_23 rfl (okC_8 (by omega)) rfl rfl (by omega) (by decide) ?_
    refine V.astore_n (q := 25) C dX8_addSaying_24 rfl (by decide) rfl rfl ?_
    refine V.aload_n (q := 26) C dX8_addSaying_25 rfl rfl ?_
    refine V.iload_n (q := 27) C dX8_addSaying_26 rfl rfl ?_
    refine V.put (q := 30) C fl_X8_55 rfl dX8_addSaying_27 rfl (okC_11 (by omega) (by omega)) rfl (Nat.le_of_ble_eq_true rfl) rfl rfl rfl ?_
    refine V.phE (uC_11_0 (by omega)) ?_
    refine V.aload_n (q := 31) C dX8_addSaying_30 rfl rfl ?_
    refine V.iload_n (q := 32) C dX8_addSaying_31 rfl rfl ?_
    refine V.put (q := 35) C fl_X8_58 rfl dX8_addSaying_32 rfl (okC_11 (by omega) (by omega)) rfl (Nat.le_of_ble_eq_true rfl) rfl rfl rfl ?_
    refine V.phE (uC_11_1 (by omega)) ?_
    refine V.aload_n (q := 36) C dX8_addSaying_35 rfl rfl ?_
    refine V.bipush (q := 38) (v := -5) C dX8_addSaying_36 rfl (by decide) ?_
    refine V.put (q := 41) C fl_X8_61 rfl dX8_addSaying_38 rfl (okC_11 (by omega) (by omega)) rfl (Nat.le_of_ble_eq_true rfl) rfl rfl rfl ?_
    refine V.phE (uC_11_2 (by omega)) ?_
    refine V.aload_n (q := 42) C dX8_addSaying_41 rfl rfl ?_
    refine V.dup (q := 43) C dX8_addSaying_42 rfl rfl ?_
    refine V.get (q := 46) C fl_X8_27 dX8_addSaying_43 rfl (okC_6 (by omega)) rfl rfl ?_
    refine V.topi (x1 := nI (m)) ((setB_ne (by omega)).trans ((setB_ne (by omega)).trans ((setB_ne (by omega)).trans hI.2.2.1))) ?_
    refine V.iconst (q := 47) (v := nI 1) C dX8_addSaying_46 rfl (by decide) ?_
    refine V.iadd (q := 48) C dX8_addSaying_47 rfl ?_
    refine V.topi (x1 := nI ((m) + 1)) (nI_add _ _) ?_
    refine V.put (q := 51) C fl_X8_27 rfl dX8_addSaying_48 rfl (okC_6 (by omega)) rfl (Nat.le_of_ble_eq_true rfl) rfl rfl rfl ?_
    refine V.phE (uC_6_3) ?_
    refine V.aload_n (q := 52) C dX8_addSaying_51 rfl rfl ?_
    refine V.get (q := 55) C fl_X8_27 dX8_addSaying_52 rfl (okC_6 (by omega)) rfl rfl ?_
    refine V.topi (x1 := nI ((m + 1))) setB_eq ?_
    refine V.iconst (q := 56) (v := nI 1) C dX8_addSaying_55 rfl (by decide) ?_
    refine V.isub (q := 57) C dX8_addSaying_56 rfl ?_
    refine V.topi (x1 := nI m) (pk_sub (by omega)) ?_
    exact V.ireturn C dX8_addSaying_57 ⟨by rw [if_neg q9], by rw [adS, if_neg q9], rfl⟩
  · have hm9 : m = 8 := by
      rcases Nat.lt_or_ge m 8 with q | q
      · exact absurd ((nI_ltI (by omega) (by omega)).mpr q) hb9
      · omega
    refine V.bipush (q := 14) (v := -4) C dX8_addSaying_12 rfl (by decide) ?_
    exact V.ireturn C dX8_addSaying_14 ⟨by rw [if_pos hm9], by rw [adS, if_pos hm9], rfl⟩
