theorem rwN_le (r : Nat) : rwN r ≤ 10 := by
  unfold rwN
  split
  · omega
  · split <;> omega
/-- a row more -/
def adR (rw : RWt) (h r k : Nat) (a b c : Int32) : RWt := if k = rwN r then rw else (up2 rw.1 h r (upd (rw.1 h r) k a), up2 rw.2.1 h r (upd (rw.2.1 h r) k b), up2 rw.2.2.1 h r (upd (rw.2.2.1 h r) k c), up2 rw.2.2.2 h r (nI (k + 1)))
def mxI (x z : Int32) : Int32 := if x < z then z else x
def laC (f : I1) (j : Nat) : Int32 := itr (fun i x => mxI x (f i)) j (-1)
/-- rows r of hand h become those of hand h2 -/
def bkR (rw : RWt) (h h2 r k : Nat) : RWt := (up2 rw.1 h r (va_cpy (rw.1 h2 r) (rw.1 h r) 0 0 k), up2 rw.2.1 h r (va_cpy (rw.2.1 h2 r) (rw.2.1 h r) 0 0 k), up2 rw.2.2.1 h r (va_cpy (rw.2.2.1 h2 r) (rw.2.2.1 h r) 0 0 k), up2 rw.2.2.2 h r (nI k))
theorem c_empty {l : Launch} {g : GG} {X : PHp} {h0 : HZ} {ct : CTt} {cl : I2} {rd : RDt} {B : I2} {cy : Nat → Nat} {rw : RWt} {tl : TLt} {sp : SPt} {h r : Nat} (hh : h < 2) (hr : r < 4) : Ct l g yX3_empty cX3_empty 1 (some .int) 1 0 0 [rf g (13, h, r)] NN (jn (hC g h0 ct cl rd B cy rw tl sp) X) (pI (nI 0) (jn (hC g h0 ct cl rd B cy (rw.1, rw.2.1, rw.2.2.1, up2 rw.2.2.2 h r (nI 0)) tl sp) X)) := by
  refine Ct.of (lv := [some (rf g (13, h, r))]) (by decide +kernel) rfl (Nat.le_of_ble_eq_true rfl) ?_
  intro Γ C
  refine V.aload_n (q := 1) C dX3_empty_0 rfl rfl ?_
  refine V.iconst (q := 2) (v := nI 0) C dX3_empty_1 rfl (by decide) ?_
  refine V.put (q := 5) C fl_X3_9 rfl dX3_empty_2 rfl (okC_13 (by omega) (by omega)) rfl (Nat.le_of_ble_eq_true rfl) rfl rfl rfl ?_
  refine V.phE (uC_13_3) ?_
  refine V.iconst (q := 6) (v := nI 0) C dX3_empty_5 rfl (by decide) ?_
  exact V.ireturn C dX3_empty_6 ⟨rfl, rfl, rfl⟩
theorem c_add {l : Launch} {g : GG} {X : PHp} {h0 : HZ} {ct : CTt} {cl : I2} {rd : RDt} {B : I2} {cy : Nat → Nat} {rw : RWt} {tl : TLt} {sp : SPt} {h r : Nat} (hh : h < 2) (hr : r < 4) {k : Nat} (hk : rw.2.2.2 h r = nI k) (hk1 : k ≤ rwN r) {a b c : Int32} : Ct l g yX3_add cX3_add 4 (some .int) 1 0 0 [rf g (13, h, r), .int a, .int b, .int c] NN (jn (hC g h0 ct cl rd B cy rw tl sp) X) (pI (if k = rwN r then -4 else nI (k + 1)) (jn (hC g h0 ct cl rd B cy (adR rw h r k a b c) tl sp) X)) := by
  refine Ct.of (lv := [some (rf g (13, h, r)), some (.int a), some (.int b), some (.int c)]) (by decide +kernel) rfl (Nat.le_of_ble_eq_true rfl) ?_
  intro Γ C
  have hz := rwN_le r
  refine V.aload_n (q := 1) C dX3_add_0 rfl rfl ?_
  refine V.get (q := 4) C fl_X3_9 dX3_add_1 rfl (okC_13 (by omega) (by omega)) rfl rfl ?_
  try dsimp only
  refine V.topi (x1 := nI (k)) hk ?_
  refine V.aload_n (q := 5) C dX3_add_4 rfl rfl ?_
  refine V.get (q := 8) C fl_X3_21 dX3_add_5 rfl (okC_13 (by omega) (by omega)) rfl rfl ?_
  refine V.len_aI (q := 9) C dX3_add_8 rfl (okC_14 (by omega) (by omega)) rfl ?_
  refine V.icmp_lt (q := 12) (tgt := 15) C dX3_add_9 rfl rfl (fun hb9 => ?_) (fun hb9 => ?_)
  · have k9 : k < rwN r := (nI_ltI (by omega) (by omega)).mp hb9
    have q9 : ¬ k = rwN r := by omega
    refine V.aload_n (q := 16) C dX3_add_15 rfl rfl ?_
    refine V.get (q := 19) C fl_X3_21 dX3_add_16 rfl (okC_13 (by omega) (by omega)) rfl rfl ?_
    refine V.aload_n (q := 20) C dX3_add_19 rfl rfl ?_
    refine V.get (q := 23) C fl_X3_9 dX3_add_20 rfl (okC_13 (by omega) (by omega)) rfl rfl ?_
    try dsimp only
    refine V.topi (x1 := nI (k)) hk ?_
    refine V.iload_n (q := 24) C dX3_add_23 rfl rfl ?_
    refine V.ist (q := 25) (i := (k)) C dX3_add_24 rfl (okC_14 (by omega) (by omega)) rfl rfl (by omega) (by omega) rfl ?_
    refine V.phE (uC_14) ?_
    try dsimp only
    refine V.aload_n (q := 26) C dX3_add_25 rfl rfl ?_
    refine V.get (q := 29) C fl_X3_25 dX3_add_26 rfl (okC_13 (by omega) (by omega)) rfl rfl ?_
    refine V.aload_n (q := 30) C dX3_add_29 rfl rfl ?_
    refine V.get (q := 33) C fl_X3_9 dX3_add_30 rfl (okC_13 (by omega) (by omega)) rfl rfl ?_
    try dsimp only
    refine V.topi (x1 := nI (k)) hk ?_
    refine V.iload_n (q := 34) C dX3_add_33 rfl rfl ?_
    refine V.ist (q := 35) (i := (k)) C dX3_add_34 rfl (okC_15 (by omega) (by omega)) rfl rfl (by omega) (by omega) rfl ?_
    refine V.phE (uC_15) ?_
    try dsimp only
    refine V.aload_n (q := 36) C dX3_add_35 rfl rfl ?_
    refine V.get (q := 39) C fl_X3_28 dX3_add_36 rfl (okC_13 (by omega) (by omega)) rfl rfl ?_
    refine V.aload_n (q := 40) C dX3_add_39 rfl rfl ?_
    refine V.get (q := 43) C fl_X3_9 dX3_add_40 rfl (okC_13 (by omega) (by omega)) rfl rfl ?_
    try dsimp only
    refine V.topi (x1 := nI (k)) hk ?_
    refine V.iload_n (q := 44) C dX3_add_43 rfl rfl ?_
    refine V.ist (q := 45) (i := (k)) C dX3_add_44 rfl (okC_16 (by omega) (by omega)) rfl rfl (by omega) (by omega) rfl ?_
    refine V.phE (uC_16) ?_
    try dsimp only
    refine V.aload_n (q := 46) C dX3_add_45 rfl rfl ?_
    refine V.dup (q := 47) C dX3_add_46 rfl rfl ?_
    refine V.get (q := 50) C fl_X3_9 dX3_add_47 rfl (okC_13 (by omega) (by omega)) rfl rfl ?_
    try dsimp only
    refine V.topi (x1 := nI (k)) hk ?_
    refine V.iconst (q := 51) (v := nI 1) C dX3_add_50 rfl (by decide) ?_
    refine V.iadd (q := 52) C dX3_add_51 rfl ?_
    refine V.topi (x1 := nI ((k) + 1)) (nI_add _ _) ?_
    refine V.put (q := 55) C fl_X3_9 rfl dX3_add_52 rfl (okC_13 (by omega) (by omega)) rfl (Nat.le_of_ble_eq_true rfl) rfl rfl rfl ?_
    refine V.phE (uC_13_3) ?_
    try dsimp only
    refine V.aload_n (q := 56) C dX3_add_55 rfl rfl ?_
    refine V.get (q := 59) C fl_X3_9 dX3_add_56 rfl (okC_13 (by omega) (by omega)) rfl rfl ?_
    try dsimp only
    refine V.topi (x1 := nI ((k + 1))) up2_eq ?_
    exact V.ireturn C dX3_add_59 ⟨by rw [if_neg q9], by rw [adR, if_neg q9], rfl⟩
  · have q9 : k = rwN r := by
      rcases Nat.lt_or_ge k (rwN r) with q | q
      · exact absurd ((nI_ltI (by omega) (by omega)).mpr q) hb9
      · omega
    refine V.bipush (q := 14) (v := -4) C dX3_add_12 rfl (by decide) ?_
    exact V.ireturn C dX3_add_14 ⟨by rw [if_pos q9], by rw [adR, if_pos q9], rfl⟩
theorem c_lastDay_l {l : Launch} {g : GG} {X : PHp} {h0 : HZ} {ct : CTt} {cl : I2} {rd : RDt} {B : I2} {cy : Nat → Nat} {rw : RWt} {tl : TLt} {sp : SPt} {Γ : Cxt} {Q : State → Prop} {h r : Nat} (hh : h < 2) (hr : r < 4) {c0 : Nat} (hk : rw.2.2.2 h r = nI c0) (hk1 : c0 ≤ rwN r) (C : Cx Γ g cX3_lastDay yX3_lastDay 3 (some .int) 2 0 0) (kx : V l Γ g 3 Q 0 0 NN (jn (hC g h0 ct cl rd B cy rw tl sp) X) 29 [some (rf g (13, h, r)), some (.int (laC (rw.2.1 h r) c0)), some (.int (nI c0))] []) : ∀ k j : Nat, j + k = c0 → V l Γ g 3 Q 0 0 NN (jn (hC g h0 ct cl rd B cy rw tl sp) X) 4 [some (rf g (13, h, r)), some (.int (laC (rw.2.1 h r) j)), some (.int (nI j))] [] := by
  intro k
  induction k with
  | zero =>
    intro j hj
    obtain rfl : c0 = j := by omega
    have hz := rwN_le r
    refine V.iload_n (q := 5) C dX3_lastDay_4 rfl rfl ?_
    refine V.aload_n (q := 6) C dX3_lastDay_5 rfl rfl ?_
    refine V.get (q := 9) C fl_X3_9 dX3_lastDay_6 rfl (okC_13 (by omega) (by omega)) rfl rfl ?_
    refine V.topi (x1 := nI (c0)) hk ?_
    refine V.icmp_ge (q := 12) (tgt := 29) C dX3_lastDay_9 rfl rfl (fun hb9 => ?_) (fun hb9 => ?_)
    · exact kx
    · exact absurd ((nI_leI (by omega) (by omega)).mpr (by omega)) hb9
  | succ k ih =>
    intro j hj
    have hz := rwN_le r
    refine V.iload_n (q := 5) C dX3_lastDay_4 rfl rfl ?_
    refine V.aload_n (q := 6) C dX3_lastDay_5 rfl rfl ?_
    refine V.get (q := 9) C fl_X3_9 dX3_lastDay_6 rfl (okC_13 (by omega) (by omega)) rfl rfl ?_
    refine V.topi (x1 := nI (c0)) hk ?_
    refine V.icmp_ge (q := 12) (tgt := 29) C dX3_lastDay_9 rfl rfl (fun hb9 => ?_) (fun hb9 => ?_)
    · exact absurd ((nI_leI (by omega) (by omega)).mp hb9) (by omega)
    · refine V.iload_n (q := 13) C dX3_lastDay_12 rfl rfl ?_
      refine V.aload_n (q := 14) C dX3_lastDay_13 rfl rfl ?_
      refine V.get (q := 17) C fl_X3_25 dX3_lastDay_14 rfl (okC_13 (by omega) (by omega)) rfl rfl ?_
      refine V.iload_n (q := 18) C dX3_lastDay_17 rfl rfl ?_
      refine V.ild (q := 19) (i := j) C dX3_lastDay_18 rfl (okC_15 (by omega) (by omega)) rfl rfl (by omega) (by omega) ?_
      refine V.max (q := 22) C dX3_lastDay_19 (tb_at 185 (by decide +kernel) rfl) rfl ?_
      refine V.istore_n (q := 23) C dX3_lastDay_22 rfl (by decide) rfl rfl ?_
      refine V.iinc (q := 26) (v := nI (j + 1)) C dX3_lastDay_23 rfl rfl (nI_1 _) (by decide) rfl rfl ?_
      refine V.goto (tgt := 4) C dX3_lastDay_26 rfl ?_
      exact ih (j + 1) (by omega)
theorem c_lastDay {l : Launch} {g : GG} {X : PHp} {h0 : HZ} {ct : CTt} {cl : I2} {rd : RDt} {B : I2} {cy : Nat → Nat} {rw : RWt} {tl : TLt} {sp : SPt} {h r : Nat} (hh : h < 2) (hr : r < 4) {c0 : Nat} (hk : rw.2.2.2 h r = nI c0) (hk1 : c0 ≤ rwN r) : Ct l g yX3_lastDay cX3_lastDay 3 (some .int) 2 0 0 [rf g (13, h, r)] NN (jn (hC g h0 ct cl rd B cy rw tl sp) X) (pI (laC (rw.2.1 h r) c0) (jn (hC g h0 ct cl rd B cy rw tl sp) X)) := by
  refine Ct.of (lv := [some (rf g (13, h, r)), none, none]) (by decide +kernel) rfl (Nat.le_of_ble_eq_true rfl) ?_
  intro Γ C
  refine V.iconst (q := 1) (v := -1) C dX3_lastDay_0 rfl (by decide) ?_
  refine V.istore_n (q := 2) C dX3_lastDay_1 rfl (by decide) rfl rfl ?_
  refine V.iconst (q := 3) (v := nI 0) C dX3_lastDay_2 rfl (by decide) ?_
  refine V.istore_n (q := 4) C dX3_lastDay_3 rfl (by decide) rfl rfl ?_
  refine c_lastDay_l hh hr hk hk1 C ?_ c0 0 (by omega)
  refine V.iload_n (q := 30) C dX3_lastDay_29 rfl rfl ?_
  exact V.ireturn C dX3_lastDay_30 ⟨rfl, rfl, rfl⟩
theorem c_rbecome {l : Launch} {g : GG} {X : PHp} {h0 : HZ} {ct : CTt} {cl : I2} {rd : RDt} {B : I2} {cy : Nat → Nat} {rw : RWt} {tl : TLt} {sp : SPt} {h h2 r k : Nat} (hh : h < 2) (hh2 : h2 < 2) (hr : r < 4) (hk : rw.2.2.2 h2 r = nI k) (hk1 : k ≤ rwN r) : Ct l g yX3_become cX3_become 2 none 2 0 0 [rf g (13, h, r), rf g (13, h2, r)] NN (jn (hC g h0 ct cl rd B cy rw tl sp) X) (pV (jn (hC g h0 ct cl rd B cy (bkR rw h h2 r k) tl sp) X)) := by
  refine Ct.of (lv := [some (rf g (13, h, r)), some (rf g (13, h2, r))]) (by decide +kernel) rfl (Nat.le_of_ble_eq_true rfl) ?_
  intro Γ C
  have hz := rwN_le r
  refine V.aload_n (q := 1) C dX3_become_0 rfl rfl ?_
  refine V.aload_n (q := 2) C dX3_become_1 rfl rfl ?_
  refine V.get (q := 5) C fl_X3_9 dX3_become_2 rfl (okC_13 (by omega) (by omega)) rfl rfl ?_
  try dsimp only
  refine V.topi (x1 := nI (k)) hk ?_
  refine V.aload_n (q := 6) C dX3_become_5 rfl rfl ?_
  refine V.get (q := 9) C fl_X3_21 dX3_become_6 rfl (okC_13 (by omega) (by omega)) rfl rfl ?_
  refine V.len_aI (q := 10) C dX3_become_9 rfl (okC_14 (by omega) (by omega)) rfl ?_
  refine V.min (q := 13) C dX3_become_10 (tb_at 695 (by decide +kernel) rfl) rfl ?_
  refine V.topi (x1 := nI (k)) (if_neg (nI_nlt (by omega) (by omega))) ?_
  refine V.put (q := 16) C fl_X3_9 rfl dX3_become_13 rfl (okC_13 (by omega) (by omega)) rfl (Nat.le_of_ble_eq_true rfl) rfl rfl rfl ?_
  refine V.phE (uC_13_3) ?_
  try dsimp only
  refine V.aload_n (q := 17) C dX3_become_16 rfl rfl ?_
  refine V.get (q := 20) C fl_X3_21 dX3_become_17 rfl (okC_13 (by omega) (by omega)) rfl rfl ?_
  refine V.iconst (q := 21) (v := nI 0) C dX3_become_20 rfl (by decide) ?_
  refine V.aload_n (q := 22) C dX3_become_21 rfl rfl ?_
  refine V.get (q := 25) C fl_X3_21 dX3_become_22 rfl (okC_13 (by omega) (by omega)) rfl rfl ?_
  refine V.iconst (q := 26) (v := nI 0) C dX3_become_25 rfl (by decide) ?_
  refine V.aload_n (q := 27) C dX3_become_26 rfl rfl ?_
  refine V.get (q := 30) C fl_X3_9 dX3_become_27 rfl (okC_13 (by omega) (by omega)) rfl rfl ?_
  try dsimp only
  refine V.topi (x1 := nI (k)) up2_eq ?_
  refine V.copyI (q := 33) (sp := 0) (dp := 0) (k := k) C dX3_become_30 (tb_at 696 (by decide +kernel) rfl) rfl (okC_14 hh2 hr) (okC_14 hh hr) rfl rfl rfl rfl rfl (by omega) (by omega) (by omega) rfl ?_
  refine V.phE uC_14 ?_
  try dsimp only
  refine V.aload_n (q := 34) C dX3_become_33 rfl rfl ?_
  refine V.get (q := 37) C fl_X3_25 dX3_become_34 rfl (okC_13 (by omega) (by omega)) rfl rfl ?_
  refine V.iconst (q := 38) (v := nI 0) C dX3_become_37 rfl (by decide) ?_
  refine V.aload_n (q := 39) C dX3_become_38 rfl rfl ?_
  refine V.get (q := 42) C fl_X3_25 dX3_become_39 rfl (okC_13 (by omega) (by omega)) rfl rfl ?_
  refine V.iconst (q := 43) (v := nI 0) C dX3_become_42 rfl (by decide) ?_
  refine V.aload_n (q := 44) C dX3_become_43 rfl rfl ?_
  refine V.get (q := 47) C fl_X3_9 dX3_become_44 rfl (okC_13 (by omega) (by omega)) rfl rfl ?_
  try dsimp only
  refine V.topi (x1 := nI (k)) up2_eq ?_
  refine V.copyI (q := 50) (sp := 0) (dp := 0) (k := k) C dX3_become_47 (tb_at 696 (by decide +kernel) rfl) rfl (okC_15 hh2 hr) (okC_15 hh hr) rfl rfl rfl rfl rfl (by omega) (by omega) (by omega) rfl ?_
  refine V.phE uC_15 ?_
  try dsimp only
  refine V.aload_n (q := 51) C dX3_become_50 rfl rfl ?_
  refine V.get (q := 54) C fl_X3_28 dX3_become_51 rfl (okC_13 (by omega) (by omega)) rfl rfl ?_
  refine V.iconst (q := 55) (v := nI 0) C dX3_become_54 rfl (by decide) ?_
  refine V.aload_n (q := 56) C dX3_become_55 rfl rfl ?_
  refine V.get (q := 59) C fl_X3_28 dX3_become_56 rfl (okC_13 (by omega) (by omega)) rfl rfl ?_
  refine V.iconst (q := 60) (v := nI 0) C dX3_become_59 rfl (by decide) ?_
  refine V.aload_n (q := 61) C dX3_become_60 rfl rfl ?_
  refine V.get (q := 64) C fl_X3_9 dX3_become_61 rfl (okC_13 (by omega) (by omega)) rfl rfl ?_
  try dsimp only
  refine V.topi (x1 := nI (k)) up2_eq ?_
  refine V.copyI (q := 67) (sp := 0) (dp := 0) (k := k) C dX3_become_64 (tb_at 696 (by decide +kernel) rfl) rfl (okC_16 hh2 hr) (okC_16 hh hr) rfl rfl rfl rfl rfl (by omega) (by omega) (by omega) rfl ?_
  refine V.phE uC_16 ?_
  try dsimp only
  exact V.vreturn C dX3_become_67 ⟨rfl, rfl, rfl⟩
def bkH (rw : RWt) (h h2 : Nat) (k : Nat → Nat) : RWt := bkR (bkR (bkR (bkR rw h h2 0 (k 0)) h h2 1 (k 1)) h h2 2 (k 2)) h h2 3 (k 3)
theorem bkR_c {rw : RWt} {h h2 r k r1 : Nat} (q : h2 ≠ h) : (bkR rw h h2 r k).2.2.2 h2 r1 = rw.2.2.2 h2 r1 := up2_ne (fun z => q z.1)
theorem c_hbecome {l : Launch} {g : GG} {X : PHp} {h0 : HZ} {ct : CTt} {cl : I2} {rd : RDt} {B : I2} {cy : Nat → Nat} {rw : RWt} {tl : TLt} {sp : SPt} {h h2 : Nat} {k : Nat → Nat} (hh : h < 2) (hh2 : h2 < 2) (h9 : h2 ≠ h) (hk : ∀ r, r < 4 → rw.2.2.2 h2 r = nI (k r) ∧ k r ≤ rwN r) : Ct l g yX1_become cX1_become 2 none 3 0 0 [rf g (12, h, 0), rf g (12, h2, 0)] NN (jn (hC g h0 ct cl rd B cy rw tl sp) X) (pV (jn (hC g h0 ct cl rd B cy (bkH rw h h2 k) tl sp) X)) := by
  refine Ct.of (lv := [some (rf g (12, h, 0)), some (rf g (12, h2, 0))]) (by decide +kernel) rfl (Nat.le_of_ble_eq_true rfl) ?_
  intro Γ C
  refine V.aload_n (q := 1) C dX1_become_0 rfl rfl ?_
  refine V.get (q := 4) C fl_X1_12 dX1_become_1 rfl (okC_12 (by omega)) rfl rfl ?_
  refine V.aload_n (q := 5) C dX1_become_4 rfl rfl ?_
  refine V.get (q := 8) C fl_X1_12 dX1_become_5 rfl (okC_12 (by omega)) rfl rfl ?_
  refine V.callVv (q := 11) C me_X3_become (c_rbecome (by omega) (by omega) (by omega) (hk 0 (by omega)).1 (hk 0 (by omega)).2) ml_X1_27 dX1_become_8 rfl (okC_13 (by omega) (by omega)) ⟨_, rfl⟩ rfl rfl (Nat.le_of_ble_eq_true rfl) (by omega) (Nat.zero_le _) (Nat.zero_le _) ?_
  refine V.aload_n (q := 12) C dX1_become_11 rfl rfl ?_
  refine V.get (q := 15) C fl_X1_18 dX1_become_12 rfl (okC_12 (by omega)) rfl rfl ?_
  refine V.aload_n (q := 16) C dX1_become_15 rfl rfl ?_
  refine V.get (q := 19) C fl_X1_18 dX1_become_16 rfl (okC_12 (by omega)) rfl rfl ?_
  refine V.callVv (q := 22) C me_X3_become (c_rbecome (by omega) (by omega) (by omega) ((bkR_c h9).trans (hk 1 (by omega)).1) (hk 1 (by omega)).2) ml_X1_27 dX1_become_19 rfl (okC_13 (by omega) (by omega)) ⟨_, rfl⟩ rfl rfl (Nat.le_of_ble_eq_true rfl) (by omega) (Nat.zero_le _) (Nat.zero_le _) ?_
  refine V.aload_n (q := 23) C dX1_become_22 rfl rfl ?_
  refine V.get (q := 26) C fl_X1_21 dX1_become_23 rfl (okC_12 (by omega)) rfl rfl ?_
  refine V.aload_n (q := 27) C dX1_become_26 rfl rfl ?_
  refine V.get (q := 30) C fl_X1_21 dX1_become_27 rfl (okC_12 (by omega)) rfl rfl ?_
  refine V.callVv (q := 33) C me_X3_become (c_rbecome (by omega) (by omega) (by omega) ((bkR_c h9).trans ((bkR_c h9).trans (hk 2 (by omega)).1)) (hk 2 (by omega)).2) ml_X1_27 dX1_become_30 rfl (okC_13 (by omega) (by omega)) ⟨_, rfl⟩ rfl rfl (Nat.le_of_ble_eq_true rfl) (by omega) (Nat.zero_le _) (Nat.zero_le _) ?_
  refine V.aload_n (q := 34) C dX1_become_33 rfl rfl ?_
  refine V.get (q := 37) C fl_X1_24 dX1_become_34 rfl (okC_12 (by omega)) rfl rfl ?_
  refine V.aload_n (q := 38) C dX1_become_37 rfl rfl ?_
  refine V.get (q := 41) C fl_X1_24 dX1_become_38 rfl (okC_12 (by omega)) rfl rfl ?_
  refine V.callVv (q := 44) C me_X3_become (c_rbecome (by omega) (by omega) (by omega) ((bkR_c h9).trans ((bkR_c h9).trans ((bkR_c h9).trans (hk 3 (by omega)).1))) (hk 3 (by omega)).2) ml_X1_27 dX1_become_41 rfl (okC_13 (by omega) (by omega)) ⟨_, rfl⟩ rfl rfl (Nat.le_of_ble_eq_true rfl) (by omega) (Nat.zero_le _) (Nat.zero_le _) ?_
  exact V.vreturn C dX1_become_44 ⟨rfl, rfl, rfl⟩
theorem va_up_up {α : Type} {f : Nat → α} {k : Nat} {v u : α} : va_up (va_up f k v) k u = va_up f k u := by
  funext j
  simp only [va_up]
  split <;> rfl
def laZ (G : Nat → Int64) (j : Nat) : Nat → Int64 := mixL j (fun _ => 0) G
theorem c_stbecome_l {l : Launch} {g : GG} {X : PHp} {h0 : HZ} {ct : CTt} {cl : I2} {rd : RDt} {B : I2} {cy : Nat → Nat} {rw : RWt} {tl : TLt} {Γ : Cxt} {Q : State → Prop} {t : Nat} {a b : Int32} {i9 : Nat → Nat → Int64} {s9 l9 : I1} (ht : t < 6) (C : Cx Γ g cX5_become yX5_become 4 none 1 0 0) (kx : V l Γ g 4 Q 0 0 NN (jn (hC g h0 ct cl rd B cy rw tl (va_up i9 t (laZ (i9 t) 60), s9, l9)) X) 34 [some (rf g (20, t, 0)), some (.int a), some (.int b), some (.int (nI 60))] []) : ∀ k j : Nat, j + k = 60 → V l Γ g 4 Q 0 0 NN (jn (hC g h0 ct cl rd B cy rw tl (va_up i9 t (laZ (i9 t) j), s9, l9)) X) 12 [some (rf g (20, t, 0)), some (.int a), some (.int b), some (.int (nI j))] [] := by
  intro k
  induction k with
  | zero =>
    intro j hj
    have ej : j = 60 := by omega
    subst ej
    refine V.iload_n (q := 13) C dX5_become_12 rfl rfl ?_
    refine V.aload_n (q := 14) C dX5_become_13 rfl rfl ?_
    refine V.get (q := 17) C fl_X5_9 dX5_become_14 rfl (okC_20 (by omega)) rfl rfl ?_
    refine V.len_aL (q := 18) C dX5_become_17 rfl (okC_21 (by omega)) rfl ?_
    refine V.icmp_ge (q := 21) (tgt := 34) C dX5_become_18 rfl rfl (fun hb18 => ?_) (fun hb18 => ?_)
    · exact kx
    · exact absurd ((nI_leI (by omega) (by omega)).mpr (by omega)) hb18
  | succ k ih =>
    intro j hj
    refine V.iload_n (q := 13) C dX5_become_12 rfl rfl ?_
    refine V.aload_n (q := 14) C dX5_become_13 rfl rfl ?_
    refine V.get (q := 17) C fl_X5_9 dX5_become_14 rfl (okC_20 (by omega)) rfl rfl ?_
    refine V.len_aL (q := 18) C dX5_become_17 rfl (okC_21 (by omega)) rfl ?_
    refine V.icmp_ge (q := 21) (tgt := 34) C dX5_become_18 rfl rfl (fun hb18 => ?_) (fun hb18 => ?_)
    · exact absurd ((nI_leI (by omega) (by omega)).mp hb18) (by omega)
    · refine V.aload_n (q := 22) C dX5_become_21 rfl rfl ?_
      refine V.get (q := 25) C fl_X5_9 dX5_become_22 rfl (okC_20 (by omega)) rfl rfl ?_
      refine V.iload_n (q := 26) C dX5_become_25 rfl rfl ?_
      refine V.lconst (q := 27) (v := 0) C dX5_become_26 rfl (by decide) ?_
      refine V.lst (q := 28) (i := j) C dX5_become_27 rfl (okC_21 (by omega)) rfl rfl (by omega) (by decide) rfl ?_
      refine V.phE (uC_21) ?_
      try dsimp only
      refine V.iinc (q := 31) (v := nI (j + 1)) C dX5_become_28 rfl rfl (nI_1 _) (by decide) rfl rfl ?_
      refine V.goto (tgt := 12) C dX5_become_31 rfl ?_
      rw [va_up_self, va_up_up, show vp_updL (laZ (i9 t) j) j 0 = laZ (i9 t) (j + 1) from mixL_s]
      exact ih (j + 1) (by omega)
theorem c_stbecome {l : Launch} {g : GG} {X : PHp} {h0 : HZ} {ct : CTt} {cl : I2} {rd : RDt} {B : I2} {cy : Nat → Nat} {rw : RWt} {tl : TLt} {sp : SPt} {t : Nat} {a b : Int32} (ht : t < 6) : Ct l g yX5_become cX5_become 4 none 1 0 0 [rf g (20, t, 0), .int a, .int b] NN (jn (hC g h0 ct cl rd B cy rw tl sp) X) (pV (jn (hC g h0 ct cl rd B cy rw tl (va_up sp.1 t (laZ (sp.1 t) 60), va_up sp.2.1 t a, va_up sp.2.2 t b)) X)) := by
  refine Ct.of (lv := [some (rf g (20, t, 0)), some (.int a), some (.int b), none]) (by decide +kernel) rfl (Nat.le_of_ble_eq_true rfl) ?_
  intro Γ C
  refine V.aload_n (q := 1) C dX5_become_0 rfl rfl ?_
  refine V.iload_n (q := 2) C dX5_become_1 rfl rfl ?_
  refine V.put (q := 5) C fl_X5_15 rfl dX5_become_2 rfl (okC_20 (by omega)) rfl (Nat.le_of_ble_eq_true rfl) rfl rfl rfl ?_
  refine V.phE (uC_20_1) ?_
  try dsimp only
  refine V.aload_n (q := 6) C dX5_become_5 rfl rfl ?_
  refine V.iload_n (q := 7) C dX5_become_6 rfl rfl ?_
  refine V.put (q := 10) C fl_X5_19 rfl dX5_become_7 rfl (okC_20 (by omega)) rfl (Nat.le_of_ble_eq_true rfl) rfl rfl rfl ?_
  refine V.phE (uC_20_2) ?_
  try dsimp only
  refine V.iconst (q := 11) (v := nI 0) C dX5_become_10 rfl (by decide) ?_
  refine V.istore_n (q := 12) C dX5_become_11 rfl (by decide) rfl rfl ?_
  refine V.phE (fun q _ => congrFun (congrArg (fun z => (jn (hC g h0 ct cl rd B cy rw tl (z, va_up sp.2.1 t a, va_up sp.2.2 t b)) X)) (show sp.1 = va_up sp.1 t (laZ (sp.1 t) 0) by funext j; simp only [va_up, laZ, mixL_0]; split <;> simp_all)) q) ?_
  refine c_stbecome_l ht C ?_ 60 0 (by omega)
  exact V.vreturn C dX5_become_34 ⟨rfl, rfl, rfl⟩
def hoC (f n le : Int32) : Prop := ¬ f < 0 ∧ ¬ n < 0 ∧ ¬ le < n ∧ ¬ le - n < f
theorem c_holds {l : Launch} {g : GG} {X : PHp} {h0 : HZ} {ct : CTt} {cl : I2} {rd : RDt} {B : I2} {cy : Nat → Nat} {rw : RWt} {tl : TLt} {sp : SPt} {t : Nat} {f n : Int32} (ht : t < 6) : Ct l g yX5_holds cX5_holds 3 (some .boolean) 1 0 0 [rf g (20, t, 0), .int f, .int n] NN (jn (hC g h0 ct cl rd B cy rw tl sp) X) (pI (b2i (¬ f < 0 ∧ ¬ n < 0 ∧ ¬ sp.2.2 t < n ∧ ¬ sp.2.2 t - n < f)) (jn (hC g h0 ct cl rd B cy rw tl sp) X)) := by
  refine Ct.of (lv := [some (rf g (20, t, 0)), some (.int f), some (.int n)]) (by decide +kernel) rfl (Nat.le_of_ble_eq_true rfl) ?_
  intro Γ C
  refine V.iload_n (q := 1) C dX5_holds_0 rfl rfl ?_
  refine V.if_lt (q := 4) (tgt := 30) C dX5_holds_1 rfl rfl (fun hb1 => ?_) (fun hb1 => ?_)
  · refine V.iconst (q := 31) (v := nI 0) C dX5_holds_30 rfl (by decide) ?_
    exact V.zreturn C dX5_holds_31 rfl ⟨congrArg (fun x => some (Value.int x)) (b2i_f (fun z => z.1 hb1)).symm, rfl, rfl⟩
  · refine V.iload_n (q := 5) C dX5_holds_4 rfl rfl ?_
    refine V.if_lt (q := 8) (tgt := 30) C dX5_holds_5 rfl rfl (fun hb5 => ?_) (fun hb5 => ?_)
    · refine V.iconst (q := 31) (v := nI 0) C dX5_holds_30 rfl (by decide) ?_
      exact V.zreturn C dX5_holds_31 rfl ⟨congrArg (fun x => some (Value.int x)) (b2i_f (fun z => z.2.1 hb5)).symm, rfl, rfl⟩
    · refine V.iload_n (q := 9) C dX5_holds_8 rfl rfl ?_
      refine V.aload_n (q := 10) C dX5_holds_9 rfl rfl ?_
      refine V.get (q := 13) C fl_X5_19 dX5_holds_10 rfl (okC_20 (by omega)) rfl rfl ?_
      refine V.icmp_gt (q := 16) (tgt := 30) C dX5_holds_13 rfl rfl (fun hb13 => ?_) (fun hb13 => ?_)
      · refine V.iconst (q := 31) (v := nI 0) C dX5_holds_30 rfl (by decide) ?_
        exact V.zreturn C dX5_holds_31 rfl ⟨congrArg (fun x => some (Value.int x)) (b2i_f (fun z => z.2.2.1 hb13)).symm, rfl, rfl⟩
      · refine V.iload_n (q := 17) C dX5_holds_16 rfl rfl ?_
        refine V.aload_n (q := 18) C dX5_holds_17 rfl rfl ?_
        refine V.get (q := 21) C fl_X5_19 dX5_holds_18 rfl (okC_20 (by omega)) rfl rfl ?_
        refine V.iload_n (q := 22) C dX5_holds_21 rfl rfl ?_
        refine V.isub (q := 23) C dX5_holds_22 rfl ?_
        refine V.icmp_gt (q := 26) (tgt := 30) C dX5_holds_23 rfl rfl (fun hb23 => ?_) (fun hb23 => ?_)
        · refine V.iconst (q := 31) (v := nI 0) C dX5_holds_30 rfl (by decide) ?_
          exact V.zreturn C dX5_holds_31 rfl ⟨congrArg (fun x => some (Value.int x)) (b2i_f (fun z => z.2.2.2 hb23)).symm, rfl, rfl⟩
        · refine V.iconst (q := 27) (v := nI 1) C dX5_holds_26 rfl (by decide) ?_
          refine V.goto (tgt := 31) C dX5_holds_27 rfl ?_
          exact V.zreturn C dX5_holds_31 rfl ⟨congrArg (fun x => some (Value.int x)) (b2i_t ⟨hb1, hb5, hb13, hb23⟩).symm, rfl, rfl⟩
theorem fit_0 {s : Int32} {v : Int64} (h : s = nI 0) : fitV s v = v.toInt32.toInt8.toInt32.toInt64 := by rw [fitV, if_pos (by rw [h]; rfl)]
theorem fit_1 {s : Int32} {v : Int64} (h : s = nI 1) : fitV s v = v.toInt32.toInt16.toInt32.toInt64 := by rw [fitV, if_neg (by rw [h]; decide), if_pos h]
theorem fit_2 {s : Int32} {v : Int64} (h : s = nI 2) : fitV s v = v.toInt32.toInt64 := by rw [fitV, if_neg (by rw [h]; decide), if_neg (by rw [h]; decide), if_pos h]
theorem fit_3 {s : Int32} {v : Int64} (h : s = nI 3) : fitV s v = v := by rw [fitV, if_neg (by rw [h]; decide), if_neg (by rw [h]; decide), if_neg (by rw [h]; decide), if_pos h]
theorem fit_4 {s : Int32} {v : Int64} (h : s = nI 4) : fitV s v = if v = 0 then 0 else 1 := by rw [fitV, if_neg (by rw [h]; decide), if_neg (by rw [h]; decide), if_neg (by rw [h]; decide), if_neg (by rw [h]; decide)]
theorem c_fitted {l : Launch} {g : GG} {X : PHp} {h0 : HZ} {ct : CTt} {cl : I2} {rd : RDt} {B : I2} {cy : Nat → Nat} {rw : RWt} {tl : TLt} {sp : SPt} {t : Nat} {v : Int64} (ht : t < 6) (hs : ∃ k, k < 5 ∧ sp.2.1 t = nI k) : Ct l g yX5_fitted cX5_fitted 3 (some .long) 1 0 0 [rf g (20, t, 0), .long v] NN (jn (hC g h0 ct cl rd B cy rw tl sp) X) (pL (fitV (sp.2.1 t) v) (jn (hC g h0 ct cl rd B cy rw tl sp) X)) := by
  refine Ct.of (lv := [some (rf g (20, t, 0)), some (.long v), none]) (by decide +kernel) rfl (Nat.le_of_ble_eq_true rfl) ?_
  intro Γ C
  refine V.aload_n (q := 1) C dX5_fitted_0 rfl rfl ?_
  refine V.get (q := 4) C fl_X5_15 dX5_fitted_1 rfl (okC_20 (by omega)) rfl rfl ?_
  refine V.tsw (lo := 0) (N := 5) (tgt := 66) C dX5_fitted_4 (by decide) (by decide) rfl (fun k hk hx4 => ?_) (fun hx4 => ?_)
  · obtain rfl | rfl | rfl | rfl | rfl := (show k = 0 ∨ k = 1 ∨ k = 2 ∨ k = 3 ∨ k = 4 by omega)
    · refine ⟨_, 40, rfl, rfl, ?_⟩
      replace hx4 : _ = nI 0 := hx4
      refine V.lload_n (q := 41) C dX5_fitted_40 rfl rfl ?_
      refine V.l2i (q := 42) C dX5_fitted_41 rfl rfl ?_
      refine V.i2b (q := 43) C dX5_fitted_42 rfl rfl ?_
      refine V.i2l (q := 44) C dX5_fitted_43 rfl rfl ?_
      exact V.lreturn C dX5_fitted_44 ⟨congrArg (fun x => some (Value.long x)) (fit_0 hx4).symm, rfl, rfl⟩
    · refine ⟨_, 45, rfl, rfl, ?_⟩
      replace hx4 : _ = nI 1 := hx4
      refine V.lload_n (q := 46) C dX5_fitted_45 rfl rfl ?_
      refine V.l2i (q := 47) C dX5_fitted_46 rfl rfl ?_
      refine V.i2s (q := 48) C dX5_fitted_47 rfl rfl ?_
      refine V.i2l (q := 49) C dX5_fitted_48 rfl rfl ?_
      exact V.lreturn C dX5_fitted_49 ⟨congrArg (fun x => some (Value.long x)) (fit_1 hx4).symm, rfl, rfl⟩
    · refine ⟨_, 50, rfl, rfl, ?_⟩
      replace hx4 : _ = nI 2 := hx4
      refine V.lload_n (q := 51) C dX5_fitted_50 rfl rfl ?_
      refine V.l2i (q := 52) C dX5_fitted_51 rfl rfl ?_
      refine V.i2l (q := 53) C dX5_fitted_52 rfl rfl ?_
      exact V.lreturn C dX5_fitted_53 ⟨congrArg (fun x => some (Value.long x)) (fit_2 hx4).symm, rfl, rfl⟩
    · refine ⟨_, 66, rfl, rfl, ?_⟩
      replace hx4 : _ = nI 3 := hx4
      refine V.lload_n (q := 67) C dX5_fitted_66 rfl rfl ?_
      exact V.lreturn C dX5_fitted_67 ⟨congrArg (fun x => some (Value.long x)) (fit_3 hx4).symm, rfl, rfl⟩
    · refine ⟨_, 54, rfl, rfl, ?_⟩
      replace hx4 : _ = nI 4 := hx4
      refine V.lload_n (q := 55) C dX5_fitted_54 rfl rfl ?_
      refine V.lconst (q := 56) (v := 0) C dX5_fitted_55 rfl (by decide) ?_
      refine V.lcmp (q := 57) C dX5_fitted_56 rfl ?_
      refine V.if_eq (q := 60) (tgt := 64) C dX5_fitted_57 rfl rfl (fun hb57 => ?_) (fun hb57 => ?_)
      · replace hb57 : v = 0 := (lg_cmp_eq _ _).mp hb57
        refine V.lconst (q := 65) (v := 0) C dX5_fitted_64 rfl (by decide) ?_
        exact V.lreturn C dX5_fitted_65 ⟨congrArg (fun x => some (Value.long x)) ((fit_4 hx4).trans (if_pos hb57)).symm, rfl, rfl⟩
      · replace hb57 : ¬ v = 0 := fun z => hb57 ((lg_cmp_eq _ _).mpr z)
        refine V.lconst (q := 61) (v := 1) C dX5_fitted_60 rfl (by decide) ?_
        refine V.goto (tgt := 65) C dX5_fitted_61 rfl ?_
        exact V.lreturn C dX5_fitted_65 ⟨congrArg (fun x => some (Value.long x)) ((fit_4 hx4).trans (if_neg hb57)).symm, rfl, rfl⟩
  · obtain ⟨k, hk, e⟩ := hs
    exact absurd (show sp.2.1 t = nI (0 + k) by rw [e, Nat.zero_add]) (hx4 k hk)
theorem c_begins {l : Launch} {g : GG} {X : PHp} {h0 : HZ} {ct : CTt} {cl : I2} {rd : RDt} {B : I2} {cy : Nat → Nat} {rw : RWt} {s : TS} {sp : SPt} {b : Int32} (hs : s.2 ≤ 960) : Ct l g yX6_begins cX6_begins 2 none 1 0 0 [rf g (17, 0, 0), .int b] NN (jn (hC g h0 ct cl rd B cy rw (s.1, nI s.2) sp) X) (pV (jn (hC g h0 ct cl rd B cy rw ((bdy b s).1, nI (bdy b s).2) sp) X)) := by
  refine Ct.of (lv := [some (rf g (17, 0, 0)), some (.int b)]) (by decide +kernel) rfl (Nat.le_of_ble_eq_true rfl) ?_
  intro Γ C
  refine V.aload_n (q := 1) C dX6_begins_0 rfl rfl ?_
  refine V.get (q := 4) C fl_X6_15 dX6_begins_1 rfl okC_17 rfl rfl ?_
  try dsimp only
  refine V.aload_n (q := 5) C dX6_begins_4 rfl rfl ?_
  refine V.get (q := 8) C fl_X6_9 dX6_begins_5 rfl okC_17 rfl rfl ?_
  refine V.len_aI (q := 9) C dX6_begins_8 rfl okC_18 rfl ?_
  refine V.icmp_ge (q := 12) (tgt := 22) C dX6_begins_9 rfl rfl (fun hb9 => ?_) (fun hb9 => ?_)
  · replace hb9 : ¬ s.2 < 20 := fun z => absurd ((nI_leI (by omega) (by omega)).mp hb9) (by omega)
    refine V.aload_n (q := 23) C dX6_begins_22 rfl rfl ?_
    refine V.dup (q := 24) C dX6_begins_23 rfl rfl ?_
    refine V.get (q := 27) C fl_X6_15 dX6_begins_24 rfl okC_17 rfl rfl ?_
    try dsimp only
    refine V.iconst (q := 28) (v := nI 1) C dX6_begins_27 rfl (by decide) ?_
    refine V.iadd (q := 29) C dX6_begins_28 rfl ?_
    refine V.topi (x1 := nI (s.2 + 1)) (nI_add _ _) ?_
    refine V.put (q := 32) C fl_X6_15 rfl dX6_begins_29 rfl okC_17 rfl (Nat.le_of_ble_eq_true rfl) rfl rfl rfl ?_
    refine V.phE (uC_17_1) ?_
    try dsimp only
    exact V.vreturn C dX6_begins_32 ⟨rfl, by rw [bdy_f hb9], rfl⟩
  · replace hb9 : s.2 < 20 := Nat.lt_of_not_le (fun z => hb9 ((nI_leI (by omega) (by omega)).mpr z))
    refine V.aload_n (q := 13) C dX6_begins_12 rfl rfl ?_
    refine V.get (q := 16) C fl_X6_9 dX6_begins_13 rfl okC_17 rfl rfl ?_
    refine V.aload_n (q := 17) C dX6_begins_16 rfl rfl ?_
    refine V.get (q := 20) C fl_X6_15 dX6_begins_17 rfl okC_17 rfl rfl ?_
    try dsimp only
    refine V.iload_n (q := 21) C dX6_begins_20 rfl rfl ?_
    refine V.ist (q := 22) (i := s.2) C dX6_begins_21 rfl okC_18 rfl rfl hb9 (by decide) rfl ?_
    refine V.phE (uC_18) ?_
    try dsimp only
    refine V.aload_n (q := 23) C dX6_begins_22 rfl rfl ?_
    refine V.dup (q := 24) C dX6_begins_23 rfl rfl ?_
    refine V.get (q := 27) C fl_X6_15 dX6_begins_24 rfl okC_17 rfl rfl ?_
    try dsimp only
    refine V.iconst (q := 28) (v := nI 1) C dX6_begins_27 rfl (by decide) ?_
    refine V.iadd (q := 29) C dX6_begins_28 rfl ?_
    refine V.topi (x1 := nI (s.2 + 1)) (nI_add _ _) ?_
    refine V.put (q := 32) C fl_X6_15 rfl dX6_begins_29 rfl okC_17 rfl (Nat.le_of_ble_eq_true rfl) rfl rfl rfl ?_
    refine V.phE (uC_17_1) ?_
    try dsimp only
    exact V.vreturn C dX6_begins_32 ⟨rfl, by rw [bdy_t hb9], rfl⟩
theorem c_nods_0 {l : Launch} {g : GG} {X : PHp} {h0 : HZ} {ct : CTt} {cl : I2} {rd : RDt} {B : I2} {cy : Nat → Nat} {rw : RWt} {s : TS} {sp : SPt} {lv i : Nat} {x : Int32} (hlv : 2 ≤ lv) (hi : i < 6) (hs : s.2 ≤ 956) : Ct l g yX6_nods cX6_nods 4 (some .int) lv 0 0 [rf g (9, 0, i), .int (nI 0), .int x, rf g (17, 0, 0)] NN (jn (hC g h0 ct cl rd B cy rw (s.1, nI s.2) sp) X) (pI (nodsF i (B 0 (9 * i + 1)) 0 x s).1 (jn (hC g h0 ct cl rd B cy rw ((nodsF i (B 0 (9 * i + 1)) 0 x s).2.1, nI (nodsF i (B 0 (9 * i + 1)) 0 x s).2.2) sp) X)) := by
  refine Ct.of (lv := [some (rf g (9, 0, i)), some (.int (nI 0)), some (.int x), some (rf g (17, 0, 0))]) (by decide +kernel) rfl (Nat.le_of_ble_eq_true rfl) ?_
  intro Γ C
  refine V.iload_n (q := 1) C dX6_nods_0 rfl rfl ?_
  refine V.tableOut (tgt := 86) C dX6_nods_1 (by decide) rfl ?_
  refine V.aload_n (q := 87) C dX6_nods_86 rfl rfl ?_
  refine V.bipush (q := 89) (v := nI 10) C dX6_nods_87 rfl (by decide) ?_
  refine V.callVv (q := 92) C me_X6_begins (c_begins (by first | omega | (simp only [bdy_n]; omega))) ml_X6_19 dX6_nods_89 rfl okC_17 ⟨_, rfl⟩ rfl rfl (Nat.le_of_ble_eq_true rfl) (by omega) (Nat.zero_le _) (Nat.zero_le _) ?_
  refine V.iload_n (q := 93) C dX6_nods_92 rfl rfl ?_
  refine V.aload_n (q := 94) C dX6_nods_93 rfl rfl ?_
  refine V.get (q := 97) C fl_X6_32 dX6_nods_94 rfl (okC_9 (by omega) (by omega)) rfl rfl ?_
  try dsimp only
  refine V.iadd (q := 98) C dX6_nods_97 rfl ?_
  exact V.ireturn C dX6_nods_98 ⟨by rw [eq0_0] <;> rfl, by rw [eq0_0] <;> rfl, rfl⟩
theorem c_nods_1 {l : Launch} {g : GG} {X : PHp} {h0 : HZ} {ct : CTt} {cl : I2} {rd : RDt} {B : I2} {cy : Nat → Nat} {rw : RWt} {s : TS} {sp : SPt} {lv i : Nat} {x : Int32} (hlv : 2 ≤ lv) (hi : i < 6) (hs : s.2 ≤ 956) : Ct l g yX6_nods cX6_nods 4 (some .int) lv 0 0 [rf g (9, 0, i), .int (nI 1), .int x, rf g (17, 0, 0)] NN (jn (hC g h0 ct cl rd B cy rw (s.1, nI s.2) sp) X) (pI (nodsF i (B 0 (9 * i + 1)) 1 x s).1 (jn (hC g h0 ct cl rd B cy rw ((nodsF i (B 0 (9 * i + 1)) 1 x s).2.1, nI (nodsF i (B 0 (9 * i + 1)) 1 x s).2.2) sp) X)) := by
  refine Ct.of (lv := [some (rf g (9, 0, i)), some (.int (nI 1)), some (.int x), some (rf g (17, 0, 0))]) (by decide +kernel) rfl (Nat.le_of_ble_eq_true rfl) ?_
  intro Γ C
  refine V.iload_n (q := 1) C dX6_nods_0 rfl rfl ?_
  refine V.tableOut (tgt := 86) C dX6_nods_1 (by decide) rfl ?_
  refine V.aload_n (q := 87) C dX6_nods_86 rfl rfl ?_
  refine V.bipush (q := 89) (v := nI 10) C dX6_nods_87 rfl (by decide) ?_
  refine V.callVv (q := 92) C me_X6_begins (c_begins (by first | omega | (simp only [bdy_n]; omega))) ml_X6_19 dX6_nods_89 rfl okC_17 ⟨_, rfl⟩ rfl rfl (Nat.le_of_ble_eq_true rfl) (by omega) (Nat.zero_le _) (Nat.zero_le _) ?_
  refine V.iload_n (q := 93) C dX6_nods_92 rfl rfl ?_
  refine V.aload_n (q := 94) C dX6_nods_93 rfl rfl ?_
  refine V.get (q := 97) C fl_X6_32 dX6_nods_94 rfl (okC_9 (by omega) (by omega)) rfl rfl ?_
  try dsimp only
  refine V.iadd (q := 98) C dX6_nods_97 rfl ?_
  exact V.ireturn C dX6_nods_98 ⟨by rw [eq0_1] <;> rfl, by rw [eq0_1] <;> rfl, rfl⟩
theorem c_nods_3 {l : Launch} {g : GG} {X : PHp} {h0 : HZ} {ct : CTt} {cl : I2} {rd : RDt} {B : I2} {cy : Nat → Nat} {rw : RWt} {s : TS} {sp : SPt} {lv i : Nat} {x : Int32} (hlv : 2 ≤ lv) (hi : i < 6) (hs : s.2 ≤ 956) : Ct l g yX6_nods cX6_nods 4 (some .int) lv 0 0 [rf g (9, 0, i), .int (nI 3), .int x, rf g (17, 0, 0)] NN (jn (hC g h0 ct cl rd B cy rw (s.1, nI s.2) sp) X) (pI (nodsF i (B 0 (9 * i + 1)) 3 x s).1 (jn (hC g h0 ct cl rd B cy rw ((nodsF i (B 0 (9 * i + 1)) 3 x s).2.1, nI (nodsF i (B 0 (9 * i + 1)) 3 x s).2.2) sp) X)) := by
  refine Ct.of (lv := [some (rf g (9, 0, i)), some (.int (nI 3)), some (.int x), some (rf g (17, 0, 0))]) (by decide +kernel) rfl (Nat.le_of_ble_eq_true rfl) ?_
  intro Γ C
  refine V.iload_n (q := 1) C dX6_nods_0 rfl rfl ?_
  refine V.tableIn (off := 85) (tgt := 86) C dX6_nods_1 (by decide) (by decide) (by decide) rfl ?_
  refine V.aload_n (q := 87) C dX6_nods_86 rfl rfl ?_
  refine V.bipush (q := 89) (v := nI 10) C dX6_nods_87 rfl (by decide) ?_
  refine V.callVv (q := 92) C me_X6_begins (c_begins (by first | omega | (simp only [bdy_n]; omega))) ml_X6_19 dX6_nods_89 rfl okC_17 ⟨_, rfl⟩ rfl rfl (Nat.le_of_ble_eq_true rfl) (by omega) (Nat.zero_le _) (Nat.zero_le _) ?_
  refine V.iload_n (q := 93) C dX6_nods_92 rfl rfl ?_
  refine V.aload_n (q := 94) C dX6_nods_93 rfl rfl ?_
  refine V.get (q := 97) C fl_X6_32 dX6_nods_94 rfl (okC_9 (by omega) (by omega)) rfl rfl ?_
  try dsimp only
  refine V.iadd (q := 98) C dX6_nods_97 rfl ?_
  exact V.ireturn C dX6_nods_98 ⟨by rw [eq0_3] <;> rfl, by rw [eq0_3] <;> rfl, rfl⟩
theorem c_nods_2 {l : Launch} {g : GG} {X : PHp} {h0 : HZ} {ct : CTt} {cl : I2} {rd : RDt} {B : I2} {cy : Nat → Nat} {rw : RWt} {s : TS} {sp : SPt} {lv i : Nat} {x : Int32} (hlv : 3 ≤ lv) (hi : i < 6) (hs : s.2 ≤ 955) : Ct l g yX6_nods cX6_nods 4 (some .int) lv 0 0 [rf g (9, 0, i), .int (nI 2), .int x, rf g (17, 0, 0)] NN (jn (hC g h0 ct cl rd B cy rw (s.1, nI s.2) sp) X) (pI (nodsF i (B 0 (9 * i + 1)) 2 x s).1 (jn (hC g h0 ct cl rd B cy rw ((nodsF i (B 0 (9 * i + 1)) 2 x s).2.1, nI (nodsF i (B 0 (9 * i + 1)) 2 x s).2.2) sp) X)) := by
  refine Ct.of (lv := [some (rf g (9, 0, i)), some (.int (nI 2)), some (.int x), some (rf g (17, 0, 0))]) (by decide +kernel) rfl (Nat.le_of_ble_eq_true rfl) ?_
  intro Γ C
  refine V.iload_n (q := 1) C dX6_nods_0 rfl rfl ?_
  refine V.tableIn (off := 35) (tgt := 36) C dX6_nods_1 (by decide) (by decide) (by decide) rfl ?_
  refine V.aload_n (q := 37) C dX6_nods_36 rfl rfl ?_
  refine V.bipush (q := 39) (v := nI 30) C dX6_nods_37 rfl (by decide) ?_
  refine V.callVv (q := 42) C me_X6_begins (c_begins (by first | omega | (simp only [bdy_n]; omega))) ml_X6_19 dX6_nods_39 rfl okC_17 ⟨_, rfl⟩ rfl rfl (Nat.le_of_ble_eq_true rfl) (by omega) (Nat.zero_le _) (Nat.zero_le _) ?_
  refine V.aload_n (q := 43) C dX6_nods_42 rfl rfl ?_
  refine V.iconst (q := 44) (v := nI 0) C dX6_nods_43 rfl (by decide) ?_
  refine V.iload_n (q := 45) C dX6_nods_44 rfl rfl ?_
  refine V.iconst (q := 46) (v := nI 3) C dX6_nods_45 rfl (by decide) ?_
  refine V.imul (q := 47) C dX6_nods_46 rfl ?_
  refine V.aload_n (q := 48) C dX6_nods_47 rfl rfl ?_
  refine V.callSi (q := 51) C me_X6_nods (c_nods_0 (lv := 2) (by omega) hi (by rw [bdy_n]; omega)) ml_X6_23 dX6_nods_48 rfl rfl rfl (Nat.le_of_ble_eq_true rfl) (by omega) (Nat.zero_le _) (Nat.zero_le _) ?_
  exact V.ireturn C dX6_nods_51 ⟨by rw [eq0_2] <;> rfl, by rw [eq0_2] <;> rfl, rfl⟩
theorem c_nods_5 {l : Launch} {g : GG} {X : PHp} {h0 : HZ} {ct : CTt} {cl : I2} {rd : RDt} {B : I2} {cy : Nat → Nat} {rw : RWt} {s : TS} {sp : SPt} {lv i : Nat} {x : Int32} (hlv : 3 ≤ lv) (hi : i < 6) (hs : s.2 ≤ 955) : Ct l g yX6_nods cX6_nods 4 (some .int) lv 0 0 [rf g (9, 0, i), .int (nI 5), .int x, rf g (17, 0, 0)] NN (jn (hC g h0 ct cl rd B cy rw (s.1, nI s.2) sp) X) (pI (nodsF i (B 0 (9 * i + 1)) 5 x s).1 (jn (hC g h0 ct cl rd B cy rw ((nodsF i (B 0 (9 * i + 1)) 5 x s).2.1, nI (nodsF i (B 0 (9 * i + 1)) 5 x s).2.2) sp) X)) := by
  refine Ct.of (lv := [some (rf g (9, 0, i)), some (.int (nI 5)), some (.int x), some (rf g (17, 0, 0))]) (by decide +kernel) rfl (Nat.le_of_ble_eq_true rfl) ?_
  intro Γ C
  refine V.iload_n (q := 1) C dX6_nods_0 rfl rfl ?_
  refine V.tableIn (off := 35) (tgt := 36) C dX6_nods_1 (by decide) (by decide) (by decide) rfl ?_
  refine V.aload_n (q := 37) C dX6_nods_36 rfl rfl ?_
  refine V.bipush (q := 39) (v := nI 30) C dX6_nods_37 rfl (by decide) ?_
  refine V.callVv (q := 42) C me_X6_begins (c_begins (by first | omega | (simp only [bdy_n]; omega))) ml_X6_19 dX6_nods_39 rfl okC_17 ⟨_, rfl⟩ rfl rfl (Nat.le_of_ble_eq_true rfl) (by omega) (Nat.zero_le _) (Nat.zero_le _) ?_
  refine V.aload_n (q := 43) C dX6_nods_42 rfl rfl ?_
  refine V.iconst (q := 44) (v := nI 0) C dX6_nods_43 rfl (by decide) ?_
  refine V.iload_n (q := 45) C dX6_nods_44 rfl rfl ?_
  refine V.iconst (q := 46) (v := nI 3) C dX6_nods_45 rfl (by decide) ?_
  refine V.imul (q := 47) C dX6_nods_46 rfl ?_
  refine V.aload_n (q := 48) C dX6_nods_47 rfl rfl ?_
  refine V.callSi (q := 51) C me_X6_nods (c_nods_0 (lv := 2) (by omega) hi (by rw [bdy_n]; omega)) ml_X6_23 dX6_nods_48 rfl rfl rfl (Nat.le_of_ble_eq_true rfl) (by omega) (Nat.zero_le _) (Nat.zero_le _) ?_
  exact V.ireturn C dX6_nods_51 ⟨by rw [eq0_5] <;> rfl, by rw [eq0_5] <;> rfl, rfl⟩
theorem c_nods_4 {l : Launch} {g : GG} {X : PHp} {h0 : HZ} {ct : CTt} {cl : I2} {rd : RDt} {B : I2} {cy : Nat → Nat} {rw : RWt} {s : TS} {sp : SPt} {lv i : Nat} {x : Int32} (hlv : 3 ≤ lv) (hi : i < 6) (hs : s.2 ≤ 955) : Ct l g yX6_nods cX6_nods 4 (some .int) lv 0 0 [rf g (9, 0, i), .int (nI 4), .int x, rf g (17, 0, 0)] NN (jn (hC g h0 ct cl rd B cy rw (s.1, nI s.2) sp) X) (pI (nodsF i (B 0 (9 * i + 1)) 4 x s).1 (jn (hC g h0 ct cl rd B cy rw ((nodsF i (B 0 (9 * i + 1)) 4 x s).2.1, nI (nodsF i (B 0 (9 * i + 1)) 4 x s).2.2) sp) X)) := by
  refine Ct.of (lv := [some (rf g (9, 0, i)), some (.int (nI 4)), some (.int x), some (rf g (17, 0, 0))]) (by decide +kernel) rfl (Nat.le_of_ble_eq_true rfl) ?_
  intro Γ C
  refine V.iload_n (q := 1) C dX6_nods_0 rfl rfl ?_
  refine V.tableIn (off := 51) (tgt := 52) C dX6_nods_1 (by decide) (by decide) (by decide) rfl ?_
  refine V.aload_n (q := 53) C dX6_nods_52 rfl rfl ?_
  refine V.bipush (q := 55) (v := nI 50) C dX6_nods_53 rfl (by decide) ?_
  refine V.callVv (q := 58) C me_X6_begins (c_begins (by first | omega | (simp only [bdy_n]; omega))) ml_X6_19 dX6_nods_55 rfl okC_17 ⟨_, rfl⟩ rfl rfl (Nat.le_of_ble_eq_true rfl) (by omega) (Nat.zero_le _) (Nat.zero_le _) ?_
  refine V.aload_n (q := 59) C dX6_nods_58 rfl rfl ?_
  refine V.iconst (q := 60) (v := nI 1) C dX6_nods_59 rfl (by decide) ?_
  refine V.iload_n (q := 61) C dX6_nods_60 rfl rfl ?_
  refine V.aload_n (q := 62) C dX6_nods_61 rfl rfl ?_
  refine V.callSi (q := 65) C me_X6_nods (c_nods_1 (lv := 2) (by omega) hi (by rw [bdy_n]; omega)) ml_X6_23 dX6_nods_62 rfl rfl rfl (Nat.le_of_ble_eq_true rfl) (by omega) (Nat.zero_le _) (Nat.zero_le _) ?_
  refine V.ineg (q := 66) C dX6_nods_65 rfl ?_
  exact V.ireturn C dX6_nods_66 ⟨by rw [eq0_4] <;> rfl, by rw [eq0_4] <;> rfl, rfl⟩
theorem c_nods_6 {l : Launch} {g : GG} {X : PHp} {h0 : HZ} {ct : CTt} {cl : I2} {rd : RDt} {B : I2} {cy : Nat → Nat} {rw : RWt} {s : TS} {sp : SPt} {lv i : Nat} {x : Int32} (hlv : 3 ≤ lv) (hi : i < 6) (hs : s.2 ≤ 955) : Ct l g yX6_nods cX6_nods 4 (some .int) lv 0 0 [rf g (9, 0, i), .int (nI 6), .int x, rf g (17, 0, 0)] NN (jn (hC g h0 ct cl rd B cy rw (s.1, nI s.2) sp) X) (pI (nodsF i (B 0 (9 * i + 1)) 6 x s).1 (jn (hC g h0 ct cl rd B cy rw ((nodsF i (B 0 (9 * i + 1)) 6 x s).2.1, nI (nodsF i (B 0 (9 * i + 1)) 6 x s).2.2) sp) X)) := by
  refine Ct.of (lv := [some (rf g (9, 0, i)), some (.int (nI 6)), some (.int x), some (rf g (17, 0, 0))]) (by decide +kernel) rfl (Nat.le_of_ble_eq_true rfl) ?_
  intro Γ C
  refine V.iload_n (q := 1) C dX6_nods_0 rfl rfl ?_
  refine V.tableIn (off := 66) (tgt := 67) C dX6_nods_1 (by decide) (by decide) (by decide) rfl ?_
  refine V.aload_n (q := 68) C dX6_nods_67 rfl rfl ?_
  refine V.bipush (q := 70) (v := nI 71) C dX6_nods_68 rfl (by decide) ?_
  refine V.callVv (q := 73) C me_X6_begins (c_begins (by first | omega | (simp only [bdy_n]; omega))) ml_X6_19 dX6_nods_70 rfl okC_17 ⟨_, rfl⟩ rfl rfl (Nat.le_of_ble_eq_true rfl) (by omega) (Nat.zero_le _) (Nat.zero_le _) ?_
  refine V.aload_n (q := 74) C dX6_nods_73 rfl rfl ?_
  refine V.iconst (q := 75) (v := nI 3) C dX6_nods_74 rfl (by decide) ?_
  refine V.iload_n (q := 76) C dX6_nods_75 rfl rfl ?_
  refine V.aload_n (q := 77) C dX6_nods_76 rfl rfl ?_
  refine V.callSi (q := 80) C me_X6_nods (c_nods_3 (lv := 2) (by omega) hi (by rw [bdy_n]; omega)) ml_X6_23 dX6_nods_77 rfl rfl rfl (Nat.le_of_ble_eq_true rfl) (by omega) (Nat.zero_le _) (Nat.zero_le _) ?_
  refine V.aload_n (q := 81) C dX6_nods_80 rfl rfl ?_
  refine V.get (q := 84) C fl_X6_27 dX6_nods_81 rfl (okC_9 (by omega) (by omega)) rfl rfl ?_
  try dsimp only
  refine V.ixor (q := 85) C dX6_nods_84 rfl ?_
  exact V.ireturn C dX6_nods_85 ⟨by rw [eq0_6] <;> rfl, by rw [eq0_6] <;> rfl, rfl⟩
theorem c_nods {l : Launch} {g : GG} {X : PHp} {h0 : HZ} {ct : CTt} {cl : I2} {rd : RDt} {B : I2} {cy : Nat → Nat} {rw : RWt} {s : TS} {sp : SPt} {lv i q : Nat} {x : Int32} (hlv : 3 ≤ lv) (hi : i < 6) (hs : s.2 ≤ 955) (hq : q < 7) : Ct l g yX6_nods cX6_nods 4 (some .int) lv 0 0 [rf g (9, 0, i), .int (nI q), .int x, rf g (17, 0, 0)] NN (jn (hC g h0 ct cl rd B cy rw (s.1, nI s.2) sp) X) (pI (nodsF i (B 0 (9 * i + 1)) q x s).1 (jn (hC g h0 ct cl rd B cy rw ((nodsF i (B 0 (9 * i + 1)) q x s).2.1, nI (nodsF i (B 0 (9 * i + 1)) q x s).2.2) sp) X)) := by
  obtain rfl | rfl | rfl | rfl | rfl | rfl | rfl := (show q = 0 ∨ q = 1 ∨ q = 2 ∨ q = 3 ∨ q = 4 ∨ q = 5 ∨ q = 6 by omega)
  · exact c_nods_0 (by omega) hi (by omega)
  · exact c_nods_1 (by omega) hi (by omega)
  · exact c_nods_2 (by omega) hi (by omega)
  · exact c_nods_3 (by omega) hi (by omega)
  · exact c_nods_4 (by omega) hi (by omega)
  · exact c_nods_5 (by omega) hi (by omega)
  · exact c_nods_6 (by omega) hi (by omega)
theorem c_knocks_0 {l : Launch} {g : GG} {X : PHp} {h0 : HZ} {ct : CTt} {cl : I2} {rd : RDt} {B : I2} {cy : Nat → Nat} {rw : RWt} {s : TS} {sp : SPt} {lv i : Nat} {K : Nat} {x : Int32} (hlv : 4 ≤ lv) (hi : i < 6) (hK : K < 7) (hk : B 0 (9 * i + 0) = nI K) (hs : s.2 ≤ 945) : Ct l g yX6_knocks cX6_knocks 5 (some .int) lv 0 0 [rf g (9, 0, i), .int (nI 0), .int x, rf g (17, 0, 0)] NN (jn (hC g h0 ct cl rd B cy rw (s.1, nI s.2) sp) X) (pI (knocksF i (B 0 (9 * i + 1)) K 0 x s).1 (jn (hC g h0 ct cl rd B cy rw ((knocksF i (B 0 (9 * i + 1)) K 0 x s).2.1, nI (knocksF i (B 0 (9 * i + 1)) K 0 x s).2.2) sp) X)) := by
  refine Ct.of (lv := [some (rf g (9, 0, i)), some (.int (nI 0)), some (.int x), some (rf g (17, 0, 0)), none]) (by decide +kernel) rfl (Nat.le_of_ble_eq_true rfl) ?_
  intro Γ C
  refine V.iload_n (q := 1) C dX6_knocks_0 rfl rfl ?_
  refine V.lookup (off := 94) (tgt := 95) C dX6_knocks_1 (by decide) (by decide) rfl ?_
  refine V.aload_n (q := 96) C dX6_knocks_95 rfl rfl ?_
  refine V.bipush (q := 98) (v := nI 11) C dX6_knocks_96 rfl (by decide) ?_
  refine V.callVv (q := 101) C me_X6_begins (c_begins (by first | omega | (simp only [bdy_n]; omega))) ml_X6_19 dX6_knocks_98 rfl okC_17 ⟨_, rfl⟩ rfl rfl (Nat.le_of_ble_eq_true rfl) (by omega) (Nat.zero_le _) (Nat.zero_le _) ?_
  refine V.aload_n (q := 102) C dX6_knocks_101 rfl rfl ?_
  refine V.aload_n (q := 103) C dX6_knocks_102 rfl rfl ?_
  refine V.get (q := 106) C fl_X6_38 dX6_knocks_103 rfl (okC_9 (by omega) (by omega)) rfl rfl ?_
  try dsimp only
  refine V.topi (x1 := nI (K)) hk ?_
  refine V.iload_n (q := 107) C dX6_knocks_106 rfl rfl ?_
  refine V.aload_n (q := 108) C dX6_knocks_107 rfl rfl ?_
  refine V.callSi (q := 111) C me_X6_nods (c_nods (lv := 3) (by omega) hi (by rw [bdy_n]; omega) hK) ml_X6_23 dX6_knocks_108 rfl rfl rfl (Nat.le_of_ble_eq_true rfl) (by omega) (Nat.zero_le _) (Nat.zero_le _) ?_
  refine V.aload_n (q := 112) C dX6_knocks_111 rfl rfl ?_
  refine V.get (q := 115) C fl_X6_27 dX6_knocks_112 rfl (okC_9 (by omega) (by omega)) rfl rfl ?_
  try dsimp only
  refine V.isub (q := 116) C dX6_knocks_115 rfl ?_
  exact V.ireturn C dX6_knocks_116 ⟨by rw [eq1_0] <;> rfl, by rw [eq1_0] <;> rfl, rfl⟩
theorem c_knocks_2 {l : Launch} {g : GG} {X : PHp} {h0 : HZ} {ct : CTt} {cl : I2} {rd : RDt} {B : I2} {cy : Nat → Nat} {rw : RWt} {s : TS} {sp : SPt} {lv i : Nat} {K : Nat} {x : Int32} (hlv : 4 ≤ lv) (hi : i < 6) (hK : K < 7) (hk : B 0 (9 * i + 0) = nI K) (hs : s.2 ≤ 945) : Ct l g yX6_knocks cX6_knocks 5 (some .int) lv 0 0 [rf g (9, 0, i), .int (nI 2), .int x, rf g (17, 0, 0)] NN (jn (hC g h0 ct cl rd B cy rw (s.1, nI s.2) sp) X) (pI (knocksF i (B 0 (9 * i + 1)) K 2 x s).1 (jn (hC g h0 ct cl rd B cy rw ((knocksF i (B 0 (9 * i + 1)) K 2 x s).2.1, nI (knocksF i (B 0 (9 * i + 1)) K 2 x s).2.2) sp) X)) := by
  refine Ct.of (lv := [some (rf g (9, 0, i)), some (.int (nI 2)), some (.int x), some (rf g (17, 0, 0)), none]) (by decide +kernel) rfl (Nat.le_of_ble_eq_true rfl) ?_
  intro Γ C
  refine V.iload_n (q := 1) C dX6_knocks_0 rfl rfl ?_
  refine V.lookup (off := 94) (tgt := 95) C dX6_knocks_1 (by decide) (by decide) rfl ?_
  refine V.aload_n (q := 96) C dX6_knocks_95 rfl rfl ?_
  refine V.bipush (q := 98) (v := nI 11) C dX6_knocks_96 rfl (by decide) ?_
  refine V.callVv (q := 101) C me_X6_begins (c_begins (by first | omega | (simp only [bdy_n]; omega))) ml_X6_19 dX6_knocks_98 rfl okC_17 ⟨_, rfl⟩ rfl rfl (Nat.le_of_ble_eq_true rfl) (by omega) (Nat.zero_le _) (Nat.zero_le _) ?_
  refine V.aload_n (q := 102) C dX6_knocks_101 rfl rfl ?_
  refine V.aload_n (q := 103) C dX6_knocks_102 rfl rfl ?_
  refine V.get (q := 106) C fl_X6_38 dX6_knocks_103 rfl (okC_9 (by omega) (by omega)) rfl rfl ?_
  try dsimp only
  refine V.topi (x1 := nI (K)) hk ?_
  refine V.iload_n (q := 107) C dX6_knocks_106 rfl rfl ?_
  refine V.aload_n (q := 108) C dX6_knocks_107 rfl rfl ?_
  refine V.callSi (q := 111) C me_X6_nods (c_nods (lv := 3) (by omega) hi (by rw [bdy_n]; omega) hK) ml_X6_23 dX6_knocks_108 rfl rfl rfl (Nat.le_of_ble_eq_true rfl) (by omega) (Nat.zero_le _) (Nat.zero_le _) ?_
  refine V.aload_n (q := 112) C dX6_knocks_111 rfl rfl ?_
  refine V.get (q := 115) C fl_X6_27 dX6_knocks_112 rfl (okC_9 (by omega) (by omega)) rfl rfl ?_
  try dsimp only
  refine V.isub (q := 116) C dX6_knocks_115 rfl ?_
  exact V.ireturn C dX6_knocks_116 ⟨by rw [eq1_2] <;> rfl, by rw [eq1_2] <;> rfl, rfl⟩
theorem c_knocks_3 {l : Launch} {g : GG} {X : PHp} {h0 : HZ} {ct : CTt} {cl : I2} {rd : RDt} {B : I2} {cy : Nat → Nat} {rw : RWt} {s : TS} {sp : SPt} {lv i : Nat} {K : Nat} {x : Int32} (hlv : 4 ≤ lv) (hi : i < 6) (hK : K < 7) (hk : B 0 (9 * i + 0) = nI K) (hs : s.2 ≤ 945) : Ct l g yX6_knocks cX6_knocks 5 (some .int) lv 0 0 [rf g (9, 0, i), .int (nI 3), .int x, rf g (17, 0, 0)] NN (jn (hC g h0 ct cl rd B cy rw (s.1, nI s.2) sp) X) (pI (knocksF i (B 0 (9 * i + 1)) K 3 x s).1 (jn (hC g h0 ct cl rd B cy rw ((knocksF i (B 0 (9 * i + 1)) K 3 x s).2.1, nI (knocksF i (B 0 (9 * i + 1)) K 3 x s).2.2) sp) X)) := by
  refine Ct.of (lv := [some (rf g (9, 0, i)), some (.int (nI 3)), some (.int x), some (rf g (17, 0, 0)), none]) (by decide +kernel) rfl (Nat.le_of_ble_eq_true rfl) ?_
  intro Γ C
  refine V.iload_n (q := 1) C dX6_knocks_0 rfl rfl ?_
  refine V.lookup (off := 94) (tgt := 95) C dX6_knocks_1 (by decide) (by decide) rfl ?_
  refine V.aload_n (q := 96) C dX6_knocks_95 rfl rfl ?_
  refine V.bipush (q := 98) (v := nI 11) C dX6_knocks_96 rfl (by decide) ?_
  refine V.callVv (q := 101) C me_X6_begins (c_begins (by first | omega | (simp only [bdy_n]; omega))) ml_X6_19 dX6_knocks_98 rfl okC_17 ⟨_, rfl⟩ rfl rfl (Nat.le_of_ble_eq_true rfl) (by omega) (Nat.zero_le _) (Nat.zero_le _) ?_
  refine V.aload_n (q := 102) C dX6_knocks_101 rfl rfl ?_
  refine V.aload_n (q := 103) C dX6_knocks_102 rfl rfl ?_
  refine V.get (q := 106) C fl_X6_38 dX6_knocks_103 rfl (okC_9 (by omega) (by omega)) rfl rfl ?_
  try dsimp only
  refine V.topi (x1 := nI (K)) hk ?_
  refine V.iload_n (q := 107) C dX6_knocks_106 rfl rfl ?_
  refine V.aload_n (q := 108) C dX6_knocks_107 rfl rfl ?_
  refine V.callSi (q := 111) C me_X6_nods (c_nods (lv := 3) (by omega) hi (by rw [bdy_n]; omega) hK) ml_X6_23 dX6_knocks_108 rfl rfl rfl (Nat.le_of_ble_eq_true rfl) (by omega) (Nat.zero_le _) (Nat.zero_le _) ?_
  refine V.aload_n (q := 112) C dX6_knocks_111 rfl rfl ?_
  refine V.get (q := 115) C fl_X6_27 dX6_knocks_112 rfl (okC_9 (by omega) (by omega)) rfl rfl ?_
  try dsimp only
  refine V.isub (q := 116) C dX6_knocks_115 rfl ?_
  exact V.ireturn C dX6_knocks_116 ⟨by rw [eq1_3] <;> rfl, by rw [eq1_3] <;> rfl, rfl⟩
theorem c_knocks_5 {l : Launch} {g : GG} {X : PHp} {h0 : HZ} {ct : CTt} {cl : I2} {rd : RDt} {B : I2} {cy : Nat → Nat} {rw : RWt} {s : TS} {sp : SPt} {lv i : Nat} {K : Nat} {x : Int32} (hlv : 4 ≤ lv) (hi : i < 6) (hK : K < 7) (hk : B 0 (9 * i + 0) = nI K) (hs : s.2 ≤ 945) : Ct l g yX6_knocks cX6_knocks 5 (some .int) lv 0 0 [rf g (9, 0, i), .int (nI 5), .int x, rf g (17, 0, 0)] NN (jn (hC g h0 ct cl rd B cy rw (s.1, nI s.2) sp) X) (pI (knocksF i (B 0 (9 * i + 1)) K 5 x s).1 (jn (hC g h0 ct cl rd B cy rw ((knocksF i (B 0 (9 * i + 1)) K 5 x s).2.1, nI (knocksF i (B 0 (9 * i + 1)) K 5 x s).2.2) sp) X)) := by
  refine Ct.of (lv := [some (rf g (9, 0, i)), some (.int (nI 5)), some (.int x), some (rf g (17, 0, 0)), none]) (by decide +kernel) rfl (Nat.le_of_ble_eq_true rfl) ?_
  intro Γ C
  refine V.iload_n (q := 1) C dX6_knocks_0 rfl rfl ?_
  refine V.lookup (off := 94) (tgt := 95) C dX6_knocks_1 (by decide) (by decide) rfl ?_
  refine V.aload_n (q := 96) C dX6_knocks_95 rfl rfl ?_
  refine V.bipush (q := 98) (v := nI 11) C dX6_knocks_96 rfl (by decide) ?_
  refine V.callVv (q := 101) C me_X6_begins (c_begins (by first | omega | (simp only [bdy_n]; omega))) ml_X6_19 dX6_knocks_98 rfl okC_17 ⟨_, rfl⟩ rfl rfl (Nat.le_of_ble_eq_true rfl) (by omega) (Nat.zero_le _) (Nat.zero_le _) ?_
  refine V.aload_n (q := 102) C dX6_knocks_101 rfl rfl ?_
  refine V.aload_n (q := 103) C dX6_knocks_102 rfl rfl ?_
  refine V.get (q := 106) C fl_X6_38 dX6_knocks_103 rfl (okC_9 (by omega) (by omega)) rfl rfl ?_
  try dsimp only
  refine V.topi (x1 := nI (K)) hk ?_
  refine V.iload_n (q := 107) C dX6_knocks_106 rfl rfl ?_
  refine V.aload_n (q := 108) C dX6_knocks_107 rfl rfl ?_
  refine V.callSi (q := 111) C me_X6_nods (c_nods (lv := 3) (by omega) hi (by rw [bdy_n]; omega) hK) ml_X6_23 dX6_knocks_108 rfl rfl rfl (Nat.le_of_ble_eq_true rfl) (by omega) (Nat.zero_le _) (Nat.zero_le _) ?_
  refine V.aload_n (q := 112) C dX6_knocks_111 rfl rfl ?_
  refine V.get (q := 115) C fl_X6_27 dX6_knocks_112 rfl (okC_9 (by omega) (by omega)) rfl rfl ?_
  try dsimp only
  refine V.isub (q := 116) C dX6_knocks_115 rfl ?_
  exact V.ireturn C dX6_knocks_116 ⟨by rw [eq1_5] <;> rfl, by rw [eq1_5] <;> rfl, rfl⟩
theorem c_knocks_1 {l : Launch} {g : GG} {X : PHp} {h0 : HZ} {ct : CTt} {cl : I2} {rd : RDt} {B : I2} {cy : Nat → Nat} {rw : RWt} {s : TS} {sp : SPt} {lv i : Nat} {K : Nat} {x : Int32} (hlv : 5 ≤ lv) (hi : i < 6) (hK : K < 7) (hk : B 0 (9 * i + 0) = nI K) (hs : s.2 ≤ 944) : Ct l g yX6_knocks cX6_knocks 5 (some .int) lv 0 0 [rf g (9, 0, i), .int (nI 1), .int x, rf g (17, 0, 0)] NN (jn (hC g h0 ct cl rd B cy rw (s.1, nI s.2) sp) X) (pI (knocksF i (B 0 (9 * i + 1)) K 1 x s).1 (jn (hC g h0 ct cl rd B cy rw ((knocksF i (B 0 (9 * i + 1)) K 1 x s).2.1, nI (knocksF i (B 0 (9 * i + 1)) K 1 x s).2.2) sp) X)) := by
  refine Ct.of (lv := [some (rf g (9, 0, i)), some (.int (nI 1)), some (.int x), some (rf g (17, 0, 0)), none]) (by decide +kernel) rfl (Nat.le_of_ble_eq_true rfl) ?_
  intro Γ C
  refine V.iload_n (q := 1) C dX6_knocks_0 rfl rfl ?_
  refine V.lookup (off := 35) (tgt := 36) C dX6_knocks_1 (by decide) (by decide) rfl ?_
  refine V.aload_n (q := 37) C dX6_knocks_36 rfl rfl ?_
  refine V.bipush (q := 39) (v := nI 20) C dX6_knocks_37 rfl (by decide) ?_
  refine V.callVv (q := 42) C me_X6_begins (c_begins (by first | omega | (simp only [bdy_n]; omega))) ml_X6_19 dX6_knocks_39 rfl okC_17 ⟨_, rfl⟩ rfl rfl (Nat.le_of_ble_eq_true rfl) (by omega) (Nat.zero_le _) (Nat.zero_le _) ?_
  refine V.aload_n (q := 43) C dX6_knocks_42 rfl rfl ?_
  refine V.iconst (q := 44) (v := nI 0) C dX6_knocks_43 rfl (by decide) ?_
  refine V.iload_n (q := 45) C dX6_knocks_44 rfl rfl ?_
  refine V.aload_n (q := 46) C dX6_knocks_45 rfl rfl ?_
  refine V.callSi (q := 49) C me_X6_knocks (c_knocks_0 (lv := 4) (by omega) hi hK hk (by rw [bdy_n]; omega)) ml_X6_35 dX6_knocks_46 rfl rfl rfl (Nat.le_of_ble_eq_true rfl) (by omega) (Nat.zero_le _) (Nat.zero_le _) ?_
  refine V.bipush (q := 51) (v := nI 6) C dX6_knocks_49 rfl (by decide) ?_
  refine V.ixor (q := 52) C dX6_knocks_51 rfl ?_
  exact V.ireturn C dX6_knocks_52 ⟨by rw [eq1_1] <;> rfl, by rw [eq1_1] <;> rfl, rfl⟩
theorem c_knocks_4 {l : Launch} {g : GG} {X : PHp} {h0 : HZ} {ct : CTt} {cl : I2} {rd : RDt} {B : I2} {cy : Nat → Nat} {rw : RWt} {s : TS} {sp : SPt} {lv i : Nat} {K : Nat} {x : Int32} (hlv : 6 ≤ lv) (hi : i < 6) (hK : K < 7) (hk : B 0 (9 * i + 0) = nI K) (hs : s.2 ≤ 943) : Ct l g yX6_knocks cX6_knocks 5 (some .int) lv 0 0 [rf g (9, 0, i), .int (nI 4), .int x, rf g (17, 0, 0)] NN (jn (hC g h0 ct cl rd B cy rw (s.1, nI s.2) sp) X) (pI (knocksF i (B 0 (9 * i + 1)) K 4 x s).1 (jn (hC g h0 ct cl rd B cy rw ((knocksF i (B 0 (9 * i + 1)) K 4 x s).2.1, nI (knocksF i (B 0 (9 * i + 1)) K 4 x s).2.2) sp) X)) := by
  refine Ct.of (lv := [some (rf g (9, 0, i)), some (.int (nI 4)), some (.int x), some (rf g (17, 0, 0)), none]) (by decide +kernel) rfl (Nat.le_of_ble_eq_true rfl) ?_
  intro Γ C
  refine V.iload_n (q := 1) C dX6_knocks_0 rfl rfl ?_
  refine V.lookup (off := 52) (tgt := 53) C dX6_knocks_1 (by decide) (by decide) rfl ?_
  refine V.aload_n (q := 54) C dX6_knocks_53 rfl rfl ?_
  refine V.bipush (q := 56) (v := nI 51) C dX6_knocks_54 rfl (by decide) ?_
  refine V.callVv (q := 59) C me_X6_begins (c_begins (by first | omega | (simp only [bdy_n]; omega))) ml_X6_19 dX6_knocks_56 rfl okC_17 ⟨_, rfl⟩ rfl rfl (Nat.le_of_ble_eq_true rfl) (by omega) (Nat.zero_le _) (Nat.zero_le _) ?_
  refine V.aload_n (q := 60) C dX6_knocks_59 rfl rfl ?_
  refine V.iconst (q := 61) (v := nI 1) C dX6_knocks_60 rfl (by decide) ?_
  refine V.iload_n (q := 62) C dX6_knocks_61 rfl rfl ?_
  refine V.iconst (q := 63) (v := nI 1) C dX6_knocks_62 rfl (by decide) ?_
  refine V.iadd (q := 64) C dX6_knocks_63 rfl ?_
  refine V.aload_n (q := 65) C dX6_knocks_64 rfl rfl ?_
  refine V.callSi (q := 68) C me_X6_knocks (c_knocks_1 (lv := 5) (by omega) hi hK hk (by rw [bdy_n]; omega)) ml_X6_35 dX6_knocks_65 rfl rfl rfl (Nat.le_of_ble_eq_true rfl) (by omega) (Nat.zero_le _) (Nat.zero_le _) ?_
  exact V.ireturn C dX6_knocks_68 ⟨by rw [eq1_4] <;> rfl, by rw [eq1_4] <;> rfl, rfl⟩
theorem c_knocks_6 {l : Launch} {g : GG} {X : PHp} {h0 : HZ} {ct : CTt} {cl : I2} {rd : RDt} {B : I2} {cy : Nat → Nat} {rw : RWt} {s : TS} {sp : SPt} {lv i : Nat} {K : Nat} {x : Int32} (hlv : 6 ≤ lv) (hi : i < 6) (hK : K < 7) (hk : B 0 (9 * i + 0) = nI K) (hs : s.2 ≤ 940) : Ct l g yX6_knocks cX6_knocks 5 (some .int) lv 0 0 [rf g (9, 0, i), .int (nI 6), .int x, rf g (17, 0, 0)] NN (jn (hC g h0 ct cl rd B cy rw (s.1, nI s.2) sp) X) (pI (knocksF i (B 0 (9 * i + 1)) K 6 x s).1 (jn (hC g h0 ct cl rd B cy rw ((knocksF i (B 0 (9 * i + 1)) K 6 x s).2.1, nI (knocksF i (B 0 (9 * i + 1)) K 6 x s).2.2) sp) X)) := by
  refine Ct.of (lv := [some (rf g (9, 0, i)), some (.int (nI 6)), some (.int x), some (rf g (17, 0, 0)), none]) (by decide +kernel) rfl (Nat.le_of_ble_eq_true rfl) ?_
  intro Γ C
  refine V.iload_n (q := 1) C dX6_knocks_0 rfl rfl ?_
  refine V.lookup (off := 68) (tgt := 69) C dX6_knocks_1 (by decide) (by decide) rfl ?_
  refine V.aload_n (q := 70) C dX6_knocks_69 rfl rfl ?_
  refine V.bipush (q := 72) (v := nI 70) C dX6_knocks_70 rfl (by decide) ?_
  refine V.callVv (q := 75) C me_X6_begins (c_begins (by first | omega | (simp only [bdy_n]; omega))) ml_X6_19 dX6_knocks_72 rfl okC_17 ⟨_, rfl⟩ rfl rfl (Nat.le_of_ble_eq_true rfl) (by omega) (Nat.zero_le _) (Nat.zero_le _) ?_
  refine V.aload_n (q := 76) C dX6_knocks_75 rfl rfl ?_
  refine V.iconst (q := 77) (v := nI 3) C dX6_knocks_76 rfl (by decide) ?_
  refine V.iload_n (q := 78) C dX6_knocks_77 rfl rfl ?_
  refine V.aload_n (q := 79) C dX6_knocks_78 rfl rfl ?_
  refine V.callSi (q := 82) C me_X6_knocks (c_knocks_3 (lv := 4) (by omega) hi hK hk (by rw [bdy_n]; omega)) ml_X6_35 dX6_knocks_79 rfl rfl rfl (Nat.le_of_ble_eq_true rfl) (by omega) (Nat.zero_le _) (Nat.zero_le _) ?_
  refine V.istore (q := 84) C dX6_knocks_82 rfl (by decide) rfl rfl ?_
  refine V.iload (q := 86) C dX6_knocks_84 rfl rfl ?_
  refine V.aload_n (q := 87) C dX6_knocks_86 rfl rfl ?_
  refine V.iconst (q := 88) (v := nI 3) C dX6_knocks_87 rfl (by decide) ?_
  refine V.iconst (q := 89) (v := nI 2) C dX6_knocks_88 rfl (by decide) ?_
  refine V.aload_n (q := 90) C dX6_knocks_89 rfl rfl ?_
  refine V.callSi (q := 93) C me_X6_nods (c_nods_3 (lv := 2) (by omega) hi (by have h1 := @knocksF_n i (B 0 (9 * i + 1)) K 3 x (bdy (nI 70) s); rw [bdy_n] at h1; omega)) ml_X6_23 dX6_knocks_90 rfl rfl rfl (Nat.le_of_ble_eq_true rfl) (by omega) (Nat.zero_le _) (Nat.zero_le _) ?_
  refine V.iadd (q := 94) C dX6_knocks_93 rfl ?_
  exact V.ireturn C dX6_knocks_94 ⟨by rw [eq1_6] <;> rfl, by rw [eq1_6] <;> rfl, rfl⟩
theorem c_knocks {l : Launch} {g : GG} {X : PHp} {h0 : HZ} {ct : CTt} {cl : I2} {rd : RDt} {B : I2} {cy : Nat → Nat} {rw : RWt} {s : TS} {sp : SPt} {lv i q : Nat} {K : Nat} {x : Int32} (hlv : 6 ≤ lv) (hi : i < 6) (hK : K < 7) (hk : B 0 (9 * i + 0) = nI K) (hs : s.2 ≤ 940) (hq : q < 7) : Ct l g yX6_knocks cX6_knocks 5 (some .int) lv 0 0 [rf g (9, 0, i), .int (nI q), .int x, rf g (17, 0, 0)] NN (jn (hC g h0 ct cl rd B cy rw (s.1, nI s.2) sp) X) (pI (knocksF i (B 0 (9 * i + 1)) K q x s).1 (jn (hC g h0 ct cl rd B cy rw ((knocksF i (B 0 (9 * i + 1)) K q x s).2.1, nI (knocksF i (B 0 (9 * i + 1)) K q x s).2.2) sp) X)) := by
  obtain rfl | rfl | rfl | rfl | rfl | rfl | rfl := (show q = 0 ∨ q = 1 ∨ q = 2 ∨ q = 3 ∨ q = 4 ∨ q = 5 ∨ q = 6 by omega)
  · exact c_knocks_0 (by omega) hi hK hk (by omega)
  · exact c_knocks_1 (by omega) hi hK hk (by omega)
  · exact c_knocks_2 (by omega) hi hK hk (by omega)
  · exact c_knocks_3 (by omega) hi hK hk (by omega)
  · exact c_knocks_4 (by omega) hi hK hk (by omega)
  · exact c_knocks_5 (by omega) hi hK hk (by omega)
  · exact c_knocks_6 (by omega) hi hK hk (by omega)
theorem c_tells_0 {l : Launch} {g : GG} {X : PHp} {h0 : HZ} {ct : CTt} {cl : I2} {rd : RDt} {B : I2} {cy : Nat → Nat} {rw : RWt} {s : TS} {sp : SPt} {lv i : Nat} {K : Nat} {x : Int32} (hlv : 7 ≤ lv) (hi : i < 6) (hK : K < 7) (hk : B 0 (9 * i + 0) = nI K) (hs : s.2 ≤ 930) : Ct l g yX6_tells cX6_tells 5 (some .int) lv 0 0 [rf g (9, 0, i), .int (nI 0), .int x, rf g (17, 0, 0)] NN (jn (hC g h0 ct cl rd B cy rw (s.1, nI s.2) sp) X) (pI (tellsF i (B 0 (9 * i + 1)) K 0 x s).1 (jn (hC g h0 ct cl rd B cy rw ((tellsF i (B 0 (9 * i + 1)) K 0 x s).2.1, nI (tellsF i (B 0 (9 * i + 1)) K 0 x s).2.2) sp) X)) := by
  refine Ct.of (lv := [some (rf g (9, 0, i)), some (.int (nI 0)), some (.int x), some (rf g (17, 0, 0)), none]) (by decide +kernel) rfl (Nat.le_of_ble_eq_true rfl) ?_
  intro Γ C
  refine V.iload_n (q := 1) C dX6_tells_0 rfl rfl ?_
  refine V.tableOut (tgt := 80) C dX6_tells_1 (by decide) rfl ?_
  refine V.aload_n (q := 81) C dX6_tells_80 rfl rfl ?_
  refine V.bipush (q := 83) (v := nI 12) C dX6_tells_81 rfl (by decide) ?_
  refine V.callVv (q := 86) C me_X6_begins (c_begins (by first | omega | (simp only [bdy_n]; omega))) ml_X6_19 dX6_tells_83 rfl okC_17 ⟨_, rfl⟩ rfl rfl (Nat.le_of_ble_eq_true rfl) (by omega) (Nat.zero_le _) (Nat.zero_le _) ?_
  refine V.aload_n (q := 87) C dX6_tells_86 rfl rfl ?_
  refine V.aload_n (q := 88) C dX6_tells_87 rfl rfl ?_
  refine V.get (q := 91) C fl_X6_38 dX6_tells_88 rfl (okC_9 (by omega) (by omega)) rfl rfl ?_
  try dsimp only
  refine V.topi (x1 := nI (K)) hk ?_
  refine V.iload_n (q := 92) C dX6_tells_91 rfl rfl ?_
  refine V.aload_n (q := 93) C dX6_tells_92 rfl rfl ?_
  refine V.callSi (q := 96) C me_X6_knocks (c_knocks (lv := 6) (by omega) hi hK hk (by rw [bdy_n]; omega) hK) ml_X6_35 dX6_tells_93 rfl rfl rfl (Nat.le_of_ble_eq_true rfl) (by omega) (Nat.zero_le _) (Nat.zero_le _) ?_
  refine V.iconst (q := 97) (v := nI 2) C dX6_tells_96 rfl (by decide) ?_
  refine V.imul (q := 98) C dX6_tells_97 rfl ?_
  exact V.ireturn C dX6_tells_98 ⟨by rw [eq2_0] <;> rfl, by rw [eq2_0] <;> rfl, rfl⟩
theorem c_tells_1 {l : Launch} {g : GG} {X : PHp} {h0 : HZ} {ct : CTt} {cl : I2} {rd : RDt} {B : I2} {cy : Nat → Nat} {rw : RWt} {s : TS} {sp : SPt} {lv i : Nat} {K : Nat} {x : Int32} (hlv : 7 ≤ lv) (hi : i < 6) (hK : K < 7) (hk : B 0 (9 * i + 0) = nI K) (hs : s.2 ≤ 930) : Ct l g yX6_tells cX6_tells 5 (some .int) lv 0 0 [rf g (9, 0, i), .int (nI 1), .int x, rf g (17, 0, 0)] NN (jn (hC g h0 ct cl rd B cy rw (s.1, nI s.2) sp) X) (pI (tellsF i (B 0 (9 * i + 1)) K 1 x s).1 (jn (hC g h0 ct cl rd B cy rw ((tellsF i (B 0 (9 * i + 1)) K 1 x s).2.1, nI (tellsF i (B 0 (9 * i + 1)) K 1 x s).2.2) sp) X)) := by
  refine Ct.of (lv := [some (rf g (9, 0, i)), some (.int (nI 1)), some (.int x), some (rf g (17, 0, 0)), none]) (by decide +kernel) rfl (Nat.le_of_ble_eq_true rfl) ?_
  intro Γ C
  refine V.iload_n (q := 1) C dX6_tells_0 rfl rfl ?_
  refine V.tableOut (tgt := 80) C dX6_tells_1 (by decide) rfl ?_
  refine V.aload_n (q := 81) C dX6_tells_80 rfl rfl ?_
  refine V.bipush (q := 83) (v := nI 12) C dX6_tells_81 rfl (by decide) ?_
  refine V.callVv (q := 86) C me_X6_begins (c_begins (by first | omega | (simp only [bdy_n]; omega))) ml_X6_19 dX6_tells_83 rfl okC_17 ⟨_, rfl⟩ rfl rfl (Nat.le_of_ble_eq_true rfl) (by omega) (Nat.zero_le _) (Nat.zero_le _) ?_
  refine V.aload_n (q := 87) C dX6_tells_86 rfl rfl ?_
  refine V.aload_n (q := 88) C dX6_tells_87 rfl rfl ?_
  refine V.get (q := 91) C fl_X6_38 dX6_tells_88 rfl (okC_9 (by omega) (by omega)) rfl rfl ?_
  try dsimp only
  refine V.topi (x1 := nI (K)) hk ?_
  refine V.iload_n (q := 92) C dX6_tells_91 rfl rfl ?_
  refine V.aload_n (q := 93) C dX6_tells_92 rfl rfl ?_
  refine V.callSi (q := 96) C me_X6_knocks (c_knocks (lv := 6) (by omega) hi hK hk (by rw [bdy_n]; omega) hK) ml_X6_35 dX6_tells_93 rfl rfl rfl (Nat.le_of_ble_eq_true rfl) (by omega) (Nat.zero_le _) (Nat.zero_le _) ?_
  refine V.iconst (q := 97) (v := nI 2) C dX6_tells_96 rfl (by decide) ?_
  refine V.imul (q := 98) C dX6_tells_97 rfl ?_
  exact V.ireturn C dX6_tells_98 ⟨by rw [eq2_1] <;> rfl, by rw [eq2_1] <;> rfl, rfl⟩
theorem c_tells_2 {l : Launch} {g : GG} {X : PHp} {h0 : HZ} {ct : CTt} {cl : I2} {rd : RDt} {B : I2} {cy : Nat → Nat} {rw : RWt} {s : TS} {sp : SPt} {lv i : Nat} {K : Nat} {x : Int32} (hlv : 7 ≤ lv) (hi : i < 6) (hK : K < 7) (hk : B 0 (9 * i + 0) = nI K) (hs : s.2 ≤ 930) : Ct l g yX6_tells cX6_tells 5 (some .int) lv 0 0 [rf g (9, 0, i), .int (nI 2), .int x, rf g (17, 0, 0)] NN (jn (hC g h0 ct cl rd B cy rw (s.1, nI s.2) sp) X) (pI (tellsF i (B 0 (9 * i + 1)) K 2 x s).1 (jn (hC g h0 ct cl rd B cy rw ((tellsF i (B 0 (9 * i + 1)) K 2 x s).2.1, nI (tellsF i (B 0 (9 * i + 1)) K 2 x s).2.2) sp) X)) := by
  refine Ct.of (lv := [some (rf g (9, 0, i)), some (.int (nI 2)), some (.int x), some (rf g (17, 0, 0)), none]) (by decide +kernel) rfl (Nat.le_of_ble_eq_true rfl) ?_
  intro Γ C
  refine V.iload_n (q := 1) C dX6_tells_0 rfl rfl ?_
  refine V.tableOut (tgt := 80) C dX6_tells_1 (by decide) rfl ?_
  refine V.aload_n (q := 81) C dX6_tells_80 rfl rfl ?_
  refine V.bipush (q := 83) (v := nI 12) C dX6_tells_81 rfl (by decide) ?_
  refine V.callVv (q := 86) C me_X6_begins (c_begins (by first | omega | (simp only [bdy_n]; omega))) ml_X6_19 dX6_tells_83 rfl okC_17 ⟨_, rfl⟩ rfl rfl (Nat.le_of_ble_eq_true rfl) (by omega) (Nat.zero_le _) (Nat.zero_le _) ?_
  refine V.aload_n (q := 87) C dX6_tells_86 rfl rfl ?_
  refine V.aload_n (q := 88) C dX6_tells_87 rfl rfl ?_
  refine V.get (q := 91) C fl_X6_38 dX6_tells_88 rfl (okC_9 (by omega) (by omega)) rfl rfl ?_
  try dsimp only
  refine V.topi (x1 := nI (K)) hk ?_
  refine V.iload_n (q := 92) C dX6_tells_91 rfl rfl ?_
  refine V.aload_n (q := 93) C dX6_tells_92 rfl rfl ?_
  refine V.callSi (q := 96) C me_X6_knocks (c_knocks (lv := 6) (by omega) hi hK hk (by rw [bdy_n]; omega) hK) ml_X6_35 dX6_tells_93 rfl rfl rfl (Nat.le_of_ble_eq_true rfl) (by omega) (Nat.zero_le _) (Nat.zero_le _) ?_
  refine V.iconst (q := 97) (v := nI 2) C dX6_tells_96 rfl (by decide) ?_
  refine V.imul (q := 98) C dX6_tells_97 rfl ?_
  exact V.ireturn C dX6_tells_98 ⟨by rw [eq2_2] <;> rfl, by rw [eq2_2] <;> rfl, rfl⟩
theorem c_tells_4 {l : Launch} {g : GG} {X : PHp} {h0 : HZ} {ct : CTt} {cl : I2} {rd : RDt} {B : I2} {cy : Nat → Nat} {rw : RWt} {s : TS} {sp : SPt} {lv i : Nat} {K : Nat} {x : Int32} (hlv : 7 ≤ lv) (hi : i < 6) (hK : K < 7) (hk : B 0 (9 * i + 0) = nI K) (hs : s.2 ≤ 930) : Ct l g yX6_tells cX6_tells 5 (some .int) lv 0 0 [rf g (9, 0, i), .int (nI 4), .int x, rf g (17, 0, 0)] NN (jn (hC g h0 ct cl rd B cy rw (s.1, nI s.2) sp) X) (pI (tellsF i (B 0 (9 * i + 1)) K 4 x s).1 (jn (hC g h0 ct cl rd B cy rw ((tellsF i (B 0 (9 * i + 1)) K 4 x s).2.1, nI (tellsF i (B 0 (9 * i + 1)) K 4 x s).2.2) sp) X)) := by
  refine Ct.of (lv := [some (rf g (9, 0, i)), some (.int (nI 4)), some (.int x), some (rf g (17, 0, 0)), none]) (by decide +kernel) rfl (Nat.le_of_ble_eq_true rfl) ?_
  intro Γ C
  refine V.iload_n (q := 1) C dX6_tells_0 rfl rfl ?_
  refine V.tableIn (off := 79) (tgt := 80) C dX6_tells_1 (by decide) (by decide) (by decide) rfl ?_
  refine V.aload_n (q := 81) C dX6_tells_80 rfl rfl ?_
  refine V.bipush (q := 83) (v := nI 12) C dX6_tells_81 rfl (by decide) ?_
  refine V.callVv (q := 86) C me_X6_begins (c_begins (by first | omega | (simp only [bdy_n]; omega))) ml_X6_19 dX6_tells_83 rfl okC_17 ⟨_, rfl⟩ rfl rfl (Nat.le_of_ble_eq_true rfl) (by omega) (Nat.zero_le _) (Nat.zero_le _) ?_
  refine V.aload_n (q := 87) C dX6_tells_86 rfl rfl ?_
  refine V.aload_n (q := 88) C dX6_tells_87 rfl rfl ?_
  refine V.get (q := 91) C fl_X6_38 dX6_tells_88 rfl (okC_9 (by omega) (by omega)) rfl rfl ?_
  try dsimp only
  refine V.topi (x1 := nI (K)) hk ?_
  refine V.iload_n (q := 92) C dX6_tells_91 rfl rfl ?_
  refine V.aload_n (q := 93) C dX6_tells_92 rfl rfl ?_
  refine V.callSi (q := 96) C me_X6_knocks (c_knocks (lv := 6) (by omega) hi hK hk (by rw [bdy_n]; omega) hK) ml_X6_35 dX6_tells_93 rfl rfl rfl (Nat.le_of_ble_eq_true rfl) (by omega) (Nat.zero_le _) (Nat.zero_le _) ?_
  refine V.iconst (q := 97) (v := nI 2) C dX6_tells_96 rfl (by decide) ?_
  refine V.imul (q := 98) C dX6_tells_97 rfl ?_
  exact V.ireturn C dX6_tells_98 ⟨by rw [eq2_4] <;> rfl, by rw [eq2_4] <;> rfl, rfl⟩
theorem c_tells_3 {l : Launch} {g : GG} {X : PHp} {h0 : HZ} {ct : CTt} {cl : I2} {rd : RDt} {B : I2} {cy : Nat → Nat} {rw : RWt} {s : TS} {sp : SPt} {lv i : Nat} {K : Nat} {x : Int32} (hlv : 8 ≤ lv) (hi : i < 6) (hK : K < 7) (hk : B 0 (9 * i + 0) = nI K) (hs : s.2 ≤ 900) : Ct l g yX6_tells cX6_tells 5 (some .int) lv 0 0 [rf g (9, 0, i), .int (nI 3), .int x, rf g (17, 0, 0)] NN (jn (hC g h0 ct cl rd B cy rw (s.1, nI s.2) sp) X) (pI (tellsF i (B 0 (9 * i + 1)) K 3 x s).1 (jn (hC g h0 ct cl rd B cy rw ((tellsF i (B 0 (9 * i + 1)) K 3 x s).2.1, nI (tellsF i (B 0 (9 * i + 1)) K 3 x s).2.2) sp) X)) := by
  refine Ct.of (lv := [some (rf g (9, 0, i)), some (.int (nI 3)), some (.int x), some (rf g (17, 0, 0)), none]) (by decide +kernel) rfl (Nat.le_of_ble_eq_true rfl) ?_
  intro Γ C
  refine V.iload_n (q := 1) C dX6_tells_0 rfl rfl ?_
  refine V.tableIn (off := 31) (tgt := 32) C dX6_tells_1 (by decide) (by decide) (by decide) rfl ?_
  refine V.aload_n (q := 33) C dX6_tells_32 rfl rfl ?_
  refine V.bipush (q := 35) (v := nI 40) C dX6_tells_33 rfl (by decide) ?_
  refine V.callVv (q := 38) C me_X6_begins (c_begins (by first | omega | (simp only [bdy_n]; omega))) ml_X6_19 dX6_tells_35 rfl okC_17 ⟨_, rfl⟩ rfl rfl (Nat.le_of_ble_eq_true rfl) (by omega) (Nat.zero_le _) (Nat.zero_le _) ?_
  refine V.aload_n (q := 39) C dX6_tells_38 rfl rfl ?_
  refine V.iconst (q := 40) (v := nI 0) C dX6_tells_39 rfl (by decide) ?_
  refine V.iload_n (q := 41) C dX6_tells_40 rfl rfl ?_
  refine V.aload_n (q := 42) C dX6_tells_41 rfl rfl ?_
  refine V.callSi (q := 45) C me_X6_tells (c_tells_0 (lv := 7) (by omega) hi hK hk (by rw [bdy_n]; omega)) ml_X6_41 dX6_tells_42 rfl rfl rfl (Nat.le_of_ble_eq_true rfl) (by omega) (Nat.zero_le _) (Nat.zero_le _) ?_
  refine V.istore (q := 47) C dX6_tells_45 rfl (by decide) rfl rfl ?_
  refine V.iload (q := 49) C dX6_tells_47 rfl rfl ?_
  refine V.aload_n (q := 50) C dX6_tells_49 rfl rfl ?_
  refine V.aload_n (q := 51) C dX6_tells_50 rfl rfl ?_
  refine V.get (q := 54) C fl_X6_38 dX6_tells_51 rfl (okC_9 (by omega) (by omega)) rfl rfl ?_
  try dsimp only
  refine V.topi (x1 := nI (K)) hk ?_
  refine V.iconst (q := 55) (v := nI 1) C dX6_tells_54 rfl (by decide) ?_
  refine V.aload_n (q := 56) C dX6_tells_55 rfl rfl ?_
  refine V.callSi (q := 59) C me_X6_knocks (c_knocks (lv := 6) (by omega) hi hK hk (by have h1 := @tellsF_n i (B 0 (9 * i + 1)) K 0 x (bdy (nI 40) s); rw [bdy_n] at h1; omega) hK) ml_X6_35 dX6_tells_56 rfl rfl rfl (Nat.le_of_ble_eq_true rfl) (by omega) (Nat.zero_le _) (Nat.zero_le _) ?_
  refine V.iadd (q := 60) C dX6_tells_59 rfl ?_
  exact V.ireturn C dX6_tells_60 ⟨by rw [eq2_3] <;> rfl, by rw [eq2_3] <;> rfl, rfl⟩
theorem c_tells_6 {l : Launch} {g : GG} {X : PHp} {h0 : HZ} {ct : CTt} {cl : I2} {rd : RDt} {B : I2} {cy : Nat → Nat} {rw : RWt} {s : TS} {sp : SPt} {lv i : Nat} {K : Nat} {x : Int32} (hlv : 8 ≤ lv) (hi : i < 6) (hK : K < 7) (hk : B 0 (9 * i + 0) = nI K) (hs : s.2 ≤ 900) : Ct l g yX6_tells cX6_tells 5 (some .int) lv 0 0 [rf g (9, 0, i), .int (nI 6), .int x, rf g (17, 0, 0)] NN (jn (hC g h0 ct cl rd B cy rw (s.1, nI s.2) sp) X) (pI (tellsF i (B 0 (9 * i + 1)) K 6 x s).1 (jn (hC g h0 ct cl rd B cy rw ((tellsF i (B 0 (9 * i + 1)) K 6 x s).2.1, nI (tellsF i (B 0 (9 * i + 1)) K 6 x s).2.2) sp) X)) := by
  refine Ct.of (lv := [some (rf g (9, 0, i)), some (.int (nI 6)), some (.int x), some (rf g (17, 0, 0)), none]) (by decide +kernel) rfl (Nat.le_of_ble_eq_true rfl) ?_
  intro Γ C
  refine V.iload_n (q := 1) C dX6_tells_0 rfl rfl ?_
  refine V.tableIn (off := 31) (tgt := 32) C dX6_tells_1 (by decide) (by decide) (by decide) rfl ?_
  refine V.aload_n (q := 33) C dX6_tells_32 rfl rfl ?_
  refine V.bipush (q := 35) (v := nI 40) C dX6_tells_33 rfl (by decide) ?_
  refine V.callVv (q := 38) C me_X6_begins (c_begins (by first | omega | (simp only [bdy_n]; omega))) ml_X6_19 dX6_tells_35 rfl okC_17 ⟨_, rfl⟩ rfl rfl (Nat.le_of_ble_eq_true rfl) (by omega) (Nat.zero_le _) (Nat.zero_le _) ?_
  refine V.aload_n (q := 39) C dX6_tells_38 rfl rfl ?_
  refine V.iconst (q := 40) (v := nI 0) C dX6_tells_39 rfl (by decide) ?_
  refine V.iload_n (q := 41) C dX6_tells_40 rfl rfl ?_
  refine V.aload_n (q := 42) C dX6_tells_41 rfl rfl ?_
  refine V.callSi (q := 45) C me_X6_tells (c_tells_0 (lv := 7) (by omega) hi hK hk (by rw [bdy_n]; omega)) ml_X6_41 dX6_tells_42 rfl rfl rfl (Nat.le_of_ble_eq_true rfl) (by omega) (Nat.zero_le _) (Nat.zero_le _) ?_
  refine V.istore (q := 47) C dX6_tells_45 rfl (by decide) rfl rfl ?_
  refine V.iload (q := 49) C dX6_tells_47 rfl rfl ?_
  refine V.aload_n (q := 50) C dX6_tells_49 rfl rfl ?_
  refine V.aload_n (q := 51) C dX6_tells_50 rfl rfl ?_
  refine V.get (q := 54) C fl_X6_38 dX6_tells_51 rfl (okC_9 (by omega) (by omega)) rfl rfl ?_
  try dsimp only
  refine V.topi (x1 := nI (K)) hk ?_
  refine V.iconst (q := 55) (v := nI 1) C dX6_tells_54 rfl (by decide) ?_
  refine V.aload_n (q := 56) C dX6_tells_55 rfl rfl ?_
  refine V.callSi (q := 59) C me_X6_knocks (c_knocks (lv := 6) (by omega) hi hK hk (by have h1 := @tellsF_n i (B 0 (9 * i + 1)) K 0 x (bdy (nI 40) s); rw [bdy_n] at h1; omega) hK) ml_X6_35 dX6_tells_56 rfl rfl rfl (Nat.le_of_ble_eq_true rfl) (by omega) (Nat.zero_le _) (Nat.zero_le _) ?_
  refine V.iadd (q := 60) C dX6_tells_59 rfl ?_
  exact V.ireturn C dX6_tells_60 ⟨by rw [eq2_6] <;> rfl, by rw [eq2_6] <;> rfl, rfl⟩
theorem c_tells_5 {l : Launch} {g : GG} {X : PHp} {h0 : HZ} {ct : CTt} {cl : I2} {rd : RDt} {B : I2} {cy : Nat → Nat} {rw : RWt} {s : TS} {sp : SPt} {lv i : Nat} {K : Nat} {x : Int32} (hlv : 8 ≤ lv) (hi : i < 6) (hK : K < 7) (hk : B 0 (9 * i + 0) = nI K) (hs : s.2 ≤ 900) : Ct l g yX6_tells cX6_tells 5 (some .int) lv 0 0 [rf g (9, 0, i), .int (nI 5), .int x, rf g (17, 0, 0)] NN (jn (hC g h0 ct cl rd B cy rw (s.1, nI s.2) sp) X) (pI (tellsF i (B 0 (9 * i + 1)) K 5 x s).1 (jn (hC g h0 ct cl rd B cy rw ((tellsF i (B 0 (9 * i + 1)) K 5 x s).2.1, nI (tellsF i (B 0 (9 * i + 1)) K 5 x s).2.2) sp) X)) := by
  refine Ct.of (lv := [some (rf g (9, 0, i)), some (.int (nI 5)), some (.int x), some (rf g (17, 0, 0)), none]) (by decide +kernel) rfl (Nat.le_of_ble_eq_true rfl) ?_
  intro Γ C
  refine V.iload_n (q := 1) C dX6_tells_0 rfl rfl ?_
  refine V.tableIn (off := 60) (tgt := 61) C dX6_tells_1 (by decide) (by decide) (by decide) rfl ?_
  refine V.aload_n (q := 62) C dX6_tells_61 rfl rfl ?_
  refine V.bipush (q := 64) (v := nI 60) C dX6_tells_62 rfl (by decide) ?_
  refine V.callVv (q := 67) C me_X6_begins (c_begins (by first | omega | (simp only [bdy_n]; omega))) ml_X6_19 dX6_tells_64 rfl okC_17 ⟨_, rfl⟩ rfl rfl (Nat.le_of_ble_eq_true rfl) (by omega) (Nat.zero_le _) (Nat.zero_le _) ?_
  refine V.aload_n (q := 68) C dX6_tells_67 rfl rfl ?_
  refine V.iconst (q := 69) (v := nI 2) C dX6_tells_68 rfl (by decide) ?_
  refine V.iload_n (q := 70) C dX6_tells_69 rfl rfl ?_
  refine V.aload_n (q := 71) C dX6_tells_70 rfl rfl ?_
  refine V.get (q := 74) C fl_X6_32 dX6_tells_71 rfl (okC_9 (by omega) (by omega)) rfl rfl ?_
  try dsimp only
  refine V.isub (q := 75) C dX6_tells_74 rfl ?_
  refine V.aload_n (q := 76) C dX6_tells_75 rfl rfl ?_
  refine V.callSi (q := 79) C me_X6_tells (c_tells_2 (lv := 7) (by omega) hi hK hk (by rw [bdy_n]; omega)) ml_X6_41 dX6_tells_76 rfl rfl rfl (Nat.le_of_ble_eq_true rfl) (by omega) (Nat.zero_le _) (Nat.zero_le _) ?_
  exact V.ireturn C dX6_tells_79 ⟨by rw [eq2_5] <;> rfl, by rw [eq2_5] <;> rfl, rfl⟩
theorem c_tells {l : Launch} {g : GG} {X : PHp} {h0 : HZ} {ct : CTt} {cl : I2} {rd : RDt} {B : I2} {cy : Nat → Nat} {rw : RWt} {s : TS} {sp : SPt} {lv i q : Nat} {K : Nat} {x : Int32} (hlv : 8 ≤ lv) (hi : i < 6) (hK : K < 7) (hk : B 0 (9 * i + 0) = nI K) (hs : s.2 ≤ 900) (hq : q < 7) : Ct l g yX6_tells cX6_tells 5 (some .int) lv 0 0 [rf g (9, 0, i), .int (nI q), .int x, rf g (17, 0, 0)] NN (jn (hC g h0 ct cl rd B cy rw (s.1, nI s.2) sp) X) (pI (tellsF i (B 0 (9 * i + 1)) K q x s).1 (jn (hC g h0 ct cl rd B cy rw ((tellsF i (B 0 (9 * i + 1)) K q x s).2.1, nI (tellsF i (B 0 (9 * i + 1)) K q x s).2.2) sp) X)) := by
  obtain rfl | rfl | rfl | rfl | rfl | rfl | rfl := (show q = 0 ∨ q = 1 ∨ q = 2 ∨ q = 3 ∨ q = 4 ∨ q = 5 ∨ q = 6 by omega)
  · exact c_tells_0 (by omega) hi hK hk (by omega)
  · exact c_tells_1 (by omega) hi hK hk (by omega)
  · exact c_tells_2 (by omega) hi hK hk (by omega)
  · exact c_tells_3 (by omega) hi hK hk (by omega)
  · exact c_tells_4 (by omega) hi hK hk (by omega)
  · exact c_tells_5 (by omega) hi hK hk (by omega)
  · exact c_tells_6 (by omega) hi hK hk (by omega)
