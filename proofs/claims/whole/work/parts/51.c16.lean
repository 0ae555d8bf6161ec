/-- the day and one wearer again -/
def oneR (b a : I1) (p : Nat) : I1 := fun k => if 9 * p ≤ k ∧ k < 9 * p + 9 ∨ k = 80 then a k else b k
theorem one_put {B : I2} {b : I1} {p : Nat} (hp : p < 6) : cpW (setB (putR B 1 b) 1 80 ((putR B 1 b) 0 80)) 1 p 0 p = putR B 1 (oneR b (B 0) p) := by
  have e0 : (putR B 1 b) 0 = B 0 := putR_o (by omega)
  funext w1 k
  by_cases h : w1 = 1
  · subst h
    rw [putR_w]
    unfold cpW oneR
    by_cases hk : 9 * p ≤ k ∧ k < 9 * p + 9
    · rw [if_pos ⟨rfl, hk⟩, if_pos (Or.inl hk), show 9 * p + (k - 9 * p) = k by omega, setB_o (by omega), e0]
    · rw [if_neg (fun z => hk z.2)]
      by_cases h8 : k = 80
      · subst h8; rw [if_pos (Or.inr rfl), setB_eq, e0]
      · rw [if_neg (fun z => z.elim hk h8), setB_ne (Or.inr h8), putR_w]
  · rw [putR_o h]
    unfold cpW
    rw [if_neg (fun z => h z.1), setB_o h, putR_o h]
/-- the sayings are the reference's -/
def SyR (b A : I1) (m : Nat) : Prop := ∀ s, s < m → b (54 + 3 * s + 0) = A (54 + 3 * s + 0) ∧ b (54 + 3 * s + 1) = A (54 + 3 * s + 1) ∧ b (54 + 3 * s + 2) = noN (A (54 + 3 * s + 2))
theorem SyR.hi {b b1 A : I1} {m : Nat} (hm : m ≤ 8) (h : SyR b A m) (hb : ∀ j, 54 ≤ j → j ≠ 80 → b1 j = b j) : SyR b1 A m := by
  intro s hs
  rw [hb _ (by omega) (by omega), hb _ (by omega) (by omega), hb _ (by omega) (by omega)]
  exact h s hs
theorem one_T {B : I2} {b A : I1} {n m p K : Nat} {x : Int32} (hT : TR TT (B 0) A n m) (hs : SyR b A m) (hm : m ≤ 8) (hp : p < 6) (hK : K < 9) : TR (fun i => i = p) (upd (oneR b (B 0) p) (9 * p + K) x) (upd A (9 * p + K) x) n m := by
  refine ⟨fun i hi hip c hc => ?_, fun s hs9 => ?_, ?_⟩
  · subst hip
    simp only [upd]
    split
    · rfl
    · rw [oneR, if_pos (Or.inl ⟨by omega, by omega⟩)]
      exact hT.1 i hi trivial c hc
  · simp only [upd]
    rw [if_neg (by omega), if_neg (by omega), if_neg (by omega), if_neg (by omega), if_neg (by omega), if_neg (by omega)]
    simp only [oneR]
    rw [if_neg (by omega), if_neg (by omega), if_neg (by omega)]
    exact hs s hs9
  · simp only [upd]
    rw [if_neg (by omega), if_neg (by omega), oneR, if_pos (Or.inr rfl)]
    exact hT.2.2
theorem one_hi {b a : I1} {p K : Nat} {x : Int32} (hp : p < 6) (hK : K < 9) : ∀ j, 54 ≤ j → j ≠ 80 → upd (oneR b a p) (9 * p + K) x j = b j := by
  intro j h1 h2
  rw [upd, if_neg (by omega), oneR, if_neg (by omega)]
set_option maxHeartbeats 1000000 in
theorem c_fits0_l {l : Launch} {g : GG} {X : PHp} {h0 : HZ} {ct : CTt} {rd : RDt} {B : I2} {cy : Nat → Nat} {rw : RWt} {tl : TLt} {sp : SPt} {rules sizes A : I1} {n m r q : Nat} {Γ : Cxt} (hS : SH ct rules sizes A n m r q) (hI : CI (B 0) n m) (hT : TR TT (B 0) A n m) (hcy : cy 0 = q) {p c : Nat} (hp : p < n) (hLs : LsI A n 82 c) (hLd : LsD A 82 c) (hRw : RwR rw 0 A 82 c) {w0 : Bool} (hw0 : w0 = true) (h0' : RF rules sizes m 82 c vSee A A p False) (C : Cx Γ g cX9_fitting yX9_fitting 8 (some .int) 7 0 0) : ∀ (f x : Nat) (cl : I2) (b : I1), x + f = 100 → CI b n m → SyR b A m → V l Γ g 8 (QM Γ g (xI (fun _ : I2 × I1 × Nat => True) (fun _ => nI (ftF (fun x => asF rules sizes m 82 c vSee (upd A (9 * p + 2) x) 13 0 (upd A (9 * p + 2) x)) 99 100).1) (fun z => (jn (hC g h0 ct z.1 rd (putR B 1 z.2.1) (va_up cy 1 z.2.2) rw tl sp) X))) 0 0) 0 0 NN (jn (hC g h0 ct cl rd (putR B 1 b) (va_up cy 1 q) rw tl sp) X) 39 [some (rf g (0, 0, 0)), some (.int (nI 1)), some (.int (nI p)), some (.int (nI 0)), some (.int (nI 99)), some (.int (nI (cnt (fun x => (fun x => asF rules sizes m 82 c vSee (upd A (9 * p + 2) x) 13 0 (upd A (9 * p + 2) x)) (nI x)) x))), some (.int (b2i (w0 = true))), some (.int (nI x))] [] := by
  have h6 := hI.2.1
  have h8 := hI.2.2.2
  intro f
  induction f with
  | zero =>
    intro x cl b hx hbI hbS
    obtain rfl : x = 100 := by omega
    have hres : (ftF (fun x => asF rules sizes m 82 c vSee (upd A (9 * p + 2) x) 13 0 (upd A (9 * p + 2) x)) 99 100).1 = cnt (fun x => (fun x => asF rules sizes m 82 c vSee (upd A (9 * p + 2) x) 13 0 (upd A (9 * p + 2) x)) (nI x)) 100 := by
      have h := ft_cnt (is := (fun x => asF rules sizes m 82 c vSee (upd A (9 * p + 2) x) 13 0 (upd A (9 * p + 2) x))) (H := 99) 100 (Nat.le_refl _)
      exact h
    refine V.iload (q := 41) C dX9_fitting_39 rfl rfl ?_
    refine V.if_eqB (q := 44) (tgt := 124) C dX9_fitting_41 rfl rfl (fun hb41 => ?_) (fun hb41 => ?_)
    · exact absurd hw0 hb41
    · refine V.iload (q := 46) C dX9_fitting_44 rfl rfl ?_
      refine V.iload (q := 48) C dX9_fitting_46 rfl rfl ?_
      refine V.icmp_gt (q := 51) (tgt := 124) C dX9_fitting_48 rfl rfl (fun hb48 => ?_) (fun hb48 => ?_)
      · refine V.iload_n (q := 125) C dX9_fitting_124 rfl rfl ?_
        refine V.if_eq (q := 128) (tgt := 133) C dX9_fitting_125 rfl rfl (fun hb125 => ?_) (fun hb125 => ?_)
        · refine V.iload (q := 135) C dX9_fitting_133 rfl rfl ?_
          exact V.ireturn C dX9_fitting_135 ⟨(cl, b, q), trivial, by rw [hres], rfl, rfl⟩
        · exact absurd rfl hb125
      · exact absurd (by decide) hb48
  | succ f ih =>
    intro x cl b hx hbI hbS
    refine V.iload (q := 41) C dX9_fitting_39 rfl rfl ?_
    refine V.if_eqB (q := 44) (tgt := 124) C dX9_fitting_41 rfl rfl (fun hb41 => ?_) (fun hb41 => ?_)
    · exact absurd hw0 hb41
    · refine V.iload (q := 46) C dX9_fitting_44 rfl rfl ?_
      refine V.iload (q := 48) C dX9_fitting_46 rfl rfl ?_
      refine V.icmp_gt (q := 51) (tgt := 124) C dX9_fitting_48 rfl rfl (fun hb48 => ?_) (fun hb48 => ?_)
      · exact absurd ((nI_ltI (by omega) (by omega)).mp hb48) (by omega)
      · refine V.aload_n (q := 52) C dX9_fitting_51 rfl rfl ?_
        refine V.get (q := 55) C fl_X9_31 dX9_fitting_52 rfl okC_0 rfl rfl ?_
        refine V.aload_n (q := 56) C dX9_fitting_55 rfl rfl ?_
        refine V.get (q := 59) C fl_X9_27 dX9_fitting_56 rfl okC_0 rfl rfl ?_
        refine V.iload_n (q := 60) C dX9_fitting_59 rfl rfl ?_
        refine V.callVv (q := 63) C me_X8_becomeOne (c_becomeOne (by omega) (by omega) (by omega) (show p < 6 by omega)) ml_X9_293 dX9_fitting_60 rfl (okC_6 (by omega)) ⟨_, rfl⟩ rfl rfl (Nat.le_of_ble_eq_true rfl) (by omega) (Nat.zero_le _) (Nat.zero_le _) ?_
        rw [one_put (by omega)]
        refine V.iload_n (q := 64) C dX9_fitting_63 rfl rfl ?_
        refine V.if_eq (q := 67) (tgt := 84) C dX9_fitting_64 rfl rfl (fun hb64 => ?_) (fun hb64 => ?_)
        · exact absurd hb64 (by decide)
        · refine V.aload_n (q := 68) C dX9_fitting_67 rfl rfl ?_
          refine V.get (q := 71) C fl_X9_31 dX9_fitting_68 rfl okC_0 rfl rfl ?_
          refine V.get (q := 74) C fl_X9_82 dX9_fitting_71 rfl (okC_6 (by omega)) rfl rfl ?_
          refine V.iload_n (q := 75) C dX9_fitting_74 rfl rfl ?_
          refine V.rld (q := 76) (i := p) C rfl dX9_fitting_75 rfl (okC_7 (by omega)) rfl rfl (by omega) (by decide) ?_
          refine V.iload (q := 78) C dX9_fitting_76 rfl rfl ?_
          refine V.put (q := 81) C fl_X9_94 rfl dX9_fitting_78 rfl (okC_9 (by omega) (by omega)) rfl (Nat.le_of_ble_eq_true rfl) rfl rfl rfl ?_
          refine V.phE (uC_9_4 (by omega)) ?_
          refine V.goto (tgt := 98) C dX9_fitting_81 rfl ?_
          rw [set1]
          refine V.aload_n (q := 99) C dX9_fitting_98 rfl rfl ?_
          refine V.iload_n (q := 100) C dX9_fitting_99 rfl rfl ?_
          refine V.iload_n (q := 101) C dX9_fitting_100 rfl rfl ?_
          refine V.iconst (q := 102) (v := nI 1) C dX9_fitting_101 rfl (by decide) ?_
          refine V.callVxi (q := 105) C me_X9_rowsFit (c_rfs1 (D := upd A (9 * p + 2) (nI x)) (hS.lo2 (by omega)) hT hp hLs hLd hRw (one_T hT hbS h8 (by omega) (by omega)) (CI_hi (one_hi (b := b) (a := B 0) (p := p) (K := 2) (x := nI x) (by omega) (by omega) 78 (by omega) (by omega)) (one_hi (by omega) (by omega) 79 (by omega) (by omega)) hbI)) ml_X9_289 dX9_fitting_102 rfl okC_0 ⟨_, rfl⟩ rfl rfl (Nat.le_of_ble_eq_true rfl) (by omega) (Nat.zero_le _) (Nat.zero_le _) (fun z9 hz9 => ?_)
          refine V.if_eqB (q := 108) (tgt := 118) C dX9_fitting_105 rfl rfl (fun hb105 => ?_) (fun hb105 => ?_)
          · have his : (fun x => asF rules sizes m 82 c vSee (upd A (9 * p + 2) x) 13 0 (upd A (9 * p + 2) x)) (nI x) = true ↔ z9.2.2 = true := (rf_split hS (by omega) hLs hp vok_see).trans ⟨fun z => hz9.2.2.mpr z.2, fun z => ⟨h0', hz9.2.2.mp z⟩⟩
            have hisx : ¬ (fun x => asF rules sizes m 82 c vSee (upd A (9 * p + 2) x) 13 0 (upd A (9 * p + 2) x)) (nI x) = true := fun z => hb105 (his.mp z)
            refine V.iinc (q := 121) (v := nI (x + 1)) C dX9_fitting_118 rfl rfl (nI_1 _) (by decide) rfl rfl ?_
            refine V.goto (tgt := 39) C dX9_fitting_121 rfl ?_
            have h9 := ih (x + 1) z9.1 z9.2.1 (by omega) hz9.1 (SyR.hi h8 hbS (fun j h1 h2 => (hz9.2.1 j h1 h2).trans (one_hi (by omega) (by omega) j h1 h2)))
            rw [show cnt (fun x => (fun x => asF rules sizes m 82 c vSee (upd A (9 * p + 2) x) 13 0 (upd A (9 * p + 2) x)) (nI x)) (x + 1) = cnt (fun x => (fun x => asF rules sizes m 82 c vSee (upd A (9 * p + 2) x) 13 0 (upd A (9 * p + 2) x)) (nI x)) x from if_neg hisx] at h9
            exact h9
          · have his : (fun x => asF rules sizes m 82 c vSee (upd A (9 * p + 2) x) 13 0 (upd A (9 * p + 2) x)) (nI x) = true ↔ z9.2.2 = true := (rf_split hS (by omega) hLs hp vok_see).trans ⟨fun z => hz9.2.2.mpr z.2, fun z => ⟨h0', hz9.2.2.mp z⟩⟩
            have hisx : (fun x => asF rules sizes m 82 c vSee (upd A (9 * p + 2) x) 13 0 (upd A (9 * p + 2) x)) (nI x) = true := his.mpr hb105
            refine V.iload_n (q := 109) C dX9_fitting_108 rfl rfl ?_
            refine V.if_eq (q := 112) (tgt := 115) C dX9_fitting_109 rfl rfl (fun hb109 => ?_) (fun hb109 => ?_)
            · refine V.iinc (q := 118) (v := nI ((cnt (fun x => (fun x => asF rules sizes m 82 c vSee (upd A (9 * p + 2) x) 13 0 (upd A (9 * p + 2) x)) (nI x)) x) + 1)) C dX9_fitting_115 rfl rfl (nI_1 _) (by decide) rfl rfl ?_
              refine V.iinc (q := 121) (v := nI (x + 1)) C dX9_fitting_118 rfl rfl (nI_1 _) (by decide) rfl rfl ?_
              refine V.goto (tgt := 39) C dX9_fitting_121 rfl ?_
              rw [show cnt (fun x => (fun x => asF rules sizes m 82 c vSee (upd A (9 * p + 2) x) 13 0 (upd A (9 * p + 2) x)) (nI x)) x + 1 = cnt (fun x => (fun x => asF rules sizes m 82 c vSee (upd A (9 * p + 2) x) 13 0 (upd A (9 * p + 2) x)) (nI x)) (x + 1) from (if_pos hisx).symm]
              exact ih (x + 1) z9.1 z9.2.1 (by omega) hz9.1 (SyR.hi h8 hbS (fun j h1 h2 => (hz9.2.1 j h1 h2).trans (one_hi (by omega) (by omega) j h1 h2)))
            · exact absurd rfl hb109
theorem c_fits0 {l : Launch} {g : GG} {X : PHp} {h0 : HZ} {ct : CTt} {cl : I2} {rd : RDt} {B : I2} {cy : Nat → Nat} {rw : RWt} {tl : TLt} {sp : SPt} {rules sizes A : I1} {n m r q : Nat} (hS : SH ct rules sizes A n m r q) (hI : CI (B 0) n m) (hT : TR TT (B 0) A n m) (hcy : cy 0 = q) {p c : Nat} (hp : p < n) (hLs : LsI A n 82 c) (hLd : LsD A 82 c) (hRw : RwR rw 0 A 82 c) {b : I1} {c0 : Nat} : Ct l g yX9_fitting cX9_fitting 8 (some .int) 7 0 0 [rf g (0, 0, 0), .int (nI 1), .int (nI p), .int (nI 0)] NN (jn (hC g h0 ct cl rd (putR B 1 b) (va_up cy 1 c0) rw tl sp) X) (xI (fun _ : I2 × I1 × Nat => True) (fun _ => nI (ftF (fun x => asF rules sizes m 82 c vSee (upd A (9 * p + 2) x) 13 0 (upd A (9 * p + 2) x)) 99 100).1) (fun z => (jn (hC g h0 ct z.1 rd (putR B 1 z.2.1) (va_up cy 1 z.2.2) rw tl sp) X))) := by
  refine Ct.of (lv := [some (rf g (0, 0, 0)), some (.int (nI 1)), some (.int (nI p)), some (.int (nI 0)), none, none, none, none]) (by decide +kernel) rfl (Nat.le_of_ble_eq_true rfl) ?_
  intro Γ C
  have h6 := hI.2.1
  have h8 := hI.2.2.2
  refine V.iload_n (q := 1) C dX9_fitting_0 rfl rfl ?_
  refine V.if_eq (q := 4) (tgt := 9) C dX9_fitting_1 rfl rfl (fun hb1 => ?_) (fun hb1 => ?_)
  · exact absurd hb1 (by decide)
  · refine V.bipush (q := 6) (v := nI 99) C dX9_fitting_4 rfl (by decide) ?_
    refine V.goto (tgt := 11) C dX9_fitting_6 rfl ?_
    refine V.istore (q := 13) C dX9_fitting_11 rfl (by decide) rfl rfl ?_
    refine V.iconst (q := 14) (v := nI 0) C dX9_fitting_13 rfl (by decide) ?_
    refine V.istore (q := 16) C dX9_fitting_14 rfl (by decide) rfl rfl ?_
    refine V.aload_n (q := 17) C dX9_fitting_16 rfl rfl ?_
    refine V.get (q := 20) C fl_X9_31 dX9_fitting_17 rfl okC_0 rfl rfl ?_
    refine V.aload_n (q := 21) C dX9_fitting_20 rfl rfl ?_
    refine V.get (q := 24) C fl_X9_27 dX9_fitting_21 rfl okC_0 rfl rfl ?_
    refine V.callVxv (q := 27) C me_X8_become (c_begT hS hI hT hcy) ml_X9_178 dX9_fitting_24 rfl (okC_6 (by omega)) ⟨_, rfl⟩ rfl rfl (Nat.le_of_ble_eq_true rfl) (by omega) (Nat.zero_le _) (Nat.zero_le _) (fun b1 hB1 => ?_)
    refine V.aload_n (q := 28) C dX9_fitting_27 rfl rfl ?_
    refine V.iload_n (q := 29) C dX9_fitting_28 rfl rfl ?_
    refine V.iload_n (q := 30) C dX9_fitting_29 rfl rfl ?_
    refine V.iconst (q := 31) (v := nI 0) C dX9_fitting_30 rfl (by decide) ?_
    refine V.callVxi (q := 34) C me_X9_rowsFit (c_rfs0 hS hT hp hLs hLd hRw hB1.1 hB1.2) ml_X9_289 dX9_fitting_31 rfl okC_0 ⟨_, rfl⟩ rfl rfl (Nat.le_of_ble_eq_true rfl) (by omega) (Nat.zero_le _) (Nat.zero_le _) (fun z0 hz0 => ?_)
    refine V.istore (q := 36) C dX9_fitting_34 rfl (by decide) rfl rfl ?_
    refine V.iconst (q := 37) (v := nI 0) C dX9_fitting_36 rfl (by decide) ?_
    refine V.istore (q := 39) C dX9_fitting_37 rfl (by decide) rfl rfl ?_
    by_cases hw9 : z0.2.2 = true
    · exact c_fits0_l hS hI hT hcy hp hLs hLd hRw hw9 (hz0.2.2.mp hw9) C 100 0 z0.1 z0.2.1 (by omega) hz0.1 (SyR.hi h8 hB1.1.2.1 hz0.2.1)
    · refine V.iload (q := 41) C dX9_fitting_39 rfl rfl ?_
      refine V.if_eqB (q := 44) (tgt := 124) C dX9_fitting_41 rfl rfl (fun hb41 => ?_) (fun hb41 => ?_)
      · have hno : ∀ x, (fun x => asF rules sizes m 82 c vSee (upd A (9 * p + 2) x) 13 0 (upd A (9 * p + 2) x)) x = false := fun x => (Bool.eq_false_iff).mpr (fun z => hb41 (hz0.2.2.mpr ((rf_split hS (by omega) hLs hp vok_see).mp z).1))
        have hres : (ftF (fun x => asF rules sizes m 82 c vSee (upd A (9 * p + 2) x) 13 0 (upd A (9 * p + 2) x)) 99 100).1 = 0 := by
          have h := ft_cnt (is := (fun x => asF rules sizes m 82 c vSee (upd A (9 * p + 2) x) 13 0 (upd A (9 * p + 2) x))) (H := 99) 100 (Nat.le_refl _)
          have h2 : ∀ j, cnt (fun x => (fun x => asF rules sizes m 82 c vSee (upd A (9 * p + 2) x) 13 0 (upd A (9 * p + 2) x)) (nI x)) j = 0 := by
            intro j
            induction j with
            | zero => rfl
            | succ j ih => exact (if_neg (by rw [hno]; exact Bool.false_ne_true)).trans ih
          rw [h2 100] at h
          omega
        refine V.iload_n (q := 125) C dX9_fitting_124 rfl rfl ?_
        refine V.if_eq (q := 128) (tgt := 133) C dX9_fitting_125 rfl rfl (fun hb125 => ?_) (fun hb125 => ?_)
        · refine V.iload (q := 135) C dX9_fitting_133 rfl rfl ?_
          exact V.ireturn C dX9_fitting_135 ⟨(z0.1, z0.2.1, q), trivial, by rw [hres], rfl, rfl⟩
        · exact absurd rfl hb125
      · exact absurd hb41 hw9
set_option maxHeartbeats 1000000 in
theorem c_fits1_l {l : Launch} {g : GG} {X : PHp} {h0 : HZ} {ct : CTt} {rd : RDt} {B : I2} {cy : Nat → Nat} {rw : RWt} {tl : TLt} {sp : SPt} {rules sizes A : I1} {n m r q : Nat} {Γ : Cxt} (hS : SH ct rules sizes A n m r q) (hI : CI (B 0) n m) (hT : TR TT (B 0) A n m) (hcy : cy 0 = q) {p c : Nat} (hp : p < n) (hLs : LsI A n 82 c) (hLd : LsD A 82 c) (hRw : RwR rw 0 A 82 c) {w0 : Bool} (hw0 : w0 = true) (h0' : RF rules sizes m 82 c vSee A A p False) (C : Cx Γ g cX9_fitting yX9_fitting 8 (some .int) 7 0 0) : ∀ (f x : Nat) (cl : I2) (b : I1), x + f = 100 → CI b n m → SyR b A m → (∀ y, y < x → (fun x => asF rules sizes m 82 c vSee (upd A (9 * p + 2) x) 13 0 (upd A (9 * p + 2) x)) (nI y) = false) → V l Γ g 8 (QM Γ g (xI (fun _ : I2 × I1 × Nat => True) (fun _ => (ftF (fun x => asF rules sizes m 82 c vSee (upd A (9 * p + 2) x) 13 0 (upd A (9 * p + 2) x)) 99 100).2) (fun z => (jn (hC g h0 ct z.1 rd (putR B 1 z.2.1) (va_up cy 1 z.2.2) rw tl sp) X))) 0 0) 0 0 NN (jn (hC g h0 ct cl rd (putR B 1 b) (va_up cy 1 q) rw tl sp) X) 39 [some (rf g (0, 0, 0)), some (.int (nI 1)), some (.int (nI p)), some (.int (nI 1)), some (.int (nI 99)), some (.int (nI (cnt (fun x => (fun x => asF rules sizes m 82 c vSee (upd A (9 * p + 2) x) 13 0 (upd A (9 * p + 2) x)) (nI x)) x))), some (.int (b2i (w0 = true))), some (.int (nI x))] [] := by
  have h6 := hI.2.1
  have h8 := hI.2.2.2
  intro f
  induction f with
  | zero =>
    intro x cl b hx hbI hbS hy
    obtain rfl : x = 100 := by omega
    have hres : (ftF (fun x => asF rules sizes m 82 c vSee (upd A (9 * p + 2) x) 13 0 (upd A (9 * p + 2) x)) 99 100).2 = -5 := by
      rcases ft_least (is := (fun x => asF rules sizes m 82 c vSee (upd A (9 * p + 2) x) 13 0 (upd A (9 * p + 2) x))) (H := 99) 100 (Nat.le_refl _) with ⟨-, h⟩ | ⟨y, -, h2, h3, -⟩
      · exact h
      · exact absurd ((hy y (by omega)).symm.trans h3) Bool.false_ne_true
    refine V.iload (q := 41) C dX9_fitting_39 rfl rfl ?_
    refine V.if_eqB (q := 44) (tgt := 124) C dX9_fitting_41 rfl rfl (fun hb41 => ?_) (fun hb41 => ?_)
    · exact absurd hw0 hb41
    · refine V.iload (q := 46) C dX9_fitting_44 rfl rfl ?_
      refine V.iload (q := 48) C dX9_fitting_46 rfl rfl ?_
      refine V.icmp_gt (q := 51) (tgt := 124) C dX9_fitting_48 rfl rfl (fun hb48 => ?_) (fun hb48 => ?_)
      · refine V.iload_n (q := 125) C dX9_fitting_124 rfl rfl ?_
        refine V.if_eq (q := 128) (tgt := 133) C dX9_fitting_125 rfl rfl (fun hb125 => ?_) (fun hb125 => ?_)
        · exact absurd hb125 (by decide)
        · refine V.bipush (q := 130) (v := -5) C dX9_fitting_128 rfl (by decide) ?_
          refine V.goto (tgt := 135) C dX9_fitting_130 rfl ?_
          exact V.ireturn C dX9_fitting_135 ⟨(cl, b, q), trivial, by rw [hres], rfl, rfl⟩
      · exact absurd (by decide) hb48
  | succ f ih =>
    intro x cl b hx hbI hbS hy
    refine V.iload (q := 41) C dX9_fitting_39 rfl rfl ?_
    refine V.if_eqB (q := 44) (tgt := 124) C dX9_fitting_41 rfl rfl (fun hb41 => ?_) (fun hb41 => ?_)
    · exact absurd hw0 hb41
    · refine V.iload (q := 46) C dX9_fitting_44 rfl rfl ?_
      refine V.iload (q := 48) C dX9_fitting_46 rfl rfl ?_
      refine V.icmp_gt (q := 51) (tgt := 124) C dX9_fitting_48 rfl rfl (fun hb48 => ?_) (fun hb48 => ?_)
      · exact absurd ((nI_ltI (by omega) (by omega)).mp hb48) (by omega)
      · refine V.aload_n (q := 52) C dX9_fitting_51 rfl rfl ?_
        refine V.get (q := 55) C fl_X9_31 dX9_fitting_52 rfl okC_0 rfl rfl ?_
        refine V.aload_n (q := 56) C dX9_fitting_55 rfl rfl ?_
        refine V.get (q := 59) C fl_X9_27 dX9_fitting_56 rfl okC_0 rfl rfl ?_
        refine V.iload_n (q := 60) C dX9_fitting_59 rfl rfl ?_
        refine V.callVv (q := 63) C me_X8_becomeOne (c_becomeOne (by omega) (by omega) (by omega) (show p < 6 by omega)) ml_X9_293 dX9_fitting_60 rfl (okC_6 (by omega)) ⟨_, rfl⟩ rfl rfl (Nat.le_of_ble_eq_true rfl) (by omega) (Nat.zero_le _) (Nat.zero_le _) ?_
        rw [one_put (by omega)]
        refine V.iload_n (q := 64) C dX9_fitting_63 rfl rfl ?_
        refine V.if_eq (q := 67) (tgt := 84) C dX9_fitting_64 rfl rfl (fun hb64 => ?_) (fun hb64 => ?_)
        · exact absurd hb64 (by decide)
        · refine V.aload_n (q := 68) C dX9_fitting_67 rfl rfl ?_
          refine V.get (q := 71) C fl_X9_31 dX9_fitting_68 rfl okC_0 rfl rfl ?_
          refine V.get (q := 74) C fl_X9_82 dX9_fitting_71 rfl (okC_6 (by omega)) rfl rfl ?_
          refine V.iload_n (q := 75) C dX9_fitting_74 rfl rfl ?_
          refine V.rld (q := 76) (i := p) C rfl dX9_fitting_75 rfl (okC_7 (by omega)) rfl rfl (by omega) (by decide) ?_
          refine V.iload (q := 78) C dX9_fitting_76 rfl rfl ?_
          refine V.put (q := 81) C fl_X9_94 rfl dX9_fitting_78 rfl (okC_9 (by omega) (by omega)) rfl (Nat.le_of_ble_eq_true rfl) rfl rfl rfl ?_
          refine V.phE (uC_9_4 (by omega)) ?_
          refine V.goto (tgt := 98) C dX9_fitting_81 rfl ?_
          rw [set1]
          refine V.aload_n (q := 99) C dX9_fitting_98 rfl rfl ?_
          refine V.iload_n (q := 100) C dX9_fitting_99 rfl rfl ?_
          refine V.iload_n (q := 101) C dX9_fitting_100 rfl rfl ?_
          refine V.iconst (q := 102) (v := nI 1) C dX9_fitting_101 rfl (by decide) ?_
          refine V.callVxi (q := 105) C me_X9_rowsFit (c_rfs1 (D := upd A (9 * p + 2) (nI x)) (hS.lo2 (by omega)) hT hp hLs hLd hRw (one_T hT hbS h8 (by omega) (by omega)) (CI_hi (one_hi (b := b) (a := B 0) (p := p) (K := 2) (x := nI x) (by omega) (by omega) 78 (by omega) (by omega)) (one_hi (by omega) (by omega) 79 (by omega) (by omega)) hbI)) ml_X9_289 dX9_fitting_102 rfl okC_0 ⟨_, rfl⟩ rfl rfl (Nat.le_of_ble_eq_true rfl) (by omega) (Nat.zero_le _) (Nat.zero_le _) (fun z9 hz9 => ?_)
          refine V.if_eqB (q := 108) (tgt := 118) C dX9_fitting_105 rfl rfl (fun hb105 => ?_) (fun hb105 => ?_)
          · have his : (fun x => asF rules sizes m 82 c vSee (upd A (9 * p + 2) x) 13 0 (upd A (9 * p + 2) x)) (nI x) = true ↔ z9.2.2 = true := (rf_split hS (by omega) hLs hp vok_see).trans ⟨fun z => hz9.2.2.mpr z.2, fun z => ⟨h0', hz9.2.2.mp z⟩⟩
            have hisx : ¬ (fun x => asF rules sizes m 82 c vSee (upd A (9 * p + 2) x) 13 0 (upd A (9 * p + 2) x)) (nI x) = true := fun z => hb105 (his.mp z)
            refine V.iinc (q := 121) (v := nI (x + 1)) C dX9_fitting_118 rfl rfl (nI_1 _) (by decide) rfl rfl ?_
            refine V.goto (tgt := 39) C dX9_fitting_121 rfl ?_
            have h9 := ih (x + 1) z9.1 z9.2.1 (by omega) hz9.1 (SyR.hi h8 hbS (fun j h1 h2 => (hz9.2.1 j h1 h2).trans (one_hi (by omega) (by omega) j h1 h2))) (fun y hy9 => by
              by_cases e9 : y = x
              · rw [e9]; exact (Bool.eq_false_iff).mpr hisx
              · exact hy y (by omega))
            rw [show cnt (fun x => (fun x => asF rules sizes m 82 c vSee (upd A (9 * p + 2) x) 13 0 (upd A (9 * p + 2) x)) (nI x)) (x + 1) = cnt (fun x => (fun x => asF rules sizes m 82 c vSee (upd A (9 * p + 2) x) 13 0 (upd A (9 * p + 2) x)) (nI x)) x from if_neg hisx] at h9
            exact h9
          · have his : (fun x => asF rules sizes m 82 c vSee (upd A (9 * p + 2) x) 13 0 (upd A (9 * p + 2) x)) (nI x) = true ↔ z9.2.2 = true := (rf_split hS (by omega) hLs hp vok_see).trans ⟨fun z => hz9.2.2.mpr z.2, fun z => ⟨h0', hz9.2.2.mp z⟩⟩
            have hisx : (fun x => asF rules sizes m 82 c vSee (upd A (9 * p + 2) x) 13 0 (upd A (9 * p + 2) x)) (nI x) = true := his.mpr hb105
            refine V.iload_n (q := 109) C dX9_fitting_108 rfl rfl ?_
            refine V.if_eq (q := 112) (tgt := 115) C dX9_fitting_109 rfl rfl (fun hb109 => ?_) (fun hb109 => ?_)
            · exact absurd hb109 (by decide)
            · have hres : (ftF (fun x => asF rules sizes m 82 c vSee (upd A (9 * p + 2) x) 13 0 (upd A (9 * p + 2) x)) 99 100).2 = nI x := by
                rcases ft_least (is := (fun x => asF rules sizes m 82 c vSee (upd A (9 * p + 2) x) 13 0 (upd A (9 * p + 2) x))) (H := 99) 100 (Nat.le_refl _) with ⟨h, -⟩ | ⟨y, -, h2, h3, h4, h5⟩
                · exact absurd ((h x (by omega) (by omega)).symm.trans hisx) Bool.false_ne_true
                · rw [h4]
                  by_cases e1 : y < x
                  · exact absurd ((hy y e1).symm.trans h3) Bool.false_ne_true
                  · by_cases e2 : x < y
                    · exact absurd ((h5 x (by omega) e2).symm.trans hisx) Bool.false_ne_true
                    · rw [show y = x by omega]
              refine V.iload (q := 114) C dX9_fitting_112 rfl rfl ?_
              exact V.ireturn C dX9_fitting_114 ⟨(z9.1, z9.2.1, q), trivial, by rw [hres], rfl, rfl⟩
theorem c_fits1 {l : Launch} {g : GG} {X : PHp} {h0 : HZ} {ct : CTt} {cl : I2} {rd : RDt} {B : I2} {cy : Nat → Nat} {rw : RWt} {tl : TLt} {sp : SPt} {rules sizes A : I1} {n m r q : Nat} (hS : SH ct rules sizes A n m r q) (hI : CI (B 0) n m) (hT : TR TT (B 0) A n m) (hcy : cy 0 = q) {p c : Nat} (hp : p < n) (hLs : LsI A n 82 c) (hLd : LsD A 82 c) (hRw : RwR rw 0 A 82 c) {b : I1} {c0 : Nat} : Ct l g yX9_fitting cX9_fitting 8 (some .int) 7 0 0 [rf g (0, 0, 0), .int (nI 1), .int (nI p), .int (nI 1)] NN (jn (hC g h0 ct cl rd (putR B 1 b) (va_up cy 1 c0) rw tl sp) X) (xI (fun _ : I2 × I1 × Nat => True) (fun _ => (ftF (fun x => asF rules sizes m 82 c vSee (upd A (9 * p + 2) x) 13 0 (upd A (9 * p + 2) x)) 99 100).2) (fun z => (jn (hC g h0 ct z.1 rd (putR B 1 z.2.1) (va_up cy 1 z.2.2) rw tl sp) X))) := by
  refine Ct.of (lv := [some (rf g (0, 0, 0)), some (.int (nI 1)), some (.int (nI p)), some (.int (nI 1)), none, none, none, none]) (by decide +kernel) rfl (Nat.le_of_ble_eq_true rfl) ?_
  intro Γ C
  have h6 := hI.2.1
  have h8 := hI.2.2.2
  refine V.iload_n (q := 1) C dX9_fitting_0 rfl rfl ?_
  refine V.if_eq (q := 4) (tgt := 9) C dX9_fitting_1 rfl rfl (fun hb1 => ?_) (fun hb1 => ?_)
  · exact absurd hb1 (by decide)
  · refine V.bipush (q := 6) (v := nI 99) C dX9_fitting_4 rfl (by decide) ?_
    refine V.goto (tgt := 11) C dX9_fitting_6 rfl ?_
    refine V.istore (q := 13) C dX9_fitting_11 rfl (by decide) rfl rfl ?_
    refine V.iconst (q := 14) (v := nI 0) C dX9_fitting_13 rfl (by decide) ?_
    refine V.istore (q := 16) C dX9_fitting_14 rfl (by decide) rfl rfl ?_
    refine V.aload_n (q := 17) C dX9_fitting_16 rfl rfl ?_
    refine V.get (q := 20) C fl_X9_31 dX9_fitting_17 rfl okC_0 rfl rfl ?_
    refine V.aload_n (q := 21) C dX9_fitting_20 rfl rfl ?_
    refine V.get (q := 24) C fl_X9_27 dX9_fitting_21 rfl okC_0 rfl rfl ?_
    refine V.callVxv (q := 27) C me_X8_become (c_begT hS hI hT hcy) ml_X9_178 dX9_fitting_24 rfl (okC_6 (by omega)) ⟨_, rfl⟩ rfl rfl (Nat.le_of_ble_eq_true rfl) (by omega) (Nat.zero_le _) (Nat.zero_le _) (fun b1 hB1 => ?_)
    refine V.aload_n (q := 28) C dX9_fitting_27 rfl rfl ?_
    refine V.iload_n (q := 29) C dX9_fitting_28 rfl rfl ?_
    refine V.iload_n (q := 30) C dX9_fitting_29 rfl rfl ?_
    refine V.iconst (q := 31) (v := nI 0) C dX9_fitting_30 rfl (by decide) ?_
    refine V.callVxi (q := 34) C me_X9_rowsFit (c_rfs0 hS hT hp hLs hLd hRw hB1.1 hB1.2) ml_X9_289 dX9_fitting_31 rfl okC_0 ⟨_, rfl⟩ rfl rfl (Nat.le_of_ble_eq_true rfl) (by omega) (Nat.zero_le _) (Nat.zero_le _) (fun z0 hz0 => ?_)
    refine V.istore (q := 36) C dX9_fitting_34 rfl (by decide) rfl rfl ?_
    refine V.iconst (q := 37) (v := nI 0) C dX9_fitting_36 rfl (by decide) ?_
    refine V.istore (q := 39) C dX9_fitting_37 rfl (by decide) rfl rfl ?_
    by_cases hw9 : z0.2.2 = true
    · exact c_fits1_l hS hI hT hcy hp hLs hLd hRw hw9 (hz0.2.2.mp hw9) C 100 0 z0.1 z0.2.1 (by omega) hz0.1 (SyR.hi h8 hB1.1.2.1 hz0.2.1) (fun y hy => absurd hy (Nat.not_lt_zero y))
    · refine V.iload (q := 41) C dX9_fitting_39 rfl rfl ?_
      refine V.if_eqB (q := 44) (tgt := 124) C dX9_fitting_41 rfl rfl (fun hb41 => ?_) (fun hb41 => ?_)
      · have hno : ∀ x, (fun x => asF rules sizes m 82 c vSee (upd A (9 * p + 2) x) 13 0 (upd A (9 * p + 2) x)) x = false := fun x => (Bool.eq_false_iff).mpr (fun z => hb41 (hz0.2.2.mpr ((rf_split hS (by omega) hLs hp vok_see).mp z).1))
        have hres : (ftF (fun x => asF rules sizes m 82 c vSee (upd A (9 * p + 2) x) 13 0 (upd A (9 * p + 2) x)) 99 100).2 = -5 := by
          rcases ft_least (is := (fun x => asF rules sizes m 82 c vSee (upd A (9 * p + 2) x) 13 0 (upd A (9 * p + 2) x))) (H := 99) 100 (Nat.le_refl _) with ⟨-, h⟩ | ⟨y, -, h2, h3, -⟩
          · exact h
          · exact absurd ((hno _).symm.trans h3) Bool.false_ne_true
        refine V.iload_n (q := 125) C dX9_fitting_124 rfl rfl ?_
        refine V.if_eq (q := 128) (tgt := 133) C dX9_fitting_125 rfl rfl (fun hb125 => ?_) (fun hb125 => ?_)
        · exact absurd hb125 (by decide)
        · refine V.bipush (q := 130) (v := -5) C dX9_fitting_128 rfl (by decide) ?_
          refine V.goto (tgt := 135) C dX9_fitting_130 rfl ?_
          exact V.ireturn C dX9_fitting_135 ⟨(z0.1, z0.2.1, q), trivial, by rw [hres], rfl, rfl⟩
      · exact absurd hb41 hw9
set_option maxHeartbeats 1000000 in
theorem c_fita0_l {l : Launch} {g : GG} {X : PHp} {h0 : HZ} {ct : CTt} {rd : RDt} {B : I2} {cy : Nat → Nat} {rw : RWt} {tl : TLt} {sp : SPt} {rules sizes A : I1} {n m r q : Nat} {Γ : Cxt} (hS : SH ct rules sizes A n m r q) (hI : CI (B 0) n m) (hT : TR TT (B 0) A n m) (hcy : cy 0 = q) {p c : Nat} (hp : p < n) (hLs : LsI A n 98 c) (hLd : LsD A 98 c) (hRw : RwR rw 1 A 98 c) {w0 : Bool} (hw0 : w0 = true) (h0' : RF rules sizes m 98 c vAche A A p False) (C : Cx Γ g cX9_fitting yX9_fitting 8 (some .int) 7 0 0) : ∀ (f x : Nat) (cl : I2) (b : I1), x + f = 10 → CI b n m → SyR b A m → V l Γ g 8 (QM Γ g (xI (fun _ : I2 × I1 × Nat => True) (fun _ => nI (ftF (fun x => asF rules sizes m 98 c vAche (upd A (9 * p + 1) x) 13 0 (upd A (9 * p + 1) x)) 9 10).1) (fun z => (jn (hC g h0 ct z.1 rd (putR B 1 z.2.1) (va_up cy 1 z.2.2) rw tl sp) X))) 0 0) 0 0 NN (jn (hC g h0 ct cl rd (putR B 1 b) (va_up cy 1 q) rw tl sp) X) 39 [some (rf g (0, 0, 0)), some (.int (nI 0)), some (.int (nI p)), some (.int (nI 0)), some (.int (nI 9)), some (.int (nI (cnt (fun x => (fun x => asF rules sizes m 98 c vAche (upd A (9 * p + 1) x) 13 0 (upd A (9 * p + 1) x)) (nI x)) x))), some (.int (b2i (w0 = true))), some (.int (nI x))] [] := by
  have h6 := hI.2.1
  have h8 := hI.2.2.2
  intro f
  induction f with
  | zero =>
    intro x cl b hx hbI hbS
    obtain rfl : x = 10 := by omega
    have hres : (ftF (fun x => asF rules sizes m 98 c vAche (upd A (9 * p + 1) x) 13 0 (upd A (9 * p + 1) x)) 9 10).1 = cnt (fun x => (fun x => asF rules sizes m 98 c vAche (upd A (9 * p + 1) x) 13 0 (upd A (9 * p + 1) x)) (nI x)) 10 := by
      have h := ft_cnt (is := (fun x => asF rules sizes m 98 c vAche (upd A (9 * p + 1) x) 13 0 (upd A (9 * p + 1) x))) (H := 9) 10 (Nat.le_refl _)
      exact h
    refine V.iload (q := 41) C dX9_fitting_39 rfl rfl ?_
    refine V.if_eqB (q := 44) (tgt := 124) C dX9_fitting_41 rfl rfl (fun hb41 => ?_) (fun hb41 => ?_)
    · exact absurd hw0 hb41
    · refine V.iload (q := 46) C dX9_fitting_44 rfl rfl ?_
      refine V.iload (q := 48) C dX9_fitting_46 rfl rfl ?_
      refine V.icmp_gt (q := 51) (tgt := 124) C dX9_fitting_48 rfl rfl (fun hb48 => ?_) (fun hb48 => ?_)
      · refine V.iload_n (q := 125) C dX9_fitting_124 rfl rfl ?_
        refine V.if_eq (q := 128) (tgt := 133) C dX9_fitting_125 rfl rfl (fun hb125 => ?_) (fun hb125 => ?_)
        · refine V.iload (q := 135) C dX9_fitting_133 rfl rfl ?_
          exact V.ireturn C dX9_fitting_135 ⟨(cl, b, q), trivial, by rw [hres], rfl, rfl⟩
        · exact absurd rfl hb125
      · exact absurd (by decide) hb48
  | succ f ih =>
    intro x cl b hx hbI hbS
    refine V.iload (q := 41) C dX9_fitting_39 rfl rfl ?_
    refine V.if_eqB (q := 44) (tgt := 124) C dX9_fitting_41 rfl rfl (fun hb41 => ?_) (fun hb41 => ?_)
    · exact absurd hw0 hb41
    · refine V.iload (q := 46) C dX9_fitting_44 rfl rfl ?_
      refine V.iload (q := 48) C dX9_fitting_46 rfl rfl ?_
      refine V.icmp_gt (q := 51) (tgt := 124) C dX9_fitting_48 rfl rfl (fun hb48 => ?_) (fun hb48 => ?_)
      · exact absurd ((nI_ltI (by omega) (by omega)).mp hb48) (by omega)
      · refine V.aload_n (q := 52) C dX9_fitting_51 rfl rfl ?_
        refine V.get (q := 55) C fl_X9_31 dX9_fitting_52 rfl okC_0 rfl rfl ?_
        refine V.aload_n (q := 56) C dX9_fitting_55 rfl rfl ?_
        refine V.get (q := 59) C fl_X9_27 dX9_fitting_56 rfl okC_0 rfl rfl ?_
        refine V.iload_n (q := 60) C dX9_fitting_59 rfl rfl ?_
        refine V.callVv (q := 63) C me_X8_becomeOne (c_becomeOne (by omega) (by omega) (by omega) (show p < 6 by omega)) ml_X9_293 dX9_fitting_60 rfl (okC_6 (by omega)) ⟨_, rfl⟩ rfl rfl (Nat.le_of_ble_eq_true rfl) (by omega) (Nat.zero_le _) (Nat.zero_le _) ?_
        rw [one_put (by omega)]
        refine V.iload_n (q := 64) C dX9_fitting_63 rfl rfl ?_
        refine V.if_eq (q := 67) (tgt := 84) C dX9_fitting_64 rfl rfl (fun hb64 => ?_) (fun hb64 => ?_)
        · refine V.aload_n (q := 85) C dX9_fitting_84 rfl rfl ?_
          refine V.get (q := 88) C fl_X9_31 dX9_fitting_85 rfl okC_0 rfl rfl ?_
          refine V.get (q := 91) C fl_X9_82 dX9_fitting_88 rfl (okC_6 (by omega)) rfl rfl ?_
          refine V.iload_n (q := 92) C dX9_fitting_91 rfl rfl ?_
          refine V.rld (q := 93) (i := p) C rfl dX9_fitting_92 rfl (okC_7 (by omega)) rfl rfl (by omega) (by decide) ?_
          refine V.iload (q := 95) C dX9_fitting_93 rfl rfl ?_
          refine V.put (q := 98) C fl_X9_91 rfl dX9_fitting_95 rfl (okC_9 (by omega) (by omega)) rfl (Nat.le_of_ble_eq_true rfl) rfl rfl rfl ?_
          refine V.phE (uC_9_3 (by omega)) ?_
          rw [set1]
          refine V.aload_n (q := 99) C dX9_fitting_98 rfl rfl ?_
          refine V.iload_n (q := 100) C dX9_fitting_99 rfl rfl ?_
          refine V.iload_n (q := 101) C dX9_fitting_100 rfl rfl ?_
          refine V.iconst (q := 102) (v := nI 1) C dX9_fitting_101 rfl (by decide) ?_
          refine V.callVxi (q := 105) C me_X9_rowsFit (c_rfa1 (D := upd A (9 * p + 1) (nI x)) (hS.lo2 (by omega)) hT hp hLs hLd hRw (one_T hT hbS h8 (by omega) (by omega)) (CI_hi (one_hi (b := b) (a := B 0) (p := p) (K := 1) (x := nI x) (by omega) (by omega) 78 (by omega) (by omega)) (one_hi (by omega) (by omega) 79 (by omega) (by omega)) hbI)) ml_X9_289 dX9_fitting_102 rfl okC_0 ⟨_, rfl⟩ rfl rfl (Nat.le_of_ble_eq_true rfl) (by omega) (Nat.zero_le _) (Nat.zero_le _) (fun z9 hz9 => ?_)
          refine V.if_eqB (q := 108) (tgt := 118) C dX9_fitting_105 rfl rfl (fun hb105 => ?_) (fun hb105 => ?_)
          · have his : (fun x => asF rules sizes m 98 c vAche (upd A (9 * p + 1) x) 13 0 (upd A (9 * p + 1) x)) (nI x) = true ↔ z9.2.2 = true := (rf_split hS (by omega) hLs hp vok_ache).trans ⟨fun z => hz9.2.2.mpr z.2, fun z => ⟨h0', hz9.2.2.mp z⟩⟩
            have hisx : ¬ (fun x => asF rules sizes m 98 c vAche (upd A (9 * p + 1) x) 13 0 (upd A (9 * p + 1) x)) (nI x) = true := fun z => hb105 (his.mp z)
            refine V.iinc (q := 121) (v := nI (x + 1)) C dX9_fitting_118 rfl rfl (nI_1 _) (by decide) rfl rfl ?_
            refine V.goto (tgt := 39) C dX9_fitting_121 rfl ?_
            have h9 := ih (x + 1) z9.1 z9.2.1 (by omega) hz9.1 (SyR.hi h8 hbS (fun j h1 h2 => (hz9.2.1 j h1 h2).trans (one_hi (by omega) (by omega) j h1 h2)))
            rw [show cnt (fun x => (fun x => asF rules sizes m 98 c vAche (upd A (9 * p + 1) x) 13 0 (upd A (9 * p + 1) x)) (nI x)) (x + 1) = cnt (fun x => (fun x => asF rules sizes m 98 c vAche (upd A (9 * p + 1) x) 13 0 (upd A (9 * p + 1) x)) (nI x)) x from if_neg hisx] at h9
            exact h9
          · have his : (fun x => asF rules sizes m 98 c vAche (upd A (9 * p + 1) x) 13 0 (upd A (9 * p + 1) x)) (nI x) = true ↔ z9.2.2 = true := (rf_split hS (by omega) hLs hp vok_ache).trans ⟨fun z => hz9.2.2.mpr z.2, fun z => ⟨h0', hz9.2.2.mp z⟩⟩
            have hisx : (fun x => asF rules sizes m 98 c vAche (upd A (9 * p + 1) x) 13 0 (upd A (9 * p + 1) x)) (nI x) = true := his.mpr hb105
            refine V.iload_n (q := 109) C dX9_fitting_108 rfl rfl ?_
            refine V.if_eq (q := 112) (tgt := 115) C dX9_fitting_109 rfl rfl (fun hb109 => ?_) (fun hb109 => ?_)
            · refine V.iinc (q := 118) (v := nI ((cnt (fun x => (fun x => asF rules sizes m 98 c vAche (upd A (9 * p + 1) x) 13 0 (upd A (9 * p + 1) x)) (nI x)) x) + 1)) C dX9_fitting_115 rfl rfl (nI_1 _) (by decide) rfl rfl ?_
              refine V.iinc (q := 121) (v := nI (x + 1)) C dX9_fitting_118 rfl rfl (nI_1 _) (by decide) rfl rfl ?_
              refine V.goto (tgt := 39) C dX9_fitting_121 rfl ?_
              rw [show cnt (fun x => (fun x => asF rules sizes m 98 c vAche (upd A (9 * p + 1) x) 13 0 (upd A (9 * p + 1) x)) (nI x)) x + 1 = cnt (fun x => (fun x => asF rules sizes m 98 c vAche (upd A (9 * p + 1) x) 13 0 (upd A (9 * p + 1) x)) (nI x)) (x + 1) from (if_pos hisx).symm]
              exact ih (x + 1) z9.1 z9.2.1 (by omega) hz9.1 (SyR.hi h8 hbS (fun j h1 h2 => (hz9.2.1 j h1 h2).trans (one_hi (by omega) (by omega) j h1 h2)))
            · exact absurd rfl hb109
        · exact absurd rfl hb64
theorem c_fita0 {l : Launch} {g : GG} {X : PHp} {h0 : HZ} {ct : CTt} {cl : I2} {rd : RDt} {B : I2} {cy : Nat → Nat} {rw : RWt} {tl : TLt} {sp : SPt} {rules sizes A : I1} {n m r q : Nat} (hS : SH ct rules sizes A n m r q) (hI : CI (B 0) n m) (hT : TR TT (B 0) A n m) (hcy : cy 0 = q) {p c : Nat} (hp : p < n) (hLs : LsI A n 98 c) (hLd : LsD A 98 c) (hRw : RwR rw 1 A 98 c) {b : I1} {c0 : Nat} : Ct l g yX9_fitting cX9_fitting 8 (some .int) 7 0 0 [rf g (0, 0, 0), .int (nI 0), .int (nI p), .int (nI 0)] NN (jn (hC g h0 ct cl rd (putR B 1 b) (va_up cy 1 c0) rw tl sp) X) (xI (fun _ : I2 × I1 × Nat => True) (fun _ => nI (ftF (fun x => asF rules sizes m 98 c vAche (upd A (9 * p + 1) x) 13 0 (upd A (9 * p + 1) x)) 9 10).1) (fun z => (jn (hC g h0 ct z.1 rd (putR B 1 z.2.1) (va_up cy 1 z.2.2) rw tl sp) X))) := by
  refine Ct.of (lv := [some (rf g (0, 0, 0)), some (.int (nI 0)), some (.int (nI p)), some (.int (nI 0)), none, none, none, none]) (by decide +kernel) rfl (Nat.le_of_ble_eq_true rfl) ?_
  intro Γ C
  have h6 := hI.2.1
  have h8 := hI.2.2.2
  refine V.iload_n (q := 1) C dX9_fitting_0 rfl rfl ?_
  refine V.if_eq (q := 4) (tgt := 9) C dX9_fitting_1 rfl rfl (fun hb1 => ?_) (fun hb1 => ?_)
  · refine V.bipush (q := 11) (v := nI 9) C dX9_fitting_9 rfl (by decide) ?_
    refine V.istore (q := 13) C dX9_fitting_11 rfl (by decide) rfl rfl ?_
    refine V.iconst (q := 14) (v := nI 0) C dX9_fitting_13 rfl (by decide) ?_
    refine V.istore (q := 16) C dX9_fitting_14 rfl (by decide) rfl rfl ?_
    refine V.aload_n (q := 17) C dX9_fitting_16 rfl rfl ?_
    refine V.get (q := 20) C fl_X9_31 dX9_fitting_17 rfl okC_0 rfl rfl ?_
    refine V.aload_n (q := 21) C dX9_fitting_20 rfl rfl ?_
    refine V.get (q := 24) C fl_X9_27 dX9_fitting_21 rfl okC_0 rfl rfl ?_
    refine V.callVxv (q := 27) C me_X8_become (c_begT hS hI hT hcy) ml_X9_178 dX9_fitting_24 rfl (okC_6 (by omega)) ⟨_, rfl⟩ rfl rfl (Nat.le_of_ble_eq_true rfl) (by omega) (Nat.zero_le _) (Nat.zero_le _) (fun b1 hB1 => ?_)
    refine V.aload_n (q := 28) C dX9_fitting_27 rfl rfl ?_
    refine V.iload_n (q := 29) C dX9_fitting_28 rfl rfl ?_
    refine V.iload_n (q := 30) C dX9_fitting_29 rfl rfl ?_
    refine V.iconst (q := 31) (v := nI 0) C dX9_fitting_30 rfl (by decide) ?_
    refine V.callVxi (q := 34) C me_X9_rowsFit (c_rfa0 hS hT hp hLs hLd hRw hB1.1 hB1.2) ml_X9_289 dX9_fitting_31 rfl okC_0 ⟨_, rfl⟩ rfl rfl (Nat.le_of_ble_eq_true rfl) (by omega) (Nat.zero_le _) (Nat.zero_le _) (fun z0 hz0 => ?_)
    refine V.istore (q := 36) C dX9_fitting_34 rfl (by decide) rfl rfl ?_
    refine V.iconst (q := 37) (v := nI 0) C dX9_fitting_36 rfl (by decide) ?_
    refine V.istore (q := 39) C dX9_fitting_37 rfl (by decide) rfl rfl ?_
    by_cases hw9 : z0.2.2 = true
    · exact c_fita0_l hS hI hT hcy hp hLs hLd hRw hw9 (hz0.2.2.mp hw9) C 10 0 z0.1 z0.2.1 (by omega) hz0.1 (SyR.hi h8 hB1.1.2.1 hz0.2.1)
    · refine V.iload (q := 41) C dX9_fitting_39 rfl rfl ?_
      refine V.if_eqB (q := 44) (tgt := 124) C dX9_fitting_41 rfl rfl (fun hb41 => ?_) (fun hb41 => ?_)
      · have hno : ∀ x, (fun x => asF rules sizes m 98 c vAche (upd A (9 * p + 1) x) 13 0 (upd A (9 * p + 1) x)) x = false := fun x => (Bool.eq_false_iff).mpr (fun z => hb41 (hz0.2.2.mpr ((rf_split hS (by omega) hLs hp vok_ache).mp z).1))
        have hres : (ftF (fun x => asF rules sizes m 98 c vAche (upd A (9 * p + 1) x) 13 0 (upd A (9 * p + 1) x)) 9 10).1 = 0 := by
          have h := ft_cnt (is := (fun x => asF rules sizes m 98 c vAche (upd A (9 * p + 1) x) 13 0 (upd A (9 * p + 1) x))) (H := 9) 10 (Nat.le_refl _)
          have h2 : ∀ j, cnt (fun x => (fun x => asF rules sizes m 98 c vAche (upd A (9 * p + 1) x) 13 0 (upd A (9 * p + 1) x)) (nI x)) j = 0 := by
            intro j
            induction j with
            | zero => rfl
            | succ j ih => exact (if_neg (by rw [hno]; exact Bool.false_ne_true)).trans ih
          rw [h2 10] at h
          omega
        refine V.iload_n (q := 125) C dX9_fitting_124 rfl rfl ?_
        refine V.if_eq (q := 128) (tgt := 133) C dX9_fitting_125 rfl rfl (fun hb125 => ?_) (fun hb125 => ?_)
        · refine V.iload (q := 135) C dX9_fitting_133 rfl rfl ?_
          exact V.ireturn C dX9_fitting_135 ⟨(z0.1, z0.2.1, q), trivial, by rw [hres], rfl, rfl⟩
        · exact absurd rfl hb125
      · exact absurd hb41 hw9
  · exact absurd rfl hb1
set_option maxHeartbeats 1000000 in
theorem c_fita1_l {l : Launch} {g : GG} {X : PHp} {h0 : HZ} {ct : CTt} {rd : RDt} {B : I2} {cy : Nat → Nat} {rw : RWt} {tl : TLt} {sp : SPt} {rules sizes A : I1} {n m r q : Nat} {Γ : Cxt} (hS : SH ct rules sizes A n m r q) (hI : CI (B 0) n m) (hT : TR TT (B 0) A n m) (hcy : cy 0 = q) {p c : Nat} (hp : p < n) (hLs : LsI A n 98 c) (hLd : LsD A 98 c) (hRw : RwR rw 1 A 98 c) {w0 : Bool} (hw0 : w0 = true) (h0' : RF rules sizes m 98 c vAche A A p False) (C : Cx Γ g cX9_fitting yX9_fitting 8 (some .int) 7 0 0) : ∀ (f x : Nat) (cl : I2) (b : I1), x + f = 10 → CI b n m → SyR b A m → (∀ y, y < x → (fun x => asF rules sizes m 98 c vAche (upd A (9 * p + 1) x) 13 0 (upd A (9 * p + 1) x)) (nI y) = false) → V l Γ g 8 (QM Γ g (xI (fun _ : I2 × I1 × Nat => True) (fun _ => (ftF (fun x => asF rules sizes m 98 c vAche (upd A (9 * p + 1) x) 13 0 (upd A (9 * p + 1) x)) 9 10).2) (fun z => (jn (hC g h0 ct z.1 rd (putR B 1 z.2.1) (va_up cy 1 z.2.2) rw tl sp) X))) 0 0) 0 0 NN (jn (hC g h0 ct cl rd (putR B 1 b) (va_up cy 1 q) rw tl sp) X) 39 [some (rf g (0, 0, 0)), some (.int (nI 0)), some (.int (nI p)), some (.int (nI 1)), some (.int (nI 9)), some (.int (nI (cnt (fun x => (fun x => asF rules sizes m 98 c vAche (upd A (9 * p + 1) x) 13 0 (upd A (9 * p + 1) x)) (nI x)) x))), some (.int (b2i (w0 = true))), some (.int (nI x))] [] := by
  have h6 := hI.2.1
  have h8 := hI.2.2.2
  intro f
  induction f with
  | zero =>
    intro x cl b hx hbI hbS hy
    obtain rfl : x = 10 := by omega
    have hres : (ftF (fun x => asF rules sizes m 98 c vAche (upd A (9 * p + 1) x) 13 0 (upd A (9 * p + 1) x)) 9 10).2 = -5 := by
      rcases ft_least (is := (fun x => asF rules sizes m 98 c vAche (upd A (9 * p + 1) x) 13 0 (upd A (9 * p + 1) x))) (H := 9) 10 (Nat.le_refl _) with ⟨-, h⟩ | ⟨y, -, h2, h3, -⟩
      · exact h
      · exact absurd ((hy y (by omega)).symm.trans h3) Bool.false_ne_true
    refine V.iload (q := 41) C dX9_fitting_39 rfl rfl ?_
    refine V.if_eqB (q := 44) (tgt := 124) C dX9_fitting_41 rfl rfl (fun hb41 => ?_) (fun hb41 => ?_)
    · exact absurd hw0 hb41
    · refine V.iload (q := 46) C dX9_fitting_44 rfl rfl ?_
      refine V.iload (q := 48) C dX9_fitting_46 rfl rfl ?_
      refine V.icmp_gt (q := 51) (tgt := 124) C dX9_fitting_48 rfl rfl (fun hb48 => ?_) (fun hb48 => ?_)
      · refine V.iload_n (q := 125) C dX9_fitting_124 rfl rfl ?_
        refine V.if_eq (q := 128) (tgt := 133) C dX9_fitting_125 rfl rfl (fun hb125 => ?_) (fun hb125 => ?_)
        · exact absurd hb125 (by decide)
        · refine V.bipush (q := 130) (v := -5) C dX9_fitting_128 rfl (by decide) ?_
          refine V.goto (tgt := 135) C dX9_fitting_130 rfl ?_
          exact V.ireturn C dX9_fitting_135 ⟨(cl, b, q), trivial, by rw [hres], rfl, rfl⟩
      · exact absurd (by decide) hb48
  | succ f ih =>
    intro x cl b hx hbI hbS hy
    refine V.iload (q := 41) C dX9_fitting_39 rfl rfl ?_
    refine V.if_eqB (q := 44) (tgt := 124) C dX9_fitting_41 rfl rfl (fun hb41 => ?_) (fun hb41 => ?_)
    · exact absurd hw0 hb41
    · refine V.iload (q := 46) C dX9_fitting_44 rfl rfl ?_
      refine V.iload (q := 48) C dX9_fitting_46 rfl rfl ?_
      refine V.icmp_gt (q := 51) (tgt := 124) C dX9_fitting_48 rfl rfl (fun hb48 => ?_) (fun hb48 => ?_)
      · exact absurd ((nI_ltI (by omega) (by omega)).mp hb48) (by omega)
      · refine V.aload_n (q := 52) C dX9_fitting_51 rfl rfl ?_
        refine V.get (q := 55) C fl_X9_31 dX9_fitting_52 rfl okC_0 rfl rfl ?_
        refine V.aload_n (q := 56) C dX9_fitting_55 rfl rfl ?_
        refine V.get (q := 59) C fl_X9_27 dX9_fitting_56 rfl okC_0 rfl rfl ?_
        refine V.iload_n (q := 60) C dX9_fitting_59 rfl rfl ?_
        refine V.callVv (q := 63) C me_X8_becomeOne (c_becomeOne (by omega) (by omega) (by omega) (show p < 6 by omega)) ml_X9_293 dX9_fitting_60 rfl (okC_6 (by omega)) ⟨_, rfl⟩ rfl rfl (Nat.le_of_ble_eq_true rfl) (by omega) (Nat.zero_le _) (Nat.zero_le _) ?_
        rw [one_put (by omega)]
        refine V.iload_n (q := 64) C dX9_fitting_63 rfl rfl ?_
        refine V.if_eq (q := 67) (tgt := 84) C dX9_fitting_64 rfl rfl (fun hb64 => ?_) (fun hb64 => ?_)
        · refine V.aload_n (q := 85) C dX9_fitting_84 rfl rfl ?_
          refine V.get (q := 88) C fl_X9_31 dX9_fitting_85 rfl okC_0 rfl rfl ?_
          refine V.get (q := 91) C fl_X9_82 dX9_fitting_88 rfl (okC_6 (by omega)) rfl rfl ?_
          refine V.iload_n (q := 92) C dX9_fitting_91 rfl rfl ?_
          refine V.rld (q := 93) (i := p) C rfl dX9_fitting_92 rfl (okC_7 (by omega)) rfl rfl (by omega) (by decide) ?_
          refine V.iload (q := 95) C dX9_fitting_93 rfl rfl ?_
          refine V.put (q := 98) C fl_X9_91 rfl dX9_fitting_95 rfl (okC_9 (by omega) (by omega)) rfl (Nat.le_of_ble_eq_true rfl) rfl rfl rfl ?_
          refine V.phE (uC_9_3 (by omega)) ?_
          rw [set1]
          refine V.aload_n (q := 99) C dX9_fitting_98 rfl rfl ?_
          refine V.iload_n (q := 100) C dX9_fitting_99 rfl rfl ?_
          refine V.iload_n (q := 101) C dX9_fitting_100 rfl rfl ?_
          refine V.iconst (q := 102) (v := nI 1) C dX9_fitting_101 rfl (by decide) ?_
          refine V.callVxi (q := 105) C me_X9_rowsFit (c_rfa1 (D := upd A (9 * p + 1) (nI x)) (hS.lo2 (by omega)) hT hp hLs hLd hRw (one_T hT hbS h8 (by omega) (by omega)) (CI_hi (one_hi (b := b) (a := B 0) (p := p) (K := 1) (x := nI x) (by omega) (by omega) 78 (by omega) (by omega)) (one_hi (by omega) (by omega) 79 (by omega) (by omega)) hbI)) ml_X9_289 dX9_fitting_102 rfl okC_0 ⟨_, rfl⟩ rfl rfl (Nat.le_of_ble_eq_true rfl) (by omega) (Nat.zero_le _) (Nat.zero_le _) (fun z9 hz9 => ?_)
          refine V.if_eqB (q := 108) (tgt := 118) C dX9_fitting_105 rfl rfl (fun hb105 => ?_) (fun hb105 => ?_)
          · have his : (fun x => asF rules sizes m 98 c vAche (upd A (9 * p + 1) x) 13 0 (upd A (9 * p + 1) x)) (nI x) = true ↔ z9.2.2 = true := (rf_split hS (by omega) hLs hp vok_ache).trans ⟨fun z => hz9.2.2.mpr z.2, fun z => ⟨h0', hz9.2.2.mp z⟩⟩
            have hisx : ¬ (fun x => asF rules sizes m 98 c vAche (upd A (9 * p + 1) x) 13 0 (upd A (9 * p + 1) x)) (nI x) = true := fun z => hb105 (his.mp z)
            refine V.iinc (q := 121) (v := nI (x + 1)) C dX9_fitting_118 rfl rfl (nI_1 _) (by decide) rfl rfl ?_
            refine V.goto (tgt := 39) C dX9_fitting_121 rfl ?_
            have h9 := ih (x + 1) z9.1 z9.2.1 (by omega) hz9.1 (SyR.hi h8 hbS (fun j h1 h2 => (hz9.2.1 j h1 h2).trans (one_hi (by omega) (by omega) j h1 h2))) (fun y hy9 => by
              by_cases e9 : y = x
              · rw [e9]; exact (Bool.eq_false_iff).mpr hisx
              · exact hy y (by omega))
            rw [show cnt (fun x => (fun x => asF rules sizes m 98 c vAche (upd A (9 * p + 1) x) 13 0 (upd A (9 * p + 1) x)) (nI x)) (x + 1) = cnt (fun x => (fun x => asF rules sizes m 98 c vAche (upd A (9 * p + 1) x) 13 0 (upd A (9 * p + 1) x)) (nI x)) x from if_neg hisx] at h9
            exact h9
          · have his : (fun x => asF rules sizes m 98 c vAche (upd A (9 * p + 1) x) 13 0 (upd A (9 * p + 1) x)) (nI x) = true ↔ z9.2.2 = true := (rf_split hS (by omega) hLs hp vok_ache).trans ⟨fun z => hz9.2.2.mpr z.2, fun z => ⟨h0', hz9.2.2.mp z⟩⟩
            have hisx : (fun x => asF rules sizes m 98 c vAche (upd A (9 * p + 1) x) 13 0 (upd A (9 * p + 1) x)) (nI x) = true := his.mpr hb105
            refine V.iload_n (q := 109) C dX9_fitting_108 rfl rfl ?_
            refine V.if_eq (q := 112) (tgt := 115) C dX9_fitting_109 rfl rfl (fun hb109 => ?_) (fun hb109 => ?_)
            · exact absurd hb109 (by decide)
            · have hres : (ftF (fun x => asF rules sizes m 98 c vAche (upd A (9 * p + 1) x) 13 0 (upd A (9 * p + 1) x)) 9 10).2 = nI x := by
                rcases ft_least (is := (fun x => asF rules sizes m 98 c vAche (upd A (9 * p + 1) x) 13 0 (upd A (9 * p + 1) x))) (H := 9) 10 (Nat.le_refl _) with ⟨h, -⟩ | ⟨y, -, h2, h3, h4, h5⟩
                · exact absurd ((h x (by omega) (by omega)).symm.trans hisx) Bool.false_ne_true
                · rw [h4]
                  by_cases e1 : y < x
                  · exact absurd ((hy y e1).symm.trans h3) Bool.false_ne_true
                  · by_cases e2 : x < y
                    · exact absurd ((h5 x (by omega) e2).symm.trans hisx) Bool.false_ne_true
                    · rw [show y = x by omega]
              refine V.iload (q := 114) C dX9_fitting_112 rfl rfl ?_
              exact V.ireturn C dX9_fitting_114 ⟨(z9.1, z9.2.1, q), trivial, by rw [hres], rfl, rfl⟩
        · exact absurd rfl hb64
theorem c_fita1 {l : Launch} {g : GG} {X : PHp} {h0 : HZ} {ct : CTt} {cl : I2} {rd : RDt} {B : I2} {cy : Nat → Nat} {rw : RWt} {tl : TLt} {sp : SPt} {rules sizes A : I1} {n m r q : Nat} (hS : SH ct rules sizes A n m r q) (hI : CI (B 0) n m) (hT : TR TT (B 0) A n m) (hcy : cy 0 = q) {p c : Nat} (hp : p < n) (hLs : LsI A n 98 c) (hLd : LsD A 98 c) (hRw : RwR rw 1 A 98 c) {b : I1} {c0 : Nat} : Ct l g yX9_fitting cX9_fitting 8 (some .int) 7 0 0 [rf g (0, 0, 0), .int (nI 0), .int (nI p), .int (nI 1)] NN (jn (hC g h0 ct cl rd (putR B 1 b) (va_up cy 1 c0) rw tl sp) X) (xI (fun _ : I2 × I1 × Nat => True) (fun _ => (ftF (fun x => asF rules sizes m 98 c vAche (upd A (9 * p + 1) x) 13 0 (upd A (9 * p + 1) x)) 9 10).2) (fun z => (jn (hC g h0 ct z.1 rd (putR B 1 z.2.1) (va_up cy 1 z.2.2) rw tl sp) X))) := by
  refine Ct.of (lv := [some (rf g (0, 0, 0)), some (.int (nI 0)), some (.int (nI p)), some (.int (nI 1)), none, none, none, none]) (by decide +kernel) rfl (Nat.le_of_ble_eq_true rfl) ?_
  intro Γ C
  have h6 := hI.2.1
  have h8 := hI.2.2.2
  refine V.iload_n (q := 1) C dX9_fitting_0 rfl rfl ?_
  refine V.if_eq (q := 4) (tgt := 9) C dX9_fitting_1 rfl rfl (fun hb1 => ?_) (fun hb1 => ?_)
  · refine V.bipush (q := 11) (v := nI 9) C dX9_fitting_9 rfl (by decide) ?_
    refine V.istore (q := 13) C dX9_fitting_11 rfl (by decide) rfl rfl ?_
    refine V.iconst (q := 14) (v := nI 0) C dX9_fitting_13 rfl (by decide) ?_
    refine V.istore (q := 16) C dX9_fitting_14 rfl (by decide) rfl rfl ?_
    refine V.aload_n (q := 17) C dX9_fitting_16 rfl rfl ?_
    refine V.get (q := 20) C fl_X9_31 dX9_fitting_17 rfl okC_0 rfl rfl ?_
    refine V.aload_n (q := 21) C dX9_fitting_20 rfl rfl ?_
    refine V.get (q := 24) C fl_X9_27 dX9_fitting_21 rfl okC_0 rfl rfl ?_
    refine V.callVxv (q := 27) C me_X8_become (c_begT hS hI hT hcy) ml_X9_178 dX9_fitting_24 rfl (okC_6 (by omega)) ⟨_, rfl⟩ rfl rfl (Nat.le_of_ble_eq_true rfl) (by omega) (Nat.zero_le _) (Nat.zero_le _) (fun b1 hB1 => ?_)
    refine V.aload_n (q := 28) C dX9_fitting_27 rfl rfl ?_
    refine V.iload_n (q := 29) C dX9_fitting_28 rfl rfl ?_
    refine V.iload_n (q := 30) C dX9_fitting_29 rfl rfl ?_
    refine V.iconst (q := 31) (v := nI 0) C dX9_fitting_30 rfl (by decide) ?_
    refine V.callVxi (q := 34) C me_X9_rowsFit (c_rfa0 hS hT hp hLs hLd hRw hB1.1 hB1.2) ml_X9_289 dX9_fitting_31 rfl okC_0 ⟨_, rfl⟩ rfl rfl (Nat.le_of_ble_eq_true rfl) (by omega) (Nat.zero_le _) (Nat.zero_le _) (fun z0 hz0 => ?_)
    refine V.istore (q := 36) C dX9_fitting_34 rfl (by decide) rfl rfl ?_
    refine V.iconst (q := 37) (v := nI 0) C dX9_fitting_36 rfl (by decide) ?_
    refine V.istore (q := 39) C dX9_fitting_37 rfl (by decide) rfl rfl ?_
    by_cases hw9 : z0.2.2 = true
    · exact c_fita1_l hS hI hT hcy hp hLs hLd hRw hw9 (hz0.2.2.mp hw9) C 10 0 z0.1 z0.2.1 (by omega) hz0.1 (SyR.hi h8 hB1.1.2.1 hz0.2.1) (fun y hy => absurd hy (Nat.not_lt_zero y))
    · refine V.iload (q := 41) C dX9_fitting_39 rfl rfl ?_
      refine V.if_eqB (q := 44) (tgt := 124) C dX9_fitting_41 rfl rfl (fun hb41 => ?_) (fun hb41 => ?_)
      · have hno : ∀ x, (fun x => asF rules sizes m 98 c vAche (upd A (9 * p + 1) x) 13 0 (upd A (9 * p + 1) x)) x = false := fun x => (Bool.eq_false_iff).mpr (fun z => hb41 (hz0.2.2.mpr ((rf_split hS (by omega) hLs hp vok_ache).mp z).1))
        have hres : (ftF (fun x => asF rules sizes m 98 c vAche (upd A (9 * p + 1) x) 13 0 (upd A (9 * p + 1) x)) 9 10).2 = -5 := by
          rcases ft_least (is := (fun x => asF rules sizes m 98 c vAche (upd A (9 * p + 1) x) 13 0 (upd A (9 * p + 1) x))) (H := 9) 10 (Nat.le_refl _) with ⟨-, h⟩ | ⟨y, -, h2, h3, -⟩
          · exact h
          · exact absurd ((hno _).symm.trans h3) Bool.false_ne_true
        refine V.iload_n (q := 125) C dX9_fitting_124 rfl rfl ?_
        refine V.if_eq (q := 128) (tgt := 133) C dX9_fitting_125 rfl rfl (fun hb125 => ?_) (fun hb125 => ?_)
        · exact absurd hb125 (by decide)
        · refine V.bipush (q := 130) (v := -5) C dX9_fitting_128 rfl (by decide) ?_
          refine V.goto (tgt := 135) C dX9_fitting_130 rfl ?_
          exact V.ireturn C dX9_fitting_135 ⟨(z0.1, z0.2.1, q), trivial, by rw [hres], rfl, rfl⟩
      · exact absurd hb41 hw9
  · exact absurd rfl hb1
theorem can_0 {rules sizes A : I1} {n m c : Nat} {p x : Int32} (h : ¬ inN p n = true ∨ ¬ inR x (nI 0) (nI 1) = true) : canR rules sizes A n m c p x = -1 := by
  unfold canR
  split
  · next h1 =>
    split
    · next h2 => exact absurd h (fun z => z.elim (fun y => y h1) (fun y => y h2))
    · rfl
  · rfl
theorem c_can {l : Launch} {g : GG} {X : PHp} {h0 : HZ} {ct : CTt} {cl : I2} {rd : RDt} {B : I2} {cy : Nat → Nat} {rw : RWt} {tl : TLt} {sp : SPt} {rules sizes A : I1} {n m r q : Nat} (hS : SH ct rules sizes A n m r q) (hI : CI (B 0) n m) (hT : TR TT (B 0) A n m) (hcy : cy 0 = q) {c : Nat} (hLs : LsI A n 98 c) (hLd : LsD A 98 c) (hRw : RwR rw 1 A 98 c) {p x : Int32} : Ct l g yX9_can cX9_can 3 (some .int) 24 0 0 [rf g (0, 0, 0), .int p, .int x] NN (jn (hC g h0 ct cl rd B cy rw tl sp) X) (xI (fun _ : I2 × I1 × Nat => True) (fun _ => canR rules sizes A n m c p x) (fun z => (jn (hC g h0 ct z.1 rd (putR B 1 z.2.1) (va_up cy 1 z.2.2) rw tl sp) X))) := by
  refine Ct.of (lv := [some (rf g (0, 0, 0)), some (.int p), some (.int x)]) (by decide +kernel) rfl (Nat.le_of_ble_eq_true rfl) ?_
  intro Γ C
  have h6 := hI.2.1
  have h8 := hI.2.2.2
  refine V.aload_n (q := 1) C dX9_can_0 rfl rfl ?_
  refine V.get (q := 4) C fl_X9_27 dX9_can_1 rfl okC_0 rfl rfl ?_
  refine V.iload_n (q := 5) C dX9_can_4 rfl rfl ?_
  refine V.callVi (q := 8) C me_X8_hasWearer (c_hasWearer (by omega) hI) ml_X9_78 dX9_can_5 rfl (okC_6 (by omega)) ⟨_, rfl⟩ rfl rfl (Nat.le_of_ble_eq_true rfl) (by omega) (Nat.zero_le _) (Nat.zero_le _) ?_
  refine V.if_eqB (q := 11) (tgt := 19) C dX9_can_8 rfl rfl (fun hb8 => ?_) (fun hb8 => ?_)
  · refine V.iconst (q := 20) (v := -1) C dX9_can_19 rfl (by decide) ?_
    exact V.ireturn C dX9_can_20 ⟨(cl, B 1, cy 1), trivial, (by rw [can_0 (Or.inl hb8)]), (congrArg (fun z => (jn (hC g h0 ct cl rd z cy rw tl sp) X)) (putR_id (B := B) (w := 1)).symm).trans (congrArg (fun z => (jn (hC g h0 ct cl rd (putR B 1 (B 1)) z rw tl sp) X)) (va_up_id (f := cy) (k := 1)).symm), rfl⟩
  · have p9 := hb8
    obtain ⟨p1, hp1, rfl⟩ := InN_nat (by omega) hb8
    have ip9 := ix_k (k := p1) (by omega)
    refine V.iload_n (q := 12) C dX9_can_11 rfl rfl ?_
    refine V.iconst (q := 13) (v := nI 1) C dX9_can_12 rfl (by decide) ?_
    refine V.callSi (q := 16) C me_X9_isOut c_isOut ml_X9_70 dX9_can_13 rfl rfl rfl (Nat.le_of_ble_eq_true rfl) (by omega) (Nat.zero_le _) (Nat.zero_le _) ?_
    refine V.if_eqB (q := 19) (tgt := 21) C dX9_can_16 rfl rfl (fun hb16 => ?_) (fun hb16 => ?_)
    · replace hb16 := Decidable.not_not.mp hb16
      refine V.phE (fun q _ => congrFun (congrArg (fun z => (jn (hC g h0 ct cl rd z cy rw tl sp) X)) (putR_id (B := B) (w := 1)).symm) q) ?_
      refine V.phE (fun q _ => congrFun (congrArg (fun z => (jn (hC g h0 ct cl rd (putR B 1 (B 1)) z rw tl sp) X)) (va_up_id (f := cy) (k := 1)).symm) q) ?_
      refine V.aload_n (q := 22) C dX9_can_21 rfl rfl ?_
      refine V.iconst (q := 23) (v := nI 0) C dX9_can_22 rfl (by decide) ?_
      refine V.iload_n (q := 24) C dX9_can_23 rfl rfl ?_
      refine V.iload_n (q := 25) C dX9_can_24 rfl rfl ?_
      refine V.iconst (q := 26) (v := nI 1) C dX9_can_25 rfl (by decide) ?_
      refine V.icmp_ne (q := 29) (tgt := 33) C dX9_can_26 rfl rfl (fun hb26 => ?_) (fun hb26 => ?_)
      · have hx0 : x = 0 := (inR01.mp hb16).elim id (fun z => absurd z hb26)
        refine V.iconst (q := 34) (v := nI 0) C dX9_can_33 rfl (by decide) ?_
        refine V.callVxi (q := 37) C me_X9_fitting (c_fita0 hS hI hT hcy hp1 hLs hLd hRw) ml_X9_107 dX9_can_34 rfl okC_0 ⟨_, rfl⟩ rfl rfl (Nat.le_of_ble_eq_true rfl) (by omega) (Nat.zero_le _) (Nat.zero_le _) (fun z9 _ => ?_)
        exact V.ireturn C dX9_can_37 ⟨z9, trivial, by rw [canR, if_pos p9, if_pos hb16, if_pos hx0, ip9], rfl, rfl⟩
      · replace hb26 : x = nI 1 := hb26
        refine V.iconst (q := 30) (v := nI 1) C dX9_can_29 rfl (by decide) ?_
        refine V.goto (tgt := 34) C dX9_can_30 rfl ?_
        refine V.callVxi (q := 37) C me_X9_fitting (c_fita1 hS hI hT hcy hp1 hLs hLd hRw) ml_X9_107 dX9_can_34 rfl okC_0 ⟨_, rfl⟩ rfl rfl (Nat.le_of_ble_eq_true rfl) (by omega) (Nat.zero_le _) (Nat.zero_le _) (fun z9 _ => ?_)
        exact V.ireturn C dX9_can_37 ⟨z9, trivial, by rw [canR, if_pos p9, if_pos hb16, if_neg (by rw [hb26]; decide), ip9], rfl, rfl⟩
    · refine V.iconst (q := 20) (v := -1) C dX9_can_19 rfl (by decide) ?_
      exact V.ireturn C dX9_can_20 ⟨(cl, B 1, cy 1), trivial, (by rw [can_0 (Or.inr hb16)]), (congrArg (fun z => (jn (hC g h0 ct cl rd z cy rw tl sp) X)) (putR_id (B := B) (w := 1)).symm).trans (congrArg (fun z => (jn (hC g h0 ct cl rd (putR B 1 (B 1)) z rw tl sp) X)) (va_up_id (f := cy) (k := 1)).symm), rfl⟩
theorem of_k {rules sizes A : I1} {n m c p k : Nat} (hp : p < n) (hn : n ≤ 6) (hk : k < 5) : ofR rules sizes A n m c (nI p) (nI k) = A (9 * p + k) := by
  rw [ofR, if_pos (InN_of (by omega) hp), if_pos (InR_of (by omega) (by omega) (by omega) (by omega)), ix_k (by omega), ix_k (by omega)]
theorem of_5 {rules sizes A : I1} {n m c p : Nat} (hp : p < n) (hn : n ≤ 6) : ofR rules sizes A n m c (nI p) (nI 5) = soF rules sizes m p (A (9 * p + 4)) 61 0 A := by
  rw [ofR, if_pos (InN_of (by omega) hp), if_neg (by decide), if_pos rfl, ix_k (by omega)]
theorem of_6 {rules sizes A : I1} {n m c p : Nat} (hp : p < n) (hn : n ≤ 6) : ofR rules sizes A n m c (nI p) (nI 6) = nI (ftF (fun x => asF rules sizes m 82 c vSee (upd A (9 * p + 2) x) 13 0 (upd A (9 * p + 2) x)) 99 100).1 := by
  rw [ofR, if_pos (InN_of (by omega) hp), if_neg (by decide), if_neg (by decide), if_pos rfl, ix_k (by omega)]
theorem of_7 {rules sizes A : I1} {n m c p : Nat} (hp : p < n) (hn : n ≤ 6) : ofR rules sizes A n m c (nI p) (nI 7) = (ftF (fun x => asF rules sizes m 82 c vSee (upd A (9 * p + 2) x) 13 0 (upd A (9 * p + 2) x)) 99 100).2 := by
  rw [ofR, if_pos (InN_of (by omega) hp), if_neg (by decide), if_neg (by decide), if_neg (by decide), if_pos rfl, ix_k (by omega)]
theorem of_d {rules sizes A : I1} {n m c p : Nat} {x : Int32} (hp : p < n) (hn : n ≤ 6) (h : ∀ k, k < 8 → x ≠ nI (0 + k)) : ofR rules sizes A n m c (nI p) x = if inN (x - nI 10) m then guR rules sizes A p (ix (x - nI 10)) else -10001 := by
  have h4 : ¬ inR x (nI 0) (nI 4) = true := by
    intro z
    obtain ⟨j, -, hj, e⟩ := InR_nat (by omega) (by omega) z
    exact h j (by omega) (by rw [e, Nat.zero_add])
  rw [ofR, if_pos (InN_of (by omega) hp), if_neg h4, if_neg (h 5 (by omega)), if_neg (h 6 (by omega)), if_neg (h 7 (by omega)), ix_k (by omega)]
theorem c_of {l : Launch} {g : GG} {X : PHp} {h0 : HZ} {ct : CTt} {cl : I2} {rd : RDt} {B : I2} {cy : Nat → Nat} {rw : RWt} {tl : TLt} {sp : SPt} {rules sizes A : I1} {n m r q : Nat} (hS : SH ct rules sizes A n m r q) (hI : CI (B 0) n m) (hT : TR TT (B 0) A n m) (hcy : cy 0 = q) {c : Nat} (hLs : LsI A n 82 c) (hLd : LsD A 82 c) (hRw : RwR rw 0 A 82 c) {p x : Int32} : Ct l g yX9_of cX9_of 5 (some .int) 24 0 0 [rf g (0, 0, 0), .int p, .int x] NN (jn (hC g h0 ct cl rd B cy rw tl sp) X) (xI (fun _ : I2 × I1 × Nat => True) (fun _ => ofR rules sizes A n m c p x) (fun z => (jn (hC g h0 ct z.1 rd (putR B 1 z.2.1) (va_up cy 1 z.2.2) rw tl sp) X))) := by
  refine Ct.of (lv := [some (rf g (0, 0, 0)), some (.int p), some (.int x), none, none]) (by decide +kernel) rfl (Nat.le_of_ble_eq_true rfl) ?_
  intro Γ C
  have h6 := hI.2.1
  have h8 := hI.2.2.2
  have hcy7 : cy 0 < 7 := by have h1 := hS.2.2.2.1; have h2 := hS.2.2.2.2.1; omega
  have hO := hS.2.2.2.2.2.O hS.2.2.2.2.1 hS.2.2.2.1
  rw [← hcy] at hO
  refine V.aload_n (q := 1) C dX9_of_0 rfl rfl ?_
  refine V.get (q := 4) C fl_X9_27 dX9_of_1 rfl okC_0 rfl rfl ?_
  refine V.iload_n (q := 5) C dX9_of_4 rfl rfl ?_
  refine V.callVi (q := 8) C me_X8_hasWearer (c_hasWearer (by omega) hI) ml_X9_78 dX9_of_5 rfl (okC_6 (by omega)) ⟨_, rfl⟩ rfl rfl (Nat.le_of_ble_eq_true rfl) (by omega) (Nat.zero_le _) (Nat.zero_le _) ?_
  refine V.if_neB (q := 11) (tgt := 15) C dX9_of_8 rfl rfl (fun hb8 => ?_) (fun hb8 => ?_)
  · have hn8 := hb8
    obtain ⟨j, hj, rfl⟩ := InN_nat (by omega) hb8
    have hj6 : j < 6 := by omega
    have ij := ix_k (k := j) (by omega)
    refine V.aload_n (q := 16) C dX9_of_15 rfl rfl ?_
    refine V.get (q := 19) C fl_X9_27 dX9_of_16 rfl okC_0 rfl rfl ?_
    refine V.get (q := 22) C fl_X9_82 dX9_of_19 rfl (okC_6 (by omega)) rfl rfl ?_
    refine V.iload_n (q := 23) C dX9_of_22 rfl rfl ?_
    refine V.rld (q := 24) (i := j) C rfl dX9_of_23 rfl (okC_7 (by omega)) rfl rfl (by omega) (by decide) ?_
    refine V.astore_n (q := 25) C dX9_of_24 rfl (by decide) rfl rfl ?_
    refine V.iload_n (q := 26) C dX9_of_25 rfl rfl ?_
    refine V.tsw (lo := 0) (N := 8) (tgt := 119) C dX9_of_26 (by decide) (by decide) rfl (fun k hk hx26 => ?_) (fun hx26 => ?_)
    · obtain rfl | rfl | rfl | rfl | rfl | rfl | rfl | rfl := (show k = 0 ∨ k = 1 ∨ k = 2 ∨ k = 3 ∨ k = 4 ∨ k = 5 ∨ k = 6 ∨ k = 7 by omega)
      · refine ⟨_, 72, rfl, rfl, ?_⟩
        replace hx26 : _ = nI 0 := hx26
        refine V.aload_n (q := 73) C dX9_of_72 rfl rfl ?_
        refine V.get (q := 76) C fl_X9_86 dX9_of_73 rfl (okC_9 (by omega) (by omega)) rfl rfl ?_
        exact V.ireturn C dX9_of_76 ⟨(cl, B 1, cy 1), trivial, (by rw [hx26, of_k hj h6 (by omega)]; exact congrArg (fun x => some (Value.int x)) (hT.1 j hj trivial 0 (by omega))), (congrArg (fun z => (jn (hC g h0 ct cl rd z cy rw tl sp) X)) (putR_id (B := B) (w := 1)).symm).trans (congrArg (fun z => (jn (hC g h0 ct cl rd (putR B 1 (B 1)) z rw tl sp) X)) (va_up_id (f := cy) (k := 1)).symm), rfl⟩
      · refine ⟨_, 77, rfl, rfl, ?_⟩
        replace hx26 : _ = nI 1 := hx26
        refine V.aload_n (q := 78) C dX9_of_77 rfl rfl ?_
        refine V.get (q := 81) C fl_X9_91 dX9_of_78 rfl (okC_9 (by omega) (by omega)) rfl rfl ?_
        exact V.ireturn C dX9_of_81 ⟨(cl, B 1, cy 1), trivial, (by rw [hx26, of_k hj h6 (by omega)]; exact congrArg (fun x => some (Value.int x)) (hT.1 j hj trivial 1 (by omega))), (congrArg (fun z => (jn (hC g h0 ct cl rd z cy rw tl sp) X)) (putR_id (B := B) (w := 1)).symm).trans (congrArg (fun z => (jn (hC g h0 ct cl rd (putR B 1 (B 1)) z rw tl sp) X)) (va_up_id (f := cy) (k := 1)).symm), rfl⟩
      · refine ⟨_, 82, rfl, rfl, ?_⟩
        replace hx26 : _ = nI 2 := hx26
        refine V.aload_n (q := 83) C dX9_of_82 rfl rfl ?_
        refine V.get (q := 86) C fl_X9_94 dX9_of_83 rfl (okC_9 (by omega) (by omega)) rfl rfl ?_
        exact V.ireturn C dX9_of_86 ⟨(cl, B 1, cy 1), trivial, (by rw [hx26, of_k hj h6 (by omega)]; exact congrArg (fun x => some (Value.int x)) (hT.1 j hj trivial 2 (by omega))), (congrArg (fun z => (jn (hC g h0 ct cl rd z cy rw tl sp) X)) (putR_id (B := B) (w := 1)).symm).trans (congrArg (fun z => (jn (hC g h0 ct cl rd (putR B 1 (B 1)) z rw tl sp) X)) (va_up_id (f := cy) (k := 1)).symm), rfl⟩
      · refine ⟨_, 87, rfl, rfl, ?_⟩
        replace hx26 : _ = nI 3 := hx26
        refine V.aload_n (q := 88) C dX9_of_87 rfl rfl ?_
        refine V.get (q := 91) C fl_X9_97 dX9_of_88 rfl (okC_9 (by omega) (by omega)) rfl rfl ?_
        exact V.ireturn C dX9_of_91 ⟨(cl, B 1, cy 1), trivial, (by rw [hx26, of_k hj h6 (by omega)]; exact congrArg (fun x => some (Value.int x)) (hT.1 j hj trivial 3 (by omega))), (congrArg (fun z => (jn (hC g h0 ct cl rd z cy rw tl sp) X)) (putR_id (B := B) (w := 1)).symm).trans (congrArg (fun z => (jn (hC g h0 ct cl rd (putR B 1 (B 1)) z rw tl sp) X)) (va_up_id (f := cy) (k := 1)).symm), rfl⟩
      · refine ⟨_, 92, rfl, rfl, ?_⟩
        replace hx26 : _ = nI 4 := hx26
        refine V.aload_n (q := 93) C dX9_of_92 rfl rfl ?_
        refine V.get (q := 96) C fl_X9_100 dX9_of_93 rfl (okC_9 (by omega) (by omega)) rfl rfl ?_
        exact V.ireturn C dX9_of_96 ⟨(cl, B 1, cy 1), trivial, (by rw [hx26, of_k hj h6 (by omega)]; exact congrArg (fun x => some (Value.int x)) (hT.1 j hj trivial 4 (by omega))), (congrArg (fun z => (jn (hC g h0 ct cl rd z cy rw tl sp) X)) (putR_id (B := B) (w := 1)).symm).trans (congrArg (fun z => (jn (hC g h0 ct cl rd (putR B 1 (B 1)) z rw tl sp) X)) (va_up_id (f := cy) (k := 1)).symm), rfl⟩
      · refine ⟨_, 97, rfl, rfl, ?_⟩
        replace hx26 : _ = nI 5 := hx26
        refine V.phE (fun q _ => congrFun (congrArg (fun z => (jn (hC g h0 ct cl rd z cy rw tl sp) X)) (putR_id (B := B) (w := 1)).symm) q) ?_
        refine V.phE (fun q _ => congrFun (congrArg (fun z => (jn (hC g h0 ct cl rd (putR B 1 (B 1)) z rw tl sp) X)) (va_up_id (f := cy) (k := 1)).symm) q) ?_
        refine V.aload_n (q := 98) C dX9_of_97 rfl rfl ?_
        refine V.iload_n (q := 99) C dX9_of_98 rfl rfl ?_
        refine V.callVxi (q := 102) C me_X9_daysUntilSore (c_sore hS hI hT hcy hj) ml_X9_103 dX9_of_99 rfl okC_0 ⟨_, rfl⟩ rfl rfl (Nat.le_of_ble_eq_true rfl) (by omega) (Nat.zero_le _) (Nat.zero_le _) (fun z9 _ => ?_)
        exact V.ireturn C dX9_of_102 ⟨z9, trivial, by rw [hx26, of_5 hj h6], rfl, rfl⟩
      · refine ⟨_, 103, rfl, rfl, ?_⟩
        replace hx26 : _ = nI 6 := hx26
        refine V.phE (fun q _ => congrFun (congrArg (fun z => (jn (hC g h0 ct cl rd z cy rw tl sp) X)) (putR_id (B := B) (w := 1)).symm) q) ?_
        refine V.phE (fun q _ => congrFun (congrArg (fun z => (jn (hC g h0 ct cl rd (putR B 1 (B 1)) z rw tl sp) X)) (va_up_id (f := cy) (k := 1)).symm) q) ?_
        refine V.aload_n (q := 104) C dX9_of_103 rfl rfl ?_
        refine V.iconst (q := 105) (v := nI 1) C dX9_of_104 rfl (by decide) ?_
        refine V.iload_n (q := 106) C dX9_of_105 rfl rfl ?_
        refine V.iconst (q := 107) (v := nI 0) C dX9_of_106 rfl (by decide) ?_
        refine V.callVxi (q := 110) C me_X9_fitting (c_fits0 hS hI hT hcy hj hLs hLd hRw) ml_X9_107 dX9_of_107 rfl okC_0 ⟨_, rfl⟩ rfl rfl (Nat.le_of_ble_eq_true rfl) (by omega) (Nat.zero_le _) (Nat.zero_le _) (fun z9 _ => ?_)
        exact V.ireturn C dX9_of_110 ⟨z9, trivial, by rw [hx26, of_6 hj h6], rfl, rfl⟩
      · refine ⟨_, 111, rfl, rfl, ?_⟩
        replace hx26 : _ = nI 7 := hx26
        refine V.phE (fun q _ => congrFun (congrArg (fun z => (jn (hC g h0 ct cl rd z cy rw tl sp) X)) (putR_id (B := B) (w := 1)).symm) q) ?_
        refine V.phE (fun q _ => congrFun (congrArg (fun z => (jn (hC g h0 ct cl rd (putR B 1 (B 1)) z rw tl sp) X)) (va_up_id (f := cy) (k := 1)).symm) q) ?_
        refine V.aload_n (q := 112) C dX9_of_111 rfl rfl ?_
        refine V.iconst (q := 113) (v := nI 1) C dX9_of_112 rfl (by decide) ?_
        refine V.iload_n (q := 114) C dX9_of_113 rfl rfl ?_
        refine V.iconst (q := 115) (v := nI 1) C dX9_of_114 rfl (by decide) ?_
        refine V.callVxi (q := 118) C me_X9_fitting (c_fits1 hS hI hT hcy hj hLs hLd hRw) ml_X9_107 dX9_of_115 rfl okC_0 ⟨_, rfl⟩ rfl rfl (Nat.le_of_ble_eq_true rfl) (by omega) (Nat.zero_le _) (Nat.zero_le _) (fun z9 _ => ?_)
        exact V.ireturn C dX9_of_118 ⟨z9, trivial, by rw [hx26, of_7 hj h6], rfl, rfl⟩
    · refine V.iload_n (q := 120) C dX9_of_119 rfl rfl ?_
      refine V.bipush (q := 122) (v := nI 10) C dX9_of_120 rfl (by decide) ?_
      refine V.isub (q := 123) C dX9_of_122 rfl ?_
      refine V.istore (q := 125) C dX9_of_123 rfl (by decide) rfl rfl ?_
      refine V.aload_n (q := 126) C dX9_of_125 rfl rfl ?_
      refine V.get (q := 129) C fl_X9_27 dX9_of_126 rfl okC_0 rfl rfl ?_
      refine V.iload (q := 131) C dX9_of_129 rfl rfl ?_
      refine V.callVi (q := 134) C me_X8_hasSaying (c_hasSaying (by omega) hI) ml_X9_111 dX9_of_131 rfl (okC_6 (by omega)) ⟨_, rfl⟩ rfl rfl (Nat.le_of_ble_eq_true rfl) (by omega) (Nat.zero_le _) (Nat.zero_le _) ?_
      refine V.if_eqB (q := 137) (tgt := 150) C dX9_of_134 rfl rfl (fun hb134 => ?_) (fun hb134 => ?_)
      · refine V.sipush (q := 153) (v := -10001) C dX9_of_150 rfl (by decide) ?_
        exact V.ireturn C dX9_of_153 ⟨(cl, B 1, cy 1), trivial, (by rw [of_d hj h6 hx26, if_neg hb134]), (congrArg (fun z => (jn (hC g h0 ct cl rd z cy rw tl sp) X)) (putR_id (B := B) (w := 1)).symm).trans (congrArg (fun z => (jn (hC g h0 ct cl rd (putR B 1 (B 1)) z rw tl sp) X)) (va_up_id (f := cy) (k := 1)).symm), rfl⟩
      · have s9 := hb134
        obtain ⟨s1, hs1, es⟩ := InN_nat (by omega) hb134
        rw [es]
        refine V.aload_n (q := 138) C dX9_of_137 rfl rfl ?_
        refine V.get (q := 141) C fl_X9_27 dX9_of_138 rfl okC_0 rfl rfl ?_
        refine V.aload_n (q := 142) C dX9_of_141 rfl rfl ?_
        refine V.iload (q := 144) C dX9_of_142 rfl rfl ?_
        refine V.callVxi (q := 147) C me_X8_guard (c_guard (by omega) hj6 (by omega) hO) ml_X9_114 dX9_of_144 rfl (okC_6 (by omega)) ⟨_, rfl⟩ rfl rfl (Nat.le_of_ble_eq_true rfl) (by omega) (Nat.zero_le _) (Nat.zero_le _) (fun cl1 _ => ?_)
        refine V.goto (tgt := 153) C dX9_of_147 rfl ?_
        exact V.ireturn C dX9_of_153 ⟨(cl1, B 1, cy 1), trivial, by rw [of_d hj h6 hx26, if_pos s9, es, ix_k (by omega), hcy, gu_R hS.2.2.2.2.2 hS.2.2.2.2.1 hS.2.2.2.1 hS.2.2.1 (fun c hc => hT.1 j hj trivial c hc) hT.2.2], (congrArg (fun z => (jn (hC g h0 ct cl1 rd z cy rw tl sp) X)) (putR_id (B := B) (w := 1)).symm).trans (congrArg (fun z => (jn (hC g h0 ct cl1 rd (putR B 1 (B 1)) z rw tl sp) X)) (va_up_id (f := cy) (k := 1)).symm), rfl⟩
  · refine V.sipush (q := 14) (v := -10001) C dX9_of_11 rfl (by decide) ?_
    exact V.ireturn C dX9_of_14 ⟨(cl, B 1, cy 1), trivial, (by rw [ofR, if_neg hb8]), (congrArg (fun z => (jn (hC g h0 ct cl rd z cy rw tl sp) X)) (putR_id (B := B) (w := 1)).symm).trans (congrArg (fun z => (jn (hC g h0 ct cl rd (putR B 1 (B 1)) z rw tl sp) X)) (va_up_id (f := cy) (k := 1)).symm), rfl⟩
