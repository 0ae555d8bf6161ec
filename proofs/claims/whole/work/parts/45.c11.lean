def eR (rw : RWt) (h r : Nat) : RWt := (rw.1, rw.2.1, rw.2.2.1, up2 rw.2.2.2 h r (nI 0))
def seW (rw : RWt) (n c : Nat) (p d v : Int32) : RWt := if p = -1 then eR rw 0 0 else if inN p n then (if inR d (nI 0) (nI 12) then (if inR v (nI 0) (nI 99) then adR rw 0 0 c p d v else rw) else rw) else rw
theorem rw5 : rwN 0 = 5 := rfl
theorem rw5' : rwN 1 = 5 := rfl
theorem rw10 : rwN 2 = 10 := rfl
theorem rw8 : rwN 3 = 8 := rfl
theorem c_see {l : Launch} {g : GG} {X : PHp} {h0 : HZ} {ct : CTt} {cl : I2} {rd : RDt} {B : I2} {cy : Nat → Nat} {rw : RWt} {tl : TLt} {sp : SPt} {n m : Nat} (hI : CI (B 0) n m) {c : Nat} (hk : rw.2.2.2 0 0 = nI c) (hk1 : c ≤ 5) {p d v : Int32} : Ct l g yX9_see cX9_see 4 (some .int) 24 0 0 [rf g (0, 0, 0), .int p, .int d, .int v] NN (jn (hC g h0 ct cl rd B cy rw tl sp) X) (pI (seeR n c p d v) (jn (hC g h0 ct cl rd B cy (seW rw n c p d v) tl sp) X)) := by
  refine Ct.of (lv := [some (rf g (0, 0, 0)), some (.int p), some (.int d), some (.int v)]) (by decide +kernel) rfl (Nat.le_of_ble_eq_true rfl) ?_
  intro Γ C
  have h6 := hI.2.1
  have h8 := hI.2.2.2
  refine V.iload_n (q := 1) C dX9_see_0 rfl rfl ?_
  refine V.iconst (q := 2) (v := -1) C dX9_see_1 rfl (by decide) ?_
  refine V.icmp_ne (q := 5) (tgt := 16) C dX9_see_2 rfl rfl (fun hb2 => ?_) (fun hb2 => ?_)
  · refine V.aload_n (q := 17) C dX9_see_16 rfl rfl ?_
    refine V.get (q := 20) C fl_X9_27 dX9_see_17 rfl okC_0 rfl rfl ?_
    refine V.iload_n (q := 21) C dX9_see_20 rfl rfl ?_
    refine V.callVi (q := 24) C me_X8_hasWearer (c_hasWearer (by omega) hI) ml_X9_78 dX9_see_21 rfl (okC_6 (by omega)) ⟨_, rfl⟩ rfl rfl (Nat.le_of_ble_eq_true rfl) (by omega) (Nat.zero_le _) (Nat.zero_le _) ?_
    refine V.if_neB (q := 27) (tgt := 29) C dX9_see_24 rfl rfl (fun hb24 => ?_) (fun hb24 => ?_)
    · refine V.iload_n (q := 30) C dX9_see_29 rfl rfl ?_
      refine V.bipush (q := 32) (v := nI 12) C dX9_see_30 rfl (by decide) ?_
      refine V.callSi (q := 35) C me_X9_isOut c_isOut ml_X9_70 dX9_see_32 rfl rfl rfl (Nat.le_of_ble_eq_true rfl) (by omega) (Nat.zero_le _) (Nat.zero_le _) ?_
      refine V.if_neB (q := 38) (tgt := 47) C dX9_see_35 rfl rfl (fun hb35 => ?_) (fun hb35 => ?_)
      · refine V.bipush (q := 49) (v := -2) C dX9_see_47 rfl (by decide) ?_
        exact V.ireturn C dX9_see_49 ⟨by rw [seeR, if_neg hb2, if_pos hb24, if_neg hb35] <;> rfl, by rw [seW, if_neg hb2, if_pos hb24, if_neg hb35] <;> rfl, rfl⟩
      · replace hb35 := Decidable.not_not.mp hb35
        refine V.iload_n (q := 39) C dX9_see_38 rfl rfl ?_
        refine V.bipush (q := 41) (v := nI 99) C dX9_see_39 rfl (by decide) ?_
        refine V.callSi (q := 44) C me_X9_isOut c_isOut ml_X9_70 dX9_see_41 rfl rfl rfl (Nat.le_of_ble_eq_true rfl) (by omega) (Nat.zero_le _) (Nat.zero_le _) ?_
        refine V.if_eqB (q := 47) (tgt := 50) C dX9_see_44 rfl rfl (fun hb44 => ?_) (fun hb44 => ?_)
        · replace hb44 := Decidable.not_not.mp hb44
          refine V.aload_n (q := 51) C dX9_see_50 rfl rfl ?_
          refine V.get (q := 54) C fl_X9_40 dX9_see_51 rfl okC_0 rfl rfl ?_
          refine V.get (q := 57) C fl_X9_191 dX9_see_54 rfl (okC_12 (by omega)) rfl rfl ?_
          refine V.iload_n (q := 58) C dX9_see_57 rfl rfl ?_
          refine V.iload_n (q := 59) C dX9_see_58 rfl rfl ?_
          refine V.iload_n (q := 60) C dX9_see_59 rfl rfl ?_
          refine V.callVi (q := 63) C me_X3_add (c_add (by omega) (by omega) hk (by rw [rw5]; omega)) ml_X9_200 dX9_see_60 rfl (okC_13 (by omega) (by omega)) ⟨_, rfl⟩ rfl rfl (Nat.le_of_ble_eq_true rfl) (by omega) (Nat.zero_le _) (Nat.zero_le _) ?_
          exact V.ireturn C dX9_see_63 ⟨by rw [seeR, if_neg hb2, if_pos hb24, if_pos hb35, if_pos hb44] <;> rfl, by rw [seW, if_neg hb2, if_pos hb24, if_pos hb35, if_pos hb44] <;> rfl, rfl⟩
        · refine V.bipush (q := 49) (v := -2) C dX9_see_47 rfl (by decide) ?_
          exact V.ireturn C dX9_see_49 ⟨by rw [seeR, if_neg hb2, if_pos hb24, if_pos hb35, if_neg hb44] <;> rfl, by rw [seW, if_neg hb2, if_pos hb24, if_pos hb35, if_neg hb44] <;> rfl, rfl⟩
    · refine V.iconst (q := 28) (v := -1) C dX9_see_27 rfl (by decide) ?_
      exact V.ireturn C dX9_see_28 ⟨by rw [seeR, if_neg hb2, if_neg hb24] <;> rfl, by rw [seW, if_neg hb2, if_neg hb24] <;> rfl, rfl⟩
  · refine V.aload_n (q := 6) C dX9_see_5 rfl rfl ?_
    refine V.get (q := 9) C fl_X9_40 dX9_see_6 rfl okC_0 rfl rfl ?_
    refine V.get (q := 12) C fl_X9_191 dX9_see_9 rfl (okC_12 (by omega)) rfl rfl ?_
    refine V.callVi (q := 15) C me_X3_empty (c_empty (by omega) (by omega)) ml_X9_195 dX9_see_12 rfl (okC_13 (by omega) (by omega)) ⟨_, rfl⟩ rfl rfl (Nat.le_of_ble_eq_true rfl) (by omega) (Nat.zero_le _) (Nat.zero_le _) ?_
    exact V.ireturn C dX9_see_15 ⟨by rw [seeR, if_pos hb2] <;> rfl, by rw [seW, if_pos hb2] <;> rfl, rfl⟩
def acW (rw : RWt) (n c : Nat) (p d x : Int32) : RWt := if p = -1 then eR rw 0 1 else if inN p n then (if inR d (nI 0) (nI 12) then adR rw 0 1 c p d (acheV x) else rw) else rw
theorem c_ache {l : Launch} {g : GG} {X : PHp} {h0 : HZ} {ct : CTt} {cl : I2} {rd : RDt} {B : I2} {cy : Nat → Nat} {rw : RWt} {tl : TLt} {sp : SPt} {n m : Nat} (hI : CI (B 0) n m) {c : Nat} (hk : rw.2.2.2 0 1 = nI c) (hk1 : c ≤ 5) {p d x : Int32} : Ct l g yX9_ache cX9_ache 4 (some .int) 24 0 0 [rf g (0, 0, 0), .int p, .int d, .int x] NN (jn (hC g h0 ct cl rd B cy rw tl sp) X) (pI (acheR n c p d) (jn (hC g h0 ct cl rd B cy (acW rw n c p d x) tl sp) X)) := by
  refine Ct.of (lv := [some (rf g (0, 0, 0)), some (.int p), some (.int d), some (.int x)]) (by decide +kernel) rfl (Nat.le_of_ble_eq_true rfl) ?_
  intro Γ C
  have h6 := hI.2.1
  have h8 := hI.2.2.2
  refine V.iload_n (q := 1) C dX9_ache_0 rfl rfl ?_
  refine V.iconst (q := 2) (v := -1) C dX9_ache_1 rfl (by decide) ?_
  refine V.icmp_ne (q := 5) (tgt := 16) C dX9_ache_2 rfl rfl (fun hb2 => ?_) (fun hb2 => ?_)
  · refine V.aload_n (q := 17) C dX9_ache_16 rfl rfl ?_
    refine V.get (q := 20) C fl_X9_27 dX9_ache_17 rfl okC_0 rfl rfl ?_
    refine V.iload_n (q := 21) C dX9_ache_20 rfl rfl ?_
    refine V.callVi (q := 24) C me_X8_hasWearer (c_hasWearer (by omega) hI) ml_X9_78 dX9_ache_21 rfl (okC_6 (by omega)) ⟨_, rfl⟩ rfl rfl (Nat.le_of_ble_eq_true rfl) (by omega) (Nat.zero_le _) (Nat.zero_le _) ?_
    refine V.if_neB (q := 27) (tgt := 29) C dX9_ache_24 rfl rfl (fun hb24 => ?_) (fun hb24 => ?_)
    · refine V.iload_n (q := 30) C dX9_ache_29 rfl rfl ?_
      refine V.bipush (q := 32) (v := nI 12) C dX9_ache_30 rfl (by decide) ?_
      refine V.callSi (q := 35) C me_X9_isOut c_isOut ml_X9_70 dX9_ache_32 rfl rfl rfl (Nat.le_of_ble_eq_true rfl) (by omega) (Nat.zero_le _) (Nat.zero_le _) ?_
      refine V.if_eqB (q := 38) (tgt := 41) C dX9_ache_35 rfl rfl (fun hb35 => ?_) (fun hb35 => ?_)
      · replace hb35 := Decidable.not_not.mp hb35
        refine V.aload_n (q := 42) C dX9_ache_41 rfl rfl ?_
        refine V.get (q := 45) C fl_X9_40 dX9_ache_42 rfl okC_0 rfl rfl ?_
        refine V.get (q := 48) C fl_X9_203 dX9_ache_45 rfl (okC_12 (by omega)) rfl rfl ?_
        refine V.iload_n (q := 49) C dX9_ache_48 rfl rfl ?_
        refine V.iload_n (q := 50) C dX9_ache_49 rfl rfl ?_
        refine V.iload_n (q := 51) C dX9_ache_50 rfl rfl ?_
        refine V.if_eq (q := 54) (tgt := 58) C dX9_ache_51 rfl rfl (fun hb51 => ?_) (fun hb51 => ?_)
        · refine V.iconst (q := 59) (v := nI 0) C dX9_ache_58 rfl (by decide) ?_
          refine V.callVi (q := 62) C me_X3_add (c_add (by omega) (by omega) hk (by rw [rw5']; omega)) ml_X9_200 dX9_ache_59 rfl (okC_13 (by omega) (by omega)) ⟨_, rfl⟩ rfl rfl (Nat.le_of_ble_eq_true rfl) (by omega) (Nat.zero_le _) (Nat.zero_le _) ?_
          exact V.ireturn C dX9_ache_62 ⟨by rw [acheR, if_neg hb2, if_pos hb24, if_pos hb35] <;> rfl, by rw [acW, if_neg hb2, if_pos hb24, if_pos hb35, acheV, if_pos hb51] <;> rfl, rfl⟩
        · refine V.iconst (q := 55) (v := nI 1) C dX9_ache_54 rfl (by decide) ?_
          refine V.goto (tgt := 59) C dX9_ache_55 rfl ?_
          refine V.callVi (q := 62) C me_X3_add (c_add (by omega) (by omega) hk (by rw [rw5']; omega)) ml_X9_200 dX9_ache_59 rfl (okC_13 (by omega) (by omega)) ⟨_, rfl⟩ rfl rfl (Nat.le_of_ble_eq_true rfl) (by omega) (Nat.zero_le _) (Nat.zero_le _) ?_
          exact V.ireturn C dX9_ache_62 ⟨by rw [acheR, if_neg hb2, if_pos hb24, if_pos hb35] <;> rfl, by rw [acW, if_neg hb2, if_pos hb24, if_pos hb35, acheV, if_neg hb51] <;> rfl, rfl⟩
      · refine V.bipush (q := 40) (v := -2) C dX9_ache_38 rfl (by decide) ?_
        exact V.ireturn C dX9_ache_40 ⟨by rw [acheR, if_neg hb2, if_pos hb24, if_neg hb35] <;> rfl, by rw [acW, if_neg hb2, if_pos hb24, if_neg hb35] <;> rfl, rfl⟩
    · refine V.iconst (q := 28) (v := -1) C dX9_ache_27 rfl (by decide) ?_
      exact V.ireturn C dX9_ache_28 ⟨by rw [acheR, if_neg hb2, if_neg hb24] <;> rfl, by rw [acW, if_neg hb2, if_neg hb24] <;> rfl, rfl⟩
  · refine V.aload_n (q := 6) C dX9_ache_5 rfl rfl ?_
    refine V.get (q := 9) C fl_X9_40 dX9_ache_6 rfl okC_0 rfl rfl ?_
    refine V.get (q := 12) C fl_X9_203 dX9_ache_9 rfl (okC_12 (by omega)) rfl rfl ?_
    refine V.callVi (q := 15) C me_X3_empty (c_empty (by omega) (by omega)) ml_X9_195 dX9_ache_12 rfl (okC_13 (by omega) (by omega)) ⟨_, rfl⟩ rfl rfl (Nat.le_of_ble_eq_true rfl) (by omega) (Nat.zero_le _) (Nat.zero_le _) ?_
    exact V.ireturn C dX9_ache_15 ⟨by rw [acheR, if_pos hb2] <;> rfl, by rw [acW, if_pos hb2] <;> rfl, rfl⟩
def boW (rw : RWt) (n c : Nat) (p v : Int32) : RWt := if p = -1 then eR rw 0 3 else if inN p n then (if inR v (nI 0) (nI 99) then adR rw 0 3 c p (nI 0) v else rw) else rw
theorem c_book {l : Launch} {g : GG} {X : PHp} {h0 : HZ} {ct : CTt} {cl : I2} {rd : RDt} {B : I2} {cy : Nat → Nat} {rw : RWt} {tl : TLt} {sp : SPt} {n m : Nat} (hI : CI (B 0) n m) {c : Nat} (hk : rw.2.2.2 0 3 = nI c) (hk1 : c ≤ 8) {p v : Int32} : Ct l g yX9_book cX9_book 3 (some .int) 24 0 0 [rf g (0, 0, 0), .int p, .int v] NN (jn (hC g h0 ct cl rd B cy rw tl sp) X) (pI (bookR n c p v) (jn (hC g h0 ct cl rd B cy (boW rw n c p v) tl sp) X)) := by
  refine Ct.of (lv := [some (rf g (0, 0, 0)), some (.int p), some (.int v)]) (by decide +kernel) rfl (Nat.le_of_ble_eq_true rfl) ?_
  intro Γ C
  have h6 := hI.2.1
  have h8 := hI.2.2.2
  refine V.iload_n (q := 1) C dX9_book_0 rfl rfl ?_
  refine V.iconst (q := 2) (v := -1) C dX9_book_1 rfl (by decide) ?_
  refine V.icmp_ne (q := 5) (tgt := 16) C dX9_book_2 rfl rfl (fun hb2 => ?_) (fun hb2 => ?_)
  · refine V.aload_n (q := 17) C dX9_book_16 rfl rfl ?_
    refine V.get (q := 20) C fl_X9_27 dX9_book_17 rfl okC_0 rfl rfl ?_
    refine V.iload_n (q := 21) C dX9_book_20 rfl rfl ?_
    refine V.callVi (q := 24) C me_X8_hasWearer (c_hasWearer (by omega) hI) ml_X9_78 dX9_book_21 rfl (okC_6 (by omega)) ⟨_, rfl⟩ rfl rfl (Nat.le_of_ble_eq_true rfl) (by omega) (Nat.zero_le _) (Nat.zero_le _) ?_
    refine V.if_neB (q := 27) (tgt := 29) C dX9_book_24 rfl rfl (fun hb24 => ?_) (fun hb24 => ?_)
    · refine V.iload_n (q := 30) C dX9_book_29 rfl rfl ?_
      refine V.bipush (q := 32) (v := nI 99) C dX9_book_30 rfl (by decide) ?_
      refine V.callSi (q := 35) C me_X9_isOut c_isOut ml_X9_70 dX9_book_32 rfl rfl rfl (Nat.le_of_ble_eq_true rfl) (by omega) (Nat.zero_le _) (Nat.zero_le _) ?_
      refine V.if_eqB (q := 38) (tgt := 41) C dX9_book_35 rfl rfl (fun hb35 => ?_) (fun hb35 => ?_)
      · replace hb35 := Decidable.not_not.mp hb35
        refine V.aload_n (q := 42) C dX9_book_41 rfl rfl ?_
        refine V.get (q := 45) C fl_X9_40 dX9_book_42 rfl okC_0 rfl rfl ?_
        refine V.get (q := 48) C fl_X9_233 dX9_book_45 rfl (okC_12 (by omega)) rfl rfl ?_
        refine V.iload_n (q := 49) C dX9_book_48 rfl rfl ?_
        refine V.iconst (q := 50) (v := nI 0) C dX9_book_49 rfl (by decide) ?_
        refine V.iload_n (q := 51) C dX9_book_50 rfl rfl ?_
        refine V.callVi (q := 54) C me_X3_add (c_add (by omega) (by omega) hk (by rw [rw8]; omega)) ml_X9_200 dX9_book_51 rfl (okC_13 (by omega) (by omega)) ⟨_, rfl⟩ rfl rfl (Nat.le_of_ble_eq_true rfl) (by omega) (Nat.zero_le _) (Nat.zero_le _) ?_
        exact V.ireturn C dX9_book_54 ⟨by rw [bookR, if_neg hb2, if_pos hb24, if_pos hb35] <;> rfl, by rw [boW, if_neg hb2, if_pos hb24, if_pos hb35] <;> rfl, rfl⟩
      · refine V.bipush (q := 40) (v := -2) C dX9_book_38 rfl (by decide) ?_
        exact V.ireturn C dX9_book_40 ⟨by rw [bookR, if_neg hb2, if_pos hb24, if_neg hb35] <;> rfl, by rw [boW, if_neg hb2, if_pos hb24, if_neg hb35] <;> rfl, rfl⟩
    · refine V.iconst (q := 28) (v := -1) C dX9_book_27 rfl (by decide) ?_
      exact V.ireturn C dX9_book_28 ⟨by rw [bookR, if_neg hb2, if_neg hb24] <;> rfl, by rw [boW, if_neg hb2, if_neg hb24] <;> rfl, rfl⟩
  · refine V.aload_n (q := 6) C dX9_book_5 rfl rfl ?_
    refine V.get (q := 9) C fl_X9_40 dX9_book_6 rfl okC_0 rfl rfl ?_
    refine V.get (q := 12) C fl_X9_233 dX9_book_9 rfl (okC_12 (by omega)) rfl rfl ?_
    refine V.callVi (q := 15) C me_X3_empty (c_empty (by omega) (by omega)) ml_X9_195 dX9_book_12 rfl (okC_13 (by omega) (by omega)) ⟨_, rfl⟩ rfl rfl (Nat.le_of_ble_eq_true rfl) (by omega) (Nat.zero_le _) (Nat.zero_le _) ?_
    exact V.ireturn C dX9_book_15 ⟨by rw [bookR, if_pos hb2] <;> rfl, by rw [boW, if_pos hb2] <;> rfl, rfl⟩
def plW' (rw : RWt) (n m c : Nat) (q x : Int32) : RWt := if q = -1 then eR rw 0 2 else if plW n m q x then adR rw 0 2 c x q (nI 0) else rw
theorem q3 {q : Int32} (h : inR q (nI 0) (nI 3) = true) (h1 : ¬ q = nI 1) (h2 : ¬ q = nI 2) (h3 : ¬ q = nI 3) : q = 0 := by
  obtain ⟨j, -, hj, rfl⟩ := InR_nat (by omega) (by omega) h
  obtain rfl | rfl | rfl | rfl := (show j = 0 ∨ j = 1 ∨ j = 2 ∨ j = 3 by omega)
  · rfl
  · exact absurd rfl h1
  · exact absurd rfl h2
  · exact absurd rfl h3
theorem c_plan {l : Launch} {g : GG} {X : PHp} {h0 : HZ} {ct : CTt} {cl : I2} {rd : RDt} {B : I2} {cy : Nat → Nat} {rw : RWt} {tl : TLt} {sp : SPt} {n m : Nat} (hI : CI (B 0) n m) {c : Nat} (hk : rw.2.2.2 0 2 = nI c) (hk1 : c ≤ 10) {q x : Int32} : Ct l g yX9_plan cX9_plan 4 (some .int) 24 0 0 [rf g (0, 0, 0), .int q, .int x] NN (jn (hC g h0 ct cl rd B cy rw tl sp) X) (pI (planR n m c q x) (jn (hC g h0 ct cl rd B cy (plW' rw n m c q x) tl sp) X)) := by
  refine Ct.of (lv := [some (rf g (0, 0, 0)), some (.int q), some (.int x), none]) (by decide +kernel) rfl (Nat.le_of_ble_eq_true rfl) ?_
  intro Γ C
  have h6 := hI.2.1
  have h8 := hI.2.2.2
  refine V.iload_n (q := 1) C dX9_plan_0 rfl rfl ?_
  refine V.iconst (q := 2) (v := -1) C dX9_plan_1 rfl (by decide) ?_
  refine V.icmp_ne (q := 5) (tgt := 16) C dX9_plan_2 rfl rfl (fun hb2 => ?_) (fun hb2 => ?_)
  · refine V.iload_n (q := 17) C dX9_plan_16 rfl rfl ?_
    refine V.iconst (q := 18) (v := nI 1) C dX9_plan_17 rfl (by decide) ?_
    refine V.icmp_eq (q := 21) (tgt := 26) C dX9_plan_18 rfl rfl (fun hb18 => ?_) (fun hb18 => ?_)
    · refine V.iconst (q := 27) (v := nI 1) C dX9_plan_26 rfl (by decide) ?_
      refine V.goto (tgt := 31) C dX9_plan_27 rfl ?_
      refine V.istore_n (q := 32) C dX9_plan_31 rfl (by decide) rfl rfl ?_
      refine V.iload_n (q := 33) C dX9_plan_32 rfl rfl ?_
      refine V.iconst (q := 34) (v := nI 3) C dX9_plan_33 rfl (by decide) ?_
      refine V.callSi (q := 37) C me_X9_isOut c_isOut ml_X9_70 dX9_plan_34 rfl rfl rfl (Nat.le_of_ble_eq_true rfl) (by omega) (Nat.zero_le _) (Nat.zero_le _) ?_
      refine V.if_neB (q := 40) (tgt := 71) C dX9_plan_37 rfl rfl (fun hb37 => ?_) (fun hb37 => ?_)
      · have hw : ¬ plW n m q x = true := fun z => by
          rcases plW_t.mp z with z | z | z
          · exact hb37 (by rw [z]; decide)
          · exact hb37 (by rcases z.1 with z | z <;> (rw [z]; decide))
          · exact hb37 (by rw [z.1]; decide)
        refine V.iconst (q := 72) (v := -1) C dX9_plan_71 rfl (by decide) ?_
        exact V.ireturn C dX9_plan_72 ⟨by rw [planR, if_neg hb2, if_neg hw], by rw [plW', if_neg hb2, if_neg hw], rfl⟩
      · replace hb37 := Decidable.not_not.mp hb37
        refine V.iload_n (q := 41) C dX9_plan_40 rfl rfl ?_
        refine V.if_eq (q := 44) (tgt := 55) C dX9_plan_41 rfl rfl (fun hb41 => ?_) (fun hb41 => ?_)
        · exact absurd hb41 (by decide)
        · refine V.aload_n (q := 45) C dX9_plan_44 rfl rfl ?_
          refine V.get (q := 48) C fl_X9_27 dX9_plan_45 rfl okC_0 rfl rfl ?_
          refine V.iload_n (q := 49) C dX9_plan_48 rfl rfl ?_
          refine V.callVi (q := 52) C me_X8_hasWearer (c_hasWearer (by omega) hI) ml_X9_78 dX9_plan_49 rfl (okC_6 (by omega)) ⟨_, rfl⟩ rfl rfl (Nat.le_of_ble_eq_true rfl) (by omega) (Nat.zero_le _) (Nat.zero_le _) ?_
          refine V.if_eqB (q := 55) (tgt := 71) C dX9_plan_52 rfl rfl (fun hb52 => ?_) (fun hb52 => ?_)
          · have hw : ¬ plW n m q x = true := fun z => by
              rcases plW_t.mp z with z | z | z
              · exact absurd (z.symm.trans hb18) (by decide)
              · exact hb52 z.2
              · exact absurd (z.1.symm.trans hb18) (by decide)
            refine V.iconst (q := 72) (v := -1) C dX9_plan_71 rfl (by decide) ?_
            exact V.ireturn C dX9_plan_72 ⟨by rw [planR, if_neg hb2, if_neg hw], by rw [plW', if_neg hb2, if_neg hw], rfl⟩
          · refine V.iload_n (q := 56) C dX9_plan_55 rfl rfl ?_
            refine V.iconst (q := 57) (v := nI 2) C dX9_plan_56 rfl (by decide) ?_
            refine V.icmp_ne (q := 60) (tgt := 73) C dX9_plan_57 rfl rfl (fun hb57 => ?_) (fun hb57 => ?_)
            · have hw : plW n m q x = true := plW_t.mpr (Or.inr (Or.inl ⟨(Or.inl hb18), hb52⟩))
              refine V.aload_n (q := 74) C dX9_plan_73 rfl rfl ?_
              refine V.get (q := 77) C fl_X9_40 dX9_plan_74 rfl okC_0 rfl rfl ?_
              refine V.get (q := 80) C fl_X9_218 dX9_plan_77 rfl (okC_12 (by omega)) rfl rfl ?_
              refine V.iload_n (q := 81) C dX9_plan_80 rfl rfl ?_
              refine V.iload_n (q := 82) C dX9_plan_81 rfl rfl ?_
              refine V.iconst (q := 83) (v := nI 0) C dX9_plan_82 rfl (by decide) ?_
              refine V.callVi (q := 86) C me_X3_add (c_add (by omega) (by omega) hk (by rw [rw10]; omega)) ml_X9_200 dX9_plan_83 rfl (okC_13 (by omega) (by omega)) ⟨_, rfl⟩ rfl rfl (Nat.le_of_ble_eq_true rfl) (by omega) (Nat.zero_le _) (Nat.zero_le _) ?_
              exact V.ireturn C dX9_plan_86 ⟨by rw [planR, if_neg hb2, if_pos hw] <;> rfl, by rw [plW', if_neg hb2, if_pos hw], rfl⟩
            · exact absurd (hb57.symm.trans hb18) (by decide)
    · refine V.iload_n (q := 22) C dX9_plan_21 rfl rfl ?_
      refine V.iconst (q := 23) (v := nI 3) C dX9_plan_22 rfl (by decide) ?_
      refine V.icmp_ne (q := 26) (tgt := 30) C dX9_plan_23 rfl rfl (fun hb23 => ?_) (fun hb23 => ?_)
      · refine V.iconst (q := 31) (v := nI 0) C dX9_plan_30 rfl (by decide) ?_
        refine V.istore_n (q := 32) C dX9_plan_31 rfl (by decide) rfl rfl ?_
        refine V.iload_n (q := 33) C dX9_plan_32 rfl rfl ?_
        refine V.iconst (q := 34) (v := nI 3) C dX9_plan_33 rfl (by decide) ?_
        refine V.callSi (q := 37) C me_X9_isOut c_isOut ml_X9_70 dX9_plan_34 rfl rfl rfl (Nat.le_of_ble_eq_true rfl) (by omega) (Nat.zero_le _) (Nat.zero_le _) ?_
        refine V.if_neB (q := 40) (tgt := 71) C dX9_plan_37 rfl rfl (fun hb37 => ?_) (fun hb37 => ?_)
        · have hw : ¬ plW n m q x = true := fun z => by
            rcases plW_t.mp z with z | z | z
            · exact hb37 (by rw [z]; decide)
            · exact hb37 (by rcases z.1 with z | z <;> (rw [z]; decide))
            · exact hb37 (by rw [z.1]; decide)
          refine V.iconst (q := 72) (v := -1) C dX9_plan_71 rfl (by decide) ?_
          exact V.ireturn C dX9_plan_72 ⟨by rw [planR, if_neg hb2, if_neg hw], by rw [plW', if_neg hb2, if_neg hw], rfl⟩
        · replace hb37 := Decidable.not_not.mp hb37
          refine V.iload_n (q := 41) C dX9_plan_40 rfl rfl ?_
          refine V.if_eq (q := 44) (tgt := 55) C dX9_plan_41 rfl rfl (fun hb41 => ?_) (fun hb41 => ?_)
          · refine V.iload_n (q := 56) C dX9_plan_55 rfl rfl ?_
            refine V.iconst (q := 57) (v := nI 2) C dX9_plan_56 rfl (by decide) ?_
            refine V.icmp_ne (q := 60) (tgt := 73) C dX9_plan_57 rfl rfl (fun hb57 => ?_) (fun hb57 => ?_)
            · have hw : plW n m q x = true := plW_t.mpr (Or.inl (q3 hb37 hb18 hb57 hb23))
              refine V.aload_n (q := 74) C dX9_plan_73 rfl rfl ?_
              refine V.get (q := 77) C fl_X9_40 dX9_plan_74 rfl okC_0 rfl rfl ?_
              refine V.get (q := 80) C fl_X9_218 dX9_plan_77 rfl (okC_12 (by omega)) rfl rfl ?_
              refine V.iload_n (q := 81) C dX9_plan_80 rfl rfl ?_
              refine V.iload_n (q := 82) C dX9_plan_81 rfl rfl ?_
              refine V.iconst (q := 83) (v := nI 0) C dX9_plan_82 rfl (by decide) ?_
              refine V.callVi (q := 86) C me_X3_add (c_add (by omega) (by omega) hk (by rw [rw10]; omega)) ml_X9_200 dX9_plan_83 rfl (okC_13 (by omega) (by omega)) ⟨_, rfl⟩ rfl rfl (Nat.le_of_ble_eq_true rfl) (by omega) (Nat.zero_le _) (Nat.zero_le _) ?_
              exact V.ireturn C dX9_plan_86 ⟨by rw [planR, if_neg hb2, if_pos hw] <;> rfl, by rw [plW', if_neg hb2, if_pos hw], rfl⟩
            · refine V.aload_n (q := 61) C dX9_plan_60 rfl rfl ?_
              refine V.get (q := 64) C fl_X9_27 dX9_plan_61 rfl okC_0 rfl rfl ?_
              refine V.iload_n (q := 65) C dX9_plan_64 rfl rfl ?_
              refine V.callVi (q := 68) C me_X8_hasSaying (c_hasSaying (by omega) hI) ml_X9_111 dX9_plan_65 rfl (okC_6 (by omega)) ⟨_, rfl⟩ rfl rfl (Nat.le_of_ble_eq_true rfl) (by omega) (Nat.zero_le _) (Nat.zero_le _) ?_
              refine V.if_neB (q := 71) (tgt := 73) C dX9_plan_68 rfl rfl (fun hb68 => ?_) (fun hb68 => ?_)
              · have hw : plW n m q x = true := plW_t.mpr (Or.inr (Or.inr ⟨hb57, hb68⟩))
                refine V.aload_n (q := 74) C dX9_plan_73 rfl rfl ?_
                refine V.get (q := 77) C fl_X9_40 dX9_plan_74 rfl okC_0 rfl rfl ?_
                refine V.get (q := 80) C fl_X9_218 dX9_plan_77 rfl (okC_12 (by omega)) rfl rfl ?_
                refine V.iload_n (q := 81) C dX9_plan_80 rfl rfl ?_
                refine V.iload_n (q := 82) C dX9_plan_81 rfl rfl ?_
                refine V.iconst (q := 83) (v := nI 0) C dX9_plan_82 rfl (by decide) ?_
                refine V.callVi (q := 86) C me_X3_add (c_add (by omega) (by omega) hk (by rw [rw10]; omega)) ml_X9_200 dX9_plan_83 rfl (okC_13 (by omega) (by omega)) ⟨_, rfl⟩ rfl rfl (Nat.le_of_ble_eq_true rfl) (by omega) (Nat.zero_le _) (Nat.zero_le _) ?_
                exact V.ireturn C dX9_plan_86 ⟨by rw [planR, if_neg hb2, if_pos hw] <;> rfl, by rw [plW', if_neg hb2, if_pos hw], rfl⟩
              · have hw : ¬ plW n m q x = true := fun z => by
                  rcases plW_t.mp z with z | z | z
                  · exact absurd (z.symm.trans hb57) (by decide)
                  · exact absurd hb57 (by rcases z.1 with z | z <;> (rw [z]; decide))
                  · exact hb68 z.2
                refine V.iconst (q := 72) (v := -1) C dX9_plan_71 rfl (by decide) ?_
                exact V.ireturn C dX9_plan_72 ⟨by rw [planR, if_neg hb2, if_neg hw], by rw [plW', if_neg hb2, if_neg hw], rfl⟩
          · exact absurd rfl hb41
      · refine V.iconst (q := 27) (v := nI 1) C dX9_plan_26 rfl (by decide) ?_
        refine V.goto (tgt := 31) C dX9_plan_27 rfl ?_
        refine V.istore_n (q := 32) C dX9_plan_31 rfl (by decide) rfl rfl ?_
        refine V.iload_n (q := 33) C dX9_plan_32 rfl rfl ?_
        refine V.iconst (q := 34) (v := nI 3) C dX9_plan_33 rfl (by decide) ?_
        refine V.callSi (q := 37) C me_X9_isOut c_isOut ml_X9_70 dX9_plan_34 rfl rfl rfl (Nat.le_of_ble_eq_true rfl) (by omega) (Nat.zero_le _) (Nat.zero_le _) ?_
        refine V.if_neB (q := 40) (tgt := 71) C dX9_plan_37 rfl rfl (fun hb37 => ?_) (fun hb37 => ?_)
        · have hw : ¬ plW n m q x = true := fun z => by
            rcases plW_t.mp z with z | z | z
            · exact hb37 (by rw [z]; decide)
            · exact hb37 (by rcases z.1 with z | z <;> (rw [z]; decide))
            · exact hb37 (by rw [z.1]; decide)
          refine V.iconst (q := 72) (v := -1) C dX9_plan_71 rfl (by decide) ?_
          exact V.ireturn C dX9_plan_72 ⟨by rw [planR, if_neg hb2, if_neg hw], by rw [plW', if_neg hb2, if_neg hw], rfl⟩
        · replace hb37 := Decidable.not_not.mp hb37
          refine V.iload_n (q := 41) C dX9_plan_40 rfl rfl ?_
          refine V.if_eq (q := 44) (tgt := 55) C dX9_plan_41 rfl rfl (fun hb41 => ?_) (fun hb41 => ?_)
          · exact absurd hb41 (by decide)
          · refine V.aload_n (q := 45) C dX9_plan_44 rfl rfl ?_
            refine V.get (q := 48) C fl_X9_27 dX9_plan_45 rfl okC_0 rfl rfl ?_
            refine V.iload_n (q := 49) C dX9_plan_48 rfl rfl ?_
            refine V.callVi (q := 52) C me_X8_hasWearer (c_hasWearer (by omega) hI) ml_X9_78 dX9_plan_49 rfl (okC_6 (by omega)) ⟨_, rfl⟩ rfl rfl (Nat.le_of_ble_eq_true rfl) (by omega) (Nat.zero_le _) (Nat.zero_le _) ?_
            refine V.if_eqB (q := 55) (tgt := 71) C dX9_plan_52 rfl rfl (fun hb52 => ?_) (fun hb52 => ?_)
            · have hw : ¬ plW n m q x = true := fun z => by
                rcases plW_t.mp z with z | z | z
                · exact absurd (z.symm.trans hb23) (by decide)
                · exact hb52 z.2
                · exact absurd (z.1.symm.trans hb23) (by decide)
              refine V.iconst (q := 72) (v := -1) C dX9_plan_71 rfl (by decide) ?_
              exact V.ireturn C dX9_plan_72 ⟨by rw [planR, if_neg hb2, if_neg hw], by rw [plW', if_neg hb2, if_neg hw], rfl⟩
            · refine V.iload_n (q := 56) C dX9_plan_55 rfl rfl ?_
              refine V.iconst (q := 57) (v := nI 2) C dX9_plan_56 rfl (by decide) ?_
              refine V.icmp_ne (q := 60) (tgt := 73) C dX9_plan_57 rfl rfl (fun hb57 => ?_) (fun hb57 => ?_)
              · have hw : plW n m q x = true := plW_t.mpr (Or.inr (Or.inl ⟨(Or.inr hb23), hb52⟩))
                refine V.aload_n (q := 74) C dX9_plan_73 rfl rfl ?_
                refine V.get (q := 77) C fl_X9_40 dX9_plan_74 rfl okC_0 rfl rfl ?_
                refine V.get (q := 80) C fl_X9_218 dX9_plan_77 rfl (okC_12 (by omega)) rfl rfl ?_
                refine V.iload_n (q := 81) C dX9_plan_80 rfl rfl ?_
                refine V.iload_n (q := 82) C dX9_plan_81 rfl rfl ?_
                refine V.iconst (q := 83) (v := nI 0) C dX9_plan_82 rfl (by decide) ?_
                refine V.callVi (q := 86) C me_X3_add (c_add (by omega) (by omega) hk (by rw [rw10]; omega)) ml_X9_200 dX9_plan_83 rfl (okC_13 (by omega) (by omega)) ⟨_, rfl⟩ rfl rfl (Nat.le_of_ble_eq_true rfl) (by omega) (Nat.zero_le _) (Nat.zero_le _) ?_
                exact V.ireturn C dX9_plan_86 ⟨by rw [planR, if_neg hb2, if_pos hw] <;> rfl, by rw [plW', if_neg hb2, if_pos hw], rfl⟩
              · exact absurd (hb57.symm.trans hb23) (by decide)
  · refine V.aload_n (q := 6) C dX9_plan_5 rfl rfl ?_
    refine V.get (q := 9) C fl_X9_40 dX9_plan_6 rfl okC_0 rfl rfl ?_
    refine V.get (q := 12) C fl_X9_218 dX9_plan_9 rfl (okC_12 (by omega)) rfl rfl ?_
    refine V.callVi (q := 15) C me_X3_empty (c_empty (by omega) (by omega)) ml_X9_195 dX9_plan_12 rfl (okC_13 (by omega) (by omega)) ⟨_, rfl⟩ rfl rfl (Nat.le_of_ble_eq_true rfl) (by omega) (Nat.zero_le _) (Nat.zero_le _) ?_
    exact V.ireturn C dX9_plan_15 ⟨by rw [planR, if_pos hb2], by rw [plW', if_pos hb2] <;> rfl, rfl⟩
theorem c_looked_l {l : Launch} {g : GG} {X : PHp} {h0 : HZ} {ct : CTt} {cl : I2} {rd : RDt} {B : I2} {cy : Nat → Nat} {rw : RWt} {tl : TLt} {sp : SPt} {Γ : Cxt} {A : I1} {n m c : Nat} (hT : TR TT (B 0) A n m) (h6 : n ≤ 6) (hk : rw.2.2.2 0 3 = nI c) (hk1 : c ≤ 8) (hb : ∀ i, i < c → rw.1 0 3 i = A (136 + 2 * i) ∧ rw.2.2.1 0 3 i = A (137 + 2 * i) ∧ ∃ j, j < n ∧ A (136 + 2 * i) = nI j) (C : Cx Γ g cX9_looked yX9_looked 3 (some .int) 24 0 0) : ∀ f r : Nat, r + f = c → V l Γ g 3 (QM Γ g (pI (lkF A f r) (jn (hC g h0 ct cl rd B cy rw tl sp) X)) 0 0) 0 0 NN (jn (hC g h0 ct cl rd B cy rw tl sp) X) 10 [some (rf g (0, 0, 0)), some (rf g (13, 0, 3)), some (.int (nI r))] [] := by
  intro f
  induction f with
  | zero =>
    intro r hr
    obtain rfl : r = c := by omega
    refine V.iload_n (q := 11) C dX9_looked_10 rfl rfl ?_
    refine V.aload_n (q := 12) C dX9_looked_11 rfl rfl ?_
    refine V.get (q := 15) C fl_X9_221 dX9_looked_12 rfl (okC_13 (by omega) (by omega)) rfl rfl ?_
    refine V.topi (x1 := nI (r)) hk ?_
    refine V.icmp_ge (q := 18) (tgt := 52) C dX9_looked_15 rfl rfl (fun hb15 => ?_) (fun hb15 => ?_)
    · refine V.bipush (q := 54) (v := -5) C dX9_looked_52 rfl (by decide) ?_
      exact V.ireturn C dX9_looked_54 ⟨rfl, rfl, rfl⟩
    · exact absurd ((nI_leI (by omega) (by omega)).mpr (by omega)) hb15
  | succ f ih =>
    intro r hr
    obtain ⟨h1, h2, j, hj, ej⟩ := hb r (by omega)
    have ij := ix_k (k := j) (by omega)
    have hr8 : r < rwN 3 := by rw [rw8]; omega
    have hz := rwN_le 3
    refine V.iload_n (q := 11) C dX9_looked_10 rfl rfl ?_
    refine V.aload_n (q := 12) C dX9_looked_11 rfl rfl ?_
    refine V.get (q := 15) C fl_X9_221 dX9_looked_12 rfl (okC_13 (by omega) (by omega)) rfl rfl ?_
    refine V.topi (x1 := nI (c)) hk ?_
    refine V.icmp_ge (q := 18) (tgt := 52) C dX9_looked_15 rfl rfl (fun hb15 => ?_) (fun hb15 => ?_)
    · exact absurd ((nI_leI (by omega) (by omega)).mp hb15) (by omega)
    · refine V.aload_n (q := 19) C dX9_looked_18 rfl rfl ?_
      refine V.get (q := 22) C fl_X9_27 dX9_looked_19 rfl okC_0 rfl rfl ?_
      refine V.get (q := 25) C fl_X9_82 dX9_looked_22 rfl (okC_6 (by omega)) rfl rfl ?_
      refine V.aload_n (q := 26) C dX9_looked_25 rfl rfl ?_
      refine V.get (q := 29) C fl_X9_227 dX9_looked_26 rfl (okC_13 (by omega) (by omega)) rfl rfl ?_
      refine V.iload_n (q := 30) C dX9_looked_29 rfl rfl ?_
      refine V.ild (q := 31) (i := r) C dX9_looked_30 rfl (okC_14 (by omega) (by omega)) rfl rfl hr8 (by omega) ?_
      refine V.topi (x1 := nI (j)) (h1.trans ej) ?_
      refine V.rld (q := 32) (i := (j)) C rfl dX9_looked_31 rfl (okC_7 (by omega)) rfl rfl (by omega) (by decide) ?_
      refine V.get (q := 35) C fl_X9_94 dX9_looked_32 rfl (okC_9 (by omega) (by omega)) rfl rfl ?_
      refine V.topi (x1 := A (9 * j + 2)) (hT.1 j hj trivial 2 (by omega)) ?_
      refine V.aload_n (q := 36) C dX9_looked_35 rfl rfl ?_
      refine V.get (q := 39) C fl_X9_236 dX9_looked_36 rfl (okC_13 (by omega) (by omega)) rfl rfl ?_
      refine V.iload_n (q := 40) C dX9_looked_39 rfl rfl ?_
      refine V.ild (q := 41) (i := r) C dX9_looked_40 rfl (okC_16 (by omega) (by omega)) rfl rfl hr8 (by omega) ?_
      refine V.topi (x1 := A (137 + 2 * r)) h2 ?_
      refine V.icmp_eq (q := 44) (tgt := 46) C dX9_looked_41 rfl rfl (fun hb41 => ?_) (fun hb41 => ?_)
      · refine V.iinc (q := 49) (v := nI (r + 1)) C dX9_looked_46 rfl rfl (nI_1 _) (by decide) rfl rfl ?_
        refine V.goto (tgt := 10) C dX9_looked_49 rfl ?_
        rw [show lkF A (f + 1) r = lkF A f (r + 1) from by rw [lkF, ej, ij, if_pos hb41]]
        exact ih (r + 1) (by omega)
      · refine V.iload_n (q := 45) C dX9_looked_44 rfl rfl ?_
        exact V.ireturn C dX9_looked_45 ⟨by rw [lkF, ej, ij, if_neg hb41], rfl, rfl⟩
theorem c_looked {l : Launch} {g : GG} {X : PHp} {h0 : HZ} {ct : CTt} {cl : I2} {rd : RDt} {B : I2} {cy : Nat → Nat} {rw : RWt} {tl : TLt} {sp : SPt} {A : I1} {n m c : Nat} (hT : TR TT (B 0) A n m) (h6 : n ≤ 6) (hk : rw.2.2.2 0 3 = nI c) (hk1 : c ≤ 8) (hb : ∀ i, i < c → rw.1 0 3 i = A (136 + 2 * i) ∧ rw.2.2.1 0 3 i = A (137 + 2 * i) ∧ ∃ j, j < n ∧ A (136 + 2 * i) = nI j) : Ct l g yX9_looked cX9_looked 3 (some .int) 24 0 0 [rf g (0, 0, 0)] NN (jn (hC g h0 ct cl rd B cy rw tl sp) X) (pI (lkF A c 0) (jn (hC g h0 ct cl rd B cy rw tl sp) X)) := by
  refine Ct.of (lv := [some (rf g (0, 0, 0)), none, none]) (by decide +kernel) rfl (Nat.le_of_ble_eq_true rfl) ?_
  intro Γ C
  refine V.aload_n (q := 1) C dX9_looked_0 rfl rfl ?_
  refine V.get (q := 4) C fl_X9_40 dX9_looked_1 rfl okC_0 rfl rfl ?_
  refine V.get (q := 7) C fl_X9_233 dX9_looked_4 rfl (okC_12 (by omega)) rfl rfl ?_
  refine V.astore_n (q := 8) C dX9_looked_7 rfl (by decide) rfl rfl ?_
  refine V.iconst (q := 9) (v := nI 0) C dX9_looked_8 rfl (by decide) ?_
  refine V.istore_n (q := 10) C dX9_looked_9 rfl (by decide) rfl rfl ?_
  exact c_looked_l hT h6 hk hk1 hb C c 0 (by omega)
theorem t5 {v : Int32} : inR v (nI 0) (nI 5) = true ↔ inN v 6 = true := by
  have h := InR_InN (v := v) (n := 6) (by omega)
  rwa [show nI 6 - nI 1 = nI 5 by decide] at h
theorem s_neg {x : Int32} (h : ¬ x < -1) (h2 : ¬ x = -1) : ¬ x < 0 := by
  intro z
  apply h2
  apply Int32.toInt_inj.mp
  have h3 : ¬ x.toInt < (-1 : Int32).toInt := fun q => h (Int32.lt_iff_toInt_lt.mpr q)
  have h4 := Int32.lt_iff_toInt_lt.mp z
  have e1 : (-1 : Int32).toInt = -1 := by decide
  have e0 : (0 : Int32).toInt = 0 := by decide
  omega
def st9 (sp : SPt) (t : Nat) (s n : Int32) : SPt := (va_up sp.1 t (laZ (sp.1 t) 60), va_up sp.2.1 t s, va_up sp.2.2 t n)
def tpS (sp : SPt) (t s n : Int32) : SPt := if inN t 6 then (if inR s (-1) (nI 4) then (if s < 0 then st9 sp (ix t) s (nI 0) else if n ≤ nI 60 then (if 0 ≤ n then st9 sp (ix t) s n else sp) else sp) else sp) else sp
/-- the strips are the reference's -/
def SpR (sp : SPt) (so le : I1) (it : Nat → Int64) : Prop := ∀ j, j < 6 → sp.2.1 j = so j ∧ sp.2.2 j = le j ∧ (∀ x, x < 60 → sp.1 j x = it (60 * j + x)) ∧ (so j = -1 ∨ ∃ k, k < 5 ∧ so j = nI k) ∧ (∃ c, c ≤ 60 ∧ le j = nI c) ∧ (so j = -1 → le j = nI 0)
theorem c_tape {l : Launch} {g : GG} {X : PHp} {h0 : HZ} {ct : CTt} {cl : I2} {rd : RDt} {B : I2} {cy : Nat → Nat} {rw : RWt} {tl : TLt} {sp : SPt} {t s n : Int32} : Ct l g yX9_tape cX9_tape 4 (some .int) 24 0 0 [rf g (0, 0, 0), .int t, .int s, .int n] NN (jn (hC g h0 ct cl rd B cy rw tl sp) X) (pI (tapeR t s n) (jn (hC g h0 ct cl rd B cy rw tl (tpS sp t s n)) X)) := by
  refine Ct.of (lv := [some (rf g (0, 0, 0)), some (.int t), some (.int s), some (.int n)]) (by decide +kernel) rfl (Nat.le_of_ble_eq_true rfl) ?_
  intro Γ C
  refine V.iload_n (q := 1) C dX9_tape_0 rfl rfl ?_
  refine V.iconst (q := 2) (v := nI 5) C dX9_tape_1 rfl (by decide) ?_
  refine V.callSi (q := 5) C me_X9_isOut c_isOut ml_X9_70 dX9_tape_2 rfl rfl rfl (Nat.le_of_ble_eq_true rfl) (by omega) (Nat.zero_le _) (Nat.zero_le _) ?_
  refine V.if_eqB (q := 8) (tgt := 10) C dX9_tape_5 rfl rfl (fun hb5 => ?_) (fun hb5 => ?_)
  · replace hb5 := t5.mp (Decidable.not_not.mp hb5)
    have t9 := hb5
    obtain ⟨j, hj, rfl⟩ := InN_nat (by omega) hb5
    have ij := ix_k (k := j) (by omega)
    refine V.iload_n (q := 11) C dX9_tape_10 rfl rfl ?_
    refine V.iconst (q := 12) (v := -1) C dX9_tape_11 rfl (by decide) ?_
    refine V.icmp_lt (q := 15) (tgt := 20) C dX9_tape_12 rfl rfl (fun hb12 => ?_) (fun hb12 => ?_)
    · have hs9 : ¬ inR s (-1) (nI 4) = true := fun z => (InR_iff.mp z).1 hb12
      refine V.bipush (q := 22) (v := -2) C dX9_tape_20 rfl (by decide) ?_
      exact V.ireturn C dX9_tape_22 ⟨by rw [tapeR, if_pos t9, if_neg hs9], by rw [tpS, if_pos t9, if_neg hs9], rfl⟩
    · refine V.iload_n (q := 16) C dX9_tape_15 rfl rfl ?_
      refine V.iconst (q := 17) (v := nI 4) C dX9_tape_16 rfl (by decide) ?_
      refine V.icmp_le (q := 20) (tgt := 23) C dX9_tape_17 rfl rfl (fun hb17 => ?_) (fun hb17 => ?_)
      · have hs9 : inR s (-1) (nI 4) = true := InR_iff.mpr ⟨hb12, Int32.not_lt.mpr hb17⟩
        refine V.iload_n (q := 24) C dX9_tape_23 rfl rfl ?_
        refine V.iconst (q := 25) (v := -1) C dX9_tape_24 rfl (by decide) ?_
        refine V.icmp_eq (q := 28) (tgt := 37) C dX9_tape_25 rfl rfl (fun hb25 => ?_) (fun hb25 => ?_)
        · have hm := hb25
          refine V.iload_n (q := 38) C dX9_tape_37 rfl rfl ?_
          refine V.iconst (q := 39) (v := -1) C dX9_tape_38 rfl (by decide) ?_
          refine V.icmp_eq (q := 42) (tgt := 49) C dX9_tape_39 rfl rfl (fun hb39 => ?_) (fun hb39 => ?_)
          · refine V.aload_n (q := 50) C dX9_tape_49 rfl rfl ?_
            refine V.get (q := 53) C fl_X9_56 dX9_tape_50 rfl okC_0 rfl rfl ?_
            refine V.iload_n (q := 54) C dX9_tape_53 rfl rfl ?_
            refine V.rld (q := 55) (i := j) C rfl dX9_tape_54 rfl okC_19 rfl rfl (by omega) (by decide) ?_
            refine V.iload_n (q := 56) C dX9_tape_55 rfl rfl ?_
            refine V.iload_n (q := 57) C dX9_tape_56 rfl rfl ?_
            refine V.iconst (q := 58) (v := -1) C dX9_tape_57 rfl (by decide) ?_
            refine V.icmp_ne (q := 61) (tgt := 65) C dX9_tape_58 rfl rfl (fun hb58 => ?_) (fun hb58 => ?_)
            · exact absurd hm hb58
            · refine V.iconst (q := 62) (v := nI 0) C dX9_tape_61 rfl (by decide) ?_
              refine V.goto (tgt := 66) C dX9_tape_62 rfl ?_
              refine V.callVv (q := 69) C me_X5_become (c_stbecome (by omega)) ml_X9_271 dX9_tape_66 rfl (okC_20 (by omega)) ⟨_, rfl⟩ rfl rfl (Nat.le_of_ble_eq_true rfl) (by omega) (Nat.zero_le _) (Nat.zero_le _) ?_
              refine V.iconst (q := 70) (v := nI 1) C dX9_tape_69 rfl (by decide) ?_
              exact V.ireturn C dX9_tape_70 ⟨by rw [tapeR, if_pos t9, if_pos hs9, if_pos (show s < 0 by rw [hm]; decide)], by rw [tpS, if_pos t9, if_pos hs9, if_pos (show s < 0 by rw [hm]; decide), ij] <;> rfl, rfl⟩
          · exact absurd hm hb39
        · have hm := hb25
          have hn9 := s_neg hb12 hb25
          refine V.iload_n (q := 29) C dX9_tape_28 rfl rfl ?_
          refine V.bipush (q := 31) (v := nI 60) C dX9_tape_29 rfl (by decide) ?_
          refine V.icmp_le (q := 34) (tgt := 37) C dX9_tape_31 rfl rfl (fun hb31 => ?_) (fun hb31 => ?_)
          · refine V.iload_n (q := 38) C dX9_tape_37 rfl rfl ?_
            refine V.iconst (q := 39) (v := -1) C dX9_tape_38 rfl (by decide) ?_
            refine V.icmp_eq (q := 42) (tgt := 49) C dX9_tape_39 rfl rfl (fun hb39 => ?_) (fun hb39 => ?_)
            · exact absurd hb39 hm
            · refine V.iload_n (q := 43) C dX9_tape_42 rfl rfl ?_
              refine V.if_ge (q := 46) (tgt := 49) C dX9_tape_43 rfl rfl (fun hb43 => ?_) (fun hb43 => ?_)
              · refine V.aload_n (q := 50) C dX9_tape_49 rfl rfl ?_
                refine V.get (q := 53) C fl_X9_56 dX9_tape_50 rfl okC_0 rfl rfl ?_
                refine V.iload_n (q := 54) C dX9_tape_53 rfl rfl ?_
                refine V.rld (q := 55) (i := j) C rfl dX9_tape_54 rfl okC_19 rfl rfl (by omega) (by decide) ?_
                refine V.iload_n (q := 56) C dX9_tape_55 rfl rfl ?_
                refine V.iload_n (q := 57) C dX9_tape_56 rfl rfl ?_
                refine V.iconst (q := 58) (v := -1) C dX9_tape_57 rfl (by decide) ?_
                refine V.icmp_ne (q := 61) (tgt := 65) C dX9_tape_58 rfl rfl (fun hb58 => ?_) (fun hb58 => ?_)
                · refine V.iload_n (q := 66) C dX9_tape_65 rfl rfl ?_
                  refine V.callVv (q := 69) C me_X5_become (c_stbecome (by omega)) ml_X9_271 dX9_tape_66 rfl (okC_20 (by omega)) ⟨_, rfl⟩ rfl rfl (Nat.le_of_ble_eq_true rfl) (by omega) (Nat.zero_le _) (Nat.zero_le _) ?_
                  refine V.iconst (q := 70) (v := nI 1) C dX9_tape_69 rfl (by decide) ?_
                  exact V.ireturn C dX9_tape_70 ⟨by rw [tapeR, if_pos t9, if_pos hs9, if_neg hn9, if_pos hb31, if_pos hb43], by rw [tpS, if_pos t9, if_pos hs9, if_neg hn9, if_pos hb31, if_pos hb43, ij] <;> rfl, rfl⟩
                · exact absurd hb58 hm
              · refine V.bipush (q := 48) (v := -14) C dX9_tape_46 rfl (by decide) ?_
                exact V.ireturn C dX9_tape_48 ⟨by rw [tapeR, if_pos t9, if_pos hs9, if_neg hn9, if_pos hb31, if_neg (fun z => hb43 z)], by rw [tpS, if_pos t9, if_pos hs9, if_neg hn9, if_pos hb31, if_neg (fun z => hb43 z)], rfl⟩
          · refine V.bipush (q := 36) (v := -2) C dX9_tape_34 rfl (by decide) ?_
            exact V.ireturn C dX9_tape_36 ⟨by rw [tapeR, if_pos t9, if_pos hs9, if_neg hn9, if_neg hb31], by rw [tpS, if_pos t9, if_pos hs9, if_neg hn9, if_neg hb31], rfl⟩
      · have hs9 : ¬ inR s (-1) (nI 4) = true := fun z => (InR_iff.mp z).2 (Int32.not_le.mp hb17)
        refine V.bipush (q := 22) (v := -2) C dX9_tape_20 rfl (by decide) ?_
        exact V.ireturn C dX9_tape_22 ⟨by rw [tapeR, if_pos t9, if_neg hs9], by rw [tpS, if_pos t9, if_neg hs9], rfl⟩
  · have t9 := fun z => hb5 (t5.mpr z)
    refine V.iconst (q := 9) (v := -1) C dX9_tape_8 rfl (by decide) ?_
    exact V.ireturn C dX9_tape_9 ⟨by rw [tapeR, if_neg t9], by rw [tpS, if_neg t9], rfl⟩
def itS (sp : SPt) (t i : Int32) (v : Int64) : SPt := if inN t 6 then (if 0 ≤ sp.2.1 (ix t) then (if inN i (ix (sp.2.2 (ix t))) then (va_up sp.1 (ix t) (vp_updL (sp.1 (ix t)) (ix i) (fitV (sp.2.1 (ix t)) v)), sp.2.1, sp.2.2) else sp) else sp) else sp
theorem c_item {l : Launch} {g : GG} {X : PHp} {h0 : HZ} {ct : CTt} {cl : I2} {rd : RDt} {B : I2} {cy : Nat → Nat} {rw : RWt} {tl : TLt} {sp : SPt} {t i : Int32} {v : Int64} {so le : I1} {it : Nat → Int64} (hs : SpR sp so le it) {c : Nat} (hl : ∀ j, t = nI j → j < 6 → le j = nI c) (hc : c ≤ 60) : Ct l g yX9_item cX9_item 6 (some .int) 24 0 0 [rf g (0, 0, 0), .int t, .int i, .long v] NN (jn (hC g h0 ct cl rd B cy rw tl sp) X) (pI (itemR so c t i) (jn (hC g h0 ct cl rd B cy rw tl (itS sp t i v)) X)) := by
  refine Ct.of (lv := [some (rf g (0, 0, 0)), some (.int t), some (.int i), some (.long v), none, none]) (by decide +kernel) rfl (Nat.le_of_ble_eq_true rfl) ?_
  intro Γ C
  refine V.iload_n (q := 1) C dX9_item_0 rfl rfl ?_
  refine V.iconst (q := 2) (v := nI 5) C dX9_item_1 rfl (by decide) ?_
  refine V.callSi (q := 5) C me_X9_isOut c_isOut ml_X9_70 dX9_item_2 rfl rfl rfl (Nat.le_of_ble_eq_true rfl) (by omega) (Nat.zero_le _) (Nat.zero_le _) ?_
  refine V.if_eqB (q := 8) (tgt := 10) C dX9_item_5 rfl rfl (fun hb5 => ?_) (fun hb5 => ?_)
  · replace hb5 := t5.mp (Decidable.not_not.mp hb5)
    have t9 := hb5
    obtain ⟨j, hj, rfl⟩ := InN_nat (by omega) hb5
    have ij := ix_k (k := j) (by omega)
    obtain ⟨e1, e2, e3, e4, -, e6⟩ := hs j hj
    have hlj := hl j rfl hj
    refine V.aload_n (q := 11) C dX9_item_10 rfl rfl ?_
    refine V.get (q := 14) C fl_X9_56 dX9_item_11 rfl okC_0 rfl rfl ?_
    refine V.iload_n (q := 15) C dX9_item_14 rfl rfl ?_
    refine V.rld (q := 16) (i := j) C rfl dX9_item_15 rfl okC_19 rfl rfl (by omega) (by decide) ?_
    refine V.astore (q := 18) C dX9_item_16 rfl (by decide) rfl rfl ?_
    refine V.aload (q := 20) C dX9_item_18 rfl rfl ?_
    refine V.get (q := 23) C fl_X9_239 dX9_item_20 rfl (okC_20 (by omega)) rfl rfl ?_
    try dsimp only
    refine V.iconst (q := 24) (v := -1) C dX9_item_23 rfl (by decide) ?_
    refine V.icmp_ne (q := 27) (tgt := 30) C dX9_item_24 rfl rfl (fun hb24 => ?_) (fun hb24 => ?_)
    · have h0 : 0 ≤ so j := by
        rcases e4 with e | ⟨k, hk, e⟩
        · exact absurd (e1.trans e) hb24
        · rw [e]; exact nI_pos' (by omega)
      have hk9 : ∃ k, k < 5 ∧ sp.2.1 j = nI k := by
        rcases e4 with e | ⟨k, hk, e⟩
        · exact absurd (e1.trans e) hb24
        · exact ⟨k, hk, e1.trans e⟩
      refine V.iload_n (q := 31) C dX9_item_30 rfl rfl ?_
      refine V.aload (q := 33) C dX9_item_31 rfl rfl ?_
      refine V.get (q := 36) C fl_X9_241 dX9_item_33 rfl (okC_20 (by omega)) rfl rfl ?_
      try dsimp only
      refine V.topi (x1 := nI (c)) (e2.trans hlj) ?_
      refine V.iconst (q := 37) (v := nI 1) C dX9_item_36 rfl (by decide) ?_
      refine V.isub (q := 38) C dX9_item_37 rfl ?_
      refine V.callSi (q := 41) C me_X9_isOut c_isOut ml_X9_70 dX9_item_38 rfl rfl rfl (Nat.le_of_ble_eq_true rfl) (by omega) (Nat.zero_le _) (Nat.zero_le _) ?_
      refine V.if_eqB (q := 44) (tgt := 47) C dX9_item_41 rfl rfl (fun hb41 => ?_) (fun hb41 => ?_)
      · replace hb41 := (InR_InN (by omega)).mp (Decidable.not_not.mp hb41)
        have hi9 := hb41
        obtain ⟨x, hx, rfl⟩ := InN_nat (by omega) hb41
        have ii := ix_k (k := x) (by omega)
        refine V.aload (q := 49) C dX9_item_47 rfl rfl ?_
        refine V.get (q := 52) C fl_X9_242 dX9_item_49 rfl (okC_20 (by omega)) rfl rfl ?_
        refine V.iload_n (q := 53) C dX9_item_52 rfl rfl ?_
        refine V.aload (q := 55) C dX9_item_53 rfl rfl ?_
        refine V.lload_n (q := 56) C dX9_item_55 rfl rfl ?_
        refine V.callVl (q := 59) C me_X5_fitted (c_fitted (by omega) hk9) ml_X9_273 dX9_item_56 rfl (okC_20 (by omega)) ⟨_, rfl⟩ rfl rfl (Nat.le_of_ble_eq_true rfl) (by omega) (Nat.zero_le _) (Nat.zero_le _) ?_
        refine V.lst (q := 60) (i := x) C dX9_item_59 rfl (okC_21 (by omega)) rfl rfl (by omega) (by decide) rfl ?_
        refine V.phE (uC_21) ?_
        try dsimp only
        refine V.iconst (q := 61) (v := nI 1) C dX9_item_60 rfl (by decide) ?_
        exact V.ireturn C dX9_item_61 ⟨by rw [itemR, if_pos t9, ij, if_pos h0, if_pos hi9], by rw [itS, if_pos t9, ij, e1, if_pos h0, e2, hlj, ix_k (by omega), if_pos hi9, ii] <;> rfl, rfl⟩
      · replace hb41 := fun z => hb41 ((InR_InN (by omega)).mpr z)
        refine V.bipush (q := 46) (v := -13) C dX9_item_44 rfl (by decide) ?_
        exact V.ireturn C dX9_item_46 ⟨by rw [itemR, if_pos t9, ij, if_pos h0, if_neg hb41], by rw [itS, if_pos t9, ij, e1, if_pos h0, e2, hlj, ix_k (by omega), if_neg hb41], rfl⟩
    · have h0 : ¬ 0 ≤ so j := by rw [← e1, hb24]; decide
      refine V.bipush (q := 29) (v := -11) C dX9_item_27 rfl (by decide) ?_
      exact V.ireturn C dX9_item_29 ⟨by rw [itemR, if_pos t9, ij, if_neg h0], by rw [itS, if_pos t9, ij, e1, if_neg h0], rfl⟩
  · have t9 := fun z => hb5 (t5.mpr z)
    refine V.iconst (q := 9) (v := -1) C dX9_item_8 rfl (by decide) ?_
    exact V.ireturn C dX9_item_9 ⟨by rw [itemR, if_neg t9], by rw [itS, if_neg t9], rfl⟩
theorem c_read {l : Launch} {g : GG} {X : PHp} {h0 : HZ} {ct : CTt} {cl : I2} {rd : RDt} {B : I2} {cy : Nat → Nat} {rw : RWt} {tl : TLt} {sp : SPt} {t i : Int32} {so le : I1} {it : Nat → Int64} (hs : SpR sp so le it) {c : Nat} (hl : ∀ j, t = nI j → j < 6 → le j = nI c) (hc : c ≤ 60) : Ct l g yX9_read cX9_read 4 (some .long) 24 0 0 [rf g (0, 0, 0), .int t, .int i] NN (jn (hC g h0 ct cl rd B cy rw tl sp) X) (pL (readR c it t i) (jn (hC g h0 ct cl rd B cy rw tl sp) X)) := by
  refine Ct.of (lv := [some (rf g (0, 0, 0)), some (.int t), some (.int i), none]) (by decide +kernel) rfl (Nat.le_of_ble_eq_true rfl) ?_
  intro Γ C
  refine V.iload_n (q := 1) C dX9_read_0 rfl rfl ?_
  refine V.iconst (q := 2) (v := nI 5) C dX9_read_1 rfl (by decide) ?_
  refine V.callSi (q := 5) C me_X9_isOut c_isOut ml_X9_70 dX9_read_2 rfl rfl rfl (Nat.le_of_ble_eq_true rfl) (by omega) (Nat.zero_le _) (Nat.zero_le _) ?_
  refine V.if_eqB (q := 8) (tgt := 12) C dX9_read_5 rfl rfl (fun hb5 => ?_) (fun hb5 => ?_)
  · replace hb5 := t5.mp (Decidable.not_not.mp hb5)
    have t9 := hb5
    obtain ⟨j, hj, rfl⟩ := InN_nat (by omega) hb5
    have ij := ix_k (k := j) (by omega)
    obtain ⟨e1, e2, e3, e4, -, e6⟩ := hs j hj
    have hlj := hl j rfl hj
    refine V.aload_n (q := 13) C dX9_read_12 rfl rfl ?_
    refine V.get (q := 16) C fl_X9_56 dX9_read_13 rfl okC_0 rfl rfl ?_
    refine V.iload_n (q := 17) C dX9_read_16 rfl rfl ?_
    refine V.rld (q := 18) (i := j) C rfl dX9_read_17 rfl okC_19 rfl rfl (by omega) (by decide) ?_
    refine V.astore_n (q := 19) C dX9_read_18 rfl (by decide) rfl rfl ?_
    refine V.iload_n (q := 20) C dX9_read_19 rfl rfl ?_
    refine V.aload_n (q := 21) C dX9_read_20 rfl rfl ?_
    refine V.get (q := 24) C fl_X9_241 dX9_read_21 rfl (okC_20 (by omega)) rfl rfl ?_
    try dsimp only
    refine V.topi (x1 := nI (c)) (e2.trans hlj) ?_
    refine V.iconst (q := 25) (v := nI 1) C dX9_read_24 rfl (by decide) ?_
    refine V.isub (q := 26) C dX9_read_25 rfl ?_
    refine V.callSi (q := 29) C me_X9_isOut c_isOut ml_X9_70 dX9_read_26 rfl rfl rfl (Nat.le_of_ble_eq_true rfl) (by omega) (Nat.zero_le _) (Nat.zero_le _) ?_
    refine V.if_eqB (q := 32) (tgt := 38) C dX9_read_29 rfl rfl (fun hb29 => ?_) (fun hb29 => ?_)
    · replace hb29 := (InR_InN (by omega)).mp (Decidable.not_not.mp hb29)
      have hi9 := hb29
      obtain ⟨x, hx, rfl⟩ := InN_nat (by omega) hb29
      have ii := ix_k (k := x) (by omega)
      refine V.aload_n (q := 39) C dX9_read_38 rfl rfl ?_
      refine V.get (q := 42) C fl_X9_242 dX9_read_39 rfl (okC_20 (by omega)) rfl rfl ?_
      refine V.iload_n (q := 43) C dX9_read_42 rfl rfl ?_
      refine V.lld (q := 44) (i := x) C dX9_read_43 rfl (okC_21 (by omega)) rfl rfl (by omega) (by decide) ?_
      try dsimp only
      exact V.lreturn C dX9_read_44 ⟨by rw [readR, if_pos t9, ij, if_pos hi9, ii]; exact congrArg (fun x => some (Value.long x)) (e3 x (by omega)), rfl, rfl⟩
    · replace hb29 := fun z => hb29 ((InR_InN (by omega)).mpr z)
      refine V.ldc2 (q := 35) (v := -9223372036854775808) C (tb_at 651 (by decide +kernel) rfl) dX9_read_32 rfl ?_
      refine V.goto (tgt := 44) C dX9_read_35 rfl ?_
      exact V.lreturn C dX9_read_44 ⟨by rw [readR, if_pos t9, if_neg hb29], rfl, rfl⟩
  · have t9 := fun z => hb5 (t5.mpr z)
    refine V.ldc2 (q := 11) (v := -9223372036854775808) C (tb_at 651 (by decide +kernel) rfl) dX9_read_8 rfl ?_
    exact V.lreturn C dX9_read_11 ⟨by rw [readR, if_neg t9], rfl, rfl⟩
theorem jl {a c k : Nat} (ha : a < 2 ^ 31) (hc : c ≤ 60) (hk : k ≤ 6) : nI a < nI c - nI k ↔ a + k < c := by
  rw [Int32.lt_iff_toInt_lt, nI_toInt ha, sub_toInt (by omega) (by omega)]
  omega
theorem c_judge_l {l : Launch} {g : GG} {X : PHp} {h0 : HZ} {ct : CTt} {cl : I2} {rd : RDt} {B : I2} {cy : Nat → Nat} {rw : RWt} {tl : TLt} {sp : SPt} {Γ : Cxt} {A : I1} {n m j c : Nat} {t i : Int32} {so le : I1} {it : Nat → Int64} (hT : TR TT (B 0) A n m) (hI : CI (B 0) n m) (hj : j < 6) (h2 : sp.2.2 j = nI c) (hc : c ≤ 60) (h3 : ∀ x, x < 60 → sp.1 j x = it (60 * j + x)) (C : Cx Γ g cX9_judge yX9_judge 5 (some .int) 24 0 0) : ∀ f k : Nat, k + f = n → V l Γ g 5 (QM Γ g (pI (jdF it A j c i f k) (jn (hC g h0 ct cl rd B cy rw tl sp) X)) 0 0) 0 0 NN (jn (hC g h0 ct cl rd B cy rw tl sp) X) 38 [some (rf g (0, 0, 0)), some (.int t), some (.int i), some (rf g (20, j, 0)), some (.int (nI k))] [] := by
  have h6 := hI.2.1
  intro f
  induction f with
  | zero =>
    intro k hk
    obtain rfl : k = n := by omega
    refine V.iload (q := 40) C dX9_judge_38 rfl rfl ?_
    refine V.aload_n (q := 41) C dX9_judge_40 rfl rfl ?_
    refine V.get (q := 44) C fl_X9_27 dX9_judge_41 rfl okC_0 rfl rfl ?_
    refine V.get (q := 47) C fl_X9_208 dX9_judge_44 rfl (okC_6 (by omega)) rfl rfl ?_
    refine V.topi (x1 := nI (k)) hI.1 ?_
    refine V.icmp_ge (q := 50) (tgt := 107) C dX9_judge_47 rfl rfl (fun hb47 => ?_) (fun hb47 => ?_)
    · refine V.bipush (q := 109) (v := -5) C dX9_judge_107 rfl (by decide) ?_
      exact V.ireturn C dX9_judge_109 ⟨rfl, rfl, rfl⟩
    · exact absurd ((nI_leI (by omega) (by omega)).mpr (by omega)) hb47
  | succ f ih =>
    intro k hk
    refine V.iload (q := 40) C dX9_judge_38 rfl rfl ?_
    refine V.aload_n (q := 41) C dX9_judge_40 rfl rfl ?_
    refine V.get (q := 44) C fl_X9_27 dX9_judge_41 rfl okC_0 rfl rfl ?_
    refine V.get (q := 47) C fl_X9_208 dX9_judge_44 rfl (okC_6 (by omega)) rfl rfl ?_
    refine V.topi (x1 := nI (n)) hI.1 ?_
    refine V.icmp_ge (q := 50) (tgt := 107) C dX9_judge_47 rfl rfl (fun hb47 => ?_) (fun hb47 => ?_)
    · exact absurd ((nI_leI (by omega) (by omega)).mp hb47) (by omega)
    · refine V.iload_n (q := 51) C dX9_judge_50 rfl rfl ?_
      refine V.if_lt (q := 54) (tgt := 65) C dX9_judge_51 rfl rfl (fun hb51 => ?_) (fun hb51 => ?_)
      · refine V.bipush (q := 67) (v := nI 100) C dX9_judge_65 rfl (by decide) ?_
        refine V.iload (q := 69) C dX9_judge_67 rfl rfl ?_
        refine V.iadd (q := 70) C dX9_judge_69 rfl ?_
        refine V.topi (x1 := nI (100 + k)) (nI_add _ _) ?_
        exact V.ireturn C dX9_judge_70 ⟨by rw [jdF, if_pos hb51], rfl, rfl⟩
      · obtain ⟨a, ha, rfl⟩ := nI_of hb51
        have ia := ix_k (k := a) (by omega)
        refine V.iload_n (q := 55) C dX9_judge_54 rfl rfl ?_
        refine V.aload_n (q := 56) C dX9_judge_55 rfl rfl ?_
        refine V.get (q := 59) C fl_X9_241 dX9_judge_56 rfl (okC_20 (by omega)) rfl rfl ?_
        refine V.topi (x1 := nI (c)) h2 ?_
        refine V.iload (q := 61) C dX9_judge_59 rfl rfl ?_
        refine V.isub (q := 62) C dX9_judge_61 rfl ?_
        refine V.icmp_lt (q := 65) (tgt := 71) C dX9_judge_62 rfl rfl (fun hb62 => ?_) (fun hb62 => ?_)
        · have h9 : ¬ c ≤ a + k := by have := (jl ha hc (by omega)).mp hb62; omega
          refine V.aload_n (q := 72) C dX9_judge_71 rfl rfl ?_
          refine V.get (q := 75) C fl_X9_242 dX9_judge_72 rfl (okC_20 (by omega)) rfl rfl ?_
          refine V.iload_n (q := 76) C dX9_judge_75 rfl rfl ?_
          refine V.iload (q := 78) C dX9_judge_76 rfl rfl ?_
          refine V.iadd (q := 79) C dX9_judge_78 rfl ?_
          refine V.topi (x1 := nI (a + k)) (nI_add _ _) ?_
          refine V.lld (q := 80) (i := (a + k)) C dX9_judge_79 rfl (okC_21 (by omega)) rfl rfl (by omega) (by decide) ?_
          refine V.stk (st1 := [.long (it (60 * j + (a + k)))]) (by rw [h3 _ (by omega)]) ?_
          refine V.aload_n (q := 81) C dX9_judge_80 rfl rfl ?_
          refine V.get (q := 84) C fl_X9_27 dX9_judge_81 rfl okC_0 rfl rfl ?_
          refine V.get (q := 87) C fl_X9_82 dX9_judge_84 rfl (okC_6 (by omega)) rfl rfl ?_
          refine V.iload (q := 89) C dX9_judge_87 rfl rfl ?_
          refine V.rld (q := 90) (i := k) C rfl dX9_judge_89 rfl (okC_7 (by omega)) rfl rfl (by omega) (by decide) ?_
          refine V.get (q := 93) C fl_X9_94 dX9_judge_90 rfl (okC_9 (by omega) (by omega)) rfl rfl ?_
          refine V.topi (x1 := A (9 * k + 2)) (hT.1 k (by omega) trivial 2 (by omega)) ?_
          refine V.i2l (q := 94) C dX9_judge_93 rfl rfl ?_
          refine V.lcmp (q := 95) C dX9_judge_94 rfl ?_
          refine V.if_eq (q := 98) (tgt := 101) C dX9_judge_95 rfl rfl (fun hb95 => ?_) (fun hb95 => ?_)
          · replace hb95 := (lg_cmp_eq _ _).mp hb95
            refine V.iinc (q := 104) (v := nI (k + 1)) C dX9_judge_101 rfl rfl (nI_1 _) (by decide) rfl rfl ?_
            refine V.goto (tgt := 38) C dX9_judge_104 rfl ?_
            rw [show jdF it A j c (nI a) (f + 1) k = jdF it A j c (nI a) f (k + 1) from by rw [jdF, if_neg hb51, ia, if_neg h9, if_pos hb95]]
            exact ih (k + 1) (by omega)
          · replace hb95 := fun z => hb95 ((lg_cmp_eq _ _).mpr z)
            refine V.iload (q := 100) C dX9_judge_98 rfl rfl ?_
            exact V.ireturn C dX9_judge_100 ⟨by rw [jdF, if_neg hb51, ia, if_neg h9, if_neg hb95], rfl, rfl⟩
        · have h9 : c ≤ a + k := Nat.le_of_not_lt (fun z => hb62 ((jl ha hc (by omega)).mpr z))
          refine V.bipush (q := 67) (v := nI 100) C dX9_judge_65 rfl (by decide) ?_
          refine V.iload (q := 69) C dX9_judge_67 rfl rfl ?_
          refine V.iadd (q := 70) C dX9_judge_69 rfl ?_
          refine V.topi (x1 := nI (100 + k)) (nI_add _ _) ?_
          exact V.ireturn C dX9_judge_70 ⟨by rw [jdF, if_neg hb51, ia, if_pos h9], rfl, rfl⟩
theorem c_judge {l : Launch} {g : GG} {X : PHp} {h0 : HZ} {ct : CTt} {cl : I2} {rd : RDt} {B : I2} {cy : Nat → Nat} {rw : RWt} {tl : TLt} {sp : SPt} {A : I1} {n m : Nat} (hI : CI (B 0) n m) (hT : TR TT (B 0) A n m) {t i : Int32} {so le : I1} {it : Nat → Int64} (hs : SpR sp so le it) {c : Nat} (hl : ∀ j, t = nI j → j < 6 → le j = nI c) (hc : c ≤ 60) : Ct l g yX9_judge cX9_judge 5 (some .int) 24 0 0 [rf g (0, 0, 0), .int t, .int i] NN (jn (hC g h0 ct cl rd B cy rw tl sp) X) (pI (judgeR so it A n c t i) (jn (hC g h0 ct cl rd B cy rw tl sp) X)) := by
  refine Ct.of (lv := [some (rf g (0, 0, 0)), some (.int t), some (.int i), none, none]) (by decide +kernel) rfl (Nat.le_of_ble_eq_true rfl) ?_
  intro Γ C
  refine V.iload_n (q := 1) C dX9_judge_0 rfl rfl ?_
  refine V.iconst (q := 2) (v := nI 5) C dX9_judge_1 rfl (by decide) ?_
  refine V.callSi (q := 5) C me_X9_isOut c_isOut ml_X9_70 dX9_judge_2 rfl rfl rfl (Nat.le_of_ble_eq_true rfl) (by omega) (Nat.zero_le _) (Nat.zero_le _) ?_
  refine V.if_eqB (q := 8) (tgt := 10) C dX9_judge_5 rfl rfl (fun hb5 => ?_) (fun hb5 => ?_)
  · replace hb5 := t5.mp (Decidable.not_not.mp hb5)
    have t9 := hb5
    obtain ⟨j, hj, rfl⟩ := InN_nat (by omega) hb5
    have ij := ix_k (k := j) (by omega)
    obtain ⟨e1, e2, e3, e4, -, e6⟩ := hs j hj
    have hlj := hl j rfl hj
    refine V.aload_n (q := 11) C dX9_judge_10 rfl rfl ?_
    refine V.get (q := 14) C fl_X9_56 dX9_judge_11 rfl okC_0 rfl rfl ?_
    refine V.iload_n (q := 15) C dX9_judge_14 rfl rfl ?_
    refine V.rld (q := 16) (i := j) C rfl dX9_judge_15 rfl okC_19 rfl rfl (by omega) (by decide) ?_
    refine V.astore_n (q := 17) C dX9_judge_16 rfl (by decide) rfl rfl ?_
    refine V.aload_n (q := 18) C dX9_judge_17 rfl rfl ?_
    refine V.get (q := 21) C fl_X9_239 dX9_judge_18 rfl (okC_20 (by omega)) rfl rfl ?_
    refine V.if_eq (q := 24) (tgt := 35) C dX9_judge_21 rfl rfl (fun hb21 => ?_) (fun hb21 => ?_)
    · have h0 : so j ≤ 0 := by rw [← e1, hb21]; decide
      refine V.iconst (q := 36) (v := nI 0) C dX9_judge_35 rfl (by decide) ?_
      refine V.istore (q := 38) C dX9_judge_36 rfl (by decide) rfl rfl ?_
      rw [judgeR, if_pos t9, ij, if_pos h0]
      exact c_judge_l (so := so) (le := le) hT hI hj (e2.trans hlj) hc e3 C n 0 (by omega)
    · refine V.aload_n (q := 25) C dX9_judge_24 rfl rfl ?_
      refine V.get (q := 28) C fl_X9_239 dX9_judge_25 rfl (okC_20 (by omega)) rfl rfl ?_
      refine V.iconst (q := 29) (v := -1) C dX9_judge_28 rfl (by decide) ?_
      refine V.icmp_eq (q := 32) (tgt := 35) C dX9_judge_29 rfl rfl (fun hb29 => ?_) (fun hb29 => ?_)
      · have h0 : so j ≤ 0 := by rw [← e1, hb29]; decide
        refine V.iconst (q := 36) (v := nI 0) C dX9_judge_35 rfl (by decide) ?_
        refine V.istore (q := 38) C dX9_judge_36 rfl (by decide) rfl rfl ?_
        rw [judgeR, if_pos t9, ij, if_pos h0]
        exact c_judge_l (so := so) (le := le) hT hI hj (e2.trans hlj) hc e3 C n 0 (by omega)
      · have h0 : ¬ so j ≤ 0 := by
          rcases e4 with e | ⟨k, hk, e⟩
          · exact absurd (e1.trans e) hb29
          · rw [e]
            intro z
            have : k = 0 := by
              have h9 := (nI_leI (a := k) (b := 0) (by omega) (by omega)).mp z
              omega
            subst this
            exact hb21 (e1.trans e)
        refine V.bipush (q := 34) (v := -12) C dX9_judge_32 rfl (by decide) ?_
        exact V.ireturn C dX9_judge_34 ⟨by rw [judgeR, if_pos t9, ij, if_neg h0], rfl, rfl⟩
  · have t9 := fun z => hb5 (t5.mpr z)
    refine V.iconst (q := 9) (v := -1) C dX9_judge_8 rfl (by decide) ?_
    exact V.ireturn C dX9_judge_9 ⟨by rw [judgeR, if_neg t9], rfl, rfl⟩
def shS (sp : SPt) (t i o j n : Int32) : SPt := if inN t 6 then (if inN o 6 then (if sp.2.1 (ix t) < 0 then sp else if 0 ≤ sp.2.1 (ix o) then (if sp.2.1 (ix t) = sp.2.1 (ix o) then (if n < 0 then sp else if i < 0 then sp else if j < 0 then sp else if sp.2.2 (ix t) - i < n then sp else if n ≤ sp.2.2 (ix o) - j then (va_up sp.1 (ix o) (va_cpy (sp.1 (ix t)) (sp.1 (ix o)) (ix i) (ix j) (ix n)), sp.2.1, sp.2.2) else sp) else sp) else sp) else sp) else sp
theorem hol {c f n : Int32} {k : Nat} (hc : c = nI k) (hk : k ≤ 60) (hf : ¬ f < 0) (hn : ¬ n < 0) : ((¬ c < n ∧ ¬ c - n < f) ↔ n ≤ c - f) ∧ ((¬ c < n ∧ ¬ c - n < f) ↔ ¬ c - f < n) := by
  subst hc
  obtain ⟨a, ha, rfl⟩ := nI_of hf
  obtain ⟨b, hb, rfl⟩ := nI_of hn
  have e1 := sub_toInt (c := k) (a := a) (by omega) ha
  have e2 := sub_toInt (c := k) (a := b) (by omega) hb
  have e3 := nI_toInt (n := k) (by omega)
  have e4 := nI_toInt ha
  have e5 := nI_toInt hb
  constructor
  · rw [Int32.lt_iff_toInt_lt, Int32.lt_iff_toInt_lt, Int32.le_iff_toInt_le]
    omega
  · rw [Int32.lt_iff_toInt_lt, Int32.lt_iff_toInt_lt, Int32.lt_iff_toInt_lt]
    omega
theorem neg1 {s : Int32} (h : s = -1 ∨ ∃ k, k < 5 ∧ s = nI k) : (s < 0 ↔ s = -1) ∧ (0 ≤ s ↔ ¬ s = -1) := by
  rcases h with rfl | ⟨k, hk, rfl⟩
  · exact ⟨⟨fun _ => rfl, fun _ => by decide⟩, ⟨fun h => absurd h (by decide), fun h => absurd rfl h⟩⟩
  · exact ⟨⟨fun h => absurd h (nI_pos (by omega)), fun h => absurd h (nI_m1 (by omega))⟩, ⟨fun _ => nI_m1 (by omega), fun _ => nI_pos' (by omega)⟩⟩
theorem c_shift {l : Launch} {g : GG} {X : PHp} {h0 : HZ} {ct : CTt} {cl : I2} {rd : RDt} {B : I2} {cy : Nat → Nat} {rw : RWt} {tl : TLt} {sp : SPt} {t i o j n : Int32} {so le : I1} {it : Nat → Int64} (hs : SpR sp so le it) : Ct l g yX9_shift cX9_shift 8 (some .int) 24 0 0 [rf g (0, 0, 0), .int t, .int i, .int o, .int j, .int n] NN (jn (hC g h0 ct cl rd B cy rw tl sp) X) (pI (shR so le t i o j n) (jn (hC g h0 ct cl rd B cy rw tl (shS sp t i o j n)) X)) := by
  refine Ct.of (lv := [some (rf g (0, 0, 0)), some (.int t), some (.int i), some (.int o), some (.int j), some (.int n), none, none]) (by decide +kernel) rfl (Nat.le_of_ble_eq_true rfl) ?_
  intro Γ C
  refine V.iload_n (q := 1) C dX9_shift_0 rfl rfl ?_
  refine V.iconst (q := 2) (v := nI 5) C dX9_shift_1 rfl (by decide) ?_
  refine V.callSi (q := 5) C me_X9_isOut c_isOut ml_X9_70 dX9_shift_2 rfl rfl rfl (Nat.le_of_ble_eq_true rfl) (by omega) (Nat.zero_le _) (Nat.zero_le _) ?_
  refine V.if_neB (q := 8) (tgt := 16) C dX9_shift_5 rfl rfl (fun hb5 => ?_) (fun hb5 => ?_)
  · have t9 := fun z => hb5 (t5.mpr z)
    refine V.iconst (q := 17) (v := -1) C dX9_shift_16 rfl (by decide) ?_
    exact V.ireturn C dX9_shift_17 ⟨by rw [shR, if_neg t9], by rw [shS, if_neg t9], rfl⟩
  · replace hb5 := t5.mp (Decidable.not_not.mp hb5)
    have t9 := hb5
    obtain ⟨t1, ht1, rfl⟩ := InN_nat (by omega) hb5
    have it9 := ix_k (k := t1) (by omega)
    obtain ⟨e1, e2, e3, e4, e5, -⟩ := hs t1 ht1
    refine V.iload_n (q := 9) C dX9_shift_8 rfl rfl ?_
    refine V.iconst (q := 10) (v := nI 5) C dX9_shift_9 rfl (by decide) ?_
    refine V.callSi (q := 13) C me_X9_isOut c_isOut ml_X9_70 dX9_shift_10 rfl rfl rfl (Nat.le_of_ble_eq_true rfl) (by omega) (Nat.zero_le _) (Nat.zero_le _) ?_
    refine V.if_eqB (q := 16) (tgt := 18) C dX9_shift_13 rfl rfl (fun hb13 => ?_) (fun hb13 => ?_)
    · replace hb13 := t5.mp (Decidable.not_not.mp hb13)
      have o9 := hb13
      obtain ⟨o1, ho1, rfl⟩ := InN_nat (by omega) hb13
      have io9 := ix_k (k := o1) (by omega)
      obtain ⟨f1, f2, f3, f4, f5, -⟩ := hs o1 ho1
      refine V.aload_n (q := 19) C dX9_shift_18 rfl rfl ?_
      refine V.get (q := 22) C fl_X9_56 dX9_shift_19 rfl okC_0 rfl rfl ?_
      refine V.iload_n (q := 23) C dX9_shift_22 rfl rfl ?_
      refine V.rld (q := 24) (i := t1) C rfl dX9_shift_23 rfl okC_19 rfl rfl (by omega) (by decide) ?_
      refine V.astore (q := 26) C dX9_shift_24 rfl (by decide) rfl rfl ?_
      refine V.aload_n (q := 27) C dX9_shift_26 rfl rfl ?_
      refine V.get (q := 30) C fl_X9_56 dX9_shift_27 rfl okC_0 rfl rfl ?_
      refine V.iload_n (q := 31) C dX9_shift_30 rfl rfl ?_
      refine V.rld (q := 32) (i := o1) C rfl dX9_shift_31 rfl okC_19 rfl rfl (by omega) (by decide) ?_
      refine V.astore (q := 34) C dX9_shift_32 rfl (by decide) rfl rfl ?_
      refine V.aload (q := 36) C dX9_shift_34 rfl rfl ?_
      refine V.get (q := 39) C fl_X9_239 dX9_shift_36 rfl (okC_20 (by omega)) rfl rfl ?_
      refine V.iconst (q := 40) (v := -1) C dX9_shift_39 rfl (by decide) ?_
      refine V.icmp_eq (q := 43) (tgt := 52) C dX9_shift_40 rfl rfl (fun hb40 => ?_) (fun hb40 => ?_)
      · refine V.bipush (q := 54) (v := -11) C dX9_shift_52 rfl (by decide) ?_
        exact V.ireturn C dX9_shift_54 ⟨by rw [shR, if_pos t9, if_pos o9, it9, if_pos ((neg1 e4).1.mpr (e1.symm.trans hb40))], by rw [shS, if_pos t9, if_pos o9, it9, e1, if_pos ((neg1 e4).1.mpr (e1.symm.trans hb40))], rfl⟩
      · refine V.aload (q := 45) C dX9_shift_43 rfl rfl ?_
        refine V.get (q := 48) C fl_X9_239 dX9_shift_45 rfl (okC_20 (by omega)) rfl rfl ?_
        refine V.iconst (q := 49) (v := -1) C dX9_shift_48 rfl (by decide) ?_
        refine V.icmp_ne (q := 52) (tgt := 55) C dX9_shift_49 rfl rfl (fun hb49 => ?_) (fun hb49 => ?_)
        · refine V.aload (q := 57) C dX9_shift_55 rfl rfl ?_
          refine V.get (q := 60) C fl_X9_239 dX9_shift_57 rfl (okC_20 (by omega)) rfl rfl ?_
          refine V.aload (q := 62) C dX9_shift_60 rfl rfl ?_
          refine V.get (q := 65) C fl_X9_239 dX9_shift_62 rfl (okC_20 (by omega)) rfl rfl ?_
          refine V.icmp_eq (q := 68) (tgt := 71) C dX9_shift_65 rfl rfl (fun hb65 => ?_) (fun hb65 => ?_)
          · have hs9 : so t1 = so o1 := by rw [← e1, ← f1]; exact hb65
            refine V.aload (q := 73) C dX9_shift_71 rfl rfl ?_
            refine V.iload_n (q := 74) C dX9_shift_73 rfl rfl ?_
            refine V.iload (q := 76) C dX9_shift_74 rfl rfl ?_
            refine V.callVi (q := 79) C me_X5_holds (c_holds (by omega)) ml_X9_277 dX9_shift_76 rfl (okC_20 (by omega)) ⟨_, rfl⟩ rfl rfl (Nat.le_of_ble_eq_true rfl) (by omega) (Nat.zero_le _) (Nat.zero_le _) ?_
            refine V.if_eqB (q := 82) (tgt := 94) C dX9_shift_79 rfl rfl (fun hb79 => ?_) (fun hb79 => ?_)
            · have hbad : (if n < 0 then (-13 : Int32) else if i < 0 then -13 else if j < 0 then -13 else if le t1 - i < n then -13 else if n ≤ le o1 - j then n else -13) = -13 ∧ ∀ (x9 y9 : SPt), (if n < 0 then x9 else if i < 0 then x9 else if j < 0 then x9 else if le t1 - i < n then x9 else if n ≤ le o1 - j then y9 else x9) = x9 := by
                have hno : ¬ n < 0 → ¬ i < 0 → ¬ j < 0 → ¬ le t1 - i < n → ¬ n ≤ le o1 - j := by
                  intro q1 q2 q3 q4 q5
                  obtain ⟨c1, hc1, d1⟩ := e5
                  obtain ⟨c2, hc2, d2⟩ := f5
                  exact hb79 ⟨q2, q1, by rw [e2]; exact ((hol d1 hc1 q2 q1).2.mpr q4).1, by rw [e2]; exact ((hol d1 hc1 q2 q1).2.mpr q4).2⟩
                by_cases q1 : n < 0
                · exact ⟨by rw [if_pos q1], fun _ _ => by rw [if_pos q1]⟩
                by_cases q2 : i < 0
                · exact ⟨by rw [if_neg q1, if_pos q2], fun _ _ => by rw [if_neg q1, if_pos q2]⟩
                by_cases q3 : j < 0
                · exact ⟨by rw [if_neg q1, if_neg q2, if_pos q3], fun _ _ => by rw [if_neg q1, if_neg q2, if_pos q3]⟩
                by_cases q4 : le t1 - i < n
                · exact ⟨by rw [if_neg q1, if_neg q2, if_neg q3, if_pos q4], fun _ _ => by rw [if_neg q1, if_neg q2, if_neg q3, if_pos q4]⟩
                · exact ⟨by rw [if_neg q1, if_neg q2, if_neg q3, if_neg q4, if_neg (hno q1 q2 q3 q4)], fun _ _ => by rw [if_neg q1, if_neg q2, if_neg q3, if_neg q4, if_neg (hno q1 q2 q3 q4)]⟩
              refine V.bipush (q := 96) (v := -13) C dX9_shift_94 rfl (by decide) ?_
              exact V.ireturn C dX9_shift_96 ⟨by rw [shR, if_pos t9, if_pos o9, it9, io9, if_neg (fun z => hb40 (e1.trans ((neg1 e4).1.mp z))), if_pos ((neg1 f4).2.mpr (fun z => hb49 (f1.trans z))), if_pos hs9, hbad.1], by rw [shS, if_pos t9, if_pos o9, it9, io9, e1, f1, if_neg (fun z => hb40 (e1.trans ((neg1 e4).1.mp z))), if_pos ((neg1 f4).2.mpr (fun z => hb49 (f1.trans z))), if_pos hs9, e2, f2, hbad.2], rfl⟩
            · refine V.aload (q := 84) C dX9_shift_82 rfl rfl ?_
              refine V.iload (q := 86) C dX9_shift_84 rfl rfl ?_
              refine V.iload (q := 88) C dX9_shift_86 rfl rfl ?_
              refine V.callVi (q := 91) C me_X5_holds (c_holds (by omega)) ml_X9_277 dX9_shift_88 rfl (okC_20 (by omega)) ⟨_, rfl⟩ rfl rfl (Nat.le_of_ble_eq_true rfl) (by omega) (Nat.zero_le _) (Nat.zero_le _) ?_
              refine V.if_neB (q := 94) (tgt := 97) C dX9_shift_91 rfl rfl (fun hb91 => ?_) (fun hb91 => ?_)
              · obtain ⟨hi0, hn0, g1, g2⟩ := hb79
                obtain ⟨hj0, -, g3, g4⟩ := hb91
                obtain ⟨c1, hc1, d1⟩ := e5
                obtain ⟨c2, hc2, d2⟩ := f5
                rw [e2] at g1 g2
                rw [f2] at g3 g4
                have hL1 := (hol d1 hc1 hi0 hn0).2.mp ⟨g1, g2⟩
                have hL2 := (hol d2 hc2 hj0 hn0).1.mp ⟨g3, g4⟩
                obtain ⟨i1, hiN, rfl⟩ := nI_of hi0
                obtain ⟨j1, hjN, rfl⟩ := nI_of hj0
                obtain ⟨n1, hnN, rfl⟩ := nI_of hn0
                have b1 : i1 + n1 ≤ c1 := sub_nlt (by omega) hiN hnN (by rw [d1] at hL1; exact hL1)
                have b2 : j1 + n1 ≤ c2 := sub_kle (by omega) hjN hnN (by rw [d2] at hL2; exact hL2)
                refine V.aload (q := 99) C dX9_shift_97 rfl rfl ?_
                refine V.get (q := 102) C fl_X9_242 dX9_shift_99 rfl (okC_20 (by omega)) rfl rfl ?_
                refine V.iload_n (q := 103) C dX9_shift_102 rfl rfl ?_
                refine V.aload (q := 105) C dX9_shift_103 rfl rfl ?_
                refine V.get (q := 108) C fl_X9_242 dX9_shift_105 rfl (okC_20 (by omega)) rfl rfl ?_
                refine V.iload (q := 110) C dX9_shift_108 rfl rfl ?_
                refine V.iload (q := 112) C dX9_shift_110 rfl rfl ?_
                refine V.copyL (q := 115) (sp := i1) (dp := j1) (k := n1) C dX9_shift_112 (tb_at 764 (by decide +kernel) rfl) rfl (okC_21 (by omega)) (okC_21 (by omega)) rfl rfl rfl rfl rfl (by omega) (by omega) (by omega) rfl ?_
                refine V.phE uC_21 ?_
                refine V.iload (q := 117) C dX9_shift_115 rfl rfl ?_
                exact V.ireturn C dX9_shift_117 ⟨by rw [shR, if_pos t9, if_pos o9, it9, io9, if_neg (fun z => hb40 (e1.trans ((neg1 e4).1.mp z))), if_pos ((neg1 f4).2.mpr (fun z => hb49 (f1.trans z))), if_pos hs9, if_neg hn0, if_neg hi0, if_neg hj0, if_neg hL1, if_pos hL2], by rw [shS, if_pos t9, if_pos o9, it9, io9, e1, f1, if_neg (fun z => hb40 (e1.trans ((neg1 e4).1.mp z))), if_pos ((neg1 f4).2.mpr (fun z => hb49 (f1.trans z))), if_pos hs9, e2, f2, if_neg hn0, if_neg hi0, if_neg hj0, if_neg hL1, if_pos hL2, ix_k hiN, ix_k hjN, ix_k hnN] <;> rfl, rfl⟩
              · have hbad : (if n < 0 then (-13 : Int32) else if i < 0 then -13 else if j < 0 then -13 else if le t1 - i < n then -13 else if n ≤ le o1 - j then n else -13) = -13 ∧ ∀ (x9 y9 : SPt), (if n < 0 then x9 else if i < 0 then x9 else if j < 0 then x9 else if le t1 - i < n then x9 else if n ≤ le o1 - j then y9 else x9) = x9 := by
                  have hno : ¬ n < 0 → ¬ i < 0 → ¬ j < 0 → ¬ le t1 - i < n → ¬ n ≤ le o1 - j := by
                    intro q1 q2 q3 q4 q5
                    obtain ⟨c1, hc1, d1⟩ := e5
                    obtain ⟨c2, hc2, d2⟩ := f5
                    exact hb91 ⟨q3, q1, by rw [f2]; exact ((hol d2 hc2 q3 q1).1.mpr q5).1, by rw [f2]; exact ((hol d2 hc2 q3 q1).1.mpr q5).2⟩
                  by_cases q1 : n < 0
                  · exact ⟨by rw [if_pos q1], fun _ _ => by rw [if_pos q1]⟩
                  by_cases q2 : i < 0
                  · exact ⟨by rw [if_neg q1, if_pos q2], fun _ _ => by rw [if_neg q1, if_pos q2]⟩
                  by_cases q3 : j < 0
                  · exact ⟨by rw [if_neg q1, if_neg q2, if_pos q3], fun _ _ => by rw [if_neg q1, if_neg q2, if_pos q3]⟩
                  by_cases q4 : le t1 - i < n
                  · exact ⟨by rw [if_neg q1, if_neg q2, if_neg q3, if_pos q4], fun _ _ => by rw [if_neg q1, if_neg q2, if_neg q3, if_pos q4]⟩
                  · exact ⟨by rw [if_neg q1, if_neg q2, if_neg q3, if_neg q4, if_neg (hno q1 q2 q3 q4)], fun _ _ => by rw [if_neg q1, if_neg q2, if_neg q3, if_neg q4, if_neg (hno q1 q2 q3 q4)]⟩
                refine V.bipush (q := 96) (v := -13) C dX9_shift_94 rfl (by decide) ?_
                exact V.ireturn C dX9_shift_96 ⟨by rw [shR, if_pos t9, if_pos o9, it9, io9, if_neg (fun z => hb40 (e1.trans ((neg1 e4).1.mp z))), if_pos ((neg1 f4).2.mpr (fun z => hb49 (f1.trans z))), if_pos hs9, hbad.1], by rw [shS, if_pos t9, if_pos o9, it9, io9, e1, f1, if_neg (fun z => hb40 (e1.trans ((neg1 e4).1.mp z))), if_pos ((neg1 f4).2.mpr (fun z => hb49 (f1.trans z))), if_pos hs9, e2, f2, hbad.2], rfl⟩
          · have hs9 : ¬ so t1 = so o1 := by rw [← e1, ← f1]; exact hb65
            refine V.bipush (q := 70) (v := -12) C dX9_shift_68 rfl (by decide) ?_
            exact V.ireturn C dX9_shift_70 ⟨by rw [shR, if_pos t9, if_pos o9, it9, io9, if_neg (fun z => hb40 (e1.trans ((neg1 e4).1.mp z))), if_pos ((neg1 f4).2.mpr (fun z => hb49 (f1.trans z))), if_neg hs9], by rw [shS, if_pos t9, if_pos o9, it9, io9, e1, f1, if_neg (fun z => hb40 (e1.trans ((neg1 e4).1.mp z))), if_pos ((neg1 f4).2.mpr (fun z => hb49 (f1.trans z))), if_neg hs9], rfl⟩
        · refine V.bipush (q := 54) (v := -11) C dX9_shift_52 rfl (by decide) ?_
          exact V.ireturn C dX9_shift_54 ⟨by rw [shR, if_pos t9, if_pos o9, it9, io9, if_neg (fun z => hb40 (e1.trans ((neg1 e4).1.mp z))), if_neg (fun z => (neg1 f4).2.mp z (f1.symm.trans hb49))], by rw [shS, if_pos t9, if_pos o9, it9, io9, e1, f1, if_neg (fun z => hb40 (e1.trans ((neg1 e4).1.mp z))), if_neg (fun z => (neg1 f4).2.mp z (f1.symm.trans hb49))], rfl⟩
    · have o9 := fun z => hb13 (t5.mpr z)
      refine V.iconst (q := 17) (v := -1) C dX9_shift_16 rfl (by decide) ?_
      exact V.ireturn C dX9_shift_17 ⟨by rw [shR, if_pos t9, if_neg o9], by rw [shS, if_pos t9, if_neg o9], rfl⟩
