/-- a row of three comes to the list at L with c rows -/
def comesR (c : Nat) : Int32 := if c = 5 then -4 else nI (c + 1)
def comesA (A : I1) (L c : Nat) (a b d : Int32) : I1 := if c = 5 then A else upd (upd (upd (upd A (L + 1 + 3 * c) a) (L + 1 + 3 * c + 1) b) (L + 1 + 3 * c + 2) d) L (nI (c + 1))
theorem m_comes {l : Launch} {g : GG} {X : PHp} {now mind : I1} {th : I1 × Int32} {tx : TXt} {z : Zt} {tr : I1 × Int32} {tp : TPt} {L c : Nat} {a b d : Int32} (hL : L + 15 < 152) (hc : now L = nI c) (hc5 : c ≤ 5) : Ct l g yX10_comes cX10_comes 6 (some .int) 2 0 0 [rf g (22, 0, 0), .int (nI L), .int a, .int b, .int d] NN (jn X (hM g now mind th tx z tr tp)) (pI (comesR c) (jn X (hM g (comesA now L c a b d) mind th tx z tr tp))) := by
  refine Ct.of (lv := [some (rf g (22, 0, 0)), some (.int (nI L)), some (.int a), some (.int b), some (.int d), none]) (by decide +kernel) rfl (Nat.le_of_ble_eq_true rfl) ?_
  intro Γ C
  refine V.aload_n (q := 1) C dX10_comes_0 rfl rfl ?_
  refine V.get (q := 4) C fl_X10_9 dX10_comes_1 rfl okM rfl rfl ?_
  refine V.iload_n (q := 5) C dX10_comes_4 rfl rfl ?_
  refine V.ild (q := 6) (i := L) C dX10_comes_5 rfl okM_0 rfl rfl (by omega) (by decide) ?_
  refine V.topi (x1 := nI (c)) hc ?_
  refine V.iconst (q := 7) (v := nI 5) C dX10_comes_6 rfl (by decide) ?_
  refine V.icmp_ne (q := 10) (tgt := 13) C dX10_comes_7 rfl rfl (fun hb7 => ?_) (fun hb7 => ?_)
  · have hb7 : ¬ c = 5 := fun e => hb7 (by rw [e])
    refine V.iload_n (q := 14) C dX10_comes_13 rfl rfl ?_
    refine V.iconst (q := 15) (v := nI 1) C dX10_comes_14 rfl (by decide) ?_
    refine V.iadd (q := 16) C dX10_comes_15 rfl ?_
    refine V.topi (x1 := nI (L + 1)) (nI_add _ _) ?_
    refine V.iconst (q := 17) (v := nI 3) C dX10_comes_16 rfl (by decide) ?_
    refine V.aload_n (q := 18) C dX10_comes_17 rfl rfl ?_
    refine V.get (q := 21) C fl_X10_9 dX10_comes_18 rfl okM rfl rfl ?_
    refine V.iload_n (q := 22) C dX10_comes_21 rfl rfl ?_
    refine V.ild (q := 23) (i := L) C dX10_comes_22 rfl okM_0 rfl rfl (by omega) (by decide) ?_
    refine V.topi (x1 := nI (c)) hc ?_
    refine V.imul (q := 24) C dX10_comes_23 rfl ?_
    refine V.topi (x1 := nI (3 * (c))) (pk_mul _ _) ?_
    refine V.iadd (q := 25) C dX10_comes_24 rfl ?_
    refine V.topi (x1 := nI ((L + 1) + (3 * (c)))) (nI_add _ _) ?_
    refine V.istore (q := 27) C dX10_comes_25 rfl (by decide) rfl rfl ?_
    refine V.aload_n (q := 28) C dX10_comes_27 rfl rfl ?_
    refine V.get (q := 31) C fl_X10_9 dX10_comes_28 rfl okM rfl rfl ?_
    refine V.iload (q := 33) C dX10_comes_31 rfl rfl ?_
    refine V.iload_n (q := 34) C dX10_comes_33 rfl rfl ?_
    refine V.ist (q := 35) (i := ((L + 1) + (3 * (c)))) C dX10_comes_34 rfl okM_0 rfl rfl (by omega) (by decide) uM_now ?_
    refine V.aload_n (q := 36) C dX10_comes_35 rfl rfl ?_
    refine V.get (q := 39) C fl_X10_9 dX10_comes_36 rfl okM rfl rfl ?_
    refine V.iload (q := 41) C dX10_comes_39 rfl rfl ?_
    refine V.iconst (q := 42) (v := nI 1) C dX10_comes_41 rfl (by decide) ?_
    refine V.iadd (q := 43) C dX10_comes_42 rfl ?_
    refine V.topi (x1 := nI (((L + 1) + (3 * (c))) + 1)) (nI_add _ _) ?_
    refine V.iload_n (q := 44) C dX10_comes_43 rfl rfl ?_
    refine V.ist (q := 45) (i := (((L + 1) + (3 * (c))) + 1)) C dX10_comes_44 rfl okM_0 rfl rfl (by omega) (by decide) uM_now ?_
    refine V.aload_n (q := 46) C dX10_comes_45 rfl rfl ?_
    refine V.get (q := 49) C fl_X10_9 dX10_comes_46 rfl okM rfl rfl ?_
    refine V.iload (q := 51) C dX10_comes_49 rfl rfl ?_
    refine V.iconst (q := 52) (v := nI 2) C dX10_comes_51 rfl (by decide) ?_
    refine V.iadd (q := 53) C dX10_comes_52 rfl ?_
    refine V.topi (x1 := nI (((L + 1) + (3 * (c))) + 2)) (nI_add _ _) ?_
    refine V.iload (q := 55) C dX10_comes_53 rfl rfl ?_
    refine V.ist (q := 56) (i := (((L + 1) + (3 * (c))) + 2)) C dX10_comes_55 rfl okM_0 rfl rfl (by omega) (by decide) uM_now ?_
    refine V.aload_n (q := 57) C dX10_comes_56 rfl rfl ?_
    refine V.get (q := 60) C fl_X10_9 dX10_comes_57 rfl okM rfl rfl ?_
    refine V.iload_n (q := 61) C dX10_comes_60 rfl rfl ?_
    refine V.dup2 (q := 62) C dX10_comes_61 rfl rfl rfl ?_
    refine V.ild (q := 63) (i := L) C dX10_comes_62 rfl okM_0 rfl rfl (by omega) (by decide) ?_
    refine V.topi (x1 := nI (c)) (show (upd (upd (upd now (L + 1 + 3 * c) a) (L + 1 + 3 * c + 1) b) (L + 1 + 3 * c + 2) d) L = nI c by simp only [upd]; rw [if_neg (by omega), if_neg (by omega), if_neg (by omega)]; exact hc) ?_
    refine V.iconst (q := 64) (v := nI 1) C dX10_comes_63 rfl (by decide) ?_
    refine V.iadd (q := 65) C dX10_comes_64 rfl ?_
    refine V.topi (x1 := nI ((c) + 1)) (nI_add _ _) ?_
    refine V.ist (q := 66) (i := L) C dX10_comes_65 rfl okM_0 rfl rfl (by omega) (by decide) uM_now ?_
    refine V.aload_n (q := 67) C dX10_comes_66 rfl rfl ?_
    refine V.get (q := 70) C fl_X10_9 dX10_comes_67 rfl okM rfl rfl ?_
    refine V.iload_n (q := 71) C dX10_comes_70 rfl rfl ?_
    refine V.ild (q := 72) (i := L) C dX10_comes_71 rfl okM_0 rfl rfl (by omega) (by decide) ?_
    refine V.topi (x1 := nI ((c + 1))) (if_pos rfl) ?_
    exact V.ireturn C dX10_comes_72 ⟨by simp only [comesR, hb7, Bool.false_eq_true, ↓reduceIte], by simp only [comesA, hb7, Bool.false_eq_true, ↓reduceIte], rfl⟩
  · have hb7 : c = 5 := (nI_eq (by omega) (by omega)).mp hb7
    refine V.bipush (q := 12) (v := -4) C dX10_comes_10 rfl (by decide) ?_
    exact V.ireturn C dX10_comes_12 ⟨by simp only [comesR, hb7, Bool.false_eq_true, ↓reduceIte], by simp only [comesA, hb7, Bool.false_eq_true, ↓reduceIte], rfl⟩
def seeR (n c : Nat) (p d v : Int32) : Int32 := if p = -1 then nI 0 else if inN p n then (if inR d (nI 0) (nI 12) then (if inR v (nI 0) (nI 99) then comesR c else -2) else -2) else -1
def seeA (A : I1) (n c : Nat) (p d v : Int32) : I1 := if p = -1 then upd A 82 (nI 0) else if inN p n then (if inR d (nI 0) (nI 12) then (if inR v (nI 0) (nI 99) then comesA A 82 c p d v else A) else A) else A
theorem m_see {l : Launch} {g : GG} {X : PHp} {now mind : I1} {th : I1 × Int32} {tx : TXt} {z : Zt} {tr : I1 × Int32} {tp : TPt} {n : Nat} (hn : now 78 = nI n) (hn6 : n ≤ 6) {c : Nat} (hc : now 82 = nI c) (hc5 : c ≤ 5) {p d v : Int32} : Ct l g yX10_see cX10_see 4 (some .int) 3 0 0 [rf g (22, 0, 0), .int p, .int d, .int v] NN (jn X (hM g now mind th tx z tr tp)) (pI (seeR n c p d v) (jn X (hM g (seeA now n c p d v) mind th tx z tr tp))) := by
  refine Ct.of (lv := [some (rf g (22, 0, 0)), some (.int p), some (.int d), some (.int v)]) (by decide +kernel) rfl (Nat.le_of_ble_eq_true rfl) ?_
  intro Γ C
  refine V.iload_n (q := 1) C dX10_see_0 rfl rfl ?_
  refine V.iconst (q := 2) (v := -1) C dX10_see_1 rfl (by decide) ?_
  refine V.icmp_ne (q := 5) (tgt := 15) C dX10_see_2 rfl rfl (fun hb2 => ?_) (fun hb2 => ?_)
  · refine V.aload_n (q := 16) C dX10_see_15 rfl rfl ?_
    refine V.iload_n (q := 17) C dX10_see_16 rfl rfl ?_
    refine V.callVi (q := 20) C me_X10_isOne (m_isOne hn (by omega)) ml_X10_97 dX10_see_17 rfl okM ⟨_, rfl⟩ rfl rfl (Nat.le_of_ble_eq_true rfl) (by omega) (Nat.zero_le _) (Nat.zero_le _) ?_
    refine V.if_neB (q := 23) (tgt := 25) C dX10_see_20 rfl rfl (fun hb20 => ?_) (fun hb20 => ?_)
    · refine V.iload_n (q := 26) C dX10_see_25 rfl rfl ?_
      refine V.iconst (q := 27) (v := nI 0) C dX10_see_26 rfl (by decide) ?_
      refine V.bipush (q := 29) (v := nI 12) C dX10_see_27 rfl (by decide) ?_
      refine V.callSi (q := 32) C me_X10_isIn m_isIn ml_X10_82 dX10_see_29 rfl rfl rfl (Nat.le_of_ble_eq_true rfl) (by omega) (Nat.zero_le _) (Nat.zero_le _) ?_
      refine V.if_eqB (q := 35) (tgt := 57) C dX10_see_32 rfl rfl (fun hb32 => ?_) (fun hb32 => ?_)
      · refine V.bipush (q := 59) (v := -2) C dX10_see_57 rfl (by decide) ?_
        exact V.ireturn C dX10_see_59 ⟨by simp only [seeR, hb2, hb20, hb32, Bool.false_eq_true, ↓reduceIte], by simp only [seeA, hb2, hb20, hb32, Bool.false_eq_true, ↓reduceIte], rfl⟩
      · refine V.iload_n (q := 36) C dX10_see_35 rfl rfl ?_
        refine V.iconst (q := 37) (v := nI 0) C dX10_see_36 rfl (by decide) ?_
        refine V.bipush (q := 39) (v := nI 99) C dX10_see_37 rfl (by decide) ?_
        refine V.callSi (q := 42) C me_X10_isIn m_isIn ml_X10_82 dX10_see_39 rfl rfl rfl (Nat.le_of_ble_eq_true rfl) (by omega) (Nat.zero_le _) (Nat.zero_le _) ?_
        refine V.if_eqB (q := 45) (tgt := 57) C dX10_see_42 rfl rfl (fun hb42 => ?_) (fun hb42 => ?_)
        · refine V.bipush (q := 59) (v := -2) C dX10_see_57 rfl (by decide) ?_
          exact V.ireturn C dX10_see_59 ⟨by simp only [seeR, hb2, hb20, hb32, hb42, Bool.false_eq_true, ↓reduceIte], by simp only [seeA, hb2, hb20, hb32, hb42, Bool.false_eq_true, ↓reduceIte], rfl⟩
        · refine V.aload_n (q := 46) C dX10_see_45 rfl rfl ?_
          refine V.bipush (q := 48) (v := nI 82) C dX10_see_46 rfl (by decide) ?_
          refine V.iload_n (q := 49) C dX10_see_48 rfl rfl ?_
          refine V.iload_n (q := 50) C dX10_see_49 rfl rfl ?_
          refine V.iload_n (q := 51) C dX10_see_50 rfl rfl ?_
          refine V.callVi (q := 54) C me_X10_comes (m_comes (by omega) hc (by omega)) ml_X10_229 dX10_see_51 rfl okM ⟨_, rfl⟩ rfl rfl (Nat.le_of_ble_eq_true rfl) (by omega) (Nat.zero_le _) (Nat.zero_le _) ?_
          refine V.goto (tgt := 59) C dX10_see_54 rfl ?_
          exact V.ireturn C dX10_see_59 ⟨by simp only [seeR, hb2, hb20, hb32, hb42, Bool.false_eq_true, ↓reduceIte], by simp only [seeA, hb2, hb20, hb32, hb42, Bool.false_eq_true, ↓reduceIte], rfl⟩
    · refine V.iconst (q := 24) (v := -1) C dX10_see_23 rfl (by decide) ?_
      exact V.ireturn C dX10_see_24 ⟨by simp only [seeR, hb2, hb20, Bool.false_eq_true, ↓reduceIte], by simp only [seeA, hb2, hb20, Bool.false_eq_true, ↓reduceIte], rfl⟩
  · refine V.aload_n (q := 6) C dX10_see_5 rfl rfl ?_
    refine V.get (q := 9) C fl_X10_9 dX10_see_6 rfl okM rfl rfl ?_
    refine V.bipush (q := 11) (v := nI 82) C dX10_see_9 rfl (by decide) ?_
    refine V.iconst (q := 12) (v := nI 0) C dX10_see_11 rfl (by decide) ?_
    refine V.ist (q := 13) (i := 82) C dX10_see_12 rfl okM_0 rfl rfl (by omega) (by decide) uM_now ?_
    refine V.iconst (q := 14) (v := nI 0) C dX10_see_13 rfl (by decide) ?_
    exact V.ireturn C dX10_see_14 ⟨by simp only [seeR, hb2, Bool.false_eq_true, ↓reduceIte], by simp only [seeA, hb2, Bool.false_eq_true, ↓reduceIte], rfl⟩
def acheV (x : Int32) : Int32 := if x = 0 then nI 0 else nI 1
def acheR (n c : Nat) (p d : Int32) : Int32 := if p = -1 then nI 0 else if inN p n then (if inR d (nI 0) (nI 12) then comesR c else -2) else -1
def acheA (A : I1) (n c : Nat) (p d x : Int32) : I1 := if p = -1 then upd A 98 (nI 0) else if inN p n then (if inR d (nI 0) (nI 12) then comesA A 98 c p d (acheV x) else A) else A
theorem m_ache {l : Launch} {g : GG} {X : PHp} {now mind : I1} {th : I1 × Int32} {tx : TXt} {z : Zt} {tr : I1 × Int32} {tp : TPt} {n : Nat} (hn : now 78 = nI n) (hn6 : n ≤ 6) {c : Nat} (hc : now 98 = nI c) (hc5 : c ≤ 5) {p d x : Int32} : Ct l g yX10_ache cX10_ache 4 (some .int) 3 0 0 [rf g (22, 0, 0), .int p, .int d, .int x] NN (jn X (hM g now mind th tx z tr tp)) (pI (acheR n c p d) (jn X (hM g (acheA now n c p d x) mind th tx z tr tp))) := by
  refine Ct.of (lv := [some (rf g (22, 0, 0)), some (.int p), some (.int d), some (.int x)]) (by decide +kernel) rfl (Nat.le_of_ble_eq_true rfl) ?_
  intro Γ C
  refine V.iload_n (q := 1) C dX10_ache_0 rfl rfl ?_
  refine V.iconst (q := 2) (v := -1) C dX10_ache_1 rfl (by decide) ?_
  refine V.icmp_ne (q := 5) (tgt := 15) C dX10_ache_2 rfl rfl (fun hb2 => ?_) (fun hb2 => ?_)
  · refine V.aload_n (q := 16) C dX10_ache_15 rfl rfl ?_
    refine V.iload_n (q := 17) C dX10_ache_16 rfl rfl ?_
    refine V.callVi (q := 20) C me_X10_isOne (m_isOne hn (by omega)) ml_X10_97 dX10_ache_17 rfl okM ⟨_, rfl⟩ rfl rfl (Nat.le_of_ble_eq_true rfl) (by omega) (Nat.zero_le _) (Nat.zero_le _) ?_
    refine V.if_neB (q := 23) (tgt := 25) C dX10_ache_20 rfl rfl (fun hb20 => ?_) (fun hb20 => ?_)
    · refine V.iload_n (q := 26) C dX10_ache_25 rfl rfl ?_
      refine V.iconst (q := 27) (v := nI 0) C dX10_ache_26 rfl (by decide) ?_
      refine V.bipush (q := 29) (v := nI 12) C dX10_ache_27 rfl (by decide) ?_
      refine V.callSi (q := 32) C me_X10_isIn m_isIn ml_X10_82 dX10_ache_29 rfl rfl rfl (Nat.le_of_ble_eq_true rfl) (by omega) (Nat.zero_le _) (Nat.zero_le _) ?_
      refine V.if_eqB (q := 35) (tgt := 55) C dX10_ache_32 rfl rfl (fun hb32 => ?_) (fun hb32 => ?_)
      · refine V.bipush (q := 57) (v := -2) C dX10_ache_55 rfl (by decide) ?_
        exact V.ireturn C dX10_ache_57 ⟨by simp only [acheR, hb2, hb20, hb32, Bool.false_eq_true, ↓reduceIte], by simp only [acheA, acheV, hb2, hb20, hb32, Bool.false_eq_true, ↓reduceIte], rfl⟩
      · refine V.aload_n (q := 36) C dX10_ache_35 rfl rfl ?_
        refine V.bipush (q := 38) (v := nI 98) C dX10_ache_36 rfl (by decide) ?_
        refine V.iload_n (q := 39) C dX10_ache_38 rfl rfl ?_
        refine V.iload_n (q := 40) C dX10_ache_39 rfl rfl ?_
        refine V.iload_n (q := 41) C dX10_ache_40 rfl rfl ?_
        refine V.if_eq (q := 44) (tgt := 48) C dX10_ache_41 rfl rfl (fun hb41 => ?_) (fun hb41 => ?_)
        · refine V.iconst (q := 49) (v := nI 0) C dX10_ache_48 rfl (by decide) ?_
          refine V.callVi (q := 52) C me_X10_comes (m_comes (by omega) hc (by omega)) ml_X10_229 dX10_ache_49 rfl okM ⟨_, rfl⟩ rfl rfl (Nat.le_of_ble_eq_true rfl) (by omega) (Nat.zero_le _) (Nat.zero_le _) ?_
          refine V.goto (tgt := 57) C dX10_ache_52 rfl ?_
          exact V.ireturn C dX10_ache_57 ⟨by simp only [acheR, hb2, hb20, hb32, hb41, Bool.false_eq_true, ↓reduceIte], by simp only [acheA, acheV, hb2, hb20, hb32, hb41, Bool.false_eq_true, ↓reduceIte], rfl⟩
        · refine V.iconst (q := 45) (v := nI 1) C dX10_ache_44 rfl (by decide) ?_
          refine V.goto (tgt := 49) C dX10_ache_45 rfl ?_
          refine V.callVi (q := 52) C me_X10_comes (m_comes (by omega) hc (by omega)) ml_X10_229 dX10_ache_49 rfl okM ⟨_, rfl⟩ rfl rfl (Nat.le_of_ble_eq_true rfl) (by omega) (Nat.zero_le _) (Nat.zero_le _) ?_
          refine V.goto (tgt := 57) C dX10_ache_52 rfl ?_
          exact V.ireturn C dX10_ache_57 ⟨by simp only [acheR, hb2, hb20, hb32, hb41, Bool.false_eq_true, ↓reduceIte], by simp only [acheA, acheV, hb2, hb20, hb32, hb41, Bool.false_eq_true, ↓reduceIte], rfl⟩
    · refine V.iconst (q := 24) (v := -1) C dX10_ache_23 rfl (by decide) ?_
      exact V.ireturn C dX10_ache_24 ⟨by simp only [acheR, hb2, hb20, Bool.false_eq_true, ↓reduceIte], by simp only [acheA, acheV, hb2, hb20, Bool.false_eq_true, ↓reduceIte], rfl⟩
  · refine V.aload_n (q := 6) C dX10_ache_5 rfl rfl ?_
    refine V.get (q := 9) C fl_X10_9 dX10_ache_6 rfl okM rfl rfl ?_
    refine V.bipush (q := 11) (v := nI 98) C dX10_ache_9 rfl (by decide) ?_
    refine V.iconst (q := 12) (v := nI 0) C dX10_ache_11 rfl (by decide) ?_
    refine V.ist (q := 13) (i := 98) C dX10_ache_12 rfl okM_0 rfl rfl (by omega) (by decide) uM_now ?_
    refine V.iconst (q := 14) (v := nI 0) C dX10_ache_13 rfl (by decide) ?_
    exact V.ireturn C dX10_ache_14 ⟨by simp only [acheR, hb2, Bool.false_eq_true, ↓reduceIte], by simp only [acheA, acheV, hb2, Bool.false_eq_true, ↓reduceIte], rfl⟩
def bookR (n c : Nat) (p v : Int32) : Int32 := if p = -1 then nI 0 else if inN p n then (if inR v (nI 0) (nI 99) then (if c = 8 then -4 else nI (c + 1)) else -2) else -1
def bookA (A : I1) (n c : Nat) (p v : Int32) : I1 := if p = -1 then upd A 135 (nI 0) else if inN p n then (if inR v (nI 0) (nI 99) then (if c = 8 then A else upd (upd (upd A (136 + 2 * c) p) (137 + 2 * c) v) 135 (nI (c + 1))) else A) else A
theorem m_book {l : Launch} {g : GG} {X : PHp} {now mind : I1} {th : I1 × Int32} {tx : TXt} {z : Zt} {tr : I1 × Int32} {tp : TPt} {n : Nat} (hn : now 78 = nI n) (hn6 : n ≤ 6) {c : Nat} (hc : now 135 = nI c) (hc5 : c ≤ 8) {p v : Int32} : Ct l g yX10_book cX10_book 3 (some .int) 3 0 0 [rf g (22, 0, 0), .int p, .int v] NN (jn X (hM g now mind th tx z tr tp)) (pI (bookR n c p v) (jn X (hM g (bookA now n c p v) mind th tx z tr tp))) := by
  refine Ct.of (lv := [some (rf g (22, 0, 0)), some (.int p), some (.int v)]) (by decide +kernel) rfl (Nat.le_of_ble_eq_true rfl) ?_
  intro Γ C
  refine V.iload_n (q := 1) C dX10_book_0 rfl rfl ?_
  refine V.iconst (q := 2) (v := -1) C dX10_book_1 rfl (by decide) ?_
  refine V.icmp_ne (q := 5) (tgt := 16) C dX10_book_2 rfl rfl (fun hb2 => ?_) (fun hb2 => ?_)
  · refine V.aload_n (q := 17) C dX10_book_16 rfl rfl ?_
    refine V.iload_n (q := 18) C dX10_book_17 rfl rfl ?_
    refine V.callVi (q := 21) C me_X10_isOne (m_isOne hn (by omega)) ml_X10_97 dX10_book_18 rfl okM ⟨_, rfl⟩ rfl rfl (Nat.le_of_ble_eq_true rfl) (by omega) (Nat.zero_le _) (Nat.zero_le _) ?_
    refine V.if_neB (q := 24) (tgt := 26) C dX10_book_21 rfl rfl (fun hb21 => ?_) (fun hb21 => ?_)
    · refine V.iload_n (q := 27) C dX10_book_26 rfl rfl ?_
      refine V.iconst (q := 28) (v := nI 0) C dX10_book_27 rfl (by decide) ?_
      refine V.bipush (q := 30) (v := nI 99) C dX10_book_28 rfl (by decide) ?_
      refine V.callSi (q := 33) C me_X10_isIn m_isIn ml_X10_82 dX10_book_30 rfl rfl rfl (Nat.le_of_ble_eq_true rfl) (by omega) (Nat.zero_le _) (Nat.zero_le _) ?_
      refine V.if_neB (q := 36) (tgt := 39) C dX10_book_33 rfl rfl (fun hb33 => ?_) (fun hb33 => ?_)
      · refine V.aload_n (q := 40) C dX10_book_39 rfl rfl ?_
        refine V.get (q := 43) C fl_X10_9 dX10_book_40 rfl okM rfl rfl ?_
        refine V.sipush (q := 46) (v := nI 135) C dX10_book_43 rfl (by decide) ?_
        refine V.ild (q := 47) (i := 135) C dX10_book_46 rfl okM_0 rfl rfl (by omega) (by decide) ?_
        refine V.topi (x1 := nI (c)) hc ?_
        refine V.bipush (q := 49) (v := nI 8) C dX10_book_47 rfl (by decide) ?_
        refine V.icmp_ne (q := 52) (tgt := 55) C dX10_book_49 rfl rfl (fun hb49 => ?_) (fun hb49 => ?_)
        · have hb49 : ¬ c = 8 := fun e => hb49 (by rw [e])
          refine V.aload_n (q := 56) C dX10_book_55 rfl rfl ?_
          refine V.get (q := 59) C fl_X10_9 dX10_book_56 rfl okM rfl rfl ?_
          refine V.sipush (q := 62) (v := nI 136) C dX10_book_59 rfl (by decide) ?_
          refine V.iconst (q := 63) (v := nI 2) C dX10_book_62 rfl (by decide) ?_
          refine V.aload_n (q := 64) C dX10_book_63 rfl rfl ?_
          refine V.get (q := 67) C fl_X10_9 dX10_book_64 rfl okM rfl rfl ?_
          refine V.sipush (q := 70) (v := nI 135) C dX10_book_67 rfl (by decide) ?_
          refine V.ild (q := 71) (i := 135) C dX10_book_70 rfl okM_0 rfl rfl (by omega) (by decide) ?_
          refine V.topi (x1 := nI (c)) hc ?_
          refine V.imul (q := 72) C dX10_book_71 rfl ?_
          refine V.topi (x1 := nI (2 * (c))) (pk_mul _ _) ?_
          refine V.iadd (q := 73) C dX10_book_72 rfl ?_
          refine V.topi (x1 := nI (136 + (2 * (c)))) (nI_add _ _) ?_
          refine V.iload_n (q := 74) C dX10_book_73 rfl rfl ?_
          refine V.ist (q := 75) (i := (136 + (2 * (c)))) C dX10_book_74 rfl okM_0 rfl rfl (by omega) (by decide) uM_now ?_
          refine V.aload_n (q := 76) C dX10_book_75 rfl rfl ?_
          refine V.get (q := 79) C fl_X10_9 dX10_book_76 rfl okM rfl rfl ?_
          refine V.sipush (q := 82) (v := nI 137) C dX10_book_79 rfl (by decide) ?_
          refine V.iconst (q := 83) (v := nI 2) C dX10_book_82 rfl (by decide) ?_
          refine V.aload_n (q := 84) C dX10_book_83 rfl rfl ?_
          refine V.get (q := 87) C fl_X10_9 dX10_book_84 rfl okM rfl rfl ?_
          refine V.sipush (q := 90) (v := nI 135) C dX10_book_87 rfl (by decide) ?_
          refine V.ild (q := 91) (i := 135) C dX10_book_90 rfl okM_0 rfl rfl (by omega) (by decide) ?_
          refine V.topi (x1 := nI (c)) ((if_neg (by omega)).trans hc) ?_
          refine V.imul (q := 92) C dX10_book_91 rfl ?_
          refine V.topi (x1 := nI (2 * (c))) (pk_mul _ _) ?_
          refine V.iadd (q := 93) C dX10_book_92 rfl ?_
          refine V.topi (x1 := nI (137 + (2 * (c)))) (nI_add _ _) ?_
          refine V.iload_n (q := 94) C dX10_book_93 rfl rfl ?_
          refine V.ist (q := 95) (i := (137 + (2 * (c)))) C dX10_book_94 rfl okM_0 rfl rfl (by omega) (by decide) uM_now ?_
          refine V.aload_n (q := 96) C dX10_book_95 rfl rfl ?_
          refine V.get (q := 99) C fl_X10_9 dX10_book_96 rfl okM rfl rfl ?_
          refine V.sipush (q := 102) (v := nI 135) C dX10_book_99 rfl (by decide) ?_
          refine V.dup2 (q := 103) C dX10_book_102 rfl rfl rfl ?_
          refine V.ild (q := 104) (i := 135) C dX10_book_103 rfl okM_0 rfl rfl (by omega) (by decide) ?_
          refine V.topi (x1 := nI (c)) ((if_neg (by omega)).trans ((if_neg (by omega)).trans hc)) ?_
          refine V.iconst (q := 105) (v := nI 1) C dX10_book_104 rfl (by decide) ?_
          refine V.iadd (q := 106) C dX10_book_105 rfl ?_
          refine V.topi (x1 := nI ((c) + 1)) (nI_add _ _) ?_
          refine V.ist (q := 107) (i := 135) C dX10_book_106 rfl okM_0 rfl rfl (by omega) (by decide) uM_now ?_
          refine V.aload_n (q := 108) C dX10_book_107 rfl rfl ?_
          refine V.get (q := 111) C fl_X10_9 dX10_book_108 rfl okM rfl rfl ?_
          refine V.sipush (q := 114) (v := nI 135) C dX10_book_111 rfl (by decide) ?_
          refine V.ild (q := 115) (i := 135) C dX10_book_114 rfl okM_0 rfl rfl (by omega) (by decide) ?_
          refine V.topi (x1 := nI ((c + 1))) (if_pos rfl) ?_
          exact V.ireturn C dX10_book_115 ⟨by simp only [bookR, hb2, hb21, hb33, hb49, Bool.false_eq_true, ↓reduceIte], by simp only [bookA, hb2, hb21, hb33, hb49, Bool.false_eq_true, ↓reduceIte], rfl⟩
        · have hb49 : c = 8 := (nI_eq (by omega) (by omega)).mp hb49
          refine V.bipush (q := 54) (v := -4) C dX10_book_52 rfl (by decide) ?_
          exact V.ireturn C dX10_book_54 ⟨by simp only [bookR, hb2, hb21, hb33, hb49, Bool.false_eq_true, ↓reduceIte], by simp only [bookA, hb2, hb21, hb33, hb49, Bool.false_eq_true, ↓reduceIte], rfl⟩
      · refine V.bipush (q := 38) (v := -2) C dX10_book_36 rfl (by decide) ?_
        exact V.ireturn C dX10_book_38 ⟨by simp only [bookR, hb2, hb21, hb33, Bool.false_eq_true, ↓reduceIte], by simp only [bookA, hb2, hb21, hb33, Bool.false_eq_true, ↓reduceIte], rfl⟩
    · refine V.iconst (q := 25) (v := -1) C dX10_book_24 rfl (by decide) ?_
      exact V.ireturn C dX10_book_25 ⟨by simp only [bookR, hb2, hb21, Bool.false_eq_true, ↓reduceIte], by simp only [bookA, hb2, hb21, Bool.false_eq_true, ↓reduceIte], rfl⟩
  · refine V.aload_n (q := 6) C dX10_book_5 rfl rfl ?_
    refine V.get (q := 9) C fl_X10_9 dX10_book_6 rfl okM rfl rfl ?_
    refine V.sipush (q := 12) (v := nI 135) C dX10_book_9 rfl (by decide) ?_
    refine V.iconst (q := 13) (v := nI 0) C dX10_book_12 rfl (by decide) ?_
    refine V.ist (q := 14) (i := 135) C dX10_book_13 rfl okM_0 rfl rfl (by omega) (by decide) uM_now ?_
    refine V.iconst (q := 15) (v := nI 0) C dX10_book_14 rfl (by decide) ?_
    exact V.ireturn C dX10_book_15 ⟨by simp only [bookR, hb2, Bool.false_eq_true, ↓reduceIte], by simp only [bookA, hb2, Bool.false_eq_true, ↓reduceIte], rfl⟩
def plW (n m : Nat) (q x : Int32) : Bool := if q = 0 then true else if q = nI 1 then (if inN x n then true else if q = nI 2 then inN x m else false) else if q = nI 3 then (if inN x n then true else if q = nI 2 then inN x m else false) else if q = nI 2 then inN x m else false
theorem plW_t {n m : Nat} {q x : Int32} : plW n m q x = true ↔ q = 0 ∨ (q = nI 1 ∨ q = nI 3) ∧ inN x n = true ∨ q = nI 2 ∧ inN x m = true := by
  unfold plW
  by_cases h0 : q = 0
  · simp [h0]
  by_cases h1 : q = nI 1
  · subst h1; by_cases hx : inN x n = true <;> simp [hx, show ¬ nI 1 = 0 by decide, show ¬ nI 1 = nI 2 by decide]
  by_cases h3 : q = nI 3
  · subst h3; by_cases hx : inN x n = true <;> simp [hx, show ¬ nI 3 = 0 by decide, show ¬ nI 3 = nI 2 by decide, show ¬ nI 3 = nI 1 by decide]
  by_cases h2 : q = nI 2
  · subst h2; simp [show ¬ nI 2 = 0 by decide, show ¬ nI 2 = nI 1 by decide, show ¬ nI 2 = nI 3 by decide]
  simp [h0, h1, h2, h3]
def planR (n m c : Nat) (q x : Int32) : Int32 := if q = -1 then nI 0 else if plW n m q x then (if c = 10 then -4 else nI (c + 1)) else -1
def planA (A : I1) (n m c : Nat) (q x : Int32) : I1 := if q = -1 then upd A 114 (nI 0) else if plW n m q x then (if c = 10 then A else upd (upd (upd A (115 + 2 * c) q) (116 + 2 * c) x) 114 (nI (c + 1))) else A
theorem m_plan {l : Launch} {g : GG} {X : PHp} {now mind : I1} {th : I1 × Int32} {tx : TXt} {z : Zt} {tr : I1 × Int32} {tp : TPt} {n : Nat} (hn : now 78 = nI n) (hn6 : n ≤ 6) {m : Nat} (hm : now 79 = nI m) (hm8 : m ≤ 8) {c : Nat} (hc : now 114 = nI c) (hc5 : c ≤ 10) {q x : Int32} : Ct l g yX10_plan cX10_plan 4 (some .int) 3 0 0 [rf g (22, 0, 0), .int q, .int x] NN (jn X (hM g now mind th tx z tr tp)) (pI (planR n m c q x) (jn X (hM g (planA now n m c q x) mind th tx z tr tp))) := by
  refine Ct.of (lv := [some (rf g (22, 0, 0)), some (.int q), some (.int x), none]) (by decide +kernel) rfl (Nat.le_of_ble_eq_true rfl) ?_
  intro Γ C
  refine V.iload_n (q := 1) C dX10_plan_0 rfl rfl ?_
  refine V.iconst (q := 2) (v := -1) C dX10_plan_1 rfl (by decide) ?_
  refine V.icmp_ne (q := 5) (tgt := 15) C dX10_plan_2 rfl rfl (fun hb2 => ?_) (fun hb2 => ?_)
  · refine V.iload_n (q := 16) C dX10_plan_15 rfl rfl ?_
    refine V.if_eq (q := 19) (tgt := 50) C dX10_plan_16 rfl rfl (fun hb16 => ?_) (fun hb16 => ?_)
    · refine V.iconst (q := 51) (v := nI 1) C dX10_plan_50 rfl (by decide) ?_
      refine V.goto (tgt := 55) C dX10_plan_51 rfl ?_
      refine V.istore_n (q := 56) C dX10_plan_55 rfl (by decide) rfl rfl ?_
      refine V.iload_n (q := 57) C dX10_plan_56 rfl rfl ?_
      refine V.if_ne (q := 60) (tgt := 62) C dX10_plan_57 rfl rfl (fun hb57 => ?_) (fun hb57 => ?_)
      · have hw : plW n m q x = true := plW_t.mpr (Or.inl hb16)
        refine V.aload_n (q := 63) C dX10_plan_62 rfl rfl ?_
        refine V.get (q := 66) C fl_X10_9 dX10_plan_63 rfl okM rfl rfl ?_
        refine V.bipush (q := 68) (v := nI 114) C dX10_plan_66 rfl (by decide) ?_
        refine V.ild (q := 69) (i := 114) C dX10_plan_68 rfl okM_0 rfl rfl (by omega) (by decide) ?_
        refine V.topi (x1 := nI (c)) hc ?_
        refine V.bipush (q := 71) (v := nI 10) C dX10_plan_69 rfl (by decide) ?_
        refine V.icmp_ne (q := 74) (tgt := 77) C dX10_plan_71 rfl rfl (fun hb71 => ?_) (fun hb71 => ?_)
        · have hb71 : ¬ c = 10 := fun e => hb71 (by rw [e])
          refine V.aload_n (q := 78) C dX10_plan_77 rfl rfl ?_
          refine V.get (q := 81) C fl_X10_9 dX10_plan_78 rfl okM rfl rfl ?_
          refine V.bipush (q := 83) (v := nI 115) C dX10_plan_81 rfl (by decide) ?_
          refine V.iconst (q := 84) (v := nI 2) C dX10_plan_83 rfl (by decide) ?_
          refine V.aload_n (q := 85) C dX10_plan_84 rfl rfl ?_
          refine V.get (q := 88) C fl_X10_9 dX10_plan_85 rfl okM rfl rfl ?_
          refine V.bipush (q := 90) (v := nI 114) C dX10_plan_88 rfl (by decide) ?_
          refine V.ild (q := 91) (i := 114) C dX10_plan_90 rfl okM_0 rfl rfl (by omega) (by decide) ?_
          refine V.topi (x1 := nI (c)) hc ?_
          refine V.imul (q := 92) C dX10_plan_91 rfl ?_
          refine V.topi (x1 := nI (2 * (c))) (pk_mul _ _) ?_
          refine V.iadd (q := 93) C dX10_plan_92 rfl ?_
          refine V.topi (x1 := nI (115 + (2 * (c)))) (nI_add _ _) ?_
          refine V.iload_n (q := 94) C dX10_plan_93 rfl rfl ?_
          refine V.ist (q := 95) (i := (115 + (2 * (c)))) C dX10_plan_94 rfl okM_0 rfl rfl (by omega) (by decide) uM_now ?_
          refine V.aload_n (q := 96) C dX10_plan_95 rfl rfl ?_
          refine V.get (q := 99) C fl_X10_9 dX10_plan_96 rfl okM rfl rfl ?_
          refine V.bipush (q := 101) (v := nI 116) C dX10_plan_99 rfl (by decide) ?_
          refine V.iconst (q := 102) (v := nI 2) C dX10_plan_101 rfl (by decide) ?_
          refine V.aload_n (q := 103) C dX10_plan_102 rfl rfl ?_
          refine V.get (q := 106) C fl_X10_9 dX10_plan_103 rfl okM rfl rfl ?_
          refine V.bipush (q := 108) (v := nI 114) C dX10_plan_106 rfl (by decide) ?_
          refine V.ild (q := 109) (i := 114) C dX10_plan_108 rfl okM_0 rfl rfl (by omega) (by decide) ?_
          refine V.topi (x1 := nI (c)) ((if_neg (by omega)).trans hc) ?_
          refine V.imul (q := 110) C dX10_plan_109 rfl ?_
          refine V.topi (x1 := nI (2 * (c))) (pk_mul _ _) ?_
          refine V.iadd (q := 111) C dX10_plan_110 rfl ?_
          refine V.topi (x1 := nI (116 + (2 * (c)))) (nI_add _ _) ?_
          refine V.iload_n (q := 112) C dX10_plan_111 rfl rfl ?_
          refine V.ist (q := 113) (i := (116 + (2 * (c)))) C dX10_plan_112 rfl okM_0 rfl rfl (by omega) (by decide) uM_now ?_
          refine V.aload_n (q := 114) C dX10_plan_113 rfl rfl ?_
          refine V.get (q := 117) C fl_X10_9 dX10_plan_114 rfl okM rfl rfl ?_
          refine V.bipush (q := 119) (v := nI 114) C dX10_plan_117 rfl (by decide) ?_
          refine V.dup2 (q := 120) C dX10_plan_119 rfl rfl rfl ?_
          refine V.ild (q := 121) (i := 114) C dX10_plan_120 rfl okM_0 rfl rfl (by omega) (by decide) ?_
          refine V.topi (x1 := nI (c)) ((if_neg (by omega)).trans ((if_neg (by omega)).trans hc)) ?_
          refine V.iconst (q := 122) (v := nI 1) C dX10_plan_121 rfl (by decide) ?_
          refine V.iadd (q := 123) C dX10_plan_122 rfl ?_
          refine V.topi (x1 := nI ((c) + 1)) (nI_add _ _) ?_
          refine V.ist (q := 124) (i := 114) C dX10_plan_123 rfl okM_0 rfl rfl (by omega) (by decide) uM_now ?_
          refine V.aload_n (q := 125) C dX10_plan_124 rfl rfl ?_
          refine V.get (q := 128) C fl_X10_9 dX10_plan_125 rfl okM rfl rfl ?_
          refine V.bipush (q := 130) (v := nI 114) C dX10_plan_128 rfl (by decide) ?_
          refine V.ild (q := 131) (i := 114) C dX10_plan_130 rfl okM_0 rfl rfl (by omega) (by decide) ?_
          refine V.topi (x1 := nI ((c + 1))) (if_pos rfl) ?_
          exact V.ireturn C dX10_plan_131 ⟨by simp only [planR, hb2, hw, hb71, Bool.false_eq_true, ↓reduceIte], by simp only [planA, hb2, hw, hb71, Bool.false_eq_true, ↓reduceIte], rfl⟩
        · have hb71 : c = 10 := (nI_eq (by omega) (by omega)).mp hb71
          refine V.bipush (q := 76) (v := -4) C dX10_plan_74 rfl (by decide) ?_
          exact V.ireturn C dX10_plan_76 ⟨by simp only [planR, hb2, hw, hb71, Bool.false_eq_true, ↓reduceIte], by simp only [planA, hb2, hw, hb71, Bool.false_eq_true, ↓reduceIte], rfl⟩
      · exact absurd hb57 (by decide)
    · refine V.iload_n (q := 20) C dX10_plan_19 rfl rfl ?_
      refine V.iconst (q := 21) (v := nI 1) C dX10_plan_20 rfl (by decide) ?_
      refine V.icmp_eq (q := 24) (tgt := 29) C dX10_plan_21 rfl rfl (fun hb21 => ?_) (fun hb21 => ?_)
      · refine V.aload_n (q := 30) C dX10_plan_29 rfl rfl ?_
        refine V.iload_n (q := 31) C dX10_plan_30 rfl rfl ?_
        refine V.callVi (q := 34) C me_X10_isOne (m_isOne hn (by omega)) ml_X10_97 dX10_plan_31 rfl okM ⟨_, rfl⟩ rfl rfl (Nat.le_of_ble_eq_true rfl) (by omega) (Nat.zero_le _) (Nat.zero_le _) ?_
        refine V.if_neB (q := 37) (tgt := 50) C dX10_plan_34 rfl rfl (fun hb34 => ?_) (fun hb34 => ?_)
        · refine V.iconst (q := 51) (v := nI 1) C dX10_plan_50 rfl (by decide) ?_
          refine V.goto (tgt := 55) C dX10_plan_51 rfl ?_
          refine V.istore_n (q := 56) C dX10_plan_55 rfl (by decide) rfl rfl ?_
          refine V.iload_n (q := 57) C dX10_plan_56 rfl rfl ?_
          refine V.if_ne (q := 60) (tgt := 62) C dX10_plan_57 rfl rfl (fun hb57 => ?_) (fun hb57 => ?_)
          · have hw : plW n m q x = true := plW_t.mpr (Or.inr (Or.inl ⟨Or.inl hb21, hb34⟩))
            refine V.aload_n (q := 63) C dX10_plan_62 rfl rfl ?_
            refine V.get (q := 66) C fl_X10_9 dX10_plan_63 rfl okM rfl rfl ?_
            refine V.bipush (q := 68) (v := nI 114) C dX10_plan_66 rfl (by decide) ?_
            refine V.ild (q := 69) (i := 114) C dX10_plan_68 rfl okM_0 rfl rfl (by omega) (by decide) ?_
            refine V.topi (x1 := nI (c)) hc ?_
            refine V.bipush (q := 71) (v := nI 10) C dX10_plan_69 rfl (by decide) ?_
            refine V.icmp_ne (q := 74) (tgt := 77) C dX10_plan_71 rfl rfl (fun hb71 => ?_) (fun hb71 => ?_)
            · have hb71 : ¬ c = 10 := fun e => hb71 (by rw [e])
              refine V.aload_n (q := 78) C dX10_plan_77 rfl rfl ?_
              refine V.get (q := 81) C fl_X10_9 dX10_plan_78 rfl okM rfl rfl ?_
              refine V.bipush (q := 83) (v := nI 115) C dX10_plan_81 rfl (by decide) ?_
              refine V.iconst (q := 84) (v := nI 2) C dX10_plan_83 rfl (by decide) ?_
              refine V.aload_n (q := 85) C dX10_plan_84 rfl rfl ?_
              refine V.get (q := 88) C fl_X10_9 dX10_plan_85 rfl okM rfl rfl ?_
              refine V.bipush (q := 90) (v := nI 114) C dX10_plan_88 rfl (by decide) ?_
              refine V.ild (q := 91) (i := 114) C dX10_plan_90 rfl okM_0 rfl rfl (by omega) (by decide) ?_
              refine V.topi (x1 := nI (c)) hc ?_
              refine V.imul (q := 92) C dX10_plan_91 rfl ?_
              refine V.topi (x1 := nI (2 * (c))) (pk_mul _ _) ?_
              refine V.iadd (q := 93) C dX10_plan_92 rfl ?_
              refine V.topi (x1 := nI (115 + (2 * (c)))) (nI_add _ _) ?_
              refine V.iload_n (q := 94) C dX10_plan_93 rfl rfl ?_
              refine V.ist (q := 95) (i := (115 + (2 * (c)))) C dX10_plan_94 rfl okM_0 rfl rfl (by omega) (by decide) uM_now ?_
              refine V.aload_n (q := 96) C dX10_plan_95 rfl rfl ?_
              refine V.get (q := 99) C fl_X10_9 dX10_plan_96 rfl okM rfl rfl ?_
              refine V.bipush (q := 101) (v := nI 116) C dX10_plan_99 rfl (by decide) ?_
              refine V.iconst (q := 102) (v := nI 2) C dX10_plan_101 rfl (by decide) ?_
              refine V.aload_n (q := 103) C dX10_plan_102 rfl rfl ?_
              refine V.get (q := 106) C fl_X10_9 dX10_plan_103 rfl okM rfl rfl ?_
              refine V.bipush (q := 108) (v := nI 114) C dX10_plan_106 rfl (by decide) ?_
              refine V.ild (q := 109) (i := 114) C dX10_plan_108 rfl okM_0 rfl rfl (by omega) (by decide) ?_
              refine V.topi (x1 := nI (c)) ((if_neg (by omega)).trans hc) ?_
              refine V.imul (q := 110) C dX10_plan_109 rfl ?_
              refine V.topi (x1 := nI (2 * (c))) (pk_mul _ _) ?_
              refine V.iadd (q := 111) C dX10_plan_110 rfl ?_
              refine V.topi (x1 := nI (116 + (2 * (c)))) (nI_add _ _) ?_
              refine V.iload_n (q := 112) C dX10_plan_111 rfl rfl ?_
              refine V.ist (q := 113) (i := (116 + (2 * (c)))) C dX10_plan_112 rfl okM_0 rfl rfl (by omega) (by decide) uM_now ?_
              refine V.aload_n (q := 114) C dX10_plan_113 rfl rfl ?_
              refine V.get (q := 117) C fl_X10_9 dX10_plan_114 rfl okM rfl rfl ?_
              refine V.bipush (q := 119) (v := nI 114) C dX10_plan_117 rfl (by decide) ?_
              refine V.dup2 (q := 120) C dX10_plan_119 rfl rfl rfl ?_
              refine V.ild (q := 121) (i := 114) C dX10_plan_120 rfl okM_0 rfl rfl (by omega) (by decide) ?_
              refine V.topi (x1 := nI (c)) ((if_neg (by omega)).trans ((if_neg (by omega)).trans hc)) ?_
              refine V.iconst (q := 122) (v := nI 1) C dX10_plan_121 rfl (by decide) ?_
              refine V.iadd (q := 123) C dX10_plan_122 rfl ?_
              refine V.topi (x1 := nI ((c) + 1)) (nI_add _ _) ?_
              refine V.ist (q := 124) (i := 114) C dX10_plan_123 rfl okM_0 rfl rfl (by omega) (by decide) uM_now ?_
              refine V.aload_n (q := 125) C dX10_plan_124 rfl rfl ?_
              refine V.get (q := 128) C fl_X10_9 dX10_plan_125 rfl okM rfl rfl ?_
              refine V.bipush (q := 130) (v := nI 114) C dX10_plan_128 rfl (by decide) ?_
              refine V.ild (q := 131) (i := 114) C dX10_plan_130 rfl okM_0 rfl rfl (by omega) (by decide) ?_
              refine V.topi (x1 := nI ((c + 1))) (if_pos rfl) ?_
              exact V.ireturn C dX10_plan_131 ⟨by simp only [planR, hb2, hw, hb71, Bool.false_eq_true, ↓reduceIte], by simp only [planA, hb2, hw, hb71, Bool.false_eq_true, ↓reduceIte], rfl⟩
            · have hb71 : c = 10 := (nI_eq (by omega) (by omega)).mp hb71
              refine V.bipush (q := 76) (v := -4) C dX10_plan_74 rfl (by decide) ?_
              exact V.ireturn C dX10_plan_76 ⟨by simp only [planR, hb2, hw, hb71, Bool.false_eq_true, ↓reduceIte], by simp only [planA, hb2, hw, hb71, Bool.false_eq_true, ↓reduceIte], rfl⟩
          · exact absurd hb57 (by decide)
        · refine V.iload_n (q := 38) C dX10_plan_37 rfl rfl ?_
          refine V.iconst (q := 39) (v := nI 2) C dX10_plan_38 rfl (by decide) ?_
          refine V.icmp_ne (q := 42) (tgt := 54) C dX10_plan_39 rfl rfl (fun hb39 => ?_) (fun hb39 => ?_)
          · refine V.iconst (q := 55) (v := nI 0) C dX10_plan_54 rfl (by decide) ?_
            refine V.istore_n (q := 56) C dX10_plan_55 rfl (by decide) rfl rfl ?_
            refine V.iload_n (q := 57) C dX10_plan_56 rfl rfl ?_
            refine V.if_ne (q := 60) (tgt := 62) C dX10_plan_57 rfl rfl (fun hb57 => ?_) (fun hb57 => ?_)
            · exact absurd rfl hb57
            · have hw : ¬ plW n m q x = true := fun z => by
                rcases plW_t.mp z with z | z | z
                · exact hb16 z
                · exact hb34 z.2
                · exact hb39 z.1
              refine V.iconst (q := 61) (v := -1) C dX10_plan_60 rfl (by decide) ?_
              exact V.ireturn C dX10_plan_61 ⟨by simp only [planR, hb2, hw, Bool.false_eq_true, ↓reduceIte], by simp only [planA, hb2, hw, Bool.false_eq_true, ↓reduceIte], rfl⟩
          · refine V.aload_n (q := 43) C dX10_plan_42 rfl rfl ?_
            refine V.iload_n (q := 44) C dX10_plan_43 rfl rfl ?_
            refine V.callVi (q := 47) C me_X10_isSaying (m_isSaying hm (by omega)) ml_X10_108 dX10_plan_44 rfl okM ⟨_, rfl⟩ rfl rfl (Nat.le_of_ble_eq_true rfl) (by omega) (Nat.zero_le _) (Nat.zero_le _) ?_
            refine V.if_eqB (q := 50) (tgt := 54) C dX10_plan_47 rfl rfl (fun hb47 => ?_) (fun hb47 => ?_)
            · refine V.iconst (q := 55) (v := nI 0) C dX10_plan_54 rfl (by decide) ?_
              refine V.istore_n (q := 56) C dX10_plan_55 rfl (by decide) rfl rfl ?_
              refine V.iload_n (q := 57) C dX10_plan_56 rfl rfl ?_
              refine V.if_ne (q := 60) (tgt := 62) C dX10_plan_57 rfl rfl (fun hb57 => ?_) (fun hb57 => ?_)
              · exact absurd rfl hb57
              · have hw : ¬ plW n m q x = true := fun z => by
                  rcases plW_t.mp z with z | z | z
                  · exact hb16 z
                  · exact hb34 z.2
                  · exact hb47 z.2
                refine V.iconst (q := 61) (v := -1) C dX10_plan_60 rfl (by decide) ?_
                exact V.ireturn C dX10_plan_61 ⟨by simp only [planR, hb2, hw, Bool.false_eq_true, ↓reduceIte], by simp only [planA, hb2, hw, Bool.false_eq_true, ↓reduceIte], rfl⟩
            · refine V.iconst (q := 51) (v := nI 1) C dX10_plan_50 rfl (by decide) ?_
              refine V.goto (tgt := 55) C dX10_plan_51 rfl ?_
              refine V.istore_n (q := 56) C dX10_plan_55 rfl (by decide) rfl rfl ?_
              refine V.iload_n (q := 57) C dX10_plan_56 rfl rfl ?_
              refine V.if_ne (q := 60) (tgt := 62) C dX10_plan_57 rfl rfl (fun hb57 => ?_) (fun hb57 => ?_)
              · have hw : plW n m q x = true := plW_t.mpr (Or.inr (Or.inr ⟨hb39, hb47⟩))
                refine V.aload_n (q := 63) C dX10_plan_62 rfl rfl ?_
                refine V.get (q := 66) C fl_X10_9 dX10_plan_63 rfl okM rfl rfl ?_
                refine V.bipush (q := 68) (v := nI 114) C dX10_plan_66 rfl (by decide) ?_
                refine V.ild (q := 69) (i := 114) C dX10_plan_68 rfl okM_0 rfl rfl (by omega) (by decide) ?_
                refine V.topi (x1 := nI (c)) hc ?_
                refine V.bipush (q := 71) (v := nI 10) C dX10_plan_69 rfl (by decide) ?_
                refine V.icmp_ne (q := 74) (tgt := 77) C dX10_plan_71 rfl rfl (fun hb71 => ?_) (fun hb71 => ?_)
                · have hb71 : ¬ c = 10 := fun e => hb71 (by rw [e])
                  refine V.aload_n (q := 78) C dX10_plan_77 rfl rfl ?_
                  refine V.get (q := 81) C fl_X10_9 dX10_plan_78 rfl okM rfl rfl ?_
                  refine V.bipush (q := 83) (v := nI 115) C dX10_plan_81 rfl (by decide) ?_
                  refine V.iconst (q := 84) (v := nI 2) C dX10_plan_83 rfl (by decide) ?_
                  refine V.aload_n (q := 85) C dX10_plan_84 rfl rfl ?_
                  refine V.get (q := 88) C fl_X10_9 dX10_plan_85 rfl okM rfl rfl ?_
                  refine V.bipush (q := 90) (v := nI 114) C dX10_plan_88 rfl (by decide) ?_
                  refine V.ild (q := 91) (i := 114) C dX10_plan_90 rfl okM_0 rfl rfl (by omega) (by decide) ?_
                  refine V.topi (x1 := nI (c)) hc ?_
                  refine V.imul (q := 92) C dX10_plan_91 rfl ?_
                  refine V.topi (x1 := nI (2 * (c))) (pk_mul _ _) ?_
                  refine V.iadd (q := 93) C dX10_plan_92 rfl ?_
                  refine V.topi (x1 := nI (115 + (2 * (c)))) (nI_add _ _) ?_
                  refine V.iload_n (q := 94) C dX10_plan_93 rfl rfl ?_
                  refine V.ist (q := 95) (i := (115 + (2 * (c)))) C dX10_plan_94 rfl okM_0 rfl rfl (by omega) (by decide) uM_now ?_
                  refine V.aload_n (q := 96) C dX10_plan_95 rfl rfl ?_
                  refine V.get (q := 99) C fl_X10_9 dX10_plan_96 rfl okM rfl rfl ?_
                  refine V.bipush (q := 101) (v := nI 116) C dX10_plan_99 rfl (by decide) ?_
                  refine V.iconst (q := 102) (v := nI 2) C dX10_plan_101 rfl (by decide) ?_
                  refine V.aload_n (q := 103) C dX10_plan_102 rfl rfl ?_
                  refine V.get (q := 106) C fl_X10_9 dX10_plan_103 rfl okM rfl rfl ?_
                  refine V.bipush (q := 108) (v := nI 114) C dX10_plan_106 rfl (by decide) ?_
                  refine V.ild (q := 109) (i := 114) C dX10_plan_108 rfl okM_0 rfl rfl (by omega) (by decide) ?_
                  refine V.topi (x1 := nI (c)) ((if_neg (by omega)).trans hc) ?_
                  refine V.imul (q := 110) C dX10_plan_109 rfl ?_
                  refine V.topi (x1 := nI (2 * (c))) (pk_mul _ _) ?_
                  refine V.iadd (q := 111) C dX10_plan_110 rfl ?_
                  refine V.topi (x1 := nI (116 + (2 * (c)))) (nI_add _ _) ?_
                  refine V.iload_n (q := 112) C dX10_plan_111 rfl rfl ?_
                  refine V.ist (q := 113) (i := (116 + (2 * (c)))) C dX10_plan_112 rfl okM_0 rfl rfl (by omega) (by decide) uM_now ?_
                  refine V.aload_n (q := 114) C dX10_plan_113 rfl rfl ?_
                  refine V.get (q := 117) C fl_X10_9 dX10_plan_114 rfl okM rfl rfl ?_
                  refine V.bipush (q := 119) (v := nI 114) C dX10_plan_117 rfl (by decide) ?_
                  refine V.dup2 (q := 120) C dX10_plan_119 rfl rfl rfl ?_
                  refine V.ild (q := 121) (i := 114) C dX10_plan_120 rfl okM_0 rfl rfl (by omega) (by decide) ?_
                  refine V.topi (x1 := nI (c)) ((if_neg (by omega)).trans ((if_neg (by omega)).trans hc)) ?_
                  refine V.iconst (q := 122) (v := nI 1) C dX10_plan_121 rfl (by decide) ?_
                  refine V.iadd (q := 123) C dX10_plan_122 rfl ?_
                  refine V.topi (x1 := nI ((c) + 1)) (nI_add _ _) ?_
                  refine V.ist (q := 124) (i := 114) C dX10_plan_123 rfl okM_0 rfl rfl (by omega) (by decide) uM_now ?_
                  refine V.aload_n (q := 125) C dX10_plan_124 rfl rfl ?_
                  refine V.get (q := 128) C fl_X10_9 dX10_plan_125 rfl okM rfl rfl ?_
                  refine V.bipush (q := 130) (v := nI 114) C dX10_plan_128 rfl (by decide) ?_
                  refine V.ild (q := 131) (i := 114) C dX10_plan_130 rfl okM_0 rfl rfl (by omega) (by decide) ?_
                  refine V.topi (x1 := nI ((c + 1))) (if_pos rfl) ?_
                  exact V.ireturn C dX10_plan_131 ⟨by simp only [planR, hb2, hw, hb71, Bool.false_eq_true, ↓reduceIte], by simp only [planA, hb2, hw, hb71, Bool.false_eq_true, ↓reduceIte], rfl⟩
                · have hb71 : c = 10 := (nI_eq (by omega) (by omega)).mp hb71
                  refine V.bipush (q := 76) (v := -4) C dX10_plan_74 rfl (by decide) ?_
                  exact V.ireturn C dX10_plan_76 ⟨by simp only [planR, hb2, hw, hb71, Bool.false_eq_true, ↓reduceIte], by simp only [planA, hb2, hw, hb71, Bool.false_eq_true, ↓reduceIte], rfl⟩
              · exact absurd hb57 (by decide)
      · refine V.iload_n (q := 25) C dX10_plan_24 rfl rfl ?_
        refine V.iconst (q := 26) (v := nI 3) C dX10_plan_25 rfl (by decide) ?_
        refine V.icmp_ne (q := 29) (tgt := 37) C dX10_plan_26 rfl rfl (fun hb26 => ?_) (fun hb26 => ?_)
        · refine V.iload_n (q := 38) C dX10_plan_37 rfl rfl ?_
          refine V.iconst (q := 39) (v := nI 2) C dX10_plan_38 rfl (by decide) ?_
          refine V.icmp_ne (q := 42) (tgt := 54) C dX10_plan_39 rfl rfl (fun hb39 => ?_) (fun hb39 => ?_)
          · refine V.iconst (q := 55) (v := nI 0) C dX10_plan_54 rfl (by decide) ?_
            refine V.istore_n (q := 56) C dX10_plan_55 rfl (by decide) rfl rfl ?_
            refine V.iload_n (q := 57) C dX10_plan_56 rfl rfl ?_
            refine V.if_ne (q := 60) (tgt := 62) C dX10_plan_57 rfl rfl (fun hb57 => ?_) (fun hb57 => ?_)
            · exact absurd rfl hb57
            · have hw : ¬ plW n m q x = true := fun z => by
                rcases plW_t.mp z with z | z | z
                · exact hb16 z
                · exact z.1.elim hb21 hb26
                · exact hb39 z.1
              refine V.iconst (q := 61) (v := -1) C dX10_plan_60 rfl (by decide) ?_
              exact V.ireturn C dX10_plan_61 ⟨by simp only [planR, hb2, hw, Bool.false_eq_true, ↓reduceIte], by simp only [planA, hb2, hw, Bool.false_eq_true, ↓reduceIte], rfl⟩
          · refine V.aload_n (q := 43) C dX10_plan_42 rfl rfl ?_
            refine V.iload_n (q := 44) C dX10_plan_43 rfl rfl ?_
            refine V.callVi (q := 47) C me_X10_isSaying (m_isSaying hm (by omega)) ml_X10_108 dX10_plan_44 rfl okM ⟨_, rfl⟩ rfl rfl (Nat.le_of_ble_eq_true rfl) (by omega) (Nat.zero_le _) (Nat.zero_le _) ?_
            refine V.if_eqB (q := 50) (tgt := 54) C dX10_plan_47 rfl rfl (fun hb47 => ?_) (fun hb47 => ?_)
            · refine V.iconst (q := 55) (v := nI 0) C dX10_plan_54 rfl (by decide) ?_
              refine V.istore_n (q := 56) C dX10_plan_55 rfl (by decide) rfl rfl ?_
              refine V.iload_n (q := 57) C dX10_plan_56 rfl rfl ?_
              refine V.if_ne (q := 60) (tgt := 62) C dX10_plan_57 rfl rfl (fun hb57 => ?_) (fun hb57 => ?_)
              · exact absurd rfl hb57
              · have hw : ¬ plW n m q x = true := fun z => by
                  rcases plW_t.mp z with z | z | z
                  · exact hb16 z
                  · exact z.1.elim hb21 hb26
                  · exact hb47 z.2
                refine V.iconst (q := 61) (v := -1) C dX10_plan_60 rfl (by decide) ?_
                exact V.ireturn C dX10_plan_61 ⟨by simp only [planR, hb2, hw, Bool.false_eq_true, ↓reduceIte], by simp only [planA, hb2, hw, Bool.false_eq_true, ↓reduceIte], rfl⟩
            · refine V.iconst (q := 51) (v := nI 1) C dX10_plan_50 rfl (by decide) ?_
              refine V.goto (tgt := 55) C dX10_plan_51 rfl ?_
              refine V.istore_n (q := 56) C dX10_plan_55 rfl (by decide) rfl rfl ?_
              refine V.iload_n (q := 57) C dX10_plan_56 rfl rfl ?_
              refine V.if_ne (q := 60) (tgt := 62) C dX10_plan_57 rfl rfl (fun hb57 => ?_) (fun hb57 => ?_)
              · have hw : plW n m q x = true := plW_t.mpr (Or.inr (Or.inr ⟨hb39, hb47⟩))
                refine V.aload_n (q := 63) C dX10_plan_62 rfl rfl ?_
                refine V.get (q := 66) C fl_X10_9 dX10_plan_63 rfl okM rfl rfl ?_
                refine V.bipush (q := 68) (v := nI 114) C dX10_plan_66 rfl (by decide) ?_
                refine V.ild (q := 69) (i := 114) C dX10_plan_68 rfl okM_0 rfl rfl (by omega) (by decide) ?_
                refine V.topi (x1 := nI (c)) hc ?_
                refine V.bipush (q := 71) (v := nI 10) C dX10_plan_69 rfl (by decide) ?_
                refine V.icmp_ne (q := 74) (tgt := 77) C dX10_plan_71 rfl rfl (fun hb71 => ?_) (fun hb71 => ?_)
                · have hb71 : ¬ c = 10 := fun e => hb71 (by rw [e])
                  refine V.aload_n (q := 78) C dX10_plan_77 rfl rfl ?_
                  refine V.get (q := 81) C fl_X10_9 dX10_plan_78 rfl okM rfl rfl ?_
                  refine V.bipush (q := 83) (v := nI 115) C dX10_plan_81 rfl (by decide) ?_
                  refine V.iconst (q := 84) (v := nI 2) C dX10_plan_83 rfl (by decide) ?_
                  refine V.aload_n (q := 85) C dX10_plan_84 rfl rfl ?_
                  refine V.get (q := 88) C fl_X10_9 dX10_plan_85 rfl okM rfl rfl ?_
                  refine V.bipush (q := 90) (v := nI 114) C dX10_plan_88 rfl (by decide) ?_
                  refine V.ild (q := 91) (i := 114) C dX10_plan_90 rfl okM_0 rfl rfl (by omega) (by decide) ?_
                  refine V.topi (x1 := nI (c)) hc ?_
                  refine V.imul (q := 92) C dX10_plan_91 rfl ?_
                  refine V.topi (x1 := nI (2 * (c))) (pk_mul _ _) ?_
                  refine V.iadd (q := 93) C dX10_plan_92 rfl ?_
                  refine V.topi (x1 := nI (115 + (2 * (c)))) (nI_add _ _) ?_
                  refine V.iload_n (q := 94) C dX10_plan_93 rfl rfl ?_
                  refine V.ist (q := 95) (i := (115 + (2 * (c)))) C dX10_plan_94 rfl okM_0 rfl rfl (by omega) (by decide) uM_now ?_
                  refine V.aload_n (q := 96) C dX10_plan_95 rfl rfl ?_
                  refine V.get (q := 99) C fl_X10_9 dX10_plan_96 rfl okM rfl rfl ?_
                  refine V.bipush (q := 101) (v := nI 116) C dX10_plan_99 rfl (by decide) ?_
                  refine V.iconst (q := 102) (v := nI 2) C dX10_plan_101 rfl (by decide) ?_
                  refine V.aload_n (q := 103) C dX10_plan_102 rfl rfl ?_
                  refine V.get (q := 106) C fl_X10_9 dX10_plan_103 rfl okM rfl rfl ?_
                  refine V.bipush (q := 108) (v := nI 114) C dX10_plan_106 rfl (by decide) ?_
                  refine V.ild (q := 109) (i := 114) C dX10_plan_108 rfl okM_0 rfl rfl (by omega) (by decide) ?_
                  refine V.topi (x1 := nI (c)) ((if_neg (by omega)).trans hc) ?_
                  refine V.imul (q := 110) C dX10_plan_109 rfl ?_
                  refine V.topi (x1 := nI (2 * (c))) (pk_mul _ _) ?_
                  refine V.iadd (q := 111) C dX10_plan_110 rfl ?_
                  refine V.topi (x1 := nI (116 + (2 * (c)))) (nI_add _ _) ?_
                  refine V.iload_n (q := 112) C dX10_plan_111 rfl rfl ?_
                  refine V.ist (q := 113) (i := (116 + (2 * (c)))) C dX10_plan_112 rfl okM_0 rfl rfl (by omega) (by decide) uM_now ?_
                  refine V.aload_n (q := 114) C dX10_plan_113 rfl rfl ?_
                  refine V.get (q := 117) C fl_X10_9 dX10_plan_114 rfl okM rfl rfl ?_
                  refine V.bipush (q := 119) (v := nI 114) C dX10_plan_117 rfl (by decide) ?_
                  refine V.dup2 (q := 120) C dX10_plan_119 rfl rfl rfl ?_
                  refine V.ild (q := 121) (i := 114) C dX10_plan_120 rfl okM_0 rfl rfl (by omega) (by decide) ?_
                  refine V.topi (x1 := nI (c)) ((if_neg (by omega)).trans ((if_neg (by omega)).trans hc)) ?_
                  refine V.iconst (q := 122) (v := nI 1) C dX10_plan_121 rfl (by decide) ?_
                  refine V.iadd (q := 123) C dX10_plan_122 rfl ?_
                  refine V.topi (x1 := nI ((c) + 1)) (nI_add _ _) ?_
                  refine V.ist (q := 124) (i := 114) C dX10_plan_123 rfl okM_0 rfl rfl (by omega) (by decide) uM_now ?_
                  refine V.aload_n (q := 125) C dX10_plan_124 rfl rfl ?_
                  refine V.get (q := 128) C fl_X10_9 dX10_plan_125 rfl okM rfl rfl ?_
                  refine V.bipush (q := 130) (v := nI 114) C dX10_plan_128 rfl (by decide) ?_
                  refine V.ild (q := 131) (i := 114) C dX10_plan_130 rfl okM_0 rfl rfl (by omega) (by decide) ?_
                  refine V.topi (x1 := nI ((c + 1))) (if_pos rfl) ?_
                  exact V.ireturn C dX10_plan_131 ⟨by simp only [planR, hb2, hw, hb71, Bool.false_eq_true, ↓reduceIte], by simp only [planA, hb2, hw, hb71, Bool.false_eq_true, ↓reduceIte], rfl⟩
                · have hb71 : c = 10 := (nI_eq (by omega) (by omega)).mp hb71
                  refine V.bipush (q := 76) (v := -4) C dX10_plan_74 rfl (by decide) ?_
                  exact V.ireturn C dX10_plan_76 ⟨by simp only [planR, hb2, hw, hb71, Bool.false_eq_true, ↓reduceIte], by simp only [planA, hb2, hw, hb71, Bool.false_eq_true, ↓reduceIte], rfl⟩
              · exact absurd hb57 (by decide)
        · refine V.aload_n (q := 30) C dX10_plan_29 rfl rfl ?_
          refine V.iload_n (q := 31) C dX10_plan_30 rfl rfl ?_
          refine V.callVi (q := 34) C me_X10_isOne (m_isOne hn (by omega)) ml_X10_97 dX10_plan_31 rfl okM ⟨_, rfl⟩ rfl rfl (Nat.le_of_ble_eq_true rfl) (by omega) (Nat.zero_le _) (Nat.zero_le _) ?_
          refine V.if_neB (q := 37) (tgt := 50) C dX10_plan_34 rfl rfl (fun hb34 => ?_) (fun hb34 => ?_)
          · refine V.iconst (q := 51) (v := nI 1) C dX10_plan_50 rfl (by decide) ?_
            refine V.goto (tgt := 55) C dX10_plan_51 rfl ?_
            refine V.istore_n (q := 56) C dX10_plan_55 rfl (by decide) rfl rfl ?_
            refine V.iload_n (q := 57) C dX10_plan_56 rfl rfl ?_
            refine V.if_ne (q := 60) (tgt := 62) C dX10_plan_57 rfl rfl (fun hb57 => ?_) (fun hb57 => ?_)
            · have hw : plW n m q x = true := plW_t.mpr (Or.inr (Or.inl ⟨Or.inr hb26, hb34⟩))
              refine V.aload_n (q := 63) C dX10_plan_62 rfl rfl ?_
              refine V.get (q := 66) C fl_X10_9 dX10_plan_63 rfl okM rfl rfl ?_
              refine V.bipush (q := 68) (v := nI 114) C dX10_plan_66 rfl (by decide) ?_
              refine V.ild (q := 69) (i := 114) C dX10_plan_68 rfl okM_0 rfl rfl (by omega) (by decide) ?_
              refine V.topi (x1 := nI (c)) hc ?_
              refine V.bipush (q := 71) (v := nI 10) C dX10_plan_69 rfl (by decide) ?_
              refine V.icmp_ne (q := 74) (tgt := 77) C dX10_plan_71 rfl rfl (fun hb71 => ?_) (fun hb71 => ?_)
              · have hb71 : ¬ c = 10 := fun e => hb71 (by rw [e])
                refine V.aload_n (q := 78) C dX10_plan_77 rfl rfl ?_
                refine V.get (q := 81) C fl_X10_9 dX10_plan_78 rfl okM rfl rfl ?_
                refine V.bipush (q := 83) (v := nI 115) C dX10_plan_81 rfl (by decide) ?_
                refine V.iconst (q := 84) (v := nI 2) C dX10_plan_83 rfl (by decide) ?_
                refine V.aload_n (q := 85) C dX10_plan_84 rfl rfl ?_
                refine V.get (q := 88) C fl_X10_9 dX10_plan_85 rfl okM rfl rfl ?_
                refine V.bipush (q := 90) (v := nI 114) C dX10_plan_88 rfl (by decide) ?_
                refine V.ild (q := 91) (i := 114) C dX10_plan_90 rfl okM_0 rfl rfl (by omega) (by decide) ?_
                refine V.topi (x1 := nI (c)) hc ?_
                refine V.imul (q := 92) C dX10_plan_91 rfl ?_
                refine V.topi (x1 := nI (2 * (c))) (pk_mul _ _) ?_
                refine V.iadd (q := 93) C dX10_plan_92 rfl ?_
                refine V.topi (x1 := nI (115 + (2 * (c)))) (nI_add _ _) ?_
                refine V.iload_n (q := 94) C dX10_plan_93 rfl rfl ?_
                refine V.ist (q := 95) (i := (115 + (2 * (c)))) C dX10_plan_94 rfl okM_0 rfl rfl (by omega) (by decide) uM_now ?_
                refine V.aload_n (q := 96) C dX10_plan_95 rfl rfl ?_
                refine V.get (q := 99) C fl_X10_9 dX10_plan_96 rfl okM rfl rfl ?_
                refine V.bipush (q := 101) (v := nI 116) C dX10_plan_99 rfl (by decide) ?_
                refine V.iconst (q := 102) (v := nI 2) C dX10_plan_101 rfl (by decide) ?_
                refine V.aload_n (q := 103) C dX10_plan_102 rfl rfl ?_
                refine V.get (q := 106) C fl_X10_9 dX10_plan_103 rfl okM rfl rfl ?_
                refine V.bipush (q := 108) (v := nI 114) C dX10_plan_106 rfl (by decide) ?_
                refine V.ild (q := 109) (i := 114) C dX10_plan_108 rfl okM_0 rfl rfl (by omega) (by decide) ?_
                refine V.topi (x1 := nI (c)) ((if_neg (by omega)).trans hc) ?_
                refine V.imul (q := 110) C dX10_plan_109 rfl ?_
                refine V.topi (x1 := nI (2 * (c))) (pk_mul _ _) ?_
                refine V.iadd (q := 111) C dX10_plan_110 rfl ?_
                refine V.topi (x1 := nI (116 + (2 * (c)))) (nI_add _ _) ?_
                refine V.iload_n (q := 112) C dX10_plan_111 rfl rfl ?_
                refine V.ist (q := 113) (i := (116 + (2 * (c)))) C dX10_plan_112 rfl okM_0 rfl rfl (by omega) (by decide) uM_now ?_
                refine V.aload_n (q := 114) C dX10_plan_113 rfl rfl ?_
                refine V.get (q := 117) C fl_X10_9 dX10_plan_114 rfl okM rfl rfl ?_
                refine V.bipush (q := 119) (v := nI 114) C dX10_plan_117 rfl (by decide) ?_
                refine V.dup2 (q := 120) C dX10_plan_119 rfl rfl rfl ?_
                refine V.ild (q := 121) (i := 114) C dX10_plan_120 rfl okM_0 rfl rfl (by omega) (by decide) ?_
                refine V.topi (x1 := nI (c)) ((if_neg (by omega)).trans ((if_neg (by omega)).trans hc)) ?_
                refine V.iconst (q := 122) (v := nI 1) C dX10_plan_121 rfl (by decide) ?_
                refine V.iadd (q := 123) C dX10_plan_122 rfl ?_
                refine V.topi (x1 := nI ((c) + 1)) (nI_add _ _) ?_
                refine V.ist (q := 124) (i := 114) C dX10_plan_123 rfl okM_0 rfl rfl (by omega) (by decide) uM_now ?_
                refine V.aload_n (q := 125) C dX10_plan_124 rfl rfl ?_
                refine V.get (q := 128) C fl_X10_9 dX10_plan_125 rfl okM rfl rfl ?_
                refine V.bipush (q := 130) (v := nI 114) C dX10_plan_128 rfl (by decide) ?_
                refine V.ild (q := 131) (i := 114) C dX10_plan_130 rfl okM_0 rfl rfl (by omega) (by decide) ?_
                refine V.topi (x1 := nI ((c + 1))) (if_pos rfl) ?_
                exact V.ireturn C dX10_plan_131 ⟨by simp only [planR, hb2, hw, hb71, Bool.false_eq_true, ↓reduceIte], by simp only [planA, hb2, hw, hb71, Bool.false_eq_true, ↓reduceIte], rfl⟩
              · have hb71 : c = 10 := (nI_eq (by omega) (by omega)).mp hb71
                refine V.bipush (q := 76) (v := -4) C dX10_plan_74 rfl (by decide) ?_
                exact V.ireturn C dX10_plan_76 ⟨by simp only [planR, hb2, hw, hb71, Bool.false_eq_true, ↓reduceIte], by simp only [planA, hb2, hw, hb71, Bool.false_eq_true, ↓reduceIte], rfl⟩
            · exact absurd hb57 (by decide)
          · refine V.iload_n (q := 38) C dX10_plan_37 rfl rfl ?_
            refine V.iconst (q := 39) (v := nI 2) C dX10_plan_38 rfl (by decide) ?_
            refine V.icmp_ne (q := 42) (tgt := 54) C dX10_plan_39 rfl rfl (fun hb39 => ?_) (fun hb39 => ?_)
            · refine V.iconst (q := 55) (v := nI 0) C dX10_plan_54 rfl (by decide) ?_
              refine V.istore_n (q := 56) C dX10_plan_55 rfl (by decide) rfl rfl ?_
              refine V.iload_n (q := 57) C dX10_plan_56 rfl rfl ?_
              refine V.if_ne (q := 60) (tgt := 62) C dX10_plan_57 rfl rfl (fun hb57 => ?_) (fun hb57 => ?_)
              · exact absurd rfl hb57
              · have hw : ¬ plW n m q x = true := fun z => by
                  rcases plW_t.mp z with z | z | z
                  · exact hb16 z
                  · exact hb34 z.2
                  · exact hb39 z.1
                refine V.iconst (q := 61) (v := -1) C dX10_plan_60 rfl (by decide) ?_
                exact V.ireturn C dX10_plan_61 ⟨by simp only [planR, hb2, hw, Bool.false_eq_true, ↓reduceIte], by simp only [planA, hb2, hw, Bool.false_eq_true, ↓reduceIte], rfl⟩
            · refine V.aload_n (q := 43) C dX10_plan_42 rfl rfl ?_
              refine V.iload_n (q := 44) C dX10_plan_43 rfl rfl ?_
              refine V.callVi (q := 47) C me_X10_isSaying (m_isSaying hm (by omega)) ml_X10_108 dX10_plan_44 rfl okM ⟨_, rfl⟩ rfl rfl (Nat.le_of_ble_eq_true rfl) (by omega) (Nat.zero_le _) (Nat.zero_le _) ?_
              refine V.if_eqB (q := 50) (tgt := 54) C dX10_plan_47 rfl rfl (fun hb47 => ?_) (fun hb47 => ?_)
              · refine V.iconst (q := 55) (v := nI 0) C dX10_plan_54 rfl (by decide) ?_
                refine V.istore_n (q := 56) C dX10_plan_55 rfl (by decide) rfl rfl ?_
                refine V.iload_n (q := 57) C dX10_plan_56 rfl rfl ?_
                refine V.if_ne (q := 60) (tgt := 62) C dX10_plan_57 rfl rfl (fun hb57 => ?_) (fun hb57 => ?_)
                · exact absurd rfl hb57
                · have hw : ¬ plW n m q x = true := fun z => by
                    rcases plW_t.mp z with z | z | z
                    · exact hb16 z
                    · exact hb34 z.2
                    · exact hb47 z.2
                  refine V.iconst (q := 61) (v := -1) C dX10_plan_60 rfl (by decide) ?_
                  exact V.ireturn C dX10_plan_61 ⟨by simp only [planR, hb2, hw, Bool.false_eq_true, ↓reduceIte], by simp only [planA, hb2, hw, Bool.false_eq_true, ↓reduceIte], rfl⟩
              · refine V.iconst (q := 51) (v := nI 1) C dX10_plan_50 rfl (by decide) ?_
                refine V.goto (tgt := 55) C dX10_plan_51 rfl ?_
                refine V.istore_n (q := 56) C dX10_plan_55 rfl (by decide) rfl rfl ?_
                refine V.iload_n (q := 57) C dX10_plan_56 rfl rfl ?_
                refine V.if_ne (q := 60) (tgt := 62) C dX10_plan_57 rfl rfl (fun hb57 => ?_) (fun hb57 => ?_)
                · have hw : plW n m q x = true := plW_t.mpr (Or.inr (Or.inr ⟨hb39, hb47⟩))
                  refine V.aload_n (q := 63) C dX10_plan_62 rfl rfl ?_
                  refine V.get (q := 66) C fl_X10_9 dX10_plan_63 rfl okM rfl rfl ?_
                  refine V.bipush (q := 68) (v := nI 114) C dX10_plan_66 rfl (by decide) ?_
                  refine V.ild (q := 69) (i := 114) C dX10_plan_68 rfl okM_0 rfl rfl (by omega) (by decide) ?_
                  refine V.topi (x1 := nI (c)) hc ?_
                  refine V.bipush (q := 71) (v := nI 10) C dX10_plan_69 rfl (by decide) ?_
                  refine V.icmp_ne (q := 74) (tgt := 77) C dX10_plan_71 rfl rfl (fun hb71 => ?_) (fun hb71 => ?_)
                  · have hb71 : ¬ c = 10 := fun e => hb71 (by rw [e])
                    refine V.aload_n (q := 78) C dX10_plan_77 rfl rfl ?_
                    refine V.get (q := 81) C fl_X10_9 dX10_plan_78 rfl okM rfl rfl ?_
                    refine V.bipush (q := 83) (v := nI 115) C dX10_plan_81 rfl (by decide) ?_
                    refine V.iconst (q := 84) (v := nI 2) C dX10_plan_83 rfl (by decide) ?_
                    refine V.aload_n (q := 85) C dX10_plan_84 rfl rfl ?_
                    refine V.get (q := 88) C fl_X10_9 dX10_plan_85 rfl okM rfl rfl ?_
                    refine V.bipush (q := 90) (v := nI 114) C dX10_plan_88 rfl (by decide) ?_
                    refine V.ild (q := 91) (i := 114) C dX10_plan_90 rfl okM_0 rfl rfl (by omega) (by decide) ?_
                    refine V.topi (x1 := nI (c)) hc ?_
                    refine V.imul (q := 92) C dX10_plan_91 rfl ?_
                    refine V.topi (x1 := nI (2 * (c))) (pk_mul _ _) ?_
                    refine V.iadd (q := 93) C dX10_plan_92 rfl ?_
                    refine V.topi (x1 := nI (115 + (2 * (c)))) (nI_add _ _) ?_
                    refine V.iload_n (q := 94) C dX10_plan_93 rfl rfl ?_
                    refine V.ist (q := 95) (i := (115 + (2 * (c)))) C dX10_plan_94 rfl okM_0 rfl rfl (by omega) (by decide) uM_now ?_
                    refine V.aload_n (q := 96) C dX10_plan_95 rfl rfl ?_
                    refine V.get (q := 99) C fl_X10_9 dX10_plan_96 rfl okM rfl rfl ?_
                    refine V.bipush (q := 101) (v := nI 116) C dX10_plan_99 rfl (by decide) ?_
                    refine V.iconst (q := 102) (v := nI 2) C dX10_plan_101 rfl (by decide) ?_
                    refine V.aload_n (q := 103) C dX10_plan_102 rfl rfl ?_
                    refine V.get (q := 106) C fl_X10_9 dX10_plan_103 rfl okM rfl rfl ?_
                    refine V.bipush (q := 108) (v := nI 114) C dX10_plan_106 rfl (by decide) ?_
                    refine V.ild (q := 109) (i := 114) C dX10_plan_108 rfl okM_0 rfl rfl (by omega) (by decide) ?_
                    refine V.topi (x1 := nI (c)) ((if_neg (by omega)).trans hc) ?_
                    refine V.imul (q := 110) C dX10_plan_109 rfl ?_
                    refine V.topi (x1 := nI (2 * (c))) (pk_mul _ _) ?_
                    refine V.iadd (q := 111) C dX10_plan_110 rfl ?_
                    refine V.topi (x1 := nI (116 + (2 * (c)))) (nI_add _ _) ?_
                    refine V.iload_n (q := 112) C dX10_plan_111 rfl rfl ?_
                    refine V.ist (q := 113) (i := (116 + (2 * (c)))) C dX10_plan_112 rfl okM_0 rfl rfl (by omega) (by decide) uM_now ?_
                    refine V.aload_n (q := 114) C dX10_plan_113 rfl rfl ?_
                    refine V.get (q := 117) C fl_X10_9 dX10_plan_114 rfl okM rfl rfl ?_
                    refine V.bipush (q := 119) (v := nI 114) C dX10_plan_117 rfl (by decide) ?_
                    refine V.dup2 (q := 120) C dX10_plan_119 rfl rfl rfl ?_
                    refine V.ild (q := 121) (i := 114) C dX10_plan_120 rfl okM_0 rfl rfl (by omega) (by decide) ?_
                    refine V.topi (x1 := nI (c)) ((if_neg (by omega)).trans ((if_neg (by omega)).trans hc)) ?_
                    refine V.iconst (q := 122) (v := nI 1) C dX10_plan_121 rfl (by decide) ?_
                    refine V.iadd (q := 123) C dX10_plan_122 rfl ?_
                    refine V.topi (x1 := nI ((c) + 1)) (nI_add _ _) ?_
                    refine V.ist (q := 124) (i := 114) C dX10_plan_123 rfl okM_0 rfl rfl (by omega) (by decide) uM_now ?_
                    refine V.aload_n (q := 125) C dX10_plan_124 rfl rfl ?_
                    refine V.get (q := 128) C fl_X10_9 dX10_plan_125 rfl okM rfl rfl ?_
                    refine V.bipush (q := 130) (v := nI 114) C dX10_plan_128 rfl (by decide) ?_
                    refine V.ild (q := 131) (i := 114) C dX10_plan_130 rfl okM_0 rfl rfl (by omega) (by decide) ?_
                    refine V.topi (x1 := nI ((c + 1))) (if_pos rfl) ?_
                    exact V.ireturn C dX10_plan_131 ⟨by simp only [planR, hb2, hw, hb71, Bool.false_eq_true, ↓reduceIte], by simp only [planA, hb2, hw, hb71, Bool.false_eq_true, ↓reduceIte], rfl⟩
                  · have hb71 : c = 10 := (nI_eq (by omega) (by omega)).mp hb71
                    refine V.bipush (q := 76) (v := -4) C dX10_plan_74 rfl (by decide) ?_
                    exact V.ireturn C dX10_plan_76 ⟨by simp only [planR, hb2, hw, hb71, Bool.false_eq_true, ↓reduceIte], by simp only [planA, hb2, hw, hb71, Bool.false_eq_true, ↓reduceIte], rfl⟩
                · exact absurd hb57 (by decide)
  · refine V.aload_n (q := 6) C dX10_plan_5 rfl rfl ?_
    refine V.get (q := 9) C fl_X10_9 dX10_plan_6 rfl okM rfl rfl ?_
    refine V.bipush (q := 11) (v := nI 114) C dX10_plan_9 rfl (by decide) ?_
    refine V.iconst (q := 12) (v := nI 0) C dX10_plan_11 rfl (by decide) ?_
    refine V.ist (q := 13) (i := 114) C dX10_plan_12 rfl okM_0 rfl rfl (by omega) (by decide) uM_now ?_
    refine V.iconst (q := 14) (v := nI 0) C dX10_plan_13 rfl (by decide) ?_
    exact V.ireturn C dX10_plan_14 ⟨by simp only [planR, hb2, Bool.false_eq_true, ↓reduceIte], by simp only [planA, hb2, Bool.false_eq_true, ↓reduceIte], rfl⟩
def passR (rules sizes A : I1) (m : Nat) (k : Int32) : Int32 := if inR k (nI 0) (nI 60) then (if A 80 + k ≤ nI 9999 then dsA rules sizes m (ix k) A 80 else -3) else -2
def passA (rules sizes A : I1) (m : Nat) (k : Int32) : I1 := if inR k (nI 0) (nI 60) then (if A 80 + k ≤ nI 9999 then dsA rules sizes m (ix k) A else A) else A
theorem m_pass {l : Launch} {g : GG} {X : PHp} {now mind : I1} {th : I1 × Int32} {tx : TXt} {q : SC} {cv hu : I1} {tr : I1 × Int32} {tp : TPt} {n m : Nat} {k : Int32} (hW : WI now n m) (hR : RuI tx.2.2.2.1 now) : Ct l g yX10_pass cX10_pass 2 (some .int) 27 0 0 [rf g (22, 0, 0), .int k] NN (jn X (hM g now mind th tx (zS q cv hu) tr tp)) (xI (fun _ : SC => True) (fun _ => (passR tx.2.2.1 tx.2.2.2.1 now m k)) (fun q1 => (jn X (hM g (passA tx.2.2.1 tx.2.2.2.1 now m k) mind th tx (zS q1 cv hu) tr tp)))) := by
  refine Ct.of (lv := [some (rf g (22, 0, 0)), some (.int k)]) (by decide +kernel) rfl (Nat.le_of_ble_eq_true rfl) ?_
  intro Γ C
  refine V.iload_n (q := 1) C dX10_pass_0 rfl rfl ?_
  refine V.iconst (q := 2) (v := nI 0) C dX10_pass_1 rfl (by decide) ?_
  refine V.bipush (q := 4) (v := nI 60) C dX10_pass_2 rfl (by decide) ?_
  refine V.callSi (q := 7) C me_X10_isIn m_isIn ml_X10_82 dX10_pass_4 rfl rfl rfl (Nat.le_of_ble_eq_true rfl) (by omega) (Nat.zero_le _) (Nat.zero_le _) ?_
  refine V.if_neB (q := 10) (tgt := 13) C dX10_pass_7 rfl rfl (fun hb7 => ?_) (fun hb7 => ?_)
  · obtain ⟨k, hk0, hk, rfl⟩ := InR_nat (a := 0) (b := 60) (by omega) (by omega) hb7
    have ek := ix_nI (i := k) (by omega)
    refine V.aload_n (q := 14) C dX10_pass_13 rfl rfl ?_
    refine V.get (q := 17) C fl_X10_9 dX10_pass_14 rfl okM rfl rfl ?_
    refine V.bipush (q := 19) (v := nI 80) C dX10_pass_17 rfl (by decide) ?_
    refine V.ild (q := 20) (i := 80) C dX10_pass_19 rfl okM_0 rfl rfl (by omega) (by decide) ?_
    refine V.iload_n (q := 21) C dX10_pass_20 rfl rfl ?_
    refine V.iadd (q := 22) C dX10_pass_21 rfl ?_
    refine V.sipush (q := 25) (v := nI 9999) C dX10_pass_22 rfl (by decide) ?_
    refine V.icmp_le (q := 28) (tgt := 31) C dX10_pass_25 rfl rfl (fun hb25 => ?_) (fun hb25 => ?_)
    · refine V.aload_n (q := 32) C dX10_pass_31 rfl rfl ?_
      refine V.iload_n (q := 33) C dX10_pass_32 rfl rfl ?_
      refine V.callVxv (q := 36) C me_X10_days (m_days (by omega) hW hR) ml_X10_205 dX10_pass_33 rfl okM ⟨_, rfl⟩ rfl rfl (Nat.le_of_ble_eq_true rfl) (by omega) (Nat.zero_le _) (Nat.zero_le _) (fun q1 _ => ?_)
      refine V.aload_n (q := 37) C dX10_pass_36 rfl rfl ?_
      refine V.get (q := 40) C fl_X10_9 dX10_pass_37 rfl okM rfl rfl ?_
      refine V.bipush (q := 42) (v := nI 80) C dX10_pass_40 rfl (by decide) ?_
      refine V.ild (q := 43) (i := 80) C dX10_pass_42 rfl okM_0 rfl rfl (by omega) (by decide) ?_
      exact V.ireturn C dX10_pass_43 ⟨q1, trivial, by simp only [passR, hb7, ek, hb25, Bool.false_eq_true, ↓reduceIte], by simp only [passA, hb7, ek, hb25, Bool.false_eq_true, ↓reduceIte], rfl⟩
    · refine V.bipush (q := 30) (v := -3) C dX10_pass_28 rfl (by decide) ?_
      exact V.ireturn C dX10_pass_30 ⟨q, trivial, by simp only [passR, hb7, ek, hb25, Bool.false_eq_true, ↓reduceIte], by simp only [passA, hb7, ek, hb25, Bool.false_eq_true, ↓reduceIte], rfl⟩
  · refine V.bipush (q := 12) (v := -2) C dX10_pass_10 rfl (by decide) ?_
    exact V.ireturn C dX10_pass_12 ⟨q, trivial, by simp only [passR, hb7, Bool.false_eq_true, ↓reduceIte], by simp only [passA, hb7, Bool.false_eq_true, ↓reduceIte], rfl⟩
theorem m_hurtBehind {l : Launch} {g : GG} {X : PHp} {now mind : I1} {th : I1 × Int32} {tx : TXt} {q : SC} {cv hu : I1} {tr : I1 × Int32} {tp : TPt} {n m k : Nat} (hk : k ≤ 60) (hW : WI now n m) (hR : RuI tx.2.2.2.1 now) : Ct l g yX10_hurtBehind cX10_hurtBehind 3 (some .int) 27 0 0 [rf g (22, 0, 0), .int (nI k)] NN (jn X (hM g now mind th tx (zS q cv hu) tr tp)) (xI (fun _ : SC => True) (fun _ => (alR (dsA tx.2.2.1 tx.2.2.2.1 m k now) 4 n)) (fun q1 => (jn X (hM g now now th tx (zS q1 cv hu) tr tp)))) := by
  refine Ct.of (lv := [some (rf g (22, 0, 0)), some (.int (nI k)), none]) (by decide +kernel) rfl (Nat.le_of_ble_eq_true rfl) ?_
  intro Γ C
  refine V.aload_n (q := 1) C dX10_hurtBehind_0 rfl rfl ?_
  refine V.get (q := 4) C fl_X10_9 dX10_hurtBehind_1 rfl okM rfl rfl ?_
  refine V.aload_n (q := 5) C dX10_hurtBehind_4 rfl rfl ?_
  refine V.get (q := 8) C fl_X10_15 dX10_hurtBehind_5 rfl okM rfl rfl ?_
  refine V.callSv (q := 11) C me_X10_move m_move_mind ml_X10_78 dX10_hurtBehind_8 rfl rfl rfl (Nat.le_of_ble_eq_true rfl) (by omega) (Nat.zero_le _) (Nat.zero_le _) ?_
  refine V.aload_n (q := 12) C dX10_hurtBehind_11 rfl rfl ?_
  refine V.iload_n (q := 13) C dX10_hurtBehind_12 rfl rfl ?_
  refine V.callVxv (q := 16) C me_X10_days (m_days (by omega) hW hR) ml_X10_205 dX10_hurtBehind_13 rfl okM ⟨_, rfl⟩ rfl rfl (Nat.le_of_ble_eq_true rfl) (by omega) (Nat.zero_le _) (Nat.zero_le _) (fun q1 _ => ?_)
  refine V.aload_n (q := 17) C dX10_hurtBehind_16 rfl rfl ?_
  refine V.iconst (q := 18) (v := nI 4) C dX10_hurtBehind_17 rfl (by decide) ?_
  refine V.callVi (q := 21) C me_X10_all (m_all (dsA_W hW).1 hW.2.1 (by omega)) ml_X10_202 dX10_hurtBehind_18 rfl okM ⟨_, rfl⟩ rfl rfl (Nat.le_of_ble_eq_true rfl) (by omega) (Nat.zero_le _) (Nat.zero_le _) ?_
  refine V.istore_n (q := 22) C dX10_hurtBehind_21 rfl (by decide) rfl rfl ?_
  refine V.aload_n (q := 23) C dX10_hurtBehind_22 rfl rfl ?_
  refine V.get (q := 26) C fl_X10_15 dX10_hurtBehind_23 rfl okM rfl rfl ?_
  refine V.aload_n (q := 27) C dX10_hurtBehind_26 rfl rfl ?_
  refine V.get (q := 30) C fl_X10_9 dX10_hurtBehind_27 rfl okM rfl rfl ?_
  refine V.callSv (q := 33) C me_X10_move m_move_back ml_X10_78 dX10_hurtBehind_30 rfl rfl rfl (Nat.le_of_ble_eq_true rfl) (by omega) (Nat.zero_le _) (Nat.zero_le _) ?_
  refine V.iload_n (q := 34) C dX10_hurtBehind_33 rfl rfl ?_
  exact V.ireturn C dX10_hurtBehind_34 ⟨q1, trivial, rfl, rfl, rfl⟩
def swA (A : I1) (a b : Nat) : I1 := upd (upd A (9 * a + 2) (A (9 * b + 2))) (9 * b + 2) (A (9 * a + 2))
theorem m_swap {l : Launch} {g : GG} {X : PHp} {now mind : I1} {th : I1 × Int32} {tx : TXt} {z : Zt} {tr : I1 × Int32} {tp : TPt} {a b : Nat} (ha : a < 6) (hb : b < 6) : Ct l g yX10_swap cX10_swap 4 none 3 0 0 [rf g (22, 0, 0), .int (nI a), .int (nI b)] NN (jn X (hM g now mind th tx z tr tp)) (pV (jn X (hM g (swA now a b) mind th tx z tr tp))) := by
  refine Ct.of (lv := [some (rf g (22, 0, 0)), some (.int (nI a)), some (.int (nI b)), none]) (by decide +kernel) rfl (Nat.le_of_ble_eq_true rfl) ?_
  intro Γ C
  refine V.aload_n (q := 1) C dX10_swap_0 rfl rfl ?_
  refine V.iload_n (q := 2) C dX10_swap_1 rfl rfl ?_
  refine V.iconst (q := 3) (v := nI 2) C dX10_swap_2 rfl (by decide) ?_
  refine V.aload_n (q := 4) C dX10_swap_3 rfl rfl ?_
  refine V.iload_n (q := 5) C dX10_swap_4 rfl rfl ?_
  refine V.iconst (q := 6) (v := nI 2) C dX10_swap_5 rfl (by decide) ?_
  refine V.callVi (q := 9) C me_X10_one (m_one (by omega)) ml_X10_86 dX10_swap_6 rfl okM ⟨_, rfl⟩ rfl rfl (Nat.le_of_ble_eq_true rfl) (by omega) (Nat.zero_le _) (Nat.zero_le _) ?_
  refine V.callVi (q := 12) C me_X10_change (m_change (by omega)) ml_X10_93 dX10_swap_9 rfl okM ⟨_, rfl⟩ rfl rfl (Nat.le_of_ble_eq_true rfl) (by omega) (Nat.zero_le _) (Nat.zero_le _) ?_
  refine V.istore_n (q := 13) C dX10_swap_12 rfl (by decide) rfl rfl ?_
  refine V.aload_n (q := 14) C dX10_swap_13 rfl rfl ?_
  refine V.iload_n (q := 15) C dX10_swap_14 rfl rfl ?_
  refine V.iconst (q := 16) (v := nI 2) C dX10_swap_15 rfl (by decide) ?_
  refine V.iload_n (q := 17) C dX10_swap_16 rfl rfl ?_
  refine V.callVi (q := 20) C me_X10_change (m_change (by omega)) ml_X10_93 dX10_swap_17 rfl okM ⟨_, rfl⟩ rfl rfl (Nat.le_of_ble_eq_true rfl) (by omega) (Nat.zero_le _) (Nat.zero_le _) ?_
  refine V.pop (q := 21) C dX10_swap_20 rfl rfl ?_
  exact V.vreturn C dX10_swap_21 ⟨rfl, rfl, rfl⟩
theorem on_rem : ∀ t, t < 4 → ∀ j, j < 6 → nI (10 * t + j) - nI (10 * t + j) / nI 10 * nI 10 = nI j := by decide
theorem on_div : ∀ t, t < 4 → ∀ j, j < 6 → nI (10 * t + j) / nI 10 = nI t := by decide
theorem sub_nI {x : Int32} {a j : Nat} (h : x - nI a = nI j) : x = nI (a + j) := by
  have e : x = (x - nI a) + nI a := (Int32.sub_add_cancel x (nI a)).symm
  rw [e, h, Nat.add_comm]
  exact nI_add j a
/-- what comes along: the reader's numbers, mind, covers, hurts -/
abbrev SD : Type := SC × I1 × I1 × I1
def onV (rules sizes A : I1) (n m : Nat) (k : Int32) (f : I1 → Int32) : Int32 := if inR k (nI 0) (nI 60) then f (dsA rules sizes m (ix k) A) else -2
def onR (rules sizes A : I1) (n m : Nat) (k x : Int32) : Int32 := if x = 0 then onV rules sizes A n m k (fun D => alR D 4 n) else if inN (x - nI 10) n then onV rules sizes A n m k (fun D => D (9 * ix (x - nI 10) + 2)) else if inN (x - nI 20) n then onV rules sizes A n m k (fun D => D (9 * ix (x - nI 20) + 3)) else if inN (x - nI 30) n then onV rules sizes A n m k (fun D => D (9 * ix (x - nI 30) + 4)) else -1
theorem m_on {l : Launch} {g : GG} {X : PHp} {now mind : I1} {th : I1 × Int32} {tx : TXt} {q : SC} {cv hu : I1} {tr : I1 × Int32} {tp : TPt} {n m : Nat} {k x : Int32} (hn6 : n ≤ 6) (hW : WI now n m) (hR : RuI tx.2.2.2.1 now) : Ct l g yX10_on cX10_on 4 (some .int) 27 0 0 [rf g (22, 0, 0), .int k, .int x] NN (jn X (hM g now mind th tx (zS q cv hu) tr tp)) (xI (fun _ : SD => True) (fun _ => (onR tx.2.2.1 tx.2.2.2.1 now n m k x)) (fun q1 => (jn X (hM g now q1.2.1 th tx (zS q1.1 q1.2.2.1 q1.2.2.2) tr tp)))) := by
  refine Ct.of (lv := [some (rf g (22, 0, 0)), some (.int k), some (.int x), none]) (by decide +kernel) rfl (Nat.le_of_ble_eq_true rfl) ?_
  intro Γ C
  refine V.iload_n (q := 1) C dX10_on_0 rfl rfl ?_
  refine V.if_eq (q := 4) (tgt := 39) C dX10_on_1 rfl rfl (fun hb1 => ?_) (fun hb1 => ?_)
  · refine V.iload_n (q := 40) C dX10_on_39 rfl rfl ?_
    refine V.iconst (q := 41) (v := nI 0) C dX10_on_40 rfl (by decide) ?_
    refine V.bipush (q := 43) (v := nI 60) C dX10_on_41 rfl (by decide) ?_
    refine V.callSi (q := 46) C me_X10_isIn m_isIn ml_X10_82 dX10_on_43 rfl rfl rfl (Nat.le_of_ble_eq_true rfl) (by omega) (Nat.zero_le _) (Nat.zero_le _) ?_
    refine V.if_neB (q := 49) (tgt := 52) C dX10_on_46 rfl rfl (fun hb46 => ?_) (fun hb46 => ?_)
    · obtain ⟨k, hk0, hk, rfl⟩ := InR_nat (a := 0) (b := 60) (by omega) (by omega) hb46
      have ek := ix_nI (i := k) (by omega)
      refine V.aload_n (q := 53) C dX10_on_52 rfl rfl ?_
      refine V.get (q := 56) C fl_X10_9 dX10_on_53 rfl okM rfl rfl ?_
      refine V.aload_n (q := 57) C dX10_on_56 rfl rfl ?_
      refine V.get (q := 60) C fl_X10_15 dX10_on_57 rfl okM rfl rfl ?_
      refine V.callSv (q := 63) C me_X10_move m_move_mind ml_X10_78 dX10_on_60 rfl rfl rfl (Nat.le_of_ble_eq_true rfl) (by omega) (Nat.zero_le _) (Nat.zero_le _) ?_
      refine V.aload_n (q := 64) C dX10_on_63 rfl rfl ?_
      refine V.iload_n (q := 65) C dX10_on_64 rfl rfl ?_
      refine V.callVxv (q := 68) C me_X10_days (m_days (by omega) hW hR) ml_X10_205 dX10_on_65 rfl okM ⟨_, rfl⟩ rfl rfl (Nat.le_of_ble_eq_true rfl) (by omega) (Nat.zero_le _) (Nat.zero_le _) (fun q1 _ => ?_)
      refine V.iload_n (q := 69) C dX10_on_68 rfl rfl ?_
      refine V.if_ne (q := 72) (tgt := 80) C dX10_on_69 rfl rfl (fun hb69 => ?_) (fun hb69 => ?_)
      · exact absurd hb1 hb69
      · refine V.aload_n (q := 73) C dX10_on_72 rfl rfl ?_
        refine V.iconst (q := 74) (v := nI 4) C dX10_on_73 rfl (by decide) ?_
        refine V.callVi (q := 77) C me_X10_all (m_all (dsA_W hW).1 hW.2.1 (by omega)) ml_X10_202 dX10_on_74 rfl okM ⟨_, rfl⟩ rfl rfl (Nat.le_of_ble_eq_true rfl) (by omega) (Nat.zero_le _) (Nat.zero_le _) ?_
        refine V.goto (tgt := 94) C dX10_on_77 rfl ?_
        refine V.istore_n (q := 95) C dX10_on_94 rfl (by decide) rfl rfl ?_
        refine V.aload_n (q := 96) C dX10_on_95 rfl rfl ?_
        refine V.get (q := 99) C fl_X10_15 dX10_on_96 rfl okM rfl rfl ?_
        refine V.aload_n (q := 100) C dX10_on_99 rfl rfl ?_
        refine V.get (q := 103) C fl_X10_9 dX10_on_100 rfl okM rfl rfl ?_
        refine V.callSv (q := 106) C me_X10_move m_move_back ml_X10_78 dX10_on_103 rfl rfl rfl (Nat.le_of_ble_eq_true rfl) (by omega) (Nat.zero_le _) (Nat.zero_le _) ?_
        refine V.iload_n (q := 107) C dX10_on_106 rfl rfl ?_
        exact V.ireturn C dX10_on_107 ⟨(q1, now, cv, hu), trivial, by simp only [onR, onV, hb1, hb46, ek, Bool.false_eq_true, ↓reduceIte], rfl, rfl⟩
    · refine V.bipush (q := 51) (v := -2) C dX10_on_49 rfl (by decide) ?_
      exact V.ireturn C dX10_on_51 ⟨(q, mind, cv, hu), trivial, by simp only [onR, onV, hb1, hb46, Bool.false_eq_true, ↓reduceIte], rfl, rfl⟩
  · refine V.aload_n (q := 5) C dX10_on_4 rfl rfl ?_
    refine V.iload_n (q := 6) C dX10_on_5 rfl rfl ?_
    refine V.bipush (q := 8) (v := nI 10) C dX10_on_6 rfl (by decide) ?_
    refine V.isub (q := 9) C dX10_on_8 rfl ?_
    refine V.callVi (q := 12) C me_X10_isOne (m_isOne hW.1 (by omega)) ml_X10_97 dX10_on_9 rfl okM ⟨_, rfl⟩ rfl rfl (Nat.le_of_ble_eq_true rfl) (by omega) (Nat.zero_le _) (Nat.zero_le _) ?_
    refine V.if_neB (q := 15) (tgt := 39) C dX10_on_12 rfl rfl (fun hb12 => ?_) (fun hb12 => ?_)
    · obtain ⟨j, hj, ej⟩ := InN_nat (by omega) hb12
      obtain rfl := sub_nI ej
      have ij := ix_nI (i := j) (by omega)
      rw [ej] at hb12
      refine V.iload_n (q := 40) C dX10_on_39 rfl rfl ?_
      refine V.iconst (q := 41) (v := nI 0) C dX10_on_40 rfl (by decide) ?_
      refine V.bipush (q := 43) (v := nI 60) C dX10_on_41 rfl (by decide) ?_
      refine V.callSi (q := 46) C me_X10_isIn m_isIn ml_X10_82 dX10_on_43 rfl rfl rfl (Nat.le_of_ble_eq_true rfl) (by omega) (Nat.zero_le _) (Nat.zero_le _) ?_
      refine V.if_neB (q := 49) (tgt := 52) C dX10_on_46 rfl rfl (fun hb46 => ?_) (fun hb46 => ?_)
      · obtain ⟨k, hk0, hk, rfl⟩ := InR_nat (a := 0) (b := 60) (by omega) (by omega) hb46
        have ek := ix_nI (i := k) (by omega)
        refine V.aload_n (q := 53) C dX10_on_52 rfl rfl ?_
        refine V.get (q := 56) C fl_X10_9 dX10_on_53 rfl okM rfl rfl ?_
        refine V.aload_n (q := 57) C dX10_on_56 rfl rfl ?_
        refine V.get (q := 60) C fl_X10_15 dX10_on_57 rfl okM rfl rfl ?_
        refine V.callSv (q := 63) C me_X10_move m_move_mind ml_X10_78 dX10_on_60 rfl rfl rfl (Nat.le_of_ble_eq_true rfl) (by omega) (Nat.zero_le _) (Nat.zero_le _) ?_
        refine V.aload_n (q := 64) C dX10_on_63 rfl rfl ?_
        refine V.iload_n (q := 65) C dX10_on_64 rfl rfl ?_
        refine V.callVxv (q := 68) C me_X10_days (m_days (by omega) hW hR) ml_X10_205 dX10_on_65 rfl okM ⟨_, rfl⟩ rfl rfl (Nat.le_of_ble_eq_true rfl) (by omega) (Nat.zero_le _) (Nat.zero_le _) (fun q1 _ => ?_)
        refine V.iload_n (q := 69) C dX10_on_68 rfl rfl ?_
        refine V.if_ne (q := 72) (tgt := 80) C dX10_on_69 rfl rfl (fun hb69 => ?_) (fun hb69 => ?_)
        · refine V.aload_n (q := 81) C dX10_on_80 rfl rfl ?_
          refine V.iload_n (q := 82) C dX10_on_81 rfl rfl ?_
          refine V.bipush (q := 84) (v := nI 10) C dX10_on_82 rfl (by decide) ?_
          refine V.irem (q := 85) C dX10_on_84 rfl (by decide) ?_
          refine V.topi (x1 := nI (j)) (on_rem 1 (by omega) j (by omega)) ?_
          refine V.iload_n (q := 86) C dX10_on_85 rfl rfl ?_
          refine V.bipush (q := 88) (v := nI 10) C dX10_on_86 rfl (by decide) ?_
          refine V.idiv (q := 89) C dX10_on_88 rfl (by decide) ?_
          refine V.topi (x1 := nI (1)) (on_div 1 (by omega) j (by omega)) ?_
          refine V.iconst (q := 90) (v := nI 1) C dX10_on_89 rfl (by decide) ?_
          refine V.iadd (q := 91) C dX10_on_90 rfl ?_
          refine V.topi (x1 := nI ((1) + 1)) (nI_add _ _) ?_
          refine V.callVi (q := 94) C me_X10_one (m_one (by omega)) ml_X10_86 dX10_on_91 rfl okM ⟨_, rfl⟩ rfl rfl (Nat.le_of_ble_eq_true rfl) (by omega) (Nat.zero_le _) (Nat.zero_le _) ?_
          refine V.istore_n (q := 95) C dX10_on_94 rfl (by decide) rfl rfl ?_
          refine V.aload_n (q := 96) C dX10_on_95 rfl rfl ?_
          refine V.get (q := 99) C fl_X10_15 dX10_on_96 rfl okM rfl rfl ?_
          refine V.aload_n (q := 100) C dX10_on_99 rfl rfl ?_
          refine V.get (q := 103) C fl_X10_9 dX10_on_100 rfl okM rfl rfl ?_
          refine V.callSv (q := 106) C me_X10_move m_move_back ml_X10_78 dX10_on_103 rfl rfl rfl (Nat.le_of_ble_eq_true rfl) (by omega) (Nat.zero_le _) (Nat.zero_le _) ?_
          refine V.iload_n (q := 107) C dX10_on_106 rfl rfl ?_
          exact V.ireturn C dX10_on_107 ⟨(q1, now, cv, hu), trivial, by simp only [onR, onV, hb1, hb12, hb46, ek, ej, ij, Bool.false_eq_true, ↓reduceIte], rfl, rfl⟩
        · exact absurd hb69 hb1
      · refine V.bipush (q := 51) (v := -2) C dX10_on_49 rfl (by decide) ?_
        exact V.ireturn C dX10_on_51 ⟨(q, mind, cv, hu), trivial, by simp only [onR, onV, hb1, hb12, hb46, ej, ij, Bool.false_eq_true, ↓reduceIte], rfl, rfl⟩
    · refine V.aload_n (q := 16) C dX10_on_15 rfl rfl ?_
      refine V.iload_n (q := 17) C dX10_on_16 rfl rfl ?_
      refine V.bipush (q := 19) (v := nI 20) C dX10_on_17 rfl (by decide) ?_
      refine V.isub (q := 20) C dX10_on_19 rfl ?_
      refine V.callVi (q := 23) C me_X10_isOne (m_isOne hW.1 (by omega)) ml_X10_97 dX10_on_20 rfl okM ⟨_, rfl⟩ rfl rfl (Nat.le_of_ble_eq_true rfl) (by omega) (Nat.zero_le _) (Nat.zero_le _) ?_
      refine V.if_neB (q := 26) (tgt := 39) C dX10_on_23 rfl rfl (fun hb23 => ?_) (fun hb23 => ?_)
      · obtain ⟨j, hj, ej⟩ := InN_nat (by omega) hb23
        obtain rfl := sub_nI ej
        have ij := ix_nI (i := j) (by omega)
        rw [ej] at hb23
        refine V.iload_n (q := 40) C dX10_on_39 rfl rfl ?_
        refine V.iconst (q := 41) (v := nI 0) C dX10_on_40 rfl (by decide) ?_
        refine V.bipush (q := 43) (v := nI 60) C dX10_on_41 rfl (by decide) ?_
        refine V.callSi (q := 46) C me_X10_isIn m_isIn ml_X10_82 dX10_on_43 rfl rfl rfl (Nat.le_of_ble_eq_true rfl) (by omega) (Nat.zero_le _) (Nat.zero_le _) ?_
        refine V.if_neB (q := 49) (tgt := 52) C dX10_on_46 rfl rfl (fun hb46 => ?_) (fun hb46 => ?_)
        · obtain ⟨k, hk0, hk, rfl⟩ := InR_nat (a := 0) (b := 60) (by omega) (by omega) hb46
          have ek := ix_nI (i := k) (by omega)
          refine V.aload_n (q := 53) C dX10_on_52 rfl rfl ?_
          refine V.get (q := 56) C fl_X10_9 dX10_on_53 rfl okM rfl rfl ?_
          refine V.aload_n (q := 57) C dX10_on_56 rfl rfl ?_
          refine V.get (q := 60) C fl_X10_15 dX10_on_57 rfl okM rfl rfl ?_
          refine V.callSv (q := 63) C me_X10_move m_move_mind ml_X10_78 dX10_on_60 rfl rfl rfl (Nat.le_of_ble_eq_true rfl) (by omega) (Nat.zero_le _) (Nat.zero_le _) ?_
          refine V.aload_n (q := 64) C dX10_on_63 rfl rfl ?_
          refine V.iload_n (q := 65) C dX10_on_64 rfl rfl ?_
          refine V.callVxv (q := 68) C me_X10_days (m_days (by omega) hW hR) ml_X10_205 dX10_on_65 rfl okM ⟨_, rfl⟩ rfl rfl (Nat.le_of_ble_eq_true rfl) (by omega) (Nat.zero_le _) (Nat.zero_le _) (fun q1 _ => ?_)
          refine V.iload_n (q := 69) C dX10_on_68 rfl rfl ?_
          refine V.if_ne (q := 72) (tgt := 80) C dX10_on_69 rfl rfl (fun hb69 => ?_) (fun hb69 => ?_)
          · refine V.aload_n (q := 81) C dX10_on_80 rfl rfl ?_
            refine V.iload_n (q := 82) C dX10_on_81 rfl rfl ?_
            refine V.bipush (q := 84) (v := nI 10) C dX10_on_82 rfl (by decide) ?_
            refine V.irem (q := 85) C dX10_on_84 rfl (by decide) ?_
            refine V.topi (x1 := nI (j)) (on_rem 2 (by omega) j (by omega)) ?_
            refine V.iload_n (q := 86) C dX10_on_85 rfl rfl ?_
            refine V.bipush (q := 88) (v := nI 10) C dX10_on_86 rfl (by decide) ?_
            refine V.idiv (q := 89) C dX10_on_88 rfl (by decide) ?_
            refine V.topi (x1 := nI (2)) (on_div 2 (by omega) j (by omega)) ?_
            refine V.iconst (q := 90) (v := nI 1) C dX10_on_89 rfl (by decide) ?_
            refine V.iadd (q := 91) C dX10_on_90 rfl ?_
            refine V.topi (x1 := nI ((2) + 1)) (nI_add _ _) ?_
            refine V.callVi (q := 94) C me_X10_one (m_one (by omega)) ml_X10_86 dX10_on_91 rfl okM ⟨_, rfl⟩ rfl rfl (Nat.le_of_ble_eq_true rfl) (by omega) (Nat.zero_le _) (Nat.zero_le _) ?_
            refine V.istore_n (q := 95) C dX10_on_94 rfl (by decide) rfl rfl ?_
            refine V.aload_n (q := 96) C dX10_on_95 rfl rfl ?_
            refine V.get (q := 99) C fl_X10_15 dX10_on_96 rfl okM rfl rfl ?_
            refine V.aload_n (q := 100) C dX10_on_99 rfl rfl ?_
            refine V.get (q := 103) C fl_X10_9 dX10_on_100 rfl okM rfl rfl ?_
            refine V.callSv (q := 106) C me_X10_move m_move_back ml_X10_78 dX10_on_103 rfl rfl rfl (Nat.le_of_ble_eq_true rfl) (by omega) (Nat.zero_le _) (Nat.zero_le _) ?_
            refine V.iload_n (q := 107) C dX10_on_106 rfl rfl ?_
            exact V.ireturn C dX10_on_107 ⟨(q1, now, cv, hu), trivial, by simp only [onR, onV, hb1, hb12, hb23, hb46, ek, ej, ij, Bool.false_eq_true, ↓reduceIte], rfl, rfl⟩
          · exact absurd hb69 hb1
        · refine V.bipush (q := 51) (v := -2) C dX10_on_49 rfl (by decide) ?_
          exact V.ireturn C dX10_on_51 ⟨(q, mind, cv, hu), trivial, by simp only [onR, onV, hb1, hb12, hb23, hb46, ej, ij, Bool.false_eq_true, ↓reduceIte], rfl, rfl⟩
      · refine V.aload_n (q := 27) C dX10_on_26 rfl rfl ?_
        refine V.iload_n (q := 28) C dX10_on_27 rfl rfl ?_
        refine V.bipush (q := 30) (v := nI 30) C dX10_on_28 rfl (by decide) ?_
        refine V.isub (q := 31) C dX10_on_30 rfl ?_
        refine V.callVi (q := 34) C me_X10_isOne (m_isOne hW.1 (by omega)) ml_X10_97 dX10_on_31 rfl okM ⟨_, rfl⟩ rfl rfl (Nat.le_of_ble_eq_true rfl) (by omega) (Nat.zero_le _) (Nat.zero_le _) ?_
        refine V.if_neB (q := 37) (tgt := 39) C dX10_on_34 rfl rfl (fun hb34 => ?_) (fun hb34 => ?_)
        · obtain ⟨j, hj, ej⟩ := InN_nat (by omega) hb34
          obtain rfl := sub_nI ej
          have ij := ix_nI (i := j) (by omega)
          rw [ej] at hb34
          refine V.iload_n (q := 40) C dX10_on_39 rfl rfl ?_
          refine V.iconst (q := 41) (v := nI 0) C dX10_on_40 rfl (by decide) ?_
          refine V.bipush (q := 43) (v := nI 60) C dX10_on_41 rfl (by decide) ?_
          refine V.callSi (q := 46) C me_X10_isIn m_isIn ml_X10_82 dX10_on_43 rfl rfl rfl (Nat.le_of_ble_eq_true rfl) (by omega) (Nat.zero_le _) (Nat.zero_le _) ?_
          refine V.if_neB (q := 49) (tgt := 52) C dX10_on_46 rfl rfl (fun hb46 => ?_) (fun hb46 => ?_)
          · obtain ⟨k, hk0, hk, rfl⟩ := InR_nat (a := 0) (b := 60) (by omega) (by omega) hb46
            have ek := ix_nI (i := k) (by omega)
            refine V.aload_n (q := 53) C dX10_on_52 rfl rfl ?_
            refine V.get (q := 56) C fl_X10_9 dX10_on_53 rfl okM rfl rfl ?_
            refine V.aload_n (q := 57) C dX10_on_56 rfl rfl ?_
            refine V.get (q := 60) C fl_X10_15 dX10_on_57 rfl okM rfl rfl ?_
            refine V.callSv (q := 63) C me_X10_move m_move_mind ml_X10_78 dX10_on_60 rfl rfl rfl (Nat.le_of_ble_eq_true rfl) (by omega) (Nat.zero_le _) (Nat.zero_le _) ?_
            refine V.aload_n (q := 64) C dX10_on_63 rfl rfl ?_
            refine V.iload_n (q := 65) C dX10_on_64 rfl rfl ?_
            refine V.callVxv (q := 68) C me_X10_days (m_days (by omega) hW hR) ml_X10_205 dX10_on_65 rfl okM ⟨_, rfl⟩ rfl rfl (Nat.le_of_ble_eq_true rfl) (by omega) (Nat.zero_le _) (Nat.zero_le _) (fun q1 _ => ?_)
            refine V.iload_n (q := 69) C dX10_on_68 rfl rfl ?_
            refine V.if_ne (q := 72) (tgt := 80) C dX10_on_69 rfl rfl (fun hb69 => ?_) (fun hb69 => ?_)
            · refine V.aload_n (q := 81) C dX10_on_80 rfl rfl ?_
              refine V.iload_n (q := 82) C dX10_on_81 rfl rfl ?_
              refine V.bipush (q := 84) (v := nI 10) C dX10_on_82 rfl (by decide) ?_
              refine V.irem (q := 85) C dX10_on_84 rfl (by decide) ?_
              refine V.topi (x1 := nI (j)) (on_rem 3 (by omega) j (by omega)) ?_
              refine V.iload_n (q := 86) C dX10_on_85 rfl rfl ?_
              refine V.bipush (q := 88) (v := nI 10) C dX10_on_86 rfl (by decide) ?_
              refine V.idiv (q := 89) C dX10_on_88 rfl (by decide) ?_
              refine V.topi (x1 := nI (3)) (on_div 3 (by omega) j (by omega)) ?_
              refine V.iconst (q := 90) (v := nI 1) C dX10_on_89 rfl (by decide) ?_
              refine V.iadd (q := 91) C dX10_on_90 rfl ?_
              refine V.topi (x1 := nI ((3) + 1)) (nI_add _ _) ?_
              refine V.callVi (q := 94) C me_X10_one (m_one (by omega)) ml_X10_86 dX10_on_91 rfl okM ⟨_, rfl⟩ rfl rfl (Nat.le_of_ble_eq_true rfl) (by omega) (Nat.zero_le _) (Nat.zero_le _) ?_
              refine V.istore_n (q := 95) C dX10_on_94 rfl (by decide) rfl rfl ?_
              refine V.aload_n (q := 96) C dX10_on_95 rfl rfl ?_
              refine V.get (q := 99) C fl_X10_15 dX10_on_96 rfl okM rfl rfl ?_
              refine V.aload_n (q := 100) C dX10_on_99 rfl rfl ?_
              refine V.get (q := 103) C fl_X10_9 dX10_on_100 rfl okM rfl rfl ?_
              refine V.callSv (q := 106) C me_X10_move m_move_back ml_X10_78 dX10_on_103 rfl rfl rfl (Nat.le_of_ble_eq_true rfl) (by omega) (Nat.zero_le _) (Nat.zero_le _) ?_
              refine V.iload_n (q := 107) C dX10_on_106 rfl rfl ?_
              exact V.ireturn C dX10_on_107 ⟨(q1, now, cv, hu), trivial, by simp only [onR, onV, hb1, hb12, hb23, hb34, hb46, ek, ej, ij, Bool.false_eq_true, ↓reduceIte], rfl, rfl⟩
            · exact absurd hb69 hb1
          · refine V.bipush (q := 51) (v := -2) C dX10_on_49 rfl (by decide) ?_
            exact V.ireturn C dX10_on_51 ⟨(q, mind, cv, hu), trivial, by simp only [onR, onV, hb1, hb12, hb23, hb34, hb46, ej, ij, Bool.false_eq_true, ↓reduceIte], rfl, rfl⟩
        · refine V.iconst (q := 38) (v := -1) C dX10_on_37 rfl (by decide) ?_
          exact V.ireturn C dX10_on_38 ⟨(q, mind, cv, hu), trivial, by simp only [onR, onV, hb1, hb12, hb23, hb34, Bool.false_eq_true, ↓reduceIte], rfl, rfl⟩
def lkF (A : I1) : Nat → Nat → Int32
  | 0, _ => -5
  | k + 1, r => if A (9 * ix (A (136 + 2 * r)) + 2) = A (137 + 2 * r) then lkF A k (r + 1) else nI r
theorem m_looked_l {l : Launch} {g : GG} {X : PHp} {now mind : I1} {th : I1 × Int32} {tx : TXt} {z : Zt} {tr : I1 × Int32} {tp : TPt} {Γ : Cxt} {c : Nat} (hc : now 135 = nI c) (hc5 : c ≤ 8) (hb : ∀ r, r < c → ∃ i, i < 6 ∧ now (136 + 2 * r) = nI i) (C : Cx Γ g cX10_looked yX10_looked 2 (some .int) 2 0 0) : ∀ k r : Nat, r + k = c → V l Γ g 2 (QM Γ g (pI (lkF now k r) (jn X (hM g now mind th tx z tr tp))) 0 0) 0 0 NN (jn X (hM g now mind th tx z tr tp)) 2 [some (rf g (22, 0, 0)), some (.int (nI r))] [] := by
  intro k
  induction k with
  | zero =>
    intro r hr
    obtain rfl : r = c := by omega
    refine V.iload_n (q := 3) C dX10_looked_2 rfl rfl ?_
    refine V.aload_n (q := 4) C dX10_looked_3 rfl rfl ?_
    refine V.get (q := 7) C fl_X10_9 dX10_looked_4 rfl okM rfl rfl ?_
    refine V.sipush (q := 10) (v := nI 135) C dX10_looked_7 rfl (by decide) ?_
    refine V.ild (q := 11) (i := 135) C dX10_looked_10 rfl okM_0 rfl rfl (by omega) (by decide) ?_
    refine V.topi (x1 := nI (r)) hc ?_
    refine V.icmp_ge (q := 14) (tgt := 54) C dX10_looked_11 rfl rfl (fun hb11 => ?_) (fun hb11 => ?_)
    · refine V.bipush (q := 56) (v := -5) C dX10_looked_54 rfl (by decide) ?_
      exact V.ireturn C dX10_looked_56 ⟨rfl, rfl, rfl⟩
    · exact absurd ((nI_leI (by omega) (by omega)).mpr (by omega)) hb11
  | succ k ih =>
    intro r hr
    obtain ⟨i, hi, ei⟩ := hb r (by omega)
    have ii := ix_nI (i := i) (by omega)
    refine V.iload_n (q := 3) C dX10_looked_2 rfl rfl ?_
    refine V.aload_n (q := 4) C dX10_looked_3 rfl rfl ?_
    refine V.get (q := 7) C fl_X10_9 dX10_looked_4 rfl okM rfl rfl ?_
    refine V.sipush (q := 10) (v := nI 135) C dX10_looked_7 rfl (by decide) ?_
    refine V.ild (q := 11) (i := 135) C dX10_looked_10 rfl okM_0 rfl rfl (by omega) (by decide) ?_
    refine V.topi (x1 := nI (c)) hc ?_
    refine V.icmp_ge (q := 14) (tgt := 54) C dX10_looked_11 rfl rfl (fun hb11 => ?_) (fun hb11 => ?_)
    · exact absurd ((nI_leI (by omega) (by omega)).mp hb11) (by omega)
    · refine V.aload_n (q := 15) C dX10_looked_14 rfl rfl ?_
      refine V.aload_n (q := 16) C dX10_looked_15 rfl rfl ?_
      refine V.get (q := 19) C fl_X10_9 dX10_looked_16 rfl okM rfl rfl ?_
      refine V.sipush (q := 22) (v := nI 136) C dX10_looked_19 rfl (by decide) ?_
      refine V.iconst (q := 23) (v := nI 2) C dX10_looked_22 rfl (by decide) ?_
      refine V.iload_n (q := 24) C dX10_looked_23 rfl rfl ?_
      refine V.imul (q := 25) C dX10_looked_24 rfl ?_
      refine V.topi (x1 := nI (2 * r)) (pk_mul _ _) ?_
      refine V.iadd (q := 26) C dX10_looked_25 rfl ?_
      refine V.topi (x1 := nI (136 + (2 * r))) (nI_add _ _) ?_
      refine V.ild (q := 27) (i := (136 + (2 * r))) C dX10_looked_26 rfl okM_0 rfl rfl (by omega) (by decide) ?_
      refine V.topi (x1 := nI (i)) ei ?_
      refine V.iconst (q := 28) (v := nI 2) C dX10_looked_27 rfl (by decide) ?_
      refine V.callVi (q := 31) C me_X10_one (m_one (by omega)) ml_X10_86 dX10_looked_28 rfl okM ⟨_, rfl⟩ rfl rfl (Nat.le_of_ble_eq_true rfl) (by omega) (Nat.zero_le _) (Nat.zero_le _) ?_
      refine V.aload_n (q := 32) C dX10_looked_31 rfl rfl ?_
      refine V.get (q := 35) C fl_X10_9 dX10_looked_32 rfl okM rfl rfl ?_
      refine V.sipush (q := 38) (v := nI 137) C dX10_looked_35 rfl (by decide) ?_
      refine V.iconst (q := 39) (v := nI 2) C dX10_looked_38 rfl (by decide) ?_
      refine V.iload_n (q := 40) C dX10_looked_39 rfl rfl ?_
      refine V.imul (q := 41) C dX10_looked_40 rfl ?_
      refine V.topi (x1 := nI (2 * r)) (pk_mul _ _) ?_
      refine V.iadd (q := 42) C dX10_looked_41 rfl ?_
      refine V.topi (x1 := nI (137 + (2 * r))) (nI_add _ _) ?_
      refine V.ild (q := 43) (i := (137 + (2 * r))) C dX10_looked_42 rfl okM_0 rfl rfl (by omega) (by decide) ?_
      refine V.icmp_eq (q := 46) (tgt := 48) C dX10_looked_43 rfl rfl (fun hb43 => ?_) (fun hb43 => ?_)
      · refine V.iinc (q := 51) (v := nI (r + 1)) C dX10_looked_48 rfl rfl (nI_1 _) (by decide) rfl rfl ?_
        refine V.goto (tgt := 2) C dX10_looked_51 rfl ?_
        have e : lkF now (k + 1) r = lkF now k (r + 1) := by simp only [lkF, ei, ii, hb43, ↓reduceIte]
        rw [e]
        exact ih (r + 1) (by omega)
      · refine V.iload_n (q := 47) C dX10_looked_46 rfl rfl ?_
        exact V.ireturn C dX10_looked_47 ⟨by simp only [lkF, ei, ii, hb43, ↓reduceIte], rfl, rfl⟩
theorem m_looked {l : Launch} {g : GG} {X : PHp} {now mind : I1} {th : I1 × Int32} {tx : TXt} {z : Zt} {tr : I1 × Int32} {tp : TPt} {c : Nat} (hc : now 135 = nI c) (hc5 : c ≤ 8) (hb : ∀ r, r < c → ∃ i, i < 6 ∧ now (136 + 2 * r) = nI i) : Ct l g yX10_looked cX10_looked 2 (some .int) 2 0 0 [rf g (22, 0, 0)] NN (jn X (hM g now mind th tx z tr tp)) (pI (lkF now c 0) (jn X (hM g now mind th tx z tr tp))) := by
  refine Ct.of (lv := [some (rf g (22, 0, 0)), none]) (by decide +kernel) rfl (Nat.le_of_ble_eq_true rfl) ?_
  intro Γ C
  refine V.iconst (q := 1) (v := nI 0) C dX10_looked_0 rfl (by decide) ?_
  refine V.istore_n (q := 2) C dX10_looked_1 rfl (by decide) rfl rfl ?_
  exact m_looked_l hc hc5 hb C c 0 (by omega)
def countR (A : I1) (ruled texted ran x : Int32) : Int32 := if x = nI 0 then A 78 else if x = nI 1 then A 79 else if x = nI 2 then ruled else if x = nI 3 then A 82 else if x = nI 4 then A 98 else if x = nI 5 then A 114 else if x = nI 6 then A 135 else if x = nI 7 then texted else if x = nI 8 then ran else -2
theorem m_count {l : Launch} {g : GG} {X : PHp} {now mind : I1} {th : I1 × Int32} {tx : TXt} {z : Zt} {tr : I1 × Int32} {tp : TPt} {x : Int32} : Ct l g yX10_count cX10_count 2 (some .int) 1 0 0 [rf g (22, 0, 0), .int x] NN (jn X (hM g now mind th tx z tr tp)) (pI (countR now tx.2.2.2.2 tx.2.1 tr.2 x) (jn X (hM g now mind th tx z tr tp))) := by
  refine Ct.of (lv := [some (rf g (22, 0, 0)), some (.int x)]) (by decide +kernel) rfl (Nat.le_of_ble_eq_true rfl) ?_
  intro Γ C
  refine V.iload_n (q := 1) C dX10_count_0 rfl rfl ?_
  refine V.tsw (lo := 0) (N := 9) (tgt := 116) C dX10_count_1 (by decide) (by decide) rfl (fun k hk hx1 => ?_) (fun hx1 => ?_)
  · obtain rfl | rfl | rfl | rfl | rfl | rfl | rfl | rfl | rfl := (show k = 0 ∨ k = 1 ∨ k = 2 ∨ k = 3 ∨ k = 4 ∨ k = 5 ∨ k = 6 ∨ k = 7 ∨ k = 8 by omega)
    · refine ⟨_, 52, rfl, rfl, ?_⟩
      replace hx1 : _ = nI 0 := hx1
      refine V.aload_n (q := 53) C dX10_count_52 rfl rfl ?_
      refine V.get (q := 56) C fl_X10_9 dX10_count_53 rfl okM rfl rfl ?_
      refine V.bipush (q := 58) (v := nI 78) C dX10_count_56 rfl (by decide) ?_
      refine V.ild (q := 59) (i := 78) C dX10_count_58 rfl okM_0 rfl rfl (by omega) (by decide) ?_
      exact V.ireturn C dX10_count_59 ⟨by rw [hx1]; rfl, rfl, rfl⟩
    · refine ⟨_, 60, rfl, rfl, ?_⟩
      replace hx1 : _ = nI 1 := hx1
      refine V.aload_n (q := 61) C dX10_count_60 rfl rfl ?_
      refine V.get (q := 64) C fl_X10_9 dX10_count_61 rfl okM rfl rfl ?_
      refine V.bipush (q := 66) (v := nI 79) C dX10_count_64 rfl (by decide) ?_
      refine V.ild (q := 67) (i := 79) C dX10_count_66 rfl okM_0 rfl rfl (by omega) (by decide) ?_
      exact V.ireturn C dX10_count_67 ⟨by rw [hx1]; rfl, rfl, rfl⟩
    · refine ⟨_, 68, rfl, rfl, ?_⟩
      replace hx1 : _ = nI 2 := hx1
      refine V.aload_n (q := 69) C dX10_count_68 rfl rfl ?_
      refine V.get (q := 72) C fl_X10_175 dX10_count_69 rfl okM rfl rfl ?_
      exact V.ireturn C dX10_count_72 ⟨by rw [hx1]; rfl, rfl, rfl⟩
    · refine ⟨_, 73, rfl, rfl, ?_⟩
      replace hx1 : _ = nI 3 := hx1
      refine V.aload_n (q := 74) C dX10_count_73 rfl rfl ?_
      refine V.get (q := 77) C fl_X10_9 dX10_count_74 rfl okM rfl rfl ?_
      refine V.bipush (q := 79) (v := nI 82) C dX10_count_77 rfl (by decide) ?_
      refine V.ild (q := 80) (i := 82) C dX10_count_79 rfl okM_0 rfl rfl (by omega) (by decide) ?_
      exact V.ireturn C dX10_count_80 ⟨by rw [hx1]; rfl, rfl, rfl⟩
    · refine ⟨_, 81, rfl, rfl, ?_⟩
      replace hx1 : _ = nI 4 := hx1
      refine V.aload_n (q := 82) C dX10_count_81 rfl rfl ?_
      refine V.get (q := 85) C fl_X10_9 dX10_count_82 rfl okM rfl rfl ?_
      refine V.bipush (q := 87) (v := nI 98) C dX10_count_85 rfl (by decide) ?_
      refine V.ild (q := 88) (i := 98) C dX10_count_87 rfl okM_0 rfl rfl (by omega) (by decide) ?_
      exact V.ireturn C dX10_count_88 ⟨by rw [hx1]; rfl, rfl, rfl⟩
    · refine ⟨_, 89, rfl, rfl, ?_⟩
      replace hx1 : _ = nI 5 := hx1
      refine V.aload_n (q := 90) C dX10_count_89 rfl rfl ?_
      refine V.get (q := 93) C fl_X10_9 dX10_count_90 rfl okM rfl rfl ?_
      refine V.bipush (q := 95) (v := nI 114) C dX10_count_93 rfl (by decide) ?_
      refine V.ild (q := 96) (i := 114) C dX10_count_95 rfl okM_0 rfl rfl (by omega) (by decide) ?_
      exact V.ireturn C dX10_count_96 ⟨by rw [hx1]; rfl, rfl, rfl⟩
    · refine ⟨_, 97, rfl, rfl, ?_⟩
      replace hx1 : _ = nI 6 := hx1
      refine V.aload_n (q := 98) C dX10_count_97 rfl rfl ?_
      refine V.get (q := 101) C fl_X10_9 dX10_count_98 rfl okM rfl rfl ?_
      refine V.sipush (q := 104) (v := nI 135) C dX10_count_101 rfl (by decide) ?_
      refine V.ild (q := 105) (i := 135) C dX10_count_104 rfl okM_0 rfl rfl (by omega) (by decide) ?_
      exact V.ireturn C dX10_count_105 ⟨by rw [hx1]; rfl, rfl, rfl⟩
    · refine ⟨_, 106, rfl, rfl, ?_⟩
      replace hx1 : _ = nI 7 := hx1
      refine V.aload_n (q := 107) C dX10_count_106 rfl rfl ?_
      refine V.get (q := 110) C fl_X10_120 dX10_count_107 rfl okM rfl rfl ?_
      exact V.ireturn C dX10_count_110 ⟨by rw [hx1]; rfl, rfl, rfl⟩
    · refine ⟨_, 111, rfl, rfl, ?_⟩
      replace hx1 : _ = nI 8 := hx1
      refine V.aload_n (q := 112) C dX10_count_111 rfl rfl ?_
      refine V.get (q := 115) C fl_X10_249 dX10_count_112 rfl okM rfl rfl ?_
      exact V.ireturn C dX10_count_115 ⟨by rw [hx1]; rfl, rfl, rfl⟩
  · refine V.bipush (q := 118) (v := -2) C dX10_count_116 rfl (by decide) ?_
    exact V.ireturn C dX10_count_118 ⟨congrArg (fun x : Int32 => some (Value.int x)) (by unfold countR; rw [if_neg (hx1 0 (by omega))]; rw [if_neg (hx1 1 (by omega))]; rw [if_neg (hx1 2 (by omega))]; rw [if_neg (hx1 3 (by omega))]; rw [if_neg (hx1 4 (by omega))]; rw [if_neg (hx1 5 (by omega))]; rw [if_neg (hx1 6 (by omega))]; rw [if_neg (hx1 7 (by omega))]; rw [if_neg (hx1 8 (by omega))]), rfl, rfl⟩
