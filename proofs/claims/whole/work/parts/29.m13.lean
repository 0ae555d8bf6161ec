def ofR (rules sizes now : I1) (n m c : Nat) (p x : Int32) : Int32 := if inN p n then (if inR x (nI 0) (nI 4) then now (9 * ix p + ix x) else if x = nI 5 then soF rules sizes m (ix p) (now (9 * ix p + 4)) 61 0 now else if x = nI 6 then nI (ftF (fun x => asF rules sizes m 82 c vSee (upd now (9 * ix p + 2) x) 13 0 (upd now (9 * ix p + 2) x)) 99 100).1 else if x = nI 7 then (ftF (fun x => asF rules sizes m 82 c vSee (upd now (9 * ix p + 2) x) 13 0 (upd now (9 * ix p + 2) x)) 99 100).2 else if inN (x - nI 10) m then guR rules sizes now (ix p) (ix (x - nI 10)) else -10001) else -10001
theorem m_of {l : Launch} {g : GG} {X : PHp} {now : I1} {th : I1 × Int32} {tx : TXt}  {tr : I1 × Int32} {tp : TPt} {q : SD} {n m c : Nat} {p x : Int32} (hW : WI now n m) (hR : RuI tx.2.2.2.1 now) (hLs : LsI now n 82 c) : Ct l g yX10_of cX10_of 3 (some .int) 29 0 0 [rf g (22, 0, 0), .int p, .int x] NN (jn X (hM g now q.2.1 th tx (zS q.1 q.2.2.1 q.2.2.2) tr tp)) (xI (fun _ : SD => True) (fun _ => (ofR tx.2.2.1 tx.2.2.2.1 now n m c p x)) (fun q1 => (jn X (hM g now q1.2.1 th tx (zS q1.1 q1.2.2.1 q1.2.2.2) tr tp)))) := by
  refine Ct.of (lv := [some (rf g (22, 0, 0)), some (.int p), some (.int x)]) (by decide +kernel) rfl (Nat.le_of_ble_eq_true rfl) ?_
  intro Γ C
  have h6 := hW.2.1
  have h8 := hW.2.2.2.1
  refine V.aload_n (q := 1) C dX10_of_0 rfl rfl ?_
  refine V.iload_n (q := 2) C dX10_of_1 rfl rfl ?_
  refine V.callVi (q := 5) C me_X10_isOne (m_isOne hW.1 (by omega)) ml_X10_97 dX10_of_2 rfl okM ⟨_, rfl⟩ rfl rfl (Nat.le_of_ble_eq_true rfl) (by omega) (Nat.zero_le _) (Nat.zero_le _) ?_
  refine V.if_neB (q := 8) (tgt := 12) C dX10_of_5 rfl rfl (fun hb5 => ?_) (fun hb5 => ?_)
  · obtain ⟨i, hi, rfl⟩ := InN_nat (by omega) hb5
    have ei := ix_nI (i := i) (by omega)
    refine V.iload_n (q := 13) C dX10_of_12 rfl rfl ?_
    refine V.iconst (q := 14) (v := nI 0) C dX10_of_13 rfl (by decide) ?_
    refine V.iconst (q := 15) (v := nI 4) C dX10_of_14 rfl (by decide) ?_
    refine V.callSi (q := 18) C me_X10_isIn m_isIn ml_X10_82 dX10_of_15 rfl rfl rfl (Nat.le_of_ble_eq_true rfl) (by omega) (Nat.zero_le _) (Nat.zero_le _) ?_
    refine V.if_eqB (q := 21) (tgt := 28) C dX10_of_18 rfl rfl (fun hb18 => ?_) (fun hb18 => ?_)
    · refine V.iload_n (q := 29) C dX10_of_28 rfl rfl ?_
      refine V.iconst (q := 30) (v := nI 5) C dX10_of_29 rfl (by decide) ?_
      refine V.icmp_ne (q := 33) (tgt := 41) C dX10_of_30 rfl rfl (fun hb30 => ?_) (fun hb30 => ?_)
      · refine V.iload_n (q := 42) C dX10_of_41 rfl rfl ?_
        refine V.bipush (q := 44) (v := nI 6) C dX10_of_42 rfl (by decide) ?_
        refine V.icmp_eq (q := 47) (tgt := 53) C dX10_of_44 rfl rfl (fun hb44 => ?_) (fun hb44 => ?_)
        · refine V.aload_n (q := 54) C dX10_of_53 rfl rfl ?_
          refine V.iload_n (q := 55) C dX10_of_54 rfl rfl ?_
          refine V.iload_n (q := 56) C dX10_of_55 rfl rfl ?_
          refine V.bipush (q := 58) (v := nI 6) C dX10_of_56 rfl (by decide) ?_
          refine V.icmp_ne (q := 61) (tgt := 65) C dX10_of_58 rfl rfl (fun hb58 => ?_) (fun hb58 => ?_)
          · exact absurd hb44 hb58
          · refine V.iconst (q := 62) (v := nI 1) C dX10_of_61 rfl (by decide) ?_
            refine V.goto (tgt := 66) C dX10_of_62 rfl ?_
            refine V.callVxi (q := 69) C me_X10_covers (m_covers (by omega) hW hR hLs) ml_X10_105 dX10_of_66 rfl okM ⟨_, rfl⟩ rfl rfl (Nat.le_of_ble_eq_true rfl) (by omega) (Nat.zero_le _) (Nat.zero_le _) (fun q1 _ => ?_)
            refine V.goto (tgt := 98) C dX10_of_69 rfl ?_
            exact V.ireturn C dX10_of_98 ⟨q1, trivial, by rw [ofR, if_pos hb5, ei, if_neg hb18, if_neg hb30, if_pos hb44]; rfl, rfl, rfl⟩
        · refine V.iload_n (q := 48) C dX10_of_47 rfl rfl ?_
          refine V.bipush (q := 50) (v := nI 7) C dX10_of_48 rfl (by decide) ?_
          refine V.icmp_ne (q := 53) (tgt := 72) C dX10_of_50 rfl rfl (fun hb50 => ?_) (fun hb50 => ?_)
          · refine V.aload_n (q := 73) C dX10_of_72 rfl rfl ?_
            refine V.iload_n (q := 74) C dX10_of_73 rfl rfl ?_
            refine V.bipush (q := 76) (v := nI 10) C dX10_of_74 rfl (by decide) ?_
            refine V.isub (q := 77) C dX10_of_76 rfl ?_
            refine V.callVi (q := 80) C me_X10_isSaying (m_isSaying hW.2.2.1 (by omega)) ml_X10_108 dX10_of_77 rfl okM ⟨_, rfl⟩ rfl rfl (Nat.le_of_ble_eq_true rfl) (by omega) (Nat.zero_le _) (Nat.zero_le _) ?_
            refine V.if_eqB (q := 83) (tgt := 95) C dX10_of_80 rfl rfl (fun hb80 => ?_) (fun hb80 => ?_)
            · refine V.sipush (q := 98) (v := -10001) C dX10_of_95 rfl (by decide) ?_
              exact V.ireturn C dX10_of_98 ⟨q, trivial, by rw [ofR, if_pos hb5, ei, if_neg hb18, if_neg hb30, if_neg hb44, if_neg hb50, if_neg hb80], rfl, rfl⟩
            · obtain ⟨s, hs, es⟩ := InN_nat (by omega) hb80
              obtain rfl := sub_nI es
              have is := ix_nI (i := s) (by omega)
              refine V.aload_n (q := 84) C dX10_of_83 rfl rfl ?_
              refine V.iload_n (q := 85) C dX10_of_84 rfl rfl ?_
              refine V.iload_n (q := 86) C dX10_of_85 rfl rfl ?_
              refine V.bipush (q := 88) (v := nI 10) C dX10_of_86 rfl (by decide) ?_
              refine V.isub (q := 89) C dX10_of_88 rfl ?_
              refine V.topi (x1 := nI (s)) es ?_
              refine V.callVxi (q := 92) C me_X10_guard (m_guard (by omega) (by omega) hR) ml_X10_111 dX10_of_89 rfl okM ⟨_, rfl⟩ rfl rfl (Nat.le_of_ble_eq_true rfl) (by omega) (Nat.zero_le _) (Nat.zero_le _) (fun q1 _ => ?_)
              refine V.goto (tgt := 98) C dX10_of_92 rfl ?_
              exact V.ireturn C dX10_of_98 ⟨(q1, q.2.1, q.2.2.1, q.2.2.2), trivial, by rw [ofR, if_pos hb5, ei, if_neg hb18, if_neg hb30, if_neg hb44, if_neg hb50, if_pos hb80, es, is], rfl, rfl⟩
          · refine V.aload_n (q := 54) C dX10_of_53 rfl rfl ?_
            refine V.iload_n (q := 55) C dX10_of_54 rfl rfl ?_
            refine V.iload_n (q := 56) C dX10_of_55 rfl rfl ?_
            refine V.bipush (q := 58) (v := nI 6) C dX10_of_56 rfl (by decide) ?_
            refine V.icmp_ne (q := 61) (tgt := 65) C dX10_of_58 rfl rfl (fun hb58 => ?_) (fun hb58 => ?_)
            · refine V.iconst (q := 66) (v := nI 0) C dX10_of_65 rfl (by decide) ?_
              refine V.callVxi (q := 69) C me_X10_covers (m_covers (by omega) hW hR hLs) ml_X10_105 dX10_of_66 rfl okM ⟨_, rfl⟩ rfl rfl (Nat.le_of_ble_eq_true rfl) (by omega) (Nat.zero_le _) (Nat.zero_le _) (fun q1 _ => ?_)
              refine V.goto (tgt := 98) C dX10_of_69 rfl ?_
              exact V.ireturn C dX10_of_98 ⟨q1, trivial, by rw [ofR, if_pos hb5, ei, if_neg hb18, if_neg hb30, if_neg hb44, if_pos hb50]; rfl, rfl, rfl⟩
            · exact absurd hb58 hb44
      · refine V.aload_n (q := 34) C dX10_of_33 rfl rfl ?_
        refine V.iload_n (q := 35) C dX10_of_34 rfl rfl ?_
        refine V.callVxi (q := 38) C me_X10_sore (m_sore hi hW hR) ml_X10_101 dX10_of_35 rfl okM ⟨_, rfl⟩ rfl rfl (Nat.le_of_ble_eq_true rfl) (by omega) (Nat.zero_le _) (Nat.zero_le _) (fun q1 _ => ?_)
        refine V.goto (tgt := 98) C dX10_of_38 rfl ?_
        exact V.ireturn C dX10_of_98 ⟨(q1, now, q.2.2.1, q.2.2.2), trivial, by rw [ofR, if_pos hb5, ei, if_neg hb18, if_pos hb30], rfl, rfl⟩
    · obtain ⟨j, hj0, hj, rfl⟩ := InR_nat (a := 0) (b := 4) (by omega) (by omega) hb18
      have ej := ix_nI (i := j) (by omega)
      refine V.aload_n (q := 22) C dX10_of_21 rfl rfl ?_
      refine V.iload_n (q := 23) C dX10_of_22 rfl rfl ?_
      refine V.iload_n (q := 24) C dX10_of_23 rfl rfl ?_
      refine V.callVi (q := 27) C me_X10_one (m_one (by omega)) ml_X10_86 dX10_of_24 rfl okM ⟨_, rfl⟩ rfl rfl (Nat.le_of_ble_eq_true rfl) (by omega) (Nat.zero_le _) (Nat.zero_le _) ?_
      exact V.ireturn C dX10_of_27 ⟨q, trivial, by rw [ofR, if_pos hb5, ei, if_pos hb18, ej], rfl, rfl⟩
  · refine V.sipush (q := 11) (v := -10001) C dX10_of_8 rfl (by decide) ?_
    exact V.ireturn C dX10_of_11 ⟨q, trivial, by rw [ofR, if_neg hb5], rfl, rfl⟩
theorem sub_toInt {c a : Nat} (hc : c < 2 ^ 31) (ha : a < 2 ^ 31) : (nI c - nI a).toInt = (c : Int) - a := by
  rw [Int32.toInt_sub, nI_toInt hc, nI_toInt ha]
  exact Int.bmod_eq_of_le (by omega) (by omega)
theorem sub_nlt {c a k : Nat} (hc : c < 2 ^ 31) (ha : a < 2 ^ 31) (hk : k < 2 ^ 31) (h : ¬ nI c - nI a < nI k) : a + k ≤ c := by
  rw [Int32.lt_iff_toInt_lt, sub_toInt hc ha, nI_toInt hk] at h
  omega
theorem sub_kle {c a k : Nat} (hc : c < 2 ^ 31) (ha : a < 2 ^ 31) (hk : k < 2 ^ 31) (h : nI k ≤ nI c - nI a) : a + k ≤ c := by
  rw [Int32.le_iff_toInt_le, sub_toInt hc ha, nI_toInt hk] at h
  omega
def mixL (j : Nat) (F G : Nat → Int64) : Nat → Int64 := fun k => if k < j then F k else G k
theorem mixL_0 {F G : Nat → Int64} : mixL 0 F G = G := by funext k; simp [mixL]
theorem mixL_s {F G : Nat → Int64} {j : Nat} : vp_updL (mixL j F G) j (F j) = mixL (j + 1) F G := by
  funext k
  simp only [vp_updL, mixL]
  by_cases e : k = j
  · subst e; rw [if_pos rfl, if_pos (by omega)]
  · rw [if_neg e]
    by_cases e2 : k < j
    · rw [if_pos e2, if_pos (by omega)]
    · rw [if_neg e2, if_neg (by omega)]
def putL (G : Nat → Int64) (b : Nat) (F : Nat → Int64) (j : Nat) : Nat → Int64 := fun q => if b ≤ q ∧ q < b + j then F (q - b) else G q
theorem putL_0 {F G : Nat → Int64} {b : Nat} : putL G b F 0 = G := by funext q; exact if_neg (by omega)
theorem putL_s {F G : Nat → Int64} {b j : Nat} : vp_updL (putL G b F j) (b + j) (F j) = putL G b F (j + 1) := by
  funext q
  simp only [vp_updL, putL]
  by_cases e : q = b + j
  · subst e; rw [if_pos rfl, if_pos (by omega), Nat.add_sub_cancel_left]
  · rw [if_neg e]
    by_cases e2 : b ≤ q ∧ q < b + j
    · rw [if_pos e2, if_pos (by omega)]
    · rw [if_neg e2, if_neg (by omega)]
def shR (so le : I1) (t i o j n : Int32) : Int32 := if inN t 6 then (if inN o 6 then (if so (ix t) < 0 then -11 else if 0 ≤ so (ix o) then (if so (ix t) = so (ix o) then (if n < 0 then -13 else if i < 0 then -13 else if j < 0 then -13 else if le (ix t) - i < n then -13 else if n ≤ le (ix o) - j then n else -13) else -12) else -11) else -1) else -1
def shT (so le : I1) (it mo : Nat → Int64) (t i o j n : Int32) : TPt := if inN t 6 then (if inN o 6 then (if so (ix t) < 0 then (so, le, it, mo) else if 0 ≤ so (ix o) then (if so (ix t) = so (ix o) then (if n < 0 then (so, le, it, mo) else if i < 0 then (so, le, it, mo) else if j < 0 then (so, le, it, mo) else if le (ix t) - i < n then (so, le, it, mo) else if n ≤ le (ix o) - j then (so, le, putL it (60 * ix o + ix j) (fun q => it (60 * ix t + ix i + q)) (ix n), mixL (ix n) (fun q => it (60 * ix t + ix i + q)) mo) else (so, le, it, mo)) else (so, le, it, mo)) else (so, le, it, mo)) else (so, le, it, mo)) else (so, le, it, mo)
theorem m_shift_a {l : Launch} {g : GG} {X : PHp} {now mind : I1} {th : I1 × Int32} {tx : TXt} {z : Zt} {tr : I1 × Int32} {so le : I1} {it mo : Nat → Int64} {Γ : Cxt} {Q : State → Prop} {t a o b y : Nat} (ht : t < 6) (ha : a + y ≤ 60) (C : Cx Γ g cX10_shift yX10_shift 7 (some .int) 3 0 0) (kx : V l Γ g 7 Q 0 0 NN (jn X (hM g now mind th tx z tr (so, le, it, mixL y (fun q => it (60 * t + a + q)) mo))) 136 [some (rf g (22, 0, 0)), some (.int (nI t)), some (.int (nI a)), some (.int (nI o)), some (.int (nI b)), some (.int (nI y)), some (.int (nI y))] []) : ∀ k j : Nat, j + k = y → V l Γ g 7 Q 0 0 NN (jn X (hM g now mind th tx z tr (so, le, it, mixL j (fun q => it (60 * t + a + q)) mo))) 102 [some (rf g (22, 0, 0)), some (.int (nI t)), some (.int (nI a)), some (.int (nI o)), some (.int (nI b)), some (.int (nI y)), some (.int (nI j))] [] := by
  intro k
  induction k with
  | zero =>
    intro j hj
    obtain rfl : y = j := by omega
    refine V.iload (q := 104) C dX10_shift_102 rfl rfl ?_
    refine V.iload (q := 106) C dX10_shift_104 rfl rfl ?_
    refine V.icmp_ge (q := 109) (tgt := 136) C dX10_shift_106 rfl rfl (fun hb106 => ?_) (fun hb106 => ?_)
    · exact kx
    · exact absurd ((nI_leI (by omega) (by omega)).mpr (by omega)) hb106
  | succ k ih =>
    intro j hj
    refine V.iload (q := 104) C dX10_shift_102 rfl rfl ?_
    refine V.iload (q := 106) C dX10_shift_104 rfl rfl ?_
    refine V.icmp_ge (q := 109) (tgt := 136) C dX10_shift_106 rfl rfl (fun hb106 => ?_) (fun hb106 => ?_)
    · exact absurd ((nI_leI (by omega) (by omega)).mp hb106) (by omega)
    · refine V.aload_n (q := 110) C dX10_shift_109 rfl rfl ?_
      refine V.get (q := 113) C fl_X10_71 dX10_shift_110 rfl okM rfl rfl ?_
      refine V.iload (q := 115) C dX10_shift_113 rfl rfl ?_
      refine V.aload_n (q := 116) C dX10_shift_115 rfl rfl ?_
      refine V.get (q := 119) C fl_X10_67 dX10_shift_116 rfl okM rfl rfl ?_
      refine V.bipush (q := 121) (v := nI 60) C dX10_shift_119 rfl (by decide) ?_
      refine V.iload_n (q := 122) C dX10_shift_121 rfl rfl ?_
      refine V.imul (q := 123) C dX10_shift_122 rfl ?_
      refine V.topi (x1 := nI (60 * t)) (pk_mul _ _) ?_
      refine V.iload_n (q := 124) C dX10_shift_123 rfl rfl ?_
      refine V.iadd (q := 125) C dX10_shift_124 rfl ?_
      refine V.topi (x1 := nI ((60 * t) + a)) (nI_add _ _) ?_
      refine V.iload (q := 127) C dX10_shift_125 rfl rfl ?_
      refine V.iadd (q := 128) C dX10_shift_127 rfl ?_
      refine V.topi (x1 := nI (((60 * t) + a) + j)) (nI_add _ _) ?_
      refine V.lld (q := 129) (i := (((60 * t) + a) + j)) C dX10_shift_128 rfl okM_28 rfl rfl (by omega) (by decide) ?_
      try dsimp only
      refine V.lst (q := 130) (i := j) C dX10_shift_129 rfl okM_29 rfl rfl (by omega) (by decide) uM_moved ?_
      try dsimp only
      refine V.ph (PH1 := (jn X (hM g now mind th tx z tr (so, le, it, mixL (j + 1) (fun q => it (60 * t + a + q)) mo)))) (by rw [← mixL_s]) ?_
      refine V.iinc (q := 133) (v := nI (j + 1)) C dX10_shift_130 rfl rfl (nI_1 _) (by decide) rfl rfl ?_
      refine V.goto (tgt := 102) C dX10_shift_133 rfl ?_
      exact ih (j + 1) (by omega)
theorem m_shift_b {l : Launch} {g : GG} {X : PHp} {now mind : I1} {th : I1 × Int32} {tx : TXt} {z : Zt} {tr : I1 × Int32} {so le : I1} {it mo : Nat → Int64} {Γ : Cxt} {Q : State → Prop} {t a o b y : Nat} (ho : o < 6) (hb : b + y ≤ 60) (C : Cx Γ g cX10_shift yX10_shift 7 (some .int) 3 0 0) (kx : V l Γ g 7 Q 0 0 NN (jn X (hM g now mind th tx z tr (so, le, putL it (60 * o + b) (fun q => it (60 * t + a + q)) y, mixL y (fun q => it (60 * t + a + q)) mo))) 174 [some (rf g (22, 0, 0)), some (.int (nI t)), some (.int (nI a)), some (.int (nI o)), some (.int (nI b)), some (.int (nI y)), some (.int (nI y))] []) : ∀ k j : Nat, j + k = y → V l Γ g 7 Q 0 0 NN (jn X (hM g now mind th tx z tr (so, le, putL it (60 * o + b) (fun q => it (60 * t + a + q)) j, mixL y (fun q => it (60 * t + a + q)) mo))) 139 [some (rf g (22, 0, 0)), some (.int (nI t)), some (.int (nI a)), some (.int (nI o)), some (.int (nI b)), some (.int (nI y)), some (.int (nI j))] [] := by
  intro k
  induction k with
  | zero =>
    intro j hj
    obtain rfl : y = j := by omega
    refine V.iload (q := 141) C dX10_shift_139 rfl rfl ?_
    refine V.iload (q := 143) C dX10_shift_141 rfl rfl ?_
    refine V.icmp_ge (q := 146) (tgt := 174) C dX10_shift_143 rfl rfl (fun hb143 => ?_) (fun hb143 => ?_)
    · exact kx
    · exact absurd ((nI_leI (by omega) (by omega)).mpr (by omega)) hb143
  | succ k ih =>
    intro j hj
    refine V.iload (q := 141) C dX10_shift_139 rfl rfl ?_
    refine V.iload (q := 143) C dX10_shift_141 rfl rfl ?_
    refine V.icmp_ge (q := 146) (tgt := 174) C dX10_shift_143 rfl rfl (fun hb143 => ?_) (fun hb143 => ?_)
    · exact absurd ((nI_leI (by omega) (by omega)).mp hb143) (by omega)
    · refine V.aload_n (q := 147) C dX10_shift_146 rfl rfl ?_
      refine V.get (q := 150) C fl_X10_67 dX10_shift_147 rfl okM rfl rfl ?_
      refine V.bipush (q := 152) (v := nI 60) C dX10_shift_150 rfl (by decide) ?_
      refine V.iload_n (q := 153) C dX10_shift_152 rfl rfl ?_
      refine V.imul (q := 154) C dX10_shift_153 rfl ?_
      refine V.topi (x1 := nI (60 * o)) (pk_mul _ _) ?_
      refine V.iload (q := 156) C dX10_shift_154 rfl rfl ?_
      refine V.iadd (q := 157) C dX10_shift_156 rfl ?_
      refine V.topi (x1 := nI ((60 * o) + b)) (nI_add _ _) ?_
      refine V.iload (q := 159) C dX10_shift_157 rfl rfl ?_
      refine V.iadd (q := 160) C dX10_shift_159 rfl ?_
      refine V.topi (x1 := nI (((60 * o) + b) + j)) (nI_add _ _) ?_
      refine V.aload_n (q := 161) C dX10_shift_160 rfl rfl ?_
      refine V.get (q := 164) C fl_X10_71 dX10_shift_161 rfl okM rfl rfl ?_
      refine V.iload (q := 166) C dX10_shift_164 rfl rfl ?_
      refine V.lld (q := 167) (i := j) C dX10_shift_166 rfl okM_29 rfl rfl (by omega) (by decide) ?_
      try dsimp only
      refine V.stk (st1 := [.long (it (60 * t + a + j)), .int (nI (60 * o + b + j)), rf g (23, 28, 0)]) (by rw [mixL, if_pos (by omega)]) ?_
      refine V.lst (q := 168) (i := (((60 * o) + b) + j)) C dX10_shift_167 rfl okM_28 rfl rfl (by omega) (by decide) uM_items ?_
      try dsimp only
      refine V.ph (PH1 := (jn X (hM g now mind th tx z tr (so, le, putL it (60 * o + b) (fun q => it (60 * t + a + q)) (j + 1), mixL y (fun q => it (60 * t + a + q)) mo)))) (by rw [← putL_s]) ?_
      refine V.iinc (q := 171) (v := nI (j + 1)) C dX10_shift_168 rfl rfl (nI_1 _) (by decide) rfl rfl ?_
      refine V.goto (tgt := 139) C dX10_shift_171 rfl ?_
      exact ih (j + 1) (by omega)
theorem m_shift {l : Launch} {g : GG} {X : PHp} {now mind : I1} {th : I1 × Int32} {tx : TXt} {z : Zt} {tr : I1 × Int32} {so le : I1} {it mo : Nat → Int64} {t i o j n : Int32} (hl : ∀ t, t < 6 → ∃ c, c ≤ 60 ∧ le t = nI c) : Ct l g yX10_shift cX10_shift 7 (some .int) 3 0 0 [rf g (22, 0, 0), .int t, .int i, .int o, .int j, .int n] NN (jn X (hM g now mind th tx z tr (so, le, it, mo))) (pI (shR so le t i o j n) (jn X (hM g now mind th tx z tr (shT so le it mo t i o j n)))) := by
  refine Ct.of (lv := [some (rf g (22, 0, 0)), some (.int t), some (.int i), some (.int o), some (.int j), some (.int n), none]) (by decide +kernel) rfl (Nat.le_of_ble_eq_true rfl) ?_
  intro Γ C
  refine V.iload_n (q := 1) C dX10_shift_0 rfl rfl ?_
  refine V.callSi (q := 4) C me_X10_isTape m_isTape ml_X10_261 dX10_shift_1 rfl rfl rfl (Nat.le_of_ble_eq_true rfl) (by omega) (Nat.zero_le _) (Nat.zero_le _) ?_
  refine V.if_eqB (q := 7) (tgt := 14) C dX10_shift_4 rfl rfl (fun hb4 => ?_) (fun hb4 => ?_)
  · refine V.iconst (q := 15) (v := -1) C dX10_shift_14 rfl (by decide) ?_
    exact V.ireturn C dX10_shift_15 ⟨by rw [shR, if_neg hb4], by rw [shT, if_neg hb4], rfl⟩
  · obtain ⟨t, ht, rfl⟩ := InN_nat (by omega) hb4
    have et := ix_nI (i := t) (by omega)
    refine V.iload_n (q := 8) C dX10_shift_7 rfl rfl ?_
    refine V.callSi (q := 11) C me_X10_isTape m_isTape ml_X10_261 dX10_shift_8 rfl rfl rfl (Nat.le_of_ble_eq_true rfl) (by omega) (Nat.zero_le _) (Nat.zero_le _) ?_
    refine V.if_neB (q := 14) (tgt := 16) C dX10_shift_11 rfl rfl (fun hb11 => ?_) (fun hb11 => ?_)
    · obtain ⟨o, ho, rfl⟩ := InN_nat (by omega) hb11
      have eo := ix_nI (i := o) (by omega)
      refine V.aload_n (q := 17) C dX10_shift_16 rfl rfl ?_
      refine V.get (q := 20) C fl_X10_61 dX10_shift_17 rfl okM rfl rfl ?_
      refine V.iload_n (q := 21) C dX10_shift_20 rfl rfl ?_
      refine V.ild (q := 22) (i := t) C dX10_shift_21 rfl okM_26 rfl rfl (by omega) (by decide) ?_
      try dsimp only
      refine V.if_lt (q := 25) (tgt := 34) C dX10_shift_22 rfl rfl (fun hb22 => ?_) (fun hb22 => ?_)
      · refine V.bipush (q := 36) (v := -11) C dX10_shift_34 rfl (by decide) ?_
        exact V.ireturn C dX10_shift_36 ⟨by rw [shR, if_pos hb4, et, if_pos hb11, eo, if_pos hb22], by rw [shT, if_pos hb4, et, if_pos hb11, eo, if_pos hb22], rfl⟩
      · refine V.aload_n (q := 26) C dX10_shift_25 rfl rfl ?_
        refine V.get (q := 29) C fl_X10_61 dX10_shift_26 rfl okM rfl rfl ?_
        refine V.iload_n (q := 30) C dX10_shift_29 rfl rfl ?_
        refine V.ild (q := 31) (i := o) C dX10_shift_30 rfl okM_26 rfl rfl (by omega) (by decide) ?_
        try dsimp only
        refine V.if_ge (q := 34) (tgt := 37) C dX10_shift_31 rfl rfl (fun hb31 => ?_) (fun hb31 => ?_)
        · refine V.aload_n (q := 38) C dX10_shift_37 rfl rfl ?_
          refine V.get (q := 41) C fl_X10_61 dX10_shift_38 rfl okM rfl rfl ?_
          refine V.iload_n (q := 42) C dX10_shift_41 rfl rfl ?_
          refine V.ild (q := 43) (i := t) C dX10_shift_42 rfl okM_26 rfl rfl (by omega) (by decide) ?_
          try dsimp only
          refine V.aload_n (q := 44) C dX10_shift_43 rfl rfl ?_
          refine V.get (q := 47) C fl_X10_61 dX10_shift_44 rfl okM rfl rfl ?_
          refine V.iload_n (q := 48) C dX10_shift_47 rfl rfl ?_
          refine V.ild (q := 49) (i := o) C dX10_shift_48 rfl okM_26 rfl rfl (by omega) (by decide) ?_
          try dsimp only
          refine V.icmp_eq (q := 52) (tgt := 55) C dX10_shift_49 rfl rfl (fun hb49 => ?_) (fun hb49 => ?_)
          · refine V.iload (q := 57) C dX10_shift_55 rfl rfl ?_
            refine V.if_lt (q := 60) (tgt := 96) C dX10_shift_57 rfl rfl (fun hb57 => ?_) (fun hb57 => ?_)
            · refine V.bipush (q := 98) (v := -13) C dX10_shift_96 rfl (by decide) ?_
              exact V.ireturn C dX10_shift_98 ⟨by rw [shR, if_pos hb4, et, if_pos hb11, eo, if_neg hb22, if_pos hb31, if_pos hb49, if_pos hb57], by rw [shT, if_pos hb4, et, if_pos hb11, eo, if_neg hb22, if_pos hb31, if_pos hb49, if_pos hb57], rfl⟩
            · obtain ⟨y, hy, rfl⟩ := nI_of hb57
              have ey := ix_nI (i := y) hy
              refine V.iload_n (q := 61) C dX10_shift_60 rfl rfl ?_
              refine V.if_lt (q := 64) (tgt := 96) C dX10_shift_61 rfl rfl (fun hb61 => ?_) (fun hb61 => ?_)
              · refine V.bipush (q := 98) (v := -13) C dX10_shift_96 rfl (by decide) ?_
                exact V.ireturn C dX10_shift_98 ⟨by rw [shR, if_pos hb4, et, if_pos hb11, eo, if_neg hb22, if_pos hb31, if_pos hb49, if_neg hb57, if_pos hb61], by rw [shT, if_pos hb4, et, if_pos hb11, eo, if_neg hb22, if_pos hb31, if_pos hb49, if_neg hb57, if_pos hb61], rfl⟩
              · obtain ⟨a, ha, rfl⟩ := nI_of hb61
                have ea := ix_nI (i := a) ha
                refine V.iload (q := 66) C dX10_shift_64 rfl rfl ?_
                refine V.if_lt (q := 69) (tgt := 96) C dX10_shift_66 rfl rfl (fun hb66 => ?_) (fun hb66 => ?_)
                · refine V.bipush (q := 98) (v := -13) C dX10_shift_96 rfl (by decide) ?_
                  exact V.ireturn C dX10_shift_98 ⟨by rw [shR, if_pos hb4, et, if_pos hb11, eo, if_neg hb22, if_pos hb31, if_pos hb49, if_neg hb57, if_neg hb61, if_pos hb66], by rw [shT, if_pos hb4, et, if_pos hb11, eo, if_neg hb22, if_pos hb31, if_pos hb49, if_neg hb57, if_neg hb61, if_pos hb66], rfl⟩
                · obtain ⟨b, hb, rfl⟩ := nI_of hb66
                  have eb := ix_nI (i := b) hb
                  obtain ⟨c1, hc1, e1⟩ := hl t (by omega)
                  obtain ⟨c2, hc2, e2⟩ := hl o (by omega)
                  refine V.iload (q := 71) C dX10_shift_69 rfl rfl ?_
                  refine V.aload_n (q := 72) C dX10_shift_71 rfl rfl ?_
                  refine V.get (q := 75) C fl_X10_64 dX10_shift_72 rfl okM rfl rfl ?_
                  refine V.iload_n (q := 76) C dX10_shift_75 rfl rfl ?_
                  refine V.ild (q := 77) (i := t) C dX10_shift_76 rfl okM_27 rfl rfl (by omega) (by decide) ?_
                  try dsimp only
                  refine V.iload_n (q := 78) C dX10_shift_77 rfl rfl ?_
                  refine V.isub (q := 79) C dX10_shift_78 rfl ?_
                  refine V.icmp_gt (q := 82) (tgt := 96) C dX10_shift_79 rfl rfl (fun hb79 => ?_) (fun hb79 => ?_)
                  · refine V.bipush (q := 98) (v := -13) C dX10_shift_96 rfl (by decide) ?_
                    exact V.ireturn C dX10_shift_98 ⟨by rw [shR, if_pos hb4, et, if_pos hb11, eo, if_neg hb22, if_pos hb31, if_pos hb49, if_neg hb57, if_neg hb61, if_neg hb66, if_pos hb79], by rw [shT, if_pos hb4, et, if_pos hb11, eo, if_neg hb22, if_pos hb31, if_pos hb49, if_neg hb57, if_neg hb61, if_neg hb66, if_pos hb79], rfl⟩
                  · have h79 : a + y ≤ c1 := sub_nlt (by omega) ha hy (by rw [← e1]; exact hb79)
                    refine V.iload (q := 84) C dX10_shift_82 rfl rfl ?_
                    refine V.aload_n (q := 85) C dX10_shift_84 rfl rfl ?_
                    refine V.get (q := 88) C fl_X10_64 dX10_shift_85 rfl okM rfl rfl ?_
                    refine V.iload_n (q := 89) C dX10_shift_88 rfl rfl ?_
                    refine V.ild (q := 90) (i := o) C dX10_shift_89 rfl okM_27 rfl rfl (by omega) (by decide) ?_
                    try dsimp only
                    refine V.iload (q := 92) C dX10_shift_90 rfl rfl ?_
                    refine V.isub (q := 93) C dX10_shift_92 rfl ?_
                    refine V.icmp_le (q := 96) (tgt := 99) C dX10_shift_93 rfl rfl (fun hb93 => ?_) (fun hb93 => ?_)
                    · have h93 : b + y ≤ c2 := sub_kle (by omega) hb hy (by rw [← e2]; exact hb93)
                      refine V.iconst (q := 100) (v := nI 0) C dX10_shift_99 rfl (by decide) ?_
                      refine V.istore (q := 102) C dX10_shift_100 rfl (by decide) rfl rfl ?_
                      refine V.ph (PH1 := (jn X (hM g now mind th tx z tr (so, le, it, mixL 0 (fun q => it (60 * t + a + q)) mo)))) (by rw [mixL_0]) ?_
                      refine m_shift_a ht (by omega) C ?_ y 0 (by omega)
                      refine V.iconst (q := 137) (v := nI 0) C dX10_shift_136 rfl (by decide) ?_
                      refine V.istore (q := 139) C dX10_shift_137 rfl (by decide) rfl rfl ?_
                      refine V.ph (PH1 := (jn X (hM g now mind th tx z tr (so, le, putL it (60 * o + b) (fun q => it (60 * t + a + q)) 0, mixL y (fun q => it (60 * t + a + q)) mo)))) (by rw [putL_0]) ?_
                      refine m_shift_b ho (by omega) C ?_ y 0 (by omega)
                      refine V.iload (q := 176) C dX10_shift_174 rfl rfl ?_
                      exact V.ireturn C dX10_shift_176 ⟨by rw [shR, if_pos hb4, et, if_pos hb11, eo, if_neg hb22, if_pos hb31, if_pos hb49, if_neg hb57, if_neg hb61, if_neg hb66, if_neg hb79, if_pos hb93], by rw [shT, if_pos hb4, et, if_pos hb11, eo, if_neg hb22, if_pos hb31, if_pos hb49, if_neg hb57, if_neg hb61, if_neg hb66, if_neg hb79, if_pos hb93, ea, eb, ey], rfl⟩
                    · refine V.bipush (q := 98) (v := -13) C dX10_shift_96 rfl (by decide) ?_
                      exact V.ireturn C dX10_shift_98 ⟨by rw [shR, if_pos hb4, et, if_pos hb11, eo, if_neg hb22, if_pos hb31, if_pos hb49, if_neg hb57, if_neg hb61, if_neg hb66, if_neg hb79, if_neg hb93], by rw [shT, if_pos hb4, et, if_pos hb11, eo, if_neg hb22, if_pos hb31, if_pos hb49, if_neg hb57, if_neg hb61, if_neg hb66, if_neg hb79, if_neg hb93], rfl⟩
          · refine V.bipush (q := 54) (v := -12) C dX10_shift_52 rfl (by decide) ?_
            exact V.ireturn C dX10_shift_54 ⟨by rw [shR, if_pos hb4, et, if_pos hb11, eo, if_neg hb22, if_pos hb31, if_neg hb49], by rw [shT, if_pos hb4, et, if_pos hb11, eo, if_neg hb22, if_pos hb31, if_neg hb49], rfl⟩
        · refine V.bipush (q := 36) (v := -11) C dX10_shift_34 rfl (by decide) ?_
          exact V.ireturn C dX10_shift_36 ⟨by rw [shR, if_pos hb4, et, if_pos hb11, eo, if_neg hb22, if_neg hb31], by rw [shT, if_pos hb4, et, if_pos hb11, eo, if_neg hb22, if_neg hb31], rfl⟩
    · refine V.iconst (q := 15) (v := -1) C dX10_shift_14 rfl (by decide) ?_
      exact V.ireturn C dX10_shift_15 ⟨by rw [shR, if_pos hb4, et, if_neg hb11], by rw [shT, if_pos hb4, et, if_neg hb11], rfl⟩
