/-- which strike, as bits -/
def btF (A : I1) (m : Nat) : Int32 := itr (fun s r => r ||| (if stB A s = true then nI 1 <<< (nI s &&& 31) else nI 0)) m (nI 0)
def toldR (rules sizes A : I1) (n m : Nat) (x : Int32) : Int32 := if x = nI 0 then A 80 else if x = nI 1 then ruR rules sizes A else if x = nI 2 then alR A 4 n else if x = nI 3 then alR A 2 n else if x = nI 4 then btF A m else -1
theorem m_told_l {l : Launch} {g : GG} {X : PHp} {now mind : I1} {th : I1 × Int32} {tx : TXt} {z : Zt} {tr : I1 × Int32} {tp : TPt} {Γ : Cxt} {Q : State → Prop} {n m : Nat} {x : Int32} (hW : WI now n m) (C : Cx Γ g cX10_told yX10_told 4 (some .int) 25 0 0) (kx : V l Γ g 4 Q 0 0 NN (jn X (hM g now mind th tx z tr tp)) 98 [some (rf g (22, 0, 0)), some (.int x), some (.int (btF now m)), some (.int (nI m))] []) : ∀ k j : Nat, j + k = m → V l Γ g 4 Q 0 0 NN (jn X (hM g now mind th tx z tr tp)) 63 [some (rf g (22, 0, 0)), some (.int x), some (.int (btF now j)), some (.int (nI j))] [] := by
  intro k
  induction k with
  | zero =>
    intro j hj
    obtain rfl : m = j := by omega
    have hm9 := hW.2.2.1
    have h88 := hW.2.2.2.1
    refine V.iload_n (q := 64) C dX10_told_63 rfl rfl ?_
    refine V.aload_n (q := 65) C dX10_told_64 rfl rfl ?_
    refine V.get (q := 68) C fl_X10_9 dX10_told_65 rfl okM rfl rfl ?_
    refine V.bipush (q := 70) (v := nI 79) C dX10_told_68 rfl (by decide) ?_
    refine V.ild (q := 71) (i := 79) C dX10_told_70 rfl okM_0 rfl rfl (by omega) (by decide) ?_
    refine V.topi (x1 := nI (m)) hm9 ?_
    refine V.icmp_ge (q := 74) (tgt := 98) C dX10_told_71 rfl rfl (fun hb71 => ?_) (fun hb71 => ?_)
    · exact kx
    · exact absurd ((nI_leI (by omega) (by omega)).mpr (by omega)) hb71
  | succ k ih =>
    intro j hj
    have hm9 := hW.2.2.1
    have h88 := hW.2.2.2.1
    refine V.iload_n (q := 64) C dX10_told_63 rfl rfl ?_
    refine V.aload_n (q := 65) C dX10_told_64 rfl rfl ?_
    refine V.get (q := 68) C fl_X10_9 dX10_told_65 rfl okM rfl rfl ?_
    refine V.bipush (q := 70) (v := nI 79) C dX10_told_68 rfl (by decide) ?_
    refine V.ild (q := 71) (i := 79) C dX10_told_70 rfl okM_0 rfl rfl (by omega) (by decide) ?_
    refine V.topi (x1 := nI (m)) hm9 ?_
    refine V.icmp_ge (q := 74) (tgt := 98) C dX10_told_71 rfl rfl (fun hb71 => ?_) (fun hb71 => ?_)
    · exact absurd ((nI_leI (by omega) (by omega)).mp hb71) (by omega)
    · refine V.iload_n (q := 75) C dX10_told_74 rfl rfl ?_
      refine V.aload_n (q := 76) C dX10_told_75 rfl rfl ?_
      refine V.iload_n (q := 77) C dX10_told_76 rfl rfl ?_
      refine V.callVi (q := 80) C me_X10_isStriking (m_isStriking (by omega) (hW.2.2.2.2.1 j (by omega))) ml_X10_193 dX10_told_77 rfl okM ⟨_, rfl⟩ rfl rfl (Nat.le_of_ble_eq_true rfl) (by omega) (Nat.zero_le _) (Nat.zero_le _) ?_
      refine V.if_eqB (q := 83) (tgt := 89) C dX10_told_80 rfl rfl (fun hb80 => ?_) (fun hb80 => ?_)
      · refine V.iconst (q := 90) (v := nI 0) C dX10_told_89 rfl (by decide) ?_
        refine V.ior (q := 91) C dX10_told_90 rfl ?_
        refine V.istore_n (q := 92) C dX10_told_91 rfl (by decide) rfl rfl ?_
        refine V.iinc (q := 95) (v := nI (j + 1)) C dX10_told_92 rfl rfl (nI_1 _) (by decide) rfl rfl ?_
        refine V.goto (tgt := 63) C dX10_told_95 rfl ?_
        have e9 : btF now (j + 1) = btF now j ||| (nI 0) := by
          show btF now j ||| (if stB now j = true then nI 1 <<< (nI j &&& 31) else nI 0) = _
          rw [if_neg hb80]
        have h9 := ih (j + 1) (by omega)
        rw [e9] at h9
        exact h9
      · refine V.iconst (q := 84) (v := nI 1) C dX10_told_83 rfl (by decide) ?_
        refine V.iload_n (q := 85) C dX10_told_84 rfl rfl ?_
        refine V.ishl (q := 86) C dX10_told_85 rfl ?_
        refine V.goto (tgt := 90) C dX10_told_86 rfl ?_
        refine V.ior (q := 91) C dX10_told_90 rfl ?_
        refine V.istore_n (q := 92) C dX10_told_91 rfl (by decide) rfl rfl ?_
        refine V.iinc (q := 95) (v := nI (j + 1)) C dX10_told_92 rfl rfl (nI_1 _) (by decide) rfl rfl ?_
        refine V.goto (tgt := 63) C dX10_told_95 rfl ?_
        have e9 : btF now (j + 1) = btF now j ||| (nI 1 <<< (nI j &&& 31)) := by
          show btF now j ||| (if stB now j = true then nI 1 <<< (nI j &&& 31) else nI 0) = _
          rw [if_pos hb80]
        have h9 := ih (j + 1) (by omega)
        rw [e9] at h9
        exact h9
theorem m_told {l : Launch} {g : GG} {X : PHp} {now mind : I1} {th : I1 × Int32} {tx : TXt} {q : SC} {cv hu : I1} {tr : I1 × Int32} {tp : TPt} {n m : Nat} {x : Int32} (hW : WI now n m) (hR : RuI tx.2.2.2.1 now) : Ct l g yX10_told cX10_told 4 (some .int) 25 0 0 [rf g (22, 0, 0), .int x] NN (jn X (hM g now mind th tx (zS q cv hu) tr tp)) (xI (fun _ : SC => True) (fun _ => (toldR tx.2.2.1 tx.2.2.2.1 now n m x)) (fun q1 => (jn X (hM g now mind th tx (zS q1 cv hu) tr tp)))) := by
  refine Ct.of (lv := [some (rf g (22, 0, 0)), some (.int x), none, none]) (by decide +kernel) rfl (Nat.le_of_ble_eq_true rfl) ?_
  intro Γ C
  refine V.iconst (q := 1) (v := nI 0) C dX10_told_0 rfl (by decide) ?_
  refine V.istore_n (q := 2) C dX10_told_1 rfl (by decide) rfl rfl ?_
  refine V.iload_n (q := 3) C dX10_told_2 rfl rfl ?_
  refine V.tsw (lo := 0) (N := 5) (tgt := 100) C dX10_told_3 (by decide) (by decide) rfl (fun k hk hx3 => ?_) (fun hx3 => ?_)
  · obtain rfl | rfl | rfl | rfl | rfl := (show k = 0 ∨ k = 1 ∨ k = 2 ∨ k = 3 ∨ k = 4 by omega)
    · refine ⟨_, 36, rfl, rfl, ?_⟩
      replace hx3 : _ = nI 0 := hx3
      refine V.aload_n (q := 37) C dX10_told_36 rfl rfl ?_
      refine V.get (q := 40) C fl_X10_9 dX10_told_37 rfl okM rfl rfl ?_
      refine V.bipush (q := 42) (v := nI 80) C dX10_told_40 rfl (by decide) ?_
      refine V.ild (q := 43) (i := 80) C dX10_told_42 rfl okM_0 rfl rfl (by omega) (by decide) ?_
      exact V.ireturn C dX10_told_43 ⟨q, trivial, by rw [hx3]; rfl, rfl, rfl⟩
    · refine ⟨_, 44, rfl, rfl, ?_⟩
      replace hx3 : _ = nI 1 := hx3
      refine V.aload_n (q := 45) C dX10_told_44 rfl rfl ?_
      refine V.callVxi (q := 48) C me_X10_rubNow (m_rubNow hR) ml_X10_190 dX10_told_45 rfl okM ⟨_, rfl⟩ rfl rfl (Nat.le_of_ble_eq_true rfl) (by omega) (Nat.zero_le _) (Nat.zero_le _) (fun q1 _ => ?_)
      exact V.ireturn C dX10_told_48 ⟨q1, trivial, by rw [hx3]; rfl, rfl, rfl⟩
    · refine ⟨_, 49, rfl, rfl, ?_⟩
      replace hx3 : _ = nI 2 := hx3
      refine V.aload_n (q := 50) C dX10_told_49 rfl rfl ?_
      refine V.iconst (q := 51) (v := nI 4) C dX10_told_50 rfl (by decide) ?_
      refine V.callVi (q := 54) C me_X10_all (m_all hW.1 hW.2.1 (by omega)) ml_X10_202 dX10_told_51 rfl okM ⟨_, rfl⟩ rfl rfl (Nat.le_of_ble_eq_true rfl) (by omega) (Nat.zero_le _) (Nat.zero_le _) ?_
      exact V.ireturn C dX10_told_54 ⟨q, trivial, by rw [hx3]; rfl, rfl, rfl⟩
    · refine ⟨_, 55, rfl, rfl, ?_⟩
      replace hx3 : _ = nI 3 := hx3
      refine V.aload_n (q := 56) C dX10_told_55 rfl rfl ?_
      refine V.iconst (q := 57) (v := nI 2) C dX10_told_56 rfl (by decide) ?_
      refine V.callVi (q := 60) C me_X10_all (m_all hW.1 hW.2.1 (by omega)) ml_X10_202 dX10_told_57 rfl okM ⟨_, rfl⟩ rfl rfl (Nat.le_of_ble_eq_true rfl) (by omega) (Nat.zero_le _) (Nat.zero_le _) ?_
      exact V.ireturn C dX10_told_60 ⟨q, trivial, by rw [hx3]; rfl, rfl, rfl⟩
    · refine ⟨_, 61, rfl, rfl, ?_⟩
      replace hx3 : _ = nI 4 := hx3
      refine V.iconst (q := 62) (v := nI 0) C dX10_told_61 rfl (by decide) ?_
      refine V.istore_n (q := 63) C dX10_told_62 rfl (by decide) rfl rfl ?_
      refine m_told_l hW C ?_ m 0 (by omega)
      refine V.iload_n (q := 99) C dX10_told_98 rfl rfl ?_
      exact V.ireturn C dX10_told_99 ⟨q, trivial, by rw [hx3]; rfl, rfl, rfl⟩
  · refine V.iconst (q := 101) (v := -1) C dX10_told_100 rfl (by decide) ?_
    exact V.ireturn C dX10_told_101 ⟨q, trivial, congrArg (fun x : Int32 => some (Value.int x)) (by unfold toldR; rw [if_neg (hx3 0 (by omega))]; rw [if_neg (hx3 1 (by omega))]; rw [if_neg (hx3 2 (by omega))]; rw [if_neg (hx3 3 (by omega))]; rw [if_neg (hx3 4 (by omega))]), rfl, rfl⟩
theorem mn20 {r : Nat} (h : r < 2 ^ 31) : (if nI r < nI 20 then nI r else nI 20) = nI (min 20 r) := by
  by_cases e : r < 20
  · rw [if_pos (nI_lt e (by omega)), Nat.min_eq_right (by omega)]
  · rw [if_neg (nI_nlt (by omega) h), Nat.min_eq_left (by omega)]
def traceR (f : I1) (r : Nat) (x : Int32) : Int32 := if inN x (min 20 r) then f (ix x) else -1
theorem m_trace {l : Launch} {g : GG} {X : PHp} {now mind : I1} {th : I1 × Int32} {tx : TXt} {z : Zt} {tr : I1 × Int32} {tp : TPt} {r : Nat} {x : Int32} (hr : tr.2 = nI r) (hr9 : r < 2 ^ 31) : Ct l g yX10_trace cX10_trace 2 (some .int) 2 0 0 [rf g (22, 0, 0), .int x] NN (jn X (hM g now mind th tx z tr tp)) (pI (traceR tr.1 r x) (jn X (hM g now mind th tx z tr tp))) := by
  refine Ct.of (lv := [some (rf g (22, 0, 0)), some (.int x)]) (by decide +kernel) rfl (Nat.le_of_ble_eq_true rfl) ?_
  intro Γ C
  refine V.iload_n (q := 1) C dX10_trace_0 rfl rfl ?_
  refine V.iconst (q := 2) (v := nI 0) C dX10_trace_1 rfl (by decide) ?_
  refine V.bipush (q := 4) (v := nI 20) C dX10_trace_2 rfl (by decide) ?_
  refine V.aload_n (q := 5) C dX10_trace_4 rfl rfl ?_
  refine V.get (q := 8) C fl_X10_249 dX10_trace_5 rfl okM rfl rfl ?_
  refine V.topi (x1 := nI (r)) hr ?_
  refine V.min (q := 11) C dX10_trace_8 (tb_at 969 (by decide +kernel) rfl) rfl ?_
  refine V.topi (x1 := nI ((min 20 r))) (mn20 hr9) ?_
  refine V.iconst (q := 12) (v := nI 1) C dX10_trace_11 rfl (by decide) ?_
  refine V.isub (q := 13) C dX10_trace_12 rfl ?_
  refine V.callSi (q := 16) C me_X10_isIn m_isIn ml_X10_82 dX10_trace_13 rfl rfl rfl (Nat.le_of_ble_eq_true rfl) (by omega) (Nat.zero_le _) (Nat.zero_le _) ?_
  refine V.if_eqB (q := 19) (tgt := 28) C dX10_trace_16 rfl rfl (fun hb16 => ?_) (fun hb16 => ?_)
  · have h9 : ¬ inN x (min 20 r) = true := fun z => hb16 ((InR_InN (by omega)).mpr z)
    refine V.iconst (q := 29) (v := -1) C dX10_trace_28 rfl (by decide) ?_
    exact V.ireturn C dX10_trace_29 ⟨by simp only [traceR, h9, Bool.false_eq_true, ↓reduceIte], rfl, rfl⟩
  · have h9 := (InR_InN (by omega)).mp hb16
    obtain ⟨j, hj, rfl⟩ := InN_nat (by omega) h9
    have ej := ix_nI (i := j) (by omega)
    refine V.aload_n (q := 20) C dX10_trace_19 rfl rfl ?_
    refine V.get (q := 23) C fl_X10_58 dX10_trace_20 rfl okM rfl rfl ?_
    refine V.iload_n (q := 24) C dX10_trace_23 rfl rfl ?_
    refine V.ild (q := 25) (i := j) C dX10_trace_24 rfl okM_24 rfl rfl (by omega) (by decide) ?_
    refine V.goto (tgt := 29) C dX10_trace_25 rfl ?_
    exact V.ireturn C dX10_trace_29 ⟨by simp only [traceR, h9, ej, Bool.false_eq_true, ↓reduceIte], rfl, rfl⟩
def rkT (j : Nat) : Nat := [1, 2, 2, 2, 3, 3, 3].getD j 0
def takF : Nat → Int32 → Int32 → Int32
  | 0, _, q => q
  | f + 1, k, q => if q = -1 then q else if q = k then q else takF f k (mAbo (ix q))
def kab (q : Int32) : Int32 := if q = nI 4 then nI 1 else if q = nI 5 then nI 2 else if q = nI 6 then nI 3 else nI 0
theorem tak_m1 : ∀ f k, takF f k (-1) = -1
  | 0, _ => rfl
  | f + 1, k => if_pos rfl
theorem abo_s {j : Nat} (h : j < 7) : mAbo j = -1 ∨ ∃ i, i < 7 ∧ mAbo j = nI i ∧ rkT i + 1 ≤ rkT j := by
  obtain rfl | rfl | rfl | rfl | rfl | rfl | rfl := (show j = 0 ∨ j = 1 ∨ j = 2 ∨ j = 3 ∨ j = 4 ∨ j = 5 ∨ j = 6 by omega)
  · exact Or.inl rfl
  · exact Or.inr ⟨0, by decide, rfl, by decide⟩
  · exact Or.inr ⟨0, by decide, rfl, by decide⟩
  · exact Or.inr ⟨0, by decide, rfl, by decide⟩
  · exact Or.inr ⟨1, by decide, rfl, by decide⟩
  · exact Or.inr ⟨2, by decide, rfl, by decide⟩
  · exact Or.inr ⟨3, by decide, rfl, by decide⟩
theorem tak_all : ∀ q, q < 7 → ∀ k, k < 7 → (takF 3 (nI k) (nI q) = nI k ↔ nI q = nI k ∨ kab (nI q) = nI k ∨ nI k = nI 0) := by decide +kernel
theorem rk_3 : ∀ q, q < 7 → rkT q ≤ 3 := by decide
def takenR (A : I1) (n : Nat) (p k : Int32) : Int32 := if inR k (nI 0) (nI 6) then (if inN p n then (if A (9 * ix p + 0) = k ∨ kab (A (9 * ix p + 0)) = k ∨ k = nI 0 then A (9 * ix p + 0) else -12) else -11) else -2
theorem m_taken_l {l : Launch} {g : GG} {X : PHp} {now mind : I1} {th : I1 × Int32} {tx : TXt} {z : Zt} {tr : I1 × Int32} {tp : TPt} {Γ : Cxt} {i k : Nat} (hi : i < 6) (hk : k < 7) (C : Cx Γ g cX10_taken yX10_taken 4 (some .int) 3 0 0) : ∀ (f : Nat) (q : Int32), (q = -1 ∨ ∃ j, j < 7 ∧ q = nI j ∧ rkT j ≤ f) → V l Γ g 4 (QM Γ g (pI (if takF f (nI k) q = nI k then now (9 * i + 0) else -12) (jn X (hM g now mind th tx z tr tp))) 0 0) 0 0 NN (jn X (hM g now mind th tx z tr tp)) 31 [some (rf g (22, 0, 0)), some (.int (nI i)), some (.int (nI k)), some (.int q)] [] := by
  intro f
  induction f with
  | zero =>
    intro q hq
    have hq : q = -1 := hq.resolve_right (fun ⟨j, hj, _, h0⟩ => absurd h0 (by
      have : ∀ j, j < 7 → ¬ rkT j ≤ 0 := by decide
      exact this j hj))
    subst hq
    have e9 : ¬ takF 0 (nI k) (-1) = nI k := fun z => nI_m1 (by omega) z.symm
    rw [if_neg e9]
    refine V.iload_n (q := 32) C dX10_taken_31 rfl rfl ?_
    refine V.iconst (q := 33) (v := -1) C dX10_taken_32 rfl (by decide) ?_
    refine V.icmp_eq (q := 36) (tgt := 51) C dX10_taken_33 rfl rfl (fun hb33 => ?_) (fun hb33 => ?_)
    · refine V.iload_n (q := 52) C dX10_taken_51 rfl rfl ?_
      refine V.iload_n (q := 53) C dX10_taken_52 rfl rfl ?_
      refine V.icmp_ne (q := 56) (tgt := 65) C dX10_taken_53 rfl rfl (fun hb53 => ?_) (fun hb53 => ?_)
      · refine V.bipush (q := 67) (v := -12) C dX10_taken_65 rfl (by decide) ?_
        exact V.ireturn C dX10_taken_67 ⟨rfl, rfl, rfl⟩
      · exact absurd hb53 (fun z => nI_m1 (by omega) z.symm)
    · exact absurd rfl hb33
  | succ f ih =>
    intro q hq
    rcases hq with rfl | ⟨j, hj, rfl, hr⟩
    · rw [tak_m1, if_neg (fun z => nI_m1 (by omega) z.symm)]
      refine V.iload_n (q := 32) C dX10_taken_31 rfl rfl ?_
      refine V.iconst (q := 33) (v := -1) C dX10_taken_32 rfl (by decide) ?_
      refine V.icmp_eq (q := 36) (tgt := 51) C dX10_taken_33 rfl rfl (fun hb33 => ?_) (fun hb33 => ?_)
      · refine V.iload_n (q := 52) C dX10_taken_51 rfl rfl ?_
        refine V.iload_n (q := 53) C dX10_taken_52 rfl rfl ?_
        refine V.icmp_ne (q := 56) (tgt := 65) C dX10_taken_53 rfl rfl (fun hb53 => ?_) (fun hb53 => ?_)
        · refine V.bipush (q := 67) (v := -12) C dX10_taken_65 rfl (by decide) ?_
          exact V.ireturn C dX10_taken_67 ⟨rfl, rfl, rfl⟩
        · exact absurd hb53 (fun z => nI_m1 (by omega) z.symm)
      · exact absurd rfl hb33
    · have e8 : takF (f + 1) (nI k) (nI j) = if nI j = nI k then nI j else takF f (nI k) (mAbo j) := by rw [takF, if_neg (nI_m1 (by omega)), ix_nI (by omega)]
      rw [e8]
      refine V.iload_n (q := 32) C dX10_taken_31 rfl rfl ?_
      refine V.iconst (q := 33) (v := -1) C dX10_taken_32 rfl (by decide) ?_
      refine V.icmp_eq (q := 36) (tgt := 51) C dX10_taken_33 rfl rfl (fun hb33 => ?_) (fun hb33 => ?_)
      · exact absurd hb33 (nI_m1 (by omega))
      · refine V.iload_n (q := 37) C dX10_taken_36 rfl rfl ?_
        refine V.iload_n (q := 38) C dX10_taken_37 rfl rfl ?_
        refine V.icmp_eq (q := 41) (tgt := 51) C dX10_taken_38 rfl rfl (fun hb38 => ?_) (fun hb38 => ?_)
        · rw [if_pos hb38, if_pos hb38]
          refine V.iload_n (q := 52) C dX10_taken_51 rfl rfl ?_
          refine V.iload_n (q := 53) C dX10_taken_52 rfl rfl ?_
          refine V.icmp_ne (q := 56) (tgt := 65) C dX10_taken_53 rfl rfl (fun hb53 => ?_) (fun hb53 => ?_)
          · exact absurd hb38 hb53
          · refine V.aload_n (q := 57) C dX10_taken_56 rfl rfl ?_
            refine V.iload_n (q := 58) C dX10_taken_57 rfl rfl ?_
            refine V.iconst (q := 59) (v := nI 0) C dX10_taken_58 rfl (by decide) ?_
            refine V.callVi (q := 62) C me_X10_one (m_one (by omega)) ml_X10_86 dX10_taken_59 rfl okM ⟨_, rfl⟩ rfl rfl (Nat.le_of_ble_eq_true rfl) (by omega) (Nat.zero_le _) (Nat.zero_le _) ?_
            refine V.goto (tgt := 67) C dX10_taken_62 rfl ?_
            exact V.ireturn C dX10_taken_67 ⟨rfl, rfl, rfl⟩
        · rw [if_neg hb38]
          refine V.aload_n (q := 42) C dX10_taken_41 rfl rfl ?_
          refine V.get (q := 45) C fl_X10_52 dX10_taken_42 rfl okM rfl rfl ?_
          refine V.iload_n (q := 46) C dX10_taken_45 rfl rfl ?_
          refine V.ild (q := 47) (i := j) C dX10_taken_46 rfl okM_22 rfl rfl (by omega) (by decide) ?_
          refine V.istore_n (q := 48) C dX10_taken_47 rfl (by decide) rfl rfl ?_
          refine V.goto (tgt := 31) C dX10_taken_48 rfl ?_
          exact ih (mAbo j) ((abo_s hj).imp id (fun ⟨i, h1, h2, h3⟩ => ⟨i, h1, h2, by omega⟩))
theorem m_taken {l : Launch} {g : GG} {X : PHp} {now mind : I1} {th : I1 × Int32} {tx : TXt} {z : Zt} {tr : I1 × Int32} {tp : TPt} {n : Nat} (hn : now 78 = nI n) (hn6 : n ≤ 6) {p k : Int32} (hk9 : ∀ i, i < n → ∃ q, q < 7 ∧ now (9 * i + 0) = nI q) : Ct l g yX10_taken cX10_taken 4 (some .int) 3 0 0 [rf g (22, 0, 0), .int p, .int k] NN (jn X (hM g now mind th tx z tr tp)) (pI (takenR now n p k) (jn X (hM g now mind th tx z tr tp))) := by
  refine Ct.of (lv := [some (rf g (22, 0, 0)), some (.int p), some (.int k), none]) (by decide +kernel) rfl (Nat.le_of_ble_eq_true rfl) ?_
  intro Γ C
  refine V.iload_n (q := 1) C dX10_taken_0 rfl rfl ?_
  refine V.iconst (q := 2) (v := nI 0) C dX10_taken_1 rfl (by decide) ?_
  refine V.bipush (q := 4) (v := nI 6) C dX10_taken_2 rfl (by decide) ?_
  refine V.callSi (q := 7) C me_X10_isIn m_isIn ml_X10_82 dX10_taken_4 rfl rfl rfl (Nat.le_of_ble_eq_true rfl) (by omega) (Nat.zero_le _) (Nat.zero_le _) ?_
  refine V.if_neB (q := 10) (tgt := 13) C dX10_taken_7 rfl rfl (fun hb7 => ?_) (fun hb7 => ?_)
  · obtain ⟨k, hk0, hk, rfl⟩ := InR_nat (a := 0) (b := 6) (by omega) (by omega) hb7
    have ek := ix_nI (i := k) (by omega)
    refine V.aload_n (q := 14) C dX10_taken_13 rfl rfl ?_
    refine V.iload_n (q := 15) C dX10_taken_14 rfl rfl ?_
    refine V.callVi (q := 18) C me_X10_isOne (m_isOne hn (by omega)) ml_X10_97 dX10_taken_15 rfl okM ⟨_, rfl⟩ rfl rfl (Nat.le_of_ble_eq_true rfl) (by omega) (Nat.zero_le _) (Nat.zero_le _) ?_
    refine V.if_neB (q := 21) (tgt := 24) C dX10_taken_18 rfl rfl (fun hb18 => ?_) (fun hb18 => ?_)
    · obtain ⟨i, hi, rfl⟩ := InN_nat (by omega) hb18
      have ei := ix_nI (i := i) (by omega)
      refine V.aload_n (q := 25) C dX10_taken_24 rfl rfl ?_
      refine V.iload_n (q := 26) C dX10_taken_25 rfl rfl ?_
      refine V.iconst (q := 27) (v := nI 0) C dX10_taken_26 rfl (by decide) ?_
      refine V.callVi (q := 30) C me_X10_one (m_one (by omega)) ml_X10_86 dX10_taken_27 rfl okM ⟨_, rfl⟩ rfl rfl (Nat.le_of_ble_eq_true rfl) (by omega) (Nat.zero_le _) (Nat.zero_le _) ?_
      refine V.istore_n (q := 31) C dX10_taken_30 rfl (by decide) rfl rfl ?_
      obtain ⟨q, hq, eq⟩ := hk9 i hi
      rw [show takenR now n (nI i) (nI k) = if takF 3 (nI k) (now (9 * i + 0)) = nI k then now (9 * i + 0) else -12 by
        simp only [takenR, hb7, hb18, ei, eq, ↓reduceIte, ← tak_all q hq k (by omega)]]
      exact m_taken_l (by omega) (by omega) C 3 _ (Or.inr ⟨q, hq, eq, rk_3 q hq⟩)
    · refine V.bipush (q := 23) (v := -11) C dX10_taken_21 rfl (by decide) ?_
      exact V.ireturn C dX10_taken_23 ⟨by simp only [takenR, hb7, ek, hb18, Bool.false_eq_true, ↓reduceIte], rfl, rfl⟩
  · refine V.bipush (q := 12) (v := -2) C dX10_taken_10 rfl (by decide) ?_
    exact V.ireturn C dX10_taken_12 ⟨by simp only [takenR, hb7, Bool.false_eq_true, ↓reduceIte], rfl, rfl⟩
def zI (it : Nat → Int64) (t j : Nat) : Nat → Int64 := itr (fun k F => vp_updL F (60 * t + k) 0) j it
def tapeR (t s n : Int32) : Int32 := if inN t 6 then (if inR s (-1) (nI 4) then (if s < 0 then nI 1 else if n ≤ nI 60 then (if 0 ≤ n then nI 1 else -14) else -2) else -2) else -1
def tapeT (so le : I1) (it mo : Nat → Int64) (t s n : Int32) : TPt := if inN t 6 then (if inR s (-1) (nI 4) then (if s < 0 then (upd so (ix t) s, upd le (ix t) (nI 0), zI it (ix t) 60, mo) else if n ≤ nI 60 then (if 0 ≤ n then (upd so (ix t) s, upd le (ix t) n, zI it (ix t) 60, mo) else (so, le, it, mo)) else (so, le, it, mo)) else (so, le, it, mo)) else (so, le, it, mo)
theorem m_tape_l {l : Launch} {g : GG} {X : PHp} {now mind : I1} {th : I1 × Int32} {tx : TXt} {z : Zt} {tr : I1 × Int32} {so le : I1} {it mo : Nat → Int64} {Γ : Cxt} {Q : State → Prop} {t : Nat} {s n : Int32} (ht : t < 6) (C : Cx Γ g cX10_tape yX10_tape 5 (some .int) 3 0 0) (kx : V l Γ g 5 Q 0 0 NN (jn X (hM g now mind th tx z tr (so, le, zI it t 60, mo))) 93 [some (rf g (22, 0, 0)), some (.int (nI t)), some (.int s), some (.int n), some (.int (nI 60))] []) : ∀ k j : Nat, j + k = 60 → V l Γ g 5 Q 0 0 NN (jn X (hM g now mind th tx z tr (so, le, zI it t j, mo))) 67 [some (rf g (22, 0, 0)), some (.int (nI t)), some (.int s), some (.int n), some (.int (nI j))] [] := by
  intro k
  induction k with
  | zero =>
    intro j hj
    have ej : j = 60 := by omega
    subst ej
    refine V.iload (q := 69) C dX10_tape_67 rfl rfl ?_
    refine V.bipush (q := 71) (v := nI 60) C dX10_tape_69 rfl (by decide) ?_
    refine V.icmp_ge (q := 74) (tgt := 93) C dX10_tape_71 rfl rfl (fun hb71 => ?_) (fun hb71 => ?_)
    · exact kx
    · exact absurd ((nI_leI (by omega) (by omega)).mpr (by omega)) hb71
  | succ k ih =>
    intro j hj
    refine V.iload (q := 69) C dX10_tape_67 rfl rfl ?_
    refine V.bipush (q := 71) (v := nI 60) C dX10_tape_69 rfl (by decide) ?_
    refine V.icmp_ge (q := 74) (tgt := 93) C dX10_tape_71 rfl rfl (fun hb71 => ?_) (fun hb71 => ?_)
    · exact absurd ((nI_leI (by omega) (by omega)).mp hb71) (by omega)
    · refine V.aload_n (q := 75) C dX10_tape_74 rfl rfl ?_
      refine V.get (q := 78) C fl_X10_67 dX10_tape_75 rfl okM rfl rfl ?_
      refine V.bipush (q := 80) (v := nI 60) C dX10_tape_78 rfl (by decide) ?_
      refine V.iload_n (q := 81) C dX10_tape_80 rfl rfl ?_
      refine V.imul (q := 82) C dX10_tape_81 rfl ?_
      refine V.topi (x1 := nI (60 * t)) (pk_mul _ _) ?_
      refine V.iload (q := 84) C dX10_tape_82 rfl rfl ?_
      refine V.iadd (q := 85) C dX10_tape_84 rfl ?_
      refine V.topi (x1 := nI ((60 * t) + j)) (nI_add _ _) ?_
      refine V.lconst (q := 86) (v := 0) C dX10_tape_85 rfl (by decide) ?_
      refine V.lst (q := 87) (i := ((60 * t) + j)) C dX10_tape_86 rfl okM_28 rfl rfl (by omega) (by decide) uM_items ?_
      try dsimp only
      refine V.iinc (q := 90) (v := nI (j + 1)) C dX10_tape_87 rfl rfl (nI_1 _) (by decide) rfl rfl ?_
      refine V.goto (tgt := 67) C dX10_tape_90 rfl ?_
      exact ih (j + 1) (by omega)
theorem m_tape {l : Launch} {g : GG} {X : PHp} {now mind : I1} {th : I1 × Int32} {tx : TXt} {z : Zt} {tr : I1 × Int32} {so le : I1} {it mo : Nat → Int64} {t s n : Int32} : Ct l g yX10_tape cX10_tape 5 (some .int) 3 0 0 [rf g (22, 0, 0), .int t, .int s, .int n] NN (jn X (hM g now mind th tx z tr (so, le, it, mo))) (pI (tapeR t s n) (jn X (hM g now mind th tx z tr (tapeT so le it mo t s n)))) := by
  refine Ct.of (lv := [some (rf g (22, 0, 0)), some (.int t), some (.int s), some (.int n), none]) (by decide +kernel) rfl (Nat.le_of_ble_eq_true rfl) ?_
  intro Γ C
  refine V.iload_n (q := 1) C dX10_tape_0 rfl rfl ?_
  refine V.callSi (q := 4) C me_X10_isTape m_isTape ml_X10_261 dX10_tape_1 rfl rfl rfl (Nat.le_of_ble_eq_true rfl) (by omega) (Nat.zero_le _) (Nat.zero_le _) ?_
  refine V.if_neB (q := 7) (tgt := 9) C dX10_tape_4 rfl rfl (fun hb4 => ?_) (fun hb4 => ?_)
  · obtain ⟨t, ht, rfl⟩ := InN_nat (by omega) hb4
    have et := ix_nI (i := t) (by omega)
    refine V.iload_n (q := 10) C dX10_tape_9 rfl rfl ?_
    refine V.iconst (q := 11) (v := -1) C dX10_tape_10 rfl (by decide) ?_
    refine V.iconst (q := 12) (v := nI 4) C dX10_tape_11 rfl (by decide) ?_
    refine V.callSi (q := 15) C me_X10_isIn m_isIn ml_X10_82 dX10_tape_12 rfl rfl rfl (Nat.le_of_ble_eq_true rfl) (by omega) (Nat.zero_le _) (Nat.zero_le _) ?_
    refine V.if_eqB (q := 18) (tgt := 28) C dX10_tape_15 rfl rfl (fun hb15 => ?_) (fun hb15 => ?_)
    · refine V.bipush (q := 30) (v := -2) C dX10_tape_28 rfl (by decide) ?_
      exact V.ireturn C dX10_tape_30 ⟨by simp only [tapeR, hb4, et, hb15, Bool.false_eq_true, ↓reduceIte], by simp only [tapeT, hb4, et, hb15, Bool.false_eq_true, ↓reduceIte], rfl⟩
    · refine V.iload_n (q := 19) C dX10_tape_18 rfl rfl ?_
      refine V.if_lt (q := 22) (tgt := 31) C dX10_tape_19 rfl rfl (fun hb19 => ?_) (fun hb19 => ?_)
      · refine V.iload_n (q := 32) C dX10_tape_31 rfl rfl ?_
        refine V.if_lt (q := 35) (tgt := 42) C dX10_tape_32 rfl rfl (fun hb32 => ?_) (fun hb32 => ?_)
        · refine V.aload_n (q := 43) C dX10_tape_42 rfl rfl ?_
          refine V.get (q := 46) C fl_X10_61 dX10_tape_43 rfl okM rfl rfl ?_
          refine V.iload_n (q := 47) C dX10_tape_46 rfl rfl ?_
          refine V.iload_n (q := 48) C dX10_tape_47 rfl rfl ?_
          refine V.ist (q := 49) (i := t) C dX10_tape_48 rfl okM_26 rfl rfl (by omega) (by decide) uM_sorts ?_
          try dsimp only
          refine V.aload_n (q := 50) C dX10_tape_49 rfl rfl ?_
          refine V.get (q := 53) C fl_X10_64 dX10_tape_50 rfl okM rfl rfl ?_
          refine V.iload_n (q := 54) C dX10_tape_53 rfl rfl ?_
          refine V.iload_n (q := 55) C dX10_tape_54 rfl rfl ?_
          refine V.if_ge (q := 58) (tgt := 62) C dX10_tape_55 rfl rfl (fun hb55 => ?_) (fun hb55 => ?_)
          · exact absurd hb19 (by rw [Int32.lt_iff_toInt_lt]; rw [Int32.le_iff_toInt_le] at hb55; omega)
          · refine V.iconst (q := 59) (v := nI 0) C dX10_tape_58 rfl (by decide) ?_
            refine V.goto (tgt := 63) C dX10_tape_59 rfl ?_
            refine V.ist (q := 64) (i := t) C dX10_tape_63 rfl okM_27 rfl rfl (by omega) (by decide) uM_lengths ?_
            try dsimp only
            refine V.iconst (q := 65) (v := nI 0) C dX10_tape_64 rfl (by decide) ?_
            refine V.istore (q := 67) C dX10_tape_65 rfl (by decide) rfl rfl ?_
            refine m_tape_l (by omega) C ?_ 60 0 rfl
            refine V.iconst (q := 94) (v := nI 1) C dX10_tape_93 rfl (by decide) ?_
            exact V.ireturn C dX10_tape_94 ⟨by simp only [tapeR, hb4, et, hb15, hb19, hb32, hb55, Bool.false_eq_true, ↓reduceIte], by simp only [tapeT, hb4, et, hb15, hb19, hb32, hb55, Bool.false_eq_true, ↓reduceIte], rfl⟩
        · exact absurd hb19 hb32
      · refine V.iload_n (q := 23) C dX10_tape_22 rfl rfl ?_
        refine V.bipush (q := 25) (v := nI 60) C dX10_tape_23 rfl (by decide) ?_
        refine V.icmp_le (q := 28) (tgt := 31) C dX10_tape_25 rfl rfl (fun hb25 => ?_) (fun hb25 => ?_)
        · refine V.iload_n (q := 32) C dX10_tape_31 rfl rfl ?_
          refine V.if_lt (q := 35) (tgt := 42) C dX10_tape_32 rfl rfl (fun hb32 => ?_) (fun hb32 => ?_)
          · exact absurd hb32 hb19
          · refine V.iload_n (q := 36) C dX10_tape_35 rfl rfl ?_
            refine V.if_ge (q := 39) (tgt := 42) C dX10_tape_36 rfl rfl (fun hb36 => ?_) (fun hb36 => ?_)
            · refine V.aload_n (q := 43) C dX10_tape_42 rfl rfl ?_
              refine V.get (q := 46) C fl_X10_61 dX10_tape_43 rfl okM rfl rfl ?_
              refine V.iload_n (q := 47) C dX10_tape_46 rfl rfl ?_
              refine V.iload_n (q := 48) C dX10_tape_47 rfl rfl ?_
              refine V.ist (q := 49) (i := t) C dX10_tape_48 rfl okM_26 rfl rfl (by omega) (by decide) uM_sorts ?_
              try dsimp only
              refine V.aload_n (q := 50) C dX10_tape_49 rfl rfl ?_
              refine V.get (q := 53) C fl_X10_64 dX10_tape_50 rfl okM rfl rfl ?_
              refine V.iload_n (q := 54) C dX10_tape_53 rfl rfl ?_
              refine V.iload_n (q := 55) C dX10_tape_54 rfl rfl ?_
              refine V.if_ge (q := 58) (tgt := 62) C dX10_tape_55 rfl rfl (fun hb55 => ?_) (fun hb55 => ?_)
              · refine V.iload_n (q := 63) C dX10_tape_62 rfl rfl ?_
                refine V.ist (q := 64) (i := t) C dX10_tape_63 rfl okM_27 rfl rfl (by omega) (by decide) uM_lengths ?_
                try dsimp only
                refine V.iconst (q := 65) (v := nI 0) C dX10_tape_64 rfl (by decide) ?_
                refine V.istore (q := 67) C dX10_tape_65 rfl (by decide) rfl rfl ?_
                refine m_tape_l (by omega) C ?_ 60 0 rfl
                refine V.iconst (q := 94) (v := nI 1) C dX10_tape_93 rfl (by decide) ?_
                exact V.ireturn C dX10_tape_94 ⟨by simp only [tapeR, hb4, et, hb15, hb19, hb25, hb32, hb36, hb55, Bool.false_eq_true, ↓reduceIte], by simp only [tapeT, hb4, et, hb15, hb19, hb25, hb32, hb36, hb55, Bool.false_eq_true, ↓reduceIte], rfl⟩
              · exact absurd (by rw [Int32.lt_iff_toInt_lt] at hb19; rw [Int32.le_iff_toInt_le]; omega) hb55
            · refine V.bipush (q := 41) (v := -14) C dX10_tape_39 rfl (by decide) ?_
              exact V.ireturn C dX10_tape_41 ⟨by simp only [tapeR, hb4, et, hb15, hb19, hb25, hb32, hb36, Bool.false_eq_true, ↓reduceIte], by simp only [tapeT, hb4, et, hb15, hb19, hb25, hb32, hb36, Bool.false_eq_true, ↓reduceIte], rfl⟩
        · refine V.bipush (q := 30) (v := -2) C dX10_tape_28 rfl (by decide) ?_
          exact V.ireturn C dX10_tape_30 ⟨by simp only [tapeR, hb4, et, hb15, hb19, hb25, Bool.false_eq_true, ↓reduceIte], by simp only [tapeT, hb4, et, hb15, hb19, hb25, Bool.false_eq_true, ↓reduceIte], rfl⟩
  · refine V.iconst (q := 8) (v := -1) C dX10_tape_7 rfl (by decide) ?_
    exact V.ireturn C dX10_tape_8 ⟨by simp only [tapeR, hb4, Bool.false_eq_true, ↓reduceIte], by simp only [tapeT, hb4, Bool.false_eq_true, ↓reduceIte], rfl⟩
theorem n10 : ¬ nI 1 = (0 : Int32) := by decide
theorem n20 : ¬ nI 2 = (0 : Int32) := by decide
theorem n30 : ¬ nI 3 = (0 : Int32) := by decide
theorem n21 : ¬ nI 2 = nI 1 := by decide
theorem n31 : ¬ nI 3 = nI 1 := by decide
theorem n32 : ¬ nI 3 = nI 2 := by decide
theorem z0 : (0 : Int32) ≤ 0 := by decide
theorem z1 : 0 ≤ nI 1 := by decide
theorem z2 : 0 ≤ nI 2 := by decide
theorem z3 : 0 ≤ nI 3 := by decide
def fitV (s : Int32) (v : Int64) : Int64 := if s = 0 then v.toInt32.toInt8.toInt32.toInt64 else if s = nI 1 then v.toInt32.toInt16.toInt32.toInt64 else if s = nI 2 then v.toInt32.toInt64 else if s = nI 3 then v else if v = 0 then 0 else 1
def itemR (so : I1) (c : Nat) (t i : Int32) : Int32 := if inN t 6 then (if 0 ≤ so (ix t) then (if inN i c then nI 1 else -13) else -11) else -1
def itemI (so : I1) (c : Nat) (it : Nat → Int64) (t i : Int32) (v : Int64) : Nat → Int64 := if inN t 6 then (if 0 ≤ so (ix t) then (if inN i c then vp_updL it (60 * ix t + ix i) (fitV (so (ix t)) v) else it) else it) else it
theorem m_item {l : Launch} {g : GG} {X : PHp} {now mind : I1} {th : I1 × Int32} {tx : TXt} {z : Zt} {tr : I1 × Int32} {so le : I1} {it mo : Nat → Int64} {t i : Int32} {v : Int64} {c : Nat} (hl : ∀ j, t = nI j → j < 6 → le j = nI c) (hc : c ≤ 60) : Ct l g yX10_item cX10_item 6 (some .int) 3 0 0 [rf g (22, 0, 0), .int t, .int i, .long v] NN (jn X (hM g now mind th tx z tr (so, le, it, mo))) (pI (itemR so c t i) (jn X (hM g now mind th tx z tr (so, le, itemI so c it t i v, mo)))) := by
  refine Ct.of (lv := [some (rf g (22, 0, 0)), some (.int t), some (.int i), some (.long v), none, none]) (by decide +kernel) rfl (Nat.le_of_ble_eq_true rfl) ?_
  intro Γ C
  refine V.iload_n (q := 1) C dX10_item_0 rfl rfl ?_
  refine V.callSi (q := 4) C me_X10_isTape m_isTape ml_X10_261 dX10_item_1 rfl rfl rfl (Nat.le_of_ble_eq_true rfl) (by omega) (Nat.zero_le _) (Nat.zero_le _) ?_
  refine V.if_neB (q := 7) (tgt := 9) C dX10_item_4 rfl rfl (fun hb4 => ?_) (fun hb4 => ?_)
  · obtain ⟨t, ht, rfl⟩ := InN_nat (by omega) hb4
    have et := ix_nI (i := t) (by omega)
    refine V.aload_n (q := 10) C dX10_item_9 rfl rfl ?_
    refine V.get (q := 13) C fl_X10_61 dX10_item_10 rfl okM rfl rfl ?_
    refine V.iload_n (q := 14) C dX10_item_13 rfl rfl ?_
    refine V.ild (q := 15) (i := t) C dX10_item_14 rfl okM_26 rfl rfl (by omega) (by decide) ?_
    try dsimp only
    refine V.if_ge (q := 18) (tgt := 21) C dX10_item_15 rfl rfl (fun hb15 => ?_) (fun hb15 => ?_)
    · refine V.iload_n (q := 22) C dX10_item_21 rfl rfl ?_
      refine V.iconst (q := 23) (v := nI 0) C dX10_item_22 rfl (by decide) ?_
      refine V.aload_n (q := 24) C dX10_item_23 rfl rfl ?_
      refine V.get (q := 27) C fl_X10_64 dX10_item_24 rfl okM rfl rfl ?_
      refine V.iload_n (q := 28) C dX10_item_27 rfl rfl ?_
      refine V.ild (q := 29) (i := t) C dX10_item_28 rfl okM_27 rfl rfl (by omega) (by decide) ?_
      try dsimp only
      refine V.topi (x1 := nI (c)) (hl t rfl (by omega)) ?_
      refine V.iconst (q := 30) (v := nI 1) C dX10_item_29 rfl (by decide) ?_
      refine V.isub (q := 31) C dX10_item_30 rfl ?_
      refine V.callSi (q := 34) C me_X10_isIn m_isIn ml_X10_82 dX10_item_31 rfl rfl rfl (Nat.le_of_ble_eq_true rfl) (by omega) (Nat.zero_le _) (Nat.zero_le _) ?_
      refine V.if_neB (q := 37) (tgt := 40) C dX10_item_34 rfl rfl (fun hb34 => ?_) (fun hb34 => ?_)
      · have h9 := (InR_InN (by omega)).mp hb34
        obtain ⟨j, hj, rfl⟩ := InN_nat (by omega) h9
        have ej := ix_nI (i := j) (by omega)
        refine V.aload_n (q := 41) C dX10_item_40 rfl rfl ?_
        refine V.get (q := 44) C fl_X10_61 dX10_item_41 rfl okM rfl rfl ?_
        refine V.iload_n (q := 45) C dX10_item_44 rfl rfl ?_
        refine V.ild (q := 46) (i := t) C dX10_item_45 rfl okM_26 rfl rfl (by omega) (by decide) ?_
        try dsimp only
        refine V.istore (q := 48) C dX10_item_46 rfl (by decide) rfl rfl ?_
        refine V.aload_n (q := 49) C dX10_item_48 rfl rfl ?_
        refine V.get (q := 52) C fl_X10_67 dX10_item_49 rfl okM rfl rfl ?_
        refine V.bipush (q := 54) (v := nI 60) C dX10_item_52 rfl (by decide) ?_
        refine V.iload_n (q := 55) C dX10_item_54 rfl rfl ?_
        refine V.imul (q := 56) C dX10_item_55 rfl ?_
        refine V.topi (x1 := nI (60 * t)) (pk_mul _ _) ?_
        refine V.iload_n (q := 57) C dX10_item_56 rfl rfl ?_
        refine V.iadd (q := 58) C dX10_item_57 rfl ?_
        refine V.topi (x1 := nI ((60 * t) + j)) (nI_add _ _) ?_
        refine V.iload (q := 60) C dX10_item_58 rfl rfl ?_
        refine V.if_ne (q := 63) (tgt := 70) C dX10_item_60 rfl rfl (fun hb60 => ?_) (fun hb60 => ?_)
        · refine V.iload (q := 72) C dX10_item_70 rfl rfl ?_
          refine V.iconst (q := 73) (v := nI 1) C dX10_item_72 rfl (by decide) ?_
          refine V.icmp_ne (q := 76) (tgt := 83) C dX10_item_73 rfl rfl (fun hb73 => ?_) (fun hb73 => ?_)
          · refine V.iload (q := 85) C dX10_item_83 rfl rfl ?_
            refine V.iconst (q := 86) (v := nI 2) C dX10_item_85 rfl (by decide) ?_
            refine V.icmp_ne (q := 89) (tgt := 95) C dX10_item_86 rfl rfl (fun hb86 => ?_) (fun hb86 => ?_)
            · refine V.iload (q := 97) C dX10_item_95 rfl rfl ?_
              refine V.iconst (q := 98) (v := nI 3) C dX10_item_97 rfl (by decide) ?_
              refine V.icmp_ne (q := 101) (tgt := 105) C dX10_item_98 rfl rfl (fun hb98 => ?_) (fun hb98 => ?_)
              · refine V.lload_n (q := 106) C dX10_item_105 rfl rfl ?_
                refine V.lconst (q := 107) (v := 0) C dX10_item_106 rfl (by decide) ?_
                refine V.lcmp (q := 108) C dX10_item_107 rfl ?_
                refine V.if_eq (q := 111) (tgt := 115) C dX10_item_108 rfl rfl (fun hb108 => ?_) (fun hb108 => ?_)
                · replace hb108 := (lg_cmp_eq _ _).mp hb108
                  refine V.lconst (q := 116) (v := 0) C dX10_item_115 rfl (by decide) ?_
                  refine V.lst (q := 117) (i := ((60 * t) + j)) C dX10_item_116 rfl okM_28 rfl rfl (by omega) (by decide) uM_items ?_
                  try dsimp only
                  refine V.iconst (q := 118) (v := nI 1) C dX10_item_117 rfl (by decide) ?_
                  exact V.ireturn C dX10_item_118 ⟨by simp only [itemR, z0, z1, z2, z3, hb4, et, hb15, hb60, hb73, hb86, hb98, hb108, h9, ej, Bool.false_eq_true, ↓reduceIte], by simp only [itemI, fitV, n10, n20, n30, n21, n31, n32, z0, z1, z2, z3, hb4, et, hb15, hb60, hb73, hb86, hb98, hb108, h9, ej, Bool.false_eq_true, ↓reduceIte], rfl⟩
                · replace hb108 : ¬ v = 0 := fun z => hb108 ((lg_cmp_eq _ _).mpr z)
                  refine V.lconst (q := 112) (v := 1) C dX10_item_111 rfl (by decide) ?_
                  refine V.goto (tgt := 116) C dX10_item_112 rfl ?_
                  refine V.lst (q := 117) (i := ((60 * t) + j)) C dX10_item_116 rfl okM_28 rfl rfl (by omega) (by decide) uM_items ?_
                  try dsimp only
                  refine V.iconst (q := 118) (v := nI 1) C dX10_item_117 rfl (by decide) ?_
                  exact V.ireturn C dX10_item_118 ⟨by simp only [itemR, z0, z1, z2, z3, hb4, et, hb15, hb60, hb73, hb86, hb98, hb108, h9, ej, Bool.false_eq_true, ↓reduceIte], by simp only [itemI, fitV, n10, n20, n30, n21, n31, n32, z0, z1, z2, z3, hb4, et, hb15, hb60, hb73, hb86, hb98, hb108, h9, ej, Bool.false_eq_true, ↓reduceIte], rfl⟩
              · refine V.lload_n (q := 102) C dX10_item_101 rfl rfl ?_
                refine V.goto (tgt := 116) C dX10_item_102 rfl ?_
                refine V.lst (q := 117) (i := ((60 * t) + j)) C dX10_item_116 rfl okM_28 rfl rfl (by omega) (by decide) uM_items ?_
                try dsimp only
                refine V.iconst (q := 118) (v := nI 1) C dX10_item_117 rfl (by decide) ?_
                exact V.ireturn C dX10_item_118 ⟨by simp only [itemR, z0, z1, z2, z3, hb4, et, hb15, hb60, hb73, hb86, hb98, h9, ej, Bool.false_eq_true, ↓reduceIte], by simp only [itemI, fitV, n10, n20, n30, n21, n31, n32, z0, z1, z2, z3, hb4, et, hb15, hb60, hb73, hb86, hb98, h9, ej, Bool.false_eq_true, ↓reduceIte], rfl⟩
            · refine V.lload_n (q := 90) C dX10_item_89 rfl rfl ?_
              refine V.l2i (q := 91) C dX10_item_90 rfl rfl ?_
              refine V.i2l (q := 92) C dX10_item_91 rfl rfl ?_
              refine V.goto (tgt := 116) C dX10_item_92 rfl ?_
              refine V.lst (q := 117) (i := ((60 * t) + j)) C dX10_item_116 rfl okM_28 rfl rfl (by omega) (by decide) uM_items ?_
              try dsimp only
              refine V.iconst (q := 118) (v := nI 1) C dX10_item_117 rfl (by decide) ?_
              exact V.ireturn C dX10_item_118 ⟨by simp only [itemR, z0, z1, z2, z3, hb4, et, hb15, hb60, hb73, hb86, h9, ej, Bool.false_eq_true, ↓reduceIte], by simp only [itemI, fitV, n10, n20, n30, n21, n31, n32, z0, z1, z2, z3, hb4, et, hb15, hb60, hb73, hb86, h9, ej, Bool.false_eq_true, ↓reduceIte], rfl⟩
          · refine V.lload_n (q := 77) C dX10_item_76 rfl rfl ?_
            refine V.l2i (q := 78) C dX10_item_77 rfl rfl ?_
            refine V.i2s (q := 79) C dX10_item_78 rfl rfl ?_
            refine V.i2l (q := 80) C dX10_item_79 rfl rfl ?_
            refine V.goto (tgt := 116) C dX10_item_80 rfl ?_
            refine V.lst (q := 117) (i := ((60 * t) + j)) C dX10_item_116 rfl okM_28 rfl rfl (by omega) (by decide) uM_items ?_
            try dsimp only
            refine V.iconst (q := 118) (v := nI 1) C dX10_item_117 rfl (by decide) ?_
            exact V.ireturn C dX10_item_118 ⟨by simp only [itemR, z0, z1, z2, z3, hb4, et, hb15, hb60, hb73, h9, ej, Bool.false_eq_true, ↓reduceIte], by simp only [itemI, fitV, n10, n20, n30, n21, n31, n32, z0, z1, z2, z3, hb4, et, hb15, hb60, hb73, h9, ej, Bool.false_eq_true, ↓reduceIte], rfl⟩
        · refine V.lload_n (q := 64) C dX10_item_63 rfl rfl ?_
          refine V.l2i (q := 65) C dX10_item_64 rfl rfl ?_
          refine V.i2b (q := 66) C dX10_item_65 rfl rfl ?_
          refine V.i2l (q := 67) C dX10_item_66 rfl rfl ?_
          refine V.goto (tgt := 116) C dX10_item_67 rfl ?_
          refine V.lst (q := 117) (i := ((60 * t) + j)) C dX10_item_116 rfl okM_28 rfl rfl (by omega) (by decide) uM_items ?_
          try dsimp only
          refine V.iconst (q := 118) (v := nI 1) C dX10_item_117 rfl (by decide) ?_
          exact V.ireturn C dX10_item_118 ⟨by simp only [itemR, z0, z1, z2, z3, hb4, et, hb15, hb60, h9, ej, Bool.false_eq_true, ↓reduceIte], by simp only [itemI, fitV, n10, n20, n30, n21, n31, n32, z0, z1, z2, z3, hb4, et, hb15, hb60, h9, ej, Bool.false_eq_true, ↓reduceIte], rfl⟩
      · have h9 : ¬ inN i c = true := fun z => hb34 ((InR_InN (by omega)).mpr z)
        refine V.bipush (q := 39) (v := -13) C dX10_item_37 rfl (by decide) ?_
        exact V.ireturn C dX10_item_39 ⟨by simp only [itemR, z0, z1, z2, z3, hb4, et, hb15, h9, Bool.false_eq_true, ↓reduceIte], by simp only [itemI, fitV, n10, n20, n30, n21, n31, n32, z0, z1, z2, z3, hb4, et, hb15, h9, Bool.false_eq_true, ↓reduceIte], rfl⟩
    · refine V.bipush (q := 20) (v := -11) C dX10_item_18 rfl (by decide) ?_
      exact V.ireturn C dX10_item_20 ⟨by simp only [itemR, z0, z1, z2, z3, hb4, et, hb15, Bool.false_eq_true, ↓reduceIte], by simp only [itemI, fitV, n10, n20, n30, n21, n31, n32, z0, z1, z2, z3, hb4, et, hb15, Bool.false_eq_true, ↓reduceIte], rfl⟩
  · refine V.iconst (q := 8) (v := -1) C dX10_item_7 rfl (by decide) ?_
    exact V.ireturn C dX10_item_8 ⟨by simp only [itemR, z0, z1, z2, z3, hb4, Bool.false_eq_true, ↓reduceIte], by simp only [itemI, fitV, n10, n20, n30, n21, n31, n32, z0, z1, z2, z3, hb4, Bool.false_eq_true, ↓reduceIte], rfl⟩
def NOv : Int64 := -9223372036854775808
def readR (c : Nat) (it : Nat → Int64) (t i : Int32) : Int64 := if inN t 6 then (if inN i c then it (60 * ix t + ix i) else -9223372036854775808) else -9223372036854775808
theorem m_read {l : Launch} {g : GG} {X : PHp} {now mind : I1} {th : I1 × Int32} {tx : TXt} {z : Zt} {tr : I1 × Int32} {so le : I1} {it mo : Nat → Int64} {t i : Int32} {c : Nat} (hl : ∀ j, t = nI j → j < 6 → le j = nI c) (hc : c ≤ 60) : Ct l g yX10_read cX10_read 3 (some .long) 3 0 0 [rf g (22, 0, 0), .int t, .int i] NN (jn X (hM g now mind th tx z tr (so, le, it, mo))) (pL (readR c it t i) (jn X (hM g now mind th tx z tr (so, le, it, mo)))) := by
  refine Ct.of (lv := [some (rf g (22, 0, 0)), some (.int t), some (.int i)]) (by decide +kernel) rfl (Nat.le_of_ble_eq_true rfl) ?_
  intro Γ C
  refine V.iload_n (q := 1) C dX10_read_0 rfl rfl ?_
  refine V.callSi (q := 4) C me_X10_isTape m_isTape ml_X10_261 dX10_read_1 rfl rfl rfl (Nat.le_of_ble_eq_true rfl) (by omega) (Nat.zero_le _) (Nat.zero_le _) ?_
  refine V.if_eqB (q := 7) (tgt := 37) C dX10_read_4 rfl rfl (fun hb4 => ?_) (fun hb4 => ?_)
  · refine V.ldc2 (q := 40) (v := -9223372036854775808) C (tb_at 1090 (by decide +kernel) rfl) dX10_read_37 rfl ?_
    exact V.lreturn C dX10_read_40 ⟨by simp only [readR, hb4, Bool.false_eq_true, ↓reduceIte], rfl, rfl⟩
  · obtain ⟨t, ht, rfl⟩ := InN_nat (by omega) hb4
    have et := ix_nI (i := t) (by omega)
    refine V.iload_n (q := 8) C dX10_read_7 rfl rfl ?_
    refine V.iconst (q := 9) (v := nI 0) C dX10_read_8 rfl (by decide) ?_
    refine V.aload_n (q := 10) C dX10_read_9 rfl rfl ?_
    refine V.get (q := 13) C fl_X10_64 dX10_read_10 rfl okM rfl rfl ?_
    refine V.iload_n (q := 14) C dX10_read_13 rfl rfl ?_
    refine V.ild (q := 15) (i := t) C dX10_read_14 rfl okM_27 rfl rfl (by omega) (by decide) ?_
    try dsimp only
    refine V.topi (x1 := nI (c)) (hl t rfl (by omega)) ?_
    refine V.iconst (q := 16) (v := nI 1) C dX10_read_15 rfl (by decide) ?_
    refine V.isub (q := 17) C dX10_read_16 rfl ?_
    refine V.callSi (q := 20) C me_X10_isIn m_isIn ml_X10_82 dX10_read_17 rfl rfl rfl (Nat.le_of_ble_eq_true rfl) (by omega) (Nat.zero_le _) (Nat.zero_le _) ?_
    refine V.if_eqB (q := 23) (tgt := 37) C dX10_read_20 rfl rfl (fun hb20 => ?_) (fun hb20 => ?_)
    · have h9 : ¬ inN i c = true := fun z => hb20 ((InR_InN (by omega)).mpr z)
      refine V.ldc2 (q := 40) (v := -9223372036854775808) C (tb_at 1090 (by decide +kernel) rfl) dX10_read_37 rfl ?_
      exact V.lreturn C dX10_read_40 ⟨by simp only [readR, hb4, et, h9, Bool.false_eq_true, ↓reduceIte], rfl, rfl⟩
    · have h9 := (InR_InN (by omega)).mp hb20
      obtain ⟨j, hj, rfl⟩ := InN_nat (by omega) h9
      have ej := ix_nI (i := j) (by omega)
      refine V.aload_n (q := 24) C dX10_read_23 rfl rfl ?_
      refine V.get (q := 27) C fl_X10_67 dX10_read_24 rfl okM rfl rfl ?_
      refine V.bipush (q := 29) (v := nI 60) C dX10_read_27 rfl (by decide) ?_
      refine V.iload_n (q := 30) C dX10_read_29 rfl rfl ?_
      refine V.imul (q := 31) C dX10_read_30 rfl ?_
      refine V.topi (x1 := nI (60 * t)) (pk_mul _ _) ?_
      refine V.iload_n (q := 32) C dX10_read_31 rfl rfl ?_
      refine V.iadd (q := 33) C dX10_read_32 rfl ?_
      refine V.topi (x1 := nI ((60 * t) + j)) (nI_add _ _) ?_
      refine V.lld (q := 34) (i := ((60 * t) + j)) C dX10_read_33 rfl okM_28 rfl rfl (by omega) (by decide) ?_
      try dsimp only
      refine V.goto (tgt := 40) C dX10_read_34 rfl ?_
      exact V.lreturn C dX10_read_40 ⟨by simp only [readR, hb4, et, h9, ej, Bool.false_eq_true, ↓reduceIte], rfl, rfl⟩
