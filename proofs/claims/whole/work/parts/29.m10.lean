/-- the least hurt so far, by whom -/
def lsS (h x : Int32) (r : Int32 × Int32) : Int32 × Int32 := (if r.1 < h then r.1 else h, if r.1 ≤ h then r.2 else x)
def amF (rules sizes A : I1) (n m s k j : Nat) : Int32 × Int32 := itr (fun i r => lsS (alR (dsA rules sizes m k (upd A (54 + 3 * s + 2) (nI i))) 4 n) (nI i) r) j (2147483647, -5)
theorem m_aimOf_l {l : Launch} {g : GG} {X : PHp} {now : I1} {th : I1 × Int32} {tx : TXt}  {tr : I1 × Int32} {tp : TPt}  {Γ : Cxt} {Q : State → Prop} {n m s k : Nat} (hs : s < m) (hk : k ≤ 60) (hW : WI now n m) (hR : RuI tx.2.2.2.1 now) (C : Cx Γ g cX10_aimOf yX10_aimOf 8 (some .int) 28 0 0) (kx : ∀ (q : SD) (u : Option Value), V l Γ g 8 Q 0 0 NN (jn X (hM g (aiA now s n) q.2.1 th tx (zS q.1 q.2.2.1 q.2.2.2) tr tp)) 76 [some (rf g (22, 0, 0)), some (.int (nI s)), some (.int (nI k)), some (.int (now (54 + 3 * s + 2))), some (.int (amF tx.2.2.1 tx.2.2.2.1 now n m s k n).2), some (.int (amF tx.2.2.1 tx.2.2.2.1 now n m s k n).1), some (.int (nI n)), u] []) : ∀ (f j : Nat) (q : SD) (u : Option Value), j + f = n → V l Γ g 8 Q 0 0 NN (jn X (hM g (aiA now s j) q.2.1 th tx (zS q.1 q.2.2.1 q.2.2.2) tr tp)) 18 [some (rf g (22, 0, 0)), some (.int (nI s)), some (.int (nI k)), some (.int (now (54 + 3 * s + 2))), some (.int (amF tx.2.2.1 tx.2.2.2.1 now n m s k j).2), some (.int (amF tx.2.2.1 tx.2.2.2.1 now n m s k j).1), some (.int (nI j)), u] [] := by
  have h6 := hW.2.1
  have h8 := hW.2.2.2.1
  intro f
  induction f with
  | zero =>
    intro j q u hj
    obtain rfl : j = n := by omega
    refine V.iload (q := 20) C dX10_aimOf_18 rfl rfl ?_
    refine V.aload_n (q := 21) C dX10_aimOf_20 rfl rfl ?_
    refine V.get (q := 24) C fl_X10_9 dX10_aimOf_21 rfl okM rfl rfl ?_
    refine V.bipush (q := 26) (v := nI 78) C dX10_aimOf_24 rfl (by decide) ?_
    refine V.ild (q := 27) (i := 78) C dX10_aimOf_26 rfl okM_0 rfl rfl (by omega) (by decide) ?_
    refine V.topi (x1 := nI (j)) ((aiA_at (by omega)).trans hW.1) ?_
    refine V.icmp_ge (q := 30) (tgt := 76) C dX10_aimOf_27 rfl rfl (fun hb27 => ?_) (fun hb27 => ?_)
    · exact kx q u
    · exact absurd ((nI_leI (by omega) (by omega)).mpr (by omega)) hb27
  | succ f ih =>
    intro j q u hj
    have hB : WI (upd now (54 + 3 * s + 2) (nI j)) n m := WI_aim hW (by omega) (Or.inr ⟨j, by omega, rfl⟩)
    have hR2 : RuI tx.2.2.2.1 (upd now (54 + 3 * s + 2) (nI j)) := RuI_hi (if_neg (by omega)) hR
    obtain ⟨h, eh⟩ : ∃ h, alR (dsA tx.2.2.1 tx.2.2.2.1 m k (upd now (54 + 3 * s + 2) (nI j))) 4 n = h := ⟨_, rfl⟩
    refine V.iload (q := 20) C dX10_aimOf_18 rfl rfl ?_
    refine V.aload_n (q := 21) C dX10_aimOf_20 rfl rfl ?_
    refine V.get (q := 24) C fl_X10_9 dX10_aimOf_21 rfl okM rfl rfl ?_
    refine V.bipush (q := 26) (v := nI 78) C dX10_aimOf_24 rfl (by decide) ?_
    refine V.ild (q := 27) (i := 78) C dX10_aimOf_26 rfl okM_0 rfl rfl (by omega) (by decide) ?_
    refine V.topi (x1 := nI (n)) ((aiA_at (by omega)).trans hW.1) ?_
    refine V.icmp_ge (q := 30) (tgt := 76) C dX10_aimOf_27 rfl rfl (fun hb27 => ?_) (fun hb27 => ?_)
    · exact absurd ((nI_leI (by omega) (by omega)).mp hb27) (by omega)
    · refine V.aload_n (q := 31) C dX10_aimOf_30 rfl rfl ?_
      refine V.iload_n (q := 32) C dX10_aimOf_31 rfl rfl ?_
      refine V.iload (q := 34) C dX10_aimOf_32 rfl rfl ?_
      refine V.callVi (q := 37) C me_X10_aims (m_aims (by omega)) ml_X10_114 dX10_aimOf_34 rfl okM ⟨_, rfl⟩ rfl rfl (Nat.le_of_ble_eq_true rfl) (by omega) (Nat.zero_le _) (Nat.zero_le _) ?_
      refine V.ph (PH1 := (jn X (hM g (upd now (54 + 3 * s + 2) (nI j)) q.2.1 th tx (zS q.1 q.2.2.1 q.2.2.2) tr tp))) (by rw [aiA_u]) ?_
      refine V.pop (q := 38) C dX10_aimOf_37 rfl rfl ?_
      refine V.aload_n (q := 39) C dX10_aimOf_38 rfl rfl ?_
      refine V.iload_n (q := 40) C dX10_aimOf_39 rfl rfl ?_
      refine V.callVxi (q := 43) C me_X10_hurtBehind (m_hurtBehind (by omega) hB hR2) ml_X10_211 dX10_aimOf_40 rfl okM ⟨_, rfl⟩ rfl rfl (Nat.le_of_ble_eq_true rfl) (by omega) (Nat.zero_le _) (Nat.zero_le _) (fun q1 _ => ?_)
      refine V.topi (x1 := h) eh ?_
      refine V.istore (q := 45) C dX10_aimOf_43 rfl (by decide) rfl rfl ?_
      refine V.iload (q := 47) C dX10_aimOf_45 rfl rfl ?_
      refine V.iload (q := 49) C dX10_aimOf_47 rfl rfl ?_
      refine V.icmp_ge (q := 52) (tgt := 57) C dX10_aimOf_49 rfl rfl (fun hb49 => ?_) (fun hb49 => ?_)
      · refine V.iload (q := 59) C dX10_aimOf_57 rfl rfl ?_
        refine V.istore (q := 61) C dX10_aimOf_59 rfl (by decide) rfl rfl ?_
        refine V.iload (q := 63) C dX10_aimOf_61 rfl rfl ?_
        refine V.iload (q := 65) C dX10_aimOf_63 rfl rfl ?_
        refine V.min (q := 68) C dX10_aimOf_65 (tb_at 969 (by decide +kernel) rfl) rfl ?_
        refine V.istore (q := 70) C dX10_aimOf_68 rfl (by decide) rfl rfl ?_
        refine V.iinc (q := 73) (v := nI (j + 1)) C dX10_aimOf_70 rfl rfl (nI_1 _) (by decide) rfl rfl ?_
        refine V.goto (tgt := 18) C dX10_aimOf_73 rfl ?_
        have e9 : (amF tx.2.2.1 tx.2.2.2.1 now n m s k (j + 1)) = (if (amF tx.2.2.1 tx.2.2.2.1 now n m s k j).1 < h then (amF tx.2.2.1 tx.2.2.2.1 now n m s k j).1 else h, (amF tx.2.2.1 tx.2.2.2.1 now n m s k j).2) := by
          show lsS (alR (dsA tx.2.2.1 tx.2.2.2.1 m k (upd now (54 + 3 * s + 2) (nI j))) 4 n) (nI j) (amF tx.2.2.1 tx.2.2.2.1 now n m s k j) = _
          rw [eh, lsS, if_pos hb49]
        have h9 := fun u => ih (j + 1) (q1, (upd now (54 + 3 * s + 2) (nI j)), q.2.2.1, q.2.2.2) u (by omega)
        rw [e9] at h9
        refine V.ph (PH1 := (jn X (hM g (aiA now s (j + 1)) (upd now (54 + 3 * s + 2) (nI j)) th tx (zS q1 q.2.2.1 q.2.2.2) tr tp))) (by rw [aiA_s]) ?_
        exact h9 _
      · refine V.iload (q := 54) C dX10_aimOf_52 rfl rfl ?_
        refine V.goto (tgt := 59) C dX10_aimOf_54 rfl ?_
        refine V.istore (q := 61) C dX10_aimOf_59 rfl (by decide) rfl rfl ?_
        refine V.iload (q := 63) C dX10_aimOf_61 rfl rfl ?_
        refine V.iload (q := 65) C dX10_aimOf_63 rfl rfl ?_
        refine V.min (q := 68) C dX10_aimOf_65 (tb_at 969 (by decide +kernel) rfl) rfl ?_
        refine V.istore (q := 70) C dX10_aimOf_68 rfl (by decide) rfl rfl ?_
        refine V.iinc (q := 73) (v := nI (j + 1)) C dX10_aimOf_70 rfl rfl (nI_1 _) (by decide) rfl rfl ?_
        refine V.goto (tgt := 18) C dX10_aimOf_73 rfl ?_
        have e9 : (amF tx.2.2.1 tx.2.2.2.1 now n m s k (j + 1)) = (if (amF tx.2.2.1 tx.2.2.2.1 now n m s k j).1 < h then (amF tx.2.2.1 tx.2.2.2.1 now n m s k j).1 else h, nI j) := by
          show lsS (alR (dsA tx.2.2.1 tx.2.2.2.1 m k (upd now (54 + 3 * s + 2) (nI j))) 4 n) (nI j) (amF tx.2.2.1 tx.2.2.2.1 now n m s k j) = _
          rw [eh, lsS, if_neg hb49]
        have h9 := fun u => ih (j + 1) (q1, (upd now (54 + 3 * s + 2) (nI j)), q.2.2.1, q.2.2.2) u (by omega)
        rw [e9] at h9
        refine V.ph (PH1 := (jn X (hM g (aiA now s (j + 1)) (upd now (54 + 3 * s + 2) (nI j)) th tx (zS q1 q.2.2.1 q.2.2.2) tr tp))) (by rw [aiA_s]) ?_
        exact h9 _
theorem m_aimOf {l : Launch} {g : GG} {X : PHp} {now : I1} {th : I1 × Int32} {tx : TXt}  {tr : I1 × Int32} {tp : TPt} {q : SD} {n m s k : Nat} (hs : s < m) (hk : k ≤ 60) (hW : WI now n m) (hR : RuI tx.2.2.2.1 now) : Ct l g yX10_aimOf cX10_aimOf 8 (some .int) 28 0 0 [rf g (22, 0, 0), .int (nI s), .int (nI k)] NN (jn X (hM g now q.2.1 th tx (zS q.1 q.2.2.1 q.2.2.2) tr tp)) (xI (fun _ : SD => True) (fun _ => (amF tx.2.2.1 tx.2.2.2.1 now n m s k n).2) (fun q1 => (jn X (hM g now q1.2.1 th tx (zS q1.1 q1.2.2.1 q1.2.2.2) tr tp)))) := by
  refine Ct.of (lv := [some (rf g (22, 0, 0)), some (.int (nI s)), some (.int (nI k)), none, none, none, none, none]) (by decide +kernel) rfl (Nat.le_of_ble_eq_true rfl) ?_
  intro Γ C
  have h6 := hW.2.1
  have h8 := hW.2.2.2.1
  refine V.aload_n (q := 1) C dX10_aimOf_0 rfl rfl ?_
  refine V.iload_n (q := 2) C dX10_aimOf_1 rfl rfl ?_
  refine V.iconst (q := 3) (v := nI 2) C dX10_aimOf_2 rfl (by decide) ?_
  refine V.callVi (q := 6) C me_X10_word (m_word (by omega)) ml_X10_90 dX10_aimOf_3 rfl okM ⟨_, rfl⟩ rfl rfl (Nat.le_of_ble_eq_true rfl) (by omega) (Nat.zero_le _) (Nat.zero_le _) ?_
  refine V.istore_n (q := 7) C dX10_aimOf_6 rfl (by decide) rfl rfl ?_
  refine V.bipush (q := 9) (v := -5) C dX10_aimOf_7 rfl (by decide) ?_
  refine V.istore (q := 11) C dX10_aimOf_9 rfl (by decide) rfl rfl ?_
  refine V.ldc (q := 13) (v := 2147483647) C (tb_at 1069 (by decide +kernel) rfl) dX10_aimOf_11 rfl ?_
  refine V.istore (q := 15) C dX10_aimOf_13 rfl (by decide) rfl rfl ?_
  refine V.iconst (q := 16) (v := nI 0) C dX10_aimOf_15 rfl (by decide) ?_
  refine V.istore (q := 18) C dX10_aimOf_16 rfl (by decide) rfl rfl ?_
  refine m_aimOf_l (by omega) (by omega) hW hR C ?_ n 0 q _ (by omega)
  intro q2 u
  refine V.aload_n (q := 77) C dX10_aimOf_76 rfl rfl ?_
  refine V.iload_n (q := 78) C dX10_aimOf_77 rfl rfl ?_
  refine V.iload_n (q := 79) C dX10_aimOf_78 rfl rfl ?_
  refine V.callVi (q := 82) C me_X10_aims (m_aims (by omega)) ml_X10_114 dX10_aimOf_79 rfl okM ⟨_, rfl⟩ rfl rfl (Nat.le_of_ble_eq_true rfl) (by omega) (Nat.zero_le _) (Nat.zero_le _) ?_
  refine V.ph (PH1 := (jn X (hM g now q2.2.1 th tx (zS q2.1 q2.2.2.1 q2.2.2.2) tr tp))) (by rw [aiA_b]) ?_
  refine V.pop (q := 83) C dX10_aimOf_82 rfl rfl ?_
  refine V.iload (q := 85) C dX10_aimOf_83 rfl rfl ?_
  exact V.ireturn C dX10_aimOf_85 ⟨q2, trivial, rfl, rfl, rfl⟩
theorem swA_hi {A : I1} {a b k : Nat} (ha : a < 6) (hb : b < 6) (hk : 54 ≤ k) : swA A a b k = A k := by
  simp only [swA, upd]
  rw [if_neg (by omega), if_neg (by omega)]
theorem swA_b {A : I1} {a b : Nat} : swA (swA A a b) a b = A := by
  funext k
  simp only [swA, upd]
  by_cases h : k = 9 * b + 2
  · rw [if_pos h]
    by_cases h2 : 9 * a + 2 = 9 * b + 2
    · rw [if_pos h2, h, ← h2]
    · rw [if_neg h2, if_pos trivial, h]
  · rw [if_neg h]
    by_cases h2 : k = 9 * a + 2
    · rw [if_pos h2, if_pos trivial, h2]
    · rw [if_neg h2, if_neg h, if_neg h2]
def chI (rules sizes A : I1) (n m k a : Nat) (r : Int32 × Int32) (j : Nat) : Int32 × Int32 := itr (fun j r => lsS (alR (dsA rules sizes m k (swA A a (a + 1 + j))) 4 n) (nI (10 * a + (a + 1 + j))) r) j r
def chO (rules sizes A : I1) (n m k j : Nat) : Int32 × Int32 := itr (fun a r => chI rules sizes A n m k a r (n - (a + 1))) j (alR (dsA rules sizes m k A) 4 n, -5)
theorem m_changes_i {l : Launch} {g : GG} {X : PHp} {now : I1} {th : I1 × Int32} {tx : TXt}  {tr : I1 × Int32} {tp : TPt}  {Γ : Cxt} {Q : State → Prop} {n m k a : Nat} {r : Int32 × Int32} (hk : k ≤ 60) (ha : a < n) (hW : WI now n m) (hR : RuI tx.2.2.2.1 now) (C : Cx Γ g cX10_changes yX10_changes 7 (some .int) 28 0 0) (kx : ∀ (q : SD) (u v : Option Value), V l Γ g 7 Q 0 0 NN (jn X (hM g now q.2.1 th tx (zS q.1 q.2.2.1 q.2.2.2) tr tp)) 97 [some (rf g (22, 0, 0)), some (.int (nI k)), some (.int (chI tx.2.2.1 tx.2.2.2.1 now n m k a r (n - (a + 1))).1), some (.int (chI tx.2.2.1 tx.2.2.2.1 now n m k a r (n - (a + 1))).2), some (.int (nI a)), v, u] []) : ∀ (f j : Nat) (q : SD) (u : Option Value), j + f = n - (a + 1) → V l Γ g 7 Q 0 0 NN (jn X (hM g now q.2.1 th tx (zS q.1 q.2.2.1 q.2.2.2) tr tp)) 30 [some (rf g (22, 0, 0)), some (.int (nI k)), some (.int (chI tx.2.2.1 tx.2.2.2.1 now n m k a r j).1), some (.int (chI tx.2.2.1 tx.2.2.2.1 now n m k a r j).2), some (.int (nI a)), some (.int (nI (a + 1 + j))), u] [] := by
  have h6 := hW.2.1
  intro f
  induction f with
  | zero =>
    intro j q u hj
    have ej : j = n - (a + 1) := by omega
    rw [ej]
    have ek : a + 1 + (n - (a + 1)) = n := by omega
    rw [ek]
    refine V.iload (q := 32) C dX10_changes_30 rfl rfl ?_
    refine V.aload_n (q := 33) C dX10_changes_32 rfl rfl ?_
    refine V.get (q := 36) C fl_X10_9 dX10_changes_33 rfl okM rfl rfl ?_
    refine V.bipush (q := 38) (v := nI 78) C dX10_changes_36 rfl (by decide) ?_
    refine V.ild (q := 39) (i := 78) C dX10_changes_38 rfl okM_0 rfl rfl (by omega) (by decide) ?_
    refine V.topi (x1 := nI (n)) hW.1 ?_
    refine V.icmp_ge (q := 42) (tgt := 97) C dX10_changes_39 rfl rfl (fun hb39 => ?_) (fun hb39 => ?_)
    · exact kx q u _
    · exact absurd ((nI_leI (by omega) (by omega)).mpr (by omega)) hb39
  | succ f ih =>
    intro j q u hj
    have hB : WI (swA now a (a + 1 + j)) n m := WI_hi (fun k hk _ => swA_hi (by omega) (by omega) hk) hW
    have hR2 : RuI tx.2.2.2.1 (swA now a (a + 1 + j)) := RuI_hi (swA_hi (by omega) (by omega) (by omega)) hR
    obtain ⟨h, eh⟩ : ∃ h, alR (dsA tx.2.2.1 tx.2.2.2.1 m k (swA now a (a + 1 + j))) 4 n = h := ⟨_, rfl⟩
    refine V.iload (q := 32) C dX10_changes_30 rfl rfl ?_
    refine V.aload_n (q := 33) C dX10_changes_32 rfl rfl ?_
    refine V.get (q := 36) C fl_X10_9 dX10_changes_33 rfl okM rfl rfl ?_
    refine V.bipush (q := 38) (v := nI 78) C dX10_changes_36 rfl (by decide) ?_
    refine V.ild (q := 39) (i := 78) C dX10_changes_38 rfl okM_0 rfl rfl (by omega) (by decide) ?_
    refine V.topi (x1 := nI (n)) hW.1 ?_
    refine V.icmp_ge (q := 42) (tgt := 97) C dX10_changes_39 rfl rfl (fun hb39 => ?_) (fun hb39 => ?_)
    · exact absurd ((nI_leI (by omega) (by omega)).mp hb39) (by omega)
    · refine V.aload_n (q := 43) C dX10_changes_42 rfl rfl ?_
      refine V.iload (q := 45) C dX10_changes_43 rfl rfl ?_
      refine V.iload (q := 47) C dX10_changes_45 rfl rfl ?_
      refine V.callVv (q := 50) C me_X10_swap (m_swap (by omega) (by omega)) ml_X10_214 dX10_changes_47 rfl okM ⟨_, rfl⟩ rfl rfl (Nat.le_of_ble_eq_true rfl) (by omega) (Nat.zero_le _) (Nat.zero_le _) ?_
      refine V.aload_n (q := 51) C dX10_changes_50 rfl rfl ?_
      refine V.iload_n (q := 52) C dX10_changes_51 rfl rfl ?_
      refine V.callVxi (q := 55) C me_X10_hurtBehind (m_hurtBehind (by omega) hB hR2) ml_X10_211 dX10_changes_52 rfl okM ⟨_, rfl⟩ rfl rfl (Nat.le_of_ble_eq_true rfl) (by omega) (Nat.zero_le _) (Nat.zero_le _) (fun q1 _ => ?_)
      refine V.topi (x1 := h) eh ?_
      refine V.istore (q := 57) C dX10_changes_55 rfl (by decide) rfl rfl ?_
      refine V.aload_n (q := 58) C dX10_changes_57 rfl rfl ?_
      refine V.iload (q := 60) C dX10_changes_58 rfl rfl ?_
      refine V.iload (q := 62) C dX10_changes_60 rfl rfl ?_
      refine V.callVv (q := 65) C me_X10_swap (m_swap (by omega) (by omega)) ml_X10_214 dX10_changes_62 rfl okM ⟨_, rfl⟩ rfl rfl (Nat.le_of_ble_eq_true rfl) (by omega) (Nat.zero_le _) (Nat.zero_le _) ?_
      refine V.ph (by rw [swA_b]) ?_
      refine V.iload (q := 67) C dX10_changes_65 rfl rfl ?_
      refine V.iload_n (q := 68) C dX10_changes_67 rfl rfl ?_
      refine V.icmp_ge (q := 71) (tgt := 82) C dX10_changes_68 rfl rfl (fun hb68 => ?_) (fun hb68 => ?_)
      · refine V.iload_n (q := 83) C dX10_changes_82 rfl rfl ?_
        refine V.istore_n (q := 84) C dX10_changes_83 rfl (by decide) rfl rfl ?_
        refine V.iload (q := 86) C dX10_changes_84 rfl rfl ?_
        refine V.iload_n (q := 87) C dX10_changes_86 rfl rfl ?_
        refine V.min (q := 90) C dX10_changes_87 (tb_at 969 (by decide +kernel) rfl) rfl ?_
        refine V.istore_n (q := 91) C dX10_changes_90 rfl (by decide) rfl rfl ?_
        refine V.iinc (q := 94) (v := nI ((a + 1 + j) + 1)) C dX10_changes_91 rfl rfl (nI_1 _) (by decide) rfl rfl ?_
        refine V.goto (tgt := 30) C dX10_changes_94 rfl ?_
        have e9 : (chI tx.2.2.1 tx.2.2.2.1 now n m k a r (j + 1)) = (if (chI tx.2.2.1 tx.2.2.2.1 now n m k a r j).1 < h then (chI tx.2.2.1 tx.2.2.2.1 now n m k a r j).1 else h, (chI tx.2.2.1 tx.2.2.2.1 now n m k a r j).2) := by
          show lsS (alR (dsA tx.2.2.1 tx.2.2.2.1 m k (swA now a (a + 1 + j))) 4 n) (nI (10 * a + (a + 1 + j))) (chI tx.2.2.1 tx.2.2.2.1 now n m k a r j) = _
          rw [eh, lsS, if_pos hb68]
        have h9 := fun u => ih (j + 1) (q1, (swA now a (a + 1 + j)), q.2.2.1, q.2.2.2) u (by omega)
        rw [e9] at h9
        exact h9 _
      · refine V.bipush (q := 73) (v := nI 10) C dX10_changes_71 rfl (by decide) ?_
        refine V.iload (q := 75) C dX10_changes_73 rfl rfl ?_
        refine V.imul (q := 76) C dX10_changes_75 rfl ?_
        refine V.topi (x1 := nI (10 * a)) (pk_mul _ _) ?_
        refine V.iload (q := 78) C dX10_changes_76 rfl rfl ?_
        refine V.iadd (q := 79) C dX10_changes_78 rfl ?_
        refine V.topi (x1 := nI ((10 * a) + (a + 1 + j))) (nI_add _ _) ?_
        refine V.goto (tgt := 83) C dX10_changes_79 rfl ?_
        refine V.istore_n (q := 84) C dX10_changes_83 rfl (by decide) rfl rfl ?_
        refine V.iload (q := 86) C dX10_changes_84 rfl rfl ?_
        refine V.iload_n (q := 87) C dX10_changes_86 rfl rfl ?_
        refine V.min (q := 90) C dX10_changes_87 (tb_at 969 (by decide +kernel) rfl) rfl ?_
        refine V.istore_n (q := 91) C dX10_changes_90 rfl (by decide) rfl rfl ?_
        refine V.iinc (q := 94) (v := nI ((a + 1 + j) + 1)) C dX10_changes_91 rfl rfl (nI_1 _) (by decide) rfl rfl ?_
        refine V.goto (tgt := 30) C dX10_changes_94 rfl ?_
        have e9 : (chI tx.2.2.1 tx.2.2.2.1 now n m k a r (j + 1)) = (if (chI tx.2.2.1 tx.2.2.2.1 now n m k a r j).1 < h then (chI tx.2.2.1 tx.2.2.2.1 now n m k a r j).1 else h, nI (10 * a + (a + 1 + j))) := by
          show lsS (alR (dsA tx.2.2.1 tx.2.2.2.1 m k (swA now a (a + 1 + j))) 4 n) (nI (10 * a + (a + 1 + j))) (chI tx.2.2.1 tx.2.2.2.1 now n m k a r j) = _
          rw [eh, lsS, if_neg hb68]
        have h9 := fun u => ih (j + 1) (q1, (swA now a (a + 1 + j)), q.2.2.1, q.2.2.2) u (by omega)
        rw [e9] at h9
        exact h9 _
theorem m_changes_o {l : Launch} {g : GG} {X : PHp} {now : I1} {th : I1 × Int32} {tx : TXt}  {tr : I1 × Int32} {tp : TPt}  {Γ : Cxt} {Q : State → Prop} {n m k : Nat} (hk : k ≤ 60) (hW : WI now n m) (hR : RuI tx.2.2.2.1 now) (C : Cx Γ g cX10_changes yX10_changes 7 (some .int) 28 0 0) (kx : ∀ (q : SD) (u v : Option Value), V l Γ g 7 Q 0 0 NN (jn X (hM g now q.2.1 th tx (zS q.1 q.2.2.1 q.2.2.2) tr tp)) 103 [some (rf g (22, 0, 0)), some (.int (nI k)), some (.int (chO tx.2.2.1 tx.2.2.2.1 now n m k n).1), some (.int (chO tx.2.2.1 tx.2.2.2.1 now n m k n).2), some (.int (nI n)), v, u] []) : ∀ (f a : Nat) (q : SD) (u v : Option Value), a + f = n → V l Γ g 7 Q 0 0 NN (jn X (hM g now q.2.1 th tx (zS q.1 q.2.2.1 q.2.2.2) tr tp)) 12 [some (rf g (22, 0, 0)), some (.int (nI k)), some (.int (chO tx.2.2.1 tx.2.2.2.1 now n m k a).1), some (.int (chO tx.2.2.1 tx.2.2.2.1 now n m k a).2), some (.int (nI a)), v, u] [] := by
  have h6 := hW.2.1
  intro f
  induction f with
  | zero =>
    intro a q u v hj
    obtain rfl : a = n := by omega
    refine V.iload (q := 14) C dX10_changes_12 rfl rfl ?_
    refine V.aload_n (q := 15) C dX10_changes_14 rfl rfl ?_
    refine V.get (q := 18) C fl_X10_9 dX10_changes_15 rfl okM rfl rfl ?_
    refine V.bipush (q := 20) (v := nI 78) C dX10_changes_18 rfl (by decide) ?_
    refine V.ild (q := 21) (i := 78) C dX10_changes_20 rfl okM_0 rfl rfl (by omega) (by decide) ?_
    refine V.topi (x1 := nI (a)) hW.1 ?_
    refine V.icmp_ge (q := 24) (tgt := 103) C dX10_changes_21 rfl rfl (fun hb21 => ?_) (fun hb21 => ?_)
    · exact kx q u v
    · exact absurd ((nI_leI (by omega) (by omega)).mpr (by omega)) hb21
  | succ f ih =>
    intro a q u v hj
    refine V.iload (q := 14) C dX10_changes_12 rfl rfl ?_
    refine V.aload_n (q := 15) C dX10_changes_14 rfl rfl ?_
    refine V.get (q := 18) C fl_X10_9 dX10_changes_15 rfl okM rfl rfl ?_
    refine V.bipush (q := 20) (v := nI 78) C dX10_changes_18 rfl (by decide) ?_
    refine V.ild (q := 21) (i := 78) C dX10_changes_20 rfl okM_0 rfl rfl (by omega) (by decide) ?_
    refine V.topi (x1 := nI (n)) hW.1 ?_
    refine V.icmp_ge (q := 24) (tgt := 103) C dX10_changes_21 rfl rfl (fun hb21 => ?_) (fun hb21 => ?_)
    · exact absurd ((nI_leI (by omega) (by omega)).mp hb21) (by omega)
    · refine V.iload (q := 26) C dX10_changes_24 rfl rfl ?_
      refine V.iconst (q := 27) (v := nI 1) C dX10_changes_26 rfl (by decide) ?_
      refine V.iadd (q := 28) C dX10_changes_27 rfl ?_
      refine V.topi (x1 := nI (a + 1)) (nI_add _ _) ?_
      refine V.istore (q := 30) C dX10_changes_28 rfl (by decide) rfl rfl ?_
      refine m_changes_i hk (by omega) hW hR C ?_ (n - (a + 1)) 0 q _ (by omega)
      intro q2 u2 v2
      refine V.iinc (q := 100) (v := nI (a + 1)) C dX10_changes_97 rfl rfl (nI_1 _) (by decide) rfl rfl ?_
      refine V.goto (tgt := 12) C dX10_changes_100 rfl ?_
      exact ih (a + 1) q2 u2 v2 (by omega)
theorem m_changes {l : Launch} {g : GG} {X : PHp} {now : I1} {th : I1 × Int32} {tx : TXt}  {tr : I1 × Int32} {tp : TPt} {q : SD} {n m k : Nat} (hk : k ≤ 60) (hW : WI now n m) (hR : RuI tx.2.2.2.1 now) : Ct l g yX10_changes cX10_changes 7 (some .int) 28 0 0 [rf g (22, 0, 0), .int (nI k)] NN (jn X (hM g now q.2.1 th tx (zS q.1 q.2.2.1 q.2.2.2) tr tp)) (xI (fun _ : SD => True) (fun _ => (chO tx.2.2.1 tx.2.2.2.1 now n m k n).2) (fun q1 => (jn X (hM g now q1.2.1 th tx (zS q1.1 q1.2.2.1 q1.2.2.2) tr tp)))) := by
  refine Ct.of (lv := [some (rf g (22, 0, 0)), some (.int (nI k)), none, none, none, none, none]) (by decide +kernel) rfl (Nat.le_of_ble_eq_true rfl) ?_
  intro Γ C
  refine V.aload_n (q := 1) C dX10_changes_0 rfl rfl ?_
  refine V.iload_n (q := 2) C dX10_changes_1 rfl rfl ?_
  refine V.callVxi (q := 5) C me_X10_hurtBehind (m_hurtBehind (by omega) hW hR) ml_X10_211 dX10_changes_2 rfl okM ⟨_, rfl⟩ rfl rfl (Nat.le_of_ble_eq_true rfl) (by omega) (Nat.zero_le _) (Nat.zero_le _) (fun q1 _ => ?_)
  refine V.istore_n (q := 6) C dX10_changes_5 rfl (by decide) rfl rfl ?_
  refine V.bipush (q := 8) (v := -5) C dX10_changes_6 rfl (by decide) ?_
  refine V.istore_n (q := 9) C dX10_changes_8 rfl (by decide) rfl rfl ?_
  refine V.iconst (q := 10) (v := nI 0) C dX10_changes_9 rfl (by decide) ?_
  refine V.istore (q := 12) C dX10_changes_10 rfl (by decide) rfl rfl ?_
  refine m_changes_o hk hW hR C ?_ n 0 (q1, now, q.2.2.1, q.2.2.2) _ _ (by omega)
  intro q2 u2 v2
  refine V.iload_n (q := 104) C dX10_changes_103 rfl rfl ?_
  exact V.ireturn C dX10_changes_104 ⟨q2, trivial, rfl, rfl, rfl⟩
