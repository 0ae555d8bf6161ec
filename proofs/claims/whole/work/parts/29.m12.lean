/-- how many bits -/
def mnF (x : Int32) (j : Nat) : Int32 := itr (fun k c => c + ((x >>> (nI k &&& 31)) &&& nI 1)) j (nI 0)
theorem m_many_l {l : Launch} {g : GG} {P : PHp} {Γ : Cxt} {Q : State → Prop} {x : Int32} (C : Cx Γ g cX10_many yX10_many 3 (some .int) 1 0 0) (kx : V l Γ g 3 Q 0 0 NN P 24 [some (.int x), some (.int (mnF x 6)), some (.int (nI 6))] []) : ∀ k j : Nat, j + k = 6 → V l Γ g 3 Q 0 0 NN P 4 [some (.int x), some (.int (mnF x j)), some (.int (nI j))] [] := by
  intro k
  induction k with
  | zero =>
    intro j hj
    have ej : j = 6 := by omega
    subst ej
    refine V.iload_n (q := 5) C dX10_many_4 rfl rfl ?_
    refine V.bipush (q := 7) (v := nI 6) C dX10_many_5 rfl (by decide) ?_
    refine V.icmp_ge (q := 10) (tgt := 24) C dX10_many_7 rfl rfl (fun hb7 => ?_) (fun hb7 => ?_)
    · exact kx
    · exact absurd ((nI_leI (by omega) (by omega)).mpr (by omega)) hb7
  | succ k ih =>
    intro j hj
    refine V.iload_n (q := 5) C dX10_many_4 rfl rfl ?_
    refine V.bipush (q := 7) (v := nI 6) C dX10_many_5 rfl (by decide) ?_
    refine V.icmp_ge (q := 10) (tgt := 24) C dX10_many_7 rfl rfl (fun hb7 => ?_) (fun hb7 => ?_)
    · exact absurd ((nI_leI (by omega) (by omega)).mp hb7) (by omega)
    · refine V.iload_n (q := 11) C dX10_many_10 rfl rfl ?_
      refine V.iload_n (q := 12) C dX10_many_11 rfl rfl ?_
      refine V.iload_n (q := 13) C dX10_many_12 rfl rfl ?_
      refine V.ishr (q := 14) C dX10_many_13 rfl ?_
      refine V.iconst (q := 15) (v := nI 1) C dX10_many_14 rfl (by decide) ?_
      refine V.iand (q := 16) C dX10_many_15 rfl ?_
      refine V.iadd (q := 17) C dX10_many_16 rfl ?_
      refine V.istore_n (q := 18) C dX10_many_17 rfl (by decide) rfl rfl ?_
      refine V.iinc (q := 21) (v := nI (j + 1)) C dX10_many_18 rfl rfl (nI_1 _) (by decide) rfl rfl ?_
      refine V.goto (tgt := 4) C dX10_many_21 rfl ?_
      exact ih (j + 1) (by omega)
theorem m_many {l : Launch} {g : GG} {P : PHp} {x : Int32} : Ct l g yX10_many cX10_many 3 (some .int) 1 0 0 [.int x] NN P (pI (mnF x 6) P) := by
  refine Ct.of (lv := [some (.int x), none, none]) (by decide +kernel) rfl (Nat.le_of_ble_eq_true rfl) ?_
  intro Γ C
  refine V.iconst (q := 1) (v := nI 0) C dX10_many_0 rfl (by decide) ?_
  refine V.istore_n (q := 2) C dX10_many_1 rfl (by decide) rfl rfl ?_
  refine V.iconst (q := 3) (v := nI 0) C dX10_many_2 rfl (by decide) ?_
  refine V.istore_n (q := 4) C dX10_many_3 rfl (by decide) rfl rfl ?_
  refine m_many_l C ?_ 6 0 rfl
  refine V.iload_n (q := 25) C dX10_many_24 rfl rfl ?_
  exact V.ireturn C dX10_many_25 ⟨rfl, rfl, rfl⟩
def bitS (S k : Nat) : Bool := decide ((nI S >>> (nI k &&& 31)) &&& nI 1 = nI 1)
def mcA (A : I1) (S j : Nat) : I1 := itr (fun i B => upd B (9 * i + 2) (if bitS S i = true then nI 99 else B (9 * i + 2))) j A
def rsA (A D : I1) (j : Nat) : I1 := itr (fun i B => upd B (9 * i + 2) (A (9 * i + 2))) j D
theorem mcA_o {A : I1} {S : Nat} : ∀ j k, (∀ i, i < j → k ≠ 9 * i + 2) → mcA A S j k = A k := by
  intro j
  induction j with
  | zero => intro k _; rfl
  | succ j ih =>
    intro k h
    show upd (mcA A S j) (9 * j + 2) _ k = A k
    rw [upd, if_neg (h j (by omega))]
    exact ih k (fun i hi => h i (by omega))
theorem mcA_at {A : I1} {S j : Nat} : mcA A S j (9 * j + 2) = A (9 * j + 2) := mcA_o j _ (fun i hi => by omega)
theorem mcA_hi {A : I1} {S j k : Nat} (hj : j ≤ 6) (hk : 54 ≤ k) : mcA A S j k = A k := mcA_o j k (fun i hi => by omega)
theorem rsA_o {A D : I1} : ∀ j k, (∀ i, i < j → k ≠ 9 * i + 2) → rsA A D j k = D k := by
  intro j
  induction j with
  | zero => intro k _; rfl
  | succ j ih =>
    intro k h
    show upd (rsA A D j) (9 * j + 2) _ k = D k
    rw [upd, if_neg (h j (by omega))]
    exact ih k (fun i hi => h i (by omega))
theorem rsA_at {A D : I1} : ∀ j i, i < j → rsA A D j (9 * i + 2) = A (9 * i + 2) := by
  intro j
  induction j with
  | zero => intro i h; omega
  | succ j ih =>
    intro i h
    show upd (rsA A D j) (9 * j + 2) (A (9 * j + 2)) (9 * i + 2) = _
    by_cases e : i = j
    · subst e; rw [upd, if_pos rfl]
    · rw [upd, if_neg (by omega)]
      exact ih i (by omega)
theorem rsA_b {A : I1} {S n : Nat} : rsA A (mcA A S n) n = A := by
  funext k
  by_cases h : ∃ i, i < n ∧ k = 9 * i + 2
  · obtain ⟨i, hi, rfl⟩ := h
    exact rsA_at n i hi
  · have h2 : ∀ i, i < n → k ≠ 9 * i + 2 := fun i hi e => h ⟨i, hi, e⟩
    rw [rsA_o n k h2, mcA_o n k h2]
theorem rsA_hi {A D : I1} {j k : Nat} (hj : j ≤ 6) (hk : 54 ≤ k) : rsA A D j k = D k := rsA_o j k (fun i hi => by omega)
def mdS (rules sizes A : I1) (n m k : Nat) (S : Nat) (b : Int32) : Int32 := if b = -5 ∨ mnF (nI S) 6 < mnF b 6 then (if alR (dsA rules sizes m k (mcA A S n)) 4 n ≤ alR A 4 n then nI S else b) else b
def mdF (rules sizes A : I1) (n m k j : Nat) : Int32 := itr (fun S b => mdS rules sizes A n m k S b) j (-5)
theorem shl_n : ∀ n, n < 7 → nI 1 <<< (nI n &&& 31) = nI (2 ^ n) := by decide
theorem m_mends_a {l : Launch} {g : GG} {X : PHp} {now : I1} {th : I1 × Int32} {tx : TXt}  {tr : I1 × Int32} {tp : TPt}  {Γ : Cxt} {Q : State → Prop} {q : SD} {n k S : Nat} {h0 b : Int32} (hn : now 78 = nI n) (hn6 : n ≤ 6) (hS : S < 2 ^ 31) (C : Cx Γ g cX10_mends yX10_mends 6 (some .int) 28 0 0) (kx : V l Γ g 6 Q 0 0 NN (jn X (hM g (mcA now S n) q.2.1 th tx (zS q.1 (mix n (fun i => now (9 * i + 2)) q.2.2.1) q.2.2.2) tr tp)) 102 [some (rf g (22, 0, 0)), some (.int (nI k)), some (.int h0), some (.int b), some (.int (nI S)), some (.int (nI n))] []) : ∀ (f j : Nat), j + f = n → V l Γ g 6 Q 0 0 NN (jn X (hM g (mcA now S j) q.2.1 th tx (zS q.1 (mix j (fun i => now (9 * i + 2)) q.2.2.1) q.2.2.2) tr tp)) 47 [some (rf g (22, 0, 0)), some (.int (nI k)), some (.int h0), some (.int b), some (.int (nI S)), some (.int (nI j))] [] := by
  intro f
  induction f with
  | zero =>
    intro j hj
    obtain rfl : j = n := by omega
    refine V.iload (q := 49) C dX10_mends_47 rfl rfl ?_
    refine V.aload_n (q := 50) C dX10_mends_49 rfl rfl ?_
    refine V.get (q := 53) C fl_X10_9 dX10_mends_50 rfl okM rfl rfl ?_
    refine V.bipush (q := 55) (v := nI 78) C dX10_mends_53 rfl (by decide) ?_
    refine V.ild (q := 56) (i := 78) C dX10_mends_55 rfl okM_0 rfl rfl (by omega) (by decide) ?_
    refine V.topi (x1 := nI (j)) ((mcA_hi (by omega) (by omega)).trans hn) ?_
    refine V.icmp_ge (q := 59) (tgt := 102) C dX10_mends_56 rfl rfl (fun hb56 => ?_) (fun hb56 => ?_)
    · exact kx
    · exact absurd ((nI_leI (by omega) (by omega)).mpr (by omega)) hb56
  | succ f ih =>
    intro j hj
    refine V.iload (q := 49) C dX10_mends_47 rfl rfl ?_
    refine V.aload_n (q := 50) C dX10_mends_49 rfl rfl ?_
    refine V.get (q := 53) C fl_X10_9 dX10_mends_50 rfl okM rfl rfl ?_
    refine V.bipush (q := 55) (v := nI 78) C dX10_mends_53 rfl (by decide) ?_
    refine V.ild (q := 56) (i := 78) C dX10_mends_55 rfl okM_0 rfl rfl (by omega) (by decide) ?_
    refine V.topi (x1 := nI (n)) ((mcA_hi (by omega) (by omega)).trans hn) ?_
    refine V.icmp_ge (q := 59) (tgt := 102) C dX10_mends_56 rfl rfl (fun hb56 => ?_) (fun hb56 => ?_)
    · exact absurd ((nI_leI (by omega) (by omega)).mp hb56) (by omega)
    · refine V.aload_n (q := 60) C dX10_mends_59 rfl rfl ?_
      refine V.get (q := 63) C fl_X10_46 dX10_mends_60 rfl okM rfl rfl ?_
      refine V.iload (q := 65) C dX10_mends_63 rfl rfl ?_
      refine V.aload_n (q := 66) C dX10_mends_65 rfl rfl ?_
      refine V.iload (q := 68) C dX10_mends_66 rfl rfl ?_
      refine V.iconst (q := 69) (v := nI 2) C dX10_mends_68 rfl (by decide) ?_
      refine V.iload (q := 71) C dX10_mends_69 rfl rfl ?_
      refine V.iload (q := 73) C dX10_mends_71 rfl rfl ?_
      refine V.ishr (q := 74) C dX10_mends_73 rfl ?_
      refine V.iconst (q := 75) (v := nI 1) C dX10_mends_74 rfl (by decide) ?_
      refine V.iand (q := 76) C dX10_mends_75 rfl ?_
      refine V.iconst (q := 77) (v := nI 1) C dX10_mends_76 rfl (by decide) ?_
      refine V.icmp_ne (q := 80) (tgt := 85) C dX10_mends_77 rfl rfl (fun hb77 => ?_) (fun hb77 => ?_)
      · refine V.aload_n (q := 86) C dX10_mends_85 rfl rfl ?_
        refine V.iload (q := 88) C dX10_mends_86 rfl rfl ?_
        refine V.iconst (q := 89) (v := nI 2) C dX10_mends_88 rfl (by decide) ?_
        refine V.callVi (q := 92) C me_X10_one (m_one (by omega)) ml_X10_86 dX10_mends_89 rfl okM ⟨_, rfl⟩ rfl rfl (Nat.le_of_ble_eq_true rfl) (by omega) (Nat.zero_le _) (Nat.zero_le _) ?_
        refine V.callVi (q := 95) C me_X10_change (m_change (by omega)) ml_X10_93 dX10_mends_92 rfl okM ⟨_, rfl⟩ rfl rfl (Nat.le_of_ble_eq_true rfl) (by omega) (Nat.zero_le _) (Nat.zero_le _) ?_
        refine V.ist (q := 96) (i := j) C dX10_mends_95 rfl okM_20 rfl rfl (by omega) (by decide) uM_covers ?_
        refine V.iinc (q := 99) (v := nI (j + 1)) C dX10_mends_96 rfl rfl (nI_1 _) (by decide) rfl rfl ?_
        refine V.goto (tgt := 47) C dX10_mends_99 rfl ?_
        have e9 : mcA now S (j + 1) = upd (mcA now S j) (9 * j + 2) (mcA now S j (9 * j + 2)) := by
          show upd (mcA now S j) (9 * j + 2) (if bitS S j = true then nI 99 else mcA now S j (9 * j + 2)) = _
          rw [if_neg (by exact fun z => hb77 (of_decide_eq_true z))]
        refine V.ph (PH1 := (jn X (hM g (mcA now S (j + 1)) q.2.1 th tx (zS q.1 (mix (j + 1) (fun i => now (9 * i + 2)) q.2.2.1) q.2.2.2) tr tp))) (by rw [e9, ← mix_s, mcA_at]; rfl) ?_
        exact ih (j + 1) (by omega)
      · refine V.bipush (q := 82) (v := nI 99) C dX10_mends_80 rfl (by decide) ?_
        refine V.goto (tgt := 92) C dX10_mends_82 rfl ?_
        refine V.callVi (q := 95) C me_X10_change (m_change (by omega)) ml_X10_93 dX10_mends_92 rfl okM ⟨_, rfl⟩ rfl rfl (Nat.le_of_ble_eq_true rfl) (by omega) (Nat.zero_le _) (Nat.zero_le _) ?_
        refine V.ist (q := 96) (i := j) C dX10_mends_95 rfl okM_20 rfl rfl (by omega) (by decide) uM_covers ?_
        refine V.iinc (q := 99) (v := nI (j + 1)) C dX10_mends_96 rfl rfl (nI_1 _) (by decide) rfl rfl ?_
        refine V.goto (tgt := 47) C dX10_mends_99 rfl ?_
        have e9 : mcA now S (j + 1) = upd (mcA now S j) (9 * j + 2) (nI 99) := by
          show upd (mcA now S j) (9 * j + 2) (if bitS S j = true then nI 99 else mcA now S j (9 * j + 2)) = _
          rw [if_pos (by exact decide_eq_true hb77)]
        refine V.ph (PH1 := (jn X (hM g (mcA now S (j + 1)) q.2.1 th tx (zS q.1 (mix (j + 1) (fun i => now (9 * i + 2)) q.2.2.1) q.2.2.2) tr tp))) (by rw [e9, ← mix_s, mcA_at]; rfl) ?_
        exact ih (j + 1) (by omega)
theorem m_mends_b {l : Launch} {g : GG} {X : PHp} {now : I1} {th : I1 × Int32} {tx : TXt}  {tr : I1 × Int32} {tp : TPt}  {Γ : Cxt} {Q : State → Prop} {q : SD} {n k S : Nat} {h0 b : Int32} (hn : now 78 = nI n) (hn6 : n ≤ 6) (C : Cx Γ g cX10_mends yX10_mends 6 (some .int) 28 0 0) (kx : V l Γ g 6 Q 0 0 NN (jn X (hM g (rsA now (mcA now S n) n) q.2.1 th tx (zS q.1 (mix n (fun i => now (9 * i + 2)) q.2.2.1) q.2.2.2) tr tp)) 154 [some (rf g (22, 0, 0)), some (.int (nI k)), some (.int h0), some (.int b), some (.int (nI S)), some (.int (nI n))] []) : ∀ (f j : Nat), j + f = n → V l Γ g 6 Q 0 0 NN (jn X (hM g (rsA now (mcA now S n) j) q.2.1 th tx (zS q.1 (mix n (fun i => now (9 * i + 2)) q.2.2.1) q.2.2.2) tr tp)) 121 [some (rf g (22, 0, 0)), some (.int (nI k)), some (.int h0), some (.int b), some (.int (nI S)), some (.int (nI j))] [] := by
  intro f
  induction f with
  | zero =>
    intro j hj
    obtain rfl : j = n := by omega
    refine V.iload (q := 123) C dX10_mends_121 rfl rfl ?_
    refine V.aload_n (q := 124) C dX10_mends_123 rfl rfl ?_
    refine V.get (q := 127) C fl_X10_9 dX10_mends_124 rfl okM rfl rfl ?_
    refine V.bipush (q := 129) (v := nI 78) C dX10_mends_127 rfl (by decide) ?_
    refine V.ild (q := 130) (i := 78) C dX10_mends_129 rfl okM_0 rfl rfl (by omega) (by decide) ?_
    refine V.topi (x1 := nI (j)) ((rsA_hi (by omega) (by omega)).trans ((mcA_hi (by omega) (by omega)).trans hn)) ?_
    refine V.icmp_ge (q := 133) (tgt := 154) C dX10_mends_130 rfl rfl (fun hb130 => ?_) (fun hb130 => ?_)
    · exact kx
    · exact absurd ((nI_leI (by omega) (by omega)).mpr (by omega)) hb130
  | succ f ih =>
    intro j hj
    refine V.iload (q := 123) C dX10_mends_121 rfl rfl ?_
    refine V.aload_n (q := 124) C dX10_mends_123 rfl rfl ?_
    refine V.get (q := 127) C fl_X10_9 dX10_mends_124 rfl okM rfl rfl ?_
    refine V.bipush (q := 129) (v := nI 78) C dX10_mends_127 rfl (by decide) ?_
    refine V.ild (q := 130) (i := 78) C dX10_mends_129 rfl okM_0 rfl rfl (by omega) (by decide) ?_
    refine V.topi (x1 := nI (n)) ((rsA_hi (by omega) (by omega)).trans ((mcA_hi (by omega) (by omega)).trans hn)) ?_
    refine V.icmp_ge (q := 133) (tgt := 154) C dX10_mends_130 rfl rfl (fun hb130 => ?_) (fun hb130 => ?_)
    · exact absurd ((nI_leI (by omega) (by omega)).mp hb130) (by omega)
    · refine V.aload_n (q := 134) C dX10_mends_133 rfl rfl ?_
      refine V.iload (q := 136) C dX10_mends_134 rfl rfl ?_
      refine V.iconst (q := 137) (v := nI 2) C dX10_mends_136 rfl (by decide) ?_
      refine V.aload_n (q := 138) C dX10_mends_137 rfl rfl ?_
      refine V.get (q := 141) C fl_X10_46 dX10_mends_138 rfl okM rfl rfl ?_
      refine V.iload (q := 143) C dX10_mends_141 rfl rfl ?_
      refine V.ild (q := 144) (i := j) C dX10_mends_143 rfl okM_20 rfl rfl (by omega) (by decide) ?_
      refine V.topi (x1 := now (9 * j + 2)) (if_pos (by omega)) ?_
      refine V.callVi (q := 147) C me_X10_change (m_change (by omega)) ml_X10_93 dX10_mends_144 rfl okM ⟨_, rfl⟩ rfl rfl (Nat.le_of_ble_eq_true rfl) (by omega) (Nat.zero_le _) (Nat.zero_le _) ?_
      refine V.pop (q := 148) C dX10_mends_147 rfl rfl ?_
      refine V.iinc (q := 151) (v := nI (j + 1)) C dX10_mends_148 rfl rfl (nI_1 _) (by decide) rfl rfl ?_
      refine V.goto (tgt := 121) C dX10_mends_151 rfl ?_
      exact ih (j + 1) (by omega)
theorem m_mends_s {l : Launch} {g : GG} {X : PHp} {now : I1} {th : I1 × Int32} {tx : TXt}  {tr : I1 × Int32} {tp : TPt}  {Γ : Cxt} {Q : State → Prop} {q : SD} {n m k S : Nat} {h0 b : Int32} {u : Option Value} (hk : k ≤ 60) (hW : WI now n m) (hR : RuI tx.2.2.2.1 now) (hS : S < 2 ^ 31) (C : Cx Γ g cX10_mends yX10_mends 6 (some .int) 28 0 0) (kx : ∀ (q : SD) (u : Option Value), V l Γ g 6 Q 0 0 NN (jn X (hM g now q.2.1 th tx (zS q.1 q.2.2.1 q.2.2.2) tr tp)) 154 [some (rf g (22, 0, 0)), some (.int (nI k)), some (.int h0), some (.int (if alR (dsA tx.2.2.1 tx.2.2.2.1 m k (mcA now S n)) 4 n ≤ h0 then nI S else b)), some (.int (nI S)), u] []) : V l Γ g 6 Q 0 0 NN (jn X (hM g now q.2.1 th tx (zS q.1 q.2.2.1 q.2.2.2) tr tp)) 44 [some (rf g (22, 0, 0)), some (.int (nI k)), some (.int h0), some (.int b), some (.int (nI S)), u] [] := by
  have h6 := hW.2.1
  have hB : WI (mcA now S n) n m := WI_hi (fun k hk _ => mcA_hi hW.2.1 hk) hW
  have hR2 : RuI tx.2.2.2.1 (mcA now S n) := RuI_hi (mcA_hi hW.2.1 (by omega)) hR
  obtain ⟨h, eh⟩ : ∃ h, alR (dsA tx.2.2.1 tx.2.2.2.1 m k (mcA now S n)) 4 n = h := ⟨_, rfl⟩
  rw [eh] at kx
  refine V.iconst (q := 45) (v := nI 0) C dX10_mends_44 rfl (by decide) ?_
  refine V.istore (q := 47) C dX10_mends_45 rfl (by decide) rfl rfl ?_
  refine V.ph (PH1 := (jn X (hM g (mcA now S 0) q.2.1 th tx (zS q.1 (mix 0 (fun i => now (9 * i + 2)) q.2.2.1) q.2.2.2) tr tp))) (by rw [mix_0]; rfl) ?_
  refine m_mends_a hW.1 h6 hS C ?_ n 0 (by omega)
  refine V.aload_n (q := 103) C dX10_mends_102 rfl rfl ?_
  refine V.iload_n (q := 104) C dX10_mends_103 rfl rfl ?_
  refine V.callVxi (q := 107) C me_X10_hurtBehind (m_hurtBehind (by omega) hB hR2) ml_X10_211 dX10_mends_104 rfl okM ⟨_, rfl⟩ rfl rfl (Nat.le_of_ble_eq_true rfl) (by omega) (Nat.zero_le _) (Nat.zero_le _) (fun q1 _ => ?_)
  refine V.topi (x1 := h) eh ?_
  refine V.iload_n (q := 108) C dX10_mends_107 rfl rfl ?_
  refine V.icmp_gt (q := 111) (tgt := 116) C dX10_mends_108 rfl rfl (fun hb108 => ?_) (fun hb108 => ?_)
  · refine V.iload_n (q := 117) C dX10_mends_116 rfl rfl ?_
    refine V.istore_n (q := 118) C dX10_mends_117 rfl (by decide) rfl rfl ?_
    refine V.iconst (q := 119) (v := nI 0) C dX10_mends_118 rfl (by decide) ?_
    refine V.istore (q := 121) C dX10_mends_119 rfl (by decide) rfl rfl ?_
    replace hb108 : ¬ h ≤ h0 := by rw [Int32.le_iff_toInt_le]; rw [Int32.lt_iff_toInt_lt] at hb108; omega
    rw [if_neg hb108] at kx
    refine m_mends_b (q := (q1, (mcA now S n), q.2.2.1, q.2.2.2)) (b := b) hW.1 h6 C ?_ n 0 (by omega)
    refine V.ph (by rw [rsA_b]) ?_
    exact kx (q1, (mcA now S n), mix n (fun i => now (9 * i + 2)) q.2.2.1, q.2.2.2) _
  · refine V.iload (q := 113) C dX10_mends_111 rfl rfl ?_
    refine V.goto (tgt := 117) C dX10_mends_113 rfl ?_
    refine V.istore_n (q := 118) C dX10_mends_117 rfl (by decide) rfl rfl ?_
    refine V.iconst (q := 119) (v := nI 0) C dX10_mends_118 rfl (by decide) ?_
    refine V.istore (q := 121) C dX10_mends_119 rfl (by decide) rfl rfl ?_
    replace hb108 : h ≤ h0 := by rw [Int32.le_iff_toInt_le]; rw [Int32.lt_iff_toInt_lt] at hb108; omega
    rw [if_pos hb108] at kx
    refine m_mends_b (q := (q1, (mcA now S n), q.2.2.1, q.2.2.2)) (b := nI S) hW.1 h6 C ?_ n 0 (by omega)
    refine V.ph (by rw [rsA_b]) ?_
    exact kx (q1, (mcA now S n), mix n (fun i => now (9 * i + 2)) q.2.2.1, q.2.2.2) _
theorem m_mends_l {l : Launch} {g : GG} {X : PHp} {now : I1} {th : I1 × Int32} {tx : TXt}  {tr : I1 × Int32} {tp : TPt}  {Γ : Cxt} {Q : State → Prop} {n m k : Nat} (hk : k ≤ 60) (hW : WI now n m) (hR : RuI tx.2.2.2.1 now) (C : Cx Γ g cX10_mends yX10_mends 6 (some .int) 28 0 0) (kx : ∀ (q : SD) (u : Option Value), V l Γ g 6 Q 0 0 NN (jn X (hM g now q.2.1 th tx (zS q.1 q.2.2.1 q.2.2.2) tr tp)) 160 [some (rf g (22, 0, 0)), some (.int (nI k)), some (.int (alR now 4 n)), some (.int (mdF tx.2.2.1 tx.2.2.2.1 now n m k (2 ^ n))), some (.int (nI (2 ^ n))), u] []) : ∀ (f S : Nat) (q : SD) (u : Option Value), S + f = 2 ^ n → V l Γ g 6 Q 0 0 NN (jn X (hM g now q.2.1 th tx (zS q.1 q.2.2.1 q.2.2.2) tr tp)) 12 [some (rf g (22, 0, 0)), some (.int (nI k)), some (.int (alR now 4 n)), some (.int (mdF tx.2.2.1 tx.2.2.2.1 now n m k S)), some (.int (nI S)), u] [] := by
  have h6 := hW.2.1
  have h64 : 2 ^ n ≤ 64 := (Nat.pow_le_pow_right (by omega) h6)
  intro f
  induction f with
  | zero =>
    intro S q u hj
    obtain rfl : S = 2 ^ n := by omega
    refine V.iload (q := 14) C dX10_mends_12 rfl rfl ?_
    refine V.iconst (q := 15) (v := nI 1) C dX10_mends_14 rfl (by decide) ?_
    refine V.aload_n (q := 16) C dX10_mends_15 rfl rfl ?_
    refine V.get (q := 19) C fl_X10_9 dX10_mends_16 rfl okM rfl rfl ?_
    refine V.bipush (q := 21) (v := nI 78) C dX10_mends_19 rfl (by decide) ?_
    refine V.ild (q := 22) (i := 78) C dX10_mends_21 rfl okM_0 rfl rfl (by omega) (by decide) ?_
    refine V.topi (x1 := nI (n)) hW.1 ?_
    refine V.ishl (q := 23) C dX10_mends_22 rfl ?_
    refine V.topi (x1 := nI (2 ^ n)) (shl_n n (by omega)) ?_
    refine V.icmp_ge (q := 26) (tgt := 160) C dX10_mends_23 rfl rfl (fun hb23 => ?_) (fun hb23 => ?_)
    · exact kx q u
    · exact absurd ((nI_leI (by omega) (by omega)).mpr (by omega)) hb23
  | succ f ih =>
    intro S q u hj
    refine V.iload (q := 14) C dX10_mends_12 rfl rfl ?_
    refine V.iconst (q := 15) (v := nI 1) C dX10_mends_14 rfl (by decide) ?_
    refine V.aload_n (q := 16) C dX10_mends_15 rfl rfl ?_
    refine V.get (q := 19) C fl_X10_9 dX10_mends_16 rfl okM rfl rfl ?_
    refine V.bipush (q := 21) (v := nI 78) C dX10_mends_19 rfl (by decide) ?_
    refine V.ild (q := 22) (i := 78) C dX10_mends_21 rfl okM_0 rfl rfl (by omega) (by decide) ?_
    refine V.topi (x1 := nI (n)) hW.1 ?_
    refine V.ishl (q := 23) C dX10_mends_22 rfl ?_
    refine V.topi (x1 := nI (2 ^ n)) (shl_n n (by omega)) ?_
    refine V.icmp_ge (q := 26) (tgt := 160) C dX10_mends_23 rfl rfl (fun hb23 => ?_) (fun hb23 => ?_)
    · exact absurd ((nI_leI (by omega) (by omega)).mp hb23) (by omega)
    · refine V.iload_n (q := 27) C dX10_mends_26 rfl rfl ?_
      refine V.bipush (q := 29) (v := -5) C dX10_mends_27 rfl (by decide) ?_
      refine V.icmp_eq (q := 32) (tgt := 44) C dX10_mends_29 rfl rfl (fun hb29 => ?_) (fun hb29 => ?_)
      · have e9 : (mdF tx.2.2.1 tx.2.2.2.1 now n m k (S + 1)) = (if alR (dsA tx.2.2.1 tx.2.2.2.1 m k (mcA now S n)) 4 n ≤ alR now 4 n then nI S else (mdF tx.2.2.1 tx.2.2.2.1 now n m k S)) := by
          show mdS tx.2.2.1 tx.2.2.2.1 now n m k S (mdF tx.2.2.1 tx.2.2.2.1 now n m k S) = _
          exact if_pos (Or.inl hb29)
        have ih := fun q u => ih (S + 1) q u (by omega)
        rw [e9] at ih
        refine m_mends_s hk hW hR (by omega) C ?_
        intro q9 u9
        refine V.iinc (q := 157) (v := nI (S + 1)) C dX10_mends_154 rfl rfl (nI_1 _) (by decide) rfl rfl ?_
        refine V.goto (tgt := 12) C dX10_mends_157 rfl ?_
        exact ih q9 u9
      · refine V.iload (q := 34) C dX10_mends_32 rfl rfl ?_
        refine V.callSi (q := 37) C me_X10_many m_many ml_X10_208 dX10_mends_34 rfl rfl rfl (Nat.le_of_ble_eq_true rfl) (by omega) (Nat.zero_le _) (Nat.zero_le _) ?_
        refine V.iload_n (q := 38) C dX10_mends_37 rfl rfl ?_
        refine V.callSi (q := 41) C me_X10_many m_many ml_X10_208 dX10_mends_38 rfl rfl rfl (Nat.le_of_ble_eq_true rfl) (by omega) (Nat.zero_le _) (Nat.zero_le _) ?_
        refine V.icmp_ge (q := 44) (tgt := 154) C dX10_mends_41 rfl rfl (fun hb41 => ?_) (fun hb41 => ?_)
        · refine V.iinc (q := 157) (v := nI (S + 1)) C dX10_mends_154 rfl rfl (nI_1 _) (by decide) rfl rfl ?_
          refine V.goto (tgt := 12) C dX10_mends_157 rfl ?_
          have e9 : (mdF tx.2.2.1 tx.2.2.2.1 now n m k (S + 1)) = (mdF tx.2.2.1 tx.2.2.2.1 now n m k S) := by
            show mdS tx.2.2.1 tx.2.2.2.1 now n m k S (mdF tx.2.2.1 tx.2.2.2.1 now n m k S) = _
            exact if_neg (fun z => z.elim hb29 (fun z => by rw [Int32.lt_iff_toInt_lt] at z; rw [Int32.le_iff_toInt_le] at hb41; omega))
          have h9 := ih (S + 1) q u (by omega)
          rw [e9] at h9
          exact h9
        · have e9 : (mdF tx.2.2.1 tx.2.2.2.1 now n m k (S + 1)) = (if alR (dsA tx.2.2.1 tx.2.2.2.1 m k (mcA now S n)) 4 n ≤ alR now 4 n then nI S else (mdF tx.2.2.1 tx.2.2.2.1 now n m k S)) := by
            show mdS tx.2.2.1 tx.2.2.2.1 now n m k S (mdF tx.2.2.1 tx.2.2.2.1 now n m k S) = _
            exact if_pos (Or.inr (by rw [Int32.lt_iff_toInt_lt]; rw [Int32.le_iff_toInt_le] at hb41; omega))
          have ih := fun q u => ih (S + 1) q u (by omega)
          rw [e9] at ih
          refine m_mends_s hk hW hR (by omega) C ?_
          intro q9 u9
          refine V.iinc (q := 157) (v := nI (S + 1)) C dX10_mends_154 rfl rfl (nI_1 _) (by decide) rfl rfl ?_
          refine V.goto (tgt := 12) C dX10_mends_157 rfl ?_
          exact ih q9 u9
theorem m_mends {l : Launch} {g : GG} {X : PHp} {now : I1} {th : I1 × Int32} {tx : TXt}  {tr : I1 × Int32} {tp : TPt} {q : SD} {n m k : Nat} (hk : k ≤ 60) (hW : WI now n m) (hR : RuI tx.2.2.2.1 now) : Ct l g yX10_mends cX10_mends 6 (some .int) 28 0 0 [rf g (22, 0, 0), .int (nI k)] NN (jn X (hM g now q.2.1 th tx (zS q.1 q.2.2.1 q.2.2.2) tr tp)) (xI (fun _ : SD => True) (fun _ => (mdF tx.2.2.1 tx.2.2.2.1 now n m k (2 ^ n))) (fun q1 => (jn X (hM g now q1.2.1 th tx (zS q1.1 q1.2.2.1 q1.2.2.2) tr tp)))) := by
  refine Ct.of (lv := [some (rf g (22, 0, 0)), some (.int (nI k)), none, none, none, none]) (by decide +kernel) rfl (Nat.le_of_ble_eq_true rfl) ?_
  intro Γ C
  have h6 := hW.2.1
  refine V.aload_n (q := 1) C dX10_mends_0 rfl rfl ?_
  refine V.iconst (q := 2) (v := nI 4) C dX10_mends_1 rfl (by decide) ?_
  refine V.callVi (q := 5) C me_X10_all (m_all hW.1 hW.2.1 (by omega)) ml_X10_202 dX10_mends_2 rfl okM ⟨_, rfl⟩ rfl rfl (Nat.le_of_ble_eq_true rfl) (by omega) (Nat.zero_le _) (Nat.zero_le _) ?_
  refine V.istore_n (q := 6) C dX10_mends_5 rfl (by decide) rfl rfl ?_
  refine V.bipush (q := 8) (v := -5) C dX10_mends_6 rfl (by decide) ?_
  refine V.istore_n (q := 9) C dX10_mends_8 rfl (by decide) rfl rfl ?_
  refine V.iconst (q := 10) (v := nI 0) C dX10_mends_9 rfl (by decide) ?_
  refine V.istore (q := 12) C dX10_mends_10 rfl (by decide) rfl rfl ?_
  refine m_mends_l hk hW hR C ?_ (2 ^ n) 0 q _ (by omega)
  intro q2 u2
  refine V.iload_n (q := 161) C dX10_mends_160 rfl rfl ?_
  exact V.ireturn C dX10_mends_161 ⟨q2, trivial, rfl, rfl, rfl⟩
def bestR (rules sizes A : I1) (n m : Nat) (k x : Int32) : Int32 := if inR x (nI 0) (nI 1) then (if x = 0 then (if inR k (nI 1) (nI 12) then mdF rules sizes A n m (ix k) (2 ^ n) else -2) else if inR k (nI 1) (nI 20) then (chO rules sizes A n m (ix k) n).2 else -2) else if inN (x - nI 10) m then (if inR k (nI 1) (nI 20) then (amF rules sizes A n m (ix (x - nI 10)) (ix k) n).2 else -2) else -1
theorem m_best {l : Launch} {g : GG} {X : PHp} {now : I1} {th : I1 × Int32} {tx : TXt}  {tr : I1 × Int32} {tp : TPt} {q : SD} {n m : Nat} {k x : Int32} (hW : WI now n m) (hR : RuI tx.2.2.2.1 now) : Ct l g yX10_best cX10_best 3 (some .int) 29 0 0 [rf g (22, 0, 0), .int k, .int x] NN (jn X (hM g now q.2.1 th tx (zS q.1 q.2.2.1 q.2.2.2) tr tp)) (xI (fun _ : SD => True) (fun _ => (bestR tx.2.2.1 tx.2.2.2.1 now n m k x)) (fun q1 => (jn X (hM g now q1.2.1 th tx (zS q1.1 q1.2.2.1 q1.2.2.2) tr tp)))) := by
  refine Ct.of (lv := [some (rf g (22, 0, 0)), some (.int k), some (.int x)]) (by decide +kernel) rfl (Nat.le_of_ble_eq_true rfl) ?_
  intro Γ C
  have h6 := hW.2.1
  have h8 := hW.2.2.2.1
  refine V.iload_n (q := 1) C dX10_best_0 rfl rfl ?_
  refine V.iconst (q := 2) (v := nI 0) C dX10_best_1 rfl (by decide) ?_
  refine V.iconst (q := 3) (v := nI 1) C dX10_best_2 rfl (by decide) ?_
  refine V.callSi (q := 6) C me_X10_isIn m_isIn ml_X10_82 dX10_best_3 rfl rfl rfl (Nat.le_of_ble_eq_true rfl) (by omega) (Nat.zero_le _) (Nat.zero_le _) ?_
  refine V.if_neB (q := 9) (tgt := 22) C dX10_best_6 rfl rfl (fun hb6 => ?_) (fun hb6 => ?_)
  · obtain ⟨z, hz0, hz, rfl⟩ := InR_nat (a := 0) (b := 1) (by omega) (by omega) hb6
    have ez := ix_nI (i := z) (by omega)
    refine V.iload_n (q := 23) C dX10_best_22 rfl rfl ?_
    refine V.iconst (q := 24) (v := nI 1) C dX10_best_23 rfl (by decide) ?_
    refine V.iload_n (q := 25) C dX10_best_24 rfl rfl ?_
    refine V.if_ne (q := 28) (tgt := 33) C dX10_best_25 rfl rfl (fun hb25 => ?_) (fun hb25 => ?_)
    · refine V.bipush (q := 35) (v := nI 20) C dX10_best_33 rfl (by decide) ?_
      refine V.callSi (q := 38) C me_X10_isIn m_isIn ml_X10_82 dX10_best_35 rfl rfl rfl (Nat.le_of_ble_eq_true rfl) (by omega) (Nat.zero_le _) (Nat.zero_le _) ?_
      refine V.if_neB (q := 41) (tgt := 44) C dX10_best_38 rfl rfl (fun hb38 => ?_) (fun hb38 => ?_)
      · obtain ⟨k, hk0, hk, rfl⟩ := InR_nat (a := 1) (b := 20) (by omega) (by omega) hb38
        have ek := ix_nI (i := k) (by omega)
        refine V.iload_n (q := 45) C dX10_best_44 rfl rfl ?_
        refine V.if_ne (q := 48) (tgt := 56) C dX10_best_45 rfl rfl (fun hb45 => ?_) (fun hb45 => ?_)
        · refine V.iload_n (q := 57) C dX10_best_56 rfl rfl ?_
          refine V.iconst (q := 58) (v := nI 1) C dX10_best_57 rfl (by decide) ?_
          refine V.icmp_ne (q := 61) (tgt := 69) C dX10_best_58 rfl rfl (fun hb58 => ?_) (fun hb58 => ?_)
          · exact absurd (show nI z = nI 1 by rw [show z = 1 by have : z ≠ 0 := (fun e => hb25 (by rw [e]; rfl)); omega]) hb58
          · refine V.aload_n (q := 62) C dX10_best_61 rfl rfl ?_
            refine V.iload_n (q := 63) C dX10_best_62 rfl rfl ?_
            refine V.callVxi (q := 66) C me_X10_changes (m_changes (by omega) hW hR) ml_X10_223 dX10_best_63 rfl okM ⟨_, rfl⟩ rfl rfl (Nat.le_of_ble_eq_true rfl) (by omega) (Nat.zero_le _) (Nat.zero_le _) (fun q1 _ => ?_)
            refine V.goto (tgt := 78) C dX10_best_66 rfl ?_
            exact V.ireturn C dX10_best_78 ⟨q1, trivial, by rw [bestR, if_pos hb6, if_neg hb25, if_pos hb38, ek], rfl, rfl⟩
        · exact absurd hb45 hb25
      · refine V.bipush (q := 43) (v := -2) C dX10_best_41 rfl (by decide) ?_
        exact V.ireturn C dX10_best_43 ⟨q, trivial, by rw [bestR, if_pos hb6, if_neg hb25, if_neg hb38], rfl, rfl⟩
    · refine V.bipush (q := 30) (v := nI 12) C dX10_best_28 rfl (by decide) ?_
      refine V.goto (tgt := 35) C dX10_best_30 rfl ?_
      refine V.callSi (q := 38) C me_X10_isIn m_isIn ml_X10_82 dX10_best_35 rfl rfl rfl (Nat.le_of_ble_eq_true rfl) (by omega) (Nat.zero_le _) (Nat.zero_le _) ?_
      refine V.if_neB (q := 41) (tgt := 44) C dX10_best_38 rfl rfl (fun hb38 => ?_) (fun hb38 => ?_)
      · obtain ⟨k, hk0, hk, rfl⟩ := InR_nat (a := 1) (b := 12) (by omega) (by omega) hb38
        have ek := ix_nI (i := k) (by omega)
        refine V.iload_n (q := 45) C dX10_best_44 rfl rfl ?_
        refine V.if_ne (q := 48) (tgt := 56) C dX10_best_45 rfl rfl (fun hb45 => ?_) (fun hb45 => ?_)
        · exact absurd hb25 hb45
        · refine V.aload_n (q := 49) C dX10_best_48 rfl rfl ?_
          refine V.iload_n (q := 50) C dX10_best_49 rfl rfl ?_
          refine V.callVxi (q := 53) C me_X10_mends (m_mends (by omega) hW hR) ml_X10_220 dX10_best_50 rfl okM ⟨_, rfl⟩ rfl rfl (Nat.le_of_ble_eq_true rfl) (by omega) (Nat.zero_le _) (Nat.zero_le _) (fun q1 _ => ?_)
          refine V.goto (tgt := 78) C dX10_best_53 rfl ?_
          exact V.ireturn C dX10_best_78 ⟨q1, trivial, by rw [bestR, if_pos hb6, if_pos hb25, if_pos hb38, ek], rfl, rfl⟩
      · refine V.bipush (q := 43) (v := -2) C dX10_best_41 rfl (by decide) ?_
        exact V.ireturn C dX10_best_43 ⟨q, trivial, by rw [bestR, if_pos hb6, if_pos hb25, if_neg hb38], rfl, rfl⟩
  · refine V.aload_n (q := 10) C dX10_best_9 rfl rfl ?_
    refine V.iload_n (q := 11) C dX10_best_10 rfl rfl ?_
    refine V.bipush (q := 13) (v := nI 10) C dX10_best_11 rfl (by decide) ?_
    refine V.isub (q := 14) C dX10_best_13 rfl ?_
    refine V.callVi (q := 17) C me_X10_isSaying (m_isSaying hW.2.2.1 (by omega)) ml_X10_108 dX10_best_14 rfl okM ⟨_, rfl⟩ rfl rfl (Nat.le_of_ble_eq_true rfl) (by omega) (Nat.zero_le _) (Nat.zero_le _) ?_
    refine V.if_neB (q := 20) (tgt := 22) C dX10_best_17 rfl rfl (fun hb17 => ?_) (fun hb17 => ?_)
    · obtain ⟨j, hj, ej⟩ := InN_nat (by omega) hb17
      obtain rfl := sub_nI ej
      have ij := ix_nI (i := j) (by omega)
      refine V.iload_n (q := 23) C dX10_best_22 rfl rfl ?_
      refine V.iconst (q := 24) (v := nI 1) C dX10_best_23 rfl (by decide) ?_
      refine V.iload_n (q := 25) C dX10_best_24 rfl rfl ?_
      refine V.if_ne (q := 28) (tgt := 33) C dX10_best_25 rfl rfl (fun hb25 => ?_) (fun hb25 => ?_)
      · refine V.bipush (q := 35) (v := nI 20) C dX10_best_33 rfl (by decide) ?_
        refine V.callSi (q := 38) C me_X10_isIn m_isIn ml_X10_82 dX10_best_35 rfl rfl rfl (Nat.le_of_ble_eq_true rfl) (by omega) (Nat.zero_le _) (Nat.zero_le _) ?_
        refine V.if_neB (q := 41) (tgt := 44) C dX10_best_38 rfl rfl (fun hb38 => ?_) (fun hb38 => ?_)
        · obtain ⟨k, hk0, hk, rfl⟩ := InR_nat (a := 1) (b := 20) (by omega) (by omega) hb38
          have ek := ix_nI (i := k) (by omega)
          refine V.iload_n (q := 45) C dX10_best_44 rfl rfl ?_
          refine V.if_ne (q := 48) (tgt := 56) C dX10_best_45 rfl rfl (fun hb45 => ?_) (fun hb45 => ?_)
          · refine V.iload_n (q := 57) C dX10_best_56 rfl rfl ?_
            refine V.iconst (q := 58) (v := nI 1) C dX10_best_57 rfl (by decide) ?_
            refine V.icmp_ne (q := 61) (tgt := 69) C dX10_best_58 rfl rfl (fun hb58 => ?_) (fun hb58 => ?_)
            · refine V.aload_n (q := 70) C dX10_best_69 rfl rfl ?_
              refine V.iload_n (q := 71) C dX10_best_70 rfl rfl ?_
              refine V.bipush (q := 73) (v := nI 10) C dX10_best_71 rfl (by decide) ?_
              refine V.isub (q := 74) C dX10_best_73 rfl ?_
              refine V.topi (x1 := nI (j)) ej ?_
              refine V.iload_n (q := 75) C dX10_best_74 rfl rfl ?_
              refine V.callVxi (q := 78) C me_X10_aimOf (m_aimOf (by omega) (by omega) hW hR) ml_X10_226 dX10_best_75 rfl okM ⟨_, rfl⟩ rfl rfl (Nat.le_of_ble_eq_true rfl) (by omega) (Nat.zero_le _) (Nat.zero_le _) (fun q1 _ => ?_)
              exact V.ireturn C dX10_best_78 ⟨q1, trivial, by rw [bestR, if_neg hb6, if_pos hb17, if_pos hb38, ek, ej, ij], rfl, rfl⟩
            · exact absurd ((nI_eq (by omega) (by omega)).mp hb58) (by omega)
          · exact absurd ((nI_eq (b := 0) (by omega) (by omega)).mp hb45) (by omega)
        · refine V.bipush (q := 43) (v := -2) C dX10_best_41 rfl (by decide) ?_
          exact V.ireturn C dX10_best_43 ⟨q, trivial, by rw [bestR, if_neg hb6, if_pos hb17, if_neg hb38], rfl, rfl⟩
      · exact absurd ((nI_eq (b := 0) (by omega) (by omega)).mp hb25) (by omega)
    · refine V.iconst (q := 21) (v := -1) C dX10_best_20 rfl (by decide) ?_
      exact V.ireturn C dX10_best_21 ⟨q, trivial, by rw [bestR, if_neg hb6, if_neg hb17], rfl, rfl⟩
