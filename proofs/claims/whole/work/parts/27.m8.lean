/-- in lowest terms, G being the greatest that divides both -/
def frR (A B G : Nat) (pt : Int32) : Int64 := if pt = 0 then lN A / lN G else lN B / lN G
theorem m_fraction_l {l : Launch} {g : GG} {P : PHp} {Γ : Cxt} {A B G : Nat} {pt : Int32} (hG : 0 < G) (C : Cx Γ g cX10_fraction yX10_fraction 11 (some .long) 1 0 0) : ∀ (N b a : Nat) (u : Option Value), b < N → b < 2 ^ 62 → a < 2 ^ 62 → Nat.gcd a b = G → V l Γ g 11 (QM Γ g (pL (frR A B G pt) P) 0 0) 0 0 NN P 6 [some (.long (lN A)), none, some (.long (lN B)), none, some (.int pt), some (.long (lN a)), none, some (.long (lN b)), none, u, none] [] := by
  intro N
  induction N with
  | zero => intro b a u h; exact absurd h (by omega)
  | succ N ih =>
    intro b a u hb hb2 ha2 hg
    refine V.lload (q := 8) C dX10_fraction_6 rfl rfl ?_
    refine V.lconst (q := 9) (v := 0) C dX10_fraction_8 rfl (by decide) ?_
    refine V.lcmp (q := 10) C dX10_fraction_9 rfl ?_
    refine V.if_eq (q := 13) (tgt := 31) C dX10_fraction_10 rfl rfl (fun hb10 => ?_) (fun hb10 => ?_)
    · have h0 : b = 0 := (pk_lEQ (b := 0) (by omega) (by omega)).mp ((lg_cmp_eq _ _).mp hb10)
      subst h0
      have h1 : a = G := by rw [← hg, Nat.gcd_zero_right]
      refine V.iload (q := 33) C dX10_fraction_31 rfl rfl ?_
      refine V.if_ne (q := 36) (tgt := 43) C dX10_fraction_33 rfl rfl (fun hb33 => ?_) (fun hb33 => ?_)
      · refine V.lload_n (q := 44) C dX10_fraction_43 rfl rfl ?_
        refine V.lload (q := 46) C dX10_fraction_44 rfl rfl ?_
        refine V.ldiv (q := 47) C dX10_fraction_46 rfl (fun z => absurd ((pk_lEQ (b := 0) (by omega) (by omega)).mp z) (by omega)) ?_
        exact V.lreturn C dX10_fraction_47 ⟨by rw [frR, if_neg hb33, h1], rfl, rfl⟩
      · refine V.lload_n (q := 37) C dX10_fraction_36 rfl rfl ?_
        refine V.lload (q := 39) C dX10_fraction_37 rfl rfl ?_
        refine V.ldiv (q := 40) C dX10_fraction_39 rfl (fun z => absurd ((pk_lEQ (b := 0) (by omega) (by omega)).mp z) (by omega)) ?_
        refine V.goto (tgt := 47) C dX10_fraction_40 rfl ?_
        exact V.lreturn C dX10_fraction_47 ⟨by rw [frR, if_pos hb33, h1], rfl, rfl⟩
    · have hb0 : 0 < b := Nat.pos_of_ne_zero (fun z => hb10 ((lg_cmp_eq _ _).mpr (by rw [z]; rfl)))
      refine V.lload (q := 15) C dX10_fraction_13 rfl rfl ?_
      refine V.lload (q := 17) C dX10_fraction_15 rfl rfl ?_
      refine V.lrem (q := 18) C dX10_fraction_17 rfl (fun z => hb10 ((lg_cmp_eq _ _).mpr z)) ?_
      refine V.stk (st1 := [.long (lN (a % b))]) (by rw [pk_lRem (by omega) hb0 (by omega)]) ?_
      refine V.lstore (q := 20) C dX10_fraction_18 rfl (by decide) rfl rfl ?_
      refine V.lload (q := 22) C dX10_fraction_20 rfl rfl ?_
      refine V.lstore (q := 24) C dX10_fraction_22 rfl (by decide) rfl rfl ?_
      refine V.lload (q := 26) C dX10_fraction_24 rfl rfl ?_
      refine V.lstore (q := 28) C dX10_fraction_26 rfl (by decide) rfl rfl ?_
      refine V.goto (tgt := 6) C dX10_fraction_28 rfl ?_
      exact ih (a % b) b _ (by have := Nat.mod_lt a hb0; omega) (by have := Nat.mod_lt a hb0; omega) hb2 (by rw [Nat.gcd_comm, ← Nat.gcd_rec, Nat.gcd_comm]; exact hg)
theorem m_fraction {l : Launch} {g : GG} {P : PHp} {A B : Nat} {pt : Int32} (hA : A < 2 ^ 31) (hB : B < 2 ^ 31) (h0 : 0 < B) : Ct l g yX10_fraction cX10_fraction 11 (some .long) 1 0 0 [.long (lN A), .long (lN B), .int pt] NN P (pL (frR A B (Nat.gcd A B) pt) P) := by
  refine Ct.of (lv := [some (.long (lN A)), none, some (.long (lN B)), none, some (.int pt), none, none, none, none, none, none]) (by decide +kernel) rfl (Nat.le_of_ble_eq_true rfl) ?_
  intro Γ C
  refine V.lload_n (q := 1) C dX10_fraction_0 rfl rfl ?_
  refine V.lstore (q := 3) C dX10_fraction_1 rfl (by decide) rfl rfl ?_
  refine V.lload_n (q := 4) C dX10_fraction_3 rfl rfl ?_
  refine V.lstore (q := 6) C dX10_fraction_4 rfl (by decide) rfl rfl ?_
  exact m_fraction_l (Nat.gcd_pos_of_pos_right _ h0) C (B + 1) B A _ (by omega) (by omega) (by omega) rfl
def meanR (rules sizes A : I1) (n m : Nat) (k pt : Int32) : Int64 := if inR k (nI 0) (nI 60) then (if inR pt (nI 0) (nI 1) then (if n = 0 then -9223372036854775808 else frR (ix (alR (dsA rules sizes m (ix k) A) 2 n)) n (Nat.gcd (ix (alR (dsA rules sizes m (ix k) A) 2 n)) n) pt) else -9223372036854775808) else -9223372036854775808
theorem m_mean {l : Launch} {g : GG} {X : PHp} {now : I1} {th : I1 × Int32} {tx : TXt}  {tr : I1 × Int32} {tp : TPt} {q : SD} {n m : Nat} {k pt : Int32} (hW : WI now n m) (hR : RuI tx.2.2.2.1 now) (hS : ∀ k, k ≤ 60 → ∃ S, S < 2 ^ 31 ∧ alR (dsA tx.2.2.1 tx.2.2.2.1 m k now) 2 n = nI S) : Ct l g yX10_mean cX10_mean 4 (some .long) 27 0 0 [rf g (22, 0, 0), .int k, .int pt] NN (jn X (hM g now q.2.1 th tx (zS q.1 q.2.2.1 q.2.2.2) tr tp)) (xL (fun _ : SD => True) (fun _ => (meanR tx.2.2.1 tx.2.2.2.1 now n m k pt)) (fun q1 => (jn X (hM g now q1.2.1 th tx (zS q1.1 q1.2.2.1 q1.2.2.2) tr tp)))) := by
  refine Ct.of (lv := [some (rf g (22, 0, 0)), some (.int k), some (.int pt), none]) (by decide +kernel) rfl (Nat.le_of_ble_eq_true rfl) ?_
  intro Γ C
  refine V.iload_n (q := 1) C dX10_mean_0 rfl rfl ?_
  refine V.iconst (q := 2) (v := nI 0) C dX10_mean_1 rfl (by decide) ?_
  refine V.bipush (q := 4) (v := nI 60) C dX10_mean_2 rfl (by decide) ?_
  refine V.callSi (q := 7) C me_X10_isIn m_isIn ml_X10_82 dX10_mean_4 rfl rfl rfl (Nat.le_of_ble_eq_true rfl) (by omega) (Nat.zero_le _) (Nat.zero_le _) ?_
  refine V.if_eqB (q := 10) (tgt := 29) C dX10_mean_7 rfl rfl (fun hb7 => ?_) (fun hb7 => ?_)
  · refine V.ldc2 (q := 32) (v := -9223372036854775808) C (tb_at 1090 (by decide +kernel) rfl) dX10_mean_29 rfl ?_
    exact V.lreturn C dX10_mean_32 ⟨q, trivial, by simp only [meanR, hb7, Bool.false_eq_true, ↓reduceIte], rfl, rfl⟩
  · obtain ⟨k, hk0, hk, rfl⟩ := InR_nat (a := 0) (b := 60) (by omega) (by omega) hb7
    have ek := ix_nI (i := k) (by omega)
    refine V.iload_n (q := 11) C dX10_mean_10 rfl rfl ?_
    refine V.iconst (q := 12) (v := nI 0) C dX10_mean_11 rfl (by decide) ?_
    refine V.iconst (q := 13) (v := nI 1) C dX10_mean_12 rfl (by decide) ?_
    refine V.callSi (q := 16) C me_X10_isIn m_isIn ml_X10_82 dX10_mean_13 rfl rfl rfl (Nat.le_of_ble_eq_true rfl) (by omega) (Nat.zero_le _) (Nat.zero_le _) ?_
    refine V.if_eqB (q := 19) (tgt := 29) C dX10_mean_16 rfl rfl (fun hb16 => ?_) (fun hb16 => ?_)
    · refine V.ldc2 (q := 32) (v := -9223372036854775808) C (tb_at 1090 (by decide +kernel) rfl) dX10_mean_29 rfl ?_
      exact V.lreturn C dX10_mean_32 ⟨q, trivial, by simp only [meanR, hb7, ek, hb16, Bool.false_eq_true, ↓reduceIte], rfl, rfl⟩
    · refine V.aload_n (q := 20) C dX10_mean_19 rfl rfl ?_
      refine V.get (q := 23) C fl_X10_9 dX10_mean_20 rfl okM rfl rfl ?_
      refine V.bipush (q := 25) (v := nI 78) C dX10_mean_23 rfl (by decide) ?_
      refine V.ild (q := 26) (i := 78) C dX10_mean_25 rfl okM_0 rfl rfl (by omega) (by decide) ?_
      refine V.topi (x1 := nI (n)) hW.1 ?_
      refine V.if_ne (q := 29) (tgt := 33) C dX10_mean_26 rfl rfl (fun hb26 => ?_) (fun hb26 => ?_)
      · replace hb26 : ¬ n = 0 := fun z => hb26 (by rw [z]; rfl)
        have h66 := hW.2.1
        obtain ⟨S, hS1, eS⟩ := hS k (by omega)
        have iS := ix_nI hS1
        refine V.aload_n (q := 34) C dX10_mean_33 rfl rfl ?_
        refine V.get (q := 37) C fl_X10_9 dX10_mean_34 rfl okM rfl rfl ?_
        refine V.aload_n (q := 38) C dX10_mean_37 rfl rfl ?_
        refine V.get (q := 41) C fl_X10_15 dX10_mean_38 rfl okM rfl rfl ?_
        refine V.callSv (q := 44) C me_X10_move m_move_mind ml_X10_78 dX10_mean_41 rfl rfl rfl (Nat.le_of_ble_eq_true rfl) (by omega) (Nat.zero_le _) (Nat.zero_le _) ?_
        refine V.aload_n (q := 45) C dX10_mean_44 rfl rfl ?_
        refine V.iload_n (q := 46) C dX10_mean_45 rfl rfl ?_
        refine V.callVxv (q := 49) C me_X10_days (m_days (by omega) hW hR) ml_X10_205 dX10_mean_46 rfl okM ⟨_, rfl⟩ rfl rfl (Nat.le_of_ble_eq_true rfl) (by omega) (Nat.zero_le _) (Nat.zero_le _) (fun q1 _ => ?_)
        refine V.aload_n (q := 50) C dX10_mean_49 rfl rfl ?_
        refine V.iconst (q := 51) (v := nI 2) C dX10_mean_50 rfl (by decide) ?_
        refine V.callVi (q := 54) C me_X10_all (m_all (dsA_W hW).1 hW.2.1 (by omega)) ml_X10_202 dX10_mean_51 rfl okM ⟨_, rfl⟩ rfl rfl (Nat.le_of_ble_eq_true rfl) (by omega) (Nat.zero_le _) (Nat.zero_le _) ?_
        refine V.topi (x1 := nI (S)) eS ?_
        refine V.istore_n (q := 55) C dX10_mean_54 rfl (by decide) rfl rfl ?_
        refine V.aload_n (q := 56) C dX10_mean_55 rfl rfl ?_
        refine V.get (q := 59) C fl_X10_15 dX10_mean_56 rfl okM rfl rfl ?_
        refine V.aload_n (q := 60) C dX10_mean_59 rfl rfl ?_
        refine V.get (q := 63) C fl_X10_9 dX10_mean_60 rfl okM rfl rfl ?_
        refine V.callSv (q := 66) C me_X10_move m_move_back ml_X10_78 dX10_mean_63 rfl rfl rfl (Nat.le_of_ble_eq_true rfl) (by omega) (Nat.zero_le _) (Nat.zero_le _) ?_
        refine V.iload_n (q := 67) C dX10_mean_66 rfl rfl ?_
        refine V.i2l (q := 68) C dX10_mean_67 rfl rfl ?_
        refine V.stk (st1 := [.long (lN S)]) (by rw [nI_l (by omega)]) ?_
        refine V.aload_n (q := 69) C dX10_mean_68 rfl rfl ?_
        refine V.get (q := 72) C fl_X10_9 dX10_mean_69 rfl okM rfl rfl ?_
        refine V.bipush (q := 74) (v := nI 78) C dX10_mean_72 rfl (by decide) ?_
        refine V.ild (q := 75) (i := 78) C dX10_mean_74 rfl okM_0 rfl rfl (by omega) (by decide) ?_
        refine V.topi (x1 := nI (n)) hW.1 ?_
        refine V.i2l (q := 76) C dX10_mean_75 rfl rfl ?_
        refine V.stk (st1 := [.long (lN n), .long (lN S)]) (by rw [nI_l (by omega)]) ?_
        refine V.iload_n (q := 77) C dX10_mean_76 rfl rfl ?_
        refine V.callSl (q := 80) C me_X10_fraction (m_fraction (by omega) (by omega) (by omega)) ml_X10_245 dX10_mean_77 rfl rfl rfl (Nat.le_of_ble_eq_true rfl) (by omega) (Nat.zero_le _) (Nat.zero_le _) ?_
        exact V.lreturn C dX10_mean_80 ⟨(q1, now, q.2.2.1, q.2.2.2), trivial, by simp only [meanR, hb7, ek, hb16, hb26, eS, iS, Bool.false_eq_true, ↓reduceIte], rfl, rfl⟩
      · replace hb26 : n = 0 := (nI_eq (b := 0) (by have := hW.2.1; omega) (by omega)).mp hb26
        refine V.ldc2 (q := 32) (v := -9223372036854775808) C (tb_at 1090 (by decide +kernel) rfl) dX10_mean_29 rfl ?_
        exact V.lreturn C dX10_mean_32 ⟨q, trivial, by simp only [meanR, hb7, ek, hb16, hb26, Bool.false_eq_true, ↓reduceIte], rfl, rfl⟩
def aiA (A : I1) (s j : Nat) : I1 := itr (fun i B => upd B (54 + 3 * s + 2) (nI i)) j A
theorem aiA_u {A : I1} {s j : Nat} {x : Int32} : upd (aiA A s j) (54 + 3 * s + 2) x = upd A (54 + 3 * s + 2) x := by
  induction j with
  | zero => rfl
  | succ j ih =>
    show upd (upd (aiA A s j) (54 + 3 * s + 2) (nI j)) (54 + 3 * s + 2) x = _
    rw [← ih]
    funext k
    simp only [upd]
    split <;> rfl
theorem aiA_b {A : I1} {s j : Nat} : upd (aiA A s j) (54 + 3 * s + 2) (A (54 + 3 * s + 2)) = A := by
  rw [aiA_u]
  funext k
  simp only [upd]
  split
  · next h => rw [h]
  · rfl
theorem aiA_s {A : I1} {s j : Nat} : upd A (54 + 3 * s + 2) (nI j) = aiA A s (j + 1) := aiA_u.symm
theorem WI_aim {A : I1} {n m s : Nat} {x : Int32} (hW : WI A n m) (hs : s < 8) (hx : x = -1 ∨ ∃ i, i < n ∧ x = nI i) : WI (upd A (54 + 3 * s + 2) x) n m := by
  obtain ⟨h1, h2, h3, h4, h5, h6⟩ := hW
  refine ⟨by rw [upd, if_neg (by omega)]; exact h1, h2, by rw [upd, if_neg (by omega)]; exact h3, h4, fun t ht => ?_, fun t ht => ?_⟩
  · rw [upd, if_neg (by omega)]; exact h5 t ht
  · by_cases e : t = s
    · subst e; rw [upd, if_pos rfl]; exact hx
    · rw [upd, if_neg (by omega)]; exact h6 t ht
theorem aiA_at {A : I1} {s j k : Nat} (h : k ≠ 54 + 3 * s + 2) : aiA A s j k = A k := by
  induction j with
  | zero => rfl
  | succ j ih => show upd (aiA A s j) (54 + 3 * s + 2) (nI j) k = _; rw [upd, if_neg h]; exact ih
/-- how many aims hurt -/
def odC (rules sizes A : I1) (n m s p : Nat) (k : Int32) (j : Nat) : Nat := itr (fun i c => c + (if onR rules sizes (upd A (54 + 3 * s + 2) (nI i)) n m k (nI (30 + p)) ≤ A (9 * p + 4) then 0 else 1)) j 0
theorem odC_le {rules sizes A : I1} {n m s p : Nat} {k : Int32} : ∀ j, odC rules sizes A n m s p k j ≤ j := by
  intro j
  induction j with
  | zero => exact Nat.le_refl 0
  | succ j ih =>
    show odC rules sizes A n m s p k j + (if _ then 0 else 1) ≤ j + 1
    split <;> omega
def oddsR (rules sizes A : I1) (n m : Nat) (s p k pt : Int32) : Int64 := if inN s m then (if inN p n then (if inR k (nI 0) (nI 20) then (if inR pt (nI 0) (nI 1) then frR (odC rules sizes A n m (ix s) (ix p) k n) n (Nat.gcd (odC rules sizes A n m (ix s) (ix p) k n) n) pt else -9223372036854775808) else -9223372036854775808) else -9223372036854775808) else -9223372036854775808
theorem m_odds_l {l : Launch} {g : GG} {X : PHp} {now : I1} {th : I1 × Int32} {tx : TXt}  {tr : I1 × Int32} {tp : TPt}  {Γ : Cxt} {Q : State → Prop} {n m s p k : Nat} {pt : Int32} (hs : s < m) (hp : p < n) (hk : k ≤ 20) (hW : WI now n m) (hR : RuI tx.2.2.2.1 now) (C : Cx Γ g cX10_odds yX10_odds 8 (some .long) 28 0 0) (kx : ∀ q : SD, V l Γ g 8 Q 0 0 NN (jn X (hM g (aiA now s n) q.2.1 th tx (zS q.1 q.2.2.1 q.2.2.2) tr tp)) 108 [some (rf g (22, 0, 0)), some (.int (nI s)), some (.int (nI p)), some (.int (nI k)), some (.int pt), some (.int (now (54 + 3 * s + 2))), some (.int (nI (odC tx.2.2.1 tx.2.2.2.1 now n m s p (nI k) n))), some (.int (nI n))] []) : ∀ (f j : Nat) (q : SD), j + f = n → V l Γ g 8 Q 0 0 NN (jn X (hM g (aiA now s j) q.2.1 th tx (zS q.1 q.2.2.1 q.2.2.2) tr tp)) 54 [some (rf g (22, 0, 0)), some (.int (nI s)), some (.int (nI p)), some (.int (nI k)), some (.int pt), some (.int (now (54 + 3 * s + 2))), some (.int (nI (odC tx.2.2.1 tx.2.2.2.1 now n m s p (nI k) j))), some (.int (nI j))] [] := by
  have h6 := hW.2.1
  have h8 := hW.2.2.2.1
  intro f
  induction f with
  | zero =>
    intro j q hj
    obtain rfl : j = n := by omega
    refine V.iload (q := 56) C dX10_odds_54 rfl rfl ?_
    refine V.aload_n (q := 57) C dX10_odds_56 rfl rfl ?_
    refine V.get (q := 60) C fl_X10_9 dX10_odds_57 rfl okM rfl rfl ?_
    refine V.bipush (q := 62) (v := nI 78) C dX10_odds_60 rfl (by decide) ?_
    refine V.ild (q := 63) (i := 78) C dX10_odds_62 rfl okM_0 rfl rfl (by omega) (by decide) ?_
    refine V.topi (x1 := nI (j)) ((aiA_at (by omega)).trans hW.1) ?_
    refine V.icmp_ge (q := 66) (tgt := 108) C dX10_odds_63 rfl rfl (fun hb63 => ?_) (fun hb63 => ?_)
    · exact kx q
    · exact absurd ((nI_leI (by omega) (by omega)).mpr (by omega)) hb63
  | succ f ih =>
    intro j q hj
    refine V.iload (q := 56) C dX10_odds_54 rfl rfl ?_
    refine V.aload_n (q := 57) C dX10_odds_56 rfl rfl ?_
    refine V.get (q := 60) C fl_X10_9 dX10_odds_57 rfl okM rfl rfl ?_
    refine V.bipush (q := 62) (v := nI 78) C dX10_odds_60 rfl (by decide) ?_
    refine V.ild (q := 63) (i := 78) C dX10_odds_62 rfl okM_0 rfl rfl (by omega) (by decide) ?_
    refine V.topi (x1 := nI (n)) ((aiA_at (by omega)).trans hW.1) ?_
    refine V.icmp_ge (q := 66) (tgt := 108) C dX10_odds_63 rfl rfl (fun hb63 => ?_) (fun hb63 => ?_)
    · exact absurd ((nI_leI (by omega) (by omega)).mp hb63) (by omega)
    · refine V.aload_n (q := 67) C dX10_odds_66 rfl rfl ?_
      refine V.iload_n (q := 68) C dX10_odds_67 rfl rfl ?_
      refine V.iload (q := 70) C dX10_odds_68 rfl rfl ?_
      refine V.callVi (q := 73) C me_X10_aims (m_aims (by omega)) ml_X10_114 dX10_odds_70 rfl okM ⟨_, rfl⟩ rfl rfl (Nat.le_of_ble_eq_true rfl) (by omega) (Nat.zero_le _) (Nat.zero_le _) ?_
      refine V.ph (PH1 := (jn X (hM g (upd now (54 + 3 * s + 2) (nI j)) q.2.1 th tx (zS q.1 q.2.2.1 q.2.2.2) tr tp))) (by rw [aiA_u]) ?_
      refine V.pop (q := 74) C dX10_odds_73 rfl rfl ?_
      refine V.iload (q := 76) C dX10_odds_74 rfl rfl ?_
      refine V.aload_n (q := 77) C dX10_odds_76 rfl rfl ?_
      refine V.iload_n (q := 78) C dX10_odds_77 rfl rfl ?_
      refine V.bipush (q := 80) (v := nI 30) C dX10_odds_78 rfl (by decide) ?_
      refine V.iload_n (q := 81) C dX10_odds_80 rfl rfl ?_
      refine V.iadd (q := 82) C dX10_odds_81 rfl ?_
      refine V.topi (x1 := nI (30 + p)) (nI_add _ _) ?_
      refine V.callVxi (q := 85) C me_X10_on (m_on h6 (WI_aim hW (by omega) (Or.inr ⟨j, by omega, rfl⟩)) (RuI_hi (if_neg (by omega)) hR)) ml_X10_242 dX10_odds_82 rfl okM ⟨_, rfl⟩ rfl rfl (Nat.le_of_ble_eq_true rfl) (by omega) (Nat.zero_le _) (Nat.zero_le _) (fun q1 _ => ?_)
      refine V.aload_n (q := 86) C dX10_odds_85 rfl rfl ?_
      refine V.iload_n (q := 87) C dX10_odds_86 rfl rfl ?_
      refine V.iconst (q := 88) (v := nI 4) C dX10_odds_87 rfl (by decide) ?_
      refine V.callVi (q := 91) C me_X10_one (m_one (by omega)) ml_X10_86 dX10_odds_88 rfl okM ⟨_, rfl⟩ rfl rfl (Nat.le_of_ble_eq_true rfl) (by omega) (Nat.zero_le _) (Nat.zero_le _) ?_
      refine V.topi (x1 := now (9 * p + 4)) (if_neg (by omega)) ?_
      refine V.icmp_le (q := 94) (tgt := 98) C dX10_odds_91 rfl rfl (fun hb91 => ?_) (fun hb91 => ?_)
      · refine V.iconst (q := 99) (v := nI 0) C dX10_odds_98 rfl (by decide) ?_
        refine V.iadd (q := 100) C dX10_odds_99 rfl ?_
        refine V.topi (x1 := nI ((odC tx.2.2.1 tx.2.2.2.1 now n m s p (nI k) j) + 0)) (nI_add _ _) ?_
        refine V.istore (q := 102) C dX10_odds_100 rfl (by decide) rfl rfl ?_
        refine V.iinc (q := 105) (v := nI (j + 1)) C dX10_odds_102 rfl rfl (nI_1 _) (by decide) rfl rfl ?_
        refine V.goto (tgt := 54) C dX10_odds_105 rfl ?_
        have e9 : odC tx.2.2.1 tx.2.2.2.1 now n m s p (nI k) (j + 1) = (odC tx.2.2.1 tx.2.2.2.1 now n m s p (nI k) j) + 0 := by
          show (odC tx.2.2.1 tx.2.2.2.1 now n m s p (nI k) j) + (if onR tx.2.2.1 tx.2.2.2.1 (upd now (54 + 3 * s + 2) (nI j)) n m (nI k) (nI (30 + p)) ≤ now (9 * p + 4) then 0 else 1) = _
          rw [if_pos hb91]
        have h9 := ih (j + 1) q1 (by omega)
        rw [e9] at h9
        refine V.ph (PH1 := (jn X (hM g (aiA now s (j + 1)) q1.2.1 th tx (zS q1.1 q1.2.2.1 q1.2.2.2) tr tp))) (by rw [aiA_s]) ?_
        exact h9
      · refine V.iconst (q := 95) (v := nI 1) C dX10_odds_94 rfl (by decide) ?_
        refine V.goto (tgt := 99) C dX10_odds_95 rfl ?_
        refine V.iadd (q := 100) C dX10_odds_99 rfl ?_
        refine V.topi (x1 := nI ((odC tx.2.2.1 tx.2.2.2.1 now n m s p (nI k) j) + 1)) (nI_add _ _) ?_
        refine V.istore (q := 102) C dX10_odds_100 rfl (by decide) rfl rfl ?_
        refine V.iinc (q := 105) (v := nI (j + 1)) C dX10_odds_102 rfl rfl (nI_1 _) (by decide) rfl rfl ?_
        refine V.goto (tgt := 54) C dX10_odds_105 rfl ?_
        have e9 : odC tx.2.2.1 tx.2.2.2.1 now n m s p (nI k) (j + 1) = (odC tx.2.2.1 tx.2.2.2.1 now n m s p (nI k) j) + 1 := by
          show (odC tx.2.2.1 tx.2.2.2.1 now n m s p (nI k) j) + (if onR tx.2.2.1 tx.2.2.2.1 (upd now (54 + 3 * s + 2) (nI j)) n m (nI k) (nI (30 + p)) ≤ now (9 * p + 4) then 0 else 1) = _
          rw [if_neg hb91]
        have h9 := ih (j + 1) q1 (by omega)
        rw [e9] at h9
        refine V.ph (PH1 := (jn X (hM g (aiA now s (j + 1)) q1.2.1 th tx (zS q1.1 q1.2.2.1 q1.2.2.2) tr tp))) (by rw [aiA_s]) ?_
        exact h9
theorem m_odds {l : Launch} {g : GG} {X : PHp} {now : I1} {th : I1 × Int32} {tx : TXt}  {tr : I1 × Int32} {tp : TPt} {q : SD} {n m : Nat} {s p k pt : Int32} (hW : WI now n m) (hR : RuI tx.2.2.2.1 now) : Ct l g yX10_odds cX10_odds 8 (some .long) 28 0 0 [rf g (22, 0, 0), .int s, .int p, .int k, .int pt] NN (jn X (hM g now q.2.1 th tx (zS q.1 q.2.2.1 q.2.2.2) tr tp)) (xL (fun _ : SD => True) (fun _ => (oddsR tx.2.2.1 tx.2.2.2.1 now n m s p k pt)) (fun q1 => (jn X (hM g now q1.2.1 th tx (zS q1.1 q1.2.2.1 q1.2.2.2) tr tp)))) := by
  refine Ct.of (lv := [some (rf g (22, 0, 0)), some (.int s), some (.int p), some (.int k), some (.int pt), none, none, none]) (by decide +kernel) rfl (Nat.le_of_ble_eq_true rfl) ?_
  intro Γ C
  have h6 := hW.2.1
  have h8 := hW.2.2.2.1
  refine V.aload_n (q := 1) C dX10_odds_0 rfl rfl ?_
  refine V.iload_n (q := 2) C dX10_odds_1 rfl rfl ?_
  refine V.callVi (q := 5) C me_X10_isSaying (m_isSaying hW.2.2.1 (by omega)) ml_X10_108 dX10_odds_2 rfl okM ⟨_, rfl⟩ rfl rfl (Nat.le_of_ble_eq_true rfl) (by omega) (Nat.zero_le _) (Nat.zero_le _) ?_
  refine V.if_eqB (q := 8) (tgt := 36) C dX10_odds_5 rfl rfl (fun hb5 => ?_) (fun hb5 => ?_)
  · refine V.ldc2 (q := 39) (v := -9223372036854775808) C (tb_at 1090 (by decide +kernel) rfl) dX10_odds_36 rfl ?_
    exact V.lreturn C dX10_odds_39 ⟨q, trivial, by simp only [oddsR, hb5, Bool.false_eq_true, ↓reduceIte], rfl, rfl⟩
  · obtain ⟨s, hs, rfl⟩ := InN_nat (by omega) hb5
    have es := ix_nI (i := s) (by omega)
    refine V.aload_n (q := 9) C dX10_odds_8 rfl rfl ?_
    refine V.iload_n (q := 10) C dX10_odds_9 rfl rfl ?_
    refine V.callVi (q := 13) C me_X10_isOne (m_isOne hW.1 (by omega)) ml_X10_97 dX10_odds_10 rfl okM ⟨_, rfl⟩ rfl rfl (Nat.le_of_ble_eq_true rfl) (by omega) (Nat.zero_le _) (Nat.zero_le _) ?_
    refine V.if_eqB (q := 16) (tgt := 36) C dX10_odds_13 rfl rfl (fun hb13 => ?_) (fun hb13 => ?_)
    · refine V.ldc2 (q := 39) (v := -9223372036854775808) C (tb_at 1090 (by decide +kernel) rfl) dX10_odds_36 rfl ?_
      exact V.lreturn C dX10_odds_39 ⟨q, trivial, by simp only [oddsR, hb5, es, hb13, Bool.false_eq_true, ↓reduceIte], rfl, rfl⟩
    · obtain ⟨p, hp, rfl⟩ := InN_nat (by omega) hb13
      have ep := ix_nI (i := p) (by omega)
      refine V.iload_n (q := 17) C dX10_odds_16 rfl rfl ?_
      refine V.iconst (q := 18) (v := nI 0) C dX10_odds_17 rfl (by decide) ?_
      refine V.bipush (q := 20) (v := nI 20) C dX10_odds_18 rfl (by decide) ?_
      refine V.callSi (q := 23) C me_X10_isIn m_isIn ml_X10_82 dX10_odds_20 rfl rfl rfl (Nat.le_of_ble_eq_true rfl) (by omega) (Nat.zero_le _) (Nat.zero_le _) ?_
      refine V.if_eqB (q := 26) (tgt := 36) C dX10_odds_23 rfl rfl (fun hb23 => ?_) (fun hb23 => ?_)
      · refine V.ldc2 (q := 39) (v := -9223372036854775808) C (tb_at 1090 (by decide +kernel) rfl) dX10_odds_36 rfl ?_
        exact V.lreturn C dX10_odds_39 ⟨q, trivial, by simp only [oddsR, hb5, es, hb13, ep, hb23, Bool.false_eq_true, ↓reduceIte], rfl, rfl⟩
      · obtain ⟨k, hk0, hk, rfl⟩ := InR_nat (a := 0) (b := 20) (by omega) (by omega) hb23
        have ek := ix_nI (i := k) (by omega)
        refine V.iload (q := 28) C dX10_odds_26 rfl rfl ?_
        refine V.iconst (q := 29) (v := nI 0) C dX10_odds_28 rfl (by decide) ?_
        refine V.iconst (q := 30) (v := nI 1) C dX10_odds_29 rfl (by decide) ?_
        refine V.callSi (q := 33) C me_X10_isIn m_isIn ml_X10_82 dX10_odds_30 rfl rfl rfl (Nat.le_of_ble_eq_true rfl) (by omega) (Nat.zero_le _) (Nat.zero_le _) ?_
        refine V.if_neB (q := 36) (tgt := 40) C dX10_odds_33 rfl rfl (fun hb33 => ?_) (fun hb33 => ?_)
        · refine V.aload_n (q := 41) C dX10_odds_40 rfl rfl ?_
          refine V.iload_n (q := 42) C dX10_odds_41 rfl rfl ?_
          refine V.iconst (q := 43) (v := nI 2) C dX10_odds_42 rfl (by decide) ?_
          refine V.callVi (q := 46) C me_X10_word (m_word (by omega)) ml_X10_90 dX10_odds_43 rfl okM ⟨_, rfl⟩ rfl rfl (Nat.le_of_ble_eq_true rfl) (by omega) (Nat.zero_le _) (Nat.zero_le _) ?_
          refine V.istore (q := 48) C dX10_odds_46 rfl (by decide) rfl rfl ?_
          refine V.iconst (q := 49) (v := nI 0) C dX10_odds_48 rfl (by decide) ?_
          refine V.istore (q := 51) C dX10_odds_49 rfl (by decide) rfl rfl ?_
          refine V.iconst (q := 52) (v := nI 0) C dX10_odds_51 rfl (by decide) ?_
          refine V.istore (q := 54) C dX10_odds_52 rfl (by decide) rfl rfl ?_
          have hod := odC_le (rules := tx.2.2.1) (sizes := tx.2.2.2.1) (A := now) (n := n) (m := m) (s := s) (p := p) (k := nI k) n
          refine m_odds_l (by omega) (by omega) (by omega) hW hR C ?_ n 0 q (by omega)
          intro q2
          refine V.aload_n (q := 109) C dX10_odds_108 rfl rfl ?_
          refine V.iload_n (q := 110) C dX10_odds_109 rfl rfl ?_
          refine V.iload (q := 112) C dX10_odds_110 rfl rfl ?_
          refine V.callVi (q := 115) C me_X10_aims (m_aims (by omega)) ml_X10_114 dX10_odds_112 rfl okM ⟨_, rfl⟩ rfl rfl (Nat.le_of_ble_eq_true rfl) (by omega) (Nat.zero_le _) (Nat.zero_le _) ?_
          refine V.ph (PH1 := (jn X (hM g now q2.2.1 th tx (zS q2.1 q2.2.2.1 q2.2.2.2) tr tp))) (by rw [aiA_b]) ?_
          refine V.pop (q := 116) C dX10_odds_115 rfl rfl ?_
          refine V.iload (q := 118) C dX10_odds_116 rfl rfl ?_
          refine V.i2l (q := 119) C dX10_odds_118 rfl rfl ?_
          refine V.stk (st1 := [.long (lN (odC tx.2.2.1 tx.2.2.2.1 now n m s p (nI k) n))]) (by rw [nI_l (by omega)]) ?_
          refine V.aload_n (q := 120) C dX10_odds_119 rfl rfl ?_
          refine V.get (q := 123) C fl_X10_9 dX10_odds_120 rfl okM rfl rfl ?_
          refine V.bipush (q := 125) (v := nI 78) C dX10_odds_123 rfl (by decide) ?_
          refine V.ild (q := 126) (i := 78) C dX10_odds_125 rfl okM_0 rfl rfl (by omega) (by decide) ?_
          refine V.topi (x1 := nI (n)) hW.1 ?_
          refine V.i2l (q := 127) C dX10_odds_126 rfl rfl ?_
          refine V.stk (st1 := [.long (lN n), .long (lN (odC tx.2.2.1 tx.2.2.2.1 now n m s p (nI k) n))]) (by rw [nI_l (by omega)]) ?_
          refine V.iload (q := 129) C dX10_odds_127 rfl rfl ?_
          refine V.callSl (q := 132) C me_X10_fraction (m_fraction (by omega) (by omega) (by omega)) ml_X10_245 dX10_odds_129 rfl rfl rfl (Nat.le_of_ble_eq_true rfl) (by omega) (Nat.zero_le _) (Nat.zero_le _) ?_
          exact V.lreturn C dX10_odds_132 ⟨q2, trivial, by simp only [oddsR, hb5, es, hb13, ep, hb23, ek, hb33, Bool.false_eq_true, ↓reduceIte], rfl, rfl⟩
        · refine V.ldc2 (q := 39) (v := -9223372036854775808) C (tb_at 1090 (by decide +kernel) rfl) dX10_odds_36 rfl ?_
          exact V.lreturn C dX10_odds_39 ⟨q, trivial, by simp only [oddsR, hb5, es, hb13, ep, hb23, ek, hb33, Bool.false_eq_true, ↓reduceIte], rfl, rfl⟩
