/-! lists told by hand: all of them fit, day by day; those of one wearer, those of the others -/
theorem ds_sh {rules sizes B : I1} {m : Nat} : ∀ e, dsA rules sizes m e (dyA rules sizes m B) = dsA rules sizes m (e + 1) B := by
  intro e
  induction e with
  | zero => rfl
  | succ e ih =>
    show dyA rules sizes m (dsA rules sizes m e (dyA rules sizes m B)) = dyA rules sizes m (dsA rules sizes m (e + 1) B)
    rw [ih]
theorem al_iff {L c d : Nat} {v : Nat → Int32} {A : I1} : alS L v A d c = true ↔ ∀ r, r < c → okS L v A d r = true := by
  induction c with
  | zero => exact ⟨fun _ r hr => absurd hr (Nat.not_lt_zero r), fun _ => rfl⟩
  | succ c ih =>
    show (alS L v A d c && okS L v A d c) = true ↔ _
    rw [Bool.and_eq_true, ih]
    constructor
    · intro h r hr
      by_cases e : r = c
      · rw [e]; exact h.2
      · exact h.1 r (by omega)
    · intro h
      exact ⟨fun r hr => h r (by omega), h c (by omega)⟩
theorem as_iff {rules sizes A : I1} {m L c : Nat} {v : I1 → I1 → Nat → Int32} : ∀ (f d : Nat) (B : I1), asF rules sizes m L c v A f d B = true ↔ ∀ e, e < f → ∀ r, r < c → okS L (v A (dsA rules sizes m e B)) A (d + e) r = true := by
  intro f
  induction f with
  | zero => intro d B; exact ⟨fun _ e he => absurd he (Nat.not_lt_zero e), fun _ => rfl⟩
  | succ f ih =>
    intro d B
    unfold asF
    split
    · next h =>
      rw [ih]
      constructor
      · intro h2 e he r hr
        cases e with
        | zero => exact al_iff.mp h r hr
        | succ e =>
          have h3 := h2 e (by omega) r hr
          rw [ds_sh, show d + 1 + e = d + (e + 1) by omega] at h3
          exact h3
      · intro h2 e he r hr
        have h3 := h2 (e + 1) (by omega) r hr
        rw [ds_sh, show d + 1 + e = d + (e + 1) by omega]
        exact h3
    · next h =>
      refine ⟨fun z => absurd z Bool.false_ne_true, fun h2 => absurd (al_iff.mpr (fun r hr => h2 0 (by omega) r hr)) h⟩
theorem ok_iff {L d r : Nat} {v : Nat → Int32} {A : I1} : okS L v A d r = true ↔ (A (L + 1 + 3 * r + 1) = nI d → v (ix (A (L + 1 + 3 * r))) = A (L + 1 + 3 * r + 2)) := by
  unfold okS
  rw [Bool.or_eq_true, decide_eq_true_eq, decide_eq_true_eq]
  constructor
  · rintro (h | h) z
    · exact absurd z h
    · exact h
  · intro h
    by_cases z : A (L + 1 + 3 * r + 1) = nI d
    · exact Or.inr (h z)
    · exact Or.inl z
/-- row r fits on day e, if it is asked for: D is the row the days begin with -/
def cnd (rules sizes : I1) (m L : Nat) (v : I1 → I1 → Nat → Int32) (A D : I1) (p : Nat) (one : Prop) (e r : Nat) : Prop := A (L + 1 + 3 * r + 1) = nI e → (ix (A (L + 1 + 3 * r)) = p ↔ one) → v A (dsA rules sizes m e D) (ix (A (L + 1 + 3 * r))) = A (L + 1 + 3 * r + 2)
def RF (rules sizes : I1) (m L c : Nat) (v : I1 → I1 → Nat → Int32) (A D : I1) (p : Nat) (one : Prop) : Prop := ∀ e, e < 13 → ∀ r, r < c → cnd rules sizes m L v A D p one e r
/-- each row's day is one up to 12 -/
def LsD (A : I1) (L c : Nat) : Prop := ∀ r, r < c → ∃ d, d ≤ 12 ∧ A (L + 1 + 3 * r + 1) = nI d
/-- a question looks at a wearer's own cover or hurt, and at its hurt as it was -/
def Vok (K : Nat) (v : I1 → I1 → Nat → Int32) : Prop := K < 4 ∧ ∀ (A A1 B B1 : I1) (i : Nat), (K ≠ 2 → A (9 * i + 4) = A1 (9 * i + 4)) → (∀ c, c < 9 → B (9 * i + c) = B1 (9 * i + c)) → v A B i = v A1 B1 i
theorem vok_see : Vok 2 vSee := ⟨by omega, fun A A1 B B1 i _ h => h 2 (by omega)⟩
theorem vok_ache : Vok 1 vAche := ⟨by omega, fun A A1 B B1 i h1 h => by rw [vAche, vAche, h1 (by omega), h 4 (by omega)]⟩
theorem rf_split {ct : CTt} {rules sizes A : I1} {n m r q L c p K : Nat} {x : Int32} {v : I1 → I1 → Nat → Int32} (hS : SH ct rules sizes A n m r q) (hL : 54 ≤ L) (hLs : LsI A n L c) (hp : p < n) (hv : Vok K v) : asF rules sizes m L c v (upd A (9 * p + K) x) 13 0 (upd A (9 * p + K) x) = true ↔ (RF rules sizes m L c v A A p False ∧ RF rules sizes m L c v A (upd A (9 * p + K) x) p True) := by
  have hn := hS.1.2.1
  have hK := hv.1
  have hD := hS.lo2 (k := 9 * p + K) (x := x) (by omega)
  have hhi : ∀ k, 54 ≤ k → upd A (9 * p + K) x k = A k := fun k hk => if_neg (by omega)
  rw [as_iff]
  have hrow : ∀ e r, okS L (v (upd A (9 * p + K) x) (dsA rules sizes m e (upd A (9 * p + K) x))) (upd A (9 * p + K) x) (0 + e) r = true ↔ (A (L + 1 + 3 * r + 1) = nI e → v (upd A (9 * p + K) x) (dsA rules sizes m e (upd A (9 * p + K) x)) (ix (A (L + 1 + 3 * r))) = A (L + 1 + 3 * r + 2)) := by
    intro e r
    rw [ok_iff, hhi _ (by omega), hhi _ (by omega), hhi _ (by omega), Nat.zero_add]
  have h4 : ∀ i, K ≠ 2 → upd A (9 * p + K) x (9 * i + 4) = A (9 * i + 4) := fun i h => if_neg (by omega)
  have heq : ∀ e r, r < c → ¬ ix (A (L + 1 + 3 * r)) = p → v (upd A (9 * p + K) x) (dsA rules sizes m e (upd A (9 * p + K) x)) (ix (A (L + 1 + 3 * r))) = v A (dsA rules sizes m e A) (ix (A (L + 1 + 3 * r))) := by
    intro e r hr hne
    obtain ⟨i, hi, ei⟩ := hLs.2.2 r hr
    rw [ei, ix_k (by omega)] at hne ⊢
    exact hv.2 _ _ _ _ i (h4 i) (ds_cg hD hS hi (fun c hc => if_neg (by omega)) (fun k hk => hhi k hk) e)
  have heq2 : ∀ e r, v (upd A (9 * p + K) x) (dsA rules sizes m e (upd A (9 * p + K) x)) (ix (A (L + 1 + 3 * r))) = v A (dsA rules sizes m e (upd A (9 * p + K) x)) (ix (A (L + 1 + 3 * r))) := fun e r => hv.2 _ _ _ _ _ (h4 _) (fun _ _ => rfl)
  constructor
  · intro h
    refine ⟨fun e he r hr h1 h2 => ?_, fun e he r hr h1 h2 => ?_⟩
    · have h3 := (hrow e r).mp (h e he r hr) h1
      rw [heq e r hr (fun z => h2.mp z)] at h3
      exact h3
    · have h3 := (hrow e r).mp (h e he r hr) h1
      rw [heq2] at h3
      exact h3
  · rintro ⟨h1, h2⟩ e he r hr
    refine (hrow e r).mpr (fun h3 => ?_)
    by_cases hq : ix (A (L + 1 + 3 * r)) = p
    · rw [heq2]
      exact h2 e he r hr h3 ⟨fun _ => trivial, fun _ => hq⟩
    · rw [heq e r hr hq]
      exact h1 e he r hr h3 ⟨fun z => hq z, fun z => absurd z id⟩
/-- how many fit, and the least -/
def cnt (g : Nat → Bool) (j : Nat) : Nat := itr (fun x c => if g x = true then c + 1 else c) j 0
theorem ft_cnt {is : Int32 → Bool} {H : Nat} : ∀ t, t ≤ H + 1 → (ftF is H t).1 + cnt (fun x => is (nI x)) (H + 1 - t) = cnt (fun x => is (nI x)) (H + 1) := by
  intro t
  induction t with
  | zero => intro _; show 0 + _ = _; rw [Nat.zero_add]; rfl
  | succ t ih =>
    intro ht
    rw [← ih (by omega)]
    have e : H + 1 - t = (H - t) + 1 := by omega
    have e2 : H + 1 - (t + 1) = H - t := by omega
    rw [e, e2]
    show (ftS (is (nI (H - t))) (nI (H - t)) (ftF is H t)).1 + cnt (fun x => is (nI x)) (H - t) = (ftF is H t).1 + (if is (nI (H - t)) = true then cnt (fun x => is (nI x)) (H - t) + 1 else cnt (fun x => is (nI x)) (H - t))
    unfold ftS
    split
    · show (ftF is H t).1 + 1 + _ = _; omega
    · rfl
theorem ft_least {is : Int32 → Bool} {H : Nat} : ∀ t, t ≤ H + 1 → ((∀ x, H < x + t → x ≤ H → is (nI x) = false) ∧ (ftF is H t).2 = -5) ∨ ∃ x, H < x + t ∧ x ≤ H ∧ is (nI x) = true ∧ (ftF is H t).2 = nI x ∧ ∀ y, H < y + t → y < x → is (nI y) = false := by
  intro t
  induction t with
  | zero => intro _; exact Or.inl ⟨fun x h1 h2 => by omega, rfl⟩
  | succ t ih =>
    intro ht
    have es : (ftF is H (t + 1)).2 = (ftS (is (nI (H - t))) (nI (H - t)) (ftF is H t)).2 := rfl
    by_cases h : is (nI (H - t)) = true
    · refine Or.inr ⟨H - t, by omega, by omega, h, by rw [es, ftS_t h], fun y h1 h2 => by omega⟩
    · have hf : is (nI (H - t)) = false := (Bool.eq_false_iff).mpr h
      rw [es, ftS_f h]
      rcases ih (by omega) with ⟨h1, h2⟩ | ⟨x, h1, h2, h3, h4, h5⟩
      · refine Or.inl ⟨fun x hx1 hx2 => ?_, h2⟩
        by_cases e : x = H - t
        · rw [e]; exact hf
        · exact h1 x (by omega) hx2
      · refine Or.inr ⟨x, by omega, h2, h3, h4, fun y hy1 hy2 => ?_⟩
        by_cases e : y = H - t
        · rw [e]; exact hf
        · exact h5 y (by omega) hy2
theorem la_c {f : I1} : ∀ c, (∀ i, i < c → ∃ d, d ≤ 12 ∧ f i = nI d) → ∃ M, M ≤ 13 ∧ laC f c = vd M ∧ ∀ i, i < c → ∃ d, d < M ∧ f i = nI d := by
  intro c
  induction c with
  | zero => intro _; exact ⟨0, by omega, rfl, fun i hi => absurd hi (Nat.not_lt_zero i)⟩
  | succ c ih =>
    intro h
    obtain ⟨M, h1, h2, h3⟩ := ih (fun i hi => h i (by omega))
    obtain ⟨d, hd, ed⟩ := h c (by omega)
    have es : laC f (c + 1) = mxI (vd M) (nI d) := by show mxI (laC f c) (f c) = _; rw [h2, ed]
    by_cases q : M ≤ d
    · refine ⟨d + 1, by omega, ?_, fun i hi => ?_⟩
      · rw [es, mxI, if_pos]
        · rfl
        · cases M with
          | zero => show (-1 : Int32) < nI d; rw [Int32.lt_iff_toInt_lt, nI_toInt (by omega)]; have : (-1 : Int32).toInt = -1 := by decide
                    omega
          | succ M => exact nI_lt (by omega) (by omega)
      · by_cases e : i = c
        · subst e; exact ⟨d, by omega, ed⟩
        · obtain ⟨d1, hd1, e1⟩ := h3 i (by omega); exact ⟨d1, by omega, e1⟩
    · refine ⟨M, h1, ?_, fun i hi => ?_⟩
      · rw [es, mxI, if_neg]
        cases M with
        | zero => omega
        | succ M => exact nI_nlt (by omega) (by omega)
      · by_cases e : i = c
        · subst e; exact ⟨d, by omega, ed⟩
        · exact h3 i (by omega)
theorem vd_lt {M d : Nat} (hM : M ≤ 13) (hd : d ≤ 13) : vd M < nI d ↔ M ≤ d := by
  cases M with
  | zero =>
    refine ⟨fun _ => by omega, fun _ => ?_⟩
    show (-1 : Int32) < nI d
    rw [Int32.lt_iff_toInt_lt, nI_toInt (by omega)]
    have : (-1 : Int32).toInt = -1 := by decide
    omega
  | succ M =>
    show nI M < nI d ↔ _
    rw [nI_ltI (by omega) (by omega)]
    omega
/-- the rows of a hand are the reference's list at L -/
def RwR (rw : RWt) (r : Nat) (A : I1) (L c : Nat) : Prop := rw.2.2.2 0 r = nI c ∧ ∀ i, i < c → rw.1 0 r i = A (L + 1 + 3 * i) ∧ rw.2.1 0 r i = A (L + 1 + 3 * i + 1) ∧ rw.2.2.1 0 r i = A (L + 1 + 3 * i + 2)
theorem c_tvs {l : Launch} {g : GG} {X : PHp} {h0 : HZ} {ct : CTt} {cl : I2} {rd : RDt} {B : I2} {cy : Nat → Nat} {rw : RWt} {tl : TLt} {sp : SPt} {P : Nat → Prop} {b D A : I1} {n m p c0 : Nat} (hb : TR P b D n m) (hT : TR TT (B 0) A n m) (hp : p < n) (h6 : n ≤ 6) (hP : P p) : Ct l g yX9_trialValue cX9_trialValue 3 (some .int) 2 0 0 [rf g (0, 0, 0), .int (nI p), .int (nI 1)] NN (jn (hC g h0 ct cl rd (putR B 1 b) (va_up cy 1 c0) rw tl sp) X) (pI (vSee A D p) (jn (hC g h0 ct cl rd (putR B 1 b) (va_up cy 1 c0) rw tl sp) X)) := by
  refine Ct.of (lv := [some (rf g (0, 0, 0)), some (.int (nI p)), some (.int (nI 1))]) (by decide +kernel) rfl (Nat.le_of_ble_eq_true rfl) ?_
  intro Γ C
  refine V.iload_n (q := 1) C dX9_trialValue_0 rfl rfl ?_
  refine V.if_eq (q := 4) (tgt := 19) C dX9_trialValue_1 rfl rfl (fun hb1 => ?_) (fun hb1 => ?_)
  · exact absurd hb1 (by decide)
  · refine V.aload_n (q := 5) C dX9_trialValue_4 rfl rfl ?_
    refine V.get (q := 8) C fl_X9_31 dX9_trialValue_5 rfl okC_0 rfl rfl ?_
    refine V.get (q := 11) C fl_X9_82 dX9_trialValue_8 rfl (okC_6 (by omega)) rfl rfl ?_
    refine V.iload_n (q := 12) C dX9_trialValue_11 rfl rfl ?_
    refine V.rld (q := 13) (i := p) C rfl dX9_trialValue_12 rfl (okC_7 (by omega)) rfl rfl (by omega) (by decide) ?_
    refine V.get (q := 16) C fl_X9_94 dX9_trialValue_13 rfl (okC_9 (by omega) (by omega)) rfl rfl ?_
    refine V.topi (x1 := vSee A D p) ((congrFun putR_w _).trans (hb.1 p hp hP 2 (by omega))) ?_
    refine V.goto (tgt := 32) C dX9_trialValue_16 rfl ?_
    exact V.ireturn C dX9_trialValue_32 ⟨rfl, rfl, rfl⟩
theorem c_rfs1_i {l : Launch} {g : GG} {X : PHp} {h0 : HZ} {ct : CTt} {cl : I2} {rd : RDt} {B : I2} {cy : Nat → Nat} {rw : RWt} {tl : TLt} {sp : SPt} {rules sizes A D : I1} {n m r q : Nat} {b0 b : I1} {Γ : Cxt} (hS : SH ct rules sizes D n m r q) (hT : TR TT (B 0) A n m) {p c : Nat} (hp : p < n) (hLs : LsI A n 82 c) (hLd : LsD A 82 c) (hRw : RwR rw 0 A 82 c) {M d : Nat} (hd : d < 13) (hb : TR (fun i => i = p) b (dsA rules sizes m d D) n m) (hbI : CI b n m) (hhi : ∀ j, 54 ≤ j → j ≠ 80 → b j = b0 j) (C : Cx Γ g cX9_rowsFit yX9_rowsFit 9 (some .boolean) 6 0 0) (kx : (∀ r1, r1 < c → cnd rules sizes m 82 vSee A D p True d r1) → ∀ u : Option Value, V l Γ g 9 (QM Γ g (xI (fun z : I2 × I1 × Bool => CI z.2.1 n m ∧ (∀ j, 54 ≤ j → j ≠ 80 → z.2.1 j = b0 j) ∧ (z.2.2 = true ↔ RF rules sizes m 82 c vSee A D p True)) (fun z => b2i (z.2.2 = true)) (fun z => (jn (hC g h0 ct z.1 rd (putR B 1 z.2.1) (va_up cy 1 q) rw tl sp) X))) 0 0) 0 0 NN (jn (hC g h0 ct cl rd (putR B 1 b) (va_up cy 1 q) rw tl sp) X) 153 [some (rf g (0, 0, 0)), some (.int (nI 1)), some (.int (nI p)), some (.int (nI 1)), some (rf g (13, 0, 0)), some (.int (vd M)), some (.int (nI d)), some (.int (nI c)), u] []) : ∀ (f i : Nat) (u : Option Value), i + f = c → (∀ r1, r1 < i → cnd rules sizes m 82 vSee A D p True d r1) → V l Γ g 9 (QM Γ g (xI (fun z : I2 × I1 × Bool => CI z.2.1 n m ∧ (∀ j, 54 ≤ j → j ≠ 80 → z.2.1 j = b0 j) ∧ (z.2.2 = true ↔ RF rules sizes m 82 c vSee A D p True)) (fun z => b2i (z.2.2 = true)) (fun z => (jn (hC g h0 ct z.1 rd (putR B 1 z.2.1) (va_up cy 1 q) rw tl sp) X))) 0 0) 0 0 NN (jn (hC g h0 ct cl rd (putR B 1 b) (va_up cy 1 q) rw tl sp) X) 65 [some (rf g (0, 0, 0)), some (.int (nI 1)), some (.int (nI p)), some (.int (nI 1)), some (rf g (13, 0, 0)), some (.int (vd M)), some (.int (nI d)), some (.int (nI i)), u] [] := by
  have h6 := hS.1.2.1
  have hz := rwN_le 0
  have hc5 := hLs.2.1
  intro f
  induction f with
  | zero =>
    intro i u hi hg
    obtain rfl : i = c := by omega
    refine V.iload (q := 67) C dX9_rowsFit_65 rfl rfl ?_
    refine V.aload (q := 69) C dX9_rowsFit_67 rfl rfl ?_
    refine V.get (q := 72) C fl_X9_221 dX9_rowsFit_69 rfl (okC_13 (by omega) (by omega)) rfl rfl ?_
    refine V.topi (x1 := nI (i)) hRw.1 ?_
    refine V.icmp_ge (q := 75) (tgt := 153) C dX9_rowsFit_72 rfl rfl (fun hb72 => ?_) (fun hb72 => ?_)
    · exact kx hg u
    · exact absurd (Int32.le_refl _) hb72
  | succ f ih =>
    intro i u hi hg
    obtain ⟨r1, r2, r3⟩ := hRw.2 i (by omega)
    obtain ⟨i1, hi1, e1⟩ := hLs.2.2 i (by omega)
    have ii := ix_k (k := i1) (by omega)
    have hr8 : i < rwN 0 := by rw [rw5]; omega
    refine V.iload (q := 67) C dX9_rowsFit_65 rfl rfl ?_
    refine V.aload (q := 69) C dX9_rowsFit_67 rfl rfl ?_
    refine V.get (q := 72) C fl_X9_221 dX9_rowsFit_69 rfl (okC_13 (by omega) (by omega)) rfl rfl ?_
    refine V.topi (x1 := nI (c)) hRw.1 ?_
    refine V.icmp_ge (q := 75) (tgt := 153) C dX9_rowsFit_72 rfl rfl (fun hb72 => ?_) (fun hb72 => ?_)
    · exact absurd ((nI_leI (by omega) (by omega)).mp hb72) (by omega)
    · refine V.aload (q := 77) C dX9_rowsFit_75 rfl rfl ?_
      refine V.get (q := 80) C fl_X9_224 dX9_rowsFit_77 rfl (okC_13 (by omega) (by omega)) rfl rfl ?_
      refine V.iload (q := 82) C dX9_rowsFit_80 rfl rfl ?_
      refine V.ild (q := 83) (i := i) C dX9_rowsFit_82 rfl (okC_15 (by omega) (by omega)) rfl rfl hr8 (by omega) ?_
      refine V.topi (x1 := A (82 + 1 + 3 * i + 1)) r2 ?_
      refine V.iload (q := 85) C dX9_rowsFit_83 rfl rfl ?_
      refine V.icmp_ne (q := 88) (tgt := 113) C dX9_rowsFit_85 rfl rfl (fun hb85 => ?_) (fun hb85 => ?_)
      · refine V.iconst (q := 114) (v := nI 0) C dX9_rowsFit_113 rfl (by decide) ?_
        refine V.istore (q := 116) C dX9_rowsFit_114 rfl (by decide) rfl rfl ?_
        refine V.iload (q := 118) C dX9_rowsFit_116 rfl rfl ?_
        refine V.if_eq (q := 121) (tgt := 147) C dX9_rowsFit_118 rfl rfl (fun hb118 => ?_) (fun hb118 => ?_)
        · refine V.iinc (q := 150) (v := nI (i + 1)) C dX9_rowsFit_147 rfl rfl (nI_1 _) (by decide) rfl rfl ?_
          refine V.goto (tgt := 65) C dX9_rowsFit_150 rfl ?_
          have hg2 : ∀ r1, r1 < i + 1 → cnd rules sizes m 82 vSee A D p True d r1 := by
            intro r1 hr1
            by_cases e9 : r1 = i
            · subst e9
              exact fun z _ => absurd z hb85
            · exact hg r1 (by omega)
          exact ih (i + 1) _ (by omega) hg2
        · exact absurd rfl hb118
      · refine V.aload (q := 90) C dX9_rowsFit_88 rfl rfl ?_
        refine V.get (q := 93) C fl_X9_227 dX9_rowsFit_90 rfl (okC_13 (by omega) (by omega)) rfl rfl ?_
        refine V.iload (q := 95) C dX9_rowsFit_93 rfl rfl ?_
        refine V.ild (q := 96) (i := i) C dX9_rowsFit_95 rfl (okC_14 (by omega) (by omega)) rfl rfl hr8 (by omega) ?_
        refine V.topi (x1 := nI (i1)) (r1.trans e1) ?_
        refine V.iload_n (q := 97) C dX9_rowsFit_96 rfl rfl ?_
        refine V.icmp_ne (q := 100) (tgt := 104) C dX9_rowsFit_97 rfl rfl (fun hb97 => ?_) (fun hb97 => ?_)
        · have q97 : ¬ i1 = p := fun z => hb97 (congrArg nI z)
          refine V.iconst (q := 105) (v := nI 0) C dX9_rowsFit_104 rfl (by decide) ?_
          refine V.iload_n (q := 106) C dX9_rowsFit_105 rfl rfl ?_
          refine V.icmp_ne (q := 109) (tgt := 113) C dX9_rowsFit_106 rfl rfl (fun hb106 => ?_) (fun hb106 => ?_)
          · refine V.iconst (q := 114) (v := nI 0) C dX9_rowsFit_113 rfl (by decide) ?_
            refine V.istore (q := 116) C dX9_rowsFit_114 rfl (by decide) rfl rfl ?_
            refine V.iload (q := 118) C dX9_rowsFit_116 rfl rfl ?_
            refine V.if_eq (q := 121) (tgt := 147) C dX9_rowsFit_118 rfl rfl (fun hb118 => ?_) (fun hb118 => ?_)
            · refine V.iinc (q := 150) (v := nI (i + 1)) C dX9_rowsFit_147 rfl rfl (nI_1 _) (by decide) rfl rfl ?_
              refine V.goto (tgt := 65) C dX9_rowsFit_150 rfl ?_
              have hg2 : ∀ r1, r1 < i + 1 → cnd rules sizes m 82 vSee A D p True d r1 := by
                intro r1 hr1
                by_cases e9 : r1 = i
                · subst e9
                  exact fun _ z => absurd (z.mpr trivial) (by rw [e1, ii]; exact q97)
                · exact hg r1 (by omega)
              exact ih (i + 1) _ (by omega) hg2
            · exact absurd rfl hb118
          · exact absurd hb106 (by decide)
        · have q97 : i1 = p := (nI_eq (by omega) (by omega)).mp hb97
          refine V.iconst (q := 101) (v := nI 1) C dX9_rowsFit_100 rfl (by decide) ?_
          refine V.goto (tgt := 105) C dX9_rowsFit_101 rfl ?_
          refine V.iload_n (q := 106) C dX9_rowsFit_105 rfl rfl ?_
          refine V.icmp_ne (q := 109) (tgt := 113) C dX9_rowsFit_106 rfl rfl (fun hb106 => ?_) (fun hb106 => ?_)
          · exact absurd rfl hb106
          · refine V.iconst (q := 110) (v := nI 1) C dX9_rowsFit_109 rfl (by decide) ?_
            refine V.goto (tgt := 114) C dX9_rowsFit_110 rfl ?_
            refine V.istore (q := 116) C dX9_rowsFit_114 rfl (by decide) rfl rfl ?_
            refine V.iload (q := 118) C dX9_rowsFit_116 rfl rfl ?_
            refine V.if_eq (q := 121) (tgt := 147) C dX9_rowsFit_118 rfl rfl (fun hb118 => ?_) (fun hb118 => ?_)
            · exact absurd hb118 (by decide)
            · refine V.aload_n (q := 122) C dX9_rowsFit_121 rfl rfl ?_
              refine V.aload (q := 124) C dX9_rowsFit_122 rfl rfl ?_
              refine V.get (q := 127) C fl_X9_227 dX9_rowsFit_124 rfl (okC_13 (by omega) (by omega)) rfl rfl ?_
              refine V.iload (q := 129) C dX9_rowsFit_127 rfl rfl ?_
              refine V.ild (q := 130) (i := i) C dX9_rowsFit_129 rfl (okC_14 (by omega) (by omega)) rfl rfl hr8 (by omega) ?_
              refine V.topi (x1 := nI (i1)) (r1.trans e1) ?_
              refine V.iload_n (q := 131) C dX9_rowsFit_130 rfl rfl ?_
              refine V.callVi (q := 134) C me_X9_trialValue (c_tvs hb hT hi1 h6 q97) ml_X9_300 dX9_rowsFit_131 rfl okC_0 ⟨_, rfl⟩ rfl rfl (Nat.le_of_ble_eq_true rfl) (by omega) (Nat.zero_le _) (Nat.zero_le _) ?_
              refine V.aload (q := 136) C dX9_rowsFit_134 rfl rfl ?_
              refine V.get (q := 139) C fl_X9_236 dX9_rowsFit_136 rfl (okC_13 (by omega) (by omega)) rfl rfl ?_
              refine V.iload (q := 141) C dX9_rowsFit_139 rfl rfl ?_
              refine V.ild (q := 142) (i := i) C dX9_rowsFit_141 rfl (okC_16 (by omega) (by omega)) rfl rfl hr8 (by omega) ?_
              refine V.topi (x1 := A (82 + 1 + 3 * i + 2)) r3 ?_
              refine V.icmp_eq (q := 145) (tgt := 147) C dX9_rowsFit_142 rfl rfl (fun hb142 => ?_) (fun hb142 => ?_)
              · refine V.iinc (q := 150) (v := nI (i + 1)) C dX9_rowsFit_147 rfl rfl (nI_1 _) (by decide) rfl rfl ?_
                refine V.goto (tgt := 65) C dX9_rowsFit_150 rfl ?_
                have hg2 : ∀ r1, r1 < i + 1 → cnd rules sizes m 82 vSee A D p True d r1 := by
                  intro r1 hr1
                  by_cases e9 : r1 = i
                  · subst e9
                    exact fun _ _ => by rw [e1, ii]; exact hb142
                  · exact hg r1 (by omega)
                exact ih (i + 1) _ (by omega) hg2
              · refine V.iconst (q := 146) (v := nI 0) C dX9_rowsFit_145 rfl (by decide) ?_
                exact V.zreturn C dX9_rowsFit_146 rfl ⟨(cl, b, false), ⟨hbI, hhi, ⟨fun z => absurd z Bool.false_ne_true, fun z => absurd (by have h9 := z d hd i (by omega) hb85 ⟨fun _ => trivial, fun _ => by rw [e1, ii]; exact q97⟩; rw [e1, ii] at h9; exact h9) hb142⟩⟩, rfl, rfl, rfl⟩
theorem c_rfs1_d {l : Launch} {g : GG} {X : PHp} {h0 : HZ} {ct : CTt} {rd : RDt} {B : I2} {cy : Nat → Nat} {rw : RWt} {tl : TLt} {sp : SPt} {rules sizes A D : I1} {n m r q : Nat} {b0 : I1} {Γ : Cxt} (hS : SH ct rules sizes D n m r q) (hT : TR TT (B 0) A n m) {p c : Nat} (hp : p < n) (hLs : LsI A n 82 c) (hLd : LsD A 82 c) (hRw : RwR rw 0 A 82 c) {M : Nat} (hM : M ≤ 13) (hMd : ∀ i, i < c → ∃ d, d < M ∧ A (82 + 1 + 3 * i + 1) = nI d) (C : Cx Γ g cX9_rowsFit yX9_rowsFit 9 (some .boolean) 6 0 0) : ∀ (f d : Nat) (cl : I2) (b : I1) (u v9 : Option Value), d + f = M → TR (fun i => i = p) b (dsA rules sizes m (d - 1) D) n m → CI b n m → (∀ j, 54 ≤ j → j ≠ 80 → b j = b0 j) → (∀ e, e < d → ∀ r1, r1 < c → cnd rules sizes m 82 vSee A D p True e r1) → V l Γ g 9 (QM Γ g (xI (fun z : I2 × I1 × Bool => CI z.2.1 n m ∧ (∀ j, 54 ≤ j → j ≠ 80 → z.2.1 j = b0 j) ∧ (z.2.2 = true ↔ RF rules sizes m 82 c vSee A D p True)) (fun z => b2i (z.2.2 = true)) (fun z => (jn (hC g h0 ct z.1 rd (putR B 1 z.2.1) (va_up cy 1 q) rw tl sp) X))) 0 0) 0 0 NN (jn (hC g h0 ct cl rd (putR B 1 b) (va_up cy 1 q) rw tl sp) X) 33 [some (rf g (0, 0, 0)), some (.int (nI 1)), some (.int (nI p)), some (.int (nI 1)), some (rf g (13, 0, 0)), some (.int (vd M)), some (.int (nI d)), u, v9] [] := by
  have h6 := hS.1.2.1
  intro f
  induction f with
  | zero =>
    intro d cl b u v9 hd hb hbI hhi hg
    obtain rfl : d = M := by omega
    refine V.iload (q := 35) C dX9_rowsFit_33 rfl rfl ?_
    refine V.iload (q := 37) C dX9_rowsFit_35 rfl rfl ?_
    refine V.icmp_gt (q := 40) (tgt := 159) C dX9_rowsFit_37 rfl rfl (fun hb37 => ?_) (fun hb37 => ?_)
    · have hall : RF rules sizes m 82 c vSee A D p True := by
        intro e he r1 hr1
        by_cases q9 : e < d
        · exact hg e q9 r1 hr1
        · intro z _
          obtain ⟨d1, hd1, e1⟩ := hMd r1 hr1
          have := (nI_eq (by omega) (by omega)).mp (e1.symm.trans z)
          omega
      refine V.iconst (q := 160) (v := nI 1) C dX9_rowsFit_159 rfl (by decide) ?_
      exact V.zreturn C dX9_rowsFit_160 rfl ⟨(cl, b, true), ⟨hbI, hhi, ⟨fun _ => hall, fun _ => rfl⟩⟩, rfl, rfl, rfl⟩
    · exact absurd ((vd_lt hM hM).mpr (Nat.le_refl _)) hb37
  | succ f ih =>
    intro d cl b u v9 hd hb hbI hhi hg
    refine V.iload (q := 35) C dX9_rowsFit_33 rfl rfl ?_
    refine V.iload (q := 37) C dX9_rowsFit_35 rfl rfl ?_
    refine V.icmp_gt (q := 40) (tgt := 159) C dX9_rowsFit_37 rfl rfl (fun hb37 => ?_) (fun hb37 => ?_)
    · exact absurd ((vd_lt hM (by omega)).mp hb37) (by omega)
    · refine V.iload (q := 42) C dX9_rowsFit_40 rfl rfl ?_
      refine V.if_le (q := 45) (tgt := 62) C dX9_rowsFit_42 rfl rfl (fun hb42 => ?_) (fun hb42 => ?_)
      · have hd0 : d = 0 := by
          have h9 := (nI_leI (a := d) (b := 0) (by omega) (by omega)).mp hb42
          omega
        refine V.iconst (q := 63) (v := nI 0) C dX9_rowsFit_62 rfl (by decide) ?_
        refine V.istore (q := 65) C dX9_rowsFit_63 rfl (by decide) rfl rfl ?_
        have ed : d = 0 := by omega
        have hb0 : TR (fun i => i = p) b (dsA rules sizes m d D) n m := by rw [ed] at hb ⊢; exact hb
        refine c_rfs1_i (M := M) hS hT hp hLs hLd hRw (by omega) hb0 hbI hhi C (fun hgd u9 => ?_) c 0 _ (by omega) (fun r1 hr1 => absurd hr1 (Nat.not_lt_zero r1))
        refine V.iinc (q := 156) (v := nI (d + 1)) C dX9_rowsFit_153 rfl rfl (nI_1 _) (by decide) rfl rfl ?_
        refine V.goto (tgt := 33) C dX9_rowsFit_156 rfl ?_
        exact ih (d + 1) _ _ _ _ (by omega) (by rw [show d + 1 - 1 = d by omega]; exact hb0) hbI hhi (fun e he r1 hr1 => by
          by_cases q9 : e = d
          · subst q9; exact hgd r1 hr1
          · exact hg e (by omega) r1 hr1)
      · have hd0 : 0 < d := Nat.pos_of_ne_zero (fun z => hb42 (by rw [z]; decide))
        refine V.aload_n (q := 46) C dX9_rowsFit_45 rfl rfl ?_
        refine V.get (q := 49) C fl_X9_31 dX9_rowsFit_46 rfl okC_0 rfl rfl ?_
        refine V.iconst (q := 50) (v := nI 1) C dX9_rowsFit_49 rfl (by decide) ?_
        refine V.iload_n (q := 51) C dX9_rowsFit_50 rfl rfl ?_
        refine V.if_eq (q := 54) (tgt := 58) C dX9_rowsFit_51 rfl rfl (fun hb51 => ?_) (fun hb51 => ?_)
        · exact absurd hb51 (by decide)
        · refine V.iload_n (q := 55) C dX9_rowsFit_54 rfl rfl ?_
          refine V.goto (tgt := 59) C dX9_rowsFit_55 rfl ?_
          refine V.callVxv (q := 62) C me_X8_go (c_go1 (SH.ds (k := d - 1) hS) hb hbI (Who.one (by omega)) (by omega)) ml_X9_174 dX9_rowsFit_59 rfl (okC_6 (by omega)) ⟨_, rfl⟩ rfl rfl (Nat.le_of_ble_eq_true rfl) (by omega) (Nat.zero_le _) (Nat.zero_le _) (fun z2 hz2 => ?_)
          refine V.iconst (q := 63) (v := nI 0) C dX9_rowsFit_62 rfl (by decide) ?_
          refine V.istore (q := 65) C dX9_rowsFit_63 rfl (by decide) rfl rfl ?_
          have ed : dsA rules sizes m 1 (dsA rules sizes m (d - 1) D) = dsA rules sizes m d D := by
            obtain ⟨e9, rfl⟩ : ∃ e9, d = e9 + 1 := ⟨d - 1, by omega⟩
            rfl
          rw [ed] at hz2
          refine c_rfs1_i (M := M) hS hT hp hLs hLd hRw (by omega) hz2.1 hz2.2.1 (fun j h1 h2 => (hz2.2.2 j h1 h2).trans (hhi j h1 h2)) C (fun hgd u9 => ?_) c 0 _ (by omega) (fun r1 hr1 => absurd hr1 (Nat.not_lt_zero r1))
          refine V.iinc (q := 156) (v := nI (d + 1)) C dX9_rowsFit_153 rfl rfl (nI_1 _) (by decide) rfl rfl ?_
          refine V.goto (tgt := 33) C dX9_rowsFit_156 rfl ?_
          exact ih (d + 1) _ _ _ _ (by omega) (by rw [show d + 1 - 1 = d by omega]; exact hz2.1) hz2.2.1 (fun j h1 h2 => (hz2.2.2 j h1 h2).trans (hhi j h1 h2)) (fun e he r1 hr1 => by
            by_cases q9 : e = d
            · subst q9; exact hgd r1 hr1
            · exact hg e (by omega) r1 hr1)
theorem c_rfs1 {l : Launch} {g : GG} {X : PHp} {h0 : HZ} {ct : CTt} {cl : I2} {rd : RDt} {B : I2} {cy : Nat → Nat} {rw : RWt} {tl : TLt} {sp : SPt} {rules sizes A D : I1} {n m r q : Nat} (hS : SH ct rules sizes D n m r q) (hT : TR TT (B 0) A n m) {p c : Nat} (hp : p < n) (hLs : LsI A n 82 c) (hLd : LsD A 82 c) (hRw : RwR rw 0 A 82 c) {b0 : I1} (hb : TR (fun i => i = p) b0 D n m) (hbI : CI b0 n m) : Ct l g yX9_rowsFit cX9_rowsFit 9 (some .boolean) 6 0 0 [rf g (0, 0, 0), .int (nI 1), .int (nI p), .int (nI 1)] NN (jn (hC g h0 ct cl rd (putR B 1 b0) (va_up cy 1 q) rw tl sp) X) (xI (fun z : I2 × I1 × Bool => CI z.2.1 n m ∧ (∀ j, 54 ≤ j → j ≠ 80 → z.2.1 j = b0 j) ∧ (z.2.2 = true ↔ RF rules sizes m 82 c vSee A D p True)) (fun z => b2i (z.2.2 = true)) (fun z => (jn (hC g h0 ct z.1 rd (putR B 1 z.2.1) (va_up cy 1 q) rw tl sp) X))) := by
  refine Ct.of (lv := [some (rf g (0, 0, 0)), some (.int (nI 1)), some (.int (nI p)), some (.int (nI 1)), none, none, none, none, none]) (by decide +kernel) rfl (Nat.le_of_ble_eq_true rfl) ?_
  intro Γ C
  have h6 := hS.1.2.1
  have hc5 := hLs.2.1
  obtain ⟨M, hM, eM, hMd⟩ := la_c (f := rw.2.1 0 0) c (fun i hi => by obtain ⟨d, hd, e⟩ := hLd i hi; exact ⟨d, hd, (hRw.2 i hi).2.1.trans e⟩)
  refine V.iload_n (q := 1) C dX9_rowsFit_0 rfl rfl ?_
  refine V.if_eq (q := 4) (tgt := 14) C dX9_rowsFit_1 rfl rfl (fun hb1 => ?_) (fun hb1 => ?_)
  · exact absurd hb1 (by decide)
  · refine V.aload_n (q := 5) C dX9_rowsFit_4 rfl rfl ?_
    refine V.get (q := 8) C fl_X9_40 dX9_rowsFit_5 rfl okC_0 rfl rfl ?_
    refine V.get (q := 11) C fl_X9_191 dX9_rowsFit_8 rfl (okC_12 (by omega)) rfl rfl ?_
    refine V.goto (tgt := 21) C dX9_rowsFit_11 rfl ?_
    refine V.astore (q := 23) C dX9_rowsFit_21 rfl (by decide) rfl rfl ?_
    refine V.aload (q := 25) C dX9_rowsFit_23 rfl rfl ?_
    refine V.callVi (q := 28) C me_X3_lastDay (c_lastDay (by omega) (by omega) hRw.1 (by rw [rw5]; omega)) ml_X9_297 dX9_rowsFit_25 rfl (okC_13 (by omega) (by omega)) ⟨_, rfl⟩ rfl rfl (Nat.le_of_ble_eq_true rfl) (by omega) (Nat.zero_le _) (Nat.zero_le _) ?_
    refine V.topi (x1 := vd M) eM ?_
    refine V.istore (q := 30) C dX9_rowsFit_28 rfl (by decide) rfl rfl ?_
    refine V.iconst (q := 31) (v := nI 0) C dX9_rowsFit_30 rfl (by decide) ?_
    refine V.istore (q := 33) C dX9_rowsFit_31 rfl (by decide) rfl rfl ?_
    exact c_rfs1_d hS hT hp hLs hLd hRw hM (fun i hi => by obtain ⟨d, hd, e⟩ := hMd i hi; exact ⟨d, hd, ((hRw.2 i hi).2.1).symm.trans e⟩) C M 0 _ b0 _ _ (by omega) hb hbI (fun _ _ _ => rfl) (fun e he => absurd he (Nat.not_lt_zero e))
theorem c_rfs0_i {l : Launch} {g : GG} {X : PHp} {h0 : HZ} {ct : CTt} {cl : I2} {rd : RDt} {B : I2} {cy : Nat → Nat} {rw : RWt} {tl : TLt} {sp : SPt} {rules sizes A D : I1} {n m r q : Nat} {b0 b : I1} {Γ : Cxt} (hS : SH ct rules sizes D n m r q) (hT : TR TT (B 0) A n m) {p c : Nat} (hp : p < n) (hLs : LsI A n 82 c) (hLd : LsD A 82 c) (hRw : RwR rw 0 A 82 c) {M d : Nat} (hd : d < 13) (hb : TR TT b (dsA rules sizes m d D) n m) (hbI : CI b n m) (hhi : ∀ j, 54 ≤ j → j ≠ 80 → b j = b0 j) (C : Cx Γ g cX9_rowsFit yX9_rowsFit 9 (some .boolean) 6 0 0) (kx : (∀ r1, r1 < c → cnd rules sizes m 82 vSee A D p False d r1) → ∀ u : Option Value, V l Γ g 9 (QM Γ g (xI (fun z : I2 × I1 × Bool => CI z.2.1 n m ∧ (∀ j, 54 ≤ j → j ≠ 80 → z.2.1 j = b0 j) ∧ (z.2.2 = true ↔ RF rules sizes m 82 c vSee A D p False)) (fun z => b2i (z.2.2 = true)) (fun z => (jn (hC g h0 ct z.1 rd (putR B 1 z.2.1) (va_up cy 1 q) rw tl sp) X))) 0 0) 0 0 NN (jn (hC g h0 ct cl rd (putR B 1 b) (va_up cy 1 q) rw tl sp) X) 153 [some (rf g (0, 0, 0)), some (.int (nI 1)), some (.int (nI p)), some (.int (nI 0)), some (rf g (13, 0, 0)), some (.int (vd M)), some (.int (nI d)), some (.int (nI c)), u] []) : ∀ (f i : Nat) (u : Option Value), i + f = c → (∀ r1, r1 < i → cnd rules sizes m 82 vSee A D p False d r1) → V l Γ g 9 (QM Γ g (xI (fun z : I2 × I1 × Bool => CI z.2.1 n m ∧ (∀ j, 54 ≤ j → j ≠ 80 → z.2.1 j = b0 j) ∧ (z.2.2 = true ↔ RF rules sizes m 82 c vSee A D p False)) (fun z => b2i (z.2.2 = true)) (fun z => (jn (hC g h0 ct z.1 rd (putR B 1 z.2.1) (va_up cy 1 q) rw tl sp) X))) 0 0) 0 0 NN (jn (hC g h0 ct cl rd (putR B 1 b) (va_up cy 1 q) rw tl sp) X) 65 [some (rf g (0, 0, 0)), some (.int (nI 1)), some (.int (nI p)), some (.int (nI 0)), some (rf g (13, 0, 0)), some (.int (vd M)), some (.int (nI d)), some (.int (nI i)), u] [] := by
  have h6 := hS.1.2.1
  have hz := rwN_le 0
  have hc5 := hLs.2.1
  intro f
  induction f with
  | zero =>
    intro i u hi hg
    obtain rfl : i = c := by omega
    refine V.iload (q := 67) C dX9_rowsFit_65 rfl rfl ?_
    refine V.aload (q := 69) C dX9_rowsFit_67 rfl rfl ?_
    refine V.get (q := 72) C fl_X9_221 dX9_rowsFit_69 rfl (okC_13 (by omega) (by omega)) rfl rfl ?_
    refine V.topi (x1 := nI (i)) hRw.1 ?_
    refine V.icmp_ge (q := 75) (tgt := 153) C dX9_rowsFit_72 rfl rfl (fun hb72 => ?_) (fun hb72 => ?_)
    · exact kx hg u
    · exact absurd (Int32.le_refl _) hb72
  | succ f ih =>
    intro i u hi hg
    obtain ⟨r1, r2, r3⟩ := hRw.2 i (by omega)
    obtain ⟨i1, hi1, e1⟩ := hLs.2.2 i (by omega)
    have ii := ix_k (k := i1) (by omega)
    have hr8 : i < rwN 0 := by rw [rw5]; omega
    refine V.iload (q := 67) C dX9_rowsFit_65 rfl rfl ?_
    refine V.aload (q := 69) C dX9_rowsFit_67 rfl rfl ?_
    refine V.get (q := 72) C fl_X9_221 dX9_rowsFit_69 rfl (okC_13 (by omega) (by omega)) rfl rfl ?_
    refine V.topi (x1 := nI (c)) hRw.1 ?_
    refine V.icmp_ge (q := 75) (tgt := 153) C dX9_rowsFit_72 rfl rfl (fun hb72 => ?_) (fun hb72 => ?_)
    · exact absurd ((nI_leI (by omega) (by omega)).mp hb72) (by omega)
    · refine V.aload (q := 77) C dX9_rowsFit_75 rfl rfl ?_
      refine V.get (q := 80) C fl_X9_224 dX9_rowsFit_77 rfl (okC_13 (by omega) (by omega)) rfl rfl ?_
      refine V.iload (q := 82) C dX9_rowsFit_80 rfl rfl ?_
      refine V.ild (q := 83) (i := i) C dX9_rowsFit_82 rfl (okC_15 (by omega) (by omega)) rfl rfl hr8 (by omega) ?_
      refine V.topi (x1 := A (82 + 1 + 3 * i + 1)) r2 ?_
      refine V.iload (q := 85) C dX9_rowsFit_83 rfl rfl ?_
      refine V.icmp_ne (q := 88) (tgt := 113) C dX9_rowsFit_85 rfl rfl (fun hb85 => ?_) (fun hb85 => ?_)
      · refine V.iconst (q := 114) (v := nI 0) C dX9_rowsFit_113 rfl (by decide) ?_
        refine V.istore (q := 116) C dX9_rowsFit_114 rfl (by decide) rfl rfl ?_
        refine V.iload (q := 118) C dX9_rowsFit_116 rfl rfl ?_
        refine V.if_eq (q := 121) (tgt := 147) C dX9_rowsFit_118 rfl rfl (fun hb118 => ?_) (fun hb118 => ?_)
        · refine V.iinc (q := 150) (v := nI (i + 1)) C dX9_rowsFit_147 rfl rfl (nI_1 _) (by decide) rfl rfl ?_
          refine V.goto (tgt := 65) C dX9_rowsFit_150 rfl ?_
          have hg2 : ∀ r1, r1 < i + 1 → cnd rules sizes m 82 vSee A D p False d r1 := by
            intro r1 hr1
            by_cases e9 : r1 = i
            · subst e9
              exact fun z _ => absurd z hb85
            · exact hg r1 (by omega)
          exact ih (i + 1) _ (by omega) hg2
        · exact absurd rfl hb118
      · refine V.aload (q := 90) C dX9_rowsFit_88 rfl rfl ?_
        refine V.get (q := 93) C fl_X9_227 dX9_rowsFit_90 rfl (okC_13 (by omega) (by omega)) rfl rfl ?_
        refine V.iload (q := 95) C dX9_rowsFit_93 rfl rfl ?_
        refine V.ild (q := 96) (i := i) C dX9_rowsFit_95 rfl (okC_14 (by omega) (by omega)) rfl rfl hr8 (by omega) ?_
        refine V.topi (x1 := nI (i1)) (r1.trans e1) ?_
        refine V.iload_n (q := 97) C dX9_rowsFit_96 rfl rfl ?_
        refine V.icmp_ne (q := 100) (tgt := 104) C dX9_rowsFit_97 rfl rfl (fun hb97 => ?_) (fun hb97 => ?_)
        · have q97 : ¬ i1 = p := fun z => hb97 (congrArg nI z)
          refine V.iconst (q := 105) (v := nI 0) C dX9_rowsFit_104 rfl (by decide) ?_
          refine V.iload_n (q := 106) C dX9_rowsFit_105 rfl rfl ?_
          refine V.icmp_ne (q := 109) (tgt := 113) C dX9_rowsFit_106 rfl rfl (fun hb106 => ?_) (fun hb106 => ?_)
          · exact absurd rfl hb106
          · refine V.iconst (q := 110) (v := nI 1) C dX9_rowsFit_109 rfl (by decide) ?_
            refine V.goto (tgt := 114) C dX9_rowsFit_110 rfl ?_
            refine V.istore (q := 116) C dX9_rowsFit_114 rfl (by decide) rfl rfl ?_
            refine V.iload (q := 118) C dX9_rowsFit_116 rfl rfl ?_
            refine V.if_eq (q := 121) (tgt := 147) C dX9_rowsFit_118 rfl rfl (fun hb118 => ?_) (fun hb118 => ?_)
            · exact absurd hb118 (by decide)
            · refine V.aload_n (q := 122) C dX9_rowsFit_121 rfl rfl ?_
              refine V.aload (q := 124) C dX9_rowsFit_122 rfl rfl ?_
              refine V.get (q := 127) C fl_X9_227 dX9_rowsFit_124 rfl (okC_13 (by omega) (by omega)) rfl rfl ?_
              refine V.iload (q := 129) C dX9_rowsFit_127 rfl rfl ?_
              refine V.ild (q := 130) (i := i) C dX9_rowsFit_129 rfl (okC_14 (by omega) (by omega)) rfl rfl hr8 (by omega) ?_
              refine V.topi (x1 := nI (i1)) (r1.trans e1) ?_
              refine V.iload_n (q := 131) C dX9_rowsFit_130 rfl rfl ?_
              refine V.callVi (q := 134) C me_X9_trialValue (c_tvs hb hT hi1 h6 trivial) ml_X9_300 dX9_rowsFit_131 rfl okC_0 ⟨_, rfl⟩ rfl rfl (Nat.le_of_ble_eq_true rfl) (by omega) (Nat.zero_le _) (Nat.zero_le _) ?_
              refine V.aload (q := 136) C dX9_rowsFit_134 rfl rfl ?_
              refine V.get (q := 139) C fl_X9_236 dX9_rowsFit_136 rfl (okC_13 (by omega) (by omega)) rfl rfl ?_
              refine V.iload (q := 141) C dX9_rowsFit_139 rfl rfl ?_
              refine V.ild (q := 142) (i := i) C dX9_rowsFit_141 rfl (okC_16 (by omega) (by omega)) rfl rfl hr8 (by omega) ?_
              refine V.topi (x1 := A (82 + 1 + 3 * i + 2)) r3 ?_
              refine V.icmp_eq (q := 145) (tgt := 147) C dX9_rowsFit_142 rfl rfl (fun hb142 => ?_) (fun hb142 => ?_)
              · refine V.iinc (q := 150) (v := nI (i + 1)) C dX9_rowsFit_147 rfl rfl (nI_1 _) (by decide) rfl rfl ?_
                refine V.goto (tgt := 65) C dX9_rowsFit_150 rfl ?_
                have hg2 : ∀ r1, r1 < i + 1 → cnd rules sizes m 82 vSee A D p False d r1 := by
                  intro r1 hr1
                  by_cases e9 : r1 = i
                  · subst e9
                    exact fun _ _ => by rw [e1, ii]; exact hb142
                  · exact hg r1 (by omega)
                exact ih (i + 1) _ (by omega) hg2
              · refine V.iconst (q := 146) (v := nI 0) C dX9_rowsFit_145 rfl (by decide) ?_
                exact V.zreturn C dX9_rowsFit_146 rfl ⟨(cl, b, false), ⟨hbI, hhi, ⟨fun z => absurd z Bool.false_ne_true, fun z => absurd (by have h9 := z d hd i (by omega) hb85 ⟨fun z => q97 (by rw [e1, ii] at z; exact z), fun z => absurd z id⟩; rw [e1, ii] at h9; exact h9) hb142⟩⟩, rfl, rfl, rfl⟩
        · have q97 : i1 = p := (nI_eq (by omega) (by omega)).mp hb97
          refine V.iconst (q := 101) (v := nI 1) C dX9_rowsFit_100 rfl (by decide) ?_
          refine V.goto (tgt := 105) C dX9_rowsFit_101 rfl ?_
          refine V.iload_n (q := 106) C dX9_rowsFit_105 rfl rfl ?_
          refine V.icmp_ne (q := 109) (tgt := 113) C dX9_rowsFit_106 rfl rfl (fun hb106 => ?_) (fun hb106 => ?_)
          · refine V.iconst (q := 114) (v := nI 0) C dX9_rowsFit_113 rfl (by decide) ?_
            refine V.istore (q := 116) C dX9_rowsFit_114 rfl (by decide) rfl rfl ?_
            refine V.iload (q := 118) C dX9_rowsFit_116 rfl rfl ?_
            refine V.if_eq (q := 121) (tgt := 147) C dX9_rowsFit_118 rfl rfl (fun hb118 => ?_) (fun hb118 => ?_)
            · refine V.iinc (q := 150) (v := nI (i + 1)) C dX9_rowsFit_147 rfl rfl (nI_1 _) (by decide) rfl rfl ?_
              refine V.goto (tgt := 65) C dX9_rowsFit_150 rfl ?_
              have hg2 : ∀ r1, r1 < i + 1 → cnd rules sizes m 82 vSee A D p False d r1 := by
                intro r1 hr1
                by_cases e9 : r1 = i
                · subst e9
                  exact fun _ z => absurd (by rw [e1, ii]; exact q97) (fun y => z.mp y)
                · exact hg r1 (by omega)
              exact ih (i + 1) _ (by omega) hg2
            · exact absurd rfl hb118
          · exact absurd hb106 (by decide)
theorem c_rfs0_d {l : Launch} {g : GG} {X : PHp} {h0 : HZ} {ct : CTt} {rd : RDt} {B : I2} {cy : Nat → Nat} {rw : RWt} {tl : TLt} {sp : SPt} {rules sizes A D : I1} {n m r q : Nat} {b0 : I1} {Γ : Cxt} (hS : SH ct rules sizes D n m r q) (hT : TR TT (B 0) A n m) {p c : Nat} (hp : p < n) (hLs : LsI A n 82 c) (hLd : LsD A 82 c) (hRw : RwR rw 0 A 82 c) {M : Nat} (hM : M ≤ 13) (hMd : ∀ i, i < c → ∃ d, d < M ∧ A (82 + 1 + 3 * i + 1) = nI d) (C : Cx Γ g cX9_rowsFit yX9_rowsFit 9 (some .boolean) 6 0 0) : ∀ (f d : Nat) (cl : I2) (b : I1) (u v9 : Option Value), d + f = M → TR TT b (dsA rules sizes m (d - 1) D) n m → CI b n m → (∀ j, 54 ≤ j → j ≠ 80 → b j = b0 j) → (∀ e, e < d → ∀ r1, r1 < c → cnd rules sizes m 82 vSee A D p False e r1) → V l Γ g 9 (QM Γ g (xI (fun z : I2 × I1 × Bool => CI z.2.1 n m ∧ (∀ j, 54 ≤ j → j ≠ 80 → z.2.1 j = b0 j) ∧ (z.2.2 = true ↔ RF rules sizes m 82 c vSee A D p False)) (fun z => b2i (z.2.2 = true)) (fun z => (jn (hC g h0 ct z.1 rd (putR B 1 z.2.1) (va_up cy 1 q) rw tl sp) X))) 0 0) 0 0 NN (jn (hC g h0 ct cl rd (putR B 1 b) (va_up cy 1 q) rw tl sp) X) 33 [some (rf g (0, 0, 0)), some (.int (nI 1)), some (.int (nI p)), some (.int (nI 0)), some (rf g (13, 0, 0)), some (.int (vd M)), some (.int (nI d)), u, v9] [] := by
  have h6 := hS.1.2.1
  intro f
  induction f with
  | zero =>
    intro d cl b u v9 hd hb hbI hhi hg
    obtain rfl : d = M := by omega
    refine V.iload (q := 35) C dX9_rowsFit_33 rfl rfl ?_
    refine V.iload (q := 37) C dX9_rowsFit_35 rfl rfl ?_
    refine V.icmp_gt (q := 40) (tgt := 159) C dX9_rowsFit_37 rfl rfl (fun hb37 => ?_) (fun hb37 => ?_)
    · have hall : RF rules sizes m 82 c vSee A D p False := by
        intro e he r1 hr1
        by_cases q9 : e < d
        · exact hg e q9 r1 hr1
        · intro z _
          obtain ⟨d1, hd1, e1⟩ := hMd r1 hr1
          have := (nI_eq (by omega) (by omega)).mp (e1.symm.trans z)
          omega
      refine V.iconst (q := 160) (v := nI 1) C dX9_rowsFit_159 rfl (by decide) ?_
      exact V.zreturn C dX9_rowsFit_160 rfl ⟨(cl, b, true), ⟨hbI, hhi, ⟨fun _ => hall, fun _ => rfl⟩⟩, rfl, rfl, rfl⟩
    · exact absurd ((vd_lt hM hM).mpr (Nat.le_refl _)) hb37
  | succ f ih =>
    intro d cl b u v9 hd hb hbI hhi hg
    refine V.iload (q := 35) C dX9_rowsFit_33 rfl rfl ?_
    refine V.iload (q := 37) C dX9_rowsFit_35 rfl rfl ?_
    refine V.icmp_gt (q := 40) (tgt := 159) C dX9_rowsFit_37 rfl rfl (fun hb37 => ?_) (fun hb37 => ?_)
    · exact absurd ((vd_lt hM (by omega)).mp hb37) (by omega)
    · refine V.iload (q := 42) C dX9_rowsFit_40 rfl rfl ?_
      refine V.if_le (q := 45) (tgt := 62) C dX9_rowsFit_42 rfl rfl (fun hb42 => ?_) (fun hb42 => ?_)
      · have hd0 : d = 0 := by
          have h9 := (nI_leI (a := d) (b := 0) (by omega) (by omega)).mp hb42
          omega
        refine V.iconst (q := 63) (v := nI 0) C dX9_rowsFit_62 rfl (by decide) ?_
        refine V.istore (q := 65) C dX9_rowsFit_63 rfl (by decide) rfl rfl ?_
        have ed : d = 0 := by omega
        have hb0 : TR TT b (dsA rules sizes m d D) n m := by rw [ed] at hb ⊢; exact hb
        refine c_rfs0_i (M := M) hS hT hp hLs hLd hRw (by omega) hb0 hbI hhi C (fun hgd u9 => ?_) c 0 _ (by omega) (fun r1 hr1 => absurd hr1 (Nat.not_lt_zero r1))
        refine V.iinc (q := 156) (v := nI (d + 1)) C dX9_rowsFit_153 rfl rfl (nI_1 _) (by decide) rfl rfl ?_
        refine V.goto (tgt := 33) C dX9_rowsFit_156 rfl ?_
        exact ih (d + 1) _ _ _ _ (by omega) (by rw [show d + 1 - 1 = d by omega]; exact hb0) hbI hhi (fun e he r1 hr1 => by
          by_cases q9 : e = d
          · subst q9; exact hgd r1 hr1
          · exact hg e (by omega) r1 hr1)
      · have hd0 : 0 < d := Nat.pos_of_ne_zero (fun z => hb42 (by rw [z]; decide))
        refine V.aload_n (q := 46) C dX9_rowsFit_45 rfl rfl ?_
        refine V.get (q := 49) C fl_X9_31 dX9_rowsFit_46 rfl okC_0 rfl rfl ?_
        refine V.iconst (q := 50) (v := nI 1) C dX9_rowsFit_49 rfl (by decide) ?_
        refine V.iload_n (q := 51) C dX9_rowsFit_50 rfl rfl ?_
        refine V.if_eq (q := 54) (tgt := 58) C dX9_rowsFit_51 rfl rfl (fun hb51 => ?_) (fun hb51 => ?_)
        · refine V.iconst (q := 59) (v := -1) C dX9_rowsFit_58 rfl (by decide) ?_
          refine V.callVxv (q := 62) C me_X8_go (c_go1 (SH.ds (k := d - 1) hS) hb hbI (Who.all (fun _ => trivial)) (by omega)) ml_X9_174 dX9_rowsFit_59 rfl (okC_6 (by omega)) ⟨_, rfl⟩ rfl rfl (Nat.le_of_ble_eq_true rfl) (by omega) (Nat.zero_le _) (Nat.zero_le _) (fun z2 hz2 => ?_)
          refine V.iconst (q := 63) (v := nI 0) C dX9_rowsFit_62 rfl (by decide) ?_
          refine V.istore (q := 65) C dX9_rowsFit_63 rfl (by decide) rfl rfl ?_
          have ed : dsA rules sizes m 1 (dsA rules sizes m (d - 1) D) = dsA rules sizes m d D := by
            obtain ⟨e9, rfl⟩ : ∃ e9, d = e9 + 1 := ⟨d - 1, by omega⟩
            rfl
          rw [ed] at hz2
          refine c_rfs0_i (M := M) hS hT hp hLs hLd hRw (by omega) hz2.1 hz2.2.1 (fun j h1 h2 => (hz2.2.2 j h1 h2).trans (hhi j h1 h2)) C (fun hgd u9 => ?_) c 0 _ (by omega) (fun r1 hr1 => absurd hr1 (Nat.not_lt_zero r1))
          refine V.iinc (q := 156) (v := nI (d + 1)) C dX9_rowsFit_153 rfl rfl (nI_1 _) (by decide) rfl rfl ?_
          refine V.goto (tgt := 33) C dX9_rowsFit_156 rfl ?_
          exact ih (d + 1) _ _ _ _ (by omega) (by rw [show d + 1 - 1 = d by omega]; exact hz2.1) hz2.2.1 (fun j h1 h2 => (hz2.2.2 j h1 h2).trans (hhi j h1 h2)) (fun e he r1 hr1 => by
            by_cases q9 : e = d
            · subst q9; exact hgd r1 hr1
            · exact hg e (by omega) r1 hr1)
        · exact absurd rfl hb51
theorem c_rfs0 {l : Launch} {g : GG} {X : PHp} {h0 : HZ} {ct : CTt} {cl : I2} {rd : RDt} {B : I2} {cy : Nat → Nat} {rw : RWt} {tl : TLt} {sp : SPt} {rules sizes A D : I1} {n m r q : Nat} (hS : SH ct rules sizes D n m r q) (hT : TR TT (B 0) A n m) {p c : Nat} (hp : p < n) (hLs : LsI A n 82 c) (hLd : LsD A 82 c) (hRw : RwR rw 0 A 82 c) {b0 : I1} (hb : TR TT b0 D n m) (hbI : CI b0 n m) : Ct l g yX9_rowsFit cX9_rowsFit 9 (some .boolean) 6 0 0 [rf g (0, 0, 0), .int (nI 1), .int (nI p), .int (nI 0)] NN (jn (hC g h0 ct cl rd (putR B 1 b0) (va_up cy 1 q) rw tl sp) X) (xI (fun z : I2 × I1 × Bool => CI z.2.1 n m ∧ (∀ j, 54 ≤ j → j ≠ 80 → z.2.1 j = b0 j) ∧ (z.2.2 = true ↔ RF rules sizes m 82 c vSee A D p False)) (fun z => b2i (z.2.2 = true)) (fun z => (jn (hC g h0 ct z.1 rd (putR B 1 z.2.1) (va_up cy 1 q) rw tl sp) X))) := by
  refine Ct.of (lv := [some (rf g (0, 0, 0)), some (.int (nI 1)), some (.int (nI p)), some (.int (nI 0)), none, none, none, none, none]) (by decide +kernel) rfl (Nat.le_of_ble_eq_true rfl) ?_
  intro Γ C
  have h6 := hS.1.2.1
  have hc5 := hLs.2.1
  obtain ⟨M, hM, eM, hMd⟩ := la_c (f := rw.2.1 0 0) c (fun i hi => by obtain ⟨d, hd, e⟩ := hLd i hi; exact ⟨d, hd, (hRw.2 i hi).2.1.trans e⟩)
  refine V.iload_n (q := 1) C dX9_rowsFit_0 rfl rfl ?_
  refine V.if_eq (q := 4) (tgt := 14) C dX9_rowsFit_1 rfl rfl (fun hb1 => ?_) (fun hb1 => ?_)
  · exact absurd hb1 (by decide)
  · refine V.aload_n (q := 5) C dX9_rowsFit_4 rfl rfl ?_
    refine V.get (q := 8) C fl_X9_40 dX9_rowsFit_5 rfl okC_0 rfl rfl ?_
    refine V.get (q := 11) C fl_X9_191 dX9_rowsFit_8 rfl (okC_12 (by omega)) rfl rfl ?_
    refine V.goto (tgt := 21) C dX9_rowsFit_11 rfl ?_
    refine V.astore (q := 23) C dX9_rowsFit_21 rfl (by decide) rfl rfl ?_
    refine V.aload (q := 25) C dX9_rowsFit_23 rfl rfl ?_
    refine V.callVi (q := 28) C me_X3_lastDay (c_lastDay (by omega) (by omega) hRw.1 (by rw [rw5]; omega)) ml_X9_297 dX9_rowsFit_25 rfl (okC_13 (by omega) (by omega)) ⟨_, rfl⟩ rfl rfl (Nat.le_of_ble_eq_true rfl) (by omega) (Nat.zero_le _) (Nat.zero_le _) ?_
    refine V.topi (x1 := vd M) eM ?_
    refine V.istore (q := 30) C dX9_rowsFit_28 rfl (by decide) rfl rfl ?_
    refine V.iconst (q := 31) (v := nI 0) C dX9_rowsFit_30 rfl (by decide) ?_
    refine V.istore (q := 33) C dX9_rowsFit_31 rfl (by decide) rfl rfl ?_
    exact c_rfs0_d hS hT hp hLs hLd hRw hM (fun i hi => by obtain ⟨d, hd, e⟩ := hMd i hi; exact ⟨d, hd, ((hRw.2 i hi).2.1).symm.trans e⟩) C M 0 _ b0 _ _ (by omega) hb hbI (fun _ _ _ => rfl) (fun e he => absurd he (Nat.not_lt_zero e))
theorem c_tva {l : Launch} {g : GG} {X : PHp} {h0 : HZ} {ct : CTt} {cl : I2} {rd : RDt} {B : I2} {cy : Nat → Nat} {rw : RWt} {tl : TLt} {sp : SPt} {P : Nat → Prop} {b D A : I1} {n m p c0 : Nat} (hb : TR P b D n m) (hT : TR TT (B 0) A n m) (hp : p < n) (h6 : n ≤ 6) (hP : P p) : Ct l g yX9_trialValue cX9_trialValue 3 (some .int) 2 0 0 [rf g (0, 0, 0), .int (nI p), .int (nI 0)] NN (jn (hC g h0 ct cl rd (putR B 1 b) (va_up cy 1 c0) rw tl sp) X) (pI (vAche A D p) (jn (hC g h0 ct cl rd (putR B 1 b) (va_up cy 1 c0) rw tl sp) X)) := by
  refine Ct.of (lv := [some (rf g (0, 0, 0)), some (.int (nI p)), some (.int (nI 0))]) (by decide +kernel) rfl (Nat.le_of_ble_eq_true rfl) ?_
  intro Γ C
  refine V.iload_n (q := 1) C dX9_trialValue_0 rfl rfl ?_
  refine V.if_eq (q := 4) (tgt := 19) C dX9_trialValue_1 rfl rfl (fun hb1 => ?_) (fun hb1 => ?_)
  · refine V.aload_n (q := 20) C dX9_trialValue_19 rfl rfl ?_
    refine V.iload_n (q := 21) C dX9_trialValue_20 rfl rfl ?_
    refine V.callVi (q := 24) C me_X9_isMoreHurt (c_more hb hT hp h6 hP) ml_X9_211 dX9_trialValue_21 rfl okC_0 ⟨_, rfl⟩ rfl rfl (Nat.le_of_ble_eq_true rfl) (by omega) (Nat.zero_le _) (Nat.zero_le _) ?_
    refine V.if_eqB (q := 27) (tgt := 31) C dX9_trialValue_24 rfl rfl (fun hb24 => ?_) (fun hb24 => ?_)
    · have h9 := Decidable.not_not.mp hb24
      refine V.iconst (q := 32) (v := nI 0) C dX9_trialValue_31 rfl (by decide) ?_
      exact V.ireturn C dX9_trialValue_32 ⟨by rw [vAche, if_pos h9], rfl, rfl⟩
    · have h9 := hb24
      refine V.iconst (q := 28) (v := nI 1) C dX9_trialValue_27 rfl (by decide) ?_
      refine V.goto (tgt := 32) C dX9_trialValue_28 rfl ?_
      exact V.ireturn C dX9_trialValue_32 ⟨by rw [vAche, if_neg h9], rfl, rfl⟩
  · exact absurd rfl hb1
theorem c_rfa1_i {l : Launch} {g : GG} {X : PHp} {h0 : HZ} {ct : CTt} {cl : I2} {rd : RDt} {B : I2} {cy : Nat → Nat} {rw : RWt} {tl : TLt} {sp : SPt} {rules sizes A D : I1} {n m r q : Nat} {b0 b : I1} {Γ : Cxt} (hS : SH ct rules sizes D n m r q) (hT : TR TT (B 0) A n m) {p c : Nat} (hp : p < n) (hLs : LsI A n 98 c) (hLd : LsD A 98 c) (hRw : RwR rw 1 A 98 c) {M d : Nat} (hd : d < 13) (hb : TR (fun i => i = p) b (dsA rules sizes m d D) n m) (hbI : CI b n m) (hhi : ∀ j, 54 ≤ j → j ≠ 80 → b j = b0 j) (C : Cx Γ g cX9_rowsFit yX9_rowsFit 9 (some .boolean) 6 0 0) (kx : (∀ r1, r1 < c → cnd rules sizes m 98 vAche A D p True d r1) → ∀ u : Option Value, V l Γ g 9 (QM Γ g (xI (fun z : I2 × I1 × Bool => CI z.2.1 n m ∧ (∀ j, 54 ≤ j → j ≠ 80 → z.2.1 j = b0 j) ∧ (z.2.2 = true ↔ RF rules sizes m 98 c vAche A D p True)) (fun z => b2i (z.2.2 = true)) (fun z => (jn (hC g h0 ct z.1 rd (putR B 1 z.2.1) (va_up cy 1 q) rw tl sp) X))) 0 0) 0 0 NN (jn (hC g h0 ct cl rd (putR B 1 b) (va_up cy 1 q) rw tl sp) X) 153 [some (rf g (0, 0, 0)), some (.int (nI 0)), some (.int (nI p)), some (.int (nI 1)), some (rf g (13, 0, 1)), some (.int (vd M)), some (.int (nI d)), some (.int (nI c)), u] []) : ∀ (f i : Nat) (u : Option Value), i + f = c → (∀ r1, r1 < i → cnd rules sizes m 98 vAche A D p True d r1) → V l Γ g 9 (QM Γ g (xI (fun z : I2 × I1 × Bool => CI z.2.1 n m ∧ (∀ j, 54 ≤ j → j ≠ 80 → z.2.1 j = b0 j) ∧ (z.2.2 = true ↔ RF rules sizes m 98 c vAche A D p True)) (fun z => b2i (z.2.2 = true)) (fun z => (jn (hC g h0 ct z.1 rd (putR B 1 z.2.1) (va_up cy 1 q) rw tl sp) X))) 0 0) 0 0 NN (jn (hC g h0 ct cl rd (putR B 1 b) (va_up cy 1 q) rw tl sp) X) 65 [some (rf g (0, 0, 0)), some (.int (nI 0)), some (.int (nI p)), some (.int (nI 1)), some (rf g (13, 0, 1)), some (.int (vd M)), some (.int (nI d)), some (.int (nI i)), u] [] := by
  have h6 := hS.1.2.1
  have hz := rwN_le 1
  have hc5 := hLs.2.1
  intro f
  induction f with
  | zero =>
    intro i u hi hg
    obtain rfl : i = c := by omega
    refine V.iload (q := 67) C dX9_rowsFit_65 rfl rfl ?_
    refine V.aload (q := 69) C dX9_rowsFit_67 rfl rfl ?_
    refine V.get (q := 72) C fl_X9_221 dX9_rowsFit_69 rfl (okC_13 (by omega) (by omega)) rfl rfl ?_
    refine V.topi (x1 := nI (i)) hRw.1 ?_
    refine V.icmp_ge (q := 75) (tgt := 153) C dX9_rowsFit_72 rfl rfl (fun hb72 => ?_) (fun hb72 => ?_)
    · exact kx hg u
    · exact absurd (Int32.le_refl _) hb72
  | succ f ih =>
    intro i u hi hg
    obtain ⟨r1, r2, r3⟩ := hRw.2 i (by omega)
    obtain ⟨i1, hi1, e1⟩ := hLs.2.2 i (by omega)
    have ii := ix_k (k := i1) (by omega)
    have hr8 : i < rwN 1 := by rw [rw5']; omega
    refine V.iload (q := 67) C dX9_rowsFit_65 rfl rfl ?_
    refine V.aload (q := 69) C dX9_rowsFit_67 rfl rfl ?_
    refine V.get (q := 72) C fl_X9_221 dX9_rowsFit_69 rfl (okC_13 (by omega) (by omega)) rfl rfl ?_
    refine V.topi (x1 := nI (c)) hRw.1 ?_
    refine V.icmp_ge (q := 75) (tgt := 153) C dX9_rowsFit_72 rfl rfl (fun hb72 => ?_) (fun hb72 => ?_)
    · exact absurd ((nI_leI (by omega) (by omega)).mp hb72) (by omega)
    · refine V.aload (q := 77) C dX9_rowsFit_75 rfl rfl ?_
      refine V.get (q := 80) C fl_X9_224 dX9_rowsFit_77 rfl (okC_13 (by omega) (by omega)) rfl rfl ?_
      refine V.iload (q := 82) C dX9_rowsFit_80 rfl rfl ?_
      refine V.ild (q := 83) (i := i) C dX9_rowsFit_82 rfl (okC_15 (by omega) (by omega)) rfl rfl hr8 (by omega) ?_
      refine V.topi (x1 := A (98 + 1 + 3 * i + 1)) r2 ?_
      refine V.iload (q := 85) C dX9_rowsFit_83 rfl rfl ?_
      refine V.icmp_ne (q := 88) (tgt := 113) C dX9_rowsFit_85 rfl rfl (fun hb85 => ?_) (fun hb85 => ?_)
      · refine V.iconst (q := 114) (v := nI 0) C dX9_rowsFit_113 rfl (by decide) ?_
        refine V.istore (q := 116) C dX9_rowsFit_114 rfl (by decide) rfl rfl ?_
        refine V.iload (q := 118) C dX9_rowsFit_116 rfl rfl ?_
        refine V.if_eq (q := 121) (tgt := 147) C dX9_rowsFit_118 rfl rfl (fun hb118 => ?_) (fun hb118 => ?_)
        · refine V.iinc (q := 150) (v := nI (i + 1)) C dX9_rowsFit_147 rfl rfl (nI_1 _) (by decide) rfl rfl ?_
          refine V.goto (tgt := 65) C dX9_rowsFit_150 rfl ?_
          have hg2 : ∀ r1, r1 < i + 1 → cnd rules sizes m 98 vAche A D p True d r1 := by
            intro r1 hr1
            by_cases e9 : r1 = i
            · subst e9
              exact fun z _ => absurd z hb85
            · exact hg r1 (by omega)
          exact ih (i + 1) _ (by omega) hg2
        · exact absurd rfl hb118
      · refine V.aload (q := 90) C dX9_rowsFit_88 rfl rfl ?_
        refine V.get (q := 93) C fl_X9_227 dX9_rowsFit_90 rfl (okC_13 (by omega) (by omega)) rfl rfl ?_
        refine V.iload (q := 95) C dX9_rowsFit_93 rfl rfl ?_
        refine V.ild (q := 96) (i := i) C dX9_rowsFit_95 rfl (okC_14 (by omega) (by omega)) rfl rfl hr8 (by omega) ?_
        refine V.topi (x1 := nI (i1)) (r1.trans e1) ?_
        refine V.iload_n (q := 97) C dX9_rowsFit_96 rfl rfl ?_
        refine V.icmp_ne (q := 100) (tgt := 104) C dX9_rowsFit_97 rfl rfl (fun hb97 => ?_) (fun hb97 => ?_)
        · have q97 : ¬ i1 = p := fun z => hb97 (congrArg nI z)
          refine V.iconst (q := 105) (v := nI 0) C dX9_rowsFit_104 rfl (by decide) ?_
          refine V.iload_n (q := 106) C dX9_rowsFit_105 rfl rfl ?_
          refine V.icmp_ne (q := 109) (tgt := 113) C dX9_rowsFit_106 rfl rfl (fun hb106 => ?_) (fun hb106 => ?_)
          · refine V.iconst (q := 114) (v := nI 0) C dX9_rowsFit_113 rfl (by decide) ?_
            refine V.istore (q := 116) C dX9_rowsFit_114 rfl (by decide) rfl rfl ?_
            refine V.iload (q := 118) C dX9_rowsFit_116 rfl rfl ?_
            refine V.if_eq (q := 121) (tgt := 147) C dX9_rowsFit_118 rfl rfl (fun hb118 => ?_) (fun hb118 => ?_)
            · refine V.iinc (q := 150) (v := nI (i + 1)) C dX9_rowsFit_147 rfl rfl (nI_1 _) (by decide) rfl rfl ?_
              refine V.goto (tgt := 65) C dX9_rowsFit_150 rfl ?_
              have hg2 : ∀ r1, r1 < i + 1 → cnd rules sizes m 98 vAche A D p True d r1 := by
                intro r1 hr1
                by_cases e9 : r1 = i
                · subst e9
                  exact fun _ z => absurd (z.mpr trivial) (by rw [e1, ii]; exact q97)
                · exact hg r1 (by omega)
              exact ih (i + 1) _ (by omega) hg2
            · exact absurd rfl hb118
          · exact absurd hb106 (by decide)
        · have q97 : i1 = p := (nI_eq (by omega) (by omega)).mp hb97
          refine V.iconst (q := 101) (v := nI 1) C dX9_rowsFit_100 rfl (by decide) ?_
          refine V.goto (tgt := 105) C dX9_rowsFit_101 rfl ?_
          refine V.iload_n (q := 106) C dX9_rowsFit_105 rfl rfl ?_
          refine V.icmp_ne (q := 109) (tgt := 113) C dX9_rowsFit_106 rfl rfl (fun hb106 => ?_) (fun hb106 => ?_)
          · exact absurd rfl hb106
          · refine V.iconst (q := 110) (v := nI 1) C dX9_rowsFit_109 rfl (by decide) ?_
            refine V.goto (tgt := 114) C dX9_rowsFit_110 rfl ?_
            refine V.istore (q := 116) C dX9_rowsFit_114 rfl (by decide) rfl rfl ?_
            refine V.iload (q := 118) C dX9_rowsFit_116 rfl rfl ?_
            refine V.if_eq (q := 121) (tgt := 147) C dX9_rowsFit_118 rfl rfl (fun hb118 => ?_) (fun hb118 => ?_)
            · exact absurd hb118 (by decide)
            · refine V.aload_n (q := 122) C dX9_rowsFit_121 rfl rfl ?_
              refine V.aload (q := 124) C dX9_rowsFit_122 rfl rfl ?_
              refine V.get (q := 127) C fl_X9_227 dX9_rowsFit_124 rfl (okC_13 (by omega) (by omega)) rfl rfl ?_
              refine V.iload (q := 129) C dX9_rowsFit_127 rfl rfl ?_
              refine V.ild (q := 130) (i := i) C dX9_rowsFit_129 rfl (okC_14 (by omega) (by omega)) rfl rfl hr8 (by omega) ?_
              refine V.topi (x1 := nI (i1)) (r1.trans e1) ?_
              refine V.iload_n (q := 131) C dX9_rowsFit_130 rfl rfl ?_
              refine V.callVi (q := 134) C me_X9_trialValue (c_tva hb hT hi1 h6 q97) ml_X9_300 dX9_rowsFit_131 rfl okC_0 ⟨_, rfl⟩ rfl rfl (Nat.le_of_ble_eq_true rfl) (by omega) (Nat.zero_le _) (Nat.zero_le _) ?_
              refine V.aload (q := 136) C dX9_rowsFit_134 rfl rfl ?_
              refine V.get (q := 139) C fl_X9_236 dX9_rowsFit_136 rfl (okC_13 (by omega) (by omega)) rfl rfl ?_
              refine V.iload (q := 141) C dX9_rowsFit_139 rfl rfl ?_
              refine V.ild (q := 142) (i := i) C dX9_rowsFit_141 rfl (okC_16 (by omega) (by omega)) rfl rfl hr8 (by omega) ?_
              refine V.topi (x1 := A (98 + 1 + 3 * i + 2)) r3 ?_
              refine V.icmp_eq (q := 145) (tgt := 147) C dX9_rowsFit_142 rfl rfl (fun hb142 => ?_) (fun hb142 => ?_)
              · refine V.iinc (q := 150) (v := nI (i + 1)) C dX9_rowsFit_147 rfl rfl (nI_1 _) (by decide) rfl rfl ?_
                refine V.goto (tgt := 65) C dX9_rowsFit_150 rfl ?_
                have hg2 : ∀ r1, r1 < i + 1 → cnd rules sizes m 98 vAche A D p True d r1 := by
                  intro r1 hr1
                  by_cases e9 : r1 = i
                  · subst e9
                    exact fun _ _ => by rw [e1, ii]; exact hb142
                  · exact hg r1 (by omega)
                exact ih (i + 1) _ (by omega) hg2
              · refine V.iconst (q := 146) (v := nI 0) C dX9_rowsFit_145 rfl (by decide) ?_
                exact V.zreturn C dX9_rowsFit_146 rfl ⟨(cl, b, false), ⟨hbI, hhi, ⟨fun z => absurd z Bool.false_ne_true, fun z => absurd (by have h9 := z d hd i (by omega) hb85 ⟨fun _ => trivial, fun _ => by rw [e1, ii]; exact q97⟩; rw [e1, ii] at h9; exact h9) hb142⟩⟩, rfl, rfl, rfl⟩
theorem c_rfa1_d {l : Launch} {g : GG} {X : PHp} {h0 : HZ} {ct : CTt} {rd : RDt} {B : I2} {cy : Nat → Nat} {rw : RWt} {tl : TLt} {sp : SPt} {rules sizes A D : I1} {n m r q : Nat} {b0 : I1} {Γ : Cxt} (hS : SH ct rules sizes D n m r q) (hT : TR TT (B 0) A n m) {p c : Nat} (hp : p < n) (hLs : LsI A n 98 c) (hLd : LsD A 98 c) (hRw : RwR rw 1 A 98 c) {M : Nat} (hM : M ≤ 13) (hMd : ∀ i, i < c → ∃ d, d < M ∧ A (98 + 1 + 3 * i + 1) = nI d) (C : Cx Γ g cX9_rowsFit yX9_rowsFit 9 (some .boolean) 6 0 0) : ∀ (f d : Nat) (cl : I2) (b : I1) (u v9 : Option Value), d + f = M → TR (fun i => i = p) b (dsA rules sizes m (d - 1) D) n m → CI b n m → (∀ j, 54 ≤ j → j ≠ 80 → b j = b0 j) → (∀ e, e < d → ∀ r1, r1 < c → cnd rules sizes m 98 vAche A D p True e r1) → V l Γ g 9 (QM Γ g (xI (fun z : I2 × I1 × Bool => CI z.2.1 n m ∧ (∀ j, 54 ≤ j → j ≠ 80 → z.2.1 j = b0 j) ∧ (z.2.2 = true ↔ RF rules sizes m 98 c vAche A D p True)) (fun z => b2i (z.2.2 = true)) (fun z => (jn (hC g h0 ct z.1 rd (putR B 1 z.2.1) (va_up cy 1 q) rw tl sp) X))) 0 0) 0 0 NN (jn (hC g h0 ct cl rd (putR B 1 b) (va_up cy 1 q) rw tl sp) X) 33 [some (rf g (0, 0, 0)), some (.int (nI 0)), some (.int (nI p)), some (.int (nI 1)), some (rf g (13, 0, 1)), some (.int (vd M)), some (.int (nI d)), u, v9] [] := by
  have h6 := hS.1.2.1
  intro f
  induction f with
  | zero =>
    intro d cl b u v9 hd hb hbI hhi hg
    obtain rfl : d = M := by omega
    refine V.iload (q := 35) C dX9_rowsFit_33 rfl rfl ?_
    refine V.iload (q := 37) C dX9_rowsFit_35 rfl rfl ?_
    refine V.icmp_gt (q := 40) (tgt := 159) C dX9_rowsFit_37 rfl rfl (fun hb37 => ?_) (fun hb37 => ?_)
    · have hall : RF rules sizes m 98 c vAche A D p True := by
        intro e he r1 hr1
        by_cases q9 : e < d
        · exact hg e q9 r1 hr1
        · intro z _
          obtain ⟨d1, hd1, e1⟩ := hMd r1 hr1
          have := (nI_eq (by omega) (by omega)).mp (e1.symm.trans z)
          omega
      refine V.iconst (q := 160) (v := nI 1) C dX9_rowsFit_159 rfl (by decide) ?_
      exact V.zreturn C dX9_rowsFit_160 rfl ⟨(cl, b, true), ⟨hbI, hhi, ⟨fun _ => hall, fun _ => rfl⟩⟩, rfl, rfl, rfl⟩
    · exact absurd ((vd_lt hM hM).mpr (Nat.le_refl _)) hb37
  | succ f ih =>
    intro d cl b u v9 hd hb hbI hhi hg
    refine V.iload (q := 35) C dX9_rowsFit_33 rfl rfl ?_
    refine V.iload (q := 37) C dX9_rowsFit_35 rfl rfl ?_
    refine V.icmp_gt (q := 40) (tgt := 159) C dX9_rowsFit_37 rfl rfl (fun hb37 => ?_) (fun hb37 => ?_)
    · exact absurd ((vd_lt hM (by omega)).mp hb37) (by omega)
    · refine V.iload (q := 42) C dX9_rowsFit_40 rfl rfl ?_
      refine V.if_le (q := 45) (tgt := 62) C dX9_rowsFit_42 rfl rfl (fun hb42 => ?_) (fun hb42 => ?_)
      · have hd0 : d = 0 := by
          have h9 := (nI_leI (a := d) (b := 0) (by omega) (by omega)).mp hb42
          omega
        refine V.iconst (q := 63) (v := nI 0) C dX9_rowsFit_62 rfl (by decide) ?_
        refine V.istore (q := 65) C dX9_rowsFit_63 rfl (by decide) rfl rfl ?_
        have ed : d = 0 := by omega
        have hb0 : TR (fun i => i = p) b (dsA rules sizes m d D) n m := by rw [ed] at hb ⊢; exact hb
        refine c_rfa1_i (M := M) hS hT hp hLs hLd hRw (by omega) hb0 hbI hhi C (fun hgd u9 => ?_) c 0 _ (by omega) (fun r1 hr1 => absurd hr1 (Nat.not_lt_zero r1))
        refine V.iinc (q := 156) (v := nI (d + 1)) C dX9_rowsFit_153 rfl rfl (nI_1 _) (by decide) rfl rfl ?_
        refine V.goto (tgt := 33) C dX9_rowsFit_156 rfl ?_
        exact ih (d + 1) _ _ _ _ (by omega) (by rw [show d + 1 - 1 = d by omega]; exact hb0) hbI hhi (fun e he r1 hr1 => by
          by_cases q9 : e = d
          · subst q9; exact hgd r1 hr1
          · exact hg e (by omega) r1 hr1)
      · have hd0 : 0 < d := Nat.pos_of_ne_zero (fun z => hb42 (by rw [z]; decide))
        refine V.aload_n (q := 46) C dX9_rowsFit_45 rfl rfl ?_
        refine V.get (q := 49) C fl_X9_31 dX9_rowsFit_46 rfl okC_0 rfl rfl ?_
        refine V.iconst (q := 50) (v := nI 1) C dX9_rowsFit_49 rfl (by decide) ?_
        refine V.iload_n (q := 51) C dX9_rowsFit_50 rfl rfl ?_
        refine V.if_eq (q := 54) (tgt := 58) C dX9_rowsFit_51 rfl rfl (fun hb51 => ?_) (fun hb51 => ?_)
        · exact absurd hb51 (by decide)
        · refine V.iload_n (q := 55) C dX9_rowsFit_54 rfl rfl ?_
          refine V.goto (tgt := 59) C dX9_rowsFit_55 rfl ?_
          refine V.callVxv (q := 62) C me_X8_go (c_go1 (SH.ds (k := d - 1) hS) hb hbI (Who.one (by omega)) (by omega)) ml_X9_174 dX9_rowsFit_59 rfl (okC_6 (by omega)) ⟨_, rfl⟩ rfl rfl (Nat.le_of_ble_eq_true rfl) (by omega) (Nat.zero_le _) (Nat.zero_le _) (fun z2 hz2 => ?_)
          refine V.iconst (q := 63) (v := nI 0) C dX9_rowsFit_62 rfl (by decide) ?_
          refine V.istore (q := 65) C dX9_rowsFit_63 rfl (by decide) rfl rfl ?_
          have ed : dsA rules sizes m 1 (dsA rules sizes m (d - 1) D) = dsA rules sizes m d D := by
            obtain ⟨e9, rfl⟩ : ∃ e9, d = e9 + 1 := ⟨d - 1, by omega⟩
            rfl
          rw [ed] at hz2
          refine c_rfa1_i (M := M) hS hT hp hLs hLd hRw (by omega) hz2.1 hz2.2.1 (fun j h1 h2 => (hz2.2.2 j h1 h2).trans (hhi j h1 h2)) C (fun hgd u9 => ?_) c 0 _ (by omega) (fun r1 hr1 => absurd hr1 (Nat.not_lt_zero r1))
          refine V.iinc (q := 156) (v := nI (d + 1)) C dX9_rowsFit_153 rfl rfl (nI_1 _) (by decide) rfl rfl ?_
          refine V.goto (tgt := 33) C dX9_rowsFit_156 rfl ?_
          exact ih (d + 1) _ _ _ _ (by omega) (by rw [show d + 1 - 1 = d by omega]; exact hz2.1) hz2.2.1 (fun j h1 h2 => (hz2.2.2 j h1 h2).trans (hhi j h1 h2)) (fun e he r1 hr1 => by
            by_cases q9 : e = d
            · subst q9; exact hgd r1 hr1
            · exact hg e (by omega) r1 hr1)
theorem c_rfa1 {l : Launch} {g : GG} {X : PHp} {h0 : HZ} {ct : CTt} {cl : I2} {rd : RDt} {B : I2} {cy : Nat → Nat} {rw : RWt} {tl : TLt} {sp : SPt} {rules sizes A D : I1} {n m r q : Nat} (hS : SH ct rules sizes D n m r q) (hT : TR TT (B 0) A n m) {p c : Nat} (hp : p < n) (hLs : LsI A n 98 c) (hLd : LsD A 98 c) (hRw : RwR rw 1 A 98 c) {b0 : I1} (hb : TR (fun i => i = p) b0 D n m) (hbI : CI b0 n m) : Ct l g yX9_rowsFit cX9_rowsFit 9 (some .boolean) 6 0 0 [rf g (0, 0, 0), .int (nI 0), .int (nI p), .int (nI 1)] NN (jn (hC g h0 ct cl rd (putR B 1 b0) (va_up cy 1 q) rw tl sp) X) (xI (fun z : I2 × I1 × Bool => CI z.2.1 n m ∧ (∀ j, 54 ≤ j → j ≠ 80 → z.2.1 j = b0 j) ∧ (z.2.2 = true ↔ RF rules sizes m 98 c vAche A D p True)) (fun z => b2i (z.2.2 = true)) (fun z => (jn (hC g h0 ct z.1 rd (putR B 1 z.2.1) (va_up cy 1 q) rw tl sp) X))) := by
  refine Ct.of (lv := [some (rf g (0, 0, 0)), some (.int (nI 0)), some (.int (nI p)), some (.int (nI 1)), none, none, none, none, none]) (by decide +kernel) rfl (Nat.le_of_ble_eq_true rfl) ?_
  intro Γ C
  have h6 := hS.1.2.1
  have hc5 := hLs.2.1
  obtain ⟨M, hM, eM, hMd⟩ := la_c (f := rw.2.1 0 1) c (fun i hi => by obtain ⟨d, hd, e⟩ := hLd i hi; exact ⟨d, hd, (hRw.2 i hi).2.1.trans e⟩)
  refine V.iload_n (q := 1) C dX9_rowsFit_0 rfl rfl ?_
  refine V.if_eq (q := 4) (tgt := 14) C dX9_rowsFit_1 rfl rfl (fun hb1 => ?_) (fun hb1 => ?_)
  · refine V.aload_n (q := 15) C dX9_rowsFit_14 rfl rfl ?_
    refine V.get (q := 18) C fl_X9_40 dX9_rowsFit_15 rfl okC_0 rfl rfl ?_
    refine V.get (q := 21) C fl_X9_203 dX9_rowsFit_18 rfl (okC_12 (by omega)) rfl rfl ?_
    refine V.astore (q := 23) C dX9_rowsFit_21 rfl (by decide) rfl rfl ?_
    refine V.aload (q := 25) C dX9_rowsFit_23 rfl rfl ?_
    refine V.callVi (q := 28) C me_X3_lastDay (c_lastDay (by omega) (by omega) hRw.1 (by rw [rw5']; omega)) ml_X9_297 dX9_rowsFit_25 rfl (okC_13 (by omega) (by omega)) ⟨_, rfl⟩ rfl rfl (Nat.le_of_ble_eq_true rfl) (by omega) (Nat.zero_le _) (Nat.zero_le _) ?_
    refine V.topi (x1 := vd M) eM ?_
    refine V.istore (q := 30) C dX9_rowsFit_28 rfl (by decide) rfl rfl ?_
    refine V.iconst (q := 31) (v := nI 0) C dX9_rowsFit_30 rfl (by decide) ?_
    refine V.istore (q := 33) C dX9_rowsFit_31 rfl (by decide) rfl rfl ?_
    exact c_rfa1_d hS hT hp hLs hLd hRw hM (fun i hi => by obtain ⟨d, hd, e⟩ := hMd i hi; exact ⟨d, hd, ((hRw.2 i hi).2.1).symm.trans e⟩) C M 0 _ b0 _ _ (by omega) hb hbI (fun _ _ _ => rfl) (fun e he => absurd he (Nat.not_lt_zero e))
  · exact absurd rfl hb1
theorem c_rfa0_i {l : Launch} {g : GG} {X : PHp} {h0 : HZ} {ct : CTt} {cl : I2} {rd : RDt} {B : I2} {cy : Nat → Nat} {rw : RWt} {tl : TLt} {sp : SPt} {rules sizes A D : I1} {n m r q : Nat} {b0 b : I1} {Γ : Cxt} (hS : SH ct rules sizes D n m r q) (hT : TR TT (B 0) A n m) {p c : Nat} (hp : p < n) (hLs : LsI A n 98 c) (hLd : LsD A 98 c) (hRw : RwR rw 1 A 98 c) {M d : Nat} (hd : d < 13) (hb : TR TT b (dsA rules sizes m d D) n m) (hbI : CI b n m) (hhi : ∀ j, 54 ≤ j → j ≠ 80 → b j = b0 j) (C : Cx Γ g cX9_rowsFit yX9_rowsFit 9 (some .boolean) 6 0 0) (kx : (∀ r1, r1 < c → cnd rules sizes m 98 vAche A D p False d r1) → ∀ u : Option Value, V l Γ g 9 (QM Γ g (xI (fun z : I2 × I1 × Bool => CI z.2.1 n m ∧ (∀ j, 54 ≤ j → j ≠ 80 → z.2.1 j = b0 j) ∧ (z.2.2 = true ↔ RF rules sizes m 98 c vAche A D p False)) (fun z => b2i (z.2.2 = true)) (fun z => (jn (hC g h0 ct z.1 rd (putR B 1 z.2.1) (va_up cy 1 q) rw tl sp) X))) 0 0) 0 0 NN (jn (hC g h0 ct cl rd (putR B 1 b) (va_up cy 1 q) rw tl sp) X) 153 [some (rf g (0, 0, 0)), some (.int (nI 0)), some (.int (nI p)), some (.int (nI 0)), some (rf g (13, 0, 1)), some (.int (vd M)), some (.int (nI d)), some (.int (nI c)), u] []) : ∀ (f i : Nat) (u : Option Value), i + f = c → (∀ r1, r1 < i → cnd rules sizes m 98 vAche A D p False d r1) → V l Γ g 9 (QM Γ g (xI (fun z : I2 × I1 × Bool => CI z.2.1 n m ∧ (∀ j, 54 ≤ j → j ≠ 80 → z.2.1 j = b0 j) ∧ (z.2.2 = true ↔ RF rules sizes m 98 c vAche A D p False)) (fun z => b2i (z.2.2 = true)) (fun z => (jn (hC g h0 ct z.1 rd (putR B 1 z.2.1) (va_up cy 1 q) rw tl sp) X))) 0 0) 0 0 NN (jn (hC g h0 ct cl rd (putR B 1 b) (va_up cy 1 q) rw tl sp) X) 65 [some (rf g (0, 0, 0)), some (.int (nI 0)), some (.int (nI p)), some (.int (nI 0)), some (rf g (13, 0, 1)), some (.int (vd M)), some (.int (nI d)), some (.int (nI i)), u] [] := by
  have h6 := hS.1.2.1
  have hz := rwN_le 1
  have hc5 := hLs.2.1
  intro f
  induction f with
  | zero =>
    intro i u hi hg
    obtain rfl : i = c := by omega
    refine V.iload (q := 67) C dX9_rowsFit_65 rfl rfl ?_
    refine V.aload (q := 69) C dX9_rowsFit_67 rfl rfl ?_
    refine V.get (q := 72) C fl_X9_221 dX9_rowsFit_69 rfl (okC_13 (by omega) (by omega)) rfl rfl ?_
    refine V.topi (x1 := nI (i)) hRw.1 ?_
    refine V.icmp_ge (q := 75) (tgt := 153) C dX9_rowsFit_72 rfl rfl (fun hb72 => ?_) (fun hb72 => ?_)
    · exact kx hg u
    · exact absurd (Int32.le_refl _) hb72
  | succ f ih =>
    intro i u hi hg
    obtain ⟨r1, r2, r3⟩ := hRw.2 i (by omega)
    obtain ⟨i1, hi1, e1⟩ := hLs.2.2 i (by omega)
    have ii := ix_k (k := i1) (by omega)
    have hr8 : i < rwN 1 := by rw [rw5']; omega
    refine V.iload (q := 67) C dX9_rowsFit_65 rfl rfl ?_
    refine V.aload (q := 69) C dX9_rowsFit_67 rfl rfl ?_
    refine V.get (q := 72) C fl_X9_221 dX9_rowsFit_69 rfl (okC_13 (by omega) (by omega)) rfl rfl ?_
    refine V.topi (x1 := nI (c)) hRw.1 ?_
    refine V.icmp_ge (q := 75) (tgt := 153) C dX9_rowsFit_72 rfl rfl (fun hb72 => ?_) (fun hb72 => ?_)
    · exact absurd ((nI_leI (by omega) (by omega)).mp hb72) (by omega)
    · refine V.aload (q := 77) C dX9_rowsFit_75 rfl rfl ?_
      refine V.get (q := 80) C fl_X9_224 dX9_rowsFit_77 rfl (okC_13 (by omega) (by omega)) rfl rfl ?_
      refine V.iload (q := 82) C dX9_rowsFit_80 rfl rfl ?_
      refine V.ild (q := 83) (i := i) C dX9_rowsFit_82 rfl (okC_15 (by omega) (by omega)) rfl rfl hr8 (by omega) ?_
      refine V.topi (x1 := A (98 + 1 + 3 * i + 1)) r2 ?_
      refine V.iload (q := 85) C dX9_rowsFit_83 rfl rfl ?_
      refine V.icmp_ne (q := 88) (tgt := 113) C dX9_rowsFit_85 rfl rfl (fun hb85 => ?_) (fun hb85 => ?_)
      · refine V.iconst (q := 114) (v := nI 0) C dX9_rowsFit_113 rfl (by decide) ?_
        refine V.istore (q := 116) C dX9_rowsFit_114 rfl (by decide) rfl rfl ?_
        refine V.iload (q := 118) C dX9_rowsFit_116 rfl rfl ?_
        refine V.if_eq (q := 121) (tgt := 147) C dX9_rowsFit_118 rfl rfl (fun hb118 => ?_) (fun hb118 => ?_)
        · refine V.iinc (q := 150) (v := nI (i + 1)) C dX9_rowsFit_147 rfl rfl (nI_1 _) (by decide) rfl rfl ?_
          refine V.goto (tgt := 65) C dX9_rowsFit_150 rfl ?_
          have hg2 : ∀ r1, r1 < i + 1 → cnd rules sizes m 98 vAche A D p False d r1 := by
            intro r1 hr1
            by_cases e9 : r1 = i
            · subst e9
              exact fun z _ => absurd z hb85
            · exact hg r1 (by omega)
          exact ih (i + 1) _ (by omega) hg2
        · exact absurd rfl hb118
      · refine V.aload (q := 90) C dX9_rowsFit_88 rfl rfl ?_
        refine V.get (q := 93) C fl_X9_227 dX9_rowsFit_90 rfl (okC_13 (by omega) (by omega)) rfl rfl ?_
        refine V.iload (q := 95) C dX9_rowsFit_93 rfl rfl ?_
        refine V.ild (q := 96) (i := i) C dX9_rowsFit_95 rfl (okC_14 (by omega) (by omega)) rfl rfl hr8 (by omega) ?_
        refine V.topi (x1 := nI (i1)) (r1.trans e1) ?_
        refine V.iload_n (q := 97) C dX9_rowsFit_96 rfl rfl ?_
        refine V.icmp_ne (q := 100) (tgt := 104) C dX9_rowsFit_97 rfl rfl (fun hb97 => ?_) (fun hb97 => ?_)
        · have q97 : ¬ i1 = p := fun z => hb97 (congrArg nI z)
          refine V.iconst (q := 105) (v := nI 0) C dX9_rowsFit_104 rfl (by decide) ?_
          refine V.iload_n (q := 106) C dX9_rowsFit_105 rfl rfl ?_
          refine V.icmp_ne (q := 109) (tgt := 113) C dX9_rowsFit_106 rfl rfl (fun hb106 => ?_) (fun hb106 => ?_)
          · exact absurd rfl hb106
          · refine V.iconst (q := 110) (v := nI 1) C dX9_rowsFit_109 rfl (by decide) ?_
            refine V.goto (tgt := 114) C dX9_rowsFit_110 rfl ?_
            refine V.istore (q := 116) C dX9_rowsFit_114 rfl (by decide) rfl rfl ?_
            refine V.iload (q := 118) C dX9_rowsFit_116 rfl rfl ?_
            refine V.if_eq (q := 121) (tgt := 147) C dX9_rowsFit_118 rfl rfl (fun hb118 => ?_) (fun hb118 => ?_)
            · exact absurd hb118 (by decide)
            · refine V.aload_n (q := 122) C dX9_rowsFit_121 rfl rfl ?_
              refine V.aload (q := 124) C dX9_rowsFit_122 rfl rfl ?_
              refine V.get (q := 127) C fl_X9_227 dX9_rowsFit_124 rfl (okC_13 (by omega) (by omega)) rfl rfl ?_
              refine V.iload (q := 129) C dX9_rowsFit_127 rfl rfl ?_
              refine V.ild (q := 130) (i := i) C dX9_rowsFit_129 rfl (okC_14 (by omega) (by omega)) rfl rfl hr8 (by omega) ?_
              refine V.topi (x1 := nI (i1)) (r1.trans e1) ?_
              refine V.iload_n (q := 131) C dX9_rowsFit_130 rfl rfl ?_
              refine V.callVi (q := 134) C me_X9_trialValue (c_tva hb hT hi1 h6 trivial) ml_X9_300 dX9_rowsFit_131 rfl okC_0 ⟨_, rfl⟩ rfl rfl (Nat.le_of_ble_eq_true rfl) (by omega) (Nat.zero_le _) (Nat.zero_le _) ?_
              refine V.aload (q := 136) C dX9_rowsFit_134 rfl rfl ?_
              refine V.get (q := 139) C fl_X9_236 dX9_rowsFit_136 rfl (okC_13 (by omega) (by omega)) rfl rfl ?_
              refine V.iload (q := 141) C dX9_rowsFit_139 rfl rfl ?_
              refine V.ild (q := 142) (i := i) C dX9_rowsFit_141 rfl (okC_16 (by omega) (by omega)) rfl rfl hr8 (by omega) ?_
              refine V.topi (x1 := A (98 + 1 + 3 * i + 2)) r3 ?_
              refine V.icmp_eq (q := 145) (tgt := 147) C dX9_rowsFit_142 rfl rfl (fun hb142 => ?_) (fun hb142 => ?_)
              · refine V.iinc (q := 150) (v := nI (i + 1)) C dX9_rowsFit_147 rfl rfl (nI_1 _) (by decide) rfl rfl ?_
                refine V.goto (tgt := 65) C dX9_rowsFit_150 rfl ?_
                have hg2 : ∀ r1, r1 < i + 1 → cnd rules sizes m 98 vAche A D p False d r1 := by
                  intro r1 hr1
                  by_cases e9 : r1 = i
                  · subst e9
                    exact fun _ _ => by rw [e1, ii]; exact hb142
                  · exact hg r1 (by omega)
                exact ih (i + 1) _ (by omega) hg2
              · refine V.iconst (q := 146) (v := nI 0) C dX9_rowsFit_145 rfl (by decide) ?_
                exact V.zreturn C dX9_rowsFit_146 rfl ⟨(cl, b, false), ⟨hbI, hhi, ⟨fun z => absurd z Bool.false_ne_true, fun z => absurd (by have h9 := z d hd i (by omega) hb85 ⟨fun z => q97 (by rw [e1, ii] at z; exact z), fun z => absurd z id⟩; rw [e1, ii] at h9; exact h9) hb142⟩⟩, rfl, rfl, rfl⟩
        · have q97 : i1 = p := (nI_eq (by omega) (by omega)).mp hb97
          refine V.iconst (q := 101) (v := nI 1) C dX9_rowsFit_100 rfl (by decide) ?_
          refine V.goto (tgt := 105) C dX9_rowsFit_101 rfl ?_
          refine V.iload_n (q := 106) C dX9_rowsFit_105 rfl rfl ?_
          refine V.icmp_ne (q := 109) (tgt := 113) C dX9_rowsFit_106 rfl rfl (fun hb106 => ?_) (fun hb106 => ?_)
          · refine V.iconst (q := 114) (v := nI 0) C dX9_rowsFit_113 rfl (by decide) ?_
            refine V.istore (q := 116) C dX9_rowsFit_114 rfl (by decide) rfl rfl ?_
            refine V.iload (q := 118) C dX9_rowsFit_116 rfl rfl ?_
            refine V.if_eq (q := 121) (tgt := 147) C dX9_rowsFit_118 rfl rfl (fun hb118 => ?_) (fun hb118 => ?_)
            · refine V.iinc (q := 150) (v := nI (i + 1)) C dX9_rowsFit_147 rfl rfl (nI_1 _) (by decide) rfl rfl ?_
              refine V.goto (tgt := 65) C dX9_rowsFit_150 rfl ?_
              have hg2 : ∀ r1, r1 < i + 1 → cnd rules sizes m 98 vAche A D p False d r1 := by
                intro r1 hr1
                by_cases e9 : r1 = i
                · subst e9
                  exact fun _ z => absurd (by rw [e1, ii]; exact q97) (fun y => z.mp y)
                · exact hg r1 (by omega)
              exact ih (i + 1) _ (by omega) hg2
            · exact absurd rfl hb118
          · exact absurd hb106 (by decide)
theorem c_rfa0_d {l : Launch} {g : GG} {X : PHp} {h0 : HZ} {ct : CTt} {rd : RDt} {B : I2} {cy : Nat → Nat} {rw : RWt} {tl : TLt} {sp : SPt} {rules sizes A D : I1} {n m r q : Nat} {b0 : I1} {Γ : Cxt} (hS : SH ct rules sizes D n m r q) (hT : TR TT (B 0) A n m) {p c : Nat} (hp : p < n) (hLs : LsI A n 98 c) (hLd : LsD A 98 c) (hRw : RwR rw 1 A 98 c) {M : Nat} (hM : M ≤ 13) (hMd : ∀ i, i < c → ∃ d, d < M ∧ A (98 + 1 + 3 * i + 1) = nI d) (C : Cx Γ g cX9_rowsFit yX9_rowsFit 9 (some .boolean) 6 0 0) : ∀ (f d : Nat) (cl : I2) (b : I1) (u v9 : Option Value), d + f = M → TR TT b (dsA rules sizes m (d - 1) D) n m → CI b n m → (∀ j, 54 ≤ j → j ≠ 80 → b j = b0 j) → (∀ e, e < d → ∀ r1, r1 < c → cnd rules sizes m 98 vAche A D p False e r1) → V l Γ g 9 (QM Γ g (xI (fun z : I2 × I1 × Bool => CI z.2.1 n m ∧ (∀ j, 54 ≤ j → j ≠ 80 → z.2.1 j = b0 j) ∧ (z.2.2 = true ↔ RF rules sizes m 98 c vAche A D p False)) (fun z => b2i (z.2.2 = true)) (fun z => (jn (hC g h0 ct z.1 rd (putR B 1 z.2.1) (va_up cy 1 q) rw tl sp) X))) 0 0) 0 0 NN (jn (hC g h0 ct cl rd (putR B 1 b) (va_up cy 1 q) rw tl sp) X) 33 [some (rf g (0, 0, 0)), some (.int (nI 0)), some (.int (nI p)), some (.int (nI 0)), some (rf g (13, 0, 1)), some (.int (vd M)), some (.int (nI d)), u, v9] [] := by
  have h6 := hS.1.2.1
  intro f
  induction f with
  | zero =>
    intro d cl b u v9 hd hb hbI hhi hg
    obtain rfl : d = M := by omega
    refine V.iload (q := 35) C dX9_rowsFit_33 rfl rfl ?_
    refine V.iload (q := 37) C dX9_rowsFit_35 rfl rfl ?_
    refine V.icmp_gt (q := 40) (tgt := 159) C dX9_rowsFit_37 rfl rfl (fun hb37 => ?_) (fun hb37 => ?_)
    · have hall : RF rules sizes m 98 c vAche A D p False := by
        intro e he r1 hr1
        by_cases q9 : e < d
        · exact hg e q9 r1 hr1
        · intro z _
          obtain ⟨d1, hd1, e1⟩ := hMd r1 hr1
          have := (nI_eq (by omega) (by omega)).mp (e1.symm.trans z)
          omega
      refine V.iconst (q := 160) (v := nI 1) C dX9_rowsFit_159 rfl (by decide) ?_
      exact V.zreturn C dX9_rowsFit_160 rfl ⟨(cl, b, true), ⟨hbI, hhi, ⟨fun _ => hall, fun _ => rfl⟩⟩, rfl, rfl, rfl⟩
    · exact absurd ((vd_lt hM hM).mpr (Nat.le_refl _)) hb37
  | succ f ih =>
    intro d cl b u v9 hd hb hbI hhi hg
    refine V.iload (q := 35) C dX9_rowsFit_33 rfl rfl ?_
    refine V.iload (q := 37) C dX9_rowsFit_35 rfl rfl ?_
    refine V.icmp_gt (q := 40) (tgt := 159) C dX9_rowsFit_37 rfl rfl (fun hb37 => ?_) (fun hb37 => ?_)
    · exact absurd ((vd_lt hM (by omega)).mp hb37) (by omega)
    · refine V.iload (q := 42) C dX9_rowsFit_40 rfl rfl ?_
      refine V.if_le (q := 45) (tgt := 62) C dX9_rowsFit_42 rfl rfl (fun hb42 => ?_) (fun hb42 => ?_)
      · have hd0 : d = 0 := by
          have h9 := (nI_leI (a := d) (b := 0) (by omega) (by omega)).mp hb42
          omega
        refine V.iconst (q := 63) (v := nI 0) C dX9_rowsFit_62 rfl (by decide) ?_
        refine V.istore (q := 65) C dX9_rowsFit_63 rfl (by decide) rfl rfl ?_
        have ed : d = 0 := by omega
        have hb0 : TR TT b (dsA rules sizes m d D) n m := by rw [ed] at hb ⊢; exact hb
        refine c_rfa0_i (M := M) hS hT hp hLs hLd hRw (by omega) hb0 hbI hhi C (fun hgd u9 => ?_) c 0 _ (by omega) (fun r1 hr1 => absurd hr1 (Nat.not_lt_zero r1))
        refine V.iinc (q := 156) (v := nI (d + 1)) C dX9_rowsFit_153 rfl rfl (nI_1 _) (by decide) rfl rfl ?_
        refine V.goto (tgt := 33) C dX9_rowsFit_156 rfl ?_
        exact ih (d + 1) _ _ _ _ (by omega) (by rw [show d + 1 - 1 = d by omega]; exact hb0) hbI hhi (fun e he r1 hr1 => by
          by_cases q9 : e = d
          · subst q9; exact hgd r1 hr1
          · exact hg e (by omega) r1 hr1)
      · have hd0 : 0 < d := Nat.pos_of_ne_zero (fun z => hb42 (by rw [z]; decide))
        refine V.aload_n (q := 46) C dX9_rowsFit_45 rfl rfl ?_
        refine V.get (q := 49) C fl_X9_31 dX9_rowsFit_46 rfl okC_0 rfl rfl ?_
        refine V.iconst (q := 50) (v := nI 1) C dX9_rowsFit_49 rfl (by decide) ?_
        refine V.iload_n (q := 51) C dX9_rowsFit_50 rfl rfl ?_
        refine V.if_eq (q := 54) (tgt := 58) C dX9_rowsFit_51 rfl rfl (fun hb51 => ?_) (fun hb51 => ?_)
        · refine V.iconst (q := 59) (v := -1) C dX9_rowsFit_58 rfl (by decide) ?_
          refine V.callVxv (q := 62) C me_X8_go (c_go1 (SH.ds (k := d - 1) hS) hb hbI (Who.all (fun _ => trivial)) (by omega)) ml_X9_174 dX9_rowsFit_59 rfl (okC_6 (by omega)) ⟨_, rfl⟩ rfl rfl (Nat.le_of_ble_eq_true rfl) (by omega) (Nat.zero_le _) (Nat.zero_le _) (fun z2 hz2 => ?_)
          refine V.iconst (q := 63) (v := nI 0) C dX9_rowsFit_62 rfl (by decide) ?_
          refine V.istore (q := 65) C dX9_rowsFit_63 rfl (by decide) rfl rfl ?_
          have ed : dsA rules sizes m 1 (dsA rules sizes m (d - 1) D) = dsA rules sizes m d D := by
            obtain ⟨e9, rfl⟩ : ∃ e9, d = e9 + 1 := ⟨d - 1, by omega⟩
            rfl
          rw [ed] at hz2
          refine c_rfa0_i (M := M) hS hT hp hLs hLd hRw (by omega) hz2.1 hz2.2.1 (fun j h1 h2 => (hz2.2.2 j h1 h2).trans (hhi j h1 h2)) C (fun hgd u9 => ?_) c 0 _ (by omega) (fun r1 hr1 => absurd hr1 (Nat.not_lt_zero r1))
          refine V.iinc (q := 156) (v := nI (d + 1)) C dX9_rowsFit_153 rfl rfl (nI_1 _) (by decide) rfl rfl ?_
          refine V.goto (tgt := 33) C dX9_rowsFit_156 rfl ?_
          exact ih (d + 1) _ _ _ _ (by omega) (by rw [show d + 1 - 1 = d by omega]; exact hz2.1) hz2.2.1 (fun j h1 h2 => (hz2.2.2 j h1 h2).trans (hhi j h1 h2)) (fun e he r1 hr1 => by
            by_cases q9 : e = d
            · subst q9; exact hgd r1 hr1
            · exact hg e (by omega) r1 hr1)
        · exact absurd rfl hb51
theorem c_rfa0 {l : Launch} {g : GG} {X : PHp} {h0 : HZ} {ct : CTt} {cl : I2} {rd : RDt} {B : I2} {cy : Nat → Nat} {rw : RWt} {tl : TLt} {sp : SPt} {rules sizes A D : I1} {n m r q : Nat} (hS : SH ct rules sizes D n m r q) (hT : TR TT (B 0) A n m) {p c : Nat} (hp : p < n) (hLs : LsI A n 98 c) (hLd : LsD A 98 c) (hRw : RwR rw 1 A 98 c) {b0 : I1} (hb : TR TT b0 D n m) (hbI : CI b0 n m) : Ct l g yX9_rowsFit cX9_rowsFit 9 (some .boolean) 6 0 0 [rf g (0, 0, 0), .int (nI 0), .int (nI p), .int (nI 0)] NN (jn (hC g h0 ct cl rd (putR B 1 b0) (va_up cy 1 q) rw tl sp) X) (xI (fun z : I2 × I1 × Bool => CI z.2.1 n m ∧ (∀ j, 54 ≤ j → j ≠ 80 → z.2.1 j = b0 j) ∧ (z.2.2 = true ↔ RF rules sizes m 98 c vAche A D p False)) (fun z => b2i (z.2.2 = true)) (fun z => (jn (hC g h0 ct z.1 rd (putR B 1 z.2.1) (va_up cy 1 q) rw tl sp) X))) := by
  refine Ct.of (lv := [some (rf g (0, 0, 0)), some (.int (nI 0)), some (.int (nI p)), some (.int (nI 0)), none, none, none, none, none]) (by decide +kernel) rfl (Nat.le_of_ble_eq_true rfl) ?_
  intro Γ C
  have h6 := hS.1.2.1
  have hc5 := hLs.2.1
  obtain ⟨M, hM, eM, hMd⟩ := la_c (f := rw.2.1 0 1) c (fun i hi => by obtain ⟨d, hd, e⟩ := hLd i hi; exact ⟨d, hd, (hRw.2 i hi).2.1.trans e⟩)
  refine V.iload_n (q := 1) C dX9_rowsFit_0 rfl rfl ?_
  refine V.if_eq (q := 4) (tgt := 14) C dX9_rowsFit_1 rfl rfl (fun hb1 => ?_) (fun hb1 => ?_)
  · refine V.aload_n (q := 15) C dX9_rowsFit_14 rfl rfl ?_
    refine V.get (q := 18) C fl_X9_40 dX9_rowsFit_15 rfl okC_0 rfl rfl ?_
    refine V.get (q := 21) C fl_X9_203 dX9_rowsFit_18 rfl (okC_12 (by omega)) rfl rfl ?_
    refine V.astore (q := 23) C dX9_rowsFit_21 rfl (by decide) rfl rfl ?_
    refine V.aload (q := 25) C dX9_rowsFit_23 rfl rfl ?_
    refine V.callVi (q := 28) C me_X3_lastDay (c_lastDay (by omega) (by omega) hRw.1 (by rw [rw5']; omega)) ml_X9_297 dX9_rowsFit_25 rfl (okC_13 (by omega) (by omega)) ⟨_, rfl⟩ rfl rfl (Nat.le_of_ble_eq_true rfl) (by omega) (Nat.zero_le _) (Nat.zero_le _) ?_
    refine V.topi (x1 := vd M) eM ?_
    refine V.istore (q := 30) C dX9_rowsFit_28 rfl (by decide) rfl rfl ?_
    refine V.iconst (q := 31) (v := nI 0) C dX9_rowsFit_30 rfl (by decide) ?_
    refine V.istore (q := 33) C dX9_rowsFit_31 rfl (by decide) rfl rfl ?_
    exact c_rfa0_d hS hT hp hLs hLd hRw hM (fun i hi => by obtain ⟨d, hd, e⟩ := hMd i hi; exact ⟨d, hd, ((hRw.2 i hi).2.1).symm.trans e⟩) C M 0 _ b0 _ _ (by omega) hb hbI (fun _ _ _ => rfl) (fun e he => absurd he (Nat.not_lt_zero e))
  · exact absurd rfl hb1
