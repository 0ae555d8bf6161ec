theorem Ct.weak {l : Launch} {g : GG} {y : MethodName} {cc : ByteArray} {nL : Nat} {ret : Option FieldType} {lvl mc ms : Nat} {av : List Value} {n : Nat} {PH : PHp} {post post1 : Option Value → PHp → Nat → Prop} (h : Ct l g y cc nL ret lvl mc ms av n PH post) (hp : ∀ v PH n, post v PH n → post1 v PH n) : Ct l g y cc nL ret lvl mc ms av n PH post1 := by
  intro p e ha hc hk s m args below hf happ hP hK
  obtain ⟨k, o, h1, h2, h3, ⟨⟨v, PH, n1, e1, hp1, hH⟩, hF⟩, hL⟩ := h p e ha hc hk s m args below hf happ hP hK
  exact ⟨k, o, h1, h2, h3, ⟨⟨v, PH, n1, e1, hp _ _ _ hp1, hH⟩, hF⟩, hL⟩
/-- what stands of the reference's row while questions are asked -/
def SH (ct : CTt) (rules sizes A : I1) (n m r q : Nat) : Prop := WI A n m ∧ EV A m ∧ A 81 = nI q ∧ q ≤ r ∧ r ≤ 6 ∧ CtR ct rules sizes r
theorem SH.lo {ct : CTt} {rules sizes A D : I1} {n m r q : Nat} (h : SH ct rules sizes A n m r q) (hD : ∀ k, 54 ≤ k → k ≠ 80 → D k = A k) : SH ct rules sizes D n m r q := ⟨WI_hi hD h.1, EV_hi h.1.2.2.2.1 hD h.2.1, (hD 81 (by omega) (by omega)).trans h.2.2.1, h.2.2.2⟩
theorem SH.ds {ct : CTt} {rules sizes A : I1} {n m r q k : Nat} (h : SH ct rules sizes A n m r q) : SH ct rules sizes (dsA rules sizes m k A) n m r q := h.lo (dsA_hi h.1 k)
abbrev TT : Nat → Prop := fun _ => True
theorem Who.all {P : Nat → Prop} (h : ∀ i, P i) : Who (-1) P := Or.inl ⟨rfl, h⟩
theorem Who.one {p : Nat} (h : p < 6) : Who (nI p) (fun i => i = p) := Or.inr ⟨p, h, rfl, fun _ q => q⟩
theorem TR.mono {P Q : Nat → Prop} {b A : I1} {n m : Nat} (h : TR P b A n m) (hq : ∀ i, Q i → P i) : TR Q b A n m := ⟨fun i hi hQ => h.1 i hi (hq i hQ), h.2⟩
theorem TR.up1 {P : Nat → Prop} {b A : I1} {n m k : Nat} {x : Int32} (h : TR P b A n m) (hk : k < 54) (hm : m ≤ 8) : TR P (upd b k x) (upd A k x) n m := by
  refine ⟨fun i hi hP c hc => ?_, fun s hs => ?_, ?_⟩
  · simp only [upd]
    split
    · rfl
    · exact h.1 i hi hP c hc
  · have h1 := h.2.1 s hs
    simp only [upd]
    rw [if_neg (by omega), if_neg (by omega), if_neg (by omega), if_neg (by omega), if_neg (by omega), if_neg (by omega)]
    exact h1
  · simp only [upd]
    rw [if_neg (by omega), if_neg (by omega)]
    exact h.2.2
theorem upd_hi {A : I1} {j : Nat} {x : Int32} (hj : j < 54) : ∀ k, 54 ≤ k → k ≠ 80 → upd A j x k = A k := fun k hk _ => if_neg (by omega)
theorem CI.up1 {b : I1} {n m k : Nat} {x : Int32} (h : CI b n m) (hk : k ≠ 78 ∧ k ≠ 79) : CI (upd b k x) n m := CI_hi (if_neg (fun e => hk.1 e.symm)) (if_neg (fun e => hk.2 e.symm)) h
theorem TR.all {P : Nat → Prop} {b A : I1} {n m w : Nat} (h : TR P b A n m) (hP : ∀ i, P i) (hw : w < 9) : alR b w n = alR A w n := by
  have key : ∀ j, j ≤ n → alR b w j = alR A w j := by
    intro j
    induction j with
    | zero => intro _; rfl
    | succ j ih =>
      intro hj
      show alR b w j + b (9 * j + w) = alR A w j + A (9 * j + w)
      rw [ih (by omega), h.1 j (by omega) (hP j) w hw]
  exact key n (Nat.le_refl n)
theorem bcB_put {B : I2} {w w2 n m : Nat} : bcB B w w2 n m = putR B w (bcB B w w2 n m w) := by
  funext w1
  simp only [putR]
  split
  · next h => rw [h]
  · next h => exact bcB_o h
theorem bc_T {P : Nat → Prop} {B : I2} {w w2 n m : Nat} {A : I1} (h : TR P (B w2) A n m) (hI : CI (B w2) n m) : TR P (bcB B w w2 n m w) A n m ∧ CI (bcB B w w2 n m w) n m := by
  refine ⟨⟨fun i hi hP c hc => ?_, fun s hs => ?_, ?_⟩, CI_hi (a := B w2) bcB_78 bcB_79 hI⟩
  · rw [show bcB B w w2 n m w (9 * i + c) = B w2 (9 * i + c) from if_pos ⟨rfl, by omega⟩]
    exact h.1 i hi hP c hc
  · rw [show bcB B w w2 n m w (54 + 3 * s + 0) = B w2 (54 + 3 * s + 0) from if_pos ⟨rfl, by omega⟩, show bcB B w w2 n m w (54 + 3 * s + 1) = B w2 (54 + 3 * s + 1) from if_pos ⟨rfl, by omega⟩, show bcB B w w2 n m w (54 + 3 * s + 2) = B w2 (54 + 3 * s + 2) from if_pos ⟨rfl, by omega⟩]
    exact h.2.1 s hs
  · rw [show bcB B w w2 n m w 80 = B w2 80 from if_pos ⟨rfl, by omega⟩]
    exact h.2.2
theorem va_up_id {α : Type} {f : Nat → α} {k : Nat} : va_up f k (f k) = f := by
  funext j
  simp only [va_up]
  split
  · next h => rw [h]
  · rfl
theorem c_goT {l : Launch} {g : GG} {X : PHp} {h0 : HZ} {ct : CTt} {cl : I2} {rd : RDt} {B : I2} {cy : Nat → Nat} {rw : RWt} {tl : TLt} {sp : SPt} {P : Nat → Prop} {b D : I1} {w k : Nat} {one : Int32} {rules sizes : I1} {n m r q : Nat} (hS : SH ct rules sizes D n m r q) (hw : w < 3) (hT : TR P b D n m) (hI : CI b n m) (hcy : cy w = q) (ho : Who one P) (hk : k ≤ 60) : Ct l g yX8_go cX8_go 5 none 5 0 0 [rf g (6, w, 0), .int (nI k), .int one] NN (jn (hC g h0 ct cl rd (putR B w b) cy rw tl sp) X) (xV (fun z : I2 × I1 => TR P z.2 (dsA rules sizes m k D) n m ∧ CI z.2 n m ∧ ∀ j, 54 ≤ j → j ≠ 80 → z.2 j = b j) (fun z => (jn (hC g h0 ct z.1 rd (putR B w z.2) cy rw tl sp) X))) := by
  obtain ⟨h1, h2, h3, h4, h5, h6⟩ := hS
  have hO := h6.O h5 h4
  rw [← hcy] at hO
  refine (c_go (B := putR B w b) (n := n) (m := m) (one := one) hw (by rw [putR_w]; exact hI) hO hk).weak ?_
  rintro v PH n9 ⟨z, -, rfl, rfl, rfl⟩
  rw [putR_w, putR_put, hcy]
  exact ⟨(z, _), ⟨goN_T h6 h5 h4 h3 hT h1 h2 ho k, CI_N h1.2.1 hI, fun j hj h80 => goN_hi h1.2.1 hj h80 k⟩, rfl, rfl, rfl⟩
theorem c_becomeT {l : Launch} {g : GG} {X : PHp} {h0 : HZ} {ct : CTt} {cl : I2} {rd : RDt} {B : I2} {cy : Nat → Nat} {rw : RWt} {tl : TLt} {sp : SPt} {P : Nat → Prop} {D : I1} {w w2 n m : Nat} (hw : w < 3) (hw2 : w2 < 3) (h : w2 ≠ w) (hT : TR P (B w2) D n m) (hI : CI (B w2) n m) : Ct l g yX8_become cX8_become 3 none 3 0 0 [rf g (6, w, 0), rf g (6, w2, 0)] NN (jn (hC g h0 ct cl rd B cy rw tl sp) X) (xV (fun b : I1 => TR P b D n m ∧ CI b n m) (fun b => (jn (hC g h0 ct cl rd (putR B w b) (va_up cy w (cy w2)) rw tl sp) X))) := by
  refine (c_become hw hw2 h hI).weak ?_
  rintro v PH n9 ⟨rfl, rfl, rfl⟩
  exact ⟨bcB B w w2 n m w, bc_T hT hI, rfl, congrArg (fun z => (jn (hC g h0 ct cl rd z (va_up cy w (cy w2)) rw tl sp) X)) bcB_put, rfl⟩
theorem c_hurtT {l : Launch} {g : GG} {X : PHp} {h0 : HZ} {ct : CTt} {cl : I2} {rd : RDt} {B : I2} {cy : Nat → Nat} {rw : RWt} {tl : TLt} {sp : SPt} {P : Nat → Prop} {b D : I1} {w n m : Nat} (hw : w < 3) (hT : TR P b D n m) (hP : ∀ i, P i) (hI : CI b n m) : Ct l g yX8_hurtOfAll cX8_hurtOfAll 3 (some .int) 1 0 0 [rf g (6, w, 0)] NN (jn (hC g h0 ct cl rd (putR B w b) cy rw tl sp) X) (pI (alR D 4 n) (jn (hC g h0 ct cl rd (putR B w b) cy rw tl sp) X)) := by
  have h := c_hurtOfAll (l := l) (g := g) (X := X) (h0 := h0) (ct := ct) (cl := cl) (rd := rd) (B := putR B w b) (cy := cy) (rw := rw) (tl := tl) (sp := sp) (n := n) (m := m) hw (by rw [putR_w]; exact hI)
  rw [putR_w, hT.all hP (by omega)] at h
  exact h
theorem c_coverT {l : Launch} {g : GG} {X : PHp} {h0 : HZ} {ct : CTt} {cl : I2} {rd : RDt} {B : I2} {cy : Nat → Nat} {rw : RWt} {tl : TLt} {sp : SPt} {P : Nat → Prop} {b D : I1} {w n m : Nat} (hw : w < 3) (hT : TR P b D n m) (hP : ∀ i, P i) (hI : CI b n m) : Ct l g yX8_coverOfAll cX8_coverOfAll 3 (some .int) 1 0 0 [rf g (6, w, 0)] NN (jn (hC g h0 ct cl rd (putR B w b) cy rw tl sp) X) (pI (alR D 2 n) (jn (hC g h0 ct cl rd (putR B w b) cy rw tl sp) X)) := by
  have h := c_coverOfAll (l := l) (g := g) (X := X) (h0 := h0) (ct := ct) (cl := cl) (rd := rd) (B := putR B w b) (cy := cy) (rw := rw) (tl := tl) (sp := sp) (n := n) (m := m) hw (by rw [putR_w]; exact hI)
  rw [putR_w, hT.all hP (by omega)] at h
  exact h
theorem c_isOut {l : Launch} {g : GG} {P : PHp} {v a : Int32} : Ct l g yX9_isOut cX9_isOut 2 (some .boolean) 1 0 0 [.int v, .int a] NN P (pI (b2i (¬ inR v (nI 0) a = true)) P) := by
  refine Ct.of (lv := [some (.int v), some (.int a)]) (by decide +kernel) rfl (Nat.le_of_ble_eq_true rfl) ?_
  intro Γ C
  refine V.iload_n (q := 1) C dX9_isOut_0 rfl rfl ?_
  refine V.if_lt (q := 4) (tgt := 9) C dX9_isOut_1 rfl rfl (fun hb1 => ?_) (fun hb1 => ?_)
  · refine V.iconst (q := 10) (v := nI 1) C dX9_isOut_9 rfl (by decide) ?_
    refine V.goto (tgt := 14) C dX9_isOut_10 rfl ?_
    exact V.zreturn C dX9_isOut_14 rfl ⟨congrArg (fun x => some (Value.int x)) (b2i_t (p := ¬ inR v (nI 0) a = true) (fun z => (InR_iff.mp z).1 hb1)).symm, rfl, rfl⟩
  · refine V.iload_n (q := 5) C dX9_isOut_4 rfl rfl ?_
    refine V.iload_n (q := 6) C dX9_isOut_5 rfl rfl ?_
    refine V.icmp_le (q := 9) (tgt := 13) C dX9_isOut_6 rfl rfl (fun hb6 => ?_) (fun hb6 => ?_)
    · refine V.iconst (q := 14) (v := nI 0) C dX9_isOut_13 rfl (by decide) ?_
      exact V.zreturn C dX9_isOut_14 rfl ⟨congrArg (fun x => some (Value.int x)) (b2i_f (fun z => z (InR_iff.mpr ⟨hb1, Int32.not_lt.mpr hb6⟩))).symm, rfl, rfl⟩
    · refine V.iconst (q := 10) (v := nI 1) C dX9_isOut_9 rfl (by decide) ?_
      refine V.goto (tgt := 14) C dX9_isOut_10 rfl ?_
      exact V.zreturn C dX9_isOut_14 rfl ⟨congrArg (fun x => some (Value.int x)) (b2i_t (p := ¬ inR v (nI 0) a = true) (fun z => (InR_iff.mp z).2 (Int32.not_le.mp hb6))).symm, rfl, rfl⟩
theorem c_kindAbove {l : Launch} {g : GG} {P : PHp} {v : Int32} : Ct l g yX9_kindAbove cX9_kindAbove 1 (some .int) 1 0 0 [.int v] NN P (pI (kab v) P) := by
  refine Ct.of (lv := [some (.int v)]) (by decide +kernel) rfl (Nat.le_of_ble_eq_true rfl) ?_
  intro Γ C
  refine V.iload_n (q := 1) C dX9_kindAbove_0 rfl rfl ?_
  refine V.tsw (lo := 4) (N := 3) (tgt := 34) C dX9_kindAbove_1 (by decide) (by decide) rfl (fun k hk hx1 => ?_) (fun hx1 => ?_)
  · obtain rfl | rfl | rfl := (show k = 0 ∨ k = 1 ∨ k = 2 by omega)
    · refine ⟨_, 28, rfl, rfl, ?_⟩
      replace hx1 : _ = nI 4 := hx1
      refine V.iconst (q := 29) (v := nI 1) C dX9_kindAbove_28 rfl (by decide) ?_
      exact V.ireturn C dX9_kindAbove_29 ⟨by rw [hx1]; rfl, rfl, rfl⟩
    · refine ⟨_, 30, rfl, rfl, ?_⟩
      replace hx1 : _ = nI 5 := hx1
      refine V.iconst (q := 31) (v := nI 2) C dX9_kindAbove_30 rfl (by decide) ?_
      exact V.ireturn C dX9_kindAbove_31 ⟨by rw [hx1]; rfl, rfl, rfl⟩
    · refine ⟨_, 32, rfl, rfl, ?_⟩
      replace hx1 : _ = nI 6 := hx1
      refine V.iconst (q := 33) (v := nI 3) C dX9_kindAbove_32 rfl (by decide) ?_
      exact V.ireturn C dX9_kindAbove_33 ⟨by rw [hx1]; rfl, rfl, rfl⟩
  · refine V.iconst (q := 35) (v := nI 0) C dX9_kindAbove_34 rfl (by decide) ?_
    exact V.ireturn C dX9_kindAbove_35 ⟨congrArg (fun x => some (Value.int x)) (show nI 0 = kab v by rw [kab, if_neg (hx1 0 (by omega)), if_neg (hx1 1 (by omega)), if_neg (hx1 2 (by omega))]), rfl, rfl⟩
def wearerB (B : I2) (n : Nat) (k v c : Int32) : I2 := if inR k (nI 0) (nI 6) then (if inR v (nI 0) (nI 9) then (if inR c (nI 0) (nI 99) then adW B 0 n k v c else B) else B) else B
theorem c_wearer {l : Launch} {g : GG} {X : PHp} {h0 : HZ} {ct : CTt} {cl : I2} {rd : RDt} {B : I2} {cy : Nat → Nat} {rw : RWt} {tl : TLt} {sp : SPt} {n m : Nat} (hI : CI (B 0) n m) {k v c : Int32} : Ct l g yX9_wearer cX9_wearer 4 (some .int) 24 0 0 [rf g (0, 0, 0), .int k, .int v, .int c] NN (jn (hC g h0 ct cl rd B cy rw tl sp) X) (pI (wearerR n k v c) (jn (hC g h0 ct cl rd (wearerB B n k v c) cy rw tl sp) X)) := by
  refine Ct.of (lv := [some (rf g (0, 0, 0)), some (.int k), some (.int v), some (.int c)]) (by decide +kernel) rfl (Nat.le_of_ble_eq_true rfl) ?_
  intro Γ C
  have h6 := hI.2.1
  have h8 := hI.2.2.2
  refine V.iload_n (q := 1) C dX9_wearer_0 rfl rfl ?_
  refine V.bipush (q := 3) (v := nI 6) C dX9_wearer_1 rfl (by decide) ?_
  refine V.callSi (q := 6) C me_X9_isOut c_isOut ml_X9_70 dX9_wearer_3 rfl rfl rfl (Nat.le_of_ble_eq_true rfl) (by omega) (Nat.zero_le _) (Nat.zero_le _) ?_
  refine V.if_eqB (q := 9) (tgt := 11) C dX9_wearer_6 rfl rfl (fun hb6 => ?_) (fun hb6 => ?_)
  · replace hb6 := Decidable.not_not.mp hb6
    refine V.iload_n (q := 12) C dX9_wearer_11 rfl rfl ?_
    refine V.bipush (q := 14) (v := nI 9) C dX9_wearer_12 rfl (by decide) ?_
    refine V.callSi (q := 17) C me_X9_isOut c_isOut ml_X9_70 dX9_wearer_14 rfl rfl rfl (Nat.le_of_ble_eq_true rfl) (by omega) (Nat.zero_le _) (Nat.zero_le _) ?_
    refine V.if_neB (q := 20) (tgt := 29) C dX9_wearer_17 rfl rfl (fun hb17 => ?_) (fun hb17 => ?_)
    · refine V.bipush (q := 31) (v := -2) C dX9_wearer_29 rfl (by decide) ?_
      exact V.ireturn C dX9_wearer_31 ⟨by simp only [wearerR, hb6, hb17, Bool.false_eq_true, ↓reduceIte], by simp only [wearerB, hb6, hb17, Bool.false_eq_true, ↓reduceIte], rfl⟩
    · replace hb17 := Decidable.not_not.mp hb17
      refine V.iload_n (q := 21) C dX9_wearer_20 rfl rfl ?_
      refine V.bipush (q := 23) (v := nI 99) C dX9_wearer_21 rfl (by decide) ?_
      refine V.callSi (q := 26) C me_X9_isOut c_isOut ml_X9_70 dX9_wearer_23 rfl rfl rfl (Nat.le_of_ble_eq_true rfl) (by omega) (Nat.zero_le _) (Nat.zero_le _) ?_
      refine V.if_eqB (q := 29) (tgt := 32) C dX9_wearer_26 rfl rfl (fun hb26 => ?_) (fun hb26 => ?_)
      · replace hb26 := Decidable.not_not.mp hb26
        refine V.aload_n (q := 33) C dX9_wearer_32 rfl rfl ?_
        refine V.get (q := 36) C fl_X9_27 dX9_wearer_33 rfl okC_0 rfl rfl ?_
        refine V.iload_n (q := 37) C dX9_wearer_36 rfl rfl ?_
        refine V.iload_n (q := 38) C dX9_wearer_37 rfl rfl ?_
        refine V.iload_n (q := 39) C dX9_wearer_38 rfl rfl ?_
        refine V.callVi (q := 42) C me_X8_addWearer (c_addWearer (by omega) hI) ml_X9_74 dX9_wearer_39 rfl (okC_6 (by omega)) ⟨_, rfl⟩ rfl rfl (Nat.le_of_ble_eq_true rfl) (by omega) (Nat.zero_le _) (Nat.zero_le _) ?_
        exact V.ireturn C dX9_wearer_42 ⟨by simp only [wearerR, hb6, hb17, hb26, Bool.false_eq_true, ↓reduceIte], by simp only [wearerB, hb6, hb17, hb26, Bool.false_eq_true, ↓reduceIte], rfl⟩
      · refine V.bipush (q := 31) (v := -2) C dX9_wearer_29 rfl (by decide) ?_
        exact V.ireturn C dX9_wearer_31 ⟨by simp only [wearerR, hb6, hb17, hb26, Bool.false_eq_true, ↓reduceIte], by simp only [wearerB, hb6, hb17, hb26, Bool.false_eq_true, ↓reduceIte], rfl⟩
  · refine V.iconst (q := 10) (v := -1) C dX9_wearer_9 rfl (by decide) ?_
    exact V.ireturn C dX9_wearer_10 ⟨by simp only [wearerR, hb6, Bool.false_eq_true, ↓reduceIte], by simp only [wearerB, hb6, Bool.false_eq_true, ↓reduceIte], rfl⟩
def sayingB (B : I2) (m : Nat) (h e : Int32) : I2 := if inR h (nI 0) (nI 60) then (if inR e (nI 1) (nI 9) then adS B 0 m h e else B) else B
theorem c_saying {l : Launch} {g : GG} {X : PHp} {h0 : HZ} {ct : CTt} {cl : I2} {rd : RDt} {B : I2} {cy : Nat → Nat} {rw : RWt} {tl : TLt} {sp : SPt} {n m : Nat} (hI : CI (B 0) n m) {h e : Int32} : Ct l g yX9_saying cX9_saying 3 (some .int) 24 0 0 [rf g (0, 0, 0), .int h, .int e] NN (jn (hC g h0 ct cl rd B cy rw tl sp) X) (pI (sayingR m h e) (jn (hC g h0 ct cl rd (sayingB B m h e) cy rw tl sp) X)) := by
  refine Ct.of (lv := [some (rf g (0, 0, 0)), some (.int h), some (.int e)]) (by decide +kernel) rfl (Nat.le_of_ble_eq_true rfl) ?_
  intro Γ C
  have h6 := hI.2.1
  have h8 := hI.2.2.2
  refine V.iload_n (q := 1) C dX9_saying_0 rfl rfl ?_
  refine V.bipush (q := 3) (v := nI 60) C dX9_saying_1 rfl (by decide) ?_
  refine V.callSi (q := 6) C me_X9_isOut c_isOut ml_X9_70 dX9_saying_3 rfl rfl rfl (Nat.le_of_ble_eq_true rfl) (by omega) (Nat.zero_le _) (Nat.zero_le _) ?_
  refine V.if_neB (q := 9) (tgt := 20) C dX9_saying_6 rfl rfl (fun hb6 => ?_) (fun hb6 => ?_)
  · refine V.bipush (q := 22) (v := -2) C dX9_saying_20 rfl (by decide) ?_
    exact V.ireturn C dX9_saying_22 ⟨by simp only [sayingR, hb6, Bool.false_eq_true, ↓reduceIte], by simp only [sayingB, hb6, Bool.false_eq_true, ↓reduceIte], rfl⟩
  · replace hb6 := Decidable.not_not.mp hb6
    refine V.iload_n (q := 10) C dX9_saying_9 rfl rfl ?_
    refine V.iconst (q := 11) (v := nI 1) C dX9_saying_10 rfl (by decide) ?_
    refine V.icmp_lt (q := 14) (tgt := 20) C dX9_saying_11 rfl rfl (fun hb11 => ?_) (fun hb11 => ?_)
    · have he : ¬ inR e (nI 1) (nI 9) = true := fun z => (InR_iff.mp z).1 hb11
      refine V.bipush (q := 22) (v := -2) C dX9_saying_20 rfl (by decide) ?_
      exact V.ireturn C dX9_saying_22 ⟨by simp only [sayingR, hb6, he, Bool.false_eq_true, ↓reduceIte], by simp only [sayingB, hb6, he, Bool.false_eq_true, ↓reduceIte], rfl⟩
    · refine V.iload_n (q := 15) C dX9_saying_14 rfl rfl ?_
      refine V.bipush (q := 17) (v := nI 9) C dX9_saying_15 rfl (by decide) ?_
      refine V.icmp_le (q := 20) (tgt := 23) C dX9_saying_17 rfl rfl (fun hb17 => ?_) (fun hb17 => ?_)
      · have he : inR e (nI 1) (nI 9) = true := InR_iff.mpr ⟨hb11, Int32.not_lt.mpr hb17⟩
        refine V.aload_n (q := 24) C dX9_saying_23 rfl rfl ?_
        refine V.get (q := 27) C fl_X9_27 dX9_saying_24 rfl okC_0 rfl rfl ?_
        refine V.iload_n (q := 28) C dX9_saying_27 rfl rfl ?_
        refine V.iload_n (q := 29) C dX9_saying_28 rfl rfl ?_
        refine V.callVi (q := 32) C me_X8_addSaying (c_addSaying (by omega) hI) ml_X9_118 dX9_saying_29 rfl (okC_6 (by omega)) ⟨_, rfl⟩ rfl rfl (Nat.le_of_ble_eq_true rfl) (by omega) (Nat.zero_le _) (Nat.zero_le _) ?_
        exact V.ireturn C dX9_saying_32 ⟨by simp only [sayingR, hb6, he, Bool.false_eq_true, ↓reduceIte], by simp only [sayingB, hb6, he, Bool.false_eq_true, ↓reduceIte], rfl⟩
      · have he : ¬ inR e (nI 1) (nI 9) = true := fun z => (InR_iff.mp z).2 (Int32.not_le.mp hb17)
        refine V.bipush (q := 22) (v := -2) C dX9_saying_20 rfl (by decide) ?_
        exact V.ireturn C dX9_saying_22 ⟨by simp only [sayingR, hb6, he, Bool.false_eq_true, ↓reduceIte], by simp only [sayingB, hb6, he, Bool.false_eq_true, ↓reduceIte], rfl⟩
theorem ph_k {A : I1} {m j k : Nat} {s : Int32} (h : inN s m = true) (hj : s = nI j) (h9 : j < 8) (hk : k < 2) : phraseR A m s (nI k) = A (54 + 3 * j + k) := by
  subst hj
  rw [phraseR, if_pos h, if_pos (InR_of (by omega) (by omega) (by omega) (by omega)), if_neg (fun e => absurd ((nI_eq (by omega) (by omega)).mp e) (by omega)), ix_k (by omega), ix_k (by omega)]
theorem ph_2 {A : I1} {m j : Nat} {s : Int32} (h : inN s m = true) (hj : s = nI j) (h9 : j < 8) : phraseR A m s (nI 2) = noN (A (54 + 3 * j + 2)) := by
  subst hj
  rw [phraseR, if_pos h, if_pos (by decide), if_pos rfl, ix_k (by omega)]
theorem ph_d {A : I1} {m : Nat} {s x : Int32} (h : ∀ k, k < 3 → x ≠ nI (0 + k)) : phraseR A m s x = -1 := by
  rw [phraseR]
  split
  · rw [if_neg]
    intro z
    obtain ⟨j, -, hj, e⟩ := InR_nat (by omega) (by omega) z
    exact h j (by omega) (by rw [e, Nat.zero_add])
  · rfl
theorem c_phrase {l : Launch} {g : GG} {X : PHp} {h0 : HZ} {ct : CTt} {cl : I2} {rd : RDt} {B : I2} {cy : Nat → Nat} {rw : RWt} {tl : TLt} {sp : SPt} {A : I1} {n m : Nat} (hI : CI (B 0) n m) (hT : TR TT (B 0) A n m) {s x : Int32} : Ct l g yX9_phrase cX9_phrase 4 (some .int) 24 0 0 [rf g (0, 0, 0), .int s, .int x] NN (jn (hC g h0 ct cl rd B cy rw tl sp) X) (pI (phraseR A m s x) (jn (hC g h0 ct cl rd B cy rw tl sp) X)) := by
  refine Ct.of (lv := [some (rf g (0, 0, 0)), some (.int s), some (.int x), none]) (by decide +kernel) rfl (Nat.le_of_ble_eq_true rfl) ?_
  intro Γ C
  have h6 := hI.2.1
  have h8 := hI.2.2.2
  refine V.aload_n (q := 1) C dX9_phrase_0 rfl rfl ?_
  refine V.get (q := 4) C fl_X9_27 dX9_phrase_1 rfl okC_0 rfl rfl ?_
  refine V.iload_n (q := 5) C dX9_phrase_4 rfl rfl ?_
  refine V.callVi (q := 8) C me_X8_hasSaying (c_hasSaying (by omega) hI) ml_X9_111 dX9_phrase_5 rfl (okC_6 (by omega)) ⟨_, rfl⟩ rfl rfl (Nat.le_of_ble_eq_true rfl) (by omega) (Nat.zero_le _) (Nat.zero_le _) ?_
  refine V.if_neB (q := 11) (tgt := 13) C dX9_phrase_8 rfl rfl (fun hb8 => ?_) (fun hb8 => ?_)
  · have hm8 := hb8
    obtain ⟨j, hj, rfl⟩ := InN_nat (by omega) hb8
    have hj8 : j < 8 := by omega
    refine V.aload_n (q := 14) C dX9_phrase_13 rfl rfl ?_
    refine V.get (q := 17) C fl_X9_27 dX9_phrase_14 rfl okC_0 rfl rfl ?_
    refine V.get (q := 20) C fl_X9_122 dX9_phrase_17 rfl (okC_6 (by omega)) rfl rfl ?_
    refine V.iload_n (q := 21) C dX9_phrase_20 rfl rfl ?_
    refine V.rld (q := 22) (i := j) C rfl dX9_phrase_21 rfl (okC_8 (by omega)) rfl rfl (by omega) (by decide) ?_
    refine V.astore_n (q := 23) C dX9_phrase_22 rfl (by decide) rfl rfl ?_
    refine V.iload_n (q := 24) C dX9_phrase_23 rfl rfl ?_
    refine V.tsw (lo := 0) (N := 3) (tgt := 67) C dX9_phrase_24 (by decide) (by decide) rfl (fun k hk hx24 => ?_) (fun hx24 => ?_)
    · obtain rfl | rfl | rfl := (show k = 0 ∨ k = 1 ∨ k = 2 by omega)
      · refine ⟨_, 52, rfl, rfl, ?_⟩
        replace hx24 : _ = nI 0 := hx24
        refine V.aload_n (q := 53) C dX9_phrase_52 rfl rfl ?_
        refine V.get (q := 56) C fl_X9_126 dX9_phrase_53 rfl (okC_11 (by omega) (by omega)) rfl rfl ?_
        exact V.ireturn C dX9_phrase_56 ⟨by rw [hx24, ph_k (k := 0) hm8 rfl hj8 (by omega)]; exact congrArg (fun x => some (Value.int x)) (hT.2.1 j hj).1, rfl, rfl⟩
      · refine ⟨_, 57, rfl, rfl, ?_⟩
        replace hx24 : _ = nI 1 := hx24
        refine V.aload_n (q := 58) C dX9_phrase_57 rfl rfl ?_
        refine V.get (q := 61) C fl_X9_131 dX9_phrase_58 rfl (okC_11 (by omega) (by omega)) rfl rfl ?_
        exact V.ireturn C dX9_phrase_61 ⟨by rw [hx24, ph_k (k := 1) hm8 rfl hj8 (by omega)]; exact congrArg (fun x => some (Value.int x)) (hT.2.1 j hj).2.1, rfl, rfl⟩
      · refine ⟨_, 62, rfl, rfl, ?_⟩
        replace hx24 : _ = nI 2 := hx24
        refine V.aload_n (q := 63) C dX9_phrase_62 rfl rfl ?_
        refine V.get (q := 66) C fl_X9_134 dX9_phrase_63 rfl (okC_11 (by omega) (by omega)) rfl rfl ?_
        exact V.ireturn C dX9_phrase_66 ⟨by rw [hx24, ph_2 hm8 rfl hj8]; exact congrArg (fun x => some (Value.int x)) (hT.2.1 j hj).2.2, rfl, rfl⟩
    · refine V.iconst (q := 68) (v := -1) C dX9_phrase_67 rfl (by decide) ?_
      exact V.ireturn C dX9_phrase_68 ⟨by rw [ph_d hx24], rfl, rfl⟩
  · refine V.iconst (q := 12) (v := -1) C dX9_phrase_11 rfl (by decide) ?_
    exact V.ireturn C dX9_phrase_12 ⟨by rw [phraseR, if_neg hb8], rfl, rfl⟩
def aimB (B : I2) (m n : Nat) (s p : Int32) : I2 := if inN s m then (if p = -1 then setB B 0 (54 + 3 * ix s + 2) (-5) else if inN p n then setB B 0 (54 + 3 * ix s + 2) p else B) else B
theorem c_aim {l : Launch} {g : GG} {X : PHp} {h0 : HZ} {ct : CTt} {cl : I2} {rd : RDt} {B : I2} {cy : Nat → Nat} {rw : RWt} {tl : TLt} {sp : SPt} {A : I1} {n m : Nat} (hI : CI (B 0) n m) (hT : TR TT (B 0) A n m) {s p : Int32} : Ct l g yX9_aim cX9_aim 5 (some .int) 24 0 0 [rf g (0, 0, 0), .int s, .int p] NN (jn (hC g h0 ct cl rd B cy rw tl sp) X) (pI (aimR A m n s p) (jn (hC g h0 ct cl rd (aimB B m n s p) cy rw tl sp) X)) := by
  refine Ct.of (lv := [some (rf g (0, 0, 0)), some (.int s), some (.int p), none, none]) (by decide +kernel) rfl (Nat.le_of_ble_eq_true rfl) ?_
  intro Γ C
  have h6 := hI.2.1
  have h8 := hI.2.2.2
  refine V.aload_n (q := 1) C dX9_aim_0 rfl rfl ?_
  refine V.get (q := 4) C fl_X9_27 dX9_aim_1 rfl okC_0 rfl rfl ?_
  refine V.iload_n (q := 5) C dX9_aim_4 rfl rfl ?_
  refine V.callVi (q := 8) C me_X8_hasSaying (c_hasSaying (by omega) hI) ml_X9_111 dX9_aim_5 rfl (okC_6 (by omega)) ⟨_, rfl⟩ rfl rfl (Nat.le_of_ble_eq_true rfl) (by omega) (Nat.zero_le _) (Nat.zero_le _) ?_
  refine V.if_eqB (q := 11) (tgt := 27) C dX9_aim_8 rfl rfl (fun hb8 => ?_) (fun hb8 => ?_)
  · refine V.iconst (q := 28) (v := -1) C dX9_aim_27 rfl (by decide) ?_
    exact V.ireturn C dX9_aim_28 ⟨by rw [aimR, if_neg hb8], by rw [aimB, if_neg hb8], rfl⟩
  · have hm8 := hb8
    obtain ⟨j, hj, rfl⟩ := InN_nat (by omega) hb8
    have hj8 : j < 8 := by omega
    have ij := ix_k (k := j) (by omega)
    refine V.iload_n (q := 12) C dX9_aim_11 rfl rfl ?_
    refine V.iconst (q := 13) (v := -1) C dX9_aim_12 rfl (by decide) ?_
    refine V.icmp_eq (q := 16) (tgt := 29) C dX9_aim_13 rfl rfl (fun hb13 => ?_) (fun hb13 => ?_)
    · have hp := hb13
      refine V.aload_n (q := 30) C dX9_aim_29 rfl rfl ?_
      refine V.get (q := 33) C fl_X9_27 dX9_aim_30 rfl okC_0 rfl rfl ?_
      refine V.get (q := 36) C fl_X9_122 dX9_aim_33 rfl (okC_6 (by omega)) rfl rfl ?_
      refine V.iload_n (q := 37) C dX9_aim_36 rfl rfl ?_
      refine V.rld (q := 38) (i := j) C rfl dX9_aim_37 rfl (okC_8 (by omega)) rfl rfl (by omega) (by decide) ?_
      refine V.astore_n (q := 39) C dX9_aim_38 rfl (by decide) rfl rfl ?_
      refine V.aload_n (q := 40) C dX9_aim_39 rfl rfl ?_
      refine V.get (q := 43) C fl_X9_134 dX9_aim_40 rfl (okC_11 (by omega) (by omega)) rfl rfl ?_
      refine V.istore (q := 45) C dX9_aim_43 rfl (by decide) rfl rfl ?_
      refine V.aload_n (q := 46) C dX9_aim_45 rfl rfl ?_
      refine V.iload_n (q := 47) C dX9_aim_46 rfl rfl ?_
      refine V.iconst (q := 48) (v := -1) C dX9_aim_47 rfl (by decide) ?_
      refine V.icmp_ne (q := 51) (tgt := 56) C dX9_aim_48 rfl rfl (fun hb48 => ?_) (fun hb48 => ?_)
      · exact absurd hp hb48
      · refine V.bipush (q := 53) (v := -5) C dX9_aim_51 rfl (by decide) ?_
        refine V.goto (tgt := 57) C dX9_aim_53 rfl ?_
        refine V.put (q := 60) C fl_X9_134 rfl dX9_aim_57 rfl (okC_11 (by omega) (by omega)) rfl (Nat.le_of_ble_eq_true rfl) rfl rfl rfl ?_
        refine V.phE (uC_11_2 (by omega)) ?_
        refine V.iload (q := 62) C dX9_aim_60 rfl rfl ?_
        exact V.ireturn C dX9_aim_62 ⟨by rw [aimR, if_pos hm8, if_pos hp, ij]; exact congrArg (fun x => some (Value.int x)) (hT.2.1 j hj).2.2, by rw [aimB, if_pos hm8, if_pos hp, ij], rfl⟩
    · have hp := hb13
      refine V.aload_n (q := 17) C dX9_aim_16 rfl rfl ?_
      refine V.get (q := 20) C fl_X9_27 dX9_aim_17 rfl okC_0 rfl rfl ?_
      refine V.iload_n (q := 21) C dX9_aim_20 rfl rfl ?_
      refine V.callVi (q := 24) C me_X8_hasWearer (c_hasWearer (by omega) hI) ml_X9_78 dX9_aim_21 rfl (okC_6 (by omega)) ⟨_, rfl⟩ rfl rfl (Nat.le_of_ble_eq_true rfl) (by omega) (Nat.zero_le _) (Nat.zero_le _) ?_
      refine V.if_neB (q := 27) (tgt := 29) C dX9_aim_24 rfl rfl (fun hb24 => ?_) (fun hb24 => ?_)
      · refine V.aload_n (q := 30) C dX9_aim_29 rfl rfl ?_
        refine V.get (q := 33) C fl_X9_27 dX9_aim_30 rfl okC_0 rfl rfl ?_
        refine V.get (q := 36) C fl_X9_122 dX9_aim_33 rfl (okC_6 (by omega)) rfl rfl ?_
        refine V.iload_n (q := 37) C dX9_aim_36 rfl rfl ?_
        refine V.rld (q := 38) (i := j) C rfl dX9_aim_37 rfl (okC_8 (by omega)) rfl rfl (by omega) (by decide) ?_
        refine V.astore_n (q := 39) C dX9_aim_38 rfl (by decide) rfl rfl ?_
        refine V.aload_n (q := 40) C dX9_aim_39 rfl rfl ?_
        refine V.get (q := 43) C fl_X9_134 dX9_aim_40 rfl (okC_11 (by omega) (by omega)) rfl rfl ?_
        refine V.istore (q := 45) C dX9_aim_43 rfl (by decide) rfl rfl ?_
        refine V.aload_n (q := 46) C dX9_aim_45 rfl rfl ?_
        refine V.iload_n (q := 47) C dX9_aim_46 rfl rfl ?_
        refine V.iconst (q := 48) (v := -1) C dX9_aim_47 rfl (by decide) ?_
        refine V.icmp_ne (q := 51) (tgt := 56) C dX9_aim_48 rfl rfl (fun hb48 => ?_) (fun hb48 => ?_)
        · refine V.iload_n (q := 57) C dX9_aim_56 rfl rfl ?_
          refine V.put (q := 60) C fl_X9_134 rfl dX9_aim_57 rfl (okC_11 (by omega) (by omega)) rfl (Nat.le_of_ble_eq_true rfl) rfl rfl rfl ?_
          refine V.phE (uC_11_2 (by omega)) ?_
          refine V.iload (q := 62) C dX9_aim_60 rfl rfl ?_
          exact V.ireturn C dX9_aim_62 ⟨by rw [aimR, if_pos hm8, if_neg hp, if_pos hb24, ij]; exact congrArg (fun x => some (Value.int x)) (hT.2.1 j hj).2.2, by rw [aimB, if_pos hm8, if_neg hp, if_pos hb24, ij], rfl⟩
        · exact absurd hb48 hp
      · refine V.iconst (q := 28) (v := -1) C dX9_aim_27 rfl (by decide) ?_
        exact V.ireturn C dX9_aim_28 ⟨by rw [aimR, if_pos hm8, if_neg hb13, if_neg hb24], by rw [aimB, if_pos hm8, if_neg hb13, if_neg hb24], rfl⟩
def mendB (B : I2) (n : Nat) (p c : Int32) : I2 := if inN p n then (if inR c (nI 0) (nI 99) then setB B 0 (9 * ix p + 2) c else B) else B
def rowB (B : I2) (n : Nat) (p t c : Int32) : I2 := if inN p n then (if inR t (nI 0) (nI 3) then (if inR c (nI 0) (nI 9) then (if B 0 (9 * ix p + 0) = nI 6 then setB B 0 (9 * ix p + (5 + ix t)) c else B) else B) else B) else B
theorem c_mend {l : Launch} {g : GG} {X : PHp} {h0 : HZ} {ct : CTt} {cl : I2} {rd : RDt} {B : I2} {cy : Nat → Nat} {rw : RWt} {tl : TLt} {sp : SPt} {A : I1} {n m : Nat} (hI : CI (B 0) n m) (hT : TR TT (B 0) A n m) {p c : Int32} : Ct l g yX9_mend cX9_mend 5 (some .int) 24 0 0 [rf g (0, 0, 0), .int p, .int c] NN (jn (hC g h0 ct cl rd B cy rw tl sp) X) (pI (mendR A n p c) (jn (hC g h0 ct cl rd (mendB B n p c) cy rw tl sp) X)) := by
  refine Ct.of (lv := [some (rf g (0, 0, 0)), some (.int p), some (.int c), none, none]) (by decide +kernel) rfl (Nat.le_of_ble_eq_true rfl) ?_
  intro Γ C
  have h6 := hI.2.1
  have h8 := hI.2.2.2
  refine V.aload_n (q := 1) C dX9_mend_0 rfl rfl ?_
  refine V.get (q := 4) C fl_X9_27 dX9_mend_1 rfl okC_0 rfl rfl ?_
  refine V.iload_n (q := 5) C dX9_mend_4 rfl rfl ?_
  refine V.callVi (q := 8) C me_X8_hasWearer (c_hasWearer (by omega) hI) ml_X9_78 dX9_mend_5 rfl (okC_6 (by omega)) ⟨_, rfl⟩ rfl rfl (Nat.le_of_ble_eq_true rfl) (by omega) (Nat.zero_le _) (Nat.zero_le _) ?_
  refine V.if_neB (q := 11) (tgt := 13) C dX9_mend_8 rfl rfl (fun hb8 => ?_) (fun hb8 => ?_)
  · have hn8 := hb8
    obtain ⟨j, hj, rfl⟩ := InN_nat (by omega) hb8
    have hj6 : j < 6 := by omega
    have ij := ix_k (k := j) (by omega)
    refine V.iload_n (q := 14) C dX9_mend_13 rfl rfl ?_
    refine V.bipush (q := 16) (v := nI 99) C dX9_mend_14 rfl (by decide) ?_
    refine V.callSi (q := 19) C me_X9_isOut c_isOut ml_X9_70 dX9_mend_16 rfl rfl rfl (Nat.le_of_ble_eq_true rfl) (by omega) (Nat.zero_le _) (Nat.zero_le _) ?_
    refine V.if_eqB (q := 22) (tgt := 25) C dX9_mend_19 rfl rfl (fun hb19 => ?_) (fun hb19 => ?_)
    · replace hb19 := Decidable.not_not.mp hb19
      refine V.aload_n (q := 26) C dX9_mend_25 rfl rfl ?_
      refine V.get (q := 29) C fl_X9_27 dX9_mend_26 rfl okC_0 rfl rfl ?_
      refine V.get (q := 32) C fl_X9_82 dX9_mend_29 rfl (okC_6 (by omega)) rfl rfl ?_
      refine V.iload_n (q := 33) C dX9_mend_32 rfl rfl ?_
      refine V.rld (q := 34) (i := j) C rfl dX9_mend_33 rfl (okC_7 (by omega)) rfl rfl (by omega) (by decide) ?_
      refine V.astore_n (q := 35) C dX9_mend_34 rfl (by decide) rfl rfl ?_
      refine V.aload_n (q := 36) C dX9_mend_35 rfl rfl ?_
      refine V.get (q := 39) C fl_X9_94 dX9_mend_36 rfl (okC_9 (by omega) (by omega)) rfl rfl ?_
      refine V.istore (q := 41) C dX9_mend_39 rfl (by decide) rfl rfl ?_
      refine V.aload_n (q := 42) C dX9_mend_41 rfl rfl ?_
      refine V.iload_n (q := 43) C dX9_mend_42 rfl rfl ?_
      refine V.put (q := 46) C fl_X9_94 rfl dX9_mend_43 rfl (okC_9 (by omega) (by omega)) rfl (Nat.le_of_ble_eq_true rfl) rfl rfl rfl ?_
      refine V.phE (uC_9_4 (by omega)) ?_
      refine V.iload (q := 48) C dX9_mend_46 rfl rfl ?_
      exact V.ireturn C dX9_mend_48 ⟨by rw [mendR, if_pos hn8, if_pos hb19, ij]; exact congrArg (fun x => some (Value.int x)) (hT.1 j hj trivial 2 (by omega)), by rw [mendB, if_pos hn8, if_pos hb19, ij], rfl⟩
    · refine V.bipush (q := 24) (v := -2) C dX9_mend_22 rfl (by decide) ?_
      exact V.ireturn C dX9_mend_24 ⟨by rw [mendR, if_pos hn8, if_neg hb19], by rw [mendB, if_pos hn8, if_neg hb19], rfl⟩
  · refine V.iconst (q := 12) (v := -1) C dX9_mend_11 rfl (by decide) ?_
    exact V.ireturn C dX9_mend_12 ⟨by rw [mendR, if_neg hb8], by rw [mendB, if_neg hb8], rfl⟩
theorem c_row {l : Launch} {g : GG} {X : PHp} {h0 : HZ} {ct : CTt} {cl : I2} {rd : RDt} {B : I2} {cy : Nat → Nat} {rw : RWt} {tl : TLt} {sp : SPt} {A : I1} {n m : Nat} (hI : CI (B 0) n m) (hT : TR TT (B 0) A n m) {p t c : Int32} : Ct l g yX9_row cX9_row 6 (some .int) 24 0 0 [rf g (0, 0, 0), .int p, .int t, .int c] NN (jn (hC g h0 ct cl rd B cy rw tl sp) X) (pI (rowR A n p t c) (jn (hC g h0 ct cl rd (rowB B n p t c) cy rw tl sp) X)) := by
  refine Ct.of (lv := [some (rf g (0, 0, 0)), some (.int p), some (.int t), some (.int c), none, none]) (by decide +kernel) rfl (Nat.le_of_ble_eq_true rfl) ?_
  intro Γ C
  have h6 := hI.2.1
  have h8 := hI.2.2.2
  refine V.aload_n (q := 1) C dX9_row_0 rfl rfl ?_
  refine V.get (q := 4) C fl_X9_27 dX9_row_1 rfl okC_0 rfl rfl ?_
  refine V.iload_n (q := 5) C dX9_row_4 rfl rfl ?_
  refine V.callVi (q := 8) C me_X8_hasWearer (c_hasWearer (by omega) hI) ml_X9_78 dX9_row_5 rfl (okC_6 (by omega)) ⟨_, rfl⟩ rfl rfl (Nat.le_of_ble_eq_true rfl) (by omega) (Nat.zero_le _) (Nat.zero_le _) ?_
  refine V.if_eqB (q := 11) (tgt := 19) C dX9_row_8 rfl rfl (fun hb8 => ?_) (fun hb8 => ?_)
  · refine V.iconst (q := 20) (v := -1) C dX9_row_19 rfl (by decide) ?_
    exact V.ireturn C dX9_row_20 ⟨by rw [rowR, if_neg hb8], by rw [rowB, if_neg hb8], rfl⟩
  · have hn8 := hb8
    obtain ⟨j, hj, rfl⟩ := InN_nat (by omega) hb8
    have hj6 : j < 6 := by omega
    have ij := ix_k (k := j) (by omega)
    refine V.iload_n (q := 12) C dX9_row_11 rfl rfl ?_
    refine V.iconst (q := 13) (v := nI 3) C dX9_row_12 rfl (by decide) ?_
    refine V.callSi (q := 16) C me_X9_isOut c_isOut ml_X9_70 dX9_row_13 rfl rfl rfl (Nat.le_of_ble_eq_true rfl) (by omega) (Nat.zero_le _) (Nat.zero_le _) ?_
    refine V.if_eqB (q := 19) (tgt := 21) C dX9_row_16 rfl rfl (fun hb16 => ?_) (fun hb16 => ?_)
    · replace hb16 := Decidable.not_not.mp hb16
      have ht9 := hb16
      obtain ⟨t, -, ht, rfl⟩ := InR_nat (a := 0) (b := 3) (by omega) (by omega) hb16
      have it := ix_k (k := t) (by omega)
      refine V.iload_n (q := 22) C dX9_row_21 rfl rfl ?_
      refine V.bipush (q := 24) (v := nI 9) C dX9_row_22 rfl (by decide) ?_
      refine V.callSi (q := 27) C me_X9_isOut c_isOut ml_X9_70 dX9_row_24 rfl rfl rfl (Nat.le_of_ble_eq_true rfl) (by omega) (Nat.zero_le _) (Nat.zero_le _) ?_
      refine V.if_eqB (q := 30) (tgt := 33) C dX9_row_27 rfl rfl (fun hb27 => ?_) (fun hb27 => ?_)
      · replace hb27 := Decidable.not_not.mp hb27
        refine V.aload_n (q := 34) C dX9_row_33 rfl rfl ?_
        refine V.get (q := 37) C fl_X9_27 dX9_row_34 rfl okC_0 rfl rfl ?_
        refine V.get (q := 40) C fl_X9_82 dX9_row_37 rfl (okC_6 (by omega)) rfl rfl ?_
        refine V.iload_n (q := 41) C dX9_row_40 rfl rfl ?_
        refine V.rld (q := 42) (i := j) C rfl dX9_row_41 rfl (okC_7 (by omega)) rfl rfl (by omega) (by decide) ?_
        refine V.astore (q := 44) C dX9_row_42 rfl (by decide) rfl rfl ?_
        refine V.aload (q := 46) C dX9_row_44 rfl rfl ?_
        refine V.get (q := 49) C fl_X9_86 dX9_row_46 rfl (okC_9 (by omega) (by omega)) rfl rfl ?_
        refine V.bipush (q := 51) (v := nI 6) C dX9_row_49 rfl (by decide) ?_
        refine V.icmp_eq (q := 54) (tgt := 57) C dX9_row_51 rfl rfl (fun hb51 => ?_) (fun hb51 => ?_)
        · refine V.aload (q := 59) C dX9_row_57 rfl rfl ?_
          refine V.get (q := 62) C fl_X9_137 dX9_row_59 rfl (okC_9 (by omega) (by omega)) rfl rfl ?_
          refine V.iload_n (q := 63) C dX9_row_62 rfl rfl ?_
          refine V.ild (q := 64) (i := t) C dX9_row_63 rfl (okC_10 (by omega) (by omega)) rfl rfl (by omega) (by decide) ?_
          refine V.istore (q := 66) C dX9_row_64 rfl (by decide) rfl rfl ?_
          refine V.aload (q := 68) C dX9_row_66 rfl rfl ?_
          refine V.get (q := 71) C fl_X9_137 dX9_row_68 rfl (okC_9 (by omega) (by omega)) rfl rfl ?_
          refine V.iload_n (q := 72) C dX9_row_71 rfl rfl ?_
          refine V.iload_n (q := 73) C dX9_row_72 rfl rfl ?_
          refine V.ist (q := 74) (i := t) C dX9_row_73 rfl (okC_10 (by omega) (by omega)) rfl rfl (by omega) (by decide) rfl ?_
          refine V.phE (uC_10 (by omega) (by omega)) ?_
          refine V.iload (q := 76) C dX9_row_74 rfl rfl ?_
          exact V.ireturn C dX9_row_76 ⟨by rw [rowR, if_pos hn8, if_pos ht9, if_pos hb27, ij, ← hT.1 j hj trivial 0 (by omega), if_pos hb51, it, ← hT.1 j hj trivial (5 + t) (by omega)], by rw [rowB, if_pos hn8, if_pos ht9, if_pos hb27, ij, if_pos hb51, it], rfl⟩
        · refine V.bipush (q := 56) (v := -3) C dX9_row_54 rfl (by decide) ?_
          exact V.ireturn C dX9_row_56 ⟨by rw [rowR, if_pos hn8, if_pos ht9, if_pos hb27, ij, ← hT.1 j hj trivial 0 (by omega), if_neg hb51], by rw [rowB, if_pos hn8, if_pos ht9, if_pos hb27, ij, if_neg hb51], rfl⟩
      · refine V.bipush (q := 32) (v := -2) C dX9_row_30 rfl (by decide) ?_
        exact V.ireturn C dX9_row_32 ⟨by rw [rowR, if_pos hn8, if_pos ht9, if_neg hb27], by rw [rowB, if_pos hn8, if_pos ht9, if_neg hb27], rfl⟩
    · refine V.iconst (q := 20) (v := -1) C dX9_row_19 rfl (by decide) ?_
      exact V.ireturn C dX9_row_20 ⟨by rw [rowR, if_pos hn8, if_neg hb16], by rw [rowB, if_pos hn8, if_neg hb16], rfl⟩
theorem c_feed {l : Launch} {g : GG} {X : PHp} {h0 : HZ} {ct : CTt} {cl : I2} {B : I2} {cy : Nat → Nat} {rw : RWt} {tl : TLt} {sp : SPt} {T : I1} {t : Nat} {p9 x : Int32} (ht : t ≤ 100) : Ct l g yX9_feed cX9_feed 2 (some .int) 24 0 0 [rf g (0, 0, 0), .int x] NN (jn (hC g h0 ct cl (T, nI t, p9) B cy rw tl sp) X) (pI (feedR t x) (jn (hC g h0 ct cl (feedT T t x, nI (feedK t x), p9) B cy rw tl sp) X)) := by
  refine Ct.of (lv := [some (rf g (0, 0, 0)), some (.int x)]) (by decide +kernel) rfl (Nat.le_of_ble_eq_true rfl) ?_
  intro Γ C
  refine V.iload_n (q := 1) C dX9_feed_0 rfl rfl ?_
  refine V.bipush (q := 3) (v := nI 127) C dX9_feed_1 rfl (by decide) ?_
  refine V.callSi (q := 6) C me_X9_isOut c_isOut ml_X9_70 dX9_feed_3 rfl rfl rfl (Nat.le_of_ble_eq_true rfl) (by omega) (Nat.zero_le _) (Nat.zero_le _) ?_
  refine V.if_eqB (q := 9) (tgt := 12) C dX9_feed_6 rfl rfl (fun hb6 => ?_) (fun hb6 => ?_)
  · replace hb6 := Decidable.not_not.mp hb6
    have hx9 := hb6
    obtain ⟨c, -, hc, rfl⟩ := InR_nat (a := 0) (b := 127) (by omega) (by omega) hb6
    refine V.aload_n (q := 13) C dX9_feed_12 rfl rfl ?_
    refine V.get (q := 16) C fl_X9_20 dX9_feed_13 rfl okC_0 rfl rfl ?_
    refine V.iload_n (q := 17) C dX9_feed_16 rfl rfl ?_
    refine V.callVi (q := 20) C me_X2_takes ((c_takes (a := 0)) (by omega) ht) ml_X9_141 dX9_feed_17 rfl okC_4 ⟨_, rfl⟩ rfl rfl (Nat.le_of_ble_eq_true rfl) (by omega) (Nat.zero_le _) (Nat.zero_le _) ?_
    exact V.ireturn C dX9_feed_20 ⟨by rw [feedR, if_pos hx9, fdR], by rw [feedT, feedK, if_pos hx9, if_pos hx9, fdT, fdK], rfl⟩
  · refine V.bipush (q := 11) (v := -2) C dX9_feed_9 rfl (by decide) ?_
    exact V.ireturn C dX9_feed_11 ⟨by rw [feedR, if_neg hb6], by rw [feedT, feedK, if_neg hb6, if_neg hb6], rfl⟩
theorem c_taken {l : Launch} {g : GG} {X : PHp} {h0 : HZ} {ct : CTt} {cl : I2} {rd : RDt} {B : I2} {cy : Nat → Nat} {rw : RWt} {tl : TLt} {sp : SPt} {A : I1} {n m : Nat} (hI : CI (B 0) n m) (hT : TR TT (B 0) A n m) {p k : Int32} : Ct l g yX9_taken cX9_taken 4 (some .int) 24 0 0 [rf g (0, 0, 0), .int p, .int k] NN (jn (hC g h0 ct cl rd B cy rw tl sp) X) (pI (takenR A n p k) (jn (hC g h0 ct cl rd B cy rw tl sp) X)) := by
  refine Ct.of (lv := [some (rf g (0, 0, 0)), some (.int p), some (.int k), none]) (by decide +kernel) rfl (Nat.le_of_ble_eq_true rfl) ?_
  intro Γ C
  have h6 := hI.2.1
  have h8 := hI.2.2.2
  refine V.iload_n (q := 1) C dX9_taken_0 rfl rfl ?_
  refine V.bipush (q := 3) (v := nI 6) C dX9_taken_1 rfl (by decide) ?_
  refine V.callSi (q := 6) C me_X9_isOut c_isOut ml_X9_70 dX9_taken_3 rfl rfl rfl (Nat.le_of_ble_eq_true rfl) (by omega) (Nat.zero_le _) (Nat.zero_le _) ?_
  refine V.if_eqB (q := 9) (tgt := 12) C dX9_taken_6 rfl rfl (fun hb6 => ?_) (fun hb6 => ?_)
  · replace hb6 := Decidable.not_not.mp hb6
    have hk9 := hb6
    refine V.aload_n (q := 13) C dX9_taken_12 rfl rfl ?_
    refine V.get (q := 16) C fl_X9_27 dX9_taken_13 rfl okC_0 rfl rfl ?_
    refine V.iload_n (q := 17) C dX9_taken_16 rfl rfl ?_
    refine V.callVi (q := 20) C me_X8_hasWearer (c_hasWearer (by omega) hI) ml_X9_78 dX9_taken_17 rfl (okC_6 (by omega)) ⟨_, rfl⟩ rfl rfl (Nat.le_of_ble_eq_true rfl) (by omega) (Nat.zero_le _) (Nat.zero_le _) ?_
    refine V.if_neB (q := 23) (tgt := 26) C dX9_taken_20 rfl rfl (fun hb20 => ?_) (fun hb20 => ?_)
    · have hn8 := hb20
      obtain ⟨j, hj, rfl⟩ := InN_nat (by omega) hb20
      have hj6 : j < 6 := by omega
      have ij := ix_k (k := j) (by omega)
      refine V.aload_n (q := 27) C dX9_taken_26 rfl rfl ?_
      refine V.get (q := 30) C fl_X9_27 dX9_taken_27 rfl okC_0 rfl rfl ?_
      refine V.get (q := 33) C fl_X9_82 dX9_taken_30 rfl (okC_6 (by omega)) rfl rfl ?_
      refine V.iload_n (q := 34) C dX9_taken_33 rfl rfl ?_
      refine V.rld (q := 35) (i := j) C rfl dX9_taken_34 rfl (okC_7 (by omega)) rfl rfl (by omega) (by decide) ?_
      refine V.get (q := 38) C fl_X9_86 dX9_taken_35 rfl (okC_9 (by omega) (by omega)) rfl rfl ?_
      refine V.istore_n (q := 39) C dX9_taken_38 rfl (by decide) rfl rfl ?_
      refine V.iload_n (q := 40) C dX9_taken_39 rfl rfl ?_
      refine V.iload_n (q := 41) C dX9_taken_40 rfl rfl ?_
      refine V.icmp_eq (q := 44) (tgt := 56) C dX9_taken_41 rfl rfl (fun hb41 => ?_) (fun hb41 => ?_)
      · refine V.iload_n (q := 57) C dX9_taken_56 rfl rfl ?_
        refine V.goto (tgt := 62) C dX9_taken_57 rfl ?_
        exact V.ireturn C dX9_taken_62 ⟨by rw [takenR, if_pos hk9, if_pos hn8, ij, ← hT.1 j hj trivial 0 (by omega), if_pos (Or.inl hb41)], rfl, rfl⟩
      · refine V.iload_n (q := 45) C dX9_taken_44 rfl rfl ?_
        refine V.callSi (q := 48) C me_X9_kindAbove c_kindAbove ml_X9_265 dX9_taken_45 rfl rfl rfl (Nat.le_of_ble_eq_true rfl) (by omega) (Nat.zero_le _) (Nat.zero_le _) ?_
        refine V.iload_n (q := 49) C dX9_taken_48 rfl rfl ?_
        refine V.icmp_eq (q := 52) (tgt := 56) C dX9_taken_49 rfl rfl (fun hb49 => ?_) (fun hb49 => ?_)
        · refine V.iload_n (q := 57) C dX9_taken_56 rfl rfl ?_
          refine V.goto (tgt := 62) C dX9_taken_57 rfl ?_
          exact V.ireturn C dX9_taken_62 ⟨by rw [takenR, if_pos hk9, if_pos hn8, ij, ← hT.1 j hj trivial 0 (by omega), if_pos (Or.inr (Or.inl hb49))], rfl, rfl⟩
        · refine V.iload_n (q := 53) C dX9_taken_52 rfl rfl ?_
          refine V.if_ne (q := 56) (tgt := 60) C dX9_taken_53 rfl rfl (fun hb53 => ?_) (fun hb53 => ?_)
          · refine V.bipush (q := 62) (v := -12) C dX9_taken_60 rfl (by decide) ?_
            exact V.ireturn C dX9_taken_62 ⟨by rw [takenR, if_pos hk9, if_pos hn8, ij, ← hT.1 j hj trivial 0 (by omega), if_neg (fun z => z.elim hb41 (fun z => z.elim hb49 hb53))], rfl, rfl⟩
          · refine V.iload_n (q := 57) C dX9_taken_56 rfl rfl ?_
            refine V.goto (tgt := 62) C dX9_taken_57 rfl ?_
            exact V.ireturn C dX9_taken_62 ⟨by rw [takenR, if_pos hk9, if_pos hn8, ij, ← hT.1 j hj trivial 0 (by omega), if_pos (Or.inr (Or.inr (show k = nI 0 from hb53)))], rfl, rfl⟩
    · refine V.bipush (q := 25) (v := -11) C dX9_taken_23 rfl (by decide) ?_
      exact V.ireturn C dX9_taken_25 ⟨by rw [takenR, if_pos hk9, if_neg hb20], rfl, rfl⟩
  · refine V.bipush (q := 11) (v := -2) C dX9_taken_9 rfl (by decide) ?_
    exact V.ireturn C dX9_taken_11 ⟨by rw [takenR, if_neg hb6], rfl, rfl⟩
theorem c_count {l : Launch} {g : GG} {X : PHp} {h0 : HZ} {ct : CTt} {cl : I2} {rd : RDt} {B : I2} {cy : Nat → Nat} {rw : RWt} {tl : TLt} {sp : SPt} {A : I1} {x : Int32} (hA : B 0 78 = A 78 ∧ B 0 79 = A 79 ∧ rw.2.2.2 0 0 = A 82 ∧ rw.2.2.2 0 1 = A 98 ∧ rw.2.2.2 0 2 = A 114 ∧ rw.2.2.2 0 3 = A 135) : Ct l g yX9_count cX9_count 2 (some .int) 24 0 0 [rf g (0, 0, 0), .int x] NN (jn (hC g h0 ct cl rd B cy rw tl sp) X) (pI (countR A h0.1 rd.2.1 tl.2 x) (jn (hC g h0 ct cl rd B cy rw tl sp) X)) := by
  refine Ct.of (lv := [some (rf g (0, 0, 0)), some (.int x)]) (by decide +kernel) rfl (Nat.le_of_ble_eq_true rfl) ?_
  intro Γ C
  refine V.iload_n (q := 1) C dX9_count_0 rfl rfl ?_
  refine V.tsw (lo := 0) (N := 9) (tgt := 133) C dX9_count_1 (by decide) (by decide) rfl (fun k hk hx1 => ?_) (fun hx1 => ?_)
  · obtain rfl | rfl | rfl | rfl | rfl | rfl | rfl | rfl | rfl := (show k = 0 ∨ k = 1 ∨ k = 2 ∨ k = 3 ∨ k = 4 ∨ k = 5 ∨ k = 6 ∨ k = 7 ∨ k = 8 by omega)
    · refine ⟨_, 52, rfl, rfl, ?_⟩
      replace hx1 : _ = nI 0 := hx1
      refine V.aload_n (q := 53) C dX9_count_52 rfl rfl ?_
      refine V.get (q := 56) C fl_X9_27 dX9_count_53 rfl okC_0 rfl rfl ?_
      refine V.get (q := 59) C fl_X9_208 dX9_count_56 rfl (okC_6 (by omega)) rfl rfl ?_
      exact V.ireturn C dX9_count_59 ⟨by rw [hx1]; exact congrArg (fun x : Int32 => some (Value.int x)) hA.1, rfl, rfl⟩
    · refine ⟨_, 60, rfl, rfl, ?_⟩
      replace hx1 : _ = nI 1 := hx1
      refine V.aload_n (q := 61) C dX9_count_60 rfl rfl ?_
      refine V.get (q := 64) C fl_X9_27 dX9_count_61 rfl okC_0 rfl rfl ?_
      refine V.get (q := 67) C fl_X9_268 dX9_count_64 rfl (okC_6 (by omega)) rfl rfl ?_
      exact V.ireturn C dX9_count_67 ⟨by rw [hx1]; exact congrArg (fun x : Int32 => some (Value.int x)) hA.2.1, rfl, rfl⟩
    · refine ⟨_, 68, rfl, rfl, ?_⟩
      replace hx1 : _ = nI 2 := hx1
      refine V.aload_n (q := 69) C dX9_count_68 rfl rfl ?_
      refine V.get (q := 72) C fl_X9_60 dX9_count_69 rfl okC_0 rfl rfl ?_
      exact V.ireturn C dX9_count_72 ⟨by rw [hx1]; rfl, rfl, rfl⟩
    · refine ⟨_, 73, rfl, rfl, ?_⟩
      replace hx1 : _ = nI 3 := hx1
      refine V.aload_n (q := 74) C dX9_count_73 rfl rfl ?_
      refine V.get (q := 77) C fl_X9_40 dX9_count_74 rfl okC_0 rfl rfl ?_
      refine V.get (q := 80) C fl_X9_191 dX9_count_77 rfl (okC_12 (by omega)) rfl rfl ?_
      refine V.get (q := 83) C fl_X9_221 dX9_count_80 rfl (okC_13 (by omega) (by omega)) rfl rfl ?_
      exact V.ireturn C dX9_count_83 ⟨by rw [hx1]; exact congrArg (fun x : Int32 => some (Value.int x)) hA.2.2.1, rfl, rfl⟩
    · refine ⟨_, 84, rfl, rfl, ?_⟩
      replace hx1 : _ = nI 4 := hx1
      refine V.aload_n (q := 85) C dX9_count_84 rfl rfl ?_
      refine V.get (q := 88) C fl_X9_40 dX9_count_85 rfl okC_0 rfl rfl ?_
      refine V.get (q := 91) C fl_X9_203 dX9_count_88 rfl (okC_12 (by omega)) rfl rfl ?_
      refine V.get (q := 94) C fl_X9_221 dX9_count_91 rfl (okC_13 (by omega) (by omega)) rfl rfl ?_
      exact V.ireturn C dX9_count_94 ⟨by rw [hx1]; exact congrArg (fun x : Int32 => some (Value.int x)) hA.2.2.2.1, rfl, rfl⟩
    · refine ⟨_, 95, rfl, rfl, ?_⟩
      replace hx1 : _ = nI 5 := hx1
      refine V.aload_n (q := 96) C dX9_count_95 rfl rfl ?_
      refine V.get (q := 99) C fl_X9_40 dX9_count_96 rfl okC_0 rfl rfl ?_
      refine V.get (q := 102) C fl_X9_218 dX9_count_99 rfl (okC_12 (by omega)) rfl rfl ?_
      refine V.get (q := 105) C fl_X9_221 dX9_count_102 rfl (okC_13 (by omega) (by omega)) rfl rfl ?_
      exact V.ireturn C dX9_count_105 ⟨by rw [hx1]; exact congrArg (fun x : Int32 => some (Value.int x)) hA.2.2.2.2.1, rfl, rfl⟩
    · refine ⟨_, 106, rfl, rfl, ?_⟩
      replace hx1 : _ = nI 6 := hx1
      refine V.aload_n (q := 107) C dX9_count_106 rfl rfl ?_
      refine V.get (q := 110) C fl_X9_40 dX9_count_107 rfl okC_0 rfl rfl ?_
      refine V.get (q := 113) C fl_X9_233 dX9_count_110 rfl (okC_12 (by omega)) rfl rfl ?_
      refine V.get (q := 116) C fl_X9_221 dX9_count_113 rfl (okC_13 (by omega) (by omega)) rfl rfl ?_
      exact V.ireturn C dX9_count_116 ⟨by rw [hx1]; exact congrArg (fun x : Int32 => some (Value.int x)) hA.2.2.2.2.2, rfl, rfl⟩
    · refine ⟨_, 117, rfl, rfl, ?_⟩
      replace hx1 : _ = nI 7 := hx1
      refine V.aload_n (q := 118) C dX9_count_117 rfl rfl ?_
      refine V.get (q := 121) C fl_X9_20 dX9_count_118 rfl okC_0 rfl rfl ?_
      refine V.get (q := 124) C fl_X9_148 dX9_count_121 rfl okC_4 rfl rfl ?_
      exact V.ireturn C dX9_count_124 ⟨by rw [hx1]; rfl, rfl, rfl⟩
    · refine ⟨_, 125, rfl, rfl, ?_⟩
      replace hx1 : _ = nI 8 := hx1
      refine V.aload_n (q := 126) C dX9_count_125 rfl rfl ?_
      refine V.get (q := 129) C fl_X9_50 dX9_count_126 rfl okC_0 rfl rfl ?_
      refine V.get (q := 132) C fl_X9_249 dX9_count_129 rfl okC_17 rfl rfl ?_
      exact V.ireturn C dX9_count_132 ⟨by rw [hx1]; rfl, rfl, rfl⟩
  · refine V.bipush (q := 135) (v := -2) C dX9_count_133 rfl (by decide) ?_
    exact V.ireturn C dX9_count_135 ⟨congrArg (fun x : Int32 => some (Value.int x)) (by unfold countR; rw [if_neg (hx1 0 (by omega))]; rw [if_neg (hx1 1 (by omega))]; rw [if_neg (hx1 2 (by omega))]; rw [if_neg (hx1 3 (by omega))]; rw [if_neg (hx1 4 (by omega))]; rw [if_neg (hx1 5 (by omega))]; rw [if_neg (hx1 6 (by omega))]; rw [if_neg (hx1 7 (by omega))]; rw [if_neg (hx1 8 (by omega))]), rfl, rfl⟩
theorem c_trace {l : Launch} {g : GG} {X : PHp} {h0 : HZ} {ct : CTt} {cl : I2} {rd : RDt} {B : I2} {cy : Nat → Nat} {rw : RWt} {sp : SPt} {f : I1} {t : Nat} {x : Int32} (ht : t < 2 ^ 31) : Ct l g yX9_trace cX9_trace 2 (some .int) 24 0 0 [rf g (0, 0, 0), .int x] NN (jn (hC g h0 ct cl rd B cy rw (f, nI t) sp) X) (pI (traceR f t x) (jn (hC g h0 ct cl rd B cy rw (f, nI t) sp) X)) := by
  refine Ct.of (lv := [some (rf g (0, 0, 0)), some (.int x)]) (by decide +kernel) rfl (Nat.le_of_ble_eq_true rfl) ?_
  intro Γ C
  refine V.iload_n (q := 1) C dX9_trace_0 rfl rfl ?_
  refine V.if_lt (q := 4) (tgt := 39) C dX9_trace_1 rfl rfl (fun hb1 => ?_) (fun hb1 => ?_)
  · refine V.iconst (q := 40) (v := -1) C dX9_trace_39 rfl (by decide) ?_
    exact V.ireturn C dX9_trace_40 ⟨by rw [traceR, if_neg (fun z => absurd hb1 (InN_iff.mp z).1)], rfl, rfl⟩
  · refine V.iload_n (q := 5) C dX9_trace_4 rfl rfl ?_
    refine V.aload_n (q := 6) C dX9_trace_5 rfl rfl ?_
    refine V.get (q := 9) C fl_X9_50 dX9_trace_6 rfl okC_0 rfl rfl ?_
    refine V.get (q := 12) C fl_X9_249 dX9_trace_9 rfl okC_17 rfl rfl ?_
    try dsimp only
    refine V.icmp_ge (q := 15) (tgt := 39) C dX9_trace_12 rfl rfl (fun hb12 => ?_) (fun hb12 => ?_)
    · refine V.iconst (q := 40) (v := -1) C dX9_trace_39 rfl (by decide) ?_
      exact V.ireturn C dX9_trace_40 ⟨by rw [traceR, if_neg (fun z => (by obtain ⟨i, hi, e⟩ := InN_nat (n := min 20 t) (by omega) z; rw [e] at hb12; exact absurd ((nI_leI (by omega) (by omega)).mp hb12) (by omega)))], rfl, rfl⟩
    · refine V.iload_n (q := 16) C dX9_trace_15 rfl rfl ?_
      refine V.aload_n (q := 17) C dX9_trace_16 rfl rfl ?_
      refine V.get (q := 20) C fl_X9_50 dX9_trace_17 rfl okC_0 rfl rfl ?_
      refine V.get (q := 23) C fl_X9_262 dX9_trace_20 rfl okC_17 rfl rfl ?_
      refine V.len_aI (q := 24) C dX9_trace_23 rfl okC_18 rfl ?_
      refine V.icmp_ge (q := 27) (tgt := 39) C dX9_trace_24 rfl rfl (fun hb24 => ?_) (fun hb24 => ?_)
      · refine V.iconst (q := 40) (v := -1) C dX9_trace_39 rfl (by decide) ?_
        exact V.ireturn C dX9_trace_40 ⟨by rw [traceR, if_neg (fun z => (by obtain ⟨i, hi, e⟩ := InN_nat (n := min 20 t) (by omega) z; rw [e] at hb24; exact absurd ((nI_leI (a := 20) (by omega) (by omega)).mp hb24) (by omega)))], rfl, rfl⟩
      · obtain ⟨j, hj, rfl⟩ := nI_of hb1
        have j1 : j < t := Nat.lt_of_not_le (fun z => hb12 ((nI_leI (by omega) (by omega)).mpr z))
        have j2 : j < 20 := Nat.lt_of_not_le (fun z => hb24 ((nI_leI (a := 20) (by omega) (by omega)).mpr z))
        refine V.aload_n (q := 28) C dX9_trace_27 rfl rfl ?_
        refine V.get (q := 31) C fl_X9_50 dX9_trace_28 rfl okC_0 rfl rfl ?_
        refine V.get (q := 34) C fl_X9_262 dX9_trace_31 rfl okC_17 rfl rfl ?_
        refine V.iload_n (q := 35) C dX9_trace_34 rfl rfl ?_
        refine V.ild (q := 36) (i := j) C dX9_trace_35 rfl okC_18 rfl rfl (by omega) (by decide) ?_
        try dsimp only
        refine V.goto (tgt := 40) C dX9_trace_36 rfl ?_
        exact V.ireturn C dX9_trace_40 ⟨by rw [traceR, if_pos (InN_of (by omega) (show j < min 20 t by omega)), ix_k (by omega)], rfl, rfl⟩
theorem bt_R {P : Nat → Prop} {b A : I1} {n m : Nat} (hT : TR P b A n m) (hW : WI A n m) (hE : EV A m) : ∀ j, j ≤ m → bitC b n j = btF A j := by
  intro j
  induction j with
  | zero => intro _; rfl
  | succ j ih =>
    intro hj
    show (if sbC b n j = true then bitC b n j ||| nI 1 <<< (nI j &&& 31) else bitC b n j) = btF A j ||| (if stB A j = true then nI 1 <<< (nI j &&& 31) else nI 0)
    rw [ih (by omega)]
    by_cases h : stB A j = true
    · rw [if_pos h, if_pos ((sb_st hT hW hE (by omega)).mpr h)]
    · rw [if_neg h, if_neg (fun z => h ((sb_st hT hW hE (by omega)).mp z))]
      exact (Int32.or_zero).symm
theorem c_told {l : Launch} {g : GG} {X : PHp} {h0 : HZ} {ct : CTt} {cl : I2} {rd : RDt} {B : I2} {cy : Nat → Nat} {rw : RWt} {tl : TLt} {sp : SPt} {rules sizes A : I1} {n m r q : Nat} (hS : SH ct rules sizes A n m r q) (hI : CI (B 0) n m) (hT : TR TT (B 0) A n m) (hcy : cy 0 = q) {x : Int32} : Ct l g yX9_told cX9_told 2 (some .int) 24 0 0 [rf g (0, 0, 0), .int x] NN (jn (hC g h0 ct cl rd B cy rw tl sp) X) (pI (toldR rules sizes A n m x) (jn (hC g h0 ct cl rd B cy rw tl sp) X)) := by
  refine Ct.of (lv := [some (rf g (0, 0, 0)), some (.int x)]) (by decide +kernel) rfl (Nat.le_of_ble_eq_true rfl) ?_
  intro Γ C
  have h6 := hI.2.1
  have h8 := hI.2.2.2
  have hcy7 : cy 0 < 7 := by have h1 := hS.2.2.2.1; have h2 := hS.2.2.2.2.1; omega
  have hru : ct.2.2.2 (cy 0) = ruR rules sizes A := by rw [hcy]; exact (ru_R hS.2.2.2.2.2 hS.2.2.2.2.1 hS.2.2.2.1 hS.2.2.1).symm
  refine V.iload_n (q := 1) C dX9_told_0 rfl rfl ?_
  refine V.tsw (lo := 0) (N := 5) (tgt := 79) C dX9_told_1 (by decide) (by decide) rfl (fun k hk hx1 => ?_) (fun hx1 => ?_)
  · obtain rfl | rfl | rfl | rfl | rfl := (show k = 0 ∨ k = 1 ∨ k = 2 ∨ k = 3 ∨ k = 4 by omega)
    · refine ⟨_, 36, rfl, rfl, ?_⟩
      replace hx1 : _ = nI 0 := hx1
      refine V.aload_n (q := 37) C dX9_told_36 rfl rfl ?_
      refine V.get (q := 40) C fl_X9_27 dX9_told_37 rfl okC_0 rfl rfl ?_
      refine V.get (q := 43) C fl_X9_158 dX9_told_40 rfl (okC_6 (by omega)) rfl rfl ?_
      exact V.ireturn C dX9_told_43 ⟨by rw [hx1]; exact congrArg (fun x : Int32 => some (Value.int x)) (hT.2.2), rfl, rfl⟩
    · refine ⟨_, 44, rfl, rfl, ?_⟩
      replace hx1 : _ = nI 1 := hx1
      refine V.aload_n (q := 45) C dX9_told_44 rfl rfl ?_
      refine V.get (q := 48) C fl_X9_27 dX9_told_45 rfl okC_0 rfl rfl ?_
      refine V.get (q := 51) C fl_X9_154 dX9_told_48 rfl (okC_6 (by omega)) rfl rfl ?_
      refine V.get (q := 54) C fl_X9_161 dX9_told_51 rfl (okC_2 (by omega)) rfl rfl ?_
      exact V.ireturn C dX9_told_54 ⟨by rw [hx1]; exact congrArg (fun x : Int32 => some (Value.int x)) (hru), rfl, rfl⟩
    · refine ⟨_, 55, rfl, rfl, ?_⟩
      replace hx1 : _ = nI 2 := hx1
      refine V.aload_n (q := 56) C dX9_told_55 rfl rfl ?_
      refine V.get (q := 59) C fl_X9_27 dX9_told_56 rfl okC_0 rfl rfl ?_
      refine V.callVi (q := 62) C me_X8_hurtOfAll (c_hurtOfAll (by omega) hI) ml_X9_164 dX9_told_59 rfl (okC_6 (by omega)) ⟨_, rfl⟩ rfl rfl (Nat.le_of_ble_eq_true rfl) (by omega) (Nat.zero_le _) (Nat.zero_le _) ?_
      exact V.ireturn C dX9_told_62 ⟨by rw [hx1]; exact congrArg (fun x : Int32 => some (Value.int x)) (hT.all (fun _ => trivial) (by omega)), rfl, rfl⟩
    · refine ⟨_, 63, rfl, rfl, ?_⟩
      replace hx1 : _ = nI 3 := hx1
      refine V.aload_n (q := 64) C dX9_told_63 rfl rfl ?_
      refine V.get (q := 67) C fl_X9_27 dX9_told_64 rfl okC_0 rfl rfl ?_
      refine V.callVi (q := 70) C me_X8_coverOfAll (c_coverOfAll (by omega) hI) ml_X9_168 dX9_told_67 rfl (okC_6 (by omega)) ⟨_, rfl⟩ rfl rfl (Nat.le_of_ble_eq_true rfl) (by omega) (Nat.zero_le _) (Nat.zero_le _) ?_
      exact V.ireturn C dX9_told_70 ⟨by rw [hx1]; exact congrArg (fun x : Int32 => some (Value.int x)) (hT.all (fun _ => trivial) (by omega)), rfl, rfl⟩
    · refine ⟨_, 71, rfl, rfl, ?_⟩
      replace hx1 : _ = nI 4 := hx1
      refine V.aload_n (q := 72) C dX9_told_71 rfl rfl ?_
      refine V.get (q := 75) C fl_X9_27 dX9_told_72 rfl okC_0 rfl rfl ?_
      refine V.callVi (q := 78) C me_X8_strikingBits (c_strikingBits (by omega) hI) ml_X9_171 dX9_told_75 rfl (okC_6 (by omega)) ⟨_, rfl⟩ rfl rfl (Nat.le_of_ble_eq_true rfl) (by omega) (Nat.zero_le _) (Nat.zero_le _) ?_
      exact V.ireturn C dX9_told_78 ⟨by rw [hx1]; exact congrArg (fun x : Int32 => some (Value.int x)) (bt_R hT hS.1 hS.2.1 m (Nat.le_refl m)), rfl, rfl⟩
  · refine V.iconst (q := 80) (v := -1) C dX9_told_79 rfl (by decide) ?_
    exact V.ireturn C dX9_told_80 ⟨congrArg (fun x : Int32 => some (Value.int x)) (by unfold toldR; rw [if_neg (hx1 0 (by omega))]; rw [if_neg (hx1 1 (by omega))]; rw [if_neg (hx1 2 (by omega))]; rw [if_neg (hx1 3 (by omega))]; rw [if_neg (hx1 4 (by omega))]), rfl, rfl⟩
theorem c_pass {l : Launch} {g : GG} {X : PHp} {h0 : HZ} {ct : CTt} {cl : I2} {rd : RDt} {B : I2} {cy : Nat → Nat} {rw : RWt} {tl : TLt} {sp : SPt} {rules sizes A : I1} {n m r q : Nat} (hS : SH ct rules sizes A n m r q) (hI : CI (B 0) n m) (hT : TR TT (B 0) A n m) (hcy : cy 0 = q) {k : Int32} : Ct l g yX9_pass cX9_pass 2 (some .int) 24 0 0 [rf g (0, 0, 0), .int k] NN (jn (hC g h0 ct cl rd B cy rw tl sp) X) (xI (fun z : I2 × I1 => TR TT z.2 (passA rules sizes A m k) n m ∧ CI z.2 n m) (fun _ => passR rules sizes A m k) (fun z => (jn (hC g h0 ct z.1 rd (putR B 0 z.2) cy rw tl sp) X))) := by
  refine Ct.of (lv := [some (rf g (0, 0, 0)), some (.int k)]) (by decide +kernel) rfl (Nat.le_of_ble_eq_true rfl) ?_
  intro Γ C
  have h6 := hI.2.1
  have h8 := hI.2.2.2
  refine V.iload_n (q := 1) C dX9_pass_0 rfl rfl ?_
  refine V.bipush (q := 3) (v := nI 60) C dX9_pass_1 rfl (by decide) ?_
  refine V.callSi (q := 6) C me_X9_isOut c_isOut ml_X9_70 dX9_pass_3 rfl rfl rfl (Nat.le_of_ble_eq_true rfl) (by omega) (Nat.zero_le _) (Nat.zero_le _) ?_
  refine V.if_eqB (q := 9) (tgt := 12) C dX9_pass_6 rfl rfl (fun hb6 => ?_) (fun hb6 => ?_)
  · replace hb6 := Decidable.not_not.mp hb6
    have hk9 := hb6
    obtain ⟨d, -, hd, rfl⟩ := InR_nat (a := 0) (b := 60) (by omega) (by omega) hb6
    have ik := ix_k (k := d) (by omega)
    have ek := hT.2.2.symm
    refine V.aload_n (q := 13) C dX9_pass_12 rfl rfl ?_
    refine V.get (q := 16) C fl_X9_27 dX9_pass_13 rfl okC_0 rfl rfl ?_
    refine V.get (q := 19) C fl_X9_158 dX9_pass_16 rfl (okC_6 (by omega)) rfl rfl ?_
    refine V.iload_n (q := 20) C dX9_pass_19 rfl rfl ?_
    refine V.iadd (q := 21) C dX9_pass_20 rfl ?_
    refine V.sipush (q := 24) (v := nI 9999) C dX9_pass_21 rfl (by decide) ?_
    refine V.icmp_le (q := 27) (tgt := 30) C dX9_pass_24 rfl rfl (fun hb24 => ?_) (fun hb24 => ?_)
    · refine V.phE (fun q _ => congrFun (congrArg (fun z => (jn (hC g h0 ct cl rd z cy rw tl sp) X)) (putR_id (B := B) (w := 0)).symm) q) ?_
      refine V.aload_n (q := 31) C dX9_pass_30 rfl rfl ?_
      refine V.get (q := 34) C fl_X9_27 dX9_pass_31 rfl okC_0 rfl rfl ?_
      refine V.iload_n (q := 35) C dX9_pass_34 rfl rfl ?_
      refine V.iconst (q := 36) (v := -1) C dX9_pass_35 rfl (by decide) ?_
      refine V.callVxv (q := 39) C me_X8_go (c_goT (P := TT) (b := B 0) hS (by omega) hT hI hcy (Who.all (fun _ => trivial)) hd) ml_X9_174 dX9_pass_36 rfl (okC_6 (by omega)) ⟨_, rfl⟩ rfl rfl (Nat.le_of_ble_eq_true rfl) (by omega) (Nat.zero_le _) (Nat.zero_le _) (fun z1 hz1 => ?_)
      refine V.aload_n (q := 40) C dX9_pass_39 rfl rfl ?_
      refine V.get (q := 43) C fl_X9_27 dX9_pass_40 rfl okC_0 rfl rfl ?_
      refine V.get (q := 46) C fl_X9_158 dX9_pass_43 rfl (okC_6 (by omega)) rfl rfl ?_
      exact V.ireturn C dX9_pass_46 ⟨z1, ⟨(by rw [passA, if_pos hk9, ek, if_pos hb24, ik]; exact hz1.1), hz1.2.1⟩, by rw [passR, if_pos hk9, ek, if_pos hb24, ik, ← hz1.1.2.2, putR_w], rfl, rfl⟩
    · refine V.bipush (q := 29) (v := -3) C dX9_pass_27 rfl (by decide) ?_
      exact V.ireturn C dX9_pass_29 ⟨(cl, B 0), ⟨(by rw [passA, if_pos hk9, ek, if_neg hb24]; exact hT), hI⟩, by rw [passR, if_pos hk9, ek, if_neg hb24], congrArg (fun z => (jn (hC g h0 ct cl rd z cy rw tl sp) X)) (putR_id (B := B) (w := 0)).symm, rfl⟩
  · refine V.bipush (q := 11) (v := -2) C dX9_pass_9 rfl (by decide) ?_
    exact V.ireturn C dX9_pass_11 ⟨(cl, B 0), ⟨(by rw [passA, if_neg hb6]; exact hT), hI⟩, by rw [passR, if_neg hb6], congrArg (fun z => (jn (hC g h0 ct cl rd z cy rw tl sp) X)) (putR_id (B := B) (w := 0)).symm, rfl⟩
