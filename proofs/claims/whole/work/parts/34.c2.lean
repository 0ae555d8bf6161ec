def putR (B : I2) (w : Nat) (b : I1) : I2 := fun w1 => if w1 = w then b else B w1
theorem putR_w {B : I2} {w : Nat} {b : I1} : putR B w b w = b := if_pos rfl
theorem putR_o {B : I2} {w w1 : Nat} {b : I1} (h : w1 ≠ w) : putR B w b w1 = B w1 := if_neg h
theorem putR_put {B : I2} {w : Nat} {b b1 : I1} : putR (putR B w b) w b1 = putR B w b1 := by
  funext w1
  simp only [putR]
  split <;> rfl
theorem putR_id {B : I2} {w : Nat} : putR B w (B w) = B := by
  funext w1
  simp only [putR]
  split
  · next h => rw [h]
  · rfl
theorem setB_put {B : I2} {w k : Nat} {x : Int32} : setB B w k x = putR B w (upd (B w) k x) := rfl
/-- counts of wearers and sayings -/
def CI (b : I1) (n m : Nat) : Prop := b 78 = nI n ∧ n ≤ 6 ∧ b 79 = nI m ∧ m ≤ 8
theorem CI_hi {a b : I1} {n m : Nat} (h8 : b 78 = a 78) (h9 : b 79 = a 79) (h : CI a n m) : CI b n m := ⟨h8.trans h.1, h.2.1, h9.trans h.2.2.1, h.2.2.2⟩
def rlN (x n : Int32) : Nat := if n ≤ x then (if x = n then 1 else 2) else 0
def stC (L : I1) (t : Nat) (nu : Int32) (r : Int32 × Int32) : Int32 × Int32 :=
  if t = 18 then (r.1, (r.2 >>> (nI 1 &&& 31)) &&& (r.2 ||| -2))
  else if t = 19 then (r.1, (r.2 >>> (nI 1 &&& 31)) ||| (r.2 &&& nI 1))
  else if t = 20 then (r.1, r.2 ^^^ nI 1)
  else if t = 21 then (r.1 + (r.2 &&& nI 1) * nu, nI 0)
  else (r.1, (r.2 <<< (nI 1 &&& 31)) ||| (if rlN (L (t / 3)) nu = t % 3 then nI 1 else nI 0))
theorem stC_18 {L : I1} {nu : Int32} {r : Int32 × Int32} : stC L 18 nu r = (r.1, (r.2 >>> (nI 1 &&& 31)) &&& (r.2 ||| -2)) := if_pos rfl
theorem stC_19 {L : I1} {nu : Int32} {r : Int32 × Int32} : stC L 19 nu r = (r.1, (r.2 >>> (nI 1 &&& 31)) ||| (r.2 &&& nI 1)) := by rw [stC, if_neg (by omega), if_pos rfl]
theorem stC_20 {L : I1} {nu : Int32} {r : Int32 × Int32} : stC L 20 nu r = (r.1, r.2 ^^^ nI 1) := by rw [stC, if_neg (by omega), if_neg (by omega), if_pos rfl]
theorem stC_21 {L : I1} {nu : Int32} {r : Int32 × Int32} : stC L 21 nu r = (r.1 + (r.2 &&& nI 1) * nu, nI 0) := by rw [stC, if_neg (by omega), if_neg (by omega), if_neg (by omega), if_pos rfl]
theorem stC_d {L : I1} {t : Nat} {nu : Int32} {r : Int32 × Int32} (h : t < 18) : stC L t nu r = (r.1, (r.2 <<< (nI 1 &&& 31)) ||| (if rlN (L (t / 3)) nu = t % 3 then nI 1 else nI 0)) := by rw [stC, if_neg (by omega), if_neg (by omega), if_neg (by omega), if_neg (by omega)]
def suC (St Nu L : I1) (k : Nat) (r : Int32 × Int32) : Int32 × Int32 := itr (fun j r => stC L (ix (St j)) (Nu j) r) k r
/-- the steps are steps -/
def StO (St : I1) (k : Nat) : Prop := ∀ j, j < k → ∃ t, t < 22 ∧ St j = nI t
/-- city c can be reckoned with -/
def CtO (ct : CTt) (c k : Nat) : Prop := c < 7 ∧ ct.2.2.1 c = nI k ∧ k ≤ 100 ∧ StO (ct.1 c) k
/-- the guard -/
def guC (ct : CTt) (c k : Nat) (b : I1) (i s : Nat) : Int32 := gdV b i s (suC (ct.1 c) (ct.2.1 c) (namF b i (nI s)) k (b (9 * i + 2) / nI 5, nI 0)).1
def mx0c (x : Int32) : Int32 := if x < nI 0 then nI 0 else x
theorem mn99_c (x : Int32) : (if nI 99 < x then nI 99 else x) = mn99 x := by
  unfold mn99
  by_cases h : x < nI 99
  · rw [if_pos h, if_neg (fun q => absurd (Int32.lt_iff_toInt_lt.mp q) (by have := Int32.lt_iff_toInt_lt.mp h; omega))]
  · rw [if_neg h]
    by_cases q : nI 99 < x
    · rw [if_pos q]
    · rw [if_neg q]
      apply Int32.toInt_inj.mp
      have h1 : ¬ x.toInt < (nI 99).toInt := fun z => h (Int32.lt_iff_toInt_lt.mpr z)
      have h2 : ¬ (nI 99).toInt < x.toInt := fun z => q (Int32.lt_iff_toInt_lt.mpr z)
      omega
theorem mnT_c (x : Int32) : (if nI 9999 < x then nI 9999 else x) = mnT x := by
  unfold mnT
  by_cases h : x < nI 9999
  · rw [if_pos h, if_neg (fun q => absurd (Int32.lt_iff_toInt_lt.mp q) (by have := Int32.lt_iff_toInt_lt.mp h; omega))]
  · rw [if_neg h]
    by_cases q : nI 9999 < x
    · rw [if_pos q]
    · rw [if_neg q]
      apply Int32.toInt_inj.mp
      have h1 : ¬ x.toInt < (nI 9999).toInt := fun z => h (Int32.lt_iff_toInt_lt.mpr z)
      have h2 : ¬ (nI 9999).toInt < x.toInt := fun z => q (Int32.lt_iff_toInt_lt.mpr z)
      omega
theorem mx0_c (x : Int32) : (if x < nI 0 then nI 0 else x) = mx0 x := by
  unfold mx0
  by_cases h : nI 0 < x
  · rw [if_pos h, if_neg (fun q => absurd (Int32.lt_iff_toInt_lt.mp q) (by have := Int32.lt_iff_toInt_lt.mp h; omega))]
  · rw [if_neg h]
    by_cases q : x < nI 0
    · rw [if_pos q]
    · rw [if_neg q]
      apply Int32.toInt_inj.mp
      have h1 : ¬ (nI 0).toInt < x.toInt := fun z => h (Int32.lt_iff_toInt_lt.mpr z)
      have h2 : ¬ x.toInt < (nI 0).toInt := fun z => q (Int32.lt_iff_toInt_lt.mpr z)
      omega
def skC (gv rub : Int32) (b : I1) (s i : Nat) : I1 :=
  let t := mn99 (mx0 (b (54 + 3 * s + 0) - gv))
  let b1 := upd b (9 * i + 4) (mnT (b (9 * i + 4) + t))
  let b2 := upd b1 (9 * i + 3) (mnT (b1 (9 * i + 3) + nI 1))
  upd b2 (9 * i + 2) (mx0 (b2 (9 * i + 2) - rub))
theorem skC_hi {gv rub : Int32} {b : I1} {s i k : Nat} (hi : i < 6) (hk : 54 ≤ k) : skC gv rub b s i k = b k := by
  unfold skC
  simp only [upd]
  rw [if_neg (by omega), if_neg (by omega), if_neg (by omega)]
def sbC (b : I1) (n s : Nat) : Bool := inN (b (54 + 3 * s + 2)) n && (decide (¬ b (54 + 3 * s + 1) ≤ 0) && decide (b 80 - b 80 / b (54 + 3 * s + 1) * b (54 + 3 * s + 1) = 0))
theorem sbC_t {b : I1} {n s : Nat} (h1 : inN (b (54 + 3 * s + 2)) n = true) (h2 : ¬ b (54 + 3 * s + 1) ≤ 0) (h3 : b 80 - b 80 / b (54 + 3 * s + 1) * b (54 + 3 * s + 1) = 0) : sbC b n s = true := by
  simp only [sbC, Bool.and_eq_true, decide_eq_true_eq]; exact ⟨h1, h2, h3⟩
theorem sbC_of {b : I1} {n s : Nat} (h : sbC b n s = true) : inN (b (54 + 3 * s + 2)) n = true ∧ ¬ b (54 + 3 * s + 1) ≤ 0 ∧ b 80 - b 80 / b (54 + 3 * s + 1) * b (54 + 3 * s + 1) = 0 := by
  simpa only [sbC, Bool.and_eq_true, decide_eq_true_eq] using h
/-- saying s on a day, for all (-1) or for one -/
def goS (gu : I1 → Nat → Nat → Int32) (rub : Int32) (n : Nat) (one : Int32) (s : Nat) (b : I1) : I1 :=
  if (one = -1 ∨ b (54 + 3 * s + 2) = one) ∧ sbC b n s = true then skC (gu b (ix (b (54 + 3 * s + 2))) s) rub b s (ix (b (54 + 3 * s + 2))) else b
def goL (gu : I1 → Nat → Nat → Int32) (rub : Int32) (n : Nat) (one : Int32) (m : Nat) (b : I1) : I1 := itr (fun s b => goS gu rub n one s b) m b
def goD (gu : I1 → Nat → Nat → Int32) (rub : Int32) (n : Nat) (one : Int32) (m : Nat) (b : I1) : I1 := upd (goL gu rub n one m b) 80 (goL gu rub n one m b 80 + nI 1)
def goN (gu : I1 → Nat → Nat → Int32) (rub : Int32) (n : Nat) (one : Int32) (m k : Nat) (b : I1) : I1 := itr (fun _ b => goD gu rub n one m b) k b
theorem goS_hi {gu : I1 → Nat → Nat → Int32} {rub : Int32} {n : Nat} {one : Int32} {s : Nat} {b : I1} (hn : n ≤ 6) {k : Nat} (hk : 54 ≤ k) : goS gu rub n one s b k = b k := by
  unfold goS
  split
  · next h =>
    obtain ⟨i, hi, e⟩ := InN_nat (by omega) (sbC_of h.2).1
    exact skC_hi (by rw [e, ix_nI (by omega)]; omega) hk
  · rfl
theorem goL_hi {gu : I1 → Nat → Nat → Int32} {rub : Int32} {n : Nat} {one : Int32} {b : I1} (hn : n ≤ 6) {k : Nat} (hk : 54 ≤ k) : ∀ m, goL gu rub n one m b k = b k := by
  intro m
  induction m with
  | zero => rfl
  | succ m ih => exact (goS_hi hn hk).trans ih
theorem goD_hi {gu : I1 → Nat → Nat → Int32} {rub : Int32} {n : Nat} {one : Int32} {m : Nat} {b : I1} (hn : n ≤ 6) {k : Nat} (hk : 54 ≤ k) (h80 : k ≠ 80) : goD gu rub n one m b k = b k := by
  unfold goD
  rw [upd, if_neg h80]
  exact goL_hi hn hk m
theorem goN_hi {gu : I1 → Nat → Nat → Int32} {rub : Int32} {n : Nat} {one : Int32} {m : Nat} {b : I1} (hn : n ≤ 6) {k : Nat} (hk : 54 ≤ k) (h80 : k ≠ 80) : ∀ j, goN gu rub n one m j b k = b k := by
  intro j
  induction j with
  | zero => rfl
  | succ j ih => exact (goD_hi hn hk h80).trans ih
theorem CI_L {gu : I1 → Nat → Nat → Int32} {rub : Int32} {n n1 m m1 : Nat} {one : Int32} {b : I1} (hn : n ≤ 6) (h : CI b n1 m1) : CI (goL gu rub n one m b) n1 m1 := CI_hi (goL_hi hn (by omega) m) (goL_hi hn (by omega) m) h
theorem CI_N {gu : I1 → Nat → Nat → Int32} {rub : Int32} {n n1 m m1 j : Nat} {one : Int32} {b : I1} (hn : n ≤ 6) (h : CI b n1 m1) : CI (goN gu rub n one m j b) n1 m1 := CI_hi (goN_hi hn (by omega) (by omega) j) (goN_hi hn (by omega) (by omega) j) h
/-- one step more -/
def psh (ct : CTt) (c k : Nat) (a b : Int32) : CTt := (va_up ct.1 c (upd (ct.1 c) k a), va_up ct.2.1 c (upd (ct.2.1 c) k b), va_up ct.2.2.1 c (nI (k + 1)), ct.2.2.2)
theorem c_put {l : Launch} {g : GG} {X : PHp} {h0 : HZ} {ct : CTt} {cl : I2} {rd : RDt} {B : I2} {cy : Nat → Nat} {rw : RWt} {tl : TLt} {sp : SPt} {c k : Nat} {a b : Int32} (hc : c < 7) (hk : ct.2.2.1 c = nI k) (hk1 : k < 100) : Ct l g yX0_put cX0_put 3 none 1 0 0 [rf g (2, c, 0), .int a, .int b] NN (jn (hC g h0 ct cl rd B cy rw tl sp) X) (pV (jn (hC g h0 (psh ct c k a b) cl rd B cy rw tl sp) X)) := by
  refine Ct.of (lv := [some (rf g (2, c, 0)), some (.int a), some (.int b)]) (by decide +kernel) rfl (Nat.le_of_ble_eq_true rfl) ?_
  intro Γ C
  refine V.aload_n (q := 1) C dX0_put_0 rfl rfl ?_
  refine V.get (q := 4) C fl_X0_21 dX0_put_1 rfl (okC_2 (by omega)) rfl rfl ?_
  try dsimp only
  refine V.topi (x1 := nI (k)) hk ?_
  refine V.aload_n (q := 5) C dX0_put_4 rfl rfl ?_
  refine V.get (q := 8) C fl_X0_9 dX0_put_5 rfl (okC_2 (by omega)) rfl rfl ?_
  refine V.len_aI (q := 9) C dX0_put_8 rfl (okC_3 (by omega) (by omega)) rfl ?_
  refine V.icmp_ge (q := 12) (tgt := 42) C dX0_put_9 rfl rfl (fun hb9 => ?_) (fun hb9 => ?_)
  · exact absurd ((nI_leI (by omega) (by omega)).mp hb9) (by omega)
  · refine V.aload_n (q := 13) C dX0_put_12 rfl rfl ?_
    refine V.get (q := 16) C fl_X0_9 dX0_put_13 rfl (okC_2 (by omega)) rfl rfl ?_
    refine V.aload_n (q := 17) C dX0_put_16 rfl rfl ?_
    refine V.get (q := 20) C fl_X0_21 dX0_put_17 rfl (okC_2 (by omega)) rfl rfl ?_
    try dsimp only
    refine V.topi (x1 := nI (k)) hk ?_
    refine V.iload_n (q := 21) C dX0_put_20 rfl rfl ?_
    refine V.ist (q := 22) (i := (k)) C dX0_put_21 rfl (okC_3 (by omega) (by omega)) rfl rfl (by omega) (by decide) rfl ?_
    refine V.phE uC_3_0 ?_
    try dsimp only
    refine V.aload_n (q := 23) C dX0_put_22 rfl rfl ?_
    refine V.get (q := 26) C fl_X0_15 dX0_put_23 rfl (okC_2 (by omega)) rfl rfl ?_
    refine V.aload_n (q := 27) C dX0_put_26 rfl rfl ?_
    refine V.get (q := 30) C fl_X0_21 dX0_put_27 rfl (okC_2 (by omega)) rfl rfl ?_
    try dsimp only
    refine V.topi (x1 := nI (k)) hk ?_
    refine V.iload_n (q := 31) C dX0_put_30 rfl rfl ?_
    refine V.ist (q := 32) (i := (k)) C dX0_put_31 rfl (okC_3 (by omega) (by omega)) rfl rfl (by omega) (by decide) rfl ?_
    refine V.phE uC_3_1 ?_
    try dsimp only
    refine V.aload_n (q := 33) C dX0_put_32 rfl rfl ?_
    refine V.dup (q := 34) C dX0_put_33 rfl rfl ?_
    refine V.get (q := 37) C fl_X0_21 dX0_put_34 rfl (okC_2 (by omega)) rfl rfl ?_
    try dsimp only
    refine V.topi (x1 := nI (k)) hk ?_
    refine V.iconst (q := 38) (v := nI 1) C dX0_put_37 rfl (by decide) ?_
    refine V.iadd (q := 39) C dX0_put_38 rfl ?_
    refine V.topi (x1 := nI ((k) + 1)) (nI_add _ _) ?_
    refine V.put (q := 42) C fl_X0_21 rfl dX0_put_39 rfl (okC_2 (by omega)) rfl (Nat.le_of_ble_eq_true rfl) rfl rfl rfl ?_
    refine V.phE (uC_2_3) ?_
    try dsimp only
    exact V.vreturn C dX0_put_42 ⟨rfl, rfl, rfl⟩
theorem hC_cl {g : GG} {X : PHp} {h0 : HZ} {ct : CTt} {cl cl1 : I2} {rd : RDt} {B : I2} {cy : Nat → Nat} {rw : RWt} {tl : TLt} {sp : SPt} (h : ∀ c j, j < 6 → cl c j = cl1 c j) : ∀ q, vld q = true → (jn (hC g h0 ct cl rd B cy rw tl sp) X) q = (jn (hC g h0 ct cl1 rd B cy rw tl sp) X) q := by
  intro q hv
  clear hv
  have e : (hC g h0 ct cl rd B cy rw tl sp) q = (hC g h0 ct cl1 rd B cy rw tl sp) q := by
    unfold hC
    split <;> first
      | rfl
      | (next c => exact aI_eq (fun j hj => h c j hj))
  unfold jn
  rw [e]
set_option maxHeartbeats 1000000 in
theorem c_sum_l {l : Launch} {g : GG} {X : PHp} {h0 : HZ} {ct : CTt} {cl : I2} {rd : RDt} {B : I2} {cy : Nat → Nat} {rw : RWt} {tl : TLt} {sp : SPt} {Γ : Cxt} {Q : State → Prop} {w i s c kc : Nat} {d : Int32} {F : I1} {r0 : Int32 × Int32} (hO : CtO ct c kc) (hF : cl c = F) (C : Cx Γ g cX0_sum yX0_sum 10 (some .int) 1 0 0) (kx : ∀ (u7 u8 u9 : Option Value), V l Γ g 10 Q 0 0 NN (jn (hC g h0 ct cl rd B cy rw tl sp) X) 257 [some (rf g (2, c, 0)), some (rf g (9, w, i)), some (.int (nI s)), some (.int d), some (.int (suC (ct.1 c) (ct.2.1 c) F kc r0).1), some (.int (suC (ct.1 c) (ct.2.1 c) F kc r0).2), some (.int (nI kc)), u7, u8, u9] []) : ∀ (f j : Nat) (u7 u8 u9 : Option Value), j + f = kc → V l Γ g 10 Q 0 0 NN (jn (hC g h0 ct cl rd B cy rw tl sp) X) 74 [some (rf g (2, c, 0)), some (rf g (9, w, i)), some (.int (nI s)), some (.int d), some (.int (suC (ct.1 c) (ct.2.1 c) F j r0).1), some (.int (suC (ct.1 c) (ct.2.1 c) F j r0).2), some (.int (nI j)), u7, u8, u9] [] := by
  have hc := hO.1
  have hk := hO.2.1
  have hk1 := hO.2.2.1
  intro f
  induction f with
  | zero =>
    intro j u7 u8 u9 hj
    obtain rfl : j = kc := by omega
    refine V.iload (q := 76) C dX0_sum_74 rfl rfl ?_
    refine V.aload_n (q := 77) C dX0_sum_76 rfl rfl ?_
    refine V.get (q := 80) C fl_X0_21 dX0_sum_77 rfl (okC_2 (by omega)) rfl rfl ?_
    refine V.topi (x1 := nI (j)) hk ?_
    refine V.icmp_ge (q := 83) (tgt := 257) C dX0_sum_80 rfl rfl (fun hb80 => ?_) (fun hb80 => ?_)
    · exact kx u7 u8 u9
    · exact absurd ((nI_leI (by omega) (by omega)).mpr (by omega)) hb80
  | succ f ih =>
    intro j u7 u8 u9 hj
    obtain ⟨t, ht, et⟩ := hO.2.2.2 j (by omega)
    have it : ix (ct.1 c j) = t := by rw [et]; exact ix_nI (by omega)
    refine V.iload (q := 76) C dX0_sum_74 rfl rfl ?_
    refine V.aload_n (q := 77) C dX0_sum_76 rfl rfl ?_
    refine V.get (q := 80) C fl_X0_21 dX0_sum_77 rfl (okC_2 (by omega)) rfl rfl ?_
    refine V.topi (x1 := nI (kc)) hk ?_
    refine V.icmp_ge (q := 83) (tgt := 257) C dX0_sum_80 rfl rfl (fun hb80 => ?_) (fun hb80 => ?_)
    · exact absurd ((nI_leI (by omega) (by omega)).mp hb80) (by omega)
    · refine V.aload_n (q := 84) C dX0_sum_83 rfl rfl ?_
      refine V.get (q := 87) C fl_X0_15 dX0_sum_84 rfl (okC_2 (by omega)) rfl rfl ?_
      refine V.iload (q := 89) C dX0_sum_87 rfl rfl ?_
      refine V.ild (q := 90) (i := j) C dX0_sum_89 rfl (okC_3 (by omega) (by omega)) rfl rfl (by omega) (by decide) ?_
      refine V.istore (q := 92) C dX0_sum_90 rfl (by decide) rfl rfl ?_
      refine V.aload_n (q := 93) C dX0_sum_92 rfl rfl ?_
      refine V.get (q := 96) C fl_X0_9 dX0_sum_93 rfl (okC_2 (by omega)) rfl rfl ?_
      refine V.iload (q := 98) C dX0_sum_96 rfl rfl ?_
      refine V.ild (q := 99) (i := j) C dX0_sum_98 rfl (okC_3 (by omega) (by omega)) rfl rfl (by omega) (by decide) ?_
      refine V.topi (x1 := nI (t)) et ?_
      refine V.tsw (lo := 18) (N := 4) (tgt := 184) C dX0_sum_99 (by decide) (by decide) rfl (fun k hk hx99 => ?_) (fun hx99 => ?_)
      · obtain rfl | rfl | rfl | rfl := (show k = 0 ∨ k = 1 ∨ k = 2 ∨ k = 3 by omega)
        · refine ⟨_, 128, rfl, rfl, ?_⟩
          replace hx99 : _ = nI 18 := hx99
          have t9 : t = 18 := (nI_eq (by omega) (by omega)).mp hx99
          refine V.iload (q := 130) C dX0_sum_128 rfl rfl ?_
          refine V.iconst (q := 131) (v := nI 1) C dX0_sum_130 rfl (by decide) ?_
          refine V.ishr (q := 132) C dX0_sum_131 rfl ?_
          refine V.iload (q := 134) C dX0_sum_132 rfl rfl ?_
          refine V.bipush (q := 136) (v := -2) C dX0_sum_134 rfl (by decide) ?_
          refine V.ior (q := 137) C dX0_sum_136 rfl ?_
          refine V.iand (q := 138) C dX0_sum_137 rfl ?_
          refine V.istore (q := 140) C dX0_sum_138 rfl (by decide) rfl rfl ?_
          refine V.goto (tgt := 251) C dX0_sum_140 rfl ?_
          refine V.iinc (q := 254) (v := nI (j + 1)) C dX0_sum_251 rfl rfl (nI_1 _) (by decide) rfl rfl ?_
          refine V.goto (tgt := 74) C dX0_sum_254 rfl ?_
          have e : (suC (ct.1 c) (ct.2.1 c) F (j + 1) r0) = stC F t (ct.2.1 c j) (suC (ct.1 c) (ct.2.1 c) F j r0) := congrArg (fun z => stC F z (ct.2.1 c j) (suC (ct.1 c) (ct.2.1 c) F j r0)) it
          have h9 := fun u v x => ih (j + 1) u v x (by omega)
          rw [e] at h9
          rw [show t = 18 from t9, stC_18] at h9
          exact h9 _ _ _
        · refine ⟨_, 143, rfl, rfl, ?_⟩
          replace hx99 : _ = nI 19 := hx99
          have t9 : t = 19 := (nI_eq (by omega) (by omega)).mp hx99
          refine V.iload (q := 145) C dX0_sum_143 rfl rfl ?_
          refine V.iconst (q := 146) (v := nI 1) C dX0_sum_145 rfl (by decide) ?_
          refine V.ishr (q := 147) C dX0_sum_146 rfl ?_
          refine V.iload (q := 149) C dX0_sum_147 rfl rfl ?_
          refine V.iconst (q := 150) (v := nI 1) C dX0_sum_149 rfl (by decide) ?_
          refine V.iand (q := 151) C dX0_sum_150 rfl ?_
          refine V.ior (q := 152) C dX0_sum_151 rfl ?_
          refine V.istore (q := 154) C dX0_sum_152 rfl (by decide) rfl rfl ?_
          refine V.goto (tgt := 251) C dX0_sum_154 rfl ?_
          refine V.iinc (q := 254) (v := nI (j + 1)) C dX0_sum_251 rfl rfl (nI_1 _) (by decide) rfl rfl ?_
          refine V.goto (tgt := 74) C dX0_sum_254 rfl ?_
          have e : (suC (ct.1 c) (ct.2.1 c) F (j + 1) r0) = stC F t (ct.2.1 c j) (suC (ct.1 c) (ct.2.1 c) F j r0) := congrArg (fun z => stC F z (ct.2.1 c j) (suC (ct.1 c) (ct.2.1 c) F j r0)) it
          have h9 := fun u v x => ih (j + 1) u v x (by omega)
          rw [e] at h9
          rw [show t = 19 from t9, stC_19] at h9
          exact h9 _ _ _
        · refine ⟨_, 157, rfl, rfl, ?_⟩
          replace hx99 : _ = nI 20 := hx99
          have t9 : t = 20 := (nI_eq (by omega) (by omega)).mp hx99
          refine V.iload (q := 159) C dX0_sum_157 rfl rfl ?_
          refine V.iconst (q := 160) (v := nI 1) C dX0_sum_159 rfl (by decide) ?_
          refine V.ixor (q := 161) C dX0_sum_160 rfl ?_
          refine V.istore (q := 163) C dX0_sum_161 rfl (by decide) rfl rfl ?_
          refine V.goto (tgt := 251) C dX0_sum_163 rfl ?_
          refine V.iinc (q := 254) (v := nI (j + 1)) C dX0_sum_251 rfl rfl (nI_1 _) (by decide) rfl rfl ?_
          refine V.goto (tgt := 74) C dX0_sum_254 rfl ?_
          have e : (suC (ct.1 c) (ct.2.1 c) F (j + 1) r0) = stC F t (ct.2.1 c j) (suC (ct.1 c) (ct.2.1 c) F j r0) := congrArg (fun z => stC F z (ct.2.1 c j) (suC (ct.1 c) (ct.2.1 c) F j r0)) it
          have h9 := fun u v x => ih (j + 1) u v x (by omega)
          rw [e] at h9
          rw [show t = 20 from t9, stC_20] at h9
          exact h9 _ _ _
        · refine ⟨_, 166, rfl, rfl, ?_⟩
          replace hx99 : _ = nI 21 := hx99
          have t9 : t = 21 := (nI_eq (by omega) (by omega)).mp hx99
          refine V.iload (q := 168) C dX0_sum_166 rfl rfl ?_
          refine V.iload (q := 170) C dX0_sum_168 rfl rfl ?_
          refine V.iconst (q := 171) (v := nI 1) C dX0_sum_170 rfl (by decide) ?_
          refine V.iand (q := 172) C dX0_sum_171 rfl ?_
          refine V.iload (q := 174) C dX0_sum_172 rfl rfl ?_
          refine V.imul (q := 175) C dX0_sum_174 rfl ?_
          refine V.iadd (q := 176) C dX0_sum_175 rfl ?_
          refine V.istore (q := 178) C dX0_sum_176 rfl (by decide) rfl rfl ?_
          refine V.iconst (q := 179) (v := nI 0) C dX0_sum_178 rfl (by decide) ?_
          refine V.istore (q := 181) C dX0_sum_179 rfl (by decide) rfl rfl ?_
          refine V.goto (tgt := 251) C dX0_sum_181 rfl ?_
          refine V.iinc (q := 254) (v := nI (j + 1)) C dX0_sum_251 rfl rfl (nI_1 _) (by decide) rfl rfl ?_
          refine V.goto (tgt := 74) C dX0_sum_254 rfl ?_
          have e : (suC (ct.1 c) (ct.2.1 c) F (j + 1) r0) = stC F t (ct.2.1 c j) (suC (ct.1 c) (ct.2.1 c) F j r0) := congrArg (fun z => stC F z (ct.2.1 c j) (suC (ct.1 c) (ct.2.1 c) F j r0)) it
          have h9 := fun u v x => ih (j + 1) u v x (by omega)
          rw [e] at h9
          rw [show t = 21 from t9, stC_21] at h9
          exact h9 _ _ _
      · have h18 : t < 18 := Nat.lt_of_not_le (fun q => hx99 (t - 18) (by omega) (by rw [show 18 + (t - 18) = t by omega]))
        refine V.aload_n (q := 185) C dX0_sum_184 rfl rfl ?_
        refine V.get (q := 188) C fl_X0_18 dX0_sum_185 rfl (okC_2 (by omega)) rfl rfl ?_
        refine V.aload_n (q := 189) C dX0_sum_188 rfl rfl ?_
        refine V.get (q := 192) C fl_X0_9 dX0_sum_189 rfl (okC_2 (by omega)) rfl rfl ?_
        refine V.iload (q := 194) C dX0_sum_192 rfl rfl ?_
        refine V.ild (q := 195) (i := j) C dX0_sum_194 rfl (okC_3 (by omega) (by omega)) rfl rfl (by omega) (by decide) ?_
        refine V.topi (x1 := nI (t)) et ?_
        refine V.iconst (q := 196) (v := nI 3) C dX0_sum_195 rfl (by decide) ?_
        refine V.idiv (q := 197) C dX0_sum_196 rfl (by decide) ?_
        refine V.topi (x1 := nI (t / 3)) (pk_div (by omega) (by omega) (by omega)) ?_
        refine V.ild (q := 198) (i := (t / 3)) C dX0_sum_197 rfl (okC_3 (by omega) (by omega)) rfl rfl (by omega) (by decide) ?_
        refine V.topi (x1 := F (t / 3)) (congrFun hF _) ?_
        refine V.istore (q := 200) C dX0_sum_198 rfl (by decide) rfl rfl ?_
        refine V.iload (q := 202) C dX0_sum_200 rfl rfl ?_
        refine V.iload (q := 204) C dX0_sum_202 rfl rfl ?_
        refine V.icmp_ge (q := 207) (tgt := 211) C dX0_sum_204 rfl rfl (fun hb204 => ?_) (fun hb204 => ?_)
        · refine V.iload (q := 213) C dX0_sum_211 rfl rfl ?_
          refine V.iload (q := 215) C dX0_sum_213 rfl rfl ?_
          refine V.icmp_ne (q := 218) (tgt := 222) C dX0_sum_215 rfl rfl (fun hb215 => ?_) (fun hb215 => ?_)
          · refine V.iconst (q := 223) (v := nI 2) C dX0_sum_222 rfl (by decide) ?_
            refine V.istore (q := 225) C dX0_sum_223 rfl (by decide) rfl rfl ?_
            refine V.iload (q := 227) C dX0_sum_225 rfl rfl ?_
            refine V.iconst (q := 228) (v := nI 1) C dX0_sum_227 rfl (by decide) ?_
            refine V.ishl (q := 229) C dX0_sum_228 rfl ?_
            refine V.iload (q := 231) C dX0_sum_229 rfl rfl ?_
            refine V.aload_n (q := 232) C dX0_sum_231 rfl rfl ?_
            refine V.get (q := 235) C fl_X0_9 dX0_sum_232 rfl (okC_2 (by omega)) rfl rfl ?_
            refine V.iload (q := 237) C dX0_sum_235 rfl rfl ?_
            refine V.ild (q := 238) (i := j) C dX0_sum_237 rfl (okC_3 (by omega) (by omega)) rfl rfl (by omega) (by decide) ?_
            refine V.topi (x1 := nI (t)) et ?_
            refine V.iconst (q := 239) (v := nI 3) C dX0_sum_238 rfl (by decide) ?_
            refine V.irem (q := 240) C dX0_sum_239 rfl (by decide) ?_
            refine V.topi (x1 := nI (t % 3)) (pk_rem (by omega) (by omega) (by omega)) ?_
            refine V.icmp_ne (q := 243) (tgt := 247) C dX0_sum_240 rfl rfl (fun hb240 => ?_) (fun hb240 => ?_)
            · refine V.iconst (q := 248) (v := nI 0) C dX0_sum_247 rfl (by decide) ?_
              refine V.ior (q := 249) C dX0_sum_248 rfl ?_
              refine V.istore (q := 251) C dX0_sum_249 rfl (by decide) rfl rfl ?_
              refine V.iinc (q := 254) (v := nI (j + 1)) C dX0_sum_251 rfl rfl (nI_1 _) (by decide) rfl rfl ?_
              refine V.goto (tgt := 74) C dX0_sum_254 rfl ?_
              have e : (suC (ct.1 c) (ct.2.1 c) F (j + 1) r0) = stC F t (ct.2.1 c j) (suC (ct.1 c) (ct.2.1 c) F j r0) := congrArg (fun z => stC F z (ct.2.1 c j) (suC (ct.1 c) (ct.2.1 c) F j r0)) it
              have h9 := fun u v x => ih (j + 1) u v x (by omega)
              rw [e] at h9
              rw [stC_d h18, rlN, if_pos hb204, if_neg hb215, if_neg (show ¬ 2 = t % 3 from fun z => hb240 (congrArg nI z))] at h9
              exact h9 _ _ _
            · have e240 := hb240
              refine V.iconst (q := 244) (v := nI 1) C dX0_sum_243 rfl (by decide) ?_
              refine V.goto (tgt := 248) C dX0_sum_244 rfl ?_
              refine V.ior (q := 249) C dX0_sum_248 rfl ?_
              refine V.istore (q := 251) C dX0_sum_249 rfl (by decide) rfl rfl ?_
              refine V.iinc (q := 254) (v := nI (j + 1)) C dX0_sum_251 rfl rfl (nI_1 _) (by decide) rfl rfl ?_
              refine V.goto (tgt := 74) C dX0_sum_254 rfl ?_
              have e : (suC (ct.1 c) (ct.2.1 c) F (j + 1) r0) = stC F t (ct.2.1 c j) (suC (ct.1 c) (ct.2.1 c) F j r0) := congrArg (fun z => stC F z (ct.2.1 c j) (suC (ct.1 c) (ct.2.1 c) F j r0)) it
              have h9 := fun u v x => ih (j + 1) u v x (by omega)
              rw [e] at h9
              rw [stC_d h18, rlN, if_pos hb204, if_neg hb215, if_pos (show 2 = t % 3 from (nI_eq (by omega) (by omega)).mp e240)] at h9
              exact h9 _ _ _
          · have e215 : F (t / 3) = ct.2.1 c j := hb215
            refine V.iconst (q := 219) (v := nI 1) C dX0_sum_218 rfl (by decide) ?_
            refine V.goto (tgt := 223) C dX0_sum_219 rfl ?_
            refine V.istore (q := 225) C dX0_sum_223 rfl (by decide) rfl rfl ?_
            refine V.iload (q := 227) C dX0_sum_225 rfl rfl ?_
            refine V.iconst (q := 228) (v := nI 1) C dX0_sum_227 rfl (by decide) ?_
            refine V.ishl (q := 229) C dX0_sum_228 rfl ?_
            refine V.iload (q := 231) C dX0_sum_229 rfl rfl ?_
            refine V.aload_n (q := 232) C dX0_sum_231 rfl rfl ?_
            refine V.get (q := 235) C fl_X0_9 dX0_sum_232 rfl (okC_2 (by omega)) rfl rfl ?_
            refine V.iload (q := 237) C dX0_sum_235 rfl rfl ?_
            refine V.ild (q := 238) (i := j) C dX0_sum_237 rfl (okC_3 (by omega) (by omega)) rfl rfl (by omega) (by decide) ?_
            refine V.topi (x1 := nI (t)) et ?_
            refine V.iconst (q := 239) (v := nI 3) C dX0_sum_238 rfl (by decide) ?_
            refine V.irem (q := 240) C dX0_sum_239 rfl (by decide) ?_
            refine V.topi (x1 := nI (t % 3)) (pk_rem (by omega) (by omega) (by omega)) ?_
            refine V.icmp_ne (q := 243) (tgt := 247) C dX0_sum_240 rfl rfl (fun hb240 => ?_) (fun hb240 => ?_)
            · refine V.iconst (q := 248) (v := nI 0) C dX0_sum_247 rfl (by decide) ?_
              refine V.ior (q := 249) C dX0_sum_248 rfl ?_
              refine V.istore (q := 251) C dX0_sum_249 rfl (by decide) rfl rfl ?_
              refine V.iinc (q := 254) (v := nI (j + 1)) C dX0_sum_251 rfl rfl (nI_1 _) (by decide) rfl rfl ?_
              refine V.goto (tgt := 74) C dX0_sum_254 rfl ?_
              have e : (suC (ct.1 c) (ct.2.1 c) F (j + 1) r0) = stC F t (ct.2.1 c j) (suC (ct.1 c) (ct.2.1 c) F j r0) := congrArg (fun z => stC F z (ct.2.1 c j) (suC (ct.1 c) (ct.2.1 c) F j r0)) it
              have h9 := fun u v x => ih (j + 1) u v x (by omega)
              rw [e] at h9
              rw [stC_d h18, rlN, if_pos hb204, if_pos e215, if_neg (show ¬ 1 = t % 3 from fun z => hb240 (congrArg nI z))] at h9
              exact h9 _ _ _
            · have e240 := hb240
              refine V.iconst (q := 244) (v := nI 1) C dX0_sum_243 rfl (by decide) ?_
              refine V.goto (tgt := 248) C dX0_sum_244 rfl ?_
              refine V.ior (q := 249) C dX0_sum_248 rfl ?_
              refine V.istore (q := 251) C dX0_sum_249 rfl (by decide) rfl rfl ?_
              refine V.iinc (q := 254) (v := nI (j + 1)) C dX0_sum_251 rfl rfl (nI_1 _) (by decide) rfl rfl ?_
              refine V.goto (tgt := 74) C dX0_sum_254 rfl ?_
              have e : (suC (ct.1 c) (ct.2.1 c) F (j + 1) r0) = stC F t (ct.2.1 c j) (suC (ct.1 c) (ct.2.1 c) F j r0) := congrArg (fun z => stC F z (ct.2.1 c j) (suC (ct.1 c) (ct.2.1 c) F j r0)) it
              have h9 := fun u v x => ih (j + 1) u v x (by omega)
              rw [e] at h9
              rw [stC_d h18, rlN, if_pos hb204, if_pos e215, if_pos (show 1 = t % 3 from (nI_eq (by omega) (by omega)).mp e240)] at h9
              exact h9 _ _ _
        · refine V.iconst (q := 208) (v := nI 0) C dX0_sum_207 rfl (by decide) ?_
          refine V.goto (tgt := 223) C dX0_sum_208 rfl ?_
          refine V.istore (q := 225) C dX0_sum_223 rfl (by decide) rfl rfl ?_
          refine V.iload (q := 227) C dX0_sum_225 rfl rfl ?_
          refine V.iconst (q := 228) (v := nI 1) C dX0_sum_227 rfl (by decide) ?_
          refine V.ishl (q := 229) C dX0_sum_228 rfl ?_
          refine V.iload (q := 231) C dX0_sum_229 rfl rfl ?_
          refine V.aload_n (q := 232) C dX0_sum_231 rfl rfl ?_
          refine V.get (q := 235) C fl_X0_9 dX0_sum_232 rfl (okC_2 (by omega)) rfl rfl ?_
          refine V.iload (q := 237) C dX0_sum_235 rfl rfl ?_
          refine V.ild (q := 238) (i := j) C dX0_sum_237 rfl (okC_3 (by omega) (by omega)) rfl rfl (by omega) (by decide) ?_
          refine V.topi (x1 := nI (t)) et ?_
          refine V.iconst (q := 239) (v := nI 3) C dX0_sum_238 rfl (by decide) ?_
          refine V.irem (q := 240) C dX0_sum_239 rfl (by decide) ?_
          refine V.topi (x1 := nI (t % 3)) (pk_rem (by omega) (by omega) (by omega)) ?_
          refine V.icmp_ne (q := 243) (tgt := 247) C dX0_sum_240 rfl rfl (fun hb240 => ?_) (fun hb240 => ?_)
          · refine V.iconst (q := 248) (v := nI 0) C dX0_sum_247 rfl (by decide) ?_
            refine V.ior (q := 249) C dX0_sum_248 rfl ?_
            refine V.istore (q := 251) C dX0_sum_249 rfl (by decide) rfl rfl ?_
            refine V.iinc (q := 254) (v := nI (j + 1)) C dX0_sum_251 rfl rfl (nI_1 _) (by decide) rfl rfl ?_
            refine V.goto (tgt := 74) C dX0_sum_254 rfl ?_
            have e : (suC (ct.1 c) (ct.2.1 c) F (j + 1) r0) = stC F t (ct.2.1 c j) (suC (ct.1 c) (ct.2.1 c) F j r0) := congrArg (fun z => stC F z (ct.2.1 c j) (suC (ct.1 c) (ct.2.1 c) F j r0)) it
            have h9 := fun u v x => ih (j + 1) u v x (by omega)
            rw [e] at h9
            rw [stC_d h18, rlN, if_neg hb204, if_neg (show ¬ 0 = t % 3 from fun z => hb240 (congrArg nI z))] at h9
            exact h9 _ _ _
          · have e240 := hb240
            refine V.iconst (q := 244) (v := nI 1) C dX0_sum_243 rfl (by decide) ?_
            refine V.goto (tgt := 248) C dX0_sum_244 rfl ?_
            refine V.ior (q := 249) C dX0_sum_248 rfl ?_
            refine V.istore (q := 251) C dX0_sum_249 rfl (by decide) rfl rfl ?_
            refine V.iinc (q := 254) (v := nI (j + 1)) C dX0_sum_251 rfl rfl (nI_1 _) (by decide) rfl rfl ?_
            refine V.goto (tgt := 74) C dX0_sum_254 rfl ?_
            have e : (suC (ct.1 c) (ct.2.1 c) F (j + 1) r0) = stC F t (ct.2.1 c j) (suC (ct.1 c) (ct.2.1 c) F j r0) := congrArg (fun z => stC F z (ct.2.1 c j) (suC (ct.1 c) (ct.2.1 c) F j r0)) it
            have h9 := fun u v x => ih (j + 1) u v x (by omega)
            rw [e] at h9
            rw [stC_d h18, rlN, if_neg hb204, if_pos (show 0 = t % 3 from (nI_eq (by omega) (by omega)).mp e240)] at h9
            exact h9 _ _ _
set_option maxHeartbeats 1000000 in
theorem c_sum {l : Launch} {g : GG} {X : PHp} {h0 : HZ} {ct : CTt} {cl : I2} {rd : RDt} {B : I2} {cy : Nat → Nat} {rw : RWt} {tl : TLt} {sp : SPt} {w i s c kc : Nat} (hw : w < 3) (hi : i < 6) (hO : CtO ct c kc) : Ct l g yX0_sum cX0_sum 10 (some .int) 1 0 0 [rf g (2, c, 0), rf g (9, w, i), .int (nI s), .int (B w 80)] NN (jn (hC g h0 ct cl rd B cy rw tl sp) X) (xI (fun _ : I2 => True) (fun _ => (suC (ct.1 c) (ct.2.1 c) (namF (B w) i (nI s)) kc (B w (9 * i + 2) / nI 5, nI 0)).1) (fun cl1 => (jn (hC g h0 ct cl1 rd B cy rw tl sp) X))) := by
  refine Ct.of (lv := [some (rf g (2, c, 0)), some (rf g (9, w, i)), some (.int (nI s)), some (.int (B w 80)), none, none, none, none, none, none]) (by decide +kernel) rfl (Nat.le_of_ble_eq_true rfl) ?_
  intro Γ C
  have hc := hO.1
  refine V.aload_n (q := 1) C dX0_sum_0 rfl rfl ?_
  refine V.get (q := 4) C fl_X0_18 dX0_sum_1 rfl (okC_2 (by omega)) rfl rfl ?_
  refine V.iconst (q := 5) (v := nI 0) C dX0_sum_4 rfl (by decide) ?_
  refine V.aload_n (q := 6) C dX0_sum_5 rfl rfl ?_
  refine V.get (q := 9) C fl_X0_28 dX0_sum_6 rfl (okC_9 (by omega) (by omega)) rfl rfl ?_
  refine V.ist (q := 10) (i := 0) C dX0_sum_9 rfl (okC_3 (by omega) (by omega)) rfl rfl (by omega) (by decide) rfl ?_
  refine V.phE uC_3_2 ?_
  refine V.aload_n (q := 11) C dX0_sum_10 rfl rfl ?_
  refine V.get (q := 14) C fl_X0_18 dX0_sum_11 rfl (okC_2 (by omega)) rfl rfl ?_
  refine V.iconst (q := 15) (v := nI 1) C dX0_sum_14 rfl (by decide) ?_
  refine V.aload_n (q := 16) C dX0_sum_15 rfl rfl ?_
  refine V.get (q := 19) C fl_X0_33 dX0_sum_16 rfl (okC_9 (by omega) (by omega)) rfl rfl ?_
  refine V.ist (q := 20) (i := 1) C dX0_sum_19 rfl (okC_3 (by omega) (by omega)) rfl rfl (by omega) (by decide) rfl ?_
  refine V.phE uC_3_2 ?_
  refine V.aload_n (q := 21) C dX0_sum_20 rfl rfl ?_
  refine V.get (q := 24) C fl_X0_18 dX0_sum_21 rfl (okC_2 (by omega)) rfl rfl ?_
  refine V.iconst (q := 25) (v := nI 2) C dX0_sum_24 rfl (by decide) ?_
  refine V.aload_n (q := 26) C dX0_sum_25 rfl rfl ?_
  refine V.get (q := 29) C fl_X0_36 dX0_sum_26 rfl (okC_9 (by omega) (by omega)) rfl rfl ?_
  refine V.ist (q := 30) (i := 2) C dX0_sum_29 rfl (okC_3 (by omega) (by omega)) rfl rfl (by omega) (by decide) rfl ?_
  refine V.phE uC_3_2 ?_
  refine V.aload_n (q := 31) C dX0_sum_30 rfl rfl ?_
  refine V.get (q := 34) C fl_X0_18 dX0_sum_31 rfl (okC_2 (by omega)) rfl rfl ?_
  refine V.iconst (q := 35) (v := nI 3) C dX0_sum_34 rfl (by decide) ?_
  refine V.iload_n (q := 36) C dX0_sum_35 rfl rfl ?_
  refine V.ist (q := 37) (i := 3) C dX0_sum_36 rfl (okC_3 (by omega) (by omega)) rfl rfl (by omega) (by decide) rfl ?_
  refine V.phE uC_3_2 ?_
  refine V.aload_n (q := 38) C dX0_sum_37 rfl rfl ?_
  refine V.get (q := 41) C fl_X0_18 dX0_sum_38 rfl (okC_2 (by omega)) rfl rfl ?_
  refine V.iconst (q := 42) (v := nI 4) C dX0_sum_41 rfl (by decide) ?_
  refine V.aload_n (q := 43) C dX0_sum_42 rfl rfl ?_
  refine V.get (q := 46) C fl_X0_39 dX0_sum_43 rfl (okC_9 (by omega) (by omega)) rfl rfl ?_
  refine V.bipush (q := 48) (v := nI 10) C dX0_sum_46 rfl (by decide) ?_
  refine V.idiv (q := 49) C dX0_sum_48 rfl (by decide) ?_
  refine V.ist (q := 50) (i := 4) C dX0_sum_49 rfl (okC_3 (by omega) (by omega)) rfl rfl (by omega) (by decide) rfl ?_
  refine V.phE uC_3_2 ?_
  refine V.aload_n (q := 51) C dX0_sum_50 rfl rfl ?_
  refine V.get (q := 54) C fl_X0_18 dX0_sum_51 rfl (okC_2 (by omega)) rfl rfl ?_
  refine V.iconst (q := 55) (v := nI 5) C dX0_sum_54 rfl (by decide) ?_
  refine V.iload_n (q := 56) C dX0_sum_55 rfl rfl ?_
  refine V.bipush (q := 58) (v := nI 10) C dX0_sum_56 rfl (by decide) ?_
  refine V.irem (q := 59) C dX0_sum_58 rfl (by decide) ?_
  refine V.ist (q := 60) (i := 5) C dX0_sum_59 rfl (okC_3 (by omega) (by omega)) rfl rfl (by omega) (by decide) rfl ?_
  refine V.phE uC_3_2 ?_
  refine V.phE (hC_cl (cl1 := (va_up cl c (namF (B w) i (nI s)))) ?_) ?_
  · intro c1 j hj
    by_cases h1 : c1 = c
    · subst h1
      obtain rfl | rfl | rfl | rfl | rfl | rfl := (show j = 0 ∨ j = 1 ∨ j = 2 ∨ j = 3 ∨ j = 4 ∨ j = 5 by omega) <;> simp [va_up, upd, namF]
    · simp only [va_up, if_neg h1]
  refine V.aload_n (q := 61) C dX0_sum_60 rfl rfl ?_
  refine V.get (q := 64) C fl_X0_39 dX0_sum_61 rfl (okC_9 (by omega) (by omega)) rfl rfl ?_
  refine V.iconst (q := 65) (v := nI 5) C dX0_sum_64 rfl (by decide) ?_
  refine V.idiv (q := 66) C dX0_sum_65 rfl (by decide) ?_
  refine V.istore (q := 68) C dX0_sum_66 rfl (by decide) rfl rfl ?_
  refine V.iconst (q := 69) (v := nI 0) C dX0_sum_68 rfl (by decide) ?_
  refine V.istore (q := 71) C dX0_sum_69 rfl (by decide) rfl rfl ?_
  refine V.iconst (q := 72) (v := nI 0) C dX0_sum_71 rfl (by decide) ?_
  refine V.istore (q := 74) C dX0_sum_72 rfl (by decide) rfl rfl ?_
  refine c_sum_l (F := (namF (B w) i (nI s))) (r0 := (B w (9 * i + 2) / nI 5, nI 0)) hO (va_up_self _ _ _) C (fun u7 u8 u9 => ?_) kc 0 _ _ _ (by omega)
  refine V.iload (q := 259) C dX0_sum_257 rfl rfl ?_
  exact V.ireturn C dX0_sum_259 ⟨_, trivial, rfl, rfl, rfl⟩
theorem c_hasWearer {l : Launch} {g : GG} {X : PHp} {h0 : HZ} {ct : CTt} {cl : I2} {rd : RDt} {B : I2} {cy : Nat → Nat} {rw : RWt} {tl : TLt} {sp : SPt} {w n m : Nat} {v : Int32} (hw : w < 3) (hI : CI (B w) n m) : Ct l g yX8_hasWearer cX8_hasWearer 2 (some .boolean) 1 0 0 [rf g (6, w, 0), .int v] NN (jn (hC g h0 ct cl rd B cy rw tl sp) X) (pI (b2i (inN v n = true)) (jn (hC g h0 ct cl rd B cy rw tl sp) X)) := by
  refine Ct.of (lv := [some (rf g (6, w, 0)), some (.int v)]) (by decide +kernel) rfl (Nat.le_of_ble_eq_true rfl) ?_
  intro Γ C
  refine V.iload_n (q := 1) C dX8_hasWearer_0 rfl rfl ?_
  refine V.if_lt (q := 4) (tgt := 16) C dX8_hasWearer_1 rfl rfl (fun hb1 => ?_) (fun hb1 => ?_)
  · refine V.iconst (q := 17) (v := nI 0) C dX8_hasWearer_16 rfl (by decide) ?_
    exact V.zreturn C dX8_hasWearer_17 rfl ⟨congrArg (fun x => some (Value.int x)) (show nI 0 = b2i (inN v n = true) from (b2i_f (fun z => absurd hb1 (InN_iff.mp z).1)).symm), rfl, rfl⟩
  · refine V.iload_n (q := 5) C dX8_hasWearer_4 rfl rfl ?_
    refine V.aload_n (q := 6) C dX8_hasWearer_5 rfl rfl ?_
    refine V.get (q := 9) C fl_X8_23 dX8_hasWearer_6 rfl (okC_6 (by omega)) rfl rfl ?_
    refine V.topi (x1 := nI (n)) hI.1 ?_
    refine V.icmp_ge (q := 12) (tgt := 16) C dX8_hasWearer_9 rfl rfl (fun hb9 => ?_) (fun hb9 => ?_)
    · refine V.iconst (q := 17) (v := nI 0) C dX8_hasWearer_16 rfl (by decide) ?_
      exact V.zreturn C dX8_hasWearer_17 rfl ⟨congrArg (fun x => some (Value.int x)) (show nI 0 = b2i (inN v n = true) from (b2i_f (fun z => absurd (InN_iff.mp z).2 (Int32.not_lt.mpr hb9))).symm), rfl, rfl⟩
    · refine V.iconst (q := 13) (v := nI 1) C dX8_hasWearer_12 rfl (by decide) ?_
      refine V.goto (tgt := 17) C dX8_hasWearer_13 rfl ?_
      exact V.zreturn C dX8_hasWearer_17 rfl ⟨congrArg (fun x => some (Value.int x)) (show nI 1 = b2i (inN v n = true) from (b2i_t (InN_iff.mpr ⟨hb1, Int32.not_le.mp hb9⟩)).symm), rfl, rfl⟩
theorem c_hasSaying {l : Launch} {g : GG} {X : PHp} {h0 : HZ} {ct : CTt} {cl : I2} {rd : RDt} {B : I2} {cy : Nat → Nat} {rw : RWt} {tl : TLt} {sp : SPt} {w n m : Nat} {v : Int32} (hw : w < 3) (hI : CI (B w) n m) : Ct l g yX8_hasSaying cX8_hasSaying 2 (some .boolean) 1 0 0 [rf g (6, w, 0), .int v] NN (jn (hC g h0 ct cl rd B cy rw tl sp) X) (pI (b2i (inN v m = true)) (jn (hC g h0 ct cl rd B cy rw tl sp) X)) := by
  refine Ct.of (lv := [some (rf g (6, w, 0)), some (.int v)]) (by decide +kernel) rfl (Nat.le_of_ble_eq_true rfl) ?_
  intro Γ C
  refine V.iload_n (q := 1) C dX8_hasSaying_0 rfl rfl ?_
  refine V.if_lt (q := 4) (tgt := 16) C dX8_hasSaying_1 rfl rfl (fun hb1 => ?_) (fun hb1 => ?_)
  · refine V.iconst (q := 17) (v := nI 0) C dX8_hasSaying_16 rfl (by decide) ?_
    exact V.zreturn C dX8_hasSaying_17 rfl ⟨congrArg (fun x => some (Value.int x)) (show nI 0 = b2i (inN v m = true) from (b2i_f (fun z => absurd hb1 (InN_iff.mp z).1)).symm), rfl, rfl⟩
  · refine V.iload_n (q := 5) C dX8_hasSaying_4 rfl rfl ?_
    refine V.aload_n (q := 6) C dX8_hasSaying_5 rfl rfl ?_
    refine V.get (q := 9) C fl_X8_27 dX8_hasSaying_6 rfl (okC_6 (by omega)) rfl rfl ?_
    refine V.topi (x1 := nI (m)) hI.2.2.1 ?_
    refine V.icmp_ge (q := 12) (tgt := 16) C dX8_hasSaying_9 rfl rfl (fun hb9 => ?_) (fun hb9 => ?_)
    · refine V.iconst (q := 17) (v := nI 0) C dX8_hasSaying_16 rfl (by decide) ?_
      exact V.zreturn C dX8_hasSaying_17 rfl ⟨congrArg (fun x => some (Value.int x)) (show nI 0 = b2i (inN v m = true) from (b2i_f (fun z => absurd (InN_iff.mp z).2 (Int32.not_lt.mpr hb9))).symm), rfl, rfl⟩
    · refine V.iconst (q := 13) (v := nI 1) C dX8_hasSaying_12 rfl (by decide) ?_
      refine V.goto (tgt := 17) C dX8_hasSaying_13 rfl ?_
      exact V.zreturn C dX8_hasSaying_17 rfl ⟨congrArg (fun x => some (Value.int x)) (show nI 1 = b2i (inN v m = true) from (b2i_t (InN_iff.mpr ⟨hb1, Int32.not_le.mp hb9⟩)).symm), rfl, rfl⟩
theorem c_isStriking {l : Launch} {g : GG} {X : PHp} {h0 : HZ} {ct : CTt} {cl : I2} {rd : RDt} {B : I2} {cy : Nat → Nat} {rw : RWt} {tl : TLt} {sp : SPt} {w n m s : Nat} (hw : w < 3) (hs : s < 8) (hI : CI (B w) n m) : Ct l g yX8_isStriking cX8_isStriking 2 (some .boolean) 2 0 0 [rf g (6, w, 0), rf g (11, w, s)] NN (jn (hC g h0 ct cl rd B cy rw tl sp) X) (pI (b2i (sbC (B w) n s = true)) (jn (hC g h0 ct cl rd B cy rw tl sp) X)) := by
  refine Ct.of (lv := [some (rf g (6, w, 0)), some (rf g (11, w, s))]) (by decide +kernel) rfl (Nat.le_of_ble_eq_true rfl) ?_
  intro Γ C
  refine V.aload_n (q := 1) C dX8_isStriking_0 rfl rfl ?_
  refine V.aload_n (q := 2) C dX8_isStriking_1 rfl rfl ?_
  refine V.get (q := 5) C fl_X8_61 dX8_isStriking_2 rfl (okC_11 (by omega) (by omega)) rfl rfl ?_
  refine V.callVi (q := 8) C me_X8_hasWearer (c_hasWearer (by omega) hI) ml_X8_64 dX8_isStriking_5 rfl (okC_6 (by omega)) ⟨_, rfl⟩ rfl rfl (Nat.le_of_ble_eq_true rfl) (by omega) (Nat.zero_le _) (Nat.zero_le _) ?_
  refine V.if_eqB (q := 11) (tgt := 34) C dX8_isStriking_8 rfl rfl (fun hb8 => ?_) (fun hb8 => ?_)
  · refine V.iconst (q := 35) (v := nI 0) C dX8_isStriking_34 rfl (by decide) ?_
    exact V.zreturn C dX8_isStriking_35 rfl ⟨congrArg (fun x => some (Value.int x)) (b2i_f (fun z => hb8 (sbC_of z).1)).symm, rfl, rfl⟩
  · refine V.aload_n (q := 12) C dX8_isStriking_11 rfl rfl ?_
    refine V.get (q := 15) C fl_X8_58 dX8_isStriking_12 rfl (okC_11 (by omega) (by omega)) rfl rfl ?_
    refine V.if_le (q := 18) (tgt := 34) C dX8_isStriking_15 rfl rfl (fun hb15 => ?_) (fun hb15 => ?_)
    · refine V.iconst (q := 35) (v := nI 0) C dX8_isStriking_34 rfl (by decide) ?_
      exact V.zreturn C dX8_isStriking_35 rfl ⟨congrArg (fun x => some (Value.int x)) (b2i_f (fun z => (sbC_of z).2.1 hb15)).symm, rfl, rfl⟩
    · refine V.aload_n (q := 19) C dX8_isStriking_18 rfl rfl ?_
      refine V.get (q := 22) C fl_X8_30 dX8_isStriking_19 rfl (okC_6 (by omega)) rfl rfl ?_
      refine V.aload_n (q := 23) C dX8_isStriking_22 rfl rfl ?_
      refine V.get (q := 26) C fl_X8_58 dX8_isStriking_23 rfl (okC_11 (by omega) (by omega)) rfl rfl ?_
      refine V.irem (q := 27) C dX8_isStriking_26 rfl (fun z => hb15 (by rw [z]; decide)) ?_
      refine V.if_ne (q := 30) (tgt := 34) C dX8_isStriking_27 rfl rfl (fun hb27 => ?_) (fun hb27 => ?_)
      · refine V.iconst (q := 35) (v := nI 0) C dX8_isStriking_34 rfl (by decide) ?_
        exact V.zreturn C dX8_isStriking_35 rfl ⟨congrArg (fun x => some (Value.int x)) (b2i_f (fun z => hb27 (sbC_of z).2.2)).symm, rfl, rfl⟩
      · refine V.iconst (q := 31) (v := nI 1) C dX8_isStriking_30 rfl (by decide) ?_
        refine V.goto (tgt := 35) C dX8_isStriking_31 rfl ?_
        exact V.zreturn C dX8_isStriking_35 rfl ⟨congrArg (fun x => some (Value.int x)) (b2i_t (sbC_t hb8 hb15 hb27)).symm, rfl, rfl⟩
def bitC (b : I1) (n j : Nat) : Int32 := itr (fun s x => if sbC b n s = true then x ||| nI 1 <<< (nI s &&& 31) else x) j (nI 0)
theorem c_bits_l {l : Launch} {g : GG} {X : PHp} {h0 : HZ} {ct : CTt} {cl : I2} {rd : RDt} {B : I2} {cy : Nat → Nat} {rw : RWt} {tl : TLt} {sp : SPt} {Γ : Cxt} {Q : State → Prop} {w n m : Nat} (hw : w < 3) (hI : CI (B w) n m) (C : Cx Γ g cX8_strikingBits yX8_strikingBits 3 (some .int) 3 0 0) (kx : V l Γ g 3 Q 0 0 NN (jn (hC g h0 ct cl rd B cy rw tl sp) X) 37 [some (rf g (6, w, 0)), some (.int (bitC (B w) n m)), some (.int (nI m))] []) : ∀ f j : Nat, j + f = m → V l Γ g 3 Q 0 0 NN (jn (hC g h0 ct cl rd B cy rw tl sp) X) 4 [some (rf g (6, w, 0)), some (.int (bitC (B w) n j)), some (.int (nI j))] [] := by
  have h8 := hI.2.2.2
  intro f
  induction f with
  | zero =>
    intro j hj
    obtain rfl : j = m := by omega
    refine V.iload_n (q := 5) C dX8_strikingBits_4 rfl rfl ?_
    refine V.aload_n (q := 6) C dX8_strikingBits_5 rfl rfl ?_
    refine V.get (q := 9) C fl_X8_27 dX8_strikingBits_6 rfl (okC_6 (by omega)) rfl rfl ?_
    refine V.topi (x1 := nI (j)) hI.2.2.1 ?_
    refine V.icmp_ge (q := 12) (tgt := 37) C dX8_strikingBits_9 rfl rfl (fun hb9 => ?_) (fun hb9 => ?_)
    · exact kx
    · exact absurd ((nI_leI (by omega) (by omega)).mpr (by omega)) hb9
  | succ f ih =>
    intro j hj
    refine V.iload_n (q := 5) C dX8_strikingBits_4 rfl rfl ?_
    refine V.aload_n (q := 6) C dX8_strikingBits_5 rfl rfl ?_
    refine V.get (q := 9) C fl_X8_27 dX8_strikingBits_6 rfl (okC_6 (by omega)) rfl rfl ?_
    refine V.topi (x1 := nI (m)) hI.2.2.1 ?_
    refine V.icmp_ge (q := 12) (tgt := 37) C dX8_strikingBits_9 rfl rfl (fun hb9 => ?_) (fun hb9 => ?_)
    · exact absurd ((nI_leI (by omega) (by omega)).mp hb9) (by omega)
    · refine V.aload_n (q := 13) C dX8_strikingBits_12 rfl rfl ?_
      refine V.aload_n (q := 14) C dX8_strikingBits_13 rfl rfl ?_
      refine V.get (q := 17) C fl_X8_19 dX8_strikingBits_14 rfl (okC_6 (by omega)) rfl rfl ?_
      refine V.iload_n (q := 18) C dX8_strikingBits_17 rfl rfl ?_
      refine V.rld (q := 19) (i := j) C rfl dX8_strikingBits_18 rfl (okC_8 (by omega)) rfl rfl (by omega) (by decide) ?_
      refine V.callVi (q := 22) C me_X8_isStriking (c_isStriking (by omega) (by omega) hI) ml_X8_68 dX8_strikingBits_19 rfl (okC_6 (by omega)) ⟨_, rfl⟩ rfl rfl (Nat.le_of_ble_eq_true rfl) (by omega) (Nat.zero_le _) (Nat.zero_le _) ?_
      refine V.if_eqB (q := 25) (tgt := 31) C dX8_strikingBits_22 rfl rfl (fun hb22 => ?_) (fun hb22 => ?_)
      · refine V.iinc (q := 34) (v := nI (j + 1)) C dX8_strikingBits_31 rfl rfl (nI_1 _) (by decide) rfl rfl ?_
        refine V.goto (tgt := 4) C dX8_strikingBits_34 rfl ?_
        have h9 := ih (j + 1) (by omega)
        rw [show bitC (B w) n (j + 1) = _ from if_neg hb22] at h9
        exact h9
      · refine V.iload_n (q := 26) C dX8_strikingBits_25 rfl rfl ?_
        refine V.iconst (q := 27) (v := nI 1) C dX8_strikingBits_26 rfl (by decide) ?_
        refine V.iload_n (q := 28) C dX8_strikingBits_27 rfl rfl ?_
        refine V.ishl (q := 29) C dX8_strikingBits_28 rfl ?_
        refine V.ior (q := 30) C dX8_strikingBits_29 rfl ?_
        refine V.istore_n (q := 31) C dX8_strikingBits_30 rfl (by decide) rfl rfl ?_
        refine V.iinc (q := 34) (v := nI (j + 1)) C dX8_strikingBits_31 rfl rfl (nI_1 _) (by decide) rfl rfl ?_
        refine V.goto (tgt := 4) C dX8_strikingBits_34 rfl ?_
        have h9 := ih (j + 1) (by omega)
        rw [show bitC (B w) n (j + 1) = _ from if_pos hb22] at h9
        exact h9
theorem c_strikingBits {l : Launch} {g : GG} {X : PHp} {h0 : HZ} {ct : CTt} {cl : I2} {rd : RDt} {B : I2} {cy : Nat → Nat} {rw : RWt} {tl : TLt} {sp : SPt} {w n m : Nat} (hw : w < 3) (hI : CI (B w) n m) : Ct l g yX8_strikingBits cX8_strikingBits 3 (some .int) 3 0 0 [rf g (6, w, 0)] NN (jn (hC g h0 ct cl rd B cy rw tl sp) X) (pI (bitC (B w) n m) (jn (hC g h0 ct cl rd B cy rw tl sp) X)) := by
  refine Ct.of (lv := [some (rf g (6, w, 0)), none, none]) (by decide +kernel) rfl (Nat.le_of_ble_eq_true rfl) ?_
  intro Γ C
  refine V.iconst (q := 1) (v := nI 0) C dX8_strikingBits_0 rfl (by decide) ?_
  refine V.istore_n (q := 2) C dX8_strikingBits_1 rfl (by decide) rfl rfl ?_
  refine V.iconst (q := 3) (v := nI 0) C dX8_strikingBits_2 rfl (by decide) ?_
  refine V.istore_n (q := 4) C dX8_strikingBits_3 rfl (by decide) rfl rfl ?_
  refine c_bits_l hw hI C ?_ m 0 (by omega)
  refine V.iload_n (q := 38) C dX8_strikingBits_37 rfl rfl ?_
  exact V.ireturn C dX8_strikingBits_38 ⟨rfl, rfl, rfl⟩
theorem c_hurtOfAll_l {l : Launch} {g : GG} {X : PHp} {h0 : HZ} {ct : CTt} {cl : I2} {rd : RDt} {B : I2} {cy : Nat → Nat} {rw : RWt} {tl : TLt} {sp : SPt} {Γ : Cxt} {Q : State → Prop} {w n m : Nat} (hw : w < 3) (hI : CI (B w) n m) (C : Cx Γ g cX8_hurtOfAll yX8_hurtOfAll 3 (some .int) 1 0 0) (kx : V l Γ g 3 Q 0 0 NN (jn (hC g h0 ct cl rd B cy rw tl sp) X) 30 [some (rf g (6, w, 0)), some (.int (alR (B w) 4 n)), some (.int (nI n))] []) : ∀ k j : Nat, j + k = n → V l Γ g 3 Q 0 0 NN (jn (hC g h0 ct cl rd B cy rw tl sp) X) 4 [some (rf g (6, w, 0)), some (.int (alR (B w) 4 j)), some (.int (nI j))] [] := by
  intro k
  induction k with
  | zero =>
    intro j hj
    obtain rfl : n = j := by omega
    have h6 := hI.2.1
    refine V.iload_n (q := 5) C dX8_hurtOfAll_4 rfl rfl ?_
    refine V.aload_n (q := 6) C dX8_hurtOfAll_5 rfl rfl ?_
    refine V.get (q := 9) C fl_X8_23 dX8_hurtOfAll_6 rfl (okC_6 (by omega)) rfl rfl ?_
    refine V.topi (x1 := nI (n)) hI.1 ?_
    refine V.icmp_ge (q := 12) (tgt := 30) C dX8_hurtOfAll_9 rfl rfl (fun hb9 => ?_) (fun hb9 => ?_)
    · exact kx
    · exact absurd ((nI_leI (by omega) (by omega)).mpr (by omega)) hb9
  | succ k ih =>
    intro j hj
    have h6 := hI.2.1
    refine V.iload_n (q := 5) C dX8_hurtOfAll_4 rfl rfl ?_
    refine V.aload_n (q := 6) C dX8_hurtOfAll_5 rfl rfl ?_
    refine V.get (q := 9) C fl_X8_23 dX8_hurtOfAll_6 rfl (okC_6 (by omega)) rfl rfl ?_
    refine V.topi (x1 := nI (n)) hI.1 ?_
    refine V.icmp_ge (q := 12) (tgt := 30) C dX8_hurtOfAll_9 rfl rfl (fun hb9 => ?_) (fun hb9 => ?_)
    · exact absurd ((nI_leI (by omega) (by omega)).mp hb9) (by omega)
    · refine V.iload_n (q := 13) C dX8_hurtOfAll_12 rfl rfl ?_
      refine V.aload_n (q := 14) C dX8_hurtOfAll_13 rfl rfl ?_
      refine V.get (q := 17) C fl_X8_11 dX8_hurtOfAll_14 rfl (okC_6 (by omega)) rfl rfl ?_
      refine V.iload_n (q := 18) C dX8_hurtOfAll_17 rfl rfl ?_
      refine V.rld (q := 19) (i := j) C rfl dX8_hurtOfAll_18 rfl (okC_7 (by omega)) rfl rfl (by omega) (by decide) ?_
      refine V.get (q := 22) C fl_X8_95 dX8_hurtOfAll_19 rfl (okC_9 (by omega) (by omega)) rfl rfl ?_
      refine V.iadd (q := 23) C dX8_hurtOfAll_22 rfl ?_
      refine V.istore_n (q := 24) C dX8_hurtOfAll_23 rfl (by decide) rfl rfl ?_
      refine V.iinc (q := 27) (v := nI (j + 1)) C dX8_hurtOfAll_24 rfl rfl (nI_1 _) (by decide) rfl rfl ?_
      refine V.goto (tgt := 4) C dX8_hurtOfAll_27 rfl ?_
      exact ih (j + 1) (by omega)
theorem c_hurtOfAll {l : Launch} {g : GG} {X : PHp} {h0 : HZ} {ct : CTt} {cl : I2} {rd : RDt} {B : I2} {cy : Nat → Nat} {rw : RWt} {tl : TLt} {sp : SPt} {w n m : Nat} (hw : w < 3) (hI : CI (B w) n m) : Ct l g yX8_hurtOfAll cX8_hurtOfAll 3 (some .int) 1 0 0 [rf g (6, w, 0)] NN (jn (hC g h0 ct cl rd B cy rw tl sp) X) (pI (alR (B w) 4 n) (jn (hC g h0 ct cl rd B cy rw tl sp) X)) := by
  refine Ct.of (lv := [some (rf g (6, w, 0)), none, none]) (by decide +kernel) rfl (Nat.le_of_ble_eq_true rfl) ?_
  intro Γ C
  refine V.iconst (q := 1) (v := nI 0) C dX8_hurtOfAll_0 rfl (by decide) ?_
  refine V.istore_n (q := 2) C dX8_hurtOfAll_1 rfl (by decide) rfl rfl ?_
  refine V.iconst (q := 3) (v := nI 0) C dX8_hurtOfAll_2 rfl (by decide) ?_
  refine V.istore_n (q := 4) C dX8_hurtOfAll_3 rfl (by decide) rfl rfl ?_
  refine c_hurtOfAll_l hw hI C ?_ n 0 (by omega)
  refine V.iload_n (q := 31) C dX8_hurtOfAll_30 rfl rfl ?_
  exact V.ireturn C dX8_hurtOfAll_31 ⟨rfl, rfl, rfl⟩
theorem c_coverOfAll_l {l : Launch} {g : GG} {X : PHp} {h0 : HZ} {ct : CTt} {cl : I2} {rd : RDt} {B : I2} {cy : Nat → Nat} {rw : RWt} {tl : TLt} {sp : SPt} {Γ : Cxt} {Q : State → Prop} {w n m : Nat} (hw : w < 3) (hI : CI (B w) n m) (C : Cx Γ g cX8_coverOfAll yX8_coverOfAll 3 (some .int) 1 0 0) (kx : V l Γ g 3 Q 0 0 NN (jn (hC g h0 ct cl rd B cy rw tl sp) X) 30 [some (rf g (6, w, 0)), some (.int (alR (B w) 2 n)), some (.int (nI n))] []) : ∀ k j : Nat, j + k = n → V l Γ g 3 Q 0 0 NN (jn (hC g h0 ct cl rd B cy rw tl sp) X) 4 [some (rf g (6, w, 0)), some (.int (alR (B w) 2 j)), some (.int (nI j))] [] := by
  intro k
  induction k with
  | zero =>
    intro j hj
    obtain rfl : n = j := by omega
    have h6 := hI.2.1
    refine V.iload_n (q := 5) C dX8_coverOfAll_4 rfl rfl ?_
    refine V.aload_n (q := 6) C dX8_coverOfAll_5 rfl rfl ?_
    refine V.get (q := 9) C fl_X8_23 dX8_coverOfAll_6 rfl (okC_6 (by omega)) rfl rfl ?_
    refine V.topi (x1 := nI (n)) hI.1 ?_
    refine V.icmp_ge (q := 12) (tgt := 30) C dX8_coverOfAll_9 rfl rfl (fun hb9 => ?_) (fun hb9 => ?_)
    · exact kx
    · exact absurd ((nI_leI (by omega) (by omega)).mpr (by omega)) hb9
  | succ k ih =>
    intro j hj
    have h6 := hI.2.1
    refine V.iload_n (q := 5) C dX8_coverOfAll_4 rfl rfl ?_
    refine V.aload_n (q := 6) C dX8_coverOfAll_5 rfl rfl ?_
    refine V.get (q := 9) C fl_X8_23 dX8_coverOfAll_6 rfl (okC_6 (by omega)) rfl rfl ?_
    refine V.topi (x1 := nI (n)) hI.1 ?_
    refine V.icmp_ge (q := 12) (tgt := 30) C dX8_coverOfAll_9 rfl rfl (fun hb9 => ?_) (fun hb9 => ?_)
    · exact absurd ((nI_leI (by omega) (by omega)).mp hb9) (by omega)
    · refine V.iload_n (q := 13) C dX8_coverOfAll_12 rfl rfl ?_
      refine V.aload_n (q := 14) C dX8_coverOfAll_13 rfl rfl ?_
      refine V.get (q := 17) C fl_X8_11 dX8_coverOfAll_14 rfl (okC_6 (by omega)) rfl rfl ?_
      refine V.iload_n (q := 18) C dX8_coverOfAll_17 rfl rfl ?_
      refine V.rld (q := 19) (i := j) C rfl dX8_coverOfAll_18 rfl (okC_7 (by omega)) rfl rfl (by omega) (by decide) ?_
      refine V.get (q := 22) C fl_X8_101 dX8_coverOfAll_19 rfl (okC_9 (by omega) (by omega)) rfl rfl ?_
      refine V.iadd (q := 23) C dX8_coverOfAll_22 rfl ?_
      refine V.istore_n (q := 24) C dX8_coverOfAll_23 rfl (by decide) rfl rfl ?_
      refine V.iinc (q := 27) (v := nI (j + 1)) C dX8_coverOfAll_24 rfl rfl (nI_1 _) (by decide) rfl rfl ?_
      refine V.goto (tgt := 4) C dX8_coverOfAll_27 rfl ?_
      exact ih (j + 1) (by omega)
theorem c_coverOfAll {l : Launch} {g : GG} {X : PHp} {h0 : HZ} {ct : CTt} {cl : I2} {rd : RDt} {B : I2} {cy : Nat → Nat} {rw : RWt} {tl : TLt} {sp : SPt} {w n m : Nat} (hw : w < 3) (hI : CI (B w) n m) : Ct l g yX8_coverOfAll cX8_coverOfAll 3 (some .int) 1 0 0 [rf g (6, w, 0)] NN (jn (hC g h0 ct cl rd B cy rw tl sp) X) (pI (alR (B w) 2 n) (jn (hC g h0 ct cl rd B cy rw tl sp) X)) := by
  refine Ct.of (lv := [some (rf g (6, w, 0)), none, none]) (by decide +kernel) rfl (Nat.le_of_ble_eq_true rfl) ?_
  intro Γ C
  refine V.iconst (q := 1) (v := nI 0) C dX8_coverOfAll_0 rfl (by decide) ?_
  refine V.istore_n (q := 2) C dX8_coverOfAll_1 rfl (by decide) rfl rfl ?_
  refine V.iconst (q := 3) (v := nI 0) C dX8_coverOfAll_2 rfl (by decide) ?_
  refine V.istore_n (q := 4) C dX8_coverOfAll_3 rfl (by decide) rfl rfl ?_
  refine c_coverOfAll_l hw hI C ?_ n 0 (by omega)
  refine V.iload_n (q := 31) C dX8_coverOfAll_30 rfl rfl ?_
  exact V.ireturn C dX8_coverOfAll_31 ⟨rfl, rfl, rfl⟩
