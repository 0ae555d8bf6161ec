/-! each call keeps the relation -/
theorem putR_0 {B : I2} {w u : Nat} {b : I1} (h : u ≠ w) : putR B w b u = B u := if_neg h
theorem set_w {B : I2} {w k : Nat} {x : Int32} : setB B w k x w = upd (B w) k x := if_pos rfl
theorem set_o {B : I2} {w u k : Nat} {x : Int32} (h : u ≠ w) : setB B w k x u = B u := if_neg h
section INVS
variable {h0 : HZ} {ct : CTt} {rd : RDt} {B : I2} {cy : Nat → Nat} {rw : RWt} {tl : TLt} {sp : SPt} {now : I1} {th : I1 × Int32} {tx : TXt} {tr : I1 × Int32} {tp : TPt} {r t : Nat}
theorem INV.g (x : INV h0 ct rd B cy rw tl sp now th tx tr tp r t) {Bz : I2} {cz : Nat → Nat} {rz : RWt} {D : I1} (hB : Bz 2 = B 2) (hc : cz 2 = cy 2) (hO : OR r (Bz 0) (cz 0) rz 0 D) (hR : ∀ r c, RwE rw 1 rz 1 r c) : INV h0 ct rd Bz cz rz tl sp D th tx tr tp r t := by
  obtain ⟨a, b, c, ⟨d1, d2⟩, e, f⟩ := x
  refine ⟨a, b, hO, ⟨d1, ?_⟩, e, f⟩
  rcases d2 with d2 | ⟨d2, n, m, c0, c1, c2, c3, o1, o2, o3⟩
  · exact Or.inl d2
  · exact Or.inr ⟨d2, n, m, c0, c1, c2, c3, by rw [hc]; exact o1, by rw [hB, hc]; exact o2, o3.mv (hR _ _) (hR _ _) (hR _ _) (hR _ _) (fun _ _ => rfl) (Nat.le_refl _) (Nat.le_refl _)⟩
/-- the trial's world doesn't matter -/
theorem INV.scr (x : INV h0 ct rd B cy rw tl sp now th tx tr tp r t) (b : I1) (c : Nat) : INV h0 ct rd (putR B 1 b) (va_up cy 1 c) rw tl sp now th tx tr tp r t :=
  x.g (putR_0 (by omega)) (if_neg (by omega)) (by rw [putR_0 (by omega), show va_up cy 1 c 0 = cy 0 from if_neg (by omega)]; exact x.2.2.1) (fun _ _ => RwE.rf)
theorem INV.ru (x : INV h0 ct rd B cy rw tl sp now th tx tr tp r t) {n m : Nat} (hW : Wd (B 0) now n m (cy 0)) (hq : cy 0 ≤ r) : RuI tx.2.2.2.1 now := by
  have hr := x.1.1
  refine ⟨cy 0, by omega, hW.2.2.1, ?_⟩
  rcases Nat.eq_zero_or_pos (cy 0) with e | e
  · exact Or.inl e
  · obtain ⟨z, z1, z2, -⟩ := x.1.2.2.2.2.2.2 (cy 0 - 1) (by omega)
    exact Or.inr ⟨z, z1, z2⟩
theorem INV.sh (x : INV h0 ct rd B cy rw tl sp now th tx tr tp r t) {n m : Nat} (hW : Wd (B 0) now n m (cy 0)) (hq : cy 0 ≤ r) : SH ct tx.2.2.1 tx.2.2.2.1 now n m r (cy 0) := ⟨hW.1, hW.2.1, hW.2.2.1, hq, x.1.1, x.1.2.2.2.2⟩
theorem INV.wearer (x : INV h0 ct rd B cy rw tl sp now th tx tr tp r t) {n m c0 c1 c2 c3 : Nat} (hq : cy 0 ≤ r) (hW : Wd (B 0) now n m (cy 0)) (hH : Hd rw 0 now n m c0 c1 c2 c3) {k v c : Int32} : INV h0 ct rd (wearerB B n k v c) cy rw tl sp (wearerA now n k v c) th tx tr tp r t := by
  have same : INV h0 ct rd B cy rw tl sp now th tx tr tp r t := x
  unfold wearerB wearerA
  split
  · next hk =>
    split
    · split
      · next hc =>
        by_cases h6 : n = 6
        · rw [if_pos h6, adW, if_pos h6]; exact x
        · have hn := hW.1.2.1
          rw [if_neg h6, nw_A (by omega), nw_B (by omega)]
          obtain ⟨K, -, hK, eK⟩ := InR_nat (by omega) (by omega) hk
          obtain ⟨C, -, hC, eC⟩ := InR_nat (by omega) (by omega) hc
          subst eC
          exact x.g (putR_0 (by omega)) rfl ⟨n + 1, m, c0, c1, c2, c3, hq, by rw [putR_w]; exact hW.wearer (by omega) (by omega) eK hC, hH.mv RwE.rf RwE.rf RwE.rf RwE.rf (fun j hj => nw_lo (by omega) (by omega)) (by omega) (Nat.le_refl _)⟩ (fun _ _ => RwE.rf)
      · exact x
    · exact x
  · exact x
theorem INV.saying (x : INV h0 ct rd B cy rw tl sp now th tx tr tp r t) {n m c0 c1 c2 c3 : Nat} (hq : cy 0 ≤ r) (hW : Wd (B 0) now n m (cy 0)) (hH : Hd rw 0 now n m c0 c1 c2 c3) {k e : Int32} : INV h0 ct rd (sayingB B m k e) cy rw tl sp (sayingA now m k e) th tx tr tp r t := by
  unfold sayingB sayingA
  split
  · split
    · next he =>
      by_cases h8 : m = 8
      · rw [if_pos h8, adS, if_pos h8]; exact x
      · have hm := hW.1.2.2.2.1
        rw [if_neg h8, ns_A, ns_B (by omega)]
        obtain ⟨E, hE1, hE2, eE⟩ := InR_nat (by omega) (by omega) he
        exact x.g (putR_0 (by omega)) rfl ⟨n, m + 1, c0, c1, c2, c3, hq, by rw [putR_w]; exact hW.saying (by omega) hE1 hE2 eE, hH.mv RwE.rf RwE.rf RwE.rf RwE.rf (fun j hj => ns_lo (by omega) (by omega)) (Nat.le_refl _) (by omega)⟩ (fun _ _ => RwE.rf)
    · exact x
  · exact x
theorem INV.up (x : INV h0 ct rd B cy rw tl sp now th tx tr tp r t) {n m c0 c1 c2 c3 : Nat} (hq : cy 0 ≤ r) (hH : Hd rw 0 now n m c0 c1 c2 c3) {k : Nat} {y z : Int32} (hk : k < 82) (hW : Wd (upd (B 0) k z) (upd now k y) n m (cy 0)) : INV h0 ct rd (setB B 0 k z) cy rw tl sp (upd now k y) th tx tr tp r t :=
  x.g (set_o (by omega)) rfl ⟨n, m, c0, c1, c2, c3, hq, by rw [set_w]; exact hW, hH.mv RwE.rf RwE.rf RwE.rf RwE.rf (fun j hj => if_neg (by omega)) (Nat.le_refl _) (Nat.le_refl _)⟩ (fun _ _ => RwE.rf)
theorem INV.aim (x : INV h0 ct rd B cy rw tl sp now th tx tr tp r t) {n m c0 c1 c2 c3 : Nat} (hq : cy 0 ≤ r) (hW : Wd (B 0) now n m (cy 0)) (hH : Hd rw 0 now n m c0 c1 c2 c3) {s p : Int32} : INV h0 ct rd (aimB B m n s p) cy rw tl sp (aimA now m n s p) th tx tr tp r t := by
  have hn := hW.1.2.1
  have hm := hW.1.2.2.2.1
  unfold aimB aimA
  split
  · next hs =>
    obtain ⟨s0, hs0, rfl⟩ := InN_nat (by omega) hs
    rw [ix_k (by omega)]
    split
    · next hp =>
      rw [hp]
      exact x.up hq hH (by omega) (hW.aim (x := -1) hs0 (Or.inl rfl))
    · split
      · next hp =>
        obtain ⟨i, hi, rfl⟩ := InN_nat (by omega) hp
        have h1 := hW.aim (x := nI i) hs0 (Or.inr ⟨i, hi, rfl⟩)
        rw [noN_t rfl (by omega)] at h1
        exact x.up hq hH (by omega) h1
      · exact x
  · exact x
theorem INV.mend (x : INV h0 ct rd B cy rw tl sp now th tx tr tp r t) {n m c0 c1 c2 c3 : Nat} (hq : cy 0 ≤ r) (hW : Wd (B 0) now n m (cy 0)) (hH : Hd rw 0 now n m c0 c1 c2 c3) {p c : Int32} : INV h0 ct rd (mendB B n p c) cy rw tl sp (mendA now n p c) th tx tr tp r t := by
  have hn := hW.1.2.1
  unfold mendB mendA
  split
  · next hp =>
    split
    · next hc =>
      obtain ⟨i, hi, rfl⟩ := InN_nat (by omega) hp
      obtain ⟨C, -, hC, eC⟩ := InR_nat (by omega) (by omega) hc
      rw [ix_k (by omega)]
      exact x.up hq hH (by omega) (hW.up hi (by omega) (Or.inr ⟨rfl, C, hC, eC⟩))
    · exact x
  · exact x
theorem INV.row (x : INV h0 ct rd B cy rw tl sp now th tx tr tp r t) {n m c0 c1 c2 c3 : Nat} (hq : cy 0 ≤ r) (hW : Wd (B 0) now n m (cy 0)) (hH : Hd rw 0 now n m c0 c1 c2 c3) {p u c : Int32} : INV h0 ct rd (rowB B n p u c) cy rw tl sp (rowA now n p u c) th tx tr tp r t := by
  have hn := hW.1.2.1
  unfold rowB rowA
  by_cases hp : inN p n = true
  · rw [if_pos hp, if_pos hp]
    obtain ⟨i, hi, rfl⟩ := InN_nat (by omega) hp
    rw [ix_k (by omega), hW.2.2.2.2.1.1 i hi trivial 0 (by omega)]
    split
    · next hu =>
      split
      · split
        · obtain ⟨j, -, hj, rfl⟩ := InR_nat (by omega) (by omega) hu
          rw [ix_k (by omega)]
          exact x.up hq hH (by omega) (hW.up hi (by omega) (Or.inl (by omega)))
        · exact x
      · exact x
    · exact x
  · rw [if_neg hp, if_neg hp]; exact x
theorem INV.pass (x : INV h0 ct rd B cy rw tl sp now th tx tr tp r t) {n m c0 c1 c2 c3 : Nat} (hq : cy 0 ≤ r) (hW : Wd (B 0) now n m (cy 0)) (hH : Hd rw 0 now n m c0 c1 c2 c3) {k : Int32} {z : I1} (hT : TR TT z (passA tx.2.2.1 tx.2.2.2.1 now m k) n m) (hC : CI z n m) : INV h0 ct rd (putR B 0 z) cy rw tl sp (passA tx.2.2.1 tx.2.2.2.1 now m k) th tx tr tp r t := by
  obtain ⟨h1, h2⟩ := hW.pass hT hC
  exact x.g (putR_0 (by omega)) rfl ⟨n, m, c0, c1, c2, c3, hq, by rw [putR_w]; exact h1, hH.mv RwE.rf RwE.rf RwE.rf RwE.rf (fun j hj => h2 j (by omega)) (Nat.le_refl _) (Nat.le_refl _)⟩ (fun _ _ => RwE.rf)
theorem INV.see (x : INV h0 ct rd B cy rw tl sp now th tx tr tp r t) {n m c0 c1 c2 c3 : Nat} (hq : cy 0 ≤ r) (hW : Wd (B 0) now n m (cy 0)) (hH : Hd rw 0 now n m c0 c1 c2 c3) {p d v : Int32} : INV h0 ct rd B cy (seW rw n c0 p d v) tl sp (seeA now n c0 p d v) th tx tr tp r t := by
  obtain ⟨⟨e, h1⟩, h2, h3⟩ := hH.see (p := p) (d := d) (v := v) hW.1.2.1
  exact x.g rfl rfl ⟨n, m, e, c1, c2, c3, hq, hW.hi h2, h1⟩ h3
theorem INV.ache (x : INV h0 ct rd B cy rw tl sp now th tx tr tp r t) {n m c0 c1 c2 c3 : Nat} (hq : cy 0 ≤ r) (hW : Wd (B 0) now n m (cy 0)) (hH : Hd rw 0 now n m c0 c1 c2 c3) {p d v : Int32} : INV h0 ct rd B cy (acW rw n c1 p d v) tl sp (acheA now n c1 p d v) th tx tr tp r t := by
  obtain ⟨⟨e, h1⟩, h2, h3⟩ := hH.ache (p := p) (d := d) (y := v) hW.1.2.1
  exact x.g rfl rfl ⟨n, m, c0, e, c2, c3, hq, hW.hi h2, h1⟩ h3
theorem INV.plan (x : INV h0 ct rd B cy rw tl sp now th tx tr tp r t) {n m c0 c1 c2 c3 : Nat} (hq : cy 0 ≤ r) (hW : Wd (B 0) now n m (cy 0)) (hH : Hd rw 0 now n m c0 c1 c2 c3) {q y : Int32} : INV h0 ct rd B cy (plW' rw n m c2 q y) tl sp (planA now n m c2 q y) th tx tr tp r t := by
  obtain ⟨⟨e, h1⟩, h2, h3⟩ := hH.plan (q := q) (y := y) hW.1.2.1 hW.1.2.2.2.1
  exact x.g rfl rfl ⟨n, m, c0, c1, e, c3, hq, hW.hi h2, h1⟩ h3
theorem INV.book (x : INV h0 ct rd B cy rw tl sp now th tx tr tp r t) {n m c0 c1 c2 c3 : Nat} (hq : cy 0 ≤ r) (hW : Wd (B 0) now n m (cy 0)) (hH : Hd rw 0 now n m c0 c1 c2 c3) {p v : Int32} : INV h0 ct rd B cy (boW rw n c3 p v) tl sp (bookA now n c3 p v) th tx tr tp r t := by
  obtain ⟨⟨e, h1⟩, h2, h3⟩ := hH.book (p := p) (v := v) hW.1.2.1
  exact x.g rfl rfl ⟨n, m, c0, c1, c2, e, hq, hW.hi h2, h1⟩ h3
theorem INV.image (x : INV h0 ct rd B cy rw tl sp now th tx tr tp r t) {n m c0 c1 c2 c3 : Nat} (hq : cy 0 ≤ r) (hW : Wd (B 0) now n m (cy 0)) (hH : Hd rw 0 now n m c0 c1 c2 c3) {b : I1} (hT : TR TT b now n m) (hC : CI b n m) : INV (h0.1, nI 1) ct rd (putR B 2 b) (va_up cy 2 (cy 0)) (bkH rw 1 0 (fun r => if r = 0 then c0 else if r = 1 then c1 else if r = 2 then c2 else c3)) tl sp now (now, nI 1) tx tr tp r t := by
  obtain ⟨a, b9, c, -, e, f⟩ := x
  have c9 : va_up cy 2 (cy 0) 0 = cy 0 := if_neg (by omega)
  have c8 : va_up cy 2 (cy 0) 2 = cy 0 := if_pos rfl
  refine ⟨a, b9, ⟨n, m, c0, c1, c2, c3, by rw [c9]; exact hq, by rw [putR_0 (by omega), c9]; exact hW, hH.keep (by omega)⟩, ⟨rfl, Or.inr ⟨rfl, n, m, c0, c1, c2, c3, by rw [c8]; exact hq, ?_, hH.copy (by omega)⟩⟩, e, f⟩
  rw [putR_w, c8]
  exact ⟨hW.1, hW.2.1, hW.2.2.1, hC, hT, hW.2.2.2.2.2⟩
theorem INV.undo (x : INV h0 ct rd B cy rw tl sp now th tx tr tp r t) (h1 : th.2 = nI 1) {n m c0 c1 c2 c3 : Nat} (hq : cy 2 ≤ r) (hW : Wd (B 2) th.1 n m (cy 2)) (hH : Hd rw 1 th.1 n m c0 c1 c2 c3) {b : I1} (hT : TR TT b th.1 n m) (hC : CI b n m) : INV h0 ct rd (putR B 0 b) (va_up cy 0 (cy 2)) (bkH rw 0 1 (fun r => if r = 0 then c0 else if r = 1 then c1 else if r = 2 then c2 else c3)) tl sp th.1 th tx tr tp r t := by
  obtain ⟨a, b9, c, ⟨d1, -⟩, e, f⟩ := x
  have c9 : va_up cy 0 (cy 2) 2 = cy 2 := if_neg (by omega)
  have c8 : va_up cy 0 (cy 2) 0 = cy 2 := if_pos rfl
  refine ⟨a, b9, ⟨n, m, c0, c1, c2, c3, by rw [c8]; exact hq, ?_, hH.copy (by omega)⟩, ⟨d1, Or.inr ⟨h1, n, m, c0, c1, c2, c3, by rw [c9]; exact hq, by rw [putR_0 (by omega), c9]; exact hW, hH.keep (by omega)⟩⟩, e, f⟩
  rw [putR_w, c8]
  exact ⟨hW.1, hW.2.1, hW.2.2.1, hC, hT, hW.2.2.2.2.2⟩
theorem INV.act (x : INV h0 ct rd B cy rw tl sp now th tx tr tp r t) {n : Nat} {p a y : Int32} : INV h0 ct rd B cy rw ((actQ now tl.1 n p a y).2.1, nI (actQ now tl.1 n p a y).2.2) sp now th tx ((actQ now tr.1 n p a y).2.1, nI (actQ now tr.1 n p a y).2.2) tp r t := by
  obtain ⟨a9, b9, c9, d9, ⟨e1, e2⟩, f⟩ := x
  have h := act_n (A := now) (T := tr.1) (n := n) (p := p) (a := a) (x := y)
  exact ⟨a9, b9, c9, d9, ⟨by rw [e1], _, by omega, rfl⟩, f⟩
theorem INV.tpe (x : INV h0 ct rd B cy rw tl sp now th tx tr tp r t) {sz : SPt} {tz : TPt} (h : SpR sz tz.1 tz.2.1 tz.2.2.1) : INV h0 ct rd B cy rw tl sz now th tx tr tz r t :=
  ⟨x.1, x.2.1, x.2.2.1, x.2.2.2.1, x.2.2.2.2.1, h⟩
theorem INV.feed {T text rules sizes : I1} {p9 ruled : Int32} (x : INV h0 ct (T, nI t, p9) B cy rw tl sp now th (text, nI t, rules, sizes, ruled) tr tp r t) {y : Int32} : INV h0 ct (feedT T t y, nI (feedK t y), p9) B cy rw tl sp now th (feedT text t y, nI (feedK t y), rules, sizes, ruled) tr tp r (feedK t y) := by
  obtain ⟨⟨a1, a2, a3, a4, a5⟩, ⟨b1, b2, b3, b4⟩, c9, d9, e9, f⟩ := x
  dsimp only at b3 b4 a4 a5
  subst b3
  have key : feedK t y ≤ 100 ∧ ∀ j, j < feedK t y → ∃ c, c < 128 ∧ feedT T t y j = nI c := by
    unfold feedK feedT
    split
    · next hy =>
      by_cases h : t = 100
      · rw [if_pos h, if_pos h]; exact ⟨a2, b4⟩
      · rw [if_neg h, if_neg h]
        refine ⟨by omega, fun j hj => ?_⟩
        by_cases e : j = t
        · obtain ⟨c, -, hc, ec⟩ := InR_nat (by omega) (by omega) hy
          exact ⟨c, by omega, by rw [upd, if_pos e]; exact ec⟩
        · rw [upd, if_neg e]; exact b4 j (by omega)
    · exact ⟨a2, b4⟩
  exact ⟨⟨a1, key.1, a3, a4, a5⟩, ⟨rfl, rfl, rfl, key.2⟩, c9, d9, e9, f⟩
theorem Wd.city {b A : I1} {n m q k : Nat} (h : Wd b A n m q) : Wd b (upd A 81 (nI k)) n m k := by
  obtain ⟨⟨w1, w2, w3, w4, w5, w6⟩, ev, h81, ci, tr, wb⟩ := h
  have u : ∀ j, j < 81 → upd A 81 (nI k) j = A j := fun j hj => if_neg (by omega)
  refine ⟨⟨(u 78 (by omega)).trans w1, w2, (u 79 (by omega)).trans w3, w4, fun s hs => by rw [u _ (by omega)]; exact w5 s hs, fun s hs => by rw [u _ (by omega)]; exact w6 s hs⟩, fun s hs => by rw [u _ (by omega)]; exact ev s hs, if_pos rfl, ci, ⟨fun i hi hP c hc => by rw [u _ (by omega)]; exact tr.1 i hi hP c hc, fun s hs => by rw [u _ (by omega), u _ (by omega), u _ (by omega)]; exact tr.2.1 s hs, by rw [u _ (by omega)]; exact tr.2.2⟩, fun i hi => WB_cg (fun c hc => u _ (by omega)) (wb i hi)⟩
theorem CtR.oth {z : CTt} {rules sizes : I1} (h : CtR ct rules sizes r) (o : OtC ct z (r + 1)) : CtR z rules sizes r := by
  obtain ⟨h1, h2, h3⟩ := h
  obtain ⟨-, -, o5, o6⟩ := o 0 (by omega)
  refine ⟨o5.trans h1, o6.trans h2, fun q hq => ?_⟩
  obtain ⟨y, y1, y2, y3, y4⟩ := h3 q hq
  obtain ⟨p1, p2, p3, p4⟩ := o (q + 1) (by omega)
  refine ⟨y, y1, y2, y3, ?_⟩
  unfold CtK at y4 ⊢
  rw [p1, p2, p3, p4]
  exact y4
theorem OR.le {q rx ry : Nat} {b A : I1} {h : Nat} (x : OR rx b q rw h A) (hr : rx ≤ ry) : OR ry b q rw h A := by
  obtain ⟨n, m, c0, c1, c2, c3, h1, h2, h3⟩ := x
  exact ⟨n, m, c0, c1, c2, c3, by omega, h2, h3⟩
theorem INV.city {T text rules sizes : I1} {p9 h9 p8 : Int32} {z : CTt} (x : INV (nI r, h9) ct (T, nI t, p9) B cy rw tl sp now th (text, nI t, rules, sizes, nI r) tr tp r t) (hz : (r = 6 → z = ct) ∧ (¬ r = 6 → MkO ct z (r + 1) t (rcP T t))) : ∃ rz tz, INV (nI (cyK T t r), h9) z (T, nI (cyT t r), p8) B (cyC cy T t r) rw tl sp (cityA now text t r) th (cityX text rules sizes t r) tr tp rz tz := by
  obtain ⟨⟨a1, a2, a3, a4, a5⟩, ⟨b1, b2, b3, b4⟩, c9, ⟨d1, d2⟩, e9, f⟩ := x
  dsimp only at b3 b4 a4 a5 d1
  subst b3
  unfold cyK cyT cyC cityA cityX
  by_cases h6 : r = 6
  · simp only [if_pos h6]
    rw [hz.1 h6]
    exact ⟨r, t, ⟨a1, a2, rfl, rfl, a5⟩, ⟨rfl, rfl, rfl, b4⟩, c9, ⟨d1, d2⟩, e9, f⟩
  · simp only [if_neg h6]
    have hO := hz.2 h6
    by_cases hk : okP (rcP T t) t = true
    · simp only [if_pos hk]
      have u0 : va_up cy 0 (r + 1) 0 = r + 1 := if_pos rfl
      have u2 : va_up cy 0 (r + 1) 2 = cy 2 := if_neg (by omega)
      refine ⟨r + 1, 0, ⟨by omega, by omega, rfl, rfl, a5.add a2 hk hO⟩, ⟨rfl, rfl, rfl, fun j hj => absurd hj (Nat.not_lt_zero j)⟩, ?_, ⟨d1, ?_⟩, e9, f⟩
      · obtain ⟨n, m, c0, c1, c2, c3, h1, h2, h3⟩ := c9
        exact ⟨n, m, c0, c1, c2, c3, by rw [u0]; exact Nat.le_refl _, by rw [u0]; exact h2.city, h3.mv RwE.rf RwE.rf RwE.rf RwE.rf (fun j hj => if_neg (by omega)) (Nat.le_refl _) (Nat.le_refl _)⟩
      · rcases d2 with d2 | ⟨d2, d3⟩
        · exact Or.inl d2
        · exact Or.inr ⟨d2, by rw [u2]; exact d3.le (by omega)⟩
    · simp only [if_neg hk]
      exact ⟨r, 0, ⟨a1, by omega, rfl, rfl, a5.oth hO.1⟩, ⟨rfl, rfl, rfl, fun j hj => absurd hj (Nat.not_lt_zero j)⟩, c9, ⟨d1, d2⟩, e9, f⟩
end INVS
