/-! rows told by hand, tapes, cities: what ties them -/
def RwE (rw : RWt) (h : Nat) (rz : RWt) (h2 r c : Nat) : Prop := rz.2.2.2 h2 r = rw.2.2.2 h r ∧ ∀ i, i < c → rz.1 h2 r i = rw.1 h r i ∧ rz.2.1 h2 r i = rw.2.1 h r i ∧ rz.2.2.1 h2 r i = rw.2.2.1 h r i
theorem RwE.rf {rw : RWt} {h r c : Nat} : RwE rw h rw h r c := ⟨rfl, fun _ _ => ⟨rfl, rfl, rfl⟩⟩
theorem RwE.tr {a b d : RWt} {h h2 h3 r c : Nat} (x : RwE a h b h2 r c) (y : RwE b h2 d h3 r c) : RwE a h d h3 r c :=
  ⟨y.1.trans x.1, fun i hi => ⟨(y.2 i hi).1.trans (x.2 i hi).1, (y.2 i hi).2.1.trans (x.2 i hi).2.1, (y.2 i hi).2.2.trans (x.2 i hi).2.2⟩⟩
theorem adR_o {rw : RWt} {h r k h1 r1 c : Nat} {a b d : Int32} (q : ¬ (h1 = h ∧ r1 = r)) : RwE rw h1 (adR rw h r k a b d) h1 r1 c := by
  unfold adR
  split
  · exact RwE.rf
  · refine ⟨?_, fun i _ => ⟨?_, ?_, ?_⟩⟩ <;> simp only [up2, if_neg q]
theorem eR_o {rw : RWt} {h r h1 r1 c : Nat} (q : ¬ (h1 = h ∧ r1 = r)) : RwE rw h1 (eR rw h r) h1 r1 c := by
  unfold eR
  refine ⟨?_, fun i _ => ⟨rfl, rfl, rfl⟩⟩
  simp only [up2, if_neg q]
theorem bkR_o {rw : RWt} {h h2 r k h1 r1 c : Nat} (q : ¬ (h1 = h ∧ r1 = r)) : RwE rw h1 (bkR rw h h2 r k) h1 r1 c := by
  unfold bkR
  refine ⟨?_, fun i _ => ⟨?_, ?_, ?_⟩⟩ <;> simp only [up2, if_neg q]
theorem bkR_s {rw : RWt} {h h2 r k : Nat} (hk : rw.2.2.2 h2 r = nI k) : RwE rw h2 (bkR rw h h2 r k) h r k := by
  unfold bkR
  refine ⟨?_, fun i hi => ⟨?_, ?_, ?_⟩⟩
  · simp only [up2, and_self, if_true]
    exact hk.symm
  · simp only [up2, and_self, if_true, va_cpy]
    rw [if_pos (by omega), Nat.sub_zero, Nat.zero_add]
  · simp only [up2, and_self, if_true, va_cpy]
    rw [if_pos (by omega), Nat.sub_zero, Nat.zero_add]
  · simp only [up2, and_self, if_true, va_cpy]
    rw [if_pos (by omega), Nat.sub_zero, Nat.zero_add]
theorem bkH_o {rw : RWt} {h h2 h1 r c : Nat} {k : Nat → Nat} (q : h1 ≠ h) : RwE rw h1 (bkH rw h h2 k) h1 r c := by
  have q9 : ∀ r1 : Nat, ¬ (h1 = h ∧ r = r1) := fun r1 z => q z.1
  exact ((bkR_o (q9 0)).tr (bkR_o (q9 1))).tr ((bkR_o (q9 2)).tr (bkR_o (q9 3)))
theorem bkH_s {rw : RWt} {h h2 : Nat} {k : Nat → Nat} (q : h2 ≠ h) (hk : ∀ r, r < 4 → rw.2.2.2 h2 r = nI (k r)) : ∀ r, r < 4 → RwE rw h2 (bkH rw h h2 k) h r (k r) := by
  intro r hr
  have o : ∀ (z : RWt) (r1 k1 : Nat), RwE z h2 (bkR z h h2 r1 k1) h2 r (k r) := fun z r1 k1 => bkR_o (fun e => q e.1)
  have o2 : ∀ (z : RWt) (r1 k1 : Nat), r ≠ r1 → RwE z h (bkR z h h2 r1 k1) h r (k r) := fun z r1 k1 e => bkR_o (fun e2 => e e2.2)
  have e0 := hk r hr
  rcases (show r = 0 ∨ r = 1 ∨ r = 2 ∨ r = 3 by omega) with rfl | rfl | rfl | rfl
  · exact (bkR_s e0).tr ((o2 _ 1 _ (by omega)).tr ((o2 _ 2 _ (by omega)).tr (o2 _ 3 _ (by omega))))
  · exact ((o _ 0 _).tr (bkR_s ((o rw 0 (k 0)).1.trans e0))).tr ((o2 _ 2 _ (by omega)).tr (o2 _ 3 _ (by omega)))
  · exact (((o _ 0 _).tr (o _ 1 _)).tr (bkR_s (((o rw 0 (k 0)).tr (o _ 1 (k 1))).1.trans e0))).tr (o2 _ 3 _ (by omega))
  · exact ((o _ 0 _).tr ((o _ 1 _).tr (o _ 2 _))).tr (bkR_s (((o rw 0 (k 0)).tr ((o _ 1 (k 1)).tr (o _ 2 (k 2)))).1.trans e0))
def LsH (rw : RWt) (h r : Nat) (A : I1) (n L c : Nat) : Prop := LsI A n L c ∧ LsD A L c ∧ rw.2.2.2 h r = nI c ∧ ∀ i, i < c → rw.1 h r i = A (L + 1 + 3 * i) ∧ rw.2.1 h r i = A (L + 1 + 3 * i + 1) ∧ rw.2.2.1 h r i = A (L + 1 + 3 * i + 2)
theorem LsH.mv {rw rz : RWt} {h h2 r n n2 L c : Nat} {A D : I1} (x : LsH rw h r A n L c) (e : RwE rw h rz h2 r c) (hD : ∀ k, L ≤ k → k < L + 16 → D k = A k) (hn : n ≤ n2) : LsH rz h2 r D n2 L c := by
  obtain ⟨⟨l1, l2, l3⟩, d, k, v⟩ := x
  refine ⟨⟨(hD L (by omega) (by omega)).trans l1, l2, fun i hi => ?_⟩, fun i hi => ?_, e.1.trans k, fun i hi => ?_⟩
  · rw [hD _ (by omega) (by omega)]
    obtain ⟨j, hj, ej⟩ := l3 i hi
    exact ⟨j, by omega, ej⟩
  · rw [hD _ (by omega) (by omega)]
    exact d i hi
  · rw [hD _ (by omega) (by omega), hD _ (by omega) (by omega), hD _ (by omega) (by omega)]
    obtain ⟨e1, e2, e3⟩ := e.2 i hi
    obtain ⟨v1, v2, v3⟩ := v i hi
    exact ⟨e1.trans v1, e2.trans v2, e3.trans v3⟩
def PlH (rw : RWt) (h : Nat) (A : I1) (n m c : Nat) : Prop := PlI A n m c ∧ rw.2.2.2 h 2 = nI c ∧ ∀ i, i < c → rw.2.1 h 2 i = A (115 + 2 * i) ∧ rw.1 h 2 i = A (116 + 2 * i)
theorem PlH.mv {rw rz : RWt} {h h2 n n2 m m2 c : Nat} {A D : I1} (x : PlH rw h A n m c) (e : RwE rw h rz h2 2 c) (hD : ∀ k, 114 ≤ k → k < 135 → D k = A k) (hn : n ≤ n2) (hm : m ≤ m2) : PlH rz h2 D n2 m2 c := by
  obtain ⟨⟨l1, l2, l3⟩, k, v⟩ := x
  refine ⟨⟨(hD 114 (by omega) (by omega)).trans l1, l2, fun i hi => ?_⟩, e.1.trans k, fun i hi => ?_⟩
  · rw [hD _ (by omega) (by omega), hD _ (by omega) (by omega)]
    rcases l3 i hi with q | ⟨q, j, hj, ej⟩ | ⟨q, j, hj, ej⟩
    · exact Or.inl q
    · exact Or.inr (Or.inl ⟨q, j, by omega, ej⟩)
    · exact Or.inr (Or.inr ⟨q, j, by omega, ej⟩)
  · rw [hD _ (by omega) (by omega), hD _ (by omega) (by omega)]
    obtain ⟨e1, e2, e3⟩ := e.2 i hi
    obtain ⟨v1, v2⟩ := v i hi
    exact ⟨e2.trans v1, e1.trans v2⟩
def BoH (rw : RWt) (h : Nat) (A : I1) (n c : Nat) : Prop := A 135 = nI c ∧ c ≤ 8 ∧ rw.2.2.2 h 3 = nI c ∧ ∀ i, i < c → rw.1 h 3 i = A (136 + 2 * i) ∧ rw.2.2.1 h 3 i = A (137 + 2 * i) ∧ ∃ j, j < n ∧ A (136 + 2 * i) = nI j
theorem BoH.mv {rw rz : RWt} {h h2 n n2 c : Nat} {A D : I1} (x : BoH rw h A n c) (e : RwE rw h rz h2 3 c) (hD : ∀ k, 135 ≤ k → k < 152 → D k = A k) (hn : n ≤ n2) : BoH rz h2 D n2 c := by
  obtain ⟨l1, l2, k, v⟩ := x
  refine ⟨(hD 135 (by omega) (by omega)).trans l1, l2, e.1.trans k, fun i hi => ?_⟩
  rw [hD _ (by omega) (by omega), hD _ (by omega) (by omega)]
  obtain ⟨e1, e2, e3⟩ := e.2 i hi
  obtain ⟨v1, v2, j, hj, ej⟩ := v i hi
  exact ⟨e1.trans v1, e3.trans v2, j, by omega, ej⟩
def Hd (rw : RWt) (h : Nat) (A : I1) (n m c0 c1 c2 c3 : Nat) : Prop := LsH rw h 0 A n 82 c0 ∧ LsH rw h 1 A n 98 c1 ∧ PlH rw h A n m c2 ∧ BoH rw h A n c3
theorem Hd.mv {rw rz : RWt} {h h2 n n2 m m2 c0 c1 c2 c3 : Nat} {A D : I1} (x : Hd rw h A n m c0 c1 c2 c3) (e0 : RwE rw h rz h2 0 c0) (e1 : RwE rw h rz h2 1 c1) (e2 : RwE rw h rz h2 2 c2) (e3 : RwE rw h rz h2 3 c3) (hD : ∀ k, 82 ≤ k → D k = A k) (hn : n ≤ n2) (hm : m ≤ m2) : Hd rz h2 D n2 m2 c0 c1 c2 c3 :=
  ⟨x.1.mv e0 (fun k hk _ => hD k hk) hn, x.2.1.mv e1 (fun k hk _ => hD k (by omega)) hn, x.2.2.1.mv e2 (fun k hk _ => hD k (by omega)) hn hm, x.2.2.2.mv e3 (fun k hk _ => hD k (by omega)) hn⟩
theorem Hd.ks {rw : RWt} {h n m c0 c1 c2 c3 : Nat} {A : I1} (x : Hd rw h A n m c0 c1 c2 c3) : ∀ r, r < 4 → rw.2.2.2 h r = nI ((fun r => if r = 0 then c0 else if r = 1 then c1 else if r = 2 then c2 else c3) r) ∧ (fun r => if r = 0 then c0 else if r = 1 then c1 else if r = 2 then c2 else c3) r ≤ rwN r := by
  intro r hr
  have w0 : rwN 0 = 5 := rfl
  have w1 : rwN 1 = 5 := rfl
  have w2 : rwN 2 = 10 := rfl
  have w3 : rwN 3 = 8 := rfl
  have x0 := x.1.1.2.1
  have x1 := x.2.1.1.2.1
  have x2 := x.2.2.1.1.2.1
  have x3 := x.2.2.2.2.1
  rcases (show r = 0 ∨ r = 1 ∨ r = 2 ∨ r = 3 by omega) with rfl | rfl | rfl | rfl
  · exact ⟨x.1.2.2.1, by rw [w0]; exact x0⟩
  · exact ⟨x.2.1.2.2.1, by rw [w1]; exact x1⟩
  · exact ⟨x.2.2.1.2.1, by rw [w2]; exact x2⟩
  · exact ⟨x.2.2.2.2.2.1, by rw [w3]; exact x3⟩
/-- all of a hand copied -/
theorem Hd.copy {rw : RWt} {h h2 n m c0 c1 c2 c3 : Nat} {A : I1} (x : Hd rw h2 A n m c0 c1 c2 c3) (q : h2 ≠ h) : Hd (bkH rw h h2 (fun r => if r = 0 then c0 else if r = 1 then c1 else if r = 2 then c2 else c3)) h A n m c0 c1 c2 c3 := by
  have k := bkH_s (rw := rw) (h := h) (k := fun r => if r = 0 then c0 else if r = 1 then c1 else if r = 2 then c2 else c3) q (fun r hr => (x.ks r hr).1)
  exact x.mv (k 0 (by omega)) (k 1 (by omega)) (k 2 (by omega)) (k 3 (by omega)) (fun _ _ => rfl) (Nat.le_refl _) (Nat.le_refl _)
theorem Hd.keep {rw : RWt} {h h1 h2 n m c0 c1 c2 c3 : Nat} {A : I1} {k : Nat → Nat} (x : Hd rw h1 A n m c0 c1 c2 c3) (q : h1 ≠ h) : Hd (bkH rw h h2 k) h1 A n m c0 c1 c2 c3 :=
  x.mv (bkH_o q) (bkH_o q) (bkH_o q) (bkH_o q) (fun _ _ => rfl) (Nat.le_refl _) (Nat.le_refl _)
/-- a list emptied -/
theorem LsH.emp {rw : RWt} {r n L c : Nat} {A : I1} (_ : LsH rw 0 r A n L c) : LsH (eR rw 0 r) 0 r (upd A L (nI 0)) n L 0 :=
  ⟨⟨if_pos rfl, by omega, fun i hi => absurd hi (Nat.not_lt_zero i)⟩, fun i hi => absurd hi (Nat.not_lt_zero i), by simp [eR, up2], fun i hi => absurd hi (Nat.not_lt_zero i)⟩
/-- a row comes to a list -/
theorem LsH.add {rw : RWt} {r n L c : Nat} {A : I1} {p d v : Int32} (x : LsH rw 0 r A n L c) (hr : rwN r = 5) (hn : n ≤ 6) (hp : inN p n = true) (hd : inR d (nI 0) (nI 12) = true) : ∃ e, LsH (adR rw 0 r c p d v) 0 r (comesA A L c p d v) n L e := by
  have hc := x.1.2.1
  by_cases h5 : c = 5
  · refine ⟨c, ?_⟩
    rw [adR, if_pos (by omega), comesA, if_pos h5]
    exact x
  · refine ⟨c + 1, ?_⟩
    obtain ⟨i0, hi0, ep⟩ := InN_nat (by omega) hp
    obtain ⟨d0, -, hd0, ed⟩ := InR_nat (by omega) (by omega) hd
    obtain ⟨⟨l1, l2, l3⟩, dd, k, w⟩ := x
    rw [adR, if_neg (by omega), comesA, if_neg h5]
    have u : ∀ j, j ≠ L → j < L + 1 + 3 * c → upd (upd (upd (upd A (L + 1 + 3 * c) p) (L + 1 + 3 * c + 1) d) (L + 1 + 3 * c + 2) v) L (nI (c + 1)) j = A j := by
      intro j h1 h2
      simp only [upd]
      rw [if_neg h1, if_neg (by omega), if_neg (by omega), if_neg (by omega)]
    have u0 : upd (upd (upd (upd A (L + 1 + 3 * c) p) (L + 1 + 3 * c + 1) d) (L + 1 + 3 * c + 2) v) L (nI (c + 1)) (L + 1 + 3 * c) = p := by
      simp only [upd]
      rw [if_neg (by omega), if_neg (by omega), if_neg (by omega), if_pos trivial]
    have u1 : upd (upd (upd (upd A (L + 1 + 3 * c) p) (L + 1 + 3 * c + 1) d) (L + 1 + 3 * c + 2) v) L (nI (c + 1)) (L + 1 + 3 * c + 1) = d := by
      simp only [upd]
      rw [if_neg (by omega), if_neg (by omega), if_pos trivial]
    have u2 : upd (upd (upd (upd A (L + 1 + 3 * c) p) (L + 1 + 3 * c + 1) d) (L + 1 + 3 * c + 2) v) L (nI (c + 1)) (L + 1 + 3 * c + 2) = v := by
      simp only [upd]
      rw [if_neg (by omega), if_pos trivial]
    refine ⟨⟨if_pos rfl, by omega, fun i hi => ?_⟩, fun i hi => ?_, ?_, fun i hi => ?_⟩
    · by_cases e : i = c
      · subst e; rw [u0]; exact ⟨i0, hi0, ep⟩
      · rw [u _ (by omega) (by omega)]; exact l3 i (by omega)
    · by_cases e : i = c
      · subst e; rw [u1]; exact ⟨d0, hd0, ed⟩
      · rw [u _ (by omega) (by omega)]; exact dd i (by omega)
    · simp [up2]
    · by_cases e : i = c
      · subst e
        rw [u0, u1, u2]
        simp [up2, upd]
      · rw [u _ (by omega) (by omega), u _ (by omega) (by omega), u _ (by omega) (by omega)]
        obtain ⟨w1, w2, w3⟩ := w i (by omega)
        simp only [up2, and_self, if_true, upd, if_neg e]
        exact ⟨w1, w2, w3⟩
theorem comes_o {A : I1} {L c j : Nat} {p d v : Int32} (hc : c ≤ 5) (h : j < L ∨ L + 16 ≤ j) : comesA A L c p d v j = A j := by
  unfold comesA
  split
  · rfl
  · simp only [upd]
    rw [if_neg (by omega), if_neg (by omega), if_neg (by omega), if_neg (by omega)]
/-- SEEN and SORES -/
theorem Hd.see {rw : RWt} {n m c0 c1 c2 c3 : Nat} {A : I1} {p d v : Int32} (x : Hd rw 0 A n m c0 c1 c2 c3) (hn : n ≤ 6) : (∃ e, Hd (seW rw n c0 p d v) 0 (seeA A n c0 p d v) n m e c1 c2 c3) ∧ (∀ k, k ≤ 81 → seeA A n c0 p d v k = A k) ∧ ∀ r c, RwE rw 1 (seW rw n c0 p d v) 1 r c := by
  unfold seW seeA
  split
  · refine ⟨⟨0, x.1.emp, x.2.1.mv (eR_o (by omega)) (fun k _ _ => if_neg (by omega)) (Nat.le_refl _), x.2.2.1.mv (eR_o (by omega)) (fun k _ _ => if_neg (by omega)) (Nat.le_refl _) (Nat.le_refl _), x.2.2.2.mv (eR_o (by omega)) (fun k _ _ => if_neg (by omega)) (Nat.le_refl _)⟩, fun k _ => if_neg (by omega), fun r c => eR_o (by omega)⟩
  · split
    · next hp =>
      split
      · next hd =>
        split
        · have hc := x.1.1.2.1
          obtain ⟨e, he⟩ := x.1.add (v := v) (by rfl) hn hp hd
          refine ⟨⟨e, he, x.2.1.mv (adR_o (by omega)) (fun k _ _ => comes_o hc (by omega)) (Nat.le_refl _), x.2.2.1.mv (adR_o (by omega)) (fun k _ _ => comes_o hc (by omega)) (Nat.le_refl _) (Nat.le_refl _), x.2.2.2.mv (adR_o (by omega)) (fun k _ _ => comes_o hc (by omega)) (Nat.le_refl _)⟩, fun k _ => comes_o hc (by omega), fun r c => adR_o (by omega)⟩
        · exact ⟨⟨c0, x⟩, fun _ _ => rfl, fun _ _ => RwE.rf⟩
      · exact ⟨⟨c0, x⟩, fun _ _ => rfl, fun _ _ => RwE.rf⟩
    · exact ⟨⟨c0, x⟩, fun _ _ => rfl, fun _ _ => RwE.rf⟩
theorem Hd.ache {rw : RWt} {n m c0 c1 c2 c3 : Nat} {A : I1} {p d y : Int32} (x : Hd rw 0 A n m c0 c1 c2 c3) (hn : n ≤ 6) : (∃ e, Hd (acW rw n c1 p d y) 0 (acheA A n c1 p d y) n m c0 e c2 c3) ∧ (∀ k, k ≤ 81 → acheA A n c1 p d y k = A k) ∧ ∀ r c, RwE rw 1 (acW rw n c1 p d y) 1 r c := by
  unfold acW acheA
  split
  · refine ⟨⟨0, x.1.mv (eR_o (by omega)) (fun k _ _ => if_neg (by omega)) (Nat.le_refl _), x.2.1.emp, x.2.2.1.mv (eR_o (by omega)) (fun k _ _ => if_neg (by omega)) (Nat.le_refl _) (Nat.le_refl _), x.2.2.2.mv (eR_o (by omega)) (fun k _ _ => if_neg (by omega)) (Nat.le_refl _)⟩, fun k _ => if_neg (by omega), fun r c => eR_o (by omega)⟩
  · split
    · next hp =>
      split
      · next hd =>
        have hc := x.2.1.1.2.1
        obtain ⟨e, he⟩ := x.2.1.add (v := acheV y) (by rfl) hn hp hd
        refine ⟨⟨e, x.1.mv (adR_o (by omega)) (fun k _ _ => comes_o hc (by omega)) (Nat.le_refl _), he, x.2.2.1.mv (adR_o (by omega)) (fun k _ _ => comes_o hc (by omega)) (Nat.le_refl _) (Nat.le_refl _), x.2.2.2.mv (adR_o (by omega)) (fun k _ _ => comes_o hc (by omega)) (Nat.le_refl _)⟩, fun k _ => comes_o hc (by omega), fun r c => adR_o (by omega)⟩
      · exact ⟨⟨c1, x⟩, fun _ _ => rfl, fun _ _ => RwE.rf⟩
    · exact ⟨⟨c1, x⟩, fun _ _ => rfl, fun _ _ => RwE.rf⟩
/-- the PLAN -/
theorem plW_of {n m : Nat} {q y : Int32} (hn : n ≤ 6) (hm : m ≤ 8) (h : plW n m q y = true) : q = 0 ∨ ((q = nI 1 ∨ q = nI 3) ∧ ∃ i, i < n ∧ y = nI i) ∨ (q = nI 2 ∧ ∃ s, s < m ∧ y = nI s) := by
  unfold plW at h
  split at h
  · next e => exact Or.inl e
  · split at h
    · next e =>
      split at h
      · next e2 => exact Or.inr (Or.inl ⟨Or.inl e, InN_nat (by omega) e2⟩)
      · split at h
        · next e3 => exact Or.inr (Or.inr ⟨e3, InN_nat (by omega) h⟩)
        · exact absurd h Bool.false_ne_true
    · split at h
      · next e =>
        split at h
        · next e2 => exact Or.inr (Or.inl ⟨Or.inr e, InN_nat (by omega) e2⟩)
        · split at h
          · next e3 => exact Or.inr (Or.inr ⟨e3, InN_nat (by omega) h⟩)
          · exact absurd h Bool.false_ne_true
      · split at h
        · next e3 => exact Or.inr (Or.inr ⟨e3, InN_nat (by omega) h⟩)
        · exact absurd h Bool.false_ne_true
theorem PlH.add {rw : RWt} {n m c : Nat} {A : I1} {q y : Int32} (x : PlH rw 0 A n m c) (hn : n ≤ 6) (hm : m ≤ 8) (hq : plW n m q y = true) : ∃ e, PlH (adR rw 0 2 c y q (nI 0)) 0 (if c = 10 then A else upd (upd (upd A (115 + 2 * c) q) (116 + 2 * c) y) 114 (nI (c + 1))) n m e := by
  have hc := x.1.2.1
  have w2 : rwN 2 = 10 := rfl
  by_cases h5 : c = 10
  · refine ⟨c, ?_⟩
    rw [adR, if_pos (by omega), if_pos h5]
    exact x
  · refine ⟨c + 1, ?_⟩
    obtain ⟨⟨l1, l2, l3⟩, k, w⟩ := x
    rw [adR, if_neg (by omega), if_neg h5]
    have u : ∀ j, j ≠ 114 → j < 115 + 2 * c → upd (upd (upd A (115 + 2 * c) q) (116 + 2 * c) y) 114 (nI (c + 1)) j = A j := by
      intro j h1 h2
      simp only [upd]
      rw [if_neg h1, if_neg (by omega), if_neg (by omega)]
    have u0 : upd (upd (upd A (115 + 2 * c) q) (116 + 2 * c) y) 114 (nI (c + 1)) (115 + 2 * c) = q := by
      simp only [upd]
      rw [if_neg (by omega), if_neg (by omega), if_pos trivial]
    have u1 : upd (upd (upd A (115 + 2 * c) q) (116 + 2 * c) y) 114 (nI (c + 1)) (116 + 2 * c) = y := by
      simp only [upd]
      rw [if_neg (by omega), if_pos trivial]
    refine ⟨⟨if_pos rfl, by omega, fun i hi => ?_⟩, ?_, fun i hi => ?_⟩
    · by_cases e : i = c
      · subst e; rw [u0, u1]; exact plW_of hn hm hq
      · rw [u _ (by omega) (by omega), u _ (by omega) (by omega)]; exact l3 i (by omega)
    · simp [up2]
    · by_cases e : i = c
      · subst e
        rw [u0, u1]
        simp [up2, upd]
      · rw [u _ (by omega) (by omega), u _ (by omega) (by omega)]
        obtain ⟨w1, w2⟩ := w i (by omega)
        simp only [up2, and_self, if_true, upd, if_neg e]
        exact ⟨w1, w2⟩
theorem Hd.plan {rw : RWt} {n m c0 c1 c2 c3 : Nat} {A : I1} {q y : Int32} (x : Hd rw 0 A n m c0 c1 c2 c3) (hn : n ≤ 6) (hm : m ≤ 8) : (∃ e, Hd (plW' rw n m c2 q y) 0 (planA A n m c2 q y) n m c0 c1 e c3) ∧ (∀ k, k ≤ 81 → planA A n m c2 q y k = A k) ∧ ∀ r c, RwE rw 1 (plW' rw n m c2 q y) 1 r c := by
  unfold plW' planA
  split
  · refine ⟨⟨0, x.1.mv (eR_o (by omega)) (fun k _ _ => if_neg (by omega)) (Nat.le_refl _), x.2.1.mv (eR_o (by omega)) (fun k _ _ => if_neg (by omega)) (Nat.le_refl _), ⟨⟨if_pos rfl, by omega, fun i hi => absurd hi (Nat.not_lt_zero i)⟩, by simp [eR, up2], fun i hi => absurd hi (Nat.not_lt_zero i)⟩, x.2.2.2.mv (eR_o (by omega)) (fun k _ _ => if_neg (by omega)) (Nat.le_refl _)⟩, fun k _ => if_neg (by omega), fun r c => eR_o (by omega)⟩
  · split
    · next hp =>
      have hc := x.2.2.1.1.2.1
      obtain ⟨e, he⟩ := x.2.2.1.add hn hm hp
      have o : ∀ k, k < 114 ∨ 135 ≤ k → (if c2 = 10 then A else upd (upd (upd A (115 + 2 * c2) q) (116 + 2 * c2) y) 114 (nI (c2 + 1))) k = A k := by
        intro k hk
        split
        · rfl
        · simp only [upd]
          rw [if_neg (by omega), if_neg (by omega), if_neg (by omega)]
      exact ⟨⟨e, x.1.mv (adR_o (by omega)) (fun k _ _ => o k (by omega)) (Nat.le_refl _), x.2.1.mv (adR_o (by omega)) (fun k _ _ => o k (by omega)) (Nat.le_refl _), he, x.2.2.2.mv (adR_o (by omega)) (fun k _ _ => o k (by omega)) (Nat.le_refl _)⟩, fun k _ => o k (by omega), fun r c => adR_o (by omega)⟩
    · exact ⟨⟨c2, x⟩, fun _ _ => rfl, fun _ _ => RwE.rf⟩
/-- the BOOK -/
theorem BoH.add {rw : RWt} {n c : Nat} {A : I1} {p v : Int32} (x : BoH rw 0 A n c) (hn : n ≤ 6) (hp : inN p n = true) : ∃ e, BoH (adR rw 0 3 c p (nI 0) v) 0 (if c = 8 then A else upd (upd (upd A (136 + 2 * c) p) (137 + 2 * c) v) 135 (nI (c + 1))) n e := by
  have hc := x.2.1
  have w3 : rwN 3 = 8 := rfl
  by_cases h5 : c = 8
  · refine ⟨c, ?_⟩
    rw [adR, if_pos (by omega), if_pos h5]
    exact x
  · refine ⟨c + 1, ?_⟩
    obtain ⟨l1, l2, k, w⟩ := x
    rw [adR, if_neg (by omega), if_neg h5]
    have u : ∀ j, j ≠ 135 → j < 136 + 2 * c → upd (upd (upd A (136 + 2 * c) p) (137 + 2 * c) v) 135 (nI (c + 1)) j = A j := by
      intro j h1 h2
      simp only [upd]
      rw [if_neg h1, if_neg (by omega), if_neg (by omega)]
    have u0 : upd (upd (upd A (136 + 2 * c) p) (137 + 2 * c) v) 135 (nI (c + 1)) (136 + 2 * c) = p := by
      simp only [upd]
      rw [if_neg (by omega), if_neg (by omega), if_pos trivial]
    have u1 : upd (upd (upd A (136 + 2 * c) p) (137 + 2 * c) v) 135 (nI (c + 1)) (137 + 2 * c) = v := by
      simp only [upd]
      rw [if_neg (by omega), if_pos trivial]
    refine ⟨if_pos rfl, by omega, by simp [up2], fun i hi => ?_⟩
    by_cases e : i = c
    · subst e
      rw [u0, u1]
      obtain ⟨i0, hi0, ep⟩ := InN_nat (by omega) hp
      exact ⟨by simp [up2, upd], by simp [up2, upd], i0, hi0, ep⟩
    · rw [u _ (by omega) (by omega), u _ (by omega) (by omega)]
      obtain ⟨w1, w2, w4⟩ := w i (by omega)
      refine ⟨?_, ?_, w4⟩
      · simp only [up2, and_self, if_true, upd, if_neg e]; exact w1
      · simp only [up2, and_self, if_true, upd, if_neg e]; exact w2
theorem Hd.book {rw : RWt} {n m c0 c1 c2 c3 : Nat} {A : I1} {p v : Int32} (x : Hd rw 0 A n m c0 c1 c2 c3) (hn : n ≤ 6) : (∃ e, Hd (boW rw n c3 p v) 0 (bookA A n c3 p v) n m c0 c1 c2 e) ∧ (∀ k, k ≤ 81 → bookA A n c3 p v k = A k) ∧ ∀ r c, RwE rw 1 (boW rw n c3 p v) 1 r c := by
  unfold boW bookA
  split
  · refine ⟨⟨0, x.1.mv (eR_o (by omega)) (fun k _ _ => if_neg (by omega)) (Nat.le_refl _), x.2.1.mv (eR_o (by omega)) (fun k _ _ => if_neg (by omega)) (Nat.le_refl _), x.2.2.1.mv (eR_o (by omega)) (fun k _ _ => if_neg (by omega)) (Nat.le_refl _) (Nat.le_refl _), ⟨if_pos rfl, by omega, by simp [eR, up2], fun i hi => absurd hi (Nat.not_lt_zero i)⟩⟩, fun k _ => if_neg (by omega), fun r c => eR_o (by omega)⟩
  · split
    · next hp =>
      split
      · have hc := x.2.2.2.2.1
        obtain ⟨e, he⟩ := x.2.2.2.add (v := v) hn hp
        have o : ∀ k, k < 135 → (if c3 = 8 then A else upd (upd (upd A (136 + 2 * c3) p) (137 + 2 * c3) v) 135 (nI (c3 + 1))) k = A k := by
          intro k hk
          split
          · rfl
          · simp only [upd]
            rw [if_neg (by omega), if_neg (by omega), if_neg (by omega)]
        exact ⟨⟨e, x.1.mv (adR_o (by omega)) (fun k _ _ => o k (by omega)) (Nat.le_refl _), x.2.1.mv (adR_o (by omega)) (fun k _ _ => o k (by omega)) (Nat.le_refl _), x.2.2.1.mv (adR_o (by omega)) (fun k _ _ => o k (by omega)) (Nat.le_refl _) (Nat.le_refl _), he⟩, fun k _ => o k (by omega), fun r c => adR_o (by omega)⟩
      · exact ⟨⟨c3, x⟩, fun _ _ => rfl, fun _ _ => RwE.rf⟩
    · exact ⟨⟨c3, x⟩, fun _ _ => rfl, fun _ _ => RwE.rf⟩
