/-! what ties the class to the reference between two calls; numbers within bounds -/
theorem dgB {T : I1} {sz a : Nat} {w : Bool} (h : dgP T sz w a = true) : ∃ v, v < 10 ∧ T a = nI (v + 48) := by
  obtain ⟨-, -, h1, h2⟩ := dg_of h
  have h0 : ¬ T a < 0 := by
    intro z
    apply h1
    rw [Int32.lt_iff_toInt_lt] at z ⊢
    rw [nI_toInt (by omega)]
    have e0 : (0 : Int32).toInt = 0 := rfl
    omega
  obtain ⟨j, hj, e⟩ := nI_of h0
  rw [e] at h1 h2
  have a1 : ¬ j < 48 := fun z => h1 (nI_lt z (by omega))
  have a2 : ¬ 57 < j := fun z => h2 (nI_lt z hj)
  exact ⟨j - 48, by omega, by rw [e, show j - 48 + 48 = j by omega]⟩
theorem nuB {T : I1} {sz a : Nat} {w : Bool} : ∃ v, v ≤ 99 ∧ (nuP T sz w a).2.2 = nI v := by
  by_cases h : dgP T sz w a = true
  · obtain ⟨u, hu, eu⟩ := dgB h
    have e1 : T a - nI 48 = nI u := by rw [eu, pk_sub (by omega), Nat.add_sub_cancel]
    by_cases h2 : dgP T sz w (a + 1) = true
    · obtain ⟨x, hx, ex⟩ := dgB h2
      rw [nu_2 h h2]
      refine ⟨10 * u + x, by omega, ?_⟩
      show nI 10 * (T a - nI 48) + T (a + 1) - nI 48 = _
      rw [e1, ex, pk_mul, nI_add, pk_sub (by omega), show 10 * u + (x + 48) - 48 = 10 * u + x by omega]
    · rw [nu_1 h h2]
      exact ⟨u, by omega, e1⟩
  · rw [nu_0 h]
    exact ⟨0, by omega, rfl⟩
def RbO (x : Int32) : Prop := ∃ v, v ≤ 99 ∧ x = nI v
theorem cl_rb {T : I1} {sz : Nat} {Nm : I1} {w : Bool} {a d : Nat} {S Rb : Int32} (h : RbO Rb) : RbO (clP T sz Nm w a S Rb d).2.2.2.2.1 := by
  unfold clP
  split
  · exact h
  · split
    · exact h
    · split
      · exact h
      · exact nuB
theorem ct_rb {T : I1} {sz : Nat} {Nm : I1} : ∀ (f : Nat) (r : CR), RbO r.2.2.2.2.1 → RbO (ctP T sz Nm f r).2.2.2.2.1 := by
  intro f
  induction f with
  | zero => intro r h; exact h
  | succ f ih =>
    intro r h
    unfold ctP
    split
    · exact ih _ (cl_rb h)
    · exact h
theorem ru_b {rules sizes A : I1} : RbO (ruR rules sizes A) := by
  unfold ruR evR
  split
  · exact ⟨3, by omega, rfl⟩
  · exact ct_rb 9 _ (cl_rb ⟨3, by omega, rfl⟩)
theorem cov_n {c v : Nat} (hc : c ≤ 99) (hv : v ≤ 99) : ∃ u, u ≤ 99 ∧ mx0 (nI c - nI v) = nI u := by
  unfold mx0
  by_cases h : nI 0 < nI c - nI v
  · rw [if_pos h]
    rw [Int32.lt_iff_toInt_lt, pk_sub_toInt (by omega) (by omega), nI_toInt (by omega)] at h
    exact ⟨c - v, by omega, pk_sub (by omega)⟩
  · rw [if_neg h]
    exact ⟨0, by omega, rfl⟩
/-- a wearer's numbers are as told -/
def WB (A : I1) (i : Nat) : Prop := (∃ h, HB A i h) ∧ (∃ K, K < 7 ∧ A (9 * i + 0) = nI K) ∧ ∃ c, c ≤ 99 ∧ A (9 * i + 2) = nI c
theorem WB_cg {A D : I1} {i : Nat} (h : ∀ c, c < 9 → D (9 * i + c) = A (9 * i + c)) (hA : WB A i) : WB D i := by
  obtain ⟨⟨x, h1, h2⟩, ⟨K, k1, k2⟩, c, c1, c2⟩ := hA
  exact ⟨⟨x, (h 4 (by omega)).trans h1, h2⟩, ⟨K, k1, (h 0 (by omega)).trans k2⟩, c, c1, (h 2 (by omega)).trans c2⟩
theorem wb_S {rules sizes : I1} {rub : Int32} {A : I1} {n m s i : Nat} (hr : RbO rub) (hW : WI A n m) (hs : s < m) (hi : i < n) (h : WB A i) : WB (dyS rules sizes rub s A) i := by
  obtain ⟨⟨x, hx⟩, ⟨K, k1, k2⟩, c, c1, c2⟩ := h
  obtain ⟨h1, -, q⟩ := hb_S (rules := rules) (sizes := sizes) (rub := rub) hW hs hi hx
  have key : dyS rules sizes rub s A (9 * i + 0) = A (9 * i + 0) ∧ ∃ u, u ≤ 99 ∧ dyS rules sizes rub s A (9 * i + 2) = nI u := by
    unfold dyS
    split
    · next q =>
      rcases hW.2.2.2.2.2 s hs with e | ⟨j, hj, e⟩
      · exact absurd e (stB_of q).1
      · have hn := hW.2.1
        rw [e, ix_k (by omega)]
        refine ⟨skA_o (by omega) (by omega) (by omega), ?_⟩
        by_cases hij : i = j
        · subst hij
          obtain ⟨v, v1, v2⟩ := hr
          obtain ⟨u, u1, u2⟩ := cov_n c1 v1
          refine ⟨u, u1, ?_⟩
          unfold skA
          simp only [upd]
          rw [if_pos trivial, if_neg (by omega), if_neg (by omega), c2, v2]
          exact u2
        · refine ⟨c, c1, ?_⟩
          rw [skA_o (by omega) (by omega) (by omega)]
          exact c2
    · exact ⟨rfl, c, c1, c2⟩
  exact ⟨⟨h1, q⟩, ⟨K, k1, key.1.trans k2⟩, key.2⟩
theorem wb_L {rules sizes : I1} {rub : Int32} {A : I1} {n m i : Nat} (hr : RbO rub) (hW : WI A n m) (hi : i < n) (h : WB A i) : ∀ j, j ≤ m → WB (dyL rules sizes rub j A) i := by
  intro j
  induction j with
  | zero => intro _; exact h
  | succ j ih =>
    intro hj
    exact wb_S hr (WI_hi (fun k hk _ => dyL_hi hW j (by omega) k hk) hW) (s := j) (by omega) hi (ih (by omega))
theorem wb_N {rules sizes : I1} {A : I1} {n m i : Nat} (hW : WI A n m) (hi : i < n) (h : WB A i) : ∀ k, WB (dsA rules sizes m k A) i := by
  intro k
  induction k with
  | zero => exact h
  | succ k ih =>
    have hn := hW.2.1
    have h1 := wb_L (rules := rules) (sizes := sizes) (ru_b (rules := rules) (sizes := sizes) (A := dsA rules sizes m k A)) (dsA_W hW) hi ih m (Nat.le_refl m)
    refine WB_cg (fun c hc => ?_) h1
    show upd _ 80 _ (9 * i + c) = _
    rw [upd, if_neg (by omega)]
    rfl
theorem al_c {A : I1} {n : Nat} (h : ∀ i, i < n → WB A i) : ∀ j, j ≤ n → ∃ a, a ≤ 99 * j ∧ alR A 2 j = nI a := by
  intro j
  induction j with
  | zero => intro _; exact ⟨0, by omega, rfl⟩
  | succ j ih =>
    intro hj
    obtain ⟨a, a1, a2⟩ := ih (by omega)
    obtain ⟨-, -, c, c1, c2⟩ := h j (by omega)
    refine ⟨a + c, by omega, ?_⟩
    show alR A 2 j + A (9 * j + 2) = _
    rw [a2, c2, nI_add]
/-! a world and its row -/
def Wd (b A : I1) (n m q : Nat) : Prop := WI A n m ∧ EV A m ∧ A 81 = nI q ∧ CI b n m ∧ TR TT b A n m ∧ ∀ i, i < n → WB A i
theorem Wd.mean {rules sizes b A : I1} {n m q : Nat} (h : Wd b A n m q) : ∀ d, d ≤ 60 → ∃ a, a < 2 ^ 31 ∧ alR (dsA rules sizes m d A) 2 n = nI a := by
  intro d _
  have hn := h.1.2.1
  obtain ⟨a, a1, a2⟩ := al_c (A := dsA rules sizes m d A) (fun i hi => wb_N h.1 hi (h.2.2.2.2.2 i hi) d) n (Nat.le_refl n)
  exact ⟨a, by omega, a2⟩
theorem Wd.hi {b A D : I1} {n m q : Nat} (h : Wd b A n m q) (hD : ∀ k, k ≤ 81 → D k = A k) : Wd b D n m q := by
  obtain ⟨⟨w1, w2, w3, w4, w5, w6⟩, ev, h81, ci, tr, wb⟩ := h
  refine ⟨⟨(hD 78 (by omega)).trans w1, w2, (hD 79 (by omega)).trans w3, w4, fun s hs => by rw [hD _ (by omega)]; exact w5 s hs, fun s hs => by rw [hD _ (by omega)]; exact w6 s hs⟩, fun s hs => by rw [hD _ (by omega)]; exact ev s hs, (hD 81 (by omega)).trans h81, ci, ⟨fun i hi hP c hc => by rw [hD _ (by omega)]; exact tr.1 i hi hP c hc, fun s hs => by rw [hD _ (by omega), hD _ (by omega), hD _ (by omega)]; exact tr.2.1 s hs, by rw [hD _ (by omega)]; exact tr.2.2⟩, fun i hi => WB_cg (fun c hc => hD _ (by omega)) (wb i hi)⟩
theorem Wd.pass {rules sizes b z A : I1} {n m q : Nat} {k : Int32} (h : Wd b A n m q) (hT : TR TT z (passA rules sizes A m k) n m) (hC : CI z n m) : Wd z (passA rules sizes A m k) n m q ∧ ∀ j, 81 ≤ j → passA rules sizes A m k j = A j := by
  have key : ∀ D : I1, (D = A ∨ ∃ d, D = dsA rules sizes m d A) → TR TT z D n m → Wd z D n m q ∧ ∀ j, 81 ≤ j → D j = A j := by
    intro D hD hTD
    rcases hD with e | ⟨d, rfl⟩
    · rw [e] at hTD ⊢
      exact ⟨⟨h.1, h.2.1, h.2.2.1, hC, hTD, h.2.2.2.2.2⟩, fun _ _ => rfl⟩
    · exact ⟨⟨dsA_W h.1, EV_hi h.1.2.2.2.1 (dsA_hi h.1 d) h.2.1, (dsA_hi h.1 d 81 (by omega) (by omega)).trans h.2.2.1, hC, hTD, fun i hi => wb_N h.1 hi (h.2.2.2.2.2 i hi) d⟩, fun j hj => dsA_hi h.1 d j (by omega) (by omega)⟩
  refine key _ ?_ hT
  unfold passA
  split
  · split
    · exact Or.inr ⟨_, rfl⟩
    · exact Or.inl rfl
  · exact Or.inl rfl
/-- a new wearer -/
def nwF (A : I1) (n : Nat) (k v c : Int32) : I1 := fun j => if j = 78 then nI (n + 1) else if 9 * n ≤ j ∧ j < 9 * n + 9 then (if j = 9 * n then k else if j = 9 * n + 1 then v else if j = 9 * n + 2 then c else nI 0) else A j
theorem nw_A {A : I1} {n : Nat} {k v c : Int32} (hn : n < 6) : newW A n k v c = nwF A n k v c := by
  funext j
  unfold newW nwF
  simp only [zer, itr, upd]
  by_cases h1 : j = 78
  · rw [if_pos h1, if_pos h1]
  · rw [if_neg h1, if_neg h1]
    by_cases h2 : 9 * n ≤ j ∧ j < 9 * n + 9
    · obtain ⟨d, hd, rfl⟩ : ∃ d, d < 9 ∧ j = 9 * n + d := ⟨j - 9 * n, by omega, by omega⟩
      rw [if_pos h2]
      rcases (show d = 0 ∨ d = 1 ∨ d = 2 ∨ d = 3 ∨ d = 4 ∨ d = 5 ∨ d = 6 ∨ d = 7 ∨ d = 8 by omega) with rfl | rfl | rfl | rfl | rfl | rfl | rfl | rfl | rfl <;> simp
    · rw [if_neg h2, if_neg (by omega), if_neg (by omega), if_neg (by omega), if_neg (by omega), if_neg (by omega), if_neg (by omega), if_neg (by omega), if_neg (by omega), if_neg (by omega), if_neg (by omega), if_neg (by omega), if_neg (by omega)]
theorem nw_B {B : I2} {n : Nat} {k v c : Int32} (hn : n < 6) : adW B 0 n k v c = putR B 0 (nwF (B 0) n k v c) := by
  have e : adW B 0 n k v c = setB (bgC B 0 n k v c 4) 0 78 (nI (n + 1)) := if_neg (by omega)
  rw [e]
  funext u j
  unfold bgC
  simp only [itr, setB, putR]
  by_cases hu : u = 0
  · subst hu
    simp only [if_true, upd]
    unfold nwF
    by_cases h1 : j = 78
    · rw [if_pos h1, if_pos h1]
    · rw [if_neg h1, if_neg h1]
      by_cases h2 : 9 * n ≤ j ∧ j < 9 * n + 9
      · obtain ⟨d, hd, rfl⟩ : ∃ d, d < 9 ∧ j = 9 * n + d := ⟨j - 9 * n, by omega, by omega⟩
        rw [if_pos h2]
        rcases (show d = 0 ∨ d = 1 ∨ d = 2 ∨ d = 3 ∨ d = 4 ∨ d = 5 ∨ d = 6 ∨ d = 7 ∨ d = 8 by omega) with rfl | rfl | rfl | rfl | rfl | rfl | rfl | rfl | rfl <;> simp
      · rw [if_neg h2, if_neg (by omega), if_neg (by omega), if_neg (by omega), if_neg (by omega), if_neg (by omega), if_neg (by omega), if_neg (by omega), if_neg (by omega), if_neg (by omega)]
  · simp only [if_neg hu]
theorem nw_lo {A : I1} {n j : Nat} {k v c : Int32} (h : j ≠ 78) (h2 : j < 9 * n ∨ 9 * n + 9 ≤ j) : nwF A n k v c j = A j := by
  unfold nwF
  rw [if_neg h, if_neg (by omega)]
theorem nw_in {A D : I1} {n d : Nat} {k v c : Int32} (hn : n < 6) (hd : d < 9) : nwF A n k v c (9 * n + d) = nwF D n k v c (9 * n + d) := by
  have e : ∀ F : I1, nwF F n k v c (9 * n + d) = (if 9 * n + d = 9 * n then k else if 9 * n + d = 9 * n + 1 then v else if 9 * n + d = 9 * n + 2 then c else nI 0) := by
    intro F
    unfold nwF
    rw [if_neg (by omega), if_pos (by omega)]
  rw [e A, e D]
theorem Wd.wearer {b A : I1} {n m q K c : Nat} {k v : Int32} (h : Wd b A n m q) (hn : n < 6) (hk : K < 7) (ek : k = nI K) (hc : c ≤ 99) : Wd (nwF b n k v (nI c)) (nwF A n k v (nI c)) (n + 1) m q := by
  obtain ⟨⟨w1, w2, w3, w4, w5, w6⟩, ev, h81, ci, tr, wb⟩ := h
  refine ⟨⟨if_pos rfl, by omega, (nw_lo (by omega) (by omega)).trans w3, w4, fun s hs => ?_, fun s hs => ?_⟩, fun s hs => ?_, (nw_lo (by omega) (by omega)).trans h81, ⟨if_pos rfl, by omega, (nw_lo (by omega) (by omega)).trans ci.2.2.1, w4⟩, ⟨fun i hi hP d hd => ?_, fun s hs => ?_, ?_⟩, fun i hi => ?_⟩
  · rw [nw_lo (by omega) (by omega)]; exact w5 s hs
  · rw [nw_lo (by omega) (by omega)]
    rcases w6 s hs with e | ⟨i, hi, e⟩
    · exact Or.inl e
    · exact Or.inr ⟨i, by omega, e⟩
  · rw [nw_lo (by omega) (by omega)]; exact ev s hs
  · by_cases e : i = n
    · subst e; exact nw_in hn hd
    · rw [nw_lo (by omega) (by omega), nw_lo (by omega) (by omega)]
      exact tr.1 i (by omega) hP d hd
  · rw [nw_lo (by omega) (by omega), nw_lo (by omega) (by omega), nw_lo (by omega) (by omega), nw_lo (by omega) (by omega), nw_lo (by omega) (by omega), nw_lo (by omega) (by omega)]
    exact tr.2.1 s hs
  · rw [nw_lo (by omega) (by omega), nw_lo (by omega) (by omega)]; exact tr.2.2
  · by_cases e : i = n
    · subst e
      refine ⟨⟨0, ?_, by omega⟩, ⟨K, hk, ?_⟩, c, hc, ?_⟩
      · unfold nwF; rw [if_neg (by omega), if_pos (by omega), if_neg (by omega), if_neg (by omega), if_neg (by omega)]
      · unfold nwF; rw [if_neg (by omega), if_pos (by omega), if_pos (by omega), ek]
      · unfold nwF; rw [if_neg (by omega), if_pos (by omega), if_neg (by omega), if_neg (by omega), if_pos rfl]
    · exact WB_cg (fun d hd => nw_lo (by omega) (by omega)) (wb i (by omega))
/-- a new saying -/
def nsF (A : I1) (m : Nat) (h e t : Int32) : I1 := fun j => if j = 79 then nI (m + 1) else if j = 54 + 3 * m + 2 then t else if j = 54 + 3 * m + 1 then e else if j = 54 + 3 * m + 0 then h else A j
theorem ns_A {A : I1} {m : Nat} {h e : Int32} : newS A m h e = nsF A m h e (-1) := rfl
theorem ns_B {B : I2} {m : Nat} {h e : Int32} (hm : m < 8) : adS B 0 m h e = putR B 0 (nsF (B 0) m h e (-5)) := by
  have q : adS B 0 m h e = setB (setB (setB (setB B 0 (54 + 3 * m + 0) h) 0 (54 + 3 * m + 1) e) 0 (54 + 3 * m + 2) (-5)) 0 79 (nI (m + 1)) := if_neg (by omega)
  rw [q]
  funext u j
  simp only [setB, putR]
  by_cases hu : u = 0
  · subst hu
    simp only [if_true, upd]
    rfl
  · simp only [if_neg hu]
theorem ns_lo {A : I1} {m j : Nat} {h e t : Int32} (h1 : j ≠ 79) (h2 : j < 54 + 3 * m ∨ 54 + 3 * m + 3 ≤ j) : nsF A m h e t j = A j := by
  unfold nsF
  rw [if_neg h1, if_neg (by omega), if_neg (by omega), if_neg (by omega)]
theorem ns_0 {A : I1} {m : Nat} {h e t : Int32} (hm : m < 8) : nsF A m h e t (54 + 3 * m + 0) = h := by
  unfold nsF; rw [if_neg (by omega), if_neg (by omega), if_neg (by omega), if_pos rfl]
theorem ns_1 {A : I1} {m : Nat} {h e t : Int32} (hm : m < 8) : nsF A m h e t (54 + 3 * m + 1) = e := by
  unfold nsF; rw [if_neg (by omega), if_neg (by omega), if_pos rfl]
theorem ns_2 {A : I1} {m : Nat} {h e t : Int32} (hm : m < 8) : nsF A m h e t (54 + 3 * m + 2) = t := by
  unfold nsF; rw [if_neg (by omega), if_pos rfl]
theorem Wd.saying {b A : I1} {n m q E : Nat} {x e : Int32} (h : Wd b A n m q) (hm : m < 8) (hE : 1 ≤ E) (hE9 : E ≤ 9) (ee : e = nI E) : Wd (nsF b m x e (-5)) (nsF A m x e (-1)) n (m + 1) q := by
  obtain ⟨⟨w1, w2, w3, w4, w5, w6⟩, ev, h81, ci, tr, wb⟩ := h
  refine ⟨⟨(ns_lo (by omega) (by omega)).trans w1, w2, if_pos rfl, by omega, fun s hs => ?_, fun s hs => ?_⟩, fun s hs => ?_, (ns_lo (by omega) (by omega)).trans h81, ⟨(ns_lo (by omega) (by omega)).trans ci.1, w2, if_pos rfl, by omega⟩, ⟨fun i hi hP d hd => ?_, fun s hs => ?_, ?_⟩, fun i hi => WB_cg (fun d hd => ns_lo (by omega) (by omega)) (wb i hi)⟩
  · by_cases z : s = m
    · subst z; rw [ns_1 hm, ee]; exact nI_ne0 (by omega) (by omega)
    · rw [ns_lo (by omega) (by omega)]; exact w5 s (by omega)
  · by_cases z : s = m
    · subst z; rw [ns_2 hm]; exact Or.inl rfl
    · rw [ns_lo (by omega) (by omega)]; exact w6 s (by omega)
  · by_cases z : s = m
    · subst z; rw [ns_1 hm, ee]; exact nI_nle (by omega) (by omega)
    · rw [ns_lo (by omega) (by omega)]; exact ev s (by omega)
  · rw [ns_lo (by omega) (by omega), ns_lo (by omega) (by omega)]; exact tr.1 i hi hP d hd
  · by_cases z : s = m
    · subst z
      rw [ns_0 hm, ns_0 hm, ns_1 hm, ns_1 hm, ns_2 hm, ns_2 hm]
      exact ⟨rfl, rfl, rfl⟩
    · rw [ns_lo (by omega) (by omega), ns_lo (by omega) (by omega), ns_lo (by omega) (by omega), ns_lo (by omega) (by omega), ns_lo (by omega) (by omega), ns_lo (by omega) (by omega)]
      exact tr.2.1 s (by omega)
  · rw [ns_lo (by omega) (by omega), ns_lo (by omega) (by omega)]; exact tr.2.2
/-- another target -/
theorem Wd.aim {b A : I1} {n m q s : Nat} {x : Int32} (h : Wd b A n m q) (hs : s < m) (hx : x = -1 ∨ ∃ i, i < n ∧ x = nI i) : Wd (upd b (54 + 3 * s + 2) (noN x)) (upd A (54 + 3 * s + 2) x) n m q := by
  obtain ⟨hW, ev, h81, ci, tr, wb⟩ := h
  have hn := hW.2.1
  have hm := hW.2.2.2.1
  refine ⟨WI_aim hW (by omega) hx, fun t ht => ?_, ?_, CI.up1 ci (by omega), ⟨fun i hi hP d hd => ?_, fun t ht => ?_, ?_⟩, fun i hi => WB_cg (fun d hd => ?_) (wb i hi)⟩
  · rw [upd, if_neg (by omega)]; exact ev t ht
  · rw [upd, if_neg (by omega)]; exact h81
  · rw [upd, upd, if_neg (by omega), if_neg (by omega)]; exact tr.1 i hi hP d hd
  · simp only [upd]
    rw [if_neg (by omega), if_neg (by omega), if_neg (by omega), if_neg (by omega)]
    obtain ⟨t1, t2, t3⟩ := tr.2.1 t ht
    refine ⟨t1, t2, ?_⟩
    by_cases z : t = s
    · subst z; rw [if_pos rfl, if_pos rfl]
    · rw [if_neg (by omega), if_neg (by omega)]; exact t3
  · rw [upd, upd, if_neg (by omega), if_neg (by omega)]; exact tr.2.2
  · rw [upd, if_neg (by omega)]
/-- another cover, another row -/
theorem Wd.up {b A : I1} {n m q i c : Nat} {x : Int32} (h : Wd b A n m q) (hi : i < n) (hc : c < 9) (hx : 5 ≤ c ∨ c = 2 ∧ ∃ u, u ≤ 99 ∧ x = nI u) : Wd (upd b (9 * i + c) x) (upd A (9 * i + c) x) n m q := by
  obtain ⟨hW, ev, h81, ci, tr, wb⟩ := h
  have hn := hW.2.1
  have hm := hW.2.2.2.1
  have hu : ∀ k, 54 ≤ k → upd A (9 * i + c) x k = A k := fun k hk => if_neg (by omega)
  refine ⟨WI_hi (fun k hk _ => hu k hk) hW, EV_hi hm (fun k hk _ => hu k hk) ev, (hu 81 (by omega)).trans h81, CI.up1 ci (by omega), TR.up1 tr (by omega) hm, fun j hj => ?_⟩
  by_cases e : j = i
  · subst e
    obtain ⟨⟨y, h1, h2⟩, ⟨K, k1, k2⟩, d, d1, d2⟩ := wb j hj
    refine ⟨⟨y, ?_, h2⟩, ⟨K, k1, ?_⟩, ?_⟩
    · rw [upd, if_neg (by omega)]; exact h1
    · rw [upd, if_neg (by omega)]; exact k2
    · rcases hx with hx | ⟨rfl, u, u1, u2⟩
      · refine ⟨d, d1, ?_⟩
        rw [upd, if_neg (by omega)]; exact d2
      · exact ⟨u, u1, by rw [upd, if_pos rfl, u2]⟩
  · refine WB_cg (fun d hd => ?_) (wb j hj)
    rw [upd, if_neg (by omega)]
