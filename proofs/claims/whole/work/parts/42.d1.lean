def bt (x : Int32) (i : Nat) : Bool := x.toBitVec.getLsbD i
theorem b_ext {x y : Int32} (h : ∀ i, i < 32 → bt x i = bt y i) : x = y := Int32.toBitVec_inj.mp (BitVec.eq_of_getLsbD_eq (fun i hi => h i hi))
theorem b_or (x y : Int32) (i : Nat) : bt (x ||| y) i = (bt x i || bt y i) := by unfold bt; rw [Int32.toBitVec_or, BitVec.getLsbD_or]
theorem b_and (x y : Int32) (i : Nat) : bt (x &&& y) i = (bt x i && bt y i) := by unfold bt; rw [Int32.toBitVec_and, BitVec.getLsbD_and]
theorem b_xor (x y : Int32) (i : Nat) : bt (x ^^^ y) i = (bt x i ^^ bt y i) := by unfold bt; rw [Int32.toBitVec_xor, BitVec.getLsbD_xor]
theorem b_m1 : ∀ i, i < 32 → bt (-1) i = true := by decide +kernel
theorem bt_n {n i : Nat} (hi : i < 32) : bt (nI n) i = n.testBit i := by
  show (BitVec.ofNat 32 n).getLsbD i = _
  rw [BitVec.getLsbD_ofNat]
  simp [hi]
theorem bt_m2 : ∀ i, i < 32 → bt (-2) i = !decide (i = 0) := by decide +kernel
theorem tb2 {P : Nat} {b : Bool} {i : Nat} : (2 * P + b.toNat).testBit i = if i = 0 then b else P.testBit (i - 1) := by
  have hb : b.toNat ≤ 1 := by cases b <;> decide
  cases i with
  | zero =>
    rw [Nat.testBit_zero, if_pos rfl]
    cases b
    · rw [show (2 * P + false.toNat) % 2 = 0 from by show (2 * P + 0) % 2 = 0; omega]; rfl
    · rw [show (2 * P + true.toNat) % 2 = 1 from by show (2 * P + 1) % 2 = 1; omega]; rfl
  | succ i =>
    rw [Nat.testBit_succ, show (2 * P + b.toNat) / 2 = P by omega, if_neg (by omega)]
    rfl
theorem shr1 {q : Nat} {b : Bool} (h : q < 2 ^ 28) : nI (2 * q + b.toNat) >>> (nI 1 &&& 31) = nI q := by
  have hb : b.toNat ≤ 1 := by cases b <;> decide
  rw [pk_shrN (by omega) (nI 1 &&& 31) 1 (by decide)]
  rw [show (2 * q + b.toNat) / 2 ^ 1 = q by omega]
theorem and1 {q : Nat} {b : Bool} (h : q < 2 ^ 28) : nI (2 * q + b.toNat) &&& nI 1 = nI b.toNat := by
  have hb : b.toNat ≤ 1 := by cases b <;> decide
  rw [pk_andN (by omega) 1 rfl]
  rw [show (2 * q + b.toNat) % 2 ^ 1 = b.toNat by omega]
theorem tb_b {b : Bool} {i : Nat} : b.toNat.testBit i = if i = 0 then b else false := by
  have h := tb2 (P := 0) (b := b) (i := i)
  rw [show 2 * 0 + b.toNat = b.toNat by omega] at h
  rw [h]
  split
  · rfl
  · exact Nat.zero_testBit _
theorem pl_t {P : Nat} {b : Bool} (h : P < 2 ^ 28) : nI P <<< (nI 1 &&& 31) ||| nI b.toNat = nI (2 * P + b.toNat) := by
  rw [pk_shlN (nI 1 &&& 31) 1 (by decide) (by omega)]
  refine b_ext (fun i hi => ?_)
  have h0 := tb2 (P := P) (b := false) (i := i)
  rw [show 2 * P + false.toNat = P * 2 ^ 1 from by show 2 * P + 0 = _; omega] at h0
  simp only [b_or, bt_n hi]
  rw [h0, tb_b, tb2]
  by_cases e : i = 0 <;> simp [e]
theorem pl_or {P : Nat} {b1 b2 : Bool} (h : P < 2 ^ 26) : (nI (2 * (2 * P + b1.toNat) + b2.toNat) >>> (nI 1 &&& 31)) ||| (nI (2 * (2 * P + b1.toNat) + b2.toNat) &&& nI 1) = nI (2 * P + (b1 || b2).toNat) := by
  have hb : b1.toNat ≤ 1 := by cases b1 <;> decide
  rw [shr1 (by omega), and1 (by omega)]
  refine b_ext (fun i hi => ?_)
  simp only [b_or, bt_n hi]
  rw [tb_b, tb2, tb2]
  by_cases e : i = 0 <;> simp [e]
theorem pl_and {P : Nat} {b1 b2 : Bool} (h : P < 2 ^ 26) : (nI (2 * (2 * P + b1.toNat) + b2.toNat) >>> (nI 1 &&& 31)) &&& (nI (2 * (2 * P + b1.toNat) + b2.toNat) ||| -2) = nI (2 * P + (b1 && b2).toNat) := by
  have hb : b1.toNat ≤ 1 := by cases b1 <;> decide
  rw [shr1 (by omega)]
  refine b_ext (fun i hi => ?_)
  simp only [b_and, b_or, bt_n hi, bt_m2 i hi]
  simp only [tb2]
  by_cases e : i = 0 <;> simp [e]
theorem pl_not {P : Nat} {b : Bool} : nI (2 * P + b.toNat) ^^^ nI 1 = nI (2 * P + (!b).toNat) := by
  refine b_ext (fun i hi => ?_)
  rw [show nI 1 = nI true.toNat from rfl]
  simp only [b_xor, bt_n hi]
  rw [tb2, tb_b, tb2]
  by_cases e : i = 0 <;> simp [e]
/-! the steps of a parse, reckoned: they lay the truth on the pile -/
def evS (L : I1) (r : Int32 × Int32) (x : Int32 × Int32) : Int32 × Int32 := stC L (ix x.1) x.2 r
def evL (L : I1) (xs : List (Int32 × Int32)) (r : Int32 × Int32) : Int32 × Int32 := xs.foldl (evS L) r
theorem ev_app {L : I1} {xs ys : List (Int32 × Int32)} {r : Int32 × Int32} : evL L (xs ++ ys) r = evL L ys (evL L xs r) := List.foldl_append
theorem ev_one {L : I1} {x : Int32 × Int32} {r : Int32 × Int32} : evL L [x] r = evS L r x := rfl
theorem su_ev {St Nu L : I1} {r : Int32 × Int32} : ∀ (xs : List (Int32 × Int32)), (∀ j p, xs[j]? = some p → St j = p.1 ∧ Nu j = p.2) → suC St Nu L xs.length r = evL L xs r := by
  have key : ∀ (xs : List (Int32 × Int32)), (∀ j p, xs[j]? = some p → St j = p.1 ∧ Nu j = p.2) → ∀ k, k ≤ xs.length → suC St Nu L k r = evL L (xs.take k) r := by
    intro xs h k
    induction k with
    | zero => intro _; rw [List.take_zero]; rfl
    | succ k ih =>
      intro hk
      obtain ⟨p, hp⟩ : ∃ p, xs[k]? = some p := ⟨xs[k], List.getElem?_eq_getElem hk⟩
      obtain ⟨h1, h2⟩ := h k p hp
      rw [List.take_add_one, hp, ev_app, ← ih (by omega)]
      show stC L (ix (St k)) (Nu k) (suC St Nu L k r) = evS L _ p
      rw [h1, h2]
      rfl
  intro xs h
  rw [key xs h xs.length (Nat.le_refl _), List.take_length]
theorem ix_k {k : Nat} (h : k < 2 ^ 31) : ix (nI k) = k := ix_nI h
/-- what a well parser's steps do to a pile -/
def Evs (L : I1) (M : Nat) (r : PR) : Prop := r.1 = true → ∀ (S : Int32) (P : Nat), P < 2 ^ M → evL L r.2.2.1 (S, nI P) = (S, nI (2 * P + r.2.2.2.toNat))
theorem ev_te {T : I1} {sz a : Nat} {Nm : I1} : Evs Nm 26 (teP T sz Nm true a) := by
  intro h S P hP
  rcases so_c (T := T) (sz := sz) (a := a) (i := 3) (by decide) with ⟨e, -⟩ | ⟨j, hj, e, -⟩
  · rw [te_A e] at h; exact absurd h Bool.false_ne_true
  · have hj6 : j < 6 := hj
    rcases so_4 (T := T) (sz := sz) (a := a + 1) with ⟨f, -⟩ | ⟨k, hk, f, f1, f2⟩
    · rw [(te_B (Nm := Nm) hj6 e f).1] at h; exact absurd h Bool.false_ne_true
    · have e9 := e
      rw [so_3] at e9
      rw [teP, if_neg (by rw [e9]; exact nI_m1 (by omega))]
      dsimp only
      rw [f1, f2, e9, pk_mul, nI_add, ev_one, evS, ix_k (by omega), ix_k (by omega), stC_d (by omega)]
      rw [show (j * 3 + k) / 3 = j by omega, show (j * 3 + k) % 3 = k by omega]
      dsimp only
      generalize (nuP T sz true (a + 1 + 1)).2.2 = v
      generalize Nm j = u
      have hb : (if rlN u v = k then nI 1 else nI 0) = nI (rlV (rlP T sz (a + 1)) u v).toNat := by
        have hc : rlP T sz (a + 1) = -1 ∨ rlP T sz (a + 1) = nI 1 ∨ rlP T sz (a + 1) = nI 0 := by
          unfold rlP
          split
          · exact Or.inl rfl
          · split
            · exact Or.inr (Or.inl rfl)
            · exact Or.inr (Or.inr rfl)
        have h1 : ∀ z : Int32, z + nI 1 = nI k → rlP T sz (a + 1) = z → (z = -1 → k = 0) ∧ (z = nI 1 → k = 2) ∧ (z = nI 0 → k = 1) := by
          intro z hz _
          refine ⟨?_, ?_, ?_⟩
          · rintro rfl; exact ((nI_eq (a := 0) (by omega) (by omega)).mp hz).symm
          · rintro rfl; exact ((nI_eq (a := 2) (by omega) (by omega)).mp hz).symm
          · rintro rfl; exact ((nI_eq (a := 1) (by omega) (by omega)).mp hz).symm
        obtain ⟨k0, k2, k1⟩ := h1 _ f1 rfl
        rcases hc with hc | hc | hc
        · rw [k0 hc, hc, rlV_a (by decide), rlN]
          by_cases q : v ≤ u
          · rw [if_pos q]
            by_cases q2 : u = v
            · rw [if_pos q2, if_neg (by decide), decide_eq_false (fun z => z q)]; rfl
            · rw [if_neg q2, if_neg (by decide), decide_eq_false (fun z => z q)]; rfl
          · rw [if_neg q, if_pos rfl, decide_eq_true q]; rfl
        · rw [k2 hc, hc, rlV_b (by decide) (by decide), rlN]
          by_cases q : v ≤ u
          · rw [if_pos q]
            by_cases q2 : u = v
            · rw [if_pos q2, if_neg (by decide), decide_eq_false (fun z => z (by rw [q2]; exact Int32.le_refl _))]; rfl
            · rw [if_neg q2, if_pos rfl, decide_eq_true (show ¬ u ≤ v from fun z => q2 (Int32.le_antisymm z q))]; rfl
          · rw [if_neg q, if_neg (by decide), decide_eq_false (fun z => z (Int32.le_of_lt (Int32.not_le.mp q)))]; rfl
        · rw [k1 hc, hc, rlV_c (by decide) (by decide), rlN]
          by_cases q2 : u = v
          · rw [if_pos (show v ≤ u by rw [q2]; exact Int32.le_refl _), if_pos q2, if_pos rfl, decide_eq_true q2]; rfl
          · by_cases q : v ≤ u
            · rw [if_pos q, if_neg q2, if_neg (by decide), decide_eq_false q2]; rfl
            · rw [if_neg q, if_neg (by decide), decide_eq_false q2]; rfl
      rw [hb, pl_t (by omega)]
theorem ev_op {L : I1} {S : Int32} {P : Nat} {b1 b2 : Bool} (h : P < 2 ^ 26) : evS L (S, nI (2 * (2 * P + b1.toNat) + b2.toNat)) (nI 18, nI 0) = (S, nI (2 * P + (b1 && b2).toNat)) ∧ evS L (S, nI (2 * (2 * P + b1.toNat) + b2.toNat)) (nI 19, nI 0) = (S, nI (2 * P + (b1 || b2).toNat)) := by
  constructor
  · rw [evS, ix_k (by decide), stC_18]; dsimp only; rw [pl_and h]
  · rw [evS, ix_k (by decide), stC_19]; dsimp only; rw [pl_or h]
theorem ev_tl {p : Bool → Nat → PR} {T : I1} {sz : Nat} {sep op : Int32} {cmb : Bool → Bool → Bool} {L : I1} {M : Nat} (hM : M < 26) (hop : ∀ (S : Int32) (P : Nat) (b1 b2 : Bool), P < 2 ^ 26 → evS L (S, nI (2 * (2 * P + b1.toNat) + b2.toNat)) (op, nI 0) = (S, nI (2 * P + (cmb b1 b2).toNat))) (hp : ∀ a, Evs L (M + 1) (p true a)) : ∀ (f : Nat) (r : PR), Evs L M r → Evs L M (tlP p T sz sep op cmb f r) := by
  have hpw : ∀ M, M < 26 → 2 ^ M ≤ 2 ^ 25 := fun M h => Nat.pow_le_pow_right (by omega) (by omega)
  intro f
  induction f with
  | zero => intro r h; exact h
  | succ f ih =>
    intro r hr
    unfold tlP
    split
    · next q =>
      refine ih _ (fun h S P hP => ?_)
      have h1 := hpw M hM
      have hb : r.2.2.2.toNat ≤ 1 := by cases r.2.2.2 <;> decide
      dsimp only at h ⊢
      rw [ev_app, ev_app, ev_one, hr (isA_of q).1 S P hP, hp (r.2.1 + 1) h S _ (by rw [Nat.pow_succ]; omega), hop _ _ _ _ (by omega)]
    · exact hr
theorem ev_bo {p : Bool → Nat → PR} {T : I1} {sz : Nat} {L : I1} {M : Nat} (hM : M < 26) (hp : ∀ a, Evs L (M + 1) (p true a)) (a : Nat) : Evs L M (boP p T sz true a) :=
  ev_tl hM (fun S P b1 b2 h => (ev_op h).1) hp sz _ (fun h S P hP => hp a h S P (by rw [Nat.pow_succ]; omega))
theorem ev_an {p : Bool → Nat → PR} {T : I1} {sz : Nat} {L : I1} {M : Nat} (hM : M < 25) (hp : ∀ a, Evs L (M + 2) (p true a)) (a : Nat) : Evs L M (anP p T sz true a) :=
  ev_tl (by omega) (fun S P b1 b2 h => (ev_op h).2) (fun a => ev_bo (by omega) hp a) sz _ (fun h S P hP => ev_bo (by omega) hp a h S P (by rw [Nat.pow_succ]; omega))
theorem ev_fa {T : I1} {sz : Nat} {Nm : I1} : ∀ k a, k ≤ 5 → Evs Nm (26 - 2 * k) (faP T sz Nm k true a) := by
  intro k
  induction k with
  | zero => intro a _; exact ev_te
  | succ k ih =>
    intro a hk h S P hP
    have hpw : (2 : Nat) ^ (26 - 2 * (k + 1)) ≤ 2 ^ (26 - 2 * k) := Nat.pow_le_pow_right (by omega) (by omega)
    unfold faP at h ⊢
    split at h
    · next q =>
      rw [if_pos q]
      dsimp only at h ⊢
      rw [ev_app, ev_one, ih (a + 1) (by omega) h S P (by omega), evS, ix_k (by decide), stC_20]
      dsimp only
      rw [pl_not]
    · next q =>
      rw [if_neg q]
      split at h
      · next q2 =>
        rw [if_pos q2]
        dsimp only at h ⊢
        have h2 := (isA_of (tk_w h)).1
        exact ev_an (T := T) (sz := sz) (M := 26 - 2 * (k + 1)) (by omega) (fun a => by rw [show 26 - 2 * (k + 1) + 2 = 26 - 2 * k by omega]; exact ih a (by omega)) (a + 1) h2 S P hP
      · next q2 =>
        rw [if_neg q2]
        exact ev_te h S P (Nat.lt_of_lt_of_le hP (Nat.pow_le_pow_right (by omega) (by omega)))
/-- a clause's steps bring its number to the sum -/
theorem ev_cl {T : I1} {sz a d : Nat} {Nm : I1} {S Rb : Int32} (h : (clP T sz Nm true a S Rb d).1 = true) : evL Nm (clP T sz Nm true a S Rb d).2.2.1 (S, nI 0) = ((clP T sz Nm true a S Rb d).2.2.2.1, nI 0) := by
  have key : ∀ ws firm, (csP T sz Nm ws firm a S Rb).1 = true → evL Nm (csP T sz Nm ws firm a S Rb).2.2.1 (S, nI 0) = ((csP T sz Nm ws firm a S Rb).2.2.2.1, nI 0) := by
    intro ws firm h
    obtain ⟨p, e⟩ : ∃ p, wdP T sz ws true a = p := ⟨_, rfl⟩
    obtain ⟨b, p⟩ := p
    cases b with
    | false => rw [(cs_1 e).1] at h; exact absurd h Bool.false_ne_true
    | true =>
      by_cases h2 : (nuP T sz true p).1 = true
      · by_cases h3 : isA T sz true (nuP T sz true p).2.1 (nI 32) = true
        · have e1 := (cs_4 (Nm := Nm) (firm := firm) (S := S) (Rb := Rb) e h2 h3).1
          rw [e1] at h
          have h4 := ev_an (T := T) (sz := sz) (L := Nm) (M := 16) (by omega) (fun a => ev_fa (T := T) (sz := sz) (Nm := Nm) 4 a (by omega)) _ h S 0 (by decide)
          unfold csP
          rw [e]
          dsimp only
          rw [h2, tk_t h3]
          dsimp only
          rw [ev_app, ev_one, h4, evS, ix_k (by decide), stC_21]
          dsimp only
          rw [and1 (by omega)]
          generalize (anP (faP T sz Nm 4) T sz true ((nuP T sz true p).2.1 + 1)).2.2.2 = b
          generalize (if firm = true then (nuP T sz true p).2.2 else -(nuP T sz true p).2.2) = v
          cases b
          · rw [if_neg Bool.false_ne_true, show nI false.toNat = 0 from rfl, Int32.zero_mul]; rfl
          · rw [if_pos rfl, show nI true.toNat = 1 from rfl, Int32.one_mul]
        · rw [(cs_3 (Nm := Nm) (firm := firm) (S := S) (Rb := Rb) e h2 h3).1] at h; exact absurd h Bool.false_ne_true
      · rw [(cs_2 (Nm := Nm) (firm := firm) (S := S) (Rb := Rb) e h2).1] at h; exact absurd h Bool.false_ne_true
  unfold clP at h ⊢
  split at h
  · exact absurd h Bool.false_ne_true
  · next q1 =>
    rw [if_neg q1]
    split at h
    · next q2 => rw [if_pos q2]; exact key _ _ h
    · next q2 =>
      rw [if_neg q2]
      split at h
      · next q3 => rw [if_pos q3]; exact key _ _ h
      · next q3 =>
        rw [if_neg q3]
        rfl
theorem ev_ct {T : I1} {sz : Nat} {Nm : I1} {S : Int32} : ∀ (f : Nat) (r : CR), (r.1 = true → evL Nm r.2.2.1 (S, nI 0) = (r.2.2.2.1, nI 0)) → (ctP T sz Nm f r).1 = true → evL Nm (ctP T sz Nm f r).2.2.1 (S, nI 0) = ((ctP T sz Nm f r).2.2.2.1, nI 0) := by
  intro f
  induction f with
  | zero => intro r hr h; exact hr h
  | succ f ih =>
    intro r hr h
    by_cases h1 : r.1 = true
    · by_cases h2 : isA T sz true r.2.1 (nI 59) = true
      · rw [ct_go h1 h2] at h ⊢
        refine ih _ (fun h3 => ?_) h
        show evL Nm (r.2.2.1 ++ (clP T sz Nm true (r.2.1 + 1) r.2.2.2.1 r.2.2.2.2.1 r.2.2.2.2.2).2.2.1) (S, nI 0) = _
        rw [ev_app, hr h1]
        exact ev_cl h3
      · rw [ct_stop h1 h2] at h ⊢
        exact hr h
    · rw [ct_bad h1] at h ⊢
      exact hr h
theorem ev_ra {T : I1} {sz d : Nat} {Nm : I1} {S : Int32} (h : (raP T sz Nm S d).1 = true) : evL Nm (raP T sz Nm S d).2.2.1 (S, nI 0) = ((raP T sz Nm S d).2.2.2.1, nI 0) :=
  ev_ct 9 _ (fun h => ev_cl h) h
