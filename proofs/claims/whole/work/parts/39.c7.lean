/-- nothing of the other cities has changed -/
def OtC (ct z : CTt) (c : Nat) : Prop := ∀ c1, c1 ≠ c → z.1 c1 = ct.1 c1 ∧ z.2.1 c1 = ct.2.1 c1 ∧ z.2.2.1 c1 = ct.2.2.1 c1 ∧ z.2.2.2 c1 = ct.2.2.2 c1
theorem OtC.rf {ct : CTt} {c : Nat} : OtC ct ct c := fun _ _ => ⟨rfl, rfl, rfl, rfl⟩
theorem OtC.trans {ct z y : CTt} {c : Nat} (h : OtC ct z c) (h2 : OtC z y c) : OtC ct y c := fun c1 q => ⟨(h2 c1 q).1.trans (h c1 q).1, (h2 c1 q).2.1.trans (h c1 q).2.1, (h2 c1 q).2.2.1.trans (h c1 q).2.2.1, (h2 c1 q).2.2.2.trans (h c1 q).2.2.2⟩
/-- city c has the steps L behind its k -/
def ApC (ct z : CTt) (c k : Nat) (L : List (Int32 × Int32)) : Prop := OtC ct z c ∧ z.2.2.2 c = ct.2.2.2 c ∧ z.2.2.1 c = nI (k + L.length) ∧ (∀ j, j < k → z.1 c j = ct.1 c j ∧ z.2.1 c j = ct.2.1 c j) ∧ ∀ j p, L[j]? = some p → z.1 c (k + j) = p.1 ∧ z.2.1 c (k + j) = p.2
theorem ApC.nil {ct : CTt} {c k : Nat} (h : ct.2.2.1 c = nI k) : ApC ct ct c k [] := ⟨OtC.rf, rfl, h, fun _ _ => ⟨rfl, rfl⟩, fun j p q => by simp at q⟩
theorem ApC.cnt {ct z : CTt} {c k : Nat} {L : List (Int32 × Int32)} (h : ApC ct z c k L) : z.2.2.1 c = nI (k + L.length) := h.2.2.1
theorem ApC.trans {ct z y : CTt} {c k : Nat} {L L2 : List (Int32 × Int32)} (h : ApC ct z c k L) (h2 : ApC z y c (k + L.length) L2) : ApC ct y c k (L ++ L2) := by
  obtain ⟨a1, a2, a3, a4, a5⟩ := h
  obtain ⟨b1, b2, b3, b4, b5⟩ := h2
  refine ⟨a1.trans b1, b2.trans a2, by rw [b3, List.length_append, Nat.add_assoc], fun j hj => ⟨(b4 j (by omega)).1.trans (a4 j hj).1, (b4 j (by omega)).2.trans (a4 j hj).2⟩, fun j p hj => ?_⟩
  by_cases q : j < L.length
  · rw [List.getElem?_append_left q] at hj
    exact ⟨(b4 _ (by omega)).1.trans (a5 j p hj).1, (b4 _ (by omega)).2.trans (a5 j p hj).2⟩
  · rw [List.getElem?_append_right (by omega)] at hj
    have h9 := b5 _ p hj
    rw [show k + L.length + (j - L.length) = k + j by omega] at h9
    exact h9
theorem ApC.one {ct : CTt} {c k : Nat} {a b : Int32} : ApC ct (psh ct c k a b) c k [(a, b)] := by
  refine ⟨fun c1 q => ⟨va_up_ne _ _ q, va_up_ne _ _ q, va_up_ne _ _ q, rfl⟩, rfl, va_up_self _ _ _, fun j hj => ⟨?_, ?_⟩, fun j p hj => ?_⟩
  · show va_up ct.1 c _ c j = _
    rw [va_up_self]
    exact if_neg (by omega)
  · show va_up ct.2.1 c _ c j = _
    rw [va_up_self]
    exact if_neg (by omega)
  · have hj0 : j = 0 := by
      have := (List.getElem?_eq_some_iff.mp hj).1
      simpa using this
    subst hj0
    simp at hj
    subst hj
    refine ⟨?_, ?_⟩
    · show va_up ct.1 c _ c (k + 0) = _
      rw [va_up_self]
      exact if_pos rfl
    · show va_up ct.2.1 c _ c (k + 0) = _
      rw [va_up_self]
      exact if_pos rfl
theorem ApC.ap {ct z : CTt} {c k : Nat} {L : List (Int32 × Int32)} {a b : Int32} (h : ApC ct z c k L) : ApC ct (psh z c (k + L.length) a b) c k (L ++ [(a, b)]) := h.trans ApC.one
/-- what a parser does to the steps: where it was well, it has laid L -/
def ApO (ct z : CTt) (c k : Nat) (r : PR) : Prop := OtC ct z c ∧ (r.1 = true → ApC ct z c k r.2.2.1)
/-- a parser that is well has gone on, by as many signs as it has laid steps at least -/
def Len (p : Bool → Nat → PR) : Prop := ∀ a, (p true a).1 = true → a < (p true a).2.1 ∧ a + (p true a).2.2.1.length ≤ (p true a).2.1
theorem nu_a {T : I1} {sz a : Nat} {w : Bool} (h : (nuP T sz w a).1 = true) : a < (nuP T sz w a).2.1 := by
  by_cases h1 : dgP T sz w a = true
  · by_cases h2 : dgP T sz w (a + 1) = true
    · rw [nu_2 h1 h2]; show a < a + 2; omega
    · rw [nu_1 h1 h2]; show a < a + 1; omega
  · rw [nu_0 h1] at h
    exact absurd h Bool.false_ne_true
theorem nu_w {T : I1} {sz a : Nat} {w : Bool} (h : (nuP T sz w a).1 = true) : w = true := by
  by_cases h1 : dgP T sz w a = true
  · exact (dg_of h1).1
  · rw [nu_0 h1] at h
    exact absurd h Bool.false_ne_true
theorem tk_w {T : I1} {sz a : Nat} {w : Bool} {c : Int32} (h : (tkP T sz c w a).1 = true) : isA T sz w a c = true := by
  by_cases h1 : isA T sz w a c = true
  · exact h1
  · rw [tk_f h1] at h
    exact absurd h Bool.false_ne_true
theorem te_len {T : I1} {sz : Nat} {Nm : I1} : Len (teP T sz Nm) := by
  intro a h
  unfold teP at h ⊢
  split at h
  · exact absurd h Bool.false_ne_true
  · next q =>
    rw [if_neg q]
    have h1 := nu_a h
    have h2 := tk_t2 (tk_w (nu_w h))
    dsimp only
    rw [h2] at h1 ⊢
    simp only [List.length_singleton]
    omega
theorem tl_len {p : Bool → Nat → PR} {T : I1} {sz : Nat} {sep op : Int32} {cmb : Bool → Bool → Bool} (hp : Len p) {a : Nat} : ∀ (f : Nat) (r : PR), (r.1 = true → a < r.2.1 ∧ a + r.2.2.1.length ≤ r.2.1) → (tlP p T sz sep op cmb f r).1 = true → a < (tlP p T sz sep op cmb f r).2.1 ∧ a + (tlP p T sz sep op cmb f r).2.2.1.length ≤ (tlP p T sz sep op cmb f r).2.1 := by
  intro f
  induction f with
  | zero => intro r hr h; exact hr h
  | succ f ih =>
    intro r hr h
    unfold tlP at h ⊢
    split at h
    · next q =>
      rw [if_pos q]
      refine ih _ (fun h2 => ?_) h
      have h3 := hp (r.2.1 + 1) h2
      have h4 := hr (isA_of q).1
      simp only [List.length_append, List.length_singleton]
      omega
    · next q =>
      rw [if_neg q]
      exact hr h
theorem bo_len {p : Bool → Nat → PR} {T : I1} {sz : Nat} (hp : Len p) : Len (boP p T sz) := fun a h => tl_len hp sz _ (fun h2 => hp a h2) h
theorem an_len {p : Bool → Nat → PR} {T : I1} {sz : Nat} (hp : Len p) : Len (anP p T sz) := fun a h => tl_len (bo_len hp) sz _ (fun h2 => bo_len hp a h2) h
theorem fa_len {T : I1} {sz : Nat} {Nm : I1} : ∀ k, Len (faP T sz Nm k) := by
  intro k
  induction k with
  | zero => exact te_len
  | succ k ih =>
    intro a h
    unfold faP at h ⊢
    split at h
    · next q =>
      rw [if_pos q]
      have h1 := ih (a + 1) h
      simp only [List.length_append, List.length_singleton]
      omega
    · next q =>
      rw [if_neg q]
      split at h
      · next q2 =>
        rw [if_pos q2]
        have h2 := tk_w h
        have h1 := an_len (T := T) (sz := sz) ih (a + 1) (isA_of h2).1
        have h3 := tk_t2 h2
        dsimp only at h3 ⊢
        rw [h3]
        omega
      · next q2 =>
        rw [if_neg q2]
        exact te_len a h
/-! the test, by what signOf answers -/
theorem so_3 {T : I1} {sz a : Nat} : soV T sz a 3 = lsP T sz true a mLet 6 := by
  by_cases h : a < sz
  · rw [soV, if_pos h]
    have hi : ∀ c : Int32, isA T sz true a c = true ↔ T a = c := fun c => ⟨fun z => (isA_of z).2.2, fun z => isA_t rfl h z⟩
    simp only [lsP, itr, hi, mLet]
    generalize T a = x
    show (if (112 : Int32) = x then nI 0 else if (107 : Int32) = x then nI (0 + 1) else if (118 : Int32) = x then nI (0 + 1 + 1) else if (115 : Int32) = x then nI (0 + 1 + 1 + 1) else if (99 : Int32) = x then nI (0 + 1 + 1 + 1 + 1) else if (100 : Int32) = x then nI (0 + 1 + 1 + 1 + 1 + 1) else -1) = if x = 100 then nI 5 else if x = 99 then nI 4 else if x = 115 then nI 3 else if x = 118 then nI 2 else if x = 107 then nI 1 else if x = 112 then nI 0 else -1
    by_cases h0 : x = 112
    · subst h0; decide
    by_cases h1 : x = 107
    · subst h1; decide
    by_cases h2 : x = 118
    · subst h2; decide
    by_cases h3 : x = 115
    · subst h3; decide
    by_cases h4 : x = 99
    · subst h4; decide
    by_cases h5 : x = 100
    · subst h5; decide
    rw [if_neg (Ne.symm h0), if_neg (Ne.symm h1), if_neg (Ne.symm h2), if_neg (Ne.symm h3), if_neg (Ne.symm h4), if_neg (Ne.symm h5), if_neg h5, if_neg h4, if_neg h3, if_neg h2, if_neg h1, if_neg h0]
  · rw [soV, if_neg h]
    have hi : ∀ c : Int32, ¬ isA T sz true a c = true := fun c => isA_f (Or.inr (Or.inl h))
    simp only [lsP, itr, hi, ↓reduceIte, Bool.false_eq_true]
theorem so_4 {T : I1} {sz a : Nat} : (soV T sz a 4 = -1 ∧ tkP T sz (rlC (rlP T sz a)) true a = (false, a)) ∨ ∃ k, k < 3 ∧ soV T sz a 4 = nI k ∧ rlP T sz a + nI 1 = nI k ∧ tkP T sz (rlC (rlP T sz a)) true a = (true, a + 1) := by
  by_cases h : a < sz
  · have hi : ∀ c : Int32, isA T sz true a c = true ↔ T a = c := fun c => ⟨fun z => (isA_of z).2.2, fun z => isA_t rfl h z⟩
    have e : soV T sz a 4 = if (60 : Int32) = T a then nI 0 else if (61 : Int32) = T a then nI 1 else if (62 : Int32) = T a then nI 2 else -1 := if_pos h
    simp only [tkP, rlP, hi, e]
    generalize T a = x
    by_cases h0 : x = 60
    · subst h0; exact Or.inr ⟨0, by omega, by decide, by decide, if_pos (by decide)⟩
    by_cases h1 : x = 61
    · subst h1; exact Or.inr ⟨1, by omega, by decide, by decide, if_pos (by decide)⟩
    by_cases h2 : x = 62
    · subst h2; exact Or.inr ⟨2, by omega, by decide, by decide, if_pos (by decide)⟩
    refine Or.inl ⟨by rw [if_neg (Ne.symm h0), if_neg (Ne.symm h1), if_neg (Ne.symm h2)], ?_⟩
    rw [if_neg (show ¬ x = nI 60 from h0), if_neg (show ¬ x = nI 62 from h2), show rlC (nI 0) = nI 61 from rfl, if_neg (show ¬ x = nI 61 from h1)]
  · have hi : ∀ c : Int32, ¬ isA T sz true a c = true := fun c => isA_f (Or.inr (Or.inl h))
    exact Or.inl ⟨if_neg h, tk_f (hi _)⟩
theorem te_A {T : I1} {sz a : Nat} {Nm : I1} (h : soV T sz a 3 = -1) : teP T sz Nm true a = (false, a, [], false) := by
  rw [so_3] at h
  rw [teP, if_pos h]
theorem te_B {T : I1} {sz a j : Nat} {Nm : I1} (hj : j < 6) (h : soV T sz a 3 = nI j) (h2 : soV T sz (a + 1) 4 = -1) : (teP T sz Nm true a).1 = false ∧ (teP T sz Nm true a).2.1 = a + 1 := by
  rw [so_3] at h
  rcases so_4 (T := T) (sz := sz) (a := a + 1) with ⟨-, e⟩ | ⟨k, hk, e, -, -⟩
  · rw [teP, if_neg (by rw [h]; exact nI_m1 (by omega))]
    dsimp only
    rw [e, nu_0 (fun z => absurd (dg_of z).1 Bool.false_ne_true)]
    exact ⟨rfl, rfl⟩
  · rw [h2] at e
    exact absurd e.symm (nI_m1 (by omega))
theorem te_C {T : I1} {sz a j k : Nat} {Nm : I1} (hj : j < 6) (h : soV T sz a 3 = nI j) (hk9 : k < 3) (h2 : soV T sz (a + 1) 4 = nI k) : (teP T sz Nm true a).1 = (nuP T sz true (a + 2)).1 ∧ (teP T sz Nm true a).2.1 = (nuP T sz true (a + 2)).2.1 ∧ (teP T sz Nm true a).2.2.1 = [(nI (j * 3 + k), (nuP T sz true (a + 2)).2.2)] := by
  rw [so_3] at h
  rcases so_4 (T := T) (sz := sz) (a := a + 1) with ⟨e, -⟩ | ⟨k1, hk, e, e1, e2⟩
  · rw [h2] at e
    exact absurd e (nI_m1 (by omega))
  · obtain rfl : k = k1 := (nI_eq (by omega) (by omega)).mp (h2.symm.trans e)
    rw [teP, if_neg (by rw [h]; exact nI_m1 (by omega))]
    dsimp only
    rw [e2, e1, h, pk_mul, nI_add]
    exact ⟨rfl, rfl, rfl⟩
