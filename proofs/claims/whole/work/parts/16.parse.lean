/-! the cities' grammar: what is read from a place on, over the text T of sz signs; w tells whether all was well so far -/
def isA (T : I1) (sz : Nat) (w : Bool) (a : Nat) (c : Int32) : Bool := w && (decide (a < sz) && decide (T a = c))
theorem isA_t {T : I1} {sz a : Nat} {w : Bool} {c : Int32} (h1 : w = true) (h2 : a < sz) (h3 : T a = c) : isA T sz w a c = true := by simp [isA, h1, h2, h3]
theorem isA_f {T : I1} {sz a : Nat} {w : Bool} {c : Int32} (h : ¬ w = true ∨ ¬ a < sz ∨ ¬ T a = c) : ¬ isA T sz w a c = true := by
  intro q
  simp [isA] at q
  rcases h with h | h | h
  · exact h q.1
  · exact h q.2.1
  · exact h q.2.2
theorem isA_of {T : I1} {sz a : Nat} {w : Bool} {c : Int32} (h : isA T sz w a c = true) : w = true ∧ a < sz ∧ T a = c := by simpa [isA] using h
theorem isA_0 {T : I1} {sz a : Nat} {c : Int32} : ¬ isA T sz false a c = true := isA_f (Or.inl (by decide))
def tkP (T : I1) (sz : Nat) (c : Int32) (w : Bool) (a : Nat) : Bool × Nat := if isA T sz w a c = true then (true, a + 1) else (false, a)
theorem tk_t {T : I1} {sz a : Nat} {w : Bool} {c : Int32} (h : isA T sz w a c = true) : tkP T sz c w a = (true, a + 1) := if_pos h
theorem tk_f {T : I1} {sz a : Nat} {w : Bool} {c : Int32} (h : ¬ isA T sz w a c = true) : tkP T sz c w a = (false, a) := if_neg h
def dgP (T : I1) (sz : Nat) (w : Bool) (a : Nat) : Bool := w && (decide (a < sz) && (decide (¬ T a < nI 48) && decide (¬ nI 57 < T a)))
theorem dg_t {T : I1} {sz a : Nat} {w : Bool} (h1 : w = true) (h2 : a < sz) (h3 : ¬ T a < nI 48) (h4 : ¬ nI 57 < T a) : dgP T sz w a = true := by simp only [dgP, h1, h2, h3, h4, not_false_eq_true, decide_true, Bool.and_true]
theorem dg_of {T : I1} {sz a : Nat} {w : Bool} (h : dgP T sz w a = true) : w = true ∧ a < sz ∧ ¬ T a < nI 48 ∧ ¬ nI 57 < T a := by simpa only [dgP, Bool.and_eq_true, decide_eq_true_eq] using h
/-- a number: one digit or two -/
def nuP (T : I1) (sz : Nat) (w : Bool) (a : Nat) : Bool × Nat × Int32 := if dgP T sz w a = true then (if dgP T sz w (a + 1) = true then (true, a + 2, nI 10 * (T a - nI 48) + T (a + 1) - nI 48) else (true, a + 1, T a - nI 48)) else (false, a, nI 0)
theorem nu_0 {T : I1} {sz a : Nat} {w : Bool} (h : ¬ dgP T sz w a = true) : nuP T sz w a = (false, a, nI 0) := if_neg h
theorem nu_1 {T : I1} {sz a : Nat} {w : Bool} (h : dgP T sz w a = true) (h2 : ¬ dgP T sz w (a + 1) = true) : nuP T sz w a = (true, a + 1, T a - nI 48) := by rw [nuP, if_pos h, if_neg h2]
theorem nu_2 {T : I1} {sz a : Nat} {w : Bool} (h : dgP T sz w a = true) (h2 : dgP T sz w (a + 1) = true) : nuP T sz w a = (true, a + 2, nI 10 * (T a - nI 48) + T (a + 1) - nI 48) := by rw [nuP, if_pos h, if_pos h2]
theorem nu_le {T : I1} {sz a : Nat} {w : Bool} (h : a ≤ sz) : a ≤ (nuP T sz w a).2.1 ∧ (nuP T sz w a).2.1 ≤ sz := by
  unfold nuP
  split
  · next q =>
    have := (dg_of q).2.1
    split
    · next q2 => have := (dg_of q2).2.1; exact ⟨by show a ≤ a + 2; omega, by show a + 2 ≤ sz; omega⟩
    · exact ⟨by show a ≤ a + 1; omega, by show a + 1 ≤ sz; omega⟩
  · exact ⟨Nat.le_refl a, h⟩
theorem tk_le {T : I1} {sz a : Nat} {w : Bool} {c : Int32} (h : a ≤ sz) : a ≤ (tkP T sz c w a).2 ∧ (tkP T sz c w a).2 ≤ sz := by
  unfold tkP
  split
  · next q => have := (isA_of q).2.1; exact ⟨by show a ≤ a + 1; omega, by show a + 1 ≤ sz; omega⟩
  · exact ⟨Nat.le_refl a, h⟩
/-- the last of n signs that stands at a: its number, or -1 -/
def lsP (T : I1) (sz : Nat) (w : Bool) (a : Nat) (L : I1) (n : Nat) : Int32 := itr (fun j r => if isA T sz w a (L j) = true then nI j else r) n (-1)
theorem ls_cases {T : I1} {sz a : Nat} {w : Bool} {L : I1} : ∀ n, (lsP T sz w a L n = -1 ∧ ∀ j, j < n → ¬ isA T sz w a (L j) = true) ∨ ∃ j, j < n ∧ lsP T sz w a L n = nI j ∧ isA T sz w a (L j) = true := by
  intro n
  induction n with
  | zero => exact Or.inl ⟨rfl, fun j h => absurd h (by omega)⟩
  | succ n ih =>
    by_cases h : isA T sz w a (L n) = true
    · exact Or.inr ⟨n, by omega, if_pos h, h⟩
    · have e : lsP T sz w a L (n + 1) = lsP T sz w a L n := if_neg h
      rcases ih with ⟨h1, h2⟩ | ⟨j, h1, h2, h3⟩
      · refine Or.inl ⟨by rw [e]; exact h1, fun j hj => ?_⟩
        by_cases q : j = n
        · subst q; exact h
        · exact h2 j (by omega)
      · exact Or.inr ⟨j, by omega, by rw [e]; exact h2, h3⟩
