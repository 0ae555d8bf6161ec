/-! what is read doesn't hang on what the letters stand for -/
def p3 (r : PR) : Bool × Nat × List (Int32 × Int32) := (r.1, r.2.1, r.2.2.1)
theorem te_p3 {T : I1} {sz : Nat} {Nm Nm1 : I1} {w : Bool} {a : Nat} : p3 (teP T sz Nm w a) = p3 (teP T sz Nm1 w a) := by
  by_cases h : lsP T sz w a mLet 6 = -1
  · rw [teP, teP, if_pos h, if_pos h]
  · rw [teP, teP, if_neg h, if_neg h]
    simp only [p3]
theorem tl_p3 {p p1 : Bool → Nat → PR} {T : I1} {sz : Nat} {sep op : Int32} {cmb : Bool → Bool → Bool} (hp : ∀ w a, p3 (p w a) = p3 (p1 w a)) : ∀ (f : Nat) (r r1 : PR), p3 r = p3 r1 → p3 (tlP p T sz sep op cmb f r) = p3 (tlP p1 T sz sep op cmb f r1) := by
  intro f
  induction f with
  | zero => intro r r1 h; exact h
  | succ f ih =>
    rintro ⟨w, a, L, b⟩ ⟨w1, a1, L1, b1⟩ h
    simp only [p3, Prod.mk.injEq] at h
    obtain ⟨rfl, rfl, rfl⟩ := h
    have e := hp true (a + 1)
    simp only [p3, Prod.mk.injEq] at e
    obtain ⟨e1, e2, e3⟩ := e
    simp only [tlP]
    split
    · exact ih _ _ (by simp only [p3, e1, e2, e3])
    · rfl
theorem bo_p3 {p p1 : Bool → Nat → PR} {T : I1} {sz : Nat} (hp : ∀ w a, p3 (p w a) = p3 (p1 w a)) (w : Bool) (a : Nat) : p3 (boP p T sz w a) = p3 (boP p1 T sz w a) := tl_p3 hp _ _ _ (hp w a)
theorem an_p3 {p p1 : Bool → Nat → PR} {T : I1} {sz : Nat} (hp : ∀ w a, p3 (p w a) = p3 (p1 w a)) (w : Bool) (a : Nat) : p3 (anP p T sz w a) = p3 (anP p1 T sz w a) := tl_p3 (bo_p3 hp) _ _ _ (bo_p3 hp w a)
theorem fa_p3 {T : I1} {sz : Nat} {Nm Nm1 : I1} : ∀ (k : Nat) (w : Bool) (a : Nat), p3 (faP T sz Nm k w a) = p3 (faP T sz Nm1 k w a) := by
  intro k
  induction k with
  | zero => intro w a; exact te_p3
  | succ k ih =>
    intro w a
    have e := ih true (a + 1)
    have e2 := an_p3 (T := T) (sz := sz) ih true (a + 1)
    simp only [p3, Prod.mk.injEq] at e e2
    obtain ⟨e1, e3, e4⟩ := e
    obtain ⟨e5, e6, e7⟩ := e2
    simp only [faP]
    split
    · simp only [p3, e1, e3, e4]
    · split
      · simp only [p3, e5, e6, e7]
      · exact te_p3
/-- well so far, the place, the steps, the rub -/
def p4 (r : CR) : Bool × Nat × List (Int32 × Int32) × Int32 := (r.1, r.2.1, r.2.2.1, r.2.2.2.2.1)
theorem cs_p4 {T : I1} {sz : Nat} {Nm Nm1 : I1} {ws : List Int32} {firm : Bool} {a : Nat} {S S1 Rb : Int32} : p4 (csP T sz Nm ws firm a S Rb) = p4 (csP T sz Nm1 ws firm a S1 Rb) := by
  have e := fun w a => an_p3 (T := T) (sz := sz) (fa_p3 (T := T) (sz := sz) (Nm := Nm) (Nm1 := Nm1) 4) w a
  simp only [p3, Prod.mk.injEq] at e
  simp only [csP, p4, (e _ _).1, (e _ _).2.1, (e _ _).2.2]
theorem cl_p4 {T : I1} {sz : Nat} {Nm Nm1 : I1} {w : Bool} {a : Nat} {S S1 Rb : Int32} {d d1 : Nat} : p4 (clP T sz Nm w a S Rb d) = p4 (clP T sz Nm1 w a S1 Rb d1) := by
  unfold clP
  split
  · rfl
  · split
    · exact cs_p4
    · split
      · exact cs_p4
      · rfl
theorem ct_p4 {T : I1} {sz : Nat} {Nm Nm1 : I1} : ∀ (f : Nat) (r r1 : CR), p4 r = p4 r1 → p4 (ctP T sz Nm f r) = p4 (ctP T sz Nm1 f r1) := by
  intro f
  induction f with
  | zero => intro r r1 h; exact h
  | succ f ih =>
    rintro ⟨w, a, L, S, Rb, d⟩ ⟨w1, a1, L1, S1, Rb1, d1⟩ h
    simp only [p4, Prod.mk.injEq] at h
    obtain ⟨rfl, rfl, rfl, rfl⟩ := h
    have e := cl_p4 (T := T) (sz := sz) (Nm := Nm) (Nm1 := Nm1) (w := true) (a := a + 1) (S := S) (S1 := S1) (Rb := Rb) (d := d) (d1 := d1)
    simp only [p4, Prod.mk.injEq] at e
    obtain ⟨e1, e2, e3, e4⟩ := e
    simp only [ctP]
    split
    · exact ih _ _ (by simp only [p4, e1, e2, e3, e4])
    · rfl
theorem ra_p4 {T : I1} {sz : Nat} {Nm Nm1 : I1} {S S1 : Int32} {d d1 : Nat} : p4 (raP T sz Nm S d) = p4 (raP T sz Nm1 S1 d1) := ct_p4 9 _ _ cl_p4
/-- a text as it is read for its own sake -/
def rcP (T : I1) (sz : Nat) : CR := raP T sz (fun _ => 0) 0 0
