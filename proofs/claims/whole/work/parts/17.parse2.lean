/-! the grammar reads nothing beyond the text's end -/
section PCG
variable {T T1 : I1} {sz : Nat}
theorem isA_cg (h : ∀ k, k < sz → T k = T1 k) : isA T sz = isA T1 sz := by
  funext w a c
  simp only [isA]
  by_cases q : a < sz
  · rw [h a q]
  · simp only [q, decide_false, Bool.false_and]
theorem dg_cg (h : ∀ k, k < sz → T k = T1 k) : dgP T sz = dgP T1 sz := by
  funext w a
  simp only [dgP]
  by_cases q : a < sz
  · rw [h a q]
  · simp only [q, decide_false, Bool.false_and]
theorem nu_cg (h : ∀ k, k < sz → T k = T1 k) : nuP T sz = nuP T1 sz := by
  funext w a
  unfold nuP
  rw [dg_cg h]
  split
  · next q =>
    have h1 := (dg_of q).2.1
    split
    · next q2 =>
      have h2 := (dg_of q2).2.1
      rw [h a h1, h (a + 1) h2]
    · rw [h a h1]
  · rfl
theorem tk_cg (h : ∀ k, k < sz → T k = T1 k) : tkP T sz = tkP T1 sz := by
  funext c w a
  unfold tkP
  rw [isA_cg h]
theorem ls_cg (h : ∀ k, k < sz → T k = T1 k) : lsP T sz = lsP T1 sz := by
  funext w a L n
  unfold lsP
  rw [isA_cg h]
theorem rl_cg (h : ∀ k, k < sz → T k = T1 k) : rlP T sz = rlP T1 sz := by
  funext a
  unfold rlP
  rw [isA_cg h]
theorem te_cg (h : ∀ k, k < sz → T k = T1 k) : teP T sz = teP T1 sz := by
  funext Nm w a
  unfold teP
  rw [ls_cg h, rl_cg h, tk_cg h, nu_cg h]
theorem tl_cg (h : ∀ k, k < sz → T k = T1 k) {p : Bool → Nat → PR} {sep op : Int32} {cmb : Bool → Bool → Bool} : ∀ (f : Nat) (r : PR), tlP p T sz sep op cmb f r = tlP p T1 sz sep op cmb f r := by
  intro f
  induction f with
  | zero => intro r; rfl
  | succ f ih =>
    intro r
    simp only [tlP]
    rw [isA_cg h, ih]
theorem bo_cg (h : ∀ k, k < sz → T k = T1 k) (p : Bool → Nat → PR) : boP p T sz = boP p T1 sz := by
  funext w a
  unfold boP
  rw [tl_cg h]
theorem an_cg (h : ∀ k, k < sz → T k = T1 k) (p : Bool → Nat → PR) : anP p T sz = anP p T1 sz := by
  funext w a
  unfold anP
  rw [tl_cg h, bo_cg h]
theorem fa_cg (h : ∀ k, k < sz → T k = T1 k) {Nm : I1} : ∀ k, faP T sz Nm k = faP T1 sz Nm k := by
  intro k
  induction k with
  | zero => funext w a; show teP T sz Nm w a = teP T1 sz Nm w a; rw [te_cg h]
  | succ k ih =>
    funext w a
    simp only [faP]
    rw [ih, isA_cg h, an_cg h, tk_cg h, te_cg h]
theorem wd_cg (h : ∀ k, k < sz → T k = T1 k) : ∀ (cs : List Int32) (w : Bool) (a : Nat), wdP T sz cs w a = wdP T1 sz cs w a := by
  intro cs
  induction cs with
  | nil => intro w a; rfl
  | cons c cs ih => intro w a; simp only [wdP]; rw [ih, tk_cg h]
theorem cs_cg (h : ∀ k, k < sz → T k = T1 k) : csP T sz = csP T1 sz := by
  funext Nm ws firm a S Rb
  unfold csP
  rw [wd_cg h, nu_cg h, tk_cg h, fa_cg h, an_cg h]
theorem cr_cg (h : ∀ k, k < sz → T k = T1 k) : crP T sz = crP T1 sz := by
  funext a S d
  unfold crP
  rw [wd_cg h, nu_cg h]
theorem cl_cg (h : ∀ k, k < sz → T k = T1 k) : clP T sz = clP T1 sz := by
  funext Nm w a S Rb d
  unfold clP
  rw [ls_cg h, cs_cg h, cr_cg h]
theorem ct_cg (h : ∀ k, k < sz → T k = T1 k) {Nm : I1} : ∀ (f : Nat) (r : CR), ctP T sz Nm f r = ctP T1 sz Nm f r := by
  intro f
  induction f with
  | zero => intro r; rfl
  | succ f ih =>
    intro r
    simp only [ctP]
    rw [isA_cg h, ih, cl_cg h]
theorem ra_cg (h : ∀ k, k < sz → T k = T1 k) : raP T sz = raP T1 sz := by
  funext Nm S d
  unfold raP
  rw [ct_cg h, cl_cg h]
end PCG
/-- all but within -/
def dpd (r : CR) : Bool × Nat × List (Int32 × Int32) × Int32 × Int32 := (r.1, r.2.1, r.2.2.1, r.2.2.2.1, r.2.2.2.2.1)
theorem cl_d {T : I1} {sz : Nat} {Nm : I1} {w : Bool} {a : Nat} {S Rb : Int32} (d d1 : Nat) : dpd (clP T sz Nm w a S Rb d) = dpd (clP T sz Nm w a S Rb d1) := by
  unfold clP
  split
  · rfl
  · split
    · rfl
    · split <;> rfl
theorem ct_d {T : I1} {sz : Nat} {Nm : I1} : ∀ (f : Nat) (r r1 : CR), dpd r = dpd r1 → dpd (ctP T sz Nm f r) = dpd (ctP T sz Nm f r1) := by
  intro f
  induction f with
  | zero => intro r r1 h; exact h
  | succ f ih =>
    rintro ⟨w, a, L, S, Rb, d⟩ ⟨w1, a1, L1, S1, Rb1, d1⟩ h
    simp only [dpd, Prod.mk.injEq] at h
    obtain ⟨rfl, rfl, rfl, rfl, rfl⟩ := h
    simp only [ctP]
    have e := cl_d (T := T) (sz := sz) (Nm := Nm) (w := true) (a := a + 1) (S := S) (Rb := Rb) d d1
    simp only [dpd, Prod.mk.injEq] at e
    obtain ⟨e1, e2, e3, e4, e5⟩ := e
    split
    · exact ih _ _ (by simp only [dpd, e1, e2, e3, e4, e5])
    · rfl
theorem ra_d {T : I1} {sz : Nat} {Nm : I1} {S : Int32} (d d1 : Nat) : dpd (raP T sz Nm S d) = dpd (raP T sz Nm S d1) := ct_d 9 _ _ (cl_d d d1)
/-- what the letters stand for -/
def namF (A : I1) (i : Nat) (s : Int32) : I1 := fun j => if j = 0 then nI i else if j = 1 then A (9 * i + 0) else if j = 2 then A (9 * i + 1) else if j = 3 then s else if j = 4 then A (9 * i + 2) / nI 10 else A 80 - A 80 / nI 10 * nI 10
/-- the text of a rule -/
def rulT (rules : I1) (q : Nat) : I1 := fun k => rules (100 * q + k)
/-- the sum and the rub by the rule that holds -/
def evR (rules sizes A : I1) (i : Nat) (s : Int32) : Int32 × Int32 :=
  if A 81 = nI 0 then (A (9 * i + 2) / nI 5, nI 3)
  else ((raP (rulT rules (ix (A 81) - 1)) (ix (sizes (ix (A 81) - 1))) (namF A i s) (A (9 * i + 2) / nI 5) 0).2.2.2.1, (raP (rulT rules (ix (A 81) - 1)) (ix (sizes (ix (A 81) - 1))) (namF A i s) (A (9 * i + 2) / nI 5) 0).2.2.2.2.1)
/-- the rule that holds is one -/
def RuI (sizes A : I1) : Prop := ∃ q, q ≤ 6 ∧ A 81 = nI q ∧ (q = 0 ∨ ∃ z, z ≤ 100 ∧ sizes (q - 1) = nI z)
