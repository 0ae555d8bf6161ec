/-! the cities' grammar: what is read from a place on, over the text T of sz signs; w tells whether all was well so far -/
def isA (T : I1) (sz : Nat) (w : Bool) (a : Nat) (c : Int32) : Bool := w && (decide (a < sz) && decide (T a = c))
theorem isA_t {T : I1} {sz a : Nat} {w : Bool} {c : Int32} (h1 : w = true) (h2 : a < sz) (h3 : T a = c) : isA T sz w a c = true := by simp [isA, h1, h2, h3]
theorem isA_f {T : I1} {sz a : Nat} {w : Bool} {c : Int32} (h : ¬ w = true ∨ ¬ a < sz ∨ ¬ T a = c) : ¬ isA T sz w a c = true := by
  intro q
  simp [isA] at q
  rcases h with h | h | h
  · exact h q.1
  · exact h q.2.1
  · exact h q.2.2
theorem isA_of {T : I1} {sz a : Nat} {w : Bool} {c : Int32} (h : isA T sz w a c = true) : w = true ∧ a < sz ∧ T a = c := by simpa [isA] using h
theorem isA_0 {T : I1} {sz a : Nat} {c : Int32} : ¬ isA T sz false a c = true := isA_f (Or.inl (by decide))
def tkP (T : I1) (sz : Nat) (c : Int32) (w : Bool) (a : Nat) : Bool × Nat := if isA T sz w a c = true then (true, a + 1) else (false, a)
theorem tk_t {T : I1} {sz a : Nat} {w : Bool} {c : Int32} (h : isA T sz w a c = true) : tkP T sz c w a = (true, a + 1) := if_pos h
theorem tk_f {T : I1} {sz a : Nat} {w : Bool} {c : Int32} (h : ¬ isA T sz w a c = true) : tkP T sz c w a = (false, a) := if_neg h
def dgP (T : I1) (sz : Nat) (w : Bool) (a : Nat) : Bool := w && (decide (a < sz) && (decide (¬ T a < nI 48) && decide (¬ nI 57 < T a)))
theorem dg_t {T : I1} {sz a : Nat} {w : Bool} (h1 : w = true) (h2 : a < sz) (h3 : ¬ T a < nI 48) (h4 : ¬ nI 57 < T a) : dgP T sz w a = true := by simp only [dgP, h1, h2, h3, h4, not_false_eq_true, decide_true, Bool.and_true]
theorem dg_of {T : I1} {sz a : Nat} {w : Bool} (h : dgP T sz w a = true) : w = true ∧ a < sz ∧ ¬ T a < nI 48 ∧ ¬ nI 57 < T a := by simpa only [dgP, Bool.and_eq_true, decide_eq_true_eq] using h
/-- a number: one digit or two -/
def nuP (T : I1) (sz : Nat) (w : Bool) (a : Nat) : Bool × Nat × Int32 := if dgP T sz w a = true then (if dgP T sz w (a + 1) = true then (true, a + 2, nI 10 * (T a - nI 48) + T (a + 1) - nI 48) else (true, a + 1, T a - nI 48)) else (false, a, nI 0)
theorem nu_0 {T : I1} {sz a : Nat} {w : Bool} (h : ¬ dgP T sz w a = true) : nuP T sz w a = (false, a, nI 0) := if_neg h
theorem nu_1 {T : I1} {sz a : Nat} {w : Bool} (h : dgP T sz w a = true) (h2 : ¬ dgP T sz w (a + 1) = true) : nuP T sz w a = (true, a + 1, T a - nI 48) := by rw [nuP, if_pos h, if_neg h2]
theorem nu_2 {T : I1} {sz a : Nat} {w : Bool} (h : dgP T sz w a = true) (h2 : dgP T sz w (a + 1) = true) : nuP T sz w a = (true, a + 2, nI 10 * (T a - nI 48) + T (a + 1) - nI 48) := by rw [nuP, if_pos h, if_pos h2]
theorem nu_le {T : I1} {sz a : Nat} {w : Bool} (h : a ≤ sz) : a ≤ (nuP T sz w a).2.1 ∧ (nuP T sz w a).2.1 ≤ sz := by
  unfold nuP
  split
  · next q =>
    have := (dg_of q).2.1
    split
    · next q2 => have := (dg_of q2).2.1; exact ⟨by show a ≤ a + 2; omega, by show a + 2 ≤ sz; omega⟩
    · exact ⟨by show a ≤ a + 1; omega, by show a + 1 ≤ sz; omega⟩
  · exact ⟨Nat.le_refl a, h⟩
theorem tk_le {T : I1} {sz a : Nat} {w : Bool} {c : Int32} (h : a ≤ sz) : a ≤ (tkP T sz c w a).2 ∧ (tkP T sz c w a).2 ≤ sz := by
  unfold tkP
  split
  · next q => have := (isA_of q).2.1; exact ⟨by show a ≤ a + 1; omega, by show a + 1 ≤ sz; omega⟩
  · exact ⟨Nat.le_refl a, h⟩
/-- the last of n signs that stands at a: its number, or -1 -/
def lsP (T : I1) (sz : Nat) (w : Bool) (a : Nat) (L : I1) (n : Nat) : Int32 := itr (fun j r => if isA T sz w a (L j) = true then nI j else r) n (-1)
theorem ls_cases {T : I1} {sz a : Nat} {w : Bool} {L : I1} : ∀ n, (lsP T sz w a L n = -1 ∧ ∀ j, j < n → ¬ isA T sz w a (L j) = true) ∨ ∃ j, j < n ∧ lsP T sz w a L n = nI j ∧ isA T sz w a (L j) = true := by
  intro n
  induction n with
  | zero => exact Or.inl ⟨rfl, fun j h => absurd h (by omega)⟩
  | succ n ih =>
    by_cases h : isA T sz w a (L n) = true
    · exact Or.inr ⟨n, by omega, if_pos h, h⟩
    · have e : lsP T sz w a L (n + 1) = lsP T sz w a L n := if_neg h
      rcases ih with ⟨h1, h2⟩ | ⟨j, h1, h2, h3⟩
      · refine Or.inl ⟨by rw [e]; exact h1, fun j hj => ?_⟩
        by_cases q : j = n
        · subst q; exact h
        · exact h2 j (by omega)
      · exact Or.inr ⟨j, by omega, by rw [e]; exact h2, h3⟩
/-- which relation stands at a: -1, 0, 1 -/
def rlP (T : I1) (sz a : Nat) : Int32 := if isA T sz true a (nI 60) = true then -1 else if isA T sz true a (nI 62) = true then nI 1 else nI 0
def rlC (c : Int32) : Int32 := if 0 ≤ c then (if c ≤ 0 then nI 61 else nI 62) else nI 60
def rlV (c x n : Int32) : Bool := if 0 ≤ c then (if c ≤ 0 then decide (x = n) else decide (¬ x ≤ n)) else decide (¬ n ≤ x)
theorem rlV_a {c x n : Int32} (h : ¬ 0 ≤ c) : rlV c x n = decide (¬ n ≤ x) := if_neg h
theorem rlV_b {c x n : Int32} (h : 0 ≤ c) (h2 : ¬ c ≤ 0) : rlV c x n = decide (¬ x ≤ n) := by rw [rlV, if_pos h, if_neg h2]
theorem rlV_c {c x n : Int32} (h : 0 ≤ c) (h2 : c ≤ 0) : rlV c x n = decide (x = n) := by rw [rlV, if_pos h, if_pos h2]
/-- well so far, the place, the steps, the truth -/
abbrev PR : Type := Bool × Nat × List (Int32 × Int32) × Bool
def teP (T : I1) (sz : Nat) (Nm : I1) (w : Bool) (a : Nat) : PR :=
  if lsP T sz w a mLet 6 = -1 then (false, a, [], false)
  else
    let c := rlP T sz (a + 1)
    let t := tkP T sz (rlC c) true (a + 1)
    let u := nuP T sz t.1 t.2
    (u.1, u.2.1, [(lsP T sz w a mLet 6 * nI 3 + (c + nI 1), u.2.2)], rlV c (Nm (ix (lsP T sz w a mLet 6))) u.2.2)
def tlP (p : Bool → Nat → PR) (T : I1) (sz : Nat) (sep op : Int32) (cmb : Bool → Bool → Bool) : Nat → PR → PR
  | 0, r => r
  | f + 1, r => if isA T sz r.1 r.2.1 sep = true then tlP p T sz sep op cmb f ((p true (r.2.1 + 1)).1, (p true (r.2.1 + 1)).2.1, r.2.2.1 ++ (p true (r.2.1 + 1)).2.2.1 ++ [(op, nI 0)], cmb r.2.2.2 (p true (r.2.1 + 1)).2.2.2) else r
def boP (p : Bool → Nat → PR) (T : I1) (sz : Nat) (w : Bool) (a : Nat) : PR := tlP p T sz (nI 38) (nI 18) and sz (p w a)
def anP (p : Bool → Nat → PR) (T : I1) (sz : Nat) (w : Bool) (a : Nat) : PR := tlP (boP p T sz) T sz (nI 124) (nI 19) or sz (boP p T sz w a)
def faP (T : I1) (sz : Nat) (Nm : I1) : Nat → Bool → Nat → PR
  | 0, w, a => teP T sz Nm w a
  | k + 1, w, a => if isA T sz w a (nI 33) = true then ((faP T sz Nm k true (a + 1)).1, (faP T sz Nm k true (a + 1)).2.1, (faP T sz Nm k true (a + 1)).2.2.1 ++ [(nI 20, nI 0)], !(faP T sz Nm k true (a + 1)).2.2.2)
    else if isA T sz w a (nI 40) = true then ((tkP T sz (nI 41) (anP (faP T sz Nm k) T sz true (a + 1)).1 (anP (faP T sz Nm k) T sz true (a + 1)).2.1).1, (tkP T sz (nI 41) (anP (faP T sz Nm k) T sz true (a + 1)).1 (anP (faP T sz Nm k) T sz true (a + 1)).2.1).2, (anP (faP T sz Nm k) T sz true (a + 1)).2.2.1, (anP (faP T sz Nm k) T sz true (a + 1)).2.2.2)
    else teP T sz Nm w a
def Pin (sz : Nat) (p : Bool → Nat → PR) : Prop := ∀ w a, a ≤ sz → a ≤ (p w a).2.1 ∧ (p w a).2.1 ≤ sz
theorem te_in {T : I1} {sz : Nat} {Nm : I1} : Pin sz (teP T sz Nm) := by
  intro w a h
  unfold teP
  split
  · exact ⟨Nat.le_refl a, h⟩
  · next q =>
    rcases ls_cases (T := T) (sz := sz) (a := a) (w := w) (L := mLet) 6 with ⟨h1, -⟩ | ⟨j, -, -, h3⟩
    · exact absurd h1 q
    · have h4 := (isA_of h3).2.1
      have h5 := tk_le (T := T) (c := rlC (rlP T sz (a + 1))) (w := true) (show a + 1 ≤ sz by omega)
      have h6 := nu_le (T := T) (w := (tkP T sz (rlC (rlP T sz (a + 1))) true (a + 1)).1) h5.2
      dsimp only
      omega
theorem tl_in {p : Bool → Nat → PR} {T : I1} {sz : Nat} {sep op : Int32} {cmb : Bool → Bool → Bool} (hp : Pin sz p) : ∀ (f : Nat) (r : PR), r.2.1 ≤ sz → r.2.1 ≤ (tlP p T sz sep op cmb f r).2.1 ∧ (tlP p T sz sep op cmb f r).2.1 ≤ sz := by
  intro f
  induction f with
  | zero => intro r h; exact ⟨Nat.le_refl _, h⟩
  | succ f ih =>
    intro r h
    unfold tlP
    split
    · next q =>
      have h4 := (isA_of q).2.1
      have h5 := hp true (r.2.1 + 1) (by omega)
      have h6 := ih ((p true (r.2.1 + 1)).1, (p true (r.2.1 + 1)).2.1, r.2.2.1 ++ (p true (r.2.1 + 1)).2.2.1 ++ [(op, nI 0)], cmb r.2.2.2 (p true (r.2.1 + 1)).2.2.2) h5.2
      dsimp only at h6
      exact ⟨by omega, h6.2⟩
    · exact ⟨Nat.le_refl _, h⟩
theorem bo_in {p : Bool → Nat → PR} {T : I1} {sz : Nat} (hp : Pin sz p) : Pin sz (boP p T sz) := fun w a h => by
  have h1 := hp w a h
  have h2 := tl_in (T := T) (sep := nI 38) (op := nI 18) (cmb := and) hp sz (p w a) h1.2
  unfold boP
  omega
theorem an_in {p : Bool → Nat → PR} {T : I1} {sz : Nat} (hp : Pin sz p) : Pin sz (anP p T sz) := fun w a h => by
  have h1 := bo_in (T := T) hp w a h
  have h2 := tl_in (T := T) (sep := nI 124) (op := nI 19) (cmb := or) (bo_in (T := T) hp) sz (boP p T sz w a) h1.2
  unfold anP
  omega
theorem fa_in {T : I1} {sz : Nat} {Nm : I1} : ∀ k, Pin sz (faP T sz Nm k) := by
  intro k
  induction k with
  | zero => exact te_in
  | succ k ih =>
    intro w a h
    unfold faP
    split
    · next q =>
      have h4 := (isA_of q).2.1
      have h5 := ih true (a + 1) (by omega)
      dsimp only
      omega
    · split
      · next q =>
        have h4 := (isA_of q).2.1
        have h5 := an_in (T := T) ih true (a + 1) (by omega)
        have h6 := tk_le (T := T) (c := nI 41) (w := (anP (faP T sz Nm k) T sz true (a + 1)).1) h5.2
        dsimp only
        omega
      · exact te_in w a h
/-- signs one behind the other -/
def wdP (T : I1) (sz : Nat) : List Int32 → Bool → Nat → Bool × Nat
  | [], w, a => (w, a)
  | c :: cs, w, a => wdP T sz cs (tkP T sz c w a).1 (tkP T sz c w a).2
theorem wd_le {T : I1} {sz : Nat} : ∀ (cs : List Int32) (w : Bool) (a : Nat), a ≤ sz → a ≤ (wdP T sz cs w a).2 ∧ (wdP T sz cs w a).2 ≤ sz := by
  intro cs
  induction cs with
  | nil => intro w a h; exact ⟨Nat.le_refl a, h⟩
  | cons c cs ih =>
    intro w a h
    have h1 := tk_le (T := T) (c := c) (w := w) h
    have h2 := ih (tkP T sz c w a).1 (tkP T sz c w a).2 h1.2
    unfold wdP
    omega
def wFirm : List Int32 := [nI 102, nI 105, nI 114, nI 109, nI 32]
def wWeak : List Int32 := [nI 119, nI 101, nI 97, nI 107, nI 32]
def wRub : List Int32 := [nI 114, nI 117, nI 98, nI 32]
/-- well so far, the place, the steps, the sum, the rub, within -/
abbrev CR : Type := Bool × Nat × List (Int32 × Int32) × Int32 × Int32 × Nat
/-- a clause behind its first word: firm, weak -/
def csP (T : I1) (sz : Nat) (Nm : I1) (ws : List Int32) (firm : Bool) (a : Nat) (S Rb : Int32) : CR :=
  let t := wdP T sz ws true a
  let u := nuP T sz t.1 t.2
  let t2 := tkP T sz (nI 32) u.1 u.2.1
  let r := anP (faP T sz Nm 4) T sz t2.1 t2.2
  (r.1, r.2.1, r.2.2.1 ++ [(nI 21, if firm = true then u.2.2 else -u.2.2)], S + (if r.2.2.2 = true then (if firm = true then u.2.2 else -u.2.2) else nI 0), Rb, 0)
def crP (T : I1) (sz : Nat) (a : Nat) (S : Int32) (d : Nat) : CR :=
  let t := wdP T sz wRub true a
  let u := nuP T sz t.1 t.2
  (u.1, u.2.1, [], S, u.2.2, d)
def clP (T : I1) (sz : Nat) (Nm : I1) (w : Bool) (a : Nat) (S Rb : Int32) (d : Nat) : CR :=
  if lsP T sz w a mBeg 3 = -1 then (false, a, [], S, Rb, d)
  else if lsP T sz w a mBeg 3 = nI 0 then csP T sz Nm wFirm true a S Rb
  else if lsP T sz w a mBeg 3 = nI 1 then csP T sz Nm wWeak false a S Rb
  else crP T sz a S d
theorem cs_in {T : I1} {sz : Nat} {Nm : I1} {ws : List Int32} {firm : Bool} {a : Nat} {S Rb : Int32} (h : a ≤ sz) : a ≤ (csP T sz Nm ws firm a S Rb).2.1 ∧ (csP T sz Nm ws firm a S Rb).2.1 ≤ sz := by
  have h1 := wd_le (T := T) ws true a h
  have h2 := nu_le (T := T) (w := (wdP T sz ws true a).1) h1.2
  have h3 := tk_le (T := T) (c := nI 32) (w := (nuP T sz (wdP T sz ws true a).1 (wdP T sz ws true a).2).1) h2.2
  have h4 := an_in (fa_in (T := T) (Nm := Nm) 4) (T := T) (tkP T sz (nI 32) (nuP T sz (wdP T sz ws true a).1 (wdP T sz ws true a).2).1 (nuP T sz (wdP T sz ws true a).1 (wdP T sz ws true a).2).2.1).1 _ h3.2
  unfold csP
  dsimp only
  omega
theorem cr_in {T : I1} {sz : Nat} {a d : Nat} {S : Int32} (h : a ≤ sz) : a ≤ (crP T sz a S d).2.1 ∧ (crP T sz a S d).2.1 ≤ sz := by
  have h1 := wd_le (T := T) wRub true a h
  have h2 := nu_le (T := T) (w := (wdP T sz wRub true a).1) h1.2
  unfold crP
  dsimp only
  omega
theorem cl_in {T : I1} {sz : Nat} {Nm : I1} {w : Bool} {a d : Nat} {S Rb : Int32} (h : a ≤ sz) : a ≤ (clP T sz Nm w a S Rb d).2.1 ∧ (clP T sz Nm w a S Rb d).2.1 ≤ sz := by
  unfold clP
  split
  · exact ⟨Nat.le_refl a, h⟩
  · split
    · exact cs_in h
    · split
      · exact cs_in h
      · exact cr_in h
/-- clauses with ; between -/
def ctP (T : I1) (sz : Nat) (Nm : I1) : Nat → CR → CR
  | 0, r => r
  | f + 1, r => if isA T sz r.1 r.2.1 (nI 59) = true then
      ctP T sz Nm f ((clP T sz Nm true (r.2.1 + 1) r.2.2.2.1 r.2.2.2.2.1 r.2.2.2.2.2).1, (clP T sz Nm true (r.2.1 + 1) r.2.2.2.1 r.2.2.2.2.1 r.2.2.2.2.2).2.1, r.2.2.1 ++ (clP T sz Nm true (r.2.1 + 1) r.2.2.2.1 r.2.2.2.2.1 r.2.2.2.2.2).2.2.1, (clP T sz Nm true (r.2.1 + 1) r.2.2.2.1 r.2.2.2.2.1 r.2.2.2.2.2).2.2.2)
    else r
def raP (T : I1) (sz : Nat) (Nm : I1) (S : Int32) (d : Nat) : CR := ctP T sz Nm 9 (clP T sz Nm true 0 S (nI 3) d)
theorem ct_in {T : I1} {sz : Nat} {Nm : I1} : ∀ (f : Nat) (r : CR), r.2.1 ≤ sz → (ctP T sz Nm f r).2.1 ≤ sz := by
  intro f
  induction f with
  | zero => intro r h; exact h
  | succ f ih =>
    intro r h
    unfold ctP
    split
    · next q =>
      have h4 := (isA_of q).2.1
      exact ih _ (cl_in (by omega)).2
    · exact h
theorem ra_in {T : I1} {sz : Nat} {Nm : I1} {S : Int32} {d : Nat} : (raP T sz Nm S d).2.1 ≤ sz := ct_in 9 _ (cl_in (Nat.zero_le sz)).2
/-- whether there is nothing else -/
def okP (r : CR) (sz : Nat) : Bool := r.1 && decide (r.2.1 = sz)
theorem ok_t {r : CR} {sz : Nat} (h : r.1 = true) (h2 : r.2.1 = sz) : okP r sz = true := by simp only [okP, h, h2, decide_true, Bool.and_true]
theorem ok_f {r : CR} {sz : Nat} (h : ¬ r.1 = true ∨ ¬ r.2.1 = sz) : ¬ okP r sz = true := by
  intro q
  simp only [okP, Bool.and_eq_true, decide_eq_true_eq] at q
  rcases h with h | h
  · exact h q.1
  · exact h q.2
