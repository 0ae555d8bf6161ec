/-! days, over the reference's row of numbers -/
def mn9 (x : Int32) : Int32 := if x < nI 9 then x else nI 9
def gdV (A : I1) (i s : Nat) (S : Int32) : Int32 :=
  if A (9 * i + 0) = nI 1 then S + A (9 * i + 1)
  else if A (9 * i + 0) = nI 2 then S / nI 2
  else if A (9 * i + 0) = nI 3 then S + mn9 (A (9 * i + 3) / nI 5)
  else if A (9 * i + 0) = nI 4 then (if A (9 * i + 2) < nI 50 then S + A (9 * i + 1) else nI 2 * (S + A (9 * i + 1)))
  else if A (9 * i + 0) = nI 5 then S / nI 2 + nI 10
  else if A (9 * i + 0) = nI 6 then S + mn9 (A (9 * i + 3) / nI 5) + A (9 * i + (5 + s % 4)) - nI 4
  else S
theorem gd1 {A : I1} {i s : Nat} {S : Int32} (h : A (9 * i + 0) = nI 1) : gdV A i s S = S + A (9 * i + 1) := by
  unfold gdV
  rw [if_pos h]
theorem gd2 {A : I1} {i s : Nat} {S : Int32} (h : A (9 * i + 0) = nI 2) : gdV A i s S = S / nI 2 := by
  unfold gdV
  rw [if_neg (by rw [h]; decide), if_pos h]
theorem gd3 {A : I1} {i s : Nat} {S : Int32} (h : A (9 * i + 0) = nI 3) : gdV A i s S = S + mn9 (A (9 * i + 3) / nI 5) := by
  unfold gdV
  rw [if_neg (by rw [h]; decide), if_neg (by rw [h]; decide), if_pos h]
theorem gd4 {A : I1} {i s : Nat} {S : Int32} (h : A (9 * i + 0) = nI 4) : gdV A i s S = (if A (9 * i + 2) < nI 50 then S + A (9 * i + 1) else nI 2 * (S + A (9 * i + 1))) := by
  unfold gdV
  rw [if_neg (by rw [h]; decide), if_neg (by rw [h]; decide), if_neg (by rw [h]; decide), if_pos h]
theorem gd5 {A : I1} {i s : Nat} {S : Int32} (h : A (9 * i + 0) = nI 5) : gdV A i s S = S / nI 2 + nI 10 := by
  unfold gdV
  rw [if_neg (by rw [h]; decide), if_neg (by rw [h]; decide), if_neg (by rw [h]; decide), if_neg (by rw [h]; decide), if_pos h]
theorem gd6 {A : I1} {i s : Nat} {S : Int32} (h : A (9 * i + 0) = nI 6) : gdV A i s S = S + mn9 (A (9 * i + 3) / nI 5) + A (9 * i + (5 + s % 4)) - nI 4 := by
  unfold gdV
  rw [if_neg (by rw [h]; decide), if_neg (by rw [h]; decide), if_neg (by rw [h]; decide), if_neg (by rw [h]; decide), if_neg (by rw [h]; decide), if_pos h]
theorem gd0 {A : I1} {i s : Nat} {S : Int32} (h : ∀ k, k < 6 → A (9 * i + 0) ≠ nI (1 + k)) : gdV A i s S = S := by
  unfold gdV
  rw [if_neg (h 0 (by omega)), if_neg (h 1 (by omega)), if_neg (h 2 (by omega)), if_neg (h 3 (by omega)), if_neg (h 4 (by omega)), if_neg (h 5 (by omega))]
def guR (rules sizes A : I1) (i s : Nat) : Int32 := gdV A i s (evR rules sizes A i (nI s)).1
def ruR (rules sizes A : I1) : Int32 := (evR rules sizes A 0 (nI 0)).2
def mn99 (x : Int32) : Int32 := if x < nI 99 then x else nI 99
def mx0 (x : Int32) : Int32 := if nI 0 < x then x else nI 0
def mnT (x : Int32) : Int32 := if x < nI 9999 then x else nI 9999
/-- one strikes -/
def skA (rules sizes : I1) (rub : Int32) (A : I1) (s i : Nat) : I1 :=
  let b := mx0 (mn99 (A (54 + 3 * s + 0) - guR rules sizes A i s))
  let A1 := upd A (9 * i + 4) (mnT (A (9 * i + 4) + b))
  let A2 := upd A1 (9 * i + 3) (mnT (A1 (9 * i + 3) + nI 1))
  upd A2 (9 * i + 2) (mx0 (A2 (9 * i + 2) - rub))
def stB (A : I1) (s : Nat) : Bool := decide (¬ A (54 + 3 * s + 2) = -1) && decide (A 80 - A 80 / A (54 + 3 * s + 1) * A (54 + 3 * s + 1) = 0)
theorem stB_of {A : I1} {s : Nat} (h : stB A s = true) : ¬ A (54 + 3 * s + 2) = -1 ∧ A 80 - A 80 / A (54 + 3 * s + 1) * A (54 + 3 * s + 1) = 0 := by
  simpa only [stB, Bool.and_eq_true, decide_eq_true_eq] using h
theorem stB_t {A : I1} {s : Nat} (h : ¬ A (54 + 3 * s + 2) = -1) (h2 : A 80 - A 80 / A (54 + 3 * s + 1) * A (54 + 3 * s + 1) = 0) : stB A s = true := by
  simp only [stB, Bool.and_eq_true, decide_eq_true_eq]; exact ⟨h, h2⟩
def dyS (rules sizes : I1) (rub : Int32) : Nat → I1 → I1 := fun s B => if stB B s = true then skA rules sizes rub B s (ix (B (54 + 3 * s + 2))) else B
def dyL (rules sizes : I1) (rub : Int32) (m : Nat) (A : I1) : I1 := itr (dyS rules sizes rub) m A
/-- a DAY -/
def dyA (rules sizes : I1) (m : Nat) (A : I1) : I1 := upd (dyL rules sizes (ruR rules sizes A) m A) 80 (dyL rules sizes (ruR rules sizes A) m A 80 + nI 1)
def dsA (rules sizes : I1) (m k : Nat) (A : I1) : I1 := itr (fun _ B => dyA rules sizes m B) k A
/-- what holds of the world's part -/
def WI (A : I1) (n m : Nat) : Prop := A 78 = nI n ∧ n ≤ 6 ∧ A 79 = nI m ∧ m ≤ 8 ∧ (∀ s, s < m → ¬ A (54 + 3 * s + 1) = 0) ∧ (∀ s, s < m → A (54 + 3 * s + 2) = -1 ∨ ∃ i, i < n ∧ A (54 + 3 * s + 2) = nI i)
theorem WI_hi {A B : I1} {n m : Nat} (h : ∀ k, 54 ≤ k → k ≠ 80 → B k = A k) (hA : WI A n m) : WI B n m := by
  obtain ⟨h1, h2, h3, h4, h5, h6⟩ := hA
  refine ⟨by rw [h 78 (by omega) (by omega)]; exact h1, h2, by rw [h 79 (by omega) (by omega)]; exact h3, h4, fun s hs => ?_, fun s hs => ?_⟩
  · rw [h _ (by omega) (by omega)]; exact h5 s hs
  · rw [h _ (by omega) (by omega)]; exact h6 s hs
theorem RuI_hi {sizes A B : I1} (h : B 81 = A 81) (hA : RuI sizes A) : RuI sizes B := by
  obtain ⟨q, h1, h2, h3⟩ := hA
  exact ⟨q, h1, h.trans h2, h3⟩
theorem skA_hi {rules sizes : I1} {rub : Int32} {A : I1} {s i k : Nat} (hi : i < 6) (hk : 54 ≤ k) : skA rules sizes rub A s i k = A k := by
  unfold skA
  simp only [upd]
  rw [if_neg (by omega), if_neg (by omega), if_neg (by omega)]
theorem dyS_hi {rules sizes : I1} {rub : Int32} {A : I1} {n m s : Nat} (hW : WI A n m) (hs : s < m) {k : Nat} (hk : 54 ≤ k) : dyS rules sizes rub s A k = A k := by
  unfold dyS
  split
  · next q =>
    rcases hW.2.2.2.2.2 s hs with h | ⟨i, hi, h⟩
    · exact absurd h (stB_of q).1
    · rw [h]
      have := hW.2.1
      exact skA_hi (by rw [ix_nI (by omega)]; omega) hk
  · rfl
theorem dyL_hi {rules sizes : I1} {rub : Int32} {A : I1} {n m : Nat} (hW : WI A n m) : ∀ j, j ≤ m → ∀ k, 54 ≤ k → dyL rules sizes rub j A k = A k := by
  intro j
  induction j with
  | zero => intro _ k _; rfl
  | succ j ih =>
    intro hj k hk
    have hB : WI (dyL rules sizes rub j A) n m := WI_hi (fun k hk _ => ih (by omega) k hk) hW
    exact (dyS_hi hB (by omega) hk).trans (ih (by omega) k hk)
theorem dyA_hi {rules sizes : I1} {A : I1} {n m : Nat} (hW : WI A n m) {k : Nat} (hk : 54 ≤ k) (h80 : k ≠ 80) : dyA rules sizes m A k = A k := by
  unfold dyA
  rw [upd, if_neg h80]
  exact dyL_hi hW m (Nat.le_refl m) k hk
theorem dsA_hi {rules sizes : I1} {A : I1} {n m : Nat} (hW : WI A n m) : ∀ j k, 54 ≤ k → k ≠ 80 → dsA rules sizes m j A k = A k := by
  intro j
  induction j with
  | zero => intro k _ _; rfl
  | succ j ih =>
    intro k hk h80
    have hB : WI (dsA rules sizes m j A) n m := WI_hi (fun k hk h => ih k hk h) hW
    exact (dyA_hi hB hk h80).trans (ih k hk h80)
theorem dsA_W {rules sizes : I1} {A : I1} {n m j : Nat} (hW : WI A n m) : WI (dsA rules sizes m j A) n m := WI_hi (dsA_hi hW j) hW
/-- the sum over those that there are -/
def alR (A : I1) (w : Nat) (n : Nat) : Int32 := itr (fun i r => r + A (9 * i + w)) n (nI 0)
