/-! what the calls answer, over the reference's row of numbers -/
/-- n steps, numbered -/
def itr {σ : Type} (f : Nat → σ → σ) : Nat → σ → σ
  | 0, a => a
  | n + 1, a => f n (itr f n a)
theorem itr_s {σ : Type} (f : Nat → σ → σ) (n : Nat) (a : σ) : itr f (n + 1) a = f n (itr f n a) := rfl
def inR (v lo hi : Int32) : Bool := decide (¬ v < lo ∧ ¬ hi < v)
def inN (v : Int32) (n : Nat) : Bool := decide (¬ v < nI 0 ∧ v < nI n)
theorem InR_iff {v lo hi : Int32} : inR v lo hi = true ↔ ¬ v < lo ∧ ¬ hi < v := decide_eq_true_iff
theorem InN_iff {v : Int32} {n : Nat} : inN v n = true ↔ ¬ v < nI 0 ∧ v < nI n := decide_eq_true_iff
/-- a number as a place -/
def ix (v : Int32) : Nat := v.toNatClampNeg
theorem ix_nI {i : Nat} (h : i < 2 ^ 31) : ix (nI i) = i := nI_clamp h
theorem InN_nat {v : Int32} {n : Nat} (hn : n < 2 ^ 31) (h : inN v n = true) : ∃ j, j < n ∧ v = nI j := by
  replace h := InN_iff.mp h
  obtain ⟨j, hj, rfl⟩ := nI_of (show ¬ v < 0 from h.1)
  exact ⟨j, (nI_ltI hj hn).mp h.2, rfl⟩
theorem InN_of {j n : Nat} (hn : n < 2 ^ 31) (h : j < n) : inN (nI j) n = true := InN_iff.mpr ⟨nI_pos (by omega), nI_lt h hn⟩
theorem InR_nat {v : Int32} {a b : Nat} (ha : a < 2 ^ 31) (hb : b < 2 ^ 31) (h : inR v (nI a) (nI b) = true) : ∃ j, a ≤ j ∧ j ≤ b ∧ v = nI j := by
  replace h := InR_iff.mp h
  have h0 : ¬ v < 0 := fun q => h.1 (by
    rw [Int32.lt_iff_toInt_lt] at q ⊢
    rw [nI_toInt ha]
    have : (0 : Int32).toInt = 0 := rfl
    omega)
  obtain ⟨j, hj, rfl⟩ := nI_of h0
  refine ⟨j, ?_, ?_, rfl⟩
  · rcases Nat.lt_or_ge j a with q | q
    · exact absurd (nI_lt q ha) h.1
    · exact q
  · rcases Nat.lt_or_ge b j with q | q
    · exact absurd (nI_lt q hj) h.2
    · exact q
theorem InR_of {j a b : Nat} (hj : j < 2 ^ 31) (ha : a ≤ j) (hb : j ≤ b) (h2 : b < 2 ^ 31) : inR (nI j) (nI a) (nI b) = true := InR_iff.mpr ⟨nI_nlt ha hj, nI_nlt hb h2⟩
/-- below n, by the number of them less one -/
theorem InR_InN {v : Int32} {n : Nat} (hn : n < 2 ^ 31) : inR v (nI 0) (nI n - nI 1) = true ↔ inN v n = true := by
  rw [InR_iff]
  constructor
  · rintro ⟨h1, h2⟩
    rw [InN_iff]
    refine ⟨h1, ?_⟩
    obtain ⟨j, hj, rfl⟩ := nI_of (show ¬ v < 0 from h1)
    cases n with
    | zero => exact absurd (show nI 0 - nI 1 < nI j by
        rw [Int32.lt_iff_toInt_lt, nI_toInt hj, show (nI 0 - nI 1).toInt = -1 by decide]; omega) h2
    | succ m =>
      rw [show nI (m + 1) - nI 1 = nI m from pk_sub (a := m + 1) (b := 1) (by omega)] at h2
      rcases Nat.lt_or_ge m j with q | q
      · exact absurd (nI_lt q hj) h2
      · exact nI_lt (by omega) hn
  · rintro h
    obtain ⟨j, hj, rfl⟩ := InN_nat hn h
    refine ⟨(InN_iff.mp h).1, ?_⟩
    rw [show nI n - nI 1 = nI (n - 1) from pk_sub (a := n) (b := 1) (by omega)]
    exact nI_nlt (by omega) (by omega)
def cpy (a b : I1) : I1 := fun k => if k < 152 then a k else b k
def noN (x : Int32) : Int32 := if x = -1 then -5 else x
