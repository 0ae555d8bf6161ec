/-! numbers stay within bounds; a wearer's days hang on its own numbers alone; the least set to mend -/
theorem mnT_n {a : Nat} (h : a < 2 ^ 31) : mnT (nI a) = nI (min a 9999) := by
  unfold mnT
  by_cases q : a < 9999
  · rw [if_pos (nI_lt q (by omega)), Nat.min_eq_left (by omega)]
  · rw [if_neg (nI_nlt (by omega) h), Nat.min_eq_right (by omega)]
theorem bite_n (x : Int32) : ∃ t, t ≤ 99 ∧ mx0 (mn99 x) = nI t := by
  unfold mx0
  by_cases h : nI 0 < mn99 x
  · rw [if_pos h]
    have hz : ¬ mn99 x < 0 := by
      intro z
      have q1 := Int32.lt_iff_toInt_lt.mp h
      have q2 := Int32.lt_iff_toInt_lt.mp z
      have e0 : (nI 0).toInt = 0 := by decide
      have e1 : (0 : Int32).toInt = 0 := by decide
      omega
    obtain ⟨t, ht, e⟩ := nI_of hz
    refine ⟨t, ?_, e⟩
    unfold mn99 at e
    split at e
    · next q => rw [e] at q; have := (nI_ltI ht (by omega)).mp q; omega
    · have := (nI_eq (a := 99) (by omega) ht).mp e; omega
  · rw [if_neg h]; exact ⟨0, by omega, rfl⟩
/-- a hurt is one -/
def HB (A : I1) (i h : Nat) : Prop := A (9 * i + 4) = nI h ∧ h ≤ 9999
theorem hb_S {rules sizes : I1} {rub : Int32} {A : I1} {n m s i h : Nat} (hW : WI A n m) (hs : s < m) (hi : i < n) (hH : HB A i h) : ∃ h1, h ≤ h1 ∧ HB (dyS rules sizes rub s A) i h1 := by
  unfold dyS
  split
  · next q =>
    rcases hW.2.2.2.2.2 s hs with e | ⟨j, hj, e⟩
    · exact absurd e (stB_of q).1
    · have hn := hW.2.1
      rw [e, ix_k (by omega)]
      by_cases hij : i = j
      · subst hij
        obtain ⟨t, ht, et⟩ := bite_n (A (54 + 3 * s + 0) - guR rules sizes A i s)
        refine ⟨min (h + t) 9999, ?_, ?_, Nat.min_le_right _ _⟩
        · rw [Nat.min_def]; split <;> have := hH.2 <;> omega
        · unfold skA
          simp only [upd]
          rw [if_neg (by omega), if_neg (by omega), if_pos trivial, hH.1, et, nI_add, mnT_n (by have := hH.2; omega)]
      · refine ⟨h, Nat.le_refl _, ?_, hH.2⟩
        rw [skA_o (by omega) (by omega) (by omega)]
        exact hH.1
  · exact ⟨h, Nat.le_refl _, hH⟩
theorem hb_L {rules sizes : I1} {rub : Int32} {A : I1} {n m i h : Nat} (hW : WI A n m) (hi : i < n) (hH : HB A i h) : ∀ j, j ≤ m → ∃ h1, h ≤ h1 ∧ HB (dyL rules sizes rub j A) i h1 := by
  intro j
  induction j with
  | zero => intro _; exact ⟨h, Nat.le_refl _, hH⟩
  | succ j ih =>
    intro hj
    obtain ⟨h1, q1, q2⟩ := ih (by omega)
    obtain ⟨h2, q3, q4⟩ := hb_S (rules := rules) (sizes := sizes) (rub := rub) (WI_hi (fun k hk _ => dyL_hi hW j (by omega) k hk) hW) (s := j) (by omega) hi q2
    exact ⟨h2, by omega, q4⟩
theorem hb_N {rules sizes : I1} {A : I1} {n m i h : Nat} (hW : WI A n m) (hi : i < n) (hH : HB A i h) : ∀ k, ∃ h1, h ≤ h1 ∧ HB (dsA rules sizes m k A) i h1 := by
  intro k
  induction k with
  | zero => exact ⟨h, Nat.le_refl _, hH⟩
  | succ k ih =>
    obtain ⟨h1, q1, q2⟩ := ih
    obtain ⟨h2, q3, q4⟩ := hb_L (rules := rules) (sizes := sizes) (rub := ruR rules sizes (dsA rules sizes m k A)) (dsA_W hW) hi q2 m (Nat.le_refl m)
    refine ⟨h2, by omega, ?_, q4.2⟩
    have hn := hW.2.1
    show upd _ 80 _ (9 * i + 4) = _
    rw [upd, if_neg (by omega)]
    exact q4.1
/-- the class's row of a row -/
def clR (A : I1) (m : Nat) : I1 := fun k => if 54 ≤ k ∧ k < 54 + 3 * m ∧ k % 3 = 2 then noN (A k) else A k
theorem cl_T {P : Nat → Prop} {A D : I1} {n m : Nat} (hn : n ≤ 6) (hm : m ≤ 8) (h : ∀ i, i < n → P i → ∀ c, c < 9 → A (9 * i + c) = D (9 * i + c)) (h2 : ∀ k, 54 ≤ k → A k = D k) : TR P (clR A m) D n m := by
  refine ⟨fun i hi hP c hc => ?_, fun s hs => ⟨?_, ?_, ?_⟩, ?_⟩
  · rw [clR, if_neg (by omega)]
    exact h i hi hP c hc
  · rw [clR, if_neg (by omega)]; exact h2 _ (by omega)
  · rw [clR, if_neg (by omega)]; exact h2 _ (by omega)
  · rw [clR, if_pos (by omega), h2 _ (by omega)]
  · rw [clR, if_neg (by omega)]; exact h2 _ (by omega)
theorem ds_cg {ct : CTt} {rules sizes A D : I1} {n m r q i : Nat} (hA : SH ct rules sizes A n m r q) (hD : SH ct rules sizes D n m r q) (hi : i < n) (h : ∀ c, c < 9 → A (9 * i + c) = D (9 * i + c)) (h2 : ∀ k, 54 ≤ k → A k = D k) (k : Nat) : ∀ c, c < 9 → dsA rules sizes m k A (9 * i + c) = dsA rules sizes m k D (9 * i + c) := by
  have hn := hA.1.2.1
  have hm := hA.1.2.2.2.1
  have t1 := goN_T hA.2.2.2.2.2 hA.2.2.2.2.1 hA.2.2.2.1 hA.2.2.1 (cl_T (P := fun j => j = i) hn hm (fun _ _ _ _ _ => rfl) (fun _ _ => rfl) : TR (fun j => j = i) (clR A m) A n m) hA.1 hA.2.1 (Who.one (p := i) (by omega)) k
  have t2 := goN_T hD.2.2.2.2.2 hD.2.2.2.2.1 hD.2.2.2.1 hD.2.2.1 (cl_T (P := fun j => j = i) hn hm (fun j _ e c hc => by rw [e]; exact h c hc) h2 : TR (fun j => j = i) (clR A m) D n m) hD.1 hD.2.1 (Who.one (p := i) (by omega)) k
  intro c hc
  rw [← t1.1 i hi rfl c hc, ← t2.1 i hi rfl c hc]
/-- sets as numbers -/
def nbF (u : Nat → Bool) (j : Nat) : Nat := itr (fun p x => if u p = true then x + 2 ^ p else x) j 0
def mbF (u : Nat → Bool) (j : Nat) : Int32 := itr (fun p x => if u p = true then x ||| nI 1 <<< (nI p &&& 31) else x) j (nI 0)
theorem nb_lt {u : Nat → Bool} : ∀ j, nbF u j < 2 ^ j := by
  intro j
  induction j with
  | zero => exact Nat.one_pos
  | succ j ih =>
    have e := Nat.pow_succ 2 j
    show (if u j = true then nbF u j + 2 ^ j else nbF u j) < 2 ^ (j + 1)
    split <;> omega
theorem or_p : ∀ p, p < 6 → ∀ x, x < 2 ^ p → nI x ||| nI 1 <<< (nI p &&& 31) = nI (x + 2 ^ p) := by decide +kernel
theorem mb_nb {u : Nat → Bool} : ∀ j, j ≤ 6 → mbF u j = nI (nbF u j) := by
  intro j
  induction j with
  | zero => intro _; rfl
  | succ j ih =>
    intro hj
    show (if u j = true then mbF u j ||| nI 1 <<< (nI j &&& 31) else mbF u j) = nI (if u j = true then nbF u j + 2 ^ j else nbF u j)
    rw [ih (by omega)]
    split
    · exact or_p j (by omega) _ (nb_lt j)
    · rfl
theorem tb_p : ∀ p, p < 6 → ∀ x, x < 2 ^ p → ∀ i, i < 6 → (x + 2 ^ p).testBit i = (decide (i = p) || x.testBit i) := by decide +kernel
theorem tb_0 : ∀ p, p < 6 → ∀ x, x < 2 ^ p → ∀ i, i < 6 → p ≤ i → x.testBit i = false := by decide +kernel
theorem nb_bit {u : Nat → Bool} : ∀ j, j ≤ 6 → ∀ i, i < 6 → (nbF u j).testBit i = (decide (i < j) && u i) := by
  intro j
  induction j with
  | zero => intro _ i _; exact Nat.zero_testBit i
  | succ j ih =>
    intro hj i hi
    show (if u j = true then nbF u j + 2 ^ j else nbF u j).testBit i = _
    by_cases h : u j = true
    · rw [if_pos h, tb_p j (by omega) _ (nb_lt j) i hi, ih (by omega) i hi]
      by_cases e : i = j
      · subst e
        simp [h]
      · simp [e, show i < j + 1 ↔ i < j by omega]
    · rw [if_neg h, ih (by omega) i hi]
      by_cases e : i = j
      · subst e
        simp [h]
      · simp [show i < j + 1 ↔ i < j by omega]
def pcN (x : Nat) : Nat := x % 2 + x / 2 % 2 + x / 4 % 2 + x / 8 % 2 + x / 16 % 2 + x / 32 % 2
theorem mn_pc : ∀ x, x < 64 → mnF (nI x) 6 = nI (pcN x) := by decide +kernel
theorem bit_tb : ∀ x, x < 64 → ∀ i, i < 6 → bitS x i = x.testBit i := by decide +kernel
theorem sub_pc : ∀ x, x < 64 → ∀ y, y < 64 → (∀ i, i < 6 → x.testBit i = true → y.testBit i = true) → y = x ∨ pcN x < pcN y := by decide +kernel
theorem pc_le : ∀ x, x < 64 → pcN x ≤ 6 := by decide +kernel
theorem and_0 : ∀ x, x < 64 → ∀ y, y < 64 → (nI x &&& nI y = 0 ↔ ∀ i, i < 6 → ¬ (x.testBit i = true ∧ y.testBit i = true)) := by decide +kernel
theorem md_eq {rules sizes A : I1} {n m k : Nat} {u v : Nat → Bool} (hn : n ≤ 6) (hv : ∀ S, S < 2 ^ n → (alR (dsA rules sizes m k (mcA A S n)) 4 n ≤ alR A 4 n ↔ ∀ i, i < n → ((S.testBit i = true → v i = false) ∧ (S.testBit i = false → u i = false)))) : mdF rules sizes A n m k (2 ^ n) = if nI (nbF u n) &&& nI (nbF v n) = 0 then nI (nbF u n) else -5 := by
  have h64 : 2 ^ n ≤ 64 := Nat.pow_le_pow_right (by omega) hn
  have hN := nb_lt (u := u) n
  have hV := nb_lt (u := v) n
  have hbn : ∀ S, S < 2 ^ n → ∀ i, i < 6 → n ≤ i → S.testBit i = false := by
    intro S hS i hi hni
    exact tb_0 n (by omega) S hS i hi hni
  by_cases hc : nI (nbF u n) &&& nI (nbF v n) = 0
  · rw [if_pos hc]
    have h0 := (and_0 _ (by omega) _ (by omega)).mp hc
    have hval : ∀ i, i < n → (((nbF u n).testBit i = true → v i = false) ∧ ((nbF u n).testBit i = false → u i = false)) := by
      intro i hi
      have e1 := nb_bit (u := u) n hn i (by omega)
      have e2 := nb_bit (u := v) n hn i (by omega)
      rw [decide_eq_true hi, Bool.true_and] at e1 e2
      refine ⟨fun h => ?_, fun h => by rw [← e1]; exact h⟩
      rcases Bool.eq_false_or_eq_true (v i) with q | q
      · exact absurd ⟨h, e2.trans q⟩ (h0 i (by omega))
      · exact q
    have hsup : ∀ S, S < 2 ^ n → (∀ i, i < n → ((S.testBit i = true → v i = false) ∧ (S.testBit i = false → u i = false))) → S = nbF u n ∨ pcN (nbF u n) < pcN S := by
      intro S hS h
      refine sub_pc _ (by omega) S (by omega) (fun i hi hb => ?_)
      have e1 := nb_bit (u := u) n hn i hi
      rw [hb] at e1
      have e3 : i < n ∧ u i = true := by simpa using e1.symm
      rcases Bool.eq_false_or_eq_true (S.testBit i) with q | q
      · exact q
      · have := (h i e3.1).2 q
        rw [e3.2] at this
        exact absurd this (by decide)
    have key : ∀ j, j ≤ 2 ^ n → (j ≤ nbF u n → mdF rules sizes A n m k j = -5 ∨ ∃ S, S < j ∧ mdF rules sizes A n m k j = nI S ∧ pcN (nbF u n) < pcN S) ∧ (nbF u n < j → mdF rules sizes A n m k j = nI (nbF u n)) := by
      intro j
      induction j with
      | zero => intro _; exact ⟨fun _ => Or.inl rfl, fun h => absurd h (by omega)⟩
      | succ j ih =>
        intro hj
        obtain ⟨i1, i2⟩ := ih (by omega)
        have es : mdF rules sizes A n m k (j + 1) = mdS rules sizes A n m k j (mdF rules sizes A n m k j) := rfl
        have hvj := hv j (by omega)
        rw [es]
        unfold mdS
        refine ⟨fun h => ?_, fun h => ?_⟩
        · rcases i1 (by omega) with e | ⟨S, hS, e, hp⟩
          · rw [e, if_pos (Or.inl rfl)]
            split
            · next q =>
              rcases hsup j (by omega) (hvj.mp q) with e2 | e2
              · omega
              · exact Or.inr ⟨j, by omega, rfl, e2⟩
            · exact Or.inl rfl
          · rw [e]
            split
            · split
              · next q =>
                rcases hsup j (by omega) (hvj.mp q) with e2 | e2
                · omega
                · exact Or.inr ⟨j, by omega, rfl, e2⟩
              · exact Or.inr ⟨S, by omega, rfl, hp⟩
            · exact Or.inr ⟨S, by omega, rfl, hp⟩
        · by_cases hj2 : j = nbF u n
          · subst hj2
            have hq := hvj.mpr hval
            rcases i1 (Nat.le_refl _) with e | ⟨S, hS, e, hp⟩
            · rw [e, if_pos (Or.inl rfl), if_pos hq]
            · rw [e, if_pos (Or.inr (by rw [mn_pc _ (by omega), mn_pc _ (by omega)]; exact nI_lt hp (by have := pc_le S (by omega); omega))), if_pos hq]
          · rw [i2 (by omega)]
            split
            · next q =>
              rw [if_neg]
              intro z
              rcases hsup j (by omega) (hvj.mp z) with e2 | e2
              · exact hj2 e2
              · rcases q with q | q
                · exact nI_m1 (show nbF u n < 2 ^ 31 by omega) (absurd q (fun z => absurd (nI_pos (show nbF u n < 2 ^ 31 by omega)) (fun y => y (by rw [z]; decide))))
                · rw [mn_pc _ (by omega), mn_pc _ (by omega)] at q
                  have l1 := pc_le j (by omega)
                  have l2 := pc_le (nbF u n) (by omega)
                  have := (nI_ltI (by omega) (by omega)).mp q
                  omega
            · rfl
    exact (key (2 ^ n) (Nat.le_refl _)).2 hN
  · rw [if_neg hc]
    have hex : ∃ i, i < n ∧ u i = true ∧ v i = true := by
      refine Classical.byContradiction (fun hno => hc ((and_0 _ (by omega) _ (by omega)).mpr (fun i hi hb => hno ?_)))
      have e1 := nb_bit (u := u) n hn i hi
      have e2 := nb_bit (u := v) n hn i hi
      rw [hb.1] at e1
      rw [hb.2] at e2
      have e3 : i < n ∧ u i = true := by simpa using e1.symm
      have e4 : i < n ∧ v i = true := by simpa using e2.symm
      exact ⟨i, e3.1, e3.2, e4.2⟩
    obtain ⟨i, hi, hu, hvi⟩ := hex
    have key : ∀ j, j ≤ 2 ^ n → mdF rules sizes A n m k j = -5 := by
      intro j
      induction j with
      | zero => intro _; rfl
      | succ j ih =>
        intro hj
        have es : mdF rules sizes A n m k (j + 1) = mdS rules sizes A n m k j (mdF rules sizes A n m k j) := rfl
        rw [es, ih (by omega), mdS, if_pos (Or.inl rfl), if_neg]
        intro z
        have h := (hv j (by omega)).mp z i hi
        rcases Bool.eq_false_or_eq_true (j.testBit i) with q | q
        · have := h.1 q; rw [hvi] at this; exact absurd this (by decide)
        · have := h.2 q; rw [hu] at this; exact absurd this (by decide)
    exact key _ (Nat.le_refl _)
/-- sums of numbers within bounds -/
def sN (h : Nat → Nat) (n : Nat) : Nat := itr (fun i r => r + h i) n 0
theorem al_s {A : I1} {w n : Nat} {h : Nat → Nat} (hA : ∀ i, i < n → A (9 * i + w) = nI (h i)) : alR A w n = nI (sN h n) := by
  have key : ∀ j, j ≤ n → alR A w j = nI (sN h j) := by
    intro j
    induction j with
    | zero => intro _; rfl
    | succ j ih =>
      intro hj
      show alR A w j + A (9 * j + w) = nI (sN h j + h j)
      rw [ih (by omega), hA j (by omega), nI_add]
  exact key n (Nat.le_refl n)
theorem s_le {h : Nat → Nat} {n M : Nat} (hh : ∀ i, i < n → h i ≤ M) : sN h n ≤ M * n := by
  have key : ∀ j, j ≤ n → sN h j ≤ M * j := by
    intro j
    induction j with
    | zero => intro _; exact Nat.zero_le _
    | succ j ih =>
      intro hj
      have h1 := ih (by omega)
      have h2 := hh j (by omega)
      rw [Nat.mul_succ]
      show sN h j + h j ≤ _
      omega
  exact key n (Nat.le_refl n)
theorem s_mono {h g : Nat → Nat} {n : Nat} (hh : ∀ i, i < n → h i ≤ g i) : (sN g n ≤ sN h n ↔ ∀ i, i < n → g i = h i) ∧ sN h n ≤ sN g n := by
  have key : ∀ j, j ≤ n → (sN g j ≤ sN h j ↔ ∀ i, i < j → g i = h i) ∧ sN h j ≤ sN g j := by
    intro j
    induction j with
    | zero => intro _; exact ⟨⟨fun _ i hi => absurd hi (Nat.not_lt_zero i), fun _ => Nat.le_refl _⟩, Nat.le_refl _⟩
    | succ j ih =>
      intro hj
      obtain ⟨h1, h2⟩ := ih (by omega)
      have h3 := hh j (by omega)
      refine ⟨⟨fun z i hi => ?_, fun z => ?_⟩, ?_⟩
      · have h4 : sN g j + g j ≤ sN h j + h j := z
        by_cases e : i = j
        · subst e; omega
        · exact h1.mp (by omega) i (by omega)
      · show sN g j + g j ≤ sN h j + h j
        have h4 := h1.mpr (fun i hi => z i (by omega))
        have h5 := z j (by omega)
        omega
      · show sN h j + h j ≤ sN g j + g j
        omega
  exact key n (Nat.le_refl n)
/-- all covers at 99 -/
def c9A (A : I1) (j : Nat) : I1 := itr (fun i B => upd B (9 * i + 2) (nI 99)) j A
theorem c9_o {A : I1} : ∀ j k, (∀ i, i < j → k ≠ 9 * i + 2) → c9A A j k = A k := by
  intro j
  induction j with
  | zero => intro k _; rfl
  | succ j ih =>
    intro k h
    show upd (c9A A j) (9 * j + 2) (nI 99) k = A k
    rw [upd, if_neg (h j (by omega))]
    exact ih k (fun i hi => h i (by omega))
theorem c9_at {A : I1} : ∀ j i, i < j → c9A A j (9 * i + 2) = nI 99 := by
  intro j
  induction j with
  | zero => intro i h; exact absurd h (Nat.not_lt_zero i)
  | succ j ih =>
    intro i h
    show upd (c9A A j) (9 * j + 2) (nI 99) (9 * i + 2) = nI 99
    rw [upd]
    split
    · rfl
    · exact ih i (by omega)
theorem mc_at {A : I1} {S : Nat} : ∀ j i, i < j → mcA A S j (9 * i + 2) = if bitS S i = true then nI 99 else A (9 * i + 2) := by
  intro j
  induction j with
  | zero => intro i h; exact absurd h (Nat.not_lt_zero i)
  | succ j ih =>
    intro i h
    show upd (mcA A S j) (9 * j + 2) (if bitS S j = true then nI 99 else mcA A S j (9 * j + 2)) (9 * i + 2) = _
    rw [upd]
    by_cases e : i = j
    · subst e; rw [if_pos rfl, mcA_at]
    · rw [if_neg (by omega)]; exact ih i (by omega)
theorem md_T {ct : CTt} {rules sizes A : I1} {n m r q k : Nat} (hS : SH ct rules sizes A n m r q) (hH : ∀ i, i < n → ∃ h, HB A i h) : mdF rules sizes A n m k (2 ^ n) = if nI (nbF (fun i => decide (¬ dsA rules sizes m k A (9 * i + 4) ≤ A (9 * i + 4))) n) &&& nI (nbF (fun i => decide (¬ dsA rules sizes m k (c9A A n) (9 * i + 4) ≤ A (9 * i + 4))) n) = 0 then nI (nbF (fun i => decide (¬ dsA rules sizes m k A (9 * i + 4) ≤ A (9 * i + 4))) n) else -5 := by
  have hn := hS.1.2.1
  refine md_eq hn (fun S hSn => ?_)
  have h64 : 2 ^ n ≤ 64 := Nat.pow_le_pow_right (by omega) hn
  have hm9 : SH ct rules sizes (mcA A S n) n m r q := hS.lo (fun k hk _ => mcA_hi hn hk)
  have hc9 : SH ct rules sizes (c9A A n) n m r q := hS.lo (fun k hk _ => c9_o n k (fun i hi => by omega))
  obtain ⟨h, hh⟩ := Classical.axiomOfChoice (fun i : Nat => show ∃ h, i < n → HB A i h from by
    by_cases hi : i < n
    · obtain ⟨h, e⟩ := hH i hi; exact ⟨h, fun _ => e⟩
    · exact ⟨0, fun z => absurd z hi⟩)
  have hmc : ∀ i, i < n → HB (mcA A S n) i (h i) := fun i hi => ⟨by rw [mcA_o n _ (fun j hj => by omega)]; exact (hh i hi).1, (hh i hi).2⟩
  obtain ⟨g, hg⟩ := Classical.axiomOfChoice (fun i : Nat => show ∃ g, i < n → h i ≤ g ∧ HB (dsA rules sizes m k (mcA A S n)) i g from by
    by_cases hi : i < n
    · obtain ⟨g, e⟩ := hb_N (rules := rules) (sizes := sizes) hm9.1 hi (hmc i hi) k; exact ⟨g, fun _ => e⟩
    · exact ⟨0, fun z => absurd z hi⟩)
  rw [al_s (fun i hi => (hg i hi).2.1), al_s (fun i hi => (hh i hi).1)]
  have b1 := s_le (h := g) (n := n) (M := 9999) (fun i hi => (hg i hi).2.2)
  have b2 := s_le (h := h) (n := n) (M := 9999) (fun i hi => (hh i hi).2)
  rw [nI_leI (by omega) (by omega), (s_mono (fun i hi => (hg i hi).1)).1]
  have hle : ∀ i, i < n → (dsA rules sizes m k (mcA A S n) (9 * i + 4) ≤ A (9 * i + 4) ↔ g i = h i) := by
    intro i hi
    have l1 := hg i hi
    have l2 := hh i hi
    rw [l1.2.1, l2.1, nI_leI (by have := l1.2.2; omega) (by have := l2.2; omega)]
    omega
  have hcase : ∀ i, i < n → (S.testBit i = true → dsA rules sizes m k (mcA A S n) (9 * i + 4) = dsA rules sizes m k (c9A A n) (9 * i + 4)) ∧ (S.testBit i = false → dsA rules sizes m k (mcA A S n) (9 * i + 4) = dsA rules sizes m k A (9 * i + 4)) := by
    intro i hi
    have eb := bit_tb S (by omega) i (by omega)
    constructor
    · intro hb
      refine ds_cg hm9 hc9 hi (fun c hc => ?_) (fun k hk => by rw [mcA_hi hn hk, c9_o n k (fun i hi => by omega)]) k 4 (by omega)
      by_cases e : c = 2
      · subst e; rw [mc_at n i hi, if_pos (eb.trans hb), c9_at n i hi]
      · rw [mcA_o n _ (fun j hj => by omega), c9_o n _ (fun j hj => by omega)]
    · intro hb
      refine ds_cg hm9 hS hi (fun c hc => ?_) (fun k hk => mcA_hi hn hk) k 4 (by omega)
      by_cases e : c = 2
      · subst e; rw [mc_at n i hi, if_neg (by rw [eb, hb]; decide)]
      · rw [mcA_o n _ (fun j hj => by omega)]
  constructor
  · intro hz i hi
    have hz1 := (hle i hi).mpr (hz i hi)
    refine ⟨fun hb => ?_, fun hb => ?_⟩
    · rw [(hcase i hi).1 hb] at hz1
      exact decide_eq_false (fun z => z hz1)
    · rw [(hcase i hi).2 hb] at hz1
      exact decide_eq_false (fun z => z hz1)
  · intro hz i hi
    refine (hle i hi).mp ?_
    rcases Bool.eq_false_or_eq_true (S.testBit i) with q | q
    · rw [(hcase i hi).1 q]
      exact Decidable.not_not.mp (of_decide_eq_false ((hz i hi).1 q))
    · rw [(hcase i hi).2 q]
      exact Decidable.not_not.mp (of_decide_eq_false ((hz i hi).2 q))
/-- the greatest number up to j that divides both -/
def lgd (a b : Nat) : Nat → Nat
  | 0 => 1
  | j + 1 => if a % (j + 1) = 0 ∧ b % (j + 1) = 0 then j + 1 else lgd a b j
theorem lgd_c {a b : Nat} : ∀ j, 1 ≤ lgd a b j ∧ a % lgd a b j = 0 ∧ b % lgd a b j = 0 ∧ ∀ d, 1 ≤ d → d ≤ j → a % d = 0 → b % d = 0 → d ≤ lgd a b j := by
  intro j
  induction j with
  | zero => exact ⟨Nat.le_refl 1, Nat.mod_one a, Nat.mod_one b, fun d h1 h2 => by omega⟩
  | succ j ih =>
    unfold lgd
    split
    · next h => exact ⟨by omega, h.1, h.2, fun d _ h2 _ _ => h2⟩
    · next h =>
      refine ⟨ih.1, ih.2.1, ih.2.2.1, fun d h1 h2 h3 h4 => ?_⟩
      by_cases e : d = j + 1
      · subst e; exact absurd ⟨h3, h4⟩ h
      · exact ih.2.2.2 d h1 (by omega) h3 h4
theorem lgd_gcd {a b : Nat} (hb : 0 < b) : lgd a b b = Nat.gcd a b := by
  obtain ⟨h1, h2, h3, h4⟩ := lgd_c (a := a) (b := b) b
  apply Nat.le_antisymm
  · exact Nat.le_of_dvd (Nat.gcd_pos_of_pos_right a hb) (Nat.dvd_gcd (Nat.dvd_of_mod_eq_zero h2) (Nat.dvd_of_mod_eq_zero h3))
  · exact h4 _ (Nat.gcd_pos_of_pos_right a hb) (Nat.le_of_dvd hb (Nat.gcd_dvd_right a b)) (Nat.mod_eq_zero_of_dvd (Nat.gcd_dvd_left a b)) (Nat.mod_eq_zero_of_dvd (Nat.gcd_dvd_right a b))
