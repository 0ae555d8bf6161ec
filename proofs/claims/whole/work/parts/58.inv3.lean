/-! tapes, cities, the trace: what ties them; the relation between two calls -/
theorem zI_at {it : Nat → Int64} {t : Nat} : ∀ (k p : Nat), zI it t k p = if 60 * t ≤ p ∧ p < 60 * t + k then 0 else it p := by
  intro k
  induction k with
  | zero => intro p; rw [if_neg (by omega)]; rfl
  | succ k ih =>
    intro p
    show vp_updL (zI it t k) (60 * t + k) 0 p = _
    unfold vp_updL
    by_cases h : p = 60 * t + k
    · rw [if_pos h, if_pos (by omega)]
    · rw [if_neg h, ih p]
      by_cases h2 : 60 * t ≤ p ∧ p < 60 * t + k
      · rw [if_pos h2, if_pos (by omega)]
      · rw [if_neg h2, if_neg (by omega)]
/-- a tape's length -/
theorem SpR.len {sp : SPt} {so le : I1} {it : Nat → Int64} (h : SpR sp so le it) (t : Int32) : ∃ c, c ≤ 60 ∧ ∀ j, t = nI j → j < 6 → le j = nI c := by
  by_cases q : inN t 6 = true
  · obtain ⟨j, hj, rfl⟩ := InN_nat (by omega) q
    obtain ⟨-, -, -, -, ⟨c, c1, c2⟩, -⟩ := h j hj
    refine ⟨c, c1, fun k hk hk6 => ?_⟩
    rw [(nI_eq (by omega) (by omega)).mp hk.symm]
    exact c2
  · exact ⟨0, by omega, fun j hj hj6 => absurd (by rw [hj]; exact InN_of (by omega) hj6) q⟩
theorem SpR.lens {sp : SPt} {so le : I1} {it : Nat → Int64} (h : SpR sp so le it) : ∀ t, t < 6 → ∃ c, c ≤ 60 ∧ le t = nI c := fun t ht => (h t ht).2.2.2.2.1
theorem SpR.stn {sp : SPt} {so le : I1} {it : Nat → Int64} {t c : Nat} {s x : Int32} (h : SpR sp so le it) (hs : s = -1 ∨ ∃ k, k < 5 ∧ s = nI k) (hc : c ≤ 60) (hx : x = nI c) (h0 : s = -1 → x = nI 0) : SpR (st9 sp t s x) (upd so t s) (upd le t x) (zI it t 60) := by
  intro j hj
  obtain ⟨a1, a2, a3, a4, a5, a6⟩ := h j hj
  unfold st9
  by_cases e : j = t
  · subst e
    refine ⟨?_, ?_, fun y hy => ?_, ?_, ?_, fun q => ?_⟩
    · simp [va_up, upd]
    · simp [va_up, upd]
    · rw [zI_at, if_pos (by omega)]
      simp [va_up, laZ, mixL, hy]
    · simp only [upd, if_true]; exact hs
    · simp only [upd, if_true]; exact ⟨c, hc, hx⟩
    · simp only [upd, if_true] at q ⊢; exact h0 q
  · simp only [va_up, upd, if_neg e]
    refine ⟨a1, a2, fun y hy => ?_, a4, a5, a6⟩
    rw [zI_at, if_neg (by omega)]
    exact a3 y hy
theorem SpR.tape {sp : SPt} {so le : I1} {it mo : Nat → Int64} {t s n : Int32} (h : SpR sp so le it) : SpR (tpS sp t s n) (tapeT so le it mo t s n).1 (tapeT so le it mo t s n).2.1 (tapeT so le it mo t s n).2.2.1 := by
  unfold tpS tapeT
  by_cases h1 : inN t 6 = true
  · rw [if_pos h1, if_pos h1]
    by_cases h2 : inR s (-1) (nI 4) = true
    · rw [if_pos h2, if_pos h2]
      have q := InR_iff.mp h2
      by_cases h3 : s < 0
      · rw [if_pos h3, if_pos h3]
        have e : s = -1 := Decidable.byContradiction (fun z => s_neg q.1 z h3)
        exact h.stn (Or.inl e) (by omega) rfl (fun _ => rfl)
      · rw [if_neg h3, if_neg h3]
        obtain ⟨k, hk, ek⟩ := nI_of h3
        have hk5 : k < 5 := by
          have q2 := q.2
          rw [ek] at q2
          rcases Nat.lt_or_ge 4 k with z | z
          · exact absurd (nI_lt z hk) q2
          · omega
        by_cases h4 : n ≤ nI 60
        · rw [if_pos h4, if_pos h4]
          by_cases h5 : 0 ≤ n
          · rw [if_pos h5, if_pos h5]
            obtain ⟨c, hc, ec⟩ := nI_of (show ¬ n < 0 from Int32.not_lt.mpr h5)
            rw [ec] at h4
            refine h.stn (Or.inr ⟨k, hk5, ek⟩) ((nI_leI hc (by omega)).mp h4) ec (fun z => ?_)
            exact absurd (ek.symm.trans z) (nI_m1 hk)
          · rw [if_neg h5, if_neg h5]; exact h
        · rw [if_neg h4, if_neg h4]; exact h
    · rw [if_neg h2, if_neg h2]; exact h
  · rw [if_neg h1, if_neg h1]; exact h
theorem SpR.item {sp : SPt} {so le : I1} {it : Nat → Int64} {t i : Int32} {v : Int64} {c : Nat} (h : SpR sp so le it) (hl : ∀ j, t = nI j → j < 6 → le j = nI c) (hc : c ≤ 60) : SpR (itS sp t i v) so le (itemI so c it t i v) := by
  unfold itS itemI
  by_cases h1 : inN t 6 = true
  · rw [if_pos h1, if_pos h1]
    obtain ⟨j0, hj0, rfl⟩ := InN_nat (by omega) h1
    rw [ix_k (by omega)]
    obtain ⟨b1, b2, b3, b4, b5, b6⟩ := h j0 hj0
    have el := hl j0 rfl hj0
    rw [b1, b2, el, ix_k (by omega)]
    by_cases h2 : 0 ≤ so j0
    · rw [if_pos h2, if_pos h2]
      by_cases h3 : inN i c = true
      · rw [if_pos h3, if_pos h3]
        obtain ⟨i0, hi0, rfl⟩ := InN_nat (by omega) h3
        rw [ix_k (by omega)]
        intro j hj
        obtain ⟨a1, a2, a3, a4, a5, a6⟩ := h j hj
        refine ⟨a1, a2, fun y hy => ?_, a4, a5, a6⟩
        unfold vp_updL va_up
        dsimp only
        by_cases e : j = j0
        · subst e
          rw [if_pos rfl]
          by_cases e2 : y = i0
          · subst e2; rw [if_pos rfl, if_pos rfl]
          · rw [if_neg e2, if_neg (by omega)]; exact a3 y hy
        · rw [if_neg e, if_neg (by omega)]
          exact a3 y hy
      · rw [if_neg h3, if_neg h3]; exact h
    · rw [if_neg h2, if_neg h2]; exact h
  · rw [if_neg h1, if_neg h1]; exact h
theorem SpR.shift {sp : SPt} {so le : I1} {it mo : Nat → Int64} {t i o j n : Int32} (h : SpR sp so le it) : SpR (shS sp t i o j n) (shT so le it mo t i o j n).1 (shT so le it mo t i o j n).2.1 (shT so le it mo t i o j n).2.2.1 := by
  unfold shS shT
  by_cases h1 : inN t 6 = true
  · rw [if_pos h1, if_pos h1]
    by_cases h2 : inN o 6 = true
    · rw [if_pos h2, if_pos h2]
      obtain ⟨t0, ht0, rfl⟩ := InN_nat (by omega) h1
      obtain ⟨o0, ho0, rfl⟩ := InN_nat (by omega) h2
      rw [ix_k (by omega), ix_k (by omega)]
      obtain ⟨b1, b2, b3, b4, ⟨ct, ct1, ct2⟩, b6⟩ := h t0 ht0
      obtain ⟨d1, d2, d3, d4, ⟨co, co1, co2⟩, d6⟩ := h o0 ho0
      rw [b1, b2, d1, d2]
      by_cases g1 : so t0 < 0
      · rw [if_pos g1, if_pos g1]; exact h
      · rw [if_neg g1, if_neg g1]
        by_cases g2 : 0 ≤ so o0
        · rw [if_pos g2, if_pos g2]
          by_cases g3 : so t0 = so o0
          · rw [if_pos g3, if_pos g3]
            by_cases g4 : n < 0
            · rw [if_pos g4, if_pos g4]; exact h
            · rw [if_neg g4, if_neg g4]
              by_cases g5 : i < 0
              · rw [if_pos g5, if_pos g5]; exact h
              · rw [if_neg g5, if_neg g5]
                by_cases g6 : j < 0
                · rw [if_pos g6, if_pos g6]; exact h
                · rw [if_neg g6, if_neg g6]
                  by_cases g7 : le t0 - i < n
                  · rw [if_pos g7, if_pos g7]; exact h
                  · rw [if_neg g7, if_neg g7]
                    by_cases g8 : n ≤ le o0 - j
                    · rw [if_pos g8, if_pos g8]
                      obtain ⟨n0, hn0, rfl⟩ := nI_of g4
                      obtain ⟨i0, hi0, rfl⟩ := nI_of g5
                      obtain ⟨j0, hj0, rfl⟩ := nI_of g6
                      rw [ct2] at g7
                      rw [co2] at g8
                      have r1 := sub_nlt (by omega) hi0 hn0 g7
                      have r2 := sub_kle (by omega) hj0 hn0 g8
                      rw [ix_k (by omega), ix_k (by omega), ix_k (by omega)]
                      intro k hk
                      obtain ⟨a1, a2, a3, a4, a5, a6⟩ := h k hk
                      refine ⟨a1, a2, fun y hy => ?_, a4, a5, a6⟩
                      unfold putL va_up va_cpy
                      dsimp only
                      by_cases e : k = o0
                      · subst e
                        rw [if_pos rfl]
                        by_cases e2 : j0 ≤ y ∧ y < j0 + n0
                        · rw [if_pos e2, if_pos (by omega), b3 _ (by omega)]
                          congr 1
                          omega
                        · rw [if_neg e2, if_neg (by omega)]
                          exact a3 y hy
                      · rw [if_neg e, if_neg (by omega)]
                        exact a3 y hy
                    · rw [if_neg g8, if_neg g8]; exact h
          · rw [if_neg g3, if_neg g3]; exact h
        · rw [if_neg g2, if_neg g2]; exact h
    · rw [if_neg h2, if_neg h2]; exact h
  · rw [if_neg h1, if_neg h1]; exact h
/-- a city more -/
theorem rc_cg {T T1 : I1} {z : Nat} (h : ∀ k, k < z → T k = T1 k) : rcP T z = rcP T1 z := by
  unfold rcP
  rw [ra_cg h]
theorem CtR.add {ct z : CTt} {rules sizes T : I1} {r t : Nat} (h : CtR ct rules sizes r) (ht : t ≤ 100) (hok : okP (rcP T t) t = true) (hO : MkO ct z (r + 1) t (rcP T t)) : CtR z (putI rules (100 * r) T t) (upd sizes r (nI t)) (r + 1) := by
  obtain ⟨h1, h2, h3⟩ := h
  obtain ⟨o1, o2⟩ := hO
  obtain ⟨-, -, o5, o6⟩ := o1 0 (by omega)
  refine ⟨o5.trans h1, o6.trans h2, fun q hq => ?_⟩
  by_cases e : q = r
  · subst e
    have hc : rcP (rulT (putI rules (100 * q) T t) q) t = rcP T t := by
      refine rc_cg (fun k hk => ?_)
      unfold rulT putI
      rw [if_pos (by omega), Nat.add_sub_cancel_left]
    refine ⟨t, ht, if_pos rfl, by rw [hc]; exact hok, ?_⟩
    rw [hc]
    exact o2 hok
  · obtain ⟨y, y1, y2, y3, y4⟩ := h3 q (by omega)
    have hc : rcP (rulT (putI rules (100 * r) T t) q) y = rcP (rulT rules q) y := by
      refine rc_cg (fun k hk => ?_)
      unfold rulT putI
      rw [if_neg (by omega)]
    obtain ⟨p1, p2, p3, p4⟩ := o1 (q + 1) (by omega)
    refine ⟨y, y1, ?_, by rw [hc]; exact y3, ?_⟩
    · rw [upd, if_neg e]; exact y2
    · rw [hc]
      unfold CtK at y4 ⊢
      rw [p1, p2, p3, p4]
      exact y4
theorem act_n {A T : I1} {n : Nat} {p a x : Int32} : (actQ A T n p a x).2.2 ≤ 12 := by
  unfold actQ
  split
  · split
    · split
      · exact Nat.le_trans nodsF_n (by show 0 + 2 ≤ 12; omega)
      · split
        · exact Nat.le_trans knocksF_n (by show 0 + 5 ≤ 12; omega)
        · exact Nat.le_trans tellsF_n (by show 0 + 12 ≤ 12; omega)
    · exact Nat.zero_le _
  · exact Nat.zero_le _
/-- one world of the class, its hand, and the reference's row -/
def OR (r : Nat) (b : I1) (q : Nat) (rw : RWt) (h : Nat) (A : I1) : Prop := ∃ n m c0 c1 c2 c3, q ≤ r ∧ Wd b A n m q ∧ Hd rw h A n m c0 c1 c2 c3
/-- what ties the class's cells to the reference's between two calls -/
def INV (h0 : HZ) (ct : CTt) (rd : RDt) (B : I2) (cy : Nat → Nat) (rw : RWt) (tl : TLt) (sp : SPt) (now : I1) (th : I1 × Int32) (tx : TXt) (tr : I1 × Int32) (tp : TPt) (r t : Nat) : Prop :=
  (r ≤ 6 ∧ t ≤ 100 ∧ h0.1 = nI r ∧ tx.2.2.2.2 = nI r ∧ CtR ct tx.2.2.1 tx.2.2.2.1 r) ∧ (rd.2.1 = nI t ∧ tx.2.1 = nI t ∧ rd.1 = tx.1 ∧ ∀ j, j < t → ∃ c, c < 128 ∧ tx.1 j = nI c) ∧ OR r (B 0) (cy 0) rw 0 now ∧ (h0.2 = th.2 ∧ (th.2 = nI 0 ∨ th.2 = nI 1 ∧ OR r (B 2) (cy 2) rw 1 th.1)) ∧ (tl = tr ∧ ∃ k, k < 2 ^ 31 ∧ tr.2 = nI k) ∧ SpR sp tp.1 tp.2.1 tp.2.2.1
/-- the heap between two calls -/
def ST (g : GG) (PH : PHp) : Prop := ∃ h0 ct cl rd B cy rw tl sp now mind th tx q cv hu tr tp r t, INV h0 ct rd B cy rw tl sp now th tx tr tp r t ∧ PH = jn (hC g h0 ct cl rd B cy rw tl sp) (hM g now mind th tx (zS q cv hu) tr tp)
