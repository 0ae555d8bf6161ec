/-! what the class's cells hold: cities, the reader, three worlds (rows of numbers as the reference has them), hands, the trail, strips -/
abbrev HZ : Type := Int32 × Int32
/-- steps, numbers, stepCount, rub by city -/
abbrev CTt : Type := I2 × I2 × I1 × I1
abbrev RDt : Type := I1 × Int32 × Int32
/-- who, sort, value, count by hand and kind -/
abbrev RWt : Type := (Nat → I2) × (Nat → I2) × (Nat → I2) × I2
abbrev TLt : Type := I1 × Int32
abbrev SPt : Type := (Nat → Nat → Int64) × I1 × I1
def rwN (r : Nat) : Nat := if r < 2 then 5 else if r = 2 then 10 else 8
def hC (g : GG) (h0 : HZ) (ct : CTt) (cl : I2) (rd : RDt) (B : I2) (cy : Nat → Nat) (rw : RWt) (tl : TLt) (sp : SPt) : PHp := fun a => match a with
  | (0, 0, 0) => .inr (9, [rf g (1, 0, 0), rf g (4, 0, 0), rf g (6, 0, 0), rf g (6, 1, 0), rf g (6, 2, 0), rf g (12, 0, 0), rf g (12, 1, 0), rf g (17, 0, 0), rf g (19, 0, 0), .int h0.1, .int h0.2])
  | (1, 0, 0) => aR g 4 6 (fun j => (2, j + 1, 0))
  | (2, c, 0) => .inr (0, [rf g (3, c, 0), rf g (3, c, 1), rf g (3, c, 2), .int (ct.2.2.1 c), .int (ct.2.2.2 c)])
  | (3, c, 0) => aI g 100 (ct.1 c)
  | (3, c, 1) => aI g 100 (ct.2.1 c)
  | (3, c, 2) => aI g 6 (cl c)
  | (4, 0, 0) => .inr (2, [rf g (5, 0, 0), .int rd.2.1, .int rd.2.2])
  | (5, 0, 0) => aB g 100 rd.1
  | (6, w, 0) => .inr (8, [rf g (7, w, 0), rf g (8, w, 0), .int (B w 78), .int (B w 79), .int (B w 80), rf g (2, cy w, 0)])
  | (7, w, 0) => aR g 7 6 (fun j => (9, w, j))
  | (8, w, 0) => aR g 5 8 (fun s => (11, w, s))
  | (9, w, i) => .inr (7, [.int (nI i), rf g (10, w, i), .int (B w (9 * i + 0)), .int (B w (9 * i + 1)), .int (B w (9 * i + 2)), .int (B w (9 * i + 3)), .int (B w (9 * i + 4))])
  | (10, w, i) => aI g 4 (fun j => B w (9 * i + (5 + j)))
  | (11, w, s) => .inr (4, [.int (B w (54 + 3 * s + 0)), .int (B w (54 + 3 * s + 1)), .int (B w (54 + 3 * s + 2))])
  | (12, h, 0) => .inr (1, [rf g (13, h, 0), rf g (13, h, 1), rf g (13, h, 2), rf g (13, h, 3)])
  | (13, h, r) => .inr (3, [rf g (14, h, r), rf g (15, h, r), rf g (16, h, r), .int (rw.2.2.2 h r)])
  | (14, h, r) => aI g (rwN r) (rw.1 h r)
  | (15, h, r) => aI g (rwN r) (rw.2.1 h r)
  | (16, h, r) => aI g (rwN r) (rw.2.2.1 h r)
  | (17, 0, 0) => .inr (6, [rf g (18, 0, 0), .int tl.2])
  | (18, 0, 0) => aI g 20 tl.1
  | (19, 0, 0) => aR g 6 6 (fun t => (20, t, 0))
  | (20, t, 0) => .inr (5, [rf g (21, t, 0), .int (sp.2.1 t), .int (sp.2.2 t)])
  | (21, t, 0) => aL g 60 (sp.1 t)
  | _ => dflt
/-- the addresses that there are -/
def vld (q : VA) : Bool := match q with
  | (9, w, i) => decide (w < 3) && decide (i < 6)
  | (10, w, i) => decide (w < 3) && decide (i < 6)
  | (11, w, s) => decide (w < 3) && decide (s < 8)
  | _ => true
theorem vld_all : vaL.all vld = true := by decide +kernel
theorem vld_of {q : VA} (h : ad q < NN) : vld q = true := by
  have h1 : vaL.idxOf q < vaL.length := by rw [vaL_len]; exact h
  exact List.all_eq_true.mp vld_all q (List.idxOf_lt_length_iff.mp h1)
theorem V.phE {l : Launch} {Γ : Cxt} {g : GG} {nL : Nat} {Q : State → Prop} {cells slots : Nat} {PH PH1 : PHp} {pc : Nat} {lv : List (Option Value)} {st : List Value} (h : ∀ q, vld q = true → PH q = PH1 q) (k : V l Γ g nL Q cells slots NN PH1 pc lv st) : V l Γ g nL Q cells slots NN PH pc lv st := by
  obtain ⟨p, e, R, s, m, args, below, meth, c⟩ := Γ
  intro H locs ls hH hS hL
  refine k H locs ls ⟨hH.1, ?_⟩ hS hL
  have e : wl g PH NN = wl g PH1 NN := by
    unfold wl
    refine List.map_congr_left fun j hj => ?_
    rw [h (vaT j) (vld_of (by rw [ad_vaT j (List.mem_range.mp hj)]; exact List.mem_range.mp hj))]
  rw [← e]
  exact hH.2
def setB (B : I2) (w k : Nat) (x : Int32) : I2 := fun w1 => if w1 = w then upd (B w) k x else B w1
theorem setB_eq {B : I2} {w k : Nat} {x : Int32} : setB B w k x w k = x := by simp [setB, upd]
theorem setB_ne {B : I2} {w k w1 k1 : Nat} {x : Int32} (h : w1 ≠ w ∨ k1 ≠ k) : setB B w k x w1 k1 = B w1 k1 := by
  unfold setB
  split
  · next q => subst q; rw [upd, if_neg (h.resolve_left (fun q => q rfl))]
  · rfl
theorem setB_w {B : I2} {w k : Nat} {x : Int32} : setB B w k x w = upd (B w) k x := if_pos rfl
theorem setB_o {B : I2} {w k w1 : Nat} {x : Int32} (h : w1 ≠ w) : setB B w k x w1 = B w1 := if_neg h

theorem hC_B {g : GG} {h0 : HZ} {ct : CTt} {cl : I2} {rd : RDt} {B B1 : I2} {cy : Nat → Nat} {rw : RWt} {tl : TLt} {sp : SPt} {q : VA}
    (h6 : ∀ w, q = (6, w, 0) → B1 w 78 = B w 78 ∧ B1 w 79 = B w 79 ∧ B1 w 80 = B w 80) (h9 : ∀ w i, q = (9, w, i) → ∀ c, c < 5 → B1 w (9 * i + c) = B w (9 * i + c)) (h10 : ∀ w i, q = (10, w, i) → ∀ c, c < 4 → B1 w (9 * i + (5 + c)) = B w (9 * i + (5 + c))) (h11 : ∀ w s, q = (11, w, s) → ∀ c, c < 3 → B1 w (54 + 3 * s + c) = B w (54 + 3 * s + c)) : (hC g h0 ct cl rd B1 cy rw tl sp) q = (hC g h0 ct cl rd B cy rw tl sp) q := by
  unfold hC
  split <;> first
    | rfl
    | (next w => obtain ⟨e1, e2, e3⟩ := h6 w rfl; rw [e1, e2, e3])
    | (next w i => have e := h9 w i rfl; rw [e 0 (by omega), e 1 (by omega), e 2 (by omega), e 3 (by omega), e 4 (by omega)])
    | (next w i => exact aI_eq (fun j hj => h10 w i rfl j hj))
    | (next w s => have e := h11 w s rfl; rw [e 0 (by omega), e 1 (by omega), e 2 (by omega)])
theorem jn_E {X P P1 : PHp} {a : VA} {e : va_E} (ha : Nat.blt a.1 22 = true) (h : ∀ q, vld q = true → q ≠ a → P1 q = P q) (he : P1 a = e) : ∀ q, vld q = true → up (jn P X) a e q = jn P1 X q := by
  intro q hv
  unfold up jn
  split
  · next h9 => subst h9; rw [ha]; exact he.symm
  · next h9 => rw [h q hv h9]
theorem uC_9_2 {g : GG} {X : PHp} {h0 : HZ} {ct : CTt} {cl : I2} {rd : RDt} {B : I2} {cy : Nat → Nat} {rw : RWt} {tl : TLt} {sp : SPt} {w i : Nat} {v : Int32} (hi : i < 6) : ∀ q, vld q = true → up (jn (hC g h0 ct cl rd B cy rw tl sp) X) (9, w, i) (.inr (7, List.set [.int (nI i), rf g (10, w, i), .int (B w (9 * i + 0)), .int (B w (9 * i + 1)), .int (B w (9 * i + 2)), .int (B w (9 * i + 3)), .int (B w (9 * i + 4))] 2 (.int v))) q = (jn (hC g h0 ct cl rd (setB B w (9 * i + 0) v) cy rw tl sp) X) q := by
  refine jn_E rfl (fun q hv hq => hC_B ?_ ?_ ?_ ?_) ?_
  · rintro w1 rfl
    refine ⟨setB_ne (by first | omega | (left; rintro rfl; exact hq rfl)), setB_ne (by first | omega | (left; rintro rfl; exact hq rfl)), setB_ne (by first | omega | (left; rintro rfl; exact hq rfl))⟩
  · rintro w1 i1 rfl c hc
    have hv1 : w1 < 3 ∧ i1 < 6 := by simpa [vld] using hv
    have h9 : w1 ≠ w ∨ i1 ≠ i := by
      by_cases e1 : w1 = w
      · exact Or.inr (fun e2 => hq (by rw [e1, e2]))
      · exact Or.inl e1
    exact setB_ne (by omega)
  · rintro w1 i1 rfl c hc
    have hv1 : w1 < 3 ∧ i1 < 6 := by simpa [vld] using hv
    exact setB_ne (by omega)
  · rintro w1 i1 rfl c hc
    have hv1 : w1 < 3 ∧ i1 < 8 := by simpa [vld] using hv
    exact setB_ne (by omega)
  · show (.inr (7, [.int (nI i), rf g (10, w, i), .int ((setB B w (9 * i + 0) v) w (9 * i + 0)), .int ((setB B w (9 * i + 0) v) w (9 * i + 1)), .int ((setB B w (9 * i + 0) v) w (9 * i + 2)), .int ((setB B w (9 * i + 0) v) w (9 * i + 3)), .int ((setB B w (9 * i + 0) v) w (9 * i + 4))]) : va_E) = _
    rw [setB_eq, setB_ne (k1 := 9 * i + 1) (by omega), setB_ne (k1 := 9 * i + 2) (by omega), setB_ne (k1 := 9 * i + 3) (by omega), setB_ne (k1 := 9 * i + 4) (by omega)]
    rfl
theorem uC_9_3 {g : GG} {X : PHp} {h0 : HZ} {ct : CTt} {cl : I2} {rd : RDt} {B : I2} {cy : Nat → Nat} {rw : RWt} {tl : TLt} {sp : SPt} {w i : Nat} {v : Int32} (hi : i < 6) : ∀ q, vld q = true → up (jn (hC g h0 ct cl rd B cy rw tl sp) X) (9, w, i) (.inr (7, List.set [.int (nI i), rf g (10, w, i), .int (B w (9 * i + 0)), .int (B w (9 * i + 1)), .int (B w (9 * i + 2)), .int (B w (9 * i + 3)), .int (B w (9 * i + 4))] 3 (.int v))) q = (jn (hC g h0 ct cl rd (setB B w (9 * i + 1) v) cy rw tl sp) X) q := by
  refine jn_E rfl (fun q hv hq => hC_B ?_ ?_ ?_ ?_) ?_
  · rintro w1 rfl
    refine ⟨setB_ne (by first | omega | (left; rintro rfl; exact hq rfl)), setB_ne (by first | omega | (left; rintro rfl; exact hq rfl)), setB_ne (by first | omega | (left; rintro rfl; exact hq rfl))⟩
  · rintro w1 i1 rfl c hc
    have hv1 : w1 < 3 ∧ i1 < 6 := by simpa [vld] using hv
    have h9 : w1 ≠ w ∨ i1 ≠ i := by
      by_cases e1 : w1 = w
      · exact Or.inr (fun e2 => hq (by rw [e1, e2]))
      · exact Or.inl e1
    exact setB_ne (by omega)
  · rintro w1 i1 rfl c hc
    have hv1 : w1 < 3 ∧ i1 < 6 := by simpa [vld] using hv
    exact setB_ne (by omega)
  · rintro w1 i1 rfl c hc
    have hv1 : w1 < 3 ∧ i1 < 8 := by simpa [vld] using hv
    exact setB_ne (by omega)
  · show (.inr (7, [.int (nI i), rf g (10, w, i), .int ((setB B w (9 * i + 1) v) w (9 * i + 0)), .int ((setB B w (9 * i + 1) v) w (9 * i + 1)), .int ((setB B w (9 * i + 1) v) w (9 * i + 2)), .int ((setB B w (9 * i + 1) v) w (9 * i + 3)), .int ((setB B w (9 * i + 1) v) w (9 * i + 4))]) : va_E) = _
    rw [setB_eq, setB_ne (k1 := 9 * i + 0) (by omega), setB_ne (k1 := 9 * i + 2) (by omega), setB_ne (k1 := 9 * i + 3) (by omega), setB_ne (k1 := 9 * i + 4) (by omega)]
    rfl
theorem uC_9_4 {g : GG} {X : PHp} {h0 : HZ} {ct : CTt} {cl : I2} {rd : RDt} {B : I2} {cy : Nat → Nat} {rw : RWt} {tl : TLt} {sp : SPt} {w i : Nat} {v : Int32} (hi : i < 6) : ∀ q, vld q = true → up (jn (hC g h0 ct cl rd B cy rw tl sp) X) (9, w, i) (.inr (7, List.set [.int (nI i), rf g (10, w, i), .int (B w (9 * i + 0)), .int (B w (9 * i + 1)), .int (B w (9 * i + 2)), .int (B w (9 * i + 3)), .int (B w (9 * i + 4))] 4 (.int v))) q = (jn (hC g h0 ct cl rd (setB B w (9 * i + 2) v) cy rw tl sp) X) q := by
  refine jn_E rfl (fun q hv hq => hC_B ?_ ?_ ?_ ?_) ?_
  · rintro w1 rfl
    refine ⟨setB_ne (by first | omega | (left; rintro rfl; exact hq rfl)), setB_ne (by first | omega | (left; rintro rfl; exact hq rfl)), setB_ne (by first | omega | (left; rintro rfl; exact hq rfl))⟩
  · rintro w1 i1 rfl c hc
    have hv1 : w1 < 3 ∧ i1 < 6 := by simpa [vld] using hv
    have h9 : w1 ≠ w ∨ i1 ≠ i := by
      by_cases e1 : w1 = w
      · exact Or.inr (fun e2 => hq (by rw [e1, e2]))
      · exact Or.inl e1
    exact setB_ne (by omega)
  · rintro w1 i1 rfl c hc
    have hv1 : w1 < 3 ∧ i1 < 6 := by simpa [vld] using hv
    exact setB_ne (by omega)
  · rintro w1 i1 rfl c hc
    have hv1 : w1 < 3 ∧ i1 < 8 := by simpa [vld] using hv
    exact setB_ne (by omega)
  · show (.inr (7, [.int (nI i), rf g (10, w, i), .int ((setB B w (9 * i + 2) v) w (9 * i + 0)), .int ((setB B w (9 * i + 2) v) w (9 * i + 1)), .int ((setB B w (9 * i + 2) v) w (9 * i + 2)), .int ((setB B w (9 * i + 2) v) w (9 * i + 3)), .int ((setB B w (9 * i + 2) v) w (9 * i + 4))]) : va_E) = _
    rw [setB_eq, setB_ne (k1 := 9 * i + 0) (by omega), setB_ne (k1 := 9 * i + 1) (by omega), setB_ne (k1 := 9 * i + 3) (by omega), setB_ne (k1 := 9 * i + 4) (by omega)]
    rfl
theorem uC_9_5 {g : GG} {X : PHp} {h0 : HZ} {ct : CTt} {cl : I2} {rd : RDt} {B : I2} {cy : Nat → Nat} {rw : RWt} {tl : TLt} {sp : SPt} {w i : Nat} {v : Int32} (hi : i < 6) : ∀ q, vld q = true → up (jn (hC g h0 ct cl rd B cy rw tl sp) X) (9, w, i) (.inr (7, List.set [.int (nI i), rf g (10, w, i), .int (B w (9 * i + 0)), .int (B w (9 * i + 1)), .int (B w (9 * i + 2)), .int (B w (9 * i + 3)), .int (B w (9 * i + 4))] 5 (.int v))) q = (jn (hC g h0 ct cl rd (setB B w (9 * i + 3) v) cy rw tl sp) X) q := by
  refine jn_E rfl (fun q hv hq => hC_B ?_ ?_ ?_ ?_) ?_
  · rintro w1 rfl
    refine ⟨setB_ne (by first | omega | (left; rintro rfl; exact hq rfl)), setB_ne (by first | omega | (left; rintro rfl; exact hq rfl)), setB_ne (by first | omega | (left; rintro rfl; exact hq rfl))⟩
  · rintro w1 i1 rfl c hc
    have hv1 : w1 < 3 ∧ i1 < 6 := by simpa [vld] using hv
    have h9 : w1 ≠ w ∨ i1 ≠ i := by
      by_cases e1 : w1 = w
      · exact Or.inr (fun e2 => hq (by rw [e1, e2]))
      · exact Or.inl e1
    exact setB_ne (by omega)
  · rintro w1 i1 rfl c hc
    have hv1 : w1 < 3 ∧ i1 < 6 := by simpa [vld] using hv
    exact setB_ne (by omega)
  · rintro w1 i1 rfl c hc
    have hv1 : w1 < 3 ∧ i1 < 8 := by simpa [vld] using hv
    exact setB_ne (by omega)
  · show (.inr (7, [.int (nI i), rf g (10, w, i), .int ((setB B w (9 * i + 3) v) w (9 * i + 0)), .int ((setB B w (9 * i + 3) v) w (9 * i + 1)), .int ((setB B w (9 * i + 3) v) w (9 * i + 2)), .int ((setB B w (9 * i + 3) v) w (9 * i + 3)), .int ((setB B w (9 * i + 3) v) w (9 * i + 4))]) : va_E) = _
    rw [setB_eq, setB_ne (k1 := 9 * i + 0) (by omega), setB_ne (k1 := 9 * i + 1) (by omega), setB_ne (k1 := 9 * i + 2) (by omega), setB_ne (k1 := 9 * i + 4) (by omega)]
    rfl
theorem uC_9_6 {g : GG} {X : PHp} {h0 : HZ} {ct : CTt} {cl : I2} {rd : RDt} {B : I2} {cy : Nat → Nat} {rw : RWt} {tl : TLt} {sp : SPt} {w i : Nat} {v : Int32} (hi : i < 6) : ∀ q, vld q = true → up (jn (hC g h0 ct cl rd B cy rw tl sp) X) (9, w, i) (.inr (7, List.set [.int (nI i), rf g (10, w, i), .int (B w (9 * i + 0)), .int (B w (9 * i + 1)), .int (B w (9 * i + 2)), .int (B w (9 * i + 3)), .int (B w (9 * i + 4))] 6 (.int v))) q = (jn (hC g h0 ct cl rd (setB B w (9 * i + 4) v) cy rw tl sp) X) q := by
  refine jn_E rfl (fun q hv hq => hC_B ?_ ?_ ?_ ?_) ?_
  · rintro w1 rfl
    refine ⟨setB_ne (by first | omega | (left; rintro rfl; exact hq rfl)), setB_ne (by first | omega | (left; rintro rfl; exact hq rfl)), setB_ne (by first | omega | (left; rintro rfl; exact hq rfl))⟩
  · rintro w1 i1 rfl c hc
    have hv1 : w1 < 3 ∧ i1 < 6 := by simpa [vld] using hv
    have h9 : w1 ≠ w ∨ i1 ≠ i := by
      by_cases e1 : w1 = w
      · exact Or.inr (fun e2 => hq (by rw [e1, e2]))
      · exact Or.inl e1
    exact setB_ne (by omega)
  · rintro w1 i1 rfl c hc
    have hv1 : w1 < 3 ∧ i1 < 6 := by simpa [vld] using hv
    exact setB_ne (by omega)
  · rintro w1 i1 rfl c hc
    have hv1 : w1 < 3 ∧ i1 < 8 := by simpa [vld] using hv
    exact setB_ne (by omega)
  · show (.inr (7, [.int (nI i), rf g (10, w, i), .int ((setB B w (9 * i + 4) v) w (9 * i + 0)), .int ((setB B w (9 * i + 4) v) w (9 * i + 1)), .int ((setB B w (9 * i + 4) v) w (9 * i + 2)), .int ((setB B w (9 * i + 4) v) w (9 * i + 3)), .int ((setB B w (9 * i + 4) v) w (9 * i + 4))]) : va_E) = _
    rw [setB_eq, setB_ne (k1 := 9 * i + 0) (by omega), setB_ne (k1 := 9 * i + 1) (by omega), setB_ne (k1 := 9 * i + 2) (by omega), setB_ne (k1 := 9 * i + 3) (by omega)]
    rfl
theorem uC_10 {g : GG} {X : PHp} {h0 : HZ} {ct : CTt} {cl : I2} {rd : RDt} {B : I2} {cy : Nat → Nat} {rw : RWt} {tl : TLt} {sp : SPt} {w i k : Nat} {v : Int32} (hi : i < 6) (hk : k < 4) : ∀ q, vld q = true → up (jn (hC g h0 ct cl rd B cy rw tl sp) X) (10, w, i) (aI g 4 (upd (fun j => B w (9 * i + (5 + j))) k v)) q = (jn (hC g h0 ct cl rd (setB B w (9 * i + (5 + k)) v) cy rw tl sp) X) q := by
  refine jn_E rfl (fun q hv hq => hC_B ?_ ?_ ?_ ?_) ?_
  · rintro w1 rfl
    refine ⟨setB_ne (by first | omega | (left; rintro rfl; exact hq rfl)), setB_ne (by first | omega | (left; rintro rfl; exact hq rfl)), setB_ne (by first | omega | (left; rintro rfl; exact hq rfl))⟩
  · rintro w1 i1 rfl c hc
    have hv1 : w1 < 3 ∧ i1 < 6 := by simpa [vld] using hv
    exact setB_ne (by omega)
  · rintro w1 i1 rfl c hc
    have hv1 : w1 < 3 ∧ i1 < 6 := by simpa [vld] using hv
    have h9 : w1 ≠ w ∨ i1 ≠ i := by
      by_cases e1 : w1 = w
      · exact Or.inr (fun e2 => hq (by rw [e1, e2]))
      · exact Or.inl e1
    exact setB_ne (by omega)
  · rintro w1 i1 rfl c hc
    have hv1 : w1 < 3 ∧ i1 < 8 := by simpa [vld] using hv
    exact setB_ne (by omega)
  · refine aI_eq (fun j hj => ?_)
    by_cases e : j = k
    · subst e; rw [setB_eq]; exact (if_pos rfl).symm
    · rw [setB_ne (by omega)]; exact (if_neg e).symm
theorem uC_11_0 {g : GG} {X : PHp} {h0 : HZ} {ct : CTt} {cl : I2} {rd : RDt} {B : I2} {cy : Nat → Nat} {rw : RWt} {tl : TLt} {sp : SPt} {w i : Nat} {v : Int32} (hi : i < 8) : ∀ q, vld q = true → up (jn (hC g h0 ct cl rd B cy rw tl sp) X) (11, w, i) (.inr (4, List.set [.int (B w (54 + 3 * i + 0)), .int (B w (54 + 3 * i + 1)), .int (B w (54 + 3 * i + 2))] 0 (.int v))) q = (jn (hC g h0 ct cl rd (setB B w (54 + 3 * i + 0) v) cy rw tl sp) X) q := by
  refine jn_E rfl (fun q hv hq => hC_B ?_ ?_ ?_ ?_) ?_
  · rintro w1 rfl
    refine ⟨setB_ne (by first | omega | (left; rintro rfl; exact hq rfl)), setB_ne (by first | omega | (left; rintro rfl; exact hq rfl)), setB_ne (by first | omega | (left; rintro rfl; exact hq rfl))⟩
  · rintro w1 i1 rfl c hc
    have hv1 : w1 < 3 ∧ i1 < 6 := by simpa [vld] using hv
    exact setB_ne (by omega)
  · rintro w1 i1 rfl c hc
    have hv1 : w1 < 3 ∧ i1 < 6 := by simpa [vld] using hv
    exact setB_ne (by omega)
  · rintro w1 i1 rfl c hc
    have hv1 : w1 < 3 ∧ i1 < 8 := by simpa [vld] using hv
    have h9 : w1 ≠ w ∨ i1 ≠ i := by
      by_cases e1 : w1 = w
      · exact Or.inr (fun e2 => hq (by rw [e1, e2]))
      · exact Or.inl e1
    exact setB_ne (by omega)
  · show (.inr (4, [.int ((setB B w (54 + 3 * i + 0) v) w (54 + 3 * i + 0)), .int ((setB B w (54 + 3 * i + 0) v) w (54 + 3 * i + 1)), .int ((setB B w (54 + 3 * i + 0) v) w (54 + 3 * i + 2))]) : va_E) = _
    rw [setB_eq, setB_ne (k1 := 54 + 3 * i + 1) (by omega), setB_ne (k1 := 54 + 3 * i + 2) (by omega)]
    rfl
theorem uC_11_1 {g : GG} {X : PHp} {h0 : HZ} {ct : CTt} {cl : I2} {rd : RDt} {B : I2} {cy : Nat → Nat} {rw : RWt} {tl : TLt} {sp : SPt} {w i : Nat} {v : Int32} (hi : i < 8) : ∀ q, vld q = true → up (jn (hC g h0 ct cl rd B cy rw tl sp) X) (11, w, i) (.inr (4, List.set [.int (B w (54 + 3 * i + 0)), .int (B w (54 + 3 * i + 1)), .int (B w (54 + 3 * i + 2))] 1 (.int v))) q = (jn (hC g h0 ct cl rd (setB B w (54 + 3 * i + 1) v) cy rw tl sp) X) q := by
  refine jn_E rfl (fun q hv hq => hC_B ?_ ?_ ?_ ?_) ?_
  · rintro w1 rfl
    refine ⟨setB_ne (by first | omega | (left; rintro rfl; exact hq rfl)), setB_ne (by first | omega | (left; rintro rfl; exact hq rfl)), setB_ne (by first | omega | (left; rintro rfl; exact hq rfl))⟩
  · rintro w1 i1 rfl c hc
    have hv1 : w1 < 3 ∧ i1 < 6 := by simpa [vld] using hv
    exact setB_ne (by omega)
  · rintro w1 i1 rfl c hc
    have hv1 : w1 < 3 ∧ i1 < 6 := by simpa [vld] using hv
    exact setB_ne (by omega)
  · rintro w1 i1 rfl c hc
    have hv1 : w1 < 3 ∧ i1 < 8 := by simpa [vld] using hv
    have h9 : w1 ≠ w ∨ i1 ≠ i := by
      by_cases e1 : w1 = w
      · exact Or.inr (fun e2 => hq (by rw [e1, e2]))
      · exact Or.inl e1
    exact setB_ne (by omega)
  · show (.inr (4, [.int ((setB B w (54 + 3 * i + 1) v) w (54 + 3 * i + 0)), .int ((setB B w (54 + 3 * i + 1) v) w (54 + 3 * i + 1)), .int ((setB B w (54 + 3 * i + 1) v) w (54 + 3 * i + 2))]) : va_E) = _
    rw [setB_eq, setB_ne (k1 := 54 + 3 * i + 0) (by omega), setB_ne (k1 := 54 + 3 * i + 2) (by omega)]
    rfl
theorem uC_11_2 {g : GG} {X : PHp} {h0 : HZ} {ct : CTt} {cl : I2} {rd : RDt} {B : I2} {cy : Nat → Nat} {rw : RWt} {tl : TLt} {sp : SPt} {w i : Nat} {v : Int32} (hi : i < 8) : ∀ q, vld q = true → up (jn (hC g h0 ct cl rd B cy rw tl sp) X) (11, w, i) (.inr (4, List.set [.int (B w (54 + 3 * i + 0)), .int (B w (54 + 3 * i + 1)), .int (B w (54 + 3 * i + 2))] 2 (.int v))) q = (jn (hC g h0 ct cl rd (setB B w (54 + 3 * i + 2) v) cy rw tl sp) X) q := by
  refine jn_E rfl (fun q hv hq => hC_B ?_ ?_ ?_ ?_) ?_
  · rintro w1 rfl
    refine ⟨setB_ne (by first | omega | (left; rintro rfl; exact hq rfl)), setB_ne (by first | omega | (left; rintro rfl; exact hq rfl)), setB_ne (by first | omega | (left; rintro rfl; exact hq rfl))⟩
  · rintro w1 i1 rfl c hc
    have hv1 : w1 < 3 ∧ i1 < 6 := by simpa [vld] using hv
    exact setB_ne (by omega)
  · rintro w1 i1 rfl c hc
    have hv1 : w1 < 3 ∧ i1 < 6 := by simpa [vld] using hv
    exact setB_ne (by omega)
  · rintro w1 i1 rfl c hc
    have hv1 : w1 < 3 ∧ i1 < 8 := by simpa [vld] using hv
    have h9 : w1 ≠ w ∨ i1 ≠ i := by
      by_cases e1 : w1 = w
      · exact Or.inr (fun e2 => hq (by rw [e1, e2]))
      · exact Or.inl e1
    exact setB_ne (by omega)
  · show (.inr (4, [.int ((setB B w (54 + 3 * i + 2) v) w (54 + 3 * i + 0)), .int ((setB B w (54 + 3 * i + 2) v) w (54 + 3 * i + 1)), .int ((setB B w (54 + 3 * i + 2) v) w (54 + 3 * i + 2))]) : va_E) = _
    rw [setB_eq, setB_ne (k1 := 54 + 3 * i + 0) (by omega), setB_ne (k1 := 54 + 3 * i + 1) (by omega)]
    rfl
theorem uC_6_2 {g : GG} {X : PHp} {h0 : HZ} {ct : CTt} {cl : I2} {rd : RDt} {B : I2} {cy : Nat → Nat} {rw : RWt} {tl : TLt} {sp : SPt} {w : Nat} {v : Int32}  : ∀ q, vld q = true → up (jn (hC g h0 ct cl rd B cy rw tl sp) X) (6, w, 0) (.inr (8, List.set [rf g (7, w, 0), rf g (8, w, 0), .int (B w 78), .int (B w 79), .int (B w 80), rf g (2, cy w, 0)] 2 (.int v))) q = (jn (hC g h0 ct cl rd (setB B w 78 v) cy rw tl sp) X) q := by
  refine jn_E rfl (fun q hv hq => hC_B ?_ ?_ ?_ ?_) ?_
  · rintro w1 rfl
    have h9 : w1 ≠ w := fun e => hq (by rw [e])
    exact ⟨setB_ne (Or.inl h9), setB_ne (Or.inl h9), setB_ne (Or.inl h9)⟩
  · rintro w1 i1 rfl c hc
    have hv1 : w1 < 3 ∧ i1 < 6 := by simpa [vld] using hv
    exact setB_ne (by omega)
  · rintro w1 i1 rfl c hc
    have hv1 : w1 < 3 ∧ i1 < 6 := by simpa [vld] using hv
    exact setB_ne (by omega)
  · rintro w1 i1 rfl c hc
    have hv1 : w1 < 3 ∧ i1 < 8 := by simpa [vld] using hv
    exact setB_ne (by omega)
  · show (.inr (8, [rf g (7, w, 0), rf g (8, w, 0), .int ((setB B w 78 v) w 78), .int ((setB B w 78 v) w 79), .int ((setB B w 78 v) w 80), rf g (2, cy w, 0)]) : va_E) = _
    rw [setB_eq, setB_ne (k1 := 79) (by omega), setB_ne (k1 := 80) (by omega)]
    rfl
theorem uC_6_3 {g : GG} {X : PHp} {h0 : HZ} {ct : CTt} {cl : I2} {rd : RDt} {B : I2} {cy : Nat → Nat} {rw : RWt} {tl : TLt} {sp : SPt} {w : Nat} {v : Int32}  : ∀ q, vld q = true → up (jn (hC g h0 ct cl rd B cy rw tl sp) X) (6, w, 0) (.inr (8, List.set [rf g (7, w, 0), rf g (8, w, 0), .int (B w 78), .int (B w 79), .int (B w 80), rf g (2, cy w, 0)] 3 (.int v))) q = (jn (hC g h0 ct cl rd (setB B w 79 v) cy rw tl sp) X) q := by
  refine jn_E rfl (fun q hv hq => hC_B ?_ ?_ ?_ ?_) ?_
  · rintro w1 rfl
    have h9 : w1 ≠ w := fun e => hq (by rw [e])
    exact ⟨setB_ne (Or.inl h9), setB_ne (Or.inl h9), setB_ne (Or.inl h9)⟩
  · rintro w1 i1 rfl c hc
    have hv1 : w1 < 3 ∧ i1 < 6 := by simpa [vld] using hv
    exact setB_ne (by omega)
  · rintro w1 i1 rfl c hc
    have hv1 : w1 < 3 ∧ i1 < 6 := by simpa [vld] using hv
    exact setB_ne (by omega)
  · rintro w1 i1 rfl c hc
    have hv1 : w1 < 3 ∧ i1 < 8 := by simpa [vld] using hv
    exact setB_ne (by omega)
  · show (.inr (8, [rf g (7, w, 0), rf g (8, w, 0), .int ((setB B w 79 v) w 78), .int ((setB B w 79 v) w 79), .int ((setB B w 79 v) w 80), rf g (2, cy w, 0)]) : va_E) = _
    rw [setB_eq, setB_ne (k1 := 78) (by omega), setB_ne (k1 := 80) (by omega)]
    rfl
theorem uC_6_4 {g : GG} {X : PHp} {h0 : HZ} {ct : CTt} {cl : I2} {rd : RDt} {B : I2} {cy : Nat → Nat} {rw : RWt} {tl : TLt} {sp : SPt} {w : Nat} {v : Int32}  : ∀ q, vld q = true → up (jn (hC g h0 ct cl rd B cy rw tl sp) X) (6, w, 0) (.inr (8, List.set [rf g (7, w, 0), rf g (8, w, 0), .int (B w 78), .int (B w 79), .int (B w 80), rf g (2, cy w, 0)] 4 (.int v))) q = (jn (hC g h0 ct cl rd (setB B w 80 v) cy rw tl sp) X) q := by
  refine jn_E rfl (fun q hv hq => hC_B ?_ ?_ ?_ ?_) ?_
  · rintro w1 rfl
    have h9 : w1 ≠ w := fun e => hq (by rw [e])
    exact ⟨setB_ne (Or.inl h9), setB_ne (Or.inl h9), setB_ne (Or.inl h9)⟩
  · rintro w1 i1 rfl c hc
    have hv1 : w1 < 3 ∧ i1 < 6 := by simpa [vld] using hv
    exact setB_ne (by omega)
  · rintro w1 i1 rfl c hc
    have hv1 : w1 < 3 ∧ i1 < 6 := by simpa [vld] using hv
    exact setB_ne (by omega)
  · rintro w1 i1 rfl c hc
    have hv1 : w1 < 3 ∧ i1 < 8 := by simpa [vld] using hv
    exact setB_ne (by omega)
  · show (.inr (8, [rf g (7, w, 0), rf g (8, w, 0), .int ((setB B w 80 v) w 78), .int ((setB B w 80 v) w 79), .int ((setB B w 80 v) w 80), rf g (2, cy w, 0)]) : va_E) = _
    rw [setB_eq, setB_ne (k1 := 78) (by omega), setB_ne (k1 := 79) (by omega)]
    rfl
theorem uC_0_9 {g : GG} {X : PHp} {h0 : HZ} {ct : CTt} {cl : I2} {rd : RDt} {B : I2} {cy : Nat → Nat} {rw : RWt} {tl : TLt} {sp : SPt} {v : Int32} : ∀ q, vld q = true → up (jn (hC g h0 ct cl rd B cy rw tl sp) X) (0, 0, 0) (.inr (9, List.set [rf g (1, 0, 0), rf g (4, 0, 0), rf g (6, 0, 0), rf g (6, 1, 0), rf g (6, 2, 0), rf g (12, 0, 0), rf g (12, 1, 0), rf g (17, 0, 0), rf g (19, 0, 0), .int h0.1, .int h0.2] 9 (.int v))) q = (jn (hC g (v, h0.2) ct cl rd B cy rw tl sp) X) q := by
  refine jn_E rfl (fun q hv hq => ?_) ?_
  · unfold hC; split <;> first | rfl | exact absurd rfl hq
  · rfl
theorem uC_0_10 {g : GG} {X : PHp} {h0 : HZ} {ct : CTt} {cl : I2} {rd : RDt} {B : I2} {cy : Nat → Nat} {rw : RWt} {tl : TLt} {sp : SPt} {v : Int32} : ∀ q, vld q = true → up (jn (hC g h0 ct cl rd B cy rw tl sp) X) (0, 0, 0) (.inr (9, List.set [rf g (1, 0, 0), rf g (4, 0, 0), rf g (6, 0, 0), rf g (6, 1, 0), rf g (6, 2, 0), rf g (12, 0, 0), rf g (12, 1, 0), rf g (17, 0, 0), rf g (19, 0, 0), .int h0.1, .int h0.2] 10 (.int v))) q = (jn (hC g (h0.1, v) ct cl rd B cy rw tl sp) X) q := by
  refine jn_E rfl (fun q hv hq => ?_) ?_
  · unfold hC; split <;> first | rfl | exact absurd rfl hq
  · rfl
theorem uC_4_1 {g : GG} {X : PHp} {h0 : HZ} {ct : CTt} {cl : I2} {rd : RDt} {B : I2} {cy : Nat → Nat} {rw : RWt} {tl : TLt} {sp : SPt} {v : Int32} : ∀ q, vld q = true → up (jn (hC g h0 ct cl rd B cy rw tl sp) X) (4, 0, 0) (.inr (2, List.set [rf g (5, 0, 0), .int rd.2.1, .int rd.2.2] 1 (.int v))) q = (jn (hC g h0 ct cl (rd.1, v, rd.2.2) B cy rw tl sp) X) q := by
  refine jn_E rfl (fun q hv hq => ?_) ?_
  · unfold hC; split <;> first | rfl | exact absurd rfl hq
  · rfl
theorem uC_4_2 {g : GG} {X : PHp} {h0 : HZ} {ct : CTt} {cl : I2} {rd : RDt} {B : I2} {cy : Nat → Nat} {rw : RWt} {tl : TLt} {sp : SPt} {v : Int32} : ∀ q, vld q = true → up (jn (hC g h0 ct cl rd B cy rw tl sp) X) (4, 0, 0) (.inr (2, List.set [rf g (5, 0, 0), .int rd.2.1, .int rd.2.2] 2 (.int v))) q = (jn (hC g h0 ct cl (rd.1, rd.2.1, v) B cy rw tl sp) X) q := by
  refine jn_E rfl (fun q hv hq => ?_) ?_
  · unfold hC; split <;> first | rfl | exact absurd rfl hq
  · rfl
theorem uC_5 {g : GG} {X : PHp} {h0 : HZ} {ct : CTt} {cl : I2} {rd : RDt} {B : I2} {cy : Nat → Nat} {rw : RWt} {tl : TLt} {sp : SPt} {v : I1} : ∀ q, vld q = true → up (jn (hC g h0 ct cl rd B cy rw tl sp) X) (5, 0, 0) (aB g 100 v) q = (jn (hC g h0 ct cl (v, rd.2.1, rd.2.2) B cy rw tl sp) X) q := by
  refine jn_E rfl (fun q hv hq => ?_) ?_
  · unfold hC; split <;> first | rfl | exact absurd rfl hq
  · rfl
theorem uC_17_1 {g : GG} {X : PHp} {h0 : HZ} {ct : CTt} {cl : I2} {rd : RDt} {B : I2} {cy : Nat → Nat} {rw : RWt} {tl : TLt} {sp : SPt} {v : Int32} : ∀ q, vld q = true → up (jn (hC g h0 ct cl rd B cy rw tl sp) X) (17, 0, 0) (.inr (6, List.set [rf g (18, 0, 0), .int tl.2] 1 (.int v))) q = (jn (hC g h0 ct cl rd B cy rw (tl.1, v) sp) X) q := by
  refine jn_E rfl (fun q hv hq => ?_) ?_
  · unfold hC; split <;> first | rfl | exact absurd rfl hq
  · rfl
theorem uC_18 {g : GG} {X : PHp} {h0 : HZ} {ct : CTt} {cl : I2} {rd : RDt} {B : I2} {cy : Nat → Nat} {rw : RWt} {tl : TLt} {sp : SPt} {v : I1} : ∀ q, vld q = true → up (jn (hC g h0 ct cl rd B cy rw tl sp) X) (18, 0, 0) (aI g 20 v) q = (jn (hC g h0 ct cl rd B cy rw (v, tl.2) sp) X) q := by
  refine jn_E rfl (fun q hv hq => ?_) ?_
  · unfold hC; split <;> first | rfl | exact absurd rfl hq
  · rfl
theorem uC_2_3 {g : GG} {X : PHp} {h0 : HZ} {ct : CTt} {cl : I2} {rd : RDt} {B : I2} {cy : Nat → Nat} {rw : RWt} {tl : TLt} {sp : SPt} {c : Nat} {v : Int32} : ∀ q, vld q = true → up (jn (hC g h0 ct cl rd B cy rw tl sp) X) (2, c, 0) (.inr (0, List.set [rf g (3, c, 0), rf g (3, c, 1), rf g (3, c, 2), .int (ct.2.2.1 c), .int (ct.2.2.2 c)] 3 (.int v))) q = (jn (hC g h0 (ct.1, ct.2.1, va_up ct.2.2.1 c v, ct.2.2.2) cl rd B cy rw tl sp) X) q := by
  refine jn_E rfl (fun q hv hq => ?_) ?_
  · unfold hC; split <;> first | rfl | exact absurd rfl hq | (next c1 => (try dsimp only); rw [va_up_ne _ _ (fun e : c1 = c => hq (by rw [e]))])
  · simp only [hC, va_up, ↓reduceIte] <;> rfl
theorem uC_2_4 {g : GG} {X : PHp} {h0 : HZ} {ct : CTt} {cl : I2} {rd : RDt} {B : I2} {cy : Nat → Nat} {rw : RWt} {tl : TLt} {sp : SPt} {c : Nat} {v : Int32} : ∀ q, vld q = true → up (jn (hC g h0 ct cl rd B cy rw tl sp) X) (2, c, 0) (.inr (0, List.set [rf g (3, c, 0), rf g (3, c, 1), rf g (3, c, 2), .int (ct.2.2.1 c), .int (ct.2.2.2 c)] 4 (.int v))) q = (jn (hC g h0 (ct.1, ct.2.1, ct.2.2.1, va_up ct.2.2.2 c v) cl rd B cy rw tl sp) X) q := by
  refine jn_E rfl (fun q hv hq => ?_) ?_
  · unfold hC; split <;> first | rfl | exact absurd rfl hq | (next c1 => (try dsimp only); rw [va_up_ne _ _ (fun e : c1 = c => hq (by rw [e]))])
  · simp only [hC, va_up, ↓reduceIte] <;> rfl
theorem uC_3_0 {g : GG} {X : PHp} {h0 : HZ} {ct : CTt} {cl : I2} {rd : RDt} {B : I2} {cy : Nat → Nat} {rw : RWt} {tl : TLt} {sp : SPt} {c : Nat} {v : I1} : ∀ q, vld q = true → up (jn (hC g h0 ct cl rd B cy rw tl sp) X) (3, c, 0) (aI g 100 v) q = (jn (hC g h0 (va_up ct.1 c v, ct.2.1, ct.2.2.1, ct.2.2.2) cl rd B cy rw tl sp) X) q := by
  refine jn_E rfl (fun q hv hq => ?_) ?_
  · unfold hC; split <;> first | rfl | exact absurd rfl hq | (next c1 => (try dsimp only); rw [va_up_ne _ _ (fun e : c1 = c => hq (by rw [e]))])
  · simp only [hC, va_up, ↓reduceIte] <;> rfl
theorem uC_3_1 {g : GG} {X : PHp} {h0 : HZ} {ct : CTt} {cl : I2} {rd : RDt} {B : I2} {cy : Nat → Nat} {rw : RWt} {tl : TLt} {sp : SPt} {c : Nat} {v : I1} : ∀ q, vld q = true → up (jn (hC g h0 ct cl rd B cy rw tl sp) X) (3, c, 1) (aI g 100 v) q = (jn (hC g h0 (ct.1, va_up ct.2.1 c v, ct.2.2.1, ct.2.2.2) cl rd B cy rw tl sp) X) q := by
  refine jn_E rfl (fun q hv hq => ?_) ?_
  · unfold hC; split <;> first | rfl | exact absurd rfl hq | (next c1 => (try dsimp only); rw [va_up_ne _ _ (fun e : c1 = c => hq (by rw [e]))])
  · simp only [hC, va_up, ↓reduceIte] <;> rfl
theorem uC_3_2 {g : GG} {X : PHp} {h0 : HZ} {ct : CTt} {cl : I2} {rd : RDt} {B : I2} {cy : Nat → Nat} {rw : RWt} {tl : TLt} {sp : SPt} {c : Nat} {v : I1} : ∀ q, vld q = true → up (jn (hC g h0 ct cl rd B cy rw tl sp) X) (3, c, 2) (aI g 6 v) q = (jn (hC g h0 ct (va_up cl c v) rd B cy rw tl sp) X) q := by
  refine jn_E rfl (fun q hv hq => ?_) ?_
  · unfold hC; split <;> first | rfl | exact absurd rfl hq | (next c1 => (try dsimp only); rw [va_up_ne _ _ (fun e : c1 = c => hq (by rw [e]))])
  · simp only [hC, va_up, ↓reduceIte] <;> rfl
theorem uC_20_1 {g : GG} {X : PHp} {h0 : HZ} {ct : CTt} {cl : I2} {rd : RDt} {B : I2} {cy : Nat → Nat} {rw : RWt} {tl : TLt} {sp : SPt} {c : Nat} {v : Int32} : ∀ q, vld q = true → up (jn (hC g h0 ct cl rd B cy rw tl sp) X) (20, c, 0) (.inr (5, List.set [rf g (21, c, 0), .int (sp.2.1 c), .int (sp.2.2 c)] 1 (.int v))) q = (jn (hC g h0 ct cl rd B cy rw tl (sp.1, va_up sp.2.1 c v, sp.2.2)) X) q := by
  refine jn_E rfl (fun q hv hq => ?_) ?_
  · unfold hC; split <;> first | rfl | exact absurd rfl hq | (next c1 => (try dsimp only); rw [va_up_ne _ _ (fun e : c1 = c => hq (by rw [e]))])
  · simp only [hC, va_up, ↓reduceIte] <;> rfl
theorem uC_20_2 {g : GG} {X : PHp} {h0 : HZ} {ct : CTt} {cl : I2} {rd : RDt} {B : I2} {cy : Nat → Nat} {rw : RWt} {tl : TLt} {sp : SPt} {c : Nat} {v : Int32} : ∀ q, vld q = true → up (jn (hC g h0 ct cl rd B cy rw tl sp) X) (20, c, 0) (.inr (5, List.set [rf g (21, c, 0), .int (sp.2.1 c), .int (sp.2.2 c)] 2 (.int v))) q = (jn (hC g h0 ct cl rd B cy rw tl (sp.1, sp.2.1, va_up sp.2.2 c v)) X) q := by
  refine jn_E rfl (fun q hv hq => ?_) ?_
  · unfold hC; split <;> first | rfl | exact absurd rfl hq | (next c1 => (try dsimp only); rw [va_up_ne _ _ (fun e : c1 = c => hq (by rw [e]))])
  · simp only [hC, va_up, ↓reduceIte] <;> rfl
theorem uC_21 {g : GG} {X : PHp} {h0 : HZ} {ct : CTt} {cl : I2} {rd : RDt} {B : I2} {cy : Nat → Nat} {rw : RWt} {tl : TLt} {sp : SPt} {c : Nat} {v : Nat → Int64} : ∀ q, vld q = true → up (jn (hC g h0 ct cl rd B cy rw tl sp) X) (21, c, 0) (aL g 60 v) q = (jn (hC g h0 ct cl rd B cy rw tl (va_up sp.1 c v, sp.2.1, sp.2.2)) X) q := by
  refine jn_E rfl (fun q hv hq => ?_) ?_
  · unfold hC; split <;> first | rfl | exact absurd rfl hq | (next c1 => (try dsimp only); rw [va_up_ne _ _ (fun e : c1 = c => hq (by rw [e]))])
  · simp only [hC, va_up, ↓reduceIte] <;> rfl
/-- one place of a table of two numbers -/
def up2 {α : Type} (f : Nat → Nat → α) (h r : Nat) (v : α) : Nat → Nat → α := fun h1 r1 => if h1 = h ∧ r1 = r then v else f h1 r1
theorem up2_eq {α : Type} {f : Nat → Nat → α} {h r : Nat} {v : α} : up2 f h r v h r = v := if_pos ⟨rfl, rfl⟩
theorem up2_ne {α : Type} {f : Nat → Nat → α} {h r h1 r1 : Nat} {v : α} (q : ¬ (h1 = h ∧ r1 = r)) : up2 f h r v h1 r1 = f h1 r1 := if_neg q
theorem uC_13_3 {g : GG} {X : PHp} {h0 : HZ} {ct : CTt} {cl : I2} {rd : RDt} {B : I2} {cy : Nat → Nat} {rw : RWt} {tl : TLt} {sp : SPt} {h r : Nat} {v : Int32} : ∀ q, vld q = true → up (jn (hC g h0 ct cl rd B cy rw tl sp) X) (13, h, r) (.inr (3, List.set [rf g (14, h, r), rf g (15, h, r), rf g (16, h, r), .int (rw.2.2.2 h r)] 3 (.int v))) q = (jn (hC g h0 ct cl rd B cy (rw.1, rw.2.1, rw.2.2.1, up2 rw.2.2.2 h r v) tl sp) X) q := by
  refine jn_E rfl (fun q hv hq => ?_) ?_
  · unfold hC; split <;> first | rfl | exact absurd rfl hq | (next h1 r1 => (try dsimp only); rw [up2_ne (fun e : h1 = h ∧ r1 = r => hq (by rw [e.1, e.2]))])
  · simp only [hC, up2_eq] <;> rfl
theorem uC_14 {g : GG} {X : PHp} {h0 : HZ} {ct : CTt} {cl : I2} {rd : RDt} {B : I2} {cy : Nat → Nat} {rw : RWt} {tl : TLt} {sp : SPt} {h r : Nat} {v : I1} : ∀ q, vld q = true → up (jn (hC g h0 ct cl rd B cy rw tl sp) X) (14, h, r) (aI g (rwN r) v) q = (jn (hC g h0 ct cl rd B cy (up2 rw.1 h r v, rw.2.1, rw.2.2.1, rw.2.2.2) tl sp) X) q := by
  refine jn_E rfl (fun q hv hq => ?_) ?_
  · unfold hC; split <;> first | rfl | exact absurd rfl hq | (next h1 r1 => (try dsimp only); rw [up2_ne (fun e : h1 = h ∧ r1 = r => hq (by rw [e.1, e.2]))])
  · simp only [hC, up2_eq] <;> rfl
theorem uC_15 {g : GG} {X : PHp} {h0 : HZ} {ct : CTt} {cl : I2} {rd : RDt} {B : I2} {cy : Nat → Nat} {rw : RWt} {tl : TLt} {sp : SPt} {h r : Nat} {v : I1} : ∀ q, vld q = true → up (jn (hC g h0 ct cl rd B cy rw tl sp) X) (15, h, r) (aI g (rwN r) v) q = (jn (hC g h0 ct cl rd B cy (rw.1, up2 rw.2.1 h r v, rw.2.2.1, rw.2.2.2) tl sp) X) q := by
  refine jn_E rfl (fun q hv hq => ?_) ?_
  · unfold hC; split <;> first | rfl | exact absurd rfl hq | (next h1 r1 => (try dsimp only); rw [up2_ne (fun e : h1 = h ∧ r1 = r => hq (by rw [e.1, e.2]))])
  · simp only [hC, up2_eq] <;> rfl
theorem uC_16 {g : GG} {X : PHp} {h0 : HZ} {ct : CTt} {cl : I2} {rd : RDt} {B : I2} {cy : Nat → Nat} {rw : RWt} {tl : TLt} {sp : SPt} {h r : Nat} {v : I1} : ∀ q, vld q = true → up (jn (hC g h0 ct cl rd B cy rw tl sp) X) (16, h, r) (aI g (rwN r) v) q = (jn (hC g h0 ct cl rd B cy (rw.1, rw.2.1, up2 rw.2.2.1 h r v, rw.2.2.2) tl sp) X) q := by
  refine jn_E rfl (fun q hv hq => ?_) ?_
  · unfold hC; split <;> first | rfl | exact absurd rfl hq | (next h1 r1 => (try dsimp only); rw [up2_ne (fun e : h1 = h ∧ r1 = r => hq (by rw [e.1, e.2]))])
  · simp only [hC, up2_eq] <;> rfl
theorem uC_6_5 {g : GG} {X : PHp} {h0 : HZ} {ct : CTt} {cl : I2} {rd : RDt} {B : I2} {cy : Nat → Nat} {rw : RWt} {tl : TLt} {sp : SPt} {w c1 : Nat} : ∀ q, vld q = true → up (jn (hC g h0 ct cl rd B cy rw tl sp) X) (6, w, 0) (.inr (8, List.set [rf g (7, w, 0), rf g (8, w, 0), .int (B w 78), .int (B w 79), .int (B w 80), rf g (2, cy w, 0)] 5 (rf g (2, c1, 0)))) q = (jn (hC g h0 ct cl rd B (va_up cy w c1) rw tl sp) X) q := by
  refine jn_E rfl (fun q hv hq => ?_) ?_
  · unfold hC; split <;> first | rfl | exact absurd rfl hq | (next w1 => rw [va_up_ne _ _ (fun e : w1 = w => hq (by rw [e]))])
  · simp only [hC, va_up, ↓reduceIte] <;> rfl
theorem okC_0  : Ok (0, 0, 0) NN := ⟨by decide +kernel, by decide +kernel⟩
theorem okC_1  : Ok (1, 0, 0) NN := ⟨by decide +kernel, by decide +kernel⟩
theorem okC_4  : Ok (4, 0, 0) NN := ⟨by decide +kernel, by decide +kernel⟩
theorem okC_5  : Ok (5, 0, 0) NN := ⟨by decide +kernel, by decide +kernel⟩
theorem okC_17  : Ok (17, 0, 0) NN := ⟨by decide +kernel, by decide +kernel⟩
theorem okC_18  : Ok (18, 0, 0) NN := ⟨by decide +kernel, by decide +kernel⟩
theorem okC_19  : Ok (19, 0, 0) NN := ⟨by decide +kernel, by decide +kernel⟩
theorem okC_2 {w : Nat} (h : w < 9) : Ok (2, w, 0) NN := by
  have q : ∀ w, w < 9 → ad (2, w, 0) < NN := by decide +kernel
  exact ⟨q w h, q w h⟩
theorem okC_6 {w : Nat} (h : w < 3) : Ok (6, w, 0) NN := by
  have q : ∀ w, w < 3 → ad (6, w, 0) < NN := by decide +kernel
  exact ⟨q w h, q w h⟩
theorem okC_7 {w : Nat} (h : w < 3) : Ok (7, w, 0) NN := by
  have q : ∀ w, w < 3 → ad (7, w, 0) < NN := by decide +kernel
  exact ⟨q w h, q w h⟩
theorem okC_8 {w : Nat} (h : w < 3) : Ok (8, w, 0) NN := by
  have q : ∀ w, w < 3 → ad (8, w, 0) < NN := by decide +kernel
  exact ⟨q w h, q w h⟩
theorem okC_12 {w : Nat} (h : w < 2) : Ok (12, w, 0) NN := by
  have q : ∀ w, w < 2 → ad (12, w, 0) < NN := by decide +kernel
  exact ⟨q w h, q w h⟩
theorem okC_20 {w : Nat} (h : w < 6) : Ok (20, w, 0) NN := by
  have q : ∀ w, w < 6 → ad (20, w, 0) < NN := by decide +kernel
  exact ⟨q w h, q w h⟩
theorem okC_21 {w : Nat} (h : w < 6) : Ok (21, w, 0) NN := by
  have q : ∀ w, w < 6 → ad (21, w, 0) < NN := by decide +kernel
  exact ⟨q w h, q w h⟩
theorem okC_3 {w i : Nat} (h : w < 9) (h2 : i < 3) : Ok (3, w, i) NN := by
  have q : ∀ w, w < 9 → ∀ i, i < 3 → ad (3, w, i) < NN := by decide +kernel
  exact ⟨q w h i h2, q w h i h2⟩
theorem okC_9 {w i : Nat} (h : w < 3) (h2 : i < 6) : Ok (9, w, i) NN := by
  have q : ∀ w, w < 3 → ∀ i, i < 6 → ad (9, w, i) < NN := by decide +kernel
  exact ⟨q w h i h2, q w h i h2⟩
theorem okC_10 {w i : Nat} (h : w < 3) (h2 : i < 6) : Ok (10, w, i) NN := by
  have q : ∀ w, w < 3 → ∀ i, i < 6 → ad (10, w, i) < NN := by decide +kernel
  exact ⟨q w h i h2, q w h i h2⟩
theorem okC_11 {w i : Nat} (h : w < 3) (h2 : i < 8) : Ok (11, w, i) NN := by
  have q : ∀ w, w < 3 → ∀ i, i < 8 → ad (11, w, i) < NN := by decide +kernel
  exact ⟨q w h i h2, q w h i h2⟩
theorem okC_13 {w i : Nat} (h : w < 2) (h2 : i < 4) : Ok (13, w, i) NN := by
  have q : ∀ w, w < 2 → ∀ i, i < 4 → ad (13, w, i) < NN := by decide +kernel
  exact ⟨q w h i h2, q w h i h2⟩
theorem okC_14 {w i : Nat} (h : w < 2) (h2 : i < 4) : Ok (14, w, i) NN := by
  have q : ∀ w, w < 2 → ∀ i, i < 4 → ad (14, w, i) < NN := by decide +kernel
  exact ⟨q w h i h2, q w h i h2⟩
theorem okC_15 {w i : Nat} (h : w < 2) (h2 : i < 4) : Ok (15, w, i) NN := by
  have q : ∀ w, w < 2 → ∀ i, i < 4 → ad (15, w, i) < NN := by decide +kernel
  exact ⟨q w h i h2, q w h i h2⟩
theorem okC_16 {w i : Nat} (h : w < 2) (h2 : i < 4) : Ok (16, w, i) NN := by
  have q : ∀ w, w < 2 → ∀ i, i < 4 → ad (16, w, i) < NN := by decide +kernel
  exact ⟨q w h i h2, q w h i h2⟩
