/-- the wearer i of world w becomes the one of world w2 -/
def cpW (B : I2) (w i w2 i2 : Nat) : I2 := fun w1 k => if w1 = w ∧ 9 * i ≤ k ∧ k < 9 * i + 9 then B w2 (9 * i2 + (k - 9 * i)) else B w1 k
def setP (B : I2) (w i : Nat) (F : I1) : I2 := fun w1 k => if w1 = w ∧ 9 * i + 5 ≤ k ∧ k < 9 * i + 9 then F (k - (9 * i + 5)) else B w1 k
theorem uC_10P {g : GG} {X : PHp} {h0 : HZ} {ct : CTt} {cl : I2} {rd : RDt} {B : I2} {cy : Nat → Nat} {rw : RWt} {tl : TLt} {sp : SPt} {w i : Nat} {F : I1} (hi : i < 6) : ∀ q, vld q = true → up (jn (hC g h0 ct cl rd B cy rw tl sp) X) (10, w, i) (aI g 4 F) q = (jn (hC g h0 ct cl rd (setP B w i F) cy rw tl sp) X) q := by
  refine jn_E rfl (fun q hv hq => hC_B ?_ ?_ ?_ ?_) ?_
  · rintro w1 rfl
    exact ⟨if_neg (by omega), if_neg (by omega), if_neg (by omega)⟩
  · rintro w1 i1 rfl c hc
    exact if_neg (by omega)
  · rintro w1 i1 rfl c hc
    have h9 : w1 ≠ w ∨ i1 ≠ i := by
      by_cases e1 : w1 = w
      · exact Or.inr (fun e2 => hq (by rw [e1, e2]))
      · exact Or.inl e1
    exact if_neg (by omega)
  · rintro w1 i1 rfl c hc
    exact if_neg (by omega)
  · refine aI_eq (fun j hj => ?_)
    show setP B w i F w (9 * i + (5 + j)) = F j
    rw [setP, if_pos ⟨rfl, by omega, by omega⟩, show 9 * i + (5 + j) - (9 * i + 5) = j by omega]
def bgC (B : I2) (w i : Nat) (k9 v c : Int32) : Nat → I2 := fun j => itr (fun j B => setB B w (9 * i + (5 + j)) (nI 0)) j (setB (setB (setB (setB (setB B w (9 * i + 0) k9) w (9 * i + 1) v) w (9 * i + 2) c) w (9 * i + 3) (nI 0)) w (9 * i + 4) (nI 0))
theorem c_begin_l {l : Launch} {g : GG} {X : PHp} {h0 : HZ} {ct : CTt} {cl : I2} {rd : RDt} {B : I2} {cy : Nat → Nat} {rw : RWt} {tl : TLt} {sp : SPt} {Γ : Cxt} {Q : State → Prop} {w i : Nat} {k9 v c : Int32} (hw : w < 3) (hi : i < 6) (C : Cx Γ g cX7_begin yX7_begin 5 none 1 0 0) (kx : V l Γ g 5 Q 0 0 NN (jn (hC g h0 ct cl rd (bgC B w i k9 v c 4) cy rw tl sp) X) 52 [some (rf g (9, w, i)), some (.int k9), some (.int v), some (.int c), some (.int (nI 4))] []) : ∀ k j : Nat, j + k = 4 → V l Γ g 5 Q 0 0 NN (jn (hC g h0 ct cl rd (bgC B w i k9 v c j) cy rw tl sp) X) 28 [some (rf g (9, w, i)), some (.int k9), some (.int v), some (.int c), some (.int (nI j))] [] := by
  intro k
  induction k with
  | zero =>
    intro j hj
    have ej : j = 4 := by omega
    subst ej
    refine V.iload (q := 30) C dX7_begin_28 rfl rfl ?_
    refine V.aload_n (q := 31) C dX7_begin_30 rfl rfl ?_
    refine V.get (q := 34) C fl_X7_9 dX7_begin_31 rfl (okC_9 (by omega) (by omega)) rfl rfl ?_
    refine V.len_aI (q := 35) C dX7_begin_34 rfl (okC_10 (by omega) (by omega)) rfl ?_
    refine V.icmp_ge (q := 38) (tgt := 52) C dX7_begin_35 rfl rfl (fun hb35 => ?_) (fun hb35 => ?_)
    · exact kx
    · exact absurd ((nI_leI (by omega) (by omega)).mpr (by omega)) hb35
  | succ k ih =>
    intro j hj
    refine V.iload (q := 30) C dX7_begin_28 rfl rfl ?_
    refine V.aload_n (q := 31) C dX7_begin_30 rfl rfl ?_
    refine V.get (q := 34) C fl_X7_9 dX7_begin_31 rfl (okC_9 (by omega) (by omega)) rfl rfl ?_
    refine V.len_aI (q := 35) C dX7_begin_34 rfl (okC_10 (by omega) (by omega)) rfl ?_
    refine V.icmp_ge (q := 38) (tgt := 52) C dX7_begin_35 rfl rfl (fun hb35 => ?_) (fun hb35 => ?_)
    · exact absurd ((nI_leI (by omega) (by omega)).mp hb35) (by omega)
    · refine V.aload_n (q := 39) C dX7_begin_38 rfl rfl ?_
      refine V.get (q := 42) C fl_X7_9 dX7_begin_39 rfl (okC_9 (by omega) (by omega)) rfl rfl ?_
      refine V.iload (q := 44) C dX7_begin_42 rfl rfl ?_
      refine V.iconst (q := 45) (v := nI 0) C dX7_begin_44 rfl (by decide) ?_
      refine V.ist (q := 46) (i := j) C dX7_begin_45 rfl (okC_10 (by omega) (by omega)) rfl rfl (by omega) (by decide) rfl ?_
      refine V.phE (uC_10 (by omega) (by omega)) ?_
      refine V.iinc (q := 49) (v := nI (j + 1)) C dX7_begin_46 rfl rfl (nI_1 _) (by decide) rfl rfl ?_
      refine V.goto (tgt := 28) C dX7_begin_49 rfl ?_
      exact ih (j + 1) (by omega)
theorem c_begin {l : Launch} {g : GG} {X : PHp} {h0 : HZ} {ct : CTt} {cl : I2} {rd : RDt} {B : I2} {cy : Nat → Nat} {rw : RWt} {tl : TLt} {sp : SPt} {w i : Nat} {k9 v c : Int32} (hw : w < 3) (hi : i < 6) : Ct l g yX7_begin cX7_begin 5 none 1 0 0 [rf g (9, w, i), .int k9, .int v, .int c] NN (jn (hC g h0 ct cl rd B cy rw tl sp) X) (pV (jn (hC g h0 ct cl rd (bgC B w i k9 v c 4) cy rw tl sp) X)) := by
  refine Ct.of (lv := [some (rf g (9, w, i)), some (.int k9), some (.int v), some (.int c), none]) (by decide +kernel) rfl (Nat.le_of_ble_eq_true rfl) ?_
  intro Γ C
  refine V.aload_n (q := 1) C dX7_begin_0 rfl rfl ?_
  refine V.iload_n (q := 2) C dX7_begin_1 rfl rfl ?_
  refine V.put (q := 5) C fl_X7_15 rfl dX7_begin_2 rfl (okC_9 (by omega) (by omega)) rfl (Nat.le_of_ble_eq_true rfl) rfl rfl rfl ?_
  refine V.phE (uC_9_2 (by omega)) ?_
  refine V.aload_n (q := 6) C dX7_begin_5 rfl rfl ?_
  refine V.iload_n (q := 7) C dX7_begin_6 rfl rfl ?_
  refine V.put (q := 10) C fl_X7_19 rfl dX7_begin_7 rfl (okC_9 (by omega) (by omega)) rfl (Nat.le_of_ble_eq_true rfl) rfl rfl rfl ?_
  refine V.phE (uC_9_3 (by omega)) ?_
  refine V.aload_n (q := 11) C dX7_begin_10 rfl rfl ?_
  refine V.iload_n (q := 12) C dX7_begin_11 rfl rfl ?_
  refine V.put (q := 15) C fl_X7_22 rfl dX7_begin_12 rfl (okC_9 (by omega) (by omega)) rfl (Nat.le_of_ble_eq_true rfl) rfl rfl rfl ?_
  refine V.phE (uC_9_4 (by omega)) ?_
  refine V.aload_n (q := 16) C dX7_begin_15 rfl rfl ?_
  refine V.iconst (q := 17) (v := nI 0) C dX7_begin_16 rfl (by decide) ?_
  refine V.put (q := 20) C fl_X7_25 rfl dX7_begin_17 rfl (okC_9 (by omega) (by omega)) rfl (Nat.le_of_ble_eq_true rfl) rfl rfl rfl ?_
  refine V.phE (uC_9_5 (by omega)) ?_
  refine V.aload_n (q := 21) C dX7_begin_20 rfl rfl ?_
  refine V.iconst (q := 22) (v := nI 0) C dX7_begin_21 rfl (by decide) ?_
  refine V.put (q := 25) C fl_X7_28 rfl dX7_begin_22 rfl (okC_9 (by omega) (by omega)) rfl (Nat.le_of_ble_eq_true rfl) rfl rfl rfl ?_
  refine V.phE (uC_9_6 (by omega)) ?_
  refine V.iconst (q := 26) (v := nI 0) C dX7_begin_25 rfl (by decide) ?_
  refine V.istore (q := 28) C dX7_begin_26 rfl (by decide) rfl rfl ?_
  refine c_begin_l hw hi C ?_ 4 0 rfl
  exact V.vreturn C dX7_begin_52 ⟨rfl, rfl, rfl⟩
theorem cpW_chain {B : I2} {w i w2 i2 : Nat} (h : w2 ≠ w) : setP (setB (setB (setB (setB (setB B w (9 * i + 0) (B w2 (9 * i2 + 0))) w (9 * i + 1) ((setB B w (9 * i + 0) (B w2 (9 * i2 + 0))) w2 (9 * i2 + 1))) w (9 * i + 2) ((setB (setB B w (9 * i + 0) (B w2 (9 * i2 + 0))) w (9 * i + 1) ((setB B w (9 * i + 0) (B w2 (9 * i2 + 0))) w2 (9 * i2 + 1))) w2 (9 * i2 + 2))) w (9 * i + 3) ((setB (setB (setB B w (9 * i + 0) (B w2 (9 * i2 + 0))) w (9 * i + 1) ((setB B w (9 * i + 0) (B w2 (9 * i2 + 0))) w2 (9 * i2 + 1))) w (9 * i + 2) ((setB (setB B w (9 * i + 0) (B w2 (9 * i2 + 0))) w (9 * i + 1) ((setB B w (9 * i + 0) (B w2 (9 * i2 + 0))) w2 (9 * i2 + 1))) w2 (9 * i2 + 2))) w2 (9 * i2 + 3))) w (9 * i + 4) ((setB (setB (setB (setB B w (9 * i + 0) (B w2 (9 * i2 + 0))) w (9 * i + 1) ((setB B w (9 * i + 0) (B w2 (9 * i2 + 0))) w2 (9 * i2 + 1))) w (9 * i + 2) ((setB (setB B w (9 * i + 0) (B w2 (9 * i2 + 0))) w (9 * i + 1) ((setB B w (9 * i + 0) (B w2 (9 * i2 + 0))) w2 (9 * i2 + 1))) w2 (9 * i2 + 2))) w (9 * i + 3) ((setB (setB (setB B w (9 * i + 0) (B w2 (9 * i2 + 0))) w (9 * i + 1) ((setB B w (9 * i + 0) (B w2 (9 * i2 + 0))) w2 (9 * i2 + 1))) w (9 * i + 2) ((setB (setB B w (9 * i + 0) (B w2 (9 * i2 + 0))) w (9 * i + 1) ((setB B w (9 * i + 0) (B w2 (9 * i2 + 0))) w2 (9 * i2 + 1))) w2 (9 * i2 + 2))) w2 (9 * i2 + 3))) w2 (9 * i2 + 4))) w i (va_cpy (fun j => (setB (setB (setB (setB (setB B w (9 * i + 0) (B w2 (9 * i2 + 0))) w (9 * i + 1) ((setB B w (9 * i + 0) (B w2 (9 * i2 + 0))) w2 (9 * i2 + 1))) w (9 * i + 2) ((setB (setB B w (9 * i + 0) (B w2 (9 * i2 + 0))) w (9 * i + 1) ((setB B w (9 * i + 0) (B w2 (9 * i2 + 0))) w2 (9 * i2 + 1))) w2 (9 * i2 + 2))) w (9 * i + 3) ((setB (setB (setB B w (9 * i + 0) (B w2 (9 * i2 + 0))) w (9 * i + 1) ((setB B w (9 * i + 0) (B w2 (9 * i2 + 0))) w2 (9 * i2 + 1))) w (9 * i + 2) ((setB (setB B w (9 * i + 0) (B w2 (9 * i2 + 0))) w (9 * i + 1) ((setB B w (9 * i + 0) (B w2 (9 * i2 + 0))) w2 (9 * i2 + 1))) w2 (9 * i2 + 2))) w2 (9 * i2 + 3))) w (9 * i + 4) ((setB (setB (setB (setB B w (9 * i + 0) (B w2 (9 * i2 + 0))) w (9 * i + 1) ((setB B w (9 * i + 0) (B w2 (9 * i2 + 0))) w2 (9 * i2 + 1))) w (9 * i + 2) ((setB (setB B w (9 * i + 0) (B w2 (9 * i2 + 0))) w (9 * i + 1) ((setB B w (9 * i + 0) (B w2 (9 * i2 + 0))) w2 (9 * i2 + 1))) w2 (9 * i2 + 2))) w (9 * i + 3) ((setB (setB (setB B w (9 * i + 0) (B w2 (9 * i2 + 0))) w (9 * i + 1) ((setB B w (9 * i + 0) (B w2 (9 * i2 + 0))) w2 (9 * i2 + 1))) w (9 * i + 2) ((setB (setB B w (9 * i + 0) (B w2 (9 * i2 + 0))) w (9 * i + 1) ((setB B w (9 * i + 0) (B w2 (9 * i2 + 0))) w2 (9 * i2 + 1))) w2 (9 * i2 + 2))) w2 (9 * i2 + 3))) w2 (9 * i2 + 4))) w2 (9 * i2 + (5 + j))) (fun j => (setB (setB (setB (setB (setB B w (9 * i + 0) (B w2 (9 * i2 + 0))) w (9 * i + 1) ((setB B w (9 * i + 0) (B w2 (9 * i2 + 0))) w2 (9 * i2 + 1))) w (9 * i + 2) ((setB (setB B w (9 * i + 0) (B w2 (9 * i2 + 0))) w (9 * i + 1) ((setB B w (9 * i + 0) (B w2 (9 * i2 + 0))) w2 (9 * i2 + 1))) w2 (9 * i2 + 2))) w (9 * i + 3) ((setB (setB (setB B w (9 * i + 0) (B w2 (9 * i2 + 0))) w (9 * i + 1) ((setB B w (9 * i + 0) (B w2 (9 * i2 + 0))) w2 (9 * i2 + 1))) w (9 * i + 2) ((setB (setB B w (9 * i + 0) (B w2 (9 * i2 + 0))) w (9 * i + 1) ((setB B w (9 * i + 0) (B w2 (9 * i2 + 0))) w2 (9 * i2 + 1))) w2 (9 * i2 + 2))) w2 (9 * i2 + 3))) w (9 * i + 4) ((setB (setB (setB (setB B w (9 * i + 0) (B w2 (9 * i2 + 0))) w (9 * i + 1) ((setB B w (9 * i + 0) (B w2 (9 * i2 + 0))) w2 (9 * i2 + 1))) w (9 * i + 2) ((setB (setB B w (9 * i + 0) (B w2 (9 * i2 + 0))) w (9 * i + 1) ((setB B w (9 * i + 0) (B w2 (9 * i2 + 0))) w2 (9 * i2 + 1))) w2 (9 * i2 + 2))) w (9 * i + 3) ((setB (setB (setB B w (9 * i + 0) (B w2 (9 * i2 + 0))) w (9 * i + 1) ((setB B w (9 * i + 0) (B w2 (9 * i2 + 0))) w2 (9 * i2 + 1))) w (9 * i + 2) ((setB (setB B w (9 * i + 0) (B w2 (9 * i2 + 0))) w (9 * i + 1) ((setB B w (9 * i + 0) (B w2 (9 * i2 + 0))) w2 (9 * i2 + 1))) w2 (9 * i2 + 2))) w2 (9 * i2 + 3))) w2 (9 * i2 + 4))) w (9 * i + (5 + j))) 0 0 4) = cpW B w i w2 i2 := by
  simp only [setB_o h]
  funext w1 k
  by_cases h1 : w1 = w
  · subst h1
    by_cases hk : 9 * i ≤ k ∧ k < 9 * i + 9
    · obtain ⟨c, rfl⟩ : ∃ c, k = 9 * i + c := ⟨k - 9 * i, by omega⟩
      rw [show cpW B w1 i w2 i2 w1 (9 * i + c) = B w2 (9 * i2 + (9 * i + c - 9 * i)) from if_pos ⟨rfl, hk⟩, show 9 * i + c - 9 * i = c by omega]
      by_cases h5 : 5 ≤ c
      · rw [setP, if_pos ⟨rfl, by omega, by omega⟩, va_cpy, if_pos ⟨by omega, by omega⟩, show 9 * i2 + (5 + (0 + (9 * i + c - (9 * i + 5) - 0))) = 9 * i2 + c by omega]
      · rw [setP, if_neg (by omega)]
        obtain rfl | rfl | rfl | rfl | rfl := (show c = 0 ∨ c = 1 ∨ c = 2 ∨ c = 3 ∨ c = 4 by omega) <;> simp [setB, upd]
    · rw [show cpW B w1 i w2 i2 w1 k = B w1 k from if_neg (fun q => hk q.2), setP, if_neg (by omega), setB_ne (by omega), setB_ne (by omega), setB_ne (by omega), setB_ne (by omega), setB_ne (by omega)]
  · rw [show cpW B w i w2 i2 w1 k = B w1 k from if_neg (fun q => h1 q.1), setP, if_neg (fun q => h1 q.1), setB_o h1, setB_o h1, setB_o h1, setB_o h1, setB_o h1]
theorem c_wbecome {l : Launch} {g : GG} {X : PHp} {h0 : HZ} {ct : CTt} {cl : I2} {rd : RDt} {B : I2} {cy : Nat → Nat} {rw : RWt} {tl : TLt} {sp : SPt} {w i w2 i2 : Nat} (hw : w < 3) (hi : i < 6) (hw2 : w2 < 3) (hi2 : i2 < 6) (h : w2 ≠ w) : Ct l g yX7_become cX7_become 2 none 2 0 0 [rf g (9, w, i), rf g (9, w2, i2)] NN (jn (hC g h0 ct cl rd B cy rw tl sp) X) (pV (jn (hC g h0 ct cl rd (cpW B w i w2 i2) cy rw tl sp) X)) := by
  refine Ct.of (lv := [some (rf g (9, w, i)), some (rf g (9, w2, i2))]) (by decide +kernel) rfl (Nat.le_of_ble_eq_true rfl) ?_
  intro Γ C
  refine V.aload_n (q := 1) C dX7_become_0 rfl rfl ?_
  refine V.aload_n (q := 2) C dX7_become_1 rfl rfl ?_
  refine V.get (q := 5) C fl_X7_15 dX7_become_2 rfl (okC_9 (by omega) (by omega)) rfl rfl ?_
  refine V.put (q := 8) C fl_X7_15 rfl dX7_become_5 rfl (okC_9 (by omega) (by omega)) rfl (Nat.le_of_ble_eq_true rfl) rfl rfl rfl ?_
  refine V.phE (uC_9_2 (by omega)) ?_
  refine V.aload_n (q := 9) C dX7_become_8 rfl rfl ?_
  refine V.aload_n (q := 10) C dX7_become_9 rfl rfl ?_
  refine V.get (q := 13) C fl_X7_19 dX7_become_10 rfl (okC_9 (by omega) (by omega)) rfl rfl ?_
  refine V.put (q := 16) C fl_X7_19 rfl dX7_become_13 rfl (okC_9 (by omega) (by omega)) rfl (Nat.le_of_ble_eq_true rfl) rfl rfl rfl ?_
  refine V.phE (uC_9_3 (by omega)) ?_
  refine V.aload_n (q := 17) C dX7_become_16 rfl rfl ?_
  refine V.aload_n (q := 18) C dX7_become_17 rfl rfl ?_
  refine V.get (q := 21) C fl_X7_22 dX7_become_18 rfl (okC_9 (by omega) (by omega)) rfl rfl ?_
  refine V.put (q := 24) C fl_X7_22 rfl dX7_become_21 rfl (okC_9 (by omega) (by omega)) rfl (Nat.le_of_ble_eq_true rfl) rfl rfl rfl ?_
  refine V.phE (uC_9_4 (by omega)) ?_
  refine V.aload_n (q := 25) C dX7_become_24 rfl rfl ?_
  refine V.aload_n (q := 26) C dX7_become_25 rfl rfl ?_
  refine V.get (q := 29) C fl_X7_25 dX7_become_26 rfl (okC_9 (by omega) (by omega)) rfl rfl ?_
  refine V.put (q := 32) C fl_X7_25 rfl dX7_become_29 rfl (okC_9 (by omega) (by omega)) rfl (Nat.le_of_ble_eq_true rfl) rfl rfl rfl ?_
  refine V.phE (uC_9_5 (by omega)) ?_
  refine V.aload_n (q := 33) C dX7_become_32 rfl rfl ?_
  refine V.aload_n (q := 34) C dX7_become_33 rfl rfl ?_
  refine V.get (q := 37) C fl_X7_28 dX7_become_34 rfl (okC_9 (by omega) (by omega)) rfl rfl ?_
  refine V.put (q := 40) C fl_X7_28 rfl dX7_become_37 rfl (okC_9 (by omega) (by omega)) rfl (Nat.le_of_ble_eq_true rfl) rfl rfl rfl ?_
  refine V.phE (uC_9_6 (by omega)) ?_
  refine V.aload_n (q := 41) C dX7_become_40 rfl rfl ?_
  refine V.get (q := 44) C fl_X7_9 dX7_become_41 rfl (okC_9 (by omega) (by omega)) rfl rfl ?_
  refine V.iconst (q := 45) (v := nI 0) C dX7_become_44 rfl (by decide) ?_
  refine V.aload_n (q := 46) C dX7_become_45 rfl rfl ?_
  refine V.get (q := 49) C fl_X7_9 dX7_become_46 rfl (okC_9 (by omega) (by omega)) rfl rfl ?_
  refine V.iconst (q := 50) (v := nI 0) C dX7_become_49 rfl (by decide) ?_
  refine V.aload_n (q := 51) C dX7_become_50 rfl rfl ?_
  refine V.get (q := 54) C fl_X7_9 dX7_become_51 rfl (okC_9 (by omega) (by omega)) rfl rfl ?_
  refine V.len_aI (q := 55) C dX7_become_54 rfl (okC_10 (by omega) (by omega)) rfl ?_
  refine V.copyI (q := 58) (sp := 0) (dp := 0) (k := 4) C dX7_become_55 (tb_at 328 (by decide +kernel) rfl) rfl (okC_10 hw2 hi2) (okC_10 hw hi) rfl rfl rfl rfl rfl (by omega) (by omega) (by omega) rfl ?_
  refine V.phE (uC_10P hi) ?_
  exact V.vreturn C dX7_become_58 ⟨rfl, by rw [cpW_chain h], rfl⟩
theorem mn9_c (x : Int32) : (if nI 9 < x then nI 9 else x) = mn9 x := by
  unfold mn9
  by_cases h : x < nI 9
  · rw [if_pos h, if_neg (fun q => absurd (Int32.lt_iff_toInt_lt.mp q) (by have := Int32.lt_iff_toInt_lt.mp h; omega))]
  · rw [if_neg h]
    by_cases q : nI 9 < x
    · rw [if_pos q]
    · rw [if_neg q]
      apply Int32.toInt_inj.mp
      have h1 : ¬ x.toInt < (nI 9).toInt := fun z => h (Int32.lt_iff_toInt_lt.mpr z)
      have h2 : ¬ (nI 9).toInt < x.toInt := fun z => q (Int32.lt_iff_toInt_lt.mpr z)
      omega
theorem c_guardBy {l : Launch} {g : GG} {X : PHp} {h0 : HZ} {ct : CTt} {cl : I2} {rd : RDt} {B : I2} {cy : Nat → Nat} {rw : RWt} {tl : TLt} {sp : SPt} {w i s : Nat} {S : Int32} (hw : w < 3) (hi : i < 6) (hs : s < 8) : Ct l g yX7_guardBy cX7_guardBy 4 (some .int) 2 0 0 [rf g (9, w, i), .int S, .int (nI s)] NN (jn (hC g h0 ct cl rd B cy rw tl sp) X) (pI (gdV (B w) i s S) (jn (hC g h0 ct cl rd B cy rw tl sp) X)) := by
  refine Ct.of (lv := [some (rf g (9, w, i)), some (.int S), some (.int (nI s)), none]) (by decide +kernel) rfl (Nat.le_of_ble_eq_true rfl) ?_
  intro Γ C
  refine V.aload_n (q := 1) C dX7_guardBy_0 rfl rfl ?_
  refine V.get (q := 4) C fl_X7_25 dX7_guardBy_1 rfl (okC_9 (by omega) (by omega)) rfl rfl ?_
  refine V.iconst (q := 5) (v := nI 5) C dX7_guardBy_4 rfl (by decide) ?_
  refine V.idiv (q := 6) C dX7_guardBy_5 rfl (by decide) ?_
  refine V.bipush (q := 8) (v := nI 9) C dX7_guardBy_6 rfl (by decide) ?_
  refine V.min (q := 11) C dX7_guardBy_8 (tb_at 360 (by decide +kernel) rfl) rfl ?_
  refine V.topi (mn9_c _) ?_
  refine V.istore_n (q := 12) C dX7_guardBy_11 rfl (by decide) rfl rfl ?_
  refine V.aload_n (q := 13) C dX7_guardBy_12 rfl rfl ?_
  refine V.get (q := 16) C fl_X7_15 dX7_guardBy_13 rfl (okC_9 (by omega) (by omega)) rfl rfl ?_
  refine V.tsw (lo := 1) (N := 6) (tgt := 120) C dX7_guardBy_16 (by decide) (by decide) rfl (fun k hk hx16 => ?_) (fun hx16 => ?_)
  · obtain rfl | rfl | rfl | rfl | rfl | rfl := (show k = 0 ∨ k = 1 ∨ k = 2 ∨ k = 3 ∨ k = 4 ∨ k = 5 by omega)
    · refine ⟨_, 56, rfl, rfl, ?_⟩
      replace hx16 : _ = nI 1 := hx16
      refine V.iload_n (q := 57) C dX7_guardBy_56 rfl rfl ?_
      refine V.aload_n (q := 58) C dX7_guardBy_57 rfl rfl ?_
      refine V.get (q := 61) C fl_X7_19 dX7_guardBy_58 rfl (okC_9 (by omega) (by omega)) rfl rfl ?_
      refine V.iadd (q := 62) C dX7_guardBy_61 rfl ?_
      exact V.ireturn C dX7_guardBy_62 ⟨congrArg (fun x : Int32 => some (Value.int x)) (by rw [gd1 hx16] <;> rfl), rfl, rfl⟩
    · refine ⟨_, 63, rfl, rfl, ?_⟩
      replace hx16 : _ = nI 2 := hx16
      refine V.iload_n (q := 64) C dX7_guardBy_63 rfl rfl ?_
      refine V.iconst (q := 65) (v := nI 2) C dX7_guardBy_64 rfl (by decide) ?_
      refine V.idiv (q := 66) C dX7_guardBy_65 rfl (by decide) ?_
      exact V.ireturn C dX7_guardBy_66 ⟨congrArg (fun x : Int32 => some (Value.int x)) (by rw [gd2 hx16] <;> rfl), rfl, rfl⟩
    · refine ⟨_, 67, rfl, rfl, ?_⟩
      replace hx16 : _ = nI 3 := hx16
      refine V.iload_n (q := 68) C dX7_guardBy_67 rfl rfl ?_
      refine V.iload_n (q := 69) C dX7_guardBy_68 rfl rfl ?_
      refine V.iadd (q := 70) C dX7_guardBy_69 rfl ?_
      exact V.ireturn C dX7_guardBy_70 ⟨congrArg (fun x : Int32 => some (Value.int x)) (by rw [gd3 hx16] <;> rfl), rfl, rfl⟩
    · refine ⟨_, 71, rfl, rfl, ?_⟩
      replace hx16 : _ = nI 4 := hx16
      refine V.aload_n (q := 72) C dX7_guardBy_71 rfl rfl ?_
      refine V.get (q := 75) C fl_X7_22 dX7_guardBy_72 rfl (okC_9 (by omega) (by omega)) rfl rfl ?_
      refine V.bipush (q := 77) (v := nI 50) C dX7_guardBy_75 rfl (by decide) ?_
      refine V.icmp_lt (q := 80) (tgt := 91) C dX7_guardBy_77 rfl rfl (fun hb77 => ?_) (fun hb77 => ?_)
      · refine V.iload_n (q := 92) C dX7_guardBy_91 rfl rfl ?_
        refine V.aload_n (q := 93) C dX7_guardBy_92 rfl rfl ?_
        refine V.get (q := 96) C fl_X7_19 dX7_guardBy_93 rfl (okC_9 (by omega) (by omega)) rfl rfl ?_
        refine V.iadd (q := 97) C dX7_guardBy_96 rfl ?_
        exact V.ireturn C dX7_guardBy_97 ⟨congrArg (fun x : Int32 => some (Value.int x)) (by rw [gd4 hx16, if_pos hb77]), rfl, rfl⟩
      · refine V.iconst (q := 81) (v := nI 2) C dX7_guardBy_80 rfl (by decide) ?_
        refine V.iload_n (q := 82) C dX7_guardBy_81 rfl rfl ?_
        refine V.aload_n (q := 83) C dX7_guardBy_82 rfl rfl ?_
        refine V.get (q := 86) C fl_X7_19 dX7_guardBy_83 rfl (okC_9 (by omega) (by omega)) rfl rfl ?_
        refine V.iadd (q := 87) C dX7_guardBy_86 rfl ?_
        refine V.imul (q := 88) C dX7_guardBy_87 rfl ?_
        refine V.goto (tgt := 97) C dX7_guardBy_88 rfl ?_
        exact V.ireturn C dX7_guardBy_97 ⟨congrArg (fun x : Int32 => some (Value.int x)) (by rw [gd4 hx16, if_neg hb77]), rfl, rfl⟩
    · refine ⟨_, 98, rfl, rfl, ?_⟩
      replace hx16 : _ = nI 5 := hx16
      refine V.iload_n (q := 99) C dX7_guardBy_98 rfl rfl ?_
      refine V.iconst (q := 100) (v := nI 2) C dX7_guardBy_99 rfl (by decide) ?_
      refine V.idiv (q := 101) C dX7_guardBy_100 rfl (by decide) ?_
      refine V.bipush (q := 103) (v := nI 10) C dX7_guardBy_101 rfl (by decide) ?_
      refine V.iadd (q := 104) C dX7_guardBy_103 rfl ?_
      exact V.ireturn C dX7_guardBy_104 ⟨congrArg (fun x : Int32 => some (Value.int x)) (by rw [gd5 hx16] <;> rfl), rfl, rfl⟩
    · refine ⟨_, 105, rfl, rfl, ?_⟩
      replace hx16 : _ = nI 6 := hx16
      refine V.iload_n (q := 106) C dX7_guardBy_105 rfl rfl ?_
      refine V.iload_n (q := 107) C dX7_guardBy_106 rfl rfl ?_
      refine V.iadd (q := 108) C dX7_guardBy_107 rfl ?_
      refine V.aload_n (q := 109) C dX7_guardBy_108 rfl rfl ?_
      refine V.get (q := 112) C fl_X7_9 dX7_guardBy_109 rfl (okC_9 (by omega) (by omega)) rfl rfl ?_
      refine V.iload_n (q := 113) C dX7_guardBy_112 rfl rfl ?_
      refine V.iconst (q := 114) (v := nI 3) C dX7_guardBy_113 rfl (by decide) ?_
      refine V.iand (q := 115) C dX7_guardBy_114 rfl ?_
      refine V.topi (x1 := nI (s % 4)) (pk_andN (by omega) 2 rfl) ?_
      refine V.ild (q := 116) (i := (s % 4)) C dX7_guardBy_115 rfl (okC_10 (by omega) (by omega)) rfl rfl (by omega) (by decide) ?_
      refine V.iadd (q := 117) C dX7_guardBy_116 rfl ?_
      refine V.iconst (q := 118) (v := nI 4) C dX7_guardBy_117 rfl (by decide) ?_
      refine V.isub (q := 119) C dX7_guardBy_118 rfl ?_
      exact V.ireturn C dX7_guardBy_119 ⟨congrArg (fun x : Int32 => some (Value.int x)) (by rw [gd6 hx16] <;> rfl), rfl, rfl⟩
  · refine V.iload_n (q := 121) C dX7_guardBy_120 rfl rfl ?_
    exact V.ireturn C dX7_guardBy_121 ⟨congrArg (fun x : Int32 => some (Value.int x)) (by rw [gd0 hx16] <;> rfl), rfl, rfl⟩
def cpS (B : I2) (w s w2 s2 : Nat) : I2 := fun w1 k => if w1 = w ∧ 54 + 3 * s ≤ k ∧ k < 54 + 3 * s + 3 then B w2 (54 + 3 * s2 + (k - (54 + 3 * s))) else B w1 k
theorem cpS_chain {B : I2} {w i w2 i2 : Nat} (h : w2 ≠ w) : (setB (setB (setB B w (54 + 3 * i + 0) (B w2 (54 + 3 * i2 + 0))) w (54 + 3 * i + 1) ((setB B w (54 + 3 * i + 0) (B w2 (54 + 3 * i2 + 0))) w2 (54 + 3 * i2 + 1))) w (54 + 3 * i + 2) ((setB (setB B w (54 + 3 * i + 0) (B w2 (54 + 3 * i2 + 0))) w (54 + 3 * i + 1) ((setB B w (54 + 3 * i + 0) (B w2 (54 + 3 * i2 + 0))) w2 (54 + 3 * i2 + 1))) w2 (54 + 3 * i2 + 2))) = cpS B w i w2 i2 := by
  simp only [setB_o h]
  funext w1 k
  by_cases h1 : w1 = w
  · subst h1
    by_cases hk : 54 + 3 * i ≤ k ∧ k < 54 + 3 * i + 3
    · obtain ⟨c, rfl⟩ : ∃ c, k = 54 + 3 * i + c := ⟨k - (54 + 3 * i), by omega⟩
      rw [show cpS B w1 i w2 i2 w1 (54 + 3 * i + c) = B w2 (54 + 3 * i2 + (54 + 3 * i + c - (54 + 3 * i))) from if_pos ⟨rfl, hk⟩, show 54 + 3 * i + c - (54 + 3 * i) = c by omega]
      obtain rfl | rfl | rfl := (show c = 0 ∨ c = 1 ∨ c = 2 by omega) <;> simp [setB, upd]
    · rw [show cpS B w1 i w2 i2 w1 k = B w1 k from if_neg (fun q => hk q.2), setB_ne (by omega), setB_ne (by omega), setB_ne (by omega)]
  · rw [show cpS B w i w2 i2 w1 k = B w1 k from if_neg (fun q => h1 q.1), setB_o h1, setB_o h1, setB_o h1]
theorem c_sbecome {l : Launch} {g : GG} {X : PHp} {h0 : HZ} {ct : CTt} {cl : I2} {rd : RDt} {B : I2} {cy : Nat → Nat} {rw : RWt} {tl : TLt} {sp : SPt} {w i w2 i2 : Nat} (hw : w < 3) (hi : i < 8) (hw2 : w2 < 3) (hi2 : i2 < 8) (h : w2 ≠ w) : Ct l g yX4_become cX4_become 2 none 1 0 0 [rf g (11, w, i), rf g (11, w2, i2)] NN (jn (hC g h0 ct cl rd B cy rw tl sp) X) (pV (jn (hC g h0 ct cl rd (cpS B w i w2 i2) cy rw tl sp) X)) := by
  refine Ct.of (lv := [some (rf g (11, w, i)), some (rf g (11, w2, i2))]) (by decide +kernel) rfl (Nat.le_of_ble_eq_true rfl) ?_
  intro Γ C
  refine V.aload_n (q := 1) C dX4_become_0 rfl rfl ?_
  refine V.aload_n (q := 2) C dX4_become_1 rfl rfl ?_
  refine V.get (q := 5) C fl_X4_9 dX4_become_2 rfl (okC_11 (by omega) (by omega)) rfl rfl ?_
  refine V.put (q := 8) C fl_X4_9 rfl dX4_become_5 rfl (okC_11 (by omega) (by omega)) rfl (Nat.le_of_ble_eq_true rfl) rfl rfl rfl ?_
  refine V.phE (uC_11_0 (by omega)) ?_
  refine V.aload_n (q := 9) C dX4_become_8 rfl rfl ?_
  refine V.aload_n (q := 10) C dX4_become_9 rfl rfl ?_
  refine V.get (q := 13) C fl_X4_15 dX4_become_10 rfl (okC_11 (by omega) (by omega)) rfl rfl ?_
  refine V.put (q := 16) C fl_X4_15 rfl dX4_become_13 rfl (okC_11 (by omega) (by omega)) rfl (Nat.le_of_ble_eq_true rfl) rfl rfl rfl ?_
  refine V.phE (uC_11_1 (by omega)) ?_
  refine V.aload_n (q := 17) C dX4_become_16 rfl rfl ?_
  refine V.aload_n (q := 18) C dX4_become_17 rfl rfl ?_
  refine V.get (q := 21) C fl_X4_18 dX4_become_18 rfl (okC_11 (by omega) (by omega)) rfl rfl ?_
  refine V.put (q := 24) C fl_X4_18 rfl dX4_become_21 rfl (okC_11 (by omega) (by omega)) rfl (Nat.le_of_ble_eq_true rfl) rfl rfl rfl ?_
  refine V.phE (uC_11_2 (by omega)) ?_
  exact V.vreturn C dX4_become_24 ⟨rfl, by rw [cpS_chain h], rfl⟩
theorem c_clear {l : Launch} {g : GG} {X : PHp} {h0 : HZ} {ct : CTt} {cl : I2} {rd : RDt} {B : I2} {cy : Nat → Nat} {rw : RWt} {tl : TLt} {sp : SPt} {c : Nat} (hc : c < 7) : Ct l g yX0_clear cX0_clear 1 none 1 0 0 [rf g (2, c, 0)] NN (jn (hC g h0 ct cl rd B cy rw tl sp) X) (pV (jn (hC g h0 (ct.1, ct.2.1, va_up ct.2.2.1 c (nI 0), va_up ct.2.2.2 c (nI 3)) cl rd B cy rw tl sp) X)) := by
  refine Ct.of (lv := [some (rf g (2, c, 0))]) (by decide +kernel) rfl (Nat.le_of_ble_eq_true rfl) ?_
  intro Γ C
  refine V.aload_n (q := 1) C dX0_clear_0 rfl rfl ?_
  refine V.iconst (q := 2) (v := nI 0) C dX0_clear_1 rfl (by decide) ?_
  refine V.put (q := 5) C fl_X0_21 rfl dX0_clear_2 rfl (okC_2 (by omega)) rfl (Nat.le_of_ble_eq_true rfl) rfl rfl rfl ?_
  refine V.phE (uC_2_3) ?_
  try dsimp only
  refine V.aload_n (q := 6) C dX0_clear_5 rfl rfl ?_
  refine V.iconst (q := 7) (v := nI 3) C dX0_clear_6 rfl (by decide) ?_
  refine V.put (q := 10) C fl_X0_25 rfl dX0_clear_7 rfl (okC_2 (by omega)) rfl (Nat.le_of_ble_eq_true rfl) rfl rfl rfl ?_
  refine V.phE (uC_2_4) ?_
  try dsimp only
  exact V.vreturn C dX0_clear_10 ⟨rfl, rfl, rfl⟩
