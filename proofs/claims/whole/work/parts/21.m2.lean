def mix (j : Nat) (F G : I1) : I1 := fun k => if k < j then F k else G k
theorem mix_0 {F G : I1} : mix 0 F G = G := by funext k; simp [mix]
theorem mix_s {F G : I1} {j : Nat} : upd (mix j F G) j (F j) = mix (j + 1) F G := by
  funext k
  simp only [upd, mix]
  by_cases e : k = j
  · subst e; rw [if_pos rfl, if_pos (by omega)]
  · rw [if_neg e]
    by_cases e2 : k < j
    · rw [if_pos e2, if_pos (by omega)]
    · rw [if_neg e2, if_neg (by omega)]
theorem hM_then {g : GG} {X : PHp} {now mind : I1} {th : I1 × Int32} {f : I1} {tx : TXt} {z : Zt} {tr : I1 × Int32} {tp : TPt} (h : ∀ j, j < 152 → th.1 j = f j) : jn X (hM g now mind th tx z tr tp) = jn X (hM g now mind (f, th.2) tx z tr tp) := by
  have e := aI_eq (g := g) h
  unfold hM
  rw [e]
theorem m_move_image_l {l : Launch} {g : GG} {X : PHp} {now mind : I1} {th : I1 × Int32} {tx : TXt} {z : Zt} {tr : I1 × Int32} {tp : TPt} {Γ : Cxt} {Q : State → Prop}  (C : Cx Γ g cX10_move yX10_move 3 none 1 0 0) (kx : V l Γ g 3 Q 0 0 NN (jn X (hM g now mind ((mix 152 now th.1), th.2) tx z tr tp)) 21 [some (rf g (23, 0, 0)), some (rf g (23, 2, 0)), some (.int (nI 152))] []) : ∀ k j : Nat, j + k = 152 → V l Γ g 3 Q 0 0 NN (jn X (hM g now mind ((mix j now th.1), th.2) tx z tr tp)) 2 [some (rf g (23, 0, 0)), some (rf g (23, 2, 0)), some (.int (nI j))] [] := by
  intro k
  induction k with
  | zero =>
    intro j hj
    have ej : j = 152 := by omega
    subst ej
    refine V.iload_n (q := 3) C dX10_move_2 rfl rfl ?_
    refine V.sipush (q := 6) (v := nI 152) C dX10_move_3 rfl (by decide) ?_
    refine V.icmp_ge (q := 9) (tgt := 21) C dX10_move_6 rfl rfl (fun hb6 => ?_) (fun hb6 => ?_)
    · exact kx
    · exact absurd ((nI_leI (by omega) (by omega)).mpr (by omega)) hb6
  | succ k ih =>
    intro j hj
    refine V.iload_n (q := 3) C dX10_move_2 rfl rfl ?_
    refine V.sipush (q := 6) (v := nI 152) C dX10_move_3 rfl (by decide) ?_
    refine V.icmp_ge (q := 9) (tgt := 21) C dX10_move_6 rfl rfl (fun hb6 => ?_) (fun hb6 => ?_)
    · exact absurd ((nI_leI (by omega) (by omega)).mp hb6) (by omega)
    · refine V.aload_n (q := 10) C dX10_move_9 rfl rfl ?_
      refine V.iload_n (q := 11) C dX10_move_10 rfl rfl ?_
      refine V.aload_n (q := 12) C dX10_move_11 rfl rfl ?_
      refine V.iload_n (q := 13) C dX10_move_12 rfl rfl ?_
      refine V.ild (q := 14) (i := j) C dX10_move_13 rfl okM_0 rfl rfl (by omega) (by decide) ?_
      refine V.ist (q := 15) (i := j) C dX10_move_14 rfl okM_2 rfl rfl (by omega) (by decide) uM_then ?_
      refine V.ph (by rw [mix_s]) ?_
      refine V.iinc (q := 18) (v := nI (j + 1)) C dX10_move_15 rfl rfl (nI_1 _) (by decide) rfl rfl ?_
      refine V.goto (tgt := 2) C dX10_move_18 rfl ?_
      exact ih (j + 1) (by omega)
theorem m_move_image {l : Launch} {g : GG} {X : PHp} {now mind : I1} {th : I1 × Int32} {tx : TXt} {z : Zt} {tr : I1 × Int32} {tp : TPt}  : Ct l g yX10_move cX10_move 3 none 1 0 0 [rf g (23, 0, 0), rf g (23, 2, 0)] NN (jn X (hM g now mind th tx z tr tp)) (pV (jn X (hM g now mind (now, th.2) tx z tr tp))) := by
  refine Ct.of (lv := [some (rf g (23, 0, 0)), some (rf g (23, 2, 0)), none]) (by decide +kernel) rfl (Nat.le_of_ble_eq_true rfl) ?_
  intro Γ C
  refine V.iconst (q := 1) (v := nI 0) C dX10_move_0 rfl (by decide) ?_
  refine V.istore_n (q := 2) C dX10_move_1 rfl (by decide) rfl rfl ?_
  refine V.ph (PH1 := (jn X (hM g now mind ((mix 0 now th.1), th.2) tx z tr tp))) (by rw [mix_0]) ?_
  refine m_move_image_l C ?_ 152 0 rfl
  refine V.ph (PH1 := (jn X (hM g now mind (now, th.2) tx z tr tp))) (hM_then (fun j hj => if_pos hj)) ?_
  exact V.vreturn C dX10_move_21 ⟨rfl, rfl, rfl⟩
theorem m_move_undo_l {l : Launch} {g : GG} {X : PHp} {now mind : I1} {th : I1 × Int32} {tx : TXt} {z : Zt} {tr : I1 × Int32} {tp : TPt} {Γ : Cxt} {Q : State → Prop}  (C : Cx Γ g cX10_move yX10_move 3 none 1 0 0) (kx : V l Γ g 3 Q 0 0 NN (jn X (hM g (mix 152 th.1 now) mind th tx z tr tp)) 21 [some (rf g (23, 2, 0)), some (rf g (23, 0, 0)), some (.int (nI 152))] []) : ∀ k j : Nat, j + k = 152 → V l Γ g 3 Q 0 0 NN (jn X (hM g (mix j th.1 now) mind th tx z tr tp)) 2 [some (rf g (23, 2, 0)), some (rf g (23, 0, 0)), some (.int (nI j))] [] := by
  intro k
  induction k with
  | zero =>
    intro j hj
    have ej : j = 152 := by omega
    subst ej
    refine V.iload_n (q := 3) C dX10_move_2 rfl rfl ?_
    refine V.sipush (q := 6) (v := nI 152) C dX10_move_3 rfl (by decide) ?_
    refine V.icmp_ge (q := 9) (tgt := 21) C dX10_move_6 rfl rfl (fun hb6 => ?_) (fun hb6 => ?_)
    · exact kx
    · exact absurd ((nI_leI (by omega) (by omega)).mpr (by omega)) hb6
  | succ k ih =>
    intro j hj
    refine V.iload_n (q := 3) C dX10_move_2 rfl rfl ?_
    refine V.sipush (q := 6) (v := nI 152) C dX10_move_3 rfl (by decide) ?_
    refine V.icmp_ge (q := 9) (tgt := 21) C dX10_move_6 rfl rfl (fun hb6 => ?_) (fun hb6 => ?_)
    · exact absurd ((nI_leI (by omega) (by omega)).mp hb6) (by omega)
    · refine V.aload_n (q := 10) C dX10_move_9 rfl rfl ?_
      refine V.iload_n (q := 11) C dX10_move_10 rfl rfl ?_
      refine V.aload_n (q := 12) C dX10_move_11 rfl rfl ?_
      refine V.iload_n (q := 13) C dX10_move_12 rfl rfl ?_
      refine V.ild (q := 14) (i := j) C dX10_move_13 rfl okM_2 rfl rfl (by omega) (by decide) ?_
      refine V.ist (q := 15) (i := j) C dX10_move_14 rfl okM_0 rfl rfl (by omega) (by decide) uM_now ?_
      refine V.ph (by rw [mix_s]) ?_
      refine V.iinc (q := 18) (v := nI (j + 1)) C dX10_move_15 rfl rfl (nI_1 _) (by decide) rfl rfl ?_
      refine V.goto (tgt := 2) C dX10_move_18 rfl ?_
      exact ih (j + 1) (by omega)
theorem m_move_undo {l : Launch} {g : GG} {X : PHp} {now mind : I1} {th : I1 × Int32} {tx : TXt} {z : Zt} {tr : I1 × Int32} {tp : TPt}  : Ct l g yX10_move cX10_move 3 none 1 0 0 [rf g (23, 2, 0), rf g (23, 0, 0)] NN (jn X (hM g now mind th tx z tr tp)) (pV (jn X (hM g th.1 mind th tx z tr tp))) := by
  refine Ct.of (lv := [some (rf g (23, 2, 0)), some (rf g (23, 0, 0)), none]) (by decide +kernel) rfl (Nat.le_of_ble_eq_true rfl) ?_
  intro Γ C
  refine V.iconst (q := 1) (v := nI 0) C dX10_move_0 rfl (by decide) ?_
  refine V.istore_n (q := 2) C dX10_move_1 rfl (by decide) rfl rfl ?_
  refine V.ph (PH1 := (jn X (hM g (mix 0 th.1 now) mind th tx z tr tp))) (by rw [mix_0]) ?_
  refine m_move_undo_l C ?_ 152 0 rfl
  refine V.ph (PH1 := (jn X (hM g th.1 mind th tx z tr tp))) (hM_now (fun j hj => if_pos hj)) ?_
  exact V.vreturn C dX10_move_21 ⟨rfl, rfl, rfl⟩
theorem m_move_mind_l {l : Launch} {g : GG} {X : PHp} {now mind : I1} {th : I1 × Int32} {tx : TXt} {z : Zt} {tr : I1 × Int32} {tp : TPt} {Γ : Cxt} {Q : State → Prop}  (C : Cx Γ g cX10_move yX10_move 3 none 1 0 0) (kx : V l Γ g 3 Q 0 0 NN (jn X (hM g now (mix 152 now mind) th tx z tr tp)) 21 [some (rf g (23, 0, 0)), some (rf g (23, 1, 0)), some (.int (nI 152))] []) : ∀ k j : Nat, j + k = 152 → V l Γ g 3 Q 0 0 NN (jn X (hM g now (mix j now mind) th tx z tr tp)) 2 [some (rf g (23, 0, 0)), some (rf g (23, 1, 0)), some (.int (nI j))] [] := by
  intro k
  induction k with
  | zero =>
    intro j hj
    have ej : j = 152 := by omega
    subst ej
    refine V.iload_n (q := 3) C dX10_move_2 rfl rfl ?_
    refine V.sipush (q := 6) (v := nI 152) C dX10_move_3 rfl (by decide) ?_
    refine V.icmp_ge (q := 9) (tgt := 21) C dX10_move_6 rfl rfl (fun hb6 => ?_) (fun hb6 => ?_)
    · exact kx
    · exact absurd ((nI_leI (by omega) (by omega)).mpr (by omega)) hb6
  | succ k ih =>
    intro j hj
    refine V.iload_n (q := 3) C dX10_move_2 rfl rfl ?_
    refine V.sipush (q := 6) (v := nI 152) C dX10_move_3 rfl (by decide) ?_
    refine V.icmp_ge (q := 9) (tgt := 21) C dX10_move_6 rfl rfl (fun hb6 => ?_) (fun hb6 => ?_)
    · exact absurd ((nI_leI (by omega) (by omega)).mp hb6) (by omega)
    · refine V.aload_n (q := 10) C dX10_move_9 rfl rfl ?_
      refine V.iload_n (q := 11) C dX10_move_10 rfl rfl ?_
      refine V.aload_n (q := 12) C dX10_move_11 rfl rfl ?_
      refine V.iload_n (q := 13) C dX10_move_12 rfl rfl ?_
      refine V.ild (q := 14) (i := j) C dX10_move_13 rfl okM_0 rfl rfl (by omega) (by decide) ?_
      refine V.ist (q := 15) (i := j) C dX10_move_14 rfl okM_1 rfl rfl (by omega) (by decide) uM_mind ?_
      refine V.ph (by rw [mix_s]) ?_
      refine V.iinc (q := 18) (v := nI (j + 1)) C dX10_move_15 rfl rfl (nI_1 _) (by decide) rfl rfl ?_
      refine V.goto (tgt := 2) C dX10_move_18 rfl ?_
      exact ih (j + 1) (by omega)
theorem m_move_mind {l : Launch} {g : GG} {X : PHp} {now mind : I1} {th : I1 × Int32} {tx : TXt} {z : Zt} {tr : I1 × Int32} {tp : TPt}  : Ct l g yX10_move cX10_move 3 none 1 0 0 [rf g (23, 0, 0), rf g (23, 1, 0)] NN (jn X (hM g now mind th tx z tr tp)) (pV (jn X (hM g now now th tx z tr tp))) := by
  refine Ct.of (lv := [some (rf g (23, 0, 0)), some (rf g (23, 1, 0)), none]) (by decide +kernel) rfl (Nat.le_of_ble_eq_true rfl) ?_
  intro Γ C
  refine V.iconst (q := 1) (v := nI 0) C dX10_move_0 rfl (by decide) ?_
  refine V.istore_n (q := 2) C dX10_move_1 rfl (by decide) rfl rfl ?_
  refine V.ph (PH1 := (jn X (hM g now (mix 0 now mind) th tx z tr tp))) (by rw [mix_0]) ?_
  refine m_move_mind_l C ?_ 152 0 rfl
  refine V.ph (PH1 := (jn X (hM g now now th tx z tr tp))) (hM_mind (fun j hj => if_pos hj)) ?_
  exact V.vreturn C dX10_move_21 ⟨rfl, rfl, rfl⟩
theorem m_move_back_l {l : Launch} {g : GG} {X : PHp} {now mind : I1} {th : I1 × Int32} {tx : TXt} {z : Zt} {tr : I1 × Int32} {tp : TPt} {Γ : Cxt} {Q : State → Prop}  (C : Cx Γ g cX10_move yX10_move 3 none 1 0 0) (kx : V l Γ g 3 Q 0 0 NN (jn X (hM g (mix 152 mind now) mind th tx z tr tp)) 21 [some (rf g (23, 1, 0)), some (rf g (23, 0, 0)), some (.int (nI 152))] []) : ∀ k j : Nat, j + k = 152 → V l Γ g 3 Q 0 0 NN (jn X (hM g (mix j mind now) mind th tx z tr tp)) 2 [some (rf g (23, 1, 0)), some (rf g (23, 0, 0)), some (.int (nI j))] [] := by
  intro k
  induction k with
  | zero =>
    intro j hj
    have ej : j = 152 := by omega
    subst ej
    refine V.iload_n (q := 3) C dX10_move_2 rfl rfl ?_
    refine V.sipush (q := 6) (v := nI 152) C dX10_move_3 rfl (by decide) ?_
    refine V.icmp_ge (q := 9) (tgt := 21) C dX10_move_6 rfl rfl (fun hb6 => ?_) (fun hb6 => ?_)
    · exact kx
    · exact absurd ((nI_leI (by omega) (by omega)).mpr (by omega)) hb6
  | succ k ih =>
    intro j hj
    refine V.iload_n (q := 3) C dX10_move_2 rfl rfl ?_
    refine V.sipush (q := 6) (v := nI 152) C dX10_move_3 rfl (by decide) ?_
    refine V.icmp_ge (q := 9) (tgt := 21) C dX10_move_6 rfl rfl (fun hb6 => ?_) (fun hb6 => ?_)
    · exact absurd ((nI_leI (by omega) (by omega)).mp hb6) (by omega)
    · refine V.aload_n (q := 10) C dX10_move_9 rfl rfl ?_
      refine V.iload_n (q := 11) C dX10_move_10 rfl rfl ?_
      refine V.aload_n (q := 12) C dX10_move_11 rfl rfl ?_
      refine V.iload_n (q := 13) C dX10_move_12 rfl rfl ?_
      refine V.ild (q := 14) (i := j) C dX10_move_13 rfl okM_1 rfl rfl (by omega) (by decide) ?_
      refine V.ist (q := 15) (i := j) C dX10_move_14 rfl okM_0 rfl rfl (by omega) (by decide) uM_now ?_
      refine V.ph (by rw [mix_s]) ?_
      refine V.iinc (q := 18) (v := nI (j + 1)) C dX10_move_15 rfl rfl (nI_1 _) (by decide) rfl rfl ?_
      refine V.goto (tgt := 2) C dX10_move_18 rfl ?_
      exact ih (j + 1) (by omega)
theorem m_move_back {l : Launch} {g : GG} {X : PHp} {now mind : I1} {th : I1 × Int32} {tx : TXt} {z : Zt} {tr : I1 × Int32} {tp : TPt}  : Ct l g yX10_move cX10_move 3 none 1 0 0 [rf g (23, 1, 0), rf g (23, 0, 0)] NN (jn X (hM g now mind th tx z tr tp)) (pV (jn X (hM g mind mind th tx z tr tp))) := by
  refine Ct.of (lv := [some (rf g (23, 1, 0)), some (rf g (23, 0, 0)), none]) (by decide +kernel) rfl (Nat.le_of_ble_eq_true rfl) ?_
  intro Γ C
  refine V.iconst (q := 1) (v := nI 0) C dX10_move_0 rfl (by decide) ?_
  refine V.istore_n (q := 2) C dX10_move_1 rfl (by decide) rfl rfl ?_
  refine V.ph (PH1 := (jn X (hM g (mix 0 mind now) mind th tx z tr tp))) (by rw [mix_0]) ?_
  refine m_move_back_l C ?_ 152 0 rfl
  refine V.ph (PH1 := (jn X (hM g mind mind th tx z tr tp))) (hM_now (fun j hj => if_pos hj)) ?_
  exact V.vreturn C dX10_move_21 ⟨rfl, rfl, rfl⟩
theorem m_image {l : Launch} {g : GG} {X : PHp} {now mind : I1} {th : I1 × Int32} {tx : TXt} {z : Zt} {tr : I1 × Int32} {tp : TPt}  : Ct l g yX10_image cX10_image 1 (some .int) 2 0 0 [rf g (22, 0, 0)] NN (jn X (hM g now mind th tx z tr tp)) (pI (now 78) (jn X (hM g now mind (now, nI 1) tx z tr tp))) := by
  refine Ct.of (lv := [some (rf g (22, 0, 0))]) (by decide +kernel) rfl (Nat.le_of_ble_eq_true rfl) ?_
  intro Γ C
  refine V.aload_n (q := 1) C dX10_image_0 rfl rfl ?_
  refine V.iconst (q := 2) (v := nI 1) C dX10_image_1 rfl (by decide) ?_
  refine V.put (q := 5) C fl_X10_74 rfl dX10_image_2 rfl okM rfl (Nat.le_of_ble_eq_true rfl) rfl rfl uM_kept ?_
  refine V.aload_n (q := 6) C dX10_image_5 rfl rfl ?_
  refine V.get (q := 9) C fl_X10_9 dX10_image_6 rfl okM rfl rfl ?_
  refine V.aload_n (q := 10) C dX10_image_9 rfl rfl ?_
  refine V.get (q := 13) C fl_X10_18 dX10_image_10 rfl okM rfl rfl ?_
  refine V.callSv (q := 16) C me_X10_move m_move_image ml_X10_78 dX10_image_13 rfl rfl rfl (Nat.le_of_ble_eq_true rfl) (by omega) (Nat.zero_le _) (Nat.zero_le _) ?_
  refine V.aload_n (q := 17) C dX10_image_16 rfl rfl ?_
  refine V.get (q := 20) C fl_X10_9 dX10_image_17 rfl okM rfl rfl ?_
  refine V.bipush (q := 22) (v := nI 78) C dX10_image_20 rfl (by decide) ?_
  refine V.ild (q := 23) (i := 78) C dX10_image_22 rfl okM_0 rfl rfl (by omega) (by decide) ?_
  exact V.ireturn C dX10_image_23 ⟨rfl, rfl, rfl⟩
def undoR (k : Int32) (t : I1) : Int32 := if k = 0 then -3 else t 78
def undoA (k : Int32) (t now : I1) : I1 := if k = 0 then now else t
theorem m_undo {l : Launch} {g : GG} {X : PHp} {now mind : I1} {th : I1 × Int32} {tx : TXt} {z : Zt} {tr : I1 × Int32} {tp : TPt}  : Ct l g yX10_undo cX10_undo 1 (some .int) 2 0 0 [rf g (22, 0, 0)] NN (jn X (hM g now mind th tx z tr tp)) (pI (undoR th.2 th.1) (jn X (hM g (undoA th.2 th.1 now) mind th tx z tr tp))) := by
  refine Ct.of (lv := [some (rf g (22, 0, 0))]) (by decide +kernel) rfl (Nat.le_of_ble_eq_true rfl) ?_
  intro Γ C
  refine V.aload_n (q := 1) C dX10_undo_0 rfl rfl ?_
  refine V.get (q := 4) C fl_X10_74 dX10_undo_1 rfl okM rfl rfl ?_
  refine V.if_ne (q := 7) (tgt := 10) C dX10_undo_4 rfl rfl (fun hb4 => ?_) (fun hb4 => ?_)
  · refine V.aload_n (q := 11) C dX10_undo_10 rfl rfl ?_
    refine V.get (q := 14) C fl_X10_18 dX10_undo_11 rfl okM rfl rfl ?_
    refine V.aload_n (q := 15) C dX10_undo_14 rfl rfl ?_
    refine V.get (q := 18) C fl_X10_9 dX10_undo_15 rfl okM rfl rfl ?_
    refine V.callSv (q := 21) C me_X10_move m_move_undo ml_X10_78 dX10_undo_18 rfl rfl rfl (Nat.le_of_ble_eq_true rfl) (by omega) (Nat.zero_le _) (Nat.zero_le _) ?_
    refine V.aload_n (q := 22) C dX10_undo_21 rfl rfl ?_
    refine V.get (q := 25) C fl_X10_9 dX10_undo_22 rfl okM rfl rfl ?_
    refine V.bipush (q := 27) (v := nI 78) C dX10_undo_25 rfl (by decide) ?_
    refine V.ild (q := 28) (i := 78) C dX10_undo_27 rfl okM_0 rfl rfl (by omega) (by decide) ?_
    exact V.ireturn C dX10_undo_28 ⟨by simp only [undoR, hb4, Bool.false_eq_true, ↓reduceIte], by simp only [undoA, hb4, Bool.false_eq_true, ↓reduceIte], rfl⟩
  · refine V.bipush (q := 9) (v := -3) C dX10_undo_7 rfl (by decide) ?_
    exact V.ireturn C dX10_undo_9 ⟨by simp only [undoR, hb4, Bool.false_eq_true, ↓reduceIte], by simp only [undoA, hb4, Bool.false_eq_true, ↓reduceIte], rfl⟩
/-- the wearer n is made -/
def zer (A : I1) (n : Nat) : Nat → I1 := fun j => itr (fun j B => upd B (9 * n + j) (nI 0)) j A
def newW (A : I1) (n : Nat) (k v c : Int32) : I1 := upd (upd (upd (upd (zer A n 9) (9 * n + 0) k) (9 * n + 1) v) (9 * n + 2) c) 78 (nI (n + 1))
theorem zer_hi {A : I1} {n k : Nat} (h : 9 * n + 9 ≤ k) : ∀ j, j ≤ 9 → zer A n j k = A k := by
  intro j
  induction j with
  | zero => intro _; rfl
  | succ j ih => intro hj; show upd (zer A n j) (9 * n + j) (nI 0) k = A k; rw [upd, if_neg (by omega)]; exact ih (by omega)
def wearerR (n : Nat) (k v c : Int32) : Int32 := if inR k (nI 0) (nI 6) then (if inR v (nI 0) (nI 9) then (if inR c (nI 0) (nI 99) then (if n = 6 then -4 else nI n) else -2) else -2) else -1
def wearerA (A : I1) (n : Nat) (k v c : Int32) : I1 := if inR k (nI 0) (nI 6) then (if inR v (nI 0) (nI 9) then (if inR c (nI 0) (nI 99) then (if n = 6 then A else newW A n k v c) else A) else A) else A
theorem m_wearer_l {l : Launch} {g : GG} {X : PHp} {now mind : I1} {th : I1 × Int32} {tx : TXt} {z : Zt} {tr : I1 × Int32} {tp : TPt} {Γ : Cxt} {Q : State → Prop} {k9 v c : Int32} {n : Nat} (hn : n < 6) (C : Cx Γ g cX10_wearer yX10_wearer 6 (some .int) 3 0 0) (kx : V l Γ g 6 Q 0 0 NN (jn X (hM g (zer now n 9) mind th tx z tr tp)) 80 [some (rf g (22, 0, 0)), some (.int k9), some (.int v), some (.int c), some (.int (nI n)), some (.int (nI 9))] []) : ∀ k j : Nat, j + k = 9 → V l Γ g 6 Q 0 0 NN (jn X (hM g (zer now n j) mind th tx z tr tp)) 57 [some (rf g (22, 0, 0)), some (.int k9), some (.int v), some (.int c), some (.int (nI n)), some (.int (nI j))] [] := by
  intro k
  induction k with
  | zero =>
    intro j hj
    have ej : j = 9 := by omega
    subst ej
    refine V.iload (q := 59) C dX10_wearer_57 rfl rfl ?_
    refine V.bipush (q := 61) (v := nI 9) C dX10_wearer_59 rfl (by decide) ?_
    refine V.icmp_ge (q := 64) (tgt := 80) C dX10_wearer_61 rfl rfl (fun hb61 => ?_) (fun hb61 => ?_)
    · exact kx
    · exact absurd ((nI_leI (by omega) (by omega)).mpr (by omega)) hb61
  | succ k ih =>
    intro j hj
    refine V.iload (q := 59) C dX10_wearer_57 rfl rfl ?_
    refine V.bipush (q := 61) (v := nI 9) C dX10_wearer_59 rfl (by decide) ?_
    refine V.icmp_ge (q := 64) (tgt := 80) C dX10_wearer_61 rfl rfl (fun hb61 => ?_) (fun hb61 => ?_)
    · exact absurd ((nI_leI (by omega) (by omega)).mp hb61) (by omega)
    · refine V.aload_n (q := 65) C dX10_wearer_64 rfl rfl ?_
      refine V.iload (q := 67) C dX10_wearer_65 rfl rfl ?_
      refine V.iload (q := 69) C dX10_wearer_67 rfl rfl ?_
      refine V.iconst (q := 70) (v := nI 0) C dX10_wearer_69 rfl (by decide) ?_
      refine V.callVi (q := 73) C me_X10_change (m_change (by omega)) ml_X10_93 dX10_wearer_70 rfl okM ⟨_, rfl⟩ rfl rfl (Nat.le_of_ble_eq_true rfl) (by omega) (Nat.zero_le _) (Nat.zero_le _) ?_
      refine V.pop (q := 74) C dX10_wearer_73 rfl rfl ?_
      refine V.iinc (q := 77) (v := nI (j + 1)) C dX10_wearer_74 rfl rfl (nI_1 _) (by decide) rfl rfl ?_
      refine V.goto (tgt := 57) C dX10_wearer_77 rfl ?_
      exact ih (j + 1) (by omega)
theorem m_wearer {l : Launch} {g : GG} {X : PHp} {now mind : I1} {th : I1 × Int32} {tx : TXt} {z : Zt} {tr : I1 × Int32} {tp : TPt} {k v c : Int32} {n : Nat} (hn : now 78 = nI n) (hn6 : n ≤ 6) : Ct l g yX10_wearer cX10_wearer 6 (some .int) 3 0 0 [rf g (22, 0, 0), .int k, .int v, .int c] NN (jn X (hM g now mind th tx z tr tp)) (pI (wearerR n k v c) (jn X (hM g (wearerA now n k v c) mind th tx z tr tp))) := by
  refine Ct.of (lv := [some (rf g (22, 0, 0)), some (.int k), some (.int v), some (.int c), none, none]) (by decide +kernel) rfl (Nat.le_of_ble_eq_true rfl) ?_
  intro Γ C
  refine V.iload_n (q := 1) C dX10_wearer_0 rfl rfl ?_
  refine V.iconst (q := 2) (v := nI 0) C dX10_wearer_1 rfl (by decide) ?_
  refine V.bipush (q := 4) (v := nI 6) C dX10_wearer_2 rfl (by decide) ?_
  refine V.callSi (q := 7) C me_X10_isIn m_isIn ml_X10_82 dX10_wearer_4 rfl rfl rfl (Nat.le_of_ble_eq_true rfl) (by omega) (Nat.zero_le _) (Nat.zero_le _) ?_
  refine V.if_neB (q := 10) (tgt := 12) C dX10_wearer_7 rfl rfl (fun hb7 => ?_) (fun hb7 => ?_)
  · refine V.iload_n (q := 13) C dX10_wearer_12 rfl rfl ?_
    refine V.iconst (q := 14) (v := nI 0) C dX10_wearer_13 rfl (by decide) ?_
    refine V.bipush (q := 16) (v := nI 9) C dX10_wearer_14 rfl (by decide) ?_
    refine V.callSi (q := 19) C me_X10_isIn m_isIn ml_X10_82 dX10_wearer_16 rfl rfl rfl (Nat.le_of_ble_eq_true rfl) (by omega) (Nat.zero_le _) (Nat.zero_le _) ?_
    refine V.if_eqB (q := 22) (tgt := 32) C dX10_wearer_19 rfl rfl (fun hb19 => ?_) (fun hb19 => ?_)
    · refine V.bipush (q := 34) (v := -2) C dX10_wearer_32 rfl (by decide) ?_
      exact V.ireturn C dX10_wearer_34 ⟨by simp only [wearerR, hb7, hb19, Bool.false_eq_true, ↓reduceIte], by simp only [wearerA, newW, hb7, hb19, Bool.false_eq_true, ↓reduceIte], rfl⟩
    · refine V.iload_n (q := 23) C dX10_wearer_22 rfl rfl ?_
      refine V.iconst (q := 24) (v := nI 0) C dX10_wearer_23 rfl (by decide) ?_
      refine V.bipush (q := 26) (v := nI 99) C dX10_wearer_24 rfl (by decide) ?_
      refine V.callSi (q := 29) C me_X10_isIn m_isIn ml_X10_82 dX10_wearer_26 rfl rfl rfl (Nat.le_of_ble_eq_true rfl) (by omega) (Nat.zero_le _) (Nat.zero_le _) ?_
      refine V.if_neB (q := 32) (tgt := 35) C dX10_wearer_29 rfl rfl (fun hb29 => ?_) (fun hb29 => ?_)
      · refine V.aload_n (q := 36) C dX10_wearer_35 rfl rfl ?_
        refine V.get (q := 39) C fl_X10_9 dX10_wearer_36 rfl okM rfl rfl ?_
        refine V.bipush (q := 41) (v := nI 78) C dX10_wearer_39 rfl (by decide) ?_
        refine V.ild (q := 42) (i := 78) C dX10_wearer_41 rfl okM_0 rfl rfl (by omega) (by decide) ?_
        refine V.topi (x1 := nI (n)) hn ?_
        refine V.istore (q := 44) C dX10_wearer_42 rfl (by decide) rfl rfl ?_
        refine V.iload (q := 46) C dX10_wearer_44 rfl rfl ?_
        refine V.bipush (q := 48) (v := nI 6) C dX10_wearer_46 rfl (by decide) ?_
        refine V.icmp_ne (q := 51) (tgt := 54) C dX10_wearer_48 rfl rfl (fun hb48 => ?_) (fun hb48 => ?_)
        · have hb48 : ¬ n = 6 := fun e => hb48 (by rw [e])
          refine V.iconst (q := 55) (v := nI 0) C dX10_wearer_54 rfl (by decide) ?_
          refine V.istore (q := 57) C dX10_wearer_55 rfl (by decide) rfl rfl ?_
          refine m_wearer_l (by omega) C ?_ 9 0 rfl
          refine V.aload_n (q := 81) C dX10_wearer_80 rfl rfl ?_
          refine V.iload (q := 83) C dX10_wearer_81 rfl rfl ?_
          refine V.iconst (q := 84) (v := nI 0) C dX10_wearer_83 rfl (by decide) ?_
          refine V.iload_n (q := 85) C dX10_wearer_84 rfl rfl ?_
          refine V.callVi (q := 88) C me_X10_change (m_change (by omega)) ml_X10_93 dX10_wearer_85 rfl okM ⟨_, rfl⟩ rfl rfl (Nat.le_of_ble_eq_true rfl) (by omega) (Nat.zero_le _) (Nat.zero_le _) ?_
          refine V.pop (q := 89) C dX10_wearer_88 rfl rfl ?_
          refine V.aload_n (q := 90) C dX10_wearer_89 rfl rfl ?_
          refine V.iload (q := 92) C dX10_wearer_90 rfl rfl ?_
          refine V.iconst (q := 93) (v := nI 1) C dX10_wearer_92 rfl (by decide) ?_
          refine V.iload_n (q := 94) C dX10_wearer_93 rfl rfl ?_
          refine V.callVi (q := 97) C me_X10_change (m_change (by omega)) ml_X10_93 dX10_wearer_94 rfl okM ⟨_, rfl⟩ rfl rfl (Nat.le_of_ble_eq_true rfl) (by omega) (Nat.zero_le _) (Nat.zero_le _) ?_
          refine V.pop (q := 98) C dX10_wearer_97 rfl rfl ?_
          refine V.aload_n (q := 99) C dX10_wearer_98 rfl rfl ?_
          refine V.iload (q := 101) C dX10_wearer_99 rfl rfl ?_
          refine V.iconst (q := 102) (v := nI 2) C dX10_wearer_101 rfl (by decide) ?_
          refine V.iload_n (q := 103) C dX10_wearer_102 rfl rfl ?_
          refine V.callVi (q := 106) C me_X10_change (m_change (by omega)) ml_X10_93 dX10_wearer_103 rfl okM ⟨_, rfl⟩ rfl rfl (Nat.le_of_ble_eq_true rfl) (by omega) (Nat.zero_le _) (Nat.zero_le _) ?_
          refine V.pop (q := 107) C dX10_wearer_106 rfl rfl ?_
          refine V.aload_n (q := 108) C dX10_wearer_107 rfl rfl ?_
          refine V.get (q := 111) C fl_X10_9 dX10_wearer_108 rfl okM rfl rfl ?_
          refine V.bipush (q := 113) (v := nI 78) C dX10_wearer_111 rfl (by decide) ?_
          refine V.dup2 (q := 114) C dX10_wearer_113 rfl rfl rfl ?_
          refine V.ild (q := 115) (i := 78) C dX10_wearer_114 rfl okM_0 rfl rfl (by omega) (by decide) ?_
          refine V.topi (x1 := nI (n)) (show upd (upd (upd (zer now n 9) (9 * n + 0) k) (9 * n + 1) v) (9 * n + 2) c 78 = nI n by simp only [upd]; rw [if_neg (by omega), if_neg (by omega), if_neg (by omega), zer_hi (by omega) 9 (by omega)]; exact hn) ?_
          refine V.iconst (q := 116) (v := nI 1) C dX10_wearer_115 rfl (by decide) ?_
          refine V.iadd (q := 117) C dX10_wearer_116 rfl ?_
          refine V.topi (x1 := nI ((n) + 1)) (nI_add _ _) ?_
          refine V.ist (q := 118) (i := 78) C dX10_wearer_117 rfl okM_0 rfl rfl (by omega) (by decide) uM_now ?_
          refine V.iload (q := 120) C dX10_wearer_118 rfl rfl ?_
          exact V.ireturn C dX10_wearer_120 ⟨by simp only [wearerR, hb7, hb19, hb29, hb48, Bool.false_eq_true, ↓reduceIte], by simp only [wearerA, newW, hb7, hb19, hb29, hb48, Bool.false_eq_true, ↓reduceIte], rfl⟩
        · have hb48 : n = 6 := (nI_eq (by omega) (by omega)).mp hb48
          refine V.bipush (q := 53) (v := -4) C dX10_wearer_51 rfl (by decide) ?_
          exact V.ireturn C dX10_wearer_53 ⟨by simp only [wearerR, hb7, hb19, hb29, hb48, Bool.false_eq_true, ↓reduceIte], by simp only [wearerA, newW, hb7, hb19, hb29, hb48, Bool.false_eq_true, ↓reduceIte], rfl⟩
      · refine V.bipush (q := 34) (v := -2) C dX10_wearer_32 rfl (by decide) ?_
        exact V.ireturn C dX10_wearer_34 ⟨by simp only [wearerR, hb7, hb19, hb29, Bool.false_eq_true, ↓reduceIte], by simp only [wearerA, newW, hb7, hb19, hb29, Bool.false_eq_true, ↓reduceIte], rfl⟩
  · refine V.iconst (q := 11) (v := -1) C dX10_wearer_10 rfl (by decide) ?_
    exact V.ireturn C dX10_wearer_11 ⟨by simp only [wearerR, hb7, Bool.false_eq_true, ↓reduceIte], by simp only [wearerA, newW, hb7, Bool.false_eq_true, ↓reduceIte], rfl⟩
def newS (A : I1) (m : Nat) (h e : Int32) : I1 := upd (upd (upd (upd A (54 + 3 * m) h) (54 + 3 * m + 1) e) (54 + 3 * m + 2) (-1)) 79 (nI (m + 1))
def sayingR (m : Nat) (h e : Int32) : Int32 := if inR h (nI 0) (nI 60) then (if inR e (nI 1) (nI 9) then (if m = 8 then -4 else nI m) else -2) else -2
def sayingA (A : I1) (m : Nat) (h e : Int32) : I1 := if inR h (nI 0) (nI 60) then (if inR e (nI 1) (nI 9) then (if m = 8 then A else newS A m h e) else A) else A
theorem m_saying {l : Launch} {g : GG} {X : PHp} {now mind : I1} {th : I1 × Int32} {tx : TXt} {z : Zt} {tr : I1 × Int32} {tp : TPt} {h e : Int32} {m : Nat} (hm : now 79 = nI m) (hm8 : m ≤ 8) : Ct l g yX10_saying cX10_saying 4 (some .int) 3 0 0 [rf g (22, 0, 0), .int h, .int e] NN (jn X (hM g now mind th tx z tr tp)) (pI (sayingR m h e) (jn X (hM g (sayingA now m h e) mind th tx z tr tp))) := by
  refine Ct.of (lv := [some (rf g (22, 0, 0)), some (.int h), some (.int e), none]) (by decide +kernel) rfl (Nat.le_of_ble_eq_true rfl) ?_
  intro Γ C
  refine V.iload_n (q := 1) C dX10_saying_0 rfl rfl ?_
  refine V.iconst (q := 2) (v := nI 0) C dX10_saying_1 rfl (by decide) ?_
  refine V.bipush (q := 4) (v := nI 60) C dX10_saying_2 rfl (by decide) ?_
  refine V.callSi (q := 7) C me_X10_isIn m_isIn ml_X10_82 dX10_saying_4 rfl rfl rfl (Nat.le_of_ble_eq_true rfl) (by omega) (Nat.zero_le _) (Nat.zero_le _) ?_
  refine V.if_eqB (q := 10) (tgt := 20) C dX10_saying_7 rfl rfl (fun hb7 => ?_) (fun hb7 => ?_)
  · refine V.bipush (q := 22) (v := -2) C dX10_saying_20 rfl (by decide) ?_
    exact V.ireturn C dX10_saying_22 ⟨by simp only [sayingR, hb7, Bool.false_eq_true, ↓reduceIte], by simp only [sayingA, newS, hb7, Bool.false_eq_true, ↓reduceIte], rfl⟩
  · refine V.iload_n (q := 11) C dX10_saying_10 rfl rfl ?_
    refine V.iconst (q := 12) (v := nI 1) C dX10_saying_11 rfl (by decide) ?_
    refine V.bipush (q := 14) (v := nI 9) C dX10_saying_12 rfl (by decide) ?_
    refine V.callSi (q := 17) C me_X10_isIn m_isIn ml_X10_82 dX10_saying_14 rfl rfl rfl (Nat.le_of_ble_eq_true rfl) (by omega) (Nat.zero_le _) (Nat.zero_le _) ?_
    refine V.if_neB (q := 20) (tgt := 23) C dX10_saying_17 rfl rfl (fun hb17 => ?_) (fun hb17 => ?_)
    · refine V.aload_n (q := 24) C dX10_saying_23 rfl rfl ?_
      refine V.get (q := 27) C fl_X10_9 dX10_saying_24 rfl okM rfl rfl ?_
      refine V.bipush (q := 29) (v := nI 79) C dX10_saying_27 rfl (by decide) ?_
      refine V.ild (q := 30) (i := 79) C dX10_saying_29 rfl okM_0 rfl rfl (by omega) (by decide) ?_
      refine V.topi (x1 := nI (m)) hm ?_
      refine V.istore_n (q := 31) C dX10_saying_30 rfl (by decide) rfl rfl ?_
      refine V.iload_n (q := 32) C dX10_saying_31 rfl rfl ?_
      refine V.bipush (q := 34) (v := nI 8) C dX10_saying_32 rfl (by decide) ?_
      refine V.icmp_ne (q := 37) (tgt := 40) C dX10_saying_34 rfl rfl (fun hb34 => ?_) (fun hb34 => ?_)
      · have hb34 : ¬ m = 8 := fun e => hb34 (by rw [e])
        refine V.aload_n (q := 41) C dX10_saying_40 rfl rfl ?_
        refine V.get (q := 44) C fl_X10_9 dX10_saying_41 rfl okM rfl rfl ?_
        refine V.bipush (q := 46) (v := nI 54) C dX10_saying_44 rfl (by decide) ?_
        refine V.iconst (q := 47) (v := nI 3) C dX10_saying_46 rfl (by decide) ?_
        refine V.iload_n (q := 48) C dX10_saying_47 rfl rfl ?_
        refine V.imul (q := 49) C dX10_saying_48 rfl ?_
        refine V.topi (x1 := nI (3 * (m))) (pk_mul _ _) ?_
        refine V.iadd (q := 50) C dX10_saying_49 rfl ?_
        refine V.topi (x1 := nI (54 + (3 * (m)))) (nI_add _ _) ?_
        refine V.iload_n (q := 51) C dX10_saying_50 rfl rfl ?_
        refine V.ist (q := 52) (i := (54 + (3 * (m)))) C dX10_saying_51 rfl okM_0 rfl rfl (by omega) (by decide) uM_now ?_
        refine V.aload_n (q := 53) C dX10_saying_52 rfl rfl ?_
        refine V.get (q := 56) C fl_X10_9 dX10_saying_53 rfl okM rfl rfl ?_
        refine V.bipush (q := 58) (v := nI 54) C dX10_saying_56 rfl (by decide) ?_
        refine V.iconst (q := 59) (v := nI 3) C dX10_saying_58 rfl (by decide) ?_
        refine V.iload_n (q := 60) C dX10_saying_59 rfl rfl ?_
        refine V.imul (q := 61) C dX10_saying_60 rfl ?_
        refine V.topi (x1 := nI (3 * (m))) (pk_mul _ _) ?_
        refine V.iadd (q := 62) C dX10_saying_61 rfl ?_
        refine V.topi (x1 := nI (54 + (3 * (m)))) (nI_add _ _) ?_
        refine V.iconst (q := 63) (v := nI 1) C dX10_saying_62 rfl (by decide) ?_
        refine V.iadd (q := 64) C dX10_saying_63 rfl ?_
        refine V.topi (x1 := nI ((54 + (3 * (m))) + 1)) (nI_add _ _) ?_
        refine V.iload_n (q := 65) C dX10_saying_64 rfl rfl ?_
        refine V.ist (q := 66) (i := ((54 + (3 * (m))) + 1)) C dX10_saying_65 rfl okM_0 rfl rfl (by omega) (by decide) uM_now ?_
        refine V.aload_n (q := 67) C dX10_saying_66 rfl rfl ?_
        refine V.iload_n (q := 68) C dX10_saying_67 rfl rfl ?_
        refine V.iconst (q := 69) (v := -1) C dX10_saying_68 rfl (by decide) ?_
        refine V.callVi (q := 72) C me_X10_aims (m_aims (by omega)) ml_X10_114 dX10_saying_69 rfl okM ⟨_, rfl⟩ rfl rfl (Nat.le_of_ble_eq_true rfl) (by omega) (Nat.zero_le _) (Nat.zero_le _) ?_
        refine V.pop (q := 73) C dX10_saying_72 rfl rfl ?_
        refine V.aload_n (q := 74) C dX10_saying_73 rfl rfl ?_
        refine V.get (q := 77) C fl_X10_9 dX10_saying_74 rfl okM rfl rfl ?_
        refine V.bipush (q := 79) (v := nI 79) C dX10_saying_77 rfl (by decide) ?_
        refine V.dup2 (q := 80) C dX10_saying_79 rfl rfl rfl ?_
        refine V.ild (q := 81) (i := 79) C dX10_saying_80 rfl okM_0 rfl rfl (by omega) (by decide) ?_
        refine V.topi (x1 := nI (m)) (show upd (upd (upd now (54 + 3 * m) h) (54 + 3 * m + 1) e) (54 + 3 * m + 2) (-1) 79 = nI m by simp only [upd]; rw [if_neg (by omega), if_neg (by omega), if_neg (by omega)]; exact hm) ?_
        refine V.iconst (q := 82) (v := nI 1) C dX10_saying_81 rfl (by decide) ?_
        refine V.iadd (q := 83) C dX10_saying_82 rfl ?_
        refine V.topi (x1 := nI ((m) + 1)) (nI_add _ _) ?_
        refine V.ist (q := 84) (i := 79) C dX10_saying_83 rfl okM_0 rfl rfl (by omega) (by decide) uM_now ?_
        refine V.iload_n (q := 85) C dX10_saying_84 rfl rfl ?_
        exact V.ireturn C dX10_saying_85 ⟨by simp only [sayingR, hb7, hb17, hb34, Bool.false_eq_true, ↓reduceIte], by simp only [sayingA, newS, hb7, hb17, hb34, Bool.false_eq_true, ↓reduceIte], rfl⟩
      · have hb34 : m = 8 := (nI_eq (by omega) (by omega)).mp hb34
        refine V.bipush (q := 39) (v := -4) C dX10_saying_37 rfl (by decide) ?_
        exact V.ireturn C dX10_saying_39 ⟨by simp only [sayingR, hb7, hb17, hb34, Bool.false_eq_true, ↓reduceIte], by simp only [sayingA, newS, hb7, hb17, hb34, Bool.false_eq_true, ↓reduceIte], rfl⟩
    · refine V.bipush (q := 22) (v := -2) C dX10_saying_20 rfl (by decide) ?_
      exact V.ireturn C dX10_saying_22 ⟨by simp only [sayingR, hb7, hb17, Bool.false_eq_true, ↓reduceIte], by simp only [sayingA, newS, hb7, hb17, Bool.false_eq_true, ↓reduceIte], rfl⟩
def phraseR (A : I1) (m : Nat) (s w : Int32) : Int32 := if inN s m then (if inR w (nI 0) (nI 2) then (if w = nI 2 then noN (A (54 + 3 * ix s + 2)) else A (54 + 3 * ix s + ix w)) else -1) else -1
theorem m_phrase {l : Launch} {g : GG} {X : PHp} {now mind : I1} {th : I1 × Int32} {tx : TXt} {z : Zt} {tr : I1 × Int32} {tp : TPt} {m : Nat} (hm : now 79 = nI m) (hm8 : m ≤ 8) {s w : Int32} : Ct l g yX10_phrase cX10_phrase 3 (some .int) 3 0 0 [rf g (22, 0, 0), .int s, .int w] NN (jn X (hM g now mind th tx z tr tp)) (pI (phraseR now m s w) (jn X (hM g now mind th tx z tr tp))) := by
  refine Ct.of (lv := [some (rf g (22, 0, 0)), some (.int s), some (.int w)]) (by decide +kernel) rfl (Nat.le_of_ble_eq_true rfl) ?_
  intro Γ C
  refine V.aload_n (q := 1) C dX10_phrase_0 rfl rfl ?_
  refine V.iload_n (q := 2) C dX10_phrase_1 rfl rfl ?_
  refine V.callVi (q := 5) C me_X10_isSaying (m_isSaying hm (by omega)) ml_X10_108 dX10_phrase_2 rfl okM ⟨_, rfl⟩ rfl rfl (Nat.le_of_ble_eq_true rfl) (by omega) (Nat.zero_le _) (Nat.zero_le _) ?_
  refine V.if_eqB (q := 8) (tgt := 17) C dX10_phrase_5 rfl rfl (fun hb5 => ?_) (fun hb5 => ?_)
  · refine V.iconst (q := 18) (v := -1) C dX10_phrase_17 rfl (by decide) ?_
    exact V.ireturn C dX10_phrase_18 ⟨by simp only [phraseR, hb5, Bool.false_eq_true, ↓reduceIte], rfl, rfl⟩
  · obtain ⟨i, hi, rfl⟩ := InN_nat (by omega) hb5
    have ei := ix_nI (i := i) (by omega)
    refine V.iload_n (q := 9) C dX10_phrase_8 rfl rfl ?_
    refine V.iconst (q := 10) (v := nI 0) C dX10_phrase_9 rfl (by decide) ?_
    refine V.iconst (q := 11) (v := nI 2) C dX10_phrase_10 rfl (by decide) ?_
    refine V.callSi (q := 14) C me_X10_isIn m_isIn ml_X10_82 dX10_phrase_11 rfl rfl rfl (Nat.le_of_ble_eq_true rfl) (by omega) (Nat.zero_le _) (Nat.zero_le _) ?_
    refine V.if_neB (q := 17) (tgt := 19) C dX10_phrase_14 rfl rfl (fun hb14 => ?_) (fun hb14 => ?_)
    · obtain ⟨j, hj0, hj, rfl⟩ := InR_nat (a := 0) (b := 2) (by omega) (by omega) hb14
      have ej := ix_nI (i := j) (by omega)
      refine V.iload_n (q := 20) C dX10_phrase_19 rfl rfl ?_
      refine V.iconst (q := 21) (v := nI 2) C dX10_phrase_20 rfl (by decide) ?_
      refine V.icmp_ne (q := 24) (tgt := 36) C dX10_phrase_21 rfl rfl (fun hb21 => ?_) (fun hb21 => ?_)
      · refine V.aload_n (q := 37) C dX10_phrase_36 rfl rfl ?_
        refine V.iload_n (q := 38) C dX10_phrase_37 rfl rfl ?_
        refine V.iload_n (q := 39) C dX10_phrase_38 rfl rfl ?_
        refine V.callVi (q := 42) C me_X10_word (m_word (by omega)) ml_X10_90 dX10_phrase_39 rfl okM ⟨_, rfl⟩ rfl rfl (Nat.le_of_ble_eq_true rfl) (by omega) (Nat.zero_le _) (Nat.zero_le _) ?_
        exact V.ireturn C dX10_phrase_42 ⟨by simp only [phraseR, hb5, ei, hb14, ej, hb21, Bool.false_eq_true, ↓reduceIte], rfl, rfl⟩
      · obtain rfl : j = 2 := (nI_eq (by omega) (by omega)).mp hb21
        refine V.aload_n (q := 25) C dX10_phrase_24 rfl rfl ?_
        refine V.iload_n (q := 26) C dX10_phrase_25 rfl rfl ?_
        refine V.iconst (q := 27) (v := nI 2) C dX10_phrase_26 rfl (by decide) ?_
        refine V.callVi (q := 30) C me_X10_word (m_word (by omega)) ml_X10_90 dX10_phrase_27 rfl okM ⟨_, rfl⟩ rfl rfl (Nat.le_of_ble_eq_true rfl) (by omega) (Nat.zero_le _) (Nat.zero_le _) ?_
        refine V.callSi (q := 33) C me_X10_orNever m_orNever ml_X10_117 dX10_phrase_30 rfl rfl rfl (Nat.le_of_ble_eq_true rfl) (by omega) (Nat.zero_le _) (Nat.zero_le _) ?_
        refine V.goto (tgt := 42) C dX10_phrase_33 rfl ?_
        exact V.ireturn C dX10_phrase_42 ⟨by simp only [phraseR, hb5, ei, hb14, ej, hb21, Bool.false_eq_true, ↓reduceIte], rfl, rfl⟩
    · refine V.iconst (q := 18) (v := -1) C dX10_phrase_17 rfl (by decide) ?_
      exact V.ireturn C dX10_phrase_18 ⟨by simp only [phraseR, hb5, ei, hb14, Bool.false_eq_true, ↓reduceIte], rfl, rfl⟩
def aimR (A : I1) (m n : Nat) (s p : Int32) : Int32 := if inN s m then (if p = -1 then noN (A (54 + 3 * ix s + 2)) else if inN p n then noN (A (54 + 3 * ix s + 2)) else -1) else -1
def aimA (A : I1) (m n : Nat) (s p : Int32) : I1 := if inN s m then (if p = -1 then upd A (54 + 3 * ix s + 2) p else if inN p n then upd A (54 + 3 * ix s + 2) p else A) else A
theorem m_aim {l : Launch} {g : GG} {X : PHp} {now mind : I1} {th : I1 × Int32} {tx : TXt} {z : Zt} {tr : I1 × Int32} {tp : TPt} {n : Nat} (hn : now 78 = nI n) (hn6 : n ≤ 6) {m : Nat} (hm : now 79 = nI m) (hm8 : m ≤ 8) {s p : Int32} : Ct l g yX10_aim cX10_aim 3 (some .int) 3 0 0 [rf g (22, 0, 0), .int s, .int p] NN (jn X (hM g now mind th tx z tr tp)) (pI (aimR now m n s p) (jn X (hM g (aimA now m n s p) mind th tx z tr tp))) := by
  refine Ct.of (lv := [some (rf g (22, 0, 0)), some (.int s), some (.int p)]) (by decide +kernel) rfl (Nat.le_of_ble_eq_true rfl) ?_
  intro Γ C
  refine V.aload_n (q := 1) C dX10_aim_0 rfl rfl ?_
  refine V.iload_n (q := 2) C dX10_aim_1 rfl rfl ?_
  refine V.callVi (q := 5) C me_X10_isSaying (m_isSaying hm (by omega)) ml_X10_108 dX10_aim_2 rfl okM ⟨_, rfl⟩ rfl rfl (Nat.le_of_ble_eq_true rfl) (by omega) (Nat.zero_le _) (Nat.zero_le _) ?_
  refine V.if_eqB (q := 8) (tgt := 33) C dX10_aim_5 rfl rfl (fun hb5 => ?_) (fun hb5 => ?_)
  · refine V.iconst (q := 34) (v := -1) C dX10_aim_33 rfl (by decide) ?_
    exact V.ireturn C dX10_aim_34 ⟨by simp only [aimR, hb5, Bool.false_eq_true, ↓reduceIte], by simp only [aimA, hb5, Bool.false_eq_true, ↓reduceIte], rfl⟩
  · obtain ⟨i, hi, rfl⟩ := InN_nat (by omega) hb5
    have ei := ix_nI (i := i) (by omega)
    refine V.iload_n (q := 9) C dX10_aim_8 rfl rfl ?_
    refine V.iconst (q := 10) (v := -1) C dX10_aim_9 rfl (by decide) ?_
    refine V.icmp_eq (q := 13) (tgt := 21) C dX10_aim_10 rfl rfl (fun hb10 => ?_) (fun hb10 => ?_)
    · refine V.aload_n (q := 22) C dX10_aim_21 rfl rfl ?_
      refine V.iload_n (q := 23) C dX10_aim_22 rfl rfl ?_
      refine V.iload_n (q := 24) C dX10_aim_23 rfl rfl ?_
      refine V.callVi (q := 27) C me_X10_aims (m_aims (by omega)) ml_X10_114 dX10_aim_24 rfl okM ⟨_, rfl⟩ rfl rfl (Nat.le_of_ble_eq_true rfl) (by omega) (Nat.zero_le _) (Nat.zero_le _) ?_
      refine V.callSi (q := 30) C me_X10_orNever m_orNever ml_X10_117 dX10_aim_27 rfl rfl rfl (Nat.le_of_ble_eq_true rfl) (by omega) (Nat.zero_le _) (Nat.zero_le _) ?_
      refine V.goto (tgt := 34) C dX10_aim_30 rfl ?_
      exact V.ireturn C dX10_aim_34 ⟨by simp only [aimR, hb5, ei, hb10, Bool.false_eq_true, ↓reduceIte], by simp only [aimA, hb5, ei, hb10, Bool.false_eq_true, ↓reduceIte], rfl⟩
    · refine V.aload_n (q := 14) C dX10_aim_13 rfl rfl ?_
      refine V.iload_n (q := 15) C dX10_aim_14 rfl rfl ?_
      refine V.callVi (q := 18) C me_X10_isOne (m_isOne hn (by omega)) ml_X10_97 dX10_aim_15 rfl okM ⟨_, rfl⟩ rfl rfl (Nat.le_of_ble_eq_true rfl) (by omega) (Nat.zero_le _) (Nat.zero_le _) ?_
      refine V.if_eqB (q := 21) (tgt := 33) C dX10_aim_18 rfl rfl (fun hb18 => ?_) (fun hb18 => ?_)
      · refine V.iconst (q := 34) (v := -1) C dX10_aim_33 rfl (by decide) ?_
        exact V.ireturn C dX10_aim_34 ⟨by simp only [aimR, hb5, ei, hb10, hb18, Bool.false_eq_true, ↓reduceIte], by simp only [aimA, hb5, ei, hb10, hb18, Bool.false_eq_true, ↓reduceIte], rfl⟩
      · refine V.aload_n (q := 22) C dX10_aim_21 rfl rfl ?_
        refine V.iload_n (q := 23) C dX10_aim_22 rfl rfl ?_
        refine V.iload_n (q := 24) C dX10_aim_23 rfl rfl ?_
        refine V.callVi (q := 27) C me_X10_aims (m_aims (by omega)) ml_X10_114 dX10_aim_24 rfl okM ⟨_, rfl⟩ rfl rfl (Nat.le_of_ble_eq_true rfl) (by omega) (Nat.zero_le _) (Nat.zero_le _) ?_
        refine V.callSi (q := 30) C me_X10_orNever m_orNever ml_X10_117 dX10_aim_27 rfl rfl rfl (Nat.le_of_ble_eq_true rfl) (by omega) (Nat.zero_le _) (Nat.zero_le _) ?_
        refine V.goto (tgt := 34) C dX10_aim_30 rfl ?_
        exact V.ireturn C dX10_aim_34 ⟨by simp only [aimR, hb5, ei, hb10, hb18, Bool.false_eq_true, ↓reduceIte], by simp only [aimA, hb5, ei, hb10, hb18, Bool.false_eq_true, ↓reduceIte], rfl⟩
def mendR (A : I1) (n : Nat) (p c : Int32) : Int32 := if inN p n then (if inR c (nI 0) (nI 99) then A (9 * ix p + 2) else -2) else -1
def mendA (A : I1) (n : Nat) (p c : Int32) : I1 := if inN p n then (if inR c (nI 0) (nI 99) then upd A (9 * ix p + 2) c else A) else A
theorem m_mend {l : Launch} {g : GG} {X : PHp} {now mind : I1} {th : I1 × Int32} {tx : TXt} {z : Zt} {tr : I1 × Int32} {tp : TPt} {n : Nat} (hn : now 78 = nI n) (hn6 : n ≤ 6) {p c : Int32} : Ct l g yX10_mend cX10_mend 3 (some .int) 3 0 0 [rf g (22, 0, 0), .int p, .int c] NN (jn X (hM g now mind th tx z tr tp)) (pI (mendR now n p c) (jn X (hM g (mendA now n p c) mind th tx z tr tp))) := by
  refine Ct.of (lv := [some (rf g (22, 0, 0)), some (.int p), some (.int c)]) (by decide +kernel) rfl (Nat.le_of_ble_eq_true rfl) ?_
  intro Γ C
  refine V.aload_n (q := 1) C dX10_mend_0 rfl rfl ?_
  refine V.iload_n (q := 2) C dX10_mend_1 rfl rfl ?_
  refine V.callVi (q := 5) C me_X10_isOne (m_isOne hn (by omega)) ml_X10_97 dX10_mend_2 rfl okM ⟨_, rfl⟩ rfl rfl (Nat.le_of_ble_eq_true rfl) (by omega) (Nat.zero_le _) (Nat.zero_le _) ?_
  refine V.if_neB (q := 8) (tgt := 10) C dX10_mend_5 rfl rfl (fun hb5 => ?_) (fun hb5 => ?_)
  · obtain ⟨i, hi, rfl⟩ := InN_nat (by omega) hb5
    have ei := ix_nI (i := i) (by omega)
    refine V.iload_n (q := 11) C dX10_mend_10 rfl rfl ?_
    refine V.iconst (q := 12) (v := nI 0) C dX10_mend_11 rfl (by decide) ?_
    refine V.bipush (q := 14) (v := nI 99) C dX10_mend_12 rfl (by decide) ?_
    refine V.callSi (q := 17) C me_X10_isIn m_isIn ml_X10_82 dX10_mend_14 rfl rfl rfl (Nat.le_of_ble_eq_true rfl) (by omega) (Nat.zero_le _) (Nat.zero_le _) ?_
    refine V.if_eqB (q := 20) (tgt := 30) C dX10_mend_17 rfl rfl (fun hb17 => ?_) (fun hb17 => ?_)
    · refine V.bipush (q := 32) (v := -2) C dX10_mend_30 rfl (by decide) ?_
      exact V.ireturn C dX10_mend_32 ⟨by simp only [mendR, hb5, ei, hb17, Bool.false_eq_true, ↓reduceIte], by simp only [mendA, hb5, ei, hb17, Bool.false_eq_true, ↓reduceIte], rfl⟩
    · refine V.aload_n (q := 21) C dX10_mend_20 rfl rfl ?_
      refine V.iload_n (q := 22) C dX10_mend_21 rfl rfl ?_
      refine V.iconst (q := 23) (v := nI 2) C dX10_mend_22 rfl (by decide) ?_
      refine V.iload_n (q := 24) C dX10_mend_23 rfl rfl ?_
      refine V.callVi (q := 27) C me_X10_change (m_change (by omega)) ml_X10_93 dX10_mend_24 rfl okM ⟨_, rfl⟩ rfl rfl (Nat.le_of_ble_eq_true rfl) (by omega) (Nat.zero_le _) (Nat.zero_le _) ?_
      refine V.goto (tgt := 32) C dX10_mend_27 rfl ?_
      exact V.ireturn C dX10_mend_32 ⟨by simp only [mendR, hb5, ei, hb17, Bool.false_eq_true, ↓reduceIte], by simp only [mendA, hb5, ei, hb17, Bool.false_eq_true, ↓reduceIte], rfl⟩
  · refine V.iconst (q := 9) (v := -1) C dX10_mend_8 rfl (by decide) ?_
    exact V.ireturn C dX10_mend_9 ⟨by simp only [mendR, hb5, Bool.false_eq_true, ↓reduceIte], by simp only [mendA, hb5, Bool.false_eq_true, ↓reduceIte], rfl⟩
def rowR (A : I1) (n : Nat) (p t c : Int32) : Int32 := if inN p n then (if inR t (nI 0) (nI 3) then (if inR c (nI 0) (nI 9) then (if A (9 * ix p + 0) = nI 6 then A (9 * ix p + (5 + ix t)) else -3) else -2) else -1) else -1
def rowA (A : I1) (n : Nat) (p t c : Int32) : I1 := if inN p n then (if inR t (nI 0) (nI 3) then (if inR c (nI 0) (nI 9) then (if A (9 * ix p + 0) = nI 6 then upd A (9 * ix p + (5 + ix t)) c else A) else A) else A) else A
theorem m_row {l : Launch} {g : GG} {X : PHp} {now mind : I1} {th : I1 × Int32} {tx : TXt} {z : Zt} {tr : I1 × Int32} {tp : TPt} {n : Nat} (hn : now 78 = nI n) (hn6 : n ≤ 6) {p t c : Int32} : Ct l g yX10_row cX10_row 4 (some .int) 3 0 0 [rf g (22, 0, 0), .int p, .int t, .int c] NN (jn X (hM g now mind th tx z tr tp)) (pI (rowR now n p t c) (jn X (hM g (rowA now n p t c) mind th tx z tr tp))) := by
  refine Ct.of (lv := [some (rf g (22, 0, 0)), some (.int p), some (.int t), some (.int c)]) (by decide +kernel) rfl (Nat.le_of_ble_eq_true rfl) ?_
  intro Γ C
  refine V.aload_n (q := 1) C dX10_row_0 rfl rfl ?_
  refine V.iload_n (q := 2) C dX10_row_1 rfl rfl ?_
  refine V.callVi (q := 5) C me_X10_isOne (m_isOne hn (by omega)) ml_X10_97 dX10_row_2 rfl okM ⟨_, rfl⟩ rfl rfl (Nat.le_of_ble_eq_true rfl) (by omega) (Nat.zero_le _) (Nat.zero_le _) ?_
  refine V.if_eqB (q := 8) (tgt := 17) C dX10_row_5 rfl rfl (fun hb5 => ?_) (fun hb5 => ?_)
  · refine V.iconst (q := 18) (v := -1) C dX10_row_17 rfl (by decide) ?_
    exact V.ireturn C dX10_row_18 ⟨by simp only [rowR, hb5, Bool.false_eq_true, ↓reduceIte], by simp only [rowA, hb5, Bool.false_eq_true, ↓reduceIte], rfl⟩
  · obtain ⟨i, hi, rfl⟩ := InN_nat (by omega) hb5
    have ei := ix_nI (i := i) (by omega)
    refine V.iload_n (q := 9) C dX10_row_8 rfl rfl ?_
    refine V.iconst (q := 10) (v := nI 0) C dX10_row_9 rfl (by decide) ?_
    refine V.iconst (q := 11) (v := nI 3) C dX10_row_10 rfl (by decide) ?_
    refine V.callSi (q := 14) C me_X10_isIn m_isIn ml_X10_82 dX10_row_11 rfl rfl rfl (Nat.le_of_ble_eq_true rfl) (by omega) (Nat.zero_le _) (Nat.zero_le _) ?_
    refine V.if_neB (q := 17) (tgt := 19) C dX10_row_14 rfl rfl (fun hb14 => ?_) (fun hb14 => ?_)
    · obtain ⟨j, hj0, hj, rfl⟩ := InR_nat (a := 0) (b := 3) (by omega) (by omega) hb14
      have ej := ix_nI (i := j) (by omega)
      refine V.iload_n (q := 20) C dX10_row_19 rfl rfl ?_
      refine V.iconst (q := 21) (v := nI 0) C dX10_row_20 rfl (by decide) ?_
      refine V.bipush (q := 23) (v := nI 9) C dX10_row_21 rfl (by decide) ?_
      refine V.callSi (q := 26) C me_X10_isIn m_isIn ml_X10_82 dX10_row_23 rfl rfl rfl (Nat.le_of_ble_eq_true rfl) (by omega) (Nat.zero_le _) (Nat.zero_le _) ?_
      refine V.if_neB (q := 29) (tgt := 32) C dX10_row_26 rfl rfl (fun hb26 => ?_) (fun hb26 => ?_)
      · refine V.aload_n (q := 33) C dX10_row_32 rfl rfl ?_
        refine V.iload_n (q := 34) C dX10_row_33 rfl rfl ?_
        refine V.iconst (q := 35) (v := nI 0) C dX10_row_34 rfl (by decide) ?_
        refine V.callVi (q := 38) C me_X10_one (m_one (by omega)) ml_X10_86 dX10_row_35 rfl okM ⟨_, rfl⟩ rfl rfl (Nat.le_of_ble_eq_true rfl) (by omega) (Nat.zero_le _) (Nat.zero_le _) ?_
        refine V.bipush (q := 40) (v := nI 6) C dX10_row_38 rfl (by decide) ?_
        refine V.icmp_ne (q := 43) (tgt := 55) C dX10_row_40 rfl rfl (fun hb40 => ?_) (fun hb40 => ?_)
        · refine V.bipush (q := 57) (v := -3) C dX10_row_55 rfl (by decide) ?_
          exact V.ireturn C dX10_row_57 ⟨by simp only [rowR, hb5, ei, hb14, ej, hb26, hb40, Bool.false_eq_true, ↓reduceIte], by simp only [rowA, hb5, ei, hb14, ej, hb26, hb40, Bool.false_eq_true, ↓reduceIte], rfl⟩
        · refine V.aload_n (q := 44) C dX10_row_43 rfl rfl ?_
          refine V.iload_n (q := 45) C dX10_row_44 rfl rfl ?_
          refine V.iconst (q := 46) (v := nI 5) C dX10_row_45 rfl (by decide) ?_
          refine V.iload_n (q := 47) C dX10_row_46 rfl rfl ?_
          refine V.iadd (q := 48) C dX10_row_47 rfl ?_
          refine V.topi (x1 := nI (5 + j)) (nI_add _ _) ?_
          refine V.iload_n (q := 49) C dX10_row_48 rfl rfl ?_
          refine V.callVi (q := 52) C me_X10_change (m_change (by omega)) ml_X10_93 dX10_row_49 rfl okM ⟨_, rfl⟩ rfl rfl (Nat.le_of_ble_eq_true rfl) (by omega) (Nat.zero_le _) (Nat.zero_le _) ?_
          refine V.goto (tgt := 57) C dX10_row_52 rfl ?_
          exact V.ireturn C dX10_row_57 ⟨by simp only [rowR, hb5, ei, hb14, ej, hb26, hb40, Bool.false_eq_true, ↓reduceIte], by simp only [rowA, hb5, ei, hb14, ej, hb26, hb40, Bool.false_eq_true, ↓reduceIte], rfl⟩
      · refine V.bipush (q := 31) (v := -2) C dX10_row_29 rfl (by decide) ?_
        exact V.ireturn C dX10_row_31 ⟨by simp only [rowR, hb5, ei, hb14, ej, hb26, Bool.false_eq_true, ↓reduceIte], by simp only [rowA, hb5, ei, hb14, ej, hb26, Bool.false_eq_true, ↓reduceIte], rfl⟩
    · refine V.iconst (q := 18) (v := -1) C dX10_row_17 rfl (by decide) ?_
      exact V.ireturn C dX10_row_18 ⟨by simp only [rowR, hb5, ei, hb14, Bool.false_eq_true, ↓reduceIte], by simp only [rowA, hb5, ei, hb14, Bool.false_eq_true, ↓reduceIte], rfl⟩
def feedR (k : Nat) (c : Int32) : Int32 := if inR c (nI 0) (nI 127) then (if k = 100 then -4 else nI (k + 1)) else -2
def feedT (T : I1) (k : Nat) (c : Int32) : I1 := if inR c (nI 0) (nI 127) then (if k = 100 then T else upd T k c) else T
def feedK (k : Nat) (c : Int32) : Nat := if inR c (nI 0) (nI 127) then (if k = 100 then k else k + 1) else k
theorem m_feed {l : Launch} {g : GG} {X : PHp} {now mind : I1} {th : I1 × Int32} {text rules sizes : I1} {ruled : Int32} {z : Zt} {tr : I1 × Int32} {tp : TPt} {k : Nat} (hk : k ≤ 100) {c : Int32} : Ct l g yX10_feed cX10_feed 2 (some .int) 2 0 0 [rf g (22, 0, 0), .int c] NN (jn X (hM g now mind th (text, nI k, rules, sizes, ruled) z tr tp)) (pI (feedR k c) (jn X (hM g now mind th (feedT text k c, nI (feedK k c), rules, sizes, ruled) z tr tp))) := by
  refine Ct.of (lv := [some (rf g (22, 0, 0)), some (.int c)]) (by decide +kernel) rfl (Nat.le_of_ble_eq_true rfl) ?_
  intro Γ C
  refine V.iload_n (q := 1) C dX10_feed_0 rfl rfl ?_
  refine V.iconst (q := 2) (v := nI 0) C dX10_feed_1 rfl (by decide) ?_
  refine V.bipush (q := 4) (v := nI 127) C dX10_feed_2 rfl (by decide) ?_
  refine V.callSi (q := 7) C me_X10_isIn m_isIn ml_X10_82 dX10_feed_4 rfl rfl rfl (Nat.le_of_ble_eq_true rfl) (by omega) (Nat.zero_le _) (Nat.zero_le _) ?_
  refine V.if_neB (q := 10) (tgt := 13) C dX10_feed_7 rfl rfl (fun hb7 => ?_) (fun hb7 => ?_)
  · refine V.aload_n (q := 14) C dX10_feed_13 rfl rfl ?_
    refine V.get (q := 17) C fl_X10_120 dX10_feed_14 rfl okM rfl rfl ?_
    try dsimp only
    refine V.bipush (q := 19) (v := nI 100) C dX10_feed_17 rfl (by decide) ?_
    refine V.icmp_ne (q := 22) (tgt := 25) C dX10_feed_19 rfl rfl (fun hb19 => ?_) (fun hb19 => ?_)
    · have hb19 : ¬ k = 100 := fun e => hb19 (by rw [e])
      refine V.aload_n (q := 26) C dX10_feed_25 rfl rfl ?_
      refine V.get (q := 29) C fl_X10_21 dX10_feed_26 rfl okM rfl rfl ?_
      refine V.aload_n (q := 30) C dX10_feed_29 rfl rfl ?_
      refine V.get (q := 33) C fl_X10_120 dX10_feed_30 rfl okM rfl rfl ?_
      try dsimp only
      refine V.iload_n (q := 34) C dX10_feed_33 rfl rfl ?_
      refine V.ist (q := 35) (i := k) C dX10_feed_34 rfl okM_4 rfl rfl (by omega) (by decide) uM_text ?_
      try dsimp only
      refine V.aload_n (q := 36) C dX10_feed_35 rfl rfl ?_
      refine V.dup (q := 37) C dX10_feed_36 rfl rfl ?_
      refine V.get (q := 40) C fl_X10_120 dX10_feed_37 rfl okM rfl rfl ?_
      try dsimp only
      refine V.iconst (q := 41) (v := nI 1) C dX10_feed_40 rfl (by decide) ?_
      refine V.iadd (q := 42) C dX10_feed_41 rfl ?_
      refine V.topi (x1 := nI (k + 1)) (nI_add _ _) ?_
      refine V.put (q := 45) C fl_X10_120 rfl dX10_feed_42 rfl okM rfl (Nat.le_of_ble_eq_true rfl) rfl rfl uM_texted ?_
      try dsimp only
      refine V.aload_n (q := 46) C dX10_feed_45 rfl rfl ?_
      refine V.get (q := 49) C fl_X10_120 dX10_feed_46 rfl okM rfl rfl ?_
      try dsimp only
      exact V.ireturn C dX10_feed_49 ⟨by simp only [feedR, hb7, hb19, Bool.false_eq_true, ↓reduceIte], by simp only [feedT, feedK, hb7, hb19, Bool.false_eq_true, ↓reduceIte], rfl⟩
    · have hb19 : k = 100 := (nI_eq (by omega) (by omega)).mp hb19
      refine V.bipush (q := 24) (v := -4) C dX10_feed_22 rfl (by decide) ?_
      exact V.ireturn C dX10_feed_24 ⟨by simp only [feedR, hb7, hb19, Bool.false_eq_true, ↓reduceIte], by simp only [feedT, feedK, hb7, hb19, Bool.false_eq_true, ↓reduceIte], rfl⟩
  · refine V.bipush (q := 12) (v := -2) C dX10_feed_10 rfl (by decide) ?_
    exact V.ireturn C dX10_feed_12 ⟨by simp only [feedR, hb7, Bool.false_eq_true, ↓reduceIte], by simp only [feedT, feedK, hb7, Bool.false_eq_true, ↓reduceIte], rfl⟩
