/-! the reference's constructor -/
theorem vtM : vaT 158 = (22, 0, 0) ∧ vaT 159 = (23, 0, 0) ∧ vaT 160 = (23, 1, 0) ∧ vaT 161 = (23, 2, 0) ∧ vaT 162 = (23, 4, 0) ∧ vaT 163 = (23, 6, 0) ∧ vaT 164 = (23, 7, 0) ∧ vaT 165 = (23, 9, 0) ∧ vaT 166 = (23, 16, 0) ∧ vaT 167 = (23, 17, 0) ∧ vaT 168 = (23, 18, 0) ∧ vaT 169 = (23, 19, 0) ∧ vaT 170 = (23, 20, 0) ∧ vaT 171 = (23, 21, 0) ∧ vaT 172 = (23, 22, 0) ∧ vaT 173 = (23, 23, 0) ∧ vaT 174 = (23, 24, 0) ∧ vaT 175 = (23, 26, 0) ∧ vaT 176 = (23, 27, 0) ∧ vaT 177 = (23, 28, 0) ∧ vaT 178 = (23, 29, 0) := by decide +kernel
theorem V.forget {l : Launch} {Γ : Cxt} {g : GG} {nL : Nat} {Q : State → Prop} {cells slots n : Nat} {P X : PHp} {pc : Nat} {lv : List (Option Value)} {st : List Value} {i : Nat} {L : List Nat} {a : VA} {e : va_E} (hA : X a = e) (hD : Dn g P i L n X) (k : ∀ Y : PHp, Y a = e → Dn g P i L n Y → V l Γ g nL Q cells slots n Y pc lv st) : V l Γ g nL Q cells slots n X pc lv st := k X hA hD
theorem aC_eq9 {g : GG} {n : Nat} {f f1 : I1} (h : ∀ j, j < n → f j = f1 j) : aC g n f = aC g n f1 := by rw [aC, aC, nrm_eq h]
set_option maxHeartbeats 4000000 in
theorem c_i10 {l : Launch} {g : GG} {PH : PHp} (hP : PH (22, 0, 0) = .inr (10, [.null, .null, .null, .int 0, .null, .int 0, .null, .null, .int 0, .null, .int 0, .int 0, .int 0, .int 0, .int 0, .int 0, .null, .null, .null, .null, .null, .null, .null, .null, .null, .int 0, .null, .null, .null, .null])) : Ct l g yX10_init cX10_init 1 none 1 20 1784 [rf g (22, 0, 0)] 159 PH (pN g PH 158 179) := by
  refine Ct.of (lv := [some (rf g (22, 0, 0))]) (by decide +kernel) rfl (Nat.le_of_ble_eq_true rfl) ?_
  intro Γ C
  have hNN : NN = 179 := rfl
  obtain ⟨m0, m1, m2, m3, m4, m5, m6, m7, m8, m9, m10, m11, m12, m13, m14, m15, m16, m17, m18, m19, m20⟩ := vtM
  have d0 := Dn.base (g := g) (PH := PH) (i := 158)
  refine V.aload_n (q := 1) C dX10_init_0 rfl rfl ?_
  refine V.objInit (q := 4) C (tb_at 770 (by decide +kernel) rfl) dX10_init_1 rfl (Nat.le_of_ble_eq_true rfl) (by omega) ?_
  refine V.aload_n (q := 5) C dX10_init_4 rfl rfl ?_
  refine V.sipush (q := 8) (v := nI 152) C dX10_init_5 rfl (by decide) ?_
  refine V.newI (q := 10) (N := 152) (a := (23, 0, 0)) (PH1 := up PH (23, 0, 0) (aI g 152 (fun _ => nI 0))) C rfl (by omega) dX10_init_8 rfl (by omega) m1 rfl (by omega) (by omega) ?_
  refine V.putF (q := 13) C fl_X10_9 rfl rfl rfl dX10_init_10 rfl (Ok_of m0 (by omega) (by omega)) (up_n m0 m1 (by omega) (by omega) (by omega) hP) (Nat.le_of_ble_eq_true rfl) rfl rfl (PH1 := up (up PH (23, 0, 0) (aI g 152 (fun _ => nI 0))) (22, 0, 0) (.inr (10, [rf g (23, 0, 0), .null, .null, .int 0, .null, .int 0, .null, .null, .int 0, .null, .int 0, .int 0, .int 0, .int 0, .int 0, .int 0, .null, .null, .null, .null, .null, .null, .null, .null, .null, .int 0, .null, .null, .null, .null]))) rfl ?_
  refine V.cs (c2 := 1) (s2 := 152) (by decide) (by decide) (V.nn (n2 := 160) (by decide) ?_)
  refine V.forget (P := PH) (i := 158) (L := [158]) (a := (22, 0, 0)) (e := .inr (10, [rf g (23, 0, 0), .null, .null, .int 0, .null, .int 0, .null, .null, .int 0, .null, .int 0, .int 0, .int 0, .int 0, .int 0, .int 0, .null, .null, .null, .null, .null, .null, .null, .null, .null, .int 0, .null, .null, .null, .null])) up_eq (Dn.put (Dn.arr (n := 159) d0 (by omega) (by omega) m1 (rfl)) (by omega) (by omega) m0 (by simp)) (fun Y0 a0 D0 => ?_)
  refine V.aload_n (q := 14) C dX10_init_13 rfl rfl ?_
  refine V.sipush (q := 17) (v := nI 152) C dX10_init_14 rfl (by decide) ?_
  refine V.newI (q := 19) (N := 152) (a := (23, 1, 0)) (PH1 := up Y0 (23, 1, 0) (aI g 152 (fun _ => nI 0))) C rfl (by omega) dX10_init_17 rfl (by omega) m2 rfl (by omega) (by omega) ?_
  refine V.putF (q := 22) C fl_X10_15 rfl rfl rfl dX10_init_19 rfl (Ok_of m0 (by omega) (by omega)) (up_n m0 m2 (by omega) (by omega) (by omega) a0) (Nat.le_of_ble_eq_true rfl) rfl rfl (PH1 := up (up Y0 (23, 1, 0) (aI g 152 (fun _ => nI 0))) (22, 0, 0) (.inr (10, [rf g (23, 0, 0), rf g (23, 1, 0), .null, .int 0, .null, .int 0, .null, .null, .int 0, .null, .int 0, .int 0, .int 0, .int 0, .int 0, .int 0, .null, .null, .null, .null, .null, .null, .null, .null, .null, .int 0, .null, .null, .null, .null]))) rfl ?_
  refine V.cs (c2 := 2) (s2 := 304) (by decide) (by decide) (V.nn (n2 := 161) (by decide) ?_)
  refine V.forget (P := PH) (i := 158) (L := [158]) (a := (22, 0, 0)) (e := .inr (10, [rf g (23, 0, 0), rf g (23, 1, 0), .null, .int 0, .null, .int 0, .null, .null, .int 0, .null, .int 0, .int 0, .int 0, .int 0, .int 0, .int 0, .null, .null, .null, .null, .null, .null, .null, .null, .null, .int 0, .null, .null, .null, .null])) up_eq (Dn.put (Dn.arr (n := 160) D0 (by omega) (by omega) m2 (rfl)) (by omega) (by omega) m0 (by simp)) (fun Y1 a1 D1 => ?_)
  refine V.aload_n (q := 23) C dX10_init_22 rfl rfl ?_
  refine V.sipush (q := 26) (v := nI 152) C dX10_init_23 rfl (by decide) ?_
  refine V.newI (q := 28) (N := 152) (a := (23, 2, 0)) (PH1 := up Y1 (23, 2, 0) (aI g 152 (fun _ => nI 0))) C rfl (by omega) dX10_init_26 rfl (by omega) m3 rfl (by omega) (by omega) ?_
  refine V.putF (q := 31) C fl_X10_18 rfl rfl rfl dX10_init_28 rfl (Ok_of m0 (by omega) (by omega)) (up_n m0 m3 (by omega) (by omega) (by omega) a1) (Nat.le_of_ble_eq_true rfl) rfl rfl (PH1 := up (up Y1 (23, 2, 0) (aI g 152 (fun _ => nI 0))) (22, 0, 0) (.inr (10, [rf g (23, 0, 0), rf g (23, 1, 0), rf g (23, 2, 0), .int 0, .null, .int 0, .null, .null, .int 0, .null, .int 0, .int 0, .int 0, .int 0, .int 0, .int 0, .null, .null, .null, .null, .null, .null, .null, .null, .null, .int 0, .null, .null, .null, .null]))) rfl ?_
  refine V.cs (c2 := 3) (s2 := 456) (by decide) (by decide) (V.nn (n2 := 162) (by decide) ?_)
  refine V.forget (P := PH) (i := 158) (L := [158]) (a := (22, 0, 0)) (e := .inr (10, [rf g (23, 0, 0), rf g (23, 1, 0), rf g (23, 2, 0), .int 0, .null, .int 0, .null, .null, .int 0, .null, .int 0, .int 0, .int 0, .int 0, .int 0, .int 0, .null, .null, .null, .null, .null, .null, .null, .null, .null, .int 0, .null, .null, .null, .null])) up_eq (Dn.put (Dn.arr (n := 161) D1 (by omega) (by omega) m3 (rfl)) (by omega) (by omega) m0 (by simp)) (fun Y2 a2 D2 => ?_)
  refine V.aload_n (q := 32) C dX10_init_31 rfl rfl ?_
  refine V.bipush (q := 34) (v := nI 100) C dX10_init_32 rfl (by decide) ?_
  refine V.newI (q := 36) (N := 100) (a := (23, 4, 0)) (PH1 := up Y2 (23, 4, 0) (aI g 100 (fun _ => nI 0))) C rfl (by omega) dX10_init_34 rfl (by omega) m4 rfl (by omega) (by omega) ?_
  refine V.putF (q := 39) C fl_X10_21 rfl rfl rfl dX10_init_36 rfl (Ok_of m0 (by omega) (by omega)) (up_n m0 m4 (by omega) (by omega) (by omega) a2) (Nat.le_of_ble_eq_true rfl) rfl rfl (PH1 := up (up Y2 (23, 4, 0) (aI g 100 (fun _ => nI 0))) (22, 0, 0) (.inr (10, [rf g (23, 0, 0), rf g (23, 1, 0), rf g (23, 2, 0), .int 0, rf g (23, 4, 0), .int 0, .null, .null, .int 0, .null, .int 0, .int 0, .int 0, .int 0, .int 0, .int 0, .null, .null, .null, .null, .null, .null, .null, .null, .null, .int 0, .null, .null, .null, .null]))) rfl ?_
  refine V.cs (c2 := 4) (s2 := 556) (by decide) (by decide) (V.nn (n2 := 163) (by decide) ?_)
  refine V.forget (P := PH) (i := 158) (L := [158]) (a := (22, 0, 0)) (e := .inr (10, [rf g (23, 0, 0), rf g (23, 1, 0), rf g (23, 2, 0), .int 0, rf g (23, 4, 0), .int 0, .null, .null, .int 0, .null, .int 0, .int 0, .int 0, .int 0, .int 0, .int 0, .null, .null, .null, .null, .null, .null, .null, .null, .null, .int 0, .null, .null, .null, .null])) up_eq (Dn.put (Dn.arr (n := 162) D2 (by omega) (by omega) m4 (rfl)) (by omega) (by omega) m0 (by simp)) (fun Y3 a3 D3 => ?_)
  refine V.aload_n (q := 40) C dX10_init_39 rfl rfl ?_
  refine V.sipush (q := 43) (v := nI 600) C dX10_init_40 rfl (by decide) ?_
  refine V.newI (q := 45) (N := 600) (a := (23, 6, 0)) (PH1 := up Y3 (23, 6, 0) (aI g 600 (fun _ => nI 0))) C rfl (by omega) dX10_init_43 rfl (by omega) m5 rfl (by omega) (by omega) ?_
  refine V.putF (q := 48) C fl_X10_24 rfl rfl rfl dX10_init_45 rfl (Ok_of m0 (by omega) (by omega)) (up_n m0 m5 (by omega) (by omega) (by omega) a3) (Nat.le_of_ble_eq_true rfl) rfl rfl (PH1 := up (up Y3 (23, 6, 0) (aI g 600 (fun _ => nI 0))) (22, 0, 0) (.inr (10, [rf g (23, 0, 0), rf g (23, 1, 0), rf g (23, 2, 0), .int 0, rf g (23, 4, 0), .int 0, rf g (23, 6, 0), .null, .int 0, .null, .int 0, .int 0, .int 0, .int 0, .int 0, .int 0, .null, .null, .null, .null, .null, .null, .null, .null, .null, .int 0, .null, .null, .null, .null]))) rfl ?_
  refine V.cs (c2 := 5) (s2 := 1156) (by decide) (by decide) (V.nn (n2 := 164) (by decide) ?_)
  refine V.forget (P := PH) (i := 158) (L := [158]) (a := (22, 0, 0)) (e := .inr (10, [rf g (23, 0, 0), rf g (23, 1, 0), rf g (23, 2, 0), .int 0, rf g (23, 4, 0), .int 0, rf g (23, 6, 0), .null, .int 0, .null, .int 0, .int 0, .int 0, .int 0, .int 0, .int 0, .null, .null, .null, .null, .null, .null, .null, .null, .null, .int 0, .null, .null, .null, .null])) up_eq (Dn.put (Dn.arr (n := 163) D3 (by omega) (by omega) m5 (rfl)) (by omega) (by omega) m0 (by simp)) (fun Y4 a4 D4 => ?_)
  refine V.aload_n (q := 49) C dX10_init_48 rfl rfl ?_
  refine V.bipush (q := 51) (v := nI 6) C dX10_init_49 rfl (by decide) ?_
  refine V.newI (q := 53) (N := 6) (a := (23, 7, 0)) (PH1 := up Y4 (23, 7, 0) (aI g 6 (fun _ => nI 0))) C rfl (by omega) dX10_init_51 rfl (by omega) m6 rfl (by omega) (by omega) ?_
  refine V.putF (q := 56) C fl_X10_27 rfl rfl rfl dX10_init_53 rfl (Ok_of m0 (by omega) (by omega)) (up_n m0 m6 (by omega) (by omega) (by omega) a4) (Nat.le_of_ble_eq_true rfl) rfl rfl (PH1 := up (up Y4 (23, 7, 0) (aI g 6 (fun _ => nI 0))) (22, 0, 0) (.inr (10, [rf g (23, 0, 0), rf g (23, 1, 0), rf g (23, 2, 0), .int 0, rf g (23, 4, 0), .int 0, rf g (23, 6, 0), rf g (23, 7, 0), .int 0, .null, .int 0, .int 0, .int 0, .int 0, .int 0, .int 0, .null, .null, .null, .null, .null, .null, .null, .null, .null, .int 0, .null, .null, .null, .null]))) rfl ?_
  refine V.cs (c2 := 6) (s2 := 1162) (by decide) (by decide) (V.nn (n2 := 165) (by decide) ?_)
  refine V.forget (P := PH) (i := 158) (L := [158]) (a := (22, 0, 0)) (e := .inr (10, [rf g (23, 0, 0), rf g (23, 1, 0), rf g (23, 2, 0), .int 0, rf g (23, 4, 0), .int 0, rf g (23, 6, 0), rf g (23, 7, 0), .int 0, .null, .int 0, .int 0, .int 0, .int 0, .int 0, .int 0, .null, .null, .null, .null, .null, .null, .null, .null, .null, .int 0, .null, .null, .null, .null])) up_eq (Dn.put (Dn.arr (n := 164) D4 (by omega) (by omega) m6 (rfl)) (by omega) (by omega) m0 (by simp)) (fun Y5 a5 D5 => ?_)
  refine V.aload_n (q := 57) C dX10_init_56 rfl rfl ?_
  refine V.bipush (q := 59) (v := nI 100) C dX10_init_57 rfl (by decide) ?_
  refine V.newI (q := 61) (N := 100) (a := (23, 9, 0)) (PH1 := up Y5 (23, 9, 0) (aI g 100 (fun _ => nI 0))) C rfl (by omega) dX10_init_59 rfl (by omega) m7 rfl (by omega) (by omega) ?_
  refine V.putF (q := 64) C fl_X10_30 rfl rfl rfl dX10_init_61 rfl (Ok_of m0 (by omega) (by omega)) (up_n m0 m7 (by omega) (by omega) (by omega) a5) (Nat.le_of_ble_eq_true rfl) rfl rfl (PH1 := up (up Y5 (23, 9, 0) (aI g 100 (fun _ => nI 0))) (22, 0, 0) (.inr (10, [rf g (23, 0, 0), rf g (23, 1, 0), rf g (23, 2, 0), .int 0, rf g (23, 4, 0), .int 0, rf g (23, 6, 0), rf g (23, 7, 0), .int 0, rf g (23, 9, 0), .int 0, .int 0, .int 0, .int 0, .int 0, .int 0, .null, .null, .null, .null, .null, .null, .null, .null, .null, .int 0, .null, .null, .null, .null]))) rfl ?_
  refine V.cs (c2 := 7) (s2 := 1262) (by decide) (by decide) (V.nn (n2 := 166) (by decide) ?_)
  refine V.forget (P := PH) (i := 158) (L := [158]) (a := (22, 0, 0)) (e := .inr (10, [rf g (23, 0, 0), rf g (23, 1, 0), rf g (23, 2, 0), .int 0, rf g (23, 4, 0), .int 0, rf g (23, 6, 0), rf g (23, 7, 0), .int 0, rf g (23, 9, 0), .int 0, .int 0, .int 0, .int 0, .int 0, .int 0, .null, .null, .null, .null, .null, .null, .null, .null, .null, .int 0, .null, .null, .null, .null])) up_eq (Dn.put (Dn.arr (n := 165) D5 (by omega) (by omega) m7 (rfl)) (by omega) (by omega) m0 (by simp)) (fun Y6 a6 D6 => ?_)
  refine V.aload_n (q := 65) C dX10_init_64 rfl rfl ?_
  refine V.bipush (q := 67) (v := nI 6) C dX10_init_65 rfl (by decide) ?_
  refine V.newI (q := 69) (N := 6) (a := (23, 16, 0)) (PH1 := up Y6 (23, 16, 0) (aI g 6 (fun _ => nI 0))) C rfl (by omega) dX10_init_67 rfl (by omega) m8 rfl (by omega) (by omega) ?_
  refine V.putF (q := 72) C fl_X10_33 rfl rfl rfl dX10_init_69 rfl (Ok_of m0 (by omega) (by omega)) (up_n m0 m8 (by omega) (by omega) (by omega) a6) (Nat.le_of_ble_eq_true rfl) rfl rfl (PH1 := up (up Y6 (23, 16, 0) (aI g 6 (fun _ => nI 0))) (22, 0, 0) (.inr (10, [rf g (23, 0, 0), rf g (23, 1, 0), rf g (23, 2, 0), .int 0, rf g (23, 4, 0), .int 0, rf g (23, 6, 0), rf g (23, 7, 0), .int 0, rf g (23, 9, 0), .int 0, .int 0, .int 0, .int 0, .int 0, .int 0, rf g (23, 16, 0), .null, .null, .null, .null, .null, .null, .null, .null, .int 0, .null, .null, .null, .null]))) rfl ?_
  refine V.cs (c2 := 8) (s2 := 1268) (by decide) (by decide) (V.nn (n2 := 167) (by decide) ?_)
  refine V.forget (P := PH) (i := 158) (L := [158]) (a := (22, 0, 0)) (e := .inr (10, [rf g (23, 0, 0), rf g (23, 1, 0), rf g (23, 2, 0), .int 0, rf g (23, 4, 0), .int 0, rf g (23, 6, 0), rf g (23, 7, 0), .int 0, rf g (23, 9, 0), .int 0, .int 0, .int 0, .int 0, .int 0, .int 0, rf g (23, 16, 0), .null, .null, .null, .null, .null, .null, .null, .null, .int 0, .null, .null, .null, .null])) up_eq (Dn.put (Dn.arr (n := 166) D6 (by omega) (by omega) m8 (rfl)) (by omega) (by omega) m0 (by simp)) (fun Y7 a7 D7 => ?_)
  refine V.aload_n (q := 73) C dX10_init_72 rfl rfl ?_
  refine V.bipush (q := 75) (v := nI 6) C dX10_init_73 rfl (by decide) ?_
  refine V.newC (q := 77) (N := 6) (a := (23, 17, 0)) (PH1 := up Y7 (23, 17, 0) (aC g 6 (fun _ => nI 0))) C rfl (by omega) dX10_init_75 rfl (by omega) m9 rfl (by omega) (by omega) ?_
  refine V.dup (q := 78) C dX10_init_77 rfl rfl ?_
  refine V.iconst (q := 79) (v := nI 0) C dX10_init_78 rfl (by decide) ?_
  refine V.bipush (q := 81) (v := nI 112) C dX10_init_79 rfl (by decide) ?_
  refine V.cst (q := 82) (i := 0) C dX10_init_81 rfl (Ok_of m9 (by omega) (by omega)) up_eq rfl (by omega) (by decide) rfl (PH1 := up Y7 (23, 17, 0) (aC g 6 (upd (fun _ => nI 0) 0 (nI 112)))) up_up ?_
  refine V.dup (q := 83) C dX10_init_82 rfl rfl ?_
  refine V.iconst (q := 84) (v := nI 1) C dX10_init_83 rfl (by decide) ?_
  refine V.bipush (q := 86) (v := nI 107) C dX10_init_84 rfl (by decide) ?_
  refine V.cst (q := 87) (i := 1) C dX10_init_86 rfl (Ok_of m9 (by omega) (by omega)) up_eq rfl (by omega) (by decide) rfl (PH1 := up Y7 (23, 17, 0) (aC g 6 (upd (upd (fun _ => nI 0) 0 (nI 112)) 1 (nI 107)))) up_up ?_
  refine V.dup (q := 88) C dX10_init_87 rfl rfl ?_
  refine V.iconst (q := 89) (v := nI 2) C dX10_init_88 rfl (by decide) ?_
  refine V.bipush (q := 91) (v := nI 118) C dX10_init_89 rfl (by decide) ?_
  refine V.cst (q := 92) (i := 2) C dX10_init_91 rfl (Ok_of m9 (by omega) (by omega)) up_eq rfl (by omega) (by decide) rfl (PH1 := up Y7 (23, 17, 0) (aC g 6 (upd (upd (upd (fun _ => nI 0) 0 (nI 112)) 1 (nI 107)) 2 (nI 118)))) up_up ?_
  refine V.dup (q := 93) C dX10_init_92 rfl rfl ?_
  refine V.iconst (q := 94) (v := nI 3) C dX10_init_93 rfl (by decide) ?_
  refine V.bipush (q := 96) (v := nI 115) C dX10_init_94 rfl (by decide) ?_
  refine V.cst (q := 97) (i := 3) C dX10_init_96 rfl (Ok_of m9 (by omega) (by omega)) up_eq rfl (by omega) (by decide) rfl (PH1 := up Y7 (23, 17, 0) (aC g 6 (upd (upd (upd (upd (fun _ => nI 0) 0 (nI 112)) 1 (nI 107)) 2 (nI 118)) 3 (nI 115)))) up_up ?_
  refine V.dup (q := 98) C dX10_init_97 rfl rfl ?_
  refine V.iconst (q := 99) (v := nI 4) C dX10_init_98 rfl (by decide) ?_
  refine V.bipush (q := 101) (v := nI 99) C dX10_init_99 rfl (by decide) ?_
  refine V.cst (q := 102) (i := 4) C dX10_init_101 rfl (Ok_of m9 (by omega) (by omega)) up_eq rfl (by omega) (by decide) rfl (PH1 := up Y7 (23, 17, 0) (aC g 6 (upd (upd (upd (upd (upd (fun _ => nI 0) 0 (nI 112)) 1 (nI 107)) 2 (nI 118)) 3 (nI 115)) 4 (nI 99)))) up_up ?_
  refine V.dup (q := 103) C dX10_init_102 rfl rfl ?_
  refine V.iconst (q := 104) (v := nI 5) C dX10_init_103 rfl (by decide) ?_
  refine V.bipush (q := 106) (v := nI 100) C dX10_init_104 rfl (by decide) ?_
  refine V.cst (q := 107) (i := 5) C dX10_init_106 rfl (Ok_of m9 (by omega) (by omega)) up_eq rfl (by omega) (by decide) rfl (PH1 := up Y7 (23, 17, 0) (aC g 6 (upd (upd (upd (upd (upd (upd (fun _ => nI 0) 0 (nI 112)) 1 (nI 107)) 2 (nI 118)) 3 (nI 115)) 4 (nI 99)) 5 (nI 100)))) up_up ?_
  refine V.putF (q := 110) C fl_X10_36 rfl rfl rfl dX10_init_107 rfl (Ok_of m0 (by omega) (by omega)) (up_n m0 m9 (by omega) (by omega) (by omega) a7) (Nat.le_of_ble_eq_true rfl) rfl rfl (PH1 := up (up Y7 (23, 17, 0) (aC g 6 (upd (upd (upd (upd (upd (upd (fun _ => nI 0) 0 (nI 112)) 1 (nI 107)) 2 (nI 118)) 3 (nI 115)) 4 (nI 99)) 5 (nI 100)))) (22, 0, 0) (.inr (10, [rf g (23, 0, 0), rf g (23, 1, 0), rf g (23, 2, 0), .int 0, rf g (23, 4, 0), .int 0, rf g (23, 6, 0), rf g (23, 7, 0), .int 0, rf g (23, 9, 0), .int 0, .int 0, .int 0, .int 0, .int 0, .int 0, rf g (23, 16, 0), rf g (23, 17, 0), .null, .null, .null, .null, .null, .null, .null, .int 0, .null, .null, .null, .null]))) rfl ?_
  refine V.cs (c2 := 9) (s2 := 1274) (by decide) (by decide) (V.nn (n2 := 168) (by decide) ?_)
  refine V.forget (P := PH) (i := 158) (L := [158]) (a := (22, 0, 0)) (e := .inr (10, [rf g (23, 0, 0), rf g (23, 1, 0), rf g (23, 2, 0), .int 0, rf g (23, 4, 0), .int 0, rf g (23, 6, 0), rf g (23, 7, 0), .int 0, rf g (23, 9, 0), .int 0, .int 0, .int 0, .int 0, .int 0, .int 0, rf g (23, 16, 0), rf g (23, 17, 0), .null, .null, .null, .null, .null, .null, .null, .int 0, .null, .null, .null, .null])) up_eq (Dn.put (Dn.arr (n := 167) D7 (by omega) (by omega) m9 (aC_eq9 (by decide +kernel))) (by omega) (by omega) m0 (by simp)) (fun Y8 a8 D8 => ?_)
  refine V.aload_n (q := 111) C dX10_init_110 rfl rfl ?_
  refine V.iconst (q := 112) (v := nI 3) C dX10_init_111 rfl (by decide) ?_
  refine V.newC (q := 114) (N := 3) (a := (23, 18, 0)) (PH1 := up Y8 (23, 18, 0) (aC g 3 (fun _ => nI 0))) C rfl (by omega) dX10_init_112 rfl (by omega) m10 rfl (by omega) (by omega) ?_
  refine V.dup (q := 115) C dX10_init_114 rfl rfl ?_
  refine V.iconst (q := 116) (v := nI 0) C dX10_init_115 rfl (by decide) ?_
  refine V.bipush (q := 118) (v := nI 102) C dX10_init_116 rfl (by decide) ?_
  refine V.cst (q := 119) (i := 0) C dX10_init_118 rfl (Ok_of m10 (by omega) (by omega)) up_eq rfl (by omega) (by decide) rfl (PH1 := up Y8 (23, 18, 0) (aC g 3 (upd (fun _ => nI 0) 0 (nI 102)))) up_up ?_
  refine V.dup (q := 120) C dX10_init_119 rfl rfl ?_
  refine V.iconst (q := 121) (v := nI 1) C dX10_init_120 rfl (by decide) ?_
  refine V.bipush (q := 123) (v := nI 119) C dX10_init_121 rfl (by decide) ?_
  refine V.cst (q := 124) (i := 1) C dX10_init_123 rfl (Ok_of m10 (by omega) (by omega)) up_eq rfl (by omega) (by decide) rfl (PH1 := up Y8 (23, 18, 0) (aC g 3 (upd (upd (fun _ => nI 0) 0 (nI 102)) 1 (nI 119)))) up_up ?_
  refine V.dup (q := 125) C dX10_init_124 rfl rfl ?_
  refine V.iconst (q := 126) (v := nI 2) C dX10_init_125 rfl (by decide) ?_
  refine V.bipush (q := 128) (v := nI 114) C dX10_init_126 rfl (by decide) ?_
  refine V.cst (q := 129) (i := 2) C dX10_init_128 rfl (Ok_of m10 (by omega) (by omega)) up_eq rfl (by omega) (by decide) rfl (PH1 := up Y8 (23, 18, 0) (aC g 3 (upd (upd (upd (fun _ => nI 0) 0 (nI 102)) 1 (nI 119)) 2 (nI 114)))) up_up ?_
  refine V.putF (q := 132) C fl_X10_40 rfl rfl rfl dX10_init_129 rfl (Ok_of m0 (by omega) (by omega)) (up_n m0 m10 (by omega) (by omega) (by omega) a8) (Nat.le_of_ble_eq_true rfl) rfl rfl (PH1 := up (up Y8 (23, 18, 0) (aC g 3 (upd (upd (upd (fun _ => nI 0) 0 (nI 102)) 1 (nI 119)) 2 (nI 114)))) (22, 0, 0) (.inr (10, [rf g (23, 0, 0), rf g (23, 1, 0), rf g (23, 2, 0), .int 0, rf g (23, 4, 0), .int 0, rf g (23, 6, 0), rf g (23, 7, 0), .int 0, rf g (23, 9, 0), .int 0, .int 0, .int 0, .int 0, .int 0, .int 0, rf g (23, 16, 0), rf g (23, 17, 0), rf g (23, 18, 0), .null, .null, .null, .null, .null, .null, .int 0, .null, .null, .null, .null]))) rfl ?_
  refine V.cs (c2 := 10) (s2 := 1277) (by decide) (by decide) (V.nn (n2 := 169) (by decide) ?_)
  refine V.forget (P := PH) (i := 158) (L := [158]) (a := (22, 0, 0)) (e := .inr (10, [rf g (23, 0, 0), rf g (23, 1, 0), rf g (23, 2, 0), .int 0, rf g (23, 4, 0), .int 0, rf g (23, 6, 0), rf g (23, 7, 0), .int 0, rf g (23, 9, 0), .int 0, .int 0, .int 0, .int 0, .int 0, .int 0, rf g (23, 16, 0), rf g (23, 17, 0), rf g (23, 18, 0), .null, .null, .null, .null, .null, .null, .int 0, .null, .null, .null, .null])) up_eq (Dn.put (Dn.arr (n := 168) D8 (by omega) (by omega) m10 (aC_eq9 (by decide +kernel))) (by omega) (by omega) m0 (by simp)) (fun Y9 a9 D9 => ?_)
  refine V.aload_n (q := 133) C dX10_init_132 rfl rfl ?_
  refine V.bipush (q := 135) (v := nI 15) C dX10_init_133 rfl (by decide) ?_
  refine V.newC (q := 137) (N := 15) (a := (23, 19, 0)) (PH1 := up Y9 (23, 19, 0) (aC g 15 (fun _ => nI 0))) C rfl (by omega) dX10_init_135 rfl (by omega) m11 rfl (by omega) (by omega) ?_
  refine V.dup (q := 138) C dX10_init_137 rfl rfl ?_
  refine V.iconst (q := 139) (v := nI 0) C dX10_init_138 rfl (by decide) ?_
  refine V.bipush (q := 141) (v := nI 102) C dX10_init_139 rfl (by decide) ?_
  refine V.cst (q := 142) (i := 0) C dX10_init_141 rfl (Ok_of m11 (by omega) (by omega)) up_eq rfl (by omega) (by decide) rfl (PH1 := up Y9 (23, 19, 0) (aC g 15 (upd (fun _ => nI 0) 0 (nI 102)))) up_up ?_
  refine V.dup (q := 143) C dX10_init_142 rfl rfl ?_
  refine V.iconst (q := 144) (v := nI 1) C dX10_init_143 rfl (by decide) ?_
  refine V.bipush (q := 146) (v := nI 105) C dX10_init_144 rfl (by decide) ?_
  refine V.cst (q := 147) (i := 1) C dX10_init_146 rfl (Ok_of m11 (by omega) (by omega)) up_eq rfl (by omega) (by decide) rfl (PH1 := up Y9 (23, 19, 0) (aC g 15 (upd (upd (fun _ => nI 0) 0 (nI 102)) 1 (nI 105)))) up_up ?_
  refine V.dup (q := 148) C dX10_init_147 rfl rfl ?_
  refine V.iconst (q := 149) (v := nI 2) C dX10_init_148 rfl (by decide) ?_
  refine V.bipush (q := 151) (v := nI 114) C dX10_init_149 rfl (by decide) ?_
  refine V.cst (q := 152) (i := 2) C dX10_init_151 rfl (Ok_of m11 (by omega) (by omega)) up_eq rfl (by omega) (by decide) rfl (PH1 := up Y9 (23, 19, 0) (aC g 15 (upd (upd (upd (fun _ => nI 0) 0 (nI 102)) 1 (nI 105)) 2 (nI 114)))) up_up ?_
  refine V.dup (q := 153) C dX10_init_152 rfl rfl ?_
  refine V.iconst (q := 154) (v := nI 3) C dX10_init_153 rfl (by decide) ?_
  refine V.bipush (q := 156) (v := nI 109) C dX10_init_154 rfl (by decide) ?_
  refine V.cst (q := 157) (i := 3) C dX10_init_156 rfl (Ok_of m11 (by omega) (by omega)) up_eq rfl (by omega) (by decide) rfl (PH1 := up Y9 (23, 19, 0) (aC g 15 (upd (upd (upd (upd (fun _ => nI 0) 0 (nI 102)) 1 (nI 105)) 2 (nI 114)) 3 (nI 109)))) up_up ?_
  refine V.dup (q := 158) C dX10_init_157 rfl rfl ?_
  refine V.iconst (q := 159) (v := nI 4) C dX10_init_158 rfl (by decide) ?_
  refine V.iconst (q := 160) (v := nI 0) C dX10_init_159 rfl (by decide) ?_
  refine V.cst (q := 161) (i := 4) C dX10_init_160 rfl (Ok_of m11 (by omega) (by omega)) up_eq rfl (by omega) (by decide) rfl (PH1 := up Y9 (23, 19, 0) (aC g 15 (upd (upd (upd (upd (upd (fun _ => nI 0) 0 (nI 102)) 1 (nI 105)) 2 (nI 114)) 3 (nI 109)) 4 (nI 0)))) up_up ?_
  refine V.dup (q := 162) C dX10_init_161 rfl rfl ?_
  refine V.iconst (q := 163) (v := nI 5) C dX10_init_162 rfl (by decide) ?_
  refine V.bipush (q := 165) (v := nI 119) C dX10_init_163 rfl (by decide) ?_
  refine V.cst (q := 166) (i := 5) C dX10_init_165 rfl (Ok_of m11 (by omega) (by omega)) up_eq rfl (by omega) (by decide) rfl (PH1 := up Y9 (23, 19, 0) (aC g 15 (upd (upd (upd (upd (upd (upd (fun _ => nI 0) 0 (nI 102)) 1 (nI 105)) 2 (nI 114)) 3 (nI 109)) 4 (nI 0)) 5 (nI 119)))) up_up ?_
  refine V.dup (q := 167) C dX10_init_166 rfl rfl ?_
  refine V.bipush (q := 169) (v := nI 6) C dX10_init_167 rfl (by decide) ?_
  refine V.bipush (q := 171) (v := nI 101) C dX10_init_169 rfl (by decide) ?_
  refine V.cst (q := 172) (i := 6) C dX10_init_171 rfl (Ok_of m11 (by omega) (by omega)) up_eq rfl (by omega) (by decide) rfl (PH1 := up Y9 (23, 19, 0) (aC g 15 (upd (upd (upd (upd (upd (upd (upd (fun _ => nI 0) 0 (nI 102)) 1 (nI 105)) 2 (nI 114)) 3 (nI 109)) 4 (nI 0)) 5 (nI 119)) 6 (nI 101)))) up_up ?_
  refine V.dup (q := 173) C dX10_init_172 rfl rfl ?_
  refine V.bipush (q := 175) (v := nI 7) C dX10_init_173 rfl (by decide) ?_
  refine V.bipush (q := 177) (v := nI 97) C dX10_init_175 rfl (by decide) ?_
  refine V.cst (q := 178) (i := 7) C dX10_init_177 rfl (Ok_of m11 (by omega) (by omega)) up_eq rfl (by omega) (by decide) rfl (PH1 := up Y9 (23, 19, 0) (aC g 15 (upd (upd (upd (upd (upd (upd (upd (upd (fun _ => nI 0) 0 (nI 102)) 1 (nI 105)) 2 (nI 114)) 3 (nI 109)) 4 (nI 0)) 5 (nI 119)) 6 (nI 101)) 7 (nI 97)))) up_up ?_
  refine V.dup (q := 179) C dX10_init_178 rfl rfl ?_
  refine V.bipush (q := 181) (v := nI 8) C dX10_init_179 rfl (by decide) ?_
  refine V.bipush (q := 183) (v := nI 107) C dX10_init_181 rfl (by decide) ?_
  refine V.cst (q := 184) (i := 8) C dX10_init_183 rfl (Ok_of m11 (by omega) (by omega)) up_eq rfl (by omega) (by decide) rfl (PH1 := up Y9 (23, 19, 0) (aC g 15 (upd (upd (upd (upd (upd (upd (upd (upd (upd (fun _ => nI 0) 0 (nI 102)) 1 (nI 105)) 2 (nI 114)) 3 (nI 109)) 4 (nI 0)) 5 (nI 119)) 6 (nI 101)) 7 (nI 97)) 8 (nI 107)))) up_up ?_
  refine V.dup (q := 185) C dX10_init_184 rfl rfl ?_
  refine V.bipush (q := 187) (v := nI 9) C dX10_init_185 rfl (by decide) ?_
  refine V.iconst (q := 188) (v := nI 0) C dX10_init_187 rfl (by decide) ?_
  refine V.cst (q := 189) (i := 9) C dX10_init_188 rfl (Ok_of m11 (by omega) (by omega)) up_eq rfl (by omega) (by decide) rfl (PH1 := up Y9 (23, 19, 0) (aC g 15 (upd (upd (upd (upd (upd (upd (upd (upd (upd (upd (fun _ => nI 0) 0 (nI 102)) 1 (nI 105)) 2 (nI 114)) 3 (nI 109)) 4 (nI 0)) 5 (nI 119)) 6 (nI 101)) 7 (nI 97)) 8 (nI 107)) 9 (nI 0)))) up_up ?_
  refine V.dup (q := 190) C dX10_init_189 rfl rfl ?_
  refine V.bipush (q := 192) (v := nI 10) C dX10_init_190 rfl (by decide) ?_
  refine V.bipush (q := 194) (v := nI 114) C dX10_init_192 rfl (by decide) ?_
  refine V.cst (q := 195) (i := 10) C dX10_init_194 rfl (Ok_of m11 (by omega) (by omega)) up_eq rfl (by omega) (by decide) rfl (PH1 := up Y9 (23, 19, 0) (aC g 15 (upd (upd (upd (upd (upd (upd (upd (upd (upd (upd (upd (fun _ => nI 0) 0 (nI 102)) 1 (nI 105)) 2 (nI 114)) 3 (nI 109)) 4 (nI 0)) 5 (nI 119)) 6 (nI 101)) 7 (nI 97)) 8 (nI 107)) 9 (nI 0)) 10 (nI 114)))) up_up ?_
  refine V.dup (q := 196) C dX10_init_195 rfl rfl ?_
  refine V.bipush (q := 198) (v := nI 11) C dX10_init_196 rfl (by decide) ?_
  refine V.bipush (q := 200) (v := nI 117) C dX10_init_198 rfl (by decide) ?_
  refine V.cst (q := 201) (i := 11) C dX10_init_200 rfl (Ok_of m11 (by omega) (by omega)) up_eq rfl (by omega) (by decide) rfl (PH1 := up Y9 (23, 19, 0) (aC g 15 (upd (upd (upd (upd (upd (upd (upd (upd (upd (upd (upd (upd (fun _ => nI 0) 0 (nI 102)) 1 (nI 105)) 2 (nI 114)) 3 (nI 109)) 4 (nI 0)) 5 (nI 119)) 6 (nI 101)) 7 (nI 97)) 8 (nI 107)) 9 (nI 0)) 10 (nI 114)) 11 (nI 117)))) up_up ?_
  refine V.dup (q := 202) C dX10_init_201 rfl rfl ?_
  refine V.bipush (q := 204) (v := nI 12) C dX10_init_202 rfl (by decide) ?_
  refine V.bipush (q := 206) (v := nI 98) C dX10_init_204 rfl (by decide) ?_
  refine V.cst (q := 207) (i := 12) C dX10_init_206 rfl (Ok_of m11 (by omega) (by omega)) up_eq rfl (by omega) (by decide) rfl (PH1 := up Y9 (23, 19, 0) (aC g 15 (upd (upd (upd (upd (upd (upd (upd (upd (upd (upd (upd (upd (upd (fun _ => nI 0) 0 (nI 102)) 1 (nI 105)) 2 (nI 114)) 3 (nI 109)) 4 (nI 0)) 5 (nI 119)) 6 (nI 101)) 7 (nI 97)) 8 (nI 107)) 9 (nI 0)) 10 (nI 114)) 11 (nI 117)) 12 (nI 98)))) up_up ?_
  refine V.dup (q := 208) C dX10_init_207 rfl rfl ?_
  refine V.bipush (q := 210) (v := nI 13) C dX10_init_208 rfl (by decide) ?_
  refine V.iconst (q := 211) (v := nI 0) C dX10_init_210 rfl (by decide) ?_
  refine V.cst (q := 212) (i := 13) C dX10_init_211 rfl (Ok_of m11 (by omega) (by omega)) up_eq rfl (by omega) (by decide) rfl (PH1 := up Y9 (23, 19, 0) (aC g 15 (upd (upd (upd (upd (upd (upd (upd (upd (upd (upd (upd (upd (upd (upd (fun _ => nI 0) 0 (nI 102)) 1 (nI 105)) 2 (nI 114)) 3 (nI 109)) 4 (nI 0)) 5 (nI 119)) 6 (nI 101)) 7 (nI 97)) 8 (nI 107)) 9 (nI 0)) 10 (nI 114)) 11 (nI 117)) 12 (nI 98)) 13 (nI 0)))) up_up ?_
  refine V.dup (q := 213) C dX10_init_212 rfl rfl ?_
  refine V.bipush (q := 215) (v := nI 14) C dX10_init_213 rfl (by decide) ?_
  refine V.iconst (q := 216) (v := nI 0) C dX10_init_215 rfl (by decide) ?_
  refine V.cst (q := 217) (i := 14) C dX10_init_216 rfl (Ok_of m11 (by omega) (by omega)) up_eq rfl (by omega) (by decide) rfl (PH1 := up Y9 (23, 19, 0) (aC g 15 (upd (upd (upd (upd (upd (upd (upd (upd (upd (upd (upd (upd (upd (upd (upd (fun _ => nI 0) 0 (nI 102)) 1 (nI 105)) 2 (nI 114)) 3 (nI 109)) 4 (nI 0)) 5 (nI 119)) 6 (nI 101)) 7 (nI 97)) 8 (nI 107)) 9 (nI 0)) 10 (nI 114)) 11 (nI 117)) 12 (nI 98)) 13 (nI 0)) 14 (nI 0)))) up_up ?_
  refine V.putF (q := 220) C fl_X10_43 rfl rfl rfl dX10_init_217 rfl (Ok_of m0 (by omega) (by omega)) (up_n m0 m11 (by omega) (by omega) (by omega) a9) (Nat.le_of_ble_eq_true rfl) rfl rfl (PH1 := up (up Y9 (23, 19, 0) (aC g 15 (upd (upd (upd (upd (upd (upd (upd (upd (upd (upd (upd (upd (upd (upd (upd (fun _ => nI 0) 0 (nI 102)) 1 (nI 105)) 2 (nI 114)) 3 (nI 109)) 4 (nI 0)) 5 (nI 119)) 6 (nI 101)) 7 (nI 97)) 8 (nI 107)) 9 (nI 0)) 10 (nI 114)) 11 (nI 117)) 12 (nI 98)) 13 (nI 0)) 14 (nI 0)))) (22, 0, 0) (.inr (10, [rf g (23, 0, 0), rf g (23, 1, 0), rf g (23, 2, 0), .int 0, rf g (23, 4, 0), .int 0, rf g (23, 6, 0), rf g (23, 7, 0), .int 0, rf g (23, 9, 0), .int 0, .int 0, .int 0, .int 0, .int 0, .int 0, rf g (23, 16, 0), rf g (23, 17, 0), rf g (23, 18, 0), rf g (23, 19, 0), .null, .null, .null, .null, .null, .int 0, .null, .null, .null, .null]))) rfl ?_
  refine V.cs (c2 := 11) (s2 := 1292) (by decide) (by decide) (V.nn (n2 := 170) (by decide) ?_)
  refine V.forget (P := PH) (i := 158) (L := [158]) (a := (22, 0, 0)) (e := .inr (10, [rf g (23, 0, 0), rf g (23, 1, 0), rf g (23, 2, 0), .int 0, rf g (23, 4, 0), .int 0, rf g (23, 6, 0), rf g (23, 7, 0), .int 0, rf g (23, 9, 0), .int 0, .int 0, .int 0, .int 0, .int 0, .int 0, rf g (23, 16, 0), rf g (23, 17, 0), rf g (23, 18, 0), rf g (23, 19, 0), .null, .null, .null, .null, .null, .int 0, .null, .null, .null, .null])) up_eq (Dn.put (Dn.arr (n := 169) D9 (by omega) (by omega) m11 (aC_eq9 (by decide +kernel))) (by omega) (by omega) m0 (by simp)) (fun Y10 a10 D10 => ?_)
  refine V.aload_n (q := 221) C dX10_init_220 rfl rfl ?_
  refine V.bipush (q := 223) (v := nI 6) C dX10_init_221 rfl (by decide) ?_
  refine V.newI (q := 225) (N := 6) (a := (23, 20, 0)) (PH1 := up Y10 (23, 20, 0) (aI g 6 (fun _ => nI 0))) C rfl (by omega) dX10_init_223 rfl (by omega) m12 rfl (by omega) (by omega) ?_
  refine V.putF (q := 228) C fl_X10_46 rfl rfl rfl dX10_init_225 rfl (Ok_of m0 (by omega) (by omega)) (up_n m0 m12 (by omega) (by omega) (by omega) a10) (Nat.le_of_ble_eq_true rfl) rfl rfl (PH1 := up (up Y10 (23, 20, 0) (aI g 6 (fun _ => nI 0))) (22, 0, 0) (.inr (10, [rf g (23, 0, 0), rf g (23, 1, 0), rf g (23, 2, 0), .int 0, rf g (23, 4, 0), .int 0, rf g (23, 6, 0), rf g (23, 7, 0), .int 0, rf g (23, 9, 0), .int 0, .int 0, .int 0, .int 0, .int 0, .int 0, rf g (23, 16, 0), rf g (23, 17, 0), rf g (23, 18, 0), rf g (23, 19, 0), rf g (23, 20, 0), .null, .null, .null, .null, .int 0, .null, .null, .null, .null]))) rfl ?_
  refine V.cs (c2 := 12) (s2 := 1298) (by decide) (by decide) (V.nn (n2 := 171) (by decide) ?_)
  refine V.forget (P := PH) (i := 158) (L := [158]) (a := (22, 0, 0)) (e := .inr (10, [rf g (23, 0, 0), rf g (23, 1, 0), rf g (23, 2, 0), .int 0, rf g (23, 4, 0), .int 0, rf g (23, 6, 0), rf g (23, 7, 0), .int 0, rf g (23, 9, 0), .int 0, .int 0, .int 0, .int 0, .int 0, .int 0, rf g (23, 16, 0), rf g (23, 17, 0), rf g (23, 18, 0), rf g (23, 19, 0), rf g (23, 20, 0), .null, .null, .null, .null, .int 0, .null, .null, .null, .null])) up_eq (Dn.put (Dn.arr (n := 170) D10 (by omega) (by omega) m12 (rfl)) (by omega) (by omega) m0 (by simp)) (fun Y11 a11 D11 => ?_)
  refine V.aload_n (q := 229) C dX10_init_228 rfl rfl ?_
  refine V.bipush (q := 231) (v := nI 6) C dX10_init_229 rfl (by decide) ?_
  refine V.newI (q := 233) (N := 6) (a := (23, 21, 0)) (PH1 := up Y11 (23, 21, 0) (aI g 6 (fun _ => nI 0))) C rfl (by omega) dX10_init_231 rfl (by omega) m13 rfl (by omega) (by omega) ?_
  refine V.putF (q := 236) C fl_X10_49 rfl rfl rfl dX10_init_233 rfl (Ok_of m0 (by omega) (by omega)) (up_n m0 m13 (by omega) (by omega) (by omega) a11) (Nat.le_of_ble_eq_true rfl) rfl rfl (PH1 := up (up Y11 (23, 21, 0) (aI g 6 (fun _ => nI 0))) (22, 0, 0) (.inr (10, [rf g (23, 0, 0), rf g (23, 1, 0), rf g (23, 2, 0), .int 0, rf g (23, 4, 0), .int 0, rf g (23, 6, 0), rf g (23, 7, 0), .int 0, rf g (23, 9, 0), .int 0, .int 0, .int 0, .int 0, .int 0, .int 0, rf g (23, 16, 0), rf g (23, 17, 0), rf g (23, 18, 0), rf g (23, 19, 0), rf g (23, 20, 0), rf g (23, 21, 0), .null, .null, .null, .int 0, .null, .null, .null, .null]))) rfl ?_
  refine V.cs (c2 := 13) (s2 := 1304) (by decide) (by decide) (V.nn (n2 := 172) (by decide) ?_)
  refine V.forget (P := PH) (i := 158) (L := [158]) (a := (22, 0, 0)) (e := .inr (10, [rf g (23, 0, 0), rf g (23, 1, 0), rf g (23, 2, 0), .int 0, rf g (23, 4, 0), .int 0, rf g (23, 6, 0), rf g (23, 7, 0), .int 0, rf g (23, 9, 0), .int 0, .int 0, .int 0, .int 0, .int 0, .int 0, rf g (23, 16, 0), rf g (23, 17, 0), rf g (23, 18, 0), rf g (23, 19, 0), rf g (23, 20, 0), rf g (23, 21, 0), .null, .null, .null, .int 0, .null, .null, .null, .null])) up_eq (Dn.put (Dn.arr (n := 171) D11 (by omega) (by omega) m13 (rfl)) (by omega) (by omega) m0 (by simp)) (fun Y12 a12 D12 => ?_)
  refine V.aload_n (q := 237) C dX10_init_236 rfl rfl ?_
  refine V.bipush (q := 239) (v := nI 7) C dX10_init_237 rfl (by decide) ?_
  refine V.newI (q := 241) (N := 7) (a := (23, 22, 0)) (PH1 := up Y12 (23, 22, 0) (aI g 7 (fun _ => nI 0))) C rfl (by omega) dX10_init_239 rfl (by omega) m14 rfl (by omega) (by omega) ?_
  refine V.dup (q := 242) C dX10_init_241 rfl rfl ?_
  refine V.iconst (q := 243) (v := nI 0) C dX10_init_242 rfl (by decide) ?_
  refine V.iconst (q := 244) (v := -1) C dX10_init_243 rfl (by decide) ?_
  refine V.ist (q := 245) (i := 0) C dX10_init_244 rfl (Ok_of m14 (by omega) (by omega)) up_eq rfl (by omega) (by decide) (PH1 := up Y12 (23, 22, 0) (aI g 7 (upd (fun _ => nI 0) 0 (-1)))) up_up ?_
  refine V.dup (q := 246) C dX10_init_245 rfl rfl ?_
  refine V.iconst (q := 247) (v := nI 1) C dX10_init_246 rfl (by decide) ?_
  refine V.iconst (q := 248) (v := nI 0) C dX10_init_247 rfl (by decide) ?_
  refine V.ist (q := 249) (i := 1) C dX10_init_248 rfl (Ok_of m14 (by omega) (by omega)) up_eq rfl (by omega) (by decide) (PH1 := up Y12 (23, 22, 0) (aI g 7 (upd (upd (fun _ => nI 0) 0 (-1)) 1 (nI 0)))) up_up ?_
  refine V.dup (q := 250) C dX10_init_249 rfl rfl ?_
  refine V.iconst (q := 251) (v := nI 2) C dX10_init_250 rfl (by decide) ?_
  refine V.iconst (q := 252) (v := nI 0) C dX10_init_251 rfl (by decide) ?_
  refine V.ist (q := 253) (i := 2) C dX10_init_252 rfl (Ok_of m14 (by omega) (by omega)) up_eq rfl (by omega) (by decide) (PH1 := up Y12 (23, 22, 0) (aI g 7 (upd (upd (upd (fun _ => nI 0) 0 (-1)) 1 (nI 0)) 2 (nI 0)))) up_up ?_
  refine V.dup (q := 254) C dX10_init_253 rfl rfl ?_
  refine V.iconst (q := 255) (v := nI 3) C dX10_init_254 rfl (by decide) ?_
  refine V.iconst (q := 256) (v := nI 0) C dX10_init_255 rfl (by decide) ?_
  refine V.ist (q := 257) (i := 3) C dX10_init_256 rfl (Ok_of m14 (by omega) (by omega)) up_eq rfl (by omega) (by decide) (PH1 := up Y12 (23, 22, 0) (aI g 7 (upd (upd (upd (upd (fun _ => nI 0) 0 (-1)) 1 (nI 0)) 2 (nI 0)) 3 (nI 0)))) up_up ?_
  refine V.dup (q := 258) C dX10_init_257 rfl rfl ?_
  refine V.iconst (q := 259) (v := nI 4) C dX10_init_258 rfl (by decide) ?_
  refine V.iconst (q := 260) (v := nI 1) C dX10_init_259 rfl (by decide) ?_
  refine V.ist (q := 261) (i := 4) C dX10_init_260 rfl (Ok_of m14 (by omega) (by omega)) up_eq rfl (by omega) (by decide) (PH1 := up Y12 (23, 22, 0) (aI g 7 (upd (upd (upd (upd (upd (fun _ => nI 0) 0 (-1)) 1 (nI 0)) 2 (nI 0)) 3 (nI 0)) 4 (nI 1)))) up_up ?_
  refine V.dup (q := 262) C dX10_init_261 rfl rfl ?_
  refine V.iconst (q := 263) (v := nI 5) C dX10_init_262 rfl (by decide) ?_
  refine V.iconst (q := 264) (v := nI 2) C dX10_init_263 rfl (by decide) ?_
  refine V.ist (q := 265) (i := 5) C dX10_init_264 rfl (Ok_of m14 (by omega) (by omega)) up_eq rfl (by omega) (by decide) (PH1 := up Y12 (23, 22, 0) (aI g 7 (upd (upd (upd (upd (upd (upd (fun _ => nI 0) 0 (-1)) 1 (nI 0)) 2 (nI 0)) 3 (nI 0)) 4 (nI 1)) 5 (nI 2)))) up_up ?_
  refine V.dup (q := 266) C dX10_init_265 rfl rfl ?_
  refine V.bipush (q := 268) (v := nI 6) C dX10_init_266 rfl (by decide) ?_
  refine V.iconst (q := 269) (v := nI 3) C dX10_init_268 rfl (by decide) ?_
  refine V.ist (q := 270) (i := 6) C dX10_init_269 rfl (Ok_of m14 (by omega) (by omega)) up_eq rfl (by omega) (by decide) (PH1 := up Y12 (23, 22, 0) (aI g 7 (upd (upd (upd (upd (upd (upd (upd (fun _ => nI 0) 0 (-1)) 1 (nI 0)) 2 (nI 0)) 3 (nI 0)) 4 (nI 1)) 5 (nI 2)) 6 (nI 3)))) up_up ?_
  refine V.putF (q := 273) C fl_X10_52 rfl rfl rfl dX10_init_270 rfl (Ok_of m0 (by omega) (by omega)) (up_n m0 m14 (by omega) (by omega) (by omega) a12) (Nat.le_of_ble_eq_true rfl) rfl rfl (PH1 := up (up Y12 (23, 22, 0) (aI g 7 (upd (upd (upd (upd (upd (upd (upd (fun _ => nI 0) 0 (-1)) 1 (nI 0)) 2 (nI 0)) 3 (nI 0)) 4 (nI 1)) 5 (nI 2)) 6 (nI 3)))) (22, 0, 0) (.inr (10, [rf g (23, 0, 0), rf g (23, 1, 0), rf g (23, 2, 0), .int 0, rf g (23, 4, 0), .int 0, rf g (23, 6, 0), rf g (23, 7, 0), .int 0, rf g (23, 9, 0), .int 0, .int 0, .int 0, .int 0, .int 0, .int 0, rf g (23, 16, 0), rf g (23, 17, 0), rf g (23, 18, 0), rf g (23, 19, 0), rf g (23, 20, 0), rf g (23, 21, 0), rf g (23, 22, 0), .null, .null, .int 0, .null, .null, .null, .null]))) rfl ?_
  refine V.cs (c2 := 14) (s2 := 1311) (by decide) (by decide) (V.nn (n2 := 173) (by decide) ?_)
  refine V.forget (P := PH) (i := 158) (L := [158]) (a := (22, 0, 0)) (e := .inr (10, [rf g (23, 0, 0), rf g (23, 1, 0), rf g (23, 2, 0), .int 0, rf g (23, 4, 0), .int 0, rf g (23, 6, 0), rf g (23, 7, 0), .int 0, rf g (23, 9, 0), .int 0, .int 0, .int 0, .int 0, .int 0, .int 0, rf g (23, 16, 0), rf g (23, 17, 0), rf g (23, 18, 0), rf g (23, 19, 0), rf g (23, 20, 0), rf g (23, 21, 0), rf g (23, 22, 0), .null, .null, .int 0, .null, .null, .null, .null])) up_eq (Dn.put (Dn.arr (n := 172) D12 (by omega) (by omega) m14 (aI_eq (by decide +kernel))) (by omega) (by omega) m0 (by simp)) (fun Y13 a13 D13 => ?_)
  refine V.aload_n (q := 274) C dX10_init_273 rfl rfl ?_
  refine V.bipush (q := 276) (v := nI 21) C dX10_init_274 rfl (by decide) ?_
  refine V.newI (q := 278) (N := 21) (a := (23, 23, 0)) (PH1 := up Y13 (23, 23, 0) (aI g 21 (fun _ => nI 0))) C rfl (by omega) dX10_init_276 rfl (by omega) m15 rfl (by omega) (by omega) ?_
  refine V.dup (q := 279) C dX10_init_278 rfl rfl ?_
  refine V.iconst (q := 280) (v := nI 0) C dX10_init_279 rfl (by decide) ?_
  refine V.bipush (q := 282) (v := nI 10) C dX10_init_280 rfl (by decide) ?_
  refine V.ist (q := 283) (i := 0) C dX10_init_282 rfl (Ok_of m15 (by omega) (by omega)) up_eq rfl (by omega) (by decide) (PH1 := up Y13 (23, 23, 0) (aI g 21 (upd (fun _ => nI 0) 0 (nI 10)))) up_up ?_
  refine V.dup (q := 284) C dX10_init_283 rfl rfl ?_
  refine V.iconst (q := 285) (v := nI 1) C dX10_init_284 rfl (by decide) ?_
  refine V.bipush (q := 287) (v := nI 11) C dX10_init_285 rfl (by decide) ?_
  refine V.ist (q := 288) (i := 1) C dX10_init_287 rfl (Ok_of m15 (by omega) (by omega)) up_eq rfl (by omega) (by decide) (PH1 := up Y13 (23, 23, 0) (aI g 21 (upd (upd (fun _ => nI 0) 0 (nI 10)) 1 (nI 11)))) up_up ?_
  refine V.dup (q := 289) C dX10_init_288 rfl rfl ?_
  refine V.iconst (q := 290) (v := nI 2) C dX10_init_289 rfl (by decide) ?_
  refine V.bipush (q := 292) (v := nI 12) C dX10_init_290 rfl (by decide) ?_
  refine V.ist (q := 293) (i := 2) C dX10_init_292 rfl (Ok_of m15 (by omega) (by omega)) up_eq rfl (by omega) (by decide) (PH1 := up Y13 (23, 23, 0) (aI g 21 (upd (upd (upd (fun _ => nI 0) 0 (nI 10)) 1 (nI 11)) 2 (nI 12)))) up_up ?_
  refine V.dup (q := 294) C dX10_init_293 rfl rfl ?_
  refine V.iconst (q := 295) (v := nI 3) C dX10_init_294 rfl (by decide) ?_
  refine V.iconst (q := 296) (v := nI 0) C dX10_init_295 rfl (by decide) ?_
  refine V.ist (q := 297) (i := 3) C dX10_init_296 rfl (Ok_of m15 (by omega) (by omega)) up_eq rfl (by omega) (by decide) (PH1 := up Y13 (23, 23, 0) (aI g 21 (upd (upd (upd (upd (fun _ => nI 0) 0 (nI 10)) 1 (nI 11)) 2 (nI 12)) 3 (nI 0)))) up_up ?_
  refine V.dup (q := 298) C dX10_init_297 rfl rfl ?_
  refine V.iconst (q := 299) (v := nI 4) C dX10_init_298 rfl (by decide) ?_
  refine V.bipush (q := 301) (v := nI 20) C dX10_init_299 rfl (by decide) ?_
  refine V.ist (q := 302) (i := 4) C dX10_init_301 rfl (Ok_of m15 (by omega) (by omega)) up_eq rfl (by omega) (by decide) (PH1 := up Y13 (23, 23, 0) (aI g 21 (upd (upd (upd (upd (upd (fun _ => nI 0) 0 (nI 10)) 1 (nI 11)) 2 (nI 12)) 3 (nI 0)) 4 (nI 20)))) up_up ?_
  refine V.dup (q := 303) C dX10_init_302 rfl rfl ?_
  refine V.iconst (q := 304) (v := nI 5) C dX10_init_303 rfl (by decide) ?_
  refine V.iconst (q := 305) (v := nI 0) C dX10_init_304 rfl (by decide) ?_
  refine V.ist (q := 306) (i := 5) C dX10_init_305 rfl (Ok_of m15 (by omega) (by omega)) up_eq rfl (by omega) (by decide) (PH1 := up Y13 (23, 23, 0) (aI g 21 (upd (upd (upd (upd (upd (upd (fun _ => nI 0) 0 (nI 10)) 1 (nI 11)) 2 (nI 12)) 3 (nI 0)) 4 (nI 20)) 5 (nI 0)))) up_up ?_
  refine V.dup (q := 307) C dX10_init_306 rfl rfl ?_
  refine V.bipush (q := 309) (v := nI 6) C dX10_init_307 rfl (by decide) ?_
  refine V.bipush (q := 311) (v := nI 30) C dX10_init_309 rfl (by decide) ?_
  refine V.ist (q := 312) (i := 6) C dX10_init_311 rfl (Ok_of m15 (by omega) (by omega)) up_eq rfl (by omega) (by decide) (PH1 := up Y13 (23, 23, 0) (aI g 21 (upd (upd (upd (upd (upd (upd (upd (fun _ => nI 0) 0 (nI 10)) 1 (nI 11)) 2 (nI 12)) 3 (nI 0)) 4 (nI 20)) 5 (nI 0)) 6 (nI 30)))) up_up ?_
  refine V.dup (q := 313) C dX10_init_312 rfl rfl ?_
  refine V.bipush (q := 315) (v := nI 7) C dX10_init_313 rfl (by decide) ?_
  refine V.iconst (q := 316) (v := nI 0) C dX10_init_315 rfl (by decide) ?_
  refine V.ist (q := 317) (i := 7) C dX10_init_316 rfl (Ok_of m15 (by omega) (by omega)) up_eq rfl (by omega) (by decide) (PH1 := up Y13 (23, 23, 0) (aI g 21 (upd (upd (upd (upd (upd (upd (upd (upd (fun _ => nI 0) 0 (nI 10)) 1 (nI 11)) 2 (nI 12)) 3 (nI 0)) 4 (nI 20)) 5 (nI 0)) 6 (nI 30)) 7 (nI 0)))) up_up ?_
  refine V.dup (q := 318) C dX10_init_317 rfl rfl ?_
  refine V.bipush (q := 320) (v := nI 8) C dX10_init_318 rfl (by decide) ?_
  refine V.iconst (q := 321) (v := nI 0) C dX10_init_320 rfl (by decide) ?_
  refine V.ist (q := 322) (i := 8) C dX10_init_321 rfl (Ok_of m15 (by omega) (by omega)) up_eq rfl (by omega) (by decide) (PH1 := up Y13 (23, 23, 0) (aI g 21 (upd (upd (upd (upd (upd (upd (upd (upd (upd (fun _ => nI 0) 0 (nI 10)) 1 (nI 11)) 2 (nI 12)) 3 (nI 0)) 4 (nI 20)) 5 (nI 0)) 6 (nI 30)) 7 (nI 0)) 8 (nI 0)))) up_up ?_
  refine V.dup (q := 323) C dX10_init_322 rfl rfl ?_
  refine V.bipush (q := 325) (v := nI 9) C dX10_init_323 rfl (by decide) ?_
  refine V.iconst (q := 326) (v := nI 0) C dX10_init_325 rfl (by decide) ?_
  refine V.ist (q := 327) (i := 9) C dX10_init_326 rfl (Ok_of m15 (by omega) (by omega)) up_eq rfl (by omega) (by decide) (PH1 := up Y13 (23, 23, 0) (aI g 21 (upd (upd (upd (upd (upd (upd (upd (upd (upd (upd (fun _ => nI 0) 0 (nI 10)) 1 (nI 11)) 2 (nI 12)) 3 (nI 0)) 4 (nI 20)) 5 (nI 0)) 6 (nI 30)) 7 (nI 0)) 8 (nI 0)) 9 (nI 0)))) up_up ?_
  refine V.dup (q := 328) C dX10_init_327 rfl rfl ?_
  refine V.bipush (q := 330) (v := nI 10) C dX10_init_328 rfl (by decide) ?_
  refine V.iconst (q := 331) (v := nI 0) C dX10_init_330 rfl (by decide) ?_
  refine V.ist (q := 332) (i := 10) C dX10_init_331 rfl (Ok_of m15 (by omega) (by omega)) up_eq rfl (by omega) (by decide) (PH1 := up Y13 (23, 23, 0) (aI g 21 (upd (upd (upd (upd (upd (upd (upd (upd (upd (upd (upd (fun _ => nI 0) 0 (nI 10)) 1 (nI 11)) 2 (nI 12)) 3 (nI 0)) 4 (nI 20)) 5 (nI 0)) 6 (nI 30)) 7 (nI 0)) 8 (nI 0)) 9 (nI 0)) 10 (nI 0)))) up_up ?_
  refine V.dup (q := 333) C dX10_init_332 rfl rfl ?_
  refine V.bipush (q := 335) (v := nI 11) C dX10_init_333 rfl (by decide) ?_
  refine V.bipush (q := 337) (v := nI 40) C dX10_init_335 rfl (by decide) ?_
  refine V.ist (q := 338) (i := 11) C dX10_init_337 rfl (Ok_of m15 (by omega) (by omega)) up_eq rfl (by omega) (by decide) (PH1 := up Y13 (23, 23, 0) (aI g 21 (upd (upd (upd (upd (upd (upd (upd (upd (upd (upd (upd (upd (fun _ => nI 0) 0 (nI 10)) 1 (nI 11)) 2 (nI 12)) 3 (nI 0)) 4 (nI 20)) 5 (nI 0)) 6 (nI 30)) 7 (nI 0)) 8 (nI 0)) 9 (nI 0)) 10 (nI 0)) 11 (nI 40)))) up_up ?_
  refine V.dup (q := 339) C dX10_init_338 rfl rfl ?_
  refine V.bipush (q := 341) (v := nI 12) C dX10_init_339 rfl (by decide) ?_
  refine V.bipush (q := 343) (v := nI 50) C dX10_init_341 rfl (by decide) ?_
  refine V.ist (q := 344) (i := 12) C dX10_init_343 rfl (Ok_of m15 (by omega) (by omega)) up_eq rfl (by omega) (by decide) (PH1 := up Y13 (23, 23, 0) (aI g 21 (upd (upd (upd (upd (upd (upd (upd (upd (upd (upd (upd (upd (upd (fun _ => nI 0) 0 (nI 10)) 1 (nI 11)) 2 (nI 12)) 3 (nI 0)) 4 (nI 20)) 5 (nI 0)) 6 (nI 30)) 7 (nI 0)) 8 (nI 0)) 9 (nI 0)) 10 (nI 0)) 11 (nI 40)) 12 (nI 50)))) up_up ?_
  refine V.dup (q := 345) C dX10_init_344 rfl rfl ?_
  refine V.bipush (q := 347) (v := nI 13) C dX10_init_345 rfl (by decide) ?_
  refine V.bipush (q := 349) (v := nI 51) C dX10_init_347 rfl (by decide) ?_
  refine V.ist (q := 350) (i := 13) C dX10_init_349 rfl (Ok_of m15 (by omega) (by omega)) up_eq rfl (by omega) (by decide) (PH1 := up Y13 (23, 23, 0) (aI g 21 (upd (upd (upd (upd (upd (upd (upd (upd (upd (upd (upd (upd (upd (upd (fun _ => nI 0) 0 (nI 10)) 1 (nI 11)) 2 (nI 12)) 3 (nI 0)) 4 (nI 20)) 5 (nI 0)) 6 (nI 30)) 7 (nI 0)) 8 (nI 0)) 9 (nI 0)) 10 (nI 0)) 11 (nI 40)) 12 (nI 50)) 13 (nI 51)))) up_up ?_
  refine V.dup (q := 351) C dX10_init_350 rfl rfl ?_
  refine V.bipush (q := 353) (v := nI 14) C dX10_init_351 rfl (by decide) ?_
  refine V.iconst (q := 354) (v := nI 0) C dX10_init_353 rfl (by decide) ?_
  refine V.ist (q := 355) (i := 14) C dX10_init_354 rfl (Ok_of m15 (by omega) (by omega)) up_eq rfl (by omega) (by decide) (PH1 := up Y13 (23, 23, 0) (aI g 21 (upd (upd (upd (upd (upd (upd (upd (upd (upd (upd (upd (upd (upd (upd (upd (fun _ => nI 0) 0 (nI 10)) 1 (nI 11)) 2 (nI 12)) 3 (nI 0)) 4 (nI 20)) 5 (nI 0)) 6 (nI 30)) 7 (nI 0)) 8 (nI 0)) 9 (nI 0)) 10 (nI 0)) 11 (nI 40)) 12 (nI 50)) 13 (nI 51)) 14 (nI 0)))) up_up ?_
  refine V.dup (q := 356) C dX10_init_355 rfl rfl ?_
  refine V.bipush (q := 358) (v := nI 15) C dX10_init_356 rfl (by decide) ?_
  refine V.iconst (q := 359) (v := nI 0) C dX10_init_358 rfl (by decide) ?_
  refine V.ist (q := 360) (i := 15) C dX10_init_359 rfl (Ok_of m15 (by omega) (by omega)) up_eq rfl (by omega) (by decide) (PH1 := up Y13 (23, 23, 0) (aI g 21 (upd (upd (upd (upd (upd (upd (upd (upd (upd (upd (upd (upd (upd (upd (upd (upd (fun _ => nI 0) 0 (nI 10)) 1 (nI 11)) 2 (nI 12)) 3 (nI 0)) 4 (nI 20)) 5 (nI 0)) 6 (nI 30)) 7 (nI 0)) 8 (nI 0)) 9 (nI 0)) 10 (nI 0)) 11 (nI 40)) 12 (nI 50)) 13 (nI 51)) 14 (nI 0)) 15 (nI 0)))) up_up ?_
  refine V.dup (q := 361) C dX10_init_360 rfl rfl ?_
  refine V.bipush (q := 363) (v := nI 16) C dX10_init_361 rfl (by decide) ?_
  refine V.iconst (q := 364) (v := nI 0) C dX10_init_363 rfl (by decide) ?_
  refine V.ist (q := 365) (i := 16) C dX10_init_364 rfl (Ok_of m15 (by omega) (by omega)) up_eq rfl (by omega) (by decide) (PH1 := up Y13 (23, 23, 0) (aI g 21 (upd (upd (upd (upd (upd (upd (upd (upd (upd (upd (upd (upd (upd (upd (upd (upd (upd (fun _ => nI 0) 0 (nI 10)) 1 (nI 11)) 2 (nI 12)) 3 (nI 0)) 4 (nI 20)) 5 (nI 0)) 6 (nI 30)) 7 (nI 0)) 8 (nI 0)) 9 (nI 0)) 10 (nI 0)) 11 (nI 40)) 12 (nI 50)) 13 (nI 51)) 14 (nI 0)) 15 (nI 0)) 16 (nI 0)))) up_up ?_
  refine V.dup (q := 366) C dX10_init_365 rfl rfl ?_
  refine V.bipush (q := 368) (v := nI 17) C dX10_init_366 rfl (by decide) ?_
  refine V.bipush (q := 370) (v := nI 60) C dX10_init_368 rfl (by decide) ?_
  refine V.ist (q := 371) (i := 17) C dX10_init_370 rfl (Ok_of m15 (by omega) (by omega)) up_eq rfl (by omega) (by decide) (PH1 := up Y13 (23, 23, 0) (aI g 21 (upd (upd (upd (upd (upd (upd (upd (upd (upd (upd (upd (upd (upd (upd (upd (upd (upd (upd (fun _ => nI 0) 0 (nI 10)) 1 (nI 11)) 2 (nI 12)) 3 (nI 0)) 4 (nI 20)) 5 (nI 0)) 6 (nI 30)) 7 (nI 0)) 8 (nI 0)) 9 (nI 0)) 10 (nI 0)) 11 (nI 40)) 12 (nI 50)) 13 (nI 51)) 14 (nI 0)) 15 (nI 0)) 16 (nI 0)) 17 (nI 60)))) up_up ?_
  refine V.dup (q := 372) C dX10_init_371 rfl rfl ?_
  refine V.bipush (q := 374) (v := nI 18) C dX10_init_372 rfl (by decide) ?_
  refine V.bipush (q := 376) (v := nI 71) C dX10_init_374 rfl (by decide) ?_
  refine V.ist (q := 377) (i := 18) C dX10_init_376 rfl (Ok_of m15 (by omega) (by omega)) up_eq rfl (by omega) (by decide) (PH1 := up Y13 (23, 23, 0) (aI g 21 (upd (upd (upd (upd (upd (upd (upd (upd (upd (upd (upd (upd (upd (upd (upd (upd (upd (upd (upd (fun _ => nI 0) 0 (nI 10)) 1 (nI 11)) 2 (nI 12)) 3 (nI 0)) 4 (nI 20)) 5 (nI 0)) 6 (nI 30)) 7 (nI 0)) 8 (nI 0)) 9 (nI 0)) 10 (nI 0)) 11 (nI 40)) 12 (nI 50)) 13 (nI 51)) 14 (nI 0)) 15 (nI 0)) 16 (nI 0)) 17 (nI 60)) 18 (nI 71)))) up_up ?_
  refine V.dup (q := 378) C dX10_init_377 rfl rfl ?_
  refine V.bipush (q := 380) (v := nI 19) C dX10_init_378 rfl (by decide) ?_
  refine V.bipush (q := 382) (v := nI 70) C dX10_init_380 rfl (by decide) ?_
  refine V.ist (q := 383) (i := 19) C dX10_init_382 rfl (Ok_of m15 (by omega) (by omega)) up_eq rfl (by omega) (by decide) (PH1 := up Y13 (23, 23, 0) (aI g 21 (upd (upd (upd (upd (upd (upd (upd (upd (upd (upd (upd (upd (upd (upd (upd (upd (upd (upd (upd (upd (fun _ => nI 0) 0 (nI 10)) 1 (nI 11)) 2 (nI 12)) 3 (nI 0)) 4 (nI 20)) 5 (nI 0)) 6 (nI 30)) 7 (nI 0)) 8 (nI 0)) 9 (nI 0)) 10 (nI 0)) 11 (nI 40)) 12 (nI 50)) 13 (nI 51)) 14 (nI 0)) 15 (nI 0)) 16 (nI 0)) 17 (nI 60)) 18 (nI 71)) 19 (nI 70)))) up_up ?_
  refine V.dup (q := 384) C dX10_init_383 rfl rfl ?_
  refine V.bipush (q := 386) (v := nI 20) C dX10_init_384 rfl (by decide) ?_
  refine V.iconst (q := 387) (v := nI 0) C dX10_init_386 rfl (by decide) ?_
  refine V.ist (q := 388) (i := 20) C dX10_init_387 rfl (Ok_of m15 (by omega) (by omega)) up_eq rfl (by omega) (by decide) (PH1 := up Y13 (23, 23, 0) (aI g 21 (upd (upd (upd (upd (upd (upd (upd (upd (upd (upd (upd (upd (upd (upd (upd (upd (upd (upd (upd (upd (upd (fun _ => nI 0) 0 (nI 10)) 1 (nI 11)) 2 (nI 12)) 3 (nI 0)) 4 (nI 20)) 5 (nI 0)) 6 (nI 30)) 7 (nI 0)) 8 (nI 0)) 9 (nI 0)) 10 (nI 0)) 11 (nI 40)) 12 (nI 50)) 13 (nI 51)) 14 (nI 0)) 15 (nI 0)) 16 (nI 0)) 17 (nI 60)) 18 (nI 71)) 19 (nI 70)) 20 (nI 0)))) up_up ?_
  refine V.putF (q := 391) C fl_X10_55 rfl rfl rfl dX10_init_388 rfl (Ok_of m0 (by omega) (by omega)) (up_n m0 m15 (by omega) (by omega) (by omega) a13) (Nat.le_of_ble_eq_true rfl) rfl rfl (PH1 := up (up Y13 (23, 23, 0) (aI g 21 (upd (upd (upd (upd (upd (upd (upd (upd (upd (upd (upd (upd (upd (upd (upd (upd (upd (upd (upd (upd (upd (fun _ => nI 0) 0 (nI 10)) 1 (nI 11)) 2 (nI 12)) 3 (nI 0)) 4 (nI 20)) 5 (nI 0)) 6 (nI 30)) 7 (nI 0)) 8 (nI 0)) 9 (nI 0)) 10 (nI 0)) 11 (nI 40)) 12 (nI 50)) 13 (nI 51)) 14 (nI 0)) 15 (nI 0)) 16 (nI 0)) 17 (nI 60)) 18 (nI 71)) 19 (nI 70)) 20 (nI 0)))) (22, 0, 0) (.inr (10, [rf g (23, 0, 0), rf g (23, 1, 0), rf g (23, 2, 0), .int 0, rf g (23, 4, 0), .int 0, rf g (23, 6, 0), rf g (23, 7, 0), .int 0, rf g (23, 9, 0), .int 0, .int 0, .int 0, .int 0, .int 0, .int 0, rf g (23, 16, 0), rf g (23, 17, 0), rf g (23, 18, 0), rf g (23, 19, 0), rf g (23, 20, 0), rf g (23, 21, 0), rf g (23, 22, 0), rf g (23, 23, 0), .null, .int 0, .null, .null, .null, .null]))) rfl ?_
  refine V.cs (c2 := 15) (s2 := 1332) (by decide) (by decide) (V.nn (n2 := 174) (by decide) ?_)
  refine V.forget (P := PH) (i := 158) (L := [158]) (a := (22, 0, 0)) (e := .inr (10, [rf g (23, 0, 0), rf g (23, 1, 0), rf g (23, 2, 0), .int 0, rf g (23, 4, 0), .int 0, rf g (23, 6, 0), rf g (23, 7, 0), .int 0, rf g (23, 9, 0), .int 0, .int 0, .int 0, .int 0, .int 0, .int 0, rf g (23, 16, 0), rf g (23, 17, 0), rf g (23, 18, 0), rf g (23, 19, 0), rf g (23, 20, 0), rf g (23, 21, 0), rf g (23, 22, 0), rf g (23, 23, 0), .null, .int 0, .null, .null, .null, .null])) up_eq (Dn.put (Dn.arr (n := 173) D13 (by omega) (by omega) m15 (aI_eq (by decide +kernel))) (by omega) (by omega) m0 (by simp)) (fun Y14 a14 D14 => ?_)
  refine V.aload_n (q := 392) C dX10_init_391 rfl rfl ?_
  refine V.bipush (q := 394) (v := nI 20) C dX10_init_392 rfl (by decide) ?_
  refine V.newI (q := 396) (N := 20) (a := (23, 24, 0)) (PH1 := up Y14 (23, 24, 0) (aI g 20 (fun _ => nI 0))) C rfl (by omega) dX10_init_394 rfl (by omega) m16 rfl (by omega) (by omega) ?_
  refine V.putF (q := 399) C fl_X10_58 rfl rfl rfl dX10_init_396 rfl (Ok_of m0 (by omega) (by omega)) (up_n m0 m16 (by omega) (by omega) (by omega) a14) (Nat.le_of_ble_eq_true rfl) rfl rfl (PH1 := up (up Y14 (23, 24, 0) (aI g 20 (fun _ => nI 0))) (22, 0, 0) (.inr (10, [rf g (23, 0, 0), rf g (23, 1, 0), rf g (23, 2, 0), .int 0, rf g (23, 4, 0), .int 0, rf g (23, 6, 0), rf g (23, 7, 0), .int 0, rf g (23, 9, 0), .int 0, .int 0, .int 0, .int 0, .int 0, .int 0, rf g (23, 16, 0), rf g (23, 17, 0), rf g (23, 18, 0), rf g (23, 19, 0), rf g (23, 20, 0), rf g (23, 21, 0), rf g (23, 22, 0), rf g (23, 23, 0), rf g (23, 24, 0), .int 0, .null, .null, .null, .null]))) rfl ?_
  refine V.cs (c2 := 16) (s2 := 1352) (by decide) (by decide) (V.nn (n2 := 175) (by decide) ?_)
  refine V.forget (P := PH) (i := 158) (L := [158]) (a := (22, 0, 0)) (e := .inr (10, [rf g (23, 0, 0), rf g (23, 1, 0), rf g (23, 2, 0), .int 0, rf g (23, 4, 0), .int 0, rf g (23, 6, 0), rf g (23, 7, 0), .int 0, rf g (23, 9, 0), .int 0, .int 0, .int 0, .int 0, .int 0, .int 0, rf g (23, 16, 0), rf g (23, 17, 0), rf g (23, 18, 0), rf g (23, 19, 0), rf g (23, 20, 0), rf g (23, 21, 0), rf g (23, 22, 0), rf g (23, 23, 0), rf g (23, 24, 0), .int 0, .null, .null, .null, .null])) up_eq (Dn.put (Dn.arr (n := 174) D14 (by omega) (by omega) m16 (rfl)) (by omega) (by omega) m0 (by simp)) (fun Y15 a15 D15 => ?_)
  refine V.aload_n (q := 400) C dX10_init_399 rfl rfl ?_
  refine V.bipush (q := 402) (v := nI 6) C dX10_init_400 rfl (by decide) ?_
  refine V.newI (q := 404) (N := 6) (a := (23, 26, 0)) (PH1 := up Y15 (23, 26, 0) (aI g 6 (fun _ => nI 0))) C rfl (by omega) dX10_init_402 rfl (by omega) m17 rfl (by omega) (by omega) ?_
  refine V.dup (q := 405) C dX10_init_404 rfl rfl ?_
  refine V.iconst (q := 406) (v := nI 0) C dX10_init_405 rfl (by decide) ?_
  refine V.iconst (q := 407) (v := -1) C dX10_init_406 rfl (by decide) ?_
  refine V.ist (q := 408) (i := 0) C dX10_init_407 rfl (Ok_of m17 (by omega) (by omega)) up_eq rfl (by omega) (by decide) (PH1 := up Y15 (23, 26, 0) (aI g 6 (upd (fun _ => nI 0) 0 (-1)))) up_up ?_
  refine V.dup (q := 409) C dX10_init_408 rfl rfl ?_
  refine V.iconst (q := 410) (v := nI 1) C dX10_init_409 rfl (by decide) ?_
  refine V.iconst (q := 411) (v := -1) C dX10_init_410 rfl (by decide) ?_
  refine V.ist (q := 412) (i := 1) C dX10_init_411 rfl (Ok_of m17 (by omega) (by omega)) up_eq rfl (by omega) (by decide) (PH1 := up Y15 (23, 26, 0) (aI g 6 (upd (upd (fun _ => nI 0) 0 (-1)) 1 (-1)))) up_up ?_
  refine V.dup (q := 413) C dX10_init_412 rfl rfl ?_
  refine V.iconst (q := 414) (v := nI 2) C dX10_init_413 rfl (by decide) ?_
  refine V.iconst (q := 415) (v := -1) C dX10_init_414 rfl (by decide) ?_
  refine V.ist (q := 416) (i := 2) C dX10_init_415 rfl (Ok_of m17 (by omega) (by omega)) up_eq rfl (by omega) (by decide) (PH1 := up Y15 (23, 26, 0) (aI g 6 (upd (upd (upd (fun _ => nI 0) 0 (-1)) 1 (-1)) 2 (-1)))) up_up ?_
  refine V.dup (q := 417) C dX10_init_416 rfl rfl ?_
  refine V.iconst (q := 418) (v := nI 3) C dX10_init_417 rfl (by decide) ?_
  refine V.iconst (q := 419) (v := -1) C dX10_init_418 rfl (by decide) ?_
  refine V.ist (q := 420) (i := 3) C dX10_init_419 rfl (Ok_of m17 (by omega) (by omega)) up_eq rfl (by omega) (by decide) (PH1 := up Y15 (23, 26, 0) (aI g 6 (upd (upd (upd (upd (fun _ => nI 0) 0 (-1)) 1 (-1)) 2 (-1)) 3 (-1)))) up_up ?_
  refine V.dup (q := 421) C dX10_init_420 rfl rfl ?_
  refine V.iconst (q := 422) (v := nI 4) C dX10_init_421 rfl (by decide) ?_
  refine V.iconst (q := 423) (v := -1) C dX10_init_422 rfl (by decide) ?_
  refine V.ist (q := 424) (i := 4) C dX10_init_423 rfl (Ok_of m17 (by omega) (by omega)) up_eq rfl (by omega) (by decide) (PH1 := up Y15 (23, 26, 0) (aI g 6 (upd (upd (upd (upd (upd (fun _ => nI 0) 0 (-1)) 1 (-1)) 2 (-1)) 3 (-1)) 4 (-1)))) up_up ?_
  refine V.dup (q := 425) C dX10_init_424 rfl rfl ?_
  refine V.iconst (q := 426) (v := nI 5) C dX10_init_425 rfl (by decide) ?_
  refine V.iconst (q := 427) (v := -1) C dX10_init_426 rfl (by decide) ?_
  refine V.ist (q := 428) (i := 5) C dX10_init_427 rfl (Ok_of m17 (by omega) (by omega)) up_eq rfl (by omega) (by decide) (PH1 := up Y15 (23, 26, 0) (aI g 6 (upd (upd (upd (upd (upd (upd (fun _ => nI 0) 0 (-1)) 1 (-1)) 2 (-1)) 3 (-1)) 4 (-1)) 5 (-1)))) up_up ?_
  refine V.putF (q := 431) C fl_X10_61 rfl rfl rfl dX10_init_428 rfl (Ok_of m0 (by omega) (by omega)) (up_n m0 m17 (by omega) (by omega) (by omega) a15) (Nat.le_of_ble_eq_true rfl) rfl rfl (PH1 := up (up Y15 (23, 26, 0) (aI g 6 (upd (upd (upd (upd (upd (upd (fun _ => nI 0) 0 (-1)) 1 (-1)) 2 (-1)) 3 (-1)) 4 (-1)) 5 (-1)))) (22, 0, 0) (.inr (10, [rf g (23, 0, 0), rf g (23, 1, 0), rf g (23, 2, 0), .int 0, rf g (23, 4, 0), .int 0, rf g (23, 6, 0), rf g (23, 7, 0), .int 0, rf g (23, 9, 0), .int 0, .int 0, .int 0, .int 0, .int 0, .int 0, rf g (23, 16, 0), rf g (23, 17, 0), rf g (23, 18, 0), rf g (23, 19, 0), rf g (23, 20, 0), rf g (23, 21, 0), rf g (23, 22, 0), rf g (23, 23, 0), rf g (23, 24, 0), .int 0, rf g (23, 26, 0), .null, .null, .null]))) rfl ?_
  refine V.cs (c2 := 17) (s2 := 1358) (by decide) (by decide) (V.nn (n2 := 176) (by decide) ?_)
  refine V.forget (P := PH) (i := 158) (L := [158]) (a := (22, 0, 0)) (e := .inr (10, [rf g (23, 0, 0), rf g (23, 1, 0), rf g (23, 2, 0), .int 0, rf g (23, 4, 0), .int 0, rf g (23, 6, 0), rf g (23, 7, 0), .int 0, rf g (23, 9, 0), .int 0, .int 0, .int 0, .int 0, .int 0, .int 0, rf g (23, 16, 0), rf g (23, 17, 0), rf g (23, 18, 0), rf g (23, 19, 0), rf g (23, 20, 0), rf g (23, 21, 0), rf g (23, 22, 0), rf g (23, 23, 0), rf g (23, 24, 0), .int 0, rf g (23, 26, 0), .null, .null, .null])) up_eq (Dn.put (Dn.arr (n := 175) D15 (by omega) (by omega) m17 (aI_eq (by decide +kernel))) (by omega) (by omega) m0 (by simp)) (fun Y16 a16 D16 => ?_)
  refine V.aload_n (q := 432) C dX10_init_431 rfl rfl ?_
  refine V.bipush (q := 434) (v := nI 6) C dX10_init_432 rfl (by decide) ?_
  refine V.newI (q := 436) (N := 6) (a := (23, 27, 0)) (PH1 := up Y16 (23, 27, 0) (aI g 6 (fun _ => nI 0))) C rfl (by omega) dX10_init_434 rfl (by omega) m18 rfl (by omega) (by omega) ?_
  refine V.putF (q := 439) C fl_X10_64 rfl rfl rfl dX10_init_436 rfl (Ok_of m0 (by omega) (by omega)) (up_n m0 m18 (by omega) (by omega) (by omega) a16) (Nat.le_of_ble_eq_true rfl) rfl rfl (PH1 := up (up Y16 (23, 27, 0) (aI g 6 (fun _ => nI 0))) (22, 0, 0) (.inr (10, [rf g (23, 0, 0), rf g (23, 1, 0), rf g (23, 2, 0), .int 0, rf g (23, 4, 0), .int 0, rf g (23, 6, 0), rf g (23, 7, 0), .int 0, rf g (23, 9, 0), .int 0, .int 0, .int 0, .int 0, .int 0, .int 0, rf g (23, 16, 0), rf g (23, 17, 0), rf g (23, 18, 0), rf g (23, 19, 0), rf g (23, 20, 0), rf g (23, 21, 0), rf g (23, 22, 0), rf g (23, 23, 0), rf g (23, 24, 0), .int 0, rf g (23, 26, 0), rf g (23, 27, 0), .null, .null]))) rfl ?_
  refine V.cs (c2 := 18) (s2 := 1364) (by decide) (by decide) (V.nn (n2 := 177) (by decide) ?_)
  refine V.forget (P := PH) (i := 158) (L := [158]) (a := (22, 0, 0)) (e := .inr (10, [rf g (23, 0, 0), rf g (23, 1, 0), rf g (23, 2, 0), .int 0, rf g (23, 4, 0), .int 0, rf g (23, 6, 0), rf g (23, 7, 0), .int 0, rf g (23, 9, 0), .int 0, .int 0, .int 0, .int 0, .int 0, .int 0, rf g (23, 16, 0), rf g (23, 17, 0), rf g (23, 18, 0), rf g (23, 19, 0), rf g (23, 20, 0), rf g (23, 21, 0), rf g (23, 22, 0), rf g (23, 23, 0), rf g (23, 24, 0), .int 0, rf g (23, 26, 0), rf g (23, 27, 0), .null, .null])) up_eq (Dn.put (Dn.arr (n := 176) D16 (by omega) (by omega) m18 (rfl)) (by omega) (by omega) m0 (by simp)) (fun Y17 a17 D17 => ?_)
  refine V.aload_n (q := 440) C dX10_init_439 rfl rfl ?_
  refine V.sipush (q := 443) (v := nI 360) C dX10_init_440 rfl (by decide) ?_
  refine V.newL (q := 445) (N := 360) (a := (23, 28, 0)) (PH1 := up Y17 (23, 28, 0) (aL g 360 (fun _ => 0))) C rfl (by omega) dX10_init_443 rfl (by omega) m19 rfl (by omega) (by omega) ?_
  refine V.putF (q := 448) C fl_X10_67 rfl rfl rfl dX10_init_445 rfl (Ok_of m0 (by omega) (by omega)) (up_n m0 m19 (by omega) (by omega) (by omega) a17) (Nat.le_of_ble_eq_true rfl) rfl rfl (PH1 := up (up Y17 (23, 28, 0) (aL g 360 (fun _ => 0))) (22, 0, 0) (.inr (10, [rf g (23, 0, 0), rf g (23, 1, 0), rf g (23, 2, 0), .int 0, rf g (23, 4, 0), .int 0, rf g (23, 6, 0), rf g (23, 7, 0), .int 0, rf g (23, 9, 0), .int 0, .int 0, .int 0, .int 0, .int 0, .int 0, rf g (23, 16, 0), rf g (23, 17, 0), rf g (23, 18, 0), rf g (23, 19, 0), rf g (23, 20, 0), rf g (23, 21, 0), rf g (23, 22, 0), rf g (23, 23, 0), rf g (23, 24, 0), .int 0, rf g (23, 26, 0), rf g (23, 27, 0), rf g (23, 28, 0), .null]))) rfl ?_
  refine V.cs (c2 := 19) (s2 := 1724) (by decide) (by decide) (V.nn (n2 := 178) (by decide) ?_)
  refine V.forget (P := PH) (i := 158) (L := [158]) (a := (22, 0, 0)) (e := .inr (10, [rf g (23, 0, 0), rf g (23, 1, 0), rf g (23, 2, 0), .int 0, rf g (23, 4, 0), .int 0, rf g (23, 6, 0), rf g (23, 7, 0), .int 0, rf g (23, 9, 0), .int 0, .int 0, .int 0, .int 0, .int 0, .int 0, rf g (23, 16, 0), rf g (23, 17, 0), rf g (23, 18, 0), rf g (23, 19, 0), rf g (23, 20, 0), rf g (23, 21, 0), rf g (23, 22, 0), rf g (23, 23, 0), rf g (23, 24, 0), .int 0, rf g (23, 26, 0), rf g (23, 27, 0), rf g (23, 28, 0), .null])) up_eq (Dn.put (Dn.arr (n := 177) D17 (by omega) (by omega) m19 (rfl)) (by omega) (by omega) m0 (by simp)) (fun Y18 a18 D18 => ?_)
  refine V.aload_n (q := 449) C dX10_init_448 rfl rfl ?_
  refine V.bipush (q := 451) (v := nI 60) C dX10_init_449 rfl (by decide) ?_
  refine V.newL (q := 453) (N := 60) (a := (23, 29, 0)) (PH1 := up Y18 (23, 29, 0) (aL g 60 (fun _ => 0))) C rfl (by omega) dX10_init_451 rfl (by omega) m20 rfl (by omega) (by omega) ?_
  refine V.putF (q := 456) C fl_X10_71 rfl rfl rfl dX10_init_453 rfl (Ok_of m0 (by omega) (by omega)) (up_n m0 m20 (by omega) (by omega) (by omega) a18) (Nat.le_of_ble_eq_true rfl) rfl rfl (PH1 := up (up Y18 (23, 29, 0) (aL g 60 (fun _ => 0))) (22, 0, 0) (.inr (10, [rf g (23, 0, 0), rf g (23, 1, 0), rf g (23, 2, 0), .int 0, rf g (23, 4, 0), .int 0, rf g (23, 6, 0), rf g (23, 7, 0), .int 0, rf g (23, 9, 0), .int 0, .int 0, .int 0, .int 0, .int 0, .int 0, rf g (23, 16, 0), rf g (23, 17, 0), rf g (23, 18, 0), rf g (23, 19, 0), rf g (23, 20, 0), rf g (23, 21, 0), rf g (23, 22, 0), rf g (23, 23, 0), rf g (23, 24, 0), .int 0, rf g (23, 26, 0), rf g (23, 27, 0), rf g (23, 28, 0), rf g (23, 29, 0)]))) rfl ?_
  refine V.cs (c2 := 20) (s2 := 1784) (by decide) (by decide) (V.nn (n2 := 179) (by decide) ?_)
  refine V.forget (P := PH) (i := 158) (L := [158]) (a := (22, 0, 0)) (e := .inr (10, [rf g (23, 0, 0), rf g (23, 1, 0), rf g (23, 2, 0), .int 0, rf g (23, 4, 0), .int 0, rf g (23, 6, 0), rf g (23, 7, 0), .int 0, rf g (23, 9, 0), .int 0, .int 0, .int 0, .int 0, .int 0, .int 0, rf g (23, 16, 0), rf g (23, 17, 0), rf g (23, 18, 0), rf g (23, 19, 0), rf g (23, 20, 0), rf g (23, 21, 0), rf g (23, 22, 0), rf g (23, 23, 0), rf g (23, 24, 0), .int 0, rf g (23, 26, 0), rf g (23, 27, 0), rf g (23, 28, 0), rf g (23, 29, 0)])) up_eq (Dn.put (Dn.arr (n := 178) D18 (by omega) (by omega) m20 (rfl)) (by omega) (by omega) m0 (by simp)) (fun Y19 a19 D19 => ?_)
  refine V.vreturn C dX10_init_456 ?_
  refine D19.done (fun j hj => ?_)
  obtain rfl := List.mem_singleton.mp hj
  exact ⟨Nat.le_refl _, by rw [m0, a19]; rfl⟩
