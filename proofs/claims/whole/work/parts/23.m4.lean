theorem m_clause_l {l : Launch} {g : GG} {X : PHp} {now mind : I1} {th : I1 × Int32} {tx : TXt} {T : I1} {sz a : Nat} {w : Bool} {d : Nat} {S Rb : Int32} {Nm cv hu : I1} {tr : I1 × Int32} {tp : TPt} {Γ : Cxt} {Q : State → Prop} (hsz : sz ≤ 100) (ha : a ≤ sz) (C : Cx Γ g cX10_clause yX10_clause 4 none 20 0 0) (kx : V l Γ g 4 Q 0 0 NN (jn X (hM g now mind th tx (T, nI sz, nI a, b2i (w = true), nI d, S, Rb, Nm, cv, hu) tr tp)) 34 [some (rf g (22, 0, 0)), some (.int (lsP T sz w a mBeg 3)), some (.int (nI 3)), none] []) : ∀ k j : Nat, j + k = 3 → V l Γ g 4 Q 0 0 NN (jn X (hM g now mind th tx (T, nI sz, nI a, b2i (w = true), nI d, S, Rb, Nm, cv, hu) tr tp)) 4 [some (rf g (22, 0, 0)), some (.int (lsP T sz w a mBeg j)), some (.int (nI j)), none] [] := by
  intro k
  induction k with
  | zero =>
    intro j hj
    have ej : j = 3 := by omega
    subst ej
    refine V.iload_n (q := 5) C dX10_clause_4 rfl rfl ?_
    refine V.iconst (q := 6) (v := nI 3) C dX10_clause_5 rfl (by decide) ?_
    refine V.icmp_ge (q := 9) (tgt := 34) C dX10_clause_6 rfl rfl (fun hb6 => ?_) (fun hb6 => ?_)
    · exact kx
    · exact absurd ((nI_leI (by omega) (by omega)).mpr (by omega)) hb6
  | succ k ih =>
    intro j hj
    refine V.iload_n (q := 5) C dX10_clause_4 rfl rfl ?_
    refine V.iconst (q := 6) (v := nI 3) C dX10_clause_5 rfl (by decide) ?_
    refine V.icmp_ge (q := 9) (tgt := 34) C dX10_clause_6 rfl rfl (fun hb6 => ?_) (fun hb6 => ?_)
    · exact absurd ((nI_leI (by omega) (by omega)).mp hb6) (by omega)
    · refine V.aload_n (q := 10) C dX10_clause_9 rfl rfl ?_
      refine V.aload_n (q := 11) C dX10_clause_10 rfl rfl ?_
      refine V.get (q := 14) C fl_X10_40 dX10_clause_11 rfl okM rfl rfl ?_
      refine V.iload_n (q := 15) C dX10_clause_14 rfl rfl ?_
      refine V.cld (q := 16) (i := j) C dX10_clause_15 rfl okM_18 rfl rfl (by omega) (by decide) ?_
      try dsimp only
      refine V.callVi (q := 19) C me_X10_isAt (m_isAt (by omega) (by omega)) ml_X10_133 dX10_clause_16 rfl okM ⟨_, rfl⟩ rfl rfl (Nat.le_of_ble_eq_true rfl) (by omega) (Nat.zero_le _) (Nat.zero_le _) ?_
      refine V.if_eqB (q := 22) (tgt := 26) C dX10_clause_19 rfl rfl (fun hb19 => ?_) (fun hb19 => ?_)
      · refine V.iload_n (q := 27) C dX10_clause_26 rfl rfl ?_
        refine V.istore_n (q := 28) C dX10_clause_27 rfl (by decide) rfl rfl ?_
        refine V.iinc (q := 31) (v := nI (j + 1)) C dX10_clause_28 rfl rfl (nI_1 _) (by decide) rfl rfl ?_
        refine V.goto (tgt := 4) C dX10_clause_31 rfl ?_
        have e9 : lsP T sz w a mBeg (j + 1) = lsP T sz w a mBeg j := if_neg hb19
        have h9 := ih (j + 1) (by omega)
        rw [e9] at h9
        exact h9
      · refine V.iload_n (q := 23) C dX10_clause_22 rfl rfl ?_
        refine V.goto (tgt := 27) C dX10_clause_23 rfl ?_
        refine V.istore_n (q := 28) C dX10_clause_27 rfl (by decide) rfl rfl ?_
        refine V.iinc (q := 31) (v := nI (j + 1)) C dX10_clause_28 rfl rfl (nI_1 _) (by decide) rfl rfl ?_
        refine V.goto (tgt := 4) C dX10_clause_31 rfl ?_
        have e9 : lsP T sz w a mBeg (j + 1) = nI j := if_pos hb19
        have h9 := ih (j + 1) (by omega)
        rw [e9] at h9
        exact h9
theorem m_clause_firm {l : Launch} {g : GG} {X : PHp} {now mind : I1} {th : I1 × Int32} {tx : TXt} {T : I1} {sz a : Nat} {d : Nat} {S Rb : Int32} {Nm cv hu : I1} {tr : I1 × Int32} {tp : TPt} {Γ : Cxt} (hsz : sz ≤ 100) (ha : a ≤ sz) (u v : Option Value) (C : Cx Γ g cX10_clause yX10_clause 4 none 20 0 0) : V l Γ g 4 (QM Γ g (pV (jn X (hM g now mind th tx (T, nI sz, nI (csP T sz Nm wFirm true a S Rb).2.1, b2i ((csP T sz Nm wFirm true a S Rb).1 = true), nI (csP T sz Nm wFirm true a S Rb).2.2.2.2.2, (csP T sz Nm wFirm true a S Rb).2.2.2.1, (csP T sz Nm wFirm true a S Rb).2.2.2.2.1, Nm, cv, hu) tr tp))) 0 0) 0 0 NN (jn X (hM g now mind th tx (T, nI sz, nI a, b2i (true = true), nI d, S, Rb, Nm, cv, hu) tr tp)) 45 [some (rf g (22, 0, 0)), some (.int (nI 0)), u, v] [] := by
  refine V.iconst (q := 46) (v := nI 0) C dX10_clause_45 rfl (by decide) ?_
  refine V.istore_n (q := 47) C dX10_clause_46 rfl (by decide) rfl rfl ?_
  refine V.iload_n (q := 48) C dX10_clause_47 rfl rfl ?_
  refine V.iconst (q := 49) (v := nI 5) C dX10_clause_48 rfl (by decide) ?_
  refine V.icmp_ge (q := 52) (tgt := 85) C dX10_clause_49 rfl rfl (fun hb49 => ?_) (fun hb49 => ?_)
  · exact absurd hb49 (by decide)
  · refine V.aload_n (q := 53) C dX10_clause_52 rfl rfl ?_
    refine V.get (q := 56) C fl_X10_43 dX10_clause_53 rfl okM rfl rfl ?_
    refine V.iconst (q := 57) (v := nI 5) C dX10_clause_56 rfl (by decide) ?_
    refine V.iload_n (q := 58) C dX10_clause_57 rfl rfl ?_
    refine V.imul (q := 59) C dX10_clause_58 rfl ?_
    refine V.topi (x1 := nI (5 * 0)) (pk_mul _ _) ?_
    refine V.iload_n (q := 60) C dX10_clause_59 rfl rfl ?_
    refine V.iadd (q := 61) C dX10_clause_60 rfl ?_
    refine V.topi (x1 := nI ((5 * 0) + 0)) (nI_add _ _) ?_
    refine V.cld (q := 62) (i := ((5 * 0) + 0)) C dX10_clause_61 rfl okM_19 rfl rfl (by omega) (by decide) ?_
    try dsimp only
    refine V.if_eq (q := 65) (tgt := 85) C dX10_clause_62 rfl rfl (fun hb62 => ?_) (fun hb62 => ?_)
    · exact absurd hb62 (by decide)
    · refine V.aload_n (q := 66) C dX10_clause_65 rfl rfl ?_
      refine V.aload_n (q := 67) C dX10_clause_66 rfl rfl ?_
      refine V.get (q := 70) C fl_X10_43 dX10_clause_67 rfl okM rfl rfl ?_
      refine V.iconst (q := 71) (v := nI 5) C dX10_clause_70 rfl (by decide) ?_
      refine V.iload_n (q := 72) C dX10_clause_71 rfl rfl ?_
      refine V.imul (q := 73) C dX10_clause_72 rfl ?_
      refine V.topi (x1 := nI (5 * 0)) (pk_mul _ _) ?_
      refine V.iload_n (q := 74) C dX10_clause_73 rfl rfl ?_
      refine V.iadd (q := 75) C dX10_clause_74 rfl ?_
      refine V.topi (x1 := nI ((5 * 0) + 0)) (nI_add _ _) ?_
      refine V.cld (q := 76) (i := ((5 * 0) + 0)) C dX10_clause_75 rfl okM_19 rfl rfl (by omega) (by decide) ?_
      try dsimp only
      refine V.topi (x1 := nI 102) (by decide) ?_
      refine V.callVv (q := 79) C me_X10_takes (m_takes hsz ha) ml_X10_140 dX10_clause_76 rfl okM ⟨_, rfl⟩ rfl rfl (Nat.le_of_ble_eq_true rfl) (by omega) (Nat.zero_le _) (Nat.zero_le _) ?_
      obtain ⟨w1, a1, e1⟩ : ∃ (w9 : Bool) (a9 : Nat), tkP T sz (nI 102) true a = (w9, a9) := ⟨_, _, rfl⟩
      have ha1 : a1 ≤ sz := by have q := (tk_le (T := T) (sz := sz) (c := nI 102) (w := true) (a := a) ha).2; rw [e1] at q; exact q
      rw [e1]
      dsimp only
      refine V.iinc (q := 82) (v := nI (0 + 1)) C dX10_clause_79 rfl rfl (nI_1 _) (by decide) rfl rfl ?_
      refine V.goto (tgt := 47) C dX10_clause_82 rfl ?_
      refine V.iload_n (q := 48) C dX10_clause_47 rfl rfl ?_
      refine V.iconst (q := 49) (v := nI 5) C dX10_clause_48 rfl (by decide) ?_
      refine V.icmp_ge (q := 52) (tgt := 85) C dX10_clause_49 rfl rfl (fun hb49 => ?_) (fun hb49 => ?_)
      · exact absurd hb49 (by decide)
      · refine V.aload_n (q := 53) C dX10_clause_52 rfl rfl ?_
        refine V.get (q := 56) C fl_X10_43 dX10_clause_53 rfl okM rfl rfl ?_
        refine V.iconst (q := 57) (v := nI 5) C dX10_clause_56 rfl (by decide) ?_
        refine V.iload_n (q := 58) C dX10_clause_57 rfl rfl ?_
        refine V.imul (q := 59) C dX10_clause_58 rfl ?_
        refine V.topi (x1 := nI (5 * 0)) (pk_mul _ _) ?_
        refine V.iload_n (q := 60) C dX10_clause_59 rfl rfl ?_
        refine V.iadd (q := 61) C dX10_clause_60 rfl ?_
        refine V.topi (x1 := nI ((5 * 0) + (0 + 1))) (nI_add _ _) ?_
        refine V.cld (q := 62) (i := ((5 * 0) + (0 + 1))) C dX10_clause_61 rfl okM_19 rfl rfl (by omega) (by decide) ?_
        try dsimp only
        refine V.if_eq (q := 65) (tgt := 85) C dX10_clause_62 rfl rfl (fun hb62 => ?_) (fun hb62 => ?_)
        · exact absurd hb62 (by decide)
        · refine V.aload_n (q := 66) C dX10_clause_65 rfl rfl ?_
          refine V.aload_n (q := 67) C dX10_clause_66 rfl rfl ?_
          refine V.get (q := 70) C fl_X10_43 dX10_clause_67 rfl okM rfl rfl ?_
          refine V.iconst (q := 71) (v := nI 5) C dX10_clause_70 rfl (by decide) ?_
          refine V.iload_n (q := 72) C dX10_clause_71 rfl rfl ?_
          refine V.imul (q := 73) C dX10_clause_72 rfl ?_
          refine V.topi (x1 := nI (5 * 0)) (pk_mul _ _) ?_
          refine V.iload_n (q := 74) C dX10_clause_73 rfl rfl ?_
          refine V.iadd (q := 75) C dX10_clause_74 rfl ?_
          refine V.topi (x1 := nI ((5 * 0) + (0 + 1))) (nI_add _ _) ?_
          refine V.cld (q := 76) (i := ((5 * 0) + (0 + 1))) C dX10_clause_75 rfl okM_19 rfl rfl (by omega) (by decide) ?_
          try dsimp only
          refine V.topi (x1 := nI 105) (by decide) ?_
          refine V.callVv (q := 79) C me_X10_takes (m_takes hsz ha1) ml_X10_140 dX10_clause_76 rfl okM ⟨_, rfl⟩ rfl rfl (Nat.le_of_ble_eq_true rfl) (by omega) (Nat.zero_le _) (Nat.zero_le _) ?_
          obtain ⟨w2, a2, e2⟩ : ∃ (w9 : Bool) (a9 : Nat), tkP T sz (nI 105) w1 a1 = (w9, a9) := ⟨_, _, rfl⟩
          have ha2 : a2 ≤ sz := by have q := (tk_le (T := T) (sz := sz) (c := nI 105) (w := w1) (a := a1) ha1).2; rw [e2] at q; exact q
          rw [e2]
          dsimp only
          refine V.iinc (q := 82) (v := nI ((0 + 1) + 1)) C dX10_clause_79 rfl rfl (nI_1 _) (by decide) rfl rfl ?_
          refine V.goto (tgt := 47) C dX10_clause_82 rfl ?_
          refine V.iload_n (q := 48) C dX10_clause_47 rfl rfl ?_
          refine V.iconst (q := 49) (v := nI 5) C dX10_clause_48 rfl (by decide) ?_
          refine V.icmp_ge (q := 52) (tgt := 85) C dX10_clause_49 rfl rfl (fun hb49 => ?_) (fun hb49 => ?_)
          · exact absurd hb49 (by decide)
          · refine V.aload_n (q := 53) C dX10_clause_52 rfl rfl ?_
            refine V.get (q := 56) C fl_X10_43 dX10_clause_53 rfl okM rfl rfl ?_
            refine V.iconst (q := 57) (v := nI 5) C dX10_clause_56 rfl (by decide) ?_
            refine V.iload_n (q := 58) C dX10_clause_57 rfl rfl ?_
            refine V.imul (q := 59) C dX10_clause_58 rfl ?_
            refine V.topi (x1 := nI (5 * 0)) (pk_mul _ _) ?_
            refine V.iload_n (q := 60) C dX10_clause_59 rfl rfl ?_
            refine V.iadd (q := 61) C dX10_clause_60 rfl ?_
            refine V.topi (x1 := nI ((5 * 0) + ((0 + 1) + 1))) (nI_add _ _) ?_
            refine V.cld (q := 62) (i := ((5 * 0) + ((0 + 1) + 1))) C dX10_clause_61 rfl okM_19 rfl rfl (by omega) (by decide) ?_
            try dsimp only
            refine V.if_eq (q := 65) (tgt := 85) C dX10_clause_62 rfl rfl (fun hb62 => ?_) (fun hb62 => ?_)
            · exact absurd hb62 (by decide)
            · refine V.aload_n (q := 66) C dX10_clause_65 rfl rfl ?_
              refine V.aload_n (q := 67) C dX10_clause_66 rfl rfl ?_
              refine V.get (q := 70) C fl_X10_43 dX10_clause_67 rfl okM rfl rfl ?_
              refine V.iconst (q := 71) (v := nI 5) C dX10_clause_70 rfl (by decide) ?_
              refine V.iload_n (q := 72) C dX10_clause_71 rfl rfl ?_
              refine V.imul (q := 73) C dX10_clause_72 rfl ?_
              refine V.topi (x1 := nI (5 * 0)) (pk_mul _ _) ?_
              refine V.iload_n (q := 74) C dX10_clause_73 rfl rfl ?_
              refine V.iadd (q := 75) C dX10_clause_74 rfl ?_
              refine V.topi (x1 := nI ((5 * 0) + ((0 + 1) + 1))) (nI_add _ _) ?_
              refine V.cld (q := 76) (i := ((5 * 0) + ((0 + 1) + 1))) C dX10_clause_75 rfl okM_19 rfl rfl (by omega) (by decide) ?_
              try dsimp only
              refine V.topi (x1 := nI 114) (by decide) ?_
              refine V.callVv (q := 79) C me_X10_takes (m_takes hsz ha2) ml_X10_140 dX10_clause_76 rfl okM ⟨_, rfl⟩ rfl rfl (Nat.le_of_ble_eq_true rfl) (by omega) (Nat.zero_le _) (Nat.zero_le _) ?_
              obtain ⟨w3, a3, e3⟩ : ∃ (w9 : Bool) (a9 : Nat), tkP T sz (nI 114) w2 a2 = (w9, a9) := ⟨_, _, rfl⟩
              have ha3 : a3 ≤ sz := by have q := (tk_le (T := T) (sz := sz) (c := nI 114) (w := w2) (a := a2) ha2).2; rw [e3] at q; exact q
              rw [e3]
              dsimp only
              refine V.iinc (q := 82) (v := nI (((0 + 1) + 1) + 1)) C dX10_clause_79 rfl rfl (nI_1 _) (by decide) rfl rfl ?_
              refine V.goto (tgt := 47) C dX10_clause_82 rfl ?_
              refine V.iload_n (q := 48) C dX10_clause_47 rfl rfl ?_
              refine V.iconst (q := 49) (v := nI 5) C dX10_clause_48 rfl (by decide) ?_
              refine V.icmp_ge (q := 52) (tgt := 85) C dX10_clause_49 rfl rfl (fun hb49 => ?_) (fun hb49 => ?_)
              · exact absurd hb49 (by decide)
              · refine V.aload_n (q := 53) C dX10_clause_52 rfl rfl ?_
                refine V.get (q := 56) C fl_X10_43 dX10_clause_53 rfl okM rfl rfl ?_
                refine V.iconst (q := 57) (v := nI 5) C dX10_clause_56 rfl (by decide) ?_
                refine V.iload_n (q := 58) C dX10_clause_57 rfl rfl ?_
                refine V.imul (q := 59) C dX10_clause_58 rfl ?_
                refine V.topi (x1 := nI (5 * 0)) (pk_mul _ _) ?_
                refine V.iload_n (q := 60) C dX10_clause_59 rfl rfl ?_
                refine V.iadd (q := 61) C dX10_clause_60 rfl ?_
                refine V.topi (x1 := nI ((5 * 0) + (((0 + 1) + 1) + 1))) (nI_add _ _) ?_
                refine V.cld (q := 62) (i := ((5 * 0) + (((0 + 1) + 1) + 1))) C dX10_clause_61 rfl okM_19 rfl rfl (by omega) (by decide) ?_
                try dsimp only
                refine V.if_eq (q := 65) (tgt := 85) C dX10_clause_62 rfl rfl (fun hb62 => ?_) (fun hb62 => ?_)
                · exact absurd hb62 (by decide)
                · refine V.aload_n (q := 66) C dX10_clause_65 rfl rfl ?_
                  refine V.aload_n (q := 67) C dX10_clause_66 rfl rfl ?_
                  refine V.get (q := 70) C fl_X10_43 dX10_clause_67 rfl okM rfl rfl ?_
                  refine V.iconst (q := 71) (v := nI 5) C dX10_clause_70 rfl (by decide) ?_
                  refine V.iload_n (q := 72) C dX10_clause_71 rfl rfl ?_
                  refine V.imul (q := 73) C dX10_clause_72 rfl ?_
                  refine V.topi (x1 := nI (5 * 0)) (pk_mul _ _) ?_
                  refine V.iload_n (q := 74) C dX10_clause_73 rfl rfl ?_
                  refine V.iadd (q := 75) C dX10_clause_74 rfl ?_
                  refine V.topi (x1 := nI ((5 * 0) + (((0 + 1) + 1) + 1))) (nI_add _ _) ?_
                  refine V.cld (q := 76) (i := ((5 * 0) + (((0 + 1) + 1) + 1))) C dX10_clause_75 rfl okM_19 rfl rfl (by omega) (by decide) ?_
                  try dsimp only
                  refine V.topi (x1 := nI 109) (by decide) ?_
                  refine V.callVv (q := 79) C me_X10_takes (m_takes hsz ha3) ml_X10_140 dX10_clause_76 rfl okM ⟨_, rfl⟩ rfl rfl (Nat.le_of_ble_eq_true rfl) (by omega) (Nat.zero_le _) (Nat.zero_le _) ?_
                  obtain ⟨w4, a4, e4⟩ : ∃ (w9 : Bool) (a9 : Nat), tkP T sz (nI 109) w3 a3 = (w9, a9) := ⟨_, _, rfl⟩
                  have ha4 : a4 ≤ sz := by have q := (tk_le (T := T) (sz := sz) (c := nI 109) (w := w3) (a := a3) ha3).2; rw [e4] at q; exact q
                  rw [e4]
                  dsimp only
                  refine V.iinc (q := 82) (v := nI ((((0 + 1) + 1) + 1) + 1)) C dX10_clause_79 rfl rfl (nI_1 _) (by decide) rfl rfl ?_
                  refine V.goto (tgt := 47) C dX10_clause_82 rfl ?_
                  refine V.iload_n (q := 48) C dX10_clause_47 rfl rfl ?_
                  refine V.iconst (q := 49) (v := nI 5) C dX10_clause_48 rfl (by decide) ?_
                  refine V.icmp_ge (q := 52) (tgt := 85) C dX10_clause_49 rfl rfl (fun hb49 => ?_) (fun hb49 => ?_)
                  · exact absurd hb49 (by decide)
                  · refine V.aload_n (q := 53) C dX10_clause_52 rfl rfl ?_
                    refine V.get (q := 56) C fl_X10_43 dX10_clause_53 rfl okM rfl rfl ?_
                    refine V.iconst (q := 57) (v := nI 5) C dX10_clause_56 rfl (by decide) ?_
                    refine V.iload_n (q := 58) C dX10_clause_57 rfl rfl ?_
                    refine V.imul (q := 59) C dX10_clause_58 rfl ?_
                    refine V.topi (x1 := nI (5 * 0)) (pk_mul _ _) ?_
                    refine V.iload_n (q := 60) C dX10_clause_59 rfl rfl ?_
                    refine V.iadd (q := 61) C dX10_clause_60 rfl ?_
                    refine V.topi (x1 := nI ((5 * 0) + ((((0 + 1) + 1) + 1) + 1))) (nI_add _ _) ?_
                    refine V.cld (q := 62) (i := ((5 * 0) + ((((0 + 1) + 1) + 1) + 1))) C dX10_clause_61 rfl okM_19 rfl rfl (by omega) (by decide) ?_
                    try dsimp only
                    refine V.if_eq (q := 65) (tgt := 85) C dX10_clause_62 rfl rfl (fun hb62 => ?_) (fun hb62 => ?_)
                    · refine V.aload_n (q := 86) C dX10_clause_85 rfl rfl ?_
                      refine V.bipush (q := 88) (v := nI 32) C dX10_clause_86 rfl (by decide) ?_
                      refine V.callVv (q := 91) C me_X10_takes (m_takes hsz ha4) ml_X10_140 dX10_clause_88 rfl okM ⟨_, rfl⟩ rfl rfl (Nat.le_of_ble_eq_true rfl) (by omega) (Nat.zero_le _) (Nat.zero_le _) ?_
                      obtain ⟨w5, a5, e5⟩ : ∃ (w9 : Bool) (a9 : Nat), tkP T sz (nI 32) w4 a4 = (w9, a9) := ⟨_, _, rfl⟩
                      have ha5 : a5 ≤ sz := by have q := (tk_le (T := T) (sz := sz) (c := nI 32) (w := w4) (a := a4) ha4).2; rw [e5] at q; exact q
                      rw [e5]
                      dsimp only
                      refine V.aload_n (q := 92) C dX10_clause_91 rfl rfl ?_
                      refine V.callVi (q := 95) C me_X10_number (m_number hsz ha5) ml_X10_144 dX10_clause_92 rfl okM ⟨_, rfl⟩ rfl rfl (Nat.le_of_ble_eq_true rfl) (by omega) (Nat.zero_le _) (Nat.zero_le _) ?_
                      obtain ⟨w6, a6, v6, e6⟩ : ∃ (w9 : Bool) (a9 : Nat) (v9 : Int32), nuP T sz w5 a5 = (w9, a9, v9) := ⟨_, _, _, rfl⟩
                      have ha6 : a6 ≤ sz := by have q := (nu_le (T := T) (sz := sz) (w := w5) (a := a5) ha5).2; rw [e6] at q; exact q
                      rw [e6]
                      dsimp only
                      refine V.istore_n (q := 96) C dX10_clause_95 rfl (by decide) rfl rfl ?_
                      refine V.iload_n (q := 97) C dX10_clause_96 rfl rfl ?_
                      refine V.iconst (q := 98) (v := nI 2) C dX10_clause_97 rfl (by decide) ?_
                      refine V.icmp_ne (q := 101) (tgt := 107) C dX10_clause_98 rfl rfl (fun hb98 => ?_) (fun hb98 => ?_)
                      · refine V.aload_n (q := 108) C dX10_clause_107 rfl rfl ?_
                        refine V.bipush (q := 110) (v := nI 32) C dX10_clause_108 rfl (by decide) ?_
                        refine V.callVv (q := 113) C me_X10_takes (m_takes hsz ha6) ml_X10_140 dX10_clause_110 rfl okM ⟨_, rfl⟩ rfl rfl (Nat.le_of_ble_eq_true rfl) (by omega) (Nat.zero_le _) (Nat.zero_le _) ?_
                        obtain ⟨w7, a7, e7⟩ : ∃ (w9 : Bool) (a9 : Nat), tkP T sz (nI 32) w6 a6 = (w9, a9) := ⟨_, _, rfl⟩
                        have ha7 : a7 ≤ sz := by have q := (tk_le (T := T) (sz := sz) (c := nI 32) (w := w6) (a := a6) ha6).2; rw [e7] at q; exact q
                        rw [e7]
                        dsimp only
                        refine V.aload_n (q := 114) C dX10_clause_113 rfl rfl ?_
                        refine V.iconst (q := 115) (v := nI 0) C dX10_clause_114 rfl (by decide) ?_
                        refine V.put (q := 118) C fl_X10_148 rfl dX10_clause_115 rfl okM rfl (Nat.le_of_ble_eq_true rfl) rfl rfl uM_within ?_
                        try dsimp only
                        refine V.aload_n (q := 119) C dX10_clause_118 rfl rfl ?_
                        refine V.callVi (q := 122) C me_X10_any (m_any4 _ _ _ _ _ _ _ _ _ _ _ _ _ _ _ hsz ha7) ml_X10_154 dX10_clause_119 rfl okM ⟨_, rfl⟩ rfl rfl (Nat.le_of_ble_eq_true rfl) (by omega) (Nat.zero_le _) (Nat.zero_le _) ?_
                        obtain ⟨w8, a8, L8, b8, e8⟩ : ∃ (w9 : Bool) (a9 : Nat) (L9 : List (Int32 × Int32)) (b9 : Bool), anP (faP T sz Nm 4) T sz w7 a7 = (w9, a9, L9, b9) := ⟨_, _, _, _, rfl⟩
                        rw [e8]
                        dsimp only
                        refine V.istore_n (q := 123) C dX10_clause_122 rfl (by decide) rfl rfl ?_
                        refine V.aload_n (q := 124) C dX10_clause_123 rfl rfl ?_
                        refine V.dup (q := 125) C dX10_clause_124 rfl rfl ?_
                        refine V.get (q := 128) C fl_X10_166 dX10_clause_125 rfl okM rfl rfl ?_
                        try dsimp only
                        refine V.iload_n (q := 129) C dX10_clause_128 rfl rfl ?_
                        refine V.if_neB (q := 132) (tgt := 136) C dX10_clause_129 rfl rfl (fun hb129 => ?_) (fun hb129 => ?_)
                        · refine V.iload_n (q := 137) C dX10_clause_136 rfl rfl ?_
                          refine V.if_ne (q := 140) (tgt := 144) C dX10_clause_137 rfl rfl (fun hb137 => ?_) (fun hb137 => ?_)
                          · exact absurd hb137 (by decide)
                          · refine V.iload_n (q := 141) C dX10_clause_140 rfl rfl ?_
                            refine V.goto (tgt := 146) C dX10_clause_141 rfl ?_
                            refine V.iadd (q := 147) C dX10_clause_146 rfl ?_
                            refine V.put (q := 150) C fl_X10_166 rfl dX10_clause_147 rfl okM rfl (Nat.le_of_ble_eq_true rfl) rfl rfl uM_sum ?_
                            try dsimp only
                            exact V.vreturn C dX10_clause_150 ⟨rfl, by simp only [csP, wFirm, wdP, e1, e2, e3, e4, e5, e6, e7, e8, hb129, Bool.false_eq_true, ↓reduceIte], rfl⟩
                        · refine V.iconst (q := 133) (v := nI 0) C dX10_clause_132 rfl (by decide) ?_
                          refine V.goto (tgt := 146) C dX10_clause_133 rfl ?_
                          refine V.iadd (q := 147) C dX10_clause_146 rfl ?_
                          refine V.put (q := 150) C fl_X10_166 rfl dX10_clause_147 rfl okM rfl (Nat.le_of_ble_eq_true rfl) rfl rfl uM_sum ?_
                          try dsimp only
                          exact V.vreturn C dX10_clause_150 ⟨rfl, by simp only [csP, wFirm, wdP, e1, e2, e3, e4, e5, e6, e7, e8, hb129, Bool.false_eq_true, ↓reduceIte], rfl⟩
                      · exact absurd hb98 (by decide)
                    · exact absurd (by decide) hb62
theorem m_clause_weak {l : Launch} {g : GG} {X : PHp} {now mind : I1} {th : I1 × Int32} {tx : TXt} {T : I1} {sz a : Nat} {d : Nat} {S Rb : Int32} {Nm cv hu : I1} {tr : I1 × Int32} {tp : TPt} {Γ : Cxt} (hsz : sz ≤ 100) (ha : a ≤ sz) (u v : Option Value) (C : Cx Γ g cX10_clause yX10_clause 4 none 20 0 0) : V l Γ g 4 (QM Γ g (pV (jn X (hM g now mind th tx (T, nI sz, nI (csP T sz Nm wWeak false a S Rb).2.1, b2i ((csP T sz Nm wWeak false a S Rb).1 = true), nI (csP T sz Nm wWeak false a S Rb).2.2.2.2.2, (csP T sz Nm wWeak false a S Rb).2.2.2.1, (csP T sz Nm wWeak false a S Rb).2.2.2.2.1, Nm, cv, hu) tr tp))) 0 0) 0 0 NN (jn X (hM g now mind th tx (T, nI sz, nI a, b2i (true = true), nI d, S, Rb, Nm, cv, hu) tr tp)) 45 [some (rf g (22, 0, 0)), some (.int (nI 1)), u, v] [] := by
  refine V.iconst (q := 46) (v := nI 0) C dX10_clause_45 rfl (by decide) ?_
  refine V.istore_n (q := 47) C dX10_clause_46 rfl (by decide) rfl rfl ?_
  refine V.iload_n (q := 48) C dX10_clause_47 rfl rfl ?_
  refine V.iconst (q := 49) (v := nI 5) C dX10_clause_48 rfl (by decide) ?_
  refine V.icmp_ge (q := 52) (tgt := 85) C dX10_clause_49 rfl rfl (fun hb49 => ?_) (fun hb49 => ?_)
  · exact absurd hb49 (by decide)
  · refine V.aload_n (q := 53) C dX10_clause_52 rfl rfl ?_
    refine V.get (q := 56) C fl_X10_43 dX10_clause_53 rfl okM rfl rfl ?_
    refine V.iconst (q := 57) (v := nI 5) C dX10_clause_56 rfl (by decide) ?_
    refine V.iload_n (q := 58) C dX10_clause_57 rfl rfl ?_
    refine V.imul (q := 59) C dX10_clause_58 rfl ?_
    refine V.topi (x1 := nI (5 * 1)) (pk_mul _ _) ?_
    refine V.iload_n (q := 60) C dX10_clause_59 rfl rfl ?_
    refine V.iadd (q := 61) C dX10_clause_60 rfl ?_
    refine V.topi (x1 := nI ((5 * 1) + 0)) (nI_add _ _) ?_
    refine V.cld (q := 62) (i := ((5 * 1) + 0)) C dX10_clause_61 rfl okM_19 rfl rfl (by omega) (by decide) ?_
    try dsimp only
    refine V.if_eq (q := 65) (tgt := 85) C dX10_clause_62 rfl rfl (fun hb62 => ?_) (fun hb62 => ?_)
    · exact absurd hb62 (by decide)
    · refine V.aload_n (q := 66) C dX10_clause_65 rfl rfl ?_
      refine V.aload_n (q := 67) C dX10_clause_66 rfl rfl ?_
      refine V.get (q := 70) C fl_X10_43 dX10_clause_67 rfl okM rfl rfl ?_
      refine V.iconst (q := 71) (v := nI 5) C dX10_clause_70 rfl (by decide) ?_
      refine V.iload_n (q := 72) C dX10_clause_71 rfl rfl ?_
      refine V.imul (q := 73) C dX10_clause_72 rfl ?_
      refine V.topi (x1 := nI (5 * 1)) (pk_mul _ _) ?_
      refine V.iload_n (q := 74) C dX10_clause_73 rfl rfl ?_
      refine V.iadd (q := 75) C dX10_clause_74 rfl ?_
      refine V.topi (x1 := nI ((5 * 1) + 0)) (nI_add _ _) ?_
      refine V.cld (q := 76) (i := ((5 * 1) + 0)) C dX10_clause_75 rfl okM_19 rfl rfl (by omega) (by decide) ?_
      try dsimp only
      refine V.topi (x1 := nI 119) (by decide) ?_
      refine V.callVv (q := 79) C me_X10_takes (m_takes hsz ha) ml_X10_140 dX10_clause_76 rfl okM ⟨_, rfl⟩ rfl rfl (Nat.le_of_ble_eq_true rfl) (by omega) (Nat.zero_le _) (Nat.zero_le _) ?_
      obtain ⟨w1, a1, e1⟩ : ∃ (w9 : Bool) (a9 : Nat), tkP T sz (nI 119) true a = (w9, a9) := ⟨_, _, rfl⟩
      have ha1 : a1 ≤ sz := by have q := (tk_le (T := T) (sz := sz) (c := nI 119) (w := true) (a := a) ha).2; rw [e1] at q; exact q
      rw [e1]
      dsimp only
      refine V.iinc (q := 82) (v := nI (0 + 1)) C dX10_clause_79 rfl rfl (nI_1 _) (by decide) rfl rfl ?_
      refine V.goto (tgt := 47) C dX10_clause_82 rfl ?_
      refine V.iload_n (q := 48) C dX10_clause_47 rfl rfl ?_
      refine V.iconst (q := 49) (v := nI 5) C dX10_clause_48 rfl (by decide) ?_
      refine V.icmp_ge (q := 52) (tgt := 85) C dX10_clause_49 rfl rfl (fun hb49 => ?_) (fun hb49 => ?_)
      · exact absurd hb49 (by decide)
      · refine V.aload_n (q := 53) C dX10_clause_52 rfl rfl ?_
        refine V.get (q := 56) C fl_X10_43 dX10_clause_53 rfl okM rfl rfl ?_
        refine V.iconst (q := 57) (v := nI 5) C dX10_clause_56 rfl (by decide) ?_
        refine V.iload_n (q := 58) C dX10_clause_57 rfl rfl ?_
        refine V.imul (q := 59) C dX10_clause_58 rfl ?_
        refine V.topi (x1 := nI (5 * 1)) (pk_mul _ _) ?_
        refine V.iload_n (q := 60) C dX10_clause_59 rfl rfl ?_
        refine V.iadd (q := 61) C dX10_clause_60 rfl ?_
        refine V.topi (x1 := nI ((5 * 1) + (0 + 1))) (nI_add _ _) ?_
        refine V.cld (q := 62) (i := ((5 * 1) + (0 + 1))) C dX10_clause_61 rfl okM_19 rfl rfl (by omega) (by decide) ?_
        try dsimp only
        refine V.if_eq (q := 65) (tgt := 85) C dX10_clause_62 rfl rfl (fun hb62 => ?_) (fun hb62 => ?_)
        · exact absurd hb62 (by decide)
        · refine V.aload_n (q := 66) C dX10_clause_65 rfl rfl ?_
          refine V.aload_n (q := 67) C dX10_clause_66 rfl rfl ?_
          refine V.get (q := 70) C fl_X10_43 dX10_clause_67 rfl okM rfl rfl ?_
          refine V.iconst (q := 71) (v := nI 5) C dX10_clause_70 rfl (by decide) ?_
          refine V.iload_n (q := 72) C dX10_clause_71 rfl rfl ?_
          refine V.imul (q := 73) C dX10_clause_72 rfl ?_
          refine V.topi (x1 := nI (5 * 1)) (pk_mul _ _) ?_
          refine V.iload_n (q := 74) C dX10_clause_73 rfl rfl ?_
          refine V.iadd (q := 75) C dX10_clause_74 rfl ?_
          refine V.topi (x1 := nI ((5 * 1) + (0 + 1))) (nI_add _ _) ?_
          refine V.cld (q := 76) (i := ((5 * 1) + (0 + 1))) C dX10_clause_75 rfl okM_19 rfl rfl (by omega) (by decide) ?_
          try dsimp only
          refine V.topi (x1 := nI 101) (by decide) ?_
          refine V.callVv (q := 79) C me_X10_takes (m_takes hsz ha1) ml_X10_140 dX10_clause_76 rfl okM ⟨_, rfl⟩ rfl rfl (Nat.le_of_ble_eq_true rfl) (by omega) (Nat.zero_le _) (Nat.zero_le _) ?_
          obtain ⟨w2, a2, e2⟩ : ∃ (w9 : Bool) (a9 : Nat), tkP T sz (nI 101) w1 a1 = (w9, a9) := ⟨_, _, rfl⟩
          have ha2 : a2 ≤ sz := by have q := (tk_le (T := T) (sz := sz) (c := nI 101) (w := w1) (a := a1) ha1).2; rw [e2] at q; exact q
          rw [e2]
          dsimp only
          refine V.iinc (q := 82) (v := nI ((0 + 1) + 1)) C dX10_clause_79 rfl rfl (nI_1 _) (by decide) rfl rfl ?_
          refine V.goto (tgt := 47) C dX10_clause_82 rfl ?_
          refine V.iload_n (q := 48) C dX10_clause_47 rfl rfl ?_
          refine V.iconst (q := 49) (v := nI 5) C dX10_clause_48 rfl (by decide) ?_
          refine V.icmp_ge (q := 52) (tgt := 85) C dX10_clause_49 rfl rfl (fun hb49 => ?_) (fun hb49 => ?_)
          · exact absurd hb49 (by decide)
          · refine V.aload_n (q := 53) C dX10_clause_52 rfl rfl ?_
            refine V.get (q := 56) C fl_X10_43 dX10_clause_53 rfl okM rfl rfl ?_
            refine V.iconst (q := 57) (v := nI 5) C dX10_clause_56 rfl (by decide) ?_
            refine V.iload_n (q := 58) C dX10_clause_57 rfl rfl ?_
            refine V.imul (q := 59) C dX10_clause_58 rfl ?_
            refine V.topi (x1 := nI (5 * 1)) (pk_mul _ _) ?_
            refine V.iload_n (q := 60) C dX10_clause_59 rfl rfl ?_
            refine V.iadd (q := 61) C dX10_clause_60 rfl ?_
            refine V.topi (x1 := nI ((5 * 1) + ((0 + 1) + 1))) (nI_add _ _) ?_
            refine V.cld (q := 62) (i := ((5 * 1) + ((0 + 1) + 1))) C dX10_clause_61 rfl okM_19 rfl rfl (by omega) (by decide) ?_
            try dsimp only
            refine V.if_eq (q := 65) (tgt := 85) C dX10_clause_62 rfl rfl (fun hb62 => ?_) (fun hb62 => ?_)
            · exact absurd hb62 (by decide)
            · refine V.aload_n (q := 66) C dX10_clause_65 rfl rfl ?_
              refine V.aload_n (q := 67) C dX10_clause_66 rfl rfl ?_
              refine V.get (q := 70) C fl_X10_43 dX10_clause_67 rfl okM rfl rfl ?_
              refine V.iconst (q := 71) (v := nI 5) C dX10_clause_70 rfl (by decide) ?_
              refine V.iload_n (q := 72) C dX10_clause_71 rfl rfl ?_
              refine V.imul (q := 73) C dX10_clause_72 rfl ?_
              refine V.topi (x1 := nI (5 * 1)) (pk_mul _ _) ?_
              refine V.iload_n (q := 74) C dX10_clause_73 rfl rfl ?_
              refine V.iadd (q := 75) C dX10_clause_74 rfl ?_
              refine V.topi (x1 := nI ((5 * 1) + ((0 + 1) + 1))) (nI_add _ _) ?_
              refine V.cld (q := 76) (i := ((5 * 1) + ((0 + 1) + 1))) C dX10_clause_75 rfl okM_19 rfl rfl (by omega) (by decide) ?_
              try dsimp only
              refine V.topi (x1 := nI 97) (by decide) ?_
              refine V.callVv (q := 79) C me_X10_takes (m_takes hsz ha2) ml_X10_140 dX10_clause_76 rfl okM ⟨_, rfl⟩ rfl rfl (Nat.le_of_ble_eq_true rfl) (by omega) (Nat.zero_le _) (Nat.zero_le _) ?_
              obtain ⟨w3, a3, e3⟩ : ∃ (w9 : Bool) (a9 : Nat), tkP T sz (nI 97) w2 a2 = (w9, a9) := ⟨_, _, rfl⟩
              have ha3 : a3 ≤ sz := by have q := (tk_le (T := T) (sz := sz) (c := nI 97) (w := w2) (a := a2) ha2).2; rw [e3] at q; exact q
              rw [e3]
              dsimp only
              refine V.iinc (q := 82) (v := nI (((0 + 1) + 1) + 1)) C dX10_clause_79 rfl rfl (nI_1 _) (by decide) rfl rfl ?_
              refine V.goto (tgt := 47) C dX10_clause_82 rfl ?_
              refine V.iload_n (q := 48) C dX10_clause_47 rfl rfl ?_
              refine V.iconst (q := 49) (v := nI 5) C dX10_clause_48 rfl (by decide) ?_
              refine V.icmp_ge (q := 52) (tgt := 85) C dX10_clause_49 rfl rfl (fun hb49 => ?_) (fun hb49 => ?_)
              · exact absurd hb49 (by decide)
              · refine V.aload_n (q := 53) C dX10_clause_52 rfl rfl ?_
                refine V.get (q := 56) C fl_X10_43 dX10_clause_53 rfl okM rfl rfl ?_
                refine V.iconst (q := 57) (v := nI 5) C dX10_clause_56 rfl (by decide) ?_
                refine V.iload_n (q := 58) C dX10_clause_57 rfl rfl ?_
                refine V.imul (q := 59) C dX10_clause_58 rfl ?_
                refine V.topi (x1 := nI (5 * 1)) (pk_mul _ _) ?_
                refine V.iload_n (q := 60) C dX10_clause_59 rfl rfl ?_
                refine V.iadd (q := 61) C dX10_clause_60 rfl ?_
                refine V.topi (x1 := nI ((5 * 1) + (((0 + 1) + 1) + 1))) (nI_add _ _) ?_
                refine V.cld (q := 62) (i := ((5 * 1) + (((0 + 1) + 1) + 1))) C dX10_clause_61 rfl okM_19 rfl rfl (by omega) (by decide) ?_
                try dsimp only
                refine V.if_eq (q := 65) (tgt := 85) C dX10_clause_62 rfl rfl (fun hb62 => ?_) (fun hb62 => ?_)
                · exact absurd hb62 (by decide)
                · refine V.aload_n (q := 66) C dX10_clause_65 rfl rfl ?_
                  refine V.aload_n (q := 67) C dX10_clause_66 rfl rfl ?_
                  refine V.get (q := 70) C fl_X10_43 dX10_clause_67 rfl okM rfl rfl ?_
                  refine V.iconst (q := 71) (v := nI 5) C dX10_clause_70 rfl (by decide) ?_
                  refine V.iload_n (q := 72) C dX10_clause_71 rfl rfl ?_
                  refine V.imul (q := 73) C dX10_clause_72 rfl ?_
                  refine V.topi (x1 := nI (5 * 1)) (pk_mul _ _) ?_
                  refine V.iload_n (q := 74) C dX10_clause_73 rfl rfl ?_
                  refine V.iadd (q := 75) C dX10_clause_74 rfl ?_
                  refine V.topi (x1 := nI ((5 * 1) + (((0 + 1) + 1) + 1))) (nI_add _ _) ?_
                  refine V.cld (q := 76) (i := ((5 * 1) + (((0 + 1) + 1) + 1))) C dX10_clause_75 rfl okM_19 rfl rfl (by omega) (by decide) ?_
                  try dsimp only
                  refine V.topi (x1 := nI 107) (by decide) ?_
                  refine V.callVv (q := 79) C me_X10_takes (m_takes hsz ha3) ml_X10_140 dX10_clause_76 rfl okM ⟨_, rfl⟩ rfl rfl (Nat.le_of_ble_eq_true rfl) (by omega) (Nat.zero_le _) (Nat.zero_le _) ?_
                  obtain ⟨w4, a4, e4⟩ : ∃ (w9 : Bool) (a9 : Nat), tkP T sz (nI 107) w3 a3 = (w9, a9) := ⟨_, _, rfl⟩
                  have ha4 : a4 ≤ sz := by have q := (tk_le (T := T) (sz := sz) (c := nI 107) (w := w3) (a := a3) ha3).2; rw [e4] at q; exact q
                  rw [e4]
                  dsimp only
                  refine V.iinc (q := 82) (v := nI ((((0 + 1) + 1) + 1) + 1)) C dX10_clause_79 rfl rfl (nI_1 _) (by decide) rfl rfl ?_
                  refine V.goto (tgt := 47) C dX10_clause_82 rfl ?_
                  refine V.iload_n (q := 48) C dX10_clause_47 rfl rfl ?_
                  refine V.iconst (q := 49) (v := nI 5) C dX10_clause_48 rfl (by decide) ?_
                  refine V.icmp_ge (q := 52) (tgt := 85) C dX10_clause_49 rfl rfl (fun hb49 => ?_) (fun hb49 => ?_)
                  · exact absurd hb49 (by decide)
                  · refine V.aload_n (q := 53) C dX10_clause_52 rfl rfl ?_
                    refine V.get (q := 56) C fl_X10_43 dX10_clause_53 rfl okM rfl rfl ?_
                    refine V.iconst (q := 57) (v := nI 5) C dX10_clause_56 rfl (by decide) ?_
                    refine V.iload_n (q := 58) C dX10_clause_57 rfl rfl ?_
                    refine V.imul (q := 59) C dX10_clause_58 rfl ?_
                    refine V.topi (x1 := nI (5 * 1)) (pk_mul _ _) ?_
                    refine V.iload_n (q := 60) C dX10_clause_59 rfl rfl ?_
                    refine V.iadd (q := 61) C dX10_clause_60 rfl ?_
                    refine V.topi (x1 := nI ((5 * 1) + ((((0 + 1) + 1) + 1) + 1))) (nI_add _ _) ?_
                    refine V.cld (q := 62) (i := ((5 * 1) + ((((0 + 1) + 1) + 1) + 1))) C dX10_clause_61 rfl okM_19 rfl rfl (by omega) (by decide) ?_
                    try dsimp only
                    refine V.if_eq (q := 65) (tgt := 85) C dX10_clause_62 rfl rfl (fun hb62 => ?_) (fun hb62 => ?_)
                    · refine V.aload_n (q := 86) C dX10_clause_85 rfl rfl ?_
                      refine V.bipush (q := 88) (v := nI 32) C dX10_clause_86 rfl (by decide) ?_
                      refine V.callVv (q := 91) C me_X10_takes (m_takes hsz ha4) ml_X10_140 dX10_clause_88 rfl okM ⟨_, rfl⟩ rfl rfl (Nat.le_of_ble_eq_true rfl) (by omega) (Nat.zero_le _) (Nat.zero_le _) ?_
                      obtain ⟨w5, a5, e5⟩ : ∃ (w9 : Bool) (a9 : Nat), tkP T sz (nI 32) w4 a4 = (w9, a9) := ⟨_, _, rfl⟩
                      have ha5 : a5 ≤ sz := by have q := (tk_le (T := T) (sz := sz) (c := nI 32) (w := w4) (a := a4) ha4).2; rw [e5] at q; exact q
                      rw [e5]
                      dsimp only
                      refine V.aload_n (q := 92) C dX10_clause_91 rfl rfl ?_
                      refine V.callVi (q := 95) C me_X10_number (m_number hsz ha5) ml_X10_144 dX10_clause_92 rfl okM ⟨_, rfl⟩ rfl rfl (Nat.le_of_ble_eq_true rfl) (by omega) (Nat.zero_le _) (Nat.zero_le _) ?_
                      obtain ⟨w6, a6, v6, e6⟩ : ∃ (w9 : Bool) (a9 : Nat) (v9 : Int32), nuP T sz w5 a5 = (w9, a9, v9) := ⟨_, _, _, rfl⟩
                      have ha6 : a6 ≤ sz := by have q := (nu_le (T := T) (sz := sz) (w := w5) (a := a5) ha5).2; rw [e6] at q; exact q
                      rw [e6]
                      dsimp only
                      refine V.istore_n (q := 96) C dX10_clause_95 rfl (by decide) rfl rfl ?_
                      refine V.iload_n (q := 97) C dX10_clause_96 rfl rfl ?_
                      refine V.iconst (q := 98) (v := nI 2) C dX10_clause_97 rfl (by decide) ?_
                      refine V.icmp_ne (q := 101) (tgt := 107) C dX10_clause_98 rfl rfl (fun hb98 => ?_) (fun hb98 => ?_)
                      · refine V.aload_n (q := 108) C dX10_clause_107 rfl rfl ?_
                        refine V.bipush (q := 110) (v := nI 32) C dX10_clause_108 rfl (by decide) ?_
                        refine V.callVv (q := 113) C me_X10_takes (m_takes hsz ha6) ml_X10_140 dX10_clause_110 rfl okM ⟨_, rfl⟩ rfl rfl (Nat.le_of_ble_eq_true rfl) (by omega) (Nat.zero_le _) (Nat.zero_le _) ?_
                        obtain ⟨w7, a7, e7⟩ : ∃ (w9 : Bool) (a9 : Nat), tkP T sz (nI 32) w6 a6 = (w9, a9) := ⟨_, _, rfl⟩
                        have ha7 : a7 ≤ sz := by have q := (tk_le (T := T) (sz := sz) (c := nI 32) (w := w6) (a := a6) ha6).2; rw [e7] at q; exact q
                        rw [e7]
                        dsimp only
                        refine V.aload_n (q := 114) C dX10_clause_113 rfl rfl ?_
                        refine V.iconst (q := 115) (v := nI 0) C dX10_clause_114 rfl (by decide) ?_
                        refine V.put (q := 118) C fl_X10_148 rfl dX10_clause_115 rfl okM rfl (Nat.le_of_ble_eq_true rfl) rfl rfl uM_within ?_
                        try dsimp only
                        refine V.aload_n (q := 119) C dX10_clause_118 rfl rfl ?_
                        refine V.callVi (q := 122) C me_X10_any (m_any4 _ _ _ _ _ _ _ _ _ _ _ _ _ _ _ hsz ha7) ml_X10_154 dX10_clause_119 rfl okM ⟨_, rfl⟩ rfl rfl (Nat.le_of_ble_eq_true rfl) (by omega) (Nat.zero_le _) (Nat.zero_le _) ?_
                        obtain ⟨w8, a8, L8, b8, e8⟩ : ∃ (w9 : Bool) (a9 : Nat) (L9 : List (Int32 × Int32)) (b9 : Bool), anP (faP T sz Nm 4) T sz w7 a7 = (w9, a9, L9, b9) := ⟨_, _, _, _, rfl⟩
                        rw [e8]
                        dsimp only
                        refine V.istore_n (q := 123) C dX10_clause_122 rfl (by decide) rfl rfl ?_
                        refine V.aload_n (q := 124) C dX10_clause_123 rfl rfl ?_
                        refine V.dup (q := 125) C dX10_clause_124 rfl rfl ?_
                        refine V.get (q := 128) C fl_X10_166 dX10_clause_125 rfl okM rfl rfl ?_
                        try dsimp only
                        refine V.iload_n (q := 129) C dX10_clause_128 rfl rfl ?_
                        refine V.if_neB (q := 132) (tgt := 136) C dX10_clause_129 rfl rfl (fun hb129 => ?_) (fun hb129 => ?_)
                        · refine V.iload_n (q := 137) C dX10_clause_136 rfl rfl ?_
                          refine V.if_ne (q := 140) (tgt := 144) C dX10_clause_137 rfl rfl (fun hb137 => ?_) (fun hb137 => ?_)
                          · refine V.iload_n (q := 145) C dX10_clause_144 rfl rfl ?_
                            refine V.ineg (q := 146) C dX10_clause_145 rfl ?_
                            refine V.iadd (q := 147) C dX10_clause_146 rfl ?_
                            refine V.put (q := 150) C fl_X10_166 rfl dX10_clause_147 rfl okM rfl (Nat.le_of_ble_eq_true rfl) rfl rfl uM_sum ?_
                            try dsimp only
                            exact V.vreturn C dX10_clause_150 ⟨rfl, by simp only [csP, wWeak, wdP, e1, e2, e3, e4, e5, e6, e7, e8, hb129, Bool.false_eq_true, ↓reduceIte], rfl⟩
                          · exact absurd hb137 (by decide)
                        · refine V.iconst (q := 133) (v := nI 0) C dX10_clause_132 rfl (by decide) ?_
                          refine V.goto (tgt := 146) C dX10_clause_133 rfl ?_
                          refine V.iadd (q := 147) C dX10_clause_146 rfl ?_
                          refine V.put (q := 150) C fl_X10_166 rfl dX10_clause_147 rfl okM rfl (Nat.le_of_ble_eq_true rfl) rfl rfl uM_sum ?_
                          try dsimp only
                          exact V.vreturn C dX10_clause_150 ⟨rfl, by simp only [csP, wWeak, wdP, e1, e2, e3, e4, e5, e6, e7, e8, hb129, Bool.false_eq_true, ↓reduceIte], rfl⟩
                      · exact absurd hb98 (by decide)
                    · exact absurd (by decide) hb62
theorem m_clause_rub {l : Launch} {g : GG} {X : PHp} {now mind : I1} {th : I1 × Int32} {tx : TXt} {T : I1} {sz a : Nat} {d : Nat} {S Rb : Int32} {Nm cv hu : I1} {tr : I1 × Int32} {tp : TPt} {Γ : Cxt} (hsz : sz ≤ 100) (ha : a ≤ sz) (u v : Option Value) (C : Cx Γ g cX10_clause yX10_clause 4 none 20 0 0) : V l Γ g 4 (QM Γ g (pV (jn X (hM g now mind th tx (T, nI sz, nI (crP T sz a S d).2.1, b2i ((crP T sz a S d).1 = true), nI (crP T sz a S d).2.2.2.2.2, (crP T sz a S d).2.2.2.1, (crP T sz a S d).2.2.2.2.1, Nm, cv, hu) tr tp))) 0 0) 0 0 NN (jn X (hM g now mind th tx (T, nI sz, nI a, b2i (true = true), nI d, S, Rb, Nm, cv, hu) tr tp)) 45 [some (rf g (22, 0, 0)), some (.int (nI 2)), u, v] [] := by
  refine V.iconst (q := 46) (v := nI 0) C dX10_clause_45 rfl (by decide) ?_
  refine V.istore_n (q := 47) C dX10_clause_46 rfl (by decide) rfl rfl ?_
  refine V.iload_n (q := 48) C dX10_clause_47 rfl rfl ?_
  refine V.iconst (q := 49) (v := nI 5) C dX10_clause_48 rfl (by decide) ?_
  refine V.icmp_ge (q := 52) (tgt := 85) C dX10_clause_49 rfl rfl (fun hb49 => ?_) (fun hb49 => ?_)
  · exact absurd hb49 (by decide)
  · refine V.aload_n (q := 53) C dX10_clause_52 rfl rfl ?_
    refine V.get (q := 56) C fl_X10_43 dX10_clause_53 rfl okM rfl rfl ?_
    refine V.iconst (q := 57) (v := nI 5) C dX10_clause_56 rfl (by decide) ?_
    refine V.iload_n (q := 58) C dX10_clause_57 rfl rfl ?_
    refine V.imul (q := 59) C dX10_clause_58 rfl ?_
    refine V.topi (x1 := nI (5 * 2)) (pk_mul _ _) ?_
    refine V.iload_n (q := 60) C dX10_clause_59 rfl rfl ?_
    refine V.iadd (q := 61) C dX10_clause_60 rfl ?_
    refine V.topi (x1 := nI ((5 * 2) + 0)) (nI_add _ _) ?_
    refine V.cld (q := 62) (i := ((5 * 2) + 0)) C dX10_clause_61 rfl okM_19 rfl rfl (by omega) (by decide) ?_
    try dsimp only
    refine V.if_eq (q := 65) (tgt := 85) C dX10_clause_62 rfl rfl (fun hb62 => ?_) (fun hb62 => ?_)
    · exact absurd hb62 (by decide)
    · refine V.aload_n (q := 66) C dX10_clause_65 rfl rfl ?_
      refine V.aload_n (q := 67) C dX10_clause_66 rfl rfl ?_
      refine V.get (q := 70) C fl_X10_43 dX10_clause_67 rfl okM rfl rfl ?_
      refine V.iconst (q := 71) (v := nI 5) C dX10_clause_70 rfl (by decide) ?_
      refine V.iload_n (q := 72) C dX10_clause_71 rfl rfl ?_
      refine V.imul (q := 73) C dX10_clause_72 rfl ?_
      refine V.topi (x1 := nI (5 * 2)) (pk_mul _ _) ?_
      refine V.iload_n (q := 74) C dX10_clause_73 rfl rfl ?_
      refine V.iadd (q := 75) C dX10_clause_74 rfl ?_
      refine V.topi (x1 := nI ((5 * 2) + 0)) (nI_add _ _) ?_
      refine V.cld (q := 76) (i := ((5 * 2) + 0)) C dX10_clause_75 rfl okM_19 rfl rfl (by omega) (by decide) ?_
      try dsimp only
      refine V.topi (x1 := nI 114) (by decide) ?_
      refine V.callVv (q := 79) C me_X10_takes (m_takes hsz ha) ml_X10_140 dX10_clause_76 rfl okM ⟨_, rfl⟩ rfl rfl (Nat.le_of_ble_eq_true rfl) (by omega) (Nat.zero_le _) (Nat.zero_le _) ?_
      obtain ⟨w1, a1, e1⟩ : ∃ (w9 : Bool) (a9 : Nat), tkP T sz (nI 114) true a = (w9, a9) := ⟨_, _, rfl⟩
      have ha1 : a1 ≤ sz := by have q := (tk_le (T := T) (sz := sz) (c := nI 114) (w := true) (a := a) ha).2; rw [e1] at q; exact q
      rw [e1]
      dsimp only
      refine V.iinc (q := 82) (v := nI (0 + 1)) C dX10_clause_79 rfl rfl (nI_1 _) (by decide) rfl rfl ?_
      refine V.goto (tgt := 47) C dX10_clause_82 rfl ?_
      refine V.iload_n (q := 48) C dX10_clause_47 rfl rfl ?_
      refine V.iconst (q := 49) (v := nI 5) C dX10_clause_48 rfl (by decide) ?_
      refine V.icmp_ge (q := 52) (tgt := 85) C dX10_clause_49 rfl rfl (fun hb49 => ?_) (fun hb49 => ?_)
      · exact absurd hb49 (by decide)
      · refine V.aload_n (q := 53) C dX10_clause_52 rfl rfl ?_
        refine V.get (q := 56) C fl_X10_43 dX10_clause_53 rfl okM rfl rfl ?_
        refine V.iconst (q := 57) (v := nI 5) C dX10_clause_56 rfl (by decide) ?_
        refine V.iload_n (q := 58) C dX10_clause_57 rfl rfl ?_
        refine V.imul (q := 59) C dX10_clause_58 rfl ?_
        refine V.topi (x1 := nI (5 * 2)) (pk_mul _ _) ?_
        refine V.iload_n (q := 60) C dX10_clause_59 rfl rfl ?_
        refine V.iadd (q := 61) C dX10_clause_60 rfl ?_
        refine V.topi (x1 := nI ((5 * 2) + (0 + 1))) (nI_add _ _) ?_
        refine V.cld (q := 62) (i := ((5 * 2) + (0 + 1))) C dX10_clause_61 rfl okM_19 rfl rfl (by omega) (by decide) ?_
        try dsimp only
        refine V.if_eq (q := 65) (tgt := 85) C dX10_clause_62 rfl rfl (fun hb62 => ?_) (fun hb62 => ?_)
        · exact absurd hb62 (by decide)
        · refine V.aload_n (q := 66) C dX10_clause_65 rfl rfl ?_
          refine V.aload_n (q := 67) C dX10_clause_66 rfl rfl ?_
          refine V.get (q := 70) C fl_X10_43 dX10_clause_67 rfl okM rfl rfl ?_
          refine V.iconst (q := 71) (v := nI 5) C dX10_clause_70 rfl (by decide) ?_
          refine V.iload_n (q := 72) C dX10_clause_71 rfl rfl ?_
          refine V.imul (q := 73) C dX10_clause_72 rfl ?_
          refine V.topi (x1 := nI (5 * 2)) (pk_mul _ _) ?_
          refine V.iload_n (q := 74) C dX10_clause_73 rfl rfl ?_
          refine V.iadd (q := 75) C dX10_clause_74 rfl ?_
          refine V.topi (x1 := nI ((5 * 2) + (0 + 1))) (nI_add _ _) ?_
          refine V.cld (q := 76) (i := ((5 * 2) + (0 + 1))) C dX10_clause_75 rfl okM_19 rfl rfl (by omega) (by decide) ?_
          try dsimp only
          refine V.topi (x1 := nI 117) (by decide) ?_
          refine V.callVv (q := 79) C me_X10_takes (m_takes hsz ha1) ml_X10_140 dX10_clause_76 rfl okM ⟨_, rfl⟩ rfl rfl (Nat.le_of_ble_eq_true rfl) (by omega) (Nat.zero_le _) (Nat.zero_le _) ?_
          obtain ⟨w2, a2, e2⟩ : ∃ (w9 : Bool) (a9 : Nat), tkP T sz (nI 117) w1 a1 = (w9, a9) := ⟨_, _, rfl⟩
          have ha2 : a2 ≤ sz := by have q := (tk_le (T := T) (sz := sz) (c := nI 117) (w := w1) (a := a1) ha1).2; rw [e2] at q; exact q
          rw [e2]
          dsimp only
          refine V.iinc (q := 82) (v := nI ((0 + 1) + 1)) C dX10_clause_79 rfl rfl (nI_1 _) (by decide) rfl rfl ?_
          refine V.goto (tgt := 47) C dX10_clause_82 rfl ?_
          refine V.iload_n (q := 48) C dX10_clause_47 rfl rfl ?_
          refine V.iconst (q := 49) (v := nI 5) C dX10_clause_48 rfl (by decide) ?_
          refine V.icmp_ge (q := 52) (tgt := 85) C dX10_clause_49 rfl rfl (fun hb49 => ?_) (fun hb49 => ?_)
          · exact absurd hb49 (by decide)
          · refine V.aload_n (q := 53) C dX10_clause_52 rfl rfl ?_
            refine V.get (q := 56) C fl_X10_43 dX10_clause_53 rfl okM rfl rfl ?_
            refine V.iconst (q := 57) (v := nI 5) C dX10_clause_56 rfl (by decide) ?_
            refine V.iload_n (q := 58) C dX10_clause_57 rfl rfl ?_
            refine V.imul (q := 59) C dX10_clause_58 rfl ?_
            refine V.topi (x1 := nI (5 * 2)) (pk_mul _ _) ?_
            refine V.iload_n (q := 60) C dX10_clause_59 rfl rfl ?_
            refine V.iadd (q := 61) C dX10_clause_60 rfl ?_
            refine V.topi (x1 := nI ((5 * 2) + ((0 + 1) + 1))) (nI_add _ _) ?_
            refine V.cld (q := 62) (i := ((5 * 2) + ((0 + 1) + 1))) C dX10_clause_61 rfl okM_19 rfl rfl (by omega) (by decide) ?_
            try dsimp only
            refine V.if_eq (q := 65) (tgt := 85) C dX10_clause_62 rfl rfl (fun hb62 => ?_) (fun hb62 => ?_)
            · exact absurd hb62 (by decide)
            · refine V.aload_n (q := 66) C dX10_clause_65 rfl rfl ?_
              refine V.aload_n (q := 67) C dX10_clause_66 rfl rfl ?_
              refine V.get (q := 70) C fl_X10_43 dX10_clause_67 rfl okM rfl rfl ?_
              refine V.iconst (q := 71) (v := nI 5) C dX10_clause_70 rfl (by decide) ?_
              refine V.iload_n (q := 72) C dX10_clause_71 rfl rfl ?_
              refine V.imul (q := 73) C dX10_clause_72 rfl ?_
              refine V.topi (x1 := nI (5 * 2)) (pk_mul _ _) ?_
              refine V.iload_n (q := 74) C dX10_clause_73 rfl rfl ?_
              refine V.iadd (q := 75) C dX10_clause_74 rfl ?_
              refine V.topi (x1 := nI ((5 * 2) + ((0 + 1) + 1))) (nI_add _ _) ?_
              refine V.cld (q := 76) (i := ((5 * 2) + ((0 + 1) + 1))) C dX10_clause_75 rfl okM_19 rfl rfl (by omega) (by decide) ?_
              try dsimp only
              refine V.topi (x1 := nI 98) (by decide) ?_
              refine V.callVv (q := 79) C me_X10_takes (m_takes hsz ha2) ml_X10_140 dX10_clause_76 rfl okM ⟨_, rfl⟩ rfl rfl (Nat.le_of_ble_eq_true rfl) (by omega) (Nat.zero_le _) (Nat.zero_le _) ?_
              obtain ⟨w3, a3, e3⟩ : ∃ (w9 : Bool) (a9 : Nat), tkP T sz (nI 98) w2 a2 = (w9, a9) := ⟨_, _, rfl⟩
              have ha3 : a3 ≤ sz := by have q := (tk_le (T := T) (sz := sz) (c := nI 98) (w := w2) (a := a2) ha2).2; rw [e3] at q; exact q
              rw [e3]
              dsimp only
              refine V.iinc (q := 82) (v := nI (((0 + 1) + 1) + 1)) C dX10_clause_79 rfl rfl (nI_1 _) (by decide) rfl rfl ?_
              refine V.goto (tgt := 47) C dX10_clause_82 rfl ?_
              refine V.iload_n (q := 48) C dX10_clause_47 rfl rfl ?_
              refine V.iconst (q := 49) (v := nI 5) C dX10_clause_48 rfl (by decide) ?_
              refine V.icmp_ge (q := 52) (tgt := 85) C dX10_clause_49 rfl rfl (fun hb49 => ?_) (fun hb49 => ?_)
              · exact absurd hb49 (by decide)
              · refine V.aload_n (q := 53) C dX10_clause_52 rfl rfl ?_
                refine V.get (q := 56) C fl_X10_43 dX10_clause_53 rfl okM rfl rfl ?_
                refine V.iconst (q := 57) (v := nI 5) C dX10_clause_56 rfl (by decide) ?_
                refine V.iload_n (q := 58) C dX10_clause_57 rfl rfl ?_
                refine V.imul (q := 59) C dX10_clause_58 rfl ?_
                refine V.topi (x1 := nI (5 * 2)) (pk_mul _ _) ?_
                refine V.iload_n (q := 60) C dX10_clause_59 rfl rfl ?_
                refine V.iadd (q := 61) C dX10_clause_60 rfl ?_
                refine V.topi (x1 := nI ((5 * 2) + (((0 + 1) + 1) + 1))) (nI_add _ _) ?_
                refine V.cld (q := 62) (i := ((5 * 2) + (((0 + 1) + 1) + 1))) C dX10_clause_61 rfl okM_19 rfl rfl (by omega) (by decide) ?_
                try dsimp only
                refine V.if_eq (q := 65) (tgt := 85) C dX10_clause_62 rfl rfl (fun hb62 => ?_) (fun hb62 => ?_)
                · refine V.aload_n (q := 86) C dX10_clause_85 rfl rfl ?_
                  refine V.bipush (q := 88) (v := nI 32) C dX10_clause_86 rfl (by decide) ?_
                  refine V.callVv (q := 91) C me_X10_takes (m_takes hsz ha3) ml_X10_140 dX10_clause_88 rfl okM ⟨_, rfl⟩ rfl rfl (Nat.le_of_ble_eq_true rfl) (by omega) (Nat.zero_le _) (Nat.zero_le _) ?_
                  obtain ⟨w4, a4, e4⟩ : ∃ (w9 : Bool) (a9 : Nat), tkP T sz (nI 32) w3 a3 = (w9, a9) := ⟨_, _, rfl⟩
                  have ha4 : a4 ≤ sz := by have q := (tk_le (T := T) (sz := sz) (c := nI 32) (w := w3) (a := a3) ha3).2; rw [e4] at q; exact q
                  rw [e4]
                  dsimp only
                  refine V.aload_n (q := 92) C dX10_clause_91 rfl rfl ?_
                  refine V.callVi (q := 95) C me_X10_number (m_number hsz ha4) ml_X10_144 dX10_clause_92 rfl okM ⟨_, rfl⟩ rfl rfl (Nat.le_of_ble_eq_true rfl) (by omega) (Nat.zero_le _) (Nat.zero_le _) ?_
                  obtain ⟨w5, a5, v5, e5⟩ : ∃ (w9 : Bool) (a9 : Nat) (v9 : Int32), nuP T sz w4 a4 = (w9, a9, v9) := ⟨_, _, _, rfl⟩
                  have ha5 : a5 ≤ sz := by have q := (nu_le (T := T) (sz := sz) (w := w4) (a := a4) ha4).2; rw [e5] at q; exact q
                  rw [e5]
                  dsimp only
                  refine V.istore_n (q := 96) C dX10_clause_95 rfl (by decide) rfl rfl ?_
                  refine V.iload_n (q := 97) C dX10_clause_96 rfl rfl ?_
                  refine V.iconst (q := 98) (v := nI 2) C dX10_clause_97 rfl (by decide) ?_
                  refine V.icmp_ne (q := 101) (tgt := 107) C dX10_clause_98 rfl rfl (fun hb98 => ?_) (fun hb98 => ?_)
                  · exact absurd rfl hb98
                  · refine V.aload_n (q := 102) C dX10_clause_101 rfl rfl ?_
                    refine V.iload_n (q := 103) C dX10_clause_102 rfl rfl ?_
                    refine V.put (q := 106) C fl_X10_163 rfl dX10_clause_103 rfl okM rfl (Nat.le_of_ble_eq_true rfl) rfl rfl uM_rub ?_
                    try dsimp only
                    exact V.vreturn C dX10_clause_106 ⟨rfl, by simp only [crP, wRub, wdP, e1, e2, e3, e4, e5, Bool.false_eq_true, ↓reduceIte], rfl⟩
                · exact absurd (by decide) hb62
theorem m_clause_34 {l : Launch} {g : GG} {X : PHp} {now mind : I1} {th : I1 × Int32} {tx : TXt} {T : I1} {sz a : Nat} {w : Bool} {d : Nat} {S Rb : Int32} {Nm cv hu : I1} {tr : I1 × Int32} {tp : TPt} {Γ : Cxt} (hsz : sz ≤ 100) (ha : a ≤ sz) (C : Cx Γ g cX10_clause yX10_clause 4 none 20 0 0) : V l Γ g 4 (QM Γ g (pV (jn X (hM g now mind th tx (T, nI sz, nI (clP T sz Nm w a S Rb d).2.1, b2i ((clP T sz Nm w a S Rb d).1 = true), nI (clP T sz Nm w a S Rb d).2.2.2.2.2, (clP T sz Nm w a S Rb d).2.2.2.1, (clP T sz Nm w a S Rb d).2.2.2.2.1, Nm, cv, hu) tr tp))) 0 0) 0 0 NN (jn X (hM g now mind th tx (T, nI sz, nI a, b2i (w = true), nI d, S, Rb, Nm, cv, hu) tr tp)) 34 [some (rf g (22, 0, 0)), some (.int (lsP T sz w a mBeg 3)), some (.int (nI 3)), none] [] := by
  rcases ls_cases (T := T) (sz := sz) (a := a) (w := w) (L := mBeg) 3 with ⟨h1, -⟩ | ⟨k, hk, h2, h3⟩
  · have e : clP T sz Nm w a S Rb d = (false, a, [], S, Rb, d) := if_pos h1
    rw [e, h1]
    refine V.iload_n (q := 35) C dX10_clause_34 rfl rfl ?_
    refine V.iconst (q := 36) (v := -1) C dX10_clause_35 rfl (by decide) ?_
    refine V.icmp_ne (q := 39) (tgt := 45) C dX10_clause_36 rfl rfl (fun hb36 => ?_) (fun hb36 => ?_)
    · exact absurd rfl hb36
    · refine V.aload_n (q := 40) C dX10_clause_39 rfl rfl ?_
      refine V.iconst (q := 41) (v := nI 0) C dX10_clause_40 rfl (by decide) ?_
      refine V.put (q := 44) C fl_X10_124 rfl dX10_clause_41 rfl okM rfl (Nat.le_of_ble_eq_true rfl) rfl rfl uM_well ?_
      try dsimp only
      exact V.vreturn C dX10_clause_44 ⟨rfl, rfl, rfl⟩
  · obtain ⟨rfl, h4, -⟩ := isA_of h3
    rw [h2]
    obtain rfl | rfl | rfl := (show k = 0 ∨ k = 1 ∨ k = 2 by omega)
    · have e : clP T sz Nm true a S Rb d = csP T sz Nm wFirm true a S Rb := by unfold clP; rw [h2, if_neg (by decide), if_pos rfl]
      rw [e]
      refine V.iload_n (q := 35) C dX10_clause_34 rfl rfl ?_
      refine V.iconst (q := 36) (v := -1) C dX10_clause_35 rfl (by decide) ?_
      refine V.icmp_ne (q := 39) (tgt := 45) C dX10_clause_36 rfl rfl (fun hb36 => ?_) (fun hb36 => ?_)
      · exact m_clause_firm hsz ha _ _ C
      · exact absurd hb36 (by decide)
    · have e : clP T sz Nm true a S Rb d = csP T sz Nm wWeak false a S Rb := by unfold clP; rw [h2, if_neg (by decide), if_neg (by decide), if_pos rfl]
      rw [e]
      refine V.iload_n (q := 35) C dX10_clause_34 rfl rfl ?_
      refine V.iconst (q := 36) (v := -1) C dX10_clause_35 rfl (by decide) ?_
      refine V.icmp_ne (q := 39) (tgt := 45) C dX10_clause_36 rfl rfl (fun hb36 => ?_) (fun hb36 => ?_)
      · exact m_clause_weak hsz ha _ _ C
      · exact absurd hb36 (by decide)
    · have e : clP T sz Nm true a S Rb d = crP T sz a S d := by unfold clP; rw [h2, if_neg (by decide), if_neg (by decide), if_neg (by decide)]
      rw [e]
      refine V.iload_n (q := 35) C dX10_clause_34 rfl rfl ?_
      refine V.iconst (q := 36) (v := -1) C dX10_clause_35 rfl (by decide) ?_
      refine V.icmp_ne (q := 39) (tgt := 45) C dX10_clause_36 rfl rfl (fun hb36 => ?_) (fun hb36 => ?_)
      · exact m_clause_rub hsz ha _ _ C
      · exact absurd hb36 (by decide)
theorem m_clause {l : Launch} {g : GG} {X : PHp} {now mind : I1} {th : I1 × Int32} {tx : TXt} {T : I1} {sz a : Nat} {w : Bool} {d : Nat} {S Rb : Int32} {Nm cv hu : I1} {tr : I1 × Int32} {tp : TPt} (hsz : sz ≤ 100) (ha : a ≤ sz) : Ct l g yX10_clause cX10_clause 4 none 20 0 0 [rf g (22, 0, 0)] NN (jn X (hM g now mind th tx (T, nI sz, nI a, b2i (w = true), nI d, S, Rb, Nm, cv, hu) tr tp)) (pV (jn X (hM g now mind th tx (T, nI sz, nI (clP T sz Nm w a S Rb d).2.1, b2i ((clP T sz Nm w a S Rb d).1 = true), nI (clP T sz Nm w a S Rb d).2.2.2.2.2, (clP T sz Nm w a S Rb d).2.2.2.1, (clP T sz Nm w a S Rb d).2.2.2.2.1, Nm, cv, hu) tr tp))) := by
  refine Ct.of (lv := [some (rf g (22, 0, 0)), none, none, none]) (by decide +kernel) rfl (Nat.le_of_ble_eq_true rfl) ?_
  intro Γ C
  refine V.iconst (q := 1) (v := -1) C dX10_clause_0 rfl (by decide) ?_
  refine V.istore_n (q := 2) C dX10_clause_1 rfl (by decide) rfl rfl ?_
  refine V.iconst (q := 3) (v := nI 0) C dX10_clause_2 rfl (by decide) ?_
  refine V.istore_n (q := 4) C dX10_clause_3 rfl (by decide) rfl rfl ?_
  refine m_clause_l hsz ha C ?_ 3 0 rfl
  exact m_clause_34 hsz ha C
theorem m_readAll_l {l : Launch} {g : GG} {X : PHp} {now mind : I1} {th : I1 × Int32} {tx : TXt} {T : I1} {sz : Nat} {Nm cv hu : I1} {tr : I1 × Int32} {tp : TPt} {Γ : Cxt} (hsz : sz ≤ 100) (C : Cx Γ g cX10_readAll yX10_readAll 2 (some .boolean) 21 0 0) : ∀ (f m : Nat) (r : CR), m + f = 10 → r.2.1 ≤ sz → V l Γ g 2 (QM Γ g (pI (b2i (okP (ctP T sz Nm f r) sz = true)) (jn X (hM g now mind th tx (T, nI sz, nI (ctP T sz Nm f r).2.1, b2i ((ctP T sz Nm f r).1 = true), nI (ctP T sz Nm f r).2.2.2.2.2, (ctP T sz Nm f r).2.2.2.1, (ctP T sz Nm f r).2.2.2.2.1, Nm, cv, hu) tr tp))) 0 0) 0 0 NN (jn X (hM g now mind th tx (T, nI sz, nI r.2.1, b2i (r.1 = true), nI r.2.2.2.2.2, r.2.2.2.1, r.2.2.2.2.1, Nm, cv, hu) tr tp)) 38 [some (rf g (22, 0, 0)), some (.int (nI m))] [] := by
  intro f
  induction f with
  | zero =>
    intro m r hm hr
    refine V.iload_n (q := 39) C dX10_readAll_38 rfl rfl ?_
    refine V.bipush (q := 41) (v := nI 10) C dX10_readAll_39 rfl (by decide) ?_
    refine V.icmp_ge (q := 44) (tgt := 73) C dX10_readAll_41 rfl rfl (fun hb41 => ?_) (fun hb41 => ?_)
    · refine V.aload_n (q := 74) C dX10_readAll_73 rfl rfl ?_
      refine V.get (q := 77) C fl_X10_124 dX10_readAll_74 rfl okM rfl rfl ?_
      try dsimp only
      refine V.if_eqB (q := 80) (tgt := 95) C dX10_readAll_77 rfl rfl (fun hb77 => ?_) (fun hb77 => ?_)
      · refine V.iconst (q := 96) (v := nI 0) C dX10_readAll_95 rfl (by decide) ?_
        exact V.zreturn C dX10_readAll_96 rfl ⟨congrArg (fun x => some (Value.int x)) (b2i_f (ok_f (Or.inl hb77))).symm, rfl, rfl⟩
      · refine V.aload_n (q := 81) C dX10_readAll_80 rfl rfl ?_
        refine V.get (q := 84) C fl_X10_127 dX10_readAll_81 rfl okM rfl rfl ?_
        try dsimp only
        refine V.aload_n (q := 85) C dX10_readAll_84 rfl rfl ?_
        refine V.get (q := 88) C fl_X10_130 dX10_readAll_85 rfl okM rfl rfl ?_
        try dsimp only
        refine V.icmp_ne (q := 91) (tgt := 95) C dX10_readAll_88 rfl rfl (fun hb88 => ?_) (fun hb88 => ?_)
        · refine V.iconst (q := 96) (v := nI 0) C dX10_readAll_95 rfl (by decide) ?_
          exact V.zreturn C dX10_readAll_96 rfl ⟨congrArg (fun x => some (Value.int x)) (b2i_f (ok_f (Or.inr fun q => hb88 (congrArg nI q)))).symm, rfl, rfl⟩
        · refine V.iconst (q := 92) (v := nI 1) C dX10_readAll_91 rfl (by decide) ?_
          refine V.goto (tgt := 96) C dX10_readAll_92 rfl ?_
          exact V.zreturn C dX10_readAll_96 rfl ⟨congrArg (fun x => some (Value.int x)) (b2i_t (ok_t hb77 ((nI_eq (by omega) (by omega)).mp hb88))).symm, rfl, rfl⟩
    · exact absurd ((nI_leI (by omega) (by omega)).mpr (by omega)) hb41
  | succ f ih =>
    intro m r hm hr
    refine V.iload_n (q := 39) C dX10_readAll_38 rfl rfl ?_
    refine V.bipush (q := 41) (v := nI 10) C dX10_readAll_39 rfl (by decide) ?_
    refine V.icmp_ge (q := 44) (tgt := 73) C dX10_readAll_41 rfl rfl (fun hb41 => ?_) (fun hb41 => ?_)
    · exact absurd ((nI_leI (by omega) (by omega)).mp hb41) (by omega)
    · refine V.aload_n (q := 45) C dX10_readAll_44 rfl rfl ?_
      refine V.bipush (q := 47) (v := nI 59) C dX10_readAll_45 rfl (by decide) ?_
      refine V.callVi (q := 50) C me_X10_isAt (m_isAt hsz hr) ml_X10_133 dX10_readAll_47 rfl okM ⟨_, rfl⟩ rfl rfl (Nat.le_of_ble_eq_true rfl) (by omega) (Nat.zero_le _) (Nat.zero_le _) ?_
      refine V.if_eqB (q := 53) (tgt := 73) C dX10_readAll_50 rfl rfl (fun hb50 => ?_) (fun hb50 => ?_)
      · rw [show ctP T sz Nm (f + 1) r = r from if_neg hb50]
        refine V.aload_n (q := 74) C dX10_readAll_73 rfl rfl ?_
        refine V.get (q := 77) C fl_X10_124 dX10_readAll_74 rfl okM rfl rfl ?_
        try dsimp only
        refine V.if_eqB (q := 80) (tgt := 95) C dX10_readAll_77 rfl rfl (fun hb77 => ?_) (fun hb77 => ?_)
        · refine V.iconst (q := 96) (v := nI 0) C dX10_readAll_95 rfl (by decide) ?_
          exact V.zreturn C dX10_readAll_96 rfl ⟨congrArg (fun x => some (Value.int x)) (b2i_f (ok_f (Or.inl hb77))).symm, rfl, rfl⟩
        · refine V.aload_n (q := 81) C dX10_readAll_80 rfl rfl ?_
          refine V.get (q := 84) C fl_X10_127 dX10_readAll_81 rfl okM rfl rfl ?_
          try dsimp only
          refine V.aload_n (q := 85) C dX10_readAll_84 rfl rfl ?_
          refine V.get (q := 88) C fl_X10_130 dX10_readAll_85 rfl okM rfl rfl ?_
          try dsimp only
          refine V.icmp_ne (q := 91) (tgt := 95) C dX10_readAll_88 rfl rfl (fun hb88 => ?_) (fun hb88 => ?_)
          · refine V.iconst (q := 96) (v := nI 0) C dX10_readAll_95 rfl (by decide) ?_
            exact V.zreturn C dX10_readAll_96 rfl ⟨congrArg (fun x => some (Value.int x)) (b2i_f (ok_f (Or.inr fun q => hb88 (congrArg nI q)))).symm, rfl, rfl⟩
          · refine V.iconst (q := 92) (v := nI 1) C dX10_readAll_91 rfl (by decide) ?_
            refine V.goto (tgt := 96) C dX10_readAll_92 rfl ?_
            exact V.zreturn C dX10_readAll_96 rfl ⟨congrArg (fun x => some (Value.int x)) (b2i_t (ok_t hb77 ((nI_eq (by omega) (by omega)).mp hb88))).symm, rfl, rfl⟩
      · have h4 := (isA_of hb50).2.1
        have hw1 := (isA_of hb50).1
        rw [show ctP T sz Nm (f + 1) r = ctP T sz Nm f ((clP T sz Nm true (r.2.1 + 1) r.2.2.2.1 r.2.2.2.2.1 r.2.2.2.2.2).1, (clP T sz Nm true (r.2.1 + 1) r.2.2.2.1 r.2.2.2.2.1 r.2.2.2.2.2).2.1, r.2.2.1 ++ (clP T sz Nm true (r.2.1 + 1) r.2.2.2.1 r.2.2.2.2.1 r.2.2.2.2.2).2.2.1, (clP T sz Nm true (r.2.1 + 1) r.2.2.2.1 r.2.2.2.2.1 r.2.2.2.2.2).2.2.2) from if_pos hb50]
        rw [hw1]
        refine V.aload_n (q := 54) C dX10_readAll_53 rfl rfl ?_
        refine V.dup (q := 55) C dX10_readAll_54 rfl rfl ?_
        refine V.get (q := 58) C fl_X10_127 dX10_readAll_55 rfl okM rfl rfl ?_
        try dsimp only
        refine V.iconst (q := 59) (v := nI 1) C dX10_readAll_58 rfl (by decide) ?_
        refine V.iadd (q := 60) C dX10_readAll_59 rfl ?_
        refine V.topi (x1 := nI (r.2.1 + 1)) (nI_add _ _) ?_
        refine V.put (q := 63) C fl_X10_127 rfl dX10_readAll_60 rfl okM rfl (Nat.le_of_ble_eq_true rfl) rfl rfl uM_at ?_
        try dsimp only
        refine V.aload_n (q := 64) C dX10_readAll_63 rfl rfl ?_
        refine V.callVv (q := 67) C me_X10_clause (m_clause hsz (by omega)) ml_X10_169 dX10_readAll_64 rfl okM ⟨_, rfl⟩ rfl rfl (Nat.le_of_ble_eq_true rfl) (by omega) (Nat.zero_le _) (Nat.zero_le _) ?_
        refine V.iinc (q := 70) (v := nI (m + 1)) C dX10_readAll_67 rfl rfl (nI_1 _) (by decide) rfl rfl ?_
        refine V.goto (tgt := 38) C dX10_readAll_70 rfl ?_
        exact ih (m + 1) ((clP T sz Nm true (r.2.1 + 1) r.2.2.2.1 r.2.2.2.2.1 r.2.2.2.2.2).1, (clP T sz Nm true (r.2.1 + 1) r.2.2.2.1 r.2.2.2.2.1 r.2.2.2.2.2).2.1, r.2.2.1 ++ (clP T sz Nm true (r.2.1 + 1) r.2.2.2.1 r.2.2.2.2.1 r.2.2.2.2.2).2.2.1, (clP T sz Nm true (r.2.1 + 1) r.2.2.2.1 r.2.2.2.2.1 r.2.2.2.2.2).2.2.2) (by omega) (cl_in (by omega)).2
theorem m_readAll {l : Launch} {g : GG} {X : PHp} {now mind : I1} {th : I1 × Int32} {tx : TXt} {T : I1} {sz : Nat} {x1 x2 : Int32} {d : Nat} {S Rb : Int32} {Nm cv hu : I1} {tr : I1 × Int32} {tp : TPt} {i : Nat} (hi : 9 * i + 2 < 152) (hN : Nm 0 = nI i) (hsz : sz ≤ 100) : Ct l g yX10_readAll cX10_readAll 2 (some .boolean) 21 0 0 [rf g (22, 0, 0)] NN (jn X (hM g now mind th tx (T, nI sz, x1, x2, nI d, S, Rb, Nm, cv, hu) tr tp)) (pI (b2i (okP (raP T sz Nm (now (9 * i + 2) / nI 5) d) sz = true)) (jn X (hM g now mind th tx (T, nI sz, nI (raP T sz Nm (now (9 * i + 2) / nI 5) d).2.1, b2i ((raP T sz Nm (now (9 * i + 2) / nI 5) d).1 = true), nI (raP T sz Nm (now (9 * i + 2) / nI 5) d).2.2.2.2.2, (raP T sz Nm (now (9 * i + 2) / nI 5) d).2.2.2.1, (raP T sz Nm (now (9 * i + 2) / nI 5) d).2.2.2.2.1, Nm, cv, hu) tr tp))) := by
  refine Ct.of (lv := [some (rf g (22, 0, 0)), none]) (by decide +kernel) rfl (Nat.le_of_ble_eq_true rfl) ?_
  intro Γ C
  refine V.aload_n (q := 1) C dX10_readAll_0 rfl rfl ?_
  refine V.iconst (q := 2) (v := nI 0) C dX10_readAll_1 rfl (by decide) ?_
  refine V.put (q := 5) C fl_X10_127 rfl dX10_readAll_2 rfl okM rfl (Nat.le_of_ble_eq_true rfl) rfl rfl uM_at ?_
  try dsimp only
  refine V.aload_n (q := 6) C dX10_readAll_5 rfl rfl ?_
  refine V.iconst (q := 7) (v := nI 1) C dX10_readAll_6 rfl (by decide) ?_
  refine V.stk (st1 := [.int (b2i (true = true)), rf g (22, 0, 0)]) rfl ?_
  refine V.put (q := 10) C fl_X10_124 rfl dX10_readAll_7 rfl okM rfl (Nat.le_of_ble_eq_true rfl) rfl rfl uM_well ?_
  try dsimp only
  refine V.aload_n (q := 11) C dX10_readAll_10 rfl rfl ?_
  refine V.aload_n (q := 12) C dX10_readAll_11 rfl rfl ?_
  refine V.aload_n (q := 13) C dX10_readAll_12 rfl rfl ?_
  refine V.get (q := 16) C fl_X10_33 dX10_readAll_13 rfl okM rfl rfl ?_
  refine V.iconst (q := 17) (v := nI 0) C dX10_readAll_16 rfl (by decide) ?_
  refine V.ild (q := 18) (i := 0) C dX10_readAll_17 rfl okM_16 rfl rfl (by omega) (by decide) ?_
  try dsimp only
  refine V.topi (x1 := nI (i)) hN ?_
  refine V.iconst (q := 19) (v := nI 2) C dX10_readAll_18 rfl (by decide) ?_
  refine V.callVi (q := 22) C me_X10_one (m_one (by omega)) ml_X10_86 dX10_readAll_19 rfl okM ⟨_, rfl⟩ rfl rfl (Nat.le_of_ble_eq_true rfl) (by omega) (Nat.zero_le _) (Nat.zero_le _) ?_
  refine V.iconst (q := 23) (v := nI 5) C dX10_readAll_22 rfl (by decide) ?_
  refine V.idiv (q := 24) C dX10_readAll_23 rfl (by decide) ?_
  refine V.put (q := 27) C fl_X10_166 rfl dX10_readAll_24 rfl okM rfl (Nat.le_of_ble_eq_true rfl) rfl rfl uM_sum ?_
  try dsimp only
  refine V.aload_n (q := 28) C dX10_readAll_27 rfl rfl ?_
  refine V.iconst (q := 29) (v := nI 3) C dX10_readAll_28 rfl (by decide) ?_
  refine V.put (q := 32) C fl_X10_163 rfl dX10_readAll_29 rfl okM rfl (Nat.le_of_ble_eq_true rfl) rfl rfl uM_rub ?_
  try dsimp only
  refine V.iconst (q := 33) (v := nI 1) C dX10_readAll_32 rfl (by decide) ?_
  refine V.istore_n (q := 34) C dX10_readAll_33 rfl (by decide) rfl rfl ?_
  refine V.aload_n (q := 35) C dX10_readAll_34 rfl rfl ?_
  refine V.callVv (q := 38) C me_X10_clause (m_clause hsz (by omega)) ml_X10_169 dX10_readAll_35 rfl okM ⟨_, rfl⟩ rfl rfl (Nat.le_of_ble_eq_true rfl) (by omega) (Nat.zero_le _) (Nat.zero_le _) ?_
  exact m_readAll_l hsz C 9 1 (clP T sz Nm true 0 (now (9 * i + 2) / nI 5) (nI 3) d) (by omega) (cl_in (Nat.zero_le sz)).2
