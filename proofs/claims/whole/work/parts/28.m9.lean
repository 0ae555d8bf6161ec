/-- a row of the plan -/
def enS (rules sizes : I1) (m : Nat) : Nat → I1 → I1 := fun r B => if B (115 + 2 * r) = 0 then dyA rules sizes m B else if B (115 + 2 * r) = nI 1 then upd B (9 * ix (B (116 + 2 * r)) + 2) (nI 99) else if B (115 + 2 * r) = nI 2 then upd B (54 + 3 * ix (B (116 + 2 * r)) + 2) (-1) else upd B (9 * ix (B (116 + 2 * r)) + 4) (nI 0)
def enA (rules sizes : I1) (m j : Nat) (A : I1) : I1 := itr (enS rules sizes m) j A
/-- the plan's rows -/
def PlI (A : I1) (n m c : Nat) : Prop := A 114 = nI c ∧ c ≤ 10 ∧ ∀ r, r < c → A (115 + 2 * r) = 0 ∨ ((A (115 + 2 * r) = nI 1 ∨ A (115 + 2 * r) = nI 3) ∧ ∃ i, i < n ∧ A (116 + 2 * r) = nI i) ∨ (A (115 + 2 * r) = nI 2 ∧ ∃ s, s < m ∧ A (116 + 2 * r) = nI s)
theorem PlI_hi {A B : I1} {n m c : Nat} (h : ∀ k, 81 ≤ k → B k = A k) (hA : PlI A n m c) : PlI B n m c := by
  refine ⟨(h _ (by omega)).trans hA.1, hA.2.1, fun r hr => ?_⟩
  rw [h _ (by omega), h _ (by omega)]
  exact hA.2.2 r hr
theorem enS_ok {rules sizes B : I1} {n m c r : Nat} (hW : WI B n m) (hP : PlI B n m c) (hr : r < c) : WI (enS rules sizes m r B) n m ∧ ∀ k, 81 ≤ k → enS rules sizes m r B k = B k := by
  have h6 := hW.2.1
  have h8 := hW.2.2.2.1
  unfold enS
  rcases hP.2.2 r hr with h | ⟨h, i, hi, e⟩ | ⟨h, s, hs, e⟩
  · rw [if_pos h]
    exact ⟨WI_hi (fun k h1 h2 => dyA_hi hW h1 h2) hW, fun k hk => dyA_hi hW (by omega) (by omega)⟩
  · have n0 : ¬ B (115 + 2 * r) = 0 := by rcases h with h | h <;> rw [h] <;> decide
    have n2 : ¬ B (115 + 2 * r) = nI 2 := by rcases h with h | h <;> rw [h] <;> decide
    rw [if_neg n0, e, ix_nI (by omega)]
    by_cases h1 : B (115 + 2 * r) = nI 1
    · rw [if_pos h1]
      exact ⟨WI_hi (fun k h1 h2 => if_neg (by omega)) hW, fun k hk => if_neg (by omega)⟩
    · rw [if_neg h1, if_neg n2]
      exact ⟨WI_hi (fun k h1 h2 => if_neg (by omega)) hW, fun k hk => if_neg (by omega)⟩
  · rw [if_neg (by rw [h]; decide), if_neg (by rw [h]; decide), if_pos h, e, ix_nI (by omega)]
    exact ⟨WI_aim hW (by omega) (Or.inl rfl), fun k hk => if_neg (by omega)⟩
theorem enA_ok {rules sizes A : I1} {n m c : Nat} (hW : WI A n m) (hP : PlI A n m c) : ∀ j, j ≤ c → WI (enA rules sizes m j A) n m ∧ ∀ k, 81 ≤ k → enA rules sizes m j A k = A k := by
  intro j
  induction j with
  | zero => intro _; exact ⟨hW, fun k _ => rfl⟩
  | succ j ih =>
    intro hj
    obtain ⟨h1, h2⟩ := ih (by omega)
    obtain ⟨h3, h4⟩ := enS_ok (rules := rules) (sizes := sizes) h1 (PlI_hi h2 hP) (show j < c by omega)
    exact ⟨h3, fun k hk => (h4 k hk).trans (h2 k hk)⟩
def endsR (rules sizes A : I1) (n m c : Nat) (x : Int32) : Int32 := if inR x (nI 0) (nI 1) then (if x = 0 then alR (enA rules sizes m c A) 4 n else alR (enA rules sizes m c A) 2 n) else -1
theorem m_ends_l {l : Launch} {g : GG} {X : PHp} {now : I1} {th : I1 × Int32} {tx : TXt}  {cv hu : I1} {tr : I1 × Int32} {tp : TPt} {Γ : Cxt} {Q : State → Prop} {n m c : Nat} {x : Int32} (hW : WI now n m) (hR : RuI tx.2.2.2.1 now) (hP : PlI now n m c) (C : Cx Γ g cX10_ends yX10_ends 5 (some .int) 27 0 0) (kx : ∀ (q : SC) (u v : Option Value), V l Γ g 5 Q 0 0 NN (jn X (hM g (enA tx.2.2.1 tx.2.2.2.1 m c now) now th tx (zS q cv hu) tr tp)) 120 [some (rf g (22, 0, 0)), some (.int x), some (.int (nI c)), u, v] []) : ∀ (f j : Nat) (q : SC) (u v : Option Value), j + f = c → V l Γ g 5 Q 0 0 NN (jn X (hM g (enA tx.2.2.1 tx.2.2.2.1 m j now) now th tx (zS q cv hu) tr tp)) 24 [some (rf g (22, 0, 0)), some (.int x), some (.int (nI j)), u, v] [] := by
  have h6 := hW.2.1
  have h8 := hW.2.2.2.1
  have hc := hP.2.1
  intro f
  induction f with
  | zero =>
    intro j q u v hj
    obtain rfl : j = c := by omega
    obtain ⟨hB, hB2⟩ := enA_ok (rules := tx.2.2.1) (sizes := tx.2.2.2.1) hW hP j (by omega)
    have e114 : enA tx.2.2.1 tx.2.2.2.1 m j now 114 = nI j := (hB2 114 (by omega)).trans hP.1
    refine V.iload_n (q := 25) C dX10_ends_24 rfl rfl ?_
    refine V.aload_n (q := 26) C dX10_ends_25 rfl rfl ?_
    refine V.get (q := 29) C fl_X10_9 dX10_ends_26 rfl okM rfl rfl ?_
    refine V.bipush (q := 31) (v := nI 114) C dX10_ends_29 rfl (by decide) ?_
    refine V.ild (q := 32) (i := 114) C dX10_ends_31 rfl okM_0 rfl rfl (by omega) (by decide) ?_
    refine V.topi (x1 := nI (j)) e114 ?_
    refine V.icmp_ge (q := 35) (tgt := 120) C dX10_ends_32 rfl rfl (fun hb32 => ?_) (fun hb32 => ?_)
    · exact kx q u v
    · exact absurd ((nI_leI (by omega) (by omega)).mpr (by omega)) hb32
  | succ f ih =>
    intro j q u v hj
    obtain ⟨hB, hB2⟩ := enA_ok (rules := tx.2.2.1) (sizes := tx.2.2.2.1) hW hP j (by omega)
    have e114 : enA tx.2.2.1 tx.2.2.2.1 m j now 114 = nI c := (hB2 114 (by omega)).trans hP.1
    have e115 : enA tx.2.2.1 tx.2.2.2.1 m j now (115 + 2 * j) = now (115 + 2 * j) := hB2 _ (by omega)
    have e116 : enA tx.2.2.1 tx.2.2.2.1 m j now (116 + 2 * j) = now (116 + 2 * j) := hB2 _ (by omega)
    have hR2 : RuI tx.2.2.2.1 (enA tx.2.2.1 tx.2.2.2.1 m j now) := RuI_hi (hB2 81 (by omega)) hR
    have es : (enA tx.2.2.1 tx.2.2.2.1 m (j + 1) now) = enS tx.2.2.1 tx.2.2.2.1 m j (enA tx.2.2.1 tx.2.2.2.1 m j now) := rfl
    have n10 : ¬ nI 1 = (0 : Int32) := by decide
    have n20 : ¬ nI 2 = (0 : Int32) := by decide
    have n30 : ¬ nI 3 = (0 : Int32) := by decide
    have n21 : ¬ nI 2 = nI 1 := by decide
    have n31 : ¬ nI 3 = nI 1 := by decide
    have n32 : ¬ nI 3 = nI 2 := by decide
    rcases hP.2.2 j (by omega) with h | ⟨h | h, i, hi, e⟩ | ⟨h, i, hi, e⟩
    · refine V.iload_n (q := 25) C dX10_ends_24 rfl rfl ?_
      refine V.aload_n (q := 26) C dX10_ends_25 rfl rfl ?_
      refine V.get (q := 29) C fl_X10_9 dX10_ends_26 rfl okM rfl rfl ?_
      refine V.bipush (q := 31) (v := nI 114) C dX10_ends_29 rfl (by decide) ?_
      refine V.ild (q := 32) (i := 114) C dX10_ends_31 rfl okM_0 rfl rfl (by omega) (by decide) ?_
      refine V.topi (x1 := nI (c)) e114 ?_
      refine V.icmp_ge (q := 35) (tgt := 120) C dX10_ends_32 rfl rfl (fun hb32 => ?_) (fun hb32 => ?_)
      · exact absurd ((nI_leI (by omega) (by omega)).mp hb32) (by omega)
      · refine V.aload_n (q := 36) C dX10_ends_35 rfl rfl ?_
        refine V.get (q := 39) C fl_X10_9 dX10_ends_36 rfl okM rfl rfl ?_
        refine V.bipush (q := 41) (v := nI 115) C dX10_ends_39 rfl (by decide) ?_
        refine V.iconst (q := 42) (v := nI 2) C dX10_ends_41 rfl (by decide) ?_
        refine V.iload_n (q := 43) C dX10_ends_42 rfl rfl ?_
        refine V.imul (q := 44) C dX10_ends_43 rfl ?_
        refine V.topi (x1 := nI (2 * j)) (pk_mul _ _) ?_
        refine V.iadd (q := 45) C dX10_ends_44 rfl ?_
        refine V.topi (x1 := nI (115 + (2 * j))) (nI_add _ _) ?_
        refine V.ild (q := 46) (i := (115 + (2 * j))) C dX10_ends_45 rfl okM_0 rfl rfl (by omega) (by decide) ?_
        refine V.topi (x1 := 0) (e115.trans h) ?_
        refine V.istore_n (q := 47) C dX10_ends_46 rfl (by decide) rfl rfl ?_
        refine V.aload_n (q := 48) C dX10_ends_47 rfl rfl ?_
        refine V.get (q := 51) C fl_X10_9 dX10_ends_48 rfl okM rfl rfl ?_
        refine V.bipush (q := 53) (v := nI 116) C dX10_ends_51 rfl (by decide) ?_
        refine V.iconst (q := 54) (v := nI 2) C dX10_ends_53 rfl (by decide) ?_
        refine V.iload_n (q := 55) C dX10_ends_54 rfl rfl ?_
        refine V.imul (q := 56) C dX10_ends_55 rfl ?_
        refine V.topi (x1 := nI (2 * j)) (pk_mul _ _) ?_
        refine V.iadd (q := 57) C dX10_ends_56 rfl ?_
        refine V.topi (x1 := nI (116 + (2 * j))) (nI_add _ _) ?_
        refine V.ild (q := 58) (i := (116 + (2 * j))) C dX10_ends_57 rfl okM_0 rfl rfl (by omega) (by decide) ?_
        refine V.topi (x1 := now (116 + 2 * j)) e116 ?_
        refine V.istore (q := 60) C dX10_ends_58 rfl (by decide) rfl rfl ?_
        refine V.iload_n (q := 61) C dX10_ends_60 rfl rfl ?_
        refine V.if_ne (q := 64) (tgt := 71) C dX10_ends_61 rfl rfl (fun hb61 => ?_) (fun hb61 => ?_)
        · exact absurd rfl hb61
        · refine V.aload_n (q := 65) C dX10_ends_64 rfl rfl ?_
          refine V.callVxv (q := 68) C me_X10_day (m_day hB hR2) ml_X10_199 dX10_ends_65 rfl okM ⟨_, rfl⟩ rfl rfl (Nat.le_of_ble_eq_true rfl) (by omega) (Nat.zero_le _) (Nat.zero_le _) (fun q1 _ => ?_)
          refine V.goto (tgt := 114) C dX10_ends_68 rfl ?_
          refine V.iinc (q := 117) (v := nI (j + 1)) C dX10_ends_114 rfl rfl (nI_1 _) (by decide) rfl rfl ?_
          refine V.goto (tgt := 24) C dX10_ends_117 rfl ?_
          have e9 : (enA tx.2.2.1 tx.2.2.2.1 m (j + 1) now) = dyA tx.2.2.1 tx.2.2.2.1 m (enA tx.2.2.1 tx.2.2.2.1 m j now) := by
            rw [es, enS]
            rw [if_pos (e115.trans h)]
          refine V.ph (PH1 := (jn X (hM g (enA tx.2.2.1 tx.2.2.2.1 m (j + 1) now) now th tx (zS q1 cv hu) tr tp))) (by rw [e9]) ?_
          exact ih (j + 1) q1 _ _ (by omega)
    · refine V.iload_n (q := 25) C dX10_ends_24 rfl rfl ?_
      refine V.aload_n (q := 26) C dX10_ends_25 rfl rfl ?_
      refine V.get (q := 29) C fl_X10_9 dX10_ends_26 rfl okM rfl rfl ?_
      refine V.bipush (q := 31) (v := nI 114) C dX10_ends_29 rfl (by decide) ?_
      refine V.ild (q := 32) (i := 114) C dX10_ends_31 rfl okM_0 rfl rfl (by omega) (by decide) ?_
      refine V.topi (x1 := nI (c)) e114 ?_
      refine V.icmp_ge (q := 35) (tgt := 120) C dX10_ends_32 rfl rfl (fun hb32 => ?_) (fun hb32 => ?_)
      · exact absurd ((nI_leI (by omega) (by omega)).mp hb32) (by omega)
      · refine V.aload_n (q := 36) C dX10_ends_35 rfl rfl ?_
        refine V.get (q := 39) C fl_X10_9 dX10_ends_36 rfl okM rfl rfl ?_
        refine V.bipush (q := 41) (v := nI 115) C dX10_ends_39 rfl (by decide) ?_
        refine V.iconst (q := 42) (v := nI 2) C dX10_ends_41 rfl (by decide) ?_
        refine V.iload_n (q := 43) C dX10_ends_42 rfl rfl ?_
        refine V.imul (q := 44) C dX10_ends_43 rfl ?_
        refine V.topi (x1 := nI (2 * j)) (pk_mul _ _) ?_
        refine V.iadd (q := 45) C dX10_ends_44 rfl ?_
        refine V.topi (x1 := nI (115 + (2 * j))) (nI_add _ _) ?_
        refine V.ild (q := 46) (i := (115 + (2 * j))) C dX10_ends_45 rfl okM_0 rfl rfl (by omega) (by decide) ?_
        refine V.topi (x1 := nI 1) (e115.trans h) ?_
        refine V.istore_n (q := 47) C dX10_ends_46 rfl (by decide) rfl rfl ?_
        refine V.aload_n (q := 48) C dX10_ends_47 rfl rfl ?_
        refine V.get (q := 51) C fl_X10_9 dX10_ends_48 rfl okM rfl rfl ?_
        refine V.bipush (q := 53) (v := nI 116) C dX10_ends_51 rfl (by decide) ?_
        refine V.iconst (q := 54) (v := nI 2) C dX10_ends_53 rfl (by decide) ?_
        refine V.iload_n (q := 55) C dX10_ends_54 rfl rfl ?_
        refine V.imul (q := 56) C dX10_ends_55 rfl ?_
        refine V.topi (x1 := nI (2 * j)) (pk_mul _ _) ?_
        refine V.iadd (q := 57) C dX10_ends_56 rfl ?_
        refine V.topi (x1 := nI (116 + (2 * j))) (nI_add _ _) ?_
        refine V.ild (q := 58) (i := (116 + (2 * j))) C dX10_ends_57 rfl okM_0 rfl rfl (by omega) (by decide) ?_
        refine V.topi (x1 := nI (i)) (e116.trans e) ?_
        refine V.istore (q := 60) C dX10_ends_58 rfl (by decide) rfl rfl ?_
        refine V.iload_n (q := 61) C dX10_ends_60 rfl rfl ?_
        refine V.if_ne (q := 64) (tgt := 71) C dX10_ends_61 rfl rfl (fun hb61 => ?_) (fun hb61 => ?_)
        · refine V.iload_n (q := 72) C dX10_ends_71 rfl rfl ?_
          refine V.iconst (q := 73) (v := nI 1) C dX10_ends_72 rfl (by decide) ?_
          refine V.icmp_ne (q := 76) (tgt := 89) C dX10_ends_73 rfl rfl (fun hb73 => ?_) (fun hb73 => ?_)
          · exact absurd rfl hb73
          · refine V.aload_n (q := 77) C dX10_ends_76 rfl rfl ?_
            refine V.iload (q := 79) C dX10_ends_77 rfl rfl ?_
            refine V.iconst (q := 80) (v := nI 2) C dX10_ends_79 rfl (by decide) ?_
            refine V.bipush (q := 82) (v := nI 99) C dX10_ends_80 rfl (by decide) ?_
            refine V.callVi (q := 85) C me_X10_change (m_change (by omega)) ml_X10_93 dX10_ends_82 rfl okM ⟨_, rfl⟩ rfl rfl (Nat.le_of_ble_eq_true rfl) (by omega) (Nat.zero_le _) (Nat.zero_le _) ?_
            refine V.pop (q := 86) C dX10_ends_85 rfl rfl ?_
            refine V.goto (tgt := 114) C dX10_ends_86 rfl ?_
            refine V.iinc (q := 117) (v := nI (j + 1)) C dX10_ends_114 rfl rfl (nI_1 _) (by decide) rfl rfl ?_
            refine V.goto (tgt := 24) C dX10_ends_117 rfl ?_
            have e9 : (enA tx.2.2.1 tx.2.2.2.1 m (j + 1) now) = upd (enA tx.2.2.1 tx.2.2.2.1 m j now) (9 * i + 2) (nI 99) := by
              rw [es, enS]
              rw [if_neg (by rw [e115, h]; exact n10), if_pos (e115.trans h), e116, e, ix_nI (by omega)]
            refine V.ph (PH1 := (jn X (hM g (enA tx.2.2.1 tx.2.2.2.1 m (j + 1) now) now th tx (zS q cv hu) tr tp))) (by rw [e9]) ?_
            exact ih (j + 1) q _ _ (by omega)
        · exact absurd hb61 n10
    · refine V.iload_n (q := 25) C dX10_ends_24 rfl rfl ?_
      refine V.aload_n (q := 26) C dX10_ends_25 rfl rfl ?_
      refine V.get (q := 29) C fl_X10_9 dX10_ends_26 rfl okM rfl rfl ?_
      refine V.bipush (q := 31) (v := nI 114) C dX10_ends_29 rfl (by decide) ?_
      refine V.ild (q := 32) (i := 114) C dX10_ends_31 rfl okM_0 rfl rfl (by omega) (by decide) ?_
      refine V.topi (x1 := nI (c)) e114 ?_
      refine V.icmp_ge (q := 35) (tgt := 120) C dX10_ends_32 rfl rfl (fun hb32 => ?_) (fun hb32 => ?_)
      · exact absurd ((nI_leI (by omega) (by omega)).mp hb32) (by omega)
      · refine V.aload_n (q := 36) C dX10_ends_35 rfl rfl ?_
        refine V.get (q := 39) C fl_X10_9 dX10_ends_36 rfl okM rfl rfl ?_
        refine V.bipush (q := 41) (v := nI 115) C dX10_ends_39 rfl (by decide) ?_
        refine V.iconst (q := 42) (v := nI 2) C dX10_ends_41 rfl (by decide) ?_
        refine V.iload_n (q := 43) C dX10_ends_42 rfl rfl ?_
        refine V.imul (q := 44) C dX10_ends_43 rfl ?_
        refine V.topi (x1 := nI (2 * j)) (pk_mul _ _) ?_
        refine V.iadd (q := 45) C dX10_ends_44 rfl ?_
        refine V.topi (x1 := nI (115 + (2 * j))) (nI_add _ _) ?_
        refine V.ild (q := 46) (i := (115 + (2 * j))) C dX10_ends_45 rfl okM_0 rfl rfl (by omega) (by decide) ?_
        refine V.topi (x1 := nI 3) (e115.trans h) ?_
        refine V.istore_n (q := 47) C dX10_ends_46 rfl (by decide) rfl rfl ?_
        refine V.aload_n (q := 48) C dX10_ends_47 rfl rfl ?_
        refine V.get (q := 51) C fl_X10_9 dX10_ends_48 rfl okM rfl rfl ?_
        refine V.bipush (q := 53) (v := nI 116) C dX10_ends_51 rfl (by decide) ?_
        refine V.iconst (q := 54) (v := nI 2) C dX10_ends_53 rfl (by decide) ?_
        refine V.iload_n (q := 55) C dX10_ends_54 rfl rfl ?_
        refine V.imul (q := 56) C dX10_ends_55 rfl ?_
        refine V.topi (x1 := nI (2 * j)) (pk_mul _ _) ?_
        refine V.iadd (q := 57) C dX10_ends_56 rfl ?_
        refine V.topi (x1 := nI (116 + (2 * j))) (nI_add _ _) ?_
        refine V.ild (q := 58) (i := (116 + (2 * j))) C dX10_ends_57 rfl okM_0 rfl rfl (by omega) (by decide) ?_
        refine V.topi (x1 := nI (i)) (e116.trans e) ?_
        refine V.istore (q := 60) C dX10_ends_58 rfl (by decide) rfl rfl ?_
        refine V.iload_n (q := 61) C dX10_ends_60 rfl rfl ?_
        refine V.if_ne (q := 64) (tgt := 71) C dX10_ends_61 rfl rfl (fun hb61 => ?_) (fun hb61 => ?_)
        · refine V.iload_n (q := 72) C dX10_ends_71 rfl rfl ?_
          refine V.iconst (q := 73) (v := nI 1) C dX10_ends_72 rfl (by decide) ?_
          refine V.icmp_ne (q := 76) (tgt := 89) C dX10_ends_73 rfl rfl (fun hb73 => ?_) (fun hb73 => ?_)
          · refine V.iload_n (q := 90) C dX10_ends_89 rfl rfl ?_
            refine V.iconst (q := 91) (v := nI 2) C dX10_ends_90 rfl (by decide) ?_
            refine V.icmp_ne (q := 94) (tgt := 105) C dX10_ends_91 rfl rfl (fun hb91 => ?_) (fun hb91 => ?_)
            · refine V.aload_n (q := 106) C dX10_ends_105 rfl rfl ?_
              refine V.iload (q := 108) C dX10_ends_106 rfl rfl ?_
              refine V.iconst (q := 109) (v := nI 4) C dX10_ends_108 rfl (by decide) ?_
              refine V.iconst (q := 110) (v := nI 0) C dX10_ends_109 rfl (by decide) ?_
              refine V.callVi (q := 113) C me_X10_change (m_change (by omega)) ml_X10_93 dX10_ends_110 rfl okM ⟨_, rfl⟩ rfl rfl (Nat.le_of_ble_eq_true rfl) (by omega) (Nat.zero_le _) (Nat.zero_le _) ?_
              refine V.pop (q := 114) C dX10_ends_113 rfl rfl ?_
              refine V.iinc (q := 117) (v := nI (j + 1)) C dX10_ends_114 rfl rfl (nI_1 _) (by decide) rfl rfl ?_
              refine V.goto (tgt := 24) C dX10_ends_117 rfl ?_
              have e9 : (enA tx.2.2.1 tx.2.2.2.1 m (j + 1) now) = upd (enA tx.2.2.1 tx.2.2.2.1 m j now) (9 * i + 4) (nI 0) := by
                rw [es, enS]
                rw [if_neg (by rw [e115, h]; exact n30), if_neg (by rw [e115, h]; exact n31), if_neg (by rw [e115, h]; exact n32), e116, e, ix_nI (by omega)]
              refine V.ph (PH1 := (jn X (hM g (enA tx.2.2.1 tx.2.2.2.1 m (j + 1) now) now th tx (zS q cv hu) tr tp))) (by rw [e9]) ?_
              exact ih (j + 1) q _ _ (by omega)
            · exact absurd hb91 n32
          · exact absurd hb73 n31
        · exact absurd hb61 n30
    · refine V.iload_n (q := 25) C dX10_ends_24 rfl rfl ?_
      refine V.aload_n (q := 26) C dX10_ends_25 rfl rfl ?_
      refine V.get (q := 29) C fl_X10_9 dX10_ends_26 rfl okM rfl rfl ?_
      refine V.bipush (q := 31) (v := nI 114) C dX10_ends_29 rfl (by decide) ?_
      refine V.ild (q := 32) (i := 114) C dX10_ends_31 rfl okM_0 rfl rfl (by omega) (by decide) ?_
      refine V.topi (x1 := nI (c)) e114 ?_
      refine V.icmp_ge (q := 35) (tgt := 120) C dX10_ends_32 rfl rfl (fun hb32 => ?_) (fun hb32 => ?_)
      · exact absurd ((nI_leI (by omega) (by omega)).mp hb32) (by omega)
      · refine V.aload_n (q := 36) C dX10_ends_35 rfl rfl ?_
        refine V.get (q := 39) C fl_X10_9 dX10_ends_36 rfl okM rfl rfl ?_
        refine V.bipush (q := 41) (v := nI 115) C dX10_ends_39 rfl (by decide) ?_
        refine V.iconst (q := 42) (v := nI 2) C dX10_ends_41 rfl (by decide) ?_
        refine V.iload_n (q := 43) C dX10_ends_42 rfl rfl ?_
        refine V.imul (q := 44) C dX10_ends_43 rfl ?_
        refine V.topi (x1 := nI (2 * j)) (pk_mul _ _) ?_
        refine V.iadd (q := 45) C dX10_ends_44 rfl ?_
        refine V.topi (x1 := nI (115 + (2 * j))) (nI_add _ _) ?_
        refine V.ild (q := 46) (i := (115 + (2 * j))) C dX10_ends_45 rfl okM_0 rfl rfl (by omega) (by decide) ?_
        refine V.topi (x1 := nI 2) (e115.trans h) ?_
        refine V.istore_n (q := 47) C dX10_ends_46 rfl (by decide) rfl rfl ?_
        refine V.aload_n (q := 48) C dX10_ends_47 rfl rfl ?_
        refine V.get (q := 51) C fl_X10_9 dX10_ends_48 rfl okM rfl rfl ?_
        refine V.bipush (q := 53) (v := nI 116) C dX10_ends_51 rfl (by decide) ?_
        refine V.iconst (q := 54) (v := nI 2) C dX10_ends_53 rfl (by decide) ?_
        refine V.iload_n (q := 55) C dX10_ends_54 rfl rfl ?_
        refine V.imul (q := 56) C dX10_ends_55 rfl ?_
        refine V.topi (x1 := nI (2 * j)) (pk_mul _ _) ?_
        refine V.iadd (q := 57) C dX10_ends_56 rfl ?_
        refine V.topi (x1 := nI (116 + (2 * j))) (nI_add _ _) ?_
        refine V.ild (q := 58) (i := (116 + (2 * j))) C dX10_ends_57 rfl okM_0 rfl rfl (by omega) (by decide) ?_
        refine V.topi (x1 := nI (i)) (e116.trans e) ?_
        refine V.istore (q := 60) C dX10_ends_58 rfl (by decide) rfl rfl ?_
        refine V.iload_n (q := 61) C dX10_ends_60 rfl rfl ?_
        refine V.if_ne (q := 64) (tgt := 71) C dX10_ends_61 rfl rfl (fun hb61 => ?_) (fun hb61 => ?_)
        · refine V.iload_n (q := 72) C dX10_ends_71 rfl rfl ?_
          refine V.iconst (q := 73) (v := nI 1) C dX10_ends_72 rfl (by decide) ?_
          refine V.icmp_ne (q := 76) (tgt := 89) C dX10_ends_73 rfl rfl (fun hb73 => ?_) (fun hb73 => ?_)
          · refine V.iload_n (q := 90) C dX10_ends_89 rfl rfl ?_
            refine V.iconst (q := 91) (v := nI 2) C dX10_ends_90 rfl (by decide) ?_
            refine V.icmp_ne (q := 94) (tgt := 105) C dX10_ends_91 rfl rfl (fun hb91 => ?_) (fun hb91 => ?_)
            · exact absurd rfl hb91
            · refine V.aload_n (q := 95) C dX10_ends_94 rfl rfl ?_
              refine V.iload (q := 97) C dX10_ends_95 rfl rfl ?_
              refine V.iconst (q := 98) (v := -1) C dX10_ends_97 rfl (by decide) ?_
              refine V.callVi (q := 101) C me_X10_aims (m_aims (by omega)) ml_X10_114 dX10_ends_98 rfl okM ⟨_, rfl⟩ rfl rfl (Nat.le_of_ble_eq_true rfl) (by omega) (Nat.zero_le _) (Nat.zero_le _) ?_
              refine V.pop (q := 102) C dX10_ends_101 rfl rfl ?_
              refine V.goto (tgt := 114) C dX10_ends_102 rfl ?_
              refine V.iinc (q := 117) (v := nI (j + 1)) C dX10_ends_114 rfl rfl (nI_1 _) (by decide) rfl rfl ?_
              refine V.goto (tgt := 24) C dX10_ends_117 rfl ?_
              have e9 : (enA tx.2.2.1 tx.2.2.2.1 m (j + 1) now) = upd (enA tx.2.2.1 tx.2.2.2.1 m j now) (54 + 3 * i + 2) (-1) := by
                rw [es, enS]
                rw [if_neg (by rw [e115, h]; exact n20), if_neg (by rw [e115, h]; exact n21), if_pos (e115.trans h), e116, e, ix_nI (by omega)]
              refine V.ph (PH1 := (jn X (hM g (enA tx.2.2.1 tx.2.2.2.1 m (j + 1) now) now th tx (zS q cv hu) tr tp))) (by rw [e9]) ?_
              exact ih (j + 1) q _ _ (by omega)
          · exact absurd hb73 n21
        · exact absurd hb61 n20
theorem m_ends {l : Launch} {g : GG} {X : PHp} {now mind : I1} {th : I1 × Int32} {tx : TXt} {q : SC} {cv hu : I1} {tr : I1 × Int32} {tp : TPt} {n m c : Nat} {x : Int32} (hW : WI now n m) (hR : RuI tx.2.2.2.1 now) (hP : PlI now n m c) : Ct l g yX10_ends cX10_ends 5 (some .int) 27 0 0 [rf g (22, 0, 0), .int x] NN (jn X (hM g now mind th tx (zS q cv hu) tr tp)) (xI (fun _ : SD => True) (fun _ => (endsR tx.2.2.1 tx.2.2.2.1 now n m c x)) (fun q1 => (jn X (hM g now q1.2.1 th tx (zS q1.1 q1.2.2.1 q1.2.2.2) tr tp)))) := by
  refine Ct.of (lv := [some (rf g (22, 0, 0)), some (.int x), none, none, none]) (by decide +kernel) rfl (Nat.le_of_ble_eq_true rfl) ?_
  intro Γ C
  have h6 := hW.2.1
  refine V.iload_n (q := 1) C dX10_ends_0 rfl rfl ?_
  refine V.iconst (q := 2) (v := nI 0) C dX10_ends_1 rfl (by decide) ?_
  refine V.iconst (q := 3) (v := nI 1) C dX10_ends_2 rfl (by decide) ?_
  refine V.callSi (q := 6) C me_X10_isIn m_isIn ml_X10_82 dX10_ends_3 rfl rfl rfl (Nat.le_of_ble_eq_true rfl) (by omega) (Nat.zero_le _) (Nat.zero_le _) ?_
  refine V.if_neB (q := 9) (tgt := 11) C dX10_ends_6 rfl rfl (fun hb6 => ?_) (fun hb6 => ?_)
  · refine V.aload_n (q := 12) C dX10_ends_11 rfl rfl ?_
    refine V.get (q := 15) C fl_X10_9 dX10_ends_12 rfl okM rfl rfl ?_
    refine V.aload_n (q := 16) C dX10_ends_15 rfl rfl ?_
    refine V.get (q := 19) C fl_X10_15 dX10_ends_16 rfl okM rfl rfl ?_
    refine V.callSv (q := 22) C me_X10_move m_move_mind ml_X10_78 dX10_ends_19 rfl rfl rfl (Nat.le_of_ble_eq_true rfl) (by omega) (Nat.zero_le _) (Nat.zero_le _) ?_
    refine V.iconst (q := 23) (v := nI 0) C dX10_ends_22 rfl (by decide) ?_
    refine V.istore_n (q := 24) C dX10_ends_23 rfl (by decide) rfl rfl ?_
    refine m_ends_l hW hR hP C ?_ c 0 q _ _ (by omega)
    intro q2 u v
    refine V.iload_n (q := 121) C dX10_ends_120 rfl rfl ?_
    refine V.if_ne (q := 124) (tgt := 132) C dX10_ends_121 rfl rfl (fun hb121 => ?_) (fun hb121 => ?_)
    · refine V.aload_n (q := 133) C dX10_ends_132 rfl rfl ?_
      refine V.iconst (q := 134) (v := nI 2) C dX10_ends_133 rfl (by decide) ?_
      refine V.callVi (q := 137) C me_X10_all (m_all (enA_ok hW hP c (by omega)).1.1 hW.2.1 (by omega)) ml_X10_202 dX10_ends_134 rfl okM ⟨_, rfl⟩ rfl rfl (Nat.le_of_ble_eq_true rfl) (by omega) (Nat.zero_le _) (Nat.zero_le _) ?_
      refine V.istore_n (q := 138) C dX10_ends_137 rfl (by decide) rfl rfl ?_
      refine V.aload_n (q := 139) C dX10_ends_138 rfl rfl ?_
      refine V.get (q := 142) C fl_X10_15 dX10_ends_139 rfl okM rfl rfl ?_
      refine V.aload_n (q := 143) C dX10_ends_142 rfl rfl ?_
      refine V.get (q := 146) C fl_X10_9 dX10_ends_143 rfl okM rfl rfl ?_
      refine V.callSv (q := 149) C me_X10_move m_move_back ml_X10_78 dX10_ends_146 rfl rfl rfl (Nat.le_of_ble_eq_true rfl) (by omega) (Nat.zero_le _) (Nat.zero_le _) ?_
      refine V.iload_n (q := 150) C dX10_ends_149 rfl rfl ?_
      exact V.ireturn C dX10_ends_150 ⟨(q2, now, cv, hu), trivial, by rw [endsR, if_pos hb6, if_neg hb121], rfl, rfl⟩
    · refine V.aload_n (q := 125) C dX10_ends_124 rfl rfl ?_
      refine V.iconst (q := 126) (v := nI 4) C dX10_ends_125 rfl (by decide) ?_
      refine V.callVi (q := 129) C me_X10_all (m_all (enA_ok hW hP c (by omega)).1.1 hW.2.1 (by omega)) ml_X10_202 dX10_ends_126 rfl okM ⟨_, rfl⟩ rfl rfl (Nat.le_of_ble_eq_true rfl) (by omega) (Nat.zero_le _) (Nat.zero_le _) ?_
      refine V.goto (tgt := 137) C dX10_ends_129 rfl ?_
      refine V.istore_n (q := 138) C dX10_ends_137 rfl (by decide) rfl rfl ?_
      refine V.aload_n (q := 139) C dX10_ends_138 rfl rfl ?_
      refine V.get (q := 142) C fl_X10_15 dX10_ends_139 rfl okM rfl rfl ?_
      refine V.aload_n (q := 143) C dX10_ends_142 rfl rfl ?_
      refine V.get (q := 146) C fl_X10_9 dX10_ends_143 rfl okM rfl rfl ?_
      refine V.callSv (q := 149) C me_X10_move m_move_back ml_X10_78 dX10_ends_146 rfl rfl rfl (Nat.le_of_ble_eq_true rfl) (by omega) (Nat.zero_le _) (Nat.zero_le _) ?_
      refine V.iload_n (q := 150) C dX10_ends_149 rfl rfl ?_
      exact V.ireturn C dX10_ends_150 ⟨(q2, now, cv, hu), trivial, by rw [endsR, if_pos hb6, if_pos hb121], rfl, rfl⟩
  · refine V.iconst (q := 10) (v := -1) C dX10_ends_9 rfl (by decide) ?_
    exact V.ireturn C dX10_ends_10 ⟨(q, mind, cv, hu), trivial, by rw [endsR, if_neg hb6], rfl, rfl⟩
def soF (rules sizes : I1) (m p : Nat) (h : Int32) : Nat → Nat → I1 → Int32
  | 0, _, _ => -5
  | f + 1, k, B => if B (9 * p + 4) ≤ h then soF rules sizes m p h f (k + 1) (dyA rules sizes m B) else nI k
theorem m_sore_l {l : Launch} {g : GG} {X : PHp} {now : I1} {th : I1 × Int32} {tx : TXt}  {cv hu : I1} {tr : I1 × Int32} {tp : TPt} {Γ : Cxt} {n m p : Nat} (hp : p < n) (hW : WI now n m) (hR : RuI tx.2.2.2.1 now) (C : Cx Γ g cX10_sore yX10_sore 5 (some .int) 26 0 0) : ∀ (f j : Nat) (q : SC), j + f = 61 → V l Γ g 5 (QM Γ g (xI (fun _ : SC => True) (fun _ => soF tx.2.2.1 tx.2.2.2.1 m p (now (9 * p + 4)) f j (dsA tx.2.2.1 tx.2.2.2.1 m j now)) (fun q1 => (jn X (hM g now now th tx (zS q1 cv hu) tr tp)))) 0 0) 0 0 NN (jn X (hM g (dsA tx.2.2.1 tx.2.2.2.1 m j now) now th tx (zS q cv hu) tr tp)) 24 [some (rf g (22, 0, 0)), some (.int (nI p)), some (.int (now (9 * p + 4))), some (.int (-5)), some (.int (nI j))] [] := by
  have h6 := hW.2.1
  intro f
  induction f with
  | zero =>
    intro j q hj
    have ej : j = 61 := by omega
    subst ej
    refine V.iload (q := 26) C dX10_sore_24 rfl rfl ?_
    refine V.bipush (q := 28) (v := nI 60) C dX10_sore_26 rfl (by decide) ?_
    refine V.icmp_gt (q := 31) (tgt := 65) C dX10_sore_28 rfl rfl (fun hb28 => ?_) (fun hb28 => ?_)
    · refine V.aload_n (q := 66) C dX10_sore_65 rfl rfl ?_
      refine V.get (q := 69) C fl_X10_15 dX10_sore_66 rfl okM rfl rfl ?_
      refine V.aload_n (q := 70) C dX10_sore_69 rfl rfl ?_
      refine V.get (q := 73) C fl_X10_9 dX10_sore_70 rfl okM rfl rfl ?_
      refine V.callSv (q := 76) C me_X10_move m_move_back ml_X10_78 dX10_sore_73 rfl rfl rfl (Nat.le_of_ble_eq_true rfl) (by omega) (Nat.zero_le _) (Nat.zero_le _) ?_
      refine V.iload_n (q := 77) C dX10_sore_76 rfl rfl ?_
      exact V.ireturn C dX10_sore_77 ⟨q, trivial, rfl, rfl, rfl⟩
    · exact absurd (show nI 60 < nI 61 by decide) hb28
  | succ f ih =>
    intro j q hj
    have hB : WI (dsA tx.2.2.1 tx.2.2.2.1 m j now) n m := dsA_W hW
    have hR2 : RuI tx.2.2.2.1 (dsA tx.2.2.1 tx.2.2.2.1 m j now) := RuI_hi (dsA_hi hW j 81 (by omega) (by omega)) hR
    refine V.iload (q := 26) C dX10_sore_24 rfl rfl ?_
    refine V.bipush (q := 28) (v := nI 60) C dX10_sore_26 rfl (by decide) ?_
    refine V.icmp_gt (q := 31) (tgt := 65) C dX10_sore_28 rfl rfl (fun hb28 => ?_) (fun hb28 => ?_)
    · exact absurd hb28 (nI_nlt (by omega) (by omega))
    · refine V.iload_n (q := 32) C dX10_sore_31 rfl rfl ?_
      refine V.bipush (q := 34) (v := -5) C dX10_sore_32 rfl (by decide) ?_
      refine V.icmp_ne (q := 37) (tgt := 65) C dX10_sore_34 rfl rfl (fun hb34 => ?_) (fun hb34 => ?_)
      · exact absurd rfl hb34
      · refine V.aload_n (q := 38) C dX10_sore_37 rfl rfl ?_
        refine V.iload_n (q := 39) C dX10_sore_38 rfl rfl ?_
        refine V.iconst (q := 40) (v := nI 4) C dX10_sore_39 rfl (by decide) ?_
        refine V.callVi (q := 43) C me_X10_one (m_one (by omega)) ml_X10_86 dX10_sore_40 rfl okM ⟨_, rfl⟩ rfl rfl (Nat.le_of_ble_eq_true rfl) (by omega) (Nat.zero_le _) (Nat.zero_le _) ?_
        refine V.iload_n (q := 44) C dX10_sore_43 rfl rfl ?_
        refine V.icmp_le (q := 47) (tgt := 52) C dX10_sore_44 rfl rfl (fun hb44 => ?_) (fun hb44 => ?_)
        · refine V.bipush (q := 54) (v := -5) C dX10_sore_52 rfl (by decide) ?_
          refine V.istore_n (q := 55) C dX10_sore_54 rfl (by decide) rfl rfl ?_
          refine V.aload_n (q := 56) C dX10_sore_55 rfl rfl ?_
          refine V.callVxv (q := 59) C me_X10_day (m_day hB hR2) ml_X10_199 dX10_sore_56 rfl okM ⟨_, rfl⟩ rfl rfl (Nat.le_of_ble_eq_true rfl) (by omega) (Nat.zero_le _) (Nat.zero_le _) (fun q1 _ => ?_)
          refine V.iinc (q := 62) (v := nI (j + 1)) C dX10_sore_59 rfl rfl (nI_1 _) (by decide) rfl rfl ?_
          refine V.goto (tgt := 24) C dX10_sore_62 rfl ?_
          have e9 : soF tx.2.2.1 tx.2.2.2.1 m p (now (9 * p + 4)) (f + 1) j (dsA tx.2.2.1 tx.2.2.2.1 m j now) = soF tx.2.2.1 tx.2.2.2.1 m p (now (9 * p + 4)) f (j + 1) (dsA tx.2.2.1 tx.2.2.2.1 m (j + 1) now) := if_pos hb44
          rw [e9]
          exact ih (j + 1) q1 (by omega)
        · refine V.iload (q := 49) C dX10_sore_47 rfl rfl ?_
          refine V.goto (tgt := 54) C dX10_sore_49 rfl ?_
          refine V.istore_n (q := 55) C dX10_sore_54 rfl (by decide) rfl rfl ?_
          refine V.aload_n (q := 56) C dX10_sore_55 rfl rfl ?_
          refine V.callVxv (q := 59) C me_X10_day (m_day hB hR2) ml_X10_199 dX10_sore_56 rfl okM ⟨_, rfl⟩ rfl rfl (Nat.le_of_ble_eq_true rfl) (by omega) (Nat.zero_le _) (Nat.zero_le _) (fun q1 _ => ?_)
          refine V.iinc (q := 62) (v := nI (j + 1)) C dX10_sore_59 rfl rfl (nI_1 _) (by decide) rfl rfl ?_
          refine V.goto (tgt := 24) C dX10_sore_62 rfl ?_
          have e9 : soF tx.2.2.1 tx.2.2.2.1 m p (now (9 * p + 4)) (f + 1) j (dsA tx.2.2.1 tx.2.2.2.1 m j now) = nI j := if_neg hb44
          rw [e9]
          refine V.iload (q := 26) C dX10_sore_24 rfl rfl ?_
          refine V.bipush (q := 28) (v := nI 60) C dX10_sore_26 rfl (by decide) ?_
          refine V.icmp_gt (q := 31) (tgt := 65) C dX10_sore_28 rfl rfl (fun hb28 => ?_) (fun hb28 => ?_)
          · refine V.aload_n (q := 66) C dX10_sore_65 rfl rfl ?_
            refine V.get (q := 69) C fl_X10_15 dX10_sore_66 rfl okM rfl rfl ?_
            refine V.aload_n (q := 70) C dX10_sore_69 rfl rfl ?_
            refine V.get (q := 73) C fl_X10_9 dX10_sore_70 rfl okM rfl rfl ?_
            refine V.callSv (q := 76) C me_X10_move m_move_back ml_X10_78 dX10_sore_73 rfl rfl rfl (Nat.le_of_ble_eq_true rfl) (by omega) (Nat.zero_le _) (Nat.zero_le _) ?_
            refine V.iload_n (q := 77) C dX10_sore_76 rfl rfl ?_
            exact V.ireturn C dX10_sore_77 ⟨q1, trivial, rfl, rfl, rfl⟩
          · refine V.iload_n (q := 32) C dX10_sore_31 rfl rfl ?_
            refine V.bipush (q := 34) (v := -5) C dX10_sore_32 rfl (by decide) ?_
            refine V.icmp_ne (q := 37) (tgt := 65) C dX10_sore_34 rfl rfl (fun hb34 => ?_) (fun hb34 => ?_)
            · refine V.aload_n (q := 66) C dX10_sore_65 rfl rfl ?_
              refine V.get (q := 69) C fl_X10_15 dX10_sore_66 rfl okM rfl rfl ?_
              refine V.aload_n (q := 70) C dX10_sore_69 rfl rfl ?_
              refine V.get (q := 73) C fl_X10_9 dX10_sore_70 rfl okM rfl rfl ?_
              refine V.callSv (q := 76) C me_X10_move m_move_back ml_X10_78 dX10_sore_73 rfl rfl rfl (Nat.le_of_ble_eq_true rfl) (by omega) (Nat.zero_le _) (Nat.zero_le _) ?_
              refine V.iload_n (q := 77) C dX10_sore_76 rfl rfl ?_
              exact V.ireturn C dX10_sore_77 ⟨q1, trivial, rfl, rfl, rfl⟩
            · exact absurd hb34 (fun z => absurd (congrArg Int32.toInt z) (by rw [nI_toInt (by omega)]; have : (-5 : Int32).toInt = -5 := rfl; omega))
theorem m_sore {l : Launch} {g : GG} {X : PHp} {now mind : I1} {th : I1 × Int32} {tx : TXt} {q : SC} {cv hu : I1} {tr : I1 × Int32} {tp : TPt} {n m p : Nat} (hp : p < n) (hW : WI now n m) (hR : RuI tx.2.2.2.1 now) : Ct l g yX10_sore cX10_sore 5 (some .int) 26 0 0 [rf g (22, 0, 0), .int (nI p)] NN (jn X (hM g now mind th tx (zS q cv hu) tr tp)) (xI (fun _ : SC => True) (fun _ => soF tx.2.2.1 tx.2.2.2.1 m p (now (9 * p + 4)) 61 0 now) (fun q1 => (jn X (hM g now now th tx (zS q1 cv hu) tr tp)))) := by
  refine Ct.of (lv := [some (rf g (22, 0, 0)), some (.int (nI p)), none, none, none]) (by decide +kernel) rfl (Nat.le_of_ble_eq_true rfl) ?_
  intro Γ C
  have h6 := hW.2.1
  refine V.aload_n (q := 1) C dX10_sore_0 rfl rfl ?_
  refine V.get (q := 4) C fl_X10_9 dX10_sore_1 rfl okM rfl rfl ?_
  refine V.aload_n (q := 5) C dX10_sore_4 rfl rfl ?_
  refine V.get (q := 8) C fl_X10_15 dX10_sore_5 rfl okM rfl rfl ?_
  refine V.callSv (q := 11) C me_X10_move m_move_mind ml_X10_78 dX10_sore_8 rfl rfl rfl (Nat.le_of_ble_eq_true rfl) (by omega) (Nat.zero_le _) (Nat.zero_le _) ?_
  refine V.aload_n (q := 12) C dX10_sore_11 rfl rfl ?_
  refine V.iload_n (q := 13) C dX10_sore_12 rfl rfl ?_
  refine V.iconst (q := 14) (v := nI 4) C dX10_sore_13 rfl (by decide) ?_
  refine V.callVi (q := 17) C me_X10_one (m_one (by omega)) ml_X10_86 dX10_sore_14 rfl okM ⟨_, rfl⟩ rfl rfl (Nat.le_of_ble_eq_true rfl) (by omega) (Nat.zero_le _) (Nat.zero_le _) ?_
  refine V.istore_n (q := 18) C dX10_sore_17 rfl (by decide) rfl rfl ?_
  refine V.bipush (q := 20) (v := -5) C dX10_sore_18 rfl (by decide) ?_
  refine V.istore_n (q := 21) C dX10_sore_20 rfl (by decide) rfl rfl ?_
  refine V.iconst (q := 22) (v := nI 0) C dX10_sore_21 rfl (by decide) ?_
  refine V.istore (q := 24) C dX10_sore_22 rfl (by decide) rfl rfl ?_
  exact m_sore_l hp hW hR C 61 0 q (by omega)
def jdF (it : Nat → Int64) (A : I1) (t c : Nat) (i : Int32) : Nat → Nat → Int32
  | 0, _ => -5
  | f + 1, k => if i < 0 then nI (100 + k) else if c ≤ ix i + k then nI (100 + k) else if it (60 * t + (ix i + k)) = (A (9 * k + 2)).toInt64 then jdF it A t c i f (k + 1) else nI k
def judgeR (so : I1) (it : Nat → Int64) (A : I1) (n c : Nat) (t i : Int32) : Int32 := if inN t 6 then (if so (ix t) ≤ 0 then jdF it A (ix t) c i n 0 else -12) else -1
theorem lN_toI {a : Nat} (h : a < 2 ^ 31) : (lN a).toInt32 = nI a := by
  rw [← nI_l h]
  exact Int32.toInt32_toInt64 _
theorem m_judge_l {l : Launch} {g : GG} {X : PHp} {now mind : I1} {th : I1 × Int32} {tx : TXt} {z : Zt} {tr : I1 × Int32} {so le : I1} {it mo : Nat → Int64} {Γ : Cxt} {n t c : Nat} {i : Int32} (hn : now 78 = nI n) (hn6 : n ≤ 6) (ht : t < 6) (hc : c ≤ 60) (hl : le t = nI c) (C : Cx Γ g cX10_judge yX10_judge 6 (some .int) 3 0 0) : ∀ (f k : Nat) (u v : Option Value), k + f = n → V l Γ g 6 (QM Γ g (pI (jdF it now t c i f k) (jn X (hM g now mind th tx z tr (so, le, it, mo)))) 0 0) 0 0 NN (jn X (hM g now mind th tx z tr (so, le, it, mo))) 23 [some (rf g (22, 0, 0)), some (.int (nI t)), some (.int i), some (.int (nI k)), u, v] [] := by
  intro f
  induction f with
  | zero =>
    intro k u v hk
    obtain rfl : k = n := by omega
    refine V.iload_n (q := 24) C dX10_judge_23 rfl rfl ?_
    refine V.aload_n (q := 25) C dX10_judge_24 rfl rfl ?_
    refine V.get (q := 28) C fl_X10_9 dX10_judge_25 rfl okM rfl rfl ?_
    refine V.bipush (q := 30) (v := nI 78) C dX10_judge_28 rfl (by decide) ?_
    refine V.ild (q := 31) (i := 78) C dX10_judge_30 rfl okM_0 rfl rfl (by omega) (by decide) ?_
    try dsimp only
    refine V.topi (x1 := nI (k)) hn ?_
    refine V.icmp_ge (q := 34) (tgt := 95) C dX10_judge_31 rfl rfl (fun hb31 => ?_) (fun hb31 => ?_)
    · refine V.bipush (q := 97) (v := -5) C dX10_judge_95 rfl (by decide) ?_
      exact V.ireturn C dX10_judge_97 ⟨rfl, rfl, rfl⟩
    · exact absurd ((nI_leI (by omega) (by omega)).mpr (by omega)) hb31
  | succ f ih =>
    intro k u v hk
    refine V.iload_n (q := 24) C dX10_judge_23 rfl rfl ?_
    refine V.aload_n (q := 25) C dX10_judge_24 rfl rfl ?_
    refine V.get (q := 28) C fl_X10_9 dX10_judge_25 rfl okM rfl rfl ?_
    refine V.bipush (q := 30) (v := nI 78) C dX10_judge_28 rfl (by decide) ?_
    refine V.ild (q := 31) (i := 78) C dX10_judge_30 rfl okM_0 rfl rfl (by omega) (by decide) ?_
    try dsimp only
    refine V.topi (x1 := nI (n)) hn ?_
    refine V.icmp_ge (q := 34) (tgt := 95) C dX10_judge_31 rfl rfl (fun hb31 => ?_) (fun hb31 => ?_)
    · exact absurd ((nI_leI (by omega) (by omega)).mp hb31) (by omega)
    · refine V.iload_n (q := 35) C dX10_judge_34 rfl rfl ?_
      refine V.i2l (q := 36) C dX10_judge_35 rfl rfl ?_
      refine V.iload_n (q := 37) C dX10_judge_36 rfl rfl ?_
      refine V.i2l (q := 38) C dX10_judge_37 rfl rfl ?_
      refine V.ladd (q := 39) C dX10_judge_38 rfl ?_
      refine V.lstore (q := 41) C dX10_judge_39 rfl (by decide) rfl rfl ?_
      refine V.iload_n (q := 42) C dX10_judge_41 rfl rfl ?_
      refine V.if_lt (q := 45) (tgt := 58) C dX10_judge_42 rfl rfl (fun hb42 => ?_) (fun hb42 => ?_)
      · refine V.bipush (q := 60) (v := nI 100) C dX10_judge_58 rfl (by decide) ?_
        refine V.iload_n (q := 61) C dX10_judge_60 rfl rfl ?_
        refine V.iadd (q := 62) C dX10_judge_61 rfl ?_
        refine V.topi (x1 := nI (100 + k)) (nI_add _ _) ?_
        exact V.ireturn C dX10_judge_62 ⟨by rw [jdF, if_pos hb42], rfl, rfl⟩
      · obtain ⟨a, ha, rfl⟩ := nI_of hb42
        have ia := ix_nI (i := a) ha
        refine V.loc (lv1 := [some (rf g (22, 0, 0)), some (.int (nI t)), some (.int (nI a)), some (.int (nI k)), some (.long (lN (a + k))), none]) (by rw [nI_l ha, nI_l (by omega), lN_add]; rfl) ?_
        refine V.lload (q := 47) C dX10_judge_45 rfl rfl ?_
        refine V.aload_n (q := 48) C dX10_judge_47 rfl rfl ?_
        refine V.get (q := 51) C fl_X10_64 dX10_judge_48 rfl okM rfl rfl ?_
        refine V.iload_n (q := 52) C dX10_judge_51 rfl rfl ?_
        refine V.ild (q := 53) (i := t) C dX10_judge_52 rfl okM_27 rfl rfl (by omega) (by decide) ?_
        try dsimp only
        refine V.topi (x1 := nI (c)) hl ?_
        refine V.i2l (q := 54) C dX10_judge_53 rfl rfl ?_
        refine V.stk (st1 := [.long (lN c), .long (lN (a + k))]) (by rw [nI_l (by omega)]) ?_
        refine V.lcmp (q := 55) C dX10_judge_54 rfl ?_
        refine V.if_lt (q := 58) (tgt := 63) C dX10_judge_55 rfl rfl (fun hb55 => ?_) (fun hb55 => ?_)
        · replace hb55 := (pk_lLT (by omega) (by omega)).mp ((lg_cmp_lt _ _).mp hb55)
          refine V.aload_n (q := 64) C dX10_judge_63 rfl rfl ?_
          refine V.get (q := 67) C fl_X10_67 dX10_judge_64 rfl okM rfl rfl ?_
          refine V.bipush (q := 69) (v := nI 60) C dX10_judge_67 rfl (by decide) ?_
          refine V.iload_n (q := 70) C dX10_judge_69 rfl rfl ?_
          refine V.imul (q := 71) C dX10_judge_70 rfl ?_
          refine V.topi (x1 := nI (60 * t)) (pk_mul _ _) ?_
          refine V.lload (q := 73) C dX10_judge_71 rfl rfl ?_
          refine V.l2i (q := 74) C dX10_judge_73 rfl rfl ?_
          refine V.topi (x1 := nI ((a + k))) (lN_toI (by omega)) ?_
          refine V.iadd (q := 75) C dX10_judge_74 rfl ?_
          refine V.topi (x1 := nI ((60 * t) + ((a + k)))) (nI_add _ _) ?_
          refine V.lld (q := 76) (i := ((60 * t) + ((a + k)))) C dX10_judge_75 rfl okM_28 rfl rfl (by omega) (by decide) ?_
          try dsimp only
          refine V.aload_n (q := 77) C dX10_judge_76 rfl rfl ?_
          refine V.iload_n (q := 78) C dX10_judge_77 rfl rfl ?_
          refine V.iconst (q := 79) (v := nI 2) C dX10_judge_78 rfl (by decide) ?_
          refine V.callVi (q := 82) C me_X10_one (m_one (by omega)) ml_X10_86 dX10_judge_79 rfl okM ⟨_, rfl⟩ rfl rfl (Nat.le_of_ble_eq_true rfl) (by omega) (Nat.zero_le _) (Nat.zero_le _) ?_
          refine V.i2l (q := 83) C dX10_judge_82 rfl rfl ?_
          refine V.lcmp (q := 84) C dX10_judge_83 rfl ?_
          refine V.if_eq (q := 87) (tgt := 89) C dX10_judge_84 rfl rfl (fun hb84 => ?_) (fun hb84 => ?_)
          · replace hb84 := (lg_cmp_eq _ _).mp hb84
            refine V.iinc (q := 92) (v := nI (k + 1)) C dX10_judge_89 rfl rfl (nI_1 _) (by decide) rfl rfl ?_
            refine V.goto (tgt := 23) C dX10_judge_92 rfl ?_
            have e9 : jdF it now t c (nI a) (f + 1) k = jdF it now t c (nI a) f (k + 1) := by rw [jdF, if_neg hb42, ia, if_neg (by omega), if_pos hb84]
            rw [e9]
            exact ih (k + 1) _ _ (by omega)
          · replace hb84 := fun z => hb84 ((lg_cmp_eq _ _).mpr z)
            refine V.iload_n (q := 88) C dX10_judge_87 rfl rfl ?_
            exact V.ireturn C dX10_judge_88 ⟨by rw [jdF, if_neg hb42, ia, if_neg (by omega), if_neg hb84], rfl, rfl⟩
        · replace hb55 : c ≤ a + k := Nat.le_of_not_lt (fun z => hb55 ((lg_cmp_lt _ _).mpr ((pk_lLT (by omega) (by omega)).mpr z)))
          refine V.bipush (q := 60) (v := nI 100) C dX10_judge_58 rfl (by decide) ?_
          refine V.iload_n (q := 61) C dX10_judge_60 rfl rfl ?_
          refine V.iadd (q := 62) C dX10_judge_61 rfl ?_
          refine V.topi (x1 := nI (100 + k)) (nI_add _ _) ?_
          exact V.ireturn C dX10_judge_62 ⟨by rw [jdF, if_neg hb42, ia, if_pos hb55], rfl, rfl⟩
theorem m_judge {l : Launch} {g : GG} {X : PHp} {now mind : I1} {th : I1 × Int32} {tx : TXt} {z : Zt} {tr : I1 × Int32} {so le : I1} {it mo : Nat → Int64} {n c : Nat} {t i : Int32} (hn : now 78 = nI n) (hn6 : n ≤ 6) (hl : ∀ j, t = nI j → j < 6 → le j = nI c) (hc : c ≤ 60) : Ct l g yX10_judge cX10_judge 6 (some .int) 3 0 0 [rf g (22, 0, 0), .int t, .int i] NN (jn X (hM g now mind th tx z tr (so, le, it, mo))) (pI (judgeR so it now n c t i) (jn X (hM g now mind th tx z tr (so, le, it, mo)))) := by
  refine Ct.of (lv := [some (rf g (22, 0, 0)), some (.int t), some (.int i), none, none, none]) (by decide +kernel) rfl (Nat.le_of_ble_eq_true rfl) ?_
  intro Γ C
  refine V.iload_n (q := 1) C dX10_judge_0 rfl rfl ?_
  refine V.callSi (q := 4) C me_X10_isTape m_isTape ml_X10_261 dX10_judge_1 rfl rfl rfl (Nat.le_of_ble_eq_true rfl) (by omega) (Nat.zero_le _) (Nat.zero_le _) ?_
  refine V.if_neB (q := 7) (tgt := 9) C dX10_judge_4 rfl rfl (fun hb4 => ?_) (fun hb4 => ?_)
  · obtain ⟨t, ht, rfl⟩ := InN_nat (by omega) hb4
    have et := ix_nI (i := t) (by omega)
    refine V.aload_n (q := 10) C dX10_judge_9 rfl rfl ?_
    refine V.get (q := 13) C fl_X10_61 dX10_judge_10 rfl okM rfl rfl ?_
    refine V.iload_n (q := 14) C dX10_judge_13 rfl rfl ?_
    refine V.ild (q := 15) (i := t) C dX10_judge_14 rfl okM_26 rfl rfl (by omega) (by decide) ?_
    try dsimp only
    refine V.if_le (q := 18) (tgt := 21) C dX10_judge_15 rfl rfl (fun hb15 => ?_) (fun hb15 => ?_)
    · refine V.iconst (q := 22) (v := nI 0) C dX10_judge_21 rfl (by decide) ?_
      refine V.istore_n (q := 23) C dX10_judge_22 rfl (by decide) rfl rfl ?_
      rw [show judgeR so it now n c (nI t) i = jdF it now t c i n 0 by simp only [judgeR, hb4, et, hb15, ↓reduceIte]]
      exact m_judge_l hn hn6 ht hc (hl t rfl ht) C n 0 _ _ (by omega)
    · refine V.bipush (q := 20) (v := -12) C dX10_judge_18 rfl (by decide) ?_
      exact V.ireturn C dX10_judge_20 ⟨by simp only [judgeR, hb4, et, hb15, Bool.false_eq_true, ↓reduceIte], rfl, rfl⟩
  · refine V.iconst (q := 8) (v := -1) C dX10_judge_7 rfl (by decide) ?_
    exact V.ireturn C dX10_judge_8 ⟨by simp only [judgeR, hb4, Bool.false_eq_true, ↓reduceIte], rfl, rfl⟩
