/-- the same, the rub aside -/
def ApK (ct z : CTt) (c k : Nat) (L : List (Int32 × Int32)) : Prop := OtC ct z c ∧ z.2.2.1 c = nI (k + L.length) ∧ (∀ j, j < k → z.1 c j = ct.1 c j ∧ z.2.1 c j = ct.2.1 c j) ∧ ∀ j p, L[j]? = some p → z.1 c (k + j) = p.1 ∧ z.2.1 c (k + j) = p.2
theorem ApC.K {ct z : CTt} {c k : Nat} {L : List (Int32 × Int32)} (h : ApC ct z c k L) : ApK ct z c k L := ⟨h.1, h.2.2.1, h.2.2.2.1, h.2.2.2.2⟩
theorem ApK.trans {ct z y : CTt} {c k : Nat} {L L2 : List (Int32 × Int32)} (h : ApK ct z c k L) (h2 : ApK z y c (k + L.length) L2) : ApK ct y c k (L ++ L2) := by
  obtain ⟨a1, a3, a4, a5⟩ := h
  obtain ⟨b1, b3, b4, b5⟩ := h2
  refine ⟨a1.trans b1, by rw [b3, List.length_append, Nat.add_assoc], fun j hj => ⟨(b4 j (by omega)).1.trans (a4 j hj).1, (b4 j (by omega)).2.trans (a4 j hj).2⟩, fun j p hj => ?_⟩
  by_cases q : j < L.length
  · rw [List.getElem?_append_left q] at hj
    exact ⟨(b4 _ (by omega)).1.trans (a5 j p hj).1, (b4 _ (by omega)).2.trans (a5 j p hj).2⟩
  · rw [List.getElem?_append_right (by omega)] at hj
    have h9 := b5 _ p hj
    rw [show k + L.length + (j - L.length) = k + j by omega] at h9
    exact h9
/-- what a clause does to city c -/
def ClO (ct z : CTt) (c k : Nat) (r : CR) : Prop := OtC ct z c ∧ (r.1 = true → ApK ct z c k r.2.2.1 ∧ z.2.2.2 c = r.2.2.2.2.1)
theorem te_0 {T : I1} {sz a : Nat} {Nm : I1} : teP T sz Nm false a = (false, a, [], false) := by
  rw [teP, if_pos]
  rcases ls_cases (T := T) (sz := sz) (w := false) (a := a) (L := mLet) 6 with ⟨h, -⟩ | ⟨j, -, -, h⟩
  · exact h
  · exact absurd h isA_0
theorem fa_0 {T : I1} {sz a : Nat} {Nm : I1} : ∀ k, faP T sz Nm k false a = (false, a, [], false) := by
  intro k
  cases k with
  | zero => exact te_0
  | succ k => rw [faP, if_neg isA_0, if_neg isA_0, te_0]
theorem an_0 {T : I1} {sz a k : Nat} {Nm : I1} : anP (faP T sz Nm k) T sz false a = (false, a, [], false) := by
  rw [anP, boP, fa_0, tl_bad (r := (false, a, [], false)) Bool.false_ne_true, tl_bad (r := (false, a, [], false)) Bool.false_ne_true]
theorem nu_00 {T : I1} {sz a : Nat} : nuP T sz false a = (false, a, nI 0) := nu_0 (fun z => absurd (dg_of z).1 Bool.false_ne_true)
theorem bg_c {T : I1} {sz a : Nat} {c : Int32} (h : isA T sz true a c = true) : (c = nI 102 → lsP T sz true a mBeg 3 = nI 0) ∧ (c = nI 119 → lsP T sz true a mBeg 3 = nI 1) ∧ (c = nI 114 → lsP T sz true a mBeg 3 = nI 2) := by
  obtain ⟨-, h2, h3⟩ := isA_of h
  have hi : ∀ c : Int32, isA T sz true a c = true ↔ T a = c := fun c => ⟨fun z => (isA_of z).2.2, fun z => isA_t rfl h2 z⟩
  simp only [lsP, itr, hi, h3]
  refine ⟨?_, ?_, ?_⟩ <;> (rintro rfl; decide)
theorem bg_0 {T : I1} {sz a : Nat} (h1 : ¬ isA T sz true a (nI 102) = true) (h2 : ¬ isA T sz true a (nI 119) = true) (h3 : ¬ isA T sz true a (nI 114) = true) : lsP T sz true a mBeg 3 = -1 := by
  rw [lsP, itr, itr, itr, itr]
  rw [if_neg (show ¬ isA T sz true a (mBeg 2) = true from h3), if_neg (show ¬ isA T sz true a (mBeg 1) = true from h2), if_neg (show ¬ isA T sz true a (mBeg 0) = true from h1)]
theorem cl_r {T : I1} {sz a d : Nat} {Nm : I1} {S Rb : Int32} (h : isA T sz true a (nI 114) = true) : clP T sz Nm true a S Rb d = crP T sz a S d := by
  rw [clP, (bg_c h).2.2 rfl, if_neg (by decide), if_neg (by decide), if_neg (by decide)]
theorem cl_f {T : I1} {sz a d : Nat} {Nm : I1} {S Rb : Int32} (h : isA T sz true a (nI 102) = true) : clP T sz Nm true a S Rb d = csP T sz Nm wFirm true a S Rb := by
  rw [clP, (bg_c h).1 rfl, if_neg (by decide), if_pos rfl]
theorem cl_w {T : I1} {sz a d : Nat} {Nm : I1} {S Rb : Int32} (h : isA T sz true a (nI 119) = true) : clP T sz Nm true a S Rb d = csP T sz Nm wWeak false a S Rb := by
  rw [clP, (bg_c h).2.1 rfl, if_neg (by decide), if_neg (by decide), if_pos rfl]
theorem cl_0 {T : I1} {sz a d : Nat} {Nm : I1} {S Rb : Int32} (h1 : ¬ isA T sz true a (nI 102) = true) (h2 : ¬ isA T sz true a (nI 119) = true) (h3 : ¬ isA T sz true a (nI 114) = true) : clP T sz Nm true a S Rb d = (false, a, [], S, Rb, d) := by
  rw [clP, if_pos (bg_0 h1 h2 h3)]
theorem wd_r {T : I1} {sz a : Nat} (h : isA T sz true a (nI 114) = true) : wdP T sz wRub true a = wdP T sz wd0 true (a + 1) := by
  simp only [wRub, wd0, wdP, tk_t h]
theorem wd_f {T : I1} {sz a : Nat} (h : isA T sz true a (nI 102) = true) : wdP T sz wFirm true a = wdP T sz wd1 true (a + 1) := by
  simp only [wFirm, wd1, wdP, tk_t h]
theorem wd_w {T : I1} {sz a : Nat} (h : isA T sz true a (nI 119) = true) : wdP T sz wWeak true a = wdP T sz wd2 true (a + 1) := by
  simp only [wWeak, wd2, wdP, tk_t h]
/-- a rub clause, stage by stage -/
theorem cr_1 {T : I1} {sz a d : Nat} {S : Int32} (h : isA T sz true a (nI 114) = true) (h2 : ¬ (wdP T sz wd0 true (a + 1)).1 = true) : crP T sz a S d = (false, (wdP T sz wd0 true (a + 1)).2, [], S, nI 0, d) := by
  rw [crP, wd_r h]
  try dsimp only
  rw [(Bool.eq_false_iff (b := (wdP T sz wd0 true (a + 1)).1)).mpr h2, nu_00]
theorem cr_2 {T : I1} {sz a d : Nat} {S : Int32} (h : isA T sz true a (nI 114) = true) (h2 : (wdP T sz wd0 true (a + 1)).1 = true) : crP T sz a S d = ((nuP T sz true (wdP T sz wd0 true (a + 1)).2).1, (nuP T sz true (wdP T sz wd0 true (a + 1)).2).2.1, [], S, (nuP T sz true (wdP T sz wd0 true (a + 1)).2).2.2, d) := by
  rw [crP, wd_r h]
  try dsimp only
  rw [h2]
section CSP
variable {T : I1} {sz a p q : Nat} {Nm : I1} {S Rb v : Int32} {ws : List Int32} {firm : Bool}
theorem cs_1 (h : wdP T sz ws true a = (false, p)) : (csP T sz Nm ws firm a S Rb).1 = false ∧ (csP T sz Nm ws firm a S Rb).2.1 = p := by
  rw [csP, h]
  dsimp only
  rw [nu_00]
  dsimp only
  rw [tk_0]
  dsimp only
  rw [an_0]
  exact ⟨rfl, rfl⟩
theorem cs_2 (h : wdP T sz ws true a = (true, p)) (h2 : ¬ (nuP T sz true p).1 = true) : (csP T sz Nm ws firm a S Rb).1 = false ∧ (csP T sz Nm ws firm a S Rb).2.1 = (nuP T sz true p).2.1 := by
  rw [csP, h]
  dsimp only
  rw [(Bool.eq_false_iff (b := (nuP T sz true p).1)).mpr h2, tk_0]
  dsimp only
  rw [an_0]
  exact ⟨rfl, rfl⟩
theorem cs_3 (h : wdP T sz ws true a = (true, p)) (h2 : (nuP T sz true p).1 = true) (h3 : ¬ isA T sz true (nuP T sz true p).2.1 (nI 32) = true) : (csP T sz Nm ws firm a S Rb).1 = false ∧ (csP T sz Nm ws firm a S Rb).2.1 = (nuP T sz true p).2.1 := by
  rw [csP, h]
  dsimp only
  rw [h2, tk_f h3]
  dsimp only
  rw [an_0]
  exact ⟨rfl, rfl⟩
theorem cs_4 (h : wdP T sz ws true a = (true, p)) (h2 : (nuP T sz true p).1 = true) (h3 : isA T sz true (nuP T sz true p).2.1 (nI 32) = true) : (csP T sz Nm ws firm a S Rb).1 = (anP (faP T sz Nm 4) T sz true ((nuP T sz true p).2.1 + 1)).1 ∧ (csP T sz Nm ws firm a S Rb).2.1 = (anP (faP T sz Nm 4) T sz true ((nuP T sz true p).2.1 + 1)).2.1 ∧ (csP T sz Nm ws firm a S Rb).2.2.1 = (anP (faP T sz Nm 4) T sz true ((nuP T sz true p).2.1 + 1)).2.2.1 ++ [(nI 21, if firm = true then (nuP T sz true p).2.2 else -(nuP T sz true p).2.2)] ∧ (csP T sz Nm ws firm a S Rb).2.2.2.2.1 = Rb := by
  rw [csP, h]
  dsimp only
  rw [h2, tk_t h3]
  exact ⟨rfl, rfl, rfl, rfl⟩
end CSP
theorem wd_ok {T : I1} {sz : Nat} : ∀ (cs : List Int32) (a : Nat), (wdP T sz cs false a).1 = false := by
  intro cs
  induction cs with
  | nil => intro a; rfl
  | cons c cs ih => intro a; rw [wdP, tk_0]; exact ih a
theorem cl_len {T : I1} {sz a d : Nat} {Nm : I1} {S Rb : Int32} (ha : a ≤ sz) (h : (clP T sz Nm true a S Rb d).1 = true) : a < (clP T sz Nm true a S Rb d).2.1 ∧ a + (clP T sz Nm true a S Rb d).2.2.1.length ≤ (clP T sz Nm true a S Rb d).2.1 := by
  have key : ∀ ws firm, (csP T sz Nm ws firm a S Rb).1 = true → a < (csP T sz Nm ws firm a S Rb).2.1 ∧ a + (csP T sz Nm ws firm a S Rb).2.2.1.length ≤ (csP T sz Nm ws firm a S Rb).2.1 := by
    intro ws firm h
    obtain ⟨p, e⟩ : ∃ p, wdP T sz ws true a = p := ⟨_, rfl⟩
    obtain ⟨b, p⟩ := p
    have h1 := wd_le (T := T) ws true a ha
    rw [e] at h1
    cases b with
    | false => rw [(cs_1 e).1] at h; exact absurd h Bool.false_ne_true
    | true =>
      by_cases h2 : (nuP T sz true p).1 = true
      · by_cases h3 : isA T sz true (nuP T sz true p).2.1 (nI 32) = true
        · obtain ⟨e1, e2, e3, -⟩ := cs_4 (Nm := Nm) (firm := firm) (S := S) (Rb := Rb) e h2 h3
          rw [e1] at h
          have h4 := an_len (T := T) (sz := sz) (fa_len (T := T) (sz := sz) (Nm := Nm) 4) _ h
          have h5 := nu_a h2
          rw [e2, e3, List.length_append, List.length_singleton]
          dsimp only at h1
          omega
        · rw [(cs_3 (Nm := Nm) (firm := firm) (S := S) (Rb := Rb) e h2 h3).1] at h; exact absurd h Bool.false_ne_true
      · rw [(cs_2 (Nm := Nm) (firm := firm) (S := S) (Rb := Rb) e h2).1] at h; exact absurd h Bool.false_ne_true
  unfold clP at h ⊢
  split at h
  · exact absurd h Bool.false_ne_true
  · next q1 =>
    rw [if_neg q1]
    split at h
    · next q2 => rw [if_pos q2]; exact key _ _ h
    · next q2 =>
      rw [if_neg q2]
      split at h
      · next q3 => rw [if_pos q3]; exact key _ _ h
      · next q3 =>
        rw [if_neg q3]
        unfold crP at h ⊢
        dsimp only at h ⊢
        have h1 := wd_le (T := T) wRub true a ha
        have h2 := nu_a h
        simp only [List.length_nil]
        omega
set_option maxHeartbeats 1000000 in
theorem c_isClause {l : Launch} {g : GG} {X : PHp} {h0 : HZ} {ct : CTt} {cl : I2} {T : I1} {sz a : Nat} {B : I2} {cy : Nat → Nat} {rw : RWt} {tl : TLt} {sp : SPt} {c kc d0 : Nat} {Nm : I1} {S Rb : Int32} (hc : c < 7) (hsz : sz ≤ 100) (ha : a ≤ sz) (hT : ∀ j, j < sz → ∃ c, c < 128 ∧ T j = nI c) (hka : kc ≤ a) (hk : ct.2.2.1 c = nI kc) (hRb : ct.2.2.2 c = Rb) : Ct l g yX2_isClause cX2_isClause 4 (some .boolean) 21 0 0 [rf g (4, 0, 0), rf g (2, c, 0)] NN (jn (hC g h0 ct cl (T, nI sz, nI a) B cy rw tl sp) X) (xI (fun z : CTt => ClO ct z c kc (clP T sz Nm true a S Rb d0)) (fun _ => b2i ((clP T sz Nm true a S Rb d0).1 = true)) (fun z => (jn (hC g h0 z cl (T, nI sz, nI (clP T sz Nm true a S Rb d0).2.1) B cy rw tl sp) X))) := by
  refine Ct.of (lv := [some (rf g (4, 0, 0)), some (rf g (2, c, 0)), none, none]) (by decide +kernel) rfl (Nat.le_of_ble_eq_true rfl) ?_
  intro Γ C
  refine V.aload_n (q := 1) C dX2_isClause_0 rfl rfl ?_
  refine V.bipush (q := 3) (v := nI 114) C dX2_isClause_1 rfl (by decide) ?_
  refine V.callVi (q := 6) C me_X2_isSign (c_isSign (by omega) (by omega)) ml_X2_27 dX2_isClause_3 rfl okC_4 ⟨_, rfl⟩ rfl rfl (Nat.le_of_ble_eq_true rfl) (by omega) (Nat.zero_le _) (Nat.zero_le _) ?_
  refine V.if_eqB (q := 9) (tgt := 40) C dX2_isClause_6 rfl rfl (fun hb6 => ?_) (fun hb6 => ?_)
  · rw [tk_f2 hb6]
    refine V.aload_n (q := 41) C dX2_isClause_40 rfl rfl ?_
    refine V.bipush (q := 43) (v := nI 102) C dX2_isClause_41 rfl (by decide) ?_
    refine V.callVi (q := 46) C me_X2_isSign (c_isSign (by omega) (by omega)) ml_X2_27 dX2_isClause_43 rfl okC_4 ⟨_, rfl⟩ rfl rfl (Nat.le_of_ble_eq_true rfl) (by omega) (Nat.zero_le _) (Nat.zero_le _) ?_
    refine V.istore_n (q := 47) C dX2_isClause_46 rfl (by decide) rfl rfl ?_
    refine V.iload_n (q := 48) C dX2_isClause_47 rfl rfl ?_
    refine V.if_neB (q := 51) (tgt := 62) C dX2_isClause_48 rfl rfl (fun hb48 => ?_) (fun hb48 => ?_)
    · rw [tk_t2 hb48]
      have h6 := (isA_of hb48).2.1
      refine V.aload_n (q := 63) C dX2_isClause_62 rfl rfl ?_
      refine V.iload_n (q := 64) C dX2_isClause_63 rfl rfl ?_
      refine V.if_eqB (q := 67) (tgt := 72) C dX2_isClause_64 rfl rfl (fun hb64 => ?_) (fun hb64 => ?_)
      · exact absurd hb48 hb64
      · refine V.ldcS (q := 69) (i := 1) C (by decide) dX2_isClause_67 rfl ?_
        refine V.goto (tgt := 74) C dX2_isClause_69 rfl ?_
        refine V.callVi (q := 77) C me_X2_isWord (c_isWord_1 (by omega) (by omega)) ml_X2_37 dX2_isClause_74 rfl okC_4 ⟨_, rfl⟩ rfl rfl (Nat.le_of_ble_eq_true rfl) (by omega) (Nat.zero_le _) (Nat.zero_le _) ?_
        have hwle := wd_le (T := T) (sz := sz) wd1 true (a + 1) (by omega)
        refine V.if_eqB (q := 80) (tgt := 87) C dX2_isClause_77 rfl rfl (fun hb77 => ?_) (fun hb77 => ?_)
        · refine V.iconst (q := 88) (v := -1) C dX2_isClause_87 rfl (by decide) ?_
          refine V.istore_n (q := 89) C dX2_isClause_88 rfl (by decide) rfl rfl ?_
          refine V.iload_n (q := 90) C dX2_isClause_89 rfl rfl ?_
          refine V.if_lt (q := 93) (tgt := 111) C dX2_isClause_90 rfl rfl (fun hb90 => ?_) (fun hb90 => ?_)
          · refine V.iconst (q := 112) (v := nI 0) C dX2_isClause_111 rfl (by decide) ?_
            exact V.zreturn C dX2_isClause_112 rfl (by have e0 := cl_f (Nm := Nm) (S := S) (Rb := Rb) (d := d0) hb48; have e1 := wd_f hb48; have e2 := cs_1 (Nm := Nm) (firm := true) (S := S) (Rb := Rb) (p := (wdP T sz wd1 true (a + 1)).2) (e1.trans (Prod.ext ((Bool.eq_false_iff (b := (wdP T sz wd1 true (a + 1)).1)).mpr hb77) rfl)); rw [← e0] at e2; exact ⟨ct, ⟨OtC.rf, fun q => absurd ((e2.1).symm.trans q) Bool.false_ne_true⟩, congrArg (fun x => some (Value.int x)) (b2i_f (fun q => absurd ((e2.1).symm.trans q) Bool.false_ne_true)).symm, by rw [e2.2], rfl⟩)
          · exact absurd (by decide) hb90
        · refine V.aload_n (q := 81) C dX2_isClause_80 rfl rfl ?_
          refine V.callVi (q := 84) C me_X2_number (c_number (by omega) (by omega) hT) ml_X2_41 dX2_isClause_81 rfl okC_4 ⟨_, rfl⟩ rfl rfl (Nat.le_of_ble_eq_true rfl) (by omega) (Nat.zero_le _) (Nat.zero_le _) ?_
          refine V.goto (tgt := 88) C dX2_isClause_84 rfl ?_
          by_cases hn : (nuP T sz true (wdP T sz wd1 true (a + 1)).2).1 = true
          · obtain ⟨v, hv, ev⟩ := nu_v hT hn
            rw [show nuV (nuP T sz true (wdP T sz wd1 true (a + 1)).2) = nI v from by rw [nuV, if_pos hn, ev]]
            have h9 := nu_le (T := T) (sz := sz) (w := true) (a := (wdP T sz wd1 true (a + 1)).2) hwle.2
            refine V.istore_n (q := 89) C dX2_isClause_88 rfl (by decide) rfl rfl ?_
            refine V.iload_n (q := 90) C dX2_isClause_89 rfl rfl ?_
            refine V.if_lt (q := 93) (tgt := 111) C dX2_isClause_90 rfl rfl (fun hb90 => ?_) (fun hb90 => ?_)
            · exact absurd hb90 (nI_pos (by omega))
            · refine V.aload_n (q := 94) C dX2_isClause_93 rfl rfl ?_
              refine V.bipush (q := 96) (v := nI 32) C dX2_isClause_94 rfl (by decide) ?_
              refine V.callVi (q := 99) C me_X2_isSign (c_isSign (by omega) (by omega)) ml_X2_27 dX2_isClause_96 rfl okC_4 ⟨_, rfl⟩ rfl rfl (Nat.le_of_ble_eq_true rfl) (by omega) (Nat.zero_le _) (Nat.zero_le _) ?_
              refine V.if_eqB (q := 102) (tgt := 111) C dX2_isClause_99 rfl rfl (fun hb99 => ?_) (fun hb99 => ?_)
              · rw [tk_f2 hb99]
                refine V.iconst (q := 112) (v := nI 0) C dX2_isClause_111 rfl (by decide) ?_
                exact V.zreturn C dX2_isClause_112 rfl (by have e0 := cl_f (Nm := Nm) (S := S) (Rb := Rb) (d := d0) hb48; have e1 := wd_f hb48; have e2 := cs_3 (Nm := Nm) (firm := true) (S := S) (Rb := Rb) (p := (wdP T sz wd1 true (a + 1)).2) (e1.trans (Prod.ext hb77 rfl)) hn hb99; rw [← e0] at e2; exact ⟨ct, ⟨OtC.rf, fun q => absurd ((e2.1).symm.trans q) Bool.false_ne_true⟩, congrArg (fun x => some (Value.int x)) (b2i_f (fun q => absurd ((e2.1).symm.trans q) Bool.false_ne_true)).symm, by rw [e2.2], rfl⟩)
              · rw [tk_t2 hb99]
                have h99 := (isA_of hb99).2.1
                refine V.aload_n (q := 103) C dX2_isClause_102 rfl rfl ?_
                refine V.aload_n (q := 104) C dX2_isClause_103 rfl rfl ?_
                refine V.iconst (q := 105) (v := nI 0) C dX2_isClause_104 rfl (by decide) ?_
                refine V.callVxi (q := 108) C me_X2_isEither (c_eith (Nm := Nm) hc hsz hT (ct := ct) (a := (nuP T sz true (wdP T sz wd1 true (a + 1)).2).2.1 + 1) (kc := kc) (by omega) (by omega) hk) ml_X2_52 dX2_isClause_105 rfl okC_4 ⟨_, rfl⟩ rfl rfl (Nat.le_of_ble_eq_true rfl) (by omega) (Nat.zero_le _) (Nat.zero_le _) (fun z1 hz1 => ?_)
                refine V.if_neB (q := 111) (tgt := 113) C dX2_isClause_108 rfl rfl (fun hb108 => ?_) (fun hb108 => ?_)
                · have h8 := an_in (T := T) (sz := sz) (fa_in (T := T) (sz := sz) (Nm := Nm) 4) true ((nuP T sz true (wdP T sz wd1 true (a + 1)).2).2.1 + 1) (by omega)
                  have hl := an_len (T := T) (sz := sz) (fa_len (T := T) (sz := sz) (Nm := Nm) 4) _ hb108
                  refine V.aload_n (q := 114) C dX2_isClause_113 rfl rfl ?_
                  refine V.bipush (q := 116) (v := nI 21) C dX2_isClause_114 rfl (by decide) ?_
                  refine V.iload_n (q := 117) C dX2_isClause_116 rfl rfl ?_
                  refine V.if_eqB (q := 120) (tgt := 124) C dX2_isClause_117 rfl rfl (fun hb117 => ?_) (fun hb117 => ?_)
                  · exact absurd hb48 hb117
                  · refine V.iload_n (q := 121) C dX2_isClause_120 rfl rfl ?_
                    refine V.goto (tgt := 126) C dX2_isClause_121 rfl ?_
                    refine V.callVv (q := 129) C me_X0_put ((c_put (k := kc + (anP (faP T sz Nm 4) T sz true ((nuP T sz true (wdP T sz wd1 true (a + 1)).2).2.1 + 1)).2.2.1.length)) hc (hz1.2 hb108).cnt (by omega)) ml_X2_56 dX2_isClause_126 rfl (okC_2 (by omega)) ⟨_, rfl⟩ rfl rfl (Nat.le_of_ble_eq_true rfl) (by omega) (Nat.zero_le _) (Nat.zero_le _) ?_
                    refine V.iconst (q := 130) (v := nI 1) C dX2_isClause_129 rfl (by decide) ?_
                    exact V.zreturn C dX2_isClause_130 rfl (by have e0 := cl_f (Nm := Nm) (S := S) (Rb := Rb) (d := d0) hb48; have e1 := wd_f hb48; have e2 := cs_4 (Nm := Nm) (firm := true) (S := S) (Rb := Rb) (p := (wdP T sz wd1 true (a + 1)).2) (e1.trans (Prod.ext hb77 rfl)) hn hb99; rw [← e0, ev] at e2; have hA := (hz1.2 hb108).ap (a := nI 21) (b := nI v); exact ⟨psh z1 c (kc + (anP (faP T sz Nm 4) T sz true ((nuP T sz true (wdP T sz wd1 true (a + 1)).2).2.1 + 1)).2.2.1.length) (nI 21) (nI v), ⟨hA.1, fun _ => ⟨by rw [e2.2.2.1]; exact hA.K, by rw [e2.2.2.2, hA.2.1, hRb]⟩⟩, congrArg (fun x => some (Value.int x)) (b2i_t (e2.1.trans hb108)).symm, by rw [e2.2.1], rfl⟩)
                · refine V.iconst (q := 112) (v := nI 0) C dX2_isClause_111 rfl (by decide) ?_
                  exact V.zreturn C dX2_isClause_112 rfl (by have e0 := cl_f (Nm := Nm) (S := S) (Rb := Rb) (d := d0) hb48; have e1 := wd_f hb48; have e2 := cs_4 (Nm := Nm) (firm := true) (S := S) (Rb := Rb) (p := (wdP T sz wd1 true (a + 1)).2) (e1.trans (Prod.ext hb77 rfl)) hn hb99; rw [← e0] at e2; exact ⟨z1, ⟨hz1.1, fun q => absurd (e2.1.symm.trans q) hb108⟩, congrArg (fun x => some (Value.int x)) (b2i_f (fun q => absurd (e2.1.symm.trans q) hb108)).symm, by rw [e2.2.1], rfl⟩)
          · rw [show nuV (nuP T sz true (wdP T sz wd1 true (a + 1)).2) = -1 from if_neg hn]
            refine V.istore_n (q := 89) C dX2_isClause_88 rfl (by decide) rfl rfl ?_
            refine V.iload_n (q := 90) C dX2_isClause_89 rfl rfl ?_
            refine V.if_lt (q := 93) (tgt := 111) C dX2_isClause_90 rfl rfl (fun hb90 => ?_) (fun hb90 => ?_)
            · refine V.iconst (q := 112) (v := nI 0) C dX2_isClause_111 rfl (by decide) ?_
              exact V.zreturn C dX2_isClause_112 rfl (by have e0 := cl_f (Nm := Nm) (S := S) (Rb := Rb) (d := d0) hb48; have e1 := wd_f hb48; have e2 := cs_2 (Nm := Nm) (firm := true) (S := S) (Rb := Rb) (p := (wdP T sz wd1 true (a + 1)).2) (e1.trans (Prod.ext hb77 rfl)) hn; rw [← e0] at e2; exact ⟨ct, ⟨OtC.rf, fun q => absurd ((e2.1).symm.trans q) Bool.false_ne_true⟩, congrArg (fun x => some (Value.int x)) (b2i_f (fun q => absurd ((e2.1).symm.trans q) Bool.false_ne_true)).symm, by rw [e2.2], rfl⟩)
            · exact absurd (by decide) hb90
    · rw [tk_f2 hb48]
      refine V.aload_n (q := 52) C dX2_isClause_51 rfl rfl ?_
      refine V.bipush (q := 54) (v := nI 119) C dX2_isClause_52 rfl (by decide) ?_
      refine V.callVi (q := 57) C me_X2_isSign (c_isSign (by omega) (by omega)) ml_X2_27 dX2_isClause_54 rfl okC_4 ⟨_, rfl⟩ rfl rfl (Nat.le_of_ble_eq_true rfl) (by omega) (Nat.zero_le _) (Nat.zero_le _) ?_
      refine V.if_neB (q := 60) (tgt := 62) C dX2_isClause_57 rfl rfl (fun hb57 => ?_) (fun hb57 => ?_)
      · rw [tk_t2 hb57]
        have h6 := (isA_of hb57).2.1
        refine V.aload_n (q := 63) C dX2_isClause_62 rfl rfl ?_
        refine V.iload_n (q := 64) C dX2_isClause_63 rfl rfl ?_
        refine V.if_eqB (q := 67) (tgt := 72) C dX2_isClause_64 rfl rfl (fun hb64 => ?_) (fun hb64 => ?_)
        · refine V.ldcS (q := 74) (i := 2) C (by decide) dX2_isClause_72 rfl ?_
          refine V.callVi (q := 77) C me_X2_isWord (c_isWord_2 (by omega) (by omega)) ml_X2_37 dX2_isClause_74 rfl okC_4 ⟨_, rfl⟩ rfl rfl (Nat.le_of_ble_eq_true rfl) (by omega) (Nat.zero_le _) (Nat.zero_le _) ?_
          have hwle := wd_le (T := T) (sz := sz) wd2 true (a + 1) (by omega)
          refine V.if_eqB (q := 80) (tgt := 87) C dX2_isClause_77 rfl rfl (fun hb77 => ?_) (fun hb77 => ?_)
          · refine V.iconst (q := 88) (v := -1) C dX2_isClause_87 rfl (by decide) ?_
            refine V.istore_n (q := 89) C dX2_isClause_88 rfl (by decide) rfl rfl ?_
            refine V.iload_n (q := 90) C dX2_isClause_89 rfl rfl ?_
            refine V.if_lt (q := 93) (tgt := 111) C dX2_isClause_90 rfl rfl (fun hb90 => ?_) (fun hb90 => ?_)
            · refine V.iconst (q := 112) (v := nI 0) C dX2_isClause_111 rfl (by decide) ?_
              exact V.zreturn C dX2_isClause_112 rfl (by have e0 := cl_w (Nm := Nm) (S := S) (Rb := Rb) (d := d0) hb57; have e1 := wd_w hb57; have e2 := cs_1 (Nm := Nm) (firm := false) (S := S) (Rb := Rb) (p := (wdP T sz wd2 true (a + 1)).2) (e1.trans (Prod.ext ((Bool.eq_false_iff (b := (wdP T sz wd2 true (a + 1)).1)).mpr hb77) rfl)); rw [← e0] at e2; exact ⟨ct, ⟨OtC.rf, fun q => absurd ((e2.1).symm.trans q) Bool.false_ne_true⟩, congrArg (fun x => some (Value.int x)) (b2i_f (fun q => absurd ((e2.1).symm.trans q) Bool.false_ne_true)).symm, by rw [e2.2], rfl⟩)
            · exact absurd (by decide) hb90
          · refine V.aload_n (q := 81) C dX2_isClause_80 rfl rfl ?_
            refine V.callVi (q := 84) C me_X2_number (c_number (by omega) (by omega) hT) ml_X2_41 dX2_isClause_81 rfl okC_4 ⟨_, rfl⟩ rfl rfl (Nat.le_of_ble_eq_true rfl) (by omega) (Nat.zero_le _) (Nat.zero_le _) ?_
            refine V.goto (tgt := 88) C dX2_isClause_84 rfl ?_
            by_cases hn : (nuP T sz true (wdP T sz wd2 true (a + 1)).2).1 = true
            · obtain ⟨v, hv, ev⟩ := nu_v hT hn
              rw [show nuV (nuP T sz true (wdP T sz wd2 true (a + 1)).2) = nI v from by rw [nuV, if_pos hn, ev]]
              have h9 := nu_le (T := T) (sz := sz) (w := true) (a := (wdP T sz wd2 true (a + 1)).2) hwle.2
              refine V.istore_n (q := 89) C dX2_isClause_88 rfl (by decide) rfl rfl ?_
              refine V.iload_n (q := 90) C dX2_isClause_89 rfl rfl ?_
              refine V.if_lt (q := 93) (tgt := 111) C dX2_isClause_90 rfl rfl (fun hb90 => ?_) (fun hb90 => ?_)
              · exact absurd hb90 (nI_pos (by omega))
              · refine V.aload_n (q := 94) C dX2_isClause_93 rfl rfl ?_
                refine V.bipush (q := 96) (v := nI 32) C dX2_isClause_94 rfl (by decide) ?_
                refine V.callVi (q := 99) C me_X2_isSign (c_isSign (by omega) (by omega)) ml_X2_27 dX2_isClause_96 rfl okC_4 ⟨_, rfl⟩ rfl rfl (Nat.le_of_ble_eq_true rfl) (by omega) (Nat.zero_le _) (Nat.zero_le _) ?_
                refine V.if_eqB (q := 102) (tgt := 111) C dX2_isClause_99 rfl rfl (fun hb99 => ?_) (fun hb99 => ?_)
                · rw [tk_f2 hb99]
                  refine V.iconst (q := 112) (v := nI 0) C dX2_isClause_111 rfl (by decide) ?_
                  exact V.zreturn C dX2_isClause_112 rfl (by have e0 := cl_w (Nm := Nm) (S := S) (Rb := Rb) (d := d0) hb57; have e1 := wd_w hb57; have e2 := cs_3 (Nm := Nm) (firm := false) (S := S) (Rb := Rb) (p := (wdP T sz wd2 true (a + 1)).2) (e1.trans (Prod.ext hb77 rfl)) hn hb99; rw [← e0] at e2; exact ⟨ct, ⟨OtC.rf, fun q => absurd ((e2.1).symm.trans q) Bool.false_ne_true⟩, congrArg (fun x => some (Value.int x)) (b2i_f (fun q => absurd ((e2.1).symm.trans q) Bool.false_ne_true)).symm, by rw [e2.2], rfl⟩)
                · rw [tk_t2 hb99]
                  have h99 := (isA_of hb99).2.1
                  refine V.aload_n (q := 103) C dX2_isClause_102 rfl rfl ?_
                  refine V.aload_n (q := 104) C dX2_isClause_103 rfl rfl ?_
                  refine V.iconst (q := 105) (v := nI 0) C dX2_isClause_104 rfl (by decide) ?_
                  refine V.callVxi (q := 108) C me_X2_isEither (c_eith (Nm := Nm) hc hsz hT (ct := ct) (a := (nuP T sz true (wdP T sz wd2 true (a + 1)).2).2.1 + 1) (kc := kc) (by omega) (by omega) hk) ml_X2_52 dX2_isClause_105 rfl okC_4 ⟨_, rfl⟩ rfl rfl (Nat.le_of_ble_eq_true rfl) (by omega) (Nat.zero_le _) (Nat.zero_le _) (fun z1 hz1 => ?_)
                  refine V.if_neB (q := 111) (tgt := 113) C dX2_isClause_108 rfl rfl (fun hb108 => ?_) (fun hb108 => ?_)
                  · have h8 := an_in (T := T) (sz := sz) (fa_in (T := T) (sz := sz) (Nm := Nm) 4) true ((nuP T sz true (wdP T sz wd2 true (a + 1)).2).2.1 + 1) (by omega)
                    have hl := an_len (T := T) (sz := sz) (fa_len (T := T) (sz := sz) (Nm := Nm) 4) _ hb108
                    refine V.aload_n (q := 114) C dX2_isClause_113 rfl rfl ?_
                    refine V.bipush (q := 116) (v := nI 21) C dX2_isClause_114 rfl (by decide) ?_
                    refine V.iload_n (q := 117) C dX2_isClause_116 rfl rfl ?_
                    refine V.if_eqB (q := 120) (tgt := 124) C dX2_isClause_117 rfl rfl (fun hb117 => ?_) (fun hb117 => ?_)
                    · refine V.iload_n (q := 125) C dX2_isClause_124 rfl rfl ?_
                      refine V.ineg (q := 126) C dX2_isClause_125 rfl ?_
                      refine V.callVv (q := 129) C me_X0_put ((c_put (k := kc + (anP (faP T sz Nm 4) T sz true ((nuP T sz true (wdP T sz wd2 true (a + 1)).2).2.1 + 1)).2.2.1.length)) hc (hz1.2 hb108).cnt (by omega)) ml_X2_56 dX2_isClause_126 rfl (okC_2 (by omega)) ⟨_, rfl⟩ rfl rfl (Nat.le_of_ble_eq_true rfl) (by omega) (Nat.zero_le _) (Nat.zero_le _) ?_
                      refine V.iconst (q := 130) (v := nI 1) C dX2_isClause_129 rfl (by decide) ?_
                      exact V.zreturn C dX2_isClause_130 rfl (by have e0 := cl_w (Nm := Nm) (S := S) (Rb := Rb) (d := d0) hb57; have e1 := wd_w hb57; have e2 := cs_4 (Nm := Nm) (firm := false) (S := S) (Rb := Rb) (p := (wdP T sz wd2 true (a + 1)).2) (e1.trans (Prod.ext hb77 rfl)) hn hb99; rw [← e0, ev] at e2; have hA := (hz1.2 hb108).ap (a := nI 21) (b := -nI v); exact ⟨psh z1 c (kc + (anP (faP T sz Nm 4) T sz true ((nuP T sz true (wdP T sz wd2 true (a + 1)).2).2.1 + 1)).2.2.1.length) (nI 21) (-nI v), ⟨hA.1, fun _ => ⟨by rw [e2.2.2.1]; exact hA.K, by rw [e2.2.2.2, hA.2.1, hRb]⟩⟩, congrArg (fun x => some (Value.int x)) (b2i_t (e2.1.trans hb108)).symm, by rw [e2.2.1], rfl⟩)
                    · exact absurd hb117 hb48
                  · refine V.iconst (q := 112) (v := nI 0) C dX2_isClause_111 rfl (by decide) ?_
                    exact V.zreturn C dX2_isClause_112 rfl (by have e0 := cl_w (Nm := Nm) (S := S) (Rb := Rb) (d := d0) hb57; have e1 := wd_w hb57; have e2 := cs_4 (Nm := Nm) (firm := false) (S := S) (Rb := Rb) (p := (wdP T sz wd2 true (a + 1)).2) (e1.trans (Prod.ext hb77 rfl)) hn hb99; rw [← e0] at e2; exact ⟨z1, ⟨hz1.1, fun q => absurd (e2.1.symm.trans q) hb108⟩, congrArg (fun x => some (Value.int x)) (b2i_f (fun q => absurd (e2.1.symm.trans q) hb108)).symm, by rw [e2.2.1], rfl⟩)
            · rw [show nuV (nuP T sz true (wdP T sz wd2 true (a + 1)).2) = -1 from if_neg hn]
              refine V.istore_n (q := 89) C dX2_isClause_88 rfl (by decide) rfl rfl ?_
              refine V.iload_n (q := 90) C dX2_isClause_89 rfl rfl ?_
              refine V.if_lt (q := 93) (tgt := 111) C dX2_isClause_90 rfl rfl (fun hb90 => ?_) (fun hb90 => ?_)
              · refine V.iconst (q := 112) (v := nI 0) C dX2_isClause_111 rfl (by decide) ?_
                exact V.zreturn C dX2_isClause_112 rfl (by have e0 := cl_w (Nm := Nm) (S := S) (Rb := Rb) (d := d0) hb57; have e1 := wd_w hb57; have e2 := cs_2 (Nm := Nm) (firm := false) (S := S) (Rb := Rb) (p := (wdP T sz wd2 true (a + 1)).2) (e1.trans (Prod.ext hb77 rfl)) hn; rw [← e0] at e2; exact ⟨ct, ⟨OtC.rf, fun q => absurd ((e2.1).symm.trans q) Bool.false_ne_true⟩, congrArg (fun x => some (Value.int x)) (b2i_f (fun q => absurd ((e2.1).symm.trans q) Bool.false_ne_true)).symm, by rw [e2.2], rfl⟩)
              · exact absurd (by decide) hb90
        · exact absurd hb64 hb48
      · rw [tk_f2 hb57]
        refine V.iconst (q := 61) (v := nI 0) C dX2_isClause_60 rfl (by decide) ?_
        exact V.zreturn C dX2_isClause_61 rfl (by have e0 := cl_0 (Nm := Nm) (S := S) (Rb := Rb) (d := d0) hb48 hb57 hb6; exact ⟨ct, ⟨OtC.rf, fun q => absurd (by rw [e0] at q; exact q) Bool.false_ne_true⟩, by rw [e0]; rfl, by rw [e0], rfl⟩)
  · rw [tk_t2 hb6]
    have h6 := (isA_of hb6).2.1
    refine V.aload_n (q := 10) C dX2_isClause_9 rfl rfl ?_
    refine V.ldcS (q := 12) (i := 0) C (by decide) dX2_isClause_10 rfl ?_
    refine V.callVi (q := 15) C me_X2_isWord (c_isWord_0 (by omega) (by omega)) ml_X2_37 dX2_isClause_12 rfl okC_4 ⟨_, rfl⟩ rfl rfl (Nat.le_of_ble_eq_true rfl) (by omega) (Nat.zero_le _) (Nat.zero_le _) ?_
    have hwle := wd_le (T := T) (sz := sz) wd0 true (a + 1) (by omega)
    refine V.if_eqB (q := 18) (tgt := 25) C dX2_isClause_15 rfl rfl (fun hb15 => ?_) (fun hb15 => ?_)
    · refine V.iconst (q := 26) (v := -1) C dX2_isClause_25 rfl (by decide) ?_
      refine V.istore_n (q := 27) C dX2_isClause_26 rfl (by decide) rfl rfl ?_
      refine V.iload_n (q := 28) C dX2_isClause_27 rfl rfl ?_
      refine V.if_ge (q := 31) (tgt := 33) C dX2_isClause_28 rfl rfl (fun hb28 => ?_) (fun hb28 => ?_)
      · exact absurd hb28 (by decide)
      · refine V.iconst (q := 32) (v := nI 0) C dX2_isClause_31 rfl (by decide) ?_
        exact V.zreturn C dX2_isClause_32 rfl (by have e0 := (cl_r (Nm := Nm) (S := S) (Rb := Rb) (d := d0) hb6).trans (cr_1 hb6 hb15); exact ⟨ct, ⟨OtC.rf, fun q => absurd (by rw [e0] at q; exact q) Bool.false_ne_true⟩, by rw [e0]; rfl, by rw [e0], rfl⟩)
    · refine V.aload_n (q := 19) C dX2_isClause_18 rfl rfl ?_
      refine V.callVi (q := 22) C me_X2_number (c_number (by omega) (by omega) hT) ml_X2_41 dX2_isClause_19 rfl okC_4 ⟨_, rfl⟩ rfl rfl (Nat.le_of_ble_eq_true rfl) (by omega) (Nat.zero_le _) (Nat.zero_le _) ?_
      refine V.goto (tgt := 26) C dX2_isClause_22 rfl ?_
      by_cases hn : (nuP T sz true (wdP T sz wd0 true (a + 1)).2).1 = true
      · obtain ⟨v, hv, ev⟩ := nu_v hT hn
        rw [show nuV (nuP T sz true (wdP T sz wd0 true (a + 1)).2) = nI v from by rw [nuV, if_pos hn, ev]]
        refine V.istore_n (q := 27) C dX2_isClause_26 rfl (by decide) rfl rfl ?_
        refine V.iload_n (q := 28) C dX2_isClause_27 rfl rfl ?_
        refine V.if_ge (q := 31) (tgt := 33) C dX2_isClause_28 rfl rfl (fun hb28 => ?_) (fun hb28 => ?_)
        · refine V.aload_n (q := 34) C dX2_isClause_33 rfl rfl ?_
          refine V.iload_n (q := 35) C dX2_isClause_34 rfl rfl ?_
          refine V.put (q := 38) C fl_X2_45 rfl dX2_isClause_35 rfl (okC_2 (by omega)) rfl (Nat.le_of_ble_eq_true rfl) rfl rfl rfl ?_
          refine V.phE (uC_2_4) ?_
          try dsimp only
          refine V.iconst (q := 39) (v := nI 1) C dX2_isClause_38 rfl (by decide) ?_
          exact V.zreturn C dX2_isClause_39 rfl (by have e0 := (cl_r (Nm := Nm) (S := S) (Rb := Rb) (d := d0) hb6).trans (cr_2 hb6 hb15); exact ⟨(ct.1, ct.2.1, ct.2.2.1, va_up ct.2.2.2 c (nI v)), by rw [e0, ev]; exact ⟨fun c1 q => ⟨rfl, rfl, rfl, va_up_ne _ _ q⟩, fun _ => ⟨⟨fun c1 q => ⟨rfl, rfl, rfl, va_up_ne _ _ q⟩, hk, fun _ _ => ⟨rfl, rfl⟩, fun j p q => by simp at q⟩, va_up_self _ _ _⟩⟩, by rw [e0]; exact congrArg (fun x => some (Value.int x)) (b2i_t hn).symm, by rw [e0] <;> rfl, rfl⟩)
        · exact absurd (nI_pos' (by omega)) hb28
      · rw [show nuV (nuP T sz true (wdP T sz wd0 true (a + 1)).2) = -1 from if_neg hn]
        refine V.istore_n (q := 27) C dX2_isClause_26 rfl (by decide) rfl rfl ?_
        refine V.iload_n (q := 28) C dX2_isClause_27 rfl rfl ?_
        refine V.if_ge (q := 31) (tgt := 33) C dX2_isClause_28 rfl rfl (fun hb28 => ?_) (fun hb28 => ?_)
        · exact absurd hb28 (by decide)
        · refine V.iconst (q := 32) (v := nI 0) C dX2_isClause_31 rfl (by decide) ?_
          exact V.zreturn C dX2_isClause_32 rfl (by have e0 := (cl_r (Nm := Nm) (S := S) (Rb := Rb) (d := d0) hb6).trans (cr_2 hb6 hb15); exact ⟨ct, ⟨OtC.rf, fun q => absurd (by rw [e0] at q; exact q) hn⟩, by rw [e0]; exact congrArg (fun x => some (Value.int x)) (b2i_f hn).symm, by rw [e0], rfl⟩)
theorem ct_bad {T : I1} {sz : Nat} {Nm : I1} {f : Nat} {r : CR} (h : ¬ r.1 = true) : ctP T sz Nm f r = r := by
  cases f with
  | zero => rfl
  | succ f => rw [ctP, if_neg (isA_f (Or.inl h))]
theorem ct_stop {T : I1} {sz : Nat} {Nm : I1} {f : Nat} {r : CR} (h : r.1 = true) (h2 : ¬ isA T sz true r.2.1 (nI 59) = true) : ctP T sz Nm f r = r := by
  cases f with
  | zero => rfl
  | succ f => rw [ctP, h, if_neg h2]
def nxC (T : I1) (sz : Nat) (Nm : I1) (r : CR) : CR := ((clP T sz Nm true (r.2.1 + 1) r.2.2.2.1 r.2.2.2.2.1 r.2.2.2.2.2).1, (clP T sz Nm true (r.2.1 + 1) r.2.2.2.1 r.2.2.2.2.1 r.2.2.2.2.2).2.1, r.2.2.1 ++ (clP T sz Nm true (r.2.1 + 1) r.2.2.2.1 r.2.2.2.2.1 r.2.2.2.2.2).2.2.1, (clP T sz Nm true (r.2.1 + 1) r.2.2.2.1 r.2.2.2.2.1 r.2.2.2.2.2).2.2.2)
theorem ct_go {T : I1} {sz : Nat} {Nm : I1} {f : Nat} {r : CR} (h : r.1 = true) (h2 : isA T sz true r.2.1 (nI 59) = true) : ctP T sz Nm (f + 1) r = ctP T sz Nm f (nxC T sz Nm r) := by
  rw [ctP, h, if_pos h2]
  rfl
/-- what makes does to city c -/
def MkO (ct z : CTt) (c sz : Nat) (r : CR) : Prop := OtC ct z c ∧ (okP r sz = true → z.2.2.1 c = nI r.2.2.1.length ∧ (∀ j p, r.2.2.1[j]? = some p → z.1 c j = p.1 ∧ z.2.1 c j = p.2) ∧ z.2.2.2 c = r.2.2.2.2.1)
theorem MkO.bad {ct z : CTt} {c sz : Nat} {r : CR} (h : OtC ct z c) (h2 : ¬ okP r sz = true) : MkO ct z c sz r := ⟨h, fun q => absurd q h2⟩
theorem MkO.good {ct z : CTt} {c sz : Nat} {r : CR} (h : ApK ct z c 0 r.2.2.1) (h2 : z.2.2.2 c = r.2.2.2.2.1) : MkO ct z c sz r := ⟨h.1, fun _ => ⟨by rw [h.2.1, Nat.zero_add], fun j p q => by have := h.2.2.2 j p q; rw [Nat.zero_add] at this; exact this, h2⟩⟩
theorem c_makes_l {l : Launch} {g : GG} {X : PHp} {ct : CTt} {h0 : HZ} {cl : I2} {T : I1} {sz : Nat} {B : I2} {cy : Nat → Nat} {rw : RWt} {tl : TLt} {sp : SPt} {Γ : Cxt} {c : Nat} {Nm : I1} {RR : CR} (hc : c < 7) (hsz : sz ≤ 100) (hT : ∀ j, j < sz → ∃ c, c < 128 ∧ T j = nI c) (C : Cx Γ g cX2_makes yX2_makes 3 (some .boolean) 22 0 0) : ∀ (f i : Nat) (z : CTt) (r : CR), RR = ctP T sz Nm f r → r.1 = true → r.2.1 ≤ sz → ¬ r.2.1 = sz → i + f = 10 → 1 ≤ i → r.2.2.1.length ≤ r.2.1 → ApK ct z c 0 r.2.2.1 → z.2.2.2 c = r.2.2.2.2.1 → V l Γ g 3 (QM Γ g (xI (fun z : CTt => MkO ct z c sz RR) (fun _ => b2i (okP RR sz = true)) (fun z => (jn (hC g h0 z cl (T, nI sz, nI RR.2.1) B cy rw tl sp) X))) 0 0) 0 0 NN (jn (hC g h0 z cl (T, nI sz, nI r.2.1) B cy rw tl sp) X) 11 [some (rf g (4, 0, 0)), some (rf g (2, c, 0)), some (.int (nI i))] [] := by
  intro f
  induction f with
  | zero =>
    intro i z r hR h1 h2 h3 hi h4 h5 hz hb
    obtain rfl : RR = r := hR
    have hno : ¬ okP RR sz = true := ok_f (Or.inr h3)
    obtain rfl : i = 10 := by omega
    refine V.iload_n (q := 12) C dX2_makes_11 rfl rfl ?_
    refine V.bipush (q := 14) (v := nI 10) C dX2_makes_12 rfl (by decide) ?_
    refine V.icmp_ge (q := 17) (tgt := 61) C dX2_makes_14 rfl rfl (fun hb14 => ?_) (fun hb14 => ?_)
    · refine V.iconst (q := 62) (v := nI 0) C dX2_makes_61 rfl (by decide) ?_
      exact V.zreturn C dX2_makes_62 rfl ⟨z, MkO.bad hz.1 hno, congrArg (fun x => some (Value.int x)) (b2i_f hno).symm, rfl, rfl⟩
    · exact absurd (by decide) hb14
  | succ f ih =>
    intro i z r hR h1 h2 h3 hi h4 h5 hz hb
    refine V.iload_n (q := 12) C dX2_makes_11 rfl rfl ?_
    refine V.bipush (q := 14) (v := nI 10) C dX2_makes_12 rfl (by decide) ?_
    refine V.icmp_ge (q := 17) (tgt := 61) C dX2_makes_14 rfl rfl (fun hb14 => ?_) (fun hb14 => ?_)
    · exact absurd ((nI_leI (by omega) (by omega)).mp hb14) (by omega)
    · refine V.iload_n (q := 18) C dX2_makes_17 rfl rfl ?_
      refine V.if_le (q := 21) (tgt := 32) C dX2_makes_18 rfl rfl (fun hb18 => ?_) (fun hb18 => ?_)
      · exact absurd ((nI_leI (b := 0) (by omega) (by omega)).mp hb18) (by omega)
      · refine V.aload_n (q := 22) C dX2_makes_21 rfl rfl ?_
        refine V.bipush (q := 24) (v := nI 59) C dX2_makes_22 rfl (by decide) ?_
        refine V.callVi (q := 27) C me_X2_isSign (c_isSign (by omega) (by omega)) ml_X2_27 dX2_makes_24 rfl okC_4 ⟨_, rfl⟩ rfl rfl (Nat.le_of_ble_eq_true rfl) (by omega) (Nat.zero_le _) (Nat.zero_le _) ?_
        refine V.if_neB (q := 30) (tgt := 32) C dX2_makes_27 rfl rfl (fun hb27 => ?_) (fun hb27 => ?_)
        · rw [tk_t2 hb27]
          have h6 := (isA_of hb27).2.1
          rw [ct_go h1 hb27] at hR
          have h7 := cl_in (T := T) (sz := sz) (Nm := Nm) (w := true) (a := r.2.1 + 1) (S := r.2.2.2.1) (Rb := r.2.2.2.2.1) (d := r.2.2.2.2.2) (by omega)
          refine V.aload_n (q := 33) C dX2_makes_32 rfl rfl ?_
          refine V.aload_n (q := 34) C dX2_makes_33 rfl rfl ?_
          refine V.callVxi (q := 37) C me_X2_isClause (c_isClause (ct := z) (Nm := Nm) (S := r.2.2.2.1) (Rb := r.2.2.2.2.1) (d0 := r.2.2.2.2.2) (a := r.2.1 + 1) (kc := 0 + r.2.2.1.length) hc hsz (by omega) hT (by omega) hz.2.1 hb) ml_X2_31 dX2_makes_34 rfl okC_4 ⟨_, rfl⟩ rfl rfl (Nat.le_of_ble_eq_true rfl) (by omega) (Nat.zero_le _) (Nat.zero_le _) (fun z1 hz1 => ?_)
          refine V.if_neB (q := 40) (tgt := 42) C dX2_makes_37 rfl rfl (fun hb37 => ?_) (fun hb37 => ?_)
          · have hA : ApK ct z1 c 0 (nxC T sz Nm r).2.2.1 := hz.trans (hz1.2 hb37).1
            have hB : z1.2.2.2 c = (nxC T sz Nm r).2.2.2.2.1 := (hz1.2 hb37).2
            have hl := cl_len (T := T) (Nm := Nm) (S := r.2.2.2.1) (Rb := r.2.2.2.2.1) (d := r.2.2.2.2.2) (show r.2.1 + 1 ≤ sz by omega) hb37
            refine V.aload_n (q := 43) C dX2_makes_42 rfl rfl ?_
            refine V.get (q := 46) C fl_X2_19 dX2_makes_43 rfl okC_4 rfl rfl ?_
            try dsimp only
            refine V.aload_n (q := 47) C dX2_makes_46 rfl rfl ?_
            refine V.get (q := 50) C fl_X2_15 dX2_makes_47 rfl okC_4 rfl rfl ?_
            try dsimp only
            refine V.icmp_ne (q := 53) (tgt := 55) C dX2_makes_50 rfl rfl (fun hb50 => ?_) (fun hb50 => ?_)
            · have h8 : ¬ (clP T sz Nm true (r.2.1 + 1) r.2.2.2.1 r.2.2.2.2.1 r.2.2.2.2.2).2.1 = sz := fun q => hb50 (by rw [q])
              refine V.iinc (q := 58) (v := nI (i + 1)) C dX2_makes_55 rfl rfl (nI_1 _) (by decide) rfl rfl ?_
              refine V.goto (tgt := 11) C dX2_makes_58 rfl ?_
              exact ih (i + 1) z1 (nxC T sz Nm r) hR hb37 h7.2 h8 (by omega) (by omega) (show (r.2.2.1 ++ (clP T sz Nm true (r.2.1 + 1) r.2.2.2.1 r.2.2.2.2.1 r.2.2.2.2.2).2.2.1).length ≤ (clP T sz Nm true (r.2.1 + 1) r.2.2.2.1 r.2.2.2.2.1 r.2.2.2.2.2).2.1 by rw [List.length_append]; omega) hA hB
            · have h8 : (clP T sz Nm true (r.2.1 + 1) r.2.2.2.1 r.2.2.2.2.1 r.2.2.2.2.2).2.1 = sz := (nI_eq (by omega) (by omega)).mp hb50
              have eR : RR = nxC T sz Nm r := hR.trans (ct_stop hb37 (isA_f (Or.inr (Or.inl (show ¬ (clP T sz Nm true (r.2.1 + 1) r.2.2.2.1 r.2.2.2.2.1 r.2.2.2.2.2).2.1 < sz by omega)))))
              have hyes : okP RR sz = true := by rw [eR]; exact ok_t hb37 h8
              refine V.iconst (q := 54) (v := nI 1) C dX2_makes_53 rfl (by decide) ?_
              exact V.zreturn C dX2_makes_54 rfl ⟨z1, (by rw [eR]; exact MkO.good (r := nxC T sz Nm r) hA hB), congrArg (fun x => some (Value.int x)) (b2i_t hyes).symm, by rw [eR]; rfl, rfl⟩
          · have eR : RR = nxC T sz Nm r := hR.trans (ct_bad hb37)
            have hno : ¬ okP RR sz = true := by rw [eR]; exact ok_f (Or.inl hb37)
            refine V.iconst (q := 41) (v := nI 0) C dX2_makes_40 rfl (by decide) ?_
            exact V.zreturn C dX2_makes_41 rfl ⟨z1, MkO.bad (hz.1.trans hz1.1) hno, congrArg (fun x => some (Value.int x)) (b2i_f hno).symm, by rw [eR]; rfl, rfl⟩
        · rw [tk_f2 hb27]
          have eR : RR = r := hR.trans (ct_stop h1 hb27)
          have hno : ¬ okP RR sz = true := by rw [eR]; exact ok_f (Or.inr h3)
          refine V.iconst (q := 31) (v := nI 0) C dX2_makes_30 rfl (by decide) ?_
          exact V.zreturn C dX2_makes_31 rfl ⟨z, MkO.bad hz.1 hno, congrArg (fun x => some (Value.int x)) (b2i_f hno).symm, by rw [eR], rfl⟩
theorem c_makes {l : Launch} {g : GG} {X : PHp} {ct : CTt} {h0 : HZ} {cl : I2} {T : I1} {sz : Nat} {B : I2} {cy : Nat → Nat} {rw : RWt} {tl : TLt} {sp : SPt} {c : Nat} {p9 : Int32} {Nm : I1} (hc : c < 7) (hsz : sz ≤ 100) (hT : ∀ j, j < sz → ∃ c, c < 128 ∧ T j = nI c) : Ct l g yX2_makes cX2_makes 3 (some .boolean) 22 0 0 [rf g (4, 0, 0), rf g (2, c, 0)] NN (jn (hC g h0 ct cl (T, nI sz, p9) B cy rw tl sp) X) (xI (fun z : CTt => MkO ct z c sz (raP T sz Nm 0 0)) (fun _ => b2i (okP (raP T sz Nm 0 0) sz = true)) (fun z => (jn (hC g h0 z cl (T, nI sz, nI (raP T sz Nm 0 0).2.1) B cy rw tl sp) X))) := by
  refine Ct.of (lv := [some (rf g (4, 0, 0)), some (rf g (2, c, 0)), none]) (by decide +kernel) rfl (Nat.le_of_ble_eq_true rfl) ?_
  intro Γ C
  have hO : OtC ct (ct.1, ct.2.1, va_up ct.2.2.1 c (nI 0), va_up ct.2.2.2 c (nI 3)) c := fun c1 q => ⟨rfl, rfl, va_up_ne _ _ q, va_up_ne _ _ q⟩
  have h7 := cl_in (T := T) (sz := sz) (Nm := Nm) (w := true) (a := 0) (S := 0) (Rb := nI 3) (d := 0) (Nat.zero_le sz)
  refine V.aload_n (q := 1) C dX2_makes_0 rfl rfl ?_
  refine V.callVv (q := 4) C me_X0_clear (c_clear hc) ml_X2_22 dX2_makes_1 rfl (okC_2 (by omega)) ⟨_, rfl⟩ rfl rfl (Nat.le_of_ble_eq_true rfl) (by omega) (Nat.zero_le _) (Nat.zero_le _) ?_
  refine V.aload_n (q := 5) C dX2_makes_4 rfl rfl ?_
  refine V.iconst (q := 6) (v := nI 0) C dX2_makes_5 rfl (by decide) ?_
  refine V.put (q := 9) C fl_X2_19 rfl dX2_makes_6 rfl okC_4 rfl (Nat.le_of_ble_eq_true rfl) rfl rfl rfl ?_
  refine V.phE (uC_4_2) ?_
  try dsimp only
  refine V.iconst (q := 10) (v := nI 0) C dX2_makes_9 rfl (by decide) ?_
  refine V.istore_n (q := 11) C dX2_makes_10 rfl (by decide) rfl rfl ?_
  refine V.iload_n (q := 12) C dX2_makes_11 rfl rfl ?_
  refine V.bipush (q := 14) (v := nI 10) C dX2_makes_12 rfl (by decide) ?_
  refine V.icmp_ge (q := 17) (tgt := 61) C dX2_makes_14 rfl rfl (fun hb14 => ?_) (fun hb14 => ?_)
  · exact absurd hb14 (by decide)
  · refine V.iload_n (q := 18) C dX2_makes_17 rfl rfl ?_
    refine V.if_le (q := 21) (tgt := 32) C dX2_makes_18 rfl rfl (fun hb18 => ?_) (fun hb18 => ?_)
    · refine V.aload_n (q := 33) C dX2_makes_32 rfl rfl ?_
      refine V.aload_n (q := 34) C dX2_makes_33 rfl rfl ?_
      refine V.callVxi (q := 37) C me_X2_isClause (c_isClause (ct := (ct.1, ct.2.1, va_up ct.2.2.1 c (nI 0), va_up ct.2.2.2 c (nI 3))) (Nm := Nm) (S := 0) (Rb := nI 3) (d0 := 0) (a := 0) (kc := 0) hc hsz (by omega) hT (by omega) (va_up_self _ _ _) (va_up_self _ _ _)) ml_X2_31 dX2_makes_34 rfl okC_4 ⟨_, rfl⟩ rfl rfl (Nat.le_of_ble_eq_true rfl) (by omega) (Nat.zero_le _) (Nat.zero_le _) (fun z1 hz1 => ?_)
      refine V.if_neB (q := 40) (tgt := 42) C dX2_makes_37 rfl rfl (fun hb37 => ?_) (fun hb37 => ?_)
      · have hA : ApK ct z1 c 0 (clP T sz Nm true 0 0 (nI 3) 0).2.2.1 := ⟨hO.trans hz1.1, (hz1.2 hb37).1.2.1, fun j hj => absurd hj (by omega), (hz1.2 hb37).1.2.2.2⟩
        have hB : z1.2.2.2 c = (clP T sz Nm true 0 0 (nI 3) 0).2.2.2.2.1 := (hz1.2 hb37).2
        have hl := cl_len (T := T) (Nm := Nm) (S := 0) (Rb := nI 3) (d := 0) (Nat.zero_le sz) hb37
        refine V.aload_n (q := 43) C dX2_makes_42 rfl rfl ?_
        refine V.get (q := 46) C fl_X2_19 dX2_makes_43 rfl okC_4 rfl rfl ?_
        try dsimp only
        refine V.aload_n (q := 47) C dX2_makes_46 rfl rfl ?_
        refine V.get (q := 50) C fl_X2_15 dX2_makes_47 rfl okC_4 rfl rfl ?_
        try dsimp only
        refine V.icmp_ne (q := 53) (tgt := 55) C dX2_makes_50 rfl rfl (fun hb50 => ?_) (fun hb50 => ?_)
        · have h8 : ¬ (clP T sz Nm true 0 0 (nI 3) 0).2.1 = sz := fun q => hb50 (by rw [q])
          refine V.iinc (q := 58) (v := nI (0 + 1)) C dX2_makes_55 rfl rfl (nI_1 _) (by decide) rfl rfl ?_
          refine V.goto (tgt := 11) C dX2_makes_58 rfl ?_
          exact c_makes_l hc hsz hT C 9 (0 + 1) z1 (clP T sz Nm true 0 0 (nI 3) 0) rfl hb37 h7.2 h8 rfl (by omega) (by omega) hA hB
        · have h8 : (clP T sz Nm true 0 0 (nI 3) 0).2.1 = sz := (nI_eq (by omega) (by omega)).mp hb50
          have eR : raP T sz Nm 0 0 = (clP T sz Nm true 0 0 (nI 3) 0) := ct_stop hb37 (isA_f (Or.inr (Or.inl (show ¬ (clP T sz Nm true 0 0 (nI 3) 0).2.1 < sz by omega))))
          have hyes : okP (raP T sz Nm 0 0) sz = true := by rw [eR]; exact ok_t hb37 h8
          refine V.iconst (q := 54) (v := nI 1) C dX2_makes_53 rfl (by decide) ?_
          exact V.zreturn C dX2_makes_54 rfl ⟨z1, (by rw [eR]; exact MkO.good (sz := sz) hA hB), congrArg (fun x => some (Value.int x)) (b2i_t hyes).symm, by rw [eR], rfl⟩
      · have eR : raP T sz Nm 0 0 = (clP T sz Nm true 0 0 (nI 3) 0) := ct_bad hb37
        have hno : ¬ okP (raP T sz Nm 0 0) sz = true := by rw [eR]; exact ok_f (Or.inl hb37)
        refine V.iconst (q := 41) (v := nI 0) C dX2_makes_40 rfl (by decide) ?_
        exact V.zreturn C dX2_makes_41 rfl ⟨z1, MkO.bad (OtC.trans hO hz1.1) hno, congrArg (fun x => some (Value.int x)) (b2i_f hno).symm, by rw [eR], rfl⟩
    · exact absurd (by decide) hb18
