theorem tl_bad {p : Bool → Nat → PR} {T : I1} {sz : Nat} {sep op : Int32} {cmb : Bool → Bool → Bool} {f : Nat} {r : PR} (h : ¬ r.1 = true) : tlP p T sz sep op cmb f r = r := by
  cases f with
  | zero => rfl
  | succ f => rw [tlP, if_neg (isA_f (Or.inl h))]
theorem tl_stop {p : Bool → Nat → PR} {T : I1} {sz : Nat} {sep op : Int32} {cmb : Bool → Bool → Bool} {f : Nat} {r : PR} (h : r.1 = true) (h2 : ¬ isA T sz true r.2.1 sep = true) : tlP p T sz sep op cmb f r = r := by
  cases f with
  | zero => rfl
  | succ f => rw [tlP, h, if_neg h2]
theorem tl_go {p : Bool → Nat → PR} {T : I1} {sz : Nat} {sep op : Int32} {cmb : Bool → Bool → Bool} {f : Nat} {r : PR} (h : r.1 = true) (h2 : isA T sz true r.2.1 sep = true) : tlP p T sz sep op cmb (f + 1) r = tlP p T sz sep op cmb f ((p true (r.2.1 + 1)).1, (p true (r.2.1 + 1)).2.1, r.2.2.1 ++ (p true (r.2.1 + 1)).2.2.1 ++ [(op, nI 0)], cmb r.2.2.2 (p true (r.2.1 + 1)).2.2.2) := by
  rw [tlP, h, if_pos h2]
theorem c_isBoth_l {l : Launch} {g : GG} {X : PHp} {h0 : HZ} {cl : I2} {T : I1} {sz : Nat} {B : I2} {cy : Nat → Nat} {rw : RWt} {tl : TLt} {sp : SPt} {Γ : Cxt} {c d lv : Nat} {p : Bool → Nat → PR} (hv : 1 ≤ lv) (hc : c < 7) (hsz : sz ≤ 100) (hp : Pin sz p) (hq : Len p) (hF : ∀ (ct : CTt) (a kc : Nat), kc ≤ a → a ≤ sz → ct.2.2.1 c = nI kc → Ct l g yX2_isFactor cX2_isFactor 6 (some .boolean) (lv) 0 0 [rf g (4, 0, 0), rf g (2, c, 0), .int (nI d)] NN (jn (hC g h0 ct cl (T, nI sz, nI a) B cy rw tl sp) X) (xI (fun z : CTt => ApO ct z c kc (p true a)) (fun _ => b2i ((p true a).1 = true)) (fun z => (jn (hC g h0 z cl (T, nI sz, nI (p true a).2.1) B cy rw tl sp) X)))) (C : Cx Γ g cX2_isBoth yX2_isBoth 4 (some .boolean) (lv + 1) 0 0) {ct : CTt} {a kc : Nat} : ∀ (f : Nat) (z : CTt) (r : PR) (i : Nat), (tlP p T sz (nI 38) (nI 18) and sz (p true a)) = tlP p T sz (nI 38) (nI 18) and f r → r.1 = true → isA T sz true r.2.1 (nI 38) = true → sz ≤ f + r.2.1 → 1 ≤ i → i ≤ r.2.1 → kc + r.2.2.1.length ≤ r.2.1 → ApC ct z c kc r.2.2.1 → V l Γ g 4 (QM Γ g (xI (fun z : CTt => ApO ct z c kc (tlP p T sz (nI 38) (nI 18) and sz (p true a))) (fun _ => b2i ((tlP p T sz (nI 38) (nI 18) and sz (p true a)).1 = true)) (fun z => (jn (hC g h0 z cl (T, nI sz, nI (tlP p T sz (nI 38) (nI 18) and sz (p true a)).2.1) B cy rw tl sp) X))) 0 0) 0 0 NN (jn (hC g h0 z cl (T, nI sz, nI (r.2.1 + 1)) B cy rw tl sp) X) 2 [some (rf g (4, 0, 0)), some (rf g (2, c, 0)), some (.int (nI d)), some (.int (nI i))] [] := by
  intro f
  induction f with
  | zero =>
    intro z r i hR h1 h2 h3 _ _ _ _
    have := (isA_of h2).2.1
    exact absurd h3 (by omega)
  | succ f ih =>
    intro z r i hR h1 h2 h3 h4 h5 h6 hz
    have h7 := (isA_of h2).2.1
    have h8 := hp true (r.2.1 + 1) (by omega)
    rw [tl_go h1 h2] at hR
    have h9 := hq (r.2.1 + 1)
    refine V.iload_n (q := 3) C dX2_isBoth_2 rfl rfl ?_
    refine V.aload_n (q := 4) C dX2_isBoth_3 rfl rfl ?_
    refine V.get (q := 7) C fl_X2_9 dX2_isBoth_4 rfl okC_4 rfl rfl ?_
    refine V.len_aB (q := 8) C dX2_isBoth_7 rfl okC_5 rfl ?_
    refine V.icmp_ge (q := 11) (tgt := 50) C dX2_isBoth_8 rfl rfl (fun hb8 => ?_) (fun hb8 => ?_)
    · exact absurd ((nI_leI (by omega) (by omega)).mp hb8) (by omega)
    · refine V.aload_n (q := 12) C dX2_isBoth_11 rfl rfl ?_
      refine V.aload_n (q := 13) C dX2_isBoth_12 rfl rfl ?_
      refine V.iload_n (q := 14) C dX2_isBoth_13 rfl rfl ?_
      refine V.callVxi (q := 17) C me_X2_isFactor (hF z (r.2.1 + 1) (kc + r.2.2.1.length) (by omega) (by omega) hz.cnt) ml_X2_63 dX2_isBoth_14 rfl okC_4 ⟨_, rfl⟩ rfl rfl (Nat.le_of_ble_eq_true rfl) (by omega) (Nat.zero_le _) (Nat.zero_le _) (fun z1 hz1 => ?_)
      refine V.if_neB (q := 20) (tgt := 22) C dX2_isBoth_17 rfl rfl (fun hb17 => ?_) (fun hb17 => ?_)
      · have hw := hz1.2 hb17
        have hl := h9 hb17
        obtain ⟨z2, ez⟩ : ∃ z2, z2 = psh z1 c (kc + r.2.2.1.length + (p true (r.2.1 + 1)).2.2.1.length) (nI 18) (nI 0) := ⟨_, rfl⟩
        have hz2 : ApC ct z2 c kc (r.2.2.1 ++ (p true (r.2.1 + 1)).2.2.1 ++ [(nI 18, nI 0)]) := by rw [ez]; exact ((hz.trans hw).trans (by rw [List.length_append, ← Nat.add_assoc]; exact ApC.one))
        refine V.iload_n (q := 23) C dX2_isBoth_22 rfl rfl ?_
        refine V.if_le (q := 26) (tgt := 33) C dX2_isBoth_23 rfl rfl (fun hb23 => ?_) (fun hb23 => ?_)
        · exact absurd ((nI_leI (b := 0) (by omega) (by omega)).mp hb23) (by omega)
        · refine V.aload_n (q := 27) C dX2_isBoth_26 rfl rfl ?_
          refine V.bipush (q := 29) (v := nI 18) C dX2_isBoth_27 rfl (by decide) ?_
          refine V.iconst (q := 30) (v := nI 0) C dX2_isBoth_29 rfl (by decide) ?_
          refine V.callVv (q := 33) C me_X0_put ((c_put (k := (kc + r.2.2.1.length + (p true (r.2.1 + 1)).2.2.1.length))) hc hw.cnt (by omega)) ml_X2_56 dX2_isBoth_30 rfl (okC_2 (by omega)) ⟨_, rfl⟩ rfl rfl (Nat.le_of_ble_eq_true rfl) (by omega) (Nat.zero_le _) (Nat.zero_le _) ?_
          rw [← ez]
          refine V.aload_n (q := 34) C dX2_isBoth_33 rfl rfl ?_
          refine V.bipush (q := 36) (v := nI 38) C dX2_isBoth_34 rfl (by decide) ?_
          refine V.callVi (q := 39) C me_X2_isSign (c_isSign (by omega) (by omega)) ml_X2_27 dX2_isBoth_36 rfl okC_4 ⟨_, rfl⟩ rfl rfl (Nat.le_of_ble_eq_true rfl) (by omega) (Nat.zero_le _) (Nat.zero_le _) ?_
          refine V.if_neB (q := 42) (tgt := 44) C dX2_isBoth_39 rfl rfl (fun hb39 => ?_) (fun hb39 => ?_)
          · rw [tk_t2 hb39]
            refine V.iinc (q := 47) (v := nI (i + 1)) C dX2_isBoth_44 rfl rfl (nI_1 _) (by decide) rfl rfl ?_
            refine V.goto (tgt := 2) C dX2_isBoth_47 rfl ?_
            exact ih z2 ((p true (r.2.1 + 1)).1, (p true (r.2.1 + 1)).2.1, (r.2.2.1 ++ (p true (r.2.1 + 1)).2.2.1 ++ [(nI 18, nI 0)]), _) (i + 1) hR hb17 hb39 (show sz ≤ f + (p true (r.2.1 + 1)).2.1 by omega) (by omega) (show i + 1 ≤ (p true (r.2.1 + 1)).2.1 by omega) (by simp only [List.length_append, List.length_singleton]; omega) hz2
          · rw [tk_f2 hb39]
            rw [tl_stop (r := ((p true (r.2.1 + 1)).1, (p true (r.2.1 + 1)).2.1, (r.2.2.1 ++ (p true (r.2.1 + 1)).2.2.1 ++ [(nI 18, nI 0)]), _)) hb17 hb39] at hR
            refine V.iconst (q := 43) (v := nI 1) C dX2_isBoth_42 rfl (by decide) ?_
            exact V.zreturn C dX2_isBoth_43 rfl ⟨z2, by rw [hR]; exact ⟨hz2.1, fun _ => hz2⟩, by rw [hR]; exact congrArg (fun x => some (Value.int x)) (b2i_t hb17).symm, by rw [hR], rfl⟩
      · rw [tl_bad (r := ((p true (r.2.1 + 1)).1, (p true (r.2.1 + 1)).2.1, (r.2.2.1 ++ (p true (r.2.1 + 1)).2.2.1 ++ [(nI 18, nI 0)]), _)) hb17] at hR
        refine V.iconst (q := 21) (v := nI 0) C dX2_isBoth_20 rfl (by decide) ?_
        exact V.zreturn C dX2_isBoth_21 rfl ⟨z1, by rw [hR]; exact ⟨hz.1.trans hz1.1, fun q => absurd q hb17⟩, by rw [hR]; exact congrArg (fun x => some (Value.int x)) (b2i_f hb17).symm, by rw [hR], rfl⟩
theorem c_isBoth {l : Launch} {g : GG} {X : PHp} {h0 : HZ} {cl : I2} {T : I1} {sz : Nat} {B : I2} {cy : Nat → Nat} {rw : RWt} {tl : TLt} {sp : SPt} {c d lv : Nat} {p : Bool → Nat → PR} (hv : 1 ≤ lv) (hc : c < 7) (hsz : sz ≤ 100) (hp : Pin sz p) (hq : Len p) (hF : ∀ (ct : CTt) (a kc : Nat), kc ≤ a → a ≤ sz → ct.2.2.1 c = nI kc → Ct l g yX2_isFactor cX2_isFactor 6 (some .boolean) (lv) 0 0 [rf g (4, 0, 0), rf g (2, c, 0), .int (nI d)] NN (jn (hC g h0 ct cl (T, nI sz, nI a) B cy rw tl sp) X) (xI (fun z : CTt => ApO ct z c kc (p true a)) (fun _ => b2i ((p true a).1 = true)) (fun z => (jn (hC g h0 z cl (T, nI sz, nI (p true a).2.1) B cy rw tl sp) X)))) {lv9 : Nat} (hlv : lv9 = lv + 1) {ct : CTt} {a kc : Nat} (hka : kc ≤ a) (ha : a ≤ sz) (hk : ct.2.2.1 c = nI kc) : Ct l g yX2_isBoth cX2_isBoth 4 (some .boolean) lv9 0 0 [rf g (4, 0, 0), rf g (2, c, 0), .int (nI d)] NN (jn (hC g h0 ct cl (T, nI sz, nI a) B cy rw tl sp) X) (xI (fun z : CTt => ApO ct z c kc (tlP p T sz (nI 38) (nI 18) and sz (p true a))) (fun _ => b2i ((tlP p T sz (nI 38) (nI 18) and sz (p true a)).1 = true)) (fun z => (jn (hC g h0 z cl (T, nI sz, nI (tlP p T sz (nI 38) (nI 18) and sz (p true a)).2.1) B cy rw tl sp) X))) := by
  subst hlv
  refine Ct.of (lv := [some (rf g (4, 0, 0)), some (rf g (2, c, 0)), some (.int (nI d)), none]) (by decide +kernel) rfl (Nat.le_of_ble_eq_true rfl) ?_
  intro Γ C
  have h8 := hp true a ha
  have h9 := hq a
  refine V.iconst (q := 1) (v := nI 0) C dX2_isBoth_0 rfl (by decide) ?_
  refine V.istore_n (q := 2) C dX2_isBoth_1 rfl (by decide) rfl rfl ?_
  refine V.iload_n (q := 3) C dX2_isBoth_2 rfl rfl ?_
  refine V.aload_n (q := 4) C dX2_isBoth_3 rfl rfl ?_
  refine V.get (q := 7) C fl_X2_9 dX2_isBoth_4 rfl okC_4 rfl rfl ?_
  refine V.len_aB (q := 8) C dX2_isBoth_7 rfl okC_5 rfl ?_
  refine V.icmp_ge (q := 11) (tgt := 50) C dX2_isBoth_8 rfl rfl (fun hb8 => ?_) (fun hb8 => ?_)
  · exact absurd hb8 (by decide)
  · refine V.aload_n (q := 12) C dX2_isBoth_11 rfl rfl ?_
    refine V.aload_n (q := 13) C dX2_isBoth_12 rfl rfl ?_
    refine V.iload_n (q := 14) C dX2_isBoth_13 rfl rfl ?_
    refine V.callVxi (q := 17) C me_X2_isFactor (hF ct a kc hka ha hk) ml_X2_63 dX2_isBoth_14 rfl okC_4 ⟨_, rfl⟩ rfl rfl (Nat.le_of_ble_eq_true rfl) (by omega) (Nat.zero_le _) (Nat.zero_le _) (fun z1 hz1 => ?_)
    refine V.if_neB (q := 20) (tgt := 22) C dX2_isBoth_17 rfl rfl (fun hb17 => ?_) (fun hb17 => ?_)
    · have hl := h9 hb17
      refine V.iload_n (q := 23) C dX2_isBoth_22 rfl rfl ?_
      refine V.if_le (q := 26) (tgt := 33) C dX2_isBoth_23 rfl rfl (fun hb23 => ?_) (fun hb23 => ?_)
      · refine V.aload_n (q := 34) C dX2_isBoth_33 rfl rfl ?_
        refine V.bipush (q := 36) (v := nI 38) C dX2_isBoth_34 rfl (by decide) ?_
        refine V.callVi (q := 39) C me_X2_isSign (c_isSign (by omega) (by omega)) ml_X2_27 dX2_isBoth_36 rfl okC_4 ⟨_, rfl⟩ rfl rfl (Nat.le_of_ble_eq_true rfl) (by omega) (Nat.zero_le _) (Nat.zero_le _) ?_
        refine V.if_neB (q := 42) (tgt := 44) C dX2_isBoth_39 rfl rfl (fun hb39 => ?_) (fun hb39 => ?_)
        · rw [tk_t2 hb39]
          refine V.iinc (q := 47) (v := nI (0 + 1)) C dX2_isBoth_44 rfl rfl (nI_1 _) (by decide) rfl rfl ?_
          refine V.goto (tgt := 2) C dX2_isBoth_47 rfl ?_
          exact c_isBoth_l hv hc hsz hp hq hF C sz z1 (p true a) (0 + 1) rfl hb17 hb39 (by omega) (by omega) (by omega) (by omega) (hz1.2 hb17)
        · rw [tk_f2 hb39]
          refine V.iconst (q := 43) (v := nI 1) C dX2_isBoth_42 rfl (by decide) ?_
          exact V.zreturn C dX2_isBoth_43 rfl ⟨z1, by rw [tl_stop hb17 hb39]; exact hz1, by rw [tl_stop hb17 hb39]; exact congrArg (fun x => some (Value.int x)) (b2i_t hb17).symm, by rw [tl_stop hb17 hb39], rfl⟩
      · exact absurd (by decide) hb23
    · refine V.iconst (q := 21) (v := nI 0) C dX2_isBoth_20 rfl (by decide) ?_
      exact V.zreturn C dX2_isBoth_21 rfl ⟨z1, by rw [tl_bad hb17]; exact hz1, by rw [tl_bad hb17]; exact congrArg (fun x => some (Value.int x)) (b2i_f hb17).symm, by rw [tl_bad hb17], rfl⟩
theorem c_isEither_l {l : Launch} {g : GG} {X : PHp} {h0 : HZ} {cl : I2} {T : I1} {sz : Nat} {B : I2} {cy : Nat → Nat} {rw : RWt} {tl : TLt} {sp : SPt} {Γ : Cxt} {c d lv : Nat} {p : Bool → Nat → PR} (hv : 1 ≤ lv) (hc : c < 7) (hsz : sz ≤ 100) (hp : Pin sz p) (hq : Len p) (hF : ∀ (ct : CTt) (a kc : Nat), kc ≤ a → a ≤ sz → ct.2.2.1 c = nI kc → Ct l g yX2_isBoth cX2_isBoth 4 (some .boolean) (lv) 0 0 [rf g (4, 0, 0), rf g (2, c, 0), .int (nI d)] NN (jn (hC g h0 ct cl (T, nI sz, nI a) B cy rw tl sp) X) (xI (fun z : CTt => ApO ct z c kc (p true a)) (fun _ => b2i ((p true a).1 = true)) (fun z => (jn (hC g h0 z cl (T, nI sz, nI (p true a).2.1) B cy rw tl sp) X)))) (C : Cx Γ g cX2_isEither yX2_isEither 4 (some .boolean) (lv + 1) 0 0) {ct : CTt} {a kc : Nat} : ∀ (f : Nat) (z : CTt) (r : PR) (i : Nat), (tlP p T sz (nI 124) (nI 19) or sz (p true a)) = tlP p T sz (nI 124) (nI 19) or f r → r.1 = true → isA T sz true r.2.1 (nI 124) = true → sz ≤ f + r.2.1 → 1 ≤ i → i ≤ r.2.1 → kc + r.2.2.1.length ≤ r.2.1 → ApC ct z c kc r.2.2.1 → V l Γ g 4 (QM Γ g (xI (fun z : CTt => ApO ct z c kc (tlP p T sz (nI 124) (nI 19) or sz (p true a))) (fun _ => b2i ((tlP p T sz (nI 124) (nI 19) or sz (p true a)).1 = true)) (fun z => (jn (hC g h0 z cl (T, nI sz, nI (tlP p T sz (nI 124) (nI 19) or sz (p true a)).2.1) B cy rw tl sp) X))) 0 0) 0 0 NN (jn (hC g h0 z cl (T, nI sz, nI (r.2.1 + 1)) B cy rw tl sp) X) 2 [some (rf g (4, 0, 0)), some (rf g (2, c, 0)), some (.int (nI d)), some (.int (nI i))] [] := by
  intro f
  induction f with
  | zero =>
    intro z r i hR h1 h2 h3 _ _ _ _
    have := (isA_of h2).2.1
    exact absurd h3 (by omega)
  | succ f ih =>
    intro z r i hR h1 h2 h3 h4 h5 h6 hz
    have h7 := (isA_of h2).2.1
    have h8 := hp true (r.2.1 + 1) (by omega)
    rw [tl_go h1 h2] at hR
    have h9 := hq (r.2.1 + 1)
    refine V.iload_n (q := 3) C dX2_isEither_2 rfl rfl ?_
    refine V.aload_n (q := 4) C dX2_isEither_3 rfl rfl ?_
    refine V.get (q := 7) C fl_X2_9 dX2_isEither_4 rfl okC_4 rfl rfl ?_
    refine V.len_aB (q := 8) C dX2_isEither_7 rfl okC_5 rfl ?_
    refine V.icmp_ge (q := 11) (tgt := 50) C dX2_isEither_8 rfl rfl (fun hb8 => ?_) (fun hb8 => ?_)
    · exact absurd ((nI_leI (by omega) (by omega)).mp hb8) (by omega)
    · refine V.aload_n (q := 12) C dX2_isEither_11 rfl rfl ?_
      refine V.aload_n (q := 13) C dX2_isEither_12 rfl rfl ?_
      refine V.iload_n (q := 14) C dX2_isEither_13 rfl rfl ?_
      refine V.callVxi (q := 17) C me_X2_isBoth (hF z (r.2.1 + 1) (kc + r.2.2.1.length) (by omega) (by omega) hz.cnt) ml_X2_60 dX2_isEither_14 rfl okC_4 ⟨_, rfl⟩ rfl rfl (Nat.le_of_ble_eq_true rfl) (by omega) (Nat.zero_le _) (Nat.zero_le _) (fun z1 hz1 => ?_)
      refine V.if_neB (q := 20) (tgt := 22) C dX2_isEither_17 rfl rfl (fun hb17 => ?_) (fun hb17 => ?_)
      · have hw := hz1.2 hb17
        have hl := h9 hb17
        obtain ⟨z2, ez⟩ : ∃ z2, z2 = psh z1 c (kc + r.2.2.1.length + (p true (r.2.1 + 1)).2.2.1.length) (nI 19) (nI 0) := ⟨_, rfl⟩
        have hz2 : ApC ct z2 c kc (r.2.2.1 ++ (p true (r.2.1 + 1)).2.2.1 ++ [(nI 19, nI 0)]) := by rw [ez]; exact ((hz.trans hw).trans (by rw [List.length_append, ← Nat.add_assoc]; exact ApC.one))
        refine V.iload_n (q := 23) C dX2_isEither_22 rfl rfl ?_
        refine V.if_le (q := 26) (tgt := 33) C dX2_isEither_23 rfl rfl (fun hb23 => ?_) (fun hb23 => ?_)
        · exact absurd ((nI_leI (b := 0) (by omega) (by omega)).mp hb23) (by omega)
        · refine V.aload_n (q := 27) C dX2_isEither_26 rfl rfl ?_
          refine V.bipush (q := 29) (v := nI 19) C dX2_isEither_27 rfl (by decide) ?_
          refine V.iconst (q := 30) (v := nI 0) C dX2_isEither_29 rfl (by decide) ?_
          refine V.callVv (q := 33) C me_X0_put ((c_put (k := (kc + r.2.2.1.length + (p true (r.2.1 + 1)).2.2.1.length))) hc hw.cnt (by omega)) ml_X2_56 dX2_isEither_30 rfl (okC_2 (by omega)) ⟨_, rfl⟩ rfl rfl (Nat.le_of_ble_eq_true rfl) (by omega) (Nat.zero_le _) (Nat.zero_le _) ?_
          rw [← ez]
          refine V.aload_n (q := 34) C dX2_isEither_33 rfl rfl ?_
          refine V.bipush (q := 36) (v := nI 124) C dX2_isEither_34 rfl (by decide) ?_
          refine V.callVi (q := 39) C me_X2_isSign (c_isSign (by omega) (by omega)) ml_X2_27 dX2_isEither_36 rfl okC_4 ⟨_, rfl⟩ rfl rfl (Nat.le_of_ble_eq_true rfl) (by omega) (Nat.zero_le _) (Nat.zero_le _) ?_
          refine V.if_neB (q := 42) (tgt := 44) C dX2_isEither_39 rfl rfl (fun hb39 => ?_) (fun hb39 => ?_)
          · rw [tk_t2 hb39]
            refine V.iinc (q := 47) (v := nI (i + 1)) C dX2_isEither_44 rfl rfl (nI_1 _) (by decide) rfl rfl ?_
            refine V.goto (tgt := 2) C dX2_isEither_47 rfl ?_
            exact ih z2 ((p true (r.2.1 + 1)).1, (p true (r.2.1 + 1)).2.1, (r.2.2.1 ++ (p true (r.2.1 + 1)).2.2.1 ++ [(nI 19, nI 0)]), _) (i + 1) hR hb17 hb39 (show sz ≤ f + (p true (r.2.1 + 1)).2.1 by omega) (by omega) (show i + 1 ≤ (p true (r.2.1 + 1)).2.1 by omega) (by simp only [List.length_append, List.length_singleton]; omega) hz2
          · rw [tk_f2 hb39]
            rw [tl_stop (r := ((p true (r.2.1 + 1)).1, (p true (r.2.1 + 1)).2.1, (r.2.2.1 ++ (p true (r.2.1 + 1)).2.2.1 ++ [(nI 19, nI 0)]), _)) hb17 hb39] at hR
            refine V.iconst (q := 43) (v := nI 1) C dX2_isEither_42 rfl (by decide) ?_
            exact V.zreturn C dX2_isEither_43 rfl ⟨z2, by rw [hR]; exact ⟨hz2.1, fun _ => hz2⟩, by rw [hR]; exact congrArg (fun x => some (Value.int x)) (b2i_t hb17).symm, by rw [hR], rfl⟩
      · rw [tl_bad (r := ((p true (r.2.1 + 1)).1, (p true (r.2.1 + 1)).2.1, (r.2.2.1 ++ (p true (r.2.1 + 1)).2.2.1 ++ [(nI 19, nI 0)]), _)) hb17] at hR
        refine V.iconst (q := 21) (v := nI 0) C dX2_isEither_20 rfl (by decide) ?_
        exact V.zreturn C dX2_isEither_21 rfl ⟨z1, by rw [hR]; exact ⟨hz.1.trans hz1.1, fun q => absurd q hb17⟩, by rw [hR]; exact congrArg (fun x => some (Value.int x)) (b2i_f hb17).symm, by rw [hR], rfl⟩
theorem c_isEither {l : Launch} {g : GG} {X : PHp} {h0 : HZ} {cl : I2} {T : I1} {sz : Nat} {B : I2} {cy : Nat → Nat} {rw : RWt} {tl : TLt} {sp : SPt} {c d lv : Nat} {p : Bool → Nat → PR} (hv : 1 ≤ lv) (hc : c < 7) (hsz : sz ≤ 100) (hp : Pin sz p) (hq : Len p) (hF : ∀ (ct : CTt) (a kc : Nat), kc ≤ a → a ≤ sz → ct.2.2.1 c = nI kc → Ct l g yX2_isBoth cX2_isBoth 4 (some .boolean) (lv) 0 0 [rf g (4, 0, 0), rf g (2, c, 0), .int (nI d)] NN (jn (hC g h0 ct cl (T, nI sz, nI a) B cy rw tl sp) X) (xI (fun z : CTt => ApO ct z c kc (p true a)) (fun _ => b2i ((p true a).1 = true)) (fun z => (jn (hC g h0 z cl (T, nI sz, nI (p true a).2.1) B cy rw tl sp) X)))) {lv9 : Nat} (hlv : lv9 = lv + 1) {ct : CTt} {a kc : Nat} (hka : kc ≤ a) (ha : a ≤ sz) (hk : ct.2.2.1 c = nI kc) : Ct l g yX2_isEither cX2_isEither 4 (some .boolean) lv9 0 0 [rf g (4, 0, 0), rf g (2, c, 0), .int (nI d)] NN (jn (hC g h0 ct cl (T, nI sz, nI a) B cy rw tl sp) X) (xI (fun z : CTt => ApO ct z c kc (tlP p T sz (nI 124) (nI 19) or sz (p true a))) (fun _ => b2i ((tlP p T sz (nI 124) (nI 19) or sz (p true a)).1 = true)) (fun z => (jn (hC g h0 z cl (T, nI sz, nI (tlP p T sz (nI 124) (nI 19) or sz (p true a)).2.1) B cy rw tl sp) X))) := by
  subst hlv
  refine Ct.of (lv := [some (rf g (4, 0, 0)), some (rf g (2, c, 0)), some (.int (nI d)), none]) (by decide +kernel) rfl (Nat.le_of_ble_eq_true rfl) ?_
  intro Γ C
  have h8 := hp true a ha
  have h9 := hq a
  refine V.iconst (q := 1) (v := nI 0) C dX2_isEither_0 rfl (by decide) ?_
  refine V.istore_n (q := 2) C dX2_isEither_1 rfl (by decide) rfl rfl ?_
  refine V.iload_n (q := 3) C dX2_isEither_2 rfl rfl ?_
  refine V.aload_n (q := 4) C dX2_isEither_3 rfl rfl ?_
  refine V.get (q := 7) C fl_X2_9 dX2_isEither_4 rfl okC_4 rfl rfl ?_
  refine V.len_aB (q := 8) C dX2_isEither_7 rfl okC_5 rfl ?_
  refine V.icmp_ge (q := 11) (tgt := 50) C dX2_isEither_8 rfl rfl (fun hb8 => ?_) (fun hb8 => ?_)
  · exact absurd hb8 (by decide)
  · refine V.aload_n (q := 12) C dX2_isEither_11 rfl rfl ?_
    refine V.aload_n (q := 13) C dX2_isEither_12 rfl rfl ?_
    refine V.iload_n (q := 14) C dX2_isEither_13 rfl rfl ?_
    refine V.callVxi (q := 17) C me_X2_isBoth (hF ct a kc hka ha hk) ml_X2_60 dX2_isEither_14 rfl okC_4 ⟨_, rfl⟩ rfl rfl (Nat.le_of_ble_eq_true rfl) (by omega) (Nat.zero_le _) (Nat.zero_le _) (fun z1 hz1 => ?_)
    refine V.if_neB (q := 20) (tgt := 22) C dX2_isEither_17 rfl rfl (fun hb17 => ?_) (fun hb17 => ?_)
    · have hl := h9 hb17
      refine V.iload_n (q := 23) C dX2_isEither_22 rfl rfl ?_
      refine V.if_le (q := 26) (tgt := 33) C dX2_isEither_23 rfl rfl (fun hb23 => ?_) (fun hb23 => ?_)
      · refine V.aload_n (q := 34) C dX2_isEither_33 rfl rfl ?_
        refine V.bipush (q := 36) (v := nI 124) C dX2_isEither_34 rfl (by decide) ?_
        refine V.callVi (q := 39) C me_X2_isSign (c_isSign (by omega) (by omega)) ml_X2_27 dX2_isEither_36 rfl okC_4 ⟨_, rfl⟩ rfl rfl (Nat.le_of_ble_eq_true rfl) (by omega) (Nat.zero_le _) (Nat.zero_le _) ?_
        refine V.if_neB (q := 42) (tgt := 44) C dX2_isEither_39 rfl rfl (fun hb39 => ?_) (fun hb39 => ?_)
        · rw [tk_t2 hb39]
          refine V.iinc (q := 47) (v := nI (0 + 1)) C dX2_isEither_44 rfl rfl (nI_1 _) (by decide) rfl rfl ?_
          refine V.goto (tgt := 2) C dX2_isEither_47 rfl ?_
          exact c_isEither_l hv hc hsz hp hq hF C sz z1 (p true a) (0 + 1) rfl hb17 hb39 (by omega) (by omega) (by omega) (by omega) (hz1.2 hb17)
        · rw [tk_f2 hb39]
          refine V.iconst (q := 43) (v := nI 1) C dX2_isEither_42 rfl (by decide) ?_
          exact V.zreturn C dX2_isEither_43 rfl ⟨z1, by rw [tl_stop hb17 hb39]; exact hz1, by rw [tl_stop hb17 hb39]; exact congrArg (fun x => some (Value.int x)) (b2i_t hb17).symm, by rw [tl_stop hb17 hb39], rfl⟩
      · exact absurd (by decide) hb23
    · refine V.iconst (q := 21) (v := nI 0) C dX2_isEither_20 rfl (by decide) ?_
      exact V.zreturn C dX2_isEither_21 rfl ⟨z1, by rw [tl_bad hb17]; exact hz1, by rw [tl_bad hb17]; exact congrArg (fun x => some (Value.int x)) (b2i_f hb17).symm, by rw [tl_bad hb17], rfl⟩
set_option maxHeartbeats 1000000 in
theorem c_fac_t {l : Launch} {g : GG} {X : PHp} {h0 : HZ} {ct : CTt} {cl : I2} {T : I1} {sz a : Nat} {B : I2} {cy : Nat → Nat} {rw : RWt} {tl : TLt} {sp : SPt} {Γ : Cxt} {c d kc lv : Nat} {Nm : I1} {R : PR} (hR : R = teP T sz Nm true a) (hc : c < 7) (hsz : sz ≤ 100) (ha : a ≤ sz) (hT : ∀ j, j < sz → ∃ c, c < 128 ∧ T j = nI c) (hka : kc ≤ a) (hk : ct.2.2.1 c = nI kc) (C : Cx Γ g cX2_isFactor yX2_isFactor 6 (some .boolean) (6 + lv) 0 0) : V l Γ g 6 (QM Γ g (xI (fun z : CTt => ApO ct z c kc R) (fun _ => b2i ((R).1 = true)) (fun z => (jn (hC g h0 z cl (T, nI sz, nI (R).2.1) B cy rw tl sp) X))) 0 0) 0 0 NN (jn (hC g h0 ct cl (T, nI sz, nI a) B cy rw tl sp) X) 76 [some (rf g (4, 0, 0)), some (rf g (2, c, 0)), some (.int (nI d)), none, none, none] [] := by
  refine V.aload_n (q := 77) C dX2_isFactor_76 rfl rfl ?_
  refine V.ldcS (q := 79) (i := 3) C (by decide) dX2_isFactor_77 rfl ?_
  refine V.callVi (q := 82) C me_X2_signOf (c_signOf (by decide) (by omega) (by omega) hT) ml_X2_68 dX2_isFactor_79 rfl okC_4 ⟨_, rfl⟩ rfl rfl (Nat.le_of_ble_eq_true rfl) (by omega) (Nat.zero_le _) (Nat.zero_le _) ?_
  rcases so_c (T := T) (sz := sz) (a := a) (i := 3) (by decide) with ⟨e1, e2⟩ | ⟨j, hj, e1, e2, e3, -⟩
  · rw [e1, e2]
    have e4 : R = (false, a, [], false) := hR.trans (te_A e1)
    refine V.istore_n (q := 83) C dX2_isFactor_82 rfl (by decide) rfl rfl ?_
    refine V.iload_n (q := 84) C dX2_isFactor_83 rfl rfl ?_
    refine V.if_ge (q := 87) (tgt := 91) C dX2_isFactor_84 rfl rfl (fun hb84 => ?_) (fun hb84 => ?_)
    · exact absurd hb84 (by decide)
    · refine V.iconst (q := 88) (v := -1) C dX2_isFactor_87 rfl (by decide) ?_
      refine V.goto (tgt := 97) C dX2_isFactor_88 rfl ?_
      refine V.istore (q := 99) C dX2_isFactor_97 rfl (by decide) rfl rfl ?_
      refine V.iload (q := 101) C dX2_isFactor_99 rfl rfl ?_
      refine V.if_ge (q := 104) (tgt := 108) C dX2_isFactor_101 rfl rfl (fun hb101 => ?_) (fun hb101 => ?_)
      · exact absurd hb101 (by decide)
      · refine V.iconst (q := 105) (v := -1) C dX2_isFactor_104 rfl (by decide) ?_
        refine V.goto (tgt := 112) C dX2_isFactor_105 rfl ?_
        refine V.istore (q := 114) C dX2_isFactor_112 rfl (by decide) rfl rfl ?_
        refine V.iload (q := 116) C dX2_isFactor_114 rfl rfl ?_
        refine V.if_ge (q := 119) (tgt := 121) C dX2_isFactor_116 rfl rfl (fun hb116 => ?_) (fun hb116 => ?_)
        · exact absurd hb116 (by decide)
        · refine V.iconst (q := 120) (v := nI 0) C dX2_isFactor_119 rfl (by decide) ?_
          exact V.zreturn C dX2_isFactor_120 rfl ⟨ct, ⟨OtC.rf, fun q => absurd (show (false : Bool) = true from by rw [e4] at q; exact q) Bool.false_ne_true⟩, by rw [e4]; rfl, by rw [e4], rfl⟩
  · rw [e1, e2]
    have hj6 : j < 6 := hj
    refine V.istore_n (q := 83) C dX2_isFactor_82 rfl (by decide) rfl rfl ?_
    refine V.iload_n (q := 84) C dX2_isFactor_83 rfl rfl ?_
    refine V.if_ge (q := 87) (tgt := 91) C dX2_isFactor_84 rfl rfl (fun hb84 => ?_) (fun hb84 => ?_)
    · refine V.aload_n (q := 92) C dX2_isFactor_91 rfl rfl ?_
      refine V.ldcS (q := 94) (i := 4) C (by decide) dX2_isFactor_92 rfl ?_
      refine V.callVi (q := 97) C me_X2_signOf (c_signOf (by decide) (by omega) (by omega) hT) ml_X2_68 dX2_isFactor_94 rfl okC_4 ⟨_, rfl⟩ rfl rfl (Nat.le_of_ble_eq_true rfl) (by omega) (Nat.zero_le _) (Nat.zero_le _) ?_
      rcases so_c (T := T) (sz := sz) (a := a + 1) (i := 4) (by decide) with ⟨f1, f2⟩ | ⟨k, hk4, f1, f2, f3, -⟩
      · rw [f1, f2]
        have e4 := te_B (Nm := Nm) hj6 e1 f1
        rw [← hR] at e4
        refine V.istore (q := 99) C dX2_isFactor_97 rfl (by decide) rfl rfl ?_
        refine V.iload (q := 101) C dX2_isFactor_99 rfl rfl ?_
        refine V.if_ge (q := 104) (tgt := 108) C dX2_isFactor_101 rfl rfl (fun hb101 => ?_) (fun hb101 => ?_)
        · exact absurd hb101 (by decide)
        · refine V.iconst (q := 105) (v := -1) C dX2_isFactor_104 rfl (by decide) ?_
          refine V.goto (tgt := 112) C dX2_isFactor_105 rfl ?_
          refine V.istore (q := 114) C dX2_isFactor_112 rfl (by decide) rfl rfl ?_
          refine V.iload (q := 116) C dX2_isFactor_114 rfl rfl ?_
          refine V.if_ge (q := 119) (tgt := 121) C dX2_isFactor_116 rfl rfl (fun hb116 => ?_) (fun hb116 => ?_)
          · exact absurd hb116 (by decide)
          · refine V.iconst (q := 120) (v := nI 0) C dX2_isFactor_119 rfl (by decide) ?_
            exact V.zreturn C dX2_isFactor_120 rfl ⟨ct, ⟨OtC.rf, fun q => absurd (e4.1.symm.trans q) Bool.false_ne_true⟩, congrArg (fun x => some (Value.int x)) (b2i_f (fun q => absurd (e4.1.symm.trans q) Bool.false_ne_true)).symm, by rw [e4.2], rfl⟩
      · rw [f1, f2]
        have hk3 : k < 3 := hk4
        have e4 := te_C (Nm := Nm) hj6 e1 hk3 f1
        rw [← hR] at e4
        refine V.istore (q := 99) C dX2_isFactor_97 rfl (by decide) rfl rfl ?_
        refine V.iload (q := 101) C dX2_isFactor_99 rfl rfl ?_
        refine V.if_ge (q := 104) (tgt := 108) C dX2_isFactor_101 rfl rfl (fun hb101 => ?_) (fun hb101 => ?_)
        · refine V.aload_n (q := 109) C dX2_isFactor_108 rfl rfl ?_
          refine V.callVi (q := 112) C me_X2_number (c_number (by omega) (by omega) hT) ml_X2_41 dX2_isFactor_109 rfl okC_4 ⟨_, rfl⟩ rfl rfl (Nat.le_of_ble_eq_true rfl) (by omega) (Nat.zero_le _) (Nat.zero_le _) ?_
          by_cases hn : (nuP T sz true (a + 2)).1 = true
          · obtain ⟨v, hv, ev⟩ := nu_v hT hn
            rw [show nuV (nuP T sz true (a + 2)) = nI v from by rw [nuV, if_pos hn, ev]]
            have h9 := nu_le (T := T) (sz := sz) (w := true) (a := a + 2) (by omega)
            refine V.istore (q := 114) C dX2_isFactor_112 rfl (by decide) rfl rfl ?_
            refine V.iload (q := 116) C dX2_isFactor_114 rfl rfl ?_
            refine V.if_ge (q := 119) (tgt := 121) C dX2_isFactor_116 rfl rfl (fun hb116 => ?_) (fun hb116 => ?_)
            · refine V.aload_n (q := 122) C dX2_isFactor_121 rfl rfl ?_
              refine V.iload_n (q := 123) C dX2_isFactor_122 rfl rfl ?_
              refine V.iconst (q := 124) (v := nI 3) C dX2_isFactor_123 rfl (by decide) ?_
              refine V.imul (q := 125) C dX2_isFactor_124 rfl ?_
              refine V.topi (x1 := nI (j * 3)) (pk_mul _ _) ?_
              refine V.iload (q := 127) C dX2_isFactor_125 rfl rfl ?_
              refine V.iadd (q := 128) C dX2_isFactor_127 rfl ?_
              refine V.topi (x1 := nI ((j * 3) + k)) (nI_add _ _) ?_
              refine V.iload (q := 130) C dX2_isFactor_128 rfl rfl ?_
              refine V.callVv (q := 133) C me_X0_put ((c_put (k := kc)) hc hk (by omega)) ml_X2_56 dX2_isFactor_130 rfl (okC_2 (by omega)) ⟨_, rfl⟩ rfl rfl (Nat.le_of_ble_eq_true rfl) (by omega) (Nat.zero_le _) (Nat.zero_le _) ?_
              refine V.iconst (q := 134) (v := nI 1) C dX2_isFactor_133 rfl (by decide) ?_
              exact V.zreturn C dX2_isFactor_134 rfl ⟨psh ct c kc (nI (j * 3 + k)) (nI v), ⟨ApC.one.1, fun _ => by rw [e4.2.2, ev]; exact ApC.one⟩, congrArg (fun x => some (Value.int x)) (b2i_t (e4.1.trans hn)).symm, by rw [e4.2.1], rfl⟩
            · exact absurd (nI_pos' (by omega)) hb116
          · rw [show nuV (nuP T sz true (a + 2)) = -1 from if_neg hn]
            refine V.istore (q := 114) C dX2_isFactor_112 rfl (by decide) rfl rfl ?_
            refine V.iload (q := 116) C dX2_isFactor_114 rfl rfl ?_
            refine V.if_ge (q := 119) (tgt := 121) C dX2_isFactor_116 rfl rfl (fun hb116 => ?_) (fun hb116 => ?_)
            · exact absurd hb116 (by decide)
            · refine V.iconst (q := 120) (v := nI 0) C dX2_isFactor_119 rfl (by decide) ?_
              exact V.zreturn C dX2_isFactor_120 rfl ⟨ct, ⟨OtC.rf, fun q => absurd (e4.1.symm.trans q) hn⟩, congrArg (fun x => some (Value.int x)) (b2i_f (fun q => absurd (e4.1.symm.trans q) hn)).symm, by rw [e4.2.1], rfl⟩
        · exact absurd (nI_pos' (by omega)) hb101
    · exact absurd (nI_pos' (by omega)) hb84
theorem fa_n {T : I1} {sz a k : Nat} {Nm : I1} (h : isA T sz true a (nI 33) = true) : faP T sz Nm (k + 1) true a = ((faP T sz Nm k true (a + 1)).1, (faP T sz Nm k true (a + 1)).2.1, (faP T sz Nm k true (a + 1)).2.2.1 ++ [(nI 20, nI 0)], !(faP T sz Nm k true (a + 1)).2.2.2) := by rw [faP, if_pos h]
theorem fa_p {T : I1} {sz a k : Nat} {Nm : I1} (h : ¬ isA T sz true a (nI 33) = true) (h2 : isA T sz true a (nI 40) = true) : faP T sz Nm (k + 1) true a = ((tkP T sz (nI 41) (anP (faP T sz Nm k) T sz true (a + 1)).1 (anP (faP T sz Nm k) T sz true (a + 1)).2.1).1, (tkP T sz (nI 41) (anP (faP T sz Nm k) T sz true (a + 1)).1 (anP (faP T sz Nm k) T sz true (a + 1)).2.1).2, (anP (faP T sz Nm k) T sz true (a + 1)).2.2.1, (anP (faP T sz Nm k) T sz true (a + 1)).2.2.2) := by rw [faP, if_neg h, if_pos h2]
theorem fa_t {T : I1} {sz a k : Nat} {Nm : I1} (h : ¬ isA T sz true a (nI 33) = true) (h2 : ¬ isA T sz true a (nI 40) = true) : faP T sz Nm (k + 1) true a = teP T sz Nm true a := by rw [faP, if_neg h, if_neg h2]
theorem c_fac_0 {l : Launch} {g : GG} {X : PHp} {h0 : HZ} {cl : I2} {T : I1} {sz : Nat} {B : I2} {cy : Nat → Nat} {rw : RWt} {tl : TLt} {sp : SPt} {c : Nat} {Nm : I1} (hc : c < 7) (hsz : sz ≤ 100) (hT : ∀ j, j < sz → ∃ c, c < 128 ∧ T j = nI c) : ∀ (ct : CTt) (a kc : Nat), kc ≤ a → a ≤ sz → ct.2.2.1 c = nI kc → Ct l g yX2_isFactor cX2_isFactor 6 (some .boolean) (6 + 3 * 0) 0 0 [rf g (4, 0, 0), rf g (2, c, 0), .int (nI 4)] NN (jn (hC g h0 ct cl (T, nI sz, nI a) B cy rw tl sp) X) (xI (fun z : CTt => ApO ct z c kc (faP T sz Nm 0 true a)) (fun _ => b2i ((faP T sz Nm 0 true a).1 = true)) (fun z => (jn (hC g h0 z cl (T, nI sz, nI (faP T sz Nm 0 true a).2.1) B cy rw tl sp) X))) := by
  intro ct a kc hka ha hk
  refine Ct.of (lv := [some (rf g (4, 0, 0)), some (rf g (2, c, 0)), some (.int (nI 4)), none, none, none]) (by decide +kernel) rfl (Nat.le_of_ble_eq_true rfl) ?_
  intro Γ C
  refine V.iload_n (q := 1) C dX2_isFactor_0 rfl rfl ?_
  refine V.iconst (q := 2) (v := nI 4) C dX2_isFactor_1 rfl (by decide) ?_
  refine V.icmp_ge (q := 5) (tgt := 36) C dX2_isFactor_2 rfl rfl (fun hb2 => ?_) (fun hb2 => ?_)
  · refine V.iload_n (q := 37) C dX2_isFactor_36 rfl rfl ?_
    refine V.iconst (q := 38) (v := nI 4) C dX2_isFactor_37 rfl (by decide) ?_
    refine V.icmp_ge (q := 41) (tgt := 76) C dX2_isFactor_38 rfl rfl (fun hb38 => ?_) (fun hb38 => ?_)
    · exact c_fac_t (R := faP T sz Nm 0 true a) (lv := 3 * 0) rfl hc hsz ha hT hka hk C
    · exact absurd (by decide) hb38
  · exact absurd (by decide) hb2
theorem c_fac_s {l : Launch} {g : GG} {X : PHp} {h0 : HZ} {cl : I2} {T : I1} {sz : Nat} {B : I2} {cy : Nat → Nat} {rw : RWt} {tl : TLt} {sp : SPt} {c k d : Nat} {Nm : I1} (hc : c < 7) (hsz : sz ≤ 100) (hT : ∀ j, j < sz → ∃ c, c < 128 ∧ T j = nI c) (hd : d + (k + 1) = 4) (hF : ∀ (ct : CTt) (a kc : Nat), kc ≤ a → a ≤ sz → ct.2.2.1 c = nI kc → Ct l g yX2_isFactor cX2_isFactor 6 (some .boolean) (6 + 3 * k) 0 0 [rf g (4, 0, 0), rf g (2, c, 0), .int (nI (d + 1))] NN (jn (hC g h0 ct cl (T, nI sz, nI a) B cy rw tl sp) X) (xI (fun z : CTt => ApO ct z c kc (faP T sz Nm k true a)) (fun _ => b2i ((faP T sz Nm k true a).1 = true)) (fun z => (jn (hC g h0 z cl (T, nI sz, nI (faP T sz Nm k true a).2.1) B cy rw tl sp) X)))) (hE : ∀ (ct : CTt) (a kc : Nat), kc ≤ a → a ≤ sz → ct.2.2.1 c = nI kc → Ct l g yX2_isEither cX2_isEither 4 (some .boolean) (8 + 3 * k) 0 0 [rf g (4, 0, 0), rf g (2, c, 0), .int (nI (d + 1))] NN (jn (hC g h0 ct cl (T, nI sz, nI a) B cy rw tl sp) X) (xI (fun z : CTt => ApO ct z c kc (anP (faP T sz Nm k) T sz true a)) (fun _ => b2i ((anP (faP T sz Nm k) T sz true a).1 = true)) (fun z => (jn (hC g h0 z cl (T, nI sz, nI (anP (faP T sz Nm k) T sz true a).2.1) B cy rw tl sp) X)))) : ∀ (ct : CTt) (a kc : Nat), kc ≤ a → a ≤ sz → ct.2.2.1 c = nI kc → Ct l g yX2_isFactor cX2_isFactor 6 (some .boolean) (6 + 3 * (k + 1)) 0 0 [rf g (4, 0, 0), rf g (2, c, 0), .int (nI d)] NN (jn (hC g h0 ct cl (T, nI sz, nI a) B cy rw tl sp) X) (xI (fun z : CTt => ApO ct z c kc (faP T sz Nm (k + 1) true a)) (fun _ => b2i ((faP T sz Nm (k + 1) true a).1 = true)) (fun z => (jn (hC g h0 z cl (T, nI sz, nI (faP T sz Nm (k + 1) true a).2.1) B cy rw tl sp) X))) := by
  intro ct a kc hka ha hk
  refine Ct.of (lv := [some (rf g (4, 0, 0)), some (rf g (2, c, 0)), some (.int (nI d)), none, none, none]) (by decide +kernel) rfl (Nat.le_of_ble_eq_true rfl) ?_
  intro Γ C
  refine V.iload_n (q := 1) C dX2_isFactor_0 rfl rfl ?_
  refine V.iconst (q := 2) (v := nI 4) C dX2_isFactor_1 rfl (by decide) ?_
  refine V.icmp_ge (q := 5) (tgt := 36) C dX2_isFactor_2 rfl rfl (fun hb2 => ?_) (fun hb2 => ?_)
  · exact absurd ((nI_leI (by omega) (by omega)).mp hb2) (by omega)
  · refine V.aload_n (q := 6) C dX2_isFactor_5 rfl rfl ?_
    refine V.bipush (q := 8) (v := nI 33) C dX2_isFactor_6 rfl (by decide) ?_
    refine V.callVi (q := 11) C me_X2_isSign (c_isSign (by omega) (by omega)) ml_X2_27 dX2_isFactor_8 rfl okC_4 ⟨_, rfl⟩ rfl rfl (Nat.le_of_ble_eq_true rfl) (by omega) (Nat.zero_le _) (Nat.zero_le _) ?_
    refine V.if_eqB (q := 14) (tgt := 36) C dX2_isFactor_11 rfl rfl (fun hb11 => ?_) (fun hb11 => ?_)
    · rw [tk_f2 hb11]
      refine V.iload_n (q := 37) C dX2_isFactor_36 rfl rfl ?_
      refine V.iconst (q := 38) (v := nI 4) C dX2_isFactor_37 rfl (by decide) ?_
      refine V.icmp_ge (q := 41) (tgt := 76) C dX2_isFactor_38 rfl rfl (fun hb38 => ?_) (fun hb38 => ?_)
      · exact absurd ((nI_leI (by omega) (by omega)).mp hb38) (by omega)
      · refine V.aload_n (q := 42) C dX2_isFactor_41 rfl rfl ?_
        refine V.bipush (q := 44) (v := nI 40) C dX2_isFactor_42 rfl (by decide) ?_
        refine V.callVi (q := 47) C me_X2_isSign (c_isSign (by omega) (by omega)) ml_X2_27 dX2_isFactor_44 rfl okC_4 ⟨_, rfl⟩ rfl rfl (Nat.le_of_ble_eq_true rfl) (by omega) (Nat.zero_le _) (Nat.zero_le _) ?_
        refine V.if_eqB (q := 50) (tgt := 76) C dX2_isFactor_47 rfl rfl (fun hb47 => ?_) (fun hb47 => ?_)
        · rw [tk_f2 hb47]
          exact c_fac_t (R := faP T sz Nm (k + 1) true a) (lv := 3 * (k + 1)) (fa_t hb11 hb47) hc hsz ha hT hka hk C
        · rw [tk_t2 hb47]
          have h7 := (isA_of hb47).2.1
          have h8 := an_in (T := T) (fa_in (T := T) (sz := sz) (Nm := Nm) k) true (a + 1) (by omega)
          refine V.aload_n (q := 51) C dX2_isFactor_50 rfl rfl ?_
          refine V.aload_n (q := 52) C dX2_isFactor_51 rfl rfl ?_
          refine V.iload_n (q := 53) C dX2_isFactor_52 rfl rfl ?_
          refine V.iconst (q := 54) (v := nI 1) C dX2_isFactor_53 rfl (by decide) ?_
          refine V.iadd (q := 55) C dX2_isFactor_54 rfl ?_
          refine V.topi (x1 := nI (d + 1)) (nI_add _ _) ?_
          refine V.callVxi (q := 58) C me_X2_isEither (hE ct (a + 1) kc (by omega) (by omega) hk) ml_X2_52 dX2_isFactor_55 rfl okC_4 ⟨_, rfl⟩ rfl rfl (Nat.le_of_ble_eq_true rfl) (by omega) (Nat.zero_le _) (Nat.zero_le _) (fun z1 hz1 => ?_)
          refine V.if_eqB (q := 61) (tgt := 74) C dX2_isFactor_58 rfl rfl (fun hb58 => ?_) (fun hb58 => ?_)
          · have eR : faP T sz Nm (k + 1) true a = (false, (anP (faP T sz Nm k) T sz true (a + 1)).2.1, (anP (faP T sz Nm k) T sz true (a + 1)).2.2.1, (anP (faP T sz Nm k) T sz true (a + 1)).2.2.2) := by
              rw [fa_p hb11 hb47, (Bool.eq_false_iff (b := (anP (faP T sz Nm k) T sz true (a + 1)).1)).mpr hb58, tk_0]
            refine V.iconst (q := 75) (v := nI 0) C dX2_isFactor_74 rfl (by decide) ?_
            exact V.zreturn C dX2_isFactor_75 rfl ⟨z1, by rw [eR]; exact ⟨hz1.1, fun q => absurd q Bool.false_ne_true⟩, by rw [eR]; rfl, by rw [eR], rfl⟩
          · refine V.aload_n (q := 62) C dX2_isFactor_61 rfl rfl ?_
            refine V.bipush (q := 64) (v := nI 41) C dX2_isFactor_62 rfl (by decide) ?_
            refine V.callVi (q := 67) C me_X2_isSign (c_isSign (by omega) (by omega)) ml_X2_27 dX2_isFactor_64 rfl okC_4 ⟨_, rfl⟩ rfl rfl (Nat.le_of_ble_eq_true rfl) (by omega) (Nat.zero_le _) (Nat.zero_le _) ?_
            refine V.if_eqB (q := 70) (tgt := 74) C dX2_isFactor_67 rfl rfl (fun hb67 => ?_) (fun hb67 => ?_)
            · rw [tk_f2 hb67]
              have eR : faP T sz Nm (k + 1) true a = (false, (anP (faP T sz Nm k) T sz true (a + 1)).2.1, (anP (faP T sz Nm k) T sz true (a + 1)).2.2.1, (anP (faP T sz Nm k) T sz true (a + 1)).2.2.2) := by
                rw [fa_p hb11 hb47, hb58, tk_f hb67]
              refine V.iconst (q := 75) (v := nI 0) C dX2_isFactor_74 rfl (by decide) ?_
              exact V.zreturn C dX2_isFactor_75 rfl ⟨z1, by rw [eR]; exact ⟨hz1.1, fun q => absurd q Bool.false_ne_true⟩, by rw [eR]; rfl, by rw [eR], rfl⟩
            · rw [tk_t2 hb67]
              have eR : faP T sz Nm (k + 1) true a = (true, (anP (faP T sz Nm k) T sz true (a + 1)).2.1 + 1, (anP (faP T sz Nm k) T sz true (a + 1)).2.2.1, (anP (faP T sz Nm k) T sz true (a + 1)).2.2.2) := by
                rw [fa_p hb11 hb47, hb58, tk_t hb67]
              refine V.iconst (q := 71) (v := nI 1) C dX2_isFactor_70 rfl (by decide) ?_
              refine V.goto (tgt := 75) C dX2_isFactor_71 rfl ?_
              exact V.zreturn C dX2_isFactor_75 rfl ⟨z1, by rw [eR]; exact ⟨hz1.1, fun _ => hz1.2 hb58⟩, by rw [eR]; rfl, by rw [eR], rfl⟩
    · rw [tk_t2 hb11]
      have h7 := (isA_of hb11).2.1
      have h8 := fa_in (T := T) (sz := sz) (Nm := Nm) k true (a + 1) (by omega)
      have h9 := fa_len (T := T) (sz := sz) (Nm := Nm) k (a + 1)
      refine V.aload_n (q := 15) C dX2_isFactor_14 rfl rfl ?_
      refine V.aload_n (q := 16) C dX2_isFactor_15 rfl rfl ?_
      refine V.iload_n (q := 17) C dX2_isFactor_16 rfl rfl ?_
      refine V.iconst (q := 18) (v := nI 1) C dX2_isFactor_17 rfl (by decide) ?_
      refine V.iadd (q := 19) C dX2_isFactor_18 rfl ?_
      refine V.topi (x1 := nI (d + 1)) (nI_add _ _) ?_
      refine V.callVxi (q := 22) C me_X2_isFactor (hF ct (a + 1) kc (by omega) (by omega) hk) ml_X2_63 dX2_isFactor_19 rfl okC_4 ⟨_, rfl⟩ rfl rfl (Nat.le_of_ble_eq_true rfl) (by omega) (Nat.zero_le _) (Nat.zero_le _) (fun z1 hz1 => ?_)
      refine V.if_neB (q := 25) (tgt := 27) C dX2_isFactor_22 rfl rfl (fun hb22 => ?_) (fun hb22 => ?_)
      · have hl := h9 hb22
        refine V.aload_n (q := 28) C dX2_isFactor_27 rfl rfl ?_
        refine V.bipush (q := 30) (v := nI 20) C dX2_isFactor_28 rfl (by decide) ?_
        refine V.iconst (q := 31) (v := nI 0) C dX2_isFactor_30 rfl (by decide) ?_
        refine V.callVv (q := 34) C me_X0_put ((c_put (k := kc + (faP T sz Nm k true (a + 1)).2.2.1.length)) hc (hz1.2 hb22).cnt (by omega)) ml_X2_56 dX2_isFactor_31 rfl (okC_2 (by omega)) ⟨_, rfl⟩ rfl rfl (Nat.le_of_ble_eq_true rfl) (by omega) (Nat.zero_le _) (Nat.zero_le _) ?_
        refine V.iconst (q := 35) (v := nI 1) C dX2_isFactor_34 rfl (by decide) ?_
        exact V.zreturn C dX2_isFactor_35 rfl ⟨psh z1 c (kc + (faP T sz Nm k true (a + 1)).2.2.1.length) (nI 20) (nI 0), by rw [fa_n hb11]; exact ⟨(hz1.2 hb22).ap.1, fun _ => (hz1.2 hb22).ap⟩, by rw [fa_n hb11]; exact congrArg (fun x => some (Value.int x)) (b2i_t hb22).symm, by rw [fa_n hb11], rfl⟩
      · refine V.iconst (q := 26) (v := nI 0) C dX2_isFactor_25 rfl (by decide) ?_
        exact V.zreturn C dX2_isFactor_26 rfl ⟨z1, by rw [fa_n hb11]; exact ⟨hz1.1, fun q => absurd q hb22⟩, by rw [fa_n hb11]; exact congrArg (fun x => some (Value.int x)) (b2i_f hb22).symm, by rw [fa_n hb11], rfl⟩
theorem c_eith_of {l : Launch} {g : GG} {X : PHp} {h0 : HZ} {cl : I2} {T : I1} {sz : Nat} {B : I2} {cy : Nat → Nat} {rw : RWt} {tl : TLt} {sp : SPt} {c d k : Nat} {Nm : I1} (hc : c < 7) (hsz : sz ≤ 100) (hT : ∀ j, j < sz → ∃ c, c < 128 ∧ T j = nI c) (hF : ∀ (ct : CTt) (a kc : Nat), kc ≤ a → a ≤ sz → ct.2.2.1 c = nI kc → Ct l g yX2_isFactor cX2_isFactor 6 (some .boolean) (6 + 3 * k) 0 0 [rf g (4, 0, 0), rf g (2, c, 0), .int (nI d)] NN (jn (hC g h0 ct cl (T, nI sz, nI a) B cy rw tl sp) X) (xI (fun z : CTt => ApO ct z c kc (faP T sz Nm k true a)) (fun _ => b2i ((faP T sz Nm k true a).1 = true)) (fun z => (jn (hC g h0 z cl (T, nI sz, nI (faP T sz Nm k true a).2.1) B cy rw tl sp) X)))) : ∀ (ct : CTt) (a kc : Nat), kc ≤ a → a ≤ sz → ct.2.2.1 c = nI kc → Ct l g yX2_isEither cX2_isEither 4 (some .boolean) (8 + 3 * k) 0 0 [rf g (4, 0, 0), rf g (2, c, 0), .int (nI d)] NN (jn (hC g h0 ct cl (T, nI sz, nI a) B cy rw tl sp) X) (xI (fun z : CTt => ApO ct z c kc (anP (faP T sz Nm k) T sz true a)) (fun _ => b2i ((anP (faP T sz Nm k) T sz true a).1 = true)) (fun z => (jn (hC g h0 z cl (T, nI sz, nI (anP (faP T sz Nm k) T sz true a).2.1) B cy rw tl sp) X))) :=
  fun ct a kc hka ha hk => c_isEither (p := boP (faP T sz Nm k) T sz) (lv := 7 + 3 * k) (by omega) hc hsz (bo_in (T := T) (fa_in k)) (bo_len (fa_len k)) (fun ct a kc hka ha hk => c_isBoth (p := faP T sz Nm k) (lv := 6 + 3 * k) (by omega) hc hsz (fa_in k) (fa_len k) hF (by omega) hka ha hk) (by omega) hka ha hk
theorem c_fac {l : Launch} {g : GG} {X : PHp} {h0 : HZ} {cl : I2} {T : I1} {sz : Nat} {B : I2} {cy : Nat → Nat} {rw : RWt} {tl : TLt} {sp : SPt} {c : Nat} {Nm : I1} (hc : c < 7) (hsz : sz ≤ 100) (hT : ∀ j, j < sz → ∃ c, c < 128 ∧ T j = nI c) : ∀ k d : Nat, d + k = 4 → ∀ (ct : CTt) (a kc : Nat), kc ≤ a → a ≤ sz → ct.2.2.1 c = nI kc → Ct l g yX2_isFactor cX2_isFactor 6 (some .boolean) (6 + 3 * k) 0 0 [rf g (4, 0, 0), rf g (2, c, 0), .int (nI d)] NN (jn (hC g h0 ct cl (T, nI sz, nI a) B cy rw tl sp) X) (xI (fun z : CTt => ApO ct z c kc (faP T sz Nm k true a)) (fun _ => b2i ((faP T sz Nm k true a).1 = true)) (fun z => (jn (hC g h0 z cl (T, nI sz, nI (faP T sz Nm k true a).2.1) B cy rw tl sp) X))) := by
  intro k
  induction k with
  | zero =>
    intro d hd
    obtain rfl : d = 4 := by omega
    exact c_fac_0 hc hsz hT
  | succ k ih =>
    intro d hd
    exact c_fac_s hc hsz hT hd (ih (d + 1) (by omega)) (c_eith_of hc hsz hT (ih (d + 1) (by omega)))
theorem c_eith {l : Launch} {g : GG} {X : PHp} {h0 : HZ} {cl : I2} {T : I1} {sz : Nat} {B : I2} {cy : Nat → Nat} {rw : RWt} {tl : TLt} {sp : SPt} {c : Nat} {Nm : I1} (hc : c < 7) (hsz : sz ≤ 100) (hT : ∀ j, j < sz → ∃ c, c < 128 ∧ T j = nI c) {ct : CTt} {a kc : Nat} (hka : kc ≤ a) (ha : a ≤ sz) (hk : ct.2.2.1 c = nI kc) : Ct l g yX2_isEither cX2_isEither 4 (some .boolean) (20) 0 0 [rf g (4, 0, 0), rf g (2, c, 0), .int (nI 0)] NN (jn (hC g h0 ct cl (T, nI sz, nI a) B cy rw tl sp) X) (xI (fun z : CTt => ApO ct z c kc (anP (faP T sz Nm 4) T sz true a)) (fun _ => b2i ((anP (faP T sz Nm 4) T sz true a).1 = true)) (fun z => (jn (hC g h0 z cl (T, nI sz, nI (anP (faP T sz Nm 4) T sz true a).2.1) B cy rw tl sp) X))) := c_eith_of hc hsz hT (c_fac hc hsz hT 4 0 rfl) ct a kc hka ha hk
