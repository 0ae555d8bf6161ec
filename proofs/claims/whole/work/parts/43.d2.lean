/-! the steps of a city are steps; what a city's text says is what its steps reckon -/
def Ste (L : List (Int32 × Int32)) : Prop := ∀ p, p ∈ L → ∃ t, t < 22 ∧ p.1 = nI t
theorem Ste.app {L L2 : List (Int32 × Int32)} (h : Ste L) (h2 : Ste L2) : Ste (L ++ L2) := fun p hp => (List.mem_append.mp hp).elim (h p) (h2 p)
theorem Ste.one {t : Nat} {v : Int32} (h : t < 22) : Ste [(nI t, v)] := fun p hp => ⟨t, h, by rw [List.mem_singleton.mp hp]⟩
theorem Ste.nil : Ste [] := fun p hp => absurd hp List.not_mem_nil
theorem st_te {T : I1} {sz a : Nat} {w : Bool} {Nm : I1} : (teP T sz Nm w a).1 = true → w = true → Ste (teP T sz Nm w a).2.2.1 := by
  rintro h rfl
  rcases so_c (T := T) (sz := sz) (a := a) (i := 3) (by decide) with ⟨e, -⟩ | ⟨j, hj, e, -⟩
  · rw [te_A e] at h; exact absurd h Bool.false_ne_true
  · have hj6 : j < 6 := hj
    rcases so_4 (T := T) (sz := sz) (a := a + 1) with ⟨f, -⟩ | ⟨k, hk, f, f1, f2⟩
    · rw [(te_B (Nm := Nm) hj6 e f).1] at h; exact absurd h Bool.false_ne_true
    · rw [(te_C (Nm := Nm) hj6 e hk f).2.2]
      exact Ste.one (by omega)
def SteP (p : Bool → Nat → PR) : Prop := ∀ a, (p true a).1 = true → Ste (p true a).2.2.1
theorem st_tl {p : Bool → Nat → PR} {T : I1} {sz t : Nat} {sep : Int32} {cmb : Bool → Bool → Bool} (ht : t < 22) (hp : SteP p) : ∀ (f : Nat) (r : PR), (r.1 = true → Ste r.2.2.1) → (tlP p T sz sep (nI t) cmb f r).1 = true → Ste (tlP p T sz sep (nI t) cmb f r).2.2.1 := by
  intro f
  induction f with
  | zero => intro r hr h; exact hr h
  | succ f ih =>
    intro r hr h
    unfold tlP at h ⊢
    split at h
    · next q =>
      rw [if_pos q]
      exact ih _ (fun h2 => ((hr (isA_of q).1).app (hp _ h2)).app (Ste.one ht)) h
    · next q =>
      rw [if_neg q]
      exact hr h
theorem st_bo {p : Bool → Nat → PR} {T : I1} {sz : Nat} (hp : SteP p) : SteP (boP p T sz) := fun a h => st_tl (by omega) hp sz _ (fun h2 => hp a h2) h
theorem st_an {p : Bool → Nat → PR} {T : I1} {sz : Nat} (hp : SteP p) : SteP (anP p T sz) := fun a h => st_tl (by omega) (st_bo hp) sz _ (fun h2 => st_bo hp a h2) h
theorem st_fa {T : I1} {sz : Nat} {Nm : I1} : ∀ k, SteP (faP T sz Nm k) := by
  intro k
  induction k with
  | zero => intro a h; exact st_te h rfl
  | succ k ih =>
    intro a h
    unfold faP at h ⊢
    split at h
    · next q => rw [if_pos q]; exact (ih _ h).app (Ste.one (by omega))
    · next q =>
      rw [if_neg q]
      split at h
      · next q2 => rw [if_pos q2]; exact st_an ih _ (isA_of (tk_w h)).1
      · next q2 => rw [if_neg q2]; exact st_te h rfl
theorem st_cl {T : I1} {sz a d : Nat} {Nm : I1} {S Rb : Int32} (h : (clP T sz Nm true a S Rb d).1 = true) : Ste (clP T sz Nm true a S Rb d).2.2.1 := by
  have key : ∀ ws firm, (csP T sz Nm ws firm a S Rb).1 = true → Ste (csP T sz Nm ws firm a S Rb).2.2.1 := by
    intro ws firm h
    obtain ⟨p, e⟩ : ∃ p, wdP T sz ws true a = p := ⟨_, rfl⟩
    obtain ⟨b, p⟩ := p
    cases b with
    | false => rw [(cs_1 e).1] at h; exact absurd h Bool.false_ne_true
    | true =>
      by_cases h2 : (nuP T sz true p).1 = true
      · by_cases h3 : isA T sz true (nuP T sz true p).2.1 (nI 32) = true
        · obtain ⟨e1, -, e3, -⟩ := cs_4 (Nm := Nm) (firm := firm) (S := S) (Rb := Rb) e h2 h3
          rw [e1] at h
          rw [e3]
          exact (st_an (T := T) (sz := sz) (st_fa 4) _ h).app (Ste.one (by omega))
        · rw [(cs_3 (Nm := Nm) (firm := firm) (S := S) (Rb := Rb) e h2 h3).1] at h; exact absurd h Bool.false_ne_true
      · rw [(cs_2 (Nm := Nm) (firm := firm) (S := S) (Rb := Rb) e h2).1] at h; exact absurd h Bool.false_ne_true
  unfold clP at h ⊢
  split at h
  · exact absurd h Bool.false_ne_true
  · next q1 =>
    rw [if_neg q1]
    split at h
    · next q2 => rw [if_pos q2]; exact key _ _ h
    · next q2 =>
      rw [if_neg q2]
      split at h
      · next q3 => rw [if_pos q3]; exact key _ _ h
      · next q3 => rw [if_neg q3]; exact Ste.nil
theorem st_ct {T : I1} {sz : Nat} {Nm : I1} : ∀ (f : Nat) (r : CR), (r.1 = true → r.2.1 ≤ sz ∧ Ste r.2.2.1 ∧ r.2.2.1.length ≤ r.2.1) → (ctP T sz Nm f r).1 = true → Ste (ctP T sz Nm f r).2.2.1 ∧ (ctP T sz Nm f r).2.2.1.length ≤ sz := by
  intro f
  induction f with
  | zero => intro r hr h; have := hr h; exact ⟨this.2.1, by show r.2.2.1.length ≤ sz; omega⟩
  | succ f ih =>
    intro r hr h
    by_cases h1 : r.1 = true
    · obtain ⟨q1, q2, q3⟩ := hr h1
      by_cases h2 : isA T sz true r.2.1 (nI 59) = true
      · rw [ct_go h1 h2] at h ⊢
        refine ih _ (fun h3 => ?_) h
        have h4 := (isA_of h2).2.1
        have h5 := cl_len (T := T) (sz := sz) (Nm := Nm) (S := r.2.2.2.1) (Rb := r.2.2.2.2.1) (d := r.2.2.2.2.2) (show r.2.1 + 1 ≤ sz by omega) h3
        have h6 := (cl_in (T := T) (sz := sz) (Nm := Nm) (w := true) (a := r.2.1 + 1) (S := r.2.2.2.1) (Rb := r.2.2.2.2.1) (d := r.2.2.2.2.2) (by omega)).2
        refine ⟨h6, q2.app (st_cl h3), ?_⟩
        show (r.2.2.1 ++ (clP T sz Nm true (r.2.1 + 1) r.2.2.2.1 r.2.2.2.2.1 r.2.2.2.2.2).2.2.1).length ≤ _
        rw [List.length_append]
        show _ ≤ (clP T sz Nm true (r.2.1 + 1) r.2.2.2.1 r.2.2.2.2.1 r.2.2.2.2.2).2.1
        omega
      · rw [ct_stop h1 h2] at h ⊢
        exact ⟨q2, by omega⟩
    · rw [ct_bad h1] at h ⊢
      exact absurd h h1
theorem st_ra {T : I1} {sz d : Nat} {Nm : I1} {S : Int32} (h : (raP T sz Nm S d).1 = true) : Ste (raP T sz Nm S d).2.2.1 ∧ (raP T sz Nm S d).2.2.1.length ≤ sz :=
  st_ct 9 _ (fun h => ⟨(cl_in (Nat.zero_le sz)).2, st_cl h, by have := cl_len (Nat.zero_le sz) h; omega⟩) h
/-- city c has been made of what R says -/
def CtK (ct : CTt) (c : Nat) (R : CR) : Prop := ct.2.2.1 c = nI R.2.2.1.length ∧ (∀ j p, R.2.2.1[j]? = some p → ct.1 c j = p.1 ∧ ct.2.1 c j = p.2) ∧ ct.2.2.2 c = R.2.2.2.2.1
/-- the cities are those of the texts -/
def CtR (ct : CTt) (rules sizes : I1) (r : Nat) : Prop := ct.2.2.1 0 = nI 0 ∧ ct.2.2.2 0 = nI 3 ∧ ∀ q, q < r → ∃ z, z ≤ 100 ∧ sizes q = nI z ∧ okP (rcP (rulT rules q) z) z = true ∧ CtK ct (q + 1) (rcP (rulT rules q) z)
def kcR (rules sizes : I1) : Nat → Nat
  | 0 => 0
  | q + 1 => (rcP (rulT rules q) (ix (sizes q))).2.2.1.length
theorem CtR.O {ct : CTt} {rules sizes : I1} {r q : Nat} (h : CtR ct rules sizes r) (hr : r ≤ 6) (hq : q ≤ r) : CtO ct q (kcR rules sizes q) := by
  cases q with
  | zero => exact ⟨by omega, h.1, by show 0 ≤ 100; omega, fun j hj => absurd hj (Nat.not_lt_zero j)⟩
  | succ q =>
    obtain ⟨z, hz, ez, hok, hk⟩ := h.2.2 q (by omega)
    have e : kcR rules sizes (q + 1) = (rcP (rulT rules q) z).2.2.1.length := by
      show (rcP (rulT rules q) (ix (sizes q))).2.2.1.length = _
      rw [ez, ix_k (by omega)]
    have hw : (rcP (rulT rules q) z).1 = true := by
      unfold okP at hok
      exact (Bool.and_eq_true _ _ ▸ hok).1
    have hs := st_ra (T := rulT rules q) (sz := z) (d := 0) (Nm := fun _ => 0) (S := 0) hw
    rw [e]
    refine ⟨by omega, hk.1, Nat.le_trans hs.2 hz, fun j hj => ?_⟩
    have hj9 := List.getElem?_eq_getElem hj
    obtain ⟨t, ht, et⟩ := hs.1 _ (List.getElem_mem hj)
    exact ⟨t, ht, (hk.2.1 j _ hj9).1.trans et⟩
theorem okP_w {R : CR} {z : Nat} (h : okP R z = true) : R.1 = true := by
  unfold okP at h
  exact (Bool.and_eq_true _ _ ▸ h).1
theorem nam_eq {b A : I1} {i : Nat} {s : Int32} (h : ∀ c, c < 9 → b (9 * i + c) = A (9 * i + c)) (h80 : b 80 = A 80) : namF b i s = namF A i s := by
  funext j
  unfold namF
  rw [h 0 (by omega), h 1 (by omega), h 2 (by omega), h80]
theorem su_R {ct : CTt} {rules sizes A b : I1} {r q i : Nat} {s : Int32} (hC : CtR ct rules sizes r) (hr : r ≤ 6) (hq : q ≤ r) (hA : A 81 = nI q) (h : ∀ c, c < 9 → b (9 * i + c) = A (9 * i + c)) (h80 : b 80 = A 80) :
    (suC (ct.1 q) (ct.2.1 q) (namF b i s) (kcR rules sizes q) (b (9 * i + 2) / nI 5, nI 0)).1 = (evR rules sizes A i s).1 ∧ (evR rules sizes A i s).2 = ct.2.2.2 q := by
  rw [nam_eq h h80, h 2 (by omega)]
  cases q with
  | zero =>
    rw [evR, if_pos hA]
    exact ⟨rfl, hC.2.1.symm⟩
  | succ q =>
    obtain ⟨z, hz, ez, hok, hk⟩ := hC.2.2 q (by omega)
    have hne : ¬ A 81 = nI 0 := by
      rw [hA]
      exact fun e => absurd ((nI_eq (by omega) (by omega)).mp e) (by omega)
    have e1 : ix (A 81) - 1 = q := by rw [hA, ix_k (by omega)]; omega
    have e2 : ix (sizes q) = z := by rw [ez, ix_k (by omega)]
    have hp := ra_p4 (T := rulT rules q) (sz := z) (Nm := fun _ => 0) (Nm1 := namF A i s) (S := 0) (S1 := A (9 * i + 2) / nI 5) (d := 0) (d1 := 0)
    simp only [p4, Prod.mk.injEq] at hp
    obtain ⟨p1, p2, p3, p5⟩ := hp
    have hw := okP_w hok
    rw [evR, if_neg hne, e1, e2]
    refine ⟨?_, ?_⟩
    · show (suC (ct.1 (q + 1)) (ct.2.1 (q + 1)) (namF A i s) (rcP (rulT rules q) (ix (sizes q))).2.2.1.length _).1 = _
      rw [e2, su_ev (rcP (rulT rules q) z).2.2.1 hk.2.1]
      show (evL (namF A i s) (raP (rulT rules q) z (fun _ => 0) 0 0).2.2.1 _).1 = _
      rw [p3, ev_ra (p1.symm.trans hw)]
    · rw [hk.2.2]
      exact p5.symm
theorem gd_eq {b A : I1} {i s : Nat} {S : Int32} (h : ∀ c, c < 9 → b (9 * i + c) = A (9 * i + c)) : gdV b i s S = gdV A i s S := by
  unfold gdV
  rw [h 0 (by omega), h 1 (by omega), h 2 (by omega), h 3 (by omega), h (5 + s % 4) (by omega)]
theorem gu_R {ct : CTt} {rules sizes A b : I1} {r q i s : Nat} (hC : CtR ct rules sizes r) (hr : r ≤ 6) (hq : q ≤ r) (hA : A 81 = nI q) (h : ∀ c, c < 9 → b (9 * i + c) = A (9 * i + c)) (h80 : b 80 = A 80) : guC ct q (kcR rules sizes q) b i s = guR rules sizes A i s := by
  rw [guC, guR, (su_R hC hr hq hA h h80).1, gd_eq h]
theorem ru_R {ct : CTt} {rules sizes A : I1} {r q : Nat} (hC : CtR ct rules sizes r) (hr : r ≤ 6) (hq : q ≤ r) (hA : A 81 = nI q) : ruR rules sizes A = ct.2.2.2 q := (su_R (b := A) hC hr hq hA (fun _ _ => rfl) rfl).2
/-! a world of the class is the reference's row, for the wearers that P names -/
def TR (P : Nat → Prop) (b A : I1) (n m : Nat) : Prop := (∀ i, i < n → P i → ∀ c, c < 9 → b (9 * i + c) = A (9 * i + c)) ∧ (∀ s, s < m → b (54 + 3 * s + 0) = A (54 + 3 * s + 0) ∧ b (54 + 3 * s + 1) = A (54 + 3 * s + 1) ∧ b (54 + 3 * s + 2) = noN (A (54 + 3 * s + 2))) ∧ b 80 = A 80
/-- every is above 0 -/
def EV (A : I1) (m : Nat) : Prop := ∀ s, s < m → ¬ A (54 + 3 * s + 1) ≤ 0
theorem EV_hi {A B : I1} {m : Nat} (hm : m ≤ 8) (h : ∀ k, 54 ≤ k → k ≠ 80 → B k = A k) (hA : EV A m) : EV B m := fun s hs => by rw [h _ (by omega) (by omega)]; exact hA s hs
theorem mnx (x : Int32) : mn99 (mx0 x) = mx0 (mn99 x) := by
  unfold mn99 mx0
  by_cases h : nI 0 < x
  · rw [if_pos h]
    by_cases h2 : x < nI 99
    · rw [if_pos h2, if_pos h]
    · rw [if_neg h2, if_pos (by decide)]
  · rw [if_neg h, if_pos (by decide)]
    by_cases h2 : x < nI 99
    · rw [if_pos h2, if_neg h]
    · exact absurd (Int32.lt_of_lt_of_le (show nI 0 < nI 99 by decide) (Int32.not_lt.mp h2)) h
theorem noN_t {x : Int32} {i : Nat} (h : x = nI i) (hi : i < 2 ^ 31) : noN x = nI i := by
  rw [noN, h, if_neg (nI_m1 hi)]
theorem sb_st {P : Nat → Prop} {b A : I1} {n m s : Nat} (hT : TR P b A n m) (hW : WI A n m) (hE : EV A m) (hs : s < m) : (sbC b n s = true ↔ stB A s = true) := by
  have hn := hW.2.1
  obtain ⟨e0, e1, e2⟩ := hT.2.1 s hs
  constructor
  · intro h
    obtain ⟨h1, h2, h3⟩ := sbC_of h
    refine stB_t (fun z => ?_) (by rw [← hT.2.2, ← e1]; exact h3)
    rw [e2, z] at h1
    exact absurd h1 (fun q => absurd (InN_iff.mp q).1 (by decide))
  · intro h
    obtain ⟨h1, h2⟩ := stB_of h
    rcases hW.2.2.2.2.2 s hs with h3 | ⟨i, hi, h3⟩
    · exact absurd h3 h1
    · refine sbC_t ?_ (by rw [e1]; exact hE s hs) (by rw [hT.2.2, e1]; exact h2)
      rw [e2, noN_t h3 (by omega)]
      exact InN_of (by omega) hi
/-- who goes: all, or the one that P names -/
def Who (one : Int32) (P : Nat → Prop) : Prop := (one = -1 ∧ ∀ i, P i) ∨ ∃ p, p < 6 ∧ one = nI p ∧ ∀ i, P i → i = p
theorem sk_eq {gv rub : Int32} {b A : I1} {rules sizes : I1} {s i : Nat} (hg : gv = guR rules sizes A i s) (h0 : b (54 + 3 * s + 0) = A (54 + 3 * s + 0)) (h : ∀ c, c < 9 → b (9 * i + c) = A (9 * i + c)) : ∀ c, c < 9 → skC gv rub b s i (9 * i + c) = skA rules sizes rub A s i (9 * i + c) := by
  intro c hc
  unfold skC skA
  rw [mnx, ← hg, h0]
  simp only [upd]
  rw [h 4 (by omega), h 3 (by omega), h 2 (by omega), h c hc]
theorem sk_o {gv rub : Int32} {b : I1} {s i k : Nat} (h2 : k ≠ 9 * i + 2) (h3 : k ≠ 9 * i + 3) (h4 : k ≠ 9 * i + 4) : skC gv rub b s i k = b k := by
  unfold skC
  simp only [upd]
  rw [if_neg h2, if_neg h3, if_neg h4]
theorem skA_o {rules sizes : I1} {rub : Int32} {b : I1} {s i k : Nat} (h2 : k ≠ 9 * i + 2) (h3 : k ≠ 9 * i + 3) (h4 : k ≠ 9 * i + 4) : skA rules sizes rub b s i k = b k := by
  unfold skA
  simp only [upd]
  rw [if_neg h2, if_neg h3, if_neg h4]
section GOT
variable {ct : CTt} {rules sizes : I1} {r q n m : Nat} {one : Int32} {P : Nat → Prop}
theorem goS_T {b A : I1} {s : Nat} (hC : CtR ct rules sizes r) (hr : r ≤ 6) (hq : q ≤ r) (hA : A 81 = nI q) (hT : TR P b A n m) (hW : WI A n m) (hE : EV A m) (ho : Who one P) (hs : s < m) : TR P (goS (guC ct q (kcR rules sizes q)) (ct.2.2.2 q) n one s b) (dyS rules sizes (ct.2.2.2 q) s A) n m := by
  have hn := hW.2.1
  have hm := hW.2.2.2.1
  obtain ⟨e0, e1, e2⟩ := hT.2.1 s hs
  by_cases h : stB A s = true
  · have hb := (sb_st hT hW hE hs).mpr h
    rcases hW.2.2.2.2.2 s hs with h3 | ⟨i, hi, h3⟩
    · exact absurd h3 (stB_of h).1
    · have eb : b (54 + 3 * s + 2) = nI i := e2.trans (noN_t h3 (by omega))
      have eA : dyS rules sizes (ct.2.2.2 q) s A = skA rules sizes (ct.2.2.2 q) A s i := by
        rw [dyS, if_pos h, h3, ix_k (by omega)]
      rw [eA]
      by_cases h1 : one = -1 ∨ b (54 + 3 * s + 2) = one
      · have eB : goS (guC ct q (kcR rules sizes q)) (ct.2.2.2 q) n one s b = skC (guC ct q (kcR rules sizes q) b i s) (ct.2.2.2 q) b s i := by
          rw [goS, if_pos ⟨h1, hb⟩, eb, ix_k (by omega)]
        rw [eB]
        refine ⟨fun j hj hPj c hc => ?_, fun t ht => ?_, ?_⟩
        · by_cases hij : j = i
          · subst hij
            exact sk_eq (gu_R hC hr hq hA (hT.1 j hj hPj) hT.2.2) e0 (hT.1 j hj hPj) c hc
          · rw [sk_o (by omega) (by omega) (by omega), skA_o (by omega) (by omega) (by omega)]
            exact hT.1 j hj hPj c hc
        · rw [skC_hi (by omega) (by omega), skC_hi (by omega) (by omega), skC_hi (by omega) (by omega), skA_hi (by omega) (by omega), skA_hi (by omega) (by omega), skA_hi (by omega) (by omega)]
          exact hT.2.1 t ht
        · rw [skC_hi (by omega) (by omega), skA_hi (by omega) (by omega)]
          exact hT.2.2
      · have eB : goS (guC ct q (kcR rules sizes q)) (ct.2.2.2 q) n one s b = b := by
          rw [goS, if_neg (fun z => h1 z.1)]
        rw [eB]
        refine ⟨fun j hj hPj c hc => ?_, fun t ht => ?_, ?_⟩
        · have hij : j ≠ i := by
            rintro rfl
            rcases ho with ⟨o1, -⟩ | ⟨p, -, o1, o2⟩
            · exact h1 (Or.inl o1)
            · exact h1 (Or.inr (by rw [eb, o1, o2 j hPj]))
          rw [skA_o (by omega) (by omega) (by omega)]
          exact hT.1 j hj hPj c hc
        · rw [skA_hi (by omega) (by omega), skA_hi (by omega) (by omega), skA_hi (by omega) (by omega)]
          exact hT.2.1 t ht
        · rw [skA_hi (by omega) (by omega)]
          exact hT.2.2
  · have hb : ¬ sbC b n s = true := fun z => h ((sb_st hT hW hE hs).mp z)
    rw [goS, if_neg (fun z => hb z.2), dyS, if_neg h]
    exact hT
theorem goL_T {b A : I1} (hC : CtR ct rules sizes r) (hr : r ≤ 6) (hq : q ≤ r) (hA : A 81 = nI q) (hT : TR P b A n m) (hW : WI A n m) (hE : EV A m) (ho : Who one P) : ∀ j, j ≤ m → TR P (goL (guC ct q (kcR rules sizes q)) (ct.2.2.2 q) n one j b) (dyL rules sizes (ct.2.2.2 q) j A) n m := by
  intro j
  induction j with
  | zero => intro _; exact hT
  | succ j ih =>
    intro hj
    have hhi := dyL_hi (rules := rules) (sizes := sizes) (rub := ct.2.2.2 q) hW j (by omega)
    exact goS_T hC hr hq ((hhi 81 (by omega)).trans hA) (ih (by omega)) (WI_hi (fun k hk _ => hhi k hk) hW) (EV_hi hW.2.2.2.1 (fun k hk _ => hhi k hk) hE) ho (by omega)
theorem goD_T {b A : I1} (hC : CtR ct rules sizes r) (hr : r ≤ 6) (hq : q ≤ r) (hA : A 81 = nI q) (hT : TR P b A n m) (hW : WI A n m) (hE : EV A m) (ho : Who one P) : TR P (goD (guC ct q (kcR rules sizes q)) (ct.2.2.2 q) n one m b) (dyA rules sizes m A) n m := by
  have hm := hW.2.2.2.1
  have hn := hW.2.1
  have h := goL_T hC hr hq hA hT hW hE ho m (Nat.le_refl m)
  rw [dyA, ru_R hC hr hq hA, goD]
  refine ⟨fun i hi hP c hc => ?_, fun s hs => ?_, ?_⟩
  · rw [upd, upd, if_neg (by omega), if_neg (by omega)]
    exact h.1 i hi hP c hc
  · simp only [upd]
    rw [if_neg (by omega), if_neg (by omega), if_neg (by omega), if_neg (by omega), if_neg (by omega), if_neg (by omega)]
    exact h.2.1 s hs
  · rw [upd, upd, if_pos rfl, if_pos rfl, h.2.2]
theorem goN_T {b A : I1} (hC : CtR ct rules sizes r) (hr : r ≤ 6) (hq : q ≤ r) (hA : A 81 = nI q) (hT : TR P b A n m) (hW : WI A n m) (hE : EV A m) (ho : Who one P) : ∀ k, TR P (goN (guC ct q (kcR rules sizes q)) (ct.2.2.2 q) n one m k b) (dsA rules sizes m k A) n m := by
  intro k
  induction k with
  | zero => exact hT
  | succ k ih =>
    exact goD_T hC hr hq ((dsA_hi hW k 81 (by omega) (by omega)).trans hA) ih (dsA_W hW) (EV_hi hW.2.2.2.1 (dsA_hi hW k) hE) ho
end GOT
