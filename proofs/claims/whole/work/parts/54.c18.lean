/-! constructors that make others -/
theorem vt0 : vaT 0 = (0, 0, 0) ∧ vaT 1 = (1, 0, 0) ∧ vaT 2 = (4, 0, 0) ∧ vaT (2 + 1) = (5, 0, 0) ∧ vaT 119 = (17, 0, 0) ∧ vaT (119 + 1) = (18, 0, 0) ∧ vaT 121 = (19, 0, 0) := by decide +kernel
theorem vtD : ∀ u, u < 3 → vaT (4 + 27 * u + 3) = (2, wc u, 0) ∧ vaT (4 + 27 * u + 3 + 1) = (3, wc u, 0) ∧ vaT (4 + 27 * u + 3 + 2) = (3, wc u, 1) ∧ vaT (4 + 27 * u + 3 + 3) = (3, wc u, 2) := by decide +kernel
theorem vtW : ∀ u, u < 3 → vaT (4 + 27 * u) = (6, u, 0) ∧ vaT (4 + 27 * u + 1) = (7, u, 0) ∧ vaT (4 + 27 * u + 2) = (8, u, 0) := by decide +kernel
theorem vtP : ∀ u, u < 3 → ∀ p, p < 6 → vaT (4 + 27 * u + 7 + 2 * p) = (9, u, p) ∧ vaT (4 + 27 * u + 7 + 2 * p + 1) = (10, u, p) := by decide +kernel
theorem vtS : ∀ u, u < 3 → ∀ s, s < 8 → vaT (4 + 27 * u + 19 + s) = (11, u, s) := by decide +kernel
theorem vtH : ∀ h, h < 2 → vaT (85 + 17 * h) = (12, h, 0) := by decide +kernel
theorem vtR : ∀ h, h < 2 → ∀ r, r < 4 → vaT (85 + 17 * h + 1 + 4 * r) = (13, h, r) ∧ vaT (85 + 17 * h + 1 + 4 * r + 1) = (14, h, r) ∧ vaT (85 + 17 * h + 1 + 4 * r + 2) = (15, h, r) ∧ vaT (85 + 17 * h + 1 + 4 * r + 3) = (16, h, r) := by decide +kernel
theorem vtC : ∀ c, c < 6 → vaT (122 + 4 * c) = (2, c + 1, 0) ∧ vaT (122 + 4 * c + 1) = (3, c + 1, 0) ∧ vaT (122 + 4 * c + 2) = (3, c + 1, 1) ∧ vaT (122 + 4 * c + 3) = (3, c + 1, 2) := by decide +kernel
theorem vtT : ∀ t, t < 6 → vaT (146 + 2 * t) = (20, t, 0) ∧ vaT (146 + 2 * t + 1) = (21, t, 0) := by decide +kernel
theorem dfX0 : ∀ j, j < 5 → defaultValue (tyX0 j) = vp_V [.null, .null, .null, .int 0, .int 0] j := fun j hj => by rcases (show j = 0 ∨ j = 1 ∨ j = 2 ∨ j = 3 ∨ j = 4 by omega) with rfl | rfl | rfl | rfl | rfl <;> rfl
theorem dfX1 : ∀ j, j < 4 → defaultValue (tyX1 j) = vp_V [.null, .null, .null, .null] j := fun j hj => by rcases (show j = 0 ∨ j = 1 ∨ j = 2 ∨ j = 3 by omega) with rfl | rfl | rfl | rfl <;> rfl
theorem dfX2 : ∀ j, j < 3 → defaultValue (tyX2 j) = vp_V [.null, .int 0, .int 0] j := fun j hj => by rcases (show j = 0 ∨ j = 1 ∨ j = 2 by omega) with rfl | rfl | rfl <;> rfl
theorem dfX3 : ∀ j, j < 4 → defaultValue (tyX3 j) = vp_V [.null, .null, .null, .int 0] j := fun j hj => by rcases (show j = 0 ∨ j = 1 ∨ j = 2 ∨ j = 3 by omega) with rfl | rfl | rfl | rfl <;> rfl
theorem dfX4 : ∀ j, j < 3 → defaultValue (tyX4 j) = vp_V [.int 0, .int 0, .int 0] j := fun j hj => by rcases (show j = 0 ∨ j = 1 ∨ j = 2 by omega) with rfl | rfl | rfl <;> rfl
theorem dfX5 : ∀ j, j < 3 → defaultValue (tyX5 j) = vp_V [.null, .int 0, .int 0] j := fun j hj => by rcases (show j = 0 ∨ j = 1 ∨ j = 2 by omega) with rfl | rfl | rfl <;> rfl
theorem dfX6 : ∀ j, j < 2 → defaultValue (tyX6 j) = vp_V [.null, .int 0] j := fun j hj => by rcases (show j = 0 ∨ j = 1 by omega) with rfl | rfl <;> rfl
theorem dfX7 : ∀ j, j < 7 → defaultValue (tyX7 j) = vp_V [.int 0, .null, .int 0, .int 0, .int 0, .int 0, .int 0] j := fun j hj => by rcases (show j = 0 ∨ j = 1 ∨ j = 2 ∨ j = 3 ∨ j = 4 ∨ j = 5 ∨ j = 6 by omega) with rfl | rfl | rfl | rfl | rfl | rfl | rfl <;> rfl
theorem dfX8 : ∀ j, j < 6 → defaultValue (tyX8 j) = vp_V [.null, .null, .int 0, .int 0, .int 0, .null] j := fun j hj => by rcases (show j = 0 ∨ j = 1 ∨ j = 2 ∨ j = 3 ∨ j = 4 ∨ j = 5 by omega) with rfl | rfl | rfl | rfl | rfl | rfl <;> rfl
theorem dfX9 : ∀ j, j < 11 → defaultValue (tyX9 j) = vp_V [.null, .null, .null, .null, .null, .null, .null, .null, .null, .int 0, .int 0] j := fun j hj => by rcases (show j = 0 ∨ j = 1 ∨ j = 2 ∨ j = 3 ∨ j = 4 ∨ j = 5 ∨ j = 6 ∨ j = 7 ∨ j = 8 ∨ j = 9 ∨ j = 10 by omega) with rfl | rfl | rfl | rfl | rfl | rfl | rfl | rfl | rfl | rfl | rfl <;> rfl
theorem dfX10 : ∀ j, j < 30 → defaultValue (tyX10 j) = vp_V [.null, .null, .null, .int 0, .null, .int 0, .null, .null, .int 0, .null, .int 0, .int 0, .int 0, .int 0, .int 0, .int 0, .null, .null, .null, .null, .null, .null, .null, .null, .null, .int 0, .null, .null, .null, .null] j := fun j hj => by rcases (show j = 0 ∨ j = 1 ∨ j = 2 ∨ j = 3 ∨ j = 4 ∨ j = 5 ∨ j = 6 ∨ j = 7 ∨ j = 8 ∨ j = 9 ∨ j = 10 ∨ j = 11 ∨ j = 12 ∨ j = 13 ∨ j = 14 ∨ j = 15 ∨ j = 16 ∨ j = 17 ∨ j = 18 ∨ j = 19 ∨ j = 20 ∨ j = 21 ∨ j = 22 ∨ j = 23 ∨ j = 24 ∨ j = 25 ∨ j = 26 ∨ j = 27 ∨ j = 28 ∨ j = 29 by omega) with rfl | rfl | rfl | rfl | rfl | rfl | rfl | rfl | rfl | rfl | rfl | rfl | rfl | rfl | rfl | rfl | rfl | rfl | rfl | rfl | rfl | rfl | rfl | rfl | rfl | rfl | rfl | rfl | rfl | rfl <;> rfl
set_option maxHeartbeats 1000000 in
theorem c_i8_w {l : Launch} {g : GG} {PH : PHp} {u : Nat} (hu : u < 3) {Γ : Cxt} {Q : State → Prop} (C : Cx Γ g cX8_init yX8_init 2 none 2 26 315) (kx : ∀ X : PHp, X (6, u, 0) = .inr (8, [rf g (7, u, 0), rf g (8, u, 0), .int (nI 0), .int (nI 0), .int (nI 0), rf g (2, wc u, 0)]) → X (7, u, 0) = aRp g 7 6 6 (fun j => (9, u, j)) → X (8, u, 0) = aRp g 5 8 0 (fun j => (11, u, j)) → Dn g PH (4 + 27 * u) [(4 + 27 * u) + 2, (4 + 27 * u) + 1, (4 + 27 * u)] ((4 + 27 * u) + 7 + 2 * 6) X → V l Γ g 2 Q (6 + 2 * 6) (225 + 11 * 6) ((4 + 27 * u) + 7 + 2 * 6) X 79 [some (rf g (6, u, 0)), some (.int (nI 6))] []) : ∀ (f p : Nat) (X : PHp), p + f = 6 → X (6, u, 0) = .inr (8, [rf g (7, u, 0), rf g (8, u, 0), .int (nI 0), .int (nI 0), .int (nI 0), rf g (2, wc u, 0)]) → X (7, u, 0) = aRp g 7 6 p (fun j => (9, u, j)) → X (8, u, 0) = aRp g 5 8 0 (fun j => (11, u, j)) → Dn g PH (4 + 27 * u) [(4 + 27 * u) + 2, (4 + 27 * u) + 1, (4 + 27 * u)] ((4 + 27 * u) + 7 + 2 * p) X → V l Γ g 2 Q (6 + 2 * p) (225 + 11 * p) ((4 + 27 * u) + 7 + 2 * p) X 50 [some (rf g (6, u, 0)), some (.int (nI p))] [] := by
  have hNN : NN = 179 := rfl
  obtain ⟨v6, v7, v8⟩ := vtW u hu
  intro f
  induction f with
  | zero =>
    intro p X hp h6 h7 h8 hD
    obtain rfl : p = 6 := by omega
    refine V.iload_n (q := 51) C dX8_init_50 rfl rfl ?_
    refine V.aload_n (q := 52) C dX8_init_51 rfl rfl ?_
    refine V.get (q := 55) C fl_X8_11 dX8_init_52 rfl (Ok_of v6 (by omega) (by omega)) h6 rfl ?_
    refine V.len_aRp (q := 56) C rfl dX8_init_55 rfl (Ok_of v7 (by omega) (by omega)) h7 ?_
    refine V.icmp_ge (q := 59) (tgt := 79) C dX8_init_56 rfl rfl (fun hb => ?_) (fun hb => ?_)
    · exact kx X h6 h7 h8 hD
    · exact absurd ((nI_leI (by omega) (by omega)).mpr (by omega)) hb
  | succ f ih =>
    intro p X hp h6 h7 h8 hD
    refine V.iload_n (q := 51) C dX8_init_50 rfl rfl ?_
    refine V.aload_n (q := 52) C dX8_init_51 rfl rfl ?_
    refine V.get (q := 55) C fl_X8_11 dX8_init_52 rfl (Ok_of v6 (by omega) (by omega)) h6 rfl ?_
    refine V.len_aRp (q := 56) C rfl dX8_init_55 rfl (Ok_of v7 (by omega) (by omega)) h7 ?_
    refine V.icmp_ge (q := 59) (tgt := 79) C dX8_init_56 rfl rfl (fun hb => ?_) (fun hb => ?_)
    · exact absurd ((nI_leI (by omega) (by omega)).mp hb) (by omega)
    · refine V.aload_n (q := 60) C dX8_init_59 rfl rfl ?_
      refine V.get (q := 63) C fl_X8_11 dX8_init_60 rfl (Ok_of v6 (by omega) (by omega)) h6 rfl ?_
      refine V.iload_n (q := 64) C dX8_init_63 rfl rfl ?_
      refine V.new (q := 67) (ci := 7) (fs := [.int 0, .null, .int 0, .int 0, .int 0, .int 0, .int 0]) (a := (9, u, p)) C uw_X7 tyX7_ok (tb_at 54 (by decide +kernel) rfl) (tb_at 84 (by decide +kernel) rfl) (tb_at 5 (by decide +kernel) rfl) rfl dfX7 dX8_init_64 rfl (by omega) (vtP u hu p (by omega)).1 rfl (by omega) (by omega) ?_
      refine V.dup (q := 68) C dX8_init_67 rfl rfl ?_
      refine V.iload_n (q := 69) C dX8_init_68 rfl rfl ?_
      refine V.callI (q := 72) (As := [.int (nI p)]) (rest := [rf g (9, u, p), .int (nI p), rf g (7, u, 0)]) C me_X7_init (c_i7 (PH := up X (9, u, p) (.inr (7, [.int 0, .null, .int 0, .int 0, .int 0, .int 0, .int 0]))) (show p < 6 by omega) (by omega) (vtP u hu p (by omega)).1 (vtP u hu p (by omega)).2 up_eq) ml_X8_40 dX8_init_69 rfl rfl rfl (Nat.le_of_ble_eq_true rfl) (by omega) (by omega) (by omega) (fun v X2 n2 hp => ?_)
      have e1 := hp.1
      subst e1
      have e2 := hp.2.1
      subst e2
      have h62 := (hp.at v6 (by omega) (by omega)).trans (up_n v6 (vtP u hu p (by omega)).1 (by omega) (by omega) (by omega) h6)
      have h72 := (hp.at v7 (by omega) (by omega)).trans (up_n v7 (vtP u hu p (by omega)).1 (by omega) (by omega) (by omega) h7)
      have h82 := (hp.at v8 (by omega) (by omega)).trans (up_n v8 (vtP u hu p (by omega)).1 (by omega) (by omega) (by omega) h8)
      have h92 := (hp.own (vtP u hu p (by omega)).1 (by omega)).trans (iH9 (by omega))
      have hD2 := Dn.call (hD.new (by omega) (vtP u hu p (by omega)).1) (by omega) hp
      refine V.astR (q := 73) (i := p) (len := 6) (t0 := 7) (ci := 7) (rr := (RX7, TX7, 7)) (f := fun j => (9, u, j)) C dX8_init_72 rfl (Ok_of v7 (by omega) (by omega)) h72 rfl (Ok_of (vtP u hu p (by omega)).1 (by omega) (by omega)) h92 rfl rfl (by omega) (by decide) rfl rfl ?_
      refine V.iinc (q := 76) (v := nI (p + 1)) C dX8_init_73 rfl rfl (nI_1 _) (by decide) rfl rfl ?_
      refine V.goto (tgt := 50) C dX8_init_76 rfl ?_
      refine V.cs (c2 := (6 + 2 * (p + 1))) (s2 := (225 + 11 * (p + 1))) (by omega) (by omega) (V.nn (n2 := ((4 + 27 * u) + 7 + 2 * (p + 1))) (by omega) ?_)
      exact ih (p + 1) _ (by omega) (up_n v6 v7 (by omega) (by omega) (by omega) h62) up_eq (up_n v8 v7 (by omega) (by omega) (by omega) h82) (fun j hj => (hD2.put (by omega) (by omega) v7 (by simp)) j (by omega))
set_option maxHeartbeats 1000000 in
theorem c_i8_s {l : Launch} {g : GG} {PH : PHp} {u : Nat} (hu : u < 3) {Γ : Cxt} {Q : State → Prop} (C : Cx Γ g cX8_init yX8_init 2 none 2 26 315) (kx : ∀ X : PHp, X (6, u, 0) = .inr (8, [rf g (7, u, 0), rf g (8, u, 0), .int (nI 0), .int (nI 0), .int (nI 0), rf g (2, wc u, 0)]) → X (7, u, 0) = aRp g 7 6 6 (fun j => (9, u, j)) → X (8, u, 0) = aRp g 5 8 8 (fun j => (11, u, j)) → Dn g PH (4 + 27 * u) [(4 + 27 * u) + 2, (4 + 27 * u) + 1, (4 + 27 * u)] ((4 + 27 * u) + 19 + 8) X → V l Γ g 2 Q (18 + 8) (291 + 3 * 8) ((4 + 27 * u) + 19 + 8) X 109 [some (rf g (6, u, 0)), some (.int (nI 8))] []) : ∀ (f p : Nat) (X : PHp), p + f = 8 → X (6, u, 0) = .inr (8, [rf g (7, u, 0), rf g (8, u, 0), .int (nI 0), .int (nI 0), .int (nI 0), rf g (2, wc u, 0)]) → X (7, u, 0) = aRp g 7 6 6 (fun j => (9, u, j)) → X (8, u, 0) = aRp g 5 8 p (fun j => (11, u, j)) → Dn g PH (4 + 27 * u) [(4 + 27 * u) + 2, (4 + 27 * u) + 1, (4 + 27 * u)] ((4 + 27 * u) + 19 + p) X → V l Γ g 2 Q (18 + p) (291 + 3 * p) ((4 + 27 * u) + 19 + p) X 81 [some (rf g (6, u, 0)), some (.int (nI p))] [] := by
  have hNN : NN = 179 := rfl
  obtain ⟨v6, v7, v8⟩ := vtW u hu
  intro f
  induction f with
  | zero =>
    intro p X hp h6 h7 h8 hD
    obtain rfl : p = 8 := by omega
    refine V.iload_n (q := 82) C dX8_init_81 rfl rfl ?_
    refine V.aload_n (q := 83) C dX8_init_82 rfl rfl ?_
    refine V.get (q := 86) C fl_X8_19 dX8_init_83 rfl (Ok_of v6 (by omega) (by omega)) h6 rfl ?_
    refine V.len_aRp (q := 87) C rfl dX8_init_86 rfl (Ok_of v8 (by omega) (by omega)) h8 ?_
    refine V.icmp_ge (q := 90) (tgt := 109) C dX8_init_87 rfl rfl (fun hb => ?_) (fun hb => ?_)
    · exact kx X h6 h7 h8 hD
    · exact absurd ((nI_leI (by omega) (by omega)).mpr (by omega)) hb
  | succ f ih =>
    intro p X hp h6 h7 h8 hD
    refine V.iload_n (q := 82) C dX8_init_81 rfl rfl ?_
    refine V.aload_n (q := 83) C dX8_init_82 rfl rfl ?_
    refine V.get (q := 86) C fl_X8_19 dX8_init_83 rfl (Ok_of v6 (by omega) (by omega)) h6 rfl ?_
    refine V.len_aRp (q := 87) C rfl dX8_init_86 rfl (Ok_of v8 (by omega) (by omega)) h8 ?_
    refine V.icmp_ge (q := 90) (tgt := 109) C dX8_init_87 rfl rfl (fun hb => ?_) (fun hb => ?_)
    · exact absurd ((nI_leI (by omega) (by omega)).mp hb) (by omega)
    · refine V.aload_n (q := 91) C dX8_init_90 rfl rfl ?_
      refine V.get (q := 94) C fl_X8_19 dX8_init_91 rfl (Ok_of v6 (by omega) (by omega)) h6 rfl ?_
      refine V.iload_n (q := 95) C dX8_init_94 rfl rfl ?_
      refine V.new (q := 98) (ci := 4) (fs := [.int 0, .int 0, .int 0]) (a := (11, u, p)) C uw_X4 tyX4_ok (tb_at 56 (by decide +kernel) rfl) (tb_at 127 (by decide +kernel) rfl) (tb_at 6 (by decide +kernel) rfl) rfl dfX4 dX8_init_95 rfl (by omega) (vtS u hu p (by omega)) rfl (by omega) (by omega) ?_
      refine V.dup (q := 99) C dX8_init_98 rfl rfl ?_
      refine V.callIN (q := 102) (As := []) (rest := [rf g (11, u, p), .int (nI p), rf g (8, u, 0)]) C me_X4_init (c_i4 (PH := up X (11, u, p) (.inr (4, [.int 0, .int 0, .int 0]))) (show p < 8 by omega) (by omega) (vtS u hu p (by omega)) up_eq) ml_X8_43 dX8_init_99 rfl rfl rfl (Nat.le_of_ble_eq_true rfl) (by omega) (by omega) (by omega) (fun v X2 n2 hp => ?_)
      have e1 := hp.1
      subst e1
      have e2 := hp.2.1
      subst e2
      have h62 := (hp.at v6 (by omega) (by omega)).trans (up_n v6 (vtS u hu p (by omega)) (by omega) (by omega) (by omega) h6)
      have h72 := (hp.at v7 (by omega) (by omega)).trans (up_n v7 (vtS u hu p (by omega)) (by omega) (by omega) (by omega) h7)
      have h82 := (hp.at v8 (by omega) (by omega)).trans (up_n v8 (vtS u hu p (by omega)) (by omega) (by omega) (by omega) h8)
      have h92 := (hp.own (vtS u hu p (by omega)) (by omega)).trans (iH11 (by omega))
      have hD2 := Dn.call (hD.new (by omega) (vtS u hu p (by omega))) (by omega) hp
      refine V.astR (q := 103) (i := p) (len := 8) (t0 := 5) (ci := 4) (rr := (RX4, TX4, 3)) (f := fun j => (11, u, j)) C dX8_init_102 rfl (Ok_of v8 (by omega) (by omega)) h82 rfl (Ok_of (vtS u hu p (by omega)) (by omega) (by omega)) h92 rfl rfl (by omega) (by decide) rfl rfl ?_
      refine V.iinc (q := 106) (v := nI (p + 1)) C dX8_init_103 rfl rfl (nI_1 _) (by decide) rfl rfl ?_
      refine V.goto (tgt := 81) C dX8_init_106 rfl ?_
      refine V.cs (c2 := (18 + (p + 1))) (s2 := (291 + 3 * (p + 1))) (by omega) (by omega) (V.nn (n2 := ((4 + 27 * u) + 19 + (p + 1))) (by omega) ?_)
      exact ih (p + 1) _ (by omega) (up_n v6 v8 (by omega) (by omega) (by omega) h62) (up_n v7 v8 (by omega) (by omega) (by omega) h72) up_eq (fun j hj => (hD2.put (by omega) (by omega) v8 (by simp)) j (by omega))
set_option maxHeartbeats 1000000 in
theorem c_i8 {l : Launch} {g : GG} {PH : PHp} {u : Nat} (hu : u < 3) (hP : PH (6, u, 0) = .inr (8, [.null, .null, .int 0, .int 0, .int 0, .null])) : Ct l g yX8_init cX8_init 2 none 2 26 315 [rf g (6, u, 0)] ((4 + 27 * u) + 1) PH (pN g PH (4 + 27 * u) ((4 + 27 * u) + 27)) := by
  refine Ct.of (lv := [some (rf g (6, u, 0)), none]) (by decide +kernel) rfl (Nat.le_of_ble_eq_true rfl) ?_
  intro Γ C
  have hNN : NN = 179 := rfl
  obtain ⟨v6, v7, v8⟩ := vtW u hu
  obtain ⟨w0, w1, w2, w3⟩ := vtD u hu
  have okA : ∀ n, (4 + 27 * u) < n → Ok (6, u, 0) n := fun n h => Ok_of v6 h (by omega)
  have n1 : ((6, u, 0) : VA) ≠ (7, u, 0) := by simp
  have n2 : ((6, u, 0) : VA) ≠ (8, u, 0) := by simp
  have d0 := Dn.base (g := g) (PH := PH) (i := (4 + 27 * u))
  refine V.aload_n (q := 1) C dX8_init_0 rfl rfl ?_
  refine V.objInit (q := 4) C (tb_at 53 (by decide +kernel) rfl) dX8_init_1 rfl (Nat.le_of_ble_eq_true rfl) (by omega) ?_
  refine V.aload_n (q := 5) C dX8_init_4 rfl rfl ?_
  refine V.bipush (q := 7) (v := nI 6) C dX8_init_5 rfl (by decide) ?_
  refine V.newR (q := 10) (N := 6) (t0 := 7) (a := (7, u, 0)) (f := fun j => (9, u, j)) C (tb_at 54 (by decide +kernel) rfl) (by decide) rfl rfl (by omega) dX8_init_7 rfl (by omega) v7 rfl (by omega) (by omega) ?_
  have d1 := d0.new (a := (7, u, 0)) (e := aRp g 7 6 0 (fun j => (9, u, j))) (by omega) v7
  refine V.putF (q := 13) C fl_X8_11 rfl rfl rfl dX8_init_10 rfl (okA _ (by omega)) ((up_ne n1).trans hP) (Nat.le_of_ble_eq_true rfl) rfl rfl (PH1 := up (up PH (7, u, 0) (aRp g 7 6 0 (fun j => (9, u, j)))) (6, u, 0) (.inr (8, [rf g (7, u, 0), .null, .int 0, .int 0, .int 0, .null]))) rfl ?_
  refine V.aload_n (q := 14) C dX8_init_13 rfl rfl ?_
  refine V.bipush (q := 16) (v := nI 8) C dX8_init_14 rfl (by decide) ?_
  refine V.newR (q := 19) (N := 8) (t0 := 5) (a := (8, u, 0)) (f := fun j => (11, u, j)) (PH1 := up (up (up PH (7, u, 0) (aRp g 7 6 0 (fun j => (9, u, j)))) (8, u, 0) (aRp g 5 8 0 (fun j => (11, u, j)))) (6, u, 0) (.inr (8, [rf g (7, u, 0), .null, .int 0, .int 0, .int 0, .null]))) C (tb_at 56 (by decide +kernel) rfl) (by decide) rfl rfl (by omega) dX8_init_16 rfl (by omega) v8 (up_sw n2) (by omega) (by omega) ?_
  have d2 := d1.new (a := (8, u, 0)) (e := aRp g 5 8 0 (fun j => (11, u, j))) (by omega) v8
  refine V.putF (q := 22) C fl_X8_19 rfl rfl rfl dX8_init_19 rfl (okA _ (by omega)) up_eq (Nat.le_of_ble_eq_true rfl) rfl rfl (PH1 := up (up (up PH (7, u, 0) (aRp g 7 6 0 (fun j => (9, u, j)))) (8, u, 0) (aRp g 5 8 0 (fun j => (11, u, j)))) (6, u, 0) (.inr (8, [rf g (7, u, 0), rf g (8, u, 0), .int 0, .int 0, .int 0, .null]))) up_up ?_
  refine V.aload_n (q := 23) C dX8_init_22 rfl rfl ?_
  refine V.iconst (q := 24) (v := nI 0) C dX8_init_23 rfl (by decide) ?_
  refine V.put (q := 27) C fl_X8_23 rfl dX8_init_24 rfl (okA _ (by omega)) up_eq (Nat.le_of_ble_eq_true rfl) rfl rfl (PH1 := up (up (up PH (7, u, 0) (aRp g 7 6 0 (fun j => (9, u, j)))) (8, u, 0) (aRp g 5 8 0 (fun j => (11, u, j)))) (6, u, 0) (.inr (8, [rf g (7, u, 0), rf g (8, u, 0), .int (nI 0), .int 0, .int 0, .null]))) up_up ?_
  refine V.aload_n (q := 28) C dX8_init_27 rfl rfl ?_
  refine V.iconst (q := 29) (v := nI 0) C dX8_init_28 rfl (by decide) ?_
  refine V.put (q := 32) C fl_X8_27 rfl dX8_init_29 rfl (okA _ (by omega)) up_eq (Nat.le_of_ble_eq_true rfl) rfl rfl (PH1 := up (up (up PH (7, u, 0) (aRp g 7 6 0 (fun j => (9, u, j)))) (8, u, 0) (aRp g 5 8 0 (fun j => (11, u, j)))) (6, u, 0) (.inr (8, [rf g (7, u, 0), rf g (8, u, 0), .int (nI 0), .int (nI 0), .int 0, .null]))) up_up ?_
  refine V.aload_n (q := 33) C dX8_init_32 rfl rfl ?_
  refine V.iconst (q := 34) (v := nI 0) C dX8_init_33 rfl (by decide) ?_
  refine V.put (q := 37) C fl_X8_30 rfl dX8_init_34 rfl (okA _ (by omega)) up_eq (Nat.le_of_ble_eq_true rfl) rfl rfl (PH1 := up (up (up PH (7, u, 0) (aRp g 7 6 0 (fun j => (9, u, j)))) (8, u, 0) (aRp g 5 8 0 (fun j => (11, u, j)))) (6, u, 0) (.inr (8, [rf g (7, u, 0), rf g (8, u, 0), .int (nI 0), .int (nI 0), .int (nI 0), .null]))) up_up ?_
  have d3 := d2.put (a := (6, u, 0)) (e := .inr (8, [rf g (7, u, 0), rf g (8, u, 0), .int (nI 0), .int (nI 0), .int (nI 0), .null])) (by omega) (by omega) v6 (by simp)
  have q6 : (up (up (up PH (7, u, 0) (aRp g 7 6 0 (fun j => (9, u, j)))) (8, u, 0) (aRp g 5 8 0 (fun j => (11, u, j)))) (6, u, 0) (.inr (8, [rf g (7, u, 0), rf g (8, u, 0), .int (nI 0), .int (nI 0), .int (nI 0), .null]))) (6, u, 0) = .inr (8, [rf g (7, u, 0), rf g (8, u, 0), .int (nI 0), .int (nI 0), .int (nI 0), .null]) := up_eq
  have q7 : (up (up (up PH (7, u, 0) (aRp g 7 6 0 (fun j => (9, u, j)))) (8, u, 0) (aRp g 5 8 0 (fun j => (11, u, j)))) (6, u, 0) (.inr (8, [rf g (7, u, 0), rf g (8, u, 0), .int (nI 0), .int (nI 0), .int (nI 0), .null]))) (7, u, 0) = aRp g 7 6 0 (fun j => (9, u, j)) := (up_ne (Ne.symm n1)).trans ((up_ne (by simp)).trans up_eq)
  have q8 : (up (up (up PH (7, u, 0) (aRp g 7 6 0 (fun j => (9, u, j)))) (8, u, 0) (aRp g 5 8 0 (fun j => (11, u, j)))) (6, u, 0) (.inr (8, [rf g (7, u, 0), rf g (8, u, 0), .int (nI 0), .int (nI 0), .int (nI 0), .null]))) (8, u, 0) = aRp g 5 8 0 (fun j => (11, u, j)) := (up_ne (Ne.symm n2)).trans up_eq
  refine V.cs (c2 := 2) (s2 := 14) (by decide) (by decide) (V.nn (n2 := (4 + 27 * u) + 3) (by omega) ?_)
  refine V.aload_n (q := 38) C dX8_init_37 rfl rfl ?_
  refine V.new (q := 41) (ci := 0) (fs := [.null, .null, .null, .int 0, .int 0]) (a := (2, wc u, 0)) C uw_X0 tyX0_ok (tb_at 58 (by decide +kernel) rfl) (tb_at 59 (by decide +kernel) rfl) (tb_at 4 (by decide +kernel) rfl) rfl dfX0 dX8_init_38 rfl (by omega) w0 rfl (by omega) (by omega) ?_
  refine V.dup (q := 42) C dX8_init_41 rfl rfl ?_
  refine V.callIN (q := 45) (As := []) (rest := [rf g (2, wc u, 0), rf g (6, u, 0)]) C me_X0_init (c_i0 (PH := up (up (up (up PH (7, u, 0) (aRp g 7 6 0 (fun j => (9, u, j)))) (8, u, 0) (aRp g 5 8 0 (fun j => (11, u, j)))) (6, u, 0) (.inr (8, [rf g (7, u, 0), rf g (8, u, 0), .int (nI 0), .int (nI 0), .int (nI 0), .null]))) (2, wc u, 0) (.inr (0, [.null, .null, .null, .int 0, .int 0]))) (c := wc u) (i := (4 + 27 * u) + 3) (by omega) w0 w1 w2 w3 up_eq) ml_X8_35 dX8_init_42 rfl rfl rfl (Nat.le_of_ble_eq_true rfl) (by omega) (by omega) (by omega) (fun v Y n9 hp => ?_)
  have e1 := hp.1
  subst e1
  have e2 := hp.2.1
  subst e2
  have r6 := (hp.at v6 (by omega) (by omega)).trans (up_n v6 w0 (by omega) (by omega) (by omega) q6)
  have r7 := (hp.at v7 (by omega) (by omega)).trans (up_n v7 w0 (by omega) (by omega) (by omega) q7)
  have r8 := (hp.at v8 (by omega) (by omega)).trans (up_n v8 w0 (by omega) (by omega) (by omega) q8)
  have d4 := Dn.call (d3.new (by omega) w0) (by omega) hp
  refine V.put (q := 48) C fl_X8_36 rfl dX8_init_45 rfl (okA _ (by omega)) r6 (Nat.le_of_ble_eq_true rfl) rfl rfl (PH1 := up Y (6, u, 0) (.inr (8, [rf g (7, u, 0), rf g (8, u, 0), .int (nI 0), .int (nI 0), .int (nI 0), rf g (2, wc u, 0)]))) rfl ?_
  have d5 := d4.put (a := (6, u, 0)) (e := .inr (8, [rf g (7, u, 0), rf g (8, u, 0), .int (nI 0), .int (nI 0), .int (nI 0), rf g (2, wc u, 0)])) (by omega) (by omega) v6 (by simp)
  refine V.iconst (q := 49) (v := nI 0) C dX8_init_48 rfl (by decide) ?_
  refine V.istore_n (q := 50) C dX8_init_49 rfl (by decide) rfl rfl ?_
  refine V.cs (c2 := 6 + 2 * 0) (s2 := 225 + 11 * 0) (by decide) (by decide) (V.nn (n2 := (4 + 27 * u) + 7 + 2 * 0) (by omega) ?_)
  refine c_i8_w hu C (fun X h6 h7 h8 hD => ?_) 6 0 _ rfl up_eq ((up_ne (Ne.symm n1)).trans r7) ((up_ne (Ne.symm n2)).trans r8) d5
  refine V.iconst (q := 80) (v := nI 0) C dX8_init_79 rfl (by decide) ?_
  refine V.istore_n (q := 81) C dX8_init_80 rfl (by decide) rfl rfl ?_
  refine V.cs (c2 := 18 + 0) (s2 := 291 + 3 * 0) (by omega) (by omega) (V.nn (n2 := (4 + 27 * u) + 19 + 0) (by omega) ?_)
  refine c_i8_s hu C (fun X1 g6 g7 g8 gD => ?_) 8 0 X rfl h6 h7 h8 hD
  refine V.vreturn C dX8_init_109 ?_
  refine gD.done (fun j hj => ?_)
  simp only [List.mem_cons, List.not_mem_nil, or_false] at hj
  rcases hj with rfl | rfl | rfl
  · exact ⟨by omega, by rw [v8, g8]; rfl⟩
  · exact ⟨by omega, by rw [v7, g7]; rfl⟩
  · exact ⟨by omega, by rw [v6, g6]; rfl⟩
set_option maxHeartbeats 1000000 in
theorem c_i1 {l : Launch} {g : GG} {PH : PHp} {h : Nat} (hh : h < 2) (hP : PH (12, h, 0) = .inr (1, [.null, .null, .null, .null])) : Ct l g yX1_init cX1_init 1 none 2 16 100 [rf g (12, h, 0)] ((85 + 17 * h) + 1) PH (pN g PH (85 + 17 * h) ((85 + 17 * h) + 17)) := by
  refine Ct.of (lv := [some (rf g (12, h, 0))]) (by decide +kernel) rfl (Nat.le_of_ble_eq_true rfl) ?_
  intro Γ C
  have hNN : NN = 179 := rfl
  have vH := vtH h hh
  have w0 : rwN 0 = 5 := rfl
  have w1 : rwN 1 = 5 := rfl
  have w2 : rwN 2 = 10 := rfl
  have w3 : rwN 3 = 8 := rfl
  have okA : ∀ n, (85 + 17 * h) < n → Ok (12, h, 0) n := fun n h => Ok_of vH h (by omega)
  have d0 := Dn.base (g := g) (PH := PH) (i := (85 + 17 * h))
  refine V.aload_n (q := 1) C dX1_init_0 rfl rfl ?_
  refine V.objInit (q := 4) C (tb_at 178 (by decide +kernel) rfl) dX1_init_1 rfl (Nat.le_of_ble_eq_true rfl) (by omega) ?_
  refine V.cs (c2 := 0) (s2 := 0) (by omega) (by omega) (V.nn (n2 := ((85 + 17 * h) + 1 + 4 * 0)) (by omega) ?_)
  refine V.aload_n (q := 5) C dX1_init_4 rfl rfl ?_
  refine V.new (q := 8) (ci := 3) (fs := [.null, .null, .null, .int 0]) (a := (13, h, 0)) C uw_X3 tyX3_ok (tb_at 179 (by decide +kernel) rfl) (tb_at 180 (by decide +kernel) rfl) (tb_at 8 (by decide +kernel) rfl) rfl dfX3 dX1_init_5 rfl (by omega) (vtR h hh 0 (by omega)).1 rfl (by omega) (by omega) ?_
  refine V.dup (q := 9) C dX1_init_8 rfl rfl ?_
  refine V.iconst (q := 10) (v := nI 5) C dX1_init_9 rfl (by decide) ?_
  refine V.callI (q := 13) (As := [.int (nI (rwN 0))]) (rest := [rf g (13, h, 0), rf g (12, h, 0)]) C me_X3_init (c_i3 (PH := up PH (13, h, 0) (.inr (3, [.null, .null, .null, .int 0]))) (h := h) (r := 0) (i := ((85 + 17 * h) + 1 + 4 * 0)) (by decide) (by omega) (vtR h hh 0 (by omega)).1 (vtR h hh 0 (by omega)).2.1 (vtR h hh 0 (by omega)).2.2.1 (vtR h hh 0 (by omega)).2.2.2 up_eq) ml_X1_9 dX1_init_10 rfl rfl rfl (Nat.le_of_ble_eq_true rfl) (by omega) (by omega) (by omega) (fun v Y0 n0 hp => ?_)
  have e1 := hp.1
  subst e1
  have e2 := hp.2.1
  subst e2
  have a0 := (hp.at vH (by omega) (by omega)).trans (up_n vH (vtR h hh 0 (by omega)).1 (by omega) (by omega) (by omega) hP)
  have D0 := Dn.call (d0.new (by omega) (vtR h hh 0 (by omega)).1) (by omega) hp
  clear hp
  refine V.putF (q := 16) C fl_X1_12 rfl rfl rfl dX1_init_13 rfl (okA _ (by omega)) a0 (Nat.le_of_ble_eq_true rfl) rfl rfl (PH1 := up Y0 (12, h, 0) (.inr (1, [rf g (13, h, 0), .null, .null, .null]))) rfl ?_
  have d1 := D0.put (a := (12, h, 0)) (e := .inr (1, [rf g (13, h, 0), .null, .null, .null])) (by omega) (by omega) vH (by simp)
  refine V.cs (c2 := 4) (s2 := 19) (by omega) (by omega) (V.nn (n2 := ((85 + 17 * h) + 1 + 4 * 1)) (by omega) ?_)
  refine V.aload_n (q := 17) C dX1_init_16 rfl rfl ?_
  refine V.new (q := 20) (ci := 3) (fs := [.null, .null, .null, .int 0]) (a := (13, h, 1)) C uw_X3 tyX3_ok (tb_at 179 (by decide +kernel) rfl) (tb_at 180 (by decide +kernel) rfl) (tb_at 8 (by decide +kernel) rfl) rfl dfX3 dX1_init_17 rfl (by omega) (vtR h hh 1 (by omega)).1 rfl (by omega) (by omega) ?_
  refine V.dup (q := 21) C dX1_init_20 rfl rfl ?_
  refine V.iconst (q := 22) (v := nI 5) C dX1_init_21 rfl (by decide) ?_
  refine V.callI (q := 25) (As := [.int (nI (rwN 1))]) (rest := [rf g (13, h, 1), rf g (12, h, 0)]) C me_X3_init (c_i3 (PH := up (up Y0 (12, h, 0) (.inr (1, [rf g (13, h, 0), .null, .null, .null]))) (13, h, 1) (.inr (3, [.null, .null, .null, .int 0]))) (h := h) (r := 1) (i := ((85 + 17 * h) + 1 + 4 * 1)) (by decide) (by omega) (vtR h hh 1 (by omega)).1 (vtR h hh 1 (by omega)).2.1 (vtR h hh 1 (by omega)).2.2.1 (vtR h hh 1 (by omega)).2.2.2 up_eq) ml_X1_9 dX1_init_22 rfl rfl rfl (Nat.le_of_ble_eq_true rfl) (by omega) (by omega) (by omega) (fun v Y1 n1 hp => ?_)
  have e1 := hp.1
  subst e1
  have e2 := hp.2.1
  subst e2
  have a1 := (hp.at vH (by omega) (by omega)).trans (up_n vH (vtR h hh 1 (by omega)).1 (by omega) (by omega) (by omega) up_eq)
  have D1 := Dn.call (d1.new (by omega) (vtR h hh 1 (by omega)).1) (by omega) hp
  clear hp
  refine V.putF (q := 28) C fl_X1_18 rfl rfl rfl dX1_init_25 rfl (okA _ (by omega)) a1 (Nat.le_of_ble_eq_true rfl) rfl rfl (PH1 := up Y1 (12, h, 0) (.inr (1, [rf g (13, h, 0), rf g (13, h, 1), .null, .null]))) rfl ?_
  have d2 := D1.put (a := (12, h, 0)) (e := .inr (1, [rf g (13, h, 0), rf g (13, h, 1), .null, .null])) (by omega) (by omega) vH (by simp)
  refine V.cs (c2 := 8) (s2 := 38) (by omega) (by omega) (V.nn (n2 := ((85 + 17 * h) + 1 + 4 * 2)) (by omega) ?_)
  refine V.aload_n (q := 29) C dX1_init_28 rfl rfl ?_
  refine V.new (q := 32) (ci := 3) (fs := [.null, .null, .null, .int 0]) (a := (13, h, 2)) C uw_X3 tyX3_ok (tb_at 179 (by decide +kernel) rfl) (tb_at 180 (by decide +kernel) rfl) (tb_at 8 (by decide +kernel) rfl) rfl dfX3 dX1_init_29 rfl (by omega) (vtR h hh 2 (by omega)).1 rfl (by omega) (by omega) ?_
  refine V.dup (q := 33) C dX1_init_32 rfl rfl ?_
  refine V.bipush (q := 35) (v := nI 10) C dX1_init_33 rfl (by decide) ?_
  refine V.callI (q := 38) (As := [.int (nI (rwN 2))]) (rest := [rf g (13, h, 2), rf g (12, h, 0)]) C me_X3_init (c_i3 (PH := up (up Y1 (12, h, 0) (.inr (1, [rf g (13, h, 0), rf g (13, h, 1), .null, .null]))) (13, h, 2) (.inr (3, [.null, .null, .null, .int 0]))) (h := h) (r := 2) (i := ((85 + 17 * h) + 1 + 4 * 2)) (by decide) (by omega) (vtR h hh 2 (by omega)).1 (vtR h hh 2 (by omega)).2.1 (vtR h hh 2 (by omega)).2.2.1 (vtR h hh 2 (by omega)).2.2.2 up_eq) ml_X1_9 dX1_init_35 rfl rfl rfl (Nat.le_of_ble_eq_true rfl) (by omega) (by omega) (by omega) (fun v Y2 n2 hp => ?_)
  have e1 := hp.1
  subst e1
  have e2 := hp.2.1
  subst e2
  have a2 := (hp.at vH (by omega) (by omega)).trans (up_n vH (vtR h hh 2 (by omega)).1 (by omega) (by omega) (by omega) up_eq)
  have D2 := Dn.call (d2.new (by omega) (vtR h hh 2 (by omega)).1) (by omega) hp
  clear hp
  refine V.putF (q := 41) C fl_X1_21 rfl rfl rfl dX1_init_38 rfl (okA _ (by omega)) a2 (Nat.le_of_ble_eq_true rfl) rfl rfl (PH1 := up Y2 (12, h, 0) (.inr (1, [rf g (13, h, 0), rf g (13, h, 1), rf g (13, h, 2), .null]))) rfl ?_
  have d3 := D2.put (a := (12, h, 0)) (e := .inr (1, [rf g (13, h, 0), rf g (13, h, 1), rf g (13, h, 2), .null])) (by omega) (by omega) vH (by simp)
  refine V.cs (c2 := 12) (s2 := 72) (by omega) (by omega) (V.nn (n2 := ((85 + 17 * h) + 1 + 4 * 3)) (by omega) ?_)
  refine V.aload_n (q := 42) C dX1_init_41 rfl rfl ?_
  refine V.new (q := 45) (ci := 3) (fs := [.null, .null, .null, .int 0]) (a := (13, h, 3)) C uw_X3 tyX3_ok (tb_at 179 (by decide +kernel) rfl) (tb_at 180 (by decide +kernel) rfl) (tb_at 8 (by decide +kernel) rfl) rfl dfX3 dX1_init_42 rfl (by omega) (vtR h hh 3 (by omega)).1 rfl (by omega) (by omega) ?_
  refine V.dup (q := 46) C dX1_init_45 rfl rfl ?_
  refine V.bipush (q := 48) (v := nI 8) C dX1_init_46 rfl (by decide) ?_
  refine V.callI (q := 51) (As := [.int (nI (rwN 3))]) (rest := [rf g (13, h, 3), rf g (12, h, 0)]) C me_X3_init (c_i3 (PH := up (up Y2 (12, h, 0) (.inr (1, [rf g (13, h, 0), rf g (13, h, 1), rf g (13, h, 2), .null]))) (13, h, 3) (.inr (3, [.null, .null, .null, .int 0]))) (h := h) (r := 3) (i := ((85 + 17 * h) + 1 + 4 * 3)) (by decide) (by omega) (vtR h hh 3 (by omega)).1 (vtR h hh 3 (by omega)).2.1 (vtR h hh 3 (by omega)).2.2.1 (vtR h hh 3 (by omega)).2.2.2 up_eq) ml_X1_9 dX1_init_48 rfl rfl rfl (Nat.le_of_ble_eq_true rfl) (by omega) (by omega) (by omega) (fun v Y3 n3 hp => ?_)
  have e1 := hp.1
  subst e1
  have e2 := hp.2.1
  subst e2
  have a3 := (hp.at vH (by omega) (by omega)).trans (up_n vH (vtR h hh 3 (by omega)).1 (by omega) (by omega) (by omega) up_eq)
  have D3 := Dn.call (d3.new (by omega) (vtR h hh 3 (by omega)).1) (by omega) hp
  clear hp
  refine V.putF (q := 54) C fl_X1_24 rfl rfl rfl dX1_init_51 rfl (okA _ (by omega)) a3 (Nat.le_of_ble_eq_true rfl) rfl rfl (PH1 := up Y3 (12, h, 0) (.inr (1, [rf g (13, h, 0), rf g (13, h, 1), rf g (13, h, 2), rf g (13, h, 3)]))) rfl ?_
  have d4 := D3.put (a := (12, h, 0)) (e := .inr (1, [rf g (13, h, 0), rf g (13, h, 1), rf g (13, h, 2), rf g (13, h, 3)])) (by omega) (by omega) vH (by simp)
  refine V.cs (c2 := 16) (s2 := 100) (by decide) (by decide) (V.nn (n2 := (85 + 17 * h) + 17) (by omega) ?_)
  refine V.vreturn C dX1_init_54 ?_
  have d5 : Dn g PH (85 + 17 * h) [(85 + 17 * h)] ((85 + 17 * h) + 17) (up Y3 (12, h, 0) (.inr (1, [rf g (13, h, 0), rf g (13, h, 1), rf g (13, h, 2), rf g (13, h, 3)]))) := d4
  refine d5.done (fun j hj => ?_)
  obtain rfl := List.mem_singleton.mp hj
  exact ⟨Nat.le_refl _, by rw [vH, up_eq]; rfl⟩
set_option maxHeartbeats 1000000 in
theorem c_i9_c {l : Launch} {g : GG} {PH : PHp} {Γ : Cxt} {Q : State → Prop} (C : Cx Γ g cX9_init yX9_init 2 none 3 157 2952) (kx : ∀ X : PHp, X (0, 0, 0) = .inr (9, [rf g (1, 0, 0), rf g (4, 0, 0), rf g (6, 0, 0), rf g (6, 1, 0), rf g (6, 2, 0), rf g (12, 0, 0), rf g (12, 1, 0), rf g (17, 0, 0), rf g (19, 0, 0), .int (nI 0), .int (nI 0)]) → X (1, 0, 0) = aRp g 4 6 6 (fun j => (2, j + 1, 0)) → X (19, 0, 0) = aRp g 6 6 0 (fun j => (20, j, 0)) → Dn g PH 0 [121, 1, 0] (122 + 4 * 6) X → V l Γ g 2 Q (121 + 4 * 6) (1308 + 211 * 6) (122 + 4 * 6) X 139 [some (rf g (0, 0, 0)), some (.int (nI 6))] []) : ∀ (f p : Nat) (X : PHp), p + f = 6 → X (0, 0, 0) = .inr (9, [rf g (1, 0, 0), rf g (4, 0, 0), rf g (6, 0, 0), rf g (6, 1, 0), rf g (6, 2, 0), rf g (12, 0, 0), rf g (12, 1, 0), rf g (17, 0, 0), rf g (19, 0, 0), .int (nI 0), .int (nI 0)]) → X (1, 0, 0) = aRp g 4 6 p (fun j => (2, j + 1, 0)) → X (19, 0, 0) = aRp g 6 6 0 (fun j => (20, j, 0)) → Dn g PH 0 [121, 1, 0] (122 + 4 * p) X → V l Γ g 2 Q (121 + 4 * p) (1308 + 211 * p) (122 + 4 * p) X 111 [some (rf g (0, 0, 0)), some (.int (nI p))] [] := by
  have hNN : NN = 179 := rfl
  obtain ⟨t0, t1, t6, t7, t111, t112, t113⟩ := vt0
  intro f
  induction f with
  | zero =>
    intro p X hp h0 h1 h19 hD
    obtain rfl : p = 6 := by omega
    refine V.iload_n (q := 112) C dX9_init_111 rfl rfl ?_
    refine V.aload_n (q := 113) C dX9_init_112 rfl rfl ?_
    refine V.get (q := 116) C fl_X9_13 dX9_init_113 rfl (Ok_of t0 (by omega) (by omega)) h0 rfl ?_
    refine V.len_aRp (q := 117) C rfl dX9_init_116 rfl (Ok_of t1 (by omega) (by omega)) h1 ?_
    refine V.icmp_ge (q := 120) (tgt := 139) C dX9_init_117 rfl rfl (fun hb => ?_) (fun hb => ?_)
    · exact kx X h0 h1 h19 hD
    · exact absurd ((nI_leI (by omega) (by omega)).mpr (by omega)) hb
  | succ f ih =>
    intro p X hp h0 h1 h19 hD
    refine V.iload_n (q := 112) C dX9_init_111 rfl rfl ?_
    refine V.aload_n (q := 113) C dX9_init_112 rfl rfl ?_
    refine V.get (q := 116) C fl_X9_13 dX9_init_113 rfl (Ok_of t0 (by omega) (by omega)) h0 rfl ?_
    refine V.len_aRp (q := 117) C rfl dX9_init_116 rfl (Ok_of t1 (by omega) (by omega)) h1 ?_
    refine V.icmp_ge (q := 120) (tgt := 139) C dX9_init_117 rfl rfl (fun hb => ?_) (fun hb => ?_)
    · exact absurd ((nI_leI (by omega) (by omega)).mp hb) (by omega)
    · refine V.aload_n (q := 121) C dX9_init_120 rfl rfl ?_
      refine V.get (q := 124) C fl_X9_13 dX9_init_121 rfl (Ok_of t0 (by omega) (by omega)) h0 rfl ?_
      refine V.iload_n (q := 125) C dX9_init_124 rfl rfl ?_
      refine V.new (q := 128) (ci := 0) (fs := [.null, .null, .null, .int 0, .int 0]) (a := (2, p + 1, 0)) C uw_X0 tyX0_ok (tb_at 27 (by decide +kernel) rfl) (tb_at 59 (by decide +kernel) rfl) (tb_at 4 (by decide +kernel) rfl) rfl dfX0 dX9_init_125 rfl (by omega) (vtC p (by omega)).1 rfl (by omega) (by omega) ?_
      refine V.dup (q := 129) C dX9_init_128 rfl rfl ?_
      refine V.callIN (q := 132) (As := []) (rest := [rf g (2, p + 1, 0), .int (nI p), rf g (1, 0, 0)]) C me_X0_init (c_i0 (PH := up X (2, p + 1, 0) (.inr (0, [.null, .null, .null, .int 0, .int 0]))) (by omega) (vtC p (by omega)).1 (vtC p (by omega)).2.1 (vtC p (by omega)).2.2.1 (vtC p (by omega)).2.2.2 up_eq) ml_X9_68 dX9_init_129 rfl rfl rfl (Nat.le_of_ble_eq_true rfl) (by omega) (by omega) (by omega) (fun v X2 n2 hp => ?_)
      have e1 := hp.1
      subst e1
      have e2 := hp.2.1
      subst e2
      have h02 := (hp.at t0 (by omega) (by omega)).trans (up_n t0 (vtC p (by omega)).1 (by omega) (by omega) (by omega) h0)
      have h12 := (hp.at t1 (by omega) (by omega)).trans (up_n t1 (vtC p (by omega)).1 (by omega) (by omega) (by omega) h1)
      have h192 := (hp.at t113 (by omega) (by omega)).trans (up_n t113 (vtC p (by omega)).1 (by omega) (by omega) (by omega) h19)
      have h92 := (hp.own (vtC p (by omega)).1 (by omega)).trans (show iH g (2, p + 1, 0) = .inr (0, [rf g (3, p + 1, 0), rf g (3, p + 1, 1), rf g (3, p + 1, 2), .int (nI 0), .int (nI 3)]) from rfl)
      have hD2 := Dn.call (hD.new (by omega) (vtC p (by omega)).1) (by omega) hp
      refine V.astR (q := 133) (i := p) (len := 6) (t0 := 4) (ci := 0) (rr := (RX0, TX0, 5)) (f := fun j => (2, j + 1, 0)) C dX9_init_132 rfl (Ok_of t1 (by omega) (by omega)) h12 rfl (Ok_of (vtC p (by omega)).1 (by omega) (by omega)) h92 rfl rfl (by omega) (by decide) rfl rfl ?_
      refine V.iinc (q := 136) (v := nI (p + 1)) C dX9_init_133 rfl rfl (nI_1 _) (by decide) rfl rfl ?_
      refine V.goto (tgt := 111) C dX9_init_136 rfl ?_
      refine V.cs (c2 := (121 + 4 * (p + 1))) (s2 := (1308 + 211 * (p + 1))) (by omega) (by omega) (V.nn (n2 := (122 + 4 * (p + 1))) (by omega) ?_)
      exact ih (p + 1) _ (by omega) (up_n t0 t1 (by omega) (by omega) (by omega) h02) up_eq (up_n t113 t1 (by omega) (by omega) (by omega) h192) (fun j hj => (hD2.put (by omega) (by omega) t1 (by simp)) j (by omega))
set_option maxHeartbeats 1000000 in
theorem c_i9_t {l : Launch} {g : GG} {PH : PHp} {Γ : Cxt} {Q : State → Prop} (C : Cx Γ g cX9_init yX9_init 2 none 3 157 2952) (kx : ∀ X : PHp, X (0, 0, 0) = .inr (9, [rf g (1, 0, 0), rf g (4, 0, 0), rf g (6, 0, 0), rf g (6, 1, 0), rf g (6, 2, 0), rf g (12, 0, 0), rf g (12, 1, 0), rf g (17, 0, 0), rf g (19, 0, 0), .int (nI 0), .int (nI 0)]) → X (1, 0, 0) = aRp g 4 6 6 (fun j => (2, j + 1, 0)) → X (19, 0, 0) = aRp g 6 6 6 (fun j => (20, j, 0)) → Dn g PH 0 [121, 1, 0] (146 + 2 * 6) X → V l Γ g 2 Q (145 + 2 * 6) (2574 + 63 * 6) (146 + 2 * 6) X 169 [some (rf g (0, 0, 0)), some (.int (nI 6))] []) : ∀ (f p : Nat) (X : PHp), p + f = 6 → X (0, 0, 0) = .inr (9, [rf g (1, 0, 0), rf g (4, 0, 0), rf g (6, 0, 0), rf g (6, 1, 0), rf g (6, 2, 0), rf g (12, 0, 0), rf g (12, 1, 0), rf g (17, 0, 0), rf g (19, 0, 0), .int (nI 0), .int (nI 0)]) → X (1, 0, 0) = aRp g 4 6 6 (fun j => (2, j + 1, 0)) → X (19, 0, 0) = aRp g 6 6 p (fun j => (20, j, 0)) → Dn g PH 0 [121, 1, 0] (146 + 2 * p) X → V l Γ g 2 Q (145 + 2 * p) (2574 + 63 * p) (146 + 2 * p) X 141 [some (rf g (0, 0, 0)), some (.int (nI p))] [] := by
  have hNN : NN = 179 := rfl
  obtain ⟨t0, t1, t6, t7, t111, t112, t113⟩ := vt0
  intro f
  induction f with
  | zero =>
    intro p X hp h0 h1 h19 hD
    obtain rfl : p = 6 := by omega
    refine V.iload_n (q := 142) C dX9_init_141 rfl rfl ?_
    refine V.aload_n (q := 143) C dX9_init_142 rfl rfl ?_
    refine V.get (q := 146) C fl_X9_56 dX9_init_143 rfl (Ok_of t0 (by omega) (by omega)) h0 rfl ?_
    refine V.len_aRp (q := 147) C rfl dX9_init_146 rfl (Ok_of t113 (by omega) (by omega)) h19 ?_
    refine V.icmp_ge (q := 150) (tgt := 169) C dX9_init_147 rfl rfl (fun hb => ?_) (fun hb => ?_)
    · exact kx X h0 h1 h19 hD
    · exact absurd ((nI_leI (by omega) (by omega)).mpr (by omega)) hb
  | succ f ih =>
    intro p X hp h0 h1 h19 hD
    refine V.iload_n (q := 142) C dX9_init_141 rfl rfl ?_
    refine V.aload_n (q := 143) C dX9_init_142 rfl rfl ?_
    refine V.get (q := 146) C fl_X9_56 dX9_init_143 rfl (Ok_of t0 (by omega) (by omega)) h0 rfl ?_
    refine V.len_aRp (q := 147) C rfl dX9_init_146 rfl (Ok_of t113 (by omega) (by omega)) h19 ?_
    refine V.icmp_ge (q := 150) (tgt := 169) C dX9_init_147 rfl rfl (fun hb => ?_) (fun hb => ?_)
    · exact absurd ((nI_leI (by omega) (by omega)).mp hb) (by omega)
    · refine V.aload_n (q := 151) C dX9_init_150 rfl rfl ?_
      refine V.get (q := 154) C fl_X9_56 dX9_init_151 rfl (Ok_of t0 (by omega) (by omega)) h0 rfl ?_
      refine V.iload_n (q := 155) C dX9_init_154 rfl rfl ?_
      refine V.new (q := 158) (ci := 5) (fs := [.null, .int 0, .int 0]) (a := (20, p, 0)) C uw_X5 tyX5_ok (tb_at 237 (by decide +kernel) rfl) (tb_at 240 (by decide +kernel) rfl) (tb_at 11 (by decide +kernel) rfl) rfl dfX5 dX9_init_155 rfl (by omega) (vtT p (by omega)).1 rfl (by omega) (by omega) ?_
      refine V.dup (q := 159) C dX9_init_158 rfl rfl ?_
      refine V.callIN (q := 162) (As := []) (rest := [rf g (20, p, 0), .int (nI p), rf g (19, 0, 0)]) C me_X5_init (c_i5 (PH := up X (20, p, 0) (.inr (5, [.null, .int 0, .int 0]))) (by omega) (vtT p (by omega)).1 (vtT p (by omega)).2 up_eq) ml_X9_69 dX9_init_159 rfl rfl rfl (Nat.le_of_ble_eq_true rfl) (by omega) (by omega) (by omega) (fun v X2 n2 hp => ?_)
      have e1 := hp.1
      subst e1
      have e2 := hp.2.1
      subst e2
      have h02 := (hp.at t0 (by omega) (by omega)).trans (up_n t0 (vtT p (by omega)).1 (by omega) (by omega) (by omega) h0)
      have h12 := (hp.at t1 (by omega) (by omega)).trans (up_n t1 (vtT p (by omega)).1 (by omega) (by omega) (by omega) h1)
      have h192 := (hp.at t113 (by omega) (by omega)).trans (up_n t113 (vtT p (by omega)).1 (by omega) (by omega) (by omega) h19)
      have h92 := (hp.own (vtT p (by omega)).1 (by omega)).trans (show iH g (20, p, 0) = .inr (5, [rf g (21, p, 0), .int (-1), .int (nI 0)]) from rfl)
      have hD2 := Dn.call (hD.new (by omega) (vtT p (by omega)).1) (by omega) hp
      refine V.astR (q := 163) (i := p) (len := 6) (t0 := 6) (ci := 5) (rr := (RX5, TX5, 3)) (f := fun j => (20, j, 0)) C dX9_init_162 rfl (Ok_of t113 (by omega) (by omega)) h192 rfl (Ok_of (vtT p (by omega)).1 (by omega) (by omega)) h92 rfl rfl (by omega) (by decide) rfl rfl ?_
      refine V.iinc (q := 166) (v := nI (p + 1)) C dX9_init_163 rfl rfl (nI_1 _) (by decide) rfl rfl ?_
      refine V.goto (tgt := 141) C dX9_init_166 rfl ?_
      refine V.cs (c2 := (145 + 2 * (p + 1))) (s2 := (2574 + 63 * (p + 1))) (by omega) (by omega) (V.nn (n2 := (146 + 2 * (p + 1))) (by omega) ?_)
      exact ih (p + 1) _ (by omega) (up_n t0 t113 (by omega) (by omega) (by omega) h02) (up_n t1 t113 (by omega) (by omega) (by omega) h12) up_eq (fun j hj => (hD2.put (by omega) (by omega) t113 (by simp)) j (by omega))
set_option maxHeartbeats 2000000 in
theorem c_i9 {l : Launch} {g : GG} {PH : PHp} (hP : PH (0, 0, 0) = .inr (9, [.null, .null, .null, .null, .null, .null, .null, .null, .null, .int 0, .int 0])) : Ct l g yX9_init cX9_init 2 none 3 157 2952 [rf g (0, 0, 0)] 1 PH (pN g PH 0 158) := by
  refine Ct.of (lv := [some (rf g (0, 0, 0)), none]) (by decide +kernel) rfl (Nat.le_of_ble_eq_true rfl) ?_
  intro Γ C
  have hNN : NN = 179 := rfl
  obtain ⟨t0, t1, t6, t7, t111, t112, t113⟩ := vt0
  have d0 := Dn.base (g := g) (PH := PH) (i := 0)
  refine V.aload_n (q := 1) C dX9_init_0 rfl rfl ?_
  refine V.objInit (q := 4) C (tb_at 24 (by decide +kernel) rfl) dX9_init_1 rfl (Nat.le_of_ble_eq_true rfl) (by omega) ?_
  refine V.cs (c2 := 0) (s2 := 0) (by decide) (by decide) (V.nn (n2 := 1) (by decide) ?_)
  refine V.aload_n (q := 5) C dX9_init_4 rfl rfl ?_
  refine V.bipush (q := 7) (v := nI 6) C dX9_init_5 rfl (by decide) ?_
  refine V.newR (q := 10) (N := 6) (t0 := 4) (a := (1, 0, 0)) (f := fun j => (2, j + 1, 0)) C (tb_at 27 (by decide +kernel) rfl) (by decide) rfl rfl (by omega) dX9_init_7 rfl (by omega) t1 (PH1 := (up PH (1, 0, 0) (aRp g 4 6 0 (fun j => (2, j + 1, 0))))) rfl (by omega) (by omega) ?_
  have d1 := d0.new (a := (1, 0, 0)) (e := aRp g 4 6 0 (fun j => (2, j + 1, 0))) (by omega) t1
  have fthis1 := up_n (e := aRp g 4 6 0 (fun j => (2, j + 1, 0))) t0 t1 (by omega) (by omega) (by omega) hP
  have fci1 : (up PH (1, 0, 0) (aRp g 4 6 0 (fun j => (2, j + 1, 0)))) (1, 0, 0) = aRp g 4 6 0 (fun j => (2, j + 1, 0)) := up_eq
  refine V.putF (q := 13) C fl_X9_13 rfl rfl rfl dX9_init_10 rfl (Ok_of t0 (by omega) (by omega)) fthis1 (Nat.le_of_ble_eq_true rfl) rfl rfl (PH1 := (up (up PH (1, 0, 0) (aRp g 4 6 0 (fun j => (2, j + 1, 0)))) (0, 0, 0) (.inr (9, [rf g (1, 0, 0), .null, .null, .null, .null, .null, .null, .null, .null, .int 0, .int 0])))) rfl ?_
  have d2 := d1.put (a := (0, 0, 0)) (e := .inr (9, [rf g (1, 0, 0), .null, .null, .null, .null, .null, .null, .null, .null, .int 0, .int 0])) (by omega) (by omega) t0 (by simp)
  have fci2 := up_n (e := .inr (9, [rf g (1, 0, 0), .null, .null, .null, .null, .null, .null, .null, .null, .int 0, .int 0])) t1 t0 (by omega) (by omega) (by omega) fci1
  refine V.cs (c2 := 1) (s2 := 6) (by decide) (by decide) (V.nn (n2 := 2) (by decide) ?_)
  refine V.aload_n (q := 14) C dX9_init_13 rfl rfl ?_
  refine V.new (q := 17) (ci := 2) (fs := [.null, .int 0, .int 0]) (a := (4, 0, 0)) C uw_X2 tyX2_ok (tb_at 29 (by decide +kernel) rfl) (tb_at 30 (by decide +kernel) rfl) (tb_at 2 (by decide +kernel) rfl) rfl dfX2 dX9_init_14 rfl (by omega) t6 rfl (by omega) (by omega) ?_
  refine V.dup (q := 18) C dX9_init_17 rfl rfl ?_
  refine V.callIN (q := 21) (As := []) (rest := [rf g (4, 0, 0), rf g (0, 0, 0)]) C me_X2_init (c_i2 (PH := (up (up (up PH (1, 0, 0) (aRp g 4 6 0 (fun j => (2, j + 1, 0)))) (0, 0, 0) (.inr (9, [rf g (1, 0, 0), .null, .null, .null, .null, .null, .null, .null, .null, .int 0, .int 0]))) (4, 0, 0) (.inr (2, [.null, .int 0, .int 0])))) (i := 2) (by omega) t6 t7 up_eq) ml_X9_19 dX9_init_18 rfl rfl rfl (Nat.le_of_ble_eq_true rfl) (by omega) (by omega) (by omega) (fun v Y0 n0 hp => ?_)
  have e1 := hp.1
  subst e1
  have e2 := hp.2.1
  subst e2
  have hp : pN g (up (up (up PH (1, 0, 0) (aRp g 4 6 0 (fun j => (2, j + 1, 0)))) (0, 0, 0) (.inr (9, [rf g (1, 0, 0), .null, .null, .null, .null, .null, .null, .null, .null, .int 0, .int 0]))) (4, 0, 0) (.inr (2, [.null, .int 0, .int 0]))) 2 4 none Y0 4 := hp
  have gthis0 := (hp.at t0 (by omega) (by omega)).trans (up_n t0 t6 (by omega) (by omega) (by omega) (show (up (up PH (1, 0, 0) (aRp g 4 6 0 (fun j => (2, j + 1, 0)))) (0, 0, 0) (.inr (9, [rf g (1, 0, 0), .null, .null, .null, .null, .null, .null, .null, .null, .int 0, .int 0]))) (0, 0, 0) = .inr (9, [rf g (1, 0, 0), .null, .null, .null, .null, .null, .null, .null, .null, .int 0, .int 0]) from up_eq))
  have gci0 := (hp.at t1 (by omega) (by omega)).trans (up_n t1 t6 (by omega) (by omega) (by omega) fci2)
  have D0 := Dn.call (d2.new (by omega) t6) (by omega) hp
  clear hp
  refine V.putF (q := 24) C fl_X9_20 rfl rfl rfl dX9_init_21 rfl (Ok_of t0 (by omega) (by omega)) gthis0 (Nat.le_of_ble_eq_true rfl) rfl rfl (PH1 := (up Y0 (0, 0, 0) (.inr (9, [rf g (1, 0, 0), rf g (4, 0, 0), .null, .null, .null, .null, .null, .null, .null, .int 0, .int 0])))) rfl ?_
  have d3 := D0.put (a := (0, 0, 0)) (e := .inr (9, [rf g (1, 0, 0), rf g (4, 0, 0), .null, .null, .null, .null, .null, .null, .null, .int 0, .int 0])) (by omega) (by omega) t0 (by simp)
  have fci3 := up_n (e := .inr (9, [rf g (1, 0, 0), rf g (4, 0, 0), .null, .null, .null, .null, .null, .null, .null, .int 0, .int 0])) t1 t0 (by omega) (by omega) (by omega) gci0
  refine V.cs (c2 := 3) (s2 := 109) (by decide) (by decide) (V.nn (n2 := 4) (by decide) ?_)
  refine V.aload_n (q := 25) C dX9_init_24 rfl rfl ?_
  refine V.new (q := 28) (ci := 8) (fs := [.null, .null, .int 0, .int 0, .int 0, .null]) (a := (6, 0, 0)) C uw_X8 tyX8_ok (tb_at 48 (by decide +kernel) rfl) (tb_at 49 (by decide +kernel) rfl) (tb_at 3 (by decide +kernel) rfl) rfl dfX8 dX9_init_25 rfl (by omega) (vtW 0 (by omega)).1 rfl (by omega) (by omega) ?_
  refine V.dup (q := 29) C dX9_init_28 rfl rfl ?_
  refine V.callI (q := 32) (As := []) (rest := [rf g (6, 0, 0), rf g (0, 0, 0)]) C me_X8_init (c_i8 (PH := (up (up Y0 (0, 0, 0) (.inr (9, [rf g (1, 0, 0), rf g (4, 0, 0), .null, .null, .null, .null, .null, .null, .null, .int 0, .int 0]))) (6, 0, 0) (.inr (8, [.null, .null, .int 0, .int 0, .int 0, .null])))) (u := 0) (by omega) up_eq) ml_X9_26 dX9_init_29 rfl rfl rfl (Nat.le_of_ble_eq_true rfl) (by omega) (by omega) (by omega) (fun v Y1 n1 hp => ?_)
  have e1 := hp.1
  subst e1
  have e2 := hp.2.1
  subst e2
  have hp : pN g (up (up Y0 (0, 0, 0) (.inr (9, [rf g (1, 0, 0), rf g (4, 0, 0), .null, .null, .null, .null, .null, .null, .null, .int 0, .int 0]))) (6, 0, 0) (.inr (8, [.null, .null, .int 0, .int 0, .int 0, .null]))) 4 31 none Y1 31 := hp
  have gthis1 := (hp.at t0 (by omega) (by omega)).trans (up_n t0 (vtW 0 (by omega)).1 (by omega) (by omega) (by omega) (show (up Y0 (0, 0, 0) (.inr (9, [rf g (1, 0, 0), rf g (4, 0, 0), .null, .null, .null, .null, .null, .null, .null, .int 0, .int 0]))) (0, 0, 0) = .inr (9, [rf g (1, 0, 0), rf g (4, 0, 0), .null, .null, .null, .null, .null, .null, .null, .int 0, .int 0]) from up_eq))
  have gci1 := (hp.at t1 (by omega) (by omega)).trans (up_n t1 (vtW 0 (by omega)).1 (by omega) (by omega) (by omega) fci3)
  have D1 := Dn.call (d3.new (by omega) (vtW 0 (by omega)).1) (by omega) hp
  clear hp
  refine V.putF (q := 35) C fl_X9_27 rfl rfl rfl dX9_init_32 rfl (Ok_of t0 (by omega) (by omega)) gthis1 (Nat.le_of_ble_eq_true rfl) rfl rfl (PH1 := (up Y1 (0, 0, 0) (.inr (9, [rf g (1, 0, 0), rf g (4, 0, 0), rf g (6, 0, 0), .null, .null, .null, .null, .null, .null, .int 0, .int 0])))) rfl ?_
  have d4 := D1.put (a := (0, 0, 0)) (e := .inr (9, [rf g (1, 0, 0), rf g (4, 0, 0), rf g (6, 0, 0), .null, .null, .null, .null, .null, .null, .int 0, .int 0])) (by omega) (by omega) t0 (by simp)
  have fci4 := up_n (e := .inr (9, [rf g (1, 0, 0), rf g (4, 0, 0), rf g (6, 0, 0), .null, .null, .null, .null, .null, .null, .int 0, .int 0])) t1 t0 (by omega) (by omega) (by omega) gci1
  refine V.cs (c2 := 30) (s2 := 430) (by decide) (by decide) (V.nn (n2 := 31) (by decide) ?_)
  refine V.aload_n (q := 36) C dX9_init_35 rfl rfl ?_
  refine V.new (q := 39) (ci := 8) (fs := [.null, .null, .int 0, .int 0, .int 0, .null]) (a := (6, 1, 0)) C uw_X8 tyX8_ok (tb_at 48 (by decide +kernel) rfl) (tb_at 49 (by decide +kernel) rfl) (tb_at 3 (by decide +kernel) rfl) rfl dfX8 dX9_init_36 rfl (by omega) (vtW 1 (by omega)).1 rfl (by omega) (by omega) ?_
  refine V.dup (q := 40) C dX9_init_39 rfl rfl ?_
  refine V.callI (q := 43) (As := []) (rest := [rf g (6, 1, 0), rf g (0, 0, 0)]) C me_X8_init (c_i8 (PH := (up (up Y1 (0, 0, 0) (.inr (9, [rf g (1, 0, 0), rf g (4, 0, 0), rf g (6, 0, 0), .null, .null, .null, .null, .null, .null, .int 0, .int 0]))) (6, 1, 0) (.inr (8, [.null, .null, .int 0, .int 0, .int 0, .null])))) (u := 1) (by omega) up_eq) ml_X9_26 dX9_init_40 rfl rfl rfl (Nat.le_of_ble_eq_true rfl) (by omega) (by omega) (by omega) (fun v Y2 n2 hp => ?_)
  have e1 := hp.1
  subst e1
  have e2 := hp.2.1
  subst e2
  have hp : pN g (up (up Y1 (0, 0, 0) (.inr (9, [rf g (1, 0, 0), rf g (4, 0, 0), rf g (6, 0, 0), .null, .null, .null, .null, .null, .null, .int 0, .int 0]))) (6, 1, 0) (.inr (8, [.null, .null, .int 0, .int 0, .int 0, .null]))) 31 58 none Y2 58 := hp
  have gthis2 := (hp.at t0 (by omega) (by omega)).trans (up_n t0 (vtW 1 (by omega)).1 (by omega) (by omega) (by omega) (show (up Y1 (0, 0, 0) (.inr (9, [rf g (1, 0, 0), rf g (4, 0, 0), rf g (6, 0, 0), .null, .null, .null, .null, .null, .null, .int 0, .int 0]))) (0, 0, 0) = .inr (9, [rf g (1, 0, 0), rf g (4, 0, 0), rf g (6, 0, 0), .null, .null, .null, .null, .null, .null, .int 0, .int 0]) from up_eq))
  have gci2 := (hp.at t1 (by omega) (by omega)).trans (up_n t1 (vtW 1 (by omega)).1 (by omega) (by omega) (by omega) fci4)
  have D2 := Dn.call (d4.new (by omega) (vtW 1 (by omega)).1) (by omega) hp
  clear hp
  refine V.putF (q := 46) C fl_X9_31 rfl rfl rfl dX9_init_43 rfl (Ok_of t0 (by omega) (by omega)) gthis2 (Nat.le_of_ble_eq_true rfl) rfl rfl (PH1 := (up Y2 (0, 0, 0) (.inr (9, [rf g (1, 0, 0), rf g (4, 0, 0), rf g (6, 0, 0), rf g (6, 1, 0), .null, .null, .null, .null, .null, .int 0, .int 0])))) rfl ?_
  have d5 := D2.put (a := (0, 0, 0)) (e := .inr (9, [rf g (1, 0, 0), rf g (4, 0, 0), rf g (6, 0, 0), rf g (6, 1, 0), .null, .null, .null, .null, .null, .int 0, .int 0])) (by omega) (by omega) t0 (by simp)
  have fci5 := up_n (e := .inr (9, [rf g (1, 0, 0), rf g (4, 0, 0), rf g (6, 0, 0), rf g (6, 1, 0), .null, .null, .null, .null, .null, .int 0, .int 0])) t1 t0 (by omega) (by omega) (by omega) gci2
  refine V.cs (c2 := 57) (s2 := 751) (by decide) (by decide) (V.nn (n2 := 58) (by decide) ?_)
  refine V.aload_n (q := 47) C dX9_init_46 rfl rfl ?_
  refine V.new (q := 50) (ci := 8) (fs := [.null, .null, .int 0, .int 0, .int 0, .null]) (a := (6, 2, 0)) C uw_X8 tyX8_ok (tb_at 48 (by decide +kernel) rfl) (tb_at 49 (by decide +kernel) rfl) (tb_at 3 (by decide +kernel) rfl) rfl dfX8 dX9_init_47 rfl (by omega) (vtW 2 (by omega)).1 rfl (by omega) (by omega) ?_
  refine V.dup (q := 51) C dX9_init_50 rfl rfl ?_
  refine V.callI (q := 54) (As := []) (rest := [rf g (6, 2, 0), rf g (0, 0, 0)]) C me_X8_init (c_i8 (PH := (up (up Y2 (0, 0, 0) (.inr (9, [rf g (1, 0, 0), rf g (4, 0, 0), rf g (6, 0, 0), rf g (6, 1, 0), .null, .null, .null, .null, .null, .int 0, .int 0]))) (6, 2, 0) (.inr (8, [.null, .null, .int 0, .int 0, .int 0, .null])))) (u := 2) (by omega) up_eq) ml_X9_26 dX9_init_51 rfl rfl rfl (Nat.le_of_ble_eq_true rfl) (by omega) (by omega) (by omega) (fun v Y3 n3 hp => ?_)
  have e1 := hp.1
  subst e1
  have e2 := hp.2.1
  subst e2
  have hp : pN g (up (up Y2 (0, 0, 0) (.inr (9, [rf g (1, 0, 0), rf g (4, 0, 0), rf g (6, 0, 0), rf g (6, 1, 0), .null, .null, .null, .null, .null, .int 0, .int 0]))) (6, 2, 0) (.inr (8, [.null, .null, .int 0, .int 0, .int 0, .null]))) 58 85 none Y3 85 := hp
  have gthis3 := (hp.at t0 (by omega) (by omega)).trans (up_n t0 (vtW 2 (by omega)).1 (by omega) (by omega) (by omega) (show (up Y2 (0, 0, 0) (.inr (9, [rf g (1, 0, 0), rf g (4, 0, 0), rf g (6, 0, 0), rf g (6, 1, 0), .null, .null, .null, .null, .null, .int 0, .int 0]))) (0, 0, 0) = .inr (9, [rf g (1, 0, 0), rf g (4, 0, 0), rf g (6, 0, 0), rf g (6, 1, 0), .null, .null, .null, .null, .null, .int 0, .int 0]) from up_eq))
  have gci3 := (hp.at t1 (by omega) (by omega)).trans (up_n t1 (vtW 2 (by omega)).1 (by omega) (by omega) (by omega) fci5)
  have D3 := Dn.call (d5.new (by omega) (vtW 2 (by omega)).1) (by omega) hp
  clear hp
  refine V.putF (q := 57) C fl_X9_34 rfl rfl rfl dX9_init_54 rfl (Ok_of t0 (by omega) (by omega)) gthis3 (Nat.le_of_ble_eq_true rfl) rfl rfl (PH1 := (up Y3 (0, 0, 0) (.inr (9, [rf g (1, 0, 0), rf g (4, 0, 0), rf g (6, 0, 0), rf g (6, 1, 0), rf g (6, 2, 0), .null, .null, .null, .null, .int 0, .int 0])))) rfl ?_
  have d6 := D3.put (a := (0, 0, 0)) (e := .inr (9, [rf g (1, 0, 0), rf g (4, 0, 0), rf g (6, 0, 0), rf g (6, 1, 0), rf g (6, 2, 0), .null, .null, .null, .null, .int 0, .int 0])) (by omega) (by omega) t0 (by simp)
  have fci6 := up_n (e := .inr (9, [rf g (1, 0, 0), rf g (4, 0, 0), rf g (6, 0, 0), rf g (6, 1, 0), rf g (6, 2, 0), .null, .null, .null, .null, .int 0, .int 0])) t1 t0 (by omega) (by omega) (by omega) gci3
  refine V.cs (c2 := 84) (s2 := 1072) (by decide) (by decide) (V.nn (n2 := 85) (by decide) ?_)
  refine V.aload_n (q := 58) C dX9_init_57 rfl rfl ?_
  refine V.new (q := 61) (ci := 1) (fs := [.null, .null, .null, .null]) (a := (12, 0, 0)) C uw_X1 tyX1_ok (tb_at 173 (by decide +kernel) rfl) (tb_at 174 (by decide +kernel) rfl) (tb_at 7 (by decide +kernel) rfl) rfl dfX1 dX9_init_58 rfl (by omega) (vtH 0 (by omega)) rfl (by omega) (by omega) ?_
  refine V.dup (q := 62) C dX9_init_61 rfl rfl ?_
  refine V.callIN (q := 65) (As := []) (rest := [rf g (12, 0, 0), rf g (0, 0, 0)]) C me_X1_init (c_i1 (PH := (up (up Y3 (0, 0, 0) (.inr (9, [rf g (1, 0, 0), rf g (4, 0, 0), rf g (6, 0, 0), rf g (6, 1, 0), rf g (6, 2, 0), .null, .null, .null, .null, .int 0, .int 0]))) (12, 0, 0) (.inr (1, [.null, .null, .null, .null])))) (h := 0) (by omega) up_eq) ml_X9_39 dX9_init_62 rfl rfl rfl (Nat.le_of_ble_eq_true rfl) (by omega) (by omega) (by omega) (fun v Y4 n4 hp => ?_)
  have e1 := hp.1
  subst e1
  have e2 := hp.2.1
  subst e2
  have hp : pN g (up (up Y3 (0, 0, 0) (.inr (9, [rf g (1, 0, 0), rf g (4, 0, 0), rf g (6, 0, 0), rf g (6, 1, 0), rf g (6, 2, 0), .null, .null, .null, .null, .int 0, .int 0]))) (12, 0, 0) (.inr (1, [.null, .null, .null, .null]))) 85 102 none Y4 102 := hp
  have gthis4 := (hp.at t0 (by omega) (by omega)).trans (up_n t0 (vtH 0 (by omega)) (by omega) (by omega) (by omega) (show (up Y3 (0, 0, 0) (.inr (9, [rf g (1, 0, 0), rf g (4, 0, 0), rf g (6, 0, 0), rf g (6, 1, 0), rf g (6, 2, 0), .null, .null, .null, .null, .int 0, .int 0]))) (0, 0, 0) = .inr (9, [rf g (1, 0, 0), rf g (4, 0, 0), rf g (6, 0, 0), rf g (6, 1, 0), rf g (6, 2, 0), .null, .null, .null, .null, .int 0, .int 0]) from up_eq))
  have gci4 := (hp.at t1 (by omega) (by omega)).trans (up_n t1 (vtH 0 (by omega)) (by omega) (by omega) (by omega) fci6)
  have D4 := Dn.call (d6.new (by omega) (vtH 0 (by omega))) (by omega) hp
  clear hp
  refine V.putF (q := 68) C fl_X9_40 rfl rfl rfl dX9_init_65 rfl (Ok_of t0 (by omega) (by omega)) gthis4 (Nat.le_of_ble_eq_true rfl) rfl rfl (PH1 := (up Y4 (0, 0, 0) (.inr (9, [rf g (1, 0, 0), rf g (4, 0, 0), rf g (6, 0, 0), rf g (6, 1, 0), rf g (6, 2, 0), rf g (12, 0, 0), .null, .null, .null, .int 0, .int 0])))) rfl ?_
  have d7 := D4.put (a := (0, 0, 0)) (e := .inr (9, [rf g (1, 0, 0), rf g (4, 0, 0), rf g (6, 0, 0), rf g (6, 1, 0), rf g (6, 2, 0), rf g (12, 0, 0), .null, .null, .null, .int 0, .int 0])) (by omega) (by omega) t0 (by simp)
  have fci7 := up_n (e := .inr (9, [rf g (1, 0, 0), rf g (4, 0, 0), rf g (6, 0, 0), rf g (6, 1, 0), rf g (6, 2, 0), rf g (12, 0, 0), .null, .null, .null, .int 0, .int 0])) t1 t0 (by omega) (by omega) (by omega) gci4
  refine V.cs (c2 := 101) (s2 := 1176) (by decide) (by decide) (V.nn (n2 := 102) (by decide) ?_)
  refine V.aload_n (q := 69) C dX9_init_68 rfl rfl ?_
  refine V.new (q := 72) (ci := 1) (fs := [.null, .null, .null, .null]) (a := (12, 1, 0)) C uw_X1 tyX1_ok (tb_at 173 (by decide +kernel) rfl) (tb_at 174 (by decide +kernel) rfl) (tb_at 7 (by decide +kernel) rfl) rfl dfX1 dX9_init_69 rfl (by omega) (vtH 1 (by omega)) rfl (by omega) (by omega) ?_
  refine V.dup (q := 73) C dX9_init_72 rfl rfl ?_
  refine V.callIN (q := 76) (As := []) (rest := [rf g (12, 1, 0), rf g (0, 0, 0)]) C me_X1_init (c_i1 (PH := (up (up Y4 (0, 0, 0) (.inr (9, [rf g (1, 0, 0), rf g (4, 0, 0), rf g (6, 0, 0), rf g (6, 1, 0), rf g (6, 2, 0), rf g (12, 0, 0), .null, .null, .null, .int 0, .int 0]))) (12, 1, 0) (.inr (1, [.null, .null, .null, .null])))) (h := 1) (by omega) up_eq) ml_X9_39 dX9_init_73 rfl rfl rfl (Nat.le_of_ble_eq_true rfl) (by omega) (by omega) (by omega) (fun v Y5 n5 hp => ?_)
  have e1 := hp.1
  subst e1
  have e2 := hp.2.1
  subst e2
  have hp : pN g (up (up Y4 (0, 0, 0) (.inr (9, [rf g (1, 0, 0), rf g (4, 0, 0), rf g (6, 0, 0), rf g (6, 1, 0), rf g (6, 2, 0), rf g (12, 0, 0), .null, .null, .null, .int 0, .int 0]))) (12, 1, 0) (.inr (1, [.null, .null, .null, .null]))) 102 119 none Y5 119 := hp
  have gthis5 := (hp.at t0 (by omega) (by omega)).trans (up_n t0 (vtH 1 (by omega)) (by omega) (by omega) (by omega) (show (up Y4 (0, 0, 0) (.inr (9, [rf g (1, 0, 0), rf g (4, 0, 0), rf g (6, 0, 0), rf g (6, 1, 0), rf g (6, 2, 0), rf g (12, 0, 0), .null, .null, .null, .int 0, .int 0]))) (0, 0, 0) = .inr (9, [rf g (1, 0, 0), rf g (4, 0, 0), rf g (6, 0, 0), rf g (6, 1, 0), rf g (6, 2, 0), rf g (12, 0, 0), .null, .null, .null, .int 0, .int 0]) from up_eq))
  have gci5 := (hp.at t1 (by omega) (by omega)).trans (up_n t1 (vtH 1 (by omega)) (by omega) (by omega) (by omega) fci7)
  have D5 := Dn.call (d7.new (by omega) (vtH 1 (by omega))) (by omega) hp
  clear hp
  refine V.putF (q := 79) C fl_X9_44 rfl rfl rfl dX9_init_76 rfl (Ok_of t0 (by omega) (by omega)) gthis5 (Nat.le_of_ble_eq_true rfl) rfl rfl (PH1 := (up Y5 (0, 0, 0) (.inr (9, [rf g (1, 0, 0), rf g (4, 0, 0), rf g (6, 0, 0), rf g (6, 1, 0), rf g (6, 2, 0), rf g (12, 0, 0), rf g (12, 1, 0), .null, .null, .int 0, .int 0])))) rfl ?_
  have d8 := D5.put (a := (0, 0, 0)) (e := .inr (9, [rf g (1, 0, 0), rf g (4, 0, 0), rf g (6, 0, 0), rf g (6, 1, 0), rf g (6, 2, 0), rf g (12, 0, 0), rf g (12, 1, 0), .null, .null, .int 0, .int 0])) (by omega) (by omega) t0 (by simp)
  have fci8 := up_n (e := .inr (9, [rf g (1, 0, 0), rf g (4, 0, 0), rf g (6, 0, 0), rf g (6, 1, 0), rf g (6, 2, 0), rf g (12, 0, 0), rf g (12, 1, 0), .null, .null, .int 0, .int 0])) t1 t0 (by omega) (by omega) (by omega) gci5
  refine V.cs (c2 := 118) (s2 := 1280) (by decide) (by decide) (V.nn (n2 := 119) (by decide) ?_)
  refine V.aload_n (q := 80) C dX9_init_79 rfl rfl ?_
  refine V.new (q := 83) (ci := 6) (fs := [.null, .int 0]) (a := (17, 0, 0)) C uw_X6 tyX6_ok (tb_at 222 (by decide +kernel) rfl) (tb_at 223 (by decide +kernel) rfl) (tb_at 10 (by decide +kernel) rfl) rfl dfX6 dX9_init_80 rfl (by omega) t111 rfl (by omega) (by omega) ?_
  refine V.dup (q := 84) C dX9_init_83 rfl rfl ?_
  refine V.callIN (q := 87) (As := []) (rest := [rf g (17, 0, 0), rf g (0, 0, 0)]) C me_X6_init (c_i6 (PH := (up (up Y5 (0, 0, 0) (.inr (9, [rf g (1, 0, 0), rf g (4, 0, 0), rf g (6, 0, 0), rf g (6, 1, 0), rf g (6, 2, 0), rf g (12, 0, 0), rf g (12, 1, 0), .null, .null, .int 0, .int 0]))) (17, 0, 0) (.inr (6, [.null, .int 0])))) (i := 119) (by omega) t111 t112 up_eq) ml_X9_49 dX9_init_84 rfl rfl rfl (Nat.le_of_ble_eq_true rfl) (by omega) (by omega) (by omega) (fun v Y6 n6 hp => ?_)
  have e1 := hp.1
  subst e1
  have e2 := hp.2.1
  subst e2
  have hp : pN g (up (up Y5 (0, 0, 0) (.inr (9, [rf g (1, 0, 0), rf g (4, 0, 0), rf g (6, 0, 0), rf g (6, 1, 0), rf g (6, 2, 0), rf g (12, 0, 0), rf g (12, 1, 0), .null, .null, .int 0, .int 0]))) (17, 0, 0) (.inr (6, [.null, .int 0]))) 119 121 none Y6 121 := hp
  have gthis6 := (hp.at t0 (by omega) (by omega)).trans (up_n t0 t111 (by omega) (by omega) (by omega) (show (up Y5 (0, 0, 0) (.inr (9, [rf g (1, 0, 0), rf g (4, 0, 0), rf g (6, 0, 0), rf g (6, 1, 0), rf g (6, 2, 0), rf g (12, 0, 0), rf g (12, 1, 0), .null, .null, .int 0, .int 0]))) (0, 0, 0) = .inr (9, [rf g (1, 0, 0), rf g (4, 0, 0), rf g (6, 0, 0), rf g (6, 1, 0), rf g (6, 2, 0), rf g (12, 0, 0), rf g (12, 1, 0), .null, .null, .int 0, .int 0]) from up_eq))
  have gci6 := (hp.at t1 (by omega) (by omega)).trans (up_n t1 t111 (by omega) (by omega) (by omega) fci8)
  have D6 := Dn.call (d8.new (by omega) t111) (by omega) hp
  clear hp
  refine V.putF (q := 90) C fl_X9_50 rfl rfl rfl dX9_init_87 rfl (Ok_of t0 (by omega) (by omega)) gthis6 (Nat.le_of_ble_eq_true rfl) rfl rfl (PH1 := (up Y6 (0, 0, 0) (.inr (9, [rf g (1, 0, 0), rf g (4, 0, 0), rf g (6, 0, 0), rf g (6, 1, 0), rf g (6, 2, 0), rf g (12, 0, 0), rf g (12, 1, 0), rf g (17, 0, 0), .null, .int 0, .int 0])))) rfl ?_
  have d9 := D6.put (a := (0, 0, 0)) (e := .inr (9, [rf g (1, 0, 0), rf g (4, 0, 0), rf g (6, 0, 0), rf g (6, 1, 0), rf g (6, 2, 0), rf g (12, 0, 0), rf g (12, 1, 0), rf g (17, 0, 0), .null, .int 0, .int 0])) (by omega) (by omega) t0 (by simp)
  have fci9 := up_n (e := .inr (9, [rf g (1, 0, 0), rf g (4, 0, 0), rf g (6, 0, 0), rf g (6, 1, 0), rf g (6, 2, 0), rf g (12, 0, 0), rf g (12, 1, 0), rf g (17, 0, 0), .null, .int 0, .int 0])) t1 t0 (by omega) (by omega) (by omega) gci6
  refine V.cs (c2 := 120) (s2 := 1302) (by decide) (by decide) (V.nn (n2 := 121) (by decide) ?_)
  refine V.aload_n (q := 91) C dX9_init_90 rfl rfl ?_
  refine V.bipush (q := 93) (v := nI 6) C dX9_init_91 rfl (by decide) ?_
  refine V.newR (q := 96) (N := 6) (t0 := 6) (a := (19, 0, 0)) (f := fun j => (20, j, 0)) C (tb_at 237 (by decide +kernel) rfl) (by decide) rfl rfl (by omega) dX9_init_93 rfl (by omega) t113 (PH1 := (up (up Y6 (0, 0, 0) (.inr (9, [rf g (1, 0, 0), rf g (4, 0, 0), rf g (6, 0, 0), rf g (6, 1, 0), rf g (6, 2, 0), rf g (12, 0, 0), rf g (12, 1, 0), rf g (17, 0, 0), .null, .int 0, .int 0]))) (19, 0, 0) (aRp g 6 6 0 (fun j => (20, j, 0))))) rfl (by omega) (by omega) ?_
  have d10 := d9.new (a := (19, 0, 0)) (e := aRp g 6 6 0 (fun j => (20, j, 0))) (by omega) t113
  have fthis10 := up_n (e := aRp g 6 6 0 (fun j => (20, j, 0))) t0 t113 (by omega) (by omega) (by omega) (show (up Y6 (0, 0, 0) (.inr (9, [rf g (1, 0, 0), rf g (4, 0, 0), rf g (6, 0, 0), rf g (6, 1, 0), rf g (6, 2, 0), rf g (12, 0, 0), rf g (12, 1, 0), rf g (17, 0, 0), .null, .int 0, .int 0]))) (0, 0, 0) = .inr (9, [rf g (1, 0, 0), rf g (4, 0, 0), rf g (6, 0, 0), rf g (6, 1, 0), rf g (6, 2, 0), rf g (12, 0, 0), rf g (12, 1, 0), rf g (17, 0, 0), .null, .int 0, .int 0]) from up_eq)
  have fci10 := up_n (e := aRp g 6 6 0 (fun j => (20, j, 0))) t1 t113 (by omega) (by omega) (by omega) fci9
  have fst10 : (up (up Y6 (0, 0, 0) (.inr (9, [rf g (1, 0, 0), rf g (4, 0, 0), rf g (6, 0, 0), rf g (6, 1, 0), rf g (6, 2, 0), rf g (12, 0, 0), rf g (12, 1, 0), rf g (17, 0, 0), .null, .int 0, .int 0]))) (19, 0, 0) (aRp g 6 6 0 (fun j => (20, j, 0)))) (19, 0, 0) = aRp g 6 6 0 (fun j => (20, j, 0)) := up_eq
  refine V.putF (q := 99) C fl_X9_56 rfl rfl rfl dX9_init_96 rfl (Ok_of t0 (by omega) (by omega)) fthis10 (Nat.le_of_ble_eq_true rfl) rfl rfl (PH1 := (up (up (up Y6 (0, 0, 0) (.inr (9, [rf g (1, 0, 0), rf g (4, 0, 0), rf g (6, 0, 0), rf g (6, 1, 0), rf g (6, 2, 0), rf g (12, 0, 0), rf g (12, 1, 0), rf g (17, 0, 0), .null, .int 0, .int 0]))) (19, 0, 0) (aRp g 6 6 0 (fun j => (20, j, 0)))) (0, 0, 0) (.inr (9, [rf g (1, 0, 0), rf g (4, 0, 0), rf g (6, 0, 0), rf g (6, 1, 0), rf g (6, 2, 0), rf g (12, 0, 0), rf g (12, 1, 0), rf g (17, 0, 0), rf g (19, 0, 0), .int 0, .int 0])))) rfl ?_
  have d11 := d10.put (a := (0, 0, 0)) (e := .inr (9, [rf g (1, 0, 0), rf g (4, 0, 0), rf g (6, 0, 0), rf g (6, 1, 0), rf g (6, 2, 0), rf g (12, 0, 0), rf g (12, 1, 0), rf g (17, 0, 0), rf g (19, 0, 0), .int 0, .int 0])) (by omega) (by omega) t0 (by simp)
  have fci11 := up_n (e := .inr (9, [rf g (1, 0, 0), rf g (4, 0, 0), rf g (6, 0, 0), rf g (6, 1, 0), rf g (6, 2, 0), rf g (12, 0, 0), rf g (12, 1, 0), rf g (17, 0, 0), rf g (19, 0, 0), .int 0, .int 0])) t1 t0 (by omega) (by omega) (by omega) fci10
  have fst11 := up_n (e := .inr (9, [rf g (1, 0, 0), rf g (4, 0, 0), rf g (6, 0, 0), rf g (6, 1, 0), rf g (6, 2, 0), rf g (12, 0, 0), rf g (12, 1, 0), rf g (17, 0, 0), rf g (19, 0, 0), .int 0, .int 0])) t113 t0 (by omega) (by omega) (by omega) fst10
  refine V.aload_n (q := 100) C dX9_init_99 rfl rfl ?_
  refine V.iconst (q := 101) (v := nI 0) C dX9_init_100 rfl (by decide) ?_
  refine V.put (q := 104) C fl_X9_60 rfl dX9_init_101 rfl (Ok_of t0 (by omega) (by omega)) (show (up (up (up Y6 (0, 0, 0) (.inr (9, [rf g (1, 0, 0), rf g (4, 0, 0), rf g (6, 0, 0), rf g (6, 1, 0), rf g (6, 2, 0), rf g (12, 0, 0), rf g (12, 1, 0), rf g (17, 0, 0), .null, .int 0, .int 0]))) (19, 0, 0) (aRp g 6 6 0 (fun j => (20, j, 0)))) (0, 0, 0) (.inr (9, [rf g (1, 0, 0), rf g (4, 0, 0), rf g (6, 0, 0), rf g (6, 1, 0), rf g (6, 2, 0), rf g (12, 0, 0), rf g (12, 1, 0), rf g (17, 0, 0), rf g (19, 0, 0), .int 0, .int 0]))) (0, 0, 0) = .inr (9, [rf g (1, 0, 0), rf g (4, 0, 0), rf g (6, 0, 0), rf g (6, 1, 0), rf g (6, 2, 0), rf g (12, 0, 0), rf g (12, 1, 0), rf g (17, 0, 0), rf g (19, 0, 0), .int 0, .int 0]) from up_eq) (Nat.le_of_ble_eq_true rfl) rfl rfl (PH1 := (up (up (up (up Y6 (0, 0, 0) (.inr (9, [rf g (1, 0, 0), rf g (4, 0, 0), rf g (6, 0, 0), rf g (6, 1, 0), rf g (6, 2, 0), rf g (12, 0, 0), rf g (12, 1, 0), rf g (17, 0, 0), .null, .int 0, .int 0]))) (19, 0, 0) (aRp g 6 6 0 (fun j => (20, j, 0)))) (0, 0, 0) (.inr (9, [rf g (1, 0, 0), rf g (4, 0, 0), rf g (6, 0, 0), rf g (6, 1, 0), rf g (6, 2, 0), rf g (12, 0, 0), rf g (12, 1, 0), rf g (17, 0, 0), rf g (19, 0, 0), .int 0, .int 0]))) (0, 0, 0) (.inr (9, [rf g (1, 0, 0), rf g (4, 0, 0), rf g (6, 0, 0), rf g (6, 1, 0), rf g (6, 2, 0), rf g (12, 0, 0), rf g (12, 1, 0), rf g (17, 0, 0), rf g (19, 0, 0), .int (nI 0), .int 0])))) rfl ?_
  have d12 := d11.put (a := (0, 0, 0)) (e := .inr (9, [rf g (1, 0, 0), rf g (4, 0, 0), rf g (6, 0, 0), rf g (6, 1, 0), rf g (6, 2, 0), rf g (12, 0, 0), rf g (12, 1, 0), rf g (17, 0, 0), rf g (19, 0, 0), .int (nI 0), .int 0])) (by omega) (by omega) t0 (by simp)
  have fci12 := up_n (e := .inr (9, [rf g (1, 0, 0), rf g (4, 0, 0), rf g (6, 0, 0), rf g (6, 1, 0), rf g (6, 2, 0), rf g (12, 0, 0), rf g (12, 1, 0), rf g (17, 0, 0), rf g (19, 0, 0), .int (nI 0), .int 0])) t1 t0 (by omega) (by omega) (by omega) fci11
  have fst12 := up_n (e := .inr (9, [rf g (1, 0, 0), rf g (4, 0, 0), rf g (6, 0, 0), rf g (6, 1, 0), rf g (6, 2, 0), rf g (12, 0, 0), rf g (12, 1, 0), rf g (17, 0, 0), rf g (19, 0, 0), .int (nI 0), .int 0])) t113 t0 (by omega) (by omega) (by omega) fst11
  refine V.aload_n (q := 105) C dX9_init_104 rfl rfl ?_
  refine V.iconst (q := 106) (v := nI 0) C dX9_init_105 rfl (by decide) ?_
  refine V.put (q := 109) C fl_X9_64 rfl dX9_init_106 rfl (Ok_of t0 (by omega) (by omega)) (show (up (up (up (up Y6 (0, 0, 0) (.inr (9, [rf g (1, 0, 0), rf g (4, 0, 0), rf g (6, 0, 0), rf g (6, 1, 0), rf g (6, 2, 0), rf g (12, 0, 0), rf g (12, 1, 0), rf g (17, 0, 0), .null, .int 0, .int 0]))) (19, 0, 0) (aRp g 6 6 0 (fun j => (20, j, 0)))) (0, 0, 0) (.inr (9, [rf g (1, 0, 0), rf g (4, 0, 0), rf g (6, 0, 0), rf g (6, 1, 0), rf g (6, 2, 0), rf g (12, 0, 0), rf g (12, 1, 0), rf g (17, 0, 0), rf g (19, 0, 0), .int 0, .int 0]))) (0, 0, 0) (.inr (9, [rf g (1, 0, 0), rf g (4, 0, 0), rf g (6, 0, 0), rf g (6, 1, 0), rf g (6, 2, 0), rf g (12, 0, 0), rf g (12, 1, 0), rf g (17, 0, 0), rf g (19, 0, 0), .int (nI 0), .int 0]))) (0, 0, 0) = .inr (9, [rf g (1, 0, 0), rf g (4, 0, 0), rf g (6, 0, 0), rf g (6, 1, 0), rf g (6, 2, 0), rf g (12, 0, 0), rf g (12, 1, 0), rf g (17, 0, 0), rf g (19, 0, 0), .int (nI 0), .int 0]) from up_eq) (Nat.le_of_ble_eq_true rfl) rfl rfl (PH1 := (up (up (up (up (up Y6 (0, 0, 0) (.inr (9, [rf g (1, 0, 0), rf g (4, 0, 0), rf g (6, 0, 0), rf g (6, 1, 0), rf g (6, 2, 0), rf g (12, 0, 0), rf g (12, 1, 0), rf g (17, 0, 0), .null, .int 0, .int 0]))) (19, 0, 0) (aRp g 6 6 0 (fun j => (20, j, 0)))) (0, 0, 0) (.inr (9, [rf g (1, 0, 0), rf g (4, 0, 0), rf g (6, 0, 0), rf g (6, 1, 0), rf g (6, 2, 0), rf g (12, 0, 0), rf g (12, 1, 0), rf g (17, 0, 0), rf g (19, 0, 0), .int 0, .int 0]))) (0, 0, 0) (.inr (9, [rf g (1, 0, 0), rf g (4, 0, 0), rf g (6, 0, 0), rf g (6, 1, 0), rf g (6, 2, 0), rf g (12, 0, 0), rf g (12, 1, 0), rf g (17, 0, 0), rf g (19, 0, 0), .int (nI 0), .int 0]))) (0, 0, 0) (.inr (9, [rf g (1, 0, 0), rf g (4, 0, 0), rf g (6, 0, 0), rf g (6, 1, 0), rf g (6, 2, 0), rf g (12, 0, 0), rf g (12, 1, 0), rf g (17, 0, 0), rf g (19, 0, 0), .int (nI 0), .int (nI 0)])))) rfl ?_
  have d13 := d12.put (a := (0, 0, 0)) (e := .inr (9, [rf g (1, 0, 0), rf g (4, 0, 0), rf g (6, 0, 0), rf g (6, 1, 0), rf g (6, 2, 0), rf g (12, 0, 0), rf g (12, 1, 0), rf g (17, 0, 0), rf g (19, 0, 0), .int (nI 0), .int (nI 0)])) (by omega) (by omega) t0 (by simp)
  have fci13 := up_n (e := .inr (9, [rf g (1, 0, 0), rf g (4, 0, 0), rf g (6, 0, 0), rf g (6, 1, 0), rf g (6, 2, 0), rf g (12, 0, 0), rf g (12, 1, 0), rf g (17, 0, 0), rf g (19, 0, 0), .int (nI 0), .int (nI 0)])) t1 t0 (by omega) (by omega) (by omega) fci12
  have fst13 := up_n (e := .inr (9, [rf g (1, 0, 0), rf g (4, 0, 0), rf g (6, 0, 0), rf g (6, 1, 0), rf g (6, 2, 0), rf g (12, 0, 0), rf g (12, 1, 0), rf g (17, 0, 0), rf g (19, 0, 0), .int (nI 0), .int (nI 0)])) t113 t0 (by omega) (by omega) (by omega) fst12
  refine V.iconst (q := 110) (v := nI 0) C dX9_init_109 rfl (by decide) ?_
  refine V.istore_n (q := 111) C dX9_init_110 rfl (by decide) rfl rfl ?_
  refine V.cs (c2 := 121 + 4 * 0) (s2 := 1308 + 211 * 0) (by decide) (by decide) (V.nn (n2 := 122 + 4 * 0) (by decide) ?_)
  refine c_i9_c C (fun X h0 h1 h19 hD => ?_) 6 0 _ rfl (show (up (up (up (up (up Y6 (0, 0, 0) (.inr (9, [rf g (1, 0, 0), rf g (4, 0, 0), rf g (6, 0, 0), rf g (6, 1, 0), rf g (6, 2, 0), rf g (12, 0, 0), rf g (12, 1, 0), rf g (17, 0, 0), .null, .int 0, .int 0]))) (19, 0, 0) (aRp g 6 6 0 (fun j => (20, j, 0)))) (0, 0, 0) (.inr (9, [rf g (1, 0, 0), rf g (4, 0, 0), rf g (6, 0, 0), rf g (6, 1, 0), rf g (6, 2, 0), rf g (12, 0, 0), rf g (12, 1, 0), rf g (17, 0, 0), rf g (19, 0, 0), .int 0, .int 0]))) (0, 0, 0) (.inr (9, [rf g (1, 0, 0), rf g (4, 0, 0), rf g (6, 0, 0), rf g (6, 1, 0), rf g (6, 2, 0), rf g (12, 0, 0), rf g (12, 1, 0), rf g (17, 0, 0), rf g (19, 0, 0), .int (nI 0), .int 0]))) (0, 0, 0) (.inr (9, [rf g (1, 0, 0), rf g (4, 0, 0), rf g (6, 0, 0), rf g (6, 1, 0), rf g (6, 2, 0), rf g (12, 0, 0), rf g (12, 1, 0), rf g (17, 0, 0), rf g (19, 0, 0), .int (nI 0), .int (nI 0)]))) (0, 0, 0) = .inr (9, [rf g (1, 0, 0), rf g (4, 0, 0), rf g (6, 0, 0), rf g (6, 1, 0), rf g (6, 2, 0), rf g (12, 0, 0), rf g (12, 1, 0), rf g (17, 0, 0), rf g (19, 0, 0), .int (nI 0), .int (nI 0)]) from up_eq) fci13 fst13 d13
  refine V.iconst (q := 140) (v := nI 0) C dX9_init_139 rfl (by decide) ?_
  refine V.istore_n (q := 141) C dX9_init_140 rfl (by decide) rfl rfl ?_
  refine V.cs (c2 := 145 + 2 * 0) (s2 := 2574 + 63 * 0) (by decide) (by decide) (V.nn (n2 := 146 + 2 * 0) (by decide) ?_)
  refine c_i9_t C (fun X1 g0 g1 g19 gD => ?_) 6 0 X rfl h0 h1 h19 hD
  refine V.vreturn C dX9_init_169 ?_
  refine gD.done (fun j hj => ?_)
  simp only [List.mem_cons, List.not_mem_nil, or_false] at hj
  rcases hj with rfl | rfl | rfl
  · exact ⟨by omega, by rw [t113, g19]; rfl⟩
  · exact ⟨by omega, by rw [t1, g1]; rfl⟩
  · exact ⟨by omega, by rw [t0, g0]; rfl⟩
