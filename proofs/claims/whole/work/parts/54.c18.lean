/-! constructors that make others -/
theorem vt0 : vaT 0 = (0, 0, 0) ∧ vaT 1 = (1, 0, 0) ∧ vaT 2 = (2, 0, 0) ∧ vaT (2 + 1) = (3, 0, 0) ∧ vaT (2 + 2) = (3, 0, 1) ∧ vaT (2 + 3) = (3, 0, 2) ∧ vaT 6 = (4, 0, 0) ∧ vaT (6 + 1) = (5, 0, 0) ∧ vaT 111 = (17, 0, 0) ∧ vaT (111 + 1) = (18, 0, 0) ∧ vaT 113 = (19, 0, 0) := by decide +kernel
theorem vtW : ∀ u, u < 3 → vaT (8 + 23 * u) = (6, u, 0) ∧ vaT (8 + 23 * u + 1) = (7, u, 0) ∧ vaT (8 + 23 * u + 2) = (8, u, 0) := by decide +kernel
theorem vtP : ∀ u, u < 3 → ∀ p, p < 6 → vaT (8 + 23 * u + 3 + 2 * p) = (9, u, p) ∧ vaT (8 + 23 * u + 3 + 2 * p + 1) = (10, u, p) := by decide +kernel
theorem vtS : ∀ u, u < 3 → ∀ s, s < 8 → vaT (8 + 23 * u + 15 + s) = (11, u, s) := by decide +kernel
theorem vtH : ∀ h, h < 2 → vaT (77 + 17 * h) = (12, h, 0) := by decide +kernel
theorem vtR : ∀ h, h < 2 → ∀ r, r < 4 → vaT (77 + 17 * h + 1 + 4 * r) = (13, h, r) ∧ vaT (77 + 17 * h + 1 + 4 * r + 1) = (14, h, r) ∧ vaT (77 + 17 * h + 1 + 4 * r + 2) = (15, h, r) ∧ vaT (77 + 17 * h + 1 + 4 * r + 3) = (16, h, r) := by decide +kernel
theorem vtC : ∀ c, c < 6 → vaT (114 + 4 * c) = (2, c + 1, 0) ∧ vaT (114 + 4 * c + 1) = (3, c + 1, 0) ∧ vaT (114 + 4 * c + 2) = (3, c + 1, 1) ∧ vaT (114 + 4 * c + 3) = (3, c + 1, 2) := by decide +kernel
theorem vtT : ∀ t, t < 6 → vaT (138 + 2 * t) = (20, t, 0) ∧ vaT (138 + 2 * t + 1) = (21, t, 0) := by decide +kernel
theorem dfX0 : ∀ j, j < 5 → defaultValue (tyX0 j) = vp_V [.null, .null, .null, .int 0, .int 0] j := fun j hj => by rcases (show j = 0 ∨ j = 1 ∨ j = 2 ∨ j = 3 ∨ j = 4 by omega) with rfl | rfl | rfl | rfl | rfl <;> rfl
theorem dfX1 : ∀ j, j < 4 → defaultValue (tyX1 j) = vp_V [.null, .null, .null, .null] j := fun j hj => by rcases (show j = 0 ∨ j = 1 ∨ j = 2 ∨ j = 3 by omega) with rfl | rfl | rfl | rfl <;> rfl
theorem dfX2 : ∀ j, j < 3 → defaultValue (tyX2 j) = vp_V [.null, .int 0, .int 0] j := fun j hj => by rcases (show j = 0 ∨ j = 1 ∨ j = 2 by omega) with rfl | rfl | rfl <;> rfl
theorem dfX3 : ∀ j, j < 4 → defaultValue (tyX3 j) = vp_V [.null, .null, .null, .int 0] j := fun j hj => by rcases (show j = 0 ∨ j = 1 ∨ j = 2 ∨ j = 3 by omega) with rfl | rfl | rfl | rfl <;> rfl
theorem dfX4 : ∀ j, j < 3 → defaultValue (tyX4 j) = vp_V [.int 0, .int 0, .int 0] j := fun j hj => by rcases (show j = 0 ∨ j = 1 ∨ j = 2 by omega) with rfl | rfl | rfl <;> rfl
theorem dfX5 : ∀ j, j < 3 → defaultValue (tyX5 j) = vp_V [.null, .int 0, .int 0] j := fun j hj => by rcases (show j = 0 ∨ j = 1 ∨ j = 2 by omega) with rfl | rfl | rfl <;> rfl
theorem dfX6 : ∀ j, j < 2 → defaultValue (tyX6 j) = vp_V [.null, .int 0] j := fun j hj => by rcases (show j = 0 ∨ j = 1 by omega) with rfl | rfl <;> rfl
theorem dfX7 : ∀ j, j < 7 → defaultValue (tyX7 j) = vp_V [.int 0, .null, .int 0, .int 0, .int 0, .int 0, .int 0] j := fun j hj => by rcases (show j = 0 ∨ j = 1 ∨ j = 2 ∨ j = 3 ∨ j = 4 ∨ j = 5 ∨ j = 6 by omega) with rfl | rfl | rfl | rfl | rfl | rfl | rfl <;> rfl
theorem dfX8 : ∀ j, j < 6 → defaultValue (tyX8 j) = vp_V [.null, .null, .int 0, .int 0, .int 0, .null] j := fun j hj => by rcases (show j = 0 ∨ j = 1 ∨ j = 2 ∨ j = 3 ∨ j = 4 ∨ j = 5 by omega) with rfl | rfl | rfl | rfl | rfl | rfl <;> rfl
theorem dfX9 : ∀ j, j < 12 → defaultValue (tyX9 j) = vp_V [.null, .null, .null, .null, .null, .null, .null, .null, .null, .null, .int 0, .int 0] j := fun j hj => by rcases (show j = 0 ∨ j = 1 ∨ j = 2 ∨ j = 3 ∨ j = 4 ∨ j = 5 ∨ j = 6 ∨ j = 7 ∨ j = 8 ∨ j = 9 ∨ j = 10 ∨ j = 11 by omega) with rfl | rfl | rfl | rfl | rfl | rfl | rfl | rfl | rfl | rfl | rfl | rfl <;> rfl
theorem dfX10 : ∀ j, j < 30 → defaultValue (tyX10 j) = vp_V [.null, .null, .null, .int 0, .null, .int 0, .null, .null, .int 0, .null, .int 0, .int 0, .int 0, .int 0, .int 0, .int 0, .null, .null, .null, .null, .null, .null, .null, .null, .null, .int 0, .null, .null, .null, .null] j := fun j hj => by rcases (show j = 0 ∨ j = 1 ∨ j = 2 ∨ j = 3 ∨ j = 4 ∨ j = 5 ∨ j = 6 ∨ j = 7 ∨ j = 8 ∨ j = 9 ∨ j = 10 ∨ j = 11 ∨ j = 12 ∨ j = 13 ∨ j = 14 ∨ j = 15 ∨ j = 16 ∨ j = 17 ∨ j = 18 ∨ j = 19 ∨ j = 20 ∨ j = 21 ∨ j = 22 ∨ j = 23 ∨ j = 24 ∨ j = 25 ∨ j = 26 ∨ j = 27 ∨ j = 28 ∨ j = 29 by omega) with rfl | rfl | rfl | rfl | rfl | rfl | rfl | rfl | rfl | rfl | rfl | rfl | rfl | rfl | rfl | rfl | rfl | rfl | rfl | rfl | rfl | rfl | rfl | rfl | rfl | rfl | rfl | rfl | rfl | rfl <;> rfl
set_option maxHeartbeats 1000000 in
theorem c_i8_w {l : Launch} {g : GG} {PH : PHp} {u : Nat} (hu : u < 3) {Γ : Cxt} {Q : State → Prop} (C : Cx Γ g cX8_init yX8_init 3 none 2 22 104) (kx : ∀ X : PHp, X (6, u, 0) = .inr (8, [rf g (7, u, 0), rf g (8, u, 0), .int (nI 0), .int (nI 0), .int (nI 0), rf g (2, 0, 0)]) → X (7, u, 0) = aRp g 7 6 6 (fun j => (9, u, j)) → X (8, u, 0) = aRp g 5 8 0 (fun j => (11, u, j)) → Dn g PH (8 + 23 * u) [(8 + 23 * u) + 2, (8 + 23 * u) + 1, (8 + 23 * u)] ((8 + 23 * u) + 3 + 2 * 6) X → V l Γ g 3 Q (2 + 2 * 6) (14 + 11 * 6) ((8 + 23 * u) + 3 + 2 * 6) X 73 [some (rf g (6, u, 0)), some (rf g (2, 0, 0)), some (.int (nI 6))] []) : ∀ (f p : Nat) (X : PHp), p + f = 6 → X (6, u, 0) = .inr (8, [rf g (7, u, 0), rf g (8, u, 0), .int (nI 0), .int (nI 0), .int (nI 0), rf g (2, 0, 0)]) → X (7, u, 0) = aRp g 7 6 p (fun j => (9, u, j)) → X (8, u, 0) = aRp g 5 8 0 (fun j => (11, u, j)) → Dn g PH (8 + 23 * u) [(8 + 23 * u) + 2, (8 + 23 * u) + 1, (8 + 23 * u)] ((8 + 23 * u) + 3 + 2 * p) X → V l Γ g 3 Q (2 + 2 * p) (14 + 11 * p) ((8 + 23 * u) + 3 + 2 * p) X 44 [some (rf g (6, u, 0)), some (rf g (2, 0, 0)), some (.int (nI p))] [] := by
  obtain ⟨v6, v7, v8⟩ := vtW u hu
  intro f
  induction f with
  | zero =>
    intro p X hp h6 h7 h8 hD
    obtain rfl : p = 6 := by omega
    refine V.iload_n (q := 45) C dX8_init_44 rfl rfl ?_
    refine V.aload_n (q := 46) C dX8_init_45 rfl rfl ?_
    refine V.get (q := 49) C fl_X8_11 dX8_init_46 rfl (Ok_of v6 (by omega) (by omega)) h6 rfl ?_
    refine V.len_aRp (q := 50) C rfl dX8_init_49 rfl (Ok_of v7 (by omega) (by omega)) h7 ?_
    refine V.icmp_ge (q := 53) (tgt := 73) C dX8_init_50 rfl rfl (fun hb => ?_) (fun hb => ?_)
    · exact kx X h6 h7 h8 hD
    · exact absurd ((nI_leI (by omega) (by omega)).mpr (by omega)) hb
  | succ f ih =>
    intro p X hp h6 h7 h8 hD
    refine V.iload_n (q := 45) C dX8_init_44 rfl rfl ?_
    refine V.aload_n (q := 46) C dX8_init_45 rfl rfl ?_
    refine V.get (q := 49) C fl_X8_11 dX8_init_46 rfl (Ok_of v6 (by omega) (by omega)) h6 rfl ?_
    refine V.len_aRp (q := 50) C rfl dX8_init_49 rfl (Ok_of v7 (by omega) (by omega)) h7 ?_
    refine V.icmp_ge (q := 53) (tgt := 73) C dX8_init_50 rfl rfl (fun hb => ?_) (fun hb => ?_)
    · exact absurd ((nI_leI (by omega) (by omega)).mp hb) (by omega)
    · refine V.aload_n (q := 54) C dX8_init_53 rfl rfl ?_
      refine V.get (q := 57) C fl_X8_11 dX8_init_54 rfl (Ok_of v6 (by omega) (by omega)) h6 rfl ?_
      refine V.iload_n (q := 58) C dX8_init_57 rfl rfl ?_
      refine V.new (q := 61) (ci := 7) (fs := [.int 0, .null, .int 0, .int 0, .int 0, .int 0, .int 0]) (a := (9, u, p)) C uw_X7 tyX7_ok (tb_at 79 (by decide +kernel) rfl) (tb_at 83 (by decide +kernel) rfl) (tb_at 5 (by decide +kernel) rfl) rfl dfX7 dX8_init_58 rfl (by omega) (vtP u hu p (by omega)).1 rfl (by omega) (by omega) ?_
      refine V.dup (q := 62) C dX8_init_61 rfl rfl ?_
      refine V.iload_n (q := 63) C dX8_init_62 rfl rfl ?_
      refine V.callI (q := 66) (As := [.int (nI p)]) (rest := [rf g (9, u, p), .int (nI p), rf g (7, u, 0)]) C me_X7_init (c_i7 (PH := up X (9, u, p) (.inr (7, [.int 0, .null, .int 0, .int 0, .int 0, .int 0, .int 0]))) (show p < 6 by omega) (by omega) (vtP u hu p (by omega)).1 (vtP u hu p (by omega)).2 up_eq) ml_X8_37 dX8_init_63 rfl rfl rfl (Nat.le_of_ble_eq_true rfl) (by omega) (by omega) (by omega) (fun v X2 n2 hp => ?_)
      have e1 := hp.1
      subst e1
      have e2 := hp.2.1
      subst e2
      have h62 := (hp.at v6 (by omega) (by omega)).trans (up_n v6 (vtP u hu p (by omega)).1 (by omega) (by omega) (by omega) h6)
      have h72 := (hp.at v7 (by omega) (by omega)).trans (up_n v7 (vtP u hu p (by omega)).1 (by omega) (by omega) (by omega) h7)
      have h82 := (hp.at v8 (by omega) (by omega)).trans (up_n v8 (vtP u hu p (by omega)).1 (by omega) (by omega) (by omega) h8)
      have h92 := (hp.own (vtP u hu p (by omega)).1 (by omega)).trans (iH9 (by omega))
      have hD2 := Dn.call (hD.new (by omega) (vtP u hu p (by omega)).1) (by omega) hp
      refine V.astR (q := 67) (i := p) (len := 6) (t0 := 7) (ci := 7) (rr := (RX7, TX7, 7)) (f := fun j => (9, u, j)) C dX8_init_66 rfl (Ok_of v7 (by omega) (by omega)) h72 rfl (Ok_of (vtP u hu p (by omega)).1 (by omega) (by omega)) h92 rfl rfl (by omega) (by decide) rfl rfl ?_
      refine V.iinc (q := 70) (v := nI (p + 1)) C dX8_init_67 rfl rfl (nI_1 _) (by decide) rfl rfl ?_
      refine V.goto (tgt := 44) C dX8_init_70 rfl ?_
      refine V.cs (c2 := (2 + 2 * (p + 1))) (s2 := (14 + 11 * (p + 1))) (by omega) (by omega) (V.nn (n2 := ((8 + 23 * u) + 3 + 2 * (p + 1))) (by omega) ?_)
      exact ih (p + 1) _ (by omega) (up_n v6 v7 (by omega) (by omega) (by omega) h62) up_eq (up_n v8 v7 (by omega) (by omega) (by omega) h82) (fun j hj => (hD2.put (by omega) (by omega) v7 (by simp)) j (by omega))
set_option maxHeartbeats 1000000 in
theorem c_i8_s {l : Launch} {g : GG} {PH : PHp} {u : Nat} (hu : u < 3) {Γ : Cxt} {Q : State → Prop} (C : Cx Γ g cX8_init yX8_init 3 none 2 22 104) (kx : ∀ X : PHp, X (6, u, 0) = .inr (8, [rf g (7, u, 0), rf g (8, u, 0), .int (nI 0), .int (nI 0), .int (nI 0), rf g (2, 0, 0)]) → X (7, u, 0) = aRp g 7 6 6 (fun j => (9, u, j)) → X (8, u, 0) = aRp g 5 8 8 (fun j => (11, u, j)) → Dn g PH (8 + 23 * u) [(8 + 23 * u) + 2, (8 + 23 * u) + 1, (8 + 23 * u)] ((8 + 23 * u) + 15 + 8) X → V l Γ g 3 Q (14 + 8) (80 + 3 * 8) ((8 + 23 * u) + 15 + 8) X 103 [some (rf g (6, u, 0)), some (rf g (2, 0, 0)), some (.int (nI 8))] []) : ∀ (f p : Nat) (X : PHp), p + f = 8 → X (6, u, 0) = .inr (8, [rf g (7, u, 0), rf g (8, u, 0), .int (nI 0), .int (nI 0), .int (nI 0), rf g (2, 0, 0)]) → X (7, u, 0) = aRp g 7 6 6 (fun j => (9, u, j)) → X (8, u, 0) = aRp g 5 8 p (fun j => (11, u, j)) → Dn g PH (8 + 23 * u) [(8 + 23 * u) + 2, (8 + 23 * u) + 1, (8 + 23 * u)] ((8 + 23 * u) + 15 + p) X → V l Γ g 3 Q (14 + p) (80 + 3 * p) ((8 + 23 * u) + 15 + p) X 75 [some (rf g (6, u, 0)), some (rf g (2, 0, 0)), some (.int (nI p))] [] := by
  obtain ⟨v6, v7, v8⟩ := vtW u hu
  intro f
  induction f with
  | zero =>
    intro p X hp h6 h7 h8 hD
    obtain rfl : p = 8 := by omega
    refine V.iload_n (q := 76) C dX8_init_75 rfl rfl ?_
    refine V.aload_n (q := 77) C dX8_init_76 rfl rfl ?_
    refine V.get (q := 80) C fl_X8_19 dX8_init_77 rfl (Ok_of v6 (by omega) (by omega)) h6 rfl ?_
    refine V.len_aRp (q := 81) C rfl dX8_init_80 rfl (Ok_of v8 (by omega) (by omega)) h8 ?_
    refine V.icmp_ge (q := 84) (tgt := 103) C dX8_init_81 rfl rfl (fun hb => ?_) (fun hb => ?_)
    · exact kx X h6 h7 h8 hD
    · exact absurd ((nI_leI (by omega) (by omega)).mpr (by omega)) hb
  | succ f ih =>
    intro p X hp h6 h7 h8 hD
    refine V.iload_n (q := 76) C dX8_init_75 rfl rfl ?_
    refine V.aload_n (q := 77) C dX8_init_76 rfl rfl ?_
    refine V.get (q := 80) C fl_X8_19 dX8_init_77 rfl (Ok_of v6 (by omega) (by omega)) h6 rfl ?_
    refine V.len_aRp (q := 81) C rfl dX8_init_80 rfl (Ok_of v8 (by omega) (by omega)) h8 ?_
    refine V.icmp_ge (q := 84) (tgt := 103) C dX8_init_81 rfl rfl (fun hb => ?_) (fun hb => ?_)
    · exact absurd ((nI_leI (by omega) (by omega)).mp hb) (by omega)
    · refine V.aload_n (q := 85) C dX8_init_84 rfl rfl ?_
      refine V.get (q := 88) C fl_X8_19 dX8_init_85 rfl (Ok_of v6 (by omega) (by omega)) h6 rfl ?_
      refine V.iload_n (q := 89) C dX8_init_88 rfl rfl ?_
      refine V.new (q := 92) (ci := 4) (fs := [.int 0, .int 0, .int 0]) (a := (11, u, p)) C uw_X4 tyX4_ok (tb_at 81 (by decide +kernel) rfl) (tb_at 126 (by decide +kernel) rfl) (tb_at 6 (by decide +kernel) rfl) rfl dfX4 dX8_init_89 rfl (by omega) (vtS u hu p (by omega)) rfl (by omega) (by omega) ?_
      refine V.dup (q := 93) C dX8_init_92 rfl rfl ?_
      refine V.callIN (q := 96) (As := []) (rest := [rf g (11, u, p), .int (nI p), rf g (8, u, 0)]) C me_X4_init (c_i4 (PH := up X (11, u, p) (.inr (4, [.int 0, .int 0, .int 0]))) (show p < 8 by omega) (by omega) (vtS u hu p (by omega)) up_eq) ml_X8_40 dX8_init_93 rfl rfl rfl (Nat.le_of_ble_eq_true rfl) (by omega) (by omega) (by omega) (fun v X2 n2 hp => ?_)
      have e1 := hp.1
      subst e1
      have e2 := hp.2.1
      subst e2
      have h62 := (hp.at v6 (by omega) (by omega)).trans (up_n v6 (vtS u hu p (by omega)) (by omega) (by omega) (by omega) h6)
      have h72 := (hp.at v7 (by omega) (by omega)).trans (up_n v7 (vtS u hu p (by omega)) (by omega) (by omega) (by omega) h7)
      have h82 := (hp.at v8 (by omega) (by omega)).trans (up_n v8 (vtS u hu p (by omega)) (by omega) (by omega) (by omega) h8)
      have h92 := (hp.own (vtS u hu p (by omega)) (by omega)).trans (iH11 (by omega))
      have hD2 := Dn.call (hD.new (by omega) (vtS u hu p (by omega))) (by omega) hp
      refine V.astR (q := 97) (i := p) (len := 8) (t0 := 5) (ci := 4) (rr := (RX4, TX4, 3)) (f := fun j => (11, u, j)) C dX8_init_96 rfl (Ok_of v8 (by omega) (by omega)) h82 rfl (Ok_of (vtS u hu p (by omega)) (by omega) (by omega)) h92 rfl rfl (by omega) (by decide) rfl rfl ?_
      refine V.iinc (q := 100) (v := nI (p + 1)) C dX8_init_97 rfl rfl (nI_1 _) (by decide) rfl rfl ?_
      refine V.goto (tgt := 75) C dX8_init_100 rfl ?_
      refine V.cs (c2 := (14 + (p + 1))) (s2 := (80 + 3 * (p + 1))) (by omega) (by omega) (V.nn (n2 := ((8 + 23 * u) + 15 + (p + 1))) (by omega) ?_)
      exact ih (p + 1) _ (by omega) (up_n v6 v8 (by omega) (by omega) (by omega) h62) (up_n v7 v8 (by omega) (by omega) (by omega) h72) up_eq (fun j hj => (hD2.put (by omega) (by omega) v8 (by simp)) j (by omega))
set_option maxHeartbeats 1000000 in
theorem c_i8 {l : Launch} {g : GG} {PH : PHp} {u : Nat} (hu : u < 3) (hP : PH (6, u, 0) = .inr (8, [.null, .null, .int 0, .int 0, .int 0, .null])) : Ct l g yX8_init cX8_init 3 none 2 22 104 [rf g (6, u, 0), rf g (2, 0, 0)] ((8 + 23 * u) + 1) PH (pN g PH (8 + 23 * u) ((8 + 23 * u) + 23)) := by
  refine Ct.of (lv := [some (rf g (6, u, 0)), some (rf g (2, 0, 0)), none]) (by decide +kernel) rfl (Nat.le_of_ble_eq_true rfl) ?_
  intro Γ C
  obtain ⟨v6, v7, v8⟩ := vtW u hu
  have okA : ∀ n, (8 + 23 * u) < n → Ok (6, u, 0) n := fun n h => Ok_of v6 h (by omega)
  have n1 : ((6, u, 0) : VA) ≠ (7, u, 0) := by simp
  have n2 : ((6, u, 0) : VA) ≠ (8, u, 0) := by simp
  have d0 := Dn.base (g := g) (PH := PH) (i := (8 + 23 * u))
  refine V.aload_n (q := 1) C dX8_init_0 rfl rfl ?_
  refine V.objInit (q := 4) C (tb_at 78 (by decide +kernel) rfl) dX8_init_1 rfl (Nat.le_of_ble_eq_true rfl) (by omega) ?_
  refine V.aload_n (q := 5) C dX8_init_4 rfl rfl ?_
  refine V.bipush (q := 7) (v := nI 6) C dX8_init_5 rfl (by decide) ?_
  refine V.newR (q := 10) (N := 6) (t0 := 7) (a := (7, u, 0)) (f := fun j => (9, u, j)) C (tb_at 79 (by decide +kernel) rfl) (by decide) rfl rfl (by omega) dX8_init_7 rfl (by omega) v7 rfl (by omega) (by omega) ?_
  have d1 := d0.new (a := (7, u, 0)) (e := aRp g 7 6 0 (fun j => (9, u, j))) (by omega) v7
  refine V.putF (q := 13) C fl_X8_11 rfl rfl rfl dX8_init_10 rfl (okA _ (by omega)) ((up_ne n1).trans hP) (Nat.le_of_ble_eq_true rfl) rfl rfl (PH1 := up (up PH (7, u, 0) (aRp g 7 6 0 (fun j => (9, u, j)))) (6, u, 0) (.inr (8, [rf g (7, u, 0), .null, .int 0, .int 0, .int 0, .null]))) rfl ?_
  refine V.aload_n (q := 14) C dX8_init_13 rfl rfl ?_
  refine V.bipush (q := 16) (v := nI 8) C dX8_init_14 rfl (by decide) ?_
  refine V.newR (q := 19) (N := 8) (t0 := 5) (a := (8, u, 0)) (f := fun j => (11, u, j)) (PH1 := up (up (up PH (7, u, 0) (aRp g 7 6 0 (fun j => (9, u, j)))) (8, u, 0) (aRp g 5 8 0 (fun j => (11, u, j)))) (6, u, 0) (.inr (8, [rf g (7, u, 0), .null, .int 0, .int 0, .int 0, .null]))) C (tb_at 81 (by decide +kernel) rfl) (by decide) rfl rfl (by omega) dX8_init_16 rfl (by omega) v8 (up_sw n2) (by omega) (by omega) ?_
  have d2 := d1.new (a := (8, u, 0)) (e := aRp g 5 8 0 (fun j => (11, u, j))) (by omega) v8
  refine V.putF (q := 22) C fl_X8_19 rfl rfl rfl dX8_init_19 rfl (okA _ (by omega)) up_eq (Nat.le_of_ble_eq_true rfl) rfl rfl (PH1 := up (up (up PH (7, u, 0) (aRp g 7 6 0 (fun j => (9, u, j)))) (8, u, 0) (aRp g 5 8 0 (fun j => (11, u, j)))) (6, u, 0) (.inr (8, [rf g (7, u, 0), rf g (8, u, 0), .int 0, .int 0, .int 0, .null]))) up_up ?_
  refine V.aload_n (q := 23) C dX8_init_22 rfl rfl ?_
  refine V.iconst (q := 24) (v := nI 0) C dX8_init_23 rfl (by decide) ?_
  refine V.put (q := 27) C fl_X8_23 rfl dX8_init_24 rfl (okA _ (by omega)) up_eq (Nat.le_of_ble_eq_true rfl) rfl rfl (PH1 := up (up (up PH (7, u, 0) (aRp g 7 6 0 (fun j => (9, u, j)))) (8, u, 0) (aRp g 5 8 0 (fun j => (11, u, j)))) (6, u, 0) (.inr (8, [rf g (7, u, 0), rf g (8, u, 0), .int (nI 0), .int 0, .int 0, .null]))) up_up ?_
  refine V.aload_n (q := 28) C dX8_init_27 rfl rfl ?_
  refine V.iconst (q := 29) (v := nI 0) C dX8_init_28 rfl (by decide) ?_
  refine V.put (q := 32) C fl_X8_27 rfl dX8_init_29 rfl (okA _ (by omega)) up_eq (Nat.le_of_ble_eq_true rfl) rfl rfl (PH1 := up (up (up PH (7, u, 0) (aRp g 7 6 0 (fun j => (9, u, j)))) (8, u, 0) (aRp g 5 8 0 (fun j => (11, u, j)))) (6, u, 0) (.inr (8, [rf g (7, u, 0), rf g (8, u, 0), .int (nI 0), .int (nI 0), .int 0, .null]))) up_up ?_
  refine V.aload_n (q := 33) C dX8_init_32 rfl rfl ?_
  refine V.iconst (q := 34) (v := nI 0) C dX8_init_33 rfl (by decide) ?_
  refine V.put (q := 37) C fl_X8_30 rfl dX8_init_34 rfl (okA _ (by omega)) up_eq (Nat.le_of_ble_eq_true rfl) rfl rfl (PH1 := up (up (up PH (7, u, 0) (aRp g 7 6 0 (fun j => (9, u, j)))) (8, u, 0) (aRp g 5 8 0 (fun j => (11, u, j)))) (6, u, 0) (.inr (8, [rf g (7, u, 0), rf g (8, u, 0), .int (nI 0), .int (nI 0), .int (nI 0), .null]))) up_up ?_
  refine V.aload_n (q := 38) C dX8_init_37 rfl rfl ?_
  refine V.aload_n (q := 39) C dX8_init_38 rfl rfl ?_
  refine V.put (q := 42) C fl_X8_33 rfl dX8_init_39 rfl (okA _ (by omega)) up_eq (Nat.le_of_ble_eq_true rfl) rfl rfl (PH1 := up (up (up PH (7, u, 0) (aRp g 7 6 0 (fun j => (9, u, j)))) (8, u, 0) (aRp g 5 8 0 (fun j => (11, u, j)))) (6, u, 0) (.inr (8, [rf g (7, u, 0), rf g (8, u, 0), .int (nI 0), .int (nI 0), .int (nI 0), rf g (2, 0, 0)]))) up_up ?_
  refine V.iconst (q := 43) (v := nI 0) C dX8_init_42 rfl (by decide) ?_
  refine V.istore_n (q := 44) C dX8_init_43 rfl (by decide) rfl rfl ?_
  have d3 := d2.put (a := (6, u, 0)) (e := .inr (8, [rf g (7, u, 0), rf g (8, u, 0), .int (nI 0), .int (nI 0), .int (nI 0), rf g (2, 0, 0)])) (by omega) (by omega) v6 (by simp)
  refine c_i8_w hu C (fun X h6 h7 h8 hD => ?_) 6 0 _ rfl up_eq ((up_ne (Ne.symm n1)).trans ((up_ne (by simp)).trans up_eq)) ((up_ne (Ne.symm n2)).trans up_eq) d3
  refine V.iconst (q := 74) (v := nI 0) C dX8_init_73 rfl (by decide) ?_
  refine V.istore_n (q := 75) C dX8_init_74 rfl (by decide) rfl rfl ?_
  refine V.cs (c2 := 14 + 0) (s2 := 80 + 3 * 0) (by omega) (by omega) (V.nn (n2 := (8 + 23 * u) + 15 + 0) (by omega) ?_)
  refine c_i8_s hu C (fun X1 g6 g7 g8 gD => ?_) 8 0 X rfl h6 h7 h8 hD
  refine V.vreturn C dX8_init_103 ?_
  refine gD.done (fun j hj => ?_)
  simp only [List.mem_cons, List.not_mem_nil, or_false] at hj
  rcases hj with rfl | rfl | rfl
  · exact ⟨by omega, by rw [v8, g8]; rfl⟩
  · exact ⟨by omega, by rw [v7, g7]; rfl⟩
  · exact ⟨by omega, by rw [v6, g6]; rfl⟩
