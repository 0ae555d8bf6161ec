/-! the law's loop; the start -/
set_option maxHeartbeats 1000000 in
theorem law_loop {l : Launch} {g : GG} {b L : Nat} {xs : Nat → Int32} {Γ : Cxt} {Q : State → Prop} (C : Cx Γ g code x 4 ret 30 600000 7302250) (X : LX Γ g b L xs) (hL : L ≤ 3072) (kx : ∀ (PH : PHp) (i : Nat), V l Γ g 4 Q 600000 7302250 NN PH 1304 [some (.ref b), some (rf g (0, 0, 0)), some (rf g (22, 0, 0)), some (.int (nI i))] []) : ∀ (f i : Nat) (PH : PHp), i ≤ L → L < i + f → ST g PH → V l Γ g 4 Q 600000 7302250 NN PH 18 [some (.ref b), some (rf g (0, 0, 0)), some (rf g (22, 0, 0)), some (.int (nI i))] [] := by
  intro f
  induction f with
  | zero => intro i PH h1 h2; exact absurd h2 (by omega)
  | succ f ih =>
    intro i PH h1 h2 hS
    refine V.iload_n (q := 19) C dL_law_18 rfl rfl ?_
    refine V.aload_nR (q := 20) C dL_law_19 rfl rfl ?_
    refine V.slenX (q := 21) C X dL_law_20 rfl ?_
    refine V.bipush (q := 23) (v := nI 6) C dL_law_21 rfl (by decide) ?_
    refine V.isub (q := 24) C dL_law_23 rfl ?_
    refine V.icmp_gt (q := 27) (tgt := 1304) C dL_law_24 rfl rfl (fun hb => ?_) (fun hb => ?_)
    · exact kx PH i
    · have hi : 6 + i ≤ L := sub_nlt (by omega) (by omega) (by omega) hb
      have nxt : ∀ PH1 : PHp, ST g PH1 → V l Γ g 4 Q 600000 7302250 NN PH1 1298 [some (.ref b), some (rf g (0, 0, 0)), some (rf g (22, 0, 0)), some (.int (nI i))] [] := by
        intro PH1 hS1
        refine V.iinc (q := 1301) (v := nI (i + 6)) C dL_law_1298 rfl rfl (nI_add i 6) (by decide) rfl rfl ?_
        refine V.goto (tgt := 18) C dL_law_1301 rfl ?_
        exact ih (i + 6) PH1 (by omega) (by omega) hS1
      refine V.aload_nR (q := 28) C dL_law_27 rfl rfl ?_
      refine V.iload_n (q := 29) C dL_law_28 rfl rfl ?_
      refine V.sld (q := 30) (i := i) C X dL_law_29 rfl rfl (by omega) (by omega) ?_
      refine V.bipush (q := 32) (v := nI 63) C dL_law_30 rfl (by decide) ?_
      refine V.iand (q := 33) C dL_law_32 rfl ?_
      refine V.tsw (lo := 0) (N := 33) (tgt := 1298) C dL_law_33 (by decide) (by decide) rfl (fun k hk _ => ?_) (fun _ => nxt PH hS)
      obtain rfl | rfl | rfl | rfl | rfl | rfl | rfl | rfl | rfl | rfl | rfl | rfl | rfl | rfl | rfl | rfl | rfl | rfl | rfl | rfl | rfl | rfl | rfl | rfl | rfl | rfl | rfl | rfl | rfl | rfl | rfl | rfl | rfl := (show k = 0 ∨ k = 1 ∨ k = 2 ∨ k = 3 ∨ k = 4 ∨ k = 5 ∨ k = 6 ∨ k = 7 ∨ k = 8 ∨ k = 9 ∨ k = 10 ∨ k = 11 ∨ k = 12 ∨ k = 13 ∨ k = 14 ∨ k = 15 ∨ k = 16 ∨ k = 17 ∨ k = 18 ∨ k = 19 ∨ k = 20 ∨ k = 21 ∨ k = 22 ∨ k = 23 ∨ k = 24 ∨ k = 25 ∨ k = 26 ∨ k = 27 ∨ k = 28 ∨ k = 29 ∨ k = 30 ∨ k = 31 ∨ k = 32 by omega)
      · exact ⟨_, 180, rfl, rfl, law_0 C X (by omega) hL hS nxt⟩
      · exact ⟨_, 223, rfl, rfl, law_1 C X (by omega) hL hS nxt⟩
      · exact ⟨_, 256, rfl, rfl, law_2 C X (by omega) hL hS nxt⟩
      · exact ⟨_, 289, rfl, rfl, law_3 C X (by omega) hL hS nxt⟩
      · exact ⟨_, 322, rfl, rfl, law_4 C X (by omega) hL hS nxt⟩
      · exact ⟨_, 355, rfl, rfl, law_5 C X (by omega) hL hS nxt⟩
      · exact ⟨_, 388, rfl, rfl, law_6 C X (by omega) hL hS nxt⟩
      · exact ⟨_, 431, rfl, rfl, law_7 C X (by omega) hL hS nxt⟩
      · exact ⟨_, 454, rfl, rfl, law_8 C X (by omega) hL hS nxt⟩
      · exact ⟨_, 467, rfl, rfl, law_9 C X (by omega) hL hS nxt⟩
      · exact ⟨_, 490, rfl, rfl, law_10 C X (by omega) hL hS nxt⟩
      · exact ⟨_, 513, rfl, rfl, law_11 C X (by omega) hL hS nxt⟩
      · exact ⟨_, 546, rfl, rfl, law_12 C X (by omega) hL hS nxt⟩
      · exact ⟨_, 579, rfl, rfl, law_13 C X (by omega) hL hS nxt⟩
      · exact ⟨_, 622, rfl, rfl, law_14 C X (by omega) hL hS nxt⟩
      · exact ⟨_, 681, rfl, rfl, law_15 C X (by omega) hL hS nxt⟩
      · exact ⟨_, 714, rfl, rfl, law_16 C X (by omega) hL hS nxt⟩
      · exact ⟨_, 768, rfl, rfl, law_17 C X (by omega) hL hS nxt⟩
      · exact ⟨_, 802, rfl, rfl, law_18 C X (by omega) hL hS nxt⟩
      · exact ⟨_, 835, rfl, rfl, law_19 C X (by omega) hL hS nxt⟩
      · exact ⟨_, 858, rfl, rfl, law_20 C X (by omega) hL hS nxt⟩
      · exact ⟨_, 891, rfl, rfl, law_21 C X (by omega) hL hS nxt⟩
      · exact ⟨_, 904, rfl, rfl, law_22 C X (by omega) hL hS nxt⟩
      · exact ⟨_, 937, rfl, rfl, law_23 C X (by omega) hL hS nxt⟩
      · exact ⟨_, 950, rfl, rfl, law_24 C X (by omega) hL hS nxt⟩
      · exact ⟨_, 963, rfl, rfl, law_25 C X (by omega) hL hS nxt⟩
      · exact ⟨_, 1006, rfl, rfl, law_26 C X (by omega) hL hS nxt⟩
      · exact ⟨_, 1029, rfl, rfl, law_27 C X (by omega) hL hS nxt⟩
      · exact ⟨_, 1062, rfl, rfl, law_28 C X (by omega) hL hS nxt⟩
      · exact ⟨_, 1085, rfl, rfl, law_29 C X (by omega) hL hS nxt⟩
      · exact ⟨_, 1128, rfl, rfl, law_30 C X (by omega) hL hS nxt⟩
      · exact ⟨_, 1201, rfl, rfl, law_31 C X (by omega) hL hS nxt⟩
      · exact ⟨_, 1235, rfl, rfl, law_32 C X (by omega) hL hS nxt⟩
theorem V.cong {l : Launch} {Γ : Cxt} {g : GG} {nL : Nat} {Q : State → Prop} {cells slots n : Nat} {P X : PHp} {pc : Nat} {lv : List (Option Value)} {st : List Value} (h : ∀ j, j < n → P (vaT j) = X (vaT j)) (k : V l Γ g nL Q cells slots n X pc lv st) : V l Γ g nL Q cells slots n P pc lv st := by
  obtain ⟨p, e, R, s, m, args, below, meth, c⟩ := Γ
  have hw : wl g P n = wl g X n := by
    unfold wl
    refine List.map_congr_left (fun j hj => ?_)
    rw [h j (List.mem_range.mp hj)]
  intro H locs ls hH hS hL
  exact k H locs ls ⟨hH.1, by rw [← hw]; exact hH.2⟩ hS hL
/-- at the start all is tied -/
theorem ST_0 {g : GG} : ST g (iH g) := by
  refine ⟨(nI 0, nI 0), (fun _ _ => nI 0, fun _ _ => nI 0, fun _ => nI 0, fun _ => nI 3), fun _ _ => nI 0, (fun _ => nI 0, nI 0, nI 0), iB, wc, (fun _ _ _ => nI 0, fun _ _ _ => nI 0, fun _ _ _ => nI 0, fun _ _ => nI 0), (fun _ => nI 0, nI 0), (fun _ _ => 0, fun _ => -1, fun _ => nI 0), fun _ => nI 0, fun _ => nI 0, (fun _ => nI 0, nI 0), (fun _ => nI 0, nI 0, fun _ => nI 0, fun _ => nI 0, nI 0), (fun _ => nI 0, nI 0, nI 0, nI 0, 0, nI 0, nI 0, fun _ => nI 0), fun _ => nI 0, fun _ => nI 0, (fun _ => nI 0, nI 0), (fun _ => -1, fun _ => nI 0, fun _ => 0, fun _ => 0), 0, 0, ?_, rfl⟩
  have no : ∀ {P : Prop} {j : Nat}, j < 0 → P := fun h => absurd h (Nat.not_lt_zero _)
  refine ⟨⟨by omega, by omega, rfl, rfl, rfl, rfl, fun q hq => no hq⟩, ⟨rfl, rfl, rfl, fun j hj => no hj⟩, ?_, ⟨rfl, Or.inl rfl⟩, ⟨rfl, 0, by decide, rfl⟩, ?_⟩
  · refine ⟨0, 0, 0, 0, 0, 0, Nat.le_refl 0, ⟨⟨rfl, by omega, rfl, by omega, fun s hs => no hs, fun s hs => no hs⟩, fun s hs => no hs, rfl, ⟨rfl, by omega, rfl, by omega⟩, ⟨fun i hi => no hi, fun s hs => no hs, rfl⟩, fun i hi => no hi⟩, ?_, ?_, ?_, ?_⟩
    · exact ⟨⟨rfl, by omega, fun r hr => no hr⟩, fun r hr => no hr, rfl, fun i hi => no hi⟩
    · exact ⟨⟨rfl, by omega, fun r hr => no hr⟩, fun r hr => no hr, rfl, fun i hi => no hi⟩
    · exact ⟨⟨rfl, by omega, fun r hr => no hr⟩, rfl, fun i hi => no hi⟩
    · exact ⟨rfl, by omega, rfl, fun i hi => no hi⟩
  · intro j _
    exact ⟨rfl, rfl, fun y _ => rfl, Or.inl rfl, ⟨0, by omega, rfl⟩, fun _ => rfl⟩
set_option maxHeartbeats 1000000 in
/-- the law, from its entry to its end -/
theorem law_all {l : Launch} {g : GG} {b L : Nat} {xs : Nat → Int32} {Γ : Cxt} {Q : State → Prop} (C : Cx Γ g code x 4 ret 30 600000 7302250) (X : LX Γ g b L xs) (hL : L ≤ 3072) {PH : PHp} (kx : ∀ (P : PHp) (i : Nat), V l Γ g 4 Q 600000 7302250 NN P 1304 [some (.ref b), some (rf g (0, 0, 0)), some (rf g (22, 0, 0)), some (.int (nI i))] []) : V l Γ g 4 Q 0 0 0 PH 0 [some (.ref b), none, none, none] [] := by
  have hNN : NN = 179 := rfl
  obtain ⟨t0, -⟩ := vt0
  obtain ⟨m0, -⟩ := vtM
  refine V.new (q := 3) (ci := 9) (fs := [.null, .null, .null, .null, .null, .null, .null, .null, .null, .int 0, .int 0]) (a := (0, 0, 0)) C uw_X9 tyX9_ok (tb_at 19 (by decide +kernel) rfl) (tb_at 20 (by decide +kernel) rfl) (tb_at 1 (by decide +kernel) rfl) rfl dfX9 dL_law_0 rfl (by omega) t0 rfl (by omega) (by omega) ?_
  refine V.dup (q := 4) C dL_law_3 rfl rfl ?_
  refine V.callI (q := 7) (As := []) (rest := [rf g (0, 0, 0)]) C me_X9_init (c_i9 (PH := up PH (0, 0, 0) (.inr (9, [.null, .null, .null, .null, .null, .null, .null, .null, .null, .int 0, .int 0]))) up_eq) ml_L_9 dL_law_4 rfl rfl rfl (Nat.le_of_ble_eq_true rfl) (by omega) (by omega) (by omega) (fun v Y n2 hp => ?_)
  have e1 := hp.1
  subst e1
  have e2 := hp.2.1
  subst e2
  refine V.astore_n (q := 8) C dL_law_7 rfl (by decide) rfl rfl ?_
  refine V.new (q := 11) (ci := 10) (fs := [.null, .null, .null, .int 0, .null, .int 0, .null, .null, .int 0, .null, .int 0, .int 0, .int 0, .int 0, .int 0, .int 0, .null, .null, .null, .null, .null, .null, .null, .null, .null, .int 0, .null, .null, .null, .null]) (a := (22, 0, 0)) C uw_X10 tyX10_ok (tb_at 765 (by decide +kernel) rfl) (tb_at 766 (by decide +kernel) rfl) (tb_at 12 (by decide +kernel) rfl) rfl dfX10 dL_law_8 rfl (by omega) m0 rfl (by omega) (by omega) ?_
  refine V.dup (q := 12) C dL_law_11 rfl rfl ?_
  refine V.callI (q := 15) (As := []) (rest := [rf g (22, 0, 0)]) C me_X10_init (c_i10 (PH := up Y (22, 0, 0) (.inr (10, [.null, .null, .null, .int 0, .null, .int 0, .null, .null, .int 0, .null, .int 0, .int 0, .int 0, .int 0, .int 0, .int 0, .null, .null, .null, .null, .null, .null, .null, .null, .null, .int 0, .null, .null, .null, .null]))) up_eq) ml_L_12 dL_law_12 rfl rfl rfl (Nat.le_of_ble_eq_true rfl) (by omega) (by omega) (by omega) (fun v Z n3 hz => ?_)
  have e3 := hz.1
  subst e3
  have e4 := hz.2.1
  subst e4
  refine V.astore_n (q := 16) C dL_law_15 rfl (by decide) rfl rfl ?_
  refine V.iconst (q := 17) (v := nI 0) C dL_law_16 rfl (by decide) ?_
  refine V.istore_n (q := 18) C dL_law_17 rfl (by decide) rfl rfl ?_
  refine V.widen (c2 := 600000) (s2 := 7302250) (Nat.le_of_ble_eq_true rfl) (Nat.le_of_ble_eq_true rfl) ?_
  refine V.cong (X := iH g) (fun j hj => ?_) ?_
  · rw [hz.2.2 j hj]
    by_cases h : j < 158
    · rw [if_pos h, ← m0, up_ne (fun q => absurd (vaT_inj (by omega) (by omega) q) (by omega)), hp.2.2 j h, if_neg (by omega)]
    · rw [if_neg h]
  · exact law_loop C X hL kx (L + 1) 0 (iH g) (by omega) (by omega) ST_0
