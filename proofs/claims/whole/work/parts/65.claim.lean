/-! THE CLAIM OUT OF ONE WALK OF THE LAW'S BODY. Your part is whole_start (and what it stands on); all else here is the same for every law, but numbers. -/
def R_law : String := "BowlerDentsLaw"
def lw_P (b : Addr) (xs : List Int32) (args : Array Value) (s : State) : Prop := args = #[.ref b] ∧ s.IntsAt b xs ∧ xs.length ≤ 3072 ∧ (Jvm.Cond.and given_1 narrow_1).before args s = true
def lw_Q (_ : Array Value) (s : State) (o : Outcome) (t : State) : Prop := o = .returned (some (.int 1)) ∧ Framed s o t [] 600000 7302250
def lw_Z (below : List Frame) (a : Array Value) (s : State) : State → Prop := fun t => ∃ o, t.status = .running ∧ Ended t below o ∧ lw_Q a s o t
/-- the law's own end, with 1 on the stack, nothing written that was there before, its room as the claim has it -/
theorem lw_ret {p : Program} {l : Launch} {e : Env} {s : State} {m : MethodId} {below : List Frame} {meth : Method} {c : Code} {b : Nat} (hx : p.tables.exec = Jvm.exec) (hb : c.code = code) (hr : meth.sig.returnType = ret) (hlocks : meth.locks = false) {pc : Nat} {H : Heap} {ls : Array Slot} (hdg : decode code pc = .ok (.ireturn, 1)) : W p l e room_1 s m #[Value.ref b] below meth c H [] 600000 7302250 (lw_Z below #[Value.ref b] s) (F0 m pc ls [.int 1]) := by
  intro T hT X
  obtain ⟨fs, hret, hrun, hended, hW, hframe⟩ := X.leave (v := some (.int 1)) (hlocks := hlocks) (fun h => by rw [hr] at h; cases h)
  have hmeth' : T.vm.method? m = some meth := X.method'
  refine ⟨T.setFrames fs, ?_, .returned (some (.int 1)), hrun, hended, rfl, ⟨_, rfl⟩, hW, hframe⟩
  jvm_step X.here [X.here.top, hx, hb, hdg, hmeth', hr, ret, narrow_b1]
  (try refine ⟨rfl, ?_⟩); (try refine ⟨rfl, ?_⟩)
  first | (intro acts; rw [hret _ acts rfl rfl rfl]) | rw [hret _ _ rfl rfl rfl]
  exact Steps.refl _
/-- what holds at the law's entry: the machine, the code, the tables' words (any of lw_tbl by 'hts w (by decide +kernel)'), the script of L ints xs at the cell b, what the Statement gives of the start (any of its parts by flat_of_before) -/
def lw_At (p : Program) (s : State) (m : MethodId) (meth : Method) (c : Code) (b L : Nat) (xs : Nat → Int32) : Prop :=
  p.tables.exec = Jvm.exec ∧ c.code = code ∧ meth.sig.returnType = ret ∧ c.maxLocals = 4 ∧ s.vm.findClass R_law = some m.cls ∧ (∀ w ∈ lw_tbl, w.before #[Value.ref b] s = true) ∧ va_X b L xs s s.heap ∧ b < s.heap.size ∧ meth.locks = false ∧ (Jvm.Cond.and given_1 narrow_1).before #[Value.ref b] s = true
-- ===== MY PART BEGINS =====
theorem tb_l {u : Cond} (i : Nat) (h : tables_1[i]? = some u) : u ∈ lw_tbl := List.mem_append_right _ (List.mem_of_getElem? h)
theorem fs_1 : ∀ i, i < 5 → Cond.exactly (.string RX2 (idxS i)) "java/lang/String" ∈ flatC (Jvm.Cond.and given_1 narrow_1) := by decide +kernel
theorem fs_2 : ∀ i, i < 5 → Cond.eq (.field (.string RX2 (idxS i)) "java/lang/String" "coder" "B") (.int 0) ∈ flatC (Jvm.Cond.and given_1 narrow_1) := by decide +kernel
theorem fs_3 : ∀ i, i < 5 → Cond.arrayOf (.field (.string RX2 (idxS i)) "java/lang/String" "value" "[B") .byte ∈ flatC (Jvm.Cond.and given_1 narrow_1) := by decide +kernel
theorem fs_4 : ∀ i, i < 5 → Cond.eq (.length (.field (.string RX2 (idxS i)) "java/lang/String" "value" "[B")) (.int (Int32.ofNat (lenS.getD i 0))) ∈ flatC (Jvm.Cond.and given_1 narrow_1) := by decide +kernel
theorem fs_5 : ∀ i, i < 5 → ∀ j, j < lenS.getD i 0 → Cond.eq (.elem (.field (.string RX2 (idxS i)) "java/lang/String" "value" "[B") (.int (Int32.ofNat j))) (.int ((bytS.getD i []).getD j 0)) ∈ flatC (Jvm.Cond.and given_1 narrow_1) := by decide +kernel
theorem fs_6 : ∀ i, i < 5 → ∀ j, j < 5 → i ≠ j → Cond.not (Cond.eq (.string RX2 (idxS i)) (.string RX2 (idxS j))) ∈ flatC (Jvm.Cond.and given_1 narrow_1) ∨ Cond.not (Cond.eq (.string RX2 (idxS j)) (.string RX2 (idxS i))) ∈ flatC (Jvm.Cond.and given_1 narrow_1) := by decide +kernel
theorem fs_7 : Cond.eq (.static "java/lang/String" "COMPACT_STRINGS" "Z") (.int 1) ∈ flatC (Jvm.Cond.and given_1 narrow_1) := by decide +kernel
theorem fs_8 : Cond.isRef (.static "jdk/internal/util/Preconditions" "SIOOBE_FORMATTER" "Ljava/util/function/BiFunction;") ∈ flatC (Jvm.Cond.and given_1 narrow_1) := by decide +kernel
theorem kn_arr {s : State} {args : Array Value} {ty : FieldType} (h : (Cond.arrayClass ty).before args s = true) : ∃ cA : ClassId, ArrOfT s cA ty ∧ s.vm.findClass ("[" ++ ty.toString) = some cA := by
  obtain ⟨c, k, comp, h1, h2, h3⟩ := Cond.arrayClass_spec h
  exact ⟨c, fun n z => ⟨(fun a q => by cases q), k, h2, comp, h3⟩, h1⟩
theorem kn_obj {s : State} {args : Array Value} {CC : String} (h : (Cond.arrayOver (.object CC)).before args s = true) : ∃ cA : ClassId, ArrOfT s cA (.object CC) ∧ va_RA s cA (.object CC) := by
  obtain ⟨comp, c, k, h1, h2, h3, h4, h5⟩ := Cond.arrayOver_spec h
  exact ⟨c, fun n z => ⟨(fun a q => by cases q), k, h3, comp, h4⟩, k, comp, h3, h4, h1, h5⟩
set_option maxHeartbeats 4000000 in
theorem whole_start {p : Program} {e : Env} {s : State} {m : MethodId} {below : List Frame} {meth : Method} {c : Code} (l : Launch) (hflags : l.flags = flags0) {b L : Nat} {xs : Nat → Int32} (hL : L ≤ 3072) (C0 : lw_At p s m meth c b L xs) : W p l e room_1 s m #[Value.ref b] below meth c s.heap [] 0 0 (lw_Z below #[Value.ref b] s) (entryFrame m ([Value.ref b] : List Value).toArray 4) := by
  obtain ⟨hx, hb, hr, hml, hown, hts, hX, hbl, hlocks, hgv⟩ := id C0
  have hg : ∀ u ∈ gws, u.before #[Value.ref b] s = true := fun u h => hts u (gws_in u h)
  have hf := flat_of_before _ hgv
  obtain ⟨cX0, iX0, kX0⟩ := u_known (C := RX0) (T := TX0) (N := 5) (n := 5) hg uw_X0 (hg _ (tb_at 59 (by decide +kernel) rfl))
  obtain ⟨cX1, iX1, kX1⟩ := u_known (C := RX1) (T := TX1) (N := 4) (n := 4) hg uw_X1 (hg _ (tb_at 174 (by decide +kernel) rfl))
  obtain ⟨cX2, iX2, kX2⟩ := u_known (C := RX2) (T := TX2) (N := 3) (n := 3) hg uw_X2 (hg _ (tb_at 30 (by decide +kernel) rfl))
  obtain ⟨cX3, iX3, kX3⟩ := u_known (C := RX3) (T := TX3) (N := 4) (n := 4) hg uw_X3 (hg _ (tb_at 180 (by decide +kernel) rfl))
  obtain ⟨cX4, iX4, kX4⟩ := u_known (C := RX4) (T := TX4) (N := 3) (n := 3) hg uw_X4 (hg _ (tb_at 127 (by decide +kernel) rfl))
  obtain ⟨cX5, iX5, kX5⟩ := u_known (C := RX5) (T := TX5) (N := 3) (n := 3) hg uw_X5 (hg _ (tb_at 240 (by decide +kernel) rfl))
  obtain ⟨cX6, iX6, kX6⟩ := u_known (C := RX6) (T := TX6) (N := 2) (n := 2) hg uw_X6 (hg _ (tb_at 223 (by decide +kernel) rfl))
  obtain ⟨cX7, iX7, kX7⟩ := u_known (C := RX7) (T := TX7) (N := 7) (n := 7) hg uw_X7 (hg _ (tb_at 84 (by decide +kernel) rfl))
  obtain ⟨cX8, iX8, kX8⟩ := u_known (C := RX8) (T := TX8) (N := 6) (n := 6) hg uw_X8 (hg _ (tb_at 49 (by decide +kernel) rfl))
  obtain ⟨cX9, iX9, kX9⟩ := u_known (C := RX9) (T := TX9) (N := 11) (n := 11) hg uw_X9 (hg _ (tb_at 20 (by decide +kernel) rfl))
  obtain ⟨cX10, iX10, kX10⟩ := u_known (C := RX10) (T := TX10) (N := 30) (n := 30) hg uw_X10 (hg _ (tb_at 766 (by decide +kernel) rfl))
  have hcls : ∀ k : Nat, ∃ q : ClassId × (Nat → Nat), ∀ r : vw_C, vwCl[k]? = some r → u_Kn s r.1 r.2.1 r.2.2 q.1 q.2 := by
    intro k
    match k with
    | 0 => exact ⟨(cX0, iX0), fun r hr => by cases hr; exact kX0⟩
    | 1 => exact ⟨(cX1, iX1), fun r hr => by cases hr; exact kX1⟩
    | 2 => exact ⟨(cX2, iX2), fun r hr => by cases hr; exact kX2⟩
    | 3 => exact ⟨(cX3, iX3), fun r hr => by cases hr; exact kX3⟩
    | 4 => exact ⟨(cX4, iX4), fun r hr => by cases hr; exact kX4⟩
    | 5 => exact ⟨(cX5, iX5), fun r hr => by cases hr; exact kX5⟩
    | 6 => exact ⟨(cX6, iX6), fun r hr => by cases hr; exact kX6⟩
    | 7 => exact ⟨(cX7, iX7), fun r hr => by cases hr; exact kX7⟩
    | 8 => exact ⟨(cX8, iX8), fun r hr => by cases hr; exact kX8⟩
    | 9 => exact ⟨(cX9, iX9), fun r hr => by cases hr; exact kX9⟩
    | 10 => exact ⟨(cX10, iX10), fun r hr => by cases hr; exact kX10⟩
    | k + 11 => exact ⟨(0, fun _ => 0), fun r hr => by cases hr⟩
  obtain ⟨dCI, hdCI⟩ := Classical.axiomOfChoice hcls
  obtain ⟨a0, ao0, ar0⟩ := kn_arr (ty := .int) (hts _ (tb_l 83 (by decide +kernel)))
  obtain ⟨a1, ao1, ar1⟩ := kn_arr (ty := .byte) (hts _ (tb_l 47 (by decide +kernel)))
  obtain ⟨a2, ao2, ar2⟩ := kn_arr (ty := .char) (hts _ (tb_l 862 (by decide +kernel)))
  obtain ⟨a3, ao3, ar3⟩ := kn_arr (ty := .long) (hts _ (tb_l 258 (by decide +kernel)))
  obtain ⟨a4, ao4, ar4⟩ := kn_obj (CC := RX0) (hts _ (tb_l 28 (by decide +kernel)))
  obtain ⟨a5, ao5, ar5⟩ := kn_obj (CC := RX4) (hts _ (tb_l 57 (by decide +kernel)))
  obtain ⟨a6, ao6, ar6⟩ := kn_obj (CC := RX5) (hts _ (tb_l 238 (by decide +kernel)))
  obtain ⟨a7, ao7, ar7⟩ := kn_obj (CC := RX7) (hts _ (tb_l 55 (by decide +kernel)))
  have hA : ∀ a : Nat, a < s.heap.size → ¬ (fun q : Nat => s.heap.size ≤ q) a := fun a h => Nat.not_le.mpr h
  obtain ⟨adK, adV, hSt, hTm⟩ := vk_Sof (args := #[.ref b]) (s := s) (N := 5) (tm := fun i => .string RX2 (idxS i)) (len := lenS) (byt := bytS) (A := fun q : Nat => s.heap.size ≤ q) (by decide) (fun i hi => hf _ (fs_1 i hi)) (fun i hi => hf _ (fs_2 i hi)) (fun i hi => hf _ (fs_3 i hi)) (fun i hi => hf _ (fs_4 i hi)) (fun i hi j hj => hf _ (fs_5 i hi j hj)) (fun i j hi hj hne => (fs_6 i hi j hj hne).elim (fun h => Or.inl (hf _ h)) (fun h => Or.inr (hf _ h))) hA
  have hCS : va_Z "java/lang/String" "COMPACT_STRINGS" "Z" (.int 1) (fun q : Nat => s.heap.size ≤ q) s s.heap := va_Zof (hts _ (tb_l 460 (by decide +kernel))) (hts _ (tb_l 14 (by decide +kernel))) (va_eqt (hf _ fs_7)) hA
  have hSF : va_Zq "jdk/internal/util/Preconditions" "SIOOBE_FORMATTER" "Ljava/util/function/BiFunction;" (fun q : Nat => s.heap.size ≤ q) s s.heap := va_Zqof (hts _ (tb_l 476 (by decide +kernel))) (hts _ (tb_l 16 (by decide +kernel))) (hf _ fs_8) hA
  let g : GG := ((fun k => (dCI k).1, fun k => (dCI k).2), (fun j => [a0, a1, a2, a3, a4, a5, a6, a7].getD j 0), s.heap.size, adK, adV)
  have hKK : KK g s := by
    refine ⟨fun k r hr => hdCI k r hr, fun k q hq => ?_⟩
    match k, hq with
    | 0, hq => cases hq; exact ⟨ao0, ar0⟩
    | 1, hq => cases hq; exact ⟨ao1, ar1⟩
    | 2, hq => cases hq; exact ⟨ao2, ar2⟩
    | 3, hq => cases hq; exact ⟨ao3, ar3⟩
    | 4, hq => cases hq; exact ⟨ao4, ar4⟩
    | 5, hq => cases hq; exact ⟨ao5, ar5⟩
    | 6, hq => cases hq; exact ⟨ao6, ar6⟩
    | 7, hq => cases hq; exact ⟨ao7, ar7⟩
    | k + 8, hq => cases hq
  have hSR : ∀ i, i < 5 → vk_R RX2 (idxS i) (txS i) (adK i) s := by
    intro i hi
    refine vk_R.of ?_ (hTm i hi)
    rcases (show i = 0 ∨ i = 1 ∨ i = 2 ∨ i = 3 ∨ i = 4 by omega) with rfl | rfl | rfl | rfl | rfl
    · exact hts _ (tb_l 446 (by decide +kernel))
    · exact hts _ (tb_l 504 (by decide +kernel))
    · exact hts _ (tb_l 505 (by decide +kernel))
    · exact hts _ (tb_l 522 (by decide +kernel))
    · exact hts _ (tb_l 582 (by decide +kernel))
  have hNW : NW s := by
    refine ⟨fun q hq => ?_, fun CC hq => ?_⟩
    · simp only [nests, List.mem_cons, List.not_mem_nil, or_false] at hq
      rcases hq with rfl | rfl | rfl | rfl | rfl | rfl | rfl | rfl | rfl | rfl
      · exact hts (.methodLinkNest RX9 19 yX2_init RX9) (tb_l 31 (by decide +kernel))
      · exact hts (.methodLinkNest RX8 35 yX0_init RX9) (tb_l 60 (by decide +kernel))
      · exact hts (.methodLinkNest RX8 43 yX4_init RX9) (tb_l 128 (by decide +kernel))
      · exact hts (.methodLinkNest RX9 39 yX1_init RX9) (tb_l 175 (by decide +kernel))
      · exact hts (.methodLinkNest RX9 49 yX6_init RX9) (tb_l 224 (by decide +kernel))
      · exact hts (.methodLinkNest RX9 68 yX0_init RX9) (tb_l 239 (by decide +kernel))
      · exact hts (.methodLinkNest RX9 69 yX5_init RX9) (tb_l 241 (by decide +kernel))
      · exact hts (.methodLinkNest RX9 252 yX6_nods RX9) (tb_l 705 (by decide +kernel))
      · exact hts (.methodLinkNest RX9 256 yX6_knocks RX9) (tb_l 713 (by decide +kernel))
      · exact hts (.methodLinkNest RX9 259 yX6_tells RX9) (tb_l 717 (by decide +kernel))
    · simp only [aos, List.mem_cons, List.not_mem_nil, or_false] at hq
      rcases hq with rfl | rfl | rfl | rfl
      · exact va_AO.of (hts _ (tb_l 28 (by decide +kernel)))
      · exact va_AO.of (hts _ (tb_l 55 (by decide +kernel)))
      · exact va_AO.of (hts _ (tb_l 57 (by decide +kernel)))
      · exact va_AO.of (hts _ (tb_l 238 (by decide +kernel)))
  have hCx : Cx (p, e, room_1, s, m, #[.ref b], below, meth, c) g code x 4 ret 30 600000 7302250 :=
    ⟨hx, hb, hml, hown, hg, hKK, Nat.le_refl _, hlocks, hr, ⟨hSt, hCS, hSF⟩, ⟨hSR, hNW⟩, fun q => absurd q (by decide), Nat.le_of_ble_eq_true rfl, Nat.le_of_ble_eq_true rfl, Nat.le_refl _, Nat.le_refl _⟩
  have hLX : LX (p, e, room_1, s, m, #[.ref b], below, meth, c) g b L xs := ⟨hX, hbl, rfl⟩
  have hV := law_all (l := l) (Q := lw_Z below #[.ref b] s) hCx hLX hL (PH := fun _ => dflt) (fun P i => by
    refine V.iconst (q := 1305) (v := 1) hCx dL_law_1304 rfl (by decide) ?_
    intro H locs ls hH hS hL9
    refine va_forget (fun q hq => hS.2.2 q hq) ?_
    exact lw_ret hx hb hr hlocks dL_law_1305)
  have hH : HP g (fun _ => dflt) 0 s.heap := ⟨rfl, fun k q h => by cases h⟩
  have hl := lv_entry ([.ref b]) (n := 4) (Nat.le_of_ble_eq_true rfl)
  rw [lg_entry_eq]
  exact hV _ _ _ hH va_S.rf hl
-- ===== MY PART ENDS =====
set_option maxHeartbeats 4000000 in
theorem lw_walk (l : Launch) (hflags : l.flags = flags0) (b : Addr) (xs : List Int32) : MetFree l x (headSpec (Jvm.Cond.code x code maxLocals ret :: tables_1) room_1) (lw_P b xs) (fun _ _ _ _ _ => True) lw_Q := by
  refine MetFree.of_bodyS (code := code) (maxLocals := maxLocals) (ret := ret) (by decide) ?_ ?_
  · intro args s m h hn
    obtain ⟨meth, c, h1, h2, h3, h4, h5, h6, -, -⟩ := Cond.code_spec hn (atoms_spec (ws := Jvm.Cond.code x code maxLocals ret :: tables_1) h _ List.mem_cons_self)
    exact ⟨meth, c, h1, h2, h3, h4, h5, h6⟩
  · intro p e s m args below meth c s₁ B hml0 hP _
    obtain ⟨rfl, hx, hbd, hgv⟩ := hP
    obtain ⟨scr, harrAt, hlist, hof, hsmall⟩ := hx
    obtain ⟨hcb, hkn, -, -⟩ := State.arrayAt?_spec harrAt
    have hown : s.vm.findClass R_law = some m.cls := findClass_of_methodNamed B.named
    have hts0 : ∀ c ∈ (Jvm.Cond.code x code maxLocals ret :: tables_1), c.before #[Value.ref b] s = true := atoms_spec (ws := Jvm.Cond.code x code maxLocals ret :: tables_1) B.pre
    have hts : ∀ w ∈ lw_tbl, w.before #[Value.ref b] s = true := k2_hts_sels lw_privs (fun w hw => hts0 w (List.mem_cons_of_mem _ hw)) lw_privs_ok
    have hml : c.maxLocals = 4 := B.maxLocals_eq (hts0 _ List.mem_cons_self)
    have X₀ : Stand p l e room_1 s m #[Value.ref b] below meth c s₁ [] 0 0 := Stand.of_body B
    have hh0 : s₁.heap = s.heap := by rw [B.state]; rfl
    have hsz : scr.slots.size = xs.length := by rw [← Array.length_toList, hlist, List.length_map]
    have hval : ∀ j : Nat, j < xs.length → scr.slots[j]? = some (.int (xs.getD j 0)) := fun j hj => by
      rw [← Array.getElem?_toList, hlist]
      simp [hj]
    have hbl : b < s.heap.size := (Array.getElem?_eq_some_iff.mp hcb).1
    have hX : va_X b xs.length (fun j => xs.getD j 0) s s.heap := ⟨scr, hcb, hof, hkn, hsz, hval⟩
    have K : W p l e room_1 s m #[Value.ref b] below meth c s₁.heap [] 0 0 (lw_Z below #[Value.ref b] s) (entryFrame m ([Value.ref b] : List Value).toArray 4) := by
      rw [hh0]
      exact whole_start l hflags hbd ⟨B.exec, B.bytes, B.returns, hml, hown, hts, hX, hbl, B.notSynchronized, hgv⟩
    obtain ⟨t, a1, o, b1, b2, b3⟩ := K s₁ rfl X₀
    exact ⟨t, o, a1, b1, b2, b3⟩
theorem lw_pre_spec {args : Array Value} {s : State} (h : (Jvm.Cond.and given_1 narrow_1).before args s = true) (hr : rest_1_c.before args s = true) : ∃ (b : Addr) (xs : List Int32), lw_P b xs args s := by
  have hs := flat_of_before _ h
  have hq := flat_of_before _ hr
  have hc : (Cond.count 1).before args s = true := hs _ (by decide +kernel)
  have harr : (Cond.arrayOf (.arg 0) .int).before args s = true := hs _ (by decide +kernel)
  have hle : (Cond.le (.length (.arg 0)) (.int 3072)).before args s = true := hs _ (by decide +kernel)
  have hlen : (Cond.isInt (.length (.arg 0))).before args s = true := hq _ (by decide +kernel)
  have hall : (Cond.all (.arg 0) (.isInt (.elem (.arg 0) (.index 0)))).before args s = true := hq _ (by decide +kernel)
  obtain ⟨b, xs, hb, hx⟩ := State.ints_of_pre rfl harr hlen hall
  have hsm : xs.length < 2 ^ 31 := hx.choose_spec.2.2.2
  have hev : (Term.length (.arg 0)).eval args s none [] s = some (.int xs.length.toInt32) := hx.length_eval hb
  have hv := Cond.le_ints hev (show (Term.int 3072).eval args s none [] s = some (.int 3072) from rfl)
  have hd : xs.length.toInt32 ≤ 3072 := by
    simpa [Cond.before, Cond.holds, hv] using hle
  have hN : xs.length ≤ 3072 := (Int32.ofNat_le_ofNat hsm (by decide)).mp (show Int32.ofNat xs.length ≤ Int32.ofNat 3072 from hd)
  exact ⟨b, xs, Cond.one_arg hc (show args[0]? = some (.ref b) from hb), hx, hN, h⟩
theorem lw_comes (l : Launch) (hflags : l.flags = flags0) : Comes l x (Jvm.Cond.code x code maxLocals ret :: tables_1) room_1 (fun tb e args s => Calls_1 tb e args s ∧ rest_1 tb e args s ∧ Pre_1 tb e args s)
    (fun _ _ args s o t => lw_Q args s o t) := by
  intro p e ha hc hk s m args below hf hfit hheap happ hpre
  obtain ⟨b, xs, hP⟩ := lw_pre_spec hpre.2.2 hpre.2.1
  obtain ⟨k, o, h1, h2, h3, hQ⟩ := lw_walk l hflags b xs p e ha hc hk s m args below hf ((Spec.applies_iff_loose hf).mp happ).1 hP trivial
  exact ⟨k, o, h1, h2, h3, hQ⟩
theorem lw_frame {s t : State} {o : Outcome} {args : Array Value} (h : Framed s o t [] 600000 7302250) :
    Framed s o t (fieldLocs frame_1_writes args s ++ arrayLocs frame_1_arrays args s ++ staticLocs frame_1_statics s) 600000 7302250 := h
theorem lw_limb (L : Cond) (hL : ∀ (args : Array Value) (s t : State), L.after args s (.returned (some (.int 1))) t = true) :
    ArmFor flags0 classFile x code maxLocals ret World_1 tables_1 room_1 Calls_1 rest_1 Pre_1
      (fun tb e a s o t => postC L tb e a s o t ∧ Framed s o t (fieldLocs frame_1_writes a s ++ arrayLocs frame_1_arrays a s ++ staticLocs frame_1_statics s) 600000 7302250) := by
  intro l hflags _ _ p e ha hc hk s m args below hf hfit hheap happ hpre
  obtain ⟨k, o, h1, h2, h3, rfl, hF⟩ := lw_comes l hflags p e ha hc hk s m args below hf hfit hheap happ hpre
  exact ⟨k, _, h1, h2, h3, hL args s _, lw_frame hF⟩
theorem i_vc : Claimed_1_1 ∧ Claimed_1_2 := ⟨lw_limb limb_1_1 (fun args s t => by simp [limb_1_1, Cond.after, Cond.holds, Cond.value]), lw_limb limb_1_2 (fun args s t => Cond.after_iff.mpr (by
  first | (rw [show limb_1_2 = Cond.eq .result (.int 1) from rfl, Cond.eq_ints (x := 1) (y := 1) rfl rfl]; simp; done) | (simp [limb_1_2, Cond.value, Term.eval]; done)))⟩
