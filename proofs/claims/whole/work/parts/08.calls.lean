/-- what the tables say of a method that is called -/
def ME (y : MethodName) (cc : ByteArray) (nL : Nat) (ret : Option FieldType) (k : Nat) : Prop := Cond.code y cc nL ret ∈ gws ∧ Cond.initialized y.cls ∈ gws ∧ (y.cls ≠ "java/lang/invoke/MethodHandle" ∧ y.cls ≠ "java/lang/invoke/VarHandle" ∧ (parseMethodDescriptor y.desc).map (fun d => d.parameters.length) = some k) ∧ nL ≤ 21
def MEV (y : MethodName) (cc : ByteArray) (nL : Nat) (ret : Option FieldType) (k ci : Nat) : Prop := ME y cc nL ret k ∧ Cond.instanceMethod y ∈ gws ∧ Cond.selects y.cls y y ∈ gws ∧ ∃ (T : u_T) (N : Nat), vwCl[ci]? = some (y.cls, T, N)
def MES (y : MethodName) (cc : ByteArray) (nL : Nat) (ret : Option FieldType) (k : Nat) : Prop := ME y cc nL ret k ∧ Cond.static y ∈ gws
def MEI (y : MethodName) (cc : ByteArray) (nL : Nat) (k : Nat) : Prop := ME y cc nL none k ∧ Cond.instanceMethod y ∈ gws ∧ y.name = "<init>"
theorem gw_code {y : MethodName} {cc : ByteArray} {nL : Nat} {ret : Option FieldType} {k : Nat} (h : ME y cc nL ret k) : GoodIn gws (.code y cc nL ret :: gws) := fun w hw => (List.mem_cons.mp hw).elim (fun e => e ▸ gw_all _ h.1) (gw_all w)
theorem RP.blind {g : GG} {PH : PHp} {n : Nat} {av : List Value} : FrameBlind (va_Pc av (RP g PH n)) := fun a U gg mk h => by
  obtain ⟨h1, h2, h3, h4, h5⟩ := h
  exact ⟨h1, h2, va_K.moved (u := U) (U := U.calling gg mk a) (Vm.Alike.refl U.vm) h3, SK.moved (u := U) (U := U.calling gg mk a) (Vm.Alike.refl U.vm) h4, SR.same (u := U) rfl h5⟩
theorem Cx.rp {p : Program} {e : Env} {R : Room} {s : State} {m : MethodId} {args : Array Value} {below : List Frame} {meth : Method} {c : Code} {g : GG} {cc : ByteArray} {y : MethodName} {nL : Nat} {ret : Option FieldType} {lvl mc ms n : Nat} {PH : PHp} {H : Heap} {locs : List Loc}
    (C : Cx (p, e, R, s, m, args, below, meth, c) g cc y nL ret lvl mc ms) (hH : HP g PH n H) (hS : va_S (fun q => bG g ≤ q) s.heap H locs) {U : State} (hU : U.heap = H) (hW : s.WarmedH U.vm) : RP g PH n U :=
  ⟨by rw [hU]; exact hH, va_K.moved hW.alike C.2.2.2.2.2.1, SK.moved hW.alike (by rw [hU]; exact SK.kept C.2.2.2.2.2.2.2.2.2.1 (fun a h1 h2 => hS.2.1 a h1 h2)), SR.warm hW C.2.2.2.2.2.2.2.2.2.2.1⟩
theorem Cx.room {p : Program} {e : Env} {R : Room} {s : State} {m : MethodId} {args : Array Value} {below : List Frame} {meth : Method} {c : Code} {g : GG} {cc : ByteArray} {y : MethodName} {nL : Nat} {ret : Option FieldType} {lvl mc ms lvl1 nL1 mc1 ms1 : Nat}
    (C : Cx (p, e, R, s, m, args, below, meth, c) g cc y nL ret lvl mc ms) (h : lvl1 + 1 ≤ lvl) (hn : nL1 ≤ 21) : (rmL lvl1 mc1 ms1).frames + 1 ≤ R.frames ∧ 8 + (nL1 + 11) + (rmL lvl1 mc1 ms1).locals ≤ R.locals := by
  have h1 := C.2.2.2.2.2.2.2.2.2.2.2.2.1
  have h2 := C.2.2.2.2.2.2.2.2.2.2.2.2.2.1
  exact ⟨by show lvl1 + 1 ≤ _; omega, by show 8 + (nL1 + 11) + 40 * lvl1 ≤ _; omega⟩
theorem Cx.cells {p : Program} {e : Env} {R : Room} {s : State} {m : MethodId} {args : Array Value} {below : List Frame} {meth : Method} {c : Code} {g : GG} {cc : ByteArray} {y : MethodName} {nL : Nat} {ret : Option FieldType} {lvl mc ms : Nat}
    (C : Cx (p, e, R, s, m, args, below, meth, c) g cc y nL ret lvl mc ms) {k j : Nat} (h : k ≤ mc) (h2 : j ≤ ms) : k ≤ R.cells ∧ j ≤ R.slots := by
  have h3 := C.2.2.2.2.2.2.2.2.2.2.2.2.2.2.1
  have h4 := C.2.2.2.2.2.2.2.2.2.2.2.2.2.2.2
  omega
section VCALLS
variable {l : Launch} {g : GG} {cc : ByteArray} {y : MethodName} {nL : Nat} {ret : Option FieldType} {lvl mc ms : Nat} {Q : State → Prop} {cells slots n : Nat} {PH PH1 : PHp} {pc q : Nat} {lv : List (Option Value)} {st st0 rest As : List Value}
variable {y1 : MethodName} {cc1 : ByteArray} {nL1 : Nat} {ret1 : Option FieldType} {lvl1 mc1 ms1 k1 idx ci : Nat} {a : VA} {post : Option Value → PHp → Nat → Prop}
theorem V.ofRun {p : Program} {e : Env} {R : Room} {s : State} {m : MethodId} {args : Array Value} {below : List Frame} {meth : Method} {c : Code} {H : Heap} {locs : List Loc} {ls : Array Slot} {a9 : Array Value} (hr : va_Run p l e R s m args below meth c H locs cells slots mc1 ms1 (F0 m pc ls st0) rest (QC g post a9) (fun q => bG g ≤ q))
    (hS : va_S (fun q => bG g ≤ q) s.heap H locs) (hL : LV ls nL lv) (kk : ∀ v PH' n', post v PH' n' → V l (p, e, R, s, m, args, below, meth, c) g nL Q (cells + mc1) (slots + ms1) n' PH' (pc + 3) lv (v.toList ++ rest)) : W p l e R s m args below meth c H locs cells slots Q (F0 m pc ls st0) := by
  intro T hT X
  obtain ⟨v, st₀, t, T', L, h0, X', hL', e1, e2, ⟨⟨v', PH', n', hv, hp, hH'⟩, hz, hk⟩, st⟩ := hr T hT X
  cases hv
  rw [h0] at hz hk
  obtain ⟨t2, a1, b1⟩ := kk v PH' n' hp T'.heap (locs ++ L) ls (by rw [e1]; exact hH')
    ⟨Nat.le_trans hS.1 (by rw [e1]; exact hz), fun q h1 h2 => by rw [e1, hk q (Nat.lt_of_lt_of_le h1 hS.1) h2]; exact hS.2.1 q h1 h2, fun q hq => by
      rcases List.mem_append.mp hq with h | h
      · exact hS.2.2 q h
      · exact hL' q h⟩ hL T' rfl X'
  exact ⟨t2, st t2 a1, b1⟩
theorem V.callV {Γ : Cxt} (C : Cx Γ g cc y nL ret lvl mc ms) (M : MEV y1 cc1 nL1 ret1 k1 ci) (hM : Ct l g y1 cc1 nL1 ret1 lvl1 mc1 ms1 (rf g a :: As) n PH post) (hl : Cond.methodLink y.cls idx y1 ∈ gws) (d : decode cc pc = .ok (.invokevirtual idx, 3)) (hq : pc + 3 = q) (ok : Ok a n) (hc : ∃ fs, PH a = .inr (ci, fs)) (hk : As.length = k1) (hst : st0 = As.reverse ++ rf g a :: rest) (hw : (rest.map fun v => v.category).sum ≤ 8) (hlv : lvl1 + 1 ≤ lvl) (hmc : cells + mc1 ≤ mc) (hms : slots + ms1 ≤ ms)
    (kk : ∀ v PH' n', post v PH' n' → V l Γ g nL Q (cells + mc1) (slots + ms1) n' PH' q lv (v.toList ++ rest)) : V l Γ g nL Q cells slots n PH pc lv st0 := by
  obtain ⟨p, e, R, s, m, args, below, meth, c⟩ := Γ
  subst hq
  intro H locs ls hH hS hL
  obtain ⟨⟨M1, M2, M3, M4⟩, Mi, Ms, T, N, hcl⟩ := M
  obtain ⟨fs, hc⟩ := hc
  have hr := C.room (mc1 := mc1) (ms1 := ms1) hlv M4
  refine V.ofRun (rest := rest) (va_runV (Ts := gws) (own := y.cls) (C := y1.cls) (b := bG g + ad a) (As := As) (n := k1) ⟨C.1, C.2.1, C.2.2.1, C.2.2.2.1, C.2.2.2.2.1⟩ hM ⟨callB_of k1 C.2.2.2.2.1 (gw_code ⟨M1, M2, M3, M4⟩) rfl rfl rfl (C.2.2.2.2.1 _ M2) (C.2.2.2.2.1 _ hl) M3 hr, C.2.2.2.2.1 _ Mi, C.2.2.2.2.1 _ Ms⟩ ⟨RP.blind, va_recv C.2.2.2.2.2.1 hH.2 (ci := ci) (q0 := ad a) hcl (by rw [wl_at ok, hc]), fun U hU hW => ⟨rfl, C.rp hH hS hU hW⟩⟩ rfl hk hL.1 hst (lv_room hw) d (C.cells hmc hms)) hS hL kk
theorem V.callS {Γ : Cxt} (C : Cx Γ g cc y nL ret lvl mc ms) (M : MES y1 cc1 nL1 ret1 k1) (hM : Ct l g y1 cc1 nL1 ret1 lvl1 mc1 ms1 As n PH post) (hl : Cond.methodLink y.cls idx y1 ∈ gws) (d : decode cc pc = .ok (.invokestatic idx, 3)) (hq : pc + 3 = q) (hk : As.length = k1) (hst : st0 = As.reverse ++ rest) (hw : (rest.map fun v => v.category).sum ≤ 8) (hlv : lvl1 + 1 ≤ lvl) (hmc : cells + mc1 ≤ mc) (hms : slots + ms1 ≤ ms)
    (kk : ∀ v PH' n', post v PH' n' → V l Γ g nL Q (cells + mc1) (slots + ms1) n' PH' q lv (v.toList ++ rest)) : V l Γ g nL Q cells slots n PH pc lv st0 := by
  obtain ⟨p, e, R, s, m, args, below, meth, c⟩ := Γ
  subst hq
  intro H locs ls hH hS hL
  obtain ⟨⟨M1, M2, M3, M4⟩, Ms⟩ := M
  have hr := C.room (mc1 := mc1) (ms1 := ms1) hlv M4
  refine V.ofRun (rest := rest) (va_runS (Ts := gws) (own := y.cls) (As := As) (n := k1) ⟨C.1, C.2.1, C.2.2.1, C.2.2.2.1, C.2.2.2.2.1⟩ hM ⟨callB_of k1 C.2.2.2.2.1 (gw_code ⟨M1, M2, M3, M4⟩) rfl rfl rfl (C.2.2.2.2.1 _ M2) (C.2.2.2.2.1 _ hl) M3 hr, C.2.2.2.2.1 _ Ms⟩ ⟨RP.blind, fun U hU hW => ⟨rfl, C.rp hH hS hU hW⟩⟩ rfl hk hL.1 hst (lv_room hw) d (C.cells hmc hms)) hS hL kk
theorem V.callI {Γ : Cxt} (C : Cx Γ g cc y nL ret lvl mc ms) (M : MEI y1 cc1 nL1 k1) (hM : Ct l g y1 cc1 nL1 none lvl1 mc1 ms1 (rf g a :: As) n PH post) (hl : Cond.methodLink y.cls idx y1 ∈ gws) (d : decode cc pc = .ok (.invokespecial idx, 3)) (hq : pc + 3 = q) (hk : As.length = k1) (hst : st0 = As.reverse ++ rf g a :: rest) (hw : (rest.map fun v => v.category).sum ≤ 8) (hlv : lvl1 + 1 ≤ lvl) (hmc : cells + mc1 ≤ mc) (hms : slots + ms1 ≤ ms)
    (kk : ∀ v PH' n', post v PH' n' → V l Γ g nL Q (cells + mc1) (slots + ms1) n' PH' q lv (v.toList ++ rest)) : V l Γ g nL Q cells slots n PH pc lv st0 := by
  obtain ⟨p, e, R, s, m, args, below, meth, c⟩ := Γ
  subst hq
  intro H locs ls hH hS hL
  obtain ⟨⟨M1, M2, M3, M4⟩, Mi, Mn⟩ := M
  have hr := C.room (mc1 := mc1) (ms1 := ms1) hlv M4
  refine V.ofRun (rest := rest) (va_runI (Ts := gws) (own := y.cls) (b := bG g + ad a) (As := As) (n := k1) ⟨C.1, C.2.1, C.2.2.1, C.2.2.2.1, C.2.2.2.2.1⟩ hM ⟨callB_of k1 C.2.2.2.2.1 (gw_code ⟨M1, M2, M3, M4⟩) rfl rfl rfl (C.2.2.2.2.1 _ M2) (C.2.2.2.2.1 _ hl) M3 hr, Mn, C.2.2.2.2.1 _ Mi⟩ ⟨RP.blind, fun U hU hW => ⟨rfl, C.rp hH hS hU hW⟩⟩ rfl hk hL.1 hst (lv_room hw) d (C.cells hmc hms)) hS hL kk
/-- the same where the method is a nest mate's private one -/
theorem V.callSN {Γ : Cxt} {host : String} (C : Cx Γ g cc y nL ret lvl mc ms) (M : MES y1 cc1 nL1 ret1 k1) (hM : Ct l g y1 cc1 nL1 ret1 lvl1 mc1 ms1 As n PH post) (hl : (y.cls, idx, y1, host) ∈ nests) (d : decode cc pc = .ok (.invokestatic idx, 3)) (hq : pc + 3 = q) (hk : As.length = k1) (hst : st0 = As.reverse ++ rest) (hw : (rest.map fun v => v.category).sum ≤ 8) (hlv : lvl1 + 1 ≤ lvl) (hmc : cells + mc1 ≤ mc) (hms : slots + ms1 ≤ ms)
    (kk : ∀ v PH' n', post v PH' n' → V l Γ g nL Q (cells + mc1) (slots + ms1) n' PH' q lv (v.toList ++ rest)) : V l Γ g nL Q cells slots n PH pc lv st0 := by
  obtain ⟨p, e, R, s, m, args, below, meth, c⟩ := Γ
  subst hq
  intro H locs ls hH hS hL
  obtain ⟨⟨M1, M2, M3, M4⟩, Ms⟩ := M
  have hr := C.room (mc1 := mc1) (ms1 := ms1) hlv M4
  refine V.ofRun (rest := rest) (va_runSN (Ts := gws) (own := y.cls) (host := host) (As := As) (n := k1) ⟨C.1, C.2.1, C.2.2.1, C.2.2.2.1, C.2.2.2.2.1⟩ hM ⟨va_cnB k1 C.2.2.2.2.1 (gw_code ⟨M1, M2, M3, M4⟩) rfl rfl rfl (C.2.2.2.2.2.2.2.2.2.2.1.2.1 _ hl) (C.2.2.2.2.1 _ M2) M3 hr, C.2.2.2.2.1 _ Ms, trivial⟩ ⟨RP.blind, fun U hU hW => ⟨rfl, C.rp hH hS hU hW⟩⟩ rfl hk hL.1 hst (lv_room hw) d (C.cells hmc hms)) hS hL kk
theorem V.callIN {Γ : Cxt} {host : String} (C : Cx Γ g cc y nL ret lvl mc ms) (M : MEI y1 cc1 nL1 k1) (hM : Ct l g y1 cc1 nL1 none lvl1 mc1 ms1 (rf g a :: As) n PH post) (hl : (y.cls, idx, y1, host) ∈ nests) (d : decode cc pc = .ok (.invokespecial idx, 3)) (hq : pc + 3 = q) (hk : As.length = k1) (hst : st0 = As.reverse ++ rf g a :: rest) (hw : (rest.map fun v => v.category).sum ≤ 8) (hlv : lvl1 + 1 ≤ lvl) (hmc : cells + mc1 ≤ mc) (hms : slots + ms1 ≤ ms)
    (kk : ∀ v PH' n', post v PH' n' → V l Γ g nL Q (cells + mc1) (slots + ms1) n' PH' q lv (v.toList ++ rest)) : V l Γ g nL Q cells slots n PH pc lv st0 := by
  obtain ⟨p, e, R, s, m, args, below, meth, c⟩ := Γ
  subst hq
  intro H locs ls hH hS hL
  obtain ⟨⟨M1, M2, M3, M4⟩, Mi, Mn⟩ := M
  have hr := C.room (mc1 := mc1) (ms1 := ms1) hlv M4
  refine V.ofRun (rest := rest) (va_runIN (Ts := gws) (own := y.cls) (host := host) (b := bG g + ad a) (As := As) (n := k1) ⟨C.1, C.2.1, C.2.2.1, C.2.2.2.1, C.2.2.2.2.1⟩ hM ⟨va_cnB k1 C.2.2.2.2.1 (gw_code ⟨M1, M2, M3, M4⟩) rfl rfl rfl (C.2.2.2.2.2.2.2.2.2.2.1.2.1 _ hl) (C.2.2.2.2.1 _ M2) M3 hr, Mn, C.2.2.2.2.1 _ Mi⟩ ⟨RP.blind, fun U hU hW => ⟨rfl, C.rp hH hS hU hW⟩⟩ rfl hk hL.1 hst (lv_room hw) d (C.cells hmc hms)) hS hL kk
end VCALLS
