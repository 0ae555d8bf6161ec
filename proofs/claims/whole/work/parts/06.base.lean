/-! virtual addresses: each cell of the two systems by kind, instance, index; in the order of their making -/
abbrev VA : Type := Nat × Nat × Nat
def vaL : List VA := [(0, 0, 0), (1, 0, 0), (4, 0, 0), (5, 0, 0), (6, 0, 0), (7, 0, 0), (8, 0, 0), (2, 0, 0), (3, 0, 0), (3, 0, 1), (3, 0, 2), (9, 0, 0), (10, 0, 0), (9, 0, 1), (10, 0, 1), (9, 0, 2), (10, 0, 2), (9, 0, 3), (10, 0, 3), (9, 0, 4), (10, 0, 4), (9, 0, 5), (10, 0, 5), (11, 0, 0), (11, 0, 1), (11, 0, 2), (11, 0, 3), (11, 0, 4), (11, 0, 5), (11, 0, 6), (11, 0, 7), (6, 1, 0), (7, 1, 0), (8, 1, 0), (2, 7, 0), (3, 7, 0), (3, 7, 1), (3, 7, 2), (9, 1, 0), (10, 1, 0), (9, 1, 1), (10, 1, 1), (9, 1, 2), (10, 1, 2), (9, 1, 3), (10, 1, 3), (9, 1, 4), (10, 1, 4), (9, 1, 5), (10, 1, 5), (11, 1, 0), (11, 1, 1), (11, 1, 2), (11, 1, 3), (11, 1, 4), (11, 1, 5), (11, 1, 6), (11, 1, 7), (6, 2, 0), (7, 2, 0), (8, 2, 0), (2, 8, 0), (3, 8, 0), (3, 8, 1), (3, 8, 2), (9, 2, 0), (10, 2, 0), (9, 2, 1), (10, 2, 1), (9, 2, 2), (10, 2, 2), (9, 2, 3), (10, 2, 3), (9, 2, 4), (10, 2, 4), (9, 2, 5), (10, 2, 5), (11, 2, 0), (11, 2, 1), (11, 2, 2), (11, 2, 3), (11, 2, 4), (11, 2, 5), (11, 2, 6), (11, 2, 7), (12, 0, 0), (13, 0, 0), (14, 0, 0), (15, 0, 0), (16, 0, 0), (13, 0, 1), (14, 0, 1), (15, 0, 1), (16, 0, 1), (13, 0, 2), (14, 0, 2), (15, 0, 2), (16, 0, 2), (13, 0, 3), (14, 0, 3), (15, 0, 3), (16, 0, 3), (12, 1, 0), (13, 1, 0), (14, 1, 0), (15, 1, 0), (16, 1, 0), (13, 1, 1), (14, 1, 1), (15, 1, 1), (16, 1, 1), (13, 1, 2), (14, 1, 2), (15, 1, 2), (16, 1, 2), (13, 1, 3), (14, 1, 3), (15, 1, 3), (16, 1, 3), (17, 0, 0), (18, 0, 0), (19, 0, 0), (2, 1, 0), (3, 1, 0), (3, 1, 1), (3, 1, 2), (2, 2, 0), (3, 2, 0), (3, 2, 1), (3, 2, 2), (2, 3, 0), (3, 3, 0), (3, 3, 1), (3, 3, 2), (2, 4, 0), (3, 4, 0), (3, 4, 1), (3, 4, 2), (2, 5, 0), (3, 5, 0), (3, 5, 1), (3, 5, 2), (2, 6, 0), (3, 6, 0), (3, 6, 1), (3, 6, 2), (20, 0, 0), (21, 0, 0), (20, 1, 0), (21, 1, 0), (20, 2, 0), (21, 2, 0), (20, 3, 0), (21, 3, 0), (20, 4, 0), (21, 4, 0), (20, 5, 0), (21, 5, 0), (22, 0, 0), (23, 0, 0), (23, 1, 0), (23, 2, 0), (23, 4, 0), (23, 6, 0), (23, 7, 0), (23, 9, 0), (23, 16, 0), (23, 17, 0), (23, 18, 0), (23, 19, 0), (23, 20, 0), (23, 21, 0), (23, 22, 0), (23, 23, 0), (23, 24, 0), (23, 26, 0), (23, 27, 0), (23, 28, 0), (23, 29, 0)]
abbrev NN : Nat := 179
abbrev nC : Nat := 158
theorem vaL_len : vaL.length = NN := by decide +kernel
theorem vaL_nd : vaL.Nodup := by decide +kernel
abbrev PHp : Type := VA → va_E
abbrev Cxt : Type := Program × Env × Room × State × MethodId × Array Value × List Frame × Method × Code
/-- what stays the whole run through: the classes, the array classes, the first cell's address, the Strings' addresses -/
abbrev GG : Type := va_G × (Nat → ClassId) × Nat × (Nat → Nat) × (Nat → Nat)
def bG (g : GG) : Nat := g.2.2.1
def ad (a : VA) : Nat := vaL.idxOf a
def vaT (j : Nat) : VA := vaL.getD j (99, 0, 0)
def Ok (a : VA) (n : Nat) : Prop := ad a < n ∧ ad a < NN
def rf (g : GG) (a : VA) : Value := .ref (bG g + ad a)
def wl (g : GG) (PH : PHp) (n : Nat) : va_W := (List.range n).map fun j => (bG g + j, PH (vaT j))
def up (PH : PHp) (a : VA) (e : va_E) : PHp := fun q => if q = a then e else PH q
theorem ad_vaT : ∀ j, j < NN → ad (vaT j) = j := by decide +kernel
theorem vaT_ad {a : VA} (h : ad a < NN) : vaT (ad a) = a := by
  have h' : vaL.idxOf a < vaL.length := by rw [vaL_len]; exact h
  unfold vaT ad
  rw [List.getD_eq_getElem?_getD, List.getElem?_eq_getElem h', Option.getD_some, List.getElem_idxOf]
theorem vaT_ne {a : VA} {j : Nat} (h : ad a < NN) (hj : j ≠ ad a) : vaT j ≠ a := by
  intro q
  by_cases hl : j < NN
  · exact hj (by rw [← q, ad_vaT j hl])
  · have e : vaT j = (99, 0, 0) := by
      unfold vaT
      rw [List.getD_eq_getElem?_getD, List.getElem?_eq_none (by rw [vaL_len]; omega)]
      rfl
    rw [← q, e] at h
    exact absurd h (by decide +kernel)
theorem up_eq {PH : PHp} {a : VA} {e : va_E} : up PH a e a = e := if_pos rfl
theorem up_ne {PH : PHp} {a q : VA} {e : va_E} (h : q ≠ a) : up PH a e q = PH q := if_neg h
theorem wl_at {g : GG} {PH : PHp} {n : Nat} {a : VA} (h : Ok a n) : (wl g PH n)[ad a]? = some (bG g + ad a, PH a) := by
  unfold wl
  rw [List.getElem?_map, List.getElem?_range h.1, Option.map_some, vaT_ad h.2]
theorem wl_len {g : GG} {PH : PHp} {n : Nat} : (wl g PH n).length = n := by simp [wl]
theorem wl_get {g : GG} {PH : PHp} {n j : Nat} (h : j < n) : (wl g PH n)[j]? = some (bG g + j, PH (vaT j)) := by
  unfold wl
  rw [List.getElem?_map, List.getElem?_range h, Option.map_some]
theorem wl_set {g : GG} {PH : PHp} {n : Nat} {a : VA} {e : va_E} (h : Ok a n) : (wl g PH n).set (ad a) (bG g + ad a, e) = wl g (up PH a e) n := by
  apply List.ext_getElem?
  intro j
  by_cases hj : j = ad a
  · subst hj
    rw [List.getElem?_set_self (by rw [wl_len]; exact h.1), wl_at h, up_eq]
  · rw [List.getElem?_set_ne (Ne.symm hj)]
    by_cases hn : j < n
    · rw [wl_get hn, wl_get hn, up_ne (vaT_ne h.2 hj)]
    · rw [List.getElem?_eq_none (by rw [wl_len]; omega), List.getElem?_eq_none (by rw [wl_len]; omega)]
theorem wl_push {g : GG} {PH : PHp} {n : Nat} {e : va_E} (hn : n < NN) : wl g PH n ++ [(bG g + n, e)] = wl g (up PH (vaT n) e) (n + 1) := by
  have hv := ad_vaT n hn
  apply List.ext_getElem?
  intro j
  by_cases hl : j < n
  · rw [List.getElem?_append_left (by rw [wl_len]; exact hl), wl_get hl, wl_get (by omega), up_ne (vaT_ne (by rw [hv]; exact hn) (by rw [hv]; omega))]
  · rw [List.getElem?_append_right (by rw [wl_len]; omega), wl_len]
    by_cases hj : j = n
    · subst hj
      rw [wl_get (by omega), Nat.sub_self, up_eq]
      rfl
    · rw [List.getElem?_eq_none (by simp; omega), List.getElem?_eq_none (by rw [wl_len]; omega)]
theorem wl_D {g : GG} {PH : PHp} {n : Nat} : va_D (fun q => bG g ≤ q) (wl g PH n) := by
  have key : ∀ (k : Nat) (q : Nat × va_E), (wl g PH n)[k]? = some q → q.1 = bG g + k := by
    intro k q h
    have hk : k < n := by
      have := (List.getElem?_eq_some_iff.mp h).1
      rw [wl_len] at this
      exact this
    rw [wl_get hk] at h
    cases h
    rfl
  exact ⟨fun i j p q hi hj e => by rw [key i p hi, key j q hj] at e; omega, fun k q h => by show bG g ≤ q.1; rw [key k q h]; omega⟩
/-- the heap: the first n cells of the system hold PH -/
def HP (g : GG) (PH : PHp) (n : Nat) (H : Heap) : Prop := H.size = bG g + n ∧ va_P g.1 vwCl (wl g PH n) H
def tysL (cx : Nat → ClassId) : List (ClassId × FieldType) := [(cx 0, .int), (cx 1, .byte), (cx 2, .char), (cx 3, .long), (cx 4, .object RX0), (cx 5, .object RX4), (cx 6, .object RX5), (cx 7, .object RX7)]
def KK (g : GG) (U : State) : Prop := va_K g.1 vwCl (tysL g.2.1) U
def idxS (i : Nat) : Nat := [35, 48, 50, 66, 72].getD i 0
def txS (i : Nat) : String := ["ub ", "irm ", "eak ", "pkvscd", "<=>"].getD i ""
def lenS : List Nat := [3, 4, 4, 6, 3]
def bytS : List (List Int32) := [[117, 98, 32], [105, 114, 109, 32], [101, 97, 107, 32], [112, 107, 118, 115, 99, 100], [60, 61, 62]]
/-- the Strings, and what the JDK's statics hold -/
def SK (g : GG) (U : State) (H : Heap) : Prop := vk_S 5 lenS bytS g.2.2.2.1 g.2.2.2.2 (fun q => bG g ≤ q) U H ∧ va_Z "java/lang/String" "COMPACT_STRINGS" "Z" (.int 1) (fun q => bG g ≤ q) U H ∧ va_Zq "jdk/internal/util/Preconditions" "SIOOBE_FORMATTER" "Ljava/util/function/BiFunction;" (fun q => bG g ≤ q) U H
theorem SK.moved {g : GG} {u U : State} {H : Heap} (hvm : u.vm.Alike U.vm) (h : SK g u H) : SK g U H := ⟨vk_S.moved hvm h.1, va_Z.moved hvm h.2.1, va_Zq.moved hvm h.2.2⟩
theorem SK.kept {g : GG} {U : State} {H H1 : Heap} (h : SK g U H) (hq : ∀ a : Nat, a < H.size → ¬ bG g ≤ a → H1[a]? = H[a]?) : SK g U H1 := ⟨vk_S.kept h.1 hq, va_Z.kept h.2.1 hq, va_Zq.kept h.2.2 hq⟩
/-- the links to nest mates' private methods, the arrays of objects: words that don't ride in a contract's list -/
def nests : List (String × Nat × MethodName × String) := [(RX9, 19, yX2_init, RX9), (RX8, 35, yX0_init, RX9), (RX8, 43, yX4_init, RX9), (RX9, 39, yX1_init, RX9), (RX9, 49, yX6_init, RX9), (RX9, 68, yX0_init, RX9), (RX9, 69, yX5_init, RX9), (RX9, 252, yX6_nods, RX9), (RX9, 256, yX6_knocks, RX9), (RX9, 259, yX6_tells, RX9)]
def aos : List String := [RX0, RX7, RX4, RX5]
def NW (U : State) : Prop := (∀ q ∈ nests, va_Nw (.methodLinkNest q.1 q.2.1 q.2.2.1 q.2.2.2) U) ∧ ∀ C ∈ aos, va_AO C U
theorem NW.warm {s U : State} (hW : s.WarmedH U.vm) (h : NW s) : NW U := ⟨fun q hq => va_Nw.warmM hW (h.1 q hq), fun C hC => va_AO.moved hW.alike (h.2 C hC)⟩
theorem NW.same {u U : State} (hv : u.vm = U.vm) (h : NW u) : NW U := ⟨fun q hq => va_Nw.same rfl hv (h.1 q hq), fun C hC => va_AO.moved (by rw [hv]; exact Vm.Alike.refl _) (h.2 C hC)⟩
def SR (g : GG) (U : State) : Prop := (∀ i, i < 5 → vk_R RX2 (idxS i) (txS i) (g.2.2.2.1 i) U) ∧ NW U
theorem SR.warm {g : GG} {s U : State} (hW : s.WarmedH U.vm) (h : SR g s) : SR g U := ⟨fun i hi => vk_R.warm hW (h.1 i hi), h.2.warm hW⟩
theorem SR.same {g : GG} {u U : State} (hv : u.vm = U.vm) (h : SR g u) : SR g U := ⟨fun i hi => vk_R.same hv.symm (h.1 i hi), h.2.same hv⟩
/-- the words that ride in every contract -/
def gws : List Cond := lw_tbl.filter goodWord
theorem gws_of {w : Cond} (h : w ∈ lw_tbl) (hg : goodWord w = true) : w ∈ gws := List.mem_filter.mpr ⟨h, hg⟩
theorem gws_in : ∀ w ∈ gws, w ∈ lw_tbl := fun _ h => (List.mem_filter.mp h).1
theorem gw_all : GoodIn gws gws := fun w hw => ⟨hw, good_of_word (List.mem_filter.mp hw).2⟩
def RP (g : GG) (PH : PHp) (n : Nat) (U : State) : Prop := HP g PH n U.heap ∧ KK g U ∧ SK g U U.heap ∧ SR g U
/-- what holds in a method's body from its entry on -/
def Cx (Γ : Cxt) (g : GG) (cc : ByteArray) (y : MethodName) (nL : Nat) (ret : Option FieldType) (lvl mc ms : Nat) : Prop :=
  match Γ with
  | (p, _, R, s, m, args, _, meth, c) => p.tables.exec = Jvm.exec ∧ c.code = cc ∧ c.maxLocals = nL ∧ s.vm.findClass y.cls = some m.cls ∧ (∀ w ∈ gws, w.before args s = true) ∧ KK g s ∧ bG g ≤ s.heap.size ∧ meth.locks = false ∧ meth.sig.returnType = ret ∧ SK g s s.heap ∧ SR g s ∧ (y.name = "<init>" → meth.name = "<init>") ∧ lvl ≤ R.frames ∧ 40 * lvl ≤ R.locals ∧ mc ≤ R.cells ∧ ms ≤ R.slots
/-- locals by their numbers -/
def lvL : Nat → List (Option Value) → List (Nat × Value)
  | _, [] => []
  | i, none :: t => lvL (i + 1) t
  | i, some v :: t => (i, v) :: lvL (i + 1) t
theorem lvL_mem : ∀ (lv : List (Option Value)) (i j : Nat) (v : Value), (j, v) ∈ lvL i lv ↔ i ≤ j ∧ lv[j - i]? = some (some v)
  | [], i, j, v => by simp [lvL]
  | none :: t, i, j, v => by
    rw [lvL, lvL_mem t (i + 1) j v]
    constructor
    · rintro ⟨h1, h2⟩
      refine ⟨by omega, ?_⟩
      rw [show j - i = (j - (i + 1)) + 1 by omega, List.getElem?_cons_succ]
      exact h2
    · rintro ⟨h1, h2⟩
      by_cases e : j = i
      · subst e; simp at h2
      · refine ⟨by omega, ?_⟩
        rw [show j - i = (j - (i + 1)) + 1 by omega, List.getElem?_cons_succ] at h2
        exact h2
  | some w :: t, i, j, v => by
    rw [lvL, List.mem_cons, lvL_mem t (i + 1) j v]
    constructor
    · rintro (h | ⟨h1, h2⟩)
      · cases h; simp
      · refine ⟨by omega, ?_⟩
        rw [show j - i = (j - (i + 1)) + 1 by omega, List.getElem?_cons_succ]
        exact h2
    · rintro ⟨h1, h2⟩
      by_cases e : j = i
      · subst e; simp at h2; exact Or.inl (by rw [h2])
      · refine Or.inr ⟨by omega, ?_⟩
        rw [show j - i = (j - (i + 1)) + 1 by omega, List.getElem?_cons_succ] at h2
        exact h2
def LV (ls : Array Slot) (nL : Nat) (lv : List (Option Value)) : Prop := lv_has ls nL (lvL 0 lv)
theorem LV.get {ls : Array Slot} {nL : Nat} {lv : List (Option Value)} (h : LV ls nL lv) {i : Nat} {v : Value} (hv : lv[i]? = some (some v)) : ls[i]? = some (.val v) :=
  h.2.2 (i, v) ((lvL_mem lv 0 i v).mpr ⟨Nat.zero_le i, hv⟩)
/-- no long lies across place i -/
def c2 (lv : List (Option Value)) (i : Nat) : Bool := match i with
  | 0 => true
  | k + 1 => match lv[k]? with
    | some (some w) => w.category == 1
    | _ => true
theorem LV.set1 {ls' : Array Slot} {nL i : Nat} {lv : List (Option Value)} {v : Value} (h2 : c2 lv i = true)
    (h : lv_has ls' nL ((i, v) :: (lvL 0 lv).filter (fun q => !(q.1 == i) && !(q.1 + 1 == i && q.2.category == 2)))) : LV ls' nL (lv.set i (some v)) := by
  refine ⟨h.1, h.2.1, ?_⟩
  rintro ⟨j, w⟩ hm
  obtain ⟨-, hq⟩ := (lvL_mem _ 0 j w).mp hm
  rw [Nat.sub_zero] at hq
  by_cases e : j = i
  · subst e
    have hl : j < lv.length := by
      have := (List.getElem?_eq_some_iff.mp hq).1
      simpa using this
    rw [List.getElem?_set_self hl] at hq
    cases hq
    exact h.2.2 (j, v) List.mem_cons_self
  · rw [List.getElem?_set_ne (Ne.symm e)] at hq
    refine h.2.2 (j, w) (List.mem_cons_of_mem _ (List.mem_filter.mpr ⟨(lvL_mem lv 0 j w).mpr ⟨Nat.zero_le j, hq⟩, ?_⟩))
    have e1 : (j == i) = false := by simpa using e
    by_cases e2 : j + 1 = i
    · subst e2
      have h3 : (match lv[j]? with
        | some (some w) => w.category == 1
        | _ => true) = true := h2
      rw [hq] at h3
      have w1 : w.category = 1 := by simpa using h3
      simp [e1, w1]
    · simp [e1, e2]
theorem LV.set2 {ls' : Array Slot} {nL i : Nat} {lv : List (Option Value)} {v : Value} (h2 : c2 lv i = true)
    (h : lv_has ls' nL ((i, v) :: (lvL 0 lv).filter (fun q => !(q.1 == i) && (!(q.1 == i + 1) && !(q.1 + 1 == i && q.2.category == 2))))) : LV ls' nL ((lv.set i (some v)).set (i + 1) none) := by
  refine ⟨h.1, h.2.1, ?_⟩
  rintro ⟨j, w⟩ hm
  obtain ⟨-, hq⟩ := (lvL_mem _ 0 j w).mp hm
  rw [Nat.sub_zero] at hq
  by_cases e3 : j = i + 1
  · subst e3
    by_cases hl : i + 1 < (lv.set i (some v)).length
    · rw [List.getElem?_set_self hl] at hq
      cases hq
    · rw [List.getElem?_eq_none (by simpa using hl)] at hq
      cases hq
  rw [List.getElem?_set_ne (Ne.symm e3)] at hq
  by_cases e : j = i
  · subst e
    have hl : j < lv.length := by
      have := (List.getElem?_eq_some_iff.mp hq).1
      simpa using this
    rw [List.getElem?_set_self hl] at hq
    cases hq
    exact h.2.2 (j, v) List.mem_cons_self
  · rw [List.getElem?_set_ne (Ne.symm e)] at hq
    refine h.2.2 (j, w) (List.mem_cons_of_mem _ (List.mem_filter.mpr ⟨(lvL_mem lv 0 j w).mpr ⟨Nat.zero_le j, hq⟩, ?_⟩))
    have e1 : (j == i) = false := by simpa using e
    have e4 : (j == i + 1) = false := by simpa using e3
    by_cases e2 : j + 1 = i
    · subst e2
      have h3 : (match lv[j]? with
        | some (some w) => w.category == 1
        | _ => true) = true := h2
      rw [hq] at h3
      have w1 : w.category = 1 := by simpa using h3
      simp [e1, e4, w1]
    · simp [e1, e2, e4]
/-- the method, now at pc with these locals and this stack over the heap PH, comes to a state with Q -/
def V (l : Launch) (Γ : Cxt) (g : GG) (nL : Nat) (Q : State → Prop) (cells slots n : Nat) (PH : PHp) (pc : Nat) (lv : List (Option Value)) (st : List Value) : Prop :=
  match Γ with
  | (p, e, R, s, m, args, below, meth, c) => ∀ (H : Heap) (locs : List Loc) (ls : Array Slot), HP g PH n H → va_S (fun q => bG g ≤ q) s.heap H locs → LV ls nL lv → W p l e R s m args below meth c H locs cells slots Q (F0 m pc ls st)
def QC (g : GG) (post : Option Value → PHp → Nat → Prop) : Array Value → State → Outcome → State → Prop := fun _ st oc t => (∃ (v : Option Value) (PH : PHp) (n : Nat), oc = .returned v ∧ post v PH n ∧ HP g PH n t.heap) ∧ va_F (fun q => bG g ≤ q) st t
def QM (Γ : Cxt) (g : GG) (post : Option Value → PHp → Nat → Prop) (mc ms : Nat) : State → Prop :=
  match Γ with
  | (_, _, _, s, _, args, below, _, _) => MQ below (QC g post) args s mc ms (fun q => bG g ≤ q)
abbrev rmL (lvl mc ms : Nat) : Room := { frames := lvl, cells := mc, slots := ms, locals := 40 * lvl }
/-- a method's contract -/
def Ct (l : Launch) (g : GG) (y : MethodName) (cc : ByteArray) (nL : Nat) (ret : Option FieldType) (lvl mc ms : Nat) (av : List Value) (n : Nat) (PH : PHp) (post : Option Value → PHp → Nat → Prop) : Prop :=
  Met l y (.code y cc nL ret :: gws) (rmL lvl mc ms) (va_Pc av (RP g PH n)) (QC g post) mc ms (fun q => bG g ≤ q)
set_option maxHeartbeats 1000000 in
theorem Ct.of {l : Launch} {g : GG} {y : MethodName} {cc : ByteArray} {nL : Nat} {ret : Option FieldType} {lvl mc ms : Nat} {av : List Value} {n : Nat} {PH : PHp} {post : Option Value → PHp → Nat → Prop} {lv : List (Option Value)}
    (hy : plainName y.cls = true) (hlv : lvL 0 lv = lv_args 0 av) (hlen : (lg_sl av).length ≤ nL)
    (h : ∀ Γ, Cx Γ g cc y nL ret lvl mc ms → V l Γ g nL (QM Γ g post mc ms) 0 0 n PH 0 lv []) : Ct l g y cc nL ret lvl mc ms av n PH post := by
  refine Met.ofW (cc := cc) (maxL := nL) (ret := ret) hy rfl ?_
  intro p e s m args below meth c s₁ B hml hv
  obtain ⟨rfl, hH, hK, hSK, hSR⟩ := hv
  have hts := atoms_spec (ws := .code y cc nL ret :: gws) B.pre
  have hown : s.vm.findClass y.cls = some m.cls := findClass_of_methodNamed B.named
  have hnm : meth.name = y.name := (name_of_methodNamed B.named B.method).1
  have hC : Cx (p, e, (rmL lvl mc ms), s, m, av.toArray, below, meth, c) g cc y nL ret lvl mc ms :=
    ⟨B.exec, B.bytes, hml, hown, fun w hw => hts w (List.mem_cons_of_mem _ hw), hK, by have := hH.1; omega, B.notSynchronized, B.returns, hSK, hSR, fun q => hnm.trans q, Nat.le_refl _, Nat.le_refl _, Nat.le_refl _, Nat.le_refl _⟩
  have h1 := h _ hC
  have hl := lv_entry av (n := nL) hlen
  rw [lg_entry_eq]
  exact h1 _ _ _ hH va_S.rf (by unfold LV; rw [hlv]; exact hl)
