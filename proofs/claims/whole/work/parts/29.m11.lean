def vSee (A B : I1) (i : Nat) : Int32 := B (9 * i + 2)
def vAche (A B : I1) (i : Nat) : Int32 := if B (9 * i + 4) ≤ A (9 * i + 4) then nI 0 else nI 1
/-- whether a row of the list at L is so on day d -/
def okS (L : Nat) (v : Nat → Int32) (A : I1) (d r : Nat) : Bool := decide (¬ A (L + 1 + 3 * r + 1) = nI d) || decide (v (ix (A (L + 1 + 3 * r))) = A (L + 1 + 3 * r + 2))
def alS (L : Nat) (v : Nat → Int32) (A : I1) (d j : Nat) : Bool := itr (fun r b => b && okS L v A d r) j true
theorem alS_t {L : Nat} {v : Nat → Int32} {A : I1} {d j : Nat} (h : alS L v A d j = true) (h2 : okS L v A d j = true) : alS L v A d (j + 1) = true := by
  show (alS L v A d j && okS L v A d j) = true
  rw [h, h2]; rfl
theorem alS_f {L : Nat} {v : Nat → Int32} {A : I1} {d j : Nat} (h : ¬ alS L v A d j = true ∨ ¬ okS L v A d j = true) : ¬ alS L v A d (j + 1) = true := by
  show ¬ (alS L v A d j && okS L v A d j) = true
  rw [Bool.and_eq_true]
  exact fun z => h.elim (fun q => q z.1) (fun q => q z.2)
/-- the days from d on, B as it stands on day d -/
def asF (rules sizes : I1) (m L c : Nat) (v : I1 → I1 → Nat → Int32) (A : I1) : Nat → Nat → I1 → Bool
  | 0, _, _ => true
  | f + 1, d, B => if alS L (v A B) A d c = true then asF rules sizes m L c v A f (d + 1) (dyA rules sizes m B) else false
def upI (A : I1) (p : Nat) (f : I1) (j : Nat) : I1 := itr (fun i B => upd B p (f i)) j A
theorem upI_u {A : I1} {p j : Nat} {f : I1} {x : Int32} : upd (upI A p f j) p x = upd A p x := by
  induction j with
  | zero => rfl
  | succ j ih =>
    show upd (upd (upI A p f j) p (f j)) p x = _
    rw [← ih]
    funext k
    simp only [upd]
    split <;> rfl
theorem upI_b {A : I1} {p j : Nat} {f : I1} : upd (upI A p f j) p (A p) = A := by
  rw [upI_u]
  funext k
  simp only [upd]
  split
  · next h => rw [h]
  · rfl
theorem upI_s {A : I1} {p j : Nat} {f : I1} : upd A p (f j) = upI A p f (j + 1) := upI_u.symm
def vd : Nat → Int32
  | 0 => -1
  | k + 1 => nI k
theorem vd_m1 : ∀ k, nI k + (-1) = vd k
  | 0 => by decide
  | k + 1 => pk_m1 k
def ftS (b : Bool) (x : Int32) (r : Nat × Int32) : Nat × Int32 := if b = true then (r.1 + 1, x) else r
theorem ftS_t {b : Bool} {x : Int32} {r : Nat × Int32} (h : b = true) : ftS b x r = (r.1 + 1, x) := if_pos h
theorem ftS_f {b : Bool} {x : Int32} {r : Nat × Int32} (h : ¬ b = true) : ftS b x r = r := if_neg h
def ftF (is : Int32 → Bool) (H t : Nat) : Nat × Int32 := itr (fun t r => ftS (is (nI (H - t))) (nI (H - t)) r) t (0, -5)
theorem ftF_le {is : Int32 → Bool} {H : Nat} : ∀ t, (ftF is H t).1 ≤ t := by
  intro t
  induction t with
  | zero => exact Nat.le_refl 0
  | succ t ih =>
    show (ftS (is (nI (H - t))) (nI (H - t)) (ftF is H t)).1 ≤ t + 1
    unfold ftS
    split
    · show (ftF is H t).1 + 1 ≤ t + 1; omega
    · omega
def fitsR (x : Int32) (r : Nat × Int32) : Int32 := if x = 0 then r.2 else nI r.1
/-- the rows of the list at L are of wearers -/
def LsI (A : I1) (n L c : Nat) : Prop := A L = nI c ∧ c ≤ 5 ∧ ∀ r, r < c → ∃ i, i < n ∧ A (L + 1 + 3 * r) = nI i
theorem LsI_hi {A B : I1} {n L c : Nat} (h : ∀ k, 81 ≤ k → B k = A k) (hL : 81 ≤ L) (hA : LsI A n L c) : LsI B n L c := by
  refine ⟨(h _ hL).trans hA.1, hA.2.1, fun r hr => ?_⟩
  rw [h _ (by omega)]
  exact hA.2.2 r hr
theorem m_isAllSo82_r {l : Launch} {g : GG} {X : PHp} {now : I1} {th : I1 × Int32} {tx : TXt}  {cv hu : I1} {tr : I1 × Int32} {tp : TPt} {Γ : Cxt} {Q : State → Prop} {q : SC} {n m c d : Nat} (hW : WI now n m) (hR : RuI tx.2.2.2.1 now) (hLs : LsI now n 82 c) (hH : ∀ i, i < 6 → hu i = now (9 * i + 4)) (hd : d ≤ 12) (C : Cx Γ g cX10_isAllSo yX10_isAllSo 8 (some .boolean) 26 0 0) (kx : ∀ (u5 u6 u7 : Option Value), V l Γ g 8 Q 0 0 NN (jn X (hM g (dsA tx.2.2.1 tx.2.2.2.1 m d now) now th tx (zS q cv hu) tr tp)) 167 [some (rf g (22, 0, 0)), some (.int (nI 82)), some (.int (b2i ((alS 82 (vSee now (dsA tx.2.2.1 tx.2.2.2.1 m d now)) now d c) = true))), some (.int (nI d)), some (.int (nI c)), u5, u6, u7] []) : ∀ (f j : Nat) (u5 u6 u7 : Option Value), j + f = c → V l Γ g 8 Q 0 0 NN (jn X (hM g (dsA tx.2.2.1 tx.2.2.2.1 m d now) now th tx (zS q cv hu) tr tp)) 54 [some (rf g (22, 0, 0)), some (.int (nI 82)), some (.int (b2i ((alS 82 (vSee now (dsA tx.2.2.1 tx.2.2.2.1 m d now)) now d j) = true))), some (.int (nI d)), some (.int (nI j)), u5, u6, u7] [] := by
  have h6 := hW.2.1
  have h55 := hLs.2.1
  have eB : ∀ k, 81 ≤ k → (dsA tx.2.2.1 tx.2.2.2.1 m d now) k = now k := fun k hk => dsA_hi hW d k (by omega) (by omega)
  intro f
  induction f with
  | zero =>
    intro j u5 u6 u7 hj
    obtain rfl : j = c := by omega
    refine V.iload (q := 56) C dX10_isAllSo_54 rfl rfl ?_
    refine V.aload_n (q := 57) C dX10_isAllSo_56 rfl rfl ?_
    refine V.get (q := 60) C fl_X10_9 dX10_isAllSo_57 rfl okM rfl rfl ?_
    refine V.iload_n (q := 61) C dX10_isAllSo_60 rfl rfl ?_
    refine V.ild (q := 62) (i := 82) C dX10_isAllSo_61 rfl okM_0 rfl rfl (by omega) (by decide) ?_
    refine V.topi (x1 := nI (j)) ((eB _ (by omega)).trans hLs.1) ?_
    refine V.icmp_ge (q := 65) (tgt := 167) C dX10_isAllSo_62 rfl rfl (fun hb62 => ?_) (fun hb62 => ?_)
    · exact kx u5 u6 u7
    · exact absurd ((nI_leI (by omega) (by omega)).mpr (by omega)) hb62
  | succ f ih =>
    intro j u5 u6 u7 hj
    obtain ⟨i, hi, ei⟩ := hLs.2.2 j (by omega)
    have ii := ix_nI (i := i) (by omega)
    refine V.iload (q := 56) C dX10_isAllSo_54 rfl rfl ?_
    refine V.aload_n (q := 57) C dX10_isAllSo_56 rfl rfl ?_
    refine V.get (q := 60) C fl_X10_9 dX10_isAllSo_57 rfl okM rfl rfl ?_
    refine V.iload_n (q := 61) C dX10_isAllSo_60 rfl rfl ?_
    refine V.ild (q := 62) (i := 82) C dX10_isAllSo_61 rfl okM_0 rfl rfl (by omega) (by decide) ?_
    refine V.topi (x1 := nI (c)) ((eB _ (by omega)).trans hLs.1) ?_
    refine V.icmp_ge (q := 65) (tgt := 167) C dX10_isAllSo_62 rfl rfl (fun hb62 => ?_) (fun hb62 => ?_)
    · exact absurd ((nI_leI (by omega) (by omega)).mp hb62) (by omega)
    · refine V.iload_n (q := 66) C dX10_isAllSo_65 rfl rfl ?_
      refine V.iconst (q := 67) (v := nI 1) C dX10_isAllSo_66 rfl (by decide) ?_
      refine V.iadd (q := 68) C dX10_isAllSo_67 rfl ?_
      refine V.topi (x1 := nI (82 + 1)) (nI_add _ _) ?_
      refine V.iconst (q := 69) (v := nI 3) C dX10_isAllSo_68 rfl (by decide) ?_
      refine V.iload (q := 71) C dX10_isAllSo_69 rfl rfl ?_
      refine V.imul (q := 72) C dX10_isAllSo_71 rfl ?_
      refine V.topi (x1 := nI (3 * j)) (pk_mul _ _) ?_
      refine V.iadd (q := 73) C dX10_isAllSo_72 rfl ?_
      refine V.topi (x1 := nI ((82 + 1) + (3 * j))) (nI_add _ _) ?_
      refine V.istore (q := 75) C dX10_isAllSo_73 rfl (by decide) rfl rfl ?_
      refine V.aload_n (q := 76) C dX10_isAllSo_75 rfl rfl ?_
      refine V.get (q := 79) C fl_X10_9 dX10_isAllSo_76 rfl okM rfl rfl ?_
      refine V.iload (q := 81) C dX10_isAllSo_79 rfl rfl ?_
      refine V.ild (q := 82) (i := ((82 + 1) + (3 * j))) C dX10_isAllSo_81 rfl okM_0 rfl rfl (by omega) (by decide) ?_
      refine V.topi (x1 := nI (i)) ((eB _ (by omega)).trans ei) ?_
      refine V.istore (q := 84) C dX10_isAllSo_82 rfl (by decide) rfl rfl ?_
      refine V.iload_n (q := 85) C dX10_isAllSo_84 rfl rfl ?_
      refine V.bipush (q := 87) (v := nI 82) C dX10_isAllSo_85 rfl (by decide) ?_
      refine V.icmp_ne (q := 90) (tgt := 100) C dX10_isAllSo_87 rfl rfl (fun hb87 => ?_) (fun hb87 => ?_)
      · exact absurd rfl hb87
      · refine V.aload_n (q := 91) C dX10_isAllSo_90 rfl rfl ?_
        refine V.iload (q := 93) C dX10_isAllSo_91 rfl rfl ?_
        refine V.iconst (q := 94) (v := nI 2) C dX10_isAllSo_93 rfl (by decide) ?_
        refine V.callVi (q := 97) C me_X10_one (m_one (by omega)) ml_X10_86 dX10_isAllSo_94 rfl okM ⟨_, rfl⟩ rfl rfl (Nat.le_of_ble_eq_true rfl) (by omega) (Nat.zero_le _) (Nat.zero_le _) ?_
        refine V.goto (tgt := 122) C dX10_isAllSo_97 rfl ?_
        refine V.istore (q := 124) C dX10_isAllSo_122 rfl (by decide) rfl rfl ?_
        refine V.iload_n (q := 125) C dX10_isAllSo_124 rfl rfl ?_
        refine V.if_eqB (q := 128) (tgt := 159) C dX10_isAllSo_125 rfl rfl (fun hb125 => ?_) (fun hb125 => ?_)
        · refine V.iconst (q := 160) (v := nI 0) C dX10_isAllSo_159 rfl (by decide) ?_
          refine V.istore_n (q := 161) C dX10_isAllSo_160 rfl (by decide) rfl rfl ?_
          refine V.iinc (q := 164) (v := nI (j + 1)) C dX10_isAllSo_161 rfl rfl (nI_1 _) (by decide) rfl rfl ?_
          refine V.goto (tgt := 54) C dX10_isAllSo_164 rfl ?_
          have e9 : b2i ((alS 82 (vSee now (dsA tx.2.2.1 tx.2.2.2.1 m d now)) now d (j + 1)) = true) = nI 0 := b2i_f (alS_f (Or.inl hb125))
          have h9 := fun u v x => ih (j + 1) u v x (by omega)
          rw [e9] at h9
          exact h9 _ _ _
        · refine V.aload_n (q := 129) C dX10_isAllSo_128 rfl rfl ?_
          refine V.get (q := 132) C fl_X10_9 dX10_isAllSo_129 rfl okM rfl rfl ?_
          refine V.iload (q := 134) C dX10_isAllSo_132 rfl rfl ?_
          refine V.iconst (q := 135) (v := nI 1) C dX10_isAllSo_134 rfl (by decide) ?_
          refine V.iadd (q := 136) C dX10_isAllSo_135 rfl ?_
          refine V.topi (x1 := nI (((82 + 1) + (3 * j)) + 1)) (nI_add _ _) ?_
          refine V.ild (q := 137) (i := (((82 + 1) + (3 * j)) + 1)) C dX10_isAllSo_136 rfl okM_0 rfl rfl (by omega) (by decide) ?_
          refine V.topi (x1 := now (82 + 1 + 3 * j + 1)) (eB _ (by omega)) ?_
          refine V.iload_n (q := 138) C dX10_isAllSo_137 rfl rfl ?_
          refine V.icmp_ne (q := 141) (tgt := 155) C dX10_isAllSo_138 rfl rfl (fun hb138 => ?_) (fun hb138 => ?_)
          · have hk : okS 82 (vSee now (dsA tx.2.2.1 tx.2.2.2.1 m d now)) now d j = true := by
              simp only [okS, Bool.or_eq_true, decide_eq_true_eq]
              exact Or.inl hb138
            refine V.iconst (q := 156) (v := nI 1) C dX10_isAllSo_155 rfl (by decide) ?_
            refine V.goto (tgt := 160) C dX10_isAllSo_156 rfl ?_
            refine V.istore_n (q := 161) C dX10_isAllSo_160 rfl (by decide) rfl rfl ?_
            refine V.iinc (q := 164) (v := nI (j + 1)) C dX10_isAllSo_161 rfl rfl (nI_1 _) (by decide) rfl rfl ?_
            refine V.goto (tgt := 54) C dX10_isAllSo_164 rfl ?_
            have e9 : b2i ((alS 82 (vSee now (dsA tx.2.2.1 tx.2.2.2.1 m d now)) now d (j + 1)) = true) = nI 1 := b2i_t (alS_t hb125 hk)
            have h9 := fun u v x => ih (j + 1) u v x (by omega)
            rw [e9] at h9
            exact h9 _ _ _
          · refine V.iload (q := 143) C dX10_isAllSo_141 rfl rfl ?_
            refine V.aload_n (q := 144) C dX10_isAllSo_143 rfl rfl ?_
            refine V.get (q := 147) C fl_X10_9 dX10_isAllSo_144 rfl okM rfl rfl ?_
            refine V.iload (q := 149) C dX10_isAllSo_147 rfl rfl ?_
            refine V.iconst (q := 150) (v := nI 2) C dX10_isAllSo_149 rfl (by decide) ?_
            refine V.iadd (q := 151) C dX10_isAllSo_150 rfl ?_
            refine V.topi (x1 := nI (((82 + 1) + (3 * j)) + 2)) (nI_add _ _) ?_
            refine V.ild (q := 152) (i := (((82 + 1) + (3 * j)) + 2)) C dX10_isAllSo_151 rfl okM_0 rfl rfl (by omega) (by decide) ?_
            refine V.topi (x1 := now (82 + 1 + 3 * j + 2)) (eB _ (by omega)) ?_
            refine V.icmp_ne (q := 155) (tgt := 159) C dX10_isAllSo_152 rfl rfl (fun hb152 => ?_) (fun hb152 => ?_)
            · have hk : ¬ okS 82 (vSee now (dsA tx.2.2.1 tx.2.2.2.1 m d now)) now d j = true := by
                simp only [okS, ei, ii, Bool.or_eq_true, decide_eq_true_eq]
                rintro (z | z)
                · exact z hb138
                · exact hb152 z
              refine V.iconst (q := 160) (v := nI 0) C dX10_isAllSo_159 rfl (by decide) ?_
              refine V.istore_n (q := 161) C dX10_isAllSo_160 rfl (by decide) rfl rfl ?_
              refine V.iinc (q := 164) (v := nI (j + 1)) C dX10_isAllSo_161 rfl rfl (nI_1 _) (by decide) rfl rfl ?_
              refine V.goto (tgt := 54) C dX10_isAllSo_164 rfl ?_
              have e9 : b2i ((alS 82 (vSee now (dsA tx.2.2.1 tx.2.2.2.1 m d now)) now d (j + 1)) = true) = nI 0 := b2i_f (alS_f (Or.inr hk))
              have h9 := fun u v x => ih (j + 1) u v x (by omega)
              rw [e9] at h9
              exact h9 _ _ _
            · have hk : okS 82 (vSee now (dsA tx.2.2.1 tx.2.2.2.1 m d now)) now d j = true := by
                simp only [okS, ei, ii, Bool.or_eq_true, decide_eq_true_eq]
                exact Or.inr hb152
              refine V.iconst (q := 156) (v := nI 1) C dX10_isAllSo_155 rfl (by decide) ?_
              refine V.goto (tgt := 160) C dX10_isAllSo_156 rfl ?_
              refine V.istore_n (q := 161) C dX10_isAllSo_160 rfl (by decide) rfl rfl ?_
              refine V.iinc (q := 164) (v := nI (j + 1)) C dX10_isAllSo_161 rfl rfl (nI_1 _) (by decide) rfl rfl ?_
              refine V.goto (tgt := 54) C dX10_isAllSo_164 rfl ?_
              have e9 : b2i ((alS 82 (vSee now (dsA tx.2.2.1 tx.2.2.2.1 m d now)) now d (j + 1)) = true) = nI 1 := b2i_t (alS_t hb125 hk)
              have h9 := fun u v x => ih (j + 1) u v x (by omega)
              rw [e9] at h9
              exact h9 _ _ _
theorem m_isAllSo82_d {l : Launch} {g : GG} {X : PHp} {now : I1} {th : I1 × Int32} {tx : TXt}  {cv hu : I1} {tr : I1 × Int32} {tp : TPt} {Γ : Cxt} {n m c : Nat} (hW : WI now n m) (hR : RuI tx.2.2.2.1 now) (hLs : LsI now n 82 c) (hH : ∀ i, i < 6 → hu i = now (9 * i + 4)) (C : Cx Γ g cX10_isAllSo yX10_isAllSo 8 (some .boolean) 26 0 0) : ∀ (f d : Nat) (q : SC) (u4 u5 u6 u7 : Option Value), d + f = 13 → V l Γ g 8 (QM Γ g (xI (fun _ : SD => True) (fun _ => b2i (asF tx.2.2.1 tx.2.2.2.1 m 82 c vSee now f d (dsA tx.2.2.1 tx.2.2.2.1 m d now) = true)) (fun q1 => (jn X (hM g now q1.2.1 th tx (zS q1.1 q1.2.2.1 q1.2.2.2) tr tp)))) 0 0) 0 0 NN (jn X (hM g (dsA tx.2.2.1 tx.2.2.2.1 m d now) now th tx (zS q cv hu) tr tp)) 41 [some (rf g (22, 0, 0)), some (.int (nI 82)), some (.int (nI 1)), some (.int (nI d)), u4, u5, u6, u7] [] := by
  have h6 := hW.2.1
  have h55 := hLs.2.1
  intro f
  induction f with
  | zero =>
    intro d q u4 u5 u6 u7 hd
    have ed : d = 13 := by omega
    subst ed
    refine V.iload_n (q := 42) C dX10_isAllSo_41 rfl rfl ?_
    refine V.bipush (q := 44) (v := nI 12) C dX10_isAllSo_42 rfl (by decide) ?_
    refine V.icmp_gt (q := 47) (tgt := 177) C dX10_isAllSo_44 rfl rfl (fun hb44 => ?_) (fun hb44 => ?_)
    · refine V.aload_n (q := 178) C dX10_isAllSo_177 rfl rfl ?_
      refine V.get (q := 181) C fl_X10_15 dX10_isAllSo_178 rfl okM rfl rfl ?_
      refine V.aload_n (q := 182) C dX10_isAllSo_181 rfl rfl ?_
      refine V.get (q := 185) C fl_X10_9 dX10_isAllSo_182 rfl okM rfl rfl ?_
      refine V.callSv (q := 188) C me_X10_move m_move_back ml_X10_78 dX10_isAllSo_185 rfl rfl rfl (Nat.le_of_ble_eq_true rfl) (by omega) (Nat.zero_le _) (Nat.zero_le _) ?_
      refine V.iload_n (q := 189) C dX10_isAllSo_188 rfl rfl ?_
      exact V.zreturn C dX10_isAllSo_189 rfl ⟨(q, now, cv, hu), trivial, rfl, rfl, rfl⟩
    · exact absurd (show nI 12 < nI 13 by decide) hb44
  | succ f ih =>
    intro d q u4 u5 u6 u7 hd
    have hB : WI (dsA tx.2.2.1 tx.2.2.2.1 m d now) n m := dsA_W hW
    have hR2 : RuI tx.2.2.2.1 (dsA tx.2.2.1 tx.2.2.2.1 m d now) := RuI_hi (dsA_hi hW d 81 (by omega) (by omega)) hR
    refine V.iload_n (q := 42) C dX10_isAllSo_41 rfl rfl ?_
    refine V.bipush (q := 44) (v := nI 12) C dX10_isAllSo_42 rfl (by decide) ?_
    refine V.icmp_gt (q := 47) (tgt := 177) C dX10_isAllSo_44 rfl rfl (fun hb44 => ?_) (fun hb44 => ?_)
    · exact absurd hb44 (nI_nlt (by omega) (by omega))
    · refine V.iload_n (q := 48) C dX10_isAllSo_47 rfl rfl ?_
      refine V.if_eq (q := 51) (tgt := 177) C dX10_isAllSo_48 rfl rfl (fun hb48 => ?_) (fun hb48 => ?_)
      · exact absurd hb48 (by decide)
      · refine V.iconst (q := 52) (v := nI 0) C dX10_isAllSo_51 rfl (by decide) ?_
        refine V.istore (q := 54) C dX10_isAllSo_52 rfl (by decide) rfl rfl ?_
        refine m_isAllSo82_r (d := d) hW hR hLs hH (by omega) C ?_ c 0 _ _ _ (by omega)
        intro v5 v6 v7
        refine V.aload_n (q := 168) C dX10_isAllSo_167 rfl rfl ?_
        refine V.callVxv (q := 171) C me_X10_day (m_day hB hR2) ml_X10_199 dX10_isAllSo_168 rfl okM ⟨_, rfl⟩ rfl rfl (Nat.le_of_ble_eq_true rfl) (by omega) (Nat.zero_le _) (Nat.zero_le _) (fun q1 _ => ?_)
        refine V.iinc (q := 174) (v := nI (d + 1)) C dX10_isAllSo_171 rfl rfl (nI_1 _) (by decide) rfl rfl ?_
        refine V.goto (tgt := 41) C dX10_isAllSo_174 rfl ?_
        by_cases ha : (alS 82 (vSee now (dsA tx.2.2.1 tx.2.2.2.1 m d now)) now d c) = true
        · rw [b2i_t ha]
          have e9 : asF tx.2.2.1 tx.2.2.2.1 m 82 c vSee now (f + 1) d (dsA tx.2.2.1 tx.2.2.2.1 m d now) = asF tx.2.2.1 tx.2.2.2.1 m 82 c vSee now f (d + 1) (dsA tx.2.2.1 tx.2.2.2.1 m (d + 1) now) := if_pos ha
          rw [e9]
          exact ih (d + 1) q1 _ _ _ _ (by omega)
        · rw [b2i_f ha]
          have e9 : asF tx.2.2.1 tx.2.2.2.1 m 82 c vSee now (f + 1) d (dsA tx.2.2.1 tx.2.2.2.1 m d now) = false := if_neg ha
          refine V.iload_n (q := 42) C dX10_isAllSo_41 rfl rfl ?_
          refine V.bipush (q := 44) (v := nI 12) C dX10_isAllSo_42 rfl (by decide) ?_
          refine V.icmp_gt (q := 47) (tgt := 177) C dX10_isAllSo_44 rfl rfl (fun hb44 => ?_) (fun hb44 => ?_)
          · refine V.aload_n (q := 178) C dX10_isAllSo_177 rfl rfl ?_
            refine V.get (q := 181) C fl_X10_15 dX10_isAllSo_178 rfl okM rfl rfl ?_
            refine V.aload_n (q := 182) C dX10_isAllSo_181 rfl rfl ?_
            refine V.get (q := 185) C fl_X10_9 dX10_isAllSo_182 rfl okM rfl rfl ?_
            refine V.callSv (q := 188) C me_X10_move m_move_back ml_X10_78 dX10_isAllSo_185 rfl rfl rfl (Nat.le_of_ble_eq_true rfl) (by omega) (Nat.zero_le _) (Nat.zero_le _) ?_
            refine V.iload_n (q := 189) C dX10_isAllSo_188 rfl rfl ?_
            exact V.zreturn C dX10_isAllSo_189 rfl ⟨(q1, now, cv, hu), trivial, by rw [e9]; rfl, rfl, rfl⟩
          · refine V.iload_n (q := 48) C dX10_isAllSo_47 rfl rfl ?_
            refine V.if_eq (q := 51) (tgt := 177) C dX10_isAllSo_48 rfl rfl (fun hb48 => ?_) (fun hb48 => ?_)
            · refine V.aload_n (q := 178) C dX10_isAllSo_177 rfl rfl ?_
              refine V.get (q := 181) C fl_X10_15 dX10_isAllSo_178 rfl okM rfl rfl ?_
              refine V.aload_n (q := 182) C dX10_isAllSo_181 rfl rfl ?_
              refine V.get (q := 185) C fl_X10_9 dX10_isAllSo_182 rfl okM rfl rfl ?_
              refine V.callSv (q := 188) C me_X10_move m_move_back ml_X10_78 dX10_isAllSo_185 rfl rfl rfl (Nat.le_of_ble_eq_true rfl) (by omega) (Nat.zero_le _) (Nat.zero_le _) ?_
              refine V.iload_n (q := 189) C dX10_isAllSo_188 rfl rfl ?_
              exact V.zreturn C dX10_isAllSo_189 rfl ⟨(q1, now, cv, hu), trivial, by rw [e9]; rfl, rfl, rfl⟩
            · exact absurd rfl hb48
theorem m_isAllSo82_h {l : Launch} {g : GG} {X : PHp} {now : I1} {th : I1 × Int32} {tx : TXt}  {tr : I1 × Int32} {tp : TPt} {q : SD} {Γ : Cxt} {Q : State → Prop}  (C : Cx Γ g cX10_isAllSo yX10_isAllSo 8 (some .boolean) 26 0 0) (kx : V l Γ g 8 Q 0 0 NN (jn X (hM g now now th tx (zS q.1 q.2.2.1 (mix 6 (fun i => now (9 * i + 4)) q.2.2.2)) tr tp)) 37 [some (rf g (22, 0, 0)), some (.int (nI 82)), some (.int (nI 6)), none, none, none, none, none] []) : ∀ k j : Nat, j + k = 6 → V l Γ g 8 Q 0 0 NN (jn X (hM g now now th tx (zS q.1 q.2.2.1 (mix j (fun i => now (9 * i + 4)) q.2.2.2)) tr tp)) 13 [some (rf g (22, 0, 0)), some (.int (nI 82)), some (.int (nI j)), none, none, none, none, none] [] := by
  intro k
  induction k with
  | zero =>
    intro j hj
    have ej : j = 6 := by omega
    subst ej
    refine V.iload_n (q := 14) C dX10_isAllSo_13 rfl rfl ?_
    refine V.bipush (q := 16) (v := nI 6) C dX10_isAllSo_14 rfl (by decide) ?_
    refine V.icmp_ge (q := 19) (tgt := 37) C dX10_isAllSo_16 rfl rfl (fun hb16 => ?_) (fun hb16 => ?_)
    · exact kx
    · exact absurd ((nI_leI (by omega) (by omega)).mpr (by omega)) hb16
  | succ k ih =>
    intro j hj
    refine V.iload_n (q := 14) C dX10_isAllSo_13 rfl rfl ?_
    refine V.bipush (q := 16) (v := nI 6) C dX10_isAllSo_14 rfl (by decide) ?_
    refine V.icmp_ge (q := 19) (tgt := 37) C dX10_isAllSo_16 rfl rfl (fun hb16 => ?_) (fun hb16 => ?_)
    · exact absurd ((nI_leI (by omega) (by omega)).mp hb16) (by omega)
    · refine V.aload_n (q := 20) C dX10_isAllSo_19 rfl rfl ?_
      refine V.get (q := 23) C fl_X10_49 dX10_isAllSo_20 rfl okM rfl rfl ?_
      refine V.iload_n (q := 24) C dX10_isAllSo_23 rfl rfl ?_
      refine V.aload_n (q := 25) C dX10_isAllSo_24 rfl rfl ?_
      refine V.iload_n (q := 26) C dX10_isAllSo_25 rfl rfl ?_
      refine V.iconst (q := 27) (v := nI 4) C dX10_isAllSo_26 rfl (by decide) ?_
      refine V.callVi (q := 30) C me_X10_one (m_one (by omega)) ml_X10_86 dX10_isAllSo_27 rfl okM ⟨_, rfl⟩ rfl rfl (Nat.le_of_ble_eq_true rfl) (by omega) (Nat.zero_le _) (Nat.zero_le _) ?_
      refine V.ist (q := 31) (i := j) C dX10_isAllSo_30 rfl okM_21 rfl rfl (by omega) (by decide) uM_hurts ?_
      refine V.ph (PH1 := (jn X (hM g now now th tx (zS q.1 q.2.2.1 (mix (j + 1) (fun i => now (9 * i + 4)) q.2.2.2)) tr tp))) (by rw [← mix_s]; rfl) ?_
      refine V.iinc (q := 34) (v := nI (j + 1)) C dX10_isAllSo_31 rfl rfl (nI_1 _) (by decide) rfl rfl ?_
      refine V.goto (tgt := 13) C dX10_isAllSo_34 rfl ?_
      exact ih (j + 1) (by omega)
theorem m_isAllSo82 {l : Launch} {g : GG} {X : PHp} {now : I1} {th : I1 × Int32} {tx : TXt}  {tr : I1 × Int32} {tp : TPt} {q : SD} {n m c : Nat} (hW : WI now n m) (hR : RuI tx.2.2.2.1 now) (hLs : LsI now n 82 c) : Ct l g yX10_isAllSo cX10_isAllSo 8 (some .boolean) 26 0 0 [rf g (22, 0, 0), .int (nI 82)] NN (jn X (hM g now q.2.1 th tx (zS q.1 q.2.2.1 q.2.2.2) tr tp)) (xI (fun _ : SD => True) (fun _ => b2i (asF tx.2.2.1 tx.2.2.2.1 m 82 c vSee now 13 0 now = true)) (fun q1 => (jn X (hM g now q1.2.1 th tx (zS q1.1 q1.2.2.1 q1.2.2.2) tr tp)))) := by
  refine Ct.of (lv := [some (rf g (22, 0, 0)), some (.int (nI 82)), none, none, none, none, none, none]) (by decide +kernel) rfl (Nat.le_of_ble_eq_true rfl) ?_
  intro Γ C
  refine V.aload_n (q := 1) C dX10_isAllSo_0 rfl rfl ?_
  refine V.get (q := 4) C fl_X10_9 dX10_isAllSo_1 rfl okM rfl rfl ?_
  refine V.aload_n (q := 5) C dX10_isAllSo_4 rfl rfl ?_
  refine V.get (q := 8) C fl_X10_15 dX10_isAllSo_5 rfl okM rfl rfl ?_
  refine V.callSv (q := 11) C me_X10_move m_move_mind ml_X10_78 dX10_isAllSo_8 rfl rfl rfl (Nat.le_of_ble_eq_true rfl) (by omega) (Nat.zero_le _) (Nat.zero_le _) ?_
  refine V.iconst (q := 12) (v := nI 0) C dX10_isAllSo_11 rfl (by decide) ?_
  refine V.istore_n (q := 13) C dX10_isAllSo_12 rfl (by decide) rfl rfl ?_
  refine V.ph (PH1 := (jn X (hM g now now th tx (zS q.1 q.2.2.1 (mix 0 (fun i => now (9 * i + 4)) q.2.2.2)) tr tp))) (by rw [mix_0]) ?_
  refine m_isAllSo82_h C ?_ 6 0 rfl
  refine V.iconst (q := 38) (v := nI 1) C dX10_isAllSo_37 rfl (by decide) ?_
  refine V.istore_n (q := 39) C dX10_isAllSo_38 rfl (by decide) rfl rfl ?_
  refine V.iconst (q := 40) (v := nI 0) C dX10_isAllSo_39 rfl (by decide) ?_
  refine V.istore_n (q := 41) C dX10_isAllSo_40 rfl (by decide) rfl rfl ?_
  exact m_isAllSo82_d hW hR hLs (fun i hi => if_pos hi) C 13 0 q.1 _ _ _ _ rfl
theorem m_fits82_l {l : Launch} {g : GG} {X : PHp} {now : I1} {th : I1 × Int32} {tx : TXt}  {tr : I1 × Int32} {tp : TPt}  {Γ : Cxt} {Q : State → Prop} {n m c i : Nat} {x : Int32} (hi : i < 6) (hW : WI now n m) (hR : RuI tx.2.2.2.1 now) (hLs : LsI now n 82 c) (C : Cx Γ g cX10_fits yX10_fits 11 (some .int) 27 0 0) (kx : ∀ (q : SD) (u : Option Value), V l Γ g 11 Q 0 0 NN (jn X (hM g (upI now (9 * i + 2) (fun t => nI (99 - t)) 100) q.2.1 th tx (zS q.1 q.2.2.1 q.2.2.2) tr tp)) 75 [some (rf g (22, 0, 0)), some (.int (nI i)), some (.int (nI 2)), some (.int (nI 99)), some (.int (nI 82)), some (.int x), some (.int (now (9 * i + 2))), some (.int (nI (ftF (fun x => asF tx.2.2.1 tx.2.2.2.1 m 82 c vSee (upd now (9 * i + 2) x) 13 0 (upd now (9 * i + 2) x)) 99 100).1)), some (.int (ftF (fun x => asF tx.2.2.1 tx.2.2.2.1 m 82 c vSee (upd now (9 * i + 2) x) 13 0 (upd now (9 * i + 2) x)) 99 100).2), some (.int (vd 0)), u] []) : ∀ (k t : Nat) (q : SD) (u : Option Value), k + t = 100 → V l Γ g 11 Q 0 0 NN (jn X (hM g (upI now (9 * i + 2) (fun t => nI (99 - t)) t) q.2.1 th tx (zS q.1 q.2.2.1 q.2.2.2) tr tp)) 18 [some (rf g (22, 0, 0)), some (.int (nI i)), some (.int (nI 2)), some (.int (nI 99)), some (.int (nI 82)), some (.int x), some (.int (now (9 * i + 2))), some (.int (nI (ftF (fun x => asF tx.2.2.1 tx.2.2.2.1 m 82 c vSee (upd now (9 * i + 2) x) 13 0 (upd now (9 * i + 2) x)) 99 t).1)), some (.int (ftF (fun x => asF tx.2.2.1 tx.2.2.2.1 m 82 c vSee (upd now (9 * i + 2) x) 13 0 (upd now (9 * i + 2) x)) 99 t).2), some (.int (vd k)), u] [] := by
  intro k
  induction k with
  | zero =>
    intro t q u ht
    have et : t = 100 := by omega
    subst et
    refine V.iload (q := 20) C dX10_fits_18 rfl rfl ?_
    refine V.if_lt (q := 23) (tgt := 75) C dX10_fits_20 rfl rfl (fun hb20 => ?_) (fun hb20 => ?_)
    · exact kx q u
    · exact absurd (show vd 0 < 0 by decide) hb20
  | succ k ih =>
    intro t q u ht
    have ek : 99 - t = k := by omega
    have hhi : ∀ j, 54 ≤ j → (upd now (9 * i + 2) (nI k)) j = now j := fun j hj => if_neg (by omega)
    have hB : WI (upd now (9 * i + 2) (nI k)) n m := WI_hi (fun j hj _ => hhi j hj) hW
    have hR2 : RuI tx.2.2.2.1 (upd now (9 * i + 2) (nI k)) := RuI_hi (hhi 81 (by omega)) hR
    have hL2 : LsI (upd now (9 * i + 2) (nI k)) n 82 c := LsI_hi (fun j hj => hhi j (by omega)) (by omega) hLs
    refine V.iload (q := 20) C dX10_fits_18 rfl rfl ?_
    refine V.if_lt (q := 23) (tgt := 75) C dX10_fits_20 rfl rfl (fun hb20 => ?_) (fun hb20 => ?_)
    · exact absurd hb20 (nI_pos (by omega))
    · refine V.aload_n (q := 24) C dX10_fits_23 rfl rfl ?_
      refine V.iload_n (q := 25) C dX10_fits_24 rfl rfl ?_
      refine V.iload_n (q := 26) C dX10_fits_25 rfl rfl ?_
      refine V.iload (q := 28) C dX10_fits_26 rfl rfl ?_
      refine V.callVi (q := 31) C me_X10_change (m_change (by omega)) ml_X10_93 dX10_fits_28 rfl okM ⟨_, rfl⟩ rfl rfl (Nat.le_of_ble_eq_true rfl) (by omega) (Nat.zero_le _) (Nat.zero_le _) ?_
      refine V.ph (PH1 := (jn X (hM g (upd now (9 * i + 2) (nI k)) q.2.1 th tx (zS q.1 q.2.2.1 q.2.2.2) tr tp))) (by rw [← upI_u (A := now) (j := t) (f := fun t => nI (99 - t))]; rfl) ?_
      refine V.pop (q := 32) C dX10_fits_31 rfl rfl ?_
      refine V.aload_n (q := 33) C dX10_fits_32 rfl rfl ?_
      refine V.iload (q := 35) C dX10_fits_33 rfl rfl ?_
      refine V.callVxi (q := 38) C me_X10_isAllSo (m_isAllSo82 hB hR2 hL2) ml_X10_233 dX10_fits_35 rfl okM ⟨_, rfl⟩ rfl rfl (Nat.le_of_ble_eq_true rfl) (by omega) (Nat.zero_le _) (Nat.zero_le _) (fun q1 _ => ?_)
      refine V.istore (q := 40) C dX10_fits_38 rfl (by decide) rfl rfl ?_
      refine V.iload (q := 42) C dX10_fits_40 rfl rfl ?_
      refine V.iload (q := 44) C dX10_fits_42 rfl rfl ?_
      refine V.if_eqB (q := 47) (tgt := 51) C dX10_fits_44 rfl rfl (fun hb44 => ?_) (fun hb44 => ?_)
      · refine V.iconst (q := 52) (v := nI 0) C dX10_fits_51 rfl (by decide) ?_
        refine V.iadd (q := 53) C dX10_fits_52 rfl ?_
        refine V.topi (x1 := nI ((ftF (fun x => asF tx.2.2.1 tx.2.2.2.1 m 82 c vSee (upd now (9 * i + 2) x) 13 0 (upd now (9 * i + 2) x)) 99 t).1 + 0)) (nI_add _ _) ?_
        refine V.istore (q := 55) C dX10_fits_53 rfl (by decide) rfl rfl ?_
        refine V.iload (q := 57) C dX10_fits_55 rfl rfl ?_
        refine V.if_eqB (q := 60) (tgt := 65) C dX10_fits_57 rfl rfl (fun hb57 => ?_) (fun hb57 => ?_)
        · refine V.iload (q := 67) C dX10_fits_65 rfl rfl ?_
          refine V.istore (q := 69) C dX10_fits_67 rfl (by decide) rfl rfl ?_
          refine V.iinc (q := 72) C dX10_fits_69 rfl rfl rfl (by decide) rfl rfl ?_
          refine V.goto (tgt := 18) C dX10_fits_72 rfl ?_
          have e9 : (ftF (fun x => asF tx.2.2.1 tx.2.2.2.1 m 82 c vSee (upd now (9 * i + 2) x) 13 0 (upd now (9 * i + 2) x)) 99 (t + 1)) = (ftF (fun x => asF tx.2.2.1 tx.2.2.2.1 m 82 c vSee (upd now (9 * i + 2) x) 13 0 (upd now (9 * i + 2) x)) 99 t) := by
            show ftS ((fun x => asF tx.2.2.1 tx.2.2.2.1 m 82 c vSee (upd now (9 * i + 2) x) 13 0 (upd now (9 * i + 2) x)) (nI (99 - t))) (nI (99 - t)) (ftF (fun x => asF tx.2.2.1 tx.2.2.2.1 m 82 c vSee (upd now (9 * i + 2) x) 13 0 (upd now (9 * i + 2) x)) 99 t) = _
            rw [ek]
            exact ftS_f hb44
          have h9 := fun u => ih (t + 1) q1 u (by omega)
          rw [e9, ← vd_m1] at h9
          refine V.ph (PH1 := (jn X (hM g (upI now (9 * i + 2) (fun t => nI (99 - t)) (t + 1)) q1.2.1 th tx (zS q1.1 q1.2.2.1 q1.2.2.2) tr tp))) (by rw [← upI_s]; show _ = (jn X (hM g (upd now (9 * i + 2) (nI (99 - t))) q1.2.1 th tx (zS q1.1 q1.2.2.1 q1.2.2.2) tr tp)); rw [ek]) ?_
          exact h9 _
        · exact absurd hb57 hb44
      · refine V.iconst (q := 48) (v := nI 1) C dX10_fits_47 rfl (by decide) ?_
        refine V.goto (tgt := 52) C dX10_fits_48 rfl ?_
        refine V.iadd (q := 53) C dX10_fits_52 rfl ?_
        refine V.topi (x1 := nI ((ftF (fun x => asF tx.2.2.1 tx.2.2.2.1 m 82 c vSee (upd now (9 * i + 2) x) 13 0 (upd now (9 * i + 2) x)) 99 t).1 + 1)) (nI_add _ _) ?_
        refine V.istore (q := 55) C dX10_fits_53 rfl (by decide) rfl rfl ?_
        refine V.iload (q := 57) C dX10_fits_55 rfl rfl ?_
        refine V.if_eqB (q := 60) (tgt := 65) C dX10_fits_57 rfl rfl (fun hb57 => ?_) (fun hb57 => ?_)
        · exact absurd hb44 hb57
        · refine V.iload (q := 62) C dX10_fits_60 rfl rfl ?_
          refine V.goto (tgt := 67) C dX10_fits_62 rfl ?_
          refine V.istore (q := 69) C dX10_fits_67 rfl (by decide) rfl rfl ?_
          refine V.iinc (q := 72) C dX10_fits_69 rfl rfl rfl (by decide) rfl rfl ?_
          refine V.goto (tgt := 18) C dX10_fits_72 rfl ?_
          have e9 : (ftF (fun x => asF tx.2.2.1 tx.2.2.2.1 m 82 c vSee (upd now (9 * i + 2) x) 13 0 (upd now (9 * i + 2) x)) 99 (t + 1)) = ((ftF (fun x => asF tx.2.2.1 tx.2.2.2.1 m 82 c vSee (upd now (9 * i + 2) x) 13 0 (upd now (9 * i + 2) x)) 99 t).1 + 1, nI k) := by
            show ftS ((fun x => asF tx.2.2.1 tx.2.2.2.1 m 82 c vSee (upd now (9 * i + 2) x) 13 0 (upd now (9 * i + 2) x)) (nI (99 - t))) (nI (99 - t)) (ftF (fun x => asF tx.2.2.1 tx.2.2.2.1 m 82 c vSee (upd now (9 * i + 2) x) 13 0 (upd now (9 * i + 2) x)) 99 t) = _
            rw [ek]
            exact ftS_t hb44
          have h9 := fun u => ih (t + 1) q1 u (by omega)
          rw [e9, ← vd_m1] at h9
          refine V.ph (PH1 := (jn X (hM g (upI now (9 * i + 2) (fun t => nI (99 - t)) (t + 1)) q1.2.1 th tx (zS q1.1 q1.2.2.1 q1.2.2.2) tr tp))) (by rw [← upI_s]; show _ = (jn X (hM g (upd now (9 * i + 2) (nI (99 - t))) q1.2.1 th tx (zS q1.1 q1.2.2.1 q1.2.2.2) tr tp)); rw [ek]) ?_
          exact h9 _
theorem m_fits82 {l : Launch} {g : GG} {X : PHp} {now : I1} {th : I1 × Int32} {tx : TXt}  {tr : I1 × Int32} {tp : TPt} {q : SD} {n m c i : Nat} {x : Int32} (hi : i < 6) (hW : WI now n m) (hR : RuI tx.2.2.2.1 now) (hLs : LsI now n 82 c) : Ct l g yX10_fits cX10_fits 11 (some .int) 27 0 0 [rf g (22, 0, 0), .int (nI i), .int (nI 2), .int (nI 99), .int (nI 82), .int x] NN (jn X (hM g now q.2.1 th tx (zS q.1 q.2.2.1 q.2.2.2) tr tp)) (xI (fun _ : SD => True) (fun _ => (fitsR x (ftF (fun x => asF tx.2.2.1 tx.2.2.2.1 m 82 c vSee (upd now (9 * i + 2) x) 13 0 (upd now (9 * i + 2) x)) 99 100))) (fun q1 => (jn X (hM g now q1.2.1 th tx (zS q1.1 q1.2.2.1 q1.2.2.2) tr tp)))) := by
  refine Ct.of (lv := [some (rf g (22, 0, 0)), some (.int (nI i)), some (.int (nI 2)), some (.int (nI 99)), some (.int (nI 82)), some (.int x), none, none, none, none, none]) (by decide +kernel) rfl (Nat.le_of_ble_eq_true rfl) ?_
  intro Γ C
  have hle := ftF_le (is := (fun x => asF tx.2.2.1 tx.2.2.2.1 m 82 c vSee (upd now (9 * i + 2) x) 13 0 (upd now (9 * i + 2) x))) (H := 99) 100
  refine V.aload_n (q := 1) C dX10_fits_0 rfl rfl ?_
  refine V.iload_n (q := 2) C dX10_fits_1 rfl rfl ?_
  refine V.iload_n (q := 3) C dX10_fits_2 rfl rfl ?_
  refine V.callVi (q := 6) C me_X10_one (m_one (by omega)) ml_X10_86 dX10_fits_3 rfl okM ⟨_, rfl⟩ rfl rfl (Nat.le_of_ble_eq_true rfl) (by omega) (Nat.zero_le _) (Nat.zero_le _) ?_
  refine V.istore (q := 8) C dX10_fits_6 rfl (by decide) rfl rfl ?_
  refine V.iconst (q := 9) (v := nI 0) C dX10_fits_8 rfl (by decide) ?_
  refine V.istore (q := 11) C dX10_fits_9 rfl (by decide) rfl rfl ?_
  refine V.bipush (q := 13) (v := -5) C dX10_fits_11 rfl (by decide) ?_
  refine V.istore (q := 15) C dX10_fits_13 rfl (by decide) rfl rfl ?_
  refine V.iload_n (q := 16) C dX10_fits_15 rfl rfl ?_
  refine V.istore (q := 18) C dX10_fits_16 rfl (by decide) rfl rfl ?_
  refine m_fits82_l hi hW hR hLs C ?_ 100 0 q _ rfl
  intro q2 u
  refine V.aload_n (q := 76) C dX10_fits_75 rfl rfl ?_
  refine V.iload_n (q := 77) C dX10_fits_76 rfl rfl ?_
  refine V.iload_n (q := 78) C dX10_fits_77 rfl rfl ?_
  refine V.iload (q := 80) C dX10_fits_78 rfl rfl ?_
  refine V.callVi (q := 83) C me_X10_change (m_change (by omega)) ml_X10_93 dX10_fits_80 rfl okM ⟨_, rfl⟩ rfl rfl (Nat.le_of_ble_eq_true rfl) (by omega) (Nat.zero_le _) (Nat.zero_le _) ?_
  refine V.ph (PH1 := (jn X (hM g now q2.2.1 th tx (zS q2.1 q2.2.2.1 q2.2.2.2) tr tp))) (by rw [upI_b]) ?_
  refine V.pop (q := 84) C dX10_fits_83 rfl rfl ?_
  refine V.iload (q := 86) C dX10_fits_84 rfl rfl ?_
  refine V.if_eq (q := 89) (tgt := 94) C dX10_fits_86 rfl rfl (fun hb86 => ?_) (fun hb86 => ?_)
  · refine V.iload (q := 96) C dX10_fits_94 rfl rfl ?_
    exact V.ireturn C dX10_fits_96 ⟨q2, trivial, by simp only [fitsR, hb86, ↓reduceIte], rfl, rfl⟩
  · refine V.iload (q := 91) C dX10_fits_89 rfl rfl ?_
    refine V.goto (tgt := 96) C dX10_fits_91 rfl ?_
    exact V.ireturn C dX10_fits_96 ⟨q2, trivial, by simp only [fitsR, hb86, ↓reduceIte], rfl, rfl⟩
theorem m_isAllSo98_r {l : Launch} {g : GG} {X : PHp} {now : I1} {th : I1 × Int32} {tx : TXt}  {cv hu : I1} {tr : I1 × Int32} {tp : TPt} {Γ : Cxt} {Q : State → Prop} {q : SC} {n m c d : Nat} (hW : WI now n m) (hR : RuI tx.2.2.2.1 now) (hLs : LsI now n 98 c) (hH : ∀ i, i < 6 → hu i = now (9 * i + 4)) (hd : d ≤ 12) (C : Cx Γ g cX10_isAllSo yX10_isAllSo 8 (some .boolean) 26 0 0) (kx : ∀ (u5 u6 u7 : Option Value), V l Γ g 8 Q 0 0 NN (jn X (hM g (dsA tx.2.2.1 tx.2.2.2.1 m d now) now th tx (zS q cv hu) tr tp)) 167 [some (rf g (22, 0, 0)), some (.int (nI 98)), some (.int (b2i ((alS 98 (vAche now (dsA tx.2.2.1 tx.2.2.2.1 m d now)) now d c) = true))), some (.int (nI d)), some (.int (nI c)), u5, u6, u7] []) : ∀ (f j : Nat) (u5 u6 u7 : Option Value), j + f = c → V l Γ g 8 Q 0 0 NN (jn X (hM g (dsA tx.2.2.1 tx.2.2.2.1 m d now) now th tx (zS q cv hu) tr tp)) 54 [some (rf g (22, 0, 0)), some (.int (nI 98)), some (.int (b2i ((alS 98 (vAche now (dsA tx.2.2.1 tx.2.2.2.1 m d now)) now d j) = true))), some (.int (nI d)), some (.int (nI j)), u5, u6, u7] [] := by
  have h6 := hW.2.1
  have h55 := hLs.2.1
  have eB : ∀ k, 81 ≤ k → (dsA tx.2.2.1 tx.2.2.2.1 m d now) k = now k := fun k hk => dsA_hi hW d k (by omega) (by omega)
  intro f
  induction f with
  | zero =>
    intro j u5 u6 u7 hj
    obtain rfl : j = c := by omega
    refine V.iload (q := 56) C dX10_isAllSo_54 rfl rfl ?_
    refine V.aload_n (q := 57) C dX10_isAllSo_56 rfl rfl ?_
    refine V.get (q := 60) C fl_X10_9 dX10_isAllSo_57 rfl okM rfl rfl ?_
    refine V.iload_n (q := 61) C dX10_isAllSo_60 rfl rfl ?_
    refine V.ild (q := 62) (i := 98) C dX10_isAllSo_61 rfl okM_0 rfl rfl (by omega) (by decide) ?_
    refine V.topi (x1 := nI (j)) ((eB _ (by omega)).trans hLs.1) ?_
    refine V.icmp_ge (q := 65) (tgt := 167) C dX10_isAllSo_62 rfl rfl (fun hb62 => ?_) (fun hb62 => ?_)
    · exact kx u5 u6 u7
    · exact absurd ((nI_leI (by omega) (by omega)).mpr (by omega)) hb62
  | succ f ih =>
    intro j u5 u6 u7 hj
    obtain ⟨i, hi, ei⟩ := hLs.2.2 j (by omega)
    have ii := ix_nI (i := i) (by omega)
    refine V.iload (q := 56) C dX10_isAllSo_54 rfl rfl ?_
    refine V.aload_n (q := 57) C dX10_isAllSo_56 rfl rfl ?_
    refine V.get (q := 60) C fl_X10_9 dX10_isAllSo_57 rfl okM rfl rfl ?_
    refine V.iload_n (q := 61) C dX10_isAllSo_60 rfl rfl ?_
    refine V.ild (q := 62) (i := 98) C dX10_isAllSo_61 rfl okM_0 rfl rfl (by omega) (by decide) ?_
    refine V.topi (x1 := nI (c)) ((eB _ (by omega)).trans hLs.1) ?_
    refine V.icmp_ge (q := 65) (tgt := 167) C dX10_isAllSo_62 rfl rfl (fun hb62 => ?_) (fun hb62 => ?_)
    · exact absurd ((nI_leI (by omega) (by omega)).mp hb62) (by omega)
    · refine V.iload_n (q := 66) C dX10_isAllSo_65 rfl rfl ?_
      refine V.iconst (q := 67) (v := nI 1) C dX10_isAllSo_66 rfl (by decide) ?_
      refine V.iadd (q := 68) C dX10_isAllSo_67 rfl ?_
      refine V.topi (x1 := nI (98 + 1)) (nI_add _ _) ?_
      refine V.iconst (q := 69) (v := nI 3) C dX10_isAllSo_68 rfl (by decide) ?_
      refine V.iload (q := 71) C dX10_isAllSo_69 rfl rfl ?_
      refine V.imul (q := 72) C dX10_isAllSo_71 rfl ?_
      refine V.topi (x1 := nI (3 * j)) (pk_mul _ _) ?_
      refine V.iadd (q := 73) C dX10_isAllSo_72 rfl ?_
      refine V.topi (x1 := nI ((98 + 1) + (3 * j))) (nI_add _ _) ?_
      refine V.istore (q := 75) C dX10_isAllSo_73 rfl (by decide) rfl rfl ?_
      refine V.aload_n (q := 76) C dX10_isAllSo_75 rfl rfl ?_
      refine V.get (q := 79) C fl_X10_9 dX10_isAllSo_76 rfl okM rfl rfl ?_
      refine V.iload (q := 81) C dX10_isAllSo_79 rfl rfl ?_
      refine V.ild (q := 82) (i := ((98 + 1) + (3 * j))) C dX10_isAllSo_81 rfl okM_0 rfl rfl (by omega) (by decide) ?_
      refine V.topi (x1 := nI (i)) ((eB _ (by omega)).trans ei) ?_
      refine V.istore (q := 84) C dX10_isAllSo_82 rfl (by decide) rfl rfl ?_
      refine V.iload_n (q := 85) C dX10_isAllSo_84 rfl rfl ?_
      refine V.bipush (q := 87) (v := nI 82) C dX10_isAllSo_85 rfl (by decide) ?_
      refine V.icmp_ne (q := 90) (tgt := 100) C dX10_isAllSo_87 rfl rfl (fun hb87 => ?_) (fun hb87 => ?_)
      · refine V.aload_n (q := 101) C dX10_isAllSo_100 rfl rfl ?_
        refine V.iload (q := 103) C dX10_isAllSo_101 rfl rfl ?_
        refine V.iconst (q := 104) (v := nI 4) C dX10_isAllSo_103 rfl (by decide) ?_
        refine V.callVi (q := 107) C me_X10_one (m_one (by omega)) ml_X10_86 dX10_isAllSo_104 rfl okM ⟨_, rfl⟩ rfl rfl (Nat.le_of_ble_eq_true rfl) (by omega) (Nat.zero_le _) (Nat.zero_le _) ?_
        refine V.aload_n (q := 108) C dX10_isAllSo_107 rfl rfl ?_
        refine V.get (q := 111) C fl_X10_49 dX10_isAllSo_108 rfl okM rfl rfl ?_
        refine V.iload (q := 113) C dX10_isAllSo_111 rfl rfl ?_
        refine V.ild (q := 114) (i := (i)) C dX10_isAllSo_113 rfl okM_21 rfl rfl (by omega) (by decide) ?_
        refine V.topi (x1 := now (9 * i + 4)) (hH i (by omega)) ?_
        refine V.icmp_le (q := 117) (tgt := 121) C dX10_isAllSo_114 rfl rfl (fun hb114 => ?_) (fun hb114 => ?_)
        · refine V.iconst (q := 122) (v := nI 0) C dX10_isAllSo_121 rfl (by decide) ?_
          refine V.istore (q := 124) C dX10_isAllSo_122 rfl (by decide) rfl rfl ?_
          refine V.iload_n (q := 125) C dX10_isAllSo_124 rfl rfl ?_
          refine V.if_eqB (q := 128) (tgt := 159) C dX10_isAllSo_125 rfl rfl (fun hb125 => ?_) (fun hb125 => ?_)
          · refine V.iconst (q := 160) (v := nI 0) C dX10_isAllSo_159 rfl (by decide) ?_
            refine V.istore_n (q := 161) C dX10_isAllSo_160 rfl (by decide) rfl rfl ?_
            refine V.iinc (q := 164) (v := nI (j + 1)) C dX10_isAllSo_161 rfl rfl (nI_1 _) (by decide) rfl rfl ?_
            refine V.goto (tgt := 54) C dX10_isAllSo_164 rfl ?_
            have e9 : b2i ((alS 98 (vAche now (dsA tx.2.2.1 tx.2.2.2.1 m d now)) now d (j + 1)) = true) = nI 0 := b2i_f (alS_f (Or.inl hb125))
            have h9 := fun u v x => ih (j + 1) u v x (by omega)
            rw [e9] at h9
            exact h9 _ _ _
          · refine V.aload_n (q := 129) C dX10_isAllSo_128 rfl rfl ?_
            refine V.get (q := 132) C fl_X10_9 dX10_isAllSo_129 rfl okM rfl rfl ?_
            refine V.iload (q := 134) C dX10_isAllSo_132 rfl rfl ?_
            refine V.iconst (q := 135) (v := nI 1) C dX10_isAllSo_134 rfl (by decide) ?_
            refine V.iadd (q := 136) C dX10_isAllSo_135 rfl ?_
            refine V.topi (x1 := nI (((98 + 1) + (3 * j)) + 1)) (nI_add _ _) ?_
            refine V.ild (q := 137) (i := (((98 + 1) + (3 * j)) + 1)) C dX10_isAllSo_136 rfl okM_0 rfl rfl (by omega) (by decide) ?_
            refine V.topi (x1 := now (98 + 1 + 3 * j + 1)) (eB _ (by omega)) ?_
            refine V.iload_n (q := 138) C dX10_isAllSo_137 rfl rfl ?_
            refine V.icmp_ne (q := 141) (tgt := 155) C dX10_isAllSo_138 rfl rfl (fun hb138 => ?_) (fun hb138 => ?_)
            · have hk : okS 98 (vAche now (dsA tx.2.2.1 tx.2.2.2.1 m d now)) now d j = true := by
                simp only [okS, Bool.or_eq_true, decide_eq_true_eq]
                exact Or.inl hb138
              refine V.iconst (q := 156) (v := nI 1) C dX10_isAllSo_155 rfl (by decide) ?_
              refine V.goto (tgt := 160) C dX10_isAllSo_156 rfl ?_
              refine V.istore_n (q := 161) C dX10_isAllSo_160 rfl (by decide) rfl rfl ?_
              refine V.iinc (q := 164) (v := nI (j + 1)) C dX10_isAllSo_161 rfl rfl (nI_1 _) (by decide) rfl rfl ?_
              refine V.goto (tgt := 54) C dX10_isAllSo_164 rfl ?_
              have e9 : b2i ((alS 98 (vAche now (dsA tx.2.2.1 tx.2.2.2.1 m d now)) now d (j + 1)) = true) = nI 1 := b2i_t (alS_t hb125 hk)
              have h9 := fun u v x => ih (j + 1) u v x (by omega)
              rw [e9] at h9
              exact h9 _ _ _
            · refine V.iload (q := 143) C dX10_isAllSo_141 rfl rfl ?_
              refine V.aload_n (q := 144) C dX10_isAllSo_143 rfl rfl ?_
              refine V.get (q := 147) C fl_X10_9 dX10_isAllSo_144 rfl okM rfl rfl ?_
              refine V.iload (q := 149) C dX10_isAllSo_147 rfl rfl ?_
              refine V.iconst (q := 150) (v := nI 2) C dX10_isAllSo_149 rfl (by decide) ?_
              refine V.iadd (q := 151) C dX10_isAllSo_150 rfl ?_
              refine V.topi (x1 := nI (((98 + 1) + (3 * j)) + 2)) (nI_add _ _) ?_
              refine V.ild (q := 152) (i := (((98 + 1) + (3 * j)) + 2)) C dX10_isAllSo_151 rfl okM_0 rfl rfl (by omega) (by decide) ?_
              refine V.topi (x1 := now (98 + 1 + 3 * j + 2)) (eB _ (by omega)) ?_
              refine V.icmp_ne (q := 155) (tgt := 159) C dX10_isAllSo_152 rfl rfl (fun hb152 => ?_) (fun hb152 => ?_)
              · have hk : ¬ okS 98 (vAche now (dsA tx.2.2.1 tx.2.2.2.1 m d now)) now d j = true := by
                  simp only [okS, ei, ii, Bool.or_eq_true, decide_eq_true_eq]
                  rintro (z | z)
                  · exact z hb138
                  · exact hb152 (by rw [vAche, if_pos hb114] at z; exact z)
                refine V.iconst (q := 160) (v := nI 0) C dX10_isAllSo_159 rfl (by decide) ?_
                refine V.istore_n (q := 161) C dX10_isAllSo_160 rfl (by decide) rfl rfl ?_
                refine V.iinc (q := 164) (v := nI (j + 1)) C dX10_isAllSo_161 rfl rfl (nI_1 _) (by decide) rfl rfl ?_
                refine V.goto (tgt := 54) C dX10_isAllSo_164 rfl ?_
                have e9 : b2i ((alS 98 (vAche now (dsA tx.2.2.1 tx.2.2.2.1 m d now)) now d (j + 1)) = true) = nI 0 := b2i_f (alS_f (Or.inr hk))
                have h9 := fun u v x => ih (j + 1) u v x (by omega)
                rw [e9] at h9
                exact h9 _ _ _
              · have hk : okS 98 (vAche now (dsA tx.2.2.1 tx.2.2.2.1 m d now)) now d j = true := by
                  simp only [okS, ei, ii, Bool.or_eq_true, decide_eq_true_eq]
                  exact Or.inr (by rw [vAche, if_pos hb114]; exact hb152)
                refine V.iconst (q := 156) (v := nI 1) C dX10_isAllSo_155 rfl (by decide) ?_
                refine V.goto (tgt := 160) C dX10_isAllSo_156 rfl ?_
                refine V.istore_n (q := 161) C dX10_isAllSo_160 rfl (by decide) rfl rfl ?_
                refine V.iinc (q := 164) (v := nI (j + 1)) C dX10_isAllSo_161 rfl rfl (nI_1 _) (by decide) rfl rfl ?_
                refine V.goto (tgt := 54) C dX10_isAllSo_164 rfl ?_
                have e9 : b2i ((alS 98 (vAche now (dsA tx.2.2.1 tx.2.2.2.1 m d now)) now d (j + 1)) = true) = nI 1 := b2i_t (alS_t hb125 hk)
                have h9 := fun u v x => ih (j + 1) u v x (by omega)
                rw [e9] at h9
                exact h9 _ _ _
        · refine V.iconst (q := 118) (v := nI 1) C dX10_isAllSo_117 rfl (by decide) ?_
          refine V.goto (tgt := 122) C dX10_isAllSo_118 rfl ?_
          refine V.istore (q := 124) C dX10_isAllSo_122 rfl (by decide) rfl rfl ?_
          refine V.iload_n (q := 125) C dX10_isAllSo_124 rfl rfl ?_
          refine V.if_eqB (q := 128) (tgt := 159) C dX10_isAllSo_125 rfl rfl (fun hb125 => ?_) (fun hb125 => ?_)
          · refine V.iconst (q := 160) (v := nI 0) C dX10_isAllSo_159 rfl (by decide) ?_
            refine V.istore_n (q := 161) C dX10_isAllSo_160 rfl (by decide) rfl rfl ?_
            refine V.iinc (q := 164) (v := nI (j + 1)) C dX10_isAllSo_161 rfl rfl (nI_1 _) (by decide) rfl rfl ?_
            refine V.goto (tgt := 54) C dX10_isAllSo_164 rfl ?_
            have e9 : b2i ((alS 98 (vAche now (dsA tx.2.2.1 tx.2.2.2.1 m d now)) now d (j + 1)) = true) = nI 0 := b2i_f (alS_f (Or.inl hb125))
            have h9 := fun u v x => ih (j + 1) u v x (by omega)
            rw [e9] at h9
            exact h9 _ _ _
          · refine V.aload_n (q := 129) C dX10_isAllSo_128 rfl rfl ?_
            refine V.get (q := 132) C fl_X10_9 dX10_isAllSo_129 rfl okM rfl rfl ?_
            refine V.iload (q := 134) C dX10_isAllSo_132 rfl rfl ?_
            refine V.iconst (q := 135) (v := nI 1) C dX10_isAllSo_134 rfl (by decide) ?_
            refine V.iadd (q := 136) C dX10_isAllSo_135 rfl ?_
            refine V.topi (x1 := nI (((98 + 1) + (3 * j)) + 1)) (nI_add _ _) ?_
            refine V.ild (q := 137) (i := (((98 + 1) + (3 * j)) + 1)) C dX10_isAllSo_136 rfl okM_0 rfl rfl (by omega) (by decide) ?_
            refine V.topi (x1 := now (98 + 1 + 3 * j + 1)) (eB _ (by omega)) ?_
            refine V.iload_n (q := 138) C dX10_isAllSo_137 rfl rfl ?_
            refine V.icmp_ne (q := 141) (tgt := 155) C dX10_isAllSo_138 rfl rfl (fun hb138 => ?_) (fun hb138 => ?_)
            · have hk : okS 98 (vAche now (dsA tx.2.2.1 tx.2.2.2.1 m d now)) now d j = true := by
                simp only [okS, Bool.or_eq_true, decide_eq_true_eq]
                exact Or.inl hb138
              refine V.iconst (q := 156) (v := nI 1) C dX10_isAllSo_155 rfl (by decide) ?_
              refine V.goto (tgt := 160) C dX10_isAllSo_156 rfl ?_
              refine V.istore_n (q := 161) C dX10_isAllSo_160 rfl (by decide) rfl rfl ?_
              refine V.iinc (q := 164) (v := nI (j + 1)) C dX10_isAllSo_161 rfl rfl (nI_1 _) (by decide) rfl rfl ?_
              refine V.goto (tgt := 54) C dX10_isAllSo_164 rfl ?_
              have e9 : b2i ((alS 98 (vAche now (dsA tx.2.2.1 tx.2.2.2.1 m d now)) now d (j + 1)) = true) = nI 1 := b2i_t (alS_t hb125 hk)
              have h9 := fun u v x => ih (j + 1) u v x (by omega)
              rw [e9] at h9
              exact h9 _ _ _
            · refine V.iload (q := 143) C dX10_isAllSo_141 rfl rfl ?_
              refine V.aload_n (q := 144) C dX10_isAllSo_143 rfl rfl ?_
              refine V.get (q := 147) C fl_X10_9 dX10_isAllSo_144 rfl okM rfl rfl ?_
              refine V.iload (q := 149) C dX10_isAllSo_147 rfl rfl ?_
              refine V.iconst (q := 150) (v := nI 2) C dX10_isAllSo_149 rfl (by decide) ?_
              refine V.iadd (q := 151) C dX10_isAllSo_150 rfl ?_
              refine V.topi (x1 := nI (((98 + 1) + (3 * j)) + 2)) (nI_add _ _) ?_
              refine V.ild (q := 152) (i := (((98 + 1) + (3 * j)) + 2)) C dX10_isAllSo_151 rfl okM_0 rfl rfl (by omega) (by decide) ?_
              refine V.topi (x1 := now (98 + 1 + 3 * j + 2)) (eB _ (by omega)) ?_
              refine V.icmp_ne (q := 155) (tgt := 159) C dX10_isAllSo_152 rfl rfl (fun hb152 => ?_) (fun hb152 => ?_)
              · have hk : ¬ okS 98 (vAche now (dsA tx.2.2.1 tx.2.2.2.1 m d now)) now d j = true := by
                  simp only [okS, ei, ii, Bool.or_eq_true, decide_eq_true_eq]
                  rintro (z | z)
                  · exact z hb138
                  · exact hb152 (by rw [vAche, if_neg hb114] at z; exact z)
                refine V.iconst (q := 160) (v := nI 0) C dX10_isAllSo_159 rfl (by decide) ?_
                refine V.istore_n (q := 161) C dX10_isAllSo_160 rfl (by decide) rfl rfl ?_
                refine V.iinc (q := 164) (v := nI (j + 1)) C dX10_isAllSo_161 rfl rfl (nI_1 _) (by decide) rfl rfl ?_
                refine V.goto (tgt := 54) C dX10_isAllSo_164 rfl ?_
                have e9 : b2i ((alS 98 (vAche now (dsA tx.2.2.1 tx.2.2.2.1 m d now)) now d (j + 1)) = true) = nI 0 := b2i_f (alS_f (Or.inr hk))
                have h9 := fun u v x => ih (j + 1) u v x (by omega)
                rw [e9] at h9
                exact h9 _ _ _
              · have hk : okS 98 (vAche now (dsA tx.2.2.1 tx.2.2.2.1 m d now)) now d j = true := by
                  simp only [okS, ei, ii, Bool.or_eq_true, decide_eq_true_eq]
                  exact Or.inr (by rw [vAche, if_neg hb114]; exact hb152)
                refine V.iconst (q := 156) (v := nI 1) C dX10_isAllSo_155 rfl (by decide) ?_
                refine V.goto (tgt := 160) C dX10_isAllSo_156 rfl ?_
                refine V.istore_n (q := 161) C dX10_isAllSo_160 rfl (by decide) rfl rfl ?_
                refine V.iinc (q := 164) (v := nI (j + 1)) C dX10_isAllSo_161 rfl rfl (nI_1 _) (by decide) rfl rfl ?_
                refine V.goto (tgt := 54) C dX10_isAllSo_164 rfl ?_
                have e9 : b2i ((alS 98 (vAche now (dsA tx.2.2.1 tx.2.2.2.1 m d now)) now d (j + 1)) = true) = nI 1 := b2i_t (alS_t hb125 hk)
                have h9 := fun u v x => ih (j + 1) u v x (by omega)
                rw [e9] at h9
                exact h9 _ _ _
      · exact absurd hb87 (by decide)
theorem m_isAllSo98_d {l : Launch} {g : GG} {X : PHp} {now : I1} {th : I1 × Int32} {tx : TXt}  {cv hu : I1} {tr : I1 × Int32} {tp : TPt} {Γ : Cxt} {n m c : Nat} (hW : WI now n m) (hR : RuI tx.2.2.2.1 now) (hLs : LsI now n 98 c) (hH : ∀ i, i < 6 → hu i = now (9 * i + 4)) (C : Cx Γ g cX10_isAllSo yX10_isAllSo 8 (some .boolean) 26 0 0) : ∀ (f d : Nat) (q : SC) (u4 u5 u6 u7 : Option Value), d + f = 13 → V l Γ g 8 (QM Γ g (xI (fun _ : SD => True) (fun _ => b2i (asF tx.2.2.1 tx.2.2.2.1 m 98 c vAche now f d (dsA tx.2.2.1 tx.2.2.2.1 m d now) = true)) (fun q1 => (jn X (hM g now q1.2.1 th tx (zS q1.1 q1.2.2.1 q1.2.2.2) tr tp)))) 0 0) 0 0 NN (jn X (hM g (dsA tx.2.2.1 tx.2.2.2.1 m d now) now th tx (zS q cv hu) tr tp)) 41 [some (rf g (22, 0, 0)), some (.int (nI 98)), some (.int (nI 1)), some (.int (nI d)), u4, u5, u6, u7] [] := by
  have h6 := hW.2.1
  have h55 := hLs.2.1
  intro f
  induction f with
  | zero =>
    intro d q u4 u5 u6 u7 hd
    have ed : d = 13 := by omega
    subst ed
    refine V.iload_n (q := 42) C dX10_isAllSo_41 rfl rfl ?_
    refine V.bipush (q := 44) (v := nI 12) C dX10_isAllSo_42 rfl (by decide) ?_
    refine V.icmp_gt (q := 47) (tgt := 177) C dX10_isAllSo_44 rfl rfl (fun hb44 => ?_) (fun hb44 => ?_)
    · refine V.aload_n (q := 178) C dX10_isAllSo_177 rfl rfl ?_
      refine V.get (q := 181) C fl_X10_15 dX10_isAllSo_178 rfl okM rfl rfl ?_
      refine V.aload_n (q := 182) C dX10_isAllSo_181 rfl rfl ?_
      refine V.get (q := 185) C fl_X10_9 dX10_isAllSo_182 rfl okM rfl rfl ?_
      refine V.callSv (q := 188) C me_X10_move m_move_back ml_X10_78 dX10_isAllSo_185 rfl rfl rfl (Nat.le_of_ble_eq_true rfl) (by omega) (Nat.zero_le _) (Nat.zero_le _) ?_
      refine V.iload_n (q := 189) C dX10_isAllSo_188 rfl rfl ?_
      exact V.zreturn C dX10_isAllSo_189 rfl ⟨(q, now, cv, hu), trivial, rfl, rfl, rfl⟩
    · exact absurd (show nI 12 < nI 13 by decide) hb44
  | succ f ih =>
    intro d q u4 u5 u6 u7 hd
    have hB : WI (dsA tx.2.2.1 tx.2.2.2.1 m d now) n m := dsA_W hW
    have hR2 : RuI tx.2.2.2.1 (dsA tx.2.2.1 tx.2.2.2.1 m d now) := RuI_hi (dsA_hi hW d 81 (by omega) (by omega)) hR
    refine V.iload_n (q := 42) C dX10_isAllSo_41 rfl rfl ?_
    refine V.bipush (q := 44) (v := nI 12) C dX10_isAllSo_42 rfl (by decide) ?_
    refine V.icmp_gt (q := 47) (tgt := 177) C dX10_isAllSo_44 rfl rfl (fun hb44 => ?_) (fun hb44 => ?_)
    · exact absurd hb44 (nI_nlt (by omega) (by omega))
    · refine V.iload_n (q := 48) C dX10_isAllSo_47 rfl rfl ?_
      refine V.if_eq (q := 51) (tgt := 177) C dX10_isAllSo_48 rfl rfl (fun hb48 => ?_) (fun hb48 => ?_)
      · exact absurd hb48 (by decide)
      · refine V.iconst (q := 52) (v := nI 0) C dX10_isAllSo_51 rfl (by decide) ?_
        refine V.istore (q := 54) C dX10_isAllSo_52 rfl (by decide) rfl rfl ?_
        refine m_isAllSo98_r (d := d) hW hR hLs hH (by omega) C ?_ c 0 _ _ _ (by omega)
        intro v5 v6 v7
        refine V.aload_n (q := 168) C dX10_isAllSo_167 rfl rfl ?_
        refine V.callVxv (q := 171) C me_X10_day (m_day hB hR2) ml_X10_199 dX10_isAllSo_168 rfl okM ⟨_, rfl⟩ rfl rfl (Nat.le_of_ble_eq_true rfl) (by omega) (Nat.zero_le _) (Nat.zero_le _) (fun q1 _ => ?_)
        refine V.iinc (q := 174) (v := nI (d + 1)) C dX10_isAllSo_171 rfl rfl (nI_1 _) (by decide) rfl rfl ?_
        refine V.goto (tgt := 41) C dX10_isAllSo_174 rfl ?_
        by_cases ha : (alS 98 (vAche now (dsA tx.2.2.1 tx.2.2.2.1 m d now)) now d c) = true
        · rw [b2i_t ha]
          have e9 : asF tx.2.2.1 tx.2.2.2.1 m 98 c vAche now (f + 1) d (dsA tx.2.2.1 tx.2.2.2.1 m d now) = asF tx.2.2.1 tx.2.2.2.1 m 98 c vAche now f (d + 1) (dsA tx.2.2.1 tx.2.2.2.1 m (d + 1) now) := if_pos ha
          rw [e9]
          exact ih (d + 1) q1 _ _ _ _ (by omega)
        · rw [b2i_f ha]
          have e9 : asF tx.2.2.1 tx.2.2.2.1 m 98 c vAche now (f + 1) d (dsA tx.2.2.1 tx.2.2.2.1 m d now) = false := if_neg ha
          refine V.iload_n (q := 42) C dX10_isAllSo_41 rfl rfl ?_
          refine V.bipush (q := 44) (v := nI 12) C dX10_isAllSo_42 rfl (by decide) ?_
          refine V.icmp_gt (q := 47) (tgt := 177) C dX10_isAllSo_44 rfl rfl (fun hb44 => ?_) (fun hb44 => ?_)
          · refine V.aload_n (q := 178) C dX10_isAllSo_177 rfl rfl ?_
            refine V.get (q := 181) C fl_X10_15 dX10_isAllSo_178 rfl okM rfl rfl ?_
            refine V.aload_n (q := 182) C dX10_isAllSo_181 rfl rfl ?_
            refine V.get (q := 185) C fl_X10_9 dX10_isAllSo_182 rfl okM rfl rfl ?_
            refine V.callSv (q := 188) C me_X10_move m_move_back ml_X10_78 dX10_isAllSo_185 rfl rfl rfl (Nat.le_of_ble_eq_true rfl) (by omega) (Nat.zero_le _) (Nat.zero_le _) ?_
            refine V.iload_n (q := 189) C dX10_isAllSo_188 rfl rfl ?_
            exact V.zreturn C dX10_isAllSo_189 rfl ⟨(q1, now, cv, hu), trivial, by rw [e9]; rfl, rfl, rfl⟩
          · refine V.iload_n (q := 48) C dX10_isAllSo_47 rfl rfl ?_
            refine V.if_eq (q := 51) (tgt := 177) C dX10_isAllSo_48 rfl rfl (fun hb48 => ?_) (fun hb48 => ?_)
            · refine V.aload_n (q := 178) C dX10_isAllSo_177 rfl rfl ?_
              refine V.get (q := 181) C fl_X10_15 dX10_isAllSo_178 rfl okM rfl rfl ?_
              refine V.aload_n (q := 182) C dX10_isAllSo_181 rfl rfl ?_
              refine V.get (q := 185) C fl_X10_9 dX10_isAllSo_182 rfl okM rfl rfl ?_
              refine V.callSv (q := 188) C me_X10_move m_move_back ml_X10_78 dX10_isAllSo_185 rfl rfl rfl (Nat.le_of_ble_eq_true rfl) (by omega) (Nat.zero_le _) (Nat.zero_le _) ?_
              refine V.iload_n (q := 189) C dX10_isAllSo_188 rfl rfl ?_
              exact V.zreturn C dX10_isAllSo_189 rfl ⟨(q1, now, cv, hu), trivial, by rw [e9]; rfl, rfl, rfl⟩
            · exact absurd rfl hb48
theorem m_isAllSo98_h {l : Launch} {g : GG} {X : PHp} {now : I1} {th : I1 × Int32} {tx : TXt}  {tr : I1 × Int32} {tp : TPt} {q : SD} {Γ : Cxt} {Q : State → Prop}  (C : Cx Γ g cX10_isAllSo yX10_isAllSo 8 (some .boolean) 26 0 0) (kx : V l Γ g 8 Q 0 0 NN (jn X (hM g now now th tx (zS q.1 q.2.2.1 (mix 6 (fun i => now (9 * i + 4)) q.2.2.2)) tr tp)) 37 [some (rf g (22, 0, 0)), some (.int (nI 98)), some (.int (nI 6)), none, none, none, none, none] []) : ∀ k j : Nat, j + k = 6 → V l Γ g 8 Q 0 0 NN (jn X (hM g now now th tx (zS q.1 q.2.2.1 (mix j (fun i => now (9 * i + 4)) q.2.2.2)) tr tp)) 13 [some (rf g (22, 0, 0)), some (.int (nI 98)), some (.int (nI j)), none, none, none, none, none] [] := by
  intro k
  induction k with
  | zero =>
    intro j hj
    have ej : j = 6 := by omega
    subst ej
    refine V.iload_n (q := 14) C dX10_isAllSo_13 rfl rfl ?_
    refine V.bipush (q := 16) (v := nI 6) C dX10_isAllSo_14 rfl (by decide) ?_
    refine V.icmp_ge (q := 19) (tgt := 37) C dX10_isAllSo_16 rfl rfl (fun hb16 => ?_) (fun hb16 => ?_)
    · exact kx
    · exact absurd ((nI_leI (by omega) (by omega)).mpr (by omega)) hb16
  | succ k ih =>
    intro j hj
    refine V.iload_n (q := 14) C dX10_isAllSo_13 rfl rfl ?_
    refine V.bipush (q := 16) (v := nI 6) C dX10_isAllSo_14 rfl (by decide) ?_
    refine V.icmp_ge (q := 19) (tgt := 37) C dX10_isAllSo_16 rfl rfl (fun hb16 => ?_) (fun hb16 => ?_)
    · exact absurd ((nI_leI (by omega) (by omega)).mp hb16) (by omega)
    · refine V.aload_n (q := 20) C dX10_isAllSo_19 rfl rfl ?_
      refine V.get (q := 23) C fl_X10_49 dX10_isAllSo_20 rfl okM rfl rfl ?_
      refine V.iload_n (q := 24) C dX10_isAllSo_23 rfl rfl ?_
      refine V.aload_n (q := 25) C dX10_isAllSo_24 rfl rfl ?_
      refine V.iload_n (q := 26) C dX10_isAllSo_25 rfl rfl ?_
      refine V.iconst (q := 27) (v := nI 4) C dX10_isAllSo_26 rfl (by decide) ?_
      refine V.callVi (q := 30) C me_X10_one (m_one (by omega)) ml_X10_86 dX10_isAllSo_27 rfl okM ⟨_, rfl⟩ rfl rfl (Nat.le_of_ble_eq_true rfl) (by omega) (Nat.zero_le _) (Nat.zero_le _) ?_
      refine V.ist (q := 31) (i := j) C dX10_isAllSo_30 rfl okM_21 rfl rfl (by omega) (by decide) uM_hurts ?_
      refine V.ph (PH1 := (jn X (hM g now now th tx (zS q.1 q.2.2.1 (mix (j + 1) (fun i => now (9 * i + 4)) q.2.2.2)) tr tp))) (by rw [← mix_s]; rfl) ?_
      refine V.iinc (q := 34) (v := nI (j + 1)) C dX10_isAllSo_31 rfl rfl (nI_1 _) (by decide) rfl rfl ?_
      refine V.goto (tgt := 13) C dX10_isAllSo_34 rfl ?_
      exact ih (j + 1) (by omega)
theorem m_isAllSo98 {l : Launch} {g : GG} {X : PHp} {now : I1} {th : I1 × Int32} {tx : TXt}  {tr : I1 × Int32} {tp : TPt} {q : SD} {n m c : Nat} (hW : WI now n m) (hR : RuI tx.2.2.2.1 now) (hLs : LsI now n 98 c) : Ct l g yX10_isAllSo cX10_isAllSo 8 (some .boolean) 26 0 0 [rf g (22, 0, 0), .int (nI 98)] NN (jn X (hM g now q.2.1 th tx (zS q.1 q.2.2.1 q.2.2.2) tr tp)) (xI (fun _ : SD => True) (fun _ => b2i (asF tx.2.2.1 tx.2.2.2.1 m 98 c vAche now 13 0 now = true)) (fun q1 => (jn X (hM g now q1.2.1 th tx (zS q1.1 q1.2.2.1 q1.2.2.2) tr tp)))) := by
  refine Ct.of (lv := [some (rf g (22, 0, 0)), some (.int (nI 98)), none, none, none, none, none, none]) (by decide +kernel) rfl (Nat.le_of_ble_eq_true rfl) ?_
  intro Γ C
  refine V.aload_n (q := 1) C dX10_isAllSo_0 rfl rfl ?_
  refine V.get (q := 4) C fl_X10_9 dX10_isAllSo_1 rfl okM rfl rfl ?_
  refine V.aload_n (q := 5) C dX10_isAllSo_4 rfl rfl ?_
  refine V.get (q := 8) C fl_X10_15 dX10_isAllSo_5 rfl okM rfl rfl ?_
  refine V.callSv (q := 11) C me_X10_move m_move_mind ml_X10_78 dX10_isAllSo_8 rfl rfl rfl (Nat.le_of_ble_eq_true rfl) (by omega) (Nat.zero_le _) (Nat.zero_le _) ?_
  refine V.iconst (q := 12) (v := nI 0) C dX10_isAllSo_11 rfl (by decide) ?_
  refine V.istore_n (q := 13) C dX10_isAllSo_12 rfl (by decide) rfl rfl ?_
  refine V.ph (PH1 := (jn X (hM g now now th tx (zS q.1 q.2.2.1 (mix 0 (fun i => now (9 * i + 4)) q.2.2.2)) tr tp))) (by rw [mix_0]) ?_
  refine m_isAllSo98_h C ?_ 6 0 rfl
  refine V.iconst (q := 38) (v := nI 1) C dX10_isAllSo_37 rfl (by decide) ?_
  refine V.istore_n (q := 39) C dX10_isAllSo_38 rfl (by decide) rfl rfl ?_
  refine V.iconst (q := 40) (v := nI 0) C dX10_isAllSo_39 rfl (by decide) ?_
  refine V.istore_n (q := 41) C dX10_isAllSo_40 rfl (by decide) rfl rfl ?_
  exact m_isAllSo98_d hW hR hLs (fun i hi => if_pos hi) C 13 0 q.1 _ _ _ _ rfl
theorem m_fits98_l {l : Launch} {g : GG} {X : PHp} {now : I1} {th : I1 × Int32} {tx : TXt}  {tr : I1 × Int32} {tp : TPt}  {Γ : Cxt} {Q : State → Prop} {n m c i : Nat} {x : Int32} (hi : i < 6) (hW : WI now n m) (hR : RuI tx.2.2.2.1 now) (hLs : LsI now n 98 c) (C : Cx Γ g cX10_fits yX10_fits 11 (some .int) 27 0 0) (kx : ∀ (q : SD) (u : Option Value), V l Γ g 11 Q 0 0 NN (jn X (hM g (upI now (9 * i + 1) (fun t => nI (9 - t)) 10) q.2.1 th tx (zS q.1 q.2.2.1 q.2.2.2) tr tp)) 75 [some (rf g (22, 0, 0)), some (.int (nI i)), some (.int (nI 1)), some (.int (nI 9)), some (.int (nI 98)), some (.int x), some (.int (now (9 * i + 1))), some (.int (nI (ftF (fun x => asF tx.2.2.1 tx.2.2.2.1 m 98 c vAche (upd now (9 * i + 1) x) 13 0 (upd now (9 * i + 1) x)) 9 10).1)), some (.int (ftF (fun x => asF tx.2.2.1 tx.2.2.2.1 m 98 c vAche (upd now (9 * i + 1) x) 13 0 (upd now (9 * i + 1) x)) 9 10).2), some (.int (vd 0)), u] []) : ∀ (k t : Nat) (q : SD) (u : Option Value), k + t = 10 → V l Γ g 11 Q 0 0 NN (jn X (hM g (upI now (9 * i + 1) (fun t => nI (9 - t)) t) q.2.1 th tx (zS q.1 q.2.2.1 q.2.2.2) tr tp)) 18 [some (rf g (22, 0, 0)), some (.int (nI i)), some (.int (nI 1)), some (.int (nI 9)), some (.int (nI 98)), some (.int x), some (.int (now (9 * i + 1))), some (.int (nI (ftF (fun x => asF tx.2.2.1 tx.2.2.2.1 m 98 c vAche (upd now (9 * i + 1) x) 13 0 (upd now (9 * i + 1) x)) 9 t).1)), some (.int (ftF (fun x => asF tx.2.2.1 tx.2.2.2.1 m 98 c vAche (upd now (9 * i + 1) x) 13 0 (upd now (9 * i + 1) x)) 9 t).2), some (.int (vd k)), u] [] := by
  intro k
  induction k with
  | zero =>
    intro t q u ht
    have et : t = 10 := by omega
    subst et
    refine V.iload (q := 20) C dX10_fits_18 rfl rfl ?_
    refine V.if_lt (q := 23) (tgt := 75) C dX10_fits_20 rfl rfl (fun hb20 => ?_) (fun hb20 => ?_)
    · exact kx q u
    · exact absurd (show vd 0 < 0 by decide) hb20
  | succ k ih =>
    intro t q u ht
    have ek : 9 - t = k := by omega
    have hhi : ∀ j, 54 ≤ j → (upd now (9 * i + 1) (nI k)) j = now j := fun j hj => if_neg (by omega)
    have hB : WI (upd now (9 * i + 1) (nI k)) n m := WI_hi (fun j hj _ => hhi j hj) hW
    have hR2 : RuI tx.2.2.2.1 (upd now (9 * i + 1) (nI k)) := RuI_hi (hhi 81 (by omega)) hR
    have hL2 : LsI (upd now (9 * i + 1) (nI k)) n 98 c := LsI_hi (fun j hj => hhi j (by omega)) (by omega) hLs
    refine V.iload (q := 20) C dX10_fits_18 rfl rfl ?_
    refine V.if_lt (q := 23) (tgt := 75) C dX10_fits_20 rfl rfl (fun hb20 => ?_) (fun hb20 => ?_)
    · exact absurd hb20 (nI_pos (by omega))
    · refine V.aload_n (q := 24) C dX10_fits_23 rfl rfl ?_
      refine V.iload_n (q := 25) C dX10_fits_24 rfl rfl ?_
      refine V.iload_n (q := 26) C dX10_fits_25 rfl rfl ?_
      refine V.iload (q := 28) C dX10_fits_26 rfl rfl ?_
      refine V.callVi (q := 31) C me_X10_change (m_change (by omega)) ml_X10_93 dX10_fits_28 rfl okM ⟨_, rfl⟩ rfl rfl (Nat.le_of_ble_eq_true rfl) (by omega) (Nat.zero_le _) (Nat.zero_le _) ?_
      refine V.ph (PH1 := (jn X (hM g (upd now (9 * i + 1) (nI k)) q.2.1 th tx (zS q.1 q.2.2.1 q.2.2.2) tr tp))) (by rw [← upI_u (A := now) (j := t) (f := fun t => nI (9 - t))]; rfl) ?_
      refine V.pop (q := 32) C dX10_fits_31 rfl rfl ?_
      refine V.aload_n (q := 33) C dX10_fits_32 rfl rfl ?_
      refine V.iload (q := 35) C dX10_fits_33 rfl rfl ?_
      refine V.callVxi (q := 38) C me_X10_isAllSo (m_isAllSo98 hB hR2 hL2) ml_X10_233 dX10_fits_35 rfl okM ⟨_, rfl⟩ rfl rfl (Nat.le_of_ble_eq_true rfl) (by omega) (Nat.zero_le _) (Nat.zero_le _) (fun q1 _ => ?_)
      refine V.istore (q := 40) C dX10_fits_38 rfl (by decide) rfl rfl ?_
      refine V.iload (q := 42) C dX10_fits_40 rfl rfl ?_
      refine V.iload (q := 44) C dX10_fits_42 rfl rfl ?_
      refine V.if_eqB (q := 47) (tgt := 51) C dX10_fits_44 rfl rfl (fun hb44 => ?_) (fun hb44 => ?_)
      · refine V.iconst (q := 52) (v := nI 0) C dX10_fits_51 rfl (by decide) ?_
        refine V.iadd (q := 53) C dX10_fits_52 rfl ?_
        refine V.topi (x1 := nI ((ftF (fun x => asF tx.2.2.1 tx.2.2.2.1 m 98 c vAche (upd now (9 * i + 1) x) 13 0 (upd now (9 * i + 1) x)) 9 t).1 + 0)) (nI_add _ _) ?_
        refine V.istore (q := 55) C dX10_fits_53 rfl (by decide) rfl rfl ?_
        refine V.iload (q := 57) C dX10_fits_55 rfl rfl ?_
        refine V.if_eqB (q := 60) (tgt := 65) C dX10_fits_57 rfl rfl (fun hb57 => ?_) (fun hb57 => ?_)
        · refine V.iload (q := 67) C dX10_fits_65 rfl rfl ?_
          refine V.istore (q := 69) C dX10_fits_67 rfl (by decide) rfl rfl ?_
          refine V.iinc (q := 72) C dX10_fits_69 rfl rfl rfl (by decide) rfl rfl ?_
          refine V.goto (tgt := 18) C dX10_fits_72 rfl ?_
          have e9 : (ftF (fun x => asF tx.2.2.1 tx.2.2.2.1 m 98 c vAche (upd now (9 * i + 1) x) 13 0 (upd now (9 * i + 1) x)) 9 (t + 1)) = (ftF (fun x => asF tx.2.2.1 tx.2.2.2.1 m 98 c vAche (upd now (9 * i + 1) x) 13 0 (upd now (9 * i + 1) x)) 9 t) := by
            show ftS ((fun x => asF tx.2.2.1 tx.2.2.2.1 m 98 c vAche (upd now (9 * i + 1) x) 13 0 (upd now (9 * i + 1) x)) (nI (9 - t))) (nI (9 - t)) (ftF (fun x => asF tx.2.2.1 tx.2.2.2.1 m 98 c vAche (upd now (9 * i + 1) x) 13 0 (upd now (9 * i + 1) x)) 9 t) = _
            rw [ek]
            exact ftS_f hb44
          have h9 := fun u => ih (t + 1) q1 u (by omega)
          rw [e9, ← vd_m1] at h9
          refine V.ph (PH1 := (jn X (hM g (upI now (9 * i + 1) (fun t => nI (9 - t)) (t + 1)) q1.2.1 th tx (zS q1.1 q1.2.2.1 q1.2.2.2) tr tp))) (by rw [← upI_s]; show _ = (jn X (hM g (upd now (9 * i + 1) (nI (9 - t))) q1.2.1 th tx (zS q1.1 q1.2.2.1 q1.2.2.2) tr tp)); rw [ek]) ?_
          exact h9 _
        · exact absurd hb57 hb44
      · refine V.iconst (q := 48) (v := nI 1) C dX10_fits_47 rfl (by decide) ?_
        refine V.goto (tgt := 52) C dX10_fits_48 rfl ?_
        refine V.iadd (q := 53) C dX10_fits_52 rfl ?_
        refine V.topi (x1 := nI ((ftF (fun x => asF tx.2.2.1 tx.2.2.2.1 m 98 c vAche (upd now (9 * i + 1) x) 13 0 (upd now (9 * i + 1) x)) 9 t).1 + 1)) (nI_add _ _) ?_
        refine V.istore (q := 55) C dX10_fits_53 rfl (by decide) rfl rfl ?_
        refine V.iload (q := 57) C dX10_fits_55 rfl rfl ?_
        refine V.if_eqB (q := 60) (tgt := 65) C dX10_fits_57 rfl rfl (fun hb57 => ?_) (fun hb57 => ?_)
        · exact absurd hb44 hb57
        · refine V.iload (q := 62) C dX10_fits_60 rfl rfl ?_
          refine V.goto (tgt := 67) C dX10_fits_62 rfl ?_
          refine V.istore (q := 69) C dX10_fits_67 rfl (by decide) rfl rfl ?_
          refine V.iinc (q := 72) C dX10_fits_69 rfl rfl rfl (by decide) rfl rfl ?_
          refine V.goto (tgt := 18) C dX10_fits_72 rfl ?_
          have e9 : (ftF (fun x => asF tx.2.2.1 tx.2.2.2.1 m 98 c vAche (upd now (9 * i + 1) x) 13 0 (upd now (9 * i + 1) x)) 9 (t + 1)) = ((ftF (fun x => asF tx.2.2.1 tx.2.2.2.1 m 98 c vAche (upd now (9 * i + 1) x) 13 0 (upd now (9 * i + 1) x)) 9 t).1 + 1, nI k) := by
            show ftS ((fun x => asF tx.2.2.1 tx.2.2.2.1 m 98 c vAche (upd now (9 * i + 1) x) 13 0 (upd now (9 * i + 1) x)) (nI (9 - t))) (nI (9 - t)) (ftF (fun x => asF tx.2.2.1 tx.2.2.2.1 m 98 c vAche (upd now (9 * i + 1) x) 13 0 (upd now (9 * i + 1) x)) 9 t) = _
            rw [ek]
            exact ftS_t hb44
          have h9 := fun u => ih (t + 1) q1 u (by omega)
          rw [e9, ← vd_m1] at h9
          refine V.ph (PH1 := (jn X (hM g (upI now (9 * i + 1) (fun t => nI (9 - t)) (t + 1)) q1.2.1 th tx (zS q1.1 q1.2.2.1 q1.2.2.2) tr tp))) (by rw [← upI_s]; show _ = (jn X (hM g (upd now (9 * i + 1) (nI (9 - t))) q1.2.1 th tx (zS q1.1 q1.2.2.1 q1.2.2.2) tr tp)); rw [ek]) ?_
          exact h9 _
theorem m_fits98 {l : Launch} {g : GG} {X : PHp} {now : I1} {th : I1 × Int32} {tx : TXt}  {tr : I1 × Int32} {tp : TPt} {q : SD} {n m c i : Nat} {x : Int32} (hi : i < 6) (hW : WI now n m) (hR : RuI tx.2.2.2.1 now) (hLs : LsI now n 98 c) : Ct l g yX10_fits cX10_fits 11 (some .int) 27 0 0 [rf g (22, 0, 0), .int (nI i), .int (nI 1), .int (nI 9), .int (nI 98), .int x] NN (jn X (hM g now q.2.1 th tx (zS q.1 q.2.2.1 q.2.2.2) tr tp)) (xI (fun _ : SD => True) (fun _ => (fitsR x (ftF (fun x => asF tx.2.2.1 tx.2.2.2.1 m 98 c vAche (upd now (9 * i + 1) x) 13 0 (upd now (9 * i + 1) x)) 9 10))) (fun q1 => (jn X (hM g now q1.2.1 th tx (zS q1.1 q1.2.2.1 q1.2.2.2) tr tp)))) := by
  refine Ct.of (lv := [some (rf g (22, 0, 0)), some (.int (nI i)), some (.int (nI 1)), some (.int (nI 9)), some (.int (nI 98)), some (.int x), none, none, none, none, none]) (by decide +kernel) rfl (Nat.le_of_ble_eq_true rfl) ?_
  intro Γ C
  have hle := ftF_le (is := (fun x => asF tx.2.2.1 tx.2.2.2.1 m 98 c vAche (upd now (9 * i + 1) x) 13 0 (upd now (9 * i + 1) x))) (H := 9) 10
  refine V.aload_n (q := 1) C dX10_fits_0 rfl rfl ?_
  refine V.iload_n (q := 2) C dX10_fits_1 rfl rfl ?_
  refine V.iload_n (q := 3) C dX10_fits_2 rfl rfl ?_
  refine V.callVi (q := 6) C me_X10_one (m_one (by omega)) ml_X10_86 dX10_fits_3 rfl okM ⟨_, rfl⟩ rfl rfl (Nat.le_of_ble_eq_true rfl) (by omega) (Nat.zero_le _) (Nat.zero_le _) ?_
  refine V.istore (q := 8) C dX10_fits_6 rfl (by decide) rfl rfl ?_
  refine V.iconst (q := 9) (v := nI 0) C dX10_fits_8 rfl (by decide) ?_
  refine V.istore (q := 11) C dX10_fits_9 rfl (by decide) rfl rfl ?_
  refine V.bipush (q := 13) (v := -5) C dX10_fits_11 rfl (by decide) ?_
  refine V.istore (q := 15) C dX10_fits_13 rfl (by decide) rfl rfl ?_
  refine V.iload_n (q := 16) C dX10_fits_15 rfl rfl ?_
  refine V.istore (q := 18) C dX10_fits_16 rfl (by decide) rfl rfl ?_
  refine m_fits98_l hi hW hR hLs C ?_ 10 0 q _ rfl
  intro q2 u
  refine V.aload_n (q := 76) C dX10_fits_75 rfl rfl ?_
  refine V.iload_n (q := 77) C dX10_fits_76 rfl rfl ?_
  refine V.iload_n (q := 78) C dX10_fits_77 rfl rfl ?_
  refine V.iload (q := 80) C dX10_fits_78 rfl rfl ?_
  refine V.callVi (q := 83) C me_X10_change (m_change (by omega)) ml_X10_93 dX10_fits_80 rfl okM ⟨_, rfl⟩ rfl rfl (Nat.le_of_ble_eq_true rfl) (by omega) (Nat.zero_le _) (Nat.zero_le _) ?_
  refine V.ph (PH1 := (jn X (hM g now q2.2.1 th tx (zS q2.1 q2.2.2.1 q2.2.2.2) tr tp))) (by rw [upI_b]) ?_
  refine V.pop (q := 84) C dX10_fits_83 rfl rfl ?_
  refine V.iload (q := 86) C dX10_fits_84 rfl rfl ?_
  refine V.if_eq (q := 89) (tgt := 94) C dX10_fits_86 rfl rfl (fun hb86 => ?_) (fun hb86 => ?_)
  · refine V.iload (q := 96) C dX10_fits_94 rfl rfl ?_
    exact V.ireturn C dX10_fits_96 ⟨q2, trivial, by simp only [fitsR, hb86, ↓reduceIte], rfl, rfl⟩
  · refine V.iload (q := 91) C dX10_fits_89 rfl rfl ?_
    refine V.goto (tgt := 96) C dX10_fits_91 rfl ?_
    exact V.ireturn C dX10_fits_96 ⟨q2, trivial, by simp only [fitsR, hb86, ↓reduceIte], rfl, rfl⟩
theorem m_covers {l : Launch} {g : GG} {X : PHp} {now : I1} {th : I1 × Int32} {tx : TXt}  {tr : I1 × Int32} {tp : TPt} {q : SD} {n m c i : Nat} {x : Int32} (hi : i < 6) (hW : WI now n m) (hR : RuI tx.2.2.2.1 now) (hLs : LsI now n 82 c) : Ct l g yX10_covers cX10_covers 3 (some .int) 28 0 0 [rf g (22, 0, 0), .int (nI i), .int x] NN (jn X (hM g now q.2.1 th tx (zS q.1 q.2.2.1 q.2.2.2) tr tp)) (xI (fun _ : SD => True) (fun _ => (fitsR x (ftF (fun x => asF tx.2.2.1 tx.2.2.2.1 m 82 c vSee (upd now (9 * i + 2) x) 13 0 (upd now (9 * i + 2) x)) 99 100))) (fun q1 => (jn X (hM g now q1.2.1 th tx (zS q1.1 q1.2.2.1 q1.2.2.2) tr tp)))) := by
  refine Ct.of (lv := [some (rf g (22, 0, 0)), some (.int (nI i)), some (.int x)]) (by decide +kernel) rfl (Nat.le_of_ble_eq_true rfl) ?_
  intro Γ C
  refine V.aload_n (q := 1) C dX10_covers_0 rfl rfl ?_
  refine V.iload_n (q := 2) C dX10_covers_1 rfl rfl ?_
  refine V.iconst (q := 3) (v := nI 2) C dX10_covers_2 rfl (by decide) ?_
  refine V.bipush (q := 5) (v := nI 99) C dX10_covers_3 rfl (by decide) ?_
  refine V.bipush (q := 7) (v := nI 82) C dX10_covers_5 rfl (by decide) ?_
  refine V.iload_n (q := 8) C dX10_covers_7 rfl rfl ?_
  refine V.callVxi (q := 11) C me_X10_fits (m_fits82 hi hW hR hLs) ml_X10_236 dX10_covers_8 rfl okM ⟨_, rfl⟩ rfl rfl (Nat.le_of_ble_eq_true rfl) (by omega) (Nat.zero_le _) (Nat.zero_le _) (fun q1 _ => ?_)
  exact V.ireturn C dX10_covers_11 ⟨q1, trivial, rfl, rfl, rfl⟩
def canR (rules sizes now : I1) (n m c : Nat) (p x : Int32) : Int32 := if inN p n then (if inR x (nI 0) (nI 1) then (if x = 0 then nI (ftF (fun x => asF rules sizes m 98 c vAche (upd now (9 * ix p + 1) x) 13 0 (upd now (9 * ix p + 1) x)) 9 10).1 else (ftF (fun x => asF rules sizes m 98 c vAche (upd now (9 * ix p + 1) x) 13 0 (upd now (9 * ix p + 1) x)) 9 10).2) else -1) else -1
theorem m_can {l : Launch} {g : GG} {X : PHp} {now : I1} {th : I1 × Int32} {tx : TXt}  {tr : I1 × Int32} {tp : TPt} {q : SD} {n m c : Nat} {p x : Int32} (hW : WI now n m) (hR : RuI tx.2.2.2.1 now) (hLs : LsI now n 98 c) : Ct l g yX10_can cX10_can 3 (some .int) 28 0 0 [rf g (22, 0, 0), .int p, .int x] NN (jn X (hM g now q.2.1 th tx (zS q.1 q.2.2.1 q.2.2.2) tr tp)) (xI (fun _ : SD => True) (fun _ => (canR tx.2.2.1 tx.2.2.2.1 now n m c p x)) (fun q1 => (jn X (hM g now q1.2.1 th tx (zS q1.1 q1.2.2.1 q1.2.2.2) tr tp)))) := by
  refine Ct.of (lv := [some (rf g (22, 0, 0)), some (.int p), some (.int x)]) (by decide +kernel) rfl (Nat.le_of_ble_eq_true rfl) ?_
  intro Γ C
  have h6 := hW.2.1
  refine V.aload_n (q := 1) C dX10_can_0 rfl rfl ?_
  refine V.iload_n (q := 2) C dX10_can_1 rfl rfl ?_
  refine V.callVi (q := 5) C me_X10_isOne (m_isOne hW.1 (by omega)) ml_X10_97 dX10_can_2 rfl okM ⟨_, rfl⟩ rfl rfl (Nat.le_of_ble_eq_true rfl) (by omega) (Nat.zero_le _) (Nat.zero_le _) ?_
  refine V.if_eqB (q := 8) (tgt := 39) C dX10_can_5 rfl rfl (fun hb5 => ?_) (fun hb5 => ?_)
  · refine V.iconst (q := 40) (v := -1) C dX10_can_39 rfl (by decide) ?_
    exact V.ireturn C dX10_can_40 ⟨q, trivial, by rw [canR, if_neg hb5], rfl, rfl⟩
  · obtain ⟨i, hi, rfl⟩ := InN_nat (by omega) hb5
    have ei := ix_nI (i := i) (by omega)
    refine V.iload_n (q := 9) C dX10_can_8 rfl rfl ?_
    refine V.iconst (q := 10) (v := nI 0) C dX10_can_9 rfl (by decide) ?_
    refine V.iconst (q := 11) (v := nI 1) C dX10_can_10 rfl (by decide) ?_
    refine V.callSi (q := 14) C me_X10_isIn m_isIn ml_X10_82 dX10_can_11 rfl rfl rfl (Nat.le_of_ble_eq_true rfl) (by omega) (Nat.zero_le _) (Nat.zero_le _) ?_
    refine V.if_eqB (q := 17) (tgt := 39) C dX10_can_14 rfl rfl (fun hb14 => ?_) (fun hb14 => ?_)
    · refine V.iconst (q := 40) (v := -1) C dX10_can_39 rfl (by decide) ?_
      exact V.ireturn C dX10_can_40 ⟨q, trivial, by rw [canR, if_pos hb5, if_neg hb14], rfl, rfl⟩
    · refine V.aload_n (q := 18) C dX10_can_17 rfl rfl ?_
      refine V.iload_n (q := 19) C dX10_can_18 rfl rfl ?_
      refine V.iconst (q := 20) (v := nI 1) C dX10_can_19 rfl (by decide) ?_
      refine V.bipush (q := 22) (v := nI 9) C dX10_can_20 rfl (by decide) ?_
      refine V.bipush (q := 24) (v := nI 98) C dX10_can_22 rfl (by decide) ?_
      refine V.iload_n (q := 25) C dX10_can_24 rfl rfl ?_
      refine V.if_ne (q := 28) (tgt := 32) C dX10_can_25 rfl rfl (fun hb25 => ?_) (fun hb25 => ?_)
      · refine V.iconst (q := 33) (v := nI 0) C dX10_can_32 rfl (by decide) ?_
        refine V.callVxi (q := 36) C me_X10_fits (m_fits98 (by omega) hW hR hLs) ml_X10_236 dX10_can_33 rfl okM ⟨_, rfl⟩ rfl rfl (Nat.le_of_ble_eq_true rfl) (by omega) (Nat.zero_le _) (Nat.zero_le _) (fun q1 _ => ?_)
        refine V.goto (tgt := 40) C dX10_can_36 rfl ?_
        exact V.ireturn C dX10_can_40 ⟨q1, trivial, by rw [canR, if_pos hb5, if_pos hb14, if_neg hb25, ei]; rfl, rfl, rfl⟩
      · refine V.iconst (q := 29) (v := nI 1) C dX10_can_28 rfl (by decide) ?_
        refine V.goto (tgt := 33) C dX10_can_29 rfl ?_
        refine V.callVxi (q := 36) C me_X10_fits (m_fits98 (by omega) hW hR hLs) ml_X10_236 dX10_can_33 rfl okM ⟨_, rfl⟩ rfl rfl (Nat.le_of_ble_eq_true rfl) (by omega) (Nat.zero_le _) (Nat.zero_le _) (fun q1 _ => ?_)
        refine V.goto (tgt := 40) C dX10_can_36 rfl ?_
        exact V.ireturn C dX10_can_40 ⟨q1, trivial, by rw [canR, if_pos hb5, if_pos hb14, if_pos hb25, ei]; rfl, rfl, rfl⟩
