/-! the law's cases -/
/-- the script, below all that is made -/
def LX (Γ : Cxt) (g : GG) (b L : Nat) (xs : Nat → Int32) : Prop := match Γ with
  | (_, _, _, s, _, _, _, _, _) => va_X b L xs s s.heap ∧ b < s.heap.size ∧ bG g = s.heap.size
section VLAW
variable {l : Launch} {Γ : Cxt} {g : GG} {cc : ByteArray} {y : MethodName} {nL : Nat} {ret1 : Option FieldType} {lvl mc ms : Nat} {Q : State → Prop} {cells slots n : Nat} {PH : PHp} {pc q : Nat} {lv : List (Option Value)} {st : List Value} {b L : Nat} {xs : Nat → Int32}
theorem V.sld {i : Nat} {z : Int32} (C : Cx Γ g cc y nL ret1 lvl mc ms) (X : LX Γ g b L xs) (d : decode cc pc = .ok (.iaload, 1)) (hq : pc + 1 = q) (hz : z = nI i) (hi : i < L) (hL : L < 2 ^ 31) (k : V l Γ g nL Q cells slots n PH q lv (.int (xs i) :: st)) : V l Γ g nL Q cells slots n PH pc lv (.int z :: .ref b :: st) := by
  subst hz
  obtain ⟨p, e, R, s, m, args, below, meth, c⟩ := Γ
  subst hq
  obtain ⟨x1, x2, x3⟩ := X
  intro H locs ls hH hS hL9
  have e0 := nI_clamp (n := i) (by omega)
  refine va_sld C.1 C.2.1 x1 x2 (by rw [x3]; exact Nat.not_le.mpr x2) hS (vp_in_nI hi hL) d ?_
  rw [e0]
  exact k H locs ls hH hS hL9
theorem V.slenX (C : Cx Γ g cc y nL ret1 lvl mc ms) (X : LX Γ g b L xs) (d : decode cc pc = .ok (.arraylength, 1)) (hq : pc + 1 = q) (k : V l Γ g nL Q cells slots n PH q lv (.int (nI L) :: st)) : V l Γ g nL Q cells slots n PH pc lv (.ref b :: st) := by
  obtain ⟨p, e, R, s, m, args, below, meth, c⟩ := Γ
  subst hq
  obtain ⟨x1, x2, x3⟩ := X
  intro H locs ls hH hS hL9
  exact va_slen C.1 C.2.1 x1 x2 (by rw [x3]; exact Nat.not_le.mpr x2) hS d (k H locs ls hH hS hL9)
end VLAW
theorem lg_self {v : Int64} : lg_cmp v v = 0 := by
  unfold lg_cmp
  simp
set_option maxHeartbeats 1000000 in
theorem law_0 {l : Launch} {g : GG} {b L : Nat} {xs : Nat → Int32} {Γ : Cxt} {Q : State → Prop} {i : Nat} (C : Cx Γ g code x 4 ret 30 600000 7302250) (X : LX Γ g b L xs) (hi : i + 6 ≤ L) (hL : L ≤ 3072) {PH : PHp} (hS : ST g PH) (kx : ∀ PH1 : PHp, ST g PH1 → V l Γ g 4 Q 600000 7302250 NN PH1 1298 [some (.ref b), some (rf g (0, 0, 0)), some (rf g (22, 0, 0)), some (.int (nI i))] []) : V l Γ g 4 Q 600000 7302250 NN PH 180 [some (.ref b), some (rf g (0, 0, 0)), some (rf g (22, 0, 0)), some (.int (nI i))] [] := by
  obtain ⟨h0, ct, cl, rd, B, cy, rw, tl, sp, now, mind, th, tx, q, cv, hu, tr, tp, r, t, hV0, rfl⟩ := hS
  obtain ⟨⟨a1, a2, a3, a4, a5⟩, ⟨b1, b2, b3, b4⟩, ⟨n, m, c0, c1, c2, c3, hq, hW, hH⟩, ⟨d1, d2⟩, ⟨e1, e2⟩, hsp⟩ := id hV0
  have hSH := hV0.sh hW hq
  have hRu := hV0.ru hW hq
  have hn := hW.1.2.1
  have hm := hW.1.2.2.2.1
  have hCI := hW.2.2.2.1
  have hTR := hW.2.2.2.2.1
  refine V.aload_n (q := 181) C dL_law_180 rfl rfl ?_
  refine V.aload_nR (q := 182) C dL_law_181 rfl rfl ?_
  refine V.iload_n (q := 183) C dL_law_182 rfl rfl ?_
  refine V.iconst (q := 184) (v := nI 1) C dL_law_183 rfl (by decide) ?_
  refine V.iadd (q := 185) C dL_law_184 rfl ?_
  refine V.topi (x1 := nI (i + 1)) (nI_add _ _) ?_
  refine V.sld (q := 186) (i := (i + 1)) C X dL_law_185 rfl rfl (by omega) (by omega) ?_
  refine V.aload_nR (q := 187) C dL_law_186 rfl rfl ?_
  refine V.iload_n (q := 188) C dL_law_187 rfl rfl ?_
  refine V.iconst (q := 189) (v := nI 2) C dL_law_188 rfl (by decide) ?_
  refine V.iadd (q := 190) C dL_law_189 rfl ?_
  refine V.topi (x1 := nI (i + 2)) (nI_add _ _) ?_
  refine V.sld (q := 191) (i := (i + 2)) C X dL_law_190 rfl rfl (by omega) (by omega) ?_
  refine V.aload_nR (q := 192) C dL_law_191 rfl rfl ?_
  refine V.iload_n (q := 193) C dL_law_192 rfl rfl ?_
  refine V.iconst (q := 194) (v := nI 3) C dL_law_193 rfl (by decide) ?_
  refine V.iadd (q := 195) C dL_law_194 rfl ?_
  refine V.topi (x1 := nI (i + 3)) (nI_add _ _) ?_
  refine V.sld (q := 196) (i := (i + 3)) C X dL_law_195 rfl rfl (by omega) (by omega) ?_
  refine V.callVi (q := 199) C me_X9_wearer (c_wearer hCI) ml_L_13 dL_law_196 rfl okC_0 ⟨_, rfl⟩ rfl rfl (Nat.le_of_ble_eq_true rfl) (by omega) (Nat.le_refl _) (Nat.le_refl _) ?_
  refine V.aload_n (q := 200) C dL_law_199 rfl rfl ?_
  refine V.aload_nR (q := 201) C dL_law_200 rfl rfl ?_
  refine V.iload_n (q := 202) C dL_law_201 rfl rfl ?_
  refine V.iconst (q := 203) (v := nI 1) C dL_law_202 rfl (by decide) ?_
  refine V.iadd (q := 204) C dL_law_203 rfl ?_
  refine V.topi (x1 := nI (i + 1)) (nI_add _ _) ?_
  refine V.sld (q := 205) (i := (i + 1)) C X dL_law_204 rfl rfl (by omega) (by omega) ?_
  refine V.aload_nR (q := 206) C dL_law_205 rfl rfl ?_
  refine V.iload_n (q := 207) C dL_law_206 rfl rfl ?_
  refine V.iconst (q := 208) (v := nI 2) C dL_law_207 rfl (by decide) ?_
  refine V.iadd (q := 209) C dL_law_208 rfl ?_
  refine V.topi (x1 := nI (i + 2)) (nI_add _ _) ?_
  refine V.sld (q := 210) (i := (i + 2)) C X dL_law_209 rfl rfl (by omega) (by omega) ?_
  refine V.aload_nR (q := 211) C dL_law_210 rfl rfl ?_
  refine V.iload_n (q := 212) C dL_law_211 rfl rfl ?_
  refine V.iconst (q := 213) (v := nI 3) C dL_law_212 rfl (by decide) ?_
  refine V.iadd (q := 214) C dL_law_213 rfl ?_
  refine V.topi (x1 := nI (i + 3)) (nI_add _ _) ?_
  refine V.sld (q := 215) (i := (i + 3)) C X dL_law_214 rfl rfl (by omega) (by omega) ?_
  refine V.callVi (q := 218) C me_X10_wearer (m_wearer hW.1.1 hn) ml_L_17 dL_law_215 rfl okM ⟨_, rfl⟩ rfl rfl (Nat.le_of_ble_eq_true rfl) (by omega) (Nat.le_refl _) (Nat.le_refl _) ?_
  refine V.icmp_eq (q := 221) (tgt := 1298) C dL_law_218 rfl rfl (fun hb218 => ?_) (fun hb218 => ?_)
  · exact kx _ ⟨_, _, _, _, _, _, _, _, _, _, _, _, _, _, _, _, _, _, _, _, (hV0.wearer hq hW hH), rfl⟩
  · exact absurd rfl hb218
set_option maxHeartbeats 1000000 in
theorem law_1 {l : Launch} {g : GG} {b L : Nat} {xs : Nat → Int32} {Γ : Cxt} {Q : State → Prop} {i : Nat} (C : Cx Γ g code x 4 ret 30 600000 7302250) (X : LX Γ g b L xs) (hi : i + 6 ≤ L) (hL : L ≤ 3072) {PH : PHp} (hS : ST g PH) (kx : ∀ PH1 : PHp, ST g PH1 → V l Γ g 4 Q 600000 7302250 NN PH1 1298 [some (.ref b), some (rf g (0, 0, 0)), some (rf g (22, 0, 0)), some (.int (nI i))] []) : V l Γ g 4 Q 600000 7302250 NN PH 223 [some (.ref b), some (rf g (0, 0, 0)), some (rf g (22, 0, 0)), some (.int (nI i))] [] := by
  obtain ⟨h0, ct, cl, rd, B, cy, rw, tl, sp, now, mind, th, tx, q, cv, hu, tr, tp, r, t, hV0, rfl⟩ := hS
  obtain ⟨⟨a1, a2, a3, a4, a5⟩, ⟨b1, b2, b3, b4⟩, ⟨n, m, c0, c1, c2, c3, hq, hW, hH⟩, ⟨d1, d2⟩, ⟨e1, e2⟩, hsp⟩ := id hV0
  have hSH := hV0.sh hW hq
  have hRu := hV0.ru hW hq
  have hn := hW.1.2.1
  have hm := hW.1.2.2.2.1
  have hCI := hW.2.2.2.1
  have hTR := hW.2.2.2.2.1
  refine V.aload_n (q := 224) C dL_law_223 rfl rfl ?_
  refine V.aload_nR (q := 225) C dL_law_224 rfl rfl ?_
  refine V.iload_n (q := 226) C dL_law_225 rfl rfl ?_
  refine V.iconst (q := 227) (v := nI 1) C dL_law_226 rfl (by decide) ?_
  refine V.iadd (q := 228) C dL_law_227 rfl ?_
  refine V.topi (x1 := nI (i + 1)) (nI_add _ _) ?_
  refine V.sld (q := 229) (i := (i + 1)) C X dL_law_228 rfl rfl (by omega) (by omega) ?_
  refine V.aload_nR (q := 230) C dL_law_229 rfl rfl ?_
  refine V.iload_n (q := 231) C dL_law_230 rfl rfl ?_
  refine V.iconst (q := 232) (v := nI 2) C dL_law_231 rfl (by decide) ?_
  refine V.iadd (q := 233) C dL_law_232 rfl ?_
  refine V.topi (x1 := nI (i + 2)) (nI_add _ _) ?_
  refine V.sld (q := 234) (i := (i + 2)) C X dL_law_233 rfl rfl (by omega) (by omega) ?_
  refine V.callVxi (q := 237) C me_X9_of (c_of hSH hCI hTR rfl hH.1.1 hH.1.2.1 hH.1.2.2) ml_L_18 dL_law_234 rfl okC_0 ⟨_, rfl⟩ rfl rfl (Nat.le_of_ble_eq_true rfl) (by omega) (Nat.le_refl _) (Nat.le_refl _) (fun z1 h1 => ?_)
  refine V.aload_n (q := 238) C dL_law_237 rfl rfl ?_
  refine V.aload_nR (q := 239) C dL_law_238 rfl rfl ?_
  refine V.iload_n (q := 240) C dL_law_239 rfl rfl ?_
  refine V.iconst (q := 241) (v := nI 1) C dL_law_240 rfl (by decide) ?_
  refine V.iadd (q := 242) C dL_law_241 rfl ?_
  refine V.topi (x1 := nI (i + 1)) (nI_add _ _) ?_
  refine V.sld (q := 243) (i := (i + 1)) C X dL_law_242 rfl rfl (by omega) (by omega) ?_
  refine V.aload_nR (q := 244) C dL_law_243 rfl rfl ?_
  refine V.iload_n (q := 245) C dL_law_244 rfl rfl ?_
  refine V.iconst (q := 246) (v := nI 2) C dL_law_245 rfl (by decide) ?_
  refine V.iadd (q := 247) C dL_law_246 rfl ?_
  refine V.topi (x1 := nI (i + 2)) (nI_add _ _) ?_
  refine V.sld (q := 248) (i := (i + 2)) C X dL_law_247 rfl rfl (by omega) (by omega) ?_
  refine V.callVxi (q := 251) C me_X10_of (m_of (q := (q, mind, cv, hu)) hW.1 hRu hH.1.1) ml_L_22 dL_law_248 rfl okM ⟨_, rfl⟩ rfl rfl (Nat.le_of_ble_eq_true rfl) (by omega) (Nat.le_refl _) (Nat.le_refl _) (fun z2 h2 => ?_)
  refine V.icmp_eq (q := 254) (tgt := 1298) C dL_law_251 rfl rfl (fun hb251 => ?_) (fun hb251 => ?_)
  · exact kx _ ⟨_, _, _, _, _, _, _, _, _, _, _, _, _, _, _, _, _, _, _, _, (hV0.scr z1.2.1 z1.2.2), rfl⟩
  · exact absurd rfl hb251
set_option maxHeartbeats 1000000 in
theorem law_2 {l : Launch} {g : GG} {b L : Nat} {xs : Nat → Int32} {Γ : Cxt} {Q : State → Prop} {i : Nat} (C : Cx Γ g code x 4 ret 30 600000 7302250) (X : LX Γ g b L xs) (hi : i + 6 ≤ L) (hL : L ≤ 3072) {PH : PHp} (hS : ST g PH) (kx : ∀ PH1 : PHp, ST g PH1 → V l Γ g 4 Q 600000 7302250 NN PH1 1298 [some (.ref b), some (rf g (0, 0, 0)), some (rf g (22, 0, 0)), some (.int (nI i))] []) : V l Γ g 4 Q 600000 7302250 NN PH 256 [some (.ref b), some (rf g (0, 0, 0)), some (rf g (22, 0, 0)), some (.int (nI i))] [] := by
  obtain ⟨h0, ct, cl, rd, B, cy, rw, tl, sp, now, mind, th, tx, q, cv, hu, tr, tp, r, t, hV0, rfl⟩ := hS
  obtain ⟨⟨a1, a2, a3, a4, a5⟩, ⟨b1, b2, b3, b4⟩, ⟨n, m, c0, c1, c2, c3, hq, hW, hH⟩, ⟨d1, d2⟩, ⟨e1, e2⟩, hsp⟩ := id hV0
  have hSH := hV0.sh hW hq
  have hRu := hV0.ru hW hq
  have hn := hW.1.2.1
  have hm := hW.1.2.2.2.1
  have hCI := hW.2.2.2.1
  have hTR := hW.2.2.2.2.1
  refine V.aload_n (q := 257) C dL_law_256 rfl rfl ?_
  refine V.aload_nR (q := 258) C dL_law_257 rfl rfl ?_
  refine V.iload_n (q := 259) C dL_law_258 rfl rfl ?_
  refine V.iconst (q := 260) (v := nI 1) C dL_law_259 rfl (by decide) ?_
  refine V.iadd (q := 261) C dL_law_260 rfl ?_
  refine V.topi (x1 := nI (i + 1)) (nI_add _ _) ?_
  refine V.sld (q := 262) (i := (i + 1)) C X dL_law_261 rfl rfl (by omega) (by omega) ?_
  refine V.aload_nR (q := 263) C dL_law_262 rfl rfl ?_
  refine V.iload_n (q := 264) C dL_law_263 rfl rfl ?_
  refine V.iconst (q := 265) (v := nI 2) C dL_law_264 rfl (by decide) ?_
  refine V.iadd (q := 266) C dL_law_265 rfl ?_
  refine V.topi (x1 := nI (i + 2)) (nI_add _ _) ?_
  refine V.sld (q := 267) (i := (i + 2)) C X dL_law_266 rfl rfl (by omega) (by omega) ?_
  refine V.callVi (q := 270) C me_X9_saying (c_saying hCI) ml_L_23 dL_law_267 rfl okC_0 ⟨_, rfl⟩ rfl rfl (Nat.le_of_ble_eq_true rfl) (by omega) (Nat.le_refl _) (Nat.le_refl _) ?_
  refine V.aload_n (q := 271) C dL_law_270 rfl rfl ?_
  refine V.aload_nR (q := 272) C dL_law_271 rfl rfl ?_
  refine V.iload_n (q := 273) C dL_law_272 rfl rfl ?_
  refine V.iconst (q := 274) (v := nI 1) C dL_law_273 rfl (by decide) ?_
  refine V.iadd (q := 275) C dL_law_274 rfl ?_
  refine V.topi (x1 := nI (i + 1)) (nI_add _ _) ?_
  refine V.sld (q := 276) (i := (i + 1)) C X dL_law_275 rfl rfl (by omega) (by omega) ?_
  refine V.aload_nR (q := 277) C dL_law_276 rfl rfl ?_
  refine V.iload_n (q := 278) C dL_law_277 rfl rfl ?_
  refine V.iconst (q := 279) (v := nI 2) C dL_law_278 rfl (by decide) ?_
  refine V.iadd (q := 280) C dL_law_279 rfl ?_
  refine V.topi (x1 := nI (i + 2)) (nI_add _ _) ?_
  refine V.sld (q := 281) (i := (i + 2)) C X dL_law_280 rfl rfl (by omega) (by omega) ?_
  refine V.callVi (q := 284) C me_X10_saying (m_saying hW.1.2.2.1 hm) ml_L_26 dL_law_281 rfl okM ⟨_, rfl⟩ rfl rfl (Nat.le_of_ble_eq_true rfl) (by omega) (Nat.le_refl _) (Nat.le_refl _) ?_
  refine V.icmp_eq (q := 287) (tgt := 1298) C dL_law_284 rfl rfl (fun hb284 => ?_) (fun hb284 => ?_)
  · exact kx _ ⟨_, _, _, _, _, _, _, _, _, _, _, _, _, _, _, _, _, _, _, _, (hV0.saying hq hW hH), rfl⟩
  · exact absurd rfl hb284
set_option maxHeartbeats 1000000 in
theorem law_3 {l : Launch} {g : GG} {b L : Nat} {xs : Nat → Int32} {Γ : Cxt} {Q : State → Prop} {i : Nat} (C : Cx Γ g code x 4 ret 30 600000 7302250) (X : LX Γ g b L xs) (hi : i + 6 ≤ L) (hL : L ≤ 3072) {PH : PHp} (hS : ST g PH) (kx : ∀ PH1 : PHp, ST g PH1 → V l Γ g 4 Q 600000 7302250 NN PH1 1298 [some (.ref b), some (rf g (0, 0, 0)), some (rf g (22, 0, 0)), some (.int (nI i))] []) : V l Γ g 4 Q 600000 7302250 NN PH 289 [some (.ref b), some (rf g (0, 0, 0)), some (rf g (22, 0, 0)), some (.int (nI i))] [] := by
  obtain ⟨h0, ct, cl, rd, B, cy, rw, tl, sp, now, mind, th, tx, q, cv, hu, tr, tp, r, t, hV0, rfl⟩ := hS
  obtain ⟨⟨a1, a2, a3, a4, a5⟩, ⟨b1, b2, b3, b4⟩, ⟨n, m, c0, c1, c2, c3, hq, hW, hH⟩, ⟨d1, d2⟩, ⟨e1, e2⟩, hsp⟩ := id hV0
  have hSH := hV0.sh hW hq
  have hRu := hV0.ru hW hq
  have hn := hW.1.2.1
  have hm := hW.1.2.2.2.1
  have hCI := hW.2.2.2.1
  have hTR := hW.2.2.2.2.1
  refine V.aload_n (q := 290) C dL_law_289 rfl rfl ?_
  refine V.aload_nR (q := 291) C dL_law_290 rfl rfl ?_
  refine V.iload_n (q := 292) C dL_law_291 rfl rfl ?_
  refine V.iconst (q := 293) (v := nI 1) C dL_law_292 rfl (by decide) ?_
  refine V.iadd (q := 294) C dL_law_293 rfl ?_
  refine V.topi (x1 := nI (i + 1)) (nI_add _ _) ?_
  refine V.sld (q := 295) (i := (i + 1)) C X dL_law_294 rfl rfl (by omega) (by omega) ?_
  refine V.aload_nR (q := 296) C dL_law_295 rfl rfl ?_
  refine V.iload_n (q := 297) C dL_law_296 rfl rfl ?_
  refine V.iconst (q := 298) (v := nI 2) C dL_law_297 rfl (by decide) ?_
  refine V.iadd (q := 299) C dL_law_298 rfl ?_
  refine V.topi (x1 := nI (i + 2)) (nI_add _ _) ?_
  refine V.sld (q := 300) (i := (i + 2)) C X dL_law_299 rfl rfl (by omega) (by omega) ?_
  refine V.callVi (q := 303) C me_X9_phrase (c_phrase hCI hTR) ml_L_27 dL_law_300 rfl okC_0 ⟨_, rfl⟩ rfl rfl (Nat.le_of_ble_eq_true rfl) (by omega) (Nat.le_refl _) (Nat.le_refl _) ?_
  refine V.aload_n (q := 304) C dL_law_303 rfl rfl ?_
  refine V.aload_nR (q := 305) C dL_law_304 rfl rfl ?_
  refine V.iload_n (q := 306) C dL_law_305 rfl rfl ?_
  refine V.iconst (q := 307) (v := nI 1) C dL_law_306 rfl (by decide) ?_
  refine V.iadd (q := 308) C dL_law_307 rfl ?_
  refine V.topi (x1 := nI (i + 1)) (nI_add _ _) ?_
  refine V.sld (q := 309) (i := (i + 1)) C X dL_law_308 rfl rfl (by omega) (by omega) ?_
  refine V.aload_nR (q := 310) C dL_law_309 rfl rfl ?_
  refine V.iload_n (q := 311) C dL_law_310 rfl rfl ?_
  refine V.iconst (q := 312) (v := nI 2) C dL_law_311 rfl (by decide) ?_
  refine V.iadd (q := 313) C dL_law_312 rfl ?_
  refine V.topi (x1 := nI (i + 2)) (nI_add _ _) ?_
  refine V.sld (q := 314) (i := (i + 2)) C X dL_law_313 rfl rfl (by omega) (by omega) ?_
  refine V.callVi (q := 317) C me_X10_phrase (m_phrase hW.1.2.2.1 hm) ml_L_30 dL_law_314 rfl okM ⟨_, rfl⟩ rfl rfl (Nat.le_of_ble_eq_true rfl) (by omega) (Nat.le_refl _) (Nat.le_refl _) ?_
  refine V.icmp_eq (q := 320) (tgt := 1298) C dL_law_317 rfl rfl (fun hb317 => ?_) (fun hb317 => ?_)
  · exact kx _ ⟨_, _, _, _, _, _, _, _, _, _, _, _, _, _, _, _, _, _, _, _, hV0, rfl⟩
  · exact absurd rfl hb317
set_option maxHeartbeats 1000000 in
theorem law_4 {l : Launch} {g : GG} {b L : Nat} {xs : Nat → Int32} {Γ : Cxt} {Q : State → Prop} {i : Nat} (C : Cx Γ g code x 4 ret 30 600000 7302250) (X : LX Γ g b L xs) (hi : i + 6 ≤ L) (hL : L ≤ 3072) {PH : PHp} (hS : ST g PH) (kx : ∀ PH1 : PHp, ST g PH1 → V l Γ g 4 Q 600000 7302250 NN PH1 1298 [some (.ref b), some (rf g (0, 0, 0)), some (rf g (22, 0, 0)), some (.int (nI i))] []) : V l Γ g 4 Q 600000 7302250 NN PH 322 [some (.ref b), some (rf g (0, 0, 0)), some (rf g (22, 0, 0)), some (.int (nI i))] [] := by
  obtain ⟨h0, ct, cl, rd, B, cy, rw, tl, sp, now, mind, th, tx, q, cv, hu, tr, tp, r, t, hV0, rfl⟩ := hS
  obtain ⟨⟨a1, a2, a3, a4, a5⟩, ⟨b1, b2, b3, b4⟩, ⟨n, m, c0, c1, c2, c3, hq, hW, hH⟩, ⟨d1, d2⟩, ⟨e1, e2⟩, hsp⟩ := id hV0
  have hSH := hV0.sh hW hq
  have hRu := hV0.ru hW hq
  have hn := hW.1.2.1
  have hm := hW.1.2.2.2.1
  have hCI := hW.2.2.2.1
  have hTR := hW.2.2.2.2.1
  refine V.aload_n (q := 323) C dL_law_322 rfl rfl ?_
  refine V.aload_nR (q := 324) C dL_law_323 rfl rfl ?_
  refine V.iload_n (q := 325) C dL_law_324 rfl rfl ?_
  refine V.iconst (q := 326) (v := nI 1) C dL_law_325 rfl (by decide) ?_
  refine V.iadd (q := 327) C dL_law_326 rfl ?_
  refine V.topi (x1 := nI (i + 1)) (nI_add _ _) ?_
  refine V.sld (q := 328) (i := (i + 1)) C X dL_law_327 rfl rfl (by omega) (by omega) ?_
  refine V.aload_nR (q := 329) C dL_law_328 rfl rfl ?_
  refine V.iload_n (q := 330) C dL_law_329 rfl rfl ?_
  refine V.iconst (q := 331) (v := nI 2) C dL_law_330 rfl (by decide) ?_
  refine V.iadd (q := 332) C dL_law_331 rfl ?_
  refine V.topi (x1 := nI (i + 2)) (nI_add _ _) ?_
  refine V.sld (q := 333) (i := (i + 2)) C X dL_law_332 rfl rfl (by omega) (by omega) ?_
  refine V.callVi (q := 336) C me_X9_aim (c_aim hCI hTR) ml_L_31 dL_law_333 rfl okC_0 ⟨_, rfl⟩ rfl rfl (Nat.le_of_ble_eq_true rfl) (by omega) (Nat.le_refl _) (Nat.le_refl _) ?_
  refine V.aload_n (q := 337) C dL_law_336 rfl rfl ?_
  refine V.aload_nR (q := 338) C dL_law_337 rfl rfl ?_
  refine V.iload_n (q := 339) C dL_law_338 rfl rfl ?_
  refine V.iconst (q := 340) (v := nI 1) C dL_law_339 rfl (by decide) ?_
  refine V.iadd (q := 341) C dL_law_340 rfl ?_
  refine V.topi (x1 := nI (i + 1)) (nI_add _ _) ?_
  refine V.sld (q := 342) (i := (i + 1)) C X dL_law_341 rfl rfl (by omega) (by omega) ?_
  refine V.aload_nR (q := 343) C dL_law_342 rfl rfl ?_
  refine V.iload_n (q := 344) C dL_law_343 rfl rfl ?_
  refine V.iconst (q := 345) (v := nI 2) C dL_law_344 rfl (by decide) ?_
  refine V.iadd (q := 346) C dL_law_345 rfl ?_
  refine V.topi (x1 := nI (i + 2)) (nI_add _ _) ?_
  refine V.sld (q := 347) (i := (i + 2)) C X dL_law_346 rfl rfl (by omega) (by omega) ?_
  refine V.callVi (q := 350) C me_X10_aim (m_aim hW.1.1 hn hW.1.2.2.1 hm) ml_L_34 dL_law_347 rfl okM ⟨_, rfl⟩ rfl rfl (Nat.le_of_ble_eq_true rfl) (by omega) (Nat.le_refl _) (Nat.le_refl _) ?_
  refine V.icmp_eq (q := 353) (tgt := 1298) C dL_law_350 rfl rfl (fun hb350 => ?_) (fun hb350 => ?_)
  · exact kx _ ⟨_, _, _, _, _, _, _, _, _, _, _, _, _, _, _, _, _, _, _, _, (hV0.aim hq hW hH), rfl⟩
  · exact absurd rfl hb350
set_option maxHeartbeats 1000000 in
theorem law_5 {l : Launch} {g : GG} {b L : Nat} {xs : Nat → Int32} {Γ : Cxt} {Q : State → Prop} {i : Nat} (C : Cx Γ g code x 4 ret 30 600000 7302250) (X : LX Γ g b L xs) (hi : i + 6 ≤ L) (hL : L ≤ 3072) {PH : PHp} (hS : ST g PH) (kx : ∀ PH1 : PHp, ST g PH1 → V l Γ g 4 Q 600000 7302250 NN PH1 1298 [some (.ref b), some (rf g (0, 0, 0)), some (rf g (22, 0, 0)), some (.int (nI i))] []) : V l Γ g 4 Q 600000 7302250 NN PH 355 [some (.ref b), some (rf g (0, 0, 0)), some (rf g (22, 0, 0)), some (.int (nI i))] [] := by
  obtain ⟨h0, ct, cl, rd, B, cy, rw, tl, sp, now, mind, th, tx, q, cv, hu, tr, tp, r, t, hV0, rfl⟩ := hS
  obtain ⟨⟨a1, a2, a3, a4, a5⟩, ⟨b1, b2, b3, b4⟩, ⟨n, m, c0, c1, c2, c3, hq, hW, hH⟩, ⟨d1, d2⟩, ⟨e1, e2⟩, hsp⟩ := id hV0
  have hSH := hV0.sh hW hq
  have hRu := hV0.ru hW hq
  have hn := hW.1.2.1
  have hm := hW.1.2.2.2.1
  have hCI := hW.2.2.2.1
  have hTR := hW.2.2.2.2.1
  refine V.aload_n (q := 356) C dL_law_355 rfl rfl ?_
  refine V.aload_nR (q := 357) C dL_law_356 rfl rfl ?_
  refine V.iload_n (q := 358) C dL_law_357 rfl rfl ?_
  refine V.iconst (q := 359) (v := nI 1) C dL_law_358 rfl (by decide) ?_
  refine V.iadd (q := 360) C dL_law_359 rfl ?_
  refine V.topi (x1 := nI (i + 1)) (nI_add _ _) ?_
  refine V.sld (q := 361) (i := (i + 1)) C X dL_law_360 rfl rfl (by omega) (by omega) ?_
  refine V.aload_nR (q := 362) C dL_law_361 rfl rfl ?_
  refine V.iload_n (q := 363) C dL_law_362 rfl rfl ?_
  refine V.iconst (q := 364) (v := nI 2) C dL_law_363 rfl (by decide) ?_
  refine V.iadd (q := 365) C dL_law_364 rfl ?_
  refine V.topi (x1 := nI (i + 2)) (nI_add _ _) ?_
  refine V.sld (q := 366) (i := (i + 2)) C X dL_law_365 rfl rfl (by omega) (by omega) ?_
  refine V.callVi (q := 369) C me_X9_mend (c_mend hCI hTR) ml_L_35 dL_law_366 rfl okC_0 ⟨_, rfl⟩ rfl rfl (Nat.le_of_ble_eq_true rfl) (by omega) (Nat.le_refl _) (Nat.le_refl _) ?_
  refine V.aload_n (q := 370) C dL_law_369 rfl rfl ?_
  refine V.aload_nR (q := 371) C dL_law_370 rfl rfl ?_
  refine V.iload_n (q := 372) C dL_law_371 rfl rfl ?_
  refine V.iconst (q := 373) (v := nI 1) C dL_law_372 rfl (by decide) ?_
  refine V.iadd (q := 374) C dL_law_373 rfl ?_
  refine V.topi (x1 := nI (i + 1)) (nI_add _ _) ?_
  refine V.sld (q := 375) (i := (i + 1)) C X dL_law_374 rfl rfl (by omega) (by omega) ?_
  refine V.aload_nR (q := 376) C dL_law_375 rfl rfl ?_
  refine V.iload_n (q := 377) C dL_law_376 rfl rfl ?_
  refine V.iconst (q := 378) (v := nI 2) C dL_law_377 rfl (by decide) ?_
  refine V.iadd (q := 379) C dL_law_378 rfl ?_
  refine V.topi (x1 := nI (i + 2)) (nI_add _ _) ?_
  refine V.sld (q := 380) (i := (i + 2)) C X dL_law_379 rfl rfl (by omega) (by omega) ?_
  refine V.callVi (q := 383) C me_X10_mend (m_mend hW.1.1 hn) ml_L_38 dL_law_380 rfl okM ⟨_, rfl⟩ rfl rfl (Nat.le_of_ble_eq_true rfl) (by omega) (Nat.le_refl _) (Nat.le_refl _) ?_
  refine V.icmp_eq (q := 386) (tgt := 1298) C dL_law_383 rfl rfl (fun hb383 => ?_) (fun hb383 => ?_)
  · exact kx _ ⟨_, _, _, _, _, _, _, _, _, _, _, _, _, _, _, _, _, _, _, _, (hV0.mend hq hW hH), rfl⟩
  · exact absurd rfl hb383
set_option maxHeartbeats 1000000 in
theorem law_6 {l : Launch} {g : GG} {b L : Nat} {xs : Nat → Int32} {Γ : Cxt} {Q : State → Prop} {i : Nat} (C : Cx Γ g code x 4 ret 30 600000 7302250) (X : LX Γ g b L xs) (hi : i + 6 ≤ L) (hL : L ≤ 3072) {PH : PHp} (hS : ST g PH) (kx : ∀ PH1 : PHp, ST g PH1 → V l Γ g 4 Q 600000 7302250 NN PH1 1298 [some (.ref b), some (rf g (0, 0, 0)), some (rf g (22, 0, 0)), some (.int (nI i))] []) : V l Γ g 4 Q 600000 7302250 NN PH 388 [some (.ref b), some (rf g (0, 0, 0)), some (rf g (22, 0, 0)), some (.int (nI i))] [] := by
  obtain ⟨h0, ct, cl, rd, B, cy, rw, tl, sp, now, mind, th, tx, q, cv, hu, tr, tp, r, t, hV0, rfl⟩ := hS
  obtain ⟨⟨a1, a2, a3, a4, a5⟩, ⟨b1, b2, b3, b4⟩, ⟨n, m, c0, c1, c2, c3, hq, hW, hH⟩, ⟨d1, d2⟩, ⟨e1, e2⟩, hsp⟩ := id hV0
  have hSH := hV0.sh hW hq
  have hRu := hV0.ru hW hq
  have hn := hW.1.2.1
  have hm := hW.1.2.2.2.1
  have hCI := hW.2.2.2.1
  have hTR := hW.2.2.2.2.1
  refine V.aload_n (q := 389) C dL_law_388 rfl rfl ?_
  refine V.aload_nR (q := 390) C dL_law_389 rfl rfl ?_
  refine V.iload_n (q := 391) C dL_law_390 rfl rfl ?_
  refine V.iconst (q := 392) (v := nI 1) C dL_law_391 rfl (by decide) ?_
  refine V.iadd (q := 393) C dL_law_392 rfl ?_
  refine V.topi (x1 := nI (i + 1)) (nI_add _ _) ?_
  refine V.sld (q := 394) (i := (i + 1)) C X dL_law_393 rfl rfl (by omega) (by omega) ?_
  refine V.aload_nR (q := 395) C dL_law_394 rfl rfl ?_
  refine V.iload_n (q := 396) C dL_law_395 rfl rfl ?_
  refine V.iconst (q := 397) (v := nI 2) C dL_law_396 rfl (by decide) ?_
  refine V.iadd (q := 398) C dL_law_397 rfl ?_
  refine V.topi (x1 := nI (i + 2)) (nI_add _ _) ?_
  refine V.sld (q := 399) (i := (i + 2)) C X dL_law_398 rfl rfl (by omega) (by omega) ?_
  refine V.aload_nR (q := 400) C dL_law_399 rfl rfl ?_
  refine V.iload_n (q := 401) C dL_law_400 rfl rfl ?_
  refine V.iconst (q := 402) (v := nI 3) C dL_law_401 rfl (by decide) ?_
  refine V.iadd (q := 403) C dL_law_402 rfl ?_
  refine V.topi (x1 := nI (i + 3)) (nI_add _ _) ?_
  refine V.sld (q := 404) (i := (i + 3)) C X dL_law_403 rfl rfl (by omega) (by omega) ?_
  refine V.callVi (q := 407) C me_X9_row (c_row hCI hTR) ml_L_39 dL_law_404 rfl okC_0 ⟨_, rfl⟩ rfl rfl (Nat.le_of_ble_eq_true rfl) (by omega) (Nat.le_refl _) (Nat.le_refl _) ?_
  refine V.aload_n (q := 408) C dL_law_407 rfl rfl ?_
  refine V.aload_nR (q := 409) C dL_law_408 rfl rfl ?_
  refine V.iload_n (q := 410) C dL_law_409 rfl rfl ?_
  refine V.iconst (q := 411) (v := nI 1) C dL_law_410 rfl (by decide) ?_
  refine V.iadd (q := 412) C dL_law_411 rfl ?_
  refine V.topi (x1 := nI (i + 1)) (nI_add _ _) ?_
  refine V.sld (q := 413) (i := (i + 1)) C X dL_law_412 rfl rfl (by omega) (by omega) ?_
  refine V.aload_nR (q := 414) C dL_law_413 rfl rfl ?_
  refine V.iload_n (q := 415) C dL_law_414 rfl rfl ?_
  refine V.iconst (q := 416) (v := nI 2) C dL_law_415 rfl (by decide) ?_
  refine V.iadd (q := 417) C dL_law_416 rfl ?_
  refine V.topi (x1 := nI (i + 2)) (nI_add _ _) ?_
  refine V.sld (q := 418) (i := (i + 2)) C X dL_law_417 rfl rfl (by omega) (by omega) ?_
  refine V.aload_nR (q := 419) C dL_law_418 rfl rfl ?_
  refine V.iload_n (q := 420) C dL_law_419 rfl rfl ?_
  refine V.iconst (q := 421) (v := nI 3) C dL_law_420 rfl (by decide) ?_
  refine V.iadd (q := 422) C dL_law_421 rfl ?_
  refine V.topi (x1 := nI (i + 3)) (nI_add _ _) ?_
  refine V.sld (q := 423) (i := (i + 3)) C X dL_law_422 rfl rfl (by omega) (by omega) ?_
  refine V.callVi (q := 426) C me_X10_row (m_row hW.1.1 hn) ml_L_42 dL_law_423 rfl okM ⟨_, rfl⟩ rfl rfl (Nat.le_of_ble_eq_true rfl) (by omega) (Nat.le_refl _) (Nat.le_refl _) ?_
  refine V.icmp_eq (q := 429) (tgt := 1298) C dL_law_426 rfl rfl (fun hb426 => ?_) (fun hb426 => ?_)
  · exact kx _ ⟨_, _, _, _, _, _, _, _, _, _, _, _, _, _, _, _, _, _, _, _, (hV0.row hq hW hH), rfl⟩
  · exact absurd rfl hb426
set_option maxHeartbeats 1000000 in
theorem law_7 {l : Launch} {g : GG} {b L : Nat} {xs : Nat → Int32} {Γ : Cxt} {Q : State → Prop} {i : Nat} (C : Cx Γ g code x 4 ret 30 600000 7302250) (X : LX Γ g b L xs) (hi : i + 6 ≤ L) (hL : L ≤ 3072) {PH : PHp} (hS : ST g PH) (kx : ∀ PH1 : PHp, ST g PH1 → V l Γ g 4 Q 600000 7302250 NN PH1 1298 [some (.ref b), some (rf g (0, 0, 0)), some (rf g (22, 0, 0)), some (.int (nI i))] []) : V l Γ g 4 Q 600000 7302250 NN PH 431 [some (.ref b), some (rf g (0, 0, 0)), some (rf g (22, 0, 0)), some (.int (nI i))] [] := by
  obtain ⟨h0, ct, cl, rd, B, cy, rw, tl, sp, now, mind, th, tx, q, cv, hu, tr, tp, r, t, hV0, rfl⟩ := hS
  obtain ⟨T, Lz, p9⟩ := rd
  obtain ⟨text, Lw, rules, sizes, ruled⟩ := tx
  obtain rfl : Lz = nI t := hV0.2.1.1
  obtain rfl : Lw = nI t := hV0.2.1.2.1
  obtain ⟨⟨a1, a2, a3, a4, a5⟩, ⟨b1, b2, b3, b4⟩, ⟨n, m, c0, c1, c2, c3, hq, hW, hH⟩, ⟨d1, d2⟩, ⟨e1, e2⟩, hsp⟩ := id hV0
  have hSH := hV0.sh hW hq
  have hRu := hV0.ru hW hq
  have hn := hW.1.2.1
  have hm := hW.1.2.2.2.1
  have hCI := hW.2.2.2.1
  have hTR := hW.2.2.2.2.1
  refine V.aload_n (q := 432) C dL_law_431 rfl rfl ?_
  refine V.aload_nR (q := 433) C dL_law_432 rfl rfl ?_
  refine V.iload_n (q := 434) C dL_law_433 rfl rfl ?_
  refine V.iconst (q := 435) (v := nI 1) C dL_law_434 rfl (by decide) ?_
  refine V.iadd (q := 436) C dL_law_435 rfl ?_
  refine V.topi (x1 := nI (i + 1)) (nI_add _ _) ?_
  refine V.sld (q := 437) (i := (i + 1)) C X dL_law_436 rfl rfl (by omega) (by omega) ?_
  refine V.callVi (q := 440) C me_X9_feed (c_feed a2) ml_L_43 dL_law_437 rfl okC_0 ⟨_, rfl⟩ rfl rfl (Nat.le_of_ble_eq_true rfl) (by omega) (Nat.le_refl _) (Nat.le_refl _) ?_
  refine V.aload_n (q := 441) C dL_law_440 rfl rfl ?_
  refine V.aload_nR (q := 442) C dL_law_441 rfl rfl ?_
  refine V.iload_n (q := 443) C dL_law_442 rfl rfl ?_
  refine V.iconst (q := 444) (v := nI 1) C dL_law_443 rfl (by decide) ?_
  refine V.iadd (q := 445) C dL_law_444 rfl ?_
  refine V.topi (x1 := nI (i + 1)) (nI_add _ _) ?_
  refine V.sld (q := 446) (i := (i + 1)) C X dL_law_445 rfl rfl (by omega) (by omega) ?_
  refine V.callVi (q := 449) C me_X10_feed (m_feed a2) ml_L_47 dL_law_446 rfl okM ⟨_, rfl⟩ rfl rfl (Nat.le_of_ble_eq_true rfl) (by omega) (Nat.le_refl _) (Nat.le_refl _) ?_
  refine V.icmp_eq (q := 452) (tgt := 1298) C dL_law_449 rfl rfl (fun hb449 => ?_) (fun hb449 => ?_)
  · exact kx _ ⟨_, _, _, _, _, _, _, _, _, _, _, _, _, _, _, _, _, _, _, _, (INV.feed hV0), rfl⟩
  · exact absurd rfl hb449
set_option maxHeartbeats 1000000 in
theorem law_8 {l : Launch} {g : GG} {b L : Nat} {xs : Nat → Int32} {Γ : Cxt} {Q : State → Prop} {i : Nat} (C : Cx Γ g code x 4 ret 30 600000 7302250) (X : LX Γ g b L xs) (hi : i + 6 ≤ L) (hL : L ≤ 3072) {PH : PHp} (hS : ST g PH) (kx : ∀ PH1 : PHp, ST g PH1 → V l Γ g 4 Q 600000 7302250 NN PH1 1298 [some (.ref b), some (rf g (0, 0, 0)), some (rf g (22, 0, 0)), some (.int (nI i))] []) : V l Γ g 4 Q 600000 7302250 NN PH 454 [some (.ref b), some (rf g (0, 0, 0)), some (rf g (22, 0, 0)), some (.int (nI i))] [] := by
  obtain ⟨h0, ct, cl, rd, B, cy, rw, tl, sp, now, mind, th, tx, q, cv, hu, tr, tp, r, t, hV0, rfl⟩ := hS
  obtain ⟨T, Lz, p9⟩ := rd
  obtain ⟨text, Lw, rules, sizes, ruled⟩ := tx
  obtain ⟨k9, h9⟩ := h0
  obtain rfl : Lz = nI t := hV0.2.1.1
  obtain rfl : Lw = nI t := hV0.2.1.2.1
  obtain rfl : k9 = nI r := hV0.1.2.2.1
  obtain rfl : ruled = nI r := hV0.1.2.2.2.1
  obtain rfl : T = text := hV0.2.1.2.2.1
  obtain ⟨T0, x0, x1, x2, d9, S9, R9, N9⟩ := q
  obtain ⟨⟨a1, a2, a3, a4, a5⟩, ⟨b1, b2, b3, b4⟩, ⟨n, m, c0, c1, c2, c3, hq, hW, hH⟩, ⟨d1, d2⟩, ⟨e1, e2⟩, hsp⟩ := id hV0
  have hSH := hV0.sh hW hq
  have hRu := hV0.ru hW hq
  have hn := hW.1.2.1
  have hm := hW.1.2.2.2.1
  have hCI := hW.2.2.2.1
  have hTR := hW.2.2.2.2.1
  refine V.aload_n (q := 455) C dL_law_454 rfl rfl ?_
  refine V.callVxi (q := 458) C me_X9_city (c_city a1 a2 b4) ml_L_48 dL_law_455 rfl okC_0 ⟨_, rfl⟩ rfl rfl (Nat.le_of_ble_eq_true rfl) (by omega) (Nat.le_refl _) (Nat.le_refl _) (fun z1 h1 => ?_)
  refine V.aload_n (q := 459) C dL_law_458 rfl rfl ?_
  refine V.callVxi (q := 462) C me_X10_city (m_city a2 a1) ml_L_52 dL_law_459 rfl okM ⟨_, rfl⟩ rfl rfl (Nat.le_of_ble_eq_true rfl) (by omega) (Nat.le_refl _) (Nat.le_refl _) (fun z2 h2 => ?_)
  refine V.icmp_eq (q := 465) (tgt := 1298) C dL_law_462 rfl rfl (fun hb462 => ?_) (fun hb462 => ?_)
  · obtain ⟨rz, tz, hINV⟩ := INV.city (p8 := z1.2) (z := z1.1) hV0 h1
    exact kx _ ⟨_, _, _, _, _, _, _, _, _, _, _, _, _, _, _, _, _, _, _, _, hINV, rfl⟩
  · exact absurd rfl hb462
