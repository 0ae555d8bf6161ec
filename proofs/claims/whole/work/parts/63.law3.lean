set_option maxHeartbeats 1000000 in
theorem law_25 {l : Launch} {g : GG} {b L : Nat} {xs : Nat → Int32} {Γ : Cxt} {Q : State → Prop} {i : Nat} (C : Cx Γ g code x 4 ret 30 600000 7302250) (X : LX Γ g b L xs) (hi : i + 6 ≤ L) (hL : L ≤ 3072) {PH : PHp} (hS : ST g PH) (kx : ∀ PH1 : PHp, ST g PH1 → V l Γ g 4 Q 600000 7302250 NN PH1 1298 [some (.ref b), some (rf g (0, 0, 0)), some (rf g (22, 0, 0)), some (.int (nI i))] []) : V l Γ g 4 Q 600000 7302250 NN PH 963 [some (.ref b), some (rf g (0, 0, 0)), some (rf g (22, 0, 0)), some (.int (nI i))] [] := by
  obtain ⟨h0, ct, cl, rd, B, cy, rw, tl, sp, now, mind, th, tx, q, cv, hu, tr, tp, r, t, hV0, rfl⟩ := hS
  obtain ⟨⟨a1, a2, a3, a4, a5⟩, ⟨b1, b2, b3, b4⟩, ⟨n, m, c0, c1, c2, c3, hq, hW, hH⟩, ⟨d1, d2⟩, ⟨e1, e2⟩, hsp⟩ := id hV0
  have hSH := hV0.sh hW hq
  have hRu := hV0.ru hW hq
  have hn := hW.1.2.1
  have hm := hW.1.2.2.2.1
  have hCI := hW.2.2.2.1
  have hTR := hW.2.2.2.2.1
  obtain rfl := e1
  refine V.aload_n (q := 964) C dL_law_963 rfl rfl ?_
  refine V.aload_nR (q := 965) C dL_law_964 rfl rfl ?_
  refine V.iload_n (q := 966) C dL_law_965 rfl rfl ?_
  refine V.iconst (q := 967) (v := nI 1) C dL_law_966 rfl (by decide) ?_
  refine V.iadd (q := 968) C dL_law_967 rfl ?_
  refine V.topi (x1 := nI (i + 1)) (nI_add _ _) ?_
  refine V.sld (q := 969) (i := (i + 1)) C X dL_law_968 rfl rfl (by omega) (by omega) ?_
  refine V.aload_nR (q := 970) C dL_law_969 rfl rfl ?_
  refine V.iload_n (q := 971) C dL_law_970 rfl rfl ?_
  refine V.iconst (q := 972) (v := nI 2) C dL_law_971 rfl (by decide) ?_
  refine V.iadd (q := 973) C dL_law_972 rfl ?_
  refine V.topi (x1 := nI (i + 2)) (nI_add _ _) ?_
  refine V.sld (q := 974) (i := (i + 2)) C X dL_law_973 rfl rfl (by omega) (by omega) ?_
  refine V.aload_nR (q := 975) C dL_law_974 rfl rfl ?_
  refine V.iload_n (q := 976) C dL_law_975 rfl rfl ?_
  refine V.iconst (q := 977) (v := nI 3) C dL_law_976 rfl (by decide) ?_
  refine V.iadd (q := 978) C dL_law_977 rfl ?_
  refine V.topi (x1 := nI (i + 3)) (nI_add _ _) ?_
  refine V.sld (q := 979) (i := (i + 3)) C X dL_law_978 rfl rfl (by omega) (by omega) ?_
  refine V.callVi (q := 982) C me_X9_act (c_act hCI hTR (fun i hi => (hW.2.2.2.2.2 i hi).2.1)) ml_L_120 dL_law_979 rfl okC_0 ⟨_, rfl⟩ rfl rfl (Nat.le_of_ble_eq_true rfl) (by omega) (Nat.le_refl _) (Nat.le_refl _) ?_
  refine V.aload_n (q := 983) C dL_law_982 rfl rfl ?_
  refine V.aload_nR (q := 984) C dL_law_983 rfl rfl ?_
  refine V.iload_n (q := 985) C dL_law_984 rfl rfl ?_
  refine V.iconst (q := 986) (v := nI 1) C dL_law_985 rfl (by decide) ?_
  refine V.iadd (q := 987) C dL_law_986 rfl ?_
  refine V.topi (x1 := nI (i + 1)) (nI_add _ _) ?_
  refine V.sld (q := 988) (i := (i + 1)) C X dL_law_987 rfl rfl (by omega) (by omega) ?_
  refine V.aload_nR (q := 989) C dL_law_988 rfl rfl ?_
  refine V.iload_n (q := 990) C dL_law_989 rfl rfl ?_
  refine V.iconst (q := 991) (v := nI 2) C dL_law_990 rfl (by decide) ?_
  refine V.iadd (q := 992) C dL_law_991 rfl ?_
  refine V.topi (x1 := nI (i + 2)) (nI_add _ _) ?_
  refine V.sld (q := 993) (i := (i + 2)) C X dL_law_992 rfl rfl (by omega) (by omega) ?_
  refine V.aload_nR (q := 994) C dL_law_993 rfl rfl ?_
  refine V.iload_n (q := 995) C dL_law_994 rfl rfl ?_
  refine V.iconst (q := 996) (v := nI 3) C dL_law_995 rfl (by decide) ?_
  refine V.iadd (q := 997) C dL_law_996 rfl ?_
  refine V.topi (x1 := nI (i + 3)) (nI_add _ _) ?_
  refine V.sld (q := 998) (i := (i + 3)) C X dL_law_997 rfl rfl (by omega) (by omega) ?_
  refine V.callVi (q := 1001) C me_X10_act (m_act hW.1.1 hn (fun i hi => (hW.2.2.2.2.2 i hi).2.1)) ml_L_123 dL_law_998 rfl okM ⟨_, rfl⟩ rfl rfl (Nat.le_of_ble_eq_true rfl) (by omega) (Nat.le_refl _) (Nat.le_refl _) ?_
  refine V.icmp_eq (q := 1004) (tgt := 1298) C dL_law_1001 rfl rfl (fun hb1001 => ?_) (fun hb1001 => ?_)
  · exact kx _ ⟨_, _, _, _, _, _, _, _, _, _, _, _, _, _, _, _, _, _, _, _, hV0.act, rfl⟩
  · exact absurd rfl hb1001
set_option maxHeartbeats 1000000 in
theorem law_26 {l : Launch} {g : GG} {b L : Nat} {xs : Nat → Int32} {Γ : Cxt} {Q : State → Prop} {i : Nat} (C : Cx Γ g code x 4 ret 30 600000 7302250) (X : LX Γ g b L xs) (hi : i + 6 ≤ L) (hL : L ≤ 3072) {PH : PHp} (hS : ST g PH) (kx : ∀ PH1 : PHp, ST g PH1 → V l Γ g 4 Q 600000 7302250 NN PH1 1298 [some (.ref b), some (rf g (0, 0, 0)), some (rf g (22, 0, 0)), some (.int (nI i))] []) : V l Γ g 4 Q 600000 7302250 NN PH 1006 [some (.ref b), some (rf g (0, 0, 0)), some (rf g (22, 0, 0)), some (.int (nI i))] [] := by
  obtain ⟨h0, ct, cl, rd, B, cy, rw, tl, sp, now, mind, th, tx, q, cv, hu, tr, tp, r, t, hV0, rfl⟩ := hS
  obtain ⟨f9, w9⟩ := tl
  obtain ⟨k9, hk9, ek9⟩ := hV0.2.2.2.2.1.2
  obtain rfl : (f9, w9) = tr := hV0.2.2.2.2.1.1
  obtain rfl : w9 = nI k9 := ek9
  obtain ⟨⟨a1, a2, a3, a4, a5⟩, ⟨b1, b2, b3, b4⟩, ⟨n, m, c0, c1, c2, c3, hq, hW, hH⟩, ⟨d1, d2⟩, ⟨e1, e2⟩, hsp⟩ := id hV0
  have hSH := hV0.sh hW hq
  have hRu := hV0.ru hW hq
  have hn := hW.1.2.1
  have hm := hW.1.2.2.2.1
  have hCI := hW.2.2.2.1
  have hTR := hW.2.2.2.2.1
  refine V.aload_n (q := 1007) C dL_law_1006 rfl rfl ?_
  refine V.aload_nR (q := 1008) C dL_law_1007 rfl rfl ?_
  refine V.iload_n (q := 1009) C dL_law_1008 rfl rfl ?_
  refine V.iconst (q := 1010) (v := nI 1) C dL_law_1009 rfl (by decide) ?_
  refine V.iadd (q := 1011) C dL_law_1010 rfl ?_
  refine V.topi (x1 := nI (i + 1)) (nI_add _ _) ?_
  refine V.sld (q := 1012) (i := (i + 1)) C X dL_law_1011 rfl rfl (by omega) (by omega) ?_
  refine V.callVi (q := 1015) C me_X9_trace (c_trace hk9) ml_L_124 dL_law_1012 rfl okC_0 ⟨_, rfl⟩ rfl rfl (Nat.le_of_ble_eq_true rfl) (by omega) (Nat.le_refl _) (Nat.le_refl _) ?_
  refine V.aload_n (q := 1016) C dL_law_1015 rfl rfl ?_
  refine V.aload_nR (q := 1017) C dL_law_1016 rfl rfl ?_
  refine V.iload_n (q := 1018) C dL_law_1017 rfl rfl ?_
  refine V.iconst (q := 1019) (v := nI 1) C dL_law_1018 rfl (by decide) ?_
  refine V.iadd (q := 1020) C dL_law_1019 rfl ?_
  refine V.topi (x1 := nI (i + 1)) (nI_add _ _) ?_
  refine V.sld (q := 1021) (i := (i + 1)) C X dL_law_1020 rfl rfl (by omega) (by omega) ?_
  refine V.callVi (q := 1024) C me_X10_trace (m_trace rfl hk9) ml_L_127 dL_law_1021 rfl okM ⟨_, rfl⟩ rfl rfl (Nat.le_of_ble_eq_true rfl) (by omega) (Nat.le_refl _) (Nat.le_refl _) ?_
  refine V.icmp_eq (q := 1027) (tgt := 1298) C dL_law_1024 rfl rfl (fun hb1024 => ?_) (fun hb1024 => ?_)
  · exact kx _ ⟨_, _, _, _, _, _, _, _, _, _, _, _, _, _, _, _, _, _, _, _, hV0, rfl⟩
  · exact absurd rfl hb1024
set_option maxHeartbeats 1000000 in
theorem law_27 {l : Launch} {g : GG} {b L : Nat} {xs : Nat → Int32} {Γ : Cxt} {Q : State → Prop} {i : Nat} (C : Cx Γ g code x 4 ret 30 600000 7302250) (X : LX Γ g b L xs) (hi : i + 6 ≤ L) (hL : L ≤ 3072) {PH : PHp} (hS : ST g PH) (kx : ∀ PH1 : PHp, ST g PH1 → V l Γ g 4 Q 600000 7302250 NN PH1 1298 [some (.ref b), some (rf g (0, 0, 0)), some (rf g (22, 0, 0)), some (.int (nI i))] []) : V l Γ g 4 Q 600000 7302250 NN PH 1029 [some (.ref b), some (rf g (0, 0, 0)), some (rf g (22, 0, 0)), some (.int (nI i))] [] := by
  obtain ⟨h0, ct, cl, rd, B, cy, rw, tl, sp, now, mind, th, tx, q, cv, hu, tr, tp, r, t, hV0, rfl⟩ := hS
  obtain ⟨⟨a1, a2, a3, a4, a5⟩, ⟨b1, b2, b3, b4⟩, ⟨n, m, c0, c1, c2, c3, hq, hW, hH⟩, ⟨d1, d2⟩, ⟨e1, e2⟩, hsp⟩ := id hV0
  have hSH := hV0.sh hW hq
  have hRu := hV0.ru hW hq
  have hn := hW.1.2.1
  have hm := hW.1.2.2.2.1
  have hCI := hW.2.2.2.1
  have hTR := hW.2.2.2.2.1
  refine V.aload_n (q := 1030) C dL_law_1029 rfl rfl ?_
  refine V.aload_nR (q := 1031) C dL_law_1030 rfl rfl ?_
  refine V.iload_n (q := 1032) C dL_law_1031 rfl rfl ?_
  refine V.iconst (q := 1033) (v := nI 1) C dL_law_1032 rfl (by decide) ?_
  refine V.iadd (q := 1034) C dL_law_1033 rfl ?_
  refine V.topi (x1 := nI (i + 1)) (nI_add _ _) ?_
  refine V.sld (q := 1035) (i := (i + 1)) C X dL_law_1034 rfl rfl (by omega) (by omega) ?_
  refine V.aload_nR (q := 1036) C dL_law_1035 rfl rfl ?_
  refine V.iload_n (q := 1037) C dL_law_1036 rfl rfl ?_
  refine V.iconst (q := 1038) (v := nI 2) C dL_law_1037 rfl (by decide) ?_
  refine V.iadd (q := 1039) C dL_law_1038 rfl ?_
  refine V.topi (x1 := nI (i + 2)) (nI_add _ _) ?_
  refine V.sld (q := 1040) (i := (i + 2)) C X dL_law_1039 rfl rfl (by omega) (by omega) ?_
  refine V.callVi (q := 1043) C me_X9_taken (c_taken hCI hTR) ml_L_128 dL_law_1040 rfl okC_0 ⟨_, rfl⟩ rfl rfl (Nat.le_of_ble_eq_true rfl) (by omega) (Nat.le_refl _) (Nat.le_refl _) ?_
  refine V.aload_n (q := 1044) C dL_law_1043 rfl rfl ?_
  refine V.aload_nR (q := 1045) C dL_law_1044 rfl rfl ?_
  refine V.iload_n (q := 1046) C dL_law_1045 rfl rfl ?_
  refine V.iconst (q := 1047) (v := nI 1) C dL_law_1046 rfl (by decide) ?_
  refine V.iadd (q := 1048) C dL_law_1047 rfl ?_
  refine V.topi (x1 := nI (i + 1)) (nI_add _ _) ?_
  refine V.sld (q := 1049) (i := (i + 1)) C X dL_law_1048 rfl rfl (by omega) (by omega) ?_
  refine V.aload_nR (q := 1050) C dL_law_1049 rfl rfl ?_
  refine V.iload_n (q := 1051) C dL_law_1050 rfl rfl ?_
  refine V.iconst (q := 1052) (v := nI 2) C dL_law_1051 rfl (by decide) ?_
  refine V.iadd (q := 1053) C dL_law_1052 rfl ?_
  refine V.topi (x1 := nI (i + 2)) (nI_add _ _) ?_
  refine V.sld (q := 1054) (i := (i + 2)) C X dL_law_1053 rfl rfl (by omega) (by omega) ?_
  refine V.callVi (q := 1057) C me_X10_taken (m_taken hW.1.1 hn (fun i hi => (hW.2.2.2.2.2 i hi).2.1)) ml_L_131 dL_law_1054 rfl okM ⟨_, rfl⟩ rfl rfl (Nat.le_of_ble_eq_true rfl) (by omega) (Nat.le_refl _) (Nat.le_refl _) ?_
  refine V.icmp_eq (q := 1060) (tgt := 1298) C dL_law_1057 rfl rfl (fun hb1057 => ?_) (fun hb1057 => ?_)
  · exact kx _ ⟨_, _, _, _, _, _, _, _, _, _, _, _, _, _, _, _, _, _, _, _, hV0, rfl⟩
  · exact absurd rfl hb1057
set_option maxHeartbeats 1000000 in
theorem law_28 {l : Launch} {g : GG} {b L : Nat} {xs : Nat → Int32} {Γ : Cxt} {Q : State → Prop} {i : Nat} (C : Cx Γ g code x 4 ret 30 600000 7302250) (X : LX Γ g b L xs) (hi : i + 6 ≤ L) (hL : L ≤ 3072) {PH : PHp} (hS : ST g PH) (kx : ∀ PH1 : PHp, ST g PH1 → V l Γ g 4 Q 600000 7302250 NN PH1 1298 [some (.ref b), some (rf g (0, 0, 0)), some (rf g (22, 0, 0)), some (.int (nI i))] []) : V l Γ g 4 Q 600000 7302250 NN PH 1062 [some (.ref b), some (rf g (0, 0, 0)), some (rf g (22, 0, 0)), some (.int (nI i))] [] := by
  obtain ⟨h0, ct, cl, rd, B, cy, rw, tl, sp, now, mind, th, tx, q, cv, hu, tr, tp, r, t, hV0, rfl⟩ := hS
  obtain ⟨⟨a1, a2, a3, a4, a5⟩, ⟨b1, b2, b3, b4⟩, ⟨n, m, c0, c1, c2, c3, hq, hW, hH⟩, ⟨d1, d2⟩, ⟨e1, e2⟩, hsp⟩ := id hV0
  have hSH := hV0.sh hW hq
  have hRu := hV0.ru hW hq
  have hn := hW.1.2.1
  have hm := hW.1.2.2.2.1
  have hCI := hW.2.2.2.1
  have hTR := hW.2.2.2.2.1
  obtain rfl := e1
  have hA9 : B 0 78 = now 78 ∧ B 0 79 = now 79 ∧ rw.2.2.2 0 0 = now 82 ∧ rw.2.2.2 0 1 = now 98 ∧ rw.2.2.2 0 2 = now 114 ∧ rw.2.2.2 0 3 = now 135 := ⟨hCI.1.trans hW.1.1.symm, hCI.2.2.1.trans hW.1.2.2.1.symm, hH.1.2.2.1.trans hH.1.1.1.symm, hH.2.1.2.2.1.trans hH.2.1.1.1.symm, hH.2.2.1.2.1.trans hH.2.2.1.1.1.symm, hH.2.2.2.2.2.1.trans hH.2.2.2.1.symm⟩
  refine V.aload_n (q := 1063) C dL_law_1062 rfl rfl ?_
  refine V.aload_nR (q := 1064) C dL_law_1063 rfl rfl ?_
  refine V.iload_n (q := 1065) C dL_law_1064 rfl rfl ?_
  refine V.iconst (q := 1066) (v := nI 1) C dL_law_1065 rfl (by decide) ?_
  refine V.iadd (q := 1067) C dL_law_1066 rfl ?_
  refine V.topi (x1 := nI (i + 1)) (nI_add _ _) ?_
  refine V.sld (q := 1068) (i := (i + 1)) C X dL_law_1067 rfl rfl (by omega) (by omega) ?_
  refine V.callVi (q := 1071) C me_X9_count (c_count (A := now) hA9) ml_L_132 dL_law_1068 rfl okC_0 ⟨_, rfl⟩ rfl rfl (Nat.le_of_ble_eq_true rfl) (by omega) (Nat.le_refl _) (Nat.le_refl _) ?_
  refine V.aload_n (q := 1072) C dL_law_1071 rfl rfl ?_
  refine V.aload_nR (q := 1073) C dL_law_1072 rfl rfl ?_
  refine V.iload_n (q := 1074) C dL_law_1073 rfl rfl ?_
  refine V.iconst (q := 1075) (v := nI 1) C dL_law_1074 rfl (by decide) ?_
  refine V.iadd (q := 1076) C dL_law_1075 rfl ?_
  refine V.topi (x1 := nI (i + 1)) (nI_add _ _) ?_
  refine V.sld (q := 1077) (i := (i + 1)) C X dL_law_1076 rfl rfl (by omega) (by omega) ?_
  refine V.callVi (q := 1080) C me_X10_count m_count ml_L_135 dL_law_1077 rfl okM ⟨_, rfl⟩ rfl rfl (Nat.le_of_ble_eq_true rfl) (by omega) (Nat.le_refl _) (Nat.le_refl _) ?_
  refine V.icmp_eq (q := 1083) (tgt := 1298) C dL_law_1080 rfl rfl (fun hb1080 => ?_) (fun hb1080 => ?_)
  · exact kx _ ⟨_, _, _, _, _, _, _, _, _, _, _, _, _, _, _, _, _, _, _, _, hV0, rfl⟩
  · exact absurd (by rw [a3, a4, b1, b2]) hb1080
set_option maxHeartbeats 1000000 in
theorem law_29 {l : Launch} {g : GG} {b L : Nat} {xs : Nat → Int32} {Γ : Cxt} {Q : State → Prop} {i : Nat} (C : Cx Γ g code x 4 ret 30 600000 7302250) (X : LX Γ g b L xs) (hi : i + 6 ≤ L) (hL : L ≤ 3072) {PH : PHp} (hS : ST g PH) (kx : ∀ PH1 : PHp, ST g PH1 → V l Γ g 4 Q 600000 7302250 NN PH1 1298 [some (.ref b), some (rf g (0, 0, 0)), some (rf g (22, 0, 0)), some (.int (nI i))] []) : V l Γ g 4 Q 600000 7302250 NN PH 1085 [some (.ref b), some (rf g (0, 0, 0)), some (rf g (22, 0, 0)), some (.int (nI i))] [] := by
  obtain ⟨h0, ct, cl, rd, B, cy, rw, tl, sp, now, mind, th, tx, q, cv, hu, tr, tp, r, t, hV0, rfl⟩ := hS
  obtain ⟨so, le, it, mo⟩ := tp
  obtain ⟨⟨a1, a2, a3, a4, a5⟩, ⟨b1, b2, b3, b4⟩, ⟨n, m, c0, c1, c2, c3, hq, hW, hH⟩, ⟨d1, d2⟩, ⟨e1, e2⟩, hsp⟩ := id hV0
  have hSH := hV0.sh hW hq
  have hRu := hV0.ru hW hq
  have hn := hW.1.2.1
  have hm := hW.1.2.2.2.1
  have hCI := hW.2.2.2.1
  have hTR := hW.2.2.2.2.1
  refine V.aload_n (q := 1086) C dL_law_1085 rfl rfl ?_
  refine V.aload_nR (q := 1087) C dL_law_1086 rfl rfl ?_
  refine V.iload_n (q := 1088) C dL_law_1087 rfl rfl ?_
  refine V.iconst (q := 1089) (v := nI 1) C dL_law_1088 rfl (by decide) ?_
  refine V.iadd (q := 1090) C dL_law_1089 rfl ?_
  refine V.topi (x1 := nI (i + 1)) (nI_add _ _) ?_
  refine V.sld (q := 1091) (i := (i + 1)) C X dL_law_1090 rfl rfl (by omega) (by omega) ?_
  refine V.aload_nR (q := 1092) C dL_law_1091 rfl rfl ?_
  refine V.iload_n (q := 1093) C dL_law_1092 rfl rfl ?_
  refine V.iconst (q := 1094) (v := nI 2) C dL_law_1093 rfl (by decide) ?_
  refine V.iadd (q := 1095) C dL_law_1094 rfl ?_
  refine V.topi (x1 := nI (i + 2)) (nI_add _ _) ?_
  refine V.sld (q := 1096) (i := (i + 2)) C X dL_law_1095 rfl rfl (by omega) (by omega) ?_
  refine V.aload_nR (q := 1097) C dL_law_1096 rfl rfl ?_
  refine V.iload_n (q := 1098) C dL_law_1097 rfl rfl ?_
  refine V.iconst (q := 1099) (v := nI 3) C dL_law_1098 rfl (by decide) ?_
  refine V.iadd (q := 1100) C dL_law_1099 rfl ?_
  refine V.topi (x1 := nI (i + 3)) (nI_add _ _) ?_
  refine V.sld (q := 1101) (i := (i + 3)) C X dL_law_1100 rfl rfl (by omega) (by omega) ?_
  refine V.callVi (q := 1104) C me_X9_tape c_tape ml_L_136 dL_law_1101 rfl okC_0 ⟨_, rfl⟩ rfl rfl (Nat.le_of_ble_eq_true rfl) (by omega) (Nat.le_refl _) (Nat.le_refl _) ?_
  refine V.aload_n (q := 1105) C dL_law_1104 rfl rfl ?_
  refine V.aload_nR (q := 1106) C dL_law_1105 rfl rfl ?_
  refine V.iload_n (q := 1107) C dL_law_1106 rfl rfl ?_
  refine V.iconst (q := 1108) (v := nI 1) C dL_law_1107 rfl (by decide) ?_
  refine V.iadd (q := 1109) C dL_law_1108 rfl ?_
  refine V.topi (x1 := nI (i + 1)) (nI_add _ _) ?_
  refine V.sld (q := 1110) (i := (i + 1)) C X dL_law_1109 rfl rfl (by omega) (by omega) ?_
  refine V.aload_nR (q := 1111) C dL_law_1110 rfl rfl ?_
  refine V.iload_n (q := 1112) C dL_law_1111 rfl rfl ?_
  refine V.iconst (q := 1113) (v := nI 2) C dL_law_1112 rfl (by decide) ?_
  refine V.iadd (q := 1114) C dL_law_1113 rfl ?_
  refine V.topi (x1 := nI (i + 2)) (nI_add _ _) ?_
  refine V.sld (q := 1115) (i := (i + 2)) C X dL_law_1114 rfl rfl (by omega) (by omega) ?_
  refine V.aload_nR (q := 1116) C dL_law_1115 rfl rfl ?_
  refine V.iload_n (q := 1117) C dL_law_1116 rfl rfl ?_
  refine V.iconst (q := 1118) (v := nI 3) C dL_law_1117 rfl (by decide) ?_
  refine V.iadd (q := 1119) C dL_law_1118 rfl ?_
  refine V.topi (x1 := nI (i + 3)) (nI_add _ _) ?_
  refine V.sld (q := 1120) (i := (i + 3)) C X dL_law_1119 rfl rfl (by omega) (by omega) ?_
  refine V.callVi (q := 1123) C me_X10_tape m_tape ml_L_139 dL_law_1120 rfl okM ⟨_, rfl⟩ rfl rfl (Nat.le_of_ble_eq_true rfl) (by omega) (Nat.le_refl _) (Nat.le_refl _) ?_
  refine V.icmp_eq (q := 1126) (tgt := 1298) C dL_law_1123 rfl rfl (fun hb1123 => ?_) (fun hb1123 => ?_)
  · exact kx _ ⟨_, _, _, _, _, _, _, _, _, _, _, _, _, _, _, _, _, _, _, _, (hV0.tpe (SpR.tape hsp)), rfl⟩
  · exact absurd rfl hb1123
set_option maxHeartbeats 1000000 in
theorem law_30 {l : Launch} {g : GG} {b L : Nat} {xs : Nat → Int32} {Γ : Cxt} {Q : State → Prop} {i : Nat} (C : Cx Γ g code x 4 ret 30 600000 7302250) (X : LX Γ g b L xs) (hi : i + 6 ≤ L) (hL : L ≤ 3072) {PH : PHp} (hS : ST g PH) (kx : ∀ PH1 : PHp, ST g PH1 → V l Γ g 4 Q 600000 7302250 NN PH1 1298 [some (.ref b), some (rf g (0, 0, 0)), some (rf g (22, 0, 0)), some (.int (nI i))] []) : V l Γ g 4 Q 600000 7302250 NN PH 1128 [some (.ref b), some (rf g (0, 0, 0)), some (rf g (22, 0, 0)), some (.int (nI i))] [] := by
  obtain ⟨h0, ct, cl, rd, B, cy, rw, tl, sp, now, mind, th, tx, q, cv, hu, tr, tp, r, t, hV0, rfl⟩ := hS
  obtain ⟨so, le, it, mo⟩ := tp
  obtain ⟨⟨a1, a2, a3, a4, a5⟩, ⟨b1, b2, b3, b4⟩, ⟨n, m, c0, c1, c2, c3, hq, hW, hH⟩, ⟨d1, d2⟩, ⟨e1, e2⟩, hsp⟩ := id hV0
  have hSH := hV0.sh hW hq
  have hRu := hV0.ru hW hq
  have hn := hW.1.2.1
  have hm := hW.1.2.2.2.1
  have hCI := hW.2.2.2.1
  have hTR := hW.2.2.2.2.1
  obtain ⟨c9, hc9, hl9⟩ := hsp.len (xs (i + 1))
  refine V.aload_n (q := 1129) C dL_law_1128 rfl rfl ?_
  refine V.aload_nR (q := 1130) C dL_law_1129 rfl rfl ?_
  refine V.iload_n (q := 1131) C dL_law_1130 rfl rfl ?_
  refine V.iconst (q := 1132) (v := nI 1) C dL_law_1131 rfl (by decide) ?_
  refine V.iadd (q := 1133) C dL_law_1132 rfl ?_
  refine V.topi (x1 := nI (i + 1)) (nI_add _ _) ?_
  refine V.sld (q := 1134) (i := (i + 1)) C X dL_law_1133 rfl rfl (by omega) (by omega) ?_
  refine V.aload_nR (q := 1135) C dL_law_1134 rfl rfl ?_
  refine V.iload_n (q := 1136) C dL_law_1135 rfl rfl ?_
  refine V.iconst (q := 1137) (v := nI 2) C dL_law_1136 rfl (by decide) ?_
  refine V.iadd (q := 1138) C dL_law_1137 rfl ?_
  refine V.topi (x1 := nI (i + 2)) (nI_add _ _) ?_
  refine V.sld (q := 1139) (i := (i + 2)) C X dL_law_1138 rfl rfl (by omega) (by omega) ?_
  refine V.aload_nR (q := 1140) C dL_law_1139 rfl rfl ?_
  refine V.iload_n (q := 1141) C dL_law_1140 rfl rfl ?_
  refine V.iconst (q := 1142) (v := nI 3) C dL_law_1141 rfl (by decide) ?_
  refine V.iadd (q := 1143) C dL_law_1142 rfl ?_
  refine V.topi (x1 := nI (i + 3)) (nI_add _ _) ?_
  refine V.sld (q := 1144) (i := (i + 3)) C X dL_law_1143 rfl rfl (by omega) (by omega) ?_
  refine V.i2l (q := 1145) C dL_law_1144 rfl rfl ?_
  refine V.bipush (q := 1147) (v := nI 32) C dL_law_1145 rfl (by decide) ?_
  refine V.lshl (q := 1148) C dL_law_1147 rfl rfl ?_
  refine V.aload_nR (q := 1149) C dL_law_1148 rfl rfl ?_
  refine V.iload_n (q := 1150) C dL_law_1149 rfl rfl ?_
  refine V.iconst (q := 1151) (v := nI 4) C dL_law_1150 rfl (by decide) ?_
  refine V.iadd (q := 1152) C dL_law_1151 rfl ?_
  refine V.topi (x1 := nI (i + 4)) (nI_add _ _) ?_
  refine V.sld (q := 1153) (i := (i + 4)) C X dL_law_1152 rfl rfl (by omega) (by omega) ?_
  refine V.i2l (q := 1154) C dL_law_1153 rfl rfl ?_
  refine V.ldc2 (q := 1157) (v := 4294967295) C (tb_at 1166 (by decide +kernel) rfl) dL_law_1154 rfl ?_
  refine V.land (q := 1158) C dL_law_1157 rfl ?_
  refine V.lor (q := 1159) C dL_law_1158 rfl ?_
  refine V.callVi (q := 1162) C me_X9_item (c_item hsp hl9 hc9) ml_L_142 dL_law_1159 rfl okC_0 ⟨_, rfl⟩ rfl rfl (Nat.le_of_ble_eq_true rfl) (by omega) (Nat.le_refl _) (Nat.le_refl _) ?_
  refine V.aload_n (q := 1163) C dL_law_1162 rfl rfl ?_
  refine V.aload_nR (q := 1164) C dL_law_1163 rfl rfl ?_
  refine V.iload_n (q := 1165) C dL_law_1164 rfl rfl ?_
  refine V.iconst (q := 1166) (v := nI 1) C dL_law_1165 rfl (by decide) ?_
  refine V.iadd (q := 1167) C dL_law_1166 rfl ?_
  refine V.topi (x1 := nI (i + 1)) (nI_add _ _) ?_
  refine V.sld (q := 1168) (i := (i + 1)) C X dL_law_1167 rfl rfl (by omega) (by omega) ?_
  refine V.aload_nR (q := 1169) C dL_law_1168 rfl rfl ?_
  refine V.iload_n (q := 1170) C dL_law_1169 rfl rfl ?_
  refine V.iconst (q := 1171) (v := nI 2) C dL_law_1170 rfl (by decide) ?_
  refine V.iadd (q := 1172) C dL_law_1171 rfl ?_
  refine V.topi (x1 := nI (i + 2)) (nI_add _ _) ?_
  refine V.sld (q := 1173) (i := (i + 2)) C X dL_law_1172 rfl rfl (by omega) (by omega) ?_
  refine V.aload_nR (q := 1174) C dL_law_1173 rfl rfl ?_
  refine V.iload_n (q := 1175) C dL_law_1174 rfl rfl ?_
  refine V.iconst (q := 1176) (v := nI 3) C dL_law_1175 rfl (by decide) ?_
  refine V.iadd (q := 1177) C dL_law_1176 rfl ?_
  refine V.topi (x1 := nI (i + 3)) (nI_add _ _) ?_
  refine V.sld (q := 1178) (i := (i + 3)) C X dL_law_1177 rfl rfl (by omega) (by omega) ?_
  refine V.i2l (q := 1179) C dL_law_1178 rfl rfl ?_
  refine V.bipush (q := 1181) (v := nI 32) C dL_law_1179 rfl (by decide) ?_
  refine V.lshl (q := 1182) C dL_law_1181 rfl rfl ?_
  refine V.aload_nR (q := 1183) C dL_law_1182 rfl rfl ?_
  refine V.iload_n (q := 1184) C dL_law_1183 rfl rfl ?_
  refine V.iconst (q := 1185) (v := nI 4) C dL_law_1184 rfl (by decide) ?_
  refine V.iadd (q := 1186) C dL_law_1185 rfl ?_
  refine V.topi (x1 := nI (i + 4)) (nI_add _ _) ?_
  refine V.sld (q := 1187) (i := (i + 4)) C X dL_law_1186 rfl rfl (by omega) (by omega) ?_
  refine V.i2l (q := 1188) C dL_law_1187 rfl rfl ?_
  refine V.ldc2 (q := 1191) (v := 4294967295) C (tb_at 1166 (by decide +kernel) rfl) dL_law_1188 rfl ?_
  refine V.land (q := 1192) C dL_law_1191 rfl ?_
  refine V.lor (q := 1193) C dL_law_1192 rfl ?_
  refine V.callVi (q := 1196) C me_X10_item (m_item hl9 hc9) ml_L_146 dL_law_1193 rfl okM ⟨_, rfl⟩ rfl rfl (Nat.le_of_ble_eq_true rfl) (by omega) (Nat.le_refl _) (Nat.le_refl _) ?_
  refine V.icmp_eq (q := 1199) (tgt := 1298) C dL_law_1196 rfl rfl (fun hb1196 => ?_) (fun hb1196 => ?_)
  · exact kx _ ⟨_, _, _, _, _, _, _, _, _, _, _, _, _, _, _, _, _, _, _, _, (hV0.tpe (SpR.item hsp hl9 hc9)), rfl⟩
  · exact absurd rfl hb1196
set_option maxHeartbeats 1000000 in
theorem law_31 {l : Launch} {g : GG} {b L : Nat} {xs : Nat → Int32} {Γ : Cxt} {Q : State → Prop} {i : Nat} (C : Cx Γ g code x 4 ret 30 600000 7302250) (X : LX Γ g b L xs) (hi : i + 6 ≤ L) (hL : L ≤ 3072) {PH : PHp} (hS : ST g PH) (kx : ∀ PH1 : PHp, ST g PH1 → V l Γ g 4 Q 600000 7302250 NN PH1 1298 [some (.ref b), some (rf g (0, 0, 0)), some (rf g (22, 0, 0)), some (.int (nI i))] []) : V l Γ g 4 Q 600000 7302250 NN PH 1201 [some (.ref b), some (rf g (0, 0, 0)), some (rf g (22, 0, 0)), some (.int (nI i))] [] := by
  obtain ⟨h0, ct, cl, rd, B, cy, rw, tl, sp, now, mind, th, tx, q, cv, hu, tr, tp, r, t, hV0, rfl⟩ := hS
  obtain ⟨so, le, it, mo⟩ := tp
  obtain ⟨⟨a1, a2, a3, a4, a5⟩, ⟨b1, b2, b3, b4⟩, ⟨n, m, c0, c1, c2, c3, hq, hW, hH⟩, ⟨d1, d2⟩, ⟨e1, e2⟩, hsp⟩ := id hV0
  have hSH := hV0.sh hW hq
  have hRu := hV0.ru hW hq
  have hn := hW.1.2.1
  have hm := hW.1.2.2.2.1
  have hCI := hW.2.2.2.1
  have hTR := hW.2.2.2.2.1
  obtain ⟨c9, hc9, hl9⟩ := hsp.len (xs (i + 1))
  refine V.aload_n (q := 1202) C dL_law_1201 rfl rfl ?_
  refine V.aload_nR (q := 1203) C dL_law_1202 rfl rfl ?_
  refine V.iload_n (q := 1204) C dL_law_1203 rfl rfl ?_
  refine V.iconst (q := 1205) (v := nI 1) C dL_law_1204 rfl (by decide) ?_
  refine V.iadd (q := 1206) C dL_law_1205 rfl ?_
  refine V.topi (x1 := nI (i + 1)) (nI_add _ _) ?_
  refine V.sld (q := 1207) (i := (i + 1)) C X dL_law_1206 rfl rfl (by omega) (by omega) ?_
  refine V.aload_nR (q := 1208) C dL_law_1207 rfl rfl ?_
  refine V.iload_n (q := 1209) C dL_law_1208 rfl rfl ?_
  refine V.iconst (q := 1210) (v := nI 2) C dL_law_1209 rfl (by decide) ?_
  refine V.iadd (q := 1211) C dL_law_1210 rfl ?_
  refine V.topi (x1 := nI (i + 2)) (nI_add _ _) ?_
  refine V.sld (q := 1212) (i := (i + 2)) C X dL_law_1211 rfl rfl (by omega) (by omega) ?_
  refine V.callVl (q := 1215) C me_X9_read (c_read hsp hl9 hc9) ml_L_147 dL_law_1212 rfl okC_0 ⟨_, rfl⟩ rfl rfl (Nat.le_of_ble_eq_true rfl) (by omega) (Nat.le_refl _) (Nat.le_refl _) ?_
  refine V.aload_n (q := 1216) C dL_law_1215 rfl rfl ?_
  refine V.aload_nR (q := 1217) C dL_law_1216 rfl rfl ?_
  refine V.iload_n (q := 1218) C dL_law_1217 rfl rfl ?_
  refine V.iconst (q := 1219) (v := nI 1) C dL_law_1218 rfl (by decide) ?_
  refine V.iadd (q := 1220) C dL_law_1219 rfl ?_
  refine V.topi (x1 := nI (i + 1)) (nI_add _ _) ?_
  refine V.sld (q := 1221) (i := (i + 1)) C X dL_law_1220 rfl rfl (by omega) (by omega) ?_
  refine V.aload_nR (q := 1222) C dL_law_1221 rfl rfl ?_
  refine V.iload_n (q := 1223) C dL_law_1222 rfl rfl ?_
  refine V.iconst (q := 1224) (v := nI 2) C dL_law_1223 rfl (by decide) ?_
  refine V.iadd (q := 1225) C dL_law_1224 rfl ?_
  refine V.topi (x1 := nI (i + 2)) (nI_add _ _) ?_
  refine V.sld (q := 1226) (i := (i + 2)) C X dL_law_1225 rfl rfl (by omega) (by omega) ?_
  refine V.callVl (q := 1229) C me_X10_read (m_read hl9 hc9) ml_L_150 dL_law_1226 rfl okM ⟨_, rfl⟩ rfl rfl (Nat.le_of_ble_eq_true rfl) (by omega) (Nat.le_refl _) (Nat.le_refl _) ?_
  refine V.lcmp (q := 1230) C dL_law_1229 rfl ?_
  refine V.if_eq (q := 1233) (tgt := 1298) C dL_law_1230 rfl rfl (fun hb1230 => ?_) (fun hb1230 => ?_)
  · exact kx _ ⟨_, _, _, _, _, _, _, _, _, _, _, _, _, _, _, _, _, _, _, _, hV0, rfl⟩
  · exact absurd lg_self hb1230
set_option maxHeartbeats 1000000 in
theorem law_32 {l : Launch} {g : GG} {b L : Nat} {xs : Nat → Int32} {Γ : Cxt} {Q : State → Prop} {i : Nat} (C : Cx Γ g code x 4 ret 30 600000 7302250) (X : LX Γ g b L xs) (hi : i + 6 ≤ L) (hL : L ≤ 3072) {PH : PHp} (hS : ST g PH) (kx : ∀ PH1 : PHp, ST g PH1 → V l Γ g 4 Q 600000 7302250 NN PH1 1298 [some (.ref b), some (rf g (0, 0, 0)), some (rf g (22, 0, 0)), some (.int (nI i))] []) : V l Γ g 4 Q 600000 7302250 NN PH 1235 [some (.ref b), some (rf g (0, 0, 0)), some (rf g (22, 0, 0)), some (.int (nI i))] [] := by
  obtain ⟨h0, ct, cl, rd, B, cy, rw, tl, sp, now, mind, th, tx, q, cv, hu, tr, tp, r, t, hV0, rfl⟩ := hS
  obtain ⟨so, le, it, mo⟩ := tp
  obtain ⟨⟨a1, a2, a3, a4, a5⟩, ⟨b1, b2, b3, b4⟩, ⟨n, m, c0, c1, c2, c3, hq, hW, hH⟩, ⟨d1, d2⟩, ⟨e1, e2⟩, hsp⟩ := id hV0
  have hSH := hV0.sh hW hq
  have hRu := hV0.ru hW hq
  have hn := hW.1.2.1
  have hm := hW.1.2.2.2.1
  have hCI := hW.2.2.2.1
  have hTR := hW.2.2.2.2.1
  refine V.aload_n (q := 1236) C dL_law_1235 rfl rfl ?_
  refine V.aload_nR (q := 1237) C dL_law_1236 rfl rfl ?_
  refine V.iload_n (q := 1238) C dL_law_1237 rfl rfl ?_
  refine V.iconst (q := 1239) (v := nI 1) C dL_law_1238 rfl (by decide) ?_
  refine V.iadd (q := 1240) C dL_law_1239 rfl ?_
  refine V.topi (x1 := nI (i + 1)) (nI_add _ _) ?_
  refine V.sld (q := 1241) (i := (i + 1)) C X dL_law_1240 rfl rfl (by omega) (by omega) ?_
  refine V.aload_nR (q := 1242) C dL_law_1241 rfl rfl ?_
  refine V.iload_n (q := 1243) C dL_law_1242 rfl rfl ?_
  refine V.iconst (q := 1244) (v := nI 2) C dL_law_1243 rfl (by decide) ?_
  refine V.iadd (q := 1245) C dL_law_1244 rfl ?_
  refine V.topi (x1 := nI (i + 2)) (nI_add _ _) ?_
  refine V.sld (q := 1246) (i := (i + 2)) C X dL_law_1245 rfl rfl (by omega) (by omega) ?_
  refine V.aload_nR (q := 1247) C dL_law_1246 rfl rfl ?_
  refine V.iload_n (q := 1248) C dL_law_1247 rfl rfl ?_
  refine V.iconst (q := 1249) (v := nI 3) C dL_law_1248 rfl (by decide) ?_
  refine V.iadd (q := 1250) C dL_law_1249 rfl ?_
  refine V.topi (x1 := nI (i + 3)) (nI_add _ _) ?_
  refine V.sld (q := 1251) (i := (i + 3)) C X dL_law_1250 rfl rfl (by omega) (by omega) ?_
  refine V.aload_nR (q := 1252) C dL_law_1251 rfl rfl ?_
  refine V.iload_n (q := 1253) C dL_law_1252 rfl rfl ?_
  refine V.iconst (q := 1254) (v := nI 4) C dL_law_1253 rfl (by decide) ?_
  refine V.iadd (q := 1255) C dL_law_1254 rfl ?_
  refine V.topi (x1 := nI (i + 4)) (nI_add _ _) ?_
  refine V.sld (q := 1256) (i := (i + 4)) C X dL_law_1255 rfl rfl (by omega) (by omega) ?_
  refine V.aload_nR (q := 1257) C dL_law_1256 rfl rfl ?_
  refine V.iload_n (q := 1258) C dL_law_1257 rfl rfl ?_
  refine V.iconst (q := 1259) (v := nI 5) C dL_law_1258 rfl (by decide) ?_
  refine V.iadd (q := 1260) C dL_law_1259 rfl ?_
  refine V.topi (x1 := nI (i + 5)) (nI_add _ _) ?_
  refine V.sld (q := 1261) (i := (i + 5)) C X dL_law_1260 rfl rfl (by omega) (by omega) ?_
  refine V.callVi (q := 1264) C me_X9_shift (c_shift hsp) ml_L_151 dL_law_1261 rfl okC_0 ⟨_, rfl⟩ rfl rfl (Nat.le_of_ble_eq_true rfl) (by omega) (Nat.le_refl _) (Nat.le_refl _) ?_
  refine V.aload_n (q := 1265) C dL_law_1264 rfl rfl ?_
  refine V.aload_nR (q := 1266) C dL_law_1265 rfl rfl ?_
  refine V.iload_n (q := 1267) C dL_law_1266 rfl rfl ?_
  refine V.iconst (q := 1268) (v := nI 1) C dL_law_1267 rfl (by decide) ?_
  refine V.iadd (q := 1269) C dL_law_1268 rfl ?_
  refine V.topi (x1 := nI (i + 1)) (nI_add _ _) ?_
  refine V.sld (q := 1270) (i := (i + 1)) C X dL_law_1269 rfl rfl (by omega) (by omega) ?_
  refine V.aload_nR (q := 1271) C dL_law_1270 rfl rfl ?_
  refine V.iload_n (q := 1272) C dL_law_1271 rfl rfl ?_
  refine V.iconst (q := 1273) (v := nI 2) C dL_law_1272 rfl (by decide) ?_
  refine V.iadd (q := 1274) C dL_law_1273 rfl ?_
  refine V.topi (x1 := nI (i + 2)) (nI_add _ _) ?_
  refine V.sld (q := 1275) (i := (i + 2)) C X dL_law_1274 rfl rfl (by omega) (by omega) ?_
  refine V.aload_nR (q := 1276) C dL_law_1275 rfl rfl ?_
  refine V.iload_n (q := 1277) C dL_law_1276 rfl rfl ?_
  refine V.iconst (q := 1278) (v := nI 3) C dL_law_1277 rfl (by decide) ?_
  refine V.iadd (q := 1279) C dL_law_1278 rfl ?_
  refine V.topi (x1 := nI (i + 3)) (nI_add _ _) ?_
  refine V.sld (q := 1280) (i := (i + 3)) C X dL_law_1279 rfl rfl (by omega) (by omega) ?_
  refine V.aload_nR (q := 1281) C dL_law_1280 rfl rfl ?_
  refine V.iload_n (q := 1282) C dL_law_1281 rfl rfl ?_
  refine V.iconst (q := 1283) (v := nI 4) C dL_law_1282 rfl (by decide) ?_
  refine V.iadd (q := 1284) C dL_law_1283 rfl ?_
  refine V.topi (x1 := nI (i + 4)) (nI_add _ _) ?_
  refine V.sld (q := 1285) (i := (i + 4)) C X dL_law_1284 rfl rfl (by omega) (by omega) ?_
  refine V.aload_nR (q := 1286) C dL_law_1285 rfl rfl ?_
  refine V.iload_n (q := 1287) C dL_law_1286 rfl rfl ?_
  refine V.iconst (q := 1288) (v := nI 5) C dL_law_1287 rfl (by decide) ?_
  refine V.iadd (q := 1289) C dL_law_1288 rfl ?_
  refine V.topi (x1 := nI (i + 5)) (nI_add _ _) ?_
  refine V.sld (q := 1290) (i := (i + 5)) C X dL_law_1289 rfl rfl (by omega) (by omega) ?_
  refine V.callVi (q := 1293) C me_X10_shift (m_shift hsp.lens) ml_L_155 dL_law_1290 rfl okM ⟨_, rfl⟩ rfl rfl (Nat.le_of_ble_eq_true rfl) (by omega) (Nat.le_refl _) (Nat.le_refl _) ?_
  refine V.icmp_eq (q := 1296) (tgt := 1298) C dL_law_1293 rfl rfl (fun hb1293 => ?_) (fun hb1293 => ?_)
  · exact kx _ ⟨_, _, _, _, _, _, _, _, _, _, _, _, _, _, _, _, _, _, _, _, (hV0.tpe (SpR.shift hsp)), rfl⟩
  · exact absurd rfl hb1293
