set_option maxHeartbeats 1000000 in
theorem law_17 {l : Launch} {g : GG} {b L : Nat} {xs : Nat → Int32} {Γ : Cxt} {Q : State → Prop} {i : Nat} (C : Cx Γ g code x 4 ret 30 600000 7302250) (X : LX Γ g b L xs) (hi : i + 6 ≤ L) (hL : L ≤ 3072) {PH : PHp} (hS : ST g PH) (kx : ∀ PH1 : PHp, ST g PH1 → V l Γ g 4 Q 600000 7302250 NN PH1 1298 [some (.ref b), some (rf g (0, 0, 0)), some (rf g (22, 0, 0)), some (.int (nI i))] []) : V l Γ g 4 Q 600000 7302250 NN PH 768 [some (.ref b), some (rf g (0, 0, 0)), some (rf g (22, 0, 0)), some (.int (nI i))] [] := by
  obtain ⟨h0, ct, cl, rd, B, cy, rw, tl, sp, now, mind, th, tx, q, cv, hu, tr, tp, r, t, hV0, rfl⟩ := hS
  obtain ⟨⟨a1, a2, a3, a4, a5⟩, ⟨b1, b2, b3, b4⟩, ⟨n, m, c0, c1, c2, c3, hq, hW, hH⟩, ⟨d1, d2⟩, ⟨e1, e2⟩, hsp⟩ := id hV0
  have hSH := hV0.sh hW hq
  have hRu := hV0.ru hW hq
  have hn := hW.1.2.1
  have hm := hW.1.2.2.2.1
  have hCI := hW.2.2.2.1
  have hTR := hW.2.2.2.2.1
  refine V.aload_n (q := 769) C dL_law_768 rfl rfl ?_
  refine V.aload_nR (q := 770) C dL_law_769 rfl rfl ?_
  refine V.iload_n (q := 771) C dL_law_770 rfl rfl ?_
  refine V.iconst (q := 772) (v := nI 1) C dL_law_771 rfl (by decide) ?_
  refine V.iadd (q := 773) C dL_law_772 rfl ?_
  refine V.topi (x1 := nI (i + 1)) (nI_add _ _) ?_
  refine V.sld (q := 774) (i := (i + 1)) C X dL_law_773 rfl rfl (by omega) (by omega) ?_
  refine V.aload_nR (q := 775) C dL_law_774 rfl rfl ?_
  refine V.iload_n (q := 776) C dL_law_775 rfl rfl ?_
  refine V.iconst (q := 777) (v := nI 2) C dL_law_776 rfl (by decide) ?_
  refine V.iadd (q := 778) C dL_law_777 rfl ?_
  refine V.topi (x1 := nI (i + 2)) (nI_add _ _) ?_
  refine V.sld (q := 779) (i := (i + 2)) C X dL_law_778 rfl rfl (by omega) (by omega) ?_
  refine V.callVxl (q := 782) C me_X9_mean (c_mean hSH hCI hTR rfl hW.mean) ml_L_87 dL_law_779 rfl okC_0 ⟨_, rfl⟩ rfl rfl (Nat.le_of_ble_eq_true rfl) (by omega) (Nat.le_refl _) (Nat.le_refl _) (fun z1 h1 => ?_)
  refine V.aload_n (q := 783) C dL_law_782 rfl rfl ?_
  refine V.aload_nR (q := 784) C dL_law_783 rfl rfl ?_
  refine V.iload_n (q := 785) C dL_law_784 rfl rfl ?_
  refine V.iconst (q := 786) (v := nI 1) C dL_law_785 rfl (by decide) ?_
  refine V.iadd (q := 787) C dL_law_786 rfl ?_
  refine V.topi (x1 := nI (i + 1)) (nI_add _ _) ?_
  refine V.sld (q := 788) (i := (i + 1)) C X dL_law_787 rfl rfl (by omega) (by omega) ?_
  refine V.aload_nR (q := 789) C dL_law_788 rfl rfl ?_
  refine V.iload_n (q := 790) C dL_law_789 rfl rfl ?_
  refine V.iconst (q := 791) (v := nI 2) C dL_law_790 rfl (by decide) ?_
  refine V.iadd (q := 792) C dL_law_791 rfl ?_
  refine V.topi (x1 := nI (i + 2)) (nI_add _ _) ?_
  refine V.sld (q := 793) (i := (i + 2)) C X dL_law_792 rfl rfl (by omega) (by omega) ?_
  refine V.callVxl (q := 796) C me_X10_mean (m_mean (q := (q, mind, cv, hu)) hW.1 hRu hW.mean) ml_L_91 dL_law_793 rfl okM ⟨_, rfl⟩ rfl rfl (Nat.le_of_ble_eq_true rfl) (by omega) (Nat.le_refl _) (Nat.le_refl _) (fun z2 h2 => ?_)
  refine V.lcmp (q := 797) C dL_law_796 rfl ?_
  refine V.if_eq (q := 800) (tgt := 1298) C dL_law_797 rfl rfl (fun hb797 => ?_) (fun hb797 => ?_)
  · exact kx _ ⟨_, _, _, _, _, _, _, _, _, _, _, _, _, _, _, _, _, _, _, _, (hV0.scr z1.2.1 z1.2.2), rfl⟩
  · exact absurd lg_self hb797
set_option maxHeartbeats 1000000 in
theorem law_18 {l : Launch} {g : GG} {b L : Nat} {xs : Nat → Int32} {Γ : Cxt} {Q : State → Prop} {i : Nat} (C : Cx Γ g code x 4 ret 30 600000 7302250) (X : LX Γ g b L xs) (hi : i + 6 ≤ L) (hL : L ≤ 3072) {PH : PHp} (hS : ST g PH) (kx : ∀ PH1 : PHp, ST g PH1 → V l Γ g 4 Q 600000 7302250 NN PH1 1298 [some (.ref b), some (rf g (0, 0, 0)), some (rf g (22, 0, 0)), some (.int (nI i))] []) : V l Γ g 4 Q 600000 7302250 NN PH 802 [some (.ref b), some (rf g (0, 0, 0)), some (rf g (22, 0, 0)), some (.int (nI i))] [] := by
  obtain ⟨h0, ct, cl, rd, B, cy, rw, tl, sp, now, mind, th, tx, q, cv, hu, tr, tp, r, t, hV0, rfl⟩ := hS
  obtain ⟨⟨a1, a2, a3, a4, a5⟩, ⟨b1, b2, b3, b4⟩, ⟨n, m, c0, c1, c2, c3, hq, hW, hH⟩, ⟨d1, d2⟩, ⟨e1, e2⟩, hsp⟩ := id hV0
  have hSH := hV0.sh hW hq
  have hRu := hV0.ru hW hq
  have hn := hW.1.2.1
  have hm := hW.1.2.2.2.1
  have hCI := hW.2.2.2.1
  have hTR := hW.2.2.2.2.1
  refine V.aload_n (q := 803) C dL_law_802 rfl rfl ?_
  refine V.aload_nR (q := 804) C dL_law_803 rfl rfl ?_
  refine V.iload_n (q := 805) C dL_law_804 rfl rfl ?_
  refine V.iconst (q := 806) (v := nI 1) C dL_law_805 rfl (by decide) ?_
  refine V.iadd (q := 807) C dL_law_806 rfl ?_
  refine V.topi (x1 := nI (i + 1)) (nI_add _ _) ?_
  refine V.sld (q := 808) (i := (i + 1)) C X dL_law_807 rfl rfl (by omega) (by omega) ?_
  refine V.aload_nR (q := 809) C dL_law_808 rfl rfl ?_
  refine V.iload_n (q := 810) C dL_law_809 rfl rfl ?_
  refine V.iconst (q := 811) (v := nI 2) C dL_law_810 rfl (by decide) ?_
  refine V.iadd (q := 812) C dL_law_811 rfl ?_
  refine V.topi (x1 := nI (i + 2)) (nI_add _ _) ?_
  refine V.sld (q := 813) (i := (i + 2)) C X dL_law_812 rfl rfl (by omega) (by omega) ?_
  refine V.callVi (q := 816) C me_X9_plan (c_plan hCI hH.2.2.1.2.1 hH.2.2.1.1.2.1) ml_L_92 dL_law_813 rfl okC_0 ⟨_, rfl⟩ rfl rfl (Nat.le_of_ble_eq_true rfl) (by omega) (Nat.le_refl _) (Nat.le_refl _) ?_
  refine V.aload_n (q := 817) C dL_law_816 rfl rfl ?_
  refine V.aload_nR (q := 818) C dL_law_817 rfl rfl ?_
  refine V.iload_n (q := 819) C dL_law_818 rfl rfl ?_
  refine V.iconst (q := 820) (v := nI 1) C dL_law_819 rfl (by decide) ?_
  refine V.iadd (q := 821) C dL_law_820 rfl ?_
  refine V.topi (x1 := nI (i + 1)) (nI_add _ _) ?_
  refine V.sld (q := 822) (i := (i + 1)) C X dL_law_821 rfl rfl (by omega) (by omega) ?_
  refine V.aload_nR (q := 823) C dL_law_822 rfl rfl ?_
  refine V.iload_n (q := 824) C dL_law_823 rfl rfl ?_
  refine V.iconst (q := 825) (v := nI 2) C dL_law_824 rfl (by decide) ?_
  refine V.iadd (q := 826) C dL_law_825 rfl ?_
  refine V.topi (x1 := nI (i + 2)) (nI_add _ _) ?_
  refine V.sld (q := 827) (i := (i + 2)) C X dL_law_826 rfl rfl (by omega) (by omega) ?_
  refine V.callVi (q := 830) C me_X10_plan (m_plan hW.1.1 hn hW.1.2.2.1 hm hH.2.2.1.1.1 hH.2.2.1.1.2.1) ml_L_95 dL_law_827 rfl okM ⟨_, rfl⟩ rfl rfl (Nat.le_of_ble_eq_true rfl) (by omega) (Nat.le_refl _) (Nat.le_refl _) ?_
  refine V.icmp_eq (q := 833) (tgt := 1298) C dL_law_830 rfl rfl (fun hb830 => ?_) (fun hb830 => ?_)
  · exact kx _ ⟨_, _, _, _, _, _, _, _, _, _, _, _, _, _, _, _, _, _, _, _, (hV0.plan hq hW hH), rfl⟩
  · exact absurd rfl hb830
set_option maxHeartbeats 1000000 in
theorem law_19 {l : Launch} {g : GG} {b L : Nat} {xs : Nat → Int32} {Γ : Cxt} {Q : State → Prop} {i : Nat} (C : Cx Γ g code x 4 ret 30 600000 7302250) (X : LX Γ g b L xs) (hi : i + 6 ≤ L) (hL : L ≤ 3072) {PH : PHp} (hS : ST g PH) (kx : ∀ PH1 : PHp, ST g PH1 → V l Γ g 4 Q 600000 7302250 NN PH1 1298 [some (.ref b), some (rf g (0, 0, 0)), some (rf g (22, 0, 0)), some (.int (nI i))] []) : V l Γ g 4 Q 600000 7302250 NN PH 835 [some (.ref b), some (rf g (0, 0, 0)), some (rf g (22, 0, 0)), some (.int (nI i))] [] := by
  obtain ⟨h0, ct, cl, rd, B, cy, rw, tl, sp, now, mind, th, tx, q, cv, hu, tr, tp, r, t, hV0, rfl⟩ := hS
  obtain ⟨⟨a1, a2, a3, a4, a5⟩, ⟨b1, b2, b3, b4⟩, ⟨n, m, c0, c1, c2, c3, hq, hW, hH⟩, ⟨d1, d2⟩, ⟨e1, e2⟩, hsp⟩ := id hV0
  have hSH := hV0.sh hW hq
  have hRu := hV0.ru hW hq
  have hn := hW.1.2.1
  have hm := hW.1.2.2.2.1
  have hCI := hW.2.2.2.1
  have hTR := hW.2.2.2.2.1
  refine V.aload_n (q := 836) C dL_law_835 rfl rfl ?_
  refine V.aload_nR (q := 837) C dL_law_836 rfl rfl ?_
  refine V.iload_n (q := 838) C dL_law_837 rfl rfl ?_
  refine V.iconst (q := 839) (v := nI 1) C dL_law_838 rfl (by decide) ?_
  refine V.iadd (q := 840) C dL_law_839 rfl ?_
  refine V.topi (x1 := nI (i + 1)) (nI_add _ _) ?_
  refine V.sld (q := 841) (i := (i + 1)) C X dL_law_840 rfl rfl (by omega) (by omega) ?_
  refine V.callVxi (q := 844) C me_X9_ends (c_ends hSH hCI hTR rfl hH.2.2.1.1 hH.2.2.1.2.1 hH.2.2.1.2.2) ml_L_96 dL_law_841 rfl okC_0 ⟨_, rfl⟩ rfl rfl (Nat.le_of_ble_eq_true rfl) (by omega) (Nat.le_refl _) (Nat.le_refl _) (fun z1 h1 => ?_)
  refine V.aload_n (q := 845) C dL_law_844 rfl rfl ?_
  refine V.aload_nR (q := 846) C dL_law_845 rfl rfl ?_
  refine V.iload_n (q := 847) C dL_law_846 rfl rfl ?_
  refine V.iconst (q := 848) (v := nI 1) C dL_law_847 rfl (by decide) ?_
  refine V.iadd (q := 849) C dL_law_848 rfl ?_
  refine V.topi (x1 := nI (i + 1)) (nI_add _ _) ?_
  refine V.sld (q := 850) (i := (i + 1)) C X dL_law_849 rfl rfl (by omega) (by omega) ?_
  refine V.callVxi (q := 853) C me_X10_ends (m_ends hW.1 hRu hH.2.2.1.1) ml_L_99 dL_law_850 rfl okM ⟨_, rfl⟩ rfl rfl (Nat.le_of_ble_eq_true rfl) (by omega) (Nat.le_refl _) (Nat.le_refl _) (fun z2 h2 => ?_)
  refine V.icmp_eq (q := 856) (tgt := 1298) C dL_law_853 rfl rfl (fun hb853 => ?_) (fun hb853 => ?_)
  · exact kx _ ⟨_, _, _, _, _, _, _, _, _, _, _, _, _, _, _, _, _, _, _, _, (hV0.scr z1.2.1 z1.2.2), rfl⟩
  · exact absurd rfl hb853
set_option maxHeartbeats 1000000 in
theorem law_20 {l : Launch} {g : GG} {b L : Nat} {xs : Nat → Int32} {Γ : Cxt} {Q : State → Prop} {i : Nat} (C : Cx Γ g code x 4 ret 30 600000 7302250) (X : LX Γ g b L xs) (hi : i + 6 ≤ L) (hL : L ≤ 3072) {PH : PHp} (hS : ST g PH) (kx : ∀ PH1 : PHp, ST g PH1 → V l Γ g 4 Q 600000 7302250 NN PH1 1298 [some (.ref b), some (rf g (0, 0, 0)), some (rf g (22, 0, 0)), some (.int (nI i))] []) : V l Γ g 4 Q 600000 7302250 NN PH 858 [some (.ref b), some (rf g (0, 0, 0)), some (rf g (22, 0, 0)), some (.int (nI i))] [] := by
  obtain ⟨h0, ct, cl, rd, B, cy, rw, tl, sp, now, mind, th, tx, q, cv, hu, tr, tp, r, t, hV0, rfl⟩ := hS
  obtain ⟨⟨a1, a2, a3, a4, a5⟩, ⟨b1, b2, b3, b4⟩, ⟨n, m, c0, c1, c2, c3, hq, hW, hH⟩, ⟨d1, d2⟩, ⟨e1, e2⟩, hsp⟩ := id hV0
  have hSH := hV0.sh hW hq
  have hRu := hV0.ru hW hq
  have hn := hW.1.2.1
  have hm := hW.1.2.2.2.1
  have hCI := hW.2.2.2.1
  have hTR := hW.2.2.2.2.1
  refine V.aload_n (q := 859) C dL_law_858 rfl rfl ?_
  refine V.aload_nR (q := 860) C dL_law_859 rfl rfl ?_
  refine V.iload_n (q := 861) C dL_law_860 rfl rfl ?_
  refine V.iconst (q := 862) (v := nI 1) C dL_law_861 rfl (by decide) ?_
  refine V.iadd (q := 863) C dL_law_862 rfl ?_
  refine V.topi (x1 := nI (i + 1)) (nI_add _ _) ?_
  refine V.sld (q := 864) (i := (i + 1)) C X dL_law_863 rfl rfl (by omega) (by omega) ?_
  refine V.aload_nR (q := 865) C dL_law_864 rfl rfl ?_
  refine V.iload_n (q := 866) C dL_law_865 rfl rfl ?_
  refine V.iconst (q := 867) (v := nI 2) C dL_law_866 rfl (by decide) ?_
  refine V.iadd (q := 868) C dL_law_867 rfl ?_
  refine V.topi (x1 := nI (i + 2)) (nI_add _ _) ?_
  refine V.sld (q := 869) (i := (i + 2)) C X dL_law_868 rfl rfl (by omega) (by omega) ?_
  refine V.callVi (q := 872) C me_X9_book (c_book hCI hH.2.2.2.2.2.1 hH.2.2.2.2.1) ml_L_100 dL_law_869 rfl okC_0 ⟨_, rfl⟩ rfl rfl (Nat.le_of_ble_eq_true rfl) (by omega) (Nat.le_refl _) (Nat.le_refl _) ?_
  refine V.aload_n (q := 873) C dL_law_872 rfl rfl ?_
  refine V.aload_nR (q := 874) C dL_law_873 rfl rfl ?_
  refine V.iload_n (q := 875) C dL_law_874 rfl rfl ?_
  refine V.iconst (q := 876) (v := nI 1) C dL_law_875 rfl (by decide) ?_
  refine V.iadd (q := 877) C dL_law_876 rfl ?_
  refine V.topi (x1 := nI (i + 1)) (nI_add _ _) ?_
  refine V.sld (q := 878) (i := (i + 1)) C X dL_law_877 rfl rfl (by omega) (by omega) ?_
  refine V.aload_nR (q := 879) C dL_law_878 rfl rfl ?_
  refine V.iload_n (q := 880) C dL_law_879 rfl rfl ?_
  refine V.iconst (q := 881) (v := nI 2) C dL_law_880 rfl (by decide) ?_
  refine V.iadd (q := 882) C dL_law_881 rfl ?_
  refine V.topi (x1 := nI (i + 2)) (nI_add _ _) ?_
  refine V.sld (q := 883) (i := (i + 2)) C X dL_law_882 rfl rfl (by omega) (by omega) ?_
  refine V.callVi (q := 886) C me_X10_book (m_book hW.1.1 hn hH.2.2.2.1 hH.2.2.2.2.1) ml_L_103 dL_law_883 rfl okM ⟨_, rfl⟩ rfl rfl (Nat.le_of_ble_eq_true rfl) (by omega) (Nat.le_refl _) (Nat.le_refl _) ?_
  refine V.icmp_eq (q := 889) (tgt := 1298) C dL_law_886 rfl rfl (fun hb886 => ?_) (fun hb886 => ?_)
  · exact kx _ ⟨_, _, _, _, _, _, _, _, _, _, _, _, _, _, _, _, _, _, _, _, (hV0.book hq hW hH), rfl⟩
  · exact absurd rfl hb886
set_option maxHeartbeats 1000000 in
theorem law_21 {l : Launch} {g : GG} {b L : Nat} {xs : Nat → Int32} {Γ : Cxt} {Q : State → Prop} {i : Nat} (C : Cx Γ g code x 4 ret 30 600000 7302250) (X : LX Γ g b L xs) (hi : i + 6 ≤ L) (hL : L ≤ 3072) {PH : PHp} (hS : ST g PH) (kx : ∀ PH1 : PHp, ST g PH1 → V l Γ g 4 Q 600000 7302250 NN PH1 1298 [some (.ref b), some (rf g (0, 0, 0)), some (rf g (22, 0, 0)), some (.int (nI i))] []) : V l Γ g 4 Q 600000 7302250 NN PH 891 [some (.ref b), some (rf g (0, 0, 0)), some (rf g (22, 0, 0)), some (.int (nI i))] [] := by
  obtain ⟨h0, ct, cl, rd, B, cy, rw, tl, sp, now, mind, th, tx, q, cv, hu, tr, tp, r, t, hV0, rfl⟩ := hS
  obtain ⟨⟨a1, a2, a3, a4, a5⟩, ⟨b1, b2, b3, b4⟩, ⟨n, m, c0, c1, c2, c3, hq, hW, hH⟩, ⟨d1, d2⟩, ⟨e1, e2⟩, hsp⟩ := id hV0
  have hSH := hV0.sh hW hq
  have hRu := hV0.ru hW hq
  have hn := hW.1.2.1
  have hm := hW.1.2.2.2.1
  have hCI := hW.2.2.2.1
  have hTR := hW.2.2.2.2.1
  refine V.aload_n (q := 892) C dL_law_891 rfl rfl ?_
  refine V.callVi (q := 895) C me_X9_looked (c_looked hTR hn hH.2.2.2.2.2.1 hH.2.2.2.2.1 hH.2.2.2.2.2.2) ml_L_104 dL_law_892 rfl okC_0 ⟨_, rfl⟩ rfl rfl (Nat.le_of_ble_eq_true rfl) (by omega) (Nat.le_refl _) (Nat.le_refl _) ?_
  refine V.aload_n (q := 896) C dL_law_895 rfl rfl ?_
  refine V.callVi (q := 899) C me_X10_looked (m_looked hH.2.2.2.1 hH.2.2.2.2.1 (fun r9 hr9 => by obtain ⟨-, -, j9, hj9, ej9⟩ := hH.2.2.2.2.2.2 r9 hr9; exact ⟨j9, by omega, ej9⟩)) ml_L_107 dL_law_896 rfl okM ⟨_, rfl⟩ rfl rfl (Nat.le_of_ble_eq_true rfl) (by omega) (Nat.le_refl _) (Nat.le_refl _) ?_
  refine V.icmp_eq (q := 902) (tgt := 1298) C dL_law_899 rfl rfl (fun hb899 => ?_) (fun hb899 => ?_)
  · exact kx _ ⟨_, _, _, _, _, _, _, _, _, _, _, _, _, _, _, _, _, _, _, _, hV0, rfl⟩
  · exact absurd rfl hb899
set_option maxHeartbeats 1000000 in
theorem law_22 {l : Launch} {g : GG} {b L : Nat} {xs : Nat → Int32} {Γ : Cxt} {Q : State → Prop} {i : Nat} (C : Cx Γ g code x 4 ret 30 600000 7302250) (X : LX Γ g b L xs) (hi : i + 6 ≤ L) (hL : L ≤ 3072) {PH : PHp} (hS : ST g PH) (kx : ∀ PH1 : PHp, ST g PH1 → V l Γ g 4 Q 600000 7302250 NN PH1 1298 [some (.ref b), some (rf g (0, 0, 0)), some (rf g (22, 0, 0)), some (.int (nI i))] []) : V l Γ g 4 Q 600000 7302250 NN PH 904 [some (.ref b), some (rf g (0, 0, 0)), some (rf g (22, 0, 0)), some (.int (nI i))] [] := by
  obtain ⟨h0, ct, cl, rd, B, cy, rw, tl, sp, now, mind, th, tx, q, cv, hu, tr, tp, r, t, hV0, rfl⟩ := hS
  obtain ⟨so, le, it, mo⟩ := tp
  obtain ⟨⟨a1, a2, a3, a4, a5⟩, ⟨b1, b2, b3, b4⟩, ⟨n, m, c0, c1, c2, c3, hq, hW, hH⟩, ⟨d1, d2⟩, ⟨e1, e2⟩, hsp⟩ := id hV0
  have hSH := hV0.sh hW hq
  have hRu := hV0.ru hW hq
  have hn := hW.1.2.1
  have hm := hW.1.2.2.2.1
  have hCI := hW.2.2.2.1
  have hTR := hW.2.2.2.2.1
  obtain ⟨c9, hc9, hl9⟩ := hsp.len (xs (i + 1))
  refine V.aload_n (q := 905) C dL_law_904 rfl rfl ?_
  refine V.aload_nR (q := 906) C dL_law_905 rfl rfl ?_
  refine V.iload_n (q := 907) C dL_law_906 rfl rfl ?_
  refine V.iconst (q := 908) (v := nI 1) C dL_law_907 rfl (by decide) ?_
  refine V.iadd (q := 909) C dL_law_908 rfl ?_
  refine V.topi (x1 := nI (i + 1)) (nI_add _ _) ?_
  refine V.sld (q := 910) (i := (i + 1)) C X dL_law_909 rfl rfl (by omega) (by omega) ?_
  refine V.aload_nR (q := 911) C dL_law_910 rfl rfl ?_
  refine V.iload_n (q := 912) C dL_law_911 rfl rfl ?_
  refine V.iconst (q := 913) (v := nI 2) C dL_law_912 rfl (by decide) ?_
  refine V.iadd (q := 914) C dL_law_913 rfl ?_
  refine V.topi (x1 := nI (i + 2)) (nI_add _ _) ?_
  refine V.sld (q := 915) (i := (i + 2)) C X dL_law_914 rfl rfl (by omega) (by omega) ?_
  refine V.callVi (q := 918) C me_X9_judge (c_judge hCI hTR hsp hl9 hc9) ml_L_108 dL_law_915 rfl okC_0 ⟨_, rfl⟩ rfl rfl (Nat.le_of_ble_eq_true rfl) (by omega) (Nat.le_refl _) (Nat.le_refl _) ?_
  refine V.aload_n (q := 919) C dL_law_918 rfl rfl ?_
  refine V.aload_nR (q := 920) C dL_law_919 rfl rfl ?_
  refine V.iload_n (q := 921) C dL_law_920 rfl rfl ?_
  refine V.iconst (q := 922) (v := nI 1) C dL_law_921 rfl (by decide) ?_
  refine V.iadd (q := 923) C dL_law_922 rfl ?_
  refine V.topi (x1 := nI (i + 1)) (nI_add _ _) ?_
  refine V.sld (q := 924) (i := (i + 1)) C X dL_law_923 rfl rfl (by omega) (by omega) ?_
  refine V.aload_nR (q := 925) C dL_law_924 rfl rfl ?_
  refine V.iload_n (q := 926) C dL_law_925 rfl rfl ?_
  refine V.iconst (q := 927) (v := nI 2) C dL_law_926 rfl (by decide) ?_
  refine V.iadd (q := 928) C dL_law_927 rfl ?_
  refine V.topi (x1 := nI (i + 2)) (nI_add _ _) ?_
  refine V.sld (q := 929) (i := (i + 2)) C X dL_law_928 rfl rfl (by omega) (by omega) ?_
  refine V.callVi (q := 932) C me_X10_judge (m_judge hW.1.1 hn hl9 hc9) ml_L_111 dL_law_929 rfl okM ⟨_, rfl⟩ rfl rfl (Nat.le_of_ble_eq_true rfl) (by omega) (Nat.le_refl _) (Nat.le_refl _) ?_
  refine V.icmp_eq (q := 935) (tgt := 1298) C dL_law_932 rfl rfl (fun hb932 => ?_) (fun hb932 => ?_)
  · exact kx _ ⟨_, _, _, _, _, _, _, _, _, _, _, _, _, _, _, _, _, _, _, _, hV0, rfl⟩
  · exact absurd rfl hb932
set_option maxHeartbeats 1000000 in
theorem law_23 {l : Launch} {g : GG} {b L : Nat} {xs : Nat → Int32} {Γ : Cxt} {Q : State → Prop} {i : Nat} (C : Cx Γ g code x 4 ret 30 600000 7302250) (X : LX Γ g b L xs) (hi : i + 6 ≤ L) (hL : L ≤ 3072) {PH : PHp} (hS : ST g PH) (kx : ∀ PH1 : PHp, ST g PH1 → V l Γ g 4 Q 600000 7302250 NN PH1 1298 [some (.ref b), some (rf g (0, 0, 0)), some (rf g (22, 0, 0)), some (.int (nI i))] []) : V l Γ g 4 Q 600000 7302250 NN PH 937 [some (.ref b), some (rf g (0, 0, 0)), some (rf g (22, 0, 0)), some (.int (nI i))] [] := by
  obtain ⟨h0, ct, cl, rd, B, cy, rw, tl, sp, now, mind, th, tx, q, cv, hu, tr, tp, r, t, hV0, rfl⟩ := hS
  obtain ⟨⟨a1, a2, a3, a4, a5⟩, ⟨b1, b2, b3, b4⟩, ⟨n, m, c0, c1, c2, c3, hq, hW, hH⟩, ⟨d1, d2⟩, ⟨e1, e2⟩, hsp⟩ := id hV0
  have hSH := hV0.sh hW hq
  have hRu := hV0.ru hW hq
  have hn := hW.1.2.1
  have hm := hW.1.2.2.2.1
  have hCI := hW.2.2.2.1
  have hTR := hW.2.2.2.2.1
  refine V.aload_n (q := 938) C dL_law_937 rfl rfl ?_
  refine V.callVxi (q := 941) C me_X9_image (c_image (A := now) (n := n) (m := m) hCI hTR hH.ks) ml_L_112 dL_law_938 rfl okC_0 ⟨_, rfl⟩ rfl rfl (Nat.le_of_ble_eq_true rfl) (by omega) (Nat.le_refl _) (Nat.le_refl _) (fun z1 h1 => ?_)
  refine V.aload_n (q := 942) C dL_law_941 rfl rfl ?_
  refine V.callVi (q := 945) C me_X10_image m_image ml_L_115 dL_law_942 rfl okM ⟨_, rfl⟩ rfl rfl (Nat.le_of_ble_eq_true rfl) (by omega) (Nat.le_refl _) (Nat.le_refl _) ?_
  refine V.icmp_eq (q := 948) (tgt := 1298) C dL_law_945 rfl rfl (fun hb945 => ?_) (fun hb945 => ?_)
  · exact kx _ ⟨_, _, _, _, _, _, _, _, _, _, _, _, _, _, _, _, _, _, _, _, (hV0.image hq hW hH h1.1 h1.2), rfl⟩
  · exact absurd hW.1.1.symm hb945
set_option maxHeartbeats 1000000 in
theorem law_24 {l : Launch} {g : GG} {b L : Nat} {xs : Nat → Int32} {Γ : Cxt} {Q : State → Prop} {i : Nat} (C : Cx Γ g code x 4 ret 30 600000 7302250) (X : LX Γ g b L xs) (hi : i + 6 ≤ L) (hL : L ≤ 3072) {PH : PHp} (hS : ST g PH) (kx : ∀ PH1 : PHp, ST g PH1 → V l Γ g 4 Q 600000 7302250 NN PH1 1298 [some (.ref b), some (rf g (0, 0, 0)), some (rf g (22, 0, 0)), some (.int (nI i))] []) : V l Γ g 4 Q 600000 7302250 NN PH 950 [some (.ref b), some (rf g (0, 0, 0)), some (rf g (22, 0, 0)), some (.int (nI i))] [] := by
  obtain ⟨h0, ct, cl, rd, B, cy, rw, tl, sp, now, mind, th, tx, q, cv, hu, tr, tp, r, t, hV0, rfl⟩ := hS
  obtain ⟨⟨a1, a2, a3, a4, a5⟩, hb9, hO9, ⟨d1, d2⟩, he9, hsp⟩ := id hV0
  rcases d2 with d2 | ⟨d2, n, m, c0, c1, c2, c3, hq, hW, hH⟩
  · refine V.aload_n (q := 951) C dL_law_950 rfl rfl ?_
    refine V.callVi (q := 954) C me_X9_undo (c_undo0 (d1.trans d2)) ml_L_116 dL_law_951 rfl okC_0 ⟨_, rfl⟩ rfl rfl (Nat.le_of_ble_eq_true rfl) (by omega) (Nat.le_refl _) (Nat.le_refl _) ?_
    refine V.aload_n (q := 955) C dL_law_954 rfl rfl ?_
    refine V.callVi (q := 958) C me_X10_undo m_undo ml_L_119 dL_law_955 rfl okM ⟨_, rfl⟩ rfl rfl (Nat.le_of_ble_eq_true rfl) (by omega) (Nat.le_refl _) (Nat.le_refl _) ?_
    refine V.icmp_eq (q := 961) (tgt := 1298) C dL_law_958 rfl rfl (fun hb958 => ?_) (fun hb958 => ?_)
    · exact kx _ ⟨_, _, _, _, _, _, _, _, _, _, _, _, _, _, _, _, _, _, _, _, (by rw [undoA, if_pos (show th.2 = 0 from d2)]; exact hV0), rfl⟩
    · exact absurd (by rw [undoR, d2]; rfl) hb958
  · refine V.aload_n (q := 951) C dL_law_950 rfl rfl ?_
    refine V.callVxi (q := 954) C me_X9_undo (c_undo1 (A := th.1) (d1.trans d2) hW.2.2.2.1 hW.2.2.2.2.1 hH.ks) ml_L_116 dL_law_951 rfl okC_0 ⟨_, rfl⟩ rfl rfl (Nat.le_of_ble_eq_true rfl) (by omega) (Nat.le_refl _) (Nat.le_refl _) (fun z1 h1 => ?_)
    refine V.aload_n (q := 955) C dL_law_954 rfl rfl ?_
    refine V.callVi (q := 958) C me_X10_undo m_undo ml_L_119 dL_law_955 rfl okM ⟨_, rfl⟩ rfl rfl (Nat.le_of_ble_eq_true rfl) (by omega) (Nat.le_refl _) (Nat.le_refl _) ?_
    refine V.icmp_eq (q := 961) (tgt := 1298) C dL_law_958 rfl rfl (fun hb958 => ?_) (fun hb958 => ?_)
    · exact kx _ ⟨_, _, _, _, _, _, _, _, _, _, _, _, _, _, _, _, _, _, _, _, (by rw [undoA, if_neg (by rw [d2]; decide)]; exact hV0.undo d2 hq hW hH h1.1 h1.2), rfl⟩
    · exact absurd (by rw [undoR, d2, if_neg (by decide)]; exact hW.1.1.symm) hb958
