section
/-- a private method of a class that the tables say can be made, by its rows of tables_1 -/
def lw_okq (q : MethodName × Nat) : Prop := (q.1.cls ≠ "java/lang/invoke/MethodHandle" ∧ q.1.cls ≠ "java/lang/invoke/VarHandle") ∧ Cond.instantiable q.1.cls q.2 ∈ tables_1 ∧ Cond.privateMethod q.1 ∈ tables_1 ∧ Cond.instanceMethod q.1 ∈ tables_1
theorem lw_p0 : lw_okq (⟨"BowlerDents", "daysUntilSore", "(I)I"⟩, 12) := ⟨⟨by decide +kernel, by decide +kernel⟩, List.mem_of_getElem? (i := 20) (by decide +kernel), List.mem_of_getElem? (i := 318) (by decide +kernel), List.mem_of_getElem? (i := 319) (by decide +kernel)⟩
theorem lw_p1 : lw_okq (⟨"BowlerDents", "isMoreHurt", "(I)Z"⟩, 12) := ⟨⟨by decide +kernel, by decide +kernel⟩, List.mem_of_getElem? (i := 20) (by decide +kernel), List.mem_of_getElem? (i := 367) (by decide +kernel), List.mem_of_getElem? (i := 368) (by decide +kernel)⟩
theorem lw_p2 : lw_okq (⟨"BowlerDents", "fitting", "(ZIZ)I"⟩, 12) := ⟨⟨by decide +kernel, by decide +kernel⟩, List.mem_of_getElem? (i := 20) (by decide +kernel), List.mem_of_getElem? (i := 371) (by decide +kernel), List.mem_of_getElem? (i := 372) (by decide +kernel)⟩
theorem lw_p3 : lw_okq (⟨"BowlerDents", "rowsFit", "(ZIZ)Z"⟩, 12) := ⟨⟨by decide +kernel, by decide +kernel⟩, List.mem_of_getElem? (i := 20) (by decide +kernel), List.mem_of_getElem? (i := 375) (by decide +kernel), List.mem_of_getElem? (i := 376) (by decide +kernel)⟩
theorem lw_p4 : lw_okq (⟨"BowlerDents", "trialValue", "(IZ)I"⟩, 12) := ⟨⟨by decide +kernel, by decide +kernel⟩, List.mem_of_getElem? (i := 20) (by decide +kernel), List.mem_of_getElem? (i := 383) (by decide +kernel), List.mem_of_getElem? (i := 384) (by decide +kernel)⟩
theorem lw_p5 : lw_okq (⟨"BowlerDents$Reader", "isEither", "(LBowlerDents$City;I)Z"⟩, 3) := ⟨⟨by decide +kernel, by decide +kernel⟩, List.mem_of_getElem? (i := 55) (by decide +kernel), List.mem_of_getElem? (i := 508) (by decide +kernel), List.mem_of_getElem? (i := 509) (by decide +kernel)⟩
theorem lw_p6 : lw_okq (⟨"BowlerDents$Reader", "isBoth", "(LBowlerDents$City;I)Z"⟩, 3) := ⟨⟨by decide +kernel, by decide +kernel⟩, List.mem_of_getElem? (i := 55) (by decide +kernel), List.mem_of_getElem? (i := 512) (by decide +kernel), List.mem_of_getElem? (i := 513) (by decide +kernel)⟩
theorem lw_p7 : lw_okq (⟨"BowlerDents$Reader", "isFactor", "(LBowlerDents$City;I)Z"⟩, 3) := ⟨⟨by decide +kernel, by decide +kernel⟩, List.mem_of_getElem? (i := 55) (by decide +kernel), List.mem_of_getElem? (i := 516) (by decide +kernel), List.mem_of_getElem? (i := 517) (by decide +kernel)⟩
theorem lw_p8 : lw_okq (⟨"BowlerDents", "fewestToMend", "(I)I"⟩, 12) := ⟨⟨by decide +kernel, by decide +kernel⟩, List.mem_of_getElem? (i := 20) (by decide +kernel), List.mem_of_getElem? (i := 613) (by decide +kernel), List.mem_of_getElem? (i := 614) (by decide +kernel)⟩
theorem lw_p9 : lw_okq (⟨"BowlerDents", "moreHurtBits", "()I"⟩, 12) := ⟨⟨by decide +kernel, by decide +kernel⟩, List.mem_of_getElem? (i := 20) (by decide +kernel), List.mem_of_getElem? (i := 617) (by decide +kernel), List.mem_of_getElem? (i := 618) (by decide +kernel)⟩
theorem lw_p10 : lw_okq (⟨"BowlerDents", "bestChange", "(I)I"⟩, 12) := ⟨⟨by decide +kernel, by decide +kernel⟩, List.mem_of_getElem? (i := 20) (by decide +kernel), List.mem_of_getElem? (i := 621) (by decide +kernel), List.mem_of_getElem? (i := 622) (by decide +kernel)⟩
theorem lw_p11 : lw_okq (⟨"BowlerDents", "bestTarget", "(II)I"⟩, 12) := ⟨⟨by decide +kernel, by decide +kernel⟩, List.mem_of_getElem? (i := 20) (by decide +kernel), List.mem_of_getElem? (i := 625) (by decide +kernel), List.mem_of_getElem? (i := 626) (by decide +kernel)⟩
theorem lw_p12 : lw_okq (⟨"BowlerDents", "followPlan", "(II)V"⟩, 12) := ⟨⟨by decide +kernel, by decide +kernel⟩, List.mem_of_getElem? (i := 20) (by decide +kernel), List.mem_of_getElem? (i := 670) (by decide +kernel), List.mem_of_getElem? (i := 671) (by decide +kernel)⟩
theorem lw_p13 : lw_okq (⟨"BowlerDentsModel", "change", "(III)I"⟩, 30) := ⟨⟨by decide +kernel, by decide +kernel⟩, List.mem_of_getElem? (i := 768) (by decide +kernel), List.mem_of_getElem? (i := 884) (by decide +kernel), List.mem_of_getElem? (i := 885) (by decide +kernel)⟩
theorem lw_p14 : lw_okq (⟨"BowlerDentsModel", "one", "(II)I"⟩, 30) := ⟨⟨by decide +kernel, by decide +kernel⟩, List.mem_of_getElem? (i := 768) (by decide +kernel), List.mem_of_getElem? (i := 888) (by decide +kernel), List.mem_of_getElem? (i := 889) (by decide +kernel)⟩
theorem lw_p15 : lw_okq (⟨"BowlerDentsModel", "isOne", "(I)Z"⟩, 30) := ⟨⟨by decide +kernel, by decide +kernel⟩, List.mem_of_getElem? (i := 768) (by decide +kernel), List.mem_of_getElem? (i := 896) (by decide +kernel), List.mem_of_getElem? (i := 897) (by decide +kernel)⟩
def lw_privs_1 : List (MethodName × Nat) := [(⟨"BowlerDents", "daysUntilSore", "(I)I"⟩, 12), (⟨"BowlerDents", "isMoreHurt", "(I)Z"⟩, 12), (⟨"BowlerDents", "fitting", "(ZIZ)I"⟩, 12), (⟨"BowlerDents", "rowsFit", "(ZIZ)Z"⟩, 12), (⟨"BowlerDents", "trialValue", "(IZ)I"⟩, 12), (⟨"BowlerDents$Reader", "isEither", "(LBowlerDents$City;I)Z"⟩, 3), (⟨"BowlerDents$Reader", "isBoth", "(LBowlerDents$City;I)Z"⟩, 3), (⟨"BowlerDents$Reader", "isFactor", "(LBowlerDents$City;I)Z"⟩, 3), (⟨"BowlerDents", "fewestToMend", "(I)I"⟩, 12), (⟨"BowlerDents", "moreHurtBits", "()I"⟩, 12), (⟨"BowlerDents", "bestChange", "(I)I"⟩, 12), (⟨"BowlerDents", "bestTarget", "(II)I"⟩, 12), (⟨"BowlerDents", "followPlan", "(II)V"⟩, 12), (⟨"BowlerDentsModel", "change", "(III)I"⟩, 30), (⟨"BowlerDentsModel", "one", "(II)I"⟩, 30), (⟨"BowlerDentsModel", "isOne", "(I)Z"⟩, 30)]
theorem lw_r1 : ∀ q ∈ lw_privs_1, lw_okq q := List.forall_mem_cons.mpr ⟨lw_p0, List.forall_mem_cons.mpr ⟨lw_p1, List.forall_mem_cons.mpr ⟨lw_p2, List.forall_mem_cons.mpr ⟨lw_p3, List.forall_mem_cons.mpr ⟨lw_p4, List.forall_mem_cons.mpr ⟨lw_p5, List.forall_mem_cons.mpr ⟨lw_p6, List.forall_mem_cons.mpr ⟨lw_p7, List.forall_mem_cons.mpr ⟨lw_p8, List.forall_mem_cons.mpr ⟨lw_p9, List.forall_mem_cons.mpr ⟨lw_p10, List.forall_mem_cons.mpr ⟨lw_p11, List.forall_mem_cons.mpr ⟨lw_p12, List.forall_mem_cons.mpr ⟨lw_p13, List.forall_mem_cons.mpr ⟨lw_p14, List.forall_mem_cons.mpr ⟨lw_p15, fun _ h => absurd h List.not_mem_nil⟩⟩⟩⟩⟩⟩⟩⟩⟩⟩⟩⟩⟩⟩⟩⟩
theorem lw_p16 : lw_okq (⟨"BowlerDentsModel", "sore", "(I)I"⟩, 30) := ⟨⟨by decide +kernel, by decide +kernel⟩, List.mem_of_getElem? (i := 768) (by decide +kernel), List.mem_of_getElem? (i := 900) (by decide +kernel), List.mem_of_getElem? (i := 901) (by decide +kernel)⟩
theorem lw_p17 : lw_okq (⟨"BowlerDentsModel", "day", "()V"⟩, 30) := ⟨⟨by decide +kernel, by decide +kernel⟩, List.mem_of_getElem? (i := 768) (by decide +kernel), List.mem_of_getElem? (i := 904) (by decide +kernel), List.mem_of_getElem? (i := 905) (by decide +kernel)⟩
theorem lw_p18 : lw_okq (⟨"BowlerDentsModel", "rubNow", "()I"⟩, 30) := ⟨⟨by decide +kernel, by decide +kernel⟩, List.mem_of_getElem? (i := 768) (by decide +kernel), List.mem_of_getElem? (i := 908) (by decide +kernel), List.mem_of_getElem? (i := 909) (by decide +kernel)⟩
theorem lw_p19 : lw_okq (⟨"BowlerDentsModel", "readFor", "(II)V"⟩, 30) := ⟨⟨by decide +kernel, by decide +kernel⟩, List.mem_of_getElem? (i := 768) (by decide +kernel), List.mem_of_getElem? (i := 912) (by decide +kernel), List.mem_of_getElem? (i := 913) (by decide +kernel)⟩
theorem lw_p20 : lw_okq (⟨"BowlerDentsModel", "readAll", "()Z"⟩, 30) := ⟨⟨by decide +kernel, by decide +kernel⟩, List.mem_of_getElem? (i := 768) (by decide +kernel), List.mem_of_getElem? (i := 916) (by decide +kernel), List.mem_of_getElem? (i := 917) (by decide +kernel)⟩
theorem lw_p21 : lw_okq (⟨"BowlerDentsModel", "clause", "()V"⟩, 30) := ⟨⟨by decide +kernel, by decide +kernel⟩, List.mem_of_getElem? (i := 768) (by decide +kernel), List.mem_of_getElem? (i := 920) (by decide +kernel), List.mem_of_getElem? (i := 921) (by decide +kernel)⟩
theorem lw_p22 : lw_okq (⟨"BowlerDentsModel", "isAt", "(I)Z"⟩, 30) := ⟨⟨by decide +kernel, by decide +kernel⟩, List.mem_of_getElem? (i := 768) (by decide +kernel), List.mem_of_getElem? (i := 924) (by decide +kernel), List.mem_of_getElem? (i := 925) (by decide +kernel)⟩
theorem lw_p23 : lw_okq (⟨"BowlerDentsModel", "takes", "(I)V"⟩, 30) := ⟨⟨by decide +kernel, by decide +kernel⟩, List.mem_of_getElem? (i := 768) (by decide +kernel), List.mem_of_getElem? (i := 928) (by decide +kernel), List.mem_of_getElem? (i := 929) (by decide +kernel)⟩
theorem lw_p24 : lw_okq (⟨"BowlerDentsModel", "number", "()I"⟩, 30) := ⟨⟨by decide +kernel, by decide +kernel⟩, List.mem_of_getElem? (i := 768) (by decide +kernel), List.mem_of_getElem? (i := 932) (by decide +kernel), List.mem_of_getElem? (i := 933) (by decide +kernel)⟩
theorem lw_p25 : lw_okq (⟨"BowlerDentsModel", "isDigit", "()Z"⟩, 30) := ⟨⟨by decide +kernel, by decide +kernel⟩, List.mem_of_getElem? (i := 768) (by decide +kernel), List.mem_of_getElem? (i := 936) (by decide +kernel), List.mem_of_getElem? (i := 937) (by decide +kernel)⟩
theorem lw_p26 : lw_okq (⟨"BowlerDentsModel", "any", "()Z"⟩, 30) := ⟨⟨by decide +kernel, by decide +kernel⟩, List.mem_of_getElem? (i := 768) (by decide +kernel), List.mem_of_getElem? (i := 940) (by decide +kernel), List.mem_of_getElem? (i := 941) (by decide +kernel)⟩
theorem lw_p27 : lw_okq (⟨"BowlerDentsModel", "both", "()Z"⟩, 30) := ⟨⟨by decide +kernel, by decide +kernel⟩, List.mem_of_getElem? (i := 768) (by decide +kernel), List.mem_of_getElem? (i := 944) (by decide +kernel), List.mem_of_getElem? (i := 945) (by decide +kernel)⟩
theorem lw_p28 : lw_okq (⟨"BowlerDentsModel", "factor", "()Z"⟩, 30) := ⟨⟨by decide +kernel, by decide +kernel⟩, List.mem_of_getElem? (i := 768) (by decide +kernel), List.mem_of_getElem? (i := 948) (by decide +kernel), List.mem_of_getElem? (i := 949) (by decide +kernel)⟩
theorem lw_p29 : lw_okq (⟨"BowlerDentsModel", "test", "()Z"⟩, 30) := ⟨⟨by decide +kernel, by decide +kernel⟩, List.mem_of_getElem? (i := 768) (by decide +kernel), List.mem_of_getElem? (i := 952) (by decide +kernel), List.mem_of_getElem? (i := 953) (by decide +kernel)⟩
theorem lw_p30 : lw_okq (⟨"BowlerDentsModel", "isStriking", "(I)Z"⟩, 30) := ⟨⟨by decide +kernel, by decide +kernel⟩, List.mem_of_getElem? (i := 768) (by decide +kernel), List.mem_of_getElem? (i := 956) (by decide +kernel), List.mem_of_getElem? (i := 957) (by decide +kernel)⟩
theorem lw_p31 : lw_okq (⟨"BowlerDentsModel", "word", "(II)I"⟩, 30) := ⟨⟨by decide +kernel, by decide +kernel⟩, List.mem_of_getElem? (i := 768) (by decide +kernel), List.mem_of_getElem? (i := 960) (by decide +kernel), List.mem_of_getElem? (i := 961) (by decide +kernel)⟩
def lw_privs_2 : List (MethodName × Nat) := [(⟨"BowlerDentsModel", "sore", "(I)I"⟩, 30), (⟨"BowlerDentsModel", "day", "()V"⟩, 30), (⟨"BowlerDentsModel", "rubNow", "()I"⟩, 30), (⟨"BowlerDentsModel", "readFor", "(II)V"⟩, 30), (⟨"BowlerDentsModel", "readAll", "()Z"⟩, 30), (⟨"BowlerDentsModel", "clause", "()V"⟩, 30), (⟨"BowlerDentsModel", "isAt", "(I)Z"⟩, 30), (⟨"BowlerDentsModel", "takes", "(I)V"⟩, 30), (⟨"BowlerDentsModel", "number", "()I"⟩, 30), (⟨"BowlerDentsModel", "isDigit", "()Z"⟩, 30), (⟨"BowlerDentsModel", "any", "()Z"⟩, 30), (⟨"BowlerDentsModel", "both", "()Z"⟩, 30), (⟨"BowlerDentsModel", "factor", "()Z"⟩, 30), (⟨"BowlerDentsModel", "test", "()Z"⟩, 30), (⟨"BowlerDentsModel", "isStriking", "(I)Z"⟩, 30), (⟨"BowlerDentsModel", "word", "(II)I"⟩, 30)]
theorem lw_r2 : ∀ q ∈ lw_privs_2, lw_okq q := List.forall_mem_cons.mpr ⟨lw_p16, List.forall_mem_cons.mpr ⟨lw_p17, List.forall_mem_cons.mpr ⟨lw_p18, List.forall_mem_cons.mpr ⟨lw_p19, List.forall_mem_cons.mpr ⟨lw_p20, List.forall_mem_cons.mpr ⟨lw_p21, List.forall_mem_cons.mpr ⟨lw_p22, List.forall_mem_cons.mpr ⟨lw_p23, List.forall_mem_cons.mpr ⟨lw_p24, List.forall_mem_cons.mpr ⟨lw_p25, List.forall_mem_cons.mpr ⟨lw_p26, List.forall_mem_cons.mpr ⟨lw_p27, List.forall_mem_cons.mpr ⟨lw_p28, List.forall_mem_cons.mpr ⟨lw_p29, List.forall_mem_cons.mpr ⟨lw_p30, List.forall_mem_cons.mpr ⟨lw_p31, fun _ h => absurd h List.not_mem_nil⟩⟩⟩⟩⟩⟩⟩⟩⟩⟩⟩⟩⟩⟩⟩⟩
theorem lw_p32 : lw_okq (⟨"BowlerDentsModel", "strikes", "(II)V"⟩, 30) := ⟨⟨by decide +kernel, by decide +kernel⟩, List.mem_of_getElem? (i := 768) (by decide +kernel), List.mem_of_getElem? (i := 964) (by decide +kernel), List.mem_of_getElem? (i := 965) (by decide +kernel)⟩
theorem lw_p33 : lw_okq (⟨"BowlerDentsModel", "guard", "(II)I"⟩, 30) := ⟨⟨by decide +kernel, by decide +kernel⟩, List.mem_of_getElem? (i := 768) (by decide +kernel), List.mem_of_getElem? (i := 968) (by decide +kernel), List.mem_of_getElem? (i := 969) (by decide +kernel)⟩
theorem lw_p34 : lw_okq (⟨"BowlerDentsModel", "covers", "(IZ)I"⟩, 30) := ⟨⟨by decide +kernel, by decide +kernel⟩, List.mem_of_getElem? (i := 768) (by decide +kernel), List.mem_of_getElem? (i := 974) (by decide +kernel), List.mem_of_getElem? (i := 975) (by decide +kernel)⟩
theorem lw_p35 : lw_okq (⟨"BowlerDentsModel", "fits", "(IIIIZ)I"⟩, 30) := ⟨⟨by decide +kernel, by decide +kernel⟩, List.mem_of_getElem? (i := 768) (by decide +kernel), List.mem_of_getElem? (i := 978) (by decide +kernel), List.mem_of_getElem? (i := 979) (by decide +kernel)⟩
theorem lw_p36 : lw_okq (⟨"BowlerDentsModel", "isAllSo", "(I)Z"⟩, 30) := ⟨⟨by decide +kernel, by decide +kernel⟩, List.mem_of_getElem? (i := 768) (by decide +kernel), List.mem_of_getElem? (i := 982) (by decide +kernel), List.mem_of_getElem? (i := 983) (by decide +kernel)⟩
theorem lw_p37 : lw_okq (⟨"BowlerDentsModel", "isSaying", "(I)Z"⟩, 30) := ⟨⟨by decide +kernel, by decide +kernel⟩, List.mem_of_getElem? (i := 768) (by decide +kernel), List.mem_of_getElem? (i := 986) (by decide +kernel), List.mem_of_getElem? (i := 987) (by decide +kernel)⟩
theorem lw_p38 : lw_okq (⟨"BowlerDentsModel", "aims", "(II)I"⟩, 30) := ⟨⟨by decide +kernel, by decide +kernel⟩, List.mem_of_getElem? (i := 768) (by decide +kernel), List.mem_of_getElem? (i := 994) (by decide +kernel), List.mem_of_getElem? (i := 995) (by decide +kernel)⟩
theorem lw_p39 : lw_okq (⟨"BowlerDentsModel", "all", "(I)I"⟩, 30) := ⟨⟨by decide +kernel, by decide +kernel⟩, List.mem_of_getElem? (i := 768) (by decide +kernel), List.mem_of_getElem? (i := 1029) (by decide +kernel), List.mem_of_getElem? (i := 1030) (by decide +kernel)⟩
theorem lw_p40 : lw_okq (⟨"BowlerDentsModel", "days", "(I)V"⟩, 30) := ⟨⟨by decide +kernel, by decide +kernel⟩, List.mem_of_getElem? (i := 768) (by decide +kernel), List.mem_of_getElem? (i := 1037) (by decide +kernel), List.mem_of_getElem? (i := 1038) (by decide +kernel)⟩
theorem lw_p41 : lw_okq (⟨"BowlerDentsModel", "mends", "(I)I"⟩, 30) := ⟨⟨by decide +kernel, by decide +kernel⟩, List.mem_of_getElem? (i := 768) (by decide +kernel), List.mem_of_getElem? (i := 1049) (by decide +kernel), List.mem_of_getElem? (i := 1050) (by decide +kernel)⟩
theorem lw_p42 : lw_okq (⟨"BowlerDentsModel", "hurtBehind", "(I)I"⟩, 30) := ⟨⟨by decide +kernel, by decide +kernel⟩, List.mem_of_getElem? (i := 768) (by decide +kernel), List.mem_of_getElem? (i := 1056) (by decide +kernel), List.mem_of_getElem? (i := 1057) (by decide +kernel)⟩
theorem lw_p43 : lw_okq (⟨"BowlerDentsModel", "changes", "(I)I"⟩, 30) := ⟨⟨by decide +kernel, by decide +kernel⟩, List.mem_of_getElem? (i := 768) (by decide +kernel), List.mem_of_getElem? (i := 1060) (by decide +kernel), List.mem_of_getElem? (i := 1061) (by decide +kernel)⟩
theorem lw_p44 : lw_okq (⟨"BowlerDentsModel", "swap", "(II)V"⟩, 30) := ⟨⟨by decide +kernel, by decide +kernel⟩, List.mem_of_getElem? (i := 768) (by decide +kernel), List.mem_of_getElem? (i := 1064) (by decide +kernel), List.mem_of_getElem? (i := 1065) (by decide +kernel)⟩
theorem lw_p45 : lw_okq (⟨"BowlerDentsModel", "aimOf", "(II)I"⟩, 30) := ⟨⟨by decide +kernel, by decide +kernel⟩, List.mem_of_getElem? (i := 768) (by decide +kernel), List.mem_of_getElem? (i := 1068) (by decide +kernel), List.mem_of_getElem? (i := 1069) (by decide +kernel)⟩
theorem lw_p46 : lw_okq (⟨"BowlerDentsModel", "comes", "(IIII)I"⟩, 30) := ⟨⟨by decide +kernel, by decide +kernel⟩, List.mem_of_getElem? (i := 768) (by decide +kernel), List.mem_of_getElem? (i := 1077) (by decide +kernel), List.mem_of_getElem? (i := 1078) (by decide +kernel)⟩
theorem lw_p47 : lw_okq (⟨"BowlerDentsModel", "begin", "(III)I"⟩, 30) := ⟨⟨by decide +kernel, by decide +kernel⟩, List.mem_of_getElem? (i := 768) (by decide +kernel), List.mem_of_getElem? (i := 1122) (by decide +kernel), List.mem_of_getElem? (i := 1123) (by decide +kernel)⟩
def lw_privs_3 : List (MethodName × Nat) := [(⟨"BowlerDentsModel", "strikes", "(II)V"⟩, 30), (⟨"BowlerDentsModel", "guard", "(II)I"⟩, 30), (⟨"BowlerDentsModel", "covers", "(IZ)I"⟩, 30), (⟨"BowlerDentsModel", "fits", "(IIIIZ)I"⟩, 30), (⟨"BowlerDentsModel", "isAllSo", "(I)Z"⟩, 30), (⟨"BowlerDentsModel", "isSaying", "(I)Z"⟩, 30), (⟨"BowlerDentsModel", "aims", "(II)I"⟩, 30), (⟨"BowlerDentsModel", "all", "(I)I"⟩, 30), (⟨"BowlerDentsModel", "days", "(I)V"⟩, 30), (⟨"BowlerDentsModel", "mends", "(I)I"⟩, 30), (⟨"BowlerDentsModel", "hurtBehind", "(I)I"⟩, 30), (⟨"BowlerDentsModel", "changes", "(I)I"⟩, 30), (⟨"BowlerDentsModel", "swap", "(II)V"⟩, 30), (⟨"BowlerDentsModel", "aimOf", "(II)I"⟩, 30), (⟨"BowlerDentsModel", "comes", "(IIII)I"⟩, 30), (⟨"BowlerDentsModel", "begin", "(III)I"⟩, 30)]
theorem lw_r3 : ∀ q ∈ lw_privs_3, lw_okq q := List.forall_mem_cons.mpr ⟨lw_p32, List.forall_mem_cons.mpr ⟨lw_p33, List.forall_mem_cons.mpr ⟨lw_p34, List.forall_mem_cons.mpr ⟨lw_p35, List.forall_mem_cons.mpr ⟨lw_p36, List.forall_mem_cons.mpr ⟨lw_p37, List.forall_mem_cons.mpr ⟨lw_p38, List.forall_mem_cons.mpr ⟨lw_p39, List.forall_mem_cons.mpr ⟨lw_p40, List.forall_mem_cons.mpr ⟨lw_p41, List.forall_mem_cons.mpr ⟨lw_p42, List.forall_mem_cons.mpr ⟨lw_p43, List.forall_mem_cons.mpr ⟨lw_p44, List.forall_mem_cons.mpr ⟨lw_p45, List.forall_mem_cons.mpr ⟨lw_p46, List.forall_mem_cons.mpr ⟨lw_p47, fun _ h => absurd h List.not_mem_nil⟩⟩⟩⟩⟩⟩⟩⟩⟩⟩⟩⟩⟩⟩⟩⟩
theorem lw_p48 : lw_okq (⟨"BowlerDentsModel", "byKind", "(IIII)I"⟩, 30) := ⟨⟨by decide +kernel, by decide +kernel⟩, List.mem_of_getElem? (i := 768) (by decide +kernel), List.mem_of_getElem? (i := 1126) (by decide +kernel), List.mem_of_getElem? (i := 1127) (by decide +kernel)⟩
theorem lw_p49 : lw_okq (⟨"BowlerDentsModel", "body", "(I)I"⟩, 30) := ⟨⟨by decide +kernel, by decide +kernel⟩, List.mem_of_getElem? (i := 768) (by decide +kernel), List.mem_of_getElem? (i := 1130) (by decide +kernel), List.mem_of_getElem? (i := 1131) (by decide +kernel)⟩
def lw_privs_4 : List (MethodName × Nat) := [(⟨"BowlerDentsModel", "byKind", "(IIII)I"⟩, 30), (⟨"BowlerDentsModel", "body", "(I)I"⟩, 30)]
theorem lw_r4 : ∀ q ∈ lw_privs_4, lw_okq q := List.forall_mem_cons.mpr ⟨lw_p48, List.forall_mem_cons.mpr ⟨lw_p49, fun _ h => absurd h List.not_mem_nil⟩⟩
def lw_privs : List (MethodName × Nat) := lw_privs_1 ++ (lw_privs_2 ++ (lw_privs_3 ++ (lw_privs_4)))
def lw_tbl : List Cond := k2_sels lw_privs ++ tables_1
theorem lw_privs_ok : ∀ q ∈ lw_privs, lw_okq q := by
  show ∀ q ∈ lw_privs_1 ++ (lw_privs_2 ++ (lw_privs_3 ++ (lw_privs_4))), lw_okq q
  exact List.forall_mem_append.mpr ⟨lw_r1, List.forall_mem_append.mpr ⟨lw_r2, List.forall_mem_append.mpr ⟨lw_r3, lw_r4⟩⟩⟩
def RX0 : String := "BowlerDents$City"
def TX0 : u_T := fun k => match k with
  | 0 => ("BowlerDents$City", "steps", "[I", true)
  | 1 => ("BowlerDents$City", "numbers", "[I", true)
  | 2 => ("BowlerDents$City", "letters", "[I", true)
  | 3 => ("BowlerDents$City", "stepCount", "I", false)
  | _ => ("BowlerDents$City", "rub", "I", false)
def tyX0 : Nat → FieldType := fun k => match k with
  | 0 => .array .int
  | 1 => .array .int
  | 2 => .array .int
  | 3 => .int
  | _ => .int
theorem nmX0 : ∀ a, a < 5 → ∀ b, b < 5 → a ≠ b → (TX0 a).2.1 ≠ (TX0 b).2.1 := by decide +kernel
theorem tyX0_ok : ∀ k, k < 5 → parseFieldDescriptor (TX0 k).2.2.1 = some (tyX0 k) := by decide +kernel
abbrev cX0_init : ByteArray := prog_2_method_1_code
def yX0_init : MethodName := ⟨RX0, "<init>", "()V"⟩
abbrev cX0_clear : ByteArray := prog_2_method_2_code
def yX0_clear : MethodName := ⟨RX0, "clear", "()V"⟩
abbrev cX0_put : ByteArray := prog_2_method_3_code
def yX0_put : MethodName := ⟨RX0, "put", "(II)V"⟩
abbrev cX0_sum : ByteArray := prog_2_method_4_code
def yX0_sum : MethodName := ⟨RX0, "sum", "(LBowlerDents$Wearer;II)I"⟩
def RX1 : String := "BowlerDents$Hand"
def TX1 : u_T := fun k => match k with
  | 0 => ("BowlerDents$Hand", "seen", "LBowlerDents$Rows;", true)
  | 1 => ("BowlerDents$Hand", "sores", "LBowlerDents$Rows;", true)
  | 2 => ("BowlerDents$Hand", "plan", "LBowlerDents$Rows;", true)
  | _ => ("BowlerDents$Hand", "book", "LBowlerDents$Rows;", true)
def tyX1 : Nat → FieldType := fun k => match k with
  | 0 => .object "BowlerDents$Rows"
  | 1 => .object "BowlerDents$Rows"
  | 2 => .object "BowlerDents$Rows"
  | _ => .object "BowlerDents$Rows"
theorem nmX1 : ∀ a, a < 4 → ∀ b, b < 4 → a ≠ b → (TX1 a).2.1 ≠ (TX1 b).2.1 := by decide +kernel
theorem tyX1_ok : ∀ k, k < 4 → parseFieldDescriptor (TX1 k).2.2.1 = some (tyX1 k) := by decide +kernel
abbrev cX1_init : ByteArray := prog_3_method_1_code
def yX1_init : MethodName := ⟨RX1, "<init>", "()V"⟩
abbrev cX1_become : ByteArray := prog_3_method_2_code
def yX1_become : MethodName := ⟨RX1, "become", "(LBowlerDents$Hand;)V"⟩
def RX2 : String := "BowlerDents$Reader"
def TX2 : u_T := fun k => match k with
  | 0 => ("BowlerDents$Reader", "text", "[B", true)
  | 1 => ("BowlerDents$Reader", "length", "I", false)
  | _ => ("BowlerDents$Reader", "place", "I", false)
def tyX2 : Nat → FieldType := fun k => match k with
  | 0 => .array .byte
  | 1 => .int
  | _ => .int
theorem nmX2 : ∀ a, a < 3 → ∀ b, b < 3 → a ≠ b → (TX2 a).2.1 ≠ (TX2 b).2.1 := by decide +kernel
theorem tyX2_ok : ∀ k, k < 3 → parseFieldDescriptor (TX2 k).2.2.1 = some (tyX2 k) := by decide +kernel
abbrev cX2_init : ByteArray := prog_4_method_1_code
def yX2_init : MethodName := ⟨RX2, "<init>", "()V"⟩
abbrev cX2_takes : ByteArray := prog_4_method_2_code
def yX2_takes : MethodName := ⟨RX2, "takes", "(I)I"⟩
abbrev cX2_makes : ByteArray := prog_4_method_3_code
def yX2_makes : MethodName := ⟨RX2, "makes", "(LBowlerDents$City;)Z"⟩
abbrev cX2_isClause : ByteArray := prog_4_method_4_code
def yX2_isClause : MethodName := ⟨RX2, "isClause", "(LBowlerDents$City;)Z"⟩
abbrev cX2_isEither : ByteArray := prog_4_method_5_code
def yX2_isEither : MethodName := ⟨RX2, "isEither", "(LBowlerDents$City;I)Z"⟩
abbrev cX2_isBoth : ByteArray := prog_4_method_6_code
def yX2_isBoth : MethodName := ⟨RX2, "isBoth", "(LBowlerDents$City;I)Z"⟩
abbrev cX2_isFactor : ByteArray := prog_4_method_7_code
def yX2_isFactor : MethodName := ⟨RX2, "isFactor", "(LBowlerDents$City;I)Z"⟩
abbrev cX2_number : ByteArray := prog_4_method_8_code
def yX2_number : MethodName := ⟨RX2, "number", "()I"⟩
abbrev cX2_signOf : ByteArray := prog_4_method_9_code
def yX2_signOf : MethodName := ⟨RX2, "signOf", "(Ljava/lang/String;)I"⟩
abbrev cX2_isWord : ByteArray := prog_4_method_10_code
def yX2_isWord : MethodName := ⟨RX2, "isWord", "(Ljava/lang/String;)Z"⟩
abbrev cX2_isSign : ByteArray := prog_4_method_11_code
def yX2_isSign : MethodName := ⟨RX2, "isSign", "(C)Z"⟩
def RX3 : String := "BowlerDents$Rows"
def TX3 : u_T := fun k => match k with
  | 0 => ("BowlerDents$Rows", "who", "[I", true)
  | 1 => ("BowlerDents$Rows", "sort", "[I", true)
  | 2 => ("BowlerDents$Rows", "value", "[I", true)
  | _ => ("BowlerDents$Rows", "count", "I", false)
def tyX3 : Nat → FieldType := fun k => match k with
  | 0 => .array .int
  | 1 => .array .int
  | 2 => .array .int
  | _ => .int
theorem nmX3 : ∀ a, a < 4 → ∀ b, b < 4 → a ≠ b → (TX3 a).2.1 ≠ (TX3 b).2.1 := by decide +kernel
theorem tyX3_ok : ∀ k, k < 4 → parseFieldDescriptor (TX3 k).2.2.1 = some (tyX3 k) := by decide +kernel
abbrev cX3_init : ByteArray := prog_5_method_1_code
def yX3_init : MethodName := ⟨RX3, "<init>", "(I)V"⟩
abbrev cX3_empty : ByteArray := prog_5_method_2_code
def yX3_empty : MethodName := ⟨RX3, "empty", "()I"⟩
abbrev cX3_add : ByteArray := prog_5_method_3_code
def yX3_add : MethodName := ⟨RX3, "add", "(III)I"⟩
abbrev cX3_lastDay : ByteArray := prog_5_method_4_code
def yX3_lastDay : MethodName := ⟨RX3, "lastDay", "()I"⟩
abbrev cX3_become : ByteArray := prog_5_method_5_code
def yX3_become : MethodName := ⟨RX3, "become", "(LBowlerDents$Rows;)V"⟩
def RX4 : String := "BowlerDents$Saying"
def TX4 : u_T := fun k => match k with
  | 0 => ("BowlerDents$Saying", "hard", "I", false)
  | 1 => ("BowlerDents$Saying", "every", "I", false)
  | _ => ("BowlerDents$Saying", "target", "I", false)
def tyX4 : Nat → FieldType := fun k => match k with
  | 0 => .int
  | 1 => .int
  | _ => .int
theorem nmX4 : ∀ a, a < 3 → ∀ b, b < 3 → a ≠ b → (TX4 a).2.1 ≠ (TX4 b).2.1 := by decide +kernel
theorem tyX4_ok : ∀ k, k < 3 → parseFieldDescriptor (TX4 k).2.2.1 = some (tyX4 k) := by decide +kernel
abbrev cX4_init : ByteArray := prog_6_method_1_code
def yX4_init : MethodName := ⟨RX4, "<init>", "()V"⟩
abbrev cX4_become : ByteArray := prog_6_method_2_code
def yX4_become : MethodName := ⟨RX4, "become", "(LBowlerDents$Saying;)V"⟩
def RX5 : String := "BowlerDents$Strip"
def TX5 : u_T := fun k => match k with
  | 0 => ("BowlerDents$Strip", "items", "[J", true)
  | 1 => ("BowlerDents$Strip", "sort", "I", false)
  | _ => ("BowlerDents$Strip", "length", "I", false)
def tyX5 : Nat → FieldType := fun k => match k with
  | 0 => .array .long
  | 1 => .int
  | _ => .int
theorem nmX5 : ∀ a, a < 3 → ∀ b, b < 3 → a ≠ b → (TX5 a).2.1 ≠ (TX5 b).2.1 := by decide +kernel
theorem tyX5_ok : ∀ k, k < 3 → parseFieldDescriptor (TX5 k).2.2.1 = some (tyX5 k) := by decide +kernel
abbrev cX5_init : ByteArray := prog_7_method_1_code
def yX5_init : MethodName := ⟨RX5, "<init>", "()V"⟩
abbrev cX5_become : ByteArray := prog_7_method_2_code
def yX5_become : MethodName := ⟨RX5, "become", "(II)V"⟩
abbrev cX5_holds : ByteArray := prog_7_method_3_code
def yX5_holds : MethodName := ⟨RX5, "holds", "(II)Z"⟩
abbrev cX5_fitted : ByteArray := prog_7_method_4_code
def yX5_fitted : MethodName := ⟨RX5, "fitted", "(J)J"⟩
def RX6 : String := "BowlerDents$Trail"
def TX6 : u_T := fun k => match k with
  | 0 => ("BowlerDents$Trail", "bodies", "[I", true)
  | _ => ("BowlerDents$Trail", "ran", "I", false)
def tyX6 : Nat → FieldType := fun k => match k with
  | 0 => .array .int
  | _ => .int
theorem nmX6 : ∀ a, a < 2 → ∀ b, b < 2 → a ≠ b → (TX6 a).2.1 ≠ (TX6 b).2.1 := by decide +kernel
theorem tyX6_ok : ∀ k, k < 2 → parseFieldDescriptor (TX6 k).2.2.1 = some (tyX6 k) := by decide +kernel
abbrev cX6_init : ByteArray := prog_8_method_1_code
def yX6_init : MethodName := ⟨RX6, "<init>", "()V"⟩
abbrev cX6_begins : ByteArray := prog_8_method_2_code
def yX6_begins : MethodName := ⟨RX6, "begins", "(I)V"⟩
abbrev cX6_nods : ByteArray := prog_8_method_3_code
def yX6_nods : MethodName := ⟨RX6, "nods", "(LBowlerDents$Wearer;IILBowlerDents$Trail;)I"⟩
abbrev cX6_knocks : ByteArray := prog_8_method_4_code
def yX6_knocks : MethodName := ⟨RX6, "knocks", "(LBowlerDents$Wearer;IILBowlerDents$Trail;)I"⟩
abbrev cX6_tells : ByteArray := prog_8_method_5_code
def yX6_tells : MethodName := ⟨RX6, "tells", "(LBowlerDents$Wearer;IILBowlerDents$Trail;)I"⟩
def RX7 : String := "BowlerDents$Wearer"
def TX7 : u_T := fun k => match k with
  | 0 => ("BowlerDents$Wearer", "number", "I", true)
  | 1 => ("BowlerDents$Wearer", "parts", "[I", true)
  | 2 => ("BowlerDents$Wearer", "kind", "I", false)
  | 3 => ("BowlerDents$Wearer", "v", "I", false)
  | 4 => ("BowlerDents$Wearer", "cover", "I", false)
  | 5 => ("BowlerDents$Wearer", "dents", "I", false)
  | _ => ("BowlerDents$Wearer", "hurt", "I", false)
def tyX7 : Nat → FieldType := fun k => match k with
  | 0 => .int
  | 1 => .array .int
  | 2 => .int
  | 3 => .int
  | 4 => .int
  | 5 => .int
  | _ => .int
theorem nmX7 : ∀ a, a < 7 → ∀ b, b < 7 → a ≠ b → (TX7 a).2.1 ≠ (TX7 b).2.1 := by decide +kernel
theorem tyX7_ok : ∀ k, k < 7 → parseFieldDescriptor (TX7 k).2.2.1 = some (tyX7 k) := by decide +kernel
abbrev cX7_init : ByteArray := prog_9_method_1_code
def yX7_init : MethodName := ⟨RX7, "<init>", "(I)V"⟩
abbrev cX7_begin : ByteArray := prog_9_method_2_code
def yX7_begin : MethodName := ⟨RX7, "begin", "(III)V"⟩
abbrev cX7_become : ByteArray := prog_9_method_3_code
def yX7_become : MethodName := ⟨RX7, "become", "(LBowlerDents$Wearer;)V"⟩
abbrev cX7_guardBy : ByteArray := prog_9_method_4_code
def yX7_guardBy : MethodName := ⟨RX7, "guardBy", "(II)I"⟩
def RX8 : String := "BowlerDents$World"
def TX8 : u_T := fun k => match k with
  | 0 => ("BowlerDents$World", "wearers", "[LBowlerDents$Wearer;", true)
  | 1 => ("BowlerDents$World", "sayings", "[LBowlerDents$Saying;", true)
  | 2 => ("BowlerDents$World", "wearerCount", "I", false)
  | 3 => ("BowlerDents$World", "sayingCount", "I", false)
  | 4 => ("BowlerDents$World", "day", "I", false)
  | _ => ("BowlerDents$World", "city", "LBowlerDents$City;", false)
def tyX8 : Nat → FieldType := fun k => match k with
  | 0 => .array (.object "BowlerDents$Wearer")
  | 1 => .array (.object "BowlerDents$Saying")
  | 2 => .int
  | 3 => .int
  | 4 => .int
  | _ => .object "BowlerDents$City"
theorem nmX8 : ∀ a, a < 6 → ∀ b, b < 6 → a ≠ b → (TX8 a).2.1 ≠ (TX8 b).2.1 := by decide +kernel
theorem tyX8_ok : ∀ k, k < 6 → parseFieldDescriptor (TX8 k).2.2.1 = some (tyX8 k) := by decide +kernel
abbrev cX8_init : ByteArray := prog_10_method_1_code
def yX8_init : MethodName := ⟨RX8, "<init>", "(LBowlerDents$City;)V"⟩
abbrev cX8_become : ByteArray := prog_10_method_2_code
def yX8_become : MethodName := ⟨RX8, "become", "(LBowlerDents$World;)V"⟩
abbrev cX8_becomeOne : ByteArray := prog_10_method_3_code
def yX8_becomeOne : MethodName := ⟨RX8, "becomeOne", "(LBowlerDents$World;I)V"⟩
abbrev cX8_hasWearer : ByteArray := prog_10_method_4_code
def yX8_hasWearer : MethodName := ⟨RX8, "hasWearer", "(I)Z"⟩
abbrev cX8_hasSaying : ByteArray := prog_10_method_5_code
def yX8_hasSaying : MethodName := ⟨RX8, "hasSaying", "(I)Z"⟩
abbrev cX8_addWearer : ByteArray := prog_10_method_6_code
def yX8_addWearer : MethodName := ⟨RX8, "addWearer", "(III)I"⟩
abbrev cX8_addSaying : ByteArray := prog_10_method_7_code
def yX8_addSaying : MethodName := ⟨RX8, "addSaying", "(II)I"⟩
abbrev cX8_isStriking : ByteArray := prog_10_method_8_code
def yX8_isStriking : MethodName := ⟨RX8, "isStriking", "(LBowlerDents$Saying;)Z"⟩
abbrev cX8_strikingBits : ByteArray := prog_10_method_9_code
def yX8_strikingBits : MethodName := ⟨RX8, "strikingBits", "()I"⟩
abbrev cX8_guard : ByteArray := prog_10_method_10_code
def yX8_guard : MethodName := ⟨RX8, "guard", "(LBowlerDents$Wearer;I)I"⟩
abbrev cX8_go : ByteArray := prog_10_method_11_code
def yX8_go : MethodName := ⟨RX8, "go", "(II)V"⟩
abbrev cX8_strike : ByteArray := prog_10_method_12_code
def yX8_strike : MethodName := ⟨RX8, "strike", "(I)V"⟩
abbrev cX8_hurtOfAll : ByteArray := prog_10_method_13_code
def yX8_hurtOfAll : MethodName := ⟨RX8, "hurtOfAll", "()I"⟩
abbrev cX8_coverOfAll : ByteArray := prog_10_method_14_code
def yX8_coverOfAll : MethodName := ⟨RX8, "coverOfAll", "()I"⟩
def RX9 : String := "BowlerDents"
def TX9 : u_T := fun k => match k with
  | 0 => ("BowlerDents", "cities", "[LBowlerDents$City;", true)
  | 1 => ("BowlerDents", "bare", "LBowlerDents$City;", true)
  | 2 => ("BowlerDents", "reader", "LBowlerDents$Reader;", true)
  | 3 => ("BowlerDents", "now", "LBowlerDents$World;", true)
  | 4 => ("BowlerDents", "trial", "LBowlerDents$World;", true)
  | 5 => ("BowlerDents", "imageWorld", "LBowlerDents$World;", true)
  | 6 => ("BowlerDents", "hand", "LBowlerDents$Hand;", true)
  | 7 => ("BowlerDents", "imageHand", "LBowlerDents$Hand;", true)
  | 8 => ("BowlerDents", "trail", "LBowlerDents$Trail;", true)
  | 9 => ("BowlerDents", "strips", "[LBowlerDents$Strip;", true)
  | 10 => ("BowlerDents", "cityCount", "I", false)
  | _ => ("BowlerDents", "hasImage", "Z", false)
def tyX9 : Nat → FieldType := fun k => match k with
  | 0 => .array (.object "BowlerDents$City")
  | 1 => .object "BowlerDents$City"
  | 2 => .object "BowlerDents$Reader"
  | 3 => .object "BowlerDents$World"
  | 4 => .object "BowlerDents$World"
  | 5 => .object "BowlerDents$World"
  | 6 => .object "BowlerDents$Hand"
  | 7 => .object "BowlerDents$Hand"
  | 8 => .object "BowlerDents$Trail"
  | 9 => .array (.object "BowlerDents$Strip")
  | 10 => .int
  | _ => .boolean
theorem nmX9 : ∀ a, a < 12 → ∀ b, b < 12 → a ≠ b → (TX9 a).2.1 ≠ (TX9 b).2.1 := by decide +kernel
theorem tyX9_ok : ∀ k, k < 12 → parseFieldDescriptor (TX9 k).2.2.1 = some (tyX9 k) := by decide +kernel
abbrev cX9_init : ByteArray := prog_1_method_1_code
def yX9_init : MethodName := ⟨RX9, "<init>", "()V"⟩
abbrev cX9_wearer : ByteArray := prog_1_method_2_code
def yX9_wearer : MethodName := ⟨RX9, "wearer", "(III)I"⟩
abbrev cX9_of : ByteArray := prog_1_method_3_code
def yX9_of : MethodName := ⟨RX9, "of", "(II)I"⟩
abbrev cX9_saying : ByteArray := prog_1_method_4_code
def yX9_saying : MethodName := ⟨RX9, "saying", "(II)I"⟩
abbrev cX9_phrase : ByteArray := prog_1_method_5_code
def yX9_phrase : MethodName := ⟨RX9, "phrase", "(II)I"⟩
abbrev cX9_aim : ByteArray := prog_1_method_6_code
def yX9_aim : MethodName := ⟨RX9, "aim", "(II)I"⟩
abbrev cX9_mend : ByteArray := prog_1_method_7_code
def yX9_mend : MethodName := ⟨RX9, "mend", "(II)I"⟩
abbrev cX9_row : ByteArray := prog_1_method_8_code
def yX9_row : MethodName := ⟨RX9, "row", "(III)I"⟩
abbrev cX9_feed : ByteArray := prog_1_method_9_code
def yX9_feed : MethodName := ⟨RX9, "feed", "(I)I"⟩
abbrev cX9_city : ByteArray := prog_1_method_10_code
def yX9_city : MethodName := ⟨RX9, "city", "()I"⟩
abbrev cX9_told : ByteArray := prog_1_method_11_code
def yX9_told : MethodName := ⟨RX9, "told", "(I)I"⟩
abbrev cX9_pass : ByteArray := prog_1_method_12_code
def yX9_pass : MethodName := ⟨RX9, "pass", "(I)I"⟩
abbrev cX9_on : ByteArray := prog_1_method_13_code
def yX9_on : MethodName := ⟨RX9, "on", "(II)I"⟩
abbrev cX9_best : ByteArray := prog_1_method_14_code
def yX9_best : MethodName := ⟨RX9, "best", "(II)I"⟩
abbrev cX9_see : ByteArray := prog_1_method_15_code
def yX9_see : MethodName := ⟨RX9, "see", "(III)I"⟩
abbrev cX9_ache : ByteArray := prog_1_method_16_code
def yX9_ache : MethodName := ⟨RX9, "ache", "(IIZ)I"⟩
abbrev cX9_can : ByteArray := prog_1_method_17_code
def yX9_can : MethodName := ⟨RX9, "can", "(II)I"⟩
abbrev cX9_odds : ByteArray := prog_1_method_18_code
def yX9_odds : MethodName := ⟨RX9, "odds", "(IIII)J"⟩
abbrev cX9_mean : ByteArray := prog_1_method_19_code
def yX9_mean : MethodName := ⟨RX9, "mean", "(II)J"⟩
abbrev cX9_plan : ByteArray := prog_1_method_20_code
def yX9_plan : MethodName := ⟨RX9, "plan", "(II)I"⟩
abbrev cX9_ends : ByteArray := prog_1_method_21_code
def yX9_ends : MethodName := ⟨RX9, "ends", "(I)I"⟩
abbrev cX9_book : ByteArray := prog_1_method_22_code
def yX9_book : MethodName := ⟨RX9, "book", "(II)I"⟩
abbrev cX9_looked : ByteArray := prog_1_method_23_code
def yX9_looked : MethodName := ⟨RX9, "looked", "()I"⟩
abbrev cX9_judge : ByteArray := prog_1_method_24_code
def yX9_judge : MethodName := ⟨RX9, "judge", "(II)I"⟩
abbrev cX9_image : ByteArray := prog_1_method_25_code
def yX9_image : MethodName := ⟨RX9, "image", "()I"⟩
abbrev cX9_undo : ByteArray := prog_1_method_26_code
def yX9_undo : MethodName := ⟨RX9, "undo", "()I"⟩
abbrev cX9_act : ByteArray := prog_1_method_27_code
def yX9_act : MethodName := ⟨RX9, "act", "(III)I"⟩
abbrev cX9_trace : ByteArray := prog_1_method_28_code
def yX9_trace : MethodName := ⟨RX9, "trace", "(I)I"⟩
abbrev cX9_taken : ByteArray := prog_1_method_29_code
def yX9_taken : MethodName := ⟨RX9, "taken", "(II)I"⟩
abbrev cX9_count : ByteArray := prog_1_method_30_code
def yX9_count : MethodName := ⟨RX9, "count", "(I)I"⟩
abbrev cX9_tape : ByteArray := prog_1_method_31_code
def yX9_tape : MethodName := ⟨RX9, "tape", "(III)I"⟩
abbrev cX9_item : ByteArray := prog_1_method_32_code
def yX9_item : MethodName := ⟨RX9, "item", "(IIJ)I"⟩
abbrev cX9_read : ByteArray := prog_1_method_33_code
def yX9_read : MethodName := ⟨RX9, "read", "(II)J"⟩
abbrev cX9_shift : ByteArray := prog_1_method_34_code
def yX9_shift : MethodName := ⟨RX9, "shift", "(IIIII)I"⟩
abbrev cX9_isOut : ByteArray := prog_1_method_35_code
def yX9_isOut : MethodName := ⟨RX9, "isOut", "(II)Z"⟩
abbrev cX9_kindAbove : ByteArray := prog_1_method_36_code
def yX9_kindAbove : MethodName := ⟨RX9, "kindAbove", "(I)I"⟩
abbrev cX9_ofLowestTerms : ByteArray := prog_1_method_37_code
def yX9_ofLowestTerms : MethodName := ⟨RX9, "ofLowestTerms", "(III)J"⟩
abbrev cX9_isMoreHurt : ByteArray := prog_1_method_38_code
def yX9_isMoreHurt : MethodName := ⟨RX9, "isMoreHurt", "(I)Z"⟩
abbrev cX9_daysUntilSore : ByteArray := prog_1_method_39_code
def yX9_daysUntilSore : MethodName := ⟨RX9, "daysUntilSore", "(I)I"⟩
abbrev cX9_fewestToMend : ByteArray := prog_1_method_40_code
def yX9_fewestToMend : MethodName := ⟨RX9, "fewestToMend", "(I)I"⟩
abbrev cX9_moreHurtBits : ByteArray := prog_1_method_41_code
def yX9_moreHurtBits : MethodName := ⟨RX9, "moreHurtBits", "()I"⟩
abbrev cX9_bestChange : ByteArray := prog_1_method_42_code
def yX9_bestChange : MethodName := ⟨RX9, "bestChange", "(I)I"⟩
abbrev cX9_bestTarget : ByteArray := prog_1_method_43_code
def yX9_bestTarget : MethodName := ⟨RX9, "bestTarget", "(II)I"⟩
abbrev cX9_fitting : ByteArray := prog_1_method_44_code
def yX9_fitting : MethodName := ⟨RX9, "fitting", "(ZIZ)I"⟩
abbrev cX9_rowsFit : ByteArray := prog_1_method_45_code
def yX9_rowsFit : MethodName := ⟨RX9, "rowsFit", "(ZIZ)Z"⟩
abbrev cX9_trialValue : ByteArray := prog_1_method_46_code
def yX9_trialValue : MethodName := ⟨RX9, "trialValue", "(IZ)I"⟩
abbrev cX9_followPlan : ByteArray := prog_1_method_47_code
def yX9_followPlan : MethodName := ⟨RX9, "followPlan", "(II)V"⟩
def RX10 : String := "BowlerDentsModel"
def TX10 : u_T := fun k => match k with
  | 0 => ("BowlerDentsModel", "now", "[I", true)
  | 1 => ("BowlerDentsModel", "mind", "[I", true)
  | 2 => ("BowlerDentsModel", "then", "[I", true)
  | 3 => ("BowlerDentsModel", "kept", "Z", false)
  | 4 => ("BowlerDentsModel", "text", "[I", true)
  | 5 => ("BowlerDentsModel", "texted", "I", false)
  | 6 => ("BowlerDentsModel", "rules", "[I", true)
  | 7 => ("BowlerDentsModel", "sizes", "[I", true)
  | 8 => ("BowlerDentsModel", "ruled", "I", false)
  | 9 => ("BowlerDentsModel", "read", "[I", true)
  | 10 => ("BowlerDentsModel", "size", "I", false)
  | 11 => ("BowlerDentsModel", "at", "I", false)
  | 12 => ("BowlerDentsModel", "well", "Z", false)
  | 13 => ("BowlerDentsModel", "within", "I", false)
  | 14 => ("BowlerDentsModel", "sum", "I", false)
  | 15 => ("BowlerDentsModel", "rub", "I", false)
  | 16 => ("BowlerDentsModel", "names", "[I", true)
  | 17 => ("BowlerDentsModel", "letters", "[C", true)
  | 18 => ("BowlerDentsModel", "begins", "[C", true)
  | 19 => ("BowlerDentsModel", "words", "[C", true)
  | 20 => ("BowlerDentsModel", "covers", "[I", true)
  | 21 => ("BowlerDentsModel", "hurts", "[I", true)
  | 22 => ("BowlerDentsModel", "above", "[I", true)
  | 23 => ("BowlerDentsModel", "bodies", "[I", true)
  | 24 => ("BowlerDentsModel", "trace", "[I", true)
  | 25 => ("BowlerDentsModel", "ran", "I", false)
  | 26 => ("BowlerDentsModel", "sorts", "[I", true)
  | 27 => ("BowlerDentsModel", "lengths", "[I", true)
  | 28 => ("BowlerDentsModel", "items", "[J", true)
  | _ => ("BowlerDentsModel", "moved", "[J", true)
def tyX10 : Nat → FieldType := fun k => match k with
  | 0 => .array .int
  | 1 => .array .int
  | 2 => .array .int
  | 3 => .boolean
  | 4 => .array .int
  | 5 => .int
  | 6 => .array .int
  | 7 => .array .int
  | 8 => .int
  | 9 => .array .int
  | 10 => .int
  | 11 => .int
  | 12 => .boolean
  | 13 => .int
  | 14 => .int
  | 15 => .int
  | 16 => .array .int
  | 17 => .array .char
  | 18 => .array .char
  | 19 => .array .char
  | 20 => .array .int
  | 21 => .array .int
  | 22 => .array .int
  | 23 => .array .int
  | 24 => .array .int
  | 25 => .int
  | 26 => .array .int
  | 27 => .array .int
  | 28 => .array .long
  | _ => .array .long
theorem nmX10 : ∀ a, a < 30 → ∀ b, b < 30 → a ≠ b → (TX10 a).2.1 ≠ (TX10 b).2.1 := by decide +kernel
theorem tyX10_ok : ∀ k, k < 30 → parseFieldDescriptor (TX10 k).2.2.1 = some (tyX10 k) := by decide +kernel
abbrev cX10_init : ByteArray := prog_12_method_1_code
def yX10_init : MethodName := ⟨RX10, "<init>", "()V"⟩
abbrev cX10_isIn : ByteArray := prog_12_method_2_code
def yX10_isIn : MethodName := ⟨RX10, "isIn", "(III)Z"⟩
abbrev cX10_move : ByteArray := prog_12_method_3_code
def yX10_move : MethodName := ⟨RX10, "move", "([I[I)V"⟩
abbrev cX10_image : ByteArray := prog_12_method_4_code
def yX10_image : MethodName := ⟨RX10, "image", "()I"⟩
abbrev cX10_undo : ByteArray := prog_12_method_5_code
def yX10_undo : MethodName := ⟨RX10, "undo", "()I"⟩
abbrev cX10_isOne : ByteArray := prog_12_method_6_code
def yX10_isOne : MethodName := ⟨RX10, "isOne", "(I)Z"⟩
abbrev cX10_isSaying : ByteArray := prog_12_method_7_code
def yX10_isSaying : MethodName := ⟨RX10, "isSaying", "(I)Z"⟩
abbrev cX10_orNever : ByteArray := prog_12_method_8_code
def yX10_orNever : MethodName := ⟨RX10, "orNever", "(I)I"⟩
abbrev cX10_one : ByteArray := prog_12_method_9_code
def yX10_one : MethodName := ⟨RX10, "one", "(II)I"⟩
abbrev cX10_change : ByteArray := prog_12_method_10_code
def yX10_change : MethodName := ⟨RX10, "change", "(III)I"⟩
abbrev cX10_word : ByteArray := prog_12_method_11_code
def yX10_word : MethodName := ⟨RX10, "word", "(II)I"⟩
abbrev cX10_aims : ByteArray := prog_12_method_12_code
def yX10_aims : MethodName := ⟨RX10, "aims", "(II)I"⟩
abbrev cX10_wearer : ByteArray := prog_12_method_13_code
def yX10_wearer : MethodName := ⟨RX10, "wearer", "(III)I"⟩
abbrev cX10_of : ByteArray := prog_12_method_14_code
def yX10_of : MethodName := ⟨RX10, "of", "(II)I"⟩
abbrev cX10_saying : ByteArray := prog_12_method_15_code
def yX10_saying : MethodName := ⟨RX10, "saying", "(II)I"⟩
abbrev cX10_phrase : ByteArray := prog_12_method_16_code
def yX10_phrase : MethodName := ⟨RX10, "phrase", "(II)I"⟩
abbrev cX10_aim : ByteArray := prog_12_method_17_code
def yX10_aim : MethodName := ⟨RX10, "aim", "(II)I"⟩
abbrev cX10_mend : ByteArray := prog_12_method_18_code
def yX10_mend : MethodName := ⟨RX10, "mend", "(II)I"⟩
abbrev cX10_row : ByteArray := prog_12_method_19_code
def yX10_row : MethodName := ⟨RX10, "row", "(III)I"⟩
abbrev cX10_feed : ByteArray := prog_12_method_20_code
def yX10_feed : MethodName := ⟨RX10, "feed", "(I)I"⟩
abbrev cX10_isAt : ByteArray := prog_12_method_21_code
def yX10_isAt : MethodName := ⟨RX10, "isAt", "(I)Z"⟩
abbrev cX10_takes : ByteArray := prog_12_method_22_code
def yX10_takes : MethodName := ⟨RX10, "takes", "(I)V"⟩
abbrev cX10_isDigit : ByteArray := prog_12_method_23_code
def yX10_isDigit : MethodName := ⟨RX10, "isDigit", "()Z"⟩
abbrev cX10_number : ByteArray := prog_12_method_24_code
def yX10_number : MethodName := ⟨RX10, "number", "()I"⟩
abbrev cX10_test : ByteArray := prog_12_method_25_code
def yX10_test : MethodName := ⟨RX10, "test", "()Z"⟩
abbrev cX10_factor : ByteArray := prog_12_method_26_code
def yX10_factor : MethodName := ⟨RX10, "factor", "()Z"⟩
abbrev cX10_both : ByteArray := prog_12_method_27_code
def yX10_both : MethodName := ⟨RX10, "both", "()Z"⟩
abbrev cX10_any : ByteArray := prog_12_method_28_code
def yX10_any : MethodName := ⟨RX10, "any", "()Z"⟩
abbrev cX10_clause : ByteArray := prog_12_method_29_code
def yX10_clause : MethodName := ⟨RX10, "clause", "()V"⟩
abbrev cX10_readAll : ByteArray := prog_12_method_30_code
def yX10_readAll : MethodName := ⟨RX10, "readAll", "()Z"⟩
abbrev cX10_readFor : ByteArray := prog_12_method_31_code
def yX10_readFor : MethodName := ⟨RX10, "readFor", "(II)V"⟩
abbrev cX10_city : ByteArray := prog_12_method_32_code
def yX10_city : MethodName := ⟨RX10, "city", "()I"⟩
abbrev cX10_guard : ByteArray := prog_12_method_33_code
def yX10_guard : MethodName := ⟨RX10, "guard", "(II)I"⟩
abbrev cX10_rubNow : ByteArray := prog_12_method_34_code
def yX10_rubNow : MethodName := ⟨RX10, "rubNow", "()I"⟩
abbrev cX10_isStriking : ByteArray := prog_12_method_35_code
def yX10_isStriking : MethodName := ⟨RX10, "isStriking", "(I)Z"⟩
abbrev cX10_strikes : ByteArray := prog_12_method_36_code
def yX10_strikes : MethodName := ⟨RX10, "strikes", "(II)V"⟩
abbrev cX10_day : ByteArray := prog_12_method_37_code
def yX10_day : MethodName := ⟨RX10, "day", "()V"⟩
abbrev cX10_days : ByteArray := prog_12_method_38_code
def yX10_days : MethodName := ⟨RX10, "days", "(I)V"⟩
abbrev cX10_all : ByteArray := prog_12_method_39_code
def yX10_all : MethodName := ⟨RX10, "all", "(I)I"⟩
abbrev cX10_sore : ByteArray := prog_12_method_40_code
def yX10_sore : MethodName := ⟨RX10, "sore", "(I)I"⟩
abbrev cX10_told : ByteArray := prog_12_method_41_code
def yX10_told : MethodName := ⟨RX10, "told", "(I)I"⟩
abbrev cX10_pass : ByteArray := prog_12_method_42_code
def yX10_pass : MethodName := ⟨RX10, "pass", "(I)I"⟩
abbrev cX10_on : ByteArray := prog_12_method_43_code
def yX10_on : MethodName := ⟨RX10, "on", "(II)I"⟩
abbrev cX10_hurtBehind : ByteArray := prog_12_method_44_code
def yX10_hurtBehind : MethodName := ⟨RX10, "hurtBehind", "(I)I"⟩
abbrev cX10_many : ByteArray := prog_12_method_45_code
def yX10_many : MethodName := ⟨RX10, "many", "(I)I"⟩
abbrev cX10_mends : ByteArray := prog_12_method_46_code
def yX10_mends : MethodName := ⟨RX10, "mends", "(I)I"⟩
abbrev cX10_swap : ByteArray := prog_12_method_47_code
def yX10_swap : MethodName := ⟨RX10, "swap", "(II)V"⟩
abbrev cX10_changes : ByteArray := prog_12_method_48_code
def yX10_changes : MethodName := ⟨RX10, "changes", "(I)I"⟩
abbrev cX10_aimOf : ByteArray := prog_12_method_49_code
def yX10_aimOf : MethodName := ⟨RX10, "aimOf", "(II)I"⟩
abbrev cX10_best : ByteArray := prog_12_method_50_code
def yX10_best : MethodName := ⟨RX10, "best", "(II)I"⟩
abbrev cX10_comes : ByteArray := prog_12_method_51_code
def yX10_comes : MethodName := ⟨RX10, "comes", "(IIII)I"⟩
abbrev cX10_see : ByteArray := prog_12_method_52_code
def yX10_see : MethodName := ⟨RX10, "see", "(III)I"⟩
abbrev cX10_ache : ByteArray := prog_12_method_53_code
def yX10_ache : MethodName := ⟨RX10, "ache", "(IIZ)I"⟩
abbrev cX10_isAllSo : ByteArray := prog_12_method_54_code
def yX10_isAllSo : MethodName := ⟨RX10, "isAllSo", "(I)Z"⟩
abbrev cX10_fits : ByteArray := prog_12_method_55_code
def yX10_fits : MethodName := ⟨RX10, "fits", "(IIIIZ)I"⟩
abbrev cX10_covers : ByteArray := prog_12_method_56_code
def yX10_covers : MethodName := ⟨RX10, "covers", "(IZ)I"⟩
abbrev cX10_can : ByteArray := prog_12_method_57_code
def yX10_can : MethodName := ⟨RX10, "can", "(II)I"⟩
abbrev cX10_fraction : ByteArray := prog_12_method_58_code
def yX10_fraction : MethodName := ⟨RX10, "fraction", "(JJI)J"⟩
abbrev cX10_odds : ByteArray := prog_12_method_59_code
def yX10_odds : MethodName := ⟨RX10, "odds", "(IIII)J"⟩
abbrev cX10_mean : ByteArray := prog_12_method_60_code
def yX10_mean : MethodName := ⟨RX10, "mean", "(II)J"⟩
abbrev cX10_plan : ByteArray := prog_12_method_61_code
def yX10_plan : MethodName := ⟨RX10, "plan", "(II)I"⟩
abbrev cX10_ends : ByteArray := prog_12_method_62_code
def yX10_ends : MethodName := ⟨RX10, "ends", "(I)I"⟩
abbrev cX10_book : ByteArray := prog_12_method_63_code
def yX10_book : MethodName := ⟨RX10, "book", "(II)I"⟩
abbrev cX10_looked : ByteArray := prog_12_method_64_code
def yX10_looked : MethodName := ⟨RX10, "looked", "()I"⟩
abbrev cX10_body : ByteArray := prog_12_method_65_code
def yX10_body : MethodName := ⟨RX10, "body", "(I)I"⟩
abbrev cX10_begin : ByteArray := prog_12_method_66_code
def yX10_begin : MethodName := ⟨RX10, "begin", "(III)I"⟩
abbrev cX10_byKind : ByteArray := prog_12_method_67_code
def yX10_byKind : MethodName := ⟨RX10, "byKind", "(IIII)I"⟩
abbrev cX10_act : ByteArray := prog_12_method_68_code
def yX10_act : MethodName := ⟨RX10, "act", "(III)I"⟩
abbrev cX10_trace : ByteArray := prog_12_method_69_code
def yX10_trace : MethodName := ⟨RX10, "trace", "(I)I"⟩
abbrev cX10_taken : ByteArray := prog_12_method_70_code
def yX10_taken : MethodName := ⟨RX10, "taken", "(II)I"⟩
abbrev cX10_count : ByteArray := prog_12_method_71_code
def yX10_count : MethodName := ⟨RX10, "count", "(I)I"⟩
abbrev cX10_isTape : ByteArray := prog_12_method_72_code
def yX10_isTape : MethodName := ⟨RX10, "isTape", "(I)Z"⟩
abbrev cX10_tape : ByteArray := prog_12_method_73_code
def yX10_tape : MethodName := ⟨RX10, "tape", "(III)I"⟩
abbrev cX10_item : ByteArray := prog_12_method_74_code
def yX10_item : MethodName := ⟨RX10, "item", "(IIJ)I"⟩
abbrev cX10_read : ByteArray := prog_12_method_75_code
def yX10_read : MethodName := ⟨RX10, "read", "(II)J"⟩
abbrev cX10_shift : ByteArray := prog_12_method_76_code
def yX10_shift : MethodName := ⟨RX10, "shift", "(IIIII)I"⟩
abbrev cX10_judge : ByteArray := prog_12_method_77_code
def yX10_judge : MethodName := ⟨RX10, "judge", "(II)I"⟩
def RJ11 : String := "java/lang/Character"
def TJ11 : u_T := fun k => match k with
  | _ => ("", "", "", false)
def tyJ11 : Nat → FieldType := fun k => match k with
  | _ => .int
abbrev cJ11_isValidCodePoint_9a6ad : ByteArray := prog_13_method_11_code
def yJ11_isValidCodePoint_9a6ad : MethodName := ⟨RJ11, "isValidCodePoint", "(I)Z"⟩
abbrev cJ11_highSurrogate_5068e : ByteArray := prog_13_method_28_code
def yJ11_highSurrogate_5068e : MethodName := ⟨RJ11, "highSurrogate", "(I)C"⟩
abbrev cJ11_lowSurrogate_5068e : ByteArray := prog_13_method_29_code
def yJ11_lowSurrogate_5068e : MethodName := ⟨RJ11, "lowSurrogate", "(I)C"⟩
def RJ9 : String := "java/lang/Math"
def TJ9 : u_T := fun k => match k with
  | _ => ("", "", "", false)
def tyJ9 : Nat → FieldType := fun k => match k with
  | _ => .int
abbrev cJ9_max_7cf53 : ByteArray := prog_14_method_65_code
def yJ9_max_7cf53 : MethodName := ⟨RJ9, "max", "(II)I"⟩
abbrev cJ9_min_7cf53 : ByteArray := prog_14_method_69_code
def yJ9_min_7cf53 : MethodName := ⟨RJ9, "min", "(II)I"⟩
def RJ0 : String := "java/lang/String"
def TJ0 : u_T := fun k => match k with
  | _ => ("", "", "", false)
def tyJ0 : Nat → FieldType := fun k => match k with
  | _ => .int
abbrev cJ0_length_8abf5 : ByteArray := prog_15_method_54_code
def yJ0_length_8abf5 : MethodName := ⟨RJ0, "length", "()I"⟩
abbrev cJ0_charAt_5068e : ByteArray := prog_15_method_56_code
def yJ0_charAt_5068e : MethodName := ⟨RJ0, "charAt", "(I)C"⟩
abbrev cJ0_indexOf_0f7a4 : ByteArray := prog_15_method_79_code
def yJ0_indexOf_0f7a4 : MethodName := ⟨RJ0, "indexOf", "(I)I"⟩
abbrev cJ0_indexOf_7cf53 : ByteArray := prog_15_method_80_code
def yJ0_indexOf_7cf53 : MethodName := ⟨RJ0, "indexOf", "(II)I"⟩
abbrev cJ0_coder_7d493 : ByteArray := prog_15_method_152_code
def yJ0_coder_7d493 : MethodName := ⟨RJ0, "coder", "()B"⟩
abbrev cJ0_isLatin1_aae02 : ByteArray := prog_15_method_154_code
def yJ0_isLatin1_aae02 : MethodName := ⟨RJ0, "isLatin1", "()Z"⟩
abbrev cJ0_checkIndex_df160 : ByteArray := prog_15_method_155_code
def yJ0_checkIndex_df160 : MethodName := ⟨RJ0, "checkIndex", "(II)V"⟩
abbrev cJ0_checkBoundsBeginEnd_23922 : ByteArray := prog_15_method_158_code
def yJ0_checkBoundsBeginEnd_23922 : MethodName := ⟨RJ0, "checkBoundsBeginEnd", "(III)V"⟩
def RJ1 : String := "java/lang/StringLatin1"
def TJ1 : u_T := fun k => match k with
  | _ => ("", "", "", false)
def tyJ1 : Nat → FieldType := fun k => match k with
  | _ => .int
abbrev cJ1_charAt_3b067 : ByteArray := prog_16_method_2_code
def yJ1_charAt_3b067 : MethodName := ⟨RJ1, "charAt", "([BI)C"⟩
abbrev cJ1_canEncode_9a6ad : ByteArray := prog_16_method_4_code
def yJ1_canEncode_9a6ad : MethodName := ⟨RJ1, "canEncode", "(I)Z"⟩
abbrev cJ1_indexOf_4cfef : ByteArray := prog_16_method_22_code
def yJ1_indexOf_4cfef : MethodName := ⟨RJ1, "indexOf", "([BIII)I"⟩
abbrev cJ1_indexOfChar_4cfef : ByteArray := prog_16_method_23_code
def yJ1_indexOfChar_4cfef : MethodName := ⟨RJ1, "indexOfChar", "([BIII)I"⟩
def RJ2 : String := "java/lang/StringUTF16"
def TJ2 : u_T := fun k => match k with
  | _ => ("", "", "", false)
def tyJ2 : Nat → FieldType := fun k => match k with
  | _ => .int
abbrev cJ2_getChar_3b067 : ByteArray := prog_17_method_5_code
def yJ2_getChar_3b067 : MethodName := ⟨RJ2, "getChar", "([BI)C"⟩
abbrev cJ2_length_9d52b : ByteArray := prog_17_method_6_code
def yJ2_length_9d52b : MethodName := ⟨RJ2, "length", "([B)I"⟩
abbrev cJ2_indexOf_4cfef : ByteArray := prog_17_method_40_code
def yJ2_indexOf_4cfef : MethodName := ⟨RJ2, "indexOf", "([BIII)I"⟩
abbrev cJ2_indexOfChar_4cfef : ByteArray := prog_17_method_47_code
def yJ2_indexOfChar_4cfef : MethodName := ⟨RJ2, "indexOfChar", "([BIII)I"⟩
abbrev cJ2_indexOfCharUnsafe_4cfef : ByteArray := prog_17_method_48_code
def yJ2_indexOfCharUnsafe_4cfef : MethodName := ⟨RJ2, "indexOfCharUnsafe", "([BIII)I"⟩
abbrev cJ2_indexOfSupplementary_4cfef : ByteArray := prog_17_method_49_code
def yJ2_indexOfSupplementary_4cfef : MethodName := ⟨RJ2, "indexOfSupplementary", "([BIII)I"⟩
abbrev cJ2_charAt_3b067 : ByteArray := prog_17_method_83_code
def yJ2_charAt_3b067 : MethodName := ⟨RJ2, "charAt", "([BI)C"⟩
abbrev cJ2_checkIndex_2214a : ByteArray := prog_17_method_91_code
def yJ2_checkIndex_2214a : MethodName := ⟨RJ2, "checkIndex", "(I[B)V"⟩
abbrev cJ2_checkBoundsBeginEnd_d044e : ByteArray := prog_17_method_93_code
def yJ2_checkBoundsBeginEnd_d044e : MethodName := ⟨RJ2, "checkBoundsBeginEnd", "(II[B)V"⟩
def RJ10 : String := "java/lang/System"
def TJ10 : u_T := fun k => match k with
  | _ => ("", "", "", false)
def tyJ10 : Nat → FieldType := fun k => match k with
  | _ => .int
def RJ3 : String := "jdk/internal/util/Preconditions"
def TJ3 : u_T := fun k => match k with
  | _ => ("", "", "", false)
def tyJ3 : Nat → FieldType := fun k => match k with
  | _ => .int
abbrev cJ3_checkIndex_8e157 : ByteArray := prog_19_method_11_code
def yJ3_checkIndex_8e157 : MethodName := ⟨RJ3, "checkIndex", "(IILjava/util/function/BiFunction;)I"⟩
abbrev cJ3_checkFromToIndex_8c36e : ByteArray := prog_19_method_12_code
def yJ3_checkFromToIndex_8c36e : MethodName := ⟨RJ3, "checkFromToIndex", "(IIILjava/util/function/BiFunction;)I"⟩
def RL : String := "BowlerDentsLaw"
abbrev cL_law : ByteArray := code
abbrev vwCl : List vw_C := [(RX0, TX0, 5), (RX1, TX1, 4), (RX2, TX2, 3), (RX3, TX3, 4), (RX4, TX4, 3), (RX5, TX5, 3), (RX6, TX6, 2), (RX7, TX7, 7), (RX8, TX8, 6), (RX9, TX9, 12), (RX10, TX10, 30)]
end
section
theorem dX0_init_0 : decode cX0_init 0 = .ok (.aload_n 0, 1) := by decide +kernel
theorem dX0_init_1 : decode cX0_init 1 = .ok (.invokespecial 3, 3) := by decide +kernel
theorem dX0_init_4 : decode cX0_init 4 = .ok (.aload_n 0, 1) := by decide +kernel
theorem dX0_init_5 : decode cX0_init 5 = .ok (.bipush 100, 2) := by decide +kernel
theorem dX0_init_7 : decode cX0_init 7 = .ok (.newarray .int, 2) := by decide +kernel
theorem dX0_init_9 : decode cX0_init 9 = .ok (.putfield 9, 3) := by decide +kernel
theorem dX0_init_12 : decode cX0_init 12 = .ok (.aload_n 0, 1) := by decide +kernel
theorem dX0_init_13 : decode cX0_init 13 = .ok (.bipush 100, 2) := by decide +kernel
theorem dX0_init_15 : decode cX0_init 15 = .ok (.newarray .int, 2) := by decide +kernel
theorem dX0_init_17 : decode cX0_init 17 = .ok (.putfield 15, 3) := by decide +kernel
theorem dX0_init_20 : decode cX0_init 20 = .ok (.aload_n 0, 1) := by decide +kernel
theorem dX0_init_21 : decode cX0_init 21 = .ok (.bipush 6, 2) := by decide +kernel
theorem dX0_init_23 : decode cX0_init 23 = .ok (.newarray .int, 2) := by decide +kernel
theorem dX0_init_25 : decode cX0_init 25 = .ok (.putfield 18, 3) := by decide +kernel
theorem dX0_init_28 : decode cX0_init 28 = .ok (.aload_n 0, 1) := by decide +kernel
theorem dX0_init_29 : decode cX0_init 29 = .ok (.iconst 0, 1) := by decide +kernel
theorem dX0_init_30 : decode cX0_init 30 = .ok (.putfield 21, 3) := by decide +kernel
theorem dX0_init_33 : decode cX0_init 33 = .ok (.aload_n 0, 1) := by decide +kernel
theorem dX0_init_34 : decode cX0_init 34 = .ok (.iconst 3, 1) := by decide +kernel
theorem dX0_init_35 : decode cX0_init 35 = .ok (.putfield 25, 3) := by decide +kernel
theorem dX0_init_38 : decode cX0_init 38 = .ok (.return_, 1) := by decide +kernel
theorem dX0_clear_0 : decode cX0_clear 0 = .ok (.aload_n 0, 1) := by decide +kernel
theorem dX0_clear_1 : decode cX0_clear 1 = .ok (.iconst 0, 1) := by decide +kernel
theorem dX0_clear_2 : decode cX0_clear 2 = .ok (.putfield 21, 3) := by decide +kernel
theorem dX0_clear_5 : decode cX0_clear 5 = .ok (.aload_n 0, 1) := by decide +kernel
theorem dX0_clear_6 : decode cX0_clear 6 = .ok (.iconst 3, 1) := by decide +kernel
theorem dX0_clear_7 : decode cX0_clear 7 = .ok (.putfield 25, 3) := by decide +kernel
theorem dX0_clear_10 : decode cX0_clear 10 = .ok (.return_, 1) := by decide +kernel
theorem dX0_put_0 : decode cX0_put 0 = .ok (.aload_n 0, 1) := by decide +kernel
theorem dX0_put_1 : decode cX0_put 1 = .ok (.getfield 21, 3) := by decide +kernel
theorem dX0_put_4 : decode cX0_put 4 = .ok (.aload_n 0, 1) := by decide +kernel
theorem dX0_put_5 : decode cX0_put 5 = .ok (.getfield 9, 3) := by decide +kernel
theorem dX0_put_8 : decode cX0_put 8 = .ok (.arraylength, 1) := by decide +kernel
theorem dX0_put_9 : decode cX0_put 9 = .ok (.if_icmp .ge 33, 3) := by decide +kernel
theorem dX0_put_12 : decode cX0_put 12 = .ok (.aload_n 0, 1) := by decide +kernel
theorem dX0_put_13 : decode cX0_put 13 = .ok (.getfield 9, 3) := by decide +kernel
theorem dX0_put_16 : decode cX0_put 16 = .ok (.aload_n 0, 1) := by decide +kernel
theorem dX0_put_17 : decode cX0_put 17 = .ok (.getfield 21, 3) := by decide +kernel
theorem dX0_put_20 : decode cX0_put 20 = .ok (.iload_n 1, 1) := by decide +kernel
theorem dX0_put_21 : decode cX0_put 21 = .ok (.iastore, 1) := by decide +kernel
theorem dX0_put_22 : decode cX0_put 22 = .ok (.aload_n 0, 1) := by decide +kernel
theorem dX0_put_23 : decode cX0_put 23 = .ok (.getfield 15, 3) := by decide +kernel
theorem dX0_put_26 : decode cX0_put 26 = .ok (.aload_n 0, 1) := by decide +kernel
theorem dX0_put_27 : decode cX0_put 27 = .ok (.getfield 21, 3) := by decide +kernel
theorem dX0_put_30 : decode cX0_put 30 = .ok (.iload_n 2, 1) := by decide +kernel
theorem dX0_put_31 : decode cX0_put 31 = .ok (.iastore, 1) := by decide +kernel
theorem dX0_put_32 : decode cX0_put 32 = .ok (.aload_n 0, 1) := by decide +kernel
theorem dX0_put_33 : decode cX0_put 33 = .ok (.dup, 1) := by decide +kernel
theorem dX0_put_34 : decode cX0_put 34 = .ok (.getfield 21, 3) := by decide +kernel
theorem dX0_put_37 : decode cX0_put 37 = .ok (.iconst 1, 1) := by decide +kernel
theorem dX0_put_38 : decode cX0_put 38 = .ok (.iadd, 1) := by decide +kernel
theorem dX0_put_39 : decode cX0_put 39 = .ok (.putfield 21, 3) := by decide +kernel
theorem dX0_put_42 : decode cX0_put 42 = .ok (.return_, 1) := by decide +kernel
theorem dX0_sum_0 : decode cX0_sum 0 = .ok (.aload_n 0, 1) := by decide +kernel
theorem dX0_sum_1 : decode cX0_sum 1 = .ok (.getfield 18, 3) := by decide +kernel
theorem dX0_sum_4 : decode cX0_sum 4 = .ok (.iconst 0, 1) := by decide +kernel
theorem dX0_sum_5 : decode cX0_sum 5 = .ok (.aload_n 1, 1) := by decide +kernel
theorem dX0_sum_6 : decode cX0_sum 6 = .ok (.getfield 28, 3) := by decide +kernel
theorem dX0_sum_9 : decode cX0_sum 9 = .ok (.iastore, 1) := by decide +kernel
theorem dX0_sum_10 : decode cX0_sum 10 = .ok (.aload_n 0, 1) := by decide +kernel
theorem dX0_sum_11 : decode cX0_sum 11 = .ok (.getfield 18, 3) := by decide +kernel
theorem dX0_sum_14 : decode cX0_sum 14 = .ok (.iconst 1, 1) := by decide +kernel
theorem dX0_sum_15 : decode cX0_sum 15 = .ok (.aload_n 1, 1) := by decide +kernel
theorem dX0_sum_16 : decode cX0_sum 16 = .ok (.getfield 33, 3) := by decide +kernel
theorem dX0_sum_19 : decode cX0_sum 19 = .ok (.iastore, 1) := by decide +kernel
theorem dX0_sum_20 : decode cX0_sum 20 = .ok (.aload_n 0, 1) := by decide +kernel
theorem dX0_sum_21 : decode cX0_sum 21 = .ok (.getfield 18, 3) := by decide +kernel
theorem dX0_sum_24 : decode cX0_sum 24 = .ok (.iconst 2, 1) := by decide +kernel
theorem dX0_sum_25 : decode cX0_sum 25 = .ok (.aload_n 1, 1) := by decide +kernel
theorem dX0_sum_26 : decode cX0_sum 26 = .ok (.getfield 36, 3) := by decide +kernel
theorem dX0_sum_29 : decode cX0_sum 29 = .ok (.iastore, 1) := by decide +kernel
theorem dX0_sum_30 : decode cX0_sum 30 = .ok (.aload_n 0, 1) := by decide +kernel
theorem dX0_sum_31 : decode cX0_sum 31 = .ok (.getfield 18, 3) := by decide +kernel
theorem dX0_sum_34 : decode cX0_sum 34 = .ok (.iconst 3, 1) := by decide +kernel
theorem dX0_sum_35 : decode cX0_sum 35 = .ok (.iload_n 2, 1) := by decide +kernel
theorem dX0_sum_36 : decode cX0_sum 36 = .ok (.iastore, 1) := by decide +kernel
theorem dX0_sum_37 : decode cX0_sum 37 = .ok (.aload_n 0, 1) := by decide +kernel
theorem dX0_sum_38 : decode cX0_sum 38 = .ok (.getfield 18, 3) := by decide +kernel
theorem dX0_sum_41 : decode cX0_sum 41 = .ok (.iconst 4, 1) := by decide +kernel
theorem dX0_sum_42 : decode cX0_sum 42 = .ok (.aload_n 1, 1) := by decide +kernel
theorem dX0_sum_43 : decode cX0_sum 43 = .ok (.getfield 39, 3) := by decide +kernel
theorem dX0_sum_46 : decode cX0_sum 46 = .ok (.bipush 10, 2) := by decide +kernel
theorem dX0_sum_48 : decode cX0_sum 48 = .ok (.idiv, 1) := by decide +kernel
theorem dX0_sum_49 : decode cX0_sum 49 = .ok (.iastore, 1) := by decide +kernel
theorem dX0_sum_50 : decode cX0_sum 50 = .ok (.aload_n 0, 1) := by decide +kernel
theorem dX0_sum_51 : decode cX0_sum 51 = .ok (.getfield 18, 3) := by decide +kernel
theorem dX0_sum_54 : decode cX0_sum 54 = .ok (.iconst 5, 1) := by decide +kernel
theorem dX0_sum_55 : decode cX0_sum 55 = .ok (.iload_n 3, 1) := by decide +kernel
theorem dX0_sum_56 : decode cX0_sum 56 = .ok (.bipush 10, 2) := by decide +kernel
theorem dX0_sum_58 : decode cX0_sum 58 = .ok (.irem, 1) := by decide +kernel
theorem dX0_sum_59 : decode cX0_sum 59 = .ok (.iastore, 1) := by decide +kernel
theorem dX0_sum_60 : decode cX0_sum 60 = .ok (.aload_n 1, 1) := by decide +kernel
theorem dX0_sum_61 : decode cX0_sum 61 = .ok (.getfield 39, 3) := by decide +kernel
theorem dX0_sum_64 : decode cX0_sum 64 = .ok (.iconst 5, 1) := by decide +kernel
theorem dX0_sum_65 : decode cX0_sum 65 = .ok (.idiv, 1) := by decide +kernel
theorem dX0_sum_66 : decode cX0_sum 66 = .ok (.istore 4, 2) := by decide +kernel
theorem dX0_sum_68 : decode cX0_sum 68 = .ok (.iconst 0, 1) := by decide +kernel
theorem dX0_sum_69 : decode cX0_sum 69 = .ok (.istore 5, 2) := by decide +kernel
theorem dX0_sum_71 : decode cX0_sum 71 = .ok (.iconst 0, 1) := by decide +kernel
theorem dX0_sum_72 : decode cX0_sum 72 = .ok (.istore 6, 2) := by decide +kernel
theorem dX0_sum_74 : decode cX0_sum 74 = .ok (.iload 6, 2) := by decide +kernel
theorem dX0_sum_76 : decode cX0_sum 76 = .ok (.aload_n 0, 1) := by decide +kernel
theorem dX0_sum_77 : decode cX0_sum 77 = .ok (.getfield 21, 3) := by decide +kernel
theorem dX0_sum_80 : decode cX0_sum 80 = .ok (.if_icmp .ge 177, 3) := by decide +kernel
theorem dX0_sum_83 : decode cX0_sum 83 = .ok (.aload_n 0, 1) := by decide +kernel
theorem dX0_sum_84 : decode cX0_sum 84 = .ok (.getfield 15, 3) := by decide +kernel
theorem dX0_sum_87 : decode cX0_sum 87 = .ok (.iload 6, 2) := by decide +kernel
theorem dX0_sum_89 : decode cX0_sum 89 = .ok (.iaload, 1) := by decide +kernel
theorem dX0_sum_90 : decode cX0_sum 90 = .ok (.istore 7, 2) := by decide +kernel
theorem dX0_sum_92 : decode cX0_sum 92 = .ok (.aload_n 0, 1) := by decide +kernel
theorem dX0_sum_93 : decode cX0_sum 93 = .ok (.getfield 9, 3) := by decide +kernel
theorem dX0_sum_96 : decode cX0_sum 96 = .ok (.iload 6, 2) := by decide +kernel
theorem dX0_sum_98 : decode cX0_sum 98 = .ok (.iaload, 1) := by decide +kernel
theorem dX0_sum_99 : decode cX0_sum 99 = .ok (.tableswitch 85 18 21 #[29, 44, 58, 67], 29) := by decide +kernel
theorem dX0_sum_128 : decode cX0_sum 128 = .ok (.iload 5, 2) := by decide +kernel
theorem dX0_sum_130 : decode cX0_sum 130 = .ok (.iconst 1, 1) := by decide +kernel
theorem dX0_sum_131 : decode cX0_sum 131 = .ok (.ishr, 1) := by decide +kernel
theorem dX0_sum_132 : decode cX0_sum 132 = .ok (.iload 5, 2) := by decide +kernel
theorem dX0_sum_134 : decode cX0_sum 134 = .ok (.bipush (-2), 2) := by decide +kernel
theorem dX0_sum_136 : decode cX0_sum 136 = .ok (.ior, 1) := by decide +kernel
theorem dX0_sum_137 : decode cX0_sum 137 = .ok (.iand, 1) := by decide +kernel
theorem dX0_sum_138 : decode cX0_sum 138 = .ok (.istore 5, 2) := by decide +kernel
theorem dX0_sum_140 : decode cX0_sum 140 = .ok (.goto 111, 3) := by decide +kernel
theorem dX0_sum_143 : decode cX0_sum 143 = .ok (.iload 5, 2) := by decide +kernel
theorem dX0_sum_145 : decode cX0_sum 145 = .ok (.iconst 1, 1) := by decide +kernel
theorem dX0_sum_146 : decode cX0_sum 146 = .ok (.ishr, 1) := by decide +kernel
theorem dX0_sum_147 : decode cX0_sum 147 = .ok (.iload 5, 2) := by decide +kernel
theorem dX0_sum_149 : decode cX0_sum 149 = .ok (.iconst 1, 1) := by decide +kernel
theorem dX0_sum_150 : decode cX0_sum 150 = .ok (.iand, 1) := by decide +kernel
theorem dX0_sum_151 : decode cX0_sum 151 = .ok (.ior, 1) := by decide +kernel
theorem dX0_sum_152 : decode cX0_sum 152 = .ok (.istore 5, 2) := by decide +kernel
theorem dX0_sum_154 : decode cX0_sum 154 = .ok (.goto 97, 3) := by decide +kernel
theorem dX0_sum_157 : decode cX0_sum 157 = .ok (.iload 5, 2) := by decide +kernel
theorem dX0_sum_159 : decode cX0_sum 159 = .ok (.iconst 1, 1) := by decide +kernel
theorem dX0_sum_160 : decode cX0_sum 160 = .ok (.ixor, 1) := by decide +kernel
theorem dX0_sum_161 : decode cX0_sum 161 = .ok (.istore 5, 2) := by decide +kernel
theorem dX0_sum_163 : decode cX0_sum 163 = .ok (.goto 88, 3) := by decide +kernel
theorem dX0_sum_166 : decode cX0_sum 166 = .ok (.iload 4, 2) := by decide +kernel
theorem dX0_sum_168 : decode cX0_sum 168 = .ok (.iload 5, 2) := by decide +kernel
theorem dX0_sum_170 : decode cX0_sum 170 = .ok (.iconst 1, 1) := by decide +kernel
theorem dX0_sum_171 : decode cX0_sum 171 = .ok (.iand, 1) := by decide +kernel
theorem dX0_sum_172 : decode cX0_sum 172 = .ok (.iload 7, 2) := by decide +kernel
theorem dX0_sum_174 : decode cX0_sum 174 = .ok (.imul, 1) := by decide +kernel
theorem dX0_sum_175 : decode cX0_sum 175 = .ok (.iadd, 1) := by decide +kernel
theorem dX0_sum_176 : decode cX0_sum 176 = .ok (.istore 4, 2) := by decide +kernel
theorem dX0_sum_178 : decode cX0_sum 178 = .ok (.iconst 0, 1) := by decide +kernel
theorem dX0_sum_179 : decode cX0_sum 179 = .ok (.istore 5, 2) := by decide +kernel
theorem dX0_sum_181 : decode cX0_sum 181 = .ok (.goto 70, 3) := by decide +kernel
theorem dX0_sum_184 : decode cX0_sum 184 = .ok (.aload_n 0, 1) := by decide +kernel
theorem dX0_sum_185 : decode cX0_sum 185 = .ok (.getfield 18, 3) := by decide +kernel
theorem dX0_sum_188 : decode cX0_sum 188 = .ok (.aload_n 0, 1) := by decide +kernel
theorem dX0_sum_189 : decode cX0_sum 189 = .ok (.getfield 9, 3) := by decide +kernel
theorem dX0_sum_192 : decode cX0_sum 192 = .ok (.iload 6, 2) := by decide +kernel
theorem dX0_sum_194 : decode cX0_sum 194 = .ok (.iaload, 1) := by decide +kernel
theorem dX0_sum_195 : decode cX0_sum 195 = .ok (.iconst 3, 1) := by decide +kernel
theorem dX0_sum_196 : decode cX0_sum 196 = .ok (.idiv, 1) := by decide +kernel
theorem dX0_sum_197 : decode cX0_sum 197 = .ok (.iaload, 1) := by decide +kernel
theorem dX0_sum_198 : decode cX0_sum 198 = .ok (.istore 8, 2) := by decide +kernel
theorem dX0_sum_200 : decode cX0_sum 200 = .ok (.iload 8, 2) := by decide +kernel
theorem dX0_sum_202 : decode cX0_sum 202 = .ok (.iload 7, 2) := by decide +kernel
theorem dX0_sum_204 : decode cX0_sum 204 = .ok (.if_icmp .ge 7, 3) := by decide +kernel
theorem dX0_sum_207 : decode cX0_sum 207 = .ok (.iconst 0, 1) := by decide +kernel
theorem dX0_sum_208 : decode cX0_sum 208 = .ok (.goto 15, 3) := by decide +kernel
theorem dX0_sum_211 : decode cX0_sum 211 = .ok (.iload 8, 2) := by decide +kernel
theorem dX0_sum_213 : decode cX0_sum 213 = .ok (.iload 7, 2) := by decide +kernel
theorem dX0_sum_215 : decode cX0_sum 215 = .ok (.if_icmp .ne 7, 3) := by decide +kernel
theorem dX0_sum_218 : decode cX0_sum 218 = .ok (.iconst 1, 1) := by decide +kernel
theorem dX0_sum_219 : decode cX0_sum 219 = .ok (.goto 4, 3) := by decide +kernel
theorem dX0_sum_222 : decode cX0_sum 222 = .ok (.iconst 2, 1) := by decide +kernel
theorem dX0_sum_223 : decode cX0_sum 223 = .ok (.istore 9, 2) := by decide +kernel
theorem dX0_sum_225 : decode cX0_sum 225 = .ok (.iload 5, 2) := by decide +kernel
theorem dX0_sum_227 : decode cX0_sum 227 = .ok (.iconst 1, 1) := by decide +kernel
theorem dX0_sum_228 : decode cX0_sum 228 = .ok (.ishl, 1) := by decide +kernel
theorem dX0_sum_229 : decode cX0_sum 229 = .ok (.iload 9, 2) := by decide +kernel
theorem dX0_sum_231 : decode cX0_sum 231 = .ok (.aload_n 0, 1) := by decide +kernel
theorem dX0_sum_232 : decode cX0_sum 232 = .ok (.getfield 9, 3) := by decide +kernel
theorem dX0_sum_235 : decode cX0_sum 235 = .ok (.iload 6, 2) := by decide +kernel
theorem dX0_sum_237 : decode cX0_sum 237 = .ok (.iaload, 1) := by decide +kernel
theorem dX0_sum_238 : decode cX0_sum 238 = .ok (.iconst 3, 1) := by decide +kernel
theorem dX0_sum_239 : decode cX0_sum 239 = .ok (.irem, 1) := by decide +kernel
theorem dX0_sum_240 : decode cX0_sum 240 = .ok (.if_icmp .ne 7, 3) := by decide +kernel
theorem dX0_sum_243 : decode cX0_sum 243 = .ok (.iconst 1, 1) := by decide +kernel
theorem dX0_sum_244 : decode cX0_sum 244 = .ok (.goto 4, 3) := by decide +kernel
theorem dX0_sum_247 : decode cX0_sum 247 = .ok (.iconst 0, 1) := by decide +kernel
theorem dX0_sum_248 : decode cX0_sum 248 = .ok (.ior, 1) := by decide +kernel
theorem dX0_sum_249 : decode cX0_sum 249 = .ok (.istore 5, 2) := by decide +kernel
theorem dX0_sum_251 : decode cX0_sum 251 = .ok (.iinc 6 1, 3) := by decide +kernel
theorem dX0_sum_254 : decode cX0_sum 254 = .ok (.goto (-180), 3) := by decide +kernel
theorem dX0_sum_257 : decode cX0_sum 257 = .ok (.iload 4, 2) := by decide +kernel
theorem dX0_sum_259 : decode cX0_sum 259 = .ok (.ireturn, 1) := by decide +kernel
theorem dX1_init_0 : decode cX1_init 0 = .ok (.aload_n 0, 1) := by decide +kernel
theorem dX1_init_1 : decode cX1_init 1 = .ok (.invokespecial 1, 3) := by decide +kernel
theorem dX1_init_4 : decode cX1_init 4 = .ok (.aload_n 0, 1) := by decide +kernel
theorem dX1_init_5 : decode cX1_init 5 = .ok (.new 7, 3) := by decide +kernel
theorem dX1_init_8 : decode cX1_init 8 = .ok (.dup, 1) := by decide +kernel
theorem dX1_init_9 : decode cX1_init 9 = .ok (.iconst 5, 1) := by decide +kernel
theorem dX1_init_10 : decode cX1_init 10 = .ok (.invokespecial 9, 3) := by decide +kernel
theorem dX1_init_13 : decode cX1_init 13 = .ok (.putfield 12, 3) := by decide +kernel
theorem dX1_init_16 : decode cX1_init 16 = .ok (.aload_n 0, 1) := by decide +kernel
theorem dX1_init_17 : decode cX1_init 17 = .ok (.new 7, 3) := by decide +kernel
theorem dX1_init_20 : decode cX1_init 20 = .ok (.dup, 1) := by decide +kernel
theorem dX1_init_21 : decode cX1_init 21 = .ok (.iconst 5, 1) := by decide +kernel
theorem dX1_init_22 : decode cX1_init 22 = .ok (.invokespecial 9, 3) := by decide +kernel
theorem dX1_init_25 : decode cX1_init 25 = .ok (.putfield 18, 3) := by decide +kernel
theorem dX1_init_28 : decode cX1_init 28 = .ok (.aload_n 0, 1) := by decide +kernel
theorem dX1_init_29 : decode cX1_init 29 = .ok (.new 7, 3) := by decide +kernel
theorem dX1_init_32 : decode cX1_init 32 = .ok (.dup, 1) := by decide +kernel
theorem dX1_init_33 : decode cX1_init 33 = .ok (.bipush 10, 2) := by decide +kernel
theorem dX1_init_35 : decode cX1_init 35 = .ok (.invokespecial 9, 3) := by decide +kernel
theorem dX1_init_38 : decode cX1_init 38 = .ok (.putfield 21, 3) := by decide +kernel
theorem dX1_init_41 : decode cX1_init 41 = .ok (.aload_n 0, 1) := by decide +kernel
theorem dX1_init_42 : decode cX1_init 42 = .ok (.new 7, 3) := by decide +kernel
theorem dX1_init_45 : decode cX1_init 45 = .ok (.dup, 1) := by decide +kernel
theorem dX1_init_46 : decode cX1_init 46 = .ok (.bipush 8, 2) := by decide +kernel
theorem dX1_init_48 : decode cX1_init 48 = .ok (.invokespecial 9, 3) := by decide +kernel
theorem dX1_init_51 : decode cX1_init 51 = .ok (.putfield 24, 3) := by decide +kernel
theorem dX1_init_54 : decode cX1_init 54 = .ok (.return_, 1) := by decide +kernel
theorem dX1_become_0 : decode cX1_become 0 = .ok (.aload_n 0, 1) := by decide +kernel
theorem dX1_become_1 : decode cX1_become 1 = .ok (.getfield 12, 3) := by decide +kernel
theorem dX1_become_4 : decode cX1_become 4 = .ok (.aload_n 1, 1) := by decide +kernel
theorem dX1_become_5 : decode cX1_become 5 = .ok (.getfield 12, 3) := by decide +kernel
theorem dX1_become_8 : decode cX1_become 8 = .ok (.invokevirtual 27, 3) := by decide +kernel
theorem dX1_become_11 : decode cX1_become 11 = .ok (.aload_n 0, 1) := by decide +kernel
theorem dX1_become_12 : decode cX1_become 12 = .ok (.getfield 18, 3) := by decide +kernel
theorem dX1_become_15 : decode cX1_become 15 = .ok (.aload_n 1, 1) := by decide +kernel
theorem dX1_become_16 : decode cX1_become 16 = .ok (.getfield 18, 3) := by decide +kernel
theorem dX1_become_19 : decode cX1_become 19 = .ok (.invokevirtual 27, 3) := by decide +kernel
theorem dX1_become_22 : decode cX1_become 22 = .ok (.aload_n 0, 1) := by decide +kernel
theorem dX1_become_23 : decode cX1_become 23 = .ok (.getfield 21, 3) := by decide +kernel
theorem dX1_become_26 : decode cX1_become 26 = .ok (.aload_n 1, 1) := by decide +kernel
theorem dX1_become_27 : decode cX1_become 27 = .ok (.getfield 21, 3) := by decide +kernel
theorem dX1_become_30 : decode cX1_become 30 = .ok (.invokevirtual 27, 3) := by decide +kernel
theorem dX1_become_33 : decode cX1_become 33 = .ok (.aload_n 0, 1) := by decide +kernel
theorem dX1_become_34 : decode cX1_become 34 = .ok (.getfield 24, 3) := by decide +kernel
theorem dX1_become_37 : decode cX1_become 37 = .ok (.aload_n 1, 1) := by decide +kernel
theorem dX1_become_38 : decode cX1_become 38 = .ok (.getfield 24, 3) := by decide +kernel
theorem dX1_become_41 : decode cX1_become 41 = .ok (.invokevirtual 27, 3) := by decide +kernel
theorem dX1_become_44 : decode cX1_become 44 = .ok (.return_, 1) := by decide +kernel
theorem dX2_init_0 : decode cX2_init 0 = .ok (.aload_n 0, 1) := by decide +kernel
theorem dX2_init_1 : decode cX2_init 1 = .ok (.invokespecial 3, 3) := by decide +kernel
theorem dX2_init_4 : decode cX2_init 4 = .ok (.aload_n 0, 1) := by decide +kernel
theorem dX2_init_5 : decode cX2_init 5 = .ok (.bipush 100, 2) := by decide +kernel
theorem dX2_init_7 : decode cX2_init 7 = .ok (.newarray .byte, 2) := by decide +kernel
theorem dX2_init_9 : decode cX2_init 9 = .ok (.putfield 9, 3) := by decide +kernel
theorem dX2_init_12 : decode cX2_init 12 = .ok (.aload_n 0, 1) := by decide +kernel
theorem dX2_init_13 : decode cX2_init 13 = .ok (.iconst 0, 1) := by decide +kernel
theorem dX2_init_14 : decode cX2_init 14 = .ok (.putfield 15, 3) := by decide +kernel
theorem dX2_init_17 : decode cX2_init 17 = .ok (.aload_n 0, 1) := by decide +kernel
theorem dX2_init_18 : decode cX2_init 18 = .ok (.iconst 0, 1) := by decide +kernel
theorem dX2_init_19 : decode cX2_init 19 = .ok (.putfield 19, 3) := by decide +kernel
theorem dX2_init_22 : decode cX2_init 22 = .ok (.return_, 1) := by decide +kernel
theorem dX2_takes_0 : decode cX2_takes 0 = .ok (.aload_n 0, 1) := by decide +kernel
theorem dX2_takes_1 : decode cX2_takes 1 = .ok (.getfield 15, 3) := by decide +kernel
theorem dX2_takes_4 : decode cX2_takes 4 = .ok (.aload_n 0, 1) := by decide +kernel
theorem dX2_takes_5 : decode cX2_takes 5 = .ok (.getfield 9, 3) := by decide +kernel
theorem dX2_takes_8 : decode cX2_takes 8 = .ok (.arraylength, 1) := by decide +kernel
theorem dX2_takes_9 : decode cX2_takes 9 = .ok (.if_icmp .lt 6, 3) := by decide +kernel
theorem dX2_takes_12 : decode cX2_takes 12 = .ok (.bipush (-4), 2) := by decide +kernel
theorem dX2_takes_14 : decode cX2_takes 14 = .ok (.ireturn, 1) := by decide +kernel
theorem dX2_takes_15 : decode cX2_takes 15 = .ok (.aload_n 0, 1) := by decide +kernel
theorem dX2_takes_16 : decode cX2_takes 16 = .ok (.getfield 9, 3) := by decide +kernel
theorem dX2_takes_19 : decode cX2_takes 19 = .ok (.aload_n 0, 1) := by decide +kernel
theorem dX2_takes_20 : decode cX2_takes 20 = .ok (.getfield 15, 3) := by decide +kernel
theorem dX2_takes_23 : decode cX2_takes 23 = .ok (.iload_n 1, 1) := by decide +kernel
theorem dX2_takes_24 : decode cX2_takes 24 = .ok (.i2b, 1) := by decide +kernel
theorem dX2_takes_25 : decode cX2_takes 25 = .ok (.bastore, 1) := by decide +kernel
theorem dX2_takes_26 : decode cX2_takes 26 = .ok (.aload_n 0, 1) := by decide +kernel
theorem dX2_takes_27 : decode cX2_takes 27 = .ok (.dup, 1) := by decide +kernel
theorem dX2_takes_28 : decode cX2_takes 28 = .ok (.getfield 15, 3) := by decide +kernel
theorem dX2_takes_31 : decode cX2_takes 31 = .ok (.iconst 1, 1) := by decide +kernel
theorem dX2_takes_32 : decode cX2_takes 32 = .ok (.iadd, 1) := by decide +kernel
theorem dX2_takes_33 : decode cX2_takes 33 = .ok (.putfield 15, 3) := by decide +kernel
theorem dX2_takes_36 : decode cX2_takes 36 = .ok (.aload_n 0, 1) := by decide +kernel
theorem dX2_takes_37 : decode cX2_takes 37 = .ok (.getfield 15, 3) := by decide +kernel
theorem dX2_takes_40 : decode cX2_takes 40 = .ok (.ireturn, 1) := by decide +kernel
theorem dX2_makes_0 : decode cX2_makes 0 = .ok (.aload_n 1, 1) := by decide +kernel
theorem dX2_makes_1 : decode cX2_makes 1 = .ok (.invokevirtual 22, 3) := by decide +kernel
theorem dX2_makes_4 : decode cX2_makes 4 = .ok (.aload_n 0, 1) := by decide +kernel
theorem dX2_makes_5 : decode cX2_makes 5 = .ok (.iconst 0, 1) := by decide +kernel
theorem dX2_makes_6 : decode cX2_makes 6 = .ok (.putfield 19, 3) := by decide +kernel
theorem dX2_makes_9 : decode cX2_makes 9 = .ok (.iconst 0, 1) := by decide +kernel
theorem dX2_makes_10 : decode cX2_makes 10 = .ok (.istore_n 2, 1) := by decide +kernel
theorem dX2_makes_11 : decode cX2_makes 11 = .ok (.iload_n 2, 1) := by decide +kernel
theorem dX2_makes_12 : decode cX2_makes 12 = .ok (.bipush 10, 2) := by decide +kernel
theorem dX2_makes_14 : decode cX2_makes 14 = .ok (.if_icmp .ge 47, 3) := by decide +kernel
theorem dX2_makes_17 : decode cX2_makes 17 = .ok (.iload_n 2, 1) := by decide +kernel
theorem dX2_makes_18 : decode cX2_makes 18 = .ok (.ifCond .le 14, 3) := by decide +kernel
theorem dX2_makes_21 : decode cX2_makes 21 = .ok (.aload_n 0, 1) := by decide +kernel
theorem dX2_makes_22 : decode cX2_makes 22 = .ok (.bipush 59, 2) := by decide +kernel
theorem dX2_makes_24 : decode cX2_makes 24 = .ok (.invokevirtual 27, 3) := by decide +kernel
theorem dX2_makes_27 : decode cX2_makes 27 = .ok (.ifCond .ne 5, 3) := by decide +kernel
theorem dX2_makes_30 : decode cX2_makes 30 = .ok (.iconst 0, 1) := by decide +kernel
theorem dX2_makes_31 : decode cX2_makes 31 = .ok (.ireturn, 1) := by decide +kernel
theorem dX2_makes_32 : decode cX2_makes 32 = .ok (.aload_n 0, 1) := by decide +kernel
theorem dX2_makes_33 : decode cX2_makes 33 = .ok (.aload_n 1, 1) := by decide +kernel
theorem dX2_makes_34 : decode cX2_makes 34 = .ok (.invokevirtual 31, 3) := by decide +kernel
theorem dX2_makes_37 : decode cX2_makes 37 = .ok (.ifCond .ne 5, 3) := by decide +kernel
theorem dX2_makes_40 : decode cX2_makes 40 = .ok (.iconst 0, 1) := by decide +kernel
theorem dX2_makes_41 : decode cX2_makes 41 = .ok (.ireturn, 1) := by decide +kernel
theorem dX2_makes_42 : decode cX2_makes 42 = .ok (.aload_n 0, 1) := by decide +kernel
theorem dX2_makes_43 : decode cX2_makes 43 = .ok (.getfield 19, 3) := by decide +kernel
theorem dX2_makes_46 : decode cX2_makes 46 = .ok (.aload_n 0, 1) := by decide +kernel
theorem dX2_makes_47 : decode cX2_makes 47 = .ok (.getfield 15, 3) := by decide +kernel
theorem dX2_makes_50 : decode cX2_makes 50 = .ok (.if_icmp .ne 5, 3) := by decide +kernel
theorem dX2_makes_53 : decode cX2_makes 53 = .ok (.iconst 1, 1) := by decide +kernel
theorem dX2_makes_54 : decode cX2_makes 54 = .ok (.ireturn, 1) := by decide +kernel
theorem dX2_makes_55 : decode cX2_makes 55 = .ok (.iinc 2 1, 3) := by decide +kernel
theorem dX2_makes_58 : decode cX2_makes 58 = .ok (.goto (-47), 3) := by decide +kernel
theorem dX2_makes_61 : decode cX2_makes 61 = .ok (.iconst 0, 1) := by decide +kernel
theorem dX2_makes_62 : decode cX2_makes 62 = .ok (.ireturn, 1) := by decide +kernel
theorem dX2_isClause_0 : decode cX2_isClause 0 = .ok (.aload_n 0, 1) := by decide +kernel
theorem dX2_isClause_1 : decode cX2_isClause 1 = .ok (.bipush 114, 2) := by decide +kernel
theorem dX2_isClause_3 : decode cX2_isClause 3 = .ok (.invokevirtual 27, 3) := by decide +kernel
theorem dX2_isClause_6 : decode cX2_isClause 6 = .ok (.ifCond .eq 34, 3) := by decide +kernel
theorem dX2_isClause_9 : decode cX2_isClause 9 = .ok (.aload_n 0, 1) := by decide +kernel
theorem dX2_isClause_10 : decode cX2_isClause 10 = .ok (.ldc 35, 2) := by decide +kernel
theorem dX2_isClause_12 : decode cX2_isClause 12 = .ok (.invokevirtual 37, 3) := by decide +kernel
theorem dX2_isClause_15 : decode cX2_isClause 15 = .ok (.ifCond .eq 10, 3) := by decide +kernel
theorem dX2_isClause_18 : decode cX2_isClause 18 = .ok (.aload_n 0, 1) := by decide +kernel
theorem dX2_isClause_19 : decode cX2_isClause 19 = .ok (.invokevirtual 41, 3) := by decide +kernel
theorem dX2_isClause_22 : decode cX2_isClause 22 = .ok (.goto 4, 3) := by decide +kernel
theorem dX2_isClause_25 : decode cX2_isClause 25 = .ok (.iconst (-1), 1) := by decide +kernel
theorem dX2_isClause_26 : decode cX2_isClause 26 = .ok (.istore_n 2, 1) := by decide +kernel
theorem dX2_isClause_27 : decode cX2_isClause 27 = .ok (.iload_n 2, 1) := by decide +kernel
theorem dX2_isClause_28 : decode cX2_isClause 28 = .ok (.ifCond .ge 5, 3) := by decide +kernel
theorem dX2_isClause_31 : decode cX2_isClause 31 = .ok (.iconst 0, 1) := by decide +kernel
theorem dX2_isClause_32 : decode cX2_isClause 32 = .ok (.ireturn, 1) := by decide +kernel
theorem dX2_isClause_33 : decode cX2_isClause 33 = .ok (.aload_n 1, 1) := by decide +kernel
theorem dX2_isClause_34 : decode cX2_isClause 34 = .ok (.iload_n 2, 1) := by decide +kernel
theorem dX2_isClause_35 : decode cX2_isClause 35 = .ok (.putfield 45, 3) := by decide +kernel
theorem dX2_isClause_38 : decode cX2_isClause 38 = .ok (.iconst 1, 1) := by decide +kernel
theorem dX2_isClause_39 : decode cX2_isClause 39 = .ok (.ireturn, 1) := by decide +kernel
theorem dX2_isClause_40 : decode cX2_isClause 40 = .ok (.aload_n 0, 1) := by decide +kernel
theorem dX2_isClause_41 : decode cX2_isClause 41 = .ok (.bipush 102, 2) := by decide +kernel
theorem dX2_isClause_43 : decode cX2_isClause 43 = .ok (.invokevirtual 27, 3) := by decide +kernel
theorem dX2_isClause_46 : decode cX2_isClause 46 = .ok (.istore_n 2, 1) := by decide +kernel
theorem dX2_isClause_47 : decode cX2_isClause 47 = .ok (.iload_n 2, 1) := by decide +kernel
theorem dX2_isClause_48 : decode cX2_isClause 48 = .ok (.ifCond .ne 14, 3) := by decide +kernel
theorem dX2_isClause_51 : decode cX2_isClause 51 = .ok (.aload_n 0, 1) := by decide +kernel
theorem dX2_isClause_52 : decode cX2_isClause 52 = .ok (.bipush 119, 2) := by decide +kernel
theorem dX2_isClause_54 : decode cX2_isClause 54 = .ok (.invokevirtual 27, 3) := by decide +kernel
theorem dX2_isClause_57 : decode cX2_isClause 57 = .ok (.ifCond .ne 5, 3) := by decide +kernel
theorem dX2_isClause_60 : decode cX2_isClause 60 = .ok (.iconst 0, 1) := by decide +kernel
theorem dX2_isClause_61 : decode cX2_isClause 61 = .ok (.ireturn, 1) := by decide +kernel
theorem dX2_isClause_62 : decode cX2_isClause 62 = .ok (.aload_n 0, 1) := by decide +kernel
theorem dX2_isClause_63 : decode cX2_isClause 63 = .ok (.iload_n 2, 1) := by decide +kernel
theorem dX2_isClause_64 : decode cX2_isClause 64 = .ok (.ifCond .eq 8, 3) := by decide +kernel
theorem dX2_isClause_67 : decode cX2_isClause 67 = .ok (.ldc 48, 2) := by decide +kernel
theorem dX2_isClause_69 : decode cX2_isClause 69 = .ok (.goto 5, 3) := by decide +kernel
theorem dX2_isClause_72 : decode cX2_isClause 72 = .ok (.ldc 50, 2) := by decide +kernel
theorem dX2_isClause_74 : decode cX2_isClause 74 = .ok (.invokevirtual 37, 3) := by decide +kernel
theorem dX2_isClause_77 : decode cX2_isClause 77 = .ok (.ifCond .eq 10, 3) := by decide +kernel
theorem dX2_isClause_80 : decode cX2_isClause 80 = .ok (.aload_n 0, 1) := by decide +kernel
theorem dX2_isClause_81 : decode cX2_isClause 81 = .ok (.invokevirtual 41, 3) := by decide +kernel
theorem dX2_isClause_84 : decode cX2_isClause 84 = .ok (.goto 4, 3) := by decide +kernel
theorem dX2_isClause_87 : decode cX2_isClause 87 = .ok (.iconst (-1), 1) := by decide +kernel
theorem dX2_isClause_88 : decode cX2_isClause 88 = .ok (.istore_n 3, 1) := by decide +kernel
theorem dX2_isClause_89 : decode cX2_isClause 89 = .ok (.iload_n 3, 1) := by decide +kernel
theorem dX2_isClause_90 : decode cX2_isClause 90 = .ok (.ifCond .lt 21, 3) := by decide +kernel
theorem dX2_isClause_93 : decode cX2_isClause 93 = .ok (.aload_n 0, 1) := by decide +kernel
theorem dX2_isClause_94 : decode cX2_isClause 94 = .ok (.bipush 32, 2) := by decide +kernel
theorem dX2_isClause_96 : decode cX2_isClause 96 = .ok (.invokevirtual 27, 3) := by decide +kernel
theorem dX2_isClause_99 : decode cX2_isClause 99 = .ok (.ifCond .eq 12, 3) := by decide +kernel
theorem dX2_isClause_102 : decode cX2_isClause 102 = .ok (.aload_n 0, 1) := by decide +kernel
theorem dX2_isClause_103 : decode cX2_isClause 103 = .ok (.aload_n 1, 1) := by decide +kernel
theorem dX2_isClause_104 : decode cX2_isClause 104 = .ok (.iconst 0, 1) := by decide +kernel
theorem dX2_isClause_105 : decode cX2_isClause 105 = .ok (.invokevirtual 52, 3) := by decide +kernel
theorem dX2_isClause_108 : decode cX2_isClause 108 = .ok (.ifCond .ne 5, 3) := by decide +kernel
theorem dX2_isClause_111 : decode cX2_isClause 111 = .ok (.iconst 0, 1) := by decide +kernel
theorem dX2_isClause_112 : decode cX2_isClause 112 = .ok (.ireturn, 1) := by decide +kernel
theorem dX2_isClause_113 : decode cX2_isClause 113 = .ok (.aload_n 1, 1) := by decide +kernel
theorem dX2_isClause_114 : decode cX2_isClause 114 = .ok (.bipush 21, 2) := by decide +kernel
theorem dX2_isClause_116 : decode cX2_isClause 116 = .ok (.iload_n 2, 1) := by decide +kernel
theorem dX2_isClause_117 : decode cX2_isClause 117 = .ok (.ifCond .eq 7, 3) := by decide +kernel
theorem dX2_isClause_120 : decode cX2_isClause 120 = .ok (.iload_n 3, 1) := by decide +kernel
theorem dX2_isClause_121 : decode cX2_isClause 121 = .ok (.goto 5, 3) := by decide +kernel
theorem dX2_isClause_124 : decode cX2_isClause 124 = .ok (.iload_n 3, 1) := by decide +kernel
theorem dX2_isClause_125 : decode cX2_isClause 125 = .ok (.ineg, 1) := by decide +kernel
theorem dX2_isClause_126 : decode cX2_isClause 126 = .ok (.invokevirtual 56, 3) := by decide +kernel
theorem dX2_isClause_129 : decode cX2_isClause 129 = .ok (.iconst 1, 1) := by decide +kernel
theorem dX2_isClause_130 : decode cX2_isClause 130 = .ok (.ireturn, 1) := by decide +kernel
theorem dX2_isEither_0 : decode cX2_isEither 0 = .ok (.iconst 0, 1) := by decide +kernel
theorem dX2_isEither_1 : decode cX2_isEither 1 = .ok (.istore_n 3, 1) := by decide +kernel
theorem dX2_isEither_2 : decode cX2_isEither 2 = .ok (.iload_n 3, 1) := by decide +kernel
theorem dX2_isEither_3 : decode cX2_isEither 3 = .ok (.aload_n 0, 1) := by decide +kernel
theorem dX2_isEither_4 : decode cX2_isEither 4 = .ok (.getfield 9, 3) := by decide +kernel
theorem dX2_isEither_7 : decode cX2_isEither 7 = .ok (.arraylength, 1) := by decide +kernel
theorem dX2_isEither_8 : decode cX2_isEither 8 = .ok (.if_icmp .ge 42, 3) := by decide +kernel
theorem dX2_isEither_11 : decode cX2_isEither 11 = .ok (.aload_n 0, 1) := by decide +kernel
theorem dX2_isEither_12 : decode cX2_isEither 12 = .ok (.aload_n 1, 1) := by decide +kernel
theorem dX2_isEither_13 : decode cX2_isEither 13 = .ok (.iload_n 2, 1) := by decide +kernel
theorem dX2_isEither_14 : decode cX2_isEither 14 = .ok (.invokevirtual 60, 3) := by decide +kernel
theorem dX2_isEither_17 : decode cX2_isEither 17 = .ok (.ifCond .ne 5, 3) := by decide +kernel
theorem dX2_isEither_20 : decode cX2_isEither 20 = .ok (.iconst 0, 1) := by decide +kernel
theorem dX2_isEither_21 : decode cX2_isEither 21 = .ok (.ireturn, 1) := by decide +kernel
theorem dX2_isEither_22 : decode cX2_isEither 22 = .ok (.iload_n 3, 1) := by decide +kernel
theorem dX2_isEither_23 : decode cX2_isEither 23 = .ok (.ifCond .le 10, 3) := by decide +kernel
theorem dX2_isEither_26 : decode cX2_isEither 26 = .ok (.aload_n 1, 1) := by decide +kernel
theorem dX2_isEither_27 : decode cX2_isEither 27 = .ok (.bipush 19, 2) := by decide +kernel
theorem dX2_isEither_29 : decode cX2_isEither 29 = .ok (.iconst 0, 1) := by decide +kernel
theorem dX2_isEither_30 : decode cX2_isEither 30 = .ok (.invokevirtual 56, 3) := by decide +kernel
theorem dX2_isEither_33 : decode cX2_isEither 33 = .ok (.aload_n 0, 1) := by decide +kernel
theorem dX2_isEither_34 : decode cX2_isEither 34 = .ok (.bipush 124, 2) := by decide +kernel
theorem dX2_isEither_36 : decode cX2_isEither 36 = .ok (.invokevirtual 27, 3) := by decide +kernel
theorem dX2_isEither_39 : decode cX2_isEither 39 = .ok (.ifCond .ne 5, 3) := by decide +kernel
theorem dX2_isEither_42 : decode cX2_isEither 42 = .ok (.iconst 1, 1) := by decide +kernel
theorem dX2_isEither_43 : decode cX2_isEither 43 = .ok (.ireturn, 1) := by decide +kernel
theorem dX2_isEither_44 : decode cX2_isEither 44 = .ok (.iinc 3 1, 3) := by decide +kernel
theorem dX2_isEither_47 : decode cX2_isEither 47 = .ok (.goto (-45), 3) := by decide +kernel
theorem dX2_isEither_50 : decode cX2_isEither 50 = .ok (.iconst 0, 1) := by decide +kernel
theorem dX2_isEither_51 : decode cX2_isEither 51 = .ok (.ireturn, 1) := by decide +kernel
theorem dX2_isBoth_0 : decode cX2_isBoth 0 = .ok (.iconst 0, 1) := by decide +kernel
theorem dX2_isBoth_1 : decode cX2_isBoth 1 = .ok (.istore_n 3, 1) := by decide +kernel
theorem dX2_isBoth_2 : decode cX2_isBoth 2 = .ok (.iload_n 3, 1) := by decide +kernel
theorem dX2_isBoth_3 : decode cX2_isBoth 3 = .ok (.aload_n 0, 1) := by decide +kernel
theorem dX2_isBoth_4 : decode cX2_isBoth 4 = .ok (.getfield 9, 3) := by decide +kernel
theorem dX2_isBoth_7 : decode cX2_isBoth 7 = .ok (.arraylength, 1) := by decide +kernel
theorem dX2_isBoth_8 : decode cX2_isBoth 8 = .ok (.if_icmp .ge 42, 3) := by decide +kernel
theorem dX2_isBoth_11 : decode cX2_isBoth 11 = .ok (.aload_n 0, 1) := by decide +kernel
theorem dX2_isBoth_12 : decode cX2_isBoth 12 = .ok (.aload_n 1, 1) := by decide +kernel
theorem dX2_isBoth_13 : decode cX2_isBoth 13 = .ok (.iload_n 2, 1) := by decide +kernel
theorem dX2_isBoth_14 : decode cX2_isBoth 14 = .ok (.invokevirtual 63, 3) := by decide +kernel
theorem dX2_isBoth_17 : decode cX2_isBoth 17 = .ok (.ifCond .ne 5, 3) := by decide +kernel
theorem dX2_isBoth_20 : decode cX2_isBoth 20 = .ok (.iconst 0, 1) := by decide +kernel
theorem dX2_isBoth_21 : decode cX2_isBoth 21 = .ok (.ireturn, 1) := by decide +kernel
theorem dX2_isBoth_22 : decode cX2_isBoth 22 = .ok (.iload_n 3, 1) := by decide +kernel
theorem dX2_isBoth_23 : decode cX2_isBoth 23 = .ok (.ifCond .le 10, 3) := by decide +kernel
theorem dX2_isBoth_26 : decode cX2_isBoth 26 = .ok (.aload_n 1, 1) := by decide +kernel
theorem dX2_isBoth_27 : decode cX2_isBoth 27 = .ok (.bipush 18, 2) := by decide +kernel
theorem dX2_isBoth_29 : decode cX2_isBoth 29 = .ok (.iconst 0, 1) := by decide +kernel
theorem dX2_isBoth_30 : decode cX2_isBoth 30 = .ok (.invokevirtual 56, 3) := by decide +kernel
theorem dX2_isBoth_33 : decode cX2_isBoth 33 = .ok (.aload_n 0, 1) := by decide +kernel
theorem dX2_isBoth_34 : decode cX2_isBoth 34 = .ok (.bipush 38, 2) := by decide +kernel
theorem dX2_isBoth_36 : decode cX2_isBoth 36 = .ok (.invokevirtual 27, 3) := by decide +kernel
theorem dX2_isBoth_39 : decode cX2_isBoth 39 = .ok (.ifCond .ne 5, 3) := by decide +kernel
theorem dX2_isBoth_42 : decode cX2_isBoth 42 = .ok (.iconst 1, 1) := by decide +kernel
theorem dX2_isBoth_43 : decode cX2_isBoth 43 = .ok (.ireturn, 1) := by decide +kernel
theorem dX2_isBoth_44 : decode cX2_isBoth 44 = .ok (.iinc 3 1, 3) := by decide +kernel
theorem dX2_isBoth_47 : decode cX2_isBoth 47 = .ok (.goto (-45), 3) := by decide +kernel
theorem dX2_isBoth_50 : decode cX2_isBoth 50 = .ok (.iconst 0, 1) := by decide +kernel
theorem dX2_isBoth_51 : decode cX2_isBoth 51 = .ok (.ireturn, 1) := by decide +kernel
theorem dX2_isFactor_0 : decode cX2_isFactor 0 = .ok (.iload_n 2, 1) := by decide +kernel
theorem dX2_isFactor_1 : decode cX2_isFactor 1 = .ok (.iconst 4, 1) := by decide +kernel
theorem dX2_isFactor_2 : decode cX2_isFactor 2 = .ok (.if_icmp .ge 34, 3) := by decide +kernel
theorem dX2_isFactor_5 : decode cX2_isFactor 5 = .ok (.aload_n 0, 1) := by decide +kernel
theorem dX2_isFactor_6 : decode cX2_isFactor 6 = .ok (.bipush 33, 2) := by decide +kernel
theorem dX2_isFactor_8 : decode cX2_isFactor 8 = .ok (.invokevirtual 27, 3) := by decide +kernel
theorem dX2_isFactor_11 : decode cX2_isFactor 11 = .ok (.ifCond .eq 25, 3) := by decide +kernel
theorem dX2_isFactor_14 : decode cX2_isFactor 14 = .ok (.aload_n 0, 1) := by decide +kernel
theorem dX2_isFactor_15 : decode cX2_isFactor 15 = .ok (.aload_n 1, 1) := by decide +kernel
theorem dX2_isFactor_16 : decode cX2_isFactor 16 = .ok (.iload_n 2, 1) := by decide +kernel
theorem dX2_isFactor_17 : decode cX2_isFactor 17 = .ok (.iconst 1, 1) := by decide +kernel
theorem dX2_isFactor_18 : decode cX2_isFactor 18 = .ok (.iadd, 1) := by decide +kernel
theorem dX2_isFactor_19 : decode cX2_isFactor 19 = .ok (.invokevirtual 63, 3) := by decide +kernel
theorem dX2_isFactor_22 : decode cX2_isFactor 22 = .ok (.ifCond .ne 5, 3) := by decide +kernel
theorem dX2_isFactor_25 : decode cX2_isFactor 25 = .ok (.iconst 0, 1) := by decide +kernel
theorem dX2_isFactor_26 : decode cX2_isFactor 26 = .ok (.ireturn, 1) := by decide +kernel
theorem dX2_isFactor_27 : decode cX2_isFactor 27 = .ok (.aload_n 1, 1) := by decide +kernel
theorem dX2_isFactor_28 : decode cX2_isFactor 28 = .ok (.bipush 20, 2) := by decide +kernel
theorem dX2_isFactor_30 : decode cX2_isFactor 30 = .ok (.iconst 0, 1) := by decide +kernel
theorem dX2_isFactor_31 : decode cX2_isFactor 31 = .ok (.invokevirtual 56, 3) := by decide +kernel
theorem dX2_isFactor_34 : decode cX2_isFactor 34 = .ok (.iconst 1, 1) := by decide +kernel
theorem dX2_isFactor_35 : decode cX2_isFactor 35 = .ok (.ireturn, 1) := by decide +kernel
theorem dX2_isFactor_36 : decode cX2_isFactor 36 = .ok (.iload_n 2, 1) := by decide +kernel
theorem dX2_isFactor_37 : decode cX2_isFactor 37 = .ok (.iconst 4, 1) := by decide +kernel
theorem dX2_isFactor_38 : decode cX2_isFactor 38 = .ok (.if_icmp .ge 38, 3) := by decide +kernel
theorem dX2_isFactor_41 : decode cX2_isFactor 41 = .ok (.aload_n 0, 1) := by decide +kernel
theorem dX2_isFactor_42 : decode cX2_isFactor 42 = .ok (.bipush 40, 2) := by decide +kernel
theorem dX2_isFactor_44 : decode cX2_isFactor 44 = .ok (.invokevirtual 27, 3) := by decide +kernel
theorem dX2_isFactor_47 : decode cX2_isFactor 47 = .ok (.ifCond .eq 29, 3) := by decide +kernel
theorem dX2_isFactor_50 : decode cX2_isFactor 50 = .ok (.aload_n 0, 1) := by decide +kernel
theorem dX2_isFactor_51 : decode cX2_isFactor 51 = .ok (.aload_n 1, 1) := by decide +kernel
theorem dX2_isFactor_52 : decode cX2_isFactor 52 = .ok (.iload_n 2, 1) := by decide +kernel
theorem dX2_isFactor_53 : decode cX2_isFactor 53 = .ok (.iconst 1, 1) := by decide +kernel
theorem dX2_isFactor_54 : decode cX2_isFactor 54 = .ok (.iadd, 1) := by decide +kernel
theorem dX2_isFactor_55 : decode cX2_isFactor 55 = .ok (.invokevirtual 52, 3) := by decide +kernel
theorem dX2_isFactor_58 : decode cX2_isFactor 58 = .ok (.ifCond .eq 16, 3) := by decide +kernel
theorem dX2_isFactor_61 : decode cX2_isFactor 61 = .ok (.aload_n 0, 1) := by decide +kernel
theorem dX2_isFactor_62 : decode cX2_isFactor 62 = .ok (.bipush 41, 2) := by decide +kernel
theorem dX2_isFactor_64 : decode cX2_isFactor 64 = .ok (.invokevirtual 27, 3) := by decide +kernel
theorem dX2_isFactor_67 : decode cX2_isFactor 67 = .ok (.ifCond .eq 7, 3) := by decide +kernel
theorem dX2_isFactor_70 : decode cX2_isFactor 70 = .ok (.iconst 1, 1) := by decide +kernel
theorem dX2_isFactor_71 : decode cX2_isFactor 71 = .ok (.goto 4, 3) := by decide +kernel
theorem dX2_isFactor_74 : decode cX2_isFactor 74 = .ok (.iconst 0, 1) := by decide +kernel
theorem dX2_isFactor_75 : decode cX2_isFactor 75 = .ok (.ireturn, 1) := by decide +kernel
theorem dX2_isFactor_76 : decode cX2_isFactor 76 = .ok (.aload_n 0, 1) := by decide +kernel
theorem dX2_isFactor_77 : decode cX2_isFactor 77 = .ok (.ldc 66, 2) := by decide +kernel
theorem dX2_isFactor_79 : decode cX2_isFactor 79 = .ok (.invokevirtual 68, 3) := by decide +kernel
theorem dX2_isFactor_82 : decode cX2_isFactor 82 = .ok (.istore_n 3, 1) := by decide +kernel
theorem dX2_isFactor_83 : decode cX2_isFactor 83 = .ok (.iload_n 3, 1) := by decide +kernel
theorem dX2_isFactor_84 : decode cX2_isFactor 84 = .ok (.ifCond .ge 7, 3) := by decide +kernel
theorem dX2_isFactor_87 : decode cX2_isFactor 87 = .ok (.iconst (-1), 1) := by decide +kernel
theorem dX2_isFactor_88 : decode cX2_isFactor 88 = .ok (.goto 9, 3) := by decide +kernel
theorem dX2_isFactor_91 : decode cX2_isFactor 91 = .ok (.aload_n 0, 1) := by decide +kernel
theorem dX2_isFactor_92 : decode cX2_isFactor 92 = .ok (.ldc 72, 2) := by decide +kernel
theorem dX2_isFactor_94 : decode cX2_isFactor 94 = .ok (.invokevirtual 68, 3) := by decide +kernel
theorem dX2_isFactor_97 : decode cX2_isFactor 97 = .ok (.istore 4, 2) := by decide +kernel
theorem dX2_isFactor_99 : decode cX2_isFactor 99 = .ok (.iload 4, 2) := by decide +kernel
theorem dX2_isFactor_101 : decode cX2_isFactor 101 = .ok (.ifCond .ge 7, 3) := by decide +kernel
theorem dX2_isFactor_104 : decode cX2_isFactor 104 = .ok (.iconst (-1), 1) := by decide +kernel
theorem dX2_isFactor_105 : decode cX2_isFactor 105 = .ok (.goto 7, 3) := by decide +kernel
theorem dX2_isFactor_108 : decode cX2_isFactor 108 = .ok (.aload_n 0, 1) := by decide +kernel
theorem dX2_isFactor_109 : decode cX2_isFactor 109 = .ok (.invokevirtual 41, 3) := by decide +kernel
theorem dX2_isFactor_112 : decode cX2_isFactor 112 = .ok (.istore 5, 2) := by decide +kernel
theorem dX2_isFactor_114 : decode cX2_isFactor 114 = .ok (.iload 5, 2) := by decide +kernel
theorem dX2_isFactor_116 : decode cX2_isFactor 116 = .ok (.ifCond .ge 5, 3) := by decide +kernel
theorem dX2_isFactor_119 : decode cX2_isFactor 119 = .ok (.iconst 0, 1) := by decide +kernel
theorem dX2_isFactor_120 : decode cX2_isFactor 120 = .ok (.ireturn, 1) := by decide +kernel
theorem dX2_isFactor_121 : decode cX2_isFactor 121 = .ok (.aload_n 1, 1) := by decide +kernel
theorem dX2_isFactor_122 : decode cX2_isFactor 122 = .ok (.iload_n 3, 1) := by decide +kernel
theorem dX2_isFactor_123 : decode cX2_isFactor 123 = .ok (.iconst 3, 1) := by decide +kernel
theorem dX2_isFactor_124 : decode cX2_isFactor 124 = .ok (.imul, 1) := by decide +kernel
theorem dX2_isFactor_125 : decode cX2_isFactor 125 = .ok (.iload 4, 2) := by decide +kernel
theorem dX2_isFactor_127 : decode cX2_isFactor 127 = .ok (.iadd, 1) := by decide +kernel
theorem dX2_isFactor_128 : decode cX2_isFactor 128 = .ok (.iload 5, 2) := by decide +kernel
theorem dX2_isFactor_130 : decode cX2_isFactor 130 = .ok (.invokevirtual 56, 3) := by decide +kernel
theorem dX2_isFactor_133 : decode cX2_isFactor 133 = .ok (.iconst 1, 1) := by decide +kernel
theorem dX2_isFactor_134 : decode cX2_isFactor 134 = .ok (.ireturn, 1) := by decide +kernel
theorem dX2_number_0 : decode cX2_number 0 = .ok (.iconst (-1), 1) := by decide +kernel
theorem dX2_number_1 : decode cX2_number 1 = .ok (.istore_n 1, 1) := by decide +kernel
theorem dX2_number_2 : decode cX2_number 2 = .ok (.iconst 0, 1) := by decide +kernel
theorem dX2_number_3 : decode cX2_number 3 = .ok (.istore_n 2, 1) := by decide +kernel
theorem dX2_number_4 : decode cX2_number 4 = .ok (.iload_n 2, 1) := by decide +kernel
theorem dX2_number_5 : decode cX2_number 5 = .ok (.iconst 2, 1) := by decide +kernel
theorem dX2_number_6 : decode cX2_number 6 = .ok (.if_icmp .ge 80, 3) := by decide +kernel
theorem dX2_number_9 : decode cX2_number 9 = .ok (.aload_n 0, 1) := by decide +kernel
theorem dX2_number_10 : decode cX2_number 10 = .ok (.getfield 19, 3) := by decide +kernel
theorem dX2_number_13 : decode cX2_number 13 = .ok (.aload_n 0, 1) := by decide +kernel
theorem dX2_number_14 : decode cX2_number 14 = .ok (.getfield 15, 3) := by decide +kernel
theorem dX2_number_17 : decode cX2_number 17 = .ok (.if_icmp .ge 69, 3) := by decide +kernel
theorem dX2_number_20 : decode cX2_number 20 = .ok (.aload_n 0, 1) := by decide +kernel
theorem dX2_number_21 : decode cX2_number 21 = .ok (.getfield 9, 3) := by decide +kernel
theorem dX2_number_24 : decode cX2_number 24 = .ok (.aload_n 0, 1) := by decide +kernel
theorem dX2_number_25 : decode cX2_number 25 = .ok (.getfield 19, 3) := by decide +kernel
theorem dX2_number_28 : decode cX2_number 28 = .ok (.baload, 1) := by decide +kernel
theorem dX2_number_29 : decode cX2_number 29 = .ok (.bipush 48, 2) := by decide +kernel
theorem dX2_number_31 : decode cX2_number 31 = .ok (.if_icmp .lt 55, 3) := by decide +kernel
theorem dX2_number_34 : decode cX2_number 34 = .ok (.aload_n 0, 1) := by decide +kernel
theorem dX2_number_35 : decode cX2_number 35 = .ok (.getfield 9, 3) := by decide +kernel
theorem dX2_number_38 : decode cX2_number 38 = .ok (.aload_n 0, 1) := by decide +kernel
theorem dX2_number_39 : decode cX2_number 39 = .ok (.getfield 19, 3) := by decide +kernel
theorem dX2_number_42 : decode cX2_number 42 = .ok (.baload, 1) := by decide +kernel
theorem dX2_number_43 : decode cX2_number 43 = .ok (.bipush 57, 2) := by decide +kernel
theorem dX2_number_45 : decode cX2_number 45 = .ok (.if_icmp .gt 41, 3) := by decide +kernel
theorem dX2_number_48 : decode cX2_number 48 = .ok (.iload_n 1, 1) := by decide +kernel
theorem dX2_number_49 : decode cX2_number 49 = .ok (.iconst 0, 1) := by decide +kernel
theorem dX2_number_50 : decode cX2_number 50 = .ok (.invokestatic 74, 3) := by decide +kernel
theorem dX2_number_53 : decode cX2_number 53 = .ok (.bipush 10, 2) := by decide +kernel
theorem dX2_number_55 : decode cX2_number 55 = .ok (.imul, 1) := by decide +kernel
theorem dX2_number_56 : decode cX2_number 56 = .ok (.aload_n 0, 1) := by decide +kernel
theorem dX2_number_57 : decode cX2_number 57 = .ok (.getfield 9, 3) := by decide +kernel
theorem dX2_number_60 : decode cX2_number 60 = .ok (.aload_n 0, 1) := by decide +kernel
theorem dX2_number_61 : decode cX2_number 61 = .ok (.getfield 19, 3) := by decide +kernel
theorem dX2_number_64 : decode cX2_number 64 = .ok (.baload, 1) := by decide +kernel
theorem dX2_number_65 : decode cX2_number 65 = .ok (.iadd, 1) := by decide +kernel
theorem dX2_number_66 : decode cX2_number 66 = .ok (.bipush 48, 2) := by decide +kernel
theorem dX2_number_68 : decode cX2_number 68 = .ok (.isub, 1) := by decide +kernel
theorem dX2_number_69 : decode cX2_number 69 = .ok (.istore_n 1, 1) := by decide +kernel
theorem dX2_number_70 : decode cX2_number 70 = .ok (.aload_n 0, 1) := by decide +kernel
theorem dX2_number_71 : decode cX2_number 71 = .ok (.dup, 1) := by decide +kernel
theorem dX2_number_72 : decode cX2_number 72 = .ok (.getfield 19, 3) := by decide +kernel
theorem dX2_number_75 : decode cX2_number 75 = .ok (.iconst 1, 1) := by decide +kernel
theorem dX2_number_76 : decode cX2_number 76 = .ok (.iadd, 1) := by decide +kernel
theorem dX2_number_77 : decode cX2_number 77 = .ok (.putfield 19, 3) := by decide +kernel
theorem dX2_number_80 : decode cX2_number 80 = .ok (.iinc 2 1, 3) := by decide +kernel
theorem dX2_number_83 : decode cX2_number 83 = .ok (.goto (-79), 3) := by decide +kernel
theorem dX2_number_86 : decode cX2_number 86 = .ok (.iload_n 1, 1) := by decide +kernel
theorem dX2_number_87 : decode cX2_number 87 = .ok (.ireturn, 1) := by decide +kernel
theorem dX2_signOf_0 : decode cX2_signOf 0 = .ok (.aload_n 0, 1) := by decide +kernel
theorem dX2_signOf_1 : decode cX2_signOf 1 = .ok (.getfield 19, 3) := by decide +kernel
theorem dX2_signOf_4 : decode cX2_signOf 4 = .ok (.aload_n 0, 1) := by decide +kernel
theorem dX2_signOf_5 : decode cX2_signOf 5 = .ok (.getfield 15, 3) := by decide +kernel
theorem dX2_signOf_8 : decode cX2_signOf 8 = .ok (.if_icmp .ge 20, 3) := by decide +kernel
theorem dX2_signOf_11 : decode cX2_signOf 11 = .ok (.aload_n 1, 1) := by decide +kernel
theorem dX2_signOf_12 : decode cX2_signOf 12 = .ok (.aload_n 0, 1) := by decide +kernel
theorem dX2_signOf_13 : decode cX2_signOf 13 = .ok (.getfield 9, 3) := by decide +kernel
theorem dX2_signOf_16 : decode cX2_signOf 16 = .ok (.aload_n 0, 1) := by decide +kernel
theorem dX2_signOf_17 : decode cX2_signOf 17 = .ok (.getfield 19, 3) := by decide +kernel
theorem dX2_signOf_20 : decode cX2_signOf 20 = .ok (.baload, 1) := by decide +kernel
theorem dX2_signOf_21 : decode cX2_signOf 21 = .ok (.i2c, 1) := by decide +kernel
theorem dX2_signOf_22 : decode cX2_signOf 22 = .ok (.invokevirtual 80, 3) := by decide +kernel
theorem dX2_signOf_25 : decode cX2_signOf 25 = .ok (.goto 4, 3) := by decide +kernel
theorem dX2_signOf_28 : decode cX2_signOf 28 = .ok (.iconst (-1), 1) := by decide +kernel
theorem dX2_signOf_29 : decode cX2_signOf 29 = .ok (.istore_n 2, 1) := by decide +kernel
theorem dX2_signOf_30 : decode cX2_signOf 30 = .ok (.iload_n 2, 1) := by decide +kernel
theorem dX2_signOf_31 : decode cX2_signOf 31 = .ok (.ifCond .lt 13, 3) := by decide +kernel
theorem dX2_signOf_34 : decode cX2_signOf 34 = .ok (.aload_n 0, 1) := by decide +kernel
theorem dX2_signOf_35 : decode cX2_signOf 35 = .ok (.dup, 1) := by decide +kernel
theorem dX2_signOf_36 : decode cX2_signOf 36 = .ok (.getfield 19, 3) := by decide +kernel
theorem dX2_signOf_39 : decode cX2_signOf 39 = .ok (.iconst 1, 1) := by decide +kernel
theorem dX2_signOf_40 : decode cX2_signOf 40 = .ok (.iadd, 1) := by decide +kernel
theorem dX2_signOf_41 : decode cX2_signOf 41 = .ok (.putfield 19, 3) := by decide +kernel
theorem dX2_signOf_44 : decode cX2_signOf 44 = .ok (.iload_n 2, 1) := by decide +kernel
theorem dX2_signOf_45 : decode cX2_signOf 45 = .ok (.ireturn, 1) := by decide +kernel
theorem dX2_isWord_0 : decode cX2_isWord 0 = .ok (.iconst 0, 1) := by decide +kernel
theorem dX2_isWord_1 : decode cX2_isWord 1 = .ok (.istore_n 2, 1) := by decide +kernel
theorem dX2_isWord_2 : decode cX2_isWord 2 = .ok (.iload_n 2, 1) := by decide +kernel
theorem dX2_isWord_3 : decode cX2_isWord 3 = .ok (.aload_n 1, 1) := by decide +kernel
theorem dX2_isWord_4 : decode cX2_isWord 4 = .ok (.invokevirtual 86, 3) := by decide +kernel
theorem dX2_isWord_7 : decode cX2_isWord 7 = .ok (.if_icmp .ge 23, 3) := by decide +kernel
theorem dX2_isWord_10 : decode cX2_isWord 10 = .ok (.aload_n 0, 1) := by decide +kernel
theorem dX2_isWord_11 : decode cX2_isWord 11 = .ok (.aload_n 1, 1) := by decide +kernel
theorem dX2_isWord_12 : decode cX2_isWord 12 = .ok (.iload_n 2, 1) := by decide +kernel
theorem dX2_isWord_13 : decode cX2_isWord 13 = .ok (.invokevirtual 88, 3) := by decide +kernel
theorem dX2_isWord_16 : decode cX2_isWord 16 = .ok (.invokevirtual 27, 3) := by decide +kernel
theorem dX2_isWord_19 : decode cX2_isWord 19 = .ok (.ifCond .ne 5, 3) := by decide +kernel
theorem dX2_isWord_22 : decode cX2_isWord 22 = .ok (.iconst 0, 1) := by decide +kernel
theorem dX2_isWord_23 : decode cX2_isWord 23 = .ok (.ireturn, 1) := by decide +kernel
theorem dX2_isWord_24 : decode cX2_isWord 24 = .ok (.iinc 2 1, 3) := by decide +kernel
theorem dX2_isWord_27 : decode cX2_isWord 27 = .ok (.goto (-25), 3) := by decide +kernel
theorem dX2_isWord_30 : decode cX2_isWord 30 = .ok (.iconst 1, 1) := by decide +kernel
theorem dX2_isWord_31 : decode cX2_isWord 31 = .ok (.ireturn, 1) := by decide +kernel
theorem dX2_isSign_0 : decode cX2_isSign 0 = .ok (.aload_n 0, 1) := by decide +kernel
theorem dX2_isSign_1 : decode cX2_isSign 1 = .ok (.getfield 19, 3) := by decide +kernel
theorem dX2_isSign_4 : decode cX2_isSign 4 = .ok (.aload_n 0, 1) := by decide +kernel
theorem dX2_isSign_5 : decode cX2_isSign 5 = .ok (.getfield 15, 3) := by decide +kernel
theorem dX2_isSign_8 : decode cX2_isSign 8 = .ok (.if_icmp .ge 16, 3) := by decide +kernel
theorem dX2_isSign_11 : decode cX2_isSign 11 = .ok (.aload_n 0, 1) := by decide +kernel
theorem dX2_isSign_12 : decode cX2_isSign 12 = .ok (.getfield 9, 3) := by decide +kernel
theorem dX2_isSign_15 : decode cX2_isSign 15 = .ok (.aload_n 0, 1) := by decide +kernel
theorem dX2_isSign_16 : decode cX2_isSign 16 = .ok (.getfield 19, 3) := by decide +kernel
theorem dX2_isSign_19 : decode cX2_isSign 19 = .ok (.baload, 1) := by decide +kernel
theorem dX2_isSign_20 : decode cX2_isSign 20 = .ok (.iload_n 1, 1) := by decide +kernel
theorem dX2_isSign_21 : decode cX2_isSign 21 = .ok (.if_icmp .eq 5, 3) := by decide +kernel
theorem dX2_isSign_24 : decode cX2_isSign 24 = .ok (.iconst 0, 1) := by decide +kernel
theorem dX2_isSign_25 : decode cX2_isSign 25 = .ok (.ireturn, 1) := by decide +kernel
theorem dX2_isSign_26 : decode cX2_isSign 26 = .ok (.aload_n 0, 1) := by decide +kernel
theorem dX2_isSign_27 : decode cX2_isSign 27 = .ok (.dup, 1) := by decide +kernel
theorem dX2_isSign_28 : decode cX2_isSign 28 = .ok (.getfield 19, 3) := by decide +kernel
theorem dX2_isSign_31 : decode cX2_isSign 31 = .ok (.iconst 1, 1) := by decide +kernel
theorem dX2_isSign_32 : decode cX2_isSign 32 = .ok (.iadd, 1) := by decide +kernel
theorem dX2_isSign_33 : decode cX2_isSign 33 = .ok (.putfield 19, 3) := by decide +kernel
theorem dX2_isSign_36 : decode cX2_isSign 36 = .ok (.iconst 1, 1) := by decide +kernel
theorem dX2_isSign_37 : decode cX2_isSign 37 = .ok (.ireturn, 1) := by decide +kernel
theorem dX3_init_0 : decode cX3_init 0 = .ok (.aload_n 0, 1) := by decide +kernel
theorem dX3_init_1 : decode cX3_init 1 = .ok (.invokespecial 3, 3) := by decide +kernel
theorem dX3_init_4 : decode cX3_init 4 = .ok (.aload_n 0, 1) := by decide +kernel
theorem dX3_init_5 : decode cX3_init 5 = .ok (.iconst 0, 1) := by decide +kernel
theorem dX3_init_6 : decode cX3_init 6 = .ok (.putfield 9, 3) := by decide +kernel
theorem dX3_init_9 : decode cX3_init 9 = .ok (.iload_n 1, 1) := by decide +kernel
theorem dX3_init_10 : decode cX3_init 10 = .ok (.iconst 0, 1) := by decide +kernel
theorem dX3_init_11 : decode cX3_init 11 = .ok (.invokestatic 15, 3) := by decide +kernel
theorem dX3_init_14 : decode cX3_init 14 = .ok (.istore_n 2, 1) := by decide +kernel
theorem dX3_init_15 : decode cX3_init 15 = .ok (.aload_n 0, 1) := by decide +kernel
theorem dX3_init_16 : decode cX3_init 16 = .ok (.iload_n 2, 1) := by decide +kernel
theorem dX3_init_17 : decode cX3_init 17 = .ok (.newarray .int, 2) := by decide +kernel
theorem dX3_init_19 : decode cX3_init 19 = .ok (.putfield 21, 3) := by decide +kernel
theorem dX3_init_22 : decode cX3_init 22 = .ok (.aload_n 0, 1) := by decide +kernel
theorem dX3_init_23 : decode cX3_init 23 = .ok (.iload_n 2, 1) := by decide +kernel
theorem dX3_init_24 : decode cX3_init 24 = .ok (.newarray .int, 2) := by decide +kernel
theorem dX3_init_26 : decode cX3_init 26 = .ok (.putfield 25, 3) := by decide +kernel
theorem dX3_init_29 : decode cX3_init 29 = .ok (.aload_n 0, 1) := by decide +kernel
theorem dX3_init_30 : decode cX3_init 30 = .ok (.iload_n 2, 1) := by decide +kernel
theorem dX3_init_31 : decode cX3_init 31 = .ok (.newarray .int, 2) := by decide +kernel
theorem dX3_init_33 : decode cX3_init 33 = .ok (.putfield 28, 3) := by decide +kernel
theorem dX3_init_36 : decode cX3_init 36 = .ok (.return_, 1) := by decide +kernel
theorem dX3_empty_0 : decode cX3_empty 0 = .ok (.aload_n 0, 1) := by decide +kernel
theorem dX3_empty_1 : decode cX3_empty 1 = .ok (.iconst 0, 1) := by decide +kernel
theorem dX3_empty_2 : decode cX3_empty 2 = .ok (.putfield 9, 3) := by decide +kernel
theorem dX3_empty_5 : decode cX3_empty 5 = .ok (.iconst 0, 1) := by decide +kernel
theorem dX3_empty_6 : decode cX3_empty 6 = .ok (.ireturn, 1) := by decide +kernel
theorem dX3_add_0 : decode cX3_add 0 = .ok (.aload_n 0, 1) := by decide +kernel
theorem dX3_add_1 : decode cX3_add 1 = .ok (.getfield 9, 3) := by decide +kernel
theorem dX3_add_4 : decode cX3_add 4 = .ok (.aload_n 0, 1) := by decide +kernel
theorem dX3_add_5 : decode cX3_add 5 = .ok (.getfield 21, 3) := by decide +kernel
theorem dX3_add_8 : decode cX3_add 8 = .ok (.arraylength, 1) := by decide +kernel
theorem dX3_add_9 : decode cX3_add 9 = .ok (.if_icmp .lt 6, 3) := by decide +kernel
theorem dX3_add_12 : decode cX3_add 12 = .ok (.bipush (-4), 2) := by decide +kernel
theorem dX3_add_14 : decode cX3_add 14 = .ok (.ireturn, 1) := by decide +kernel
theorem dX3_add_15 : decode cX3_add 15 = .ok (.aload_n 0, 1) := by decide +kernel
theorem dX3_add_16 : decode cX3_add 16 = .ok (.getfield 21, 3) := by decide +kernel
theorem dX3_add_19 : decode cX3_add 19 = .ok (.aload_n 0, 1) := by decide +kernel
theorem dX3_add_20 : decode cX3_add 20 = .ok (.getfield 9, 3) := by decide +kernel
theorem dX3_add_23 : decode cX3_add 23 = .ok (.iload_n 1, 1) := by decide +kernel
theorem dX3_add_24 : decode cX3_add 24 = .ok (.iastore, 1) := by decide +kernel
theorem dX3_add_25 : decode cX3_add 25 = .ok (.aload_n 0, 1) := by decide +kernel
theorem dX3_add_26 : decode cX3_add 26 = .ok (.getfield 25, 3) := by decide +kernel
theorem dX3_add_29 : decode cX3_add 29 = .ok (.aload_n 0, 1) := by decide +kernel
theorem dX3_add_30 : decode cX3_add 30 = .ok (.getfield 9, 3) := by decide +kernel
theorem dX3_add_33 : decode cX3_add 33 = .ok (.iload_n 2, 1) := by decide +kernel
theorem dX3_add_34 : decode cX3_add 34 = .ok (.iastore, 1) := by decide +kernel
theorem dX3_add_35 : decode cX3_add 35 = .ok (.aload_n 0, 1) := by decide +kernel
theorem dX3_add_36 : decode cX3_add 36 = .ok (.getfield 28, 3) := by decide +kernel
theorem dX3_add_39 : decode cX3_add 39 = .ok (.aload_n 0, 1) := by decide +kernel
theorem dX3_add_40 : decode cX3_add 40 = .ok (.getfield 9, 3) := by decide +kernel
theorem dX3_add_43 : decode cX3_add 43 = .ok (.iload_n 3, 1) := by decide +kernel
theorem dX3_add_44 : decode cX3_add 44 = .ok (.iastore, 1) := by decide +kernel
theorem dX3_add_45 : decode cX3_add 45 = .ok (.aload_n 0, 1) := by decide +kernel
theorem dX3_add_46 : decode cX3_add 46 = .ok (.dup, 1) := by decide +kernel
theorem dX3_add_47 : decode cX3_add 47 = .ok (.getfield 9, 3) := by decide +kernel
theorem dX3_add_50 : decode cX3_add 50 = .ok (.iconst 1, 1) := by decide +kernel
theorem dX3_add_51 : decode cX3_add 51 = .ok (.iadd, 1) := by decide +kernel
theorem dX3_add_52 : decode cX3_add 52 = .ok (.putfield 9, 3) := by decide +kernel
theorem dX3_add_55 : decode cX3_add 55 = .ok (.aload_n 0, 1) := by decide +kernel
theorem dX3_add_56 : decode cX3_add 56 = .ok (.getfield 9, 3) := by decide +kernel
theorem dX3_add_59 : decode cX3_add 59 = .ok (.ireturn, 1) := by decide +kernel
theorem dX3_lastDay_0 : decode cX3_lastDay 0 = .ok (.iconst (-1), 1) := by decide +kernel
theorem dX3_lastDay_1 : decode cX3_lastDay 1 = .ok (.istore_n 1, 1) := by decide +kernel
theorem dX3_lastDay_2 : decode cX3_lastDay 2 = .ok (.iconst 0, 1) := by decide +kernel
theorem dX3_lastDay_3 : decode cX3_lastDay 3 = .ok (.istore_n 2, 1) := by decide +kernel
theorem dX3_lastDay_4 : decode cX3_lastDay 4 = .ok (.iload_n 2, 1) := by decide +kernel
theorem dX3_lastDay_5 : decode cX3_lastDay 5 = .ok (.aload_n 0, 1) := by decide +kernel
theorem dX3_lastDay_6 : decode cX3_lastDay 6 = .ok (.getfield 9, 3) := by decide +kernel
theorem dX3_lastDay_9 : decode cX3_lastDay 9 = .ok (.if_icmp .ge 20, 3) := by decide +kernel
theorem dX3_lastDay_12 : decode cX3_lastDay 12 = .ok (.iload_n 1, 1) := by decide +kernel
theorem dX3_lastDay_13 : decode cX3_lastDay 13 = .ok (.aload_n 0, 1) := by decide +kernel
theorem dX3_lastDay_14 : decode cX3_lastDay 14 = .ok (.getfield 25, 3) := by decide +kernel
theorem dX3_lastDay_17 : decode cX3_lastDay 17 = .ok (.iload_n 2, 1) := by decide +kernel
theorem dX3_lastDay_18 : decode cX3_lastDay 18 = .ok (.iaload, 1) := by decide +kernel
theorem dX3_lastDay_19 : decode cX3_lastDay 19 = .ok (.invokestatic 15, 3) := by decide +kernel
theorem dX3_lastDay_22 : decode cX3_lastDay 22 = .ok (.istore_n 1, 1) := by decide +kernel
theorem dX3_lastDay_23 : decode cX3_lastDay 23 = .ok (.iinc 2 1, 3) := by decide +kernel
theorem dX3_lastDay_26 : decode cX3_lastDay 26 = .ok (.goto (-22), 3) := by decide +kernel
theorem dX3_lastDay_29 : decode cX3_lastDay 29 = .ok (.iload_n 1, 1) := by decide +kernel
theorem dX3_lastDay_30 : decode cX3_lastDay 30 = .ok (.ireturn, 1) := by decide +kernel
theorem dX3_become_0 : decode cX3_become 0 = .ok (.aload_n 0, 1) := by decide +kernel
theorem dX3_become_1 : decode cX3_become 1 = .ok (.aload_n 1, 1) := by decide +kernel
theorem dX3_become_2 : decode cX3_become 2 = .ok (.getfield 9, 3) := by decide +kernel
theorem dX3_become_5 : decode cX3_become 5 = .ok (.aload_n 0, 1) := by decide +kernel
theorem dX3_become_6 : decode cX3_become 6 = .ok (.getfield 21, 3) := by decide +kernel
theorem dX3_become_9 : decode cX3_become 9 = .ok (.arraylength, 1) := by decide +kernel
theorem dX3_become_10 : decode cX3_become 10 = .ok (.invokestatic 31, 3) := by decide +kernel
theorem dX3_become_13 : decode cX3_become 13 = .ok (.putfield 9, 3) := by decide +kernel
theorem dX3_become_16 : decode cX3_become 16 = .ok (.aload_n 1, 1) := by decide +kernel
theorem dX3_become_17 : decode cX3_become 17 = .ok (.getfield 21, 3) := by decide +kernel
theorem dX3_become_20 : decode cX3_become 20 = .ok (.iconst 0, 1) := by decide +kernel
theorem dX3_become_21 : decode cX3_become 21 = .ok (.aload_n 0, 1) := by decide +kernel
theorem dX3_become_22 : decode cX3_become 22 = .ok (.getfield 21, 3) := by decide +kernel
theorem dX3_become_25 : decode cX3_become 25 = .ok (.iconst 0, 1) := by decide +kernel
theorem dX3_become_26 : decode cX3_become 26 = .ok (.aload_n 0, 1) := by decide +kernel
theorem dX3_become_27 : decode cX3_become 27 = .ok (.getfield 9, 3) := by decide +kernel
theorem dX3_become_30 : decode cX3_become 30 = .ok (.invokestatic 34, 3) := by decide +kernel
theorem dX3_become_33 : decode cX3_become 33 = .ok (.aload_n 1, 1) := by decide +kernel
theorem dX3_become_34 : decode cX3_become 34 = .ok (.getfield 25, 3) := by decide +kernel
theorem dX3_become_37 : decode cX3_become 37 = .ok (.iconst 0, 1) := by decide +kernel
theorem dX3_become_38 : decode cX3_become 38 = .ok (.aload_n 0, 1) := by decide +kernel
theorem dX3_become_39 : decode cX3_become 39 = .ok (.getfield 25, 3) := by decide +kernel
theorem dX3_become_42 : decode cX3_become 42 = .ok (.iconst 0, 1) := by decide +kernel
theorem dX3_become_43 : decode cX3_become 43 = .ok (.aload_n 0, 1) := by decide +kernel
theorem dX3_become_44 : decode cX3_become 44 = .ok (.getfield 9, 3) := by decide +kernel
theorem dX3_become_47 : decode cX3_become 47 = .ok (.invokestatic 34, 3) := by decide +kernel
theorem dX3_become_50 : decode cX3_become 50 = .ok (.aload_n 1, 1) := by decide +kernel
theorem dX3_become_51 : decode cX3_become 51 = .ok (.getfield 28, 3) := by decide +kernel
theorem dX3_become_54 : decode cX3_become 54 = .ok (.iconst 0, 1) := by decide +kernel
theorem dX3_become_55 : decode cX3_become 55 = .ok (.aload_n 0, 1) := by decide +kernel
theorem dX3_become_56 : decode cX3_become 56 = .ok (.getfield 28, 3) := by decide +kernel
theorem dX3_become_59 : decode cX3_become 59 = .ok (.iconst 0, 1) := by decide +kernel
theorem dX3_become_60 : decode cX3_become 60 = .ok (.aload_n 0, 1) := by decide +kernel
theorem dX3_become_61 : decode cX3_become 61 = .ok (.getfield 9, 3) := by decide +kernel
theorem dX3_become_64 : decode cX3_become 64 = .ok (.invokestatic 34, 3) := by decide +kernel
theorem dX3_become_67 : decode cX3_become 67 = .ok (.return_, 1) := by decide +kernel
theorem dX4_init_0 : decode cX4_init 0 = .ok (.aload_n 0, 1) := by decide +kernel
theorem dX4_init_1 : decode cX4_init 1 = .ok (.invokespecial 3, 3) := by decide +kernel
theorem dX4_init_4 : decode cX4_init 4 = .ok (.aload_n 0, 1) := by decide +kernel
theorem dX4_init_5 : decode cX4_init 5 = .ok (.iconst 0, 1) := by decide +kernel
theorem dX4_init_6 : decode cX4_init 6 = .ok (.putfield 9, 3) := by decide +kernel
theorem dX4_init_9 : decode cX4_init 9 = .ok (.aload_n 0, 1) := by decide +kernel
theorem dX4_init_10 : decode cX4_init 10 = .ok (.iconst 1, 1) := by decide +kernel
theorem dX4_init_11 : decode cX4_init 11 = .ok (.putfield 15, 3) := by decide +kernel
theorem dX4_init_14 : decode cX4_init 14 = .ok (.aload_n 0, 1) := by decide +kernel
theorem dX4_init_15 : decode cX4_init 15 = .ok (.bipush (-5), 2) := by decide +kernel
theorem dX4_init_17 : decode cX4_init 17 = .ok (.putfield 18, 3) := by decide +kernel
theorem dX4_init_20 : decode cX4_init 20 = .ok (.return_, 1) := by decide +kernel
theorem dX4_become_0 : decode cX4_become 0 = .ok (.aload_n 0, 1) := by decide +kernel
theorem dX4_become_1 : decode cX4_become 1 = .ok (.aload_n 1, 1) := by decide +kernel
theorem dX4_become_2 : decode cX4_become 2 = .ok (.getfield 9, 3) := by decide +kernel
theorem dX4_become_5 : decode cX4_become 5 = .ok (.putfield 9, 3) := by decide +kernel
theorem dX4_become_8 : decode cX4_become 8 = .ok (.aload_n 0, 1) := by decide +kernel
theorem dX4_become_9 : decode cX4_become 9 = .ok (.aload_n 1, 1) := by decide +kernel
theorem dX4_become_10 : decode cX4_become 10 = .ok (.getfield 15, 3) := by decide +kernel
theorem dX4_become_13 : decode cX4_become 13 = .ok (.putfield 15, 3) := by decide +kernel
theorem dX4_become_16 : decode cX4_become 16 = .ok (.aload_n 0, 1) := by decide +kernel
theorem dX4_become_17 : decode cX4_become 17 = .ok (.aload_n 1, 1) := by decide +kernel
theorem dX4_become_18 : decode cX4_become 18 = .ok (.getfield 18, 3) := by decide +kernel
theorem dX4_become_21 : decode cX4_become 21 = .ok (.putfield 18, 3) := by decide +kernel
theorem dX4_become_24 : decode cX4_become 24 = .ok (.return_, 1) := by decide +kernel
theorem dX5_init_0 : decode cX5_init 0 = .ok (.aload_n 0, 1) := by decide +kernel
theorem dX5_init_1 : decode cX5_init 1 = .ok (.invokespecial 3, 3) := by decide +kernel
theorem dX5_init_4 : decode cX5_init 4 = .ok (.aload_n 0, 1) := by decide +kernel
theorem dX5_init_5 : decode cX5_init 5 = .ok (.bipush 60, 2) := by decide +kernel
theorem dX5_init_7 : decode cX5_init 7 = .ok (.newarray .long, 2) := by decide +kernel
theorem dX5_init_9 : decode cX5_init 9 = .ok (.putfield 9, 3) := by decide +kernel
theorem dX5_init_12 : decode cX5_init 12 = .ok (.aload_n 0, 1) := by decide +kernel
theorem dX5_init_13 : decode cX5_init 13 = .ok (.iconst (-1), 1) := by decide +kernel
theorem dX5_init_14 : decode cX5_init 14 = .ok (.putfield 15, 3) := by decide +kernel
theorem dX5_init_17 : decode cX5_init 17 = .ok (.aload_n 0, 1) := by decide +kernel
theorem dX5_init_18 : decode cX5_init 18 = .ok (.iconst 0, 1) := by decide +kernel
theorem dX5_init_19 : decode cX5_init 19 = .ok (.putfield 19, 3) := by decide +kernel
theorem dX5_init_22 : decode cX5_init 22 = .ok (.return_, 1) := by decide +kernel
theorem dX5_become_0 : decode cX5_become 0 = .ok (.aload_n 0, 1) := by decide +kernel
theorem dX5_become_1 : decode cX5_become 1 = .ok (.iload_n 1, 1) := by decide +kernel
theorem dX5_become_2 : decode cX5_become 2 = .ok (.putfield 15, 3) := by decide +kernel
theorem dX5_become_5 : decode cX5_become 5 = .ok (.aload_n 0, 1) := by decide +kernel
theorem dX5_become_6 : decode cX5_become 6 = .ok (.iload_n 2, 1) := by decide +kernel
theorem dX5_become_7 : decode cX5_become 7 = .ok (.putfield 19, 3) := by decide +kernel
theorem dX5_become_10 : decode cX5_become 10 = .ok (.iconst 0, 1) := by decide +kernel
theorem dX5_become_11 : decode cX5_become 11 = .ok (.istore_n 3, 1) := by decide +kernel
theorem dX5_become_12 : decode cX5_become 12 = .ok (.iload_n 3, 1) := by decide +kernel
theorem dX5_become_13 : decode cX5_become 13 = .ok (.aload_n 0, 1) := by decide +kernel
theorem dX5_become_14 : decode cX5_become 14 = .ok (.getfield 9, 3) := by decide +kernel
theorem dX5_become_17 : decode cX5_become 17 = .ok (.arraylength, 1) := by decide +kernel
theorem dX5_become_18 : decode cX5_become 18 = .ok (.if_icmp .ge 16, 3) := by decide +kernel
theorem dX5_become_21 : decode cX5_become 21 = .ok (.aload_n 0, 1) := by decide +kernel
theorem dX5_become_22 : decode cX5_become 22 = .ok (.getfield 9, 3) := by decide +kernel
theorem dX5_become_25 : decode cX5_become 25 = .ok (.iload_n 3, 1) := by decide +kernel
theorem dX5_become_26 : decode cX5_become 26 = .ok (.lconst 0, 1) := by decide +kernel
theorem dX5_become_27 : decode cX5_become 27 = .ok (.lastore, 1) := by decide +kernel
theorem dX5_become_28 : decode cX5_become 28 = .ok (.iinc 3 1, 3) := by decide +kernel
theorem dX5_become_31 : decode cX5_become 31 = .ok (.goto (-19), 3) := by decide +kernel
theorem dX5_become_34 : decode cX5_become 34 = .ok (.return_, 1) := by decide +kernel
theorem dX5_holds_0 : decode cX5_holds 0 = .ok (.iload_n 1, 1) := by decide +kernel
theorem dX5_holds_1 : decode cX5_holds 1 = .ok (.ifCond .lt 29, 3) := by decide +kernel
theorem dX5_holds_4 : decode cX5_holds 4 = .ok (.iload_n 2, 1) := by decide +kernel
theorem dX5_holds_5 : decode cX5_holds 5 = .ok (.ifCond .lt 25, 3) := by decide +kernel
theorem dX5_holds_8 : decode cX5_holds 8 = .ok (.iload_n 2, 1) := by decide +kernel
theorem dX5_holds_9 : decode cX5_holds 9 = .ok (.aload_n 0, 1) := by decide +kernel
theorem dX5_holds_10 : decode cX5_holds 10 = .ok (.getfield 19, 3) := by decide +kernel
theorem dX5_holds_13 : decode cX5_holds 13 = .ok (.if_icmp .gt 17, 3) := by decide +kernel
theorem dX5_holds_16 : decode cX5_holds 16 = .ok (.iload_n 1, 1) := by decide +kernel
theorem dX5_holds_17 : decode cX5_holds 17 = .ok (.aload_n 0, 1) := by decide +kernel
theorem dX5_holds_18 : decode cX5_holds 18 = .ok (.getfield 19, 3) := by decide +kernel
theorem dX5_holds_21 : decode cX5_holds 21 = .ok (.iload_n 2, 1) := by decide +kernel
theorem dX5_holds_22 : decode cX5_holds 22 = .ok (.isub, 1) := by decide +kernel
theorem dX5_holds_23 : decode cX5_holds 23 = .ok (.if_icmp .gt 7, 3) := by decide +kernel
theorem dX5_holds_26 : decode cX5_holds 26 = .ok (.iconst 1, 1) := by decide +kernel
theorem dX5_holds_27 : decode cX5_holds 27 = .ok (.goto 4, 3) := by decide +kernel
theorem dX5_holds_30 : decode cX5_holds 30 = .ok (.iconst 0, 1) := by decide +kernel
theorem dX5_holds_31 : decode cX5_holds 31 = .ok (.ireturn, 1) := by decide +kernel
theorem dX5_fitted_0 : decode cX5_fitted 0 = .ok (.aload_n 0, 1) := by decide +kernel
theorem dX5_fitted_1 : decode cX5_fitted 1 = .ok (.getfield 15, 3) := by decide +kernel
theorem dX5_fitted_4 : decode cX5_fitted 4 = .ok (.tableswitch 62 0 4 #[36, 41, 46, 62, 50], 36) := by decide +kernel
theorem dX5_fitted_40 : decode cX5_fitted 40 = .ok (.lload_n 1, 1) := by decide +kernel
theorem dX5_fitted_41 : decode cX5_fitted 41 = .ok (.l2i, 1) := by decide +kernel
theorem dX5_fitted_42 : decode cX5_fitted 42 = .ok (.i2b, 1) := by decide +kernel
theorem dX5_fitted_43 : decode cX5_fitted 43 = .ok (.i2l, 1) := by decide +kernel
theorem dX5_fitted_44 : decode cX5_fitted 44 = .ok (.lreturn, 1) := by decide +kernel
theorem dX5_fitted_45 : decode cX5_fitted 45 = .ok (.lload_n 1, 1) := by decide +kernel
theorem dX5_fitted_46 : decode cX5_fitted 46 = .ok (.l2i, 1) := by decide +kernel
theorem dX5_fitted_47 : decode cX5_fitted 47 = .ok (.i2s, 1) := by decide +kernel
theorem dX5_fitted_48 : decode cX5_fitted 48 = .ok (.i2l, 1) := by decide +kernel
theorem dX5_fitted_49 : decode cX5_fitted 49 = .ok (.lreturn, 1) := by decide +kernel
theorem dX5_fitted_50 : decode cX5_fitted 50 = .ok (.lload_n 1, 1) := by decide +kernel
theorem dX5_fitted_51 : decode cX5_fitted 51 = .ok (.l2i, 1) := by decide +kernel
theorem dX5_fitted_52 : decode cX5_fitted 52 = .ok (.i2l, 1) := by decide +kernel
theorem dX5_fitted_53 : decode cX5_fitted 53 = .ok (.lreturn, 1) := by decide +kernel
theorem dX5_fitted_54 : decode cX5_fitted 54 = .ok (.lload_n 1, 1) := by decide +kernel
theorem dX5_fitted_55 : decode cX5_fitted 55 = .ok (.lconst 0, 1) := by decide +kernel
theorem dX5_fitted_56 : decode cX5_fitted 56 = .ok (.lcmp, 1) := by decide +kernel
theorem dX5_fitted_57 : decode cX5_fitted 57 = .ok (.ifCond .eq 7, 3) := by decide +kernel
theorem dX5_fitted_60 : decode cX5_fitted 60 = .ok (.lconst 1, 1) := by decide +kernel
theorem dX5_fitted_61 : decode cX5_fitted 61 = .ok (.goto 4, 3) := by decide +kernel
theorem dX5_fitted_64 : decode cX5_fitted 64 = .ok (.lconst 0, 1) := by decide +kernel
theorem dX5_fitted_65 : decode cX5_fitted 65 = .ok (.lreturn, 1) := by decide +kernel
theorem dX5_fitted_66 : decode cX5_fitted 66 = .ok (.lload_n 1, 1) := by decide +kernel
theorem dX5_fitted_67 : decode cX5_fitted 67 = .ok (.lreturn, 1) := by decide +kernel
theorem dX6_init_0 : decode cX6_init 0 = .ok (.aload_n 0, 1) := by decide +kernel
theorem dX6_init_1 : decode cX6_init 1 = .ok (.invokespecial 3, 3) := by decide +kernel
theorem dX6_init_4 : decode cX6_init 4 = .ok (.aload_n 0, 1) := by decide +kernel
theorem dX6_init_5 : decode cX6_init 5 = .ok (.bipush 20, 2) := by decide +kernel
theorem dX6_init_7 : decode cX6_init 7 = .ok (.newarray .int, 2) := by decide +kernel
theorem dX6_init_9 : decode cX6_init 9 = .ok (.putfield 9, 3) := by decide +kernel
theorem dX6_init_12 : decode cX6_init 12 = .ok (.aload_n 0, 1) := by decide +kernel
theorem dX6_init_13 : decode cX6_init 13 = .ok (.iconst 0, 1) := by decide +kernel
theorem dX6_init_14 : decode cX6_init 14 = .ok (.putfield 15, 3) := by decide +kernel
theorem dX6_init_17 : decode cX6_init 17 = .ok (.return_, 1) := by decide +kernel
theorem dX6_begins_0 : decode cX6_begins 0 = .ok (.aload_n 0, 1) := by decide +kernel
theorem dX6_begins_1 : decode cX6_begins 1 = .ok (.getfield 15, 3) := by decide +kernel
theorem dX6_begins_4 : decode cX6_begins 4 = .ok (.aload_n 0, 1) := by decide +kernel
theorem dX6_begins_5 : decode cX6_begins 5 = .ok (.getfield 9, 3) := by decide +kernel
theorem dX6_begins_8 : decode cX6_begins 8 = .ok (.arraylength, 1) := by decide +kernel
theorem dX6_begins_9 : decode cX6_begins 9 = .ok (.if_icmp .ge 13, 3) := by decide +kernel
theorem dX6_begins_12 : decode cX6_begins 12 = .ok (.aload_n 0, 1) := by decide +kernel
theorem dX6_begins_13 : decode cX6_begins 13 = .ok (.getfield 9, 3) := by decide +kernel
theorem dX6_begins_16 : decode cX6_begins 16 = .ok (.aload_n 0, 1) := by decide +kernel
theorem dX6_begins_17 : decode cX6_begins 17 = .ok (.getfield 15, 3) := by decide +kernel
theorem dX6_begins_20 : decode cX6_begins 20 = .ok (.iload_n 1, 1) := by decide +kernel
theorem dX6_begins_21 : decode cX6_begins 21 = .ok (.iastore, 1) := by decide +kernel
theorem dX6_begins_22 : decode cX6_begins 22 = .ok (.aload_n 0, 1) := by decide +kernel
theorem dX6_begins_23 : decode cX6_begins 23 = .ok (.dup, 1) := by decide +kernel
theorem dX6_begins_24 : decode cX6_begins 24 = .ok (.getfield 15, 3) := by decide +kernel
theorem dX6_begins_27 : decode cX6_begins 27 = .ok (.iconst 1, 1) := by decide +kernel
theorem dX6_begins_28 : decode cX6_begins 28 = .ok (.iadd, 1) := by decide +kernel
theorem dX6_begins_29 : decode cX6_begins 29 = .ok (.putfield 15, 3) := by decide +kernel
theorem dX6_begins_32 : decode cX6_begins 32 = .ok (.return_, 1) := by decide +kernel
theorem dX6_nods_0 : decode cX6_nods 0 = .ok (.iload_n 1, 1) := by decide +kernel
theorem dX6_nods_1 : decode cX6_nods 1 = .ok (.tableswitch 85 2 6 #[35, 85, 51, 35, 66], 35) := by decide +kernel
theorem dX6_nods_36 : decode cX6_nods 36 = .ok (.aload_n 3, 1) := by decide +kernel
theorem dX6_nods_37 : decode cX6_nods 37 = .ok (.bipush 30, 2) := by decide +kernel
theorem dX6_nods_39 : decode cX6_nods 39 = .ok (.invokevirtual 19, 3) := by decide +kernel
theorem dX6_nods_42 : decode cX6_nods 42 = .ok (.aload_n 0, 1) := by decide +kernel
theorem dX6_nods_43 : decode cX6_nods 43 = .ok (.iconst 0, 1) := by decide +kernel
theorem dX6_nods_44 : decode cX6_nods 44 = .ok (.iload_n 2, 1) := by decide +kernel
theorem dX6_nods_45 : decode cX6_nods 45 = .ok (.iconst 3, 1) := by decide +kernel
theorem dX6_nods_46 : decode cX6_nods 46 = .ok (.imul, 1) := by decide +kernel
theorem dX6_nods_47 : decode cX6_nods 47 = .ok (.aload_n 3, 1) := by decide +kernel
theorem dX6_nods_48 : decode cX6_nods 48 = .ok (.invokestatic 23, 3) := by decide +kernel
theorem dX6_nods_51 : decode cX6_nods 51 = .ok (.ireturn, 1) := by decide +kernel
theorem dX6_nods_52 : decode cX6_nods 52 = .ok (.aload_n 3, 1) := by decide +kernel
theorem dX6_nods_53 : decode cX6_nods 53 = .ok (.bipush 50, 2) := by decide +kernel
theorem dX6_nods_55 : decode cX6_nods 55 = .ok (.invokevirtual 19, 3) := by decide +kernel
theorem dX6_nods_58 : decode cX6_nods 58 = .ok (.aload_n 0, 1) := by decide +kernel
theorem dX6_nods_59 : decode cX6_nods 59 = .ok (.iconst 1, 1) := by decide +kernel
theorem dX6_nods_60 : decode cX6_nods 60 = .ok (.iload_n 2, 1) := by decide +kernel
theorem dX6_nods_61 : decode cX6_nods 61 = .ok (.aload_n 3, 1) := by decide +kernel
theorem dX6_nods_62 : decode cX6_nods 62 = .ok (.invokestatic 23, 3) := by decide +kernel
theorem dX6_nods_65 : decode cX6_nods 65 = .ok (.ineg, 1) := by decide +kernel
theorem dX6_nods_66 : decode cX6_nods 66 = .ok (.ireturn, 1) := by decide +kernel
theorem dX6_nods_67 : decode cX6_nods 67 = .ok (.aload_n 3, 1) := by decide +kernel
theorem dX6_nods_68 : decode cX6_nods 68 = .ok (.bipush 71, 2) := by decide +kernel
theorem dX6_nods_70 : decode cX6_nods 70 = .ok (.invokevirtual 19, 3) := by decide +kernel
theorem dX6_nods_73 : decode cX6_nods 73 = .ok (.aload_n 0, 1) := by decide +kernel
theorem dX6_nods_74 : decode cX6_nods 74 = .ok (.iconst 3, 1) := by decide +kernel
theorem dX6_nods_75 : decode cX6_nods 75 = .ok (.iload_n 2, 1) := by decide +kernel
theorem dX6_nods_76 : decode cX6_nods 76 = .ok (.aload_n 3, 1) := by decide +kernel
theorem dX6_nods_77 : decode cX6_nods 77 = .ok (.invokestatic 23, 3) := by decide +kernel
theorem dX6_nods_80 : decode cX6_nods 80 = .ok (.aload_n 0, 1) := by decide +kernel
theorem dX6_nods_81 : decode cX6_nods 81 = .ok (.getfield 27, 3) := by decide +kernel
theorem dX6_nods_84 : decode cX6_nods 84 = .ok (.ixor, 1) := by decide +kernel
theorem dX6_nods_85 : decode cX6_nods 85 = .ok (.ireturn, 1) := by decide +kernel
theorem dX6_nods_86 : decode cX6_nods 86 = .ok (.aload_n 3, 1) := by decide +kernel
theorem dX6_nods_87 : decode cX6_nods 87 = .ok (.bipush 10, 2) := by decide +kernel
theorem dX6_nods_89 : decode cX6_nods 89 = .ok (.invokevirtual 19, 3) := by decide +kernel
theorem dX6_nods_92 : decode cX6_nods 92 = .ok (.iload_n 2, 1) := by decide +kernel
theorem dX6_nods_93 : decode cX6_nods 93 = .ok (.aload_n 0, 1) := by decide +kernel
theorem dX6_nods_94 : decode cX6_nods 94 = .ok (.getfield 32, 3) := by decide +kernel
theorem dX6_nods_97 : decode cX6_nods 97 = .ok (.iadd, 1) := by decide +kernel
theorem dX6_nods_98 : decode cX6_nods 98 = .ok (.ireturn, 1) := by decide +kernel
theorem dX6_knocks_0 : decode cX6_knocks 0 = .ok (.iload_n 1, 1) := by decide +kernel
theorem dX6_knocks_1 : decode cX6_knocks 1 = .ok (.lookupswitch 94 #[(1, 35), (4, 52), (6, 68)], 35) := by decide +kernel
theorem dX6_knocks_36 : decode cX6_knocks 36 = .ok (.aload_n 3, 1) := by decide +kernel
theorem dX6_knocks_37 : decode cX6_knocks 37 = .ok (.bipush 20, 2) := by decide +kernel
theorem dX6_knocks_39 : decode cX6_knocks 39 = .ok (.invokevirtual 19, 3) := by decide +kernel
theorem dX6_knocks_42 : decode cX6_knocks 42 = .ok (.aload_n 0, 1) := by decide +kernel
theorem dX6_knocks_43 : decode cX6_knocks 43 = .ok (.iconst 0, 1) := by decide +kernel
theorem dX6_knocks_44 : decode cX6_knocks 44 = .ok (.iload_n 2, 1) := by decide +kernel
theorem dX6_knocks_45 : decode cX6_knocks 45 = .ok (.aload_n 3, 1) := by decide +kernel
theorem dX6_knocks_46 : decode cX6_knocks 46 = .ok (.invokestatic 35, 3) := by decide +kernel
theorem dX6_knocks_49 : decode cX6_knocks 49 = .ok (.bipush 6, 2) := by decide +kernel
theorem dX6_knocks_51 : decode cX6_knocks 51 = .ok (.ixor, 1) := by decide +kernel
theorem dX6_knocks_52 : decode cX6_knocks 52 = .ok (.ireturn, 1) := by decide +kernel
theorem dX6_knocks_53 : decode cX6_knocks 53 = .ok (.aload_n 3, 1) := by decide +kernel
theorem dX6_knocks_54 : decode cX6_knocks 54 = .ok (.bipush 51, 2) := by decide +kernel
theorem dX6_knocks_56 : decode cX6_knocks 56 = .ok (.invokevirtual 19, 3) := by decide +kernel
theorem dX6_knocks_59 : decode cX6_knocks 59 = .ok (.aload_n 0, 1) := by decide +kernel
theorem dX6_knocks_60 : decode cX6_knocks 60 = .ok (.iconst 1, 1) := by decide +kernel
theorem dX6_knocks_61 : decode cX6_knocks 61 = .ok (.iload_n 2, 1) := by decide +kernel
theorem dX6_knocks_62 : decode cX6_knocks 62 = .ok (.iconst 1, 1) := by decide +kernel
theorem dX6_knocks_63 : decode cX6_knocks 63 = .ok (.iadd, 1) := by decide +kernel
theorem dX6_knocks_64 : decode cX6_knocks 64 = .ok (.aload_n 3, 1) := by decide +kernel
theorem dX6_knocks_65 : decode cX6_knocks 65 = .ok (.invokestatic 35, 3) := by decide +kernel
theorem dX6_knocks_68 : decode cX6_knocks 68 = .ok (.ireturn, 1) := by decide +kernel
theorem dX6_knocks_69 : decode cX6_knocks 69 = .ok (.aload_n 3, 1) := by decide +kernel
theorem dX6_knocks_70 : decode cX6_knocks 70 = .ok (.bipush 70, 2) := by decide +kernel
theorem dX6_knocks_72 : decode cX6_knocks 72 = .ok (.invokevirtual 19, 3) := by decide +kernel
theorem dX6_knocks_75 : decode cX6_knocks 75 = .ok (.aload_n 0, 1) := by decide +kernel
theorem dX6_knocks_76 : decode cX6_knocks 76 = .ok (.iconst 3, 1) := by decide +kernel
theorem dX6_knocks_77 : decode cX6_knocks 77 = .ok (.iload_n 2, 1) := by decide +kernel
theorem dX6_knocks_78 : decode cX6_knocks 78 = .ok (.aload_n 3, 1) := by decide +kernel
theorem dX6_knocks_79 : decode cX6_knocks 79 = .ok (.invokestatic 35, 3) := by decide +kernel
theorem dX6_knocks_82 : decode cX6_knocks 82 = .ok (.istore 4, 2) := by decide +kernel
theorem dX6_knocks_84 : decode cX6_knocks 84 = .ok (.iload 4, 2) := by decide +kernel
theorem dX6_knocks_86 : decode cX6_knocks 86 = .ok (.aload_n 0, 1) := by decide +kernel
theorem dX6_knocks_87 : decode cX6_knocks 87 = .ok (.iconst 3, 1) := by decide +kernel
theorem dX6_knocks_88 : decode cX6_knocks 88 = .ok (.iconst 2, 1) := by decide +kernel
theorem dX6_knocks_89 : decode cX6_knocks 89 = .ok (.aload_n 3, 1) := by decide +kernel
theorem dX6_knocks_90 : decode cX6_knocks 90 = .ok (.invokestatic 23, 3) := by decide +kernel
theorem dX6_knocks_93 : decode cX6_knocks 93 = .ok (.iadd, 1) := by decide +kernel
theorem dX6_knocks_94 : decode cX6_knocks 94 = .ok (.ireturn, 1) := by decide +kernel
theorem dX6_knocks_95 : decode cX6_knocks 95 = .ok (.aload_n 3, 1) := by decide +kernel
theorem dX6_knocks_96 : decode cX6_knocks 96 = .ok (.bipush 11, 2) := by decide +kernel
theorem dX6_knocks_98 : decode cX6_knocks 98 = .ok (.invokevirtual 19, 3) := by decide +kernel
theorem dX6_knocks_101 : decode cX6_knocks 101 = .ok (.aload_n 0, 1) := by decide +kernel
theorem dX6_knocks_102 : decode cX6_knocks 102 = .ok (.aload_n 0, 1) := by decide +kernel
theorem dX6_knocks_103 : decode cX6_knocks 103 = .ok (.getfield 38, 3) := by decide +kernel
theorem dX6_knocks_106 : decode cX6_knocks 106 = .ok (.iload_n 2, 1) := by decide +kernel
theorem dX6_knocks_107 : decode cX6_knocks 107 = .ok (.aload_n 3, 1) := by decide +kernel
theorem dX6_knocks_108 : decode cX6_knocks 108 = .ok (.invokestatic 23, 3) := by decide +kernel
theorem dX6_knocks_111 : decode cX6_knocks 111 = .ok (.aload_n 0, 1) := by decide +kernel
theorem dX6_knocks_112 : decode cX6_knocks 112 = .ok (.getfield 27, 3) := by decide +kernel
theorem dX6_knocks_115 : decode cX6_knocks 115 = .ok (.isub, 1) := by decide +kernel
theorem dX6_knocks_116 : decode cX6_knocks 116 = .ok (.ireturn, 1) := by decide +kernel
theorem dX6_tells_0 : decode cX6_tells 0 = .ok (.iload_n 1, 1) := by decide +kernel
theorem dX6_tells_1 : decode cX6_tells 1 = .ok (.tableswitch 79 3 6 #[31, 79, 60, 31], 31) := by decide +kernel
theorem dX6_tells_32 : decode cX6_tells 32 = .ok (.aload_n 3, 1) := by decide +kernel
theorem dX6_tells_33 : decode cX6_tells 33 = .ok (.bipush 40, 2) := by decide +kernel
theorem dX6_tells_35 : decode cX6_tells 35 = .ok (.invokevirtual 19, 3) := by decide +kernel
theorem dX6_tells_38 : decode cX6_tells 38 = .ok (.aload_n 0, 1) := by decide +kernel
theorem dX6_tells_39 : decode cX6_tells 39 = .ok (.iconst 0, 1) := by decide +kernel
theorem dX6_tells_40 : decode cX6_tells 40 = .ok (.iload_n 2, 1) := by decide +kernel
theorem dX6_tells_41 : decode cX6_tells 41 = .ok (.aload_n 3, 1) := by decide +kernel
theorem dX6_tells_42 : decode cX6_tells 42 = .ok (.invokestatic 41, 3) := by decide +kernel
theorem dX6_tells_45 : decode cX6_tells 45 = .ok (.istore 4, 2) := by decide +kernel
theorem dX6_tells_47 : decode cX6_tells 47 = .ok (.iload 4, 2) := by decide +kernel
theorem dX6_tells_49 : decode cX6_tells 49 = .ok (.aload_n 0, 1) := by decide +kernel
theorem dX6_tells_50 : decode cX6_tells 50 = .ok (.aload_n 0, 1) := by decide +kernel
theorem dX6_tells_51 : decode cX6_tells 51 = .ok (.getfield 38, 3) := by decide +kernel
theorem dX6_tells_54 : decode cX6_tells 54 = .ok (.iconst 1, 1) := by decide +kernel
theorem dX6_tells_55 : decode cX6_tells 55 = .ok (.aload_n 3, 1) := by decide +kernel
theorem dX6_tells_56 : decode cX6_tells 56 = .ok (.invokestatic 35, 3) := by decide +kernel
theorem dX6_tells_59 : decode cX6_tells 59 = .ok (.iadd, 1) := by decide +kernel
theorem dX6_tells_60 : decode cX6_tells 60 = .ok (.ireturn, 1) := by decide +kernel
theorem dX6_tells_61 : decode cX6_tells 61 = .ok (.aload_n 3, 1) := by decide +kernel
theorem dX6_tells_62 : decode cX6_tells 62 = .ok (.bipush 60, 2) := by decide +kernel
theorem dX6_tells_64 : decode cX6_tells 64 = .ok (.invokevirtual 19, 3) := by decide +kernel
theorem dX6_tells_67 : decode cX6_tells 67 = .ok (.aload_n 0, 1) := by decide +kernel
theorem dX6_tells_68 : decode cX6_tells 68 = .ok (.iconst 2, 1) := by decide +kernel
theorem dX6_tells_69 : decode cX6_tells 69 = .ok (.iload_n 2, 1) := by decide +kernel
theorem dX6_tells_70 : decode cX6_tells 70 = .ok (.aload_n 0, 1) := by decide +kernel
theorem dX6_tells_71 : decode cX6_tells 71 = .ok (.getfield 32, 3) := by decide +kernel
theorem dX6_tells_74 : decode cX6_tells 74 = .ok (.isub, 1) := by decide +kernel
theorem dX6_tells_75 : decode cX6_tells 75 = .ok (.aload_n 3, 1) := by decide +kernel
theorem dX6_tells_76 : decode cX6_tells 76 = .ok (.invokestatic 41, 3) := by decide +kernel
theorem dX6_tells_79 : decode cX6_tells 79 = .ok (.ireturn, 1) := by decide +kernel
theorem dX6_tells_80 : decode cX6_tells 80 = .ok (.aload_n 3, 1) := by decide +kernel
theorem dX6_tells_81 : decode cX6_tells 81 = .ok (.bipush 12, 2) := by decide +kernel
theorem dX6_tells_83 : decode cX6_tells 83 = .ok (.invokevirtual 19, 3) := by decide +kernel
theorem dX6_tells_86 : decode cX6_tells 86 = .ok (.aload_n 0, 1) := by decide +kernel
theorem dX6_tells_87 : decode cX6_tells 87 = .ok (.aload_n 0, 1) := by decide +kernel
theorem dX6_tells_88 : decode cX6_tells 88 = .ok (.getfield 38, 3) := by decide +kernel
theorem dX6_tells_91 : decode cX6_tells 91 = .ok (.iload_n 2, 1) := by decide +kernel
theorem dX6_tells_92 : decode cX6_tells 92 = .ok (.aload_n 3, 1) := by decide +kernel
theorem dX6_tells_93 : decode cX6_tells 93 = .ok (.invokestatic 35, 3) := by decide +kernel
theorem dX6_tells_96 : decode cX6_tells 96 = .ok (.iconst 2, 1) := by decide +kernel
theorem dX6_tells_97 : decode cX6_tells 97 = .ok (.imul, 1) := by decide +kernel
theorem dX6_tells_98 : decode cX6_tells 98 = .ok (.ireturn, 1) := by decide +kernel
theorem dX7_init_0 : decode cX7_init 0 = .ok (.aload_n 0, 1) := by decide +kernel
theorem dX7_init_1 : decode cX7_init 1 = .ok (.invokespecial 3, 3) := by decide +kernel
theorem dX7_init_4 : decode cX7_init 4 = .ok (.aload_n 0, 1) := by decide +kernel
theorem dX7_init_5 : decode cX7_init 5 = .ok (.iconst 4, 1) := by decide +kernel
theorem dX7_init_6 : decode cX7_init 6 = .ok (.newarray .int, 2) := by decide +kernel
theorem dX7_init_8 : decode cX7_init 8 = .ok (.putfield 9, 3) := by decide +kernel
theorem dX7_init_11 : decode cX7_init 11 = .ok (.aload_n 0, 1) := by decide +kernel
theorem dX7_init_12 : decode cX7_init 12 = .ok (.iconst 0, 1) := by decide +kernel
theorem dX7_init_13 : decode cX7_init 13 = .ok (.putfield 15, 3) := by decide +kernel
theorem dX7_init_16 : decode cX7_init 16 = .ok (.aload_n 0, 1) := by decide +kernel
theorem dX7_init_17 : decode cX7_init 17 = .ok (.iconst 0, 1) := by decide +kernel
theorem dX7_init_18 : decode cX7_init 18 = .ok (.putfield 19, 3) := by decide +kernel
theorem dX7_init_21 : decode cX7_init 21 = .ok (.aload_n 0, 1) := by decide +kernel
theorem dX7_init_22 : decode cX7_init 22 = .ok (.iconst 0, 1) := by decide +kernel
theorem dX7_init_23 : decode cX7_init 23 = .ok (.putfield 22, 3) := by decide +kernel
theorem dX7_init_26 : decode cX7_init 26 = .ok (.aload_n 0, 1) := by decide +kernel
theorem dX7_init_27 : decode cX7_init 27 = .ok (.iconst 0, 1) := by decide +kernel
theorem dX7_init_28 : decode cX7_init 28 = .ok (.putfield 25, 3) := by decide +kernel
theorem dX7_init_31 : decode cX7_init 31 = .ok (.aload_n 0, 1) := by decide +kernel
theorem dX7_init_32 : decode cX7_init 32 = .ok (.iconst 0, 1) := by decide +kernel
theorem dX7_init_33 : decode cX7_init 33 = .ok (.putfield 28, 3) := by decide +kernel
theorem dX7_init_36 : decode cX7_init 36 = .ok (.aload_n 0, 1) := by decide +kernel
theorem dX7_init_37 : decode cX7_init 37 = .ok (.iload_n 1, 1) := by decide +kernel
theorem dX7_init_38 : decode cX7_init 38 = .ok (.putfield 31, 3) := by decide +kernel
theorem dX7_init_41 : decode cX7_init 41 = .ok (.return_, 1) := by decide +kernel
theorem dX7_begin_0 : decode cX7_begin 0 = .ok (.aload_n 0, 1) := by decide +kernel
theorem dX7_begin_1 : decode cX7_begin 1 = .ok (.iload_n 1, 1) := by decide +kernel
theorem dX7_begin_2 : decode cX7_begin 2 = .ok (.putfield 15, 3) := by decide +kernel
theorem dX7_begin_5 : decode cX7_begin 5 = .ok (.aload_n 0, 1) := by decide +kernel
theorem dX7_begin_6 : decode cX7_begin 6 = .ok (.iload_n 2, 1) := by decide +kernel
theorem dX7_begin_7 : decode cX7_begin 7 = .ok (.putfield 19, 3) := by decide +kernel
theorem dX7_begin_10 : decode cX7_begin 10 = .ok (.aload_n 0, 1) := by decide +kernel
theorem dX7_begin_11 : decode cX7_begin 11 = .ok (.iload_n 3, 1) := by decide +kernel
theorem dX7_begin_12 : decode cX7_begin 12 = .ok (.putfield 22, 3) := by decide +kernel
theorem dX7_begin_15 : decode cX7_begin 15 = .ok (.aload_n 0, 1) := by decide +kernel
theorem dX7_begin_16 : decode cX7_begin 16 = .ok (.iconst 0, 1) := by decide +kernel
theorem dX7_begin_17 : decode cX7_begin 17 = .ok (.putfield 25, 3) := by decide +kernel
theorem dX7_begin_20 : decode cX7_begin 20 = .ok (.aload_n 0, 1) := by decide +kernel
theorem dX7_begin_21 : decode cX7_begin 21 = .ok (.iconst 0, 1) := by decide +kernel
theorem dX7_begin_22 : decode cX7_begin 22 = .ok (.putfield 28, 3) := by decide +kernel
theorem dX7_begin_25 : decode cX7_begin 25 = .ok (.iconst 0, 1) := by decide +kernel
theorem dX7_begin_26 : decode cX7_begin 26 = .ok (.istore 4, 2) := by decide +kernel
theorem dX7_begin_28 : decode cX7_begin 28 = .ok (.iload 4, 2) := by decide +kernel
theorem dX7_begin_30 : decode cX7_begin 30 = .ok (.aload_n 0, 1) := by decide +kernel
theorem dX7_begin_31 : decode cX7_begin 31 = .ok (.getfield 9, 3) := by decide +kernel
theorem dX7_begin_34 : decode cX7_begin 34 = .ok (.arraylength, 1) := by decide +kernel
theorem dX7_begin_35 : decode cX7_begin 35 = .ok (.if_icmp .ge 17, 3) := by decide +kernel
theorem dX7_begin_38 : decode cX7_begin 38 = .ok (.aload_n 0, 1) := by decide +kernel
theorem dX7_begin_39 : decode cX7_begin 39 = .ok (.getfield 9, 3) := by decide +kernel
theorem dX7_begin_42 : decode cX7_begin 42 = .ok (.iload 4, 2) := by decide +kernel
theorem dX7_begin_44 : decode cX7_begin 44 = .ok (.iconst 0, 1) := by decide +kernel
theorem dX7_begin_45 : decode cX7_begin 45 = .ok (.iastore, 1) := by decide +kernel
theorem dX7_begin_46 : decode cX7_begin 46 = .ok (.iinc 4 1, 3) := by decide +kernel
theorem dX7_begin_49 : decode cX7_begin 49 = .ok (.goto (-21), 3) := by decide +kernel
theorem dX7_begin_52 : decode cX7_begin 52 = .ok (.return_, 1) := by decide +kernel
theorem dX7_become_0 : decode cX7_become 0 = .ok (.aload_n 0, 1) := by decide +kernel
theorem dX7_become_1 : decode cX7_become 1 = .ok (.aload_n 1, 1) := by decide +kernel
theorem dX7_become_2 : decode cX7_become 2 = .ok (.getfield 15, 3) := by decide +kernel
theorem dX7_become_5 : decode cX7_become 5 = .ok (.putfield 15, 3) := by decide +kernel
theorem dX7_become_8 : decode cX7_become 8 = .ok (.aload_n 0, 1) := by decide +kernel
theorem dX7_become_9 : decode cX7_become 9 = .ok (.aload_n 1, 1) := by decide +kernel
theorem dX7_become_10 : decode cX7_become 10 = .ok (.getfield 19, 3) := by decide +kernel
theorem dX7_become_13 : decode cX7_become 13 = .ok (.putfield 19, 3) := by decide +kernel
theorem dX7_become_16 : decode cX7_become 16 = .ok (.aload_n 0, 1) := by decide +kernel
theorem dX7_become_17 : decode cX7_become 17 = .ok (.aload_n 1, 1) := by decide +kernel
theorem dX7_become_18 : decode cX7_become 18 = .ok (.getfield 22, 3) := by decide +kernel
theorem dX7_become_21 : decode cX7_become 21 = .ok (.putfield 22, 3) := by decide +kernel
theorem dX7_become_24 : decode cX7_become 24 = .ok (.aload_n 0, 1) := by decide +kernel
theorem dX7_become_25 : decode cX7_become 25 = .ok (.aload_n 1, 1) := by decide +kernel
theorem dX7_become_26 : decode cX7_become 26 = .ok (.getfield 25, 3) := by decide +kernel
theorem dX7_become_29 : decode cX7_become 29 = .ok (.putfield 25, 3) := by decide +kernel
theorem dX7_become_32 : decode cX7_become 32 = .ok (.aload_n 0, 1) := by decide +kernel
theorem dX7_become_33 : decode cX7_become 33 = .ok (.aload_n 1, 1) := by decide +kernel
theorem dX7_become_34 : decode cX7_become 34 = .ok (.getfield 28, 3) := by decide +kernel
theorem dX7_become_37 : decode cX7_become 37 = .ok (.putfield 28, 3) := by decide +kernel
theorem dX7_become_40 : decode cX7_become 40 = .ok (.aload_n 1, 1) := by decide +kernel
theorem dX7_become_41 : decode cX7_become 41 = .ok (.getfield 9, 3) := by decide +kernel
theorem dX7_become_44 : decode cX7_become 44 = .ok (.iconst 0, 1) := by decide +kernel
theorem dX7_become_45 : decode cX7_become 45 = .ok (.aload_n 0, 1) := by decide +kernel
theorem dX7_become_46 : decode cX7_become 46 = .ok (.getfield 9, 3) := by decide +kernel
theorem dX7_become_49 : decode cX7_become 49 = .ok (.iconst 0, 1) := by decide +kernel
theorem dX7_become_50 : decode cX7_become 50 = .ok (.aload_n 0, 1) := by decide +kernel
theorem dX7_become_51 : decode cX7_become 51 = .ok (.getfield 9, 3) := by decide +kernel
theorem dX7_become_54 : decode cX7_become 54 = .ok (.arraylength, 1) := by decide +kernel
theorem dX7_become_55 : decode cX7_become 55 = .ok (.invokestatic 34, 3) := by decide +kernel
theorem dX7_become_58 : decode cX7_become 58 = .ok (.return_, 1) := by decide +kernel
theorem dX7_guardBy_0 : decode cX7_guardBy 0 = .ok (.aload_n 0, 1) := by decide +kernel
theorem dX7_guardBy_1 : decode cX7_guardBy 1 = .ok (.getfield 25, 3) := by decide +kernel
theorem dX7_guardBy_4 : decode cX7_guardBy 4 = .ok (.iconst 5, 1) := by decide +kernel
theorem dX7_guardBy_5 : decode cX7_guardBy 5 = .ok (.idiv, 1) := by decide +kernel
theorem dX7_guardBy_6 : decode cX7_guardBy 6 = .ok (.bipush 9, 2) := by decide +kernel
theorem dX7_guardBy_8 : decode cX7_guardBy 8 = .ok (.invokestatic 40, 3) := by decide +kernel
theorem dX7_guardBy_11 : decode cX7_guardBy 11 = .ok (.istore_n 3, 1) := by decide +kernel
theorem dX7_guardBy_12 : decode cX7_guardBy 12 = .ok (.aload_n 0, 1) := by decide +kernel
theorem dX7_guardBy_13 : decode cX7_guardBy 13 = .ok (.getfield 15, 3) := by decide +kernel
theorem dX7_guardBy_16 : decode cX7_guardBy 16 = .ok (.tableswitch 104 1 6 #[40, 47, 51, 55, 82, 89], 40) := by decide +kernel
theorem dX7_guardBy_56 : decode cX7_guardBy 56 = .ok (.iload_n 1, 1) := by decide +kernel
theorem dX7_guardBy_57 : decode cX7_guardBy 57 = .ok (.aload_n 0, 1) := by decide +kernel
theorem dX7_guardBy_58 : decode cX7_guardBy 58 = .ok (.getfield 19, 3) := by decide +kernel
theorem dX7_guardBy_61 : decode cX7_guardBy 61 = .ok (.iadd, 1) := by decide +kernel
theorem dX7_guardBy_62 : decode cX7_guardBy 62 = .ok (.ireturn, 1) := by decide +kernel
theorem dX7_guardBy_63 : decode cX7_guardBy 63 = .ok (.iload_n 1, 1) := by decide +kernel
theorem dX7_guardBy_64 : decode cX7_guardBy 64 = .ok (.iconst 2, 1) := by decide +kernel
theorem dX7_guardBy_65 : decode cX7_guardBy 65 = .ok (.idiv, 1) := by decide +kernel
theorem dX7_guardBy_66 : decode cX7_guardBy 66 = .ok (.ireturn, 1) := by decide +kernel
theorem dX7_guardBy_67 : decode cX7_guardBy 67 = .ok (.iload_n 1, 1) := by decide +kernel
theorem dX7_guardBy_68 : decode cX7_guardBy 68 = .ok (.iload_n 3, 1) := by decide +kernel
theorem dX7_guardBy_69 : decode cX7_guardBy 69 = .ok (.iadd, 1) := by decide +kernel
theorem dX7_guardBy_70 : decode cX7_guardBy 70 = .ok (.ireturn, 1) := by decide +kernel
theorem dX7_guardBy_71 : decode cX7_guardBy 71 = .ok (.aload_n 0, 1) := by decide +kernel
theorem dX7_guardBy_72 : decode cX7_guardBy 72 = .ok (.getfield 22, 3) := by decide +kernel
theorem dX7_guardBy_75 : decode cX7_guardBy 75 = .ok (.bipush 50, 2) := by decide +kernel
theorem dX7_guardBy_77 : decode cX7_guardBy 77 = .ok (.if_icmp .lt 14, 3) := by decide +kernel
theorem dX7_guardBy_80 : decode cX7_guardBy 80 = .ok (.iconst 2, 1) := by decide +kernel
theorem dX7_guardBy_81 : decode cX7_guardBy 81 = .ok (.iload_n 1, 1) := by decide +kernel
theorem dX7_guardBy_82 : decode cX7_guardBy 82 = .ok (.aload_n 0, 1) := by decide +kernel
theorem dX7_guardBy_83 : decode cX7_guardBy 83 = .ok (.getfield 19, 3) := by decide +kernel
theorem dX7_guardBy_86 : decode cX7_guardBy 86 = .ok (.iadd, 1) := by decide +kernel
theorem dX7_guardBy_87 : decode cX7_guardBy 87 = .ok (.imul, 1) := by decide +kernel
theorem dX7_guardBy_88 : decode cX7_guardBy 88 = .ok (.goto 9, 3) := by decide +kernel
theorem dX7_guardBy_91 : decode cX7_guardBy 91 = .ok (.iload_n 1, 1) := by decide +kernel
theorem dX7_guardBy_92 : decode cX7_guardBy 92 = .ok (.aload_n 0, 1) := by decide +kernel
theorem dX7_guardBy_93 : decode cX7_guardBy 93 = .ok (.getfield 19, 3) := by decide +kernel
theorem dX7_guardBy_96 : decode cX7_guardBy 96 = .ok (.iadd, 1) := by decide +kernel
theorem dX7_guardBy_97 : decode cX7_guardBy 97 = .ok (.ireturn, 1) := by decide +kernel
theorem dX7_guardBy_98 : decode cX7_guardBy 98 = .ok (.iload_n 1, 1) := by decide +kernel
theorem dX7_guardBy_99 : decode cX7_guardBy 99 = .ok (.iconst 2, 1) := by decide +kernel
theorem dX7_guardBy_100 : decode cX7_guardBy 100 = .ok (.idiv, 1) := by decide +kernel
theorem dX7_guardBy_101 : decode cX7_guardBy 101 = .ok (.bipush 10, 2) := by decide +kernel
theorem dX7_guardBy_103 : decode cX7_guardBy 103 = .ok (.iadd, 1) := by decide +kernel
theorem dX7_guardBy_104 : decode cX7_guardBy 104 = .ok (.ireturn, 1) := by decide +kernel
theorem dX7_guardBy_105 : decode cX7_guardBy 105 = .ok (.iload_n 1, 1) := by decide +kernel
theorem dX7_guardBy_106 : decode cX7_guardBy 106 = .ok (.iload_n 3, 1) := by decide +kernel
theorem dX7_guardBy_107 : decode cX7_guardBy 107 = .ok (.iadd, 1) := by decide +kernel
theorem dX7_guardBy_108 : decode cX7_guardBy 108 = .ok (.aload_n 0, 1) := by decide +kernel
theorem dX7_guardBy_109 : decode cX7_guardBy 109 = .ok (.getfield 9, 3) := by decide +kernel
theorem dX7_guardBy_112 : decode cX7_guardBy 112 = .ok (.iload_n 2, 1) := by decide +kernel
theorem dX7_guardBy_113 : decode cX7_guardBy 113 = .ok (.iconst 3, 1) := by decide +kernel
theorem dX7_guardBy_114 : decode cX7_guardBy 114 = .ok (.iand, 1) := by decide +kernel
theorem dX7_guardBy_115 : decode cX7_guardBy 115 = .ok (.iaload, 1) := by decide +kernel
theorem dX7_guardBy_116 : decode cX7_guardBy 116 = .ok (.iadd, 1) := by decide +kernel
theorem dX7_guardBy_117 : decode cX7_guardBy 117 = .ok (.iconst 4, 1) := by decide +kernel
theorem dX7_guardBy_118 : decode cX7_guardBy 118 = .ok (.isub, 1) := by decide +kernel
theorem dX7_guardBy_119 : decode cX7_guardBy 119 = .ok (.ireturn, 1) := by decide +kernel
theorem dX7_guardBy_120 : decode cX7_guardBy 120 = .ok (.iload_n 1, 1) := by decide +kernel
theorem dX7_guardBy_121 : decode cX7_guardBy 121 = .ok (.ireturn, 1) := by decide +kernel
theorem dX8_init_0 : decode cX8_init 0 = .ok (.aload_n 0, 1) := by decide +kernel
theorem dX8_init_1 : decode cX8_init 1 = .ok (.invokespecial 3, 3) := by decide +kernel
theorem dX8_init_4 : decode cX8_init 4 = .ok (.aload_n 0, 1) := by decide +kernel
theorem dX8_init_5 : decode cX8_init 5 = .ok (.bipush 6, 2) := by decide +kernel
theorem dX8_init_7 : decode cX8_init 7 = .ok (.anewarray 9, 3) := by decide +kernel
theorem dX8_init_10 : decode cX8_init 10 = .ok (.putfield 11, 3) := by decide +kernel
theorem dX8_init_13 : decode cX8_init 13 = .ok (.aload_n 0, 1) := by decide +kernel
theorem dX8_init_14 : decode cX8_init 14 = .ok (.bipush 8, 2) := by decide +kernel
theorem dX8_init_16 : decode cX8_init 16 = .ok (.anewarray 17, 3) := by decide +kernel
theorem dX8_init_19 : decode cX8_init 19 = .ok (.putfield 19, 3) := by decide +kernel
theorem dX8_init_22 : decode cX8_init 22 = .ok (.aload_n 0, 1) := by decide +kernel
theorem dX8_init_23 : decode cX8_init 23 = .ok (.iconst 0, 1) := by decide +kernel
theorem dX8_init_24 : decode cX8_init 24 = .ok (.putfield 23, 3) := by decide +kernel
theorem dX8_init_27 : decode cX8_init 27 = .ok (.aload_n 0, 1) := by decide +kernel
theorem dX8_init_28 : decode cX8_init 28 = .ok (.iconst 0, 1) := by decide +kernel
theorem dX8_init_29 : decode cX8_init 29 = .ok (.putfield 27, 3) := by decide +kernel
theorem dX8_init_32 : decode cX8_init 32 = .ok (.aload_n 0, 1) := by decide +kernel
theorem dX8_init_33 : decode cX8_init 33 = .ok (.iconst 0, 1) := by decide +kernel
theorem dX8_init_34 : decode cX8_init 34 = .ok (.putfield 30, 3) := by decide +kernel
theorem dX8_init_37 : decode cX8_init 37 = .ok (.aload_n 0, 1) := by decide +kernel
theorem dX8_init_38 : decode cX8_init 38 = .ok (.aload_n 1, 1) := by decide +kernel
theorem dX8_init_39 : decode cX8_init 39 = .ok (.putfield 33, 3) := by decide +kernel
theorem dX8_init_42 : decode cX8_init 42 = .ok (.iconst 0, 1) := by decide +kernel
theorem dX8_init_43 : decode cX8_init 43 = .ok (.istore_n 2, 1) := by decide +kernel
theorem dX8_init_44 : decode cX8_init 44 = .ok (.iload_n 2, 1) := by decide +kernel
theorem dX8_init_45 : decode cX8_init 45 = .ok (.aload_n 0, 1) := by decide +kernel
theorem dX8_init_46 : decode cX8_init 46 = .ok (.getfield 11, 3) := by decide +kernel
theorem dX8_init_49 : decode cX8_init 49 = .ok (.arraylength, 1) := by decide +kernel
theorem dX8_init_50 : decode cX8_init 50 = .ok (.if_icmp .ge 23, 3) := by decide +kernel
theorem dX8_init_53 : decode cX8_init 53 = .ok (.aload_n 0, 1) := by decide +kernel
theorem dX8_init_54 : decode cX8_init 54 = .ok (.getfield 11, 3) := by decide +kernel
theorem dX8_init_57 : decode cX8_init 57 = .ok (.iload_n 2, 1) := by decide +kernel
theorem dX8_init_58 : decode cX8_init 58 = .ok (.new 9, 3) := by decide +kernel
theorem dX8_init_61 : decode cX8_init 61 = .ok (.dup, 1) := by decide +kernel
theorem dX8_init_62 : decode cX8_init 62 = .ok (.iload_n 2, 1) := by decide +kernel
theorem dX8_init_63 : decode cX8_init 63 = .ok (.invokespecial 37, 3) := by decide +kernel
theorem dX8_init_66 : decode cX8_init 66 = .ok (.aastore, 1) := by decide +kernel
theorem dX8_init_67 : decode cX8_init 67 = .ok (.iinc 2 1, 3) := by decide +kernel
theorem dX8_init_70 : decode cX8_init 70 = .ok (.goto (-26), 3) := by decide +kernel
theorem dX8_init_73 : decode cX8_init 73 = .ok (.iconst 0, 1) := by decide +kernel
theorem dX8_init_74 : decode cX8_init 74 = .ok (.istore_n 2, 1) := by decide +kernel
theorem dX8_init_75 : decode cX8_init 75 = .ok (.iload_n 2, 1) := by decide +kernel
theorem dX8_init_76 : decode cX8_init 76 = .ok (.aload_n 0, 1) := by decide +kernel
theorem dX8_init_77 : decode cX8_init 77 = .ok (.getfield 19, 3) := by decide +kernel
theorem dX8_init_80 : decode cX8_init 80 = .ok (.arraylength, 1) := by decide +kernel
theorem dX8_init_81 : decode cX8_init 81 = .ok (.if_icmp .ge 22, 3) := by decide +kernel
theorem dX8_init_84 : decode cX8_init 84 = .ok (.aload_n 0, 1) := by decide +kernel
theorem dX8_init_85 : decode cX8_init 85 = .ok (.getfield 19, 3) := by decide +kernel
theorem dX8_init_88 : decode cX8_init 88 = .ok (.iload_n 2, 1) := by decide +kernel
theorem dX8_init_89 : decode cX8_init 89 = .ok (.new 17, 3) := by decide +kernel
theorem dX8_init_92 : decode cX8_init 92 = .ok (.dup, 1) := by decide +kernel
theorem dX8_init_93 : decode cX8_init 93 = .ok (.invokespecial 40, 3) := by decide +kernel
theorem dX8_init_96 : decode cX8_init 96 = .ok (.aastore, 1) := by decide +kernel
theorem dX8_init_97 : decode cX8_init 97 = .ok (.iinc 2 1, 3) := by decide +kernel
theorem dX8_init_100 : decode cX8_init 100 = .ok (.goto (-25), 3) := by decide +kernel
theorem dX8_init_103 : decode cX8_init 103 = .ok (.return_, 1) := by decide +kernel
theorem dX8_become_0 : decode cX8_become 0 = .ok (.aload_n 0, 1) := by decide +kernel
theorem dX8_become_1 : decode cX8_become 1 = .ok (.aload_n 1, 1) := by decide +kernel
theorem dX8_become_2 : decode cX8_become 2 = .ok (.getfield 23, 3) := by decide +kernel
theorem dX8_become_5 : decode cX8_become 5 = .ok (.putfield 23, 3) := by decide +kernel
theorem dX8_become_8 : decode cX8_become 8 = .ok (.aload_n 0, 1) := by decide +kernel
theorem dX8_become_9 : decode cX8_become 9 = .ok (.aload_n 1, 1) := by decide +kernel
theorem dX8_become_10 : decode cX8_become 10 = .ok (.getfield 27, 3) := by decide +kernel
theorem dX8_become_13 : decode cX8_become 13 = .ok (.putfield 27, 3) := by decide +kernel
theorem dX8_become_16 : decode cX8_become 16 = .ok (.aload_n 0, 1) := by decide +kernel
theorem dX8_become_17 : decode cX8_become 17 = .ok (.aload_n 1, 1) := by decide +kernel
theorem dX8_become_18 : decode cX8_become 18 = .ok (.getfield 30, 3) := by decide +kernel
theorem dX8_become_21 : decode cX8_become 21 = .ok (.putfield 30, 3) := by decide +kernel
theorem dX8_become_24 : decode cX8_become 24 = .ok (.aload_n 0, 1) := by decide +kernel
theorem dX8_become_25 : decode cX8_become 25 = .ok (.aload_n 1, 1) := by decide +kernel
theorem dX8_become_26 : decode cX8_become 26 = .ok (.getfield 33, 3) := by decide +kernel
theorem dX8_become_29 : decode cX8_become 29 = .ok (.putfield 33, 3) := by decide +kernel
theorem dX8_become_32 : decode cX8_become 32 = .ok (.iconst 0, 1) := by decide +kernel
theorem dX8_become_33 : decode cX8_become 33 = .ok (.istore_n 2, 1) := by decide +kernel
theorem dX8_become_34 : decode cX8_become 34 = .ok (.iload_n 2, 1) := by decide +kernel
theorem dX8_become_35 : decode cX8_become 35 = .ok (.aload_n 0, 1) := by decide +kernel
theorem dX8_become_36 : decode cX8_become 36 = .ok (.getfield 23, 3) := by decide +kernel
theorem dX8_become_39 : decode cX8_become 39 = .ok (.if_icmp .ge 24, 3) := by decide +kernel
theorem dX8_become_42 : decode cX8_become 42 = .ok (.aload_n 0, 1) := by decide +kernel
theorem dX8_become_43 : decode cX8_become 43 = .ok (.getfield 11, 3) := by decide +kernel
theorem dX8_become_46 : decode cX8_become 46 = .ok (.iload_n 2, 1) := by decide +kernel
theorem dX8_become_47 : decode cX8_become 47 = .ok (.aaload, 1) := by decide +kernel
theorem dX8_become_48 : decode cX8_become 48 = .ok (.aload_n 1, 1) := by decide +kernel
theorem dX8_become_49 : decode cX8_become 49 = .ok (.getfield 11, 3) := by decide +kernel
theorem dX8_become_52 : decode cX8_become 52 = .ok (.iload_n 2, 1) := by decide +kernel
theorem dX8_become_53 : decode cX8_become 53 = .ok (.aaload, 1) := by decide +kernel
theorem dX8_become_54 : decode cX8_become 54 = .ok (.invokevirtual 41, 3) := by decide +kernel
theorem dX8_become_57 : decode cX8_become 57 = .ok (.iinc 2 1, 3) := by decide +kernel
theorem dX8_become_60 : decode cX8_become 60 = .ok (.goto (-26), 3) := by decide +kernel
theorem dX8_become_63 : decode cX8_become 63 = .ok (.iconst 0, 1) := by decide +kernel
theorem dX8_become_64 : decode cX8_become 64 = .ok (.istore_n 2, 1) := by decide +kernel
theorem dX8_become_65 : decode cX8_become 65 = .ok (.iload_n 2, 1) := by decide +kernel
theorem dX8_become_66 : decode cX8_become 66 = .ok (.aload_n 0, 1) := by decide +kernel
theorem dX8_become_67 : decode cX8_become 67 = .ok (.getfield 27, 3) := by decide +kernel
theorem dX8_become_70 : decode cX8_become 70 = .ok (.if_icmp .ge 24, 3) := by decide +kernel
theorem dX8_become_73 : decode cX8_become 73 = .ok (.aload_n 0, 1) := by decide +kernel
theorem dX8_become_74 : decode cX8_become 74 = .ok (.getfield 19, 3) := by decide +kernel
theorem dX8_become_77 : decode cX8_become 77 = .ok (.iload_n 2, 1) := by decide +kernel
theorem dX8_become_78 : decode cX8_become 78 = .ok (.aaload, 1) := by decide +kernel
theorem dX8_become_79 : decode cX8_become 79 = .ok (.aload_n 1, 1) := by decide +kernel
theorem dX8_become_80 : decode cX8_become 80 = .ok (.getfield 19, 3) := by decide +kernel
theorem dX8_become_83 : decode cX8_become 83 = .ok (.iload_n 2, 1) := by decide +kernel
theorem dX8_become_84 : decode cX8_become 84 = .ok (.aaload, 1) := by decide +kernel
theorem dX8_become_85 : decode cX8_become 85 = .ok (.invokevirtual 45, 3) := by decide +kernel
theorem dX8_become_88 : decode cX8_become 88 = .ok (.iinc 2 1, 3) := by decide +kernel
theorem dX8_become_91 : decode cX8_become 91 = .ok (.goto (-26), 3) := by decide +kernel
theorem dX8_become_94 : decode cX8_become 94 = .ok (.return_, 1) := by decide +kernel
theorem dX8_becomeOne_0 : decode cX8_becomeOne 0 = .ok (.aload_n 0, 1) := by decide +kernel
theorem dX8_becomeOne_1 : decode cX8_becomeOne 1 = .ok (.aload_n 1, 1) := by decide +kernel
theorem dX8_becomeOne_2 : decode cX8_becomeOne 2 = .ok (.getfield 30, 3) := by decide +kernel
theorem dX8_becomeOne_5 : decode cX8_becomeOne 5 = .ok (.putfield 30, 3) := by decide +kernel
theorem dX8_becomeOne_8 : decode cX8_becomeOne 8 = .ok (.aload_n 0, 1) := by decide +kernel
theorem dX8_becomeOne_9 : decode cX8_becomeOne 9 = .ok (.getfield 11, 3) := by decide +kernel
theorem dX8_becomeOne_12 : decode cX8_becomeOne 12 = .ok (.iload_n 2, 1) := by decide +kernel
theorem dX8_becomeOne_13 : decode cX8_becomeOne 13 = .ok (.aaload, 1) := by decide +kernel
theorem dX8_becomeOne_14 : decode cX8_becomeOne 14 = .ok (.aload_n 1, 1) := by decide +kernel
theorem dX8_becomeOne_15 : decode cX8_becomeOne 15 = .ok (.getfield 11, 3) := by decide +kernel
theorem dX8_becomeOne_18 : decode cX8_becomeOne 18 = .ok (.iload_n 2, 1) := by decide +kernel
theorem dX8_becomeOne_19 : decode cX8_becomeOne 19 = .ok (.aaload, 1) := by decide +kernel
theorem dX8_becomeOne_20 : decode cX8_becomeOne 20 = .ok (.invokevirtual 41, 3) := by decide +kernel
theorem dX8_becomeOne_23 : decode cX8_becomeOne 23 = .ok (.return_, 1) := by decide +kernel
theorem dX8_hasWearer_0 : decode cX8_hasWearer 0 = .ok (.iload_n 1, 1) := by decide +kernel
theorem dX8_hasWearer_1 : decode cX8_hasWearer 1 = .ok (.ifCond .lt 15, 3) := by decide +kernel
theorem dX8_hasWearer_4 : decode cX8_hasWearer 4 = .ok (.iload_n 1, 1) := by decide +kernel
theorem dX8_hasWearer_5 : decode cX8_hasWearer 5 = .ok (.aload_n 0, 1) := by decide +kernel
theorem dX8_hasWearer_6 : decode cX8_hasWearer 6 = .ok (.getfield 23, 3) := by decide +kernel
theorem dX8_hasWearer_9 : decode cX8_hasWearer 9 = .ok (.if_icmp .ge 7, 3) := by decide +kernel
theorem dX8_hasWearer_12 : decode cX8_hasWearer 12 = .ok (.iconst 1, 1) := by decide +kernel
theorem dX8_hasWearer_13 : decode cX8_hasWearer 13 = .ok (.goto 4, 3) := by decide +kernel
theorem dX8_hasWearer_16 : decode cX8_hasWearer 16 = .ok (.iconst 0, 1) := by decide +kernel
theorem dX8_hasWearer_17 : decode cX8_hasWearer 17 = .ok (.ireturn, 1) := by decide +kernel
theorem dX8_hasSaying_0 : decode cX8_hasSaying 0 = .ok (.iload_n 1, 1) := by decide +kernel
theorem dX8_hasSaying_1 : decode cX8_hasSaying 1 = .ok (.ifCond .lt 15, 3) := by decide +kernel
theorem dX8_hasSaying_4 : decode cX8_hasSaying 4 = .ok (.iload_n 1, 1) := by decide +kernel
theorem dX8_hasSaying_5 : decode cX8_hasSaying 5 = .ok (.aload_n 0, 1) := by decide +kernel
theorem dX8_hasSaying_6 : decode cX8_hasSaying 6 = .ok (.getfield 27, 3) := by decide +kernel
theorem dX8_hasSaying_9 : decode cX8_hasSaying 9 = .ok (.if_icmp .ge 7, 3) := by decide +kernel
theorem dX8_hasSaying_12 : decode cX8_hasSaying 12 = .ok (.iconst 1, 1) := by decide +kernel
theorem dX8_hasSaying_13 : decode cX8_hasSaying 13 = .ok (.goto 4, 3) := by decide +kernel
theorem dX8_hasSaying_16 : decode cX8_hasSaying 16 = .ok (.iconst 0, 1) := by decide +kernel
theorem dX8_hasSaying_17 : decode cX8_hasSaying 17 = .ok (.ireturn, 1) := by decide +kernel
theorem dX8_addWearer_0 : decode cX8_addWearer 0 = .ok (.aload_n 0, 1) := by decide +kernel
theorem dX8_addWearer_1 : decode cX8_addWearer 1 = .ok (.getfield 23, 3) := by decide +kernel
theorem dX8_addWearer_4 : decode cX8_addWearer 4 = .ok (.aload_n 0, 1) := by decide +kernel
theorem dX8_addWearer_5 : decode cX8_addWearer 5 = .ok (.getfield 11, 3) := by decide +kernel
theorem dX8_addWearer_8 : decode cX8_addWearer 8 = .ok (.arraylength, 1) := by decide +kernel
theorem dX8_addWearer_9 : decode cX8_addWearer 9 = .ok (.if_icmp .lt 6, 3) := by decide +kernel
theorem dX8_addWearer_12 : decode cX8_addWearer 12 = .ok (.bipush (-4), 2) := by decide +kernel
theorem dX8_addWearer_14 : decode cX8_addWearer 14 = .ok (.ireturn, 1) := by decide +kernel
theorem dX8_addWearer_15 : decode cX8_addWearer 15 = .ok (.aload_n 0, 1) := by decide +kernel
theorem dX8_addWearer_16 : decode cX8_addWearer 16 = .ok (.getfield 11, 3) := by decide +kernel
theorem dX8_addWearer_19 : decode cX8_addWearer 19 = .ok (.aload_n 0, 1) := by decide +kernel
theorem dX8_addWearer_20 : decode cX8_addWearer 20 = .ok (.getfield 23, 3) := by decide +kernel
theorem dX8_addWearer_23 : decode cX8_addWearer 23 = .ok (.aaload, 1) := by decide +kernel
theorem dX8_addWearer_24 : decode cX8_addWearer 24 = .ok (.iload_n 1, 1) := by decide +kernel
theorem dX8_addWearer_25 : decode cX8_addWearer 25 = .ok (.iload_n 2, 1) := by decide +kernel
theorem dX8_addWearer_26 : decode cX8_addWearer 26 = .ok (.iload_n 3, 1) := by decide +kernel
theorem dX8_addWearer_27 : decode cX8_addWearer 27 = .ok (.invokevirtual 48, 3) := by decide +kernel
theorem dX8_addWearer_30 : decode cX8_addWearer 30 = .ok (.aload_n 0, 1) := by decide +kernel
theorem dX8_addWearer_31 : decode cX8_addWearer 31 = .ok (.dup, 1) := by decide +kernel
theorem dX8_addWearer_32 : decode cX8_addWearer 32 = .ok (.getfield 23, 3) := by decide +kernel
theorem dX8_addWearer_35 : decode cX8_addWearer 35 = .ok (.iconst 1, 1) := by decide +kernel
theorem dX8_addWearer_36 : decode cX8_addWearer 36 = .ok (.iadd, 1) := by decide +kernel
theorem dX8_addWearer_37 : decode cX8_addWearer 37 = .ok (.putfield 23, 3) := by decide +kernel
theorem dX8_addWearer_40 : decode cX8_addWearer 40 = .ok (.aload_n 0, 1) := by decide +kernel
theorem dX8_addWearer_41 : decode cX8_addWearer 41 = .ok (.getfield 23, 3) := by decide +kernel
theorem dX8_addWearer_44 : decode cX8_addWearer 44 = .ok (.iconst 1, 1) := by decide +kernel
theorem dX8_addWearer_45 : decode cX8_addWearer 45 = .ok (.isub, 1) := by decide +kernel
theorem dX8_addWearer_46 : decode cX8_addWearer 46 = .ok (.ireturn, 1) := by decide +kernel
theorem dX8_addSaying_0 : decode cX8_addSaying 0 = .ok (.aload_n 0, 1) := by decide +kernel
theorem dX8_addSaying_1 : decode cX8_addSaying 1 = .ok (.getfield 27, 3) := by decide +kernel
theorem dX8_addSaying_4 : decode cX8_addSaying 4 = .ok (.aload_n 0, 1) := by decide +kernel
theorem dX8_addSaying_5 : decode cX8_addSaying 5 = .ok (.getfield 19, 3) := by decide +kernel
theorem dX8_addSaying_8 : decode cX8_addSaying 8 = .ok (.arraylength, 1) := by decide +kernel
theorem dX8_addSaying_9 : decode cX8_addSaying 9 = .ok (.if_icmp .lt 6, 3) := by decide +kernel
theorem dX8_addSaying_12 : decode cX8_addSaying 12 = .ok (.bipush (-4), 2) := by decide +kernel
theorem dX8_addSaying_14 : decode cX8_addSaying 14 = .ok (.ireturn, 1) := by decide +kernel
theorem dX8_addSaying_15 : decode cX8_addSaying 15 = .ok (.aload_n 0, 1) := by decide +kernel
theorem dX8_addSaying_16 : decode cX8_addSaying 16 = .ok (.getfield 19, 3) := by decide +kernel
theorem dX8_addSaying_19 : decode cX8_addSaying 19 = .ok (.aload_n 0, 1) := by decide +kernel
theorem dX8_addSaying_20 : decode cX8_addSaying 20 = .ok (.getfield 27, 3) := by decide +kernel
theorem dX8_addSaying_23 : decode cX8_addSaying 23 = .ok (.aaload, 1) := by decide +kernel
theorem dX8_addSaying_24 : decode cX8_addSaying 24 = .ok (.astore_n 3, 1) := by decide +kernel
theorem dX8_addSaying_25 : decode cX8_addSaying 25 = .ok (.aload_n 3, 1) := by decide +kernel
theorem dX8_addSaying_26 : decode cX8_addSaying 26 = .ok (.iload_n 1, 1) := by decide +kernel
theorem dX8_addSaying_27 : decode cX8_addSaying 27 = .ok (.putfield 52, 3) := by decide +kernel
theorem dX8_addSaying_30 : decode cX8_addSaying 30 = .ok (.aload_n 3, 1) := by decide +kernel
theorem dX8_addSaying_31 : decode cX8_addSaying 31 = .ok (.iload_n 2, 1) := by decide +kernel
theorem dX8_addSaying_32 : decode cX8_addSaying 32 = .ok (.putfield 55, 3) := by decide +kernel
theorem dX8_addSaying_35 : decode cX8_addSaying 35 = .ok (.aload_n 3, 1) := by decide +kernel
theorem dX8_addSaying_36 : decode cX8_addSaying 36 = .ok (.bipush (-5), 2) := by decide +kernel
theorem dX8_addSaying_38 : decode cX8_addSaying 38 = .ok (.putfield 58, 3) := by decide +kernel
theorem dX8_addSaying_41 : decode cX8_addSaying 41 = .ok (.aload_n 0, 1) := by decide +kernel
theorem dX8_addSaying_42 : decode cX8_addSaying 42 = .ok (.dup, 1) := by decide +kernel
theorem dX8_addSaying_43 : decode cX8_addSaying 43 = .ok (.getfield 27, 3) := by decide +kernel
theorem dX8_addSaying_46 : decode cX8_addSaying 46 = .ok (.iconst 1, 1) := by decide +kernel
theorem dX8_addSaying_47 : decode cX8_addSaying 47 = .ok (.iadd, 1) := by decide +kernel
theorem dX8_addSaying_48 : decode cX8_addSaying 48 = .ok (.putfield 27, 3) := by decide +kernel
theorem dX8_addSaying_51 : decode cX8_addSaying 51 = .ok (.aload_n 0, 1) := by decide +kernel
theorem dX8_addSaying_52 : decode cX8_addSaying 52 = .ok (.getfield 27, 3) := by decide +kernel
theorem dX8_addSaying_55 : decode cX8_addSaying 55 = .ok (.iconst 1, 1) := by decide +kernel
theorem dX8_addSaying_56 : decode cX8_addSaying 56 = .ok (.isub, 1) := by decide +kernel
theorem dX8_addSaying_57 : decode cX8_addSaying 57 = .ok (.ireturn, 1) := by decide +kernel
theorem dX8_isStriking_0 : decode cX8_isStriking 0 = .ok (.aload_n 0, 1) := by decide +kernel
theorem dX8_isStriking_1 : decode cX8_isStriking 1 = .ok (.aload_n 1, 1) := by decide +kernel
theorem dX8_isStriking_2 : decode cX8_isStriking 2 = .ok (.getfield 58, 3) := by decide +kernel
theorem dX8_isStriking_5 : decode cX8_isStriking 5 = .ok (.invokevirtual 61, 3) := by decide +kernel
theorem dX8_isStriking_8 : decode cX8_isStriking 8 = .ok (.ifCond .eq 26, 3) := by decide +kernel
theorem dX8_isStriking_11 : decode cX8_isStriking 11 = .ok (.aload_n 1, 1) := by decide +kernel
theorem dX8_isStriking_12 : decode cX8_isStriking 12 = .ok (.getfield 55, 3) := by decide +kernel
theorem dX8_isStriking_15 : decode cX8_isStriking 15 = .ok (.ifCond .le 19, 3) := by decide +kernel
theorem dX8_isStriking_18 : decode cX8_isStriking 18 = .ok (.aload_n 0, 1) := by decide +kernel
theorem dX8_isStriking_19 : decode cX8_isStriking 19 = .ok (.getfield 30, 3) := by decide +kernel
theorem dX8_isStriking_22 : decode cX8_isStriking 22 = .ok (.aload_n 1, 1) := by decide +kernel
theorem dX8_isStriking_23 : decode cX8_isStriking 23 = .ok (.getfield 55, 3) := by decide +kernel
theorem dX8_isStriking_26 : decode cX8_isStriking 26 = .ok (.irem, 1) := by decide +kernel
theorem dX8_isStriking_27 : decode cX8_isStriking 27 = .ok (.ifCond .ne 7, 3) := by decide +kernel
theorem dX8_isStriking_30 : decode cX8_isStriking 30 = .ok (.iconst 1, 1) := by decide +kernel
theorem dX8_isStriking_31 : decode cX8_isStriking 31 = .ok (.goto 4, 3) := by decide +kernel
theorem dX8_isStriking_34 : decode cX8_isStriking 34 = .ok (.iconst 0, 1) := by decide +kernel
theorem dX8_isStriking_35 : decode cX8_isStriking 35 = .ok (.ireturn, 1) := by decide +kernel
theorem dX8_strikingBits_0 : decode cX8_strikingBits 0 = .ok (.iconst 0, 1) := by decide +kernel
theorem dX8_strikingBits_1 : decode cX8_strikingBits 1 = .ok (.istore_n 1, 1) := by decide +kernel
theorem dX8_strikingBits_2 : decode cX8_strikingBits 2 = .ok (.iconst 0, 1) := by decide +kernel
theorem dX8_strikingBits_3 : decode cX8_strikingBits 3 = .ok (.istore_n 2, 1) := by decide +kernel
theorem dX8_strikingBits_4 : decode cX8_strikingBits 4 = .ok (.iload_n 2, 1) := by decide +kernel
theorem dX8_strikingBits_5 : decode cX8_strikingBits 5 = .ok (.aload_n 0, 1) := by decide +kernel
theorem dX8_strikingBits_6 : decode cX8_strikingBits 6 = .ok (.getfield 27, 3) := by decide +kernel
theorem dX8_strikingBits_9 : decode cX8_strikingBits 9 = .ok (.if_icmp .ge 28, 3) := by decide +kernel
theorem dX8_strikingBits_12 : decode cX8_strikingBits 12 = .ok (.aload_n 0, 1) := by decide +kernel
theorem dX8_strikingBits_13 : decode cX8_strikingBits 13 = .ok (.aload_n 0, 1) := by decide +kernel
theorem dX8_strikingBits_14 : decode cX8_strikingBits 14 = .ok (.getfield 19, 3) := by decide +kernel
theorem dX8_strikingBits_17 : decode cX8_strikingBits 17 = .ok (.iload_n 2, 1) := by decide +kernel
theorem dX8_strikingBits_18 : decode cX8_strikingBits 18 = .ok (.aaload, 1) := by decide +kernel
theorem dX8_strikingBits_19 : decode cX8_strikingBits 19 = .ok (.invokevirtual 65, 3) := by decide +kernel
theorem dX8_strikingBits_22 : decode cX8_strikingBits 22 = .ok (.ifCond .eq 9, 3) := by decide +kernel
theorem dX8_strikingBits_25 : decode cX8_strikingBits 25 = .ok (.iload_n 1, 1) := by decide +kernel
theorem dX8_strikingBits_26 : decode cX8_strikingBits 26 = .ok (.iconst 1, 1) := by decide +kernel
theorem dX8_strikingBits_27 : decode cX8_strikingBits 27 = .ok (.iload_n 2, 1) := by decide +kernel
theorem dX8_strikingBits_28 : decode cX8_strikingBits 28 = .ok (.ishl, 1) := by decide +kernel
theorem dX8_strikingBits_29 : decode cX8_strikingBits 29 = .ok (.ior, 1) := by decide +kernel
theorem dX8_strikingBits_30 : decode cX8_strikingBits 30 = .ok (.istore_n 1, 1) := by decide +kernel
theorem dX8_strikingBits_31 : decode cX8_strikingBits 31 = .ok (.iinc 2 1, 3) := by decide +kernel
theorem dX8_strikingBits_34 : decode cX8_strikingBits 34 = .ok (.goto (-30), 3) := by decide +kernel
theorem dX8_strikingBits_37 : decode cX8_strikingBits 37 = .ok (.iload_n 1, 1) := by decide +kernel
theorem dX8_strikingBits_38 : decode cX8_strikingBits 38 = .ok (.ireturn, 1) := by decide +kernel
theorem dX8_guard_0 : decode cX8_guard 0 = .ok (.aload_n 1, 1) := by decide +kernel
theorem dX8_guard_1 : decode cX8_guard 1 = .ok (.aload_n 0, 1) := by decide +kernel
theorem dX8_guard_2 : decode cX8_guard 2 = .ok (.getfield 33, 3) := by decide +kernel
theorem dX8_guard_5 : decode cX8_guard 5 = .ok (.aload_n 1, 1) := by decide +kernel
theorem dX8_guard_6 : decode cX8_guard 6 = .ok (.iload_n 2, 1) := by decide +kernel
theorem dX8_guard_7 : decode cX8_guard 7 = .ok (.aload_n 0, 1) := by decide +kernel
theorem dX8_guard_8 : decode cX8_guard 8 = .ok (.getfield 30, 3) := by decide +kernel
theorem dX8_guard_11 : decode cX8_guard 11 = .ok (.invokevirtual 69, 3) := by decide +kernel
theorem dX8_guard_14 : decode cX8_guard 14 = .ok (.iload_n 2, 1) := by decide +kernel
theorem dX8_guard_15 : decode cX8_guard 15 = .ok (.invokevirtual 75, 3) := by decide +kernel
theorem dX8_guard_18 : decode cX8_guard 18 = .ok (.ireturn, 1) := by decide +kernel
theorem dX8_go_0 : decode cX8_go 0 = .ok (.iconst 0, 1) := by decide +kernel
theorem dX8_go_1 : decode cX8_go 1 = .ok (.istore_n 3, 1) := by decide +kernel
theorem dX8_go_2 : decode cX8_go 2 = .ok (.iload_n 3, 1) := by decide +kernel
theorem dX8_go_3 : decode cX8_go 3 = .ok (.iload_n 1, 1) := by decide +kernel
theorem dX8_go_4 : decode cX8_go 4 = .ok (.if_icmp .ge 76, 3) := by decide +kernel
theorem dX8_go_7 : decode cX8_go 7 = .ok (.iconst 0, 1) := by decide +kernel
theorem dX8_go_8 : decode cX8_go 8 = .ok (.istore 4, 2) := by decide +kernel
theorem dX8_go_10 : decode cX8_go 10 = .ok (.iload 4, 2) := by decide +kernel
theorem dX8_go_12 : decode cX8_go 12 = .ok (.aload_n 0, 1) := by decide +kernel
theorem dX8_go_13 : decode cX8_go 13 = .ok (.getfield 27, 3) := by decide +kernel
theorem dX8_go_16 : decode cX8_go 16 = .ok (.if_icmp .ge 48, 3) := by decide +kernel
theorem dX8_go_19 : decode cX8_go 19 = .ok (.iload_n 2, 1) := by decide +kernel
theorem dX8_go_20 : decode cX8_go 20 = .ok (.iconst (-1), 1) := by decide +kernel
theorem dX8_go_21 : decode cX8_go 21 = .ok (.if_icmp .eq 17, 3) := by decide +kernel
theorem dX8_go_24 : decode cX8_go 24 = .ok (.aload_n 0, 1) := by decide +kernel
theorem dX8_go_25 : decode cX8_go 25 = .ok (.getfield 19, 3) := by decide +kernel
theorem dX8_go_28 : decode cX8_go 28 = .ok (.iload 4, 2) := by decide +kernel
theorem dX8_go_30 : decode cX8_go 30 = .ok (.aaload, 1) := by decide +kernel
theorem dX8_go_31 : decode cX8_go 31 = .ok (.getfield 58, 3) := by decide +kernel
theorem dX8_go_34 : decode cX8_go 34 = .ok (.iload_n 2, 1) := by decide +kernel
theorem dX8_go_35 : decode cX8_go 35 = .ok (.if_icmp .ne 23, 3) := by decide +kernel
theorem dX8_go_38 : decode cX8_go 38 = .ok (.aload_n 0, 1) := by decide +kernel
theorem dX8_go_39 : decode cX8_go 39 = .ok (.aload_n 0, 1) := by decide +kernel
theorem dX8_go_40 : decode cX8_go 40 = .ok (.getfield 19, 3) := by decide +kernel
theorem dX8_go_43 : decode cX8_go 43 = .ok (.iload 4, 2) := by decide +kernel
theorem dX8_go_45 : decode cX8_go 45 = .ok (.aaload, 1) := by decide +kernel
theorem dX8_go_46 : decode cX8_go 46 = .ok (.invokevirtual 65, 3) := by decide +kernel
theorem dX8_go_49 : decode cX8_go 49 = .ok (.ifCond .eq 9, 3) := by decide +kernel
theorem dX8_go_52 : decode cX8_go 52 = .ok (.aload_n 0, 1) := by decide +kernel
theorem dX8_go_53 : decode cX8_go 53 = .ok (.iload 4, 2) := by decide +kernel
theorem dX8_go_55 : decode cX8_go 55 = .ok (.invokevirtual 79, 3) := by decide +kernel
theorem dX8_go_58 : decode cX8_go 58 = .ok (.iinc 4 1, 3) := by decide +kernel
theorem dX8_go_61 : decode cX8_go 61 = .ok (.goto (-51), 3) := by decide +kernel
theorem dX8_go_64 : decode cX8_go 64 = .ok (.aload_n 0, 1) := by decide +kernel
theorem dX8_go_65 : decode cX8_go 65 = .ok (.dup, 1) := by decide +kernel
theorem dX8_go_66 : decode cX8_go 66 = .ok (.getfield 30, 3) := by decide +kernel
theorem dX8_go_69 : decode cX8_go 69 = .ok (.iconst 1, 1) := by decide +kernel
theorem dX8_go_70 : decode cX8_go 70 = .ok (.iadd, 1) := by decide +kernel
theorem dX8_go_71 : decode cX8_go 71 = .ok (.putfield 30, 3) := by decide +kernel
theorem dX8_go_74 : decode cX8_go 74 = .ok (.iinc 3 1, 3) := by decide +kernel
theorem dX8_go_77 : decode cX8_go 77 = .ok (.goto (-75), 3) := by decide +kernel
theorem dX8_go_80 : decode cX8_go 80 = .ok (.return_, 1) := by decide +kernel
theorem dX8_strike_0 : decode cX8_strike 0 = .ok (.aload_n 0, 1) := by decide +kernel
theorem dX8_strike_1 : decode cX8_strike 1 = .ok (.getfield 19, 3) := by decide +kernel
theorem dX8_strike_4 : decode cX8_strike 4 = .ok (.iload_n 1, 1) := by decide +kernel
theorem dX8_strike_5 : decode cX8_strike 5 = .ok (.aaload, 1) := by decide +kernel
theorem dX8_strike_6 : decode cX8_strike 6 = .ok (.astore_n 2, 1) := by decide +kernel
theorem dX8_strike_7 : decode cX8_strike 7 = .ok (.aload_n 0, 1) := by decide +kernel
theorem dX8_strike_8 : decode cX8_strike 8 = .ok (.getfield 11, 3) := by decide +kernel
theorem dX8_strike_11 : decode cX8_strike 11 = .ok (.aload_n 2, 1) := by decide +kernel
theorem dX8_strike_12 : decode cX8_strike 12 = .ok (.getfield 58, 3) := by decide +kernel
theorem dX8_strike_15 : decode cX8_strike 15 = .ok (.aaload, 1) := by decide +kernel
theorem dX8_strike_16 : decode cX8_strike 16 = .ok (.astore_n 3, 1) := by decide +kernel
theorem dX8_strike_17 : decode cX8_strike 17 = .ok (.aload_n 2, 1) := by decide +kernel
theorem dX8_strike_18 : decode cX8_strike 18 = .ok (.getfield 52, 3) := by decide +kernel
theorem dX8_strike_21 : decode cX8_strike 21 = .ok (.aload_n 0, 1) := by decide +kernel
theorem dX8_strike_22 : decode cX8_strike 22 = .ok (.aload_n 3, 1) := by decide +kernel
theorem dX8_strike_23 : decode cX8_strike 23 = .ok (.iload_n 1, 1) := by decide +kernel
theorem dX8_strike_24 : decode cX8_strike 24 = .ok (.invokevirtual 82, 3) := by decide +kernel
theorem dX8_strike_27 : decode cX8_strike 27 = .ok (.isub, 1) := by decide +kernel
theorem dX8_strike_28 : decode cX8_strike 28 = .ok (.iconst 0, 1) := by decide +kernel
theorem dX8_strike_29 : decode cX8_strike 29 = .ok (.invokestatic 86, 3) := by decide +kernel
theorem dX8_strike_32 : decode cX8_strike 32 = .ok (.bipush 99, 2) := by decide +kernel
theorem dX8_strike_34 : decode cX8_strike 34 = .ok (.invokestatic 91, 3) := by decide +kernel
theorem dX8_strike_37 : decode cX8_strike 37 = .ok (.istore 4, 2) := by decide +kernel
theorem dX8_strike_39 : decode cX8_strike 39 = .ok (.aload_n 3, 1) := by decide +kernel
theorem dX8_strike_40 : decode cX8_strike 40 = .ok (.aload_n 3, 1) := by decide +kernel
theorem dX8_strike_41 : decode cX8_strike 41 = .ok (.getfield 94, 3) := by decide +kernel
theorem dX8_strike_44 : decode cX8_strike 44 = .ok (.iload 4, 2) := by decide +kernel
theorem dX8_strike_46 : decode cX8_strike 46 = .ok (.iadd, 1) := by decide +kernel
theorem dX8_strike_47 : decode cX8_strike 47 = .ok (.sipush 9999, 3) := by decide +kernel
theorem dX8_strike_50 : decode cX8_strike 50 = .ok (.invokestatic 91, 3) := by decide +kernel
theorem dX8_strike_53 : decode cX8_strike 53 = .ok (.putfield 94, 3) := by decide +kernel
theorem dX8_strike_56 : decode cX8_strike 56 = .ok (.aload_n 3, 1) := by decide +kernel
theorem dX8_strike_57 : decode cX8_strike 57 = .ok (.aload_n 3, 1) := by decide +kernel
theorem dX8_strike_58 : decode cX8_strike 58 = .ok (.getfield 97, 3) := by decide +kernel
theorem dX8_strike_61 : decode cX8_strike 61 = .ok (.iconst 1, 1) := by decide +kernel
theorem dX8_strike_62 : decode cX8_strike 62 = .ok (.iadd, 1) := by decide +kernel
theorem dX8_strike_63 : decode cX8_strike 63 = .ok (.sipush 9999, 3) := by decide +kernel
theorem dX8_strike_66 : decode cX8_strike 66 = .ok (.invokestatic 91, 3) := by decide +kernel
theorem dX8_strike_69 : decode cX8_strike 69 = .ok (.putfield 97, 3) := by decide +kernel
theorem dX8_strike_72 : decode cX8_strike 72 = .ok (.aload_n 3, 1) := by decide +kernel
theorem dX8_strike_73 : decode cX8_strike 73 = .ok (.aload_n 3, 1) := by decide +kernel
theorem dX8_strike_74 : decode cX8_strike 74 = .ok (.getfield 100, 3) := by decide +kernel
theorem dX8_strike_77 : decode cX8_strike 77 = .ok (.aload_n 0, 1) := by decide +kernel
theorem dX8_strike_78 : decode cX8_strike 78 = .ok (.getfield 33, 3) := by decide +kernel
theorem dX8_strike_81 : decode cX8_strike 81 = .ok (.getfield 103, 3) := by decide +kernel
theorem dX8_strike_84 : decode cX8_strike 84 = .ok (.isub, 1) := by decide +kernel
theorem dX8_strike_85 : decode cX8_strike 85 = .ok (.iconst 0, 1) := by decide +kernel
theorem dX8_strike_86 : decode cX8_strike 86 = .ok (.invokestatic 86, 3) := by decide +kernel
theorem dX8_strike_89 : decode cX8_strike 89 = .ok (.putfield 100, 3) := by decide +kernel
theorem dX8_strike_92 : decode cX8_strike 92 = .ok (.return_, 1) := by decide +kernel
theorem dX8_hurtOfAll_0 : decode cX8_hurtOfAll 0 = .ok (.iconst 0, 1) := by decide +kernel
theorem dX8_hurtOfAll_1 : decode cX8_hurtOfAll 1 = .ok (.istore_n 1, 1) := by decide +kernel
theorem dX8_hurtOfAll_2 : decode cX8_hurtOfAll 2 = .ok (.iconst 0, 1) := by decide +kernel
theorem dX8_hurtOfAll_3 : decode cX8_hurtOfAll 3 = .ok (.istore_n 2, 1) := by decide +kernel
theorem dX8_hurtOfAll_4 : decode cX8_hurtOfAll 4 = .ok (.iload_n 2, 1) := by decide +kernel
theorem dX8_hurtOfAll_5 : decode cX8_hurtOfAll 5 = .ok (.aload_n 0, 1) := by decide +kernel
theorem dX8_hurtOfAll_6 : decode cX8_hurtOfAll 6 = .ok (.getfield 23, 3) := by decide +kernel
theorem dX8_hurtOfAll_9 : decode cX8_hurtOfAll 9 = .ok (.if_icmp .ge 21, 3) := by decide +kernel
theorem dX8_hurtOfAll_12 : decode cX8_hurtOfAll 12 = .ok (.iload_n 1, 1) := by decide +kernel
theorem dX8_hurtOfAll_13 : decode cX8_hurtOfAll 13 = .ok (.aload_n 0, 1) := by decide +kernel
theorem dX8_hurtOfAll_14 : decode cX8_hurtOfAll 14 = .ok (.getfield 11, 3) := by decide +kernel
theorem dX8_hurtOfAll_17 : decode cX8_hurtOfAll 17 = .ok (.iload_n 2, 1) := by decide +kernel
theorem dX8_hurtOfAll_18 : decode cX8_hurtOfAll 18 = .ok (.aaload, 1) := by decide +kernel
theorem dX8_hurtOfAll_19 : decode cX8_hurtOfAll 19 = .ok (.getfield 94, 3) := by decide +kernel
theorem dX8_hurtOfAll_22 : decode cX8_hurtOfAll 22 = .ok (.iadd, 1) := by decide +kernel
theorem dX8_hurtOfAll_23 : decode cX8_hurtOfAll 23 = .ok (.istore_n 1, 1) := by decide +kernel
theorem dX8_hurtOfAll_24 : decode cX8_hurtOfAll 24 = .ok (.iinc 2 1, 3) := by decide +kernel
theorem dX8_hurtOfAll_27 : decode cX8_hurtOfAll 27 = .ok (.goto (-23), 3) := by decide +kernel
theorem dX8_hurtOfAll_30 : decode cX8_hurtOfAll 30 = .ok (.iload_n 1, 1) := by decide +kernel
theorem dX8_hurtOfAll_31 : decode cX8_hurtOfAll 31 = .ok (.ireturn, 1) := by decide +kernel
theorem dX8_coverOfAll_0 : decode cX8_coverOfAll 0 = .ok (.iconst 0, 1) := by decide +kernel
theorem dX8_coverOfAll_1 : decode cX8_coverOfAll 1 = .ok (.istore_n 1, 1) := by decide +kernel
theorem dX8_coverOfAll_2 : decode cX8_coverOfAll 2 = .ok (.iconst 0, 1) := by decide +kernel
theorem dX8_coverOfAll_3 : decode cX8_coverOfAll 3 = .ok (.istore_n 2, 1) := by decide +kernel
theorem dX8_coverOfAll_4 : decode cX8_coverOfAll 4 = .ok (.iload_n 2, 1) := by decide +kernel
theorem dX8_coverOfAll_5 : decode cX8_coverOfAll 5 = .ok (.aload_n 0, 1) := by decide +kernel
theorem dX8_coverOfAll_6 : decode cX8_coverOfAll 6 = .ok (.getfield 23, 3) := by decide +kernel
theorem dX8_coverOfAll_9 : decode cX8_coverOfAll 9 = .ok (.if_icmp .ge 21, 3) := by decide +kernel
theorem dX8_coverOfAll_12 : decode cX8_coverOfAll 12 = .ok (.iload_n 1, 1) := by decide +kernel
theorem dX8_coverOfAll_13 : decode cX8_coverOfAll 13 = .ok (.aload_n 0, 1) := by decide +kernel
theorem dX8_coverOfAll_14 : decode cX8_coverOfAll 14 = .ok (.getfield 11, 3) := by decide +kernel
theorem dX8_coverOfAll_17 : decode cX8_coverOfAll 17 = .ok (.iload_n 2, 1) := by decide +kernel
theorem dX8_coverOfAll_18 : decode cX8_coverOfAll 18 = .ok (.aaload, 1) := by decide +kernel
theorem dX8_coverOfAll_19 : decode cX8_coverOfAll 19 = .ok (.getfield 100, 3) := by decide +kernel
theorem dX8_coverOfAll_22 : decode cX8_coverOfAll 22 = .ok (.iadd, 1) := by decide +kernel
theorem dX8_coverOfAll_23 : decode cX8_coverOfAll 23 = .ok (.istore_n 1, 1) := by decide +kernel
theorem dX8_coverOfAll_24 : decode cX8_coverOfAll 24 = .ok (.iinc 2 1, 3) := by decide +kernel
theorem dX8_coverOfAll_27 : decode cX8_coverOfAll 27 = .ok (.goto (-23), 3) := by decide +kernel
theorem dX8_coverOfAll_30 : decode cX8_coverOfAll 30 = .ok (.iload_n 1, 1) := by decide +kernel
theorem dX8_coverOfAll_31 : decode cX8_coverOfAll 31 = .ok (.ireturn, 1) := by decide +kernel
theorem dX9_init_0 : decode cX9_init 0 = .ok (.aload_n 0, 1) := by decide +kernel
theorem dX9_init_1 : decode cX9_init 1 = .ok (.invokespecial 3, 3) := by decide +kernel
theorem dX9_init_4 : decode cX9_init 4 = .ok (.aload_n 0, 1) := by decide +kernel
theorem dX9_init_5 : decode cX9_init 5 = .ok (.bipush 6, 2) := by decide +kernel
theorem dX9_init_7 : decode cX9_init 7 = .ok (.anewarray 11, 3) := by decide +kernel
theorem dX9_init_10 : decode cX9_init 10 = .ok (.putfield 13, 3) := by decide +kernel
theorem dX9_init_13 : decode cX9_init 13 = .ok (.aload_n 0, 1) := by decide +kernel
theorem dX9_init_14 : decode cX9_init 14 = .ok (.new 11, 3) := by decide +kernel
theorem dX9_init_17 : decode cX9_init 17 = .ok (.dup, 1) := by decide +kernel
theorem dX9_init_18 : decode cX9_init 18 = .ok (.invokespecial 17, 3) := by decide +kernel
theorem dX9_init_21 : decode cX9_init 21 = .ok (.putfield 18, 3) := by decide +kernel
theorem dX9_init_24 : decode cX9_init 24 = .ok (.aload_n 0, 1) := by decide +kernel
theorem dX9_init_25 : decode cX9_init 25 = .ok (.new 22, 3) := by decide +kernel
theorem dX9_init_28 : decode cX9_init 28 = .ok (.dup, 1) := by decide +kernel
theorem dX9_init_29 : decode cX9_init 29 = .ok (.invokespecial 24, 3) := by decide +kernel
theorem dX9_init_32 : decode cX9_init 32 = .ok (.putfield 25, 3) := by decide +kernel
theorem dX9_init_35 : decode cX9_init 35 = .ok (.aload_n 0, 1) := by decide +kernel
theorem dX9_init_36 : decode cX9_init 36 = .ok (.new 29, 3) := by decide +kernel
theorem dX9_init_39 : decode cX9_init 39 = .ok (.dup, 1) := by decide +kernel
theorem dX9_init_40 : decode cX9_init 40 = .ok (.aload_n 0, 1) := by decide +kernel
theorem dX9_init_41 : decode cX9_init 41 = .ok (.getfield 18, 3) := by decide +kernel
theorem dX9_init_44 : decode cX9_init 44 = .ok (.invokespecial 31, 3) := by decide +kernel
theorem dX9_init_47 : decode cX9_init 47 = .ok (.putfield 34, 3) := by decide +kernel
theorem dX9_init_50 : decode cX9_init 50 = .ok (.aload_n 0, 1) := by decide +kernel
theorem dX9_init_51 : decode cX9_init 51 = .ok (.new 29, 3) := by decide +kernel
theorem dX9_init_54 : decode cX9_init 54 = .ok (.dup, 1) := by decide +kernel
theorem dX9_init_55 : decode cX9_init 55 = .ok (.aload_n 0, 1) := by decide +kernel
theorem dX9_init_56 : decode cX9_init 56 = .ok (.getfield 18, 3) := by decide +kernel
theorem dX9_init_59 : decode cX9_init 59 = .ok (.invokespecial 31, 3) := by decide +kernel
theorem dX9_init_62 : decode cX9_init 62 = .ok (.putfield 38, 3) := by decide +kernel
theorem dX9_init_65 : decode cX9_init 65 = .ok (.aload_n 0, 1) := by decide +kernel
theorem dX9_init_66 : decode cX9_init 66 = .ok (.new 29, 3) := by decide +kernel
theorem dX9_init_69 : decode cX9_init 69 = .ok (.dup, 1) := by decide +kernel
theorem dX9_init_70 : decode cX9_init 70 = .ok (.aload_n 0, 1) := by decide +kernel
theorem dX9_init_71 : decode cX9_init 71 = .ok (.getfield 18, 3) := by decide +kernel
theorem dX9_init_74 : decode cX9_init 74 = .ok (.invokespecial 31, 3) := by decide +kernel
theorem dX9_init_77 : decode cX9_init 77 = .ok (.putfield 41, 3) := by decide +kernel
theorem dX9_init_80 : decode cX9_init 80 = .ok (.aload_n 0, 1) := by decide +kernel
theorem dX9_init_81 : decode cX9_init 81 = .ok (.new 44, 3) := by decide +kernel
theorem dX9_init_84 : decode cX9_init 84 = .ok (.dup, 1) := by decide +kernel
theorem dX9_init_85 : decode cX9_init 85 = .ok (.invokespecial 46, 3) := by decide +kernel
theorem dX9_init_88 : decode cX9_init 88 = .ok (.putfield 47, 3) := by decide +kernel
theorem dX9_init_91 : decode cX9_init 91 = .ok (.aload_n 0, 1) := by decide +kernel
theorem dX9_init_92 : decode cX9_init 92 = .ok (.new 44, 3) := by decide +kernel
theorem dX9_init_95 : decode cX9_init 95 = .ok (.dup, 1) := by decide +kernel
theorem dX9_init_96 : decode cX9_init 96 = .ok (.invokespecial 46, 3) := by decide +kernel
theorem dX9_init_99 : decode cX9_init 99 = .ok (.putfield 51, 3) := by decide +kernel
theorem dX9_init_102 : decode cX9_init 102 = .ok (.aload_n 0, 1) := by decide +kernel
theorem dX9_init_103 : decode cX9_init 103 = .ok (.new 54, 3) := by decide +kernel
theorem dX9_init_106 : decode cX9_init 106 = .ok (.dup, 1) := by decide +kernel
theorem dX9_init_107 : decode cX9_init 107 = .ok (.invokespecial 56, 3) := by decide +kernel
theorem dX9_init_110 : decode cX9_init 110 = .ok (.putfield 57, 3) := by decide +kernel
theorem dX9_init_113 : decode cX9_init 113 = .ok (.aload_n 0, 1) := by decide +kernel
theorem dX9_init_114 : decode cX9_init 114 = .ok (.bipush 6, 2) := by decide +kernel
theorem dX9_init_116 : decode cX9_init 116 = .ok (.anewarray 61, 3) := by decide +kernel
theorem dX9_init_119 : decode cX9_init 119 = .ok (.putfield 63, 3) := by decide +kernel
theorem dX9_init_122 : decode cX9_init 122 = .ok (.aload_n 0, 1) := by decide +kernel
theorem dX9_init_123 : decode cX9_init 123 = .ok (.iconst 0, 1) := by decide +kernel
theorem dX9_init_124 : decode cX9_init 124 = .ok (.putfield 67, 3) := by decide +kernel
theorem dX9_init_127 : decode cX9_init 127 = .ok (.aload_n 0, 1) := by decide +kernel
theorem dX9_init_128 : decode cX9_init 128 = .ok (.iconst 0, 1) := by decide +kernel
theorem dX9_init_129 : decode cX9_init 129 = .ok (.putfield 71, 3) := by decide +kernel
theorem dX9_init_132 : decode cX9_init 132 = .ok (.iconst 0, 1) := by decide +kernel
theorem dX9_init_133 : decode cX9_init 133 = .ok (.istore_n 1, 1) := by decide +kernel
theorem dX9_init_134 : decode cX9_init 134 = .ok (.iload_n 1, 1) := by decide +kernel
theorem dX9_init_135 : decode cX9_init 135 = .ok (.aload_n 0, 1) := by decide +kernel
theorem dX9_init_136 : decode cX9_init 136 = .ok (.getfield 13, 3) := by decide +kernel
theorem dX9_init_139 : decode cX9_init 139 = .ok (.arraylength, 1) := by decide +kernel
theorem dX9_init_140 : decode cX9_init 140 = .ok (.if_icmp .ge 22, 3) := by decide +kernel
theorem dX9_init_143 : decode cX9_init 143 = .ok (.aload_n 0, 1) := by decide +kernel
theorem dX9_init_144 : decode cX9_init 144 = .ok (.getfield 13, 3) := by decide +kernel
theorem dX9_init_147 : decode cX9_init 147 = .ok (.iload_n 1, 1) := by decide +kernel
theorem dX9_init_148 : decode cX9_init 148 = .ok (.new 11, 3) := by decide +kernel
theorem dX9_init_151 : decode cX9_init 151 = .ok (.dup, 1) := by decide +kernel
theorem dX9_init_152 : decode cX9_init 152 = .ok (.invokespecial 17, 3) := by decide +kernel
theorem dX9_init_155 : decode cX9_init 155 = .ok (.aastore, 1) := by decide +kernel
theorem dX9_init_156 : decode cX9_init 156 = .ok (.iinc 1 1, 3) := by decide +kernel
theorem dX9_init_159 : decode cX9_init 159 = .ok (.goto (-25), 3) := by decide +kernel
theorem dX9_init_162 : decode cX9_init 162 = .ok (.iconst 0, 1) := by decide +kernel
theorem dX9_init_163 : decode cX9_init 163 = .ok (.istore_n 1, 1) := by decide +kernel
theorem dX9_init_164 : decode cX9_init 164 = .ok (.iload_n 1, 1) := by decide +kernel
theorem dX9_init_165 : decode cX9_init 165 = .ok (.aload_n 0, 1) := by decide +kernel
theorem dX9_init_166 : decode cX9_init 166 = .ok (.getfield 63, 3) := by decide +kernel
theorem dX9_init_169 : decode cX9_init 169 = .ok (.arraylength, 1) := by decide +kernel
theorem dX9_init_170 : decode cX9_init 170 = .ok (.if_icmp .ge 22, 3) := by decide +kernel
theorem dX9_init_173 : decode cX9_init 173 = .ok (.aload_n 0, 1) := by decide +kernel
theorem dX9_init_174 : decode cX9_init 174 = .ok (.getfield 63, 3) := by decide +kernel
theorem dX9_init_177 : decode cX9_init 177 = .ok (.iload_n 1, 1) := by decide +kernel
theorem dX9_init_178 : decode cX9_init 178 = .ok (.new 61, 3) := by decide +kernel
theorem dX9_init_181 : decode cX9_init 181 = .ok (.dup, 1) := by decide +kernel
theorem dX9_init_182 : decode cX9_init 182 = .ok (.invokespecial 75, 3) := by decide +kernel
theorem dX9_init_185 : decode cX9_init 185 = .ok (.aastore, 1) := by decide +kernel
theorem dX9_init_186 : decode cX9_init 186 = .ok (.iinc 1 1, 3) := by decide +kernel
theorem dX9_init_189 : decode cX9_init 189 = .ok (.goto (-25), 3) := by decide +kernel
theorem dX9_init_192 : decode cX9_init 192 = .ok (.return_, 1) := by decide +kernel
theorem dX9_wearer_0 : decode cX9_wearer 0 = .ok (.iload_n 1, 1) := by decide +kernel
theorem dX9_wearer_1 : decode cX9_wearer 1 = .ok (.bipush 6, 2) := by decide +kernel
theorem dX9_wearer_3 : decode cX9_wearer 3 = .ok (.invokestatic 76, 3) := by decide +kernel
theorem dX9_wearer_6 : decode cX9_wearer 6 = .ok (.ifCond .eq 5, 3) := by decide +kernel
theorem dX9_wearer_9 : decode cX9_wearer 9 = .ok (.iconst (-1), 1) := by decide +kernel
theorem dX9_wearer_10 : decode cX9_wearer 10 = .ok (.ireturn, 1) := by decide +kernel
theorem dX9_wearer_11 : decode cX9_wearer 11 = .ok (.iload_n 2, 1) := by decide +kernel
theorem dX9_wearer_12 : decode cX9_wearer 12 = .ok (.bipush 9, 2) := by decide +kernel
theorem dX9_wearer_14 : decode cX9_wearer 14 = .ok (.invokestatic 76, 3) := by decide +kernel
theorem dX9_wearer_17 : decode cX9_wearer 17 = .ok (.ifCond .ne 12, 3) := by decide +kernel
theorem dX9_wearer_20 : decode cX9_wearer 20 = .ok (.iload_n 3, 1) := by decide +kernel
theorem dX9_wearer_21 : decode cX9_wearer 21 = .ok (.bipush 99, 2) := by decide +kernel
theorem dX9_wearer_23 : decode cX9_wearer 23 = .ok (.invokestatic 76, 3) := by decide +kernel
theorem dX9_wearer_26 : decode cX9_wearer 26 = .ok (.ifCond .eq 6, 3) := by decide +kernel
theorem dX9_wearer_29 : decode cX9_wearer 29 = .ok (.bipush (-2), 2) := by decide +kernel
theorem dX9_wearer_31 : decode cX9_wearer 31 = .ok (.ireturn, 1) := by decide +kernel
theorem dX9_wearer_32 : decode cX9_wearer 32 = .ok (.aload_n 0, 1) := by decide +kernel
theorem dX9_wearer_33 : decode cX9_wearer 33 = .ok (.getfield 34, 3) := by decide +kernel
theorem dX9_wearer_36 : decode cX9_wearer 36 = .ok (.iload_n 1, 1) := by decide +kernel
theorem dX9_wearer_37 : decode cX9_wearer 37 = .ok (.iload_n 2, 1) := by decide +kernel
theorem dX9_wearer_38 : decode cX9_wearer 38 = .ok (.iload_n 3, 1) := by decide +kernel
theorem dX9_wearer_39 : decode cX9_wearer 39 = .ok (.invokevirtual 80, 3) := by decide +kernel
theorem dX9_wearer_42 : decode cX9_wearer 42 = .ok (.ireturn, 1) := by decide +kernel
theorem dX9_of_0 : decode cX9_of 0 = .ok (.aload_n 0, 1) := by decide +kernel
theorem dX9_of_1 : decode cX9_of 1 = .ok (.getfield 34, 3) := by decide +kernel
theorem dX9_of_4 : decode cX9_of 4 = .ok (.iload_n 1, 1) := by decide +kernel
theorem dX9_of_5 : decode cX9_of 5 = .ok (.invokevirtual 84, 3) := by decide +kernel
theorem dX9_of_8 : decode cX9_of 8 = .ok (.ifCond .ne 7, 3) := by decide +kernel
theorem dX9_of_11 : decode cX9_of 11 = .ok (.sipush (-10001), 3) := by decide +kernel
theorem dX9_of_14 : decode cX9_of 14 = .ok (.ireturn, 1) := by decide +kernel
theorem dX9_of_15 : decode cX9_of 15 = .ok (.aload_n 0, 1) := by decide +kernel
theorem dX9_of_16 : decode cX9_of 16 = .ok (.getfield 34, 3) := by decide +kernel
theorem dX9_of_19 : decode cX9_of 19 = .ok (.getfield 88, 3) := by decide +kernel
theorem dX9_of_22 : decode cX9_of 22 = .ok (.iload_n 1, 1) := by decide +kernel
theorem dX9_of_23 : decode cX9_of 23 = .ok (.aaload, 1) := by decide +kernel
theorem dX9_of_24 : decode cX9_of 24 = .ok (.astore_n 3, 1) := by decide +kernel
theorem dX9_of_25 : decode cX9_of 25 = .ok (.iload_n 2, 1) := by decide +kernel
theorem dX9_of_26 : decode cX9_of 26 = .ok (.tableswitch 93 0 7 #[46, 51, 56, 61, 66, 71, 77, 85], 46) := by decide +kernel
theorem dX9_of_72 : decode cX9_of 72 = .ok (.aload_n 3, 1) := by decide +kernel
theorem dX9_of_73 : decode cX9_of 73 = .ok (.getfield 92, 3) := by decide +kernel
theorem dX9_of_76 : decode cX9_of 76 = .ok (.ireturn, 1) := by decide +kernel
theorem dX9_of_77 : decode cX9_of 77 = .ok (.aload_n 3, 1) := by decide +kernel
theorem dX9_of_78 : decode cX9_of 78 = .ok (.getfield 97, 3) := by decide +kernel
theorem dX9_of_81 : decode cX9_of 81 = .ok (.ireturn, 1) := by decide +kernel
theorem dX9_of_82 : decode cX9_of 82 = .ok (.aload_n 3, 1) := by decide +kernel
theorem dX9_of_83 : decode cX9_of 83 = .ok (.getfield 100, 3) := by decide +kernel
theorem dX9_of_86 : decode cX9_of 86 = .ok (.ireturn, 1) := by decide +kernel
theorem dX9_of_87 : decode cX9_of 87 = .ok (.aload_n 3, 1) := by decide +kernel
theorem dX9_of_88 : decode cX9_of 88 = .ok (.getfield 103, 3) := by decide +kernel
theorem dX9_of_91 : decode cX9_of 91 = .ok (.ireturn, 1) := by decide +kernel
theorem dX9_of_92 : decode cX9_of 92 = .ok (.aload_n 3, 1) := by decide +kernel
theorem dX9_of_93 : decode cX9_of 93 = .ok (.getfield 106, 3) := by decide +kernel
theorem dX9_of_96 : decode cX9_of 96 = .ok (.ireturn, 1) := by decide +kernel
theorem dX9_of_97 : decode cX9_of 97 = .ok (.aload_n 0, 1) := by decide +kernel
theorem dX9_of_98 : decode cX9_of 98 = .ok (.iload_n 1, 1) := by decide +kernel
theorem dX9_of_99 : decode cX9_of 99 = .ok (.invokevirtual 109, 3) := by decide +kernel
theorem dX9_of_102 : decode cX9_of 102 = .ok (.ireturn, 1) := by decide +kernel
theorem dX9_of_103 : decode cX9_of 103 = .ok (.aload_n 0, 1) := by decide +kernel
theorem dX9_of_104 : decode cX9_of 104 = .ok (.iconst 1, 1) := by decide +kernel
theorem dX9_of_105 : decode cX9_of 105 = .ok (.iload_n 1, 1) := by decide +kernel
theorem dX9_of_106 : decode cX9_of 106 = .ok (.iconst 0, 1) := by decide +kernel
theorem dX9_of_107 : decode cX9_of 107 = .ok (.invokevirtual 113, 3) := by decide +kernel
theorem dX9_of_110 : decode cX9_of 110 = .ok (.ireturn, 1) := by decide +kernel
theorem dX9_of_111 : decode cX9_of 111 = .ok (.aload_n 0, 1) := by decide +kernel
theorem dX9_of_112 : decode cX9_of 112 = .ok (.iconst 1, 1) := by decide +kernel
theorem dX9_of_113 : decode cX9_of 113 = .ok (.iload_n 1, 1) := by decide +kernel
theorem dX9_of_114 : decode cX9_of 114 = .ok (.iconst 1, 1) := by decide +kernel
theorem dX9_of_115 : decode cX9_of 115 = .ok (.invokevirtual 113, 3) := by decide +kernel
theorem dX9_of_118 : decode cX9_of 118 = .ok (.ireturn, 1) := by decide +kernel
theorem dX9_of_119 : decode cX9_of 119 = .ok (.iload_n 2, 1) := by decide +kernel
theorem dX9_of_120 : decode cX9_of 120 = .ok (.bipush 10, 2) := by decide +kernel
theorem dX9_of_122 : decode cX9_of 122 = .ok (.isub, 1) := by decide +kernel
theorem dX9_of_123 : decode cX9_of 123 = .ok (.istore 4, 2) := by decide +kernel
theorem dX9_of_125 : decode cX9_of 125 = .ok (.aload_n 0, 1) := by decide +kernel
theorem dX9_of_126 : decode cX9_of 126 = .ok (.getfield 34, 3) := by decide +kernel
theorem dX9_of_129 : decode cX9_of 129 = .ok (.iload 4, 2) := by decide +kernel
theorem dX9_of_131 : decode cX9_of 131 = .ok (.invokevirtual 117, 3) := by decide +kernel
theorem dX9_of_134 : decode cX9_of 134 = .ok (.ifCond .eq 16, 3) := by decide +kernel
theorem dX9_of_137 : decode cX9_of 137 = .ok (.aload_n 0, 1) := by decide +kernel
theorem dX9_of_138 : decode cX9_of 138 = .ok (.getfield 34, 3) := by decide +kernel
theorem dX9_of_141 : decode cX9_of 141 = .ok (.aload_n 3, 1) := by decide +kernel
theorem dX9_of_142 : decode cX9_of 142 = .ok (.iload 4, 2) := by decide +kernel
theorem dX9_of_144 : decode cX9_of 144 = .ok (.invokevirtual 120, 3) := by decide +kernel
theorem dX9_of_147 : decode cX9_of 147 = .ok (.goto 6, 3) := by decide +kernel
theorem dX9_of_150 : decode cX9_of 150 = .ok (.sipush (-10001), 3) := by decide +kernel
theorem dX9_of_153 : decode cX9_of 153 = .ok (.ireturn, 1) := by decide +kernel
theorem dX9_saying_0 : decode cX9_saying 0 = .ok (.iload_n 1, 1) := by decide +kernel
theorem dX9_saying_1 : decode cX9_saying 1 = .ok (.bipush 60, 2) := by decide +kernel
theorem dX9_saying_3 : decode cX9_saying 3 = .ok (.invokestatic 76, 3) := by decide +kernel
theorem dX9_saying_6 : decode cX9_saying 6 = .ok (.ifCond .ne 14, 3) := by decide +kernel
theorem dX9_saying_9 : decode cX9_saying 9 = .ok (.iload_n 2, 1) := by decide +kernel
theorem dX9_saying_10 : decode cX9_saying 10 = .ok (.iconst 1, 1) := by decide +kernel
theorem dX9_saying_11 : decode cX9_saying 11 = .ok (.if_icmp .lt 9, 3) := by decide +kernel
theorem dX9_saying_14 : decode cX9_saying 14 = .ok (.iload_n 2, 1) := by decide +kernel
theorem dX9_saying_15 : decode cX9_saying 15 = .ok (.bipush 9, 2) := by decide +kernel
theorem dX9_saying_17 : decode cX9_saying 17 = .ok (.if_icmp .le 6, 3) := by decide +kernel
theorem dX9_saying_20 : decode cX9_saying 20 = .ok (.bipush (-2), 2) := by decide +kernel
theorem dX9_saying_22 : decode cX9_saying 22 = .ok (.ireturn, 1) := by decide +kernel
theorem dX9_saying_23 : decode cX9_saying 23 = .ok (.aload_n 0, 1) := by decide +kernel
theorem dX9_saying_24 : decode cX9_saying 24 = .ok (.getfield 34, 3) := by decide +kernel
theorem dX9_saying_27 : decode cX9_saying 27 = .ok (.iload_n 1, 1) := by decide +kernel
theorem dX9_saying_28 : decode cX9_saying 28 = .ok (.iload_n 2, 1) := by decide +kernel
theorem dX9_saying_29 : decode cX9_saying 29 = .ok (.invokevirtual 124, 3) := by decide +kernel
theorem dX9_saying_32 : decode cX9_saying 32 = .ok (.ireturn, 1) := by decide +kernel
theorem dX9_phrase_0 : decode cX9_phrase 0 = .ok (.aload_n 0, 1) := by decide +kernel
theorem dX9_phrase_1 : decode cX9_phrase 1 = .ok (.getfield 34, 3) := by decide +kernel
theorem dX9_phrase_4 : decode cX9_phrase 4 = .ok (.iload_n 1, 1) := by decide +kernel
theorem dX9_phrase_5 : decode cX9_phrase 5 = .ok (.invokevirtual 117, 3) := by decide +kernel
theorem dX9_phrase_8 : decode cX9_phrase 8 = .ok (.ifCond .ne 5, 3) := by decide +kernel
theorem dX9_phrase_11 : decode cX9_phrase 11 = .ok (.iconst (-1), 1) := by decide +kernel
theorem dX9_phrase_12 : decode cX9_phrase 12 = .ok (.ireturn, 1) := by decide +kernel
theorem dX9_phrase_13 : decode cX9_phrase 13 = .ok (.aload_n 0, 1) := by decide +kernel
theorem dX9_phrase_14 : decode cX9_phrase 14 = .ok (.getfield 34, 3) := by decide +kernel
theorem dX9_phrase_17 : decode cX9_phrase 17 = .ok (.getfield 128, 3) := by decide +kernel
theorem dX9_phrase_20 : decode cX9_phrase 20 = .ok (.iload_n 1, 1) := by decide +kernel
theorem dX9_phrase_21 : decode cX9_phrase 21 = .ok (.aaload, 1) := by decide +kernel
theorem dX9_phrase_22 : decode cX9_phrase 22 = .ok (.astore_n 3, 1) := by decide +kernel
theorem dX9_phrase_23 : decode cX9_phrase 23 = .ok (.iload_n 2, 1) := by decide +kernel
theorem dX9_phrase_24 : decode cX9_phrase 24 = .ok (.tableswitch 43 0 2 #[28, 33, 38], 28) := by decide +kernel
theorem dX9_phrase_52 : decode cX9_phrase 52 = .ok (.aload_n 3, 1) := by decide +kernel
theorem dX9_phrase_53 : decode cX9_phrase 53 = .ok (.getfield 132, 3) := by decide +kernel
theorem dX9_phrase_56 : decode cX9_phrase 56 = .ok (.ireturn, 1) := by decide +kernel
theorem dX9_phrase_57 : decode cX9_phrase 57 = .ok (.aload_n 3, 1) := by decide +kernel
theorem dX9_phrase_58 : decode cX9_phrase 58 = .ok (.getfield 137, 3) := by decide +kernel
theorem dX9_phrase_61 : decode cX9_phrase 61 = .ok (.ireturn, 1) := by decide +kernel
theorem dX9_phrase_62 : decode cX9_phrase 62 = .ok (.aload_n 3, 1) := by decide +kernel
theorem dX9_phrase_63 : decode cX9_phrase 63 = .ok (.getfield 140, 3) := by decide +kernel
theorem dX9_phrase_66 : decode cX9_phrase 66 = .ok (.ireturn, 1) := by decide +kernel
theorem dX9_phrase_67 : decode cX9_phrase 67 = .ok (.iconst (-1), 1) := by decide +kernel
theorem dX9_phrase_68 : decode cX9_phrase 68 = .ok (.ireturn, 1) := by decide +kernel
theorem dX9_aim_0 : decode cX9_aim 0 = .ok (.aload_n 0, 1) := by decide +kernel
theorem dX9_aim_1 : decode cX9_aim 1 = .ok (.getfield 34, 3) := by decide +kernel
theorem dX9_aim_4 : decode cX9_aim 4 = .ok (.iload_n 1, 1) := by decide +kernel
theorem dX9_aim_5 : decode cX9_aim 5 = .ok (.invokevirtual 117, 3) := by decide +kernel
theorem dX9_aim_8 : decode cX9_aim 8 = .ok (.ifCond .eq 19, 3) := by decide +kernel
theorem dX9_aim_11 : decode cX9_aim 11 = .ok (.iload_n 2, 1) := by decide +kernel
theorem dX9_aim_12 : decode cX9_aim 12 = .ok (.iconst (-1), 1) := by decide +kernel
theorem dX9_aim_13 : decode cX9_aim 13 = .ok (.if_icmp .eq 16, 3) := by decide +kernel
theorem dX9_aim_16 : decode cX9_aim 16 = .ok (.aload_n 0, 1) := by decide +kernel
theorem dX9_aim_17 : decode cX9_aim 17 = .ok (.getfield 34, 3) := by decide +kernel
theorem dX9_aim_20 : decode cX9_aim 20 = .ok (.iload_n 2, 1) := by decide +kernel
theorem dX9_aim_21 : decode cX9_aim 21 = .ok (.invokevirtual 84, 3) := by decide +kernel
theorem dX9_aim_24 : decode cX9_aim 24 = .ok (.ifCond .ne 5, 3) := by decide +kernel
theorem dX9_aim_27 : decode cX9_aim 27 = .ok (.iconst (-1), 1) := by decide +kernel
theorem dX9_aim_28 : decode cX9_aim 28 = .ok (.ireturn, 1) := by decide +kernel
theorem dX9_aim_29 : decode cX9_aim 29 = .ok (.aload_n 0, 1) := by decide +kernel
theorem dX9_aim_30 : decode cX9_aim 30 = .ok (.getfield 34, 3) := by decide +kernel
theorem dX9_aim_33 : decode cX9_aim 33 = .ok (.getfield 128, 3) := by decide +kernel
theorem dX9_aim_36 : decode cX9_aim 36 = .ok (.iload_n 1, 1) := by decide +kernel
theorem dX9_aim_37 : decode cX9_aim 37 = .ok (.aaload, 1) := by decide +kernel
theorem dX9_aim_38 : decode cX9_aim 38 = .ok (.astore_n 3, 1) := by decide +kernel
theorem dX9_aim_39 : decode cX9_aim 39 = .ok (.aload_n 3, 1) := by decide +kernel
theorem dX9_aim_40 : decode cX9_aim 40 = .ok (.getfield 140, 3) := by decide +kernel
theorem dX9_aim_43 : decode cX9_aim 43 = .ok (.istore 4, 2) := by decide +kernel
theorem dX9_aim_45 : decode cX9_aim 45 = .ok (.aload_n 3, 1) := by decide +kernel
theorem dX9_aim_46 : decode cX9_aim 46 = .ok (.iload_n 2, 1) := by decide +kernel
theorem dX9_aim_47 : decode cX9_aim 47 = .ok (.iconst (-1), 1) := by decide +kernel
theorem dX9_aim_48 : decode cX9_aim 48 = .ok (.if_icmp .ne 8, 3) := by decide +kernel
theorem dX9_aim_51 : decode cX9_aim 51 = .ok (.bipush (-5), 2) := by decide +kernel
theorem dX9_aim_53 : decode cX9_aim 53 = .ok (.goto 4, 3) := by decide +kernel
theorem dX9_aim_56 : decode cX9_aim 56 = .ok (.iload_n 2, 1) := by decide +kernel
theorem dX9_aim_57 : decode cX9_aim 57 = .ok (.putfield 140, 3) := by decide +kernel
theorem dX9_aim_60 : decode cX9_aim 60 = .ok (.iload 4, 2) := by decide +kernel
theorem dX9_aim_62 : decode cX9_aim 62 = .ok (.ireturn, 1) := by decide +kernel
theorem dX9_mend_0 : decode cX9_mend 0 = .ok (.aload_n 0, 1) := by decide +kernel
theorem dX9_mend_1 : decode cX9_mend 1 = .ok (.getfield 34, 3) := by decide +kernel
theorem dX9_mend_4 : decode cX9_mend 4 = .ok (.iload_n 1, 1) := by decide +kernel
theorem dX9_mend_5 : decode cX9_mend 5 = .ok (.invokevirtual 84, 3) := by decide +kernel
theorem dX9_mend_8 : decode cX9_mend 8 = .ok (.ifCond .ne 5, 3) := by decide +kernel
theorem dX9_mend_11 : decode cX9_mend 11 = .ok (.iconst (-1), 1) := by decide +kernel
theorem dX9_mend_12 : decode cX9_mend 12 = .ok (.ireturn, 1) := by decide +kernel
theorem dX9_mend_13 : decode cX9_mend 13 = .ok (.iload_n 2, 1) := by decide +kernel
theorem dX9_mend_14 : decode cX9_mend 14 = .ok (.bipush 99, 2) := by decide +kernel
theorem dX9_mend_16 : decode cX9_mend 16 = .ok (.invokestatic 76, 3) := by decide +kernel
theorem dX9_mend_19 : decode cX9_mend 19 = .ok (.ifCond .eq 6, 3) := by decide +kernel
theorem dX9_mend_22 : decode cX9_mend 22 = .ok (.bipush (-2), 2) := by decide +kernel
theorem dX9_mend_24 : decode cX9_mend 24 = .ok (.ireturn, 1) := by decide +kernel
theorem dX9_mend_25 : decode cX9_mend 25 = .ok (.aload_n 0, 1) := by decide +kernel
theorem dX9_mend_26 : decode cX9_mend 26 = .ok (.getfield 34, 3) := by decide +kernel
theorem dX9_mend_29 : decode cX9_mend 29 = .ok (.getfield 88, 3) := by decide +kernel
theorem dX9_mend_32 : decode cX9_mend 32 = .ok (.iload_n 1, 1) := by decide +kernel
theorem dX9_mend_33 : decode cX9_mend 33 = .ok (.aaload, 1) := by decide +kernel
theorem dX9_mend_34 : decode cX9_mend 34 = .ok (.astore_n 3, 1) := by decide +kernel
theorem dX9_mend_35 : decode cX9_mend 35 = .ok (.aload_n 3, 1) := by decide +kernel
theorem dX9_mend_36 : decode cX9_mend 36 = .ok (.getfield 100, 3) := by decide +kernel
theorem dX9_mend_39 : decode cX9_mend 39 = .ok (.istore 4, 2) := by decide +kernel
theorem dX9_mend_41 : decode cX9_mend 41 = .ok (.aload_n 3, 1) := by decide +kernel
theorem dX9_mend_42 : decode cX9_mend 42 = .ok (.iload_n 2, 1) := by decide +kernel
theorem dX9_mend_43 : decode cX9_mend 43 = .ok (.putfield 100, 3) := by decide +kernel
theorem dX9_mend_46 : decode cX9_mend 46 = .ok (.iload 4, 2) := by decide +kernel
theorem dX9_mend_48 : decode cX9_mend 48 = .ok (.ireturn, 1) := by decide +kernel
theorem dX9_row_0 : decode cX9_row 0 = .ok (.aload_n 0, 1) := by decide +kernel
theorem dX9_row_1 : decode cX9_row 1 = .ok (.getfield 34, 3) := by decide +kernel
theorem dX9_row_4 : decode cX9_row 4 = .ok (.iload_n 1, 1) := by decide +kernel
theorem dX9_row_5 : decode cX9_row 5 = .ok (.invokevirtual 84, 3) := by decide +kernel
theorem dX9_row_8 : decode cX9_row 8 = .ok (.ifCond .eq 11, 3) := by decide +kernel
theorem dX9_row_11 : decode cX9_row 11 = .ok (.iload_n 2, 1) := by decide +kernel
theorem dX9_row_12 : decode cX9_row 12 = .ok (.iconst 3, 1) := by decide +kernel
theorem dX9_row_13 : decode cX9_row 13 = .ok (.invokestatic 76, 3) := by decide +kernel
theorem dX9_row_16 : decode cX9_row 16 = .ok (.ifCond .eq 5, 3) := by decide +kernel
theorem dX9_row_19 : decode cX9_row 19 = .ok (.iconst (-1), 1) := by decide +kernel
theorem dX9_row_20 : decode cX9_row 20 = .ok (.ireturn, 1) := by decide +kernel
theorem dX9_row_21 : decode cX9_row 21 = .ok (.iload_n 3, 1) := by decide +kernel
theorem dX9_row_22 : decode cX9_row 22 = .ok (.bipush 9, 2) := by decide +kernel
theorem dX9_row_24 : decode cX9_row 24 = .ok (.invokestatic 76, 3) := by decide +kernel
theorem dX9_row_27 : decode cX9_row 27 = .ok (.ifCond .eq 6, 3) := by decide +kernel
theorem dX9_row_30 : decode cX9_row 30 = .ok (.bipush (-2), 2) := by decide +kernel
theorem dX9_row_32 : decode cX9_row 32 = .ok (.ireturn, 1) := by decide +kernel
theorem dX9_row_33 : decode cX9_row 33 = .ok (.aload_n 0, 1) := by decide +kernel
theorem dX9_row_34 : decode cX9_row 34 = .ok (.getfield 34, 3) := by decide +kernel
theorem dX9_row_37 : decode cX9_row 37 = .ok (.getfield 88, 3) := by decide +kernel
theorem dX9_row_40 : decode cX9_row 40 = .ok (.iload_n 1, 1) := by decide +kernel
theorem dX9_row_41 : decode cX9_row 41 = .ok (.aaload, 1) := by decide +kernel
theorem dX9_row_42 : decode cX9_row 42 = .ok (.astore 4, 2) := by decide +kernel
theorem dX9_row_44 : decode cX9_row 44 = .ok (.aload 4, 2) := by decide +kernel
theorem dX9_row_46 : decode cX9_row 46 = .ok (.getfield 92, 3) := by decide +kernel
theorem dX9_row_49 : decode cX9_row 49 = .ok (.bipush 6, 2) := by decide +kernel
theorem dX9_row_51 : decode cX9_row 51 = .ok (.if_icmp .eq 6, 3) := by decide +kernel
theorem dX9_row_54 : decode cX9_row 54 = .ok (.bipush (-3), 2) := by decide +kernel
theorem dX9_row_56 : decode cX9_row 56 = .ok (.ireturn, 1) := by decide +kernel
theorem dX9_row_57 : decode cX9_row 57 = .ok (.aload 4, 2) := by decide +kernel
theorem dX9_row_59 : decode cX9_row 59 = .ok (.getfield 143, 3) := by decide +kernel
theorem dX9_row_62 : decode cX9_row 62 = .ok (.iload_n 2, 1) := by decide +kernel
theorem dX9_row_63 : decode cX9_row 63 = .ok (.iaload, 1) := by decide +kernel
theorem dX9_row_64 : decode cX9_row 64 = .ok (.istore 5, 2) := by decide +kernel
theorem dX9_row_66 : decode cX9_row 66 = .ok (.aload 4, 2) := by decide +kernel
theorem dX9_row_68 : decode cX9_row 68 = .ok (.getfield 143, 3) := by decide +kernel
theorem dX9_row_71 : decode cX9_row 71 = .ok (.iload_n 2, 1) := by decide +kernel
theorem dX9_row_72 : decode cX9_row 72 = .ok (.iload_n 3, 1) := by decide +kernel
theorem dX9_row_73 : decode cX9_row 73 = .ok (.iastore, 1) := by decide +kernel
theorem dX9_row_74 : decode cX9_row 74 = .ok (.iload 5, 2) := by decide +kernel
theorem dX9_row_76 : decode cX9_row 76 = .ok (.ireturn, 1) := by decide +kernel
theorem dX9_feed_0 : decode cX9_feed 0 = .ok (.iload_n 1, 1) := by decide +kernel
theorem dX9_feed_1 : decode cX9_feed 1 = .ok (.bipush 127, 2) := by decide +kernel
theorem dX9_feed_3 : decode cX9_feed 3 = .ok (.invokestatic 76, 3) := by decide +kernel
theorem dX9_feed_6 : decode cX9_feed 6 = .ok (.ifCond .eq 6, 3) := by decide +kernel
theorem dX9_feed_9 : decode cX9_feed 9 = .ok (.bipush (-2), 2) := by decide +kernel
theorem dX9_feed_11 : decode cX9_feed 11 = .ok (.ireturn, 1) := by decide +kernel
theorem dX9_feed_12 : decode cX9_feed 12 = .ok (.aload_n 0, 1) := by decide +kernel
theorem dX9_feed_13 : decode cX9_feed 13 = .ok (.getfield 25, 3) := by decide +kernel
theorem dX9_feed_16 : decode cX9_feed 16 = .ok (.iload_n 1, 1) := by decide +kernel
theorem dX9_feed_17 : decode cX9_feed 17 = .ok (.invokevirtual 147, 3) := by decide +kernel
theorem dX9_feed_20 : decode cX9_feed 20 = .ok (.ireturn, 1) := by decide +kernel
theorem dX9_city_0 : decode cX9_city 0 = .ok (.aload_n 0, 1) := by decide +kernel
theorem dX9_city_1 : decode cX9_city 1 = .ok (.getfield 67, 3) := by decide +kernel
theorem dX9_city_4 : decode cX9_city 4 = .ok (.aload_n 0, 1) := by decide +kernel
theorem dX9_city_5 : decode cX9_city 5 = .ok (.getfield 13, 3) := by decide +kernel
theorem dX9_city_8 : decode cX9_city 8 = .ok (.arraylength, 1) := by decide +kernel
theorem dX9_city_9 : decode cX9_city 9 = .ok (.if_icmp .lt 6, 3) := by decide +kernel
theorem dX9_city_12 : decode cX9_city 12 = .ok (.bipush (-4), 2) := by decide +kernel
theorem dX9_city_14 : decode cX9_city 14 = .ok (.ireturn, 1) := by decide +kernel
theorem dX9_city_15 : decode cX9_city 15 = .ok (.aload_n 0, 1) := by decide +kernel
theorem dX9_city_16 : decode cX9_city 16 = .ok (.getfield 13, 3) := by decide +kernel
theorem dX9_city_19 : decode cX9_city 19 = .ok (.aload_n 0, 1) := by decide +kernel
theorem dX9_city_20 : decode cX9_city 20 = .ok (.getfield 67, 3) := by decide +kernel
theorem dX9_city_23 : decode cX9_city 23 = .ok (.aaload, 1) := by decide +kernel
theorem dX9_city_24 : decode cX9_city 24 = .ok (.astore_n 1, 1) := by decide +kernel
theorem dX9_city_25 : decode cX9_city 25 = .ok (.aload_n 0, 1) := by decide +kernel
theorem dX9_city_26 : decode cX9_city 26 = .ok (.getfield 25, 3) := by decide +kernel
theorem dX9_city_29 : decode cX9_city 29 = .ok (.aload_n 1, 1) := by decide +kernel
theorem dX9_city_30 : decode cX9_city 30 = .ok (.invokevirtual 150, 3) := by decide +kernel
theorem dX9_city_33 : decode cX9_city 33 = .ok (.istore_n 2, 1) := by decide +kernel
theorem dX9_city_34 : decode cX9_city 34 = .ok (.aload_n 0, 1) := by decide +kernel
theorem dX9_city_35 : decode cX9_city 35 = .ok (.getfield 25, 3) := by decide +kernel
theorem dX9_city_38 : decode cX9_city 38 = .ok (.iconst 0, 1) := by decide +kernel
theorem dX9_city_39 : decode cX9_city 39 = .ok (.putfield 154, 3) := by decide +kernel
theorem dX9_city_42 : decode cX9_city 42 = .ok (.iload_n 2, 1) := by decide +kernel
theorem dX9_city_43 : decode cX9_city 43 = .ok (.ifCond .ne 14, 3) := by decide +kernel
theorem dX9_city_46 : decode cX9_city 46 = .ok (.bipush (-10), 2) := by decide +kernel
theorem dX9_city_48 : decode cX9_city 48 = .ok (.aload_n 0, 1) := by decide +kernel
theorem dX9_city_49 : decode cX9_city 49 = .ok (.getfield 25, 3) := by decide +kernel
theorem dX9_city_52 : decode cX9_city 52 = .ok (.getfield 157, 3) := by decide +kernel
theorem dX9_city_55 : decode cX9_city 55 = .ok (.isub, 1) := by decide +kernel
theorem dX9_city_56 : decode cX9_city 56 = .ok (.ireturn, 1) := by decide +kernel
theorem dX9_city_57 : decode cX9_city 57 = .ok (.aload_n 0, 1) := by decide +kernel
theorem dX9_city_58 : decode cX9_city 58 = .ok (.getfield 34, 3) := by decide +kernel
theorem dX9_city_61 : decode cX9_city 61 = .ok (.aload_n 1, 1) := by decide +kernel
theorem dX9_city_62 : decode cX9_city 62 = .ok (.putfield 160, 3) := by decide +kernel
theorem dX9_city_65 : decode cX9_city 65 = .ok (.aload_n 0, 1) := by decide +kernel
theorem dX9_city_66 : decode cX9_city 66 = .ok (.dup, 1) := by decide +kernel
theorem dX9_city_67 : decode cX9_city 67 = .ok (.getfield 67, 3) := by decide +kernel
theorem dX9_city_70 : decode cX9_city 70 = .ok (.iconst 1, 1) := by decide +kernel
theorem dX9_city_71 : decode cX9_city 71 = .ok (.iadd, 1) := by decide +kernel
theorem dX9_city_72 : decode cX9_city 72 = .ok (.putfield 67, 3) := by decide +kernel
theorem dX9_city_75 : decode cX9_city 75 = .ok (.aload_n 0, 1) := by decide +kernel
theorem dX9_city_76 : decode cX9_city 76 = .ok (.getfield 67, 3) := by decide +kernel
theorem dX9_city_79 : decode cX9_city 79 = .ok (.iconst 1, 1) := by decide +kernel
theorem dX9_city_80 : decode cX9_city 80 = .ok (.isub, 1) := by decide +kernel
theorem dX9_city_81 : decode cX9_city 81 = .ok (.ireturn, 1) := by decide +kernel
theorem dX9_told_0 : decode cX9_told 0 = .ok (.iload_n 1, 1) := by decide +kernel
theorem dX9_told_1 : decode cX9_told 1 = .ok (.tableswitch 78 0 4 #[35, 43, 54, 62, 70], 35) := by decide +kernel
theorem dX9_told_36 : decode cX9_told 36 = .ok (.aload_n 0, 1) := by decide +kernel
theorem dX9_told_37 : decode cX9_told 37 = .ok (.getfield 34, 3) := by decide +kernel
theorem dX9_told_40 : decode cX9_told 40 = .ok (.getfield 163, 3) := by decide +kernel
theorem dX9_told_43 : decode cX9_told 43 = .ok (.ireturn, 1) := by decide +kernel
theorem dX9_told_44 : decode cX9_told 44 = .ok (.aload_n 0, 1) := by decide +kernel
theorem dX9_told_45 : decode cX9_told 45 = .ok (.getfield 34, 3) := by decide +kernel
theorem dX9_told_48 : decode cX9_told 48 = .ok (.getfield 160, 3) := by decide +kernel
theorem dX9_told_51 : decode cX9_told 51 = .ok (.getfield 166, 3) := by decide +kernel
theorem dX9_told_54 : decode cX9_told 54 = .ok (.ireturn, 1) := by decide +kernel
theorem dX9_told_55 : decode cX9_told 55 = .ok (.aload_n 0, 1) := by decide +kernel
theorem dX9_told_56 : decode cX9_told 56 = .ok (.getfield 34, 3) := by decide +kernel
theorem dX9_told_59 : decode cX9_told 59 = .ok (.invokevirtual 169, 3) := by decide +kernel
theorem dX9_told_62 : decode cX9_told 62 = .ok (.ireturn, 1) := by decide +kernel
theorem dX9_told_63 : decode cX9_told 63 = .ok (.aload_n 0, 1) := by decide +kernel
theorem dX9_told_64 : decode cX9_told 64 = .ok (.getfield 34, 3) := by decide +kernel
theorem dX9_told_67 : decode cX9_told 67 = .ok (.invokevirtual 173, 3) := by decide +kernel
theorem dX9_told_70 : decode cX9_told 70 = .ok (.ireturn, 1) := by decide +kernel
theorem dX9_told_71 : decode cX9_told 71 = .ok (.aload_n 0, 1) := by decide +kernel
theorem dX9_told_72 : decode cX9_told 72 = .ok (.getfield 34, 3) := by decide +kernel
theorem dX9_told_75 : decode cX9_told 75 = .ok (.invokevirtual 176, 3) := by decide +kernel
theorem dX9_told_78 : decode cX9_told 78 = .ok (.ireturn, 1) := by decide +kernel
theorem dX9_told_79 : decode cX9_told 79 = .ok (.iconst (-1), 1) := by decide +kernel
theorem dX9_told_80 : decode cX9_told 80 = .ok (.ireturn, 1) := by decide +kernel
theorem dX9_pass_0 : decode cX9_pass 0 = .ok (.iload_n 1, 1) := by decide +kernel
theorem dX9_pass_1 : decode cX9_pass 1 = .ok (.bipush 60, 2) := by decide +kernel
theorem dX9_pass_3 : decode cX9_pass 3 = .ok (.invokestatic 76, 3) := by decide +kernel
theorem dX9_pass_6 : decode cX9_pass 6 = .ok (.ifCond .eq 6, 3) := by decide +kernel
theorem dX9_pass_9 : decode cX9_pass 9 = .ok (.bipush (-2), 2) := by decide +kernel
theorem dX9_pass_11 : decode cX9_pass 11 = .ok (.ireturn, 1) := by decide +kernel
theorem dX9_pass_12 : decode cX9_pass 12 = .ok (.aload_n 0, 1) := by decide +kernel
theorem dX9_pass_13 : decode cX9_pass 13 = .ok (.getfield 34, 3) := by decide +kernel
theorem dX9_pass_16 : decode cX9_pass 16 = .ok (.getfield 163, 3) := by decide +kernel
theorem dX9_pass_19 : decode cX9_pass 19 = .ok (.iload_n 1, 1) := by decide +kernel
theorem dX9_pass_20 : decode cX9_pass 20 = .ok (.iadd, 1) := by decide +kernel
theorem dX9_pass_21 : decode cX9_pass 21 = .ok (.sipush 9999, 3) := by decide +kernel
theorem dX9_pass_24 : decode cX9_pass 24 = .ok (.if_icmp .le 6, 3) := by decide +kernel
theorem dX9_pass_27 : decode cX9_pass 27 = .ok (.bipush (-3), 2) := by decide +kernel
theorem dX9_pass_29 : decode cX9_pass 29 = .ok (.ireturn, 1) := by decide +kernel
theorem dX9_pass_30 : decode cX9_pass 30 = .ok (.aload_n 0, 1) := by decide +kernel
theorem dX9_pass_31 : decode cX9_pass 31 = .ok (.getfield 34, 3) := by decide +kernel
theorem dX9_pass_34 : decode cX9_pass 34 = .ok (.iload_n 1, 1) := by decide +kernel
theorem dX9_pass_35 : decode cX9_pass 35 = .ok (.iconst (-1), 1) := by decide +kernel
theorem dX9_pass_36 : decode cX9_pass 36 = .ok (.invokevirtual 179, 3) := by decide +kernel
theorem dX9_pass_39 : decode cX9_pass 39 = .ok (.aload_n 0, 1) := by decide +kernel
theorem dX9_pass_40 : decode cX9_pass 40 = .ok (.getfield 34, 3) := by decide +kernel
theorem dX9_pass_43 : decode cX9_pass 43 = .ok (.getfield 163, 3) := by decide +kernel
theorem dX9_pass_46 : decode cX9_pass 46 = .ok (.ireturn, 1) := by decide +kernel
theorem dX9_on_0 : decode cX9_on 0 = .ok (.iload_n 2, 1) := by decide +kernel
theorem dX9_on_1 : decode cX9_on 1 = .ok (.bipush 10, 2) := by decide +kernel
theorem dX9_on_3 : decode cX9_on 3 = .ok (.idiv, 1) := by decide +kernel
theorem dX9_on_4 : decode cX9_on 4 = .ok (.istore_n 3, 1) := by decide +kernel
theorem dX9_on_5 : decode cX9_on 5 = .ok (.iload_n 2, 1) := by decide +kernel
theorem dX9_on_6 : decode cX9_on 6 = .ok (.bipush 10, 2) := by decide +kernel
theorem dX9_on_8 : decode cX9_on 8 = .ok (.irem, 1) := by decide +kernel
theorem dX9_on_9 : decode cX9_on 9 = .ok (.istore 4, 2) := by decide +kernel
theorem dX9_on_11 : decode cX9_on 11 = .ok (.iload_n 2, 1) := by decide +kernel
theorem dX9_on_12 : decode cX9_on 12 = .ok (.ifCond .ne 7, 3) := by decide +kernel
theorem dX9_on_15 : decode cX9_on 15 = .ok (.iconst 1, 1) := by decide +kernel
theorem dX9_on_16 : decode cX9_on 16 = .ok (.goto 4, 3) := by decide +kernel
theorem dX9_on_19 : decode cX9_on 19 = .ok (.iconst 0, 1) := by decide +kernel
theorem dX9_on_20 : decode cX9_on 20 = .ok (.istore 5, 2) := by decide +kernel
theorem dX9_on_22 : decode cX9_on 22 = .ok (.iload 5, 2) := by decide +kernel
theorem dX9_on_24 : decode cX9_on 24 = .ok (.ifCond .ne 27, 3) := by decide +kernel
theorem dX9_on_27 : decode cX9_on 27 = .ok (.iload_n 3, 1) := by decide +kernel
theorem dX9_on_28 : decode cX9_on 28 = .ok (.iconst 1, 1) := by decide +kernel
theorem dX9_on_29 : decode cX9_on 29 = .ok (.if_icmp .lt 20, 3) := by decide +kernel
theorem dX9_on_32 : decode cX9_on 32 = .ok (.iload_n 3, 1) := by decide +kernel
theorem dX9_on_33 : decode cX9_on 33 = .ok (.iconst 3, 1) := by decide +kernel
theorem dX9_on_34 : decode cX9_on 34 = .ok (.if_icmp .gt 15, 3) := by decide +kernel
theorem dX9_on_37 : decode cX9_on 37 = .ok (.aload_n 0, 1) := by decide +kernel
theorem dX9_on_38 : decode cX9_on 38 = .ok (.getfield 34, 3) := by decide +kernel
theorem dX9_on_41 : decode cX9_on 41 = .ok (.iload 4, 2) := by decide +kernel
theorem dX9_on_43 : decode cX9_on 43 = .ok (.invokevirtual 84, 3) := by decide +kernel
theorem dX9_on_46 : decode cX9_on 46 = .ok (.ifCond .ne 5, 3) := by decide +kernel
theorem dX9_on_49 : decode cX9_on 49 = .ok (.iconst (-1), 1) := by decide +kernel
theorem dX9_on_50 : decode cX9_on 50 = .ok (.ireturn, 1) := by decide +kernel
theorem dX9_on_51 : decode cX9_on 51 = .ok (.iload_n 1, 1) := by decide +kernel
theorem dX9_on_52 : decode cX9_on 52 = .ok (.bipush 60, 2) := by decide +kernel
theorem dX9_on_54 : decode cX9_on 54 = .ok (.invokestatic 76, 3) := by decide +kernel
theorem dX9_on_57 : decode cX9_on 57 = .ok (.ifCond .eq 6, 3) := by decide +kernel
theorem dX9_on_60 : decode cX9_on 60 = .ok (.bipush (-2), 2) := by decide +kernel
theorem dX9_on_62 : decode cX9_on 62 = .ok (.ireturn, 1) := by decide +kernel
theorem dX9_on_63 : decode cX9_on 63 = .ok (.aload_n 0, 1) := by decide +kernel
theorem dX9_on_64 : decode cX9_on 64 = .ok (.getfield 38, 3) := by decide +kernel
theorem dX9_on_67 : decode cX9_on 67 = .ok (.aload_n 0, 1) := by decide +kernel
theorem dX9_on_68 : decode cX9_on 68 = .ok (.getfield 34, 3) := by decide +kernel
theorem dX9_on_71 : decode cX9_on 71 = .ok (.invokevirtual 183, 3) := by decide +kernel
theorem dX9_on_74 : decode cX9_on 74 = .ok (.aload_n 0, 1) := by decide +kernel
theorem dX9_on_75 : decode cX9_on 75 = .ok (.getfield 38, 3) := by decide +kernel
theorem dX9_on_78 : decode cX9_on 78 = .ok (.iload_n 1, 1) := by decide +kernel
theorem dX9_on_79 : decode cX9_on 79 = .ok (.iconst (-1), 1) := by decide +kernel
theorem dX9_on_80 : decode cX9_on 80 = .ok (.invokevirtual 179, 3) := by decide +kernel
theorem dX9_on_83 : decode cX9_on 83 = .ok (.iload 5, 2) := by decide +kernel
theorem dX9_on_85 : decode cX9_on 85 = .ok (.ifCond .eq 11, 3) := by decide +kernel
theorem dX9_on_88 : decode cX9_on 88 = .ok (.aload_n 0, 1) := by decide +kernel
theorem dX9_on_89 : decode cX9_on 89 = .ok (.getfield 38, 3) := by decide +kernel
theorem dX9_on_92 : decode cX9_on 92 = .ok (.invokevirtual 169, 3) := by decide +kernel
theorem dX9_on_95 : decode cX9_on 95 = .ok (.ireturn, 1) := by decide +kernel
theorem dX9_on_96 : decode cX9_on 96 = .ok (.aload_n 0, 1) := by decide +kernel
theorem dX9_on_97 : decode cX9_on 97 = .ok (.getfield 38, 3) := by decide +kernel
theorem dX9_on_100 : decode cX9_on 100 = .ok (.getfield 88, 3) := by decide +kernel
theorem dX9_on_103 : decode cX9_on 103 = .ok (.iload 4, 2) := by decide +kernel
theorem dX9_on_105 : decode cX9_on 105 = .ok (.aaload, 1) := by decide +kernel
theorem dX9_on_106 : decode cX9_on 106 = .ok (.astore 6, 2) := by decide +kernel
theorem dX9_on_108 : decode cX9_on 108 = .ok (.iload_n 3, 1) := by decide +kernel
theorem dX9_on_109 : decode cX9_on 109 = .ok (.iconst 1, 1) := by decide +kernel
theorem dX9_on_110 : decode cX9_on 110 = .ok (.if_icmp .ne 11, 3) := by decide +kernel
theorem dX9_on_113 : decode cX9_on 113 = .ok (.aload 6, 2) := by decide +kernel
theorem dX9_on_115 : decode cX9_on 115 = .ok (.getfield 100, 3) := by decide +kernel
theorem dX9_on_118 : decode cX9_on 118 = .ok (.goto 21, 3) := by decide +kernel
theorem dX9_on_121 : decode cX9_on 121 = .ok (.iload_n 3, 1) := by decide +kernel
theorem dX9_on_122 : decode cX9_on 122 = .ok (.iconst 2, 1) := by decide +kernel
theorem dX9_on_123 : decode cX9_on 123 = .ok (.if_icmp .ne 11, 3) := by decide +kernel
theorem dX9_on_126 : decode cX9_on 126 = .ok (.aload 6, 2) := by decide +kernel
theorem dX9_on_128 : decode cX9_on 128 = .ok (.getfield 103, 3) := by decide +kernel
theorem dX9_on_131 : decode cX9_on 131 = .ok (.goto 8, 3) := by decide +kernel
theorem dX9_on_134 : decode cX9_on 134 = .ok (.aload 6, 2) := by decide +kernel
theorem dX9_on_136 : decode cX9_on 136 = .ok (.getfield 106, 3) := by decide +kernel
theorem dX9_on_139 : decode cX9_on 139 = .ok (.ireturn, 1) := by decide +kernel
theorem dX9_best_0 : decode cX9_best 0 = .ok (.iload_n 2, 1) := by decide +kernel
theorem dX9_best_1 : decode cX9_best 1 = .ok (.bipush 10, 2) := by decide +kernel
theorem dX9_best_3 : decode cX9_best 3 = .ok (.isub, 1) := by decide +kernel
theorem dX9_best_4 : decode cX9_best 4 = .ok (.istore_n 3, 1) := by decide +kernel
theorem dX9_best_5 : decode cX9_best 5 = .ok (.iload_n 2, 1) := by decide +kernel
theorem dX9_best_6 : decode cX9_best 6 = .ok (.ifCond .eq 21, 3) := by decide +kernel
theorem dX9_best_9 : decode cX9_best 9 = .ok (.iload_n 2, 1) := by decide +kernel
theorem dX9_best_10 : decode cX9_best 10 = .ok (.iconst 1, 1) := by decide +kernel
theorem dX9_best_11 : decode cX9_best 11 = .ok (.if_icmp .eq 16, 3) := by decide +kernel
theorem dX9_best_14 : decode cX9_best 14 = .ok (.aload_n 0, 1) := by decide +kernel
theorem dX9_best_15 : decode cX9_best 15 = .ok (.getfield 34, 3) := by decide +kernel
theorem dX9_best_18 : decode cX9_best 18 = .ok (.iload_n 3, 1) := by decide +kernel
theorem dX9_best_19 : decode cX9_best 19 = .ok (.invokevirtual 117, 3) := by decide +kernel
theorem dX9_best_22 : decode cX9_best 22 = .ok (.ifCond .ne 5, 3) := by decide +kernel
theorem dX9_best_25 : decode cX9_best 25 = .ok (.iconst (-1), 1) := by decide +kernel
theorem dX9_best_26 : decode cX9_best 26 = .ok (.ireturn, 1) := by decide +kernel
theorem dX9_best_27 : decode cX9_best 27 = .ok (.iload_n 1, 1) := by decide +kernel
theorem dX9_best_28 : decode cX9_best 28 = .ok (.iconst 1, 1) := by decide +kernel
theorem dX9_best_29 : decode cX9_best 29 = .ok (.if_icmp .lt 18, 3) := by decide +kernel
theorem dX9_best_32 : decode cX9_best 32 = .ok (.iload_n 1, 1) := by decide +kernel
theorem dX9_best_33 : decode cX9_best 33 = .ok (.iload_n 2, 1) := by decide +kernel
theorem dX9_best_34 : decode cX9_best 34 = .ok (.ifCond .ne 8, 3) := by decide +kernel
theorem dX9_best_37 : decode cX9_best 37 = .ok (.bipush 12, 2) := by decide +kernel
theorem dX9_best_39 : decode cX9_best 39 = .ok (.goto 5, 3) := by decide +kernel
theorem dX9_best_42 : decode cX9_best 42 = .ok (.bipush 20, 2) := by decide +kernel
theorem dX9_best_44 : decode cX9_best 44 = .ok (.if_icmp .le 6, 3) := by decide +kernel
theorem dX9_best_47 : decode cX9_best 47 = .ok (.bipush (-2), 2) := by decide +kernel
theorem dX9_best_49 : decode cX9_best 49 = .ok (.ireturn, 1) := by decide +kernel
theorem dX9_best_50 : decode cX9_best 50 = .ok (.iload_n 2, 1) := by decide +kernel
theorem dX9_best_51 : decode cX9_best 51 = .ok (.ifCond .ne 9, 3) := by decide +kernel
theorem dX9_best_54 : decode cX9_best 54 = .ok (.aload_n 0, 1) := by decide +kernel
theorem dX9_best_55 : decode cX9_best 55 = .ok (.iload_n 1, 1) := by decide +kernel
theorem dX9_best_56 : decode cX9_best 56 = .ok (.invokevirtual 187, 3) := by decide +kernel
theorem dX9_best_59 : decode cX9_best 59 = .ok (.ireturn, 1) := by decide +kernel
theorem dX9_best_60 : decode cX9_best 60 = .ok (.iload_n 2, 1) := by decide +kernel
theorem dX9_best_61 : decode cX9_best 61 = .ok (.iconst 1, 1) := by decide +kernel
theorem dX9_best_62 : decode cX9_best 62 = .ok (.if_icmp .ne 11, 3) := by decide +kernel
theorem dX9_best_65 : decode cX9_best 65 = .ok (.aload_n 0, 1) := by decide +kernel
theorem dX9_best_66 : decode cX9_best 66 = .ok (.iload_n 1, 1) := by decide +kernel
theorem dX9_best_67 : decode cX9_best 67 = .ok (.invokevirtual 190, 3) := by decide +kernel
theorem dX9_best_70 : decode cX9_best 70 = .ok (.goto 9, 3) := by decide +kernel
theorem dX9_best_73 : decode cX9_best 73 = .ok (.aload_n 0, 1) := by decide +kernel
theorem dX9_best_74 : decode cX9_best 74 = .ok (.iload_n 3, 1) := by decide +kernel
theorem dX9_best_75 : decode cX9_best 75 = .ok (.iload_n 1, 1) := by decide +kernel
theorem dX9_best_76 : decode cX9_best 76 = .ok (.invokevirtual 193, 3) := by decide +kernel
theorem dX9_best_79 : decode cX9_best 79 = .ok (.ireturn, 1) := by decide +kernel
theorem dX9_see_0 : decode cX9_see 0 = .ok (.iload_n 1, 1) := by decide +kernel
theorem dX9_see_1 : decode cX9_see 1 = .ok (.iconst (-1), 1) := by decide +kernel
theorem dX9_see_2 : decode cX9_see 2 = .ok (.if_icmp .ne 14, 3) := by decide +kernel
theorem dX9_see_5 : decode cX9_see 5 = .ok (.aload_n 0, 1) := by decide +kernel
theorem dX9_see_6 : decode cX9_see 6 = .ok (.getfield 47, 3) := by decide +kernel
theorem dX9_see_9 : decode cX9_see 9 = .ok (.getfield 196, 3) := by decide +kernel
theorem dX9_see_12 : decode cX9_see 12 = .ok (.invokevirtual 200, 3) := by decide +kernel
theorem dX9_see_15 : decode cX9_see 15 = .ok (.ireturn, 1) := by decide +kernel
theorem dX9_see_16 : decode cX9_see 16 = .ok (.aload_n 0, 1) := by decide +kernel
theorem dX9_see_17 : decode cX9_see 17 = .ok (.getfield 34, 3) := by decide +kernel
theorem dX9_see_20 : decode cX9_see 20 = .ok (.iload_n 1, 1) := by decide +kernel
theorem dX9_see_21 : decode cX9_see 21 = .ok (.invokevirtual 84, 3) := by decide +kernel
theorem dX9_see_24 : decode cX9_see 24 = .ok (.ifCond .ne 5, 3) := by decide +kernel
theorem dX9_see_27 : decode cX9_see 27 = .ok (.iconst (-1), 1) := by decide +kernel
theorem dX9_see_28 : decode cX9_see 28 = .ok (.ireturn, 1) := by decide +kernel
theorem dX9_see_29 : decode cX9_see 29 = .ok (.iload_n 2, 1) := by decide +kernel
theorem dX9_see_30 : decode cX9_see 30 = .ok (.bipush 12, 2) := by decide +kernel
theorem dX9_see_32 : decode cX9_see 32 = .ok (.invokestatic 76, 3) := by decide +kernel
theorem dX9_see_35 : decode cX9_see 35 = .ok (.ifCond .ne 12, 3) := by decide +kernel
theorem dX9_see_38 : decode cX9_see 38 = .ok (.iload_n 3, 1) := by decide +kernel
theorem dX9_see_39 : decode cX9_see 39 = .ok (.bipush 99, 2) := by decide +kernel
theorem dX9_see_41 : decode cX9_see 41 = .ok (.invokestatic 76, 3) := by decide +kernel
theorem dX9_see_44 : decode cX9_see 44 = .ok (.ifCond .eq 6, 3) := by decide +kernel
theorem dX9_see_47 : decode cX9_see 47 = .ok (.bipush (-2), 2) := by decide +kernel
theorem dX9_see_49 : decode cX9_see 49 = .ok (.ireturn, 1) := by decide +kernel
theorem dX9_see_50 : decode cX9_see 50 = .ok (.aload_n 0, 1) := by decide +kernel
theorem dX9_see_51 : decode cX9_see 51 = .ok (.getfield 47, 3) := by decide +kernel
theorem dX9_see_54 : decode cX9_see 54 = .ok (.getfield 196, 3) := by decide +kernel
theorem dX9_see_57 : decode cX9_see 57 = .ok (.iload_n 1, 1) := by decide +kernel
theorem dX9_see_58 : decode cX9_see 58 = .ok (.iload_n 2, 1) := by decide +kernel
theorem dX9_see_59 : decode cX9_see 59 = .ok (.iload_n 3, 1) := by decide +kernel
theorem dX9_see_60 : decode cX9_see 60 = .ok (.invokevirtual 205, 3) := by decide +kernel
theorem dX9_see_63 : decode cX9_see 63 = .ok (.ireturn, 1) := by decide +kernel
theorem dX9_ache_0 : decode cX9_ache 0 = .ok (.iload_n 1, 1) := by decide +kernel
theorem dX9_ache_1 : decode cX9_ache 1 = .ok (.iconst (-1), 1) := by decide +kernel
theorem dX9_ache_2 : decode cX9_ache 2 = .ok (.if_icmp .ne 14, 3) := by decide +kernel
theorem dX9_ache_5 : decode cX9_ache 5 = .ok (.aload_n 0, 1) := by decide +kernel
theorem dX9_ache_6 : decode cX9_ache 6 = .ok (.getfield 47, 3) := by decide +kernel
theorem dX9_ache_9 : decode cX9_ache 9 = .ok (.getfield 208, 3) := by decide +kernel
theorem dX9_ache_12 : decode cX9_ache 12 = .ok (.invokevirtual 200, 3) := by decide +kernel
theorem dX9_ache_15 : decode cX9_ache 15 = .ok (.ireturn, 1) := by decide +kernel
theorem dX9_ache_16 : decode cX9_ache 16 = .ok (.aload_n 0, 1) := by decide +kernel
theorem dX9_ache_17 : decode cX9_ache 17 = .ok (.getfield 34, 3) := by decide +kernel
theorem dX9_ache_20 : decode cX9_ache 20 = .ok (.iload_n 1, 1) := by decide +kernel
theorem dX9_ache_21 : decode cX9_ache 21 = .ok (.invokevirtual 84, 3) := by decide +kernel
theorem dX9_ache_24 : decode cX9_ache 24 = .ok (.ifCond .ne 5, 3) := by decide +kernel
theorem dX9_ache_27 : decode cX9_ache 27 = .ok (.iconst (-1), 1) := by decide +kernel
theorem dX9_ache_28 : decode cX9_ache 28 = .ok (.ireturn, 1) := by decide +kernel
theorem dX9_ache_29 : decode cX9_ache 29 = .ok (.iload_n 2, 1) := by decide +kernel
theorem dX9_ache_30 : decode cX9_ache 30 = .ok (.bipush 12, 2) := by decide +kernel
theorem dX9_ache_32 : decode cX9_ache 32 = .ok (.invokestatic 76, 3) := by decide +kernel
theorem dX9_ache_35 : decode cX9_ache 35 = .ok (.ifCond .eq 6, 3) := by decide +kernel
theorem dX9_ache_38 : decode cX9_ache 38 = .ok (.bipush (-2), 2) := by decide +kernel
theorem dX9_ache_40 : decode cX9_ache 40 = .ok (.ireturn, 1) := by decide +kernel
theorem dX9_ache_41 : decode cX9_ache 41 = .ok (.aload_n 0, 1) := by decide +kernel
theorem dX9_ache_42 : decode cX9_ache 42 = .ok (.getfield 47, 3) := by decide +kernel
theorem dX9_ache_45 : decode cX9_ache 45 = .ok (.getfield 208, 3) := by decide +kernel
theorem dX9_ache_48 : decode cX9_ache 48 = .ok (.iload_n 1, 1) := by decide +kernel
theorem dX9_ache_49 : decode cX9_ache 49 = .ok (.iload_n 2, 1) := by decide +kernel
theorem dX9_ache_50 : decode cX9_ache 50 = .ok (.iload_n 3, 1) := by decide +kernel
theorem dX9_ache_51 : decode cX9_ache 51 = .ok (.ifCond .eq 7, 3) := by decide +kernel
theorem dX9_ache_54 : decode cX9_ache 54 = .ok (.iconst 1, 1) := by decide +kernel
theorem dX9_ache_55 : decode cX9_ache 55 = .ok (.goto 4, 3) := by decide +kernel
theorem dX9_ache_58 : decode cX9_ache 58 = .ok (.iconst 0, 1) := by decide +kernel
theorem dX9_ache_59 : decode cX9_ache 59 = .ok (.invokevirtual 205, 3) := by decide +kernel
theorem dX9_ache_62 : decode cX9_ache 62 = .ok (.ireturn, 1) := by decide +kernel
theorem dX9_can_0 : decode cX9_can 0 = .ok (.aload_n 0, 1) := by decide +kernel
theorem dX9_can_1 : decode cX9_can 1 = .ok (.getfield 34, 3) := by decide +kernel
theorem dX9_can_4 : decode cX9_can 4 = .ok (.iload_n 1, 1) := by decide +kernel
theorem dX9_can_5 : decode cX9_can 5 = .ok (.invokevirtual 84, 3) := by decide +kernel
theorem dX9_can_8 : decode cX9_can 8 = .ok (.ifCond .eq 11, 3) := by decide +kernel
theorem dX9_can_11 : decode cX9_can 11 = .ok (.iload_n 2, 1) := by decide +kernel
theorem dX9_can_12 : decode cX9_can 12 = .ok (.iconst 1, 1) := by decide +kernel
theorem dX9_can_13 : decode cX9_can 13 = .ok (.invokestatic 76, 3) := by decide +kernel
theorem dX9_can_16 : decode cX9_can 16 = .ok (.ifCond .eq 5, 3) := by decide +kernel
theorem dX9_can_19 : decode cX9_can 19 = .ok (.iconst (-1), 1) := by decide +kernel
theorem dX9_can_20 : decode cX9_can 20 = .ok (.ireturn, 1) := by decide +kernel
theorem dX9_can_21 : decode cX9_can 21 = .ok (.aload_n 0, 1) := by decide +kernel
theorem dX9_can_22 : decode cX9_can 22 = .ok (.iconst 0, 1) := by decide +kernel
theorem dX9_can_23 : decode cX9_can 23 = .ok (.iload_n 1, 1) := by decide +kernel
theorem dX9_can_24 : decode cX9_can 24 = .ok (.iload_n 2, 1) := by decide +kernel
theorem dX9_can_25 : decode cX9_can 25 = .ok (.iconst 1, 1) := by decide +kernel
theorem dX9_can_26 : decode cX9_can 26 = .ok (.if_icmp .ne 7, 3) := by decide +kernel
theorem dX9_can_29 : decode cX9_can 29 = .ok (.iconst 1, 1) := by decide +kernel
theorem dX9_can_30 : decode cX9_can 30 = .ok (.goto 4, 3) := by decide +kernel
theorem dX9_can_33 : decode cX9_can 33 = .ok (.iconst 0, 1) := by decide +kernel
theorem dX9_can_34 : decode cX9_can 34 = .ok (.invokevirtual 113, 3) := by decide +kernel
theorem dX9_can_37 : decode cX9_can 37 = .ok (.ireturn, 1) := by decide +kernel
theorem dX9_odds_0 : decode cX9_odds 0 = .ok (.aload_n 0, 1) := by decide +kernel
theorem dX9_odds_1 : decode cX9_odds 1 = .ok (.getfield 34, 3) := by decide +kernel
theorem dX9_odds_4 : decode cX9_odds 4 = .ok (.iload_n 1, 1) := by decide +kernel
theorem dX9_odds_5 : decode cX9_odds 5 = .ok (.invokevirtual 117, 3) := by decide +kernel
theorem dX9_odds_8 : decode cX9_odds 8 = .ok (.ifCond .eq 32, 3) := by decide +kernel
theorem dX9_odds_11 : decode cX9_odds 11 = .ok (.aload_n 0, 1) := by decide +kernel
theorem dX9_odds_12 : decode cX9_odds 12 = .ok (.getfield 34, 3) := by decide +kernel
theorem dX9_odds_15 : decode cX9_odds 15 = .ok (.iload_n 2, 1) := by decide +kernel
theorem dX9_odds_16 : decode cX9_odds 16 = .ok (.invokevirtual 84, 3) := by decide +kernel
theorem dX9_odds_19 : decode cX9_odds 19 = .ok (.ifCond .eq 21, 3) := by decide +kernel
theorem dX9_odds_22 : decode cX9_odds 22 = .ok (.iload_n 3, 1) := by decide +kernel
theorem dX9_odds_23 : decode cX9_odds 23 = .ok (.bipush 20, 2) := by decide +kernel
theorem dX9_odds_25 : decode cX9_odds 25 = .ok (.invokestatic 76, 3) := by decide +kernel
theorem dX9_odds_28 : decode cX9_odds 28 = .ok (.ifCond .ne 12, 3) := by decide +kernel
theorem dX9_odds_31 : decode cX9_odds 31 = .ok (.iload 4, 2) := by decide +kernel
theorem dX9_odds_33 : decode cX9_odds 33 = .ok (.iconst 1, 1) := by decide +kernel
theorem dX9_odds_34 : decode cX9_odds 34 = .ok (.invokestatic 76, 3) := by decide +kernel
theorem dX9_odds_37 : decode cX9_odds 37 = .ok (.ifCond .eq 7, 3) := by decide +kernel
theorem dX9_odds_40 : decode cX9_odds 40 = .ok (.ldc2_w 211, 3) := by decide +kernel
theorem dX9_odds_43 : decode cX9_odds 43 = .ok (.lreturn, 1) := by decide +kernel
theorem dX9_odds_44 : decode cX9_odds 44 = .ok (.iconst 0, 1) := by decide +kernel
theorem dX9_odds_45 : decode cX9_odds 45 = .ok (.istore 5, 2) := by decide +kernel
theorem dX9_odds_47 : decode cX9_odds 47 = .ok (.iconst 0, 1) := by decide +kernel
theorem dX9_odds_48 : decode cX9_odds 48 = .ok (.istore 6, 2) := by decide +kernel
theorem dX9_odds_50 : decode cX9_odds 50 = .ok (.iload 6, 2) := by decide +kernel
theorem dX9_odds_52 : decode cX9_odds 52 = .ok (.aload_n 0, 1) := by decide +kernel
theorem dX9_odds_53 : decode cX9_odds 53 = .ok (.getfield 34, 3) := by decide +kernel
theorem dX9_odds_56 : decode cX9_odds 56 = .ok (.getfield 213, 3) := by decide +kernel
theorem dX9_odds_59 : decode cX9_odds 59 = .ok (.if_icmp .ge 54, 3) := by decide +kernel
theorem dX9_odds_62 : decode cX9_odds 62 = .ok (.aload_n 0, 1) := by decide +kernel
theorem dX9_odds_63 : decode cX9_odds 63 = .ok (.getfield 38, 3) := by decide +kernel
theorem dX9_odds_66 : decode cX9_odds 66 = .ok (.aload_n 0, 1) := by decide +kernel
theorem dX9_odds_67 : decode cX9_odds 67 = .ok (.getfield 34, 3) := by decide +kernel
theorem dX9_odds_70 : decode cX9_odds 70 = .ok (.invokevirtual 183, 3) := by decide +kernel
theorem dX9_odds_73 : decode cX9_odds 73 = .ok (.aload_n 0, 1) := by decide +kernel
theorem dX9_odds_74 : decode cX9_odds 74 = .ok (.getfield 38, 3) := by decide +kernel
theorem dX9_odds_77 : decode cX9_odds 77 = .ok (.getfield 128, 3) := by decide +kernel
theorem dX9_odds_80 : decode cX9_odds 80 = .ok (.iload_n 1, 1) := by decide +kernel
theorem dX9_odds_81 : decode cX9_odds 81 = .ok (.aaload, 1) := by decide +kernel
theorem dX9_odds_82 : decode cX9_odds 82 = .ok (.iload 6, 2) := by decide +kernel
theorem dX9_odds_84 : decode cX9_odds 84 = .ok (.putfield 140, 3) := by decide +kernel
theorem dX9_odds_87 : decode cX9_odds 87 = .ok (.aload_n 0, 1) := by decide +kernel
theorem dX9_odds_88 : decode cX9_odds 88 = .ok (.getfield 38, 3) := by decide +kernel
theorem dX9_odds_91 : decode cX9_odds 91 = .ok (.iload_n 3, 1) := by decide +kernel
theorem dX9_odds_92 : decode cX9_odds 92 = .ok (.iload_n 2, 1) := by decide +kernel
theorem dX9_odds_93 : decode cX9_odds 93 = .ok (.invokevirtual 179, 3) := by decide +kernel
theorem dX9_odds_96 : decode cX9_odds 96 = .ok (.aload_n 0, 1) := by decide +kernel
theorem dX9_odds_97 : decode cX9_odds 97 = .ok (.iload_n 2, 1) := by decide +kernel
theorem dX9_odds_98 : decode cX9_odds 98 = .ok (.invokevirtual 216, 3) := by decide +kernel
theorem dX9_odds_101 : decode cX9_odds 101 = .ok (.ifCond .eq 6, 3) := by decide +kernel
theorem dX9_odds_104 : decode cX9_odds 104 = .ok (.iinc 5 1, 3) := by decide +kernel
theorem dX9_odds_107 : decode cX9_odds 107 = .ok (.iinc 6 1, 3) := by decide +kernel
theorem dX9_odds_110 : decode cX9_odds 110 = .ok (.goto (-60), 3) := by decide +kernel
theorem dX9_odds_113 : decode cX9_odds 113 = .ok (.iload 5, 2) := by decide +kernel
theorem dX9_odds_115 : decode cX9_odds 115 = .ok (.aload_n 0, 1) := by decide +kernel
theorem dX9_odds_116 : decode cX9_odds 116 = .ok (.getfield 34, 3) := by decide +kernel
theorem dX9_odds_119 : decode cX9_odds 119 = .ok (.getfield 213, 3) := by decide +kernel
theorem dX9_odds_122 : decode cX9_odds 122 = .ok (.iload 4, 2) := by decide +kernel
theorem dX9_odds_124 : decode cX9_odds 124 = .ok (.invokestatic 219, 3) := by decide +kernel
theorem dX9_odds_127 : decode cX9_odds 127 = .ok (.lreturn, 1) := by decide +kernel
theorem dX9_mean_0 : decode cX9_mean 0 = .ok (.aload_n 0, 1) := by decide +kernel
theorem dX9_mean_1 : decode cX9_mean 1 = .ok (.getfield 34, 3) := by decide +kernel
theorem dX9_mean_4 : decode cX9_mean 4 = .ok (.getfield 213, 3) := by decide +kernel
theorem dX9_mean_7 : decode cX9_mean 7 = .ok (.ifCond .eq 20, 3) := by decide +kernel
theorem dX9_mean_10 : decode cX9_mean 10 = .ok (.iload_n 1, 1) := by decide +kernel
theorem dX9_mean_11 : decode cX9_mean 11 = .ok (.bipush 60, 2) := by decide +kernel
theorem dX9_mean_13 : decode cX9_mean 13 = .ok (.invokestatic 76, 3) := by decide +kernel
theorem dX9_mean_16 : decode cX9_mean 16 = .ok (.ifCond .ne 11, 3) := by decide +kernel
theorem dX9_mean_19 : decode cX9_mean 19 = .ok (.iload_n 2, 1) := by decide +kernel
theorem dX9_mean_20 : decode cX9_mean 20 = .ok (.iconst 1, 1) := by decide +kernel
theorem dX9_mean_21 : decode cX9_mean 21 = .ok (.invokestatic 76, 3) := by decide +kernel
theorem dX9_mean_24 : decode cX9_mean 24 = .ok (.ifCond .eq 7, 3) := by decide +kernel
theorem dX9_mean_27 : decode cX9_mean 27 = .ok (.ldc2_w 211, 3) := by decide +kernel
theorem dX9_mean_30 : decode cX9_mean 30 = .ok (.lreturn, 1) := by decide +kernel
theorem dX9_mean_31 : decode cX9_mean 31 = .ok (.aload_n 0, 1) := by decide +kernel
theorem dX9_mean_32 : decode cX9_mean 32 = .ok (.getfield 38, 3) := by decide +kernel
theorem dX9_mean_35 : decode cX9_mean 35 = .ok (.aload_n 0, 1) := by decide +kernel
theorem dX9_mean_36 : decode cX9_mean 36 = .ok (.getfield 34, 3) := by decide +kernel
theorem dX9_mean_39 : decode cX9_mean 39 = .ok (.invokevirtual 183, 3) := by decide +kernel
theorem dX9_mean_42 : decode cX9_mean 42 = .ok (.aload_n 0, 1) := by decide +kernel
theorem dX9_mean_43 : decode cX9_mean 43 = .ok (.getfield 38, 3) := by decide +kernel
theorem dX9_mean_46 : decode cX9_mean 46 = .ok (.iload_n 1, 1) := by decide +kernel
theorem dX9_mean_47 : decode cX9_mean 47 = .ok (.iconst (-1), 1) := by decide +kernel
theorem dX9_mean_48 : decode cX9_mean 48 = .ok (.invokevirtual 179, 3) := by decide +kernel
theorem dX9_mean_51 : decode cX9_mean 51 = .ok (.aload_n 0, 1) := by decide +kernel
theorem dX9_mean_52 : decode cX9_mean 52 = .ok (.getfield 38, 3) := by decide +kernel
theorem dX9_mean_55 : decode cX9_mean 55 = .ok (.invokevirtual 173, 3) := by decide +kernel
theorem dX9_mean_58 : decode cX9_mean 58 = .ok (.aload_n 0, 1) := by decide +kernel
theorem dX9_mean_59 : decode cX9_mean 59 = .ok (.getfield 34, 3) := by decide +kernel
theorem dX9_mean_62 : decode cX9_mean 62 = .ok (.getfield 213, 3) := by decide +kernel
theorem dX9_mean_65 : decode cX9_mean 65 = .ok (.iload_n 2, 1) := by decide +kernel
theorem dX9_mean_66 : decode cX9_mean 66 = .ok (.invokestatic 219, 3) := by decide +kernel
theorem dX9_mean_69 : decode cX9_mean 69 = .ok (.lreturn, 1) := by decide +kernel
theorem dX9_plan_0 : decode cX9_plan 0 = .ok (.iload_n 1, 1) := by decide +kernel
theorem dX9_plan_1 : decode cX9_plan 1 = .ok (.iconst (-1), 1) := by decide +kernel
theorem dX9_plan_2 : decode cX9_plan 2 = .ok (.if_icmp .ne 14, 3) := by decide +kernel
theorem dX9_plan_5 : decode cX9_plan 5 = .ok (.aload_n 0, 1) := by decide +kernel
theorem dX9_plan_6 : decode cX9_plan 6 = .ok (.getfield 47, 3) := by decide +kernel
theorem dX9_plan_9 : decode cX9_plan 9 = .ok (.getfield 223, 3) := by decide +kernel
theorem dX9_plan_12 : decode cX9_plan 12 = .ok (.invokevirtual 200, 3) := by decide +kernel
theorem dX9_plan_15 : decode cX9_plan 15 = .ok (.ireturn, 1) := by decide +kernel
theorem dX9_plan_16 : decode cX9_plan 16 = .ok (.iload_n 1, 1) := by decide +kernel
theorem dX9_plan_17 : decode cX9_plan 17 = .ok (.iconst 1, 1) := by decide +kernel
theorem dX9_plan_18 : decode cX9_plan 18 = .ok (.if_icmp .eq 8, 3) := by decide +kernel
theorem dX9_plan_21 : decode cX9_plan 21 = .ok (.iload_n 1, 1) := by decide +kernel
theorem dX9_plan_22 : decode cX9_plan 22 = .ok (.iconst 3, 1) := by decide +kernel
theorem dX9_plan_23 : decode cX9_plan 23 = .ok (.if_icmp .ne 7, 3) := by decide +kernel
theorem dX9_plan_26 : decode cX9_plan 26 = .ok (.iconst 1, 1) := by decide +kernel
theorem dX9_plan_27 : decode cX9_plan 27 = .ok (.goto 4, 3) := by decide +kernel
theorem dX9_plan_30 : decode cX9_plan 30 = .ok (.iconst 0, 1) := by decide +kernel
theorem dX9_plan_31 : decode cX9_plan 31 = .ok (.istore_n 3, 1) := by decide +kernel
theorem dX9_plan_32 : decode cX9_plan 32 = .ok (.iload_n 1, 1) := by decide +kernel
theorem dX9_plan_33 : decode cX9_plan 33 = .ok (.iconst 3, 1) := by decide +kernel
theorem dX9_plan_34 : decode cX9_plan 34 = .ok (.invokestatic 76, 3) := by decide +kernel
theorem dX9_plan_37 : decode cX9_plan 37 = .ok (.ifCond .ne 34, 3) := by decide +kernel
theorem dX9_plan_40 : decode cX9_plan 40 = .ok (.iload_n 3, 1) := by decide +kernel
theorem dX9_plan_41 : decode cX9_plan 41 = .ok (.ifCond .eq 14, 3) := by decide +kernel
theorem dX9_plan_44 : decode cX9_plan 44 = .ok (.aload_n 0, 1) := by decide +kernel
theorem dX9_plan_45 : decode cX9_plan 45 = .ok (.getfield 34, 3) := by decide +kernel
theorem dX9_plan_48 : decode cX9_plan 48 = .ok (.iload_n 2, 1) := by decide +kernel
theorem dX9_plan_49 : decode cX9_plan 49 = .ok (.invokevirtual 84, 3) := by decide +kernel
theorem dX9_plan_52 : decode cX9_plan 52 = .ok (.ifCond .eq 19, 3) := by decide +kernel
theorem dX9_plan_55 : decode cX9_plan 55 = .ok (.iload_n 1, 1) := by decide +kernel
theorem dX9_plan_56 : decode cX9_plan 56 = .ok (.iconst 2, 1) := by decide +kernel
theorem dX9_plan_57 : decode cX9_plan 57 = .ok (.if_icmp .ne 16, 3) := by decide +kernel
theorem dX9_plan_60 : decode cX9_plan 60 = .ok (.aload_n 0, 1) := by decide +kernel
theorem dX9_plan_61 : decode cX9_plan 61 = .ok (.getfield 34, 3) := by decide +kernel
theorem dX9_plan_64 : decode cX9_plan 64 = .ok (.iload_n 2, 1) := by decide +kernel
theorem dX9_plan_65 : decode cX9_plan 65 = .ok (.invokevirtual 117, 3) := by decide +kernel
theorem dX9_plan_68 : decode cX9_plan 68 = .ok (.ifCond .ne 5, 3) := by decide +kernel
theorem dX9_plan_71 : decode cX9_plan 71 = .ok (.iconst (-1), 1) := by decide +kernel
theorem dX9_plan_72 : decode cX9_plan 72 = .ok (.ireturn, 1) := by decide +kernel
theorem dX9_plan_73 : decode cX9_plan 73 = .ok (.aload_n 0, 1) := by decide +kernel
theorem dX9_plan_74 : decode cX9_plan 74 = .ok (.getfield 47, 3) := by decide +kernel
theorem dX9_plan_77 : decode cX9_plan 77 = .ok (.getfield 223, 3) := by decide +kernel
theorem dX9_plan_80 : decode cX9_plan 80 = .ok (.iload_n 2, 1) := by decide +kernel
theorem dX9_plan_81 : decode cX9_plan 81 = .ok (.iload_n 1, 1) := by decide +kernel
theorem dX9_plan_82 : decode cX9_plan 82 = .ok (.iconst 0, 1) := by decide +kernel
theorem dX9_plan_83 : decode cX9_plan 83 = .ok (.invokevirtual 205, 3) := by decide +kernel
theorem dX9_plan_86 : decode cX9_plan 86 = .ok (.ireturn, 1) := by decide +kernel
theorem dX9_ends_0 : decode cX9_ends 0 = .ok (.iload_n 1, 1) := by decide +kernel
theorem dX9_ends_1 : decode cX9_ends 1 = .ok (.iconst 1, 1) := by decide +kernel
theorem dX9_ends_2 : decode cX9_ends 2 = .ok (.invokestatic 76, 3) := by decide +kernel
theorem dX9_ends_5 : decode cX9_ends 5 = .ok (.ifCond .eq 5, 3) := by decide +kernel
theorem dX9_ends_8 : decode cX9_ends 8 = .ok (.iconst (-1), 1) := by decide +kernel
theorem dX9_ends_9 : decode cX9_ends 9 = .ok (.ireturn, 1) := by decide +kernel
theorem dX9_ends_10 : decode cX9_ends 10 = .ok (.aload_n 0, 1) := by decide +kernel
theorem dX9_ends_11 : decode cX9_ends 11 = .ok (.getfield 38, 3) := by decide +kernel
theorem dX9_ends_14 : decode cX9_ends 14 = .ok (.aload_n 0, 1) := by decide +kernel
theorem dX9_ends_15 : decode cX9_ends 15 = .ok (.getfield 34, 3) := by decide +kernel
theorem dX9_ends_18 : decode cX9_ends 18 = .ok (.invokevirtual 183, 3) := by decide +kernel
theorem dX9_ends_21 : decode cX9_ends 21 = .ok (.iconst 0, 1) := by decide +kernel
theorem dX9_ends_22 : decode cX9_ends 22 = .ok (.istore_n 2, 1) := by decide +kernel
theorem dX9_ends_23 : decode cX9_ends 23 = .ok (.iload_n 2, 1) := by decide +kernel
theorem dX9_ends_24 : decode cX9_ends 24 = .ok (.aload_n 0, 1) := by decide +kernel
theorem dX9_ends_25 : decode cX9_ends 25 = .ok (.getfield 47, 3) := by decide +kernel
theorem dX9_ends_28 : decode cX9_ends 28 = .ok (.getfield 223, 3) := by decide +kernel
theorem dX9_ends_31 : decode cX9_ends 31 = .ok (.getfield 226, 3) := by decide +kernel
theorem dX9_ends_34 : decode cX9_ends 34 = .ok (.if_icmp .ge 37, 3) := by decide +kernel
theorem dX9_ends_37 : decode cX9_ends 37 = .ok (.aload_n 0, 1) := by decide +kernel
theorem dX9_ends_38 : decode cX9_ends 38 = .ok (.aload_n 0, 1) := by decide +kernel
theorem dX9_ends_39 : decode cX9_ends 39 = .ok (.getfield 47, 3) := by decide +kernel
theorem dX9_ends_42 : decode cX9_ends 42 = .ok (.getfield 223, 3) := by decide +kernel
theorem dX9_ends_45 : decode cX9_ends 45 = .ok (.getfield 229, 3) := by decide +kernel
theorem dX9_ends_48 : decode cX9_ends 48 = .ok (.iload_n 2, 1) := by decide +kernel
theorem dX9_ends_49 : decode cX9_ends 49 = .ok (.iaload, 1) := by decide +kernel
theorem dX9_ends_50 : decode cX9_ends 50 = .ok (.aload_n 0, 1) := by decide +kernel
theorem dX9_ends_51 : decode cX9_ends 51 = .ok (.getfield 47, 3) := by decide +kernel
theorem dX9_ends_54 : decode cX9_ends 54 = .ok (.getfield 223, 3) := by decide +kernel
theorem dX9_ends_57 : decode cX9_ends 57 = .ok (.getfield 232, 3) := by decide +kernel
theorem dX9_ends_60 : decode cX9_ends 60 = .ok (.iload_n 2, 1) := by decide +kernel
theorem dX9_ends_61 : decode cX9_ends 61 = .ok (.iaload, 1) := by decide +kernel
theorem dX9_ends_62 : decode cX9_ends 62 = .ok (.invokevirtual 235, 3) := by decide +kernel
theorem dX9_ends_65 : decode cX9_ends 65 = .ok (.iinc 2 1, 3) := by decide +kernel
theorem dX9_ends_68 : decode cX9_ends 68 = .ok (.goto (-45), 3) := by decide +kernel
theorem dX9_ends_71 : decode cX9_ends 71 = .ok (.iload_n 1, 1) := by decide +kernel
theorem dX9_ends_72 : decode cX9_ends 72 = .ok (.ifCond .ne 13, 3) := by decide +kernel
theorem dX9_ends_75 : decode cX9_ends 75 = .ok (.aload_n 0, 1) := by decide +kernel
theorem dX9_ends_76 : decode cX9_ends 76 = .ok (.getfield 38, 3) := by decide +kernel
theorem dX9_ends_79 : decode cX9_ends 79 = .ok (.invokevirtual 169, 3) := by decide +kernel
theorem dX9_ends_82 : decode cX9_ends 82 = .ok (.goto 10, 3) := by decide +kernel
theorem dX9_ends_85 : decode cX9_ends 85 = .ok (.aload_n 0, 1) := by decide +kernel
theorem dX9_ends_86 : decode cX9_ends 86 = .ok (.getfield 38, 3) := by decide +kernel
theorem dX9_ends_89 : decode cX9_ends 89 = .ok (.invokevirtual 173, 3) := by decide +kernel
theorem dX9_ends_92 : decode cX9_ends 92 = .ok (.ireturn, 1) := by decide +kernel
theorem dX9_book_0 : decode cX9_book 0 = .ok (.iload_n 1, 1) := by decide +kernel
theorem dX9_book_1 : decode cX9_book 1 = .ok (.iconst (-1), 1) := by decide +kernel
theorem dX9_book_2 : decode cX9_book 2 = .ok (.if_icmp .ne 14, 3) := by decide +kernel
theorem dX9_book_5 : decode cX9_book 5 = .ok (.aload_n 0, 1) := by decide +kernel
theorem dX9_book_6 : decode cX9_book 6 = .ok (.getfield 47, 3) := by decide +kernel
theorem dX9_book_9 : decode cX9_book 9 = .ok (.getfield 238, 3) := by decide +kernel
theorem dX9_book_12 : decode cX9_book 12 = .ok (.invokevirtual 200, 3) := by decide +kernel
theorem dX9_book_15 : decode cX9_book 15 = .ok (.ireturn, 1) := by decide +kernel
theorem dX9_book_16 : decode cX9_book 16 = .ok (.aload_n 0, 1) := by decide +kernel
theorem dX9_book_17 : decode cX9_book 17 = .ok (.getfield 34, 3) := by decide +kernel
theorem dX9_book_20 : decode cX9_book 20 = .ok (.iload_n 1, 1) := by decide +kernel
theorem dX9_book_21 : decode cX9_book 21 = .ok (.invokevirtual 84, 3) := by decide +kernel
theorem dX9_book_24 : decode cX9_book 24 = .ok (.ifCond .ne 5, 3) := by decide +kernel
theorem dX9_book_27 : decode cX9_book 27 = .ok (.iconst (-1), 1) := by decide +kernel
theorem dX9_book_28 : decode cX9_book 28 = .ok (.ireturn, 1) := by decide +kernel
theorem dX9_book_29 : decode cX9_book 29 = .ok (.iload_n 2, 1) := by decide +kernel
theorem dX9_book_30 : decode cX9_book 30 = .ok (.bipush 99, 2) := by decide +kernel
theorem dX9_book_32 : decode cX9_book 32 = .ok (.invokestatic 76, 3) := by decide +kernel
theorem dX9_book_35 : decode cX9_book 35 = .ok (.ifCond .eq 6, 3) := by decide +kernel
theorem dX9_book_38 : decode cX9_book 38 = .ok (.bipush (-2), 2) := by decide +kernel
theorem dX9_book_40 : decode cX9_book 40 = .ok (.ireturn, 1) := by decide +kernel
theorem dX9_book_41 : decode cX9_book 41 = .ok (.aload_n 0, 1) := by decide +kernel
theorem dX9_book_42 : decode cX9_book 42 = .ok (.getfield 47, 3) := by decide +kernel
theorem dX9_book_45 : decode cX9_book 45 = .ok (.getfield 238, 3) := by decide +kernel
theorem dX9_book_48 : decode cX9_book 48 = .ok (.iload_n 1, 1) := by decide +kernel
theorem dX9_book_49 : decode cX9_book 49 = .ok (.iconst 0, 1) := by decide +kernel
theorem dX9_book_50 : decode cX9_book 50 = .ok (.iload_n 2, 1) := by decide +kernel
theorem dX9_book_51 : decode cX9_book 51 = .ok (.invokevirtual 205, 3) := by decide +kernel
theorem dX9_book_54 : decode cX9_book 54 = .ok (.ireturn, 1) := by decide +kernel
theorem dX9_looked_0 : decode cX9_looked 0 = .ok (.aload_n 0, 1) := by decide +kernel
theorem dX9_looked_1 : decode cX9_looked 1 = .ok (.getfield 47, 3) := by decide +kernel
theorem dX9_looked_4 : decode cX9_looked 4 = .ok (.getfield 238, 3) := by decide +kernel
theorem dX9_looked_7 : decode cX9_looked 7 = .ok (.astore_n 1, 1) := by decide +kernel
theorem dX9_looked_8 : decode cX9_looked 8 = .ok (.iconst 0, 1) := by decide +kernel
theorem dX9_looked_9 : decode cX9_looked 9 = .ok (.istore_n 2, 1) := by decide +kernel
theorem dX9_looked_10 : decode cX9_looked 10 = .ok (.iload_n 2, 1) := by decide +kernel
theorem dX9_looked_11 : decode cX9_looked 11 = .ok (.aload_n 1, 1) := by decide +kernel
theorem dX9_looked_12 : decode cX9_looked 12 = .ok (.getfield 226, 3) := by decide +kernel
theorem dX9_looked_15 : decode cX9_looked 15 = .ok (.if_icmp .ge 37, 3) := by decide +kernel
theorem dX9_looked_18 : decode cX9_looked 18 = .ok (.aload_n 0, 1) := by decide +kernel
theorem dX9_looked_19 : decode cX9_looked 19 = .ok (.getfield 34, 3) := by decide +kernel
theorem dX9_looked_22 : decode cX9_looked 22 = .ok (.getfield 88, 3) := by decide +kernel
theorem dX9_looked_25 : decode cX9_looked 25 = .ok (.aload_n 1, 1) := by decide +kernel
theorem dX9_looked_26 : decode cX9_looked 26 = .ok (.getfield 232, 3) := by decide +kernel
theorem dX9_looked_29 : decode cX9_looked 29 = .ok (.iload_n 2, 1) := by decide +kernel
theorem dX9_looked_30 : decode cX9_looked 30 = .ok (.iaload, 1) := by decide +kernel
theorem dX9_looked_31 : decode cX9_looked 31 = .ok (.aaload, 1) := by decide +kernel
theorem dX9_looked_32 : decode cX9_looked 32 = .ok (.getfield 100, 3) := by decide +kernel
theorem dX9_looked_35 : decode cX9_looked 35 = .ok (.aload_n 1, 1) := by decide +kernel
theorem dX9_looked_36 : decode cX9_looked 36 = .ok (.getfield 241, 3) := by decide +kernel
theorem dX9_looked_39 : decode cX9_looked 39 = .ok (.iload_n 2, 1) := by decide +kernel
theorem dX9_looked_40 : decode cX9_looked 40 = .ok (.iaload, 1) := by decide +kernel
theorem dX9_looked_41 : decode cX9_looked 41 = .ok (.if_icmp .eq 5, 3) := by decide +kernel
theorem dX9_looked_44 : decode cX9_looked 44 = .ok (.iload_n 2, 1) := by decide +kernel
theorem dX9_looked_45 : decode cX9_looked 45 = .ok (.ireturn, 1) := by decide +kernel
theorem dX9_looked_46 : decode cX9_looked 46 = .ok (.iinc 2 1, 3) := by decide +kernel
theorem dX9_looked_49 : decode cX9_looked 49 = .ok (.goto (-39), 3) := by decide +kernel
theorem dX9_looked_52 : decode cX9_looked 52 = .ok (.bipush (-5), 2) := by decide +kernel
theorem dX9_looked_54 : decode cX9_looked 54 = .ok (.ireturn, 1) := by decide +kernel
theorem dX9_judge_0 : decode cX9_judge 0 = .ok (.iload_n 1, 1) := by decide +kernel
theorem dX9_judge_1 : decode cX9_judge 1 = .ok (.iconst 5, 1) := by decide +kernel
theorem dX9_judge_2 : decode cX9_judge 2 = .ok (.invokestatic 76, 3) := by decide +kernel
theorem dX9_judge_5 : decode cX9_judge 5 = .ok (.ifCond .eq 5, 3) := by decide +kernel
theorem dX9_judge_8 : decode cX9_judge 8 = .ok (.iconst (-1), 1) := by decide +kernel
theorem dX9_judge_9 : decode cX9_judge 9 = .ok (.ireturn, 1) := by decide +kernel
theorem dX9_judge_10 : decode cX9_judge 10 = .ok (.aload_n 0, 1) := by decide +kernel
theorem dX9_judge_11 : decode cX9_judge 11 = .ok (.getfield 63, 3) := by decide +kernel
theorem dX9_judge_14 : decode cX9_judge 14 = .ok (.iload_n 1, 1) := by decide +kernel
theorem dX9_judge_15 : decode cX9_judge 15 = .ok (.aaload, 1) := by decide +kernel
theorem dX9_judge_16 : decode cX9_judge 16 = .ok (.astore_n 3, 1) := by decide +kernel
theorem dX9_judge_17 : decode cX9_judge 17 = .ok (.aload_n 3, 1) := by decide +kernel
theorem dX9_judge_18 : decode cX9_judge 18 = .ok (.getfield 244, 3) := by decide +kernel
theorem dX9_judge_21 : decode cX9_judge 21 = .ok (.ifCond .eq 14, 3) := by decide +kernel
theorem dX9_judge_24 : decode cX9_judge 24 = .ok (.aload_n 3, 1) := by decide +kernel
theorem dX9_judge_25 : decode cX9_judge 25 = .ok (.getfield 244, 3) := by decide +kernel
theorem dX9_judge_28 : decode cX9_judge 28 = .ok (.iconst (-1), 1) := by decide +kernel
theorem dX9_judge_29 : decode cX9_judge 29 = .ok (.if_icmp .eq 6, 3) := by decide +kernel
theorem dX9_judge_32 : decode cX9_judge 32 = .ok (.bipush (-12), 2) := by decide +kernel
theorem dX9_judge_34 : decode cX9_judge 34 = .ok (.ireturn, 1) := by decide +kernel
theorem dX9_judge_35 : decode cX9_judge 35 = .ok (.iconst 0, 1) := by decide +kernel
theorem dX9_judge_36 : decode cX9_judge 36 = .ok (.istore 4, 2) := by decide +kernel
theorem dX9_judge_38 : decode cX9_judge 38 = .ok (.iload 4, 2) := by decide +kernel
theorem dX9_judge_40 : decode cX9_judge 40 = .ok (.aload_n 0, 1) := by decide +kernel
theorem dX9_judge_41 : decode cX9_judge 41 = .ok (.getfield 34, 3) := by decide +kernel
theorem dX9_judge_44 : decode cX9_judge 44 = .ok (.getfield 213, 3) := by decide +kernel
theorem dX9_judge_47 : decode cX9_judge 47 = .ok (.if_icmp .ge 60, 3) := by decide +kernel
theorem dX9_judge_50 : decode cX9_judge 50 = .ok (.iload_n 2, 1) := by decide +kernel
theorem dX9_judge_51 : decode cX9_judge 51 = .ok (.ifCond .lt 14, 3) := by decide +kernel
theorem dX9_judge_54 : decode cX9_judge 54 = .ok (.iload_n 2, 1) := by decide +kernel
theorem dX9_judge_55 : decode cX9_judge 55 = .ok (.aload_n 3, 1) := by decide +kernel
theorem dX9_judge_56 : decode cX9_judge 56 = .ok (.getfield 246, 3) := by decide +kernel
theorem dX9_judge_59 : decode cX9_judge 59 = .ok (.iload 4, 2) := by decide +kernel
theorem dX9_judge_61 : decode cX9_judge 61 = .ok (.isub, 1) := by decide +kernel
theorem dX9_judge_62 : decode cX9_judge 62 = .ok (.if_icmp .lt 9, 3) := by decide +kernel
theorem dX9_judge_65 : decode cX9_judge 65 = .ok (.bipush 100, 2) := by decide +kernel
theorem dX9_judge_67 : decode cX9_judge 67 = .ok (.iload 4, 2) := by decide +kernel
theorem dX9_judge_69 : decode cX9_judge 69 = .ok (.iadd, 1) := by decide +kernel
theorem dX9_judge_70 : decode cX9_judge 70 = .ok (.ireturn, 1) := by decide +kernel
theorem dX9_judge_71 : decode cX9_judge 71 = .ok (.aload_n 3, 1) := by decide +kernel
theorem dX9_judge_72 : decode cX9_judge 72 = .ok (.getfield 247, 3) := by decide +kernel
theorem dX9_judge_75 : decode cX9_judge 75 = .ok (.iload_n 2, 1) := by decide +kernel
theorem dX9_judge_76 : decode cX9_judge 76 = .ok (.iload 4, 2) := by decide +kernel
theorem dX9_judge_78 : decode cX9_judge 78 = .ok (.iadd, 1) := by decide +kernel
theorem dX9_judge_79 : decode cX9_judge 79 = .ok (.laload, 1) := by decide +kernel
theorem dX9_judge_80 : decode cX9_judge 80 = .ok (.aload_n 0, 1) := by decide +kernel
theorem dX9_judge_81 : decode cX9_judge 81 = .ok (.getfield 34, 3) := by decide +kernel
theorem dX9_judge_84 : decode cX9_judge 84 = .ok (.getfield 88, 3) := by decide +kernel
theorem dX9_judge_87 : decode cX9_judge 87 = .ok (.iload 4, 2) := by decide +kernel
theorem dX9_judge_89 : decode cX9_judge 89 = .ok (.aaload, 1) := by decide +kernel
theorem dX9_judge_90 : decode cX9_judge 90 = .ok (.getfield 100, 3) := by decide +kernel
theorem dX9_judge_93 : decode cX9_judge 93 = .ok (.i2l, 1) := by decide +kernel
theorem dX9_judge_94 : decode cX9_judge 94 = .ok (.lcmp, 1) := by decide +kernel
theorem dX9_judge_95 : decode cX9_judge 95 = .ok (.ifCond .eq 6, 3) := by decide +kernel
theorem dX9_judge_98 : decode cX9_judge 98 = .ok (.iload 4, 2) := by decide +kernel
theorem dX9_judge_100 : decode cX9_judge 100 = .ok (.ireturn, 1) := by decide +kernel
theorem dX9_judge_101 : decode cX9_judge 101 = .ok (.iinc 4 1, 3) := by decide +kernel
theorem dX9_judge_104 : decode cX9_judge 104 = .ok (.goto (-66), 3) := by decide +kernel
theorem dX9_judge_107 : decode cX9_judge 107 = .ok (.bipush (-5), 2) := by decide +kernel
theorem dX9_judge_109 : decode cX9_judge 109 = .ok (.ireturn, 1) := by decide +kernel
theorem dX9_image_0 : decode cX9_image 0 = .ok (.aload_n 0, 1) := by decide +kernel
theorem dX9_image_1 : decode cX9_image 1 = .ok (.getfield 41, 3) := by decide +kernel
theorem dX9_image_4 : decode cX9_image 4 = .ok (.aload_n 0, 1) := by decide +kernel
theorem dX9_image_5 : decode cX9_image 5 = .ok (.getfield 34, 3) := by decide +kernel
theorem dX9_image_8 : decode cX9_image 8 = .ok (.invokevirtual 183, 3) := by decide +kernel
theorem dX9_image_11 : decode cX9_image 11 = .ok (.aload_n 0, 1) := by decide +kernel
theorem dX9_image_12 : decode cX9_image 12 = .ok (.getfield 51, 3) := by decide +kernel
theorem dX9_image_15 : decode cX9_image 15 = .ok (.aload_n 0, 1) := by decide +kernel
theorem dX9_image_16 : decode cX9_image 16 = .ok (.getfield 47, 3) := by decide +kernel
theorem dX9_image_19 : decode cX9_image 19 = .ok (.invokevirtual 251, 3) := by decide +kernel
theorem dX9_image_22 : decode cX9_image 22 = .ok (.aload_n 0, 1) := by decide +kernel
theorem dX9_image_23 : decode cX9_image 23 = .ok (.iconst 1, 1) := by decide +kernel
theorem dX9_image_24 : decode cX9_image 24 = .ok (.putfield 71, 3) := by decide +kernel
theorem dX9_image_27 : decode cX9_image 27 = .ok (.aload_n 0, 1) := by decide +kernel
theorem dX9_image_28 : decode cX9_image 28 = .ok (.getfield 34, 3) := by decide +kernel
theorem dX9_image_31 : decode cX9_image 31 = .ok (.getfield 213, 3) := by decide +kernel
theorem dX9_image_34 : decode cX9_image 34 = .ok (.ireturn, 1) := by decide +kernel
theorem dX9_undo_0 : decode cX9_undo 0 = .ok (.aload_n 0, 1) := by decide +kernel
theorem dX9_undo_1 : decode cX9_undo 1 = .ok (.getfield 71, 3) := by decide +kernel
theorem dX9_undo_4 : decode cX9_undo 4 = .ok (.ifCond .ne 6, 3) := by decide +kernel
theorem dX9_undo_7 : decode cX9_undo 7 = .ok (.bipush (-3), 2) := by decide +kernel
theorem dX9_undo_9 : decode cX9_undo 9 = .ok (.ireturn, 1) := by decide +kernel
theorem dX9_undo_10 : decode cX9_undo 10 = .ok (.aload_n 0, 1) := by decide +kernel
theorem dX9_undo_11 : decode cX9_undo 11 = .ok (.getfield 34, 3) := by decide +kernel
theorem dX9_undo_14 : decode cX9_undo 14 = .ok (.aload_n 0, 1) := by decide +kernel
theorem dX9_undo_15 : decode cX9_undo 15 = .ok (.getfield 41, 3) := by decide +kernel
theorem dX9_undo_18 : decode cX9_undo 18 = .ok (.invokevirtual 183, 3) := by decide +kernel
theorem dX9_undo_21 : decode cX9_undo 21 = .ok (.aload_n 0, 1) := by decide +kernel
theorem dX9_undo_22 : decode cX9_undo 22 = .ok (.getfield 47, 3) := by decide +kernel
theorem dX9_undo_25 : decode cX9_undo 25 = .ok (.aload_n 0, 1) := by decide +kernel
theorem dX9_undo_26 : decode cX9_undo 26 = .ok (.getfield 51, 3) := by decide +kernel
theorem dX9_undo_29 : decode cX9_undo 29 = .ok (.invokevirtual 251, 3) := by decide +kernel
theorem dX9_undo_32 : decode cX9_undo 32 = .ok (.aload_n 0, 1) := by decide +kernel
theorem dX9_undo_33 : decode cX9_undo 33 = .ok (.getfield 34, 3) := by decide +kernel
theorem dX9_undo_36 : decode cX9_undo 36 = .ok (.getfield 213, 3) := by decide +kernel
theorem dX9_undo_39 : decode cX9_undo 39 = .ok (.ireturn, 1) := by decide +kernel
theorem dX9_act_0 : decode cX9_act 0 = .ok (.aload_n 0, 1) := by decide +kernel
theorem dX9_act_1 : decode cX9_act 1 = .ok (.getfield 57, 3) := by decide +kernel
theorem dX9_act_4 : decode cX9_act 4 = .ok (.iconst 0, 1) := by decide +kernel
theorem dX9_act_5 : decode cX9_act 5 = .ok (.putfield 254, 3) := by decide +kernel
theorem dX9_act_8 : decode cX9_act 8 = .ok (.aload_n 0, 1) := by decide +kernel
theorem dX9_act_9 : decode cX9_act 9 = .ok (.getfield 34, 3) := by decide +kernel
theorem dX9_act_12 : decode cX9_act 12 = .ok (.iload_n 1, 1) := by decide +kernel
theorem dX9_act_13 : decode cX9_act 13 = .ok (.invokevirtual 84, 3) := by decide +kernel
theorem dX9_act_16 : decode cX9_act 16 = .ok (.ifCond .ne 5, 3) := by decide +kernel
theorem dX9_act_19 : decode cX9_act 19 = .ok (.iconst 0, 1) := by decide +kernel
theorem dX9_act_20 : decode cX9_act 20 = .ok (.ireturn, 1) := by decide +kernel
theorem dX9_act_21 : decode cX9_act 21 = .ok (.aload_n 0, 1) := by decide +kernel
theorem dX9_act_22 : decode cX9_act 22 = .ok (.getfield 34, 3) := by decide +kernel
theorem dX9_act_25 : decode cX9_act 25 = .ok (.getfield 88, 3) := by decide +kernel
theorem dX9_act_28 : decode cX9_act 28 = .ok (.iload_n 1, 1) := by decide +kernel
theorem dX9_act_29 : decode cX9_act 29 = .ok (.aaload, 1) := by decide +kernel
theorem dX9_act_30 : decode cX9_act 30 = .ok (.astore 4, 2) := by decide +kernel
theorem dX9_act_32 : decode cX9_act 32 = .ok (.iload_n 2, 1) := by decide +kernel
theorem dX9_act_33 : decode cX9_act 33 = .ok (.tableswitch 75 0 2 #[27, 43, 59], 27) := by decide +kernel
theorem dX9_act_60 : decode cX9_act 60 = .ok (.aload 4, 2) := by decide +kernel
theorem dX9_act_62 : decode cX9_act 62 = .ok (.aload 4, 2) := by decide +kernel
theorem dX9_act_64 : decode cX9_act 64 = .ok (.getfield 92, 3) := by decide +kernel
theorem dX9_act_67 : decode cX9_act 67 = .ok (.iload_n 3, 1) := by decide +kernel
theorem dX9_act_68 : decode cX9_act 68 = .ok (.aload_n 0, 1) := by decide +kernel
theorem dX9_act_69 : decode cX9_act 69 = .ok (.getfield 57, 3) := by decide +kernel
theorem dX9_act_72 : decode cX9_act 72 = .ok (.invokestatic 257, 3) := by decide +kernel
theorem dX9_act_75 : decode cX9_act 75 = .ok (.ireturn, 1) := by decide +kernel
theorem dX9_act_76 : decode cX9_act 76 = .ok (.aload 4, 2) := by decide +kernel
theorem dX9_act_78 : decode cX9_act 78 = .ok (.aload 4, 2) := by decide +kernel
theorem dX9_act_80 : decode cX9_act 80 = .ok (.getfield 92, 3) := by decide +kernel
theorem dX9_act_83 : decode cX9_act 83 = .ok (.iload_n 3, 1) := by decide +kernel
theorem dX9_act_84 : decode cX9_act 84 = .ok (.aload_n 0, 1) := by decide +kernel
theorem dX9_act_85 : decode cX9_act 85 = .ok (.getfield 57, 3) := by decide +kernel
theorem dX9_act_88 : decode cX9_act 88 = .ok (.invokestatic 261, 3) := by decide +kernel
theorem dX9_act_91 : decode cX9_act 91 = .ok (.ireturn, 1) := by decide +kernel
theorem dX9_act_92 : decode cX9_act 92 = .ok (.aload 4, 2) := by decide +kernel
theorem dX9_act_94 : decode cX9_act 94 = .ok (.aload 4, 2) := by decide +kernel
theorem dX9_act_96 : decode cX9_act 96 = .ok (.getfield 92, 3) := by decide +kernel
theorem dX9_act_99 : decode cX9_act 99 = .ok (.iload_n 3, 1) := by decide +kernel
theorem dX9_act_100 : decode cX9_act 100 = .ok (.aload_n 0, 1) := by decide +kernel
theorem dX9_act_101 : decode cX9_act 101 = .ok (.getfield 57, 3) := by decide +kernel
theorem dX9_act_104 : decode cX9_act 104 = .ok (.invokestatic 264, 3) := by decide +kernel
theorem dX9_act_107 : decode cX9_act 107 = .ok (.ireturn, 1) := by decide +kernel
theorem dX9_act_108 : decode cX9_act 108 = .ok (.iconst 0, 1) := by decide +kernel
theorem dX9_act_109 : decode cX9_act 109 = .ok (.ireturn, 1) := by decide +kernel
theorem dX9_trace_0 : decode cX9_trace 0 = .ok (.iload_n 1, 1) := by decide +kernel
theorem dX9_trace_1 : decode cX9_trace 1 = .ok (.ifCond .lt 38, 3) := by decide +kernel
theorem dX9_trace_4 : decode cX9_trace 4 = .ok (.iload_n 1, 1) := by decide +kernel
theorem dX9_trace_5 : decode cX9_trace 5 = .ok (.aload_n 0, 1) := by decide +kernel
theorem dX9_trace_6 : decode cX9_trace 6 = .ok (.getfield 57, 3) := by decide +kernel
theorem dX9_trace_9 : decode cX9_trace 9 = .ok (.getfield 254, 3) := by decide +kernel
theorem dX9_trace_12 : decode cX9_trace 12 = .ok (.if_icmp .ge 27, 3) := by decide +kernel
theorem dX9_trace_15 : decode cX9_trace 15 = .ok (.iload_n 1, 1) := by decide +kernel
theorem dX9_trace_16 : decode cX9_trace 16 = .ok (.aload_n 0, 1) := by decide +kernel
theorem dX9_trace_17 : decode cX9_trace 17 = .ok (.getfield 57, 3) := by decide +kernel
theorem dX9_trace_20 : decode cX9_trace 20 = .ok (.getfield 267, 3) := by decide +kernel
theorem dX9_trace_23 : decode cX9_trace 23 = .ok (.arraylength, 1) := by decide +kernel
theorem dX9_trace_24 : decode cX9_trace 24 = .ok (.if_icmp .ge 15, 3) := by decide +kernel
theorem dX9_trace_27 : decode cX9_trace 27 = .ok (.aload_n 0, 1) := by decide +kernel
theorem dX9_trace_28 : decode cX9_trace 28 = .ok (.getfield 57, 3) := by decide +kernel
theorem dX9_trace_31 : decode cX9_trace 31 = .ok (.getfield 267, 3) := by decide +kernel
theorem dX9_trace_34 : decode cX9_trace 34 = .ok (.iload_n 1, 1) := by decide +kernel
theorem dX9_trace_35 : decode cX9_trace 35 = .ok (.iaload, 1) := by decide +kernel
theorem dX9_trace_36 : decode cX9_trace 36 = .ok (.goto 4, 3) := by decide +kernel
theorem dX9_trace_39 : decode cX9_trace 39 = .ok (.iconst (-1), 1) := by decide +kernel
theorem dX9_trace_40 : decode cX9_trace 40 = .ok (.ireturn, 1) := by decide +kernel
theorem dX9_taken_0 : decode cX9_taken 0 = .ok (.iload_n 2, 1) := by decide +kernel
theorem dX9_taken_1 : decode cX9_taken 1 = .ok (.bipush 6, 2) := by decide +kernel
theorem dX9_taken_3 : decode cX9_taken 3 = .ok (.invokestatic 76, 3) := by decide +kernel
theorem dX9_taken_6 : decode cX9_taken 6 = .ok (.ifCond .eq 6, 3) := by decide +kernel
theorem dX9_taken_9 : decode cX9_taken 9 = .ok (.bipush (-2), 2) := by decide +kernel
theorem dX9_taken_11 : decode cX9_taken 11 = .ok (.ireturn, 1) := by decide +kernel
theorem dX9_taken_12 : decode cX9_taken 12 = .ok (.aload_n 0, 1) := by decide +kernel
theorem dX9_taken_13 : decode cX9_taken 13 = .ok (.getfield 34, 3) := by decide +kernel
theorem dX9_taken_16 : decode cX9_taken 16 = .ok (.iload_n 1, 1) := by decide +kernel
theorem dX9_taken_17 : decode cX9_taken 17 = .ok (.invokevirtual 84, 3) := by decide +kernel
theorem dX9_taken_20 : decode cX9_taken 20 = .ok (.ifCond .ne 6, 3) := by decide +kernel
theorem dX9_taken_23 : decode cX9_taken 23 = .ok (.bipush (-11), 2) := by decide +kernel
theorem dX9_taken_25 : decode cX9_taken 25 = .ok (.ireturn, 1) := by decide +kernel
theorem dX9_taken_26 : decode cX9_taken 26 = .ok (.aload_n 0, 1) := by decide +kernel
theorem dX9_taken_27 : decode cX9_taken 27 = .ok (.getfield 34, 3) := by decide +kernel
theorem dX9_taken_30 : decode cX9_taken 30 = .ok (.getfield 88, 3) := by decide +kernel
theorem dX9_taken_33 : decode cX9_taken 33 = .ok (.iload_n 1, 1) := by decide +kernel
theorem dX9_taken_34 : decode cX9_taken 34 = .ok (.aaload, 1) := by decide +kernel
theorem dX9_taken_35 : decode cX9_taken 35 = .ok (.getfield 92, 3) := by decide +kernel
theorem dX9_taken_38 : decode cX9_taken 38 = .ok (.istore_n 3, 1) := by decide +kernel
theorem dX9_taken_39 : decode cX9_taken 39 = .ok (.iload_n 3, 1) := by decide +kernel
theorem dX9_taken_40 : decode cX9_taken 40 = .ok (.iload_n 2, 1) := by decide +kernel
theorem dX9_taken_41 : decode cX9_taken 41 = .ok (.if_icmp .eq 15, 3) := by decide +kernel
theorem dX9_taken_44 : decode cX9_taken 44 = .ok (.iload_n 3, 1) := by decide +kernel
theorem dX9_taken_45 : decode cX9_taken 45 = .ok (.invokestatic 270, 3) := by decide +kernel
theorem dX9_taken_48 : decode cX9_taken 48 = .ok (.iload_n 2, 1) := by decide +kernel
theorem dX9_taken_49 : decode cX9_taken 49 = .ok (.if_icmp .eq 7, 3) := by decide +kernel
theorem dX9_taken_52 : decode cX9_taken 52 = .ok (.iload_n 2, 1) := by decide +kernel
theorem dX9_taken_53 : decode cX9_taken 53 = .ok (.ifCond .ne 7, 3) := by decide +kernel
theorem dX9_taken_56 : decode cX9_taken 56 = .ok (.iload_n 3, 1) := by decide +kernel
theorem dX9_taken_57 : decode cX9_taken 57 = .ok (.goto 5, 3) := by decide +kernel
theorem dX9_taken_60 : decode cX9_taken 60 = .ok (.bipush (-12), 2) := by decide +kernel
theorem dX9_taken_62 : decode cX9_taken 62 = .ok (.ireturn, 1) := by decide +kernel
theorem dX9_count_0 : decode cX9_count 0 = .ok (.iload_n 1, 1) := by decide +kernel
theorem dX9_count_1 : decode cX9_count 1 = .ok (.tableswitch 132 0 8 #[51, 59, 67, 72, 83, 94, 105, 116, 124], 51) := by decide +kernel
theorem dX9_count_52 : decode cX9_count 52 = .ok (.aload_n 0, 1) := by decide +kernel
theorem dX9_count_53 : decode cX9_count 53 = .ok (.getfield 34, 3) := by decide +kernel
theorem dX9_count_56 : decode cX9_count 56 = .ok (.getfield 213, 3) := by decide +kernel
theorem dX9_count_59 : decode cX9_count 59 = .ok (.ireturn, 1) := by decide +kernel
theorem dX9_count_60 : decode cX9_count 60 = .ok (.aload_n 0, 1) := by decide +kernel
theorem dX9_count_61 : decode cX9_count 61 = .ok (.getfield 34, 3) := by decide +kernel
theorem dX9_count_64 : decode cX9_count 64 = .ok (.getfield 273, 3) := by decide +kernel
theorem dX9_count_67 : decode cX9_count 67 = .ok (.ireturn, 1) := by decide +kernel
theorem dX9_count_68 : decode cX9_count 68 = .ok (.aload_n 0, 1) := by decide +kernel
theorem dX9_count_69 : decode cX9_count 69 = .ok (.getfield 67, 3) := by decide +kernel
theorem dX9_count_72 : decode cX9_count 72 = .ok (.ireturn, 1) := by decide +kernel
theorem dX9_count_73 : decode cX9_count 73 = .ok (.aload_n 0, 1) := by decide +kernel
theorem dX9_count_74 : decode cX9_count 74 = .ok (.getfield 47, 3) := by decide +kernel
theorem dX9_count_77 : decode cX9_count 77 = .ok (.getfield 196, 3) := by decide +kernel
theorem dX9_count_80 : decode cX9_count 80 = .ok (.getfield 226, 3) := by decide +kernel
theorem dX9_count_83 : decode cX9_count 83 = .ok (.ireturn, 1) := by decide +kernel
theorem dX9_count_84 : decode cX9_count 84 = .ok (.aload_n 0, 1) := by decide +kernel
theorem dX9_count_85 : decode cX9_count 85 = .ok (.getfield 47, 3) := by decide +kernel
theorem dX9_count_88 : decode cX9_count 88 = .ok (.getfield 208, 3) := by decide +kernel
theorem dX9_count_91 : decode cX9_count 91 = .ok (.getfield 226, 3) := by decide +kernel
theorem dX9_count_94 : decode cX9_count 94 = .ok (.ireturn, 1) := by decide +kernel
theorem dX9_count_95 : decode cX9_count 95 = .ok (.aload_n 0, 1) := by decide +kernel
theorem dX9_count_96 : decode cX9_count 96 = .ok (.getfield 47, 3) := by decide +kernel
theorem dX9_count_99 : decode cX9_count 99 = .ok (.getfield 223, 3) := by decide +kernel
theorem dX9_count_102 : decode cX9_count 102 = .ok (.getfield 226, 3) := by decide +kernel
theorem dX9_count_105 : decode cX9_count 105 = .ok (.ireturn, 1) := by decide +kernel
theorem dX9_count_106 : decode cX9_count 106 = .ok (.aload_n 0, 1) := by decide +kernel
theorem dX9_count_107 : decode cX9_count 107 = .ok (.getfield 47, 3) := by decide +kernel
theorem dX9_count_110 : decode cX9_count 110 = .ok (.getfield 238, 3) := by decide +kernel
theorem dX9_count_113 : decode cX9_count 113 = .ok (.getfield 226, 3) := by decide +kernel
theorem dX9_count_116 : decode cX9_count 116 = .ok (.ireturn, 1) := by decide +kernel
theorem dX9_count_117 : decode cX9_count 117 = .ok (.aload_n 0, 1) := by decide +kernel
theorem dX9_count_118 : decode cX9_count 118 = .ok (.getfield 25, 3) := by decide +kernel
theorem dX9_count_121 : decode cX9_count 121 = .ok (.getfield 154, 3) := by decide +kernel
theorem dX9_count_124 : decode cX9_count 124 = .ok (.ireturn, 1) := by decide +kernel
theorem dX9_count_125 : decode cX9_count 125 = .ok (.aload_n 0, 1) := by decide +kernel
theorem dX9_count_126 : decode cX9_count 126 = .ok (.getfield 57, 3) := by decide +kernel
theorem dX9_count_129 : decode cX9_count 129 = .ok (.getfield 254, 3) := by decide +kernel
theorem dX9_count_132 : decode cX9_count 132 = .ok (.ireturn, 1) := by decide +kernel
theorem dX9_count_133 : decode cX9_count 133 = .ok (.bipush (-2), 2) := by decide +kernel
theorem dX9_count_135 : decode cX9_count 135 = .ok (.ireturn, 1) := by decide +kernel
theorem dX9_tape_0 : decode cX9_tape 0 = .ok (.iload_n 1, 1) := by decide +kernel
theorem dX9_tape_1 : decode cX9_tape 1 = .ok (.iconst 5, 1) := by decide +kernel
theorem dX9_tape_2 : decode cX9_tape 2 = .ok (.invokestatic 76, 3) := by decide +kernel
theorem dX9_tape_5 : decode cX9_tape 5 = .ok (.ifCond .eq 5, 3) := by decide +kernel
theorem dX9_tape_8 : decode cX9_tape 8 = .ok (.iconst (-1), 1) := by decide +kernel
theorem dX9_tape_9 : decode cX9_tape 9 = .ok (.ireturn, 1) := by decide +kernel
theorem dX9_tape_10 : decode cX9_tape 10 = .ok (.iload_n 2, 1) := by decide +kernel
theorem dX9_tape_11 : decode cX9_tape 11 = .ok (.iconst (-1), 1) := by decide +kernel
theorem dX9_tape_12 : decode cX9_tape 12 = .ok (.if_icmp .lt 8, 3) := by decide +kernel
theorem dX9_tape_15 : decode cX9_tape 15 = .ok (.iload_n 2, 1) := by decide +kernel
theorem dX9_tape_16 : decode cX9_tape 16 = .ok (.iconst 4, 1) := by decide +kernel
theorem dX9_tape_17 : decode cX9_tape 17 = .ok (.if_icmp .le 6, 3) := by decide +kernel
theorem dX9_tape_20 : decode cX9_tape 20 = .ok (.bipush (-2), 2) := by decide +kernel
theorem dX9_tape_22 : decode cX9_tape 22 = .ok (.ireturn, 1) := by decide +kernel
theorem dX9_tape_23 : decode cX9_tape 23 = .ok (.iload_n 2, 1) := by decide +kernel
theorem dX9_tape_24 : decode cX9_tape 24 = .ok (.iconst (-1), 1) := by decide +kernel
theorem dX9_tape_25 : decode cX9_tape 25 = .ok (.if_icmp .eq 12, 3) := by decide +kernel
theorem dX9_tape_28 : decode cX9_tape 28 = .ok (.iload_n 3, 1) := by decide +kernel
theorem dX9_tape_29 : decode cX9_tape 29 = .ok (.bipush 60, 2) := by decide +kernel
theorem dX9_tape_31 : decode cX9_tape 31 = .ok (.if_icmp .le 6, 3) := by decide +kernel
theorem dX9_tape_34 : decode cX9_tape 34 = .ok (.bipush (-2), 2) := by decide +kernel
theorem dX9_tape_36 : decode cX9_tape 36 = .ok (.ireturn, 1) := by decide +kernel
theorem dX9_tape_37 : decode cX9_tape 37 = .ok (.iload_n 2, 1) := by decide +kernel
theorem dX9_tape_38 : decode cX9_tape 38 = .ok (.iconst (-1), 1) := by decide +kernel
theorem dX9_tape_39 : decode cX9_tape 39 = .ok (.if_icmp .eq 10, 3) := by decide +kernel
theorem dX9_tape_42 : decode cX9_tape 42 = .ok (.iload_n 3, 1) := by decide +kernel
theorem dX9_tape_43 : decode cX9_tape 43 = .ok (.ifCond .ge 6, 3) := by decide +kernel
theorem dX9_tape_46 : decode cX9_tape 46 = .ok (.bipush (-14), 2) := by decide +kernel
theorem dX9_tape_48 : decode cX9_tape 48 = .ok (.ireturn, 1) := by decide +kernel
theorem dX9_tape_49 : decode cX9_tape 49 = .ok (.aload_n 0, 1) := by decide +kernel
theorem dX9_tape_50 : decode cX9_tape 50 = .ok (.getfield 63, 3) := by decide +kernel
theorem dX9_tape_53 : decode cX9_tape 53 = .ok (.iload_n 1, 1) := by decide +kernel
theorem dX9_tape_54 : decode cX9_tape 54 = .ok (.aaload, 1) := by decide +kernel
theorem dX9_tape_55 : decode cX9_tape 55 = .ok (.iload_n 2, 1) := by decide +kernel
theorem dX9_tape_56 : decode cX9_tape 56 = .ok (.iload_n 2, 1) := by decide +kernel
theorem dX9_tape_57 : decode cX9_tape 57 = .ok (.iconst (-1), 1) := by decide +kernel
theorem dX9_tape_58 : decode cX9_tape 58 = .ok (.if_icmp .ne 7, 3) := by decide +kernel
theorem dX9_tape_61 : decode cX9_tape 61 = .ok (.iconst 0, 1) := by decide +kernel
theorem dX9_tape_62 : decode cX9_tape 62 = .ok (.goto 4, 3) := by decide +kernel
theorem dX9_tape_65 : decode cX9_tape 65 = .ok (.iload_n 3, 1) := by decide +kernel
theorem dX9_tape_66 : decode cX9_tape 66 = .ok (.invokevirtual 276, 3) := by decide +kernel
theorem dX9_tape_69 : decode cX9_tape 69 = .ok (.iconst 1, 1) := by decide +kernel
theorem dX9_tape_70 : decode cX9_tape 70 = .ok (.ireturn, 1) := by decide +kernel
theorem dX9_item_0 : decode cX9_item 0 = .ok (.iload_n 1, 1) := by decide +kernel
theorem dX9_item_1 : decode cX9_item 1 = .ok (.iconst 5, 1) := by decide +kernel
theorem dX9_item_2 : decode cX9_item 2 = .ok (.invokestatic 76, 3) := by decide +kernel
theorem dX9_item_5 : decode cX9_item 5 = .ok (.ifCond .eq 5, 3) := by decide +kernel
theorem dX9_item_8 : decode cX9_item 8 = .ok (.iconst (-1), 1) := by decide +kernel
theorem dX9_item_9 : decode cX9_item 9 = .ok (.ireturn, 1) := by decide +kernel
theorem dX9_item_10 : decode cX9_item 10 = .ok (.aload_n 0, 1) := by decide +kernel
theorem dX9_item_11 : decode cX9_item 11 = .ok (.getfield 63, 3) := by decide +kernel
theorem dX9_item_14 : decode cX9_item 14 = .ok (.iload_n 1, 1) := by decide +kernel
theorem dX9_item_15 : decode cX9_item 15 = .ok (.aaload, 1) := by decide +kernel
theorem dX9_item_16 : decode cX9_item 16 = .ok (.astore 5, 2) := by decide +kernel
theorem dX9_item_18 : decode cX9_item 18 = .ok (.aload 5, 2) := by decide +kernel
theorem dX9_item_20 : decode cX9_item 20 = .ok (.getfield 244, 3) := by decide +kernel
theorem dX9_item_23 : decode cX9_item 23 = .ok (.iconst (-1), 1) := by decide +kernel
theorem dX9_item_24 : decode cX9_item 24 = .ok (.if_icmp .ne 6, 3) := by decide +kernel
theorem dX9_item_27 : decode cX9_item 27 = .ok (.bipush (-11), 2) := by decide +kernel
theorem dX9_item_29 : decode cX9_item 29 = .ok (.ireturn, 1) := by decide +kernel
theorem dX9_item_30 : decode cX9_item 30 = .ok (.iload_n 2, 1) := by decide +kernel
theorem dX9_item_31 : decode cX9_item 31 = .ok (.aload 5, 2) := by decide +kernel
theorem dX9_item_33 : decode cX9_item 33 = .ok (.getfield 246, 3) := by decide +kernel
theorem dX9_item_36 : decode cX9_item 36 = .ok (.iconst 1, 1) := by decide +kernel
theorem dX9_item_37 : decode cX9_item 37 = .ok (.isub, 1) := by decide +kernel
theorem dX9_item_38 : decode cX9_item 38 = .ok (.invokestatic 76, 3) := by decide +kernel
theorem dX9_item_41 : decode cX9_item 41 = .ok (.ifCond .eq 6, 3) := by decide +kernel
theorem dX9_item_44 : decode cX9_item 44 = .ok (.bipush (-13), 2) := by decide +kernel
theorem dX9_item_46 : decode cX9_item 46 = .ok (.ireturn, 1) := by decide +kernel
theorem dX9_item_47 : decode cX9_item 47 = .ok (.aload 5, 2) := by decide +kernel
theorem dX9_item_49 : decode cX9_item 49 = .ok (.getfield 247, 3) := by decide +kernel
theorem dX9_item_52 : decode cX9_item 52 = .ok (.iload_n 2, 1) := by decide +kernel
theorem dX9_item_53 : decode cX9_item 53 = .ok (.aload 5, 2) := by decide +kernel
theorem dX9_item_55 : decode cX9_item 55 = .ok (.lload_n 3, 1) := by decide +kernel
theorem dX9_item_56 : decode cX9_item 56 = .ok (.invokevirtual 278, 3) := by decide +kernel
theorem dX9_item_59 : decode cX9_item 59 = .ok (.lastore, 1) := by decide +kernel
theorem dX9_item_60 : decode cX9_item 60 = .ok (.iconst 1, 1) := by decide +kernel
theorem dX9_item_61 : decode cX9_item 61 = .ok (.ireturn, 1) := by decide +kernel
theorem dX9_read_0 : decode cX9_read 0 = .ok (.iload_n 1, 1) := by decide +kernel
theorem dX9_read_1 : decode cX9_read 1 = .ok (.iconst 5, 1) := by decide +kernel
theorem dX9_read_2 : decode cX9_read 2 = .ok (.invokestatic 76, 3) := by decide +kernel
theorem dX9_read_5 : decode cX9_read 5 = .ok (.ifCond .eq 7, 3) := by decide +kernel
theorem dX9_read_8 : decode cX9_read 8 = .ok (.ldc2_w 211, 3) := by decide +kernel
theorem dX9_read_11 : decode cX9_read 11 = .ok (.lreturn, 1) := by decide +kernel
theorem dX9_read_12 : decode cX9_read 12 = .ok (.aload_n 0, 1) := by decide +kernel
theorem dX9_read_13 : decode cX9_read 13 = .ok (.getfield 63, 3) := by decide +kernel
theorem dX9_read_16 : decode cX9_read 16 = .ok (.iload_n 1, 1) := by decide +kernel
theorem dX9_read_17 : decode cX9_read 17 = .ok (.aaload, 1) := by decide +kernel
theorem dX9_read_18 : decode cX9_read 18 = .ok (.astore_n 3, 1) := by decide +kernel
theorem dX9_read_19 : decode cX9_read 19 = .ok (.iload_n 2, 1) := by decide +kernel
theorem dX9_read_20 : decode cX9_read 20 = .ok (.aload_n 3, 1) := by decide +kernel
theorem dX9_read_21 : decode cX9_read 21 = .ok (.getfield 246, 3) := by decide +kernel
theorem dX9_read_24 : decode cX9_read 24 = .ok (.iconst 1, 1) := by decide +kernel
theorem dX9_read_25 : decode cX9_read 25 = .ok (.isub, 1) := by decide +kernel
theorem dX9_read_26 : decode cX9_read 26 = .ok (.invokestatic 76, 3) := by decide +kernel
theorem dX9_read_29 : decode cX9_read 29 = .ok (.ifCond .eq 9, 3) := by decide +kernel
theorem dX9_read_32 : decode cX9_read 32 = .ok (.ldc2_w 211, 3) := by decide +kernel
theorem dX9_read_35 : decode cX9_read 35 = .ok (.goto 9, 3) := by decide +kernel
theorem dX9_read_38 : decode cX9_read 38 = .ok (.aload_n 3, 1) := by decide +kernel
theorem dX9_read_39 : decode cX9_read 39 = .ok (.getfield 247, 3) := by decide +kernel
theorem dX9_read_42 : decode cX9_read 42 = .ok (.iload_n 2, 1) := by decide +kernel
theorem dX9_read_43 : decode cX9_read 43 = .ok (.laload, 1) := by decide +kernel
theorem dX9_read_44 : decode cX9_read 44 = .ok (.lreturn, 1) := by decide +kernel
theorem dX9_shift_0 : decode cX9_shift 0 = .ok (.iload_n 1, 1) := by decide +kernel
theorem dX9_shift_1 : decode cX9_shift 1 = .ok (.iconst 5, 1) := by decide +kernel
theorem dX9_shift_2 : decode cX9_shift 2 = .ok (.invokestatic 76, 3) := by decide +kernel
theorem dX9_shift_5 : decode cX9_shift 5 = .ok (.ifCond .ne 11, 3) := by decide +kernel
theorem dX9_shift_8 : decode cX9_shift 8 = .ok (.iload_n 3, 1) := by decide +kernel
theorem dX9_shift_9 : decode cX9_shift 9 = .ok (.iconst 5, 1) := by decide +kernel
theorem dX9_shift_10 : decode cX9_shift 10 = .ok (.invokestatic 76, 3) := by decide +kernel
theorem dX9_shift_13 : decode cX9_shift 13 = .ok (.ifCond .eq 5, 3) := by decide +kernel
theorem dX9_shift_16 : decode cX9_shift 16 = .ok (.iconst (-1), 1) := by decide +kernel
theorem dX9_shift_17 : decode cX9_shift 17 = .ok (.ireturn, 1) := by decide +kernel
theorem dX9_shift_18 : decode cX9_shift 18 = .ok (.aload_n 0, 1) := by decide +kernel
theorem dX9_shift_19 : decode cX9_shift 19 = .ok (.getfield 63, 3) := by decide +kernel
theorem dX9_shift_22 : decode cX9_shift 22 = .ok (.iload_n 1, 1) := by decide +kernel
theorem dX9_shift_23 : decode cX9_shift 23 = .ok (.aaload, 1) := by decide +kernel
theorem dX9_shift_24 : decode cX9_shift 24 = .ok (.astore 6, 2) := by decide +kernel
theorem dX9_shift_26 : decode cX9_shift 26 = .ok (.aload_n 0, 1) := by decide +kernel
theorem dX9_shift_27 : decode cX9_shift 27 = .ok (.getfield 63, 3) := by decide +kernel
theorem dX9_shift_30 : decode cX9_shift 30 = .ok (.iload_n 3, 1) := by decide +kernel
theorem dX9_shift_31 : decode cX9_shift 31 = .ok (.aaload, 1) := by decide +kernel
theorem dX9_shift_32 : decode cX9_shift 32 = .ok (.astore 7, 2) := by decide +kernel
theorem dX9_shift_34 : decode cX9_shift 34 = .ok (.aload 6, 2) := by decide +kernel
theorem dX9_shift_36 : decode cX9_shift 36 = .ok (.getfield 244, 3) := by decide +kernel
theorem dX9_shift_39 : decode cX9_shift 39 = .ok (.iconst (-1), 1) := by decide +kernel
theorem dX9_shift_40 : decode cX9_shift 40 = .ok (.if_icmp .eq 12, 3) := by decide +kernel
theorem dX9_shift_43 : decode cX9_shift 43 = .ok (.aload 7, 2) := by decide +kernel
theorem dX9_shift_45 : decode cX9_shift 45 = .ok (.getfield 244, 3) := by decide +kernel
theorem dX9_shift_48 : decode cX9_shift 48 = .ok (.iconst (-1), 1) := by decide +kernel
theorem dX9_shift_49 : decode cX9_shift 49 = .ok (.if_icmp .ne 6, 3) := by decide +kernel
theorem dX9_shift_52 : decode cX9_shift 52 = .ok (.bipush (-11), 2) := by decide +kernel
theorem dX9_shift_54 : decode cX9_shift 54 = .ok (.ireturn, 1) := by decide +kernel
theorem dX9_shift_55 : decode cX9_shift 55 = .ok (.aload 6, 2) := by decide +kernel
theorem dX9_shift_57 : decode cX9_shift 57 = .ok (.getfield 244, 3) := by decide +kernel
theorem dX9_shift_60 : decode cX9_shift 60 = .ok (.aload 7, 2) := by decide +kernel
theorem dX9_shift_62 : decode cX9_shift 62 = .ok (.getfield 244, 3) := by decide +kernel
theorem dX9_shift_65 : decode cX9_shift 65 = .ok (.if_icmp .eq 6, 3) := by decide +kernel
theorem dX9_shift_68 : decode cX9_shift 68 = .ok (.bipush (-12), 2) := by decide +kernel
theorem dX9_shift_70 : decode cX9_shift 70 = .ok (.ireturn, 1) := by decide +kernel
theorem dX9_shift_71 : decode cX9_shift 71 = .ok (.aload 6, 2) := by decide +kernel
theorem dX9_shift_73 : decode cX9_shift 73 = .ok (.iload_n 2, 1) := by decide +kernel
theorem dX9_shift_74 : decode cX9_shift 74 = .ok (.iload 5, 2) := by decide +kernel
theorem dX9_shift_76 : decode cX9_shift 76 = .ok (.invokevirtual 282, 3) := by decide +kernel
theorem dX9_shift_79 : decode cX9_shift 79 = .ok (.ifCond .eq 15, 3) := by decide +kernel
theorem dX9_shift_82 : decode cX9_shift 82 = .ok (.aload 7, 2) := by decide +kernel
theorem dX9_shift_84 : decode cX9_shift 84 = .ok (.iload 4, 2) := by decide +kernel
theorem dX9_shift_86 : decode cX9_shift 86 = .ok (.iload 5, 2) := by decide +kernel
theorem dX9_shift_88 : decode cX9_shift 88 = .ok (.invokevirtual 282, 3) := by decide +kernel
theorem dX9_shift_91 : decode cX9_shift 91 = .ok (.ifCond .ne 6, 3) := by decide +kernel
theorem dX9_shift_94 : decode cX9_shift 94 = .ok (.bipush (-13), 2) := by decide +kernel
theorem dX9_shift_96 : decode cX9_shift 96 = .ok (.ireturn, 1) := by decide +kernel
theorem dX9_shift_97 : decode cX9_shift 97 = .ok (.aload 6, 2) := by decide +kernel
theorem dX9_shift_99 : decode cX9_shift 99 = .ok (.getfield 247, 3) := by decide +kernel
theorem dX9_shift_102 : decode cX9_shift 102 = .ok (.iload_n 2, 1) := by decide +kernel
theorem dX9_shift_103 : decode cX9_shift 103 = .ok (.aload 7, 2) := by decide +kernel
theorem dX9_shift_105 : decode cX9_shift 105 = .ok (.getfield 247, 3) := by decide +kernel
theorem dX9_shift_108 : decode cX9_shift 108 = .ok (.iload 4, 2) := by decide +kernel
theorem dX9_shift_110 : decode cX9_shift 110 = .ok (.iload 5, 2) := by decide +kernel
theorem dX9_shift_112 : decode cX9_shift 112 = .ok (.invokestatic 285, 3) := by decide +kernel
theorem dX9_shift_115 : decode cX9_shift 115 = .ok (.iload 5, 2) := by decide +kernel
theorem dX9_shift_117 : decode cX9_shift 117 = .ok (.ireturn, 1) := by decide +kernel
theorem dX9_isOut_0 : decode cX9_isOut 0 = .ok (.iload_n 0, 1) := by decide +kernel
theorem dX9_isOut_1 : decode cX9_isOut 1 = .ok (.ifCond .lt 8, 3) := by decide +kernel
theorem dX9_isOut_4 : decode cX9_isOut 4 = .ok (.iload_n 0, 1) := by decide +kernel
theorem dX9_isOut_5 : decode cX9_isOut 5 = .ok (.iload_n 1, 1) := by decide +kernel
theorem dX9_isOut_6 : decode cX9_isOut 6 = .ok (.if_icmp .le 7, 3) := by decide +kernel
theorem dX9_isOut_9 : decode cX9_isOut 9 = .ok (.iconst 1, 1) := by decide +kernel
theorem dX9_isOut_10 : decode cX9_isOut 10 = .ok (.goto 4, 3) := by decide +kernel
theorem dX9_isOut_13 : decode cX9_isOut 13 = .ok (.iconst 0, 1) := by decide +kernel
theorem dX9_isOut_14 : decode cX9_isOut 14 = .ok (.ireturn, 1) := by decide +kernel
theorem dX9_kindAbove_0 : decode cX9_kindAbove 0 = .ok (.iload_n 0, 1) := by decide +kernel
theorem dX9_kindAbove_1 : decode cX9_kindAbove 1 = .ok (.tableswitch 33 4 6 #[27, 29, 31], 27) := by decide +kernel
theorem dX9_kindAbove_28 : decode cX9_kindAbove 28 = .ok (.iconst 1, 1) := by decide +kernel
theorem dX9_kindAbove_29 : decode cX9_kindAbove 29 = .ok (.ireturn, 1) := by decide +kernel
theorem dX9_kindAbove_30 : decode cX9_kindAbove 30 = .ok (.iconst 2, 1) := by decide +kernel
theorem dX9_kindAbove_31 : decode cX9_kindAbove 31 = .ok (.ireturn, 1) := by decide +kernel
theorem dX9_kindAbove_32 : decode cX9_kindAbove 32 = .ok (.iconst 3, 1) := by decide +kernel
theorem dX9_kindAbove_33 : decode cX9_kindAbove 33 = .ok (.ireturn, 1) := by decide +kernel
theorem dX9_kindAbove_34 : decode cX9_kindAbove 34 = .ok (.iconst 0, 1) := by decide +kernel
theorem dX9_kindAbove_35 : decode cX9_kindAbove 35 = .ok (.ireturn, 1) := by decide +kernel
theorem dX9_ofLowestTerms_0 : decode cX9_ofLowestTerms 0 = .ok (.iconst 1, 1) := by decide +kernel
theorem dX9_ofLowestTerms_1 : decode cX9_ofLowestTerms 1 = .ok (.istore_n 3, 1) := by decide +kernel
theorem dX9_ofLowestTerms_2 : decode cX9_ofLowestTerms 2 = .ok (.iconst 2, 1) := by decide +kernel
theorem dX9_ofLowestTerms_3 : decode cX9_ofLowestTerms 3 = .ok (.istore 4, 2) := by decide +kernel
theorem dX9_ofLowestTerms_5 : decode cX9_ofLowestTerms 5 = .ok (.iload 4, 2) := by decide +kernel
theorem dX9_ofLowestTerms_7 : decode cX9_ofLowestTerms 7 = .ok (.iload_n 1, 1) := by decide +kernel
theorem dX9_ofLowestTerms_8 : decode cX9_ofLowestTerms 8 = .ok (.if_icmp .gt 26, 3) := by decide +kernel
theorem dX9_ofLowestTerms_11 : decode cX9_ofLowestTerms 11 = .ok (.iload_n 0, 1) := by decide +kernel
theorem dX9_ofLowestTerms_12 : decode cX9_ofLowestTerms 12 = .ok (.iload 4, 2) := by decide +kernel
theorem dX9_ofLowestTerms_14 : decode cX9_ofLowestTerms 14 = .ok (.irem, 1) := by decide +kernel
theorem dX9_ofLowestTerms_15 : decode cX9_ofLowestTerms 15 = .ok (.ifCond .ne 13, 3) := by decide +kernel
theorem dX9_ofLowestTerms_18 : decode cX9_ofLowestTerms 18 = .ok (.iload_n 1, 1) := by decide +kernel
theorem dX9_ofLowestTerms_19 : decode cX9_ofLowestTerms 19 = .ok (.iload 4, 2) := by decide +kernel
theorem dX9_ofLowestTerms_21 : decode cX9_ofLowestTerms 21 = .ok (.irem, 1) := by decide +kernel
theorem dX9_ofLowestTerms_22 : decode cX9_ofLowestTerms 22 = .ok (.ifCond .ne 6, 3) := by decide +kernel
theorem dX9_ofLowestTerms_25 : decode cX9_ofLowestTerms 25 = .ok (.iload 4, 2) := by decide +kernel
theorem dX9_ofLowestTerms_27 : decode cX9_ofLowestTerms 27 = .ok (.istore_n 3, 1) := by decide +kernel
theorem dX9_ofLowestTerms_28 : decode cX9_ofLowestTerms 28 = .ok (.iinc 4 1, 3) := by decide +kernel
theorem dX9_ofLowestTerms_31 : decode cX9_ofLowestTerms 31 = .ok (.goto (-26), 3) := by decide +kernel
theorem dX9_ofLowestTerms_34 : decode cX9_ofLowestTerms 34 = .ok (.iload_n 2, 1) := by decide +kernel
theorem dX9_ofLowestTerms_35 : decode cX9_ofLowestTerms 35 = .ok (.ifCond .ne 7, 3) := by decide +kernel
theorem dX9_ofLowestTerms_38 : decode cX9_ofLowestTerms 38 = .ok (.iload_n 0, 1) := by decide +kernel
theorem dX9_ofLowestTerms_39 : decode cX9_ofLowestTerms 39 = .ok (.goto 4, 3) := by decide +kernel
theorem dX9_ofLowestTerms_42 : decode cX9_ofLowestTerms 42 = .ok (.iload_n 1, 1) := by decide +kernel
theorem dX9_ofLowestTerms_43 : decode cX9_ofLowestTerms 43 = .ok (.iload_n 3, 1) := by decide +kernel
theorem dX9_ofLowestTerms_44 : decode cX9_ofLowestTerms 44 = .ok (.idiv, 1) := by decide +kernel
theorem dX9_ofLowestTerms_45 : decode cX9_ofLowestTerms 45 = .ok (.i2l, 1) := by decide +kernel
theorem dX9_ofLowestTerms_46 : decode cX9_ofLowestTerms 46 = .ok (.lreturn, 1) := by decide +kernel
theorem dX9_isMoreHurt_0 : decode cX9_isMoreHurt 0 = .ok (.aload_n 0, 1) := by decide +kernel
theorem dX9_isMoreHurt_1 : decode cX9_isMoreHurt 1 = .ok (.getfield 38, 3) := by decide +kernel
theorem dX9_isMoreHurt_4 : decode cX9_isMoreHurt 4 = .ok (.getfield 88, 3) := by decide +kernel
theorem dX9_isMoreHurt_7 : decode cX9_isMoreHurt 7 = .ok (.iload_n 1, 1) := by decide +kernel
theorem dX9_isMoreHurt_8 : decode cX9_isMoreHurt 8 = .ok (.aaload, 1) := by decide +kernel
theorem dX9_isMoreHurt_9 : decode cX9_isMoreHurt 9 = .ok (.getfield 106, 3) := by decide +kernel
theorem dX9_isMoreHurt_12 : decode cX9_isMoreHurt 12 = .ok (.aload_n 0, 1) := by decide +kernel
theorem dX9_isMoreHurt_13 : decode cX9_isMoreHurt 13 = .ok (.getfield 34, 3) := by decide +kernel
theorem dX9_isMoreHurt_16 : decode cX9_isMoreHurt 16 = .ok (.getfield 88, 3) := by decide +kernel
theorem dX9_isMoreHurt_19 : decode cX9_isMoreHurt 19 = .ok (.iload_n 1, 1) := by decide +kernel
theorem dX9_isMoreHurt_20 : decode cX9_isMoreHurt 20 = .ok (.aaload, 1) := by decide +kernel
theorem dX9_isMoreHurt_21 : decode cX9_isMoreHurt 21 = .ok (.getfield 106, 3) := by decide +kernel
theorem dX9_isMoreHurt_24 : decode cX9_isMoreHurt 24 = .ok (.if_icmp .le 7, 3) := by decide +kernel
theorem dX9_isMoreHurt_27 : decode cX9_isMoreHurt 27 = .ok (.iconst 1, 1) := by decide +kernel
theorem dX9_isMoreHurt_28 : decode cX9_isMoreHurt 28 = .ok (.goto 4, 3) := by decide +kernel
theorem dX9_isMoreHurt_31 : decode cX9_isMoreHurt 31 = .ok (.iconst 0, 1) := by decide +kernel
theorem dX9_isMoreHurt_32 : decode cX9_isMoreHurt 32 = .ok (.ireturn, 1) := by decide +kernel
theorem dX9_daysUntilSore_0 : decode cX9_daysUntilSore 0 = .ok (.aload_n 0, 1) := by decide +kernel
theorem dX9_daysUntilSore_1 : decode cX9_daysUntilSore 1 = .ok (.getfield 38, 3) := by decide +kernel
theorem dX9_daysUntilSore_4 : decode cX9_daysUntilSore 4 = .ok (.aload_n 0, 1) := by decide +kernel
theorem dX9_daysUntilSore_5 : decode cX9_daysUntilSore 5 = .ok (.getfield 34, 3) := by decide +kernel
theorem dX9_daysUntilSore_8 : decode cX9_daysUntilSore 8 = .ok (.invokevirtual 183, 3) := by decide +kernel
theorem dX9_daysUntilSore_11 : decode cX9_daysUntilSore 11 = .ok (.iconst 1, 1) := by decide +kernel
theorem dX9_daysUntilSore_12 : decode cX9_daysUntilSore 12 = .ok (.istore_n 2, 1) := by decide +kernel
theorem dX9_daysUntilSore_13 : decode cX9_daysUntilSore 13 = .ok (.iload_n 2, 1) := by decide +kernel
theorem dX9_daysUntilSore_14 : decode cX9_daysUntilSore 14 = .ok (.bipush 60, 2) := by decide +kernel
theorem dX9_daysUntilSore_16 : decode cX9_daysUntilSore 16 = .ok (.if_icmp .gt 28, 3) := by decide +kernel
theorem dX9_daysUntilSore_19 : decode cX9_daysUntilSore 19 = .ok (.aload_n 0, 1) := by decide +kernel
theorem dX9_daysUntilSore_20 : decode cX9_daysUntilSore 20 = .ok (.getfield 38, 3) := by decide +kernel
theorem dX9_daysUntilSore_23 : decode cX9_daysUntilSore 23 = .ok (.iconst 1, 1) := by decide +kernel
theorem dX9_daysUntilSore_24 : decode cX9_daysUntilSore 24 = .ok (.iload_n 1, 1) := by decide +kernel
theorem dX9_daysUntilSore_25 : decode cX9_daysUntilSore 25 = .ok (.invokevirtual 179, 3) := by decide +kernel
theorem dX9_daysUntilSore_28 : decode cX9_daysUntilSore 28 = .ok (.aload_n 0, 1) := by decide +kernel
theorem dX9_daysUntilSore_29 : decode cX9_daysUntilSore 29 = .ok (.iload_n 1, 1) := by decide +kernel
theorem dX9_daysUntilSore_30 : decode cX9_daysUntilSore 30 = .ok (.invokevirtual 216, 3) := by decide +kernel
theorem dX9_daysUntilSore_33 : decode cX9_daysUntilSore 33 = .ok (.ifCond .eq 5, 3) := by decide +kernel
theorem dX9_daysUntilSore_36 : decode cX9_daysUntilSore 36 = .ok (.iload_n 2, 1) := by decide +kernel
theorem dX9_daysUntilSore_37 : decode cX9_daysUntilSore 37 = .ok (.ireturn, 1) := by decide +kernel
theorem dX9_daysUntilSore_38 : decode cX9_daysUntilSore 38 = .ok (.iinc 2 1, 3) := by decide +kernel
theorem dX9_daysUntilSore_41 : decode cX9_daysUntilSore 41 = .ok (.goto (-28), 3) := by decide +kernel
theorem dX9_daysUntilSore_44 : decode cX9_daysUntilSore 44 = .ok (.bipush (-5), 2) := by decide +kernel
theorem dX9_daysUntilSore_46 : decode cX9_daysUntilSore 46 = .ok (.ireturn, 1) := by decide +kernel
theorem dX9_fewestToMend_0 : decode cX9_fewestToMend 0 = .ok (.aload_n 0, 1) := by decide +kernel
theorem dX9_fewestToMend_1 : decode cX9_fewestToMend 1 = .ok (.getfield 38, 3) := by decide +kernel
theorem dX9_fewestToMend_4 : decode cX9_fewestToMend 4 = .ok (.aload_n 0, 1) := by decide +kernel
theorem dX9_fewestToMend_5 : decode cX9_fewestToMend 5 = .ok (.getfield 34, 3) := by decide +kernel
theorem dX9_fewestToMend_8 : decode cX9_fewestToMend 8 = .ok (.invokevirtual 183, 3) := by decide +kernel
theorem dX9_fewestToMend_11 : decode cX9_fewestToMend 11 = .ok (.aload_n 0, 1) := by decide +kernel
theorem dX9_fewestToMend_12 : decode cX9_fewestToMend 12 = .ok (.getfield 38, 3) := by decide +kernel
theorem dX9_fewestToMend_15 : decode cX9_fewestToMend 15 = .ok (.iload_n 1, 1) := by decide +kernel
theorem dX9_fewestToMend_16 : decode cX9_fewestToMend 16 = .ok (.iconst (-1), 1) := by decide +kernel
theorem dX9_fewestToMend_17 : decode cX9_fewestToMend 17 = .ok (.invokevirtual 179, 3) := by decide +kernel
theorem dX9_fewestToMend_20 : decode cX9_fewestToMend 20 = .ok (.aload_n 0, 1) := by decide +kernel
theorem dX9_fewestToMend_21 : decode cX9_fewestToMend 21 = .ok (.invokevirtual 291, 3) := by decide +kernel
theorem dX9_fewestToMend_24 : decode cX9_fewestToMend 24 = .ok (.istore_n 2, 1) := by decide +kernel
theorem dX9_fewestToMend_25 : decode cX9_fewestToMend 25 = .ok (.aload_n 0, 1) := by decide +kernel
theorem dX9_fewestToMend_26 : decode cX9_fewestToMend 26 = .ok (.getfield 38, 3) := by decide +kernel
theorem dX9_fewestToMend_29 : decode cX9_fewestToMend 29 = .ok (.aload_n 0, 1) := by decide +kernel
theorem dX9_fewestToMend_30 : decode cX9_fewestToMend 30 = .ok (.getfield 34, 3) := by decide +kernel
theorem dX9_fewestToMend_33 : decode cX9_fewestToMend 33 = .ok (.invokevirtual 183, 3) := by decide +kernel
theorem dX9_fewestToMend_36 : decode cX9_fewestToMend 36 = .ok (.iconst 0, 1) := by decide +kernel
theorem dX9_fewestToMend_37 : decode cX9_fewestToMend 37 = .ok (.istore_n 3, 1) := by decide +kernel
theorem dX9_fewestToMend_38 : decode cX9_fewestToMend 38 = .ok (.iload_n 3, 1) := by decide +kernel
theorem dX9_fewestToMend_39 : decode cX9_fewestToMend 39 = .ok (.aload_n 0, 1) := by decide +kernel
theorem dX9_fewestToMend_40 : decode cX9_fewestToMend 40 = .ok (.getfield 38, 3) := by decide +kernel
theorem dX9_fewestToMend_43 : decode cX9_fewestToMend 43 = .ok (.getfield 213, 3) := by decide +kernel
theorem dX9_fewestToMend_46 : decode cX9_fewestToMend 46 = .ok (.if_icmp .ge 23, 3) := by decide +kernel
theorem dX9_fewestToMend_49 : decode cX9_fewestToMend 49 = .ok (.aload_n 0, 1) := by decide +kernel
theorem dX9_fewestToMend_50 : decode cX9_fewestToMend 50 = .ok (.getfield 38, 3) := by decide +kernel
theorem dX9_fewestToMend_53 : decode cX9_fewestToMend 53 = .ok (.getfield 88, 3) := by decide +kernel
theorem dX9_fewestToMend_56 : decode cX9_fewestToMend 56 = .ok (.iload_n 3, 1) := by decide +kernel
theorem dX9_fewestToMend_57 : decode cX9_fewestToMend 57 = .ok (.aaload, 1) := by decide +kernel
theorem dX9_fewestToMend_58 : decode cX9_fewestToMend 58 = .ok (.bipush 99, 2) := by decide +kernel
theorem dX9_fewestToMend_60 : decode cX9_fewestToMend 60 = .ok (.putfield 100, 3) := by decide +kernel
theorem dX9_fewestToMend_63 : decode cX9_fewestToMend 63 = .ok (.iinc 3 1, 3) := by decide +kernel
theorem dX9_fewestToMend_66 : decode cX9_fewestToMend 66 = .ok (.goto (-28), 3) := by decide +kernel
theorem dX9_fewestToMend_69 : decode cX9_fewestToMend 69 = .ok (.aload_n 0, 1) := by decide +kernel
theorem dX9_fewestToMend_70 : decode cX9_fewestToMend 70 = .ok (.getfield 38, 3) := by decide +kernel
theorem dX9_fewestToMend_73 : decode cX9_fewestToMend 73 = .ok (.iload_n 1, 1) := by decide +kernel
theorem dX9_fewestToMend_74 : decode cX9_fewestToMend 74 = .ok (.iconst (-1), 1) := by decide +kernel
theorem dX9_fewestToMend_75 : decode cX9_fewestToMend 75 = .ok (.invokevirtual 179, 3) := by decide +kernel
theorem dX9_fewestToMend_78 : decode cX9_fewestToMend 78 = .ok (.iload_n 2, 1) := by decide +kernel
theorem dX9_fewestToMend_79 : decode cX9_fewestToMend 79 = .ok (.aload_n 0, 1) := by decide +kernel
theorem dX9_fewestToMend_80 : decode cX9_fewestToMend 80 = .ok (.invokevirtual 291, 3) := by decide +kernel
theorem dX9_fewestToMend_83 : decode cX9_fewestToMend 83 = .ok (.iand, 1) := by decide +kernel
theorem dX9_fewestToMend_84 : decode cX9_fewestToMend 84 = .ok (.ifCond .ne 7, 3) := by decide +kernel
theorem dX9_fewestToMend_87 : decode cX9_fewestToMend 87 = .ok (.iload_n 2, 1) := by decide +kernel
theorem dX9_fewestToMend_88 : decode cX9_fewestToMend 88 = .ok (.goto 5, 3) := by decide +kernel
theorem dX9_fewestToMend_91 : decode cX9_fewestToMend 91 = .ok (.bipush (-5), 2) := by decide +kernel
theorem dX9_fewestToMend_93 : decode cX9_fewestToMend 93 = .ok (.ireturn, 1) := by decide +kernel
theorem dX9_moreHurtBits_0 : decode cX9_moreHurtBits 0 = .ok (.iconst 0, 1) := by decide +kernel
theorem dX9_moreHurtBits_1 : decode cX9_moreHurtBits 1 = .ok (.istore_n 1, 1) := by decide +kernel
theorem dX9_moreHurtBits_2 : decode cX9_moreHurtBits 2 = .ok (.iconst 0, 1) := by decide +kernel
theorem dX9_moreHurtBits_3 : decode cX9_moreHurtBits 3 = .ok (.istore_n 2, 1) := by decide +kernel
theorem dX9_moreHurtBits_4 : decode cX9_moreHurtBits 4 = .ok (.iload_n 2, 1) := by decide +kernel
theorem dX9_moreHurtBits_5 : decode cX9_moreHurtBits 5 = .ok (.aload_n 0, 1) := by decide +kernel
theorem dX9_moreHurtBits_6 : decode cX9_moreHurtBits 6 = .ok (.getfield 34, 3) := by decide +kernel
theorem dX9_moreHurtBits_9 : decode cX9_moreHurtBits 9 = .ok (.getfield 213, 3) := by decide +kernel
theorem dX9_moreHurtBits_12 : decode cX9_moreHurtBits 12 = .ok (.if_icmp .ge 23, 3) := by decide +kernel
theorem dX9_moreHurtBits_15 : decode cX9_moreHurtBits 15 = .ok (.aload_n 0, 1) := by decide +kernel
theorem dX9_moreHurtBits_16 : decode cX9_moreHurtBits 16 = .ok (.iload_n 2, 1) := by decide +kernel
theorem dX9_moreHurtBits_17 : decode cX9_moreHurtBits 17 = .ok (.invokevirtual 216, 3) := by decide +kernel
theorem dX9_moreHurtBits_20 : decode cX9_moreHurtBits 20 = .ok (.ifCond .eq 9, 3) := by decide +kernel
theorem dX9_moreHurtBits_23 : decode cX9_moreHurtBits 23 = .ok (.iload_n 1, 1) := by decide +kernel
theorem dX9_moreHurtBits_24 : decode cX9_moreHurtBits 24 = .ok (.iconst 1, 1) := by decide +kernel
theorem dX9_moreHurtBits_25 : decode cX9_moreHurtBits 25 = .ok (.iload_n 2, 1) := by decide +kernel
theorem dX9_moreHurtBits_26 : decode cX9_moreHurtBits 26 = .ok (.ishl, 1) := by decide +kernel
theorem dX9_moreHurtBits_27 : decode cX9_moreHurtBits 27 = .ok (.ior, 1) := by decide +kernel
theorem dX9_moreHurtBits_28 : decode cX9_moreHurtBits 28 = .ok (.istore_n 1, 1) := by decide +kernel
theorem dX9_moreHurtBits_29 : decode cX9_moreHurtBits 29 = .ok (.iinc 2 1, 3) := by decide +kernel
theorem dX9_moreHurtBits_32 : decode cX9_moreHurtBits 32 = .ok (.goto (-28), 3) := by decide +kernel
theorem dX9_moreHurtBits_35 : decode cX9_moreHurtBits 35 = .ok (.iload_n 1, 1) := by decide +kernel
theorem dX9_moreHurtBits_36 : decode cX9_moreHurtBits 36 = .ok (.ireturn, 1) := by decide +kernel
theorem dX9_bestChange_0 : decode cX9_bestChange 0 = .ok (.aload_n 0, 1) := by decide +kernel
theorem dX9_bestChange_1 : decode cX9_bestChange 1 = .ok (.getfield 38, 3) := by decide +kernel
theorem dX9_bestChange_4 : decode cX9_bestChange 4 = .ok (.aload_n 0, 1) := by decide +kernel
theorem dX9_bestChange_5 : decode cX9_bestChange 5 = .ok (.getfield 34, 3) := by decide +kernel
theorem dX9_bestChange_8 : decode cX9_bestChange 8 = .ok (.invokevirtual 183, 3) := by decide +kernel
theorem dX9_bestChange_11 : decode cX9_bestChange 11 = .ok (.aload_n 0, 1) := by decide +kernel
theorem dX9_bestChange_12 : decode cX9_bestChange 12 = .ok (.getfield 38, 3) := by decide +kernel
theorem dX9_bestChange_15 : decode cX9_bestChange 15 = .ok (.iload_n 1, 1) := by decide +kernel
theorem dX9_bestChange_16 : decode cX9_bestChange 16 = .ok (.iconst (-1), 1) := by decide +kernel
theorem dX9_bestChange_17 : decode cX9_bestChange 17 = .ok (.invokevirtual 179, 3) := by decide +kernel
theorem dX9_bestChange_20 : decode cX9_bestChange 20 = .ok (.aload_n 0, 1) := by decide +kernel
theorem dX9_bestChange_21 : decode cX9_bestChange 21 = .ok (.getfield 38, 3) := by decide +kernel
theorem dX9_bestChange_24 : decode cX9_bestChange 24 = .ok (.invokevirtual 169, 3) := by decide +kernel
theorem dX9_bestChange_27 : decode cX9_bestChange 27 = .ok (.istore_n 2, 1) := by decide +kernel
theorem dX9_bestChange_28 : decode cX9_bestChange 28 = .ok (.bipush (-5), 2) := by decide +kernel
theorem dX9_bestChange_30 : decode cX9_bestChange 30 = .ok (.istore_n 3, 1) := by decide +kernel
theorem dX9_bestChange_31 : decode cX9_bestChange 31 = .ok (.iconst 0, 1) := by decide +kernel
theorem dX9_bestChange_32 : decode cX9_bestChange 32 = .ok (.istore 4, 2) := by decide +kernel
theorem dX9_bestChange_34 : decode cX9_bestChange 34 = .ok (.iload 4, 2) := by decide +kernel
theorem dX9_bestChange_36 : decode cX9_bestChange 36 = .ok (.aload_n 0, 1) := by decide +kernel
theorem dX9_bestChange_37 : decode cX9_bestChange 37 = .ok (.getfield 34, 3) := by decide +kernel
theorem dX9_bestChange_40 : decode cX9_bestChange 40 = .ok (.getfield 213, 3) := by decide +kernel
theorem dX9_bestChange_43 : decode cX9_bestChange 43 = .ok (.if_icmp .ge 132, 3) := by decide +kernel
theorem dX9_bestChange_46 : decode cX9_bestChange 46 = .ok (.iload 4, 2) := by decide +kernel
theorem dX9_bestChange_48 : decode cX9_bestChange 48 = .ok (.iconst 1, 1) := by decide +kernel
theorem dX9_bestChange_49 : decode cX9_bestChange 49 = .ok (.iadd, 1) := by decide +kernel
theorem dX9_bestChange_50 : decode cX9_bestChange 50 = .ok (.istore 5, 2) := by decide +kernel
theorem dX9_bestChange_52 : decode cX9_bestChange 52 = .ok (.iload 5, 2) := by decide +kernel
theorem dX9_bestChange_54 : decode cX9_bestChange 54 = .ok (.aload_n 0, 1) := by decide +kernel
theorem dX9_bestChange_55 : decode cX9_bestChange 55 = .ok (.getfield 34, 3) := by decide +kernel
theorem dX9_bestChange_58 : decode cX9_bestChange 58 = .ok (.getfield 213, 3) := by decide +kernel
theorem dX9_bestChange_61 : decode cX9_bestChange 61 = .ok (.if_icmp .ge 108, 3) := by decide +kernel
theorem dX9_bestChange_64 : decode cX9_bestChange 64 = .ok (.aload_n 0, 1) := by decide +kernel
theorem dX9_bestChange_65 : decode cX9_bestChange 65 = .ok (.getfield 38, 3) := by decide +kernel
theorem dX9_bestChange_68 : decode cX9_bestChange 68 = .ok (.aload_n 0, 1) := by decide +kernel
theorem dX9_bestChange_69 : decode cX9_bestChange 69 = .ok (.getfield 34, 3) := by decide +kernel
theorem dX9_bestChange_72 : decode cX9_bestChange 72 = .ok (.invokevirtual 183, 3) := by decide +kernel
theorem dX9_bestChange_75 : decode cX9_bestChange 75 = .ok (.aload_n 0, 1) := by decide +kernel
theorem dX9_bestChange_76 : decode cX9_bestChange 76 = .ok (.getfield 38, 3) := by decide +kernel
theorem dX9_bestChange_79 : decode cX9_bestChange 79 = .ok (.getfield 88, 3) := by decide +kernel
theorem dX9_bestChange_82 : decode cX9_bestChange 82 = .ok (.iload 4, 2) := by decide +kernel
theorem dX9_bestChange_84 : decode cX9_bestChange 84 = .ok (.aaload, 1) := by decide +kernel
theorem dX9_bestChange_85 : decode cX9_bestChange 85 = .ok (.aload_n 0, 1) := by decide +kernel
theorem dX9_bestChange_86 : decode cX9_bestChange 86 = .ok (.getfield 34, 3) := by decide +kernel
theorem dX9_bestChange_89 : decode cX9_bestChange 89 = .ok (.getfield 88, 3) := by decide +kernel
theorem dX9_bestChange_92 : decode cX9_bestChange 92 = .ok (.iload 5, 2) := by decide +kernel
theorem dX9_bestChange_94 : decode cX9_bestChange 94 = .ok (.aaload, 1) := by decide +kernel
theorem dX9_bestChange_95 : decode cX9_bestChange 95 = .ok (.getfield 100, 3) := by decide +kernel
theorem dX9_bestChange_98 : decode cX9_bestChange 98 = .ok (.putfield 100, 3) := by decide +kernel
theorem dX9_bestChange_101 : decode cX9_bestChange 101 = .ok (.aload_n 0, 1) := by decide +kernel
theorem dX9_bestChange_102 : decode cX9_bestChange 102 = .ok (.getfield 38, 3) := by decide +kernel
theorem dX9_bestChange_105 : decode cX9_bestChange 105 = .ok (.getfield 88, 3) := by decide +kernel
theorem dX9_bestChange_108 : decode cX9_bestChange 108 = .ok (.iload 5, 2) := by decide +kernel
theorem dX9_bestChange_110 : decode cX9_bestChange 110 = .ok (.aaload, 1) := by decide +kernel
theorem dX9_bestChange_111 : decode cX9_bestChange 111 = .ok (.aload_n 0, 1) := by decide +kernel
theorem dX9_bestChange_112 : decode cX9_bestChange 112 = .ok (.getfield 34, 3) := by decide +kernel
theorem dX9_bestChange_115 : decode cX9_bestChange 115 = .ok (.getfield 88, 3) := by decide +kernel
theorem dX9_bestChange_118 : decode cX9_bestChange 118 = .ok (.iload 4, 2) := by decide +kernel
theorem dX9_bestChange_120 : decode cX9_bestChange 120 = .ok (.aaload, 1) := by decide +kernel
theorem dX9_bestChange_121 : decode cX9_bestChange 121 = .ok (.getfield 100, 3) := by decide +kernel
theorem dX9_bestChange_124 : decode cX9_bestChange 124 = .ok (.putfield 100, 3) := by decide +kernel
theorem dX9_bestChange_127 : decode cX9_bestChange 127 = .ok (.aload_n 0, 1) := by decide +kernel
theorem dX9_bestChange_128 : decode cX9_bestChange 128 = .ok (.getfield 38, 3) := by decide +kernel
theorem dX9_bestChange_131 : decode cX9_bestChange 131 = .ok (.iload_n 1, 1) := by decide +kernel
theorem dX9_bestChange_132 : decode cX9_bestChange 132 = .ok (.iconst (-1), 1) := by decide +kernel
theorem dX9_bestChange_133 : decode cX9_bestChange 133 = .ok (.invokevirtual 179, 3) := by decide +kernel
theorem dX9_bestChange_136 : decode cX9_bestChange 136 = .ok (.aload_n 0, 1) := by decide +kernel
theorem dX9_bestChange_137 : decode cX9_bestChange 137 = .ok (.getfield 38, 3) := by decide +kernel
theorem dX9_bestChange_140 : decode cX9_bestChange 140 = .ok (.invokevirtual 169, 3) := by decide +kernel
theorem dX9_bestChange_143 : decode cX9_bestChange 143 = .ok (.istore 6, 2) := by decide +kernel
theorem dX9_bestChange_145 : decode cX9_bestChange 145 = .ok (.iload 6, 2) := by decide +kernel
theorem dX9_bestChange_147 : decode cX9_bestChange 147 = .ok (.iload_n 2, 1) := by decide +kernel
theorem dX9_bestChange_148 : decode cX9_bestChange 148 = .ok (.if_icmp .ge 15, 3) := by decide +kernel
theorem dX9_bestChange_151 : decode cX9_bestChange 151 = .ok (.iload 6, 2) := by decide +kernel
theorem dX9_bestChange_153 : decode cX9_bestChange 153 = .ok (.istore_n 2, 1) := by decide +kernel
theorem dX9_bestChange_154 : decode cX9_bestChange 154 = .ok (.bipush 10, 2) := by decide +kernel
theorem dX9_bestChange_156 : decode cX9_bestChange 156 = .ok (.iload 4, 2) := by decide +kernel
theorem dX9_bestChange_158 : decode cX9_bestChange 158 = .ok (.imul, 1) := by decide +kernel
theorem dX9_bestChange_159 : decode cX9_bestChange 159 = .ok (.iload 5, 2) := by decide +kernel
theorem dX9_bestChange_161 : decode cX9_bestChange 161 = .ok (.iadd, 1) := by decide +kernel
theorem dX9_bestChange_162 : decode cX9_bestChange 162 = .ok (.istore_n 3, 1) := by decide +kernel
theorem dX9_bestChange_163 : decode cX9_bestChange 163 = .ok (.iinc 5 1, 3) := by decide +kernel
theorem dX9_bestChange_166 : decode cX9_bestChange 166 = .ok (.goto (-114), 3) := by decide +kernel
theorem dX9_bestChange_169 : decode cX9_bestChange 169 = .ok (.iinc 4 1, 3) := by decide +kernel
theorem dX9_bestChange_172 : decode cX9_bestChange 172 = .ok (.goto (-138), 3) := by decide +kernel
theorem dX9_bestChange_175 : decode cX9_bestChange 175 = .ok (.iload_n 3, 1) := by decide +kernel
theorem dX9_bestChange_176 : decode cX9_bestChange 176 = .ok (.ireturn, 1) := by decide +kernel
theorem dX9_bestTarget_0 : decode cX9_bestTarget 0 = .ok (.ldc_w 296, 3) := by decide +kernel
theorem dX9_bestTarget_3 : decode cX9_bestTarget 3 = .ok (.istore_n 3, 1) := by decide +kernel
theorem dX9_bestTarget_4 : decode cX9_bestTarget 4 = .ok (.bipush (-5), 2) := by decide +kernel
theorem dX9_bestTarget_6 : decode cX9_bestTarget 6 = .ok (.istore 4, 2) := by decide +kernel
theorem dX9_bestTarget_8 : decode cX9_bestTarget 8 = .ok (.iconst 0, 1) := by decide +kernel
theorem dX9_bestTarget_9 : decode cX9_bestTarget 9 = .ok (.istore 5, 2) := by decide +kernel
theorem dX9_bestTarget_11 : decode cX9_bestTarget 11 = .ok (.iload 5, 2) := by decide +kernel
theorem dX9_bestTarget_13 : decode cX9_bestTarget 13 = .ok (.aload_n 0, 1) := by decide +kernel
theorem dX9_bestTarget_14 : decode cX9_bestTarget 14 = .ok (.getfield 34, 3) := by decide +kernel
theorem dX9_bestTarget_17 : decode cX9_bestTarget 17 = .ok (.getfield 213, 3) := by decide +kernel
theorem dX9_bestTarget_20 : decode cX9_bestTarget 20 = .ok (.if_icmp .ge 65, 3) := by decide +kernel
theorem dX9_bestTarget_23 : decode cX9_bestTarget 23 = .ok (.aload_n 0, 1) := by decide +kernel
theorem dX9_bestTarget_24 : decode cX9_bestTarget 24 = .ok (.getfield 38, 3) := by decide +kernel
theorem dX9_bestTarget_27 : decode cX9_bestTarget 27 = .ok (.aload_n 0, 1) := by decide +kernel
theorem dX9_bestTarget_28 : decode cX9_bestTarget 28 = .ok (.getfield 34, 3) := by decide +kernel
theorem dX9_bestTarget_31 : decode cX9_bestTarget 31 = .ok (.invokevirtual 183, 3) := by decide +kernel
theorem dX9_bestTarget_34 : decode cX9_bestTarget 34 = .ok (.aload_n 0, 1) := by decide +kernel
theorem dX9_bestTarget_35 : decode cX9_bestTarget 35 = .ok (.getfield 38, 3) := by decide +kernel
theorem dX9_bestTarget_38 : decode cX9_bestTarget 38 = .ok (.getfield 128, 3) := by decide +kernel
theorem dX9_bestTarget_41 : decode cX9_bestTarget 41 = .ok (.iload_n 1, 1) := by decide +kernel
theorem dX9_bestTarget_42 : decode cX9_bestTarget 42 = .ok (.aaload, 1) := by decide +kernel
theorem dX9_bestTarget_43 : decode cX9_bestTarget 43 = .ok (.iload 5, 2) := by decide +kernel
theorem dX9_bestTarget_45 : decode cX9_bestTarget 45 = .ok (.putfield 140, 3) := by decide +kernel
theorem dX9_bestTarget_48 : decode cX9_bestTarget 48 = .ok (.aload_n 0, 1) := by decide +kernel
theorem dX9_bestTarget_49 : decode cX9_bestTarget 49 = .ok (.getfield 38, 3) := by decide +kernel
theorem dX9_bestTarget_52 : decode cX9_bestTarget 52 = .ok (.iload_n 2, 1) := by decide +kernel
theorem dX9_bestTarget_53 : decode cX9_bestTarget 53 = .ok (.iconst (-1), 1) := by decide +kernel
theorem dX9_bestTarget_54 : decode cX9_bestTarget 54 = .ok (.invokevirtual 179, 3) := by decide +kernel
theorem dX9_bestTarget_57 : decode cX9_bestTarget 57 = .ok (.aload_n 0, 1) := by decide +kernel
theorem dX9_bestTarget_58 : decode cX9_bestTarget 58 = .ok (.getfield 38, 3) := by decide +kernel
theorem dX9_bestTarget_61 : decode cX9_bestTarget 61 = .ok (.invokevirtual 169, 3) := by decide +kernel
theorem dX9_bestTarget_64 : decode cX9_bestTarget 64 = .ok (.istore 6, 2) := by decide +kernel
theorem dX9_bestTarget_66 : decode cX9_bestTarget 66 = .ok (.iload 6, 2) := by decide +kernel
theorem dX9_bestTarget_68 : decode cX9_bestTarget 68 = .ok (.iload_n 3, 1) := by decide +kernel
theorem dX9_bestTarget_69 : decode cX9_bestTarget 69 = .ok (.if_icmp .ge 10, 3) := by decide +kernel
theorem dX9_bestTarget_72 : decode cX9_bestTarget 72 = .ok (.iload 6, 2) := by decide +kernel
theorem dX9_bestTarget_74 : decode cX9_bestTarget 74 = .ok (.istore_n 3, 1) := by decide +kernel
theorem dX9_bestTarget_75 : decode cX9_bestTarget 75 = .ok (.iload 5, 2) := by decide +kernel
theorem dX9_bestTarget_77 : decode cX9_bestTarget 77 = .ok (.istore 4, 2) := by decide +kernel
theorem dX9_bestTarget_79 : decode cX9_bestTarget 79 = .ok (.iinc 5 1, 3) := by decide +kernel
theorem dX9_bestTarget_82 : decode cX9_bestTarget 82 = .ok (.goto (-71), 3) := by decide +kernel
theorem dX9_bestTarget_85 : decode cX9_bestTarget 85 = .ok (.iload 4, 2) := by decide +kernel
theorem dX9_bestTarget_87 : decode cX9_bestTarget 87 = .ok (.ireturn, 1) := by decide +kernel
theorem dX9_fitting_0 : decode cX9_fitting 0 = .ok (.iload_n 1, 1) := by decide +kernel
theorem dX9_fitting_1 : decode cX9_fitting 1 = .ok (.ifCond .eq 8, 3) := by decide +kernel
theorem dX9_fitting_4 : decode cX9_fitting 4 = .ok (.bipush 99, 2) := by decide +kernel
theorem dX9_fitting_6 : decode cX9_fitting 6 = .ok (.goto 5, 3) := by decide +kernel
theorem dX9_fitting_9 : decode cX9_fitting 9 = .ok (.bipush 9, 2) := by decide +kernel
theorem dX9_fitting_11 : decode cX9_fitting 11 = .ok (.istore 4, 2) := by decide +kernel
theorem dX9_fitting_13 : decode cX9_fitting 13 = .ok (.iconst 0, 1) := by decide +kernel
theorem dX9_fitting_14 : decode cX9_fitting 14 = .ok (.istore 5, 2) := by decide +kernel
theorem dX9_fitting_16 : decode cX9_fitting 16 = .ok (.aload_n 0, 1) := by decide +kernel
theorem dX9_fitting_17 : decode cX9_fitting 17 = .ok (.getfield 38, 3) := by decide +kernel
theorem dX9_fitting_20 : decode cX9_fitting 20 = .ok (.aload_n 0, 1) := by decide +kernel
theorem dX9_fitting_21 : decode cX9_fitting 21 = .ok (.getfield 34, 3) := by decide +kernel
theorem dX9_fitting_24 : decode cX9_fitting 24 = .ok (.invokevirtual 183, 3) := by decide +kernel
theorem dX9_fitting_27 : decode cX9_fitting 27 = .ok (.aload_n 0, 1) := by decide +kernel
theorem dX9_fitting_28 : decode cX9_fitting 28 = .ok (.iload_n 1, 1) := by decide +kernel
theorem dX9_fitting_29 : decode cX9_fitting 29 = .ok (.iload_n 2, 1) := by decide +kernel
theorem dX9_fitting_30 : decode cX9_fitting 30 = .ok (.iconst 0, 1) := by decide +kernel
theorem dX9_fitting_31 : decode cX9_fitting 31 = .ok (.invokevirtual 297, 3) := by decide +kernel
theorem dX9_fitting_34 : decode cX9_fitting 34 = .ok (.istore 6, 2) := by decide +kernel
theorem dX9_fitting_36 : decode cX9_fitting 36 = .ok (.iconst 0, 1) := by decide +kernel
theorem dX9_fitting_37 : decode cX9_fitting 37 = .ok (.istore 7, 2) := by decide +kernel
theorem dX9_fitting_39 : decode cX9_fitting 39 = .ok (.iload 6, 2) := by decide +kernel
theorem dX9_fitting_41 : decode cX9_fitting 41 = .ok (.ifCond .eq 83, 3) := by decide +kernel
theorem dX9_fitting_44 : decode cX9_fitting 44 = .ok (.iload 7, 2) := by decide +kernel
theorem dX9_fitting_46 : decode cX9_fitting 46 = .ok (.iload 4, 2) := by decide +kernel
theorem dX9_fitting_48 : decode cX9_fitting 48 = .ok (.if_icmp .gt 76, 3) := by decide +kernel
theorem dX9_fitting_51 : decode cX9_fitting 51 = .ok (.aload_n 0, 1) := by decide +kernel
theorem dX9_fitting_52 : decode cX9_fitting 52 = .ok (.getfield 38, 3) := by decide +kernel
theorem dX9_fitting_55 : decode cX9_fitting 55 = .ok (.aload_n 0, 1) := by decide +kernel
theorem dX9_fitting_56 : decode cX9_fitting 56 = .ok (.getfield 34, 3) := by decide +kernel
theorem dX9_fitting_59 : decode cX9_fitting 59 = .ok (.iload_n 2, 1) := by decide +kernel
theorem dX9_fitting_60 : decode cX9_fitting 60 = .ok (.invokevirtual 301, 3) := by decide +kernel
theorem dX9_fitting_63 : decode cX9_fitting 63 = .ok (.iload_n 1, 1) := by decide +kernel
theorem dX9_fitting_64 : decode cX9_fitting 64 = .ok (.ifCond .eq 20, 3) := by decide +kernel
theorem dX9_fitting_67 : decode cX9_fitting 67 = .ok (.aload_n 0, 1) := by decide +kernel
theorem dX9_fitting_68 : decode cX9_fitting 68 = .ok (.getfield 38, 3) := by decide +kernel
theorem dX9_fitting_71 : decode cX9_fitting 71 = .ok (.getfield 88, 3) := by decide +kernel
theorem dX9_fitting_74 : decode cX9_fitting 74 = .ok (.iload_n 2, 1) := by decide +kernel
theorem dX9_fitting_75 : decode cX9_fitting 75 = .ok (.aaload, 1) := by decide +kernel
theorem dX9_fitting_76 : decode cX9_fitting 76 = .ok (.iload 7, 2) := by decide +kernel
theorem dX9_fitting_78 : decode cX9_fitting 78 = .ok (.putfield 100, 3) := by decide +kernel
theorem dX9_fitting_81 : decode cX9_fitting 81 = .ok (.goto 17, 3) := by decide +kernel
theorem dX9_fitting_84 : decode cX9_fitting 84 = .ok (.aload_n 0, 1) := by decide +kernel
theorem dX9_fitting_85 : decode cX9_fitting 85 = .ok (.getfield 38, 3) := by decide +kernel
theorem dX9_fitting_88 : decode cX9_fitting 88 = .ok (.getfield 88, 3) := by decide +kernel
theorem dX9_fitting_91 : decode cX9_fitting 91 = .ok (.iload_n 2, 1) := by decide +kernel
theorem dX9_fitting_92 : decode cX9_fitting 92 = .ok (.aaload, 1) := by decide +kernel
theorem dX9_fitting_93 : decode cX9_fitting 93 = .ok (.iload 7, 2) := by decide +kernel
theorem dX9_fitting_95 : decode cX9_fitting 95 = .ok (.putfield 97, 3) := by decide +kernel
theorem dX9_fitting_98 : decode cX9_fitting 98 = .ok (.aload_n 0, 1) := by decide +kernel
theorem dX9_fitting_99 : decode cX9_fitting 99 = .ok (.iload_n 1, 1) := by decide +kernel
theorem dX9_fitting_100 : decode cX9_fitting 100 = .ok (.iload_n 2, 1) := by decide +kernel
theorem dX9_fitting_101 : decode cX9_fitting 101 = .ok (.iconst 1, 1) := by decide +kernel
theorem dX9_fitting_102 : decode cX9_fitting 102 = .ok (.invokevirtual 297, 3) := by decide +kernel
theorem dX9_fitting_105 : decode cX9_fitting 105 = .ok (.ifCond .eq 13, 3) := by decide +kernel
theorem dX9_fitting_108 : decode cX9_fitting 108 = .ok (.iload_n 3, 1) := by decide +kernel
theorem dX9_fitting_109 : decode cX9_fitting 109 = .ok (.ifCond .eq 6, 3) := by decide +kernel
theorem dX9_fitting_112 : decode cX9_fitting 112 = .ok (.iload 7, 2) := by decide +kernel
theorem dX9_fitting_114 : decode cX9_fitting 114 = .ok (.ireturn, 1) := by decide +kernel
theorem dX9_fitting_115 : decode cX9_fitting 115 = .ok (.iinc 5 1, 3) := by decide +kernel
theorem dX9_fitting_118 : decode cX9_fitting 118 = .ok (.iinc 7 1, 3) := by decide +kernel
theorem dX9_fitting_121 : decode cX9_fitting 121 = .ok (.goto (-82), 3) := by decide +kernel
theorem dX9_fitting_124 : decode cX9_fitting 124 = .ok (.iload_n 3, 1) := by decide +kernel
theorem dX9_fitting_125 : decode cX9_fitting 125 = .ok (.ifCond .eq 8, 3) := by decide +kernel
theorem dX9_fitting_128 : decode cX9_fitting 128 = .ok (.bipush (-5), 2) := by decide +kernel
theorem dX9_fitting_130 : decode cX9_fitting 130 = .ok (.goto 5, 3) := by decide +kernel
theorem dX9_fitting_133 : decode cX9_fitting 133 = .ok (.iload 5, 2) := by decide +kernel
theorem dX9_fitting_135 : decode cX9_fitting 135 = .ok (.ireturn, 1) := by decide +kernel
theorem dX9_rowsFit_0 : decode cX9_rowsFit 0 = .ok (.iload_n 1, 1) := by decide +kernel
theorem dX9_rowsFit_1 : decode cX9_rowsFit 1 = .ok (.ifCond .eq 13, 3) := by decide +kernel
theorem dX9_rowsFit_4 : decode cX9_rowsFit 4 = .ok (.aload_n 0, 1) := by decide +kernel
theorem dX9_rowsFit_5 : decode cX9_rowsFit 5 = .ok (.getfield 47, 3) := by decide +kernel
theorem dX9_rowsFit_8 : decode cX9_rowsFit 8 = .ok (.getfield 196, 3) := by decide +kernel
theorem dX9_rowsFit_11 : decode cX9_rowsFit 11 = .ok (.goto 10, 3) := by decide +kernel
theorem dX9_rowsFit_14 : decode cX9_rowsFit 14 = .ok (.aload_n 0, 1) := by decide +kernel
theorem dX9_rowsFit_15 : decode cX9_rowsFit 15 = .ok (.getfield 47, 3) := by decide +kernel
theorem dX9_rowsFit_18 : decode cX9_rowsFit 18 = .ok (.getfield 208, 3) := by decide +kernel
theorem dX9_rowsFit_21 : decode cX9_rowsFit 21 = .ok (.astore 4, 2) := by decide +kernel
theorem dX9_rowsFit_23 : decode cX9_rowsFit 23 = .ok (.aload 4, 2) := by decide +kernel
theorem dX9_rowsFit_25 : decode cX9_rowsFit 25 = .ok (.invokevirtual 305, 3) := by decide +kernel
theorem dX9_rowsFit_28 : decode cX9_rowsFit 28 = .ok (.istore 5, 2) := by decide +kernel
theorem dX9_rowsFit_30 : decode cX9_rowsFit 30 = .ok (.iconst 0, 1) := by decide +kernel
theorem dX9_rowsFit_31 : decode cX9_rowsFit 31 = .ok (.istore 6, 2) := by decide +kernel
theorem dX9_rowsFit_33 : decode cX9_rowsFit 33 = .ok (.iload 6, 2) := by decide +kernel
theorem dX9_rowsFit_35 : decode cX9_rowsFit 35 = .ok (.iload 5, 2) := by decide +kernel
theorem dX9_rowsFit_37 : decode cX9_rowsFit 37 = .ok (.if_icmp .gt 122, 3) := by decide +kernel
theorem dX9_rowsFit_40 : decode cX9_rowsFit 40 = .ok (.iload 6, 2) := by decide +kernel
theorem dX9_rowsFit_42 : decode cX9_rowsFit 42 = .ok (.ifCond .le 20, 3) := by decide +kernel
theorem dX9_rowsFit_45 : decode cX9_rowsFit 45 = .ok (.aload_n 0, 1) := by decide +kernel
theorem dX9_rowsFit_46 : decode cX9_rowsFit 46 = .ok (.getfield 38, 3) := by decide +kernel
theorem dX9_rowsFit_49 : decode cX9_rowsFit 49 = .ok (.iconst 1, 1) := by decide +kernel
theorem dX9_rowsFit_50 : decode cX9_rowsFit 50 = .ok (.iload_n 3, 1) := by decide +kernel
theorem dX9_rowsFit_51 : decode cX9_rowsFit 51 = .ok (.ifCond .eq 7, 3) := by decide +kernel
theorem dX9_rowsFit_54 : decode cX9_rowsFit 54 = .ok (.iload_n 2, 1) := by decide +kernel
theorem dX9_rowsFit_55 : decode cX9_rowsFit 55 = .ok (.goto 4, 3) := by decide +kernel
theorem dX9_rowsFit_58 : decode cX9_rowsFit 58 = .ok (.iconst (-1), 1) := by decide +kernel
theorem dX9_rowsFit_59 : decode cX9_rowsFit 59 = .ok (.invokevirtual 179, 3) := by decide +kernel
theorem dX9_rowsFit_62 : decode cX9_rowsFit 62 = .ok (.iconst 0, 1) := by decide +kernel
theorem dX9_rowsFit_63 : decode cX9_rowsFit 63 = .ok (.istore 7, 2) := by decide +kernel
theorem dX9_rowsFit_65 : decode cX9_rowsFit 65 = .ok (.iload 7, 2) := by decide +kernel
theorem dX9_rowsFit_67 : decode cX9_rowsFit 67 = .ok (.aload 4, 2) := by decide +kernel
theorem dX9_rowsFit_69 : decode cX9_rowsFit 69 = .ok (.getfield 226, 3) := by decide +kernel
theorem dX9_rowsFit_72 : decode cX9_rowsFit 72 = .ok (.if_icmp .ge 81, 3) := by decide +kernel
theorem dX9_rowsFit_75 : decode cX9_rowsFit 75 = .ok (.aload 4, 2) := by decide +kernel
theorem dX9_rowsFit_77 : decode cX9_rowsFit 77 = .ok (.getfield 229, 3) := by decide +kernel
theorem dX9_rowsFit_80 : decode cX9_rowsFit 80 = .ok (.iload 7, 2) := by decide +kernel
theorem dX9_rowsFit_82 : decode cX9_rowsFit 82 = .ok (.iaload, 1) := by decide +kernel
theorem dX9_rowsFit_83 : decode cX9_rowsFit 83 = .ok (.iload 6, 2) := by decide +kernel
theorem dX9_rowsFit_85 : decode cX9_rowsFit 85 = .ok (.if_icmp .ne 28, 3) := by decide +kernel
theorem dX9_rowsFit_88 : decode cX9_rowsFit 88 = .ok (.aload 4, 2) := by decide +kernel
theorem dX9_rowsFit_90 : decode cX9_rowsFit 90 = .ok (.getfield 232, 3) := by decide +kernel
theorem dX9_rowsFit_93 : decode cX9_rowsFit 93 = .ok (.iload 7, 2) := by decide +kernel
theorem dX9_rowsFit_95 : decode cX9_rowsFit 95 = .ok (.iaload, 1) := by decide +kernel
theorem dX9_rowsFit_96 : decode cX9_rowsFit 96 = .ok (.iload_n 2, 1) := by decide +kernel
theorem dX9_rowsFit_97 : decode cX9_rowsFit 97 = .ok (.if_icmp .ne 7, 3) := by decide +kernel
theorem dX9_rowsFit_100 : decode cX9_rowsFit 100 = .ok (.iconst 1, 1) := by decide +kernel
theorem dX9_rowsFit_101 : decode cX9_rowsFit 101 = .ok (.goto 4, 3) := by decide +kernel
theorem dX9_rowsFit_104 : decode cX9_rowsFit 104 = .ok (.iconst 0, 1) := by decide +kernel
theorem dX9_rowsFit_105 : decode cX9_rowsFit 105 = .ok (.iload_n 3, 1) := by decide +kernel
theorem dX9_rowsFit_106 : decode cX9_rowsFit 106 = .ok (.if_icmp .ne 7, 3) := by decide +kernel
theorem dX9_rowsFit_109 : decode cX9_rowsFit 109 = .ok (.iconst 1, 1) := by decide +kernel
theorem dX9_rowsFit_110 : decode cX9_rowsFit 110 = .ok (.goto 4, 3) := by decide +kernel
theorem dX9_rowsFit_113 : decode cX9_rowsFit 113 = .ok (.iconst 0, 1) := by decide +kernel
theorem dX9_rowsFit_114 : decode cX9_rowsFit 114 = .ok (.istore 8, 2) := by decide +kernel
theorem dX9_rowsFit_116 : decode cX9_rowsFit 116 = .ok (.iload 8, 2) := by decide +kernel
theorem dX9_rowsFit_118 : decode cX9_rowsFit 118 = .ok (.ifCond .eq 29, 3) := by decide +kernel
theorem dX9_rowsFit_121 : decode cX9_rowsFit 121 = .ok (.aload_n 0, 1) := by decide +kernel
theorem dX9_rowsFit_122 : decode cX9_rowsFit 122 = .ok (.aload 4, 2) := by decide +kernel
theorem dX9_rowsFit_124 : decode cX9_rowsFit 124 = .ok (.getfield 232, 3) := by decide +kernel
theorem dX9_rowsFit_127 : decode cX9_rowsFit 127 = .ok (.iload 7, 2) := by decide +kernel
theorem dX9_rowsFit_129 : decode cX9_rowsFit 129 = .ok (.iaload, 1) := by decide +kernel
theorem dX9_rowsFit_130 : decode cX9_rowsFit 130 = .ok (.iload_n 1, 1) := by decide +kernel
theorem dX9_rowsFit_131 : decode cX9_rowsFit 131 = .ok (.invokevirtual 308, 3) := by decide +kernel
theorem dX9_rowsFit_134 : decode cX9_rowsFit 134 = .ok (.aload 4, 2) := by decide +kernel
theorem dX9_rowsFit_136 : decode cX9_rowsFit 136 = .ok (.getfield 241, 3) := by decide +kernel
theorem dX9_rowsFit_139 : decode cX9_rowsFit 139 = .ok (.iload 7, 2) := by decide +kernel
theorem dX9_rowsFit_141 : decode cX9_rowsFit 141 = .ok (.iaload, 1) := by decide +kernel
theorem dX9_rowsFit_142 : decode cX9_rowsFit 142 = .ok (.if_icmp .eq 5, 3) := by decide +kernel
theorem dX9_rowsFit_145 : decode cX9_rowsFit 145 = .ok (.iconst 0, 1) := by decide +kernel
theorem dX9_rowsFit_146 : decode cX9_rowsFit 146 = .ok (.ireturn, 1) := by decide +kernel
theorem dX9_rowsFit_147 : decode cX9_rowsFit 147 = .ok (.iinc 7 1, 3) := by decide +kernel
theorem dX9_rowsFit_150 : decode cX9_rowsFit 150 = .ok (.goto (-85), 3) := by decide +kernel
theorem dX9_rowsFit_153 : decode cX9_rowsFit 153 = .ok (.iinc 6 1, 3) := by decide +kernel
theorem dX9_rowsFit_156 : decode cX9_rowsFit 156 = .ok (.goto (-123), 3) := by decide +kernel
theorem dX9_rowsFit_159 : decode cX9_rowsFit 159 = .ok (.iconst 1, 1) := by decide +kernel
theorem dX9_rowsFit_160 : decode cX9_rowsFit 160 = .ok (.ireturn, 1) := by decide +kernel
theorem dX9_trialValue_0 : decode cX9_trialValue 0 = .ok (.iload_n 2, 1) := by decide +kernel
theorem dX9_trialValue_1 : decode cX9_trialValue 1 = .ok (.ifCond .eq 18, 3) := by decide +kernel
theorem dX9_trialValue_4 : decode cX9_trialValue 4 = .ok (.aload_n 0, 1) := by decide +kernel
theorem dX9_trialValue_5 : decode cX9_trialValue 5 = .ok (.getfield 38, 3) := by decide +kernel
theorem dX9_trialValue_8 : decode cX9_trialValue 8 = .ok (.getfield 88, 3) := by decide +kernel
theorem dX9_trialValue_11 : decode cX9_trialValue 11 = .ok (.iload_n 1, 1) := by decide +kernel
theorem dX9_trialValue_12 : decode cX9_trialValue 12 = .ok (.aaload, 1) := by decide +kernel
theorem dX9_trialValue_13 : decode cX9_trialValue 13 = .ok (.getfield 100, 3) := by decide +kernel
theorem dX9_trialValue_16 : decode cX9_trialValue 16 = .ok (.goto 16, 3) := by decide +kernel
theorem dX9_trialValue_19 : decode cX9_trialValue 19 = .ok (.aload_n 0, 1) := by decide +kernel
theorem dX9_trialValue_20 : decode cX9_trialValue 20 = .ok (.iload_n 1, 1) := by decide +kernel
theorem dX9_trialValue_21 : decode cX9_trialValue 21 = .ok (.invokevirtual 216, 3) := by decide +kernel
theorem dX9_trialValue_24 : decode cX9_trialValue 24 = .ok (.ifCond .eq 7, 3) := by decide +kernel
theorem dX9_trialValue_27 : decode cX9_trialValue 27 = .ok (.iconst 1, 1) := by decide +kernel
theorem dX9_trialValue_28 : decode cX9_trialValue 28 = .ok (.goto 4, 3) := by decide +kernel
theorem dX9_trialValue_31 : decode cX9_trialValue 31 = .ok (.iconst 0, 1) := by decide +kernel
theorem dX9_trialValue_32 : decode cX9_trialValue 32 = .ok (.ireturn, 1) := by decide +kernel
theorem dX9_followPlan_0 : decode cX9_followPlan 0 = .ok (.iload_n 1, 1) := by decide +kernel
theorem dX9_followPlan_1 : decode cX9_followPlan 1 = .ok (.tableswitch 73 0 2 #[27, 39, 56], 27) := by decide +kernel
theorem dX9_followPlan_28 : decode cX9_followPlan 28 = .ok (.aload_n 0, 1) := by decide +kernel
theorem dX9_followPlan_29 : decode cX9_followPlan 29 = .ok (.getfield 38, 3) := by decide +kernel
theorem dX9_followPlan_32 : decode cX9_followPlan 32 = .ok (.iconst 1, 1) := by decide +kernel
theorem dX9_followPlan_33 : decode cX9_followPlan 33 = .ok (.iconst (-1), 1) := by decide +kernel
theorem dX9_followPlan_34 : decode cX9_followPlan 34 = .ok (.invokevirtual 179, 3) := by decide +kernel
theorem dX9_followPlan_37 : decode cX9_followPlan 37 = .ok (.goto 50, 3) := by decide +kernel
theorem dX9_followPlan_40 : decode cX9_followPlan 40 = .ok (.aload_n 0, 1) := by decide +kernel
theorem dX9_followPlan_41 : decode cX9_followPlan 41 = .ok (.getfield 38, 3) := by decide +kernel
theorem dX9_followPlan_44 : decode cX9_followPlan 44 = .ok (.getfield 88, 3) := by decide +kernel
theorem dX9_followPlan_47 : decode cX9_followPlan 47 = .ok (.iload_n 2, 1) := by decide +kernel
theorem dX9_followPlan_48 : decode cX9_followPlan 48 = .ok (.aaload, 1) := by decide +kernel
theorem dX9_followPlan_49 : decode cX9_followPlan 49 = .ok (.bipush 99, 2) := by decide +kernel
theorem dX9_followPlan_51 : decode cX9_followPlan 51 = .ok (.putfield 100, 3) := by decide +kernel
theorem dX9_followPlan_54 : decode cX9_followPlan 54 = .ok (.goto 33, 3) := by decide +kernel
theorem dX9_followPlan_57 : decode cX9_followPlan 57 = .ok (.aload_n 0, 1) := by decide +kernel
theorem dX9_followPlan_58 : decode cX9_followPlan 58 = .ok (.getfield 38, 3) := by decide +kernel
theorem dX9_followPlan_61 : decode cX9_followPlan 61 = .ok (.getfield 128, 3) := by decide +kernel
theorem dX9_followPlan_64 : decode cX9_followPlan 64 = .ok (.iload_n 2, 1) := by decide +kernel
theorem dX9_followPlan_65 : decode cX9_followPlan 65 = .ok (.aaload, 1) := by decide +kernel
theorem dX9_followPlan_66 : decode cX9_followPlan 66 = .ok (.bipush (-5), 2) := by decide +kernel
theorem dX9_followPlan_68 : decode cX9_followPlan 68 = .ok (.putfield 140, 3) := by decide +kernel
theorem dX9_followPlan_71 : decode cX9_followPlan 71 = .ok (.goto 16, 3) := by decide +kernel
theorem dX9_followPlan_74 : decode cX9_followPlan 74 = .ok (.aload_n 0, 1) := by decide +kernel
theorem dX9_followPlan_75 : decode cX9_followPlan 75 = .ok (.getfield 38, 3) := by decide +kernel
theorem dX9_followPlan_78 : decode cX9_followPlan 78 = .ok (.getfield 88, 3) := by decide +kernel
theorem dX9_followPlan_81 : decode cX9_followPlan 81 = .ok (.iload_n 2, 1) := by decide +kernel
theorem dX9_followPlan_82 : decode cX9_followPlan 82 = .ok (.aaload, 1) := by decide +kernel
theorem dX9_followPlan_83 : decode cX9_followPlan 83 = .ok (.iconst 0, 1) := by decide +kernel
theorem dX9_followPlan_84 : decode cX9_followPlan 84 = .ok (.putfield 106, 3) := by decide +kernel
theorem dX9_followPlan_87 : decode cX9_followPlan 87 = .ok (.return_, 1) := by decide +kernel
theorem dJ11_isValidCodePoint_9a6ad_0 : decode cJ11_isValidCodePoint_9a6ad 0 = .ok (.iload_n 0, 1) := by decide +kernel
theorem dJ11_isValidCodePoint_9a6ad_1 : decode cJ11_isValidCodePoint_9a6ad 1 = .ok (.bipush 16, 2) := by decide +kernel
theorem dJ11_isValidCodePoint_9a6ad_3 : decode cJ11_isValidCodePoint_9a6ad 3 = .ok (.iushr, 1) := by decide +kernel
theorem dJ11_isValidCodePoint_9a6ad_4 : decode cJ11_isValidCodePoint_9a6ad 4 = .ok (.istore_n 1, 1) := by decide +kernel
theorem dJ11_isValidCodePoint_9a6ad_5 : decode cJ11_isValidCodePoint_9a6ad 5 = .ok (.iload_n 1, 1) := by decide +kernel
theorem dJ11_isValidCodePoint_9a6ad_6 : decode cJ11_isValidCodePoint_9a6ad 6 = .ok (.bipush 17, 2) := by decide +kernel
theorem dJ11_isValidCodePoint_9a6ad_8 : decode cJ11_isValidCodePoint_9a6ad 8 = .ok (.if_icmp .ge 7, 3) := by decide +kernel
theorem dJ11_isValidCodePoint_9a6ad_11 : decode cJ11_isValidCodePoint_9a6ad 11 = .ok (.iconst 1, 1) := by decide +kernel
theorem dJ11_isValidCodePoint_9a6ad_12 : decode cJ11_isValidCodePoint_9a6ad 12 = .ok (.goto 4, 3) := by decide +kernel
theorem dJ11_isValidCodePoint_9a6ad_15 : decode cJ11_isValidCodePoint_9a6ad 15 = .ok (.iconst 0, 1) := by decide +kernel
theorem dJ11_isValidCodePoint_9a6ad_16 : decode cJ11_isValidCodePoint_9a6ad 16 = .ok (.ireturn, 1) := by decide +kernel
theorem dJ11_highSurrogate_5068e_0 : decode cJ11_highSurrogate_5068e 0 = .ok (.iload_n 0, 1) := by decide +kernel
theorem dJ11_highSurrogate_5068e_1 : decode cJ11_highSurrogate_5068e 1 = .ok (.bipush 10, 2) := by decide +kernel
theorem dJ11_highSurrogate_5068e_3 : decode cJ11_highSurrogate_5068e 3 = .ok (.iushr, 1) := by decide +kernel
theorem dJ11_highSurrogate_5068e_4 : decode cJ11_highSurrogate_5068e 4 = .ok (.ldc 110, 2) := by decide +kernel
theorem dJ11_highSurrogate_5068e_6 : decode cJ11_highSurrogate_5068e 6 = .ok (.iadd, 1) := by decide +kernel
theorem dJ11_highSurrogate_5068e_7 : decode cJ11_highSurrogate_5068e 7 = .ok (.i2c, 1) := by decide +kernel
theorem dJ11_highSurrogate_5068e_8 : decode cJ11_highSurrogate_5068e 8 = .ok (.ireturn, 1) := by decide +kernel
theorem dJ11_lowSurrogate_5068e_0 : decode cJ11_lowSurrogate_5068e 0 = .ok (.iload_n 0, 1) := by decide +kernel
theorem dJ11_lowSurrogate_5068e_1 : decode cJ11_lowSurrogate_5068e 1 = .ok (.sipush 1023, 3) := by decide +kernel
theorem dJ11_lowSurrogate_5068e_4 : decode cJ11_lowSurrogate_5068e 4 = .ok (.iand, 1) := by decide +kernel
theorem dJ11_lowSurrogate_5068e_5 : decode cJ11_lowSurrogate_5068e 5 = .ok (.ldc 76, 2) := by decide +kernel
theorem dJ11_lowSurrogate_5068e_7 : decode cJ11_lowSurrogate_5068e 7 = .ok (.iadd, 1) := by decide +kernel
theorem dJ11_lowSurrogate_5068e_8 : decode cJ11_lowSurrogate_5068e 8 = .ok (.i2c, 1) := by decide +kernel
theorem dJ11_lowSurrogate_5068e_9 : decode cJ11_lowSurrogate_5068e 9 = .ok (.ireturn, 1) := by decide +kernel
theorem dJ9_max_7cf53_0 : decode cJ9_max_7cf53 0 = .ok (.iload_n 0, 1) := by decide +kernel
theorem dJ9_max_7cf53_1 : decode cJ9_max_7cf53 1 = .ok (.iload_n 1, 1) := by decide +kernel
theorem dJ9_max_7cf53_2 : decode cJ9_max_7cf53 2 = .ok (.if_icmp .lt 7, 3) := by decide +kernel
theorem dJ9_max_7cf53_5 : decode cJ9_max_7cf53 5 = .ok (.iload_n 0, 1) := by decide +kernel
theorem dJ9_max_7cf53_6 : decode cJ9_max_7cf53 6 = .ok (.goto 4, 3) := by decide +kernel
theorem dJ9_max_7cf53_9 : decode cJ9_max_7cf53 9 = .ok (.iload_n 1, 1) := by decide +kernel
theorem dJ9_max_7cf53_10 : decode cJ9_max_7cf53 10 = .ok (.ireturn, 1) := by decide +kernel
theorem dJ9_min_7cf53_0 : decode cJ9_min_7cf53 0 = .ok (.iload_n 0, 1) := by decide +kernel
theorem dJ9_min_7cf53_1 : decode cJ9_min_7cf53 1 = .ok (.iload_n 1, 1) := by decide +kernel
theorem dJ9_min_7cf53_2 : decode cJ9_min_7cf53 2 = .ok (.if_icmp .gt 7, 3) := by decide +kernel
theorem dJ9_min_7cf53_5 : decode cJ9_min_7cf53 5 = .ok (.iload_n 0, 1) := by decide +kernel
theorem dJ9_min_7cf53_6 : decode cJ9_min_7cf53 6 = .ok (.goto 4, 3) := by decide +kernel
theorem dJ9_min_7cf53_9 : decode cJ9_min_7cf53 9 = .ok (.iload_n 1, 1) := by decide +kernel
theorem dJ9_min_7cf53_10 : decode cJ9_min_7cf53 10 = .ok (.ireturn, 1) := by decide +kernel
theorem dJ0_length_8abf5_0 : decode cJ0_length_8abf5 0 = .ok (.aload_n 0, 1) := by decide +kernel
theorem dJ0_length_8abf5_1 : decode cJ0_length_8abf5 1 = .ok (.getfield 9, 3) := by decide +kernel
theorem dJ0_length_8abf5_4 : decode cJ0_length_8abf5 4 = .ok (.arraylength, 1) := by decide +kernel
theorem dJ0_length_8abf5_5 : decode cJ0_length_8abf5 5 = .ok (.aload_n 0, 1) := by decide +kernel
theorem dJ0_length_8abf5_6 : decode cJ0_length_8abf5 6 = .ok (.invokevirtual 335, 3) := by decide +kernel
theorem dJ0_length_8abf5_9 : decode cJ0_length_8abf5 9 = .ok (.ishr, 1) := by decide +kernel
theorem dJ0_length_8abf5_10 : decode cJ0_length_8abf5 10 = .ok (.ireturn, 1) := by decide +kernel
theorem dJ0_charAt_5068e_0 : decode cJ0_charAt_5068e 0 = .ok (.aload_n 0, 1) := by decide +kernel
theorem dJ0_charAt_5068e_1 : decode cJ0_charAt_5068e 1 = .ok (.invokevirtual 492, 3) := by decide +kernel
theorem dJ0_charAt_5068e_4 : decode cJ0_charAt_5068e 4 = .ok (.ifCond .eq 12, 3) := by decide +kernel
theorem dJ0_charAt_5068e_7 : decode cJ0_charAt_5068e 7 = .ok (.aload_n 0, 1) := by decide +kernel
theorem dJ0_charAt_5068e_8 : decode cJ0_charAt_5068e 8 = .ok (.getfield 9, 3) := by decide +kernel
theorem dJ0_charAt_5068e_11 : decode cJ0_charAt_5068e 11 = .ok (.iload_n 1, 1) := by decide +kernel
theorem dJ0_charAt_5068e_12 : decode cJ0_charAt_5068e 12 = .ok (.invokestatic 495, 3) := by decide +kernel
theorem dJ0_charAt_5068e_15 : decode cJ0_charAt_5068e 15 = .ok (.ireturn, 1) := by decide +kernel
theorem dJ0_charAt_5068e_16 : decode cJ0_charAt_5068e 16 = .ok (.aload_n 0, 1) := by decide +kernel
theorem dJ0_charAt_5068e_17 : decode cJ0_charAt_5068e 17 = .ok (.getfield 9, 3) := by decide +kernel
theorem dJ0_charAt_5068e_20 : decode cJ0_charAt_5068e 20 = .ok (.iload_n 1, 1) := by decide +kernel
theorem dJ0_charAt_5068e_21 : decode cJ0_charAt_5068e 21 = .ok (.invokestatic 498, 3) := by decide +kernel
theorem dJ0_charAt_5068e_24 : decode cJ0_charAt_5068e 24 = .ok (.ireturn, 1) := by decide +kernel
theorem dJ0_indexOf_0f7a4_0 : decode cJ0_indexOf_0f7a4 0 = .ok (.aload_n 0, 1) := by decide +kernel
theorem dJ0_indexOf_0f7a4_1 : decode cJ0_indexOf_0f7a4 1 = .ok (.iload_n 1, 1) := by decide +kernel
theorem dJ0_indexOf_0f7a4_2 : decode cJ0_indexOf_0f7a4 2 = .ok (.iconst 0, 1) := by decide +kernel
theorem dJ0_indexOf_0f7a4_3 : decode cJ0_indexOf_0f7a4 3 = .ok (.invokevirtual 633, 3) := by decide +kernel
theorem dJ0_indexOf_0f7a4_6 : decode cJ0_indexOf_0f7a4 6 = .ok (.ireturn, 1) := by decide +kernel
theorem dJ0_indexOf_7cf53_0 : decode cJ0_indexOf_7cf53 0 = .ok (.aload_n 0, 1) := by decide +kernel
theorem dJ0_indexOf_7cf53_1 : decode cJ0_indexOf_7cf53 1 = .ok (.invokevirtual 492, 3) := by decide +kernel
theorem dJ0_indexOf_7cf53_4 : decode cJ0_indexOf_7cf53 4 = .ok (.ifCond .eq 19, 3) := by decide +kernel
theorem dJ0_indexOf_7cf53_7 : decode cJ0_indexOf_7cf53 7 = .ok (.aload_n 0, 1) := by decide +kernel
theorem dJ0_indexOf_7cf53_8 : decode cJ0_indexOf_7cf53 8 = .ok (.getfield 9, 3) := by decide +kernel
theorem dJ0_indexOf_7cf53_11 : decode cJ0_indexOf_7cf53 11 = .ok (.iload_n 1, 1) := by decide +kernel
theorem dJ0_indexOf_7cf53_12 : decode cJ0_indexOf_7cf53 12 = .ok (.iload_n 2, 1) := by decide +kernel
theorem dJ0_indexOf_7cf53_13 : decode cJ0_indexOf_7cf53 13 = .ok (.aload_n 0, 1) := by decide +kernel
theorem dJ0_indexOf_7cf53_14 : decode cJ0_indexOf_7cf53 14 = .ok (.invokevirtual 505, 3) := by decide +kernel
theorem dJ0_indexOf_7cf53_17 : decode cJ0_indexOf_7cf53 17 = .ok (.invokestatic 637, 3) := by decide +kernel
theorem dJ0_indexOf_7cf53_20 : decode cJ0_indexOf_7cf53 20 = .ok (.goto 16, 3) := by decide +kernel
theorem dJ0_indexOf_7cf53_23 : decode cJ0_indexOf_7cf53 23 = .ok (.aload_n 0, 1) := by decide +kernel
theorem dJ0_indexOf_7cf53_24 : decode cJ0_indexOf_7cf53 24 = .ok (.getfield 9, 3) := by decide +kernel
theorem dJ0_indexOf_7cf53_27 : decode cJ0_indexOf_7cf53 27 = .ok (.iload_n 1, 1) := by decide +kernel
theorem dJ0_indexOf_7cf53_28 : decode cJ0_indexOf_7cf53 28 = .ok (.iload_n 2, 1) := by decide +kernel
theorem dJ0_indexOf_7cf53_29 : decode cJ0_indexOf_7cf53 29 = .ok (.aload_n 0, 1) := by decide +kernel
theorem dJ0_indexOf_7cf53_30 : decode cJ0_indexOf_7cf53 30 = .ok (.invokevirtual 505, 3) := by decide +kernel
theorem dJ0_indexOf_7cf53_33 : decode cJ0_indexOf_7cf53 33 = .ok (.invokestatic 640, 3) := by decide +kernel
theorem dJ0_indexOf_7cf53_36 : decode cJ0_indexOf_7cf53 36 = .ok (.ireturn, 1) := by decide +kernel
theorem dJ0_coder_7d493_0 : decode cJ0_coder_7d493 0 = .ok (.getstatic 38, 3) := by decide +kernel
theorem dJ0_coder_7d493_3 : decode cJ0_coder_7d493 3 = .ok (.ifCond .eq 10, 3) := by decide +kernel
theorem dJ0_coder_7d493_6 : decode cJ0_coder_7d493 6 = .ok (.aload_n 0, 1) := by decide +kernel
theorem dJ0_coder_7d493_7 : decode cJ0_coder_7d493 7 = .ok (.getfield 15, 3) := by decide +kernel
theorem dJ0_coder_7d493_10 : decode cJ0_coder_7d493 10 = .ok (.goto 4, 3) := by decide +kernel
theorem dJ0_coder_7d493_13 : decode cJ0_coder_7d493 13 = .ok (.iconst 1, 1) := by decide +kernel
theorem dJ0_coder_7d493_14 : decode cJ0_coder_7d493 14 = .ok (.ireturn, 1) := by decide +kernel
theorem dJ0_isLatin1_aae02_0 : decode cJ0_isLatin1_aae02 0 = .ok (.getstatic 38, 3) := by decide +kernel
theorem dJ0_isLatin1_aae02_3 : decode cJ0_isLatin1_aae02 3 = .ok (.ifCond .eq 14, 3) := by decide +kernel
theorem dJ0_isLatin1_aae02_6 : decode cJ0_isLatin1_aae02 6 = .ok (.aload_n 0, 1) := by decide +kernel
theorem dJ0_isLatin1_aae02_7 : decode cJ0_isLatin1_aae02 7 = .ok (.getfield 15, 3) := by decide +kernel
theorem dJ0_isLatin1_aae02_10 : decode cJ0_isLatin1_aae02 10 = .ok (.ifCond .ne 7, 3) := by decide +kernel
theorem dJ0_isLatin1_aae02_13 : decode cJ0_isLatin1_aae02 13 = .ok (.iconst 1, 1) := by decide +kernel
theorem dJ0_isLatin1_aae02_14 : decode cJ0_isLatin1_aae02 14 = .ok (.goto 4, 3) := by decide +kernel
theorem dJ0_isLatin1_aae02_17 : decode cJ0_isLatin1_aae02 17 = .ok (.iconst 0, 1) := by decide +kernel
theorem dJ0_isLatin1_aae02_18 : decode cJ0_isLatin1_aae02 18 = .ok (.ireturn, 1) := by decide +kernel
theorem dJ0_checkIndex_df160_0 : decode cJ0_checkIndex_df160 0 = .ok (.iload_n 0, 1) := by decide +kernel
theorem dJ0_checkIndex_df160_1 : decode cJ0_checkIndex_df160 1 = .ok (.iload_n 1, 1) := by decide +kernel
theorem dJ0_checkIndex_df160_2 : decode cJ0_checkIndex_df160 2 = .ok (.getstatic 1053, 3) := by decide +kernel
theorem dJ0_checkIndex_df160_5 : decode cJ0_checkIndex_df160 5 = .ok (.invokestatic 1059, 3) := by decide +kernel
theorem dJ0_checkIndex_df160_8 : decode cJ0_checkIndex_df160 8 = .ok (.pop, 1) := by decide +kernel
theorem dJ0_checkIndex_df160_9 : decode cJ0_checkIndex_df160 9 = .ok (.return_, 1) := by decide +kernel
theorem dJ0_checkBoundsBeginEnd_23922_0 : decode cJ0_checkBoundsBeginEnd_23922 0 = .ok (.iload_n 0, 1) := by decide +kernel
theorem dJ0_checkBoundsBeginEnd_23922_1 : decode cJ0_checkBoundsBeginEnd_23922 1 = .ok (.iload_n 1, 1) := by decide +kernel
theorem dJ0_checkBoundsBeginEnd_23922_2 : decode cJ0_checkBoundsBeginEnd_23922 2 = .ok (.iload_n 2, 1) := by decide +kernel
theorem dJ0_checkBoundsBeginEnd_23922_3 : decode cJ0_checkBoundsBeginEnd_23922 3 = .ok (.getstatic 1053, 3) := by decide +kernel
theorem dJ0_checkBoundsBeginEnd_23922_6 : decode cJ0_checkBoundsBeginEnd_23922 6 = .ok (.invokestatic 1062, 3) := by decide +kernel
theorem dJ0_checkBoundsBeginEnd_23922_9 : decode cJ0_checkBoundsBeginEnd_23922 9 = .ok (.pop, 1) := by decide +kernel
theorem dJ0_checkBoundsBeginEnd_23922_10 : decode cJ0_checkBoundsBeginEnd_23922 10 = .ok (.return_, 1) := by decide +kernel
theorem dJ1_charAt_3b067_0 : decode cJ1_charAt_3b067 0 = .ok (.iload_n 1, 1) := by decide +kernel
theorem dJ1_charAt_3b067_1 : decode cJ1_charAt_3b067 1 = .ok (.aload_n 0, 1) := by decide +kernel
theorem dJ1_charAt_3b067_2 : decode cJ1_charAt_3b067 2 = .ok (.arraylength, 1) := by decide +kernel
theorem dJ1_charAt_3b067_3 : decode cJ1_charAt_3b067 3 = .ok (.invokestatic 9, 3) := by decide +kernel
theorem dJ1_charAt_3b067_6 : decode cJ1_charAt_3b067 6 = .ok (.aload_n 0, 1) := by decide +kernel
theorem dJ1_charAt_3b067_7 : decode cJ1_charAt_3b067 7 = .ok (.iload_n 1, 1) := by decide +kernel
theorem dJ1_charAt_3b067_8 : decode cJ1_charAt_3b067 8 = .ok (.baload, 1) := by decide +kernel
theorem dJ1_charAt_3b067_9 : decode cJ1_charAt_3b067 9 = .ok (.sipush 255, 3) := by decide +kernel
theorem dJ1_charAt_3b067_12 : decode cJ1_charAt_3b067 12 = .ok (.iand, 1) := by decide +kernel
theorem dJ1_charAt_3b067_13 : decode cJ1_charAt_3b067 13 = .ok (.i2c, 1) := by decide +kernel
theorem dJ1_charAt_3b067_14 : decode cJ1_charAt_3b067 14 = .ok (.ireturn, 1) := by decide +kernel
theorem dJ1_canEncode_9a6ad_0 : decode cJ1_canEncode_9a6ad 0 = .ok (.iload_n 0, 1) := by decide +kernel
theorem dJ1_canEncode_9a6ad_1 : decode cJ1_canEncode_9a6ad 1 = .ok (.ifCond .lt 14, 3) := by decide +kernel
theorem dJ1_canEncode_9a6ad_4 : decode cJ1_canEncode_9a6ad 4 = .ok (.iload_n 0, 1) := by decide +kernel
theorem dJ1_canEncode_9a6ad_5 : decode cJ1_canEncode_9a6ad 5 = .ok (.sipush 255, 3) := by decide +kernel
theorem dJ1_canEncode_9a6ad_8 : decode cJ1_canEncode_9a6ad 8 = .ok (.if_icmp .gt 7, 3) := by decide +kernel
theorem dJ1_canEncode_9a6ad_11 : decode cJ1_canEncode_9a6ad 11 = .ok (.iconst 1, 1) := by decide +kernel
theorem dJ1_canEncode_9a6ad_12 : decode cJ1_canEncode_9a6ad 12 = .ok (.goto 4, 3) := by decide +kernel
theorem dJ1_canEncode_9a6ad_15 : decode cJ1_canEncode_9a6ad 15 = .ok (.iconst 0, 1) := by decide +kernel
theorem dJ1_canEncode_9a6ad_16 : decode cJ1_canEncode_9a6ad 16 = .ok (.ireturn, 1) := by decide +kernel
theorem dJ1_indexOf_4cfef_0 : decode cJ1_indexOf_4cfef 0 = .ok (.iload_n 1, 1) := by decide +kernel
theorem dJ1_indexOf_4cfef_1 : decode cJ1_indexOf_4cfef 1 = .ok (.invokestatic 88, 3) := by decide +kernel
theorem dJ1_indexOf_4cfef_4 : decode cJ1_indexOf_4cfef 4 = .ok (.ifCond .ne 5, 3) := by decide +kernel
theorem dJ1_indexOf_4cfef_7 : decode cJ1_indexOf_4cfef 7 = .ok (.iconst (-1), 1) := by decide +kernel
theorem dJ1_indexOf_4cfef_8 : decode cJ1_indexOf_4cfef 8 = .ok (.ireturn, 1) := by decide +kernel
theorem dJ1_indexOf_4cfef_9 : decode cJ1_indexOf_4cfef 9 = .ok (.iload_n 2, 1) := by decide +kernel
theorem dJ1_indexOf_4cfef_10 : decode cJ1_indexOf_4cfef 10 = .ok (.iconst 0, 1) := by decide +kernel
theorem dJ1_indexOf_4cfef_11 : decode cJ1_indexOf_4cfef 11 = .ok (.invokestatic 92, 3) := by decide +kernel
theorem dJ1_indexOf_4cfef_14 : decode cJ1_indexOf_4cfef 14 = .ok (.istore_n 2, 1) := by decide +kernel
theorem dJ1_indexOf_4cfef_15 : decode cJ1_indexOf_4cfef 15 = .ok (.iload_n 3, 1) := by decide +kernel
theorem dJ1_indexOf_4cfef_16 : decode cJ1_indexOf_4cfef 16 = .ok (.aload_n 0, 1) := by decide +kernel
theorem dJ1_indexOf_4cfef_17 : decode cJ1_indexOf_4cfef 17 = .ok (.arraylength, 1) := by decide +kernel
theorem dJ1_indexOf_4cfef_18 : decode cJ1_indexOf_4cfef 18 = .ok (.invokestatic 38, 3) := by decide +kernel
theorem dJ1_indexOf_4cfef_21 : decode cJ1_indexOf_4cfef 21 = .ok (.istore_n 3, 1) := by decide +kernel
theorem dJ1_indexOf_4cfef_22 : decode cJ1_indexOf_4cfef 22 = .ok (.iload_n 2, 1) := by decide +kernel
theorem dJ1_indexOf_4cfef_23 : decode cJ1_indexOf_4cfef 23 = .ok (.iload_n 3, 1) := by decide +kernel
theorem dJ1_indexOf_4cfef_24 : decode cJ1_indexOf_4cfef 24 = .ok (.if_icmp .lt 5, 3) := by decide +kernel
theorem dJ1_indexOf_4cfef_27 : decode cJ1_indexOf_4cfef 27 = .ok (.iconst (-1), 1) := by decide +kernel
theorem dJ1_indexOf_4cfef_28 : decode cJ1_indexOf_4cfef 28 = .ok (.ireturn, 1) := by decide +kernel
theorem dJ1_indexOf_4cfef_29 : decode cJ1_indexOf_4cfef 29 = .ok (.aload_n 0, 1) := by decide +kernel
theorem dJ1_indexOf_4cfef_30 : decode cJ1_indexOf_4cfef 30 = .ok (.iload_n 1, 1) := by decide +kernel
theorem dJ1_indexOf_4cfef_31 : decode cJ1_indexOf_4cfef 31 = .ok (.iload_n 2, 1) := by decide +kernel
theorem dJ1_indexOf_4cfef_32 : decode cJ1_indexOf_4cfef 32 = .ok (.iload_n 3, 1) := by decide +kernel
theorem dJ1_indexOf_4cfef_33 : decode cJ1_indexOf_4cfef 33 = .ok (.invokestatic 95, 3) := by decide +kernel
theorem dJ1_indexOf_4cfef_36 : decode cJ1_indexOf_4cfef 36 = .ok (.ireturn, 1) := by decide +kernel
theorem dJ1_indexOfChar_4cfef_0 : decode cJ1_indexOfChar_4cfef 0 = .ok (.iload_n 1, 1) := by decide +kernel
theorem dJ1_indexOfChar_4cfef_1 : decode cJ1_indexOfChar_4cfef 1 = .ok (.i2b, 1) := by decide +kernel
theorem dJ1_indexOfChar_4cfef_2 : decode cJ1_indexOfChar_4cfef 2 = .ok (.istore 4, 2) := by decide +kernel
theorem dJ1_indexOfChar_4cfef_4 : decode cJ1_indexOfChar_4cfef 4 = .ok (.iload_n 2, 1) := by decide +kernel
theorem dJ1_indexOfChar_4cfef_5 : decode cJ1_indexOfChar_4cfef 5 = .ok (.istore 5, 2) := by decide +kernel
theorem dJ1_indexOfChar_4cfef_7 : decode cJ1_indexOfChar_4cfef 7 = .ok (.iload 5, 2) := by decide +kernel
theorem dJ1_indexOfChar_4cfef_9 : decode cJ1_indexOfChar_4cfef 9 = .ok (.iload_n 3, 1) := by decide +kernel
theorem dJ1_indexOfChar_4cfef_10 : decode cJ1_indexOfChar_4cfef 10 = .ok (.if_icmp .ge 21, 3) := by decide +kernel
theorem dJ1_indexOfChar_4cfef_13 : decode cJ1_indexOfChar_4cfef 13 = .ok (.aload_n 0, 1) := by decide +kernel
theorem dJ1_indexOfChar_4cfef_14 : decode cJ1_indexOfChar_4cfef 14 = .ok (.iload 5, 2) := by decide +kernel
theorem dJ1_indexOfChar_4cfef_16 : decode cJ1_indexOfChar_4cfef 16 = .ok (.baload, 1) := by decide +kernel
theorem dJ1_indexOfChar_4cfef_17 : decode cJ1_indexOfChar_4cfef 17 = .ok (.iload 4, 2) := by decide +kernel
theorem dJ1_indexOfChar_4cfef_19 : decode cJ1_indexOfChar_4cfef 19 = .ok (.if_icmp .ne 6, 3) := by decide +kernel
theorem dJ1_indexOfChar_4cfef_22 : decode cJ1_indexOfChar_4cfef 22 = .ok (.iload 5, 2) := by decide +kernel
theorem dJ1_indexOfChar_4cfef_24 : decode cJ1_indexOfChar_4cfef 24 = .ok (.ireturn, 1) := by decide +kernel
theorem dJ1_indexOfChar_4cfef_25 : decode cJ1_indexOfChar_4cfef 25 = .ok (.iinc 5 1, 3) := by decide +kernel
theorem dJ1_indexOfChar_4cfef_28 : decode cJ1_indexOfChar_4cfef 28 = .ok (.goto (-21), 3) := by decide +kernel
theorem dJ1_indexOfChar_4cfef_31 : decode cJ1_indexOfChar_4cfef 31 = .ok (.iconst (-1), 1) := by decide +kernel
theorem dJ1_indexOfChar_4cfef_32 : decode cJ1_indexOfChar_4cfef 32 = .ok (.ireturn, 1) := by decide +kernel
theorem dJ2_getChar_3b067_0 : decode cJ2_getChar_3b067 0 = .ok (.getstatic 44, 3) := by decide +kernel
theorem dJ2_getChar_3b067_3 : decode cJ2_getChar_3b067 3 = .ok (.ifCond .ne 25, 3) := by decide +kernel
theorem dJ2_getChar_3b067_6 : decode cJ2_getChar_3b067 6 = .ok (.iload_n 1, 1) := by decide +kernel
theorem dJ2_getChar_3b067_7 : decode cJ2_getChar_3b067 7 = .ok (.ifCond .lt 11, 3) := by decide +kernel
theorem dJ2_getChar_3b067_10 : decode cJ2_getChar_3b067 10 = .ok (.iload_n 1, 1) := by decide +kernel
theorem dJ2_getChar_3b067_11 : decode cJ2_getChar_3b067 11 = .ok (.aload_n 0, 1) := by decide +kernel
theorem dJ2_getChar_3b067_12 : decode cJ2_getChar_3b067 12 = .ok (.invokestatic 48, 3) := by decide +kernel
theorem dJ2_getChar_3b067_15 : decode cJ2_getChar_3b067 15 = .ok (.if_icmp .lt 13, 3) := by decide +kernel
theorem dJ2_getChar_3b067_18 : decode cJ2_getChar_3b067 18 = .ok (.new 52, 3) := by decide +kernel
theorem dJ2_getChar_3b067_21 : decode cJ2_getChar_3b067 21 = .ok (.dup, 1) := by decide +kernel
theorem dJ2_getChar_3b067_22 : decode cJ2_getChar_3b067 22 = .ok (.ldc 54, 2) := by decide +kernel
theorem dJ2_getChar_3b067_24 : decode cJ2_getChar_3b067 24 = .ok (.invokespecial 56, 3) := by decide +kernel
theorem dJ2_getChar_3b067_27 : decode cJ2_getChar_3b067 27 = .ok (.athrow, 1) := by decide +kernel
theorem dJ2_getChar_3b067_28 : decode cJ2_getChar_3b067 28 = .ok (.iload_n 1, 1) := by decide +kernel
theorem dJ2_getChar_3b067_29 : decode cJ2_getChar_3b067 29 = .ok (.iconst 1, 1) := by decide +kernel
theorem dJ2_getChar_3b067_30 : decode cJ2_getChar_3b067 30 = .ok (.ishl, 1) := by decide +kernel
theorem dJ2_getChar_3b067_31 : decode cJ2_getChar_3b067 31 = .ok (.istore_n 1, 1) := by decide +kernel
theorem dJ2_getChar_3b067_32 : decode cJ2_getChar_3b067 32 = .ok (.aload_n 0, 1) := by decide +kernel
theorem dJ2_getChar_3b067_33 : decode cJ2_getChar_3b067 33 = .ok (.iload_n 1, 1) := by decide +kernel
theorem dJ2_getChar_3b067_34 : decode cJ2_getChar_3b067 34 = .ok (.iinc 1 1, 3) := by decide +kernel
theorem dJ2_getChar_3b067_37 : decode cJ2_getChar_3b067 37 = .ok (.baload, 1) := by decide +kernel
theorem dJ2_getChar_3b067_38 : decode cJ2_getChar_3b067 38 = .ok (.sipush 255, 3) := by decide +kernel
theorem dJ2_getChar_3b067_41 : decode cJ2_getChar_3b067 41 = .ok (.iand, 1) := by decide +kernel
theorem dJ2_getChar_3b067_42 : decode cJ2_getChar_3b067 42 = .ok (.getstatic 59, 3) := by decide +kernel
theorem dJ2_getChar_3b067_45 : decode cJ2_getChar_3b067 45 = .ok (.ishl, 1) := by decide +kernel
theorem dJ2_getChar_3b067_46 : decode cJ2_getChar_3b067 46 = .ok (.aload_n 0, 1) := by decide +kernel
theorem dJ2_getChar_3b067_47 : decode cJ2_getChar_3b067 47 = .ok (.iload_n 1, 1) := by decide +kernel
theorem dJ2_getChar_3b067_48 : decode cJ2_getChar_3b067 48 = .ok (.baload, 1) := by decide +kernel
theorem dJ2_getChar_3b067_49 : decode cJ2_getChar_3b067 49 = .ok (.sipush 255, 3) := by decide +kernel
theorem dJ2_getChar_3b067_52 : decode cJ2_getChar_3b067 52 = .ok (.iand, 1) := by decide +kernel
theorem dJ2_getChar_3b067_53 : decode cJ2_getChar_3b067 53 = .ok (.getstatic 63, 3) := by decide +kernel
theorem dJ2_getChar_3b067_56 : decode cJ2_getChar_3b067 56 = .ok (.ishl, 1) := by decide +kernel
theorem dJ2_getChar_3b067_57 : decode cJ2_getChar_3b067 57 = .ok (.ior, 1) := by decide +kernel
theorem dJ2_getChar_3b067_58 : decode cJ2_getChar_3b067 58 = .ok (.i2c, 1) := by decide +kernel
theorem dJ2_getChar_3b067_59 : decode cJ2_getChar_3b067 59 = .ok (.ireturn, 1) := by decide +kernel
theorem dJ2_length_9d52b_0 : decode cJ2_length_9d52b 0 = .ok (.aload_n 0, 1) := by decide +kernel
theorem dJ2_length_9d52b_1 : decode cJ2_length_9d52b 1 = .ok (.arraylength, 1) := by decide +kernel
theorem dJ2_length_9d52b_2 : decode cJ2_length_9d52b 2 = .ok (.iconst 1, 1) := by decide +kernel
theorem dJ2_length_9d52b_3 : decode cJ2_length_9d52b 3 = .ok (.ishr, 1) := by decide +kernel
theorem dJ2_length_9d52b_4 : decode cJ2_length_9d52b 4 = .ok (.ireturn, 1) := by decide +kernel
theorem dJ2_indexOf_4cfef_0 : decode cJ2_indexOf_4cfef 0 = .ok (.iload_n 2, 1) := by decide +kernel
theorem dJ2_indexOf_4cfef_1 : decode cJ2_indexOf_4cfef 1 = .ok (.iconst 0, 1) := by decide +kernel
theorem dJ2_indexOf_4cfef_2 : decode cJ2_indexOf_4cfef 2 = .ok (.invokestatic 224, 3) := by decide +kernel
theorem dJ2_indexOf_4cfef_5 : decode cJ2_indexOf_4cfef 5 = .ok (.istore_n 2, 1) := by decide +kernel
theorem dJ2_indexOf_4cfef_6 : decode cJ2_indexOf_4cfef 6 = .ok (.iload_n 3, 1) := by decide +kernel
theorem dJ2_indexOf_4cfef_7 : decode cJ2_indexOf_4cfef 7 = .ok (.aload_n 0, 1) := by decide +kernel
theorem dJ2_indexOf_4cfef_8 : decode cJ2_indexOf_4cfef 8 = .ok (.arraylength, 1) := by decide +kernel
theorem dJ2_indexOf_4cfef_9 : decode cJ2_indexOf_4cfef 9 = .ok (.iconst 1, 1) := by decide +kernel
theorem dJ2_indexOf_4cfef_10 : decode cJ2_indexOf_4cfef 10 = .ok (.ishr, 1) := by decide +kernel
theorem dJ2_indexOf_4cfef_11 : decode cJ2_indexOf_4cfef 11 = .ok (.invokestatic 183, 3) := by decide +kernel
theorem dJ2_indexOf_4cfef_14 : decode cJ2_indexOf_4cfef 14 = .ok (.istore_n 3, 1) := by decide +kernel
theorem dJ2_indexOf_4cfef_15 : decode cJ2_indexOf_4cfef 15 = .ok (.iload_n 2, 1) := by decide +kernel
theorem dJ2_indexOf_4cfef_16 : decode cJ2_indexOf_4cfef 16 = .ok (.iload_n 3, 1) := by decide +kernel
theorem dJ2_indexOf_4cfef_17 : decode cJ2_indexOf_4cfef 17 = .ok (.if_icmp .lt 5, 3) := by decide +kernel
theorem dJ2_indexOf_4cfef_20 : decode cJ2_indexOf_4cfef 20 = .ok (.iconst (-1), 1) := by decide +kernel
theorem dJ2_indexOf_4cfef_21 : decode cJ2_indexOf_4cfef 21 = .ok (.ireturn, 1) := by decide +kernel
theorem dJ2_indexOf_4cfef_22 : decode cJ2_indexOf_4cfef 22 = .ok (.iload_n 1, 1) := by decide +kernel
theorem dJ2_indexOf_4cfef_23 : decode cJ2_indexOf_4cfef 23 = .ok (.ldc 227, 2) := by decide +kernel
theorem dJ2_indexOf_4cfef_25 : decode cJ2_indexOf_4cfef 25 = .ok (.if_icmp .ge 11, 3) := by decide +kernel
theorem dJ2_indexOf_4cfef_28 : decode cJ2_indexOf_4cfef 28 = .ok (.aload_n 0, 1) := by decide +kernel
theorem dJ2_indexOf_4cfef_29 : decode cJ2_indexOf_4cfef 29 = .ok (.iload_n 1, 1) := by decide +kernel
theorem dJ2_indexOf_4cfef_30 : decode cJ2_indexOf_4cfef 30 = .ok (.iload_n 2, 1) := by decide +kernel
theorem dJ2_indexOf_4cfef_31 : decode cJ2_indexOf_4cfef 31 = .ok (.iload_n 3, 1) := by decide +kernel
theorem dJ2_indexOf_4cfef_32 : decode cJ2_indexOf_4cfef 32 = .ok (.invokestatic 228, 3) := by decide +kernel
theorem dJ2_indexOf_4cfef_35 : decode cJ2_indexOf_4cfef 35 = .ok (.ireturn, 1) := by decide +kernel
theorem dJ2_indexOf_4cfef_36 : decode cJ2_indexOf_4cfef 36 = .ok (.aload_n 0, 1) := by decide +kernel
theorem dJ2_indexOf_4cfef_37 : decode cJ2_indexOf_4cfef 37 = .ok (.iload_n 1, 1) := by decide +kernel
theorem dJ2_indexOf_4cfef_38 : decode cJ2_indexOf_4cfef 38 = .ok (.iload_n 2, 1) := by decide +kernel
theorem dJ2_indexOf_4cfef_39 : decode cJ2_indexOf_4cfef 39 = .ok (.iload_n 3, 1) := by decide +kernel
theorem dJ2_indexOf_4cfef_40 : decode cJ2_indexOf_4cfef 40 = .ok (.invokestatic 232, 3) := by decide +kernel
theorem dJ2_indexOf_4cfef_43 : decode cJ2_indexOf_4cfef 43 = .ok (.ireturn, 1) := by decide +kernel
theorem dJ2_indexOfChar_4cfef_0 : decode cJ2_indexOfChar_4cfef 0 = .ok (.iload_n 2, 1) := by decide +kernel
theorem dJ2_indexOfChar_4cfef_1 : decode cJ2_indexOfChar_4cfef 1 = .ok (.iload_n 3, 1) := by decide +kernel
theorem dJ2_indexOfChar_4cfef_2 : decode cJ2_indexOfChar_4cfef 2 = .ok (.aload_n 0, 1) := by decide +kernel
theorem dJ2_indexOfChar_4cfef_3 : decode cJ2_indexOfChar_4cfef 3 = .ok (.invokestatic 96, 3) := by decide +kernel
theorem dJ2_indexOfChar_4cfef_6 : decode cJ2_indexOfChar_4cfef 6 = .ok (.aload_n 0, 1) := by decide +kernel
theorem dJ2_indexOfChar_4cfef_7 : decode cJ2_indexOfChar_4cfef 7 = .ok (.iload_n 1, 1) := by decide +kernel
theorem dJ2_indexOfChar_4cfef_8 : decode cJ2_indexOfChar_4cfef 8 = .ok (.iload_n 2, 1) := by decide +kernel
theorem dJ2_indexOfChar_4cfef_9 : decode cJ2_indexOfChar_4cfef 9 = .ok (.iload_n 3, 1) := by decide +kernel
theorem dJ2_indexOfChar_4cfef_10 : decode cJ2_indexOfChar_4cfef 10 = .ok (.invokestatic 244, 3) := by decide +kernel
theorem dJ2_indexOfChar_4cfef_13 : decode cJ2_indexOfChar_4cfef 13 = .ok (.ireturn, 1) := by decide +kernel
theorem dJ2_indexOfCharUnsafe_4cfef_0 : decode cJ2_indexOfCharUnsafe_4cfef 0 = .ok (.iload_n 2, 1) := by decide +kernel
theorem dJ2_indexOfCharUnsafe_4cfef_1 : decode cJ2_indexOfCharUnsafe_4cfef 1 = .ok (.istore 4, 2) := by decide +kernel
theorem dJ2_indexOfCharUnsafe_4cfef_3 : decode cJ2_indexOfCharUnsafe_4cfef 3 = .ok (.iload 4, 2) := by decide +kernel
theorem dJ2_indexOfCharUnsafe_4cfef_5 : decode cJ2_indexOfCharUnsafe_4cfef 5 = .ok (.iload_n 3, 1) := by decide +kernel
theorem dJ2_indexOfCharUnsafe_4cfef_6 : decode cJ2_indexOfCharUnsafe_4cfef 6 = .ok (.if_icmp .ge 22, 3) := by decide +kernel
theorem dJ2_indexOfCharUnsafe_4cfef_9 : decode cJ2_indexOfCharUnsafe_4cfef 9 = .ok (.aload_n 0, 1) := by decide +kernel
theorem dJ2_indexOfCharUnsafe_4cfef_10 : decode cJ2_indexOfCharUnsafe_4cfef 10 = .ok (.iload 4, 2) := by decide +kernel
theorem dJ2_indexOfCharUnsafe_4cfef_12 : decode cJ2_indexOfCharUnsafe_4cfef 12 = .ok (.invokestatic 71, 3) := by decide +kernel
theorem dJ2_indexOfCharUnsafe_4cfef_15 : decode cJ2_indexOfCharUnsafe_4cfef 15 = .ok (.iload_n 1, 1) := by decide +kernel
theorem dJ2_indexOfCharUnsafe_4cfef_16 : decode cJ2_indexOfCharUnsafe_4cfef 16 = .ok (.if_icmp .ne 6, 3) := by decide +kernel
theorem dJ2_indexOfCharUnsafe_4cfef_19 : decode cJ2_indexOfCharUnsafe_4cfef 19 = .ok (.iload 4, 2) := by decide +kernel
theorem dJ2_indexOfCharUnsafe_4cfef_21 : decode cJ2_indexOfCharUnsafe_4cfef 21 = .ok (.ireturn, 1) := by decide +kernel
theorem dJ2_indexOfCharUnsafe_4cfef_22 : decode cJ2_indexOfCharUnsafe_4cfef 22 = .ok (.iinc 4 1, 3) := by decide +kernel
theorem dJ2_indexOfCharUnsafe_4cfef_25 : decode cJ2_indexOfCharUnsafe_4cfef 25 = .ok (.goto (-22), 3) := by decide +kernel
theorem dJ2_indexOfCharUnsafe_4cfef_28 : decode cJ2_indexOfCharUnsafe_4cfef 28 = .ok (.iconst (-1), 1) := by decide +kernel
theorem dJ2_indexOfCharUnsafe_4cfef_29 : decode cJ2_indexOfCharUnsafe_4cfef 29 = .ok (.ireturn, 1) := by decide +kernel
theorem dJ2_indexOfSupplementary_4cfef_0 : decode cJ2_indexOfSupplementary_4cfef 0 = .ok (.iload_n 1, 1) := by decide +kernel
theorem dJ2_indexOfSupplementary_4cfef_1 : decode cJ2_indexOfSupplementary_4cfef 1 = .ok (.invokestatic 164, 3) := by decide +kernel
theorem dJ2_indexOfSupplementary_4cfef_4 : decode cJ2_indexOfSupplementary_4cfef 4 = .ok (.ifCond .eq 65, 3) := by decide +kernel
theorem dJ2_indexOfSupplementary_4cfef_7 : decode cJ2_indexOfSupplementary_4cfef 7 = .ok (.iload_n 1, 1) := by decide +kernel
theorem dJ2_indexOfSupplementary_4cfef_8 : decode cJ2_indexOfSupplementary_4cfef 8 = .ok (.invokestatic 157, 3) := by decide +kernel
theorem dJ2_indexOfSupplementary_4cfef_11 : decode cJ2_indexOfSupplementary_4cfef 11 = .ok (.istore 4, 2) := by decide +kernel
theorem dJ2_indexOfSupplementary_4cfef_13 : decode cJ2_indexOfSupplementary_4cfef 13 = .ok (.iload_n 1, 1) := by decide +kernel
theorem dJ2_indexOfSupplementary_4cfef_14 : decode cJ2_indexOfSupplementary_4cfef 14 = .ok (.invokestatic 161, 3) := by decide +kernel
theorem dJ2_indexOfSupplementary_4cfef_17 : decode cJ2_indexOfSupplementary_4cfef 17 = .ok (.istore 5, 2) := by decide +kernel
theorem dJ2_indexOfSupplementary_4cfef_19 : decode cJ2_indexOfSupplementary_4cfef 19 = .ok (.iload_n 2, 1) := by decide +kernel
theorem dJ2_indexOfSupplementary_4cfef_20 : decode cJ2_indexOfSupplementary_4cfef 20 = .ok (.iload_n 3, 1) := by decide +kernel
theorem dJ2_indexOfSupplementary_4cfef_21 : decode cJ2_indexOfSupplementary_4cfef 21 = .ok (.aload_n 0, 1) := by decide +kernel
theorem dJ2_indexOfSupplementary_4cfef_22 : decode cJ2_indexOfSupplementary_4cfef 22 = .ok (.invokestatic 96, 3) := by decide +kernel
theorem dJ2_indexOfSupplementary_4cfef_25 : decode cJ2_indexOfSupplementary_4cfef 25 = .ok (.iload_n 2, 1) := by decide +kernel
theorem dJ2_indexOfSupplementary_4cfef_26 : decode cJ2_indexOfSupplementary_4cfef 26 = .ok (.istore 6, 2) := by decide +kernel
theorem dJ2_indexOfSupplementary_4cfef_28 : decode cJ2_indexOfSupplementary_4cfef 28 = .ok (.iload 6, 2) := by decide +kernel
theorem dJ2_indexOfSupplementary_4cfef_30 : decode cJ2_indexOfSupplementary_4cfef 30 = .ok (.iload_n 3, 1) := by decide +kernel
theorem dJ2_indexOfSupplementary_4cfef_31 : decode cJ2_indexOfSupplementary_4cfef 31 = .ok (.iconst 1, 1) := by decide +kernel
theorem dJ2_indexOfSupplementary_4cfef_32 : decode cJ2_indexOfSupplementary_4cfef 32 = .ok (.isub, 1) := by decide +kernel
theorem dJ2_indexOfSupplementary_4cfef_33 : decode cJ2_indexOfSupplementary_4cfef 33 = .ok (.if_icmp .ge 36, 3) := by decide +kernel
theorem dJ2_indexOfSupplementary_4cfef_36 : decode cJ2_indexOfSupplementary_4cfef 36 = .ok (.aload_n 0, 1) := by decide +kernel
theorem dJ2_indexOfSupplementary_4cfef_37 : decode cJ2_indexOfSupplementary_4cfef 37 = .ok (.iload 6, 2) := by decide +kernel
theorem dJ2_indexOfSupplementary_4cfef_39 : decode cJ2_indexOfSupplementary_4cfef 39 = .ok (.invokestatic 71, 3) := by decide +kernel
theorem dJ2_indexOfSupplementary_4cfef_42 : decode cJ2_indexOfSupplementary_4cfef 42 = .ok (.iload 4, 2) := by decide +kernel
theorem dJ2_indexOfSupplementary_4cfef_44 : decode cJ2_indexOfSupplementary_4cfef 44 = .ok (.if_icmp .ne 19, 3) := by decide +kernel
theorem dJ2_indexOfSupplementary_4cfef_47 : decode cJ2_indexOfSupplementary_4cfef 47 = .ok (.aload_n 0, 1) := by decide +kernel
theorem dJ2_indexOfSupplementary_4cfef_48 : decode cJ2_indexOfSupplementary_4cfef 48 = .ok (.iload 6, 2) := by decide +kernel
theorem dJ2_indexOfSupplementary_4cfef_50 : decode cJ2_indexOfSupplementary_4cfef 50 = .ok (.iconst 1, 1) := by decide +kernel
theorem dJ2_indexOfSupplementary_4cfef_51 : decode cJ2_indexOfSupplementary_4cfef 51 = .ok (.iadd, 1) := by decide +kernel
theorem dJ2_indexOfSupplementary_4cfef_52 : decode cJ2_indexOfSupplementary_4cfef 52 = .ok (.invokestatic 71, 3) := by decide +kernel
theorem dJ2_indexOfSupplementary_4cfef_55 : decode cJ2_indexOfSupplementary_4cfef 55 = .ok (.iload 5, 2) := by decide +kernel
theorem dJ2_indexOfSupplementary_4cfef_57 : decode cJ2_indexOfSupplementary_4cfef 57 = .ok (.if_icmp .ne 6, 3) := by decide +kernel
theorem dJ2_indexOfSupplementary_4cfef_60 : decode cJ2_indexOfSupplementary_4cfef 60 = .ok (.iload 6, 2) := by decide +kernel
theorem dJ2_indexOfSupplementary_4cfef_62 : decode cJ2_indexOfSupplementary_4cfef 62 = .ok (.ireturn, 1) := by decide +kernel
theorem dJ2_indexOfSupplementary_4cfef_63 : decode cJ2_indexOfSupplementary_4cfef 63 = .ok (.iinc 6 1, 3) := by decide +kernel
theorem dJ2_indexOfSupplementary_4cfef_66 : decode cJ2_indexOfSupplementary_4cfef 66 = .ok (.goto (-38), 3) := by decide +kernel
theorem dJ2_indexOfSupplementary_4cfef_69 : decode cJ2_indexOfSupplementary_4cfef 69 = .ok (.iconst (-1), 1) := by decide +kernel
theorem dJ2_indexOfSupplementary_4cfef_70 : decode cJ2_indexOfSupplementary_4cfef 70 = .ok (.ireturn, 1) := by decide +kernel
theorem dJ2_charAt_3b067_0 : decode cJ2_charAt_3b067 0 = .ok (.iload_n 1, 1) := by decide +kernel
theorem dJ2_charAt_3b067_1 : decode cJ2_charAt_3b067 1 = .ok (.aload_n 0, 1) := by decide +kernel
theorem dJ2_charAt_3b067_2 : decode cJ2_charAt_3b067 2 = .ok (.invokestatic 67, 3) := by decide +kernel
theorem dJ2_charAt_3b067_5 : decode cJ2_charAt_3b067 5 = .ok (.aload_n 0, 1) := by decide +kernel
theorem dJ2_charAt_3b067_6 : decode cJ2_charAt_3b067 6 = .ok (.iload_n 1, 1) := by decide +kernel
theorem dJ2_charAt_3b067_7 : decode cJ2_charAt_3b067 7 = .ok (.invokestatic 71, 3) := by decide +kernel
theorem dJ2_charAt_3b067_10 : decode cJ2_charAt_3b067 10 = .ok (.ireturn, 1) := by decide +kernel
theorem dJ2_checkIndex_2214a_0 : decode cJ2_checkIndex_2214a 0 = .ok (.iload_n 0, 1) := by decide +kernel
theorem dJ2_checkIndex_2214a_1 : decode cJ2_checkIndex_2214a 1 = .ok (.aload_n 1, 1) := by decide +kernel
theorem dJ2_checkIndex_2214a_2 : decode cJ2_checkIndex_2214a 2 = .ok (.invokestatic 48, 3) := by decide +kernel
theorem dJ2_checkIndex_2214a_5 : decode cJ2_checkIndex_2214a 5 = .ok (.invokestatic 414, 3) := by decide +kernel
theorem dJ2_checkIndex_2214a_8 : decode cJ2_checkIndex_2214a 8 = .ok (.return_, 1) := by decide +kernel
theorem dJ2_checkBoundsBeginEnd_d044e_0 : decode cJ2_checkBoundsBeginEnd_d044e 0 = .ok (.iload_n 0, 1) := by decide +kernel
theorem dJ2_checkBoundsBeginEnd_d044e_1 : decode cJ2_checkBoundsBeginEnd_d044e 1 = .ok (.iload_n 1, 1) := by decide +kernel
theorem dJ2_checkBoundsBeginEnd_d044e_2 : decode cJ2_checkBoundsBeginEnd_d044e 2 = .ok (.aload_n 2, 1) := by decide +kernel
theorem dJ2_checkBoundsBeginEnd_d044e_3 : decode cJ2_checkBoundsBeginEnd_d044e 3 = .ok (.invokestatic 48, 3) := by decide +kernel
theorem dJ2_checkBoundsBeginEnd_d044e_6 : decode cJ2_checkBoundsBeginEnd_d044e 6 = .ok (.invokestatic 241, 3) := by decide +kernel
theorem dJ2_checkBoundsBeginEnd_d044e_9 : decode cJ2_checkBoundsBeginEnd_d044e 9 = .ok (.return_, 1) := by decide +kernel
theorem dJ3_checkIndex_8e157_0 : decode cJ3_checkIndex_8e157 0 = .ok (.iload_n 0, 1) := by decide +kernel
theorem dJ3_checkIndex_8e157_1 : decode cJ3_checkIndex_8e157 1 = .ok (.ifCond .lt 8, 3) := by decide +kernel
theorem dJ3_checkIndex_8e157_4 : decode cJ3_checkIndex_8e157 4 = .ok (.iload_n 0, 1) := by decide +kernel
theorem dJ3_checkIndex_8e157_5 : decode cJ3_checkIndex_8e157 5 = .ok (.iload_n 1, 1) := by decide +kernel
theorem dJ3_checkIndex_8e157_6 : decode cJ3_checkIndex_8e157 6 = .ok (.if_icmp .lt 10, 3) := by decide +kernel
theorem dJ3_checkIndex_8e157_9 : decode cJ3_checkIndex_8e157 9 = .ok (.aload_n 2, 1) := by decide +kernel
theorem dJ3_checkIndex_8e157_10 : decode cJ3_checkIndex_8e157 10 = .ok (.iload_n 0, 1) := by decide +kernel
theorem dJ3_checkIndex_8e157_11 : decode cJ3_checkIndex_8e157 11 = .ok (.iload_n 1, 1) := by decide +kernel
theorem dJ3_checkIndex_8e157_12 : decode cJ3_checkIndex_8e157 12 = .ok (.invokestatic 95, 3) := by decide +kernel
theorem dJ3_checkIndex_8e157_15 : decode cJ3_checkIndex_8e157 15 = .ok (.athrow, 1) := by decide +kernel
theorem dJ3_checkIndex_8e157_16 : decode cJ3_checkIndex_8e157 16 = .ok (.iload_n 0, 1) := by decide +kernel
theorem dJ3_checkIndex_8e157_17 : decode cJ3_checkIndex_8e157 17 = .ok (.ireturn, 1) := by decide +kernel
theorem dJ3_checkFromToIndex_8c36e_0 : decode cJ3_checkFromToIndex_8c36e 0 = .ok (.iload_n 0, 1) := by decide +kernel
theorem dJ3_checkFromToIndex_8c36e_1 : decode cJ3_checkFromToIndex_8c36e 1 = .ok (.ifCond .lt 13, 3) := by decide +kernel
theorem dJ3_checkFromToIndex_8c36e_4 : decode cJ3_checkFromToIndex_8c36e 4 = .ok (.iload_n 0, 1) := by decide +kernel
theorem dJ3_checkFromToIndex_8c36e_5 : decode cJ3_checkFromToIndex_8c36e 5 = .ok (.iload_n 1, 1) := by decide +kernel
theorem dJ3_checkFromToIndex_8c36e_6 : decode cJ3_checkFromToIndex_8c36e 6 = .ok (.if_icmp .gt 8, 3) := by decide +kernel
theorem dJ3_checkFromToIndex_8c36e_9 : decode cJ3_checkFromToIndex_8c36e 9 = .ok (.iload_n 1, 1) := by decide +kernel
theorem dJ3_checkFromToIndex_8c36e_10 : decode cJ3_checkFromToIndex_8c36e 10 = .ok (.iload_n 2, 1) := by decide +kernel
theorem dJ3_checkFromToIndex_8c36e_11 : decode cJ3_checkFromToIndex_8c36e 11 = .ok (.if_icmp .le 11, 3) := by decide +kernel
theorem dJ3_checkFromToIndex_8c36e_14 : decode cJ3_checkFromToIndex_8c36e 14 = .ok (.aload_n 3, 1) := by decide +kernel
theorem dJ3_checkFromToIndex_8c36e_15 : decode cJ3_checkFromToIndex_8c36e 15 = .ok (.iload_n 0, 1) := by decide +kernel
theorem dJ3_checkFromToIndex_8c36e_16 : decode cJ3_checkFromToIndex_8c36e 16 = .ok (.iload_n 1, 1) := by decide +kernel
theorem dJ3_checkFromToIndex_8c36e_17 : decode cJ3_checkFromToIndex_8c36e 17 = .ok (.iload_n 2, 1) := by decide +kernel
theorem dJ3_checkFromToIndex_8c36e_18 : decode cJ3_checkFromToIndex_8c36e 18 = .ok (.invokestatic 99, 3) := by decide +kernel
theorem dJ3_checkFromToIndex_8c36e_21 : decode cJ3_checkFromToIndex_8c36e 21 = .ok (.athrow, 1) := by decide +kernel
theorem dJ3_checkFromToIndex_8c36e_22 : decode cJ3_checkFromToIndex_8c36e 22 = .ok (.iload_n 0, 1) := by decide +kernel
theorem dJ3_checkFromToIndex_8c36e_23 : decode cJ3_checkFromToIndex_8c36e 23 = .ok (.ireturn, 1) := by decide +kernel
end
section
theorem dX10_init_0 : decode cX10_init 0 = .ok (.aload_n 0, 1) := by decide +kernel
theorem dX10_init_1 : decode cX10_init 1 = .ok (.invokespecial 3, 3) := by decide +kernel
theorem dX10_init_4 : decode cX10_init 4 = .ok (.aload_n 0, 1) := by decide +kernel
theorem dX10_init_5 : decode cX10_init 5 = .ok (.sipush 152, 3) := by decide +kernel
theorem dX10_init_8 : decode cX10_init 8 = .ok (.newarray .int, 2) := by decide +kernel
theorem dX10_init_10 : decode cX10_init 10 = .ok (.putfield 9, 3) := by decide +kernel
theorem dX10_init_13 : decode cX10_init 13 = .ok (.aload_n 0, 1) := by decide +kernel
theorem dX10_init_14 : decode cX10_init 14 = .ok (.sipush 152, 3) := by decide +kernel
theorem dX10_init_17 : decode cX10_init 17 = .ok (.newarray .int, 2) := by decide +kernel
theorem dX10_init_19 : decode cX10_init 19 = .ok (.putfield 15, 3) := by decide +kernel
theorem dX10_init_22 : decode cX10_init 22 = .ok (.aload_n 0, 1) := by decide +kernel
theorem dX10_init_23 : decode cX10_init 23 = .ok (.sipush 152, 3) := by decide +kernel
theorem dX10_init_26 : decode cX10_init 26 = .ok (.newarray .int, 2) := by decide +kernel
theorem dX10_init_28 : decode cX10_init 28 = .ok (.putfield 18, 3) := by decide +kernel
theorem dX10_init_31 : decode cX10_init 31 = .ok (.aload_n 0, 1) := by decide +kernel
theorem dX10_init_32 : decode cX10_init 32 = .ok (.bipush 100, 2) := by decide +kernel
theorem dX10_init_34 : decode cX10_init 34 = .ok (.newarray .int, 2) := by decide +kernel
theorem dX10_init_36 : decode cX10_init 36 = .ok (.putfield 21, 3) := by decide +kernel
theorem dX10_init_39 : decode cX10_init 39 = .ok (.aload_n 0, 1) := by decide +kernel
theorem dX10_init_40 : decode cX10_init 40 = .ok (.sipush 600, 3) := by decide +kernel
theorem dX10_init_43 : decode cX10_init 43 = .ok (.newarray .int, 2) := by decide +kernel
theorem dX10_init_45 : decode cX10_init 45 = .ok (.putfield 24, 3) := by decide +kernel
theorem dX10_init_48 : decode cX10_init 48 = .ok (.aload_n 0, 1) := by decide +kernel
theorem dX10_init_49 : decode cX10_init 49 = .ok (.bipush 6, 2) := by decide +kernel
theorem dX10_init_51 : decode cX10_init 51 = .ok (.newarray .int, 2) := by decide +kernel
theorem dX10_init_53 : decode cX10_init 53 = .ok (.putfield 27, 3) := by decide +kernel
theorem dX10_init_56 : decode cX10_init 56 = .ok (.aload_n 0, 1) := by decide +kernel
theorem dX10_init_57 : decode cX10_init 57 = .ok (.bipush 100, 2) := by decide +kernel
theorem dX10_init_59 : decode cX10_init 59 = .ok (.newarray .int, 2) := by decide +kernel
theorem dX10_init_61 : decode cX10_init 61 = .ok (.putfield 30, 3) := by decide +kernel
theorem dX10_init_64 : decode cX10_init 64 = .ok (.aload_n 0, 1) := by decide +kernel
theorem dX10_init_65 : decode cX10_init 65 = .ok (.bipush 6, 2) := by decide +kernel
theorem dX10_init_67 : decode cX10_init 67 = .ok (.newarray .int, 2) := by decide +kernel
theorem dX10_init_69 : decode cX10_init 69 = .ok (.putfield 33, 3) := by decide +kernel
theorem dX10_init_72 : decode cX10_init 72 = .ok (.aload_n 0, 1) := by decide +kernel
theorem dX10_init_73 : decode cX10_init 73 = .ok (.bipush 6, 2) := by decide +kernel
theorem dX10_init_75 : decode cX10_init 75 = .ok (.newarray .char, 2) := by decide +kernel
theorem dX10_init_77 : decode cX10_init 77 = .ok (.dup, 1) := by decide +kernel
theorem dX10_init_78 : decode cX10_init 78 = .ok (.iconst 0, 1) := by decide +kernel
theorem dX10_init_79 : decode cX10_init 79 = .ok (.bipush 112, 2) := by decide +kernel
theorem dX10_init_81 : decode cX10_init 81 = .ok (.castore, 1) := by decide +kernel
theorem dX10_init_82 : decode cX10_init 82 = .ok (.dup, 1) := by decide +kernel
theorem dX10_init_83 : decode cX10_init 83 = .ok (.iconst 1, 1) := by decide +kernel
theorem dX10_init_84 : decode cX10_init 84 = .ok (.bipush 107, 2) := by decide +kernel
theorem dX10_init_86 : decode cX10_init 86 = .ok (.castore, 1) := by decide +kernel
theorem dX10_init_87 : decode cX10_init 87 = .ok (.dup, 1) := by decide +kernel
theorem dX10_init_88 : decode cX10_init 88 = .ok (.iconst 2, 1) := by decide +kernel
theorem dX10_init_89 : decode cX10_init 89 = .ok (.bipush 118, 2) := by decide +kernel
theorem dX10_init_91 : decode cX10_init 91 = .ok (.castore, 1) := by decide +kernel
theorem dX10_init_92 : decode cX10_init 92 = .ok (.dup, 1) := by decide +kernel
theorem dX10_init_93 : decode cX10_init 93 = .ok (.iconst 3, 1) := by decide +kernel
theorem dX10_init_94 : decode cX10_init 94 = .ok (.bipush 115, 2) := by decide +kernel
theorem dX10_init_96 : decode cX10_init 96 = .ok (.castore, 1) := by decide +kernel
theorem dX10_init_97 : decode cX10_init 97 = .ok (.dup, 1) := by decide +kernel
theorem dX10_init_98 : decode cX10_init 98 = .ok (.iconst 4, 1) := by decide +kernel
theorem dX10_init_99 : decode cX10_init 99 = .ok (.bipush 99, 2) := by decide +kernel
theorem dX10_init_101 : decode cX10_init 101 = .ok (.castore, 1) := by decide +kernel
theorem dX10_init_102 : decode cX10_init 102 = .ok (.dup, 1) := by decide +kernel
theorem dX10_init_103 : decode cX10_init 103 = .ok (.iconst 5, 1) := by decide +kernel
theorem dX10_init_104 : decode cX10_init 104 = .ok (.bipush 100, 2) := by decide +kernel
theorem dX10_init_106 : decode cX10_init 106 = .ok (.castore, 1) := by decide +kernel
theorem dX10_init_107 : decode cX10_init 107 = .ok (.putfield 36, 3) := by decide +kernel
theorem dX10_init_110 : decode cX10_init 110 = .ok (.aload_n 0, 1) := by decide +kernel
theorem dX10_init_111 : decode cX10_init 111 = .ok (.iconst 3, 1) := by decide +kernel
theorem dX10_init_112 : decode cX10_init 112 = .ok (.newarray .char, 2) := by decide +kernel
theorem dX10_init_114 : decode cX10_init 114 = .ok (.dup, 1) := by decide +kernel
theorem dX10_init_115 : decode cX10_init 115 = .ok (.iconst 0, 1) := by decide +kernel
theorem dX10_init_116 : decode cX10_init 116 = .ok (.bipush 102, 2) := by decide +kernel
theorem dX10_init_118 : decode cX10_init 118 = .ok (.castore, 1) := by decide +kernel
theorem dX10_init_119 : decode cX10_init 119 = .ok (.dup, 1) := by decide +kernel
theorem dX10_init_120 : decode cX10_init 120 = .ok (.iconst 1, 1) := by decide +kernel
theorem dX10_init_121 : decode cX10_init 121 = .ok (.bipush 119, 2) := by decide +kernel
theorem dX10_init_123 : decode cX10_init 123 = .ok (.castore, 1) := by decide +kernel
theorem dX10_init_124 : decode cX10_init 124 = .ok (.dup, 1) := by decide +kernel
theorem dX10_init_125 : decode cX10_init 125 = .ok (.iconst 2, 1) := by decide +kernel
theorem dX10_init_126 : decode cX10_init 126 = .ok (.bipush 114, 2) := by decide +kernel
theorem dX10_init_128 : decode cX10_init 128 = .ok (.castore, 1) := by decide +kernel
theorem dX10_init_129 : decode cX10_init 129 = .ok (.putfield 40, 3) := by decide +kernel
theorem dX10_init_132 : decode cX10_init 132 = .ok (.aload_n 0, 1) := by decide +kernel
theorem dX10_init_133 : decode cX10_init 133 = .ok (.bipush 15, 2) := by decide +kernel
theorem dX10_init_135 : decode cX10_init 135 = .ok (.newarray .char, 2) := by decide +kernel
theorem dX10_init_137 : decode cX10_init 137 = .ok (.dup, 1) := by decide +kernel
theorem dX10_init_138 : decode cX10_init 138 = .ok (.iconst 0, 1) := by decide +kernel
theorem dX10_init_139 : decode cX10_init 139 = .ok (.bipush 102, 2) := by decide +kernel
theorem dX10_init_141 : decode cX10_init 141 = .ok (.castore, 1) := by decide +kernel
theorem dX10_init_142 : decode cX10_init 142 = .ok (.dup, 1) := by decide +kernel
theorem dX10_init_143 : decode cX10_init 143 = .ok (.iconst 1, 1) := by decide +kernel
theorem dX10_init_144 : decode cX10_init 144 = .ok (.bipush 105, 2) := by decide +kernel
theorem dX10_init_146 : decode cX10_init 146 = .ok (.castore, 1) := by decide +kernel
theorem dX10_init_147 : decode cX10_init 147 = .ok (.dup, 1) := by decide +kernel
theorem dX10_init_148 : decode cX10_init 148 = .ok (.iconst 2, 1) := by decide +kernel
theorem dX10_init_149 : decode cX10_init 149 = .ok (.bipush 114, 2) := by decide +kernel
theorem dX10_init_151 : decode cX10_init 151 = .ok (.castore, 1) := by decide +kernel
theorem dX10_init_152 : decode cX10_init 152 = .ok (.dup, 1) := by decide +kernel
theorem dX10_init_153 : decode cX10_init 153 = .ok (.iconst 3, 1) := by decide +kernel
theorem dX10_init_154 : decode cX10_init 154 = .ok (.bipush 109, 2) := by decide +kernel
theorem dX10_init_156 : decode cX10_init 156 = .ok (.castore, 1) := by decide +kernel
theorem dX10_init_157 : decode cX10_init 157 = .ok (.dup, 1) := by decide +kernel
theorem dX10_init_158 : decode cX10_init 158 = .ok (.iconst 4, 1) := by decide +kernel
theorem dX10_init_159 : decode cX10_init 159 = .ok (.iconst 0, 1) := by decide +kernel
theorem dX10_init_160 : decode cX10_init 160 = .ok (.castore, 1) := by decide +kernel
theorem dX10_init_161 : decode cX10_init 161 = .ok (.dup, 1) := by decide +kernel
theorem dX10_init_162 : decode cX10_init 162 = .ok (.iconst 5, 1) := by decide +kernel
theorem dX10_init_163 : decode cX10_init 163 = .ok (.bipush 119, 2) := by decide +kernel
theorem dX10_init_165 : decode cX10_init 165 = .ok (.castore, 1) := by decide +kernel
theorem dX10_init_166 : decode cX10_init 166 = .ok (.dup, 1) := by decide +kernel
theorem dX10_init_167 : decode cX10_init 167 = .ok (.bipush 6, 2) := by decide +kernel
theorem dX10_init_169 : decode cX10_init 169 = .ok (.bipush 101, 2) := by decide +kernel
theorem dX10_init_171 : decode cX10_init 171 = .ok (.castore, 1) := by decide +kernel
theorem dX10_init_172 : decode cX10_init 172 = .ok (.dup, 1) := by decide +kernel
theorem dX10_init_173 : decode cX10_init 173 = .ok (.bipush 7, 2) := by decide +kernel
theorem dX10_init_175 : decode cX10_init 175 = .ok (.bipush 97, 2) := by decide +kernel
theorem dX10_init_177 : decode cX10_init 177 = .ok (.castore, 1) := by decide +kernel
theorem dX10_init_178 : decode cX10_init 178 = .ok (.dup, 1) := by decide +kernel
theorem dX10_init_179 : decode cX10_init 179 = .ok (.bipush 8, 2) := by decide +kernel
theorem dX10_init_181 : decode cX10_init 181 = .ok (.bipush 107, 2) := by decide +kernel
theorem dX10_init_183 : decode cX10_init 183 = .ok (.castore, 1) := by decide +kernel
theorem dX10_init_184 : decode cX10_init 184 = .ok (.dup, 1) := by decide +kernel
theorem dX10_init_185 : decode cX10_init 185 = .ok (.bipush 9, 2) := by decide +kernel
theorem dX10_init_187 : decode cX10_init 187 = .ok (.iconst 0, 1) := by decide +kernel
theorem dX10_init_188 : decode cX10_init 188 = .ok (.castore, 1) := by decide +kernel
theorem dX10_init_189 : decode cX10_init 189 = .ok (.dup, 1) := by decide +kernel
theorem dX10_init_190 : decode cX10_init 190 = .ok (.bipush 10, 2) := by decide +kernel
theorem dX10_init_192 : decode cX10_init 192 = .ok (.bipush 114, 2) := by decide +kernel
theorem dX10_init_194 : decode cX10_init 194 = .ok (.castore, 1) := by decide +kernel
theorem dX10_init_195 : decode cX10_init 195 = .ok (.dup, 1) := by decide +kernel
theorem dX10_init_196 : decode cX10_init 196 = .ok (.bipush 11, 2) := by decide +kernel
theorem dX10_init_198 : decode cX10_init 198 = .ok (.bipush 117, 2) := by decide +kernel
theorem dX10_init_200 : decode cX10_init 200 = .ok (.castore, 1) := by decide +kernel
theorem dX10_init_201 : decode cX10_init 201 = .ok (.dup, 1) := by decide +kernel
theorem dX10_init_202 : decode cX10_init 202 = .ok (.bipush 12, 2) := by decide +kernel
theorem dX10_init_204 : decode cX10_init 204 = .ok (.bipush 98, 2) := by decide +kernel
theorem dX10_init_206 : decode cX10_init 206 = .ok (.castore, 1) := by decide +kernel
theorem dX10_init_207 : decode cX10_init 207 = .ok (.dup, 1) := by decide +kernel
theorem dX10_init_208 : decode cX10_init 208 = .ok (.bipush 13, 2) := by decide +kernel
theorem dX10_init_210 : decode cX10_init 210 = .ok (.iconst 0, 1) := by decide +kernel
theorem dX10_init_211 : decode cX10_init 211 = .ok (.castore, 1) := by decide +kernel
theorem dX10_init_212 : decode cX10_init 212 = .ok (.dup, 1) := by decide +kernel
theorem dX10_init_213 : decode cX10_init 213 = .ok (.bipush 14, 2) := by decide +kernel
theorem dX10_init_215 : decode cX10_init 215 = .ok (.iconst 0, 1) := by decide +kernel
theorem dX10_init_216 : decode cX10_init 216 = .ok (.castore, 1) := by decide +kernel
theorem dX10_init_217 : decode cX10_init 217 = .ok (.putfield 43, 3) := by decide +kernel
theorem dX10_init_220 : decode cX10_init 220 = .ok (.aload_n 0, 1) := by decide +kernel
theorem dX10_init_221 : decode cX10_init 221 = .ok (.bipush 6, 2) := by decide +kernel
theorem dX10_init_223 : decode cX10_init 223 = .ok (.newarray .int, 2) := by decide +kernel
theorem dX10_init_225 : decode cX10_init 225 = .ok (.putfield 46, 3) := by decide +kernel
theorem dX10_init_228 : decode cX10_init 228 = .ok (.aload_n 0, 1) := by decide +kernel
theorem dX10_init_229 : decode cX10_init 229 = .ok (.bipush 6, 2) := by decide +kernel
theorem dX10_init_231 : decode cX10_init 231 = .ok (.newarray .int, 2) := by decide +kernel
theorem dX10_init_233 : decode cX10_init 233 = .ok (.putfield 49, 3) := by decide +kernel
theorem dX10_init_236 : decode cX10_init 236 = .ok (.aload_n 0, 1) := by decide +kernel
theorem dX10_init_237 : decode cX10_init 237 = .ok (.bipush 7, 2) := by decide +kernel
theorem dX10_init_239 : decode cX10_init 239 = .ok (.newarray .int, 2) := by decide +kernel
theorem dX10_init_241 : decode cX10_init 241 = .ok (.dup, 1) := by decide +kernel
theorem dX10_init_242 : decode cX10_init 242 = .ok (.iconst 0, 1) := by decide +kernel
theorem dX10_init_243 : decode cX10_init 243 = .ok (.iconst (-1), 1) := by decide +kernel
theorem dX10_init_244 : decode cX10_init 244 = .ok (.iastore, 1) := by decide +kernel
theorem dX10_init_245 : decode cX10_init 245 = .ok (.dup, 1) := by decide +kernel
theorem dX10_init_246 : decode cX10_init 246 = .ok (.iconst 1, 1) := by decide +kernel
theorem dX10_init_247 : decode cX10_init 247 = .ok (.iconst 0, 1) := by decide +kernel
theorem dX10_init_248 : decode cX10_init 248 = .ok (.iastore, 1) := by decide +kernel
theorem dX10_init_249 : decode cX10_init 249 = .ok (.dup, 1) := by decide +kernel
theorem dX10_init_250 : decode cX10_init 250 = .ok (.iconst 2, 1) := by decide +kernel
theorem dX10_init_251 : decode cX10_init 251 = .ok (.iconst 0, 1) := by decide +kernel
theorem dX10_init_252 : decode cX10_init 252 = .ok (.iastore, 1) := by decide +kernel
theorem dX10_init_253 : decode cX10_init 253 = .ok (.dup, 1) := by decide +kernel
theorem dX10_init_254 : decode cX10_init 254 = .ok (.iconst 3, 1) := by decide +kernel
theorem dX10_init_255 : decode cX10_init 255 = .ok (.iconst 0, 1) := by decide +kernel
theorem dX10_init_256 : decode cX10_init 256 = .ok (.iastore, 1) := by decide +kernel
theorem dX10_init_257 : decode cX10_init 257 = .ok (.dup, 1) := by decide +kernel
theorem dX10_init_258 : decode cX10_init 258 = .ok (.iconst 4, 1) := by decide +kernel
theorem dX10_init_259 : decode cX10_init 259 = .ok (.iconst 1, 1) := by decide +kernel
theorem dX10_init_260 : decode cX10_init 260 = .ok (.iastore, 1) := by decide +kernel
theorem dX10_init_261 : decode cX10_init 261 = .ok (.dup, 1) := by decide +kernel
theorem dX10_init_262 : decode cX10_init 262 = .ok (.iconst 5, 1) := by decide +kernel
theorem dX10_init_263 : decode cX10_init 263 = .ok (.iconst 2, 1) := by decide +kernel
theorem dX10_init_264 : decode cX10_init 264 = .ok (.iastore, 1) := by decide +kernel
theorem dX10_init_265 : decode cX10_init 265 = .ok (.dup, 1) := by decide +kernel
theorem dX10_init_266 : decode cX10_init 266 = .ok (.bipush 6, 2) := by decide +kernel
theorem dX10_init_268 : decode cX10_init 268 = .ok (.iconst 3, 1) := by decide +kernel
theorem dX10_init_269 : decode cX10_init 269 = .ok (.iastore, 1) := by decide +kernel
theorem dX10_init_270 : decode cX10_init 270 = .ok (.putfield 52, 3) := by decide +kernel
theorem dX10_init_273 : decode cX10_init 273 = .ok (.aload_n 0, 1) := by decide +kernel
theorem dX10_init_274 : decode cX10_init 274 = .ok (.bipush 21, 2) := by decide +kernel
theorem dX10_init_276 : decode cX10_init 276 = .ok (.newarray .int, 2) := by decide +kernel
theorem dX10_init_278 : decode cX10_init 278 = .ok (.dup, 1) := by decide +kernel
theorem dX10_init_279 : decode cX10_init 279 = .ok (.iconst 0, 1) := by decide +kernel
theorem dX10_init_280 : decode cX10_init 280 = .ok (.bipush 10, 2) := by decide +kernel
theorem dX10_init_282 : decode cX10_init 282 = .ok (.iastore, 1) := by decide +kernel
theorem dX10_init_283 : decode cX10_init 283 = .ok (.dup, 1) := by decide +kernel
theorem dX10_init_284 : decode cX10_init 284 = .ok (.iconst 1, 1) := by decide +kernel
theorem dX10_init_285 : decode cX10_init 285 = .ok (.bipush 11, 2) := by decide +kernel
theorem dX10_init_287 : decode cX10_init 287 = .ok (.iastore, 1) := by decide +kernel
theorem dX10_init_288 : decode cX10_init 288 = .ok (.dup, 1) := by decide +kernel
theorem dX10_init_289 : decode cX10_init 289 = .ok (.iconst 2, 1) := by decide +kernel
theorem dX10_init_290 : decode cX10_init 290 = .ok (.bipush 12, 2) := by decide +kernel
theorem dX10_init_292 : decode cX10_init 292 = .ok (.iastore, 1) := by decide +kernel
theorem dX10_init_293 : decode cX10_init 293 = .ok (.dup, 1) := by decide +kernel
theorem dX10_init_294 : decode cX10_init 294 = .ok (.iconst 3, 1) := by decide +kernel
theorem dX10_init_295 : decode cX10_init 295 = .ok (.iconst 0, 1) := by decide +kernel
theorem dX10_init_296 : decode cX10_init 296 = .ok (.iastore, 1) := by decide +kernel
theorem dX10_init_297 : decode cX10_init 297 = .ok (.dup, 1) := by decide +kernel
theorem dX10_init_298 : decode cX10_init 298 = .ok (.iconst 4, 1) := by decide +kernel
theorem dX10_init_299 : decode cX10_init 299 = .ok (.bipush 20, 2) := by decide +kernel
theorem dX10_init_301 : decode cX10_init 301 = .ok (.iastore, 1) := by decide +kernel
theorem dX10_init_302 : decode cX10_init 302 = .ok (.dup, 1) := by decide +kernel
theorem dX10_init_303 : decode cX10_init 303 = .ok (.iconst 5, 1) := by decide +kernel
theorem dX10_init_304 : decode cX10_init 304 = .ok (.iconst 0, 1) := by decide +kernel
theorem dX10_init_305 : decode cX10_init 305 = .ok (.iastore, 1) := by decide +kernel
theorem dX10_init_306 : decode cX10_init 306 = .ok (.dup, 1) := by decide +kernel
theorem dX10_init_307 : decode cX10_init 307 = .ok (.bipush 6, 2) := by decide +kernel
theorem dX10_init_309 : decode cX10_init 309 = .ok (.bipush 30, 2) := by decide +kernel
theorem dX10_init_311 : decode cX10_init 311 = .ok (.iastore, 1) := by decide +kernel
theorem dX10_init_312 : decode cX10_init 312 = .ok (.dup, 1) := by decide +kernel
theorem dX10_init_313 : decode cX10_init 313 = .ok (.bipush 7, 2) := by decide +kernel
theorem dX10_init_315 : decode cX10_init 315 = .ok (.iconst 0, 1) := by decide +kernel
theorem dX10_init_316 : decode cX10_init 316 = .ok (.iastore, 1) := by decide +kernel
theorem dX10_init_317 : decode cX10_init 317 = .ok (.dup, 1) := by decide +kernel
theorem dX10_init_318 : decode cX10_init 318 = .ok (.bipush 8, 2) := by decide +kernel
theorem dX10_init_320 : decode cX10_init 320 = .ok (.iconst 0, 1) := by decide +kernel
theorem dX10_init_321 : decode cX10_init 321 = .ok (.iastore, 1) := by decide +kernel
theorem dX10_init_322 : decode cX10_init 322 = .ok (.dup, 1) := by decide +kernel
theorem dX10_init_323 : decode cX10_init 323 = .ok (.bipush 9, 2) := by decide +kernel
theorem dX10_init_325 : decode cX10_init 325 = .ok (.iconst 0, 1) := by decide +kernel
theorem dX10_init_326 : decode cX10_init 326 = .ok (.iastore, 1) := by decide +kernel
theorem dX10_init_327 : decode cX10_init 327 = .ok (.dup, 1) := by decide +kernel
theorem dX10_init_328 : decode cX10_init 328 = .ok (.bipush 10, 2) := by decide +kernel
theorem dX10_init_330 : decode cX10_init 330 = .ok (.iconst 0, 1) := by decide +kernel
theorem dX10_init_331 : decode cX10_init 331 = .ok (.iastore, 1) := by decide +kernel
theorem dX10_init_332 : decode cX10_init 332 = .ok (.dup, 1) := by decide +kernel
theorem dX10_init_333 : decode cX10_init 333 = .ok (.bipush 11, 2) := by decide +kernel
theorem dX10_init_335 : decode cX10_init 335 = .ok (.bipush 40, 2) := by decide +kernel
theorem dX10_init_337 : decode cX10_init 337 = .ok (.iastore, 1) := by decide +kernel
theorem dX10_init_338 : decode cX10_init 338 = .ok (.dup, 1) := by decide +kernel
theorem dX10_init_339 : decode cX10_init 339 = .ok (.bipush 12, 2) := by decide +kernel
theorem dX10_init_341 : decode cX10_init 341 = .ok (.bipush 50, 2) := by decide +kernel
theorem dX10_init_343 : decode cX10_init 343 = .ok (.iastore, 1) := by decide +kernel
theorem dX10_init_344 : decode cX10_init 344 = .ok (.dup, 1) := by decide +kernel
theorem dX10_init_345 : decode cX10_init 345 = .ok (.bipush 13, 2) := by decide +kernel
theorem dX10_init_347 : decode cX10_init 347 = .ok (.bipush 51, 2) := by decide +kernel
theorem dX10_init_349 : decode cX10_init 349 = .ok (.iastore, 1) := by decide +kernel
theorem dX10_init_350 : decode cX10_init 350 = .ok (.dup, 1) := by decide +kernel
theorem dX10_init_351 : decode cX10_init 351 = .ok (.bipush 14, 2) := by decide +kernel
theorem dX10_init_353 : decode cX10_init 353 = .ok (.iconst 0, 1) := by decide +kernel
theorem dX10_init_354 : decode cX10_init 354 = .ok (.iastore, 1) := by decide +kernel
theorem dX10_init_355 : decode cX10_init 355 = .ok (.dup, 1) := by decide +kernel
theorem dX10_init_356 : decode cX10_init 356 = .ok (.bipush 15, 2) := by decide +kernel
theorem dX10_init_358 : decode cX10_init 358 = .ok (.iconst 0, 1) := by decide +kernel
theorem dX10_init_359 : decode cX10_init 359 = .ok (.iastore, 1) := by decide +kernel
theorem dX10_init_360 : decode cX10_init 360 = .ok (.dup, 1) := by decide +kernel
theorem dX10_init_361 : decode cX10_init 361 = .ok (.bipush 16, 2) := by decide +kernel
theorem dX10_init_363 : decode cX10_init 363 = .ok (.iconst 0, 1) := by decide +kernel
theorem dX10_init_364 : decode cX10_init 364 = .ok (.iastore, 1) := by decide +kernel
theorem dX10_init_365 : decode cX10_init 365 = .ok (.dup, 1) := by decide +kernel
theorem dX10_init_366 : decode cX10_init 366 = .ok (.bipush 17, 2) := by decide +kernel
theorem dX10_init_368 : decode cX10_init 368 = .ok (.bipush 60, 2) := by decide +kernel
theorem dX10_init_370 : decode cX10_init 370 = .ok (.iastore, 1) := by decide +kernel
theorem dX10_init_371 : decode cX10_init 371 = .ok (.dup, 1) := by decide +kernel
theorem dX10_init_372 : decode cX10_init 372 = .ok (.bipush 18, 2) := by decide +kernel
theorem dX10_init_374 : decode cX10_init 374 = .ok (.bipush 71, 2) := by decide +kernel
theorem dX10_init_376 : decode cX10_init 376 = .ok (.iastore, 1) := by decide +kernel
theorem dX10_init_377 : decode cX10_init 377 = .ok (.dup, 1) := by decide +kernel
theorem dX10_init_378 : decode cX10_init 378 = .ok (.bipush 19, 2) := by decide +kernel
theorem dX10_init_380 : decode cX10_init 380 = .ok (.bipush 70, 2) := by decide +kernel
theorem dX10_init_382 : decode cX10_init 382 = .ok (.iastore, 1) := by decide +kernel
theorem dX10_init_383 : decode cX10_init 383 = .ok (.dup, 1) := by decide +kernel
theorem dX10_init_384 : decode cX10_init 384 = .ok (.bipush 20, 2) := by decide +kernel
theorem dX10_init_386 : decode cX10_init 386 = .ok (.iconst 0, 1) := by decide +kernel
theorem dX10_init_387 : decode cX10_init 387 = .ok (.iastore, 1) := by decide +kernel
theorem dX10_init_388 : decode cX10_init 388 = .ok (.putfield 55, 3) := by decide +kernel
theorem dX10_init_391 : decode cX10_init 391 = .ok (.aload_n 0, 1) := by decide +kernel
theorem dX10_init_392 : decode cX10_init 392 = .ok (.bipush 20, 2) := by decide +kernel
theorem dX10_init_394 : decode cX10_init 394 = .ok (.newarray .int, 2) := by decide +kernel
theorem dX10_init_396 : decode cX10_init 396 = .ok (.putfield 58, 3) := by decide +kernel
theorem dX10_init_399 : decode cX10_init 399 = .ok (.aload_n 0, 1) := by decide +kernel
theorem dX10_init_400 : decode cX10_init 400 = .ok (.bipush 6, 2) := by decide +kernel
theorem dX10_init_402 : decode cX10_init 402 = .ok (.newarray .int, 2) := by decide +kernel
theorem dX10_init_404 : decode cX10_init 404 = .ok (.dup, 1) := by decide +kernel
theorem dX10_init_405 : decode cX10_init 405 = .ok (.iconst 0, 1) := by decide +kernel
theorem dX10_init_406 : decode cX10_init 406 = .ok (.iconst (-1), 1) := by decide +kernel
theorem dX10_init_407 : decode cX10_init 407 = .ok (.iastore, 1) := by decide +kernel
theorem dX10_init_408 : decode cX10_init 408 = .ok (.dup, 1) := by decide +kernel
theorem dX10_init_409 : decode cX10_init 409 = .ok (.iconst 1, 1) := by decide +kernel
theorem dX10_init_410 : decode cX10_init 410 = .ok (.iconst (-1), 1) := by decide +kernel
theorem dX10_init_411 : decode cX10_init 411 = .ok (.iastore, 1) := by decide +kernel
theorem dX10_init_412 : decode cX10_init 412 = .ok (.dup, 1) := by decide +kernel
theorem dX10_init_413 : decode cX10_init 413 = .ok (.iconst 2, 1) := by decide +kernel
theorem dX10_init_414 : decode cX10_init 414 = .ok (.iconst (-1), 1) := by decide +kernel
theorem dX10_init_415 : decode cX10_init 415 = .ok (.iastore, 1) := by decide +kernel
theorem dX10_init_416 : decode cX10_init 416 = .ok (.dup, 1) := by decide +kernel
theorem dX10_init_417 : decode cX10_init 417 = .ok (.iconst 3, 1) := by decide +kernel
theorem dX10_init_418 : decode cX10_init 418 = .ok (.iconst (-1), 1) := by decide +kernel
theorem dX10_init_419 : decode cX10_init 419 = .ok (.iastore, 1) := by decide +kernel
theorem dX10_init_420 : decode cX10_init 420 = .ok (.dup, 1) := by decide +kernel
theorem dX10_init_421 : decode cX10_init 421 = .ok (.iconst 4, 1) := by decide +kernel
theorem dX10_init_422 : decode cX10_init 422 = .ok (.iconst (-1), 1) := by decide +kernel
theorem dX10_init_423 : decode cX10_init 423 = .ok (.iastore, 1) := by decide +kernel
theorem dX10_init_424 : decode cX10_init 424 = .ok (.dup, 1) := by decide +kernel
theorem dX10_init_425 : decode cX10_init 425 = .ok (.iconst 5, 1) := by decide +kernel
theorem dX10_init_426 : decode cX10_init 426 = .ok (.iconst (-1), 1) := by decide +kernel
theorem dX10_init_427 : decode cX10_init 427 = .ok (.iastore, 1) := by decide +kernel
theorem dX10_init_428 : decode cX10_init 428 = .ok (.putfield 61, 3) := by decide +kernel
theorem dX10_init_431 : decode cX10_init 431 = .ok (.aload_n 0, 1) := by decide +kernel
theorem dX10_init_432 : decode cX10_init 432 = .ok (.bipush 6, 2) := by decide +kernel
theorem dX10_init_434 : decode cX10_init 434 = .ok (.newarray .int, 2) := by decide +kernel
theorem dX10_init_436 : decode cX10_init 436 = .ok (.putfield 64, 3) := by decide +kernel
theorem dX10_init_439 : decode cX10_init 439 = .ok (.aload_n 0, 1) := by decide +kernel
theorem dX10_init_440 : decode cX10_init 440 = .ok (.sipush 360, 3) := by decide +kernel
theorem dX10_init_443 : decode cX10_init 443 = .ok (.newarray .long, 2) := by decide +kernel
theorem dX10_init_445 : decode cX10_init 445 = .ok (.putfield 67, 3) := by decide +kernel
theorem dX10_init_448 : decode cX10_init 448 = .ok (.aload_n 0, 1) := by decide +kernel
theorem dX10_init_449 : decode cX10_init 449 = .ok (.bipush 60, 2) := by decide +kernel
theorem dX10_init_451 : decode cX10_init 451 = .ok (.newarray .long, 2) := by decide +kernel
theorem dX10_init_453 : decode cX10_init 453 = .ok (.putfield 71, 3) := by decide +kernel
theorem dX10_init_456 : decode cX10_init 456 = .ok (.return_, 1) := by decide +kernel
theorem dX10_isIn_0 : decode cX10_isIn 0 = .ok (.iload_n 0, 1) := by decide +kernel
theorem dX10_isIn_1 : decode cX10_isIn 1 = .ok (.iload_n 1, 1) := by decide +kernel
theorem dX10_isIn_2 : decode cX10_isIn 2 = .ok (.if_icmp .lt 12, 3) := by decide +kernel
theorem dX10_isIn_5 : decode cX10_isIn 5 = .ok (.iload_n 0, 1) := by decide +kernel
theorem dX10_isIn_6 : decode cX10_isIn 6 = .ok (.iload_n 2, 1) := by decide +kernel
theorem dX10_isIn_7 : decode cX10_isIn 7 = .ok (.if_icmp .gt 7, 3) := by decide +kernel
theorem dX10_isIn_10 : decode cX10_isIn 10 = .ok (.iconst 1, 1) := by decide +kernel
theorem dX10_isIn_11 : decode cX10_isIn 11 = .ok (.goto 4, 3) := by decide +kernel
theorem dX10_isIn_14 : decode cX10_isIn 14 = .ok (.iconst 0, 1) := by decide +kernel
theorem dX10_isIn_15 : decode cX10_isIn 15 = .ok (.ireturn, 1) := by decide +kernel
theorem dX10_move_0 : decode cX10_move 0 = .ok (.iconst 0, 1) := by decide +kernel
theorem dX10_move_1 : decode cX10_move 1 = .ok (.istore_n 2, 1) := by decide +kernel
theorem dX10_move_2 : decode cX10_move 2 = .ok (.iload_n 2, 1) := by decide +kernel
theorem dX10_move_3 : decode cX10_move 3 = .ok (.sipush 152, 3) := by decide +kernel
theorem dX10_move_6 : decode cX10_move 6 = .ok (.if_icmp .ge 15, 3) := by decide +kernel
theorem dX10_move_9 : decode cX10_move 9 = .ok (.aload_n 1, 1) := by decide +kernel
theorem dX10_move_10 : decode cX10_move 10 = .ok (.iload_n 2, 1) := by decide +kernel
theorem dX10_move_11 : decode cX10_move 11 = .ok (.aload_n 0, 1) := by decide +kernel
theorem dX10_move_12 : decode cX10_move 12 = .ok (.iload_n 2, 1) := by decide +kernel
theorem dX10_move_13 : decode cX10_move 13 = .ok (.iaload, 1) := by decide +kernel
theorem dX10_move_14 : decode cX10_move 14 = .ok (.iastore, 1) := by decide +kernel
theorem dX10_move_15 : decode cX10_move 15 = .ok (.iinc 2 1, 3) := by decide +kernel
theorem dX10_move_18 : decode cX10_move 18 = .ok (.goto (-16), 3) := by decide +kernel
theorem dX10_move_21 : decode cX10_move 21 = .ok (.return_, 1) := by decide +kernel
theorem dX10_image_0 : decode cX10_image 0 = .ok (.aload_n 0, 1) := by decide +kernel
theorem dX10_image_1 : decode cX10_image 1 = .ok (.iconst 1, 1) := by decide +kernel
theorem dX10_image_2 : decode cX10_image 2 = .ok (.putfield 74, 3) := by decide +kernel
theorem dX10_image_5 : decode cX10_image 5 = .ok (.aload_n 0, 1) := by decide +kernel
theorem dX10_image_6 : decode cX10_image 6 = .ok (.getfield 9, 3) := by decide +kernel
theorem dX10_image_9 : decode cX10_image 9 = .ok (.aload_n 0, 1) := by decide +kernel
theorem dX10_image_10 : decode cX10_image 10 = .ok (.getfield 18, 3) := by decide +kernel
theorem dX10_image_13 : decode cX10_image 13 = .ok (.invokestatic 78, 3) := by decide +kernel
theorem dX10_image_16 : decode cX10_image 16 = .ok (.aload_n 0, 1) := by decide +kernel
theorem dX10_image_17 : decode cX10_image 17 = .ok (.getfield 9, 3) := by decide +kernel
theorem dX10_image_20 : decode cX10_image 20 = .ok (.bipush 78, 2) := by decide +kernel
theorem dX10_image_22 : decode cX10_image 22 = .ok (.iaload, 1) := by decide +kernel
theorem dX10_image_23 : decode cX10_image 23 = .ok (.ireturn, 1) := by decide +kernel
theorem dX10_undo_0 : decode cX10_undo 0 = .ok (.aload_n 0, 1) := by decide +kernel
theorem dX10_undo_1 : decode cX10_undo 1 = .ok (.getfield 74, 3) := by decide +kernel
theorem dX10_undo_4 : decode cX10_undo 4 = .ok (.ifCond .ne 6, 3) := by decide +kernel
theorem dX10_undo_7 : decode cX10_undo 7 = .ok (.bipush (-3), 2) := by decide +kernel
theorem dX10_undo_9 : decode cX10_undo 9 = .ok (.ireturn, 1) := by decide +kernel
theorem dX10_undo_10 : decode cX10_undo 10 = .ok (.aload_n 0, 1) := by decide +kernel
theorem dX10_undo_11 : decode cX10_undo 11 = .ok (.getfield 18, 3) := by decide +kernel
theorem dX10_undo_14 : decode cX10_undo 14 = .ok (.aload_n 0, 1) := by decide +kernel
theorem dX10_undo_15 : decode cX10_undo 15 = .ok (.getfield 9, 3) := by decide +kernel
theorem dX10_undo_18 : decode cX10_undo 18 = .ok (.invokestatic 78, 3) := by decide +kernel
theorem dX10_undo_21 : decode cX10_undo 21 = .ok (.aload_n 0, 1) := by decide +kernel
theorem dX10_undo_22 : decode cX10_undo 22 = .ok (.getfield 9, 3) := by decide +kernel
theorem dX10_undo_25 : decode cX10_undo 25 = .ok (.bipush 78, 2) := by decide +kernel
theorem dX10_undo_27 : decode cX10_undo 27 = .ok (.iaload, 1) := by decide +kernel
theorem dX10_undo_28 : decode cX10_undo 28 = .ok (.ireturn, 1) := by decide +kernel
theorem dX10_isOne_0 : decode cX10_isOne 0 = .ok (.iload_n 1, 1) := by decide +kernel
theorem dX10_isOne_1 : decode cX10_isOne 1 = .ok (.iconst 0, 1) := by decide +kernel
theorem dX10_isOne_2 : decode cX10_isOne 2 = .ok (.aload_n 0, 1) := by decide +kernel
theorem dX10_isOne_3 : decode cX10_isOne 3 = .ok (.getfield 9, 3) := by decide +kernel
theorem dX10_isOne_6 : decode cX10_isOne 6 = .ok (.bipush 78, 2) := by decide +kernel
theorem dX10_isOne_8 : decode cX10_isOne 8 = .ok (.iaload, 1) := by decide +kernel
theorem dX10_isOne_9 : decode cX10_isOne 9 = .ok (.iconst 1, 1) := by decide +kernel
theorem dX10_isOne_10 : decode cX10_isOne 10 = .ok (.isub, 1) := by decide +kernel
theorem dX10_isOne_11 : decode cX10_isOne 11 = .ok (.invokestatic 82, 3) := by decide +kernel
theorem dX10_isOne_14 : decode cX10_isOne 14 = .ok (.ireturn, 1) := by decide +kernel
theorem dX10_isSaying_0 : decode cX10_isSaying 0 = .ok (.iload_n 1, 1) := by decide +kernel
theorem dX10_isSaying_1 : decode cX10_isSaying 1 = .ok (.iconst 0, 1) := by decide +kernel
theorem dX10_isSaying_2 : decode cX10_isSaying 2 = .ok (.aload_n 0, 1) := by decide +kernel
theorem dX10_isSaying_3 : decode cX10_isSaying 3 = .ok (.getfield 9, 3) := by decide +kernel
theorem dX10_isSaying_6 : decode cX10_isSaying 6 = .ok (.bipush 79, 2) := by decide +kernel
theorem dX10_isSaying_8 : decode cX10_isSaying 8 = .ok (.iaload, 1) := by decide +kernel
theorem dX10_isSaying_9 : decode cX10_isSaying 9 = .ok (.iconst 1, 1) := by decide +kernel
theorem dX10_isSaying_10 : decode cX10_isSaying 10 = .ok (.isub, 1) := by decide +kernel
theorem dX10_isSaying_11 : decode cX10_isSaying 11 = .ok (.invokestatic 82, 3) := by decide +kernel
theorem dX10_isSaying_14 : decode cX10_isSaying 14 = .ok (.ireturn, 1) := by decide +kernel
theorem dX10_orNever_0 : decode cX10_orNever 0 = .ok (.iload_n 0, 1) := by decide +kernel
theorem dX10_orNever_1 : decode cX10_orNever 1 = .ok (.iconst (-1), 1) := by decide +kernel
theorem dX10_orNever_2 : decode cX10_orNever 2 = .ok (.if_icmp .ne 8, 3) := by decide +kernel
theorem dX10_orNever_5 : decode cX10_orNever 5 = .ok (.bipush (-5), 2) := by decide +kernel
theorem dX10_orNever_7 : decode cX10_orNever 7 = .ok (.goto 4, 3) := by decide +kernel
theorem dX10_orNever_10 : decode cX10_orNever 10 = .ok (.iload_n 0, 1) := by decide +kernel
theorem dX10_orNever_11 : decode cX10_orNever 11 = .ok (.ireturn, 1) := by decide +kernel
theorem dX10_one_0 : decode cX10_one 0 = .ok (.aload_n 0, 1) := by decide +kernel
theorem dX10_one_1 : decode cX10_one 1 = .ok (.getfield 9, 3) := by decide +kernel
theorem dX10_one_4 : decode cX10_one 4 = .ok (.bipush 9, 2) := by decide +kernel
theorem dX10_one_6 : decode cX10_one 6 = .ok (.iload_n 1, 1) := by decide +kernel
theorem dX10_one_7 : decode cX10_one 7 = .ok (.imul, 1) := by decide +kernel
theorem dX10_one_8 : decode cX10_one 8 = .ok (.iload_n 2, 1) := by decide +kernel
theorem dX10_one_9 : decode cX10_one 9 = .ok (.iadd, 1) := by decide +kernel
theorem dX10_one_10 : decode cX10_one 10 = .ok (.iaload, 1) := by decide +kernel
theorem dX10_one_11 : decode cX10_one 11 = .ok (.ireturn, 1) := by decide +kernel
theorem dX10_change_0 : decode cX10_change 0 = .ok (.aload_n 0, 1) := by decide +kernel
theorem dX10_change_1 : decode cX10_change 1 = .ok (.iload_n 1, 1) := by decide +kernel
theorem dX10_change_2 : decode cX10_change 2 = .ok (.iload_n 2, 1) := by decide +kernel
theorem dX10_change_3 : decode cX10_change 3 = .ok (.invokevirtual 86, 3) := by decide +kernel
theorem dX10_change_6 : decode cX10_change 6 = .ok (.istore 4, 2) := by decide +kernel
theorem dX10_change_8 : decode cX10_change 8 = .ok (.aload_n 0, 1) := by decide +kernel
theorem dX10_change_9 : decode cX10_change 9 = .ok (.getfield 9, 3) := by decide +kernel
theorem dX10_change_12 : decode cX10_change 12 = .ok (.bipush 9, 2) := by decide +kernel
theorem dX10_change_14 : decode cX10_change 14 = .ok (.iload_n 1, 1) := by decide +kernel
theorem dX10_change_15 : decode cX10_change 15 = .ok (.imul, 1) := by decide +kernel
theorem dX10_change_16 : decode cX10_change 16 = .ok (.iload_n 2, 1) := by decide +kernel
theorem dX10_change_17 : decode cX10_change 17 = .ok (.iadd, 1) := by decide +kernel
theorem dX10_change_18 : decode cX10_change 18 = .ok (.iload_n 3, 1) := by decide +kernel
theorem dX10_change_19 : decode cX10_change 19 = .ok (.iastore, 1) := by decide +kernel
theorem dX10_change_20 : decode cX10_change 20 = .ok (.iload 4, 2) := by decide +kernel
theorem dX10_change_22 : decode cX10_change 22 = .ok (.ireturn, 1) := by decide +kernel
theorem dX10_word_0 : decode cX10_word 0 = .ok (.aload_n 0, 1) := by decide +kernel
theorem dX10_word_1 : decode cX10_word 1 = .ok (.getfield 9, 3) := by decide +kernel
theorem dX10_word_4 : decode cX10_word 4 = .ok (.bipush 54, 2) := by decide +kernel
theorem dX10_word_6 : decode cX10_word 6 = .ok (.iconst 3, 1) := by decide +kernel
theorem dX10_word_7 : decode cX10_word 7 = .ok (.iload_n 1, 1) := by decide +kernel
theorem dX10_word_8 : decode cX10_word 8 = .ok (.imul, 1) := by decide +kernel
theorem dX10_word_9 : decode cX10_word 9 = .ok (.iadd, 1) := by decide +kernel
theorem dX10_word_10 : decode cX10_word 10 = .ok (.iload_n 2, 1) := by decide +kernel
theorem dX10_word_11 : decode cX10_word 11 = .ok (.iadd, 1) := by decide +kernel
theorem dX10_word_12 : decode cX10_word 12 = .ok (.iaload, 1) := by decide +kernel
theorem dX10_word_13 : decode cX10_word 13 = .ok (.ireturn, 1) := by decide +kernel
theorem dX10_aims_0 : decode cX10_aims 0 = .ok (.aload_n 0, 1) := by decide +kernel
theorem dX10_aims_1 : decode cX10_aims 1 = .ok (.iload_n 1, 1) := by decide +kernel
theorem dX10_aims_2 : decode cX10_aims 2 = .ok (.iconst 2, 1) := by decide +kernel
theorem dX10_aims_3 : decode cX10_aims 3 = .ok (.invokevirtual 90, 3) := by decide +kernel
theorem dX10_aims_6 : decode cX10_aims 6 = .ok (.istore_n 3, 1) := by decide +kernel
theorem dX10_aims_7 : decode cX10_aims 7 = .ok (.aload_n 0, 1) := by decide +kernel
theorem dX10_aims_8 : decode cX10_aims 8 = .ok (.getfield 9, 3) := by decide +kernel
theorem dX10_aims_11 : decode cX10_aims 11 = .ok (.bipush 54, 2) := by decide +kernel
theorem dX10_aims_13 : decode cX10_aims 13 = .ok (.iconst 3, 1) := by decide +kernel
theorem dX10_aims_14 : decode cX10_aims 14 = .ok (.iload_n 1, 1) := by decide +kernel
theorem dX10_aims_15 : decode cX10_aims 15 = .ok (.imul, 1) := by decide +kernel
theorem dX10_aims_16 : decode cX10_aims 16 = .ok (.iadd, 1) := by decide +kernel
theorem dX10_aims_17 : decode cX10_aims 17 = .ok (.iconst 2, 1) := by decide +kernel
theorem dX10_aims_18 : decode cX10_aims 18 = .ok (.iadd, 1) := by decide +kernel
theorem dX10_aims_19 : decode cX10_aims 19 = .ok (.iload_n 2, 1) := by decide +kernel
theorem dX10_aims_20 : decode cX10_aims 20 = .ok (.iastore, 1) := by decide +kernel
theorem dX10_aims_21 : decode cX10_aims 21 = .ok (.iload_n 3, 1) := by decide +kernel
theorem dX10_aims_22 : decode cX10_aims 22 = .ok (.ireturn, 1) := by decide +kernel
theorem dX10_wearer_0 : decode cX10_wearer 0 = .ok (.iload_n 1, 1) := by decide +kernel
theorem dX10_wearer_1 : decode cX10_wearer 1 = .ok (.iconst 0, 1) := by decide +kernel
theorem dX10_wearer_2 : decode cX10_wearer 2 = .ok (.bipush 6, 2) := by decide +kernel
theorem dX10_wearer_4 : decode cX10_wearer 4 = .ok (.invokestatic 82, 3) := by decide +kernel
theorem dX10_wearer_7 : decode cX10_wearer 7 = .ok (.ifCond .ne 5, 3) := by decide +kernel
theorem dX10_wearer_10 : decode cX10_wearer 10 = .ok (.iconst (-1), 1) := by decide +kernel
theorem dX10_wearer_11 : decode cX10_wearer 11 = .ok (.ireturn, 1) := by decide +kernel
theorem dX10_wearer_12 : decode cX10_wearer 12 = .ok (.iload_n 2, 1) := by decide +kernel
theorem dX10_wearer_13 : decode cX10_wearer 13 = .ok (.iconst 0, 1) := by decide +kernel
theorem dX10_wearer_14 : decode cX10_wearer 14 = .ok (.bipush 9, 2) := by decide +kernel
theorem dX10_wearer_16 : decode cX10_wearer 16 = .ok (.invokestatic 82, 3) := by decide +kernel
theorem dX10_wearer_19 : decode cX10_wearer 19 = .ok (.ifCond .eq 13, 3) := by decide +kernel
theorem dX10_wearer_22 : decode cX10_wearer 22 = .ok (.iload_n 3, 1) := by decide +kernel
theorem dX10_wearer_23 : decode cX10_wearer 23 = .ok (.iconst 0, 1) := by decide +kernel
theorem dX10_wearer_24 : decode cX10_wearer 24 = .ok (.bipush 99, 2) := by decide +kernel
theorem dX10_wearer_26 : decode cX10_wearer 26 = .ok (.invokestatic 82, 3) := by decide +kernel
theorem dX10_wearer_29 : decode cX10_wearer 29 = .ok (.ifCond .ne 6, 3) := by decide +kernel
theorem dX10_wearer_32 : decode cX10_wearer 32 = .ok (.bipush (-2), 2) := by decide +kernel
theorem dX10_wearer_34 : decode cX10_wearer 34 = .ok (.ireturn, 1) := by decide +kernel
theorem dX10_wearer_35 : decode cX10_wearer 35 = .ok (.aload_n 0, 1) := by decide +kernel
theorem dX10_wearer_36 : decode cX10_wearer 36 = .ok (.getfield 9, 3) := by decide +kernel
theorem dX10_wearer_39 : decode cX10_wearer 39 = .ok (.bipush 78, 2) := by decide +kernel
theorem dX10_wearer_41 : decode cX10_wearer 41 = .ok (.iaload, 1) := by decide +kernel
theorem dX10_wearer_42 : decode cX10_wearer 42 = .ok (.istore 4, 2) := by decide +kernel
theorem dX10_wearer_44 : decode cX10_wearer 44 = .ok (.iload 4, 2) := by decide +kernel
theorem dX10_wearer_46 : decode cX10_wearer 46 = .ok (.bipush 6, 2) := by decide +kernel
theorem dX10_wearer_48 : decode cX10_wearer 48 = .ok (.if_icmp .ne 6, 3) := by decide +kernel
theorem dX10_wearer_51 : decode cX10_wearer 51 = .ok (.bipush (-4), 2) := by decide +kernel
theorem dX10_wearer_53 : decode cX10_wearer 53 = .ok (.ireturn, 1) := by decide +kernel
theorem dX10_wearer_54 : decode cX10_wearer 54 = .ok (.iconst 0, 1) := by decide +kernel
theorem dX10_wearer_55 : decode cX10_wearer 55 = .ok (.istore 5, 2) := by decide +kernel
theorem dX10_wearer_57 : decode cX10_wearer 57 = .ok (.iload 5, 2) := by decide +kernel
theorem dX10_wearer_59 : decode cX10_wearer 59 = .ok (.bipush 9, 2) := by decide +kernel
theorem dX10_wearer_61 : decode cX10_wearer 61 = .ok (.if_icmp .ge 19, 3) := by decide +kernel
theorem dX10_wearer_64 : decode cX10_wearer 64 = .ok (.aload_n 0, 1) := by decide +kernel
theorem dX10_wearer_65 : decode cX10_wearer 65 = .ok (.iload 4, 2) := by decide +kernel
theorem dX10_wearer_67 : decode cX10_wearer 67 = .ok (.iload 5, 2) := by decide +kernel
theorem dX10_wearer_69 : decode cX10_wearer 69 = .ok (.iconst 0, 1) := by decide +kernel
theorem dX10_wearer_70 : decode cX10_wearer 70 = .ok (.invokevirtual 93, 3) := by decide +kernel
theorem dX10_wearer_73 : decode cX10_wearer 73 = .ok (.pop, 1) := by decide +kernel
theorem dX10_wearer_74 : decode cX10_wearer 74 = .ok (.iinc 5 1, 3) := by decide +kernel
theorem dX10_wearer_77 : decode cX10_wearer 77 = .ok (.goto (-20), 3) := by decide +kernel
theorem dX10_wearer_80 : decode cX10_wearer 80 = .ok (.aload_n 0, 1) := by decide +kernel
theorem dX10_wearer_81 : decode cX10_wearer 81 = .ok (.iload 4, 2) := by decide +kernel
theorem dX10_wearer_83 : decode cX10_wearer 83 = .ok (.iconst 0, 1) := by decide +kernel
theorem dX10_wearer_84 : decode cX10_wearer 84 = .ok (.iload_n 1, 1) := by decide +kernel
theorem dX10_wearer_85 : decode cX10_wearer 85 = .ok (.invokevirtual 93, 3) := by decide +kernel
theorem dX10_wearer_88 : decode cX10_wearer 88 = .ok (.pop, 1) := by decide +kernel
theorem dX10_wearer_89 : decode cX10_wearer 89 = .ok (.aload_n 0, 1) := by decide +kernel
theorem dX10_wearer_90 : decode cX10_wearer 90 = .ok (.iload 4, 2) := by decide +kernel
theorem dX10_wearer_92 : decode cX10_wearer 92 = .ok (.iconst 1, 1) := by decide +kernel
theorem dX10_wearer_93 : decode cX10_wearer 93 = .ok (.iload_n 2, 1) := by decide +kernel
theorem dX10_wearer_94 : decode cX10_wearer 94 = .ok (.invokevirtual 93, 3) := by decide +kernel
theorem dX10_wearer_97 : decode cX10_wearer 97 = .ok (.pop, 1) := by decide +kernel
theorem dX10_wearer_98 : decode cX10_wearer 98 = .ok (.aload_n 0, 1) := by decide +kernel
theorem dX10_wearer_99 : decode cX10_wearer 99 = .ok (.iload 4, 2) := by decide +kernel
theorem dX10_wearer_101 : decode cX10_wearer 101 = .ok (.iconst 2, 1) := by decide +kernel
theorem dX10_wearer_102 : decode cX10_wearer 102 = .ok (.iload_n 3, 1) := by decide +kernel
theorem dX10_wearer_103 : decode cX10_wearer 103 = .ok (.invokevirtual 93, 3) := by decide +kernel
theorem dX10_wearer_106 : decode cX10_wearer 106 = .ok (.pop, 1) := by decide +kernel
theorem dX10_wearer_107 : decode cX10_wearer 107 = .ok (.aload_n 0, 1) := by decide +kernel
theorem dX10_wearer_108 : decode cX10_wearer 108 = .ok (.getfield 9, 3) := by decide +kernel
theorem dX10_wearer_111 : decode cX10_wearer 111 = .ok (.bipush 78, 2) := by decide +kernel
theorem dX10_wearer_113 : decode cX10_wearer 113 = .ok (.dup2, 1) := by decide +kernel
theorem dX10_wearer_114 : decode cX10_wearer 114 = .ok (.iaload, 1) := by decide +kernel
theorem dX10_wearer_115 : decode cX10_wearer 115 = .ok (.iconst 1, 1) := by decide +kernel
theorem dX10_wearer_116 : decode cX10_wearer 116 = .ok (.iadd, 1) := by decide +kernel
theorem dX10_wearer_117 : decode cX10_wearer 117 = .ok (.iastore, 1) := by decide +kernel
theorem dX10_wearer_118 : decode cX10_wearer 118 = .ok (.iload 4, 2) := by decide +kernel
theorem dX10_wearer_120 : decode cX10_wearer 120 = .ok (.ireturn, 1) := by decide +kernel
theorem dX10_of_0 : decode cX10_of 0 = .ok (.aload_n 0, 1) := by decide +kernel
theorem dX10_of_1 : decode cX10_of 1 = .ok (.iload_n 1, 1) := by decide +kernel
theorem dX10_of_2 : decode cX10_of 2 = .ok (.invokevirtual 97, 3) := by decide +kernel
theorem dX10_of_5 : decode cX10_of 5 = .ok (.ifCond .ne 7, 3) := by decide +kernel
theorem dX10_of_8 : decode cX10_of 8 = .ok (.sipush (-10001), 3) := by decide +kernel
theorem dX10_of_11 : decode cX10_of 11 = .ok (.ireturn, 1) := by decide +kernel
theorem dX10_of_12 : decode cX10_of 12 = .ok (.iload_n 2, 1) := by decide +kernel
theorem dX10_of_13 : decode cX10_of 13 = .ok (.iconst 0, 1) := by decide +kernel
theorem dX10_of_14 : decode cX10_of 14 = .ok (.iconst 4, 1) := by decide +kernel
theorem dX10_of_15 : decode cX10_of 15 = .ok (.invokestatic 82, 3) := by decide +kernel
theorem dX10_of_18 : decode cX10_of 18 = .ok (.ifCond .eq 10, 3) := by decide +kernel
theorem dX10_of_21 : decode cX10_of 21 = .ok (.aload_n 0, 1) := by decide +kernel
theorem dX10_of_22 : decode cX10_of 22 = .ok (.iload_n 1, 1) := by decide +kernel
theorem dX10_of_23 : decode cX10_of 23 = .ok (.iload_n 2, 1) := by decide +kernel
theorem dX10_of_24 : decode cX10_of 24 = .ok (.invokevirtual 86, 3) := by decide +kernel
theorem dX10_of_27 : decode cX10_of 27 = .ok (.ireturn, 1) := by decide +kernel
theorem dX10_of_28 : decode cX10_of 28 = .ok (.iload_n 2, 1) := by decide +kernel
theorem dX10_of_29 : decode cX10_of 29 = .ok (.iconst 5, 1) := by decide +kernel
theorem dX10_of_30 : decode cX10_of 30 = .ok (.if_icmp .ne 11, 3) := by decide +kernel
theorem dX10_of_33 : decode cX10_of 33 = .ok (.aload_n 0, 1) := by decide +kernel
theorem dX10_of_34 : decode cX10_of 34 = .ok (.iload_n 1, 1) := by decide +kernel
theorem dX10_of_35 : decode cX10_of 35 = .ok (.invokevirtual 101, 3) := by decide +kernel
theorem dX10_of_38 : decode cX10_of 38 = .ok (.goto 60, 3) := by decide +kernel
theorem dX10_of_41 : decode cX10_of 41 = .ok (.iload_n 2, 1) := by decide +kernel
theorem dX10_of_42 : decode cX10_of 42 = .ok (.bipush 6, 2) := by decide +kernel
theorem dX10_of_44 : decode cX10_of 44 = .ok (.if_icmp .eq 9, 3) := by decide +kernel
theorem dX10_of_47 : decode cX10_of 47 = .ok (.iload_n 2, 1) := by decide +kernel
theorem dX10_of_48 : decode cX10_of 48 = .ok (.bipush 7, 2) := by decide +kernel
theorem dX10_of_50 : decode cX10_of 50 = .ok (.if_icmp .ne 22, 3) := by decide +kernel
theorem dX10_of_53 : decode cX10_of 53 = .ok (.aload_n 0, 1) := by decide +kernel
theorem dX10_of_54 : decode cX10_of 54 = .ok (.iload_n 1, 1) := by decide +kernel
theorem dX10_of_55 : decode cX10_of 55 = .ok (.iload_n 2, 1) := by decide +kernel
theorem dX10_of_56 : decode cX10_of 56 = .ok (.bipush 6, 2) := by decide +kernel
theorem dX10_of_58 : decode cX10_of 58 = .ok (.if_icmp .ne 7, 3) := by decide +kernel
theorem dX10_of_61 : decode cX10_of 61 = .ok (.iconst 1, 1) := by decide +kernel
theorem dX10_of_62 : decode cX10_of 62 = .ok (.goto 4, 3) := by decide +kernel
theorem dX10_of_65 : decode cX10_of 65 = .ok (.iconst 0, 1) := by decide +kernel
theorem dX10_of_66 : decode cX10_of 66 = .ok (.invokevirtual 105, 3) := by decide +kernel
theorem dX10_of_69 : decode cX10_of 69 = .ok (.goto 29, 3) := by decide +kernel
theorem dX10_of_72 : decode cX10_of 72 = .ok (.aload_n 0, 1) := by decide +kernel
theorem dX10_of_73 : decode cX10_of 73 = .ok (.iload_n 2, 1) := by decide +kernel
theorem dX10_of_74 : decode cX10_of 74 = .ok (.bipush 10, 2) := by decide +kernel
theorem dX10_of_76 : decode cX10_of 76 = .ok (.isub, 1) := by decide +kernel
theorem dX10_of_77 : decode cX10_of 77 = .ok (.invokevirtual 108, 3) := by decide +kernel
theorem dX10_of_80 : decode cX10_of 80 = .ok (.ifCond .eq 15, 3) := by decide +kernel
theorem dX10_of_83 : decode cX10_of 83 = .ok (.aload_n 0, 1) := by decide +kernel
theorem dX10_of_84 : decode cX10_of 84 = .ok (.iload_n 1, 1) := by decide +kernel
theorem dX10_of_85 : decode cX10_of 85 = .ok (.iload_n 2, 1) := by decide +kernel
theorem dX10_of_86 : decode cX10_of 86 = .ok (.bipush 10, 2) := by decide +kernel
theorem dX10_of_88 : decode cX10_of 88 = .ok (.isub, 1) := by decide +kernel
theorem dX10_of_89 : decode cX10_of 89 = .ok (.invokevirtual 111, 3) := by decide +kernel
theorem dX10_of_92 : decode cX10_of 92 = .ok (.goto 6, 3) := by decide +kernel
theorem dX10_of_95 : decode cX10_of 95 = .ok (.sipush (-10001), 3) := by decide +kernel
theorem dX10_of_98 : decode cX10_of 98 = .ok (.ireturn, 1) := by decide +kernel
theorem dX10_saying_0 : decode cX10_saying 0 = .ok (.iload_n 1, 1) := by decide +kernel
theorem dX10_saying_1 : decode cX10_saying 1 = .ok (.iconst 0, 1) := by decide +kernel
theorem dX10_saying_2 : decode cX10_saying 2 = .ok (.bipush 60, 2) := by decide +kernel
theorem dX10_saying_4 : decode cX10_saying 4 = .ok (.invokestatic 82, 3) := by decide +kernel
theorem dX10_saying_7 : decode cX10_saying 7 = .ok (.ifCond .eq 13, 3) := by decide +kernel
theorem dX10_saying_10 : decode cX10_saying 10 = .ok (.iload_n 2, 1) := by decide +kernel
theorem dX10_saying_11 : decode cX10_saying 11 = .ok (.iconst 1, 1) := by decide +kernel
theorem dX10_saying_12 : decode cX10_saying 12 = .ok (.bipush 9, 2) := by decide +kernel
theorem dX10_saying_14 : decode cX10_saying 14 = .ok (.invokestatic 82, 3) := by decide +kernel
theorem dX10_saying_17 : decode cX10_saying 17 = .ok (.ifCond .ne 6, 3) := by decide +kernel
theorem dX10_saying_20 : decode cX10_saying 20 = .ok (.bipush (-2), 2) := by decide +kernel
theorem dX10_saying_22 : decode cX10_saying 22 = .ok (.ireturn, 1) := by decide +kernel
theorem dX10_saying_23 : decode cX10_saying 23 = .ok (.aload_n 0, 1) := by decide +kernel
theorem dX10_saying_24 : decode cX10_saying 24 = .ok (.getfield 9, 3) := by decide +kernel
theorem dX10_saying_27 : decode cX10_saying 27 = .ok (.bipush 79, 2) := by decide +kernel
theorem dX10_saying_29 : decode cX10_saying 29 = .ok (.iaload, 1) := by decide +kernel
theorem dX10_saying_30 : decode cX10_saying 30 = .ok (.istore_n 3, 1) := by decide +kernel
theorem dX10_saying_31 : decode cX10_saying 31 = .ok (.iload_n 3, 1) := by decide +kernel
theorem dX10_saying_32 : decode cX10_saying 32 = .ok (.bipush 8, 2) := by decide +kernel
theorem dX10_saying_34 : decode cX10_saying 34 = .ok (.if_icmp .ne 6, 3) := by decide +kernel
theorem dX10_saying_37 : decode cX10_saying 37 = .ok (.bipush (-4), 2) := by decide +kernel
theorem dX10_saying_39 : decode cX10_saying 39 = .ok (.ireturn, 1) := by decide +kernel
theorem dX10_saying_40 : decode cX10_saying 40 = .ok (.aload_n 0, 1) := by decide +kernel
theorem dX10_saying_41 : decode cX10_saying 41 = .ok (.getfield 9, 3) := by decide +kernel
theorem dX10_saying_44 : decode cX10_saying 44 = .ok (.bipush 54, 2) := by decide +kernel
theorem dX10_saying_46 : decode cX10_saying 46 = .ok (.iconst 3, 1) := by decide +kernel
theorem dX10_saying_47 : decode cX10_saying 47 = .ok (.iload_n 3, 1) := by decide +kernel
theorem dX10_saying_48 : decode cX10_saying 48 = .ok (.imul, 1) := by decide +kernel
theorem dX10_saying_49 : decode cX10_saying 49 = .ok (.iadd, 1) := by decide +kernel
theorem dX10_saying_50 : decode cX10_saying 50 = .ok (.iload_n 1, 1) := by decide +kernel
theorem dX10_saying_51 : decode cX10_saying 51 = .ok (.iastore, 1) := by decide +kernel
theorem dX10_saying_52 : decode cX10_saying 52 = .ok (.aload_n 0, 1) := by decide +kernel
theorem dX10_saying_53 : decode cX10_saying 53 = .ok (.getfield 9, 3) := by decide +kernel
theorem dX10_saying_56 : decode cX10_saying 56 = .ok (.bipush 54, 2) := by decide +kernel
theorem dX10_saying_58 : decode cX10_saying 58 = .ok (.iconst 3, 1) := by decide +kernel
theorem dX10_saying_59 : decode cX10_saying 59 = .ok (.iload_n 3, 1) := by decide +kernel
theorem dX10_saying_60 : decode cX10_saying 60 = .ok (.imul, 1) := by decide +kernel
theorem dX10_saying_61 : decode cX10_saying 61 = .ok (.iadd, 1) := by decide +kernel
theorem dX10_saying_62 : decode cX10_saying 62 = .ok (.iconst 1, 1) := by decide +kernel
theorem dX10_saying_63 : decode cX10_saying 63 = .ok (.iadd, 1) := by decide +kernel
theorem dX10_saying_64 : decode cX10_saying 64 = .ok (.iload_n 2, 1) := by decide +kernel
theorem dX10_saying_65 : decode cX10_saying 65 = .ok (.iastore, 1) := by decide +kernel
theorem dX10_saying_66 : decode cX10_saying 66 = .ok (.aload_n 0, 1) := by decide +kernel
theorem dX10_saying_67 : decode cX10_saying 67 = .ok (.iload_n 3, 1) := by decide +kernel
theorem dX10_saying_68 : decode cX10_saying 68 = .ok (.iconst (-1), 1) := by decide +kernel
theorem dX10_saying_69 : decode cX10_saying 69 = .ok (.invokevirtual 114, 3) := by decide +kernel
theorem dX10_saying_72 : decode cX10_saying 72 = .ok (.pop, 1) := by decide +kernel
theorem dX10_saying_73 : decode cX10_saying 73 = .ok (.aload_n 0, 1) := by decide +kernel
theorem dX10_saying_74 : decode cX10_saying 74 = .ok (.getfield 9, 3) := by decide +kernel
theorem dX10_saying_77 : decode cX10_saying 77 = .ok (.bipush 79, 2) := by decide +kernel
theorem dX10_saying_79 : decode cX10_saying 79 = .ok (.dup2, 1) := by decide +kernel
theorem dX10_saying_80 : decode cX10_saying 80 = .ok (.iaload, 1) := by decide +kernel
theorem dX10_saying_81 : decode cX10_saying 81 = .ok (.iconst 1, 1) := by decide +kernel
theorem dX10_saying_82 : decode cX10_saying 82 = .ok (.iadd, 1) := by decide +kernel
theorem dX10_saying_83 : decode cX10_saying 83 = .ok (.iastore, 1) := by decide +kernel
theorem dX10_saying_84 : decode cX10_saying 84 = .ok (.iload_n 3, 1) := by decide +kernel
theorem dX10_saying_85 : decode cX10_saying 85 = .ok (.ireturn, 1) := by decide +kernel
theorem dX10_phrase_0 : decode cX10_phrase 0 = .ok (.aload_n 0, 1) := by decide +kernel
theorem dX10_phrase_1 : decode cX10_phrase 1 = .ok (.iload_n 1, 1) := by decide +kernel
theorem dX10_phrase_2 : decode cX10_phrase 2 = .ok (.invokevirtual 108, 3) := by decide +kernel
theorem dX10_phrase_5 : decode cX10_phrase 5 = .ok (.ifCond .eq 12, 3) := by decide +kernel
theorem dX10_phrase_8 : decode cX10_phrase 8 = .ok (.iload_n 2, 1) := by decide +kernel
theorem dX10_phrase_9 : decode cX10_phrase 9 = .ok (.iconst 0, 1) := by decide +kernel
theorem dX10_phrase_10 : decode cX10_phrase 10 = .ok (.iconst 2, 1) := by decide +kernel
theorem dX10_phrase_11 : decode cX10_phrase 11 = .ok (.invokestatic 82, 3) := by decide +kernel
theorem dX10_phrase_14 : decode cX10_phrase 14 = .ok (.ifCond .ne 5, 3) := by decide +kernel
theorem dX10_phrase_17 : decode cX10_phrase 17 = .ok (.iconst (-1), 1) := by decide +kernel
theorem dX10_phrase_18 : decode cX10_phrase 18 = .ok (.ireturn, 1) := by decide +kernel
theorem dX10_phrase_19 : decode cX10_phrase 19 = .ok (.iload_n 2, 1) := by decide +kernel
theorem dX10_phrase_20 : decode cX10_phrase 20 = .ok (.iconst 2, 1) := by decide +kernel
theorem dX10_phrase_21 : decode cX10_phrase 21 = .ok (.if_icmp .ne 15, 3) := by decide +kernel
theorem dX10_phrase_24 : decode cX10_phrase 24 = .ok (.aload_n 0, 1) := by decide +kernel
theorem dX10_phrase_25 : decode cX10_phrase 25 = .ok (.iload_n 1, 1) := by decide +kernel
theorem dX10_phrase_26 : decode cX10_phrase 26 = .ok (.iconst 2, 1) := by decide +kernel
theorem dX10_phrase_27 : decode cX10_phrase 27 = .ok (.invokevirtual 90, 3) := by decide +kernel
theorem dX10_phrase_30 : decode cX10_phrase 30 = .ok (.invokestatic 117, 3) := by decide +kernel
theorem dX10_phrase_33 : decode cX10_phrase 33 = .ok (.goto 9, 3) := by decide +kernel
theorem dX10_phrase_36 : decode cX10_phrase 36 = .ok (.aload_n 0, 1) := by decide +kernel
theorem dX10_phrase_37 : decode cX10_phrase 37 = .ok (.iload_n 1, 1) := by decide +kernel
theorem dX10_phrase_38 : decode cX10_phrase 38 = .ok (.iload_n 2, 1) := by decide +kernel
theorem dX10_phrase_39 : decode cX10_phrase 39 = .ok (.invokevirtual 90, 3) := by decide +kernel
theorem dX10_phrase_42 : decode cX10_phrase 42 = .ok (.ireturn, 1) := by decide +kernel
theorem dX10_aim_0 : decode cX10_aim 0 = .ok (.aload_n 0, 1) := by decide +kernel
theorem dX10_aim_1 : decode cX10_aim 1 = .ok (.iload_n 1, 1) := by decide +kernel
theorem dX10_aim_2 : decode cX10_aim 2 = .ok (.invokevirtual 108, 3) := by decide +kernel
theorem dX10_aim_5 : decode cX10_aim 5 = .ok (.ifCond .eq 28, 3) := by decide +kernel
theorem dX10_aim_8 : decode cX10_aim 8 = .ok (.iload_n 2, 1) := by decide +kernel
theorem dX10_aim_9 : decode cX10_aim 9 = .ok (.iconst (-1), 1) := by decide +kernel
theorem dX10_aim_10 : decode cX10_aim 10 = .ok (.if_icmp .eq 11, 3) := by decide +kernel
theorem dX10_aim_13 : decode cX10_aim 13 = .ok (.aload_n 0, 1) := by decide +kernel
theorem dX10_aim_14 : decode cX10_aim 14 = .ok (.iload_n 2, 1) := by decide +kernel
theorem dX10_aim_15 : decode cX10_aim 15 = .ok (.invokevirtual 97, 3) := by decide +kernel
theorem dX10_aim_18 : decode cX10_aim 18 = .ok (.ifCond .eq 15, 3) := by decide +kernel
theorem dX10_aim_21 : decode cX10_aim 21 = .ok (.aload_n 0, 1) := by decide +kernel
theorem dX10_aim_22 : decode cX10_aim 22 = .ok (.iload_n 1, 1) := by decide +kernel
theorem dX10_aim_23 : decode cX10_aim 23 = .ok (.iload_n 2, 1) := by decide +kernel
theorem dX10_aim_24 : decode cX10_aim 24 = .ok (.invokevirtual 114, 3) := by decide +kernel
theorem dX10_aim_27 : decode cX10_aim 27 = .ok (.invokestatic 117, 3) := by decide +kernel
theorem dX10_aim_30 : decode cX10_aim 30 = .ok (.goto 4, 3) := by decide +kernel
theorem dX10_aim_33 : decode cX10_aim 33 = .ok (.iconst (-1), 1) := by decide +kernel
theorem dX10_aim_34 : decode cX10_aim 34 = .ok (.ireturn, 1) := by decide +kernel
theorem dX10_mend_0 : decode cX10_mend 0 = .ok (.aload_n 0, 1) := by decide +kernel
theorem dX10_mend_1 : decode cX10_mend 1 = .ok (.iload_n 1, 1) := by decide +kernel
theorem dX10_mend_2 : decode cX10_mend 2 = .ok (.invokevirtual 97, 3) := by decide +kernel
theorem dX10_mend_5 : decode cX10_mend 5 = .ok (.ifCond .ne 5, 3) := by decide +kernel
theorem dX10_mend_8 : decode cX10_mend 8 = .ok (.iconst (-1), 1) := by decide +kernel
theorem dX10_mend_9 : decode cX10_mend 9 = .ok (.ireturn, 1) := by decide +kernel
theorem dX10_mend_10 : decode cX10_mend 10 = .ok (.iload_n 2, 1) := by decide +kernel
theorem dX10_mend_11 : decode cX10_mend 11 = .ok (.iconst 0, 1) := by decide +kernel
theorem dX10_mend_12 : decode cX10_mend 12 = .ok (.bipush 99, 2) := by decide +kernel
theorem dX10_mend_14 : decode cX10_mend 14 = .ok (.invokestatic 82, 3) := by decide +kernel
theorem dX10_mend_17 : decode cX10_mend 17 = .ok (.ifCond .eq 13, 3) := by decide +kernel
theorem dX10_mend_20 : decode cX10_mend 20 = .ok (.aload_n 0, 1) := by decide +kernel
theorem dX10_mend_21 : decode cX10_mend 21 = .ok (.iload_n 1, 1) := by decide +kernel
theorem dX10_mend_22 : decode cX10_mend 22 = .ok (.iconst 2, 1) := by decide +kernel
theorem dX10_mend_23 : decode cX10_mend 23 = .ok (.iload_n 2, 1) := by decide +kernel
theorem dX10_mend_24 : decode cX10_mend 24 = .ok (.invokevirtual 93, 3) := by decide +kernel
theorem dX10_mend_27 : decode cX10_mend 27 = .ok (.goto 5, 3) := by decide +kernel
theorem dX10_mend_30 : decode cX10_mend 30 = .ok (.bipush (-2), 2) := by decide +kernel
theorem dX10_mend_32 : decode cX10_mend 32 = .ok (.ireturn, 1) := by decide +kernel
theorem dX10_row_0 : decode cX10_row 0 = .ok (.aload_n 0, 1) := by decide +kernel
theorem dX10_row_1 : decode cX10_row 1 = .ok (.iload_n 1, 1) := by decide +kernel
theorem dX10_row_2 : decode cX10_row 2 = .ok (.invokevirtual 97, 3) := by decide +kernel
theorem dX10_row_5 : decode cX10_row 5 = .ok (.ifCond .eq 12, 3) := by decide +kernel
theorem dX10_row_8 : decode cX10_row 8 = .ok (.iload_n 2, 1) := by decide +kernel
theorem dX10_row_9 : decode cX10_row 9 = .ok (.iconst 0, 1) := by decide +kernel
theorem dX10_row_10 : decode cX10_row 10 = .ok (.iconst 3, 1) := by decide +kernel
theorem dX10_row_11 : decode cX10_row 11 = .ok (.invokestatic 82, 3) := by decide +kernel
theorem dX10_row_14 : decode cX10_row 14 = .ok (.ifCond .ne 5, 3) := by decide +kernel
theorem dX10_row_17 : decode cX10_row 17 = .ok (.iconst (-1), 1) := by decide +kernel
theorem dX10_row_18 : decode cX10_row 18 = .ok (.ireturn, 1) := by decide +kernel
theorem dX10_row_19 : decode cX10_row 19 = .ok (.iload_n 3, 1) := by decide +kernel
theorem dX10_row_20 : decode cX10_row 20 = .ok (.iconst 0, 1) := by decide +kernel
theorem dX10_row_21 : decode cX10_row 21 = .ok (.bipush 9, 2) := by decide +kernel
theorem dX10_row_23 : decode cX10_row 23 = .ok (.invokestatic 82, 3) := by decide +kernel
theorem dX10_row_26 : decode cX10_row 26 = .ok (.ifCond .ne 6, 3) := by decide +kernel
theorem dX10_row_29 : decode cX10_row 29 = .ok (.bipush (-2), 2) := by decide +kernel
theorem dX10_row_31 : decode cX10_row 31 = .ok (.ireturn, 1) := by decide +kernel
theorem dX10_row_32 : decode cX10_row 32 = .ok (.aload_n 0, 1) := by decide +kernel
theorem dX10_row_33 : decode cX10_row 33 = .ok (.iload_n 1, 1) := by decide +kernel
theorem dX10_row_34 : decode cX10_row 34 = .ok (.iconst 0, 1) := by decide +kernel
theorem dX10_row_35 : decode cX10_row 35 = .ok (.invokevirtual 86, 3) := by decide +kernel
theorem dX10_row_38 : decode cX10_row 38 = .ok (.bipush 6, 2) := by decide +kernel
theorem dX10_row_40 : decode cX10_row 40 = .ok (.if_icmp .ne 15, 3) := by decide +kernel
theorem dX10_row_43 : decode cX10_row 43 = .ok (.aload_n 0, 1) := by decide +kernel
theorem dX10_row_44 : decode cX10_row 44 = .ok (.iload_n 1, 1) := by decide +kernel
theorem dX10_row_45 : decode cX10_row 45 = .ok (.iconst 5, 1) := by decide +kernel
theorem dX10_row_46 : decode cX10_row 46 = .ok (.iload_n 2, 1) := by decide +kernel
theorem dX10_row_47 : decode cX10_row 47 = .ok (.iadd, 1) := by decide +kernel
theorem dX10_row_48 : decode cX10_row 48 = .ok (.iload_n 3, 1) := by decide +kernel
theorem dX10_row_49 : decode cX10_row 49 = .ok (.invokevirtual 93, 3) := by decide +kernel
theorem dX10_row_52 : decode cX10_row 52 = .ok (.goto 5, 3) := by decide +kernel
theorem dX10_row_55 : decode cX10_row 55 = .ok (.bipush (-3), 2) := by decide +kernel
theorem dX10_row_57 : decode cX10_row 57 = .ok (.ireturn, 1) := by decide +kernel
theorem dX10_feed_0 : decode cX10_feed 0 = .ok (.iload_n 1, 1) := by decide +kernel
theorem dX10_feed_1 : decode cX10_feed 1 = .ok (.iconst 0, 1) := by decide +kernel
theorem dX10_feed_2 : decode cX10_feed 2 = .ok (.bipush 127, 2) := by decide +kernel
theorem dX10_feed_4 : decode cX10_feed 4 = .ok (.invokestatic 82, 3) := by decide +kernel
theorem dX10_feed_7 : decode cX10_feed 7 = .ok (.ifCond .ne 6, 3) := by decide +kernel
theorem dX10_feed_10 : decode cX10_feed 10 = .ok (.bipush (-2), 2) := by decide +kernel
theorem dX10_feed_12 : decode cX10_feed 12 = .ok (.ireturn, 1) := by decide +kernel
theorem dX10_feed_13 : decode cX10_feed 13 = .ok (.aload_n 0, 1) := by decide +kernel
theorem dX10_feed_14 : decode cX10_feed 14 = .ok (.getfield 120, 3) := by decide +kernel
theorem dX10_feed_17 : decode cX10_feed 17 = .ok (.bipush 100, 2) := by decide +kernel
theorem dX10_feed_19 : decode cX10_feed 19 = .ok (.if_icmp .ne 6, 3) := by decide +kernel
theorem dX10_feed_22 : decode cX10_feed 22 = .ok (.bipush (-4), 2) := by decide +kernel
theorem dX10_feed_24 : decode cX10_feed 24 = .ok (.ireturn, 1) := by decide +kernel
theorem dX10_feed_25 : decode cX10_feed 25 = .ok (.aload_n 0, 1) := by decide +kernel
theorem dX10_feed_26 : decode cX10_feed 26 = .ok (.getfield 21, 3) := by decide +kernel
theorem dX10_feed_29 : decode cX10_feed 29 = .ok (.aload_n 0, 1) := by decide +kernel
theorem dX10_feed_30 : decode cX10_feed 30 = .ok (.getfield 120, 3) := by decide +kernel
theorem dX10_feed_33 : decode cX10_feed 33 = .ok (.iload_n 1, 1) := by decide +kernel
theorem dX10_feed_34 : decode cX10_feed 34 = .ok (.iastore, 1) := by decide +kernel
theorem dX10_feed_35 : decode cX10_feed 35 = .ok (.aload_n 0, 1) := by decide +kernel
theorem dX10_feed_36 : decode cX10_feed 36 = .ok (.dup, 1) := by decide +kernel
theorem dX10_feed_37 : decode cX10_feed 37 = .ok (.getfield 120, 3) := by decide +kernel
theorem dX10_feed_40 : decode cX10_feed 40 = .ok (.iconst 1, 1) := by decide +kernel
theorem dX10_feed_41 : decode cX10_feed 41 = .ok (.iadd, 1) := by decide +kernel
theorem dX10_feed_42 : decode cX10_feed 42 = .ok (.putfield 120, 3) := by decide +kernel
theorem dX10_feed_45 : decode cX10_feed 45 = .ok (.aload_n 0, 1) := by decide +kernel
theorem dX10_feed_46 : decode cX10_feed 46 = .ok (.getfield 120, 3) := by decide +kernel
theorem dX10_feed_49 : decode cX10_feed 49 = .ok (.ireturn, 1) := by decide +kernel
theorem dX10_isAt_0 : decode cX10_isAt 0 = .ok (.aload_n 0, 1) := by decide +kernel
theorem dX10_isAt_1 : decode cX10_isAt 1 = .ok (.getfield 124, 3) := by decide +kernel
theorem dX10_isAt_4 : decode cX10_isAt 4 = .ok (.ifCond .eq 31, 3) := by decide +kernel
theorem dX10_isAt_7 : decode cX10_isAt 7 = .ok (.aload_n 0, 1) := by decide +kernel
theorem dX10_isAt_8 : decode cX10_isAt 8 = .ok (.getfield 127, 3) := by decide +kernel
theorem dX10_isAt_11 : decode cX10_isAt 11 = .ok (.aload_n 0, 1) := by decide +kernel
theorem dX10_isAt_12 : decode cX10_isAt 12 = .ok (.getfield 130, 3) := by decide +kernel
theorem dX10_isAt_15 : decode cX10_isAt 15 = .ok (.if_icmp .ge 20, 3) := by decide +kernel
theorem dX10_isAt_18 : decode cX10_isAt 18 = .ok (.aload_n 0, 1) := by decide +kernel
theorem dX10_isAt_19 : decode cX10_isAt 19 = .ok (.getfield 30, 3) := by decide +kernel
theorem dX10_isAt_22 : decode cX10_isAt 22 = .ok (.aload_n 0, 1) := by decide +kernel
theorem dX10_isAt_23 : decode cX10_isAt 23 = .ok (.getfield 127, 3) := by decide +kernel
theorem dX10_isAt_26 : decode cX10_isAt 26 = .ok (.iaload, 1) := by decide +kernel
theorem dX10_isAt_27 : decode cX10_isAt 27 = .ok (.iload_n 1, 1) := by decide +kernel
theorem dX10_isAt_28 : decode cX10_isAt 28 = .ok (.if_icmp .ne 7, 3) := by decide +kernel
theorem dX10_isAt_31 : decode cX10_isAt 31 = .ok (.iconst 1, 1) := by decide +kernel
theorem dX10_isAt_32 : decode cX10_isAt 32 = .ok (.goto 4, 3) := by decide +kernel
theorem dX10_isAt_35 : decode cX10_isAt 35 = .ok (.iconst 0, 1) := by decide +kernel
theorem dX10_isAt_36 : decode cX10_isAt 36 = .ok (.ireturn, 1) := by decide +kernel
theorem dX10_takes_0 : decode cX10_takes 0 = .ok (.aload_n 0, 1) := by decide +kernel
theorem dX10_takes_1 : decode cX10_takes 1 = .ok (.iload_n 1, 1) := by decide +kernel
theorem dX10_takes_2 : decode cX10_takes 2 = .ok (.invokevirtual 133, 3) := by decide +kernel
theorem dX10_takes_5 : decode cX10_takes 5 = .ok (.ifCond .eq 16, 3) := by decide +kernel
theorem dX10_takes_8 : decode cX10_takes 8 = .ok (.aload_n 0, 1) := by decide +kernel
theorem dX10_takes_9 : decode cX10_takes 9 = .ok (.dup, 1) := by decide +kernel
theorem dX10_takes_10 : decode cX10_takes 10 = .ok (.getfield 127, 3) := by decide +kernel
theorem dX10_takes_13 : decode cX10_takes 13 = .ok (.iconst 1, 1) := by decide +kernel
theorem dX10_takes_14 : decode cX10_takes 14 = .ok (.iadd, 1) := by decide +kernel
theorem dX10_takes_15 : decode cX10_takes 15 = .ok (.putfield 127, 3) := by decide +kernel
theorem dX10_takes_18 : decode cX10_takes 18 = .ok (.goto 8, 3) := by decide +kernel
theorem dX10_takes_21 : decode cX10_takes 21 = .ok (.aload_n 0, 1) := by decide +kernel
theorem dX10_takes_22 : decode cX10_takes 22 = .ok (.iconst 0, 1) := by decide +kernel
theorem dX10_takes_23 : decode cX10_takes 23 = .ok (.putfield 124, 3) := by decide +kernel
theorem dX10_takes_26 : decode cX10_takes 26 = .ok (.return_, 1) := by decide +kernel
theorem dX10_isDigit_0 : decode cX10_isDigit 0 = .ok (.aload_n 0, 1) := by decide +kernel
theorem dX10_isDigit_1 : decode cX10_isDigit 1 = .ok (.getfield 124, 3) := by decide +kernel
theorem dX10_isDigit_4 : decode cX10_isDigit 4 = .ok (.ifCond .eq 46, 3) := by decide +kernel
theorem dX10_isDigit_7 : decode cX10_isDigit 7 = .ok (.aload_n 0, 1) := by decide +kernel
theorem dX10_isDigit_8 : decode cX10_isDigit 8 = .ok (.getfield 127, 3) := by decide +kernel
theorem dX10_isDigit_11 : decode cX10_isDigit 11 = .ok (.aload_n 0, 1) := by decide +kernel
theorem dX10_isDigit_12 : decode cX10_isDigit 12 = .ok (.getfield 130, 3) := by decide +kernel
theorem dX10_isDigit_15 : decode cX10_isDigit 15 = .ok (.if_icmp .ge 35, 3) := by decide +kernel
theorem dX10_isDigit_18 : decode cX10_isDigit 18 = .ok (.aload_n 0, 1) := by decide +kernel
theorem dX10_isDigit_19 : decode cX10_isDigit 19 = .ok (.getfield 30, 3) := by decide +kernel
theorem dX10_isDigit_22 : decode cX10_isDigit 22 = .ok (.aload_n 0, 1) := by decide +kernel
theorem dX10_isDigit_23 : decode cX10_isDigit 23 = .ok (.getfield 127, 3) := by decide +kernel
theorem dX10_isDigit_26 : decode cX10_isDigit 26 = .ok (.iaload, 1) := by decide +kernel
theorem dX10_isDigit_27 : decode cX10_isDigit 27 = .ok (.bipush 48, 2) := by decide +kernel
theorem dX10_isDigit_29 : decode cX10_isDigit 29 = .ok (.if_icmp .lt 21, 3) := by decide +kernel
theorem dX10_isDigit_32 : decode cX10_isDigit 32 = .ok (.aload_n 0, 1) := by decide +kernel
theorem dX10_isDigit_33 : decode cX10_isDigit 33 = .ok (.getfield 30, 3) := by decide +kernel
theorem dX10_isDigit_36 : decode cX10_isDigit 36 = .ok (.aload_n 0, 1) := by decide +kernel
theorem dX10_isDigit_37 : decode cX10_isDigit 37 = .ok (.getfield 127, 3) := by decide +kernel
theorem dX10_isDigit_40 : decode cX10_isDigit 40 = .ok (.iaload, 1) := by decide +kernel
theorem dX10_isDigit_41 : decode cX10_isDigit 41 = .ok (.bipush 57, 2) := by decide +kernel
theorem dX10_isDigit_43 : decode cX10_isDigit 43 = .ok (.if_icmp .gt 7, 3) := by decide +kernel
theorem dX10_isDigit_46 : decode cX10_isDigit 46 = .ok (.iconst 1, 1) := by decide +kernel
theorem dX10_isDigit_47 : decode cX10_isDigit 47 = .ok (.goto 4, 3) := by decide +kernel
theorem dX10_isDigit_50 : decode cX10_isDigit 50 = .ok (.iconst 0, 1) := by decide +kernel
theorem dX10_isDigit_51 : decode cX10_isDigit 51 = .ok (.ireturn, 1) := by decide +kernel
theorem dX10_number_0 : decode cX10_number 0 = .ok (.aload_n 0, 1) := by decide +kernel
theorem dX10_number_1 : decode cX10_number 1 = .ok (.invokevirtual 136, 3) := by decide +kernel
theorem dX10_number_4 : decode cX10_number 4 = .ok (.ifCond .ne 10, 3) := by decide +kernel
theorem dX10_number_7 : decode cX10_number 7 = .ok (.aload_n 0, 1) := by decide +kernel
theorem dX10_number_8 : decode cX10_number 8 = .ok (.iconst 0, 1) := by decide +kernel
theorem dX10_number_9 : decode cX10_number 9 = .ok (.putfield 124, 3) := by decide +kernel
theorem dX10_number_12 : decode cX10_number 12 = .ok (.iconst 0, 1) := by decide +kernel
theorem dX10_number_13 : decode cX10_number 13 = .ok (.ireturn, 1) := by decide +kernel
theorem dX10_number_14 : decode cX10_number 14 = .ok (.aload_n 0, 1) := by decide +kernel
theorem dX10_number_15 : decode cX10_number 15 = .ok (.getfield 30, 3) := by decide +kernel
theorem dX10_number_18 : decode cX10_number 18 = .ok (.aload_n 0, 1) := by decide +kernel
theorem dX10_number_19 : decode cX10_number 19 = .ok (.getfield 127, 3) := by decide +kernel
theorem dX10_number_22 : decode cX10_number 22 = .ok (.iaload, 1) := by decide +kernel
theorem dX10_number_23 : decode cX10_number 23 = .ok (.bipush 48, 2) := by decide +kernel
theorem dX10_number_25 : decode cX10_number 25 = .ok (.isub, 1) := by decide +kernel
theorem dX10_number_26 : decode cX10_number 26 = .ok (.istore_n 1, 1) := by decide +kernel
theorem dX10_number_27 : decode cX10_number 27 = .ok (.aload_n 0, 1) := by decide +kernel
theorem dX10_number_28 : decode cX10_number 28 = .ok (.dup, 1) := by decide +kernel
theorem dX10_number_29 : decode cX10_number 29 = .ok (.getfield 127, 3) := by decide +kernel
theorem dX10_number_32 : decode cX10_number 32 = .ok (.iconst 1, 1) := by decide +kernel
theorem dX10_number_33 : decode cX10_number 33 = .ok (.iadd, 1) := by decide +kernel
theorem dX10_number_34 : decode cX10_number 34 = .ok (.putfield 127, 3) := by decide +kernel
theorem dX10_number_37 : decode cX10_number 37 = .ok (.aload_n 0, 1) := by decide +kernel
theorem dX10_number_38 : decode cX10_number 38 = .ok (.invokevirtual 136, 3) := by decide +kernel
theorem dX10_number_41 : decode cX10_number 41 = .ok (.ifCond .eq 31, 3) := by decide +kernel
theorem dX10_number_44 : decode cX10_number 44 = .ok (.bipush 10, 2) := by decide +kernel
theorem dX10_number_46 : decode cX10_number 46 = .ok (.iload_n 1, 1) := by decide +kernel
theorem dX10_number_47 : decode cX10_number 47 = .ok (.imul, 1) := by decide +kernel
theorem dX10_number_48 : decode cX10_number 48 = .ok (.aload_n 0, 1) := by decide +kernel
theorem dX10_number_49 : decode cX10_number 49 = .ok (.getfield 30, 3) := by decide +kernel
theorem dX10_number_52 : decode cX10_number 52 = .ok (.aload_n 0, 1) := by decide +kernel
theorem dX10_number_53 : decode cX10_number 53 = .ok (.getfield 127, 3) := by decide +kernel
theorem dX10_number_56 : decode cX10_number 56 = .ok (.iaload, 1) := by decide +kernel
theorem dX10_number_57 : decode cX10_number 57 = .ok (.iadd, 1) := by decide +kernel
theorem dX10_number_58 : decode cX10_number 58 = .ok (.bipush 48, 2) := by decide +kernel
theorem dX10_number_60 : decode cX10_number 60 = .ok (.isub, 1) := by decide +kernel
theorem dX10_number_61 : decode cX10_number 61 = .ok (.istore_n 1, 1) := by decide +kernel
theorem dX10_number_62 : decode cX10_number 62 = .ok (.aload_n 0, 1) := by decide +kernel
theorem dX10_number_63 : decode cX10_number 63 = .ok (.dup, 1) := by decide +kernel
theorem dX10_number_64 : decode cX10_number 64 = .ok (.getfield 127, 3) := by decide +kernel
theorem dX10_number_67 : decode cX10_number 67 = .ok (.iconst 1, 1) := by decide +kernel
theorem dX10_number_68 : decode cX10_number 68 = .ok (.iadd, 1) := by decide +kernel
theorem dX10_number_69 : decode cX10_number 69 = .ok (.putfield 127, 3) := by decide +kernel
theorem dX10_number_72 : decode cX10_number 72 = .ok (.iload_n 1, 1) := by decide +kernel
theorem dX10_number_73 : decode cX10_number 73 = .ok (.ireturn, 1) := by decide +kernel
theorem dX10_test_0 : decode cX10_test 0 = .ok (.iconst (-1), 1) := by decide +kernel
theorem dX10_test_1 : decode cX10_test 1 = .ok (.istore_n 1, 1) := by decide +kernel
theorem dX10_test_2 : decode cX10_test 2 = .ok (.iconst 0, 1) := by decide +kernel
theorem dX10_test_3 : decode cX10_test 3 = .ok (.istore_n 2, 1) := by decide +kernel
theorem dX10_test_4 : decode cX10_test 4 = .ok (.iload_n 2, 1) := by decide +kernel
theorem dX10_test_5 : decode cX10_test 5 = .ok (.bipush 6, 2) := by decide +kernel
theorem dX10_test_7 : decode cX10_test 7 = .ok (.if_icmp .ge 28, 3) := by decide +kernel
theorem dX10_test_10 : decode cX10_test 10 = .ok (.aload_n 0, 1) := by decide +kernel
theorem dX10_test_11 : decode cX10_test 11 = .ok (.aload_n 0, 1) := by decide +kernel
theorem dX10_test_12 : decode cX10_test 12 = .ok (.getfield 36, 3) := by decide +kernel
theorem dX10_test_15 : decode cX10_test 15 = .ok (.iload_n 2, 1) := by decide +kernel
theorem dX10_test_16 : decode cX10_test 16 = .ok (.caload, 1) := by decide +kernel
theorem dX10_test_17 : decode cX10_test 17 = .ok (.invokevirtual 133, 3) := by decide +kernel
theorem dX10_test_20 : decode cX10_test 20 = .ok (.ifCond .eq 7, 3) := by decide +kernel
theorem dX10_test_23 : decode cX10_test 23 = .ok (.iload_n 2, 1) := by decide +kernel
theorem dX10_test_24 : decode cX10_test 24 = .ok (.goto 4, 3) := by decide +kernel
theorem dX10_test_27 : decode cX10_test 27 = .ok (.iload_n 1, 1) := by decide +kernel
theorem dX10_test_28 : decode cX10_test 28 = .ok (.istore_n 1, 1) := by decide +kernel
theorem dX10_test_29 : decode cX10_test 29 = .ok (.iinc 2 1, 3) := by decide +kernel
theorem dX10_test_32 : decode cX10_test 32 = .ok (.goto (-28), 3) := by decide +kernel
theorem dX10_test_35 : decode cX10_test 35 = .ok (.iload_n 1, 1) := by decide +kernel
theorem dX10_test_36 : decode cX10_test 36 = .ok (.iconst (-1), 1) := by decide +kernel
theorem dX10_test_37 : decode cX10_test 37 = .ok (.if_icmp .ne 10, 3) := by decide +kernel
theorem dX10_test_40 : decode cX10_test 40 = .ok (.aload_n 0, 1) := by decide +kernel
theorem dX10_test_41 : decode cX10_test 41 = .ok (.iconst 0, 1) := by decide +kernel
theorem dX10_test_42 : decode cX10_test 42 = .ok (.putfield 124, 3) := by decide +kernel
theorem dX10_test_45 : decode cX10_test 45 = .ok (.iconst 0, 1) := by decide +kernel
theorem dX10_test_46 : decode cX10_test 46 = .ok (.ireturn, 1) := by decide +kernel
theorem dX10_test_47 : decode cX10_test 47 = .ok (.aload_n 0, 1) := by decide +kernel
theorem dX10_test_48 : decode cX10_test 48 = .ok (.dup, 1) := by decide +kernel
theorem dX10_test_49 : decode cX10_test 49 = .ok (.getfield 127, 3) := by decide +kernel
theorem dX10_test_52 : decode cX10_test 52 = .ok (.iconst 1, 1) := by decide +kernel
theorem dX10_test_53 : decode cX10_test 53 = .ok (.iadd, 1) := by decide +kernel
theorem dX10_test_54 : decode cX10_test 54 = .ok (.putfield 127, 3) := by decide +kernel
theorem dX10_test_57 : decode cX10_test 57 = .ok (.aload_n 0, 1) := by decide +kernel
theorem dX10_test_58 : decode cX10_test 58 = .ok (.bipush 60, 2) := by decide +kernel
theorem dX10_test_60 : decode cX10_test 60 = .ok (.invokevirtual 133, 3) := by decide +kernel
theorem dX10_test_63 : decode cX10_test 63 = .ok (.ifCond .eq 7, 3) := by decide +kernel
theorem dX10_test_66 : decode cX10_test 66 = .ok (.iconst (-1), 1) := by decide +kernel
theorem dX10_test_67 : decode cX10_test 67 = .ok (.goto 17, 3) := by decide +kernel
theorem dX10_test_70 : decode cX10_test 70 = .ok (.aload_n 0, 1) := by decide +kernel
theorem dX10_test_71 : decode cX10_test 71 = .ok (.bipush 62, 2) := by decide +kernel
theorem dX10_test_73 : decode cX10_test 73 = .ok (.invokevirtual 133, 3) := by decide +kernel
theorem dX10_test_76 : decode cX10_test 76 = .ok (.ifCond .eq 7, 3) := by decide +kernel
theorem dX10_test_79 : decode cX10_test 79 = .ok (.iconst 1, 1) := by decide +kernel
theorem dX10_test_80 : decode cX10_test 80 = .ok (.goto 4, 3) := by decide +kernel
theorem dX10_test_83 : decode cX10_test 83 = .ok (.iconst 0, 1) := by decide +kernel
theorem dX10_test_84 : decode cX10_test 84 = .ok (.istore_n 2, 1) := by decide +kernel
theorem dX10_test_85 : decode cX10_test 85 = .ok (.aload_n 0, 1) := by decide +kernel
theorem dX10_test_86 : decode cX10_test 86 = .ok (.iload_n 2, 1) := by decide +kernel
theorem dX10_test_87 : decode cX10_test 87 = .ok (.ifCond .ge 8, 3) := by decide +kernel
theorem dX10_test_90 : decode cX10_test 90 = .ok (.bipush 60, 2) := by decide +kernel
theorem dX10_test_92 : decode cX10_test 92 = .ok (.goto 14, 3) := by decide +kernel
theorem dX10_test_95 : decode cX10_test 95 = .ok (.iload_n 2, 1) := by decide +kernel
theorem dX10_test_96 : decode cX10_test 96 = .ok (.ifCond .le 8, 3) := by decide +kernel
theorem dX10_test_99 : decode cX10_test 99 = .ok (.bipush 62, 2) := by decide +kernel
theorem dX10_test_101 : decode cX10_test 101 = .ok (.goto 5, 3) := by decide +kernel
theorem dX10_test_104 : decode cX10_test 104 = .ok (.bipush 61, 2) := by decide +kernel
theorem dX10_test_106 : decode cX10_test 106 = .ok (.invokevirtual 140, 3) := by decide +kernel
theorem dX10_test_109 : decode cX10_test 109 = .ok (.aload_n 0, 1) := by decide +kernel
theorem dX10_test_110 : decode cX10_test 110 = .ok (.invokevirtual 144, 3) := by decide +kernel
theorem dX10_test_113 : decode cX10_test 113 = .ok (.istore_n 3, 1) := by decide +kernel
theorem dX10_test_114 : decode cX10_test 114 = .ok (.iload_n 2, 1) := by decide +kernel
theorem dX10_test_115 : decode cX10_test 115 = .ok (.ifCond .ge 21, 3) := by decide +kernel
theorem dX10_test_118 : decode cX10_test 118 = .ok (.aload_n 0, 1) := by decide +kernel
theorem dX10_test_119 : decode cX10_test 119 = .ok (.getfield 33, 3) := by decide +kernel
theorem dX10_test_122 : decode cX10_test 122 = .ok (.iload_n 1, 1) := by decide +kernel
theorem dX10_test_123 : decode cX10_test 123 = .ok (.iaload, 1) := by decide +kernel
theorem dX10_test_124 : decode cX10_test 124 = .ok (.iload_n 3, 1) := by decide +kernel
theorem dX10_test_125 : decode cX10_test 125 = .ok (.if_icmp .ge 7, 3) := by decide +kernel
theorem dX10_test_128 : decode cX10_test 128 = .ok (.iconst 1, 1) := by decide +kernel
theorem dX10_test_129 : decode cX10_test 129 = .ok (.goto 44, 3) := by decide +kernel
theorem dX10_test_132 : decode cX10_test 132 = .ok (.iconst 0, 1) := by decide +kernel
theorem dX10_test_133 : decode cX10_test 133 = .ok (.goto 40, 3) := by decide +kernel
theorem dX10_test_136 : decode cX10_test 136 = .ok (.iload_n 2, 1) := by decide +kernel
theorem dX10_test_137 : decode cX10_test 137 = .ok (.ifCond .le 21, 3) := by decide +kernel
theorem dX10_test_140 : decode cX10_test 140 = .ok (.aload_n 0, 1) := by decide +kernel
theorem dX10_test_141 : decode cX10_test 141 = .ok (.getfield 33, 3) := by decide +kernel
theorem dX10_test_144 : decode cX10_test 144 = .ok (.iload_n 1, 1) := by decide +kernel
theorem dX10_test_145 : decode cX10_test 145 = .ok (.iaload, 1) := by decide +kernel
theorem dX10_test_146 : decode cX10_test 146 = .ok (.iload_n 3, 1) := by decide +kernel
theorem dX10_test_147 : decode cX10_test 147 = .ok (.if_icmp .le 7, 3) := by decide +kernel
theorem dX10_test_150 : decode cX10_test 150 = .ok (.iconst 1, 1) := by decide +kernel
theorem dX10_test_151 : decode cX10_test 151 = .ok (.goto 22, 3) := by decide +kernel
theorem dX10_test_154 : decode cX10_test 154 = .ok (.iconst 0, 1) := by decide +kernel
theorem dX10_test_155 : decode cX10_test 155 = .ok (.goto 18, 3) := by decide +kernel
theorem dX10_test_158 : decode cX10_test 158 = .ok (.aload_n 0, 1) := by decide +kernel
theorem dX10_test_159 : decode cX10_test 159 = .ok (.getfield 33, 3) := by decide +kernel
theorem dX10_test_162 : decode cX10_test 162 = .ok (.iload_n 1, 1) := by decide +kernel
theorem dX10_test_163 : decode cX10_test 163 = .ok (.iaload, 1) := by decide +kernel
theorem dX10_test_164 : decode cX10_test 164 = .ok (.iload_n 3, 1) := by decide +kernel
theorem dX10_test_165 : decode cX10_test 165 = .ok (.if_icmp .ne 7, 3) := by decide +kernel
theorem dX10_test_168 : decode cX10_test 168 = .ok (.iconst 1, 1) := by decide +kernel
theorem dX10_test_169 : decode cX10_test 169 = .ok (.goto 4, 3) := by decide +kernel
theorem dX10_test_172 : decode cX10_test 172 = .ok (.iconst 0, 1) := by decide +kernel
theorem dX10_test_173 : decode cX10_test 173 = .ok (.ireturn, 1) := by decide +kernel
theorem dX10_factor_0 : decode cX10_factor 0 = .ok (.aload_n 0, 1) := by decide +kernel
theorem dX10_factor_1 : decode cX10_factor 1 = .ok (.getfield 148, 3) := by decide +kernel
theorem dX10_factor_4 : decode cX10_factor 4 = .ok (.iconst 4, 1) := by decide +kernel
theorem dX10_factor_5 : decode cX10_factor 5 = .ok (.if_icmp .ge 58, 3) := by decide +kernel
theorem dX10_factor_8 : decode cX10_factor 8 = .ok (.aload_n 0, 1) := by decide +kernel
theorem dX10_factor_9 : decode cX10_factor 9 = .ok (.bipush 33, 2) := by decide +kernel
theorem dX10_factor_11 : decode cX10_factor 11 = .ok (.invokevirtual 133, 3) := by decide +kernel
theorem dX10_factor_14 : decode cX10_factor 14 = .ok (.ifCond .eq 49, 3) := by decide +kernel
theorem dX10_factor_17 : decode cX10_factor 17 = .ok (.aload_n 0, 1) := by decide +kernel
theorem dX10_factor_18 : decode cX10_factor 18 = .ok (.dup, 1) := by decide +kernel
theorem dX10_factor_19 : decode cX10_factor 19 = .ok (.getfield 127, 3) := by decide +kernel
theorem dX10_factor_22 : decode cX10_factor 22 = .ok (.iconst 1, 1) := by decide +kernel
theorem dX10_factor_23 : decode cX10_factor 23 = .ok (.iadd, 1) := by decide +kernel
theorem dX10_factor_24 : decode cX10_factor 24 = .ok (.putfield 127, 3) := by decide +kernel
theorem dX10_factor_27 : decode cX10_factor 27 = .ok (.aload_n 0, 1) := by decide +kernel
theorem dX10_factor_28 : decode cX10_factor 28 = .ok (.dup, 1) := by decide +kernel
theorem dX10_factor_29 : decode cX10_factor 29 = .ok (.getfield 148, 3) := by decide +kernel
theorem dX10_factor_32 : decode cX10_factor 32 = .ok (.iconst 1, 1) := by decide +kernel
theorem dX10_factor_33 : decode cX10_factor 33 = .ok (.iadd, 1) := by decide +kernel
theorem dX10_factor_34 : decode cX10_factor 34 = .ok (.putfield 148, 3) := by decide +kernel
theorem dX10_factor_37 : decode cX10_factor 37 = .ok (.aload_n 0, 1) := by decide +kernel
theorem dX10_factor_38 : decode cX10_factor 38 = .ok (.invokevirtual 151, 3) := by decide +kernel
theorem dX10_factor_41 : decode cX10_factor 41 = .ok (.ifCond .ne 7, 3) := by decide +kernel
theorem dX10_factor_44 : decode cX10_factor 44 = .ok (.iconst 1, 1) := by decide +kernel
theorem dX10_factor_45 : decode cX10_factor 45 = .ok (.goto 4, 3) := by decide +kernel
theorem dX10_factor_48 : decode cX10_factor 48 = .ok (.iconst 0, 1) := by decide +kernel
theorem dX10_factor_49 : decode cX10_factor 49 = .ok (.istore_n 1, 1) := by decide +kernel
theorem dX10_factor_50 : decode cX10_factor 50 = .ok (.aload_n 0, 1) := by decide +kernel
theorem dX10_factor_51 : decode cX10_factor 51 = .ok (.dup, 1) := by decide +kernel
theorem dX10_factor_52 : decode cX10_factor 52 = .ok (.getfield 148, 3) := by decide +kernel
theorem dX10_factor_55 : decode cX10_factor 55 = .ok (.iconst 1, 1) := by decide +kernel
theorem dX10_factor_56 : decode cX10_factor 56 = .ok (.isub, 1) := by decide +kernel
theorem dX10_factor_57 : decode cX10_factor 57 = .ok (.putfield 148, 3) := by decide +kernel
theorem dX10_factor_60 : decode cX10_factor 60 = .ok (.goto 69, 3) := by decide +kernel
theorem dX10_factor_63 : decode cX10_factor 63 = .ok (.aload_n 0, 1) := by decide +kernel
theorem dX10_factor_64 : decode cX10_factor 64 = .ok (.getfield 148, 3) := by decide +kernel
theorem dX10_factor_67 : decode cX10_factor 67 = .ok (.iconst 4, 1) := by decide +kernel
theorem dX10_factor_68 : decode cX10_factor 68 = .ok (.if_icmp .ge 56, 3) := by decide +kernel
theorem dX10_factor_71 : decode cX10_factor 71 = .ok (.aload_n 0, 1) := by decide +kernel
theorem dX10_factor_72 : decode cX10_factor 72 = .ok (.bipush 40, 2) := by decide +kernel
theorem dX10_factor_74 : decode cX10_factor 74 = .ok (.invokevirtual 133, 3) := by decide +kernel
theorem dX10_factor_77 : decode cX10_factor 77 = .ok (.ifCond .eq 47, 3) := by decide +kernel
theorem dX10_factor_80 : decode cX10_factor 80 = .ok (.aload_n 0, 1) := by decide +kernel
theorem dX10_factor_81 : decode cX10_factor 81 = .ok (.dup, 1) := by decide +kernel
theorem dX10_factor_82 : decode cX10_factor 82 = .ok (.getfield 127, 3) := by decide +kernel
theorem dX10_factor_85 : decode cX10_factor 85 = .ok (.iconst 1, 1) := by decide +kernel
theorem dX10_factor_86 : decode cX10_factor 86 = .ok (.iadd, 1) := by decide +kernel
theorem dX10_factor_87 : decode cX10_factor 87 = .ok (.putfield 127, 3) := by decide +kernel
theorem dX10_factor_90 : decode cX10_factor 90 = .ok (.aload_n 0, 1) := by decide +kernel
theorem dX10_factor_91 : decode cX10_factor 91 = .ok (.dup, 1) := by decide +kernel
theorem dX10_factor_92 : decode cX10_factor 92 = .ok (.getfield 148, 3) := by decide +kernel
theorem dX10_factor_95 : decode cX10_factor 95 = .ok (.iconst 1, 1) := by decide +kernel
theorem dX10_factor_96 : decode cX10_factor 96 = .ok (.iadd, 1) := by decide +kernel
theorem dX10_factor_97 : decode cX10_factor 97 = .ok (.putfield 148, 3) := by decide +kernel
theorem dX10_factor_100 : decode cX10_factor 100 = .ok (.aload_n 0, 1) := by decide +kernel
theorem dX10_factor_101 : decode cX10_factor 101 = .ok (.invokevirtual 154, 3) := by decide +kernel
theorem dX10_factor_104 : decode cX10_factor 104 = .ok (.istore_n 1, 1) := by decide +kernel
theorem dX10_factor_105 : decode cX10_factor 105 = .ok (.aload_n 0, 1) := by decide +kernel
theorem dX10_factor_106 : decode cX10_factor 106 = .ok (.dup, 1) := by decide +kernel
theorem dX10_factor_107 : decode cX10_factor 107 = .ok (.getfield 148, 3) := by decide +kernel
theorem dX10_factor_110 : decode cX10_factor 110 = .ok (.iconst 1, 1) := by decide +kernel
theorem dX10_factor_111 : decode cX10_factor 111 = .ok (.isub, 1) := by decide +kernel
theorem dX10_factor_112 : decode cX10_factor 112 = .ok (.putfield 148, 3) := by decide +kernel
theorem dX10_factor_115 : decode cX10_factor 115 = .ok (.aload_n 0, 1) := by decide +kernel
theorem dX10_factor_116 : decode cX10_factor 116 = .ok (.bipush 41, 2) := by decide +kernel
theorem dX10_factor_118 : decode cX10_factor 118 = .ok (.invokevirtual 140, 3) := by decide +kernel
theorem dX10_factor_121 : decode cX10_factor 121 = .ok (.goto 8, 3) := by decide +kernel
theorem dX10_factor_124 : decode cX10_factor 124 = .ok (.aload_n 0, 1) := by decide +kernel
theorem dX10_factor_125 : decode cX10_factor 125 = .ok (.invokevirtual 157, 3) := by decide +kernel
theorem dX10_factor_128 : decode cX10_factor 128 = .ok (.istore_n 1, 1) := by decide +kernel
theorem dX10_factor_129 : decode cX10_factor 129 = .ok (.iload_n 1, 1) := by decide +kernel
theorem dX10_factor_130 : decode cX10_factor 130 = .ok (.ireturn, 1) := by decide +kernel
theorem dX10_both_0 : decode cX10_both 0 = .ok (.aload_n 0, 1) := by decide +kernel
theorem dX10_both_1 : decode cX10_both 1 = .ok (.invokevirtual 151, 3) := by decide +kernel
theorem dX10_both_4 : decode cX10_both 4 = .ok (.istore_n 1, 1) := by decide +kernel
theorem dX10_both_5 : decode cX10_both 5 = .ok (.aload_n 0, 1) := by decide +kernel
theorem dX10_both_6 : decode cX10_both 6 = .ok (.bipush 38, 2) := by decide +kernel
theorem dX10_both_8 : decode cX10_both 8 = .ok (.invokevirtual 133, 3) := by decide +kernel
theorem dX10_both_11 : decode cX10_both 11 = .ok (.ifCond .eq 35, 3) := by decide +kernel
theorem dX10_both_14 : decode cX10_both 14 = .ok (.aload_n 0, 1) := by decide +kernel
theorem dX10_both_15 : decode cX10_both 15 = .ok (.dup, 1) := by decide +kernel
theorem dX10_both_16 : decode cX10_both 16 = .ok (.getfield 127, 3) := by decide +kernel
theorem dX10_both_19 : decode cX10_both 19 = .ok (.iconst 1, 1) := by decide +kernel
theorem dX10_both_20 : decode cX10_both 20 = .ok (.iadd, 1) := by decide +kernel
theorem dX10_both_21 : decode cX10_both 21 = .ok (.putfield 127, 3) := by decide +kernel
theorem dX10_both_24 : decode cX10_both 24 = .ok (.aload_n 0, 1) := by decide +kernel
theorem dX10_both_25 : decode cX10_both 25 = .ok (.invokevirtual 151, 3) := by decide +kernel
theorem dX10_both_28 : decode cX10_both 28 = .ok (.istore_n 2, 1) := by decide +kernel
theorem dX10_both_29 : decode cX10_both 29 = .ok (.iload_n 1, 1) := by decide +kernel
theorem dX10_both_30 : decode cX10_both 30 = .ok (.ifCond .eq 11, 3) := by decide +kernel
theorem dX10_both_33 : decode cX10_both 33 = .ok (.iload_n 2, 1) := by decide +kernel
theorem dX10_both_34 : decode cX10_both 34 = .ok (.ifCond .eq 7, 3) := by decide +kernel
theorem dX10_both_37 : decode cX10_both 37 = .ok (.iconst 1, 1) := by decide +kernel
theorem dX10_both_38 : decode cX10_both 38 = .ok (.goto 4, 3) := by decide +kernel
theorem dX10_both_41 : decode cX10_both 41 = .ok (.iconst 0, 1) := by decide +kernel
theorem dX10_both_42 : decode cX10_both 42 = .ok (.istore_n 1, 1) := by decide +kernel
theorem dX10_both_43 : decode cX10_both 43 = .ok (.goto (-38), 3) := by decide +kernel
theorem dX10_both_46 : decode cX10_both 46 = .ok (.iload_n 1, 1) := by decide +kernel
theorem dX10_both_47 : decode cX10_both 47 = .ok (.ireturn, 1) := by decide +kernel
theorem dX10_any_0 : decode cX10_any 0 = .ok (.aload_n 0, 1) := by decide +kernel
theorem dX10_any_1 : decode cX10_any 1 = .ok (.invokevirtual 160, 3) := by decide +kernel
theorem dX10_any_4 : decode cX10_any 4 = .ok (.istore_n 1, 1) := by decide +kernel
theorem dX10_any_5 : decode cX10_any 5 = .ok (.aload_n 0, 1) := by decide +kernel
theorem dX10_any_6 : decode cX10_any 6 = .ok (.bipush 124, 2) := by decide +kernel
theorem dX10_any_8 : decode cX10_any 8 = .ok (.invokevirtual 133, 3) := by decide +kernel
theorem dX10_any_11 : decode cX10_any 11 = .ok (.ifCond .eq 35, 3) := by decide +kernel
theorem dX10_any_14 : decode cX10_any 14 = .ok (.aload_n 0, 1) := by decide +kernel
theorem dX10_any_15 : decode cX10_any 15 = .ok (.dup, 1) := by decide +kernel
theorem dX10_any_16 : decode cX10_any 16 = .ok (.getfield 127, 3) := by decide +kernel
theorem dX10_any_19 : decode cX10_any 19 = .ok (.iconst 1, 1) := by decide +kernel
theorem dX10_any_20 : decode cX10_any 20 = .ok (.iadd, 1) := by decide +kernel
theorem dX10_any_21 : decode cX10_any 21 = .ok (.putfield 127, 3) := by decide +kernel
theorem dX10_any_24 : decode cX10_any 24 = .ok (.aload_n 0, 1) := by decide +kernel
theorem dX10_any_25 : decode cX10_any 25 = .ok (.invokevirtual 160, 3) := by decide +kernel
theorem dX10_any_28 : decode cX10_any 28 = .ok (.istore_n 2, 1) := by decide +kernel
theorem dX10_any_29 : decode cX10_any 29 = .ok (.iload_n 1, 1) := by decide +kernel
theorem dX10_any_30 : decode cX10_any 30 = .ok (.ifCond .ne 7, 3) := by decide +kernel
theorem dX10_any_33 : decode cX10_any 33 = .ok (.iload_n 2, 1) := by decide +kernel
theorem dX10_any_34 : decode cX10_any 34 = .ok (.ifCond .eq 7, 3) := by decide +kernel
theorem dX10_any_37 : decode cX10_any 37 = .ok (.iconst 1, 1) := by decide +kernel
theorem dX10_any_38 : decode cX10_any 38 = .ok (.goto 4, 3) := by decide +kernel
theorem dX10_any_41 : decode cX10_any 41 = .ok (.iconst 0, 1) := by decide +kernel
theorem dX10_any_42 : decode cX10_any 42 = .ok (.istore_n 1, 1) := by decide +kernel
theorem dX10_any_43 : decode cX10_any 43 = .ok (.goto (-38), 3) := by decide +kernel
theorem dX10_any_46 : decode cX10_any 46 = .ok (.iload_n 1, 1) := by decide +kernel
theorem dX10_any_47 : decode cX10_any 47 = .ok (.ireturn, 1) := by decide +kernel
theorem dX10_clause_0 : decode cX10_clause 0 = .ok (.iconst (-1), 1) := by decide +kernel
theorem dX10_clause_1 : decode cX10_clause 1 = .ok (.istore_n 1, 1) := by decide +kernel
theorem dX10_clause_2 : decode cX10_clause 2 = .ok (.iconst 0, 1) := by decide +kernel
theorem dX10_clause_3 : decode cX10_clause 3 = .ok (.istore_n 2, 1) := by decide +kernel
theorem dX10_clause_4 : decode cX10_clause 4 = .ok (.iload_n 2, 1) := by decide +kernel
theorem dX10_clause_5 : decode cX10_clause 5 = .ok (.iconst 3, 1) := by decide +kernel
theorem dX10_clause_6 : decode cX10_clause 6 = .ok (.if_icmp .ge 28, 3) := by decide +kernel
theorem dX10_clause_9 : decode cX10_clause 9 = .ok (.aload_n 0, 1) := by decide +kernel
theorem dX10_clause_10 : decode cX10_clause 10 = .ok (.aload_n 0, 1) := by decide +kernel
theorem dX10_clause_11 : decode cX10_clause 11 = .ok (.getfield 40, 3) := by decide +kernel
theorem dX10_clause_14 : decode cX10_clause 14 = .ok (.iload_n 2, 1) := by decide +kernel
theorem dX10_clause_15 : decode cX10_clause 15 = .ok (.caload, 1) := by decide +kernel
theorem dX10_clause_16 : decode cX10_clause 16 = .ok (.invokevirtual 133, 3) := by decide +kernel
theorem dX10_clause_19 : decode cX10_clause 19 = .ok (.ifCond .eq 7, 3) := by decide +kernel
theorem dX10_clause_22 : decode cX10_clause 22 = .ok (.iload_n 2, 1) := by decide +kernel
theorem dX10_clause_23 : decode cX10_clause 23 = .ok (.goto 4, 3) := by decide +kernel
theorem dX10_clause_26 : decode cX10_clause 26 = .ok (.iload_n 1, 1) := by decide +kernel
theorem dX10_clause_27 : decode cX10_clause 27 = .ok (.istore_n 1, 1) := by decide +kernel
theorem dX10_clause_28 : decode cX10_clause 28 = .ok (.iinc 2 1, 3) := by decide +kernel
theorem dX10_clause_31 : decode cX10_clause 31 = .ok (.goto (-27), 3) := by decide +kernel
theorem dX10_clause_34 : decode cX10_clause 34 = .ok (.iload_n 1, 1) := by decide +kernel
theorem dX10_clause_35 : decode cX10_clause 35 = .ok (.iconst (-1), 1) := by decide +kernel
theorem dX10_clause_36 : decode cX10_clause 36 = .ok (.if_icmp .ne 9, 3) := by decide +kernel
theorem dX10_clause_39 : decode cX10_clause 39 = .ok (.aload_n 0, 1) := by decide +kernel
theorem dX10_clause_40 : decode cX10_clause 40 = .ok (.iconst 0, 1) := by decide +kernel
theorem dX10_clause_41 : decode cX10_clause 41 = .ok (.putfield 124, 3) := by decide +kernel
theorem dX10_clause_44 : decode cX10_clause 44 = .ok (.return_, 1) := by decide +kernel
theorem dX10_clause_45 : decode cX10_clause 45 = .ok (.iconst 0, 1) := by decide +kernel
theorem dX10_clause_46 : decode cX10_clause 46 = .ok (.istore_n 2, 1) := by decide +kernel
theorem dX10_clause_47 : decode cX10_clause 47 = .ok (.iload_n 2, 1) := by decide +kernel
theorem dX10_clause_48 : decode cX10_clause 48 = .ok (.iconst 5, 1) := by decide +kernel
theorem dX10_clause_49 : decode cX10_clause 49 = .ok (.if_icmp .ge 36, 3) := by decide +kernel
theorem dX10_clause_52 : decode cX10_clause 52 = .ok (.aload_n 0, 1) := by decide +kernel
theorem dX10_clause_53 : decode cX10_clause 53 = .ok (.getfield 43, 3) := by decide +kernel
theorem dX10_clause_56 : decode cX10_clause 56 = .ok (.iconst 5, 1) := by decide +kernel
theorem dX10_clause_57 : decode cX10_clause 57 = .ok (.iload_n 1, 1) := by decide +kernel
theorem dX10_clause_58 : decode cX10_clause 58 = .ok (.imul, 1) := by decide +kernel
theorem dX10_clause_59 : decode cX10_clause 59 = .ok (.iload_n 2, 1) := by decide +kernel
theorem dX10_clause_60 : decode cX10_clause 60 = .ok (.iadd, 1) := by decide +kernel
theorem dX10_clause_61 : decode cX10_clause 61 = .ok (.caload, 1) := by decide +kernel
theorem dX10_clause_62 : decode cX10_clause 62 = .ok (.ifCond .eq 23, 3) := by decide +kernel
theorem dX10_clause_65 : decode cX10_clause 65 = .ok (.aload_n 0, 1) := by decide +kernel
theorem dX10_clause_66 : decode cX10_clause 66 = .ok (.aload_n 0, 1) := by decide +kernel
theorem dX10_clause_67 : decode cX10_clause 67 = .ok (.getfield 43, 3) := by decide +kernel
theorem dX10_clause_70 : decode cX10_clause 70 = .ok (.iconst 5, 1) := by decide +kernel
theorem dX10_clause_71 : decode cX10_clause 71 = .ok (.iload_n 1, 1) := by decide +kernel
theorem dX10_clause_72 : decode cX10_clause 72 = .ok (.imul, 1) := by decide +kernel
theorem dX10_clause_73 : decode cX10_clause 73 = .ok (.iload_n 2, 1) := by decide +kernel
theorem dX10_clause_74 : decode cX10_clause 74 = .ok (.iadd, 1) := by decide +kernel
theorem dX10_clause_75 : decode cX10_clause 75 = .ok (.caload, 1) := by decide +kernel
theorem dX10_clause_76 : decode cX10_clause 76 = .ok (.invokevirtual 140, 3) := by decide +kernel
theorem dX10_clause_79 : decode cX10_clause 79 = .ok (.iinc 2 1, 3) := by decide +kernel
theorem dX10_clause_82 : decode cX10_clause 82 = .ok (.goto (-35), 3) := by decide +kernel
theorem dX10_clause_85 : decode cX10_clause 85 = .ok (.aload_n 0, 1) := by decide +kernel
theorem dX10_clause_86 : decode cX10_clause 86 = .ok (.bipush 32, 2) := by decide +kernel
theorem dX10_clause_88 : decode cX10_clause 88 = .ok (.invokevirtual 140, 3) := by decide +kernel
theorem dX10_clause_91 : decode cX10_clause 91 = .ok (.aload_n 0, 1) := by decide +kernel
theorem dX10_clause_92 : decode cX10_clause 92 = .ok (.invokevirtual 144, 3) := by decide +kernel
theorem dX10_clause_95 : decode cX10_clause 95 = .ok (.istore_n 2, 1) := by decide +kernel
theorem dX10_clause_96 : decode cX10_clause 96 = .ok (.iload_n 1, 1) := by decide +kernel
theorem dX10_clause_97 : decode cX10_clause 97 = .ok (.iconst 2, 1) := by decide +kernel
theorem dX10_clause_98 : decode cX10_clause 98 = .ok (.if_icmp .ne 9, 3) := by decide +kernel
theorem dX10_clause_101 : decode cX10_clause 101 = .ok (.aload_n 0, 1) := by decide +kernel
theorem dX10_clause_102 : decode cX10_clause 102 = .ok (.iload_n 2, 1) := by decide +kernel
theorem dX10_clause_103 : decode cX10_clause 103 = .ok (.putfield 163, 3) := by decide +kernel
theorem dX10_clause_106 : decode cX10_clause 106 = .ok (.return_, 1) := by decide +kernel
theorem dX10_clause_107 : decode cX10_clause 107 = .ok (.aload_n 0, 1) := by decide +kernel
theorem dX10_clause_108 : decode cX10_clause 108 = .ok (.bipush 32, 2) := by decide +kernel
theorem dX10_clause_110 : decode cX10_clause 110 = .ok (.invokevirtual 140, 3) := by decide +kernel
theorem dX10_clause_113 : decode cX10_clause 113 = .ok (.aload_n 0, 1) := by decide +kernel
theorem dX10_clause_114 : decode cX10_clause 114 = .ok (.iconst 0, 1) := by decide +kernel
theorem dX10_clause_115 : decode cX10_clause 115 = .ok (.putfield 148, 3) := by decide +kernel
theorem dX10_clause_118 : decode cX10_clause 118 = .ok (.aload_n 0, 1) := by decide +kernel
theorem dX10_clause_119 : decode cX10_clause 119 = .ok (.invokevirtual 154, 3) := by decide +kernel
theorem dX10_clause_122 : decode cX10_clause 122 = .ok (.istore_n 3, 1) := by decide +kernel
theorem dX10_clause_123 : decode cX10_clause 123 = .ok (.aload_n 0, 1) := by decide +kernel
theorem dX10_clause_124 : decode cX10_clause 124 = .ok (.dup, 1) := by decide +kernel
theorem dX10_clause_125 : decode cX10_clause 125 = .ok (.getfield 166, 3) := by decide +kernel
theorem dX10_clause_128 : decode cX10_clause 128 = .ok (.iload_n 3, 1) := by decide +kernel
theorem dX10_clause_129 : decode cX10_clause 129 = .ok (.ifCond .ne 7, 3) := by decide +kernel
theorem dX10_clause_132 : decode cX10_clause 132 = .ok (.iconst 0, 1) := by decide +kernel
theorem dX10_clause_133 : decode cX10_clause 133 = .ok (.goto 13, 3) := by decide +kernel
theorem dX10_clause_136 : decode cX10_clause 136 = .ok (.iload_n 1, 1) := by decide +kernel
theorem dX10_clause_137 : decode cX10_clause 137 = .ok (.ifCond .ne 7, 3) := by decide +kernel
theorem dX10_clause_140 : decode cX10_clause 140 = .ok (.iload_n 2, 1) := by decide +kernel
theorem dX10_clause_141 : decode cX10_clause 141 = .ok (.goto 5, 3) := by decide +kernel
theorem dX10_clause_144 : decode cX10_clause 144 = .ok (.iload_n 2, 1) := by decide +kernel
theorem dX10_clause_145 : decode cX10_clause 145 = .ok (.ineg, 1) := by decide +kernel
theorem dX10_clause_146 : decode cX10_clause 146 = .ok (.iadd, 1) := by decide +kernel
theorem dX10_clause_147 : decode cX10_clause 147 = .ok (.putfield 166, 3) := by decide +kernel
theorem dX10_clause_150 : decode cX10_clause 150 = .ok (.return_, 1) := by decide +kernel
theorem dX10_readAll_0 : decode cX10_readAll 0 = .ok (.aload_n 0, 1) := by decide +kernel
theorem dX10_readAll_1 : decode cX10_readAll 1 = .ok (.iconst 0, 1) := by decide +kernel
theorem dX10_readAll_2 : decode cX10_readAll 2 = .ok (.putfield 127, 3) := by decide +kernel
theorem dX10_readAll_5 : decode cX10_readAll 5 = .ok (.aload_n 0, 1) := by decide +kernel
theorem dX10_readAll_6 : decode cX10_readAll 6 = .ok (.iconst 1, 1) := by decide +kernel
theorem dX10_readAll_7 : decode cX10_readAll 7 = .ok (.putfield 124, 3) := by decide +kernel
theorem dX10_readAll_10 : decode cX10_readAll 10 = .ok (.aload_n 0, 1) := by decide +kernel
theorem dX10_readAll_11 : decode cX10_readAll 11 = .ok (.aload_n 0, 1) := by decide +kernel
theorem dX10_readAll_12 : decode cX10_readAll 12 = .ok (.aload_n 0, 1) := by decide +kernel
theorem dX10_readAll_13 : decode cX10_readAll 13 = .ok (.getfield 33, 3) := by decide +kernel
theorem dX10_readAll_16 : decode cX10_readAll 16 = .ok (.iconst 0, 1) := by decide +kernel
theorem dX10_readAll_17 : decode cX10_readAll 17 = .ok (.iaload, 1) := by decide +kernel
theorem dX10_readAll_18 : decode cX10_readAll 18 = .ok (.iconst 2, 1) := by decide +kernel
theorem dX10_readAll_19 : decode cX10_readAll 19 = .ok (.invokevirtual 86, 3) := by decide +kernel
theorem dX10_readAll_22 : decode cX10_readAll 22 = .ok (.iconst 5, 1) := by decide +kernel
theorem dX10_readAll_23 : decode cX10_readAll 23 = .ok (.idiv, 1) := by decide +kernel
theorem dX10_readAll_24 : decode cX10_readAll 24 = .ok (.putfield 166, 3) := by decide +kernel
theorem dX10_readAll_27 : decode cX10_readAll 27 = .ok (.aload_n 0, 1) := by decide +kernel
theorem dX10_readAll_28 : decode cX10_readAll 28 = .ok (.iconst 3, 1) := by decide +kernel
theorem dX10_readAll_29 : decode cX10_readAll 29 = .ok (.putfield 163, 3) := by decide +kernel
theorem dX10_readAll_32 : decode cX10_readAll 32 = .ok (.iconst 1, 1) := by decide +kernel
theorem dX10_readAll_33 : decode cX10_readAll 33 = .ok (.istore_n 1, 1) := by decide +kernel
theorem dX10_readAll_34 : decode cX10_readAll 34 = .ok (.aload_n 0, 1) := by decide +kernel
theorem dX10_readAll_35 : decode cX10_readAll 35 = .ok (.invokevirtual 169, 3) := by decide +kernel
theorem dX10_readAll_38 : decode cX10_readAll 38 = .ok (.iload_n 1, 1) := by decide +kernel
theorem dX10_readAll_39 : decode cX10_readAll 39 = .ok (.bipush 10, 2) := by decide +kernel
theorem dX10_readAll_41 : decode cX10_readAll 41 = .ok (.if_icmp .ge 32, 3) := by decide +kernel
theorem dX10_readAll_44 : decode cX10_readAll 44 = .ok (.aload_n 0, 1) := by decide +kernel
theorem dX10_readAll_45 : decode cX10_readAll 45 = .ok (.bipush 59, 2) := by decide +kernel
theorem dX10_readAll_47 : decode cX10_readAll 47 = .ok (.invokevirtual 133, 3) := by decide +kernel
theorem dX10_readAll_50 : decode cX10_readAll 50 = .ok (.ifCond .eq 23, 3) := by decide +kernel
theorem dX10_readAll_53 : decode cX10_readAll 53 = .ok (.aload_n 0, 1) := by decide +kernel
theorem dX10_readAll_54 : decode cX10_readAll 54 = .ok (.dup, 1) := by decide +kernel
theorem dX10_readAll_55 : decode cX10_readAll 55 = .ok (.getfield 127, 3) := by decide +kernel
theorem dX10_readAll_58 : decode cX10_readAll 58 = .ok (.iconst 1, 1) := by decide +kernel
theorem dX10_readAll_59 : decode cX10_readAll 59 = .ok (.iadd, 1) := by decide +kernel
theorem dX10_readAll_60 : decode cX10_readAll 60 = .ok (.putfield 127, 3) := by decide +kernel
theorem dX10_readAll_63 : decode cX10_readAll 63 = .ok (.aload_n 0, 1) := by decide +kernel
theorem dX10_readAll_64 : decode cX10_readAll 64 = .ok (.invokevirtual 169, 3) := by decide +kernel
theorem dX10_readAll_67 : decode cX10_readAll 67 = .ok (.iinc 1 1, 3) := by decide +kernel
theorem dX10_readAll_70 : decode cX10_readAll 70 = .ok (.goto (-32), 3) := by decide +kernel
theorem dX10_readAll_73 : decode cX10_readAll 73 = .ok (.aload_n 0, 1) := by decide +kernel
theorem dX10_readAll_74 : decode cX10_readAll 74 = .ok (.getfield 124, 3) := by decide +kernel
theorem dX10_readAll_77 : decode cX10_readAll 77 = .ok (.ifCond .eq 18, 3) := by decide +kernel
theorem dX10_readAll_80 : decode cX10_readAll 80 = .ok (.aload_n 0, 1) := by decide +kernel
theorem dX10_readAll_81 : decode cX10_readAll 81 = .ok (.getfield 127, 3) := by decide +kernel
theorem dX10_readAll_84 : decode cX10_readAll 84 = .ok (.aload_n 0, 1) := by decide +kernel
theorem dX10_readAll_85 : decode cX10_readAll 85 = .ok (.getfield 130, 3) := by decide +kernel
theorem dX10_readAll_88 : decode cX10_readAll 88 = .ok (.if_icmp .ne 7, 3) := by decide +kernel
theorem dX10_readAll_91 : decode cX10_readAll 91 = .ok (.iconst 1, 1) := by decide +kernel
theorem dX10_readAll_92 : decode cX10_readAll 92 = .ok (.goto 4, 3) := by decide +kernel
theorem dX10_readAll_95 : decode cX10_readAll 95 = .ok (.iconst 0, 1) := by decide +kernel
theorem dX10_readAll_96 : decode cX10_readAll 96 = .ok (.ireturn, 1) := by decide +kernel
theorem dX10_readFor_0 : decode cX10_readFor 0 = .ok (.aload_n 0, 1) := by decide +kernel
theorem dX10_readFor_1 : decode cX10_readFor 1 = .ok (.getfield 33, 3) := by decide +kernel
theorem dX10_readFor_4 : decode cX10_readFor 4 = .ok (.iconst 0, 1) := by decide +kernel
theorem dX10_readFor_5 : decode cX10_readFor 5 = .ok (.iload_n 1, 1) := by decide +kernel
theorem dX10_readFor_6 : decode cX10_readFor 6 = .ok (.iastore, 1) := by decide +kernel
theorem dX10_readFor_7 : decode cX10_readFor 7 = .ok (.aload_n 0, 1) := by decide +kernel
theorem dX10_readFor_8 : decode cX10_readFor 8 = .ok (.getfield 33, 3) := by decide +kernel
theorem dX10_readFor_11 : decode cX10_readFor 11 = .ok (.iconst 1, 1) := by decide +kernel
theorem dX10_readFor_12 : decode cX10_readFor 12 = .ok (.aload_n 0, 1) := by decide +kernel
theorem dX10_readFor_13 : decode cX10_readFor 13 = .ok (.iload_n 1, 1) := by decide +kernel
theorem dX10_readFor_14 : decode cX10_readFor 14 = .ok (.iconst 0, 1) := by decide +kernel
theorem dX10_readFor_15 : decode cX10_readFor 15 = .ok (.invokevirtual 86, 3) := by decide +kernel
theorem dX10_readFor_18 : decode cX10_readFor 18 = .ok (.iastore, 1) := by decide +kernel
theorem dX10_readFor_19 : decode cX10_readFor 19 = .ok (.aload_n 0, 1) := by decide +kernel
theorem dX10_readFor_20 : decode cX10_readFor 20 = .ok (.getfield 33, 3) := by decide +kernel
theorem dX10_readFor_23 : decode cX10_readFor 23 = .ok (.iconst 2, 1) := by decide +kernel
theorem dX10_readFor_24 : decode cX10_readFor 24 = .ok (.aload_n 0, 1) := by decide +kernel
theorem dX10_readFor_25 : decode cX10_readFor 25 = .ok (.iload_n 1, 1) := by decide +kernel
theorem dX10_readFor_26 : decode cX10_readFor 26 = .ok (.iconst 1, 1) := by decide +kernel
theorem dX10_readFor_27 : decode cX10_readFor 27 = .ok (.invokevirtual 86, 3) := by decide +kernel
theorem dX10_readFor_30 : decode cX10_readFor 30 = .ok (.iastore, 1) := by decide +kernel
theorem dX10_readFor_31 : decode cX10_readFor 31 = .ok (.aload_n 0, 1) := by decide +kernel
theorem dX10_readFor_32 : decode cX10_readFor 32 = .ok (.getfield 33, 3) := by decide +kernel
theorem dX10_readFor_35 : decode cX10_readFor 35 = .ok (.iconst 3, 1) := by decide +kernel
theorem dX10_readFor_36 : decode cX10_readFor 36 = .ok (.iload_n 2, 1) := by decide +kernel
theorem dX10_readFor_37 : decode cX10_readFor 37 = .ok (.iastore, 1) := by decide +kernel
theorem dX10_readFor_38 : decode cX10_readFor 38 = .ok (.aload_n 0, 1) := by decide +kernel
theorem dX10_readFor_39 : decode cX10_readFor 39 = .ok (.getfield 33, 3) := by decide +kernel
theorem dX10_readFor_42 : decode cX10_readFor 42 = .ok (.iconst 4, 1) := by decide +kernel
theorem dX10_readFor_43 : decode cX10_readFor 43 = .ok (.aload_n 0, 1) := by decide +kernel
theorem dX10_readFor_44 : decode cX10_readFor 44 = .ok (.iload_n 1, 1) := by decide +kernel
theorem dX10_readFor_45 : decode cX10_readFor 45 = .ok (.iconst 2, 1) := by decide +kernel
theorem dX10_readFor_46 : decode cX10_readFor 46 = .ok (.invokevirtual 86, 3) := by decide +kernel
theorem dX10_readFor_49 : decode cX10_readFor 49 = .ok (.bipush 10, 2) := by decide +kernel
theorem dX10_readFor_51 : decode cX10_readFor 51 = .ok (.idiv, 1) := by decide +kernel
theorem dX10_readFor_52 : decode cX10_readFor 52 = .ok (.iastore, 1) := by decide +kernel
theorem dX10_readFor_53 : decode cX10_readFor 53 = .ok (.aload_n 0, 1) := by decide +kernel
theorem dX10_readFor_54 : decode cX10_readFor 54 = .ok (.getfield 33, 3) := by decide +kernel
theorem dX10_readFor_57 : decode cX10_readFor 57 = .ok (.iconst 5, 1) := by decide +kernel
theorem dX10_readFor_58 : decode cX10_readFor 58 = .ok (.aload_n 0, 1) := by decide +kernel
theorem dX10_readFor_59 : decode cX10_readFor 59 = .ok (.getfield 9, 3) := by decide +kernel
theorem dX10_readFor_62 : decode cX10_readFor 62 = .ok (.bipush 80, 2) := by decide +kernel
theorem dX10_readFor_64 : decode cX10_readFor 64 = .ok (.iaload, 1) := by decide +kernel
theorem dX10_readFor_65 : decode cX10_readFor 65 = .ok (.bipush 10, 2) := by decide +kernel
theorem dX10_readFor_67 : decode cX10_readFor 67 = .ok (.irem, 1) := by decide +kernel
theorem dX10_readFor_68 : decode cX10_readFor 68 = .ok (.iastore, 1) := by decide +kernel
theorem dX10_readFor_69 : decode cX10_readFor 69 = .ok (.aload_n 0, 1) := by decide +kernel
theorem dX10_readFor_70 : decode cX10_readFor 70 = .ok (.getfield 9, 3) := by decide +kernel
theorem dX10_readFor_73 : decode cX10_readFor 73 = .ok (.bipush 81, 2) := by decide +kernel
theorem dX10_readFor_75 : decode cX10_readFor 75 = .ok (.iaload, 1) := by decide +kernel
theorem dX10_readFor_76 : decode cX10_readFor 76 = .ok (.ifCond .ne 21, 3) := by decide +kernel
theorem dX10_readFor_79 : decode cX10_readFor 79 = .ok (.aload_n 0, 1) := by decide +kernel
theorem dX10_readFor_80 : decode cX10_readFor 80 = .ok (.aload_n 0, 1) := by decide +kernel
theorem dX10_readFor_81 : decode cX10_readFor 81 = .ok (.iload_n 1, 1) := by decide +kernel
theorem dX10_readFor_82 : decode cX10_readFor 82 = .ok (.iconst 2, 1) := by decide +kernel
theorem dX10_readFor_83 : decode cX10_readFor 83 = .ok (.invokevirtual 86, 3) := by decide +kernel
theorem dX10_readFor_86 : decode cX10_readFor 86 = .ok (.iconst 5, 1) := by decide +kernel
theorem dX10_readFor_87 : decode cX10_readFor 87 = .ok (.idiv, 1) := by decide +kernel
theorem dX10_readFor_88 : decode cX10_readFor 88 = .ok (.putfield 166, 3) := by decide +kernel
theorem dX10_readFor_91 : decode cX10_readFor 91 = .ok (.aload_n 0, 1) := by decide +kernel
theorem dX10_readFor_92 : decode cX10_readFor 92 = .ok (.iconst 3, 1) := by decide +kernel
theorem dX10_readFor_93 : decode cX10_readFor 93 = .ok (.putfield 163, 3) := by decide +kernel
theorem dX10_readFor_96 : decode cX10_readFor 96 = .ok (.return_, 1) := by decide +kernel
theorem dX10_readFor_97 : decode cX10_readFor 97 = .ok (.aload_n 0, 1) := by decide +kernel
theorem dX10_readFor_98 : decode cX10_readFor 98 = .ok (.getfield 9, 3) := by decide +kernel
theorem dX10_readFor_101 : decode cX10_readFor 101 = .ok (.bipush 81, 2) := by decide +kernel
theorem dX10_readFor_103 : decode cX10_readFor 103 = .ok (.iaload, 1) := by decide +kernel
theorem dX10_readFor_104 : decode cX10_readFor 104 = .ok (.iconst 1, 1) := by decide +kernel
theorem dX10_readFor_105 : decode cX10_readFor 105 = .ok (.isub, 1) := by decide +kernel
theorem dX10_readFor_106 : decode cX10_readFor 106 = .ok (.istore_n 3, 1) := by decide +kernel
theorem dX10_readFor_107 : decode cX10_readFor 107 = .ok (.aload_n 0, 1) := by decide +kernel
theorem dX10_readFor_108 : decode cX10_readFor 108 = .ok (.aload_n 0, 1) := by decide +kernel
theorem dX10_readFor_109 : decode cX10_readFor 109 = .ok (.getfield 27, 3) := by decide +kernel
theorem dX10_readFor_112 : decode cX10_readFor 112 = .ok (.iload_n 3, 1) := by decide +kernel
theorem dX10_readFor_113 : decode cX10_readFor 113 = .ok (.iaload, 1) := by decide +kernel
theorem dX10_readFor_114 : decode cX10_readFor 114 = .ok (.putfield 130, 3) := by decide +kernel
theorem dX10_readFor_117 : decode cX10_readFor 117 = .ok (.iconst 0, 1) := by decide +kernel
theorem dX10_readFor_118 : decode cX10_readFor 118 = .ok (.istore 4, 2) := by decide +kernel
theorem dX10_readFor_120 : decode cX10_readFor 120 = .ok (.iload 4, 2) := by decide +kernel
theorem dX10_readFor_122 : decode cX10_readFor 122 = .ok (.aload_n 0, 1) := by decide +kernel
theorem dX10_readFor_123 : decode cX10_readFor 123 = .ok (.getfield 130, 3) := by decide +kernel
theorem dX10_readFor_126 : decode cX10_readFor 126 = .ok (.if_icmp .ge 28, 3) := by decide +kernel
theorem dX10_readFor_129 : decode cX10_readFor 129 = .ok (.aload_n 0, 1) := by decide +kernel
theorem dX10_readFor_130 : decode cX10_readFor 130 = .ok (.getfield 30, 3) := by decide +kernel
theorem dX10_readFor_133 : decode cX10_readFor 133 = .ok (.iload 4, 2) := by decide +kernel
theorem dX10_readFor_135 : decode cX10_readFor 135 = .ok (.aload_n 0, 1) := by decide +kernel
theorem dX10_readFor_136 : decode cX10_readFor 136 = .ok (.getfield 24, 3) := by decide +kernel
theorem dX10_readFor_139 : decode cX10_readFor 139 = .ok (.bipush 100, 2) := by decide +kernel
theorem dX10_readFor_141 : decode cX10_readFor 141 = .ok (.iload_n 3, 1) := by decide +kernel
theorem dX10_readFor_142 : decode cX10_readFor 142 = .ok (.imul, 1) := by decide +kernel
theorem dX10_readFor_143 : decode cX10_readFor 143 = .ok (.iload 4, 2) := by decide +kernel
theorem dX10_readFor_145 : decode cX10_readFor 145 = .ok (.iadd, 1) := by decide +kernel
theorem dX10_readFor_146 : decode cX10_readFor 146 = .ok (.iaload, 1) := by decide +kernel
theorem dX10_readFor_147 : decode cX10_readFor 147 = .ok (.iastore, 1) := by decide +kernel
theorem dX10_readFor_148 : decode cX10_readFor 148 = .ok (.iinc 4 1, 3) := by decide +kernel
theorem dX10_readFor_151 : decode cX10_readFor 151 = .ok (.goto (-31), 3) := by decide +kernel
theorem dX10_readFor_154 : decode cX10_readFor 154 = .ok (.aload_n 0, 1) := by decide +kernel
theorem dX10_readFor_155 : decode cX10_readFor 155 = .ok (.invokevirtual 172, 3) := by decide +kernel
theorem dX10_readFor_158 : decode cX10_readFor 158 = .ok (.pop, 1) := by decide +kernel
theorem dX10_readFor_159 : decode cX10_readFor 159 = .ok (.return_, 1) := by decide +kernel
theorem dX10_city_0 : decode cX10_city 0 = .ok (.aload_n 0, 1) := by decide +kernel
theorem dX10_city_1 : decode cX10_city 1 = .ok (.getfield 175, 3) := by decide +kernel
theorem dX10_city_4 : decode cX10_city 4 = .ok (.bipush 6, 2) := by decide +kernel
theorem dX10_city_6 : decode cX10_city 6 = .ok (.if_icmp .ne 6, 3) := by decide +kernel
theorem dX10_city_9 : decode cX10_city 9 = .ok (.bipush (-4), 2) := by decide +kernel
theorem dX10_city_11 : decode cX10_city 11 = .ok (.ireturn, 1) := by decide +kernel
theorem dX10_city_12 : decode cX10_city 12 = .ok (.aload_n 0, 1) := by decide +kernel
theorem dX10_city_13 : decode cX10_city 13 = .ok (.aload_n 0, 1) := by decide +kernel
theorem dX10_city_14 : decode cX10_city 14 = .ok (.getfield 120, 3) := by decide +kernel
theorem dX10_city_17 : decode cX10_city 17 = .ok (.putfield 130, 3) := by decide +kernel
theorem dX10_city_20 : decode cX10_city 20 = .ok (.iconst 0, 1) := by decide +kernel
theorem dX10_city_21 : decode cX10_city 21 = .ok (.istore_n 1, 1) := by decide +kernel
theorem dX10_city_22 : decode cX10_city 22 = .ok (.iload_n 1, 1) := by decide +kernel
theorem dX10_city_23 : decode cX10_city 23 = .ok (.aload_n 0, 1) := by decide +kernel
theorem dX10_city_24 : decode cX10_city 24 = .ok (.getfield 130, 3) := by decide +kernel
theorem dX10_city_27 : decode cX10_city 27 = .ok (.if_icmp .ge 21, 3) := by decide +kernel
theorem dX10_city_30 : decode cX10_city 30 = .ok (.aload_n 0, 1) := by decide +kernel
theorem dX10_city_31 : decode cX10_city 31 = .ok (.getfield 30, 3) := by decide +kernel
theorem dX10_city_34 : decode cX10_city 34 = .ok (.iload_n 1, 1) := by decide +kernel
theorem dX10_city_35 : decode cX10_city 35 = .ok (.aload_n 0, 1) := by decide +kernel
theorem dX10_city_36 : decode cX10_city 36 = .ok (.getfield 21, 3) := by decide +kernel
theorem dX10_city_39 : decode cX10_city 39 = .ok (.iload_n 1, 1) := by decide +kernel
theorem dX10_city_40 : decode cX10_city 40 = .ok (.iaload, 1) := by decide +kernel
theorem dX10_city_41 : decode cX10_city 41 = .ok (.iastore, 1) := by decide +kernel
theorem dX10_city_42 : decode cX10_city 42 = .ok (.iinc 1 1, 3) := by decide +kernel
theorem dX10_city_45 : decode cX10_city 45 = .ok (.goto (-23), 3) := by decide +kernel
theorem dX10_city_48 : decode cX10_city 48 = .ok (.aload_n 0, 1) := by decide +kernel
theorem dX10_city_49 : decode cX10_city 49 = .ok (.iconst 0, 1) := by decide +kernel
theorem dX10_city_50 : decode cX10_city 50 = .ok (.putfield 120, 3) := by decide +kernel
theorem dX10_city_53 : decode cX10_city 53 = .ok (.aload_n 0, 1) := by decide +kernel
theorem dX10_city_54 : decode cX10_city 54 = .ok (.getfield 33, 3) := by decide +kernel
theorem dX10_city_57 : decode cX10_city 57 = .ok (.iconst 0, 1) := by decide +kernel
theorem dX10_city_58 : decode cX10_city 58 = .ok (.iconst 0, 1) := by decide +kernel
theorem dX10_city_59 : decode cX10_city 59 = .ok (.iastore, 1) := by decide +kernel
theorem dX10_city_60 : decode cX10_city 60 = .ok (.aload_n 0, 1) := by decide +kernel
theorem dX10_city_61 : decode cX10_city 61 = .ok (.invokevirtual 172, 3) := by decide +kernel
theorem dX10_city_64 : decode cX10_city 64 = .ok (.ifCond .ne 11, 3) := by decide +kernel
theorem dX10_city_67 : decode cX10_city 67 = .ok (.bipush (-10), 2) := by decide +kernel
theorem dX10_city_69 : decode cX10_city 69 = .ok (.aload_n 0, 1) := by decide +kernel
theorem dX10_city_70 : decode cX10_city 70 = .ok (.getfield 127, 3) := by decide +kernel
theorem dX10_city_73 : decode cX10_city 73 = .ok (.isub, 1) := by decide +kernel
theorem dX10_city_74 : decode cX10_city 74 = .ok (.ireturn, 1) := by decide +kernel
theorem dX10_city_75 : decode cX10_city 75 = .ok (.iconst 0, 1) := by decide +kernel
theorem dX10_city_76 : decode cX10_city 76 = .ok (.istore_n 1, 1) := by decide +kernel
theorem dX10_city_77 : decode cX10_city 77 = .ok (.iload_n 1, 1) := by decide +kernel
theorem dX10_city_78 : decode cX10_city 78 = .ok (.aload_n 0, 1) := by decide +kernel
theorem dX10_city_79 : decode cX10_city 79 = .ok (.getfield 130, 3) := by decide +kernel
theorem dX10_city_82 : decode cX10_city 82 = .ok (.if_icmp .ge 29, 3) := by decide +kernel
theorem dX10_city_85 : decode cX10_city 85 = .ok (.aload_n 0, 1) := by decide +kernel
theorem dX10_city_86 : decode cX10_city 86 = .ok (.getfield 24, 3) := by decide +kernel
theorem dX10_city_89 : decode cX10_city 89 = .ok (.bipush 100, 2) := by decide +kernel
theorem dX10_city_91 : decode cX10_city 91 = .ok (.aload_n 0, 1) := by decide +kernel
theorem dX10_city_92 : decode cX10_city 92 = .ok (.getfield 175, 3) := by decide +kernel
theorem dX10_city_95 : decode cX10_city 95 = .ok (.imul, 1) := by decide +kernel
theorem dX10_city_96 : decode cX10_city 96 = .ok (.iload_n 1, 1) := by decide +kernel
theorem dX10_city_97 : decode cX10_city 97 = .ok (.iadd, 1) := by decide +kernel
theorem dX10_city_98 : decode cX10_city 98 = .ok (.aload_n 0, 1) := by decide +kernel
theorem dX10_city_99 : decode cX10_city 99 = .ok (.getfield 30, 3) := by decide +kernel
theorem dX10_city_102 : decode cX10_city 102 = .ok (.iload_n 1, 1) := by decide +kernel
theorem dX10_city_103 : decode cX10_city 103 = .ok (.iaload, 1) := by decide +kernel
theorem dX10_city_104 : decode cX10_city 104 = .ok (.iastore, 1) := by decide +kernel
theorem dX10_city_105 : decode cX10_city 105 = .ok (.iinc 1 1, 3) := by decide +kernel
theorem dX10_city_108 : decode cX10_city 108 = .ok (.goto (-31), 3) := by decide +kernel
theorem dX10_city_111 : decode cX10_city 111 = .ok (.aload_n 0, 1) := by decide +kernel
theorem dX10_city_112 : decode cX10_city 112 = .ok (.getfield 27, 3) := by decide +kernel
theorem dX10_city_115 : decode cX10_city 115 = .ok (.aload_n 0, 1) := by decide +kernel
theorem dX10_city_116 : decode cX10_city 116 = .ok (.getfield 175, 3) := by decide +kernel
theorem dX10_city_119 : decode cX10_city 119 = .ok (.aload_n 0, 1) := by decide +kernel
theorem dX10_city_120 : decode cX10_city 120 = .ok (.getfield 130, 3) := by decide +kernel
theorem dX10_city_123 : decode cX10_city 123 = .ok (.iastore, 1) := by decide +kernel
theorem dX10_city_124 : decode cX10_city 124 = .ok (.aload_n 0, 1) := by decide +kernel
theorem dX10_city_125 : decode cX10_city 125 = .ok (.dup, 1) := by decide +kernel
theorem dX10_city_126 : decode cX10_city 126 = .ok (.getfield 175, 3) := by decide +kernel
theorem dX10_city_129 : decode cX10_city 129 = .ok (.iconst 1, 1) := by decide +kernel
theorem dX10_city_130 : decode cX10_city 130 = .ok (.iadd, 1) := by decide +kernel
theorem dX10_city_131 : decode cX10_city 131 = .ok (.putfield 175, 3) := by decide +kernel
theorem dX10_city_134 : decode cX10_city 134 = .ok (.aload_n 0, 1) := by decide +kernel
theorem dX10_city_135 : decode cX10_city 135 = .ok (.getfield 9, 3) := by decide +kernel
theorem dX10_city_138 : decode cX10_city 138 = .ok (.bipush 81, 2) := by decide +kernel
theorem dX10_city_140 : decode cX10_city 140 = .ok (.aload_n 0, 1) := by decide +kernel
theorem dX10_city_141 : decode cX10_city 141 = .ok (.getfield 175, 3) := by decide +kernel
theorem dX10_city_144 : decode cX10_city 144 = .ok (.iastore, 1) := by decide +kernel
theorem dX10_city_145 : decode cX10_city 145 = .ok (.aload_n 0, 1) := by decide +kernel
theorem dX10_city_146 : decode cX10_city 146 = .ok (.getfield 175, 3) := by decide +kernel
theorem dX10_city_149 : decode cX10_city 149 = .ok (.iconst 1, 1) := by decide +kernel
theorem dX10_city_150 : decode cX10_city 150 = .ok (.isub, 1) := by decide +kernel
theorem dX10_city_151 : decode cX10_city 151 = .ok (.ireturn, 1) := by decide +kernel
theorem dX10_guard_0 : decode cX10_guard 0 = .ok (.aload_n 0, 1) := by decide +kernel
theorem dX10_guard_1 : decode cX10_guard 1 = .ok (.iload_n 1, 1) := by decide +kernel
theorem dX10_guard_2 : decode cX10_guard 2 = .ok (.iload_n 2, 1) := by decide +kernel
theorem dX10_guard_3 : decode cX10_guard 3 = .ok (.invokevirtual 178, 3) := by decide +kernel
theorem dX10_guard_6 : decode cX10_guard 6 = .ok (.aload_n 0, 1) := by decide +kernel
theorem dX10_guard_7 : decode cX10_guard 7 = .ok (.getfield 166, 3) := by decide +kernel
theorem dX10_guard_10 : decode cX10_guard 10 = .ok (.aload_n 0, 1) := by decide +kernel
theorem dX10_guard_11 : decode cX10_guard 11 = .ok (.iload_n 1, 1) := by decide +kernel
theorem dX10_guard_12 : decode cX10_guard 12 = .ok (.iconst 1, 1) := by decide +kernel
theorem dX10_guard_13 : decode cX10_guard 13 = .ok (.invokevirtual 86, 3) := by decide +kernel
theorem dX10_guard_16 : decode cX10_guard 16 = .ok (.iadd, 1) := by decide +kernel
theorem dX10_guard_17 : decode cX10_guard 17 = .ok (.istore_n 3, 1) := by decide +kernel
theorem dX10_guard_18 : decode cX10_guard 18 = .ok (.aload_n 0, 1) := by decide +kernel
theorem dX10_guard_19 : decode cX10_guard 19 = .ok (.getfield 166, 3) := by decide +kernel
theorem dX10_guard_22 : decode cX10_guard 22 = .ok (.bipush 9, 2) := by decide +kernel
theorem dX10_guard_24 : decode cX10_guard 24 = .ok (.aload_n 0, 1) := by decide +kernel
theorem dX10_guard_25 : decode cX10_guard 25 = .ok (.iload_n 1, 1) := by decide +kernel
theorem dX10_guard_26 : decode cX10_guard 26 = .ok (.iconst 3, 1) := by decide +kernel
theorem dX10_guard_27 : decode cX10_guard 27 = .ok (.invokevirtual 86, 3) := by decide +kernel
theorem dX10_guard_30 : decode cX10_guard 30 = .ok (.iconst 5, 1) := by decide +kernel
theorem dX10_guard_31 : decode cX10_guard 31 = .ok (.idiv, 1) := by decide +kernel
theorem dX10_guard_32 : decode cX10_guard 32 = .ok (.invokestatic 182, 3) := by decide +kernel
theorem dX10_guard_35 : decode cX10_guard 35 = .ok (.iadd, 1) := by decide +kernel
theorem dX10_guard_36 : decode cX10_guard 36 = .ok (.istore 4, 2) := by decide +kernel
theorem dX10_guard_38 : decode cX10_guard 38 = .ok (.aload_n 0, 1) := by decide +kernel
theorem dX10_guard_39 : decode cX10_guard 39 = .ok (.iload_n 1, 1) := by decide +kernel
theorem dX10_guard_40 : decode cX10_guard 40 = .ok (.iconst 0, 1) := by decide +kernel
theorem dX10_guard_41 : decode cX10_guard 41 = .ok (.invokevirtual 86, 3) := by decide +kernel
theorem dX10_guard_44 : decode cX10_guard 44 = .ok (.tableswitch 97 1 6 #[40, 42, 49, 52, 71, 81], 40) := by decide +kernel
theorem dX10_guard_84 : decode cX10_guard 84 = .ok (.iload_n 3, 1) := by decide +kernel
theorem dX10_guard_85 : decode cX10_guard 85 = .ok (.ireturn, 1) := by decide +kernel
theorem dX10_guard_86 : decode cX10_guard 86 = .ok (.aload_n 0, 1) := by decide +kernel
theorem dX10_guard_87 : decode cX10_guard 87 = .ok (.getfield 166, 3) := by decide +kernel
theorem dX10_guard_90 : decode cX10_guard 90 = .ok (.iconst 2, 1) := by decide +kernel
theorem dX10_guard_91 : decode cX10_guard 91 = .ok (.idiv, 1) := by decide +kernel
theorem dX10_guard_92 : decode cX10_guard 92 = .ok (.ireturn, 1) := by decide +kernel
theorem dX10_guard_93 : decode cX10_guard 93 = .ok (.iload 4, 2) := by decide +kernel
theorem dX10_guard_95 : decode cX10_guard 95 = .ok (.ireturn, 1) := by decide +kernel
theorem dX10_guard_96 : decode cX10_guard 96 = .ok (.aload_n 0, 1) := by decide +kernel
theorem dX10_guard_97 : decode cX10_guard 97 = .ok (.iload_n 1, 1) := by decide +kernel
theorem dX10_guard_98 : decode cX10_guard 98 = .ok (.iconst 2, 1) := by decide +kernel
theorem dX10_guard_99 : decode cX10_guard 99 = .ok (.invokevirtual 86, 3) := by decide +kernel
theorem dX10_guard_102 : decode cX10_guard 102 = .ok (.bipush 50, 2) := by decide +kernel
theorem dX10_guard_104 : decode cX10_guard 104 = .ok (.if_icmp .lt 9, 3) := by decide +kernel
theorem dX10_guard_107 : decode cX10_guard 107 = .ok (.iconst 2, 1) := by decide +kernel
theorem dX10_guard_108 : decode cX10_guard 108 = .ok (.iload_n 3, 1) := by decide +kernel
theorem dX10_guard_109 : decode cX10_guard 109 = .ok (.imul, 1) := by decide +kernel
theorem dX10_guard_110 : decode cX10_guard 110 = .ok (.goto 4, 3) := by decide +kernel
theorem dX10_guard_113 : decode cX10_guard 113 = .ok (.iload_n 3, 1) := by decide +kernel
theorem dX10_guard_114 : decode cX10_guard 114 = .ok (.ireturn, 1) := by decide +kernel
theorem dX10_guard_115 : decode cX10_guard 115 = .ok (.aload_n 0, 1) := by decide +kernel
theorem dX10_guard_116 : decode cX10_guard 116 = .ok (.getfield 166, 3) := by decide +kernel
theorem dX10_guard_119 : decode cX10_guard 119 = .ok (.iconst 2, 1) := by decide +kernel
theorem dX10_guard_120 : decode cX10_guard 120 = .ok (.idiv, 1) := by decide +kernel
theorem dX10_guard_121 : decode cX10_guard 121 = .ok (.bipush 10, 2) := by decide +kernel
theorem dX10_guard_123 : decode cX10_guard 123 = .ok (.iadd, 1) := by decide +kernel
theorem dX10_guard_124 : decode cX10_guard 124 = .ok (.ireturn, 1) := by decide +kernel
theorem dX10_guard_125 : decode cX10_guard 125 = .ok (.iload 4, 2) := by decide +kernel
theorem dX10_guard_127 : decode cX10_guard 127 = .ok (.aload_n 0, 1) := by decide +kernel
theorem dX10_guard_128 : decode cX10_guard 128 = .ok (.iload_n 1, 1) := by decide +kernel
theorem dX10_guard_129 : decode cX10_guard 129 = .ok (.iconst 5, 1) := by decide +kernel
theorem dX10_guard_130 : decode cX10_guard 130 = .ok (.iload_n 2, 1) := by decide +kernel
theorem dX10_guard_131 : decode cX10_guard 131 = .ok (.iconst 4, 1) := by decide +kernel
theorem dX10_guard_132 : decode cX10_guard 132 = .ok (.irem, 1) := by decide +kernel
theorem dX10_guard_133 : decode cX10_guard 133 = .ok (.iadd, 1) := by decide +kernel
theorem dX10_guard_134 : decode cX10_guard 134 = .ok (.invokevirtual 86, 3) := by decide +kernel
theorem dX10_guard_137 : decode cX10_guard 137 = .ok (.iadd, 1) := by decide +kernel
theorem dX10_guard_138 : decode cX10_guard 138 = .ok (.iconst 4, 1) := by decide +kernel
theorem dX10_guard_139 : decode cX10_guard 139 = .ok (.isub, 1) := by decide +kernel
theorem dX10_guard_140 : decode cX10_guard 140 = .ok (.ireturn, 1) := by decide +kernel
theorem dX10_guard_141 : decode cX10_guard 141 = .ok (.aload_n 0, 1) := by decide +kernel
theorem dX10_guard_142 : decode cX10_guard 142 = .ok (.getfield 166, 3) := by decide +kernel
theorem dX10_guard_145 : decode cX10_guard 145 = .ok (.ireturn, 1) := by decide +kernel
theorem dX10_rubNow_0 : decode cX10_rubNow 0 = .ok (.aload_n 0, 1) := by decide +kernel
theorem dX10_rubNow_1 : decode cX10_rubNow 1 = .ok (.iconst 0, 1) := by decide +kernel
theorem dX10_rubNow_2 : decode cX10_rubNow 2 = .ok (.iconst 0, 1) := by decide +kernel
theorem dX10_rubNow_3 : decode cX10_rubNow 3 = .ok (.invokevirtual 178, 3) := by decide +kernel
theorem dX10_rubNow_6 : decode cX10_rubNow 6 = .ok (.aload_n 0, 1) := by decide +kernel
theorem dX10_rubNow_7 : decode cX10_rubNow 7 = .ok (.getfield 163, 3) := by decide +kernel
theorem dX10_rubNow_10 : decode cX10_rubNow 10 = .ok (.ireturn, 1) := by decide +kernel
theorem dX10_isStriking_0 : decode cX10_isStriking 0 = .ok (.aload_n 0, 1) := by decide +kernel
theorem dX10_isStriking_1 : decode cX10_isStriking 1 = .ok (.iload_n 1, 1) := by decide +kernel
theorem dX10_isStriking_2 : decode cX10_isStriking 2 = .ok (.iconst 2, 1) := by decide +kernel
theorem dX10_isStriking_3 : decode cX10_isStriking 3 = .ok (.invokevirtual 90, 3) := by decide +kernel
theorem dX10_isStriking_6 : decode cX10_isStriking 6 = .ok (.iconst (-1), 1) := by decide +kernel
theorem dX10_isStriking_7 : decode cX10_isStriking 7 = .ok (.if_icmp .eq 24, 3) := by decide +kernel
theorem dX10_isStriking_10 : decode cX10_isStriking 10 = .ok (.aload_n 0, 1) := by decide +kernel
theorem dX10_isStriking_11 : decode cX10_isStriking 11 = .ok (.getfield 9, 3) := by decide +kernel
theorem dX10_isStriking_14 : decode cX10_isStriking 14 = .ok (.bipush 80, 2) := by decide +kernel
theorem dX10_isStriking_16 : decode cX10_isStriking 16 = .ok (.iaload, 1) := by decide +kernel
theorem dX10_isStriking_17 : decode cX10_isStriking 17 = .ok (.aload_n 0, 1) := by decide +kernel
theorem dX10_isStriking_18 : decode cX10_isStriking 18 = .ok (.iload_n 1, 1) := by decide +kernel
theorem dX10_isStriking_19 : decode cX10_isStriking 19 = .ok (.iconst 1, 1) := by decide +kernel
theorem dX10_isStriking_20 : decode cX10_isStriking 20 = .ok (.invokevirtual 90, 3) := by decide +kernel
theorem dX10_isStriking_23 : decode cX10_isStriking 23 = .ok (.irem, 1) := by decide +kernel
theorem dX10_isStriking_24 : decode cX10_isStriking 24 = .ok (.ifCond .ne 7, 3) := by decide +kernel
theorem dX10_isStriking_27 : decode cX10_isStriking 27 = .ok (.iconst 1, 1) := by decide +kernel
theorem dX10_isStriking_28 : decode cX10_isStriking 28 = .ok (.goto 4, 3) := by decide +kernel
theorem dX10_isStriking_31 : decode cX10_isStriking 31 = .ok (.iconst 0, 1) := by decide +kernel
theorem dX10_isStriking_32 : decode cX10_isStriking 32 = .ok (.ireturn, 1) := by decide +kernel
theorem dX10_strikes_0 : decode cX10_strikes 0 = .ok (.aload_n 0, 1) := by decide +kernel
theorem dX10_strikes_1 : decode cX10_strikes 1 = .ok (.iload_n 1, 1) := by decide +kernel
theorem dX10_strikes_2 : decode cX10_strikes 2 = .ok (.iconst 2, 1) := by decide +kernel
theorem dX10_strikes_3 : decode cX10_strikes 3 = .ok (.invokevirtual 90, 3) := by decide +kernel
theorem dX10_strikes_6 : decode cX10_strikes 6 = .ok (.istore_n 3, 1) := by decide +kernel
theorem dX10_strikes_7 : decode cX10_strikes 7 = .ok (.iconst 0, 1) := by decide +kernel
theorem dX10_strikes_8 : decode cX10_strikes 8 = .ok (.bipush 99, 2) := by decide +kernel
theorem dX10_strikes_10 : decode cX10_strikes 10 = .ok (.aload_n 0, 1) := by decide +kernel
theorem dX10_strikes_11 : decode cX10_strikes 11 = .ok (.iload_n 1, 1) := by decide +kernel
theorem dX10_strikes_12 : decode cX10_strikes 12 = .ok (.iconst 0, 1) := by decide +kernel
theorem dX10_strikes_13 : decode cX10_strikes 13 = .ok (.invokevirtual 90, 3) := by decide +kernel
theorem dX10_strikes_16 : decode cX10_strikes 16 = .ok (.aload_n 0, 1) := by decide +kernel
theorem dX10_strikes_17 : decode cX10_strikes 17 = .ok (.iload_n 3, 1) := by decide +kernel
theorem dX10_strikes_18 : decode cX10_strikes 18 = .ok (.iload_n 1, 1) := by decide +kernel
theorem dX10_strikes_19 : decode cX10_strikes 19 = .ok (.invokevirtual 111, 3) := by decide +kernel
theorem dX10_strikes_22 : decode cX10_strikes 22 = .ok (.isub, 1) := by decide +kernel
theorem dX10_strikes_23 : decode cX10_strikes 23 = .ok (.invokestatic 182, 3) := by decide +kernel
theorem dX10_strikes_26 : decode cX10_strikes 26 = .ok (.invokestatic 187, 3) := by decide +kernel
theorem dX10_strikes_29 : decode cX10_strikes 29 = .ok (.istore 4, 2) := by decide +kernel
theorem dX10_strikes_31 : decode cX10_strikes 31 = .ok (.aload_n 0, 1) := by decide +kernel
theorem dX10_strikes_32 : decode cX10_strikes 32 = .ok (.iload_n 3, 1) := by decide +kernel
theorem dX10_strikes_33 : decode cX10_strikes 33 = .ok (.iconst 4, 1) := by decide +kernel
theorem dX10_strikes_34 : decode cX10_strikes 34 = .ok (.sipush 9999, 3) := by decide +kernel
theorem dX10_strikes_37 : decode cX10_strikes 37 = .ok (.aload_n 0, 1) := by decide +kernel
theorem dX10_strikes_38 : decode cX10_strikes 38 = .ok (.iload_n 3, 1) := by decide +kernel
theorem dX10_strikes_39 : decode cX10_strikes 39 = .ok (.iconst 4, 1) := by decide +kernel
theorem dX10_strikes_40 : decode cX10_strikes 40 = .ok (.invokevirtual 86, 3) := by decide +kernel
theorem dX10_strikes_43 : decode cX10_strikes 43 = .ok (.iload 4, 2) := by decide +kernel
theorem dX10_strikes_45 : decode cX10_strikes 45 = .ok (.iadd, 1) := by decide +kernel
theorem dX10_strikes_46 : decode cX10_strikes 46 = .ok (.invokestatic 182, 3) := by decide +kernel
theorem dX10_strikes_49 : decode cX10_strikes 49 = .ok (.invokevirtual 93, 3) := by decide +kernel
theorem dX10_strikes_52 : decode cX10_strikes 52 = .ok (.pop, 1) := by decide +kernel
theorem dX10_strikes_53 : decode cX10_strikes 53 = .ok (.aload_n 0, 1) := by decide +kernel
theorem dX10_strikes_54 : decode cX10_strikes 54 = .ok (.iload_n 3, 1) := by decide +kernel
theorem dX10_strikes_55 : decode cX10_strikes 55 = .ok (.iconst 3, 1) := by decide +kernel
theorem dX10_strikes_56 : decode cX10_strikes 56 = .ok (.sipush 9999, 3) := by decide +kernel
theorem dX10_strikes_59 : decode cX10_strikes 59 = .ok (.aload_n 0, 1) := by decide +kernel
theorem dX10_strikes_60 : decode cX10_strikes 60 = .ok (.iload_n 3, 1) := by decide +kernel
theorem dX10_strikes_61 : decode cX10_strikes 61 = .ok (.iconst 3, 1) := by decide +kernel
theorem dX10_strikes_62 : decode cX10_strikes 62 = .ok (.invokevirtual 86, 3) := by decide +kernel
theorem dX10_strikes_65 : decode cX10_strikes 65 = .ok (.iconst 1, 1) := by decide +kernel
theorem dX10_strikes_66 : decode cX10_strikes 66 = .ok (.iadd, 1) := by decide +kernel
theorem dX10_strikes_67 : decode cX10_strikes 67 = .ok (.invokestatic 182, 3) := by decide +kernel
theorem dX10_strikes_70 : decode cX10_strikes 70 = .ok (.invokevirtual 93, 3) := by decide +kernel
theorem dX10_strikes_73 : decode cX10_strikes 73 = .ok (.pop, 1) := by decide +kernel
theorem dX10_strikes_74 : decode cX10_strikes 74 = .ok (.aload_n 0, 1) := by decide +kernel
theorem dX10_strikes_75 : decode cX10_strikes 75 = .ok (.iload_n 3, 1) := by decide +kernel
theorem dX10_strikes_76 : decode cX10_strikes 76 = .ok (.iconst 2, 1) := by decide +kernel
theorem dX10_strikes_77 : decode cX10_strikes 77 = .ok (.iconst 0, 1) := by decide +kernel
theorem dX10_strikes_78 : decode cX10_strikes 78 = .ok (.aload_n 0, 1) := by decide +kernel
theorem dX10_strikes_79 : decode cX10_strikes 79 = .ok (.iload_n 3, 1) := by decide +kernel
theorem dX10_strikes_80 : decode cX10_strikes 80 = .ok (.iconst 2, 1) := by decide +kernel
theorem dX10_strikes_81 : decode cX10_strikes 81 = .ok (.invokevirtual 86, 3) := by decide +kernel
theorem dX10_strikes_84 : decode cX10_strikes 84 = .ok (.iload_n 2, 1) := by decide +kernel
theorem dX10_strikes_85 : decode cX10_strikes 85 = .ok (.isub, 1) := by decide +kernel
theorem dX10_strikes_86 : decode cX10_strikes 86 = .ok (.invokestatic 187, 3) := by decide +kernel
theorem dX10_strikes_89 : decode cX10_strikes 89 = .ok (.invokevirtual 93, 3) := by decide +kernel
theorem dX10_strikes_92 : decode cX10_strikes 92 = .ok (.pop, 1) := by decide +kernel
theorem dX10_strikes_93 : decode cX10_strikes 93 = .ok (.return_, 1) := by decide +kernel
theorem dX10_day_0 : decode cX10_day 0 = .ok (.aload_n 0, 1) := by decide +kernel
theorem dX10_day_1 : decode cX10_day 1 = .ok (.invokevirtual 190, 3) := by decide +kernel
theorem dX10_day_4 : decode cX10_day 4 = .ok (.istore_n 1, 1) := by decide +kernel
theorem dX10_day_5 : decode cX10_day 5 = .ok (.iconst 0, 1) := by decide +kernel
theorem dX10_day_6 : decode cX10_day 6 = .ok (.istore_n 2, 1) := by decide +kernel
theorem dX10_day_7 : decode cX10_day 7 = .ok (.iload_n 2, 1) := by decide +kernel
theorem dX10_day_8 : decode cX10_day 8 = .ok (.aload_n 0, 1) := by decide +kernel
theorem dX10_day_9 : decode cX10_day 9 = .ok (.getfield 9, 3) := by decide +kernel
theorem dX10_day_12 : decode cX10_day 12 = .ok (.bipush 79, 2) := by decide +kernel
theorem dX10_day_14 : decode cX10_day 14 = .ok (.iaload, 1) := by decide +kernel
theorem dX10_day_15 : decode cX10_day 15 = .ok (.if_icmp .ge 23, 3) := by decide +kernel
theorem dX10_day_18 : decode cX10_day 18 = .ok (.aload_n 0, 1) := by decide +kernel
theorem dX10_day_19 : decode cX10_day 19 = .ok (.iload_n 2, 1) := by decide +kernel
theorem dX10_day_20 : decode cX10_day 20 = .ok (.invokevirtual 193, 3) := by decide +kernel
theorem dX10_day_23 : decode cX10_day 23 = .ok (.ifCond .eq 9, 3) := by decide +kernel
theorem dX10_day_26 : decode cX10_day 26 = .ok (.aload_n 0, 1) := by decide +kernel
theorem dX10_day_27 : decode cX10_day 27 = .ok (.iload_n 2, 1) := by decide +kernel
theorem dX10_day_28 : decode cX10_day 28 = .ok (.iload_n 1, 1) := by decide +kernel
theorem dX10_day_29 : decode cX10_day 29 = .ok (.invokevirtual 196, 3) := by decide +kernel
theorem dX10_day_32 : decode cX10_day 32 = .ok (.iinc 2 1, 3) := by decide +kernel
theorem dX10_day_35 : decode cX10_day 35 = .ok (.goto (-28), 3) := by decide +kernel
theorem dX10_day_38 : decode cX10_day 38 = .ok (.aload_n 0, 1) := by decide +kernel
theorem dX10_day_39 : decode cX10_day 39 = .ok (.getfield 9, 3) := by decide +kernel
theorem dX10_day_42 : decode cX10_day 42 = .ok (.bipush 80, 2) := by decide +kernel
theorem dX10_day_44 : decode cX10_day 44 = .ok (.dup2, 1) := by decide +kernel
theorem dX10_day_45 : decode cX10_day 45 = .ok (.iaload, 1) := by decide +kernel
theorem dX10_day_46 : decode cX10_day 46 = .ok (.iconst 1, 1) := by decide +kernel
theorem dX10_day_47 : decode cX10_day 47 = .ok (.iadd, 1) := by decide +kernel
theorem dX10_day_48 : decode cX10_day 48 = .ok (.iastore, 1) := by decide +kernel
theorem dX10_day_49 : decode cX10_day 49 = .ok (.return_, 1) := by decide +kernel
theorem dX10_days_0 : decode cX10_days 0 = .ok (.iconst 0, 1) := by decide +kernel
theorem dX10_days_1 : decode cX10_days 1 = .ok (.istore_n 2, 1) := by decide +kernel
theorem dX10_days_2 : decode cX10_days 2 = .ok (.iload_n 2, 1) := by decide +kernel
theorem dX10_days_3 : decode cX10_days 3 = .ok (.iload_n 1, 1) := by decide +kernel
theorem dX10_days_4 : decode cX10_days 4 = .ok (.if_icmp .ge 13, 3) := by decide +kernel
theorem dX10_days_7 : decode cX10_days 7 = .ok (.aload_n 0, 1) := by decide +kernel
theorem dX10_days_8 : decode cX10_days 8 = .ok (.invokevirtual 199, 3) := by decide +kernel
theorem dX10_days_11 : decode cX10_days 11 = .ok (.iinc 2 1, 3) := by decide +kernel
theorem dX10_days_14 : decode cX10_days 14 = .ok (.goto (-12), 3) := by decide +kernel
theorem dX10_days_17 : decode cX10_days 17 = .ok (.return_, 1) := by decide +kernel
theorem dX10_all_0 : decode cX10_all 0 = .ok (.iconst 0, 1) := by decide +kernel
theorem dX10_all_1 : decode cX10_all 1 = .ok (.istore_n 2, 1) := by decide +kernel
theorem dX10_all_2 : decode cX10_all 2 = .ok (.iconst 0, 1) := by decide +kernel
theorem dX10_all_3 : decode cX10_all 3 = .ok (.istore_n 3, 1) := by decide +kernel
theorem dX10_all_4 : decode cX10_all 4 = .ok (.iload_n 3, 1) := by decide +kernel
theorem dX10_all_5 : decode cX10_all 5 = .ok (.aload_n 0, 1) := by decide +kernel
theorem dX10_all_6 : decode cX10_all 6 = .ok (.getfield 9, 3) := by decide +kernel
theorem dX10_all_9 : decode cX10_all 9 = .ok (.bipush 78, 2) := by decide +kernel
theorem dX10_all_11 : decode cX10_all 11 = .ok (.iaload, 1) := by decide +kernel
theorem dX10_all_12 : decode cX10_all 12 = .ok (.if_icmp .ge 18, 3) := by decide +kernel
theorem dX10_all_15 : decode cX10_all 15 = .ok (.iload_n 2, 1) := by decide +kernel
theorem dX10_all_16 : decode cX10_all 16 = .ok (.aload_n 0, 1) := by decide +kernel
theorem dX10_all_17 : decode cX10_all 17 = .ok (.iload_n 3, 1) := by decide +kernel
theorem dX10_all_18 : decode cX10_all 18 = .ok (.iload_n 1, 1) := by decide +kernel
theorem dX10_all_19 : decode cX10_all 19 = .ok (.invokevirtual 86, 3) := by decide +kernel
theorem dX10_all_22 : decode cX10_all 22 = .ok (.iadd, 1) := by decide +kernel
theorem dX10_all_23 : decode cX10_all 23 = .ok (.istore_n 2, 1) := by decide +kernel
theorem dX10_all_24 : decode cX10_all 24 = .ok (.iinc 3 1, 3) := by decide +kernel
theorem dX10_all_27 : decode cX10_all 27 = .ok (.goto (-23), 3) := by decide +kernel
theorem dX10_all_30 : decode cX10_all 30 = .ok (.iload_n 2, 1) := by decide +kernel
theorem dX10_all_31 : decode cX10_all 31 = .ok (.ireturn, 1) := by decide +kernel
theorem dX10_sore_0 : decode cX10_sore 0 = .ok (.aload_n 0, 1) := by decide +kernel
theorem dX10_sore_1 : decode cX10_sore 1 = .ok (.getfield 9, 3) := by decide +kernel
theorem dX10_sore_4 : decode cX10_sore 4 = .ok (.aload_n 0, 1) := by decide +kernel
theorem dX10_sore_5 : decode cX10_sore 5 = .ok (.getfield 15, 3) := by decide +kernel
theorem dX10_sore_8 : decode cX10_sore 8 = .ok (.invokestatic 78, 3) := by decide +kernel
theorem dX10_sore_11 : decode cX10_sore 11 = .ok (.aload_n 0, 1) := by decide +kernel
theorem dX10_sore_12 : decode cX10_sore 12 = .ok (.iload_n 1, 1) := by decide +kernel
theorem dX10_sore_13 : decode cX10_sore 13 = .ok (.iconst 4, 1) := by decide +kernel
theorem dX10_sore_14 : decode cX10_sore 14 = .ok (.invokevirtual 86, 3) := by decide +kernel
theorem dX10_sore_17 : decode cX10_sore 17 = .ok (.istore_n 2, 1) := by decide +kernel
theorem dX10_sore_18 : decode cX10_sore 18 = .ok (.bipush (-5), 2) := by decide +kernel
theorem dX10_sore_20 : decode cX10_sore 20 = .ok (.istore_n 3, 1) := by decide +kernel
theorem dX10_sore_21 : decode cX10_sore 21 = .ok (.iconst 0, 1) := by decide +kernel
theorem dX10_sore_22 : decode cX10_sore 22 = .ok (.istore 4, 2) := by decide +kernel
theorem dX10_sore_24 : decode cX10_sore 24 = .ok (.iload 4, 2) := by decide +kernel
theorem dX10_sore_26 : decode cX10_sore 26 = .ok (.bipush 60, 2) := by decide +kernel
theorem dX10_sore_28 : decode cX10_sore 28 = .ok (.if_icmp .gt 37, 3) := by decide +kernel
theorem dX10_sore_31 : decode cX10_sore 31 = .ok (.iload_n 3, 1) := by decide +kernel
theorem dX10_sore_32 : decode cX10_sore 32 = .ok (.bipush (-5), 2) := by decide +kernel
theorem dX10_sore_34 : decode cX10_sore 34 = .ok (.if_icmp .ne 31, 3) := by decide +kernel
theorem dX10_sore_37 : decode cX10_sore 37 = .ok (.aload_n 0, 1) := by decide +kernel
theorem dX10_sore_38 : decode cX10_sore 38 = .ok (.iload_n 1, 1) := by decide +kernel
theorem dX10_sore_39 : decode cX10_sore 39 = .ok (.iconst 4, 1) := by decide +kernel
theorem dX10_sore_40 : decode cX10_sore 40 = .ok (.invokevirtual 86, 3) := by decide +kernel
theorem dX10_sore_43 : decode cX10_sore 43 = .ok (.iload_n 2, 1) := by decide +kernel
theorem dX10_sore_44 : decode cX10_sore 44 = .ok (.if_icmp .le 8, 3) := by decide +kernel
theorem dX10_sore_47 : decode cX10_sore 47 = .ok (.iload 4, 2) := by decide +kernel
theorem dX10_sore_49 : decode cX10_sore 49 = .ok (.goto 5, 3) := by decide +kernel
theorem dX10_sore_52 : decode cX10_sore 52 = .ok (.bipush (-5), 2) := by decide +kernel
theorem dX10_sore_54 : decode cX10_sore 54 = .ok (.istore_n 3, 1) := by decide +kernel
theorem dX10_sore_55 : decode cX10_sore 55 = .ok (.aload_n 0, 1) := by decide +kernel
theorem dX10_sore_56 : decode cX10_sore 56 = .ok (.invokevirtual 199, 3) := by decide +kernel
theorem dX10_sore_59 : decode cX10_sore 59 = .ok (.iinc 4 1, 3) := by decide +kernel
theorem dX10_sore_62 : decode cX10_sore 62 = .ok (.goto (-38), 3) := by decide +kernel
theorem dX10_sore_65 : decode cX10_sore 65 = .ok (.aload_n 0, 1) := by decide +kernel
theorem dX10_sore_66 : decode cX10_sore 66 = .ok (.getfield 15, 3) := by decide +kernel
theorem dX10_sore_69 : decode cX10_sore 69 = .ok (.aload_n 0, 1) := by decide +kernel
theorem dX10_sore_70 : decode cX10_sore 70 = .ok (.getfield 9, 3) := by decide +kernel
theorem dX10_sore_73 : decode cX10_sore 73 = .ok (.invokestatic 78, 3) := by decide +kernel
theorem dX10_sore_76 : decode cX10_sore 76 = .ok (.iload_n 3, 1) := by decide +kernel
theorem dX10_sore_77 : decode cX10_sore 77 = .ok (.ireturn, 1) := by decide +kernel
theorem dX10_told_0 : decode cX10_told 0 = .ok (.iconst 0, 1) := by decide +kernel
theorem dX10_told_1 : decode cX10_told 1 = .ok (.istore_n 2, 1) := by decide +kernel
theorem dX10_told_2 : decode cX10_told 2 = .ok (.iload_n 1, 1) := by decide +kernel
theorem dX10_told_3 : decode cX10_told 3 = .ok (.tableswitch 97 0 4 #[33, 41, 46, 52, 58], 33) := by decide +kernel
theorem dX10_told_36 : decode cX10_told 36 = .ok (.aload_n 0, 1) := by decide +kernel
theorem dX10_told_37 : decode cX10_told 37 = .ok (.getfield 9, 3) := by decide +kernel
theorem dX10_told_40 : decode cX10_told 40 = .ok (.bipush 80, 2) := by decide +kernel
theorem dX10_told_42 : decode cX10_told 42 = .ok (.iaload, 1) := by decide +kernel
theorem dX10_told_43 : decode cX10_told 43 = .ok (.ireturn, 1) := by decide +kernel
theorem dX10_told_44 : decode cX10_told 44 = .ok (.aload_n 0, 1) := by decide +kernel
theorem dX10_told_45 : decode cX10_told 45 = .ok (.invokevirtual 190, 3) := by decide +kernel
theorem dX10_told_48 : decode cX10_told 48 = .ok (.ireturn, 1) := by decide +kernel
theorem dX10_told_49 : decode cX10_told 49 = .ok (.aload_n 0, 1) := by decide +kernel
theorem dX10_told_50 : decode cX10_told 50 = .ok (.iconst 4, 1) := by decide +kernel
theorem dX10_told_51 : decode cX10_told 51 = .ok (.invokevirtual 202, 3) := by decide +kernel
theorem dX10_told_54 : decode cX10_told 54 = .ok (.ireturn, 1) := by decide +kernel
theorem dX10_told_55 : decode cX10_told 55 = .ok (.aload_n 0, 1) := by decide +kernel
theorem dX10_told_56 : decode cX10_told 56 = .ok (.iconst 2, 1) := by decide +kernel
theorem dX10_told_57 : decode cX10_told 57 = .ok (.invokevirtual 202, 3) := by decide +kernel
theorem dX10_told_60 : decode cX10_told 60 = .ok (.ireturn, 1) := by decide +kernel
theorem dX10_told_61 : decode cX10_told 61 = .ok (.iconst 0, 1) := by decide +kernel
theorem dX10_told_62 : decode cX10_told 62 = .ok (.istore_n 3, 1) := by decide +kernel
theorem dX10_told_63 : decode cX10_told 63 = .ok (.iload_n 3, 1) := by decide +kernel
theorem dX10_told_64 : decode cX10_told 64 = .ok (.aload_n 0, 1) := by decide +kernel
theorem dX10_told_65 : decode cX10_told 65 = .ok (.getfield 9, 3) := by decide +kernel
theorem dX10_told_68 : decode cX10_told 68 = .ok (.bipush 79, 2) := by decide +kernel
theorem dX10_told_70 : decode cX10_told 70 = .ok (.iaload, 1) := by decide +kernel
theorem dX10_told_71 : decode cX10_told 71 = .ok (.if_icmp .ge 27, 3) := by decide +kernel
theorem dX10_told_74 : decode cX10_told 74 = .ok (.iload_n 2, 1) := by decide +kernel
theorem dX10_told_75 : decode cX10_told 75 = .ok (.aload_n 0, 1) := by decide +kernel
theorem dX10_told_76 : decode cX10_told 76 = .ok (.iload_n 3, 1) := by decide +kernel
theorem dX10_told_77 : decode cX10_told 77 = .ok (.invokevirtual 193, 3) := by decide +kernel
theorem dX10_told_80 : decode cX10_told 80 = .ok (.ifCond .eq 9, 3) := by decide +kernel
theorem dX10_told_83 : decode cX10_told 83 = .ok (.iconst 1, 1) := by decide +kernel
theorem dX10_told_84 : decode cX10_told 84 = .ok (.iload_n 3, 1) := by decide +kernel
theorem dX10_told_85 : decode cX10_told 85 = .ok (.ishl, 1) := by decide +kernel
theorem dX10_told_86 : decode cX10_told 86 = .ok (.goto 4, 3) := by decide +kernel
theorem dX10_told_89 : decode cX10_told 89 = .ok (.iconst 0, 1) := by decide +kernel
end
section
theorem dX10_told_90 : decode cX10_told 90 = .ok (.ior, 1) := by decide +kernel
theorem dX10_told_91 : decode cX10_told 91 = .ok (.istore_n 2, 1) := by decide +kernel
theorem dX10_told_92 : decode cX10_told 92 = .ok (.iinc 3 1, 3) := by decide +kernel
theorem dX10_told_95 : decode cX10_told 95 = .ok (.goto (-32), 3) := by decide +kernel
theorem dX10_told_98 : decode cX10_told 98 = .ok (.iload_n 2, 1) := by decide +kernel
theorem dX10_told_99 : decode cX10_told 99 = .ok (.ireturn, 1) := by decide +kernel
theorem dX10_told_100 : decode cX10_told 100 = .ok (.iconst (-1), 1) := by decide +kernel
theorem dX10_told_101 : decode cX10_told 101 = .ok (.ireturn, 1) := by decide +kernel
theorem dX10_pass_0 : decode cX10_pass 0 = .ok (.iload_n 1, 1) := by decide +kernel
theorem dX10_pass_1 : decode cX10_pass 1 = .ok (.iconst 0, 1) := by decide +kernel
theorem dX10_pass_2 : decode cX10_pass 2 = .ok (.bipush 60, 2) := by decide +kernel
theorem dX10_pass_4 : decode cX10_pass 4 = .ok (.invokestatic 82, 3) := by decide +kernel
theorem dX10_pass_7 : decode cX10_pass 7 = .ok (.ifCond .ne 6, 3) := by decide +kernel
theorem dX10_pass_10 : decode cX10_pass 10 = .ok (.bipush (-2), 2) := by decide +kernel
theorem dX10_pass_12 : decode cX10_pass 12 = .ok (.ireturn, 1) := by decide +kernel
theorem dX10_pass_13 : decode cX10_pass 13 = .ok (.aload_n 0, 1) := by decide +kernel
theorem dX10_pass_14 : decode cX10_pass 14 = .ok (.getfield 9, 3) := by decide +kernel
theorem dX10_pass_17 : decode cX10_pass 17 = .ok (.bipush 80, 2) := by decide +kernel
theorem dX10_pass_19 : decode cX10_pass 19 = .ok (.iaload, 1) := by decide +kernel
theorem dX10_pass_20 : decode cX10_pass 20 = .ok (.iload_n 1, 1) := by decide +kernel
theorem dX10_pass_21 : decode cX10_pass 21 = .ok (.iadd, 1) := by decide +kernel
theorem dX10_pass_22 : decode cX10_pass 22 = .ok (.sipush 9999, 3) := by decide +kernel
theorem dX10_pass_25 : decode cX10_pass 25 = .ok (.if_icmp .le 6, 3) := by decide +kernel
theorem dX10_pass_28 : decode cX10_pass 28 = .ok (.bipush (-3), 2) := by decide +kernel
theorem dX10_pass_30 : decode cX10_pass 30 = .ok (.ireturn, 1) := by decide +kernel
theorem dX10_pass_31 : decode cX10_pass 31 = .ok (.aload_n 0, 1) := by decide +kernel
theorem dX10_pass_32 : decode cX10_pass 32 = .ok (.iload_n 1, 1) := by decide +kernel
theorem dX10_pass_33 : decode cX10_pass 33 = .ok (.invokevirtual 205, 3) := by decide +kernel
theorem dX10_pass_36 : decode cX10_pass 36 = .ok (.aload_n 0, 1) := by decide +kernel
theorem dX10_pass_37 : decode cX10_pass 37 = .ok (.getfield 9, 3) := by decide +kernel
theorem dX10_pass_40 : decode cX10_pass 40 = .ok (.bipush 80, 2) := by decide +kernel
theorem dX10_pass_42 : decode cX10_pass 42 = .ok (.iaload, 1) := by decide +kernel
theorem dX10_pass_43 : decode cX10_pass 43 = .ok (.ireturn, 1) := by decide +kernel
theorem dX10_on_0 : decode cX10_on 0 = .ok (.iload_n 2, 1) := by decide +kernel
theorem dX10_on_1 : decode cX10_on 1 = .ok (.ifCond .eq 38, 3) := by decide +kernel
theorem dX10_on_4 : decode cX10_on 4 = .ok (.aload_n 0, 1) := by decide +kernel
theorem dX10_on_5 : decode cX10_on 5 = .ok (.iload_n 2, 1) := by decide +kernel
theorem dX10_on_6 : decode cX10_on 6 = .ok (.bipush 10, 2) := by decide +kernel
theorem dX10_on_8 : decode cX10_on 8 = .ok (.isub, 1) := by decide +kernel
theorem dX10_on_9 : decode cX10_on 9 = .ok (.invokevirtual 97, 3) := by decide +kernel
theorem dX10_on_12 : decode cX10_on 12 = .ok (.ifCond .ne 27, 3) := by decide +kernel
theorem dX10_on_15 : decode cX10_on 15 = .ok (.aload_n 0, 1) := by decide +kernel
theorem dX10_on_16 : decode cX10_on 16 = .ok (.iload_n 2, 1) := by decide +kernel
theorem dX10_on_17 : decode cX10_on 17 = .ok (.bipush 20, 2) := by decide +kernel
theorem dX10_on_19 : decode cX10_on 19 = .ok (.isub, 1) := by decide +kernel
theorem dX10_on_20 : decode cX10_on 20 = .ok (.invokevirtual 97, 3) := by decide +kernel
theorem dX10_on_23 : decode cX10_on 23 = .ok (.ifCond .ne 16, 3) := by decide +kernel
theorem dX10_on_26 : decode cX10_on 26 = .ok (.aload_n 0, 1) := by decide +kernel
theorem dX10_on_27 : decode cX10_on 27 = .ok (.iload_n 2, 1) := by decide +kernel
theorem dX10_on_28 : decode cX10_on 28 = .ok (.bipush 30, 2) := by decide +kernel
theorem dX10_on_30 : decode cX10_on 30 = .ok (.isub, 1) := by decide +kernel
theorem dX10_on_31 : decode cX10_on 31 = .ok (.invokevirtual 97, 3) := by decide +kernel
theorem dX10_on_34 : decode cX10_on 34 = .ok (.ifCond .ne 5, 3) := by decide +kernel
theorem dX10_on_37 : decode cX10_on 37 = .ok (.iconst (-1), 1) := by decide +kernel
theorem dX10_on_38 : decode cX10_on 38 = .ok (.ireturn, 1) := by decide +kernel
theorem dX10_on_39 : decode cX10_on 39 = .ok (.iload_n 1, 1) := by decide +kernel
theorem dX10_on_40 : decode cX10_on 40 = .ok (.iconst 0, 1) := by decide +kernel
theorem dX10_on_41 : decode cX10_on 41 = .ok (.bipush 60, 2) := by decide +kernel
theorem dX10_on_43 : decode cX10_on 43 = .ok (.invokestatic 82, 3) := by decide +kernel
theorem dX10_on_46 : decode cX10_on 46 = .ok (.ifCond .ne 6, 3) := by decide +kernel
theorem dX10_on_49 : decode cX10_on 49 = .ok (.bipush (-2), 2) := by decide +kernel
theorem dX10_on_51 : decode cX10_on 51 = .ok (.ireturn, 1) := by decide +kernel
theorem dX10_on_52 : decode cX10_on 52 = .ok (.aload_n 0, 1) := by decide +kernel
theorem dX10_on_53 : decode cX10_on 53 = .ok (.getfield 9, 3) := by decide +kernel
theorem dX10_on_56 : decode cX10_on 56 = .ok (.aload_n 0, 1) := by decide +kernel
theorem dX10_on_57 : decode cX10_on 57 = .ok (.getfield 15, 3) := by decide +kernel
theorem dX10_on_60 : decode cX10_on 60 = .ok (.invokestatic 78, 3) := by decide +kernel
theorem dX10_on_63 : decode cX10_on 63 = .ok (.aload_n 0, 1) := by decide +kernel
theorem dX10_on_64 : decode cX10_on 64 = .ok (.iload_n 1, 1) := by decide +kernel
theorem dX10_on_65 : decode cX10_on 65 = .ok (.invokevirtual 205, 3) := by decide +kernel
theorem dX10_on_68 : decode cX10_on 68 = .ok (.iload_n 2, 1) := by decide +kernel
theorem dX10_on_69 : decode cX10_on 69 = .ok (.ifCond .ne 11, 3) := by decide +kernel
theorem dX10_on_72 : decode cX10_on 72 = .ok (.aload_n 0, 1) := by decide +kernel
theorem dX10_on_73 : decode cX10_on 73 = .ok (.iconst 4, 1) := by decide +kernel
theorem dX10_on_74 : decode cX10_on 74 = .ok (.invokevirtual 202, 3) := by decide +kernel
theorem dX10_on_77 : decode cX10_on 77 = .ok (.goto 17, 3) := by decide +kernel
theorem dX10_on_80 : decode cX10_on 80 = .ok (.aload_n 0, 1) := by decide +kernel
theorem dX10_on_81 : decode cX10_on 81 = .ok (.iload_n 2, 1) := by decide +kernel
theorem dX10_on_82 : decode cX10_on 82 = .ok (.bipush 10, 2) := by decide +kernel
theorem dX10_on_84 : decode cX10_on 84 = .ok (.irem, 1) := by decide +kernel
theorem dX10_on_85 : decode cX10_on 85 = .ok (.iload_n 2, 1) := by decide +kernel
theorem dX10_on_86 : decode cX10_on 86 = .ok (.bipush 10, 2) := by decide +kernel
theorem dX10_on_88 : decode cX10_on 88 = .ok (.idiv, 1) := by decide +kernel
theorem dX10_on_89 : decode cX10_on 89 = .ok (.iconst 1, 1) := by decide +kernel
theorem dX10_on_90 : decode cX10_on 90 = .ok (.iadd, 1) := by decide +kernel
theorem dX10_on_91 : decode cX10_on 91 = .ok (.invokevirtual 86, 3) := by decide +kernel
theorem dX10_on_94 : decode cX10_on 94 = .ok (.istore_n 3, 1) := by decide +kernel
theorem dX10_on_95 : decode cX10_on 95 = .ok (.aload_n 0, 1) := by decide +kernel
theorem dX10_on_96 : decode cX10_on 96 = .ok (.getfield 15, 3) := by decide +kernel
theorem dX10_on_99 : decode cX10_on 99 = .ok (.aload_n 0, 1) := by decide +kernel
theorem dX10_on_100 : decode cX10_on 100 = .ok (.getfield 9, 3) := by decide +kernel
theorem dX10_on_103 : decode cX10_on 103 = .ok (.invokestatic 78, 3) := by decide +kernel
theorem dX10_on_106 : decode cX10_on 106 = .ok (.iload_n 3, 1) := by decide +kernel
theorem dX10_on_107 : decode cX10_on 107 = .ok (.ireturn, 1) := by decide +kernel
theorem dX10_hurtBehind_0 : decode cX10_hurtBehind 0 = .ok (.aload_n 0, 1) := by decide +kernel
theorem dX10_hurtBehind_1 : decode cX10_hurtBehind 1 = .ok (.getfield 9, 3) := by decide +kernel
theorem dX10_hurtBehind_4 : decode cX10_hurtBehind 4 = .ok (.aload_n 0, 1) := by decide +kernel
theorem dX10_hurtBehind_5 : decode cX10_hurtBehind 5 = .ok (.getfield 15, 3) := by decide +kernel
theorem dX10_hurtBehind_8 : decode cX10_hurtBehind 8 = .ok (.invokestatic 78, 3) := by decide +kernel
theorem dX10_hurtBehind_11 : decode cX10_hurtBehind 11 = .ok (.aload_n 0, 1) := by decide +kernel
theorem dX10_hurtBehind_12 : decode cX10_hurtBehind 12 = .ok (.iload_n 1, 1) := by decide +kernel
theorem dX10_hurtBehind_13 : decode cX10_hurtBehind 13 = .ok (.invokevirtual 205, 3) := by decide +kernel
theorem dX10_hurtBehind_16 : decode cX10_hurtBehind 16 = .ok (.aload_n 0, 1) := by decide +kernel
theorem dX10_hurtBehind_17 : decode cX10_hurtBehind 17 = .ok (.iconst 4, 1) := by decide +kernel
theorem dX10_hurtBehind_18 : decode cX10_hurtBehind 18 = .ok (.invokevirtual 202, 3) := by decide +kernel
theorem dX10_hurtBehind_21 : decode cX10_hurtBehind 21 = .ok (.istore_n 2, 1) := by decide +kernel
theorem dX10_hurtBehind_22 : decode cX10_hurtBehind 22 = .ok (.aload_n 0, 1) := by decide +kernel
theorem dX10_hurtBehind_23 : decode cX10_hurtBehind 23 = .ok (.getfield 15, 3) := by decide +kernel
theorem dX10_hurtBehind_26 : decode cX10_hurtBehind 26 = .ok (.aload_n 0, 1) := by decide +kernel
theorem dX10_hurtBehind_27 : decode cX10_hurtBehind 27 = .ok (.getfield 9, 3) := by decide +kernel
theorem dX10_hurtBehind_30 : decode cX10_hurtBehind 30 = .ok (.invokestatic 78, 3) := by decide +kernel
theorem dX10_hurtBehind_33 : decode cX10_hurtBehind 33 = .ok (.iload_n 2, 1) := by decide +kernel
theorem dX10_hurtBehind_34 : decode cX10_hurtBehind 34 = .ok (.ireturn, 1) := by decide +kernel
theorem dX10_many_0 : decode cX10_many 0 = .ok (.iconst 0, 1) := by decide +kernel
theorem dX10_many_1 : decode cX10_many 1 = .ok (.istore_n 1, 1) := by decide +kernel
theorem dX10_many_2 : decode cX10_many 2 = .ok (.iconst 0, 1) := by decide +kernel
theorem dX10_many_3 : decode cX10_many 3 = .ok (.istore_n 2, 1) := by decide +kernel
theorem dX10_many_4 : decode cX10_many 4 = .ok (.iload_n 2, 1) := by decide +kernel
theorem dX10_many_5 : decode cX10_many 5 = .ok (.bipush 6, 2) := by decide +kernel
theorem dX10_many_7 : decode cX10_many 7 = .ok (.if_icmp .ge 17, 3) := by decide +kernel
theorem dX10_many_10 : decode cX10_many 10 = .ok (.iload_n 1, 1) := by decide +kernel
theorem dX10_many_11 : decode cX10_many 11 = .ok (.iload_n 0, 1) := by decide +kernel
theorem dX10_many_12 : decode cX10_many 12 = .ok (.iload_n 2, 1) := by decide +kernel
theorem dX10_many_13 : decode cX10_many 13 = .ok (.ishr, 1) := by decide +kernel
theorem dX10_many_14 : decode cX10_many 14 = .ok (.iconst 1, 1) := by decide +kernel
theorem dX10_many_15 : decode cX10_many 15 = .ok (.iand, 1) := by decide +kernel
theorem dX10_many_16 : decode cX10_many 16 = .ok (.iadd, 1) := by decide +kernel
theorem dX10_many_17 : decode cX10_many 17 = .ok (.istore_n 1, 1) := by decide +kernel
theorem dX10_many_18 : decode cX10_many 18 = .ok (.iinc 2 1, 3) := by decide +kernel
theorem dX10_many_21 : decode cX10_many 21 = .ok (.goto (-17), 3) := by decide +kernel
theorem dX10_many_24 : decode cX10_many 24 = .ok (.iload_n 1, 1) := by decide +kernel
theorem dX10_many_25 : decode cX10_many 25 = .ok (.ireturn, 1) := by decide +kernel
theorem dX10_mends_0 : decode cX10_mends 0 = .ok (.aload_n 0, 1) := by decide +kernel
theorem dX10_mends_1 : decode cX10_mends 1 = .ok (.iconst 4, 1) := by decide +kernel
theorem dX10_mends_2 : decode cX10_mends 2 = .ok (.invokevirtual 202, 3) := by decide +kernel
theorem dX10_mends_5 : decode cX10_mends 5 = .ok (.istore_n 2, 1) := by decide +kernel
theorem dX10_mends_6 : decode cX10_mends 6 = .ok (.bipush (-5), 2) := by decide +kernel
theorem dX10_mends_8 : decode cX10_mends 8 = .ok (.istore_n 3, 1) := by decide +kernel
theorem dX10_mends_9 : decode cX10_mends 9 = .ok (.iconst 0, 1) := by decide +kernel
theorem dX10_mends_10 : decode cX10_mends 10 = .ok (.istore 4, 2) := by decide +kernel
theorem dX10_mends_12 : decode cX10_mends 12 = .ok (.iload 4, 2) := by decide +kernel
theorem dX10_mends_14 : decode cX10_mends 14 = .ok (.iconst 1, 1) := by decide +kernel
theorem dX10_mends_15 : decode cX10_mends 15 = .ok (.aload_n 0, 1) := by decide +kernel
theorem dX10_mends_16 : decode cX10_mends 16 = .ok (.getfield 9, 3) := by decide +kernel
theorem dX10_mends_19 : decode cX10_mends 19 = .ok (.bipush 78, 2) := by decide +kernel
theorem dX10_mends_21 : decode cX10_mends 21 = .ok (.iaload, 1) := by decide +kernel
theorem dX10_mends_22 : decode cX10_mends 22 = .ok (.ishl, 1) := by decide +kernel
theorem dX10_mends_23 : decode cX10_mends 23 = .ok (.if_icmp .ge 137, 3) := by decide +kernel
theorem dX10_mends_26 : decode cX10_mends 26 = .ok (.iload_n 3, 1) := by decide +kernel
theorem dX10_mends_27 : decode cX10_mends 27 = .ok (.bipush (-5), 2) := by decide +kernel
theorem dX10_mends_29 : decode cX10_mends 29 = .ok (.if_icmp .eq 15, 3) := by decide +kernel
theorem dX10_mends_32 : decode cX10_mends 32 = .ok (.iload 4, 2) := by decide +kernel
theorem dX10_mends_34 : decode cX10_mends 34 = .ok (.invokestatic 208, 3) := by decide +kernel
theorem dX10_mends_37 : decode cX10_mends 37 = .ok (.iload_n 3, 1) := by decide +kernel
theorem dX10_mends_38 : decode cX10_mends 38 = .ok (.invokestatic 208, 3) := by decide +kernel
theorem dX10_mends_41 : decode cX10_mends 41 = .ok (.if_icmp .ge 113, 3) := by decide +kernel
theorem dX10_mends_44 : decode cX10_mends 44 = .ok (.iconst 0, 1) := by decide +kernel
theorem dX10_mends_45 : decode cX10_mends 45 = .ok (.istore 5, 2) := by decide +kernel
theorem dX10_mends_47 : decode cX10_mends 47 = .ok (.iload 5, 2) := by decide +kernel
theorem dX10_mends_49 : decode cX10_mends 49 = .ok (.aload_n 0, 1) := by decide +kernel
theorem dX10_mends_50 : decode cX10_mends 50 = .ok (.getfield 9, 3) := by decide +kernel
theorem dX10_mends_53 : decode cX10_mends 53 = .ok (.bipush 78, 2) := by decide +kernel
theorem dX10_mends_55 : decode cX10_mends 55 = .ok (.iaload, 1) := by decide +kernel
theorem dX10_mends_56 : decode cX10_mends 56 = .ok (.if_icmp .ge 46, 3) := by decide +kernel
theorem dX10_mends_59 : decode cX10_mends 59 = .ok (.aload_n 0, 1) := by decide +kernel
theorem dX10_mends_60 : decode cX10_mends 60 = .ok (.getfield 46, 3) := by decide +kernel
theorem dX10_mends_63 : decode cX10_mends 63 = .ok (.iload 5, 2) := by decide +kernel
theorem dX10_mends_65 : decode cX10_mends 65 = .ok (.aload_n 0, 1) := by decide +kernel
theorem dX10_mends_66 : decode cX10_mends 66 = .ok (.iload 5, 2) := by decide +kernel
theorem dX10_mends_68 : decode cX10_mends 68 = .ok (.iconst 2, 1) := by decide +kernel
theorem dX10_mends_69 : decode cX10_mends 69 = .ok (.iload 4, 2) := by decide +kernel
theorem dX10_mends_71 : decode cX10_mends 71 = .ok (.iload 5, 2) := by decide +kernel
theorem dX10_mends_73 : decode cX10_mends 73 = .ok (.ishr, 1) := by decide +kernel
theorem dX10_mends_74 : decode cX10_mends 74 = .ok (.iconst 1, 1) := by decide +kernel
theorem dX10_mends_75 : decode cX10_mends 75 = .ok (.iand, 1) := by decide +kernel
theorem dX10_mends_76 : decode cX10_mends 76 = .ok (.iconst 1, 1) := by decide +kernel
theorem dX10_mends_77 : decode cX10_mends 77 = .ok (.if_icmp .ne 8, 3) := by decide +kernel
theorem dX10_mends_80 : decode cX10_mends 80 = .ok (.bipush 99, 2) := by decide +kernel
theorem dX10_mends_82 : decode cX10_mends 82 = .ok (.goto 10, 3) := by decide +kernel
theorem dX10_mends_85 : decode cX10_mends 85 = .ok (.aload_n 0, 1) := by decide +kernel
theorem dX10_mends_86 : decode cX10_mends 86 = .ok (.iload 5, 2) := by decide +kernel
theorem dX10_mends_88 : decode cX10_mends 88 = .ok (.iconst 2, 1) := by decide +kernel
theorem dX10_mends_89 : decode cX10_mends 89 = .ok (.invokevirtual 86, 3) := by decide +kernel
theorem dX10_mends_92 : decode cX10_mends 92 = .ok (.invokevirtual 93, 3) := by decide +kernel
theorem dX10_mends_95 : decode cX10_mends 95 = .ok (.iastore, 1) := by decide +kernel
theorem dX10_mends_96 : decode cX10_mends 96 = .ok (.iinc 5 1, 3) := by decide +kernel
theorem dX10_mends_99 : decode cX10_mends 99 = .ok (.goto (-52), 3) := by decide +kernel
theorem dX10_mends_102 : decode cX10_mends 102 = .ok (.aload_n 0, 1) := by decide +kernel
theorem dX10_mends_103 : decode cX10_mends 103 = .ok (.iload_n 1, 1) := by decide +kernel
theorem dX10_mends_104 : decode cX10_mends 104 = .ok (.invokevirtual 211, 3) := by decide +kernel
theorem dX10_mends_107 : decode cX10_mends 107 = .ok (.iload_n 2, 1) := by decide +kernel
theorem dX10_mends_108 : decode cX10_mends 108 = .ok (.if_icmp .gt 8, 3) := by decide +kernel
theorem dX10_mends_111 : decode cX10_mends 111 = .ok (.iload 4, 2) := by decide +kernel
theorem dX10_mends_113 : decode cX10_mends 113 = .ok (.goto 4, 3) := by decide +kernel
theorem dX10_mends_116 : decode cX10_mends 116 = .ok (.iload_n 3, 1) := by decide +kernel
theorem dX10_mends_117 : decode cX10_mends 117 = .ok (.istore_n 3, 1) := by decide +kernel
theorem dX10_mends_118 : decode cX10_mends 118 = .ok (.iconst 0, 1) := by decide +kernel
theorem dX10_mends_119 : decode cX10_mends 119 = .ok (.istore 5, 2) := by decide +kernel
theorem dX10_mends_121 : decode cX10_mends 121 = .ok (.iload 5, 2) := by decide +kernel
theorem dX10_mends_123 : decode cX10_mends 123 = .ok (.aload_n 0, 1) := by decide +kernel
theorem dX10_mends_124 : decode cX10_mends 124 = .ok (.getfield 9, 3) := by decide +kernel
theorem dX10_mends_127 : decode cX10_mends 127 = .ok (.bipush 78, 2) := by decide +kernel
theorem dX10_mends_129 : decode cX10_mends 129 = .ok (.iaload, 1) := by decide +kernel
theorem dX10_mends_130 : decode cX10_mends 130 = .ok (.if_icmp .ge 24, 3) := by decide +kernel
theorem dX10_mends_133 : decode cX10_mends 133 = .ok (.aload_n 0, 1) := by decide +kernel
theorem dX10_mends_134 : decode cX10_mends 134 = .ok (.iload 5, 2) := by decide +kernel
theorem dX10_mends_136 : decode cX10_mends 136 = .ok (.iconst 2, 1) := by decide +kernel
theorem dX10_mends_137 : decode cX10_mends 137 = .ok (.aload_n 0, 1) := by decide +kernel
theorem dX10_mends_138 : decode cX10_mends 138 = .ok (.getfield 46, 3) := by decide +kernel
theorem dX10_mends_141 : decode cX10_mends 141 = .ok (.iload 5, 2) := by decide +kernel
theorem dX10_mends_143 : decode cX10_mends 143 = .ok (.iaload, 1) := by decide +kernel
theorem dX10_mends_144 : decode cX10_mends 144 = .ok (.invokevirtual 93, 3) := by decide +kernel
theorem dX10_mends_147 : decode cX10_mends 147 = .ok (.pop, 1) := by decide +kernel
theorem dX10_mends_148 : decode cX10_mends 148 = .ok (.iinc 5 1, 3) := by decide +kernel
theorem dX10_mends_151 : decode cX10_mends 151 = .ok (.goto (-30), 3) := by decide +kernel
theorem dX10_mends_154 : decode cX10_mends 154 = .ok (.iinc 4 1, 3) := by decide +kernel
theorem dX10_mends_157 : decode cX10_mends 157 = .ok (.goto (-145), 3) := by decide +kernel
theorem dX10_mends_160 : decode cX10_mends 160 = .ok (.iload_n 3, 1) := by decide +kernel
theorem dX10_mends_161 : decode cX10_mends 161 = .ok (.ireturn, 1) := by decide +kernel
theorem dX10_swap_0 : decode cX10_swap 0 = .ok (.aload_n 0, 1) := by decide +kernel
theorem dX10_swap_1 : decode cX10_swap 1 = .ok (.iload_n 1, 1) := by decide +kernel
theorem dX10_swap_2 : decode cX10_swap 2 = .ok (.iconst 2, 1) := by decide +kernel
theorem dX10_swap_3 : decode cX10_swap 3 = .ok (.aload_n 0, 1) := by decide +kernel
theorem dX10_swap_4 : decode cX10_swap 4 = .ok (.iload_n 2, 1) := by decide +kernel
theorem dX10_swap_5 : decode cX10_swap 5 = .ok (.iconst 2, 1) := by decide +kernel
theorem dX10_swap_6 : decode cX10_swap 6 = .ok (.invokevirtual 86, 3) := by decide +kernel
theorem dX10_swap_9 : decode cX10_swap 9 = .ok (.invokevirtual 93, 3) := by decide +kernel
theorem dX10_swap_12 : decode cX10_swap 12 = .ok (.istore_n 3, 1) := by decide +kernel
theorem dX10_swap_13 : decode cX10_swap 13 = .ok (.aload_n 0, 1) := by decide +kernel
theorem dX10_swap_14 : decode cX10_swap 14 = .ok (.iload_n 2, 1) := by decide +kernel
theorem dX10_swap_15 : decode cX10_swap 15 = .ok (.iconst 2, 1) := by decide +kernel
theorem dX10_swap_16 : decode cX10_swap 16 = .ok (.iload_n 3, 1) := by decide +kernel
theorem dX10_swap_17 : decode cX10_swap 17 = .ok (.invokevirtual 93, 3) := by decide +kernel
theorem dX10_swap_20 : decode cX10_swap 20 = .ok (.pop, 1) := by decide +kernel
theorem dX10_swap_21 : decode cX10_swap 21 = .ok (.return_, 1) := by decide +kernel
theorem dX10_changes_0 : decode cX10_changes 0 = .ok (.aload_n 0, 1) := by decide +kernel
theorem dX10_changes_1 : decode cX10_changes 1 = .ok (.iload_n 1, 1) := by decide +kernel
theorem dX10_changes_2 : decode cX10_changes 2 = .ok (.invokevirtual 211, 3) := by decide +kernel
theorem dX10_changes_5 : decode cX10_changes 5 = .ok (.istore_n 2, 1) := by decide +kernel
theorem dX10_changes_6 : decode cX10_changes 6 = .ok (.bipush (-5), 2) := by decide +kernel
theorem dX10_changes_8 : decode cX10_changes 8 = .ok (.istore_n 3, 1) := by decide +kernel
theorem dX10_changes_9 : decode cX10_changes 9 = .ok (.iconst 0, 1) := by decide +kernel
theorem dX10_changes_10 : decode cX10_changes 10 = .ok (.istore 4, 2) := by decide +kernel
theorem dX10_changes_12 : decode cX10_changes 12 = .ok (.iload 4, 2) := by decide +kernel
theorem dX10_changes_14 : decode cX10_changes 14 = .ok (.aload_n 0, 1) := by decide +kernel
theorem dX10_changes_15 : decode cX10_changes 15 = .ok (.getfield 9, 3) := by decide +kernel
theorem dX10_changes_18 : decode cX10_changes 18 = .ok (.bipush 78, 2) := by decide +kernel
theorem dX10_changes_20 : decode cX10_changes 20 = .ok (.iaload, 1) := by decide +kernel
theorem dX10_changes_21 : decode cX10_changes 21 = .ok (.if_icmp .ge 82, 3) := by decide +kernel
theorem dX10_changes_24 : decode cX10_changes 24 = .ok (.iload 4, 2) := by decide +kernel
theorem dX10_changes_26 : decode cX10_changes 26 = .ok (.iconst 1, 1) := by decide +kernel
theorem dX10_changes_27 : decode cX10_changes 27 = .ok (.iadd, 1) := by decide +kernel
theorem dX10_changes_28 : decode cX10_changes 28 = .ok (.istore 5, 2) := by decide +kernel
theorem dX10_changes_30 : decode cX10_changes 30 = .ok (.iload 5, 2) := by decide +kernel
theorem dX10_changes_32 : decode cX10_changes 32 = .ok (.aload_n 0, 1) := by decide +kernel
theorem dX10_changes_33 : decode cX10_changes 33 = .ok (.getfield 9, 3) := by decide +kernel
theorem dX10_changes_36 : decode cX10_changes 36 = .ok (.bipush 78, 2) := by decide +kernel
theorem dX10_changes_38 : decode cX10_changes 38 = .ok (.iaload, 1) := by decide +kernel
theorem dX10_changes_39 : decode cX10_changes 39 = .ok (.if_icmp .ge 58, 3) := by decide +kernel
theorem dX10_changes_42 : decode cX10_changes 42 = .ok (.aload_n 0, 1) := by decide +kernel
theorem dX10_changes_43 : decode cX10_changes 43 = .ok (.iload 4, 2) := by decide +kernel
theorem dX10_changes_45 : decode cX10_changes 45 = .ok (.iload 5, 2) := by decide +kernel
theorem dX10_changes_47 : decode cX10_changes 47 = .ok (.invokevirtual 214, 3) := by decide +kernel
theorem dX10_changes_50 : decode cX10_changes 50 = .ok (.aload_n 0, 1) := by decide +kernel
theorem dX10_changes_51 : decode cX10_changes 51 = .ok (.iload_n 1, 1) := by decide +kernel
theorem dX10_changes_52 : decode cX10_changes 52 = .ok (.invokevirtual 211, 3) := by decide +kernel
theorem dX10_changes_55 : decode cX10_changes 55 = .ok (.istore 6, 2) := by decide +kernel
theorem dX10_changes_57 : decode cX10_changes 57 = .ok (.aload_n 0, 1) := by decide +kernel
theorem dX10_changes_58 : decode cX10_changes 58 = .ok (.iload 4, 2) := by decide +kernel
theorem dX10_changes_60 : decode cX10_changes 60 = .ok (.iload 5, 2) := by decide +kernel
theorem dX10_changes_62 : decode cX10_changes 62 = .ok (.invokevirtual 214, 3) := by decide +kernel
theorem dX10_changes_65 : decode cX10_changes 65 = .ok (.iload 6, 2) := by decide +kernel
theorem dX10_changes_67 : decode cX10_changes 67 = .ok (.iload_n 2, 1) := by decide +kernel
theorem dX10_changes_68 : decode cX10_changes 68 = .ok (.if_icmp .ge 14, 3) := by decide +kernel
theorem dX10_changes_71 : decode cX10_changes 71 = .ok (.bipush 10, 2) := by decide +kernel
theorem dX10_changes_73 : decode cX10_changes 73 = .ok (.iload 4, 2) := by decide +kernel
theorem dX10_changes_75 : decode cX10_changes 75 = .ok (.imul, 1) := by decide +kernel
theorem dX10_changes_76 : decode cX10_changes 76 = .ok (.iload 5, 2) := by decide +kernel
theorem dX10_changes_78 : decode cX10_changes 78 = .ok (.iadd, 1) := by decide +kernel
theorem dX10_changes_79 : decode cX10_changes 79 = .ok (.goto 4, 3) := by decide +kernel
theorem dX10_changes_82 : decode cX10_changes 82 = .ok (.iload_n 3, 1) := by decide +kernel
theorem dX10_changes_83 : decode cX10_changes 83 = .ok (.istore_n 3, 1) := by decide +kernel
theorem dX10_changes_84 : decode cX10_changes 84 = .ok (.iload 6, 2) := by decide +kernel
theorem dX10_changes_86 : decode cX10_changes 86 = .ok (.iload_n 2, 1) := by decide +kernel
theorem dX10_changes_87 : decode cX10_changes 87 = .ok (.invokestatic 182, 3) := by decide +kernel
theorem dX10_changes_90 : decode cX10_changes 90 = .ok (.istore_n 2, 1) := by decide +kernel
theorem dX10_changes_91 : decode cX10_changes 91 = .ok (.iinc 5 1, 3) := by decide +kernel
theorem dX10_changes_94 : decode cX10_changes 94 = .ok (.goto (-64), 3) := by decide +kernel
theorem dX10_changes_97 : decode cX10_changes 97 = .ok (.iinc 4 1, 3) := by decide +kernel
theorem dX10_changes_100 : decode cX10_changes 100 = .ok (.goto (-88), 3) := by decide +kernel
theorem dX10_changes_103 : decode cX10_changes 103 = .ok (.iload_n 3, 1) := by decide +kernel
theorem dX10_changes_104 : decode cX10_changes 104 = .ok (.ireturn, 1) := by decide +kernel
theorem dX10_aimOf_0 : decode cX10_aimOf 0 = .ok (.aload_n 0, 1) := by decide +kernel
theorem dX10_aimOf_1 : decode cX10_aimOf 1 = .ok (.iload_n 1, 1) := by decide +kernel
theorem dX10_aimOf_2 : decode cX10_aimOf 2 = .ok (.iconst 2, 1) := by decide +kernel
theorem dX10_aimOf_3 : decode cX10_aimOf 3 = .ok (.invokevirtual 90, 3) := by decide +kernel
theorem dX10_aimOf_6 : decode cX10_aimOf 6 = .ok (.istore_n 3, 1) := by decide +kernel
theorem dX10_aimOf_7 : decode cX10_aimOf 7 = .ok (.bipush (-5), 2) := by decide +kernel
theorem dX10_aimOf_9 : decode cX10_aimOf 9 = .ok (.istore 4, 2) := by decide +kernel
theorem dX10_aimOf_11 : decode cX10_aimOf 11 = .ok (.ldc 219, 2) := by decide +kernel
theorem dX10_aimOf_13 : decode cX10_aimOf 13 = .ok (.istore 5, 2) := by decide +kernel
theorem dX10_aimOf_15 : decode cX10_aimOf 15 = .ok (.iconst 0, 1) := by decide +kernel
theorem dX10_aimOf_16 : decode cX10_aimOf 16 = .ok (.istore 6, 2) := by decide +kernel
theorem dX10_aimOf_18 : decode cX10_aimOf 18 = .ok (.iload 6, 2) := by decide +kernel
theorem dX10_aimOf_20 : decode cX10_aimOf 20 = .ok (.aload_n 0, 1) := by decide +kernel
theorem dX10_aimOf_21 : decode cX10_aimOf 21 = .ok (.getfield 9, 3) := by decide +kernel
theorem dX10_aimOf_24 : decode cX10_aimOf 24 = .ok (.bipush 78, 2) := by decide +kernel
theorem dX10_aimOf_26 : decode cX10_aimOf 26 = .ok (.iaload, 1) := by decide +kernel
theorem dX10_aimOf_27 : decode cX10_aimOf 27 = .ok (.if_icmp .ge 49, 3) := by decide +kernel
theorem dX10_aimOf_30 : decode cX10_aimOf 30 = .ok (.aload_n 0, 1) := by decide +kernel
theorem dX10_aimOf_31 : decode cX10_aimOf 31 = .ok (.iload_n 1, 1) := by decide +kernel
theorem dX10_aimOf_32 : decode cX10_aimOf 32 = .ok (.iload 6, 2) := by decide +kernel
theorem dX10_aimOf_34 : decode cX10_aimOf 34 = .ok (.invokevirtual 114, 3) := by decide +kernel
theorem dX10_aimOf_37 : decode cX10_aimOf 37 = .ok (.pop, 1) := by decide +kernel
theorem dX10_aimOf_38 : decode cX10_aimOf 38 = .ok (.aload_n 0, 1) := by decide +kernel
theorem dX10_aimOf_39 : decode cX10_aimOf 39 = .ok (.iload_n 2, 1) := by decide +kernel
theorem dX10_aimOf_40 : decode cX10_aimOf 40 = .ok (.invokevirtual 211, 3) := by decide +kernel
theorem dX10_aimOf_43 : decode cX10_aimOf 43 = .ok (.istore 7, 2) := by decide +kernel
theorem dX10_aimOf_45 : decode cX10_aimOf 45 = .ok (.iload 7, 2) := by decide +kernel
theorem dX10_aimOf_47 : decode cX10_aimOf 47 = .ok (.iload 5, 2) := by decide +kernel
theorem dX10_aimOf_49 : decode cX10_aimOf 49 = .ok (.if_icmp .ge 8, 3) := by decide +kernel
theorem dX10_aimOf_52 : decode cX10_aimOf 52 = .ok (.iload 6, 2) := by decide +kernel
theorem dX10_aimOf_54 : decode cX10_aimOf 54 = .ok (.goto 5, 3) := by decide +kernel
theorem dX10_aimOf_57 : decode cX10_aimOf 57 = .ok (.iload 4, 2) := by decide +kernel
theorem dX10_aimOf_59 : decode cX10_aimOf 59 = .ok (.istore 4, 2) := by decide +kernel
theorem dX10_aimOf_61 : decode cX10_aimOf 61 = .ok (.iload 7, 2) := by decide +kernel
theorem dX10_aimOf_63 : decode cX10_aimOf 63 = .ok (.iload 5, 2) := by decide +kernel
theorem dX10_aimOf_65 : decode cX10_aimOf 65 = .ok (.invokestatic 182, 3) := by decide +kernel
theorem dX10_aimOf_68 : decode cX10_aimOf 68 = .ok (.istore 5, 2) := by decide +kernel
theorem dX10_aimOf_70 : decode cX10_aimOf 70 = .ok (.iinc 6 1, 3) := by decide +kernel
theorem dX10_aimOf_73 : decode cX10_aimOf 73 = .ok (.goto (-55), 3) := by decide +kernel
theorem dX10_aimOf_76 : decode cX10_aimOf 76 = .ok (.aload_n 0, 1) := by decide +kernel
theorem dX10_aimOf_77 : decode cX10_aimOf 77 = .ok (.iload_n 1, 1) := by decide +kernel
theorem dX10_aimOf_78 : decode cX10_aimOf 78 = .ok (.iload_n 3, 1) := by decide +kernel
theorem dX10_aimOf_79 : decode cX10_aimOf 79 = .ok (.invokevirtual 114, 3) := by decide +kernel
theorem dX10_aimOf_82 : decode cX10_aimOf 82 = .ok (.pop, 1) := by decide +kernel
theorem dX10_aimOf_83 : decode cX10_aimOf 83 = .ok (.iload 4, 2) := by decide +kernel
theorem dX10_aimOf_85 : decode cX10_aimOf 85 = .ok (.ireturn, 1) := by decide +kernel
theorem dX10_best_0 : decode cX10_best 0 = .ok (.iload_n 2, 1) := by decide +kernel
theorem dX10_best_1 : decode cX10_best 1 = .ok (.iconst 0, 1) := by decide +kernel
theorem dX10_best_2 : decode cX10_best 2 = .ok (.iconst 1, 1) := by decide +kernel
theorem dX10_best_3 : decode cX10_best 3 = .ok (.invokestatic 82, 3) := by decide +kernel
theorem dX10_best_6 : decode cX10_best 6 = .ok (.ifCond .ne 16, 3) := by decide +kernel
theorem dX10_best_9 : decode cX10_best 9 = .ok (.aload_n 0, 1) := by decide +kernel
theorem dX10_best_10 : decode cX10_best 10 = .ok (.iload_n 2, 1) := by decide +kernel
theorem dX10_best_11 : decode cX10_best 11 = .ok (.bipush 10, 2) := by decide +kernel
theorem dX10_best_13 : decode cX10_best 13 = .ok (.isub, 1) := by decide +kernel
theorem dX10_best_14 : decode cX10_best 14 = .ok (.invokevirtual 108, 3) := by decide +kernel
theorem dX10_best_17 : decode cX10_best 17 = .ok (.ifCond .ne 5, 3) := by decide +kernel
theorem dX10_best_20 : decode cX10_best 20 = .ok (.iconst (-1), 1) := by decide +kernel
theorem dX10_best_21 : decode cX10_best 21 = .ok (.ireturn, 1) := by decide +kernel
theorem dX10_best_22 : decode cX10_best 22 = .ok (.iload_n 1, 1) := by decide +kernel
theorem dX10_best_23 : decode cX10_best 23 = .ok (.iconst 1, 1) := by decide +kernel
theorem dX10_best_24 : decode cX10_best 24 = .ok (.iload_n 2, 1) := by decide +kernel
theorem dX10_best_25 : decode cX10_best 25 = .ok (.ifCond .ne 8, 3) := by decide +kernel
theorem dX10_best_28 : decode cX10_best 28 = .ok (.bipush 12, 2) := by decide +kernel
theorem dX10_best_30 : decode cX10_best 30 = .ok (.goto 5, 3) := by decide +kernel
theorem dX10_best_33 : decode cX10_best 33 = .ok (.bipush 20, 2) := by decide +kernel
theorem dX10_best_35 : decode cX10_best 35 = .ok (.invokestatic 82, 3) := by decide +kernel
theorem dX10_best_38 : decode cX10_best 38 = .ok (.ifCond .ne 6, 3) := by decide +kernel
theorem dX10_best_41 : decode cX10_best 41 = .ok (.bipush (-2), 2) := by decide +kernel
theorem dX10_best_43 : decode cX10_best 43 = .ok (.ireturn, 1) := by decide +kernel
theorem dX10_best_44 : decode cX10_best 44 = .ok (.iload_n 2, 1) := by decide +kernel
theorem dX10_best_45 : decode cX10_best 45 = .ok (.ifCond .ne 11, 3) := by decide +kernel
theorem dX10_best_48 : decode cX10_best 48 = .ok (.aload_n 0, 1) := by decide +kernel
theorem dX10_best_49 : decode cX10_best 49 = .ok (.iload_n 1, 1) := by decide +kernel
theorem dX10_best_50 : decode cX10_best 50 = .ok (.invokevirtual 220, 3) := by decide +kernel
theorem dX10_best_53 : decode cX10_best 53 = .ok (.goto 25, 3) := by decide +kernel
theorem dX10_best_56 : decode cX10_best 56 = .ok (.iload_n 2, 1) := by decide +kernel
theorem dX10_best_57 : decode cX10_best 57 = .ok (.iconst 1, 1) := by decide +kernel
theorem dX10_best_58 : decode cX10_best 58 = .ok (.if_icmp .ne 11, 3) := by decide +kernel
theorem dX10_best_61 : decode cX10_best 61 = .ok (.aload_n 0, 1) := by decide +kernel
theorem dX10_best_62 : decode cX10_best 62 = .ok (.iload_n 1, 1) := by decide +kernel
theorem dX10_best_63 : decode cX10_best 63 = .ok (.invokevirtual 223, 3) := by decide +kernel
theorem dX10_best_66 : decode cX10_best 66 = .ok (.goto 12, 3) := by decide +kernel
theorem dX10_best_69 : decode cX10_best 69 = .ok (.aload_n 0, 1) := by decide +kernel
theorem dX10_best_70 : decode cX10_best 70 = .ok (.iload_n 2, 1) := by decide +kernel
theorem dX10_best_71 : decode cX10_best 71 = .ok (.bipush 10, 2) := by decide +kernel
theorem dX10_best_73 : decode cX10_best 73 = .ok (.isub, 1) := by decide +kernel
theorem dX10_best_74 : decode cX10_best 74 = .ok (.iload_n 1, 1) := by decide +kernel
theorem dX10_best_75 : decode cX10_best 75 = .ok (.invokevirtual 226, 3) := by decide +kernel
theorem dX10_best_78 : decode cX10_best 78 = .ok (.ireturn, 1) := by decide +kernel
theorem dX10_comes_0 : decode cX10_comes 0 = .ok (.aload_n 0, 1) := by decide +kernel
theorem dX10_comes_1 : decode cX10_comes 1 = .ok (.getfield 9, 3) := by decide +kernel
theorem dX10_comes_4 : decode cX10_comes 4 = .ok (.iload_n 1, 1) := by decide +kernel
theorem dX10_comes_5 : decode cX10_comes 5 = .ok (.iaload, 1) := by decide +kernel
theorem dX10_comes_6 : decode cX10_comes 6 = .ok (.iconst 5, 1) := by decide +kernel
theorem dX10_comes_7 : decode cX10_comes 7 = .ok (.if_icmp .ne 6, 3) := by decide +kernel
theorem dX10_comes_10 : decode cX10_comes 10 = .ok (.bipush (-4), 2) := by decide +kernel
theorem dX10_comes_12 : decode cX10_comes 12 = .ok (.ireturn, 1) := by decide +kernel
theorem dX10_comes_13 : decode cX10_comes 13 = .ok (.iload_n 1, 1) := by decide +kernel
theorem dX10_comes_14 : decode cX10_comes 14 = .ok (.iconst 1, 1) := by decide +kernel
theorem dX10_comes_15 : decode cX10_comes 15 = .ok (.iadd, 1) := by decide +kernel
theorem dX10_comes_16 : decode cX10_comes 16 = .ok (.iconst 3, 1) := by decide +kernel
theorem dX10_comes_17 : decode cX10_comes 17 = .ok (.aload_n 0, 1) := by decide +kernel
theorem dX10_comes_18 : decode cX10_comes 18 = .ok (.getfield 9, 3) := by decide +kernel
theorem dX10_comes_21 : decode cX10_comes 21 = .ok (.iload_n 1, 1) := by decide +kernel
theorem dX10_comes_22 : decode cX10_comes 22 = .ok (.iaload, 1) := by decide +kernel
theorem dX10_comes_23 : decode cX10_comes 23 = .ok (.imul, 1) := by decide +kernel
theorem dX10_comes_24 : decode cX10_comes 24 = .ok (.iadd, 1) := by decide +kernel
theorem dX10_comes_25 : decode cX10_comes 25 = .ok (.istore 5, 2) := by decide +kernel
theorem dX10_comes_27 : decode cX10_comes 27 = .ok (.aload_n 0, 1) := by decide +kernel
theorem dX10_comes_28 : decode cX10_comes 28 = .ok (.getfield 9, 3) := by decide +kernel
theorem dX10_comes_31 : decode cX10_comes 31 = .ok (.iload 5, 2) := by decide +kernel
theorem dX10_comes_33 : decode cX10_comes 33 = .ok (.iload_n 2, 1) := by decide +kernel
theorem dX10_comes_34 : decode cX10_comes 34 = .ok (.iastore, 1) := by decide +kernel
theorem dX10_comes_35 : decode cX10_comes 35 = .ok (.aload_n 0, 1) := by decide +kernel
theorem dX10_comes_36 : decode cX10_comes 36 = .ok (.getfield 9, 3) := by decide +kernel
theorem dX10_comes_39 : decode cX10_comes 39 = .ok (.iload 5, 2) := by decide +kernel
theorem dX10_comes_41 : decode cX10_comes 41 = .ok (.iconst 1, 1) := by decide +kernel
theorem dX10_comes_42 : decode cX10_comes 42 = .ok (.iadd, 1) := by decide +kernel
theorem dX10_comes_43 : decode cX10_comes 43 = .ok (.iload_n 3, 1) := by decide +kernel
theorem dX10_comes_44 : decode cX10_comes 44 = .ok (.iastore, 1) := by decide +kernel
theorem dX10_comes_45 : decode cX10_comes 45 = .ok (.aload_n 0, 1) := by decide +kernel
theorem dX10_comes_46 : decode cX10_comes 46 = .ok (.getfield 9, 3) := by decide +kernel
theorem dX10_comes_49 : decode cX10_comes 49 = .ok (.iload 5, 2) := by decide +kernel
theorem dX10_comes_51 : decode cX10_comes 51 = .ok (.iconst 2, 1) := by decide +kernel
theorem dX10_comes_52 : decode cX10_comes 52 = .ok (.iadd, 1) := by decide +kernel
theorem dX10_comes_53 : decode cX10_comes 53 = .ok (.iload 4, 2) := by decide +kernel
theorem dX10_comes_55 : decode cX10_comes 55 = .ok (.iastore, 1) := by decide +kernel
theorem dX10_comes_56 : decode cX10_comes 56 = .ok (.aload_n 0, 1) := by decide +kernel
theorem dX10_comes_57 : decode cX10_comes 57 = .ok (.getfield 9, 3) := by decide +kernel
theorem dX10_comes_60 : decode cX10_comes 60 = .ok (.iload_n 1, 1) := by decide +kernel
theorem dX10_comes_61 : decode cX10_comes 61 = .ok (.dup2, 1) := by decide +kernel
theorem dX10_comes_62 : decode cX10_comes 62 = .ok (.iaload, 1) := by decide +kernel
theorem dX10_comes_63 : decode cX10_comes 63 = .ok (.iconst 1, 1) := by decide +kernel
theorem dX10_comes_64 : decode cX10_comes 64 = .ok (.iadd, 1) := by decide +kernel
theorem dX10_comes_65 : decode cX10_comes 65 = .ok (.iastore, 1) := by decide +kernel
theorem dX10_comes_66 : decode cX10_comes 66 = .ok (.aload_n 0, 1) := by decide +kernel
theorem dX10_comes_67 : decode cX10_comes 67 = .ok (.getfield 9, 3) := by decide +kernel
theorem dX10_comes_70 : decode cX10_comes 70 = .ok (.iload_n 1, 1) := by decide +kernel
theorem dX10_comes_71 : decode cX10_comes 71 = .ok (.iaload, 1) := by decide +kernel
theorem dX10_comes_72 : decode cX10_comes 72 = .ok (.ireturn, 1) := by decide +kernel
theorem dX10_see_0 : decode cX10_see 0 = .ok (.iload_n 1, 1) := by decide +kernel
theorem dX10_see_1 : decode cX10_see 1 = .ok (.iconst (-1), 1) := by decide +kernel
theorem dX10_see_2 : decode cX10_see 2 = .ok (.if_icmp .ne 13, 3) := by decide +kernel
theorem dX10_see_5 : decode cX10_see 5 = .ok (.aload_n 0, 1) := by decide +kernel
theorem dX10_see_6 : decode cX10_see 6 = .ok (.getfield 9, 3) := by decide +kernel
theorem dX10_see_9 : decode cX10_see 9 = .ok (.bipush 82, 2) := by decide +kernel
theorem dX10_see_11 : decode cX10_see 11 = .ok (.iconst 0, 1) := by decide +kernel
theorem dX10_see_12 : decode cX10_see 12 = .ok (.iastore, 1) := by decide +kernel
theorem dX10_see_13 : decode cX10_see 13 = .ok (.iconst 0, 1) := by decide +kernel
theorem dX10_see_14 : decode cX10_see 14 = .ok (.ireturn, 1) := by decide +kernel
theorem dX10_see_15 : decode cX10_see 15 = .ok (.aload_n 0, 1) := by decide +kernel
theorem dX10_see_16 : decode cX10_see 16 = .ok (.iload_n 1, 1) := by decide +kernel
theorem dX10_see_17 : decode cX10_see 17 = .ok (.invokevirtual 97, 3) := by decide +kernel
theorem dX10_see_20 : decode cX10_see 20 = .ok (.ifCond .ne 5, 3) := by decide +kernel
theorem dX10_see_23 : decode cX10_see 23 = .ok (.iconst (-1), 1) := by decide +kernel
theorem dX10_see_24 : decode cX10_see 24 = .ok (.ireturn, 1) := by decide +kernel
theorem dX10_see_25 : decode cX10_see 25 = .ok (.iload_n 2, 1) := by decide +kernel
theorem dX10_see_26 : decode cX10_see 26 = .ok (.iconst 0, 1) := by decide +kernel
theorem dX10_see_27 : decode cX10_see 27 = .ok (.bipush 12, 2) := by decide +kernel
theorem dX10_see_29 : decode cX10_see 29 = .ok (.invokestatic 82, 3) := by decide +kernel
theorem dX10_see_32 : decode cX10_see 32 = .ok (.ifCond .eq 25, 3) := by decide +kernel
theorem dX10_see_35 : decode cX10_see 35 = .ok (.iload_n 3, 1) := by decide +kernel
theorem dX10_see_36 : decode cX10_see 36 = .ok (.iconst 0, 1) := by decide +kernel
theorem dX10_see_37 : decode cX10_see 37 = .ok (.bipush 99, 2) := by decide +kernel
theorem dX10_see_39 : decode cX10_see 39 = .ok (.invokestatic 82, 3) := by decide +kernel
theorem dX10_see_42 : decode cX10_see 42 = .ok (.ifCond .eq 15, 3) := by decide +kernel
theorem dX10_see_45 : decode cX10_see 45 = .ok (.aload_n 0, 1) := by decide +kernel
theorem dX10_see_46 : decode cX10_see 46 = .ok (.bipush 82, 2) := by decide +kernel
theorem dX10_see_48 : decode cX10_see 48 = .ok (.iload_n 1, 1) := by decide +kernel
theorem dX10_see_49 : decode cX10_see 49 = .ok (.iload_n 2, 1) := by decide +kernel
theorem dX10_see_50 : decode cX10_see 50 = .ok (.iload_n 3, 1) := by decide +kernel
theorem dX10_see_51 : decode cX10_see 51 = .ok (.invokevirtual 229, 3) := by decide +kernel
theorem dX10_see_54 : decode cX10_see 54 = .ok (.goto 5, 3) := by decide +kernel
theorem dX10_see_57 : decode cX10_see 57 = .ok (.bipush (-2), 2) := by decide +kernel
theorem dX10_see_59 : decode cX10_see 59 = .ok (.ireturn, 1) := by decide +kernel
theorem dX10_ache_0 : decode cX10_ache 0 = .ok (.iload_n 1, 1) := by decide +kernel
theorem dX10_ache_1 : decode cX10_ache 1 = .ok (.iconst (-1), 1) := by decide +kernel
theorem dX10_ache_2 : decode cX10_ache 2 = .ok (.if_icmp .ne 13, 3) := by decide +kernel
theorem dX10_ache_5 : decode cX10_ache 5 = .ok (.aload_n 0, 1) := by decide +kernel
theorem dX10_ache_6 : decode cX10_ache 6 = .ok (.getfield 9, 3) := by decide +kernel
theorem dX10_ache_9 : decode cX10_ache 9 = .ok (.bipush 98, 2) := by decide +kernel
theorem dX10_ache_11 : decode cX10_ache 11 = .ok (.iconst 0, 1) := by decide +kernel
theorem dX10_ache_12 : decode cX10_ache 12 = .ok (.iastore, 1) := by decide +kernel
theorem dX10_ache_13 : decode cX10_ache 13 = .ok (.iconst 0, 1) := by decide +kernel
theorem dX10_ache_14 : decode cX10_ache 14 = .ok (.ireturn, 1) := by decide +kernel
theorem dX10_ache_15 : decode cX10_ache 15 = .ok (.aload_n 0, 1) := by decide +kernel
theorem dX10_ache_16 : decode cX10_ache 16 = .ok (.iload_n 1, 1) := by decide +kernel
theorem dX10_ache_17 : decode cX10_ache 17 = .ok (.invokevirtual 97, 3) := by decide +kernel
theorem dX10_ache_20 : decode cX10_ache 20 = .ok (.ifCond .ne 5, 3) := by decide +kernel
theorem dX10_ache_23 : decode cX10_ache 23 = .ok (.iconst (-1), 1) := by decide +kernel
theorem dX10_ache_24 : decode cX10_ache 24 = .ok (.ireturn, 1) := by decide +kernel
theorem dX10_ache_25 : decode cX10_ache 25 = .ok (.iload_n 2, 1) := by decide +kernel
theorem dX10_ache_26 : decode cX10_ache 26 = .ok (.iconst 0, 1) := by decide +kernel
theorem dX10_ache_27 : decode cX10_ache 27 = .ok (.bipush 12, 2) := by decide +kernel
theorem dX10_ache_29 : decode cX10_ache 29 = .ok (.invokestatic 82, 3) := by decide +kernel
theorem dX10_ache_32 : decode cX10_ache 32 = .ok (.ifCond .eq 23, 3) := by decide +kernel
theorem dX10_ache_35 : decode cX10_ache 35 = .ok (.aload_n 0, 1) := by decide +kernel
theorem dX10_ache_36 : decode cX10_ache 36 = .ok (.bipush 98, 2) := by decide +kernel
theorem dX10_ache_38 : decode cX10_ache 38 = .ok (.iload_n 1, 1) := by decide +kernel
theorem dX10_ache_39 : decode cX10_ache 39 = .ok (.iload_n 2, 1) := by decide +kernel
theorem dX10_ache_40 : decode cX10_ache 40 = .ok (.iload_n 3, 1) := by decide +kernel
theorem dX10_ache_41 : decode cX10_ache 41 = .ok (.ifCond .eq 7, 3) := by decide +kernel
theorem dX10_ache_44 : decode cX10_ache 44 = .ok (.iconst 1, 1) := by decide +kernel
theorem dX10_ache_45 : decode cX10_ache 45 = .ok (.goto 4, 3) := by decide +kernel
theorem dX10_ache_48 : decode cX10_ache 48 = .ok (.iconst 0, 1) := by decide +kernel
theorem dX10_ache_49 : decode cX10_ache 49 = .ok (.invokevirtual 229, 3) := by decide +kernel
theorem dX10_ache_52 : decode cX10_ache 52 = .ok (.goto 5, 3) := by decide +kernel
theorem dX10_ache_55 : decode cX10_ache 55 = .ok (.bipush (-2), 2) := by decide +kernel
theorem dX10_ache_57 : decode cX10_ache 57 = .ok (.ireturn, 1) := by decide +kernel
theorem dX10_isAllSo_0 : decode cX10_isAllSo 0 = .ok (.aload_n 0, 1) := by decide +kernel
theorem dX10_isAllSo_1 : decode cX10_isAllSo 1 = .ok (.getfield 9, 3) := by decide +kernel
theorem dX10_isAllSo_4 : decode cX10_isAllSo 4 = .ok (.aload_n 0, 1) := by decide +kernel
theorem dX10_isAllSo_5 : decode cX10_isAllSo 5 = .ok (.getfield 15, 3) := by decide +kernel
theorem dX10_isAllSo_8 : decode cX10_isAllSo 8 = .ok (.invokestatic 78, 3) := by decide +kernel
theorem dX10_isAllSo_11 : decode cX10_isAllSo 11 = .ok (.iconst 0, 1) := by decide +kernel
theorem dX10_isAllSo_12 : decode cX10_isAllSo 12 = .ok (.istore_n 2, 1) := by decide +kernel
theorem dX10_isAllSo_13 : decode cX10_isAllSo 13 = .ok (.iload_n 2, 1) := by decide +kernel
theorem dX10_isAllSo_14 : decode cX10_isAllSo 14 = .ok (.bipush 6, 2) := by decide +kernel
theorem dX10_isAllSo_16 : decode cX10_isAllSo 16 = .ok (.if_icmp .ge 21, 3) := by decide +kernel
theorem dX10_isAllSo_19 : decode cX10_isAllSo 19 = .ok (.aload_n 0, 1) := by decide +kernel
theorem dX10_isAllSo_20 : decode cX10_isAllSo 20 = .ok (.getfield 49, 3) := by decide +kernel
theorem dX10_isAllSo_23 : decode cX10_isAllSo 23 = .ok (.iload_n 2, 1) := by decide +kernel
theorem dX10_isAllSo_24 : decode cX10_isAllSo 24 = .ok (.aload_n 0, 1) := by decide +kernel
theorem dX10_isAllSo_25 : decode cX10_isAllSo 25 = .ok (.iload_n 2, 1) := by decide +kernel
theorem dX10_isAllSo_26 : decode cX10_isAllSo 26 = .ok (.iconst 4, 1) := by decide +kernel
theorem dX10_isAllSo_27 : decode cX10_isAllSo 27 = .ok (.invokevirtual 86, 3) := by decide +kernel
theorem dX10_isAllSo_30 : decode cX10_isAllSo 30 = .ok (.iastore, 1) := by decide +kernel
theorem dX10_isAllSo_31 : decode cX10_isAllSo 31 = .ok (.iinc 2 1, 3) := by decide +kernel
theorem dX10_isAllSo_34 : decode cX10_isAllSo 34 = .ok (.goto (-21), 3) := by decide +kernel
theorem dX10_isAllSo_37 : decode cX10_isAllSo 37 = .ok (.iconst 1, 1) := by decide +kernel
theorem dX10_isAllSo_38 : decode cX10_isAllSo 38 = .ok (.istore_n 2, 1) := by decide +kernel
theorem dX10_isAllSo_39 : decode cX10_isAllSo 39 = .ok (.iconst 0, 1) := by decide +kernel
theorem dX10_isAllSo_40 : decode cX10_isAllSo 40 = .ok (.istore_n 3, 1) := by decide +kernel
theorem dX10_isAllSo_41 : decode cX10_isAllSo 41 = .ok (.iload_n 3, 1) := by decide +kernel
theorem dX10_isAllSo_42 : decode cX10_isAllSo 42 = .ok (.bipush 12, 2) := by decide +kernel
theorem dX10_isAllSo_44 : decode cX10_isAllSo 44 = .ok (.if_icmp .gt 133, 3) := by decide +kernel
theorem dX10_isAllSo_47 : decode cX10_isAllSo 47 = .ok (.iload_n 2, 1) := by decide +kernel
theorem dX10_isAllSo_48 : decode cX10_isAllSo 48 = .ok (.ifCond .eq 129, 3) := by decide +kernel
theorem dX10_isAllSo_51 : decode cX10_isAllSo 51 = .ok (.iconst 0, 1) := by decide +kernel
theorem dX10_isAllSo_52 : decode cX10_isAllSo 52 = .ok (.istore 4, 2) := by decide +kernel
theorem dX10_isAllSo_54 : decode cX10_isAllSo 54 = .ok (.iload 4, 2) := by decide +kernel
theorem dX10_isAllSo_56 : decode cX10_isAllSo 56 = .ok (.aload_n 0, 1) := by decide +kernel
theorem dX10_isAllSo_57 : decode cX10_isAllSo 57 = .ok (.getfield 9, 3) := by decide +kernel
theorem dX10_isAllSo_60 : decode cX10_isAllSo 60 = .ok (.iload_n 1, 1) := by decide +kernel
theorem dX10_isAllSo_61 : decode cX10_isAllSo 61 = .ok (.iaload, 1) := by decide +kernel
theorem dX10_isAllSo_62 : decode cX10_isAllSo 62 = .ok (.if_icmp .ge 105, 3) := by decide +kernel
theorem dX10_isAllSo_65 : decode cX10_isAllSo 65 = .ok (.iload_n 1, 1) := by decide +kernel
theorem dX10_isAllSo_66 : decode cX10_isAllSo 66 = .ok (.iconst 1, 1) := by decide +kernel
theorem dX10_isAllSo_67 : decode cX10_isAllSo 67 = .ok (.iadd, 1) := by decide +kernel
theorem dX10_isAllSo_68 : decode cX10_isAllSo 68 = .ok (.iconst 3, 1) := by decide +kernel
theorem dX10_isAllSo_69 : decode cX10_isAllSo 69 = .ok (.iload 4, 2) := by decide +kernel
theorem dX10_isAllSo_71 : decode cX10_isAllSo 71 = .ok (.imul, 1) := by decide +kernel
theorem dX10_isAllSo_72 : decode cX10_isAllSo 72 = .ok (.iadd, 1) := by decide +kernel
theorem dX10_isAllSo_73 : decode cX10_isAllSo 73 = .ok (.istore 5, 2) := by decide +kernel
theorem dX10_isAllSo_75 : decode cX10_isAllSo 75 = .ok (.aload_n 0, 1) := by decide +kernel
theorem dX10_isAllSo_76 : decode cX10_isAllSo 76 = .ok (.getfield 9, 3) := by decide +kernel
theorem dX10_isAllSo_79 : decode cX10_isAllSo 79 = .ok (.iload 5, 2) := by decide +kernel
theorem dX10_isAllSo_81 : decode cX10_isAllSo 81 = .ok (.iaload, 1) := by decide +kernel
theorem dX10_isAllSo_82 : decode cX10_isAllSo 82 = .ok (.istore 6, 2) := by decide +kernel
theorem dX10_isAllSo_84 : decode cX10_isAllSo 84 = .ok (.iload_n 1, 1) := by decide +kernel
theorem dX10_isAllSo_85 : decode cX10_isAllSo 85 = .ok (.bipush 82, 2) := by decide +kernel
theorem dX10_isAllSo_87 : decode cX10_isAllSo 87 = .ok (.if_icmp .ne 13, 3) := by decide +kernel
theorem dX10_isAllSo_90 : decode cX10_isAllSo 90 = .ok (.aload_n 0, 1) := by decide +kernel
theorem dX10_isAllSo_91 : decode cX10_isAllSo 91 = .ok (.iload 6, 2) := by decide +kernel
theorem dX10_isAllSo_93 : decode cX10_isAllSo 93 = .ok (.iconst 2, 1) := by decide +kernel
theorem dX10_isAllSo_94 : decode cX10_isAllSo 94 = .ok (.invokevirtual 86, 3) := by decide +kernel
theorem dX10_isAllSo_97 : decode cX10_isAllSo 97 = .ok (.goto 25, 3) := by decide +kernel
theorem dX10_isAllSo_100 : decode cX10_isAllSo 100 = .ok (.aload_n 0, 1) := by decide +kernel
theorem dX10_isAllSo_101 : decode cX10_isAllSo 101 = .ok (.iload 6, 2) := by decide +kernel
theorem dX10_isAllSo_103 : decode cX10_isAllSo 103 = .ok (.iconst 4, 1) := by decide +kernel
theorem dX10_isAllSo_104 : decode cX10_isAllSo 104 = .ok (.invokevirtual 86, 3) := by decide +kernel
theorem dX10_isAllSo_107 : decode cX10_isAllSo 107 = .ok (.aload_n 0, 1) := by decide +kernel
theorem dX10_isAllSo_108 : decode cX10_isAllSo 108 = .ok (.getfield 49, 3) := by decide +kernel
theorem dX10_isAllSo_111 : decode cX10_isAllSo 111 = .ok (.iload 6, 2) := by decide +kernel
theorem dX10_isAllSo_113 : decode cX10_isAllSo 113 = .ok (.iaload, 1) := by decide +kernel
theorem dX10_isAllSo_114 : decode cX10_isAllSo 114 = .ok (.if_icmp .le 7, 3) := by decide +kernel
theorem dX10_isAllSo_117 : decode cX10_isAllSo 117 = .ok (.iconst 1, 1) := by decide +kernel
theorem dX10_isAllSo_118 : decode cX10_isAllSo 118 = .ok (.goto 4, 3) := by decide +kernel
theorem dX10_isAllSo_121 : decode cX10_isAllSo 121 = .ok (.iconst 0, 1) := by decide +kernel
theorem dX10_isAllSo_122 : decode cX10_isAllSo 122 = .ok (.istore 7, 2) := by decide +kernel
theorem dX10_isAllSo_124 : decode cX10_isAllSo 124 = .ok (.iload_n 2, 1) := by decide +kernel
theorem dX10_isAllSo_125 : decode cX10_isAllSo 125 = .ok (.ifCond .eq 34, 3) := by decide +kernel
theorem dX10_isAllSo_128 : decode cX10_isAllSo 128 = .ok (.aload_n 0, 1) := by decide +kernel
theorem dX10_isAllSo_129 : decode cX10_isAllSo 129 = .ok (.getfield 9, 3) := by decide +kernel
theorem dX10_isAllSo_132 : decode cX10_isAllSo 132 = .ok (.iload 5, 2) := by decide +kernel
theorem dX10_isAllSo_134 : decode cX10_isAllSo 134 = .ok (.iconst 1, 1) := by decide +kernel
theorem dX10_isAllSo_135 : decode cX10_isAllSo 135 = .ok (.iadd, 1) := by decide +kernel
theorem dX10_isAllSo_136 : decode cX10_isAllSo 136 = .ok (.iaload, 1) := by decide +kernel
theorem dX10_isAllSo_137 : decode cX10_isAllSo 137 = .ok (.iload_n 3, 1) := by decide +kernel
theorem dX10_isAllSo_138 : decode cX10_isAllSo 138 = .ok (.if_icmp .ne 17, 3) := by decide +kernel
theorem dX10_isAllSo_141 : decode cX10_isAllSo 141 = .ok (.iload 7, 2) := by decide +kernel
theorem dX10_isAllSo_143 : decode cX10_isAllSo 143 = .ok (.aload_n 0, 1) := by decide +kernel
theorem dX10_isAllSo_144 : decode cX10_isAllSo 144 = .ok (.getfield 9, 3) := by decide +kernel
theorem dX10_isAllSo_147 : decode cX10_isAllSo 147 = .ok (.iload 5, 2) := by decide +kernel
theorem dX10_isAllSo_149 : decode cX10_isAllSo 149 = .ok (.iconst 2, 1) := by decide +kernel
theorem dX10_isAllSo_150 : decode cX10_isAllSo 150 = .ok (.iadd, 1) := by decide +kernel
theorem dX10_isAllSo_151 : decode cX10_isAllSo 151 = .ok (.iaload, 1) := by decide +kernel
theorem dX10_isAllSo_152 : decode cX10_isAllSo 152 = .ok (.if_icmp .ne 7, 3) := by decide +kernel
theorem dX10_isAllSo_155 : decode cX10_isAllSo 155 = .ok (.iconst 1, 1) := by decide +kernel
theorem dX10_isAllSo_156 : decode cX10_isAllSo 156 = .ok (.goto 4, 3) := by decide +kernel
theorem dX10_isAllSo_159 : decode cX10_isAllSo 159 = .ok (.iconst 0, 1) := by decide +kernel
theorem dX10_isAllSo_160 : decode cX10_isAllSo 160 = .ok (.istore_n 2, 1) := by decide +kernel
theorem dX10_isAllSo_161 : decode cX10_isAllSo 161 = .ok (.iinc 4 1, 3) := by decide +kernel
theorem dX10_isAllSo_164 : decode cX10_isAllSo 164 = .ok (.goto (-110), 3) := by decide +kernel
theorem dX10_isAllSo_167 : decode cX10_isAllSo 167 = .ok (.aload_n 0, 1) := by decide +kernel
theorem dX10_isAllSo_168 : decode cX10_isAllSo 168 = .ok (.invokevirtual 199, 3) := by decide +kernel
theorem dX10_isAllSo_171 : decode cX10_isAllSo 171 = .ok (.iinc 3 1, 3) := by decide +kernel
theorem dX10_isAllSo_174 : decode cX10_isAllSo 174 = .ok (.goto (-133), 3) := by decide +kernel
theorem dX10_isAllSo_177 : decode cX10_isAllSo 177 = .ok (.aload_n 0, 1) := by decide +kernel
theorem dX10_isAllSo_178 : decode cX10_isAllSo 178 = .ok (.getfield 15, 3) := by decide +kernel
theorem dX10_isAllSo_181 : decode cX10_isAllSo 181 = .ok (.aload_n 0, 1) := by decide +kernel
theorem dX10_isAllSo_182 : decode cX10_isAllSo 182 = .ok (.getfield 9, 3) := by decide +kernel
theorem dX10_isAllSo_185 : decode cX10_isAllSo 185 = .ok (.invokestatic 78, 3) := by decide +kernel
theorem dX10_isAllSo_188 : decode cX10_isAllSo 188 = .ok (.iload_n 2, 1) := by decide +kernel
theorem dX10_isAllSo_189 : decode cX10_isAllSo 189 = .ok (.ireturn, 1) := by decide +kernel
theorem dX10_fits_0 : decode cX10_fits 0 = .ok (.aload_n 0, 1) := by decide +kernel
theorem dX10_fits_1 : decode cX10_fits 1 = .ok (.iload_n 1, 1) := by decide +kernel
theorem dX10_fits_2 : decode cX10_fits 2 = .ok (.iload_n 2, 1) := by decide +kernel
theorem dX10_fits_3 : decode cX10_fits 3 = .ok (.invokevirtual 86, 3) := by decide +kernel
theorem dX10_fits_6 : decode cX10_fits 6 = .ok (.istore 6, 2) := by decide +kernel
theorem dX10_fits_8 : decode cX10_fits 8 = .ok (.iconst 0, 1) := by decide +kernel
theorem dX10_fits_9 : decode cX10_fits 9 = .ok (.istore 7, 2) := by decide +kernel
theorem dX10_fits_11 : decode cX10_fits 11 = .ok (.bipush (-5), 2) := by decide +kernel
theorem dX10_fits_13 : decode cX10_fits 13 = .ok (.istore 8, 2) := by decide +kernel
theorem dX10_fits_15 : decode cX10_fits 15 = .ok (.iload_n 3, 1) := by decide +kernel
theorem dX10_fits_16 : decode cX10_fits 16 = .ok (.istore 9, 2) := by decide +kernel
theorem dX10_fits_18 : decode cX10_fits 18 = .ok (.iload 9, 2) := by decide +kernel
theorem dX10_fits_20 : decode cX10_fits 20 = .ok (.ifCond .lt 55, 3) := by decide +kernel
theorem dX10_fits_23 : decode cX10_fits 23 = .ok (.aload_n 0, 1) := by decide +kernel
theorem dX10_fits_24 : decode cX10_fits 24 = .ok (.iload_n 1, 1) := by decide +kernel
theorem dX10_fits_25 : decode cX10_fits 25 = .ok (.iload_n 2, 1) := by decide +kernel
theorem dX10_fits_26 : decode cX10_fits 26 = .ok (.iload 9, 2) := by decide +kernel
theorem dX10_fits_28 : decode cX10_fits 28 = .ok (.invokevirtual 93, 3) := by decide +kernel
theorem dX10_fits_31 : decode cX10_fits 31 = .ok (.pop, 1) := by decide +kernel
theorem dX10_fits_32 : decode cX10_fits 32 = .ok (.aload_n 0, 1) := by decide +kernel
theorem dX10_fits_33 : decode cX10_fits 33 = .ok (.iload 4, 2) := by decide +kernel
theorem dX10_fits_35 : decode cX10_fits 35 = .ok (.invokevirtual 233, 3) := by decide +kernel
theorem dX10_fits_38 : decode cX10_fits 38 = .ok (.istore 10, 2) := by decide +kernel
theorem dX10_fits_40 : decode cX10_fits 40 = .ok (.iload 7, 2) := by decide +kernel
theorem dX10_fits_42 : decode cX10_fits 42 = .ok (.iload 10, 2) := by decide +kernel
theorem dX10_fits_44 : decode cX10_fits 44 = .ok (.ifCond .eq 7, 3) := by decide +kernel
theorem dX10_fits_47 : decode cX10_fits 47 = .ok (.iconst 1, 1) := by decide +kernel
theorem dX10_fits_48 : decode cX10_fits 48 = .ok (.goto 4, 3) := by decide +kernel
theorem dX10_fits_51 : decode cX10_fits 51 = .ok (.iconst 0, 1) := by decide +kernel
theorem dX10_fits_52 : decode cX10_fits 52 = .ok (.iadd, 1) := by decide +kernel
theorem dX10_fits_53 : decode cX10_fits 53 = .ok (.istore 7, 2) := by decide +kernel
theorem dX10_fits_55 : decode cX10_fits 55 = .ok (.iload 10, 2) := by decide +kernel
theorem dX10_fits_57 : decode cX10_fits 57 = .ok (.ifCond .eq 8, 3) := by decide +kernel
theorem dX10_fits_60 : decode cX10_fits 60 = .ok (.iload 9, 2) := by decide +kernel
theorem dX10_fits_62 : decode cX10_fits 62 = .ok (.goto 5, 3) := by decide +kernel
theorem dX10_fits_65 : decode cX10_fits 65 = .ok (.iload 8, 2) := by decide +kernel
theorem dX10_fits_67 : decode cX10_fits 67 = .ok (.istore 8, 2) := by decide +kernel
theorem dX10_fits_69 : decode cX10_fits 69 = .ok (.iinc 9 (-1), 3) := by decide +kernel
theorem dX10_fits_72 : decode cX10_fits 72 = .ok (.goto (-54), 3) := by decide +kernel
theorem dX10_fits_75 : decode cX10_fits 75 = .ok (.aload_n 0, 1) := by decide +kernel
theorem dX10_fits_76 : decode cX10_fits 76 = .ok (.iload_n 1, 1) := by decide +kernel
theorem dX10_fits_77 : decode cX10_fits 77 = .ok (.iload_n 2, 1) := by decide +kernel
theorem dX10_fits_78 : decode cX10_fits 78 = .ok (.iload 6, 2) := by decide +kernel
theorem dX10_fits_80 : decode cX10_fits 80 = .ok (.invokevirtual 93, 3) := by decide +kernel
theorem dX10_fits_83 : decode cX10_fits 83 = .ok (.pop, 1) := by decide +kernel
theorem dX10_fits_84 : decode cX10_fits 84 = .ok (.iload 5, 2) := by decide +kernel
theorem dX10_fits_86 : decode cX10_fits 86 = .ok (.ifCond .eq 8, 3) := by decide +kernel
theorem dX10_fits_89 : decode cX10_fits 89 = .ok (.iload 7, 2) := by decide +kernel
theorem dX10_fits_91 : decode cX10_fits 91 = .ok (.goto 5, 3) := by decide +kernel
theorem dX10_fits_94 : decode cX10_fits 94 = .ok (.iload 8, 2) := by decide +kernel
theorem dX10_fits_96 : decode cX10_fits 96 = .ok (.ireturn, 1) := by decide +kernel
theorem dX10_covers_0 : decode cX10_covers 0 = .ok (.aload_n 0, 1) := by decide +kernel
theorem dX10_covers_1 : decode cX10_covers 1 = .ok (.iload_n 1, 1) := by decide +kernel
theorem dX10_covers_2 : decode cX10_covers 2 = .ok (.iconst 2, 1) := by decide +kernel
theorem dX10_covers_3 : decode cX10_covers 3 = .ok (.bipush 99, 2) := by decide +kernel
theorem dX10_covers_5 : decode cX10_covers 5 = .ok (.bipush 82, 2) := by decide +kernel
theorem dX10_covers_7 : decode cX10_covers 7 = .ok (.iload_n 2, 1) := by decide +kernel
theorem dX10_covers_8 : decode cX10_covers 8 = .ok (.invokevirtual 236, 3) := by decide +kernel
theorem dX10_covers_11 : decode cX10_covers 11 = .ok (.ireturn, 1) := by decide +kernel
theorem dX10_can_0 : decode cX10_can 0 = .ok (.aload_n 0, 1) := by decide +kernel
theorem dX10_can_1 : decode cX10_can 1 = .ok (.iload_n 1, 1) := by decide +kernel
theorem dX10_can_2 : decode cX10_can 2 = .ok (.invokevirtual 97, 3) := by decide +kernel
theorem dX10_can_5 : decode cX10_can 5 = .ok (.ifCond .eq 34, 3) := by decide +kernel
theorem dX10_can_8 : decode cX10_can 8 = .ok (.iload_n 2, 1) := by decide +kernel
theorem dX10_can_9 : decode cX10_can 9 = .ok (.iconst 0, 1) := by decide +kernel
theorem dX10_can_10 : decode cX10_can 10 = .ok (.iconst 1, 1) := by decide +kernel
theorem dX10_can_11 : decode cX10_can 11 = .ok (.invokestatic 82, 3) := by decide +kernel
theorem dX10_can_14 : decode cX10_can 14 = .ok (.ifCond .eq 25, 3) := by decide +kernel
theorem dX10_can_17 : decode cX10_can 17 = .ok (.aload_n 0, 1) := by decide +kernel
theorem dX10_can_18 : decode cX10_can 18 = .ok (.iload_n 1, 1) := by decide +kernel
theorem dX10_can_19 : decode cX10_can 19 = .ok (.iconst 1, 1) := by decide +kernel
theorem dX10_can_20 : decode cX10_can 20 = .ok (.bipush 9, 2) := by decide +kernel
theorem dX10_can_22 : decode cX10_can 22 = .ok (.bipush 98, 2) := by decide +kernel
theorem dX10_can_24 : decode cX10_can 24 = .ok (.iload_n 2, 1) := by decide +kernel
theorem dX10_can_25 : decode cX10_can 25 = .ok (.ifCond .ne 7, 3) := by decide +kernel
theorem dX10_can_28 : decode cX10_can 28 = .ok (.iconst 1, 1) := by decide +kernel
theorem dX10_can_29 : decode cX10_can 29 = .ok (.goto 4, 3) := by decide +kernel
theorem dX10_can_32 : decode cX10_can 32 = .ok (.iconst 0, 1) := by decide +kernel
theorem dX10_can_33 : decode cX10_can 33 = .ok (.invokevirtual 236, 3) := by decide +kernel
theorem dX10_can_36 : decode cX10_can 36 = .ok (.goto 4, 3) := by decide +kernel
theorem dX10_can_39 : decode cX10_can 39 = .ok (.iconst (-1), 1) := by decide +kernel
theorem dX10_can_40 : decode cX10_can 40 = .ok (.ireturn, 1) := by decide +kernel
theorem dX10_fraction_0 : decode cX10_fraction 0 = .ok (.lload_n 0, 1) := by decide +kernel
theorem dX10_fraction_1 : decode cX10_fraction 1 = .ok (.lstore 5, 2) := by decide +kernel
theorem dX10_fraction_3 : decode cX10_fraction 3 = .ok (.lload_n 2, 1) := by decide +kernel
theorem dX10_fraction_4 : decode cX10_fraction 4 = .ok (.lstore 7, 2) := by decide +kernel
theorem dX10_fraction_6 : decode cX10_fraction 6 = .ok (.lload 7, 2) := by decide +kernel
theorem dX10_fraction_8 : decode cX10_fraction 8 = .ok (.lconst 0, 1) := by decide +kernel
theorem dX10_fraction_9 : decode cX10_fraction 9 = .ok (.lcmp, 1) := by decide +kernel
theorem dX10_fraction_10 : decode cX10_fraction 10 = .ok (.ifCond .eq 21, 3) := by decide +kernel
theorem dX10_fraction_13 : decode cX10_fraction 13 = .ok (.lload 5, 2) := by decide +kernel
theorem dX10_fraction_15 : decode cX10_fraction 15 = .ok (.lload 7, 2) := by decide +kernel
theorem dX10_fraction_17 : decode cX10_fraction 17 = .ok (.lrem, 1) := by decide +kernel
theorem dX10_fraction_18 : decode cX10_fraction 18 = .ok (.lstore 9, 2) := by decide +kernel
theorem dX10_fraction_20 : decode cX10_fraction 20 = .ok (.lload 7, 2) := by decide +kernel
theorem dX10_fraction_22 : decode cX10_fraction 22 = .ok (.lstore 5, 2) := by decide +kernel
theorem dX10_fraction_24 : decode cX10_fraction 24 = .ok (.lload 9, 2) := by decide +kernel
theorem dX10_fraction_26 : decode cX10_fraction 26 = .ok (.lstore 7, 2) := by decide +kernel
theorem dX10_fraction_28 : decode cX10_fraction 28 = .ok (.goto (-22), 3) := by decide +kernel
theorem dX10_fraction_31 : decode cX10_fraction 31 = .ok (.iload 4, 2) := by decide +kernel
theorem dX10_fraction_33 : decode cX10_fraction 33 = .ok (.ifCond .ne 10, 3) := by decide +kernel
theorem dX10_fraction_36 : decode cX10_fraction 36 = .ok (.lload_n 0, 1) := by decide +kernel
theorem dX10_fraction_37 : decode cX10_fraction 37 = .ok (.lload 5, 2) := by decide +kernel
theorem dX10_fraction_39 : decode cX10_fraction 39 = .ok (.ldiv, 1) := by decide +kernel
theorem dX10_fraction_40 : decode cX10_fraction 40 = .ok (.goto 7, 3) := by decide +kernel
theorem dX10_fraction_43 : decode cX10_fraction 43 = .ok (.lload_n 2, 1) := by decide +kernel
theorem dX10_fraction_44 : decode cX10_fraction 44 = .ok (.lload 5, 2) := by decide +kernel
theorem dX10_fraction_46 : decode cX10_fraction 46 = .ok (.ldiv, 1) := by decide +kernel
theorem dX10_fraction_47 : decode cX10_fraction 47 = .ok (.lreturn, 1) := by decide +kernel
theorem dX10_odds_0 : decode cX10_odds 0 = .ok (.aload_n 0, 1) := by decide +kernel
theorem dX10_odds_1 : decode cX10_odds 1 = .ok (.iload_n 1, 1) := by decide +kernel
theorem dX10_odds_2 : decode cX10_odds 2 = .ok (.invokevirtual 108, 3) := by decide +kernel
theorem dX10_odds_5 : decode cX10_odds 5 = .ok (.ifCond .eq 31, 3) := by decide +kernel
theorem dX10_odds_8 : decode cX10_odds 8 = .ok (.aload_n 0, 1) := by decide +kernel
theorem dX10_odds_9 : decode cX10_odds 9 = .ok (.iload_n 2, 1) := by decide +kernel
theorem dX10_odds_10 : decode cX10_odds 10 = .ok (.invokevirtual 97, 3) := by decide +kernel
theorem dX10_odds_13 : decode cX10_odds 13 = .ok (.ifCond .eq 23, 3) := by decide +kernel
theorem dX10_odds_16 : decode cX10_odds 16 = .ok (.iload_n 3, 1) := by decide +kernel
theorem dX10_odds_17 : decode cX10_odds 17 = .ok (.iconst 0, 1) := by decide +kernel
theorem dX10_odds_18 : decode cX10_odds 18 = .ok (.bipush 20, 2) := by decide +kernel
theorem dX10_odds_20 : decode cX10_odds 20 = .ok (.invokestatic 82, 3) := by decide +kernel
theorem dX10_odds_23 : decode cX10_odds 23 = .ok (.ifCond .eq 13, 3) := by decide +kernel
theorem dX10_odds_26 : decode cX10_odds 26 = .ok (.iload 4, 2) := by decide +kernel
theorem dX10_odds_28 : decode cX10_odds 28 = .ok (.iconst 0, 1) := by decide +kernel
theorem dX10_odds_29 : decode cX10_odds 29 = .ok (.iconst 1, 1) := by decide +kernel
theorem dX10_odds_30 : decode cX10_odds 30 = .ok (.invokestatic 82, 3) := by decide +kernel
theorem dX10_odds_33 : decode cX10_odds 33 = .ok (.ifCond .ne 7, 3) := by decide +kernel
theorem dX10_odds_36 : decode cX10_odds 36 = .ok (.ldc2_w 240, 3) := by decide +kernel
theorem dX10_odds_39 : decode cX10_odds 39 = .ok (.lreturn, 1) := by decide +kernel
theorem dX10_odds_40 : decode cX10_odds 40 = .ok (.aload_n 0, 1) := by decide +kernel
theorem dX10_odds_41 : decode cX10_odds 41 = .ok (.iload_n 1, 1) := by decide +kernel
theorem dX10_odds_42 : decode cX10_odds 42 = .ok (.iconst 2, 1) := by decide +kernel
theorem dX10_odds_43 : decode cX10_odds 43 = .ok (.invokevirtual 90, 3) := by decide +kernel
theorem dX10_odds_46 : decode cX10_odds 46 = .ok (.istore 5, 2) := by decide +kernel
theorem dX10_odds_48 : decode cX10_odds 48 = .ok (.iconst 0, 1) := by decide +kernel
theorem dX10_odds_49 : decode cX10_odds 49 = .ok (.istore 6, 2) := by decide +kernel
theorem dX10_odds_51 : decode cX10_odds 51 = .ok (.iconst 0, 1) := by decide +kernel
theorem dX10_odds_52 : decode cX10_odds 52 = .ok (.istore 7, 2) := by decide +kernel
theorem dX10_odds_54 : decode cX10_odds 54 = .ok (.iload 7, 2) := by decide +kernel
theorem dX10_odds_56 : decode cX10_odds 56 = .ok (.aload_n 0, 1) := by decide +kernel
theorem dX10_odds_57 : decode cX10_odds 57 = .ok (.getfield 9, 3) := by decide +kernel
theorem dX10_odds_60 : decode cX10_odds 60 = .ok (.bipush 78, 2) := by decide +kernel
theorem dX10_odds_62 : decode cX10_odds 62 = .ok (.iaload, 1) := by decide +kernel
theorem dX10_odds_63 : decode cX10_odds 63 = .ok (.if_icmp .ge 45, 3) := by decide +kernel
theorem dX10_odds_66 : decode cX10_odds 66 = .ok (.aload_n 0, 1) := by decide +kernel
theorem dX10_odds_67 : decode cX10_odds 67 = .ok (.iload_n 1, 1) := by decide +kernel
theorem dX10_odds_68 : decode cX10_odds 68 = .ok (.iload 7, 2) := by decide +kernel
theorem dX10_odds_70 : decode cX10_odds 70 = .ok (.invokevirtual 114, 3) := by decide +kernel
theorem dX10_odds_73 : decode cX10_odds 73 = .ok (.pop, 1) := by decide +kernel
theorem dX10_odds_74 : decode cX10_odds 74 = .ok (.iload 6, 2) := by decide +kernel
theorem dX10_odds_76 : decode cX10_odds 76 = .ok (.aload_n 0, 1) := by decide +kernel
theorem dX10_odds_77 : decode cX10_odds 77 = .ok (.iload_n 3, 1) := by decide +kernel
theorem dX10_odds_78 : decode cX10_odds 78 = .ok (.bipush 30, 2) := by decide +kernel
theorem dX10_odds_80 : decode cX10_odds 80 = .ok (.iload_n 2, 1) := by decide +kernel
theorem dX10_odds_81 : decode cX10_odds 81 = .ok (.iadd, 1) := by decide +kernel
theorem dX10_odds_82 : decode cX10_odds 82 = .ok (.invokevirtual 242, 3) := by decide +kernel
theorem dX10_odds_85 : decode cX10_odds 85 = .ok (.aload_n 0, 1) := by decide +kernel
theorem dX10_odds_86 : decode cX10_odds 86 = .ok (.iload_n 2, 1) := by decide +kernel
theorem dX10_odds_87 : decode cX10_odds 87 = .ok (.iconst 4, 1) := by decide +kernel
theorem dX10_odds_88 : decode cX10_odds 88 = .ok (.invokevirtual 86, 3) := by decide +kernel
theorem dX10_odds_91 : decode cX10_odds 91 = .ok (.if_icmp .le 7, 3) := by decide +kernel
theorem dX10_odds_94 : decode cX10_odds 94 = .ok (.iconst 1, 1) := by decide +kernel
theorem dX10_odds_95 : decode cX10_odds 95 = .ok (.goto 4, 3) := by decide +kernel
theorem dX10_odds_98 : decode cX10_odds 98 = .ok (.iconst 0, 1) := by decide +kernel
theorem dX10_odds_99 : decode cX10_odds 99 = .ok (.iadd, 1) := by decide +kernel
theorem dX10_odds_100 : decode cX10_odds 100 = .ok (.istore 6, 2) := by decide +kernel
theorem dX10_odds_102 : decode cX10_odds 102 = .ok (.iinc 7 1, 3) := by decide +kernel
theorem dX10_odds_105 : decode cX10_odds 105 = .ok (.goto (-51), 3) := by decide +kernel
theorem dX10_odds_108 : decode cX10_odds 108 = .ok (.aload_n 0, 1) := by decide +kernel
theorem dX10_odds_109 : decode cX10_odds 109 = .ok (.iload_n 1, 1) := by decide +kernel
theorem dX10_odds_110 : decode cX10_odds 110 = .ok (.iload 5, 2) := by decide +kernel
theorem dX10_odds_112 : decode cX10_odds 112 = .ok (.invokevirtual 114, 3) := by decide +kernel
theorem dX10_odds_115 : decode cX10_odds 115 = .ok (.pop, 1) := by decide +kernel
theorem dX10_odds_116 : decode cX10_odds 116 = .ok (.iload 6, 2) := by decide +kernel
theorem dX10_odds_118 : decode cX10_odds 118 = .ok (.i2l, 1) := by decide +kernel
theorem dX10_odds_119 : decode cX10_odds 119 = .ok (.aload_n 0, 1) := by decide +kernel
theorem dX10_odds_120 : decode cX10_odds 120 = .ok (.getfield 9, 3) := by decide +kernel
theorem dX10_odds_123 : decode cX10_odds 123 = .ok (.bipush 78, 2) := by decide +kernel
theorem dX10_odds_125 : decode cX10_odds 125 = .ok (.iaload, 1) := by decide +kernel
theorem dX10_odds_126 : decode cX10_odds 126 = .ok (.i2l, 1) := by decide +kernel
theorem dX10_odds_127 : decode cX10_odds 127 = .ok (.iload 4, 2) := by decide +kernel
theorem dX10_odds_129 : decode cX10_odds 129 = .ok (.invokestatic 245, 3) := by decide +kernel
theorem dX10_odds_132 : decode cX10_odds 132 = .ok (.lreturn, 1) := by decide +kernel
theorem dX10_mean_0 : decode cX10_mean 0 = .ok (.iload_n 1, 1) := by decide +kernel
theorem dX10_mean_1 : decode cX10_mean 1 = .ok (.iconst 0, 1) := by decide +kernel
theorem dX10_mean_2 : decode cX10_mean 2 = .ok (.bipush 60, 2) := by decide +kernel
theorem dX10_mean_4 : decode cX10_mean 4 = .ok (.invokestatic 82, 3) := by decide +kernel
theorem dX10_mean_7 : decode cX10_mean 7 = .ok (.ifCond .eq 22, 3) := by decide +kernel
theorem dX10_mean_10 : decode cX10_mean 10 = .ok (.iload_n 2, 1) := by decide +kernel
theorem dX10_mean_11 : decode cX10_mean 11 = .ok (.iconst 0, 1) := by decide +kernel
theorem dX10_mean_12 : decode cX10_mean 12 = .ok (.iconst 1, 1) := by decide +kernel
theorem dX10_mean_13 : decode cX10_mean 13 = .ok (.invokestatic 82, 3) := by decide +kernel
theorem dX10_mean_16 : decode cX10_mean 16 = .ok (.ifCond .eq 13, 3) := by decide +kernel
theorem dX10_mean_19 : decode cX10_mean 19 = .ok (.aload_n 0, 1) := by decide +kernel
theorem dX10_mean_20 : decode cX10_mean 20 = .ok (.getfield 9, 3) := by decide +kernel
theorem dX10_mean_23 : decode cX10_mean 23 = .ok (.bipush 78, 2) := by decide +kernel
theorem dX10_mean_25 : decode cX10_mean 25 = .ok (.iaload, 1) := by decide +kernel
theorem dX10_mean_26 : decode cX10_mean 26 = .ok (.ifCond .ne 7, 3) := by decide +kernel
theorem dX10_mean_29 : decode cX10_mean 29 = .ok (.ldc2_w 240, 3) := by decide +kernel
theorem dX10_mean_32 : decode cX10_mean 32 = .ok (.lreturn, 1) := by decide +kernel
theorem dX10_mean_33 : decode cX10_mean 33 = .ok (.aload_n 0, 1) := by decide +kernel
theorem dX10_mean_34 : decode cX10_mean 34 = .ok (.getfield 9, 3) := by decide +kernel
theorem dX10_mean_37 : decode cX10_mean 37 = .ok (.aload_n 0, 1) := by decide +kernel
theorem dX10_mean_38 : decode cX10_mean 38 = .ok (.getfield 15, 3) := by decide +kernel
theorem dX10_mean_41 : decode cX10_mean 41 = .ok (.invokestatic 78, 3) := by decide +kernel
theorem dX10_mean_44 : decode cX10_mean 44 = .ok (.aload_n 0, 1) := by decide +kernel
theorem dX10_mean_45 : decode cX10_mean 45 = .ok (.iload_n 1, 1) := by decide +kernel
theorem dX10_mean_46 : decode cX10_mean 46 = .ok (.invokevirtual 205, 3) := by decide +kernel
theorem dX10_mean_49 : decode cX10_mean 49 = .ok (.aload_n 0, 1) := by decide +kernel
theorem dX10_mean_50 : decode cX10_mean 50 = .ok (.iconst 2, 1) := by decide +kernel
theorem dX10_mean_51 : decode cX10_mean 51 = .ok (.invokevirtual 202, 3) := by decide +kernel
theorem dX10_mean_54 : decode cX10_mean 54 = .ok (.istore_n 3, 1) := by decide +kernel
theorem dX10_mean_55 : decode cX10_mean 55 = .ok (.aload_n 0, 1) := by decide +kernel
theorem dX10_mean_56 : decode cX10_mean 56 = .ok (.getfield 15, 3) := by decide +kernel
theorem dX10_mean_59 : decode cX10_mean 59 = .ok (.aload_n 0, 1) := by decide +kernel
theorem dX10_mean_60 : decode cX10_mean 60 = .ok (.getfield 9, 3) := by decide +kernel
theorem dX10_mean_63 : decode cX10_mean 63 = .ok (.invokestatic 78, 3) := by decide +kernel
theorem dX10_mean_66 : decode cX10_mean 66 = .ok (.iload_n 3, 1) := by decide +kernel
theorem dX10_mean_67 : decode cX10_mean 67 = .ok (.i2l, 1) := by decide +kernel
theorem dX10_mean_68 : decode cX10_mean 68 = .ok (.aload_n 0, 1) := by decide +kernel
theorem dX10_mean_69 : decode cX10_mean 69 = .ok (.getfield 9, 3) := by decide +kernel
theorem dX10_mean_72 : decode cX10_mean 72 = .ok (.bipush 78, 2) := by decide +kernel
theorem dX10_mean_74 : decode cX10_mean 74 = .ok (.iaload, 1) := by decide +kernel
theorem dX10_mean_75 : decode cX10_mean 75 = .ok (.i2l, 1) := by decide +kernel
theorem dX10_mean_76 : decode cX10_mean 76 = .ok (.iload_n 2, 1) := by decide +kernel
theorem dX10_mean_77 : decode cX10_mean 77 = .ok (.invokestatic 245, 3) := by decide +kernel
theorem dX10_mean_80 : decode cX10_mean 80 = .ok (.lreturn, 1) := by decide +kernel
theorem dX10_plan_0 : decode cX10_plan 0 = .ok (.iload_n 1, 1) := by decide +kernel
theorem dX10_plan_1 : decode cX10_plan 1 = .ok (.iconst (-1), 1) := by decide +kernel
theorem dX10_plan_2 : decode cX10_plan 2 = .ok (.if_icmp .ne 13, 3) := by decide +kernel
theorem dX10_plan_5 : decode cX10_plan 5 = .ok (.aload_n 0, 1) := by decide +kernel
theorem dX10_plan_6 : decode cX10_plan 6 = .ok (.getfield 9, 3) := by decide +kernel
theorem dX10_plan_9 : decode cX10_plan 9 = .ok (.bipush 114, 2) := by decide +kernel
theorem dX10_plan_11 : decode cX10_plan 11 = .ok (.iconst 0, 1) := by decide +kernel
theorem dX10_plan_12 : decode cX10_plan 12 = .ok (.iastore, 1) := by decide +kernel
theorem dX10_plan_13 : decode cX10_plan 13 = .ok (.iconst 0, 1) := by decide +kernel
theorem dX10_plan_14 : decode cX10_plan 14 = .ok (.ireturn, 1) := by decide +kernel
theorem dX10_plan_15 : decode cX10_plan 15 = .ok (.iload_n 1, 1) := by decide +kernel
theorem dX10_plan_16 : decode cX10_plan 16 = .ok (.ifCond .eq 34, 3) := by decide +kernel
theorem dX10_plan_19 : decode cX10_plan 19 = .ok (.iload_n 1, 1) := by decide +kernel
theorem dX10_plan_20 : decode cX10_plan 20 = .ok (.iconst 1, 1) := by decide +kernel
theorem dX10_plan_21 : decode cX10_plan 21 = .ok (.if_icmp .eq 8, 3) := by decide +kernel
theorem dX10_plan_24 : decode cX10_plan 24 = .ok (.iload_n 1, 1) := by decide +kernel
theorem dX10_plan_25 : decode cX10_plan 25 = .ok (.iconst 3, 1) := by decide +kernel
theorem dX10_plan_26 : decode cX10_plan 26 = .ok (.if_icmp .ne 11, 3) := by decide +kernel
theorem dX10_plan_29 : decode cX10_plan 29 = .ok (.aload_n 0, 1) := by decide +kernel
theorem dX10_plan_30 : decode cX10_plan 30 = .ok (.iload_n 2, 1) := by decide +kernel
theorem dX10_plan_31 : decode cX10_plan 31 = .ok (.invokevirtual 97, 3) := by decide +kernel
theorem dX10_plan_34 : decode cX10_plan 34 = .ok (.ifCond .ne 16, 3) := by decide +kernel
theorem dX10_plan_37 : decode cX10_plan 37 = .ok (.iload_n 1, 1) := by decide +kernel
theorem dX10_plan_38 : decode cX10_plan 38 = .ok (.iconst 2, 1) := by decide +kernel
theorem dX10_plan_39 : decode cX10_plan 39 = .ok (.if_icmp .ne 15, 3) := by decide +kernel
theorem dX10_plan_42 : decode cX10_plan 42 = .ok (.aload_n 0, 1) := by decide +kernel
theorem dX10_plan_43 : decode cX10_plan 43 = .ok (.iload_n 2, 1) := by decide +kernel
theorem dX10_plan_44 : decode cX10_plan 44 = .ok (.invokevirtual 108, 3) := by decide +kernel
theorem dX10_plan_47 : decode cX10_plan 47 = .ok (.ifCond .eq 7, 3) := by decide +kernel
theorem dX10_plan_50 : decode cX10_plan 50 = .ok (.iconst 1, 1) := by decide +kernel
theorem dX10_plan_51 : decode cX10_plan 51 = .ok (.goto 4, 3) := by decide +kernel
theorem dX10_plan_54 : decode cX10_plan 54 = .ok (.iconst 0, 1) := by decide +kernel
theorem dX10_plan_55 : decode cX10_plan 55 = .ok (.istore_n 3, 1) := by decide +kernel
theorem dX10_plan_56 : decode cX10_plan 56 = .ok (.iload_n 3, 1) := by decide +kernel
theorem dX10_plan_57 : decode cX10_plan 57 = .ok (.ifCond .ne 5, 3) := by decide +kernel
theorem dX10_plan_60 : decode cX10_plan 60 = .ok (.iconst (-1), 1) := by decide +kernel
theorem dX10_plan_61 : decode cX10_plan 61 = .ok (.ireturn, 1) := by decide +kernel
theorem dX10_plan_62 : decode cX10_plan 62 = .ok (.aload_n 0, 1) := by decide +kernel
theorem dX10_plan_63 : decode cX10_plan 63 = .ok (.getfield 9, 3) := by decide +kernel
theorem dX10_plan_66 : decode cX10_plan 66 = .ok (.bipush 114, 2) := by decide +kernel
theorem dX10_plan_68 : decode cX10_plan 68 = .ok (.iaload, 1) := by decide +kernel
theorem dX10_plan_69 : decode cX10_plan 69 = .ok (.bipush 10, 2) := by decide +kernel
theorem dX10_plan_71 : decode cX10_plan 71 = .ok (.if_icmp .ne 6, 3) := by decide +kernel
theorem dX10_plan_74 : decode cX10_plan 74 = .ok (.bipush (-4), 2) := by decide +kernel
theorem dX10_plan_76 : decode cX10_plan 76 = .ok (.ireturn, 1) := by decide +kernel
theorem dX10_plan_77 : decode cX10_plan 77 = .ok (.aload_n 0, 1) := by decide +kernel
theorem dX10_plan_78 : decode cX10_plan 78 = .ok (.getfield 9, 3) := by decide +kernel
theorem dX10_plan_81 : decode cX10_plan 81 = .ok (.bipush 115, 2) := by decide +kernel
theorem dX10_plan_83 : decode cX10_plan 83 = .ok (.iconst 2, 1) := by decide +kernel
theorem dX10_plan_84 : decode cX10_plan 84 = .ok (.aload_n 0, 1) := by decide +kernel
theorem dX10_plan_85 : decode cX10_plan 85 = .ok (.getfield 9, 3) := by decide +kernel
theorem dX10_plan_88 : decode cX10_plan 88 = .ok (.bipush 114, 2) := by decide +kernel
theorem dX10_plan_90 : decode cX10_plan 90 = .ok (.iaload, 1) := by decide +kernel
theorem dX10_plan_91 : decode cX10_plan 91 = .ok (.imul, 1) := by decide +kernel
theorem dX10_plan_92 : decode cX10_plan 92 = .ok (.iadd, 1) := by decide +kernel
theorem dX10_plan_93 : decode cX10_plan 93 = .ok (.iload_n 1, 1) := by decide +kernel
theorem dX10_plan_94 : decode cX10_plan 94 = .ok (.iastore, 1) := by decide +kernel
theorem dX10_plan_95 : decode cX10_plan 95 = .ok (.aload_n 0, 1) := by decide +kernel
theorem dX10_plan_96 : decode cX10_plan 96 = .ok (.getfield 9, 3) := by decide +kernel
theorem dX10_plan_99 : decode cX10_plan 99 = .ok (.bipush 116, 2) := by decide +kernel
theorem dX10_plan_101 : decode cX10_plan 101 = .ok (.iconst 2, 1) := by decide +kernel
theorem dX10_plan_102 : decode cX10_plan 102 = .ok (.aload_n 0, 1) := by decide +kernel
theorem dX10_plan_103 : decode cX10_plan 103 = .ok (.getfield 9, 3) := by decide +kernel
theorem dX10_plan_106 : decode cX10_plan 106 = .ok (.bipush 114, 2) := by decide +kernel
theorem dX10_plan_108 : decode cX10_plan 108 = .ok (.iaload, 1) := by decide +kernel
theorem dX10_plan_109 : decode cX10_plan 109 = .ok (.imul, 1) := by decide +kernel
theorem dX10_plan_110 : decode cX10_plan 110 = .ok (.iadd, 1) := by decide +kernel
theorem dX10_plan_111 : decode cX10_plan 111 = .ok (.iload_n 2, 1) := by decide +kernel
theorem dX10_plan_112 : decode cX10_plan 112 = .ok (.iastore, 1) := by decide +kernel
theorem dX10_plan_113 : decode cX10_plan 113 = .ok (.aload_n 0, 1) := by decide +kernel
theorem dX10_plan_114 : decode cX10_plan 114 = .ok (.getfield 9, 3) := by decide +kernel
theorem dX10_plan_117 : decode cX10_plan 117 = .ok (.bipush 114, 2) := by decide +kernel
theorem dX10_plan_119 : decode cX10_plan 119 = .ok (.dup2, 1) := by decide +kernel
theorem dX10_plan_120 : decode cX10_plan 120 = .ok (.iaload, 1) := by decide +kernel
theorem dX10_plan_121 : decode cX10_plan 121 = .ok (.iconst 1, 1) := by decide +kernel
theorem dX10_plan_122 : decode cX10_plan 122 = .ok (.iadd, 1) := by decide +kernel
theorem dX10_plan_123 : decode cX10_plan 123 = .ok (.iastore, 1) := by decide +kernel
theorem dX10_plan_124 : decode cX10_plan 124 = .ok (.aload_n 0, 1) := by decide +kernel
theorem dX10_plan_125 : decode cX10_plan 125 = .ok (.getfield 9, 3) := by decide +kernel
theorem dX10_plan_128 : decode cX10_plan 128 = .ok (.bipush 114, 2) := by decide +kernel
theorem dX10_plan_130 : decode cX10_plan 130 = .ok (.iaload, 1) := by decide +kernel
theorem dX10_plan_131 : decode cX10_plan 131 = .ok (.ireturn, 1) := by decide +kernel
theorem dX10_ends_0 : decode cX10_ends 0 = .ok (.iload_n 1, 1) := by decide +kernel
theorem dX10_ends_1 : decode cX10_ends 1 = .ok (.iconst 0, 1) := by decide +kernel
theorem dX10_ends_2 : decode cX10_ends 2 = .ok (.iconst 1, 1) := by decide +kernel
theorem dX10_ends_3 : decode cX10_ends 3 = .ok (.invokestatic 82, 3) := by decide +kernel
theorem dX10_ends_6 : decode cX10_ends 6 = .ok (.ifCond .ne 5, 3) := by decide +kernel
theorem dX10_ends_9 : decode cX10_ends 9 = .ok (.iconst (-1), 1) := by decide +kernel
theorem dX10_ends_10 : decode cX10_ends 10 = .ok (.ireturn, 1) := by decide +kernel
theorem dX10_ends_11 : decode cX10_ends 11 = .ok (.aload_n 0, 1) := by decide +kernel
theorem dX10_ends_12 : decode cX10_ends 12 = .ok (.getfield 9, 3) := by decide +kernel
theorem dX10_ends_15 : decode cX10_ends 15 = .ok (.aload_n 0, 1) := by decide +kernel
theorem dX10_ends_16 : decode cX10_ends 16 = .ok (.getfield 15, 3) := by decide +kernel
theorem dX10_ends_19 : decode cX10_ends 19 = .ok (.invokestatic 78, 3) := by decide +kernel
theorem dX10_ends_22 : decode cX10_ends 22 = .ok (.iconst 0, 1) := by decide +kernel
theorem dX10_ends_23 : decode cX10_ends 23 = .ok (.istore_n 2, 1) := by decide +kernel
theorem dX10_ends_24 : decode cX10_ends 24 = .ok (.iload_n 2, 1) := by decide +kernel
theorem dX10_ends_25 : decode cX10_ends 25 = .ok (.aload_n 0, 1) := by decide +kernel
theorem dX10_ends_26 : decode cX10_ends 26 = .ok (.getfield 9, 3) := by decide +kernel
theorem dX10_ends_29 : decode cX10_ends 29 = .ok (.bipush 114, 2) := by decide +kernel
theorem dX10_ends_31 : decode cX10_ends 31 = .ok (.iaload, 1) := by decide +kernel
theorem dX10_ends_32 : decode cX10_ends 32 = .ok (.if_icmp .ge 88, 3) := by decide +kernel
theorem dX10_ends_35 : decode cX10_ends 35 = .ok (.aload_n 0, 1) := by decide +kernel
theorem dX10_ends_36 : decode cX10_ends 36 = .ok (.getfield 9, 3) := by decide +kernel
theorem dX10_ends_39 : decode cX10_ends 39 = .ok (.bipush 115, 2) := by decide +kernel
theorem dX10_ends_41 : decode cX10_ends 41 = .ok (.iconst 2, 1) := by decide +kernel
theorem dX10_ends_42 : decode cX10_ends 42 = .ok (.iload_n 2, 1) := by decide +kernel
theorem dX10_ends_43 : decode cX10_ends 43 = .ok (.imul, 1) := by decide +kernel
theorem dX10_ends_44 : decode cX10_ends 44 = .ok (.iadd, 1) := by decide +kernel
theorem dX10_ends_45 : decode cX10_ends 45 = .ok (.iaload, 1) := by decide +kernel
theorem dX10_ends_46 : decode cX10_ends 46 = .ok (.istore_n 3, 1) := by decide +kernel
theorem dX10_ends_47 : decode cX10_ends 47 = .ok (.aload_n 0, 1) := by decide +kernel
theorem dX10_ends_48 : decode cX10_ends 48 = .ok (.getfield 9, 3) := by decide +kernel
theorem dX10_ends_51 : decode cX10_ends 51 = .ok (.bipush 116, 2) := by decide +kernel
theorem dX10_ends_53 : decode cX10_ends 53 = .ok (.iconst 2, 1) := by decide +kernel
theorem dX10_ends_54 : decode cX10_ends 54 = .ok (.iload_n 2, 1) := by decide +kernel
theorem dX10_ends_55 : decode cX10_ends 55 = .ok (.imul, 1) := by decide +kernel
theorem dX10_ends_56 : decode cX10_ends 56 = .ok (.iadd, 1) := by decide +kernel
theorem dX10_ends_57 : decode cX10_ends 57 = .ok (.iaload, 1) := by decide +kernel
theorem dX10_ends_58 : decode cX10_ends 58 = .ok (.istore 4, 2) := by decide +kernel
theorem dX10_ends_60 : decode cX10_ends 60 = .ok (.iload_n 3, 1) := by decide +kernel
theorem dX10_ends_61 : decode cX10_ends 61 = .ok (.ifCond .ne 10, 3) := by decide +kernel
theorem dX10_ends_64 : decode cX10_ends 64 = .ok (.aload_n 0, 1) := by decide +kernel
theorem dX10_ends_65 : decode cX10_ends 65 = .ok (.invokevirtual 199, 3) := by decide +kernel
theorem dX10_ends_68 : decode cX10_ends 68 = .ok (.goto 46, 3) := by decide +kernel
theorem dX10_ends_71 : decode cX10_ends 71 = .ok (.iload_n 3, 1) := by decide +kernel
theorem dX10_ends_72 : decode cX10_ends 72 = .ok (.iconst 1, 1) := by decide +kernel
theorem dX10_ends_73 : decode cX10_ends 73 = .ok (.if_icmp .ne 16, 3) := by decide +kernel
theorem dX10_ends_76 : decode cX10_ends 76 = .ok (.aload_n 0, 1) := by decide +kernel
theorem dX10_ends_77 : decode cX10_ends 77 = .ok (.iload 4, 2) := by decide +kernel
theorem dX10_ends_79 : decode cX10_ends 79 = .ok (.iconst 2, 1) := by decide +kernel
theorem dX10_ends_80 : decode cX10_ends 80 = .ok (.bipush 99, 2) := by decide +kernel
theorem dX10_ends_82 : decode cX10_ends 82 = .ok (.invokevirtual 93, 3) := by decide +kernel
theorem dX10_ends_85 : decode cX10_ends 85 = .ok (.pop, 1) := by decide +kernel
theorem dX10_ends_86 : decode cX10_ends 86 = .ok (.goto 28, 3) := by decide +kernel
theorem dX10_ends_89 : decode cX10_ends 89 = .ok (.iload_n 3, 1) := by decide +kernel
theorem dX10_ends_90 : decode cX10_ends 90 = .ok (.iconst 2, 1) := by decide +kernel
theorem dX10_ends_91 : decode cX10_ends 91 = .ok (.if_icmp .ne 14, 3) := by decide +kernel
theorem dX10_ends_94 : decode cX10_ends 94 = .ok (.aload_n 0, 1) := by decide +kernel
theorem dX10_ends_95 : decode cX10_ends 95 = .ok (.iload 4, 2) := by decide +kernel
theorem dX10_ends_97 : decode cX10_ends 97 = .ok (.iconst (-1), 1) := by decide +kernel
theorem dX10_ends_98 : decode cX10_ends 98 = .ok (.invokevirtual 114, 3) := by decide +kernel
theorem dX10_ends_101 : decode cX10_ends 101 = .ok (.pop, 1) := by decide +kernel
theorem dX10_ends_102 : decode cX10_ends 102 = .ok (.goto 12, 3) := by decide +kernel
theorem dX10_ends_105 : decode cX10_ends 105 = .ok (.aload_n 0, 1) := by decide +kernel
theorem dX10_ends_106 : decode cX10_ends 106 = .ok (.iload 4, 2) := by decide +kernel
theorem dX10_ends_108 : decode cX10_ends 108 = .ok (.iconst 4, 1) := by decide +kernel
theorem dX10_ends_109 : decode cX10_ends 109 = .ok (.iconst 0, 1) := by decide +kernel
theorem dX10_ends_110 : decode cX10_ends 110 = .ok (.invokevirtual 93, 3) := by decide +kernel
theorem dX10_ends_113 : decode cX10_ends 113 = .ok (.pop, 1) := by decide +kernel
theorem dX10_ends_114 : decode cX10_ends 114 = .ok (.iinc 2 1, 3) := by decide +kernel
theorem dX10_ends_117 : decode cX10_ends 117 = .ok (.goto (-93), 3) := by decide +kernel
theorem dX10_ends_120 : decode cX10_ends 120 = .ok (.iload_n 1, 1) := by decide +kernel
theorem dX10_ends_121 : decode cX10_ends 121 = .ok (.ifCond .ne 11, 3) := by decide +kernel
theorem dX10_ends_124 : decode cX10_ends 124 = .ok (.aload_n 0, 1) := by decide +kernel
theorem dX10_ends_125 : decode cX10_ends 125 = .ok (.iconst 4, 1) := by decide +kernel
theorem dX10_ends_126 : decode cX10_ends 126 = .ok (.invokevirtual 202, 3) := by decide +kernel
theorem dX10_ends_129 : decode cX10_ends 129 = .ok (.goto 8, 3) := by decide +kernel
theorem dX10_ends_132 : decode cX10_ends 132 = .ok (.aload_n 0, 1) := by decide +kernel
theorem dX10_ends_133 : decode cX10_ends 133 = .ok (.iconst 2, 1) := by decide +kernel
theorem dX10_ends_134 : decode cX10_ends 134 = .ok (.invokevirtual 202, 3) := by decide +kernel
theorem dX10_ends_137 : decode cX10_ends 137 = .ok (.istore_n 2, 1) := by decide +kernel
theorem dX10_ends_138 : decode cX10_ends 138 = .ok (.aload_n 0, 1) := by decide +kernel
theorem dX10_ends_139 : decode cX10_ends 139 = .ok (.getfield 15, 3) := by decide +kernel
theorem dX10_ends_142 : decode cX10_ends 142 = .ok (.aload_n 0, 1) := by decide +kernel
theorem dX10_ends_143 : decode cX10_ends 143 = .ok (.getfield 9, 3) := by decide +kernel
theorem dX10_ends_146 : decode cX10_ends 146 = .ok (.invokestatic 78, 3) := by decide +kernel
theorem dX10_ends_149 : decode cX10_ends 149 = .ok (.iload_n 2, 1) := by decide +kernel
theorem dX10_ends_150 : decode cX10_ends 150 = .ok (.ireturn, 1) := by decide +kernel
theorem dX10_book_0 : decode cX10_book 0 = .ok (.iload_n 1, 1) := by decide +kernel
theorem dX10_book_1 : decode cX10_book 1 = .ok (.iconst (-1), 1) := by decide +kernel
theorem dX10_book_2 : decode cX10_book 2 = .ok (.if_icmp .ne 14, 3) := by decide +kernel
theorem dX10_book_5 : decode cX10_book 5 = .ok (.aload_n 0, 1) := by decide +kernel
theorem dX10_book_6 : decode cX10_book 6 = .ok (.getfield 9, 3) := by decide +kernel
theorem dX10_book_9 : decode cX10_book 9 = .ok (.sipush 135, 3) := by decide +kernel
theorem dX10_book_12 : decode cX10_book 12 = .ok (.iconst 0, 1) := by decide +kernel
theorem dX10_book_13 : decode cX10_book 13 = .ok (.iastore, 1) := by decide +kernel
theorem dX10_book_14 : decode cX10_book 14 = .ok (.iconst 0, 1) := by decide +kernel
theorem dX10_book_15 : decode cX10_book 15 = .ok (.ireturn, 1) := by decide +kernel
theorem dX10_book_16 : decode cX10_book 16 = .ok (.aload_n 0, 1) := by decide +kernel
theorem dX10_book_17 : decode cX10_book 17 = .ok (.iload_n 1, 1) := by decide +kernel
theorem dX10_book_18 : decode cX10_book 18 = .ok (.invokevirtual 97, 3) := by decide +kernel
theorem dX10_book_21 : decode cX10_book 21 = .ok (.ifCond .ne 5, 3) := by decide +kernel
theorem dX10_book_24 : decode cX10_book 24 = .ok (.iconst (-1), 1) := by decide +kernel
theorem dX10_book_25 : decode cX10_book 25 = .ok (.ireturn, 1) := by decide +kernel
theorem dX10_book_26 : decode cX10_book 26 = .ok (.iload_n 2, 1) := by decide +kernel
theorem dX10_book_27 : decode cX10_book 27 = .ok (.iconst 0, 1) := by decide +kernel
theorem dX10_book_28 : decode cX10_book 28 = .ok (.bipush 99, 2) := by decide +kernel
theorem dX10_book_30 : decode cX10_book 30 = .ok (.invokestatic 82, 3) := by decide +kernel
theorem dX10_book_33 : decode cX10_book 33 = .ok (.ifCond .ne 6, 3) := by decide +kernel
theorem dX10_book_36 : decode cX10_book 36 = .ok (.bipush (-2), 2) := by decide +kernel
theorem dX10_book_38 : decode cX10_book 38 = .ok (.ireturn, 1) := by decide +kernel
theorem dX10_book_39 : decode cX10_book 39 = .ok (.aload_n 0, 1) := by decide +kernel
theorem dX10_book_40 : decode cX10_book 40 = .ok (.getfield 9, 3) := by decide +kernel
theorem dX10_book_43 : decode cX10_book 43 = .ok (.sipush 135, 3) := by decide +kernel
theorem dX10_book_46 : decode cX10_book 46 = .ok (.iaload, 1) := by decide +kernel
theorem dX10_book_47 : decode cX10_book 47 = .ok (.bipush 8, 2) := by decide +kernel
theorem dX10_book_49 : decode cX10_book 49 = .ok (.if_icmp .ne 6, 3) := by decide +kernel
theorem dX10_book_52 : decode cX10_book 52 = .ok (.bipush (-4), 2) := by decide +kernel
theorem dX10_book_54 : decode cX10_book 54 = .ok (.ireturn, 1) := by decide +kernel
theorem dX10_book_55 : decode cX10_book 55 = .ok (.aload_n 0, 1) := by decide +kernel
theorem dX10_book_56 : decode cX10_book 56 = .ok (.getfield 9, 3) := by decide +kernel
theorem dX10_book_59 : decode cX10_book 59 = .ok (.sipush 136, 3) := by decide +kernel
theorem dX10_book_62 : decode cX10_book 62 = .ok (.iconst 2, 1) := by decide +kernel
theorem dX10_book_63 : decode cX10_book 63 = .ok (.aload_n 0, 1) := by decide +kernel
theorem dX10_book_64 : decode cX10_book 64 = .ok (.getfield 9, 3) := by decide +kernel
theorem dX10_book_67 : decode cX10_book 67 = .ok (.sipush 135, 3) := by decide +kernel
theorem dX10_book_70 : decode cX10_book 70 = .ok (.iaload, 1) := by decide +kernel
theorem dX10_book_71 : decode cX10_book 71 = .ok (.imul, 1) := by decide +kernel
theorem dX10_book_72 : decode cX10_book 72 = .ok (.iadd, 1) := by decide +kernel
theorem dX10_book_73 : decode cX10_book 73 = .ok (.iload_n 1, 1) := by decide +kernel
theorem dX10_book_74 : decode cX10_book 74 = .ok (.iastore, 1) := by decide +kernel
theorem dX10_book_75 : decode cX10_book 75 = .ok (.aload_n 0, 1) := by decide +kernel
theorem dX10_book_76 : decode cX10_book 76 = .ok (.getfield 9, 3) := by decide +kernel
theorem dX10_book_79 : decode cX10_book 79 = .ok (.sipush 137, 3) := by decide +kernel
theorem dX10_book_82 : decode cX10_book 82 = .ok (.iconst 2, 1) := by decide +kernel
theorem dX10_book_83 : decode cX10_book 83 = .ok (.aload_n 0, 1) := by decide +kernel
theorem dX10_book_84 : decode cX10_book 84 = .ok (.getfield 9, 3) := by decide +kernel
theorem dX10_book_87 : decode cX10_book 87 = .ok (.sipush 135, 3) := by decide +kernel
theorem dX10_book_90 : decode cX10_book 90 = .ok (.iaload, 1) := by decide +kernel
theorem dX10_book_91 : decode cX10_book 91 = .ok (.imul, 1) := by decide +kernel
theorem dX10_book_92 : decode cX10_book 92 = .ok (.iadd, 1) := by decide +kernel
theorem dX10_book_93 : decode cX10_book 93 = .ok (.iload_n 2, 1) := by decide +kernel
theorem dX10_book_94 : decode cX10_book 94 = .ok (.iastore, 1) := by decide +kernel
theorem dX10_book_95 : decode cX10_book 95 = .ok (.aload_n 0, 1) := by decide +kernel
theorem dX10_book_96 : decode cX10_book 96 = .ok (.getfield 9, 3) := by decide +kernel
theorem dX10_book_99 : decode cX10_book 99 = .ok (.sipush 135, 3) := by decide +kernel
theorem dX10_book_102 : decode cX10_book 102 = .ok (.dup2, 1) := by decide +kernel
theorem dX10_book_103 : decode cX10_book 103 = .ok (.iaload, 1) := by decide +kernel
theorem dX10_book_104 : decode cX10_book 104 = .ok (.iconst 1, 1) := by decide +kernel
theorem dX10_book_105 : decode cX10_book 105 = .ok (.iadd, 1) := by decide +kernel
theorem dX10_book_106 : decode cX10_book 106 = .ok (.iastore, 1) := by decide +kernel
theorem dX10_book_107 : decode cX10_book 107 = .ok (.aload_n 0, 1) := by decide +kernel
theorem dX10_book_108 : decode cX10_book 108 = .ok (.getfield 9, 3) := by decide +kernel
theorem dX10_book_111 : decode cX10_book 111 = .ok (.sipush 135, 3) := by decide +kernel
theorem dX10_book_114 : decode cX10_book 114 = .ok (.iaload, 1) := by decide +kernel
theorem dX10_book_115 : decode cX10_book 115 = .ok (.ireturn, 1) := by decide +kernel
theorem dX10_looked_0 : decode cX10_looked 0 = .ok (.iconst 0, 1) := by decide +kernel
theorem dX10_looked_1 : decode cX10_looked 1 = .ok (.istore_n 1, 1) := by decide +kernel
theorem dX10_looked_2 : decode cX10_looked 2 = .ok (.iload_n 1, 1) := by decide +kernel
theorem dX10_looked_3 : decode cX10_looked 3 = .ok (.aload_n 0, 1) := by decide +kernel
theorem dX10_looked_4 : decode cX10_looked 4 = .ok (.getfield 9, 3) := by decide +kernel
theorem dX10_looked_7 : decode cX10_looked 7 = .ok (.sipush 135, 3) := by decide +kernel
theorem dX10_looked_10 : decode cX10_looked 10 = .ok (.iaload, 1) := by decide +kernel
theorem dX10_looked_11 : decode cX10_looked 11 = .ok (.if_icmp .ge 43, 3) := by decide +kernel
theorem dX10_looked_14 : decode cX10_looked 14 = .ok (.aload_n 0, 1) := by decide +kernel
theorem dX10_looked_15 : decode cX10_looked 15 = .ok (.aload_n 0, 1) := by decide +kernel
theorem dX10_looked_16 : decode cX10_looked 16 = .ok (.getfield 9, 3) := by decide +kernel
theorem dX10_looked_19 : decode cX10_looked 19 = .ok (.sipush 136, 3) := by decide +kernel
theorem dX10_looked_22 : decode cX10_looked 22 = .ok (.iconst 2, 1) := by decide +kernel
theorem dX10_looked_23 : decode cX10_looked 23 = .ok (.iload_n 1, 1) := by decide +kernel
theorem dX10_looked_24 : decode cX10_looked 24 = .ok (.imul, 1) := by decide +kernel
theorem dX10_looked_25 : decode cX10_looked 25 = .ok (.iadd, 1) := by decide +kernel
theorem dX10_looked_26 : decode cX10_looked 26 = .ok (.iaload, 1) := by decide +kernel
theorem dX10_looked_27 : decode cX10_looked 27 = .ok (.iconst 2, 1) := by decide +kernel
theorem dX10_looked_28 : decode cX10_looked 28 = .ok (.invokevirtual 86, 3) := by decide +kernel
theorem dX10_looked_31 : decode cX10_looked 31 = .ok (.aload_n 0, 1) := by decide +kernel
theorem dX10_looked_32 : decode cX10_looked 32 = .ok (.getfield 9, 3) := by decide +kernel
theorem dX10_looked_35 : decode cX10_looked 35 = .ok (.sipush 137, 3) := by decide +kernel
theorem dX10_looked_38 : decode cX10_looked 38 = .ok (.iconst 2, 1) := by decide +kernel
theorem dX10_looked_39 : decode cX10_looked 39 = .ok (.iload_n 1, 1) := by decide +kernel
theorem dX10_looked_40 : decode cX10_looked 40 = .ok (.imul, 1) := by decide +kernel
theorem dX10_looked_41 : decode cX10_looked 41 = .ok (.iadd, 1) := by decide +kernel
theorem dX10_looked_42 : decode cX10_looked 42 = .ok (.iaload, 1) := by decide +kernel
theorem dX10_looked_43 : decode cX10_looked 43 = .ok (.if_icmp .eq 5, 3) := by decide +kernel
theorem dX10_looked_46 : decode cX10_looked 46 = .ok (.iload_n 1, 1) := by decide +kernel
theorem dX10_looked_47 : decode cX10_looked 47 = .ok (.ireturn, 1) := by decide +kernel
theorem dX10_looked_48 : decode cX10_looked 48 = .ok (.iinc 1 1, 3) := by decide +kernel
theorem dX10_looked_51 : decode cX10_looked 51 = .ok (.goto (-49), 3) := by decide +kernel
theorem dX10_looked_54 : decode cX10_looked 54 = .ok (.bipush (-5), 2) := by decide +kernel
theorem dX10_looked_56 : decode cX10_looked 56 = .ok (.ireturn, 1) := by decide +kernel
theorem dX10_body_0 : decode cX10_body 0 = .ok (.aload_n 0, 1) := by decide +kernel
theorem dX10_body_1 : decode cX10_body 1 = .ok (.getfield 249, 3) := by decide +kernel
theorem dX10_body_4 : decode cX10_body 4 = .ok (.bipush 20, 2) := by decide +kernel
theorem dX10_body_6 : decode cX10_body 6 = .ok (.if_icmp .ge 13, 3) := by decide +kernel
theorem dX10_body_9 : decode cX10_body 9 = .ok (.aload_n 0, 1) := by decide +kernel
theorem dX10_body_10 : decode cX10_body 10 = .ok (.getfield 58, 3) := by decide +kernel
theorem dX10_body_13 : decode cX10_body 13 = .ok (.aload_n 0, 1) := by decide +kernel
theorem dX10_body_14 : decode cX10_body 14 = .ok (.getfield 249, 3) := by decide +kernel
theorem dX10_body_17 : decode cX10_body 17 = .ok (.iload_n 1, 1) := by decide +kernel
theorem dX10_body_18 : decode cX10_body 18 = .ok (.iastore, 1) := by decide +kernel
theorem dX10_body_19 : decode cX10_body 19 = .ok (.aload_n 0, 1) := by decide +kernel
theorem dX10_body_20 : decode cX10_body 20 = .ok (.dup, 1) := by decide +kernel
theorem dX10_body_21 : decode cX10_body 21 = .ok (.getfield 249, 3) := by decide +kernel
theorem dX10_body_24 : decode cX10_body 24 = .ok (.iconst 1, 1) := by decide +kernel
theorem dX10_body_25 : decode cX10_body 25 = .ok (.iadd, 1) := by decide +kernel
theorem dX10_body_26 : decode cX10_body 26 = .ok (.putfield 249, 3) := by decide +kernel
theorem dX10_body_29 : decode cX10_body 29 = .ok (.iload_n 1, 1) := by decide +kernel
theorem dX10_body_30 : decode cX10_body 30 = .ok (.ireturn, 1) := by decide +kernel
theorem dX10_begin_0 : decode cX10_begin 0 = .ok (.aload_n 0, 1) := by decide +kernel
theorem dX10_begin_1 : decode cX10_begin 1 = .ok (.aload_n 0, 1) := by decide +kernel
theorem dX10_begin_2 : decode cX10_begin 2 = .ok (.iload_n 1, 1) := by decide +kernel
theorem dX10_begin_3 : decode cX10_begin 3 = .ok (.iconst 0, 1) := by decide +kernel
theorem dX10_begin_4 : decode cX10_begin 4 = .ok (.invokevirtual 86, 3) := by decide +kernel
theorem dX10_begin_7 : decode cX10_begin 7 = .ok (.iload_n 1, 1) := by decide +kernel
theorem dX10_begin_8 : decode cX10_begin 8 = .ok (.iload_n 2, 1) := by decide +kernel
theorem dX10_begin_9 : decode cX10_begin 9 = .ok (.iload_n 3, 1) := by decide +kernel
theorem dX10_begin_10 : decode cX10_begin 10 = .ok (.invokevirtual 252, 3) := by decide +kernel
theorem dX10_begin_13 : decode cX10_begin 13 = .ok (.ireturn, 1) := by decide +kernel
theorem dX10_byKind_0 : decode cX10_byKind 0 = .ok (.iload_n 1, 1) := by decide +kernel
theorem dX10_byKind_1 : decode cX10_byKind 1 = .ok (.istore 5, 2) := by decide +kernel
theorem dX10_byKind_3 : decode cX10_byKind 3 = .ok (.aload_n 0, 1) := by decide +kernel
theorem dX10_byKind_4 : decode cX10_byKind 4 = .ok (.getfield 55, 3) := by decide +kernel
theorem dX10_byKind_7 : decode cX10_byKind 7 = .ok (.iconst 3, 1) := by decide +kernel
theorem dX10_byKind_8 : decode cX10_byKind 8 = .ok (.iload 5, 2) := by decide +kernel
theorem dX10_byKind_10 : decode cX10_byKind 10 = .ok (.imul, 1) := by decide +kernel
theorem dX10_byKind_11 : decode cX10_byKind 11 = .ok (.iload_n 3, 1) := by decide +kernel
theorem dX10_byKind_12 : decode cX10_byKind 12 = .ok (.iadd, 1) := by decide +kernel
theorem dX10_byKind_13 : decode cX10_byKind 13 = .ok (.iaload, 1) := by decide +kernel
theorem dX10_byKind_14 : decode cX10_byKind 14 = .ok (.ifCond .ne 15, 3) := by decide +kernel
theorem dX10_byKind_17 : decode cX10_byKind 17 = .ok (.aload_n 0, 1) := by decide +kernel
theorem dX10_byKind_18 : decode cX10_byKind 18 = .ok (.getfield 52, 3) := by decide +kernel
theorem dX10_byKind_21 : decode cX10_byKind 21 = .ok (.iload 5, 2) := by decide +kernel
theorem dX10_byKind_23 : decode cX10_byKind 23 = .ok (.iaload, 1) := by decide +kernel
theorem dX10_byKind_24 : decode cX10_byKind 24 = .ok (.istore 5, 2) := by decide +kernel
theorem dX10_byKind_26 : decode cX10_byKind 26 = .ok (.goto (-23), 3) := by decide +kernel
theorem dX10_byKind_29 : decode cX10_byKind 29 = .ok (.aload_n 0, 1) := by decide +kernel
theorem dX10_byKind_30 : decode cX10_byKind 30 = .ok (.getfield 52, 3) := by decide +kernel
theorem dX10_byKind_33 : decode cX10_byKind 33 = .ok (.iload 5, 2) := by decide +kernel
theorem dX10_byKind_35 : decode cX10_byKind 35 = .ok (.iaload, 1) := by decide +kernel
theorem dX10_byKind_36 : decode cX10_byKind 36 = .ok (.istore 6, 2) := by decide +kernel
theorem dX10_byKind_38 : decode cX10_byKind 38 = .ok (.aload_n 0, 1) := by decide +kernel
theorem dX10_byKind_39 : decode cX10_byKind 39 = .ok (.aload_n 0, 1) := by decide +kernel
theorem dX10_byKind_40 : decode cX10_byKind 40 = .ok (.getfield 55, 3) := by decide +kernel
theorem dX10_byKind_43 : decode cX10_byKind 43 = .ok (.iconst 3, 1) := by decide +kernel
theorem dX10_byKind_44 : decode cX10_byKind 44 = .ok (.iload 5, 2) := by decide +kernel
theorem dX10_byKind_46 : decode cX10_byKind 46 = .ok (.imul, 1) := by decide +kernel
theorem dX10_byKind_47 : decode cX10_byKind 47 = .ok (.iload_n 3, 1) := by decide +kernel
theorem dX10_byKind_48 : decode cX10_byKind 48 = .ok (.iadd, 1) := by decide +kernel
theorem dX10_byKind_49 : decode cX10_byKind 49 = .ok (.iaload, 1) := by decide +kernel
theorem dX10_byKind_50 : decode cX10_byKind 50 = .ok (.invokevirtual 255, 3) := by decide +kernel
theorem dX10_byKind_53 : decode cX10_byKind 53 = .ok (.lookupswitch 228 #[(10, 91), (11, 96), (12, 112), (20, 123), (30, 137), (40, 150), (50, 169), (51, 181), (60, 194), (70, 207)], 91) := by decide +kernel
theorem dX10_byKind_144 : decode cX10_byKind 144 = .ok (.iload 4, 2) := by decide +kernel
theorem dX10_byKind_146 : decode cX10_byKind 146 = .ok (.iload_n 2, 1) := by decide +kernel
theorem dX10_byKind_147 : decode cX10_byKind 147 = .ok (.iadd, 1) := by decide +kernel
theorem dX10_byKind_148 : decode cX10_byKind 148 = .ok (.ireturn, 1) := by decide +kernel
theorem dX10_byKind_149 : decode cX10_byKind 149 = .ok (.aload_n 0, 1) := by decide +kernel
theorem dX10_byKind_150 : decode cX10_byKind 150 = .ok (.iload_n 2, 1) := by decide +kernel
theorem dX10_byKind_151 : decode cX10_byKind 151 = .ok (.iconst 0, 1) := by decide +kernel
theorem dX10_byKind_152 : decode cX10_byKind 152 = .ok (.iload 4, 2) := by decide +kernel
theorem dX10_byKind_154 : decode cX10_byKind 154 = .ok (.invokevirtual 258, 3) := by decide +kernel
theorem dX10_byKind_157 : decode cX10_byKind 157 = .ok (.aload_n 0, 1) := by decide +kernel
theorem dX10_byKind_158 : decode cX10_byKind 158 = .ok (.iload_n 2, 1) := by decide +kernel
theorem dX10_byKind_159 : decode cX10_byKind 159 = .ok (.iconst 1, 1) := by decide +kernel
theorem dX10_byKind_160 : decode cX10_byKind 160 = .ok (.invokevirtual 86, 3) := by decide +kernel
theorem dX10_byKind_163 : decode cX10_byKind 163 = .ok (.isub, 1) := by decide +kernel
theorem dX10_byKind_164 : decode cX10_byKind 164 = .ok (.ireturn, 1) := by decide +kernel
theorem dX10_byKind_165 : decode cX10_byKind 165 = .ok (.aload_n 0, 1) := by decide +kernel
theorem dX10_byKind_166 : decode cX10_byKind 166 = .ok (.iload_n 2, 1) := by decide +kernel
theorem dX10_byKind_167 : decode cX10_byKind 167 = .ok (.iconst 1, 1) := by decide +kernel
theorem dX10_byKind_168 : decode cX10_byKind 168 = .ok (.iload 4, 2) := by decide +kernel
theorem dX10_byKind_170 : decode cX10_byKind 170 = .ok (.invokevirtual 258, 3) := by decide +kernel
theorem dX10_byKind_173 : decode cX10_byKind 173 = .ok (.iconst 2, 1) := by decide +kernel
theorem dX10_byKind_174 : decode cX10_byKind 174 = .ok (.imul, 1) := by decide +kernel
theorem dX10_byKind_175 : decode cX10_byKind 175 = .ok (.ireturn, 1) := by decide +kernel
theorem dX10_byKind_176 : decode cX10_byKind 176 = .ok (.aload_n 0, 1) := by decide +kernel
theorem dX10_byKind_177 : decode cX10_byKind 177 = .ok (.iload 6, 2) := by decide +kernel
theorem dX10_byKind_179 : decode cX10_byKind 179 = .ok (.iload_n 2, 1) := by decide +kernel
theorem dX10_byKind_180 : decode cX10_byKind 180 = .ok (.iconst 1, 1) := by decide +kernel
theorem dX10_byKind_181 : decode cX10_byKind 181 = .ok (.iload 4, 2) := by decide +kernel
theorem dX10_byKind_183 : decode cX10_byKind 183 = .ok (.invokevirtual 252, 3) := by decide +kernel
theorem dX10_byKind_186 : decode cX10_byKind 186 = .ok (.bipush 6, 2) := by decide +kernel
theorem dX10_byKind_188 : decode cX10_byKind 188 = .ok (.ixor, 1) := by decide +kernel
theorem dX10_byKind_189 : decode cX10_byKind 189 = .ok (.ireturn, 1) := by decide +kernel
theorem dX10_byKind_190 : decode cX10_byKind 190 = .ok (.aload_n 0, 1) := by decide +kernel
theorem dX10_byKind_191 : decode cX10_byKind 191 = .ok (.iload 6, 2) := by decide +kernel
theorem dX10_byKind_193 : decode cX10_byKind 193 = .ok (.iload_n 2, 1) := by decide +kernel
theorem dX10_byKind_194 : decode cX10_byKind 194 = .ok (.iconst 0, 1) := by decide +kernel
theorem dX10_byKind_195 : decode cX10_byKind 195 = .ok (.iload 4, 2) := by decide +kernel
theorem dX10_byKind_197 : decode cX10_byKind 197 = .ok (.iconst 3, 1) := by decide +kernel
theorem dX10_byKind_198 : decode cX10_byKind 198 = .ok (.imul, 1) := by decide +kernel
theorem dX10_byKind_199 : decode cX10_byKind 199 = .ok (.invokevirtual 252, 3) := by decide +kernel
theorem dX10_byKind_202 : decode cX10_byKind 202 = .ok (.ireturn, 1) := by decide +kernel
theorem dX10_byKind_203 : decode cX10_byKind 203 = .ok (.aload_n 0, 1) := by decide +kernel
theorem dX10_byKind_204 : decode cX10_byKind 204 = .ok (.iload 6, 2) := by decide +kernel
theorem dX10_byKind_206 : decode cX10_byKind 206 = .ok (.iload_n 2, 1) := by decide +kernel
theorem dX10_byKind_207 : decode cX10_byKind 207 = .ok (.iconst 2, 1) := by decide +kernel
theorem dX10_byKind_208 : decode cX10_byKind 208 = .ok (.iload 4, 2) := by decide +kernel
theorem dX10_byKind_210 : decode cX10_byKind 210 = .ok (.invokevirtual 252, 3) := by decide +kernel
theorem dX10_byKind_213 : decode cX10_byKind 213 = .ok (.aload_n 0, 1) := by decide +kernel
theorem dX10_byKind_214 : decode cX10_byKind 214 = .ok (.iload_n 2, 1) := by decide +kernel
theorem dX10_byKind_215 : decode cX10_byKind 215 = .ok (.iconst 1, 1) := by decide +kernel
theorem dX10_byKind_216 : decode cX10_byKind 216 = .ok (.iconst 1, 1) := by decide +kernel
theorem dX10_byKind_217 : decode cX10_byKind 217 = .ok (.invokevirtual 258, 3) := by decide +kernel
theorem dX10_byKind_220 : decode cX10_byKind 220 = .ok (.iadd, 1) := by decide +kernel
theorem dX10_byKind_221 : decode cX10_byKind 221 = .ok (.ireturn, 1) := by decide +kernel
theorem dX10_byKind_222 : decode cX10_byKind 222 = .ok (.aload_n 0, 1) := by decide +kernel
theorem dX10_byKind_223 : decode cX10_byKind 223 = .ok (.iload 6, 2) := by decide +kernel
theorem dX10_byKind_225 : decode cX10_byKind 225 = .ok (.iload_n 2, 1) := by decide +kernel
theorem dX10_byKind_226 : decode cX10_byKind 226 = .ok (.iconst 0, 1) := by decide +kernel
theorem dX10_byKind_227 : decode cX10_byKind 227 = .ok (.iload 4, 2) := by decide +kernel
theorem dX10_byKind_229 : decode cX10_byKind 229 = .ok (.invokevirtual 252, 3) := by decide +kernel
theorem dX10_byKind_232 : decode cX10_byKind 232 = .ok (.ineg, 1) := by decide +kernel
theorem dX10_byKind_233 : decode cX10_byKind 233 = .ok (.ireturn, 1) := by decide +kernel
theorem dX10_byKind_234 : decode cX10_byKind 234 = .ok (.aload_n 0, 1) := by decide +kernel
theorem dX10_byKind_235 : decode cX10_byKind 235 = .ok (.iload 6, 2) := by decide +kernel
theorem dX10_byKind_237 : decode cX10_byKind 237 = .ok (.iload_n 2, 1) := by decide +kernel
theorem dX10_byKind_238 : decode cX10_byKind 238 = .ok (.iconst 1, 1) := by decide +kernel
theorem dX10_byKind_239 : decode cX10_byKind 239 = .ok (.iload 4, 2) := by decide +kernel
theorem dX10_byKind_241 : decode cX10_byKind 241 = .ok (.iconst 1, 1) := by decide +kernel
theorem dX10_byKind_242 : decode cX10_byKind 242 = .ok (.iadd, 1) := by decide +kernel
theorem dX10_byKind_243 : decode cX10_byKind 243 = .ok (.invokevirtual 252, 3) := by decide +kernel
theorem dX10_byKind_246 : decode cX10_byKind 246 = .ok (.ireturn, 1) := by decide +kernel
theorem dX10_byKind_247 : decode cX10_byKind 247 = .ok (.aload_n 0, 1) := by decide +kernel
theorem dX10_byKind_248 : decode cX10_byKind 248 = .ok (.iload 6, 2) := by decide +kernel
theorem dX10_byKind_250 : decode cX10_byKind 250 = .ok (.iload_n 2, 1) := by decide +kernel
theorem dX10_byKind_251 : decode cX10_byKind 251 = .ok (.iconst 2, 1) := by decide +kernel
theorem dX10_byKind_252 : decode cX10_byKind 252 = .ok (.iload 4, 2) := by decide +kernel
theorem dX10_byKind_254 : decode cX10_byKind 254 = .ok (.iload_n 2, 1) := by decide +kernel
theorem dX10_byKind_255 : decode cX10_byKind 255 = .ok (.isub, 1) := by decide +kernel
theorem dX10_byKind_256 : decode cX10_byKind 256 = .ok (.invokevirtual 252, 3) := by decide +kernel
theorem dX10_byKind_259 : decode cX10_byKind 259 = .ok (.ireturn, 1) := by decide +kernel
theorem dX10_byKind_260 : decode cX10_byKind 260 = .ok (.aload_n 0, 1) := by decide +kernel
theorem dX10_byKind_261 : decode cX10_byKind 261 = .ok (.iload 6, 2) := by decide +kernel
theorem dX10_byKind_263 : decode cX10_byKind 263 = .ok (.iload_n 2, 1) := by decide +kernel
theorem dX10_byKind_264 : decode cX10_byKind 264 = .ok (.iconst 1, 1) := by decide +kernel
theorem dX10_byKind_265 : decode cX10_byKind 265 = .ok (.iload 4, 2) := by decide +kernel
theorem dX10_byKind_267 : decode cX10_byKind 267 = .ok (.invokevirtual 252, 3) := by decide +kernel
theorem dX10_byKind_270 : decode cX10_byKind 270 = .ok (.aload_n 0, 1) := by decide +kernel
theorem dX10_byKind_271 : decode cX10_byKind 271 = .ok (.iload 6, 2) := by decide +kernel
theorem dX10_byKind_273 : decode cX10_byKind 273 = .ok (.iload_n 2, 1) := by decide +kernel
theorem dX10_byKind_274 : decode cX10_byKind 274 = .ok (.iconst 0, 1) := by decide +kernel
theorem dX10_byKind_275 : decode cX10_byKind 275 = .ok (.iconst 2, 1) := by decide +kernel
theorem dX10_byKind_276 : decode cX10_byKind 276 = .ok (.invokevirtual 252, 3) := by decide +kernel
theorem dX10_byKind_279 : decode cX10_byKind 279 = .ok (.iadd, 1) := by decide +kernel
theorem dX10_byKind_280 : decode cX10_byKind 280 = .ok (.ireturn, 1) := by decide +kernel
theorem dX10_byKind_281 : decode cX10_byKind 281 = .ok (.aload_n 0, 1) := by decide +kernel
theorem dX10_byKind_282 : decode cX10_byKind 282 = .ok (.iload 6, 2) := by decide +kernel
theorem dX10_byKind_284 : decode cX10_byKind 284 = .ok (.iload_n 2, 1) := by decide +kernel
theorem dX10_byKind_285 : decode cX10_byKind 285 = .ok (.iconst 0, 1) := by decide +kernel
theorem dX10_byKind_286 : decode cX10_byKind 286 = .ok (.iload 4, 2) := by decide +kernel
theorem dX10_byKind_288 : decode cX10_byKind 288 = .ok (.invokevirtual 252, 3) := by decide +kernel
theorem dX10_byKind_291 : decode cX10_byKind 291 = .ok (.aload_n 0, 1) := by decide +kernel
theorem dX10_byKind_292 : decode cX10_byKind 292 = .ok (.iload_n 2, 1) := by decide +kernel
theorem dX10_byKind_293 : decode cX10_byKind 293 = .ok (.iconst 1, 1) := by decide +kernel
theorem dX10_byKind_294 : decode cX10_byKind 294 = .ok (.invokevirtual 86, 3) := by decide +kernel
theorem dX10_byKind_297 : decode cX10_byKind 297 = .ok (.ixor, 1) := by decide +kernel
theorem dX10_byKind_298 : decode cX10_byKind 298 = .ok (.ireturn, 1) := by decide +kernel
theorem dX10_act_0 : decode cX10_act 0 = .ok (.aload_n 0, 1) := by decide +kernel
theorem dX10_act_1 : decode cX10_act 1 = .ok (.iconst 0, 1) := by decide +kernel
theorem dX10_act_2 : decode cX10_act 2 = .ok (.putfield 249, 3) := by decide +kernel
theorem dX10_act_5 : decode cX10_act 5 = .ok (.aload_n 0, 1) := by decide +kernel
theorem dX10_act_6 : decode cX10_act 6 = .ok (.iload_n 1, 1) := by decide +kernel
theorem dX10_act_7 : decode cX10_act 7 = .ok (.invokevirtual 97, 3) := by decide +kernel
theorem dX10_act_10 : decode cX10_act 10 = .ok (.ifCond .eq 22, 3) := by decide +kernel
theorem dX10_act_13 : decode cX10_act 13 = .ok (.iload_n 2, 1) := by decide +kernel
theorem dX10_act_14 : decode cX10_act 14 = .ok (.iconst 0, 1) := by decide +kernel
theorem dX10_act_15 : decode cX10_act 15 = .ok (.iconst 2, 1) := by decide +kernel
theorem dX10_act_16 : decode cX10_act 16 = .ok (.invokestatic 82, 3) := by decide +kernel
theorem dX10_act_19 : decode cX10_act 19 = .ok (.ifCond .eq 13, 3) := by decide +kernel
theorem dX10_act_22 : decode cX10_act 22 = .ok (.aload_n 0, 1) := by decide +kernel
theorem dX10_act_23 : decode cX10_act 23 = .ok (.iload_n 1, 1) := by decide +kernel
theorem dX10_act_24 : decode cX10_act 24 = .ok (.iload_n 2, 1) := by decide +kernel
theorem dX10_act_25 : decode cX10_act 25 = .ok (.iload_n 3, 1) := by decide +kernel
theorem dX10_act_26 : decode cX10_act 26 = .ok (.invokevirtual 258, 3) := by decide +kernel
theorem dX10_act_29 : decode cX10_act 29 = .ok (.goto 4, 3) := by decide +kernel
theorem dX10_act_32 : decode cX10_act 32 = .ok (.iconst 0, 1) := by decide +kernel
theorem dX10_act_33 : decode cX10_act 33 = .ok (.ireturn, 1) := by decide +kernel
theorem dX10_trace_0 : decode cX10_trace 0 = .ok (.iload_n 1, 1) := by decide +kernel
theorem dX10_trace_1 : decode cX10_trace 1 = .ok (.iconst 0, 1) := by decide +kernel
theorem dX10_trace_2 : decode cX10_trace 2 = .ok (.bipush 20, 2) := by decide +kernel
theorem dX10_trace_4 : decode cX10_trace 4 = .ok (.aload_n 0, 1) := by decide +kernel
theorem dX10_trace_5 : decode cX10_trace 5 = .ok (.getfield 249, 3) := by decide +kernel
theorem dX10_trace_8 : decode cX10_trace 8 = .ok (.invokestatic 182, 3) := by decide +kernel
theorem dX10_trace_11 : decode cX10_trace 11 = .ok (.iconst 1, 1) := by decide +kernel
theorem dX10_trace_12 : decode cX10_trace 12 = .ok (.isub, 1) := by decide +kernel
theorem dX10_trace_13 : decode cX10_trace 13 = .ok (.invokestatic 82, 3) := by decide +kernel
theorem dX10_trace_16 : decode cX10_trace 16 = .ok (.ifCond .eq 12, 3) := by decide +kernel
theorem dX10_trace_19 : decode cX10_trace 19 = .ok (.aload_n 0, 1) := by decide +kernel
theorem dX10_trace_20 : decode cX10_trace 20 = .ok (.getfield 58, 3) := by decide +kernel
theorem dX10_trace_23 : decode cX10_trace 23 = .ok (.iload_n 1, 1) := by decide +kernel
theorem dX10_trace_24 : decode cX10_trace 24 = .ok (.iaload, 1) := by decide +kernel
theorem dX10_trace_25 : decode cX10_trace 25 = .ok (.goto 4, 3) := by decide +kernel
theorem dX10_trace_28 : decode cX10_trace 28 = .ok (.iconst (-1), 1) := by decide +kernel
theorem dX10_trace_29 : decode cX10_trace 29 = .ok (.ireturn, 1) := by decide +kernel
theorem dX10_taken_0 : decode cX10_taken 0 = .ok (.iload_n 2, 1) := by decide +kernel
theorem dX10_taken_1 : decode cX10_taken 1 = .ok (.iconst 0, 1) := by decide +kernel
theorem dX10_taken_2 : decode cX10_taken 2 = .ok (.bipush 6, 2) := by decide +kernel
theorem dX10_taken_4 : decode cX10_taken 4 = .ok (.invokestatic 82, 3) := by decide +kernel
theorem dX10_taken_7 : decode cX10_taken 7 = .ok (.ifCond .ne 6, 3) := by decide +kernel
theorem dX10_taken_10 : decode cX10_taken 10 = .ok (.bipush (-2), 2) := by decide +kernel
theorem dX10_taken_12 : decode cX10_taken 12 = .ok (.ireturn, 1) := by decide +kernel
theorem dX10_taken_13 : decode cX10_taken 13 = .ok (.aload_n 0, 1) := by decide +kernel
theorem dX10_taken_14 : decode cX10_taken 14 = .ok (.iload_n 1, 1) := by decide +kernel
theorem dX10_taken_15 : decode cX10_taken 15 = .ok (.invokevirtual 97, 3) := by decide +kernel
theorem dX10_taken_18 : decode cX10_taken 18 = .ok (.ifCond .ne 6, 3) := by decide +kernel
theorem dX10_taken_21 : decode cX10_taken 21 = .ok (.bipush (-11), 2) := by decide +kernel
theorem dX10_taken_23 : decode cX10_taken 23 = .ok (.ireturn, 1) := by decide +kernel
theorem dX10_taken_24 : decode cX10_taken 24 = .ok (.aload_n 0, 1) := by decide +kernel
theorem dX10_taken_25 : decode cX10_taken 25 = .ok (.iload_n 1, 1) := by decide +kernel
theorem dX10_taken_26 : decode cX10_taken 26 = .ok (.iconst 0, 1) := by decide +kernel
theorem dX10_taken_27 : decode cX10_taken 27 = .ok (.invokevirtual 86, 3) := by decide +kernel
theorem dX10_taken_30 : decode cX10_taken 30 = .ok (.istore_n 3, 1) := by decide +kernel
theorem dX10_taken_31 : decode cX10_taken 31 = .ok (.iload_n 3, 1) := by decide +kernel
theorem dX10_taken_32 : decode cX10_taken 32 = .ok (.iconst (-1), 1) := by decide +kernel
theorem dX10_taken_33 : decode cX10_taken 33 = .ok (.if_icmp .eq 18, 3) := by decide +kernel
theorem dX10_taken_36 : decode cX10_taken 36 = .ok (.iload_n 3, 1) := by decide +kernel
theorem dX10_taken_37 : decode cX10_taken 37 = .ok (.iload_n 2, 1) := by decide +kernel
theorem dX10_taken_38 : decode cX10_taken 38 = .ok (.if_icmp .eq 13, 3) := by decide +kernel
theorem dX10_taken_41 : decode cX10_taken 41 = .ok (.aload_n 0, 1) := by decide +kernel
theorem dX10_taken_42 : decode cX10_taken 42 = .ok (.getfield 52, 3) := by decide +kernel
theorem dX10_taken_45 : decode cX10_taken 45 = .ok (.iload_n 3, 1) := by decide +kernel
theorem dX10_taken_46 : decode cX10_taken 46 = .ok (.iaload, 1) := by decide +kernel
theorem dX10_taken_47 : decode cX10_taken 47 = .ok (.istore_n 3, 1) := by decide +kernel
theorem dX10_taken_48 : decode cX10_taken 48 = .ok (.goto (-17), 3) := by decide +kernel
theorem dX10_taken_51 : decode cX10_taken 51 = .ok (.iload_n 3, 1) := by decide +kernel
theorem dX10_taken_52 : decode cX10_taken 52 = .ok (.iload_n 2, 1) := by decide +kernel
theorem dX10_taken_53 : decode cX10_taken 53 = .ok (.if_icmp .ne 12, 3) := by decide +kernel
theorem dX10_taken_56 : decode cX10_taken 56 = .ok (.aload_n 0, 1) := by decide +kernel
theorem dX10_taken_57 : decode cX10_taken 57 = .ok (.iload_n 1, 1) := by decide +kernel
theorem dX10_taken_58 : decode cX10_taken 58 = .ok (.iconst 0, 1) := by decide +kernel
theorem dX10_taken_59 : decode cX10_taken 59 = .ok (.invokevirtual 86, 3) := by decide +kernel
theorem dX10_taken_62 : decode cX10_taken 62 = .ok (.goto 5, 3) := by decide +kernel
theorem dX10_taken_65 : decode cX10_taken 65 = .ok (.bipush (-12), 2) := by decide +kernel
theorem dX10_taken_67 : decode cX10_taken 67 = .ok (.ireturn, 1) := by decide +kernel
theorem dX10_count_0 : decode cX10_count 0 = .ok (.iload_n 1, 1) := by decide +kernel
theorem dX10_count_1 : decode cX10_count 1 = .ok (.tableswitch 115 0 8 #[51, 59, 67, 72, 80, 88, 96, 105, 110], 51) := by decide +kernel
theorem dX10_count_52 : decode cX10_count 52 = .ok (.aload_n 0, 1) := by decide +kernel
theorem dX10_count_53 : decode cX10_count 53 = .ok (.getfield 9, 3) := by decide +kernel
theorem dX10_count_56 : decode cX10_count 56 = .ok (.bipush 78, 2) := by decide +kernel
theorem dX10_count_58 : decode cX10_count 58 = .ok (.iaload, 1) := by decide +kernel
theorem dX10_count_59 : decode cX10_count 59 = .ok (.ireturn, 1) := by decide +kernel
theorem dX10_count_60 : decode cX10_count 60 = .ok (.aload_n 0, 1) := by decide +kernel
theorem dX10_count_61 : decode cX10_count 61 = .ok (.getfield 9, 3) := by decide +kernel
theorem dX10_count_64 : decode cX10_count 64 = .ok (.bipush 79, 2) := by decide +kernel
theorem dX10_count_66 : decode cX10_count 66 = .ok (.iaload, 1) := by decide +kernel
theorem dX10_count_67 : decode cX10_count 67 = .ok (.ireturn, 1) := by decide +kernel
theorem dX10_count_68 : decode cX10_count 68 = .ok (.aload_n 0, 1) := by decide +kernel
theorem dX10_count_69 : decode cX10_count 69 = .ok (.getfield 175, 3) := by decide +kernel
theorem dX10_count_72 : decode cX10_count 72 = .ok (.ireturn, 1) := by decide +kernel
theorem dX10_count_73 : decode cX10_count 73 = .ok (.aload_n 0, 1) := by decide +kernel
theorem dX10_count_74 : decode cX10_count 74 = .ok (.getfield 9, 3) := by decide +kernel
theorem dX10_count_77 : decode cX10_count 77 = .ok (.bipush 82, 2) := by decide +kernel
theorem dX10_count_79 : decode cX10_count 79 = .ok (.iaload, 1) := by decide +kernel
theorem dX10_count_80 : decode cX10_count 80 = .ok (.ireturn, 1) := by decide +kernel
theorem dX10_count_81 : decode cX10_count 81 = .ok (.aload_n 0, 1) := by decide +kernel
theorem dX10_count_82 : decode cX10_count 82 = .ok (.getfield 9, 3) := by decide +kernel
theorem dX10_count_85 : decode cX10_count 85 = .ok (.bipush 98, 2) := by decide +kernel
theorem dX10_count_87 : decode cX10_count 87 = .ok (.iaload, 1) := by decide +kernel
theorem dX10_count_88 : decode cX10_count 88 = .ok (.ireturn, 1) := by decide +kernel
theorem dX10_count_89 : decode cX10_count 89 = .ok (.aload_n 0, 1) := by decide +kernel
theorem dX10_count_90 : decode cX10_count 90 = .ok (.getfield 9, 3) := by decide +kernel
theorem dX10_count_93 : decode cX10_count 93 = .ok (.bipush 114, 2) := by decide +kernel
theorem dX10_count_95 : decode cX10_count 95 = .ok (.iaload, 1) := by decide +kernel
theorem dX10_count_96 : decode cX10_count 96 = .ok (.ireturn, 1) := by decide +kernel
theorem dX10_count_97 : decode cX10_count 97 = .ok (.aload_n 0, 1) := by decide +kernel
theorem dX10_count_98 : decode cX10_count 98 = .ok (.getfield 9, 3) := by decide +kernel
theorem dX10_count_101 : decode cX10_count 101 = .ok (.sipush 135, 3) := by decide +kernel
theorem dX10_count_104 : decode cX10_count 104 = .ok (.iaload, 1) := by decide +kernel
theorem dX10_count_105 : decode cX10_count 105 = .ok (.ireturn, 1) := by decide +kernel
theorem dX10_count_106 : decode cX10_count 106 = .ok (.aload_n 0, 1) := by decide +kernel
theorem dX10_count_107 : decode cX10_count 107 = .ok (.getfield 120, 3) := by decide +kernel
theorem dX10_count_110 : decode cX10_count 110 = .ok (.ireturn, 1) := by decide +kernel
theorem dX10_count_111 : decode cX10_count 111 = .ok (.aload_n 0, 1) := by decide +kernel
theorem dX10_count_112 : decode cX10_count 112 = .ok (.getfield 249, 3) := by decide +kernel
theorem dX10_count_115 : decode cX10_count 115 = .ok (.ireturn, 1) := by decide +kernel
theorem dX10_count_116 : decode cX10_count 116 = .ok (.bipush (-2), 2) := by decide +kernel
theorem dX10_count_118 : decode cX10_count 118 = .ok (.ireturn, 1) := by decide +kernel
theorem dX10_isTape_0 : decode cX10_isTape 0 = .ok (.iload_n 0, 1) := by decide +kernel
theorem dX10_isTape_1 : decode cX10_isTape 1 = .ok (.iconst 0, 1) := by decide +kernel
theorem dX10_isTape_2 : decode cX10_isTape 2 = .ok (.iconst 5, 1) := by decide +kernel
theorem dX10_isTape_3 : decode cX10_isTape 3 = .ok (.invokestatic 82, 3) := by decide +kernel
theorem dX10_isTape_6 : decode cX10_isTape 6 = .ok (.ireturn, 1) := by decide +kernel
theorem dX10_tape_0 : decode cX10_tape 0 = .ok (.iload_n 1, 1) := by decide +kernel
theorem dX10_tape_1 : decode cX10_tape 1 = .ok (.invokestatic 261, 3) := by decide +kernel
theorem dX10_tape_4 : decode cX10_tape 4 = .ok (.ifCond .ne 5, 3) := by decide +kernel
theorem dX10_tape_7 : decode cX10_tape 7 = .ok (.iconst (-1), 1) := by decide +kernel
theorem dX10_tape_8 : decode cX10_tape 8 = .ok (.ireturn, 1) := by decide +kernel
theorem dX10_tape_9 : decode cX10_tape 9 = .ok (.iload_n 2, 1) := by decide +kernel
theorem dX10_tape_10 : decode cX10_tape 10 = .ok (.iconst (-1), 1) := by decide +kernel
theorem dX10_tape_11 : decode cX10_tape 11 = .ok (.iconst 4, 1) := by decide +kernel
theorem dX10_tape_12 : decode cX10_tape 12 = .ok (.invokestatic 82, 3) := by decide +kernel
theorem dX10_tape_15 : decode cX10_tape 15 = .ok (.ifCond .eq 13, 3) := by decide +kernel
theorem dX10_tape_18 : decode cX10_tape 18 = .ok (.iload_n 2, 1) := by decide +kernel
theorem dX10_tape_19 : decode cX10_tape 19 = .ok (.ifCond .lt 12, 3) := by decide +kernel
theorem dX10_tape_22 : decode cX10_tape 22 = .ok (.iload_n 3, 1) := by decide +kernel
theorem dX10_tape_23 : decode cX10_tape 23 = .ok (.bipush 60, 2) := by decide +kernel
theorem dX10_tape_25 : decode cX10_tape 25 = .ok (.if_icmp .le 6, 3) := by decide +kernel
theorem dX10_tape_28 : decode cX10_tape 28 = .ok (.bipush (-2), 2) := by decide +kernel
theorem dX10_tape_30 : decode cX10_tape 30 = .ok (.ireturn, 1) := by decide +kernel
theorem dX10_tape_31 : decode cX10_tape 31 = .ok (.iload_n 2, 1) := by decide +kernel
theorem dX10_tape_32 : decode cX10_tape 32 = .ok (.ifCond .lt 10, 3) := by decide +kernel
theorem dX10_tape_35 : decode cX10_tape 35 = .ok (.iload_n 3, 1) := by decide +kernel
theorem dX10_tape_36 : decode cX10_tape 36 = .ok (.ifCond .ge 6, 3) := by decide +kernel
theorem dX10_tape_39 : decode cX10_tape 39 = .ok (.bipush (-14), 2) := by decide +kernel
theorem dX10_tape_41 : decode cX10_tape 41 = .ok (.ireturn, 1) := by decide +kernel
theorem dX10_tape_42 : decode cX10_tape 42 = .ok (.aload_n 0, 1) := by decide +kernel
theorem dX10_tape_43 : decode cX10_tape 43 = .ok (.getfield 61, 3) := by decide +kernel
theorem dX10_tape_46 : decode cX10_tape 46 = .ok (.iload_n 1, 1) := by decide +kernel
theorem dX10_tape_47 : decode cX10_tape 47 = .ok (.iload_n 2, 1) := by decide +kernel
theorem dX10_tape_48 : decode cX10_tape 48 = .ok (.iastore, 1) := by decide +kernel
theorem dX10_tape_49 : decode cX10_tape 49 = .ok (.aload_n 0, 1) := by decide +kernel
theorem dX10_tape_50 : decode cX10_tape 50 = .ok (.getfield 64, 3) := by decide +kernel
theorem dX10_tape_53 : decode cX10_tape 53 = .ok (.iload_n 1, 1) := by decide +kernel
theorem dX10_tape_54 : decode cX10_tape 54 = .ok (.iload_n 2, 1) := by decide +kernel
theorem dX10_tape_55 : decode cX10_tape 55 = .ok (.ifCond .ge 7, 3) := by decide +kernel
theorem dX10_tape_58 : decode cX10_tape 58 = .ok (.iconst 0, 1) := by decide +kernel
theorem dX10_tape_59 : decode cX10_tape 59 = .ok (.goto 4, 3) := by decide +kernel
theorem dX10_tape_62 : decode cX10_tape 62 = .ok (.iload_n 3, 1) := by decide +kernel
theorem dX10_tape_63 : decode cX10_tape 63 = .ok (.iastore, 1) := by decide +kernel
theorem dX10_tape_64 : decode cX10_tape 64 = .ok (.iconst 0, 1) := by decide +kernel
theorem dX10_tape_65 : decode cX10_tape 65 = .ok (.istore 4, 2) := by decide +kernel
theorem dX10_tape_67 : decode cX10_tape 67 = .ok (.iload 4, 2) := by decide +kernel
theorem dX10_tape_69 : decode cX10_tape 69 = .ok (.bipush 60, 2) := by decide +kernel
theorem dX10_tape_71 : decode cX10_tape 71 = .ok (.if_icmp .ge 22, 3) := by decide +kernel
theorem dX10_tape_74 : decode cX10_tape 74 = .ok (.aload_n 0, 1) := by decide +kernel
theorem dX10_tape_75 : decode cX10_tape 75 = .ok (.getfield 67, 3) := by decide +kernel
theorem dX10_tape_78 : decode cX10_tape 78 = .ok (.bipush 60, 2) := by decide +kernel
theorem dX10_tape_80 : decode cX10_tape 80 = .ok (.iload_n 1, 1) := by decide +kernel
theorem dX10_tape_81 : decode cX10_tape 81 = .ok (.imul, 1) := by decide +kernel
theorem dX10_tape_82 : decode cX10_tape 82 = .ok (.iload 4, 2) := by decide +kernel
theorem dX10_tape_84 : decode cX10_tape 84 = .ok (.iadd, 1) := by decide +kernel
theorem dX10_tape_85 : decode cX10_tape 85 = .ok (.lconst 0, 1) := by decide +kernel
theorem dX10_tape_86 : decode cX10_tape 86 = .ok (.lastore, 1) := by decide +kernel
theorem dX10_tape_87 : decode cX10_tape 87 = .ok (.iinc 4 1, 3) := by decide +kernel
theorem dX10_tape_90 : decode cX10_tape 90 = .ok (.goto (-23), 3) := by decide +kernel
theorem dX10_tape_93 : decode cX10_tape 93 = .ok (.iconst 1, 1) := by decide +kernel
theorem dX10_tape_94 : decode cX10_tape 94 = .ok (.ireturn, 1) := by decide +kernel
theorem dX10_item_0 : decode cX10_item 0 = .ok (.iload_n 1, 1) := by decide +kernel
theorem dX10_item_1 : decode cX10_item 1 = .ok (.invokestatic 261, 3) := by decide +kernel
theorem dX10_item_4 : decode cX10_item 4 = .ok (.ifCond .ne 5, 3) := by decide +kernel
theorem dX10_item_7 : decode cX10_item 7 = .ok (.iconst (-1), 1) := by decide +kernel
theorem dX10_item_8 : decode cX10_item 8 = .ok (.ireturn, 1) := by decide +kernel
theorem dX10_item_9 : decode cX10_item 9 = .ok (.aload_n 0, 1) := by decide +kernel
theorem dX10_item_10 : decode cX10_item 10 = .ok (.getfield 61, 3) := by decide +kernel
theorem dX10_item_13 : decode cX10_item 13 = .ok (.iload_n 1, 1) := by decide +kernel
theorem dX10_item_14 : decode cX10_item 14 = .ok (.iaload, 1) := by decide +kernel
theorem dX10_item_15 : decode cX10_item 15 = .ok (.ifCond .ge 6, 3) := by decide +kernel
theorem dX10_item_18 : decode cX10_item 18 = .ok (.bipush (-11), 2) := by decide +kernel
theorem dX10_item_20 : decode cX10_item 20 = .ok (.ireturn, 1) := by decide +kernel
theorem dX10_item_21 : decode cX10_item 21 = .ok (.iload_n 2, 1) := by decide +kernel
theorem dX10_item_22 : decode cX10_item 22 = .ok (.iconst 0, 1) := by decide +kernel
theorem dX10_item_23 : decode cX10_item 23 = .ok (.aload_n 0, 1) := by decide +kernel
theorem dX10_item_24 : decode cX10_item 24 = .ok (.getfield 64, 3) := by decide +kernel
theorem dX10_item_27 : decode cX10_item 27 = .ok (.iload_n 1, 1) := by decide +kernel
theorem dX10_item_28 : decode cX10_item 28 = .ok (.iaload, 1) := by decide +kernel
theorem dX10_item_29 : decode cX10_item 29 = .ok (.iconst 1, 1) := by decide +kernel
theorem dX10_item_30 : decode cX10_item 30 = .ok (.isub, 1) := by decide +kernel
theorem dX10_item_31 : decode cX10_item 31 = .ok (.invokestatic 82, 3) := by decide +kernel
theorem dX10_item_34 : decode cX10_item 34 = .ok (.ifCond .ne 6, 3) := by decide +kernel
theorem dX10_item_37 : decode cX10_item 37 = .ok (.bipush (-13), 2) := by decide +kernel
theorem dX10_item_39 : decode cX10_item 39 = .ok (.ireturn, 1) := by decide +kernel
theorem dX10_item_40 : decode cX10_item 40 = .ok (.aload_n 0, 1) := by decide +kernel
theorem dX10_item_41 : decode cX10_item 41 = .ok (.getfield 61, 3) := by decide +kernel
theorem dX10_item_44 : decode cX10_item 44 = .ok (.iload_n 1, 1) := by decide +kernel
theorem dX10_item_45 : decode cX10_item 45 = .ok (.iaload, 1) := by decide +kernel
theorem dX10_item_46 : decode cX10_item 46 = .ok (.istore 5, 2) := by decide +kernel
theorem dX10_item_48 : decode cX10_item 48 = .ok (.aload_n 0, 1) := by decide +kernel
theorem dX10_item_49 : decode cX10_item 49 = .ok (.getfield 67, 3) := by decide +kernel
theorem dX10_item_52 : decode cX10_item 52 = .ok (.bipush 60, 2) := by decide +kernel
theorem dX10_item_54 : decode cX10_item 54 = .ok (.iload_n 1, 1) := by decide +kernel
theorem dX10_item_55 : decode cX10_item 55 = .ok (.imul, 1) := by decide +kernel
theorem dX10_item_56 : decode cX10_item 56 = .ok (.iload_n 2, 1) := by decide +kernel
theorem dX10_item_57 : decode cX10_item 57 = .ok (.iadd, 1) := by decide +kernel
theorem dX10_item_58 : decode cX10_item 58 = .ok (.iload 5, 2) := by decide +kernel
theorem dX10_item_60 : decode cX10_item 60 = .ok (.ifCond .ne 10, 3) := by decide +kernel
theorem dX10_item_63 : decode cX10_item 63 = .ok (.lload_n 3, 1) := by decide +kernel
theorem dX10_item_64 : decode cX10_item 64 = .ok (.l2i, 1) := by decide +kernel
theorem dX10_item_65 : decode cX10_item 65 = .ok (.i2b, 1) := by decide +kernel
theorem dX10_item_66 : decode cX10_item 66 = .ok (.i2l, 1) := by decide +kernel
theorem dX10_item_67 : decode cX10_item 67 = .ok (.goto 49, 3) := by decide +kernel
theorem dX10_item_70 : decode cX10_item 70 = .ok (.iload 5, 2) := by decide +kernel
theorem dX10_item_72 : decode cX10_item 72 = .ok (.iconst 1, 1) := by decide +kernel
theorem dX10_item_73 : decode cX10_item 73 = .ok (.if_icmp .ne 10, 3) := by decide +kernel
theorem dX10_item_76 : decode cX10_item 76 = .ok (.lload_n 3, 1) := by decide +kernel
theorem dX10_item_77 : decode cX10_item 77 = .ok (.l2i, 1) := by decide +kernel
theorem dX10_item_78 : decode cX10_item 78 = .ok (.i2s, 1) := by decide +kernel
theorem dX10_item_79 : decode cX10_item 79 = .ok (.i2l, 1) := by decide +kernel
theorem dX10_item_80 : decode cX10_item 80 = .ok (.goto 36, 3) := by decide +kernel
theorem dX10_item_83 : decode cX10_item 83 = .ok (.iload 5, 2) := by decide +kernel
theorem dX10_item_85 : decode cX10_item 85 = .ok (.iconst 2, 1) := by decide +kernel
theorem dX10_item_86 : decode cX10_item 86 = .ok (.if_icmp .ne 9, 3) := by decide +kernel
theorem dX10_item_89 : decode cX10_item 89 = .ok (.lload_n 3, 1) := by decide +kernel
theorem dX10_item_90 : decode cX10_item 90 = .ok (.l2i, 1) := by decide +kernel
theorem dX10_item_91 : decode cX10_item 91 = .ok (.i2l, 1) := by decide +kernel
theorem dX10_item_92 : decode cX10_item 92 = .ok (.goto 24, 3) := by decide +kernel
theorem dX10_item_95 : decode cX10_item 95 = .ok (.iload 5, 2) := by decide +kernel
theorem dX10_item_97 : decode cX10_item 97 = .ok (.iconst 3, 1) := by decide +kernel
theorem dX10_item_98 : decode cX10_item 98 = .ok (.if_icmp .ne 7, 3) := by decide +kernel
theorem dX10_item_101 : decode cX10_item 101 = .ok (.lload_n 3, 1) := by decide +kernel
theorem dX10_item_102 : decode cX10_item 102 = .ok (.goto 14, 3) := by decide +kernel
theorem dX10_item_105 : decode cX10_item 105 = .ok (.lload_n 3, 1) := by decide +kernel
theorem dX10_item_106 : decode cX10_item 106 = .ok (.lconst 0, 1) := by decide +kernel
theorem dX10_item_107 : decode cX10_item 107 = .ok (.lcmp, 1) := by decide +kernel
theorem dX10_item_108 : decode cX10_item 108 = .ok (.ifCond .eq 7, 3) := by decide +kernel
theorem dX10_item_111 : decode cX10_item 111 = .ok (.lconst 1, 1) := by decide +kernel
theorem dX10_item_112 : decode cX10_item 112 = .ok (.goto 4, 3) := by decide +kernel
theorem dX10_item_115 : decode cX10_item 115 = .ok (.lconst 0, 1) := by decide +kernel
theorem dX10_item_116 : decode cX10_item 116 = .ok (.lastore, 1) := by decide +kernel
theorem dX10_item_117 : decode cX10_item 117 = .ok (.iconst 1, 1) := by decide +kernel
theorem dX10_item_118 : decode cX10_item 118 = .ok (.ireturn, 1) := by decide +kernel
theorem dX10_read_0 : decode cX10_read 0 = .ok (.iload_n 1, 1) := by decide +kernel
theorem dX10_read_1 : decode cX10_read 1 = .ok (.invokestatic 261, 3) := by decide +kernel
theorem dX10_read_4 : decode cX10_read 4 = .ok (.ifCond .eq 33, 3) := by decide +kernel
theorem dX10_read_7 : decode cX10_read 7 = .ok (.iload_n 2, 1) := by decide +kernel
theorem dX10_read_8 : decode cX10_read 8 = .ok (.iconst 0, 1) := by decide +kernel
theorem dX10_read_9 : decode cX10_read 9 = .ok (.aload_n 0, 1) := by decide +kernel
theorem dX10_read_10 : decode cX10_read 10 = .ok (.getfield 64, 3) := by decide +kernel
theorem dX10_read_13 : decode cX10_read 13 = .ok (.iload_n 1, 1) := by decide +kernel
theorem dX10_read_14 : decode cX10_read 14 = .ok (.iaload, 1) := by decide +kernel
theorem dX10_read_15 : decode cX10_read 15 = .ok (.iconst 1, 1) := by decide +kernel
theorem dX10_read_16 : decode cX10_read 16 = .ok (.isub, 1) := by decide +kernel
theorem dX10_read_17 : decode cX10_read 17 = .ok (.invokestatic 82, 3) := by decide +kernel
theorem dX10_read_20 : decode cX10_read 20 = .ok (.ifCond .eq 17, 3) := by decide +kernel
theorem dX10_read_23 : decode cX10_read 23 = .ok (.aload_n 0, 1) := by decide +kernel
theorem dX10_read_24 : decode cX10_read 24 = .ok (.getfield 67, 3) := by decide +kernel
theorem dX10_read_27 : decode cX10_read 27 = .ok (.bipush 60, 2) := by decide +kernel
theorem dX10_read_29 : decode cX10_read 29 = .ok (.iload_n 1, 1) := by decide +kernel
theorem dX10_read_30 : decode cX10_read 30 = .ok (.imul, 1) := by decide +kernel
theorem dX10_read_31 : decode cX10_read 31 = .ok (.iload_n 2, 1) := by decide +kernel
theorem dX10_read_32 : decode cX10_read 32 = .ok (.iadd, 1) := by decide +kernel
theorem dX10_read_33 : decode cX10_read 33 = .ok (.laload, 1) := by decide +kernel
theorem dX10_read_34 : decode cX10_read 34 = .ok (.goto 6, 3) := by decide +kernel
theorem dX10_read_37 : decode cX10_read 37 = .ok (.ldc2_w 240, 3) := by decide +kernel
theorem dX10_read_40 : decode cX10_read 40 = .ok (.lreturn, 1) := by decide +kernel
theorem dX10_shift_0 : decode cX10_shift 0 = .ok (.iload_n 1, 1) := by decide +kernel
theorem dX10_shift_1 : decode cX10_shift 1 = .ok (.invokestatic 261, 3) := by decide +kernel
theorem dX10_shift_4 : decode cX10_shift 4 = .ok (.ifCond .eq 10, 3) := by decide +kernel
theorem dX10_shift_7 : decode cX10_shift 7 = .ok (.iload_n 3, 1) := by decide +kernel
theorem dX10_shift_8 : decode cX10_shift 8 = .ok (.invokestatic 261, 3) := by decide +kernel
theorem dX10_shift_11 : decode cX10_shift 11 = .ok (.ifCond .ne 5, 3) := by decide +kernel
theorem dX10_shift_14 : decode cX10_shift 14 = .ok (.iconst (-1), 1) := by decide +kernel
theorem dX10_shift_15 : decode cX10_shift 15 = .ok (.ireturn, 1) := by decide +kernel
theorem dX10_shift_16 : decode cX10_shift 16 = .ok (.aload_n 0, 1) := by decide +kernel
theorem dX10_shift_17 : decode cX10_shift 17 = .ok (.getfield 61, 3) := by decide +kernel
theorem dX10_shift_20 : decode cX10_shift 20 = .ok (.iload_n 1, 1) := by decide +kernel
theorem dX10_shift_21 : decode cX10_shift 21 = .ok (.iaload, 1) := by decide +kernel
theorem dX10_shift_22 : decode cX10_shift 22 = .ok (.ifCond .lt 12, 3) := by decide +kernel
theorem dX10_shift_25 : decode cX10_shift 25 = .ok (.aload_n 0, 1) := by decide +kernel
theorem dX10_shift_26 : decode cX10_shift 26 = .ok (.getfield 61, 3) := by decide +kernel
theorem dX10_shift_29 : decode cX10_shift 29 = .ok (.iload_n 3, 1) := by decide +kernel
theorem dX10_shift_30 : decode cX10_shift 30 = .ok (.iaload, 1) := by decide +kernel
theorem dX10_shift_31 : decode cX10_shift 31 = .ok (.ifCond .ge 6, 3) := by decide +kernel
theorem dX10_shift_34 : decode cX10_shift 34 = .ok (.bipush (-11), 2) := by decide +kernel
theorem dX10_shift_36 : decode cX10_shift 36 = .ok (.ireturn, 1) := by decide +kernel
theorem dX10_shift_37 : decode cX10_shift 37 = .ok (.aload_n 0, 1) := by decide +kernel
theorem dX10_shift_38 : decode cX10_shift 38 = .ok (.getfield 61, 3) := by decide +kernel
theorem dX10_shift_41 : decode cX10_shift 41 = .ok (.iload_n 1, 1) := by decide +kernel
theorem dX10_shift_42 : decode cX10_shift 42 = .ok (.iaload, 1) := by decide +kernel
theorem dX10_shift_43 : decode cX10_shift 43 = .ok (.aload_n 0, 1) := by decide +kernel
theorem dX10_shift_44 : decode cX10_shift 44 = .ok (.getfield 61, 3) := by decide +kernel
theorem dX10_shift_47 : decode cX10_shift 47 = .ok (.iload_n 3, 1) := by decide +kernel
theorem dX10_shift_48 : decode cX10_shift 48 = .ok (.iaload, 1) := by decide +kernel
theorem dX10_shift_49 : decode cX10_shift 49 = .ok (.if_icmp .eq 6, 3) := by decide +kernel
theorem dX10_shift_52 : decode cX10_shift 52 = .ok (.bipush (-12), 2) := by decide +kernel
theorem dX10_shift_54 : decode cX10_shift 54 = .ok (.ireturn, 1) := by decide +kernel
theorem dX10_shift_55 : decode cX10_shift 55 = .ok (.iload 5, 2) := by decide +kernel
theorem dX10_shift_57 : decode cX10_shift 57 = .ok (.ifCond .lt 39, 3) := by decide +kernel
theorem dX10_shift_60 : decode cX10_shift 60 = .ok (.iload_n 2, 1) := by decide +kernel
theorem dX10_shift_61 : decode cX10_shift 61 = .ok (.ifCond .lt 35, 3) := by decide +kernel
theorem dX10_shift_64 : decode cX10_shift 64 = .ok (.iload 4, 2) := by decide +kernel
theorem dX10_shift_66 : decode cX10_shift 66 = .ok (.ifCond .lt 30, 3) := by decide +kernel
theorem dX10_shift_69 : decode cX10_shift 69 = .ok (.iload 5, 2) := by decide +kernel
theorem dX10_shift_71 : decode cX10_shift 71 = .ok (.aload_n 0, 1) := by decide +kernel
theorem dX10_shift_72 : decode cX10_shift 72 = .ok (.getfield 64, 3) := by decide +kernel
theorem dX10_shift_75 : decode cX10_shift 75 = .ok (.iload_n 1, 1) := by decide +kernel
theorem dX10_shift_76 : decode cX10_shift 76 = .ok (.iaload, 1) := by decide +kernel
theorem dX10_shift_77 : decode cX10_shift 77 = .ok (.iload_n 2, 1) := by decide +kernel
theorem dX10_shift_78 : decode cX10_shift 78 = .ok (.isub, 1) := by decide +kernel
theorem dX10_shift_79 : decode cX10_shift 79 = .ok (.if_icmp .gt 17, 3) := by decide +kernel
theorem dX10_shift_82 : decode cX10_shift 82 = .ok (.iload 5, 2) := by decide +kernel
theorem dX10_shift_84 : decode cX10_shift 84 = .ok (.aload_n 0, 1) := by decide +kernel
theorem dX10_shift_85 : decode cX10_shift 85 = .ok (.getfield 64, 3) := by decide +kernel
theorem dX10_shift_88 : decode cX10_shift 88 = .ok (.iload_n 3, 1) := by decide +kernel
theorem dX10_shift_89 : decode cX10_shift 89 = .ok (.iaload, 1) := by decide +kernel
theorem dX10_shift_90 : decode cX10_shift 90 = .ok (.iload 4, 2) := by decide +kernel
theorem dX10_shift_92 : decode cX10_shift 92 = .ok (.isub, 1) := by decide +kernel
theorem dX10_shift_93 : decode cX10_shift 93 = .ok (.if_icmp .le 6, 3) := by decide +kernel
theorem dX10_shift_96 : decode cX10_shift 96 = .ok (.bipush (-13), 2) := by decide +kernel
theorem dX10_shift_98 : decode cX10_shift 98 = .ok (.ireturn, 1) := by decide +kernel
theorem dX10_shift_99 : decode cX10_shift 99 = .ok (.iconst 0, 1) := by decide +kernel
theorem dX10_shift_100 : decode cX10_shift 100 = .ok (.istore 6, 2) := by decide +kernel
theorem dX10_shift_102 : decode cX10_shift 102 = .ok (.iload 6, 2) := by decide +kernel
theorem dX10_shift_104 : decode cX10_shift 104 = .ok (.iload 5, 2) := by decide +kernel
theorem dX10_shift_106 : decode cX10_shift 106 = .ok (.if_icmp .ge 30, 3) := by decide +kernel
theorem dX10_shift_109 : decode cX10_shift 109 = .ok (.aload_n 0, 1) := by decide +kernel
theorem dX10_shift_110 : decode cX10_shift 110 = .ok (.getfield 71, 3) := by decide +kernel
theorem dX10_shift_113 : decode cX10_shift 113 = .ok (.iload 6, 2) := by decide +kernel
theorem dX10_shift_115 : decode cX10_shift 115 = .ok (.aload_n 0, 1) := by decide +kernel
theorem dX10_shift_116 : decode cX10_shift 116 = .ok (.getfield 67, 3) := by decide +kernel
theorem dX10_shift_119 : decode cX10_shift 119 = .ok (.bipush 60, 2) := by decide +kernel
theorem dX10_shift_121 : decode cX10_shift 121 = .ok (.iload_n 1, 1) := by decide +kernel
theorem dX10_shift_122 : decode cX10_shift 122 = .ok (.imul, 1) := by decide +kernel
theorem dX10_shift_123 : decode cX10_shift 123 = .ok (.iload_n 2, 1) := by decide +kernel
theorem dX10_shift_124 : decode cX10_shift 124 = .ok (.iadd, 1) := by decide +kernel
theorem dX10_shift_125 : decode cX10_shift 125 = .ok (.iload 6, 2) := by decide +kernel
theorem dX10_shift_127 : decode cX10_shift 127 = .ok (.iadd, 1) := by decide +kernel
theorem dX10_shift_128 : decode cX10_shift 128 = .ok (.laload, 1) := by decide +kernel
theorem dX10_shift_129 : decode cX10_shift 129 = .ok (.lastore, 1) := by decide +kernel
theorem dX10_shift_130 : decode cX10_shift 130 = .ok (.iinc 6 1, 3) := by decide +kernel
theorem dX10_shift_133 : decode cX10_shift 133 = .ok (.goto (-31), 3) := by decide +kernel
theorem dX10_shift_136 : decode cX10_shift 136 = .ok (.iconst 0, 1) := by decide +kernel
theorem dX10_shift_137 : decode cX10_shift 137 = .ok (.istore 6, 2) := by decide +kernel
theorem dX10_shift_139 : decode cX10_shift 139 = .ok (.iload 6, 2) := by decide +kernel
theorem dX10_shift_141 : decode cX10_shift 141 = .ok (.iload 5, 2) := by decide +kernel
theorem dX10_shift_143 : decode cX10_shift 143 = .ok (.if_icmp .ge 31, 3) := by decide +kernel
theorem dX10_shift_146 : decode cX10_shift 146 = .ok (.aload_n 0, 1) := by decide +kernel
theorem dX10_shift_147 : decode cX10_shift 147 = .ok (.getfield 67, 3) := by decide +kernel
theorem dX10_shift_150 : decode cX10_shift 150 = .ok (.bipush 60, 2) := by decide +kernel
theorem dX10_shift_152 : decode cX10_shift 152 = .ok (.iload_n 3, 1) := by decide +kernel
theorem dX10_shift_153 : decode cX10_shift 153 = .ok (.imul, 1) := by decide +kernel
theorem dX10_shift_154 : decode cX10_shift 154 = .ok (.iload 4, 2) := by decide +kernel
theorem dX10_shift_156 : decode cX10_shift 156 = .ok (.iadd, 1) := by decide +kernel
theorem dX10_shift_157 : decode cX10_shift 157 = .ok (.iload 6, 2) := by decide +kernel
theorem dX10_shift_159 : decode cX10_shift 159 = .ok (.iadd, 1) := by decide +kernel
theorem dX10_shift_160 : decode cX10_shift 160 = .ok (.aload_n 0, 1) := by decide +kernel
theorem dX10_shift_161 : decode cX10_shift 161 = .ok (.getfield 71, 3) := by decide +kernel
theorem dX10_shift_164 : decode cX10_shift 164 = .ok (.iload 6, 2) := by decide +kernel
theorem dX10_shift_166 : decode cX10_shift 166 = .ok (.laload, 1) := by decide +kernel
theorem dX10_shift_167 : decode cX10_shift 167 = .ok (.lastore, 1) := by decide +kernel
theorem dX10_shift_168 : decode cX10_shift 168 = .ok (.iinc 6 1, 3) := by decide +kernel
theorem dX10_shift_171 : decode cX10_shift 171 = .ok (.goto (-32), 3) := by decide +kernel
theorem dX10_shift_174 : decode cX10_shift 174 = .ok (.iload 5, 2) := by decide +kernel
theorem dX10_shift_176 : decode cX10_shift 176 = .ok (.ireturn, 1) := by decide +kernel
theorem dX10_judge_0 : decode cX10_judge 0 = .ok (.iload_n 1, 1) := by decide +kernel
theorem dX10_judge_1 : decode cX10_judge 1 = .ok (.invokestatic 261, 3) := by decide +kernel
theorem dX10_judge_4 : decode cX10_judge 4 = .ok (.ifCond .ne 5, 3) := by decide +kernel
theorem dX10_judge_7 : decode cX10_judge 7 = .ok (.iconst (-1), 1) := by decide +kernel
theorem dX10_judge_8 : decode cX10_judge 8 = .ok (.ireturn, 1) := by decide +kernel
theorem dX10_judge_9 : decode cX10_judge 9 = .ok (.aload_n 0, 1) := by decide +kernel
theorem dX10_judge_10 : decode cX10_judge 10 = .ok (.getfield 61, 3) := by decide +kernel
theorem dX10_judge_13 : decode cX10_judge 13 = .ok (.iload_n 1, 1) := by decide +kernel
theorem dX10_judge_14 : decode cX10_judge 14 = .ok (.iaload, 1) := by decide +kernel
theorem dX10_judge_15 : decode cX10_judge 15 = .ok (.ifCond .le 6, 3) := by decide +kernel
theorem dX10_judge_18 : decode cX10_judge 18 = .ok (.bipush (-12), 2) := by decide +kernel
theorem dX10_judge_20 : decode cX10_judge 20 = .ok (.ireturn, 1) := by decide +kernel
theorem dX10_judge_21 : decode cX10_judge 21 = .ok (.iconst 0, 1) := by decide +kernel
theorem dX10_judge_22 : decode cX10_judge 22 = .ok (.istore_n 3, 1) := by decide +kernel
theorem dX10_judge_23 : decode cX10_judge 23 = .ok (.iload_n 3, 1) := by decide +kernel
theorem dX10_judge_24 : decode cX10_judge 24 = .ok (.aload_n 0, 1) := by decide +kernel
theorem dX10_judge_25 : decode cX10_judge 25 = .ok (.getfield 9, 3) := by decide +kernel
theorem dX10_judge_28 : decode cX10_judge 28 = .ok (.bipush 78, 2) := by decide +kernel
theorem dX10_judge_30 : decode cX10_judge 30 = .ok (.iaload, 1) := by decide +kernel
theorem dX10_judge_31 : decode cX10_judge 31 = .ok (.if_icmp .ge 64, 3) := by decide +kernel
theorem dX10_judge_34 : decode cX10_judge 34 = .ok (.iload_n 2, 1) := by decide +kernel
theorem dX10_judge_35 : decode cX10_judge 35 = .ok (.i2l, 1) := by decide +kernel
theorem dX10_judge_36 : decode cX10_judge 36 = .ok (.iload_n 3, 1) := by decide +kernel
theorem dX10_judge_37 : decode cX10_judge 37 = .ok (.i2l, 1) := by decide +kernel
theorem dX10_judge_38 : decode cX10_judge 38 = .ok (.ladd, 1) := by decide +kernel
theorem dX10_judge_39 : decode cX10_judge 39 = .ok (.lstore 4, 2) := by decide +kernel
theorem dX10_judge_41 : decode cX10_judge 41 = .ok (.iload_n 2, 1) := by decide +kernel
theorem dX10_judge_42 : decode cX10_judge 42 = .ok (.ifCond .lt 16, 3) := by decide +kernel
theorem dX10_judge_45 : decode cX10_judge 45 = .ok (.lload 4, 2) := by decide +kernel
theorem dX10_judge_47 : decode cX10_judge 47 = .ok (.aload_n 0, 1) := by decide +kernel
theorem dX10_judge_48 : decode cX10_judge 48 = .ok (.getfield 64, 3) := by decide +kernel
theorem dX10_judge_51 : decode cX10_judge 51 = .ok (.iload_n 1, 1) := by decide +kernel
theorem dX10_judge_52 : decode cX10_judge 52 = .ok (.iaload, 1) := by decide +kernel
theorem dX10_judge_53 : decode cX10_judge 53 = .ok (.i2l, 1) := by decide +kernel
theorem dX10_judge_54 : decode cX10_judge 54 = .ok (.lcmp, 1) := by decide +kernel
theorem dX10_judge_55 : decode cX10_judge 55 = .ok (.ifCond .lt 8, 3) := by decide +kernel
theorem dX10_judge_58 : decode cX10_judge 58 = .ok (.bipush 100, 2) := by decide +kernel
theorem dX10_judge_60 : decode cX10_judge 60 = .ok (.iload_n 3, 1) := by decide +kernel
theorem dX10_judge_61 : decode cX10_judge 61 = .ok (.iadd, 1) := by decide +kernel
theorem dX10_judge_62 : decode cX10_judge 62 = .ok (.ireturn, 1) := by decide +kernel
theorem dX10_judge_63 : decode cX10_judge 63 = .ok (.aload_n 0, 1) := by decide +kernel
theorem dX10_judge_64 : decode cX10_judge 64 = .ok (.getfield 67, 3) := by decide +kernel
theorem dX10_judge_67 : decode cX10_judge 67 = .ok (.bipush 60, 2) := by decide +kernel
theorem dX10_judge_69 : decode cX10_judge 69 = .ok (.iload_n 1, 1) := by decide +kernel
theorem dX10_judge_70 : decode cX10_judge 70 = .ok (.imul, 1) := by decide +kernel
theorem dX10_judge_71 : decode cX10_judge 71 = .ok (.lload 4, 2) := by decide +kernel
theorem dX10_judge_73 : decode cX10_judge 73 = .ok (.l2i, 1) := by decide +kernel
theorem dX10_judge_74 : decode cX10_judge 74 = .ok (.iadd, 1) := by decide +kernel
theorem dX10_judge_75 : decode cX10_judge 75 = .ok (.laload, 1) := by decide +kernel
theorem dX10_judge_76 : decode cX10_judge 76 = .ok (.aload_n 0, 1) := by decide +kernel
theorem dX10_judge_77 : decode cX10_judge 77 = .ok (.iload_n 3, 1) := by decide +kernel
theorem dX10_judge_78 : decode cX10_judge 78 = .ok (.iconst 2, 1) := by decide +kernel
theorem dX10_judge_79 : decode cX10_judge 79 = .ok (.invokevirtual 86, 3) := by decide +kernel
theorem dX10_judge_82 : decode cX10_judge 82 = .ok (.i2l, 1) := by decide +kernel
theorem dX10_judge_83 : decode cX10_judge 83 = .ok (.lcmp, 1) := by decide +kernel
theorem dX10_judge_84 : decode cX10_judge 84 = .ok (.ifCond .eq 5, 3) := by decide +kernel
theorem dX10_judge_87 : decode cX10_judge 87 = .ok (.iload_n 3, 1) := by decide +kernel
theorem dX10_judge_88 : decode cX10_judge 88 = .ok (.ireturn, 1) := by decide +kernel
theorem dX10_judge_89 : decode cX10_judge 89 = .ok (.iinc 3 1, 3) := by decide +kernel
theorem dX10_judge_92 : decode cX10_judge 92 = .ok (.goto (-69), 3) := by decide +kernel
theorem dX10_judge_95 : decode cX10_judge 95 = .ok (.bipush (-5), 2) := by decide +kernel
theorem dX10_judge_97 : decode cX10_judge 97 = .ok (.ireturn, 1) := by decide +kernel
end
section
theorem dL_law_0 : decode cL_law 0 = .ok (.new 7, 3) := by decide +kernel
theorem dL_law_3 : decode cL_law 3 = .ok (.dup, 1) := by decide +kernel
theorem dL_law_4 : decode cL_law 4 = .ok (.invokespecial 9, 3) := by decide +kernel
theorem dL_law_7 : decode cL_law 7 = .ok (.astore_n 1, 1) := by decide +kernel
theorem dL_law_8 : decode cL_law 8 = .ok (.new 10, 3) := by decide +kernel
theorem dL_law_11 : decode cL_law 11 = .ok (.dup, 1) := by decide +kernel
theorem dL_law_12 : decode cL_law 12 = .ok (.invokespecial 12, 3) := by decide +kernel
theorem dL_law_15 : decode cL_law 15 = .ok (.astore_n 2, 1) := by decide +kernel
theorem dL_law_16 : decode cL_law 16 = .ok (.iconst 0, 1) := by decide +kernel
theorem dL_law_17 : decode cL_law 17 = .ok (.istore_n 3, 1) := by decide +kernel
theorem dL_law_18 : decode cL_law 18 = .ok (.iload_n 3, 1) := by decide +kernel
theorem dL_law_19 : decode cL_law 19 = .ok (.aload_n 0, 1) := by decide +kernel
theorem dL_law_20 : decode cL_law 20 = .ok (.arraylength, 1) := by decide +kernel
theorem dL_law_21 : decode cL_law 21 = .ok (.bipush 6, 2) := by decide +kernel
theorem dL_law_23 : decode cL_law 23 = .ok (.isub, 1) := by decide +kernel
theorem dL_law_24 : decode cL_law 24 = .ok (.if_icmp .gt 1280, 3) := by decide +kernel
theorem dL_law_27 : decode cL_law 27 = .ok (.aload_n 0, 1) := by decide +kernel
theorem dL_law_28 : decode cL_law 28 = .ok (.iload_n 3, 1) := by decide +kernel
theorem dL_law_29 : decode cL_law 29 = .ok (.iaload, 1) := by decide +kernel
theorem dL_law_30 : decode cL_law 30 = .ok (.bipush 63, 2) := by decide +kernel
theorem dL_law_32 : decode cL_law 32 = .ok (.iand, 1) := by decide +kernel
theorem dL_law_33 : decode cL_law 33 = .ok (.tableswitch 1265 0 32 #[147, 190, 223, 256, 289, 322, 355, 398, 421, 434, 457, 480, 513, 546, 589, 648, 681, 735, 769, 802, 825, 858, 871, 904, 917, 930, 973, 996, 1029, 1052, 1095, 1168, 1202], 147) := by decide +kernel
theorem dL_law_180 : decode cL_law 180 = .ok (.aload_n 1, 1) := by decide +kernel
theorem dL_law_181 : decode cL_law 181 = .ok (.aload_n 0, 1) := by decide +kernel
theorem dL_law_182 : decode cL_law 182 = .ok (.iload_n 3, 1) := by decide +kernel
theorem dL_law_183 : decode cL_law 183 = .ok (.iconst 1, 1) := by decide +kernel
theorem dL_law_184 : decode cL_law 184 = .ok (.iadd, 1) := by decide +kernel
theorem dL_law_185 : decode cL_law 185 = .ok (.iaload, 1) := by decide +kernel
theorem dL_law_186 : decode cL_law 186 = .ok (.aload_n 0, 1) := by decide +kernel
theorem dL_law_187 : decode cL_law 187 = .ok (.iload_n 3, 1) := by decide +kernel
theorem dL_law_188 : decode cL_law 188 = .ok (.iconst 2, 1) := by decide +kernel
theorem dL_law_189 : decode cL_law 189 = .ok (.iadd, 1) := by decide +kernel
theorem dL_law_190 : decode cL_law 190 = .ok (.iaload, 1) := by decide +kernel
theorem dL_law_191 : decode cL_law 191 = .ok (.aload_n 0, 1) := by decide +kernel
theorem dL_law_192 : decode cL_law 192 = .ok (.iload_n 3, 1) := by decide +kernel
theorem dL_law_193 : decode cL_law 193 = .ok (.iconst 3, 1) := by decide +kernel
theorem dL_law_194 : decode cL_law 194 = .ok (.iadd, 1) := by decide +kernel
theorem dL_law_195 : decode cL_law 195 = .ok (.iaload, 1) := by decide +kernel
theorem dL_law_196 : decode cL_law 196 = .ok (.invokevirtual 13, 3) := by decide +kernel
theorem dL_law_199 : decode cL_law 199 = .ok (.aload_n 2, 1) := by decide +kernel
theorem dL_law_200 : decode cL_law 200 = .ok (.aload_n 0, 1) := by decide +kernel
theorem dL_law_201 : decode cL_law 201 = .ok (.iload_n 3, 1) := by decide +kernel
theorem dL_law_202 : decode cL_law 202 = .ok (.iconst 1, 1) := by decide +kernel
theorem dL_law_203 : decode cL_law 203 = .ok (.iadd, 1) := by decide +kernel
theorem dL_law_204 : decode cL_law 204 = .ok (.iaload, 1) := by decide +kernel
theorem dL_law_205 : decode cL_law 205 = .ok (.aload_n 0, 1) := by decide +kernel
theorem dL_law_206 : decode cL_law 206 = .ok (.iload_n 3, 1) := by decide +kernel
theorem dL_law_207 : decode cL_law 207 = .ok (.iconst 2, 1) := by decide +kernel
theorem dL_law_208 : decode cL_law 208 = .ok (.iadd, 1) := by decide +kernel
theorem dL_law_209 : decode cL_law 209 = .ok (.iaload, 1) := by decide +kernel
theorem dL_law_210 : decode cL_law 210 = .ok (.aload_n 0, 1) := by decide +kernel
theorem dL_law_211 : decode cL_law 211 = .ok (.iload_n 3, 1) := by decide +kernel
theorem dL_law_212 : decode cL_law 212 = .ok (.iconst 3, 1) := by decide +kernel
theorem dL_law_213 : decode cL_law 213 = .ok (.iadd, 1) := by decide +kernel
theorem dL_law_214 : decode cL_law 214 = .ok (.iaload, 1) := by decide +kernel
theorem dL_law_215 : decode cL_law 215 = .ok (.invokevirtual 17, 3) := by decide +kernel
theorem dL_law_218 : decode cL_law 218 = .ok (.if_icmp .eq 1080, 3) := by decide +kernel
theorem dL_law_221 : decode cL_law 221 = .ok (.iconst 0, 1) := by decide +kernel
theorem dL_law_222 : decode cL_law 222 = .ok (.ireturn, 1) := by decide +kernel
theorem dL_law_223 : decode cL_law 223 = .ok (.aload_n 1, 1) := by decide +kernel
theorem dL_law_224 : decode cL_law 224 = .ok (.aload_n 0, 1) := by decide +kernel
theorem dL_law_225 : decode cL_law 225 = .ok (.iload_n 3, 1) := by decide +kernel
theorem dL_law_226 : decode cL_law 226 = .ok (.iconst 1, 1) := by decide +kernel
theorem dL_law_227 : decode cL_law 227 = .ok (.iadd, 1) := by decide +kernel
theorem dL_law_228 : decode cL_law 228 = .ok (.iaload, 1) := by decide +kernel
theorem dL_law_229 : decode cL_law 229 = .ok (.aload_n 0, 1) := by decide +kernel
theorem dL_law_230 : decode cL_law 230 = .ok (.iload_n 3, 1) := by decide +kernel
theorem dL_law_231 : decode cL_law 231 = .ok (.iconst 2, 1) := by decide +kernel
theorem dL_law_232 : decode cL_law 232 = .ok (.iadd, 1) := by decide +kernel
theorem dL_law_233 : decode cL_law 233 = .ok (.iaload, 1) := by decide +kernel
theorem dL_law_234 : decode cL_law 234 = .ok (.invokevirtual 18, 3) := by decide +kernel
theorem dL_law_237 : decode cL_law 237 = .ok (.aload_n 2, 1) := by decide +kernel
theorem dL_law_238 : decode cL_law 238 = .ok (.aload_n 0, 1) := by decide +kernel
theorem dL_law_239 : decode cL_law 239 = .ok (.iload_n 3, 1) := by decide +kernel
theorem dL_law_240 : decode cL_law 240 = .ok (.iconst 1, 1) := by decide +kernel
theorem dL_law_241 : decode cL_law 241 = .ok (.iadd, 1) := by decide +kernel
theorem dL_law_242 : decode cL_law 242 = .ok (.iaload, 1) := by decide +kernel
theorem dL_law_243 : decode cL_law 243 = .ok (.aload_n 0, 1) := by decide +kernel
theorem dL_law_244 : decode cL_law 244 = .ok (.iload_n 3, 1) := by decide +kernel
theorem dL_law_245 : decode cL_law 245 = .ok (.iconst 2, 1) := by decide +kernel
theorem dL_law_246 : decode cL_law 246 = .ok (.iadd, 1) := by decide +kernel
theorem dL_law_247 : decode cL_law 247 = .ok (.iaload, 1) := by decide +kernel
theorem dL_law_248 : decode cL_law 248 = .ok (.invokevirtual 22, 3) := by decide +kernel
theorem dL_law_251 : decode cL_law 251 = .ok (.if_icmp .eq 1047, 3) := by decide +kernel
theorem dL_law_254 : decode cL_law 254 = .ok (.iconst 0, 1) := by decide +kernel
theorem dL_law_255 : decode cL_law 255 = .ok (.ireturn, 1) := by decide +kernel
theorem dL_law_256 : decode cL_law 256 = .ok (.aload_n 1, 1) := by decide +kernel
theorem dL_law_257 : decode cL_law 257 = .ok (.aload_n 0, 1) := by decide +kernel
theorem dL_law_258 : decode cL_law 258 = .ok (.iload_n 3, 1) := by decide +kernel
theorem dL_law_259 : decode cL_law 259 = .ok (.iconst 1, 1) := by decide +kernel
theorem dL_law_260 : decode cL_law 260 = .ok (.iadd, 1) := by decide +kernel
theorem dL_law_261 : decode cL_law 261 = .ok (.iaload, 1) := by decide +kernel
theorem dL_law_262 : decode cL_law 262 = .ok (.aload_n 0, 1) := by decide +kernel
theorem dL_law_263 : decode cL_law 263 = .ok (.iload_n 3, 1) := by decide +kernel
theorem dL_law_264 : decode cL_law 264 = .ok (.iconst 2, 1) := by decide +kernel
theorem dL_law_265 : decode cL_law 265 = .ok (.iadd, 1) := by decide +kernel
theorem dL_law_266 : decode cL_law 266 = .ok (.iaload, 1) := by decide +kernel
theorem dL_law_267 : decode cL_law 267 = .ok (.invokevirtual 23, 3) := by decide +kernel
theorem dL_law_270 : decode cL_law 270 = .ok (.aload_n 2, 1) := by decide +kernel
theorem dL_law_271 : decode cL_law 271 = .ok (.aload_n 0, 1) := by decide +kernel
theorem dL_law_272 : decode cL_law 272 = .ok (.iload_n 3, 1) := by decide +kernel
theorem dL_law_273 : decode cL_law 273 = .ok (.iconst 1, 1) := by decide +kernel
theorem dL_law_274 : decode cL_law 274 = .ok (.iadd, 1) := by decide +kernel
theorem dL_law_275 : decode cL_law 275 = .ok (.iaload, 1) := by decide +kernel
theorem dL_law_276 : decode cL_law 276 = .ok (.aload_n 0, 1) := by decide +kernel
theorem dL_law_277 : decode cL_law 277 = .ok (.iload_n 3, 1) := by decide +kernel
theorem dL_law_278 : decode cL_law 278 = .ok (.iconst 2, 1) := by decide +kernel
theorem dL_law_279 : decode cL_law 279 = .ok (.iadd, 1) := by decide +kernel
theorem dL_law_280 : decode cL_law 280 = .ok (.iaload, 1) := by decide +kernel
theorem dL_law_281 : decode cL_law 281 = .ok (.invokevirtual 26, 3) := by decide +kernel
theorem dL_law_284 : decode cL_law 284 = .ok (.if_icmp .eq 1014, 3) := by decide +kernel
theorem dL_law_287 : decode cL_law 287 = .ok (.iconst 0, 1) := by decide +kernel
theorem dL_law_288 : decode cL_law 288 = .ok (.ireturn, 1) := by decide +kernel
theorem dL_law_289 : decode cL_law 289 = .ok (.aload_n 1, 1) := by decide +kernel
theorem dL_law_290 : decode cL_law 290 = .ok (.aload_n 0, 1) := by decide +kernel
theorem dL_law_291 : decode cL_law 291 = .ok (.iload_n 3, 1) := by decide +kernel
theorem dL_law_292 : decode cL_law 292 = .ok (.iconst 1, 1) := by decide +kernel
theorem dL_law_293 : decode cL_law 293 = .ok (.iadd, 1) := by decide +kernel
theorem dL_law_294 : decode cL_law 294 = .ok (.iaload, 1) := by decide +kernel
theorem dL_law_295 : decode cL_law 295 = .ok (.aload_n 0, 1) := by decide +kernel
theorem dL_law_296 : decode cL_law 296 = .ok (.iload_n 3, 1) := by decide +kernel
theorem dL_law_297 : decode cL_law 297 = .ok (.iconst 2, 1) := by decide +kernel
theorem dL_law_298 : decode cL_law 298 = .ok (.iadd, 1) := by decide +kernel
theorem dL_law_299 : decode cL_law 299 = .ok (.iaload, 1) := by decide +kernel
theorem dL_law_300 : decode cL_law 300 = .ok (.invokevirtual 27, 3) := by decide +kernel
theorem dL_law_303 : decode cL_law 303 = .ok (.aload_n 2, 1) := by decide +kernel
theorem dL_law_304 : decode cL_law 304 = .ok (.aload_n 0, 1) := by decide +kernel
theorem dL_law_305 : decode cL_law 305 = .ok (.iload_n 3, 1) := by decide +kernel
theorem dL_law_306 : decode cL_law 306 = .ok (.iconst 1, 1) := by decide +kernel
theorem dL_law_307 : decode cL_law 307 = .ok (.iadd, 1) := by decide +kernel
theorem dL_law_308 : decode cL_law 308 = .ok (.iaload, 1) := by decide +kernel
theorem dL_law_309 : decode cL_law 309 = .ok (.aload_n 0, 1) := by decide +kernel
theorem dL_law_310 : decode cL_law 310 = .ok (.iload_n 3, 1) := by decide +kernel
theorem dL_law_311 : decode cL_law 311 = .ok (.iconst 2, 1) := by decide +kernel
theorem dL_law_312 : decode cL_law 312 = .ok (.iadd, 1) := by decide +kernel
theorem dL_law_313 : decode cL_law 313 = .ok (.iaload, 1) := by decide +kernel
theorem dL_law_314 : decode cL_law 314 = .ok (.invokevirtual 30, 3) := by decide +kernel
theorem dL_law_317 : decode cL_law 317 = .ok (.if_icmp .eq 981, 3) := by decide +kernel
theorem dL_law_320 : decode cL_law 320 = .ok (.iconst 0, 1) := by decide +kernel
theorem dL_law_321 : decode cL_law 321 = .ok (.ireturn, 1) := by decide +kernel
theorem dL_law_322 : decode cL_law 322 = .ok (.aload_n 1, 1) := by decide +kernel
theorem dL_law_323 : decode cL_law 323 = .ok (.aload_n 0, 1) := by decide +kernel
theorem dL_law_324 : decode cL_law 324 = .ok (.iload_n 3, 1) := by decide +kernel
theorem dL_law_325 : decode cL_law 325 = .ok (.iconst 1, 1) := by decide +kernel
theorem dL_law_326 : decode cL_law 326 = .ok (.iadd, 1) := by decide +kernel
theorem dL_law_327 : decode cL_law 327 = .ok (.iaload, 1) := by decide +kernel
theorem dL_law_328 : decode cL_law 328 = .ok (.aload_n 0, 1) := by decide +kernel
theorem dL_law_329 : decode cL_law 329 = .ok (.iload_n 3, 1) := by decide +kernel
theorem dL_law_330 : decode cL_law 330 = .ok (.iconst 2, 1) := by decide +kernel
theorem dL_law_331 : decode cL_law 331 = .ok (.iadd, 1) := by decide +kernel
theorem dL_law_332 : decode cL_law 332 = .ok (.iaload, 1) := by decide +kernel
theorem dL_law_333 : decode cL_law 333 = .ok (.invokevirtual 31, 3) := by decide +kernel
theorem dL_law_336 : decode cL_law 336 = .ok (.aload_n 2, 1) := by decide +kernel
theorem dL_law_337 : decode cL_law 337 = .ok (.aload_n 0, 1) := by decide +kernel
theorem dL_law_338 : decode cL_law 338 = .ok (.iload_n 3, 1) := by decide +kernel
theorem dL_law_339 : decode cL_law 339 = .ok (.iconst 1, 1) := by decide +kernel
theorem dL_law_340 : decode cL_law 340 = .ok (.iadd, 1) := by decide +kernel
theorem dL_law_341 : decode cL_law 341 = .ok (.iaload, 1) := by decide +kernel
theorem dL_law_342 : decode cL_law 342 = .ok (.aload_n 0, 1) := by decide +kernel
theorem dL_law_343 : decode cL_law 343 = .ok (.iload_n 3, 1) := by decide +kernel
theorem dL_law_344 : decode cL_law 344 = .ok (.iconst 2, 1) := by decide +kernel
theorem dL_law_345 : decode cL_law 345 = .ok (.iadd, 1) := by decide +kernel
theorem dL_law_346 : decode cL_law 346 = .ok (.iaload, 1) := by decide +kernel
theorem dL_law_347 : decode cL_law 347 = .ok (.invokevirtual 34, 3) := by decide +kernel
theorem dL_law_350 : decode cL_law 350 = .ok (.if_icmp .eq 948, 3) := by decide +kernel
theorem dL_law_353 : decode cL_law 353 = .ok (.iconst 0, 1) := by decide +kernel
theorem dL_law_354 : decode cL_law 354 = .ok (.ireturn, 1) := by decide +kernel
theorem dL_law_355 : decode cL_law 355 = .ok (.aload_n 1, 1) := by decide +kernel
theorem dL_law_356 : decode cL_law 356 = .ok (.aload_n 0, 1) := by decide +kernel
theorem dL_law_357 : decode cL_law 357 = .ok (.iload_n 3, 1) := by decide +kernel
theorem dL_law_358 : decode cL_law 358 = .ok (.iconst 1, 1) := by decide +kernel
theorem dL_law_359 : decode cL_law 359 = .ok (.iadd, 1) := by decide +kernel
theorem dL_law_360 : decode cL_law 360 = .ok (.iaload, 1) := by decide +kernel
theorem dL_law_361 : decode cL_law 361 = .ok (.aload_n 0, 1) := by decide +kernel
theorem dL_law_362 : decode cL_law 362 = .ok (.iload_n 3, 1) := by decide +kernel
theorem dL_law_363 : decode cL_law 363 = .ok (.iconst 2, 1) := by decide +kernel
theorem dL_law_364 : decode cL_law 364 = .ok (.iadd, 1) := by decide +kernel
theorem dL_law_365 : decode cL_law 365 = .ok (.iaload, 1) := by decide +kernel
theorem dL_law_366 : decode cL_law 366 = .ok (.invokevirtual 35, 3) := by decide +kernel
theorem dL_law_369 : decode cL_law 369 = .ok (.aload_n 2, 1) := by decide +kernel
theorem dL_law_370 : decode cL_law 370 = .ok (.aload_n 0, 1) := by decide +kernel
theorem dL_law_371 : decode cL_law 371 = .ok (.iload_n 3, 1) := by decide +kernel
theorem dL_law_372 : decode cL_law 372 = .ok (.iconst 1, 1) := by decide +kernel
theorem dL_law_373 : decode cL_law 373 = .ok (.iadd, 1) := by decide +kernel
theorem dL_law_374 : decode cL_law 374 = .ok (.iaload, 1) := by decide +kernel
theorem dL_law_375 : decode cL_law 375 = .ok (.aload_n 0, 1) := by decide +kernel
theorem dL_law_376 : decode cL_law 376 = .ok (.iload_n 3, 1) := by decide +kernel
theorem dL_law_377 : decode cL_law 377 = .ok (.iconst 2, 1) := by decide +kernel
theorem dL_law_378 : decode cL_law 378 = .ok (.iadd, 1) := by decide +kernel
theorem dL_law_379 : decode cL_law 379 = .ok (.iaload, 1) := by decide +kernel
theorem dL_law_380 : decode cL_law 380 = .ok (.invokevirtual 38, 3) := by decide +kernel
theorem dL_law_383 : decode cL_law 383 = .ok (.if_icmp .eq 915, 3) := by decide +kernel
theorem dL_law_386 : decode cL_law 386 = .ok (.iconst 0, 1) := by decide +kernel
theorem dL_law_387 : decode cL_law 387 = .ok (.ireturn, 1) := by decide +kernel
theorem dL_law_388 : decode cL_law 388 = .ok (.aload_n 1, 1) := by decide +kernel
theorem dL_law_389 : decode cL_law 389 = .ok (.aload_n 0, 1) := by decide +kernel
theorem dL_law_390 : decode cL_law 390 = .ok (.iload_n 3, 1) := by decide +kernel
theorem dL_law_391 : decode cL_law 391 = .ok (.iconst 1, 1) := by decide +kernel
theorem dL_law_392 : decode cL_law 392 = .ok (.iadd, 1) := by decide +kernel
theorem dL_law_393 : decode cL_law 393 = .ok (.iaload, 1) := by decide +kernel
theorem dL_law_394 : decode cL_law 394 = .ok (.aload_n 0, 1) := by decide +kernel
theorem dL_law_395 : decode cL_law 395 = .ok (.iload_n 3, 1) := by decide +kernel
theorem dL_law_396 : decode cL_law 396 = .ok (.iconst 2, 1) := by decide +kernel
theorem dL_law_397 : decode cL_law 397 = .ok (.iadd, 1) := by decide +kernel
theorem dL_law_398 : decode cL_law 398 = .ok (.iaload, 1) := by decide +kernel
theorem dL_law_399 : decode cL_law 399 = .ok (.aload_n 0, 1) := by decide +kernel
theorem dL_law_400 : decode cL_law 400 = .ok (.iload_n 3, 1) := by decide +kernel
theorem dL_law_401 : decode cL_law 401 = .ok (.iconst 3, 1) := by decide +kernel
theorem dL_law_402 : decode cL_law 402 = .ok (.iadd, 1) := by decide +kernel
theorem dL_law_403 : decode cL_law 403 = .ok (.iaload, 1) := by decide +kernel
theorem dL_law_404 : decode cL_law 404 = .ok (.invokevirtual 39, 3) := by decide +kernel
theorem dL_law_407 : decode cL_law 407 = .ok (.aload_n 2, 1) := by decide +kernel
theorem dL_law_408 : decode cL_law 408 = .ok (.aload_n 0, 1) := by decide +kernel
theorem dL_law_409 : decode cL_law 409 = .ok (.iload_n 3, 1) := by decide +kernel
theorem dL_law_410 : decode cL_law 410 = .ok (.iconst 1, 1) := by decide +kernel
theorem dL_law_411 : decode cL_law 411 = .ok (.iadd, 1) := by decide +kernel
theorem dL_law_412 : decode cL_law 412 = .ok (.iaload, 1) := by decide +kernel
theorem dL_law_413 : decode cL_law 413 = .ok (.aload_n 0, 1) := by decide +kernel
theorem dL_law_414 : decode cL_law 414 = .ok (.iload_n 3, 1) := by decide +kernel
theorem dL_law_415 : decode cL_law 415 = .ok (.iconst 2, 1) := by decide +kernel
theorem dL_law_416 : decode cL_law 416 = .ok (.iadd, 1) := by decide +kernel
theorem dL_law_417 : decode cL_law 417 = .ok (.iaload, 1) := by decide +kernel
theorem dL_law_418 : decode cL_law 418 = .ok (.aload_n 0, 1) := by decide +kernel
theorem dL_law_419 : decode cL_law 419 = .ok (.iload_n 3, 1) := by decide +kernel
theorem dL_law_420 : decode cL_law 420 = .ok (.iconst 3, 1) := by decide +kernel
theorem dL_law_421 : decode cL_law 421 = .ok (.iadd, 1) := by decide +kernel
theorem dL_law_422 : decode cL_law 422 = .ok (.iaload, 1) := by decide +kernel
theorem dL_law_423 : decode cL_law 423 = .ok (.invokevirtual 42, 3) := by decide +kernel
theorem dL_law_426 : decode cL_law 426 = .ok (.if_icmp .eq 872, 3) := by decide +kernel
theorem dL_law_429 : decode cL_law 429 = .ok (.iconst 0, 1) := by decide +kernel
theorem dL_law_430 : decode cL_law 430 = .ok (.ireturn, 1) := by decide +kernel
theorem dL_law_431 : decode cL_law 431 = .ok (.aload_n 1, 1) := by decide +kernel
theorem dL_law_432 : decode cL_law 432 = .ok (.aload_n 0, 1) := by decide +kernel
theorem dL_law_433 : decode cL_law 433 = .ok (.iload_n 3, 1) := by decide +kernel
theorem dL_law_434 : decode cL_law 434 = .ok (.iconst 1, 1) := by decide +kernel
theorem dL_law_435 : decode cL_law 435 = .ok (.iadd, 1) := by decide +kernel
theorem dL_law_436 : decode cL_law 436 = .ok (.iaload, 1) := by decide +kernel
theorem dL_law_437 : decode cL_law 437 = .ok (.invokevirtual 43, 3) := by decide +kernel
theorem dL_law_440 : decode cL_law 440 = .ok (.aload_n 2, 1) := by decide +kernel
theorem dL_law_441 : decode cL_law 441 = .ok (.aload_n 0, 1) := by decide +kernel
theorem dL_law_442 : decode cL_law 442 = .ok (.iload_n 3, 1) := by decide +kernel
theorem dL_law_443 : decode cL_law 443 = .ok (.iconst 1, 1) := by decide +kernel
theorem dL_law_444 : decode cL_law 444 = .ok (.iadd, 1) := by decide +kernel
theorem dL_law_445 : decode cL_law 445 = .ok (.iaload, 1) := by decide +kernel
theorem dL_law_446 : decode cL_law 446 = .ok (.invokevirtual 47, 3) := by decide +kernel
theorem dL_law_449 : decode cL_law 449 = .ok (.if_icmp .eq 849, 3) := by decide +kernel
theorem dL_law_452 : decode cL_law 452 = .ok (.iconst 0, 1) := by decide +kernel
theorem dL_law_453 : decode cL_law 453 = .ok (.ireturn, 1) := by decide +kernel
theorem dL_law_454 : decode cL_law 454 = .ok (.aload_n 1, 1) := by decide +kernel
theorem dL_law_455 : decode cL_law 455 = .ok (.invokevirtual 48, 3) := by decide +kernel
theorem dL_law_458 : decode cL_law 458 = .ok (.aload_n 2, 1) := by decide +kernel
theorem dL_law_459 : decode cL_law 459 = .ok (.invokevirtual 52, 3) := by decide +kernel
theorem dL_law_462 : decode cL_law 462 = .ok (.if_icmp .eq 836, 3) := by decide +kernel
theorem dL_law_465 : decode cL_law 465 = .ok (.iconst 0, 1) := by decide +kernel
theorem dL_law_466 : decode cL_law 466 = .ok (.ireturn, 1) := by decide +kernel
theorem dL_law_467 : decode cL_law 467 = .ok (.aload_n 1, 1) := by decide +kernel
theorem dL_law_468 : decode cL_law 468 = .ok (.aload_n 0, 1) := by decide +kernel
theorem dL_law_469 : decode cL_law 469 = .ok (.iload_n 3, 1) := by decide +kernel
theorem dL_law_470 : decode cL_law 470 = .ok (.iconst 1, 1) := by decide +kernel
theorem dL_law_471 : decode cL_law 471 = .ok (.iadd, 1) := by decide +kernel
theorem dL_law_472 : decode cL_law 472 = .ok (.iaload, 1) := by decide +kernel
theorem dL_law_473 : decode cL_law 473 = .ok (.invokevirtual 53, 3) := by decide +kernel
theorem dL_law_476 : decode cL_law 476 = .ok (.aload_n 2, 1) := by decide +kernel
theorem dL_law_477 : decode cL_law 477 = .ok (.aload_n 0, 1) := by decide +kernel
theorem dL_law_478 : decode cL_law 478 = .ok (.iload_n 3, 1) := by decide +kernel
theorem dL_law_479 : decode cL_law 479 = .ok (.iconst 1, 1) := by decide +kernel
theorem dL_law_480 : decode cL_law 480 = .ok (.iadd, 1) := by decide +kernel
theorem dL_law_481 : decode cL_law 481 = .ok (.iaload, 1) := by decide +kernel
theorem dL_law_482 : decode cL_law 482 = .ok (.invokevirtual 56, 3) := by decide +kernel
theorem dL_law_485 : decode cL_law 485 = .ok (.if_icmp .eq 813, 3) := by decide +kernel
theorem dL_law_488 : decode cL_law 488 = .ok (.iconst 0, 1) := by decide +kernel
theorem dL_law_489 : decode cL_law 489 = .ok (.ireturn, 1) := by decide +kernel
theorem dL_law_490 : decode cL_law 490 = .ok (.aload_n 1, 1) := by decide +kernel
theorem dL_law_491 : decode cL_law 491 = .ok (.aload_n 0, 1) := by decide +kernel
theorem dL_law_492 : decode cL_law 492 = .ok (.iload_n 3, 1) := by decide +kernel
theorem dL_law_493 : decode cL_law 493 = .ok (.iconst 1, 1) := by decide +kernel
theorem dL_law_494 : decode cL_law 494 = .ok (.iadd, 1) := by decide +kernel
theorem dL_law_495 : decode cL_law 495 = .ok (.iaload, 1) := by decide +kernel
theorem dL_law_496 : decode cL_law 496 = .ok (.invokevirtual 57, 3) := by decide +kernel
theorem dL_law_499 : decode cL_law 499 = .ok (.aload_n 2, 1) := by decide +kernel
theorem dL_law_500 : decode cL_law 500 = .ok (.aload_n 0, 1) := by decide +kernel
theorem dL_law_501 : decode cL_law 501 = .ok (.iload_n 3, 1) := by decide +kernel
theorem dL_law_502 : decode cL_law 502 = .ok (.iconst 1, 1) := by decide +kernel
theorem dL_law_503 : decode cL_law 503 = .ok (.iadd, 1) := by decide +kernel
theorem dL_law_504 : decode cL_law 504 = .ok (.iaload, 1) := by decide +kernel
theorem dL_law_505 : decode cL_law 505 = .ok (.invokevirtual 60, 3) := by decide +kernel
theorem dL_law_508 : decode cL_law 508 = .ok (.if_icmp .eq 790, 3) := by decide +kernel
theorem dL_law_511 : decode cL_law 511 = .ok (.iconst 0, 1) := by decide +kernel
theorem dL_law_512 : decode cL_law 512 = .ok (.ireturn, 1) := by decide +kernel
theorem dL_law_513 : decode cL_law 513 = .ok (.aload_n 1, 1) := by decide +kernel
theorem dL_law_514 : decode cL_law 514 = .ok (.aload_n 0, 1) := by decide +kernel
theorem dL_law_515 : decode cL_law 515 = .ok (.iload_n 3, 1) := by decide +kernel
theorem dL_law_516 : decode cL_law 516 = .ok (.iconst 1, 1) := by decide +kernel
theorem dL_law_517 : decode cL_law 517 = .ok (.iadd, 1) := by decide +kernel
theorem dL_law_518 : decode cL_law 518 = .ok (.iaload, 1) := by decide +kernel
theorem dL_law_519 : decode cL_law 519 = .ok (.aload_n 0, 1) := by decide +kernel
theorem dL_law_520 : decode cL_law 520 = .ok (.iload_n 3, 1) := by decide +kernel
theorem dL_law_521 : decode cL_law 521 = .ok (.iconst 2, 1) := by decide +kernel
theorem dL_law_522 : decode cL_law 522 = .ok (.iadd, 1) := by decide +kernel
theorem dL_law_523 : decode cL_law 523 = .ok (.iaload, 1) := by decide +kernel
theorem dL_law_524 : decode cL_law 524 = .ok (.invokevirtual 61, 3) := by decide +kernel
theorem dL_law_527 : decode cL_law 527 = .ok (.aload_n 2, 1) := by decide +kernel
theorem dL_law_528 : decode cL_law 528 = .ok (.aload_n 0, 1) := by decide +kernel
theorem dL_law_529 : decode cL_law 529 = .ok (.iload_n 3, 1) := by decide +kernel
theorem dL_law_530 : decode cL_law 530 = .ok (.iconst 1, 1) := by decide +kernel
theorem dL_law_531 : decode cL_law 531 = .ok (.iadd, 1) := by decide +kernel
theorem dL_law_532 : decode cL_law 532 = .ok (.iaload, 1) := by decide +kernel
theorem dL_law_533 : decode cL_law 533 = .ok (.aload_n 0, 1) := by decide +kernel
theorem dL_law_534 : decode cL_law 534 = .ok (.iload_n 3, 1) := by decide +kernel
theorem dL_law_535 : decode cL_law 535 = .ok (.iconst 2, 1) := by decide +kernel
theorem dL_law_536 : decode cL_law 536 = .ok (.iadd, 1) := by decide +kernel
theorem dL_law_537 : decode cL_law 537 = .ok (.iaload, 1) := by decide +kernel
theorem dL_law_538 : decode cL_law 538 = .ok (.invokevirtual 64, 3) := by decide +kernel
theorem dL_law_541 : decode cL_law 541 = .ok (.if_icmp .eq 757, 3) := by decide +kernel
theorem dL_law_544 : decode cL_law 544 = .ok (.iconst 0, 1) := by decide +kernel
theorem dL_law_545 : decode cL_law 545 = .ok (.ireturn, 1) := by decide +kernel
theorem dL_law_546 : decode cL_law 546 = .ok (.aload_n 1, 1) := by decide +kernel
theorem dL_law_547 : decode cL_law 547 = .ok (.aload_n 0, 1) := by decide +kernel
theorem dL_law_548 : decode cL_law 548 = .ok (.iload_n 3, 1) := by decide +kernel
theorem dL_law_549 : decode cL_law 549 = .ok (.iconst 1, 1) := by decide +kernel
theorem dL_law_550 : decode cL_law 550 = .ok (.iadd, 1) := by decide +kernel
theorem dL_law_551 : decode cL_law 551 = .ok (.iaload, 1) := by decide +kernel
theorem dL_law_552 : decode cL_law 552 = .ok (.aload_n 0, 1) := by decide +kernel
theorem dL_law_553 : decode cL_law 553 = .ok (.iload_n 3, 1) := by decide +kernel
theorem dL_law_554 : decode cL_law 554 = .ok (.iconst 2, 1) := by decide +kernel
theorem dL_law_555 : decode cL_law 555 = .ok (.iadd, 1) := by decide +kernel
theorem dL_law_556 : decode cL_law 556 = .ok (.iaload, 1) := by decide +kernel
theorem dL_law_557 : decode cL_law 557 = .ok (.invokevirtual 65, 3) := by decide +kernel
theorem dL_law_560 : decode cL_law 560 = .ok (.aload_n 2, 1) := by decide +kernel
theorem dL_law_561 : decode cL_law 561 = .ok (.aload_n 0, 1) := by decide +kernel
theorem dL_law_562 : decode cL_law 562 = .ok (.iload_n 3, 1) := by decide +kernel
theorem dL_law_563 : decode cL_law 563 = .ok (.iconst 1, 1) := by decide +kernel
theorem dL_law_564 : decode cL_law 564 = .ok (.iadd, 1) := by decide +kernel
theorem dL_law_565 : decode cL_law 565 = .ok (.iaload, 1) := by decide +kernel
theorem dL_law_566 : decode cL_law 566 = .ok (.aload_n 0, 1) := by decide +kernel
theorem dL_law_567 : decode cL_law 567 = .ok (.iload_n 3, 1) := by decide +kernel
theorem dL_law_568 : decode cL_law 568 = .ok (.iconst 2, 1) := by decide +kernel
theorem dL_law_569 : decode cL_law 569 = .ok (.iadd, 1) := by decide +kernel
theorem dL_law_570 : decode cL_law 570 = .ok (.iaload, 1) := by decide +kernel
theorem dL_law_571 : decode cL_law 571 = .ok (.invokevirtual 68, 3) := by decide +kernel
theorem dL_law_574 : decode cL_law 574 = .ok (.if_icmp .eq 724, 3) := by decide +kernel
theorem dL_law_577 : decode cL_law 577 = .ok (.iconst 0, 1) := by decide +kernel
theorem dL_law_578 : decode cL_law 578 = .ok (.ireturn, 1) := by decide +kernel
theorem dL_law_579 : decode cL_law 579 = .ok (.aload_n 1, 1) := by decide +kernel
theorem dL_law_580 : decode cL_law 580 = .ok (.aload_n 0, 1) := by decide +kernel
theorem dL_law_581 : decode cL_law 581 = .ok (.iload_n 3, 1) := by decide +kernel
theorem dL_law_582 : decode cL_law 582 = .ok (.iconst 1, 1) := by decide +kernel
theorem dL_law_583 : decode cL_law 583 = .ok (.iadd, 1) := by decide +kernel
theorem dL_law_584 : decode cL_law 584 = .ok (.iaload, 1) := by decide +kernel
theorem dL_law_585 : decode cL_law 585 = .ok (.aload_n 0, 1) := by decide +kernel
theorem dL_law_586 : decode cL_law 586 = .ok (.iload_n 3, 1) := by decide +kernel
theorem dL_law_587 : decode cL_law 587 = .ok (.iconst 2, 1) := by decide +kernel
theorem dL_law_588 : decode cL_law 588 = .ok (.iadd, 1) := by decide +kernel
theorem dL_law_589 : decode cL_law 589 = .ok (.iaload, 1) := by decide +kernel
theorem dL_law_590 : decode cL_law 590 = .ok (.aload_n 0, 1) := by decide +kernel
theorem dL_law_591 : decode cL_law 591 = .ok (.iload_n 3, 1) := by decide +kernel
theorem dL_law_592 : decode cL_law 592 = .ok (.iconst 3, 1) := by decide +kernel
theorem dL_law_593 : decode cL_law 593 = .ok (.iadd, 1) := by decide +kernel
theorem dL_law_594 : decode cL_law 594 = .ok (.iaload, 1) := by decide +kernel
theorem dL_law_595 : decode cL_law 595 = .ok (.invokevirtual 69, 3) := by decide +kernel
theorem dL_law_598 : decode cL_law 598 = .ok (.aload_n 2, 1) := by decide +kernel
theorem dL_law_599 : decode cL_law 599 = .ok (.aload_n 0, 1) := by decide +kernel
theorem dL_law_600 : decode cL_law 600 = .ok (.iload_n 3, 1) := by decide +kernel
theorem dL_law_601 : decode cL_law 601 = .ok (.iconst 1, 1) := by decide +kernel
theorem dL_law_602 : decode cL_law 602 = .ok (.iadd, 1) := by decide +kernel
theorem dL_law_603 : decode cL_law 603 = .ok (.iaload, 1) := by decide +kernel
theorem dL_law_604 : decode cL_law 604 = .ok (.aload_n 0, 1) := by decide +kernel
theorem dL_law_605 : decode cL_law 605 = .ok (.iload_n 3, 1) := by decide +kernel
theorem dL_law_606 : decode cL_law 606 = .ok (.iconst 2, 1) := by decide +kernel
theorem dL_law_607 : decode cL_law 607 = .ok (.iadd, 1) := by decide +kernel
theorem dL_law_608 : decode cL_law 608 = .ok (.iaload, 1) := by decide +kernel
theorem dL_law_609 : decode cL_law 609 = .ok (.aload_n 0, 1) := by decide +kernel
theorem dL_law_610 : decode cL_law 610 = .ok (.iload_n 3, 1) := by decide +kernel
theorem dL_law_611 : decode cL_law 611 = .ok (.iconst 3, 1) := by decide +kernel
theorem dL_law_612 : decode cL_law 612 = .ok (.iadd, 1) := by decide +kernel
theorem dL_law_613 : decode cL_law 613 = .ok (.iaload, 1) := by decide +kernel
theorem dL_law_614 : decode cL_law 614 = .ok (.invokevirtual 72, 3) := by decide +kernel
theorem dL_law_617 : decode cL_law 617 = .ok (.if_icmp .eq 681, 3) := by decide +kernel
theorem dL_law_620 : decode cL_law 620 = .ok (.iconst 0, 1) := by decide +kernel
theorem dL_law_621 : decode cL_law 621 = .ok (.ireturn, 1) := by decide +kernel
theorem dL_law_622 : decode cL_law 622 = .ok (.aload_n 1, 1) := by decide +kernel
theorem dL_law_623 : decode cL_law 623 = .ok (.aload_n 0, 1) := by decide +kernel
theorem dL_law_624 : decode cL_law 624 = .ok (.iload_n 3, 1) := by decide +kernel
theorem dL_law_625 : decode cL_law 625 = .ok (.iconst 1, 1) := by decide +kernel
theorem dL_law_626 : decode cL_law 626 = .ok (.iadd, 1) := by decide +kernel
theorem dL_law_627 : decode cL_law 627 = .ok (.iaload, 1) := by decide +kernel
theorem dL_law_628 : decode cL_law 628 = .ok (.aload_n 0, 1) := by decide +kernel
theorem dL_law_629 : decode cL_law 629 = .ok (.iload_n 3, 1) := by decide +kernel
theorem dL_law_630 : decode cL_law 630 = .ok (.iconst 2, 1) := by decide +kernel
theorem dL_law_631 : decode cL_law 631 = .ok (.iadd, 1) := by decide +kernel
theorem dL_law_632 : decode cL_law 632 = .ok (.iaload, 1) := by decide +kernel
theorem dL_law_633 : decode cL_law 633 = .ok (.aload_n 0, 1) := by decide +kernel
theorem dL_law_634 : decode cL_law 634 = .ok (.iload_n 3, 1) := by decide +kernel
theorem dL_law_635 : decode cL_law 635 = .ok (.iconst 3, 1) := by decide +kernel
theorem dL_law_636 : decode cL_law 636 = .ok (.iadd, 1) := by decide +kernel
theorem dL_law_637 : decode cL_law 637 = .ok (.iaload, 1) := by decide +kernel
theorem dL_law_638 : decode cL_law 638 = .ok (.ifCond .eq 7, 3) := by decide +kernel
theorem dL_law_641 : decode cL_law 641 = .ok (.iconst 1, 1) := by decide +kernel
theorem dL_law_642 : decode cL_law 642 = .ok (.goto 4, 3) := by decide +kernel
theorem dL_law_645 : decode cL_law 645 = .ok (.iconst 0, 1) := by decide +kernel
theorem dL_law_646 : decode cL_law 646 = .ok (.invokevirtual 73, 3) := by decide +kernel
theorem dL_law_649 : decode cL_law 649 = .ok (.aload_n 2, 1) := by decide +kernel
theorem dL_law_650 : decode cL_law 650 = .ok (.aload_n 0, 1) := by decide +kernel
theorem dL_law_651 : decode cL_law 651 = .ok (.iload_n 3, 1) := by decide +kernel
theorem dL_law_652 : decode cL_law 652 = .ok (.iconst 1, 1) := by decide +kernel
theorem dL_law_653 : decode cL_law 653 = .ok (.iadd, 1) := by decide +kernel
theorem dL_law_654 : decode cL_law 654 = .ok (.iaload, 1) := by decide +kernel
theorem dL_law_655 : decode cL_law 655 = .ok (.aload_n 0, 1) := by decide +kernel
theorem dL_law_656 : decode cL_law 656 = .ok (.iload_n 3, 1) := by decide +kernel
theorem dL_law_657 : decode cL_law 657 = .ok (.iconst 2, 1) := by decide +kernel
theorem dL_law_658 : decode cL_law 658 = .ok (.iadd, 1) := by decide +kernel
theorem dL_law_659 : decode cL_law 659 = .ok (.iaload, 1) := by decide +kernel
theorem dL_law_660 : decode cL_law 660 = .ok (.aload_n 0, 1) := by decide +kernel
theorem dL_law_661 : decode cL_law 661 = .ok (.iload_n 3, 1) := by decide +kernel
theorem dL_law_662 : decode cL_law 662 = .ok (.iconst 3, 1) := by decide +kernel
theorem dL_law_663 : decode cL_law 663 = .ok (.iadd, 1) := by decide +kernel
theorem dL_law_664 : decode cL_law 664 = .ok (.iaload, 1) := by decide +kernel
theorem dL_law_665 : decode cL_law 665 = .ok (.ifCond .eq 7, 3) := by decide +kernel
theorem dL_law_668 : decode cL_law 668 = .ok (.iconst 1, 1) := by decide +kernel
theorem dL_law_669 : decode cL_law 669 = .ok (.goto 4, 3) := by decide +kernel
theorem dL_law_672 : decode cL_law 672 = .ok (.iconst 0, 1) := by decide +kernel
theorem dL_law_673 : decode cL_law 673 = .ok (.invokevirtual 77, 3) := by decide +kernel
theorem dL_law_676 : decode cL_law 676 = .ok (.if_icmp .eq 622, 3) := by decide +kernel
theorem dL_law_679 : decode cL_law 679 = .ok (.iconst 0, 1) := by decide +kernel
theorem dL_law_680 : decode cL_law 680 = .ok (.ireturn, 1) := by decide +kernel
theorem dL_law_681 : decode cL_law 681 = .ok (.aload_n 1, 1) := by decide +kernel
theorem dL_law_682 : decode cL_law 682 = .ok (.aload_n 0, 1) := by decide +kernel
theorem dL_law_683 : decode cL_law 683 = .ok (.iload_n 3, 1) := by decide +kernel
theorem dL_law_684 : decode cL_law 684 = .ok (.iconst 1, 1) := by decide +kernel
theorem dL_law_685 : decode cL_law 685 = .ok (.iadd, 1) := by decide +kernel
theorem dL_law_686 : decode cL_law 686 = .ok (.iaload, 1) := by decide +kernel
theorem dL_law_687 : decode cL_law 687 = .ok (.aload_n 0, 1) := by decide +kernel
theorem dL_law_688 : decode cL_law 688 = .ok (.iload_n 3, 1) := by decide +kernel
theorem dL_law_689 : decode cL_law 689 = .ok (.iconst 2, 1) := by decide +kernel
theorem dL_law_690 : decode cL_law 690 = .ok (.iadd, 1) := by decide +kernel
theorem dL_law_691 : decode cL_law 691 = .ok (.iaload, 1) := by decide +kernel
theorem dL_law_692 : decode cL_law 692 = .ok (.invokevirtual 78, 3) := by decide +kernel
theorem dL_law_695 : decode cL_law 695 = .ok (.aload_n 2, 1) := by decide +kernel
theorem dL_law_696 : decode cL_law 696 = .ok (.aload_n 0, 1) := by decide +kernel
theorem dL_law_697 : decode cL_law 697 = .ok (.iload_n 3, 1) := by decide +kernel
theorem dL_law_698 : decode cL_law 698 = .ok (.iconst 1, 1) := by decide +kernel
theorem dL_law_699 : decode cL_law 699 = .ok (.iadd, 1) := by decide +kernel
theorem dL_law_700 : decode cL_law 700 = .ok (.iaload, 1) := by decide +kernel
theorem dL_law_701 : decode cL_law 701 = .ok (.aload_n 0, 1) := by decide +kernel
theorem dL_law_702 : decode cL_law 702 = .ok (.iload_n 3, 1) := by decide +kernel
theorem dL_law_703 : decode cL_law 703 = .ok (.iconst 2, 1) := by decide +kernel
theorem dL_law_704 : decode cL_law 704 = .ok (.iadd, 1) := by decide +kernel
theorem dL_law_705 : decode cL_law 705 = .ok (.iaload, 1) := by decide +kernel
theorem dL_law_706 : decode cL_law 706 = .ok (.invokevirtual 81, 3) := by decide +kernel
theorem dL_law_709 : decode cL_law 709 = .ok (.if_icmp .eq 589, 3) := by decide +kernel
theorem dL_law_712 : decode cL_law 712 = .ok (.iconst 0, 1) := by decide +kernel
theorem dL_law_713 : decode cL_law 713 = .ok (.ireturn, 1) := by decide +kernel
theorem dL_law_714 : decode cL_law 714 = .ok (.aload_n 1, 1) := by decide +kernel
theorem dL_law_715 : decode cL_law 715 = .ok (.aload_n 0, 1) := by decide +kernel
theorem dL_law_716 : decode cL_law 716 = .ok (.iload_n 3, 1) := by decide +kernel
theorem dL_law_717 : decode cL_law 717 = .ok (.iconst 1, 1) := by decide +kernel
theorem dL_law_718 : decode cL_law 718 = .ok (.iadd, 1) := by decide +kernel
theorem dL_law_719 : decode cL_law 719 = .ok (.iaload, 1) := by decide +kernel
theorem dL_law_720 : decode cL_law 720 = .ok (.aload_n 0, 1) := by decide +kernel
theorem dL_law_721 : decode cL_law 721 = .ok (.iload_n 3, 1) := by decide +kernel
theorem dL_law_722 : decode cL_law 722 = .ok (.iconst 2, 1) := by decide +kernel
theorem dL_law_723 : decode cL_law 723 = .ok (.iadd, 1) := by decide +kernel
theorem dL_law_724 : decode cL_law 724 = .ok (.iaload, 1) := by decide +kernel
theorem dL_law_725 : decode cL_law 725 = .ok (.aload_n 0, 1) := by decide +kernel
theorem dL_law_726 : decode cL_law 726 = .ok (.iload_n 3, 1) := by decide +kernel
theorem dL_law_727 : decode cL_law 727 = .ok (.iconst 3, 1) := by decide +kernel
theorem dL_law_728 : decode cL_law 728 = .ok (.iadd, 1) := by decide +kernel
theorem dL_law_729 : decode cL_law 729 = .ok (.iaload, 1) := by decide +kernel
theorem dL_law_730 : decode cL_law 730 = .ok (.aload_n 0, 1) := by decide +kernel
theorem dL_law_731 : decode cL_law 731 = .ok (.iload_n 3, 1) := by decide +kernel
theorem dL_law_732 : decode cL_law 732 = .ok (.iconst 4, 1) := by decide +kernel
theorem dL_law_733 : decode cL_law 733 = .ok (.iadd, 1) := by decide +kernel
theorem dL_law_734 : decode cL_law 734 = .ok (.iaload, 1) := by decide +kernel
theorem dL_law_735 : decode cL_law 735 = .ok (.invokevirtual 82, 3) := by decide +kernel
theorem dL_law_738 : decode cL_law 738 = .ok (.aload_n 2, 1) := by decide +kernel
theorem dL_law_739 : decode cL_law 739 = .ok (.aload_n 0, 1) := by decide +kernel
theorem dL_law_740 : decode cL_law 740 = .ok (.iload_n 3, 1) := by decide +kernel
theorem dL_law_741 : decode cL_law 741 = .ok (.iconst 1, 1) := by decide +kernel
theorem dL_law_742 : decode cL_law 742 = .ok (.iadd, 1) := by decide +kernel
theorem dL_law_743 : decode cL_law 743 = .ok (.iaload, 1) := by decide +kernel
theorem dL_law_744 : decode cL_law 744 = .ok (.aload_n 0, 1) := by decide +kernel
theorem dL_law_745 : decode cL_law 745 = .ok (.iload_n 3, 1) := by decide +kernel
theorem dL_law_746 : decode cL_law 746 = .ok (.iconst 2, 1) := by decide +kernel
theorem dL_law_747 : decode cL_law 747 = .ok (.iadd, 1) := by decide +kernel
theorem dL_law_748 : decode cL_law 748 = .ok (.iaload, 1) := by decide +kernel
theorem dL_law_749 : decode cL_law 749 = .ok (.aload_n 0, 1) := by decide +kernel
theorem dL_law_750 : decode cL_law 750 = .ok (.iload_n 3, 1) := by decide +kernel
theorem dL_law_751 : decode cL_law 751 = .ok (.iconst 3, 1) := by decide +kernel
theorem dL_law_752 : decode cL_law 752 = .ok (.iadd, 1) := by decide +kernel
theorem dL_law_753 : decode cL_law 753 = .ok (.iaload, 1) := by decide +kernel
theorem dL_law_754 : decode cL_law 754 = .ok (.aload_n 0, 1) := by decide +kernel
theorem dL_law_755 : decode cL_law 755 = .ok (.iload_n 3, 1) := by decide +kernel
theorem dL_law_756 : decode cL_law 756 = .ok (.iconst 4, 1) := by decide +kernel
theorem dL_law_757 : decode cL_law 757 = .ok (.iadd, 1) := by decide +kernel
theorem dL_law_758 : decode cL_law 758 = .ok (.iaload, 1) := by decide +kernel
theorem dL_law_759 : decode cL_law 759 = .ok (.invokevirtual 86, 3) := by decide +kernel
theorem dL_law_762 : decode cL_law 762 = .ok (.lcmp, 1) := by decide +kernel
theorem dL_law_763 : decode cL_law 763 = .ok (.ifCond .eq 535, 3) := by decide +kernel
theorem dL_law_766 : decode cL_law 766 = .ok (.iconst 0, 1) := by decide +kernel
theorem dL_law_767 : decode cL_law 767 = .ok (.ireturn, 1) := by decide +kernel
theorem dL_law_768 : decode cL_law 768 = .ok (.aload_n 1, 1) := by decide +kernel
theorem dL_law_769 : decode cL_law 769 = .ok (.aload_n 0, 1) := by decide +kernel
theorem dL_law_770 : decode cL_law 770 = .ok (.iload_n 3, 1) := by decide +kernel
theorem dL_law_771 : decode cL_law 771 = .ok (.iconst 1, 1) := by decide +kernel
theorem dL_law_772 : decode cL_law 772 = .ok (.iadd, 1) := by decide +kernel
theorem dL_law_773 : decode cL_law 773 = .ok (.iaload, 1) := by decide +kernel
theorem dL_law_774 : decode cL_law 774 = .ok (.aload_n 0, 1) := by decide +kernel
theorem dL_law_775 : decode cL_law 775 = .ok (.iload_n 3, 1) := by decide +kernel
theorem dL_law_776 : decode cL_law 776 = .ok (.iconst 2, 1) := by decide +kernel
theorem dL_law_777 : decode cL_law 777 = .ok (.iadd, 1) := by decide +kernel
theorem dL_law_778 : decode cL_law 778 = .ok (.iaload, 1) := by decide +kernel
theorem dL_law_779 : decode cL_law 779 = .ok (.invokevirtual 87, 3) := by decide +kernel
theorem dL_law_782 : decode cL_law 782 = .ok (.aload_n 2, 1) := by decide +kernel
theorem dL_law_783 : decode cL_law 783 = .ok (.aload_n 0, 1) := by decide +kernel
theorem dL_law_784 : decode cL_law 784 = .ok (.iload_n 3, 1) := by decide +kernel
theorem dL_law_785 : decode cL_law 785 = .ok (.iconst 1, 1) := by decide +kernel
theorem dL_law_786 : decode cL_law 786 = .ok (.iadd, 1) := by decide +kernel
theorem dL_law_787 : decode cL_law 787 = .ok (.iaload, 1) := by decide +kernel
theorem dL_law_788 : decode cL_law 788 = .ok (.aload_n 0, 1) := by decide +kernel
theorem dL_law_789 : decode cL_law 789 = .ok (.iload_n 3, 1) := by decide +kernel
theorem dL_law_790 : decode cL_law 790 = .ok (.iconst 2, 1) := by decide +kernel
theorem dL_law_791 : decode cL_law 791 = .ok (.iadd, 1) := by decide +kernel
theorem dL_law_792 : decode cL_law 792 = .ok (.iaload, 1) := by decide +kernel
theorem dL_law_793 : decode cL_law 793 = .ok (.invokevirtual 91, 3) := by decide +kernel
theorem dL_law_796 : decode cL_law 796 = .ok (.lcmp, 1) := by decide +kernel
theorem dL_law_797 : decode cL_law 797 = .ok (.ifCond .eq 501, 3) := by decide +kernel
theorem dL_law_800 : decode cL_law 800 = .ok (.iconst 0, 1) := by decide +kernel
theorem dL_law_801 : decode cL_law 801 = .ok (.ireturn, 1) := by decide +kernel
theorem dL_law_802 : decode cL_law 802 = .ok (.aload_n 1, 1) := by decide +kernel
theorem dL_law_803 : decode cL_law 803 = .ok (.aload_n 0, 1) := by decide +kernel
theorem dL_law_804 : decode cL_law 804 = .ok (.iload_n 3, 1) := by decide +kernel
theorem dL_law_805 : decode cL_law 805 = .ok (.iconst 1, 1) := by decide +kernel
theorem dL_law_806 : decode cL_law 806 = .ok (.iadd, 1) := by decide +kernel
theorem dL_law_807 : decode cL_law 807 = .ok (.iaload, 1) := by decide +kernel
theorem dL_law_808 : decode cL_law 808 = .ok (.aload_n 0, 1) := by decide +kernel
theorem dL_law_809 : decode cL_law 809 = .ok (.iload_n 3, 1) := by decide +kernel
theorem dL_law_810 : decode cL_law 810 = .ok (.iconst 2, 1) := by decide +kernel
theorem dL_law_811 : decode cL_law 811 = .ok (.iadd, 1) := by decide +kernel
theorem dL_law_812 : decode cL_law 812 = .ok (.iaload, 1) := by decide +kernel
theorem dL_law_813 : decode cL_law 813 = .ok (.invokevirtual 92, 3) := by decide +kernel
theorem dL_law_816 : decode cL_law 816 = .ok (.aload_n 2, 1) := by decide +kernel
theorem dL_law_817 : decode cL_law 817 = .ok (.aload_n 0, 1) := by decide +kernel
theorem dL_law_818 : decode cL_law 818 = .ok (.iload_n 3, 1) := by decide +kernel
theorem dL_law_819 : decode cL_law 819 = .ok (.iconst 1, 1) := by decide +kernel
theorem dL_law_820 : decode cL_law 820 = .ok (.iadd, 1) := by decide +kernel
theorem dL_law_821 : decode cL_law 821 = .ok (.iaload, 1) := by decide +kernel
theorem dL_law_822 : decode cL_law 822 = .ok (.aload_n 0, 1) := by decide +kernel
theorem dL_law_823 : decode cL_law 823 = .ok (.iload_n 3, 1) := by decide +kernel
theorem dL_law_824 : decode cL_law 824 = .ok (.iconst 2, 1) := by decide +kernel
theorem dL_law_825 : decode cL_law 825 = .ok (.iadd, 1) := by decide +kernel
theorem dL_law_826 : decode cL_law 826 = .ok (.iaload, 1) := by decide +kernel
theorem dL_law_827 : decode cL_law 827 = .ok (.invokevirtual 95, 3) := by decide +kernel
theorem dL_law_830 : decode cL_law 830 = .ok (.if_icmp .eq 468, 3) := by decide +kernel
theorem dL_law_833 : decode cL_law 833 = .ok (.iconst 0, 1) := by decide +kernel
theorem dL_law_834 : decode cL_law 834 = .ok (.ireturn, 1) := by decide +kernel
theorem dL_law_835 : decode cL_law 835 = .ok (.aload_n 1, 1) := by decide +kernel
theorem dL_law_836 : decode cL_law 836 = .ok (.aload_n 0, 1) := by decide +kernel
theorem dL_law_837 : decode cL_law 837 = .ok (.iload_n 3, 1) := by decide +kernel
theorem dL_law_838 : decode cL_law 838 = .ok (.iconst 1, 1) := by decide +kernel
theorem dL_law_839 : decode cL_law 839 = .ok (.iadd, 1) := by decide +kernel
theorem dL_law_840 : decode cL_law 840 = .ok (.iaload, 1) := by decide +kernel
theorem dL_law_841 : decode cL_law 841 = .ok (.invokevirtual 96, 3) := by decide +kernel
theorem dL_law_844 : decode cL_law 844 = .ok (.aload_n 2, 1) := by decide +kernel
theorem dL_law_845 : decode cL_law 845 = .ok (.aload_n 0, 1) := by decide +kernel
theorem dL_law_846 : decode cL_law 846 = .ok (.iload_n 3, 1) := by decide +kernel
theorem dL_law_847 : decode cL_law 847 = .ok (.iconst 1, 1) := by decide +kernel
theorem dL_law_848 : decode cL_law 848 = .ok (.iadd, 1) := by decide +kernel
theorem dL_law_849 : decode cL_law 849 = .ok (.iaload, 1) := by decide +kernel
theorem dL_law_850 : decode cL_law 850 = .ok (.invokevirtual 99, 3) := by decide +kernel
theorem dL_law_853 : decode cL_law 853 = .ok (.if_icmp .eq 445, 3) := by decide +kernel
theorem dL_law_856 : decode cL_law 856 = .ok (.iconst 0, 1) := by decide +kernel
theorem dL_law_857 : decode cL_law 857 = .ok (.ireturn, 1) := by decide +kernel
theorem dL_law_858 : decode cL_law 858 = .ok (.aload_n 1, 1) := by decide +kernel
theorem dL_law_859 : decode cL_law 859 = .ok (.aload_n 0, 1) := by decide +kernel
theorem dL_law_860 : decode cL_law 860 = .ok (.iload_n 3, 1) := by decide +kernel
theorem dL_law_861 : decode cL_law 861 = .ok (.iconst 1, 1) := by decide +kernel
theorem dL_law_862 : decode cL_law 862 = .ok (.iadd, 1) := by decide +kernel
theorem dL_law_863 : decode cL_law 863 = .ok (.iaload, 1) := by decide +kernel
theorem dL_law_864 : decode cL_law 864 = .ok (.aload_n 0, 1) := by decide +kernel
theorem dL_law_865 : decode cL_law 865 = .ok (.iload_n 3, 1) := by decide +kernel
theorem dL_law_866 : decode cL_law 866 = .ok (.iconst 2, 1) := by decide +kernel
theorem dL_law_867 : decode cL_law 867 = .ok (.iadd, 1) := by decide +kernel
theorem dL_law_868 : decode cL_law 868 = .ok (.iaload, 1) := by decide +kernel
theorem dL_law_869 : decode cL_law 869 = .ok (.invokevirtual 100, 3) := by decide +kernel
theorem dL_law_872 : decode cL_law 872 = .ok (.aload_n 2, 1) := by decide +kernel
theorem dL_law_873 : decode cL_law 873 = .ok (.aload_n 0, 1) := by decide +kernel
theorem dL_law_874 : decode cL_law 874 = .ok (.iload_n 3, 1) := by decide +kernel
theorem dL_law_875 : decode cL_law 875 = .ok (.iconst 1, 1) := by decide +kernel
theorem dL_law_876 : decode cL_law 876 = .ok (.iadd, 1) := by decide +kernel
theorem dL_law_877 : decode cL_law 877 = .ok (.iaload, 1) := by decide +kernel
theorem dL_law_878 : decode cL_law 878 = .ok (.aload_n 0, 1) := by decide +kernel
theorem dL_law_879 : decode cL_law 879 = .ok (.iload_n 3, 1) := by decide +kernel
theorem dL_law_880 : decode cL_law 880 = .ok (.iconst 2, 1) := by decide +kernel
theorem dL_law_881 : decode cL_law 881 = .ok (.iadd, 1) := by decide +kernel
theorem dL_law_882 : decode cL_law 882 = .ok (.iaload, 1) := by decide +kernel
theorem dL_law_883 : decode cL_law 883 = .ok (.invokevirtual 103, 3) := by decide +kernel
theorem dL_law_886 : decode cL_law 886 = .ok (.if_icmp .eq 412, 3) := by decide +kernel
theorem dL_law_889 : decode cL_law 889 = .ok (.iconst 0, 1) := by decide +kernel
theorem dL_law_890 : decode cL_law 890 = .ok (.ireturn, 1) := by decide +kernel
theorem dL_law_891 : decode cL_law 891 = .ok (.aload_n 1, 1) := by decide +kernel
theorem dL_law_892 : decode cL_law 892 = .ok (.invokevirtual 104, 3) := by decide +kernel
theorem dL_law_895 : decode cL_law 895 = .ok (.aload_n 2, 1) := by decide +kernel
theorem dL_law_896 : decode cL_law 896 = .ok (.invokevirtual 107, 3) := by decide +kernel
theorem dL_law_899 : decode cL_law 899 = .ok (.if_icmp .eq 399, 3) := by decide +kernel
theorem dL_law_902 : decode cL_law 902 = .ok (.iconst 0, 1) := by decide +kernel
theorem dL_law_903 : decode cL_law 903 = .ok (.ireturn, 1) := by decide +kernel
theorem dL_law_904 : decode cL_law 904 = .ok (.aload_n 1, 1) := by decide +kernel
theorem dL_law_905 : decode cL_law 905 = .ok (.aload_n 0, 1) := by decide +kernel
theorem dL_law_906 : decode cL_law 906 = .ok (.iload_n 3, 1) := by decide +kernel
theorem dL_law_907 : decode cL_law 907 = .ok (.iconst 1, 1) := by decide +kernel
theorem dL_law_908 : decode cL_law 908 = .ok (.iadd, 1) := by decide +kernel
theorem dL_law_909 : decode cL_law 909 = .ok (.iaload, 1) := by decide +kernel
theorem dL_law_910 : decode cL_law 910 = .ok (.aload_n 0, 1) := by decide +kernel
theorem dL_law_911 : decode cL_law 911 = .ok (.iload_n 3, 1) := by decide +kernel
theorem dL_law_912 : decode cL_law 912 = .ok (.iconst 2, 1) := by decide +kernel
theorem dL_law_913 : decode cL_law 913 = .ok (.iadd, 1) := by decide +kernel
theorem dL_law_914 : decode cL_law 914 = .ok (.iaload, 1) := by decide +kernel
theorem dL_law_915 : decode cL_law 915 = .ok (.invokevirtual 108, 3) := by decide +kernel
theorem dL_law_918 : decode cL_law 918 = .ok (.aload_n 2, 1) := by decide +kernel
theorem dL_law_919 : decode cL_law 919 = .ok (.aload_n 0, 1) := by decide +kernel
theorem dL_law_920 : decode cL_law 920 = .ok (.iload_n 3, 1) := by decide +kernel
theorem dL_law_921 : decode cL_law 921 = .ok (.iconst 1, 1) := by decide +kernel
theorem dL_law_922 : decode cL_law 922 = .ok (.iadd, 1) := by decide +kernel
theorem dL_law_923 : decode cL_law 923 = .ok (.iaload, 1) := by decide +kernel
theorem dL_law_924 : decode cL_law 924 = .ok (.aload_n 0, 1) := by decide +kernel
theorem dL_law_925 : decode cL_law 925 = .ok (.iload_n 3, 1) := by decide +kernel
theorem dL_law_926 : decode cL_law 926 = .ok (.iconst 2, 1) := by decide +kernel
theorem dL_law_927 : decode cL_law 927 = .ok (.iadd, 1) := by decide +kernel
theorem dL_law_928 : decode cL_law 928 = .ok (.iaload, 1) := by decide +kernel
theorem dL_law_929 : decode cL_law 929 = .ok (.invokevirtual 111, 3) := by decide +kernel
theorem dL_law_932 : decode cL_law 932 = .ok (.if_icmp .eq 366, 3) := by decide +kernel
theorem dL_law_935 : decode cL_law 935 = .ok (.iconst 0, 1) := by decide +kernel
theorem dL_law_936 : decode cL_law 936 = .ok (.ireturn, 1) := by decide +kernel
theorem dL_law_937 : decode cL_law 937 = .ok (.aload_n 1, 1) := by decide +kernel
theorem dL_law_938 : decode cL_law 938 = .ok (.invokevirtual 112, 3) := by decide +kernel
theorem dL_law_941 : decode cL_law 941 = .ok (.aload_n 2, 1) := by decide +kernel
theorem dL_law_942 : decode cL_law 942 = .ok (.invokevirtual 115, 3) := by decide +kernel
theorem dL_law_945 : decode cL_law 945 = .ok (.if_icmp .eq 353, 3) := by decide +kernel
theorem dL_law_948 : decode cL_law 948 = .ok (.iconst 0, 1) := by decide +kernel
theorem dL_law_949 : decode cL_law 949 = .ok (.ireturn, 1) := by decide +kernel
theorem dL_law_950 : decode cL_law 950 = .ok (.aload_n 1, 1) := by decide +kernel
theorem dL_law_951 : decode cL_law 951 = .ok (.invokevirtual 116, 3) := by decide +kernel
theorem dL_law_954 : decode cL_law 954 = .ok (.aload_n 2, 1) := by decide +kernel
theorem dL_law_955 : decode cL_law 955 = .ok (.invokevirtual 119, 3) := by decide +kernel
theorem dL_law_958 : decode cL_law 958 = .ok (.if_icmp .eq 340, 3) := by decide +kernel
theorem dL_law_961 : decode cL_law 961 = .ok (.iconst 0, 1) := by decide +kernel
theorem dL_law_962 : decode cL_law 962 = .ok (.ireturn, 1) := by decide +kernel
theorem dL_law_963 : decode cL_law 963 = .ok (.aload_n 1, 1) := by decide +kernel
theorem dL_law_964 : decode cL_law 964 = .ok (.aload_n 0, 1) := by decide +kernel
theorem dL_law_965 : decode cL_law 965 = .ok (.iload_n 3, 1) := by decide +kernel
theorem dL_law_966 : decode cL_law 966 = .ok (.iconst 1, 1) := by decide +kernel
theorem dL_law_967 : decode cL_law 967 = .ok (.iadd, 1) := by decide +kernel
theorem dL_law_968 : decode cL_law 968 = .ok (.iaload, 1) := by decide +kernel
theorem dL_law_969 : decode cL_law 969 = .ok (.aload_n 0, 1) := by decide +kernel
theorem dL_law_970 : decode cL_law 970 = .ok (.iload_n 3, 1) := by decide +kernel
theorem dL_law_971 : decode cL_law 971 = .ok (.iconst 2, 1) := by decide +kernel
theorem dL_law_972 : decode cL_law 972 = .ok (.iadd, 1) := by decide +kernel
theorem dL_law_973 : decode cL_law 973 = .ok (.iaload, 1) := by decide +kernel
theorem dL_law_974 : decode cL_law 974 = .ok (.aload_n 0, 1) := by decide +kernel
theorem dL_law_975 : decode cL_law 975 = .ok (.iload_n 3, 1) := by decide +kernel
theorem dL_law_976 : decode cL_law 976 = .ok (.iconst 3, 1) := by decide +kernel
theorem dL_law_977 : decode cL_law 977 = .ok (.iadd, 1) := by decide +kernel
theorem dL_law_978 : decode cL_law 978 = .ok (.iaload, 1) := by decide +kernel
theorem dL_law_979 : decode cL_law 979 = .ok (.invokevirtual 120, 3) := by decide +kernel
theorem dL_law_982 : decode cL_law 982 = .ok (.aload_n 2, 1) := by decide +kernel
theorem dL_law_983 : decode cL_law 983 = .ok (.aload_n 0, 1) := by decide +kernel
theorem dL_law_984 : decode cL_law 984 = .ok (.iload_n 3, 1) := by decide +kernel
theorem dL_law_985 : decode cL_law 985 = .ok (.iconst 1, 1) := by decide +kernel
theorem dL_law_986 : decode cL_law 986 = .ok (.iadd, 1) := by decide +kernel
theorem dL_law_987 : decode cL_law 987 = .ok (.iaload, 1) := by decide +kernel
theorem dL_law_988 : decode cL_law 988 = .ok (.aload_n 0, 1) := by decide +kernel
theorem dL_law_989 : decode cL_law 989 = .ok (.iload_n 3, 1) := by decide +kernel
theorem dL_law_990 : decode cL_law 990 = .ok (.iconst 2, 1) := by decide +kernel
theorem dL_law_991 : decode cL_law 991 = .ok (.iadd, 1) := by decide +kernel
theorem dL_law_992 : decode cL_law 992 = .ok (.iaload, 1) := by decide +kernel
theorem dL_law_993 : decode cL_law 993 = .ok (.aload_n 0, 1) := by decide +kernel
theorem dL_law_994 : decode cL_law 994 = .ok (.iload_n 3, 1) := by decide +kernel
theorem dL_law_995 : decode cL_law 995 = .ok (.iconst 3, 1) := by decide +kernel
theorem dL_law_996 : decode cL_law 996 = .ok (.iadd, 1) := by decide +kernel
theorem dL_law_997 : decode cL_law 997 = .ok (.iaload, 1) := by decide +kernel
theorem dL_law_998 : decode cL_law 998 = .ok (.invokevirtual 123, 3) := by decide +kernel
theorem dL_law_1001 : decode cL_law 1001 = .ok (.if_icmp .eq 297, 3) := by decide +kernel
theorem dL_law_1004 : decode cL_law 1004 = .ok (.iconst 0, 1) := by decide +kernel
theorem dL_law_1005 : decode cL_law 1005 = .ok (.ireturn, 1) := by decide +kernel
theorem dL_law_1006 : decode cL_law 1006 = .ok (.aload_n 1, 1) := by decide +kernel
theorem dL_law_1007 : decode cL_law 1007 = .ok (.aload_n 0, 1) := by decide +kernel
theorem dL_law_1008 : decode cL_law 1008 = .ok (.iload_n 3, 1) := by decide +kernel
theorem dL_law_1009 : decode cL_law 1009 = .ok (.iconst 1, 1) := by decide +kernel
theorem dL_law_1010 : decode cL_law 1010 = .ok (.iadd, 1) := by decide +kernel
theorem dL_law_1011 : decode cL_law 1011 = .ok (.iaload, 1) := by decide +kernel
theorem dL_law_1012 : decode cL_law 1012 = .ok (.invokevirtual 124, 3) := by decide +kernel
theorem dL_law_1015 : decode cL_law 1015 = .ok (.aload_n 2, 1) := by decide +kernel
theorem dL_law_1016 : decode cL_law 1016 = .ok (.aload_n 0, 1) := by decide +kernel
theorem dL_law_1017 : decode cL_law 1017 = .ok (.iload_n 3, 1) := by decide +kernel
theorem dL_law_1018 : decode cL_law 1018 = .ok (.iconst 1, 1) := by decide +kernel
theorem dL_law_1019 : decode cL_law 1019 = .ok (.iadd, 1) := by decide +kernel
theorem dL_law_1020 : decode cL_law 1020 = .ok (.iaload, 1) := by decide +kernel
theorem dL_law_1021 : decode cL_law 1021 = .ok (.invokevirtual 127, 3) := by decide +kernel
theorem dL_law_1024 : decode cL_law 1024 = .ok (.if_icmp .eq 274, 3) := by decide +kernel
theorem dL_law_1027 : decode cL_law 1027 = .ok (.iconst 0, 1) := by decide +kernel
theorem dL_law_1028 : decode cL_law 1028 = .ok (.ireturn, 1) := by decide +kernel
theorem dL_law_1029 : decode cL_law 1029 = .ok (.aload_n 1, 1) := by decide +kernel
theorem dL_law_1030 : decode cL_law 1030 = .ok (.aload_n 0, 1) := by decide +kernel
theorem dL_law_1031 : decode cL_law 1031 = .ok (.iload_n 3, 1) := by decide +kernel
theorem dL_law_1032 : decode cL_law 1032 = .ok (.iconst 1, 1) := by decide +kernel
theorem dL_law_1033 : decode cL_law 1033 = .ok (.iadd, 1) := by decide +kernel
theorem dL_law_1034 : decode cL_law 1034 = .ok (.iaload, 1) := by decide +kernel
theorem dL_law_1035 : decode cL_law 1035 = .ok (.aload_n 0, 1) := by decide +kernel
theorem dL_law_1036 : decode cL_law 1036 = .ok (.iload_n 3, 1) := by decide +kernel
theorem dL_law_1037 : decode cL_law 1037 = .ok (.iconst 2, 1) := by decide +kernel
theorem dL_law_1038 : decode cL_law 1038 = .ok (.iadd, 1) := by decide +kernel
theorem dL_law_1039 : decode cL_law 1039 = .ok (.iaload, 1) := by decide +kernel
theorem dL_law_1040 : decode cL_law 1040 = .ok (.invokevirtual 128, 3) := by decide +kernel
theorem dL_law_1043 : decode cL_law 1043 = .ok (.aload_n 2, 1) := by decide +kernel
theorem dL_law_1044 : decode cL_law 1044 = .ok (.aload_n 0, 1) := by decide +kernel
theorem dL_law_1045 : decode cL_law 1045 = .ok (.iload_n 3, 1) := by decide +kernel
theorem dL_law_1046 : decode cL_law 1046 = .ok (.iconst 1, 1) := by decide +kernel
theorem dL_law_1047 : decode cL_law 1047 = .ok (.iadd, 1) := by decide +kernel
theorem dL_law_1048 : decode cL_law 1048 = .ok (.iaload, 1) := by decide +kernel
theorem dL_law_1049 : decode cL_law 1049 = .ok (.aload_n 0, 1) := by decide +kernel
theorem dL_law_1050 : decode cL_law 1050 = .ok (.iload_n 3, 1) := by decide +kernel
theorem dL_law_1051 : decode cL_law 1051 = .ok (.iconst 2, 1) := by decide +kernel
theorem dL_law_1052 : decode cL_law 1052 = .ok (.iadd, 1) := by decide +kernel
theorem dL_law_1053 : decode cL_law 1053 = .ok (.iaload, 1) := by decide +kernel
theorem dL_law_1054 : decode cL_law 1054 = .ok (.invokevirtual 131, 3) := by decide +kernel
theorem dL_law_1057 : decode cL_law 1057 = .ok (.if_icmp .eq 241, 3) := by decide +kernel
theorem dL_law_1060 : decode cL_law 1060 = .ok (.iconst 0, 1) := by decide +kernel
theorem dL_law_1061 : decode cL_law 1061 = .ok (.ireturn, 1) := by decide +kernel
theorem dL_law_1062 : decode cL_law 1062 = .ok (.aload_n 1, 1) := by decide +kernel
theorem dL_law_1063 : decode cL_law 1063 = .ok (.aload_n 0, 1) := by decide +kernel
theorem dL_law_1064 : decode cL_law 1064 = .ok (.iload_n 3, 1) := by decide +kernel
theorem dL_law_1065 : decode cL_law 1065 = .ok (.iconst 1, 1) := by decide +kernel
theorem dL_law_1066 : decode cL_law 1066 = .ok (.iadd, 1) := by decide +kernel
theorem dL_law_1067 : decode cL_law 1067 = .ok (.iaload, 1) := by decide +kernel
theorem dL_law_1068 : decode cL_law 1068 = .ok (.invokevirtual 132, 3) := by decide +kernel
theorem dL_law_1071 : decode cL_law 1071 = .ok (.aload_n 2, 1) := by decide +kernel
theorem dL_law_1072 : decode cL_law 1072 = .ok (.aload_n 0, 1) := by decide +kernel
theorem dL_law_1073 : decode cL_law 1073 = .ok (.iload_n 3, 1) := by decide +kernel
theorem dL_law_1074 : decode cL_law 1074 = .ok (.iconst 1, 1) := by decide +kernel
theorem dL_law_1075 : decode cL_law 1075 = .ok (.iadd, 1) := by decide +kernel
theorem dL_law_1076 : decode cL_law 1076 = .ok (.iaload, 1) := by decide +kernel
theorem dL_law_1077 : decode cL_law 1077 = .ok (.invokevirtual 135, 3) := by decide +kernel
theorem dL_law_1080 : decode cL_law 1080 = .ok (.if_icmp .eq 218, 3) := by decide +kernel
theorem dL_law_1083 : decode cL_law 1083 = .ok (.iconst 0, 1) := by decide +kernel
theorem dL_law_1084 : decode cL_law 1084 = .ok (.ireturn, 1) := by decide +kernel
theorem dL_law_1085 : decode cL_law 1085 = .ok (.aload_n 1, 1) := by decide +kernel
theorem dL_law_1086 : decode cL_law 1086 = .ok (.aload_n 0, 1) := by decide +kernel
theorem dL_law_1087 : decode cL_law 1087 = .ok (.iload_n 3, 1) := by decide +kernel
theorem dL_law_1088 : decode cL_law 1088 = .ok (.iconst 1, 1) := by decide +kernel
theorem dL_law_1089 : decode cL_law 1089 = .ok (.iadd, 1) := by decide +kernel
theorem dL_law_1090 : decode cL_law 1090 = .ok (.iaload, 1) := by decide +kernel
theorem dL_law_1091 : decode cL_law 1091 = .ok (.aload_n 0, 1) := by decide +kernel
theorem dL_law_1092 : decode cL_law 1092 = .ok (.iload_n 3, 1) := by decide +kernel
theorem dL_law_1093 : decode cL_law 1093 = .ok (.iconst 2, 1) := by decide +kernel
theorem dL_law_1094 : decode cL_law 1094 = .ok (.iadd, 1) := by decide +kernel
theorem dL_law_1095 : decode cL_law 1095 = .ok (.iaload, 1) := by decide +kernel
theorem dL_law_1096 : decode cL_law 1096 = .ok (.aload_n 0, 1) := by decide +kernel
theorem dL_law_1097 : decode cL_law 1097 = .ok (.iload_n 3, 1) := by decide +kernel
theorem dL_law_1098 : decode cL_law 1098 = .ok (.iconst 3, 1) := by decide +kernel
theorem dL_law_1099 : decode cL_law 1099 = .ok (.iadd, 1) := by decide +kernel
theorem dL_law_1100 : decode cL_law 1100 = .ok (.iaload, 1) := by decide +kernel
theorem dL_law_1101 : decode cL_law 1101 = .ok (.invokevirtual 136, 3) := by decide +kernel
theorem dL_law_1104 : decode cL_law 1104 = .ok (.aload_n 2, 1) := by decide +kernel
theorem dL_law_1105 : decode cL_law 1105 = .ok (.aload_n 0, 1) := by decide +kernel
theorem dL_law_1106 : decode cL_law 1106 = .ok (.iload_n 3, 1) := by decide +kernel
theorem dL_law_1107 : decode cL_law 1107 = .ok (.iconst 1, 1) := by decide +kernel
theorem dL_law_1108 : decode cL_law 1108 = .ok (.iadd, 1) := by decide +kernel
theorem dL_law_1109 : decode cL_law 1109 = .ok (.iaload, 1) := by decide +kernel
theorem dL_law_1110 : decode cL_law 1110 = .ok (.aload_n 0, 1) := by decide +kernel
theorem dL_law_1111 : decode cL_law 1111 = .ok (.iload_n 3, 1) := by decide +kernel
theorem dL_law_1112 : decode cL_law 1112 = .ok (.iconst 2, 1) := by decide +kernel
theorem dL_law_1113 : decode cL_law 1113 = .ok (.iadd, 1) := by decide +kernel
theorem dL_law_1114 : decode cL_law 1114 = .ok (.iaload, 1) := by decide +kernel
theorem dL_law_1115 : decode cL_law 1115 = .ok (.aload_n 0, 1) := by decide +kernel
theorem dL_law_1116 : decode cL_law 1116 = .ok (.iload_n 3, 1) := by decide +kernel
theorem dL_law_1117 : decode cL_law 1117 = .ok (.iconst 3, 1) := by decide +kernel
theorem dL_law_1118 : decode cL_law 1118 = .ok (.iadd, 1) := by decide +kernel
theorem dL_law_1119 : decode cL_law 1119 = .ok (.iaload, 1) := by decide +kernel
theorem dL_law_1120 : decode cL_law 1120 = .ok (.invokevirtual 139, 3) := by decide +kernel
theorem dL_law_1123 : decode cL_law 1123 = .ok (.if_icmp .eq 175, 3) := by decide +kernel
theorem dL_law_1126 : decode cL_law 1126 = .ok (.iconst 0, 1) := by decide +kernel
theorem dL_law_1127 : decode cL_law 1127 = .ok (.ireturn, 1) := by decide +kernel
theorem dL_law_1128 : decode cL_law 1128 = .ok (.aload_n 1, 1) := by decide +kernel
theorem dL_law_1129 : decode cL_law 1129 = .ok (.aload_n 0, 1) := by decide +kernel
theorem dL_law_1130 : decode cL_law 1130 = .ok (.iload_n 3, 1) := by decide +kernel
theorem dL_law_1131 : decode cL_law 1131 = .ok (.iconst 1, 1) := by decide +kernel
theorem dL_law_1132 : decode cL_law 1132 = .ok (.iadd, 1) := by decide +kernel
theorem dL_law_1133 : decode cL_law 1133 = .ok (.iaload, 1) := by decide +kernel
theorem dL_law_1134 : decode cL_law 1134 = .ok (.aload_n 0, 1) := by decide +kernel
theorem dL_law_1135 : decode cL_law 1135 = .ok (.iload_n 3, 1) := by decide +kernel
theorem dL_law_1136 : decode cL_law 1136 = .ok (.iconst 2, 1) := by decide +kernel
theorem dL_law_1137 : decode cL_law 1137 = .ok (.iadd, 1) := by decide +kernel
theorem dL_law_1138 : decode cL_law 1138 = .ok (.iaload, 1) := by decide +kernel
theorem dL_law_1139 : decode cL_law 1139 = .ok (.aload_n 0, 1) := by decide +kernel
theorem dL_law_1140 : decode cL_law 1140 = .ok (.iload_n 3, 1) := by decide +kernel
theorem dL_law_1141 : decode cL_law 1141 = .ok (.iconst 3, 1) := by decide +kernel
theorem dL_law_1142 : decode cL_law 1142 = .ok (.iadd, 1) := by decide +kernel
theorem dL_law_1143 : decode cL_law 1143 = .ok (.iaload, 1) := by decide +kernel
theorem dL_law_1144 : decode cL_law 1144 = .ok (.i2l, 1) := by decide +kernel
theorem dL_law_1145 : decode cL_law 1145 = .ok (.bipush 32, 2) := by decide +kernel
theorem dL_law_1147 : decode cL_law 1147 = .ok (.lshl, 1) := by decide +kernel
theorem dL_law_1148 : decode cL_law 1148 = .ok (.aload_n 0, 1) := by decide +kernel
theorem dL_law_1149 : decode cL_law 1149 = .ok (.iload_n 3, 1) := by decide +kernel
theorem dL_law_1150 : decode cL_law 1150 = .ok (.iconst 4, 1) := by decide +kernel
theorem dL_law_1151 : decode cL_law 1151 = .ok (.iadd, 1) := by decide +kernel
theorem dL_law_1152 : decode cL_law 1152 = .ok (.iaload, 1) := by decide +kernel
theorem dL_law_1153 : decode cL_law 1153 = .ok (.i2l, 1) := by decide +kernel
theorem dL_law_1154 : decode cL_law 1154 = .ok (.ldc2_w 140, 3) := by decide +kernel
theorem dL_law_1157 : decode cL_law 1157 = .ok (.land, 1) := by decide +kernel
theorem dL_law_1158 : decode cL_law 1158 = .ok (.lor, 1) := by decide +kernel
theorem dL_law_1159 : decode cL_law 1159 = .ok (.invokevirtual 142, 3) := by decide +kernel
theorem dL_law_1162 : decode cL_law 1162 = .ok (.aload_n 2, 1) := by decide +kernel
theorem dL_law_1163 : decode cL_law 1163 = .ok (.aload_n 0, 1) := by decide +kernel
theorem dL_law_1164 : decode cL_law 1164 = .ok (.iload_n 3, 1) := by decide +kernel
theorem dL_law_1165 : decode cL_law 1165 = .ok (.iconst 1, 1) := by decide +kernel
theorem dL_law_1166 : decode cL_law 1166 = .ok (.iadd, 1) := by decide +kernel
theorem dL_law_1167 : decode cL_law 1167 = .ok (.iaload, 1) := by decide +kernel
theorem dL_law_1168 : decode cL_law 1168 = .ok (.aload_n 0, 1) := by decide +kernel
theorem dL_law_1169 : decode cL_law 1169 = .ok (.iload_n 3, 1) := by decide +kernel
theorem dL_law_1170 : decode cL_law 1170 = .ok (.iconst 2, 1) := by decide +kernel
theorem dL_law_1171 : decode cL_law 1171 = .ok (.iadd, 1) := by decide +kernel
theorem dL_law_1172 : decode cL_law 1172 = .ok (.iaload, 1) := by decide +kernel
theorem dL_law_1173 : decode cL_law 1173 = .ok (.aload_n 0, 1) := by decide +kernel
theorem dL_law_1174 : decode cL_law 1174 = .ok (.iload_n 3, 1) := by decide +kernel
theorem dL_law_1175 : decode cL_law 1175 = .ok (.iconst 3, 1) := by decide +kernel
theorem dL_law_1176 : decode cL_law 1176 = .ok (.iadd, 1) := by decide +kernel
theorem dL_law_1177 : decode cL_law 1177 = .ok (.iaload, 1) := by decide +kernel
theorem dL_law_1178 : decode cL_law 1178 = .ok (.i2l, 1) := by decide +kernel
theorem dL_law_1179 : decode cL_law 1179 = .ok (.bipush 32, 2) := by decide +kernel
theorem dL_law_1181 : decode cL_law 1181 = .ok (.lshl, 1) := by decide +kernel
theorem dL_law_1182 : decode cL_law 1182 = .ok (.aload_n 0, 1) := by decide +kernel
theorem dL_law_1183 : decode cL_law 1183 = .ok (.iload_n 3, 1) := by decide +kernel
theorem dL_law_1184 : decode cL_law 1184 = .ok (.iconst 4, 1) := by decide +kernel
theorem dL_law_1185 : decode cL_law 1185 = .ok (.iadd, 1) := by decide +kernel
theorem dL_law_1186 : decode cL_law 1186 = .ok (.iaload, 1) := by decide +kernel
theorem dL_law_1187 : decode cL_law 1187 = .ok (.i2l, 1) := by decide +kernel
theorem dL_law_1188 : decode cL_law 1188 = .ok (.ldc2_w 140, 3) := by decide +kernel
theorem dL_law_1191 : decode cL_law 1191 = .ok (.land, 1) := by decide +kernel
theorem dL_law_1192 : decode cL_law 1192 = .ok (.lor, 1) := by decide +kernel
theorem dL_law_1193 : decode cL_law 1193 = .ok (.invokevirtual 146, 3) := by decide +kernel
theorem dL_law_1196 : decode cL_law 1196 = .ok (.if_icmp .eq 102, 3) := by decide +kernel
theorem dL_law_1199 : decode cL_law 1199 = .ok (.iconst 0, 1) := by decide +kernel
theorem dL_law_1200 : decode cL_law 1200 = .ok (.ireturn, 1) := by decide +kernel
theorem dL_law_1201 : decode cL_law 1201 = .ok (.aload_n 1, 1) := by decide +kernel
theorem dL_law_1202 : decode cL_law 1202 = .ok (.aload_n 0, 1) := by decide +kernel
theorem dL_law_1203 : decode cL_law 1203 = .ok (.iload_n 3, 1) := by decide +kernel
theorem dL_law_1204 : decode cL_law 1204 = .ok (.iconst 1, 1) := by decide +kernel
theorem dL_law_1205 : decode cL_law 1205 = .ok (.iadd, 1) := by decide +kernel
theorem dL_law_1206 : decode cL_law 1206 = .ok (.iaload, 1) := by decide +kernel
theorem dL_law_1207 : decode cL_law 1207 = .ok (.aload_n 0, 1) := by decide +kernel
theorem dL_law_1208 : decode cL_law 1208 = .ok (.iload_n 3, 1) := by decide +kernel
theorem dL_law_1209 : decode cL_law 1209 = .ok (.iconst 2, 1) := by decide +kernel
theorem dL_law_1210 : decode cL_law 1210 = .ok (.iadd, 1) := by decide +kernel
theorem dL_law_1211 : decode cL_law 1211 = .ok (.iaload, 1) := by decide +kernel
theorem dL_law_1212 : decode cL_law 1212 = .ok (.invokevirtual 147, 3) := by decide +kernel
theorem dL_law_1215 : decode cL_law 1215 = .ok (.aload_n 2, 1) := by decide +kernel
theorem dL_law_1216 : decode cL_law 1216 = .ok (.aload_n 0, 1) := by decide +kernel
theorem dL_law_1217 : decode cL_law 1217 = .ok (.iload_n 3, 1) := by decide +kernel
theorem dL_law_1218 : decode cL_law 1218 = .ok (.iconst 1, 1) := by decide +kernel
theorem dL_law_1219 : decode cL_law 1219 = .ok (.iadd, 1) := by decide +kernel
theorem dL_law_1220 : decode cL_law 1220 = .ok (.iaload, 1) := by decide +kernel
theorem dL_law_1221 : decode cL_law 1221 = .ok (.aload_n 0, 1) := by decide +kernel
theorem dL_law_1222 : decode cL_law 1222 = .ok (.iload_n 3, 1) := by decide +kernel
theorem dL_law_1223 : decode cL_law 1223 = .ok (.iconst 2, 1) := by decide +kernel
theorem dL_law_1224 : decode cL_law 1224 = .ok (.iadd, 1) := by decide +kernel
theorem dL_law_1225 : decode cL_law 1225 = .ok (.iaload, 1) := by decide +kernel
theorem dL_law_1226 : decode cL_law 1226 = .ok (.invokevirtual 150, 3) := by decide +kernel
theorem dL_law_1229 : decode cL_law 1229 = .ok (.lcmp, 1) := by decide +kernel
theorem dL_law_1230 : decode cL_law 1230 = .ok (.ifCond .eq 68, 3) := by decide +kernel
theorem dL_law_1233 : decode cL_law 1233 = .ok (.iconst 0, 1) := by decide +kernel
theorem dL_law_1234 : decode cL_law 1234 = .ok (.ireturn, 1) := by decide +kernel
theorem dL_law_1235 : decode cL_law 1235 = .ok (.aload_n 1, 1) := by decide +kernel
theorem dL_law_1236 : decode cL_law 1236 = .ok (.aload_n 0, 1) := by decide +kernel
theorem dL_law_1237 : decode cL_law 1237 = .ok (.iload_n 3, 1) := by decide +kernel
theorem dL_law_1238 : decode cL_law 1238 = .ok (.iconst 1, 1) := by decide +kernel
theorem dL_law_1239 : decode cL_law 1239 = .ok (.iadd, 1) := by decide +kernel
theorem dL_law_1240 : decode cL_law 1240 = .ok (.iaload, 1) := by decide +kernel
theorem dL_law_1241 : decode cL_law 1241 = .ok (.aload_n 0, 1) := by decide +kernel
theorem dL_law_1242 : decode cL_law 1242 = .ok (.iload_n 3, 1) := by decide +kernel
theorem dL_law_1243 : decode cL_law 1243 = .ok (.iconst 2, 1) := by decide +kernel
theorem dL_law_1244 : decode cL_law 1244 = .ok (.iadd, 1) := by decide +kernel
theorem dL_law_1245 : decode cL_law 1245 = .ok (.iaload, 1) := by decide +kernel
theorem dL_law_1246 : decode cL_law 1246 = .ok (.aload_n 0, 1) := by decide +kernel
theorem dL_law_1247 : decode cL_law 1247 = .ok (.iload_n 3, 1) := by decide +kernel
theorem dL_law_1248 : decode cL_law 1248 = .ok (.iconst 3, 1) := by decide +kernel
theorem dL_law_1249 : decode cL_law 1249 = .ok (.iadd, 1) := by decide +kernel
theorem dL_law_1250 : decode cL_law 1250 = .ok (.iaload, 1) := by decide +kernel
theorem dL_law_1251 : decode cL_law 1251 = .ok (.aload_n 0, 1) := by decide +kernel
theorem dL_law_1252 : decode cL_law 1252 = .ok (.iload_n 3, 1) := by decide +kernel
theorem dL_law_1253 : decode cL_law 1253 = .ok (.iconst 4, 1) := by decide +kernel
theorem dL_law_1254 : decode cL_law 1254 = .ok (.iadd, 1) := by decide +kernel
theorem dL_law_1255 : decode cL_law 1255 = .ok (.iaload, 1) := by decide +kernel
theorem dL_law_1256 : decode cL_law 1256 = .ok (.aload_n 0, 1) := by decide +kernel
theorem dL_law_1257 : decode cL_law 1257 = .ok (.iload_n 3, 1) := by decide +kernel
theorem dL_law_1258 : decode cL_law 1258 = .ok (.iconst 5, 1) := by decide +kernel
theorem dL_law_1259 : decode cL_law 1259 = .ok (.iadd, 1) := by decide +kernel
theorem dL_law_1260 : decode cL_law 1260 = .ok (.iaload, 1) := by decide +kernel
theorem dL_law_1261 : decode cL_law 1261 = .ok (.invokevirtual 151, 3) := by decide +kernel
theorem dL_law_1264 : decode cL_law 1264 = .ok (.aload_n 2, 1) := by decide +kernel
theorem dL_law_1265 : decode cL_law 1265 = .ok (.aload_n 0, 1) := by decide +kernel
theorem dL_law_1266 : decode cL_law 1266 = .ok (.iload_n 3, 1) := by decide +kernel
theorem dL_law_1267 : decode cL_law 1267 = .ok (.iconst 1, 1) := by decide +kernel
theorem dL_law_1268 : decode cL_law 1268 = .ok (.iadd, 1) := by decide +kernel
theorem dL_law_1269 : decode cL_law 1269 = .ok (.iaload, 1) := by decide +kernel
theorem dL_law_1270 : decode cL_law 1270 = .ok (.aload_n 0, 1) := by decide +kernel
theorem dL_law_1271 : decode cL_law 1271 = .ok (.iload_n 3, 1) := by decide +kernel
theorem dL_law_1272 : decode cL_law 1272 = .ok (.iconst 2, 1) := by decide +kernel
theorem dL_law_1273 : decode cL_law 1273 = .ok (.iadd, 1) := by decide +kernel
theorem dL_law_1274 : decode cL_law 1274 = .ok (.iaload, 1) := by decide +kernel
theorem dL_law_1275 : decode cL_law 1275 = .ok (.aload_n 0, 1) := by decide +kernel
theorem dL_law_1276 : decode cL_law 1276 = .ok (.iload_n 3, 1) := by decide +kernel
theorem dL_law_1277 : decode cL_law 1277 = .ok (.iconst 3, 1) := by decide +kernel
theorem dL_law_1278 : decode cL_law 1278 = .ok (.iadd, 1) := by decide +kernel
theorem dL_law_1279 : decode cL_law 1279 = .ok (.iaload, 1) := by decide +kernel
theorem dL_law_1280 : decode cL_law 1280 = .ok (.aload_n 0, 1) := by decide +kernel
theorem dL_law_1281 : decode cL_law 1281 = .ok (.iload_n 3, 1) := by decide +kernel
theorem dL_law_1282 : decode cL_law 1282 = .ok (.iconst 4, 1) := by decide +kernel
theorem dL_law_1283 : decode cL_law 1283 = .ok (.iadd, 1) := by decide +kernel
theorem dL_law_1284 : decode cL_law 1284 = .ok (.iaload, 1) := by decide +kernel
theorem dL_law_1285 : decode cL_law 1285 = .ok (.aload_n 0, 1) := by decide +kernel
theorem dL_law_1286 : decode cL_law 1286 = .ok (.iload_n 3, 1) := by decide +kernel
theorem dL_law_1287 : decode cL_law 1287 = .ok (.iconst 5, 1) := by decide +kernel
theorem dL_law_1288 : decode cL_law 1288 = .ok (.iadd, 1) := by decide +kernel
theorem dL_law_1289 : decode cL_law 1289 = .ok (.iaload, 1) := by decide +kernel
theorem dL_law_1290 : decode cL_law 1290 = .ok (.invokevirtual 155, 3) := by decide +kernel
theorem dL_law_1293 : decode cL_law 1293 = .ok (.if_icmp .eq 5, 3) := by decide +kernel
theorem dL_law_1296 : decode cL_law 1296 = .ok (.iconst 0, 1) := by decide +kernel
theorem dL_law_1297 : decode cL_law 1297 = .ok (.ireturn, 1) := by decide +kernel
theorem dL_law_1298 : decode cL_law 1298 = .ok (.iinc 3 6, 3) := by decide +kernel
theorem dL_law_1301 : decode cL_law 1301 = .ok (.goto (-1283), 3) := by decide +kernel
theorem dL_law_1304 : decode cL_law 1304 = .ok (.iconst 1, 1) := by decide +kernel
theorem dL_law_1305 : decode cL_law 1305 = .ok (.ireturn, 1) := by decide +kernel
end
section
/-! virtual addresses: each cell of the two systems by kind, instance, index; in the order of their making -/
abbrev VA : Type := Nat × Nat × Nat
def vaL : List VA := [(0, 0, 0), (1, 0, 0), (2, 0, 0), (3, 0, 0), (3, 0, 1), (3, 0, 2), (4, 0, 0), (5, 0, 0), (6, 0, 0), (7, 0, 0), (8, 0, 0), (9, 0, 0), (10, 0, 0), (9, 0, 1), (10, 0, 1), (9, 0, 2), (10, 0, 2), (9, 0, 3), (10, 0, 3), (9, 0, 4), (10, 0, 4), (9, 0, 5), (10, 0, 5), (11, 0, 0), (11, 0, 1), (11, 0, 2), (11, 0, 3), (11, 0, 4), (11, 0, 5), (11, 0, 6), (11, 0, 7), (6, 1, 0), (7, 1, 0), (8, 1, 0), (9, 1, 0), (10, 1, 0), (9, 1, 1), (10, 1, 1), (9, 1, 2), (10, 1, 2), (9, 1, 3), (10, 1, 3), (9, 1, 4), (10, 1, 4), (9, 1, 5), (10, 1, 5), (11, 1, 0), (11, 1, 1), (11, 1, 2), (11, 1, 3), (11, 1, 4), (11, 1, 5), (11, 1, 6), (11, 1, 7), (6, 2, 0), (7, 2, 0), (8, 2, 0), (9, 2, 0), (10, 2, 0), (9, 2, 1), (10, 2, 1), (9, 2, 2), (10, 2, 2), (9, 2, 3), (10, 2, 3), (9, 2, 4), (10, 2, 4), (9, 2, 5), (10, 2, 5), (11, 2, 0), (11, 2, 1), (11, 2, 2), (11, 2, 3), (11, 2, 4), (11, 2, 5), (11, 2, 6), (11, 2, 7), (12, 0, 0), (13, 0, 0), (14, 0, 0), (15, 0, 0), (16, 0, 0), (13, 0, 1), (14, 0, 1), (15, 0, 1), (16, 0, 1), (13, 0, 2), (14, 0, 2), (15, 0, 2), (16, 0, 2), (13, 0, 3), (14, 0, 3), (15, 0, 3), (16, 0, 3), (12, 1, 0), (13, 1, 0), (14, 1, 0), (15, 1, 0), (16, 1, 0), (13, 1, 1), (14, 1, 1), (15, 1, 1), (16, 1, 1), (13, 1, 2), (14, 1, 2), (15, 1, 2), (16, 1, 2), (13, 1, 3), (14, 1, 3), (15, 1, 3), (16, 1, 3), (17, 0, 0), (18, 0, 0), (19, 0, 0), (2, 1, 0), (3, 1, 0), (3, 1, 1), (3, 1, 2), (2, 2, 0), (3, 2, 0), (3, 2, 1), (3, 2, 2), (2, 3, 0), (3, 3, 0), (3, 3, 1), (3, 3, 2), (2, 4, 0), (3, 4, 0), (3, 4, 1), (3, 4, 2), (2, 5, 0), (3, 5, 0), (3, 5, 1), (3, 5, 2), (2, 6, 0), (3, 6, 0), (3, 6, 1), (3, 6, 2), (20, 0, 0), (21, 0, 0), (20, 1, 0), (21, 1, 0), (20, 2, 0), (21, 2, 0), (20, 3, 0), (21, 3, 0), (20, 4, 0), (21, 4, 0), (20, 5, 0), (21, 5, 0), (22, 0, 0), (23, 0, 0), (23, 1, 0), (23, 2, 0), (23, 4, 0), (23, 6, 0), (23, 7, 0), (23, 9, 0), (23, 16, 0), (23, 17, 0), (23, 18, 0), (23, 19, 0), (23, 20, 0), (23, 21, 0), (23, 22, 0), (23, 23, 0), (23, 24, 0), (23, 26, 0), (23, 27, 0), (23, 28, 0), (23, 29, 0)]
abbrev NN : Nat := 171
abbrev nC : Nat := 150
theorem vaL_len : vaL.length = NN := by decide +kernel
theorem vaL_nd : vaL.Nodup := by decide +kernel
abbrev PHp : Type := VA → va_E
abbrev Cxt : Type := Program × Env × Room × State × MethodId × Array Value × List Frame × Method × Code
/-- what stays the whole run through: the classes, the array classes, the first cell's address, the Strings' addresses -/
abbrev GG : Type := va_G × (Nat → ClassId) × Nat × (Nat → Nat) × (Nat → Nat)
def bG (g : GG) : Nat := g.2.2.1
def ad (a : VA) : Nat := vaL.idxOf a
def vaT (j : Nat) : VA := vaL.getD j (99, 0, 0)
def Ok (a : VA) (n : Nat) : Prop := ad a < n ∧ ad a < NN
def rf (g : GG) (a : VA) : Value := .ref (bG g + ad a)
def wl (g : GG) (PH : PHp) (n : Nat) : va_W := (List.range n).map fun j => (bG g + j, PH (vaT j))
def up (PH : PHp) (a : VA) (e : va_E) : PHp := fun q => if q = a then e else PH q
theorem ad_vaT : ∀ j, j < NN → ad (vaT j) = j := by decide +kernel
theorem vaT_ad {a : VA} (h : ad a < NN) : vaT (ad a) = a := by
  have h' : vaL.idxOf a < vaL.length := by rw [vaL_len]; exact h
  unfold vaT ad
  rw [List.getD_eq_getElem?_getD, List.getElem?_eq_getElem h', Option.getD_some, List.getElem_idxOf]
theorem vaT_ne {a : VA} {j : Nat} (h : ad a < NN) (hj : j ≠ ad a) : vaT j ≠ a := by
  intro q
  by_cases hl : j < NN
  · exact hj (by rw [← q, ad_vaT j hl])
  · have e : vaT j = (99, 0, 0) := by
      unfold vaT
      rw [List.getD_eq_getElem?_getD, List.getElem?_eq_none (by rw [vaL_len]; omega)]
      rfl
    rw [← q, e] at h
    exact absurd h (by decide +kernel)
theorem up_eq {PH : PHp} {a : VA} {e : va_E} : up PH a e a = e := if_pos rfl
theorem up_ne {PH : PHp} {a q : VA} {e : va_E} (h : q ≠ a) : up PH a e q = PH q := if_neg h
theorem wl_at {g : GG} {PH : PHp} {n : Nat} {a : VA} (h : Ok a n) : (wl g PH n)[ad a]? = some (bG g + ad a, PH a) := by
  unfold wl
  rw [List.getElem?_map, List.getElem?_range h.1, Option.map_some, vaT_ad h.2]
theorem wl_len {g : GG} {PH : PHp} {n : Nat} : (wl g PH n).length = n := by simp [wl]
theorem wl_get {g : GG} {PH : PHp} {n j : Nat} (h : j < n) : (wl g PH n)[j]? = some (bG g + j, PH (vaT j)) := by
  unfold wl
  rw [List.getElem?_map, List.getElem?_range h, Option.map_some]
theorem wl_set {g : GG} {PH : PHp} {n : Nat} {a : VA} {e : va_E} (h : Ok a n) : (wl g PH n).set (ad a) (bG g + ad a, e) = wl g (up PH a e) n := by
  apply List.ext_getElem?
  intro j
  by_cases hj : j = ad a
  · subst hj
    rw [List.getElem?_set_self (by rw [wl_len]; exact h.1), wl_at h, up_eq]
  · rw [List.getElem?_set_ne (Ne.symm hj)]
    by_cases hn : j < n
    · rw [wl_get hn, wl_get hn, up_ne (vaT_ne h.2 hj)]
    · rw [List.getElem?_eq_none (by rw [wl_len]; omega), List.getElem?_eq_none (by rw [wl_len]; omega)]
theorem wl_push {g : GG} {PH : PHp} {n : Nat} {e : va_E} (hn : n < NN) : wl g PH n ++ [(bG g + n, e)] = wl g (up PH (vaT n) e) (n + 1) := by
  have hv := ad_vaT n hn
  apply List.ext_getElem?
  intro j
  by_cases hl : j < n
  · rw [List.getElem?_append_left (by rw [wl_len]; exact hl), wl_get hl, wl_get (by omega), up_ne (vaT_ne (by rw [hv]; exact hn) (by rw [hv]; omega))]
  · rw [List.getElem?_append_right (by rw [wl_len]; omega), wl_len]
    by_cases hj : j = n
    · subst hj
      rw [wl_get (by omega), Nat.sub_self, up_eq]
      rfl
    · rw [List.getElem?_eq_none (by simp; omega), List.getElem?_eq_none (by rw [wl_len]; omega)]
theorem wl_D {g : GG} {PH : PHp} {n : Nat} : va_D (fun q => bG g ≤ q) (wl g PH n) := by
  have key : ∀ (k : Nat) (q : Nat × va_E), (wl g PH n)[k]? = some q → q.1 = bG g + k := by
    intro k q h
    have hk : k < n := by
      have := (List.getElem?_eq_some_iff.mp h).1
      rw [wl_len] at this
      exact this
    rw [wl_get hk] at h
    cases h
    rfl
  exact ⟨fun i j p q hi hj e => by rw [key i p hi, key j q hj] at e; omega, fun k q h => by show bG g ≤ q.1; rw [key k q h]; omega⟩
/-- the heap: the first n cells of the system hold PH -/
def HP (g : GG) (PH : PHp) (n : Nat) (H : Heap) : Prop := H.size = bG g + n ∧ va_P g.1 vwCl (wl g PH n) H
def tysL (cx : Nat → ClassId) : List (ClassId × FieldType) := [(cx 0, .int), (cx 1, .byte), (cx 2, .char), (cx 3, .long), (cx 4, .object RX0), (cx 5, .object RX4), (cx 6, .object RX5), (cx 7, .object RX7)]
def KK (g : GG) (U : State) : Prop := va_K g.1 vwCl (tysL g.2.1) U
def idxS (i : Nat) : Nat := [35, 48, 50, 66, 72].getD i 0
def txS (i : Nat) : String := ["ub ", "irm ", "eak ", "pkvscd", "<=>"].getD i ""
def lenS : List Nat := [3, 4, 4, 6, 3]
def bytS : List (List Int32) := [[117, 98, 32], [105, 114, 109, 32], [101, 97, 107, 32], [112, 107, 118, 115, 99, 100], [60, 61, 62]]
/-- the Strings, and what the JDK's statics hold -/
def SK (g : GG) (U : State) (H : Heap) : Prop := vk_S 5 lenS bytS g.2.2.2.1 g.2.2.2.2 (fun q => bG g ≤ q) U H ∧ va_Z "java/lang/String" "COMPACT_STRINGS" "Z" (.int 1) (fun q => bG g ≤ q) U H ∧ va_Zq "jdk/internal/util/Preconditions" "SIOOBE_FORMATTER" "Ljava/util/function/BiFunction;" (fun q => bG g ≤ q) U H
theorem SK.moved {g : GG} {u U : State} {H : Heap} (hvm : u.vm.Alike U.vm) (h : SK g u H) : SK g U H := ⟨vk_S.moved hvm h.1, va_Z.moved hvm h.2.1, va_Zq.moved hvm h.2.2⟩
theorem SK.kept {g : GG} {U : State} {H H1 : Heap} (h : SK g U H) (hq : ∀ a : Nat, a < H.size → ¬ bG g ≤ a → H1[a]? = H[a]?) : SK g U H1 := ⟨vk_S.kept h.1 hq, va_Z.kept h.2.1 hq, va_Zq.kept h.2.2 hq⟩
/-- the links to nest mates' private methods, the arrays of objects: words that don't ride in a contract's list -/
def nests : List (String × Nat × MethodName × String) := [(RX9, 17, yX0_init, RX9), (RX9, 24, yX2_init, RX9), (RX8, 40, yX4_init, RX9), (RX9, 46, yX1_init, RX9), (RX9, 56, yX6_init, RX9), (RX9, 75, yX5_init, RX9), (RX9, 257, yX6_nods, RX9), (RX9, 261, yX6_knocks, RX9), (RX9, 264, yX6_tells, RX9)]
def aos : List String := [RX0, RX7, RX4, RX5]
def NW (U : State) : Prop := (∀ q ∈ nests, va_Nw (.methodLinkNest q.1 q.2.1 q.2.2.1 q.2.2.2) U) ∧ ∀ C ∈ aos, va_AO C U
theorem NW.warm {s U : State} (hW : s.WarmedH U.vm) (h : NW s) : NW U := ⟨fun q hq => va_Nw.warmM hW (h.1 q hq), fun C hC => va_AO.moved hW.alike (h.2 C hC)⟩
theorem NW.same {u U : State} (hv : u.vm = U.vm) (h : NW u) : NW U := ⟨fun q hq => va_Nw.same rfl hv (h.1 q hq), fun C hC => va_AO.moved (by rw [hv]; exact Vm.Alike.refl _) (h.2 C hC)⟩
def SR (g : GG) (U : State) : Prop := (∀ i, i < 5 → vk_R RX2 (idxS i) (txS i) (g.2.2.2.1 i) U) ∧ NW U
theorem SR.warm {g : GG} {s U : State} (hW : s.WarmedH U.vm) (h : SR g s) : SR g U := ⟨fun i hi => vk_R.warm hW (h.1 i hi), h.2.warm hW⟩
theorem SR.same {g : GG} {u U : State} (hv : u.vm = U.vm) (h : SR g u) : SR g U := ⟨fun i hi => vk_R.same hv.symm (h.1 i hi), h.2.same hv⟩
/-- the words that ride in every contract -/
def gws : List Cond := lw_tbl.filter goodWord
theorem gws_of {w : Cond} (h : w ∈ lw_tbl) (hg : goodWord w = true) : w ∈ gws := List.mem_filter.mpr ⟨h, hg⟩
theorem gws_in : ∀ w ∈ gws, w ∈ lw_tbl := fun _ h => (List.mem_filter.mp h).1
theorem gw_all : GoodIn gws gws := fun w hw => ⟨hw, good_of_word (List.mem_filter.mp hw).2⟩
def RP (g : GG) (PH : PHp) (n : Nat) (U : State) : Prop := HP g PH n U.heap ∧ KK g U ∧ SK g U U.heap ∧ SR g U
/-- what holds in a method's body from its entry on -/
def Cx (Γ : Cxt) (g : GG) (cc : ByteArray) (y : MethodName) (nL : Nat) (ret : Option FieldType) (lvl mc ms : Nat) : Prop :=
  match Γ with
  | (p, _, R, s, m, args, _, meth, c) => p.tables.exec = Jvm.exec ∧ c.code = cc ∧ c.maxLocals = nL ∧ s.vm.findClass y.cls = some m.cls ∧ (∀ w ∈ gws, w.before args s = true) ∧ KK g s ∧ bG g ≤ s.heap.size ∧ meth.locks = false ∧ meth.sig.returnType = ret ∧ SK g s s.heap ∧ SR g s ∧ (y.name = "<init>" → meth.name = "<init>") ∧ lvl ≤ R.frames ∧ 40 * lvl ≤ R.locals ∧ mc ≤ R.cells ∧ ms ≤ R.slots
/-- locals by their numbers -/
def lvL : Nat → List (Option Value) → List (Nat × Value)
  | _, [] => []
  | i, none :: t => lvL (i + 1) t
  | i, some v :: t => (i, v) :: lvL (i + 1) t
theorem lvL_mem : ∀ (lv : List (Option Value)) (i j : Nat) (v : Value), (j, v) ∈ lvL i lv ↔ i ≤ j ∧ lv[j - i]? = some (some v)
  | [], i, j, v => by simp [lvL]
  | none :: t, i, j, v => by
    rw [lvL, lvL_mem t (i + 1) j v]
    constructor
    · rintro ⟨h1, h2⟩
      refine ⟨by omega, ?_⟩
      rw [show j - i = (j - (i + 1)) + 1 by omega, List.getElem?_cons_succ]
      exact h2
    · rintro ⟨h1, h2⟩
      by_cases e : j = i
      · subst e; simp at h2
      · refine ⟨by omega, ?_⟩
        rw [show j - i = (j - (i + 1)) + 1 by omega, List.getElem?_cons_succ] at h2
        exact h2
  | some w :: t, i, j, v => by
    rw [lvL, List.mem_cons, lvL_mem t (i + 1) j v]
    constructor
    · rintro (h | ⟨h1, h2⟩)
      · cases h; simp
      · refine ⟨by omega, ?_⟩
        rw [show j - i = (j - (i + 1)) + 1 by omega, List.getElem?_cons_succ]
        exact h2
    · rintro ⟨h1, h2⟩
      by_cases e : j = i
      · subst e; simp at h2; exact Or.inl (by rw [h2])
      · refine Or.inr ⟨by omega, ?_⟩
        rw [show j - i = (j - (i + 1)) + 1 by omega, List.getElem?_cons_succ] at h2
        exact h2
def LV (ls : Array Slot) (nL : Nat) (lv : List (Option Value)) : Prop := lv_has ls nL (lvL 0 lv)
theorem LV.get {ls : Array Slot} {nL : Nat} {lv : List (Option Value)} (h : LV ls nL lv) {i : Nat} {v : Value} (hv : lv[i]? = some (some v)) : ls[i]? = some (.val v) :=
  h.2.2 (i, v) ((lvL_mem lv 0 i v).mpr ⟨Nat.zero_le i, hv⟩)
/-- no long lies across place i -/
def c2 (lv : List (Option Value)) (i : Nat) : Bool := match i with
  | 0 => true
  | k + 1 => match lv[k]? with
    | some (some w) => w.category == 1
    | _ => true
theorem LV.set1 {ls' : Array Slot} {nL i : Nat} {lv : List (Option Value)} {v : Value} (h2 : c2 lv i = true)
    (h : lv_has ls' nL ((i, v) :: (lvL 0 lv).filter (fun q => !(q.1 == i) && !(q.1 + 1 == i && q.2.category == 2)))) : LV ls' nL (lv.set i (some v)) := by
  refine ⟨h.1, h.2.1, ?_⟩
  rintro ⟨j, w⟩ hm
  obtain ⟨-, hq⟩ := (lvL_mem _ 0 j w).mp hm
  rw [Nat.sub_zero] at hq
  by_cases e : j = i
  · subst e
    have hl : j < lv.length := by
      have := (List.getElem?_eq_some_iff.mp hq).1
      simpa using this
    rw [List.getElem?_set_self hl] at hq
    cases hq
    exact h.2.2 (j, v) List.mem_cons_self
  · rw [List.getElem?_set_ne (Ne.symm e)] at hq
    refine h.2.2 (j, w) (List.mem_cons_of_mem _ (List.mem_filter.mpr ⟨(lvL_mem lv 0 j w).mpr ⟨Nat.zero_le j, hq⟩, ?_⟩))
    have e1 : (j == i) = false := by simpa using e
    by_cases e2 : j + 1 = i
    · subst e2
      have h3 : (match lv[j]? with
        | some (some w) => w.category == 1
        | _ => true) = true := h2
      rw [hq] at h3
      have w1 : w.category = 1 := by simpa using h3
      simp [e1, w1]
    · simp [e1, e2]
theorem LV.set2 {ls' : Array Slot} {nL i : Nat} {lv : List (Option Value)} {v : Value} (h2 : c2 lv i = true)
    (h : lv_has ls' nL ((i, v) :: (lvL 0 lv).filter (fun q => !(q.1 == i) && (!(q.1 == i + 1) && !(q.1 + 1 == i && q.2.category == 2))))) : LV ls' nL ((lv.set i (some v)).set (i + 1) none) := by
  refine ⟨h.1, h.2.1, ?_⟩
  rintro ⟨j, w⟩ hm
  obtain ⟨-, hq⟩ := (lvL_mem _ 0 j w).mp hm
  rw [Nat.sub_zero] at hq
  by_cases e3 : j = i + 1
  · subst e3
    by_cases hl : i + 1 < (lv.set i (some v)).length
    · rw [List.getElem?_set_self hl] at hq
      cases hq
    · rw [List.getElem?_eq_none (by simpa using hl)] at hq
      cases hq
  rw [List.getElem?_set_ne (Ne.symm e3)] at hq
  by_cases e : j = i
  · subst e
    have hl : j < lv.length := by
      have := (List.getElem?_eq_some_iff.mp hq).1
      simpa using this
    rw [List.getElem?_set_self hl] at hq
    cases hq
    exact h.2.2 (j, v) List.mem_cons_self
  · rw [List.getElem?_set_ne (Ne.symm e)] at hq
    refine h.2.2 (j, w) (List.mem_cons_of_mem _ (List.mem_filter.mpr ⟨(lvL_mem lv 0 j w).mpr ⟨Nat.zero_le j, hq⟩, ?_⟩))
    have e1 : (j == i) = false := by simpa using e
    have e4 : (j == i + 1) = false := by simpa using e3
    by_cases e2 : j + 1 = i
    · subst e2
      have h3 : (match lv[j]? with
        | some (some w) => w.category == 1
        | _ => true) = true := h2
      rw [hq] at h3
      have w1 : w.category = 1 := by simpa using h3
      simp [e1, e4, w1]
    · simp [e1, e2, e4]
/-- the method, now at pc with these locals and this stack over the heap PH, comes to a state with Q -/
def V (l : Launch) (Γ : Cxt) (g : GG) (nL : Nat) (Q : State → Prop) (cells slots n : Nat) (PH : PHp) (pc : Nat) (lv : List (Option Value)) (st : List Value) : Prop :=
  match Γ with
  | (p, e, R, s, m, args, below, meth, c) => ∀ (H : Heap) (locs : List Loc) (ls : Array Slot), HP g PH n H → va_S (fun q => bG g ≤ q) s.heap H locs → LV ls nL lv → W p l e R s m args below meth c H locs cells slots Q (F0 m pc ls st)
def QC (g : GG) (post : Option Value → PHp → Nat → Prop) : Array Value → State → Outcome → State → Prop := fun _ st oc t => (∃ (v : Option Value) (PH : PHp) (n : Nat), oc = .returned v ∧ post v PH n ∧ HP g PH n t.heap) ∧ va_F (fun q => bG g ≤ q) st t
def QM (Γ : Cxt) (g : GG) (post : Option Value → PHp → Nat → Prop) (mc ms : Nat) : State → Prop :=
  match Γ with
  | (_, _, _, s, _, args, below, _, _) => MQ below (QC g post) args s mc ms (fun q => bG g ≤ q)
abbrev rmL (lvl mc ms : Nat) : Room := { frames := lvl, cells := mc, slots := ms, locals := 40 * lvl }
/-- a method's contract -/
def Ct (l : Launch) (g : GG) (y : MethodName) (cc : ByteArray) (nL : Nat) (ret : Option FieldType) (lvl mc ms : Nat) (av : List Value) (n : Nat) (PH : PHp) (post : Option Value → PHp → Nat → Prop) : Prop :=
  Met l y (.code y cc nL ret :: gws) (rmL lvl mc ms) (va_Pc av (RP g PH n)) (QC g post) mc ms (fun q => bG g ≤ q)
set_option maxHeartbeats 1000000 in
theorem Ct.of {l : Launch} {g : GG} {y : MethodName} {cc : ByteArray} {nL : Nat} {ret : Option FieldType} {lvl mc ms : Nat} {av : List Value} {n : Nat} {PH : PHp} {post : Option Value → PHp → Nat → Prop} {lv : List (Option Value)}
    (hy : plainName y.cls = true) (hlv : lvL 0 lv = lv_args 0 av) (hlen : (lg_sl av).length ≤ nL)
    (h : ∀ Γ, Cx Γ g cc y nL ret lvl mc ms → V l Γ g nL (QM Γ g post mc ms) 0 0 n PH 0 lv []) : Ct l g y cc nL ret lvl mc ms av n PH post := by
  refine Met.ofW (cc := cc) (maxL := nL) (ret := ret) hy rfl ?_
  intro p e s m args below meth c s₁ B hml hv
  obtain ⟨rfl, hH, hK, hSK, hSR⟩ := hv
  have hts := atoms_spec (ws := .code y cc nL ret :: gws) B.pre
  have hown : s.vm.findClass y.cls = some m.cls := findClass_of_methodNamed B.named
  have hnm : meth.name = y.name := (name_of_methodNamed B.named B.method).1
  have hC : Cx (p, e, (rmL lvl mc ms), s, m, av.toArray, below, meth, c) g cc y nL ret lvl mc ms :=
    ⟨B.exec, B.bytes, hml, hown, fun w hw => hts w (List.mem_cons_of_mem _ hw), hK, by have := hH.1; omega, B.notSynchronized, B.returns, hSK, hSR, fun q => hnm.trans q, Nat.le_refl _, Nat.le_refl _, Nat.le_refl _, Nat.le_refl _⟩
  have h1 := h _ hC
  have hl := lv_entry av (n := nL) hlen
  rw [lg_entry_eq]
  exact h1 _ _ _ hH va_S.rf (by unfold LV; rw [hlv]; exact hl)
end
section
section VROWS
variable {l : Launch} {Γ : Cxt} {g : GG} {cc : ByteArray} {y : MethodName} {nL : Nat} {ret : Option FieldType} {lvl mc ms : Nat} {Q : State → Prop} {cells slots n : Nat} {PH PH1 : PHp} {pc q : Nat} {lv : List (Option Value)} {st : List Value}
theorem V.iconst {z : Int} {v : Int32} (C : Cx Γ g cc y nL ret lvl mc ms) (d : decode cc pc = .ok (.iconst z, 1)) (hq : pc + 1 = q) (hv : Int32.ofInt z = v) (k : V l Γ g nL Q cells slots n PH q lv (.int v :: st)) : V l Γ g nL Q cells slots n PH pc lv (st) := by
  obtain ⟨p, e, R, s, m, args, below, meth, c⟩ := Γ
  subst hq
  intro H locs ls hH hS hL
  exact lv_iconst C.1 C.2.1 d hv (k H locs ls hH hS hL)
theorem V.bipush {z : Int} {v : Int32} (C : Cx Γ g cc y nL ret lvl mc ms) (d : decode cc pc = .ok (.bipush z, 2)) (hq : pc + 2 = q) (hv : (Int8.ofInt z).toInt32 = v) (k : V l Γ g nL Q cells slots n PH q lv (.int v :: st)) : V l Γ g nL Q cells slots n PH pc lv (st) := by
  obtain ⟨p, e, R, s, m, args, below, meth, c⟩ := Γ
  subst hq
  intro H locs ls hH hS hL
  exact lv_bipush C.1 C.2.1 d hv (k H locs ls hH hS hL)
theorem V.sipush {z : Int} {v : Int32} (C : Cx Γ g cc y nL ret lvl mc ms) (d : decode cc pc = .ok (.sipush z, 3)) (hq : pc + 3 = q) (hv : (Int16.ofInt z).toInt32 = v) (k : V l Γ g nL Q cells slots n PH q lv (.int v :: st)) : V l Γ g nL Q cells slots n PH pc lv (st) := by
  obtain ⟨p, e, R, s, m, args, below, meth, c⟩ := Γ
  subst hq
  intro H locs ls hH hS hL
  exact lv_sipush C.1 C.2.1 d hv (k H locs ls hH hS hL)
theorem V.lconst {z : Fin 2} {v : Int64} (C : Cx Γ g cc y nL ret lvl mc ms) (d : decode cc pc = .ok (.lconst z, 1)) (hq : pc + 1 = q) (hv : Int64.ofNat (z : Nat) = v) (k : V l Γ g nL Q cells slots n PH q lv (.long v :: st)) : V l Γ g nL Q cells slots n PH pc lv (st) := by
  obtain ⟨p, e, R, s, m, args, below, meth, c⟩ := Γ
  subst hq
  intro H locs ls hH hS hL
  exact lv_lconst C.1 C.2.1 d hv (k H locs ls hH hS hL)
theorem V.iload_n {k : Fin 4} {x : Int32} (C : Cx Γ g cc y nL ret lvl mc ms) (d : decode cc pc = .ok (.iload_n k, 1)) (hq : pc + 1 = q) (h : lv[(k : Nat)]? = some (some (.int x))) (kk : V l Γ g nL Q cells slots n PH q lv (.int x :: st)) : V l Γ g nL Q cells slots n PH pc lv (st) := by
  obtain ⟨p, e, R, s, m, args, below, meth, c⟩ := Γ
  subst hq
  intro H locs ls hH hS hL
  exact lv_iload_n C.1 C.2.1 d rfl (hL.get h) (kk H locs ls hH hS hL)
theorem V.iload {i : Nat} {x : Int32} (C : Cx Γ g cc y nL ret lvl mc ms) (d : decode cc pc = .ok (.iload i, 2)) (hq : pc + 2 = q) (h : lv[i]? = some (some (.int x))) (kk : V l Γ g nL Q cells slots n PH q lv (.int x :: st)) : V l Γ g nL Q cells slots n PH pc lv (st) := by
  obtain ⟨p, e, R, s, m, args, below, meth, c⟩ := Γ
  subst hq
  intro H locs ls hH hS hL
  exact lv_iload C.1 C.2.1 d (hL.get h) (kk H locs ls hH hS hL)
theorem V.lload_n {k : Fin 4} {x : Int64} (C : Cx Γ g cc y nL ret lvl mc ms) (d : decode cc pc = .ok (.lload_n k, 1)) (hq : pc + 1 = q) (h : lv[(k : Nat)]? = some (some (.long x))) (kk : V l Γ g nL Q cells slots n PH q lv (.long x :: st)) : V l Γ g nL Q cells slots n PH pc lv (st) := by
  obtain ⟨p, e, R, s, m, args, below, meth, c⟩ := Γ
  subst hq
  intro H locs ls hH hS hL
  exact lv_lload_n C.1 C.2.1 d rfl (hL.get h) (kk H locs ls hH hS hL)
theorem V.lload {i : Nat} {x : Int64} (C : Cx Γ g cc y nL ret lvl mc ms) (d : decode cc pc = .ok (.lload i, 2)) (hq : pc + 2 = q) (h : lv[i]? = some (some (.long x))) (kk : V l Γ g nL Q cells slots n PH q lv (.long x :: st)) : V l Γ g nL Q cells slots n PH pc lv (st) := by
  obtain ⟨p, e, R, s, m, args, below, meth, c⟩ := Γ
  subst hq
  intro H locs ls hH hS hL
  exact lv_lload C.1 C.2.1 d (hL.get h) (kk H locs ls hH hS hL)
theorem V.aload_n {k : Fin 4} {x : VA} (C : Cx Γ g cc y nL ret lvl mc ms) (d : decode cc pc = .ok (.aload_n k, 1)) (hq : pc + 1 = q) (h : lv[(k : Nat)]? = some (some (rf g x))) (kk : V l Γ g nL Q cells slots n PH q lv (rf g x :: st)) : V l Γ g nL Q cells slots n PH pc lv (st) := by
  obtain ⟨p, e, R, s, m, args, below, meth, c⟩ := Γ
  subst hq
  intro H locs ls hH hS hL
  exact lv_aload_n C.1 C.2.1 d rfl (hL.get h) (kk H locs ls hH hS hL)
theorem V.aload_nR {k : Fin 4} {x : Nat} (C : Cx Γ g cc y nL ret lvl mc ms) (d : decode cc pc = .ok (.aload_n k, 1)) (hq : pc + 1 = q) (h : lv[(k : Nat)]? = some (some (.ref x))) (kk : V l Γ g nL Q cells slots n PH q lv (.ref x :: st)) : V l Γ g nL Q cells slots n PH pc lv (st) := by
  obtain ⟨p, e, R, s, m, args, below, meth, c⟩ := Γ
  subst hq
  intro H locs ls hH hS hL
  exact lv_aload_n C.1 C.2.1 d rfl (hL.get h) (kk H locs ls hH hS hL)
theorem V.aload {i : Nat} {x : VA} (C : Cx Γ g cc y nL ret lvl mc ms) (d : decode cc pc = .ok (.aload i, 2)) (hq : pc + 2 = q) (h : lv[i]? = some (some (rf g x))) (kk : V l Γ g nL Q cells slots n PH q lv (rf g x :: st)) : V l Γ g nL Q cells slots n PH pc lv (st) := by
  obtain ⟨p, e, R, s, m, args, below, meth, c⟩ := Γ
  subst hq
  intro H locs ls hH hS hL
  exact lv_aload C.1 C.2.1 d (hL.get h) (kk H locs ls hH hS hL)
theorem V.aloadR {i : Nat} {x : Nat} (C : Cx Γ g cc y nL ret lvl mc ms) (d : decode cc pc = .ok (.aload i, 2)) (hq : pc + 2 = q) (h : lv[i]? = some (some (.ref x))) (kk : V l Γ g nL Q cells slots n PH q lv (.ref x :: st)) : V l Γ g nL Q cells slots n PH pc lv (st) := by
  obtain ⟨p, e, R, s, m, args, below, meth, c⟩ := Γ
  subst hq
  intro H locs ls hH hS hL
  exact lv_aload C.1 C.2.1 d (hL.get h) (kk H locs ls hH hS hL)
theorem V.istore_n {k : Fin 4} {x : Int32} {lv1 : List (Option Value)} (C : Cx Γ g cc y nL ret lvl mc ms) (d : decode cc pc = .ok (.istore_n k, 1)) (hq : pc + 1 = q) (hi : (k : Nat) < nL) (h2 : c2 lv (k : Nat) = true) (hs : lv.set (k : Nat) (some (.int x)) = lv1) (kk : V l Γ g nL Q cells slots n PH q lv1 (st)) : V l Γ g nL Q cells slots n PH pc lv (.int x :: st) := by
  subst hs
  obtain ⟨p, e, R, s, m, args, below, meth, c⟩ := Γ
  subst hq
  intro H locs ls hH hS hL
  exact lv_istore_n C.1 C.2.1 d rfl hL hi rfl (fun ls1 h => kk H locs ls1 hH hS (LV.set1 h2 h))
theorem V.istore {i : Nat} {x : Int32} {lv1 : List (Option Value)} (C : Cx Γ g cc y nL ret lvl mc ms) (d : decode cc pc = .ok (.istore i, 2)) (hq : pc + 2 = q) (hi : i < nL) (h2 : c2 lv i = true) (hs : lv.set i (some (.int x)) = lv1) (kk : V l Γ g nL Q cells slots n PH q lv1 (st)) : V l Γ g nL Q cells slots n PH pc lv (.int x :: st) := by
  subst hs
  obtain ⟨p, e, R, s, m, args, below, meth, c⟩ := Γ
  subst hq
  intro H locs ls hH hS hL
  exact lv_istore C.1 C.2.1 d hL hi rfl (fun ls1 h => kk H locs ls1 hH hS (LV.set1 h2 h))
theorem V.astore_n {k : Fin 4} {x : VA} {lv1 : List (Option Value)} (C : Cx Γ g cc y nL ret lvl mc ms) (d : decode cc pc = .ok (.astore_n k, 1)) (hq : pc + 1 = q) (hi : (k : Nat) < nL) (h2 : c2 lv (k : Nat) = true) (hs : lv.set (k : Nat) (some (rf g x)) = lv1) (kk : V l Γ g nL Q cells slots n PH q lv1 (st)) : V l Γ g nL Q cells slots n PH pc lv (rf g x :: st) := by
  subst hs
  obtain ⟨p, e, R, s, m, args, below, meth, c⟩ := Γ
  subst hq
  intro H locs ls hH hS hL
  exact lv_astore_n C.1 C.2.1 d rfl hL hi rfl (fun ls1 h => kk H locs ls1 hH hS (LV.set1 h2 h))
theorem V.astore {i : Nat} {x : VA} {lv1 : List (Option Value)} (C : Cx Γ g cc y nL ret lvl mc ms) (d : decode cc pc = .ok (.astore i, 2)) (hq : pc + 2 = q) (hi : i < nL) (h2 : c2 lv i = true) (hs : lv.set i (some (rf g x)) = lv1) (kk : V l Γ g nL Q cells slots n PH q lv1 (st)) : V l Γ g nL Q cells slots n PH pc lv (rf g x :: st) := by
  subst hs
  obtain ⟨p, e, R, s, m, args, below, meth, c⟩ := Γ
  subst hq
  intro H locs ls hH hS hL
  exact lv_astore C.1 C.2.1 d hL hi rfl (fun ls1 h => kk H locs ls1 hH hS (LV.set1 h2 h))
theorem V.lstore_n {k : Fin 4} {x : Int64} {lv1 : List (Option Value)} (C : Cx Γ g cc y nL ret lvl mc ms) (d : decode cc pc = .ok (.lstore_n k, 1)) (hq : pc + 1 = q) (hi : (k : Nat) + 1 < nL) (h2 : c2 lv (k : Nat) = true) (hs : (lv.set (k : Nat) (some (.long x))).set ((k : Nat) + 1) none = lv1) (kk : V l Γ g nL Q cells slots n PH q lv1 (st)) : V l Γ g nL Q cells slots n PH pc lv (.long x :: st) := by
  subst hs
  obtain ⟨p, e, R, s, m, args, below, meth, c⟩ := Γ
  subst hq
  intro H locs ls hH hS hL
  exact lv_lstore_n C.1 C.2.1 d rfl hL hi rfl (fun ls1 h => kk H locs ls1 hH hS (LV.set2 h2 h))
theorem V.lstore {i : Nat} {x : Int64} {lv1 : List (Option Value)} (C : Cx Γ g cc y nL ret lvl mc ms) (d : decode cc pc = .ok (.lstore i, 2)) (hq : pc + 2 = q) (hi : i + 1 < nL) (h2 : c2 lv i = true) (hs : (lv.set i (some (.long x))).set (i + 1) none = lv1) (kk : V l Γ g nL Q cells slots n PH q lv1 (st)) : V l Γ g nL Q cells slots n PH pc lv (.long x :: st) := by
  subst hs
  obtain ⟨p, e, R, s, m, args, below, meth, c⟩ := Γ
  subst hq
  intro H locs ls hH hS hL
  exact lv_lstore C.1 C.2.1 d hL hi rfl (fun ls1 h => kk H locs ls1 hH hS (LV.set2 h2 h))
theorem lvL_at {lv : List (Option Value)} {i : Nat} {v : Value} (h : lv[i]? = some (some v)) : ∃ k : Nat, (lvL 0 lv)[k]? = some (i, v) := List.getElem?_of_mem ((lvL_mem lv 0 i v).mpr ⟨Nat.zero_le i, h⟩)
theorem V.iinc {i : Nat} {z : Int} {x v : Int32} {lv1 : List (Option Value)} (C : Cx Γ g cc y nL ret lvl mc ms) (d : decode cc pc = .ok (.iinc i z, 3)) (hq : pc + 3 = q) (h : lv[i]? = some (some (.int x))) (hv : x + Int32.ofInt z = v) (hi : i < nL) (h2 : c2 lv i = true) (hs : lv.set i (some (.int v)) = lv1) (kk : V l Γ g nL Q cells slots n PH q lv1 (st)) : V l Γ g nL Q cells slots n PH pc lv (st) := by
  subst hs
  obtain ⟨p, e, R, s, m, args, below, meth, c⟩ := Γ
  subst hq
  intro H locs ls hH hS hL
  obtain ⟨k0, hk0⟩ := lvL_at h
  exact lv_iinc C.1 C.2.1 d hL hk0 hv hi rfl (fun ls1 h => kk H locs ls1 hH hS (LV.set1 h2 h))
theorem V.iadd {x z : Int32} (C : Cx Γ g cc y nL ret lvl mc ms) (d : decode cc pc = .ok (.iadd, 1)) (hq : pc + 1 = q)  (k : V l Γ g nL Q cells slots n PH q lv (.int (x + z) :: st)) : V l Γ g nL Q cells slots n PH pc lv (.int z :: .int x :: st) := by
  obtain ⟨p, e, R, s, m, args, below, meth, c⟩ := Γ
  subst hq
  intro H locs ls hH hS hL
  exact lv_iadd C.1 C.2.1 d  (k H locs ls hH hS hL)
theorem V.isub {x z : Int32} (C : Cx Γ g cc y nL ret lvl mc ms) (d : decode cc pc = .ok (.isub, 1)) (hq : pc + 1 = q)  (k : V l Γ g nL Q cells slots n PH q lv (.int (x - z) :: st)) : V l Γ g nL Q cells slots n PH pc lv (.int z :: .int x :: st) := by
  obtain ⟨p, e, R, s, m, args, below, meth, c⟩ := Γ
  subst hq
  intro H locs ls hH hS hL
  exact lv_isub C.1 C.2.1 d  (k H locs ls hH hS hL)
theorem V.imul {x z : Int32} (C : Cx Γ g cc y nL ret lvl mc ms) (d : decode cc pc = .ok (.imul, 1)) (hq : pc + 1 = q)  (k : V l Γ g nL Q cells slots n PH q lv (.int (x * z) :: st)) : V l Γ g nL Q cells slots n PH pc lv (.int z :: .int x :: st) := by
  obtain ⟨p, e, R, s, m, args, below, meth, c⟩ := Γ
  subst hq
  intro H locs ls hH hS hL
  exact lv_imul C.1 C.2.1 d  (k H locs ls hH hS hL)
theorem V.iand {x z : Int32} (C : Cx Γ g cc y nL ret lvl mc ms) (d : decode cc pc = .ok (.iand, 1)) (hq : pc + 1 = q)  (k : V l Γ g nL Q cells slots n PH q lv (.int (x &&& z) :: st)) : V l Γ g nL Q cells slots n PH pc lv (.int z :: .int x :: st) := by
  obtain ⟨p, e, R, s, m, args, below, meth, c⟩ := Γ
  subst hq
  intro H locs ls hH hS hL
  exact lv_iand C.1 C.2.1 d  (k H locs ls hH hS hL)
theorem V.ior {x z : Int32} (C : Cx Γ g cc y nL ret lvl mc ms) (d : decode cc pc = .ok (.ior, 1)) (hq : pc + 1 = q)  (k : V l Γ g nL Q cells slots n PH q lv (.int (x ||| z) :: st)) : V l Γ g nL Q cells slots n PH pc lv (.int z :: .int x :: st) := by
  obtain ⟨p, e, R, s, m, args, below, meth, c⟩ := Γ
  subst hq
  intro H locs ls hH hS hL
  exact lv_ior C.1 C.2.1 d  (k H locs ls hH hS hL)
theorem V.ixor {x z : Int32} (C : Cx Γ g cc y nL ret lvl mc ms) (d : decode cc pc = .ok (.ixor, 1)) (hq : pc + 1 = q)  (k : V l Γ g nL Q cells slots n PH q lv (.int (x ^^^ z) :: st)) : V l Γ g nL Q cells slots n PH pc lv (.int z :: .int x :: st) := by
  obtain ⟨p, e, R, s, m, args, below, meth, c⟩ := Γ
  subst hq
  intro H locs ls hH hS hL
  exact lv_ixor C.1 C.2.1 d  (k H locs ls hH hS hL)
theorem V.ishl {x z : Int32} (C : Cx Γ g cc y nL ret lvl mc ms) (d : decode cc pc = .ok (.ishl, 1)) (hq : pc + 1 = q)  (k : V l Γ g nL Q cells slots n PH q lv (.int (x <<< (z &&& 31)) :: st)) : V l Γ g nL Q cells slots n PH pc lv (.int z :: .int x :: st) := by
  obtain ⟨p, e, R, s, m, args, below, meth, c⟩ := Γ
  subst hq
  intro H locs ls hH hS hL
  exact lv_ishl C.1 C.2.1 d  (k H locs ls hH hS hL)
theorem V.ishr {x z : Int32} (C : Cx Γ g cc y nL ret lvl mc ms) (d : decode cc pc = .ok (.ishr, 1)) (hq : pc + 1 = q)  (k : V l Γ g nL Q cells slots n PH q lv (.int (x >>> (z &&& 31)) :: st)) : V l Γ g nL Q cells slots n PH pc lv (.int z :: .int x :: st) := by
  obtain ⟨p, e, R, s, m, args, below, meth, c⟩ := Γ
  subst hq
  intro H locs ls hH hS hL
  exact lv_ishr C.1 C.2.1 d  (k H locs ls hH hS hL)
theorem V.idiv {x z : Int32} (C : Cx Γ g cc y nL ret lvl mc ms) (d : decode cc pc = .ok (.idiv, 1)) (hq : pc + 1 = q) (hne : ¬ z = 0) (k : V l Γ g nL Q cells slots n PH q lv (.int (x / z) :: st)) : V l Γ g nL Q cells slots n PH pc lv (.int z :: .int x :: st) := by
  obtain ⟨p, e, R, s, m, args, below, meth, c⟩ := Γ
  subst hq
  intro H locs ls hH hS hL
  exact lv_idiv C.1 C.2.1 d hne (k H locs ls hH hS hL)
theorem V.irem {x z : Int32} (C : Cx Γ g cc y nL ret lvl mc ms) (d : decode cc pc = .ok (.irem, 1)) (hq : pc + 1 = q) (hne : ¬ z = 0) (k : V l Γ g nL Q cells slots n PH q lv (.int (x - x / z * z) :: st)) : V l Γ g nL Q cells slots n PH pc lv (.int z :: .int x :: st) := by
  obtain ⟨p, e, R, s, m, args, below, meth, c⟩ := Γ
  subst hq
  intro H locs ls hH hS hL
  exact lv_irem C.1 C.2.1 d hne (k H locs ls hH hS hL)
theorem V.ineg {x : Int32} (C : Cx Γ g cc y nL ret lvl mc ms) (d : decode cc pc = .ok (.ineg, 1)) (hq : pc + 1 = q)  (k : V l Γ g nL Q cells slots n PH q lv (.int (-x) :: st)) : V l Γ g nL Q cells slots n PH pc lv (.int x :: st) := by
  obtain ⟨p, e, R, s, m, args, below, meth, c⟩ := Γ
  subst hq
  intro H locs ls hH hS hL
  exact lv_ineg C.1 C.2.1 d  (k H locs ls hH hS hL)
theorem V.ladd {x z : Int64} (C : Cx Γ g cc y nL ret lvl mc ms) (d : decode cc pc = .ok (.ladd, 1)) (hq : pc + 1 = q)  (k : V l Γ g nL Q cells slots n PH q lv (.long (x + z) :: st)) : V l Γ g nL Q cells slots n PH pc lv (.long z :: .long x :: st) := by
  obtain ⟨p, e, R, s, m, args, below, meth, c⟩ := Γ
  subst hq
  intro H locs ls hH hS hL
  exact lv_ladd C.1 C.2.1 d  (k H locs ls hH hS hL)
theorem V.land {x z : Int64} (C : Cx Γ g cc y nL ret lvl mc ms) (d : decode cc pc = .ok (.land, 1)) (hq : pc + 1 = q)  (k : V l Γ g nL Q cells slots n PH q lv (.long (x &&& z) :: st)) : V l Γ g nL Q cells slots n PH pc lv (.long z :: .long x :: st) := by
  obtain ⟨p, e, R, s, m, args, below, meth, c⟩ := Γ
  subst hq
  intro H locs ls hH hS hL
  exact lv_land C.1 C.2.1 d  (k H locs ls hH hS hL)
theorem V.lor {x z : Int64} (C : Cx Γ g cc y nL ret lvl mc ms) (d : decode cc pc = .ok (.lor, 1)) (hq : pc + 1 = q)  (k : V l Γ g nL Q cells slots n PH q lv (.long (x ||| z) :: st)) : V l Γ g nL Q cells slots n PH pc lv (.long z :: .long x :: st) := by
  obtain ⟨p, e, R, s, m, args, below, meth, c⟩ := Γ
  subst hq
  intro H locs ls hH hS hL
  exact lv_lor C.1 C.2.1 d  (k H locs ls hH hS hL)
theorem V.ldiv {x z : Int64} (C : Cx Γ g cc y nL ret lvl mc ms) (d : decode cc pc = .ok (.ldiv, 1)) (hq : pc + 1 = q) (hne : ¬ z = 0) (k : V l Γ g nL Q cells slots n PH q lv (.long (x / z) :: st)) : V l Γ g nL Q cells slots n PH pc lv (.long z :: .long x :: st) := by
  obtain ⟨p, e, R, s, m, args, below, meth, c⟩ := Γ
  subst hq
  intro H locs ls hH hS hL
  exact lv_ldiv C.1 C.2.1 d hne (k H locs ls hH hS hL)
theorem V.lrem {x z : Int64} (C : Cx Γ g cc y nL ret lvl mc ms) (d : decode cc pc = .ok (.lrem, 1)) (hq : pc + 1 = q) (hne : ¬ z = 0) (k : V l Γ g nL Q cells slots n PH q lv (.long (x - x / z * z) :: st)) : V l Γ g nL Q cells slots n PH pc lv (.long z :: .long x :: st) := by
  obtain ⟨p, e, R, s, m, args, below, meth, c⟩ := Γ
  subst hq
  intro H locs ls hH hS hL
  exact lv_lrem C.1 C.2.1 d hne (k H locs ls hH hS hL)
theorem V.lshl {x v : Int64} {z : Int32} (C : Cx Γ g cc y nL ret lvl mc ms) (d : decode cc pc = .ok (.lshl, 1)) (hq : pc + 1 = q) (hv : x <<< (z.toInt64 &&& 63) = v) (k : V l Γ g nL Q cells slots n PH q lv (.long v :: st)) : V l Γ g nL Q cells slots n PH pc lv (.int z :: .long x :: st) := by
  obtain ⟨p, e, R, s, m, args, below, meth, c⟩ := Γ
  subst hq
  intro H locs ls hH hS hL
  exact lv_lshl C.1 C.2.1 d hv (k H locs ls hH hS hL)
theorem V.i2l {x : Int32} {v : Int64} (C : Cx Γ g cc y nL ret lvl mc ms) (d : decode cc pc = .ok (.i2l, 1)) (hq : pc + 1 = q) (hv : x.toInt64 = v) (k : V l Γ g nL Q cells slots n PH q lv (.long v :: st)) : V l Γ g nL Q cells slots n PH pc lv (.int x :: st) := by
  obtain ⟨p, e, R, s, m, args, below, meth, c⟩ := Γ
  subst hq
  intro H locs ls hH hS hL
  exact lv_i2l C.1 C.2.1 d hv (k H locs ls hH hS hL)
theorem V.l2i {x : Int64} {v : Int32} (C : Cx Γ g cc y nL ret lvl mc ms) (d : decode cc pc = .ok (.l2i, 1)) (hq : pc + 1 = q) (hv : x.toInt32 = v) (k : V l Γ g nL Q cells slots n PH q lv (.int v :: st)) : V l Γ g nL Q cells slots n PH pc lv (.long x :: st) := by
  obtain ⟨p, e, R, s, m, args, below, meth, c⟩ := Γ
  subst hq
  intro H locs ls hH hS hL
  exact lv_l2i C.1 C.2.1 d hv (k H locs ls hH hS hL)
theorem V.i2b {x v : Int32} (C : Cx Γ g cc y nL ret lvl mc ms) (d : decode cc pc = .ok (.i2b, 1)) (hq : pc + 1 = q) (hv : x.toInt8.toInt32 = v) (k : V l Γ g nL Q cells slots n PH q lv (.int v :: st)) : V l Γ g nL Q cells slots n PH pc lv (.int x :: st) := by
  obtain ⟨p, e, R, s, m, args, below, meth, c⟩ := Γ
  subst hq
  intro H locs ls hH hS hL
  exact lv_i2b C.1 C.2.1 d hv (k H locs ls hH hS hL)
theorem V.i2s {x v : Int32} (C : Cx Γ g cc y nL ret lvl mc ms) (d : decode cc pc = .ok (.i2s, 1)) (hq : pc + 1 = q) (hv : x.toInt16.toInt32 = v) (k : V l Γ g nL Q cells slots n PH q lv (.int v :: st)) : V l Γ g nL Q cells slots n PH pc lv (.int x :: st) := by
  obtain ⟨p, e, R, s, m, args, below, meth, c⟩ := Γ
  subst hq
  intro H locs ls hH hS hL
  exact lv_i2s C.1 C.2.1 d hv (k H locs ls hH hS hL)
theorem V.dup {v : Value} (C : Cx Γ g cc y nL ret lvl mc ms) (d : decode cc pc = .ok (.dup, 1)) (hq : pc + 1 = q) (hc : v.category = 1) (k : V l Γ g nL Q cells slots n PH q lv (v :: v :: st)) : V l Γ g nL Q cells slots n PH pc lv (v :: st) := by
  obtain ⟨p, e, R, s, m, args, below, meth, c⟩ := Γ
  subst hq
  intro H locs ls hH hS hL
  exact lv_dup C.1 C.2.1 d hc (k H locs ls hH hS hL)
theorem V.pop {v : Value} (C : Cx Γ g cc y nL ret lvl mc ms) (d : decode cc pc = .ok (.pop, 1)) (hq : pc + 1 = q) (hc : v.category = 1) (k : V l Γ g nL Q cells slots n PH q lv (st)) : V l Γ g nL Q cells slots n PH pc lv (v :: st) := by
  obtain ⟨p, e, R, s, m, args, below, meth, c⟩ := Γ
  subst hq
  intro H locs ls hH hS hL
  exact lv_pop C.1 C.2.1 d hc (k H locs ls hH hS hL)
theorem V.dup2 {v u : Value} (C : Cx Γ g cc y nL ret lvl mc ms) (d : decode cc pc = .ok (.dup2, 1)) (hq : pc + 1 = q) (hc : v.category = 1) (hc2 : u.category = 1) (k : V l Γ g nL Q cells slots n PH q lv (v :: u :: v :: u :: st)) : V l Γ g nL Q cells slots n PH pc lv (v :: u :: st) := by
  obtain ⟨p, e, R, s, m, args, below, meth, c⟩ := Γ
  subst hq
  intro H locs ls hH hS hL
  exact lv_dup2_11 C.1 C.2.1 d hc hc2 (k H locs ls hH hS hL)
theorem V.lcmp {x z : Int64} (C : Cx Γ g cc y nL ret lvl mc ms) (d : decode cc pc = .ok (.lcmp, 1)) (hq : pc + 1 = q) (k : V l Γ g nL Q cells slots n PH q lv (.int (lg_cmp x z) :: st)) : V l Γ g nL Q cells slots n PH pc lv (.long z :: .long x :: st) := by
  obtain ⟨p, e, R, s, m, args, below, meth, c⟩ := Γ
  subst hq
  intro H locs ls hH hS hL
  exact W.lcmp C.1 C.2.1 d (k H locs ls hH hS hL)
theorem V.icmp_eq {x z : Int32} {off : Int} {tgt : Nat} (C : Cx Γ g cc y nL ret lvl mc ms) (d : decode cc pc = .ok (.if_icmp .eq off, 3)) (hq : pc + 3 = q) (ht : (pc : Int) + off = (tgt : Int)) (kt : x = z → V l Γ g nL Q cells slots n PH tgt lv (st)) (kf : ¬ (x = z) → V l Γ g nL Q cells slots n PH q lv (st)) : V l Γ g nL Q cells slots n PH pc lv (.int z :: .int x :: st) := by
  obtain ⟨p, e, R, s, m, args, below, meth, c⟩ := Γ
  subst hq
  intro H locs ls hH hS hL
  exact lv_icmp_eq C.1 C.2.1 d ht (fun h => kt h H locs ls hH hS hL) (fun h => kf h H locs ls hH hS hL)
theorem V.icmp_ne {x z : Int32} {off : Int} {tgt : Nat} (C : Cx Γ g cc y nL ret lvl mc ms) (d : decode cc pc = .ok (.if_icmp .ne off, 3)) (hq : pc + 3 = q) (ht : (pc : Int) + off = (tgt : Int)) (kt : ¬ x = z → V l Γ g nL Q cells slots n PH tgt lv (st)) (kf : x = z → V l Γ g nL Q cells slots n PH q lv (st)) : V l Γ g nL Q cells slots n PH pc lv (.int z :: .int x :: st) := by
  obtain ⟨p, e, R, s, m, args, below, meth, c⟩ := Γ
  subst hq
  intro H locs ls hH hS hL
  exact lv_icmp_ne C.1 C.2.1 d ht (fun h => kt h H locs ls hH hS hL) (fun h => kf h H locs ls hH hS hL)
theorem V.icmp_lt {x z : Int32} {off : Int} {tgt : Nat} (C : Cx Γ g cc y nL ret lvl mc ms) (d : decode cc pc = .ok (.if_icmp .lt off, 3)) (hq : pc + 3 = q) (ht : (pc : Int) + off = (tgt : Int)) (kt : x < z → V l Γ g nL Q cells slots n PH tgt lv (st)) (kf : ¬ (x < z) → V l Γ g nL Q cells slots n PH q lv (st)) : V l Γ g nL Q cells slots n PH pc lv (.int z :: .int x :: st) := by
  obtain ⟨p, e, R, s, m, args, below, meth, c⟩ := Γ
  subst hq
  intro H locs ls hH hS hL
  exact lv_icmp_lt C.1 C.2.1 d ht (fun h => kt h H locs ls hH hS hL) (fun h => kf h H locs ls hH hS hL)
theorem V.icmp_ge {x z : Int32} {off : Int} {tgt : Nat} (C : Cx Γ g cc y nL ret lvl mc ms) (d : decode cc pc = .ok (.if_icmp .ge off, 3)) (hq : pc + 3 = q) (ht : (pc : Int) + off = (tgt : Int)) (kt : z ≤ x → V l Γ g nL Q cells slots n PH tgt lv (st)) (kf : ¬ (z ≤ x) → V l Γ g nL Q cells slots n PH q lv (st)) : V l Γ g nL Q cells slots n PH pc lv (.int z :: .int x :: st) := by
  obtain ⟨p, e, R, s, m, args, below, meth, c⟩ := Γ
  subst hq
  intro H locs ls hH hS hL
  exact lv_icmp_ge C.1 C.2.1 d ht (fun h => kt h H locs ls hH hS hL) (fun h => kf h H locs ls hH hS hL)
theorem V.icmp_gt {x z : Int32} {off : Int} {tgt : Nat} (C : Cx Γ g cc y nL ret lvl mc ms) (d : decode cc pc = .ok (.if_icmp .gt off, 3)) (hq : pc + 3 = q) (ht : (pc : Int) + off = (tgt : Int)) (kt : z < x → V l Γ g nL Q cells slots n PH tgt lv (st)) (kf : ¬ (z < x) → V l Γ g nL Q cells slots n PH q lv (st)) : V l Γ g nL Q cells slots n PH pc lv (.int z :: .int x :: st) := by
  obtain ⟨p, e, R, s, m, args, below, meth, c⟩ := Γ
  subst hq
  intro H locs ls hH hS hL
  exact lv_icmp_gt C.1 C.2.1 d ht (fun h => kt h H locs ls hH hS hL) (fun h => kf h H locs ls hH hS hL)
theorem V.icmp_le {x z : Int32} {off : Int} {tgt : Nat} (C : Cx Γ g cc y nL ret lvl mc ms) (d : decode cc pc = .ok (.if_icmp .le off, 3)) (hq : pc + 3 = q) (ht : (pc : Int) + off = (tgt : Int)) (kt : x ≤ z → V l Γ g nL Q cells slots n PH tgt lv (st)) (kf : ¬ (x ≤ z) → V l Γ g nL Q cells slots n PH q lv (st)) : V l Γ g nL Q cells slots n PH pc lv (.int z :: .int x :: st) := by
  obtain ⟨p, e, R, s, m, args, below, meth, c⟩ := Γ
  subst hq
  intro H locs ls hH hS hL
  exact lv_icmp_le C.1 C.2.1 d ht (fun h => kt h H locs ls hH hS hL) (fun h => kf h H locs ls hH hS hL)
theorem V.if_eq {x : Int32} {off : Int} {tgt : Nat} (C : Cx Γ g cc y nL ret lvl mc ms) (d : decode cc pc = .ok (.ifCond .eq off, 3)) (hq : pc + 3 = q) (ht : (pc : Int) + off = (tgt : Int)) (kt : x = 0 → V l Γ g nL Q cells slots n PH tgt lv (st)) (kf : ¬ (x = 0) → V l Γ g nL Q cells slots n PH q lv (st)) : V l Γ g nL Q cells slots n PH pc lv (.int x :: st) := by
  obtain ⟨p, e, R, s, m, args, below, meth, c⟩ := Γ
  subst hq
  intro H locs ls hH hS hL
  exact lv_if_eq C.1 C.2.1 d ht (fun h => kt h H locs ls hH hS hL) (fun h => kf h H locs ls hH hS hL)
theorem V.if_ne {x : Int32} {off : Int} {tgt : Nat} (C : Cx Γ g cc y nL ret lvl mc ms) (d : decode cc pc = .ok (.ifCond .ne off, 3)) (hq : pc + 3 = q) (ht : (pc : Int) + off = (tgt : Int)) (kt : ¬ x = 0 → V l Γ g nL Q cells slots n PH tgt lv (st)) (kf : x = 0 → V l Γ g nL Q cells slots n PH q lv (st)) : V l Γ g nL Q cells slots n PH pc lv (.int x :: st) := by
  obtain ⟨p, e, R, s, m, args, below, meth, c⟩ := Γ
  subst hq
  intro H locs ls hH hS hL
  exact lv_if_ne C.1 C.2.1 d ht (fun h => kt h H locs ls hH hS hL) (fun h => kf h H locs ls hH hS hL)
theorem V.if_lt {x : Int32} {off : Int} {tgt : Nat} (C : Cx Γ g cc y nL ret lvl mc ms) (d : decode cc pc = .ok (.ifCond .lt off, 3)) (hq : pc + 3 = q) (ht : (pc : Int) + off = (tgt : Int)) (kt : x < 0 → V l Γ g nL Q cells slots n PH tgt lv (st)) (kf : ¬ (x < 0) → V l Γ g nL Q cells slots n PH q lv (st)) : V l Γ g nL Q cells slots n PH pc lv (.int x :: st) := by
  obtain ⟨p, e, R, s, m, args, below, meth, c⟩ := Γ
  subst hq
  intro H locs ls hH hS hL
  exact lv_if_lt C.1 C.2.1 d ht (fun h => kt h H locs ls hH hS hL) (fun h => kf h H locs ls hH hS hL)
theorem V.if_ge {x : Int32} {off : Int} {tgt : Nat} (C : Cx Γ g cc y nL ret lvl mc ms) (d : decode cc pc = .ok (.ifCond .ge off, 3)) (hq : pc + 3 = q) (ht : (pc : Int) + off = (tgt : Int)) (kt : 0 ≤ x → V l Γ g nL Q cells slots n PH tgt lv (st)) (kf : ¬ (0 ≤ x) → V l Γ g nL Q cells slots n PH q lv (st)) : V l Γ g nL Q cells slots n PH pc lv (.int x :: st) := by
  obtain ⟨p, e, R, s, m, args, below, meth, c⟩ := Γ
  subst hq
  intro H locs ls hH hS hL
  exact lv_if_ge C.1 C.2.1 d ht (fun h => kt h H locs ls hH hS hL) (fun h => kf h H locs ls hH hS hL)
theorem V.if_gt {x : Int32} {off : Int} {tgt : Nat} (C : Cx Γ g cc y nL ret lvl mc ms) (d : decode cc pc = .ok (.ifCond .gt off, 3)) (hq : pc + 3 = q) (ht : (pc : Int) + off = (tgt : Int)) (kt : 0 < x → V l Γ g nL Q cells slots n PH tgt lv (st)) (kf : ¬ (0 < x) → V l Γ g nL Q cells slots n PH q lv (st)) : V l Γ g nL Q cells slots n PH pc lv (.int x :: st) := by
  obtain ⟨p, e, R, s, m, args, below, meth, c⟩ := Γ
  subst hq
  intro H locs ls hH hS hL
  exact lv_if_gt C.1 C.2.1 d ht (fun h => kt h H locs ls hH hS hL) (fun h => kf h H locs ls hH hS hL)
theorem V.if_le {x : Int32} {off : Int} {tgt : Nat} (C : Cx Γ g cc y nL ret lvl mc ms) (d : decode cc pc = .ok (.ifCond .le off, 3)) (hq : pc + 3 = q) (ht : (pc : Int) + off = (tgt : Int)) (kt : x ≤ 0 → V l Γ g nL Q cells slots n PH tgt lv (st)) (kf : ¬ (x ≤ 0) → V l Γ g nL Q cells slots n PH q lv (st)) : V l Γ g nL Q cells slots n PH pc lv (.int x :: st) := by
  obtain ⟨p, e, R, s, m, args, below, meth, c⟩ := Γ
  subst hq
  intro H locs ls hH hS hL
  exact lv_if_le C.1 C.2.1 d ht (fun h => kt h H locs ls hH hS hL) (fun h => kf h H locs ls hH hS hL)
theorem V.goto {off : Int} {tgt : Nat} (C : Cx Γ g cc y nL ret lvl mc ms) (d : decode cc pc = .ok (.goto off, 3)) (ht : (pc : Int) + off = (tgt : Int)) (k : V l Γ g nL Q cells slots n PH tgt lv (st)) : V l Γ g nL Q cells slots n PH pc lv (st) := by
  obtain ⟨p, e, R, s, m, args, below, meth, c⟩ := Γ
  intro H locs ls hH hS hL
  exact lv_goto C.1 C.2.1 d ht (k H locs ls hH hS hL)
theorem V.tableIn {dflt lo hi : Int} {offs : Array Int} {len : Nat} {x : Int32} {off : Int} {tgt : Nat} (C : Cx Γ g cc y nL ret lvl mc ms) (d : decode cc pc = .ok (.tableswitch dflt lo hi offs, len)) (h1 : ¬ x.toInt < lo) (h2 : ¬ hi < x.toInt) (ho : offs[(x.toInt - lo).toNat]? = some off) (ht : (pc : Int) + off = (tgt : Int)) (k : V l Γ g nL Q cells slots n PH tgt lv (st)) : V l Γ g nL Q cells slots n PH pc lv (.int x :: st) := by
  obtain ⟨p, e, R, s, m, args, below, meth, c⟩ := Γ
  intro H locs ls hH hS hL
  exact lv_tableIn C.1 C.2.1 d h1 h2 ho ht (k H locs ls hH hS hL)
theorem V.tableOut {dflt lo hi : Int} {offs : Array Int} {len : Nat} {x : Int32} {tgt : Nat} (C : Cx Γ g cc y nL ret lvl mc ms) (d : decode cc pc = .ok (.tableswitch dflt lo hi offs, len)) (h : x.toInt < lo ∨ hi < x.toInt) (ht : (pc : Int) + dflt = (tgt : Int)) (k : V l Γ g nL Q cells slots n PH tgt lv (st)) : V l Γ g nL Q cells slots n PH pc lv (.int x :: st) := by
  obtain ⟨p, e, R, s, m, args, below, meth, c⟩ := Γ
  intro H locs ls hH hS hL
  exact lv_tableOut C.1 C.2.1 d h ht (k H locs ls hH hS hL)
theorem V.lookup {dflt : Int} {ps : Array (Int × Int)} {len : Nat} {x : Int32} {off : Int} {tgt : Nat} (C : Cx Γ g cc y nL ret lvl mc ms) (d : decode cc pc = .ok (.lookupswitch dflt ps, len)) (hp : (ps.toList.zip (ps.toList.drop 1)).all (fun (a, next) => a.1 < next.1) = true) (ho : Op.lookupswitch.offset ps.toList dflt x.toInt = off) (ht : (pc : Int) + off = (tgt : Int)) (k : V l Γ g nL Q cells slots n PH tgt lv (st)) : V l Γ g nL Q cells slots n PH pc lv (.int x :: st) := by
  obtain ⟨p, e, R, s, m, args, below, meth, c⟩ := Γ
  intro H locs ls hH hS hL
  exact lv_lookup C.1 C.2.1 d hp ho ht (k H locs ls hH hS hL)
theorem V.stk {st1 : List Value} (h : st = st1) (k : V l Γ g nL Q cells slots n PH pc lv (st1)) : V l Γ g nL Q cells slots n PH pc lv (st) := h ▸ k
theorem V.loc {lv1 : List (Option Value)} (h : lv = lv1) (k : V l Γ g nL Q cells slots n PH pc lv1 (st)) : V l Γ g nL Q cells slots n PH pc lv (st) := h ▸ k
theorem V.ph (h : PH = PH1) (k : V l Γ g nL Q cells slots n PH1 pc lv (st)) : V l Γ g nL Q cells slots n PH pc lv (st) := h ▸ k
theorem V.topi {x x1 : Int32} (h : x = x1) (k : V l Γ g nL Q cells slots n PH pc lv (.int x1 :: st)) : V l Γ g nL Q cells slots n PH pc lv (.int x :: st) := h ▸ k
theorem V.topi2 {v : Value} {x x1 : Int32} (h : x = x1) (k : V l Γ g nL Q cells slots n PH pc lv (v :: .int x1 :: st)) : V l Γ g nL Q cells slots n PH pc lv (v :: .int x :: st) := h ▸ k
theorem V.topl {x x1 : Int64} (h : x = x1) (k : V l Γ g nL Q cells slots n PH pc lv (.long x1 :: st)) : V l Γ g nL Q cells slots n PH pc lv (.long x :: st) := h ▸ k
theorem V.ldc {i : Nat} {v : Int32} (C : Cx Γ g cc y nL ret lvl mc ms) (hw : Cond.constant y.cls i v ∈ gws) (d : decode cc pc = .ok (.ldc i, 2)) (hq : pc + 2 = q) (k : V l Γ g nL Q cells slots n PH q lv (.int v :: st)) : V l Γ g nL Q cells slots n PH pc lv (st) := by
  obtain ⟨p, e, R, s, m, args, below, meth, c⟩ := Γ
  subst hq
  intro H locs ls hH hS hL
  exact lv_ldc C.1 C.2.1 C.2.2.2.1 (C.2.2.2.2.1 _ hw) d (k H locs ls hH hS hL)
theorem V.ldc2 {i : Nat} {v : Int64} (C : Cx Γ g cc y nL ret lvl mc ms) (hw : Cond.constantLong y.cls i v ∈ gws) (d : decode cc pc = .ok (.ldc2_w i, 3)) (hq : pc + 3 = q) (k : V l Γ g nL Q cells slots n PH q lv (.long v :: st)) : V l Γ g nL Q cells slots n PH pc lv (st) := by
  obtain ⟨p, e, R, s, m, args, below, meth, c⟩ := Γ
  subst hq
  intro H locs ls hH hS hL
  exact lv_ldc2 C.1 C.2.1 C.2.2.2.1 (C.2.2.2.2.1 _ hw) d (k H locs ls hH hS hL)
/-- a field access: the class's place, the field's place, what the tables say -/
def FL (own : String) (idx ci j : Nat) (Cn : String) (T : u_T) (N : Nat) (ty : Nat → FieldType) : Prop := vwCl[ci]? = some (Cn, T, N) ∧ (∀ w ∈ u_ws Cn T N, w ∈ gws) ∧ (∀ k, k < N → parseFieldDescriptor (T k).2.2.1 = some (ty k)) ∧ (∀ a, a < N → ∀ b, b < N → a ≠ b → (T a).2.1 ≠ (T b).2.1) ∧ Cond.fieldLink own idx Cn (T j).2.1 (T j).2.2.1 ∈ gws ∧ (T j).1 = Cn ∧ j < N
theorem V.get {idx ci j N : Nat} {Cn : String} {T : u_T} {ty : Nat → FieldType} {fs : List Value} {v : Value} {a : VA}  (C : Cx Γ g cc y nL ret lvl mc ms) (F : FL y.cls idx ci j Cn T N ty) (d : decode cc pc = .ok (.getfield idx, 3)) (hq : pc + 3 = q) (ok : Ok a n) (hc : PH a = .inr (ci, fs)) (hf : fs[j]? = some v) (k : V l Γ g nL Q cells slots n PH q lv (v :: st)) : V l Γ g nL Q cells slots n PH pc lv (rf g a :: st) := by
  obtain ⟨p, e, R, s, m, args, below, meth, c⟩ := Γ
  subst hq
  intro H locs ls hH hS hL
  obtain ⟨f1, f2, f3, f4, f5, f6, f7⟩ := F
  exact va_get C.1 C.2.1 C.2.2.2.2.1 f2 C.2.2.2.1 C.2.2.2.2.2.1 hH.2 (ad a) (by rw [wl_at ok, hc]) f1 j f7 (C.2.2.2.2.1 _ f5) (fun x h => by rw [← f6]; exact h) hf d (k H locs ls hH hS hL)
theorem HP.set {H H1 : Heap} {a : VA} {e : va_E} (ok : Ok a n) (hH : HP g PH n H) (hz : H1.size = H.size) (oq : ∀ q : Nat, q ≠ bG g + ad a → H1[q]? = H[q]?) (he : va_at g.1 vwCl (bG g + ad a, e) H1) (hp : up PH a e = PH1) : HP g PH1 n H1 :=
  ⟨hz.trans hH.1, by rw [← hp, ← wl_set ok]; exact va_P.set hH.2 wl_D (wl_at ok) he oq⟩
theorem HP.push {H H1 : Heap} {a : VA} {e : va_E} (hn : n < NN) (ha : vaT n = a) (hH : HP g PH n H) (hz : H1.size = H.size + 1) (oq : ∀ q : Nat, q < H.size → H1[q]? = H[q]?) (he : va_at g.1 vwCl (H.size, e) H1) (hp : up PH a e = PH1) : HP g PH1 (n + 1) H1 := by
  subst ha
  refine ⟨by rw [hz, hH.1]; omega, ?_⟩
  rw [← hp, ← wl_push hn, ← hH.1]
  refine va_P.app (hH.2.kept fun k x hx => oq x.1 ((hH.2 k x hx).lt)) (fun k x hx => ?_)
  have hz : k < 1 := (List.getElem?_eq_some_iff.mp hx).1
  rw [show k = 0 by omega] at hx
  cases hx
  exact he
theorem bG_le {a : VA} : bG g ≤ bG g + ad a := Nat.le_add_right _ _
theorem V.put {idx ci j N : Nat} {Cn : String} {T : u_T} {ty : Nat → FieldType} {fs : List Value} {v : Value} {a : VA}  (C : Cx Γ g cc y nL ret lvl mc ms) (F : FL y.cls idx ci j Cn T N ty) (hfin : (T j).2.2.2 = false) (d : decode cc pc = .ok (.putfield idx, 3)) (hq : pc + 3 = q) (ok : Ok a n) (hc : PH a = .inr (ci, fs)) (hl : j < fs.length) (hn : narrow (ty j) v = v) (hfit : fits (ty j) v = true) (hp : up PH a (.inr (ci, fs.set j v)) = PH1) (k : V l Γ g nL Q cells slots n PH1 q lv (st)) : V l Γ g nL Q cells slots n PH pc lv (v :: rf g a :: st) := by
  obtain ⟨p, e, R, s, m, args, below, meth, c⟩ := Γ
  subst hq
  intro H locs ls hH hS hL
  obtain ⟨f1, f2, f3, f4, f5, f6, f7⟩ := F
  obtain ⟨r, g1, cell, q1, q2, q3, q4⟩ := hH.2 (ad a) (bG g + ad a, .inr (ci, fs)) (by rw [wl_at ok, hc])
  have hr : r = (Cn, T, N) := Option.some.inj (g1.symm.trans f1)
  subst hr
  obtain ⟨sl, hfc, kC, hkC, hkind⟩ := C.2.2.2.2.2.1.1 ci _ f1
  obtain ⟨cf, kf, fi, f, hi, hsl⟩ := sl j f7
  have hap := va_apart (own := y.cls) C.2.2.2.2.1 f2 ty f3 f4 C.2.2.2.2.2.1 f1
  have hlay := C.2.2.2.2.1 _ (f2 _ (u_in_lay f7))
  unfold u_lay at hlay
  have hst := (u_facts hfc hkC (u_lays C.2.2.2.2.1 f2 f7) hi).1
  rw [if_neg (by rw [hfin]; decide)] at hlay
  have h6 := u_store hfc hkC hkind hlay hi (f3 j f7) hn hfit
  refine W.putK C.1 C.2.1 (f := f) ⟨C.2.2.2.1, C.2.2.2.2.1 _ f5, ⟨_, _, _, by rw [← f6]; exact hi⟩, hst⟩ (by rw [q2]; exact h6) q1 q3 (by rw [hsl]; exact k2_hasslot (q4 j f7)) rfl rfl d fun H1 e1 e2 e3 => ?_
  rw [hsl] at e1 ⊢
  exact k H1 _ ls (HP.set (e := .inr (ci, fs.set j v)) ok hH e2 e3 ⟨_, f1, t_OB.to (V := updV (vp_V fs) j v) ⟨_, e1, q2, q3, t_set q4 hap f7 v⟩ (fun i _ => vp_updV_set hl v i)⟩ hp) (hS.put e2 e3 bG_le) hL
theorem V.putF {idx ci j N : Nat} {Cn : String} {T : u_T} {ty : Nat → FieldType} {fs : List Value} {v : Value} {a : VA}  (C : Cx Γ g cc y nL ret lvl mc ms) (F : FL y.cls idx ci j Cn T N ty) (hfin : (T j).2.2.2 = true) (hy : y.name = "<init>") (hown : Cn = y.cls) (d : decode cc pc = .ok (.putfield idx, 3)) (hq : pc + 3 = q) (ok : Ok a n) (hc : PH a = .inr (ci, fs)) (hl : j < fs.length) (hn : narrow (ty j) v = v) (hfit : fits (ty j) v = true) (hp : up PH a (.inr (ci, fs.set j v)) = PH1) (k : V l Γ g nL Q cells slots n PH1 q lv (st)) : V l Γ g nL Q cells slots n PH pc lv (v :: rf g a :: st) := by
  obtain ⟨p, e, R, s, m, args, below, meth, c⟩ := Γ
  subst hq
  intro H locs ls hH hS hL
  obtain ⟨f1, f2, f3, f4, f5, f6, f7⟩ := F
  obtain ⟨r, g1, cell, q1, q2, q3, q4⟩ := hH.2 (ad a) (bG g + ad a, .inr (ci, fs)) (by rw [wl_at ok, hc])
  have hr : r = (Cn, T, N) := Option.some.inj (g1.symm.trans f1)
  subst hr
  obtain ⟨sl, hfc, kC, hkC, hkind⟩ := C.2.2.2.2.2.1.1 ci _ f1
  obtain ⟨cf, kf, fi, f, hi, hsl⟩ := sl j f7
  have hap := va_apart (own := y.cls) C.2.2.2.2.1 f2 ty f3 f4 C.2.2.2.2.2.1 f1
  have hlay := C.2.2.2.2.1 _ (f2 _ (u_in_lay f7))
  unfold u_lay at hlay
  have hst := (u_facts hfc hkC (u_lays C.2.2.2.2.1 f2 f7) hi).1
  rw [if_pos hfin] at hlay
  have hcf : m.cls = cf := by
    obtain ⟨_, _, c', _, _, _, -, -, hf', -, -, -, hown2, -⟩ := Cond.laysFinal_spec hlay
    have e1 : c' = cf := by have := hi.symm.trans hf'; simp at this; exact this.1.symm
    rw [f6, hown] at hown2
    rw [← e1]; exact Option.some.inj (C.2.2.2.1.symm.trans hown2)
  have h6 := u_fits hfc hkC hkind (Or.inr hlay) hi (f3 j f7) hn hfit
  refine W.putFinK C.1 C.2.1 C.2.2.2.1 (C.2.2.2.2.1 _ f5) (by rw [← f6]; exact hi) hst hcf (C.2.2.2.2.2.2.2.2.2.2.2.1 hy) (by rw [q2]; exact h6) q1 q3 (by rw [hsl]; exact k2_hasslot (q4 j f7)) rfl rfl d fun H1 e1 e2 e3 => ?_
  rw [hsl] at e1 ⊢
  exact k H1 _ ls (HP.set (e := .inr (ci, fs.set j v)) ok hH e2 e3 ⟨_, f1, t_OB.to (V := updV (vp_V fs) j v) ⟨_, e1, q2, q3, t_set q4 hap f7 v⟩ (fun i _ => vp_updV_set hl v i)⟩ hp) (hS.put e2 e3 bG_le) hL
theorem V.iald {len i : Nat} {x : Int32} {a : VA} {f : Nat → Int32} (C : Cx Γ g cc y nL ret lvl mc ms) (d : decode cc pc = .ok (.iaload, 1)) (hq : pc + 1 = q) (ok : Ok a n) (hc : PH a = .inl (g.2.1 0, len, .inl f)) (hx : x = nI i) (hi : i < len) (hz : len < 2 ^ 31) (k : V l Γ g nL Q cells slots n PH q lv (.int (f i) :: st)) : V l Γ g nL Q cells slots n PH pc lv (.int x :: rf g a :: st) := by
  subst hx
  obtain ⟨p, e, R, s, m, args, below, meth, c⟩ := Γ
  subst hq
  intro H locs ls hH hS hL
  have e := nI_clamp (n := i) (by omega)
  refine va_iald (t0 := 0) C.1 C.2.1 C.2.2.2.2.2.1 hH.2 (ad a) (by rw [wl_at ok, hc]) rfl (vp_in_nI hi hz) d ?_
  rw [e]
  exact k H locs ls hH hS hL
theorem V.bald {len i : Nat} {x : Int32} {a : VA} {f : Nat → Int32} (C : Cx Γ g cc y nL ret lvl mc ms) (d : decode cc pc = .ok (.baload, 1)) (hq : pc + 1 = q) (ok : Ok a n) (hc : PH a = .inl (g.2.1 1, len, .inl f)) (hx : x = nI i) (hi : i < len) (hz : len < 2 ^ 31) (k : V l Γ g nL Q cells slots n PH q lv (.int (f i) :: st)) : V l Γ g nL Q cells slots n PH pc lv (.int x :: rf g a :: st) := by
  subst hx
  obtain ⟨p, e, R, s, m, args, below, meth, c⟩ := Γ
  subst hq
  intro H locs ls hH hS hL
  have e := nI_clamp (n := i) (by omega)
  refine va_bald (t0 := 1) C.1 C.2.1 C.2.2.2.2.2.1 hH.2 (ad a) (by rw [wl_at ok, hc]) rfl (vp_in_nI hi hz) d ?_
  rw [e]
  exact k H locs ls hH hS hL
theorem V.cald {len i : Nat} {x : Int32} {a : VA} {f : Nat → Int32} (C : Cx Γ g cc y nL ret lvl mc ms) (d : decode cc pc = .ok (.caload, 1)) (hq : pc + 1 = q) (ok : Ok a n) (hc : PH a = .inl (g.2.1 2, len, .inl f)) (hx : x = nI i) (hi : i < len) (hz : len < 2 ^ 31) (k : V l Γ g nL Q cells slots n PH q lv (.int (f i) :: st)) : V l Γ g nL Q cells slots n PH pc lv (.int x :: rf g a :: st) := by
  subst hx
  obtain ⟨p, e, R, s, m, args, below, meth, c⟩ := Γ
  subst hq
  intro H locs ls hH hS hL
  have e := nI_clamp (n := i) (by omega)
  refine va_cald (t0 := 2) C.1 C.2.1 C.2.2.2.2.2.1 hH.2 (ad a) (by rw [wl_at ok, hc]) rfl (vp_in_nI hi hz) d ?_
  rw [e]
  exact k H locs ls hH hS hL
theorem V.lald {len i : Nat} {x : Int32} {a : VA} {f : Nat → Int64} (C : Cx Γ g cc y nL ret lvl mc ms) (d : decode cc pc = .ok (.laload, 1)) (hq : pc + 1 = q) (ok : Ok a n) (hc : PH a = .inl (g.2.1 3, len, .inr (.inl f))) (hx : x = nI i) (hi : i < len) (hz : len < 2 ^ 31) (k : V l Γ g nL Q cells slots n PH q lv (.long (f i) :: st)) : V l Γ g nL Q cells slots n PH pc lv (.int x :: rf g a :: st) := by
  subst hx
  obtain ⟨p, e, R, s, m, args, below, meth, c⟩ := Γ
  subst hq
  intro H locs ls hH hS hL
  have e := nI_clamp (n := i) (by omega)
  refine va_lald (t0 := 3) C.1 C.2.1 C.2.2.2.2.2.1 hH.2 (ad a) (by rw [wl_at ok, hc]) rfl (vp_in_nI hi hz) d ?_
  rw [e]
  exact k H locs ls hH hS hL
theorem V.aald {len i : Nat} {x : Int32} {a : VA} {f : Nat → Option Nat} {t0 : Nat} {cA : ClassId} {CC : String} {b : VA} (C : Cx Γ g cc y nL ret lvl mc ms) (d : decode cc pc = .ok (.aaload, 1)) (hq : pc + 1 = q) (ok : Ok a n) (hc : PH a = .inl (cA, len, .inr (.inr (.inr (.inr f))))) (ht : (tysL g.2.1)[t0]? = some (cA, .object CC)) (hx : x = nI i) (hi : i < len) (hz : len < 2 ^ 31) (hf : f i = some (bG g + ad b)) (k : V l Γ g nL Q cells slots n PH q lv (rf g b :: st)) : V l Γ g nL Q cells slots n PH pc lv (.int x :: rf g a :: st) := by
  subst hx
  obtain ⟨p, e, R, s, m, args, below, meth, c⟩ := Γ
  subst hq
  intro H locs ls hH hS hL
  have e := nI_clamp (n := i) (by omega)
  refine va_aldq (C := CC) C.1 C.2.1 C.2.2.2.2.2.1 hH.2 (ad a) t0 (by rw [wl_at ok, hc]) ht (vp_in_nI hi hz) d ?_
  rw [e, hf]
  exact k H locs ls hH hS hL
theorem V.iast {len i : Nat} {x : Int32} {a : VA} {f : Nat → Int32} {v : Int32} (C : Cx Γ g cc y nL ret lvl mc ms) (d : decode cc pc = .ok (.iastore, 1)) (hq : pc + 1 = q) (ok : Ok a n) (hc : PH a = .inl (g.2.1 0, len, .inl f)) (hx : x = nI i) (hi : i < len) (hz : len < 2 ^ 31) (hp : up PH a (.inl (g.2.1 0, len, .inl (upd f i v))) = PH1) (k : V l Γ g nL Q cells slots n PH1 q lv (st)) : V l Γ g nL Q cells slots n PH pc lv (.int v :: .int x :: rf g a :: st) := by
  subst hx
  obtain ⟨p, e, R, s, m, args, below, meth, c⟩ := Γ
  subst hq
  intro H locs ls hH hS hL
  have e0 := nI_clamp (n := i) (by omega)
  have hat := hH.2 (ad a) (bG g + ad a, .inl (g.2.1 0, len, .inl f)) (by rw [wl_at ok, hc])
  refine W.iast C.1 C.2.1 hat ((C.2.2.2.2.2.1.2 0 (g.2.1 0, .int) rfl).1 len (fun j => .int (f j))) (fun q => by cases q) (by show ¬ (nI i < 0 ∨ (arrV _ _ _).slots.size ≤ _); rw [arrV_size]; exact vp_in_nI hi hz) rfl rfl d fun H1 e1 e2 e3 => ?_
  refine k H1 _ ls (HP.set ok hH e2 e3 ?_ hp) (hS.put e2 e3 bG_le) hL
  show H1[bG g + ad a]? = some (vp_cell _ _)
  rw [e1, e0]
  rw [vp_cell_i, vp_cell_i, arrV_store]
  congr 2
  funext j
  by_cases hj : j = i
  · subst hj
    simp [updV, upd]
  · simp [updV, upd, hj]
theorem V.last {len i : Nat} {x : Int32} {a : VA} {f : Nat → Int64} {v : Int64} (C : Cx Γ g cc y nL ret lvl mc ms) (d : decode cc pc = .ok (.lastore, 1)) (hq : pc + 1 = q) (ok : Ok a n) (hc : PH a = .inl (g.2.1 3, len, .inr (.inl f))) (hx : x = nI i) (hi : i < len) (hz : len < 2 ^ 31) (hp : up PH a (.inl (g.2.1 3, len, .inr (.inl (vp_updL f i v)))) = PH1) (k : V l Γ g nL Q cells slots n PH1 q lv (st)) : V l Γ g nL Q cells slots n PH pc lv (.long v :: .int x :: rf g a :: st) := by
  subst hx
  obtain ⟨p, e, R, s, m, args, below, meth, c⟩ := Γ
  subst hq
  intro H locs ls hH hS hL
  have e0 := nI_clamp (n := i) (by omega)
  have hat := hH.2 (ad a) (bG g + ad a, .inl (g.2.1 3, len, .inr (.inl f))) (by rw [wl_at ok, hc])
  refine W.last C.1 C.2.1 hat ((C.2.2.2.2.2.1.2 3 (g.2.1 3, .long) rfl).1 len (fun j => .long (f j))) (fun q => by cases q) (by show ¬ (nI i < 0 ∨ (arrV _ _ _).slots.size ≤ _); rw [arrV_size]; exact vp_in_nI hi hz) rfl rfl d fun H1 e1 e2 e3 => ?_
  refine k H1 _ ls (HP.set ok hH e2 e3 ?_ hp) (hS.put e2 e3 bG_le) hL
  show H1[bG g + ad a]? = some (vp_cell _ _)
  rw [e1, e0]
  rw [vp_cell_l, vp_cell_l, arrV_store]
  congr 2
  funext j
  by_cases hj : j = i
  · subst hj
    simp [updV, vp_updL]
  · simp [updV, vp_updL, hj]
theorem V.bast {len i : Nat} {x : Int32} {a : VA} {f : Nat → Int32} {v u : Int32} (C : Cx Γ g cc y nL ret lvl mc ms) (d : decode cc pc = .ok (.bastore, 1)) (hq : pc + 1 = q) (ok : Ok a n) (hc : PH a = .inl (g.2.1 1, len, .inl f)) (hx : x = nI i) (hi : i < len) (hz : len < 2 ^ 31) (hu : narrow .byte (.int v) = .int u) (hp : up PH a (.inl (g.2.1 1, len, .inl (upd f i u))) = PH1) (k : V l Γ g nL Q cells slots n PH1 q lv (st)) : V l Γ g nL Q cells slots n PH pc lv (.int v :: .int x :: rf g a :: st) := by
  subst hx
  obtain ⟨p, e, R, s, m, args, below, meth, c⟩ := Γ
  subst hq
  intro H locs ls hH hS hL
  have e0 := nI_clamp (n := i) (by omega)
  have hat := hH.2 (ad a) (bG g + ad a, .inl (g.2.1 1, len, .inl f)) (by rw [wl_at ok, hc])
  refine W.bast C.1 C.2.1 hat ((C.2.2.2.2.2.1.2 1 (g.2.1 1, .byte) rfl).1 len (fun j => .int (f j))) (fun q => by cases q) (by show ¬ (nI i < 0 ∨ (arrV _ _ _).slots.size ≤ _); rw [arrV_size]; exact vp_in_nI hi hz) rfl rfl d fun H1 e1 e2 e3 => ?_
  refine k H1 _ ls (HP.set ok hH e2 e3 ?_ hp) (hS.put e2 e3 bG_le) hL
  show H1[bG g + ad a]? = some (vp_cell _ _)
  rw [e1, e0]
  rw [vp_cell_i, vp_cell_i, arrV_store]
  congr 2
  funext j
  by_cases hj : j = i
  · subst hj
    simp [updV, upd, hu]
  · simp [updV, upd, hj]
theorem V.cast {len i : Nat} {x : Int32} {a : VA} {f : Nat → Int32} {v u : Int32} (C : Cx Γ g cc y nL ret lvl mc ms) (d : decode cc pc = .ok (.castore, 1)) (hq : pc + 1 = q) (ok : Ok a n) (hc : PH a = .inl (g.2.1 2, len, .inl f)) (hx : x = nI i) (hi : i < len) (hz : len < 2 ^ 31) (hu : narrow .char (.int v) = .int u) (hp : up PH a (.inl (g.2.1 2, len, .inl (upd f i u))) = PH1) (k : V l Γ g nL Q cells slots n PH1 q lv (st)) : V l Γ g nL Q cells slots n PH pc lv (.int v :: .int x :: rf g a :: st) := by
  subst hx
  obtain ⟨p, e, R, s, m, args, below, meth, c⟩ := Γ
  subst hq
  intro H locs ls hH hS hL
  have e0 := nI_clamp (n := i) (by omega)
  have hat := hH.2 (ad a) (bG g + ad a, .inl (g.2.1 2, len, .inl f)) (by rw [wl_at ok, hc])
  refine W.cast C.1 C.2.1 hat ((C.2.2.2.2.2.1.2 2 (g.2.1 2, .char) rfl).1 len (fun j => .int (f j))) (fun q => by cases q) (by show ¬ (nI i < 0 ∨ (arrV _ _ _).slots.size ≤ _); rw [arrV_size]; exact vp_in_nI hi hz) rfl rfl d fun H1 e1 e2 e3 => ?_
  refine k H1 _ ls (HP.set ok hH e2 e3 ?_ hp) (hS.put e2 e3 bG_le) hL
  show H1[bG g + ad a]? = some (vp_cell _ _)
  rw [e1, e0]
  rw [vp_cell_i, vp_cell_i, arrV_store]
  congr 2
  funext j
  by_cases hj : j = i
  · subst hj
    simp [updV, upd, hu]
  · simp [updV, upd, hj]
theorem V.aast {len i : Nat} {x : Int32} {a : VA} {f : Nat → Option Nat} {t0 ci : Nat} {cA : ClassId} {rr : vw_C} {vs : List Value} {b : VA} (C : Cx Γ g cc y nL ret lvl mc ms) (d : decode cc pc = .ok (.aastore, 1)) (hq : pc + 1 = q) (ok : Ok a n) (hc : PH a = .inl (cA, len, .inr (.inr (.inr (.inr f))))) (ht : (tysL g.2.1)[t0]? = some (cA, .object rr.1)) (okb : Ok b n) (hcb : PH b = .inr (ci, vs)) (hr : vwCl[ci]? = some rr) (hx : x = nI i) (hi : i < len) (hz : len < 2 ^ 31) (hp : up PH a (.inl (cA, len, .inr (.inr (.inr (.inr (va_up f i (some (bG g + ad b)))))))) = PH1) (k : V l Γ g nL Q cells slots n PH1 q lv (st)) : V l Γ g nL Q cells slots n PH pc lv (rf g b :: .int x :: rf g a :: st) := by
  subst hx
  obtain ⟨p, e, R, s, m, args, below, meth, c⟩ := Γ
  subst hq
  intro H locs ls hH hS hL
  have e0 := nI_clamp (n := i) (by omega)
  have hat := hH.2 (ad a) (bG g + ad a, .inl (cA, len, .inr (.inr (.inr (.inr f))))) (by rw [wl_at ok, hc])
  obtain ⟨r', hr', cellV, g1, g2, g3, -⟩ := hH.2 (ad b) (bG g + ad b, .inr (ci, vs)) (by rw [wl_at okb, hcb])
  have hcls := (C.2.2.2.2.2.1.1 ci rr hr).2
  obtain ⟨kA, comp, k1, k2, k3, -⟩ := (C.2.2.2.2.2.1.2 t0 _ ht).2
  have hcomp : comp = g.1.1 ci := Option.some.inj (k3.symm.trans hcls.1)
  subst hcomp
  obtain ⟨kC, hkC, -⟩ := hcls.2
  refine W.aast C.1 C.2.1 hat (fun q h => by cases h) (fun h => by cases h) k1 k2 rfl hkC ⟨nI_pos (by omega), by show _ < (arrV _ _ _).slots.size; rw [arrV_size, e0]; exact hi⟩ g1 (fun q h => by rw [g3] at h; cases h) (by rw [g2]; exact hkC) (by rw [g2]; exact va_assign hcls) rfl rfl d fun H1 e1 e2 e3 => ?_
  refine k H1 _ ls (HP.set ok hH e2 e3 ?_ hp) (hS.put e2 e3 bG_le) hL
  show H1[bG g + ad a]? = some (vp_cell _ _)
  rw [e1, e0]
  rw [vp_cell_q, vp_cell_q, arrV_store]
  congr 2
  funext j
  by_cases hj : j = i
  · subst hj
    simp [updV, va_up, va_rf]
  · simp [updV, va_up, hj]
theorem V.alen {xx : vp_A} {cA : ClassId} {t0 : Nat} {tt : FieldType} {v : Int32} {a : VA} (C : Cx Γ g cc y nL ret lvl mc ms) (d : decode cc pc = .ok (.arraylength, 1)) (hq : pc + 1 = q) (ok : Ok a n) (hc : PH a = .inl (cA, xx)) (ht : (tysL g.2.1)[t0]? = some (cA, tt)) (hv : nI xx.1 = v) (k : V l Γ g nL Q cells slots n PH q lv (.int v :: st)) : V l Γ g nL Q cells slots n PH pc lv (rf g a :: st) := by
  obtain ⟨p, e, R, s, m, args, below, meth, c⟩ := Γ
  subst hq
  intro H locs ls hH hS hL
  exact va_alen C.1 C.2.1 C.2.2.2.2.2.1 hH.2 (ad a) t0 (by rw [wl_at ok, hc]) ht hv d (k H locs ls hH hS hL)
theorem V.ireturn {post : Option Value → PHp → Nat → Prop} {v : Int32} (C : Cx Γ g cc y nL (some .int) lvl mc ms) (d : decode cc pc = .ok (.ireturn, 1)) (h : post (some (.int v)) PH n) : V l Γ g nL (QM Γ g post cells slots) cells slots n PH pc lv (.int v :: []) := by
  obtain ⟨p, e, R, s, m, args, below, meth, c⟩ := Γ
  intro H locs ls hH hS hL
  exact W.iret C.1 C.2.1 C.2.2.2.2.2.2.2.2.1 (fun t ht hW => ⟨⟨_, PH, n, rfl, h, by rw [ht]; exact hH⟩, hS.F ht⟩) hS.2.2 d C.2.2.2.2.2.2.2.1
theorem V.zreturn {post : Option Value → PHp → Nat → Prop} {v : Int32} {rt : FieldType} (C : Cx Γ g cc y nL (some rt) lvl mc ms) (d : decode cc pc = .ok (.ireturn, 1)) (hn : narrow rt (.int v) = .int v) (h : post (some (.int v)) PH n) : V l Γ g nL (QM Γ g post cells slots) cells slots n PH pc lv (.int v :: []) := by
  obtain ⟨p, e, R, s, m, args, below, meth, c⟩ := Γ
  intro H locs ls hH hS hL
  exact W.zret C.1 C.2.1 C.2.2.2.2.2.2.2.2.1 hn (fun t ht hW => ⟨⟨_, PH, n, rfl, h, by rw [ht]; exact hH⟩, hS.F ht⟩) hS.2.2 d C.2.2.2.2.2.2.2.1
theorem V.lreturn {post : Option Value → PHp → Nat → Prop} {v : Int64} (C : Cx Γ g cc y nL (some .long) lvl mc ms) (d : decode cc pc = .ok (.lreturn, 1)) (h : post (some (.long v)) PH n) : V l Γ g nL (QM Γ g post cells slots) cells slots n PH pc lv (.long v :: []) := by
  obtain ⟨p, e, R, s, m, args, below, meth, c⟩ := Γ
  intro H locs ls hH hS hL
  exact W.lret C.1 C.2.1 C.2.2.2.2.2.2.2.2.1 (fun t ht hW => ⟨⟨_, PH, n, rfl, h, by rw [ht]; exact hH⟩, hS.F ht⟩) hS.2.2 d C.2.2.2.2.2.2.2.1
theorem V.vreturn {post : Option Value → PHp → Nat → Prop} (C : Cx Γ g cc y nL none lvl mc ms) (d : decode cc pc = .ok (.return_, 1)) (h : post none PH n) : V l Γ g nL (QM Γ g post cells slots) cells slots n PH pc lv ([]) := by
  obtain ⟨p, e, R, s, m, args, below, meth, c⟩ := Γ
  intro H locs ls hH hS hL
  exact W.vret C.1 C.2.1 C.2.2.2.2.2.2.2.2.1 (fun t ht hW => ⟨⟨_, PH, n, rfl, h, by rw [ht]; exact hH⟩, hS.F ht⟩) hS.2.2 d C.2.2.2.2.2.2.2.1
theorem V.widen {c2 s2 : Nat} (h1 : cells ≤ c2) (h2 : slots ≤ s2) (k : V l Γ g nL Q c2 s2 n PH pc lv st) : V l Γ g nL Q cells slots n PH pc lv (st) := by
  obtain ⟨p, e, R, s, m, args, below, meth, c⟩ := Γ
  intro H locs ls hH hS hL
  exact W.widen h1 h2 (k H locs ls hH hS hL)
end VROWS
end
section
/-- what the tables say of a method that is called -/
def ME (y : MethodName) (cc : ByteArray) (nL : Nat) (ret : Option FieldType) (k : Nat) : Prop := Cond.code y cc nL ret ∈ gws ∧ Cond.initialized y.cls ∈ gws ∧ (y.cls ≠ "java/lang/invoke/MethodHandle" ∧ y.cls ≠ "java/lang/invoke/VarHandle" ∧ (parseMethodDescriptor y.desc).map (fun d => d.parameters.length) = some k) ∧ nL ≤ 21
def MEV (y : MethodName) (cc : ByteArray) (nL : Nat) (ret : Option FieldType) (k ci : Nat) : Prop := ME y cc nL ret k ∧ Cond.instanceMethod y ∈ gws ∧ Cond.selects y.cls y y ∈ gws ∧ ∃ (T : u_T) (N : Nat), vwCl[ci]? = some (y.cls, T, N)
def MES (y : MethodName) (cc : ByteArray) (nL : Nat) (ret : Option FieldType) (k : Nat) : Prop := ME y cc nL ret k ∧ Cond.static y ∈ gws
def MEI (y : MethodName) (cc : ByteArray) (nL : Nat) (k : Nat) : Prop := ME y cc nL none k ∧ Cond.instanceMethod y ∈ gws ∧ y.name = "<init>"
theorem gw_code {y : MethodName} {cc : ByteArray} {nL : Nat} {ret : Option FieldType} {k : Nat} (h : ME y cc nL ret k) : GoodIn gws (.code y cc nL ret :: gws) := fun w hw => (List.mem_cons.mp hw).elim (fun e => e ▸ gw_all _ h.1) (gw_all w)
theorem RP.blind {g : GG} {PH : PHp} {n : Nat} {av : List Value} : FrameBlind (va_Pc av (RP g PH n)) := fun a U gg mk h => by
  obtain ⟨h1, h2, h3, h4, h5⟩ := h
  exact ⟨h1, h2, va_K.moved (u := U) (U := U.calling gg mk a) (Vm.Alike.refl U.vm) h3, SK.moved (u := U) (U := U.calling gg mk a) (Vm.Alike.refl U.vm) h4, SR.same (u := U) rfl h5⟩
theorem Cx.rp {p : Program} {e : Env} {R : Room} {s : State} {m : MethodId} {args : Array Value} {below : List Frame} {meth : Method} {c : Code} {g : GG} {cc : ByteArray} {y : MethodName} {nL : Nat} {ret : Option FieldType} {lvl mc ms n : Nat} {PH : PHp} {H : Heap} {locs : List Loc}
    (C : Cx (p, e, R, s, m, args, below, meth, c) g cc y nL ret lvl mc ms) (hH : HP g PH n H) (hS : va_S (fun q => bG g ≤ q) s.heap H locs) {U : State} (hU : U.heap = H) (hW : s.WarmedH U.vm) : RP g PH n U :=
  ⟨by rw [hU]; exact hH, va_K.moved hW.alike C.2.2.2.2.2.1, SK.moved hW.alike (by rw [hU]; exact SK.kept C.2.2.2.2.2.2.2.2.2.1 (fun a h1 h2 => hS.2.1 a h1 h2)), SR.warm hW C.2.2.2.2.2.2.2.2.2.2.1⟩
theorem Cx.room {p : Program} {e : Env} {R : Room} {s : State} {m : MethodId} {args : Array Value} {below : List Frame} {meth : Method} {c : Code} {g : GG} {cc : ByteArray} {y : MethodName} {nL : Nat} {ret : Option FieldType} {lvl mc ms lvl1 nL1 mc1 ms1 : Nat}
    (C : Cx (p, e, R, s, m, args, below, meth, c) g cc y nL ret lvl mc ms) (h : lvl1 + 1 ≤ lvl) (hn : nL1 ≤ 21) : (rmL lvl1 mc1 ms1).frames + 1 ≤ R.frames ∧ 8 + (nL1 + 11) + (rmL lvl1 mc1 ms1).locals ≤ R.locals := by
  have h1 := C.2.2.2.2.2.2.2.2.2.2.2.2.1
  have h2 := C.2.2.2.2.2.2.2.2.2.2.2.2.2.1
  exact ⟨by show lvl1 + 1 ≤ _; omega, by show 8 + (nL1 + 11) + 40 * lvl1 ≤ _; omega⟩
theorem Cx.cells {p : Program} {e : Env} {R : Room} {s : State} {m : MethodId} {args : Array Value} {below : List Frame} {meth : Method} {c : Code} {g : GG} {cc : ByteArray} {y : MethodName} {nL : Nat} {ret : Option FieldType} {lvl mc ms : Nat}
    (C : Cx (p, e, R, s, m, args, below, meth, c) g cc y nL ret lvl mc ms) {k j : Nat} (h : k ≤ mc) (h2 : j ≤ ms) : k ≤ R.cells ∧ j ≤ R.slots := by
  have h3 := C.2.2.2.2.2.2.2.2.2.2.2.2.2.2.1
  have h4 := C.2.2.2.2.2.2.2.2.2.2.2.2.2.2.2
  omega
section VCALLS
variable {l : Launch} {g : GG} {cc : ByteArray} {y : MethodName} {nL : Nat} {ret : Option FieldType} {lvl mc ms : Nat} {Q : State → Prop} {cells slots n : Nat} {PH PH1 : PHp} {pc q : Nat} {lv : List (Option Value)} {st st0 rest As : List Value}
variable {y1 : MethodName} {cc1 : ByteArray} {nL1 : Nat} {ret1 : Option FieldType} {lvl1 mc1 ms1 k1 idx ci : Nat} {a : VA} {post : Option Value → PHp → Nat → Prop}
theorem V.ofRun {p : Program} {e : Env} {R : Room} {s : State} {m : MethodId} {args : Array Value} {below : List Frame} {meth : Method} {c : Code} {H : Heap} {locs : List Loc} {ls : Array Slot} {a9 : Array Value} (hr : va_Run p l e R s m args below meth c H locs cells slots mc1 ms1 (F0 m pc ls st0) rest (QC g post a9) (fun q => bG g ≤ q))
    (hS : va_S (fun q => bG g ≤ q) s.heap H locs) (hL : LV ls nL lv) (kk : ∀ v PH' n', post v PH' n' → V l (p, e, R, s, m, args, below, meth, c) g nL Q (cells + mc1) (slots + ms1) n' PH' (pc + 3) lv (v.toList ++ rest)) : W p l e R s m args below meth c H locs cells slots Q (F0 m pc ls st0) := by
  intro T hT X
  obtain ⟨v, st₀, t, T', L, h0, X', hL', e1, e2, ⟨⟨v', PH', n', hv, hp, hH'⟩, hz, hk⟩, st⟩ := hr T hT X
  cases hv
  rw [h0] at hz hk
  obtain ⟨t2, a1, b1⟩ := kk v PH' n' hp T'.heap (locs ++ L) ls (by rw [e1]; exact hH')
    ⟨Nat.le_trans hS.1 (by rw [e1]; exact hz), fun q h1 h2 => by rw [e1, hk q (Nat.lt_of_lt_of_le h1 hS.1) h2]; exact hS.2.1 q h1 h2, fun q hq => by
      rcases List.mem_append.mp hq with h | h
      · exact hS.2.2 q h
      · exact hL' q h⟩ hL T' rfl X'
  exact ⟨t2, st t2 a1, b1⟩
theorem V.callV {Γ : Cxt} (C : Cx Γ g cc y nL ret lvl mc ms) (M : MEV y1 cc1 nL1 ret1 k1 ci) (hM : Ct l g y1 cc1 nL1 ret1 lvl1 mc1 ms1 (rf g a :: As) n PH post) (hl : Cond.methodLink y.cls idx y1 ∈ gws) (d : decode cc pc = .ok (.invokevirtual idx, 3)) (hq : pc + 3 = q) (ok : Ok a n) (hc : ∃ fs, PH a = .inr (ci, fs)) (hk : As.length = k1) (hst : st0 = As.reverse ++ rf g a :: rest) (hw : (rest.map fun v => v.category).sum ≤ 8) (hlv : lvl1 + 1 ≤ lvl) (hmc : cells + mc1 ≤ mc) (hms : slots + ms1 ≤ ms)
    (kk : ∀ v PH' n', post v PH' n' → V l Γ g nL Q (cells + mc1) (slots + ms1) n' PH' q lv (v.toList ++ rest)) : V l Γ g nL Q cells slots n PH pc lv st0 := by
  obtain ⟨p, e, R, s, m, args, below, meth, c⟩ := Γ
  subst hq
  intro H locs ls hH hS hL
  obtain ⟨⟨M1, M2, M3, M4⟩, Mi, Ms, T, N, hcl⟩ := M
  obtain ⟨fs, hc⟩ := hc
  have hr := C.room (mc1 := mc1) (ms1 := ms1) hlv M4
  refine V.ofRun (rest := rest) (va_runV (Ts := gws) (own := y.cls) (C := y1.cls) (b := bG g + ad a) (As := As) (n := k1) ⟨C.1, C.2.1, C.2.2.1, C.2.2.2.1, C.2.2.2.2.1⟩ hM ⟨callB_of k1 C.2.2.2.2.1 (gw_code ⟨M1, M2, M3, M4⟩) rfl rfl rfl (C.2.2.2.2.1 _ M2) (C.2.2.2.2.1 _ hl) M3 hr, C.2.2.2.2.1 _ Mi, C.2.2.2.2.1 _ Ms⟩ ⟨RP.blind, va_recv C.2.2.2.2.2.1 hH.2 (ci := ci) (q0 := ad a) hcl (by rw [wl_at ok, hc]), fun U hU hW => ⟨rfl, C.rp hH hS hU hW⟩⟩ rfl hk hL.1 hst (lv_room hw) d (C.cells hmc hms)) hS hL kk
theorem V.callS {Γ : Cxt} (C : Cx Γ g cc y nL ret lvl mc ms) (M : MES y1 cc1 nL1 ret1 k1) (hM : Ct l g y1 cc1 nL1 ret1 lvl1 mc1 ms1 As n PH post) (hl : Cond.methodLink y.cls idx y1 ∈ gws) (d : decode cc pc = .ok (.invokestatic idx, 3)) (hq : pc + 3 = q) (hk : As.length = k1) (hst : st0 = As.reverse ++ rest) (hw : (rest.map fun v => v.category).sum ≤ 8) (hlv : lvl1 + 1 ≤ lvl) (hmc : cells + mc1 ≤ mc) (hms : slots + ms1 ≤ ms)
    (kk : ∀ v PH' n', post v PH' n' → V l Γ g nL Q (cells + mc1) (slots + ms1) n' PH' q lv (v.toList ++ rest)) : V l Γ g nL Q cells slots n PH pc lv st0 := by
  obtain ⟨p, e, R, s, m, args, below, meth, c⟩ := Γ
  subst hq
  intro H locs ls hH hS hL
  obtain ⟨⟨M1, M2, M3, M4⟩, Ms⟩ := M
  have hr := C.room (mc1 := mc1) (ms1 := ms1) hlv M4
  refine V.ofRun (rest := rest) (va_runS (Ts := gws) (own := y.cls) (As := As) (n := k1) ⟨C.1, C.2.1, C.2.2.1, C.2.2.2.1, C.2.2.2.2.1⟩ hM ⟨callB_of k1 C.2.2.2.2.1 (gw_code ⟨M1, M2, M3, M4⟩) rfl rfl rfl (C.2.2.2.2.1 _ M2) (C.2.2.2.2.1 _ hl) M3 hr, C.2.2.2.2.1 _ Ms⟩ ⟨RP.blind, fun U hU hW => ⟨rfl, C.rp hH hS hU hW⟩⟩ rfl hk hL.1 hst (lv_room hw) d (C.cells hmc hms)) hS hL kk
theorem V.callI {Γ : Cxt} (C : Cx Γ g cc y nL ret lvl mc ms) (M : MEI y1 cc1 nL1 k1) (hM : Ct l g y1 cc1 nL1 none lvl1 mc1 ms1 (rf g a :: As) n PH post) (hl : Cond.methodLink y.cls idx y1 ∈ gws) (d : decode cc pc = .ok (.invokespecial idx, 3)) (hq : pc + 3 = q) (hk : As.length = k1) (hst : st0 = As.reverse ++ rf g a :: rest) (hw : (rest.map fun v => v.category).sum ≤ 8) (hlv : lvl1 + 1 ≤ lvl) (hmc : cells + mc1 ≤ mc) (hms : slots + ms1 ≤ ms)
    (kk : ∀ v PH' n', post v PH' n' → V l Γ g nL Q (cells + mc1) (slots + ms1) n' PH' q lv (v.toList ++ rest)) : V l Γ g nL Q cells slots n PH pc lv st0 := by
  obtain ⟨p, e, R, s, m, args, below, meth, c⟩ := Γ
  subst hq
  intro H locs ls hH hS hL
  obtain ⟨⟨M1, M2, M3, M4⟩, Mi, Mn⟩ := M
  have hr := C.room (mc1 := mc1) (ms1 := ms1) hlv M4
  refine V.ofRun (rest := rest) (va_runI (Ts := gws) (own := y.cls) (b := bG g + ad a) (As := As) (n := k1) ⟨C.1, C.2.1, C.2.2.1, C.2.2.2.1, C.2.2.2.2.1⟩ hM ⟨callB_of k1 C.2.2.2.2.1 (gw_code ⟨M1, M2, M3, M4⟩) rfl rfl rfl (C.2.2.2.2.1 _ M2) (C.2.2.2.2.1 _ hl) M3 hr, Mn, C.2.2.2.2.1 _ Mi⟩ ⟨RP.blind, fun U hU hW => ⟨rfl, C.rp hH hS hU hW⟩⟩ rfl hk hL.1 hst (lv_room hw) d (C.cells hmc hms)) hS hL kk
/-- the same where the method is a nest mate's private one -/
theorem V.callSN {Γ : Cxt} {host : String} (C : Cx Γ g cc y nL ret lvl mc ms) (M : MES y1 cc1 nL1 ret1 k1) (hM : Ct l g y1 cc1 nL1 ret1 lvl1 mc1 ms1 As n PH post) (hl : (y.cls, idx, y1, host) ∈ nests) (d : decode cc pc = .ok (.invokestatic idx, 3)) (hq : pc + 3 = q) (hk : As.length = k1) (hst : st0 = As.reverse ++ rest) (hw : (rest.map fun v => v.category).sum ≤ 8) (hlv : lvl1 + 1 ≤ lvl) (hmc : cells + mc1 ≤ mc) (hms : slots + ms1 ≤ ms)
    (kk : ∀ v PH' n', post v PH' n' → V l Γ g nL Q (cells + mc1) (slots + ms1) n' PH' q lv (v.toList ++ rest)) : V l Γ g nL Q cells slots n PH pc lv st0 := by
  obtain ⟨p, e, R, s, m, args, below, meth, c⟩ := Γ
  subst hq
  intro H locs ls hH hS hL
  obtain ⟨⟨M1, M2, M3, M4⟩, Ms⟩ := M
  have hr := C.room (mc1 := mc1) (ms1 := ms1) hlv M4
  refine V.ofRun (rest := rest) (va_runSN (Ts := gws) (own := y.cls) (host := host) (As := As) (n := k1) ⟨C.1, C.2.1, C.2.2.1, C.2.2.2.1, C.2.2.2.2.1⟩ hM ⟨va_cnB k1 C.2.2.2.2.1 (gw_code ⟨M1, M2, M3, M4⟩) rfl rfl rfl (C.2.2.2.2.2.2.2.2.2.2.1.2.1 _ hl) (C.2.2.2.2.1 _ M2) M3 hr, C.2.2.2.2.1 _ Ms, trivial⟩ ⟨RP.blind, fun U hU hW => ⟨rfl, C.rp hH hS hU hW⟩⟩ rfl hk hL.1 hst (lv_room hw) d (C.cells hmc hms)) hS hL kk
theorem V.callIN {Γ : Cxt} {host : String} (C : Cx Γ g cc y nL ret lvl mc ms) (M : MEI y1 cc1 nL1 k1) (hM : Ct l g y1 cc1 nL1 none lvl1 mc1 ms1 (rf g a :: As) n PH post) (hl : (y.cls, idx, y1, host) ∈ nests) (d : decode cc pc = .ok (.invokespecial idx, 3)) (hq : pc + 3 = q) (hk : As.length = k1) (hst : st0 = As.reverse ++ rf g a :: rest) (hw : (rest.map fun v => v.category).sum ≤ 8) (hlv : lvl1 + 1 ≤ lvl) (hmc : cells + mc1 ≤ mc) (hms : slots + ms1 ≤ ms)
    (kk : ∀ v PH' n', post v PH' n' → V l Γ g nL Q (cells + mc1) (slots + ms1) n' PH' q lv (v.toList ++ rest)) : V l Γ g nL Q cells slots n PH pc lv st0 := by
  obtain ⟨p, e, R, s, m, args, below, meth, c⟩ := Γ
  subst hq
  intro H locs ls hH hS hL
  obtain ⟨⟨M1, M2, M3, M4⟩, Mi, Mn⟩ := M
  have hr := C.room (mc1 := mc1) (ms1 := ms1) hlv M4
  refine V.ofRun (rest := rest) (va_runIN (Ts := gws) (own := y.cls) (host := host) (b := bG g + ad a) (As := As) (n := k1) ⟨C.1, C.2.1, C.2.2.1, C.2.2.2.1, C.2.2.2.2.1⟩ hM ⟨va_cnB k1 C.2.2.2.2.1 (gw_code ⟨M1, M2, M3, M4⟩) rfl rfl rfl (C.2.2.2.2.2.2.2.2.2.2.1.2.1 _ hl) (C.2.2.2.2.1 _ M2) M3 hr, Mn, C.2.2.2.2.1 _ Mi⟩ ⟨RP.blind, fun U hU hW => ⟨rfl, C.rp hH hS hU hW⟩⟩ rfl hk hL.1 hst (lv_room hw) d (C.cells hmc hms)) hS hL kk
end VCALLS
end
section
/-! which fields and methods the constant pools name: by program -/
theorem in_places {big ws : List Cond} (ps : List Nat) (h : ps.map (fun i => big[i]?) = ws.map some) : ∀ w ∈ ws, w ∈ big := by
  intro w hw
  have h1 : some w ∈ ws.map some := List.mem_map_of_mem hw
  rw [← h] at h1
  obtain ⟨i, -, hi⟩ := List.mem_map.mp h1
  exact List.mem_of_getElem? hi
theorem tb_at {w : Cond} (i : Nat) (h : tables_1[i]? = some w) (hg : goodWord w = true) : w ∈ gws := gws_of (List.mem_append_right _ (List.mem_of_getElem? h)) hg
theorem sl_at {y : MethodName} (i : Nat) (h : (k2_sels lw_privs)[i]? = some (Cond.selects y.cls y y)) : Cond.selects y.cls y y ∈ gws := gws_of (List.mem_append_left _ (List.mem_of_getElem? h)) rfl
theorem uw_X0 : ∀ w ∈ u_ws RX0 TX0 5, w ∈ gws := fun w hw => gws_of (List.mem_append_right _ (in_places [42, 44, 46, 48, 50] (by decide +kernel) w hw)) (List.all_eq_true.mp (show (u_ws RX0 TX0 5).all goodWord = true by decide +kernel) w hw)
theorem uw_X1 : ∀ w ∈ u_ws RX1 TX1 4, w ∈ gws := fun w hw => gws_of (List.mem_append_right _ (in_places [212, 214, 216, 218] (by decide +kernel) w hw)) (List.all_eq_true.mp (show (u_ws RX1 TX1 4).all goodWord = true by decide +kernel) w hw)
theorem uw_X2 : ∀ w ∈ u_ws RX2 TX2 3, w ∈ gws := fun w hw => gws_of (List.mem_append_right _ (in_places [65, 67, 69] (by decide +kernel) w hw)) (List.all_eq_true.mp (show (u_ws RX2 TX2 3).all goodWord = true by decide +kernel) w hw)
theorem uw_X3 : ∀ w ∈ u_ws RX3 TX3 4, w ∈ gws := fun w hw => gws_of (List.mem_append_right _ (in_places [195, 197, 199, 201] (by decide +kernel) w hw)) (List.all_eq_true.mp (show (u_ws RX3 TX3 4).all goodWord = true by decide +kernel) w hw)
theorem uw_X4 : ∀ w ∈ u_ws RX4 TX4 3, w ∈ gws := fun w hw => gws_of (List.mem_append_right _ (in_places [140, 142, 144] (by decide +kernel) w hw)) (List.all_eq_true.mp (show (u_ws RX4 TX4 3).all goodWord = true by decide +kernel) w hw)
theorem uw_X5 : ∀ w ∈ u_ws RX5 TX5 3, w ∈ gws := fun w hw => gws_of (List.mem_append_right _ (in_places [249, 251, 253] (by decide +kernel) w hw)) (List.all_eq_true.mp (show (u_ws RX5 TX5 3).all goodWord = true by decide +kernel) w hw)
theorem uw_X6 : ∀ w ∈ u_ws RX6 TX6 2, w ∈ gws := fun w hw => gws_of (List.mem_append_right _ (in_places [231, 233] (by decide +kernel) w hw)) (List.all_eq_true.mp (show (u_ws RX6 TX6 2).all goodWord = true by decide +kernel) w hw)
theorem uw_X7 : ∀ w ∈ u_ws RX7 TX7 7, w ∈ gws := fun w hw => gws_of (List.mem_append_right _ (in_places [111, 113, 115, 117, 119, 121, 123] (by decide +kernel) w hw)) (List.all_eq_true.mp (show (u_ws RX7 TX7 7).all goodWord = true by decide +kernel) w hw)
theorem uw_X8 : ∀ w ∈ u_ws RX8 TX8 6, w ∈ gws := fun w hw => gws_of (List.mem_append_right _ (in_places [159, 161, 163, 165, 167, 169] (by decide +kernel) w hw)) (List.all_eq_true.mp (show (u_ws RX8 TX8 6).all goodWord = true by decide +kernel) w hw)
theorem uw_X9 : ∀ w ∈ u_ws RX9 TX9 12, w ∈ gws := fun w hw => gws_of (List.mem_append_right _ (in_places [269, 271, 273, 275, 277, 279, 281, 283, 285, 287, 289, 291] (by decide +kernel) w hw)) (List.all_eq_true.mp (show (u_ws RX9 TX9 12).all goodWord = true by decide +kernel) w hw)
theorem uw_X10 : ∀ w ∈ u_ws RX10 TX10 30, w ∈ gws := fun w hw => gws_of (List.mem_append_right _ (in_places [803, 805, 807, 809, 811, 813, 815, 817, 819, 821, 823, 825, 827, 829, 831, 833, 835, 837, 839, 841, 843, 845, 847, 849, 851, 853, 855, 857, 859, 861] (by decide +kernel) w hw)) (List.all_eq_true.mp (show (u_ws RX10 TX10 30).all goodWord = true by decide +kernel) w hw)
theorem fl_X9_13 : FL RX9 13 9 0 RX9 TX9 12 tyX9 := ⟨rfl, uw_X9, tyX9_ok, nmX9, tb_at 257 (by decide +kernel) rfl, rfl, by decide⟩
theorem ml_X9_17 : (RX9, 17, yX0_init, RX9) ∈ nests := by decide +kernel
theorem fl_X9_18 : FL RX9 18 9 1 RX9 TX9 12 tyX9 := ⟨rfl, uw_X9, tyX9_ok, nmX9, tb_at 258 (by decide +kernel) rfl, rfl, by decide⟩
theorem ml_X9_24 : (RX9, 24, yX2_init, RX9) ∈ nests := by decide +kernel
theorem fl_X9_25 : FL RX9 25 9 2 RX9 TX9 12 tyX9 := ⟨rfl, uw_X9, tyX9_ok, nmX9, tb_at 259 (by decide +kernel) rfl, rfl, by decide⟩
theorem ml_X9_31 : Cond.methodLink RX9 31 yX8_init ∈ gws := tb_at 75 (by decide +kernel) rfl
theorem fl_X9_34 : FL RX9 34 9 3 RX9 TX9 12 tyX9 := ⟨rfl, uw_X9, tyX9_ok, nmX9, tb_at 260 (by decide +kernel) rfl, rfl, by decide⟩
theorem fl_X9_38 : FL RX9 38 9 4 RX9 TX9 12 tyX9 := ⟨rfl, uw_X9, tyX9_ok, nmX9, tb_at 261 (by decide +kernel) rfl, rfl, by decide⟩
theorem fl_X9_41 : FL RX9 41 9 5 RX9 TX9 12 tyX9 := ⟨rfl, uw_X9, tyX9_ok, nmX9, tb_at 262 (by decide +kernel) rfl, rfl, by decide⟩
theorem ml_X9_46 : (RX9, 46, yX1_init, RX9) ∈ nests := by decide +kernel
theorem fl_X9_47 : FL RX9 47 9 6 RX9 TX9 12 tyX9 := ⟨rfl, uw_X9, tyX9_ok, nmX9, tb_at 263 (by decide +kernel) rfl, rfl, by decide⟩
theorem fl_X9_51 : FL RX9 51 9 7 RX9 TX9 12 tyX9 := ⟨rfl, uw_X9, tyX9_ok, nmX9, tb_at 264 (by decide +kernel) rfl, rfl, by decide⟩
theorem ml_X9_56 : (RX9, 56, yX6_init, RX9) ∈ nests := by decide +kernel
theorem fl_X9_57 : FL RX9 57 9 8 RX9 TX9 12 tyX9 := ⟨rfl, uw_X9, tyX9_ok, nmX9, tb_at 265 (by decide +kernel) rfl, rfl, by decide⟩
theorem fl_X9_63 : FL RX9 63 9 9 RX9 TX9 12 tyX9 := ⟨rfl, uw_X9, tyX9_ok, nmX9, tb_at 266 (by decide +kernel) rfl, rfl, by decide⟩
theorem fl_X9_67 : FL RX9 67 9 10 RX9 TX9 12 tyX9 := ⟨rfl, uw_X9, tyX9_ok, nmX9, tb_at 267 (by decide +kernel) rfl, rfl, by decide⟩
theorem fl_X9_71 : FL RX9 71 9 11 RX9 TX9 12 tyX9 := ⟨rfl, uw_X9, tyX9_ok, nmX9, tb_at 268 (by decide +kernel) rfl, rfl, by decide⟩
theorem ml_X9_75 : (RX9, 75, yX5_init, RX9) ∈ nests := by decide +kernel
theorem ml_X9_76 : Cond.methodLink RX9 76 yX9_isOut ∈ gws := tb_at 298 (by decide +kernel) rfl
theorem ml_X9_80 : Cond.methodLink RX9 80 yX8_addWearer ∈ gws := tb_at 301 (by decide +kernel) rfl
theorem ml_X9_84 : Cond.methodLink RX9 84 yX8_hasWearer ∈ gws := tb_at 313 (by decide +kernel) rfl
theorem fl_X9_88 : FL RX9 88 8 0 RX8 TX8 6 tyX8 := ⟨rfl, uw_X8, tyX8_ok, nmX8, tb_at 148 (by decide +kernel) rfl, rfl, by decide⟩
theorem fl_X9_92 : FL RX9 92 7 2 RX7 TX7 7 tyX7 := ⟨rfl, uw_X7, tyX7_ok, nmX7, tb_at 94 (by decide +kernel) rfl, rfl, by decide⟩
theorem fl_X9_97 : FL RX9 97 7 3 RX7 TX7 7 tyX7 := ⟨rfl, uw_X7, tyX7_ok, nmX7, tb_at 98 (by decide +kernel) rfl, rfl, by decide⟩
theorem fl_X9_100 : FL RX9 100 7 4 RX7 TX7 7 tyX7 := ⟨rfl, uw_X7, tyX7_ok, nmX7, tb_at 102 (by decide +kernel) rfl, rfl, by decide⟩
theorem fl_X9_103 : FL RX9 103 7 5 RX7 TX7 7 tyX7 := ⟨rfl, uw_X7, tyX7_ok, nmX7, tb_at 106 (by decide +kernel) rfl, rfl, by decide⟩
theorem fl_X9_106 : FL RX9 106 7 6 RX7 TX7 7 tyX7 := ⟨rfl, uw_X7, tyX7_ok, nmX7, tb_at 109 (by decide +kernel) rfl, rfl, by decide⟩
theorem ml_X9_109 : Cond.methodLink RX9 109 yX9_daysUntilSore ∈ gws := tb_at 317 (by decide +kernel) rfl
theorem ml_X9_113 : Cond.methodLink RX9 113 yX9_fitting ∈ gws := tb_at 370 (by decide +kernel) rfl
theorem ml_X9_117 : Cond.methodLink RX9 117 yX8_hasSaying ∈ gws := tb_at 390 (by decide +kernel) rfl
theorem ml_X9_120 : Cond.methodLink RX9 120 yX8_guard ∈ gws := tb_at 394 (by decide +kernel) rfl
theorem ml_X9_124 : Cond.methodLink RX9 124 yX8_addSaying ∈ gws := tb_at 399 (by decide +kernel) rfl
theorem fl_X9_128 : FL RX9 128 8 1 RX8 TX8 6 tyX8 := ⟨rfl, uw_X8, tyX8_ok, nmX8, tb_at 150 (by decide +kernel) rfl, rfl, by decide⟩
theorem fl_X9_132 : FL RX9 132 4 0 RX4 TX4 3 tyX4 := ⟨rfl, uw_X4, tyX4_ok, nmX4, tb_at 132 (by decide +kernel) rfl, rfl, by decide⟩
theorem fl_X9_137 : FL RX9 137 4 1 RX4 TX4 3 tyX4 := ⟨rfl, uw_X4, tyX4_ok, nmX4, tb_at 135 (by decide +kernel) rfl, rfl, by decide⟩
theorem fl_X9_140 : FL RX9 140 4 2 RX4 TX4 3 tyX4 := ⟨rfl, uw_X4, tyX4_ok, nmX4, tb_at 138 (by decide +kernel) rfl, rfl, by decide⟩
theorem fl_X9_143 : FL RX9 143 7 1 RX7 TX7 7 tyX7 := ⟨rfl, uw_X7, tyX7_ok, nmX7, tb_at 92 (by decide +kernel) rfl, rfl, by decide⟩
theorem ml_X9_147 : Cond.methodLink RX9 147 yX2_takes ∈ gws := tb_at 423 (by decide +kernel) rfl
theorem ml_X9_150 : Cond.methodLink RX9 150 yX2_makes ∈ gws := tb_at 431 (by decide +kernel) rfl
theorem fl_X9_154 : FL RX9 154 2 1 RX2 TX2 3 tyX2 := ⟨rfl, uw_X2, tyX2_ok, nmX2, tb_at 62 (by decide +kernel) rfl, rfl, by decide⟩
theorem fl_X9_157 : FL RX9 157 2 2 RX2 TX2 3 tyX2 := ⟨rfl, uw_X2, tyX2_ok, nmX2, tb_at 64 (by decide +kernel) rfl, rfl, by decide⟩
theorem fl_X9_160 : FL RX9 160 8 5 RX8 TX8 6 tyX8 := ⟨rfl, uw_X8, tyX8_ok, nmX8, tb_at 158 (by decide +kernel) rfl, rfl, by decide⟩
theorem fl_X9_163 : FL RX9 163 8 4 RX8 TX8 6 tyX8 := ⟨rfl, uw_X8, tyX8_ok, nmX8, tb_at 156 (by decide +kernel) rfl, rfl, by decide⟩
theorem fl_X9_166 : FL RX9 166 0 4 RX0 TX0 5 tyX0 := ⟨rfl, uw_X0, tyX0_ok, nmX0, tb_at 40 (by decide +kernel) rfl, rfl, by decide⟩
theorem ml_X9_169 : Cond.methodLink RX9 169 yX8_hurtOfAll ∈ gws := tb_at 588 (by decide +kernel) rfl
theorem ml_X9_173 : Cond.methodLink RX9 173 yX8_coverOfAll ∈ gws := tb_at 592 (by decide +kernel) rfl
theorem ml_X9_176 : Cond.methodLink RX9 176 yX8_strikingBits ∈ gws := tb_at 596 (by decide +kernel) rfl
theorem ml_X9_179 : Cond.methodLink RX9 179 yX8_go ∈ gws := tb_at 336 (by decide +kernel) rfl
theorem ml_X9_183 : Cond.methodLink RX9 183 yX8_become ∈ gws := tb_at 321 (by decide +kernel) rfl
theorem ml_X9_187 : Cond.methodLink RX9 187 yX9_fewestToMend ∈ gws := tb_at 612 (by decide +kernel) rfl
theorem ml_X9_190 : Cond.methodLink RX9 190 yX9_bestChange ∈ gws := tb_at 620 (by decide +kernel) rfl
theorem ml_X9_193 : Cond.methodLink RX9 193 yX9_bestTarget ∈ gws := tb_at 624 (by decide +kernel) rfl
theorem fl_X9_196 : FL RX9 196 1 0 RX1 TX1 4 tyX1 := ⟨rfl, uw_X1, tyX1_ok, nmX1, tb_at 205 (by decide +kernel) rfl, rfl, by decide⟩
theorem ml_X9_200 : Cond.methodLink RX9 200 yX3_empty ∈ gws := tb_at 633 (by decide +kernel) rfl
theorem ml_X9_205 : Cond.methodLink RX9 205 yX3_add ∈ gws := tb_at 637 (by decide +kernel) rfl
theorem fl_X9_208 : FL RX9 208 1 1 RX1 TX1 4 tyX1 := ⟨rfl, uw_X1, tyX1_ok, nmX1, tb_at 207 (by decide +kernel) rfl, rfl, by decide⟩
theorem fl_X9_213 : FL RX9 213 8 2 RX8 TX8 6 tyX8 := ⟨rfl, uw_X8, tyX8_ok, nmX8, tb_at 152 (by decide +kernel) rfl, rfl, by decide⟩
theorem ml_X9_216 : Cond.methodLink RX9 216 yX9_isMoreHurt ∈ gws := tb_at 366 (by decide +kernel) rfl
theorem ml_X9_219 : Cond.methodLink RX9 219 yX9_ofLowestTerms ∈ gws := tb_at 654 (by decide +kernel) rfl
theorem fl_X9_223 : FL RX9 223 1 2 RX1 TX1 4 tyX1 := ⟨rfl, uw_X1, tyX1_ok, nmX1, tb_at 209 (by decide +kernel) rfl, rfl, by decide⟩
theorem fl_X9_226 : FL RX9 226 3 3 RX3 TX3 4 tyX3 := ⟨rfl, uw_X3, tyX3_ok, nmX3, tb_at 194 (by decide +kernel) rfl, rfl, by decide⟩
theorem fl_X9_229 : FL RX9 229 3 1 RX3 TX3 4 tyX3 := ⟨rfl, uw_X3, tyX3_ok, nmX3, tb_at 190 (by decide +kernel) rfl, rfl, by decide⟩
theorem fl_X9_232 : FL RX9 232 3 0 RX3 TX3 4 tyX3 := ⟨rfl, uw_X3, tyX3_ok, nmX3, tb_at 188 (by decide +kernel) rfl, rfl, by decide⟩
theorem ml_X9_235 : Cond.methodLink RX9 235 yX9_followPlan ∈ gws := tb_at 669 (by decide +kernel) rfl
theorem fl_X9_238 : FL RX9 238 1 3 RX1 TX1 4 tyX1 := ⟨rfl, uw_X1, tyX1_ok, nmX1, tb_at 211 (by decide +kernel) rfl, rfl, by decide⟩
theorem fl_X9_241 : FL RX9 241 3 2 RX3 TX3 4 tyX3 := ⟨rfl, uw_X3, tyX3_ok, nmX3, tb_at 192 (by decide +kernel) rfl, rfl, by decide⟩
theorem fl_X9_244 : FL RX9 244 5 1 RX5 TX5 3 tyX5 := ⟨rfl, uw_X5, tyX5_ok, nmX5, tb_at 246 (by decide +kernel) rfl, rfl, by decide⟩
theorem fl_X9_246 : FL RX9 246 5 2 RX5 TX5 3 tyX5 := ⟨rfl, uw_X5, tyX5_ok, nmX5, tb_at 248 (by decide +kernel) rfl, rfl, by decide⟩
theorem fl_X9_247 : FL RX9 247 5 0 RX5 TX5 3 tyX5 := ⟨rfl, uw_X5, tyX5_ok, nmX5, tb_at 244 (by decide +kernel) rfl, rfl, by decide⟩
theorem ml_X9_251 : Cond.methodLink RX9 251 yX1_become ∈ gws := tb_at 689 (by decide +kernel) rfl
theorem fl_X9_254 : FL RX9 254 6 1 RX6 TX6 2 tyX6 := ⟨rfl, uw_X6, tyX6_ok, nmX6, tb_at 230 (by decide +kernel) rfl, rfl, by decide⟩
theorem ml_X9_257 : (RX9, 257, yX6_nods, RX9) ∈ nests := by decide +kernel
theorem ml_X9_261 : (RX9, 261, yX6_knocks, RX9) ∈ nests := by decide +kernel
theorem ml_X9_264 : (RX9, 264, yX6_tells, RX9) ∈ nests := by decide +kernel
theorem fl_X9_267 : FL RX9 267 6 0 RX6 TX6 2 tyX6 := ⟨rfl, uw_X6, tyX6_ok, nmX6, tb_at 228 (by decide +kernel) rfl, rfl, by decide⟩
theorem ml_X9_270 : Cond.methodLink RX9 270 yX9_kindAbove ∈ gws := tb_at 731 (by decide +kernel) rfl
theorem fl_X9_273 : FL RX9 273 8 3 RX8 TX8 6 tyX8 := ⟨rfl, uw_X8, tyX8_ok, nmX8, tb_at 154 (by decide +kernel) rfl, rfl, by decide⟩
theorem ml_X9_276 : Cond.methodLink RX9 276 yX5_become ∈ gws := tb_at 742 (by decide +kernel) rfl
theorem ml_X9_278 : Cond.methodLink RX9 278 yX5_fitted ∈ gws := tb_at 750 (by decide +kernel) rfl
theorem ml_X9_282 : Cond.methodLink RX9 282 yX5_holds ∈ gws := tb_at 762 (by decide +kernel) rfl
theorem ml_X9_291 : Cond.methodLink RX9 291 yX9_moreHurtBits ∈ gws := tb_at 616 (by decide +kernel) rfl
theorem ml_X9_297 : Cond.methodLink RX9 297 yX9_rowsFit ∈ gws := tb_at 374 (by decide +kernel) rfl
theorem ml_X9_301 : Cond.methodLink RX9 301 yX8_becomeOne ∈ gws := tb_at 386 (by decide +kernel) rfl
theorem ml_X9_305 : Cond.methodLink RX9 305 yX3_lastDay ∈ gws := tb_at 378 (by decide +kernel) rfl
theorem ml_X9_308 : Cond.methodLink RX9 308 yX9_trialValue ∈ gws := tb_at 382 (by decide +kernel) rfl
theorem fl_X10_9 : FL RX10 9 10 0 RX10 TX10 30 tyX10 := ⟨rfl, uw_X10, tyX10_ok, nmX10, tb_at 773 (by decide +kernel) rfl, rfl, by decide⟩
theorem fl_X10_15 : FL RX10 15 10 1 RX10 TX10 30 tyX10 := ⟨rfl, uw_X10, tyX10_ok, nmX10, tb_at 774 (by decide +kernel) rfl, rfl, by decide⟩
theorem fl_X10_18 : FL RX10 18 10 2 RX10 TX10 30 tyX10 := ⟨rfl, uw_X10, tyX10_ok, nmX10, tb_at 775 (by decide +kernel) rfl, rfl, by decide⟩
theorem fl_X10_21 : FL RX10 21 10 4 RX10 TX10 30 tyX10 := ⟨rfl, uw_X10, tyX10_ok, nmX10, tb_at 777 (by decide +kernel) rfl, rfl, by decide⟩
theorem fl_X10_24 : FL RX10 24 10 6 RX10 TX10 30 tyX10 := ⟨rfl, uw_X10, tyX10_ok, nmX10, tb_at 779 (by decide +kernel) rfl, rfl, by decide⟩
theorem fl_X10_27 : FL RX10 27 10 7 RX10 TX10 30 tyX10 := ⟨rfl, uw_X10, tyX10_ok, nmX10, tb_at 780 (by decide +kernel) rfl, rfl, by decide⟩
theorem fl_X10_30 : FL RX10 30 10 9 RX10 TX10 30 tyX10 := ⟨rfl, uw_X10, tyX10_ok, nmX10, tb_at 782 (by decide +kernel) rfl, rfl, by decide⟩
theorem fl_X10_33 : FL RX10 33 10 16 RX10 TX10 30 tyX10 := ⟨rfl, uw_X10, tyX10_ok, nmX10, tb_at 789 (by decide +kernel) rfl, rfl, by decide⟩
theorem fl_X10_36 : FL RX10 36 10 17 RX10 TX10 30 tyX10 := ⟨rfl, uw_X10, tyX10_ok, nmX10, tb_at 790 (by decide +kernel) rfl, rfl, by decide⟩
theorem fl_X10_40 : FL RX10 40 10 18 RX10 TX10 30 tyX10 := ⟨rfl, uw_X10, tyX10_ok, nmX10, tb_at 791 (by decide +kernel) rfl, rfl, by decide⟩
theorem fl_X10_43 : FL RX10 43 10 19 RX10 TX10 30 tyX10 := ⟨rfl, uw_X10, tyX10_ok, nmX10, tb_at 792 (by decide +kernel) rfl, rfl, by decide⟩
theorem fl_X10_46 : FL RX10 46 10 20 RX10 TX10 30 tyX10 := ⟨rfl, uw_X10, tyX10_ok, nmX10, tb_at 793 (by decide +kernel) rfl, rfl, by decide⟩
theorem fl_X10_49 : FL RX10 49 10 21 RX10 TX10 30 tyX10 := ⟨rfl, uw_X10, tyX10_ok, nmX10, tb_at 794 (by decide +kernel) rfl, rfl, by decide⟩
theorem fl_X10_52 : FL RX10 52 10 22 RX10 TX10 30 tyX10 := ⟨rfl, uw_X10, tyX10_ok, nmX10, tb_at 795 (by decide +kernel) rfl, rfl, by decide⟩
theorem fl_X10_55 : FL RX10 55 10 23 RX10 TX10 30 tyX10 := ⟨rfl, uw_X10, tyX10_ok, nmX10, tb_at 796 (by decide +kernel) rfl, rfl, by decide⟩
theorem fl_X10_58 : FL RX10 58 10 24 RX10 TX10 30 tyX10 := ⟨rfl, uw_X10, tyX10_ok, nmX10, tb_at 797 (by decide +kernel) rfl, rfl, by decide⟩
theorem fl_X10_61 : FL RX10 61 10 26 RX10 TX10 30 tyX10 := ⟨rfl, uw_X10, tyX10_ok, nmX10, tb_at 799 (by decide +kernel) rfl, rfl, by decide⟩
theorem fl_X10_64 : FL RX10 64 10 27 RX10 TX10 30 tyX10 := ⟨rfl, uw_X10, tyX10_ok, nmX10, tb_at 800 (by decide +kernel) rfl, rfl, by decide⟩
theorem fl_X10_67 : FL RX10 67 10 28 RX10 TX10 30 tyX10 := ⟨rfl, uw_X10, tyX10_ok, nmX10, tb_at 801 (by decide +kernel) rfl, rfl, by decide⟩
theorem fl_X10_71 : FL RX10 71 10 29 RX10 TX10 30 tyX10 := ⟨rfl, uw_X10, tyX10_ok, nmX10, tb_at 802 (by decide +kernel) rfl, rfl, by decide⟩
theorem fl_X10_74 : FL RX10 74 10 3 RX10 TX10 30 tyX10 := ⟨rfl, uw_X10, tyX10_ok, nmX10, tb_at 776 (by decide +kernel) rfl, rfl, by decide⟩
theorem ml_X10_78 : Cond.methodLink RX10 78 yX10_move ∈ gws := tb_at 869 (by decide +kernel) rfl
theorem ml_X10_82 : Cond.methodLink RX10 82 yX10_isIn ∈ gws := tb_at 880 (by decide +kernel) rfl
theorem ml_X10_86 : Cond.methodLink RX10 86 yX10_one ∈ gws := tb_at 887 (by decide +kernel) rfl
theorem ml_X10_90 : Cond.methodLink RX10 90 yX10_word ∈ gws := tb_at 959 (by decide +kernel) rfl
theorem ml_X10_93 : Cond.methodLink RX10 93 yX10_change ∈ gws := tb_at 883 (by decide +kernel) rfl
theorem ml_X10_97 : Cond.methodLink RX10 97 yX10_isOne ∈ gws := tb_at 895 (by decide +kernel) rfl
theorem ml_X10_101 : Cond.methodLink RX10 101 yX10_sore ∈ gws := tb_at 899 (by decide +kernel) rfl
theorem ml_X10_105 : Cond.methodLink RX10 105 yX10_covers ∈ gws := tb_at 973 (by decide +kernel) rfl
theorem ml_X10_108 : Cond.methodLink RX10 108 yX10_isSaying ∈ gws := tb_at 985 (by decide +kernel) rfl
theorem ml_X10_111 : Cond.methodLink RX10 111 yX10_guard ∈ gws := tb_at 967 (by decide +kernel) rfl
theorem ml_X10_114 : Cond.methodLink RX10 114 yX10_aims ∈ gws := tb_at 993 (by decide +kernel) rfl
theorem ml_X10_117 : Cond.methodLink RX10 117 yX10_orNever ∈ gws := tb_at 1001 (by decide +kernel) rfl
theorem fl_X10_120 : FL RX10 120 10 5 RX10 TX10 30 tyX10 := ⟨rfl, uw_X10, tyX10_ok, nmX10, tb_at 778 (by decide +kernel) rfl, rfl, by decide⟩
theorem fl_X10_124 : FL RX10 124 10 12 RX10 TX10 30 tyX10 := ⟨rfl, uw_X10, tyX10_ok, nmX10, tb_at 785 (by decide +kernel) rfl, rfl, by decide⟩
theorem fl_X10_127 : FL RX10 127 10 11 RX10 TX10 30 tyX10 := ⟨rfl, uw_X10, tyX10_ok, nmX10, tb_at 784 (by decide +kernel) rfl, rfl, by decide⟩
theorem fl_X10_130 : FL RX10 130 10 10 RX10 TX10 30 tyX10 := ⟨rfl, uw_X10, tyX10_ok, nmX10, tb_at 783 (by decide +kernel) rfl, rfl, by decide⟩
theorem ml_X10_133 : Cond.methodLink RX10 133 yX10_isAt ∈ gws := tb_at 923 (by decide +kernel) rfl
theorem ml_X10_136 : Cond.methodLink RX10 136 yX10_isDigit ∈ gws := tb_at 935 (by decide +kernel) rfl
theorem ml_X10_140 : Cond.methodLink RX10 140 yX10_takes ∈ gws := tb_at 927 (by decide +kernel) rfl
theorem ml_X10_144 : Cond.methodLink RX10 144 yX10_number ∈ gws := tb_at 931 (by decide +kernel) rfl
theorem fl_X10_148 : FL RX10 148 10 13 RX10 TX10 30 tyX10 := ⟨rfl, uw_X10, tyX10_ok, nmX10, tb_at 786 (by decide +kernel) rfl, rfl, by decide⟩
theorem ml_X10_151 : Cond.methodLink RX10 151 yX10_factor ∈ gws := tb_at 947 (by decide +kernel) rfl
theorem ml_X10_154 : Cond.methodLink RX10 154 yX10_any ∈ gws := tb_at 939 (by decide +kernel) rfl
theorem ml_X10_157 : Cond.methodLink RX10 157 yX10_test ∈ gws := tb_at 951 (by decide +kernel) rfl
theorem ml_X10_160 : Cond.methodLink RX10 160 yX10_both ∈ gws := tb_at 943 (by decide +kernel) rfl
theorem fl_X10_163 : FL RX10 163 10 15 RX10 TX10 30 tyX10 := ⟨rfl, uw_X10, tyX10_ok, nmX10, tb_at 788 (by decide +kernel) rfl, rfl, by decide⟩
theorem fl_X10_166 : FL RX10 166 10 14 RX10 TX10 30 tyX10 := ⟨rfl, uw_X10, tyX10_ok, nmX10, tb_at 787 (by decide +kernel) rfl, rfl, by decide⟩
theorem ml_X10_169 : Cond.methodLink RX10 169 yX10_clause ∈ gws := tb_at 919 (by decide +kernel) rfl
theorem ml_X10_172 : Cond.methodLink RX10 172 yX10_readAll ∈ gws := tb_at 915 (by decide +kernel) rfl
theorem fl_X10_175 : FL RX10 175 10 8 RX10 TX10 30 tyX10 := ⟨rfl, uw_X10, tyX10_ok, nmX10, tb_at 781 (by decide +kernel) rfl, rfl, by decide⟩
theorem ml_X10_178 : Cond.methodLink RX10 178 yX10_readFor ∈ gws := tb_at 911 (by decide +kernel) rfl
theorem ml_X10_190 : Cond.methodLink RX10 190 yX10_rubNow ∈ gws := tb_at 907 (by decide +kernel) rfl
theorem ml_X10_193 : Cond.methodLink RX10 193 yX10_isStriking ∈ gws := tb_at 955 (by decide +kernel) rfl
theorem ml_X10_196 : Cond.methodLink RX10 196 yX10_strikes ∈ gws := tb_at 963 (by decide +kernel) rfl
theorem ml_X10_199 : Cond.methodLink RX10 199 yX10_day ∈ gws := tb_at 903 (by decide +kernel) rfl
theorem ml_X10_202 : Cond.methodLink RX10 202 yX10_all ∈ gws := tb_at 1028 (by decide +kernel) rfl
theorem ml_X10_205 : Cond.methodLink RX10 205 yX10_days ∈ gws := tb_at 1036 (by decide +kernel) rfl
theorem ml_X10_208 : Cond.methodLink RX10 208 yX10_many ∈ gws := tb_at 1052 (by decide +kernel) rfl
theorem ml_X10_211 : Cond.methodLink RX10 211 yX10_hurtBehind ∈ gws := tb_at 1055 (by decide +kernel) rfl
theorem ml_X10_214 : Cond.methodLink RX10 214 yX10_swap ∈ gws := tb_at 1063 (by decide +kernel) rfl
theorem ml_X10_220 : Cond.methodLink RX10 220 yX10_mends ∈ gws := tb_at 1048 (by decide +kernel) rfl
theorem ml_X10_223 : Cond.methodLink RX10 223 yX10_changes ∈ gws := tb_at 1059 (by decide +kernel) rfl
theorem ml_X10_226 : Cond.methodLink RX10 226 yX10_aimOf ∈ gws := tb_at 1067 (by decide +kernel) rfl
theorem ml_X10_229 : Cond.methodLink RX10 229 yX10_comes ∈ gws := tb_at 1076 (by decide +kernel) rfl
theorem ml_X10_233 : Cond.methodLink RX10 233 yX10_isAllSo ∈ gws := tb_at 981 (by decide +kernel) rfl
theorem ml_X10_236 : Cond.methodLink RX10 236 yX10_fits ∈ gws := tb_at 977 (by decide +kernel) rfl
theorem ml_X10_242 : Cond.methodLink RX10 242 yX10_on ∈ gws := tb_at 1093 (by decide +kernel) rfl
theorem ml_X10_245 : Cond.methodLink RX10 245 yX10_fraction ∈ gws := tb_at 1094 (by decide +kernel) rfl
theorem fl_X10_249 : FL RX10 249 10 25 RX10 TX10 30 tyX10 := ⟨rfl, uw_X10, tyX10_ok, nmX10, tb_at 798 (by decide +kernel) rfl, rfl, by decide⟩
theorem ml_X10_252 : Cond.methodLink RX10 252 yX10_byKind ∈ gws := tb_at 1125 (by decide +kernel) rfl
theorem ml_X10_255 : Cond.methodLink RX10 255 yX10_body ∈ gws := tb_at 1129 (by decide +kernel) rfl
theorem ml_X10_258 : Cond.methodLink RX10 258 yX10_begin ∈ gws := tb_at 1121 (by decide +kernel) rfl
theorem ml_X10_261 : Cond.methodLink RX10 261 yX10_isTape ∈ gws := tb_at 1149 (by decide +kernel) rfl
theorem fl_X0_9 : FL RX0 9 0 0 RX0 TX0 5 tyX0 := ⟨rfl, uw_X0, tyX0_ok, nmX0, tb_at 34 (by decide +kernel) rfl, rfl, by decide⟩
theorem fl_X0_15 : FL RX0 15 0 1 RX0 TX0 5 tyX0 := ⟨rfl, uw_X0, tyX0_ok, nmX0, tb_at 35 (by decide +kernel) rfl, rfl, by decide⟩
theorem fl_X0_18 : FL RX0 18 0 2 RX0 TX0 5 tyX0 := ⟨rfl, uw_X0, tyX0_ok, nmX0, tb_at 36 (by decide +kernel) rfl, rfl, by decide⟩
theorem fl_X0_21 : FL RX0 21 0 3 RX0 TX0 5 tyX0 := ⟨rfl, uw_X0, tyX0_ok, nmX0, tb_at 37 (by decide +kernel) rfl, rfl, by decide⟩
theorem fl_X0_25 : FL RX0 25 0 4 RX0 TX0 5 tyX0 := ⟨rfl, uw_X0, tyX0_ok, nmX0, tb_at 38 (by decide +kernel) rfl, rfl, by decide⟩
theorem fl_X0_28 : FL RX0 28 7 0 RX7 TX7 7 tyX7 := ⟨rfl, uw_X7, tyX7_ok, nmX7, tb_at 90 (by decide +kernel) rfl, rfl, by decide⟩
theorem fl_X0_33 : FL RX0 33 7 2 RX7 TX7 7 tyX7 := ⟨rfl, uw_X7, tyX7_ok, nmX7, tb_at 95 (by decide +kernel) rfl, rfl, by decide⟩
theorem fl_X0_36 : FL RX0 36 7 3 RX7 TX7 7 tyX7 := ⟨rfl, uw_X7, tyX7_ok, nmX7, tb_at 100 (by decide +kernel) rfl, rfl, by decide⟩
theorem fl_X0_39 : FL RX0 39 7 4 RX7 TX7 7 tyX7 := ⟨rfl, uw_X7, tyX7_ok, nmX7, tb_at 103 (by decide +kernel) rfl, rfl, by decide⟩
theorem ml_X1_9 : Cond.methodLink RX1 9 yX3_init ∈ gws := tb_at 180 (by decide +kernel) rfl
theorem fl_X1_12 : FL RX1 12 1 0 RX1 TX1 4 tyX1 := ⟨rfl, uw_X1, tyX1_ok, nmX1, tb_at 204 (by decide +kernel) rfl, rfl, by decide⟩
theorem fl_X1_18 : FL RX1 18 1 1 RX1 TX1 4 tyX1 := ⟨rfl, uw_X1, tyX1_ok, nmX1, tb_at 206 (by decide +kernel) rfl, rfl, by decide⟩
theorem fl_X1_21 : FL RX1 21 1 2 RX1 TX1 4 tyX1 := ⟨rfl, uw_X1, tyX1_ok, nmX1, tb_at 208 (by decide +kernel) rfl, rfl, by decide⟩
theorem fl_X1_24 : FL RX1 24 1 3 RX1 TX1 4 tyX1 := ⟨rfl, uw_X1, tyX1_ok, nmX1, tb_at 210 (by decide +kernel) rfl, rfl, by decide⟩
theorem ml_X1_27 : Cond.methodLink RX1 27 yX3_become ∈ gws := tb_at 693 (by decide +kernel) rfl
theorem fl_X2_9 : FL RX2 9 2 0 RX2 TX2 3 tyX2 := ⟨rfl, uw_X2, tyX2_ok, nmX2, tb_at 60 (by decide +kernel) rfl, rfl, by decide⟩
theorem fl_X2_15 : FL RX2 15 2 1 RX2 TX2 3 tyX2 := ⟨rfl, uw_X2, tyX2_ok, nmX2, tb_at 61 (by decide +kernel) rfl, rfl, by decide⟩
theorem fl_X2_19 : FL RX2 19 2 2 RX2 TX2 3 tyX2 := ⟨rfl, uw_X2, tyX2_ok, nmX2, tb_at 63 (by decide +kernel) rfl, rfl, by decide⟩
theorem ml_X2_22 : Cond.methodLink RX2 22 yX0_clear ∈ gws := tb_at 435 (by decide +kernel) rfl
theorem ml_X2_27 : Cond.methodLink RX2 27 yX2_isSign ∈ gws := tb_at 439 (by decide +kernel) rfl
theorem ml_X2_31 : Cond.methodLink RX2 31 yX2_isClause ∈ gws := tb_at 443 (by decide +kernel) rfl
theorem ml_X2_37 : Cond.methodLink RX2 37 yX2_isWord ∈ gws := tb_at 448 (by decide +kernel) rfl
theorem ml_X2_41 : Cond.methodLink RX2 41 yX2_number ∈ gws := tb_at 500 (by decide +kernel) rfl
theorem fl_X2_45 : FL RX2 45 0 4 RX0 TX0 5 tyX0 := ⟨rfl, uw_X0, tyX0_ok, nmX0, tb_at 39 (by decide +kernel) rfl, rfl, by decide⟩
theorem ml_X2_52 : Cond.methodLink RX2 52 yX2_isEither ∈ gws := tb_at 507 (by decide +kernel) rfl
theorem ml_X2_56 : Cond.methodLink RX2 56 yX0_put ∈ gws := tb_at 519 (by decide +kernel) rfl
theorem ml_X2_60 : Cond.methodLink RX2 60 yX2_isBoth ∈ gws := tb_at 511 (by decide +kernel) rfl
theorem ml_X2_63 : Cond.methodLink RX2 63 yX2_isFactor ∈ gws := tb_at 515 (by decide +kernel) rfl
theorem ml_X2_68 : Cond.methodLink RX2 68 yX2_signOf ∈ gws := tb_at 524 (by decide +kernel) rfl
theorem fl_X3_9 : FL RX3 9 3 3 RX3 TX3 4 tyX3 := ⟨rfl, uw_X3, tyX3_ok, nmX3, tb_at 193 (by decide +kernel) rfl, rfl, by decide⟩
theorem fl_X3_21 : FL RX3 21 3 0 RX3 TX3 4 tyX3 := ⟨rfl, uw_X3, tyX3_ok, nmX3, tb_at 187 (by decide +kernel) rfl, rfl, by decide⟩
theorem fl_X3_25 : FL RX3 25 3 1 RX3 TX3 4 tyX3 := ⟨rfl, uw_X3, tyX3_ok, nmX3, tb_at 189 (by decide +kernel) rfl, rfl, by decide⟩
theorem fl_X3_28 : FL RX3 28 3 2 RX3 TX3 4 tyX3 := ⟨rfl, uw_X3, tyX3_ok, nmX3, tb_at 191 (by decide +kernel) rfl, rfl, by decide⟩
theorem fl_X4_9 : FL RX4 9 4 0 RX4 TX4 3 tyX4 := ⟨rfl, uw_X4, tyX4_ok, nmX4, tb_at 131 (by decide +kernel) rfl, rfl, by decide⟩
theorem fl_X4_15 : FL RX4 15 4 1 RX4 TX4 3 tyX4 := ⟨rfl, uw_X4, tyX4_ok, nmX4, tb_at 134 (by decide +kernel) rfl, rfl, by decide⟩
theorem fl_X4_18 : FL RX4 18 4 2 RX4 TX4 3 tyX4 := ⟨rfl, uw_X4, tyX4_ok, nmX4, tb_at 137 (by decide +kernel) rfl, rfl, by decide⟩
theorem fl_X5_9 : FL RX5 9 5 0 RX5 TX5 3 tyX5 := ⟨rfl, uw_X5, tyX5_ok, nmX5, tb_at 243 (by decide +kernel) rfl, rfl, by decide⟩
theorem fl_X5_15 : FL RX5 15 5 1 RX5 TX5 3 tyX5 := ⟨rfl, uw_X5, tyX5_ok, nmX5, tb_at 245 (by decide +kernel) rfl, rfl, by decide⟩
theorem fl_X5_19 : FL RX5 19 5 2 RX5 TX5 3 tyX5 := ⟨rfl, uw_X5, tyX5_ok, nmX5, tb_at 247 (by decide +kernel) rfl, rfl, by decide⟩
theorem fl_X6_9 : FL RX6 9 6 0 RX6 TX6 2 tyX6 := ⟨rfl, uw_X6, tyX6_ok, nmX6, tb_at 227 (by decide +kernel) rfl, rfl, by decide⟩
theorem fl_X6_15 : FL RX6 15 6 1 RX6 TX6 2 tyX6 := ⟨rfl, uw_X6, tyX6_ok, nmX6, tb_at 229 (by decide +kernel) rfl, rfl, by decide⟩
theorem ml_X6_19 : Cond.methodLink RX6 19 yX6_begins ∈ gws := tb_at 710 (by decide +kernel) rfl
theorem ml_X6_23 : Cond.methodLink RX6 23 yX6_nods ∈ gws := tb_at 714 (by decide +kernel) rfl
theorem fl_X6_27 : FL RX6 27 7 3 RX7 TX7 7 tyX7 := ⟨rfl, uw_X7, tyX7_ok, nmX7, tb_at 99 (by decide +kernel) rfl, rfl, by decide⟩
theorem fl_X6_32 : FL RX6 32 7 0 RX7 TX7 7 tyX7 := ⟨rfl, uw_X7, tyX7_ok, nmX7, tb_at 89 (by decide +kernel) rfl, rfl, by decide⟩
theorem ml_X6_35 : Cond.methodLink RX6 35 yX6_knocks ∈ gws := tb_at 718 (by decide +kernel) rfl
theorem fl_X6_38 : FL RX6 38 7 2 RX7 TX7 7 tyX7 := ⟨rfl, uw_X7, tyX7_ok, nmX7, tb_at 96 (by decide +kernel) rfl, rfl, by decide⟩
theorem ml_X6_41 : Cond.methodLink RX6 41 yX6_tells ∈ gws := tb_at 722 (by decide +kernel) rfl
theorem fl_X7_9 : FL RX7 9 7 1 RX7 TX7 7 tyX7 := ⟨rfl, uw_X7, tyX7_ok, nmX7, tb_at 91 (by decide +kernel) rfl, rfl, by decide⟩
theorem fl_X7_15 : FL RX7 15 7 2 RX7 TX7 7 tyX7 := ⟨rfl, uw_X7, tyX7_ok, nmX7, tb_at 93 (by decide +kernel) rfl, rfl, by decide⟩
theorem fl_X7_19 : FL RX7 19 7 3 RX7 TX7 7 tyX7 := ⟨rfl, uw_X7, tyX7_ok, nmX7, tb_at 97 (by decide +kernel) rfl, rfl, by decide⟩
theorem fl_X7_22 : FL RX7 22 7 4 RX7 TX7 7 tyX7 := ⟨rfl, uw_X7, tyX7_ok, nmX7, tb_at 101 (by decide +kernel) rfl, rfl, by decide⟩
theorem fl_X7_25 : FL RX7 25 7 5 RX7 TX7 7 tyX7 := ⟨rfl, uw_X7, tyX7_ok, nmX7, tb_at 105 (by decide +kernel) rfl, rfl, by decide⟩
theorem fl_X7_28 : FL RX7 28 7 6 RX7 TX7 7 tyX7 := ⟨rfl, uw_X7, tyX7_ok, nmX7, tb_at 108 (by decide +kernel) rfl, rfl, by decide⟩
theorem fl_X7_31 : FL RX7 31 7 0 RX7 TX7 7 tyX7 := ⟨rfl, uw_X7, tyX7_ok, nmX7, tb_at 88 (by decide +kernel) rfl, rfl, by decide⟩
theorem fl_X8_11 : FL RX8 11 8 0 RX8 TX8 6 tyX8 := ⟨rfl, uw_X8, tyX8_ok, nmX8, tb_at 147 (by decide +kernel) rfl, rfl, by decide⟩
theorem fl_X8_19 : FL RX8 19 8 1 RX8 TX8 6 tyX8 := ⟨rfl, uw_X8, tyX8_ok, nmX8, tb_at 149 (by decide +kernel) rfl, rfl, by decide⟩
theorem fl_X8_23 : FL RX8 23 8 2 RX8 TX8 6 tyX8 := ⟨rfl, uw_X8, tyX8_ok, nmX8, tb_at 151 (by decide +kernel) rfl, rfl, by decide⟩
theorem fl_X8_27 : FL RX8 27 8 3 RX8 TX8 6 tyX8 := ⟨rfl, uw_X8, tyX8_ok, nmX8, tb_at 153 (by decide +kernel) rfl, rfl, by decide⟩
theorem fl_X8_30 : FL RX8 30 8 4 RX8 TX8 6 tyX8 := ⟨rfl, uw_X8, tyX8_ok, nmX8, tb_at 155 (by decide +kernel) rfl, rfl, by decide⟩
theorem fl_X8_33 : FL RX8 33 8 5 RX8 TX8 6 tyX8 := ⟨rfl, uw_X8, tyX8_ok, nmX8, tb_at 157 (by decide +kernel) rfl, rfl, by decide⟩
theorem ml_X8_37 : Cond.methodLink RX8 37 yX7_init ∈ gws := tb_at 84 (by decide +kernel) rfl
theorem ml_X8_40 : (RX8, 40, yX4_init, RX9) ∈ nests := by decide +kernel
theorem ml_X8_41 : Cond.methodLink RX8 41 yX7_become ∈ gws := tb_at 325 (by decide +kernel) rfl
theorem ml_X8_45 : Cond.methodLink RX8 45 yX4_become ∈ gws := tb_at 332 (by decide +kernel) rfl
theorem ml_X8_48 : Cond.methodLink RX8 48 yX7_begin ∈ gws := tb_at 305 (by decide +kernel) rfl
theorem fl_X8_52 : FL RX8 52 4 0 RX4 TX4 3 tyX4 := ⟨rfl, uw_X4, tyX4_ok, nmX4, tb_at 133 (by decide +kernel) rfl, rfl, by decide⟩
theorem fl_X8_55 : FL RX8 55 4 1 RX4 TX4 3 tyX4 := ⟨rfl, uw_X4, tyX4_ok, nmX4, tb_at 136 (by decide +kernel) rfl, rfl, by decide⟩
theorem fl_X8_58 : FL RX8 58 4 2 RX4 TX4 3 tyX4 := ⟨rfl, uw_X4, tyX4_ok, nmX4, tb_at 139 (by decide +kernel) rfl, rfl, by decide⟩
theorem ml_X8_61 : Cond.methodLink RX8 61 yX8_hasWearer ∈ gws := tb_at 344 (by decide +kernel) rfl
theorem ml_X8_65 : Cond.methodLink RX8 65 yX8_isStriking ∈ gws := tb_at 340 (by decide +kernel) rfl
theorem ml_X8_69 : Cond.methodLink RX8 69 yX0_sum ∈ gws := tb_at 353 (by decide +kernel) rfl
theorem ml_X8_75 : Cond.methodLink RX8 75 yX7_guardBy ∈ gws := tb_at 357 (by decide +kernel) rfl
theorem ml_X8_79 : Cond.methodLink RX8 79 yX8_strike ∈ gws := tb_at 345 (by decide +kernel) rfl
theorem ml_X8_82 : Cond.methodLink RX8 82 yX8_guard ∈ gws := tb_at 349 (by decide +kernel) rfl
theorem fl_X8_94 : FL RX8 94 7 6 RX7 TX7 7 tyX7 := ⟨rfl, uw_X7, tyX7_ok, nmX7, tb_at 110 (by decide +kernel) rfl, rfl, by decide⟩
theorem fl_X8_97 : FL RX8 97 7 5 RX7 TX7 7 tyX7 := ⟨rfl, uw_X7, tyX7_ok, nmX7, tb_at 107 (by decide +kernel) rfl, rfl, by decide⟩
theorem fl_X8_100 : FL RX8 100 7 4 RX7 TX7 7 tyX7 := ⟨rfl, uw_X7, tyX7_ok, nmX7, tb_at 104 (by decide +kernel) rfl, rfl, by decide⟩
theorem fl_X8_103 : FL RX8 103 0 4 RX0 TX0 5 tyX0 := ⟨rfl, uw_X0, tyX0_ok, nmX0, tb_at 41 (by decide +kernel) rfl, rfl, by decide⟩
theorem ml_L_9 : Cond.methodLink x.cls 9 yX9_init ∈ gws := tb_at 21 (by decide +kernel) rfl
theorem ml_L_12 : Cond.methodLink x.cls 12 yX10_init ∈ gws := tb_at 769 (by decide +kernel) rfl
theorem ml_L_13 : Cond.methodLink x.cls 13 yX9_wearer ∈ gws := tb_at 294 (by decide +kernel) rfl
theorem ml_L_17 : Cond.methodLink x.cls 17 yX10_wearer ∈ gws := tb_at 876 (by decide +kernel) rfl
theorem ml_L_18 : Cond.methodLink x.cls 18 yX9_of ∈ gws := tb_at 309 (by decide +kernel) rfl
theorem ml_L_22 : Cond.methodLink x.cls 22 yX10_of ∈ gws := tb_at 891 (by decide +kernel) rfl
theorem ml_L_23 : Cond.methodLink x.cls 23 yX9_saying ∈ gws := tb_at 395 (by decide +kernel) rfl
theorem ml_L_26 : Cond.methodLink x.cls 26 yX10_saying ∈ gws := tb_at 989 (by decide +kernel) rfl
theorem ml_L_27 : Cond.methodLink x.cls 27 yX9_phrase ∈ gws := tb_at 403 (by decide +kernel) rfl
theorem ml_L_30 : Cond.methodLink x.cls 30 yX10_phrase ∈ gws := tb_at 997 (by decide +kernel) rfl
theorem ml_L_31 : Cond.methodLink x.cls 31 yX9_aim ∈ gws := tb_at 407 (by decide +kernel) rfl
theorem ml_L_34 : Cond.methodLink x.cls 34 yX10_aim ∈ gws := tb_at 1004 (by decide +kernel) rfl
theorem ml_L_35 : Cond.methodLink x.cls 35 yX9_mend ∈ gws := tb_at 411 (by decide +kernel) rfl
theorem ml_L_38 : Cond.methodLink x.cls 38 yX10_mend ∈ gws := tb_at 1008 (by decide +kernel) rfl
theorem ml_L_39 : Cond.methodLink x.cls 39 yX9_row ∈ gws := tb_at 415 (by decide +kernel) rfl
theorem ml_L_42 : Cond.methodLink x.cls 42 yX10_row ∈ gws := tb_at 1012 (by decide +kernel) rfl
theorem ml_L_43 : Cond.methodLink x.cls 43 yX9_feed ∈ gws := tb_at 419 (by decide +kernel) rfl
theorem ml_L_47 : Cond.methodLink x.cls 47 yX10_feed ∈ gws := tb_at 1016 (by decide +kernel) rfl
theorem ml_L_48 : Cond.methodLink x.cls 48 yX9_city ∈ gws := tb_at 427 (by decide +kernel) rfl
theorem ml_L_52 : Cond.methodLink x.cls 52 yX10_city ∈ gws := tb_at 1020 (by decide +kernel) rfl
theorem ml_L_53 : Cond.methodLink x.cls 53 yX9_told ∈ gws := tb_at 584 (by decide +kernel) rfl
theorem ml_L_56 : Cond.methodLink x.cls 56 yX10_told ∈ gws := tb_at 1024 (by decide +kernel) rfl
theorem ml_L_57 : Cond.methodLink x.cls 57 yX9_pass ∈ gws := tb_at 600 (by decide +kernel) rfl
theorem ml_L_60 : Cond.methodLink x.cls 60 yX10_pass ∈ gws := tb_at 1032 (by decide +kernel) rfl
theorem ml_L_61 : Cond.methodLink x.cls 61 yX9_on ∈ gws := tb_at 604 (by decide +kernel) rfl
theorem ml_L_64 : Cond.methodLink x.cls 64 yX10_on ∈ gws := tb_at 1040 (by decide +kernel) rfl
theorem ml_L_65 : Cond.methodLink x.cls 65 yX9_best ∈ gws := tb_at 608 (by decide +kernel) rfl
theorem ml_L_68 : Cond.methodLink x.cls 68 yX10_best ∈ gws := tb_at 1044 (by decide +kernel) rfl
theorem ml_L_69 : Cond.methodLink x.cls 69 yX9_see ∈ gws := tb_at 629 (by decide +kernel) rfl
theorem ml_L_72 : Cond.methodLink x.cls 72 yX10_see ∈ gws := tb_at 1072 (by decide +kernel) rfl
theorem ml_L_73 : Cond.methodLink x.cls 73 yX9_ache ∈ gws := tb_at 641 (by decide +kernel) rfl
theorem ml_L_77 : Cond.methodLink x.cls 77 yX10_ache ∈ gws := tb_at 1080 (by decide +kernel) rfl
theorem ml_L_78 : Cond.methodLink x.cls 78 yX9_can ∈ gws := tb_at 645 (by decide +kernel) rfl
theorem ml_L_81 : Cond.methodLink x.cls 81 yX10_can ∈ gws := tb_at 1084 (by decide +kernel) rfl
theorem ml_L_82 : Cond.methodLink x.cls 82 yX9_odds ∈ gws := tb_at 649 (by decide +kernel) rfl
theorem ml_L_86 : Cond.methodLink x.cls 86 yX10_odds ∈ gws := tb_at 1088 (by decide +kernel) rfl
theorem ml_L_87 : Cond.methodLink x.cls 87 yX9_mean ∈ gws := tb_at 657 (by decide +kernel) rfl
theorem ml_L_91 : Cond.methodLink x.cls 91 yX10_mean ∈ gws := tb_at 1097 (by decide +kernel) rfl
theorem ml_L_92 : Cond.methodLink x.cls 92 yX9_plan ∈ gws := tb_at 661 (by decide +kernel) rfl
theorem ml_L_95 : Cond.methodLink x.cls 95 yX10_plan ∈ gws := tb_at 1101 (by decide +kernel) rfl
theorem ml_L_96 : Cond.methodLink x.cls 96 yX9_ends ∈ gws := tb_at 665 (by decide +kernel) rfl
theorem ml_L_99 : Cond.methodLink x.cls 99 yX10_ends ∈ gws := tb_at 1105 (by decide +kernel) rfl
theorem ml_L_100 : Cond.methodLink x.cls 100 yX9_book ∈ gws := tb_at 673 (by decide +kernel) rfl
theorem ml_L_103 : Cond.methodLink x.cls 103 yX10_book ∈ gws := tb_at 1109 (by decide +kernel) rfl
theorem ml_L_104 : Cond.methodLink x.cls 104 yX9_looked ∈ gws := tb_at 677 (by decide +kernel) rfl
theorem ml_L_107 : Cond.methodLink x.cls 107 yX10_looked ∈ gws := tb_at 1113 (by decide +kernel) rfl
theorem ml_L_108 : Cond.methodLink x.cls 108 yX9_judge ∈ gws := tb_at 681 (by decide +kernel) rfl
theorem ml_L_111 : Cond.methodLink x.cls 111 yX10_judge ∈ gws := tb_at 1164 (by decide +kernel) rfl
theorem ml_L_112 : Cond.methodLink x.cls 112 yX9_image ∈ gws := tb_at 685 (by decide +kernel) rfl
theorem ml_L_115 : Cond.methodLink x.cls 115 yX10_image ∈ gws := tb_at 865 (by decide +kernel) rfl
theorem ml_L_116 : Cond.methodLink x.cls 116 yX9_undo ∈ gws := tb_at 699 (by decide +kernel) rfl
theorem ml_L_119 : Cond.methodLink x.cls 119 yX10_undo ∈ gws := tb_at 872 (by decide +kernel) rfl
theorem ml_L_120 : Cond.methodLink x.cls 120 yX9_act ∈ gws := tb_at 703 (by decide +kernel) rfl
theorem ml_L_123 : Cond.methodLink x.cls 123 yX10_act ∈ gws := tb_at 1117 (by decide +kernel) rfl
theorem ml_L_124 : Cond.methodLink x.cls 124 yX9_trace ∈ gws := tb_at 723 (by decide +kernel) rfl
theorem ml_L_127 : Cond.methodLink x.cls 127 yX10_trace ∈ gws := tb_at 1133 (by decide +kernel) rfl
theorem ml_L_128 : Cond.methodLink x.cls 128 yX9_taken ∈ gws := tb_at 727 (by decide +kernel) rfl
theorem ml_L_131 : Cond.methodLink x.cls 131 yX10_taken ∈ gws := tb_at 1137 (by decide +kernel) rfl
theorem ml_L_132 : Cond.methodLink x.cls 132 yX9_count ∈ gws := tb_at 734 (by decide +kernel) rfl
theorem ml_L_135 : Cond.methodLink x.cls 135 yX10_count ∈ gws := tb_at 1141 (by decide +kernel) rfl
theorem ml_L_136 : Cond.methodLink x.cls 136 yX9_tape ∈ gws := tb_at 738 (by decide +kernel) rfl
theorem ml_L_139 : Cond.methodLink x.cls 139 yX10_tape ∈ gws := tb_at 1145 (by decide +kernel) rfl
theorem ml_L_142 : Cond.methodLink x.cls 142 yX9_item ∈ gws := tb_at 746 (by decide +kernel) rfl
theorem ml_L_146 : Cond.methodLink x.cls 146 yX10_item ∈ gws := tb_at 1152 (by decide +kernel) rfl
theorem ml_L_147 : Cond.methodLink x.cls 147 yX9_read ∈ gws := tb_at 754 (by decide +kernel) rfl
theorem ml_L_150 : Cond.methodLink x.cls 150 yX10_read ∈ gws := tb_at 1156 (by decide +kernel) rfl
theorem ml_L_151 : Cond.methodLink x.cls 151 yX9_shift ∈ gws := tb_at 758 (by decide +kernel) rfl
theorem ml_L_155 : Cond.methodLink x.cls 155 yX10_shift ∈ gws := tb_at 1160 (by decide +kernel) rfl
theorem me_X9_init : MEI yX9_init cX9_init 2 0 := ⟨⟨tb_at 23 (by decide +kernel) rfl, tb_at 1 (by decide +kernel) rfl, (by decide +kernel), by decide⟩, tb_at 22 (by decide +kernel) rfl, rfl⟩
theorem me_X9_wearer : MEV yX9_wearer cX9_wearer 4 (some .int) 3 9 := ⟨⟨tb_at 297 (by decide +kernel) rfl, tb_at 1 (by decide +kernel) rfl, (by decide +kernel), by decide⟩, tb_at 295 (by decide +kernel) rfl, tb_at 296 (by decide +kernel) rfl, TX9, 12, rfl⟩
theorem me_X9_of : MEV yX9_of cX9_of 5 (some .int) 2 9 := ⟨⟨tb_at 312 (by decide +kernel) rfl, tb_at 1 (by decide +kernel) rfl, (by decide +kernel), by decide⟩, tb_at 310 (by decide +kernel) rfl, tb_at 311 (by decide +kernel) rfl, TX9, 12, rfl⟩
theorem me_X9_saying : MEV yX9_saying cX9_saying 3 (some .int) 2 9 := ⟨⟨tb_at 398 (by decide +kernel) rfl, tb_at 1 (by decide +kernel) rfl, (by decide +kernel), by decide⟩, tb_at 396 (by decide +kernel) rfl, tb_at 397 (by decide +kernel) rfl, TX9, 12, rfl⟩
theorem me_X9_phrase : MEV yX9_phrase cX9_phrase 4 (some .int) 2 9 := ⟨⟨tb_at 406 (by decide +kernel) rfl, tb_at 1 (by decide +kernel) rfl, (by decide +kernel), by decide⟩, tb_at 404 (by decide +kernel) rfl, tb_at 405 (by decide +kernel) rfl, TX9, 12, rfl⟩
theorem me_X9_aim : MEV yX9_aim cX9_aim 5 (some .int) 2 9 := ⟨⟨tb_at 410 (by decide +kernel) rfl, tb_at 1 (by decide +kernel) rfl, (by decide +kernel), by decide⟩, tb_at 408 (by decide +kernel) rfl, tb_at 409 (by decide +kernel) rfl, TX9, 12, rfl⟩
theorem me_X9_mend : MEV yX9_mend cX9_mend 5 (some .int) 2 9 := ⟨⟨tb_at 414 (by decide +kernel) rfl, tb_at 1 (by decide +kernel) rfl, (by decide +kernel), by decide⟩, tb_at 412 (by decide +kernel) rfl, tb_at 413 (by decide +kernel) rfl, TX9, 12, rfl⟩
theorem me_X9_row : MEV yX9_row cX9_row 6 (some .int) 3 9 := ⟨⟨tb_at 418 (by decide +kernel) rfl, tb_at 1 (by decide +kernel) rfl, (by decide +kernel), by decide⟩, tb_at 416 (by decide +kernel) rfl, tb_at 417 (by decide +kernel) rfl, TX9, 12, rfl⟩
theorem me_X9_feed : MEV yX9_feed cX9_feed 2 (some .int) 1 9 := ⟨⟨tb_at 422 (by decide +kernel) rfl, tb_at 1 (by decide +kernel) rfl, (by decide +kernel), by decide⟩, tb_at 420 (by decide +kernel) rfl, tb_at 421 (by decide +kernel) rfl, TX9, 12, rfl⟩
theorem me_X9_city : MEV yX9_city cX9_city 3 (some .int) 0 9 := ⟨⟨tb_at 430 (by decide +kernel) rfl, tb_at 1 (by decide +kernel) rfl, (by decide +kernel), by decide⟩, tb_at 428 (by decide +kernel) rfl, tb_at 429 (by decide +kernel) rfl, TX9, 12, rfl⟩
theorem me_X9_told : MEV yX9_told cX9_told 2 (some .int) 1 9 := ⟨⟨tb_at 587 (by decide +kernel) rfl, tb_at 1 (by decide +kernel) rfl, (by decide +kernel), by decide⟩, tb_at 585 (by decide +kernel) rfl, tb_at 586 (by decide +kernel) rfl, TX9, 12, rfl⟩
theorem me_X9_pass : MEV yX9_pass cX9_pass 2 (some .int) 1 9 := ⟨⟨tb_at 603 (by decide +kernel) rfl, tb_at 1 (by decide +kernel) rfl, (by decide +kernel), by decide⟩, tb_at 601 (by decide +kernel) rfl, tb_at 602 (by decide +kernel) rfl, TX9, 12, rfl⟩
theorem me_X9_on : MEV yX9_on cX9_on 7 (some .int) 2 9 := ⟨⟨tb_at 607 (by decide +kernel) rfl, tb_at 1 (by decide +kernel) rfl, (by decide +kernel), by decide⟩, tb_at 605 (by decide +kernel) rfl, tb_at 606 (by decide +kernel) rfl, TX9, 12, rfl⟩
theorem me_X9_best : MEV yX9_best cX9_best 4 (some .int) 2 9 := ⟨⟨tb_at 611 (by decide +kernel) rfl, tb_at 1 (by decide +kernel) rfl, (by decide +kernel), by decide⟩, tb_at 609 (by decide +kernel) rfl, tb_at 610 (by decide +kernel) rfl, TX9, 12, rfl⟩
theorem me_X9_see : MEV yX9_see cX9_see 4 (some .int) 3 9 := ⟨⟨tb_at 632 (by decide +kernel) rfl, tb_at 1 (by decide +kernel) rfl, (by decide +kernel), by decide⟩, tb_at 630 (by decide +kernel) rfl, tb_at 631 (by decide +kernel) rfl, TX9, 12, rfl⟩
theorem me_X9_ache : MEV yX9_ache cX9_ache 4 (some .int) 3 9 := ⟨⟨tb_at 644 (by decide +kernel) rfl, tb_at 1 (by decide +kernel) rfl, (by decide +kernel), by decide⟩, tb_at 642 (by decide +kernel) rfl, tb_at 643 (by decide +kernel) rfl, TX9, 12, rfl⟩
theorem me_X9_can : MEV yX9_can cX9_can 3 (some .int) 2 9 := ⟨⟨tb_at 648 (by decide +kernel) rfl, tb_at 1 (by decide +kernel) rfl, (by decide +kernel), by decide⟩, tb_at 646 (by decide +kernel) rfl, tb_at 647 (by decide +kernel) rfl, TX9, 12, rfl⟩
theorem me_X9_odds : MEV yX9_odds cX9_odds 7 (some .long) 4 9 := ⟨⟨tb_at 652 (by decide +kernel) rfl, tb_at 1 (by decide +kernel) rfl, (by decide +kernel), by decide⟩, tb_at 650 (by decide +kernel) rfl, tb_at 651 (by decide +kernel) rfl, TX9, 12, rfl⟩
theorem me_X9_mean : MEV yX9_mean cX9_mean 3 (some .long) 2 9 := ⟨⟨tb_at 660 (by decide +kernel) rfl, tb_at 1 (by decide +kernel) rfl, (by decide +kernel), by decide⟩, tb_at 658 (by decide +kernel) rfl, tb_at 659 (by decide +kernel) rfl, TX9, 12, rfl⟩
theorem me_X9_plan : MEV yX9_plan cX9_plan 4 (some .int) 2 9 := ⟨⟨tb_at 664 (by decide +kernel) rfl, tb_at 1 (by decide +kernel) rfl, (by decide +kernel), by decide⟩, tb_at 662 (by decide +kernel) rfl, tb_at 663 (by decide +kernel) rfl, TX9, 12, rfl⟩
theorem me_X9_ends : MEV yX9_ends cX9_ends 3 (some .int) 1 9 := ⟨⟨tb_at 668 (by decide +kernel) rfl, tb_at 1 (by decide +kernel) rfl, (by decide +kernel), by decide⟩, tb_at 666 (by decide +kernel) rfl, tb_at 667 (by decide +kernel) rfl, TX9, 12, rfl⟩
theorem me_X9_book : MEV yX9_book cX9_book 3 (some .int) 2 9 := ⟨⟨tb_at 676 (by decide +kernel) rfl, tb_at 1 (by decide +kernel) rfl, (by decide +kernel), by decide⟩, tb_at 674 (by decide +kernel) rfl, tb_at 675 (by decide +kernel) rfl, TX9, 12, rfl⟩
theorem me_X9_looked : MEV yX9_looked cX9_looked 3 (some .int) 0 9 := ⟨⟨tb_at 680 (by decide +kernel) rfl, tb_at 1 (by decide +kernel) rfl, (by decide +kernel), by decide⟩, tb_at 678 (by decide +kernel) rfl, tb_at 679 (by decide +kernel) rfl, TX9, 12, rfl⟩
theorem me_X9_judge : MEV yX9_judge cX9_judge 5 (some .int) 2 9 := ⟨⟨tb_at 684 (by decide +kernel) rfl, tb_at 1 (by decide +kernel) rfl, (by decide +kernel), by decide⟩, tb_at 682 (by decide +kernel) rfl, tb_at 683 (by decide +kernel) rfl, TX9, 12, rfl⟩
theorem me_X9_image : MEV yX9_image cX9_image 1 (some .int) 0 9 := ⟨⟨tb_at 688 (by decide +kernel) rfl, tb_at 1 (by decide +kernel) rfl, (by decide +kernel), by decide⟩, tb_at 686 (by decide +kernel) rfl, tb_at 687 (by decide +kernel) rfl, TX9, 12, rfl⟩
theorem me_X9_undo : MEV yX9_undo cX9_undo 1 (some .int) 0 9 := ⟨⟨tb_at 702 (by decide +kernel) rfl, tb_at 1 (by decide +kernel) rfl, (by decide +kernel), by decide⟩, tb_at 700 (by decide +kernel) rfl, tb_at 701 (by decide +kernel) rfl, TX9, 12, rfl⟩
theorem me_X9_act : MEV yX9_act cX9_act 5 (some .int) 3 9 := ⟨⟨tb_at 706 (by decide +kernel) rfl, tb_at 1 (by decide +kernel) rfl, (by decide +kernel), by decide⟩, tb_at 704 (by decide +kernel) rfl, tb_at 705 (by decide +kernel) rfl, TX9, 12, rfl⟩
theorem me_X9_trace : MEV yX9_trace cX9_trace 2 (some .int) 1 9 := ⟨⟨tb_at 726 (by decide +kernel) rfl, tb_at 1 (by decide +kernel) rfl, (by decide +kernel), by decide⟩, tb_at 724 (by decide +kernel) rfl, tb_at 725 (by decide +kernel) rfl, TX9, 12, rfl⟩
theorem me_X9_taken : MEV yX9_taken cX9_taken 4 (some .int) 2 9 := ⟨⟨tb_at 730 (by decide +kernel) rfl, tb_at 1 (by decide +kernel) rfl, (by decide +kernel), by decide⟩, tb_at 728 (by decide +kernel) rfl, tb_at 729 (by decide +kernel) rfl, TX9, 12, rfl⟩
theorem me_X9_count : MEV yX9_count cX9_count 2 (some .int) 1 9 := ⟨⟨tb_at 737 (by decide +kernel) rfl, tb_at 1 (by decide +kernel) rfl, (by decide +kernel), by decide⟩, tb_at 735 (by decide +kernel) rfl, tb_at 736 (by decide +kernel) rfl, TX9, 12, rfl⟩
theorem me_X9_tape : MEV yX9_tape cX9_tape 4 (some .int) 3 9 := ⟨⟨tb_at 741 (by decide +kernel) rfl, tb_at 1 (by decide +kernel) rfl, (by decide +kernel), by decide⟩, tb_at 739 (by decide +kernel) rfl, tb_at 740 (by decide +kernel) rfl, TX9, 12, rfl⟩
theorem me_X9_item : MEV yX9_item cX9_item 6 (some .int) 3 9 := ⟨⟨tb_at 749 (by decide +kernel) rfl, tb_at 1 (by decide +kernel) rfl, (by decide +kernel), by decide⟩, tb_at 747 (by decide +kernel) rfl, tb_at 748 (by decide +kernel) rfl, TX9, 12, rfl⟩
theorem me_X9_read : MEV yX9_read cX9_read 4 (some .long) 2 9 := ⟨⟨tb_at 757 (by decide +kernel) rfl, tb_at 1 (by decide +kernel) rfl, (by decide +kernel), by decide⟩, tb_at 755 (by decide +kernel) rfl, tb_at 756 (by decide +kernel) rfl, TX9, 12, rfl⟩
theorem me_X9_shift : MEV yX9_shift cX9_shift 8 (some .int) 5 9 := ⟨⟨tb_at 761 (by decide +kernel) rfl, tb_at 1 (by decide +kernel) rfl, (by decide +kernel), by decide⟩, tb_at 759 (by decide +kernel) rfl, tb_at 760 (by decide +kernel) rfl, TX9, 12, rfl⟩
theorem me_X9_isOut : MES yX9_isOut cX9_isOut 2 (some .boolean) 2 := ⟨⟨tb_at 300 (by decide +kernel) rfl, tb_at 1 (by decide +kernel) rfl, (by decide +kernel), by decide⟩, tb_at 299 (by decide +kernel) rfl⟩
theorem me_X9_kindAbove : MES yX9_kindAbove cX9_kindAbove 1 (some .int) 1 := ⟨⟨tb_at 733 (by decide +kernel) rfl, tb_at 1 (by decide +kernel) rfl, (by decide +kernel), by decide⟩, tb_at 732 (by decide +kernel) rfl⟩
theorem me_X9_ofLowestTerms : MES yX9_ofLowestTerms cX9_ofLowestTerms 5 (some .long) 3 := ⟨⟨tb_at 656 (by decide +kernel) rfl, tb_at 1 (by decide +kernel) rfl, (by decide +kernel), by decide⟩, tb_at 655 (by decide +kernel) rfl⟩
theorem me_X9_isMoreHurt : MEV yX9_isMoreHurt cX9_isMoreHurt 2 (some .boolean) 1 9 := ⟨⟨tb_at 369 (by decide +kernel) rfl, tb_at 1 (by decide +kernel) rfl, (by decide +kernel), by decide⟩, tb_at 368 (by decide +kernel) rfl, sl_at 1 (by decide +kernel), TX9, 12, rfl⟩
theorem me_X9_daysUntilSore : MEV yX9_daysUntilSore cX9_daysUntilSore 3 (some .int) 1 9 := ⟨⟨tb_at 320 (by decide +kernel) rfl, tb_at 1 (by decide +kernel) rfl, (by decide +kernel), by decide⟩, tb_at 319 (by decide +kernel) rfl, sl_at 0 (by decide +kernel), TX9, 12, rfl⟩
theorem me_X9_fewestToMend : MEV yX9_fewestToMend cX9_fewestToMend 4 (some .int) 1 9 := ⟨⟨tb_at 615 (by decide +kernel) rfl, tb_at 1 (by decide +kernel) rfl, (by decide +kernel), by decide⟩, tb_at 614 (by decide +kernel) rfl, sl_at 8 (by decide +kernel), TX9, 12, rfl⟩
theorem me_X9_moreHurtBits : MEV yX9_moreHurtBits cX9_moreHurtBits 3 (some .int) 0 9 := ⟨⟨tb_at 619 (by decide +kernel) rfl, tb_at 1 (by decide +kernel) rfl, (by decide +kernel), by decide⟩, tb_at 618 (by decide +kernel) rfl, sl_at 9 (by decide +kernel), TX9, 12, rfl⟩
theorem me_X9_bestChange : MEV yX9_bestChange cX9_bestChange 7 (some .int) 1 9 := ⟨⟨tb_at 623 (by decide +kernel) rfl, tb_at 1 (by decide +kernel) rfl, (by decide +kernel), by decide⟩, tb_at 622 (by decide +kernel) rfl, sl_at 10 (by decide +kernel), TX9, 12, rfl⟩
theorem me_X9_bestTarget : MEV yX9_bestTarget cX9_bestTarget 7 (some .int) 2 9 := ⟨⟨tb_at 627 (by decide +kernel) rfl, tb_at 1 (by decide +kernel) rfl, (by decide +kernel), by decide⟩, tb_at 626 (by decide +kernel) rfl, sl_at 11 (by decide +kernel), TX9, 12, rfl⟩
theorem me_X9_fitting : MEV yX9_fitting cX9_fitting 8 (some .int) 3 9 := ⟨⟨tb_at 373 (by decide +kernel) rfl, tb_at 1 (by decide +kernel) rfl, (by decide +kernel), by decide⟩, tb_at 372 (by decide +kernel) rfl, sl_at 2 (by decide +kernel), TX9, 12, rfl⟩
theorem me_X9_rowsFit : MEV yX9_rowsFit cX9_rowsFit 9 (some .boolean) 3 9 := ⟨⟨tb_at 377 (by decide +kernel) rfl, tb_at 1 (by decide +kernel) rfl, (by decide +kernel), by decide⟩, tb_at 376 (by decide +kernel) rfl, sl_at 3 (by decide +kernel), TX9, 12, rfl⟩
theorem me_X9_trialValue : MEV yX9_trialValue cX9_trialValue 3 (some .int) 2 9 := ⟨⟨tb_at 385 (by decide +kernel) rfl, tb_at 1 (by decide +kernel) rfl, (by decide +kernel), by decide⟩, tb_at 384 (by decide +kernel) rfl, sl_at 4 (by decide +kernel), TX9, 12, rfl⟩
theorem me_X9_followPlan : MEV yX9_followPlan cX9_followPlan 3 none 2 9 := ⟨⟨tb_at 672 (by decide +kernel) rfl, tb_at 1 (by decide +kernel) rfl, (by decide +kernel), by decide⟩, tb_at 671 (by decide +kernel) rfl, sl_at 12 (by decide +kernel), TX9, 12, rfl⟩
theorem me_X10_init : MEI yX10_init cX10_init 1 0 := ⟨⟨tb_at 771 (by decide +kernel) rfl, tb_at 12 (by decide +kernel) rfl, (by decide +kernel), by decide⟩, tb_at 770 (by decide +kernel) rfl, rfl⟩
theorem me_X10_isIn : MES yX10_isIn cX10_isIn 3 (some .boolean) 3 := ⟨⟨tb_at 882 (by decide +kernel) rfl, tb_at 12 (by decide +kernel) rfl, (by decide +kernel), by decide⟩, tb_at 881 (by decide +kernel) rfl⟩
theorem me_X10_move : MES yX10_move cX10_move 3 none 2 := ⟨⟨tb_at 871 (by decide +kernel) rfl, tb_at 12 (by decide +kernel) rfl, (by decide +kernel), by decide⟩, tb_at 870 (by decide +kernel) rfl⟩
theorem me_X10_image : MEV yX10_image cX10_image 1 (some .int) 0 10 := ⟨⟨tb_at 868 (by decide +kernel) rfl, tb_at 12 (by decide +kernel) rfl, (by decide +kernel), by decide⟩, tb_at 866 (by decide +kernel) rfl, tb_at 867 (by decide +kernel) rfl, TX10, 30, rfl⟩
theorem me_X10_undo : MEV yX10_undo cX10_undo 1 (some .int) 0 10 := ⟨⟨tb_at 875 (by decide +kernel) rfl, tb_at 12 (by decide +kernel) rfl, (by decide +kernel), by decide⟩, tb_at 873 (by decide +kernel) rfl, tb_at 874 (by decide +kernel) rfl, TX10, 30, rfl⟩
theorem me_X10_isOne : MEV yX10_isOne cX10_isOne 2 (some .boolean) 1 10 := ⟨⟨tb_at 898 (by decide +kernel) rfl, tb_at 12 (by decide +kernel) rfl, (by decide +kernel), by decide⟩, tb_at 897 (by decide +kernel) rfl, sl_at 15 (by decide +kernel), TX10, 30, rfl⟩
theorem me_X10_isSaying : MEV yX10_isSaying cX10_isSaying 2 (some .boolean) 1 10 := ⟨⟨tb_at 988 (by decide +kernel) rfl, tb_at 12 (by decide +kernel) rfl, (by decide +kernel), by decide⟩, tb_at 987 (by decide +kernel) rfl, sl_at 37 (by decide +kernel), TX10, 30, rfl⟩
theorem me_X10_orNever : MES yX10_orNever cX10_orNever 1 (some .int) 1 := ⟨⟨tb_at 1003 (by decide +kernel) rfl, tb_at 12 (by decide +kernel) rfl, (by decide +kernel), by decide⟩, tb_at 1002 (by decide +kernel) rfl⟩
theorem me_X10_one : MEV yX10_one cX10_one 3 (some .int) 2 10 := ⟨⟨tb_at 890 (by decide +kernel) rfl, tb_at 12 (by decide +kernel) rfl, (by decide +kernel), by decide⟩, tb_at 889 (by decide +kernel) rfl, sl_at 14 (by decide +kernel), TX10, 30, rfl⟩
theorem me_X10_change : MEV yX10_change cX10_change 5 (some .int) 3 10 := ⟨⟨tb_at 886 (by decide +kernel) rfl, tb_at 12 (by decide +kernel) rfl, (by decide +kernel), by decide⟩, tb_at 885 (by decide +kernel) rfl, sl_at 13 (by decide +kernel), TX10, 30, rfl⟩
theorem me_X10_word : MEV yX10_word cX10_word 3 (some .int) 2 10 := ⟨⟨tb_at 962 (by decide +kernel) rfl, tb_at 12 (by decide +kernel) rfl, (by decide +kernel), by decide⟩, tb_at 961 (by decide +kernel) rfl, sl_at 31 (by decide +kernel), TX10, 30, rfl⟩
theorem me_X10_aims : MEV yX10_aims cX10_aims 4 (some .int) 2 10 := ⟨⟨tb_at 996 (by decide +kernel) rfl, tb_at 12 (by decide +kernel) rfl, (by decide +kernel), by decide⟩, tb_at 995 (by decide +kernel) rfl, sl_at 38 (by decide +kernel), TX10, 30, rfl⟩
theorem me_X10_wearer : MEV yX10_wearer cX10_wearer 6 (some .int) 3 10 := ⟨⟨tb_at 879 (by decide +kernel) rfl, tb_at 12 (by decide +kernel) rfl, (by decide +kernel), by decide⟩, tb_at 877 (by decide +kernel) rfl, tb_at 878 (by decide +kernel) rfl, TX10, 30, rfl⟩
theorem me_X10_of : MEV yX10_of cX10_of 3 (some .int) 2 10 := ⟨⟨tb_at 894 (by decide +kernel) rfl, tb_at 12 (by decide +kernel) rfl, (by decide +kernel), by decide⟩, tb_at 892 (by decide +kernel) rfl, tb_at 893 (by decide +kernel) rfl, TX10, 30, rfl⟩
theorem me_X10_saying : MEV yX10_saying cX10_saying 4 (some .int) 2 10 := ⟨⟨tb_at 992 (by decide +kernel) rfl, tb_at 12 (by decide +kernel) rfl, (by decide +kernel), by decide⟩, tb_at 990 (by decide +kernel) rfl, tb_at 991 (by decide +kernel) rfl, TX10, 30, rfl⟩
theorem me_X10_phrase : MEV yX10_phrase cX10_phrase 3 (some .int) 2 10 := ⟨⟨tb_at 1000 (by decide +kernel) rfl, tb_at 12 (by decide +kernel) rfl, (by decide +kernel), by decide⟩, tb_at 998 (by decide +kernel) rfl, tb_at 999 (by decide +kernel) rfl, TX10, 30, rfl⟩
theorem me_X10_aim : MEV yX10_aim cX10_aim 3 (some .int) 2 10 := ⟨⟨tb_at 1007 (by decide +kernel) rfl, tb_at 12 (by decide +kernel) rfl, (by decide +kernel), by decide⟩, tb_at 1005 (by decide +kernel) rfl, tb_at 1006 (by decide +kernel) rfl, TX10, 30, rfl⟩
theorem me_X10_mend : MEV yX10_mend cX10_mend 3 (some .int) 2 10 := ⟨⟨tb_at 1011 (by decide +kernel) rfl, tb_at 12 (by decide +kernel) rfl, (by decide +kernel), by decide⟩, tb_at 1009 (by decide +kernel) rfl, tb_at 1010 (by decide +kernel) rfl, TX10, 30, rfl⟩
theorem me_X10_row : MEV yX10_row cX10_row 4 (some .int) 3 10 := ⟨⟨tb_at 1015 (by decide +kernel) rfl, tb_at 12 (by decide +kernel) rfl, (by decide +kernel), by decide⟩, tb_at 1013 (by decide +kernel) rfl, tb_at 1014 (by decide +kernel) rfl, TX10, 30, rfl⟩
theorem me_X10_feed : MEV yX10_feed cX10_feed 2 (some .int) 1 10 := ⟨⟨tb_at 1019 (by decide +kernel) rfl, tb_at 12 (by decide +kernel) rfl, (by decide +kernel), by decide⟩, tb_at 1017 (by decide +kernel) rfl, tb_at 1018 (by decide +kernel) rfl, TX10, 30, rfl⟩
theorem me_X10_isAt : MEV yX10_isAt cX10_isAt 2 (some .boolean) 1 10 := ⟨⟨tb_at 926 (by decide +kernel) rfl, tb_at 12 (by decide +kernel) rfl, (by decide +kernel), by decide⟩, tb_at 925 (by decide +kernel) rfl, sl_at 22 (by decide +kernel), TX10, 30, rfl⟩
theorem me_X10_takes : MEV yX10_takes cX10_takes 2 none 1 10 := ⟨⟨tb_at 930 (by decide +kernel) rfl, tb_at 12 (by decide +kernel) rfl, (by decide +kernel), by decide⟩, tb_at 929 (by decide +kernel) rfl, sl_at 23 (by decide +kernel), TX10, 30, rfl⟩
theorem me_X10_isDigit : MEV yX10_isDigit cX10_isDigit 1 (some .boolean) 0 10 := ⟨⟨tb_at 938 (by decide +kernel) rfl, tb_at 12 (by decide +kernel) rfl, (by decide +kernel), by decide⟩, tb_at 937 (by decide +kernel) rfl, sl_at 25 (by decide +kernel), TX10, 30, rfl⟩
theorem me_X10_number : MEV yX10_number cX10_number 2 (some .int) 0 10 := ⟨⟨tb_at 934 (by decide +kernel) rfl, tb_at 12 (by decide +kernel) rfl, (by decide +kernel), by decide⟩, tb_at 933 (by decide +kernel) rfl, sl_at 24 (by decide +kernel), TX10, 30, rfl⟩
theorem me_X10_test : MEV yX10_test cX10_test 4 (some .boolean) 0 10 := ⟨⟨tb_at 954 (by decide +kernel) rfl, tb_at 12 (by decide +kernel) rfl, (by decide +kernel), by decide⟩, tb_at 953 (by decide +kernel) rfl, sl_at 29 (by decide +kernel), TX10, 30, rfl⟩
theorem me_X10_factor : MEV yX10_factor cX10_factor 2 (some .boolean) 0 10 := ⟨⟨tb_at 950 (by decide +kernel) rfl, tb_at 12 (by decide +kernel) rfl, (by decide +kernel), by decide⟩, tb_at 949 (by decide +kernel) rfl, sl_at 28 (by decide +kernel), TX10, 30, rfl⟩
theorem me_X10_both : MEV yX10_both cX10_both 3 (some .boolean) 0 10 := ⟨⟨tb_at 946 (by decide +kernel) rfl, tb_at 12 (by decide +kernel) rfl, (by decide +kernel), by decide⟩, tb_at 945 (by decide +kernel) rfl, sl_at 27 (by decide +kernel), TX10, 30, rfl⟩
theorem me_X10_any : MEV yX10_any cX10_any 3 (some .boolean) 0 10 := ⟨⟨tb_at 942 (by decide +kernel) rfl, tb_at 12 (by decide +kernel) rfl, (by decide +kernel), by decide⟩, tb_at 941 (by decide +kernel) rfl, sl_at 26 (by decide +kernel), TX10, 30, rfl⟩
theorem me_X10_clause : MEV yX10_clause cX10_clause 4 none 0 10 := ⟨⟨tb_at 922 (by decide +kernel) rfl, tb_at 12 (by decide +kernel) rfl, (by decide +kernel), by decide⟩, tb_at 921 (by decide +kernel) rfl, sl_at 21 (by decide +kernel), TX10, 30, rfl⟩
theorem me_X10_readAll : MEV yX10_readAll cX10_readAll 2 (some .boolean) 0 10 := ⟨⟨tb_at 918 (by decide +kernel) rfl, tb_at 12 (by decide +kernel) rfl, (by decide +kernel), by decide⟩, tb_at 917 (by decide +kernel) rfl, sl_at 20 (by decide +kernel), TX10, 30, rfl⟩
theorem me_X10_readFor : MEV yX10_readFor cX10_readFor 5 none 2 10 := ⟨⟨tb_at 914 (by decide +kernel) rfl, tb_at 12 (by decide +kernel) rfl, (by decide +kernel), by decide⟩, tb_at 913 (by decide +kernel) rfl, sl_at 19 (by decide +kernel), TX10, 30, rfl⟩
theorem me_X10_city : MEV yX10_city cX10_city 2 (some .int) 0 10 := ⟨⟨tb_at 1023 (by decide +kernel) rfl, tb_at 12 (by decide +kernel) rfl, (by decide +kernel), by decide⟩, tb_at 1021 (by decide +kernel) rfl, tb_at 1022 (by decide +kernel) rfl, TX10, 30, rfl⟩
theorem me_X10_guard : MEV yX10_guard cX10_guard 5 (some .int) 2 10 := ⟨⟨tb_at 970 (by decide +kernel) rfl, tb_at 12 (by decide +kernel) rfl, (by decide +kernel), by decide⟩, tb_at 969 (by decide +kernel) rfl, sl_at 33 (by decide +kernel), TX10, 30, rfl⟩
theorem me_X10_rubNow : MEV yX10_rubNow cX10_rubNow 1 (some .int) 0 10 := ⟨⟨tb_at 910 (by decide +kernel) rfl, tb_at 12 (by decide +kernel) rfl, (by decide +kernel), by decide⟩, tb_at 909 (by decide +kernel) rfl, sl_at 18 (by decide +kernel), TX10, 30, rfl⟩
theorem me_X10_isStriking : MEV yX10_isStriking cX10_isStriking 2 (some .boolean) 1 10 := ⟨⟨tb_at 958 (by decide +kernel) rfl, tb_at 12 (by decide +kernel) rfl, (by decide +kernel), by decide⟩, tb_at 957 (by decide +kernel) rfl, sl_at 30 (by decide +kernel), TX10, 30, rfl⟩
theorem me_X10_strikes : MEV yX10_strikes cX10_strikes 5 none 2 10 := ⟨⟨tb_at 966 (by decide +kernel) rfl, tb_at 12 (by decide +kernel) rfl, (by decide +kernel), by decide⟩, tb_at 965 (by decide +kernel) rfl, sl_at 32 (by decide +kernel), TX10, 30, rfl⟩
theorem me_X10_day : MEV yX10_day cX10_day 3 none 0 10 := ⟨⟨tb_at 906 (by decide +kernel) rfl, tb_at 12 (by decide +kernel) rfl, (by decide +kernel), by decide⟩, tb_at 905 (by decide +kernel) rfl, sl_at 17 (by decide +kernel), TX10, 30, rfl⟩
theorem me_X10_days : MEV yX10_days cX10_days 3 none 1 10 := ⟨⟨tb_at 1039 (by decide +kernel) rfl, tb_at 12 (by decide +kernel) rfl, (by decide +kernel), by decide⟩, tb_at 1038 (by decide +kernel) rfl, sl_at 40 (by decide +kernel), TX10, 30, rfl⟩
theorem me_X10_all : MEV yX10_all cX10_all 4 (some .int) 1 10 := ⟨⟨tb_at 1031 (by decide +kernel) rfl, tb_at 12 (by decide +kernel) rfl, (by decide +kernel), by decide⟩, tb_at 1030 (by decide +kernel) rfl, sl_at 39 (by decide +kernel), TX10, 30, rfl⟩
theorem me_X10_sore : MEV yX10_sore cX10_sore 5 (some .int) 1 10 := ⟨⟨tb_at 902 (by decide +kernel) rfl, tb_at 12 (by decide +kernel) rfl, (by decide +kernel), by decide⟩, tb_at 901 (by decide +kernel) rfl, sl_at 16 (by decide +kernel), TX10, 30, rfl⟩
theorem me_X10_told : MEV yX10_told cX10_told 4 (some .int) 1 10 := ⟨⟨tb_at 1027 (by decide +kernel) rfl, tb_at 12 (by decide +kernel) rfl, (by decide +kernel), by decide⟩, tb_at 1025 (by decide +kernel) rfl, tb_at 1026 (by decide +kernel) rfl, TX10, 30, rfl⟩
theorem me_X10_pass : MEV yX10_pass cX10_pass 2 (some .int) 1 10 := ⟨⟨tb_at 1035 (by decide +kernel) rfl, tb_at 12 (by decide +kernel) rfl, (by decide +kernel), by decide⟩, tb_at 1033 (by decide +kernel) rfl, tb_at 1034 (by decide +kernel) rfl, TX10, 30, rfl⟩
theorem me_X10_on : MEV yX10_on cX10_on 4 (some .int) 2 10 := ⟨⟨tb_at 1043 (by decide +kernel) rfl, tb_at 12 (by decide +kernel) rfl, (by decide +kernel), by decide⟩, tb_at 1041 (by decide +kernel) rfl, tb_at 1042 (by decide +kernel) rfl, TX10, 30, rfl⟩
theorem me_X10_hurtBehind : MEV yX10_hurtBehind cX10_hurtBehind 3 (some .int) 1 10 := ⟨⟨tb_at 1058 (by decide +kernel) rfl, tb_at 12 (by decide +kernel) rfl, (by decide +kernel), by decide⟩, tb_at 1057 (by decide +kernel) rfl, sl_at 42 (by decide +kernel), TX10, 30, rfl⟩
theorem me_X10_many : MES yX10_many cX10_many 3 (some .int) 1 := ⟨⟨tb_at 1054 (by decide +kernel) rfl, tb_at 12 (by decide +kernel) rfl, (by decide +kernel), by decide⟩, tb_at 1053 (by decide +kernel) rfl⟩
theorem me_X10_mends : MEV yX10_mends cX10_mends 6 (some .int) 1 10 := ⟨⟨tb_at 1051 (by decide +kernel) rfl, tb_at 12 (by decide +kernel) rfl, (by decide +kernel), by decide⟩, tb_at 1050 (by decide +kernel) rfl, sl_at 41 (by decide +kernel), TX10, 30, rfl⟩
theorem me_X10_swap : MEV yX10_swap cX10_swap 4 none 2 10 := ⟨⟨tb_at 1066 (by decide +kernel) rfl, tb_at 12 (by decide +kernel) rfl, (by decide +kernel), by decide⟩, tb_at 1065 (by decide +kernel) rfl, sl_at 44 (by decide +kernel), TX10, 30, rfl⟩
theorem me_X10_changes : MEV yX10_changes cX10_changes 7 (some .int) 1 10 := ⟨⟨tb_at 1062 (by decide +kernel) rfl, tb_at 12 (by decide +kernel) rfl, (by decide +kernel), by decide⟩, tb_at 1061 (by decide +kernel) rfl, sl_at 43 (by decide +kernel), TX10, 30, rfl⟩
theorem me_X10_aimOf : MEV yX10_aimOf cX10_aimOf 8 (some .int) 2 10 := ⟨⟨tb_at 1070 (by decide +kernel) rfl, tb_at 12 (by decide +kernel) rfl, (by decide +kernel), by decide⟩, tb_at 1069 (by decide +kernel) rfl, sl_at 45 (by decide +kernel), TX10, 30, rfl⟩
theorem me_X10_best : MEV yX10_best cX10_best 3 (some .int) 2 10 := ⟨⟨tb_at 1047 (by decide +kernel) rfl, tb_at 12 (by decide +kernel) rfl, (by decide +kernel), by decide⟩, tb_at 1045 (by decide +kernel) rfl, tb_at 1046 (by decide +kernel) rfl, TX10, 30, rfl⟩
theorem me_X10_comes : MEV yX10_comes cX10_comes 6 (some .int) 4 10 := ⟨⟨tb_at 1079 (by decide +kernel) rfl, tb_at 12 (by decide +kernel) rfl, (by decide +kernel), by decide⟩, tb_at 1078 (by decide +kernel) rfl, sl_at 46 (by decide +kernel), TX10, 30, rfl⟩
theorem me_X10_see : MEV yX10_see cX10_see 4 (some .int) 3 10 := ⟨⟨tb_at 1075 (by decide +kernel) rfl, tb_at 12 (by decide +kernel) rfl, (by decide +kernel), by decide⟩, tb_at 1073 (by decide +kernel) rfl, tb_at 1074 (by decide +kernel) rfl, TX10, 30, rfl⟩
theorem me_X10_ache : MEV yX10_ache cX10_ache 4 (some .int) 3 10 := ⟨⟨tb_at 1083 (by decide +kernel) rfl, tb_at 12 (by decide +kernel) rfl, (by decide +kernel), by decide⟩, tb_at 1081 (by decide +kernel) rfl, tb_at 1082 (by decide +kernel) rfl, TX10, 30, rfl⟩
theorem me_X10_isAllSo : MEV yX10_isAllSo cX10_isAllSo 8 (some .boolean) 1 10 := ⟨⟨tb_at 984 (by decide +kernel) rfl, tb_at 12 (by decide +kernel) rfl, (by decide +kernel), by decide⟩, tb_at 983 (by decide +kernel) rfl, sl_at 36 (by decide +kernel), TX10, 30, rfl⟩
theorem me_X10_fits : MEV yX10_fits cX10_fits 11 (some .int) 5 10 := ⟨⟨tb_at 980 (by decide +kernel) rfl, tb_at 12 (by decide +kernel) rfl, (by decide +kernel), by decide⟩, tb_at 979 (by decide +kernel) rfl, sl_at 35 (by decide +kernel), TX10, 30, rfl⟩
theorem me_X10_covers : MEV yX10_covers cX10_covers 3 (some .int) 2 10 := ⟨⟨tb_at 976 (by decide +kernel) rfl, tb_at 12 (by decide +kernel) rfl, (by decide +kernel), by decide⟩, tb_at 975 (by decide +kernel) rfl, sl_at 34 (by decide +kernel), TX10, 30, rfl⟩
theorem me_X10_can : MEV yX10_can cX10_can 3 (some .int) 2 10 := ⟨⟨tb_at 1087 (by decide +kernel) rfl, tb_at 12 (by decide +kernel) rfl, (by decide +kernel), by decide⟩, tb_at 1085 (by decide +kernel) rfl, tb_at 1086 (by decide +kernel) rfl, TX10, 30, rfl⟩
theorem me_X10_fraction : MES yX10_fraction cX10_fraction 11 (some .long) 3 := ⟨⟨tb_at 1096 (by decide +kernel) rfl, tb_at 12 (by decide +kernel) rfl, (by decide +kernel), by decide⟩, tb_at 1095 (by decide +kernel) rfl⟩
theorem me_X10_odds : MEV yX10_odds cX10_odds 8 (some .long) 4 10 := ⟨⟨tb_at 1091 (by decide +kernel) rfl, tb_at 12 (by decide +kernel) rfl, (by decide +kernel), by decide⟩, tb_at 1089 (by decide +kernel) rfl, tb_at 1090 (by decide +kernel) rfl, TX10, 30, rfl⟩
theorem me_X10_mean : MEV yX10_mean cX10_mean 4 (some .long) 2 10 := ⟨⟨tb_at 1100 (by decide +kernel) rfl, tb_at 12 (by decide +kernel) rfl, (by decide +kernel), by decide⟩, tb_at 1098 (by decide +kernel) rfl, tb_at 1099 (by decide +kernel) rfl, TX10, 30, rfl⟩
theorem me_X10_plan : MEV yX10_plan cX10_plan 4 (some .int) 2 10 := ⟨⟨tb_at 1104 (by decide +kernel) rfl, tb_at 12 (by decide +kernel) rfl, (by decide +kernel), by decide⟩, tb_at 1102 (by decide +kernel) rfl, tb_at 1103 (by decide +kernel) rfl, TX10, 30, rfl⟩
theorem me_X10_ends : MEV yX10_ends cX10_ends 5 (some .int) 1 10 := ⟨⟨tb_at 1108 (by decide +kernel) rfl, tb_at 12 (by decide +kernel) rfl, (by decide +kernel), by decide⟩, tb_at 1106 (by decide +kernel) rfl, tb_at 1107 (by decide +kernel) rfl, TX10, 30, rfl⟩
theorem me_X10_book : MEV yX10_book cX10_book 3 (some .int) 2 10 := ⟨⟨tb_at 1112 (by decide +kernel) rfl, tb_at 12 (by decide +kernel) rfl, (by decide +kernel), by decide⟩, tb_at 1110 (by decide +kernel) rfl, tb_at 1111 (by decide +kernel) rfl, TX10, 30, rfl⟩
theorem me_X10_looked : MEV yX10_looked cX10_looked 2 (some .int) 0 10 := ⟨⟨tb_at 1116 (by decide +kernel) rfl, tb_at 12 (by decide +kernel) rfl, (by decide +kernel), by decide⟩, tb_at 1114 (by decide +kernel) rfl, tb_at 1115 (by decide +kernel) rfl, TX10, 30, rfl⟩
theorem me_X10_body : MEV yX10_body cX10_body 2 (some .int) 1 10 := ⟨⟨tb_at 1132 (by decide +kernel) rfl, tb_at 12 (by decide +kernel) rfl, (by decide +kernel), by decide⟩, tb_at 1131 (by decide +kernel) rfl, sl_at 49 (by decide +kernel), TX10, 30, rfl⟩
theorem me_X10_begin : MEV yX10_begin cX10_begin 4 (some .int) 3 10 := ⟨⟨tb_at 1124 (by decide +kernel) rfl, tb_at 12 (by decide +kernel) rfl, (by decide +kernel), by decide⟩, tb_at 1123 (by decide +kernel) rfl, sl_at 47 (by decide +kernel), TX10, 30, rfl⟩
theorem me_X10_byKind : MEV yX10_byKind cX10_byKind 7 (some .int) 4 10 := ⟨⟨tb_at 1128 (by decide +kernel) rfl, tb_at 12 (by decide +kernel) rfl, (by decide +kernel), by decide⟩, tb_at 1127 (by decide +kernel) rfl, sl_at 48 (by decide +kernel), TX10, 30, rfl⟩
theorem me_X10_act : MEV yX10_act cX10_act 4 (some .int) 3 10 := ⟨⟨tb_at 1120 (by decide +kernel) rfl, tb_at 12 (by decide +kernel) rfl, (by decide +kernel), by decide⟩, tb_at 1118 (by decide +kernel) rfl, tb_at 1119 (by decide +kernel) rfl, TX10, 30, rfl⟩
theorem me_X10_trace : MEV yX10_trace cX10_trace 2 (some .int) 1 10 := ⟨⟨tb_at 1136 (by decide +kernel) rfl, tb_at 12 (by decide +kernel) rfl, (by decide +kernel), by decide⟩, tb_at 1134 (by decide +kernel) rfl, tb_at 1135 (by decide +kernel) rfl, TX10, 30, rfl⟩
theorem me_X10_taken : MEV yX10_taken cX10_taken 4 (some .int) 2 10 := ⟨⟨tb_at 1140 (by decide +kernel) rfl, tb_at 12 (by decide +kernel) rfl, (by decide +kernel), by decide⟩, tb_at 1138 (by decide +kernel) rfl, tb_at 1139 (by decide +kernel) rfl, TX10, 30, rfl⟩
theorem me_X10_count : MEV yX10_count cX10_count 2 (some .int) 1 10 := ⟨⟨tb_at 1144 (by decide +kernel) rfl, tb_at 12 (by decide +kernel) rfl, (by decide +kernel), by decide⟩, tb_at 1142 (by decide +kernel) rfl, tb_at 1143 (by decide +kernel) rfl, TX10, 30, rfl⟩
theorem me_X10_isTape : MES yX10_isTape cX10_isTape 1 (some .boolean) 1 := ⟨⟨tb_at 1151 (by decide +kernel) rfl, tb_at 12 (by decide +kernel) rfl, (by decide +kernel), by decide⟩, tb_at 1150 (by decide +kernel) rfl⟩
theorem me_X10_tape : MEV yX10_tape cX10_tape 5 (some .int) 3 10 := ⟨⟨tb_at 1148 (by decide +kernel) rfl, tb_at 12 (by decide +kernel) rfl, (by decide +kernel), by decide⟩, tb_at 1146 (by decide +kernel) rfl, tb_at 1147 (by decide +kernel) rfl, TX10, 30, rfl⟩
theorem me_X10_item : MEV yX10_item cX10_item 6 (some .int) 3 10 := ⟨⟨tb_at 1155 (by decide +kernel) rfl, tb_at 12 (by decide +kernel) rfl, (by decide +kernel), by decide⟩, tb_at 1153 (by decide +kernel) rfl, tb_at 1154 (by decide +kernel) rfl, TX10, 30, rfl⟩
theorem me_X10_read : MEV yX10_read cX10_read 3 (some .long) 2 10 := ⟨⟨tb_at 1159 (by decide +kernel) rfl, tb_at 12 (by decide +kernel) rfl, (by decide +kernel), by decide⟩, tb_at 1157 (by decide +kernel) rfl, tb_at 1158 (by decide +kernel) rfl, TX10, 30, rfl⟩
theorem me_X10_shift : MEV yX10_shift cX10_shift 7 (some .int) 5 10 := ⟨⟨tb_at 1163 (by decide +kernel) rfl, tb_at 12 (by decide +kernel) rfl, (by decide +kernel), by decide⟩, tb_at 1161 (by decide +kernel) rfl, tb_at 1162 (by decide +kernel) rfl, TX10, 30, rfl⟩
theorem me_X10_judge : MEV yX10_judge cX10_judge 6 (some .int) 2 10 := ⟨⟨tb_at 1167 (by decide +kernel) rfl, tb_at 12 (by decide +kernel) rfl, (by decide +kernel), by decide⟩, tb_at 1165 (by decide +kernel) rfl, tb_at 1166 (by decide +kernel) rfl, TX10, 30, rfl⟩
theorem me_X0_init : MEI yX0_init cX0_init 1 0 := ⟨⟨tb_at 32 (by decide +kernel) rfl, tb_at 2 (by decide +kernel) rfl, (by decide +kernel), by decide⟩, tb_at 31 (by decide +kernel) rfl, rfl⟩
theorem me_X0_clear : MEV yX0_clear cX0_clear 1 none 0 0 := ⟨⟨tb_at 438 (by decide +kernel) rfl, tb_at 2 (by decide +kernel) rfl, (by decide +kernel), by decide⟩, tb_at 436 (by decide +kernel) rfl, tb_at 437 (by decide +kernel) rfl, TX0, 5, rfl⟩
theorem me_X0_put : MEV yX0_put cX0_put 3 none 2 0 := ⟨⟨tb_at 522 (by decide +kernel) rfl, tb_at 2 (by decide +kernel) rfl, (by decide +kernel), by decide⟩, tb_at 520 (by decide +kernel) rfl, tb_at 521 (by decide +kernel) rfl, TX0, 5, rfl⟩
theorem me_X0_sum : MEV yX0_sum cX0_sum 10 (some .int) 3 0 := ⟨⟨tb_at 356 (by decide +kernel) rfl, tb_at 2 (by decide +kernel) rfl, (by decide +kernel), by decide⟩, tb_at 354 (by decide +kernel) rfl, tb_at 355 (by decide +kernel) rfl, TX0, 5, rfl⟩
theorem me_X1_init : MEI yX1_init cX1_init 1 0 := ⟨⟨tb_at 176 (by decide +kernel) rfl, tb_at 7 (by decide +kernel) rfl, (by decide +kernel), by decide⟩, tb_at 175 (by decide +kernel) rfl, rfl⟩
theorem me_X1_become : MEV yX1_become cX1_become 2 none 1 1 := ⟨⟨tb_at 692 (by decide +kernel) rfl, tb_at 7 (by decide +kernel) rfl, (by decide +kernel), by decide⟩, tb_at 690 (by decide +kernel) rfl, tb_at 691 (by decide +kernel) rfl, TX1, 4, rfl⟩
theorem me_X2_init : MEI yX2_init cX2_init 1 0 := ⟨⟨tb_at 58 (by decide +kernel) rfl, tb_at 3 (by decide +kernel) rfl, (by decide +kernel), by decide⟩, tb_at 57 (by decide +kernel) rfl, rfl⟩
theorem me_X2_takes : MEV yX2_takes cX2_takes 2 (some .int) 1 2 := ⟨⟨tb_at 426 (by decide +kernel) rfl, tb_at 3 (by decide +kernel) rfl, (by decide +kernel), by decide⟩, tb_at 424 (by decide +kernel) rfl, tb_at 425 (by decide +kernel) rfl, TX2, 3, rfl⟩
theorem me_X2_makes : MEV yX2_makes cX2_makes 3 (some .boolean) 1 2 := ⟨⟨tb_at 434 (by decide +kernel) rfl, tb_at 3 (by decide +kernel) rfl, (by decide +kernel), by decide⟩, tb_at 432 (by decide +kernel) rfl, tb_at 433 (by decide +kernel) rfl, TX2, 3, rfl⟩
theorem me_X2_isClause : MEV yX2_isClause cX2_isClause 4 (some .boolean) 1 2 := ⟨⟨tb_at 446 (by decide +kernel) rfl, tb_at 3 (by decide +kernel) rfl, (by decide +kernel), by decide⟩, tb_at 444 (by decide +kernel) rfl, tb_at 445 (by decide +kernel) rfl, TX2, 3, rfl⟩
theorem me_X2_isEither : MEV yX2_isEither cX2_isEither 4 (some .boolean) 2 2 := ⟨⟨tb_at 510 (by decide +kernel) rfl, tb_at 3 (by decide +kernel) rfl, (by decide +kernel), by decide⟩, tb_at 509 (by decide +kernel) rfl, sl_at 5 (by decide +kernel), TX2, 3, rfl⟩
theorem me_X2_isBoth : MEV yX2_isBoth cX2_isBoth 4 (some .boolean) 2 2 := ⟨⟨tb_at 514 (by decide +kernel) rfl, tb_at 3 (by decide +kernel) rfl, (by decide +kernel), by decide⟩, tb_at 513 (by decide +kernel) rfl, sl_at 6 (by decide +kernel), TX2, 3, rfl⟩
theorem me_X2_isFactor : MEV yX2_isFactor cX2_isFactor 6 (some .boolean) 2 2 := ⟨⟨tb_at 518 (by decide +kernel) rfl, tb_at 3 (by decide +kernel) rfl, (by decide +kernel), by decide⟩, tb_at 517 (by decide +kernel) rfl, sl_at 7 (by decide +kernel), TX2, 3, rfl⟩
theorem me_X2_number : MEV yX2_number cX2_number 3 (some .int) 0 2 := ⟨⟨tb_at 503 (by decide +kernel) rfl, tb_at 3 (by decide +kernel) rfl, (by decide +kernel), by decide⟩, tb_at 501 (by decide +kernel) rfl, tb_at 502 (by decide +kernel) rfl, TX2, 3, rfl⟩
theorem me_X2_signOf : MEV yX2_signOf cX2_signOf 3 (some .int) 1 2 := ⟨⟨tb_at 527 (by decide +kernel) rfl, tb_at 3 (by decide +kernel) rfl, (by decide +kernel), by decide⟩, tb_at 525 (by decide +kernel) rfl, tb_at 526 (by decide +kernel) rfl, TX2, 3, rfl⟩
theorem me_X2_isWord : MEV yX2_isWord cX2_isWord 3 (some .boolean) 1 2 := ⟨⟨tb_at 451 (by decide +kernel) rfl, tb_at 3 (by decide +kernel) rfl, (by decide +kernel), by decide⟩, tb_at 449 (by decide +kernel) rfl, tb_at 450 (by decide +kernel) rfl, TX2, 3, rfl⟩
theorem me_X2_isSign : MEV yX2_isSign cX2_isSign 2 (some .boolean) 1 2 := ⟨⟨tb_at 442 (by decide +kernel) rfl, tb_at 3 (by decide +kernel) rfl, (by decide +kernel), by decide⟩, tb_at 440 (by decide +kernel) rfl, tb_at 441 (by decide +kernel) rfl, TX2, 3, rfl⟩
theorem me_X3_init : MEI yX3_init cX3_init 3 1 := ⟨⟨tb_at 182 (by decide +kernel) rfl, tb_at 8 (by decide +kernel) rfl, (by decide +kernel), by decide⟩, tb_at 181 (by decide +kernel) rfl, rfl⟩
theorem me_X3_empty : MEV yX3_empty cX3_empty 1 (some .int) 0 3 := ⟨⟨tb_at 636 (by decide +kernel) rfl, tb_at 8 (by decide +kernel) rfl, (by decide +kernel), by decide⟩, tb_at 634 (by decide +kernel) rfl, tb_at 635 (by decide +kernel) rfl, TX3, 4, rfl⟩
theorem me_X3_add : MEV yX3_add cX3_add 4 (some .int) 3 3 := ⟨⟨tb_at 640 (by decide +kernel) rfl, tb_at 8 (by decide +kernel) rfl, (by decide +kernel), by decide⟩, tb_at 638 (by decide +kernel) rfl, tb_at 639 (by decide +kernel) rfl, TX3, 4, rfl⟩
theorem me_X3_lastDay : MEV yX3_lastDay cX3_lastDay 3 (some .int) 0 3 := ⟨⟨tb_at 381 (by decide +kernel) rfl, tb_at 8 (by decide +kernel) rfl, (by decide +kernel), by decide⟩, tb_at 379 (by decide +kernel) rfl, tb_at 380 (by decide +kernel) rfl, TX3, 4, rfl⟩
theorem me_X3_become : MEV yX3_become cX3_become 2 none 1 3 := ⟨⟨tb_at 696 (by decide +kernel) rfl, tb_at 8 (by decide +kernel) rfl, (by decide +kernel), by decide⟩, tb_at 694 (by decide +kernel) rfl, tb_at 695 (by decide +kernel) rfl, TX3, 4, rfl⟩
theorem me_X4_init : MEI yX4_init cX4_init 1 0 := ⟨⟨tb_at 129 (by decide +kernel) rfl, tb_at 6 (by decide +kernel) rfl, (by decide +kernel), by decide⟩, tb_at 128 (by decide +kernel) rfl, rfl⟩
theorem me_X4_become : MEV yX4_become cX4_become 2 none 1 4 := ⟨⟨tb_at 335 (by decide +kernel) rfl, tb_at 6 (by decide +kernel) rfl, (by decide +kernel), by decide⟩, tb_at 333 (by decide +kernel) rfl, tb_at 334 (by decide +kernel) rfl, TX4, 3, rfl⟩
theorem me_X5_init : MEI yX5_init cX5_init 1 0 := ⟨⟨tb_at 241 (by decide +kernel) rfl, tb_at 11 (by decide +kernel) rfl, (by decide +kernel), by decide⟩, tb_at 240 (by decide +kernel) rfl, rfl⟩
theorem me_X5_become : MEV yX5_become cX5_become 4 none 2 5 := ⟨⟨tb_at 745 (by decide +kernel) rfl, tb_at 11 (by decide +kernel) rfl, (by decide +kernel), by decide⟩, tb_at 743 (by decide +kernel) rfl, tb_at 744 (by decide +kernel) rfl, TX5, 3, rfl⟩
theorem me_X5_holds : MEV yX5_holds cX5_holds 3 (some .boolean) 2 5 := ⟨⟨tb_at 765 (by decide +kernel) rfl, tb_at 11 (by decide +kernel) rfl, (by decide +kernel), by decide⟩, tb_at 763 (by decide +kernel) rfl, tb_at 764 (by decide +kernel) rfl, TX5, 3, rfl⟩
theorem me_X5_fitted : MEV yX5_fitted cX5_fitted 3 (some .long) 1 5 := ⟨⟨tb_at 753 (by decide +kernel) rfl, tb_at 11 (by decide +kernel) rfl, (by decide +kernel), by decide⟩, tb_at 751 (by decide +kernel) rfl, tb_at 752 (by decide +kernel) rfl, TX5, 3, rfl⟩
theorem me_X6_init : MEI yX6_init cX6_init 1 0 := ⟨⟨tb_at 225 (by decide +kernel) rfl, tb_at 10 (by decide +kernel) rfl, (by decide +kernel), by decide⟩, tb_at 224 (by decide +kernel) rfl, rfl⟩
theorem me_X6_begins : MEV yX6_begins cX6_begins 2 none 1 6 := ⟨⟨tb_at 713 (by decide +kernel) rfl, tb_at 10 (by decide +kernel) rfl, (by decide +kernel), by decide⟩, tb_at 711 (by decide +kernel) rfl, tb_at 712 (by decide +kernel) rfl, TX6, 2, rfl⟩
theorem me_X6_nods : MES yX6_nods cX6_nods 4 (some .int) 4 := ⟨⟨tb_at 709 (by decide +kernel) rfl, tb_at 10 (by decide +kernel) rfl, (by decide +kernel), by decide⟩, tb_at 708 (by decide +kernel) rfl⟩
theorem me_X6_knocks : MES yX6_knocks cX6_knocks 5 (some .int) 4 := ⟨⟨tb_at 717 (by decide +kernel) rfl, tb_at 10 (by decide +kernel) rfl, (by decide +kernel), by decide⟩, tb_at 716 (by decide +kernel) rfl⟩
theorem me_X6_tells : MES yX6_tells cX6_tells 5 (some .int) 4 := ⟨⟨tb_at 721 (by decide +kernel) rfl, tb_at 10 (by decide +kernel) rfl, (by decide +kernel), by decide⟩, tb_at 720 (by decide +kernel) rfl⟩
theorem me_X7_init : MEI yX7_init cX7_init 2 1 := ⟨⟨tb_at 86 (by decide +kernel) rfl, tb_at 5 (by decide +kernel) rfl, (by decide +kernel), by decide⟩, tb_at 85 (by decide +kernel) rfl, rfl⟩
theorem me_X7_begin : MEV yX7_begin cX7_begin 5 none 3 7 := ⟨⟨tb_at 308 (by decide +kernel) rfl, tb_at 5 (by decide +kernel) rfl, (by decide +kernel), by decide⟩, tb_at 306 (by decide +kernel) rfl, tb_at 307 (by decide +kernel) rfl, TX7, 7, rfl⟩
theorem me_X7_become : MEV yX7_become cX7_become 2 none 1 7 := ⟨⟨tb_at 328 (by decide +kernel) rfl, tb_at 5 (by decide +kernel) rfl, (by decide +kernel), by decide⟩, tb_at 326 (by decide +kernel) rfl, tb_at 327 (by decide +kernel) rfl, TX7, 7, rfl⟩
theorem me_X7_guardBy : MEV yX7_guardBy cX7_guardBy 4 (some .int) 2 7 := ⟨⟨tb_at 360 (by decide +kernel) rfl, tb_at 5 (by decide +kernel) rfl, (by decide +kernel), by decide⟩, tb_at 358 (by decide +kernel) rfl, tb_at 359 (by decide +kernel) rfl, TX7, 7, rfl⟩
theorem me_X8_init : MEI yX8_init cX8_init 3 1 := ⟨⟨tb_at 77 (by decide +kernel) rfl, tb_at 4 (by decide +kernel) rfl, (by decide +kernel), by decide⟩, tb_at 76 (by decide +kernel) rfl, rfl⟩
theorem me_X8_become : MEV yX8_become cX8_become 3 none 1 8 := ⟨⟨tb_at 324 (by decide +kernel) rfl, tb_at 4 (by decide +kernel) rfl, (by decide +kernel), by decide⟩, tb_at 322 (by decide +kernel) rfl, tb_at 323 (by decide +kernel) rfl, TX8, 6, rfl⟩
theorem me_X8_becomeOne : MEV yX8_becomeOne cX8_becomeOne 3 none 2 8 := ⟨⟨tb_at 389 (by decide +kernel) rfl, tb_at 4 (by decide +kernel) rfl, (by decide +kernel), by decide⟩, tb_at 387 (by decide +kernel) rfl, tb_at 388 (by decide +kernel) rfl, TX8, 6, rfl⟩
theorem me_X8_hasWearer : MEV yX8_hasWearer cX8_hasWearer 2 (some .boolean) 1 8 := ⟨⟨tb_at 316 (by decide +kernel) rfl, tb_at 4 (by decide +kernel) rfl, (by decide +kernel), by decide⟩, tb_at 314 (by decide +kernel) rfl, tb_at 315 (by decide +kernel) rfl, TX8, 6, rfl⟩
theorem me_X8_hasSaying : MEV yX8_hasSaying cX8_hasSaying 2 (some .boolean) 1 8 := ⟨⟨tb_at 393 (by decide +kernel) rfl, tb_at 4 (by decide +kernel) rfl, (by decide +kernel), by decide⟩, tb_at 391 (by decide +kernel) rfl, tb_at 392 (by decide +kernel) rfl, TX8, 6, rfl⟩
theorem me_X8_addWearer : MEV yX8_addWearer cX8_addWearer 4 (some .int) 3 8 := ⟨⟨tb_at 304 (by decide +kernel) rfl, tb_at 4 (by decide +kernel) rfl, (by decide +kernel), by decide⟩, tb_at 302 (by decide +kernel) rfl, tb_at 303 (by decide +kernel) rfl, TX8, 6, rfl⟩
theorem me_X8_addSaying : MEV yX8_addSaying cX8_addSaying 4 (some .int) 2 8 := ⟨⟨tb_at 402 (by decide +kernel) rfl, tb_at 4 (by decide +kernel) rfl, (by decide +kernel), by decide⟩, tb_at 400 (by decide +kernel) rfl, tb_at 401 (by decide +kernel) rfl, TX8, 6, rfl⟩
theorem me_X8_isStriking : MEV yX8_isStriking cX8_isStriking 2 (some .boolean) 1 8 := ⟨⟨tb_at 343 (by decide +kernel) rfl, tb_at 4 (by decide +kernel) rfl, (by decide +kernel), by decide⟩, tb_at 341 (by decide +kernel) rfl, tb_at 342 (by decide +kernel) rfl, TX8, 6, rfl⟩
theorem me_X8_strikingBits : MEV yX8_strikingBits cX8_strikingBits 3 (some .int) 0 8 := ⟨⟨tb_at 599 (by decide +kernel) rfl, tb_at 4 (by decide +kernel) rfl, (by decide +kernel), by decide⟩, tb_at 597 (by decide +kernel) rfl, tb_at 598 (by decide +kernel) rfl, TX8, 6, rfl⟩
theorem me_X8_guard : MEV yX8_guard cX8_guard 3 (some .int) 2 8 := ⟨⟨tb_at 352 (by decide +kernel) rfl, tb_at 4 (by decide +kernel) rfl, (by decide +kernel), by decide⟩, tb_at 350 (by decide +kernel) rfl, tb_at 351 (by decide +kernel) rfl, TX8, 6, rfl⟩
theorem me_X8_go : MEV yX8_go cX8_go 5 none 2 8 := ⟨⟨tb_at 339 (by decide +kernel) rfl, tb_at 4 (by decide +kernel) rfl, (by decide +kernel), by decide⟩, tb_at 337 (by decide +kernel) rfl, tb_at 338 (by decide +kernel) rfl, TX8, 6, rfl⟩
theorem me_X8_strike : MEV yX8_strike cX8_strike 5 none 1 8 := ⟨⟨tb_at 348 (by decide +kernel) rfl, tb_at 4 (by decide +kernel) rfl, (by decide +kernel), by decide⟩, tb_at 346 (by decide +kernel) rfl, tb_at 347 (by decide +kernel) rfl, TX8, 6, rfl⟩
theorem me_X8_hurtOfAll : MEV yX8_hurtOfAll cX8_hurtOfAll 3 (some .int) 0 8 := ⟨⟨tb_at 591 (by decide +kernel) rfl, tb_at 4 (by decide +kernel) rfl, (by decide +kernel), by decide⟩, tb_at 589 (by decide +kernel) rfl, tb_at 590 (by decide +kernel) rfl, TX8, 6, rfl⟩
theorem me_X8_coverOfAll : MEV yX8_coverOfAll cX8_coverOfAll 3 (some .int) 0 8 := ⟨⟨tb_at 595 (by decide +kernel) rfl, tb_at 4 (by decide +kernel) rfl, (by decide +kernel), by decide⟩, tb_at 593 (by decide +kernel) rfl, tb_at 594 (by decide +kernel) rfl, TX8, 6, rfl⟩
end
section
/-! what the cells of the two systems hold -/
abbrev I1 : Type := Nat → Int32
abbrev I2 : Type := Nat → Nat → Int32
/-- only what stands below n counts -/
def nrm (n : Nat) (f : I1) : I1 := fun j => if j < n then f j else 0
def nrmL (n : Nat) (f : Nat → Int64) : Nat → Int64 := fun j => if j < n then f j else 0
def aI (g : GG) (n : Nat) (f : I1) : va_E := .inl (g.2.1 0, n, .inl (nrm n f))
def aB (g : GG) (n : Nat) (f : I1) : va_E := .inl (g.2.1 1, n, .inl (nrm n f))
def aC (g : GG) (n : Nat) (f : I1) : va_E := .inl (g.2.1 2, n, .inl (nrm n f))
def aL (g : GG) (n : Nat) (f : Nat → Int64) : va_E := .inl (g.2.1 3, n, .inr (.inl (nrmL n f)))
def aR (g : GG) (t n : Nat) (f : Nat → VA) : va_E := .inl (g.2.1 t, n, .inr (.inr (.inr (.inr (fun j => if j < n then some (bG g + ad (f j)) else none)))))
theorem nrm_lt {n i : Nat} {f : I1} (h : i < n) : nrm n f i = f i := if_pos h
theorem nrmL_lt {n i : Nat} {f : Nat → Int64} (h : i < n) : nrmL n f i = f i := if_pos h
theorem nrm_upd {n i : Nat} {f : I1} {v : Int32} (h : i < n) : upd (nrm n f) i v = nrm n (upd f i v) := by
  funext j
  simp only [upd, nrm]
  by_cases e : j = i
  · subst e; rw [if_pos rfl, if_pos h, if_pos rfl]
  · rw [if_neg e, if_neg e]
theorem nrmL_upd {n i : Nat} {f : Nat → Int64} {v : Int64} (h : i < n) : vp_updL (nrmL n f) i v = nrmL n (vp_updL f i v) := by
  funext j
  simp only [vp_updL, nrmL]
  by_cases e : j = i
  · subst e; rw [if_pos rfl, if_pos h, if_pos rfl]
  · rw [if_neg e, if_neg e]
theorem nrm_eq {n : Nat} {f f1 : I1} (h : ∀ j, j < n → f j = f1 j) : nrm n f = nrm n f1 := by
  funext j
  simp only [nrm]
  by_cases e : j < n
  · rw [if_pos e, if_pos e, h j e]
  · rw [if_neg e, if_neg e]
theorem nrmL_eq {n : Nat} {f f1 : Nat → Int64} (h : ∀ j, j < n → f j = f1 j) : nrmL n f = nrmL n f1 := by
  funext j
  simp only [nrmL]
  by_cases e : j < n
  · rw [if_pos e, if_pos e, h j e]
  · rw [if_neg e, if_neg e]
theorem aI_eq {g : GG} {n : Nat} {f f1 : I1} (h : ∀ j, j < n → f j = f1 j) : aI g n f = aI g n f1 := by rw [aI, aI, nrm_eq h]
theorem aL_eq {g : GG} {n : Nat} {f f1 : Nat → Int64} (h : ∀ j, j < n → f j = f1 j) : aL g n f = aL g n f1 := by rw [aL, aL, nrmL_eq h]
def dflt : va_E := .inr (0, [])
def mLet : I1 := fun j => [112, 107, 118, 115, 99, 100].getD j 0
def mBeg : I1 := fun j => [102, 119, 114].getD j 0
def mWor : I1 := fun j => [102, 105, 114, 109, 0, 119, 101, 97, 107, 0, 114, 117, 98, 0, 0].getD j 0
def mAbo : I1 := fun j => [-1, 0, 0, 0, 1, 2, 3].getD j 0
def mBod : I1 := fun j => [10, 11, 12, 0, 20, 0, 30, 0, 0, 0, 0, 40, 50, 51, 0, 0, 0, 60, 71, 70, 0].getD j 0
/-- text, texted, rules, sizes, ruled -/
abbrev TXt : Type := I1 × Int32 × I1 × I1 × Int32
/-- read, size, at, well, within, sum, rub, names, covers, hurts -/
abbrev Zt : Type := I1 × Int32 × Int32 × Int32 × Int32 × Int32 × Int32 × I1 × I1 × I1
/-- sorts, lengths, items, moved -/
abbrev TPt : Type := I1 × I1 × (Nat → Int64) × (Nat → Int64)
def hM (g : GG) (now mind : I1) (th : I1 × Int32) (tx : TXt) (z : Zt) (tr : I1 × Int32) (tp : TPt) : PHp := fun a => match a with
  | (22, 0, 0) => .inr (10, [rf g (23, 0, 0), rf g (23, 1, 0), rf g (23, 2, 0), .int th.2, rf g (23, 4, 0), .int tx.2.1, rf g (23, 6, 0), rf g (23, 7, 0), .int tx.2.2.2.2, rf g (23, 9, 0), .int z.2.1, .int z.2.2.1, .int z.2.2.2.1, .int z.2.2.2.2.1, .int z.2.2.2.2.2.1, .int z.2.2.2.2.2.2.1, rf g (23, 16, 0), rf g (23, 17, 0), rf g (23, 18, 0), rf g (23, 19, 0), rf g (23, 20, 0), rf g (23, 21, 0), rf g (23, 22, 0), rf g (23, 23, 0), rf g (23, 24, 0), .int tr.2, rf g (23, 26, 0), rf g (23, 27, 0), rf g (23, 28, 0), rf g (23, 29, 0)])
  | (23, 0, 0) => aI g 152 now
  | (23, 1, 0) => aI g 152 mind
  | (23, 2, 0) => aI g 152 th.1
  | (23, 4, 0) => aI g 100 tx.1
  | (23, 6, 0) => aI g 600 tx.2.2.1
  | (23, 7, 0) => aI g 6 tx.2.2.2.1
  | (23, 9, 0) => aI g 100 z.1
  | (23, 16, 0) => aI g 6 z.2.2.2.2.2.2.2.1
  | (23, 17, 0) => aC g 6 mLet
  | (23, 18, 0) => aC g 3 mBeg
  | (23, 19, 0) => aC g 15 mWor
  | (23, 20, 0) => aI g 6 z.2.2.2.2.2.2.2.2.1
  | (23, 21, 0) => aI g 6 z.2.2.2.2.2.2.2.2.2
  | (23, 22, 0) => aI g 7 mAbo
  | (23, 23, 0) => aI g 21 mBod
  | (23, 24, 0) => aI g 20 tr.1
  | (23, 26, 0) => aI g 6 tp.1
  | (23, 27, 0) => aI g 6 tp.2.1
  | (23, 28, 0) => aL g 360 tp.2.2.1
  | (23, 29, 0) => aL g 60 tp.2.2.2
  | _ => dflt
/-- the class's cells below kind 22, the reference's from there on -/
def jn (X Y : PHp) : PHp := fun a => cond (Nat.blt a.1 22) (X a) (Y a)
theorem jn_upR {X Y Y1 : PHp} {k w i : Nat} {e : va_E} (hk : Nat.blt k 22 = false) (h : ∀ a, a ≠ (k, w, i) → Y1 a = Y a) (he : Y1 (k, w, i) = e) : up (jn X Y) (k, w, i) e = jn X Y1 := by
  funext a
  unfold up jn
  split
  · next q => subst q; rw [hk]; exact he.symm
  · next q => rw [h a q]
theorem jn_upL {X Y X1 : PHp} {k w i : Nat} {e : va_E} (hk : Nat.blt k 22 = true) (h : ∀ a, a ≠ (k, w, i) → X1 a = X a) (he : X1 (k, w, i) = e) : up (jn X Y) (k, w, i) e = jn X1 Y := by
  funext a
  unfold up jn
  split
  · next q => subst q; rw [hk]; exact he.symm
  · next q => rw [h a q]
theorem uM_kept {g : GG} {X : PHp} {now mind : I1} {th : I1 × Int32} {tx : TXt} {z : Zt} {tr : I1 × Int32} {tp : TPt} {v : Int32} : up (jn X (hM g now mind th tx z tr tp)) (22, 0, 0) (.inr (10, List.set [rf g (23, 0, 0), rf g (23, 1, 0), rf g (23, 2, 0), .int th.2, rf g (23, 4, 0), .int tx.2.1, rf g (23, 6, 0), rf g (23, 7, 0), .int tx.2.2.2.2, rf g (23, 9, 0), .int z.2.1, .int z.2.2.1, .int z.2.2.2.1, .int z.2.2.2.2.1, .int z.2.2.2.2.2.1, .int z.2.2.2.2.2.2.1, rf g (23, 16, 0), rf g (23, 17, 0), rf g (23, 18, 0), rf g (23, 19, 0), rf g (23, 20, 0), rf g (23, 21, 0), rf g (23, 22, 0), rf g (23, 23, 0), rf g (23, 24, 0), .int tr.2, rf g (23, 26, 0), rf g (23, 27, 0), rf g (23, 28, 0), rf g (23, 29, 0)] 3 (.int v))) = jn X (hM g now mind (th.1, v) tx z tr tp) := jn_upR rfl (fun a h => by unfold hM; split <;> first | rfl | exact absurd rfl h) rfl
theorem uM_texted {g : GG} {X : PHp} {now mind : I1} {th : I1 × Int32} {tx : TXt} {z : Zt} {tr : I1 × Int32} {tp : TPt} {v : Int32} : up (jn X (hM g now mind th tx z tr tp)) (22, 0, 0) (.inr (10, List.set [rf g (23, 0, 0), rf g (23, 1, 0), rf g (23, 2, 0), .int th.2, rf g (23, 4, 0), .int tx.2.1, rf g (23, 6, 0), rf g (23, 7, 0), .int tx.2.2.2.2, rf g (23, 9, 0), .int z.2.1, .int z.2.2.1, .int z.2.2.2.1, .int z.2.2.2.2.1, .int z.2.2.2.2.2.1, .int z.2.2.2.2.2.2.1, rf g (23, 16, 0), rf g (23, 17, 0), rf g (23, 18, 0), rf g (23, 19, 0), rf g (23, 20, 0), rf g (23, 21, 0), rf g (23, 22, 0), rf g (23, 23, 0), rf g (23, 24, 0), .int tr.2, rf g (23, 26, 0), rf g (23, 27, 0), rf g (23, 28, 0), rf g (23, 29, 0)] 5 (.int v))) = jn X (hM g now mind th (tx.1, v, tx.2.2.1, tx.2.2.2.1, tx.2.2.2.2) z tr tp) := jn_upR rfl (fun a h => by unfold hM; split <;> first | rfl | exact absurd rfl h) rfl
theorem uM_ruled {g : GG} {X : PHp} {now mind : I1} {th : I1 × Int32} {tx : TXt} {z : Zt} {tr : I1 × Int32} {tp : TPt} {v : Int32} : up (jn X (hM g now mind th tx z tr tp)) (22, 0, 0) (.inr (10, List.set [rf g (23, 0, 0), rf g (23, 1, 0), rf g (23, 2, 0), .int th.2, rf g (23, 4, 0), .int tx.2.1, rf g (23, 6, 0), rf g (23, 7, 0), .int tx.2.2.2.2, rf g (23, 9, 0), .int z.2.1, .int z.2.2.1, .int z.2.2.2.1, .int z.2.2.2.2.1, .int z.2.2.2.2.2.1, .int z.2.2.2.2.2.2.1, rf g (23, 16, 0), rf g (23, 17, 0), rf g (23, 18, 0), rf g (23, 19, 0), rf g (23, 20, 0), rf g (23, 21, 0), rf g (23, 22, 0), rf g (23, 23, 0), rf g (23, 24, 0), .int tr.2, rf g (23, 26, 0), rf g (23, 27, 0), rf g (23, 28, 0), rf g (23, 29, 0)] 8 (.int v))) = jn X (hM g now mind th (tx.1, tx.2.1, tx.2.2.1, tx.2.2.2.1, v) z tr tp) := jn_upR rfl (fun a h => by unfold hM; split <;> first | rfl | exact absurd rfl h) rfl
theorem uM_size {g : GG} {X : PHp} {now mind : I1} {th : I1 × Int32} {tx : TXt} {z : Zt} {tr : I1 × Int32} {tp : TPt} {v : Int32} : up (jn X (hM g now mind th tx z tr tp)) (22, 0, 0) (.inr (10, List.set [rf g (23, 0, 0), rf g (23, 1, 0), rf g (23, 2, 0), .int th.2, rf g (23, 4, 0), .int tx.2.1, rf g (23, 6, 0), rf g (23, 7, 0), .int tx.2.2.2.2, rf g (23, 9, 0), .int z.2.1, .int z.2.2.1, .int z.2.2.2.1, .int z.2.2.2.2.1, .int z.2.2.2.2.2.1, .int z.2.2.2.2.2.2.1, rf g (23, 16, 0), rf g (23, 17, 0), rf g (23, 18, 0), rf g (23, 19, 0), rf g (23, 20, 0), rf g (23, 21, 0), rf g (23, 22, 0), rf g (23, 23, 0), rf g (23, 24, 0), .int tr.2, rf g (23, 26, 0), rf g (23, 27, 0), rf g (23, 28, 0), rf g (23, 29, 0)] 10 (.int v))) = jn X (hM g now mind th tx (z.1, v, z.2.2.1, z.2.2.2.1, z.2.2.2.2.1, z.2.2.2.2.2.1, z.2.2.2.2.2.2.1, z.2.2.2.2.2.2.2.1, z.2.2.2.2.2.2.2.2.1, z.2.2.2.2.2.2.2.2.2) tr tp) := jn_upR rfl (fun a h => by unfold hM; split <;> first | rfl | exact absurd rfl h) rfl
theorem uM_at {g : GG} {X : PHp} {now mind : I1} {th : I1 × Int32} {tx : TXt} {z : Zt} {tr : I1 × Int32} {tp : TPt} {v : Int32} : up (jn X (hM g now mind th tx z tr tp)) (22, 0, 0) (.inr (10, List.set [rf g (23, 0, 0), rf g (23, 1, 0), rf g (23, 2, 0), .int th.2, rf g (23, 4, 0), .int tx.2.1, rf g (23, 6, 0), rf g (23, 7, 0), .int tx.2.2.2.2, rf g (23, 9, 0), .int z.2.1, .int z.2.2.1, .int z.2.2.2.1, .int z.2.2.2.2.1, .int z.2.2.2.2.2.1, .int z.2.2.2.2.2.2.1, rf g (23, 16, 0), rf g (23, 17, 0), rf g (23, 18, 0), rf g (23, 19, 0), rf g (23, 20, 0), rf g (23, 21, 0), rf g (23, 22, 0), rf g (23, 23, 0), rf g (23, 24, 0), .int tr.2, rf g (23, 26, 0), rf g (23, 27, 0), rf g (23, 28, 0), rf g (23, 29, 0)] 11 (.int v))) = jn X (hM g now mind th tx (z.1, z.2.1, v, z.2.2.2.1, z.2.2.2.2.1, z.2.2.2.2.2.1, z.2.2.2.2.2.2.1, z.2.2.2.2.2.2.2.1, z.2.2.2.2.2.2.2.2.1, z.2.2.2.2.2.2.2.2.2) tr tp) := jn_upR rfl (fun a h => by unfold hM; split <;> first | rfl | exact absurd rfl h) rfl
theorem uM_well {g : GG} {X : PHp} {now mind : I1} {th : I1 × Int32} {tx : TXt} {z : Zt} {tr : I1 × Int32} {tp : TPt} {v : Int32} : up (jn X (hM g now mind th tx z tr tp)) (22, 0, 0) (.inr (10, List.set [rf g (23, 0, 0), rf g (23, 1, 0), rf g (23, 2, 0), .int th.2, rf g (23, 4, 0), .int tx.2.1, rf g (23, 6, 0), rf g (23, 7, 0), .int tx.2.2.2.2, rf g (23, 9, 0), .int z.2.1, .int z.2.2.1, .int z.2.2.2.1, .int z.2.2.2.2.1, .int z.2.2.2.2.2.1, .int z.2.2.2.2.2.2.1, rf g (23, 16, 0), rf g (23, 17, 0), rf g (23, 18, 0), rf g (23, 19, 0), rf g (23, 20, 0), rf g (23, 21, 0), rf g (23, 22, 0), rf g (23, 23, 0), rf g (23, 24, 0), .int tr.2, rf g (23, 26, 0), rf g (23, 27, 0), rf g (23, 28, 0), rf g (23, 29, 0)] 12 (.int v))) = jn X (hM g now mind th tx (z.1, z.2.1, z.2.2.1, v, z.2.2.2.2.1, z.2.2.2.2.2.1, z.2.2.2.2.2.2.1, z.2.2.2.2.2.2.2.1, z.2.2.2.2.2.2.2.2.1, z.2.2.2.2.2.2.2.2.2) tr tp) := jn_upR rfl (fun a h => by unfold hM; split <;> first | rfl | exact absurd rfl h) rfl
theorem uM_within {g : GG} {X : PHp} {now mind : I1} {th : I1 × Int32} {tx : TXt} {z : Zt} {tr : I1 × Int32} {tp : TPt} {v : Int32} : up (jn X (hM g now mind th tx z tr tp)) (22, 0, 0) (.inr (10, List.set [rf g (23, 0, 0), rf g (23, 1, 0), rf g (23, 2, 0), .int th.2, rf g (23, 4, 0), .int tx.2.1, rf g (23, 6, 0), rf g (23, 7, 0), .int tx.2.2.2.2, rf g (23, 9, 0), .int z.2.1, .int z.2.2.1, .int z.2.2.2.1, .int z.2.2.2.2.1, .int z.2.2.2.2.2.1, .int z.2.2.2.2.2.2.1, rf g (23, 16, 0), rf g (23, 17, 0), rf g (23, 18, 0), rf g (23, 19, 0), rf g (23, 20, 0), rf g (23, 21, 0), rf g (23, 22, 0), rf g (23, 23, 0), rf g (23, 24, 0), .int tr.2, rf g (23, 26, 0), rf g (23, 27, 0), rf g (23, 28, 0), rf g (23, 29, 0)] 13 (.int v))) = jn X (hM g now mind th tx (z.1, z.2.1, z.2.2.1, z.2.2.2.1, v, z.2.2.2.2.2.1, z.2.2.2.2.2.2.1, z.2.2.2.2.2.2.2.1, z.2.2.2.2.2.2.2.2.1, z.2.2.2.2.2.2.2.2.2) tr tp) := jn_upR rfl (fun a h => by unfold hM; split <;> first | rfl | exact absurd rfl h) rfl
theorem uM_sum {g : GG} {X : PHp} {now mind : I1} {th : I1 × Int32} {tx : TXt} {z : Zt} {tr : I1 × Int32} {tp : TPt} {v : Int32} : up (jn X (hM g now mind th tx z tr tp)) (22, 0, 0) (.inr (10, List.set [rf g (23, 0, 0), rf g (23, 1, 0), rf g (23, 2, 0), .int th.2, rf g (23, 4, 0), .int tx.2.1, rf g (23, 6, 0), rf g (23, 7, 0), .int tx.2.2.2.2, rf g (23, 9, 0), .int z.2.1, .int z.2.2.1, .int z.2.2.2.1, .int z.2.2.2.2.1, .int z.2.2.2.2.2.1, .int z.2.2.2.2.2.2.1, rf g (23, 16, 0), rf g (23, 17, 0), rf g (23, 18, 0), rf g (23, 19, 0), rf g (23, 20, 0), rf g (23, 21, 0), rf g (23, 22, 0), rf g (23, 23, 0), rf g (23, 24, 0), .int tr.2, rf g (23, 26, 0), rf g (23, 27, 0), rf g (23, 28, 0), rf g (23, 29, 0)] 14 (.int v))) = jn X (hM g now mind th tx (z.1, z.2.1, z.2.2.1, z.2.2.2.1, z.2.2.2.2.1, v, z.2.2.2.2.2.2.1, z.2.2.2.2.2.2.2.1, z.2.2.2.2.2.2.2.2.1, z.2.2.2.2.2.2.2.2.2) tr tp) := jn_upR rfl (fun a h => by unfold hM; split <;> first | rfl | exact absurd rfl h) rfl
theorem uM_rub {g : GG} {X : PHp} {now mind : I1} {th : I1 × Int32} {tx : TXt} {z : Zt} {tr : I1 × Int32} {tp : TPt} {v : Int32} : up (jn X (hM g now mind th tx z tr tp)) (22, 0, 0) (.inr (10, List.set [rf g (23, 0, 0), rf g (23, 1, 0), rf g (23, 2, 0), .int th.2, rf g (23, 4, 0), .int tx.2.1, rf g (23, 6, 0), rf g (23, 7, 0), .int tx.2.2.2.2, rf g (23, 9, 0), .int z.2.1, .int z.2.2.1, .int z.2.2.2.1, .int z.2.2.2.2.1, .int z.2.2.2.2.2.1, .int z.2.2.2.2.2.2.1, rf g (23, 16, 0), rf g (23, 17, 0), rf g (23, 18, 0), rf g (23, 19, 0), rf g (23, 20, 0), rf g (23, 21, 0), rf g (23, 22, 0), rf g (23, 23, 0), rf g (23, 24, 0), .int tr.2, rf g (23, 26, 0), rf g (23, 27, 0), rf g (23, 28, 0), rf g (23, 29, 0)] 15 (.int v))) = jn X (hM g now mind th tx (z.1, z.2.1, z.2.2.1, z.2.2.2.1, z.2.2.2.2.1, z.2.2.2.2.2.1, v, z.2.2.2.2.2.2.2.1, z.2.2.2.2.2.2.2.2.1, z.2.2.2.2.2.2.2.2.2) tr tp) := jn_upR rfl (fun a h => by unfold hM; split <;> first | rfl | exact absurd rfl h) rfl
theorem uM_ran {g : GG} {X : PHp} {now mind : I1} {th : I1 × Int32} {tx : TXt} {z : Zt} {tr : I1 × Int32} {tp : TPt} {v : Int32} : up (jn X (hM g now mind th tx z tr tp)) (22, 0, 0) (.inr (10, List.set [rf g (23, 0, 0), rf g (23, 1, 0), rf g (23, 2, 0), .int th.2, rf g (23, 4, 0), .int tx.2.1, rf g (23, 6, 0), rf g (23, 7, 0), .int tx.2.2.2.2, rf g (23, 9, 0), .int z.2.1, .int z.2.2.1, .int z.2.2.2.1, .int z.2.2.2.2.1, .int z.2.2.2.2.2.1, .int z.2.2.2.2.2.2.1, rf g (23, 16, 0), rf g (23, 17, 0), rf g (23, 18, 0), rf g (23, 19, 0), rf g (23, 20, 0), rf g (23, 21, 0), rf g (23, 22, 0), rf g (23, 23, 0), rf g (23, 24, 0), .int tr.2, rf g (23, 26, 0), rf g (23, 27, 0), rf g (23, 28, 0), rf g (23, 29, 0)] 25 (.int v))) = jn X (hM g now mind th tx z (tr.1, v) tp) := jn_upR rfl (fun a h => by unfold hM; split <;> first | rfl | exact absurd rfl h) rfl
theorem uM_now {g : GG} {X : PHp} {now mind : I1} {th : I1 × Int32} {tx : TXt} {z : Zt} {tr : I1 × Int32} {tp : TPt} {v : I1} : up (jn X (hM g now mind th tx z tr tp)) (23, 0, 0) (aI g 152 v) = jn X (hM g v mind th tx z tr tp) := jn_upR rfl (fun a h => by unfold hM; split <;> first | rfl | exact absurd rfl h) rfl
theorem uM_mind {g : GG} {X : PHp} {now mind : I1} {th : I1 × Int32} {tx : TXt} {z : Zt} {tr : I1 × Int32} {tp : TPt} {v : I1} : up (jn X (hM g now mind th tx z tr tp)) (23, 1, 0) (aI g 152 v) = jn X (hM g now v th tx z tr tp) := jn_upR rfl (fun a h => by unfold hM; split <;> first | rfl | exact absurd rfl h) rfl
theorem uM_then {g : GG} {X : PHp} {now mind : I1} {th : I1 × Int32} {tx : TXt} {z : Zt} {tr : I1 × Int32} {tp : TPt} {v : I1} : up (jn X (hM g now mind th tx z tr tp)) (23, 2, 0) (aI g 152 v) = jn X (hM g now mind (v, th.2) tx z tr tp) := jn_upR rfl (fun a h => by unfold hM; split <;> first | rfl | exact absurd rfl h) rfl
theorem uM_text {g : GG} {X : PHp} {now mind : I1} {th : I1 × Int32} {tx : TXt} {z : Zt} {tr : I1 × Int32} {tp : TPt} {v : I1} : up (jn X (hM g now mind th tx z tr tp)) (23, 4, 0) (aI g 100 v) = jn X (hM g now mind th (v, tx.2.1, tx.2.2.1, tx.2.2.2.1, tx.2.2.2.2) z tr tp) := jn_upR rfl (fun a h => by unfold hM; split <;> first | rfl | exact absurd rfl h) rfl
theorem uM_rules {g : GG} {X : PHp} {now mind : I1} {th : I1 × Int32} {tx : TXt} {z : Zt} {tr : I1 × Int32} {tp : TPt} {v : I1} : up (jn X (hM g now mind th tx z tr tp)) (23, 6, 0) (aI g 600 v) = jn X (hM g now mind th (tx.1, tx.2.1, v, tx.2.2.2.1, tx.2.2.2.2) z tr tp) := jn_upR rfl (fun a h => by unfold hM; split <;> first | rfl | exact absurd rfl h) rfl
theorem uM_sizes {g : GG} {X : PHp} {now mind : I1} {th : I1 × Int32} {tx : TXt} {z : Zt} {tr : I1 × Int32} {tp : TPt} {v : I1} : up (jn X (hM g now mind th tx z tr tp)) (23, 7, 0) (aI g 6 v) = jn X (hM g now mind th (tx.1, tx.2.1, tx.2.2.1, v, tx.2.2.2.2) z tr tp) := jn_upR rfl (fun a h => by unfold hM; split <;> first | rfl | exact absurd rfl h) rfl
theorem uM_read {g : GG} {X : PHp} {now mind : I1} {th : I1 × Int32} {tx : TXt} {z : Zt} {tr : I1 × Int32} {tp : TPt} {v : I1} : up (jn X (hM g now mind th tx z tr tp)) (23, 9, 0) (aI g 100 v) = jn X (hM g now mind th tx (v, z.2.1, z.2.2.1, z.2.2.2.1, z.2.2.2.2.1, z.2.2.2.2.2.1, z.2.2.2.2.2.2.1, z.2.2.2.2.2.2.2.1, z.2.2.2.2.2.2.2.2.1, z.2.2.2.2.2.2.2.2.2) tr tp) := jn_upR rfl (fun a h => by unfold hM; split <;> first | rfl | exact absurd rfl h) rfl
theorem uM_names {g : GG} {X : PHp} {now mind : I1} {th : I1 × Int32} {tx : TXt} {z : Zt} {tr : I1 × Int32} {tp : TPt} {v : I1} : up (jn X (hM g now mind th tx z tr tp)) (23, 16, 0) (aI g 6 v) = jn X (hM g now mind th tx (z.1, z.2.1, z.2.2.1, z.2.2.2.1, z.2.2.2.2.1, z.2.2.2.2.2.1, z.2.2.2.2.2.2.1, v, z.2.2.2.2.2.2.2.2.1, z.2.2.2.2.2.2.2.2.2) tr tp) := jn_upR rfl (fun a h => by unfold hM; split <;> first | rfl | exact absurd rfl h) rfl
theorem uM_covers {g : GG} {X : PHp} {now mind : I1} {th : I1 × Int32} {tx : TXt} {z : Zt} {tr : I1 × Int32} {tp : TPt} {v : I1} : up (jn X (hM g now mind th tx z tr tp)) (23, 20, 0) (aI g 6 v) = jn X (hM g now mind th tx (z.1, z.2.1, z.2.2.1, z.2.2.2.1, z.2.2.2.2.1, z.2.2.2.2.2.1, z.2.2.2.2.2.2.1, z.2.2.2.2.2.2.2.1, v, z.2.2.2.2.2.2.2.2.2) tr tp) := jn_upR rfl (fun a h => by unfold hM; split <;> first | rfl | exact absurd rfl h) rfl
theorem uM_hurts {g : GG} {X : PHp} {now mind : I1} {th : I1 × Int32} {tx : TXt} {z : Zt} {tr : I1 × Int32} {tp : TPt} {v : I1} : up (jn X (hM g now mind th tx z tr tp)) (23, 21, 0) (aI g 6 v) = jn X (hM g now mind th tx (z.1, z.2.1, z.2.2.1, z.2.2.2.1, z.2.2.2.2.1, z.2.2.2.2.2.1, z.2.2.2.2.2.2.1, z.2.2.2.2.2.2.2.1, z.2.2.2.2.2.2.2.2.1, v) tr tp) := jn_upR rfl (fun a h => by unfold hM; split <;> first | rfl | exact absurd rfl h) rfl
theorem uM_trace {g : GG} {X : PHp} {now mind : I1} {th : I1 × Int32} {tx : TXt} {z : Zt} {tr : I1 × Int32} {tp : TPt} {v : I1} : up (jn X (hM g now mind th tx z tr tp)) (23, 24, 0) (aI g 20 v) = jn X (hM g now mind th tx z (v, tr.2) tp) := jn_upR rfl (fun a h => by unfold hM; split <;> first | rfl | exact absurd rfl h) rfl
theorem uM_sorts {g : GG} {X : PHp} {now mind : I1} {th : I1 × Int32} {tx : TXt} {z : Zt} {tr : I1 × Int32} {tp : TPt} {v : I1} : up (jn X (hM g now mind th tx z tr tp)) (23, 26, 0) (aI g 6 v) = jn X (hM g now mind th tx z tr (v, tp.2.1, tp.2.2.1, tp.2.2.2)) := jn_upR rfl (fun a h => by unfold hM; split <;> first | rfl | exact absurd rfl h) rfl
theorem uM_lengths {g : GG} {X : PHp} {now mind : I1} {th : I1 × Int32} {tx : TXt} {z : Zt} {tr : I1 × Int32} {tp : TPt} {v : I1} : up (jn X (hM g now mind th tx z tr tp)) (23, 27, 0) (aI g 6 v) = jn X (hM g now mind th tx z tr (tp.1, v, tp.2.2.1, tp.2.2.2)) := jn_upR rfl (fun a h => by unfold hM; split <;> first | rfl | exact absurd rfl h) rfl
theorem uM_items {g : GG} {X : PHp} {now mind : I1} {th : I1 × Int32} {tx : TXt} {z : Zt} {tr : I1 × Int32} {tp : TPt} {v : Nat → Int64} : up (jn X (hM g now mind th tx z tr tp)) (23, 28, 0) (aL g 360 v) = jn X (hM g now mind th tx z tr (tp.1, tp.2.1, v, tp.2.2.2)) := jn_upR rfl (fun a h => by unfold hM; split <;> first | rfl | exact absurd rfl h) rfl
theorem uM_moved {g : GG} {X : PHp} {now mind : I1} {th : I1 × Int32} {tx : TXt} {z : Zt} {tr : I1 × Int32} {tp : TPt} {v : Nat → Int64} : up (jn X (hM g now mind th tx z tr tp)) (23, 29, 0) (aL g 60 v) = jn X (hM g now mind th tx z tr (tp.1, tp.2.1, tp.2.2.1, v)) := jn_upR rfl (fun a h => by unfold hM; split <;> first | rfl | exact absurd rfl h) rfl
theorem okM : Ok (22, 0, 0) NN := ⟨by decide +kernel, by decide +kernel⟩
theorem okM_0 : Ok (23, 0, 0) NN := ⟨by decide +kernel, by decide +kernel⟩
theorem okM_1 : Ok (23, 1, 0) NN := ⟨by decide +kernel, by decide +kernel⟩
theorem okM_2 : Ok (23, 2, 0) NN := ⟨by decide +kernel, by decide +kernel⟩
theorem okM_4 : Ok (23, 4, 0) NN := ⟨by decide +kernel, by decide +kernel⟩
theorem okM_6 : Ok (23, 6, 0) NN := ⟨by decide +kernel, by decide +kernel⟩
theorem okM_7 : Ok (23, 7, 0) NN := ⟨by decide +kernel, by decide +kernel⟩
theorem okM_9 : Ok (23, 9, 0) NN := ⟨by decide +kernel, by decide +kernel⟩
theorem okM_16 : Ok (23, 16, 0) NN := ⟨by decide +kernel, by decide +kernel⟩
theorem okM_17 : Ok (23, 17, 0) NN := ⟨by decide +kernel, by decide +kernel⟩
theorem okM_18 : Ok (23, 18, 0) NN := ⟨by decide +kernel, by decide +kernel⟩
theorem okM_19 : Ok (23, 19, 0) NN := ⟨by decide +kernel, by decide +kernel⟩
theorem okM_20 : Ok (23, 20, 0) NN := ⟨by decide +kernel, by decide +kernel⟩
theorem okM_21 : Ok (23, 21, 0) NN := ⟨by decide +kernel, by decide +kernel⟩
theorem okM_22 : Ok (23, 22, 0) NN := ⟨by decide +kernel, by decide +kernel⟩
theorem okM_23 : Ok (23, 23, 0) NN := ⟨by decide +kernel, by decide +kernel⟩
theorem okM_24 : Ok (23, 24, 0) NN := ⟨by decide +kernel, by decide +kernel⟩
theorem okM_26 : Ok (23, 26, 0) NN := ⟨by decide +kernel, by decide +kernel⟩
theorem okM_27 : Ok (23, 27, 0) NN := ⟨by decide +kernel, by decide +kernel⟩
theorem okM_28 : Ok (23, 28, 0) NN := ⟨by decide +kernel, by decide +kernel⟩
theorem okM_29 : Ok (23, 29, 0) NN := ⟨by decide +kernel, by decide +kernel⟩
end
section
/-- truth as an int -/
def b2i (p : Prop) [Decidable p] : Int32 := if p then nI 1 else nI 0
theorem b2i_t {p : Prop} [Decidable p] (h : p) : b2i p = nI 1 := if_pos h
theorem b2i_f {p : Prop} [Decidable p] (h : ¬ p) : b2i p = nI 0 := if_neg h
theorem b2i_z {p : Prop} [Decidable p] : b2i p = 0 ↔ ¬ p := by
  unfold b2i
  by_cases h : p
  · rw [if_pos h]; exact ⟨fun q => absurd q (by decide), fun q => absurd h q⟩
  · rw [if_neg h]; exact ⟨fun _ => h, fun _ => rfl⟩
theorem b2i_n {p : Prop} [Decidable p] : narrow .boolean (.int (b2i p)) = .int (b2i p) := by
  unfold b2i
  split <;> rfl
theorem b2i_fit {p : Prop} [Decidable p] : fits .boolean (.int (b2i p)) = true := by
  unfold b2i
  split <;> rfl
theorem b2i_iff {p q : Prop} [Decidable p] [Decidable q] (h : p ↔ q) : b2i p = b2i q := by
  unfold b2i
  by_cases e : p
  · rw [if_pos e, if_pos (h.mp e)]
  · rw [if_neg e, if_neg (fun x => e (h.mpr x))]
section VROWS3
variable {l : Launch} {Γ : Cxt} {g : GG} {cc : ByteArray} {y : MethodName} {nL : Nat} {ret : Option FieldType} {lvl mc ms : Nat} {Q : State → Prop} {cells slots n : Nat} {PH PH1 : PHp} {pc q : Nat} {lv : List (Option Value)} {st rest As : List Value}
theorem V.if_eqB {p : Prop} [Decidable p] {off : Int} {tgt : Nat} (C : Cx Γ g cc y nL ret lvl mc ms) (d : decode cc pc = .ok (.ifCond .eq off, 3)) (hq : pc + 3 = q) (ht : (pc : Int) + off = (tgt : Int)) (kt : ¬ p → V l Γ g nL Q cells slots n PH tgt lv (st)) (kf : p → V l Γ g nL Q cells slots n PH q lv (st)) : V l Γ g nL Q cells slots n PH pc lv (.int (b2i p) :: st) :=
  V.if_eq C d hq ht (fun h => kt (b2i_z.mp h)) (fun h => kf (Decidable.byContradiction fun e => h (b2i_z.mpr e)))
theorem V.if_neB {p : Prop} [Decidable p] {off : Int} {tgt : Nat} (C : Cx Γ g cc y nL ret lvl mc ms) (d : decode cc pc = .ok (.ifCond .ne off, 3)) (hq : pc + 3 = q) (ht : (pc : Int) + off = (tgt : Int)) (kt : p → V l Γ g nL Q cells slots n PH tgt lv (st)) (kf : ¬ p → V l Γ g nL Q cells slots n PH q lv (st)) : V l Γ g nL Q cells slots n PH pc lv (.int (b2i p) :: st) :=
  V.if_ne C d hq ht (fun h => kt (Decidable.byContradiction fun e => h (b2i_z.mpr e))) (fun h => kf (b2i_z.mp h))
theorem V.ild {len i : Nat} {x : Int32} {a : VA} {f : Nat → Int32} (C : Cx Γ g cc y nL ret lvl mc ms) (d : decode cc pc = .ok (.iaload, 1)) (hq : pc + 1 = q) (ok : Ok a n) (hc : PH a = aI g len f) (hx : x = nI i) (hi : i < len) (hz : len < 2 ^ 31) (k : V l Γ g nL Q cells slots n PH q lv (.int (f i) :: st)) : V l Γ g nL Q cells slots n PH pc lv (.int x :: rf g a :: st) :=
  V.iald C d hq ok hc hx hi hz (by rw [nrm_lt hi]; exact k)
theorem V.bld {len i : Nat} {x : Int32} {a : VA} {f : Nat → Int32} (C : Cx Γ g cc y nL ret lvl mc ms) (d : decode cc pc = .ok (.baload, 1)) (hq : pc + 1 = q) (ok : Ok a n) (hc : PH a = aB g len f) (hx : x = nI i) (hi : i < len) (hz : len < 2 ^ 31) (k : V l Γ g nL Q cells slots n PH q lv (.int (f i) :: st)) : V l Γ g nL Q cells slots n PH pc lv (.int x :: rf g a :: st) :=
  V.bald C d hq ok hc hx hi hz (by rw [nrm_lt hi]; exact k)
theorem V.cld {len i : Nat} {x : Int32} {a : VA} {f : Nat → Int32} (C : Cx Γ g cc y nL ret lvl mc ms) (d : decode cc pc = .ok (.caload, 1)) (hq : pc + 1 = q) (ok : Ok a n) (hc : PH a = aC g len f) (hx : x = nI i) (hi : i < len) (hz : len < 2 ^ 31) (k : V l Γ g nL Q cells slots n PH q lv (.int (f i) :: st)) : V l Γ g nL Q cells slots n PH pc lv (.int x :: rf g a :: st) :=
  V.cald C d hq ok hc hx hi hz (by rw [nrm_lt hi]; exact k)
theorem V.lld {len i : Nat} {x : Int32} {a : VA} {f : Nat → Int64} (C : Cx Γ g cc y nL ret lvl mc ms) (d : decode cc pc = .ok (.laload, 1)) (hq : pc + 1 = q) (ok : Ok a n) (hc : PH a = aL g len f) (hx : x = nI i) (hi : i < len) (hz : len < 2 ^ 31) (k : V l Γ g nL Q cells slots n PH q lv (.long (f i) :: st)) : V l Γ g nL Q cells slots n PH pc lv (.int x :: rf g a :: st) :=
  V.lald C d hq ok hc hx hi hz (by rw [nrmL_lt hi]; exact k)
theorem V.rld {t0 : Nat} {CC : String} {len i : Nat} {x : Int32} {a : VA} {f : Nat → VA} (C : Cx Γ g cc y nL ret lvl mc ms) (ht : (tysL g.2.1)[t0]? = some (g.2.1 t0, .object CC)) (d : decode cc pc = .ok (.aaload, 1)) (hq : pc + 1 = q) (ok : Ok a n) (hc : PH a = aR g t0 len f) (hx : x = nI i) (hi : i < len) (hz : len < 2 ^ 31) (k : V l Γ g nL Q cells slots n PH q lv (rf g (f i) :: st)) : V l Γ g nL Q cells slots n PH pc lv (.int x :: rf g a :: st) :=
  V.aald C d hq ok hc ht hx hi hz (if_pos hi) k
theorem V.ist {len i : Nat} {x : Int32} {a : VA} {f : Nat → Int32} {v : Int32} (C : Cx Γ g cc y nL ret lvl mc ms) (d : decode cc pc = .ok (.iastore, 1)) (hq : pc + 1 = q) (ok : Ok a n) (hc : PH a = aI g len f) (hx : x = nI i) (hi : i < len) (hz : len < 2 ^ 31) (hp : up PH a (aI g len (upd f i v)) = PH1) (k : V l Γ g nL Q cells slots n PH1 q lv (st)) : V l Γ g nL Q cells slots n PH pc lv (.int v :: .int x :: rf g a :: st) :=
  V.iast C d hq ok hc hx hi hz (by rw [nrm_upd hi]; exact hp) k
theorem V.lst {len i : Nat} {x : Int32} {a : VA} {f : Nat → Int64} {v : Int64} (C : Cx Γ g cc y nL ret lvl mc ms) (d : decode cc pc = .ok (.lastore, 1)) (hq : pc + 1 = q) (ok : Ok a n) (hc : PH a = aL g len f) (hx : x = nI i) (hi : i < len) (hz : len < 2 ^ 31) (hp : up PH a (aL g len (vp_updL f i v)) = PH1) (k : V l Γ g nL Q cells slots n PH1 q lv (st)) : V l Γ g nL Q cells slots n PH pc lv (.long v :: .int x :: rf g a :: st) :=
  V.last C d hq ok hc hx hi hz (by rw [nrmL_upd hi]; exact hp) k
theorem V.bst {len i : Nat} {x : Int32} {a : VA} {f : I1} {v u : Int32} (C : Cx Γ g cc y nL ret lvl mc ms) (d : decode cc pc = .ok (.bastore, 1)) (hq : pc + 1 = q) (ok : Ok a n) (hc : PH a = aB g len f) (hx : x = nI i) (hi : i < len) (hz : len < 2 ^ 31) (hu : narrow .byte (.int v) = .int u) (hp : up PH a (aB g len (upd f i u)) = PH1) (k : V l Γ g nL Q cells slots n PH1 q lv (st)) : V l Γ g nL Q cells slots n PH pc lv (.int v :: .int x :: rf g a :: st) :=
  V.bast C d hq ok hc hx hi hz hu (by rw [nrm_upd hi]; exact hp) k
theorem V.cst {len i : Nat} {x : Int32} {a : VA} {f : I1} {v u : Int32} (C : Cx Γ g cc y nL ret lvl mc ms) (d : decode cc pc = .ok (.castore, 1)) (hq : pc + 1 = q) (ok : Ok a n) (hc : PH a = aC g len f) (hx : x = nI i) (hi : i < len) (hz : len < 2 ^ 31) (hu : narrow .char (.int v) = .int u) (hp : up PH a (aC g len (upd f i u)) = PH1) (k : V l Γ g nL Q cells slots n PH1 q lv (st)) : V l Γ g nL Q cells slots n PH pc lv (.int v :: .int x :: rf g a :: st) :=
  V.cast C d hq ok hc hx hi hz hu (by rw [nrm_upd hi]; exact hp) k
theorem V.len_aI {len : Nat} {a : VA} {f : I1} (C : Cx Γ g cc y nL ret lvl mc ms) (d : decode cc pc = .ok (.arraylength, 1)) (hq : pc + 1 = q) (ok : Ok a n) (hc : PH a = aI g len f) (k : V l Γ g nL Q cells slots n PH q lv (.int (nI len) :: st)) : V l Γ g nL Q cells slots n PH pc lv (rf g a :: st) :=
  V.alen (t0 := 0) C d hq ok hc rfl rfl k
theorem V.len_aB {len : Nat} {a : VA} {f : I1} (C : Cx Γ g cc y nL ret lvl mc ms) (d : decode cc pc = .ok (.arraylength, 1)) (hq : pc + 1 = q) (ok : Ok a n) (hc : PH a = aB g len f) (k : V l Γ g nL Q cells slots n PH q lv (.int (nI len) :: st)) : V l Γ g nL Q cells slots n PH pc lv (rf g a :: st) :=
  V.alen (t0 := 1) C d hq ok hc rfl rfl k
theorem V.len_aC {len : Nat} {a : VA} {f : I1} (C : Cx Γ g cc y nL ret lvl mc ms) (d : decode cc pc = .ok (.arraylength, 1)) (hq : pc + 1 = q) (ok : Ok a n) (hc : PH a = aC g len f) (k : V l Γ g nL Q cells slots n PH q lv (.int (nI len) :: st)) : V l Γ g nL Q cells slots n PH pc lv (rf g a :: st) :=
  V.alen (t0 := 2) C d hq ok hc rfl rfl k
theorem V.len_aL {len : Nat} {a : VA} {f : Nat → Int64} (C : Cx Γ g cc y nL ret lvl mc ms) (d : decode cc pc = .ok (.arraylength, 1)) (hq : pc + 1 = q) (ok : Ok a n) (hc : PH a = aL g len f) (k : V l Γ g nL Q cells slots n PH q lv (.int (nI len) :: st)) : V l Γ g nL Q cells slots n PH pc lv (rf g a :: st) :=
  V.alen (t0 := 3) C d hq ok hc rfl rfl k
theorem V.len_aR {t0 : Nat} {CC : String} {len : Nat} {a : VA} {f : Nat → VA} (C : Cx Γ g cc y nL ret lvl mc ms) (ht : (tysL g.2.1)[t0]? = some (g.2.1 t0, .object CC)) (d : decode cc pc = .ok (.arraylength, 1)) (hq : pc + 1 = q) (ok : Ok a n) (hc : PH a = aR g t0 len f) (k : V l Γ g nL Q cells slots n PH q lv (.int (nI len) :: st)) : V l Γ g nL Q cells slots n PH pc lv (rf g a :: st) :=
  V.alen (t0 := t0) C d hq ok hc ht rfl k
/-- answers: an int, nothing, a long; the heap behind; nothing made -/
def pI (r : Int32) (P : PHp) : Option Value → PHp → Nat → Prop := fun v PH n => v = some (.int r) ∧ PH = P ∧ n = NN
def pV (P : PHp) : Option Value → PHp → Nat → Prop := fun v PH n => v = none ∧ PH = P ∧ n = NN
def pL (r : Int64) (P : PHp) : Option Value → PHp → Nat → Prop := fun v PH n => v = some (.long r) ∧ PH = P ∧ n = NN
/-- the same where something of the heap behind is only known to be so and so -/
def xI {Z : Type} (S : Z → Prop) (r : Z → Int32) (P : Z → PHp) : Option Value → PHp → Nat → Prop := fun v PH n => ∃ z, S z ∧ v = some (.int (r z)) ∧ PH = P z ∧ n = NN
def xV {Z : Type} (S : Z → Prop) (P : Z → PHp) : Option Value → PHp → Nat → Prop := fun v PH n => ∃ z, S z ∧ v = none ∧ PH = P z ∧ n = NN
def xL {Z : Type} (S : Z → Prop) (r : Z → Int64) (P : Z → PHp) : Option Value → PHp → Nat → Prop := fun v PH n => ∃ z, S z ∧ v = some (.long (r z)) ∧ PH = P z ∧ n = NN
variable {y1 : MethodName} {cc1 : ByteArray} {nL1 : Nat} {ret1 : Option FieldType} {lvl1 k1 idx ci : Nat} {a : VA} {Z : Type} {S : Z → Prop} {P : Z → PHp} {P1 : PHp} {st0 : List Value}
theorem V.callVi {r : Int32} (C : Cx Γ g cc y nL ret lvl mc ms) (M : MEV y1 cc1 nL1 ret1 k1 ci) (hM : Ct l g y1 cc1 nL1 ret1 lvl1 0 0 (rf g a :: As) NN PH (pI r P1)) (hl : Cond.methodLink y.cls idx y1 ∈ gws) (d : decode cc pc = .ok (.invokevirtual idx, 3)) (hq : pc + 3 = q) (ok : Ok a NN) (hc : ∃ fs, PH a = .inr (ci, fs)) (hk : As.length = k1) (hst : (st0 = As.reverse ++ rf g a :: rest)) (hw : (rest.map fun v => v.category).sum ≤ 8) (hlv : lvl1 + 1 ≤ lvl) (hmc : cells ≤ mc) (hms : slots ≤ ms) (kk : V l Γ g nL Q cells slots NN P1 q lv (.int r :: rest)) : V l Γ g nL Q cells slots NN PH pc lv st0 :=
  V.callV C M hM hl d hq ok hc hk hst hw hlv hmc hms (fun v PH9 n9 h => by obtain ⟨rfl, rfl, rfl⟩ := h; exact kk)
theorem V.callVv (C : Cx Γ g cc y nL ret lvl mc ms) (M : MEV y1 cc1 nL1 ret1 k1 ci) (hM : Ct l g y1 cc1 nL1 ret1 lvl1 0 0 (rf g a :: As) NN PH (pV P1)) (hl : Cond.methodLink y.cls idx y1 ∈ gws) (d : decode cc pc = .ok (.invokevirtual idx, 3)) (hq : pc + 3 = q) (ok : Ok a NN) (hc : ∃ fs, PH a = .inr (ci, fs)) (hk : As.length = k1) (hst : (st0 = As.reverse ++ rf g a :: rest)) (hw : (rest.map fun v => v.category).sum ≤ 8) (hlv : lvl1 + 1 ≤ lvl) (hmc : cells ≤ mc) (hms : slots ≤ ms) (kk : V l Γ g nL Q cells slots NN P1 q lv (rest)) : V l Γ g nL Q cells slots NN PH pc lv st0 :=
  V.callV C M hM hl d hq ok hc hk hst hw hlv hmc hms (fun v PH9 n9 h => by obtain ⟨rfl, rfl, rfl⟩ := h; exact kk)
theorem V.callVl {r : Int64} (C : Cx Γ g cc y nL ret lvl mc ms) (M : MEV y1 cc1 nL1 ret1 k1 ci) (hM : Ct l g y1 cc1 nL1 ret1 lvl1 0 0 (rf g a :: As) NN PH (pL r P1)) (hl : Cond.methodLink y.cls idx y1 ∈ gws) (d : decode cc pc = .ok (.invokevirtual idx, 3)) (hq : pc + 3 = q) (ok : Ok a NN) (hc : ∃ fs, PH a = .inr (ci, fs)) (hk : As.length = k1) (hst : (st0 = As.reverse ++ rf g a :: rest)) (hw : (rest.map fun v => v.category).sum ≤ 8) (hlv : lvl1 + 1 ≤ lvl) (hmc : cells ≤ mc) (hms : slots ≤ ms) (kk : V l Γ g nL Q cells slots NN P1 q lv (.long r :: rest)) : V l Γ g nL Q cells slots NN PH pc lv st0 :=
  V.callV C M hM hl d hq ok hc hk hst hw hlv hmc hms (fun v PH9 n9 h => by obtain ⟨rfl, rfl, rfl⟩ := h; exact kk)
theorem V.callVxi {r : Z → Int32} (C : Cx Γ g cc y nL ret lvl mc ms) (M : MEV y1 cc1 nL1 ret1 k1 ci) (hM : Ct l g y1 cc1 nL1 ret1 lvl1 0 0 (rf g a :: As) NN PH (xI S r P)) (hl : Cond.methodLink y.cls idx y1 ∈ gws) (d : decode cc pc = .ok (.invokevirtual idx, 3)) (hq : pc + 3 = q) (ok : Ok a NN) (hc : ∃ fs, PH a = .inr (ci, fs)) (hk : As.length = k1) (hst : (st0 = As.reverse ++ rf g a :: rest)) (hw : (rest.map fun v => v.category).sum ≤ 8) (hlv : lvl1 + 1 ≤ lvl) (hmc : cells ≤ mc) (hms : slots ≤ ms) (kk : ∀ z, S z → V l Γ g nL Q cells slots NN (P z) q lv (.int (r z) :: rest)) : V l Γ g nL Q cells slots NN PH pc lv st0 :=
  V.callV C M hM hl d hq ok hc hk hst hw hlv hmc hms (fun v PH9 n9 h => by obtain ⟨z, h0, rfl, rfl, rfl⟩ := h; exact kk z h0)
theorem V.callVxv (C : Cx Γ g cc y nL ret lvl mc ms) (M : MEV y1 cc1 nL1 ret1 k1 ci) (hM : Ct l g y1 cc1 nL1 ret1 lvl1 0 0 (rf g a :: As) NN PH (xV S P)) (hl : Cond.methodLink y.cls idx y1 ∈ gws) (d : decode cc pc = .ok (.invokevirtual idx, 3)) (hq : pc + 3 = q) (ok : Ok a NN) (hc : ∃ fs, PH a = .inr (ci, fs)) (hk : As.length = k1) (hst : (st0 = As.reverse ++ rf g a :: rest)) (hw : (rest.map fun v => v.category).sum ≤ 8) (hlv : lvl1 + 1 ≤ lvl) (hmc : cells ≤ mc) (hms : slots ≤ ms) (kk : ∀ z, S z → V l Γ g nL Q cells slots NN (P z) q lv (rest)) : V l Γ g nL Q cells slots NN PH pc lv st0 :=
  V.callV C M hM hl d hq ok hc hk hst hw hlv hmc hms (fun v PH9 n9 h => by obtain ⟨z, h0, rfl, rfl, rfl⟩ := h; exact kk z h0)
theorem V.callVxl {r : Z → Int64} (C : Cx Γ g cc y nL ret lvl mc ms) (M : MEV y1 cc1 nL1 ret1 k1 ci) (hM : Ct l g y1 cc1 nL1 ret1 lvl1 0 0 (rf g a :: As) NN PH (xL S r P)) (hl : Cond.methodLink y.cls idx y1 ∈ gws) (d : decode cc pc = .ok (.invokevirtual idx, 3)) (hq : pc + 3 = q) (ok : Ok a NN) (hc : ∃ fs, PH a = .inr (ci, fs)) (hk : As.length = k1) (hst : (st0 = As.reverse ++ rf g a :: rest)) (hw : (rest.map fun v => v.category).sum ≤ 8) (hlv : lvl1 + 1 ≤ lvl) (hmc : cells ≤ mc) (hms : slots ≤ ms) (kk : ∀ z, S z → V l Γ g nL Q cells slots NN (P z) q lv (.long (r z) :: rest)) : V l Γ g nL Q cells slots NN PH pc lv st0 :=
  V.callV C M hM hl d hq ok hc hk hst hw hlv hmc hms (fun v PH9 n9 h => by obtain ⟨z, h0, rfl, rfl, rfl⟩ := h; exact kk z h0)
theorem V.callSi {r : Int32} (C : Cx Γ g cc y nL ret lvl mc ms) (M : MES y1 cc1 nL1 ret1 k1) (hM : Ct l g y1 cc1 nL1 ret1 lvl1 0 0 As NN PH (pI r P1)) (hl : Cond.methodLink y.cls idx y1 ∈ gws) (d : decode cc pc = .ok (.invokestatic idx, 3)) (hq : pc + 3 = q) (hk : As.length = k1) (hst : (st0 = As.reverse ++ rest)) (hw : (rest.map fun v => v.category).sum ≤ 8) (hlv : lvl1 + 1 ≤ lvl) (hmc : cells ≤ mc) (hms : slots ≤ ms) (kk : V l Γ g nL Q cells slots NN P1 q lv (.int r :: rest)) : V l Γ g nL Q cells slots NN PH pc lv st0 :=
  V.callS C M hM hl d hq hk hst hw hlv hmc hms (fun v PH9 n9 h => by obtain ⟨rfl, rfl, rfl⟩ := h; exact kk)
theorem V.callSv (C : Cx Γ g cc y nL ret lvl mc ms) (M : MES y1 cc1 nL1 ret1 k1) (hM : Ct l g y1 cc1 nL1 ret1 lvl1 0 0 As NN PH (pV P1)) (hl : Cond.methodLink y.cls idx y1 ∈ gws) (d : decode cc pc = .ok (.invokestatic idx, 3)) (hq : pc + 3 = q) (hk : As.length = k1) (hst : (st0 = As.reverse ++ rest)) (hw : (rest.map fun v => v.category).sum ≤ 8) (hlv : lvl1 + 1 ≤ lvl) (hmc : cells ≤ mc) (hms : slots ≤ ms) (kk : V l Γ g nL Q cells slots NN P1 q lv (rest)) : V l Γ g nL Q cells slots NN PH pc lv st0 :=
  V.callS C M hM hl d hq hk hst hw hlv hmc hms (fun v PH9 n9 h => by obtain ⟨rfl, rfl, rfl⟩ := h; exact kk)
theorem V.callSl {r : Int64} (C : Cx Γ g cc y nL ret lvl mc ms) (M : MES y1 cc1 nL1 ret1 k1) (hM : Ct l g y1 cc1 nL1 ret1 lvl1 0 0 As NN PH (pL r P1)) (hl : Cond.methodLink y.cls idx y1 ∈ gws) (d : decode cc pc = .ok (.invokestatic idx, 3)) (hq : pc + 3 = q) (hk : As.length = k1) (hst : (st0 = As.reverse ++ rest)) (hw : (rest.map fun v => v.category).sum ≤ 8) (hlv : lvl1 + 1 ≤ lvl) (hmc : cells ≤ mc) (hms : slots ≤ ms) (kk : V l Γ g nL Q cells slots NN P1 q lv (.long r :: rest)) : V l Γ g nL Q cells slots NN PH pc lv st0 :=
  V.callS C M hM hl d hq hk hst hw hlv hmc hms (fun v PH9 n9 h => by obtain ⟨rfl, rfl, rfl⟩ := h; exact kk)
theorem V.callSxi {r : Z → Int32} (C : Cx Γ g cc y nL ret lvl mc ms) (M : MES y1 cc1 nL1 ret1 k1) (hM : Ct l g y1 cc1 nL1 ret1 lvl1 0 0 As NN PH (xI S r P)) (hl : Cond.methodLink y.cls idx y1 ∈ gws) (d : decode cc pc = .ok (.invokestatic idx, 3)) (hq : pc + 3 = q) (hk : As.length = k1) (hst : (st0 = As.reverse ++ rest)) (hw : (rest.map fun v => v.category).sum ≤ 8) (hlv : lvl1 + 1 ≤ lvl) (hmc : cells ≤ mc) (hms : slots ≤ ms) (kk : ∀ z, S z → V l Γ g nL Q cells slots NN (P z) q lv (.int (r z) :: rest)) : V l Γ g nL Q cells slots NN PH pc lv st0 :=
  V.callS C M hM hl d hq hk hst hw hlv hmc hms (fun v PH9 n9 h => by obtain ⟨z, h0, rfl, rfl, rfl⟩ := h; exact kk z h0)
theorem V.callSxv (C : Cx Γ g cc y nL ret lvl mc ms) (M : MES y1 cc1 nL1 ret1 k1) (hM : Ct l g y1 cc1 nL1 ret1 lvl1 0 0 As NN PH (xV S P)) (hl : Cond.methodLink y.cls idx y1 ∈ gws) (d : decode cc pc = .ok (.invokestatic idx, 3)) (hq : pc + 3 = q) (hk : As.length = k1) (hst : (st0 = As.reverse ++ rest)) (hw : (rest.map fun v => v.category).sum ≤ 8) (hlv : lvl1 + 1 ≤ lvl) (hmc : cells ≤ mc) (hms : slots ≤ ms) (kk : ∀ z, S z → V l Γ g nL Q cells slots NN (P z) q lv (rest)) : V l Γ g nL Q cells slots NN PH pc lv st0 :=
  V.callS C M hM hl d hq hk hst hw hlv hmc hms (fun v PH9 n9 h => by obtain ⟨z, h0, rfl, rfl, rfl⟩ := h; exact kk z h0)
theorem V.callSxl {r : Z → Int64} (C : Cx Γ g cc y nL ret lvl mc ms) (M : MES y1 cc1 nL1 ret1 k1) (hM : Ct l g y1 cc1 nL1 ret1 lvl1 0 0 As NN PH (xL S r P)) (hl : Cond.methodLink y.cls idx y1 ∈ gws) (d : decode cc pc = .ok (.invokestatic idx, 3)) (hq : pc + 3 = q) (hk : As.length = k1) (hst : (st0 = As.reverse ++ rest)) (hw : (rest.map fun v => v.category).sum ≤ 8) (hlv : lvl1 + 1 ≤ lvl) (hmc : cells ≤ mc) (hms : slots ≤ ms) (kk : ∀ z, S z → V l Γ g nL Q cells slots NN (P z) q lv (.long (r z) :: rest)) : V l Γ g nL Q cells slots NN PH pc lv st0 :=
  V.callS C M hM hl d hq hk hst hw hlv hmc hms (fun v PH9 n9 h => by obtain ⟨z, h0, rfl, rfl, rfl⟩ := h; exact kk z h0)
theorem V.callSNi {host : String} {r : Int32} (C : Cx Γ g cc y nL ret lvl mc ms) (M : MES y1 cc1 nL1 ret1 k1) (hM : Ct l g y1 cc1 nL1 ret1 lvl1 0 0 As NN PH (pI r P1)) (hl : (y.cls, idx, y1, host) ∈ nests) (d : decode cc pc = .ok (.invokestatic idx, 3)) (hq : pc + 3 = q) (hk : As.length = k1) (hst : (st0 = As.reverse ++ rest)) (hw : (rest.map fun v => v.category).sum ≤ 8) (hlv : lvl1 + 1 ≤ lvl) (hmc : cells ≤ mc) (hms : slots ≤ ms) (kk : V l Γ g nL Q cells slots NN P1 q lv (.int r :: rest)) : V l Γ g nL Q cells slots NN PH pc lv st0 :=
  V.callSN C M hM hl d hq hk hst hw hlv hmc hms (fun v PH9 n9 h => by obtain ⟨rfl, rfl, rfl⟩ := h; exact kk)
theorem V.callSNv {host : String} (C : Cx Γ g cc y nL ret lvl mc ms) (M : MES y1 cc1 nL1 ret1 k1) (hM : Ct l g y1 cc1 nL1 ret1 lvl1 0 0 As NN PH (pV P1)) (hl : (y.cls, idx, y1, host) ∈ nests) (d : decode cc pc = .ok (.invokestatic idx, 3)) (hq : pc + 3 = q) (hk : As.length = k1) (hst : (st0 = As.reverse ++ rest)) (hw : (rest.map fun v => v.category).sum ≤ 8) (hlv : lvl1 + 1 ≤ lvl) (hmc : cells ≤ mc) (hms : slots ≤ ms) (kk : V l Γ g nL Q cells slots NN P1 q lv (rest)) : V l Γ g nL Q cells slots NN PH pc lv st0 :=
  V.callSN C M hM hl d hq hk hst hw hlv hmc hms (fun v PH9 n9 h => by obtain ⟨rfl, rfl, rfl⟩ := h; exact kk)
theorem V.callSNl {host : String} {r : Int64} (C : Cx Γ g cc y nL ret lvl mc ms) (M : MES y1 cc1 nL1 ret1 k1) (hM : Ct l g y1 cc1 nL1 ret1 lvl1 0 0 As NN PH (pL r P1)) (hl : (y.cls, idx, y1, host) ∈ nests) (d : decode cc pc = .ok (.invokestatic idx, 3)) (hq : pc + 3 = q) (hk : As.length = k1) (hst : (st0 = As.reverse ++ rest)) (hw : (rest.map fun v => v.category).sum ≤ 8) (hlv : lvl1 + 1 ≤ lvl) (hmc : cells ≤ mc) (hms : slots ≤ ms) (kk : V l Γ g nL Q cells slots NN P1 q lv (.long r :: rest)) : V l Γ g nL Q cells slots NN PH pc lv st0 :=
  V.callSN C M hM hl d hq hk hst hw hlv hmc hms (fun v PH9 n9 h => by obtain ⟨rfl, rfl, rfl⟩ := h; exact kk)
theorem V.callSNxi {host : String} {r : Z → Int32} (C : Cx Γ g cc y nL ret lvl mc ms) (M : MES y1 cc1 nL1 ret1 k1) (hM : Ct l g y1 cc1 nL1 ret1 lvl1 0 0 As NN PH (xI S r P)) (hl : (y.cls, idx, y1, host) ∈ nests) (d : decode cc pc = .ok (.invokestatic idx, 3)) (hq : pc + 3 = q) (hk : As.length = k1) (hst : (st0 = As.reverse ++ rest)) (hw : (rest.map fun v => v.category).sum ≤ 8) (hlv : lvl1 + 1 ≤ lvl) (hmc : cells ≤ mc) (hms : slots ≤ ms) (kk : ∀ z, S z → V l Γ g nL Q cells slots NN (P z) q lv (.int (r z) :: rest)) : V l Γ g nL Q cells slots NN PH pc lv st0 :=
  V.callSN C M hM hl d hq hk hst hw hlv hmc hms (fun v PH9 n9 h => by obtain ⟨z, h0, rfl, rfl, rfl⟩ := h; exact kk z h0)
theorem V.callSNxv {host : String} (C : Cx Γ g cc y nL ret lvl mc ms) (M : MES y1 cc1 nL1 ret1 k1) (hM : Ct l g y1 cc1 nL1 ret1 lvl1 0 0 As NN PH (xV S P)) (hl : (y.cls, idx, y1, host) ∈ nests) (d : decode cc pc = .ok (.invokestatic idx, 3)) (hq : pc + 3 = q) (hk : As.length = k1) (hst : (st0 = As.reverse ++ rest)) (hw : (rest.map fun v => v.category).sum ≤ 8) (hlv : lvl1 + 1 ≤ lvl) (hmc : cells ≤ mc) (hms : slots ≤ ms) (kk : ∀ z, S z → V l Γ g nL Q cells slots NN (P z) q lv (rest)) : V l Γ g nL Q cells slots NN PH pc lv st0 :=
  V.callSN C M hM hl d hq hk hst hw hlv hmc hms (fun v PH9 n9 h => by obtain ⟨z, h0, rfl, rfl, rfl⟩ := h; exact kk z h0)
theorem V.callSNxl {host : String} {r : Z → Int64} (C : Cx Γ g cc y nL ret lvl mc ms) (M : MES y1 cc1 nL1 ret1 k1) (hM : Ct l g y1 cc1 nL1 ret1 lvl1 0 0 As NN PH (xL S r P)) (hl : (y.cls, idx, y1, host) ∈ nests) (d : decode cc pc = .ok (.invokestatic idx, 3)) (hq : pc + 3 = q) (hk : As.length = k1) (hst : (st0 = As.reverse ++ rest)) (hw : (rest.map fun v => v.category).sum ≤ 8) (hlv : lvl1 + 1 ≤ lvl) (hmc : cells ≤ mc) (hms : slots ≤ ms) (kk : ∀ z, S z → V l Γ g nL Q cells slots NN (P z) q lv (.long (r z) :: rest)) : V l Γ g nL Q cells slots NN PH pc lv st0 :=
  V.callSN C M hM hl d hq hk hst hw hlv hmc hms (fun v PH9 n9 h => by obtain ⟨z, h0, rfl, rfl, rfl⟩ := h; exact kk z h0)
end VROWS3
end
section
theorem m_one {l : Launch} {g : GG} {X : PHp} {now mind : I1} {th : I1 × Int32} {tx : TXt} {z : Zt} {tr : I1 × Int32} {tp : TPt} {i w : Nat} (h : 9 * i + w < 152) : Ct l g yX10_one cX10_one 3 (some .int) 1 0 0 [rf g (22, 0, 0), .int (nI i), .int (nI w)] NN (jn X (hM g now mind th tx z tr tp)) (pI (now (9 * i + w)) (jn X (hM g now mind th tx z tr tp))) := by
  refine Ct.of (lv := [some (rf g (22, 0, 0)), some (.int (nI i)), some (.int (nI w))]) (by decide +kernel) rfl (Nat.le_of_ble_eq_true rfl) ?_
  intro Γ C
  refine V.aload_n (q := 1) C dX10_one_0 rfl rfl ?_
  refine V.get (q := 4) C fl_X10_9 dX10_one_1 rfl okM rfl rfl ?_
  refine V.bipush (q := 6) (v := 9) C dX10_one_4 rfl (by decide) ?_
  refine V.iload_n (q := 7) C dX10_one_6 rfl rfl ?_
  refine V.imul (q := 8) C dX10_one_7 rfl ?_
  refine V.iload_n (q := 9) C dX10_one_8 rfl rfl ?_
  refine V.iadd (q := 10) C dX10_one_9 rfl ?_
  refine V.ild (q := 11) C dX10_one_10 rfl okM_0 rfl (show 9 * nI i + nI w = nI (9 * i + w) by rw [show (9 : Int32) = nI 9 from rfl, pk_mul, nI_add]) h (by decide) ?_
  exact V.ireturn C dX10_one_11 ⟨rfl, rfl, rfl⟩
end
