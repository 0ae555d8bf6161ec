/-- a private method of a class that the tables say can be made, by its rows of tables_1 -/
def lw_okq (q : MethodName × Nat) : Prop := (q.1.cls ≠ "java/lang/invoke/MethodHandle" ∧ q.1.cls ≠ "java/lang/invoke/VarHandle") ∧ Cond.instantiable q.1.cls q.2 ∈ tables_1 ∧ Cond.privateMethod q.1 ∈ tables_1 ∧ Cond.instanceMethod q.1 ∈ tables_1
theorem lw_p0 : lw_okq (⟨"BowlerDents", "daysUntilSore", "(I)I"⟩, 11) := ⟨⟨by decide +kernel, by decide +kernel⟩, List.mem_of_getElem? (i := 20) (by decide +kernel), List.mem_of_getElem? (i := 317) (by decide +kernel), List.mem_of_getElem? (i := 318) (by decide +kernel)⟩
theorem lw_p1 : lw_okq (⟨"BowlerDents", "isMoreHurt", "(I)Z"⟩, 11) := ⟨⟨by decide +kernel, by decide +kernel⟩, List.mem_of_getElem? (i := 20) (by decide +kernel), List.mem_of_getElem? (i := 366) (by decide +kernel), List.mem_of_getElem? (i := 367) (by decide +kernel)⟩
theorem lw_p2 : lw_okq (⟨"BowlerDents", "fitting", "(ZIZ)I"⟩, 11) := ⟨⟨by decide +kernel, by decide +kernel⟩, List.mem_of_getElem? (i := 20) (by decide +kernel), List.mem_of_getElem? (i := 370) (by decide +kernel), List.mem_of_getElem? (i := 371) (by decide +kernel)⟩
theorem lw_p3 : lw_okq (⟨"BowlerDents", "rowsFit", "(ZIZ)Z"⟩, 11) := ⟨⟨by decide +kernel, by decide +kernel⟩, List.mem_of_getElem? (i := 20) (by decide +kernel), List.mem_of_getElem? (i := 374) (by decide +kernel), List.mem_of_getElem? (i := 375) (by decide +kernel)⟩
theorem lw_p4 : lw_okq (⟨"BowlerDents", "trialValue", "(IZ)I"⟩, 11) := ⟨⟨by decide +kernel, by decide +kernel⟩, List.mem_of_getElem? (i := 20) (by decide +kernel), List.mem_of_getElem? (i := 382) (by decide +kernel), List.mem_of_getElem? (i := 383) (by decide +kernel)⟩
theorem lw_p5 : lw_okq (⟨"BowlerDents$Reader", "isEither", "(LBowlerDents$City;I)Z"⟩, 3) := ⟨⟨by decide +kernel, by decide +kernel⟩, List.mem_of_getElem? (i := 30) (by decide +kernel), List.mem_of_getElem? (i := 507) (by decide +kernel), List.mem_of_getElem? (i := 508) (by decide +kernel)⟩
theorem lw_p6 : lw_okq (⟨"BowlerDents$Reader", "isBoth", "(LBowlerDents$City;I)Z"⟩, 3) := ⟨⟨by decide +kernel, by decide +kernel⟩, List.mem_of_getElem? (i := 30) (by decide +kernel), List.mem_of_getElem? (i := 511) (by decide +kernel), List.mem_of_getElem? (i := 512) (by decide +kernel)⟩
theorem lw_p7 : lw_okq (⟨"BowlerDents$Reader", "isFactor", "(LBowlerDents$City;I)Z"⟩, 3) := ⟨⟨by decide +kernel, by decide +kernel⟩, List.mem_of_getElem? (i := 30) (by decide +kernel), List.mem_of_getElem? (i := 515) (by decide +kernel), List.mem_of_getElem? (i := 516) (by decide +kernel)⟩
theorem lw_p8 : lw_okq (⟨"BowlerDents", "fewestToMend", "(I)I"⟩, 11) := ⟨⟨by decide +kernel, by decide +kernel⟩, List.mem_of_getElem? (i := 20) (by decide +kernel), List.mem_of_getElem? (i := 612) (by decide +kernel), List.mem_of_getElem? (i := 613) (by decide +kernel)⟩
theorem lw_p9 : lw_okq (⟨"BowlerDents", "moreHurtBits", "()I"⟩, 11) := ⟨⟨by decide +kernel, by decide +kernel⟩, List.mem_of_getElem? (i := 20) (by decide +kernel), List.mem_of_getElem? (i := 616) (by decide +kernel), List.mem_of_getElem? (i := 617) (by decide +kernel)⟩
theorem lw_p10 : lw_okq (⟨"BowlerDents", "bestChange", "(I)I"⟩, 11) := ⟨⟨by decide +kernel, by decide +kernel⟩, List.mem_of_getElem? (i := 20) (by decide +kernel), List.mem_of_getElem? (i := 620) (by decide +kernel), List.mem_of_getElem? (i := 621) (by decide +kernel)⟩
theorem lw_p11 : lw_okq (⟨"BowlerDents", "bestTarget", "(II)I"⟩, 11) := ⟨⟨by decide +kernel, by decide +kernel⟩, List.mem_of_getElem? (i := 20) (by decide +kernel), List.mem_of_getElem? (i := 624) (by decide +kernel), List.mem_of_getElem? (i := 625) (by decide +kernel)⟩
theorem lw_p12 : lw_okq (⟨"BowlerDents", "followPlan", "(II)V"⟩, 11) := ⟨⟨by decide +kernel, by decide +kernel⟩, List.mem_of_getElem? (i := 20) (by decide +kernel), List.mem_of_getElem? (i := 668) (by decide +kernel), List.mem_of_getElem? (i := 669) (by decide +kernel)⟩
theorem lw_p13 : lw_okq (⟨"BowlerDentsModel", "change", "(III)I"⟩, 30) := ⟨⟨by decide +kernel, by decide +kernel⟩, List.mem_of_getElem? (i := 766) (by decide +kernel), List.mem_of_getElem? (i := 882) (by decide +kernel), List.mem_of_getElem? (i := 883) (by decide +kernel)⟩
theorem lw_p14 : lw_okq (⟨"BowlerDentsModel", "one", "(II)I"⟩, 30) := ⟨⟨by decide +kernel, by decide +kernel⟩, List.mem_of_getElem? (i := 766) (by decide +kernel), List.mem_of_getElem? (i := 886) (by decide +kernel), List.mem_of_getElem? (i := 887) (by decide +kernel)⟩
theorem lw_p15 : lw_okq (⟨"BowlerDentsModel", "isOne", "(I)Z"⟩, 30) := ⟨⟨by decide +kernel, by decide +kernel⟩, List.mem_of_getElem? (i := 766) (by decide +kernel), List.mem_of_getElem? (i := 894) (by decide +kernel), List.mem_of_getElem? (i := 895) (by decide +kernel)⟩
def lw_privs_1 : List (MethodName × Nat) := [(⟨"BowlerDents", "daysUntilSore", "(I)I"⟩, 11), (⟨"BowlerDents", "isMoreHurt", "(I)Z"⟩, 11), (⟨"BowlerDents", "fitting", "(ZIZ)I"⟩, 11), (⟨"BowlerDents", "rowsFit", "(ZIZ)Z"⟩, 11), (⟨"BowlerDents", "trialValue", "(IZ)I"⟩, 11), (⟨"BowlerDents$Reader", "isEither", "(LBowlerDents$City;I)Z"⟩, 3), (⟨"BowlerDents$Reader", "isBoth", "(LBowlerDents$City;I)Z"⟩, 3), (⟨"BowlerDents$Reader", "isFactor", "(LBowlerDents$City;I)Z"⟩, 3), (⟨"BowlerDents", "fewestToMend", "(I)I"⟩, 11), (⟨"BowlerDents", "moreHurtBits", "()I"⟩, 11), (⟨"BowlerDents", "bestChange", "(I)I"⟩, 11), (⟨"BowlerDents", "bestTarget", "(II)I"⟩, 11), (⟨"BowlerDents", "followPlan", "(II)V"⟩, 11), (⟨"BowlerDentsModel", "change", "(III)I"⟩, 30), (⟨"BowlerDentsModel", "one", "(II)I"⟩, 30), (⟨"BowlerDentsModel", "isOne", "(I)Z"⟩, 30)]
theorem lw_r1 : ∀ q ∈ lw_privs_1, lw_okq q := List.forall_mem_cons.mpr ⟨lw_p0, List.forall_mem_cons.mpr ⟨lw_p1, List.forall_mem_cons.mpr ⟨lw_p2, List.forall_mem_cons.mpr ⟨lw_p3, List.forall_mem_cons.mpr ⟨lw_p4, List.forall_mem_cons.mpr ⟨lw_p5, List.forall_mem_cons.mpr ⟨lw_p6, List.forall_mem_cons.mpr ⟨lw_p7, List.forall_mem_cons.mpr ⟨lw_p8, List.forall_mem_cons.mpr ⟨lw_p9, List.forall_mem_cons.mpr ⟨lw_p10, List.forall_mem_cons.mpr ⟨lw_p11, List.forall_mem_cons.mpr ⟨lw_p12, List.forall_mem_cons.mpr ⟨lw_p13, List.forall_mem_cons.mpr ⟨lw_p14, List.forall_mem_cons.mpr ⟨lw_p15, fun _ h => absurd h List.not_mem_nil⟩⟩⟩⟩⟩⟩⟩⟩⟩⟩⟩⟩⟩⟩⟩⟩
theorem lw_p16 : lw_okq (⟨"BowlerDentsModel", "sore", "(I)I"⟩, 30) := ⟨⟨by decide +kernel, by decide +kernel⟩, List.mem_of_getElem? (i := 766) (by decide +kernel), List.mem_of_getElem? (i := 898) (by decide +kernel), List.mem_of_getElem? (i := 899) (by decide +kernel)⟩
theorem lw_p17 : lw_okq (⟨"BowlerDentsModel", "day", "()V"⟩, 30) := ⟨⟨by decide +kernel, by decide +kernel⟩, List.mem_of_getElem? (i := 766) (by decide +kernel), List.mem_of_getElem? (i := 902) (by decide +kernel), List.mem_of_getElem? (i := 903) (by decide +kernel)⟩
theorem lw_p18 : lw_okq (⟨"BowlerDentsModel", "rubNow", "()I"⟩, 30) := ⟨⟨by decide +kernel, by decide +kernel⟩, List.mem_of_getElem? (i := 766) (by decide +kernel), List.mem_of_getElem? (i := 906) (by decide +kernel), List.mem_of_getElem? (i := 907) (by decide +kernel)⟩
theorem lw_p19 : lw_okq (⟨"BowlerDentsModel", "readFor", "(II)V"⟩, 30) := ⟨⟨by decide +kernel, by decide +kernel⟩, List.mem_of_getElem? (i := 766) (by decide +kernel), List.mem_of_getElem? (i := 910) (by decide +kernel), List.mem_of_getElem? (i := 911) (by decide +kernel)⟩
theorem lw_p20 : lw_okq (⟨"BowlerDentsModel", "readAll", "()Z"⟩, 30) := ⟨⟨by decide +kernel, by decide +kernel⟩, List.mem_of_getElem? (i := 766) (by decide +kernel), List.mem_of_getElem? (i := 914) (by decide +kernel), List.mem_of_getElem? (i := 915) (by decide +kernel)⟩
theorem lw_p21 : lw_okq (⟨"BowlerDentsModel", "clause", "()V"⟩, 30) := ⟨⟨by decide +kernel, by decide +kernel⟩, List.mem_of_getElem? (i := 766) (by decide +kernel), List.mem_of_getElem? (i := 918) (by decide +kernel), List.mem_of_getElem? (i := 919) (by decide +kernel)⟩
theorem lw_p22 : lw_okq (⟨"BowlerDentsModel", "isAt", "(I)Z"⟩, 30) := ⟨⟨by decide +kernel, by decide +kernel⟩, List.mem_of_getElem? (i := 766) (by decide +kernel), List.mem_of_getElem? (i := 922) (by decide +kernel), List.mem_of_getElem? (i := 923) (by decide +kernel)⟩
theorem lw_p23 : lw_okq (⟨"BowlerDentsModel", "takes", "(I)V"⟩, 30) := ⟨⟨by decide +kernel, by decide +kernel⟩, List.mem_of_getElem? (i := 766) (by decide +kernel), List.mem_of_getElem? (i := 926) (by decide +kernel), List.mem_of_getElem? (i := 927) (by decide +kernel)⟩
theorem lw_p24 : lw_okq (⟨"BowlerDentsModel", "number", "()I"⟩, 30) := ⟨⟨by decide +kernel, by decide +kernel⟩, List.mem_of_getElem? (i := 766) (by decide +kernel), List.mem_of_getElem? (i := 930) (by decide +kernel), List.mem_of_getElem? (i := 931) (by decide +kernel)⟩
theorem lw_p25 : lw_okq (⟨"BowlerDentsModel", "isDigit", "()Z"⟩, 30) := ⟨⟨by decide +kernel, by decide +kernel⟩, List.mem_of_getElem? (i := 766) (by decide +kernel), List.mem_of_getElem? (i := 934) (by decide +kernel), List.mem_of_getElem? (i := 935) (by decide +kernel)⟩
theorem lw_p26 : lw_okq (⟨"BowlerDentsModel", "any", "()Z"⟩, 30) := ⟨⟨by decide +kernel, by decide +kernel⟩, List.mem_of_getElem? (i := 766) (by decide +kernel), List.mem_of_getElem? (i := 938) (by decide +kernel), List.mem_of_getElem? (i := 939) (by decide +kernel)⟩
theorem lw_p27 : lw_okq (⟨"BowlerDentsModel", "both", "()Z"⟩, 30) := ⟨⟨by decide +kernel, by decide +kernel⟩, List.mem_of_getElem? (i := 766) (by decide +kernel), List.mem_of_getElem? (i := 942) (by decide +kernel), List.mem_of_getElem? (i := 943) (by decide +kernel)⟩
theorem lw_p28 : lw_okq (⟨"BowlerDentsModel", "factor", "()Z"⟩, 30) := ⟨⟨by decide +kernel, by decide +kernel⟩, List.mem_of_getElem? (i := 766) (by decide +kernel), List.mem_of_getElem? (i := 946) (by decide +kernel), List.mem_of_getElem? (i := 947) (by decide +kernel)⟩
theorem lw_p29 : lw_okq (⟨"BowlerDentsModel", "test", "()Z"⟩, 30) := ⟨⟨by decide +kernel, by decide +kernel⟩, List.mem_of_getElem? (i := 766) (by decide +kernel), List.mem_of_getElem? (i := 950) (by decide +kernel), List.mem_of_getElem? (i := 951) (by decide +kernel)⟩
theorem lw_p30 : lw_okq (⟨"BowlerDentsModel", "isStriking", "(I)Z"⟩, 30) := ⟨⟨by decide +kernel, by decide +kernel⟩, List.mem_of_getElem? (i := 766) (by decide +kernel), List.mem_of_getElem? (i := 954) (by decide +kernel), List.mem_of_getElem? (i := 955) (by decide +kernel)⟩
theorem lw_p31 : lw_okq (⟨"BowlerDentsModel", "word", "(II)I"⟩, 30) := ⟨⟨by decide +kernel, by decide +kernel⟩, List.mem_of_getElem? (i := 766) (by decide +kernel), List.mem_of_getElem? (i := 958) (by decide +kernel), List.mem_of_getElem? (i := 959) (by decide +kernel)⟩
def lw_privs_2 : List (MethodName × Nat) := [(⟨"BowlerDentsModel", "sore", "(I)I"⟩, 30), (⟨"BowlerDentsModel", "day", "()V"⟩, 30), (⟨"BowlerDentsModel", "rubNow", "()I"⟩, 30), (⟨"BowlerDentsModel", "readFor", "(II)V"⟩, 30), (⟨"BowlerDentsModel", "readAll", "()Z"⟩, 30), (⟨"BowlerDentsModel", "clause", "()V"⟩, 30), (⟨"BowlerDentsModel", "isAt", "(I)Z"⟩, 30), (⟨"BowlerDentsModel", "takes", "(I)V"⟩, 30), (⟨"BowlerDentsModel", "number", "()I"⟩, 30), (⟨"BowlerDentsModel", "isDigit", "()Z"⟩, 30), (⟨"BowlerDentsModel", "any", "()Z"⟩, 30), (⟨"BowlerDentsModel", "both", "()Z"⟩, 30), (⟨"BowlerDentsModel", "factor", "()Z"⟩, 30), (⟨"BowlerDentsModel", "test", "()Z"⟩, 30), (⟨"BowlerDentsModel", "isStriking", "(I)Z"⟩, 30), (⟨"BowlerDentsModel", "word", "(II)I"⟩, 30)]
theorem lw_r2 : ∀ q ∈ lw_privs_2, lw_okq q := List.forall_mem_cons.mpr ⟨lw_p16, List.forall_mem_cons.mpr ⟨lw_p17, List.forall_mem_cons.mpr ⟨lw_p18, List.forall_mem_cons.mpr ⟨lw_p19, List.forall_mem_cons.mpr ⟨lw_p20, List.forall_mem_cons.mpr ⟨lw_p21, List.forall_mem_cons.mpr ⟨lw_p22, List.forall_mem_cons.mpr ⟨lw_p23, List.forall_mem_cons.mpr ⟨lw_p24, List.forall_mem_cons.mpr ⟨lw_p25, List.forall_mem_cons.mpr ⟨lw_p26, List.forall_mem_cons.mpr ⟨lw_p27, List.forall_mem_cons.mpr ⟨lw_p28, List.forall_mem_cons.mpr ⟨lw_p29, List.forall_mem_cons.mpr ⟨lw_p30, List.forall_mem_cons.mpr ⟨lw_p31, fun _ h => absurd h List.not_mem_nil⟩⟩⟩⟩⟩⟩⟩⟩⟩⟩⟩⟩⟩⟩⟩⟩
theorem lw_p32 : lw_okq (⟨"BowlerDentsModel", "strikes", "(II)V"⟩, 30) := ⟨⟨by decide +kernel, by decide +kernel⟩, List.mem_of_getElem? (i := 766) (by decide +kernel), List.mem_of_getElem? (i := 962) (by decide +kernel), List.mem_of_getElem? (i := 963) (by decide +kernel)⟩
theorem lw_p33 : lw_okq (⟨"BowlerDentsModel", "guard", "(II)I"⟩, 30) := ⟨⟨by decide +kernel, by decide +kernel⟩, List.mem_of_getElem? (i := 766) (by decide +kernel), List.mem_of_getElem? (i := 966) (by decide +kernel), List.mem_of_getElem? (i := 967) (by decide +kernel)⟩
theorem lw_p34 : lw_okq (⟨"BowlerDentsModel", "covers", "(IZ)I"⟩, 30) := ⟨⟨by decide +kernel, by decide +kernel⟩, List.mem_of_getElem? (i := 766) (by decide +kernel), List.mem_of_getElem? (i := 972) (by decide +kernel), List.mem_of_getElem? (i := 973) (by decide +kernel)⟩
theorem lw_p35 : lw_okq (⟨"BowlerDentsModel", "fits", "(IIIIZ)I"⟩, 30) := ⟨⟨by decide +kernel, by decide +kernel⟩, List.mem_of_getElem? (i := 766) (by decide +kernel), List.mem_of_getElem? (i := 976) (by decide +kernel), List.mem_of_getElem? (i := 977) (by decide +kernel)⟩
theorem lw_p36 : lw_okq (⟨"BowlerDentsModel", "isAllSo", "(I)Z"⟩, 30) := ⟨⟨by decide +kernel, by decide +kernel⟩, List.mem_of_getElem? (i := 766) (by decide +kernel), List.mem_of_getElem? (i := 980) (by decide +kernel), List.mem_of_getElem? (i := 981) (by decide +kernel)⟩
theorem lw_p37 : lw_okq (⟨"BowlerDentsModel", "isSaying", "(I)Z"⟩, 30) := ⟨⟨by decide +kernel, by decide +kernel⟩, List.mem_of_getElem? (i := 766) (by decide +kernel), List.mem_of_getElem? (i := 984) (by decide +kernel), List.mem_of_getElem? (i := 985) (by decide +kernel)⟩
theorem lw_p38 : lw_okq (⟨"BowlerDentsModel", "aims", "(II)I"⟩, 30) := ⟨⟨by decide +kernel, by decide +kernel⟩, List.mem_of_getElem? (i := 766) (by decide +kernel), List.mem_of_getElem? (i := 992) (by decide +kernel), List.mem_of_getElem? (i := 993) (by decide +kernel)⟩
theorem lw_p39 : lw_okq (⟨"BowlerDentsModel", "all", "(I)I"⟩, 30) := ⟨⟨by decide +kernel, by decide +kernel⟩, List.mem_of_getElem? (i := 766) (by decide +kernel), List.mem_of_getElem? (i := 1027) (by decide +kernel), List.mem_of_getElem? (i := 1028) (by decide +kernel)⟩
theorem lw_p40 : lw_okq (⟨"BowlerDentsModel", "days", "(I)V"⟩, 30) := ⟨⟨by decide +kernel, by decide +kernel⟩, List.mem_of_getElem? (i := 766) (by decide +kernel), List.mem_of_getElem? (i := 1035) (by decide +kernel), List.mem_of_getElem? (i := 1036) (by decide +kernel)⟩
theorem lw_p41 : lw_okq (⟨"BowlerDentsModel", "mends", "(I)I"⟩, 30) := ⟨⟨by decide +kernel, by decide +kernel⟩, List.mem_of_getElem? (i := 766) (by decide +kernel), List.mem_of_getElem? (i := 1047) (by decide +kernel), List.mem_of_getElem? (i := 1048) (by decide +kernel)⟩
theorem lw_p42 : lw_okq (⟨"BowlerDentsModel", "hurtBehind", "(I)I"⟩, 30) := ⟨⟨by decide +kernel, by decide +kernel⟩, List.mem_of_getElem? (i := 766) (by decide +kernel), List.mem_of_getElem? (i := 1054) (by decide +kernel), List.mem_of_getElem? (i := 1055) (by decide +kernel)⟩
theorem lw_p43 : lw_okq (⟨"BowlerDentsModel", "changes", "(I)I"⟩, 30) := ⟨⟨by decide +kernel, by decide +kernel⟩, List.mem_of_getElem? (i := 766) (by decide +kernel), List.mem_of_getElem? (i := 1058) (by decide +kernel), List.mem_of_getElem? (i := 1059) (by decide +kernel)⟩
theorem lw_p44 : lw_okq (⟨"BowlerDentsModel", "swap", "(II)V"⟩, 30) := ⟨⟨by decide +kernel, by decide +kernel⟩, List.mem_of_getElem? (i := 766) (by decide +kernel), List.mem_of_getElem? (i := 1062) (by decide +kernel), List.mem_of_getElem? (i := 1063) (by decide +kernel)⟩
theorem lw_p45 : lw_okq (⟨"BowlerDentsModel", "aimOf", "(II)I"⟩, 30) := ⟨⟨by decide +kernel, by decide +kernel⟩, List.mem_of_getElem? (i := 766) (by decide +kernel), List.mem_of_getElem? (i := 1066) (by decide +kernel), List.mem_of_getElem? (i := 1067) (by decide +kernel)⟩
theorem lw_p46 : lw_okq (⟨"BowlerDentsModel", "comes", "(IIII)I"⟩, 30) := ⟨⟨by decide +kernel, by decide +kernel⟩, List.mem_of_getElem? (i := 766) (by decide +kernel), List.mem_of_getElem? (i := 1075) (by decide +kernel), List.mem_of_getElem? (i := 1076) (by decide +kernel)⟩
theorem lw_p47 : lw_okq (⟨"BowlerDentsModel", "begin", "(III)I"⟩, 30) := ⟨⟨by decide +kernel, by decide +kernel⟩, List.mem_of_getElem? (i := 766) (by decide +kernel), List.mem_of_getElem? (i := 1120) (by decide +kernel), List.mem_of_getElem? (i := 1121) (by decide +kernel)⟩
def lw_privs_3 : List (MethodName × Nat) := [(⟨"BowlerDentsModel", "strikes", "(II)V"⟩, 30), (⟨"BowlerDentsModel", "guard", "(II)I"⟩, 30), (⟨"BowlerDentsModel", "covers", "(IZ)I"⟩, 30), (⟨"BowlerDentsModel", "fits", "(IIIIZ)I"⟩, 30), (⟨"BowlerDentsModel", "isAllSo", "(I)Z"⟩, 30), (⟨"BowlerDentsModel", "isSaying", "(I)Z"⟩, 30), (⟨"BowlerDentsModel", "aims", "(II)I"⟩, 30), (⟨"BowlerDentsModel", "all", "(I)I"⟩, 30), (⟨"BowlerDentsModel", "days", "(I)V"⟩, 30), (⟨"BowlerDentsModel", "mends", "(I)I"⟩, 30), (⟨"BowlerDentsModel", "hurtBehind", "(I)I"⟩, 30), (⟨"BowlerDentsModel", "changes", "(I)I"⟩, 30), (⟨"BowlerDentsModel", "swap", "(II)V"⟩, 30), (⟨"BowlerDentsModel", "aimOf", "(II)I"⟩, 30), (⟨"BowlerDentsModel", "comes", "(IIII)I"⟩, 30), (⟨"BowlerDentsModel", "begin", "(III)I"⟩, 30)]
theorem lw_r3 : ∀ q ∈ lw_privs_3, lw_okq q := List.forall_mem_cons.mpr ⟨lw_p32, List.forall_mem_cons.mpr ⟨lw_p33, List.forall_mem_cons.mpr ⟨lw_p34, List.forall_mem_cons.mpr ⟨lw_p35, List.forall_mem_cons.mpr ⟨lw_p36, List.forall_mem_cons.mpr ⟨lw_p37, List.forall_mem_cons.mpr ⟨lw_p38, List.forall_mem_cons.mpr ⟨lw_p39, List.forall_mem_cons.mpr ⟨lw_p40, List.forall_mem_cons.mpr ⟨lw_p41, List.forall_mem_cons.mpr ⟨lw_p42, List.forall_mem_cons.mpr ⟨lw_p43, List.forall_mem_cons.mpr ⟨lw_p44, List.forall_mem_cons.mpr ⟨lw_p45, List.forall_mem_cons.mpr ⟨lw_p46, List.forall_mem_cons.mpr ⟨lw_p47, fun _ h => absurd h List.not_mem_nil⟩⟩⟩⟩⟩⟩⟩⟩⟩⟩⟩⟩⟩⟩⟩⟩
theorem lw_p48 : lw_okq (⟨"BowlerDentsModel", "byKind", "(IIII)I"⟩, 30) := ⟨⟨by decide +kernel, by decide +kernel⟩, List.mem_of_getElem? (i := 766) (by decide +kernel), List.mem_of_getElem? (i := 1124) (by decide +kernel), List.mem_of_getElem? (i := 1125) (by decide +kernel)⟩
theorem lw_p49 : lw_okq (⟨"BowlerDentsModel", "body", "(I)I"⟩, 30) := ⟨⟨by decide +kernel, by decide +kernel⟩, List.mem_of_getElem? (i := 766) (by decide +kernel), List.mem_of_getElem? (i := 1128) (by decide +kernel), List.mem_of_getElem? (i := 1129) (by decide +kernel)⟩
def lw_privs_4 : List (MethodName × Nat) := [(⟨"BowlerDentsModel", "byKind", "(IIII)I"⟩, 30), (⟨"BowlerDentsModel", "body", "(I)I"⟩, 30)]
theorem lw_r4 : ∀ q ∈ lw_privs_4, lw_okq q := List.forall_mem_cons.mpr ⟨lw_p48, List.forall_mem_cons.mpr ⟨lw_p49, fun _ h => absurd h List.not_mem_nil⟩⟩
def lw_privs : List (MethodName × Nat) := lw_privs_1 ++ (lw_privs_2 ++ (lw_privs_3 ++ (lw_privs_4)))
def lw_tbl : List Cond := k2_sels lw_privs ++ tables_1
theorem lw_privs_ok : ∀ q ∈ lw_privs, lw_okq q := by
  show ∀ q ∈ lw_privs_1 ++ (lw_privs_2 ++ (lw_privs_3 ++ (lw_privs_4))), lw_okq q
  exact List.forall_mem_append.mpr ⟨lw_r1, List.forall_mem_append.mpr ⟨lw_r2, List.forall_mem_append.mpr ⟨lw_r3, lw_r4⟩⟩⟩
def RX0 : String := "BowlerDents$City"
def TX0 : u_T := fun k => match k with
  | 0 => ("BowlerDents$City", "steps", "[I", true)
  | 1 => ("BowlerDents$City", "numbers", "[I", true)
  | 2 => ("BowlerDents$City", "letters", "[I", true)
  | 3 => ("BowlerDents$City", "stepCount", "I", false)
  | _ => ("BowlerDents$City", "rub", "I", false)
def tyX0 : Nat → FieldType := fun k => match k with
  | 0 => .array .int
  | 1 => .array .int
  | 2 => .array .int
  | 3 => .int
  | _ => .int
theorem nmX0 : ∀ a, a < 5 → ∀ b, b < 5 → a ≠ b → (TX0 a).2.1 ≠ (TX0 b).2.1 := by decide +kernel
theorem tyX0_ok : ∀ k, k < 5 → parseFieldDescriptor (TX0 k).2.2.1 = some (tyX0 k) := by decide +kernel
abbrev cX0_init : ByteArray := prog_2_method_1_code
def yX0_init : MethodName := ⟨RX0, "<init>", "()V"⟩
abbrev cX0_clear : ByteArray := prog_2_method_2_code
def yX0_clear : MethodName := ⟨RX0, "clear", "()V"⟩
abbrev cX0_put : ByteArray := prog_2_method_3_code
def yX0_put : MethodName := ⟨RX0, "put", "(II)V"⟩
abbrev cX0_sum : ByteArray := prog_2_method_4_code
def yX0_sum : MethodName := ⟨RX0, "sum", "(LBowlerDents$Wearer;II)I"⟩
def RX1 : String := "BowlerDents$Hand"
def TX1 : u_T := fun k => match k with
  | 0 => ("BowlerDents$Hand", "seen", "LBowlerDents$Rows;", true)
  | 1 => ("BowlerDents$Hand", "sores", "LBowlerDents$Rows;", true)
  | 2 => ("BowlerDents$Hand", "plan", "LBowlerDents$Rows;", true)
  | _ => ("BowlerDents$Hand", "book", "LBowlerDents$Rows;", true)
def tyX1 : Nat → FieldType := fun k => match k with
  | 0 => .object "BowlerDents$Rows"
  | 1 => .object "BowlerDents$Rows"
  | 2 => .object "BowlerDents$Rows"
  | _ => .object "BowlerDents$Rows"
theorem nmX1 : ∀ a, a < 4 → ∀ b, b < 4 → a ≠ b → (TX1 a).2.1 ≠ (TX1 b).2.1 := by decide +kernel
theorem tyX1_ok : ∀ k, k < 4 → parseFieldDescriptor (TX1 k).2.2.1 = some (tyX1 k) := by decide +kernel
abbrev cX1_init : ByteArray := prog_3_method_1_code
def yX1_init : MethodName := ⟨RX1, "<init>", "()V"⟩
abbrev cX1_become : ByteArray := prog_3_method_2_code
def yX1_become : MethodName := ⟨RX1, "become", "(LBowlerDents$Hand;)V"⟩
def RX2 : String := "BowlerDents$Reader"
def TX2 : u_T := fun k => match k with
  | 0 => ("BowlerDents$Reader", "text", "[B", true)
  | 1 => ("BowlerDents$Reader", "length", "I", false)
  | _ => ("BowlerDents$Reader", "place", "I", false)
def tyX2 : Nat → FieldType := fun k => match k with
  | 0 => .array .byte
  | 1 => .int
  | _ => .int
theorem nmX2 : ∀ a, a < 3 → ∀ b, b < 3 → a ≠ b → (TX2 a).2.1 ≠ (TX2 b).2.1 := by decide +kernel
theorem tyX2_ok : ∀ k, k < 3 → parseFieldDescriptor (TX2 k).2.2.1 = some (tyX2 k) := by decide +kernel
abbrev cX2_init : ByteArray := prog_4_method_1_code
def yX2_init : MethodName := ⟨RX2, "<init>", "()V"⟩
abbrev cX2_takes : ByteArray := prog_4_method_2_code
def yX2_takes : MethodName := ⟨RX2, "takes", "(I)I"⟩
abbrev cX2_makes : ByteArray := prog_4_method_3_code
def yX2_makes : MethodName := ⟨RX2, "makes", "(LBowlerDents$City;)Z"⟩
abbrev cX2_isClause : ByteArray := prog_4_method_4_code
def yX2_isClause : MethodName := ⟨RX2, "isClause", "(LBowlerDents$City;)Z"⟩
abbrev cX2_isEither : ByteArray := prog_4_method_5_code
def yX2_isEither : MethodName := ⟨RX2, "isEither", "(LBowlerDents$City;I)Z"⟩
abbrev cX2_isBoth : ByteArray := prog_4_method_6_code
def yX2_isBoth : MethodName := ⟨RX2, "isBoth", "(LBowlerDents$City;I)Z"⟩
abbrev cX2_isFactor : ByteArray := prog_4_method_7_code
def yX2_isFactor : MethodName := ⟨RX2, "isFactor", "(LBowlerDents$City;I)Z"⟩
abbrev cX2_number : ByteArray := prog_4_method_8_code
def yX2_number : MethodName := ⟨RX2, "number", "()I"⟩
abbrev cX2_signOf : ByteArray := prog_4_method_9_code
def yX2_signOf : MethodName := ⟨RX2, "signOf", "(Ljava/lang/String;)I"⟩
abbrev cX2_isWord : ByteArray := prog_4_method_10_code
def yX2_isWord : MethodName := ⟨RX2, "isWord", "(Ljava/lang/String;)Z"⟩
abbrev cX2_isSign : ByteArray := prog_4_method_11_code
def yX2_isSign : MethodName := ⟨RX2, "isSign", "(C)Z"⟩
def RX3 : String := "BowlerDents$Rows"
def TX3 : u_T := fun k => match k with
  | 0 => ("BowlerDents$Rows", "who", "[I", true)
  | 1 => ("BowlerDents$Rows", "sort", "[I", true)
  | 2 => ("BowlerDents$Rows", "value", "[I", true)
  | _ => ("BowlerDents$Rows", "count", "I", false)
def tyX3 : Nat → FieldType := fun k => match k with
  | 0 => .array .int
  | 1 => .array .int
  | 2 => .array .int
  | _ => .int
theorem nmX3 : ∀ a, a < 4 → ∀ b, b < 4 → a ≠ b → (TX3 a).2.1 ≠ (TX3 b).2.1 := by decide +kernel
theorem tyX3_ok : ∀ k, k < 4 → parseFieldDescriptor (TX3 k).2.2.1 = some (tyX3 k) := by decide +kernel
abbrev cX3_init : ByteArray := prog_5_method_1_code
def yX3_init : MethodName := ⟨RX3, "<init>", "(I)V"⟩
abbrev cX3_empty : ByteArray := prog_5_method_2_code
def yX3_empty : MethodName := ⟨RX3, "empty", "()I"⟩
abbrev cX3_add : ByteArray := prog_5_method_3_code
def yX3_add : MethodName := ⟨RX3, "add", "(III)I"⟩
abbrev cX3_lastDay : ByteArray := prog_5_method_4_code
def yX3_lastDay : MethodName := ⟨RX3, "lastDay", "()I"⟩
abbrev cX3_become : ByteArray := prog_5_method_5_code
def yX3_become : MethodName := ⟨RX3, "become", "(LBowlerDents$Rows;)V"⟩
def RX4 : String := "BowlerDents$Saying"
def TX4 : u_T := fun k => match k with
  | 0 => ("BowlerDents$Saying", "hard", "I", false)
  | 1 => ("BowlerDents$Saying", "every", "I", false)
  | _ => ("BowlerDents$Saying", "target", "I", false)
def tyX4 : Nat → FieldType := fun k => match k with
  | 0 => .int
  | 1 => .int
  | _ => .int
theorem nmX4 : ∀ a, a < 3 → ∀ b, b < 3 → a ≠ b → (TX4 a).2.1 ≠ (TX4 b).2.1 := by decide +kernel
theorem tyX4_ok : ∀ k, k < 3 → parseFieldDescriptor (TX4 k).2.2.1 = some (tyX4 k) := by decide +kernel
abbrev cX4_init : ByteArray := prog_6_method_1_code
def yX4_init : MethodName := ⟨RX4, "<init>", "()V"⟩
abbrev cX4_become : ByteArray := prog_6_method_2_code
def yX4_become : MethodName := ⟨RX4, "become", "(LBowlerDents$Saying;)V"⟩
def RX5 : String := "BowlerDents$Strip"
def TX5 : u_T := fun k => match k with
  | 0 => ("BowlerDents$Strip", "items", "[J", true)
  | 1 => ("BowlerDents$Strip", "sort", "I", false)
  | _ => ("BowlerDents$Strip", "length", "I", false)
def tyX5 : Nat → FieldType := fun k => match k with
  | 0 => .array .long
  | 1 => .int
  | _ => .int
theorem nmX5 : ∀ a, a < 3 → ∀ b, b < 3 → a ≠ b → (TX5 a).2.1 ≠ (TX5 b).2.1 := by decide +kernel
theorem tyX5_ok : ∀ k, k < 3 → parseFieldDescriptor (TX5 k).2.2.1 = some (tyX5 k) := by decide +kernel
abbrev cX5_init : ByteArray := prog_7_method_1_code
def yX5_init : MethodName := ⟨RX5, "<init>", "()V"⟩
abbrev cX5_become : ByteArray := prog_7_method_2_code
def yX5_become : MethodName := ⟨RX5, "become", "(II)V"⟩
abbrev cX5_holds : ByteArray := prog_7_method_3_code
def yX5_holds : MethodName := ⟨RX5, "holds", "(II)Z"⟩
abbrev cX5_fitted : ByteArray := prog_7_method_4_code
def yX5_fitted : MethodName := ⟨RX5, "fitted", "(J)J"⟩
def RX6 : String := "BowlerDents$Trail"
def TX6 : u_T := fun k => match k with
  | 0 => ("BowlerDents$Trail", "bodies", "[I", true)
  | _ => ("BowlerDents$Trail", "ran", "I", false)
def tyX6 : Nat → FieldType := fun k => match k with
  | 0 => .array .int
  | _ => .int
theorem nmX6 : ∀ a, a < 2 → ∀ b, b < 2 → a ≠ b → (TX6 a).2.1 ≠ (TX6 b).2.1 := by decide +kernel
theorem tyX6_ok : ∀ k, k < 2 → parseFieldDescriptor (TX6 k).2.2.1 = some (tyX6 k) := by decide +kernel
abbrev cX6_init : ByteArray := prog_8_method_1_code
def yX6_init : MethodName := ⟨RX6, "<init>", "()V"⟩
abbrev cX6_begins : ByteArray := prog_8_method_2_code
def yX6_begins : MethodName := ⟨RX6, "begins", "(I)V"⟩
abbrev cX6_nods : ByteArray := prog_8_method_3_code
def yX6_nods : MethodName := ⟨RX6, "nods", "(LBowlerDents$Wearer;IILBowlerDents$Trail;)I"⟩
abbrev cX6_knocks : ByteArray := prog_8_method_4_code
def yX6_knocks : MethodName := ⟨RX6, "knocks", "(LBowlerDents$Wearer;IILBowlerDents$Trail;)I"⟩
abbrev cX6_tells : ByteArray := prog_8_method_5_code
def yX6_tells : MethodName := ⟨RX6, "tells", "(LBowlerDents$Wearer;IILBowlerDents$Trail;)I"⟩
def RX7 : String := "BowlerDents$Wearer"
def TX7 : u_T := fun k => match k with
  | 0 => ("BowlerDents$Wearer", "number", "I", true)
  | 1 => ("BowlerDents$Wearer", "parts", "[I", true)
  | 2 => ("BowlerDents$Wearer", "kind", "I", false)
  | 3 => ("BowlerDents$Wearer", "v", "I", false)
  | 4 => ("BowlerDents$Wearer", "cover", "I", false)
  | 5 => ("BowlerDents$Wearer", "dents", "I", false)
  | _ => ("BowlerDents$Wearer", "hurt", "I", false)
def tyX7 : Nat → FieldType := fun k => match k with
  | 0 => .int
  | 1 => .array .int
  | 2 => .int
  | 3 => .int
  | 4 => .int
  | 5 => .int
  | _ => .int
theorem nmX7 : ∀ a, a < 7 → ∀ b, b < 7 → a ≠ b → (TX7 a).2.1 ≠ (TX7 b).2.1 := by decide +kernel
theorem tyX7_ok : ∀ k, k < 7 → parseFieldDescriptor (TX7 k).2.2.1 = some (tyX7 k) := by decide +kernel
abbrev cX7_init : ByteArray := prog_9_method_1_code
def yX7_init : MethodName := ⟨RX7, "<init>", "(I)V"⟩
abbrev cX7_begin : ByteArray := prog_9_method_2_code
def yX7_begin : MethodName := ⟨RX7, "begin", "(III)V"⟩
abbrev cX7_become : ByteArray := prog_9_method_3_code
def yX7_become : MethodName := ⟨RX7, "become", "(LBowlerDents$Wearer;)V"⟩
abbrev cX7_guardBy : ByteArray := prog_9_method_4_code
def yX7_guardBy : MethodName := ⟨RX7, "guardBy", "(II)I"⟩
def RX8 : String := "BowlerDents$World"
def TX8 : u_T := fun k => match k with
  | 0 => ("BowlerDents$World", "wearers", "[LBowlerDents$Wearer;", true)
  | 1 => ("BowlerDents$World", "sayings", "[LBowlerDents$Saying;", true)
  | 2 => ("BowlerDents$World", "wearerCount", "I", false)
  | 3 => ("BowlerDents$World", "sayingCount", "I", false)
  | 4 => ("BowlerDents$World", "day", "I", false)
  | _ => ("BowlerDents$World", "city", "LBowlerDents$City;", false)
def tyX8 : Nat → FieldType := fun k => match k with
  | 0 => .array (.object "BowlerDents$Wearer")
  | 1 => .array (.object "BowlerDents$Saying")
  | 2 => .int
  | 3 => .int
  | 4 => .int
  | _ => .object "BowlerDents$City"
theorem nmX8 : ∀ a, a < 6 → ∀ b, b < 6 → a ≠ b → (TX8 a).2.1 ≠ (TX8 b).2.1 := by decide +kernel
theorem tyX8_ok : ∀ k, k < 6 → parseFieldDescriptor (TX8 k).2.2.1 = some (tyX8 k) := by decide +kernel
abbrev cX8_init : ByteArray := prog_10_method_1_code
def yX8_init : MethodName := ⟨RX8, "<init>", "()V"⟩
abbrev cX8_become : ByteArray := prog_10_method_2_code
def yX8_become : MethodName := ⟨RX8, "become", "(LBowlerDents$World;)V"⟩
abbrev cX8_becomeOne : ByteArray := prog_10_method_3_code
def yX8_becomeOne : MethodName := ⟨RX8, "becomeOne", "(LBowlerDents$World;I)V"⟩
abbrev cX8_hasWearer : ByteArray := prog_10_method_4_code
def yX8_hasWearer : MethodName := ⟨RX8, "hasWearer", "(I)Z"⟩
abbrev cX8_hasSaying : ByteArray := prog_10_method_5_code
def yX8_hasSaying : MethodName := ⟨RX8, "hasSaying", "(I)Z"⟩
abbrev cX8_addWearer : ByteArray := prog_10_method_6_code
def yX8_addWearer : MethodName := ⟨RX8, "addWearer", "(III)I"⟩
abbrev cX8_addSaying : ByteArray := prog_10_method_7_code
def yX8_addSaying : MethodName := ⟨RX8, "addSaying", "(II)I"⟩
abbrev cX8_isStriking : ByteArray := prog_10_method_8_code
def yX8_isStriking : MethodName := ⟨RX8, "isStriking", "(LBowlerDents$Saying;)Z"⟩
abbrev cX8_strikingBits : ByteArray := prog_10_method_9_code
def yX8_strikingBits : MethodName := ⟨RX8, "strikingBits", "()I"⟩
abbrev cX8_guard : ByteArray := prog_10_method_10_code
def yX8_guard : MethodName := ⟨RX8, "guard", "(LBowlerDents$Wearer;I)I"⟩
abbrev cX8_go : ByteArray := prog_10_method_11_code
def yX8_go : MethodName := ⟨RX8, "go", "(II)V"⟩
abbrev cX8_strike : ByteArray := prog_10_method_12_code
def yX8_strike : MethodName := ⟨RX8, "strike", "(I)V"⟩
abbrev cX8_hurtOfAll : ByteArray := prog_10_method_13_code
def yX8_hurtOfAll : MethodName := ⟨RX8, "hurtOfAll", "()I"⟩
abbrev cX8_coverOfAll : ByteArray := prog_10_method_14_code
def yX8_coverOfAll : MethodName := ⟨RX8, "coverOfAll", "()I"⟩
def RX9 : String := "BowlerDents"
def TX9 : u_T := fun k => match k with
  | 0 => ("BowlerDents", "cities", "[LBowlerDents$City;", true)
  | 1 => ("BowlerDents", "reader", "LBowlerDents$Reader;", true)
  | 2 => ("BowlerDents", "now", "LBowlerDents$World;", true)
  | 3 => ("BowlerDents", "trial", "LBowlerDents$World;", true)
  | 4 => ("BowlerDents", "imageWorld", "LBowlerDents$World;", true)
  | 5 => ("BowlerDents", "hand", "LBowlerDents$Hand;", true)
  | 6 => ("BowlerDents", "imageHand", "LBowlerDents$Hand;", true)
  | 7 => ("BowlerDents", "trail", "LBowlerDents$Trail;", true)
  | 8 => ("BowlerDents", "strips", "[LBowlerDents$Strip;", true)
  | 9 => ("BowlerDents", "cityCount", "I", false)
  | _ => ("BowlerDents", "hasImage", "Z", false)
def tyX9 : Nat → FieldType := fun k => match k with
  | 0 => .array (.object "BowlerDents$City")
  | 1 => .object "BowlerDents$Reader"
  | 2 => .object "BowlerDents$World"
  | 3 => .object "BowlerDents$World"
  | 4 => .object "BowlerDents$World"
  | 5 => .object "BowlerDents$Hand"
  | 6 => .object "BowlerDents$Hand"
  | 7 => .object "BowlerDents$Trail"
  | 8 => .array (.object "BowlerDents$Strip")
  | 9 => .int
  | _ => .boolean
theorem nmX9 : ∀ a, a < 11 → ∀ b, b < 11 → a ≠ b → (TX9 a).2.1 ≠ (TX9 b).2.1 := by decide +kernel
theorem tyX9_ok : ∀ k, k < 11 → parseFieldDescriptor (TX9 k).2.2.1 = some (tyX9 k) := by decide +kernel
abbrev cX9_init : ByteArray := prog_1_method_1_code
def yX9_init : MethodName := ⟨RX9, "<init>", "()V"⟩
abbrev cX9_wearer : ByteArray := prog_1_method_2_code
def yX9_wearer : MethodName := ⟨RX9, "wearer", "(III)I"⟩
abbrev cX9_of : ByteArray := prog_1_method_3_code
def yX9_of : MethodName := ⟨RX9, "of", "(II)I"⟩
abbrev cX9_saying : ByteArray := prog_1_method_4_code
def yX9_saying : MethodName := ⟨RX9, "saying", "(II)I"⟩
abbrev cX9_phrase : ByteArray := prog_1_method_5_code
def yX9_phrase : MethodName := ⟨RX9, "phrase", "(II)I"⟩
abbrev cX9_aim : ByteArray := prog_1_method_6_code
def yX9_aim : MethodName := ⟨RX9, "aim", "(II)I"⟩
abbrev cX9_mend : ByteArray := prog_1_method_7_code
def yX9_mend : MethodName := ⟨RX9, "mend", "(II)I"⟩
abbrev cX9_row : ByteArray := prog_1_method_8_code
def yX9_row : MethodName := ⟨RX9, "row", "(III)I"⟩
abbrev cX9_feed : ByteArray := prog_1_method_9_code
def yX9_feed : MethodName := ⟨RX9, "feed", "(I)I"⟩
abbrev cX9_city : ByteArray := prog_1_method_10_code
def yX9_city : MethodName := ⟨RX9, "city", "()I"⟩
abbrev cX9_told : ByteArray := prog_1_method_11_code
def yX9_told : MethodName := ⟨RX9, "told", "(I)I"⟩
abbrev cX9_pass : ByteArray := prog_1_method_12_code
def yX9_pass : MethodName := ⟨RX9, "pass", "(I)I"⟩
abbrev cX9_on : ByteArray := prog_1_method_13_code
def yX9_on : MethodName := ⟨RX9, "on", "(II)I"⟩
abbrev cX9_best : ByteArray := prog_1_method_14_code
def yX9_best : MethodName := ⟨RX9, "best", "(II)I"⟩
abbrev cX9_see : ByteArray := prog_1_method_15_code
def yX9_see : MethodName := ⟨RX9, "see", "(III)I"⟩
abbrev cX9_ache : ByteArray := prog_1_method_16_code
def yX9_ache : MethodName := ⟨RX9, "ache", "(IIZ)I"⟩
abbrev cX9_can : ByteArray := prog_1_method_17_code
def yX9_can : MethodName := ⟨RX9, "can", "(II)I"⟩
abbrev cX9_odds : ByteArray := prog_1_method_18_code
def yX9_odds : MethodName := ⟨RX9, "odds", "(IIII)J"⟩
abbrev cX9_mean : ByteArray := prog_1_method_19_code
def yX9_mean : MethodName := ⟨RX9, "mean", "(II)J"⟩
abbrev cX9_plan : ByteArray := prog_1_method_20_code
def yX9_plan : MethodName := ⟨RX9, "plan", "(II)I"⟩
abbrev cX9_ends : ByteArray := prog_1_method_21_code
def yX9_ends : MethodName := ⟨RX9, "ends", "(I)I"⟩
abbrev cX9_book : ByteArray := prog_1_method_22_code
def yX9_book : MethodName := ⟨RX9, "book", "(II)I"⟩
abbrev cX9_looked : ByteArray := prog_1_method_23_code
def yX9_looked : MethodName := ⟨RX9, "looked", "()I"⟩
abbrev cX9_judge : ByteArray := prog_1_method_24_code
def yX9_judge : MethodName := ⟨RX9, "judge", "(II)I"⟩
abbrev cX9_image : ByteArray := prog_1_method_25_code
def yX9_image : MethodName := ⟨RX9, "image", "()I"⟩
abbrev cX9_undo : ByteArray := prog_1_method_26_code
def yX9_undo : MethodName := ⟨RX9, "undo", "()I"⟩
abbrev cX9_act : ByteArray := prog_1_method_27_code
def yX9_act : MethodName := ⟨RX9, "act", "(III)I"⟩
abbrev cX9_trace : ByteArray := prog_1_method_28_code
def yX9_trace : MethodName := ⟨RX9, "trace", "(I)I"⟩
abbrev cX9_taken : ByteArray := prog_1_method_29_code
def yX9_taken : MethodName := ⟨RX9, "taken", "(II)I"⟩
abbrev cX9_count : ByteArray := prog_1_method_30_code
def yX9_count : MethodName := ⟨RX9, "count", "(I)I"⟩
abbrev cX9_tape : ByteArray := prog_1_method_31_code
def yX9_tape : MethodName := ⟨RX9, "tape", "(III)I"⟩
abbrev cX9_item : ByteArray := prog_1_method_32_code
def yX9_item : MethodName := ⟨RX9, "item", "(IIJ)I"⟩
abbrev cX9_read : ByteArray := prog_1_method_33_code
def yX9_read : MethodName := ⟨RX9, "read", "(II)J"⟩
abbrev cX9_shift : ByteArray := prog_1_method_34_code
def yX9_shift : MethodName := ⟨RX9, "shift", "(IIIII)I"⟩
abbrev cX9_isOut : ByteArray := prog_1_method_35_code
def yX9_isOut : MethodName := ⟨RX9, "isOut", "(II)Z"⟩
abbrev cX9_kindAbove : ByteArray := prog_1_method_36_code
def yX9_kindAbove : MethodName := ⟨RX9, "kindAbove", "(I)I"⟩
abbrev cX9_ofLowestTerms : ByteArray := prog_1_method_37_code
def yX9_ofLowestTerms : MethodName := ⟨RX9, "ofLowestTerms", "(III)J"⟩
abbrev cX9_isMoreHurt : ByteArray := prog_1_method_38_code
def yX9_isMoreHurt : MethodName := ⟨RX9, "isMoreHurt", "(I)Z"⟩
abbrev cX9_daysUntilSore : ByteArray := prog_1_method_39_code
def yX9_daysUntilSore : MethodName := ⟨RX9, "daysUntilSore", "(I)I"⟩
abbrev cX9_fewestToMend : ByteArray := prog_1_method_40_code
def yX9_fewestToMend : MethodName := ⟨RX9, "fewestToMend", "(I)I"⟩
abbrev cX9_moreHurtBits : ByteArray := prog_1_method_41_code
def yX9_moreHurtBits : MethodName := ⟨RX9, "moreHurtBits", "()I"⟩
abbrev cX9_bestChange : ByteArray := prog_1_method_42_code
def yX9_bestChange : MethodName := ⟨RX9, "bestChange", "(I)I"⟩
abbrev cX9_bestTarget : ByteArray := prog_1_method_43_code
def yX9_bestTarget : MethodName := ⟨RX9, "bestTarget", "(II)I"⟩
abbrev cX9_fitting : ByteArray := prog_1_method_44_code
def yX9_fitting : MethodName := ⟨RX9, "fitting", "(ZIZ)I"⟩
abbrev cX9_rowsFit : ByteArray := prog_1_method_45_code
def yX9_rowsFit : MethodName := ⟨RX9, "rowsFit", "(ZIZ)Z"⟩
abbrev cX9_trialValue : ByteArray := prog_1_method_46_code
def yX9_trialValue : MethodName := ⟨RX9, "trialValue", "(IZ)I"⟩
abbrev cX9_followPlan : ByteArray := prog_1_method_47_code
def yX9_followPlan : MethodName := ⟨RX9, "followPlan", "(II)V"⟩
def RX10 : String := "BowlerDentsModel"
def TX10 : u_T := fun k => match k with
  | 0 => ("BowlerDentsModel", "now", "[I", true)
  | 1 => ("BowlerDentsModel", "mind", "[I", true)
  | 2 => ("BowlerDentsModel", "then", "[I", true)
  | 3 => ("BowlerDentsModel", "kept", "Z", false)
  | 4 => ("BowlerDentsModel", "text", "[I", true)
  | 5 => ("BowlerDentsModel", "texted", "I", false)
  | 6 => ("BowlerDentsModel", "rules", "[I", true)
  | 7 => ("BowlerDentsModel", "sizes", "[I", true)
  | 8 => ("BowlerDentsModel", "ruled", "I", false)
  | 9 => ("BowlerDentsModel", "read", "[I", true)
  | 10 => ("BowlerDentsModel", "size", "I", false)
  | 11 => ("BowlerDentsModel", "at", "I", false)
  | 12 => ("BowlerDentsModel", "well", "Z", false)
  | 13 => ("BowlerDentsModel", "within", "I", false)
  | 14 => ("BowlerDentsModel", "sum", "I", false)
  | 15 => ("BowlerDentsModel", "rub", "I", false)
  | 16 => ("BowlerDentsModel", "names", "[I", true)
  | 17 => ("BowlerDentsModel", "letters", "[C", true)
  | 18 => ("BowlerDentsModel", "begins", "[C", true)
  | 19 => ("BowlerDentsModel", "words", "[C", true)
  | 20 => ("BowlerDentsModel", "covers", "[I", true)
  | 21 => ("BowlerDentsModel", "hurts", "[I", true)
  | 22 => ("BowlerDentsModel", "above", "[I", true)
  | 23 => ("BowlerDentsModel", "bodies", "[I", true)
  | 24 => ("BowlerDentsModel", "trace", "[I", true)
  | 25 => ("BowlerDentsModel", "ran", "I", false)
  | 26 => ("BowlerDentsModel", "sorts", "[I", true)
  | 27 => ("BowlerDentsModel", "lengths", "[I", true)
  | 28 => ("BowlerDentsModel", "items", "[J", true)
  | _ => ("BowlerDentsModel", "moved", "[J", true)
def tyX10 : Nat → FieldType := fun k => match k with
  | 0 => .array .int
  | 1 => .array .int
  | 2 => .array .int
  | 3 => .boolean
  | 4 => .array .int
  | 5 => .int
  | 6 => .array .int
  | 7 => .array .int
  | 8 => .int
  | 9 => .array .int
  | 10 => .int
  | 11 => .int
  | 12 => .boolean
  | 13 => .int
  | 14 => .int
  | 15 => .int
  | 16 => .array .int
  | 17 => .array .char
  | 18 => .array .char
  | 19 => .array .char
  | 20 => .array .int
  | 21 => .array .int
  | 22 => .array .int
  | 23 => .array .int
  | 24 => .array .int
  | 25 => .int
  | 26 => .array .int
  | 27 => .array .int
  | 28 => .array .long
  | _ => .array .long
theorem nmX10 : ∀ a, a < 30 → ∀ b, b < 30 → a ≠ b → (TX10 a).2.1 ≠ (TX10 b).2.1 := by decide +kernel
theorem tyX10_ok : ∀ k, k < 30 → parseFieldDescriptor (TX10 k).2.2.1 = some (tyX10 k) := by decide +kernel
abbrev cX10_init : ByteArray := prog_12_method_1_code
def yX10_init : MethodName := ⟨RX10, "<init>", "()V"⟩
abbrev cX10_isIn : ByteArray := prog_12_method_2_code
def yX10_isIn : MethodName := ⟨RX10, "isIn", "(III)Z"⟩
abbrev cX10_move : ByteArray := prog_12_method_3_code
def yX10_move : MethodName := ⟨RX10, "move", "([I[I)V"⟩
abbrev cX10_image : ByteArray := prog_12_method_4_code
def yX10_image : MethodName := ⟨RX10, "image", "()I"⟩
abbrev cX10_undo : ByteArray := prog_12_method_5_code
def yX10_undo : MethodName := ⟨RX10, "undo", "()I"⟩
abbrev cX10_isOne : ByteArray := prog_12_method_6_code
def yX10_isOne : MethodName := ⟨RX10, "isOne", "(I)Z"⟩
abbrev cX10_isSaying : ByteArray := prog_12_method_7_code
def yX10_isSaying : MethodName := ⟨RX10, "isSaying", "(I)Z"⟩
abbrev cX10_orNever : ByteArray := prog_12_method_8_code
def yX10_orNever : MethodName := ⟨RX10, "orNever", "(I)I"⟩
abbrev cX10_one : ByteArray := prog_12_method_9_code
def yX10_one : MethodName := ⟨RX10, "one", "(II)I"⟩
abbrev cX10_change : ByteArray := prog_12_method_10_code
def yX10_change : MethodName := ⟨RX10, "change", "(III)I"⟩
abbrev cX10_word : ByteArray := prog_12_method_11_code
def yX10_word : MethodName := ⟨RX10, "word", "(II)I"⟩
abbrev cX10_aims : ByteArray := prog_12_method_12_code
def yX10_aims : MethodName := ⟨RX10, "aims", "(II)I"⟩
abbrev cX10_wearer : ByteArray := prog_12_method_13_code
def yX10_wearer : MethodName := ⟨RX10, "wearer", "(III)I"⟩
abbrev cX10_of : ByteArray := prog_12_method_14_code
def yX10_of : MethodName := ⟨RX10, "of", "(II)I"⟩
abbrev cX10_saying : ByteArray := prog_12_method_15_code
def yX10_saying : MethodName := ⟨RX10, "saying", "(II)I"⟩
abbrev cX10_phrase : ByteArray := prog_12_method_16_code
def yX10_phrase : MethodName := ⟨RX10, "phrase", "(II)I"⟩
abbrev cX10_aim : ByteArray := prog_12_method_17_code
def yX10_aim : MethodName := ⟨RX10, "aim", "(II)I"⟩
abbrev cX10_mend : ByteArray := prog_12_method_18_code
def yX10_mend : MethodName := ⟨RX10, "mend", "(II)I"⟩
abbrev cX10_row : ByteArray := prog_12_method_19_code
def yX10_row : MethodName := ⟨RX10, "row", "(III)I"⟩
abbrev cX10_feed : ByteArray := prog_12_method_20_code
def yX10_feed : MethodName := ⟨RX10, "feed", "(I)I"⟩
abbrev cX10_isAt : ByteArray := prog_12_method_21_code
def yX10_isAt : MethodName := ⟨RX10, "isAt", "(I)Z"⟩
abbrev cX10_takes : ByteArray := prog_12_method_22_code
def yX10_takes : MethodName := ⟨RX10, "takes", "(I)V"⟩
abbrev cX10_isDigit : ByteArray := prog_12_method_23_code
def yX10_isDigit : MethodName := ⟨RX10, "isDigit", "()Z"⟩
abbrev cX10_number : ByteArray := prog_12_method_24_code
def yX10_number : MethodName := ⟨RX10, "number", "()I"⟩
abbrev cX10_test : ByteArray := prog_12_method_25_code
def yX10_test : MethodName := ⟨RX10, "test", "()Z"⟩
abbrev cX10_factor : ByteArray := prog_12_method_26_code
def yX10_factor : MethodName := ⟨RX10, "factor", "()Z"⟩
abbrev cX10_both : ByteArray := prog_12_method_27_code
def yX10_both : MethodName := ⟨RX10, "both", "()Z"⟩
abbrev cX10_any : ByteArray := prog_12_method_28_code
def yX10_any : MethodName := ⟨RX10, "any", "()Z"⟩
abbrev cX10_clause : ByteArray := prog_12_method_29_code
def yX10_clause : MethodName := ⟨RX10, "clause", "()V"⟩
abbrev cX10_readAll : ByteArray := prog_12_method_30_code
def yX10_readAll : MethodName := ⟨RX10, "readAll", "()Z"⟩
abbrev cX10_readFor : ByteArray := prog_12_method_31_code
def yX10_readFor : MethodName := ⟨RX10, "readFor", "(II)V"⟩
abbrev cX10_city : ByteArray := prog_12_method_32_code
def yX10_city : MethodName := ⟨RX10, "city", "()I"⟩
abbrev cX10_guard : ByteArray := prog_12_method_33_code
def yX10_guard : MethodName := ⟨RX10, "guard", "(II)I"⟩
abbrev cX10_rubNow : ByteArray := prog_12_method_34_code
def yX10_rubNow : MethodName := ⟨RX10, "rubNow", "()I"⟩
abbrev cX10_isStriking : ByteArray := prog_12_method_35_code
def yX10_isStriking : MethodName := ⟨RX10, "isStriking", "(I)Z"⟩
abbrev cX10_strikes : ByteArray := prog_12_method_36_code
def yX10_strikes : MethodName := ⟨RX10, "strikes", "(II)V"⟩
abbrev cX10_day : ByteArray := prog_12_method_37_code
def yX10_day : MethodName := ⟨RX10, "day", "()V"⟩
abbrev cX10_days : ByteArray := prog_12_method_38_code
def yX10_days : MethodName := ⟨RX10, "days", "(I)V"⟩
abbrev cX10_all : ByteArray := prog_12_method_39_code
def yX10_all : MethodName := ⟨RX10, "all", "(I)I"⟩
abbrev cX10_sore : ByteArray := prog_12_method_40_code
def yX10_sore : MethodName := ⟨RX10, "sore", "(I)I"⟩
abbrev cX10_told : ByteArray := prog_12_method_41_code
def yX10_told : MethodName := ⟨RX10, "told", "(I)I"⟩
abbrev cX10_pass : ByteArray := prog_12_method_42_code
def yX10_pass : MethodName := ⟨RX10, "pass", "(I)I"⟩
abbrev cX10_on : ByteArray := prog_12_method_43_code
def yX10_on : MethodName := ⟨RX10, "on", "(II)I"⟩
abbrev cX10_hurtBehind : ByteArray := prog_12_method_44_code
def yX10_hurtBehind : MethodName := ⟨RX10, "hurtBehind", "(I)I"⟩
abbrev cX10_many : ByteArray := prog_12_method_45_code
def yX10_many : MethodName := ⟨RX10, "many", "(I)I"⟩
abbrev cX10_mends : ByteArray := prog_12_method_46_code
def yX10_mends : MethodName := ⟨RX10, "mends", "(I)I"⟩
abbrev cX10_swap : ByteArray := prog_12_method_47_code
def yX10_swap : MethodName := ⟨RX10, "swap", "(II)V"⟩
abbrev cX10_changes : ByteArray := prog_12_method_48_code
def yX10_changes : MethodName := ⟨RX10, "changes", "(I)I"⟩
abbrev cX10_aimOf : ByteArray := prog_12_method_49_code
def yX10_aimOf : MethodName := ⟨RX10, "aimOf", "(II)I"⟩
abbrev cX10_best : ByteArray := prog_12_method_50_code
def yX10_best : MethodName := ⟨RX10, "best", "(II)I"⟩
abbrev cX10_comes : ByteArray := prog_12_method_51_code
def yX10_comes : MethodName := ⟨RX10, "comes", "(IIII)I"⟩
abbrev cX10_see : ByteArray := prog_12_method_52_code
def yX10_see : MethodName := ⟨RX10, "see", "(III)I"⟩
abbrev cX10_ache : ByteArray := prog_12_method_53_code
def yX10_ache : MethodName := ⟨RX10, "ache", "(IIZ)I"⟩
abbrev cX10_isAllSo : ByteArray := prog_12_method_54_code
def yX10_isAllSo : MethodName := ⟨RX10, "isAllSo", "(I)Z"⟩
abbrev cX10_fits : ByteArray := prog_12_method_55_code
def yX10_fits : MethodName := ⟨RX10, "fits", "(IIIIZ)I"⟩
abbrev cX10_covers : ByteArray := prog_12_method_56_code
def yX10_covers : MethodName := ⟨RX10, "covers", "(IZ)I"⟩
abbrev cX10_can : ByteArray := prog_12_method_57_code
def yX10_can : MethodName := ⟨RX10, "can", "(II)I"⟩
abbrev cX10_fraction : ByteArray := prog_12_method_58_code
def yX10_fraction : MethodName := ⟨RX10, "fraction", "(JJI)J"⟩
abbrev cX10_odds : ByteArray := prog_12_method_59_code
def yX10_odds : MethodName := ⟨RX10, "odds", "(IIII)J"⟩
abbrev cX10_mean : ByteArray := prog_12_method_60_code
def yX10_mean : MethodName := ⟨RX10, "mean", "(II)J"⟩
abbrev cX10_plan : ByteArray := prog_12_method_61_code
def yX10_plan : MethodName := ⟨RX10, "plan", "(II)I"⟩
abbrev cX10_ends : ByteArray := prog_12_method_62_code
def yX10_ends : MethodName := ⟨RX10, "ends", "(I)I"⟩
abbrev cX10_book : ByteArray := prog_12_method_63_code
def yX10_book : MethodName := ⟨RX10, "book", "(II)I"⟩
abbrev cX10_looked : ByteArray := prog_12_method_64_code
def yX10_looked : MethodName := ⟨RX10, "looked", "()I"⟩
abbrev cX10_body : ByteArray := prog_12_method_65_code
def yX10_body : MethodName := ⟨RX10, "body", "(I)I"⟩
abbrev cX10_begin : ByteArray := prog_12_method_66_code
def yX10_begin : MethodName := ⟨RX10, "begin", "(III)I"⟩
abbrev cX10_byKind : ByteArray := prog_12_method_67_code
def yX10_byKind : MethodName := ⟨RX10, "byKind", "(IIII)I"⟩
abbrev cX10_act : ByteArray := prog_12_method_68_code
def yX10_act : MethodName := ⟨RX10, "act", "(III)I"⟩
abbrev cX10_trace : ByteArray := prog_12_method_69_code
def yX10_trace : MethodName := ⟨RX10, "trace", "(I)I"⟩
abbrev cX10_taken : ByteArray := prog_12_method_70_code
def yX10_taken : MethodName := ⟨RX10, "taken", "(II)I"⟩
abbrev cX10_count : ByteArray := prog_12_method_71_code
def yX10_count : MethodName := ⟨RX10, "count", "(I)I"⟩
abbrev cX10_isTape : ByteArray := prog_12_method_72_code
def yX10_isTape : MethodName := ⟨RX10, "isTape", "(I)Z"⟩
abbrev cX10_tape : ByteArray := prog_12_method_73_code
def yX10_tape : MethodName := ⟨RX10, "tape", "(III)I"⟩
abbrev cX10_item : ByteArray := prog_12_method_74_code
def yX10_item : MethodName := ⟨RX10, "item", "(IIJ)I"⟩
abbrev cX10_read : ByteArray := prog_12_method_75_code
def yX10_read : MethodName := ⟨RX10, "read", "(II)J"⟩
abbrev cX10_shift : ByteArray := prog_12_method_76_code
def yX10_shift : MethodName := ⟨RX10, "shift", "(IIIII)I"⟩
abbrev cX10_judge : ByteArray := prog_12_method_77_code
def yX10_judge : MethodName := ⟨RX10, "judge", "(II)I"⟩
def RJ11 : String := "java/lang/Character"
def TJ11 : u_T := fun k => match k with
  | _ => ("", "", "", false)
def tyJ11 : Nat → FieldType := fun k => match k with
  | _ => .int
abbrev cJ11_isValidCodePoint_9a6ad : ByteArray := prog_13_method_11_code
def yJ11_isValidCodePoint_9a6ad : MethodName := ⟨RJ11, "isValidCodePoint", "(I)Z"⟩
abbrev cJ11_highSurrogate_5068e : ByteArray := prog_13_method_28_code
def yJ11_highSurrogate_5068e : MethodName := ⟨RJ11, "highSurrogate", "(I)C"⟩
abbrev cJ11_lowSurrogate_5068e : ByteArray := prog_13_method_29_code
def yJ11_lowSurrogate_5068e : MethodName := ⟨RJ11, "lowSurrogate", "(I)C"⟩
def RJ9 : String := "java/lang/Math"
def TJ9 : u_T := fun k => match k with
  | _ => ("", "", "", false)
def tyJ9 : Nat → FieldType := fun k => match k with
  | _ => .int
abbrev cJ9_max_7cf53 : ByteArray := prog_14_method_65_code
def yJ9_max_7cf53 : MethodName := ⟨RJ9, "max", "(II)I"⟩
abbrev cJ9_min_7cf53 : ByteArray := prog_14_method_69_code
def yJ9_min_7cf53 : MethodName := ⟨RJ9, "min", "(II)I"⟩
def RJ0 : String := "java/lang/String"
def TJ0 : u_T := fun k => match k with
  | _ => ("", "", "", false)
def tyJ0 : Nat → FieldType := fun k => match k with
  | _ => .int
abbrev cJ0_length_8abf5 : ByteArray := prog_15_method_54_code
def yJ0_length_8abf5 : MethodName := ⟨RJ0, "length", "()I"⟩
abbrev cJ0_charAt_5068e : ByteArray := prog_15_method_56_code
def yJ0_charAt_5068e : MethodName := ⟨RJ0, "charAt", "(I)C"⟩
abbrev cJ0_indexOf_0f7a4 : ByteArray := prog_15_method_79_code
def yJ0_indexOf_0f7a4 : MethodName := ⟨RJ0, "indexOf", "(I)I"⟩
abbrev cJ0_indexOf_7cf53 : ByteArray := prog_15_method_80_code
def yJ0_indexOf_7cf53 : MethodName := ⟨RJ0, "indexOf", "(II)I"⟩
abbrev cJ0_coder_7d493 : ByteArray := prog_15_method_152_code
def yJ0_coder_7d493 : MethodName := ⟨RJ0, "coder", "()B"⟩
abbrev cJ0_isLatin1_aae02 : ByteArray := prog_15_method_154_code
def yJ0_isLatin1_aae02 : MethodName := ⟨RJ0, "isLatin1", "()Z"⟩
abbrev cJ0_checkIndex_df160 : ByteArray := prog_15_method_155_code
def yJ0_checkIndex_df160 : MethodName := ⟨RJ0, "checkIndex", "(II)V"⟩
abbrev cJ0_checkBoundsBeginEnd_23922 : ByteArray := prog_15_method_158_code
def yJ0_checkBoundsBeginEnd_23922 : MethodName := ⟨RJ0, "checkBoundsBeginEnd", "(III)V"⟩
def RJ1 : String := "java/lang/StringLatin1"
def TJ1 : u_T := fun k => match k with
  | _ => ("", "", "", false)
def tyJ1 : Nat → FieldType := fun k => match k with
  | _ => .int
abbrev cJ1_charAt_3b067 : ByteArray := prog_16_method_2_code
def yJ1_charAt_3b067 : MethodName := ⟨RJ1, "charAt", "([BI)C"⟩
abbrev cJ1_canEncode_9a6ad : ByteArray := prog_16_method_4_code
def yJ1_canEncode_9a6ad : MethodName := ⟨RJ1, "canEncode", "(I)Z"⟩
abbrev cJ1_indexOf_4cfef : ByteArray := prog_16_method_22_code
def yJ1_indexOf_4cfef : MethodName := ⟨RJ1, "indexOf", "([BIII)I"⟩
abbrev cJ1_indexOfChar_4cfef : ByteArray := prog_16_method_23_code
def yJ1_indexOfChar_4cfef : MethodName := ⟨RJ1, "indexOfChar", "([BIII)I"⟩
def RJ2 : String := "java/lang/StringUTF16"
def TJ2 : u_T := fun k => match k with
  | _ => ("", "", "", false)
def tyJ2 : Nat → FieldType := fun k => match k with
  | _ => .int
abbrev cJ2_getChar_3b067 : ByteArray := prog_17_method_5_code
def yJ2_getChar_3b067 : MethodName := ⟨RJ2, "getChar", "([BI)C"⟩
abbrev cJ2_length_9d52b : ByteArray := prog_17_method_6_code
def yJ2_length_9d52b : MethodName := ⟨RJ2, "length", "([B)I"⟩
abbrev cJ2_indexOf_4cfef : ByteArray := prog_17_method_40_code
def yJ2_indexOf_4cfef : MethodName := ⟨RJ2, "indexOf", "([BIII)I"⟩
abbrev cJ2_indexOfChar_4cfef : ByteArray := prog_17_method_47_code
def yJ2_indexOfChar_4cfef : MethodName := ⟨RJ2, "indexOfChar", "([BIII)I"⟩
abbrev cJ2_indexOfCharUnsafe_4cfef : ByteArray := prog_17_method_48_code
def yJ2_indexOfCharUnsafe_4cfef : MethodName := ⟨RJ2, "indexOfCharUnsafe", "([BIII)I"⟩
abbrev cJ2_indexOfSupplementary_4cfef : ByteArray := prog_17_method_49_code
def yJ2_indexOfSupplementary_4cfef : MethodName := ⟨RJ2, "indexOfSupplementary", "([BIII)I"⟩
abbrev cJ2_charAt_3b067 : ByteArray := prog_17_method_83_code
def yJ2_charAt_3b067 : MethodName := ⟨RJ2, "charAt", "([BI)C"⟩
abbrev cJ2_checkIndex_2214a : ByteArray := prog_17_method_91_code
def yJ2_checkIndex_2214a : MethodName := ⟨RJ2, "checkIndex", "(I[B)V"⟩
abbrev cJ2_checkBoundsBeginEnd_d044e : ByteArray := prog_17_method_93_code
def yJ2_checkBoundsBeginEnd_d044e : MethodName := ⟨RJ2, "checkBoundsBeginEnd", "(II[B)V"⟩
def RJ10 : String := "java/lang/System"
def TJ10 : u_T := fun k => match k with
  | _ => ("", "", "", false)
def tyJ10 : Nat → FieldType := fun k => match k with
  | _ => .int
def RJ3 : String := "jdk/internal/util/Preconditions"
def TJ3 : u_T := fun k => match k with
  | _ => ("", "", "", false)
def tyJ3 : Nat → FieldType := fun k => match k with
  | _ => .int
abbrev cJ3_checkIndex_8e157 : ByteArray := prog_19_method_11_code
def yJ3_checkIndex_8e157 : MethodName := ⟨RJ3, "checkIndex", "(IILjava/util/function/BiFunction;)I"⟩
abbrev cJ3_checkFromToIndex_8c36e : ByteArray := prog_19_method_12_code
def yJ3_checkFromToIndex_8c36e : MethodName := ⟨RJ3, "checkFromToIndex", "(IIILjava/util/function/BiFunction;)I"⟩
def RL : String := "BowlerDentsLaw"
abbrev cL_law : ByteArray := code
abbrev vwCl : List vw_C := [(RX0, TX0, 5), (RX1, TX1, 4), (RX2, TX2, 3), (RX3, TX3, 4), (RX4, TX4, 3), (RX5, TX5, 3), (RX6, TX6, 2), (RX7, TX7, 7), (RX8, TX8, 6), (RX9, TX9, 11), (RX10, TX10, 30)]
