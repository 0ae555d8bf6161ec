theorem dX10_told_90 : decode cX10_told 90 = .ok (.ior, 1) := by decide +kernel
theorem dX10_told_91 : decode cX10_told 91 = .ok (.istore_n 2, 1) := by decide +kernel
theorem dX10_told_92 : decode cX10_told 92 = .ok (.iinc 3 1, 3) := by decide +kernel
theorem dX10_told_95 : decode cX10_told 95 = .ok (.goto (-32), 3) := by decide +kernel
theorem dX10_told_98 : decode cX10_told 98 = .ok (.iload_n 2, 1) := by decide +kernel
theorem dX10_told_99 : decode cX10_told 99 = .ok (.ireturn, 1) := by decide +kernel
theorem dX10_told_100 : decode cX10_told 100 = .ok (.iconst (-1), 1) := by decide +kernel
theorem dX10_told_101 : decode cX10_told 101 = .ok (.ireturn, 1) := by decide +kernel
theorem dX10_pass_0 : decode cX10_pass 0 = .ok (.iload_n 1, 1) := by decide +kernel
theorem dX10_pass_1 : decode cX10_pass 1 = .ok (.iconst 0, 1) := by decide +kernel
theorem dX10_pass_2 : decode cX10_pass 2 = .ok (.bipush 60, 2) := by decide +kernel
theorem dX10_pass_4 : decode cX10_pass 4 = .ok (.invokestatic 82, 3) := by decide +kernel
theorem dX10_pass_7 : decode cX10_pass 7 = .ok (.ifCond .ne 6, 3) := by decide +kernel
theorem dX10_pass_10 : decode cX10_pass 10 = .ok (.bipush (-2), 2) := by decide +kernel
theorem dX10_pass_12 : decode cX10_pass 12 = .ok (.ireturn, 1) := by decide +kernel
theorem dX10_pass_13 : decode cX10_pass 13 = .ok (.aload_n 0, 1) := by decide +kernel
theorem dX10_pass_14 : decode cX10_pass 14 = .ok (.getfield 9, 3) := by decide +kernel
theorem dX10_pass_17 : decode cX10_pass 17 = .ok (.bipush 80, 2) := by decide +kernel
theorem dX10_pass_19 : decode cX10_pass 19 = .ok (.iaload, 1) := by decide +kernel
theorem dX10_pass_20 : decode cX10_pass 20 = .ok (.iload_n 1, 1) := by decide +kernel
theorem dX10_pass_21 : decode cX10_pass 21 = .ok (.iadd, 1) := by decide +kernel
theorem dX10_pass_22 : decode cX10_pass 22 = .ok (.sipush 9999, 3) := by decide +kernel
theorem dX10_pass_25 : decode cX10_pass 25 = .ok (.if_icmp .le 6, 3) := by decide +kernel
theorem dX10_pass_28 : decode cX10_pass 28 = .ok (.bipush (-3), 2) := by decide +kernel
theorem dX10_pass_30 : decode cX10_pass 30 = .ok (.ireturn, 1) := by decide +kernel
theorem dX10_pass_31 : decode cX10_pass 31 = .ok (.aload_n 0, 1) := by decide +kernel
theorem dX10_pass_32 : decode cX10_pass 32 = .ok (.iload_n 1, 1) := by decide +kernel
theorem dX10_pass_33 : decode cX10_pass 33 = .ok (.invokevirtual 205, 3) := by decide +kernel
theorem dX10_pass_36 : decode cX10_pass 36 = .ok (.aload_n 0, 1) := by decide +kernel
theorem dX10_pass_37 : decode cX10_pass 37 = .ok (.getfield 9, 3) := by decide +kernel
theorem dX10_pass_40 : decode cX10_pass 40 = .ok (.bipush 80, 2) := by decide +kernel
theorem dX10_pass_42 : decode cX10_pass 42 = .ok (.iaload, 1) := by decide +kernel
theorem dX10_pass_43 : decode cX10_pass 43 = .ok (.ireturn, 1) := by decide +kernel
theorem dX10_on_0 : decode cX10_on 0 = .ok (.iload_n 2, 1) := by decide +kernel
theorem dX10_on_1 : decode cX10_on 1 = .ok (.ifCond .eq 38, 3) := by decide +kernel
theorem dX10_on_4 : decode cX10_on 4 = .ok (.aload_n 0, 1) := by decide +kernel
theorem dX10_on_5 : decode cX10_on 5 = .ok (.iload_n 2, 1) := by decide +kernel
theorem dX10_on_6 : decode cX10_on 6 = .ok (.bipush 10, 2) := by decide +kernel
theorem dX10_on_8 : decode cX10_on 8 = .ok (.isub, 1) := by decide +kernel
theorem dX10_on_9 : decode cX10_on 9 = .ok (.invokevirtual 97, 3) := by decide +kernel
theorem dX10_on_12 : decode cX10_on 12 = .ok (.ifCond .ne 27, 3) := by decide +kernel
theorem dX10_on_15 : decode cX10_on 15 = .ok (.aload_n 0, 1) := by decide +kernel
theorem dX10_on_16 : decode cX10_on 16 = .ok (.iload_n 2, 1) := by decide +kernel
theorem dX10_on_17 : decode cX10_on 17 = .ok (.bipush 20, 2) := by decide +kernel
theorem dX10_on_19 : decode cX10_on 19 = .ok (.isub, 1) := by decide +kernel
theorem dX10_on_20 : decode cX10_on 20 = .ok (.invokevirtual 97, 3) := by decide +kernel
theorem dX10_on_23 : decode cX10_on 23 = .ok (.ifCond .ne 16, 3) := by decide +kernel
theorem dX10_on_26 : decode cX10_on 26 = .ok (.aload_n 0, 1) := by decide +kernel
theorem dX10_on_27 : decode cX10_on 27 = .ok (.iload_n 2, 1) := by decide +kernel
theorem dX10_on_28 : decode cX10_on 28 = .ok (.bipush 30, 2) := by decide +kernel
theorem dX10_on_30 : decode cX10_on 30 = .ok (.isub, 1) := by decide +kernel
theorem dX10_on_31 : decode cX10_on 31 = .ok (.invokevirtual 97, 3) := by decide +kernel
theorem dX10_on_34 : decode cX10_on 34 = .ok (.ifCond .ne 5, 3) := by decide +kernel
theorem dX10_on_37 : decode cX10_on 37 = .ok (.iconst (-1), 1) := by decide +kernel
theorem dX10_on_38 : decode cX10_on 38 = .ok (.ireturn, 1) := by decide +kernel
theorem dX10_on_39 : decode cX10_on 39 = .ok (.iload_n 1, 1) := by decide +kernel
theorem dX10_on_40 : decode cX10_on 40 = .ok (.iconst 0, 1) := by decide +kernel
theorem dX10_on_41 : decode cX10_on 41 = .ok (.bipush 60, 2) := by decide +kernel
theorem dX10_on_43 : decode cX10_on 43 = .ok (.invokestatic 82, 3) := by decide +kernel
theorem dX10_on_46 : decode cX10_on 46 = .ok (.ifCond .ne 6, 3) := by decide +kernel
theorem dX10_on_49 : decode cX10_on 49 = .ok (.bipush (-2), 2) := by decide +kernel
theorem dX10_on_51 : decode cX10_on 51 = .ok (.ireturn, 1) := by decide +kernel
theorem dX10_on_52 : decode cX10_on 52 = .ok (.aload_n 0, 1) := by decide +kernel
theorem dX10_on_53 : decode cX10_on 53 = .ok (.getfield 9, 3) := by decide +kernel
theorem dX10_on_56 : decode cX10_on 56 = .ok (.aload_n 0, 1) := by decide +kernel
theorem dX10_on_57 : decode cX10_on 57 = .ok (.getfield 15, 3) := by decide +kernel
theorem dX10_on_60 : decode cX10_on 60 = .ok (.invokestatic 78, 3) := by decide +kernel
theorem dX10_on_63 : decode cX10_on 63 = .ok (.aload_n 0, 1) := by decide +kernel
theorem dX10_on_64 : decode cX10_on 64 = .ok (.iload_n 1, 1) := by decide +kernel
theorem dX10_on_65 : decode cX10_on 65 = .ok (.invokevirtual 205, 3) := by decide +kernel
theorem dX10_on_68 : decode cX10_on 68 = .ok (.iload_n 2, 1) := by decide +kernel
theorem dX10_on_69 : decode cX10_on 69 = .ok (.ifCond .ne 11, 3) := by decide +kernel
theorem dX10_on_72 : decode cX10_on 72 = .ok (.aload_n 0, 1) := by decide +kernel
theorem dX10_on_73 : decode cX10_on 73 = .ok (.iconst 4, 1) := by decide +kernel
theorem dX10_on_74 : decode cX10_on 74 = .ok (.invokevirtual 202, 3) := by decide +kernel
theorem dX10_on_77 : decode cX10_on 77 = .ok (.goto 17, 3) := by decide +kernel
theorem dX10_on_80 : decode cX10_on 80 = .ok (.aload_n 0, 1) := by decide +kernel
theorem dX10_on_81 : decode cX10_on 81 = .ok (.iload_n 2, 1) := by decide +kernel
theorem dX10_on_82 : decode cX10_on 82 = .ok (.bipush 10, 2) := by decide +kernel
theorem dX10_on_84 : decode cX10_on 84 = .ok (.irem, 1) := by decide +kernel
theorem dX10_on_85 : decode cX10_on 85 = .ok (.iload_n 2, 1) := by decide +kernel
theorem dX10_on_86 : decode cX10_on 86 = .ok (.bipush 10, 2) := by decide +kernel
theorem dX10_on_88 : decode cX10_on 88 = .ok (.idiv, 1) := by decide +kernel
theorem dX10_on_89 : decode cX10_on 89 = .ok (.iconst 1, 1) := by decide +kernel
theorem dX10_on_90 : decode cX10_on 90 = .ok (.iadd, 1) := by decide +kernel
theorem dX10_on_91 : decode cX10_on 91 = .ok (.invokevirtual 86, 3) := by decide +kernel
theorem dX10_on_94 : decode cX10_on 94 = .ok (.istore_n 3, 1) := by decide +kernel
theorem dX10_on_95 : decode cX10_on 95 = .ok (.aload_n 0, 1) := by decide +kernel
theorem dX10_on_96 : decode cX10_on 96 = .ok (.getfield 15, 3) := by decide +kernel
theorem dX10_on_99 : decode cX10_on 99 = .ok (.aload_n 0, 1) := by decide +kernel
theorem dX10_on_100 : decode cX10_on 100 = .ok (.getfield 9, 3) := by decide +kernel
theorem dX10_on_103 : decode cX10_on 103 = .ok (.invokestatic 78, 3) := by decide +kernel
theorem dX10_on_106 : decode cX10_on 106 = .ok (.iload_n 3, 1) := by decide +kernel
theorem dX10_on_107 : decode cX10_on 107 = .ok (.ireturn, 1) := by decide +kernel
theorem dX10_hurtBehind_0 : decode cX10_hurtBehind 0 = .ok (.aload_n 0, 1) := by decide +kernel
theorem dX10_hurtBehind_1 : decode cX10_hurtBehind 1 = .ok (.getfield 9, 3) := by decide +kernel
theorem dX10_hurtBehind_4 : decode cX10_hurtBehind 4 = .ok (.aload_n 0, 1) := by decide +kernel
theorem dX10_hurtBehind_5 : decode cX10_hurtBehind 5 = .ok (.getfield 15, 3) := by decide +kernel
theorem dX10_hurtBehind_8 : decode cX10_hurtBehind 8 = .ok (.invokestatic 78, 3) := by decide +kernel
theorem dX10_hurtBehind_11 : decode cX10_hurtBehind 11 = .ok (.aload_n 0, 1) := by decide +kernel
theorem dX10_hurtBehind_12 : decode cX10_hurtBehind 12 = .ok (.iload_n 1, 1) := by decide +kernel
theorem dX10_hurtBehind_13 : decode cX10_hurtBehind 13 = .ok (.invokevirtual 205, 3) := by decide +kernel
theorem dX10_hurtBehind_16 : decode cX10_hurtBehind 16 = .ok (.aload_n 0, 1) := by decide +kernel
theorem dX10_hurtBehind_17 : decode cX10_hurtBehind 17 = .ok (.iconst 4, 1) := by decide +kernel
theorem dX10_hurtBehind_18 : decode cX10_hurtBehind 18 = .ok (.invokevirtual 202, 3) := by decide +kernel
theorem dX10_hurtBehind_21 : decode cX10_hurtBehind 21 = .ok (.istore_n 2, 1) := by decide +kernel
theorem dX10_hurtBehind_22 : decode cX10_hurtBehind 22 = .ok (.aload_n 0, 1) := by decide +kernel
theorem dX10_hurtBehind_23 : decode cX10_hurtBehind 23 = .ok (.getfield 15, 3) := by decide +kernel
theorem dX10_hurtBehind_26 : decode cX10_hurtBehind 26 = .ok (.aload_n 0, 1) := by decide +kernel
theorem dX10_hurtBehind_27 : decode cX10_hurtBehind 27 = .ok (.getfield 9, 3) := by decide +kernel
theorem dX10_hurtBehind_30 : decode cX10_hurtBehind 30 = .ok (.invokestatic 78, 3) := by decide +kernel
theorem dX10_hurtBehind_33 : decode cX10_hurtBehind 33 = .ok (.iload_n 2, 1) := by decide +kernel
theorem dX10_hurtBehind_34 : decode cX10_hurtBehind 34 = .ok (.ireturn, 1) := by decide +kernel
theorem dX10_many_0 : decode cX10_many 0 = .ok (.iconst 0, 1) := by decide +kernel
theorem dX10_many_1 : decode cX10_many 1 = .ok (.istore_n 1, 1) := by decide +kernel
theorem dX10_many_2 : decode cX10_many 2 = .ok (.iconst 0, 1) := by decide +kernel
theorem dX10_many_3 : decode cX10_many 3 = .ok (.istore_n 2, 1) := by decide +kernel
theorem dX10_many_4 : decode cX10_many 4 = .ok (.iload_n 2, 1) := by decide +kernel
theorem dX10_many_5 : decode cX10_many 5 = .ok (.bipush 6, 2) := by decide +kernel
theorem dX10_many_7 : decode cX10_many 7 = .ok (.if_icmp .ge 17, 3) := by decide +kernel
theorem dX10_many_10 : decode cX10_many 10 = .ok (.iload_n 1, 1) := by decide +kernel
theorem dX10_many_11 : decode cX10_many 11 = .ok (.iload_n 0, 1) := by decide +kernel
theorem dX10_many_12 : decode cX10_many 12 = .ok (.iload_n 2, 1) := by decide +kernel
theorem dX10_many_13 : decode cX10_many 13 = .ok (.ishr, 1) := by decide +kernel
theorem dX10_many_14 : decode cX10_many 14 = .ok (.iconst 1, 1) := by decide +kernel
theorem dX10_many_15 : decode cX10_many 15 = .ok (.iand, 1) := by decide +kernel
theorem dX10_many_16 : decode cX10_many 16 = .ok (.iadd, 1) := by decide +kernel
theorem dX10_many_17 : decode cX10_many 17 = .ok (.istore_n 1, 1) := by decide +kernel
theorem dX10_many_18 : decode cX10_many 18 = .ok (.iinc 2 1, 3) := by decide +kernel
theorem dX10_many_21 : decode cX10_many 21 = .ok (.goto (-17), 3) := by decide +kernel
theorem dX10_many_24 : decode cX10_many 24 = .ok (.iload_n 1, 1) := by decide +kernel
theorem dX10_many_25 : decode cX10_many 25 = .ok (.ireturn, 1) := by decide +kernel
theorem dX10_mends_0 : decode cX10_mends 0 = .ok (.aload_n 0, 1) := by decide +kernel
theorem dX10_mends_1 : decode cX10_mends 1 = .ok (.iconst 4, 1) := by decide +kernel
theorem dX10_mends_2 : decode cX10_mends 2 = .ok (.invokevirtual 202, 3) := by decide +kernel
theorem dX10_mends_5 : decode cX10_mends 5 = .ok (.istore_n 2, 1) := by decide +kernel
theorem dX10_mends_6 : decode cX10_mends 6 = .ok (.bipush (-5), 2) := by decide +kernel
theorem dX10_mends_8 : decode cX10_mends 8 = .ok (.istore_n 3, 1) := by decide +kernel
theorem dX10_mends_9 : decode cX10_mends 9 = .ok (.iconst 0, 1) := by decide +kernel
theorem dX10_mends_10 : decode cX10_mends 10 = .ok (.istore 4, 2) := by decide +kernel
theorem dX10_mends_12 : decode cX10_mends 12 = .ok (.iload 4, 2) := by decide +kernel
theorem dX10_mends_14 : decode cX10_mends 14 = .ok (.iconst 1, 1) := by decide +kernel
theorem dX10_mends_15 : decode cX10_mends 15 = .ok (.aload_n 0, 1) := by decide +kernel
theorem dX10_mends_16 : decode cX10_mends 16 = .ok (.getfield 9, 3) := by decide +kernel
theorem dX10_mends_19 : decode cX10_mends 19 = .ok (.bipush 78, 2) := by decide +kernel
theorem dX10_mends_21 : decode cX10_mends 21 = .ok (.iaload, 1) := by decide +kernel
theorem dX10_mends_22 : decode cX10_mends 22 = .ok (.ishl, 1) := by decide +kernel
theorem dX10_mends_23 : decode cX10_mends 23 = .ok (.if_icmp .ge 137, 3) := by decide +kernel
theorem dX10_mends_26 : decode cX10_mends 26 = .ok (.iload_n 3, 1) := by decide +kernel
theorem dX10_mends_27 : decode cX10_mends 27 = .ok (.bipush (-5), 2) := by decide +kernel
theorem dX10_mends_29 : decode cX10_mends 29 = .ok (.if_icmp .eq 15, 3) := by decide +kernel
theorem dX10_mends_32 : decode cX10_mends 32 = .ok (.iload 4, 2) := by decide +kernel
theorem dX10_mends_34 : decode cX10_mends 34 = .ok (.invokestatic 208, 3) := by decide +kernel
theorem dX10_mends_37 : decode cX10_mends 37 = .ok (.iload_n 3, 1) := by decide +kernel
theorem dX10_mends_38 : decode cX10_mends 38 = .ok (.invokestatic 208, 3) := by decide +kernel
theorem dX10_mends_41 : decode cX10_mends 41 = .ok (.if_icmp .ge 113, 3) := by decide +kernel
theorem dX10_mends_44 : decode cX10_mends 44 = .ok (.iconst 0, 1) := by decide +kernel
theorem dX10_mends_45 : decode cX10_mends 45 = .ok (.istore 5, 2) := by decide +kernel
theorem dX10_mends_47 : decode cX10_mends 47 = .ok (.iload 5, 2) := by decide +kernel
theorem dX10_mends_49 : decode cX10_mends 49 = .ok (.aload_n 0, 1) := by decide +kernel
theorem dX10_mends_50 : decode cX10_mends 50 = .ok (.getfield 9, 3) := by decide +kernel
theorem dX10_mends_53 : decode cX10_mends 53 = .ok (.bipush 78, 2) := by decide +kernel
theorem dX10_mends_55 : decode cX10_mends 55 = .ok (.iaload, 1) := by decide +kernel
theorem dX10_mends_56 : decode cX10_mends 56 = .ok (.if_icmp .ge 46, 3) := by decide +kernel
theorem dX10_mends_59 : decode cX10_mends 59 = .ok (.aload_n 0, 1) := by decide +kernel
theorem dX10_mends_60 : decode cX10_mends 60 = .ok (.getfield 46, 3) := by decide +kernel
theorem dX10_mends_63 : decode cX10_mends 63 = .ok (.iload 5, 2) := by decide +kernel
theorem dX10_mends_65 : decode cX10_mends 65 = .ok (.aload_n 0, 1) := by decide +kernel
theorem dX10_mends_66 : decode cX10_mends 66 = .ok (.iload 5, 2) := by decide +kernel
theorem dX10_mends_68 : decode cX10_mends 68 = .ok (.iconst 2, 1) := by decide +kernel
theorem dX10_mends_69 : decode cX10_mends 69 = .ok (.iload 4, 2) := by decide +kernel
theorem dX10_mends_71 : decode cX10_mends 71 = .ok (.iload 5, 2) := by decide +kernel
theorem dX10_mends_73 : decode cX10_mends 73 = .ok (.ishr, 1) := by decide +kernel
theorem dX10_mends_74 : decode cX10_mends 74 = .ok (.iconst 1, 1) := by decide +kernel
theorem dX10_mends_75 : decode cX10_mends 75 = .ok (.iand, 1) := by decide +kernel
theorem dX10_mends_76 : decode cX10_mends 76 = .ok (.iconst 1, 1) := by decide +kernel
theorem dX10_mends_77 : decode cX10_mends 77 = .ok (.if_icmp .ne 8, 3) := by decide +kernel
theorem dX10_mends_80 : decode cX10_mends 80 = .ok (.bipush 99, 2) := by decide +kernel
theorem dX10_mends_82 : decode cX10_mends 82 = .ok (.goto 10, 3) := by decide +kernel
theorem dX10_mends_85 : decode cX10_mends 85 = .ok (.aload_n 0, 1) := by decide +kernel
theorem dX10_mends_86 : decode cX10_mends 86 = .ok (.iload 5, 2) := by decide +kernel
theorem dX10_mends_88 : decode cX10_mends 88 = .ok (.iconst 2, 1) := by decide +kernel
theorem dX10_mends_89 : decode cX10_mends 89 = .ok (.invokevirtual 86, 3) := by decide +kernel
theorem dX10_mends_92 : decode cX10_mends 92 = .ok (.invokevirtual 93, 3) := by decide +kernel
theorem dX10_mends_95 : decode cX10_mends 95 = .ok (.iastore, 1) := by decide +kernel
theorem dX10_mends_96 : decode cX10_mends 96 = .ok (.iinc 5 1, 3) := by decide +kernel
theorem dX10_mends_99 : decode cX10_mends 99 = .ok (.goto (-52), 3) := by decide +kernel
theorem dX10_mends_102 : decode cX10_mends 102 = .ok (.aload_n 0, 1) := by decide +kernel
theorem dX10_mends_103 : decode cX10_mends 103 = .ok (.iload_n 1, 1) := by decide +kernel
theorem dX10_mends_104 : decode cX10_mends 104 = .ok (.invokevirtual 211, 3) := by decide +kernel
theorem dX10_mends_107 : decode cX10_mends 107 = .ok (.iload_n 2, 1) := by decide +kernel
theorem dX10_mends_108 : decode cX10_mends 108 = .ok (.if_icmp .gt 8, 3) := by decide +kernel
theorem dX10_mends_111 : decode cX10_mends 111 = .ok (.iload 4, 2) := by decide +kernel
theorem dX10_mends_113 : decode cX10_mends 113 = .ok (.goto 4, 3) := by decide +kernel
theorem dX10_mends_116 : decode cX10_mends 116 = .ok (.iload_n 3, 1) := by decide +kernel
theorem dX10_mends_117 : decode cX10_mends 117 = .ok (.istore_n 3, 1) := by decide +kernel
theorem dX10_mends_118 : decode cX10_mends 118 = .ok (.iconst 0, 1) := by decide +kernel
theorem dX10_mends_119 : decode cX10_mends 119 = .ok (.istore 5, 2) := by decide +kernel
theorem dX10_mends_121 : decode cX10_mends 121 = .ok (.iload 5, 2) := by decide +kernel
theorem dX10_mends_123 : decode cX10_mends 123 = .ok (.aload_n 0, 1) := by decide +kernel
theorem dX10_mends_124 : decode cX10_mends 124 = .ok (.getfield 9, 3) := by decide +kernel
theorem dX10_mends_127 : decode cX10_mends 127 = .ok (.bipush 78, 2) := by decide +kernel
theorem dX10_mends_129 : decode cX10_mends 129 = .ok (.iaload, 1) := by decide +kernel
theorem dX10_mends_130 : decode cX10_mends 130 = .ok (.if_icmp .ge 24, 3) := by decide +kernel
theorem dX10_mends_133 : decode cX10_mends 133 = .ok (.aload_n 0, 1) := by decide +kernel
theorem dX10_mends_134 : decode cX10_mends 134 = .ok (.iload 5, 2) := by decide +kernel
theorem dX10_mends_136 : decode cX10_mends 136 = .ok (.iconst 2, 1) := by decide +kernel
theorem dX10_mends_137 : decode cX10_mends 137 = .ok (.aload_n 0, 1) := by decide +kernel
theorem dX10_mends_138 : decode cX10_mends 138 = .ok (.getfield 46, 3) := by decide +kernel
theorem dX10_mends_141 : decode cX10_mends 141 = .ok (.iload 5, 2) := by decide +kernel
theorem dX10_mends_143 : decode cX10_mends 143 = .ok (.iaload, 1) := by decide +kernel
theorem dX10_mends_144 : decode cX10_mends 144 = .ok (.invokevirtual 93, 3) := by decide +kernel
theorem dX10_mends_147 : decode cX10_mends 147 = .ok (.pop, 1) := by decide +kernel
theorem dX10_mends_148 : decode cX10_mends 148 = .ok (.iinc 5 1, 3) := by decide +kernel
theorem dX10_mends_151 : decode cX10_mends 151 = .ok (.goto (-30), 3) := by decide +kernel
theorem dX10_mends_154 : decode cX10_mends 154 = .ok (.iinc 4 1, 3) := by decide +kernel
theorem dX10_mends_157 : decode cX10_mends 157 = .ok (.goto (-145), 3) := by decide +kernel
theorem dX10_mends_160 : decode cX10_mends 160 = .ok (.iload_n 3, 1) := by decide +kernel
theorem dX10_mends_161 : decode cX10_mends 161 = .ok (.ireturn, 1) := by decide +kernel
theorem dX10_swap_0 : decode cX10_swap 0 = .ok (.aload_n 0, 1) := by decide +kernel
theorem dX10_swap_1 : decode cX10_swap 1 = .ok (.iload_n 1, 1) := by decide +kernel
theorem dX10_swap_2 : decode cX10_swap 2 = .ok (.iconst 2, 1) := by decide +kernel
theorem dX10_swap_3 : decode cX10_swap 3 = .ok (.aload_n 0, 1) := by decide +kernel
theorem dX10_swap_4 : decode cX10_swap 4 = .ok (.iload_n 2, 1) := by decide +kernel
theorem dX10_swap_5 : decode cX10_swap 5 = .ok (.iconst 2, 1) := by decide +kernel
theorem dX10_swap_6 : decode cX10_swap 6 = .ok (.invokevirtual 86, 3) := by decide +kernel
theorem dX10_swap_9 : decode cX10_swap 9 = .ok (.invokevirtual 93, 3) := by decide +kernel
theorem dX10_swap_12 : decode cX10_swap 12 = .ok (.istore_n 3, 1) := by decide +kernel
theorem dX10_swap_13 : decode cX10_swap 13 = .ok (.aload_n 0, 1) := by decide +kernel
theorem dX10_swap_14 : decode cX10_swap 14 = .ok (.iload_n 2, 1) := by decide +kernel
theorem dX10_swap_15 : decode cX10_swap 15 = .ok (.iconst 2, 1) := by decide +kernel
theorem dX10_swap_16 : decode cX10_swap 16 = .ok (.iload_n 3, 1) := by decide +kernel
theorem dX10_swap_17 : decode cX10_swap 17 = .ok (.invokevirtual 93, 3) := by decide +kernel
theorem dX10_swap_20 : decode cX10_swap 20 = .ok (.pop, 1) := by decide +kernel
theorem dX10_swap_21 : decode cX10_swap 21 = .ok (.return_, 1) := by decide +kernel
theorem dX10_changes_0 : decode cX10_changes 0 = .ok (.aload_n 0, 1) := by decide +kernel
theorem dX10_changes_1 : decode cX10_changes 1 = .ok (.iload_n 1, 1) := by decide +kernel
theorem dX10_changes_2 : decode cX10_changes 2 = .ok (.invokevirtual 211, 3) := by decide +kernel
theorem dX10_changes_5 : decode cX10_changes 5 = .ok (.istore_n 2, 1) := by decide +kernel
theorem dX10_changes_6 : decode cX10_changes 6 = .ok (.bipush (-5), 2) := by decide +kernel
theorem dX10_changes_8 : decode cX10_changes 8 = .ok (.istore_n 3, 1) := by decide +kernel
theorem dX10_changes_9 : decode cX10_changes 9 = .ok (.iconst 0, 1) := by decide +kernel
theorem dX10_changes_10 : decode cX10_changes 10 = .ok (.istore 4, 2) := by decide +kernel
theorem dX10_changes_12 : decode cX10_changes 12 = .ok (.iload 4, 2) := by decide +kernel
theorem dX10_changes_14 : decode cX10_changes 14 = .ok (.aload_n 0, 1) := by decide +kernel
theorem dX10_changes_15 : decode cX10_changes 15 = .ok (.getfield 9, 3) := by decide +kernel
theorem dX10_changes_18 : decode cX10_changes 18 = .ok (.bipush 78, 2) := by decide +kernel
theorem dX10_changes_20 : decode cX10_changes 20 = .ok (.iaload, 1) := by decide +kernel
theorem dX10_changes_21 : decode cX10_changes 21 = .ok (.if_icmp .ge 82, 3) := by decide +kernel
theorem dX10_changes_24 : decode cX10_changes 24 = .ok (.iload 4, 2) := by decide +kernel
theorem dX10_changes_26 : decode cX10_changes 26 = .ok (.iconst 1, 1) := by decide +kernel
theorem dX10_changes_27 : decode cX10_changes 27 = .ok (.iadd, 1) := by decide +kernel
theorem dX10_changes_28 : decode cX10_changes 28 = .ok (.istore 5, 2) := by decide +kernel
theorem dX10_changes_30 : decode cX10_changes 30 = .ok (.iload 5, 2) := by decide +kernel
theorem dX10_changes_32 : decode cX10_changes 32 = .ok (.aload_n 0, 1) := by decide +kernel
theorem dX10_changes_33 : decode cX10_changes 33 = .ok (.getfield 9, 3) := by decide +kernel
theorem dX10_changes_36 : decode cX10_changes 36 = .ok (.bipush 78, 2) := by decide +kernel
theorem dX10_changes_38 : decode cX10_changes 38 = .ok (.iaload, 1) := by decide +kernel
theorem dX10_changes_39 : decode cX10_changes 39 = .ok (.if_icmp .ge 58, 3) := by decide +kernel
theorem dX10_changes_42 : decode cX10_changes 42 = .ok (.aload_n 0, 1) := by decide +kernel
theorem dX10_changes_43 : decode cX10_changes 43 = .ok (.iload 4, 2) := by decide +kernel
theorem dX10_changes_45 : decode cX10_changes 45 = .ok (.iload 5, 2) := by decide +kernel
theorem dX10_changes_47 : decode cX10_changes 47 = .ok (.invokevirtual 214, 3) := by decide +kernel
theorem dX10_changes_50 : decode cX10_changes 50 = .ok (.aload_n 0, 1) := by decide +kernel
theorem dX10_changes_51 : decode cX10_changes 51 = .ok (.iload_n 1, 1) := by decide +kernel
theorem dX10_changes_52 : decode cX10_changes 52 = .ok (.invokevirtual 211, 3) := by decide +kernel
theorem dX10_changes_55 : decode cX10_changes 55 = .ok (.istore 6, 2) := by decide +kernel
theorem dX10_changes_57 : decode cX10_changes 57 = .ok (.aload_n 0, 1) := by decide +kernel
theorem dX10_changes_58 : decode cX10_changes 58 = .ok (.iload 4, 2) := by decide +kernel
theorem dX10_changes_60 : decode cX10_changes 60 = .ok (.iload 5, 2) := by decide +kernel
theorem dX10_changes_62 : decode cX10_changes 62 = .ok (.invokevirtual 214, 3) := by decide +kernel
theorem dX10_changes_65 : decode cX10_changes 65 = .ok (.iload 6, 2) := by decide +kernel
theorem dX10_changes_67 : decode cX10_changes 67 = .ok (.iload_n 2, 1) := by decide +kernel
theorem dX10_changes_68 : decode cX10_changes 68 = .ok (.if_icmp .ge 14, 3) := by decide +kernel
theorem dX10_changes_71 : decode cX10_changes 71 = .ok (.bipush 10, 2) := by decide +kernel
theorem dX10_changes_73 : decode cX10_changes 73 = .ok (.iload 4, 2) := by decide +kernel
theorem dX10_changes_75 : decode cX10_changes 75 = .ok (.imul, 1) := by decide +kernel
theorem dX10_changes_76 : decode cX10_changes 76 = .ok (.iload 5, 2) := by decide +kernel
theorem dX10_changes_78 : decode cX10_changes 78 = .ok (.iadd, 1) := by decide +kernel
theorem dX10_changes_79 : decode cX10_changes 79 = .ok (.goto 4, 3) := by decide +kernel
theorem dX10_changes_82 : decode cX10_changes 82 = .ok (.iload_n 3, 1) := by decide +kernel
theorem dX10_changes_83 : decode cX10_changes 83 = .ok (.istore_n 3, 1) := by decide +kernel
theorem dX10_changes_84 : decode cX10_changes 84 = .ok (.iload 6, 2) := by decide +kernel
theorem dX10_changes_86 : decode cX10_changes 86 = .ok (.iload_n 2, 1) := by decide +kernel
theorem dX10_changes_87 : decode cX10_changes 87 = .ok (.invokestatic 182, 3) := by decide +kernel
theorem dX10_changes_90 : decode cX10_changes 90 = .ok (.istore_n 2, 1) := by decide +kernel
theorem dX10_changes_91 : decode cX10_changes 91 = .ok (.iinc 5 1, 3) := by decide +kernel
theorem dX10_changes_94 : decode cX10_changes 94 = .ok (.goto (-64), 3) := by decide +kernel
theorem dX10_changes_97 : decode cX10_changes 97 = .ok (.iinc 4 1, 3) := by decide +kernel
theorem dX10_changes_100 : decode cX10_changes 100 = .ok (.goto (-88), 3) := by decide +kernel
theorem dX10_changes_103 : decode cX10_changes 103 = .ok (.iload_n 3, 1) := by decide +kernel
theorem dX10_changes_104 : decode cX10_changes 104 = .ok (.ireturn, 1) := by decide +kernel
theorem dX10_aimOf_0 : decode cX10_aimOf 0 = .ok (.aload_n 0, 1) := by decide +kernel
theorem dX10_aimOf_1 : decode cX10_aimOf 1 = .ok (.iload_n 1, 1) := by decide +kernel
theorem dX10_aimOf_2 : decode cX10_aimOf 2 = .ok (.iconst 2, 1) := by decide +kernel
theorem dX10_aimOf_3 : decode cX10_aimOf 3 = .ok (.invokevirtual 90, 3) := by decide +kernel
theorem dX10_aimOf_6 : decode cX10_aimOf 6 = .ok (.istore_n 3, 1) := by decide +kernel
theorem dX10_aimOf_7 : decode cX10_aimOf 7 = .ok (.bipush (-5), 2) := by decide +kernel
theorem dX10_aimOf_9 : decode cX10_aimOf 9 = .ok (.istore 4, 2) := by decide +kernel
theorem dX10_aimOf_11 : decode cX10_aimOf 11 = .ok (.ldc 219, 2) := by decide +kernel
theorem dX10_aimOf_13 : decode cX10_aimOf 13 = .ok (.istore 5, 2) := by decide +kernel
theorem dX10_aimOf_15 : decode cX10_aimOf 15 = .ok (.iconst 0, 1) := by decide +kernel
theorem dX10_aimOf_16 : decode cX10_aimOf 16 = .ok (.istore 6, 2) := by decide +kernel
theorem dX10_aimOf_18 : decode cX10_aimOf 18 = .ok (.iload 6, 2) := by decide +kernel
theorem dX10_aimOf_20 : decode cX10_aimOf 20 = .ok (.aload_n 0, 1) := by decide +kernel
theorem dX10_aimOf_21 : decode cX10_aimOf 21 = .ok (.getfield 9, 3) := by decide +kernel
theorem dX10_aimOf_24 : decode cX10_aimOf 24 = .ok (.bipush 78, 2) := by decide +kernel
theorem dX10_aimOf_26 : decode cX10_aimOf 26 = .ok (.iaload, 1) := by decide +kernel
theorem dX10_aimOf_27 : decode cX10_aimOf 27 = .ok (.if_icmp .ge 49, 3) := by decide +kernel
theorem dX10_aimOf_30 : decode cX10_aimOf 30 = .ok (.aload_n 0, 1) := by decide +kernel
theorem dX10_aimOf_31 : decode cX10_aimOf 31 = .ok (.iload_n 1, 1) := by decide +kernel
theorem dX10_aimOf_32 : decode cX10_aimOf 32 = .ok (.iload 6, 2) := by decide +kernel
theorem dX10_aimOf_34 : decode cX10_aimOf 34 = .ok (.invokevirtual 114, 3) := by decide +kernel
theorem dX10_aimOf_37 : decode cX10_aimOf 37 = .ok (.pop, 1) := by decide +kernel
theorem dX10_aimOf_38 : decode cX10_aimOf 38 = .ok (.aload_n 0, 1) := by decide +kernel
theorem dX10_aimOf_39 : decode cX10_aimOf 39 = .ok (.iload_n 2, 1) := by decide +kernel
theorem dX10_aimOf_40 : decode cX10_aimOf 40 = .ok (.invokevirtual 211, 3) := by decide +kernel
theorem dX10_aimOf_43 : decode cX10_aimOf 43 = .ok (.istore 7, 2) := by decide +kernel
theorem dX10_aimOf_45 : decode cX10_aimOf 45 = .ok (.iload 7, 2) := by decide +kernel
theorem dX10_aimOf_47 : decode cX10_aimOf 47 = .ok (.iload 5, 2) := by decide +kernel
theorem dX10_aimOf_49 : decode cX10_aimOf 49 = .ok (.if_icmp .ge 8, 3) := by decide +kernel
theorem dX10_aimOf_52 : decode cX10_aimOf 52 = .ok (.iload 6, 2) := by decide +kernel
theorem dX10_aimOf_54 : decode cX10_aimOf 54 = .ok (.goto 5, 3) := by decide +kernel
theorem dX10_aimOf_57 : decode cX10_aimOf 57 = .ok (.iload 4, 2) := by decide +kernel
theorem dX10_aimOf_59 : decode cX10_aimOf 59 = .ok (.istore 4, 2) := by decide +kernel
theorem dX10_aimOf_61 : decode cX10_aimOf 61 = .ok (.iload 7, 2) := by decide +kernel
theorem dX10_aimOf_63 : decode cX10_aimOf 63 = .ok (.iload 5, 2) := by decide +kernel
theorem dX10_aimOf_65 : decode cX10_aimOf 65 = .ok (.invokestatic 182, 3) := by decide +kernel
theorem dX10_aimOf_68 : decode cX10_aimOf 68 = .ok (.istore 5, 2) := by decide +kernel
theorem dX10_aimOf_70 : decode cX10_aimOf 70 = .ok (.iinc 6 1, 3) := by decide +kernel
theorem dX10_aimOf_73 : decode cX10_aimOf 73 = .ok (.goto (-55), 3) := by decide +kernel
theorem dX10_aimOf_76 : decode cX10_aimOf 76 = .ok (.aload_n 0, 1) := by decide +kernel
theorem dX10_aimOf_77 : decode cX10_aimOf 77 = .ok (.iload_n 1, 1) := by decide +kernel
theorem dX10_aimOf_78 : decode cX10_aimOf 78 = .ok (.iload_n 3, 1) := by decide +kernel
theorem dX10_aimOf_79 : decode cX10_aimOf 79 = .ok (.invokevirtual 114, 3) := by decide +kernel
theorem dX10_aimOf_82 : decode cX10_aimOf 82 = .ok (.pop, 1) := by decide +kernel
theorem dX10_aimOf_83 : decode cX10_aimOf 83 = .ok (.iload 4, 2) := by decide +kernel
theorem dX10_aimOf_85 : decode cX10_aimOf 85 = .ok (.ireturn, 1) := by decide +kernel
theorem dX10_best_0 : decode cX10_best 0 = .ok (.iload_n 2, 1) := by decide +kernel
theorem dX10_best_1 : decode cX10_best 1 = .ok (.iconst 0, 1) := by decide +kernel
theorem dX10_best_2 : decode cX10_best 2 = .ok (.iconst 1, 1) := by decide +kernel
theorem dX10_best_3 : decode cX10_best 3 = .ok (.invokestatic 82, 3) := by decide +kernel
theorem dX10_best_6 : decode cX10_best 6 = .ok (.ifCond .ne 16, 3) := by decide +kernel
theorem dX10_best_9 : decode cX10_best 9 = .ok (.aload_n 0, 1) := by decide +kernel
theorem dX10_best_10 : decode cX10_best 10 = .ok (.iload_n 2, 1) := by decide +kernel
theorem dX10_best_11 : decode cX10_best 11 = .ok (.bipush 10, 2) := by decide +kernel
theorem dX10_best_13 : decode cX10_best 13 = .ok (.isub, 1) := by decide +kernel
theorem dX10_best_14 : decode cX10_best 14 = .ok (.invokevirtual 108, 3) := by decide +kernel
theorem dX10_best_17 : decode cX10_best 17 = .ok (.ifCond .ne 5, 3) := by decide +kernel
theorem dX10_best_20 : decode cX10_best 20 = .ok (.iconst (-1), 1) := by decide +kernel
theorem dX10_best_21 : decode cX10_best 21 = .ok (.ireturn, 1) := by decide +kernel
theorem dX10_best_22 : decode cX10_best 22 = .ok (.iload_n 1, 1) := by decide +kernel
theorem dX10_best_23 : decode cX10_best 23 = .ok (.iconst 1, 1) := by decide +kernel
theorem dX10_best_24 : decode cX10_best 24 = .ok (.iload_n 2, 1) := by decide +kernel
theorem dX10_best_25 : decode cX10_best 25 = .ok (.ifCond .ne 8, 3) := by decide +kernel
theorem dX10_best_28 : decode cX10_best 28 = .ok (.bipush 12, 2) := by decide +kernel
theorem dX10_best_30 : decode cX10_best 30 = .ok (.goto 5, 3) := by decide +kernel
theorem dX10_best_33 : decode cX10_best 33 = .ok (.bipush 20, 2) := by decide +kernel
theorem dX10_best_35 : decode cX10_best 35 = .ok (.invokestatic 82, 3) := by decide +kernel
theorem dX10_best_38 : decode cX10_best 38 = .ok (.ifCond .ne 6, 3) := by decide +kernel
theorem dX10_best_41 : decode cX10_best 41 = .ok (.bipush (-2), 2) := by decide +kernel
theorem dX10_best_43 : decode cX10_best 43 = .ok (.ireturn, 1) := by decide +kernel
theorem dX10_best_44 : decode cX10_best 44 = .ok (.iload_n 2, 1) := by decide +kernel
theorem dX10_best_45 : decode cX10_best 45 = .ok (.ifCond .ne 11, 3) := by decide +kernel
theorem dX10_best_48 : decode cX10_best 48 = .ok (.aload_n 0, 1) := by decide +kernel
theorem dX10_best_49 : decode cX10_best 49 = .ok (.iload_n 1, 1) := by decide +kernel
theorem dX10_best_50 : decode cX10_best 50 = .ok (.invokevirtual 220, 3) := by decide +kernel
theorem dX10_best_53 : decode cX10_best 53 = .ok (.goto 25, 3) := by decide +kernel
theorem dX10_best_56 : decode cX10_best 56 = .ok (.iload_n 2, 1) := by decide +kernel
theorem dX10_best_57 : decode cX10_best 57 = .ok (.iconst 1, 1) := by decide +kernel
theorem dX10_best_58 : decode cX10_best 58 = .ok (.if_icmp .ne 11, 3) := by decide +kernel
theorem dX10_best_61 : decode cX10_best 61 = .ok (.aload_n 0, 1) := by decide +kernel
theorem dX10_best_62 : decode cX10_best 62 = .ok (.iload_n 1, 1) := by decide +kernel
theorem dX10_best_63 : decode cX10_best 63 = .ok (.invokevirtual 223, 3) := by decide +kernel
theorem dX10_best_66 : decode cX10_best 66 = .ok (.goto 12, 3) := by decide +kernel
theorem dX10_best_69 : decode cX10_best 69 = .ok (.aload_n 0, 1) := by decide +kernel
theorem dX10_best_70 : decode cX10_best 70 = .ok (.iload_n 2, 1) := by decide +kernel
theorem dX10_best_71 : decode cX10_best 71 = .ok (.bipush 10, 2) := by decide +kernel
theorem dX10_best_73 : decode cX10_best 73 = .ok (.isub, 1) := by decide +kernel
theorem dX10_best_74 : decode cX10_best 74 = .ok (.iload_n 1, 1) := by decide +kernel
theorem dX10_best_75 : decode cX10_best 75 = .ok (.invokevirtual 226, 3) := by decide +kernel
theorem dX10_best_78 : decode cX10_best 78 = .ok (.ireturn, 1) := by decide +kernel
theorem dX10_comes_0 : decode cX10_comes 0 = .ok (.aload_n 0, 1) := by decide +kernel
theorem dX10_comes_1 : decode cX10_comes 1 = .ok (.getfield 9, 3) := by decide +kernel
theorem dX10_comes_4 : decode cX10_comes 4 = .ok (.iload_n 1, 1) := by decide +kernel
theorem dX10_comes_5 : decode cX10_comes 5 = .ok (.iaload, 1) := by decide +kernel
theorem dX10_comes_6 : decode cX10_comes 6 = .ok (.iconst 5, 1) := by decide +kernel
theorem dX10_comes_7 : decode cX10_comes 7 = .ok (.if_icmp .ne 6, 3) := by decide +kernel
theorem dX10_comes_10 : decode cX10_comes 10 = .ok (.bipush (-4), 2) := by decide +kernel
theorem dX10_comes_12 : decode cX10_comes 12 = .ok (.ireturn, 1) := by decide +kernel
theorem dX10_comes_13 : decode cX10_comes 13 = .ok (.iload_n 1, 1) := by decide +kernel
theorem dX10_comes_14 : decode cX10_comes 14 = .ok (.iconst 1, 1) := by decide +kernel
theorem dX10_comes_15 : decode cX10_comes 15 = .ok (.iadd, 1) := by decide +kernel
theorem dX10_comes_16 : decode cX10_comes 16 = .ok (.iconst 3, 1) := by decide +kernel
theorem dX10_comes_17 : decode cX10_comes 17 = .ok (.aload_n 0, 1) := by decide +kernel
theorem dX10_comes_18 : decode cX10_comes 18 = .ok (.getfield 9, 3) := by decide +kernel
theorem dX10_comes_21 : decode cX10_comes 21 = .ok (.iload_n 1, 1) := by decide +kernel
theorem dX10_comes_22 : decode cX10_comes 22 = .ok (.iaload, 1) := by decide +kernel
theorem dX10_comes_23 : decode cX10_comes 23 = .ok (.imul, 1) := by decide +kernel
theorem dX10_comes_24 : decode cX10_comes 24 = .ok (.iadd, 1) := by decide +kernel
theorem dX10_comes_25 : decode cX10_comes 25 = .ok (.istore 5, 2) := by decide +kernel
theorem dX10_comes_27 : decode cX10_comes 27 = .ok (.aload_n 0, 1) := by decide +kernel
theorem dX10_comes_28 : decode cX10_comes 28 = .ok (.getfield 9, 3) := by decide +kernel
theorem dX10_comes_31 : decode cX10_comes 31 = .ok (.iload 5, 2) := by decide +kernel
theorem dX10_comes_33 : decode cX10_comes 33 = .ok (.iload_n 2, 1) := by decide +kernel
theorem dX10_comes_34 : decode cX10_comes 34 = .ok (.iastore, 1) := by decide +kernel
theorem dX10_comes_35 : decode cX10_comes 35 = .ok (.aload_n 0, 1) := by decide +kernel
theorem dX10_comes_36 : decode cX10_comes 36 = .ok (.getfield 9, 3) := by decide +kernel
theorem dX10_comes_39 : decode cX10_comes 39 = .ok (.iload 5, 2) := by decide +kernel
theorem dX10_comes_41 : decode cX10_comes 41 = .ok (.iconst 1, 1) := by decide +kernel
theorem dX10_comes_42 : decode cX10_comes 42 = .ok (.iadd, 1) := by decide +kernel
theorem dX10_comes_43 : decode cX10_comes 43 = .ok (.iload_n 3, 1) := by decide +kernel
theorem dX10_comes_44 : decode cX10_comes 44 = .ok (.iastore, 1) := by decide +kernel
theorem dX10_comes_45 : decode cX10_comes 45 = .ok (.aload_n 0, 1) := by decide +kernel
theorem dX10_comes_46 : decode cX10_comes 46 = .ok (.getfield 9, 3) := by decide +kernel
theorem dX10_comes_49 : decode cX10_comes 49 = .ok (.iload 5, 2) := by decide +kernel
theorem dX10_comes_51 : decode cX10_comes 51 = .ok (.iconst 2, 1) := by decide +kernel
theorem dX10_comes_52 : decode cX10_comes 52 = .ok (.iadd, 1) := by decide +kernel
theorem dX10_comes_53 : decode cX10_comes 53 = .ok (.iload 4, 2) := by decide +kernel
theorem dX10_comes_55 : decode cX10_comes 55 = .ok (.iastore, 1) := by decide +kernel
theorem dX10_comes_56 : decode cX10_comes 56 = .ok (.aload_n 0, 1) := by decide +kernel
theorem dX10_comes_57 : decode cX10_comes 57 = .ok (.getfield 9, 3) := by decide +kernel
theorem dX10_comes_60 : decode cX10_comes 60 = .ok (.iload_n 1, 1) := by decide +kernel
theorem dX10_comes_61 : decode cX10_comes 61 = .ok (.dup2, 1) := by decide +kernel
theorem dX10_comes_62 : decode cX10_comes 62 = .ok (.iaload, 1) := by decide +kernel
theorem dX10_comes_63 : decode cX10_comes 63 = .ok (.iconst 1, 1) := by decide +kernel
theorem dX10_comes_64 : decode cX10_comes 64 = .ok (.iadd, 1) := by decide +kernel
theorem dX10_comes_65 : decode cX10_comes 65 = .ok (.iastore, 1) := by decide +kernel
theorem dX10_comes_66 : decode cX10_comes 66 = .ok (.aload_n 0, 1) := by decide +kernel
theorem dX10_comes_67 : decode cX10_comes 67 = .ok (.getfield 9, 3) := by decide +kernel
theorem dX10_comes_70 : decode cX10_comes 70 = .ok (.iload_n 1, 1) := by decide +kernel
theorem dX10_comes_71 : decode cX10_comes 71 = .ok (.iaload, 1) := by decide +kernel
theorem dX10_comes_72 : decode cX10_comes 72 = .ok (.ireturn, 1) := by decide +kernel
theorem dX10_see_0 : decode cX10_see 0 = .ok (.iload_n 1, 1) := by decide +kernel
theorem dX10_see_1 : decode cX10_see 1 = .ok (.iconst (-1), 1) := by decide +kernel
theorem dX10_see_2 : decode cX10_see 2 = .ok (.if_icmp .ne 13, 3) := by decide +kernel
theorem dX10_see_5 : decode cX10_see 5 = .ok (.aload_n 0, 1) := by decide +kernel
theorem dX10_see_6 : decode cX10_see 6 = .ok (.getfield 9, 3) := by decide +kernel
theorem dX10_see_9 : decode cX10_see 9 = .ok (.bipush 82, 2) := by decide +kernel
theorem dX10_see_11 : decode cX10_see 11 = .ok (.iconst 0, 1) := by decide +kernel
theorem dX10_see_12 : decode cX10_see 12 = .ok (.iastore, 1) := by decide +kernel
theorem dX10_see_13 : decode cX10_see 13 = .ok (.iconst 0, 1) := by decide +kernel
theorem dX10_see_14 : decode cX10_see 14 = .ok (.ireturn, 1) := by decide +kernel
theorem dX10_see_15 : decode cX10_see 15 = .ok (.aload_n 0, 1) := by decide +kernel
theorem dX10_see_16 : decode cX10_see 16 = .ok (.iload_n 1, 1) := by decide +kernel
theorem dX10_see_17 : decode cX10_see 17 = .ok (.invokevirtual 97, 3) := by decide +kernel
theorem dX10_see_20 : decode cX10_see 20 = .ok (.ifCond .ne 5, 3) := by decide +kernel
theorem dX10_see_23 : decode cX10_see 23 = .ok (.iconst (-1), 1) := by decide +kernel
theorem dX10_see_24 : decode cX10_see 24 = .ok (.ireturn, 1) := by decide +kernel
theorem dX10_see_25 : decode cX10_see 25 = .ok (.iload_n 2, 1) := by decide +kernel
theorem dX10_see_26 : decode cX10_see 26 = .ok (.iconst 0, 1) := by decide +kernel
theorem dX10_see_27 : decode cX10_see 27 = .ok (.bipush 12, 2) := by decide +kernel
theorem dX10_see_29 : decode cX10_see 29 = .ok (.invokestatic 82, 3) := by decide +kernel
theorem dX10_see_32 : decode cX10_see 32 = .ok (.ifCond .eq 25, 3) := by decide +kernel
theorem dX10_see_35 : decode cX10_see 35 = .ok (.iload_n 3, 1) := by decide +kernel
theorem dX10_see_36 : decode cX10_see 36 = .ok (.iconst 0, 1) := by decide +kernel
theorem dX10_see_37 : decode cX10_see 37 = .ok (.bipush 99, 2) := by decide +kernel
theorem dX10_see_39 : decode cX10_see 39 = .ok (.invokestatic 82, 3) := by decide +kernel
theorem dX10_see_42 : decode cX10_see 42 = .ok (.ifCond .eq 15, 3) := by decide +kernel
theorem dX10_see_45 : decode cX10_see 45 = .ok (.aload_n 0, 1) := by decide +kernel
theorem dX10_see_46 : decode cX10_see 46 = .ok (.bipush 82, 2) := by decide +kernel
theorem dX10_see_48 : decode cX10_see 48 = .ok (.iload_n 1, 1) := by decide +kernel
theorem dX10_see_49 : decode cX10_see 49 = .ok (.iload_n 2, 1) := by decide +kernel
theorem dX10_see_50 : decode cX10_see 50 = .ok (.iload_n 3, 1) := by decide +kernel
theorem dX10_see_51 : decode cX10_see 51 = .ok (.invokevirtual 229, 3) := by decide +kernel
theorem dX10_see_54 : decode cX10_see 54 = .ok (.goto 5, 3) := by decide +kernel
theorem dX10_see_57 : decode cX10_see 57 = .ok (.bipush (-2), 2) := by decide +kernel
theorem dX10_see_59 : decode cX10_see 59 = .ok (.ireturn, 1) := by decide +kernel
theorem dX10_ache_0 : decode cX10_ache 0 = .ok (.iload_n 1, 1) := by decide +kernel
theorem dX10_ache_1 : decode cX10_ache 1 = .ok (.iconst (-1), 1) := by decide +kernel
theorem dX10_ache_2 : decode cX10_ache 2 = .ok (.if_icmp .ne 13, 3) := by decide +kernel
theorem dX10_ache_5 : decode cX10_ache 5 = .ok (.aload_n 0, 1) := by decide +kernel
theorem dX10_ache_6 : decode cX10_ache 6 = .ok (.getfield 9, 3) := by decide +kernel
theorem dX10_ache_9 : decode cX10_ache 9 = .ok (.bipush 98, 2) := by decide +kernel
theorem dX10_ache_11 : decode cX10_ache 11 = .ok (.iconst 0, 1) := by decide +kernel
theorem dX10_ache_12 : decode cX10_ache 12 = .ok (.iastore, 1) := by decide +kernel
theorem dX10_ache_13 : decode cX10_ache 13 = .ok (.iconst 0, 1) := by decide +kernel
theorem dX10_ache_14 : decode cX10_ache 14 = .ok (.ireturn, 1) := by decide +kernel
theorem dX10_ache_15 : decode cX10_ache 15 = .ok (.aload_n 0, 1) := by decide +kernel
theorem dX10_ache_16 : decode cX10_ache 16 = .ok (.iload_n 1, 1) := by decide +kernel
theorem dX10_ache_17 : decode cX10_ache 17 = .ok (.invokevirtual 97, 3) := by decide +kernel
theorem dX10_ache_20 : decode cX10_ache 20 = .ok (.ifCond .ne 5, 3) := by decide +kernel
theorem dX10_ache_23 : decode cX10_ache 23 = .ok (.iconst (-1), 1) := by decide +kernel
theorem dX10_ache_24 : decode cX10_ache 24 = .ok (.ireturn, 1) := by decide +kernel
theorem dX10_ache_25 : decode cX10_ache 25 = .ok (.iload_n 2, 1) := by decide +kernel
theorem dX10_ache_26 : decode cX10_ache 26 = .ok (.iconst 0, 1) := by decide +kernel
theorem dX10_ache_27 : decode cX10_ache 27 = .ok (.bipush 12, 2) := by decide +kernel
theorem dX10_ache_29 : decode cX10_ache 29 = .ok (.invokestatic 82, 3) := by decide +kernel
theorem dX10_ache_32 : decode cX10_ache 32 = .ok (.ifCond .eq 23, 3) := by decide +kernel
theorem dX10_ache_35 : decode cX10_ache 35 = .ok (.aload_n 0, 1) := by decide +kernel
theorem dX10_ache_36 : decode cX10_ache 36 = .ok (.bipush 98, 2) := by decide +kernel
theorem dX10_ache_38 : decode cX10_ache 38 = .ok (.iload_n 1, 1) := by decide +kernel
theorem dX10_ache_39 : decode cX10_ache 39 = .ok (.iload_n 2, 1) := by decide +kernel
theorem dX10_ache_40 : decode cX10_ache 40 = .ok (.iload_n 3, 1) := by decide +kernel
theorem dX10_ache_41 : decode cX10_ache 41 = .ok (.ifCond .eq 7, 3) := by decide +kernel
theorem dX10_ache_44 : decode cX10_ache 44 = .ok (.iconst 1, 1) := by decide +kernel
theorem dX10_ache_45 : decode cX10_ache 45 = .ok (.goto 4, 3) := by decide +kernel
theorem dX10_ache_48 : decode cX10_ache 48 = .ok (.iconst 0, 1) := by decide +kernel
theorem dX10_ache_49 : decode cX10_ache 49 = .ok (.invokevirtual 229, 3) := by decide +kernel
theorem dX10_ache_52 : decode cX10_ache 52 = .ok (.goto 5, 3) := by decide +kernel
theorem dX10_ache_55 : decode cX10_ache 55 = .ok (.bipush (-2), 2) := by decide +kernel
theorem dX10_ache_57 : decode cX10_ache 57 = .ok (.ireturn, 1) := by decide +kernel
theorem dX10_isAllSo_0 : decode cX10_isAllSo 0 = .ok (.aload_n 0, 1) := by decide +kernel
theorem dX10_isAllSo_1 : decode cX10_isAllSo 1 = .ok (.getfield 9, 3) := by decide +kernel
theorem dX10_isAllSo_4 : decode cX10_isAllSo 4 = .ok (.aload_n 0, 1) := by decide +kernel
theorem dX10_isAllSo_5 : decode cX10_isAllSo 5 = .ok (.getfield 15, 3) := by decide +kernel
theorem dX10_isAllSo_8 : decode cX10_isAllSo 8 = .ok (.invokestatic 78, 3) := by decide +kernel
theorem dX10_isAllSo_11 : decode cX10_isAllSo 11 = .ok (.iconst 0, 1) := by decide +kernel
theorem dX10_isAllSo_12 : decode cX10_isAllSo 12 = .ok (.istore_n 2, 1) := by decide +kernel
theorem dX10_isAllSo_13 : decode cX10_isAllSo 13 = .ok (.iload_n 2, 1) := by decide +kernel
theorem dX10_isAllSo_14 : decode cX10_isAllSo 14 = .ok (.bipush 6, 2) := by decide +kernel
theorem dX10_isAllSo_16 : decode cX10_isAllSo 16 = .ok (.if_icmp .ge 21, 3) := by decide +kernel
theorem dX10_isAllSo_19 : decode cX10_isAllSo 19 = .ok (.aload_n 0, 1) := by decide +kernel
theorem dX10_isAllSo_20 : decode cX10_isAllSo 20 = .ok (.getfield 49, 3) := by decide +kernel
theorem dX10_isAllSo_23 : decode cX10_isAllSo 23 = .ok (.iload_n 2, 1) := by decide +kernel
theorem dX10_isAllSo_24 : decode cX10_isAllSo 24 = .ok (.aload_n 0, 1) := by decide +kernel
theorem dX10_isAllSo_25 : decode cX10_isAllSo 25 = .ok (.iload_n 2, 1) := by decide +kernel
theorem dX10_isAllSo_26 : decode cX10_isAllSo 26 = .ok (.iconst 4, 1) := by decide +kernel
theorem dX10_isAllSo_27 : decode cX10_isAllSo 27 = .ok (.invokevirtual 86, 3) := by decide +kernel
theorem dX10_isAllSo_30 : decode cX10_isAllSo 30 = .ok (.iastore, 1) := by decide +kernel
theorem dX10_isAllSo_31 : decode cX10_isAllSo 31 = .ok (.iinc 2 1, 3) := by decide +kernel
theorem dX10_isAllSo_34 : decode cX10_isAllSo 34 = .ok (.goto (-21), 3) := by decide +kernel
theorem dX10_isAllSo_37 : decode cX10_isAllSo 37 = .ok (.iconst 1, 1) := by decide +kernel
theorem dX10_isAllSo_38 : decode cX10_isAllSo 38 = .ok (.istore_n 2, 1) := by decide +kernel
theorem dX10_isAllSo_39 : decode cX10_isAllSo 39 = .ok (.iconst 0, 1) := by decide +kernel
theorem dX10_isAllSo_40 : decode cX10_isAllSo 40 = .ok (.istore_n 3, 1) := by decide +kernel
theorem dX10_isAllSo_41 : decode cX10_isAllSo 41 = .ok (.iload_n 3, 1) := by decide +kernel
theorem dX10_isAllSo_42 : decode cX10_isAllSo 42 = .ok (.bipush 12, 2) := by decide +kernel
theorem dX10_isAllSo_44 : decode cX10_isAllSo 44 = .ok (.if_icmp .gt 133, 3) := by decide +kernel
theorem dX10_isAllSo_47 : decode cX10_isAllSo 47 = .ok (.iload_n 2, 1) := by decide +kernel
theorem dX10_isAllSo_48 : decode cX10_isAllSo 48 = .ok (.ifCond .eq 129, 3) := by decide +kernel
theorem dX10_isAllSo_51 : decode cX10_isAllSo 51 = .ok (.iconst 0, 1) := by decide +kernel
theorem dX10_isAllSo_52 : decode cX10_isAllSo 52 = .ok (.istore 4, 2) := by decide +kernel
theorem dX10_isAllSo_54 : decode cX10_isAllSo 54 = .ok (.iload 4, 2) := by decide +kernel
theorem dX10_isAllSo_56 : decode cX10_isAllSo 56 = .ok (.aload_n 0, 1) := by decide +kernel
theorem dX10_isAllSo_57 : decode cX10_isAllSo 57 = .ok (.getfield 9, 3) := by decide +kernel
theorem dX10_isAllSo_60 : decode cX10_isAllSo 60 = .ok (.iload_n 1, 1) := by decide +kernel
theorem dX10_isAllSo_61 : decode cX10_isAllSo 61 = .ok (.iaload, 1) := by decide +kernel
theorem dX10_isAllSo_62 : decode cX10_isAllSo 62 = .ok (.if_icmp .ge 105, 3) := by decide +kernel
theorem dX10_isAllSo_65 : decode cX10_isAllSo 65 = .ok (.iload_n 1, 1) := by decide +kernel
theorem dX10_isAllSo_66 : decode cX10_isAllSo 66 = .ok (.iconst 1, 1) := by decide +kernel
theorem dX10_isAllSo_67 : decode cX10_isAllSo 67 = .ok (.iadd, 1) := by decide +kernel
theorem dX10_isAllSo_68 : decode cX10_isAllSo 68 = .ok (.iconst 3, 1) := by decide +kernel
theorem dX10_isAllSo_69 : decode cX10_isAllSo 69 = .ok (.iload 4, 2) := by decide +kernel
theorem dX10_isAllSo_71 : decode cX10_isAllSo 71 = .ok (.imul, 1) := by decide +kernel
theorem dX10_isAllSo_72 : decode cX10_isAllSo 72 = .ok (.iadd, 1) := by decide +kernel
theorem dX10_isAllSo_73 : decode cX10_isAllSo 73 = .ok (.istore 5, 2) := by decide +kernel
theorem dX10_isAllSo_75 : decode cX10_isAllSo 75 = .ok (.aload_n 0, 1) := by decide +kernel
theorem dX10_isAllSo_76 : decode cX10_isAllSo 76 = .ok (.getfield 9, 3) := by decide +kernel
theorem dX10_isAllSo_79 : decode cX10_isAllSo 79 = .ok (.iload 5, 2) := by decide +kernel
theorem dX10_isAllSo_81 : decode cX10_isAllSo 81 = .ok (.iaload, 1) := by decide +kernel
theorem dX10_isAllSo_82 : decode cX10_isAllSo 82 = .ok (.istore 6, 2) := by decide +kernel
theorem dX10_isAllSo_84 : decode cX10_isAllSo 84 = .ok (.iload_n 1, 1) := by decide +kernel
theorem dX10_isAllSo_85 : decode cX10_isAllSo 85 = .ok (.bipush 82, 2) := by decide +kernel
theorem dX10_isAllSo_87 : decode cX10_isAllSo 87 = .ok (.if_icmp .ne 13, 3) := by decide +kernel
theorem dX10_isAllSo_90 : decode cX10_isAllSo 90 = .ok (.aload_n 0, 1) := by decide +kernel
theorem dX10_isAllSo_91 : decode cX10_isAllSo 91 = .ok (.iload 6, 2) := by decide +kernel
theorem dX10_isAllSo_93 : decode cX10_isAllSo 93 = .ok (.iconst 2, 1) := by decide +kernel
theorem dX10_isAllSo_94 : decode cX10_isAllSo 94 = .ok (.invokevirtual 86, 3) := by decide +kernel
theorem dX10_isAllSo_97 : decode cX10_isAllSo 97 = .ok (.goto 25, 3) := by decide +kernel
theorem dX10_isAllSo_100 : decode cX10_isAllSo 100 = .ok (.aload_n 0, 1) := by decide +kernel
theorem dX10_isAllSo_101 : decode cX10_isAllSo 101 = .ok (.iload 6, 2) := by decide +kernel
theorem dX10_isAllSo_103 : decode cX10_isAllSo 103 = .ok (.iconst 4, 1) := by decide +kernel
theorem dX10_isAllSo_104 : decode cX10_isAllSo 104 = .ok (.invokevirtual 86, 3) := by decide +kernel
theorem dX10_isAllSo_107 : decode cX10_isAllSo 107 = .ok (.aload_n 0, 1) := by decide +kernel
theorem dX10_isAllSo_108 : decode cX10_isAllSo 108 = .ok (.getfield 49, 3) := by decide +kernel
theorem dX10_isAllSo_111 : decode cX10_isAllSo 111 = .ok (.iload 6, 2) := by decide +kernel
theorem dX10_isAllSo_113 : decode cX10_isAllSo 113 = .ok (.iaload, 1) := by decide +kernel
theorem dX10_isAllSo_114 : decode cX10_isAllSo 114 = .ok (.if_icmp .le 7, 3) := by decide +kernel
theorem dX10_isAllSo_117 : decode cX10_isAllSo 117 = .ok (.iconst 1, 1) := by decide +kernel
theorem dX10_isAllSo_118 : decode cX10_isAllSo 118 = .ok (.goto 4, 3) := by decide +kernel
theorem dX10_isAllSo_121 : decode cX10_isAllSo 121 = .ok (.iconst 0, 1) := by decide +kernel
theorem dX10_isAllSo_122 : decode cX10_isAllSo 122 = .ok (.istore 7, 2) := by decide +kernel
theorem dX10_isAllSo_124 : decode cX10_isAllSo 124 = .ok (.iload_n 2, 1) := by decide +kernel
theorem dX10_isAllSo_125 : decode cX10_isAllSo 125 = .ok (.ifCond .eq 34, 3) := by decide +kernel
theorem dX10_isAllSo_128 : decode cX10_isAllSo 128 = .ok (.aload_n 0, 1) := by decide +kernel
theorem dX10_isAllSo_129 : decode cX10_isAllSo 129 = .ok (.getfield 9, 3) := by decide +kernel
theorem dX10_isAllSo_132 : decode cX10_isAllSo 132 = .ok (.iload 5, 2) := by decide +kernel
theorem dX10_isAllSo_134 : decode cX10_isAllSo 134 = .ok (.iconst 1, 1) := by decide +kernel
theorem dX10_isAllSo_135 : decode cX10_isAllSo 135 = .ok (.iadd, 1) := by decide +kernel
theorem dX10_isAllSo_136 : decode cX10_isAllSo 136 = .ok (.iaload, 1) := by decide +kernel
theorem dX10_isAllSo_137 : decode cX10_isAllSo 137 = .ok (.iload_n 3, 1) := by decide +kernel
theorem dX10_isAllSo_138 : decode cX10_isAllSo 138 = .ok (.if_icmp .ne 17, 3) := by decide +kernel
theorem dX10_isAllSo_141 : decode cX10_isAllSo 141 = .ok (.iload 7, 2) := by decide +kernel
theorem dX10_isAllSo_143 : decode cX10_isAllSo 143 = .ok (.aload_n 0, 1) := by decide +kernel
theorem dX10_isAllSo_144 : decode cX10_isAllSo 144 = .ok (.getfield 9, 3) := by decide +kernel
theorem dX10_isAllSo_147 : decode cX10_isAllSo 147 = .ok (.iload 5, 2) := by decide +kernel
theorem dX10_isAllSo_149 : decode cX10_isAllSo 149 = .ok (.iconst 2, 1) := by decide +kernel
theorem dX10_isAllSo_150 : decode cX10_isAllSo 150 = .ok (.iadd, 1) := by decide +kernel
theorem dX10_isAllSo_151 : decode cX10_isAllSo 151 = .ok (.iaload, 1) := by decide +kernel
theorem dX10_isAllSo_152 : decode cX10_isAllSo 152 = .ok (.if_icmp .ne 7, 3) := by decide +kernel
theorem dX10_isAllSo_155 : decode cX10_isAllSo 155 = .ok (.iconst 1, 1) := by decide +kernel
theorem dX10_isAllSo_156 : decode cX10_isAllSo 156 = .ok (.goto 4, 3) := by decide +kernel
theorem dX10_isAllSo_159 : decode cX10_isAllSo 159 = .ok (.iconst 0, 1) := by decide +kernel
theorem dX10_isAllSo_160 : decode cX10_isAllSo 160 = .ok (.istore_n 2, 1) := by decide +kernel
theorem dX10_isAllSo_161 : decode cX10_isAllSo 161 = .ok (.iinc 4 1, 3) := by decide +kernel
theorem dX10_isAllSo_164 : decode cX10_isAllSo 164 = .ok (.goto (-110), 3) := by decide +kernel
theorem dX10_isAllSo_167 : decode cX10_isAllSo 167 = .ok (.aload_n 0, 1) := by decide +kernel
theorem dX10_isAllSo_168 : decode cX10_isAllSo 168 = .ok (.invokevirtual 199, 3) := by decide +kernel
theorem dX10_isAllSo_171 : decode cX10_isAllSo 171 = .ok (.iinc 3 1, 3) := by decide +kernel
theorem dX10_isAllSo_174 : decode cX10_isAllSo 174 = .ok (.goto (-133), 3) := by decide +kernel
theorem dX10_isAllSo_177 : decode cX10_isAllSo 177 = .ok (.aload_n 0, 1) := by decide +kernel
theorem dX10_isAllSo_178 : decode cX10_isAllSo 178 = .ok (.getfield 15, 3) := by decide +kernel
theorem dX10_isAllSo_181 : decode cX10_isAllSo 181 = .ok (.aload_n 0, 1) := by decide +kernel
theorem dX10_isAllSo_182 : decode cX10_isAllSo 182 = .ok (.getfield 9, 3) := by decide +kernel
theorem dX10_isAllSo_185 : decode cX10_isAllSo 185 = .ok (.invokestatic 78, 3) := by decide +kernel
theorem dX10_isAllSo_188 : decode cX10_isAllSo 188 = .ok (.iload_n 2, 1) := by decide +kernel
theorem dX10_isAllSo_189 : decode cX10_isAllSo 189 = .ok (.ireturn, 1) := by decide +kernel
theorem dX10_fits_0 : decode cX10_fits 0 = .ok (.aload_n 0, 1) := by decide +kernel
theorem dX10_fits_1 : decode cX10_fits 1 = .ok (.iload_n 1, 1) := by decide +kernel
theorem dX10_fits_2 : decode cX10_fits 2 = .ok (.iload_n 2, 1) := by decide +kernel
theorem dX10_fits_3 : decode cX10_fits 3 = .ok (.invokevirtual 86, 3) := by decide +kernel
theorem dX10_fits_6 : decode cX10_fits 6 = .ok (.istore 6, 2) := by decide +kernel
theorem dX10_fits_8 : decode cX10_fits 8 = .ok (.iconst 0, 1) := by decide +kernel
theorem dX10_fits_9 : decode cX10_fits 9 = .ok (.istore 7, 2) := by decide +kernel
theorem dX10_fits_11 : decode cX10_fits 11 = .ok (.bipush (-5), 2) := by decide +kernel
theorem dX10_fits_13 : decode cX10_fits 13 = .ok (.istore 8, 2) := by decide +kernel
theorem dX10_fits_15 : decode cX10_fits 15 = .ok (.iload_n 3, 1) := by decide +kernel
theorem dX10_fits_16 : decode cX10_fits 16 = .ok (.istore 9, 2) := by decide +kernel
theorem dX10_fits_18 : decode cX10_fits 18 = .ok (.iload 9, 2) := by decide +kernel
theorem dX10_fits_20 : decode cX10_fits 20 = .ok (.ifCond .lt 55, 3) := by decide +kernel
theorem dX10_fits_23 : decode cX10_fits 23 = .ok (.aload_n 0, 1) := by decide +kernel
theorem dX10_fits_24 : decode cX10_fits 24 = .ok (.iload_n 1, 1) := by decide +kernel
theorem dX10_fits_25 : decode cX10_fits 25 = .ok (.iload_n 2, 1) := by decide +kernel
theorem dX10_fits_26 : decode cX10_fits 26 = .ok (.iload 9, 2) := by decide +kernel
theorem dX10_fits_28 : decode cX10_fits 28 = .ok (.invokevirtual 93, 3) := by decide +kernel
theorem dX10_fits_31 : decode cX10_fits 31 = .ok (.pop, 1) := by decide +kernel
theorem dX10_fits_32 : decode cX10_fits 32 = .ok (.aload_n 0, 1) := by decide +kernel
theorem dX10_fits_33 : decode cX10_fits 33 = .ok (.iload 4, 2) := by decide +kernel
theorem dX10_fits_35 : decode cX10_fits 35 = .ok (.invokevirtual 233, 3) := by decide +kernel
theorem dX10_fits_38 : decode cX10_fits 38 = .ok (.istore 10, 2) := by decide +kernel
theorem dX10_fits_40 : decode cX10_fits 40 = .ok (.iload 7, 2) := by decide +kernel
theorem dX10_fits_42 : decode cX10_fits 42 = .ok (.iload 10, 2) := by decide +kernel
theorem dX10_fits_44 : decode cX10_fits 44 = .ok (.ifCond .eq 7, 3) := by decide +kernel
theorem dX10_fits_47 : decode cX10_fits 47 = .ok (.iconst 1, 1) := by decide +kernel
theorem dX10_fits_48 : decode cX10_fits 48 = .ok (.goto 4, 3) := by decide +kernel
theorem dX10_fits_51 : decode cX10_fits 51 = .ok (.iconst 0, 1) := by decide +kernel
theorem dX10_fits_52 : decode cX10_fits 52 = .ok (.iadd, 1) := by decide +kernel
theorem dX10_fits_53 : decode cX10_fits 53 = .ok (.istore 7, 2) := by decide +kernel
theorem dX10_fits_55 : decode cX10_fits 55 = .ok (.iload 10, 2) := by decide +kernel
theorem dX10_fits_57 : decode cX10_fits 57 = .ok (.ifCond .eq 8, 3) := by decide +kernel
theorem dX10_fits_60 : decode cX10_fits 60 = .ok (.iload 9, 2) := by decide +kernel
theorem dX10_fits_62 : decode cX10_fits 62 = .ok (.goto 5, 3) := by decide +kernel
theorem dX10_fits_65 : decode cX10_fits 65 = .ok (.iload 8, 2) := by decide +kernel
theorem dX10_fits_67 : decode cX10_fits 67 = .ok (.istore 8, 2) := by decide +kernel
theorem dX10_fits_69 : decode cX10_fits 69 = .ok (.iinc 9 (-1), 3) := by decide +kernel
theorem dX10_fits_72 : decode cX10_fits 72 = .ok (.goto (-54), 3) := by decide +kernel
theorem dX10_fits_75 : decode cX10_fits 75 = .ok (.aload_n 0, 1) := by decide +kernel
theorem dX10_fits_76 : decode cX10_fits 76 = .ok (.iload_n 1, 1) := by decide +kernel
theorem dX10_fits_77 : decode cX10_fits 77 = .ok (.iload_n 2, 1) := by decide +kernel
theorem dX10_fits_78 : decode cX10_fits 78 = .ok (.iload 6, 2) := by decide +kernel
theorem dX10_fits_80 : decode cX10_fits 80 = .ok (.invokevirtual 93, 3) := by decide +kernel
theorem dX10_fits_83 : decode cX10_fits 83 = .ok (.pop, 1) := by decide +kernel
theorem dX10_fits_84 : decode cX10_fits 84 = .ok (.iload 5, 2) := by decide +kernel
theorem dX10_fits_86 : decode cX10_fits 86 = .ok (.ifCond .eq 8, 3) := by decide +kernel
theorem dX10_fits_89 : decode cX10_fits 89 = .ok (.iload 7, 2) := by decide +kernel
theorem dX10_fits_91 : decode cX10_fits 91 = .ok (.goto 5, 3) := by decide +kernel
theorem dX10_fits_94 : decode cX10_fits 94 = .ok (.iload 8, 2) := by decide +kernel
theorem dX10_fits_96 : decode cX10_fits 96 = .ok (.ireturn, 1) := by decide +kernel
theorem dX10_covers_0 : decode cX10_covers 0 = .ok (.aload_n 0, 1) := by decide +kernel
theorem dX10_covers_1 : decode cX10_covers 1 = .ok (.iload_n 1, 1) := by decide +kernel
theorem dX10_covers_2 : decode cX10_covers 2 = .ok (.iconst 2, 1) := by decide +kernel
theorem dX10_covers_3 : decode cX10_covers 3 = .ok (.bipush 99, 2) := by decide +kernel
theorem dX10_covers_5 : decode cX10_covers 5 = .ok (.bipush 82, 2) := by decide +kernel
theorem dX10_covers_7 : decode cX10_covers 7 = .ok (.iload_n 2, 1) := by decide +kernel
theorem dX10_covers_8 : decode cX10_covers 8 = .ok (.invokevirtual 236, 3) := by decide +kernel
theorem dX10_covers_11 : decode cX10_covers 11 = .ok (.ireturn, 1) := by decide +kernel
theorem dX10_can_0 : decode cX10_can 0 = .ok (.aload_n 0, 1) := by decide +kernel
theorem dX10_can_1 : decode cX10_can 1 = .ok (.iload_n 1, 1) := by decide +kernel
theorem dX10_can_2 : decode cX10_can 2 = .ok (.invokevirtual 97, 3) := by decide +kernel
theorem dX10_can_5 : decode cX10_can 5 = .ok (.ifCond .eq 34, 3) := by decide +kernel
theorem dX10_can_8 : decode cX10_can 8 = .ok (.iload_n 2, 1) := by decide +kernel
theorem dX10_can_9 : decode cX10_can 9 = .ok (.iconst 0, 1) := by decide +kernel
theorem dX10_can_10 : decode cX10_can 10 = .ok (.iconst 1, 1) := by decide +kernel
theorem dX10_can_11 : decode cX10_can 11 = .ok (.invokestatic 82, 3) := by decide +kernel
theorem dX10_can_14 : decode cX10_can 14 = .ok (.ifCond .eq 25, 3) := by decide +kernel
theorem dX10_can_17 : decode cX10_can 17 = .ok (.aload_n 0, 1) := by decide +kernel
theorem dX10_can_18 : decode cX10_can 18 = .ok (.iload_n 1, 1) := by decide +kernel
theorem dX10_can_19 : decode cX10_can 19 = .ok (.iconst 1, 1) := by decide +kernel
theorem dX10_can_20 : decode cX10_can 20 = .ok (.bipush 9, 2) := by decide +kernel
theorem dX10_can_22 : decode cX10_can 22 = .ok (.bipush 98, 2) := by decide +kernel
theorem dX10_can_24 : decode cX10_can 24 = .ok (.iload_n 2, 1) := by decide +kernel
theorem dX10_can_25 : decode cX10_can 25 = .ok (.ifCond .ne 7, 3) := by decide +kernel
theorem dX10_can_28 : decode cX10_can 28 = .ok (.iconst 1, 1) := by decide +kernel
theorem dX10_can_29 : decode cX10_can 29 = .ok (.goto 4, 3) := by decide +kernel
theorem dX10_can_32 : decode cX10_can 32 = .ok (.iconst 0, 1) := by decide +kernel
theorem dX10_can_33 : decode cX10_can 33 = .ok (.invokevirtual 236, 3) := by decide +kernel
theorem dX10_can_36 : decode cX10_can 36 = .ok (.goto 4, 3) := by decide +kernel
theorem dX10_can_39 : decode cX10_can 39 = .ok (.iconst (-1), 1) := by decide +kernel
theorem dX10_can_40 : decode cX10_can 40 = .ok (.ireturn, 1) := by decide +kernel
theorem dX10_fraction_0 : decode cX10_fraction 0 = .ok (.lload_n 0, 1) := by decide +kernel
theorem dX10_fraction_1 : decode cX10_fraction 1 = .ok (.lstore 5, 2) := by decide +kernel
theorem dX10_fraction_3 : decode cX10_fraction 3 = .ok (.lload_n 2, 1) := by decide +kernel
theorem dX10_fraction_4 : decode cX10_fraction 4 = .ok (.lstore 7, 2) := by decide +kernel
theorem dX10_fraction_6 : decode cX10_fraction 6 = .ok (.lload 7, 2) := by decide +kernel
theorem dX10_fraction_8 : decode cX10_fraction 8 = .ok (.lconst 0, 1) := by decide +kernel
theorem dX10_fraction_9 : decode cX10_fraction 9 = .ok (.lcmp, 1) := by decide +kernel
theorem dX10_fraction_10 : decode cX10_fraction 10 = .ok (.ifCond .eq 21, 3) := by decide +kernel
theorem dX10_fraction_13 : decode cX10_fraction 13 = .ok (.lload 5, 2) := by decide +kernel
theorem dX10_fraction_15 : decode cX10_fraction 15 = .ok (.lload 7, 2) := by decide +kernel
theorem dX10_fraction_17 : decode cX10_fraction 17 = .ok (.lrem, 1) := by decide +kernel
theorem dX10_fraction_18 : decode cX10_fraction 18 = .ok (.lstore 9, 2) := by decide +kernel
theorem dX10_fraction_20 : decode cX10_fraction 20 = .ok (.lload 7, 2) := by decide +kernel
theorem dX10_fraction_22 : decode cX10_fraction 22 = .ok (.lstore 5, 2) := by decide +kernel
theorem dX10_fraction_24 : decode cX10_fraction 24 = .ok (.lload 9, 2) := by decide +kernel
theorem dX10_fraction_26 : decode cX10_fraction 26 = .ok (.lstore 7, 2) := by decide +kernel
theorem dX10_fraction_28 : decode cX10_fraction 28 = .ok (.goto (-22), 3) := by decide +kernel
theorem dX10_fraction_31 : decode cX10_fraction 31 = .ok (.iload 4, 2) := by decide +kernel
theorem dX10_fraction_33 : decode cX10_fraction 33 = .ok (.ifCond .ne 10, 3) := by decide +kernel
theorem dX10_fraction_36 : decode cX10_fraction 36 = .ok (.lload_n 0, 1) := by decide +kernel
theorem dX10_fraction_37 : decode cX10_fraction 37 = .ok (.lload 5, 2) := by decide +kernel
theorem dX10_fraction_39 : decode cX10_fraction 39 = .ok (.ldiv, 1) := by decide +kernel
theorem dX10_fraction_40 : decode cX10_fraction 40 = .ok (.goto 7, 3) := by decide +kernel
theorem dX10_fraction_43 : decode cX10_fraction 43 = .ok (.lload_n 2, 1) := by decide +kernel
theorem dX10_fraction_44 : decode cX10_fraction 44 = .ok (.lload 5, 2) := by decide +kernel
theorem dX10_fraction_46 : decode cX10_fraction 46 = .ok (.ldiv, 1) := by decide +kernel
theorem dX10_fraction_47 : decode cX10_fraction 47 = .ok (.lreturn, 1) := by decide +kernel
theorem dX10_odds_0 : decode cX10_odds 0 = .ok (.aload_n 0, 1) := by decide +kernel
theorem dX10_odds_1 : decode cX10_odds 1 = .ok (.iload_n 1, 1) := by decide +kernel
theorem dX10_odds_2 : decode cX10_odds 2 = .ok (.invokevirtual 108, 3) := by decide +kernel
theorem dX10_odds_5 : decode cX10_odds 5 = .ok (.ifCond .eq 31, 3) := by decide +kernel
theorem dX10_odds_8 : decode cX10_odds 8 = .ok (.aload_n 0, 1) := by decide +kernel
theorem dX10_odds_9 : decode cX10_odds 9 = .ok (.iload_n 2, 1) := by decide +kernel
theorem dX10_odds_10 : decode cX10_odds 10 = .ok (.invokevirtual 97, 3) := by decide +kernel
theorem dX10_odds_13 : decode cX10_odds 13 = .ok (.ifCond .eq 23, 3) := by decide +kernel
theorem dX10_odds_16 : decode cX10_odds 16 = .ok (.iload_n 3, 1) := by decide +kernel
theorem dX10_odds_17 : decode cX10_odds 17 = .ok (.iconst 0, 1) := by decide +kernel
theorem dX10_odds_18 : decode cX10_odds 18 = .ok (.bipush 20, 2) := by decide +kernel
theorem dX10_odds_20 : decode cX10_odds 20 = .ok (.invokestatic 82, 3) := by decide +kernel
theorem dX10_odds_23 : decode cX10_odds 23 = .ok (.ifCond .eq 13, 3) := by decide +kernel
theorem dX10_odds_26 : decode cX10_odds 26 = .ok (.iload 4, 2) := by decide +kernel
theorem dX10_odds_28 : decode cX10_odds 28 = .ok (.iconst 0, 1) := by decide +kernel
theorem dX10_odds_29 : decode cX10_odds 29 = .ok (.iconst 1, 1) := by decide +kernel
theorem dX10_odds_30 : decode cX10_odds 30 = .ok (.invokestatic 82, 3) := by decide +kernel
theorem dX10_odds_33 : decode cX10_odds 33 = .ok (.ifCond .ne 7, 3) := by decide +kernel
theorem dX10_odds_36 : decode cX10_odds 36 = .ok (.ldc2_w 240, 3) := by decide +kernel
theorem dX10_odds_39 : decode cX10_odds 39 = .ok (.lreturn, 1) := by decide +kernel
theorem dX10_odds_40 : decode cX10_odds 40 = .ok (.aload_n 0, 1) := by decide +kernel
theorem dX10_odds_41 : decode cX10_odds 41 = .ok (.iload_n 1, 1) := by decide +kernel
theorem dX10_odds_42 : decode cX10_odds 42 = .ok (.iconst 2, 1) := by decide +kernel
theorem dX10_odds_43 : decode cX10_odds 43 = .ok (.invokevirtual 90, 3) := by decide +kernel
theorem dX10_odds_46 : decode cX10_odds 46 = .ok (.istore 5, 2) := by decide +kernel
theorem dX10_odds_48 : decode cX10_odds 48 = .ok (.iconst 0, 1) := by decide +kernel
theorem dX10_odds_49 : decode cX10_odds 49 = .ok (.istore 6, 2) := by decide +kernel
theorem dX10_odds_51 : decode cX10_odds 51 = .ok (.iconst 0, 1) := by decide +kernel
theorem dX10_odds_52 : decode cX10_odds 52 = .ok (.istore 7, 2) := by decide +kernel
theorem dX10_odds_54 : decode cX10_odds 54 = .ok (.iload 7, 2) := by decide +kernel
theorem dX10_odds_56 : decode cX10_odds 56 = .ok (.aload_n 0, 1) := by decide +kernel
theorem dX10_odds_57 : decode cX10_odds 57 = .ok (.getfield 9, 3) := by decide +kernel
theorem dX10_odds_60 : decode cX10_odds 60 = .ok (.bipush 78, 2) := by decide +kernel
theorem dX10_odds_62 : decode cX10_odds 62 = .ok (.iaload, 1) := by decide +kernel
theorem dX10_odds_63 : decode cX10_odds 63 = .ok (.if_icmp .ge 45, 3) := by decide +kernel
theorem dX10_odds_66 : decode cX10_odds 66 = .ok (.aload_n 0, 1) := by decide +kernel
theorem dX10_odds_67 : decode cX10_odds 67 = .ok (.iload_n 1, 1) := by decide +kernel
theorem dX10_odds_68 : decode cX10_odds 68 = .ok (.iload 7, 2) := by decide +kernel
theorem dX10_odds_70 : decode cX10_odds 70 = .ok (.invokevirtual 114, 3) := by decide +kernel
theorem dX10_odds_73 : decode cX10_odds 73 = .ok (.pop, 1) := by decide +kernel
theorem dX10_odds_74 : decode cX10_odds 74 = .ok (.iload 6, 2) := by decide +kernel
theorem dX10_odds_76 : decode cX10_odds 76 = .ok (.aload_n 0, 1) := by decide +kernel
theorem dX10_odds_77 : decode cX10_odds 77 = .ok (.iload_n 3, 1) := by decide +kernel
theorem dX10_odds_78 : decode cX10_odds 78 = .ok (.bipush 30, 2) := by decide +kernel
theorem dX10_odds_80 : decode cX10_odds 80 = .ok (.iload_n 2, 1) := by decide +kernel
theorem dX10_odds_81 : decode cX10_odds 81 = .ok (.iadd, 1) := by decide +kernel
theorem dX10_odds_82 : decode cX10_odds 82 = .ok (.invokevirtual 242, 3) := by decide +kernel
theorem dX10_odds_85 : decode cX10_odds 85 = .ok (.aload_n 0, 1) := by decide +kernel
theorem dX10_odds_86 : decode cX10_odds 86 = .ok (.iload_n 2, 1) := by decide +kernel
theorem dX10_odds_87 : decode cX10_odds 87 = .ok (.iconst 4, 1) := by decide +kernel
theorem dX10_odds_88 : decode cX10_odds 88 = .ok (.invokevirtual 86, 3) := by decide +kernel
theorem dX10_odds_91 : decode cX10_odds 91 = .ok (.if_icmp .le 7, 3) := by decide +kernel
theorem dX10_odds_94 : decode cX10_odds 94 = .ok (.iconst 1, 1) := by decide +kernel
theorem dX10_odds_95 : decode cX10_odds 95 = .ok (.goto 4, 3) := by decide +kernel
theorem dX10_odds_98 : decode cX10_odds 98 = .ok (.iconst 0, 1) := by decide +kernel
theorem dX10_odds_99 : decode cX10_odds 99 = .ok (.iadd, 1) := by decide +kernel
theorem dX10_odds_100 : decode cX10_odds 100 = .ok (.istore 6, 2) := by decide +kernel
theorem dX10_odds_102 : decode cX10_odds 102 = .ok (.iinc 7 1, 3) := by decide +kernel
theorem dX10_odds_105 : decode cX10_odds 105 = .ok (.goto (-51), 3) := by decide +kernel
theorem dX10_odds_108 : decode cX10_odds 108 = .ok (.aload_n 0, 1) := by decide +kernel
theorem dX10_odds_109 : decode cX10_odds 109 = .ok (.iload_n 1, 1) := by decide +kernel
theorem dX10_odds_110 : decode cX10_odds 110 = .ok (.iload 5, 2) := by decide +kernel
theorem dX10_odds_112 : decode cX10_odds 112 = .ok (.invokevirtual 114, 3) := by decide +kernel
theorem dX10_odds_115 : decode cX10_odds 115 = .ok (.pop, 1) := by decide +kernel
theorem dX10_odds_116 : decode cX10_odds 116 = .ok (.iload 6, 2) := by decide +kernel
theorem dX10_odds_118 : decode cX10_odds 118 = .ok (.i2l, 1) := by decide +kernel
theorem dX10_odds_119 : decode cX10_odds 119 = .ok (.aload_n 0, 1) := by decide +kernel
theorem dX10_odds_120 : decode cX10_odds 120 = .ok (.getfield 9, 3) := by decide +kernel
theorem dX10_odds_123 : decode cX10_odds 123 = .ok (.bipush 78, 2) := by decide +kernel
theorem dX10_odds_125 : decode cX10_odds 125 = .ok (.iaload, 1) := by decide +kernel
theorem dX10_odds_126 : decode cX10_odds 126 = .ok (.i2l, 1) := by decide +kernel
theorem dX10_odds_127 : decode cX10_odds 127 = .ok (.iload 4, 2) := by decide +kernel
theorem dX10_odds_129 : decode cX10_odds 129 = .ok (.invokestatic 245, 3) := by decide +kernel
theorem dX10_odds_132 : decode cX10_odds 132 = .ok (.lreturn, 1) := by decide +kernel
theorem dX10_mean_0 : decode cX10_mean 0 = .ok (.iload_n 1, 1) := by decide +kernel
theorem dX10_mean_1 : decode cX10_mean 1 = .ok (.iconst 0, 1) := by decide +kernel
theorem dX10_mean_2 : decode cX10_mean 2 = .ok (.bipush 60, 2) := by decide +kernel
theorem dX10_mean_4 : decode cX10_mean 4 = .ok (.invokestatic 82, 3) := by decide +kernel
theorem dX10_mean_7 : decode cX10_mean 7 = .ok (.ifCond .eq 22, 3) := by decide +kernel
theorem dX10_mean_10 : decode cX10_mean 10 = .ok (.iload_n 2, 1) := by decide +kernel
theorem dX10_mean_11 : decode cX10_mean 11 = .ok (.iconst 0, 1) := by decide +kernel
theorem dX10_mean_12 : decode cX10_mean 12 = .ok (.iconst 1, 1) := by decide +kernel
theorem dX10_mean_13 : decode cX10_mean 13 = .ok (.invokestatic 82, 3) := by decide +kernel
theorem dX10_mean_16 : decode cX10_mean 16 = .ok (.ifCond .eq 13, 3) := by decide +kernel
theorem dX10_mean_19 : decode cX10_mean 19 = .ok (.aload_n 0, 1) := by decide +kernel
theorem dX10_mean_20 : decode cX10_mean 20 = .ok (.getfield 9, 3) := by decide +kernel
theorem dX10_mean_23 : decode cX10_mean 23 = .ok (.bipush 78, 2) := by decide +kernel
theorem dX10_mean_25 : decode cX10_mean 25 = .ok (.iaload, 1) := by decide +kernel
theorem dX10_mean_26 : decode cX10_mean 26 = .ok (.ifCond .ne 7, 3) := by decide +kernel
theorem dX10_mean_29 : decode cX10_mean 29 = .ok (.ldc2_w 240, 3) := by decide +kernel
theorem dX10_mean_32 : decode cX10_mean 32 = .ok (.lreturn, 1) := by decide +kernel
theorem dX10_mean_33 : decode cX10_mean 33 = .ok (.aload_n 0, 1) := by decide +kernel
theorem dX10_mean_34 : decode cX10_mean 34 = .ok (.getfield 9, 3) := by decide +kernel
theorem dX10_mean_37 : decode cX10_mean 37 = .ok (.aload_n 0, 1) := by decide +kernel
theorem dX10_mean_38 : decode cX10_mean 38 = .ok (.getfield 15, 3) := by decide +kernel
theorem dX10_mean_41 : decode cX10_mean 41 = .ok (.invokestatic 78, 3) := by decide +kernel
theorem dX10_mean_44 : decode cX10_mean 44 = .ok (.aload_n 0, 1) := by decide +kernel
theorem dX10_mean_45 : decode cX10_mean 45 = .ok (.iload_n 1, 1) := by decide +kernel
theorem dX10_mean_46 : decode cX10_mean 46 = .ok (.invokevirtual 205, 3) := by decide +kernel
theorem dX10_mean_49 : decode cX10_mean 49 = .ok (.aload_n 0, 1) := by decide +kernel
theorem dX10_mean_50 : decode cX10_mean 50 = .ok (.iconst 2, 1) := by decide +kernel
theorem dX10_mean_51 : decode cX10_mean 51 = .ok (.invokevirtual 202, 3) := by decide +kernel
theorem dX10_mean_54 : decode cX10_mean 54 = .ok (.istore_n 3, 1) := by decide +kernel
theorem dX10_mean_55 : decode cX10_mean 55 = .ok (.aload_n 0, 1) := by decide +kernel
theorem dX10_mean_56 : decode cX10_mean 56 = .ok (.getfield 15, 3) := by decide +kernel
theorem dX10_mean_59 : decode cX10_mean 59 = .ok (.aload_n 0, 1) := by decide +kernel
theorem dX10_mean_60 : decode cX10_mean 60 = .ok (.getfield 9, 3) := by decide +kernel
theorem dX10_mean_63 : decode cX10_mean 63 = .ok (.invokestatic 78, 3) := by decide +kernel
theorem dX10_mean_66 : decode cX10_mean 66 = .ok (.iload_n 3, 1) := by decide +kernel
theorem dX10_mean_67 : decode cX10_mean 67 = .ok (.i2l, 1) := by decide +kernel
theorem dX10_mean_68 : decode cX10_mean 68 = .ok (.aload_n 0, 1) := by decide +kernel
theorem dX10_mean_69 : decode cX10_mean 69 = .ok (.getfield 9, 3) := by decide +kernel
theorem dX10_mean_72 : decode cX10_mean 72 = .ok (.bipush 78, 2) := by decide +kernel
theorem dX10_mean_74 : decode cX10_mean 74 = .ok (.iaload, 1) := by decide +kernel
theorem dX10_mean_75 : decode cX10_mean 75 = .ok (.i2l, 1) := by decide +kernel
theorem dX10_mean_76 : decode cX10_mean 76 = .ok (.iload_n 2, 1) := by decide +kernel
theorem dX10_mean_77 : decode cX10_mean 77 = .ok (.invokestatic 245, 3) := by decide +kernel
theorem dX10_mean_80 : decode cX10_mean 80 = .ok (.lreturn, 1) := by decide +kernel
theorem dX10_plan_0 : decode cX10_plan 0 = .ok (.iload_n 1, 1) := by decide +kernel
theorem dX10_plan_1 : decode cX10_plan 1 = .ok (.iconst (-1), 1) := by decide +kernel
theorem dX10_plan_2 : decode cX10_plan 2 = .ok (.if_icmp .ne 13, 3) := by decide +kernel
theorem dX10_plan_5 : decode cX10_plan 5 = .ok (.aload_n 0, 1) := by decide +kernel
theorem dX10_plan_6 : decode cX10_plan 6 = .ok (.getfield 9, 3) := by decide +kernel
theorem dX10_plan_9 : decode cX10_plan 9 = .ok (.bipush 114, 2) := by decide +kernel
theorem dX10_plan_11 : decode cX10_plan 11 = .ok (.iconst 0, 1) := by decide +kernel
theorem dX10_plan_12 : decode cX10_plan 12 = .ok (.iastore, 1) := by decide +kernel
theorem dX10_plan_13 : decode cX10_plan 13 = .ok (.iconst 0, 1) := by decide +kernel
theorem dX10_plan_14 : decode cX10_plan 14 = .ok (.ireturn, 1) := by decide +kernel
theorem dX10_plan_15 : decode cX10_plan 15 = .ok (.iload_n 1, 1) := by decide +kernel
theorem dX10_plan_16 : decode cX10_plan 16 = .ok (.ifCond .eq 34, 3) := by decide +kernel
theorem dX10_plan_19 : decode cX10_plan 19 = .ok (.iload_n 1, 1) := by decide +kernel
theorem dX10_plan_20 : decode cX10_plan 20 = .ok (.iconst 1, 1) := by decide +kernel
theorem dX10_plan_21 : decode cX10_plan 21 = .ok (.if_icmp .eq 8, 3) := by decide +kernel
theorem dX10_plan_24 : decode cX10_plan 24 = .ok (.iload_n 1, 1) := by decide +kernel
theorem dX10_plan_25 : decode cX10_plan 25 = .ok (.iconst 3, 1) := by decide +kernel
theorem dX10_plan_26 : decode cX10_plan 26 = .ok (.if_icmp .ne 11, 3) := by decide +kernel
theorem dX10_plan_29 : decode cX10_plan 29 = .ok (.aload_n 0, 1) := by decide +kernel
theorem dX10_plan_30 : decode cX10_plan 30 = .ok (.iload_n 2, 1) := by decide +kernel
theorem dX10_plan_31 : decode cX10_plan 31 = .ok (.invokevirtual 97, 3) := by decide +kernel
theorem dX10_plan_34 : decode cX10_plan 34 = .ok (.ifCond .ne 16, 3) := by decide +kernel
theorem dX10_plan_37 : decode cX10_plan 37 = .ok (.iload_n 1, 1) := by decide +kernel
theorem dX10_plan_38 : decode cX10_plan 38 = .ok (.iconst 2, 1) := by decide +kernel
theorem dX10_plan_39 : decode cX10_plan 39 = .ok (.if_icmp .ne 15, 3) := by decide +kernel
theorem dX10_plan_42 : decode cX10_plan 42 = .ok (.aload_n 0, 1) := by decide +kernel
theorem dX10_plan_43 : decode cX10_plan 43 = .ok (.iload_n 2, 1) := by decide +kernel
theorem dX10_plan_44 : decode cX10_plan 44 = .ok (.invokevirtual 108, 3) := by decide +kernel
theorem dX10_plan_47 : decode cX10_plan 47 = .ok (.ifCond .eq 7, 3) := by decide +kernel
theorem dX10_plan_50 : decode cX10_plan 50 = .ok (.iconst 1, 1) := by decide +kernel
theorem dX10_plan_51 : decode cX10_plan 51 = .ok (.goto 4, 3) := by decide +kernel
theorem dX10_plan_54 : decode cX10_plan 54 = .ok (.iconst 0, 1) := by decide +kernel
theorem dX10_plan_55 : decode cX10_plan 55 = .ok (.istore_n 3, 1) := by decide +kernel
theorem dX10_plan_56 : decode cX10_plan 56 = .ok (.iload_n 3, 1) := by decide +kernel
theorem dX10_plan_57 : decode cX10_plan 57 = .ok (.ifCond .ne 5, 3) := by decide +kernel
theorem dX10_plan_60 : decode cX10_plan 60 = .ok (.iconst (-1), 1) := by decide +kernel
theorem dX10_plan_61 : decode cX10_plan 61 = .ok (.ireturn, 1) := by decide +kernel
theorem dX10_plan_62 : decode cX10_plan 62 = .ok (.aload_n 0, 1) := by decide +kernel
theorem dX10_plan_63 : decode cX10_plan 63 = .ok (.getfield 9, 3) := by decide +kernel
theorem dX10_plan_66 : decode cX10_plan 66 = .ok (.bipush 114, 2) := by decide +kernel
theorem dX10_plan_68 : decode cX10_plan 68 = .ok (.iaload, 1) := by decide +kernel
theorem dX10_plan_69 : decode cX10_plan 69 = .ok (.bipush 10, 2) := by decide +kernel
theorem dX10_plan_71 : decode cX10_plan 71 = .ok (.if_icmp .ne 6, 3) := by decide +kernel
theorem dX10_plan_74 : decode cX10_plan 74 = .ok (.bipush (-4), 2) := by decide +kernel
theorem dX10_plan_76 : decode cX10_plan 76 = .ok (.ireturn, 1) := by decide +kernel
theorem dX10_plan_77 : decode cX10_plan 77 = .ok (.aload_n 0, 1) := by decide +kernel
theorem dX10_plan_78 : decode cX10_plan 78 = .ok (.getfield 9, 3) := by decide +kernel
theorem dX10_plan_81 : decode cX10_plan 81 = .ok (.bipush 115, 2) := by decide +kernel
theorem dX10_plan_83 : decode cX10_plan 83 = .ok (.iconst 2, 1) := by decide +kernel
theorem dX10_plan_84 : decode cX10_plan 84 = .ok (.aload_n 0, 1) := by decide +kernel
theorem dX10_plan_85 : decode cX10_plan 85 = .ok (.getfield 9, 3) := by decide +kernel
theorem dX10_plan_88 : decode cX10_plan 88 = .ok (.bipush 114, 2) := by decide +kernel
theorem dX10_plan_90 : decode cX10_plan 90 = .ok (.iaload, 1) := by decide +kernel
theorem dX10_plan_91 : decode cX10_plan 91 = .ok (.imul, 1) := by decide +kernel
theorem dX10_plan_92 : decode cX10_plan 92 = .ok (.iadd, 1) := by decide +kernel
theorem dX10_plan_93 : decode cX10_plan 93 = .ok (.iload_n 1, 1) := by decide +kernel
theorem dX10_plan_94 : decode cX10_plan 94 = .ok (.iastore, 1) := by decide +kernel
theorem dX10_plan_95 : decode cX10_plan 95 = .ok (.aload_n 0, 1) := by decide +kernel
theorem dX10_plan_96 : decode cX10_plan 96 = .ok (.getfield 9, 3) := by decide +kernel
theorem dX10_plan_99 : decode cX10_plan 99 = .ok (.bipush 116, 2) := by decide +kernel
theorem dX10_plan_101 : decode cX10_plan 101 = .ok (.iconst 2, 1) := by decide +kernel
theorem dX10_plan_102 : decode cX10_plan 102 = .ok (.aload_n 0, 1) := by decide +kernel
theorem dX10_plan_103 : decode cX10_plan 103 = .ok (.getfield 9, 3) := by decide +kernel
theorem dX10_plan_106 : decode cX10_plan 106 = .ok (.bipush 114, 2) := by decide +kernel
theorem dX10_plan_108 : decode cX10_plan 108 = .ok (.iaload, 1) := by decide +kernel
theorem dX10_plan_109 : decode cX10_plan 109 = .ok (.imul, 1) := by decide +kernel
theorem dX10_plan_110 : decode cX10_plan 110 = .ok (.iadd, 1) := by decide +kernel
theorem dX10_plan_111 : decode cX10_plan 111 = .ok (.iload_n 2, 1) := by decide +kernel
theorem dX10_plan_112 : decode cX10_plan 112 = .ok (.iastore, 1) := by decide +kernel
theorem dX10_plan_113 : decode cX10_plan 113 = .ok (.aload_n 0, 1) := by decide +kernel
theorem dX10_plan_114 : decode cX10_plan 114 = .ok (.getfield 9, 3) := by decide +kernel
theorem dX10_plan_117 : decode cX10_plan 117 = .ok (.bipush 114, 2) := by decide +kernel
theorem dX10_plan_119 : decode cX10_plan 119 = .ok (.dup2, 1) := by decide +kernel
theorem dX10_plan_120 : decode cX10_plan 120 = .ok (.iaload, 1) := by decide +kernel
theorem dX10_plan_121 : decode cX10_plan 121 = .ok (.iconst 1, 1) := by decide +kernel
theorem dX10_plan_122 : decode cX10_plan 122 = .ok (.iadd, 1) := by decide +kernel
theorem dX10_plan_123 : decode cX10_plan 123 = .ok (.iastore, 1) := by decide +kernel
theorem dX10_plan_124 : decode cX10_plan 124 = .ok (.aload_n 0, 1) := by decide +kernel
theorem dX10_plan_125 : decode cX10_plan 125 = .ok (.getfield 9, 3) := by decide +kernel
theorem dX10_plan_128 : decode cX10_plan 128 = .ok (.bipush 114, 2) := by decide +kernel
theorem dX10_plan_130 : decode cX10_plan 130 = .ok (.iaload, 1) := by decide +kernel
theorem dX10_plan_131 : decode cX10_plan 131 = .ok (.ireturn, 1) := by decide +kernel
theorem dX10_ends_0 : decode cX10_ends 0 = .ok (.iload_n 1, 1) := by decide +kernel
theorem dX10_ends_1 : decode cX10_ends 1 = .ok (.iconst 0, 1) := by decide +kernel
theorem dX10_ends_2 : decode cX10_ends 2 = .ok (.iconst 1, 1) := by decide +kernel
theorem dX10_ends_3 : decode cX10_ends 3 = .ok (.invokestatic 82, 3) := by decide +kernel
theorem dX10_ends_6 : decode cX10_ends 6 = .ok (.ifCond .ne 5, 3) := by decide +kernel
theorem dX10_ends_9 : decode cX10_ends 9 = .ok (.iconst (-1), 1) := by decide +kernel
theorem dX10_ends_10 : decode cX10_ends 10 = .ok (.ireturn, 1) := by decide +kernel
theorem dX10_ends_11 : decode cX10_ends 11 = .ok (.aload_n 0, 1) := by decide +kernel
theorem dX10_ends_12 : decode cX10_ends 12 = .ok (.getfield 9, 3) := by decide +kernel
theorem dX10_ends_15 : decode cX10_ends 15 = .ok (.aload_n 0, 1) := by decide +kernel
theorem dX10_ends_16 : decode cX10_ends 16 = .ok (.getfield 15, 3) := by decide +kernel
theorem dX10_ends_19 : decode cX10_ends 19 = .ok (.invokestatic 78, 3) := by decide +kernel
theorem dX10_ends_22 : decode cX10_ends 22 = .ok (.iconst 0, 1) := by decide +kernel
theorem dX10_ends_23 : decode cX10_ends 23 = .ok (.istore_n 2, 1) := by decide +kernel
theorem dX10_ends_24 : decode cX10_ends 24 = .ok (.iload_n 2, 1) := by decide +kernel
theorem dX10_ends_25 : decode cX10_ends 25 = .ok (.aload_n 0, 1) := by decide +kernel
theorem dX10_ends_26 : decode cX10_ends 26 = .ok (.getfield 9, 3) := by decide +kernel
theorem dX10_ends_29 : decode cX10_ends 29 = .ok (.bipush 114, 2) := by decide +kernel
theorem dX10_ends_31 : decode cX10_ends 31 = .ok (.iaload, 1) := by decide +kernel
theorem dX10_ends_32 : decode cX10_ends 32 = .ok (.if_icmp .ge 88, 3) := by decide +kernel
theorem dX10_ends_35 : decode cX10_ends 35 = .ok (.aload_n 0, 1) := by decide +kernel
theorem dX10_ends_36 : decode cX10_ends 36 = .ok (.getfield 9, 3) := by decide +kernel
theorem dX10_ends_39 : decode cX10_ends 39 = .ok (.bipush 115, 2) := by decide +kernel
theorem dX10_ends_41 : decode cX10_ends 41 = .ok (.iconst 2, 1) := by decide +kernel
theorem dX10_ends_42 : decode cX10_ends 42 = .ok (.iload_n 2, 1) := by decide +kernel
theorem dX10_ends_43 : decode cX10_ends 43 = .ok (.imul, 1) := by decide +kernel
theorem dX10_ends_44 : decode cX10_ends 44 = .ok (.iadd, 1) := by decide +kernel
theorem dX10_ends_45 : decode cX10_ends 45 = .ok (.iaload, 1) := by decide +kernel
theorem dX10_ends_46 : decode cX10_ends 46 = .ok (.istore_n 3, 1) := by decide +kernel
theorem dX10_ends_47 : decode cX10_ends 47 = .ok (.aload_n 0, 1) := by decide +kernel
theorem dX10_ends_48 : decode cX10_ends 48 = .ok (.getfield 9, 3) := by decide +kernel
theorem dX10_ends_51 : decode cX10_ends 51 = .ok (.bipush 116, 2) := by decide +kernel
theorem dX10_ends_53 : decode cX10_ends 53 = .ok (.iconst 2, 1) := by decide +kernel
theorem dX10_ends_54 : decode cX10_ends 54 = .ok (.iload_n 2, 1) := by decide +kernel
theorem dX10_ends_55 : decode cX10_ends 55 = .ok (.imul, 1) := by decide +kernel
theorem dX10_ends_56 : decode cX10_ends 56 = .ok (.iadd, 1) := by decide +kernel
theorem dX10_ends_57 : decode cX10_ends 57 = .ok (.iaload, 1) := by decide +kernel
theorem dX10_ends_58 : decode cX10_ends 58 = .ok (.istore 4, 2) := by decide +kernel
theorem dX10_ends_60 : decode cX10_ends 60 = .ok (.iload_n 3, 1) := by decide +kernel
theorem dX10_ends_61 : decode cX10_ends 61 = .ok (.ifCond .ne 10, 3) := by decide +kernel
theorem dX10_ends_64 : decode cX10_ends 64 = .ok (.aload_n 0, 1) := by decide +kernel
theorem dX10_ends_65 : decode cX10_ends 65 = .ok (.invokevirtual 199, 3) := by decide +kernel
theorem dX10_ends_68 : decode cX10_ends 68 = .ok (.goto 46, 3) := by decide +kernel
theorem dX10_ends_71 : decode cX10_ends 71 = .ok (.iload_n 3, 1) := by decide +kernel
theorem dX10_ends_72 : decode cX10_ends 72 = .ok (.iconst 1, 1) := by decide +kernel
theorem dX10_ends_73 : decode cX10_ends 73 = .ok (.if_icmp .ne 16, 3) := by decide +kernel
theorem dX10_ends_76 : decode cX10_ends 76 = .ok (.aload_n 0, 1) := by decide +kernel
theorem dX10_ends_77 : decode cX10_ends 77 = .ok (.iload 4, 2) := by decide +kernel
theorem dX10_ends_79 : decode cX10_ends 79 = .ok (.iconst 2, 1) := by decide +kernel
theorem dX10_ends_80 : decode cX10_ends 80 = .ok (.bipush 99, 2) := by decide +kernel
theorem dX10_ends_82 : decode cX10_ends 82 = .ok (.invokevirtual 93, 3) := by decide +kernel
theorem dX10_ends_85 : decode cX10_ends 85 = .ok (.pop, 1) := by decide +kernel
theorem dX10_ends_86 : decode cX10_ends 86 = .ok (.goto 28, 3) := by decide +kernel
theorem dX10_ends_89 : decode cX10_ends 89 = .ok (.iload_n 3, 1) := by decide +kernel
theorem dX10_ends_90 : decode cX10_ends 90 = .ok (.iconst 2, 1) := by decide +kernel
theorem dX10_ends_91 : decode cX10_ends 91 = .ok (.if_icmp .ne 14, 3) := by decide +kernel
theorem dX10_ends_94 : decode cX10_ends 94 = .ok (.aload_n 0, 1) := by decide +kernel
theorem dX10_ends_95 : decode cX10_ends 95 = .ok (.iload 4, 2) := by decide +kernel
theorem dX10_ends_97 : decode cX10_ends 97 = .ok (.iconst (-1), 1) := by decide +kernel
theorem dX10_ends_98 : decode cX10_ends 98 = .ok (.invokevirtual 114, 3) := by decide +kernel
theorem dX10_ends_101 : decode cX10_ends 101 = .ok (.pop, 1) := by decide +kernel
theorem dX10_ends_102 : decode cX10_ends 102 = .ok (.goto 12, 3) := by decide +kernel
theorem dX10_ends_105 : decode cX10_ends 105 = .ok (.aload_n 0, 1) := by decide +kernel
theorem dX10_ends_106 : decode cX10_ends 106 = .ok (.iload 4, 2) := by decide +kernel
theorem dX10_ends_108 : decode cX10_ends 108 = .ok (.iconst 4, 1) := by decide +kernel
theorem dX10_ends_109 : decode cX10_ends 109 = .ok (.iconst 0, 1) := by decide +kernel
theorem dX10_ends_110 : decode cX10_ends 110 = .ok (.invokevirtual 93, 3) := by decide +kernel
theorem dX10_ends_113 : decode cX10_ends 113 = .ok (.pop, 1) := by decide +kernel
theorem dX10_ends_114 : decode cX10_ends 114 = .ok (.iinc 2 1, 3) := by decide +kernel
theorem dX10_ends_117 : decode cX10_ends 117 = .ok (.goto (-93), 3) := by decide +kernel
theorem dX10_ends_120 : decode cX10_ends 120 = .ok (.iload_n 1, 1) := by decide +kernel
theorem dX10_ends_121 : decode cX10_ends 121 = .ok (.ifCond .ne 11, 3) := by decide +kernel
theorem dX10_ends_124 : decode cX10_ends 124 = .ok (.aload_n 0, 1) := by decide +kernel
theorem dX10_ends_125 : decode cX10_ends 125 = .ok (.iconst 4, 1) := by decide +kernel
theorem dX10_ends_126 : decode cX10_ends 126 = .ok (.invokevirtual 202, 3) := by decide +kernel
theorem dX10_ends_129 : decode cX10_ends 129 = .ok (.goto 8, 3) := by decide +kernel
theorem dX10_ends_132 : decode cX10_ends 132 = .ok (.aload_n 0, 1) := by decide +kernel
theorem dX10_ends_133 : decode cX10_ends 133 = .ok (.iconst 2, 1) := by decide +kernel
theorem dX10_ends_134 : decode cX10_ends 134 = .ok (.invokevirtual 202, 3) := by decide +kernel
theorem dX10_ends_137 : decode cX10_ends 137 = .ok (.istore_n 2, 1) := by decide +kernel
theorem dX10_ends_138 : decode cX10_ends 138 = .ok (.aload_n 0, 1) := by decide +kernel
theorem dX10_ends_139 : decode cX10_ends 139 = .ok (.getfield 15, 3) := by decide +kernel
theorem dX10_ends_142 : decode cX10_ends 142 = .ok (.aload_n 0, 1) := by decide +kernel
theorem dX10_ends_143 : decode cX10_ends 143 = .ok (.getfield 9, 3) := by decide +kernel
theorem dX10_ends_146 : decode cX10_ends 146 = .ok (.invokestatic 78, 3) := by decide +kernel
theorem dX10_ends_149 : decode cX10_ends 149 = .ok (.iload_n 2, 1) := by decide +kernel
theorem dX10_ends_150 : decode cX10_ends 150 = .ok (.ireturn, 1) := by decide +kernel
theorem dX10_book_0 : decode cX10_book 0 = .ok (.iload_n 1, 1) := by decide +kernel
theorem dX10_book_1 : decode cX10_book 1 = .ok (.iconst (-1), 1) := by decide +kernel
theorem dX10_book_2 : decode cX10_book 2 = .ok (.if_icmp .ne 14, 3) := by decide +kernel
theorem dX10_book_5 : decode cX10_book 5 = .ok (.aload_n 0, 1) := by decide +kernel
theorem dX10_book_6 : decode cX10_book 6 = .ok (.getfield 9, 3) := by decide +kernel
theorem dX10_book_9 : decode cX10_book 9 = .ok (.sipush 135, 3) := by decide +kernel
theorem dX10_book_12 : decode cX10_book 12 = .ok (.iconst 0, 1) := by decide +kernel
theorem dX10_book_13 : decode cX10_book 13 = .ok (.iastore, 1) := by decide +kernel
theorem dX10_book_14 : decode cX10_book 14 = .ok (.iconst 0, 1) := by decide +kernel
theorem dX10_book_15 : decode cX10_book 15 = .ok (.ireturn, 1) := by decide +kernel
theorem dX10_book_16 : decode cX10_book 16 = .ok (.aload_n 0, 1) := by decide +kernel
theorem dX10_book_17 : decode cX10_book 17 = .ok (.iload_n 1, 1) := by decide +kernel
theorem dX10_book_18 : decode cX10_book 18 = .ok (.invokevirtual 97, 3) := by decide +kernel
theorem dX10_book_21 : decode cX10_book 21 = .ok (.ifCond .ne 5, 3) := by decide +kernel
theorem dX10_book_24 : decode cX10_book 24 = .ok (.iconst (-1), 1) := by decide +kernel
theorem dX10_book_25 : decode cX10_book 25 = .ok (.ireturn, 1) := by decide +kernel
theorem dX10_book_26 : decode cX10_book 26 = .ok (.iload_n 2, 1) := by decide +kernel
theorem dX10_book_27 : decode cX10_book 27 = .ok (.iconst 0, 1) := by decide +kernel
theorem dX10_book_28 : decode cX10_book 28 = .ok (.bipush 99, 2) := by decide +kernel
theorem dX10_book_30 : decode cX10_book 30 = .ok (.invokestatic 82, 3) := by decide +kernel
theorem dX10_book_33 : decode cX10_book 33 = .ok (.ifCond .ne 6, 3) := by decide +kernel
theorem dX10_book_36 : decode cX10_book 36 = .ok (.bipush (-2), 2) := by decide +kernel
theorem dX10_book_38 : decode cX10_book 38 = .ok (.ireturn, 1) := by decide +kernel
theorem dX10_book_39 : decode cX10_book 39 = .ok (.aload_n 0, 1) := by decide +kernel
theorem dX10_book_40 : decode cX10_book 40 = .ok (.getfield 9, 3) := by decide +kernel
theorem dX10_book_43 : decode cX10_book 43 = .ok (.sipush 135, 3) := by decide +kernel
theorem dX10_book_46 : decode cX10_book 46 = .ok (.iaload, 1) := by decide +kernel
theorem dX10_book_47 : decode cX10_book 47 = .ok (.bipush 8, 2) := by decide +kernel
theorem dX10_book_49 : decode cX10_book 49 = .ok (.if_icmp .ne 6, 3) := by decide +kernel
theorem dX10_book_52 : decode cX10_book 52 = .ok (.bipush (-4), 2) := by decide +kernel
theorem dX10_book_54 : decode cX10_book 54 = .ok (.ireturn, 1) := by decide +kernel
theorem dX10_book_55 : decode cX10_book 55 = .ok (.aload_n 0, 1) := by decide +kernel
theorem dX10_book_56 : decode cX10_book 56 = .ok (.getfield 9, 3) := by decide +kernel
theorem dX10_book_59 : decode cX10_book 59 = .ok (.sipush 136, 3) := by decide +kernel
theorem dX10_book_62 : decode cX10_book 62 = .ok (.iconst 2, 1) := by decide +kernel
theorem dX10_book_63 : decode cX10_book 63 = .ok (.aload_n 0, 1) := by decide +kernel
theorem dX10_book_64 : decode cX10_book 64 = .ok (.getfield 9, 3) := by decide +kernel
theorem dX10_book_67 : decode cX10_book 67 = .ok (.sipush 135, 3) := by decide +kernel
theorem dX10_book_70 : decode cX10_book 70 = .ok (.iaload, 1) := by decide +kernel
theorem dX10_book_71 : decode cX10_book 71 = .ok (.imul, 1) := by decide +kernel
theorem dX10_book_72 : decode cX10_book 72 = .ok (.iadd, 1) := by decide +kernel
theorem dX10_book_73 : decode cX10_book 73 = .ok (.iload_n 1, 1) := by decide +kernel
theorem dX10_book_74 : decode cX10_book 74 = .ok (.iastore, 1) := by decide +kernel
theorem dX10_book_75 : decode cX10_book 75 = .ok (.aload_n 0, 1) := by decide +kernel
theorem dX10_book_76 : decode cX10_book 76 = .ok (.getfield 9, 3) := by decide +kernel
theorem dX10_book_79 : decode cX10_book 79 = .ok (.sipush 137, 3) := by decide +kernel
theorem dX10_book_82 : decode cX10_book 82 = .ok (.iconst 2, 1) := by decide +kernel
theorem dX10_book_83 : decode cX10_book 83 = .ok (.aload_n 0, 1) := by decide +kernel
theorem dX10_book_84 : decode cX10_book 84 = .ok (.getfield 9, 3) := by decide +kernel
theorem dX10_book_87 : decode cX10_book 87 = .ok (.sipush 135, 3) := by decide +kernel
theorem dX10_book_90 : decode cX10_book 90 = .ok (.iaload, 1) := by decide +kernel
theorem dX10_book_91 : decode cX10_book 91 = .ok (.imul, 1) := by decide +kernel
theorem dX10_book_92 : decode cX10_book 92 = .ok (.iadd, 1) := by decide +kernel
theorem dX10_book_93 : decode cX10_book 93 = .ok (.iload_n 2, 1) := by decide +kernel
theorem dX10_book_94 : decode cX10_book 94 = .ok (.iastore, 1) := by decide +kernel
theorem dX10_book_95 : decode cX10_book 95 = .ok (.aload_n 0, 1) := by decide +kernel
theorem dX10_book_96 : decode cX10_book 96 = .ok (.getfield 9, 3) := by decide +kernel
theorem dX10_book_99 : decode cX10_book 99 = .ok (.sipush 135, 3) := by decide +kernel
theorem dX10_book_102 : decode cX10_book 102 = .ok (.dup2, 1) := by decide +kernel
theorem dX10_book_103 : decode cX10_book 103 = .ok (.iaload, 1) := by decide +kernel
theorem dX10_book_104 : decode cX10_book 104 = .ok (.iconst 1, 1) := by decide +kernel
theorem dX10_book_105 : decode cX10_book 105 = .ok (.iadd, 1) := by decide +kernel
theorem dX10_book_106 : decode cX10_book 106 = .ok (.iastore, 1) := by decide +kernel
theorem dX10_book_107 : decode cX10_book 107 = .ok (.aload_n 0, 1) := by decide +kernel
theorem dX10_book_108 : decode cX10_book 108 = .ok (.getfield 9, 3) := by decide +kernel
theorem dX10_book_111 : decode cX10_book 111 = .ok (.sipush 135, 3) := by decide +kernel
theorem dX10_book_114 : decode cX10_book 114 = .ok (.iaload, 1) := by decide +kernel
theorem dX10_book_115 : decode cX10_book 115 = .ok (.ireturn, 1) := by decide +kernel
theorem dX10_looked_0 : decode cX10_looked 0 = .ok (.iconst 0, 1) := by decide +kernel
theorem dX10_looked_1 : decode cX10_looked 1 = .ok (.istore_n 1, 1) := by decide +kernel
theorem dX10_looked_2 : decode cX10_looked 2 = .ok (.iload_n 1, 1) := by decide +kernel
theorem dX10_looked_3 : decode cX10_looked 3 = .ok (.aload_n 0, 1) := by decide +kernel
theorem dX10_looked_4 : decode cX10_looked 4 = .ok (.getfield 9, 3) := by decide +kernel
theorem dX10_looked_7 : decode cX10_looked 7 = .ok (.sipush 135, 3) := by decide +kernel
theorem dX10_looked_10 : decode cX10_looked 10 = .ok (.iaload, 1) := by decide +kernel
theorem dX10_looked_11 : decode cX10_looked 11 = .ok (.if_icmp .ge 43, 3) := by decide +kernel
theorem dX10_looked_14 : decode cX10_looked 14 = .ok (.aload_n 0, 1) := by decide +kernel
theorem dX10_looked_15 : decode cX10_looked 15 = .ok (.aload_n 0, 1) := by decide +kernel
theorem dX10_looked_16 : decode cX10_looked 16 = .ok (.getfield 9, 3) := by decide +kernel
theorem dX10_looked_19 : decode cX10_looked 19 = .ok (.sipush 136, 3) := by decide +kernel
theorem dX10_looked_22 : decode cX10_looked 22 = .ok (.iconst 2, 1) := by decide +kernel
theorem dX10_looked_23 : decode cX10_looked 23 = .ok (.iload_n 1, 1) := by decide +kernel
theorem dX10_looked_24 : decode cX10_looked 24 = .ok (.imul, 1) := by decide +kernel
theorem dX10_looked_25 : decode cX10_looked 25 = .ok (.iadd, 1) := by decide +kernel
theorem dX10_looked_26 : decode cX10_looked 26 = .ok (.iaload, 1) := by decide +kernel
theorem dX10_looked_27 : decode cX10_looked 27 = .ok (.iconst 2, 1) := by decide +kernel
theorem dX10_looked_28 : decode cX10_looked 28 = .ok (.invokevirtual 86, 3) := by decide +kernel
theorem dX10_looked_31 : decode cX10_looked 31 = .ok (.aload_n 0, 1) := by decide +kernel
theorem dX10_looked_32 : decode cX10_looked 32 = .ok (.getfield 9, 3) := by decide +kernel
theorem dX10_looked_35 : decode cX10_looked 35 = .ok (.sipush 137, 3) := by decide +kernel
theorem dX10_looked_38 : decode cX10_looked 38 = .ok (.iconst 2, 1) := by decide +kernel
theorem dX10_looked_39 : decode cX10_looked 39 = .ok (.iload_n 1, 1) := by decide +kernel
theorem dX10_looked_40 : decode cX10_looked 40 = .ok (.imul, 1) := by decide +kernel
theorem dX10_looked_41 : decode cX10_looked 41 = .ok (.iadd, 1) := by decide +kernel
theorem dX10_looked_42 : decode cX10_looked 42 = .ok (.iaload, 1) := by decide +kernel
theorem dX10_looked_43 : decode cX10_looked 43 = .ok (.if_icmp .eq 5, 3) := by decide +kernel
theorem dX10_looked_46 : decode cX10_looked 46 = .ok (.iload_n 1, 1) := by decide +kernel
theorem dX10_looked_47 : decode cX10_looked 47 = .ok (.ireturn, 1) := by decide +kernel
theorem dX10_looked_48 : decode cX10_looked 48 = .ok (.iinc 1 1, 3) := by decide +kernel
theorem dX10_looked_51 : decode cX10_looked 51 = .ok (.goto (-49), 3) := by decide +kernel
theorem dX10_looked_54 : decode cX10_looked 54 = .ok (.bipush (-5), 2) := by decide +kernel
theorem dX10_looked_56 : decode cX10_looked 56 = .ok (.ireturn, 1) := by decide +kernel
theorem dX10_body_0 : decode cX10_body 0 = .ok (.aload_n 0, 1) := by decide +kernel
theorem dX10_body_1 : decode cX10_body 1 = .ok (.getfield 249, 3) := by decide +kernel
theorem dX10_body_4 : decode cX10_body 4 = .ok (.bipush 20, 2) := by decide +kernel
theorem dX10_body_6 : decode cX10_body 6 = .ok (.if_icmp .ge 13, 3) := by decide +kernel
theorem dX10_body_9 : decode cX10_body 9 = .ok (.aload_n 0, 1) := by decide +kernel
theorem dX10_body_10 : decode cX10_body 10 = .ok (.getfield 58, 3) := by decide +kernel
theorem dX10_body_13 : decode cX10_body 13 = .ok (.aload_n 0, 1) := by decide +kernel
theorem dX10_body_14 : decode cX10_body 14 = .ok (.getfield 249, 3) := by decide +kernel
theorem dX10_body_17 : decode cX10_body 17 = .ok (.iload_n 1, 1) := by decide +kernel
theorem dX10_body_18 : decode cX10_body 18 = .ok (.iastore, 1) := by decide +kernel
theorem dX10_body_19 : decode cX10_body 19 = .ok (.aload_n 0, 1) := by decide +kernel
theorem dX10_body_20 : decode cX10_body 20 = .ok (.dup, 1) := by decide +kernel
theorem dX10_body_21 : decode cX10_body 21 = .ok (.getfield 249, 3) := by decide +kernel
theorem dX10_body_24 : decode cX10_body 24 = .ok (.iconst 1, 1) := by decide +kernel
theorem dX10_body_25 : decode cX10_body 25 = .ok (.iadd, 1) := by decide +kernel
theorem dX10_body_26 : decode cX10_body 26 = .ok (.putfield 249, 3) := by decide +kernel
theorem dX10_body_29 : decode cX10_body 29 = .ok (.iload_n 1, 1) := by decide +kernel
theorem dX10_body_30 : decode cX10_body 30 = .ok (.ireturn, 1) := by decide +kernel
theorem dX10_begin_0 : decode cX10_begin 0 = .ok (.aload_n 0, 1) := by decide +kernel
theorem dX10_begin_1 : decode cX10_begin 1 = .ok (.aload_n 0, 1) := by decide +kernel
theorem dX10_begin_2 : decode cX10_begin 2 = .ok (.iload_n 1, 1) := by decide +kernel
theorem dX10_begin_3 : decode cX10_begin 3 = .ok (.iconst 0, 1) := by decide +kernel
theorem dX10_begin_4 : decode cX10_begin 4 = .ok (.invokevirtual 86, 3) := by decide +kernel
theorem dX10_begin_7 : decode cX10_begin 7 = .ok (.iload_n 1, 1) := by decide +kernel
theorem dX10_begin_8 : decode cX10_begin 8 = .ok (.iload_n 2, 1) := by decide +kernel
theorem dX10_begin_9 : decode cX10_begin 9 = .ok (.iload_n 3, 1) := by decide +kernel
theorem dX10_begin_10 : decode cX10_begin 10 = .ok (.invokevirtual 252, 3) := by decide +kernel
theorem dX10_begin_13 : decode cX10_begin 13 = .ok (.ireturn, 1) := by decide +kernel
theorem dX10_byKind_0 : decode cX10_byKind 0 = .ok (.iload_n 1, 1) := by decide +kernel
theorem dX10_byKind_1 : decode cX10_byKind 1 = .ok (.istore 5, 2) := by decide +kernel
theorem dX10_byKind_3 : decode cX10_byKind 3 = .ok (.aload_n 0, 1) := by decide +kernel
theorem dX10_byKind_4 : decode cX10_byKind 4 = .ok (.getfield 55, 3) := by decide +kernel
theorem dX10_byKind_7 : decode cX10_byKind 7 = .ok (.iconst 3, 1) := by decide +kernel
theorem dX10_byKind_8 : decode cX10_byKind 8 = .ok (.iload 5, 2) := by decide +kernel
theorem dX10_byKind_10 : decode cX10_byKind 10 = .ok (.imul, 1) := by decide +kernel
theorem dX10_byKind_11 : decode cX10_byKind 11 = .ok (.iload_n 3, 1) := by decide +kernel
theorem dX10_byKind_12 : decode cX10_byKind 12 = .ok (.iadd, 1) := by decide +kernel
theorem dX10_byKind_13 : decode cX10_byKind 13 = .ok (.iaload, 1) := by decide +kernel
theorem dX10_byKind_14 : decode cX10_byKind 14 = .ok (.ifCond .ne 15, 3) := by decide +kernel
theorem dX10_byKind_17 : decode cX10_byKind 17 = .ok (.aload_n 0, 1) := by decide +kernel
theorem dX10_byKind_18 : decode cX10_byKind 18 = .ok (.getfield 52, 3) := by decide +kernel
theorem dX10_byKind_21 : decode cX10_byKind 21 = .ok (.iload 5, 2) := by decide +kernel
theorem dX10_byKind_23 : decode cX10_byKind 23 = .ok (.iaload, 1) := by decide +kernel
theorem dX10_byKind_24 : decode cX10_byKind 24 = .ok (.istore 5, 2) := by decide +kernel
theorem dX10_byKind_26 : decode cX10_byKind 26 = .ok (.goto (-23), 3) := by decide +kernel
theorem dX10_byKind_29 : decode cX10_byKind 29 = .ok (.aload_n 0, 1) := by decide +kernel
theorem dX10_byKind_30 : decode cX10_byKind 30 = .ok (.getfield 52, 3) := by decide +kernel
theorem dX10_byKind_33 : decode cX10_byKind 33 = .ok (.iload 5, 2) := by decide +kernel
theorem dX10_byKind_35 : decode cX10_byKind 35 = .ok (.iaload, 1) := by decide +kernel
theorem dX10_byKind_36 : decode cX10_byKind 36 = .ok (.istore 6, 2) := by decide +kernel
theorem dX10_byKind_38 : decode cX10_byKind 38 = .ok (.aload_n 0, 1) := by decide +kernel
theorem dX10_byKind_39 : decode cX10_byKind 39 = .ok (.aload_n 0, 1) := by decide +kernel
theorem dX10_byKind_40 : decode cX10_byKind 40 = .ok (.getfield 55, 3) := by decide +kernel
theorem dX10_byKind_43 : decode cX10_byKind 43 = .ok (.iconst 3, 1) := by decide +kernel
theorem dX10_byKind_44 : decode cX10_byKind 44 = .ok (.iload 5, 2) := by decide +kernel
theorem dX10_byKind_46 : decode cX10_byKind 46 = .ok (.imul, 1) := by decide +kernel
theorem dX10_byKind_47 : decode cX10_byKind 47 = .ok (.iload_n 3, 1) := by decide +kernel
theorem dX10_byKind_48 : decode cX10_byKind 48 = .ok (.iadd, 1) := by decide +kernel
theorem dX10_byKind_49 : decode cX10_byKind 49 = .ok (.iaload, 1) := by decide +kernel
theorem dX10_byKind_50 : decode cX10_byKind 50 = .ok (.invokevirtual 255, 3) := by decide +kernel
theorem dX10_byKind_53 : decode cX10_byKind 53 = .ok (.lookupswitch 228 #[(10, 91), (11, 96), (12, 112), (20, 123), (30, 137), (40, 150), (50, 169), (51, 181), (60, 194), (70, 207)], 91) := by decide +kernel
theorem dX10_byKind_144 : decode cX10_byKind 144 = .ok (.iload 4, 2) := by decide +kernel
theorem dX10_byKind_146 : decode cX10_byKind 146 = .ok (.iload_n 2, 1) := by decide +kernel
theorem dX10_byKind_147 : decode cX10_byKind 147 = .ok (.iadd, 1) := by decide +kernel
theorem dX10_byKind_148 : decode cX10_byKind 148 = .ok (.ireturn, 1) := by decide +kernel
theorem dX10_byKind_149 : decode cX10_byKind 149 = .ok (.aload_n 0, 1) := by decide +kernel
theorem dX10_byKind_150 : decode cX10_byKind 150 = .ok (.iload_n 2, 1) := by decide +kernel
theorem dX10_byKind_151 : decode cX10_byKind 151 = .ok (.iconst 0, 1) := by decide +kernel
theorem dX10_byKind_152 : decode cX10_byKind 152 = .ok (.iload 4, 2) := by decide +kernel
theorem dX10_byKind_154 : decode cX10_byKind 154 = .ok (.invokevirtual 258, 3) := by decide +kernel
theorem dX10_byKind_157 : decode cX10_byKind 157 = .ok (.aload_n 0, 1) := by decide +kernel
theorem dX10_byKind_158 : decode cX10_byKind 158 = .ok (.iload_n 2, 1) := by decide +kernel
theorem dX10_byKind_159 : decode cX10_byKind 159 = .ok (.iconst 1, 1) := by decide +kernel
theorem dX10_byKind_160 : decode cX10_byKind 160 = .ok (.invokevirtual 86, 3) := by decide +kernel
theorem dX10_byKind_163 : decode cX10_byKind 163 = .ok (.isub, 1) := by decide +kernel
theorem dX10_byKind_164 : decode cX10_byKind 164 = .ok (.ireturn, 1) := by decide +kernel
theorem dX10_byKind_165 : decode cX10_byKind 165 = .ok (.aload_n 0, 1) := by decide +kernel
theorem dX10_byKind_166 : decode cX10_byKind 166 = .ok (.iload_n 2, 1) := by decide +kernel
theorem dX10_byKind_167 : decode cX10_byKind 167 = .ok (.iconst 1, 1) := by decide +kernel
theorem dX10_byKind_168 : decode cX10_byKind 168 = .ok (.iload 4, 2) := by decide +kernel
theorem dX10_byKind_170 : decode cX10_byKind 170 = .ok (.invokevirtual 258, 3) := by decide +kernel
theorem dX10_byKind_173 : decode cX10_byKind 173 = .ok (.iconst 2, 1) := by decide +kernel
theorem dX10_byKind_174 : decode cX10_byKind 174 = .ok (.imul, 1) := by decide +kernel
theorem dX10_byKind_175 : decode cX10_byKind 175 = .ok (.ireturn, 1) := by decide +kernel
theorem dX10_byKind_176 : decode cX10_byKind 176 = .ok (.aload_n 0, 1) := by decide +kernel
theorem dX10_byKind_177 : decode cX10_byKind 177 = .ok (.iload 6, 2) := by decide +kernel
theorem dX10_byKind_179 : decode cX10_byKind 179 = .ok (.iload_n 2, 1) := by decide +kernel
theorem dX10_byKind_180 : decode cX10_byKind 180 = .ok (.iconst 1, 1) := by decide +kernel
theorem dX10_byKind_181 : decode cX10_byKind 181 = .ok (.iload 4, 2) := by decide +kernel
theorem dX10_byKind_183 : decode cX10_byKind 183 = .ok (.invokevirtual 252, 3) := by decide +kernel
theorem dX10_byKind_186 : decode cX10_byKind 186 = .ok (.bipush 6, 2) := by decide +kernel
theorem dX10_byKind_188 : decode cX10_byKind 188 = .ok (.ixor, 1) := by decide +kernel
theorem dX10_byKind_189 : decode cX10_byKind 189 = .ok (.ireturn, 1) := by decide +kernel
theorem dX10_byKind_190 : decode cX10_byKind 190 = .ok (.aload_n 0, 1) := by decide +kernel
theorem dX10_byKind_191 : decode cX10_byKind 191 = .ok (.iload 6, 2) := by decide +kernel
theorem dX10_byKind_193 : decode cX10_byKind 193 = .ok (.iload_n 2, 1) := by decide +kernel
theorem dX10_byKind_194 : decode cX10_byKind 194 = .ok (.iconst 0, 1) := by decide +kernel
theorem dX10_byKind_195 : decode cX10_byKind 195 = .ok (.iload 4, 2) := by decide +kernel
theorem dX10_byKind_197 : decode cX10_byKind 197 = .ok (.iconst 3, 1) := by decide +kernel
theorem dX10_byKind_198 : decode cX10_byKind 198 = .ok (.imul, 1) := by decide +kernel
theorem dX10_byKind_199 : decode cX10_byKind 199 = .ok (.invokevirtual 252, 3) := by decide +kernel
theorem dX10_byKind_202 : decode cX10_byKind 202 = .ok (.ireturn, 1) := by decide +kernel
theorem dX10_byKind_203 : decode cX10_byKind 203 = .ok (.aload_n 0, 1) := by decide +kernel
theorem dX10_byKind_204 : decode cX10_byKind 204 = .ok (.iload 6, 2) := by decide +kernel
theorem dX10_byKind_206 : decode cX10_byKind 206 = .ok (.iload_n 2, 1) := by decide +kernel
theorem dX10_byKind_207 : decode cX10_byKind 207 = .ok (.iconst 2, 1) := by decide +kernel
theorem dX10_byKind_208 : decode cX10_byKind 208 = .ok (.iload 4, 2) := by decide +kernel
theorem dX10_byKind_210 : decode cX10_byKind 210 = .ok (.invokevirtual 252, 3) := by decide +kernel
theorem dX10_byKind_213 : decode cX10_byKind 213 = .ok (.aload_n 0, 1) := by decide +kernel
theorem dX10_byKind_214 : decode cX10_byKind 214 = .ok (.iload_n 2, 1) := by decide +kernel
theorem dX10_byKind_215 : decode cX10_byKind 215 = .ok (.iconst 1, 1) := by decide +kernel
theorem dX10_byKind_216 : decode cX10_byKind 216 = .ok (.iconst 1, 1) := by decide +kernel
theorem dX10_byKind_217 : decode cX10_byKind 217 = .ok (.invokevirtual 258, 3) := by decide +kernel
theorem dX10_byKind_220 : decode cX10_byKind 220 = .ok (.iadd, 1) := by decide +kernel
theorem dX10_byKind_221 : decode cX10_byKind 221 = .ok (.ireturn, 1) := by decide +kernel
theorem dX10_byKind_222 : decode cX10_byKind 222 = .ok (.aload_n 0, 1) := by decide +kernel
theorem dX10_byKind_223 : decode cX10_byKind 223 = .ok (.iload 6, 2) := by decide +kernel
theorem dX10_byKind_225 : decode cX10_byKind 225 = .ok (.iload_n 2, 1) := by decide +kernel
theorem dX10_byKind_226 : decode cX10_byKind 226 = .ok (.iconst 0, 1) := by decide +kernel
theorem dX10_byKind_227 : decode cX10_byKind 227 = .ok (.iload 4, 2) := by decide +kernel
theorem dX10_byKind_229 : decode cX10_byKind 229 = .ok (.invokevirtual 252, 3) := by decide +kernel
theorem dX10_byKind_232 : decode cX10_byKind 232 = .ok (.ineg, 1) := by decide +kernel
theorem dX10_byKind_233 : decode cX10_byKind 233 = .ok (.ireturn, 1) := by decide +kernel
theorem dX10_byKind_234 : decode cX10_byKind 234 = .ok (.aload_n 0, 1) := by decide +kernel
theorem dX10_byKind_235 : decode cX10_byKind 235 = .ok (.iload 6, 2) := by decide +kernel
theorem dX10_byKind_237 : decode cX10_byKind 237 = .ok (.iload_n 2, 1) := by decide +kernel
theorem dX10_byKind_238 : decode cX10_byKind 238 = .ok (.iconst 1, 1) := by decide +kernel
theorem dX10_byKind_239 : decode cX10_byKind 239 = .ok (.iload 4, 2) := by decide +kernel
theorem dX10_byKind_241 : decode cX10_byKind 241 = .ok (.iconst 1, 1) := by decide +kernel
theorem dX10_byKind_242 : decode cX10_byKind 242 = .ok (.iadd, 1) := by decide +kernel
theorem dX10_byKind_243 : decode cX10_byKind 243 = .ok (.invokevirtual 252, 3) := by decide +kernel
theorem dX10_byKind_246 : decode cX10_byKind 246 = .ok (.ireturn, 1) := by decide +kernel
theorem dX10_byKind_247 : decode cX10_byKind 247 = .ok (.aload_n 0, 1) := by decide +kernel
theorem dX10_byKind_248 : decode cX10_byKind 248 = .ok (.iload 6, 2) := by decide +kernel
theorem dX10_byKind_250 : decode cX10_byKind 250 = .ok (.iload_n 2, 1) := by decide +kernel
theorem dX10_byKind_251 : decode cX10_byKind 251 = .ok (.iconst 2, 1) := by decide +kernel
theorem dX10_byKind_252 : decode cX10_byKind 252 = .ok (.iload 4, 2) := by decide +kernel
theorem dX10_byKind_254 : decode cX10_byKind 254 = .ok (.iload_n 2, 1) := by decide +kernel
theorem dX10_byKind_255 : decode cX10_byKind 255 = .ok (.isub, 1) := by decide +kernel
theorem dX10_byKind_256 : decode cX10_byKind 256 = .ok (.invokevirtual 252, 3) := by decide +kernel
theorem dX10_byKind_259 : decode cX10_byKind 259 = .ok (.ireturn, 1) := by decide +kernel
theorem dX10_byKind_260 : decode cX10_byKind 260 = .ok (.aload_n 0, 1) := by decide +kernel
theorem dX10_byKind_261 : decode cX10_byKind 261 = .ok (.iload 6, 2) := by decide +kernel
theorem dX10_byKind_263 : decode cX10_byKind 263 = .ok (.iload_n 2, 1) := by decide +kernel
theorem dX10_byKind_264 : decode cX10_byKind 264 = .ok (.iconst 1, 1) := by decide +kernel
theorem dX10_byKind_265 : decode cX10_byKind 265 = .ok (.iload 4, 2) := by decide +kernel
theorem dX10_byKind_267 : decode cX10_byKind 267 = .ok (.invokevirtual 252, 3) := by decide +kernel
theorem dX10_byKind_270 : decode cX10_byKind 270 = .ok (.aload_n 0, 1) := by decide +kernel
theorem dX10_byKind_271 : decode cX10_byKind 271 = .ok (.iload 6, 2) := by decide +kernel
theorem dX10_byKind_273 : decode cX10_byKind 273 = .ok (.iload_n 2, 1) := by decide +kernel
theorem dX10_byKind_274 : decode cX10_byKind 274 = .ok (.iconst 0, 1) := by decide +kernel
theorem dX10_byKind_275 : decode cX10_byKind 275 = .ok (.iconst 2, 1) := by decide +kernel
theorem dX10_byKind_276 : decode cX10_byKind 276 = .ok (.invokevirtual 252, 3) := by decide +kernel
theorem dX10_byKind_279 : decode cX10_byKind 279 = .ok (.iadd, 1) := by decide +kernel
theorem dX10_byKind_280 : decode cX10_byKind 280 = .ok (.ireturn, 1) := by decide +kernel
theorem dX10_byKind_281 : decode cX10_byKind 281 = .ok (.aload_n 0, 1) := by decide +kernel
theorem dX10_byKind_282 : decode cX10_byKind 282 = .ok (.iload 6, 2) := by decide +kernel
theorem dX10_byKind_284 : decode cX10_byKind 284 = .ok (.iload_n 2, 1) := by decide +kernel
theorem dX10_byKind_285 : decode cX10_byKind 285 = .ok (.iconst 0, 1) := by decide +kernel
theorem dX10_byKind_286 : decode cX10_byKind 286 = .ok (.iload 4, 2) := by decide +kernel
theorem dX10_byKind_288 : decode cX10_byKind 288 = .ok (.invokevirtual 252, 3) := by decide +kernel
theorem dX10_byKind_291 : decode cX10_byKind 291 = .ok (.aload_n 0, 1) := by decide +kernel
theorem dX10_byKind_292 : decode cX10_byKind 292 = .ok (.iload_n 2, 1) := by decide +kernel
theorem dX10_byKind_293 : decode cX10_byKind 293 = .ok (.iconst 1, 1) := by decide +kernel
theorem dX10_byKind_294 : decode cX10_byKind 294 = .ok (.invokevirtual 86, 3) := by decide +kernel
theorem dX10_byKind_297 : decode cX10_byKind 297 = .ok (.ixor, 1) := by decide +kernel
theorem dX10_byKind_298 : decode cX10_byKind 298 = .ok (.ireturn, 1) := by decide +kernel
theorem dX10_act_0 : decode cX10_act 0 = .ok (.aload_n 0, 1) := by decide +kernel
theorem dX10_act_1 : decode cX10_act 1 = .ok (.iconst 0, 1) := by decide +kernel
theorem dX10_act_2 : decode cX10_act 2 = .ok (.putfield 249, 3) := by decide +kernel
theorem dX10_act_5 : decode cX10_act 5 = .ok (.aload_n 0, 1) := by decide +kernel
theorem dX10_act_6 : decode cX10_act 6 = .ok (.iload_n 1, 1) := by decide +kernel
theorem dX10_act_7 : decode cX10_act 7 = .ok (.invokevirtual 97, 3) := by decide +kernel
theorem dX10_act_10 : decode cX10_act 10 = .ok (.ifCond .eq 22, 3) := by decide +kernel
theorem dX10_act_13 : decode cX10_act 13 = .ok (.iload_n 2, 1) := by decide +kernel
theorem dX10_act_14 : decode cX10_act 14 = .ok (.iconst 0, 1) := by decide +kernel
theorem dX10_act_15 : decode cX10_act 15 = .ok (.iconst 2, 1) := by decide +kernel
theorem dX10_act_16 : decode cX10_act 16 = .ok (.invokestatic 82, 3) := by decide +kernel
theorem dX10_act_19 : decode cX10_act 19 = .ok (.ifCond .eq 13, 3) := by decide +kernel
theorem dX10_act_22 : decode cX10_act 22 = .ok (.aload_n 0, 1) := by decide +kernel
theorem dX10_act_23 : decode cX10_act 23 = .ok (.iload_n 1, 1) := by decide +kernel
theorem dX10_act_24 : decode cX10_act 24 = .ok (.iload_n 2, 1) := by decide +kernel
theorem dX10_act_25 : decode cX10_act 25 = .ok (.iload_n 3, 1) := by decide +kernel
theorem dX10_act_26 : decode cX10_act 26 = .ok (.invokevirtual 258, 3) := by decide +kernel
theorem dX10_act_29 : decode cX10_act 29 = .ok (.goto 4, 3) := by decide +kernel
theorem dX10_act_32 : decode cX10_act 32 = .ok (.iconst 0, 1) := by decide +kernel
theorem dX10_act_33 : decode cX10_act 33 = .ok (.ireturn, 1) := by decide +kernel
theorem dX10_trace_0 : decode cX10_trace 0 = .ok (.iload_n 1, 1) := by decide +kernel
theorem dX10_trace_1 : decode cX10_trace 1 = .ok (.iconst 0, 1) := by decide +kernel
theorem dX10_trace_2 : decode cX10_trace 2 = .ok (.bipush 20, 2) := by decide +kernel
theorem dX10_trace_4 : decode cX10_trace 4 = .ok (.aload_n 0, 1) := by decide +kernel
theorem dX10_trace_5 : decode cX10_trace 5 = .ok (.getfield 249, 3) := by decide +kernel
theorem dX10_trace_8 : decode cX10_trace 8 = .ok (.invokestatic 182, 3) := by decide +kernel
theorem dX10_trace_11 : decode cX10_trace 11 = .ok (.iconst 1, 1) := by decide +kernel
theorem dX10_trace_12 : decode cX10_trace 12 = .ok (.isub, 1) := by decide +kernel
theorem dX10_trace_13 : decode cX10_trace 13 = .ok (.invokestatic 82, 3) := by decide +kernel
theorem dX10_trace_16 : decode cX10_trace 16 = .ok (.ifCond .eq 12, 3) := by decide +kernel
theorem dX10_trace_19 : decode cX10_trace 19 = .ok (.aload_n 0, 1) := by decide +kernel
theorem dX10_trace_20 : decode cX10_trace 20 = .ok (.getfield 58, 3) := by decide +kernel
theorem dX10_trace_23 : decode cX10_trace 23 = .ok (.iload_n 1, 1) := by decide +kernel
theorem dX10_trace_24 : decode cX10_trace 24 = .ok (.iaload, 1) := by decide +kernel
theorem dX10_trace_25 : decode cX10_trace 25 = .ok (.goto 4, 3) := by decide +kernel
theorem dX10_trace_28 : decode cX10_trace 28 = .ok (.iconst (-1), 1) := by decide +kernel
theorem dX10_trace_29 : decode cX10_trace 29 = .ok (.ireturn, 1) := by decide +kernel
theorem dX10_taken_0 : decode cX10_taken 0 = .ok (.iload_n 2, 1) := by decide +kernel
theorem dX10_taken_1 : decode cX10_taken 1 = .ok (.iconst 0, 1) := by decide +kernel
theorem dX10_taken_2 : decode cX10_taken 2 = .ok (.bipush 6, 2) := by decide +kernel
theorem dX10_taken_4 : decode cX10_taken 4 = .ok (.invokestatic 82, 3) := by decide +kernel
theorem dX10_taken_7 : decode cX10_taken 7 = .ok (.ifCond .ne 6, 3) := by decide +kernel
theorem dX10_taken_10 : decode cX10_taken 10 = .ok (.bipush (-2), 2) := by decide +kernel
theorem dX10_taken_12 : decode cX10_taken 12 = .ok (.ireturn, 1) := by decide +kernel
theorem dX10_taken_13 : decode cX10_taken 13 = .ok (.aload_n 0, 1) := by decide +kernel
theorem dX10_taken_14 : decode cX10_taken 14 = .ok (.iload_n 1, 1) := by decide +kernel
theorem dX10_taken_15 : decode cX10_taken 15 = .ok (.invokevirtual 97, 3) := by decide +kernel
theorem dX10_taken_18 : decode cX10_taken 18 = .ok (.ifCond .ne 6, 3) := by decide +kernel
theorem dX10_taken_21 : decode cX10_taken 21 = .ok (.bipush (-11), 2) := by decide +kernel
theorem dX10_taken_23 : decode cX10_taken 23 = .ok (.ireturn, 1) := by decide +kernel
theorem dX10_taken_24 : decode cX10_taken 24 = .ok (.aload_n 0, 1) := by decide +kernel
theorem dX10_taken_25 : decode cX10_taken 25 = .ok (.iload_n 1, 1) := by decide +kernel
theorem dX10_taken_26 : decode cX10_taken 26 = .ok (.iconst 0, 1) := by decide +kernel
theorem dX10_taken_27 : decode cX10_taken 27 = .ok (.invokevirtual 86, 3) := by decide +kernel
theorem dX10_taken_30 : decode cX10_taken 30 = .ok (.istore_n 3, 1) := by decide +kernel
theorem dX10_taken_31 : decode cX10_taken 31 = .ok (.iload_n 3, 1) := by decide +kernel
theorem dX10_taken_32 : decode cX10_taken 32 = .ok (.iconst (-1), 1) := by decide +kernel
theorem dX10_taken_33 : decode cX10_taken 33 = .ok (.if_icmp .eq 18, 3) := by decide +kernel
theorem dX10_taken_36 : decode cX10_taken 36 = .ok (.iload_n 3, 1) := by decide +kernel
theorem dX10_taken_37 : decode cX10_taken 37 = .ok (.iload_n 2, 1) := by decide +kernel
theorem dX10_taken_38 : decode cX10_taken 38 = .ok (.if_icmp .eq 13, 3) := by decide +kernel
theorem dX10_taken_41 : decode cX10_taken 41 = .ok (.aload_n 0, 1) := by decide +kernel
theorem dX10_taken_42 : decode cX10_taken 42 = .ok (.getfield 52, 3) := by decide +kernel
theorem dX10_taken_45 : decode cX10_taken 45 = .ok (.iload_n 3, 1) := by decide +kernel
theorem dX10_taken_46 : decode cX10_taken 46 = .ok (.iaload, 1) := by decide +kernel
theorem dX10_taken_47 : decode cX10_taken 47 = .ok (.istore_n 3, 1) := by decide +kernel
theorem dX10_taken_48 : decode cX10_taken 48 = .ok (.goto (-17), 3) := by decide +kernel
theorem dX10_taken_51 : decode cX10_taken 51 = .ok (.iload_n 3, 1) := by decide +kernel
theorem dX10_taken_52 : decode cX10_taken 52 = .ok (.iload_n 2, 1) := by decide +kernel
theorem dX10_taken_53 : decode cX10_taken 53 = .ok (.if_icmp .ne 12, 3) := by decide +kernel
theorem dX10_taken_56 : decode cX10_taken 56 = .ok (.aload_n 0, 1) := by decide +kernel
theorem dX10_taken_57 : decode cX10_taken 57 = .ok (.iload_n 1, 1) := by decide +kernel
theorem dX10_taken_58 : decode cX10_taken 58 = .ok (.iconst 0, 1) := by decide +kernel
theorem dX10_taken_59 : decode cX10_taken 59 = .ok (.invokevirtual 86, 3) := by decide +kernel
theorem dX10_taken_62 : decode cX10_taken 62 = .ok (.goto 5, 3) := by decide +kernel
theorem dX10_taken_65 : decode cX10_taken 65 = .ok (.bipush (-12), 2) := by decide +kernel
theorem dX10_taken_67 : decode cX10_taken 67 = .ok (.ireturn, 1) := by decide +kernel
theorem dX10_count_0 : decode cX10_count 0 = .ok (.iload_n 1, 1) := by decide +kernel
theorem dX10_count_1 : decode cX10_count 1 = .ok (.tableswitch 115 0 8 #[51, 59, 67, 72, 80, 88, 96, 105, 110], 51) := by decide +kernel
theorem dX10_count_52 : decode cX10_count 52 = .ok (.aload_n 0, 1) := by decide +kernel
theorem dX10_count_53 : decode cX10_count 53 = .ok (.getfield 9, 3) := by decide +kernel
theorem dX10_count_56 : decode cX10_count 56 = .ok (.bipush 78, 2) := by decide +kernel
theorem dX10_count_58 : decode cX10_count 58 = .ok (.iaload, 1) := by decide +kernel
theorem dX10_count_59 : decode cX10_count 59 = .ok (.ireturn, 1) := by decide +kernel
theorem dX10_count_60 : decode cX10_count 60 = .ok (.aload_n 0, 1) := by decide +kernel
theorem dX10_count_61 : decode cX10_count 61 = .ok (.getfield 9, 3) := by decide +kernel
theorem dX10_count_64 : decode cX10_count 64 = .ok (.bipush 79, 2) := by decide +kernel
theorem dX10_count_66 : decode cX10_count 66 = .ok (.iaload, 1) := by decide +kernel
theorem dX10_count_67 : decode cX10_count 67 = .ok (.ireturn, 1) := by decide +kernel
theorem dX10_count_68 : decode cX10_count 68 = .ok (.aload_n 0, 1) := by decide +kernel
theorem dX10_count_69 : decode cX10_count 69 = .ok (.getfield 175, 3) := by decide +kernel
theorem dX10_count_72 : decode cX10_count 72 = .ok (.ireturn, 1) := by decide +kernel
theorem dX10_count_73 : decode cX10_count 73 = .ok (.aload_n 0, 1) := by decide +kernel
theorem dX10_count_74 : decode cX10_count 74 = .ok (.getfield 9, 3) := by decide +kernel
theorem dX10_count_77 : decode cX10_count 77 = .ok (.bipush 82, 2) := by decide +kernel
theorem dX10_count_79 : decode cX10_count 79 = .ok (.iaload, 1) := by decide +kernel
theorem dX10_count_80 : decode cX10_count 80 = .ok (.ireturn, 1) := by decide +kernel
theorem dX10_count_81 : decode cX10_count 81 = .ok (.aload_n 0, 1) := by decide +kernel
theorem dX10_count_82 : decode cX10_count 82 = .ok (.getfield 9, 3) := by decide +kernel
theorem dX10_count_85 : decode cX10_count 85 = .ok (.bipush 98, 2) := by decide +kernel
theorem dX10_count_87 : decode cX10_count 87 = .ok (.iaload, 1) := by decide +kernel
theorem dX10_count_88 : decode cX10_count 88 = .ok (.ireturn, 1) := by decide +kernel
theorem dX10_count_89 : decode cX10_count 89 = .ok (.aload_n 0, 1) := by decide +kernel
theorem dX10_count_90 : decode cX10_count 90 = .ok (.getfield 9, 3) := by decide +kernel
theorem dX10_count_93 : decode cX10_count 93 = .ok (.bipush 114, 2) := by decide +kernel
theorem dX10_count_95 : decode cX10_count 95 = .ok (.iaload, 1) := by decide +kernel
theorem dX10_count_96 : decode cX10_count 96 = .ok (.ireturn, 1) := by decide +kernel
theorem dX10_count_97 : decode cX10_count 97 = .ok (.aload_n 0, 1) := by decide +kernel
theorem dX10_count_98 : decode cX10_count 98 = .ok (.getfield 9, 3) := by decide +kernel
theorem dX10_count_101 : decode cX10_count 101 = .ok (.sipush 135, 3) := by decide +kernel
theorem dX10_count_104 : decode cX10_count 104 = .ok (.iaload, 1) := by decide +kernel
theorem dX10_count_105 : decode cX10_count 105 = .ok (.ireturn, 1) := by decide +kernel
theorem dX10_count_106 : decode cX10_count 106 = .ok (.aload_n 0, 1) := by decide +kernel
theorem dX10_count_107 : decode cX10_count 107 = .ok (.getfield 120, 3) := by decide +kernel
theorem dX10_count_110 : decode cX10_count 110 = .ok (.ireturn, 1) := by decide +kernel
theorem dX10_count_111 : decode cX10_count 111 = .ok (.aload_n 0, 1) := by decide +kernel
theorem dX10_count_112 : decode cX10_count 112 = .ok (.getfield 249, 3) := by decide +kernel
theorem dX10_count_115 : decode cX10_count 115 = .ok (.ireturn, 1) := by decide +kernel
theorem dX10_count_116 : decode cX10_count 116 = .ok (.bipush (-2), 2) := by decide +kernel
theorem dX10_count_118 : decode cX10_count 118 = .ok (.ireturn, 1) := by decide +kernel
theorem dX10_isTape_0 : decode cX10_isTape 0 = .ok (.iload_n 0, 1) := by decide +kernel
theorem dX10_isTape_1 : decode cX10_isTape 1 = .ok (.iconst 0, 1) := by decide +kernel
theorem dX10_isTape_2 : decode cX10_isTape 2 = .ok (.iconst 5, 1) := by decide +kernel
theorem dX10_isTape_3 : decode cX10_isTape 3 = .ok (.invokestatic 82, 3) := by decide +kernel
theorem dX10_isTape_6 : decode cX10_isTape 6 = .ok (.ireturn, 1) := by decide +kernel
theorem dX10_tape_0 : decode cX10_tape 0 = .ok (.iload_n 1, 1) := by decide +kernel
theorem dX10_tape_1 : decode cX10_tape 1 = .ok (.invokestatic 261, 3) := by decide +kernel
theorem dX10_tape_4 : decode cX10_tape 4 = .ok (.ifCond .ne 5, 3) := by decide +kernel
theorem dX10_tape_7 : decode cX10_tape 7 = .ok (.iconst (-1), 1) := by decide +kernel
theorem dX10_tape_8 : decode cX10_tape 8 = .ok (.ireturn, 1) := by decide +kernel
theorem dX10_tape_9 : decode cX10_tape 9 = .ok (.iload_n 2, 1) := by decide +kernel
theorem dX10_tape_10 : decode cX10_tape 10 = .ok (.iconst (-1), 1) := by decide +kernel
theorem dX10_tape_11 : decode cX10_tape 11 = .ok (.iconst 4, 1) := by decide +kernel
theorem dX10_tape_12 : decode cX10_tape 12 = .ok (.invokestatic 82, 3) := by decide +kernel
theorem dX10_tape_15 : decode cX10_tape 15 = .ok (.ifCond .eq 13, 3) := by decide +kernel
theorem dX10_tape_18 : decode cX10_tape 18 = .ok (.iload_n 2, 1) := by decide +kernel
theorem dX10_tape_19 : decode cX10_tape 19 = .ok (.ifCond .lt 12, 3) := by decide +kernel
theorem dX10_tape_22 : decode cX10_tape 22 = .ok (.iload_n 3, 1) := by decide +kernel
theorem dX10_tape_23 : decode cX10_tape 23 = .ok (.bipush 60, 2) := by decide +kernel
theorem dX10_tape_25 : decode cX10_tape 25 = .ok (.if_icmp .le 6, 3) := by decide +kernel
theorem dX10_tape_28 : decode cX10_tape 28 = .ok (.bipush (-2), 2) := by decide +kernel
theorem dX10_tape_30 : decode cX10_tape 30 = .ok (.ireturn, 1) := by decide +kernel
theorem dX10_tape_31 : decode cX10_tape 31 = .ok (.iload_n 2, 1) := by decide +kernel
theorem dX10_tape_32 : decode cX10_tape 32 = .ok (.ifCond .lt 10, 3) := by decide +kernel
theorem dX10_tape_35 : decode cX10_tape 35 = .ok (.iload_n 3, 1) := by decide +kernel
theorem dX10_tape_36 : decode cX10_tape 36 = .ok (.ifCond .ge 6, 3) := by decide +kernel
theorem dX10_tape_39 : decode cX10_tape 39 = .ok (.bipush (-14), 2) := by decide +kernel
theorem dX10_tape_41 : decode cX10_tape 41 = .ok (.ireturn, 1) := by decide +kernel
theorem dX10_tape_42 : decode cX10_tape 42 = .ok (.aload_n 0, 1) := by decide +kernel
theorem dX10_tape_43 : decode cX10_tape 43 = .ok (.getfield 61, 3) := by decide +kernel
theorem dX10_tape_46 : decode cX10_tape 46 = .ok (.iload_n 1, 1) := by decide +kernel
theorem dX10_tape_47 : decode cX10_tape 47 = .ok (.iload_n 2, 1) := by decide +kernel
theorem dX10_tape_48 : decode cX10_tape 48 = .ok (.iastore, 1) := by decide +kernel
theorem dX10_tape_49 : decode cX10_tape 49 = .ok (.aload_n 0, 1) := by decide +kernel
theorem dX10_tape_50 : decode cX10_tape 50 = .ok (.getfield 64, 3) := by decide +kernel
theorem dX10_tape_53 : decode cX10_tape 53 = .ok (.iload_n 1, 1) := by decide +kernel
theorem dX10_tape_54 : decode cX10_tape 54 = .ok (.iload_n 2, 1) := by decide +kernel
theorem dX10_tape_55 : decode cX10_tape 55 = .ok (.ifCond .ge 7, 3) := by decide +kernel
theorem dX10_tape_58 : decode cX10_tape 58 = .ok (.iconst 0, 1) := by decide +kernel
theorem dX10_tape_59 : decode cX10_tape 59 = .ok (.goto 4, 3) := by decide +kernel
theorem dX10_tape_62 : decode cX10_tape 62 = .ok (.iload_n 3, 1) := by decide +kernel
theorem dX10_tape_63 : decode cX10_tape 63 = .ok (.iastore, 1) := by decide +kernel
theorem dX10_tape_64 : decode cX10_tape 64 = .ok (.iconst 0, 1) := by decide +kernel
theorem dX10_tape_65 : decode cX10_tape 65 = .ok (.istore 4, 2) := by decide +kernel
theorem dX10_tape_67 : decode cX10_tape 67 = .ok (.iload 4, 2) := by decide +kernel
theorem dX10_tape_69 : decode cX10_tape 69 = .ok (.bipush 60, 2) := by decide +kernel
theorem dX10_tape_71 : decode cX10_tape 71 = .ok (.if_icmp .ge 22, 3) := by decide +kernel
theorem dX10_tape_74 : decode cX10_tape 74 = .ok (.aload_n 0, 1) := by decide +kernel
theorem dX10_tape_75 : decode cX10_tape 75 = .ok (.getfield 67, 3) := by decide +kernel
theorem dX10_tape_78 : decode cX10_tape 78 = .ok (.bipush 60, 2) := by decide +kernel
theorem dX10_tape_80 : decode cX10_tape 80 = .ok (.iload_n 1, 1) := by decide +kernel
theorem dX10_tape_81 : decode cX10_tape 81 = .ok (.imul, 1) := by decide +kernel
theorem dX10_tape_82 : decode cX10_tape 82 = .ok (.iload 4, 2) := by decide +kernel
theorem dX10_tape_84 : decode cX10_tape 84 = .ok (.iadd, 1) := by decide +kernel
theorem dX10_tape_85 : decode cX10_tape 85 = .ok (.lconst 0, 1) := by decide +kernel
theorem dX10_tape_86 : decode cX10_tape 86 = .ok (.lastore, 1) := by decide +kernel
theorem dX10_tape_87 : decode cX10_tape 87 = .ok (.iinc 4 1, 3) := by decide +kernel
theorem dX10_tape_90 : decode cX10_tape 90 = .ok (.goto (-23), 3) := by decide +kernel
theorem dX10_tape_93 : decode cX10_tape 93 = .ok (.iconst 1, 1) := by decide +kernel
theorem dX10_tape_94 : decode cX10_tape 94 = .ok (.ireturn, 1) := by decide +kernel
theorem dX10_item_0 : decode cX10_item 0 = .ok (.iload_n 1, 1) := by decide +kernel
theorem dX10_item_1 : decode cX10_item 1 = .ok (.invokestatic 261, 3) := by decide +kernel
theorem dX10_item_4 : decode cX10_item 4 = .ok (.ifCond .ne 5, 3) := by decide +kernel
theorem dX10_item_7 : decode cX10_item 7 = .ok (.iconst (-1), 1) := by decide +kernel
theorem dX10_item_8 : decode cX10_item 8 = .ok (.ireturn, 1) := by decide +kernel
theorem dX10_item_9 : decode cX10_item 9 = .ok (.aload_n 0, 1) := by decide +kernel
theorem dX10_item_10 : decode cX10_item 10 = .ok (.getfield 61, 3) := by decide +kernel
theorem dX10_item_13 : decode cX10_item 13 = .ok (.iload_n 1, 1) := by decide +kernel
theorem dX10_item_14 : decode cX10_item 14 = .ok (.iaload, 1) := by decide +kernel
theorem dX10_item_15 : decode cX10_item 15 = .ok (.ifCond .ge 6, 3) := by decide +kernel
theorem dX10_item_18 : decode cX10_item 18 = .ok (.bipush (-11), 2) := by decide +kernel
theorem dX10_item_20 : decode cX10_item 20 = .ok (.ireturn, 1) := by decide +kernel
theorem dX10_item_21 : decode cX10_item 21 = .ok (.iload_n 2, 1) := by decide +kernel
theorem dX10_item_22 : decode cX10_item 22 = .ok (.iconst 0, 1) := by decide +kernel
theorem dX10_item_23 : decode cX10_item 23 = .ok (.aload_n 0, 1) := by decide +kernel
theorem dX10_item_24 : decode cX10_item 24 = .ok (.getfield 64, 3) := by decide +kernel
theorem dX10_item_27 : decode cX10_item 27 = .ok (.iload_n 1, 1) := by decide +kernel
theorem dX10_item_28 : decode cX10_item 28 = .ok (.iaload, 1) := by decide +kernel
theorem dX10_item_29 : decode cX10_item 29 = .ok (.iconst 1, 1) := by decide +kernel
theorem dX10_item_30 : decode cX10_item 30 = .ok (.isub, 1) := by decide +kernel
theorem dX10_item_31 : decode cX10_item 31 = .ok (.invokestatic 82, 3) := by decide +kernel
theorem dX10_item_34 : decode cX10_item 34 = .ok (.ifCond .ne 6, 3) := by decide +kernel
theorem dX10_item_37 : decode cX10_item 37 = .ok (.bipush (-13), 2) := by decide +kernel
theorem dX10_item_39 : decode cX10_item 39 = .ok (.ireturn, 1) := by decide +kernel
theorem dX10_item_40 : decode cX10_item 40 = .ok (.aload_n 0, 1) := by decide +kernel
theorem dX10_item_41 : decode cX10_item 41 = .ok (.getfield 61, 3) := by decide +kernel
theorem dX10_item_44 : decode cX10_item 44 = .ok (.iload_n 1, 1) := by decide +kernel
theorem dX10_item_45 : decode cX10_item 45 = .ok (.iaload, 1) := by decide +kernel
theorem dX10_item_46 : decode cX10_item 46 = .ok (.istore 5, 2) := by decide +kernel
theorem dX10_item_48 : decode cX10_item 48 = .ok (.aload_n 0, 1) := by decide +kernel
theorem dX10_item_49 : decode cX10_item 49 = .ok (.getfield 67, 3) := by decide +kernel
theorem dX10_item_52 : decode cX10_item 52 = .ok (.bipush 60, 2) := by decide +kernel
theorem dX10_item_54 : decode cX10_item 54 = .ok (.iload_n 1, 1) := by decide +kernel
theorem dX10_item_55 : decode cX10_item 55 = .ok (.imul, 1) := by decide +kernel
theorem dX10_item_56 : decode cX10_item 56 = .ok (.iload_n 2, 1) := by decide +kernel
theorem dX10_item_57 : decode cX10_item 57 = .ok (.iadd, 1) := by decide +kernel
theorem dX10_item_58 : decode cX10_item 58 = .ok (.iload 5, 2) := by decide +kernel
theorem dX10_item_60 : decode cX10_item 60 = .ok (.ifCond .ne 10, 3) := by decide +kernel
theorem dX10_item_63 : decode cX10_item 63 = .ok (.lload_n 3, 1) := by decide +kernel
theorem dX10_item_64 : decode cX10_item 64 = .ok (.l2i, 1) := by decide +kernel
theorem dX10_item_65 : decode cX10_item 65 = .ok (.i2b, 1) := by decide +kernel
theorem dX10_item_66 : decode cX10_item 66 = .ok (.i2l, 1) := by decide +kernel
theorem dX10_item_67 : decode cX10_item 67 = .ok (.goto 49, 3) := by decide +kernel
theorem dX10_item_70 : decode cX10_item 70 = .ok (.iload 5, 2) := by decide +kernel
theorem dX10_item_72 : decode cX10_item 72 = .ok (.iconst 1, 1) := by decide +kernel
theorem dX10_item_73 : decode cX10_item 73 = .ok (.if_icmp .ne 10, 3) := by decide +kernel
theorem dX10_item_76 : decode cX10_item 76 = .ok (.lload_n 3, 1) := by decide +kernel
theorem dX10_item_77 : decode cX10_item 77 = .ok (.l2i, 1) := by decide +kernel
theorem dX10_item_78 : decode cX10_item 78 = .ok (.i2s, 1) := by decide +kernel
theorem dX10_item_79 : decode cX10_item 79 = .ok (.i2l, 1) := by decide +kernel
theorem dX10_item_80 : decode cX10_item 80 = .ok (.goto 36, 3) := by decide +kernel
theorem dX10_item_83 : decode cX10_item 83 = .ok (.iload 5, 2) := by decide +kernel
theorem dX10_item_85 : decode cX10_item 85 = .ok (.iconst 2, 1) := by decide +kernel
theorem dX10_item_86 : decode cX10_item 86 = .ok (.if_icmp .ne 9, 3) := by decide +kernel
theorem dX10_item_89 : decode cX10_item 89 = .ok (.lload_n 3, 1) := by decide +kernel
theorem dX10_item_90 : decode cX10_item 90 = .ok (.l2i, 1) := by decide +kernel
theorem dX10_item_91 : decode cX10_item 91 = .ok (.i2l, 1) := by decide +kernel
theorem dX10_item_92 : decode cX10_item 92 = .ok (.goto 24, 3) := by decide +kernel
theorem dX10_item_95 : decode cX10_item 95 = .ok (.iload 5, 2) := by decide +kernel
theorem dX10_item_97 : decode cX10_item 97 = .ok (.iconst 3, 1) := by decide +kernel
theorem dX10_item_98 : decode cX10_item 98 = .ok (.if_icmp .ne 7, 3) := by decide +kernel
theorem dX10_item_101 : decode cX10_item 101 = .ok (.lload_n 3, 1) := by decide +kernel
theorem dX10_item_102 : decode cX10_item 102 = .ok (.goto 14, 3) := by decide +kernel
theorem dX10_item_105 : decode cX10_item 105 = .ok (.lload_n 3, 1) := by decide +kernel
theorem dX10_item_106 : decode cX10_item 106 = .ok (.lconst 0, 1) := by decide +kernel
theorem dX10_item_107 : decode cX10_item 107 = .ok (.lcmp, 1) := by decide +kernel
theorem dX10_item_108 : decode cX10_item 108 = .ok (.ifCond .eq 7, 3) := by decide +kernel
theorem dX10_item_111 : decode cX10_item 111 = .ok (.lconst 1, 1) := by decide +kernel
theorem dX10_item_112 : decode cX10_item 112 = .ok (.goto 4, 3) := by decide +kernel
theorem dX10_item_115 : decode cX10_item 115 = .ok (.lconst 0, 1) := by decide +kernel
theorem dX10_item_116 : decode cX10_item 116 = .ok (.lastore, 1) := by decide +kernel
theorem dX10_item_117 : decode cX10_item 117 = .ok (.iconst 1, 1) := by decide +kernel
theorem dX10_item_118 : decode cX10_item 118 = .ok (.ireturn, 1) := by decide +kernel
theorem dX10_read_0 : decode cX10_read 0 = .ok (.iload_n 1, 1) := by decide +kernel
theorem dX10_read_1 : decode cX10_read 1 = .ok (.invokestatic 261, 3) := by decide +kernel
theorem dX10_read_4 : decode cX10_read 4 = .ok (.ifCond .eq 33, 3) := by decide +kernel
theorem dX10_read_7 : decode cX10_read 7 = .ok (.iload_n 2, 1) := by decide +kernel
theorem dX10_read_8 : decode cX10_read 8 = .ok (.iconst 0, 1) := by decide +kernel
theorem dX10_read_9 : decode cX10_read 9 = .ok (.aload_n 0, 1) := by decide +kernel
theorem dX10_read_10 : decode cX10_read 10 = .ok (.getfield 64, 3) := by decide +kernel
theorem dX10_read_13 : decode cX10_read 13 = .ok (.iload_n 1, 1) := by decide +kernel
theorem dX10_read_14 : decode cX10_read 14 = .ok (.iaload, 1) := by decide +kernel
theorem dX10_read_15 : decode cX10_read 15 = .ok (.iconst 1, 1) := by decide +kernel
theorem dX10_read_16 : decode cX10_read 16 = .ok (.isub, 1) := by decide +kernel
theorem dX10_read_17 : decode cX10_read 17 = .ok (.invokestatic 82, 3) := by decide +kernel
theorem dX10_read_20 : decode cX10_read 20 = .ok (.ifCond .eq 17, 3) := by decide +kernel
theorem dX10_read_23 : decode cX10_read 23 = .ok (.aload_n 0, 1) := by decide +kernel
theorem dX10_read_24 : decode cX10_read 24 = .ok (.getfield 67, 3) := by decide +kernel
theorem dX10_read_27 : decode cX10_read 27 = .ok (.bipush 60, 2) := by decide +kernel
theorem dX10_read_29 : decode cX10_read 29 = .ok (.iload_n 1, 1) := by decide +kernel
theorem dX10_read_30 : decode cX10_read 30 = .ok (.imul, 1) := by decide +kernel
theorem dX10_read_31 : decode cX10_read 31 = .ok (.iload_n 2, 1) := by decide +kernel
theorem dX10_read_32 : decode cX10_read 32 = .ok (.iadd, 1) := by decide +kernel
theorem dX10_read_33 : decode cX10_read 33 = .ok (.laload, 1) := by decide +kernel
theorem dX10_read_34 : decode cX10_read 34 = .ok (.goto 6, 3) := by decide +kernel
theorem dX10_read_37 : decode cX10_read 37 = .ok (.ldc2_w 240, 3) := by decide +kernel
theorem dX10_read_40 : decode cX10_read 40 = .ok (.lreturn, 1) := by decide +kernel
theorem dX10_shift_0 : decode cX10_shift 0 = .ok (.iload_n 1, 1) := by decide +kernel
theorem dX10_shift_1 : decode cX10_shift 1 = .ok (.invokestatic 261, 3) := by decide +kernel
theorem dX10_shift_4 : decode cX10_shift 4 = .ok (.ifCond .eq 10, 3) := by decide +kernel
theorem dX10_shift_7 : decode cX10_shift 7 = .ok (.iload_n 3, 1) := by decide +kernel
theorem dX10_shift_8 : decode cX10_shift 8 = .ok (.invokestatic 261, 3) := by decide +kernel
theorem dX10_shift_11 : decode cX10_shift 11 = .ok (.ifCond .ne 5, 3) := by decide +kernel
theorem dX10_shift_14 : decode cX10_shift 14 = .ok (.iconst (-1), 1) := by decide +kernel
theorem dX10_shift_15 : decode cX10_shift 15 = .ok (.ireturn, 1) := by decide +kernel
theorem dX10_shift_16 : decode cX10_shift 16 = .ok (.aload_n 0, 1) := by decide +kernel
theorem dX10_shift_17 : decode cX10_shift 17 = .ok (.getfield 61, 3) := by decide +kernel
theorem dX10_shift_20 : decode cX10_shift 20 = .ok (.iload_n 1, 1) := by decide +kernel
theorem dX10_shift_21 : decode cX10_shift 21 = .ok (.iaload, 1) := by decide +kernel
theorem dX10_shift_22 : decode cX10_shift 22 = .ok (.ifCond .lt 12, 3) := by decide +kernel
theorem dX10_shift_25 : decode cX10_shift 25 = .ok (.aload_n 0, 1) := by decide +kernel
theorem dX10_shift_26 : decode cX10_shift 26 = .ok (.getfield 61, 3) := by decide +kernel
theorem dX10_shift_29 : decode cX10_shift 29 = .ok (.iload_n 3, 1) := by decide +kernel
theorem dX10_shift_30 : decode cX10_shift 30 = .ok (.iaload, 1) := by decide +kernel
theorem dX10_shift_31 : decode cX10_shift 31 = .ok (.ifCond .ge 6, 3) := by decide +kernel
theorem dX10_shift_34 : decode cX10_shift 34 = .ok (.bipush (-11), 2) := by decide +kernel
theorem dX10_shift_36 : decode cX10_shift 36 = .ok (.ireturn, 1) := by decide +kernel
theorem dX10_shift_37 : decode cX10_shift 37 = .ok (.aload_n 0, 1) := by decide +kernel
theorem dX10_shift_38 : decode cX10_shift 38 = .ok (.getfield 61, 3) := by decide +kernel
theorem dX10_shift_41 : decode cX10_shift 41 = .ok (.iload_n 1, 1) := by decide +kernel
theorem dX10_shift_42 : decode cX10_shift 42 = .ok (.iaload, 1) := by decide +kernel
theorem dX10_shift_43 : decode cX10_shift 43 = .ok (.aload_n 0, 1) := by decide +kernel
theorem dX10_shift_44 : decode cX10_shift 44 = .ok (.getfield 61, 3) := by decide +kernel
theorem dX10_shift_47 : decode cX10_shift 47 = .ok (.iload_n 3, 1) := by decide +kernel
theorem dX10_shift_48 : decode cX10_shift 48 = .ok (.iaload, 1) := by decide +kernel
theorem dX10_shift_49 : decode cX10_shift 49 = .ok (.if_icmp .eq 6, 3) := by decide +kernel
theorem dX10_shift_52 : decode cX10_shift 52 = .ok (.bipush (-12), 2) := by decide +kernel
theorem dX10_shift_54 : decode cX10_shift 54 = .ok (.ireturn, 1) := by decide +kernel
theorem dX10_shift_55 : decode cX10_shift 55 = .ok (.iload 5, 2) := by decide +kernel
theorem dX10_shift_57 : decode cX10_shift 57 = .ok (.ifCond .lt 39, 3) := by decide +kernel
theorem dX10_shift_60 : decode cX10_shift 60 = .ok (.iload_n 2, 1) := by decide +kernel
theorem dX10_shift_61 : decode cX10_shift 61 = .ok (.ifCond .lt 35, 3) := by decide +kernel
theorem dX10_shift_64 : decode cX10_shift 64 = .ok (.iload 4, 2) := by decide +kernel
theorem dX10_shift_66 : decode cX10_shift 66 = .ok (.ifCond .lt 30, 3) := by decide +kernel
theorem dX10_shift_69 : decode cX10_shift 69 = .ok (.iload 5, 2) := by decide +kernel
theorem dX10_shift_71 : decode cX10_shift 71 = .ok (.aload_n 0, 1) := by decide +kernel
theorem dX10_shift_72 : decode cX10_shift 72 = .ok (.getfield 64, 3) := by decide +kernel
theorem dX10_shift_75 : decode cX10_shift 75 = .ok (.iload_n 1, 1) := by decide +kernel
theorem dX10_shift_76 : decode cX10_shift 76 = .ok (.iaload, 1) := by decide +kernel
theorem dX10_shift_77 : decode cX10_shift 77 = .ok (.iload_n 2, 1) := by decide +kernel
theorem dX10_shift_78 : decode cX10_shift 78 = .ok (.isub, 1) := by decide +kernel
theorem dX10_shift_79 : decode cX10_shift 79 = .ok (.if_icmp .gt 17, 3) := by decide +kernel
theorem dX10_shift_82 : decode cX10_shift 82 = .ok (.iload 5, 2) := by decide +kernel
theorem dX10_shift_84 : decode cX10_shift 84 = .ok (.aload_n 0, 1) := by decide +kernel
theorem dX10_shift_85 : decode cX10_shift 85 = .ok (.getfield 64, 3) := by decide +kernel
theorem dX10_shift_88 : decode cX10_shift 88 = .ok (.iload_n 3, 1) := by decide +kernel
theorem dX10_shift_89 : decode cX10_shift 89 = .ok (.iaload, 1) := by decide +kernel
theorem dX10_shift_90 : decode cX10_shift 90 = .ok (.iload 4, 2) := by decide +kernel
theorem dX10_shift_92 : decode cX10_shift 92 = .ok (.isub, 1) := by decide +kernel
theorem dX10_shift_93 : decode cX10_shift 93 = .ok (.if_icmp .le 6, 3) := by decide +kernel
theorem dX10_shift_96 : decode cX10_shift 96 = .ok (.bipush (-13), 2) := by decide +kernel
theorem dX10_shift_98 : decode cX10_shift 98 = .ok (.ireturn, 1) := by decide +kernel
theorem dX10_shift_99 : decode cX10_shift 99 = .ok (.iconst 0, 1) := by decide +kernel
theorem dX10_shift_100 : decode cX10_shift 100 = .ok (.istore 6, 2) := by decide +kernel
theorem dX10_shift_102 : decode cX10_shift 102 = .ok (.iload 6, 2) := by decide +kernel
theorem dX10_shift_104 : decode cX10_shift 104 = .ok (.iload 5, 2) := by decide +kernel
theorem dX10_shift_106 : decode cX10_shift 106 = .ok (.if_icmp .ge 30, 3) := by decide +kernel
theorem dX10_shift_109 : decode cX10_shift 109 = .ok (.aload_n 0, 1) := by decide +kernel
theorem dX10_shift_110 : decode cX10_shift 110 = .ok (.getfield 71, 3) := by decide +kernel
theorem dX10_shift_113 : decode cX10_shift 113 = .ok (.iload 6, 2) := by decide +kernel
theorem dX10_shift_115 : decode cX10_shift 115 = .ok (.aload_n 0, 1) := by decide +kernel
theorem dX10_shift_116 : decode cX10_shift 116 = .ok (.getfield 67, 3) := by decide +kernel
theorem dX10_shift_119 : decode cX10_shift 119 = .ok (.bipush 60, 2) := by decide +kernel
theorem dX10_shift_121 : decode cX10_shift 121 = .ok (.iload_n 1, 1) := by decide +kernel
theorem dX10_shift_122 : decode cX10_shift 122 = .ok (.imul, 1) := by decide +kernel
theorem dX10_shift_123 : decode cX10_shift 123 = .ok (.iload_n 2, 1) := by decide +kernel
theorem dX10_shift_124 : decode cX10_shift 124 = .ok (.iadd, 1) := by decide +kernel
theorem dX10_shift_125 : decode cX10_shift 125 = .ok (.iload 6, 2) := by decide +kernel
theorem dX10_shift_127 : decode cX10_shift 127 = .ok (.iadd, 1) := by decide +kernel
theorem dX10_shift_128 : decode cX10_shift 128 = .ok (.laload, 1) := by decide +kernel
theorem dX10_shift_129 : decode cX10_shift 129 = .ok (.lastore, 1) := by decide +kernel
theorem dX10_shift_130 : decode cX10_shift 130 = .ok (.iinc 6 1, 3) := by decide +kernel
theorem dX10_shift_133 : decode cX10_shift 133 = .ok (.goto (-31), 3) := by decide +kernel
theorem dX10_shift_136 : decode cX10_shift 136 = .ok (.iconst 0, 1) := by decide +kernel
theorem dX10_shift_137 : decode cX10_shift 137 = .ok (.istore 6, 2) := by decide +kernel
theorem dX10_shift_139 : decode cX10_shift 139 = .ok (.iload 6, 2) := by decide +kernel
theorem dX10_shift_141 : decode cX10_shift 141 = .ok (.iload 5, 2) := by decide +kernel
theorem dX10_shift_143 : decode cX10_shift 143 = .ok (.if_icmp .ge 31, 3) := by decide +kernel
theorem dX10_shift_146 : decode cX10_shift 146 = .ok (.aload_n 0, 1) := by decide +kernel
theorem dX10_shift_147 : decode cX10_shift 147 = .ok (.getfield 67, 3) := by decide +kernel
theorem dX10_shift_150 : decode cX10_shift 150 = .ok (.bipush 60, 2) := by decide +kernel
theorem dX10_shift_152 : decode cX10_shift 152 = .ok (.iload_n 3, 1) := by decide +kernel
theorem dX10_shift_153 : decode cX10_shift 153 = .ok (.imul, 1) := by decide +kernel
theorem dX10_shift_154 : decode cX10_shift 154 = .ok (.iload 4, 2) := by decide +kernel
theorem dX10_shift_156 : decode cX10_shift 156 = .ok (.iadd, 1) := by decide +kernel
theorem dX10_shift_157 : decode cX10_shift 157 = .ok (.iload 6, 2) := by decide +kernel
theorem dX10_shift_159 : decode cX10_shift 159 = .ok (.iadd, 1) := by decide +kernel
theorem dX10_shift_160 : decode cX10_shift 160 = .ok (.aload_n 0, 1) := by decide +kernel
theorem dX10_shift_161 : decode cX10_shift 161 = .ok (.getfield 71, 3) := by decide +kernel
theorem dX10_shift_164 : decode cX10_shift 164 = .ok (.iload 6, 2) := by decide +kernel
theorem dX10_shift_166 : decode cX10_shift 166 = .ok (.laload, 1) := by decide +kernel
theorem dX10_shift_167 : decode cX10_shift 167 = .ok (.lastore, 1) := by decide +kernel
theorem dX10_shift_168 : decode cX10_shift 168 = .ok (.iinc 6 1, 3) := by decide +kernel
theorem dX10_shift_171 : decode cX10_shift 171 = .ok (.goto (-32), 3) := by decide +kernel
theorem dX10_shift_174 : decode cX10_shift 174 = .ok (.iload 5, 2) := by decide +kernel
theorem dX10_shift_176 : decode cX10_shift 176 = .ok (.ireturn, 1) := by decide +kernel
theorem dX10_judge_0 : decode cX10_judge 0 = .ok (.iload_n 1, 1) := by decide +kernel
theorem dX10_judge_1 : decode cX10_judge 1 = .ok (.invokestatic 261, 3) := by decide +kernel
theorem dX10_judge_4 : decode cX10_judge 4 = .ok (.ifCond .ne 5, 3) := by decide +kernel
theorem dX10_judge_7 : decode cX10_judge 7 = .ok (.iconst (-1), 1) := by decide +kernel
theorem dX10_judge_8 : decode cX10_judge 8 = .ok (.ireturn, 1) := by decide +kernel
theorem dX10_judge_9 : decode cX10_judge 9 = .ok (.aload_n 0, 1) := by decide +kernel
theorem dX10_judge_10 : decode cX10_judge 10 = .ok (.getfield 61, 3) := by decide +kernel
theorem dX10_judge_13 : decode cX10_judge 13 = .ok (.iload_n 1, 1) := by decide +kernel
theorem dX10_judge_14 : decode cX10_judge 14 = .ok (.iaload, 1) := by decide +kernel
theorem dX10_judge_15 : decode cX10_judge 15 = .ok (.ifCond .le 6, 3) := by decide +kernel
theorem dX10_judge_18 : decode cX10_judge 18 = .ok (.bipush (-12), 2) := by decide +kernel
theorem dX10_judge_20 : decode cX10_judge 20 = .ok (.ireturn, 1) := by decide +kernel
theorem dX10_judge_21 : decode cX10_judge 21 = .ok (.iconst 0, 1) := by decide +kernel
theorem dX10_judge_22 : decode cX10_judge 22 = .ok (.istore_n 3, 1) := by decide +kernel
theorem dX10_judge_23 : decode cX10_judge 23 = .ok (.iload_n 3, 1) := by decide +kernel
theorem dX10_judge_24 : decode cX10_judge 24 = .ok (.aload_n 0, 1) := by decide +kernel
theorem dX10_judge_25 : decode cX10_judge 25 = .ok (.getfield 9, 3) := by decide +kernel
theorem dX10_judge_28 : decode cX10_judge 28 = .ok (.bipush 78, 2) := by decide +kernel
theorem dX10_judge_30 : decode cX10_judge 30 = .ok (.iaload, 1) := by decide +kernel
theorem dX10_judge_31 : decode cX10_judge 31 = .ok (.if_icmp .ge 64, 3) := by decide +kernel
theorem dX10_judge_34 : decode cX10_judge 34 = .ok (.iload_n 2, 1) := by decide +kernel
theorem dX10_judge_35 : decode cX10_judge 35 = .ok (.i2l, 1) := by decide +kernel
theorem dX10_judge_36 : decode cX10_judge 36 = .ok (.iload_n 3, 1) := by decide +kernel
theorem dX10_judge_37 : decode cX10_judge 37 = .ok (.i2l, 1) := by decide +kernel
theorem dX10_judge_38 : decode cX10_judge 38 = .ok (.ladd, 1) := by decide +kernel
theorem dX10_judge_39 : decode cX10_judge 39 = .ok (.lstore 4, 2) := by decide +kernel
theorem dX10_judge_41 : decode cX10_judge 41 = .ok (.iload_n 2, 1) := by decide +kernel
theorem dX10_judge_42 : decode cX10_judge 42 = .ok (.ifCond .lt 16, 3) := by decide +kernel
theorem dX10_judge_45 : decode cX10_judge 45 = .ok (.lload 4, 2) := by decide +kernel
theorem dX10_judge_47 : decode cX10_judge 47 = .ok (.aload_n 0, 1) := by decide +kernel
theorem dX10_judge_48 : decode cX10_judge 48 = .ok (.getfield 64, 3) := by decide +kernel
theorem dX10_judge_51 : decode cX10_judge 51 = .ok (.iload_n 1, 1) := by decide +kernel
theorem dX10_judge_52 : decode cX10_judge 52 = .ok (.iaload, 1) := by decide +kernel
theorem dX10_judge_53 : decode cX10_judge 53 = .ok (.i2l, 1) := by decide +kernel
theorem dX10_judge_54 : decode cX10_judge 54 = .ok (.lcmp, 1) := by decide +kernel
theorem dX10_judge_55 : decode cX10_judge 55 = .ok (.ifCond .lt 8, 3) := by decide +kernel
theorem dX10_judge_58 : decode cX10_judge 58 = .ok (.bipush 100, 2) := by decide +kernel
theorem dX10_judge_60 : decode cX10_judge 60 = .ok (.iload_n 3, 1) := by decide +kernel
theorem dX10_judge_61 : decode cX10_judge 61 = .ok (.iadd, 1) := by decide +kernel
theorem dX10_judge_62 : decode cX10_judge 62 = .ok (.ireturn, 1) := by decide +kernel
theorem dX10_judge_63 : decode cX10_judge 63 = .ok (.aload_n 0, 1) := by decide +kernel
theorem dX10_judge_64 : decode cX10_judge 64 = .ok (.getfield 67, 3) := by decide +kernel
theorem dX10_judge_67 : decode cX10_judge 67 = .ok (.bipush 60, 2) := by decide +kernel
theorem dX10_judge_69 : decode cX10_judge 69 = .ok (.iload_n 1, 1) := by decide +kernel
theorem dX10_judge_70 : decode cX10_judge 70 = .ok (.imul, 1) := by decide +kernel
theorem dX10_judge_71 : decode cX10_judge 71 = .ok (.lload 4, 2) := by decide +kernel
theorem dX10_judge_73 : decode cX10_judge 73 = .ok (.l2i, 1) := by decide +kernel
theorem dX10_judge_74 : decode cX10_judge 74 = .ok (.iadd, 1) := by decide +kernel
theorem dX10_judge_75 : decode cX10_judge 75 = .ok (.laload, 1) := by decide +kernel
theorem dX10_judge_76 : decode cX10_judge 76 = .ok (.aload_n 0, 1) := by decide +kernel
theorem dX10_judge_77 : decode cX10_judge 77 = .ok (.iload_n 3, 1) := by decide +kernel
theorem dX10_judge_78 : decode cX10_judge 78 = .ok (.iconst 2, 1) := by decide +kernel
theorem dX10_judge_79 : decode cX10_judge 79 = .ok (.invokevirtual 86, 3) := by decide +kernel
theorem dX10_judge_82 : decode cX10_judge 82 = .ok (.i2l, 1) := by decide +kernel
theorem dX10_judge_83 : decode cX10_judge 83 = .ok (.lcmp, 1) := by decide +kernel
theorem dX10_judge_84 : decode cX10_judge 84 = .ok (.ifCond .eq 5, 3) := by decide +kernel
theorem dX10_judge_87 : decode cX10_judge 87 = .ok (.iload_n 3, 1) := by decide +kernel
theorem dX10_judge_88 : decode cX10_judge 88 = .ok (.ireturn, 1) := by decide +kernel
theorem dX10_judge_89 : decode cX10_judge 89 = .ok (.iinc 3 1, 3) := by decide +kernel
theorem dX10_judge_92 : decode cX10_judge 92 = .ok (.goto (-69), 3) := by decide +kernel
theorem dX10_judge_95 : decode cX10_judge 95 = .ok (.bipush (-5), 2) := by decide +kernel
theorem dX10_judge_97 : decode cX10_judge 97 = .ok (.ireturn, 1) := by decide +kernel
