theorem dX0_init_0 : decode cX0_init 0 = .ok (.aload_n 0, 1) := by decide +kernel
theorem dX0_init_1 : decode cX0_init 1 = .ok (.invokespecial 3, 3) := by decide +kernel
theorem dX0_init_4 : decode cX0_init 4 = .ok (.aload_n 0, 1) := by decide +kernel
theorem dX0_init_5 : decode cX0_init 5 = .ok (.bipush 100, 2) := by decide +kernel
theorem dX0_init_7 : decode cX0_init 7 = .ok (.newarray .int, 2) := by decide +kernel
theorem dX0_init_9 : decode cX0_init 9 = .ok (.putfield 9, 3) := by decide +kernel
theorem dX0_init_12 : decode cX0_init 12 = .ok (.aload_n 0, 1) := by decide +kernel
theorem dX0_init_13 : decode cX0_init 13 = .ok (.bipush 100, 2) := by decide +kernel
theorem dX0_init_15 : decode cX0_init 15 = .ok (.newarray .int, 2) := by decide +kernel
theorem dX0_init_17 : decode cX0_init 17 = .ok (.putfield 15, 3) := by decide +kernel
theorem dX0_init_20 : decode cX0_init 20 = .ok (.aload_n 0, 1) := by decide +kernel
theorem dX0_init_21 : decode cX0_init 21 = .ok (.bipush 6, 2) := by decide +kernel
theorem dX0_init_23 : decode cX0_init 23 = .ok (.newarray .int, 2) := by decide +kernel
theorem dX0_init_25 : decode cX0_init 25 = .ok (.putfield 18, 3) := by decide +kernel
theorem dX0_init_28 : decode cX0_init 28 = .ok (.aload_n 0, 1) := by decide +kernel
theorem dX0_init_29 : decode cX0_init 29 = .ok (.iconst 0, 1) := by decide +kernel
theorem dX0_init_30 : decode cX0_init 30 = .ok (.putfield 21, 3) := by decide +kernel
theorem dX0_init_33 : decode cX0_init 33 = .ok (.aload_n 0, 1) := by decide +kernel
theorem dX0_init_34 : decode cX0_init 34 = .ok (.iconst 3, 1) := by decide +kernel
theorem dX0_init_35 : decode cX0_init 35 = .ok (.putfield 25, 3) := by decide +kernel
theorem dX0_init_38 : decode cX0_init 38 = .ok (.return_, 1) := by decide +kernel
theorem dX0_clear_0 : decode cX0_clear 0 = .ok (.aload_n 0, 1) := by decide +kernel
theorem dX0_clear_1 : decode cX0_clear 1 = .ok (.iconst 0, 1) := by decide +kernel
theorem dX0_clear_2 : decode cX0_clear 2 = .ok (.putfield 21, 3) := by decide +kernel
theorem dX0_clear_5 : decode cX0_clear 5 = .ok (.aload_n 0, 1) := by decide +kernel
theorem dX0_clear_6 : decode cX0_clear 6 = .ok (.iconst 3, 1) := by decide +kernel
theorem dX0_clear_7 : decode cX0_clear 7 = .ok (.putfield 25, 3) := by decide +kernel
theorem dX0_clear_10 : decode cX0_clear 10 = .ok (.return_, 1) := by decide +kernel
theorem dX0_put_0 : decode cX0_put 0 = .ok (.aload_n 0, 1) := by decide +kernel
theorem dX0_put_1 : decode cX0_put 1 = .ok (.getfield 21, 3) := by decide +kernel
theorem dX0_put_4 : decode cX0_put 4 = .ok (.aload_n 0, 1) := by decide +kernel
theorem dX0_put_5 : decode cX0_put 5 = .ok (.getfield 9, 3) := by decide +kernel
theorem dX0_put_8 : decode cX0_put 8 = .ok (.arraylength, 1) := by decide +kernel
theorem dX0_put_9 : decode cX0_put 9 = .ok (.if_icmp .ge 33, 3) := by decide +kernel
theorem dX0_put_12 : decode cX0_put 12 = .ok (.aload_n 0, 1) := by decide +kernel
theorem dX0_put_13 : decode cX0_put 13 = .ok (.getfield 9, 3) := by decide +kernel
theorem dX0_put_16 : decode cX0_put 16 = .ok (.aload_n 0, 1) := by decide +kernel
theorem dX0_put_17 : decode cX0_put 17 = .ok (.getfield 21, 3) := by decide +kernel
theorem dX0_put_20 : decode cX0_put 20 = .ok (.iload_n 1, 1) := by decide +kernel
theorem dX0_put_21 : decode cX0_put 21 = .ok (.iastore, 1) := by decide +kernel
theorem dX0_put_22 : decode cX0_put 22 = .ok (.aload_n 0, 1) := by decide +kernel
theorem dX0_put_23 : decode cX0_put 23 = .ok (.getfield 15, 3) := by decide +kernel
theorem dX0_put_26 : decode cX0_put 26 = .ok (.aload_n 0, 1) := by decide +kernel
theorem dX0_put_27 : decode cX0_put 27 = .ok (.getfield 21, 3) := by decide +kernel
theorem dX0_put_30 : decode cX0_put 30 = .ok (.iload_n 2, 1) := by decide +kernel
theorem dX0_put_31 : decode cX0_put 31 = .ok (.iastore, 1) := by decide +kernel
theorem dX0_put_32 : decode cX0_put 32 = .ok (.aload_n 0, 1) := by decide +kernel
theorem dX0_put_33 : decode cX0_put 33 = .ok (.dup, 1) := by decide +kernel
theorem dX0_put_34 : decode cX0_put 34 = .ok (.getfield 21, 3) := by decide +kernel
theorem dX0_put_37 : decode cX0_put 37 = .ok (.iconst 1, 1) := by decide +kernel
theorem dX0_put_38 : decode cX0_put 38 = .ok (.iadd, 1) := by decide +kernel
theorem dX0_put_39 : decode cX0_put 39 = .ok (.putfield 21, 3) := by decide +kernel
theorem dX0_put_42 : decode cX0_put 42 = .ok (.return_, 1) := by decide +kernel
theorem dX0_sum_0 : decode cX0_sum 0 = .ok (.aload_n 0, 1) := by decide +kernel
theorem dX0_sum_1 : decode cX0_sum 1 = .ok (.getfield 18, 3) := by decide +kernel
theorem dX0_sum_4 : decode cX0_sum 4 = .ok (.iconst 0, 1) := by decide +kernel
theorem dX0_sum_5 : decode cX0_sum 5 = .ok (.aload_n 1, 1) := by decide +kernel
theorem dX0_sum_6 : decode cX0_sum 6 = .ok (.getfield 28, 3) := by decide +kernel
theorem dX0_sum_9 : decode cX0_sum 9 = .ok (.iastore, 1) := by decide +kernel
theorem dX0_sum_10 : decode cX0_sum 10 = .ok (.aload_n 0, 1) := by decide +kernel
theorem dX0_sum_11 : decode cX0_sum 11 = .ok (.getfield 18, 3) := by decide +kernel
theorem dX0_sum_14 : decode cX0_sum 14 = .ok (.iconst 1, 1) := by decide +kernel
theorem dX0_sum_15 : decode cX0_sum 15 = .ok (.aload_n 1, 1) := by decide +kernel
theorem dX0_sum_16 : decode cX0_sum 16 = .ok (.getfield 33, 3) := by decide +kernel
theorem dX0_sum_19 : decode cX0_sum 19 = .ok (.iastore, 1) := by decide +kernel
theorem dX0_sum_20 : decode cX0_sum 20 = .ok (.aload_n 0, 1) := by decide +kernel
theorem dX0_sum_21 : decode cX0_sum 21 = .ok (.getfield 18, 3) := by decide +kernel
theorem dX0_sum_24 : decode cX0_sum 24 = .ok (.iconst 2, 1) := by decide +kernel
theorem dX0_sum_25 : decode cX0_sum 25 = .ok (.aload_n 1, 1) := by decide +kernel
theorem dX0_sum_26 : decode cX0_sum 26 = .ok (.getfield 36, 3) := by decide +kernel
theorem dX0_sum_29 : decode cX0_sum 29 = .ok (.iastore, 1) := by decide +kernel
theorem dX0_sum_30 : decode cX0_sum 30 = .ok (.aload_n 0, 1) := by decide +kernel
theorem dX0_sum_31 : decode cX0_sum 31 = .ok (.getfield 18, 3) := by decide +kernel
theorem dX0_sum_34 : decode cX0_sum 34 = .ok (.iconst 3, 1) := by decide +kernel
theorem dX0_sum_35 : decode cX0_sum 35 = .ok (.iload_n 2, 1) := by decide +kernel
theorem dX0_sum_36 : decode cX0_sum 36 = .ok (.iastore, 1) := by decide +kernel
theorem dX0_sum_37 : decode cX0_sum 37 = .ok (.aload_n 0, 1) := by decide +kernel
theorem dX0_sum_38 : decode cX0_sum 38 = .ok (.getfield 18, 3) := by decide +kernel
theorem dX0_sum_41 : decode cX0_sum 41 = .ok (.iconst 4, 1) := by decide +kernel
theorem dX0_sum_42 : decode cX0_sum 42 = .ok (.aload_n 1, 1) := by decide +kernel
theorem dX0_sum_43 : decode cX0_sum 43 = .ok (.getfield 39, 3) := by decide +kernel
theorem dX0_sum_46 : decode cX0_sum 46 = .ok (.bipush 10, 2) := by decide +kernel
theorem dX0_sum_48 : decode cX0_sum 48 = .ok (.idiv, 1) := by decide +kernel
theorem dX0_sum_49 : decode cX0_sum 49 = .ok (.iastore, 1) := by decide +kernel
theorem dX0_sum_50 : decode cX0_sum 50 = .ok (.aload_n 0, 1) := by decide +kernel
theorem dX0_sum_51 : decode cX0_sum 51 = .ok (.getfield 18, 3) := by decide +kernel
theorem dX0_sum_54 : decode cX0_sum 54 = .ok (.iconst 5, 1) := by decide +kernel
theorem dX0_sum_55 : decode cX0_sum 55 = .ok (.iload_n 3, 1) := by decide +kernel
theorem dX0_sum_56 : decode cX0_sum 56 = .ok (.bipush 10, 2) := by decide +kernel
theorem dX0_sum_58 : decode cX0_sum 58 = .ok (.irem, 1) := by decide +kernel
theorem dX0_sum_59 : decode cX0_sum 59 = .ok (.iastore, 1) := by decide +kernel
theorem dX0_sum_60 : decode cX0_sum 60 = .ok (.aload_n 1, 1) := by decide +kernel
theorem dX0_sum_61 : decode cX0_sum 61 = .ok (.getfield 39, 3) := by decide +kernel
theorem dX0_sum_64 : decode cX0_sum 64 = .ok (.iconst 5, 1) := by decide +kernel
theorem dX0_sum_65 : decode cX0_sum 65 = .ok (.idiv, 1) := by decide +kernel
theorem dX0_sum_66 : decode cX0_sum 66 = .ok (.istore 4, 2) := by decide +kernel
theorem dX0_sum_68 : decode cX0_sum 68 = .ok (.iconst 0, 1) := by decide +kernel
theorem dX0_sum_69 : decode cX0_sum 69 = .ok (.istore 5, 2) := by decide +kernel
theorem dX0_sum_71 : decode cX0_sum 71 = .ok (.iconst 0, 1) := by decide +kernel
theorem dX0_sum_72 : decode cX0_sum 72 = .ok (.istore 6, 2) := by decide +kernel
theorem dX0_sum_74 : decode cX0_sum 74 = .ok (.iload 6, 2) := by decide +kernel
theorem dX0_sum_76 : decode cX0_sum 76 = .ok (.aload_n 0, 1) := by decide +kernel
theorem dX0_sum_77 : decode cX0_sum 77 = .ok (.getfield 21, 3) := by decide +kernel
theorem dX0_sum_80 : decode cX0_sum 80 = .ok (.if_icmp .ge 177, 3) := by decide +kernel
theorem dX0_sum_83 : decode cX0_sum 83 = .ok (.aload_n 0, 1) := by decide +kernel
theorem dX0_sum_84 : decode cX0_sum 84 = .ok (.getfield 15, 3) := by decide +kernel
theorem dX0_sum_87 : decode cX0_sum 87 = .ok (.iload 6, 2) := by decide +kernel
theorem dX0_sum_89 : decode cX0_sum 89 = .ok (.iaload, 1) := by decide +kernel
theorem dX0_sum_90 : decode cX0_sum 90 = .ok (.istore 7, 2) := by decide +kernel
theorem dX0_sum_92 : decode cX0_sum 92 = .ok (.aload_n 0, 1) := by decide +kernel
theorem dX0_sum_93 : decode cX0_sum 93 = .ok (.getfield 9, 3) := by decide +kernel
theorem dX0_sum_96 : decode cX0_sum 96 = .ok (.iload 6, 2) := by decide +kernel
theorem dX0_sum_98 : decode cX0_sum 98 = .ok (.iaload, 1) := by decide +kernel
theorem dX0_sum_99 : decode cX0_sum 99 = .ok (.tableswitch 85 18 21 #[29, 44, 58, 67], 29) := by decide +kernel
theorem dX0_sum_128 : decode cX0_sum 128 = .ok (.iload 5, 2) := by decide +kernel
theorem dX0_sum_130 : decode cX0_sum 130 = .ok (.iconst 1, 1) := by decide +kernel
theorem dX0_sum_131 : decode cX0_sum 131 = .ok (.ishr, 1) := by decide +kernel
theorem dX0_sum_132 : decode cX0_sum 132 = .ok (.iload 5, 2) := by decide +kernel
theorem dX0_sum_134 : decode cX0_sum 134 = .ok (.bipush (-2), 2) := by decide +kernel
theorem dX0_sum_136 : decode cX0_sum 136 = .ok (.ior, 1) := by decide +kernel
theorem dX0_sum_137 : decode cX0_sum 137 = .ok (.iand, 1) := by decide +kernel
theorem dX0_sum_138 : decode cX0_sum 138 = .ok (.istore 5, 2) := by decide +kernel
theorem dX0_sum_140 : decode cX0_sum 140 = .ok (.goto 111, 3) := by decide +kernel
theorem dX0_sum_143 : decode cX0_sum 143 = .ok (.iload 5, 2) := by decide +kernel
theorem dX0_sum_145 : decode cX0_sum 145 = .ok (.iconst 1, 1) := by decide +kernel
theorem dX0_sum_146 : decode cX0_sum 146 = .ok (.ishr, 1) := by decide +kernel
theorem dX0_sum_147 : decode cX0_sum 147 = .ok (.iload 5, 2) := by decide +kernel
theorem dX0_sum_149 : decode cX0_sum 149 = .ok (.iconst 1, 1) := by decide +kernel
theorem dX0_sum_150 : decode cX0_sum 150 = .ok (.iand, 1) := by decide +kernel
theorem dX0_sum_151 : decode cX0_sum 151 = .ok (.ior, 1) := by decide +kernel
theorem dX0_sum_152 : decode cX0_sum 152 = .ok (.istore 5, 2) := by decide +kernel
theorem dX0_sum_154 : decode cX0_sum 154 = .ok (.goto 97, 3) := by decide +kernel
theorem dX0_sum_157 : decode cX0_sum 157 = .ok (.iload 5, 2) := by decide +kernel
theorem dX0_sum_159 : decode cX0_sum 159 = .ok (.iconst 1, 1) := by decide +kernel
theorem dX0_sum_160 : decode cX0_sum 160 = .ok (.ixor, 1) := by decide +kernel
theorem dX0_sum_161 : decode cX0_sum 161 = .ok (.istore 5, 2) := by decide +kernel
theorem dX0_sum_163 : decode cX0_sum 163 = .ok (.goto 88, 3) := by decide +kernel
theorem dX0_sum_166 : decode cX0_sum 166 = .ok (.iload 4, 2) := by decide +kernel
theorem dX0_sum_168 : decode cX0_sum 168 = .ok (.iload 5, 2) := by decide +kernel
theorem dX0_sum_170 : decode cX0_sum 170 = .ok (.iconst 1, 1) := by decide +kernel
theorem dX0_sum_171 : decode cX0_sum 171 = .ok (.iand, 1) := by decide +kernel
theorem dX0_sum_172 : decode cX0_sum 172 = .ok (.iload 7, 2) := by decide +kernel
theorem dX0_sum_174 : decode cX0_sum 174 = .ok (.imul, 1) := by decide +kernel
theorem dX0_sum_175 : decode cX0_sum 175 = .ok (.iadd, 1) := by decide +kernel
theorem dX0_sum_176 : decode cX0_sum 176 = .ok (.istore 4, 2) := by decide +kernel
theorem dX0_sum_178 : decode cX0_sum 178 = .ok (.iconst 0, 1) := by decide +kernel
theorem dX0_sum_179 : decode cX0_sum 179 = .ok (.istore 5, 2) := by decide +kernel
theorem dX0_sum_181 : decode cX0_sum 181 = .ok (.goto 70, 3) := by decide +kernel
theorem dX0_sum_184 : decode cX0_sum 184 = .ok (.aload_n 0, 1) := by decide +kernel
theorem dX0_sum_185 : decode cX0_sum 185 = .ok (.getfield 18, 3) := by decide +kernel
theorem dX0_sum_188 : decode cX0_sum 188 = .ok (.aload_n 0, 1) := by decide +kernel
theorem dX0_sum_189 : decode cX0_sum 189 = .ok (.getfield 9, 3) := by decide +kernel
theorem dX0_sum_192 : decode cX0_sum 192 = .ok (.iload 6, 2) := by decide +kernel
theorem dX0_sum_194 : decode cX0_sum 194 = .ok (.iaload, 1) := by decide +kernel
theorem dX0_sum_195 : decode cX0_sum 195 = .ok (.iconst 3, 1) := by decide +kernel
theorem dX0_sum_196 : decode cX0_sum 196 = .ok (.idiv, 1) := by decide +kernel
theorem dX0_sum_197 : decode cX0_sum 197 = .ok (.iaload, 1) := by decide +kernel
theorem dX0_sum_198 : decode cX0_sum 198 = .ok (.istore 8, 2) := by decide +kernel
theorem dX0_sum_200 : decode cX0_sum 200 = .ok (.iload 8, 2) := by decide +kernel
theorem dX0_sum_202 : decode cX0_sum 202 = .ok (.iload 7, 2) := by decide +kernel
theorem dX0_sum_204 : decode cX0_sum 204 = .ok (.if_icmp .ge 7, 3) := by decide +kernel
theorem dX0_sum_207 : decode cX0_sum 207 = .ok (.iconst 0, 1) := by decide +kernel
theorem dX0_sum_208 : decode cX0_sum 208 = .ok (.goto 15, 3) := by decide +kernel
theorem dX0_sum_211 : decode cX0_sum 211 = .ok (.iload 8, 2) := by decide +kernel
theorem dX0_sum_213 : decode cX0_sum 213 = .ok (.iload 7, 2) := by decide +kernel
theorem dX0_sum_215 : decode cX0_sum 215 = .ok (.if_icmp .ne 7, 3) := by decide +kernel
theorem dX0_sum_218 : decode cX0_sum 218 = .ok (.iconst 1, 1) := by decide +kernel
theorem dX0_sum_219 : decode cX0_sum 219 = .ok (.goto 4, 3) := by decide +kernel
theorem dX0_sum_222 : decode cX0_sum 222 = .ok (.iconst 2, 1) := by decide +kernel
theorem dX0_sum_223 : decode cX0_sum 223 = .ok (.istore 9, 2) := by decide +kernel
theorem dX0_sum_225 : decode cX0_sum 225 = .ok (.iload 5, 2) := by decide +kernel
theorem dX0_sum_227 : decode cX0_sum 227 = .ok (.iconst 1, 1) := by decide +kernel
theorem dX0_sum_228 : decode cX0_sum 228 = .ok (.ishl, 1) := by decide +kernel
theorem dX0_sum_229 : decode cX0_sum 229 = .ok (.iload 9, 2) := by decide +kernel
theorem dX0_sum_231 : decode cX0_sum 231 = .ok (.aload_n 0, 1) := by decide +kernel
theorem dX0_sum_232 : decode cX0_sum 232 = .ok (.getfield 9, 3) := by decide +kernel
theorem dX0_sum_235 : decode cX0_sum 235 = .ok (.iload 6, 2) := by decide +kernel
theorem dX0_sum_237 : decode cX0_sum 237 = .ok (.iaload, 1) := by decide +kernel
theorem dX0_sum_238 : decode cX0_sum 238 = .ok (.iconst 3, 1) := by decide +kernel
theorem dX0_sum_239 : decode cX0_sum 239 = .ok (.irem, 1) := by decide +kernel
theorem dX0_sum_240 : decode cX0_sum 240 = .ok (.if_icmp .ne 7, 3) := by decide +kernel
theorem dX0_sum_243 : decode cX0_sum 243 = .ok (.iconst 1, 1) := by decide +kernel
theorem dX0_sum_244 : decode cX0_sum 244 = .ok (.goto 4, 3) := by decide +kernel
theorem dX0_sum_247 : decode cX0_sum 247 = .ok (.iconst 0, 1) := by decide +kernel
theorem dX0_sum_248 : decode cX0_sum 248 = .ok (.ior, 1) := by decide +kernel
theorem dX0_sum_249 : decode cX0_sum 249 = .ok (.istore 5, 2) := by decide +kernel
theorem dX0_sum_251 : decode cX0_sum 251 = .ok (.iinc 6 1, 3) := by decide +kernel
theorem dX0_sum_254 : decode cX0_sum 254 = .ok (.goto (-180), 3) := by decide +kernel
theorem dX0_sum_257 : decode cX0_sum 257 = .ok (.iload 4, 2) := by decide +kernel
theorem dX0_sum_259 : decode cX0_sum 259 = .ok (.ireturn, 1) := by decide +kernel
theorem dX1_init_0 : decode cX1_init 0 = .ok (.aload_n 0, 1) := by decide +kernel
theorem dX1_init_1 : decode cX1_init 1 = .ok (.invokespecial 1, 3) := by decide +kernel
theorem dX1_init_4 : decode cX1_init 4 = .ok (.aload_n 0, 1) := by decide +kernel
theorem dX1_init_5 : decode cX1_init 5 = .ok (.new 7, 3) := by decide +kernel
theorem dX1_init_8 : decode cX1_init 8 = .ok (.dup, 1) := by decide +kernel
theorem dX1_init_9 : decode cX1_init 9 = .ok (.iconst 5, 1) := by decide +kernel
theorem dX1_init_10 : decode cX1_init 10 = .ok (.invokespecial 9, 3) := by decide +kernel
theorem dX1_init_13 : decode cX1_init 13 = .ok (.putfield 12, 3) := by decide +kernel
theorem dX1_init_16 : decode cX1_init 16 = .ok (.aload_n 0, 1) := by decide +kernel
theorem dX1_init_17 : decode cX1_init 17 = .ok (.new 7, 3) := by decide +kernel
theorem dX1_init_20 : decode cX1_init 20 = .ok (.dup, 1) := by decide +kernel
theorem dX1_init_21 : decode cX1_init 21 = .ok (.iconst 5, 1) := by decide +kernel
theorem dX1_init_22 : decode cX1_init 22 = .ok (.invokespecial 9, 3) := by decide +kernel
theorem dX1_init_25 : decode cX1_init 25 = .ok (.putfield 18, 3) := by decide +kernel
theorem dX1_init_28 : decode cX1_init 28 = .ok (.aload_n 0, 1) := by decide +kernel
theorem dX1_init_29 : decode cX1_init 29 = .ok (.new 7, 3) := by decide +kernel
theorem dX1_init_32 : decode cX1_init 32 = .ok (.dup, 1) := by decide +kernel
theorem dX1_init_33 : decode cX1_init 33 = .ok (.bipush 10, 2) := by decide +kernel
theorem dX1_init_35 : decode cX1_init 35 = .ok (.invokespecial 9, 3) := by decide +kernel
theorem dX1_init_38 : decode cX1_init 38 = .ok (.putfield 21, 3) := by decide +kernel
theorem dX1_init_41 : decode cX1_init 41 = .ok (.aload_n 0, 1) := by decide +kernel
theorem dX1_init_42 : decode cX1_init 42 = .ok (.new 7, 3) := by decide +kernel
theorem dX1_init_45 : decode cX1_init 45 = .ok (.dup, 1) := by decide +kernel
theorem dX1_init_46 : decode cX1_init 46 = .ok (.bipush 8, 2) := by decide +kernel
theorem dX1_init_48 : decode cX1_init 48 = .ok (.invokespecial 9, 3) := by decide +kernel
theorem dX1_init_51 : decode cX1_init 51 = .ok (.putfield 24, 3) := by decide +kernel
theorem dX1_init_54 : decode cX1_init 54 = .ok (.return_, 1) := by decide +kernel
theorem dX1_become_0 : decode cX1_become 0 = .ok (.aload_n 0, 1) := by decide +kernel
theorem dX1_become_1 : decode cX1_become 1 = .ok (.getfield 12, 3) := by decide +kernel
theorem dX1_become_4 : decode cX1_become 4 = .ok (.aload_n 1, 1) := by decide +kernel
theorem dX1_become_5 : decode cX1_become 5 = .ok (.getfield 12, 3) := by decide +kernel
theorem dX1_become_8 : decode cX1_become 8 = .ok (.invokevirtual 27, 3) := by decide +kernel
theorem dX1_become_11 : decode cX1_become 11 = .ok (.aload_n 0, 1) := by decide +kernel
theorem dX1_become_12 : decode cX1_become 12 = .ok (.getfield 18, 3) := by decide +kernel
theorem dX1_become_15 : decode cX1_become 15 = .ok (.aload_n 1, 1) := by decide +kernel
theorem dX1_become_16 : decode cX1_become 16 = .ok (.getfield 18, 3) := by decide +kernel
theorem dX1_become_19 : decode cX1_become 19 = .ok (.invokevirtual 27, 3) := by decide +kernel
theorem dX1_become_22 : decode cX1_become 22 = .ok (.aload_n 0, 1) := by decide +kernel
theorem dX1_become_23 : decode cX1_become 23 = .ok (.getfield 21, 3) := by decide +kernel
theorem dX1_become_26 : decode cX1_become 26 = .ok (.aload_n 1, 1) := by decide +kernel
theorem dX1_become_27 : decode cX1_become 27 = .ok (.getfield 21, 3) := by decide +kernel
theorem dX1_become_30 : decode cX1_become 30 = .ok (.invokevirtual 27, 3) := by decide +kernel
theorem dX1_become_33 : decode cX1_become 33 = .ok (.aload_n 0, 1) := by decide +kernel
theorem dX1_become_34 : decode cX1_become 34 = .ok (.getfield 24, 3) := by decide +kernel
theorem dX1_become_37 : decode cX1_become 37 = .ok (.aload_n 1, 1) := by decide +kernel
theorem dX1_become_38 : decode cX1_become 38 = .ok (.getfield 24, 3) := by decide +kernel
theorem dX1_become_41 : decode cX1_become 41 = .ok (.invokevirtual 27, 3) := by decide +kernel
theorem dX1_become_44 : decode cX1_become 44 = .ok (.return_, 1) := by decide +kernel
theorem dX2_init_0 : decode cX2_init 0 = .ok (.aload_n 0, 1) := by decide +kernel
theorem dX2_init_1 : decode cX2_init 1 = .ok (.invokespecial 3, 3) := by decide +kernel
theorem dX2_init_4 : decode cX2_init 4 = .ok (.aload_n 0, 1) := by decide +kernel
theorem dX2_init_5 : decode cX2_init 5 = .ok (.bipush 100, 2) := by decide +kernel
theorem dX2_init_7 : decode cX2_init 7 = .ok (.newarray .byte, 2) := by decide +kernel
theorem dX2_init_9 : decode cX2_init 9 = .ok (.putfield 9, 3) := by decide +kernel
theorem dX2_init_12 : decode cX2_init 12 = .ok (.aload_n 0, 1) := by decide +kernel
theorem dX2_init_13 : decode cX2_init 13 = .ok (.iconst 0, 1) := by decide +kernel
theorem dX2_init_14 : decode cX2_init 14 = .ok (.putfield 15, 3) := by decide +kernel
theorem dX2_init_17 : decode cX2_init 17 = .ok (.aload_n 0, 1) := by decide +kernel
theorem dX2_init_18 : decode cX2_init 18 = .ok (.iconst 0, 1) := by decide +kernel
theorem dX2_init_19 : decode cX2_init 19 = .ok (.putfield 19, 3) := by decide +kernel
theorem dX2_init_22 : decode cX2_init 22 = .ok (.return_, 1) := by decide +kernel
theorem dX2_takes_0 : decode cX2_takes 0 = .ok (.aload_n 0, 1) := by decide +kernel
theorem dX2_takes_1 : decode cX2_takes 1 = .ok (.getfield 15, 3) := by decide +kernel
theorem dX2_takes_4 : decode cX2_takes 4 = .ok (.aload_n 0, 1) := by decide +kernel
theorem dX2_takes_5 : decode cX2_takes 5 = .ok (.getfield 9, 3) := by decide +kernel
theorem dX2_takes_8 : decode cX2_takes 8 = .ok (.arraylength, 1) := by decide +kernel
theorem dX2_takes_9 : decode cX2_takes 9 = .ok (.if_icmp .lt 6, 3) := by decide +kernel
theorem dX2_takes_12 : decode cX2_takes 12 = .ok (.bipush (-4), 2) := by decide +kernel
theorem dX2_takes_14 : decode cX2_takes 14 = .ok (.ireturn, 1) := by decide +kernel
theorem dX2_takes_15 : decode cX2_takes 15 = .ok (.aload_n 0, 1) := by decide +kernel
theorem dX2_takes_16 : decode cX2_takes 16 = .ok (.getfield 9, 3) := by decide +kernel
theorem dX2_takes_19 : decode cX2_takes 19 = .ok (.aload_n 0, 1) := by decide +kernel
theorem dX2_takes_20 : decode cX2_takes 20 = .ok (.getfield 15, 3) := by decide +kernel
theorem dX2_takes_23 : decode cX2_takes 23 = .ok (.iload_n 1, 1) := by decide +kernel
theorem dX2_takes_24 : decode cX2_takes 24 = .ok (.i2b, 1) := by decide +kernel
theorem dX2_takes_25 : decode cX2_takes 25 = .ok (.bastore, 1) := by decide +kernel
theorem dX2_takes_26 : decode cX2_takes 26 = .ok (.aload_n 0, 1) := by decide +kernel
theorem dX2_takes_27 : decode cX2_takes 27 = .ok (.dup, 1) := by decide +kernel
theorem dX2_takes_28 : decode cX2_takes 28 = .ok (.getfield 15, 3) := by decide +kernel
theorem dX2_takes_31 : decode cX2_takes 31 = .ok (.iconst 1, 1) := by decide +kernel
theorem dX2_takes_32 : decode cX2_takes 32 = .ok (.iadd, 1) := by decide +kernel
theorem dX2_takes_33 : decode cX2_takes 33 = .ok (.putfield 15, 3) := by decide +kernel
theorem dX2_takes_36 : decode cX2_takes 36 = .ok (.aload_n 0, 1) := by decide +kernel
theorem dX2_takes_37 : decode cX2_takes 37 = .ok (.getfield 15, 3) := by decide +kernel
theorem dX2_takes_40 : decode cX2_takes 40 = .ok (.ireturn, 1) := by decide +kernel
theorem dX2_makes_0 : decode cX2_makes 0 = .ok (.aload_n 1, 1) := by decide +kernel
theorem dX2_makes_1 : decode cX2_makes 1 = .ok (.invokevirtual 22, 3) := by decide +kernel
theorem dX2_makes_4 : decode cX2_makes 4 = .ok (.aload_n 0, 1) := by decide +kernel
theorem dX2_makes_5 : decode cX2_makes 5 = .ok (.iconst 0, 1) := by decide +kernel
theorem dX2_makes_6 : decode cX2_makes 6 = .ok (.putfield 19, 3) := by decide +kernel
theorem dX2_makes_9 : decode cX2_makes 9 = .ok (.iconst 0, 1) := by decide +kernel
theorem dX2_makes_10 : decode cX2_makes 10 = .ok (.istore_n 2, 1) := by decide +kernel
theorem dX2_makes_11 : decode cX2_makes 11 = .ok (.iload_n 2, 1) := by decide +kernel
theorem dX2_makes_12 : decode cX2_makes 12 = .ok (.bipush 10, 2) := by decide +kernel
theorem dX2_makes_14 : decode cX2_makes 14 = .ok (.if_icmp .ge 47, 3) := by decide +kernel
theorem dX2_makes_17 : decode cX2_makes 17 = .ok (.iload_n 2, 1) := by decide +kernel
theorem dX2_makes_18 : decode cX2_makes 18 = .ok (.ifCond .le 14, 3) := by decide +kernel
theorem dX2_makes_21 : decode cX2_makes 21 = .ok (.aload_n 0, 1) := by decide +kernel
theorem dX2_makes_22 : decode cX2_makes 22 = .ok (.bipush 59, 2) := by decide +kernel
theorem dX2_makes_24 : decode cX2_makes 24 = .ok (.invokevirtual 27, 3) := by decide +kernel
theorem dX2_makes_27 : decode cX2_makes 27 = .ok (.ifCond .ne 5, 3) := by decide +kernel
theorem dX2_makes_30 : decode cX2_makes 30 = .ok (.iconst 0, 1) := by decide +kernel
theorem dX2_makes_31 : decode cX2_makes 31 = .ok (.ireturn, 1) := by decide +kernel
theorem dX2_makes_32 : decode cX2_makes 32 = .ok (.aload_n 0, 1) := by decide +kernel
theorem dX2_makes_33 : decode cX2_makes 33 = .ok (.aload_n 1, 1) := by decide +kernel
theorem dX2_makes_34 : decode cX2_makes 34 = .ok (.invokevirtual 31, 3) := by decide +kernel
theorem dX2_makes_37 : decode cX2_makes 37 = .ok (.ifCond .ne 5, 3) := by decide +kernel
theorem dX2_makes_40 : decode cX2_makes 40 = .ok (.iconst 0, 1) := by decide +kernel
theorem dX2_makes_41 : decode cX2_makes 41 = .ok (.ireturn, 1) := by decide +kernel
theorem dX2_makes_42 : decode cX2_makes 42 = .ok (.aload_n 0, 1) := by decide +kernel
theorem dX2_makes_43 : decode cX2_makes 43 = .ok (.getfield 19, 3) := by decide +kernel
theorem dX2_makes_46 : decode cX2_makes 46 = .ok (.aload_n 0, 1) := by decide +kernel
theorem dX2_makes_47 : decode cX2_makes 47 = .ok (.getfield 15, 3) := by decide +kernel
theorem dX2_makes_50 : decode cX2_makes 50 = .ok (.if_icmp .ne 5, 3) := by decide +kernel
theorem dX2_makes_53 : decode cX2_makes 53 = .ok (.iconst 1, 1) := by decide +kernel
theorem dX2_makes_54 : decode cX2_makes 54 = .ok (.ireturn, 1) := by decide +kernel
theorem dX2_makes_55 : decode cX2_makes 55 = .ok (.iinc 2 1, 3) := by decide +kernel
theorem dX2_makes_58 : decode cX2_makes 58 = .ok (.goto (-47), 3) := by decide +kernel
theorem dX2_makes_61 : decode cX2_makes 61 = .ok (.iconst 0, 1) := by decide +kernel
theorem dX2_makes_62 : decode cX2_makes 62 = .ok (.ireturn, 1) := by decide +kernel
theorem dX2_isClause_0 : decode cX2_isClause 0 = .ok (.aload_n 0, 1) := by decide +kernel
theorem dX2_isClause_1 : decode cX2_isClause 1 = .ok (.bipush 114, 2) := by decide +kernel
theorem dX2_isClause_3 : decode cX2_isClause 3 = .ok (.invokevirtual 27, 3) := by decide +kernel
theorem dX2_isClause_6 : decode cX2_isClause 6 = .ok (.ifCond .eq 34, 3) := by decide +kernel
theorem dX2_isClause_9 : decode cX2_isClause 9 = .ok (.aload_n 0, 1) := by decide +kernel
theorem dX2_isClause_10 : decode cX2_isClause 10 = .ok (.ldc 35, 2) := by decide +kernel
theorem dX2_isClause_12 : decode cX2_isClause 12 = .ok (.invokevirtual 37, 3) := by decide +kernel
theorem dX2_isClause_15 : decode cX2_isClause 15 = .ok (.ifCond .eq 10, 3) := by decide +kernel
theorem dX2_isClause_18 : decode cX2_isClause 18 = .ok (.aload_n 0, 1) := by decide +kernel
theorem dX2_isClause_19 : decode cX2_isClause 19 = .ok (.invokevirtual 41, 3) := by decide +kernel
theorem dX2_isClause_22 : decode cX2_isClause 22 = .ok (.goto 4, 3) := by decide +kernel
theorem dX2_isClause_25 : decode cX2_isClause 25 = .ok (.iconst (-1), 1) := by decide +kernel
theorem dX2_isClause_26 : decode cX2_isClause 26 = .ok (.istore_n 2, 1) := by decide +kernel
theorem dX2_isClause_27 : decode cX2_isClause 27 = .ok (.iload_n 2, 1) := by decide +kernel
theorem dX2_isClause_28 : decode cX2_isClause 28 = .ok (.ifCond .ge 5, 3) := by decide +kernel
theorem dX2_isClause_31 : decode cX2_isClause 31 = .ok (.iconst 0, 1) := by decide +kernel
theorem dX2_isClause_32 : decode cX2_isClause 32 = .ok (.ireturn, 1) := by decide +kernel
theorem dX2_isClause_33 : decode cX2_isClause 33 = .ok (.aload_n 1, 1) := by decide +kernel
theorem dX2_isClause_34 : decode cX2_isClause 34 = .ok (.iload_n 2, 1) := by decide +kernel
theorem dX2_isClause_35 : decode cX2_isClause 35 = .ok (.putfield 45, 3) := by decide +kernel
theorem dX2_isClause_38 : decode cX2_isClause 38 = .ok (.iconst 1, 1) := by decide +kernel
theorem dX2_isClause_39 : decode cX2_isClause 39 = .ok (.ireturn, 1) := by decide +kernel
theorem dX2_isClause_40 : decode cX2_isClause 40 = .ok (.aload_n 0, 1) := by decide +kernel
theorem dX2_isClause_41 : decode cX2_isClause 41 = .ok (.bipush 102, 2) := by decide +kernel
theorem dX2_isClause_43 : decode cX2_isClause 43 = .ok (.invokevirtual 27, 3) := by decide +kernel
theorem dX2_isClause_46 : decode cX2_isClause 46 = .ok (.istore_n 2, 1) := by decide +kernel
theorem dX2_isClause_47 : decode cX2_isClause 47 = .ok (.iload_n 2, 1) := by decide +kernel
theorem dX2_isClause_48 : decode cX2_isClause 48 = .ok (.ifCond .ne 14, 3) := by decide +kernel
theorem dX2_isClause_51 : decode cX2_isClause 51 = .ok (.aload_n 0, 1) := by decide +kernel
theorem dX2_isClause_52 : decode cX2_isClause 52 = .ok (.bipush 119, 2) := by decide +kernel
theorem dX2_isClause_54 : decode cX2_isClause 54 = .ok (.invokevirtual 27, 3) := by decide +kernel
theorem dX2_isClause_57 : decode cX2_isClause 57 = .ok (.ifCond .ne 5, 3) := by decide +kernel
theorem dX2_isClause_60 : decode cX2_isClause 60 = .ok (.iconst 0, 1) := by decide +kernel
theorem dX2_isClause_61 : decode cX2_isClause 61 = .ok (.ireturn, 1) := by decide +kernel
theorem dX2_isClause_62 : decode cX2_isClause 62 = .ok (.aload_n 0, 1) := by decide +kernel
theorem dX2_isClause_63 : decode cX2_isClause 63 = .ok (.iload_n 2, 1) := by decide +kernel
theorem dX2_isClause_64 : decode cX2_isClause 64 = .ok (.ifCond .eq 8, 3) := by decide +kernel
theorem dX2_isClause_67 : decode cX2_isClause 67 = .ok (.ldc 48, 2) := by decide +kernel
theorem dX2_isClause_69 : decode cX2_isClause 69 = .ok (.goto 5, 3) := by decide +kernel
theorem dX2_isClause_72 : decode cX2_isClause 72 = .ok (.ldc 50, 2) := by decide +kernel
theorem dX2_isClause_74 : decode cX2_isClause 74 = .ok (.invokevirtual 37, 3) := by decide +kernel
theorem dX2_isClause_77 : decode cX2_isClause 77 = .ok (.ifCond .eq 10, 3) := by decide +kernel
theorem dX2_isClause_80 : decode cX2_isClause 80 = .ok (.aload_n 0, 1) := by decide +kernel
theorem dX2_isClause_81 : decode cX2_isClause 81 = .ok (.invokevirtual 41, 3) := by decide +kernel
theorem dX2_isClause_84 : decode cX2_isClause 84 = .ok (.goto 4, 3) := by decide +kernel
theorem dX2_isClause_87 : decode cX2_isClause 87 = .ok (.iconst (-1), 1) := by decide +kernel
theorem dX2_isClause_88 : decode cX2_isClause 88 = .ok (.istore_n 3, 1) := by decide +kernel
theorem dX2_isClause_89 : decode cX2_isClause 89 = .ok (.iload_n 3, 1) := by decide +kernel
theorem dX2_isClause_90 : decode cX2_isClause 90 = .ok (.ifCond .lt 21, 3) := by decide +kernel
theorem dX2_isClause_93 : decode cX2_isClause 93 = .ok (.aload_n 0, 1) := by decide +kernel
theorem dX2_isClause_94 : decode cX2_isClause 94 = .ok (.bipush 32, 2) := by decide +kernel
theorem dX2_isClause_96 : decode cX2_isClause 96 = .ok (.invokevirtual 27, 3) := by decide +kernel
theorem dX2_isClause_99 : decode cX2_isClause 99 = .ok (.ifCond .eq 12, 3) := by decide +kernel
theorem dX2_isClause_102 : decode cX2_isClause 102 = .ok (.aload_n 0, 1) := by decide +kernel
theorem dX2_isClause_103 : decode cX2_isClause 103 = .ok (.aload_n 1, 1) := by decide +kernel
theorem dX2_isClause_104 : decode cX2_isClause 104 = .ok (.iconst 0, 1) := by decide +kernel
theorem dX2_isClause_105 : decode cX2_isClause 105 = .ok (.invokevirtual 52, 3) := by decide +kernel
theorem dX2_isClause_108 : decode cX2_isClause 108 = .ok (.ifCond .ne 5, 3) := by decide +kernel
theorem dX2_isClause_111 : decode cX2_isClause 111 = .ok (.iconst 0, 1) := by decide +kernel
theorem dX2_isClause_112 : decode cX2_isClause 112 = .ok (.ireturn, 1) := by decide +kernel
theorem dX2_isClause_113 : decode cX2_isClause 113 = .ok (.aload_n 1, 1) := by decide +kernel
theorem dX2_isClause_114 : decode cX2_isClause 114 = .ok (.bipush 21, 2) := by decide +kernel
theorem dX2_isClause_116 : decode cX2_isClause 116 = .ok (.iload_n 2, 1) := by decide +kernel
theorem dX2_isClause_117 : decode cX2_isClause 117 = .ok (.ifCond .eq 7, 3) := by decide +kernel
theorem dX2_isClause_120 : decode cX2_isClause 120 = .ok (.iload_n 3, 1) := by decide +kernel
theorem dX2_isClause_121 : decode cX2_isClause 121 = .ok (.goto 5, 3) := by decide +kernel
theorem dX2_isClause_124 : decode cX2_isClause 124 = .ok (.iload_n 3, 1) := by decide +kernel
theorem dX2_isClause_125 : decode cX2_isClause 125 = .ok (.ineg, 1) := by decide +kernel
theorem dX2_isClause_126 : decode cX2_isClause 126 = .ok (.invokevirtual 56, 3) := by decide +kernel
theorem dX2_isClause_129 : decode cX2_isClause 129 = .ok (.iconst 1, 1) := by decide +kernel
theorem dX2_isClause_130 : decode cX2_isClause 130 = .ok (.ireturn, 1) := by decide +kernel
theorem dX2_isEither_0 : decode cX2_isEither 0 = .ok (.iconst 0, 1) := by decide +kernel
theorem dX2_isEither_1 : decode cX2_isEither 1 = .ok (.istore_n 3, 1) := by decide +kernel
theorem dX2_isEither_2 : decode cX2_isEither 2 = .ok (.iload_n 3, 1) := by decide +kernel
theorem dX2_isEither_3 : decode cX2_isEither 3 = .ok (.aload_n 0, 1) := by decide +kernel
theorem dX2_isEither_4 : decode cX2_isEither 4 = .ok (.getfield 9, 3) := by decide +kernel
theorem dX2_isEither_7 : decode cX2_isEither 7 = .ok (.arraylength, 1) := by decide +kernel
theorem dX2_isEither_8 : decode cX2_isEither 8 = .ok (.if_icmp .ge 42, 3) := by decide +kernel
theorem dX2_isEither_11 : decode cX2_isEither 11 = .ok (.aload_n 0, 1) := by decide +kernel
theorem dX2_isEither_12 : decode cX2_isEither 12 = .ok (.aload_n 1, 1) := by decide +kernel
theorem dX2_isEither_13 : decode cX2_isEither 13 = .ok (.iload_n 2, 1) := by decide +kernel
theorem dX2_isEither_14 : decode cX2_isEither 14 = .ok (.invokevirtual 60, 3) := by decide +kernel
theorem dX2_isEither_17 : decode cX2_isEither 17 = .ok (.ifCond .ne 5, 3) := by decide +kernel
theorem dX2_isEither_20 : decode cX2_isEither 20 = .ok (.iconst 0, 1) := by decide +kernel
theorem dX2_isEither_21 : decode cX2_isEither 21 = .ok (.ireturn, 1) := by decide +kernel
theorem dX2_isEither_22 : decode cX2_isEither 22 = .ok (.iload_n 3, 1) := by decide +kernel
theorem dX2_isEither_23 : decode cX2_isEither 23 = .ok (.ifCond .le 10, 3) := by decide +kernel
theorem dX2_isEither_26 : decode cX2_isEither 26 = .ok (.aload_n 1, 1) := by decide +kernel
theorem dX2_isEither_27 : decode cX2_isEither 27 = .ok (.bipush 19, 2) := by decide +kernel
theorem dX2_isEither_29 : decode cX2_isEither 29 = .ok (.iconst 0, 1) := by decide +kernel
theorem dX2_isEither_30 : decode cX2_isEither 30 = .ok (.invokevirtual 56, 3) := by decide +kernel
theorem dX2_isEither_33 : decode cX2_isEither 33 = .ok (.aload_n 0, 1) := by decide +kernel
theorem dX2_isEither_34 : decode cX2_isEither 34 = .ok (.bipush 124, 2) := by decide +kernel
theorem dX2_isEither_36 : decode cX2_isEither 36 = .ok (.invokevirtual 27, 3) := by decide +kernel
theorem dX2_isEither_39 : decode cX2_isEither 39 = .ok (.ifCond .ne 5, 3) := by decide +kernel
theorem dX2_isEither_42 : decode cX2_isEither 42 = .ok (.iconst 1, 1) := by decide +kernel
theorem dX2_isEither_43 : decode cX2_isEither 43 = .ok (.ireturn, 1) := by decide +kernel
theorem dX2_isEither_44 : decode cX2_isEither 44 = .ok (.iinc 3 1, 3) := by decide +kernel
theorem dX2_isEither_47 : decode cX2_isEither 47 = .ok (.goto (-45), 3) := by decide +kernel
theorem dX2_isEither_50 : decode cX2_isEither 50 = .ok (.iconst 0, 1) := by decide +kernel
theorem dX2_isEither_51 : decode cX2_isEither 51 = .ok (.ireturn, 1) := by decide +kernel
theorem dX2_isBoth_0 : decode cX2_isBoth 0 = .ok (.iconst 0, 1) := by decide +kernel
theorem dX2_isBoth_1 : decode cX2_isBoth 1 = .ok (.istore_n 3, 1) := by decide +kernel
theorem dX2_isBoth_2 : decode cX2_isBoth 2 = .ok (.iload_n 3, 1) := by decide +kernel
theorem dX2_isBoth_3 : decode cX2_isBoth 3 = .ok (.aload_n 0, 1) := by decide +kernel
theorem dX2_isBoth_4 : decode cX2_isBoth 4 = .ok (.getfield 9, 3) := by decide +kernel
theorem dX2_isBoth_7 : decode cX2_isBoth 7 = .ok (.arraylength, 1) := by decide +kernel
theorem dX2_isBoth_8 : decode cX2_isBoth 8 = .ok (.if_icmp .ge 42, 3) := by decide +kernel
theorem dX2_isBoth_11 : decode cX2_isBoth 11 = .ok (.aload_n 0, 1) := by decide +kernel
theorem dX2_isBoth_12 : decode cX2_isBoth 12 = .ok (.aload_n 1, 1) := by decide +kernel
theorem dX2_isBoth_13 : decode cX2_isBoth 13 = .ok (.iload_n 2, 1) := by decide +kernel
theorem dX2_isBoth_14 : decode cX2_isBoth 14 = .ok (.invokevirtual 63, 3) := by decide +kernel
theorem dX2_isBoth_17 : decode cX2_isBoth 17 = .ok (.ifCond .ne 5, 3) := by decide +kernel
theorem dX2_isBoth_20 : decode cX2_isBoth 20 = .ok (.iconst 0, 1) := by decide +kernel
theorem dX2_isBoth_21 : decode cX2_isBoth 21 = .ok (.ireturn, 1) := by decide +kernel
theorem dX2_isBoth_22 : decode cX2_isBoth 22 = .ok (.iload_n 3, 1) := by decide +kernel
theorem dX2_isBoth_23 : decode cX2_isBoth 23 = .ok (.ifCond .le 10, 3) := by decide +kernel
theorem dX2_isBoth_26 : decode cX2_isBoth 26 = .ok (.aload_n 1, 1) := by decide +kernel
theorem dX2_isBoth_27 : decode cX2_isBoth 27 = .ok (.bipush 18, 2) := by decide +kernel
theorem dX2_isBoth_29 : decode cX2_isBoth 29 = .ok (.iconst 0, 1) := by decide +kernel
theorem dX2_isBoth_30 : decode cX2_isBoth 30 = .ok (.invokevirtual 56, 3) := by decide +kernel
theorem dX2_isBoth_33 : decode cX2_isBoth 33 = .ok (.aload_n 0, 1) := by decide +kernel
theorem dX2_isBoth_34 : decode cX2_isBoth 34 = .ok (.bipush 38, 2) := by decide +kernel
theorem dX2_isBoth_36 : decode cX2_isBoth 36 = .ok (.invokevirtual 27, 3) := by decide +kernel
theorem dX2_isBoth_39 : decode cX2_isBoth 39 = .ok (.ifCond .ne 5, 3) := by decide +kernel
theorem dX2_isBoth_42 : decode cX2_isBoth 42 = .ok (.iconst 1, 1) := by decide +kernel
theorem dX2_isBoth_43 : decode cX2_isBoth 43 = .ok (.ireturn, 1) := by decide +kernel
theorem dX2_isBoth_44 : decode cX2_isBoth 44 = .ok (.iinc 3 1, 3) := by decide +kernel
theorem dX2_isBoth_47 : decode cX2_isBoth 47 = .ok (.goto (-45), 3) := by decide +kernel
theorem dX2_isBoth_50 : decode cX2_isBoth 50 = .ok (.iconst 0, 1) := by decide +kernel
theorem dX2_isBoth_51 : decode cX2_isBoth 51 = .ok (.ireturn, 1) := by decide +kernel
theorem dX2_isFactor_0 : decode cX2_isFactor 0 = .ok (.iload_n 2, 1) := by decide +kernel
theorem dX2_isFactor_1 : decode cX2_isFactor 1 = .ok (.iconst 4, 1) := by decide +kernel
theorem dX2_isFactor_2 : decode cX2_isFactor 2 = .ok (.if_icmp .ge 34, 3) := by decide +kernel
theorem dX2_isFactor_5 : decode cX2_isFactor 5 = .ok (.aload_n 0, 1) := by decide +kernel
theorem dX2_isFactor_6 : decode cX2_isFactor 6 = .ok (.bipush 33, 2) := by decide +kernel
theorem dX2_isFactor_8 : decode cX2_isFactor 8 = .ok (.invokevirtual 27, 3) := by decide +kernel
theorem dX2_isFactor_11 : decode cX2_isFactor 11 = .ok (.ifCond .eq 25, 3) := by decide +kernel
theorem dX2_isFactor_14 : decode cX2_isFactor 14 = .ok (.aload_n 0, 1) := by decide +kernel
theorem dX2_isFactor_15 : decode cX2_isFactor 15 = .ok (.aload_n 1, 1) := by decide +kernel
theorem dX2_isFactor_16 : decode cX2_isFactor 16 = .ok (.iload_n 2, 1) := by decide +kernel
theorem dX2_isFactor_17 : decode cX2_isFactor 17 = .ok (.iconst 1, 1) := by decide +kernel
theorem dX2_isFactor_18 : decode cX2_isFactor 18 = .ok (.iadd, 1) := by decide +kernel
theorem dX2_isFactor_19 : decode cX2_isFactor 19 = .ok (.invokevirtual 63, 3) := by decide +kernel
theorem dX2_isFactor_22 : decode cX2_isFactor 22 = .ok (.ifCond .ne 5, 3) := by decide +kernel
theorem dX2_isFactor_25 : decode cX2_isFactor 25 = .ok (.iconst 0, 1) := by decide +kernel
theorem dX2_isFactor_26 : decode cX2_isFactor 26 = .ok (.ireturn, 1) := by decide +kernel
theorem dX2_isFactor_27 : decode cX2_isFactor 27 = .ok (.aload_n 1, 1) := by decide +kernel
theorem dX2_isFactor_28 : decode cX2_isFactor 28 = .ok (.bipush 20, 2) := by decide +kernel
theorem dX2_isFactor_30 : decode cX2_isFactor 30 = .ok (.iconst 0, 1) := by decide +kernel
theorem dX2_isFactor_31 : decode cX2_isFactor 31 = .ok (.invokevirtual 56, 3) := by decide +kernel
theorem dX2_isFactor_34 : decode cX2_isFactor 34 = .ok (.iconst 1, 1) := by decide +kernel
theorem dX2_isFactor_35 : decode cX2_isFactor 35 = .ok (.ireturn, 1) := by decide +kernel
theorem dX2_isFactor_36 : decode cX2_isFactor 36 = .ok (.iload_n 2, 1) := by decide +kernel
theorem dX2_isFactor_37 : decode cX2_isFactor 37 = .ok (.iconst 4, 1) := by decide +kernel
theorem dX2_isFactor_38 : decode cX2_isFactor 38 = .ok (.if_icmp .ge 38, 3) := by decide +kernel
theorem dX2_isFactor_41 : decode cX2_isFactor 41 = .ok (.aload_n 0, 1) := by decide +kernel
theorem dX2_isFactor_42 : decode cX2_isFactor 42 = .ok (.bipush 40, 2) := by decide +kernel
theorem dX2_isFactor_44 : decode cX2_isFactor 44 = .ok (.invokevirtual 27, 3) := by decide +kernel
theorem dX2_isFactor_47 : decode cX2_isFactor 47 = .ok (.ifCond .eq 29, 3) := by decide +kernel
theorem dX2_isFactor_50 : decode cX2_isFactor 50 = .ok (.aload_n 0, 1) := by decide +kernel
theorem dX2_isFactor_51 : decode cX2_isFactor 51 = .ok (.aload_n 1, 1) := by decide +kernel
theorem dX2_isFactor_52 : decode cX2_isFactor 52 = .ok (.iload_n 2, 1) := by decide +kernel
theorem dX2_isFactor_53 : decode cX2_isFactor 53 = .ok (.iconst 1, 1) := by decide +kernel
theorem dX2_isFactor_54 : decode cX2_isFactor 54 = .ok (.iadd, 1) := by decide +kernel
theorem dX2_isFactor_55 : decode cX2_isFactor 55 = .ok (.invokevirtual 52, 3) := by decide +kernel
theorem dX2_isFactor_58 : decode cX2_isFactor 58 = .ok (.ifCond .eq 16, 3) := by decide +kernel
theorem dX2_isFactor_61 : decode cX2_isFactor 61 = .ok (.aload_n 0, 1) := by decide +kernel
theorem dX2_isFactor_62 : decode cX2_isFactor 62 = .ok (.bipush 41, 2) := by decide +kernel
theorem dX2_isFactor_64 : decode cX2_isFactor 64 = .ok (.invokevirtual 27, 3) := by decide +kernel
theorem dX2_isFactor_67 : decode cX2_isFactor 67 = .ok (.ifCond .eq 7, 3) := by decide +kernel
theorem dX2_isFactor_70 : decode cX2_isFactor 70 = .ok (.iconst 1, 1) := by decide +kernel
theorem dX2_isFactor_71 : decode cX2_isFactor 71 = .ok (.goto 4, 3) := by decide +kernel
theorem dX2_isFactor_74 : decode cX2_isFactor 74 = .ok (.iconst 0, 1) := by decide +kernel
theorem dX2_isFactor_75 : decode cX2_isFactor 75 = .ok (.ireturn, 1) := by decide +kernel
theorem dX2_isFactor_76 : decode cX2_isFactor 76 = .ok (.aload_n 0, 1) := by decide +kernel
theorem dX2_isFactor_77 : decode cX2_isFactor 77 = .ok (.ldc 66, 2) := by decide +kernel
theorem dX2_isFactor_79 : decode cX2_isFactor 79 = .ok (.invokevirtual 68, 3) := by decide +kernel
theorem dX2_isFactor_82 : decode cX2_isFactor 82 = .ok (.istore_n 3, 1) := by decide +kernel
theorem dX2_isFactor_83 : decode cX2_isFactor 83 = .ok (.iload_n 3, 1) := by decide +kernel
theorem dX2_isFactor_84 : decode cX2_isFactor 84 = .ok (.ifCond .ge 7, 3) := by decide +kernel
theorem dX2_isFactor_87 : decode cX2_isFactor 87 = .ok (.iconst (-1), 1) := by decide +kernel
theorem dX2_isFactor_88 : decode cX2_isFactor 88 = .ok (.goto 9, 3) := by decide +kernel
theorem dX2_isFactor_91 : decode cX2_isFactor 91 = .ok (.aload_n 0, 1) := by decide +kernel
theorem dX2_isFactor_92 : decode cX2_isFactor 92 = .ok (.ldc 72, 2) := by decide +kernel
theorem dX2_isFactor_94 : decode cX2_isFactor 94 = .ok (.invokevirtual 68, 3) := by decide +kernel
theorem dX2_isFactor_97 : decode cX2_isFactor 97 = .ok (.istore 4, 2) := by decide +kernel
theorem dX2_isFactor_99 : decode cX2_isFactor 99 = .ok (.iload 4, 2) := by decide +kernel
theorem dX2_isFactor_101 : decode cX2_isFactor 101 = .ok (.ifCond .ge 7, 3) := by decide +kernel
theorem dX2_isFactor_104 : decode cX2_isFactor 104 = .ok (.iconst (-1), 1) := by decide +kernel
theorem dX2_isFactor_105 : decode cX2_isFactor 105 = .ok (.goto 7, 3) := by decide +kernel
theorem dX2_isFactor_108 : decode cX2_isFactor 108 = .ok (.aload_n 0, 1) := by decide +kernel
theorem dX2_isFactor_109 : decode cX2_isFactor 109 = .ok (.invokevirtual 41, 3) := by decide +kernel
theorem dX2_isFactor_112 : decode cX2_isFactor 112 = .ok (.istore 5, 2) := by decide +kernel
theorem dX2_isFactor_114 : decode cX2_isFactor 114 = .ok (.iload 5, 2) := by decide +kernel
theorem dX2_isFactor_116 : decode cX2_isFactor 116 = .ok (.ifCond .ge 5, 3) := by decide +kernel
theorem dX2_isFactor_119 : decode cX2_isFactor 119 = .ok (.iconst 0, 1) := by decide +kernel
theorem dX2_isFactor_120 : decode cX2_isFactor 120 = .ok (.ireturn, 1) := by decide +kernel
theorem dX2_isFactor_121 : decode cX2_isFactor 121 = .ok (.aload_n 1, 1) := by decide +kernel
theorem dX2_isFactor_122 : decode cX2_isFactor 122 = .ok (.iload_n 3, 1) := by decide +kernel
theorem dX2_isFactor_123 : decode cX2_isFactor 123 = .ok (.iconst 3, 1) := by decide +kernel
theorem dX2_isFactor_124 : decode cX2_isFactor 124 = .ok (.imul, 1) := by decide +kernel
theorem dX2_isFactor_125 : decode cX2_isFactor 125 = .ok (.iload 4, 2) := by decide +kernel
theorem dX2_isFactor_127 : decode cX2_isFactor 127 = .ok (.iadd, 1) := by decide +kernel
theorem dX2_isFactor_128 : decode cX2_isFactor 128 = .ok (.iload 5, 2) := by decide +kernel
theorem dX2_isFactor_130 : decode cX2_isFactor 130 = .ok (.invokevirtual 56, 3) := by decide +kernel
theorem dX2_isFactor_133 : decode cX2_isFactor 133 = .ok (.iconst 1, 1) := by decide +kernel
theorem dX2_isFactor_134 : decode cX2_isFactor 134 = .ok (.ireturn, 1) := by decide +kernel
theorem dX2_number_0 : decode cX2_number 0 = .ok (.iconst (-1), 1) := by decide +kernel
theorem dX2_number_1 : decode cX2_number 1 = .ok (.istore_n 1, 1) := by decide +kernel
theorem dX2_number_2 : decode cX2_number 2 = .ok (.iconst 0, 1) := by decide +kernel
theorem dX2_number_3 : decode cX2_number 3 = .ok (.istore_n 2, 1) := by decide +kernel
theorem dX2_number_4 : decode cX2_number 4 = .ok (.iload_n 2, 1) := by decide +kernel
theorem dX2_number_5 : decode cX2_number 5 = .ok (.iconst 2, 1) := by decide +kernel
theorem dX2_number_6 : decode cX2_number 6 = .ok (.if_icmp .ge 80, 3) := by decide +kernel
theorem dX2_number_9 : decode cX2_number 9 = .ok (.aload_n 0, 1) := by decide +kernel
theorem dX2_number_10 : decode cX2_number 10 = .ok (.getfield 19, 3) := by decide +kernel
theorem dX2_number_13 : decode cX2_number 13 = .ok (.aload_n 0, 1) := by decide +kernel
theorem dX2_number_14 : decode cX2_number 14 = .ok (.getfield 15, 3) := by decide +kernel
theorem dX2_number_17 : decode cX2_number 17 = .ok (.if_icmp .ge 69, 3) := by decide +kernel
theorem dX2_number_20 : decode cX2_number 20 = .ok (.aload_n 0, 1) := by decide +kernel
theorem dX2_number_21 : decode cX2_number 21 = .ok (.getfield 9, 3) := by decide +kernel
theorem dX2_number_24 : decode cX2_number 24 = .ok (.aload_n 0, 1) := by decide +kernel
theorem dX2_number_25 : decode cX2_number 25 = .ok (.getfield 19, 3) := by decide +kernel
theorem dX2_number_28 : decode cX2_number 28 = .ok (.baload, 1) := by decide +kernel
theorem dX2_number_29 : decode cX2_number 29 = .ok (.bipush 48, 2) := by decide +kernel
theorem dX2_number_31 : decode cX2_number 31 = .ok (.if_icmp .lt 55, 3) := by decide +kernel
theorem dX2_number_34 : decode cX2_number 34 = .ok (.aload_n 0, 1) := by decide +kernel
theorem dX2_number_35 : decode cX2_number 35 = .ok (.getfield 9, 3) := by decide +kernel
theorem dX2_number_38 : decode cX2_number 38 = .ok (.aload_n 0, 1) := by decide +kernel
theorem dX2_number_39 : decode cX2_number 39 = .ok (.getfield 19, 3) := by decide +kernel
theorem dX2_number_42 : decode cX2_number 42 = .ok (.baload, 1) := by decide +kernel
theorem dX2_number_43 : decode cX2_number 43 = .ok (.bipush 57, 2) := by decide +kernel
theorem dX2_number_45 : decode cX2_number 45 = .ok (.if_icmp .gt 41, 3) := by decide +kernel
theorem dX2_number_48 : decode cX2_number 48 = .ok (.iload_n 1, 1) := by decide +kernel
theorem dX2_number_49 : decode cX2_number 49 = .ok (.iconst 0, 1) := by decide +kernel
theorem dX2_number_50 : decode cX2_number 50 = .ok (.invokestatic 74, 3) := by decide +kernel
theorem dX2_number_53 : decode cX2_number 53 = .ok (.bipush 10, 2) := by decide +kernel
theorem dX2_number_55 : decode cX2_number 55 = .ok (.imul, 1) := by decide +kernel
theorem dX2_number_56 : decode cX2_number 56 = .ok (.aload_n 0, 1) := by decide +kernel
theorem dX2_number_57 : decode cX2_number 57 = .ok (.getfield 9, 3) := by decide +kernel
theorem dX2_number_60 : decode cX2_number 60 = .ok (.aload_n 0, 1) := by decide +kernel
theorem dX2_number_61 : decode cX2_number 61 = .ok (.getfield 19, 3) := by decide +kernel
theorem dX2_number_64 : decode cX2_number 64 = .ok (.baload, 1) := by decide +kernel
theorem dX2_number_65 : decode cX2_number 65 = .ok (.iadd, 1) := by decide +kernel
theorem dX2_number_66 : decode cX2_number 66 = .ok (.bipush 48, 2) := by decide +kernel
theorem dX2_number_68 : decode cX2_number 68 = .ok (.isub, 1) := by decide +kernel
theorem dX2_number_69 : decode cX2_number 69 = .ok (.istore_n 1, 1) := by decide +kernel
theorem dX2_number_70 : decode cX2_number 70 = .ok (.aload_n 0, 1) := by decide +kernel
theorem dX2_number_71 : decode cX2_number 71 = .ok (.dup, 1) := by decide +kernel
theorem dX2_number_72 : decode cX2_number 72 = .ok (.getfield 19, 3) := by decide +kernel
theorem dX2_number_75 : decode cX2_number 75 = .ok (.iconst 1, 1) := by decide +kernel
theorem dX2_number_76 : decode cX2_number 76 = .ok (.iadd, 1) := by decide +kernel
theorem dX2_number_77 : decode cX2_number 77 = .ok (.putfield 19, 3) := by decide +kernel
theorem dX2_number_80 : decode cX2_number 80 = .ok (.iinc 2 1, 3) := by decide +kernel
theorem dX2_number_83 : decode cX2_number 83 = .ok (.goto (-79), 3) := by decide +kernel
theorem dX2_number_86 : decode cX2_number 86 = .ok (.iload_n 1, 1) := by decide +kernel
theorem dX2_number_87 : decode cX2_number 87 = .ok (.ireturn, 1) := by decide +kernel
theorem dX2_signOf_0 : decode cX2_signOf 0 = .ok (.aload_n 0, 1) := by decide +kernel
theorem dX2_signOf_1 : decode cX2_signOf 1 = .ok (.getfield 19, 3) := by decide +kernel
theorem dX2_signOf_4 : decode cX2_signOf 4 = .ok (.aload_n 0, 1) := by decide +kernel
theorem dX2_signOf_5 : decode cX2_signOf 5 = .ok (.getfield 15, 3) := by decide +kernel
theorem dX2_signOf_8 : decode cX2_signOf 8 = .ok (.if_icmp .ge 20, 3) := by decide +kernel
theorem dX2_signOf_11 : decode cX2_signOf 11 = .ok (.aload_n 1, 1) := by decide +kernel
theorem dX2_signOf_12 : decode cX2_signOf 12 = .ok (.aload_n 0, 1) := by decide +kernel
theorem dX2_signOf_13 : decode cX2_signOf 13 = .ok (.getfield 9, 3) := by decide +kernel
theorem dX2_signOf_16 : decode cX2_signOf 16 = .ok (.aload_n 0, 1) := by decide +kernel
theorem dX2_signOf_17 : decode cX2_signOf 17 = .ok (.getfield 19, 3) := by decide +kernel
theorem dX2_signOf_20 : decode cX2_signOf 20 = .ok (.baload, 1) := by decide +kernel
theorem dX2_signOf_21 : decode cX2_signOf 21 = .ok (.i2c, 1) := by decide +kernel
theorem dX2_signOf_22 : decode cX2_signOf 22 = .ok (.invokevirtual 80, 3) := by decide +kernel
theorem dX2_signOf_25 : decode cX2_signOf 25 = .ok (.goto 4, 3) := by decide +kernel
theorem dX2_signOf_28 : decode cX2_signOf 28 = .ok (.iconst (-1), 1) := by decide +kernel
theorem dX2_signOf_29 : decode cX2_signOf 29 = .ok (.istore_n 2, 1) := by decide +kernel
theorem dX2_signOf_30 : decode cX2_signOf 30 = .ok (.iload_n 2, 1) := by decide +kernel
theorem dX2_signOf_31 : decode cX2_signOf 31 = .ok (.ifCond .lt 13, 3) := by decide +kernel
theorem dX2_signOf_34 : decode cX2_signOf 34 = .ok (.aload_n 0, 1) := by decide +kernel
theorem dX2_signOf_35 : decode cX2_signOf 35 = .ok (.dup, 1) := by decide +kernel
theorem dX2_signOf_36 : decode cX2_signOf 36 = .ok (.getfield 19, 3) := by decide +kernel
theorem dX2_signOf_39 : decode cX2_signOf 39 = .ok (.iconst 1, 1) := by decide +kernel
theorem dX2_signOf_40 : decode cX2_signOf 40 = .ok (.iadd, 1) := by decide +kernel
theorem dX2_signOf_41 : decode cX2_signOf 41 = .ok (.putfield 19, 3) := by decide +kernel
theorem dX2_signOf_44 : decode cX2_signOf 44 = .ok (.iload_n 2, 1) := by decide +kernel
theorem dX2_signOf_45 : decode cX2_signOf 45 = .ok (.ireturn, 1) := by decide +kernel
theorem dX2_isWord_0 : decode cX2_isWord 0 = .ok (.iconst 0, 1) := by decide +kernel
theorem dX2_isWord_1 : decode cX2_isWord 1 = .ok (.istore_n 2, 1) := by decide +kernel
theorem dX2_isWord_2 : decode cX2_isWord 2 = .ok (.iload_n 2, 1) := by decide +kernel
theorem dX2_isWord_3 : decode cX2_isWord 3 = .ok (.aload_n 1, 1) := by decide +kernel
theorem dX2_isWord_4 : decode cX2_isWord 4 = .ok (.invokevirtual 86, 3) := by decide +kernel
theorem dX2_isWord_7 : decode cX2_isWord 7 = .ok (.if_icmp .ge 23, 3) := by decide +kernel
theorem dX2_isWord_10 : decode cX2_isWord 10 = .ok (.aload_n 0, 1) := by decide +kernel
theorem dX2_isWord_11 : decode cX2_isWord 11 = .ok (.aload_n 1, 1) := by decide +kernel
theorem dX2_isWord_12 : decode cX2_isWord 12 = .ok (.iload_n 2, 1) := by decide +kernel
theorem dX2_isWord_13 : decode cX2_isWord 13 = .ok (.invokevirtual 88, 3) := by decide +kernel
theorem dX2_isWord_16 : decode cX2_isWord 16 = .ok (.invokevirtual 27, 3) := by decide +kernel
theorem dX2_isWord_19 : decode cX2_isWord 19 = .ok (.ifCond .ne 5, 3) := by decide +kernel
theorem dX2_isWord_22 : decode cX2_isWord 22 = .ok (.iconst 0, 1) := by decide +kernel
theorem dX2_isWord_23 : decode cX2_isWord 23 = .ok (.ireturn, 1) := by decide +kernel
theorem dX2_isWord_24 : decode cX2_isWord 24 = .ok (.iinc 2 1, 3) := by decide +kernel
theorem dX2_isWord_27 : decode cX2_isWord 27 = .ok (.goto (-25), 3) := by decide +kernel
theorem dX2_isWord_30 : decode cX2_isWord 30 = .ok (.iconst 1, 1) := by decide +kernel
theorem dX2_isWord_31 : decode cX2_isWord 31 = .ok (.ireturn, 1) := by decide +kernel
theorem dX2_isSign_0 : decode cX2_isSign 0 = .ok (.aload_n 0, 1) := by decide +kernel
theorem dX2_isSign_1 : decode cX2_isSign 1 = .ok (.getfield 19, 3) := by decide +kernel
theorem dX2_isSign_4 : decode cX2_isSign 4 = .ok (.aload_n 0, 1) := by decide +kernel
theorem dX2_isSign_5 : decode cX2_isSign 5 = .ok (.getfield 15, 3) := by decide +kernel
theorem dX2_isSign_8 : decode cX2_isSign 8 = .ok (.if_icmp .ge 16, 3) := by decide +kernel
theorem dX2_isSign_11 : decode cX2_isSign 11 = .ok (.aload_n 0, 1) := by decide +kernel
theorem dX2_isSign_12 : decode cX2_isSign 12 = .ok (.getfield 9, 3) := by decide +kernel
theorem dX2_isSign_15 : decode cX2_isSign 15 = .ok (.aload_n 0, 1) := by decide +kernel
theorem dX2_isSign_16 : decode cX2_isSign 16 = .ok (.getfield 19, 3) := by decide +kernel
theorem dX2_isSign_19 : decode cX2_isSign 19 = .ok (.baload, 1) := by decide +kernel
theorem dX2_isSign_20 : decode cX2_isSign 20 = .ok (.iload_n 1, 1) := by decide +kernel
theorem dX2_isSign_21 : decode cX2_isSign 21 = .ok (.if_icmp .eq 5, 3) := by decide +kernel
theorem dX2_isSign_24 : decode cX2_isSign 24 = .ok (.iconst 0, 1) := by decide +kernel
theorem dX2_isSign_25 : decode cX2_isSign 25 = .ok (.ireturn, 1) := by decide +kernel
theorem dX2_isSign_26 : decode cX2_isSign 26 = .ok (.aload_n 0, 1) := by decide +kernel
theorem dX2_isSign_27 : decode cX2_isSign 27 = .ok (.dup, 1) := by decide +kernel
theorem dX2_isSign_28 : decode cX2_isSign 28 = .ok (.getfield 19, 3) := by decide +kernel
theorem dX2_isSign_31 : decode cX2_isSign 31 = .ok (.iconst 1, 1) := by decide +kernel
theorem dX2_isSign_32 : decode cX2_isSign 32 = .ok (.iadd, 1) := by decide +kernel
theorem dX2_isSign_33 : decode cX2_isSign 33 = .ok (.putfield 19, 3) := by decide +kernel
theorem dX2_isSign_36 : decode cX2_isSign 36 = .ok (.iconst 1, 1) := by decide +kernel
theorem dX2_isSign_37 : decode cX2_isSign 37 = .ok (.ireturn, 1) := by decide +kernel
theorem dX3_init_0 : decode cX3_init 0 = .ok (.aload_n 0, 1) := by decide +kernel
theorem dX3_init_1 : decode cX3_init 1 = .ok (.invokespecial 3, 3) := by decide +kernel
theorem dX3_init_4 : decode cX3_init 4 = .ok (.aload_n 0, 1) := by decide +kernel
theorem dX3_init_5 : decode cX3_init 5 = .ok (.iconst 0, 1) := by decide +kernel
theorem dX3_init_6 : decode cX3_init 6 = .ok (.putfield 9, 3) := by decide +kernel
theorem dX3_init_9 : decode cX3_init 9 = .ok (.iload_n 1, 1) := by decide +kernel
theorem dX3_init_10 : decode cX3_init 10 = .ok (.iconst 0, 1) := by decide +kernel
theorem dX3_init_11 : decode cX3_init 11 = .ok (.invokestatic 15, 3) := by decide +kernel
theorem dX3_init_14 : decode cX3_init 14 = .ok (.istore_n 2, 1) := by decide +kernel
theorem dX3_init_15 : decode cX3_init 15 = .ok (.aload_n 0, 1) := by decide +kernel
theorem dX3_init_16 : decode cX3_init 16 = .ok (.iload_n 2, 1) := by decide +kernel
theorem dX3_init_17 : decode cX3_init 17 = .ok (.newarray .int, 2) := by decide +kernel
theorem dX3_init_19 : decode cX3_init 19 = .ok (.putfield 21, 3) := by decide +kernel
theorem dX3_init_22 : decode cX3_init 22 = .ok (.aload_n 0, 1) := by decide +kernel
theorem dX3_init_23 : decode cX3_init 23 = .ok (.iload_n 2, 1) := by decide +kernel
theorem dX3_init_24 : decode cX3_init 24 = .ok (.newarray .int, 2) := by decide +kernel
theorem dX3_init_26 : decode cX3_init 26 = .ok (.putfield 25, 3) := by decide +kernel
theorem dX3_init_29 : decode cX3_init 29 = .ok (.aload_n 0, 1) := by decide +kernel
theorem dX3_init_30 : decode cX3_init 30 = .ok (.iload_n 2, 1) := by decide +kernel
theorem dX3_init_31 : decode cX3_init 31 = .ok (.newarray .int, 2) := by decide +kernel
theorem dX3_init_33 : decode cX3_init 33 = .ok (.putfield 28, 3) := by decide +kernel
theorem dX3_init_36 : decode cX3_init 36 = .ok (.return_, 1) := by decide +kernel
theorem dX3_empty_0 : decode cX3_empty 0 = .ok (.aload_n 0, 1) := by decide +kernel
theorem dX3_empty_1 : decode cX3_empty 1 = .ok (.iconst 0, 1) := by decide +kernel
theorem dX3_empty_2 : decode cX3_empty 2 = .ok (.putfield 9, 3) := by decide +kernel
theorem dX3_empty_5 : decode cX3_empty 5 = .ok (.iconst 0, 1) := by decide +kernel
theorem dX3_empty_6 : decode cX3_empty 6 = .ok (.ireturn, 1) := by decide +kernel
theorem dX3_add_0 : decode cX3_add 0 = .ok (.aload_n 0, 1) := by decide +kernel
theorem dX3_add_1 : decode cX3_add 1 = .ok (.getfield 9, 3) := by decide +kernel
theorem dX3_add_4 : decode cX3_add 4 = .ok (.aload_n 0, 1) := by decide +kernel
theorem dX3_add_5 : decode cX3_add 5 = .ok (.getfield 21, 3) := by decide +kernel
theorem dX3_add_8 : decode cX3_add 8 = .ok (.arraylength, 1) := by decide +kernel
theorem dX3_add_9 : decode cX3_add 9 = .ok (.if_icmp .lt 6, 3) := by decide +kernel
theorem dX3_add_12 : decode cX3_add 12 = .ok (.bipush (-4), 2) := by decide +kernel
theorem dX3_add_14 : decode cX3_add 14 = .ok (.ireturn, 1) := by decide +kernel
theorem dX3_add_15 : decode cX3_add 15 = .ok (.aload_n 0, 1) := by decide +kernel
theorem dX3_add_16 : decode cX3_add 16 = .ok (.getfield 21, 3) := by decide +kernel
theorem dX3_add_19 : decode cX3_add 19 = .ok (.aload_n 0, 1) := by decide +kernel
theorem dX3_add_20 : decode cX3_add 20 = .ok (.getfield 9, 3) := by decide +kernel
theorem dX3_add_23 : decode cX3_add 23 = .ok (.iload_n 1, 1) := by decide +kernel
theorem dX3_add_24 : decode cX3_add 24 = .ok (.iastore, 1) := by decide +kernel
theorem dX3_add_25 : decode cX3_add 25 = .ok (.aload_n 0, 1) := by decide +kernel
theorem dX3_add_26 : decode cX3_add 26 = .ok (.getfield 25, 3) := by decide +kernel
theorem dX3_add_29 : decode cX3_add 29 = .ok (.aload_n 0, 1) := by decide +kernel
theorem dX3_add_30 : decode cX3_add 30 = .ok (.getfield 9, 3) := by decide +kernel
theorem dX3_add_33 : decode cX3_add 33 = .ok (.iload_n 2, 1) := by decide +kernel
theorem dX3_add_34 : decode cX3_add 34 = .ok (.iastore, 1) := by decide +kernel
theorem dX3_add_35 : decode cX3_add 35 = .ok (.aload_n 0, 1) := by decide +kernel
theorem dX3_add_36 : decode cX3_add 36 = .ok (.getfield 28, 3) := by decide +kernel
theorem dX3_add_39 : decode cX3_add 39 = .ok (.aload_n 0, 1) := by decide +kernel
theorem dX3_add_40 : decode cX3_add 40 = .ok (.getfield 9, 3) := by decide +kernel
theorem dX3_add_43 : decode cX3_add 43 = .ok (.iload_n 3, 1) := by decide +kernel
theorem dX3_add_44 : decode cX3_add 44 = .ok (.iastore, 1) := by decide +kernel
theorem dX3_add_45 : decode cX3_add 45 = .ok (.aload_n 0, 1) := by decide +kernel
theorem dX3_add_46 : decode cX3_add 46 = .ok (.dup, 1) := by decide +kernel
theorem dX3_add_47 : decode cX3_add 47 = .ok (.getfield 9, 3) := by decide +kernel
theorem dX3_add_50 : decode cX3_add 50 = .ok (.iconst 1, 1) := by decide +kernel
theorem dX3_add_51 : decode cX3_add 51 = .ok (.iadd, 1) := by decide +kernel
theorem dX3_add_52 : decode cX3_add 52 = .ok (.putfield 9, 3) := by decide +kernel
theorem dX3_add_55 : decode cX3_add 55 = .ok (.aload_n 0, 1) := by decide +kernel
theorem dX3_add_56 : decode cX3_add 56 = .ok (.getfield 9, 3) := by decide +kernel
theorem dX3_add_59 : decode cX3_add 59 = .ok (.ireturn, 1) := by decide +kernel
theorem dX3_lastDay_0 : decode cX3_lastDay 0 = .ok (.iconst (-1), 1) := by decide +kernel
theorem dX3_lastDay_1 : decode cX3_lastDay 1 = .ok (.istore_n 1, 1) := by decide +kernel
theorem dX3_lastDay_2 : decode cX3_lastDay 2 = .ok (.iconst 0, 1) := by decide +kernel
theorem dX3_lastDay_3 : decode cX3_lastDay 3 = .ok (.istore_n 2, 1) := by decide +kernel
theorem dX3_lastDay_4 : decode cX3_lastDay 4 = .ok (.iload_n 2, 1) := by decide +kernel
theorem dX3_lastDay_5 : decode cX3_lastDay 5 = .ok (.aload_n 0, 1) := by decide +kernel
theorem dX3_lastDay_6 : decode cX3_lastDay 6 = .ok (.getfield 9, 3) := by decide +kernel
theorem dX3_lastDay_9 : decode cX3_lastDay 9 = .ok (.if_icmp .ge 20, 3) := by decide +kernel
theorem dX3_lastDay_12 : decode cX3_lastDay 12 = .ok (.iload_n 1, 1) := by decide +kernel
theorem dX3_lastDay_13 : decode cX3_lastDay 13 = .ok (.aload_n 0, 1) := by decide +kernel
theorem dX3_lastDay_14 : decode cX3_lastDay 14 = .ok (.getfield 25, 3) := by decide +kernel
theorem dX3_lastDay_17 : decode cX3_lastDay 17 = .ok (.iload_n 2, 1) := by decide +kernel
theorem dX3_lastDay_18 : decode cX3_lastDay 18 = .ok (.iaload, 1) := by decide +kernel
theorem dX3_lastDay_19 : decode cX3_lastDay 19 = .ok (.invokestatic 15, 3) := by decide +kernel
theorem dX3_lastDay_22 : decode cX3_lastDay 22 = .ok (.istore_n 1, 1) := by decide +kernel
theorem dX3_lastDay_23 : decode cX3_lastDay 23 = .ok (.iinc 2 1, 3) := by decide +kernel
theorem dX3_lastDay_26 : decode cX3_lastDay 26 = .ok (.goto (-22), 3) := by decide +kernel
theorem dX3_lastDay_29 : decode cX3_lastDay 29 = .ok (.iload_n 1, 1) := by decide +kernel
theorem dX3_lastDay_30 : decode cX3_lastDay 30 = .ok (.ireturn, 1) := by decide +kernel
theorem dX3_become_0 : decode cX3_become 0 = .ok (.aload_n 0, 1) := by decide +kernel
theorem dX3_become_1 : decode cX3_become 1 = .ok (.aload_n 1, 1) := by decide +kernel
theorem dX3_become_2 : decode cX3_become 2 = .ok (.getfield 9, 3) := by decide +kernel
theorem dX3_become_5 : decode cX3_become 5 = .ok (.aload_n 0, 1) := by decide +kernel
theorem dX3_become_6 : decode cX3_become 6 = .ok (.getfield 21, 3) := by decide +kernel
theorem dX3_become_9 : decode cX3_become 9 = .ok (.arraylength, 1) := by decide +kernel
theorem dX3_become_10 : decode cX3_become 10 = .ok (.invokestatic 31, 3) := by decide +kernel
theorem dX3_become_13 : decode cX3_become 13 = .ok (.putfield 9, 3) := by decide +kernel
theorem dX3_become_16 : decode cX3_become 16 = .ok (.aload_n 1, 1) := by decide +kernel
theorem dX3_become_17 : decode cX3_become 17 = .ok (.getfield 21, 3) := by decide +kernel
theorem dX3_become_20 : decode cX3_become 20 = .ok (.iconst 0, 1) := by decide +kernel
theorem dX3_become_21 : decode cX3_become 21 = .ok (.aload_n 0, 1) := by decide +kernel
theorem dX3_become_22 : decode cX3_become 22 = .ok (.getfield 21, 3) := by decide +kernel
theorem dX3_become_25 : decode cX3_become 25 = .ok (.iconst 0, 1) := by decide +kernel
theorem dX3_become_26 : decode cX3_become 26 = .ok (.aload_n 0, 1) := by decide +kernel
theorem dX3_become_27 : decode cX3_become 27 = .ok (.getfield 9, 3) := by decide +kernel
theorem dX3_become_30 : decode cX3_become 30 = .ok (.invokestatic 34, 3) := by decide +kernel
theorem dX3_become_33 : decode cX3_become 33 = .ok (.aload_n 1, 1) := by decide +kernel
theorem dX3_become_34 : decode cX3_become 34 = .ok (.getfield 25, 3) := by decide +kernel
theorem dX3_become_37 : decode cX3_become 37 = .ok (.iconst 0, 1) := by decide +kernel
theorem dX3_become_38 : decode cX3_become 38 = .ok (.aload_n 0, 1) := by decide +kernel
theorem dX3_become_39 : decode cX3_become 39 = .ok (.getfield 25, 3) := by decide +kernel
theorem dX3_become_42 : decode cX3_become 42 = .ok (.iconst 0, 1) := by decide +kernel
theorem dX3_become_43 : decode cX3_become 43 = .ok (.aload_n 0, 1) := by decide +kernel
theorem dX3_become_44 : decode cX3_become 44 = .ok (.getfield 9, 3) := by decide +kernel
theorem dX3_become_47 : decode cX3_become 47 = .ok (.invokestatic 34, 3) := by decide +kernel
theorem dX3_become_50 : decode cX3_become 50 = .ok (.aload_n 1, 1) := by decide +kernel
theorem dX3_become_51 : decode cX3_become 51 = .ok (.getfield 28, 3) := by decide +kernel
theorem dX3_become_54 : decode cX3_become 54 = .ok (.iconst 0, 1) := by decide +kernel
theorem dX3_become_55 : decode cX3_become 55 = .ok (.aload_n 0, 1) := by decide +kernel
theorem dX3_become_56 : decode cX3_become 56 = .ok (.getfield 28, 3) := by decide +kernel
theorem dX3_become_59 : decode cX3_become 59 = .ok (.iconst 0, 1) := by decide +kernel
theorem dX3_become_60 : decode cX3_become 60 = .ok (.aload_n 0, 1) := by decide +kernel
theorem dX3_become_61 : decode cX3_become 61 = .ok (.getfield 9, 3) := by decide +kernel
theorem dX3_become_64 : decode cX3_become 64 = .ok (.invokestatic 34, 3) := by decide +kernel
theorem dX3_become_67 : decode cX3_become 67 = .ok (.return_, 1) := by decide +kernel
theorem dX4_init_0 : decode cX4_init 0 = .ok (.aload_n 0, 1) := by decide +kernel
theorem dX4_init_1 : decode cX4_init 1 = .ok (.invokespecial 3, 3) := by decide +kernel
theorem dX4_init_4 : decode cX4_init 4 = .ok (.aload_n 0, 1) := by decide +kernel
theorem dX4_init_5 : decode cX4_init 5 = .ok (.iconst 0, 1) := by decide +kernel
theorem dX4_init_6 : decode cX4_init 6 = .ok (.putfield 9, 3) := by decide +kernel
theorem dX4_init_9 : decode cX4_init 9 = .ok (.aload_n 0, 1) := by decide +kernel
theorem dX4_init_10 : decode cX4_init 10 = .ok (.iconst 1, 1) := by decide +kernel
theorem dX4_init_11 : decode cX4_init 11 = .ok (.putfield 15, 3) := by decide +kernel
theorem dX4_init_14 : decode cX4_init 14 = .ok (.aload_n 0, 1) := by decide +kernel
theorem dX4_init_15 : decode cX4_init 15 = .ok (.bipush (-5), 2) := by decide +kernel
theorem dX4_init_17 : decode cX4_init 17 = .ok (.putfield 18, 3) := by decide +kernel
theorem dX4_init_20 : decode cX4_init 20 = .ok (.return_, 1) := by decide +kernel
theorem dX4_become_0 : decode cX4_become 0 = .ok (.aload_n 0, 1) := by decide +kernel
theorem dX4_become_1 : decode cX4_become 1 = .ok (.aload_n 1, 1) := by decide +kernel
theorem dX4_become_2 : decode cX4_become 2 = .ok (.getfield 9, 3) := by decide +kernel
theorem dX4_become_5 : decode cX4_become 5 = .ok (.putfield 9, 3) := by decide +kernel
theorem dX4_become_8 : decode cX4_become 8 = .ok (.aload_n 0, 1) := by decide +kernel
theorem dX4_become_9 : decode cX4_become 9 = .ok (.aload_n 1, 1) := by decide +kernel
theorem dX4_become_10 : decode cX4_become 10 = .ok (.getfield 15, 3) := by decide +kernel
theorem dX4_become_13 : decode cX4_become 13 = .ok (.putfield 15, 3) := by decide +kernel
theorem dX4_become_16 : decode cX4_become 16 = .ok (.aload_n 0, 1) := by decide +kernel
theorem dX4_become_17 : decode cX4_become 17 = .ok (.aload_n 1, 1) := by decide +kernel
theorem dX4_become_18 : decode cX4_become 18 = .ok (.getfield 18, 3) := by decide +kernel
theorem dX4_become_21 : decode cX4_become 21 = .ok (.putfield 18, 3) := by decide +kernel
theorem dX4_become_24 : decode cX4_become 24 = .ok (.return_, 1) := by decide +kernel
theorem dX5_init_0 : decode cX5_init 0 = .ok (.aload_n 0, 1) := by decide +kernel
theorem dX5_init_1 : decode cX5_init 1 = .ok (.invokespecial 3, 3) := by decide +kernel
theorem dX5_init_4 : decode cX5_init 4 = .ok (.aload_n 0, 1) := by decide +kernel
theorem dX5_init_5 : decode cX5_init 5 = .ok (.bipush 60, 2) := by decide +kernel
theorem dX5_init_7 : decode cX5_init 7 = .ok (.newarray .long, 2) := by decide +kernel
theorem dX5_init_9 : decode cX5_init 9 = .ok (.putfield 9, 3) := by decide +kernel
theorem dX5_init_12 : decode cX5_init 12 = .ok (.aload_n 0, 1) := by decide +kernel
theorem dX5_init_13 : decode cX5_init 13 = .ok (.iconst (-1), 1) := by decide +kernel
theorem dX5_init_14 : decode cX5_init 14 = .ok (.putfield 15, 3) := by decide +kernel
theorem dX5_init_17 : decode cX5_init 17 = .ok (.aload_n 0, 1) := by decide +kernel
theorem dX5_init_18 : decode cX5_init 18 = .ok (.iconst 0, 1) := by decide +kernel
theorem dX5_init_19 : decode cX5_init 19 = .ok (.putfield 19, 3) := by decide +kernel
theorem dX5_init_22 : decode cX5_init 22 = .ok (.return_, 1) := by decide +kernel
theorem dX5_become_0 : decode cX5_become 0 = .ok (.aload_n 0, 1) := by decide +kernel
theorem dX5_become_1 : decode cX5_become 1 = .ok (.iload_n 1, 1) := by decide +kernel
theorem dX5_become_2 : decode cX5_become 2 = .ok (.putfield 15, 3) := by decide +kernel
theorem dX5_become_5 : decode cX5_become 5 = .ok (.aload_n 0, 1) := by decide +kernel
theorem dX5_become_6 : decode cX5_become 6 = .ok (.iload_n 2, 1) := by decide +kernel
theorem dX5_become_7 : decode cX5_become 7 = .ok (.putfield 19, 3) := by decide +kernel
theorem dX5_become_10 : decode cX5_become 10 = .ok (.iconst 0, 1) := by decide +kernel
theorem dX5_become_11 : decode cX5_become 11 = .ok (.istore_n 3, 1) := by decide +kernel
theorem dX5_become_12 : decode cX5_become 12 = .ok (.iload_n 3, 1) := by decide +kernel
theorem dX5_become_13 : decode cX5_become 13 = .ok (.aload_n 0, 1) := by decide +kernel
theorem dX5_become_14 : decode cX5_become 14 = .ok (.getfield 9, 3) := by decide +kernel
theorem dX5_become_17 : decode cX5_become 17 = .ok (.arraylength, 1) := by decide +kernel
theorem dX5_become_18 : decode cX5_become 18 = .ok (.if_icmp .ge 16, 3) := by decide +kernel
theorem dX5_become_21 : decode cX5_become 21 = .ok (.aload_n 0, 1) := by decide +kernel
theorem dX5_become_22 : decode cX5_become 22 = .ok (.getfield 9, 3) := by decide +kernel
theorem dX5_become_25 : decode cX5_become 25 = .ok (.iload_n 3, 1) := by decide +kernel
theorem dX5_become_26 : decode cX5_become 26 = .ok (.lconst 0, 1) := by decide +kernel
theorem dX5_become_27 : decode cX5_become 27 = .ok (.lastore, 1) := by decide +kernel
theorem dX5_become_28 : decode cX5_become 28 = .ok (.iinc 3 1, 3) := by decide +kernel
theorem dX5_become_31 : decode cX5_become 31 = .ok (.goto (-19), 3) := by decide +kernel
theorem dX5_become_34 : decode cX5_become 34 = .ok (.return_, 1) := by decide +kernel
theorem dX5_holds_0 : decode cX5_holds 0 = .ok (.iload_n 1, 1) := by decide +kernel
theorem dX5_holds_1 : decode cX5_holds 1 = .ok (.ifCond .lt 29, 3) := by decide +kernel
theorem dX5_holds_4 : decode cX5_holds 4 = .ok (.iload_n 2, 1) := by decide +kernel
theorem dX5_holds_5 : decode cX5_holds 5 = .ok (.ifCond .lt 25, 3) := by decide +kernel
theorem dX5_holds_8 : decode cX5_holds 8 = .ok (.iload_n 2, 1) := by decide +kernel
theorem dX5_holds_9 : decode cX5_holds 9 = .ok (.aload_n 0, 1) := by decide +kernel
theorem dX5_holds_10 : decode cX5_holds 10 = .ok (.getfield 19, 3) := by decide +kernel
theorem dX5_holds_13 : decode cX5_holds 13 = .ok (.if_icmp .gt 17, 3) := by decide +kernel
theorem dX5_holds_16 : decode cX5_holds 16 = .ok (.iload_n 1, 1) := by decide +kernel
theorem dX5_holds_17 : decode cX5_holds 17 = .ok (.aload_n 0, 1) := by decide +kernel
theorem dX5_holds_18 : decode cX5_holds 18 = .ok (.getfield 19, 3) := by decide +kernel
theorem dX5_holds_21 : decode cX5_holds 21 = .ok (.iload_n 2, 1) := by decide +kernel
theorem dX5_holds_22 : decode cX5_holds 22 = .ok (.isub, 1) := by decide +kernel
theorem dX5_holds_23 : decode cX5_holds 23 = .ok (.if_icmp .gt 7, 3) := by decide +kernel
theorem dX5_holds_26 : decode cX5_holds 26 = .ok (.iconst 1, 1) := by decide +kernel
theorem dX5_holds_27 : decode cX5_holds 27 = .ok (.goto 4, 3) := by decide +kernel
theorem dX5_holds_30 : decode cX5_holds 30 = .ok (.iconst 0, 1) := by decide +kernel
theorem dX5_holds_31 : decode cX5_holds 31 = .ok (.ireturn, 1) := by decide +kernel
theorem dX5_fitted_0 : decode cX5_fitted 0 = .ok (.aload_n 0, 1) := by decide +kernel
theorem dX5_fitted_1 : decode cX5_fitted 1 = .ok (.getfield 15, 3) := by decide +kernel
theorem dX5_fitted_4 : decode cX5_fitted 4 = .ok (.tableswitch 62 0 4 #[36, 41, 46, 62, 50], 36) := by decide +kernel
theorem dX5_fitted_40 : decode cX5_fitted 40 = .ok (.lload_n 1, 1) := by decide +kernel
theorem dX5_fitted_41 : decode cX5_fitted 41 = .ok (.l2i, 1) := by decide +kernel
theorem dX5_fitted_42 : decode cX5_fitted 42 = .ok (.i2b, 1) := by decide +kernel
theorem dX5_fitted_43 : decode cX5_fitted 43 = .ok (.i2l, 1) := by decide +kernel
theorem dX5_fitted_44 : decode cX5_fitted 44 = .ok (.lreturn, 1) := by decide +kernel
theorem dX5_fitted_45 : decode cX5_fitted 45 = .ok (.lload_n 1, 1) := by decide +kernel
theorem dX5_fitted_46 : decode cX5_fitted 46 = .ok (.l2i, 1) := by decide +kernel
theorem dX5_fitted_47 : decode cX5_fitted 47 = .ok (.i2s, 1) := by decide +kernel
theorem dX5_fitted_48 : decode cX5_fitted 48 = .ok (.i2l, 1) := by decide +kernel
theorem dX5_fitted_49 : decode cX5_fitted 49 = .ok (.lreturn, 1) := by decide +kernel
theorem dX5_fitted_50 : decode cX5_fitted 50 = .ok (.lload_n 1, 1) := by decide +kernel
theorem dX5_fitted_51 : decode cX5_fitted 51 = .ok (.l2i, 1) := by decide +kernel
theorem dX5_fitted_52 : decode cX5_fitted 52 = .ok (.i2l, 1) := by decide +kernel
theorem dX5_fitted_53 : decode cX5_fitted 53 = .ok (.lreturn, 1) := by decide +kernel
theorem dX5_fitted_54 : decode cX5_fitted 54 = .ok (.lload_n 1, 1) := by decide +kernel
theorem dX5_fitted_55 : decode cX5_fitted 55 = .ok (.lconst 0, 1) := by decide +kernel
theorem dX5_fitted_56 : decode cX5_fitted 56 = .ok (.lcmp, 1) := by decide +kernel
theorem dX5_fitted_57 : decode cX5_fitted 57 = .ok (.ifCond .eq 7, 3) := by decide +kernel
theorem dX5_fitted_60 : decode cX5_fitted 60 = .ok (.lconst 1, 1) := by decide +kernel
theorem dX5_fitted_61 : decode cX5_fitted 61 = .ok (.goto 4, 3) := by decide +kernel
theorem dX5_fitted_64 : decode cX5_fitted 64 = .ok (.lconst 0, 1) := by decide +kernel
theorem dX5_fitted_65 : decode cX5_fitted 65 = .ok (.lreturn, 1) := by decide +kernel
theorem dX5_fitted_66 : decode cX5_fitted 66 = .ok (.lload_n 1, 1) := by decide +kernel
theorem dX5_fitted_67 : decode cX5_fitted 67 = .ok (.lreturn, 1) := by decide +kernel
theorem dX6_init_0 : decode cX6_init 0 = .ok (.aload_n 0, 1) := by decide +kernel
theorem dX6_init_1 : decode cX6_init 1 = .ok (.invokespecial 3, 3) := by decide +kernel
theorem dX6_init_4 : decode cX6_init 4 = .ok (.aload_n 0, 1) := by decide +kernel
theorem dX6_init_5 : decode cX6_init 5 = .ok (.bipush 20, 2) := by decide +kernel
theorem dX6_init_7 : decode cX6_init 7 = .ok (.newarray .int, 2) := by decide +kernel
theorem dX6_init_9 : decode cX6_init 9 = .ok (.putfield 9, 3) := by decide +kernel
theorem dX6_init_12 : decode cX6_init 12 = .ok (.aload_n 0, 1) := by decide +kernel
theorem dX6_init_13 : decode cX6_init 13 = .ok (.iconst 0, 1) := by decide +kernel
theorem dX6_init_14 : decode cX6_init 14 = .ok (.putfield 15, 3) := by decide +kernel
theorem dX6_init_17 : decode cX6_init 17 = .ok (.return_, 1) := by decide +kernel
theorem dX6_begins_0 : decode cX6_begins 0 = .ok (.aload_n 0, 1) := by decide +kernel
theorem dX6_begins_1 : decode cX6_begins 1 = .ok (.getfield 15, 3) := by decide +kernel
theorem dX6_begins_4 : decode cX6_begins 4 = .ok (.aload_n 0, 1) := by decide +kernel
theorem dX6_begins_5 : decode cX6_begins 5 = .ok (.getfield 9, 3) := by decide +kernel
theorem dX6_begins_8 : decode cX6_begins 8 = .ok (.arraylength, 1) := by decide +kernel
theorem dX6_begins_9 : decode cX6_begins 9 = .ok (.if_icmp .ge 13, 3) := by decide +kernel
theorem dX6_begins_12 : decode cX6_begins 12 = .ok (.aload_n 0, 1) := by decide +kernel
theorem dX6_begins_13 : decode cX6_begins 13 = .ok (.getfield 9, 3) := by decide +kernel
theorem dX6_begins_16 : decode cX6_begins 16 = .ok (.aload_n 0, 1) := by decide +kernel
theorem dX6_begins_17 : decode cX6_begins 17 = .ok (.getfield 15, 3) := by decide +kernel
theorem dX6_begins_20 : decode cX6_begins 20 = .ok (.iload_n 1, 1) := by decide +kernel
theorem dX6_begins_21 : decode cX6_begins 21 = .ok (.iastore, 1) := by decide +kernel
theorem dX6_begins_22 : decode cX6_begins 22 = .ok (.aload_n 0, 1) := by decide +kernel
theorem dX6_begins_23 : decode cX6_begins 23 = .ok (.dup, 1) := by decide +kernel
theorem dX6_begins_24 : decode cX6_begins 24 = .ok (.getfield 15, 3) := by decide +kernel
theorem dX6_begins_27 : decode cX6_begins 27 = .ok (.iconst 1, 1) := by decide +kernel
theorem dX6_begins_28 : decode cX6_begins 28 = .ok (.iadd, 1) := by decide +kernel
theorem dX6_begins_29 : decode cX6_begins 29 = .ok (.putfield 15, 3) := by decide +kernel
theorem dX6_begins_32 : decode cX6_begins 32 = .ok (.return_, 1) := by decide +kernel
theorem dX6_nods_0 : decode cX6_nods 0 = .ok (.iload_n 1, 1) := by decide +kernel
theorem dX6_nods_1 : decode cX6_nods 1 = .ok (.tableswitch 85 2 6 #[35, 85, 51, 35, 66], 35) := by decide +kernel
theorem dX6_nods_36 : decode cX6_nods 36 = .ok (.aload_n 3, 1) := by decide +kernel
theorem dX6_nods_37 : decode cX6_nods 37 = .ok (.bipush 30, 2) := by decide +kernel
theorem dX6_nods_39 : decode cX6_nods 39 = .ok (.invokevirtual 19, 3) := by decide +kernel
theorem dX6_nods_42 : decode cX6_nods 42 = .ok (.aload_n 0, 1) := by decide +kernel
theorem dX6_nods_43 : decode cX6_nods 43 = .ok (.iconst 0, 1) := by decide +kernel
theorem dX6_nods_44 : decode cX6_nods 44 = .ok (.iload_n 2, 1) := by decide +kernel
theorem dX6_nods_45 : decode cX6_nods 45 = .ok (.iconst 3, 1) := by decide +kernel
theorem dX6_nods_46 : decode cX6_nods 46 = .ok (.imul, 1) := by decide +kernel
theorem dX6_nods_47 : decode cX6_nods 47 = .ok (.aload_n 3, 1) := by decide +kernel
theorem dX6_nods_48 : decode cX6_nods 48 = .ok (.invokestatic 23, 3) := by decide +kernel
theorem dX6_nods_51 : decode cX6_nods 51 = .ok (.ireturn, 1) := by decide +kernel
theorem dX6_nods_52 : decode cX6_nods 52 = .ok (.aload_n 3, 1) := by decide +kernel
theorem dX6_nods_53 : decode cX6_nods 53 = .ok (.bipush 50, 2) := by decide +kernel
theorem dX6_nods_55 : decode cX6_nods 55 = .ok (.invokevirtual 19, 3) := by decide +kernel
theorem dX6_nods_58 : decode cX6_nods 58 = .ok (.aload_n 0, 1) := by decide +kernel
theorem dX6_nods_59 : decode cX6_nods 59 = .ok (.iconst 1, 1) := by decide +kernel
theorem dX6_nods_60 : decode cX6_nods 60 = .ok (.iload_n 2, 1) := by decide +kernel
theorem dX6_nods_61 : decode cX6_nods 61 = .ok (.aload_n 3, 1) := by decide +kernel
theorem dX6_nods_62 : decode cX6_nods 62 = .ok (.invokestatic 23, 3) := by decide +kernel
theorem dX6_nods_65 : decode cX6_nods 65 = .ok (.ineg, 1) := by decide +kernel
theorem dX6_nods_66 : decode cX6_nods 66 = .ok (.ireturn, 1) := by decide +kernel
theorem dX6_nods_67 : decode cX6_nods 67 = .ok (.aload_n 3, 1) := by decide +kernel
theorem dX6_nods_68 : decode cX6_nods 68 = .ok (.bipush 71, 2) := by decide +kernel
theorem dX6_nods_70 : decode cX6_nods 70 = .ok (.invokevirtual 19, 3) := by decide +kernel
theorem dX6_nods_73 : decode cX6_nods 73 = .ok (.aload_n 0, 1) := by decide +kernel
theorem dX6_nods_74 : decode cX6_nods 74 = .ok (.iconst 3, 1) := by decide +kernel
theorem dX6_nods_75 : decode cX6_nods 75 = .ok (.iload_n 2, 1) := by decide +kernel
theorem dX6_nods_76 : decode cX6_nods 76 = .ok (.aload_n 3, 1) := by decide +kernel
theorem dX6_nods_77 : decode cX6_nods 77 = .ok (.invokestatic 23, 3) := by decide +kernel
theorem dX6_nods_80 : decode cX6_nods 80 = .ok (.aload_n 0, 1) := by decide +kernel
theorem dX6_nods_81 : decode cX6_nods 81 = .ok (.getfield 27, 3) := by decide +kernel
theorem dX6_nods_84 : decode cX6_nods 84 = .ok (.ixor, 1) := by decide +kernel
theorem dX6_nods_85 : decode cX6_nods 85 = .ok (.ireturn, 1) := by decide +kernel
theorem dX6_nods_86 : decode cX6_nods 86 = .ok (.aload_n 3, 1) := by decide +kernel
theorem dX6_nods_87 : decode cX6_nods 87 = .ok (.bipush 10, 2) := by decide +kernel
theorem dX6_nods_89 : decode cX6_nods 89 = .ok (.invokevirtual 19, 3) := by decide +kernel
theorem dX6_nods_92 : decode cX6_nods 92 = .ok (.iload_n 2, 1) := by decide +kernel
theorem dX6_nods_93 : decode cX6_nods 93 = .ok (.aload_n 0, 1) := by decide +kernel
theorem dX6_nods_94 : decode cX6_nods 94 = .ok (.getfield 32, 3) := by decide +kernel
theorem dX6_nods_97 : decode cX6_nods 97 = .ok (.iadd, 1) := by decide +kernel
theorem dX6_nods_98 : decode cX6_nods 98 = .ok (.ireturn, 1) := by decide +kernel
theorem dX6_knocks_0 : decode cX6_knocks 0 = .ok (.iload_n 1, 1) := by decide +kernel
theorem dX6_knocks_1 : decode cX6_knocks 1 = .ok (.lookupswitch 94 #[(1, 35), (4, 52), (6, 68)], 35) := by decide +kernel
theorem dX6_knocks_36 : decode cX6_knocks 36 = .ok (.aload_n 3, 1) := by decide +kernel
theorem dX6_knocks_37 : decode cX6_knocks 37 = .ok (.bipush 20, 2) := by decide +kernel
theorem dX6_knocks_39 : decode cX6_knocks 39 = .ok (.invokevirtual 19, 3) := by decide +kernel
theorem dX6_knocks_42 : decode cX6_knocks 42 = .ok (.aload_n 0, 1) := by decide +kernel
theorem dX6_knocks_43 : decode cX6_knocks 43 = .ok (.iconst 0, 1) := by decide +kernel
theorem dX6_knocks_44 : decode cX6_knocks 44 = .ok (.iload_n 2, 1) := by decide +kernel
theorem dX6_knocks_45 : decode cX6_knocks 45 = .ok (.aload_n 3, 1) := by decide +kernel
theorem dX6_knocks_46 : decode cX6_knocks 46 = .ok (.invokestatic 35, 3) := by decide +kernel
theorem dX6_knocks_49 : decode cX6_knocks 49 = .ok (.bipush 6, 2) := by decide +kernel
theorem dX6_knocks_51 : decode cX6_knocks 51 = .ok (.ixor, 1) := by decide +kernel
theorem dX6_knocks_52 : decode cX6_knocks 52 = .ok (.ireturn, 1) := by decide +kernel
theorem dX6_knocks_53 : decode cX6_knocks 53 = .ok (.aload_n 3, 1) := by decide +kernel
theorem dX6_knocks_54 : decode cX6_knocks 54 = .ok (.bipush 51, 2) := by decide +kernel
theorem dX6_knocks_56 : decode cX6_knocks 56 = .ok (.invokevirtual 19, 3) := by decide +kernel
theorem dX6_knocks_59 : decode cX6_knocks 59 = .ok (.aload_n 0, 1) := by decide +kernel
theorem dX6_knocks_60 : decode cX6_knocks 60 = .ok (.iconst 1, 1) := by decide +kernel
theorem dX6_knocks_61 : decode cX6_knocks 61 = .ok (.iload_n 2, 1) := by decide +kernel
theorem dX6_knocks_62 : decode cX6_knocks 62 = .ok (.iconst 1, 1) := by decide +kernel
theorem dX6_knocks_63 : decode cX6_knocks 63 = .ok (.iadd, 1) := by decide +kernel
theorem dX6_knocks_64 : decode cX6_knocks 64 = .ok (.aload_n 3, 1) := by decide +kernel
theorem dX6_knocks_65 : decode cX6_knocks 65 = .ok (.invokestatic 35, 3) := by decide +kernel
theorem dX6_knocks_68 : decode cX6_knocks 68 = .ok (.ireturn, 1) := by decide +kernel
theorem dX6_knocks_69 : decode cX6_knocks 69 = .ok (.aload_n 3, 1) := by decide +kernel
theorem dX6_knocks_70 : decode cX6_knocks 70 = .ok (.bipush 70, 2) := by decide +kernel
theorem dX6_knocks_72 : decode cX6_knocks 72 = .ok (.invokevirtual 19, 3) := by decide +kernel
theorem dX6_knocks_75 : decode cX6_knocks 75 = .ok (.aload_n 0, 1) := by decide +kernel
theorem dX6_knocks_76 : decode cX6_knocks 76 = .ok (.iconst 3, 1) := by decide +kernel
theorem dX6_knocks_77 : decode cX6_knocks 77 = .ok (.iload_n 2, 1) := by decide +kernel
theorem dX6_knocks_78 : decode cX6_knocks 78 = .ok (.aload_n 3, 1) := by decide +kernel
theorem dX6_knocks_79 : decode cX6_knocks 79 = .ok (.invokestatic 35, 3) := by decide +kernel
theorem dX6_knocks_82 : decode cX6_knocks 82 = .ok (.istore 4, 2) := by decide +kernel
theorem dX6_knocks_84 : decode cX6_knocks 84 = .ok (.iload 4, 2) := by decide +kernel
theorem dX6_knocks_86 : decode cX6_knocks 86 = .ok (.aload_n 0, 1) := by decide +kernel
theorem dX6_knocks_87 : decode cX6_knocks 87 = .ok (.iconst 3, 1) := by decide +kernel
theorem dX6_knocks_88 : decode cX6_knocks 88 = .ok (.iconst 2, 1) := by decide +kernel
theorem dX6_knocks_89 : decode cX6_knocks 89 = .ok (.aload_n 3, 1) := by decide +kernel
theorem dX6_knocks_90 : decode cX6_knocks 90 = .ok (.invokestatic 23, 3) := by decide +kernel
theorem dX6_knocks_93 : decode cX6_knocks 93 = .ok (.iadd, 1) := by decide +kernel
theorem dX6_knocks_94 : decode cX6_knocks 94 = .ok (.ireturn, 1) := by decide +kernel
theorem dX6_knocks_95 : decode cX6_knocks 95 = .ok (.aload_n 3, 1) := by decide +kernel
theorem dX6_knocks_96 : decode cX6_knocks 96 = .ok (.bipush 11, 2) := by decide +kernel
theorem dX6_knocks_98 : decode cX6_knocks 98 = .ok (.invokevirtual 19, 3) := by decide +kernel
theorem dX6_knocks_101 : decode cX6_knocks 101 = .ok (.aload_n 0, 1) := by decide +kernel
theorem dX6_knocks_102 : decode cX6_knocks 102 = .ok (.aload_n 0, 1) := by decide +kernel
theorem dX6_knocks_103 : decode cX6_knocks 103 = .ok (.getfield 38, 3) := by decide +kernel
theorem dX6_knocks_106 : decode cX6_knocks 106 = .ok (.iload_n 2, 1) := by decide +kernel
theorem dX6_knocks_107 : decode cX6_knocks 107 = .ok (.aload_n 3, 1) := by decide +kernel
theorem dX6_knocks_108 : decode cX6_knocks 108 = .ok (.invokestatic 23, 3) := by decide +kernel
theorem dX6_knocks_111 : decode cX6_knocks 111 = .ok (.aload_n 0, 1) := by decide +kernel
theorem dX6_knocks_112 : decode cX6_knocks 112 = .ok (.getfield 27, 3) := by decide +kernel
theorem dX6_knocks_115 : decode cX6_knocks 115 = .ok (.isub, 1) := by decide +kernel
theorem dX6_knocks_116 : decode cX6_knocks 116 = .ok (.ireturn, 1) := by decide +kernel
theorem dX6_tells_0 : decode cX6_tells 0 = .ok (.iload_n 1, 1) := by decide +kernel
theorem dX6_tells_1 : decode cX6_tells 1 = .ok (.tableswitch 79 3 6 #[31, 79, 60, 31], 31) := by decide +kernel
theorem dX6_tells_32 : decode cX6_tells 32 = .ok (.aload_n 3, 1) := by decide +kernel
theorem dX6_tells_33 : decode cX6_tells 33 = .ok (.bipush 40, 2) := by decide +kernel
theorem dX6_tells_35 : decode cX6_tells 35 = .ok (.invokevirtual 19, 3) := by decide +kernel
theorem dX6_tells_38 : decode cX6_tells 38 = .ok (.aload_n 0, 1) := by decide +kernel
theorem dX6_tells_39 : decode cX6_tells 39 = .ok (.iconst 0, 1) := by decide +kernel
theorem dX6_tells_40 : decode cX6_tells 40 = .ok (.iload_n 2, 1) := by decide +kernel
theorem dX6_tells_41 : decode cX6_tells 41 = .ok (.aload_n 3, 1) := by decide +kernel
theorem dX6_tells_42 : decode cX6_tells 42 = .ok (.invokestatic 41, 3) := by decide +kernel
theorem dX6_tells_45 : decode cX6_tells 45 = .ok (.istore 4, 2) := by decide +kernel
theorem dX6_tells_47 : decode cX6_tells 47 = .ok (.iload 4, 2) := by decide +kernel
theorem dX6_tells_49 : decode cX6_tells 49 = .ok (.aload_n 0, 1) := by decide +kernel
theorem dX6_tells_50 : decode cX6_tells 50 = .ok (.aload_n 0, 1) := by decide +kernel
theorem dX6_tells_51 : decode cX6_tells 51 = .ok (.getfield 38, 3) := by decide +kernel
theorem dX6_tells_54 : decode cX6_tells 54 = .ok (.iconst 1, 1) := by decide +kernel
theorem dX6_tells_55 : decode cX6_tells 55 = .ok (.aload_n 3, 1) := by decide +kernel
theorem dX6_tells_56 : decode cX6_tells 56 = .ok (.invokestatic 35, 3) := by decide +kernel
theorem dX6_tells_59 : decode cX6_tells 59 = .ok (.iadd, 1) := by decide +kernel
theorem dX6_tells_60 : decode cX6_tells 60 = .ok (.ireturn, 1) := by decide +kernel
theorem dX6_tells_61 : decode cX6_tells 61 = .ok (.aload_n 3, 1) := by decide +kernel
theorem dX6_tells_62 : decode cX6_tells 62 = .ok (.bipush 60, 2) := by decide +kernel
theorem dX6_tells_64 : decode cX6_tells 64 = .ok (.invokevirtual 19, 3) := by decide +kernel
theorem dX6_tells_67 : decode cX6_tells 67 = .ok (.aload_n 0, 1) := by decide +kernel
theorem dX6_tells_68 : decode cX6_tells 68 = .ok (.iconst 2, 1) := by decide +kernel
theorem dX6_tells_69 : decode cX6_tells 69 = .ok (.iload_n 2, 1) := by decide +kernel
theorem dX6_tells_70 : decode cX6_tells 70 = .ok (.aload_n 0, 1) := by decide +kernel
theorem dX6_tells_71 : decode cX6_tells 71 = .ok (.getfield 32, 3) := by decide +kernel
theorem dX6_tells_74 : decode cX6_tells 74 = .ok (.isub, 1) := by decide +kernel
theorem dX6_tells_75 : decode cX6_tells 75 = .ok (.aload_n 3, 1) := by decide +kernel
theorem dX6_tells_76 : decode cX6_tells 76 = .ok (.invokestatic 41, 3) := by decide +kernel
theorem dX6_tells_79 : decode cX6_tells 79 = .ok (.ireturn, 1) := by decide +kernel
theorem dX6_tells_80 : decode cX6_tells 80 = .ok (.aload_n 3, 1) := by decide +kernel
theorem dX6_tells_81 : decode cX6_tells 81 = .ok (.bipush 12, 2) := by decide +kernel
theorem dX6_tells_83 : decode cX6_tells 83 = .ok (.invokevirtual 19, 3) := by decide +kernel
theorem dX6_tells_86 : decode cX6_tells 86 = .ok (.aload_n 0, 1) := by decide +kernel
theorem dX6_tells_87 : decode cX6_tells 87 = .ok (.aload_n 0, 1) := by decide +kernel
theorem dX6_tells_88 : decode cX6_tells 88 = .ok (.getfield 38, 3) := by decide +kernel
theorem dX6_tells_91 : decode cX6_tells 91 = .ok (.iload_n 2, 1) := by decide +kernel
theorem dX6_tells_92 : decode cX6_tells 92 = .ok (.aload_n 3, 1) := by decide +kernel
theorem dX6_tells_93 : decode cX6_tells 93 = .ok (.invokestatic 35, 3) := by decide +kernel
theorem dX6_tells_96 : decode cX6_tells 96 = .ok (.iconst 2, 1) := by decide +kernel
theorem dX6_tells_97 : decode cX6_tells 97 = .ok (.imul, 1) := by decide +kernel
theorem dX6_tells_98 : decode cX6_tells 98 = .ok (.ireturn, 1) := by decide +kernel
theorem dX7_init_0 : decode cX7_init 0 = .ok (.aload_n 0, 1) := by decide +kernel
theorem dX7_init_1 : decode cX7_init 1 = .ok (.invokespecial 3, 3) := by decide +kernel
theorem dX7_init_4 : decode cX7_init 4 = .ok (.aload_n 0, 1) := by decide +kernel
theorem dX7_init_5 : decode cX7_init 5 = .ok (.iconst 4, 1) := by decide +kernel
theorem dX7_init_6 : decode cX7_init 6 = .ok (.newarray .int, 2) := by decide +kernel
theorem dX7_init_8 : decode cX7_init 8 = .ok (.putfield 9, 3) := by decide +kernel
theorem dX7_init_11 : decode cX7_init 11 = .ok (.aload_n 0, 1) := by decide +kernel
theorem dX7_init_12 : decode cX7_init 12 = .ok (.iconst 0, 1) := by decide +kernel
theorem dX7_init_13 : decode cX7_init 13 = .ok (.putfield 15, 3) := by decide +kernel
theorem dX7_init_16 : decode cX7_init 16 = .ok (.aload_n 0, 1) := by decide +kernel
theorem dX7_init_17 : decode cX7_init 17 = .ok (.iconst 0, 1) := by decide +kernel
theorem dX7_init_18 : decode cX7_init 18 = .ok (.putfield 19, 3) := by decide +kernel
theorem dX7_init_21 : decode cX7_init 21 = .ok (.aload_n 0, 1) := by decide +kernel
theorem dX7_init_22 : decode cX7_init 22 = .ok (.iconst 0, 1) := by decide +kernel
theorem dX7_init_23 : decode cX7_init 23 = .ok (.putfield 22, 3) := by decide +kernel
theorem dX7_init_26 : decode cX7_init 26 = .ok (.aload_n 0, 1) := by decide +kernel
theorem dX7_init_27 : decode cX7_init 27 = .ok (.iconst 0, 1) := by decide +kernel
theorem dX7_init_28 : decode cX7_init 28 = .ok (.putfield 25, 3) := by decide +kernel
theorem dX7_init_31 : decode cX7_init 31 = .ok (.aload_n 0, 1) := by decide +kernel
theorem dX7_init_32 : decode cX7_init 32 = .ok (.iconst 0, 1) := by decide +kernel
theorem dX7_init_33 : decode cX7_init 33 = .ok (.putfield 28, 3) := by decide +kernel
theorem dX7_init_36 : decode cX7_init 36 = .ok (.aload_n 0, 1) := by decide +kernel
theorem dX7_init_37 : decode cX7_init 37 = .ok (.iload_n 1, 1) := by decide +kernel
theorem dX7_init_38 : decode cX7_init 38 = .ok (.putfield 31, 3) := by decide +kernel
theorem dX7_init_41 : decode cX7_init 41 = .ok (.return_, 1) := by decide +kernel
theorem dX7_begin_0 : decode cX7_begin 0 = .ok (.aload_n 0, 1) := by decide +kernel
theorem dX7_begin_1 : decode cX7_begin 1 = .ok (.iload_n 1, 1) := by decide +kernel
theorem dX7_begin_2 : decode cX7_begin 2 = .ok (.putfield 15, 3) := by decide +kernel
theorem dX7_begin_5 : decode cX7_begin 5 = .ok (.aload_n 0, 1) := by decide +kernel
theorem dX7_begin_6 : decode cX7_begin 6 = .ok (.iload_n 2, 1) := by decide +kernel
theorem dX7_begin_7 : decode cX7_begin 7 = .ok (.putfield 19, 3) := by decide +kernel
theorem dX7_begin_10 : decode cX7_begin 10 = .ok (.aload_n 0, 1) := by decide +kernel
theorem dX7_begin_11 : decode cX7_begin 11 = .ok (.iload_n 3, 1) := by decide +kernel
theorem dX7_begin_12 : decode cX7_begin 12 = .ok (.putfield 22, 3) := by decide +kernel
theorem dX7_begin_15 : decode cX7_begin 15 = .ok (.aload_n 0, 1) := by decide +kernel
theorem dX7_begin_16 : decode cX7_begin 16 = .ok (.iconst 0, 1) := by decide +kernel
theorem dX7_begin_17 : decode cX7_begin 17 = .ok (.putfield 25, 3) := by decide +kernel
theorem dX7_begin_20 : decode cX7_begin 20 = .ok (.aload_n 0, 1) := by decide +kernel
theorem dX7_begin_21 : decode cX7_begin 21 = .ok (.iconst 0, 1) := by decide +kernel
theorem dX7_begin_22 : decode cX7_begin 22 = .ok (.putfield 28, 3) := by decide +kernel
theorem dX7_begin_25 : decode cX7_begin 25 = .ok (.iconst 0, 1) := by decide +kernel
theorem dX7_begin_26 : decode cX7_begin 26 = .ok (.istore 4, 2) := by decide +kernel
theorem dX7_begin_28 : decode cX7_begin 28 = .ok (.iload 4, 2) := by decide +kernel
theorem dX7_begin_30 : decode cX7_begin 30 = .ok (.aload_n 0, 1) := by decide +kernel
theorem dX7_begin_31 : decode cX7_begin 31 = .ok (.getfield 9, 3) := by decide +kernel
theorem dX7_begin_34 : decode cX7_begin 34 = .ok (.arraylength, 1) := by decide +kernel
theorem dX7_begin_35 : decode cX7_begin 35 = .ok (.if_icmp .ge 17, 3) := by decide +kernel
theorem dX7_begin_38 : decode cX7_begin 38 = .ok (.aload_n 0, 1) := by decide +kernel
theorem dX7_begin_39 : decode cX7_begin 39 = .ok (.getfield 9, 3) := by decide +kernel
theorem dX7_begin_42 : decode cX7_begin 42 = .ok (.iload 4, 2) := by decide +kernel
theorem dX7_begin_44 : decode cX7_begin 44 = .ok (.iconst 0, 1) := by decide +kernel
theorem dX7_begin_45 : decode cX7_begin 45 = .ok (.iastore, 1) := by decide +kernel
theorem dX7_begin_46 : decode cX7_begin 46 = .ok (.iinc 4 1, 3) := by decide +kernel
theorem dX7_begin_49 : decode cX7_begin 49 = .ok (.goto (-21), 3) := by decide +kernel
theorem dX7_begin_52 : decode cX7_begin 52 = .ok (.return_, 1) := by decide +kernel
theorem dX7_become_0 : decode cX7_become 0 = .ok (.aload_n 0, 1) := by decide +kernel
theorem dX7_become_1 : decode cX7_become 1 = .ok (.aload_n 1, 1) := by decide +kernel
theorem dX7_become_2 : decode cX7_become 2 = .ok (.getfield 15, 3) := by decide +kernel
theorem dX7_become_5 : decode cX7_become 5 = .ok (.putfield 15, 3) := by decide +kernel
theorem dX7_become_8 : decode cX7_become 8 = .ok (.aload_n 0, 1) := by decide +kernel
theorem dX7_become_9 : decode cX7_become 9 = .ok (.aload_n 1, 1) := by decide +kernel
theorem dX7_become_10 : decode cX7_become 10 = .ok (.getfield 19, 3) := by decide +kernel
theorem dX7_become_13 : decode cX7_become 13 = .ok (.putfield 19, 3) := by decide +kernel
theorem dX7_become_16 : decode cX7_become 16 = .ok (.aload_n 0, 1) := by decide +kernel
theorem dX7_become_17 : decode cX7_become 17 = .ok (.aload_n 1, 1) := by decide +kernel
theorem dX7_become_18 : decode cX7_become 18 = .ok (.getfield 22, 3) := by decide +kernel
theorem dX7_become_21 : decode cX7_become 21 = .ok (.putfield 22, 3) := by decide +kernel
theorem dX7_become_24 : decode cX7_become 24 = .ok (.aload_n 0, 1) := by decide +kernel
theorem dX7_become_25 : decode cX7_become 25 = .ok (.aload_n 1, 1) := by decide +kernel
theorem dX7_become_26 : decode cX7_become 26 = .ok (.getfield 25, 3) := by decide +kernel
theorem dX7_become_29 : decode cX7_become 29 = .ok (.putfield 25, 3) := by decide +kernel
theorem dX7_become_32 : decode cX7_become 32 = .ok (.aload_n 0, 1) := by decide +kernel
theorem dX7_become_33 : decode cX7_become 33 = .ok (.aload_n 1, 1) := by decide +kernel
theorem dX7_become_34 : decode cX7_become 34 = .ok (.getfield 28, 3) := by decide +kernel
theorem dX7_become_37 : decode cX7_become 37 = .ok (.putfield 28, 3) := by decide +kernel
theorem dX7_become_40 : decode cX7_become 40 = .ok (.aload_n 1, 1) := by decide +kernel
theorem dX7_become_41 : decode cX7_become 41 = .ok (.getfield 9, 3) := by decide +kernel
theorem dX7_become_44 : decode cX7_become 44 = .ok (.iconst 0, 1) := by decide +kernel
theorem dX7_become_45 : decode cX7_become 45 = .ok (.aload_n 0, 1) := by decide +kernel
theorem dX7_become_46 : decode cX7_become 46 = .ok (.getfield 9, 3) := by decide +kernel
theorem dX7_become_49 : decode cX7_become 49 = .ok (.iconst 0, 1) := by decide +kernel
theorem dX7_become_50 : decode cX7_become 50 = .ok (.aload_n 0, 1) := by decide +kernel
theorem dX7_become_51 : decode cX7_become 51 = .ok (.getfield 9, 3) := by decide +kernel
theorem dX7_become_54 : decode cX7_become 54 = .ok (.arraylength, 1) := by decide +kernel
theorem dX7_become_55 : decode cX7_become 55 = .ok (.invokestatic 34, 3) := by decide +kernel
theorem dX7_become_58 : decode cX7_become 58 = .ok (.return_, 1) := by decide +kernel
theorem dX7_guardBy_0 : decode cX7_guardBy 0 = .ok (.aload_n 0, 1) := by decide +kernel
theorem dX7_guardBy_1 : decode cX7_guardBy 1 = .ok (.getfield 25, 3) := by decide +kernel
theorem dX7_guardBy_4 : decode cX7_guardBy 4 = .ok (.iconst 5, 1) := by decide +kernel
theorem dX7_guardBy_5 : decode cX7_guardBy 5 = .ok (.idiv, 1) := by decide +kernel
theorem dX7_guardBy_6 : decode cX7_guardBy 6 = .ok (.bipush 9, 2) := by decide +kernel
theorem dX7_guardBy_8 : decode cX7_guardBy 8 = .ok (.invokestatic 40, 3) := by decide +kernel
theorem dX7_guardBy_11 : decode cX7_guardBy 11 = .ok (.istore_n 3, 1) := by decide +kernel
theorem dX7_guardBy_12 : decode cX7_guardBy 12 = .ok (.aload_n 0, 1) := by decide +kernel
theorem dX7_guardBy_13 : decode cX7_guardBy 13 = .ok (.getfield 15, 3) := by decide +kernel
theorem dX7_guardBy_16 : decode cX7_guardBy 16 = .ok (.tableswitch 104 1 6 #[40, 47, 51, 55, 82, 89], 40) := by decide +kernel
theorem dX7_guardBy_56 : decode cX7_guardBy 56 = .ok (.iload_n 1, 1) := by decide +kernel
theorem dX7_guardBy_57 : decode cX7_guardBy 57 = .ok (.aload_n 0, 1) := by decide +kernel
theorem dX7_guardBy_58 : decode cX7_guardBy 58 = .ok (.getfield 19, 3) := by decide +kernel
theorem dX7_guardBy_61 : decode cX7_guardBy 61 = .ok (.iadd, 1) := by decide +kernel
theorem dX7_guardBy_62 : decode cX7_guardBy 62 = .ok (.ireturn, 1) := by decide +kernel
theorem dX7_guardBy_63 : decode cX7_guardBy 63 = .ok (.iload_n 1, 1) := by decide +kernel
theorem dX7_guardBy_64 : decode cX7_guardBy 64 = .ok (.iconst 2, 1) := by decide +kernel
theorem dX7_guardBy_65 : decode cX7_guardBy 65 = .ok (.idiv, 1) := by decide +kernel
theorem dX7_guardBy_66 : decode cX7_guardBy 66 = .ok (.ireturn, 1) := by decide +kernel
theorem dX7_guardBy_67 : decode cX7_guardBy 67 = .ok (.iload_n 1, 1) := by decide +kernel
theorem dX7_guardBy_68 : decode cX7_guardBy 68 = .ok (.iload_n 3, 1) := by decide +kernel
theorem dX7_guardBy_69 : decode cX7_guardBy 69 = .ok (.iadd, 1) := by decide +kernel
theorem dX7_guardBy_70 : decode cX7_guardBy 70 = .ok (.ireturn, 1) := by decide +kernel
theorem dX7_guardBy_71 : decode cX7_guardBy 71 = .ok (.aload_n 0, 1) := by decide +kernel
theorem dX7_guardBy_72 : decode cX7_guardBy 72 = .ok (.getfield 22, 3) := by decide +kernel
theorem dX7_guardBy_75 : decode cX7_guardBy 75 = .ok (.bipush 50, 2) := by decide +kernel
theorem dX7_guardBy_77 : decode cX7_guardBy 77 = .ok (.if_icmp .lt 14, 3) := by decide +kernel
theorem dX7_guardBy_80 : decode cX7_guardBy 80 = .ok (.iconst 2, 1) := by decide +kernel
theorem dX7_guardBy_81 : decode cX7_guardBy 81 = .ok (.iload_n 1, 1) := by decide +kernel
theorem dX7_guardBy_82 : decode cX7_guardBy 82 = .ok (.aload_n 0, 1) := by decide +kernel
theorem dX7_guardBy_83 : decode cX7_guardBy 83 = .ok (.getfield 19, 3) := by decide +kernel
theorem dX7_guardBy_86 : decode cX7_guardBy 86 = .ok (.iadd, 1) := by decide +kernel
theorem dX7_guardBy_87 : decode cX7_guardBy 87 = .ok (.imul, 1) := by decide +kernel
theorem dX7_guardBy_88 : decode cX7_guardBy 88 = .ok (.goto 9, 3) := by decide +kernel
theorem dX7_guardBy_91 : decode cX7_guardBy 91 = .ok (.iload_n 1, 1) := by decide +kernel
theorem dX7_guardBy_92 : decode cX7_guardBy 92 = .ok (.aload_n 0, 1) := by decide +kernel
theorem dX7_guardBy_93 : decode cX7_guardBy 93 = .ok (.getfield 19, 3) := by decide +kernel
theorem dX7_guardBy_96 : decode cX7_guardBy 96 = .ok (.iadd, 1) := by decide +kernel
theorem dX7_guardBy_97 : decode cX7_guardBy 97 = .ok (.ireturn, 1) := by decide +kernel
theorem dX7_guardBy_98 : decode cX7_guardBy 98 = .ok (.iload_n 1, 1) := by decide +kernel
theorem dX7_guardBy_99 : decode cX7_guardBy 99 = .ok (.iconst 2, 1) := by decide +kernel
theorem dX7_guardBy_100 : decode cX7_guardBy 100 = .ok (.idiv, 1) := by decide +kernel
theorem dX7_guardBy_101 : decode cX7_guardBy 101 = .ok (.bipush 10, 2) := by decide +kernel
theorem dX7_guardBy_103 : decode cX7_guardBy 103 = .ok (.iadd, 1) := by decide +kernel
theorem dX7_guardBy_104 : decode cX7_guardBy 104 = .ok (.ireturn, 1) := by decide +kernel
theorem dX7_guardBy_105 : decode cX7_guardBy 105 = .ok (.iload_n 1, 1) := by decide +kernel
theorem dX7_guardBy_106 : decode cX7_guardBy 106 = .ok (.iload_n 3, 1) := by decide +kernel
theorem dX7_guardBy_107 : decode cX7_guardBy 107 = .ok (.iadd, 1) := by decide +kernel
theorem dX7_guardBy_108 : decode cX7_guardBy 108 = .ok (.aload_n 0, 1) := by decide +kernel
theorem dX7_guardBy_109 : decode cX7_guardBy 109 = .ok (.getfield 9, 3) := by decide +kernel
theorem dX7_guardBy_112 : decode cX7_guardBy 112 = .ok (.iload_n 2, 1) := by decide +kernel
theorem dX7_guardBy_113 : decode cX7_guardBy 113 = .ok (.iconst 3, 1) := by decide +kernel
theorem dX7_guardBy_114 : decode cX7_guardBy 114 = .ok (.iand, 1) := by decide +kernel
theorem dX7_guardBy_115 : decode cX7_guardBy 115 = .ok (.iaload, 1) := by decide +kernel
theorem dX7_guardBy_116 : decode cX7_guardBy 116 = .ok (.iadd, 1) := by decide +kernel
theorem dX7_guardBy_117 : decode cX7_guardBy 117 = .ok (.iconst 4, 1) := by decide +kernel
theorem dX7_guardBy_118 : decode cX7_guardBy 118 = .ok (.isub, 1) := by decide +kernel
theorem dX7_guardBy_119 : decode cX7_guardBy 119 = .ok (.ireturn, 1) := by decide +kernel
theorem dX7_guardBy_120 : decode cX7_guardBy 120 = .ok (.iload_n 1, 1) := by decide +kernel
theorem dX7_guardBy_121 : decode cX7_guardBy 121 = .ok (.ireturn, 1) := by decide +kernel
theorem dX8_init_0 : decode cX8_init 0 = .ok (.aload_n 0, 1) := by decide +kernel
theorem dX8_init_1 : decode cX8_init 1 = .ok (.invokespecial 3, 3) := by decide +kernel
theorem dX8_init_4 : decode cX8_init 4 = .ok (.aload_n 0, 1) := by decide +kernel
theorem dX8_init_5 : decode cX8_init 5 = .ok (.bipush 6, 2) := by decide +kernel
theorem dX8_init_7 : decode cX8_init 7 = .ok (.anewarray 9, 3) := by decide +kernel
theorem dX8_init_10 : decode cX8_init 10 = .ok (.putfield 11, 3) := by decide +kernel
theorem dX8_init_13 : decode cX8_init 13 = .ok (.aload_n 0, 1) := by decide +kernel
theorem dX8_init_14 : decode cX8_init 14 = .ok (.bipush 8, 2) := by decide +kernel
theorem dX8_init_16 : decode cX8_init 16 = .ok (.anewarray 17, 3) := by decide +kernel
theorem dX8_init_19 : decode cX8_init 19 = .ok (.putfield 19, 3) := by decide +kernel
theorem dX8_init_22 : decode cX8_init 22 = .ok (.aload_n 0, 1) := by decide +kernel
theorem dX8_init_23 : decode cX8_init 23 = .ok (.iconst 0, 1) := by decide +kernel
theorem dX8_init_24 : decode cX8_init 24 = .ok (.putfield 23, 3) := by decide +kernel
theorem dX8_init_27 : decode cX8_init 27 = .ok (.aload_n 0, 1) := by decide +kernel
theorem dX8_init_28 : decode cX8_init 28 = .ok (.iconst 0, 1) := by decide +kernel
theorem dX8_init_29 : decode cX8_init 29 = .ok (.putfield 27, 3) := by decide +kernel
theorem dX8_init_32 : decode cX8_init 32 = .ok (.aload_n 0, 1) := by decide +kernel
theorem dX8_init_33 : decode cX8_init 33 = .ok (.iconst 0, 1) := by decide +kernel
theorem dX8_init_34 : decode cX8_init 34 = .ok (.putfield 30, 3) := by decide +kernel
theorem dX8_init_37 : decode cX8_init 37 = .ok (.aload_n 0, 1) := by decide +kernel
theorem dX8_init_38 : decode cX8_init 38 = .ok (.new 33, 3) := by decide +kernel
theorem dX8_init_41 : decode cX8_init 41 = .ok (.dup, 1) := by decide +kernel
theorem dX8_init_42 : decode cX8_init 42 = .ok (.invokespecial 35, 3) := by decide +kernel
theorem dX8_init_45 : decode cX8_init 45 = .ok (.putfield 36, 3) := by decide +kernel
theorem dX8_init_48 : decode cX8_init 48 = .ok (.iconst 0, 1) := by decide +kernel
theorem dX8_init_49 : decode cX8_init 49 = .ok (.istore_n 1, 1) := by decide +kernel
theorem dX8_init_50 : decode cX8_init 50 = .ok (.iload_n 1, 1) := by decide +kernel
theorem dX8_init_51 : decode cX8_init 51 = .ok (.aload_n 0, 1) := by decide +kernel
theorem dX8_init_52 : decode cX8_init 52 = .ok (.getfield 11, 3) := by decide +kernel
theorem dX8_init_55 : decode cX8_init 55 = .ok (.arraylength, 1) := by decide +kernel
theorem dX8_init_56 : decode cX8_init 56 = .ok (.if_icmp .ge 23, 3) := by decide +kernel
theorem dX8_init_59 : decode cX8_init 59 = .ok (.aload_n 0, 1) := by decide +kernel
theorem dX8_init_60 : decode cX8_init 60 = .ok (.getfield 11, 3) := by decide +kernel
theorem dX8_init_63 : decode cX8_init 63 = .ok (.iload_n 1, 1) := by decide +kernel
theorem dX8_init_64 : decode cX8_init 64 = .ok (.new 9, 3) := by decide +kernel
theorem dX8_init_67 : decode cX8_init 67 = .ok (.dup, 1) := by decide +kernel
theorem dX8_init_68 : decode cX8_init 68 = .ok (.iload_n 1, 1) := by decide +kernel
theorem dX8_init_69 : decode cX8_init 69 = .ok (.invokespecial 40, 3) := by decide +kernel
theorem dX8_init_72 : decode cX8_init 72 = .ok (.aastore, 1) := by decide +kernel
theorem dX8_init_73 : decode cX8_init 73 = .ok (.iinc 1 1, 3) := by decide +kernel
theorem dX8_init_76 : decode cX8_init 76 = .ok (.goto (-26), 3) := by decide +kernel
theorem dX8_init_79 : decode cX8_init 79 = .ok (.iconst 0, 1) := by decide +kernel
theorem dX8_init_80 : decode cX8_init 80 = .ok (.istore_n 1, 1) := by decide +kernel
theorem dX8_init_81 : decode cX8_init 81 = .ok (.iload_n 1, 1) := by decide +kernel
theorem dX8_init_82 : decode cX8_init 82 = .ok (.aload_n 0, 1) := by decide +kernel
theorem dX8_init_83 : decode cX8_init 83 = .ok (.getfield 19, 3) := by decide +kernel
theorem dX8_init_86 : decode cX8_init 86 = .ok (.arraylength, 1) := by decide +kernel
theorem dX8_init_87 : decode cX8_init 87 = .ok (.if_icmp .ge 22, 3) := by decide +kernel
theorem dX8_init_90 : decode cX8_init 90 = .ok (.aload_n 0, 1) := by decide +kernel
theorem dX8_init_91 : decode cX8_init 91 = .ok (.getfield 19, 3) := by decide +kernel
theorem dX8_init_94 : decode cX8_init 94 = .ok (.iload_n 1, 1) := by decide +kernel
theorem dX8_init_95 : decode cX8_init 95 = .ok (.new 17, 3) := by decide +kernel
theorem dX8_init_98 : decode cX8_init 98 = .ok (.dup, 1) := by decide +kernel
theorem dX8_init_99 : decode cX8_init 99 = .ok (.invokespecial 43, 3) := by decide +kernel
theorem dX8_init_102 : decode cX8_init 102 = .ok (.aastore, 1) := by decide +kernel
theorem dX8_init_103 : decode cX8_init 103 = .ok (.iinc 1 1, 3) := by decide +kernel
theorem dX8_init_106 : decode cX8_init 106 = .ok (.goto (-25), 3) := by decide +kernel
theorem dX8_init_109 : decode cX8_init 109 = .ok (.return_, 1) := by decide +kernel
theorem dX8_become_0 : decode cX8_become 0 = .ok (.aload_n 0, 1) := by decide +kernel
theorem dX8_become_1 : decode cX8_become 1 = .ok (.aload_n 1, 1) := by decide +kernel
theorem dX8_become_2 : decode cX8_become 2 = .ok (.getfield 23, 3) := by decide +kernel
theorem dX8_become_5 : decode cX8_become 5 = .ok (.putfield 23, 3) := by decide +kernel
theorem dX8_become_8 : decode cX8_become 8 = .ok (.aload_n 0, 1) := by decide +kernel
theorem dX8_become_9 : decode cX8_become 9 = .ok (.aload_n 1, 1) := by decide +kernel
theorem dX8_become_10 : decode cX8_become 10 = .ok (.getfield 27, 3) := by decide +kernel
theorem dX8_become_13 : decode cX8_become 13 = .ok (.putfield 27, 3) := by decide +kernel
theorem dX8_become_16 : decode cX8_become 16 = .ok (.aload_n 0, 1) := by decide +kernel
theorem dX8_become_17 : decode cX8_become 17 = .ok (.aload_n 1, 1) := by decide +kernel
theorem dX8_become_18 : decode cX8_become 18 = .ok (.getfield 30, 3) := by decide +kernel
theorem dX8_become_21 : decode cX8_become 21 = .ok (.putfield 30, 3) := by decide +kernel
theorem dX8_become_24 : decode cX8_become 24 = .ok (.aload_n 0, 1) := by decide +kernel
theorem dX8_become_25 : decode cX8_become 25 = .ok (.aload_n 1, 1) := by decide +kernel
theorem dX8_become_26 : decode cX8_become 26 = .ok (.getfield 36, 3) := by decide +kernel
theorem dX8_become_29 : decode cX8_become 29 = .ok (.putfield 36, 3) := by decide +kernel
theorem dX8_become_32 : decode cX8_become 32 = .ok (.iconst 0, 1) := by decide +kernel
theorem dX8_become_33 : decode cX8_become 33 = .ok (.istore_n 2, 1) := by decide +kernel
theorem dX8_become_34 : decode cX8_become 34 = .ok (.iload_n 2, 1) := by decide +kernel
theorem dX8_become_35 : decode cX8_become 35 = .ok (.aload_n 0, 1) := by decide +kernel
theorem dX8_become_36 : decode cX8_become 36 = .ok (.getfield 23, 3) := by decide +kernel
theorem dX8_become_39 : decode cX8_become 39 = .ok (.if_icmp .ge 24, 3) := by decide +kernel
theorem dX8_become_42 : decode cX8_become 42 = .ok (.aload_n 0, 1) := by decide +kernel
theorem dX8_become_43 : decode cX8_become 43 = .ok (.getfield 11, 3) := by decide +kernel
theorem dX8_become_46 : decode cX8_become 46 = .ok (.iload_n 2, 1) := by decide +kernel
theorem dX8_become_47 : decode cX8_become 47 = .ok (.aaload, 1) := by decide +kernel
theorem dX8_become_48 : decode cX8_become 48 = .ok (.aload_n 1, 1) := by decide +kernel
theorem dX8_become_49 : decode cX8_become 49 = .ok (.getfield 11, 3) := by decide +kernel
theorem dX8_become_52 : decode cX8_become 52 = .ok (.iload_n 2, 1) := by decide +kernel
theorem dX8_become_53 : decode cX8_become 53 = .ok (.aaload, 1) := by decide +kernel
theorem dX8_become_54 : decode cX8_become 54 = .ok (.invokevirtual 44, 3) := by decide +kernel
theorem dX8_become_57 : decode cX8_become 57 = .ok (.iinc 2 1, 3) := by decide +kernel
theorem dX8_become_60 : decode cX8_become 60 = .ok (.goto (-26), 3) := by decide +kernel
theorem dX8_become_63 : decode cX8_become 63 = .ok (.iconst 0, 1) := by decide +kernel
theorem dX8_become_64 : decode cX8_become 64 = .ok (.istore_n 2, 1) := by decide +kernel
theorem dX8_become_65 : decode cX8_become 65 = .ok (.iload_n 2, 1) := by decide +kernel
theorem dX8_become_66 : decode cX8_become 66 = .ok (.aload_n 0, 1) := by decide +kernel
theorem dX8_become_67 : decode cX8_become 67 = .ok (.getfield 27, 3) := by decide +kernel
theorem dX8_become_70 : decode cX8_become 70 = .ok (.if_icmp .ge 24, 3) := by decide +kernel
theorem dX8_become_73 : decode cX8_become 73 = .ok (.aload_n 0, 1) := by decide +kernel
theorem dX8_become_74 : decode cX8_become 74 = .ok (.getfield 19, 3) := by decide +kernel
theorem dX8_become_77 : decode cX8_become 77 = .ok (.iload_n 2, 1) := by decide +kernel
theorem dX8_become_78 : decode cX8_become 78 = .ok (.aaload, 1) := by decide +kernel
theorem dX8_become_79 : decode cX8_become 79 = .ok (.aload_n 1, 1) := by decide +kernel
theorem dX8_become_80 : decode cX8_become 80 = .ok (.getfield 19, 3) := by decide +kernel
theorem dX8_become_83 : decode cX8_become 83 = .ok (.iload_n 2, 1) := by decide +kernel
theorem dX8_become_84 : decode cX8_become 84 = .ok (.aaload, 1) := by decide +kernel
theorem dX8_become_85 : decode cX8_become 85 = .ok (.invokevirtual 48, 3) := by decide +kernel
theorem dX8_become_88 : decode cX8_become 88 = .ok (.iinc 2 1, 3) := by decide +kernel
theorem dX8_become_91 : decode cX8_become 91 = .ok (.goto (-26), 3) := by decide +kernel
theorem dX8_become_94 : decode cX8_become 94 = .ok (.return_, 1) := by decide +kernel
theorem dX8_becomeOne_0 : decode cX8_becomeOne 0 = .ok (.aload_n 0, 1) := by decide +kernel
theorem dX8_becomeOne_1 : decode cX8_becomeOne 1 = .ok (.aload_n 1, 1) := by decide +kernel
theorem dX8_becomeOne_2 : decode cX8_becomeOne 2 = .ok (.getfield 30, 3) := by decide +kernel
theorem dX8_becomeOne_5 : decode cX8_becomeOne 5 = .ok (.putfield 30, 3) := by decide +kernel
theorem dX8_becomeOne_8 : decode cX8_becomeOne 8 = .ok (.aload_n 0, 1) := by decide +kernel
theorem dX8_becomeOne_9 : decode cX8_becomeOne 9 = .ok (.getfield 11, 3) := by decide +kernel
theorem dX8_becomeOne_12 : decode cX8_becomeOne 12 = .ok (.iload_n 2, 1) := by decide +kernel
theorem dX8_becomeOne_13 : decode cX8_becomeOne 13 = .ok (.aaload, 1) := by decide +kernel
theorem dX8_becomeOne_14 : decode cX8_becomeOne 14 = .ok (.aload_n 1, 1) := by decide +kernel
theorem dX8_becomeOne_15 : decode cX8_becomeOne 15 = .ok (.getfield 11, 3) := by decide +kernel
theorem dX8_becomeOne_18 : decode cX8_becomeOne 18 = .ok (.iload_n 2, 1) := by decide +kernel
theorem dX8_becomeOne_19 : decode cX8_becomeOne 19 = .ok (.aaload, 1) := by decide +kernel
theorem dX8_becomeOne_20 : decode cX8_becomeOne 20 = .ok (.invokevirtual 44, 3) := by decide +kernel
theorem dX8_becomeOne_23 : decode cX8_becomeOne 23 = .ok (.return_, 1) := by decide +kernel
theorem dX8_hasWearer_0 : decode cX8_hasWearer 0 = .ok (.iload_n 1, 1) := by decide +kernel
theorem dX8_hasWearer_1 : decode cX8_hasWearer 1 = .ok (.ifCond .lt 15, 3) := by decide +kernel
theorem dX8_hasWearer_4 : decode cX8_hasWearer 4 = .ok (.iload_n 1, 1) := by decide +kernel
theorem dX8_hasWearer_5 : decode cX8_hasWearer 5 = .ok (.aload_n 0, 1) := by decide +kernel
theorem dX8_hasWearer_6 : decode cX8_hasWearer 6 = .ok (.getfield 23, 3) := by decide +kernel
theorem dX8_hasWearer_9 : decode cX8_hasWearer 9 = .ok (.if_icmp .ge 7, 3) := by decide +kernel
theorem dX8_hasWearer_12 : decode cX8_hasWearer 12 = .ok (.iconst 1, 1) := by decide +kernel
theorem dX8_hasWearer_13 : decode cX8_hasWearer 13 = .ok (.goto 4, 3) := by decide +kernel
theorem dX8_hasWearer_16 : decode cX8_hasWearer 16 = .ok (.iconst 0, 1) := by decide +kernel
theorem dX8_hasWearer_17 : decode cX8_hasWearer 17 = .ok (.ireturn, 1) := by decide +kernel
theorem dX8_hasSaying_0 : decode cX8_hasSaying 0 = .ok (.iload_n 1, 1) := by decide +kernel
theorem dX8_hasSaying_1 : decode cX8_hasSaying 1 = .ok (.ifCond .lt 15, 3) := by decide +kernel
theorem dX8_hasSaying_4 : decode cX8_hasSaying 4 = .ok (.iload_n 1, 1) := by decide +kernel
theorem dX8_hasSaying_5 : decode cX8_hasSaying 5 = .ok (.aload_n 0, 1) := by decide +kernel
theorem dX8_hasSaying_6 : decode cX8_hasSaying 6 = .ok (.getfield 27, 3) := by decide +kernel
theorem dX8_hasSaying_9 : decode cX8_hasSaying 9 = .ok (.if_icmp .ge 7, 3) := by decide +kernel
theorem dX8_hasSaying_12 : decode cX8_hasSaying 12 = .ok (.iconst 1, 1) := by decide +kernel
theorem dX8_hasSaying_13 : decode cX8_hasSaying 13 = .ok (.goto 4, 3) := by decide +kernel
theorem dX8_hasSaying_16 : decode cX8_hasSaying 16 = .ok (.iconst 0, 1) := by decide +kernel
theorem dX8_hasSaying_17 : decode cX8_hasSaying 17 = .ok (.ireturn, 1) := by decide +kernel
theorem dX8_addWearer_0 : decode cX8_addWearer 0 = .ok (.aload_n 0, 1) := by decide +kernel
theorem dX8_addWearer_1 : decode cX8_addWearer 1 = .ok (.getfield 23, 3) := by decide +kernel
theorem dX8_addWearer_4 : decode cX8_addWearer 4 = .ok (.aload_n 0, 1) := by decide +kernel
theorem dX8_addWearer_5 : decode cX8_addWearer 5 = .ok (.getfield 11, 3) := by decide +kernel
theorem dX8_addWearer_8 : decode cX8_addWearer 8 = .ok (.arraylength, 1) := by decide +kernel
theorem dX8_addWearer_9 : decode cX8_addWearer 9 = .ok (.if_icmp .lt 6, 3) := by decide +kernel
theorem dX8_addWearer_12 : decode cX8_addWearer 12 = .ok (.bipush (-4), 2) := by decide +kernel
theorem dX8_addWearer_14 : decode cX8_addWearer 14 = .ok (.ireturn, 1) := by decide +kernel
theorem dX8_addWearer_15 : decode cX8_addWearer 15 = .ok (.aload_n 0, 1) := by decide +kernel
theorem dX8_addWearer_16 : decode cX8_addWearer 16 = .ok (.getfield 11, 3) := by decide +kernel
theorem dX8_addWearer_19 : decode cX8_addWearer 19 = .ok (.aload_n 0, 1) := by decide +kernel
theorem dX8_addWearer_20 : decode cX8_addWearer 20 = .ok (.getfield 23, 3) := by decide +kernel
theorem dX8_addWearer_23 : decode cX8_addWearer 23 = .ok (.aaload, 1) := by decide +kernel
theorem dX8_addWearer_24 : decode cX8_addWearer 24 = .ok (.iload_n 1, 1) := by decide +kernel
theorem dX8_addWearer_25 : decode cX8_addWearer 25 = .ok (.iload_n 2, 1) := by decide +kernel
theorem dX8_addWearer_26 : decode cX8_addWearer 26 = .ok (.iload_n 3, 1) := by decide +kernel
theorem dX8_addWearer_27 : decode cX8_addWearer 27 = .ok (.invokevirtual 51, 3) := by decide +kernel
theorem dX8_addWearer_30 : decode cX8_addWearer 30 = .ok (.aload_n 0, 1) := by decide +kernel
theorem dX8_addWearer_31 : decode cX8_addWearer 31 = .ok (.dup, 1) := by decide +kernel
theorem dX8_addWearer_32 : decode cX8_addWearer 32 = .ok (.getfield 23, 3) := by decide +kernel
theorem dX8_addWearer_35 : decode cX8_addWearer 35 = .ok (.iconst 1, 1) := by decide +kernel
theorem dX8_addWearer_36 : decode cX8_addWearer 36 = .ok (.iadd, 1) := by decide +kernel
theorem dX8_addWearer_37 : decode cX8_addWearer 37 = .ok (.putfield 23, 3) := by decide +kernel
theorem dX8_addWearer_40 : decode cX8_addWearer 40 = .ok (.aload_n 0, 1) := by decide +kernel
theorem dX8_addWearer_41 : decode cX8_addWearer 41 = .ok (.getfield 23, 3) := by decide +kernel
theorem dX8_addWearer_44 : decode cX8_addWearer 44 = .ok (.iconst 1, 1) := by decide +kernel
theorem dX8_addWearer_45 : decode cX8_addWearer 45 = .ok (.isub, 1) := by decide +kernel
theorem dX8_addWearer_46 : decode cX8_addWearer 46 = .ok (.ireturn, 1) := by decide +kernel
theorem dX8_addSaying_0 : decode cX8_addSaying 0 = .ok (.aload_n 0, 1) := by decide +kernel
theorem dX8_addSaying_1 : decode cX8_addSaying 1 = .ok (.getfield 27, 3) := by decide +kernel
theorem dX8_addSaying_4 : decode cX8_addSaying 4 = .ok (.aload_n 0, 1) := by decide +kernel
theorem dX8_addSaying_5 : decode cX8_addSaying 5 = .ok (.getfield 19, 3) := by decide +kernel
theorem dX8_addSaying_8 : decode cX8_addSaying 8 = .ok (.arraylength, 1) := by decide +kernel
theorem dX8_addSaying_9 : decode cX8_addSaying 9 = .ok (.if_icmp .lt 6, 3) := by decide +kernel
theorem dX8_addSaying_12 : decode cX8_addSaying 12 = .ok (.bipush (-4), 2) := by decide +kernel
theorem dX8_addSaying_14 : decode cX8_addSaying 14 = .ok (.ireturn, 1) := by decide +kernel
theorem dX8_addSaying_15 : decode cX8_addSaying 15 = .ok (.aload_n 0, 1) := by decide +kernel
theorem dX8_addSaying_16 : decode cX8_addSaying 16 = .ok (.getfield 19, 3) := by decide +kernel
theorem dX8_addSaying_19 : decode cX8_addSaying 19 = .ok (.aload_n 0, 1) := by decide +kernel
theorem dX8_addSaying_20 : decode cX8_addSaying 20 = .ok (.getfield 27, 3) := by decide +kernel
theorem dX8_addSaying_23 : decode cX8_addSaying 23 = .ok (.aaload, 1) := by decide +kernel
theorem dX8_addSaying_24 : decode cX8_addSaying 24 = .ok (.astore_n 3, 1) := by decide +kernel
theorem dX8_addSaying_25 : decode cX8_addSaying 25 = .ok (.aload_n 3, 1) := by decide +kernel
theorem dX8_addSaying_26 : decode cX8_addSaying 26 = .ok (.iload_n 1, 1) := by decide +kernel
theorem dX8_addSaying_27 : decode cX8_addSaying 27 = .ok (.putfield 55, 3) := by decide +kernel
theorem dX8_addSaying_30 : decode cX8_addSaying 30 = .ok (.aload_n 3, 1) := by decide +kernel
theorem dX8_addSaying_31 : decode cX8_addSaying 31 = .ok (.iload_n 2, 1) := by decide +kernel
theorem dX8_addSaying_32 : decode cX8_addSaying 32 = .ok (.putfield 58, 3) := by decide +kernel
theorem dX8_addSaying_35 : decode cX8_addSaying 35 = .ok (.aload_n 3, 1) := by decide +kernel
theorem dX8_addSaying_36 : decode cX8_addSaying 36 = .ok (.bipush (-5), 2) := by decide +kernel
theorem dX8_addSaying_38 : decode cX8_addSaying 38 = .ok (.putfield 61, 3) := by decide +kernel
theorem dX8_addSaying_41 : decode cX8_addSaying 41 = .ok (.aload_n 0, 1) := by decide +kernel
theorem dX8_addSaying_42 : decode cX8_addSaying 42 = .ok (.dup, 1) := by decide +kernel
theorem dX8_addSaying_43 : decode cX8_addSaying 43 = .ok (.getfield 27, 3) := by decide +kernel
theorem dX8_addSaying_46 : decode cX8_addSaying 46 = .ok (.iconst 1, 1) := by decide +kernel
theorem dX8_addSaying_47 : decode cX8_addSaying 47 = .ok (.iadd, 1) := by decide +kernel
theorem dX8_addSaying_48 : decode cX8_addSaying 48 = .ok (.putfield 27, 3) := by decide +kernel
theorem dX8_addSaying_51 : decode cX8_addSaying 51 = .ok (.aload_n 0, 1) := by decide +kernel
theorem dX8_addSaying_52 : decode cX8_addSaying 52 = .ok (.getfield 27, 3) := by decide +kernel
theorem dX8_addSaying_55 : decode cX8_addSaying 55 = .ok (.iconst 1, 1) := by decide +kernel
theorem dX8_addSaying_56 : decode cX8_addSaying 56 = .ok (.isub, 1) := by decide +kernel
theorem dX8_addSaying_57 : decode cX8_addSaying 57 = .ok (.ireturn, 1) := by decide +kernel
theorem dX8_isStriking_0 : decode cX8_isStriking 0 = .ok (.aload_n 0, 1) := by decide +kernel
theorem dX8_isStriking_1 : decode cX8_isStriking 1 = .ok (.aload_n 1, 1) := by decide +kernel
theorem dX8_isStriking_2 : decode cX8_isStriking 2 = .ok (.getfield 61, 3) := by decide +kernel
theorem dX8_isStriking_5 : decode cX8_isStriking 5 = .ok (.invokevirtual 64, 3) := by decide +kernel
theorem dX8_isStriking_8 : decode cX8_isStriking 8 = .ok (.ifCond .eq 26, 3) := by decide +kernel
theorem dX8_isStriking_11 : decode cX8_isStriking 11 = .ok (.aload_n 1, 1) := by decide +kernel
theorem dX8_isStriking_12 : decode cX8_isStriking 12 = .ok (.getfield 58, 3) := by decide +kernel
theorem dX8_isStriking_15 : decode cX8_isStriking 15 = .ok (.ifCond .le 19, 3) := by decide +kernel
theorem dX8_isStriking_18 : decode cX8_isStriking 18 = .ok (.aload_n 0, 1) := by decide +kernel
theorem dX8_isStriking_19 : decode cX8_isStriking 19 = .ok (.getfield 30, 3) := by decide +kernel
theorem dX8_isStriking_22 : decode cX8_isStriking 22 = .ok (.aload_n 1, 1) := by decide +kernel
theorem dX8_isStriking_23 : decode cX8_isStriking 23 = .ok (.getfield 58, 3) := by decide +kernel
theorem dX8_isStriking_26 : decode cX8_isStriking 26 = .ok (.irem, 1) := by decide +kernel
theorem dX8_isStriking_27 : decode cX8_isStriking 27 = .ok (.ifCond .ne 7, 3) := by decide +kernel
theorem dX8_isStriking_30 : decode cX8_isStriking 30 = .ok (.iconst 1, 1) := by decide +kernel
theorem dX8_isStriking_31 : decode cX8_isStriking 31 = .ok (.goto 4, 3) := by decide +kernel
theorem dX8_isStriking_34 : decode cX8_isStriking 34 = .ok (.iconst 0, 1) := by decide +kernel
theorem dX8_isStriking_35 : decode cX8_isStriking 35 = .ok (.ireturn, 1) := by decide +kernel
theorem dX8_strikingBits_0 : decode cX8_strikingBits 0 = .ok (.iconst 0, 1) := by decide +kernel
theorem dX8_strikingBits_1 : decode cX8_strikingBits 1 = .ok (.istore_n 1, 1) := by decide +kernel
theorem dX8_strikingBits_2 : decode cX8_strikingBits 2 = .ok (.iconst 0, 1) := by decide +kernel
theorem dX8_strikingBits_3 : decode cX8_strikingBits 3 = .ok (.istore_n 2, 1) := by decide +kernel
theorem dX8_strikingBits_4 : decode cX8_strikingBits 4 = .ok (.iload_n 2, 1) := by decide +kernel
theorem dX8_strikingBits_5 : decode cX8_strikingBits 5 = .ok (.aload_n 0, 1) := by decide +kernel
theorem dX8_strikingBits_6 : decode cX8_strikingBits 6 = .ok (.getfield 27, 3) := by decide +kernel
theorem dX8_strikingBits_9 : decode cX8_strikingBits 9 = .ok (.if_icmp .ge 28, 3) := by decide +kernel
theorem dX8_strikingBits_12 : decode cX8_strikingBits 12 = .ok (.aload_n 0, 1) := by decide +kernel
theorem dX8_strikingBits_13 : decode cX8_strikingBits 13 = .ok (.aload_n 0, 1) := by decide +kernel
theorem dX8_strikingBits_14 : decode cX8_strikingBits 14 = .ok (.getfield 19, 3) := by decide +kernel
theorem dX8_strikingBits_17 : decode cX8_strikingBits 17 = .ok (.iload_n 2, 1) := by decide +kernel
theorem dX8_strikingBits_18 : decode cX8_strikingBits 18 = .ok (.aaload, 1) := by decide +kernel
theorem dX8_strikingBits_19 : decode cX8_strikingBits 19 = .ok (.invokevirtual 68, 3) := by decide +kernel
theorem dX8_strikingBits_22 : decode cX8_strikingBits 22 = .ok (.ifCond .eq 9, 3) := by decide +kernel
theorem dX8_strikingBits_25 : decode cX8_strikingBits 25 = .ok (.iload_n 1, 1) := by decide +kernel
theorem dX8_strikingBits_26 : decode cX8_strikingBits 26 = .ok (.iconst 1, 1) := by decide +kernel
theorem dX8_strikingBits_27 : decode cX8_strikingBits 27 = .ok (.iload_n 2, 1) := by decide +kernel
theorem dX8_strikingBits_28 : decode cX8_strikingBits 28 = .ok (.ishl, 1) := by decide +kernel
theorem dX8_strikingBits_29 : decode cX8_strikingBits 29 = .ok (.ior, 1) := by decide +kernel
theorem dX8_strikingBits_30 : decode cX8_strikingBits 30 = .ok (.istore_n 1, 1) := by decide +kernel
theorem dX8_strikingBits_31 : decode cX8_strikingBits 31 = .ok (.iinc 2 1, 3) := by decide +kernel
theorem dX8_strikingBits_34 : decode cX8_strikingBits 34 = .ok (.goto (-30), 3) := by decide +kernel
theorem dX8_strikingBits_37 : decode cX8_strikingBits 37 = .ok (.iload_n 1, 1) := by decide +kernel
theorem dX8_strikingBits_38 : decode cX8_strikingBits 38 = .ok (.ireturn, 1) := by decide +kernel
theorem dX8_guard_0 : decode cX8_guard 0 = .ok (.aload_n 1, 1) := by decide +kernel
theorem dX8_guard_1 : decode cX8_guard 1 = .ok (.aload_n 0, 1) := by decide +kernel
theorem dX8_guard_2 : decode cX8_guard 2 = .ok (.getfield 36, 3) := by decide +kernel
theorem dX8_guard_5 : decode cX8_guard 5 = .ok (.aload_n 1, 1) := by decide +kernel
theorem dX8_guard_6 : decode cX8_guard 6 = .ok (.iload_n 2, 1) := by decide +kernel
theorem dX8_guard_7 : decode cX8_guard 7 = .ok (.aload_n 0, 1) := by decide +kernel
theorem dX8_guard_8 : decode cX8_guard 8 = .ok (.getfield 30, 3) := by decide +kernel
theorem dX8_guard_11 : decode cX8_guard 11 = .ok (.invokevirtual 72, 3) := by decide +kernel
theorem dX8_guard_14 : decode cX8_guard 14 = .ok (.iload_n 2, 1) := by decide +kernel
theorem dX8_guard_15 : decode cX8_guard 15 = .ok (.invokevirtual 76, 3) := by decide +kernel
theorem dX8_guard_18 : decode cX8_guard 18 = .ok (.ireturn, 1) := by decide +kernel
theorem dX8_go_0 : decode cX8_go 0 = .ok (.iconst 0, 1) := by decide +kernel
theorem dX8_go_1 : decode cX8_go 1 = .ok (.istore_n 3, 1) := by decide +kernel
theorem dX8_go_2 : decode cX8_go 2 = .ok (.iload_n 3, 1) := by decide +kernel
theorem dX8_go_3 : decode cX8_go 3 = .ok (.iload_n 1, 1) := by decide +kernel
theorem dX8_go_4 : decode cX8_go 4 = .ok (.if_icmp .ge 76, 3) := by decide +kernel
theorem dX8_go_7 : decode cX8_go 7 = .ok (.iconst 0, 1) := by decide +kernel
theorem dX8_go_8 : decode cX8_go 8 = .ok (.istore 4, 2) := by decide +kernel
theorem dX8_go_10 : decode cX8_go 10 = .ok (.iload 4, 2) := by decide +kernel
theorem dX8_go_12 : decode cX8_go 12 = .ok (.aload_n 0, 1) := by decide +kernel
theorem dX8_go_13 : decode cX8_go 13 = .ok (.getfield 27, 3) := by decide +kernel
theorem dX8_go_16 : decode cX8_go 16 = .ok (.if_icmp .ge 48, 3) := by decide +kernel
theorem dX8_go_19 : decode cX8_go 19 = .ok (.iload_n 2, 1) := by decide +kernel
theorem dX8_go_20 : decode cX8_go 20 = .ok (.iconst (-1), 1) := by decide +kernel
theorem dX8_go_21 : decode cX8_go 21 = .ok (.if_icmp .eq 17, 3) := by decide +kernel
theorem dX8_go_24 : decode cX8_go 24 = .ok (.aload_n 0, 1) := by decide +kernel
theorem dX8_go_25 : decode cX8_go 25 = .ok (.getfield 19, 3) := by decide +kernel
theorem dX8_go_28 : decode cX8_go 28 = .ok (.iload 4, 2) := by decide +kernel
theorem dX8_go_30 : decode cX8_go 30 = .ok (.aaload, 1) := by decide +kernel
theorem dX8_go_31 : decode cX8_go 31 = .ok (.getfield 61, 3) := by decide +kernel
theorem dX8_go_34 : decode cX8_go 34 = .ok (.iload_n 2, 1) := by decide +kernel
theorem dX8_go_35 : decode cX8_go 35 = .ok (.if_icmp .ne 23, 3) := by decide +kernel
theorem dX8_go_38 : decode cX8_go 38 = .ok (.aload_n 0, 1) := by decide +kernel
theorem dX8_go_39 : decode cX8_go 39 = .ok (.aload_n 0, 1) := by decide +kernel
theorem dX8_go_40 : decode cX8_go 40 = .ok (.getfield 19, 3) := by decide +kernel
theorem dX8_go_43 : decode cX8_go 43 = .ok (.iload 4, 2) := by decide +kernel
theorem dX8_go_45 : decode cX8_go 45 = .ok (.aaload, 1) := by decide +kernel
theorem dX8_go_46 : decode cX8_go 46 = .ok (.invokevirtual 68, 3) := by decide +kernel
theorem dX8_go_49 : decode cX8_go 49 = .ok (.ifCond .eq 9, 3) := by decide +kernel
theorem dX8_go_52 : decode cX8_go 52 = .ok (.aload_n 0, 1) := by decide +kernel
theorem dX8_go_53 : decode cX8_go 53 = .ok (.iload 4, 2) := by decide +kernel
theorem dX8_go_55 : decode cX8_go 55 = .ok (.invokevirtual 80, 3) := by decide +kernel
theorem dX8_go_58 : decode cX8_go 58 = .ok (.iinc 4 1, 3) := by decide +kernel
theorem dX8_go_61 : decode cX8_go 61 = .ok (.goto (-51), 3) := by decide +kernel
theorem dX8_go_64 : decode cX8_go 64 = .ok (.aload_n 0, 1) := by decide +kernel
theorem dX8_go_65 : decode cX8_go 65 = .ok (.dup, 1) := by decide +kernel
theorem dX8_go_66 : decode cX8_go 66 = .ok (.getfield 30, 3) := by decide +kernel
theorem dX8_go_69 : decode cX8_go 69 = .ok (.iconst 1, 1) := by decide +kernel
theorem dX8_go_70 : decode cX8_go 70 = .ok (.iadd, 1) := by decide +kernel
theorem dX8_go_71 : decode cX8_go 71 = .ok (.putfield 30, 3) := by decide +kernel
theorem dX8_go_74 : decode cX8_go 74 = .ok (.iinc 3 1, 3) := by decide +kernel
theorem dX8_go_77 : decode cX8_go 77 = .ok (.goto (-75), 3) := by decide +kernel
theorem dX8_go_80 : decode cX8_go 80 = .ok (.return_, 1) := by decide +kernel
theorem dX8_strike_0 : decode cX8_strike 0 = .ok (.aload_n 0, 1) := by decide +kernel
theorem dX8_strike_1 : decode cX8_strike 1 = .ok (.getfield 19, 3) := by decide +kernel
theorem dX8_strike_4 : decode cX8_strike 4 = .ok (.iload_n 1, 1) := by decide +kernel
theorem dX8_strike_5 : decode cX8_strike 5 = .ok (.aaload, 1) := by decide +kernel
theorem dX8_strike_6 : decode cX8_strike 6 = .ok (.astore_n 2, 1) := by decide +kernel
theorem dX8_strike_7 : decode cX8_strike 7 = .ok (.aload_n 0, 1) := by decide +kernel
theorem dX8_strike_8 : decode cX8_strike 8 = .ok (.getfield 11, 3) := by decide +kernel
theorem dX8_strike_11 : decode cX8_strike 11 = .ok (.aload_n 2, 1) := by decide +kernel
theorem dX8_strike_12 : decode cX8_strike 12 = .ok (.getfield 61, 3) := by decide +kernel
theorem dX8_strike_15 : decode cX8_strike 15 = .ok (.aaload, 1) := by decide +kernel
theorem dX8_strike_16 : decode cX8_strike 16 = .ok (.astore_n 3, 1) := by decide +kernel
theorem dX8_strike_17 : decode cX8_strike 17 = .ok (.aload_n 2, 1) := by decide +kernel
theorem dX8_strike_18 : decode cX8_strike 18 = .ok (.getfield 55, 3) := by decide +kernel
theorem dX8_strike_21 : decode cX8_strike 21 = .ok (.aload_n 0, 1) := by decide +kernel
theorem dX8_strike_22 : decode cX8_strike 22 = .ok (.aload_n 3, 1) := by decide +kernel
theorem dX8_strike_23 : decode cX8_strike 23 = .ok (.iload_n 1, 1) := by decide +kernel
theorem dX8_strike_24 : decode cX8_strike 24 = .ok (.invokevirtual 83, 3) := by decide +kernel
theorem dX8_strike_27 : decode cX8_strike 27 = .ok (.isub, 1) := by decide +kernel
theorem dX8_strike_28 : decode cX8_strike 28 = .ok (.iconst 0, 1) := by decide +kernel
theorem dX8_strike_29 : decode cX8_strike 29 = .ok (.invokestatic 87, 3) := by decide +kernel
theorem dX8_strike_32 : decode cX8_strike 32 = .ok (.bipush 99, 2) := by decide +kernel
theorem dX8_strike_34 : decode cX8_strike 34 = .ok (.invokestatic 92, 3) := by decide +kernel
theorem dX8_strike_37 : decode cX8_strike 37 = .ok (.istore 4, 2) := by decide +kernel
theorem dX8_strike_39 : decode cX8_strike 39 = .ok (.aload_n 3, 1) := by decide +kernel
theorem dX8_strike_40 : decode cX8_strike 40 = .ok (.aload_n 3, 1) := by decide +kernel
theorem dX8_strike_41 : decode cX8_strike 41 = .ok (.getfield 95, 3) := by decide +kernel
theorem dX8_strike_44 : decode cX8_strike 44 = .ok (.iload 4, 2) := by decide +kernel
theorem dX8_strike_46 : decode cX8_strike 46 = .ok (.iadd, 1) := by decide +kernel
theorem dX8_strike_47 : decode cX8_strike 47 = .ok (.sipush 9999, 3) := by decide +kernel
theorem dX8_strike_50 : decode cX8_strike 50 = .ok (.invokestatic 92, 3) := by decide +kernel
theorem dX8_strike_53 : decode cX8_strike 53 = .ok (.putfield 95, 3) := by decide +kernel
theorem dX8_strike_56 : decode cX8_strike 56 = .ok (.aload_n 3, 1) := by decide +kernel
theorem dX8_strike_57 : decode cX8_strike 57 = .ok (.aload_n 3, 1) := by decide +kernel
theorem dX8_strike_58 : decode cX8_strike 58 = .ok (.getfield 98, 3) := by decide +kernel
theorem dX8_strike_61 : decode cX8_strike 61 = .ok (.iconst 1, 1) := by decide +kernel
theorem dX8_strike_62 : decode cX8_strike 62 = .ok (.iadd, 1) := by decide +kernel
theorem dX8_strike_63 : decode cX8_strike 63 = .ok (.sipush 9999, 3) := by decide +kernel
theorem dX8_strike_66 : decode cX8_strike 66 = .ok (.invokestatic 92, 3) := by decide +kernel
theorem dX8_strike_69 : decode cX8_strike 69 = .ok (.putfield 98, 3) := by decide +kernel
theorem dX8_strike_72 : decode cX8_strike 72 = .ok (.aload_n 3, 1) := by decide +kernel
theorem dX8_strike_73 : decode cX8_strike 73 = .ok (.aload_n 3, 1) := by decide +kernel
theorem dX8_strike_74 : decode cX8_strike 74 = .ok (.getfield 101, 3) := by decide +kernel
theorem dX8_strike_77 : decode cX8_strike 77 = .ok (.aload_n 0, 1) := by decide +kernel
theorem dX8_strike_78 : decode cX8_strike 78 = .ok (.getfield 36, 3) := by decide +kernel
theorem dX8_strike_81 : decode cX8_strike 81 = .ok (.getfield 104, 3) := by decide +kernel
theorem dX8_strike_84 : decode cX8_strike 84 = .ok (.isub, 1) := by decide +kernel
theorem dX8_strike_85 : decode cX8_strike 85 = .ok (.iconst 0, 1) := by decide +kernel
theorem dX8_strike_86 : decode cX8_strike 86 = .ok (.invokestatic 87, 3) := by decide +kernel
theorem dX8_strike_89 : decode cX8_strike 89 = .ok (.putfield 101, 3) := by decide +kernel
theorem dX8_strike_92 : decode cX8_strike 92 = .ok (.return_, 1) := by decide +kernel
theorem dX8_hurtOfAll_0 : decode cX8_hurtOfAll 0 = .ok (.iconst 0, 1) := by decide +kernel
theorem dX8_hurtOfAll_1 : decode cX8_hurtOfAll 1 = .ok (.istore_n 1, 1) := by decide +kernel
theorem dX8_hurtOfAll_2 : decode cX8_hurtOfAll 2 = .ok (.iconst 0, 1) := by decide +kernel
theorem dX8_hurtOfAll_3 : decode cX8_hurtOfAll 3 = .ok (.istore_n 2, 1) := by decide +kernel
theorem dX8_hurtOfAll_4 : decode cX8_hurtOfAll 4 = .ok (.iload_n 2, 1) := by decide +kernel
theorem dX8_hurtOfAll_5 : decode cX8_hurtOfAll 5 = .ok (.aload_n 0, 1) := by decide +kernel
theorem dX8_hurtOfAll_6 : decode cX8_hurtOfAll 6 = .ok (.getfield 23, 3) := by decide +kernel
theorem dX8_hurtOfAll_9 : decode cX8_hurtOfAll 9 = .ok (.if_icmp .ge 21, 3) := by decide +kernel
theorem dX8_hurtOfAll_12 : decode cX8_hurtOfAll 12 = .ok (.iload_n 1, 1) := by decide +kernel
theorem dX8_hurtOfAll_13 : decode cX8_hurtOfAll 13 = .ok (.aload_n 0, 1) := by decide +kernel
theorem dX8_hurtOfAll_14 : decode cX8_hurtOfAll 14 = .ok (.getfield 11, 3) := by decide +kernel
theorem dX8_hurtOfAll_17 : decode cX8_hurtOfAll 17 = .ok (.iload_n 2, 1) := by decide +kernel
theorem dX8_hurtOfAll_18 : decode cX8_hurtOfAll 18 = .ok (.aaload, 1) := by decide +kernel
theorem dX8_hurtOfAll_19 : decode cX8_hurtOfAll 19 = .ok (.getfield 95, 3) := by decide +kernel
theorem dX8_hurtOfAll_22 : decode cX8_hurtOfAll 22 = .ok (.iadd, 1) := by decide +kernel
theorem dX8_hurtOfAll_23 : decode cX8_hurtOfAll 23 = .ok (.istore_n 1, 1) := by decide +kernel
theorem dX8_hurtOfAll_24 : decode cX8_hurtOfAll 24 = .ok (.iinc 2 1, 3) := by decide +kernel
theorem dX8_hurtOfAll_27 : decode cX8_hurtOfAll 27 = .ok (.goto (-23), 3) := by decide +kernel
theorem dX8_hurtOfAll_30 : decode cX8_hurtOfAll 30 = .ok (.iload_n 1, 1) := by decide +kernel
theorem dX8_hurtOfAll_31 : decode cX8_hurtOfAll 31 = .ok (.ireturn, 1) := by decide +kernel
theorem dX8_coverOfAll_0 : decode cX8_coverOfAll 0 = .ok (.iconst 0, 1) := by decide +kernel
theorem dX8_coverOfAll_1 : decode cX8_coverOfAll 1 = .ok (.istore_n 1, 1) := by decide +kernel
theorem dX8_coverOfAll_2 : decode cX8_coverOfAll 2 = .ok (.iconst 0, 1) := by decide +kernel
theorem dX8_coverOfAll_3 : decode cX8_coverOfAll 3 = .ok (.istore_n 2, 1) := by decide +kernel
theorem dX8_coverOfAll_4 : decode cX8_coverOfAll 4 = .ok (.iload_n 2, 1) := by decide +kernel
theorem dX8_coverOfAll_5 : decode cX8_coverOfAll 5 = .ok (.aload_n 0, 1) := by decide +kernel
theorem dX8_coverOfAll_6 : decode cX8_coverOfAll 6 = .ok (.getfield 23, 3) := by decide +kernel
theorem dX8_coverOfAll_9 : decode cX8_coverOfAll 9 = .ok (.if_icmp .ge 21, 3) := by decide +kernel
theorem dX8_coverOfAll_12 : decode cX8_coverOfAll 12 = .ok (.iload_n 1, 1) := by decide +kernel
theorem dX8_coverOfAll_13 : decode cX8_coverOfAll 13 = .ok (.aload_n 0, 1) := by decide +kernel
theorem dX8_coverOfAll_14 : decode cX8_coverOfAll 14 = .ok (.getfield 11, 3) := by decide +kernel
theorem dX8_coverOfAll_17 : decode cX8_coverOfAll 17 = .ok (.iload_n 2, 1) := by decide +kernel
theorem dX8_coverOfAll_18 : decode cX8_coverOfAll 18 = .ok (.aaload, 1) := by decide +kernel
theorem dX8_coverOfAll_19 : decode cX8_coverOfAll 19 = .ok (.getfield 101, 3) := by decide +kernel
theorem dX8_coverOfAll_22 : decode cX8_coverOfAll 22 = .ok (.iadd, 1) := by decide +kernel
theorem dX8_coverOfAll_23 : decode cX8_coverOfAll 23 = .ok (.istore_n 1, 1) := by decide +kernel
theorem dX8_coverOfAll_24 : decode cX8_coverOfAll 24 = .ok (.iinc 2 1, 3) := by decide +kernel
theorem dX8_coverOfAll_27 : decode cX8_coverOfAll 27 = .ok (.goto (-23), 3) := by decide +kernel
theorem dX8_coverOfAll_30 : decode cX8_coverOfAll 30 = .ok (.iload_n 1, 1) := by decide +kernel
theorem dX8_coverOfAll_31 : decode cX8_coverOfAll 31 = .ok (.ireturn, 1) := by decide +kernel
theorem dX9_init_0 : decode cX9_init 0 = .ok (.aload_n 0, 1) := by decide +kernel
theorem dX9_init_1 : decode cX9_init 1 = .ok (.invokespecial 3, 3) := by decide +kernel
theorem dX9_init_4 : decode cX9_init 4 = .ok (.aload_n 0, 1) := by decide +kernel
theorem dX9_init_5 : decode cX9_init 5 = .ok (.bipush 6, 2) := by decide +kernel
theorem dX9_init_7 : decode cX9_init 7 = .ok (.anewarray 11, 3) := by decide +kernel
theorem dX9_init_10 : decode cX9_init 10 = .ok (.putfield 13, 3) := by decide +kernel
theorem dX9_init_13 : decode cX9_init 13 = .ok (.aload_n 0, 1) := by decide +kernel
theorem dX9_init_14 : decode cX9_init 14 = .ok (.new 17, 3) := by decide +kernel
theorem dX9_init_17 : decode cX9_init 17 = .ok (.dup, 1) := by decide +kernel
theorem dX9_init_18 : decode cX9_init 18 = .ok (.invokespecial 19, 3) := by decide +kernel
theorem dX9_init_21 : decode cX9_init 21 = .ok (.putfield 20, 3) := by decide +kernel
theorem dX9_init_24 : decode cX9_init 24 = .ok (.aload_n 0, 1) := by decide +kernel
theorem dX9_init_25 : decode cX9_init 25 = .ok (.new 24, 3) := by decide +kernel
theorem dX9_init_28 : decode cX9_init 28 = .ok (.dup, 1) := by decide +kernel
theorem dX9_init_29 : decode cX9_init 29 = .ok (.invokespecial 26, 3) := by decide +kernel
theorem dX9_init_32 : decode cX9_init 32 = .ok (.putfield 27, 3) := by decide +kernel
theorem dX9_init_35 : decode cX9_init 35 = .ok (.aload_n 0, 1) := by decide +kernel
theorem dX9_init_36 : decode cX9_init 36 = .ok (.new 24, 3) := by decide +kernel
theorem dX9_init_39 : decode cX9_init 39 = .ok (.dup, 1) := by decide +kernel
theorem dX9_init_40 : decode cX9_init 40 = .ok (.invokespecial 26, 3) := by decide +kernel
theorem dX9_init_43 : decode cX9_init 43 = .ok (.putfield 31, 3) := by decide +kernel
theorem dX9_init_46 : decode cX9_init 46 = .ok (.aload_n 0, 1) := by decide +kernel
theorem dX9_init_47 : decode cX9_init 47 = .ok (.new 24, 3) := by decide +kernel
theorem dX9_init_50 : decode cX9_init 50 = .ok (.dup, 1) := by decide +kernel
theorem dX9_init_51 : decode cX9_init 51 = .ok (.invokespecial 26, 3) := by decide +kernel
theorem dX9_init_54 : decode cX9_init 54 = .ok (.putfield 34, 3) := by decide +kernel
theorem dX9_init_57 : decode cX9_init 57 = .ok (.aload_n 0, 1) := by decide +kernel
theorem dX9_init_58 : decode cX9_init 58 = .ok (.new 37, 3) := by decide +kernel
theorem dX9_init_61 : decode cX9_init 61 = .ok (.dup, 1) := by decide +kernel
theorem dX9_init_62 : decode cX9_init 62 = .ok (.invokespecial 39, 3) := by decide +kernel
theorem dX9_init_65 : decode cX9_init 65 = .ok (.putfield 40, 3) := by decide +kernel
theorem dX9_init_68 : decode cX9_init 68 = .ok (.aload_n 0, 1) := by decide +kernel
theorem dX9_init_69 : decode cX9_init 69 = .ok (.new 37, 3) := by decide +kernel
theorem dX9_init_72 : decode cX9_init 72 = .ok (.dup, 1) := by decide +kernel
theorem dX9_init_73 : decode cX9_init 73 = .ok (.invokespecial 39, 3) := by decide +kernel
theorem dX9_init_76 : decode cX9_init 76 = .ok (.putfield 44, 3) := by decide +kernel
theorem dX9_init_79 : decode cX9_init 79 = .ok (.aload_n 0, 1) := by decide +kernel
theorem dX9_init_80 : decode cX9_init 80 = .ok (.new 47, 3) := by decide +kernel
theorem dX9_init_83 : decode cX9_init 83 = .ok (.dup, 1) := by decide +kernel
theorem dX9_init_84 : decode cX9_init 84 = .ok (.invokespecial 49, 3) := by decide +kernel
theorem dX9_init_87 : decode cX9_init 87 = .ok (.putfield 50, 3) := by decide +kernel
theorem dX9_init_90 : decode cX9_init 90 = .ok (.aload_n 0, 1) := by decide +kernel
theorem dX9_init_91 : decode cX9_init 91 = .ok (.bipush 6, 2) := by decide +kernel
theorem dX9_init_93 : decode cX9_init 93 = .ok (.anewarray 54, 3) := by decide +kernel
theorem dX9_init_96 : decode cX9_init 96 = .ok (.putfield 56, 3) := by decide +kernel
theorem dX9_init_99 : decode cX9_init 99 = .ok (.aload_n 0, 1) := by decide +kernel
theorem dX9_init_100 : decode cX9_init 100 = .ok (.iconst 0, 1) := by decide +kernel
theorem dX9_init_101 : decode cX9_init 101 = .ok (.putfield 60, 3) := by decide +kernel
theorem dX9_init_104 : decode cX9_init 104 = .ok (.aload_n 0, 1) := by decide +kernel
theorem dX9_init_105 : decode cX9_init 105 = .ok (.iconst 0, 1) := by decide +kernel
theorem dX9_init_106 : decode cX9_init 106 = .ok (.putfield 64, 3) := by decide +kernel
theorem dX9_init_109 : decode cX9_init 109 = .ok (.iconst 0, 1) := by decide +kernel
theorem dX9_init_110 : decode cX9_init 110 = .ok (.istore_n 1, 1) := by decide +kernel
theorem dX9_init_111 : decode cX9_init 111 = .ok (.iload_n 1, 1) := by decide +kernel
theorem dX9_init_112 : decode cX9_init 112 = .ok (.aload_n 0, 1) := by decide +kernel
theorem dX9_init_113 : decode cX9_init 113 = .ok (.getfield 13, 3) := by decide +kernel
theorem dX9_init_116 : decode cX9_init 116 = .ok (.arraylength, 1) := by decide +kernel
theorem dX9_init_117 : decode cX9_init 117 = .ok (.if_icmp .ge 22, 3) := by decide +kernel
theorem dX9_init_120 : decode cX9_init 120 = .ok (.aload_n 0, 1) := by decide +kernel
theorem dX9_init_121 : decode cX9_init 121 = .ok (.getfield 13, 3) := by decide +kernel
theorem dX9_init_124 : decode cX9_init 124 = .ok (.iload_n 1, 1) := by decide +kernel
theorem dX9_init_125 : decode cX9_init 125 = .ok (.new 11, 3) := by decide +kernel
theorem dX9_init_128 : decode cX9_init 128 = .ok (.dup, 1) := by decide +kernel
theorem dX9_init_129 : decode cX9_init 129 = .ok (.invokespecial 68, 3) := by decide +kernel
theorem dX9_init_132 : decode cX9_init 132 = .ok (.aastore, 1) := by decide +kernel
theorem dX9_init_133 : decode cX9_init 133 = .ok (.iinc 1 1, 3) := by decide +kernel
theorem dX9_init_136 : decode cX9_init 136 = .ok (.goto (-25), 3) := by decide +kernel
theorem dX9_init_139 : decode cX9_init 139 = .ok (.iconst 0, 1) := by decide +kernel
theorem dX9_init_140 : decode cX9_init 140 = .ok (.istore_n 1, 1) := by decide +kernel
theorem dX9_init_141 : decode cX9_init 141 = .ok (.iload_n 1, 1) := by decide +kernel
theorem dX9_init_142 : decode cX9_init 142 = .ok (.aload_n 0, 1) := by decide +kernel
theorem dX9_init_143 : decode cX9_init 143 = .ok (.getfield 56, 3) := by decide +kernel
theorem dX9_init_146 : decode cX9_init 146 = .ok (.arraylength, 1) := by decide +kernel
theorem dX9_init_147 : decode cX9_init 147 = .ok (.if_icmp .ge 22, 3) := by decide +kernel
theorem dX9_init_150 : decode cX9_init 150 = .ok (.aload_n 0, 1) := by decide +kernel
theorem dX9_init_151 : decode cX9_init 151 = .ok (.getfield 56, 3) := by decide +kernel
theorem dX9_init_154 : decode cX9_init 154 = .ok (.iload_n 1, 1) := by decide +kernel
theorem dX9_init_155 : decode cX9_init 155 = .ok (.new 54, 3) := by decide +kernel
theorem dX9_init_158 : decode cX9_init 158 = .ok (.dup, 1) := by decide +kernel
theorem dX9_init_159 : decode cX9_init 159 = .ok (.invokespecial 69, 3) := by decide +kernel
theorem dX9_init_162 : decode cX9_init 162 = .ok (.aastore, 1) := by decide +kernel
theorem dX9_init_163 : decode cX9_init 163 = .ok (.iinc 1 1, 3) := by decide +kernel
theorem dX9_init_166 : decode cX9_init 166 = .ok (.goto (-25), 3) := by decide +kernel
theorem dX9_init_169 : decode cX9_init 169 = .ok (.return_, 1) := by decide +kernel
theorem dX9_wearer_0 : decode cX9_wearer 0 = .ok (.iload_n 1, 1) := by decide +kernel
theorem dX9_wearer_1 : decode cX9_wearer 1 = .ok (.bipush 6, 2) := by decide +kernel
theorem dX9_wearer_3 : decode cX9_wearer 3 = .ok (.invokestatic 70, 3) := by decide +kernel
theorem dX9_wearer_6 : decode cX9_wearer 6 = .ok (.ifCond .eq 5, 3) := by decide +kernel
theorem dX9_wearer_9 : decode cX9_wearer 9 = .ok (.iconst (-1), 1) := by decide +kernel
theorem dX9_wearer_10 : decode cX9_wearer 10 = .ok (.ireturn, 1) := by decide +kernel
theorem dX9_wearer_11 : decode cX9_wearer 11 = .ok (.iload_n 2, 1) := by decide +kernel
theorem dX9_wearer_12 : decode cX9_wearer 12 = .ok (.bipush 9, 2) := by decide +kernel
theorem dX9_wearer_14 : decode cX9_wearer 14 = .ok (.invokestatic 70, 3) := by decide +kernel
theorem dX9_wearer_17 : decode cX9_wearer 17 = .ok (.ifCond .ne 12, 3) := by decide +kernel
theorem dX9_wearer_20 : decode cX9_wearer 20 = .ok (.iload_n 3, 1) := by decide +kernel
theorem dX9_wearer_21 : decode cX9_wearer 21 = .ok (.bipush 99, 2) := by decide +kernel
theorem dX9_wearer_23 : decode cX9_wearer 23 = .ok (.invokestatic 70, 3) := by decide +kernel
theorem dX9_wearer_26 : decode cX9_wearer 26 = .ok (.ifCond .eq 6, 3) := by decide +kernel
theorem dX9_wearer_29 : decode cX9_wearer 29 = .ok (.bipush (-2), 2) := by decide +kernel
theorem dX9_wearer_31 : decode cX9_wearer 31 = .ok (.ireturn, 1) := by decide +kernel
theorem dX9_wearer_32 : decode cX9_wearer 32 = .ok (.aload_n 0, 1) := by decide +kernel
theorem dX9_wearer_33 : decode cX9_wearer 33 = .ok (.getfield 27, 3) := by decide +kernel
theorem dX9_wearer_36 : decode cX9_wearer 36 = .ok (.iload_n 1, 1) := by decide +kernel
theorem dX9_wearer_37 : decode cX9_wearer 37 = .ok (.iload_n 2, 1) := by decide +kernel
theorem dX9_wearer_38 : decode cX9_wearer 38 = .ok (.iload_n 3, 1) := by decide +kernel
theorem dX9_wearer_39 : decode cX9_wearer 39 = .ok (.invokevirtual 74, 3) := by decide +kernel
theorem dX9_wearer_42 : decode cX9_wearer 42 = .ok (.ireturn, 1) := by decide +kernel
theorem dX9_of_0 : decode cX9_of 0 = .ok (.aload_n 0, 1) := by decide +kernel
theorem dX9_of_1 : decode cX9_of 1 = .ok (.getfield 27, 3) := by decide +kernel
theorem dX9_of_4 : decode cX9_of 4 = .ok (.iload_n 1, 1) := by decide +kernel
theorem dX9_of_5 : decode cX9_of 5 = .ok (.invokevirtual 78, 3) := by decide +kernel
theorem dX9_of_8 : decode cX9_of 8 = .ok (.ifCond .ne 7, 3) := by decide +kernel
theorem dX9_of_11 : decode cX9_of 11 = .ok (.sipush (-10001), 3) := by decide +kernel
theorem dX9_of_14 : decode cX9_of 14 = .ok (.ireturn, 1) := by decide +kernel
theorem dX9_of_15 : decode cX9_of 15 = .ok (.aload_n 0, 1) := by decide +kernel
theorem dX9_of_16 : decode cX9_of 16 = .ok (.getfield 27, 3) := by decide +kernel
theorem dX9_of_19 : decode cX9_of 19 = .ok (.getfield 82, 3) := by decide +kernel
theorem dX9_of_22 : decode cX9_of 22 = .ok (.iload_n 1, 1) := by decide +kernel
theorem dX9_of_23 : decode cX9_of 23 = .ok (.aaload, 1) := by decide +kernel
theorem dX9_of_24 : decode cX9_of 24 = .ok (.astore_n 3, 1) := by decide +kernel
theorem dX9_of_25 : decode cX9_of 25 = .ok (.iload_n 2, 1) := by decide +kernel
theorem dX9_of_26 : decode cX9_of 26 = .ok (.tableswitch 93 0 7 #[46, 51, 56, 61, 66, 71, 77, 85], 46) := by decide +kernel
theorem dX9_of_72 : decode cX9_of 72 = .ok (.aload_n 3, 1) := by decide +kernel
theorem dX9_of_73 : decode cX9_of 73 = .ok (.getfield 86, 3) := by decide +kernel
theorem dX9_of_76 : decode cX9_of 76 = .ok (.ireturn, 1) := by decide +kernel
theorem dX9_of_77 : decode cX9_of 77 = .ok (.aload_n 3, 1) := by decide +kernel
theorem dX9_of_78 : decode cX9_of 78 = .ok (.getfield 91, 3) := by decide +kernel
theorem dX9_of_81 : decode cX9_of 81 = .ok (.ireturn, 1) := by decide +kernel
theorem dX9_of_82 : decode cX9_of 82 = .ok (.aload_n 3, 1) := by decide +kernel
theorem dX9_of_83 : decode cX9_of 83 = .ok (.getfield 94, 3) := by decide +kernel
theorem dX9_of_86 : decode cX9_of 86 = .ok (.ireturn, 1) := by decide +kernel
theorem dX9_of_87 : decode cX9_of 87 = .ok (.aload_n 3, 1) := by decide +kernel
theorem dX9_of_88 : decode cX9_of 88 = .ok (.getfield 97, 3) := by decide +kernel
theorem dX9_of_91 : decode cX9_of 91 = .ok (.ireturn, 1) := by decide +kernel
theorem dX9_of_92 : decode cX9_of 92 = .ok (.aload_n 3, 1) := by decide +kernel
theorem dX9_of_93 : decode cX9_of 93 = .ok (.getfield 100, 3) := by decide +kernel
theorem dX9_of_96 : decode cX9_of 96 = .ok (.ireturn, 1) := by decide +kernel
theorem dX9_of_97 : decode cX9_of 97 = .ok (.aload_n 0, 1) := by decide +kernel
theorem dX9_of_98 : decode cX9_of 98 = .ok (.iload_n 1, 1) := by decide +kernel
theorem dX9_of_99 : decode cX9_of 99 = .ok (.invokevirtual 103, 3) := by decide +kernel
theorem dX9_of_102 : decode cX9_of 102 = .ok (.ireturn, 1) := by decide +kernel
theorem dX9_of_103 : decode cX9_of 103 = .ok (.aload_n 0, 1) := by decide +kernel
theorem dX9_of_104 : decode cX9_of 104 = .ok (.iconst 1, 1) := by decide +kernel
theorem dX9_of_105 : decode cX9_of 105 = .ok (.iload_n 1, 1) := by decide +kernel
theorem dX9_of_106 : decode cX9_of 106 = .ok (.iconst 0, 1) := by decide +kernel
theorem dX9_of_107 : decode cX9_of 107 = .ok (.invokevirtual 107, 3) := by decide +kernel
theorem dX9_of_110 : decode cX9_of 110 = .ok (.ireturn, 1) := by decide +kernel
theorem dX9_of_111 : decode cX9_of 111 = .ok (.aload_n 0, 1) := by decide +kernel
theorem dX9_of_112 : decode cX9_of 112 = .ok (.iconst 1, 1) := by decide +kernel
theorem dX9_of_113 : decode cX9_of 113 = .ok (.iload_n 1, 1) := by decide +kernel
theorem dX9_of_114 : decode cX9_of 114 = .ok (.iconst 1, 1) := by decide +kernel
theorem dX9_of_115 : decode cX9_of 115 = .ok (.invokevirtual 107, 3) := by decide +kernel
theorem dX9_of_118 : decode cX9_of 118 = .ok (.ireturn, 1) := by decide +kernel
theorem dX9_of_119 : decode cX9_of 119 = .ok (.iload_n 2, 1) := by decide +kernel
theorem dX9_of_120 : decode cX9_of 120 = .ok (.bipush 10, 2) := by decide +kernel
theorem dX9_of_122 : decode cX9_of 122 = .ok (.isub, 1) := by decide +kernel
theorem dX9_of_123 : decode cX9_of 123 = .ok (.istore 4, 2) := by decide +kernel
theorem dX9_of_125 : decode cX9_of 125 = .ok (.aload_n 0, 1) := by decide +kernel
theorem dX9_of_126 : decode cX9_of 126 = .ok (.getfield 27, 3) := by decide +kernel
theorem dX9_of_129 : decode cX9_of 129 = .ok (.iload 4, 2) := by decide +kernel
theorem dX9_of_131 : decode cX9_of 131 = .ok (.invokevirtual 111, 3) := by decide +kernel
theorem dX9_of_134 : decode cX9_of 134 = .ok (.ifCond .eq 16, 3) := by decide +kernel
theorem dX9_of_137 : decode cX9_of 137 = .ok (.aload_n 0, 1) := by decide +kernel
theorem dX9_of_138 : decode cX9_of 138 = .ok (.getfield 27, 3) := by decide +kernel
theorem dX9_of_141 : decode cX9_of 141 = .ok (.aload_n 3, 1) := by decide +kernel
theorem dX9_of_142 : decode cX9_of 142 = .ok (.iload 4, 2) := by decide +kernel
theorem dX9_of_144 : decode cX9_of 144 = .ok (.invokevirtual 114, 3) := by decide +kernel
theorem dX9_of_147 : decode cX9_of 147 = .ok (.goto 6, 3) := by decide +kernel
theorem dX9_of_150 : decode cX9_of 150 = .ok (.sipush (-10001), 3) := by decide +kernel
theorem dX9_of_153 : decode cX9_of 153 = .ok (.ireturn, 1) := by decide +kernel
theorem dX9_saying_0 : decode cX9_saying 0 = .ok (.iload_n 1, 1) := by decide +kernel
theorem dX9_saying_1 : decode cX9_saying 1 = .ok (.bipush 60, 2) := by decide +kernel
theorem dX9_saying_3 : decode cX9_saying 3 = .ok (.invokestatic 70, 3) := by decide +kernel
theorem dX9_saying_6 : decode cX9_saying 6 = .ok (.ifCond .ne 14, 3) := by decide +kernel
theorem dX9_saying_9 : decode cX9_saying 9 = .ok (.iload_n 2, 1) := by decide +kernel
theorem dX9_saying_10 : decode cX9_saying 10 = .ok (.iconst 1, 1) := by decide +kernel
theorem dX9_saying_11 : decode cX9_saying 11 = .ok (.if_icmp .lt 9, 3) := by decide +kernel
theorem dX9_saying_14 : decode cX9_saying 14 = .ok (.iload_n 2, 1) := by decide +kernel
theorem dX9_saying_15 : decode cX9_saying 15 = .ok (.bipush 9, 2) := by decide +kernel
theorem dX9_saying_17 : decode cX9_saying 17 = .ok (.if_icmp .le 6, 3) := by decide +kernel
theorem dX9_saying_20 : decode cX9_saying 20 = .ok (.bipush (-2), 2) := by decide +kernel
theorem dX9_saying_22 : decode cX9_saying 22 = .ok (.ireturn, 1) := by decide +kernel
theorem dX9_saying_23 : decode cX9_saying 23 = .ok (.aload_n 0, 1) := by decide +kernel
theorem dX9_saying_24 : decode cX9_saying 24 = .ok (.getfield 27, 3) := by decide +kernel
theorem dX9_saying_27 : decode cX9_saying 27 = .ok (.iload_n 1, 1) := by decide +kernel
theorem dX9_saying_28 : decode cX9_saying 28 = .ok (.iload_n 2, 1) := by decide +kernel
theorem dX9_saying_29 : decode cX9_saying 29 = .ok (.invokevirtual 118, 3) := by decide +kernel
theorem dX9_saying_32 : decode cX9_saying 32 = .ok (.ireturn, 1) := by decide +kernel
theorem dX9_phrase_0 : decode cX9_phrase 0 = .ok (.aload_n 0, 1) := by decide +kernel
theorem dX9_phrase_1 : decode cX9_phrase 1 = .ok (.getfield 27, 3) := by decide +kernel
theorem dX9_phrase_4 : decode cX9_phrase 4 = .ok (.iload_n 1, 1) := by decide +kernel
theorem dX9_phrase_5 : decode cX9_phrase 5 = .ok (.invokevirtual 111, 3) := by decide +kernel
theorem dX9_phrase_8 : decode cX9_phrase 8 = .ok (.ifCond .ne 5, 3) := by decide +kernel
theorem dX9_phrase_11 : decode cX9_phrase 11 = .ok (.iconst (-1), 1) := by decide +kernel
theorem dX9_phrase_12 : decode cX9_phrase 12 = .ok (.ireturn, 1) := by decide +kernel
theorem dX9_phrase_13 : decode cX9_phrase 13 = .ok (.aload_n 0, 1) := by decide +kernel
theorem dX9_phrase_14 : decode cX9_phrase 14 = .ok (.getfield 27, 3) := by decide +kernel
theorem dX9_phrase_17 : decode cX9_phrase 17 = .ok (.getfield 122, 3) := by decide +kernel
theorem dX9_phrase_20 : decode cX9_phrase 20 = .ok (.iload_n 1, 1) := by decide +kernel
theorem dX9_phrase_21 : decode cX9_phrase 21 = .ok (.aaload, 1) := by decide +kernel
theorem dX9_phrase_22 : decode cX9_phrase 22 = .ok (.astore_n 3, 1) := by decide +kernel
theorem dX9_phrase_23 : decode cX9_phrase 23 = .ok (.iload_n 2, 1) := by decide +kernel
theorem dX9_phrase_24 : decode cX9_phrase 24 = .ok (.tableswitch 43 0 2 #[28, 33, 38], 28) := by decide +kernel
theorem dX9_phrase_52 : decode cX9_phrase 52 = .ok (.aload_n 3, 1) := by decide +kernel
theorem dX9_phrase_53 : decode cX9_phrase 53 = .ok (.getfield 126, 3) := by decide +kernel
theorem dX9_phrase_56 : decode cX9_phrase 56 = .ok (.ireturn, 1) := by decide +kernel
theorem dX9_phrase_57 : decode cX9_phrase 57 = .ok (.aload_n 3, 1) := by decide +kernel
theorem dX9_phrase_58 : decode cX9_phrase 58 = .ok (.getfield 131, 3) := by decide +kernel
theorem dX9_phrase_61 : decode cX9_phrase 61 = .ok (.ireturn, 1) := by decide +kernel
theorem dX9_phrase_62 : decode cX9_phrase 62 = .ok (.aload_n 3, 1) := by decide +kernel
theorem dX9_phrase_63 : decode cX9_phrase 63 = .ok (.getfield 134, 3) := by decide +kernel
theorem dX9_phrase_66 : decode cX9_phrase 66 = .ok (.ireturn, 1) := by decide +kernel
theorem dX9_phrase_67 : decode cX9_phrase 67 = .ok (.iconst (-1), 1) := by decide +kernel
theorem dX9_phrase_68 : decode cX9_phrase 68 = .ok (.ireturn, 1) := by decide +kernel
theorem dX9_aim_0 : decode cX9_aim 0 = .ok (.aload_n 0, 1) := by decide +kernel
theorem dX9_aim_1 : decode cX9_aim 1 = .ok (.getfield 27, 3) := by decide +kernel
theorem dX9_aim_4 : decode cX9_aim 4 = .ok (.iload_n 1, 1) := by decide +kernel
theorem dX9_aim_5 : decode cX9_aim 5 = .ok (.invokevirtual 111, 3) := by decide +kernel
theorem dX9_aim_8 : decode cX9_aim 8 = .ok (.ifCond .eq 19, 3) := by decide +kernel
theorem dX9_aim_11 : decode cX9_aim 11 = .ok (.iload_n 2, 1) := by decide +kernel
theorem dX9_aim_12 : decode cX9_aim 12 = .ok (.iconst (-1), 1) := by decide +kernel
theorem dX9_aim_13 : decode cX9_aim 13 = .ok (.if_icmp .eq 16, 3) := by decide +kernel
theorem dX9_aim_16 : decode cX9_aim 16 = .ok (.aload_n 0, 1) := by decide +kernel
theorem dX9_aim_17 : decode cX9_aim 17 = .ok (.getfield 27, 3) := by decide +kernel
theorem dX9_aim_20 : decode cX9_aim 20 = .ok (.iload_n 2, 1) := by decide +kernel
theorem dX9_aim_21 : decode cX9_aim 21 = .ok (.invokevirtual 78, 3) := by decide +kernel
theorem dX9_aim_24 : decode cX9_aim 24 = .ok (.ifCond .ne 5, 3) := by decide +kernel
theorem dX9_aim_27 : decode cX9_aim 27 = .ok (.iconst (-1), 1) := by decide +kernel
theorem dX9_aim_28 : decode cX9_aim 28 = .ok (.ireturn, 1) := by decide +kernel
theorem dX9_aim_29 : decode cX9_aim 29 = .ok (.aload_n 0, 1) := by decide +kernel
theorem dX9_aim_30 : decode cX9_aim 30 = .ok (.getfield 27, 3) := by decide +kernel
theorem dX9_aim_33 : decode cX9_aim 33 = .ok (.getfield 122, 3) := by decide +kernel
theorem dX9_aim_36 : decode cX9_aim 36 = .ok (.iload_n 1, 1) := by decide +kernel
theorem dX9_aim_37 : decode cX9_aim 37 = .ok (.aaload, 1) := by decide +kernel
theorem dX9_aim_38 : decode cX9_aim 38 = .ok (.astore_n 3, 1) := by decide +kernel
theorem dX9_aim_39 : decode cX9_aim 39 = .ok (.aload_n 3, 1) := by decide +kernel
theorem dX9_aim_40 : decode cX9_aim 40 = .ok (.getfield 134, 3) := by decide +kernel
theorem dX9_aim_43 : decode cX9_aim 43 = .ok (.istore 4, 2) := by decide +kernel
theorem dX9_aim_45 : decode cX9_aim 45 = .ok (.aload_n 3, 1) := by decide +kernel
theorem dX9_aim_46 : decode cX9_aim 46 = .ok (.iload_n 2, 1) := by decide +kernel
theorem dX9_aim_47 : decode cX9_aim 47 = .ok (.iconst (-1), 1) := by decide +kernel
theorem dX9_aim_48 : decode cX9_aim 48 = .ok (.if_icmp .ne 8, 3) := by decide +kernel
theorem dX9_aim_51 : decode cX9_aim 51 = .ok (.bipush (-5), 2) := by decide +kernel
theorem dX9_aim_53 : decode cX9_aim 53 = .ok (.goto 4, 3) := by decide +kernel
theorem dX9_aim_56 : decode cX9_aim 56 = .ok (.iload_n 2, 1) := by decide +kernel
theorem dX9_aim_57 : decode cX9_aim 57 = .ok (.putfield 134, 3) := by decide +kernel
theorem dX9_aim_60 : decode cX9_aim 60 = .ok (.iload 4, 2) := by decide +kernel
theorem dX9_aim_62 : decode cX9_aim 62 = .ok (.ireturn, 1) := by decide +kernel
theorem dX9_mend_0 : decode cX9_mend 0 = .ok (.aload_n 0, 1) := by decide +kernel
theorem dX9_mend_1 : decode cX9_mend 1 = .ok (.getfield 27, 3) := by decide +kernel
theorem dX9_mend_4 : decode cX9_mend 4 = .ok (.iload_n 1, 1) := by decide +kernel
theorem dX9_mend_5 : decode cX9_mend 5 = .ok (.invokevirtual 78, 3) := by decide +kernel
theorem dX9_mend_8 : decode cX9_mend 8 = .ok (.ifCond .ne 5, 3) := by decide +kernel
theorem dX9_mend_11 : decode cX9_mend 11 = .ok (.iconst (-1), 1) := by decide +kernel
theorem dX9_mend_12 : decode cX9_mend 12 = .ok (.ireturn, 1) := by decide +kernel
theorem dX9_mend_13 : decode cX9_mend 13 = .ok (.iload_n 2, 1) := by decide +kernel
theorem dX9_mend_14 : decode cX9_mend 14 = .ok (.bipush 99, 2) := by decide +kernel
theorem dX9_mend_16 : decode cX9_mend 16 = .ok (.invokestatic 70, 3) := by decide +kernel
theorem dX9_mend_19 : decode cX9_mend 19 = .ok (.ifCond .eq 6, 3) := by decide +kernel
theorem dX9_mend_22 : decode cX9_mend 22 = .ok (.bipush (-2), 2) := by decide +kernel
theorem dX9_mend_24 : decode cX9_mend 24 = .ok (.ireturn, 1) := by decide +kernel
theorem dX9_mend_25 : decode cX9_mend 25 = .ok (.aload_n 0, 1) := by decide +kernel
theorem dX9_mend_26 : decode cX9_mend 26 = .ok (.getfield 27, 3) := by decide +kernel
theorem dX9_mend_29 : decode cX9_mend 29 = .ok (.getfield 82, 3) := by decide +kernel
theorem dX9_mend_32 : decode cX9_mend 32 = .ok (.iload_n 1, 1) := by decide +kernel
theorem dX9_mend_33 : decode cX9_mend 33 = .ok (.aaload, 1) := by decide +kernel
theorem dX9_mend_34 : decode cX9_mend 34 = .ok (.astore_n 3, 1) := by decide +kernel
theorem dX9_mend_35 : decode cX9_mend 35 = .ok (.aload_n 3, 1) := by decide +kernel
theorem dX9_mend_36 : decode cX9_mend 36 = .ok (.getfield 94, 3) := by decide +kernel
theorem dX9_mend_39 : decode cX9_mend 39 = .ok (.istore 4, 2) := by decide +kernel
theorem dX9_mend_41 : decode cX9_mend 41 = .ok (.aload_n 3, 1) := by decide +kernel
theorem dX9_mend_42 : decode cX9_mend 42 = .ok (.iload_n 2, 1) := by decide +kernel
theorem dX9_mend_43 : decode cX9_mend 43 = .ok (.putfield 94, 3) := by decide +kernel
theorem dX9_mend_46 : decode cX9_mend 46 = .ok (.iload 4, 2) := by decide +kernel
theorem dX9_mend_48 : decode cX9_mend 48 = .ok (.ireturn, 1) := by decide +kernel
theorem dX9_row_0 : decode cX9_row 0 = .ok (.aload_n 0, 1) := by decide +kernel
theorem dX9_row_1 : decode cX9_row 1 = .ok (.getfield 27, 3) := by decide +kernel
theorem dX9_row_4 : decode cX9_row 4 = .ok (.iload_n 1, 1) := by decide +kernel
theorem dX9_row_5 : decode cX9_row 5 = .ok (.invokevirtual 78, 3) := by decide +kernel
theorem dX9_row_8 : decode cX9_row 8 = .ok (.ifCond .eq 11, 3) := by decide +kernel
theorem dX9_row_11 : decode cX9_row 11 = .ok (.iload_n 2, 1) := by decide +kernel
theorem dX9_row_12 : decode cX9_row 12 = .ok (.iconst 3, 1) := by decide +kernel
theorem dX9_row_13 : decode cX9_row 13 = .ok (.invokestatic 70, 3) := by decide +kernel
theorem dX9_row_16 : decode cX9_row 16 = .ok (.ifCond .eq 5, 3) := by decide +kernel
theorem dX9_row_19 : decode cX9_row 19 = .ok (.iconst (-1), 1) := by decide +kernel
theorem dX9_row_20 : decode cX9_row 20 = .ok (.ireturn, 1) := by decide +kernel
theorem dX9_row_21 : decode cX9_row 21 = .ok (.iload_n 3, 1) := by decide +kernel
theorem dX9_row_22 : decode cX9_row 22 = .ok (.bipush 9, 2) := by decide +kernel
theorem dX9_row_24 : decode cX9_row 24 = .ok (.invokestatic 70, 3) := by decide +kernel
theorem dX9_row_27 : decode cX9_row 27 = .ok (.ifCond .eq 6, 3) := by decide +kernel
theorem dX9_row_30 : decode cX9_row 30 = .ok (.bipush (-2), 2) := by decide +kernel
theorem dX9_row_32 : decode cX9_row 32 = .ok (.ireturn, 1) := by decide +kernel
theorem dX9_row_33 : decode cX9_row 33 = .ok (.aload_n 0, 1) := by decide +kernel
theorem dX9_row_34 : decode cX9_row 34 = .ok (.getfield 27, 3) := by decide +kernel
theorem dX9_row_37 : decode cX9_row 37 = .ok (.getfield 82, 3) := by decide +kernel
theorem dX9_row_40 : decode cX9_row 40 = .ok (.iload_n 1, 1) := by decide +kernel
theorem dX9_row_41 : decode cX9_row 41 = .ok (.aaload, 1) := by decide +kernel
theorem dX9_row_42 : decode cX9_row 42 = .ok (.astore 4, 2) := by decide +kernel
theorem dX9_row_44 : decode cX9_row 44 = .ok (.aload 4, 2) := by decide +kernel
theorem dX9_row_46 : decode cX9_row 46 = .ok (.getfield 86, 3) := by decide +kernel
theorem dX9_row_49 : decode cX9_row 49 = .ok (.bipush 6, 2) := by decide +kernel
theorem dX9_row_51 : decode cX9_row 51 = .ok (.if_icmp .eq 6, 3) := by decide +kernel
theorem dX9_row_54 : decode cX9_row 54 = .ok (.bipush (-3), 2) := by decide +kernel
theorem dX9_row_56 : decode cX9_row 56 = .ok (.ireturn, 1) := by decide +kernel
theorem dX9_row_57 : decode cX9_row 57 = .ok (.aload 4, 2) := by decide +kernel
theorem dX9_row_59 : decode cX9_row 59 = .ok (.getfield 137, 3) := by decide +kernel
theorem dX9_row_62 : decode cX9_row 62 = .ok (.iload_n 2, 1) := by decide +kernel
theorem dX9_row_63 : decode cX9_row 63 = .ok (.iaload, 1) := by decide +kernel
theorem dX9_row_64 : decode cX9_row 64 = .ok (.istore 5, 2) := by decide +kernel
theorem dX9_row_66 : decode cX9_row 66 = .ok (.aload 4, 2) := by decide +kernel
theorem dX9_row_68 : decode cX9_row 68 = .ok (.getfield 137, 3) := by decide +kernel
theorem dX9_row_71 : decode cX9_row 71 = .ok (.iload_n 2, 1) := by decide +kernel
theorem dX9_row_72 : decode cX9_row 72 = .ok (.iload_n 3, 1) := by decide +kernel
theorem dX9_row_73 : decode cX9_row 73 = .ok (.iastore, 1) := by decide +kernel
theorem dX9_row_74 : decode cX9_row 74 = .ok (.iload 5, 2) := by decide +kernel
theorem dX9_row_76 : decode cX9_row 76 = .ok (.ireturn, 1) := by decide +kernel
theorem dX9_feed_0 : decode cX9_feed 0 = .ok (.iload_n 1, 1) := by decide +kernel
theorem dX9_feed_1 : decode cX9_feed 1 = .ok (.bipush 127, 2) := by decide +kernel
theorem dX9_feed_3 : decode cX9_feed 3 = .ok (.invokestatic 70, 3) := by decide +kernel
theorem dX9_feed_6 : decode cX9_feed 6 = .ok (.ifCond .eq 6, 3) := by decide +kernel
theorem dX9_feed_9 : decode cX9_feed 9 = .ok (.bipush (-2), 2) := by decide +kernel
theorem dX9_feed_11 : decode cX9_feed 11 = .ok (.ireturn, 1) := by decide +kernel
theorem dX9_feed_12 : decode cX9_feed 12 = .ok (.aload_n 0, 1) := by decide +kernel
theorem dX9_feed_13 : decode cX9_feed 13 = .ok (.getfield 20, 3) := by decide +kernel
theorem dX9_feed_16 : decode cX9_feed 16 = .ok (.iload_n 1, 1) := by decide +kernel
theorem dX9_feed_17 : decode cX9_feed 17 = .ok (.invokevirtual 141, 3) := by decide +kernel
theorem dX9_feed_20 : decode cX9_feed 20 = .ok (.ireturn, 1) := by decide +kernel
theorem dX9_city_0 : decode cX9_city 0 = .ok (.aload_n 0, 1) := by decide +kernel
theorem dX9_city_1 : decode cX9_city 1 = .ok (.getfield 60, 3) := by decide +kernel
theorem dX9_city_4 : decode cX9_city 4 = .ok (.aload_n 0, 1) := by decide +kernel
theorem dX9_city_5 : decode cX9_city 5 = .ok (.getfield 13, 3) := by decide +kernel
theorem dX9_city_8 : decode cX9_city 8 = .ok (.arraylength, 1) := by decide +kernel
theorem dX9_city_9 : decode cX9_city 9 = .ok (.if_icmp .lt 6, 3) := by decide +kernel
theorem dX9_city_12 : decode cX9_city 12 = .ok (.bipush (-4), 2) := by decide +kernel
theorem dX9_city_14 : decode cX9_city 14 = .ok (.ireturn, 1) := by decide +kernel
theorem dX9_city_15 : decode cX9_city 15 = .ok (.aload_n 0, 1) := by decide +kernel
theorem dX9_city_16 : decode cX9_city 16 = .ok (.getfield 13, 3) := by decide +kernel
theorem dX9_city_19 : decode cX9_city 19 = .ok (.aload_n 0, 1) := by decide +kernel
theorem dX9_city_20 : decode cX9_city 20 = .ok (.getfield 60, 3) := by decide +kernel
theorem dX9_city_23 : decode cX9_city 23 = .ok (.aaload, 1) := by decide +kernel
theorem dX9_city_24 : decode cX9_city 24 = .ok (.astore_n 1, 1) := by decide +kernel
theorem dX9_city_25 : decode cX9_city 25 = .ok (.aload_n 0, 1) := by decide +kernel
theorem dX9_city_26 : decode cX9_city 26 = .ok (.getfield 20, 3) := by decide +kernel
theorem dX9_city_29 : decode cX9_city 29 = .ok (.aload_n 1, 1) := by decide +kernel
theorem dX9_city_30 : decode cX9_city 30 = .ok (.invokevirtual 144, 3) := by decide +kernel
theorem dX9_city_33 : decode cX9_city 33 = .ok (.istore_n 2, 1) := by decide +kernel
theorem dX9_city_34 : decode cX9_city 34 = .ok (.aload_n 0, 1) := by decide +kernel
theorem dX9_city_35 : decode cX9_city 35 = .ok (.getfield 20, 3) := by decide +kernel
theorem dX9_city_38 : decode cX9_city 38 = .ok (.iconst 0, 1) := by decide +kernel
theorem dX9_city_39 : decode cX9_city 39 = .ok (.putfield 148, 3) := by decide +kernel
theorem dX9_city_42 : decode cX9_city 42 = .ok (.iload_n 2, 1) := by decide +kernel
theorem dX9_city_43 : decode cX9_city 43 = .ok (.ifCond .ne 14, 3) := by decide +kernel
theorem dX9_city_46 : decode cX9_city 46 = .ok (.bipush (-10), 2) := by decide +kernel
theorem dX9_city_48 : decode cX9_city 48 = .ok (.aload_n 0, 1) := by decide +kernel
theorem dX9_city_49 : decode cX9_city 49 = .ok (.getfield 20, 3) := by decide +kernel
theorem dX9_city_52 : decode cX9_city 52 = .ok (.getfield 151, 3) := by decide +kernel
theorem dX9_city_55 : decode cX9_city 55 = .ok (.isub, 1) := by decide +kernel
theorem dX9_city_56 : decode cX9_city 56 = .ok (.ireturn, 1) := by decide +kernel
theorem dX9_city_57 : decode cX9_city 57 = .ok (.aload_n 0, 1) := by decide +kernel
theorem dX9_city_58 : decode cX9_city 58 = .ok (.getfield 27, 3) := by decide +kernel
theorem dX9_city_61 : decode cX9_city 61 = .ok (.aload_n 1, 1) := by decide +kernel
theorem dX9_city_62 : decode cX9_city 62 = .ok (.putfield 154, 3) := by decide +kernel
theorem dX9_city_65 : decode cX9_city 65 = .ok (.aload_n 0, 1) := by decide +kernel
theorem dX9_city_66 : decode cX9_city 66 = .ok (.dup, 1) := by decide +kernel
theorem dX9_city_67 : decode cX9_city 67 = .ok (.getfield 60, 3) := by decide +kernel
theorem dX9_city_70 : decode cX9_city 70 = .ok (.iconst 1, 1) := by decide +kernel
theorem dX9_city_71 : decode cX9_city 71 = .ok (.iadd, 1) := by decide +kernel
theorem dX9_city_72 : decode cX9_city 72 = .ok (.putfield 60, 3) := by decide +kernel
theorem dX9_city_75 : decode cX9_city 75 = .ok (.aload_n 0, 1) := by decide +kernel
theorem dX9_city_76 : decode cX9_city 76 = .ok (.getfield 60, 3) := by decide +kernel
theorem dX9_city_79 : decode cX9_city 79 = .ok (.iconst 1, 1) := by decide +kernel
theorem dX9_city_80 : decode cX9_city 80 = .ok (.isub, 1) := by decide +kernel
theorem dX9_city_81 : decode cX9_city 81 = .ok (.ireturn, 1) := by decide +kernel
theorem dX9_told_0 : decode cX9_told 0 = .ok (.iload_n 1, 1) := by decide +kernel
theorem dX9_told_1 : decode cX9_told 1 = .ok (.tableswitch 78 0 4 #[35, 43, 54, 62, 70], 35) := by decide +kernel
theorem dX9_told_36 : decode cX9_told 36 = .ok (.aload_n 0, 1) := by decide +kernel
theorem dX9_told_37 : decode cX9_told 37 = .ok (.getfield 27, 3) := by decide +kernel
theorem dX9_told_40 : decode cX9_told 40 = .ok (.getfield 158, 3) := by decide +kernel
theorem dX9_told_43 : decode cX9_told 43 = .ok (.ireturn, 1) := by decide +kernel
theorem dX9_told_44 : decode cX9_told 44 = .ok (.aload_n 0, 1) := by decide +kernel
theorem dX9_told_45 : decode cX9_told 45 = .ok (.getfield 27, 3) := by decide +kernel
theorem dX9_told_48 : decode cX9_told 48 = .ok (.getfield 154, 3) := by decide +kernel
theorem dX9_told_51 : decode cX9_told 51 = .ok (.getfield 161, 3) := by decide +kernel
theorem dX9_told_54 : decode cX9_told 54 = .ok (.ireturn, 1) := by decide +kernel
theorem dX9_told_55 : decode cX9_told 55 = .ok (.aload_n 0, 1) := by decide +kernel
theorem dX9_told_56 : decode cX9_told 56 = .ok (.getfield 27, 3) := by decide +kernel
theorem dX9_told_59 : decode cX9_told 59 = .ok (.invokevirtual 164, 3) := by decide +kernel
theorem dX9_told_62 : decode cX9_told 62 = .ok (.ireturn, 1) := by decide +kernel
theorem dX9_told_63 : decode cX9_told 63 = .ok (.aload_n 0, 1) := by decide +kernel
theorem dX9_told_64 : decode cX9_told 64 = .ok (.getfield 27, 3) := by decide +kernel
theorem dX9_told_67 : decode cX9_told 67 = .ok (.invokevirtual 168, 3) := by decide +kernel
theorem dX9_told_70 : decode cX9_told 70 = .ok (.ireturn, 1) := by decide +kernel
theorem dX9_told_71 : decode cX9_told 71 = .ok (.aload_n 0, 1) := by decide +kernel
theorem dX9_told_72 : decode cX9_told 72 = .ok (.getfield 27, 3) := by decide +kernel
theorem dX9_told_75 : decode cX9_told 75 = .ok (.invokevirtual 171, 3) := by decide +kernel
theorem dX9_told_78 : decode cX9_told 78 = .ok (.ireturn, 1) := by decide +kernel
theorem dX9_told_79 : decode cX9_told 79 = .ok (.iconst (-1), 1) := by decide +kernel
theorem dX9_told_80 : decode cX9_told 80 = .ok (.ireturn, 1) := by decide +kernel
theorem dX9_pass_0 : decode cX9_pass 0 = .ok (.iload_n 1, 1) := by decide +kernel
theorem dX9_pass_1 : decode cX9_pass 1 = .ok (.bipush 60, 2) := by decide +kernel
theorem dX9_pass_3 : decode cX9_pass 3 = .ok (.invokestatic 70, 3) := by decide +kernel
theorem dX9_pass_6 : decode cX9_pass 6 = .ok (.ifCond .eq 6, 3) := by decide +kernel
theorem dX9_pass_9 : decode cX9_pass 9 = .ok (.bipush (-2), 2) := by decide +kernel
theorem dX9_pass_11 : decode cX9_pass 11 = .ok (.ireturn, 1) := by decide +kernel
theorem dX9_pass_12 : decode cX9_pass 12 = .ok (.aload_n 0, 1) := by decide +kernel
theorem dX9_pass_13 : decode cX9_pass 13 = .ok (.getfield 27, 3) := by decide +kernel
theorem dX9_pass_16 : decode cX9_pass 16 = .ok (.getfield 158, 3) := by decide +kernel
theorem dX9_pass_19 : decode cX9_pass 19 = .ok (.iload_n 1, 1) := by decide +kernel
theorem dX9_pass_20 : decode cX9_pass 20 = .ok (.iadd, 1) := by decide +kernel
theorem dX9_pass_21 : decode cX9_pass 21 = .ok (.sipush 9999, 3) := by decide +kernel
theorem dX9_pass_24 : decode cX9_pass 24 = .ok (.if_icmp .le 6, 3) := by decide +kernel
theorem dX9_pass_27 : decode cX9_pass 27 = .ok (.bipush (-3), 2) := by decide +kernel
theorem dX9_pass_29 : decode cX9_pass 29 = .ok (.ireturn, 1) := by decide +kernel
theorem dX9_pass_30 : decode cX9_pass 30 = .ok (.aload_n 0, 1) := by decide +kernel
theorem dX9_pass_31 : decode cX9_pass 31 = .ok (.getfield 27, 3) := by decide +kernel
theorem dX9_pass_34 : decode cX9_pass 34 = .ok (.iload_n 1, 1) := by decide +kernel
theorem dX9_pass_35 : decode cX9_pass 35 = .ok (.iconst (-1), 1) := by decide +kernel
theorem dX9_pass_36 : decode cX9_pass 36 = .ok (.invokevirtual 174, 3) := by decide +kernel
theorem dX9_pass_39 : decode cX9_pass 39 = .ok (.aload_n 0, 1) := by decide +kernel
theorem dX9_pass_40 : decode cX9_pass 40 = .ok (.getfield 27, 3) := by decide +kernel
theorem dX9_pass_43 : decode cX9_pass 43 = .ok (.getfield 158, 3) := by decide +kernel
theorem dX9_pass_46 : decode cX9_pass 46 = .ok (.ireturn, 1) := by decide +kernel
theorem dX9_on_0 : decode cX9_on 0 = .ok (.iload_n 2, 1) := by decide +kernel
theorem dX9_on_1 : decode cX9_on 1 = .ok (.bipush 10, 2) := by decide +kernel
theorem dX9_on_3 : decode cX9_on 3 = .ok (.idiv, 1) := by decide +kernel
theorem dX9_on_4 : decode cX9_on 4 = .ok (.istore_n 3, 1) := by decide +kernel
theorem dX9_on_5 : decode cX9_on 5 = .ok (.iload_n 2, 1) := by decide +kernel
theorem dX9_on_6 : decode cX9_on 6 = .ok (.bipush 10, 2) := by decide +kernel
theorem dX9_on_8 : decode cX9_on 8 = .ok (.irem, 1) := by decide +kernel
theorem dX9_on_9 : decode cX9_on 9 = .ok (.istore 4, 2) := by decide +kernel
theorem dX9_on_11 : decode cX9_on 11 = .ok (.iload_n 2, 1) := by decide +kernel
theorem dX9_on_12 : decode cX9_on 12 = .ok (.ifCond .ne 7, 3) := by decide +kernel
theorem dX9_on_15 : decode cX9_on 15 = .ok (.iconst 1, 1) := by decide +kernel
theorem dX9_on_16 : decode cX9_on 16 = .ok (.goto 4, 3) := by decide +kernel
theorem dX9_on_19 : decode cX9_on 19 = .ok (.iconst 0, 1) := by decide +kernel
theorem dX9_on_20 : decode cX9_on 20 = .ok (.istore 5, 2) := by decide +kernel
theorem dX9_on_22 : decode cX9_on 22 = .ok (.iload 5, 2) := by decide +kernel
theorem dX9_on_24 : decode cX9_on 24 = .ok (.ifCond .ne 27, 3) := by decide +kernel
theorem dX9_on_27 : decode cX9_on 27 = .ok (.iload_n 3, 1) := by decide +kernel
theorem dX9_on_28 : decode cX9_on 28 = .ok (.iconst 1, 1) := by decide +kernel
theorem dX9_on_29 : decode cX9_on 29 = .ok (.if_icmp .lt 20, 3) := by decide +kernel
theorem dX9_on_32 : decode cX9_on 32 = .ok (.iload_n 3, 1) := by decide +kernel
theorem dX9_on_33 : decode cX9_on 33 = .ok (.iconst 3, 1) := by decide +kernel
theorem dX9_on_34 : decode cX9_on 34 = .ok (.if_icmp .gt 15, 3) := by decide +kernel
theorem dX9_on_37 : decode cX9_on 37 = .ok (.aload_n 0, 1) := by decide +kernel
theorem dX9_on_38 : decode cX9_on 38 = .ok (.getfield 27, 3) := by decide +kernel
theorem dX9_on_41 : decode cX9_on 41 = .ok (.iload 4, 2) := by decide +kernel
theorem dX9_on_43 : decode cX9_on 43 = .ok (.invokevirtual 78, 3) := by decide +kernel
theorem dX9_on_46 : decode cX9_on 46 = .ok (.ifCond .ne 5, 3) := by decide +kernel
theorem dX9_on_49 : decode cX9_on 49 = .ok (.iconst (-1), 1) := by decide +kernel
theorem dX9_on_50 : decode cX9_on 50 = .ok (.ireturn, 1) := by decide +kernel
theorem dX9_on_51 : decode cX9_on 51 = .ok (.iload_n 1, 1) := by decide +kernel
theorem dX9_on_52 : decode cX9_on 52 = .ok (.bipush 60, 2) := by decide +kernel
theorem dX9_on_54 : decode cX9_on 54 = .ok (.invokestatic 70, 3) := by decide +kernel
theorem dX9_on_57 : decode cX9_on 57 = .ok (.ifCond .eq 6, 3) := by decide +kernel
theorem dX9_on_60 : decode cX9_on 60 = .ok (.bipush (-2), 2) := by decide +kernel
theorem dX9_on_62 : decode cX9_on 62 = .ok (.ireturn, 1) := by decide +kernel
theorem dX9_on_63 : decode cX9_on 63 = .ok (.aload_n 0, 1) := by decide +kernel
theorem dX9_on_64 : decode cX9_on 64 = .ok (.getfield 31, 3) := by decide +kernel
theorem dX9_on_67 : decode cX9_on 67 = .ok (.aload_n 0, 1) := by decide +kernel
theorem dX9_on_68 : decode cX9_on 68 = .ok (.getfield 27, 3) := by decide +kernel
theorem dX9_on_71 : decode cX9_on 71 = .ok (.invokevirtual 178, 3) := by decide +kernel
theorem dX9_on_74 : decode cX9_on 74 = .ok (.aload_n 0, 1) := by decide +kernel
theorem dX9_on_75 : decode cX9_on 75 = .ok (.getfield 31, 3) := by decide +kernel
theorem dX9_on_78 : decode cX9_on 78 = .ok (.iload_n 1, 1) := by decide +kernel
theorem dX9_on_79 : decode cX9_on 79 = .ok (.iconst (-1), 1) := by decide +kernel
theorem dX9_on_80 : decode cX9_on 80 = .ok (.invokevirtual 174, 3) := by decide +kernel
theorem dX9_on_83 : decode cX9_on 83 = .ok (.iload 5, 2) := by decide +kernel
theorem dX9_on_85 : decode cX9_on 85 = .ok (.ifCond .eq 11, 3) := by decide +kernel
theorem dX9_on_88 : decode cX9_on 88 = .ok (.aload_n 0, 1) := by decide +kernel
theorem dX9_on_89 : decode cX9_on 89 = .ok (.getfield 31, 3) := by decide +kernel
theorem dX9_on_92 : decode cX9_on 92 = .ok (.invokevirtual 164, 3) := by decide +kernel
theorem dX9_on_95 : decode cX9_on 95 = .ok (.ireturn, 1) := by decide +kernel
theorem dX9_on_96 : decode cX9_on 96 = .ok (.aload_n 0, 1) := by decide +kernel
theorem dX9_on_97 : decode cX9_on 97 = .ok (.getfield 31, 3) := by decide +kernel
theorem dX9_on_100 : decode cX9_on 100 = .ok (.getfield 82, 3) := by decide +kernel
theorem dX9_on_103 : decode cX9_on 103 = .ok (.iload 4, 2) := by decide +kernel
theorem dX9_on_105 : decode cX9_on 105 = .ok (.aaload, 1) := by decide +kernel
theorem dX9_on_106 : decode cX9_on 106 = .ok (.astore 6, 2) := by decide +kernel
theorem dX9_on_108 : decode cX9_on 108 = .ok (.iload_n 3, 1) := by decide +kernel
theorem dX9_on_109 : decode cX9_on 109 = .ok (.iconst 1, 1) := by decide +kernel
theorem dX9_on_110 : decode cX9_on 110 = .ok (.if_icmp .ne 11, 3) := by decide +kernel
theorem dX9_on_113 : decode cX9_on 113 = .ok (.aload 6, 2) := by decide +kernel
theorem dX9_on_115 : decode cX9_on 115 = .ok (.getfield 94, 3) := by decide +kernel
theorem dX9_on_118 : decode cX9_on 118 = .ok (.goto 21, 3) := by decide +kernel
theorem dX9_on_121 : decode cX9_on 121 = .ok (.iload_n 3, 1) := by decide +kernel
theorem dX9_on_122 : decode cX9_on 122 = .ok (.iconst 2, 1) := by decide +kernel
theorem dX9_on_123 : decode cX9_on 123 = .ok (.if_icmp .ne 11, 3) := by decide +kernel
theorem dX9_on_126 : decode cX9_on 126 = .ok (.aload 6, 2) := by decide +kernel
theorem dX9_on_128 : decode cX9_on 128 = .ok (.getfield 97, 3) := by decide +kernel
theorem dX9_on_131 : decode cX9_on 131 = .ok (.goto 8, 3) := by decide +kernel
theorem dX9_on_134 : decode cX9_on 134 = .ok (.aload 6, 2) := by decide +kernel
theorem dX9_on_136 : decode cX9_on 136 = .ok (.getfield 100, 3) := by decide +kernel
theorem dX9_on_139 : decode cX9_on 139 = .ok (.ireturn, 1) := by decide +kernel
theorem dX9_best_0 : decode cX9_best 0 = .ok (.iload_n 2, 1) := by decide +kernel
theorem dX9_best_1 : decode cX9_best 1 = .ok (.bipush 10, 2) := by decide +kernel
theorem dX9_best_3 : decode cX9_best 3 = .ok (.isub, 1) := by decide +kernel
theorem dX9_best_4 : decode cX9_best 4 = .ok (.istore_n 3, 1) := by decide +kernel
theorem dX9_best_5 : decode cX9_best 5 = .ok (.iload_n 2, 1) := by decide +kernel
theorem dX9_best_6 : decode cX9_best 6 = .ok (.ifCond .eq 21, 3) := by decide +kernel
theorem dX9_best_9 : decode cX9_best 9 = .ok (.iload_n 2, 1) := by decide +kernel
theorem dX9_best_10 : decode cX9_best 10 = .ok (.iconst 1, 1) := by decide +kernel
theorem dX9_best_11 : decode cX9_best 11 = .ok (.if_icmp .eq 16, 3) := by decide +kernel
theorem dX9_best_14 : decode cX9_best 14 = .ok (.aload_n 0, 1) := by decide +kernel
theorem dX9_best_15 : decode cX9_best 15 = .ok (.getfield 27, 3) := by decide +kernel
theorem dX9_best_18 : decode cX9_best 18 = .ok (.iload_n 3, 1) := by decide +kernel
theorem dX9_best_19 : decode cX9_best 19 = .ok (.invokevirtual 111, 3) := by decide +kernel
theorem dX9_best_22 : decode cX9_best 22 = .ok (.ifCond .ne 5, 3) := by decide +kernel
theorem dX9_best_25 : decode cX9_best 25 = .ok (.iconst (-1), 1) := by decide +kernel
theorem dX9_best_26 : decode cX9_best 26 = .ok (.ireturn, 1) := by decide +kernel
theorem dX9_best_27 : decode cX9_best 27 = .ok (.iload_n 1, 1) := by decide +kernel
theorem dX9_best_28 : decode cX9_best 28 = .ok (.iconst 1, 1) := by decide +kernel
theorem dX9_best_29 : decode cX9_best 29 = .ok (.if_icmp .lt 18, 3) := by decide +kernel
theorem dX9_best_32 : decode cX9_best 32 = .ok (.iload_n 1, 1) := by decide +kernel
theorem dX9_best_33 : decode cX9_best 33 = .ok (.iload_n 2, 1) := by decide +kernel
theorem dX9_best_34 : decode cX9_best 34 = .ok (.ifCond .ne 8, 3) := by decide +kernel
theorem dX9_best_37 : decode cX9_best 37 = .ok (.bipush 12, 2) := by decide +kernel
theorem dX9_best_39 : decode cX9_best 39 = .ok (.goto 5, 3) := by decide +kernel
theorem dX9_best_42 : decode cX9_best 42 = .ok (.bipush 20, 2) := by decide +kernel
theorem dX9_best_44 : decode cX9_best 44 = .ok (.if_icmp .le 6, 3) := by decide +kernel
theorem dX9_best_47 : decode cX9_best 47 = .ok (.bipush (-2), 2) := by decide +kernel
theorem dX9_best_49 : decode cX9_best 49 = .ok (.ireturn, 1) := by decide +kernel
theorem dX9_best_50 : decode cX9_best 50 = .ok (.iload_n 2, 1) := by decide +kernel
theorem dX9_best_51 : decode cX9_best 51 = .ok (.ifCond .ne 9, 3) := by decide +kernel
theorem dX9_best_54 : decode cX9_best 54 = .ok (.aload_n 0, 1) := by decide +kernel
theorem dX9_best_55 : decode cX9_best 55 = .ok (.iload_n 1, 1) := by decide +kernel
theorem dX9_best_56 : decode cX9_best 56 = .ok (.invokevirtual 182, 3) := by decide +kernel
theorem dX9_best_59 : decode cX9_best 59 = .ok (.ireturn, 1) := by decide +kernel
theorem dX9_best_60 : decode cX9_best 60 = .ok (.iload_n 2, 1) := by decide +kernel
theorem dX9_best_61 : decode cX9_best 61 = .ok (.iconst 1, 1) := by decide +kernel
theorem dX9_best_62 : decode cX9_best 62 = .ok (.if_icmp .ne 11, 3) := by decide +kernel
theorem dX9_best_65 : decode cX9_best 65 = .ok (.aload_n 0, 1) := by decide +kernel
theorem dX9_best_66 : decode cX9_best 66 = .ok (.iload_n 1, 1) := by decide +kernel
theorem dX9_best_67 : decode cX9_best 67 = .ok (.invokevirtual 185, 3) := by decide +kernel
theorem dX9_best_70 : decode cX9_best 70 = .ok (.goto 9, 3) := by decide +kernel
theorem dX9_best_73 : decode cX9_best 73 = .ok (.aload_n 0, 1) := by decide +kernel
theorem dX9_best_74 : decode cX9_best 74 = .ok (.iload_n 3, 1) := by decide +kernel
theorem dX9_best_75 : decode cX9_best 75 = .ok (.iload_n 1, 1) := by decide +kernel
theorem dX9_best_76 : decode cX9_best 76 = .ok (.invokevirtual 188, 3) := by decide +kernel
theorem dX9_best_79 : decode cX9_best 79 = .ok (.ireturn, 1) := by decide +kernel
theorem dX9_see_0 : decode cX9_see 0 = .ok (.iload_n 1, 1) := by decide +kernel
theorem dX9_see_1 : decode cX9_see 1 = .ok (.iconst (-1), 1) := by decide +kernel
theorem dX9_see_2 : decode cX9_see 2 = .ok (.if_icmp .ne 14, 3) := by decide +kernel
theorem dX9_see_5 : decode cX9_see 5 = .ok (.aload_n 0, 1) := by decide +kernel
theorem dX9_see_6 : decode cX9_see 6 = .ok (.getfield 40, 3) := by decide +kernel
theorem dX9_see_9 : decode cX9_see 9 = .ok (.getfield 191, 3) := by decide +kernel
theorem dX9_see_12 : decode cX9_see 12 = .ok (.invokevirtual 195, 3) := by decide +kernel
theorem dX9_see_15 : decode cX9_see 15 = .ok (.ireturn, 1) := by decide +kernel
theorem dX9_see_16 : decode cX9_see 16 = .ok (.aload_n 0, 1) := by decide +kernel
theorem dX9_see_17 : decode cX9_see 17 = .ok (.getfield 27, 3) := by decide +kernel
theorem dX9_see_20 : decode cX9_see 20 = .ok (.iload_n 1, 1) := by decide +kernel
theorem dX9_see_21 : decode cX9_see 21 = .ok (.invokevirtual 78, 3) := by decide +kernel
theorem dX9_see_24 : decode cX9_see 24 = .ok (.ifCond .ne 5, 3) := by decide +kernel
theorem dX9_see_27 : decode cX9_see 27 = .ok (.iconst (-1), 1) := by decide +kernel
theorem dX9_see_28 : decode cX9_see 28 = .ok (.ireturn, 1) := by decide +kernel
theorem dX9_see_29 : decode cX9_see 29 = .ok (.iload_n 2, 1) := by decide +kernel
theorem dX9_see_30 : decode cX9_see 30 = .ok (.bipush 12, 2) := by decide +kernel
theorem dX9_see_32 : decode cX9_see 32 = .ok (.invokestatic 70, 3) := by decide +kernel
theorem dX9_see_35 : decode cX9_see 35 = .ok (.ifCond .ne 12, 3) := by decide +kernel
theorem dX9_see_38 : decode cX9_see 38 = .ok (.iload_n 3, 1) := by decide +kernel
theorem dX9_see_39 : decode cX9_see 39 = .ok (.bipush 99, 2) := by decide +kernel
theorem dX9_see_41 : decode cX9_see 41 = .ok (.invokestatic 70, 3) := by decide +kernel
theorem dX9_see_44 : decode cX9_see 44 = .ok (.ifCond .eq 6, 3) := by decide +kernel
theorem dX9_see_47 : decode cX9_see 47 = .ok (.bipush (-2), 2) := by decide +kernel
theorem dX9_see_49 : decode cX9_see 49 = .ok (.ireturn, 1) := by decide +kernel
theorem dX9_see_50 : decode cX9_see 50 = .ok (.aload_n 0, 1) := by decide +kernel
theorem dX9_see_51 : decode cX9_see 51 = .ok (.getfield 40, 3) := by decide +kernel
theorem dX9_see_54 : decode cX9_see 54 = .ok (.getfield 191, 3) := by decide +kernel
theorem dX9_see_57 : decode cX9_see 57 = .ok (.iload_n 1, 1) := by decide +kernel
theorem dX9_see_58 : decode cX9_see 58 = .ok (.iload_n 2, 1) := by decide +kernel
theorem dX9_see_59 : decode cX9_see 59 = .ok (.iload_n 3, 1) := by decide +kernel
theorem dX9_see_60 : decode cX9_see 60 = .ok (.invokevirtual 200, 3) := by decide +kernel
theorem dX9_see_63 : decode cX9_see 63 = .ok (.ireturn, 1) := by decide +kernel
theorem dX9_ache_0 : decode cX9_ache 0 = .ok (.iload_n 1, 1) := by decide +kernel
theorem dX9_ache_1 : decode cX9_ache 1 = .ok (.iconst (-1), 1) := by decide +kernel
theorem dX9_ache_2 : decode cX9_ache 2 = .ok (.if_icmp .ne 14, 3) := by decide +kernel
theorem dX9_ache_5 : decode cX9_ache 5 = .ok (.aload_n 0, 1) := by decide +kernel
theorem dX9_ache_6 : decode cX9_ache 6 = .ok (.getfield 40, 3) := by decide +kernel
theorem dX9_ache_9 : decode cX9_ache 9 = .ok (.getfield 203, 3) := by decide +kernel
theorem dX9_ache_12 : decode cX9_ache 12 = .ok (.invokevirtual 195, 3) := by decide +kernel
theorem dX9_ache_15 : decode cX9_ache 15 = .ok (.ireturn, 1) := by decide +kernel
theorem dX9_ache_16 : decode cX9_ache 16 = .ok (.aload_n 0, 1) := by decide +kernel
theorem dX9_ache_17 : decode cX9_ache 17 = .ok (.getfield 27, 3) := by decide +kernel
theorem dX9_ache_20 : decode cX9_ache 20 = .ok (.iload_n 1, 1) := by decide +kernel
theorem dX9_ache_21 : decode cX9_ache 21 = .ok (.invokevirtual 78, 3) := by decide +kernel
theorem dX9_ache_24 : decode cX9_ache 24 = .ok (.ifCond .ne 5, 3) := by decide +kernel
theorem dX9_ache_27 : decode cX9_ache 27 = .ok (.iconst (-1), 1) := by decide +kernel
theorem dX9_ache_28 : decode cX9_ache 28 = .ok (.ireturn, 1) := by decide +kernel
theorem dX9_ache_29 : decode cX9_ache 29 = .ok (.iload_n 2, 1) := by decide +kernel
theorem dX9_ache_30 : decode cX9_ache 30 = .ok (.bipush 12, 2) := by decide +kernel
theorem dX9_ache_32 : decode cX9_ache 32 = .ok (.invokestatic 70, 3) := by decide +kernel
theorem dX9_ache_35 : decode cX9_ache 35 = .ok (.ifCond .eq 6, 3) := by decide +kernel
theorem dX9_ache_38 : decode cX9_ache 38 = .ok (.bipush (-2), 2) := by decide +kernel
theorem dX9_ache_40 : decode cX9_ache 40 = .ok (.ireturn, 1) := by decide +kernel
theorem dX9_ache_41 : decode cX9_ache 41 = .ok (.aload_n 0, 1) := by decide +kernel
theorem dX9_ache_42 : decode cX9_ache 42 = .ok (.getfield 40, 3) := by decide +kernel
theorem dX9_ache_45 : decode cX9_ache 45 = .ok (.getfield 203, 3) := by decide +kernel
theorem dX9_ache_48 : decode cX9_ache 48 = .ok (.iload_n 1, 1) := by decide +kernel
theorem dX9_ache_49 : decode cX9_ache 49 = .ok (.iload_n 2, 1) := by decide +kernel
theorem dX9_ache_50 : decode cX9_ache 50 = .ok (.iload_n 3, 1) := by decide +kernel
theorem dX9_ache_51 : decode cX9_ache 51 = .ok (.ifCond .eq 7, 3) := by decide +kernel
theorem dX9_ache_54 : decode cX9_ache 54 = .ok (.iconst 1, 1) := by decide +kernel
theorem dX9_ache_55 : decode cX9_ache 55 = .ok (.goto 4, 3) := by decide +kernel
theorem dX9_ache_58 : decode cX9_ache 58 = .ok (.iconst 0, 1) := by decide +kernel
theorem dX9_ache_59 : decode cX9_ache 59 = .ok (.invokevirtual 200, 3) := by decide +kernel
theorem dX9_ache_62 : decode cX9_ache 62 = .ok (.ireturn, 1) := by decide +kernel
theorem dX9_can_0 : decode cX9_can 0 = .ok (.aload_n 0, 1) := by decide +kernel
theorem dX9_can_1 : decode cX9_can 1 = .ok (.getfield 27, 3) := by decide +kernel
theorem dX9_can_4 : decode cX9_can 4 = .ok (.iload_n 1, 1) := by decide +kernel
theorem dX9_can_5 : decode cX9_can 5 = .ok (.invokevirtual 78, 3) := by decide +kernel
theorem dX9_can_8 : decode cX9_can 8 = .ok (.ifCond .eq 11, 3) := by decide +kernel
theorem dX9_can_11 : decode cX9_can 11 = .ok (.iload_n 2, 1) := by decide +kernel
theorem dX9_can_12 : decode cX9_can 12 = .ok (.iconst 1, 1) := by decide +kernel
theorem dX9_can_13 : decode cX9_can 13 = .ok (.invokestatic 70, 3) := by decide +kernel
theorem dX9_can_16 : decode cX9_can 16 = .ok (.ifCond .eq 5, 3) := by decide +kernel
theorem dX9_can_19 : decode cX9_can 19 = .ok (.iconst (-1), 1) := by decide +kernel
theorem dX9_can_20 : decode cX9_can 20 = .ok (.ireturn, 1) := by decide +kernel
theorem dX9_can_21 : decode cX9_can 21 = .ok (.aload_n 0, 1) := by decide +kernel
theorem dX9_can_22 : decode cX9_can 22 = .ok (.iconst 0, 1) := by decide +kernel
theorem dX9_can_23 : decode cX9_can 23 = .ok (.iload_n 1, 1) := by decide +kernel
theorem dX9_can_24 : decode cX9_can 24 = .ok (.iload_n 2, 1) := by decide +kernel
theorem dX9_can_25 : decode cX9_can 25 = .ok (.iconst 1, 1) := by decide +kernel
theorem dX9_can_26 : decode cX9_can 26 = .ok (.if_icmp .ne 7, 3) := by decide +kernel
theorem dX9_can_29 : decode cX9_can 29 = .ok (.iconst 1, 1) := by decide +kernel
theorem dX9_can_30 : decode cX9_can 30 = .ok (.goto 4, 3) := by decide +kernel
theorem dX9_can_33 : decode cX9_can 33 = .ok (.iconst 0, 1) := by decide +kernel
theorem dX9_can_34 : decode cX9_can 34 = .ok (.invokevirtual 107, 3) := by decide +kernel
theorem dX9_can_37 : decode cX9_can 37 = .ok (.ireturn, 1) := by decide +kernel
theorem dX9_odds_0 : decode cX9_odds 0 = .ok (.aload_n 0, 1) := by decide +kernel
theorem dX9_odds_1 : decode cX9_odds 1 = .ok (.getfield 27, 3) := by decide +kernel
theorem dX9_odds_4 : decode cX9_odds 4 = .ok (.iload_n 1, 1) := by decide +kernel
theorem dX9_odds_5 : decode cX9_odds 5 = .ok (.invokevirtual 111, 3) := by decide +kernel
theorem dX9_odds_8 : decode cX9_odds 8 = .ok (.ifCond .eq 32, 3) := by decide +kernel
theorem dX9_odds_11 : decode cX9_odds 11 = .ok (.aload_n 0, 1) := by decide +kernel
theorem dX9_odds_12 : decode cX9_odds 12 = .ok (.getfield 27, 3) := by decide +kernel
theorem dX9_odds_15 : decode cX9_odds 15 = .ok (.iload_n 2, 1) := by decide +kernel
theorem dX9_odds_16 : decode cX9_odds 16 = .ok (.invokevirtual 78, 3) := by decide +kernel
theorem dX9_odds_19 : decode cX9_odds 19 = .ok (.ifCond .eq 21, 3) := by decide +kernel
theorem dX9_odds_22 : decode cX9_odds 22 = .ok (.iload_n 3, 1) := by decide +kernel
theorem dX9_odds_23 : decode cX9_odds 23 = .ok (.bipush 20, 2) := by decide +kernel
theorem dX9_odds_25 : decode cX9_odds 25 = .ok (.invokestatic 70, 3) := by decide +kernel
theorem dX9_odds_28 : decode cX9_odds 28 = .ok (.ifCond .ne 12, 3) := by decide +kernel
theorem dX9_odds_31 : decode cX9_odds 31 = .ok (.iload 4, 2) := by decide +kernel
theorem dX9_odds_33 : decode cX9_odds 33 = .ok (.iconst 1, 1) := by decide +kernel
theorem dX9_odds_34 : decode cX9_odds 34 = .ok (.invokestatic 70, 3) := by decide +kernel
theorem dX9_odds_37 : decode cX9_odds 37 = .ok (.ifCond .eq 7, 3) := by decide +kernel
theorem dX9_odds_40 : decode cX9_odds 40 = .ok (.ldc2_w 206, 3) := by decide +kernel
theorem dX9_odds_43 : decode cX9_odds 43 = .ok (.lreturn, 1) := by decide +kernel
theorem dX9_odds_44 : decode cX9_odds 44 = .ok (.iconst 0, 1) := by decide +kernel
theorem dX9_odds_45 : decode cX9_odds 45 = .ok (.istore 5, 2) := by decide +kernel
theorem dX9_odds_47 : decode cX9_odds 47 = .ok (.iconst 0, 1) := by decide +kernel
theorem dX9_odds_48 : decode cX9_odds 48 = .ok (.istore 6, 2) := by decide +kernel
theorem dX9_odds_50 : decode cX9_odds 50 = .ok (.iload 6, 2) := by decide +kernel
theorem dX9_odds_52 : decode cX9_odds 52 = .ok (.aload_n 0, 1) := by decide +kernel
theorem dX9_odds_53 : decode cX9_odds 53 = .ok (.getfield 27, 3) := by decide +kernel
theorem dX9_odds_56 : decode cX9_odds 56 = .ok (.getfield 208, 3) := by decide +kernel
theorem dX9_odds_59 : decode cX9_odds 59 = .ok (.if_icmp .ge 54, 3) := by decide +kernel
theorem dX9_odds_62 : decode cX9_odds 62 = .ok (.aload_n 0, 1) := by decide +kernel
theorem dX9_odds_63 : decode cX9_odds 63 = .ok (.getfield 31, 3) := by decide +kernel
theorem dX9_odds_66 : decode cX9_odds 66 = .ok (.aload_n 0, 1) := by decide +kernel
theorem dX9_odds_67 : decode cX9_odds 67 = .ok (.getfield 27, 3) := by decide +kernel
theorem dX9_odds_70 : decode cX9_odds 70 = .ok (.invokevirtual 178, 3) := by decide +kernel
theorem dX9_odds_73 : decode cX9_odds 73 = .ok (.aload_n 0, 1) := by decide +kernel
theorem dX9_odds_74 : decode cX9_odds 74 = .ok (.getfield 31, 3) := by decide +kernel
theorem dX9_odds_77 : decode cX9_odds 77 = .ok (.getfield 122, 3) := by decide +kernel
theorem dX9_odds_80 : decode cX9_odds 80 = .ok (.iload_n 1, 1) := by decide +kernel
theorem dX9_odds_81 : decode cX9_odds 81 = .ok (.aaload, 1) := by decide +kernel
theorem dX9_odds_82 : decode cX9_odds 82 = .ok (.iload 6, 2) := by decide +kernel
theorem dX9_odds_84 : decode cX9_odds 84 = .ok (.putfield 134, 3) := by decide +kernel
theorem dX9_odds_87 : decode cX9_odds 87 = .ok (.aload_n 0, 1) := by decide +kernel
theorem dX9_odds_88 : decode cX9_odds 88 = .ok (.getfield 31, 3) := by decide +kernel
theorem dX9_odds_91 : decode cX9_odds 91 = .ok (.iload_n 3, 1) := by decide +kernel
theorem dX9_odds_92 : decode cX9_odds 92 = .ok (.iload_n 2, 1) := by decide +kernel
theorem dX9_odds_93 : decode cX9_odds 93 = .ok (.invokevirtual 174, 3) := by decide +kernel
theorem dX9_odds_96 : decode cX9_odds 96 = .ok (.aload_n 0, 1) := by decide +kernel
theorem dX9_odds_97 : decode cX9_odds 97 = .ok (.iload_n 2, 1) := by decide +kernel
theorem dX9_odds_98 : decode cX9_odds 98 = .ok (.invokevirtual 211, 3) := by decide +kernel
theorem dX9_odds_101 : decode cX9_odds 101 = .ok (.ifCond .eq 6, 3) := by decide +kernel
theorem dX9_odds_104 : decode cX9_odds 104 = .ok (.iinc 5 1, 3) := by decide +kernel
theorem dX9_odds_107 : decode cX9_odds 107 = .ok (.iinc 6 1, 3) := by decide +kernel
theorem dX9_odds_110 : decode cX9_odds 110 = .ok (.goto (-60), 3) := by decide +kernel
theorem dX9_odds_113 : decode cX9_odds 113 = .ok (.iload 5, 2) := by decide +kernel
theorem dX9_odds_115 : decode cX9_odds 115 = .ok (.aload_n 0, 1) := by decide +kernel
theorem dX9_odds_116 : decode cX9_odds 116 = .ok (.getfield 27, 3) := by decide +kernel
theorem dX9_odds_119 : decode cX9_odds 119 = .ok (.getfield 208, 3) := by decide +kernel
theorem dX9_odds_122 : decode cX9_odds 122 = .ok (.iload 4, 2) := by decide +kernel
theorem dX9_odds_124 : decode cX9_odds 124 = .ok (.invokestatic 214, 3) := by decide +kernel
theorem dX9_odds_127 : decode cX9_odds 127 = .ok (.lreturn, 1) := by decide +kernel
theorem dX9_mean_0 : decode cX9_mean 0 = .ok (.aload_n 0, 1) := by decide +kernel
theorem dX9_mean_1 : decode cX9_mean 1 = .ok (.getfield 27, 3) := by decide +kernel
theorem dX9_mean_4 : decode cX9_mean 4 = .ok (.getfield 208, 3) := by decide +kernel
theorem dX9_mean_7 : decode cX9_mean 7 = .ok (.ifCond .eq 20, 3) := by decide +kernel
theorem dX9_mean_10 : decode cX9_mean 10 = .ok (.iload_n 1, 1) := by decide +kernel
theorem dX9_mean_11 : decode cX9_mean 11 = .ok (.bipush 60, 2) := by decide +kernel
theorem dX9_mean_13 : decode cX9_mean 13 = .ok (.invokestatic 70, 3) := by decide +kernel
theorem dX9_mean_16 : decode cX9_mean 16 = .ok (.ifCond .ne 11, 3) := by decide +kernel
theorem dX9_mean_19 : decode cX9_mean 19 = .ok (.iload_n 2, 1) := by decide +kernel
theorem dX9_mean_20 : decode cX9_mean 20 = .ok (.iconst 1, 1) := by decide +kernel
theorem dX9_mean_21 : decode cX9_mean 21 = .ok (.invokestatic 70, 3) := by decide +kernel
theorem dX9_mean_24 : decode cX9_mean 24 = .ok (.ifCond .eq 7, 3) := by decide +kernel
theorem dX9_mean_27 : decode cX9_mean 27 = .ok (.ldc2_w 206, 3) := by decide +kernel
theorem dX9_mean_30 : decode cX9_mean 30 = .ok (.lreturn, 1) := by decide +kernel
theorem dX9_mean_31 : decode cX9_mean 31 = .ok (.aload_n 0, 1) := by decide +kernel
theorem dX9_mean_32 : decode cX9_mean 32 = .ok (.getfield 31, 3) := by decide +kernel
theorem dX9_mean_35 : decode cX9_mean 35 = .ok (.aload_n 0, 1) := by decide +kernel
theorem dX9_mean_36 : decode cX9_mean 36 = .ok (.getfield 27, 3) := by decide +kernel
theorem dX9_mean_39 : decode cX9_mean 39 = .ok (.invokevirtual 178, 3) := by decide +kernel
theorem dX9_mean_42 : decode cX9_mean 42 = .ok (.aload_n 0, 1) := by decide +kernel
theorem dX9_mean_43 : decode cX9_mean 43 = .ok (.getfield 31, 3) := by decide +kernel
theorem dX9_mean_46 : decode cX9_mean 46 = .ok (.iload_n 1, 1) := by decide +kernel
theorem dX9_mean_47 : decode cX9_mean 47 = .ok (.iconst (-1), 1) := by decide +kernel
theorem dX9_mean_48 : decode cX9_mean 48 = .ok (.invokevirtual 174, 3) := by decide +kernel
theorem dX9_mean_51 : decode cX9_mean 51 = .ok (.aload_n 0, 1) := by decide +kernel
theorem dX9_mean_52 : decode cX9_mean 52 = .ok (.getfield 31, 3) := by decide +kernel
theorem dX9_mean_55 : decode cX9_mean 55 = .ok (.invokevirtual 168, 3) := by decide +kernel
theorem dX9_mean_58 : decode cX9_mean 58 = .ok (.aload_n 0, 1) := by decide +kernel
theorem dX9_mean_59 : decode cX9_mean 59 = .ok (.getfield 27, 3) := by decide +kernel
theorem dX9_mean_62 : decode cX9_mean 62 = .ok (.getfield 208, 3) := by decide +kernel
theorem dX9_mean_65 : decode cX9_mean 65 = .ok (.iload_n 2, 1) := by decide +kernel
theorem dX9_mean_66 : decode cX9_mean 66 = .ok (.invokestatic 214, 3) := by decide +kernel
theorem dX9_mean_69 : decode cX9_mean 69 = .ok (.lreturn, 1) := by decide +kernel
theorem dX9_plan_0 : decode cX9_plan 0 = .ok (.iload_n 1, 1) := by decide +kernel
theorem dX9_plan_1 : decode cX9_plan 1 = .ok (.iconst (-1), 1) := by decide +kernel
theorem dX9_plan_2 : decode cX9_plan 2 = .ok (.if_icmp .ne 14, 3) := by decide +kernel
theorem dX9_plan_5 : decode cX9_plan 5 = .ok (.aload_n 0, 1) := by decide +kernel
theorem dX9_plan_6 : decode cX9_plan 6 = .ok (.getfield 40, 3) := by decide +kernel
theorem dX9_plan_9 : decode cX9_plan 9 = .ok (.getfield 218, 3) := by decide +kernel
theorem dX9_plan_12 : decode cX9_plan 12 = .ok (.invokevirtual 195, 3) := by decide +kernel
theorem dX9_plan_15 : decode cX9_plan 15 = .ok (.ireturn, 1) := by decide +kernel
theorem dX9_plan_16 : decode cX9_plan 16 = .ok (.iload_n 1, 1) := by decide +kernel
theorem dX9_plan_17 : decode cX9_plan 17 = .ok (.iconst 1, 1) := by decide +kernel
theorem dX9_plan_18 : decode cX9_plan 18 = .ok (.if_icmp .eq 8, 3) := by decide +kernel
theorem dX9_plan_21 : decode cX9_plan 21 = .ok (.iload_n 1, 1) := by decide +kernel
theorem dX9_plan_22 : decode cX9_plan 22 = .ok (.iconst 3, 1) := by decide +kernel
theorem dX9_plan_23 : decode cX9_plan 23 = .ok (.if_icmp .ne 7, 3) := by decide +kernel
theorem dX9_plan_26 : decode cX9_plan 26 = .ok (.iconst 1, 1) := by decide +kernel
theorem dX9_plan_27 : decode cX9_plan 27 = .ok (.goto 4, 3) := by decide +kernel
theorem dX9_plan_30 : decode cX9_plan 30 = .ok (.iconst 0, 1) := by decide +kernel
theorem dX9_plan_31 : decode cX9_plan 31 = .ok (.istore_n 3, 1) := by decide +kernel
theorem dX9_plan_32 : decode cX9_plan 32 = .ok (.iload_n 1, 1) := by decide +kernel
theorem dX9_plan_33 : decode cX9_plan 33 = .ok (.iconst 3, 1) := by decide +kernel
theorem dX9_plan_34 : decode cX9_plan 34 = .ok (.invokestatic 70, 3) := by decide +kernel
theorem dX9_plan_37 : decode cX9_plan 37 = .ok (.ifCond .ne 34, 3) := by decide +kernel
theorem dX9_plan_40 : decode cX9_plan 40 = .ok (.iload_n 3, 1) := by decide +kernel
theorem dX9_plan_41 : decode cX9_plan 41 = .ok (.ifCond .eq 14, 3) := by decide +kernel
theorem dX9_plan_44 : decode cX9_plan 44 = .ok (.aload_n 0, 1) := by decide +kernel
theorem dX9_plan_45 : decode cX9_plan 45 = .ok (.getfield 27, 3) := by decide +kernel
theorem dX9_plan_48 : decode cX9_plan 48 = .ok (.iload_n 2, 1) := by decide +kernel
theorem dX9_plan_49 : decode cX9_plan 49 = .ok (.invokevirtual 78, 3) := by decide +kernel
theorem dX9_plan_52 : decode cX9_plan 52 = .ok (.ifCond .eq 19, 3) := by decide +kernel
theorem dX9_plan_55 : decode cX9_plan 55 = .ok (.iload_n 1, 1) := by decide +kernel
theorem dX9_plan_56 : decode cX9_plan 56 = .ok (.iconst 2, 1) := by decide +kernel
theorem dX9_plan_57 : decode cX9_plan 57 = .ok (.if_icmp .ne 16, 3) := by decide +kernel
theorem dX9_plan_60 : decode cX9_plan 60 = .ok (.aload_n 0, 1) := by decide +kernel
theorem dX9_plan_61 : decode cX9_plan 61 = .ok (.getfield 27, 3) := by decide +kernel
theorem dX9_plan_64 : decode cX9_plan 64 = .ok (.iload_n 2, 1) := by decide +kernel
theorem dX9_plan_65 : decode cX9_plan 65 = .ok (.invokevirtual 111, 3) := by decide +kernel
theorem dX9_plan_68 : decode cX9_plan 68 = .ok (.ifCond .ne 5, 3) := by decide +kernel
theorem dX9_plan_71 : decode cX9_plan 71 = .ok (.iconst (-1), 1) := by decide +kernel
theorem dX9_plan_72 : decode cX9_plan 72 = .ok (.ireturn, 1) := by decide +kernel
theorem dX9_plan_73 : decode cX9_plan 73 = .ok (.aload_n 0, 1) := by decide +kernel
theorem dX9_plan_74 : decode cX9_plan 74 = .ok (.getfield 40, 3) := by decide +kernel
theorem dX9_plan_77 : decode cX9_plan 77 = .ok (.getfield 218, 3) := by decide +kernel
theorem dX9_plan_80 : decode cX9_plan 80 = .ok (.iload_n 2, 1) := by decide +kernel
theorem dX9_plan_81 : decode cX9_plan 81 = .ok (.iload_n 1, 1) := by decide +kernel
theorem dX9_plan_82 : decode cX9_plan 82 = .ok (.iconst 0, 1) := by decide +kernel
theorem dX9_plan_83 : decode cX9_plan 83 = .ok (.invokevirtual 200, 3) := by decide +kernel
theorem dX9_plan_86 : decode cX9_plan 86 = .ok (.ireturn, 1) := by decide +kernel
theorem dX9_ends_0 : decode cX9_ends 0 = .ok (.iload_n 1, 1) := by decide +kernel
theorem dX9_ends_1 : decode cX9_ends 1 = .ok (.iconst 1, 1) := by decide +kernel
theorem dX9_ends_2 : decode cX9_ends 2 = .ok (.invokestatic 70, 3) := by decide +kernel
theorem dX9_ends_5 : decode cX9_ends 5 = .ok (.ifCond .eq 5, 3) := by decide +kernel
theorem dX9_ends_8 : decode cX9_ends 8 = .ok (.iconst (-1), 1) := by decide +kernel
theorem dX9_ends_9 : decode cX9_ends 9 = .ok (.ireturn, 1) := by decide +kernel
theorem dX9_ends_10 : decode cX9_ends 10 = .ok (.aload_n 0, 1) := by decide +kernel
theorem dX9_ends_11 : decode cX9_ends 11 = .ok (.getfield 31, 3) := by decide +kernel
theorem dX9_ends_14 : decode cX9_ends 14 = .ok (.aload_n 0, 1) := by decide +kernel
theorem dX9_ends_15 : decode cX9_ends 15 = .ok (.getfield 27, 3) := by decide +kernel
theorem dX9_ends_18 : decode cX9_ends 18 = .ok (.invokevirtual 178, 3) := by decide +kernel
theorem dX9_ends_21 : decode cX9_ends 21 = .ok (.iconst 0, 1) := by decide +kernel
theorem dX9_ends_22 : decode cX9_ends 22 = .ok (.istore_n 2, 1) := by decide +kernel
theorem dX9_ends_23 : decode cX9_ends 23 = .ok (.iload_n 2, 1) := by decide +kernel
theorem dX9_ends_24 : decode cX9_ends 24 = .ok (.aload_n 0, 1) := by decide +kernel
theorem dX9_ends_25 : decode cX9_ends 25 = .ok (.getfield 40, 3) := by decide +kernel
theorem dX9_ends_28 : decode cX9_ends 28 = .ok (.getfield 218, 3) := by decide +kernel
theorem dX9_ends_31 : decode cX9_ends 31 = .ok (.getfield 221, 3) := by decide +kernel
theorem dX9_ends_34 : decode cX9_ends 34 = .ok (.if_icmp .ge 37, 3) := by decide +kernel
theorem dX9_ends_37 : decode cX9_ends 37 = .ok (.aload_n 0, 1) := by decide +kernel
theorem dX9_ends_38 : decode cX9_ends 38 = .ok (.aload_n 0, 1) := by decide +kernel
theorem dX9_ends_39 : decode cX9_ends 39 = .ok (.getfield 40, 3) := by decide +kernel
theorem dX9_ends_42 : decode cX9_ends 42 = .ok (.getfield 218, 3) := by decide +kernel
theorem dX9_ends_45 : decode cX9_ends 45 = .ok (.getfield 224, 3) := by decide +kernel
theorem dX9_ends_48 : decode cX9_ends 48 = .ok (.iload_n 2, 1) := by decide +kernel
theorem dX9_ends_49 : decode cX9_ends 49 = .ok (.iaload, 1) := by decide +kernel
theorem dX9_ends_50 : decode cX9_ends 50 = .ok (.aload_n 0, 1) := by decide +kernel
theorem dX9_ends_51 : decode cX9_ends 51 = .ok (.getfield 40, 3) := by decide +kernel
theorem dX9_ends_54 : decode cX9_ends 54 = .ok (.getfield 218, 3) := by decide +kernel
theorem dX9_ends_57 : decode cX9_ends 57 = .ok (.getfield 227, 3) := by decide +kernel
theorem dX9_ends_60 : decode cX9_ends 60 = .ok (.iload_n 2, 1) := by decide +kernel
theorem dX9_ends_61 : decode cX9_ends 61 = .ok (.iaload, 1) := by decide +kernel
theorem dX9_ends_62 : decode cX9_ends 62 = .ok (.invokevirtual 230, 3) := by decide +kernel
theorem dX9_ends_65 : decode cX9_ends 65 = .ok (.iinc 2 1, 3) := by decide +kernel
theorem dX9_ends_68 : decode cX9_ends 68 = .ok (.goto (-45), 3) := by decide +kernel
theorem dX9_ends_71 : decode cX9_ends 71 = .ok (.iload_n 1, 1) := by decide +kernel
theorem dX9_ends_72 : decode cX9_ends 72 = .ok (.ifCond .ne 13, 3) := by decide +kernel
theorem dX9_ends_75 : decode cX9_ends 75 = .ok (.aload_n 0, 1) := by decide +kernel
theorem dX9_ends_76 : decode cX9_ends 76 = .ok (.getfield 31, 3) := by decide +kernel
theorem dX9_ends_79 : decode cX9_ends 79 = .ok (.invokevirtual 164, 3) := by decide +kernel
theorem dX9_ends_82 : decode cX9_ends 82 = .ok (.goto 10, 3) := by decide +kernel
theorem dX9_ends_85 : decode cX9_ends 85 = .ok (.aload_n 0, 1) := by decide +kernel
theorem dX9_ends_86 : decode cX9_ends 86 = .ok (.getfield 31, 3) := by decide +kernel
theorem dX9_ends_89 : decode cX9_ends 89 = .ok (.invokevirtual 168, 3) := by decide +kernel
theorem dX9_ends_92 : decode cX9_ends 92 = .ok (.ireturn, 1) := by decide +kernel
theorem dX9_book_0 : decode cX9_book 0 = .ok (.iload_n 1, 1) := by decide +kernel
theorem dX9_book_1 : decode cX9_book 1 = .ok (.iconst (-1), 1) := by decide +kernel
theorem dX9_book_2 : decode cX9_book 2 = .ok (.if_icmp .ne 14, 3) := by decide +kernel
theorem dX9_book_5 : decode cX9_book 5 = .ok (.aload_n 0, 1) := by decide +kernel
theorem dX9_book_6 : decode cX9_book 6 = .ok (.getfield 40, 3) := by decide +kernel
theorem dX9_book_9 : decode cX9_book 9 = .ok (.getfield 233, 3) := by decide +kernel
theorem dX9_book_12 : decode cX9_book 12 = .ok (.invokevirtual 195, 3) := by decide +kernel
theorem dX9_book_15 : decode cX9_book 15 = .ok (.ireturn, 1) := by decide +kernel
theorem dX9_book_16 : decode cX9_book 16 = .ok (.aload_n 0, 1) := by decide +kernel
theorem dX9_book_17 : decode cX9_book 17 = .ok (.getfield 27, 3) := by decide +kernel
theorem dX9_book_20 : decode cX9_book 20 = .ok (.iload_n 1, 1) := by decide +kernel
theorem dX9_book_21 : decode cX9_book 21 = .ok (.invokevirtual 78, 3) := by decide +kernel
theorem dX9_book_24 : decode cX9_book 24 = .ok (.ifCond .ne 5, 3) := by decide +kernel
theorem dX9_book_27 : decode cX9_book 27 = .ok (.iconst (-1), 1) := by decide +kernel
theorem dX9_book_28 : decode cX9_book 28 = .ok (.ireturn, 1) := by decide +kernel
theorem dX9_book_29 : decode cX9_book 29 = .ok (.iload_n 2, 1) := by decide +kernel
theorem dX9_book_30 : decode cX9_book 30 = .ok (.bipush 99, 2) := by decide +kernel
theorem dX9_book_32 : decode cX9_book 32 = .ok (.invokestatic 70, 3) := by decide +kernel
theorem dX9_book_35 : decode cX9_book 35 = .ok (.ifCond .eq 6, 3) := by decide +kernel
theorem dX9_book_38 : decode cX9_book 38 = .ok (.bipush (-2), 2) := by decide +kernel
theorem dX9_book_40 : decode cX9_book 40 = .ok (.ireturn, 1) := by decide +kernel
theorem dX9_book_41 : decode cX9_book 41 = .ok (.aload_n 0, 1) := by decide +kernel
theorem dX9_book_42 : decode cX9_book 42 = .ok (.getfield 40, 3) := by decide +kernel
theorem dX9_book_45 : decode cX9_book 45 = .ok (.getfield 233, 3) := by decide +kernel
theorem dX9_book_48 : decode cX9_book 48 = .ok (.iload_n 1, 1) := by decide +kernel
theorem dX9_book_49 : decode cX9_book 49 = .ok (.iconst 0, 1) := by decide +kernel
theorem dX9_book_50 : decode cX9_book 50 = .ok (.iload_n 2, 1) := by decide +kernel
theorem dX9_book_51 : decode cX9_book 51 = .ok (.invokevirtual 200, 3) := by decide +kernel
theorem dX9_book_54 : decode cX9_book 54 = .ok (.ireturn, 1) := by decide +kernel
theorem dX9_looked_0 : decode cX9_looked 0 = .ok (.aload_n 0, 1) := by decide +kernel
theorem dX9_looked_1 : decode cX9_looked 1 = .ok (.getfield 40, 3) := by decide +kernel
theorem dX9_looked_4 : decode cX9_looked 4 = .ok (.getfield 233, 3) := by decide +kernel
theorem dX9_looked_7 : decode cX9_looked 7 = .ok (.astore_n 1, 1) := by decide +kernel
theorem dX9_looked_8 : decode cX9_looked 8 = .ok (.iconst 0, 1) := by decide +kernel
theorem dX9_looked_9 : decode cX9_looked 9 = .ok (.istore_n 2, 1) := by decide +kernel
theorem dX9_looked_10 : decode cX9_looked 10 = .ok (.iload_n 2, 1) := by decide +kernel
theorem dX9_looked_11 : decode cX9_looked 11 = .ok (.aload_n 1, 1) := by decide +kernel
theorem dX9_looked_12 : decode cX9_looked 12 = .ok (.getfield 221, 3) := by decide +kernel
theorem dX9_looked_15 : decode cX9_looked 15 = .ok (.if_icmp .ge 37, 3) := by decide +kernel
theorem dX9_looked_18 : decode cX9_looked 18 = .ok (.aload_n 0, 1) := by decide +kernel
theorem dX9_looked_19 : decode cX9_looked 19 = .ok (.getfield 27, 3) := by decide +kernel
theorem dX9_looked_22 : decode cX9_looked 22 = .ok (.getfield 82, 3) := by decide +kernel
theorem dX9_looked_25 : decode cX9_looked 25 = .ok (.aload_n 1, 1) := by decide +kernel
theorem dX9_looked_26 : decode cX9_looked 26 = .ok (.getfield 227, 3) := by decide +kernel
theorem dX9_looked_29 : decode cX9_looked 29 = .ok (.iload_n 2, 1) := by decide +kernel
theorem dX9_looked_30 : decode cX9_looked 30 = .ok (.iaload, 1) := by decide +kernel
theorem dX9_looked_31 : decode cX9_looked 31 = .ok (.aaload, 1) := by decide +kernel
theorem dX9_looked_32 : decode cX9_looked 32 = .ok (.getfield 94, 3) := by decide +kernel
theorem dX9_looked_35 : decode cX9_looked 35 = .ok (.aload_n 1, 1) := by decide +kernel
theorem dX9_looked_36 : decode cX9_looked 36 = .ok (.getfield 236, 3) := by decide +kernel
theorem dX9_looked_39 : decode cX9_looked 39 = .ok (.iload_n 2, 1) := by decide +kernel
theorem dX9_looked_40 : decode cX9_looked 40 = .ok (.iaload, 1) := by decide +kernel
theorem dX9_looked_41 : decode cX9_looked 41 = .ok (.if_icmp .eq 5, 3) := by decide +kernel
theorem dX9_looked_44 : decode cX9_looked 44 = .ok (.iload_n 2, 1) := by decide +kernel
theorem dX9_looked_45 : decode cX9_looked 45 = .ok (.ireturn, 1) := by decide +kernel
theorem dX9_looked_46 : decode cX9_looked 46 = .ok (.iinc 2 1, 3) := by decide +kernel
theorem dX9_looked_49 : decode cX9_looked 49 = .ok (.goto (-39), 3) := by decide +kernel
theorem dX9_looked_52 : decode cX9_looked 52 = .ok (.bipush (-5), 2) := by decide +kernel
theorem dX9_looked_54 : decode cX9_looked 54 = .ok (.ireturn, 1) := by decide +kernel
theorem dX9_judge_0 : decode cX9_judge 0 = .ok (.iload_n 1, 1) := by decide +kernel
theorem dX9_judge_1 : decode cX9_judge 1 = .ok (.iconst 5, 1) := by decide +kernel
theorem dX9_judge_2 : decode cX9_judge 2 = .ok (.invokestatic 70, 3) := by decide +kernel
theorem dX9_judge_5 : decode cX9_judge 5 = .ok (.ifCond .eq 5, 3) := by decide +kernel
theorem dX9_judge_8 : decode cX9_judge 8 = .ok (.iconst (-1), 1) := by decide +kernel
theorem dX9_judge_9 : decode cX9_judge 9 = .ok (.ireturn, 1) := by decide +kernel
theorem dX9_judge_10 : decode cX9_judge 10 = .ok (.aload_n 0, 1) := by decide +kernel
theorem dX9_judge_11 : decode cX9_judge 11 = .ok (.getfield 56, 3) := by decide +kernel
theorem dX9_judge_14 : decode cX9_judge 14 = .ok (.iload_n 1, 1) := by decide +kernel
theorem dX9_judge_15 : decode cX9_judge 15 = .ok (.aaload, 1) := by decide +kernel
theorem dX9_judge_16 : decode cX9_judge 16 = .ok (.astore_n 3, 1) := by decide +kernel
theorem dX9_judge_17 : decode cX9_judge 17 = .ok (.aload_n 3, 1) := by decide +kernel
theorem dX9_judge_18 : decode cX9_judge 18 = .ok (.getfield 239, 3) := by decide +kernel
theorem dX9_judge_21 : decode cX9_judge 21 = .ok (.ifCond .eq 14, 3) := by decide +kernel
theorem dX9_judge_24 : decode cX9_judge 24 = .ok (.aload_n 3, 1) := by decide +kernel
theorem dX9_judge_25 : decode cX9_judge 25 = .ok (.getfield 239, 3) := by decide +kernel
theorem dX9_judge_28 : decode cX9_judge 28 = .ok (.iconst (-1), 1) := by decide +kernel
theorem dX9_judge_29 : decode cX9_judge 29 = .ok (.if_icmp .eq 6, 3) := by decide +kernel
theorem dX9_judge_32 : decode cX9_judge 32 = .ok (.bipush (-12), 2) := by decide +kernel
theorem dX9_judge_34 : decode cX9_judge 34 = .ok (.ireturn, 1) := by decide +kernel
theorem dX9_judge_35 : decode cX9_judge 35 = .ok (.iconst 0, 1) := by decide +kernel
theorem dX9_judge_36 : decode cX9_judge 36 = .ok (.istore 4, 2) := by decide +kernel
theorem dX9_judge_38 : decode cX9_judge 38 = .ok (.iload 4, 2) := by decide +kernel
theorem dX9_judge_40 : decode cX9_judge 40 = .ok (.aload_n 0, 1) := by decide +kernel
theorem dX9_judge_41 : decode cX9_judge 41 = .ok (.getfield 27, 3) := by decide +kernel
theorem dX9_judge_44 : decode cX9_judge 44 = .ok (.getfield 208, 3) := by decide +kernel
theorem dX9_judge_47 : decode cX9_judge 47 = .ok (.if_icmp .ge 60, 3) := by decide +kernel
theorem dX9_judge_50 : decode cX9_judge 50 = .ok (.iload_n 2, 1) := by decide +kernel
theorem dX9_judge_51 : decode cX9_judge 51 = .ok (.ifCond .lt 14, 3) := by decide +kernel
theorem dX9_judge_54 : decode cX9_judge 54 = .ok (.iload_n 2, 1) := by decide +kernel
theorem dX9_judge_55 : decode cX9_judge 55 = .ok (.aload_n 3, 1) := by decide +kernel
theorem dX9_judge_56 : decode cX9_judge 56 = .ok (.getfield 241, 3) := by decide +kernel
theorem dX9_judge_59 : decode cX9_judge 59 = .ok (.iload 4, 2) := by decide +kernel
theorem dX9_judge_61 : decode cX9_judge 61 = .ok (.isub, 1) := by decide +kernel
theorem dX9_judge_62 : decode cX9_judge 62 = .ok (.if_icmp .lt 9, 3) := by decide +kernel
theorem dX9_judge_65 : decode cX9_judge 65 = .ok (.bipush 100, 2) := by decide +kernel
theorem dX9_judge_67 : decode cX9_judge 67 = .ok (.iload 4, 2) := by decide +kernel
theorem dX9_judge_69 : decode cX9_judge 69 = .ok (.iadd, 1) := by decide +kernel
theorem dX9_judge_70 : decode cX9_judge 70 = .ok (.ireturn, 1) := by decide +kernel
theorem dX9_judge_71 : decode cX9_judge 71 = .ok (.aload_n 3, 1) := by decide +kernel
theorem dX9_judge_72 : decode cX9_judge 72 = .ok (.getfield 242, 3) := by decide +kernel
theorem dX9_judge_75 : decode cX9_judge 75 = .ok (.iload_n 2, 1) := by decide +kernel
theorem dX9_judge_76 : decode cX9_judge 76 = .ok (.iload 4, 2) := by decide +kernel
theorem dX9_judge_78 : decode cX9_judge 78 = .ok (.iadd, 1) := by decide +kernel
theorem dX9_judge_79 : decode cX9_judge 79 = .ok (.laload, 1) := by decide +kernel
theorem dX9_judge_80 : decode cX9_judge 80 = .ok (.aload_n 0, 1) := by decide +kernel
theorem dX9_judge_81 : decode cX9_judge 81 = .ok (.getfield 27, 3) := by decide +kernel
theorem dX9_judge_84 : decode cX9_judge 84 = .ok (.getfield 82, 3) := by decide +kernel
theorem dX9_judge_87 : decode cX9_judge 87 = .ok (.iload 4, 2) := by decide +kernel
theorem dX9_judge_89 : decode cX9_judge 89 = .ok (.aaload, 1) := by decide +kernel
theorem dX9_judge_90 : decode cX9_judge 90 = .ok (.getfield 94, 3) := by decide +kernel
theorem dX9_judge_93 : decode cX9_judge 93 = .ok (.i2l, 1) := by decide +kernel
theorem dX9_judge_94 : decode cX9_judge 94 = .ok (.lcmp, 1) := by decide +kernel
theorem dX9_judge_95 : decode cX9_judge 95 = .ok (.ifCond .eq 6, 3) := by decide +kernel
theorem dX9_judge_98 : decode cX9_judge 98 = .ok (.iload 4, 2) := by decide +kernel
theorem dX9_judge_100 : decode cX9_judge 100 = .ok (.ireturn, 1) := by decide +kernel
theorem dX9_judge_101 : decode cX9_judge 101 = .ok (.iinc 4 1, 3) := by decide +kernel
theorem dX9_judge_104 : decode cX9_judge 104 = .ok (.goto (-66), 3) := by decide +kernel
theorem dX9_judge_107 : decode cX9_judge 107 = .ok (.bipush (-5), 2) := by decide +kernel
theorem dX9_judge_109 : decode cX9_judge 109 = .ok (.ireturn, 1) := by decide +kernel
theorem dX9_image_0 : decode cX9_image 0 = .ok (.aload_n 0, 1) := by decide +kernel
theorem dX9_image_1 : decode cX9_image 1 = .ok (.getfield 34, 3) := by decide +kernel
theorem dX9_image_4 : decode cX9_image 4 = .ok (.aload_n 0, 1) := by decide +kernel
theorem dX9_image_5 : decode cX9_image 5 = .ok (.getfield 27, 3) := by decide +kernel
theorem dX9_image_8 : decode cX9_image 8 = .ok (.invokevirtual 178, 3) := by decide +kernel
theorem dX9_image_11 : decode cX9_image 11 = .ok (.aload_n 0, 1) := by decide +kernel
theorem dX9_image_12 : decode cX9_image 12 = .ok (.getfield 44, 3) := by decide +kernel
theorem dX9_image_15 : decode cX9_image 15 = .ok (.aload_n 0, 1) := by decide +kernel
theorem dX9_image_16 : decode cX9_image 16 = .ok (.getfield 40, 3) := by decide +kernel
theorem dX9_image_19 : decode cX9_image 19 = .ok (.invokevirtual 246, 3) := by decide +kernel
theorem dX9_image_22 : decode cX9_image 22 = .ok (.aload_n 0, 1) := by decide +kernel
theorem dX9_image_23 : decode cX9_image 23 = .ok (.iconst 1, 1) := by decide +kernel
theorem dX9_image_24 : decode cX9_image 24 = .ok (.putfield 64, 3) := by decide +kernel
theorem dX9_image_27 : decode cX9_image 27 = .ok (.aload_n 0, 1) := by decide +kernel
theorem dX9_image_28 : decode cX9_image 28 = .ok (.getfield 27, 3) := by decide +kernel
theorem dX9_image_31 : decode cX9_image 31 = .ok (.getfield 208, 3) := by decide +kernel
theorem dX9_image_34 : decode cX9_image 34 = .ok (.ireturn, 1) := by decide +kernel
theorem dX9_undo_0 : decode cX9_undo 0 = .ok (.aload_n 0, 1) := by decide +kernel
theorem dX9_undo_1 : decode cX9_undo 1 = .ok (.getfield 64, 3) := by decide +kernel
theorem dX9_undo_4 : decode cX9_undo 4 = .ok (.ifCond .ne 6, 3) := by decide +kernel
theorem dX9_undo_7 : decode cX9_undo 7 = .ok (.bipush (-3), 2) := by decide +kernel
theorem dX9_undo_9 : decode cX9_undo 9 = .ok (.ireturn, 1) := by decide +kernel
theorem dX9_undo_10 : decode cX9_undo 10 = .ok (.aload_n 0, 1) := by decide +kernel
theorem dX9_undo_11 : decode cX9_undo 11 = .ok (.getfield 27, 3) := by decide +kernel
theorem dX9_undo_14 : decode cX9_undo 14 = .ok (.aload_n 0, 1) := by decide +kernel
theorem dX9_undo_15 : decode cX9_undo 15 = .ok (.getfield 34, 3) := by decide +kernel
theorem dX9_undo_18 : decode cX9_undo 18 = .ok (.invokevirtual 178, 3) := by decide +kernel
theorem dX9_undo_21 : decode cX9_undo 21 = .ok (.aload_n 0, 1) := by decide +kernel
theorem dX9_undo_22 : decode cX9_undo 22 = .ok (.getfield 40, 3) := by decide +kernel
theorem dX9_undo_25 : decode cX9_undo 25 = .ok (.aload_n 0, 1) := by decide +kernel
theorem dX9_undo_26 : decode cX9_undo 26 = .ok (.getfield 44, 3) := by decide +kernel
theorem dX9_undo_29 : decode cX9_undo 29 = .ok (.invokevirtual 246, 3) := by decide +kernel
theorem dX9_undo_32 : decode cX9_undo 32 = .ok (.aload_n 0, 1) := by decide +kernel
theorem dX9_undo_33 : decode cX9_undo 33 = .ok (.getfield 27, 3) := by decide +kernel
theorem dX9_undo_36 : decode cX9_undo 36 = .ok (.getfield 208, 3) := by decide +kernel
theorem dX9_undo_39 : decode cX9_undo 39 = .ok (.ireturn, 1) := by decide +kernel
theorem dX9_act_0 : decode cX9_act 0 = .ok (.aload_n 0, 1) := by decide +kernel
theorem dX9_act_1 : decode cX9_act 1 = .ok (.getfield 50, 3) := by decide +kernel
theorem dX9_act_4 : decode cX9_act 4 = .ok (.iconst 0, 1) := by decide +kernel
theorem dX9_act_5 : decode cX9_act 5 = .ok (.putfield 249, 3) := by decide +kernel
theorem dX9_act_8 : decode cX9_act 8 = .ok (.aload_n 0, 1) := by decide +kernel
theorem dX9_act_9 : decode cX9_act 9 = .ok (.getfield 27, 3) := by decide +kernel
theorem dX9_act_12 : decode cX9_act 12 = .ok (.iload_n 1, 1) := by decide +kernel
theorem dX9_act_13 : decode cX9_act 13 = .ok (.invokevirtual 78, 3) := by decide +kernel
theorem dX9_act_16 : decode cX9_act 16 = .ok (.ifCond .ne 5, 3) := by decide +kernel
theorem dX9_act_19 : decode cX9_act 19 = .ok (.iconst 0, 1) := by decide +kernel
theorem dX9_act_20 : decode cX9_act 20 = .ok (.ireturn, 1) := by decide +kernel
theorem dX9_act_21 : decode cX9_act 21 = .ok (.aload_n 0, 1) := by decide +kernel
theorem dX9_act_22 : decode cX9_act 22 = .ok (.getfield 27, 3) := by decide +kernel
theorem dX9_act_25 : decode cX9_act 25 = .ok (.getfield 82, 3) := by decide +kernel
theorem dX9_act_28 : decode cX9_act 28 = .ok (.iload_n 1, 1) := by decide +kernel
theorem dX9_act_29 : decode cX9_act 29 = .ok (.aaload, 1) := by decide +kernel
theorem dX9_act_30 : decode cX9_act 30 = .ok (.astore 4, 2) := by decide +kernel
theorem dX9_act_32 : decode cX9_act 32 = .ok (.iload_n 2, 1) := by decide +kernel
theorem dX9_act_33 : decode cX9_act 33 = .ok (.tableswitch 75 0 2 #[27, 43, 59], 27) := by decide +kernel
theorem dX9_act_60 : decode cX9_act 60 = .ok (.aload 4, 2) := by decide +kernel
theorem dX9_act_62 : decode cX9_act 62 = .ok (.aload 4, 2) := by decide +kernel
theorem dX9_act_64 : decode cX9_act 64 = .ok (.getfield 86, 3) := by decide +kernel
theorem dX9_act_67 : decode cX9_act 67 = .ok (.iload_n 3, 1) := by decide +kernel
theorem dX9_act_68 : decode cX9_act 68 = .ok (.aload_n 0, 1) := by decide +kernel
theorem dX9_act_69 : decode cX9_act 69 = .ok (.getfield 50, 3) := by decide +kernel
theorem dX9_act_72 : decode cX9_act 72 = .ok (.invokestatic 252, 3) := by decide +kernel
theorem dX9_act_75 : decode cX9_act 75 = .ok (.ireturn, 1) := by decide +kernel
theorem dX9_act_76 : decode cX9_act 76 = .ok (.aload 4, 2) := by decide +kernel
theorem dX9_act_78 : decode cX9_act 78 = .ok (.aload 4, 2) := by decide +kernel
theorem dX9_act_80 : decode cX9_act 80 = .ok (.getfield 86, 3) := by decide +kernel
theorem dX9_act_83 : decode cX9_act 83 = .ok (.iload_n 3, 1) := by decide +kernel
theorem dX9_act_84 : decode cX9_act 84 = .ok (.aload_n 0, 1) := by decide +kernel
theorem dX9_act_85 : decode cX9_act 85 = .ok (.getfield 50, 3) := by decide +kernel
theorem dX9_act_88 : decode cX9_act 88 = .ok (.invokestatic 256, 3) := by decide +kernel
theorem dX9_act_91 : decode cX9_act 91 = .ok (.ireturn, 1) := by decide +kernel
theorem dX9_act_92 : decode cX9_act 92 = .ok (.aload 4, 2) := by decide +kernel
theorem dX9_act_94 : decode cX9_act 94 = .ok (.aload 4, 2) := by decide +kernel
theorem dX9_act_96 : decode cX9_act 96 = .ok (.getfield 86, 3) := by decide +kernel
theorem dX9_act_99 : decode cX9_act 99 = .ok (.iload_n 3, 1) := by decide +kernel
theorem dX9_act_100 : decode cX9_act 100 = .ok (.aload_n 0, 1) := by decide +kernel
theorem dX9_act_101 : decode cX9_act 101 = .ok (.getfield 50, 3) := by decide +kernel
theorem dX9_act_104 : decode cX9_act 104 = .ok (.invokestatic 259, 3) := by decide +kernel
theorem dX9_act_107 : decode cX9_act 107 = .ok (.ireturn, 1) := by decide +kernel
theorem dX9_act_108 : decode cX9_act 108 = .ok (.iconst 0, 1) := by decide +kernel
theorem dX9_act_109 : decode cX9_act 109 = .ok (.ireturn, 1) := by decide +kernel
theorem dX9_trace_0 : decode cX9_trace 0 = .ok (.iload_n 1, 1) := by decide +kernel
theorem dX9_trace_1 : decode cX9_trace 1 = .ok (.ifCond .lt 38, 3) := by decide +kernel
theorem dX9_trace_4 : decode cX9_trace 4 = .ok (.iload_n 1, 1) := by decide +kernel
theorem dX9_trace_5 : decode cX9_trace 5 = .ok (.aload_n 0, 1) := by decide +kernel
theorem dX9_trace_6 : decode cX9_trace 6 = .ok (.getfield 50, 3) := by decide +kernel
theorem dX9_trace_9 : decode cX9_trace 9 = .ok (.getfield 249, 3) := by decide +kernel
theorem dX9_trace_12 : decode cX9_trace 12 = .ok (.if_icmp .ge 27, 3) := by decide +kernel
theorem dX9_trace_15 : decode cX9_trace 15 = .ok (.iload_n 1, 1) := by decide +kernel
theorem dX9_trace_16 : decode cX9_trace 16 = .ok (.aload_n 0, 1) := by decide +kernel
theorem dX9_trace_17 : decode cX9_trace 17 = .ok (.getfield 50, 3) := by decide +kernel
theorem dX9_trace_20 : decode cX9_trace 20 = .ok (.getfield 262, 3) := by decide +kernel
theorem dX9_trace_23 : decode cX9_trace 23 = .ok (.arraylength, 1) := by decide +kernel
theorem dX9_trace_24 : decode cX9_trace 24 = .ok (.if_icmp .ge 15, 3) := by decide +kernel
theorem dX9_trace_27 : decode cX9_trace 27 = .ok (.aload_n 0, 1) := by decide +kernel
theorem dX9_trace_28 : decode cX9_trace 28 = .ok (.getfield 50, 3) := by decide +kernel
theorem dX9_trace_31 : decode cX9_trace 31 = .ok (.getfield 262, 3) := by decide +kernel
theorem dX9_trace_34 : decode cX9_trace 34 = .ok (.iload_n 1, 1) := by decide +kernel
theorem dX9_trace_35 : decode cX9_trace 35 = .ok (.iaload, 1) := by decide +kernel
theorem dX9_trace_36 : decode cX9_trace 36 = .ok (.goto 4, 3) := by decide +kernel
theorem dX9_trace_39 : decode cX9_trace 39 = .ok (.iconst (-1), 1) := by decide +kernel
theorem dX9_trace_40 : decode cX9_trace 40 = .ok (.ireturn, 1) := by decide +kernel
theorem dX9_taken_0 : decode cX9_taken 0 = .ok (.iload_n 2, 1) := by decide +kernel
theorem dX9_taken_1 : decode cX9_taken 1 = .ok (.bipush 6, 2) := by decide +kernel
theorem dX9_taken_3 : decode cX9_taken 3 = .ok (.invokestatic 70, 3) := by decide +kernel
theorem dX9_taken_6 : decode cX9_taken 6 = .ok (.ifCond .eq 6, 3) := by decide +kernel
theorem dX9_taken_9 : decode cX9_taken 9 = .ok (.bipush (-2), 2) := by decide +kernel
theorem dX9_taken_11 : decode cX9_taken 11 = .ok (.ireturn, 1) := by decide +kernel
theorem dX9_taken_12 : decode cX9_taken 12 = .ok (.aload_n 0, 1) := by decide +kernel
theorem dX9_taken_13 : decode cX9_taken 13 = .ok (.getfield 27, 3) := by decide +kernel
theorem dX9_taken_16 : decode cX9_taken 16 = .ok (.iload_n 1, 1) := by decide +kernel
theorem dX9_taken_17 : decode cX9_taken 17 = .ok (.invokevirtual 78, 3) := by decide +kernel
theorem dX9_taken_20 : decode cX9_taken 20 = .ok (.ifCond .ne 6, 3) := by decide +kernel
theorem dX9_taken_23 : decode cX9_taken 23 = .ok (.bipush (-11), 2) := by decide +kernel
theorem dX9_taken_25 : decode cX9_taken 25 = .ok (.ireturn, 1) := by decide +kernel
theorem dX9_taken_26 : decode cX9_taken 26 = .ok (.aload_n 0, 1) := by decide +kernel
theorem dX9_taken_27 : decode cX9_taken 27 = .ok (.getfield 27, 3) := by decide +kernel
theorem dX9_taken_30 : decode cX9_taken 30 = .ok (.getfield 82, 3) := by decide +kernel
theorem dX9_taken_33 : decode cX9_taken 33 = .ok (.iload_n 1, 1) := by decide +kernel
theorem dX9_taken_34 : decode cX9_taken 34 = .ok (.aaload, 1) := by decide +kernel
theorem dX9_taken_35 : decode cX9_taken 35 = .ok (.getfield 86, 3) := by decide +kernel
theorem dX9_taken_38 : decode cX9_taken 38 = .ok (.istore_n 3, 1) := by decide +kernel
theorem dX9_taken_39 : decode cX9_taken 39 = .ok (.iload_n 3, 1) := by decide +kernel
theorem dX9_taken_40 : decode cX9_taken 40 = .ok (.iload_n 2, 1) := by decide +kernel
theorem dX9_taken_41 : decode cX9_taken 41 = .ok (.if_icmp .eq 15, 3) := by decide +kernel
theorem dX9_taken_44 : decode cX9_taken 44 = .ok (.iload_n 3, 1) := by decide +kernel
theorem dX9_taken_45 : decode cX9_taken 45 = .ok (.invokestatic 265, 3) := by decide +kernel
theorem dX9_taken_48 : decode cX9_taken 48 = .ok (.iload_n 2, 1) := by decide +kernel
theorem dX9_taken_49 : decode cX9_taken 49 = .ok (.if_icmp .eq 7, 3) := by decide +kernel
theorem dX9_taken_52 : decode cX9_taken 52 = .ok (.iload_n 2, 1) := by decide +kernel
theorem dX9_taken_53 : decode cX9_taken 53 = .ok (.ifCond .ne 7, 3) := by decide +kernel
theorem dX9_taken_56 : decode cX9_taken 56 = .ok (.iload_n 3, 1) := by decide +kernel
theorem dX9_taken_57 : decode cX9_taken 57 = .ok (.goto 5, 3) := by decide +kernel
theorem dX9_taken_60 : decode cX9_taken 60 = .ok (.bipush (-12), 2) := by decide +kernel
theorem dX9_taken_62 : decode cX9_taken 62 = .ok (.ireturn, 1) := by decide +kernel
theorem dX9_count_0 : decode cX9_count 0 = .ok (.iload_n 1, 1) := by decide +kernel
theorem dX9_count_1 : decode cX9_count 1 = .ok (.tableswitch 132 0 8 #[51, 59, 67, 72, 83, 94, 105, 116, 124], 51) := by decide +kernel
theorem dX9_count_52 : decode cX9_count 52 = .ok (.aload_n 0, 1) := by decide +kernel
theorem dX9_count_53 : decode cX9_count 53 = .ok (.getfield 27, 3) := by decide +kernel
theorem dX9_count_56 : decode cX9_count 56 = .ok (.getfield 208, 3) := by decide +kernel
theorem dX9_count_59 : decode cX9_count 59 = .ok (.ireturn, 1) := by decide +kernel
theorem dX9_count_60 : decode cX9_count 60 = .ok (.aload_n 0, 1) := by decide +kernel
theorem dX9_count_61 : decode cX9_count 61 = .ok (.getfield 27, 3) := by decide +kernel
theorem dX9_count_64 : decode cX9_count 64 = .ok (.getfield 268, 3) := by decide +kernel
theorem dX9_count_67 : decode cX9_count 67 = .ok (.ireturn, 1) := by decide +kernel
theorem dX9_count_68 : decode cX9_count 68 = .ok (.aload_n 0, 1) := by decide +kernel
theorem dX9_count_69 : decode cX9_count 69 = .ok (.getfield 60, 3) := by decide +kernel
theorem dX9_count_72 : decode cX9_count 72 = .ok (.ireturn, 1) := by decide +kernel
theorem dX9_count_73 : decode cX9_count 73 = .ok (.aload_n 0, 1) := by decide +kernel
theorem dX9_count_74 : decode cX9_count 74 = .ok (.getfield 40, 3) := by decide +kernel
theorem dX9_count_77 : decode cX9_count 77 = .ok (.getfield 191, 3) := by decide +kernel
theorem dX9_count_80 : decode cX9_count 80 = .ok (.getfield 221, 3) := by decide +kernel
theorem dX9_count_83 : decode cX9_count 83 = .ok (.ireturn, 1) := by decide +kernel
theorem dX9_count_84 : decode cX9_count 84 = .ok (.aload_n 0, 1) := by decide +kernel
theorem dX9_count_85 : decode cX9_count 85 = .ok (.getfield 40, 3) := by decide +kernel
theorem dX9_count_88 : decode cX9_count 88 = .ok (.getfield 203, 3) := by decide +kernel
theorem dX9_count_91 : decode cX9_count 91 = .ok (.getfield 221, 3) := by decide +kernel
theorem dX9_count_94 : decode cX9_count 94 = .ok (.ireturn, 1) := by decide +kernel
theorem dX9_count_95 : decode cX9_count 95 = .ok (.aload_n 0, 1) := by decide +kernel
theorem dX9_count_96 : decode cX9_count 96 = .ok (.getfield 40, 3) := by decide +kernel
theorem dX9_count_99 : decode cX9_count 99 = .ok (.getfield 218, 3) := by decide +kernel
theorem dX9_count_102 : decode cX9_count 102 = .ok (.getfield 221, 3) := by decide +kernel
theorem dX9_count_105 : decode cX9_count 105 = .ok (.ireturn, 1) := by decide +kernel
theorem dX9_count_106 : decode cX9_count 106 = .ok (.aload_n 0, 1) := by decide +kernel
theorem dX9_count_107 : decode cX9_count 107 = .ok (.getfield 40, 3) := by decide +kernel
theorem dX9_count_110 : decode cX9_count 110 = .ok (.getfield 233, 3) := by decide +kernel
theorem dX9_count_113 : decode cX9_count 113 = .ok (.getfield 221, 3) := by decide +kernel
theorem dX9_count_116 : decode cX9_count 116 = .ok (.ireturn, 1) := by decide +kernel
theorem dX9_count_117 : decode cX9_count 117 = .ok (.aload_n 0, 1) := by decide +kernel
theorem dX9_count_118 : decode cX9_count 118 = .ok (.getfield 20, 3) := by decide +kernel
theorem dX9_count_121 : decode cX9_count 121 = .ok (.getfield 148, 3) := by decide +kernel
theorem dX9_count_124 : decode cX9_count 124 = .ok (.ireturn, 1) := by decide +kernel
theorem dX9_count_125 : decode cX9_count 125 = .ok (.aload_n 0, 1) := by decide +kernel
theorem dX9_count_126 : decode cX9_count 126 = .ok (.getfield 50, 3) := by decide +kernel
theorem dX9_count_129 : decode cX9_count 129 = .ok (.getfield 249, 3) := by decide +kernel
theorem dX9_count_132 : decode cX9_count 132 = .ok (.ireturn, 1) := by decide +kernel
theorem dX9_count_133 : decode cX9_count 133 = .ok (.bipush (-2), 2) := by decide +kernel
theorem dX9_count_135 : decode cX9_count 135 = .ok (.ireturn, 1) := by decide +kernel
theorem dX9_tape_0 : decode cX9_tape 0 = .ok (.iload_n 1, 1) := by decide +kernel
theorem dX9_tape_1 : decode cX9_tape 1 = .ok (.iconst 5, 1) := by decide +kernel
theorem dX9_tape_2 : decode cX9_tape 2 = .ok (.invokestatic 70, 3) := by decide +kernel
theorem dX9_tape_5 : decode cX9_tape 5 = .ok (.ifCond .eq 5, 3) := by decide +kernel
theorem dX9_tape_8 : decode cX9_tape 8 = .ok (.iconst (-1), 1) := by decide +kernel
theorem dX9_tape_9 : decode cX9_tape 9 = .ok (.ireturn, 1) := by decide +kernel
theorem dX9_tape_10 : decode cX9_tape 10 = .ok (.iload_n 2, 1) := by decide +kernel
theorem dX9_tape_11 : decode cX9_tape 11 = .ok (.iconst (-1), 1) := by decide +kernel
theorem dX9_tape_12 : decode cX9_tape 12 = .ok (.if_icmp .lt 8, 3) := by decide +kernel
theorem dX9_tape_15 : decode cX9_tape 15 = .ok (.iload_n 2, 1) := by decide +kernel
theorem dX9_tape_16 : decode cX9_tape 16 = .ok (.iconst 4, 1) := by decide +kernel
theorem dX9_tape_17 : decode cX9_tape 17 = .ok (.if_icmp .le 6, 3) := by decide +kernel
theorem dX9_tape_20 : decode cX9_tape 20 = .ok (.bipush (-2), 2) := by decide +kernel
theorem dX9_tape_22 : decode cX9_tape 22 = .ok (.ireturn, 1) := by decide +kernel
theorem dX9_tape_23 : decode cX9_tape 23 = .ok (.iload_n 2, 1) := by decide +kernel
theorem dX9_tape_24 : decode cX9_tape 24 = .ok (.iconst (-1), 1) := by decide +kernel
theorem dX9_tape_25 : decode cX9_tape 25 = .ok (.if_icmp .eq 12, 3) := by decide +kernel
theorem dX9_tape_28 : decode cX9_tape 28 = .ok (.iload_n 3, 1) := by decide +kernel
theorem dX9_tape_29 : decode cX9_tape 29 = .ok (.bipush 60, 2) := by decide +kernel
theorem dX9_tape_31 : decode cX9_tape 31 = .ok (.if_icmp .le 6, 3) := by decide +kernel
theorem dX9_tape_34 : decode cX9_tape 34 = .ok (.bipush (-2), 2) := by decide +kernel
theorem dX9_tape_36 : decode cX9_tape 36 = .ok (.ireturn, 1) := by decide +kernel
theorem dX9_tape_37 : decode cX9_tape 37 = .ok (.iload_n 2, 1) := by decide +kernel
theorem dX9_tape_38 : decode cX9_tape 38 = .ok (.iconst (-1), 1) := by decide +kernel
theorem dX9_tape_39 : decode cX9_tape 39 = .ok (.if_icmp .eq 10, 3) := by decide +kernel
theorem dX9_tape_42 : decode cX9_tape 42 = .ok (.iload_n 3, 1) := by decide +kernel
theorem dX9_tape_43 : decode cX9_tape 43 = .ok (.ifCond .ge 6, 3) := by decide +kernel
theorem dX9_tape_46 : decode cX9_tape 46 = .ok (.bipush (-14), 2) := by decide +kernel
theorem dX9_tape_48 : decode cX9_tape 48 = .ok (.ireturn, 1) := by decide +kernel
theorem dX9_tape_49 : decode cX9_tape 49 = .ok (.aload_n 0, 1) := by decide +kernel
theorem dX9_tape_50 : decode cX9_tape 50 = .ok (.getfield 56, 3) := by decide +kernel
theorem dX9_tape_53 : decode cX9_tape 53 = .ok (.iload_n 1, 1) := by decide +kernel
theorem dX9_tape_54 : decode cX9_tape 54 = .ok (.aaload, 1) := by decide +kernel
theorem dX9_tape_55 : decode cX9_tape 55 = .ok (.iload_n 2, 1) := by decide +kernel
theorem dX9_tape_56 : decode cX9_tape 56 = .ok (.iload_n 2, 1) := by decide +kernel
theorem dX9_tape_57 : decode cX9_tape 57 = .ok (.iconst (-1), 1) := by decide +kernel
theorem dX9_tape_58 : decode cX9_tape 58 = .ok (.if_icmp .ne 7, 3) := by decide +kernel
theorem dX9_tape_61 : decode cX9_tape 61 = .ok (.iconst 0, 1) := by decide +kernel
theorem dX9_tape_62 : decode cX9_tape 62 = .ok (.goto 4, 3) := by decide +kernel
theorem dX9_tape_65 : decode cX9_tape 65 = .ok (.iload_n 3, 1) := by decide +kernel
theorem dX9_tape_66 : decode cX9_tape 66 = .ok (.invokevirtual 271, 3) := by decide +kernel
theorem dX9_tape_69 : decode cX9_tape 69 = .ok (.iconst 1, 1) := by decide +kernel
theorem dX9_tape_70 : decode cX9_tape 70 = .ok (.ireturn, 1) := by decide +kernel
theorem dX9_item_0 : decode cX9_item 0 = .ok (.iload_n 1, 1) := by decide +kernel
theorem dX9_item_1 : decode cX9_item 1 = .ok (.iconst 5, 1) := by decide +kernel
theorem dX9_item_2 : decode cX9_item 2 = .ok (.invokestatic 70, 3) := by decide +kernel
theorem dX9_item_5 : decode cX9_item 5 = .ok (.ifCond .eq 5, 3) := by decide +kernel
theorem dX9_item_8 : decode cX9_item 8 = .ok (.iconst (-1), 1) := by decide +kernel
theorem dX9_item_9 : decode cX9_item 9 = .ok (.ireturn, 1) := by decide +kernel
theorem dX9_item_10 : decode cX9_item 10 = .ok (.aload_n 0, 1) := by decide +kernel
theorem dX9_item_11 : decode cX9_item 11 = .ok (.getfield 56, 3) := by decide +kernel
theorem dX9_item_14 : decode cX9_item 14 = .ok (.iload_n 1, 1) := by decide +kernel
theorem dX9_item_15 : decode cX9_item 15 = .ok (.aaload, 1) := by decide +kernel
theorem dX9_item_16 : decode cX9_item 16 = .ok (.astore 5, 2) := by decide +kernel
theorem dX9_item_18 : decode cX9_item 18 = .ok (.aload 5, 2) := by decide +kernel
theorem dX9_item_20 : decode cX9_item 20 = .ok (.getfield 239, 3) := by decide +kernel
theorem dX9_item_23 : decode cX9_item 23 = .ok (.iconst (-1), 1) := by decide +kernel
theorem dX9_item_24 : decode cX9_item 24 = .ok (.if_icmp .ne 6, 3) := by decide +kernel
theorem dX9_item_27 : decode cX9_item 27 = .ok (.bipush (-11), 2) := by decide +kernel
theorem dX9_item_29 : decode cX9_item 29 = .ok (.ireturn, 1) := by decide +kernel
theorem dX9_item_30 : decode cX9_item 30 = .ok (.iload_n 2, 1) := by decide +kernel
theorem dX9_item_31 : decode cX9_item 31 = .ok (.aload 5, 2) := by decide +kernel
theorem dX9_item_33 : decode cX9_item 33 = .ok (.getfield 241, 3) := by decide +kernel
theorem dX9_item_36 : decode cX9_item 36 = .ok (.iconst 1, 1) := by decide +kernel
theorem dX9_item_37 : decode cX9_item 37 = .ok (.isub, 1) := by decide +kernel
theorem dX9_item_38 : decode cX9_item 38 = .ok (.invokestatic 70, 3) := by decide +kernel
theorem dX9_item_41 : decode cX9_item 41 = .ok (.ifCond .eq 6, 3) := by decide +kernel
theorem dX9_item_44 : decode cX9_item 44 = .ok (.bipush (-13), 2) := by decide +kernel
theorem dX9_item_46 : decode cX9_item 46 = .ok (.ireturn, 1) := by decide +kernel
theorem dX9_item_47 : decode cX9_item 47 = .ok (.aload 5, 2) := by decide +kernel
theorem dX9_item_49 : decode cX9_item 49 = .ok (.getfield 242, 3) := by decide +kernel
theorem dX9_item_52 : decode cX9_item 52 = .ok (.iload_n 2, 1) := by decide +kernel
theorem dX9_item_53 : decode cX9_item 53 = .ok (.aload 5, 2) := by decide +kernel
theorem dX9_item_55 : decode cX9_item 55 = .ok (.lload_n 3, 1) := by decide +kernel
theorem dX9_item_56 : decode cX9_item 56 = .ok (.invokevirtual 273, 3) := by decide +kernel
theorem dX9_item_59 : decode cX9_item 59 = .ok (.lastore, 1) := by decide +kernel
theorem dX9_item_60 : decode cX9_item 60 = .ok (.iconst 1, 1) := by decide +kernel
theorem dX9_item_61 : decode cX9_item 61 = .ok (.ireturn, 1) := by decide +kernel
theorem dX9_read_0 : decode cX9_read 0 = .ok (.iload_n 1, 1) := by decide +kernel
theorem dX9_read_1 : decode cX9_read 1 = .ok (.iconst 5, 1) := by decide +kernel
theorem dX9_read_2 : decode cX9_read 2 = .ok (.invokestatic 70, 3) := by decide +kernel
theorem dX9_read_5 : decode cX9_read 5 = .ok (.ifCond .eq 7, 3) := by decide +kernel
theorem dX9_read_8 : decode cX9_read 8 = .ok (.ldc2_w 206, 3) := by decide +kernel
theorem dX9_read_11 : decode cX9_read 11 = .ok (.lreturn, 1) := by decide +kernel
theorem dX9_read_12 : decode cX9_read 12 = .ok (.aload_n 0, 1) := by decide +kernel
theorem dX9_read_13 : decode cX9_read 13 = .ok (.getfield 56, 3) := by decide +kernel
theorem dX9_read_16 : decode cX9_read 16 = .ok (.iload_n 1, 1) := by decide +kernel
theorem dX9_read_17 : decode cX9_read 17 = .ok (.aaload, 1) := by decide +kernel
theorem dX9_read_18 : decode cX9_read 18 = .ok (.astore_n 3, 1) := by decide +kernel
theorem dX9_read_19 : decode cX9_read 19 = .ok (.iload_n 2, 1) := by decide +kernel
theorem dX9_read_20 : decode cX9_read 20 = .ok (.aload_n 3, 1) := by decide +kernel
theorem dX9_read_21 : decode cX9_read 21 = .ok (.getfield 241, 3) := by decide +kernel
theorem dX9_read_24 : decode cX9_read 24 = .ok (.iconst 1, 1) := by decide +kernel
theorem dX9_read_25 : decode cX9_read 25 = .ok (.isub, 1) := by decide +kernel
theorem dX9_read_26 : decode cX9_read 26 = .ok (.invokestatic 70, 3) := by decide +kernel
theorem dX9_read_29 : decode cX9_read 29 = .ok (.ifCond .eq 9, 3) := by decide +kernel
theorem dX9_read_32 : decode cX9_read 32 = .ok (.ldc2_w 206, 3) := by decide +kernel
theorem dX9_read_35 : decode cX9_read 35 = .ok (.goto 9, 3) := by decide +kernel
theorem dX9_read_38 : decode cX9_read 38 = .ok (.aload_n 3, 1) := by decide +kernel
theorem dX9_read_39 : decode cX9_read 39 = .ok (.getfield 242, 3) := by decide +kernel
theorem dX9_read_42 : decode cX9_read 42 = .ok (.iload_n 2, 1) := by decide +kernel
theorem dX9_read_43 : decode cX9_read 43 = .ok (.laload, 1) := by decide +kernel
theorem dX9_read_44 : decode cX9_read 44 = .ok (.lreturn, 1) := by decide +kernel
theorem dX9_shift_0 : decode cX9_shift 0 = .ok (.iload_n 1, 1) := by decide +kernel
theorem dX9_shift_1 : decode cX9_shift 1 = .ok (.iconst 5, 1) := by decide +kernel
theorem dX9_shift_2 : decode cX9_shift 2 = .ok (.invokestatic 70, 3) := by decide +kernel
theorem dX9_shift_5 : decode cX9_shift 5 = .ok (.ifCond .ne 11, 3) := by decide +kernel
theorem dX9_shift_8 : decode cX9_shift 8 = .ok (.iload_n 3, 1) := by decide +kernel
theorem dX9_shift_9 : decode cX9_shift 9 = .ok (.iconst 5, 1) := by decide +kernel
theorem dX9_shift_10 : decode cX9_shift 10 = .ok (.invokestatic 70, 3) := by decide +kernel
theorem dX9_shift_13 : decode cX9_shift 13 = .ok (.ifCond .eq 5, 3) := by decide +kernel
theorem dX9_shift_16 : decode cX9_shift 16 = .ok (.iconst (-1), 1) := by decide +kernel
theorem dX9_shift_17 : decode cX9_shift 17 = .ok (.ireturn, 1) := by decide +kernel
theorem dX9_shift_18 : decode cX9_shift 18 = .ok (.aload_n 0, 1) := by decide +kernel
theorem dX9_shift_19 : decode cX9_shift 19 = .ok (.getfield 56, 3) := by decide +kernel
theorem dX9_shift_22 : decode cX9_shift 22 = .ok (.iload_n 1, 1) := by decide +kernel
theorem dX9_shift_23 : decode cX9_shift 23 = .ok (.aaload, 1) := by decide +kernel
theorem dX9_shift_24 : decode cX9_shift 24 = .ok (.astore 6, 2) := by decide +kernel
theorem dX9_shift_26 : decode cX9_shift 26 = .ok (.aload_n 0, 1) := by decide +kernel
theorem dX9_shift_27 : decode cX9_shift 27 = .ok (.getfield 56, 3) := by decide +kernel
theorem dX9_shift_30 : decode cX9_shift 30 = .ok (.iload_n 3, 1) := by decide +kernel
theorem dX9_shift_31 : decode cX9_shift 31 = .ok (.aaload, 1) := by decide +kernel
theorem dX9_shift_32 : decode cX9_shift 32 = .ok (.astore 7, 2) := by decide +kernel
theorem dX9_shift_34 : decode cX9_shift 34 = .ok (.aload 6, 2) := by decide +kernel
theorem dX9_shift_36 : decode cX9_shift 36 = .ok (.getfield 239, 3) := by decide +kernel
theorem dX9_shift_39 : decode cX9_shift 39 = .ok (.iconst (-1), 1) := by decide +kernel
theorem dX9_shift_40 : decode cX9_shift 40 = .ok (.if_icmp .eq 12, 3) := by decide +kernel
theorem dX9_shift_43 : decode cX9_shift 43 = .ok (.aload 7, 2) := by decide +kernel
theorem dX9_shift_45 : decode cX9_shift 45 = .ok (.getfield 239, 3) := by decide +kernel
theorem dX9_shift_48 : decode cX9_shift 48 = .ok (.iconst (-1), 1) := by decide +kernel
theorem dX9_shift_49 : decode cX9_shift 49 = .ok (.if_icmp .ne 6, 3) := by decide +kernel
theorem dX9_shift_52 : decode cX9_shift 52 = .ok (.bipush (-11), 2) := by decide +kernel
theorem dX9_shift_54 : decode cX9_shift 54 = .ok (.ireturn, 1) := by decide +kernel
theorem dX9_shift_55 : decode cX9_shift 55 = .ok (.aload 6, 2) := by decide +kernel
theorem dX9_shift_57 : decode cX9_shift 57 = .ok (.getfield 239, 3) := by decide +kernel
theorem dX9_shift_60 : decode cX9_shift 60 = .ok (.aload 7, 2) := by decide +kernel
theorem dX9_shift_62 : decode cX9_shift 62 = .ok (.getfield 239, 3) := by decide +kernel
theorem dX9_shift_65 : decode cX9_shift 65 = .ok (.if_icmp .eq 6, 3) := by decide +kernel
theorem dX9_shift_68 : decode cX9_shift 68 = .ok (.bipush (-12), 2) := by decide +kernel
theorem dX9_shift_70 : decode cX9_shift 70 = .ok (.ireturn, 1) := by decide +kernel
theorem dX9_shift_71 : decode cX9_shift 71 = .ok (.aload 6, 2) := by decide +kernel
theorem dX9_shift_73 : decode cX9_shift 73 = .ok (.iload_n 2, 1) := by decide +kernel
theorem dX9_shift_74 : decode cX9_shift 74 = .ok (.iload 5, 2) := by decide +kernel
theorem dX9_shift_76 : decode cX9_shift 76 = .ok (.invokevirtual 277, 3) := by decide +kernel
theorem dX9_shift_79 : decode cX9_shift 79 = .ok (.ifCond .eq 15, 3) := by decide +kernel
theorem dX9_shift_82 : decode cX9_shift 82 = .ok (.aload 7, 2) := by decide +kernel
theorem dX9_shift_84 : decode cX9_shift 84 = .ok (.iload 4, 2) := by decide +kernel
theorem dX9_shift_86 : decode cX9_shift 86 = .ok (.iload 5, 2) := by decide +kernel
theorem dX9_shift_88 : decode cX9_shift 88 = .ok (.invokevirtual 277, 3) := by decide +kernel
theorem dX9_shift_91 : decode cX9_shift 91 = .ok (.ifCond .ne 6, 3) := by decide +kernel
theorem dX9_shift_94 : decode cX9_shift 94 = .ok (.bipush (-13), 2) := by decide +kernel
theorem dX9_shift_96 : decode cX9_shift 96 = .ok (.ireturn, 1) := by decide +kernel
theorem dX9_shift_97 : decode cX9_shift 97 = .ok (.aload 6, 2) := by decide +kernel
theorem dX9_shift_99 : decode cX9_shift 99 = .ok (.getfield 242, 3) := by decide +kernel
theorem dX9_shift_102 : decode cX9_shift 102 = .ok (.iload_n 2, 1) := by decide +kernel
theorem dX9_shift_103 : decode cX9_shift 103 = .ok (.aload 7, 2) := by decide +kernel
theorem dX9_shift_105 : decode cX9_shift 105 = .ok (.getfield 242, 3) := by decide +kernel
theorem dX9_shift_108 : decode cX9_shift 108 = .ok (.iload 4, 2) := by decide +kernel
theorem dX9_shift_110 : decode cX9_shift 110 = .ok (.iload 5, 2) := by decide +kernel
theorem dX9_shift_112 : decode cX9_shift 112 = .ok (.invokestatic 280, 3) := by decide +kernel
theorem dX9_shift_115 : decode cX9_shift 115 = .ok (.iload 5, 2) := by decide +kernel
theorem dX9_shift_117 : decode cX9_shift 117 = .ok (.ireturn, 1) := by decide +kernel
theorem dX9_isOut_0 : decode cX9_isOut 0 = .ok (.iload_n 0, 1) := by decide +kernel
theorem dX9_isOut_1 : decode cX9_isOut 1 = .ok (.ifCond .lt 8, 3) := by decide +kernel
theorem dX9_isOut_4 : decode cX9_isOut 4 = .ok (.iload_n 0, 1) := by decide +kernel
theorem dX9_isOut_5 : decode cX9_isOut 5 = .ok (.iload_n 1, 1) := by decide +kernel
theorem dX9_isOut_6 : decode cX9_isOut 6 = .ok (.if_icmp .le 7, 3) := by decide +kernel
theorem dX9_isOut_9 : decode cX9_isOut 9 = .ok (.iconst 1, 1) := by decide +kernel
theorem dX9_isOut_10 : decode cX9_isOut 10 = .ok (.goto 4, 3) := by decide +kernel
theorem dX9_isOut_13 : decode cX9_isOut 13 = .ok (.iconst 0, 1) := by decide +kernel
theorem dX9_isOut_14 : decode cX9_isOut 14 = .ok (.ireturn, 1) := by decide +kernel
theorem dX9_kindAbove_0 : decode cX9_kindAbove 0 = .ok (.iload_n 0, 1) := by decide +kernel
theorem dX9_kindAbove_1 : decode cX9_kindAbove 1 = .ok (.tableswitch 33 4 6 #[27, 29, 31], 27) := by decide +kernel
theorem dX9_kindAbove_28 : decode cX9_kindAbove 28 = .ok (.iconst 1, 1) := by decide +kernel
theorem dX9_kindAbove_29 : decode cX9_kindAbove 29 = .ok (.ireturn, 1) := by decide +kernel
theorem dX9_kindAbove_30 : decode cX9_kindAbove 30 = .ok (.iconst 2, 1) := by decide +kernel
theorem dX9_kindAbove_31 : decode cX9_kindAbove 31 = .ok (.ireturn, 1) := by decide +kernel
theorem dX9_kindAbove_32 : decode cX9_kindAbove 32 = .ok (.iconst 3, 1) := by decide +kernel
theorem dX9_kindAbove_33 : decode cX9_kindAbove 33 = .ok (.ireturn, 1) := by decide +kernel
theorem dX9_kindAbove_34 : decode cX9_kindAbove 34 = .ok (.iconst 0, 1) := by decide +kernel
theorem dX9_kindAbove_35 : decode cX9_kindAbove 35 = .ok (.ireturn, 1) := by decide +kernel
theorem dX9_ofLowestTerms_0 : decode cX9_ofLowestTerms 0 = .ok (.iconst 1, 1) := by decide +kernel
theorem dX9_ofLowestTerms_1 : decode cX9_ofLowestTerms 1 = .ok (.istore_n 3, 1) := by decide +kernel
theorem dX9_ofLowestTerms_2 : decode cX9_ofLowestTerms 2 = .ok (.iconst 2, 1) := by decide +kernel
theorem dX9_ofLowestTerms_3 : decode cX9_ofLowestTerms 3 = .ok (.istore 4, 2) := by decide +kernel
theorem dX9_ofLowestTerms_5 : decode cX9_ofLowestTerms 5 = .ok (.iload 4, 2) := by decide +kernel
theorem dX9_ofLowestTerms_7 : decode cX9_ofLowestTerms 7 = .ok (.iload_n 1, 1) := by decide +kernel
theorem dX9_ofLowestTerms_8 : decode cX9_ofLowestTerms 8 = .ok (.if_icmp .gt 26, 3) := by decide +kernel
theorem dX9_ofLowestTerms_11 : decode cX9_ofLowestTerms 11 = .ok (.iload_n 0, 1) := by decide +kernel
theorem dX9_ofLowestTerms_12 : decode cX9_ofLowestTerms 12 = .ok (.iload 4, 2) := by decide +kernel
theorem dX9_ofLowestTerms_14 : decode cX9_ofLowestTerms 14 = .ok (.irem, 1) := by decide +kernel
theorem dX9_ofLowestTerms_15 : decode cX9_ofLowestTerms 15 = .ok (.ifCond .ne 13, 3) := by decide +kernel
theorem dX9_ofLowestTerms_18 : decode cX9_ofLowestTerms 18 = .ok (.iload_n 1, 1) := by decide +kernel
theorem dX9_ofLowestTerms_19 : decode cX9_ofLowestTerms 19 = .ok (.iload 4, 2) := by decide +kernel
theorem dX9_ofLowestTerms_21 : decode cX9_ofLowestTerms 21 = .ok (.irem, 1) := by decide +kernel
theorem dX9_ofLowestTerms_22 : decode cX9_ofLowestTerms 22 = .ok (.ifCond .ne 6, 3) := by decide +kernel
theorem dX9_ofLowestTerms_25 : decode cX9_ofLowestTerms 25 = .ok (.iload 4, 2) := by decide +kernel
theorem dX9_ofLowestTerms_27 : decode cX9_ofLowestTerms 27 = .ok (.istore_n 3, 1) := by decide +kernel
theorem dX9_ofLowestTerms_28 : decode cX9_ofLowestTerms 28 = .ok (.iinc 4 1, 3) := by decide +kernel
theorem dX9_ofLowestTerms_31 : decode cX9_ofLowestTerms 31 = .ok (.goto (-26), 3) := by decide +kernel
theorem dX9_ofLowestTerms_34 : decode cX9_ofLowestTerms 34 = .ok (.iload_n 2, 1) := by decide +kernel
theorem dX9_ofLowestTerms_35 : decode cX9_ofLowestTerms 35 = .ok (.ifCond .ne 7, 3) := by decide +kernel
theorem dX9_ofLowestTerms_38 : decode cX9_ofLowestTerms 38 = .ok (.iload_n 0, 1) := by decide +kernel
theorem dX9_ofLowestTerms_39 : decode cX9_ofLowestTerms 39 = .ok (.goto 4, 3) := by decide +kernel
theorem dX9_ofLowestTerms_42 : decode cX9_ofLowestTerms 42 = .ok (.iload_n 1, 1) := by decide +kernel
theorem dX9_ofLowestTerms_43 : decode cX9_ofLowestTerms 43 = .ok (.iload_n 3, 1) := by decide +kernel
theorem dX9_ofLowestTerms_44 : decode cX9_ofLowestTerms 44 = .ok (.idiv, 1) := by decide +kernel
theorem dX9_ofLowestTerms_45 : decode cX9_ofLowestTerms 45 = .ok (.i2l, 1) := by decide +kernel
theorem dX9_ofLowestTerms_46 : decode cX9_ofLowestTerms 46 = .ok (.lreturn, 1) := by decide +kernel
theorem dX9_isMoreHurt_0 : decode cX9_isMoreHurt 0 = .ok (.aload_n 0, 1) := by decide +kernel
theorem dX9_isMoreHurt_1 : decode cX9_isMoreHurt 1 = .ok (.getfield 31, 3) := by decide +kernel
theorem dX9_isMoreHurt_4 : decode cX9_isMoreHurt 4 = .ok (.getfield 82, 3) := by decide +kernel
theorem dX9_isMoreHurt_7 : decode cX9_isMoreHurt 7 = .ok (.iload_n 1, 1) := by decide +kernel
theorem dX9_isMoreHurt_8 : decode cX9_isMoreHurt 8 = .ok (.aaload, 1) := by decide +kernel
theorem dX9_isMoreHurt_9 : decode cX9_isMoreHurt 9 = .ok (.getfield 100, 3) := by decide +kernel
theorem dX9_isMoreHurt_12 : decode cX9_isMoreHurt 12 = .ok (.aload_n 0, 1) := by decide +kernel
theorem dX9_isMoreHurt_13 : decode cX9_isMoreHurt 13 = .ok (.getfield 27, 3) := by decide +kernel
theorem dX9_isMoreHurt_16 : decode cX9_isMoreHurt 16 = .ok (.getfield 82, 3) := by decide +kernel
theorem dX9_isMoreHurt_19 : decode cX9_isMoreHurt 19 = .ok (.iload_n 1, 1) := by decide +kernel
theorem dX9_isMoreHurt_20 : decode cX9_isMoreHurt 20 = .ok (.aaload, 1) := by decide +kernel
theorem dX9_isMoreHurt_21 : decode cX9_isMoreHurt 21 = .ok (.getfield 100, 3) := by decide +kernel
theorem dX9_isMoreHurt_24 : decode cX9_isMoreHurt 24 = .ok (.if_icmp .le 7, 3) := by decide +kernel
theorem dX9_isMoreHurt_27 : decode cX9_isMoreHurt 27 = .ok (.iconst 1, 1) := by decide +kernel
theorem dX9_isMoreHurt_28 : decode cX9_isMoreHurt 28 = .ok (.goto 4, 3) := by decide +kernel
theorem dX9_isMoreHurt_31 : decode cX9_isMoreHurt 31 = .ok (.iconst 0, 1) := by decide +kernel
theorem dX9_isMoreHurt_32 : decode cX9_isMoreHurt 32 = .ok (.ireturn, 1) := by decide +kernel
theorem dX9_daysUntilSore_0 : decode cX9_daysUntilSore 0 = .ok (.aload_n 0, 1) := by decide +kernel
theorem dX9_daysUntilSore_1 : decode cX9_daysUntilSore 1 = .ok (.getfield 31, 3) := by decide +kernel
theorem dX9_daysUntilSore_4 : decode cX9_daysUntilSore 4 = .ok (.aload_n 0, 1) := by decide +kernel
theorem dX9_daysUntilSore_5 : decode cX9_daysUntilSore 5 = .ok (.getfield 27, 3) := by decide +kernel
theorem dX9_daysUntilSore_8 : decode cX9_daysUntilSore 8 = .ok (.invokevirtual 178, 3) := by decide +kernel
theorem dX9_daysUntilSore_11 : decode cX9_daysUntilSore 11 = .ok (.iconst 1, 1) := by decide +kernel
theorem dX9_daysUntilSore_12 : decode cX9_daysUntilSore 12 = .ok (.istore_n 2, 1) := by decide +kernel
theorem dX9_daysUntilSore_13 : decode cX9_daysUntilSore 13 = .ok (.iload_n 2, 1) := by decide +kernel
theorem dX9_daysUntilSore_14 : decode cX9_daysUntilSore 14 = .ok (.bipush 60, 2) := by decide +kernel
theorem dX9_daysUntilSore_16 : decode cX9_daysUntilSore 16 = .ok (.if_icmp .gt 28, 3) := by decide +kernel
theorem dX9_daysUntilSore_19 : decode cX9_daysUntilSore 19 = .ok (.aload_n 0, 1) := by decide +kernel
theorem dX9_daysUntilSore_20 : decode cX9_daysUntilSore 20 = .ok (.getfield 31, 3) := by decide +kernel
theorem dX9_daysUntilSore_23 : decode cX9_daysUntilSore 23 = .ok (.iconst 1, 1) := by decide +kernel
theorem dX9_daysUntilSore_24 : decode cX9_daysUntilSore 24 = .ok (.iload_n 1, 1) := by decide +kernel
theorem dX9_daysUntilSore_25 : decode cX9_daysUntilSore 25 = .ok (.invokevirtual 174, 3) := by decide +kernel
theorem dX9_daysUntilSore_28 : decode cX9_daysUntilSore 28 = .ok (.aload_n 0, 1) := by decide +kernel
theorem dX9_daysUntilSore_29 : decode cX9_daysUntilSore 29 = .ok (.iload_n 1, 1) := by decide +kernel
theorem dX9_daysUntilSore_30 : decode cX9_daysUntilSore 30 = .ok (.invokevirtual 211, 3) := by decide +kernel
theorem dX9_daysUntilSore_33 : decode cX9_daysUntilSore 33 = .ok (.ifCond .eq 5, 3) := by decide +kernel
theorem dX9_daysUntilSore_36 : decode cX9_daysUntilSore 36 = .ok (.iload_n 2, 1) := by decide +kernel
theorem dX9_daysUntilSore_37 : decode cX9_daysUntilSore 37 = .ok (.ireturn, 1) := by decide +kernel
theorem dX9_daysUntilSore_38 : decode cX9_daysUntilSore 38 = .ok (.iinc 2 1, 3) := by decide +kernel
theorem dX9_daysUntilSore_41 : decode cX9_daysUntilSore 41 = .ok (.goto (-28), 3) := by decide +kernel
theorem dX9_daysUntilSore_44 : decode cX9_daysUntilSore 44 = .ok (.bipush (-5), 2) := by decide +kernel
theorem dX9_daysUntilSore_46 : decode cX9_daysUntilSore 46 = .ok (.ireturn, 1) := by decide +kernel
theorem dX9_fewestToMend_0 : decode cX9_fewestToMend 0 = .ok (.aload_n 0, 1) := by decide +kernel
theorem dX9_fewestToMend_1 : decode cX9_fewestToMend 1 = .ok (.getfield 31, 3) := by decide +kernel
theorem dX9_fewestToMend_4 : decode cX9_fewestToMend 4 = .ok (.aload_n 0, 1) := by decide +kernel
theorem dX9_fewestToMend_5 : decode cX9_fewestToMend 5 = .ok (.getfield 27, 3) := by decide +kernel
theorem dX9_fewestToMend_8 : decode cX9_fewestToMend 8 = .ok (.invokevirtual 178, 3) := by decide +kernel
theorem dX9_fewestToMend_11 : decode cX9_fewestToMend 11 = .ok (.aload_n 0, 1) := by decide +kernel
theorem dX9_fewestToMend_12 : decode cX9_fewestToMend 12 = .ok (.getfield 31, 3) := by decide +kernel
theorem dX9_fewestToMend_15 : decode cX9_fewestToMend 15 = .ok (.iload_n 1, 1) := by decide +kernel
theorem dX9_fewestToMend_16 : decode cX9_fewestToMend 16 = .ok (.iconst (-1), 1) := by decide +kernel
theorem dX9_fewestToMend_17 : decode cX9_fewestToMend 17 = .ok (.invokevirtual 174, 3) := by decide +kernel
theorem dX9_fewestToMend_20 : decode cX9_fewestToMend 20 = .ok (.aload_n 0, 1) := by decide +kernel
theorem dX9_fewestToMend_21 : decode cX9_fewestToMend 21 = .ok (.invokevirtual 286, 3) := by decide +kernel
theorem dX9_fewestToMend_24 : decode cX9_fewestToMend 24 = .ok (.istore_n 2, 1) := by decide +kernel
theorem dX9_fewestToMend_25 : decode cX9_fewestToMend 25 = .ok (.aload_n 0, 1) := by decide +kernel
theorem dX9_fewestToMend_26 : decode cX9_fewestToMend 26 = .ok (.getfield 31, 3) := by decide +kernel
theorem dX9_fewestToMend_29 : decode cX9_fewestToMend 29 = .ok (.aload_n 0, 1) := by decide +kernel
theorem dX9_fewestToMend_30 : decode cX9_fewestToMend 30 = .ok (.getfield 27, 3) := by decide +kernel
theorem dX9_fewestToMend_33 : decode cX9_fewestToMend 33 = .ok (.invokevirtual 178, 3) := by decide +kernel
theorem dX9_fewestToMend_36 : decode cX9_fewestToMend 36 = .ok (.iconst 0, 1) := by decide +kernel
theorem dX9_fewestToMend_37 : decode cX9_fewestToMend 37 = .ok (.istore_n 3, 1) := by decide +kernel
theorem dX9_fewestToMend_38 : decode cX9_fewestToMend 38 = .ok (.iload_n 3, 1) := by decide +kernel
theorem dX9_fewestToMend_39 : decode cX9_fewestToMend 39 = .ok (.aload_n 0, 1) := by decide +kernel
theorem dX9_fewestToMend_40 : decode cX9_fewestToMend 40 = .ok (.getfield 31, 3) := by decide +kernel
theorem dX9_fewestToMend_43 : decode cX9_fewestToMend 43 = .ok (.getfield 208, 3) := by decide +kernel
theorem dX9_fewestToMend_46 : decode cX9_fewestToMend 46 = .ok (.if_icmp .ge 23, 3) := by decide +kernel
theorem dX9_fewestToMend_49 : decode cX9_fewestToMend 49 = .ok (.aload_n 0, 1) := by decide +kernel
theorem dX9_fewestToMend_50 : decode cX9_fewestToMend 50 = .ok (.getfield 31, 3) := by decide +kernel
theorem dX9_fewestToMend_53 : decode cX9_fewestToMend 53 = .ok (.getfield 82, 3) := by decide +kernel
theorem dX9_fewestToMend_56 : decode cX9_fewestToMend 56 = .ok (.iload_n 3, 1) := by decide +kernel
theorem dX9_fewestToMend_57 : decode cX9_fewestToMend 57 = .ok (.aaload, 1) := by decide +kernel
theorem dX9_fewestToMend_58 : decode cX9_fewestToMend 58 = .ok (.bipush 99, 2) := by decide +kernel
theorem dX9_fewestToMend_60 : decode cX9_fewestToMend 60 = .ok (.putfield 94, 3) := by decide +kernel
theorem dX9_fewestToMend_63 : decode cX9_fewestToMend 63 = .ok (.iinc 3 1, 3) := by decide +kernel
theorem dX9_fewestToMend_66 : decode cX9_fewestToMend 66 = .ok (.goto (-28), 3) := by decide +kernel
theorem dX9_fewestToMend_69 : decode cX9_fewestToMend 69 = .ok (.aload_n 0, 1) := by decide +kernel
theorem dX9_fewestToMend_70 : decode cX9_fewestToMend 70 = .ok (.getfield 31, 3) := by decide +kernel
theorem dX9_fewestToMend_73 : decode cX9_fewestToMend 73 = .ok (.iload_n 1, 1) := by decide +kernel
theorem dX9_fewestToMend_74 : decode cX9_fewestToMend 74 = .ok (.iconst (-1), 1) := by decide +kernel
theorem dX9_fewestToMend_75 : decode cX9_fewestToMend 75 = .ok (.invokevirtual 174, 3) := by decide +kernel
theorem dX9_fewestToMend_78 : decode cX9_fewestToMend 78 = .ok (.iload_n 2, 1) := by decide +kernel
theorem dX9_fewestToMend_79 : decode cX9_fewestToMend 79 = .ok (.aload_n 0, 1) := by decide +kernel
theorem dX9_fewestToMend_80 : decode cX9_fewestToMend 80 = .ok (.invokevirtual 286, 3) := by decide +kernel
theorem dX9_fewestToMend_83 : decode cX9_fewestToMend 83 = .ok (.iand, 1) := by decide +kernel
theorem dX9_fewestToMend_84 : decode cX9_fewestToMend 84 = .ok (.ifCond .ne 7, 3) := by decide +kernel
theorem dX9_fewestToMend_87 : decode cX9_fewestToMend 87 = .ok (.iload_n 2, 1) := by decide +kernel
theorem dX9_fewestToMend_88 : decode cX9_fewestToMend 88 = .ok (.goto 5, 3) := by decide +kernel
theorem dX9_fewestToMend_91 : decode cX9_fewestToMend 91 = .ok (.bipush (-5), 2) := by decide +kernel
theorem dX9_fewestToMend_93 : decode cX9_fewestToMend 93 = .ok (.ireturn, 1) := by decide +kernel
theorem dX9_moreHurtBits_0 : decode cX9_moreHurtBits 0 = .ok (.iconst 0, 1) := by decide +kernel
theorem dX9_moreHurtBits_1 : decode cX9_moreHurtBits 1 = .ok (.istore_n 1, 1) := by decide +kernel
theorem dX9_moreHurtBits_2 : decode cX9_moreHurtBits 2 = .ok (.iconst 0, 1) := by decide +kernel
theorem dX9_moreHurtBits_3 : decode cX9_moreHurtBits 3 = .ok (.istore_n 2, 1) := by decide +kernel
theorem dX9_moreHurtBits_4 : decode cX9_moreHurtBits 4 = .ok (.iload_n 2, 1) := by decide +kernel
theorem dX9_moreHurtBits_5 : decode cX9_moreHurtBits 5 = .ok (.aload_n 0, 1) := by decide +kernel
theorem dX9_moreHurtBits_6 : decode cX9_moreHurtBits 6 = .ok (.getfield 27, 3) := by decide +kernel
theorem dX9_moreHurtBits_9 : decode cX9_moreHurtBits 9 = .ok (.getfield 208, 3) := by decide +kernel
theorem dX9_moreHurtBits_12 : decode cX9_moreHurtBits 12 = .ok (.if_icmp .ge 23, 3) := by decide +kernel
theorem dX9_moreHurtBits_15 : decode cX9_moreHurtBits 15 = .ok (.aload_n 0, 1) := by decide +kernel
theorem dX9_moreHurtBits_16 : decode cX9_moreHurtBits 16 = .ok (.iload_n 2, 1) := by decide +kernel
theorem dX9_moreHurtBits_17 : decode cX9_moreHurtBits 17 = .ok (.invokevirtual 211, 3) := by decide +kernel
theorem dX9_moreHurtBits_20 : decode cX9_moreHurtBits 20 = .ok (.ifCond .eq 9, 3) := by decide +kernel
theorem dX9_moreHurtBits_23 : decode cX9_moreHurtBits 23 = .ok (.iload_n 1, 1) := by decide +kernel
theorem dX9_moreHurtBits_24 : decode cX9_moreHurtBits 24 = .ok (.iconst 1, 1) := by decide +kernel
theorem dX9_moreHurtBits_25 : decode cX9_moreHurtBits 25 = .ok (.iload_n 2, 1) := by decide +kernel
theorem dX9_moreHurtBits_26 : decode cX9_moreHurtBits 26 = .ok (.ishl, 1) := by decide +kernel
theorem dX9_moreHurtBits_27 : decode cX9_moreHurtBits 27 = .ok (.ior, 1) := by decide +kernel
theorem dX9_moreHurtBits_28 : decode cX9_moreHurtBits 28 = .ok (.istore_n 1, 1) := by decide +kernel
theorem dX9_moreHurtBits_29 : decode cX9_moreHurtBits 29 = .ok (.iinc 2 1, 3) := by decide +kernel
theorem dX9_moreHurtBits_32 : decode cX9_moreHurtBits 32 = .ok (.goto (-28), 3) := by decide +kernel
theorem dX9_moreHurtBits_35 : decode cX9_moreHurtBits 35 = .ok (.iload_n 1, 1) := by decide +kernel
theorem dX9_moreHurtBits_36 : decode cX9_moreHurtBits 36 = .ok (.ireturn, 1) := by decide +kernel
theorem dX9_bestChange_0 : decode cX9_bestChange 0 = .ok (.aload_n 0, 1) := by decide +kernel
theorem dX9_bestChange_1 : decode cX9_bestChange 1 = .ok (.getfield 31, 3) := by decide +kernel
theorem dX9_bestChange_4 : decode cX9_bestChange 4 = .ok (.aload_n 0, 1) := by decide +kernel
theorem dX9_bestChange_5 : decode cX9_bestChange 5 = .ok (.getfield 27, 3) := by decide +kernel
theorem dX9_bestChange_8 : decode cX9_bestChange 8 = .ok (.invokevirtual 178, 3) := by decide +kernel
theorem dX9_bestChange_11 : decode cX9_bestChange 11 = .ok (.aload_n 0, 1) := by decide +kernel
theorem dX9_bestChange_12 : decode cX9_bestChange 12 = .ok (.getfield 31, 3) := by decide +kernel
theorem dX9_bestChange_15 : decode cX9_bestChange 15 = .ok (.iload_n 1, 1) := by decide +kernel
theorem dX9_bestChange_16 : decode cX9_bestChange 16 = .ok (.iconst (-1), 1) := by decide +kernel
theorem dX9_bestChange_17 : decode cX9_bestChange 17 = .ok (.invokevirtual 174, 3) := by decide +kernel
theorem dX9_bestChange_20 : decode cX9_bestChange 20 = .ok (.aload_n 0, 1) := by decide +kernel
theorem dX9_bestChange_21 : decode cX9_bestChange 21 = .ok (.getfield 31, 3) := by decide +kernel
theorem dX9_bestChange_24 : decode cX9_bestChange 24 = .ok (.invokevirtual 164, 3) := by decide +kernel
theorem dX9_bestChange_27 : decode cX9_bestChange 27 = .ok (.istore_n 2, 1) := by decide +kernel
theorem dX9_bestChange_28 : decode cX9_bestChange 28 = .ok (.bipush (-5), 2) := by decide +kernel
theorem dX9_bestChange_30 : decode cX9_bestChange 30 = .ok (.istore_n 3, 1) := by decide +kernel
theorem dX9_bestChange_31 : decode cX9_bestChange 31 = .ok (.iconst 0, 1) := by decide +kernel
theorem dX9_bestChange_32 : decode cX9_bestChange 32 = .ok (.istore 4, 2) := by decide +kernel
theorem dX9_bestChange_34 : decode cX9_bestChange 34 = .ok (.iload 4, 2) := by decide +kernel
theorem dX9_bestChange_36 : decode cX9_bestChange 36 = .ok (.aload_n 0, 1) := by decide +kernel
theorem dX9_bestChange_37 : decode cX9_bestChange 37 = .ok (.getfield 27, 3) := by decide +kernel
theorem dX9_bestChange_40 : decode cX9_bestChange 40 = .ok (.getfield 208, 3) := by decide +kernel
theorem dX9_bestChange_43 : decode cX9_bestChange 43 = .ok (.if_icmp .ge 132, 3) := by decide +kernel
theorem dX9_bestChange_46 : decode cX9_bestChange 46 = .ok (.iload 4, 2) := by decide +kernel
theorem dX9_bestChange_48 : decode cX9_bestChange 48 = .ok (.iconst 1, 1) := by decide +kernel
theorem dX9_bestChange_49 : decode cX9_bestChange 49 = .ok (.iadd, 1) := by decide +kernel
theorem dX9_bestChange_50 : decode cX9_bestChange 50 = .ok (.istore 5, 2) := by decide +kernel
theorem dX9_bestChange_52 : decode cX9_bestChange 52 = .ok (.iload 5, 2) := by decide +kernel
theorem dX9_bestChange_54 : decode cX9_bestChange 54 = .ok (.aload_n 0, 1) := by decide +kernel
theorem dX9_bestChange_55 : decode cX9_bestChange 55 = .ok (.getfield 27, 3) := by decide +kernel
theorem dX9_bestChange_58 : decode cX9_bestChange 58 = .ok (.getfield 208, 3) := by decide +kernel
theorem dX9_bestChange_61 : decode cX9_bestChange 61 = .ok (.if_icmp .ge 108, 3) := by decide +kernel
theorem dX9_bestChange_64 : decode cX9_bestChange 64 = .ok (.aload_n 0, 1) := by decide +kernel
theorem dX9_bestChange_65 : decode cX9_bestChange 65 = .ok (.getfield 31, 3) := by decide +kernel
theorem dX9_bestChange_68 : decode cX9_bestChange 68 = .ok (.aload_n 0, 1) := by decide +kernel
theorem dX9_bestChange_69 : decode cX9_bestChange 69 = .ok (.getfield 27, 3) := by decide +kernel
theorem dX9_bestChange_72 : decode cX9_bestChange 72 = .ok (.invokevirtual 178, 3) := by decide +kernel
theorem dX9_bestChange_75 : decode cX9_bestChange 75 = .ok (.aload_n 0, 1) := by decide +kernel
theorem dX9_bestChange_76 : decode cX9_bestChange 76 = .ok (.getfield 31, 3) := by decide +kernel
theorem dX9_bestChange_79 : decode cX9_bestChange 79 = .ok (.getfield 82, 3) := by decide +kernel
theorem dX9_bestChange_82 : decode cX9_bestChange 82 = .ok (.iload 4, 2) := by decide +kernel
theorem dX9_bestChange_84 : decode cX9_bestChange 84 = .ok (.aaload, 1) := by decide +kernel
theorem dX9_bestChange_85 : decode cX9_bestChange 85 = .ok (.aload_n 0, 1) := by decide +kernel
theorem dX9_bestChange_86 : decode cX9_bestChange 86 = .ok (.getfield 27, 3) := by decide +kernel
theorem dX9_bestChange_89 : decode cX9_bestChange 89 = .ok (.getfield 82, 3) := by decide +kernel
theorem dX9_bestChange_92 : decode cX9_bestChange 92 = .ok (.iload 5, 2) := by decide +kernel
theorem dX9_bestChange_94 : decode cX9_bestChange 94 = .ok (.aaload, 1) := by decide +kernel
theorem dX9_bestChange_95 : decode cX9_bestChange 95 = .ok (.getfield 94, 3) := by decide +kernel
theorem dX9_bestChange_98 : decode cX9_bestChange 98 = .ok (.putfield 94, 3) := by decide +kernel
theorem dX9_bestChange_101 : decode cX9_bestChange 101 = .ok (.aload_n 0, 1) := by decide +kernel
theorem dX9_bestChange_102 : decode cX9_bestChange 102 = .ok (.getfield 31, 3) := by decide +kernel
theorem dX9_bestChange_105 : decode cX9_bestChange 105 = .ok (.getfield 82, 3) := by decide +kernel
theorem dX9_bestChange_108 : decode cX9_bestChange 108 = .ok (.iload 5, 2) := by decide +kernel
theorem dX9_bestChange_110 : decode cX9_bestChange 110 = .ok (.aaload, 1) := by decide +kernel
theorem dX9_bestChange_111 : decode cX9_bestChange 111 = .ok (.aload_n 0, 1) := by decide +kernel
theorem dX9_bestChange_112 : decode cX9_bestChange 112 = .ok (.getfield 27, 3) := by decide +kernel
theorem dX9_bestChange_115 : decode cX9_bestChange 115 = .ok (.getfield 82, 3) := by decide +kernel
theorem dX9_bestChange_118 : decode cX9_bestChange 118 = .ok (.iload 4, 2) := by decide +kernel
theorem dX9_bestChange_120 : decode cX9_bestChange 120 = .ok (.aaload, 1) := by decide +kernel
theorem dX9_bestChange_121 : decode cX9_bestChange 121 = .ok (.getfield 94, 3) := by decide +kernel
theorem dX9_bestChange_124 : decode cX9_bestChange 124 = .ok (.putfield 94, 3) := by decide +kernel
theorem dX9_bestChange_127 : decode cX9_bestChange 127 = .ok (.aload_n 0, 1) := by decide +kernel
theorem dX9_bestChange_128 : decode cX9_bestChange 128 = .ok (.getfield 31, 3) := by decide +kernel
theorem dX9_bestChange_131 : decode cX9_bestChange 131 = .ok (.iload_n 1, 1) := by decide +kernel
theorem dX9_bestChange_132 : decode cX9_bestChange 132 = .ok (.iconst (-1), 1) := by decide +kernel
theorem dX9_bestChange_133 : decode cX9_bestChange 133 = .ok (.invokevirtual 174, 3) := by decide +kernel
theorem dX9_bestChange_136 : decode cX9_bestChange 136 = .ok (.aload_n 0, 1) := by decide +kernel
theorem dX9_bestChange_137 : decode cX9_bestChange 137 = .ok (.getfield 31, 3) := by decide +kernel
theorem dX9_bestChange_140 : decode cX9_bestChange 140 = .ok (.invokevirtual 164, 3) := by decide +kernel
theorem dX9_bestChange_143 : decode cX9_bestChange 143 = .ok (.istore 6, 2) := by decide +kernel
theorem dX9_bestChange_145 : decode cX9_bestChange 145 = .ok (.iload 6, 2) := by decide +kernel
theorem dX9_bestChange_147 : decode cX9_bestChange 147 = .ok (.iload_n 2, 1) := by decide +kernel
theorem dX9_bestChange_148 : decode cX9_bestChange 148 = .ok (.if_icmp .ge 15, 3) := by decide +kernel
theorem dX9_bestChange_151 : decode cX9_bestChange 151 = .ok (.iload 6, 2) := by decide +kernel
theorem dX9_bestChange_153 : decode cX9_bestChange 153 = .ok (.istore_n 2, 1) := by decide +kernel
theorem dX9_bestChange_154 : decode cX9_bestChange 154 = .ok (.bipush 10, 2) := by decide +kernel
theorem dX9_bestChange_156 : decode cX9_bestChange 156 = .ok (.iload 4, 2) := by decide +kernel
theorem dX9_bestChange_158 : decode cX9_bestChange 158 = .ok (.imul, 1) := by decide +kernel
theorem dX9_bestChange_159 : decode cX9_bestChange 159 = .ok (.iload 5, 2) := by decide +kernel
theorem dX9_bestChange_161 : decode cX9_bestChange 161 = .ok (.iadd, 1) := by decide +kernel
theorem dX9_bestChange_162 : decode cX9_bestChange 162 = .ok (.istore_n 3, 1) := by decide +kernel
theorem dX9_bestChange_163 : decode cX9_bestChange 163 = .ok (.iinc 5 1, 3) := by decide +kernel
theorem dX9_bestChange_166 : decode cX9_bestChange 166 = .ok (.goto (-114), 3) := by decide +kernel
theorem dX9_bestChange_169 : decode cX9_bestChange 169 = .ok (.iinc 4 1, 3) := by decide +kernel
theorem dX9_bestChange_172 : decode cX9_bestChange 172 = .ok (.goto (-138), 3) := by decide +kernel
theorem dX9_bestChange_175 : decode cX9_bestChange 175 = .ok (.iload_n 3, 1) := by decide +kernel
theorem dX9_bestChange_176 : decode cX9_bestChange 176 = .ok (.ireturn, 1) := by decide +kernel
theorem dX9_bestTarget_0 : decode cX9_bestTarget 0 = .ok (.iconst 0, 1) := by decide +kernel
theorem dX9_bestTarget_1 : decode cX9_bestTarget 1 = .ok (.istore_n 3, 1) := by decide +kernel
theorem dX9_bestTarget_2 : decode cX9_bestTarget 2 = .ok (.bipush (-5), 2) := by decide +kernel
theorem dX9_bestTarget_4 : decode cX9_bestTarget 4 = .ok (.istore 4, 2) := by decide +kernel
theorem dX9_bestTarget_6 : decode cX9_bestTarget 6 = .ok (.iconst 0, 1) := by decide +kernel
theorem dX9_bestTarget_7 : decode cX9_bestTarget 7 = .ok (.istore 5, 2) := by decide +kernel
theorem dX9_bestTarget_9 : decode cX9_bestTarget 9 = .ok (.iload 5, 2) := by decide +kernel
theorem dX9_bestTarget_11 : decode cX9_bestTarget 11 = .ok (.aload_n 0, 1) := by decide +kernel
theorem dX9_bestTarget_12 : decode cX9_bestTarget 12 = .ok (.getfield 27, 3) := by decide +kernel
theorem dX9_bestTarget_15 : decode cX9_bestTarget 15 = .ok (.getfield 208, 3) := by decide +kernel
theorem dX9_bestTarget_18 : decode cX9_bestTarget 18 = .ok (.if_icmp .ge 72, 3) := by decide +kernel
theorem dX9_bestTarget_21 : decode cX9_bestTarget 21 = .ok (.aload_n 0, 1) := by decide +kernel
theorem dX9_bestTarget_22 : decode cX9_bestTarget 22 = .ok (.getfield 31, 3) := by decide +kernel
theorem dX9_bestTarget_25 : decode cX9_bestTarget 25 = .ok (.aload_n 0, 1) := by decide +kernel
theorem dX9_bestTarget_26 : decode cX9_bestTarget 26 = .ok (.getfield 27, 3) := by decide +kernel
theorem dX9_bestTarget_29 : decode cX9_bestTarget 29 = .ok (.invokevirtual 178, 3) := by decide +kernel
theorem dX9_bestTarget_32 : decode cX9_bestTarget 32 = .ok (.aload_n 0, 1) := by decide +kernel
theorem dX9_bestTarget_33 : decode cX9_bestTarget 33 = .ok (.getfield 31, 3) := by decide +kernel
theorem dX9_bestTarget_36 : decode cX9_bestTarget 36 = .ok (.getfield 122, 3) := by decide +kernel
theorem dX9_bestTarget_39 : decode cX9_bestTarget 39 = .ok (.iload_n 1, 1) := by decide +kernel
theorem dX9_bestTarget_40 : decode cX9_bestTarget 40 = .ok (.aaload, 1) := by decide +kernel
theorem dX9_bestTarget_41 : decode cX9_bestTarget 41 = .ok (.iload 5, 2) := by decide +kernel
theorem dX9_bestTarget_43 : decode cX9_bestTarget 43 = .ok (.putfield 134, 3) := by decide +kernel
theorem dX9_bestTarget_46 : decode cX9_bestTarget 46 = .ok (.aload_n 0, 1) := by decide +kernel
theorem dX9_bestTarget_47 : decode cX9_bestTarget 47 = .ok (.getfield 31, 3) := by decide +kernel
theorem dX9_bestTarget_50 : decode cX9_bestTarget 50 = .ok (.iload_n 2, 1) := by decide +kernel
theorem dX9_bestTarget_51 : decode cX9_bestTarget 51 = .ok (.iconst (-1), 1) := by decide +kernel
theorem dX9_bestTarget_52 : decode cX9_bestTarget 52 = .ok (.invokevirtual 174, 3) := by decide +kernel
theorem dX9_bestTarget_55 : decode cX9_bestTarget 55 = .ok (.aload_n 0, 1) := by decide +kernel
theorem dX9_bestTarget_56 : decode cX9_bestTarget 56 = .ok (.getfield 31, 3) := by decide +kernel
theorem dX9_bestTarget_59 : decode cX9_bestTarget 59 = .ok (.invokevirtual 164, 3) := by decide +kernel
theorem dX9_bestTarget_62 : decode cX9_bestTarget 62 = .ok (.istore 6, 2) := by decide +kernel
theorem dX9_bestTarget_64 : decode cX9_bestTarget 64 = .ok (.iload 4, 2) := by decide +kernel
theorem dX9_bestTarget_66 : decode cX9_bestTarget 66 = .ok (.bipush (-5), 2) := by decide +kernel
theorem dX9_bestTarget_68 : decode cX9_bestTarget 68 = .ok (.if_icmp .eq 9, 3) := by decide +kernel
theorem dX9_bestTarget_71 : decode cX9_bestTarget 71 = .ok (.iload 6, 2) := by decide +kernel
theorem dX9_bestTarget_73 : decode cX9_bestTarget 73 = .ok (.iload_n 3, 1) := by decide +kernel
theorem dX9_bestTarget_74 : decode cX9_bestTarget 74 = .ok (.if_icmp .ge 10, 3) := by decide +kernel
theorem dX9_bestTarget_77 : decode cX9_bestTarget 77 = .ok (.iload 6, 2) := by decide +kernel
theorem dX9_bestTarget_79 : decode cX9_bestTarget 79 = .ok (.istore_n 3, 1) := by decide +kernel
theorem dX9_bestTarget_80 : decode cX9_bestTarget 80 = .ok (.iload 5, 2) := by decide +kernel
theorem dX9_bestTarget_82 : decode cX9_bestTarget 82 = .ok (.istore 4, 2) := by decide +kernel
theorem dX9_bestTarget_84 : decode cX9_bestTarget 84 = .ok (.iinc 5 1, 3) := by decide +kernel
theorem dX9_bestTarget_87 : decode cX9_bestTarget 87 = .ok (.goto (-78), 3) := by decide +kernel
theorem dX9_bestTarget_90 : decode cX9_bestTarget 90 = .ok (.iload 4, 2) := by decide +kernel
theorem dX9_bestTarget_92 : decode cX9_bestTarget 92 = .ok (.ireturn, 1) := by decide +kernel
theorem dX9_fitting_0 : decode cX9_fitting 0 = .ok (.iload_n 1, 1) := by decide +kernel
theorem dX9_fitting_1 : decode cX9_fitting 1 = .ok (.ifCond .eq 8, 3) := by decide +kernel
theorem dX9_fitting_4 : decode cX9_fitting 4 = .ok (.bipush 99, 2) := by decide +kernel
theorem dX9_fitting_6 : decode cX9_fitting 6 = .ok (.goto 5, 3) := by decide +kernel
theorem dX9_fitting_9 : decode cX9_fitting 9 = .ok (.bipush 9, 2) := by decide +kernel
theorem dX9_fitting_11 : decode cX9_fitting 11 = .ok (.istore 4, 2) := by decide +kernel
theorem dX9_fitting_13 : decode cX9_fitting 13 = .ok (.iconst 0, 1) := by decide +kernel
theorem dX9_fitting_14 : decode cX9_fitting 14 = .ok (.istore 5, 2) := by decide +kernel
theorem dX9_fitting_16 : decode cX9_fitting 16 = .ok (.aload_n 0, 1) := by decide +kernel
theorem dX9_fitting_17 : decode cX9_fitting 17 = .ok (.getfield 31, 3) := by decide +kernel
theorem dX9_fitting_20 : decode cX9_fitting 20 = .ok (.aload_n 0, 1) := by decide +kernel
theorem dX9_fitting_21 : decode cX9_fitting 21 = .ok (.getfield 27, 3) := by decide +kernel
theorem dX9_fitting_24 : decode cX9_fitting 24 = .ok (.invokevirtual 178, 3) := by decide +kernel
theorem dX9_fitting_27 : decode cX9_fitting 27 = .ok (.aload_n 0, 1) := by decide +kernel
theorem dX9_fitting_28 : decode cX9_fitting 28 = .ok (.iload_n 1, 1) := by decide +kernel
theorem dX9_fitting_29 : decode cX9_fitting 29 = .ok (.iload_n 2, 1) := by decide +kernel
theorem dX9_fitting_30 : decode cX9_fitting 30 = .ok (.iconst 0, 1) := by decide +kernel
theorem dX9_fitting_31 : decode cX9_fitting 31 = .ok (.invokevirtual 289, 3) := by decide +kernel
theorem dX9_fitting_34 : decode cX9_fitting 34 = .ok (.istore 6, 2) := by decide +kernel
theorem dX9_fitting_36 : decode cX9_fitting 36 = .ok (.iconst 0, 1) := by decide +kernel
theorem dX9_fitting_37 : decode cX9_fitting 37 = .ok (.istore 7, 2) := by decide +kernel
theorem dX9_fitting_39 : decode cX9_fitting 39 = .ok (.iload 6, 2) := by decide +kernel
theorem dX9_fitting_41 : decode cX9_fitting 41 = .ok (.ifCond .eq 83, 3) := by decide +kernel
theorem dX9_fitting_44 : decode cX9_fitting 44 = .ok (.iload 7, 2) := by decide +kernel
theorem dX9_fitting_46 : decode cX9_fitting 46 = .ok (.iload 4, 2) := by decide +kernel
theorem dX9_fitting_48 : decode cX9_fitting 48 = .ok (.if_icmp .gt 76, 3) := by decide +kernel
theorem dX9_fitting_51 : decode cX9_fitting 51 = .ok (.aload_n 0, 1) := by decide +kernel
theorem dX9_fitting_52 : decode cX9_fitting 52 = .ok (.getfield 31, 3) := by decide +kernel
theorem dX9_fitting_55 : decode cX9_fitting 55 = .ok (.aload_n 0, 1) := by decide +kernel
theorem dX9_fitting_56 : decode cX9_fitting 56 = .ok (.getfield 27, 3) := by decide +kernel
theorem dX9_fitting_59 : decode cX9_fitting 59 = .ok (.iload_n 2, 1) := by decide +kernel
theorem dX9_fitting_60 : decode cX9_fitting 60 = .ok (.invokevirtual 293, 3) := by decide +kernel
theorem dX9_fitting_63 : decode cX9_fitting 63 = .ok (.iload_n 1, 1) := by decide +kernel
theorem dX9_fitting_64 : decode cX9_fitting 64 = .ok (.ifCond .eq 20, 3) := by decide +kernel
theorem dX9_fitting_67 : decode cX9_fitting 67 = .ok (.aload_n 0, 1) := by decide +kernel
theorem dX9_fitting_68 : decode cX9_fitting 68 = .ok (.getfield 31, 3) := by decide +kernel
theorem dX9_fitting_71 : decode cX9_fitting 71 = .ok (.getfield 82, 3) := by decide +kernel
theorem dX9_fitting_74 : decode cX9_fitting 74 = .ok (.iload_n 2, 1) := by decide +kernel
theorem dX9_fitting_75 : decode cX9_fitting 75 = .ok (.aaload, 1) := by decide +kernel
theorem dX9_fitting_76 : decode cX9_fitting 76 = .ok (.iload 7, 2) := by decide +kernel
theorem dX9_fitting_78 : decode cX9_fitting 78 = .ok (.putfield 94, 3) := by decide +kernel
theorem dX9_fitting_81 : decode cX9_fitting 81 = .ok (.goto 17, 3) := by decide +kernel
theorem dX9_fitting_84 : decode cX9_fitting 84 = .ok (.aload_n 0, 1) := by decide +kernel
theorem dX9_fitting_85 : decode cX9_fitting 85 = .ok (.getfield 31, 3) := by decide +kernel
theorem dX9_fitting_88 : decode cX9_fitting 88 = .ok (.getfield 82, 3) := by decide +kernel
theorem dX9_fitting_91 : decode cX9_fitting 91 = .ok (.iload_n 2, 1) := by decide +kernel
theorem dX9_fitting_92 : decode cX9_fitting 92 = .ok (.aaload, 1) := by decide +kernel
theorem dX9_fitting_93 : decode cX9_fitting 93 = .ok (.iload 7, 2) := by decide +kernel
theorem dX9_fitting_95 : decode cX9_fitting 95 = .ok (.putfield 91, 3) := by decide +kernel
theorem dX9_fitting_98 : decode cX9_fitting 98 = .ok (.aload_n 0, 1) := by decide +kernel
theorem dX9_fitting_99 : decode cX9_fitting 99 = .ok (.iload_n 1, 1) := by decide +kernel
theorem dX9_fitting_100 : decode cX9_fitting 100 = .ok (.iload_n 2, 1) := by decide +kernel
theorem dX9_fitting_101 : decode cX9_fitting 101 = .ok (.iconst 1, 1) := by decide +kernel
theorem dX9_fitting_102 : decode cX9_fitting 102 = .ok (.invokevirtual 289, 3) := by decide +kernel
theorem dX9_fitting_105 : decode cX9_fitting 105 = .ok (.ifCond .eq 13, 3) := by decide +kernel
theorem dX9_fitting_108 : decode cX9_fitting 108 = .ok (.iload_n 3, 1) := by decide +kernel
theorem dX9_fitting_109 : decode cX9_fitting 109 = .ok (.ifCond .eq 6, 3) := by decide +kernel
theorem dX9_fitting_112 : decode cX9_fitting 112 = .ok (.iload 7, 2) := by decide +kernel
theorem dX9_fitting_114 : decode cX9_fitting 114 = .ok (.ireturn, 1) := by decide +kernel
theorem dX9_fitting_115 : decode cX9_fitting 115 = .ok (.iinc 5 1, 3) := by decide +kernel
theorem dX9_fitting_118 : decode cX9_fitting 118 = .ok (.iinc 7 1, 3) := by decide +kernel
theorem dX9_fitting_121 : decode cX9_fitting 121 = .ok (.goto (-82), 3) := by decide +kernel
theorem dX9_fitting_124 : decode cX9_fitting 124 = .ok (.iload_n 3, 1) := by decide +kernel
theorem dX9_fitting_125 : decode cX9_fitting 125 = .ok (.ifCond .eq 8, 3) := by decide +kernel
theorem dX9_fitting_128 : decode cX9_fitting 128 = .ok (.bipush (-5), 2) := by decide +kernel
theorem dX9_fitting_130 : decode cX9_fitting 130 = .ok (.goto 5, 3) := by decide +kernel
theorem dX9_fitting_133 : decode cX9_fitting 133 = .ok (.iload 5, 2) := by decide +kernel
theorem dX9_fitting_135 : decode cX9_fitting 135 = .ok (.ireturn, 1) := by decide +kernel
theorem dX9_rowsFit_0 : decode cX9_rowsFit 0 = .ok (.iload_n 1, 1) := by decide +kernel
theorem dX9_rowsFit_1 : decode cX9_rowsFit 1 = .ok (.ifCond .eq 13, 3) := by decide +kernel
theorem dX9_rowsFit_4 : decode cX9_rowsFit 4 = .ok (.aload_n 0, 1) := by decide +kernel
theorem dX9_rowsFit_5 : decode cX9_rowsFit 5 = .ok (.getfield 40, 3) := by decide +kernel
theorem dX9_rowsFit_8 : decode cX9_rowsFit 8 = .ok (.getfield 191, 3) := by decide +kernel
theorem dX9_rowsFit_11 : decode cX9_rowsFit 11 = .ok (.goto 10, 3) := by decide +kernel
theorem dX9_rowsFit_14 : decode cX9_rowsFit 14 = .ok (.aload_n 0, 1) := by decide +kernel
theorem dX9_rowsFit_15 : decode cX9_rowsFit 15 = .ok (.getfield 40, 3) := by decide +kernel
theorem dX9_rowsFit_18 : decode cX9_rowsFit 18 = .ok (.getfield 203, 3) := by decide +kernel
theorem dX9_rowsFit_21 : decode cX9_rowsFit 21 = .ok (.astore 4, 2) := by decide +kernel
theorem dX9_rowsFit_23 : decode cX9_rowsFit 23 = .ok (.aload 4, 2) := by decide +kernel
theorem dX9_rowsFit_25 : decode cX9_rowsFit 25 = .ok (.invokevirtual 297, 3) := by decide +kernel
theorem dX9_rowsFit_28 : decode cX9_rowsFit 28 = .ok (.istore 5, 2) := by decide +kernel
theorem dX9_rowsFit_30 : decode cX9_rowsFit 30 = .ok (.iconst 0, 1) := by decide +kernel
theorem dX9_rowsFit_31 : decode cX9_rowsFit 31 = .ok (.istore 6, 2) := by decide +kernel
theorem dX9_rowsFit_33 : decode cX9_rowsFit 33 = .ok (.iload 6, 2) := by decide +kernel
theorem dX9_rowsFit_35 : decode cX9_rowsFit 35 = .ok (.iload 5, 2) := by decide +kernel
theorem dX9_rowsFit_37 : decode cX9_rowsFit 37 = .ok (.if_icmp .gt 122, 3) := by decide +kernel
theorem dX9_rowsFit_40 : decode cX9_rowsFit 40 = .ok (.iload 6, 2) := by decide +kernel
theorem dX9_rowsFit_42 : decode cX9_rowsFit 42 = .ok (.ifCond .le 20, 3) := by decide +kernel
theorem dX9_rowsFit_45 : decode cX9_rowsFit 45 = .ok (.aload_n 0, 1) := by decide +kernel
theorem dX9_rowsFit_46 : decode cX9_rowsFit 46 = .ok (.getfield 31, 3) := by decide +kernel
theorem dX9_rowsFit_49 : decode cX9_rowsFit 49 = .ok (.iconst 1, 1) := by decide +kernel
theorem dX9_rowsFit_50 : decode cX9_rowsFit 50 = .ok (.iload_n 3, 1) := by decide +kernel
theorem dX9_rowsFit_51 : decode cX9_rowsFit 51 = .ok (.ifCond .eq 7, 3) := by decide +kernel
theorem dX9_rowsFit_54 : decode cX9_rowsFit 54 = .ok (.iload_n 2, 1) := by decide +kernel
theorem dX9_rowsFit_55 : decode cX9_rowsFit 55 = .ok (.goto 4, 3) := by decide +kernel
theorem dX9_rowsFit_58 : decode cX9_rowsFit 58 = .ok (.iconst (-1), 1) := by decide +kernel
theorem dX9_rowsFit_59 : decode cX9_rowsFit 59 = .ok (.invokevirtual 174, 3) := by decide +kernel
theorem dX9_rowsFit_62 : decode cX9_rowsFit 62 = .ok (.iconst 0, 1) := by decide +kernel
theorem dX9_rowsFit_63 : decode cX9_rowsFit 63 = .ok (.istore 7, 2) := by decide +kernel
theorem dX9_rowsFit_65 : decode cX9_rowsFit 65 = .ok (.iload 7, 2) := by decide +kernel
theorem dX9_rowsFit_67 : decode cX9_rowsFit 67 = .ok (.aload 4, 2) := by decide +kernel
theorem dX9_rowsFit_69 : decode cX9_rowsFit 69 = .ok (.getfield 221, 3) := by decide +kernel
theorem dX9_rowsFit_72 : decode cX9_rowsFit 72 = .ok (.if_icmp .ge 81, 3) := by decide +kernel
theorem dX9_rowsFit_75 : decode cX9_rowsFit 75 = .ok (.aload 4, 2) := by decide +kernel
theorem dX9_rowsFit_77 : decode cX9_rowsFit 77 = .ok (.getfield 224, 3) := by decide +kernel
theorem dX9_rowsFit_80 : decode cX9_rowsFit 80 = .ok (.iload 7, 2) := by decide +kernel
theorem dX9_rowsFit_82 : decode cX9_rowsFit 82 = .ok (.iaload, 1) := by decide +kernel
theorem dX9_rowsFit_83 : decode cX9_rowsFit 83 = .ok (.iload 6, 2) := by decide +kernel
theorem dX9_rowsFit_85 : decode cX9_rowsFit 85 = .ok (.if_icmp .ne 28, 3) := by decide +kernel
theorem dX9_rowsFit_88 : decode cX9_rowsFit 88 = .ok (.aload 4, 2) := by decide +kernel
theorem dX9_rowsFit_90 : decode cX9_rowsFit 90 = .ok (.getfield 227, 3) := by decide +kernel
theorem dX9_rowsFit_93 : decode cX9_rowsFit 93 = .ok (.iload 7, 2) := by decide +kernel
theorem dX9_rowsFit_95 : decode cX9_rowsFit 95 = .ok (.iaload, 1) := by decide +kernel
theorem dX9_rowsFit_96 : decode cX9_rowsFit 96 = .ok (.iload_n 2, 1) := by decide +kernel
theorem dX9_rowsFit_97 : decode cX9_rowsFit 97 = .ok (.if_icmp .ne 7, 3) := by decide +kernel
theorem dX9_rowsFit_100 : decode cX9_rowsFit 100 = .ok (.iconst 1, 1) := by decide +kernel
theorem dX9_rowsFit_101 : decode cX9_rowsFit 101 = .ok (.goto 4, 3) := by decide +kernel
theorem dX9_rowsFit_104 : decode cX9_rowsFit 104 = .ok (.iconst 0, 1) := by decide +kernel
theorem dX9_rowsFit_105 : decode cX9_rowsFit 105 = .ok (.iload_n 3, 1) := by decide +kernel
theorem dX9_rowsFit_106 : decode cX9_rowsFit 106 = .ok (.if_icmp .ne 7, 3) := by decide +kernel
theorem dX9_rowsFit_109 : decode cX9_rowsFit 109 = .ok (.iconst 1, 1) := by decide +kernel
theorem dX9_rowsFit_110 : decode cX9_rowsFit 110 = .ok (.goto 4, 3) := by decide +kernel
theorem dX9_rowsFit_113 : decode cX9_rowsFit 113 = .ok (.iconst 0, 1) := by decide +kernel
theorem dX9_rowsFit_114 : decode cX9_rowsFit 114 = .ok (.istore 8, 2) := by decide +kernel
theorem dX9_rowsFit_116 : decode cX9_rowsFit 116 = .ok (.iload 8, 2) := by decide +kernel
theorem dX9_rowsFit_118 : decode cX9_rowsFit 118 = .ok (.ifCond .eq 29, 3) := by decide +kernel
theorem dX9_rowsFit_121 : decode cX9_rowsFit 121 = .ok (.aload_n 0, 1) := by decide +kernel
theorem dX9_rowsFit_122 : decode cX9_rowsFit 122 = .ok (.aload 4, 2) := by decide +kernel
theorem dX9_rowsFit_124 : decode cX9_rowsFit 124 = .ok (.getfield 227, 3) := by decide +kernel
theorem dX9_rowsFit_127 : decode cX9_rowsFit 127 = .ok (.iload 7, 2) := by decide +kernel
theorem dX9_rowsFit_129 : decode cX9_rowsFit 129 = .ok (.iaload, 1) := by decide +kernel
theorem dX9_rowsFit_130 : decode cX9_rowsFit 130 = .ok (.iload_n 1, 1) := by decide +kernel
theorem dX9_rowsFit_131 : decode cX9_rowsFit 131 = .ok (.invokevirtual 300, 3) := by decide +kernel
theorem dX9_rowsFit_134 : decode cX9_rowsFit 134 = .ok (.aload 4, 2) := by decide +kernel
theorem dX9_rowsFit_136 : decode cX9_rowsFit 136 = .ok (.getfield 236, 3) := by decide +kernel
theorem dX9_rowsFit_139 : decode cX9_rowsFit 139 = .ok (.iload 7, 2) := by decide +kernel
theorem dX9_rowsFit_141 : decode cX9_rowsFit 141 = .ok (.iaload, 1) := by decide +kernel
theorem dX9_rowsFit_142 : decode cX9_rowsFit 142 = .ok (.if_icmp .eq 5, 3) := by decide +kernel
theorem dX9_rowsFit_145 : decode cX9_rowsFit 145 = .ok (.iconst 0, 1) := by decide +kernel
theorem dX9_rowsFit_146 : decode cX9_rowsFit 146 = .ok (.ireturn, 1) := by decide +kernel
theorem dX9_rowsFit_147 : decode cX9_rowsFit 147 = .ok (.iinc 7 1, 3) := by decide +kernel
theorem dX9_rowsFit_150 : decode cX9_rowsFit 150 = .ok (.goto (-85), 3) := by decide +kernel
theorem dX9_rowsFit_153 : decode cX9_rowsFit 153 = .ok (.iinc 6 1, 3) := by decide +kernel
theorem dX9_rowsFit_156 : decode cX9_rowsFit 156 = .ok (.goto (-123), 3) := by decide +kernel
theorem dX9_rowsFit_159 : decode cX9_rowsFit 159 = .ok (.iconst 1, 1) := by decide +kernel
theorem dX9_rowsFit_160 : decode cX9_rowsFit 160 = .ok (.ireturn, 1) := by decide +kernel
theorem dX9_trialValue_0 : decode cX9_trialValue 0 = .ok (.iload_n 2, 1) := by decide +kernel
theorem dX9_trialValue_1 : decode cX9_trialValue 1 = .ok (.ifCond .eq 18, 3) := by decide +kernel
theorem dX9_trialValue_4 : decode cX9_trialValue 4 = .ok (.aload_n 0, 1) := by decide +kernel
theorem dX9_trialValue_5 : decode cX9_trialValue 5 = .ok (.getfield 31, 3) := by decide +kernel
theorem dX9_trialValue_8 : decode cX9_trialValue 8 = .ok (.getfield 82, 3) := by decide +kernel
theorem dX9_trialValue_11 : decode cX9_trialValue 11 = .ok (.iload_n 1, 1) := by decide +kernel
theorem dX9_trialValue_12 : decode cX9_trialValue 12 = .ok (.aaload, 1) := by decide +kernel
theorem dX9_trialValue_13 : decode cX9_trialValue 13 = .ok (.getfield 94, 3) := by decide +kernel
theorem dX9_trialValue_16 : decode cX9_trialValue 16 = .ok (.goto 16, 3) := by decide +kernel
theorem dX9_trialValue_19 : decode cX9_trialValue 19 = .ok (.aload_n 0, 1) := by decide +kernel
theorem dX9_trialValue_20 : decode cX9_trialValue 20 = .ok (.iload_n 1, 1) := by decide +kernel
theorem dX9_trialValue_21 : decode cX9_trialValue 21 = .ok (.invokevirtual 211, 3) := by decide +kernel
theorem dX9_trialValue_24 : decode cX9_trialValue 24 = .ok (.ifCond .eq 7, 3) := by decide +kernel
theorem dX9_trialValue_27 : decode cX9_trialValue 27 = .ok (.iconst 1, 1) := by decide +kernel
theorem dX9_trialValue_28 : decode cX9_trialValue 28 = .ok (.goto 4, 3) := by decide +kernel
theorem dX9_trialValue_31 : decode cX9_trialValue 31 = .ok (.iconst 0, 1) := by decide +kernel
theorem dX9_trialValue_32 : decode cX9_trialValue 32 = .ok (.ireturn, 1) := by decide +kernel
theorem dX9_followPlan_0 : decode cX9_followPlan 0 = .ok (.iload_n 1, 1) := by decide +kernel
theorem dX9_followPlan_1 : decode cX9_followPlan 1 = .ok (.tableswitch 73 0 2 #[27, 39, 56], 27) := by decide +kernel
theorem dX9_followPlan_28 : decode cX9_followPlan 28 = .ok (.aload_n 0, 1) := by decide +kernel
theorem dX9_followPlan_29 : decode cX9_followPlan 29 = .ok (.getfield 31, 3) := by decide +kernel
theorem dX9_followPlan_32 : decode cX9_followPlan 32 = .ok (.iconst 1, 1) := by decide +kernel
theorem dX9_followPlan_33 : decode cX9_followPlan 33 = .ok (.iconst (-1), 1) := by decide +kernel
theorem dX9_followPlan_34 : decode cX9_followPlan 34 = .ok (.invokevirtual 174, 3) := by decide +kernel
theorem dX9_followPlan_37 : decode cX9_followPlan 37 = .ok (.goto 50, 3) := by decide +kernel
theorem dX9_followPlan_40 : decode cX9_followPlan 40 = .ok (.aload_n 0, 1) := by decide +kernel
theorem dX9_followPlan_41 : decode cX9_followPlan 41 = .ok (.getfield 31, 3) := by decide +kernel
theorem dX9_followPlan_44 : decode cX9_followPlan 44 = .ok (.getfield 82, 3) := by decide +kernel
theorem dX9_followPlan_47 : decode cX9_followPlan 47 = .ok (.iload_n 2, 1) := by decide +kernel
theorem dX9_followPlan_48 : decode cX9_followPlan 48 = .ok (.aaload, 1) := by decide +kernel
theorem dX9_followPlan_49 : decode cX9_followPlan 49 = .ok (.bipush 99, 2) := by decide +kernel
theorem dX9_followPlan_51 : decode cX9_followPlan 51 = .ok (.putfield 94, 3) := by decide +kernel
theorem dX9_followPlan_54 : decode cX9_followPlan 54 = .ok (.goto 33, 3) := by decide +kernel
theorem dX9_followPlan_57 : decode cX9_followPlan 57 = .ok (.aload_n 0, 1) := by decide +kernel
theorem dX9_followPlan_58 : decode cX9_followPlan 58 = .ok (.getfield 31, 3) := by decide +kernel
theorem dX9_followPlan_61 : decode cX9_followPlan 61 = .ok (.getfield 122, 3) := by decide +kernel
theorem dX9_followPlan_64 : decode cX9_followPlan 64 = .ok (.iload_n 2, 1) := by decide +kernel
theorem dX9_followPlan_65 : decode cX9_followPlan 65 = .ok (.aaload, 1) := by decide +kernel
theorem dX9_followPlan_66 : decode cX9_followPlan 66 = .ok (.bipush (-5), 2) := by decide +kernel
theorem dX9_followPlan_68 : decode cX9_followPlan 68 = .ok (.putfield 134, 3) := by decide +kernel
theorem dX9_followPlan_71 : decode cX9_followPlan 71 = .ok (.goto 16, 3) := by decide +kernel
theorem dX9_followPlan_74 : decode cX9_followPlan 74 = .ok (.aload_n 0, 1) := by decide +kernel
theorem dX9_followPlan_75 : decode cX9_followPlan 75 = .ok (.getfield 31, 3) := by decide +kernel
theorem dX9_followPlan_78 : decode cX9_followPlan 78 = .ok (.getfield 82, 3) := by decide +kernel
theorem dX9_followPlan_81 : decode cX9_followPlan 81 = .ok (.iload_n 2, 1) := by decide +kernel
theorem dX9_followPlan_82 : decode cX9_followPlan 82 = .ok (.aaload, 1) := by decide +kernel
theorem dX9_followPlan_83 : decode cX9_followPlan 83 = .ok (.iconst 0, 1) := by decide +kernel
theorem dX9_followPlan_84 : decode cX9_followPlan 84 = .ok (.putfield 100, 3) := by decide +kernel
theorem dX9_followPlan_87 : decode cX9_followPlan 87 = .ok (.return_, 1) := by decide +kernel
theorem dJ11_isValidCodePoint_9a6ad_0 : decode cJ11_isValidCodePoint_9a6ad 0 = .ok (.iload_n 0, 1) := by decide +kernel
theorem dJ11_isValidCodePoint_9a6ad_1 : decode cJ11_isValidCodePoint_9a6ad 1 = .ok (.bipush 16, 2) := by decide +kernel
theorem dJ11_isValidCodePoint_9a6ad_3 : decode cJ11_isValidCodePoint_9a6ad 3 = .ok (.iushr, 1) := by decide +kernel
theorem dJ11_isValidCodePoint_9a6ad_4 : decode cJ11_isValidCodePoint_9a6ad 4 = .ok (.istore_n 1, 1) := by decide +kernel
theorem dJ11_isValidCodePoint_9a6ad_5 : decode cJ11_isValidCodePoint_9a6ad 5 = .ok (.iload_n 1, 1) := by decide +kernel
theorem dJ11_isValidCodePoint_9a6ad_6 : decode cJ11_isValidCodePoint_9a6ad 6 = .ok (.bipush 17, 2) := by decide +kernel
theorem dJ11_isValidCodePoint_9a6ad_8 : decode cJ11_isValidCodePoint_9a6ad 8 = .ok (.if_icmp .ge 7, 3) := by decide +kernel
theorem dJ11_isValidCodePoint_9a6ad_11 : decode cJ11_isValidCodePoint_9a6ad 11 = .ok (.iconst 1, 1) := by decide +kernel
theorem dJ11_isValidCodePoint_9a6ad_12 : decode cJ11_isValidCodePoint_9a6ad 12 = .ok (.goto 4, 3) := by decide +kernel
theorem dJ11_isValidCodePoint_9a6ad_15 : decode cJ11_isValidCodePoint_9a6ad 15 = .ok (.iconst 0, 1) := by decide +kernel
theorem dJ11_isValidCodePoint_9a6ad_16 : decode cJ11_isValidCodePoint_9a6ad 16 = .ok (.ireturn, 1) := by decide +kernel
theorem dJ11_highSurrogate_5068e_0 : decode cJ11_highSurrogate_5068e 0 = .ok (.iload_n 0, 1) := by decide +kernel
theorem dJ11_highSurrogate_5068e_1 : decode cJ11_highSurrogate_5068e 1 = .ok (.bipush 10, 2) := by decide +kernel
theorem dJ11_highSurrogate_5068e_3 : decode cJ11_highSurrogate_5068e 3 = .ok (.iushr, 1) := by decide +kernel
theorem dJ11_highSurrogate_5068e_4 : decode cJ11_highSurrogate_5068e 4 = .ok (.ldc 110, 2) := by decide +kernel
theorem dJ11_highSurrogate_5068e_6 : decode cJ11_highSurrogate_5068e 6 = .ok (.iadd, 1) := by decide +kernel
theorem dJ11_highSurrogate_5068e_7 : decode cJ11_highSurrogate_5068e 7 = .ok (.i2c, 1) := by decide +kernel
theorem dJ11_highSurrogate_5068e_8 : decode cJ11_highSurrogate_5068e 8 = .ok (.ireturn, 1) := by decide +kernel
theorem dJ11_lowSurrogate_5068e_0 : decode cJ11_lowSurrogate_5068e 0 = .ok (.iload_n 0, 1) := by decide +kernel
theorem dJ11_lowSurrogate_5068e_1 : decode cJ11_lowSurrogate_5068e 1 = .ok (.sipush 1023, 3) := by decide +kernel
theorem dJ11_lowSurrogate_5068e_4 : decode cJ11_lowSurrogate_5068e 4 = .ok (.iand, 1) := by decide +kernel
theorem dJ11_lowSurrogate_5068e_5 : decode cJ11_lowSurrogate_5068e 5 = .ok (.ldc 76, 2) := by decide +kernel
theorem dJ11_lowSurrogate_5068e_7 : decode cJ11_lowSurrogate_5068e 7 = .ok (.iadd, 1) := by decide +kernel
theorem dJ11_lowSurrogate_5068e_8 : decode cJ11_lowSurrogate_5068e 8 = .ok (.i2c, 1) := by decide +kernel
theorem dJ11_lowSurrogate_5068e_9 : decode cJ11_lowSurrogate_5068e 9 = .ok (.ireturn, 1) := by decide +kernel
theorem dJ9_max_7cf53_0 : decode cJ9_max_7cf53 0 = .ok (.iload_n 0, 1) := by decide +kernel
theorem dJ9_max_7cf53_1 : decode cJ9_max_7cf53 1 = .ok (.iload_n 1, 1) := by decide +kernel
theorem dJ9_max_7cf53_2 : decode cJ9_max_7cf53 2 = .ok (.if_icmp .lt 7, 3) := by decide +kernel
theorem dJ9_max_7cf53_5 : decode cJ9_max_7cf53 5 = .ok (.iload_n 0, 1) := by decide +kernel
theorem dJ9_max_7cf53_6 : decode cJ9_max_7cf53 6 = .ok (.goto 4, 3) := by decide +kernel
theorem dJ9_max_7cf53_9 : decode cJ9_max_7cf53 9 = .ok (.iload_n 1, 1) := by decide +kernel
theorem dJ9_max_7cf53_10 : decode cJ9_max_7cf53 10 = .ok (.ireturn, 1) := by decide +kernel
theorem dJ9_min_7cf53_0 : decode cJ9_min_7cf53 0 = .ok (.iload_n 0, 1) := by decide +kernel
theorem dJ9_min_7cf53_1 : decode cJ9_min_7cf53 1 = .ok (.iload_n 1, 1) := by decide +kernel
theorem dJ9_min_7cf53_2 : decode cJ9_min_7cf53 2 = .ok (.if_icmp .gt 7, 3) := by decide +kernel
theorem dJ9_min_7cf53_5 : decode cJ9_min_7cf53 5 = .ok (.iload_n 0, 1) := by decide +kernel
theorem dJ9_min_7cf53_6 : decode cJ9_min_7cf53 6 = .ok (.goto 4, 3) := by decide +kernel
theorem dJ9_min_7cf53_9 : decode cJ9_min_7cf53 9 = .ok (.iload_n 1, 1) := by decide +kernel
theorem dJ9_min_7cf53_10 : decode cJ9_min_7cf53 10 = .ok (.ireturn, 1) := by decide +kernel
theorem dJ0_length_8abf5_0 : decode cJ0_length_8abf5 0 = .ok (.aload_n 0, 1) := by decide +kernel
theorem dJ0_length_8abf5_1 : decode cJ0_length_8abf5 1 = .ok (.getfield 9, 3) := by decide +kernel
theorem dJ0_length_8abf5_4 : decode cJ0_length_8abf5 4 = .ok (.arraylength, 1) := by decide +kernel
theorem dJ0_length_8abf5_5 : decode cJ0_length_8abf5 5 = .ok (.aload_n 0, 1) := by decide +kernel
theorem dJ0_length_8abf5_6 : decode cJ0_length_8abf5 6 = .ok (.invokevirtual 335, 3) := by decide +kernel
theorem dJ0_length_8abf5_9 : decode cJ0_length_8abf5 9 = .ok (.ishr, 1) := by decide +kernel
theorem dJ0_length_8abf5_10 : decode cJ0_length_8abf5 10 = .ok (.ireturn, 1) := by decide +kernel
theorem dJ0_charAt_5068e_0 : decode cJ0_charAt_5068e 0 = .ok (.aload_n 0, 1) := by decide +kernel
theorem dJ0_charAt_5068e_1 : decode cJ0_charAt_5068e 1 = .ok (.invokevirtual 492, 3) := by decide +kernel
theorem dJ0_charAt_5068e_4 : decode cJ0_charAt_5068e 4 = .ok (.ifCond .eq 12, 3) := by decide +kernel
theorem dJ0_charAt_5068e_7 : decode cJ0_charAt_5068e 7 = .ok (.aload_n 0, 1) := by decide +kernel
theorem dJ0_charAt_5068e_8 : decode cJ0_charAt_5068e 8 = .ok (.getfield 9, 3) := by decide +kernel
theorem dJ0_charAt_5068e_11 : decode cJ0_charAt_5068e 11 = .ok (.iload_n 1, 1) := by decide +kernel
theorem dJ0_charAt_5068e_12 : decode cJ0_charAt_5068e 12 = .ok (.invokestatic 495, 3) := by decide +kernel
theorem dJ0_charAt_5068e_15 : decode cJ0_charAt_5068e 15 = .ok (.ireturn, 1) := by decide +kernel
theorem dJ0_charAt_5068e_16 : decode cJ0_charAt_5068e 16 = .ok (.aload_n 0, 1) := by decide +kernel
theorem dJ0_charAt_5068e_17 : decode cJ0_charAt_5068e 17 = .ok (.getfield 9, 3) := by decide +kernel
theorem dJ0_charAt_5068e_20 : decode cJ0_charAt_5068e 20 = .ok (.iload_n 1, 1) := by decide +kernel
theorem dJ0_charAt_5068e_21 : decode cJ0_charAt_5068e 21 = .ok (.invokestatic 498, 3) := by decide +kernel
theorem dJ0_charAt_5068e_24 : decode cJ0_charAt_5068e 24 = .ok (.ireturn, 1) := by decide +kernel
theorem dJ0_indexOf_0f7a4_0 : decode cJ0_indexOf_0f7a4 0 = .ok (.aload_n 0, 1) := by decide +kernel
theorem dJ0_indexOf_0f7a4_1 : decode cJ0_indexOf_0f7a4 1 = .ok (.iload_n 1, 1) := by decide +kernel
theorem dJ0_indexOf_0f7a4_2 : decode cJ0_indexOf_0f7a4 2 = .ok (.iconst 0, 1) := by decide +kernel
theorem dJ0_indexOf_0f7a4_3 : decode cJ0_indexOf_0f7a4 3 = .ok (.invokevirtual 633, 3) := by decide +kernel
theorem dJ0_indexOf_0f7a4_6 : decode cJ0_indexOf_0f7a4 6 = .ok (.ireturn, 1) := by decide +kernel
theorem dJ0_indexOf_7cf53_0 : decode cJ0_indexOf_7cf53 0 = .ok (.aload_n 0, 1) := by decide +kernel
theorem dJ0_indexOf_7cf53_1 : decode cJ0_indexOf_7cf53 1 = .ok (.invokevirtual 492, 3) := by decide +kernel
theorem dJ0_indexOf_7cf53_4 : decode cJ0_indexOf_7cf53 4 = .ok (.ifCond .eq 19, 3) := by decide +kernel
theorem dJ0_indexOf_7cf53_7 : decode cJ0_indexOf_7cf53 7 = .ok (.aload_n 0, 1) := by decide +kernel
theorem dJ0_indexOf_7cf53_8 : decode cJ0_indexOf_7cf53 8 = .ok (.getfield 9, 3) := by decide +kernel
theorem dJ0_indexOf_7cf53_11 : decode cJ0_indexOf_7cf53 11 = .ok (.iload_n 1, 1) := by decide +kernel
theorem dJ0_indexOf_7cf53_12 : decode cJ0_indexOf_7cf53 12 = .ok (.iload_n 2, 1) := by decide +kernel
theorem dJ0_indexOf_7cf53_13 : decode cJ0_indexOf_7cf53 13 = .ok (.aload_n 0, 1) := by decide +kernel
theorem dJ0_indexOf_7cf53_14 : decode cJ0_indexOf_7cf53 14 = .ok (.invokevirtual 505, 3) := by decide +kernel
theorem dJ0_indexOf_7cf53_17 : decode cJ0_indexOf_7cf53 17 = .ok (.invokestatic 637, 3) := by decide +kernel
theorem dJ0_indexOf_7cf53_20 : decode cJ0_indexOf_7cf53 20 = .ok (.goto 16, 3) := by decide +kernel
theorem dJ0_indexOf_7cf53_23 : decode cJ0_indexOf_7cf53 23 = .ok (.aload_n 0, 1) := by decide +kernel
theorem dJ0_indexOf_7cf53_24 : decode cJ0_indexOf_7cf53 24 = .ok (.getfield 9, 3) := by decide +kernel
theorem dJ0_indexOf_7cf53_27 : decode cJ0_indexOf_7cf53 27 = .ok (.iload_n 1, 1) := by decide +kernel
theorem dJ0_indexOf_7cf53_28 : decode cJ0_indexOf_7cf53 28 = .ok (.iload_n 2, 1) := by decide +kernel
theorem dJ0_indexOf_7cf53_29 : decode cJ0_indexOf_7cf53 29 = .ok (.aload_n 0, 1) := by decide +kernel
theorem dJ0_indexOf_7cf53_30 : decode cJ0_indexOf_7cf53 30 = .ok (.invokevirtual 505, 3) := by decide +kernel
theorem dJ0_indexOf_7cf53_33 : decode cJ0_indexOf_7cf53 33 = .ok (.invokestatic 640, 3) := by decide +kernel
theorem dJ0_indexOf_7cf53_36 : decode cJ0_indexOf_7cf53 36 = .ok (.ireturn, 1) := by decide +kernel
theorem dJ0_coder_7d493_0 : decode cJ0_coder_7d493 0 = .ok (.getstatic 38, 3) := by decide +kernel
theorem dJ0_coder_7d493_3 : decode cJ0_coder_7d493 3 = .ok (.ifCond .eq 10, 3) := by decide +kernel
theorem dJ0_coder_7d493_6 : decode cJ0_coder_7d493 6 = .ok (.aload_n 0, 1) := by decide +kernel
theorem dJ0_coder_7d493_7 : decode cJ0_coder_7d493 7 = .ok (.getfield 15, 3) := by decide +kernel
theorem dJ0_coder_7d493_10 : decode cJ0_coder_7d493 10 = .ok (.goto 4, 3) := by decide +kernel
theorem dJ0_coder_7d493_13 : decode cJ0_coder_7d493 13 = .ok (.iconst 1, 1) := by decide +kernel
theorem dJ0_coder_7d493_14 : decode cJ0_coder_7d493 14 = .ok (.ireturn, 1) := by decide +kernel
theorem dJ0_isLatin1_aae02_0 : decode cJ0_isLatin1_aae02 0 = .ok (.getstatic 38, 3) := by decide +kernel
theorem dJ0_isLatin1_aae02_3 : decode cJ0_isLatin1_aae02 3 = .ok (.ifCond .eq 14, 3) := by decide +kernel
theorem dJ0_isLatin1_aae02_6 : decode cJ0_isLatin1_aae02 6 = .ok (.aload_n 0, 1) := by decide +kernel
theorem dJ0_isLatin1_aae02_7 : decode cJ0_isLatin1_aae02 7 = .ok (.getfield 15, 3) := by decide +kernel
theorem dJ0_isLatin1_aae02_10 : decode cJ0_isLatin1_aae02 10 = .ok (.ifCond .ne 7, 3) := by decide +kernel
theorem dJ0_isLatin1_aae02_13 : decode cJ0_isLatin1_aae02 13 = .ok (.iconst 1, 1) := by decide +kernel
theorem dJ0_isLatin1_aae02_14 : decode cJ0_isLatin1_aae02 14 = .ok (.goto 4, 3) := by decide +kernel
theorem dJ0_isLatin1_aae02_17 : decode cJ0_isLatin1_aae02 17 = .ok (.iconst 0, 1) := by decide +kernel
theorem dJ0_isLatin1_aae02_18 : decode cJ0_isLatin1_aae02 18 = .ok (.ireturn, 1) := by decide +kernel
theorem dJ0_checkIndex_df160_0 : decode cJ0_checkIndex_df160 0 = .ok (.iload_n 0, 1) := by decide +kernel
theorem dJ0_checkIndex_df160_1 : decode cJ0_checkIndex_df160 1 = .ok (.iload_n 1, 1) := by decide +kernel
theorem dJ0_checkIndex_df160_2 : decode cJ0_checkIndex_df160 2 = .ok (.getstatic 1053, 3) := by decide +kernel
theorem dJ0_checkIndex_df160_5 : decode cJ0_checkIndex_df160 5 = .ok (.invokestatic 1059, 3) := by decide +kernel
theorem dJ0_checkIndex_df160_8 : decode cJ0_checkIndex_df160 8 = .ok (.pop, 1) := by decide +kernel
theorem dJ0_checkIndex_df160_9 : decode cJ0_checkIndex_df160 9 = .ok (.return_, 1) := by decide +kernel
theorem dJ0_checkBoundsBeginEnd_23922_0 : decode cJ0_checkBoundsBeginEnd_23922 0 = .ok (.iload_n 0, 1) := by decide +kernel
theorem dJ0_checkBoundsBeginEnd_23922_1 : decode cJ0_checkBoundsBeginEnd_23922 1 = .ok (.iload_n 1, 1) := by decide +kernel
theorem dJ0_checkBoundsBeginEnd_23922_2 : decode cJ0_checkBoundsBeginEnd_23922 2 = .ok (.iload_n 2, 1) := by decide +kernel
theorem dJ0_checkBoundsBeginEnd_23922_3 : decode cJ0_checkBoundsBeginEnd_23922 3 = .ok (.getstatic 1053, 3) := by decide +kernel
theorem dJ0_checkBoundsBeginEnd_23922_6 : decode cJ0_checkBoundsBeginEnd_23922 6 = .ok (.invokestatic 1062, 3) := by decide +kernel
theorem dJ0_checkBoundsBeginEnd_23922_9 : decode cJ0_checkBoundsBeginEnd_23922 9 = .ok (.pop, 1) := by decide +kernel
theorem dJ0_checkBoundsBeginEnd_23922_10 : decode cJ0_checkBoundsBeginEnd_23922 10 = .ok (.return_, 1) := by decide +kernel
theorem dJ1_charAt_3b067_0 : decode cJ1_charAt_3b067 0 = .ok (.iload_n 1, 1) := by decide +kernel
theorem dJ1_charAt_3b067_1 : decode cJ1_charAt_3b067 1 = .ok (.aload_n 0, 1) := by decide +kernel
theorem dJ1_charAt_3b067_2 : decode cJ1_charAt_3b067 2 = .ok (.arraylength, 1) := by decide +kernel
theorem dJ1_charAt_3b067_3 : decode cJ1_charAt_3b067 3 = .ok (.invokestatic 9, 3) := by decide +kernel
theorem dJ1_charAt_3b067_6 : decode cJ1_charAt_3b067 6 = .ok (.aload_n 0, 1) := by decide +kernel
theorem dJ1_charAt_3b067_7 : decode cJ1_charAt_3b067 7 = .ok (.iload_n 1, 1) := by decide +kernel
theorem dJ1_charAt_3b067_8 : decode cJ1_charAt_3b067 8 = .ok (.baload, 1) := by decide +kernel
theorem dJ1_charAt_3b067_9 : decode cJ1_charAt_3b067 9 = .ok (.sipush 255, 3) := by decide +kernel
theorem dJ1_charAt_3b067_12 : decode cJ1_charAt_3b067 12 = .ok (.iand, 1) := by decide +kernel
theorem dJ1_charAt_3b067_13 : decode cJ1_charAt_3b067 13 = .ok (.i2c, 1) := by decide +kernel
theorem dJ1_charAt_3b067_14 : decode cJ1_charAt_3b067 14 = .ok (.ireturn, 1) := by decide +kernel
theorem dJ1_canEncode_9a6ad_0 : decode cJ1_canEncode_9a6ad 0 = .ok (.iload_n 0, 1) := by decide +kernel
theorem dJ1_canEncode_9a6ad_1 : decode cJ1_canEncode_9a6ad 1 = .ok (.ifCond .lt 14, 3) := by decide +kernel
theorem dJ1_canEncode_9a6ad_4 : decode cJ1_canEncode_9a6ad 4 = .ok (.iload_n 0, 1) := by decide +kernel
theorem dJ1_canEncode_9a6ad_5 : decode cJ1_canEncode_9a6ad 5 = .ok (.sipush 255, 3) := by decide +kernel
theorem dJ1_canEncode_9a6ad_8 : decode cJ1_canEncode_9a6ad 8 = .ok (.if_icmp .gt 7, 3) := by decide +kernel
theorem dJ1_canEncode_9a6ad_11 : decode cJ1_canEncode_9a6ad 11 = .ok (.iconst 1, 1) := by decide +kernel
theorem dJ1_canEncode_9a6ad_12 : decode cJ1_canEncode_9a6ad 12 = .ok (.goto 4, 3) := by decide +kernel
theorem dJ1_canEncode_9a6ad_15 : decode cJ1_canEncode_9a6ad 15 = .ok (.iconst 0, 1) := by decide +kernel
theorem dJ1_canEncode_9a6ad_16 : decode cJ1_canEncode_9a6ad 16 = .ok (.ireturn, 1) := by decide +kernel
theorem dJ1_indexOf_4cfef_0 : decode cJ1_indexOf_4cfef 0 = .ok (.iload_n 1, 1) := by decide +kernel
theorem dJ1_indexOf_4cfef_1 : decode cJ1_indexOf_4cfef 1 = .ok (.invokestatic 88, 3) := by decide +kernel
theorem dJ1_indexOf_4cfef_4 : decode cJ1_indexOf_4cfef 4 = .ok (.ifCond .ne 5, 3) := by decide +kernel
theorem dJ1_indexOf_4cfef_7 : decode cJ1_indexOf_4cfef 7 = .ok (.iconst (-1), 1) := by decide +kernel
theorem dJ1_indexOf_4cfef_8 : decode cJ1_indexOf_4cfef 8 = .ok (.ireturn, 1) := by decide +kernel
theorem dJ1_indexOf_4cfef_9 : decode cJ1_indexOf_4cfef 9 = .ok (.iload_n 2, 1) := by decide +kernel
theorem dJ1_indexOf_4cfef_10 : decode cJ1_indexOf_4cfef 10 = .ok (.iconst 0, 1) := by decide +kernel
theorem dJ1_indexOf_4cfef_11 : decode cJ1_indexOf_4cfef 11 = .ok (.invokestatic 92, 3) := by decide +kernel
theorem dJ1_indexOf_4cfef_14 : decode cJ1_indexOf_4cfef 14 = .ok (.istore_n 2, 1) := by decide +kernel
theorem dJ1_indexOf_4cfef_15 : decode cJ1_indexOf_4cfef 15 = .ok (.iload_n 3, 1) := by decide +kernel
theorem dJ1_indexOf_4cfef_16 : decode cJ1_indexOf_4cfef 16 = .ok (.aload_n 0, 1) := by decide +kernel
theorem dJ1_indexOf_4cfef_17 : decode cJ1_indexOf_4cfef 17 = .ok (.arraylength, 1) := by decide +kernel
theorem dJ1_indexOf_4cfef_18 : decode cJ1_indexOf_4cfef 18 = .ok (.invokestatic 38, 3) := by decide +kernel
theorem dJ1_indexOf_4cfef_21 : decode cJ1_indexOf_4cfef 21 = .ok (.istore_n 3, 1) := by decide +kernel
theorem dJ1_indexOf_4cfef_22 : decode cJ1_indexOf_4cfef 22 = .ok (.iload_n 2, 1) := by decide +kernel
theorem dJ1_indexOf_4cfef_23 : decode cJ1_indexOf_4cfef 23 = .ok (.iload_n 3, 1) := by decide +kernel
theorem dJ1_indexOf_4cfef_24 : decode cJ1_indexOf_4cfef 24 = .ok (.if_icmp .lt 5, 3) := by decide +kernel
theorem dJ1_indexOf_4cfef_27 : decode cJ1_indexOf_4cfef 27 = .ok (.iconst (-1), 1) := by decide +kernel
theorem dJ1_indexOf_4cfef_28 : decode cJ1_indexOf_4cfef 28 = .ok (.ireturn, 1) := by decide +kernel
theorem dJ1_indexOf_4cfef_29 : decode cJ1_indexOf_4cfef 29 = .ok (.aload_n 0, 1) := by decide +kernel
theorem dJ1_indexOf_4cfef_30 : decode cJ1_indexOf_4cfef 30 = .ok (.iload_n 1, 1) := by decide +kernel
theorem dJ1_indexOf_4cfef_31 : decode cJ1_indexOf_4cfef 31 = .ok (.iload_n 2, 1) := by decide +kernel
theorem dJ1_indexOf_4cfef_32 : decode cJ1_indexOf_4cfef 32 = .ok (.iload_n 3, 1) := by decide +kernel
theorem dJ1_indexOf_4cfef_33 : decode cJ1_indexOf_4cfef 33 = .ok (.invokestatic 95, 3) := by decide +kernel
theorem dJ1_indexOf_4cfef_36 : decode cJ1_indexOf_4cfef 36 = .ok (.ireturn, 1) := by decide +kernel
theorem dJ1_indexOfChar_4cfef_0 : decode cJ1_indexOfChar_4cfef 0 = .ok (.iload_n 1, 1) := by decide +kernel
theorem dJ1_indexOfChar_4cfef_1 : decode cJ1_indexOfChar_4cfef 1 = .ok (.i2b, 1) := by decide +kernel
theorem dJ1_indexOfChar_4cfef_2 : decode cJ1_indexOfChar_4cfef 2 = .ok (.istore 4, 2) := by decide +kernel
theorem dJ1_indexOfChar_4cfef_4 : decode cJ1_indexOfChar_4cfef 4 = .ok (.iload_n 2, 1) := by decide +kernel
theorem dJ1_indexOfChar_4cfef_5 : decode cJ1_indexOfChar_4cfef 5 = .ok (.istore 5, 2) := by decide +kernel
theorem dJ1_indexOfChar_4cfef_7 : decode cJ1_indexOfChar_4cfef 7 = .ok (.iload 5, 2) := by decide +kernel
theorem dJ1_indexOfChar_4cfef_9 : decode cJ1_indexOfChar_4cfef 9 = .ok (.iload_n 3, 1) := by decide +kernel
theorem dJ1_indexOfChar_4cfef_10 : decode cJ1_indexOfChar_4cfef 10 = .ok (.if_icmp .ge 21, 3) := by decide +kernel
theorem dJ1_indexOfChar_4cfef_13 : decode cJ1_indexOfChar_4cfef 13 = .ok (.aload_n 0, 1) := by decide +kernel
theorem dJ1_indexOfChar_4cfef_14 : decode cJ1_indexOfChar_4cfef 14 = .ok (.iload 5, 2) := by decide +kernel
theorem dJ1_indexOfChar_4cfef_16 : decode cJ1_indexOfChar_4cfef 16 = .ok (.baload, 1) := by decide +kernel
theorem dJ1_indexOfChar_4cfef_17 : decode cJ1_indexOfChar_4cfef 17 = .ok (.iload 4, 2) := by decide +kernel
theorem dJ1_indexOfChar_4cfef_19 : decode cJ1_indexOfChar_4cfef 19 = .ok (.if_icmp .ne 6, 3) := by decide +kernel
theorem dJ1_indexOfChar_4cfef_22 : decode cJ1_indexOfChar_4cfef 22 = .ok (.iload 5, 2) := by decide +kernel
theorem dJ1_indexOfChar_4cfef_24 : decode cJ1_indexOfChar_4cfef 24 = .ok (.ireturn, 1) := by decide +kernel
theorem dJ1_indexOfChar_4cfef_25 : decode cJ1_indexOfChar_4cfef 25 = .ok (.iinc 5 1, 3) := by decide +kernel
theorem dJ1_indexOfChar_4cfef_28 : decode cJ1_indexOfChar_4cfef 28 = .ok (.goto (-21), 3) := by decide +kernel
theorem dJ1_indexOfChar_4cfef_31 : decode cJ1_indexOfChar_4cfef 31 = .ok (.iconst (-1), 1) := by decide +kernel
theorem dJ1_indexOfChar_4cfef_32 : decode cJ1_indexOfChar_4cfef 32 = .ok (.ireturn, 1) := by decide +kernel
theorem dJ2_getChar_3b067_0 : decode cJ2_getChar_3b067 0 = .ok (.getstatic 44, 3) := by decide +kernel
theorem dJ2_getChar_3b067_3 : decode cJ2_getChar_3b067 3 = .ok (.ifCond .ne 25, 3) := by decide +kernel
theorem dJ2_getChar_3b067_6 : decode cJ2_getChar_3b067 6 = .ok (.iload_n 1, 1) := by decide +kernel
theorem dJ2_getChar_3b067_7 : decode cJ2_getChar_3b067 7 = .ok (.ifCond .lt 11, 3) := by decide +kernel
theorem dJ2_getChar_3b067_10 : decode cJ2_getChar_3b067 10 = .ok (.iload_n 1, 1) := by decide +kernel
theorem dJ2_getChar_3b067_11 : decode cJ2_getChar_3b067 11 = .ok (.aload_n 0, 1) := by decide +kernel
theorem dJ2_getChar_3b067_12 : decode cJ2_getChar_3b067 12 = .ok (.invokestatic 48, 3) := by decide +kernel
theorem dJ2_getChar_3b067_15 : decode cJ2_getChar_3b067 15 = .ok (.if_icmp .lt 13, 3) := by decide +kernel
theorem dJ2_getChar_3b067_18 : decode cJ2_getChar_3b067 18 = .ok (.new 52, 3) := by decide +kernel
theorem dJ2_getChar_3b067_21 : decode cJ2_getChar_3b067 21 = .ok (.dup, 1) := by decide +kernel
theorem dJ2_getChar_3b067_22 : decode cJ2_getChar_3b067 22 = .ok (.ldc 54, 2) := by decide +kernel
theorem dJ2_getChar_3b067_24 : decode cJ2_getChar_3b067 24 = .ok (.invokespecial 56, 3) := by decide +kernel
theorem dJ2_getChar_3b067_27 : decode cJ2_getChar_3b067 27 = .ok (.athrow, 1) := by decide +kernel
theorem dJ2_getChar_3b067_28 : decode cJ2_getChar_3b067 28 = .ok (.iload_n 1, 1) := by decide +kernel
theorem dJ2_getChar_3b067_29 : decode cJ2_getChar_3b067 29 = .ok (.iconst 1, 1) := by decide +kernel
theorem dJ2_getChar_3b067_30 : decode cJ2_getChar_3b067 30 = .ok (.ishl, 1) := by decide +kernel
theorem dJ2_getChar_3b067_31 : decode cJ2_getChar_3b067 31 = .ok (.istore_n 1, 1) := by decide +kernel
theorem dJ2_getChar_3b067_32 : decode cJ2_getChar_3b067 32 = .ok (.aload_n 0, 1) := by decide +kernel
theorem dJ2_getChar_3b067_33 : decode cJ2_getChar_3b067 33 = .ok (.iload_n 1, 1) := by decide +kernel
theorem dJ2_getChar_3b067_34 : decode cJ2_getChar_3b067 34 = .ok (.iinc 1 1, 3) := by decide +kernel
theorem dJ2_getChar_3b067_37 : decode cJ2_getChar_3b067 37 = .ok (.baload, 1) := by decide +kernel
theorem dJ2_getChar_3b067_38 : decode cJ2_getChar_3b067 38 = .ok (.sipush 255, 3) := by decide +kernel
theorem dJ2_getChar_3b067_41 : decode cJ2_getChar_3b067 41 = .ok (.iand, 1) := by decide +kernel
theorem dJ2_getChar_3b067_42 : decode cJ2_getChar_3b067 42 = .ok (.getstatic 59, 3) := by decide +kernel
theorem dJ2_getChar_3b067_45 : decode cJ2_getChar_3b067 45 = .ok (.ishl, 1) := by decide +kernel
theorem dJ2_getChar_3b067_46 : decode cJ2_getChar_3b067 46 = .ok (.aload_n 0, 1) := by decide +kernel
theorem dJ2_getChar_3b067_47 : decode cJ2_getChar_3b067 47 = .ok (.iload_n 1, 1) := by decide +kernel
theorem dJ2_getChar_3b067_48 : decode cJ2_getChar_3b067 48 = .ok (.baload, 1) := by decide +kernel
theorem dJ2_getChar_3b067_49 : decode cJ2_getChar_3b067 49 = .ok (.sipush 255, 3) := by decide +kernel
theorem dJ2_getChar_3b067_52 : decode cJ2_getChar_3b067 52 = .ok (.iand, 1) := by decide +kernel
theorem dJ2_getChar_3b067_53 : decode cJ2_getChar_3b067 53 = .ok (.getstatic 63, 3) := by decide +kernel
theorem dJ2_getChar_3b067_56 : decode cJ2_getChar_3b067 56 = .ok (.ishl, 1) := by decide +kernel
theorem dJ2_getChar_3b067_57 : decode cJ2_getChar_3b067 57 = .ok (.ior, 1) := by decide +kernel
theorem dJ2_getChar_3b067_58 : decode cJ2_getChar_3b067 58 = .ok (.i2c, 1) := by decide +kernel
theorem dJ2_getChar_3b067_59 : decode cJ2_getChar_3b067 59 = .ok (.ireturn, 1) := by decide +kernel
theorem dJ2_length_9d52b_0 : decode cJ2_length_9d52b 0 = .ok (.aload_n 0, 1) := by decide +kernel
theorem dJ2_length_9d52b_1 : decode cJ2_length_9d52b 1 = .ok (.arraylength, 1) := by decide +kernel
theorem dJ2_length_9d52b_2 : decode cJ2_length_9d52b 2 = .ok (.iconst 1, 1) := by decide +kernel
theorem dJ2_length_9d52b_3 : decode cJ2_length_9d52b 3 = .ok (.ishr, 1) := by decide +kernel
theorem dJ2_length_9d52b_4 : decode cJ2_length_9d52b 4 = .ok (.ireturn, 1) := by decide +kernel
theorem dJ2_indexOf_4cfef_0 : decode cJ2_indexOf_4cfef 0 = .ok (.iload_n 2, 1) := by decide +kernel
theorem dJ2_indexOf_4cfef_1 : decode cJ2_indexOf_4cfef 1 = .ok (.iconst 0, 1) := by decide +kernel
theorem dJ2_indexOf_4cfef_2 : decode cJ2_indexOf_4cfef 2 = .ok (.invokestatic 224, 3) := by decide +kernel
theorem dJ2_indexOf_4cfef_5 : decode cJ2_indexOf_4cfef 5 = .ok (.istore_n 2, 1) := by decide +kernel
theorem dJ2_indexOf_4cfef_6 : decode cJ2_indexOf_4cfef 6 = .ok (.iload_n 3, 1) := by decide +kernel
theorem dJ2_indexOf_4cfef_7 : decode cJ2_indexOf_4cfef 7 = .ok (.aload_n 0, 1) := by decide +kernel
theorem dJ2_indexOf_4cfef_8 : decode cJ2_indexOf_4cfef 8 = .ok (.arraylength, 1) := by decide +kernel
theorem dJ2_indexOf_4cfef_9 : decode cJ2_indexOf_4cfef 9 = .ok (.iconst 1, 1) := by decide +kernel
theorem dJ2_indexOf_4cfef_10 : decode cJ2_indexOf_4cfef 10 = .ok (.ishr, 1) := by decide +kernel
theorem dJ2_indexOf_4cfef_11 : decode cJ2_indexOf_4cfef 11 = .ok (.invokestatic 183, 3) := by decide +kernel
theorem dJ2_indexOf_4cfef_14 : decode cJ2_indexOf_4cfef 14 = .ok (.istore_n 3, 1) := by decide +kernel
theorem dJ2_indexOf_4cfef_15 : decode cJ2_indexOf_4cfef 15 = .ok (.iload_n 2, 1) := by decide +kernel
theorem dJ2_indexOf_4cfef_16 : decode cJ2_indexOf_4cfef 16 = .ok (.iload_n 3, 1) := by decide +kernel
theorem dJ2_indexOf_4cfef_17 : decode cJ2_indexOf_4cfef 17 = .ok (.if_icmp .lt 5, 3) := by decide +kernel
theorem dJ2_indexOf_4cfef_20 : decode cJ2_indexOf_4cfef 20 = .ok (.iconst (-1), 1) := by decide +kernel
theorem dJ2_indexOf_4cfef_21 : decode cJ2_indexOf_4cfef 21 = .ok (.ireturn, 1) := by decide +kernel
theorem dJ2_indexOf_4cfef_22 : decode cJ2_indexOf_4cfef 22 = .ok (.iload_n 1, 1) := by decide +kernel
theorem dJ2_indexOf_4cfef_23 : decode cJ2_indexOf_4cfef 23 = .ok (.ldc 227, 2) := by decide +kernel
theorem dJ2_indexOf_4cfef_25 : decode cJ2_indexOf_4cfef 25 = .ok (.if_icmp .ge 11, 3) := by decide +kernel
theorem dJ2_indexOf_4cfef_28 : decode cJ2_indexOf_4cfef 28 = .ok (.aload_n 0, 1) := by decide +kernel
theorem dJ2_indexOf_4cfef_29 : decode cJ2_indexOf_4cfef 29 = .ok (.iload_n 1, 1) := by decide +kernel
theorem dJ2_indexOf_4cfef_30 : decode cJ2_indexOf_4cfef 30 = .ok (.iload_n 2, 1) := by decide +kernel
theorem dJ2_indexOf_4cfef_31 : decode cJ2_indexOf_4cfef 31 = .ok (.iload_n 3, 1) := by decide +kernel
theorem dJ2_indexOf_4cfef_32 : decode cJ2_indexOf_4cfef 32 = .ok (.invokestatic 228, 3) := by decide +kernel
theorem dJ2_indexOf_4cfef_35 : decode cJ2_indexOf_4cfef 35 = .ok (.ireturn, 1) := by decide +kernel
theorem dJ2_indexOf_4cfef_36 : decode cJ2_indexOf_4cfef 36 = .ok (.aload_n 0, 1) := by decide +kernel
theorem dJ2_indexOf_4cfef_37 : decode cJ2_indexOf_4cfef 37 = .ok (.iload_n 1, 1) := by decide +kernel
theorem dJ2_indexOf_4cfef_38 : decode cJ2_indexOf_4cfef 38 = .ok (.iload_n 2, 1) := by decide +kernel
theorem dJ2_indexOf_4cfef_39 : decode cJ2_indexOf_4cfef 39 = .ok (.iload_n 3, 1) := by decide +kernel
theorem dJ2_indexOf_4cfef_40 : decode cJ2_indexOf_4cfef 40 = .ok (.invokestatic 232, 3) := by decide +kernel
theorem dJ2_indexOf_4cfef_43 : decode cJ2_indexOf_4cfef 43 = .ok (.ireturn, 1) := by decide +kernel
theorem dJ2_indexOfChar_4cfef_0 : decode cJ2_indexOfChar_4cfef 0 = .ok (.iload_n 2, 1) := by decide +kernel
theorem dJ2_indexOfChar_4cfef_1 : decode cJ2_indexOfChar_4cfef 1 = .ok (.iload_n 3, 1) := by decide +kernel
theorem dJ2_indexOfChar_4cfef_2 : decode cJ2_indexOfChar_4cfef 2 = .ok (.aload_n 0, 1) := by decide +kernel
theorem dJ2_indexOfChar_4cfef_3 : decode cJ2_indexOfChar_4cfef 3 = .ok (.invokestatic 96, 3) := by decide +kernel
theorem dJ2_indexOfChar_4cfef_6 : decode cJ2_indexOfChar_4cfef 6 = .ok (.aload_n 0, 1) := by decide +kernel
theorem dJ2_indexOfChar_4cfef_7 : decode cJ2_indexOfChar_4cfef 7 = .ok (.iload_n 1, 1) := by decide +kernel
theorem dJ2_indexOfChar_4cfef_8 : decode cJ2_indexOfChar_4cfef 8 = .ok (.iload_n 2, 1) := by decide +kernel
theorem dJ2_indexOfChar_4cfef_9 : decode cJ2_indexOfChar_4cfef 9 = .ok (.iload_n 3, 1) := by decide +kernel
theorem dJ2_indexOfChar_4cfef_10 : decode cJ2_indexOfChar_4cfef 10 = .ok (.invokestatic 244, 3) := by decide +kernel
theorem dJ2_indexOfChar_4cfef_13 : decode cJ2_indexOfChar_4cfef 13 = .ok (.ireturn, 1) := by decide +kernel
theorem dJ2_indexOfCharUnsafe_4cfef_0 : decode cJ2_indexOfCharUnsafe_4cfef 0 = .ok (.iload_n 2, 1) := by decide +kernel
theorem dJ2_indexOfCharUnsafe_4cfef_1 : decode cJ2_indexOfCharUnsafe_4cfef 1 = .ok (.istore 4, 2) := by decide +kernel
theorem dJ2_indexOfCharUnsafe_4cfef_3 : decode cJ2_indexOfCharUnsafe_4cfef 3 = .ok (.iload 4, 2) := by decide +kernel
theorem dJ2_indexOfCharUnsafe_4cfef_5 : decode cJ2_indexOfCharUnsafe_4cfef 5 = .ok (.iload_n 3, 1) := by decide +kernel
theorem dJ2_indexOfCharUnsafe_4cfef_6 : decode cJ2_indexOfCharUnsafe_4cfef 6 = .ok (.if_icmp .ge 22, 3) := by decide +kernel
theorem dJ2_indexOfCharUnsafe_4cfef_9 : decode cJ2_indexOfCharUnsafe_4cfef 9 = .ok (.aload_n 0, 1) := by decide +kernel
theorem dJ2_indexOfCharUnsafe_4cfef_10 : decode cJ2_indexOfCharUnsafe_4cfef 10 = .ok (.iload 4, 2) := by decide +kernel
theorem dJ2_indexOfCharUnsafe_4cfef_12 : decode cJ2_indexOfCharUnsafe_4cfef 12 = .ok (.invokestatic 71, 3) := by decide +kernel
theorem dJ2_indexOfCharUnsafe_4cfef_15 : decode cJ2_indexOfCharUnsafe_4cfef 15 = .ok (.iload_n 1, 1) := by decide +kernel
theorem dJ2_indexOfCharUnsafe_4cfef_16 : decode cJ2_indexOfCharUnsafe_4cfef 16 = .ok (.if_icmp .ne 6, 3) := by decide +kernel
theorem dJ2_indexOfCharUnsafe_4cfef_19 : decode cJ2_indexOfCharUnsafe_4cfef 19 = .ok (.iload 4, 2) := by decide +kernel
theorem dJ2_indexOfCharUnsafe_4cfef_21 : decode cJ2_indexOfCharUnsafe_4cfef 21 = .ok (.ireturn, 1) := by decide +kernel
theorem dJ2_indexOfCharUnsafe_4cfef_22 : decode cJ2_indexOfCharUnsafe_4cfef 22 = .ok (.iinc 4 1, 3) := by decide +kernel
theorem dJ2_indexOfCharUnsafe_4cfef_25 : decode cJ2_indexOfCharUnsafe_4cfef 25 = .ok (.goto (-22), 3) := by decide +kernel
theorem dJ2_indexOfCharUnsafe_4cfef_28 : decode cJ2_indexOfCharUnsafe_4cfef 28 = .ok (.iconst (-1), 1) := by decide +kernel
theorem dJ2_indexOfCharUnsafe_4cfef_29 : decode cJ2_indexOfCharUnsafe_4cfef 29 = .ok (.ireturn, 1) := by decide +kernel
theorem dJ2_indexOfSupplementary_4cfef_0 : decode cJ2_indexOfSupplementary_4cfef 0 = .ok (.iload_n 1, 1) := by decide +kernel
theorem dJ2_indexOfSupplementary_4cfef_1 : decode cJ2_indexOfSupplementary_4cfef 1 = .ok (.invokestatic 164, 3) := by decide +kernel
theorem dJ2_indexOfSupplementary_4cfef_4 : decode cJ2_indexOfSupplementary_4cfef 4 = .ok (.ifCond .eq 65, 3) := by decide +kernel
theorem dJ2_indexOfSupplementary_4cfef_7 : decode cJ2_indexOfSupplementary_4cfef 7 = .ok (.iload_n 1, 1) := by decide +kernel
theorem dJ2_indexOfSupplementary_4cfef_8 : decode cJ2_indexOfSupplementary_4cfef 8 = .ok (.invokestatic 157, 3) := by decide +kernel
theorem dJ2_indexOfSupplementary_4cfef_11 : decode cJ2_indexOfSupplementary_4cfef 11 = .ok (.istore 4, 2) := by decide +kernel
theorem dJ2_indexOfSupplementary_4cfef_13 : decode cJ2_indexOfSupplementary_4cfef 13 = .ok (.iload_n 1, 1) := by decide +kernel
theorem dJ2_indexOfSupplementary_4cfef_14 : decode cJ2_indexOfSupplementary_4cfef 14 = .ok (.invokestatic 161, 3) := by decide +kernel
theorem dJ2_indexOfSupplementary_4cfef_17 : decode cJ2_indexOfSupplementary_4cfef 17 = .ok (.istore 5, 2) := by decide +kernel
theorem dJ2_indexOfSupplementary_4cfef_19 : decode cJ2_indexOfSupplementary_4cfef 19 = .ok (.iload_n 2, 1) := by decide +kernel
theorem dJ2_indexOfSupplementary_4cfef_20 : decode cJ2_indexOfSupplementary_4cfef 20 = .ok (.iload_n 3, 1) := by decide +kernel
theorem dJ2_indexOfSupplementary_4cfef_21 : decode cJ2_indexOfSupplementary_4cfef 21 = .ok (.aload_n 0, 1) := by decide +kernel
theorem dJ2_indexOfSupplementary_4cfef_22 : decode cJ2_indexOfSupplementary_4cfef 22 = .ok (.invokestatic 96, 3) := by decide +kernel
theorem dJ2_indexOfSupplementary_4cfef_25 : decode cJ2_indexOfSupplementary_4cfef 25 = .ok (.iload_n 2, 1) := by decide +kernel
theorem dJ2_indexOfSupplementary_4cfef_26 : decode cJ2_indexOfSupplementary_4cfef 26 = .ok (.istore 6, 2) := by decide +kernel
theorem dJ2_indexOfSupplementary_4cfef_28 : decode cJ2_indexOfSupplementary_4cfef 28 = .ok (.iload 6, 2) := by decide +kernel
theorem dJ2_indexOfSupplementary_4cfef_30 : decode cJ2_indexOfSupplementary_4cfef 30 = .ok (.iload_n 3, 1) := by decide +kernel
theorem dJ2_indexOfSupplementary_4cfef_31 : decode cJ2_indexOfSupplementary_4cfef 31 = .ok (.iconst 1, 1) := by decide +kernel
theorem dJ2_indexOfSupplementary_4cfef_32 : decode cJ2_indexOfSupplementary_4cfef 32 = .ok (.isub, 1) := by decide +kernel
theorem dJ2_indexOfSupplementary_4cfef_33 : decode cJ2_indexOfSupplementary_4cfef 33 = .ok (.if_icmp .ge 36, 3) := by decide +kernel
theorem dJ2_indexOfSupplementary_4cfef_36 : decode cJ2_indexOfSupplementary_4cfef 36 = .ok (.aload_n 0, 1) := by decide +kernel
theorem dJ2_indexOfSupplementary_4cfef_37 : decode cJ2_indexOfSupplementary_4cfef 37 = .ok (.iload 6, 2) := by decide +kernel
theorem dJ2_indexOfSupplementary_4cfef_39 : decode cJ2_indexOfSupplementary_4cfef 39 = .ok (.invokestatic 71, 3) := by decide +kernel
theorem dJ2_indexOfSupplementary_4cfef_42 : decode cJ2_indexOfSupplementary_4cfef 42 = .ok (.iload 4, 2) := by decide +kernel
theorem dJ2_indexOfSupplementary_4cfef_44 : decode cJ2_indexOfSupplementary_4cfef 44 = .ok (.if_icmp .ne 19, 3) := by decide +kernel
theorem dJ2_indexOfSupplementary_4cfef_47 : decode cJ2_indexOfSupplementary_4cfef 47 = .ok (.aload_n 0, 1) := by decide +kernel
theorem dJ2_indexOfSupplementary_4cfef_48 : decode cJ2_indexOfSupplementary_4cfef 48 = .ok (.iload 6, 2) := by decide +kernel
theorem dJ2_indexOfSupplementary_4cfef_50 : decode cJ2_indexOfSupplementary_4cfef 50 = .ok (.iconst 1, 1) := by decide +kernel
theorem dJ2_indexOfSupplementary_4cfef_51 : decode cJ2_indexOfSupplementary_4cfef 51 = .ok (.iadd, 1) := by decide +kernel
theorem dJ2_indexOfSupplementary_4cfef_52 : decode cJ2_indexOfSupplementary_4cfef 52 = .ok (.invokestatic 71, 3) := by decide +kernel
theorem dJ2_indexOfSupplementary_4cfef_55 : decode cJ2_indexOfSupplementary_4cfef 55 = .ok (.iload 5, 2) := by decide +kernel
theorem dJ2_indexOfSupplementary_4cfef_57 : decode cJ2_indexOfSupplementary_4cfef 57 = .ok (.if_icmp .ne 6, 3) := by decide +kernel
theorem dJ2_indexOfSupplementary_4cfef_60 : decode cJ2_indexOfSupplementary_4cfef 60 = .ok (.iload 6, 2) := by decide +kernel
theorem dJ2_indexOfSupplementary_4cfef_62 : decode cJ2_indexOfSupplementary_4cfef 62 = .ok (.ireturn, 1) := by decide +kernel
theorem dJ2_indexOfSupplementary_4cfef_63 : decode cJ2_indexOfSupplementary_4cfef 63 = .ok (.iinc 6 1, 3) := by decide +kernel
theorem dJ2_indexOfSupplementary_4cfef_66 : decode cJ2_indexOfSupplementary_4cfef 66 = .ok (.goto (-38), 3) := by decide +kernel
theorem dJ2_indexOfSupplementary_4cfef_69 : decode cJ2_indexOfSupplementary_4cfef 69 = .ok (.iconst (-1), 1) := by decide +kernel
theorem dJ2_indexOfSupplementary_4cfef_70 : decode cJ2_indexOfSupplementary_4cfef 70 = .ok (.ireturn, 1) := by decide +kernel
theorem dJ2_charAt_3b067_0 : decode cJ2_charAt_3b067 0 = .ok (.iload_n 1, 1) := by decide +kernel
theorem dJ2_charAt_3b067_1 : decode cJ2_charAt_3b067 1 = .ok (.aload_n 0, 1) := by decide +kernel
theorem dJ2_charAt_3b067_2 : decode cJ2_charAt_3b067 2 = .ok (.invokestatic 67, 3) := by decide +kernel
theorem dJ2_charAt_3b067_5 : decode cJ2_charAt_3b067 5 = .ok (.aload_n 0, 1) := by decide +kernel
theorem dJ2_charAt_3b067_6 : decode cJ2_charAt_3b067 6 = .ok (.iload_n 1, 1) := by decide +kernel
theorem dJ2_charAt_3b067_7 : decode cJ2_charAt_3b067 7 = .ok (.invokestatic 71, 3) := by decide +kernel
theorem dJ2_charAt_3b067_10 : decode cJ2_charAt_3b067 10 = .ok (.ireturn, 1) := by decide +kernel
theorem dJ2_checkIndex_2214a_0 : decode cJ2_checkIndex_2214a 0 = .ok (.iload_n 0, 1) := by decide +kernel
theorem dJ2_checkIndex_2214a_1 : decode cJ2_checkIndex_2214a 1 = .ok (.aload_n 1, 1) := by decide +kernel
theorem dJ2_checkIndex_2214a_2 : decode cJ2_checkIndex_2214a 2 = .ok (.invokestatic 48, 3) := by decide +kernel
theorem dJ2_checkIndex_2214a_5 : decode cJ2_checkIndex_2214a 5 = .ok (.invokestatic 414, 3) := by decide +kernel
theorem dJ2_checkIndex_2214a_8 : decode cJ2_checkIndex_2214a 8 = .ok (.return_, 1) := by decide +kernel
theorem dJ2_checkBoundsBeginEnd_d044e_0 : decode cJ2_checkBoundsBeginEnd_d044e 0 = .ok (.iload_n 0, 1) := by decide +kernel
theorem dJ2_checkBoundsBeginEnd_d044e_1 : decode cJ2_checkBoundsBeginEnd_d044e 1 = .ok (.iload_n 1, 1) := by decide +kernel
theorem dJ2_checkBoundsBeginEnd_d044e_2 : decode cJ2_checkBoundsBeginEnd_d044e 2 = .ok (.aload_n 2, 1) := by decide +kernel
theorem dJ2_checkBoundsBeginEnd_d044e_3 : decode cJ2_checkBoundsBeginEnd_d044e 3 = .ok (.invokestatic 48, 3) := by decide +kernel
theorem dJ2_checkBoundsBeginEnd_d044e_6 : decode cJ2_checkBoundsBeginEnd_d044e 6 = .ok (.invokestatic 241, 3) := by decide +kernel
theorem dJ2_checkBoundsBeginEnd_d044e_9 : decode cJ2_checkBoundsBeginEnd_d044e 9 = .ok (.return_, 1) := by decide +kernel
theorem dJ3_checkIndex_8e157_0 : decode cJ3_checkIndex_8e157 0 = .ok (.iload_n 0, 1) := by decide +kernel
theorem dJ3_checkIndex_8e157_1 : decode cJ3_checkIndex_8e157 1 = .ok (.ifCond .lt 8, 3) := by decide +kernel
theorem dJ3_checkIndex_8e157_4 : decode cJ3_checkIndex_8e157 4 = .ok (.iload_n 0, 1) := by decide +kernel
theorem dJ3_checkIndex_8e157_5 : decode cJ3_checkIndex_8e157 5 = .ok (.iload_n 1, 1) := by decide +kernel
theorem dJ3_checkIndex_8e157_6 : decode cJ3_checkIndex_8e157 6 = .ok (.if_icmp .lt 10, 3) := by decide +kernel
theorem dJ3_checkIndex_8e157_9 : decode cJ3_checkIndex_8e157 9 = .ok (.aload_n 2, 1) := by decide +kernel
theorem dJ3_checkIndex_8e157_10 : decode cJ3_checkIndex_8e157 10 = .ok (.iload_n 0, 1) := by decide +kernel
theorem dJ3_checkIndex_8e157_11 : decode cJ3_checkIndex_8e157 11 = .ok (.iload_n 1, 1) := by decide +kernel
theorem dJ3_checkIndex_8e157_12 : decode cJ3_checkIndex_8e157 12 = .ok (.invokestatic 95, 3) := by decide +kernel
theorem dJ3_checkIndex_8e157_15 : decode cJ3_checkIndex_8e157 15 = .ok (.athrow, 1) := by decide +kernel
theorem dJ3_checkIndex_8e157_16 : decode cJ3_checkIndex_8e157 16 = .ok (.iload_n 0, 1) := by decide +kernel
theorem dJ3_checkIndex_8e157_17 : decode cJ3_checkIndex_8e157 17 = .ok (.ireturn, 1) := by decide +kernel
theorem dJ3_checkFromToIndex_8c36e_0 : decode cJ3_checkFromToIndex_8c36e 0 = .ok (.iload_n 0, 1) := by decide +kernel
theorem dJ3_checkFromToIndex_8c36e_1 : decode cJ3_checkFromToIndex_8c36e 1 = .ok (.ifCond .lt 13, 3) := by decide +kernel
theorem dJ3_checkFromToIndex_8c36e_4 : decode cJ3_checkFromToIndex_8c36e 4 = .ok (.iload_n 0, 1) := by decide +kernel
theorem dJ3_checkFromToIndex_8c36e_5 : decode cJ3_checkFromToIndex_8c36e 5 = .ok (.iload_n 1, 1) := by decide +kernel
theorem dJ3_checkFromToIndex_8c36e_6 : decode cJ3_checkFromToIndex_8c36e 6 = .ok (.if_icmp .gt 8, 3) := by decide +kernel
theorem dJ3_checkFromToIndex_8c36e_9 : decode cJ3_checkFromToIndex_8c36e 9 = .ok (.iload_n 1, 1) := by decide +kernel
theorem dJ3_checkFromToIndex_8c36e_10 : decode cJ3_checkFromToIndex_8c36e 10 = .ok (.iload_n 2, 1) := by decide +kernel
theorem dJ3_checkFromToIndex_8c36e_11 : decode cJ3_checkFromToIndex_8c36e 11 = .ok (.if_icmp .le 11, 3) := by decide +kernel
theorem dJ3_checkFromToIndex_8c36e_14 : decode cJ3_checkFromToIndex_8c36e 14 = .ok (.aload_n 3, 1) := by decide +kernel
theorem dJ3_checkFromToIndex_8c36e_15 : decode cJ3_checkFromToIndex_8c36e 15 = .ok (.iload_n 0, 1) := by decide +kernel
theorem dJ3_checkFromToIndex_8c36e_16 : decode cJ3_checkFromToIndex_8c36e 16 = .ok (.iload_n 1, 1) := by decide +kernel
theorem dJ3_checkFromToIndex_8c36e_17 : decode cJ3_checkFromToIndex_8c36e 17 = .ok (.iload_n 2, 1) := by decide +kernel
theorem dJ3_checkFromToIndex_8c36e_18 : decode cJ3_checkFromToIndex_8c36e 18 = .ok (.invokestatic 99, 3) := by decide +kernel
theorem dJ3_checkFromToIndex_8c36e_21 : decode cJ3_checkFromToIndex_8c36e 21 = .ok (.athrow, 1) := by decide +kernel
theorem dJ3_checkFromToIndex_8c36e_22 : decode cJ3_checkFromToIndex_8c36e 22 = .ok (.iload_n 0, 1) := by decide +kernel
theorem dJ3_checkFromToIndex_8c36e_23 : decode cJ3_checkFromToIndex_8c36e 23 = .ok (.ireturn, 1) := by decide +kernel
