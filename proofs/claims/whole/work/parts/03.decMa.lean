theorem dX10_init_0 : decode cX10_init 0 = .ok (.aload_n 0, 1) := by decide +kernel
theorem dX10_init_1 : decode cX10_init 1 = .ok (.invokespecial 3, 3) := by decide +kernel
theorem dX10_init_4 : decode cX10_init 4 = .ok (.aload_n 0, 1) := by decide +kernel
theorem dX10_init_5 : decode cX10_init 5 = .ok (.sipush 152, 3) := by decide +kernel
theorem dX10_init_8 : decode cX10_init 8 = .ok (.newarray .int, 2) := by decide +kernel
theorem dX10_init_10 : decode cX10_init 10 = .ok (.putfield 9, 3) := by decide +kernel
theorem dX10_init_13 : decode cX10_init 13 = .ok (.aload_n 0, 1) := by decide +kernel
theorem dX10_init_14 : decode cX10_init 14 = .ok (.sipush 152, 3) := by decide +kernel
theorem dX10_init_17 : decode cX10_init 17 = .ok (.newarray .int, 2) := by decide +kernel
theorem dX10_init_19 : decode cX10_init 19 = .ok (.putfield 15, 3) := by decide +kernel
theorem dX10_init_22 : decode cX10_init 22 = .ok (.aload_n 0, 1) := by decide +kernel
theorem dX10_init_23 : decode cX10_init 23 = .ok (.sipush 152, 3) := by decide +kernel
theorem dX10_init_26 : decode cX10_init 26 = .ok (.newarray .int, 2) := by decide +kernel
theorem dX10_init_28 : decode cX10_init 28 = .ok (.putfield 18, 3) := by decide +kernel
theorem dX10_init_31 : decode cX10_init 31 = .ok (.aload_n 0, 1) := by decide +kernel
theorem dX10_init_32 : decode cX10_init 32 = .ok (.bipush 100, 2) := by decide +kernel
theorem dX10_init_34 : decode cX10_init 34 = .ok (.newarray .int, 2) := by decide +kernel
theorem dX10_init_36 : decode cX10_init 36 = .ok (.putfield 21, 3) := by decide +kernel
theorem dX10_init_39 : decode cX10_init 39 = .ok (.aload_n 0, 1) := by decide +kernel
theorem dX10_init_40 : decode cX10_init 40 = .ok (.sipush 600, 3) := by decide +kernel
theorem dX10_init_43 : decode cX10_init 43 = .ok (.newarray .int, 2) := by decide +kernel
theorem dX10_init_45 : decode cX10_init 45 = .ok (.putfield 24, 3) := by decide +kernel
theorem dX10_init_48 : decode cX10_init 48 = .ok (.aload_n 0, 1) := by decide +kernel
theorem dX10_init_49 : decode cX10_init 49 = .ok (.bipush 6, 2) := by decide +kernel
theorem dX10_init_51 : decode cX10_init 51 = .ok (.newarray .int, 2) := by decide +kernel
theorem dX10_init_53 : decode cX10_init 53 = .ok (.putfield 27, 3) := by decide +kernel
theorem dX10_init_56 : decode cX10_init 56 = .ok (.aload_n 0, 1) := by decide +kernel
theorem dX10_init_57 : decode cX10_init 57 = .ok (.bipush 100, 2) := by decide +kernel
theorem dX10_init_59 : decode cX10_init 59 = .ok (.newarray .int, 2) := by decide +kernel
theorem dX10_init_61 : decode cX10_init 61 = .ok (.putfield 30, 3) := by decide +kernel
theorem dX10_init_64 : decode cX10_init 64 = .ok (.aload_n 0, 1) := by decide +kernel
theorem dX10_init_65 : decode cX10_init 65 = .ok (.bipush 6, 2) := by decide +kernel
theorem dX10_init_67 : decode cX10_init 67 = .ok (.newarray .int, 2) := by decide +kernel
theorem dX10_init_69 : decode cX10_init 69 = .ok (.putfield 33, 3) := by decide +kernel
theorem dX10_init_72 : decode cX10_init 72 = .ok (.aload_n 0, 1) := by decide +kernel
theorem dX10_init_73 : decode cX10_init 73 = .ok (.bipush 6, 2) := by decide +kernel
theorem dX10_init_75 : decode cX10_init 75 = .ok (.newarray .char, 2) := by decide +kernel
theorem dX10_init_77 : decode cX10_init 77 = .ok (.dup, 1) := by decide +kernel
theorem dX10_init_78 : decode cX10_init 78 = .ok (.iconst 0, 1) := by decide +kernel
theorem dX10_init_79 : decode cX10_init 79 = .ok (.bipush 112, 2) := by decide +kernel
theorem dX10_init_81 : decode cX10_init 81 = .ok (.castore, 1) := by decide +kernel
theorem dX10_init_82 : decode cX10_init 82 = .ok (.dup, 1) := by decide +kernel
theorem dX10_init_83 : decode cX10_init 83 = .ok (.iconst 1, 1) := by decide +kernel
theorem dX10_init_84 : decode cX10_init 84 = .ok (.bipush 107, 2) := by decide +kernel
theorem dX10_init_86 : decode cX10_init 86 = .ok (.castore, 1) := by decide +kernel
theorem dX10_init_87 : decode cX10_init 87 = .ok (.dup, 1) := by decide +kernel
theorem dX10_init_88 : decode cX10_init 88 = .ok (.iconst 2, 1) := by decide +kernel
theorem dX10_init_89 : decode cX10_init 89 = .ok (.bipush 118, 2) := by decide +kernel
theorem dX10_init_91 : decode cX10_init 91 = .ok (.castore, 1) := by decide +kernel
theorem dX10_init_92 : decode cX10_init 92 = .ok (.dup, 1) := by decide +kernel
theorem dX10_init_93 : decode cX10_init 93 = .ok (.iconst 3, 1) := by decide +kernel
theorem dX10_init_94 : decode cX10_init 94 = .ok (.bipush 115, 2) := by decide +kernel
theorem dX10_init_96 : decode cX10_init 96 = .ok (.castore, 1) := by decide +kernel
theorem dX10_init_97 : decode cX10_init 97 = .ok (.dup, 1) := by decide +kernel
theorem dX10_init_98 : decode cX10_init 98 = .ok (.iconst 4, 1) := by decide +kernel
theorem dX10_init_99 : decode cX10_init 99 = .ok (.bipush 99, 2) := by decide +kernel
theorem dX10_init_101 : decode cX10_init 101 = .ok (.castore, 1) := by decide +kernel
theorem dX10_init_102 : decode cX10_init 102 = .ok (.dup, 1) := by decide +kernel
theorem dX10_init_103 : decode cX10_init 103 = .ok (.iconst 5, 1) := by decide +kernel
theorem dX10_init_104 : decode cX10_init 104 = .ok (.bipush 100, 2) := by decide +kernel
theorem dX10_init_106 : decode cX10_init 106 = .ok (.castore, 1) := by decide +kernel
theorem dX10_init_107 : decode cX10_init 107 = .ok (.putfield 36, 3) := by decide +kernel
theorem dX10_init_110 : decode cX10_init 110 = .ok (.aload_n 0, 1) := by decide +kernel
theorem dX10_init_111 : decode cX10_init 111 = .ok (.iconst 3, 1) := by decide +kernel
theorem dX10_init_112 : decode cX10_init 112 = .ok (.newarray .char, 2) := by decide +kernel
theorem dX10_init_114 : decode cX10_init 114 = .ok (.dup, 1) := by decide +kernel
theorem dX10_init_115 : decode cX10_init 115 = .ok (.iconst 0, 1) := by decide +kernel
theorem dX10_init_116 : decode cX10_init 116 = .ok (.bipush 102, 2) := by decide +kernel
theorem dX10_init_118 : decode cX10_init 118 = .ok (.castore, 1) := by decide +kernel
theorem dX10_init_119 : decode cX10_init 119 = .ok (.dup, 1) := by decide +kernel
theorem dX10_init_120 : decode cX10_init 120 = .ok (.iconst 1, 1) := by decide +kernel
theorem dX10_init_121 : decode cX10_init 121 = .ok (.bipush 119, 2) := by decide +kernel
theorem dX10_init_123 : decode cX10_init 123 = .ok (.castore, 1) := by decide +kernel
theorem dX10_init_124 : decode cX10_init 124 = .ok (.dup, 1) := by decide +kernel
theorem dX10_init_125 : decode cX10_init 125 = .ok (.iconst 2, 1) := by decide +kernel
theorem dX10_init_126 : decode cX10_init 126 = .ok (.bipush 114, 2) := by decide +kernel
theorem dX10_init_128 : decode cX10_init 128 = .ok (.castore, 1) := by decide +kernel
theorem dX10_init_129 : decode cX10_init 129 = .ok (.putfield 40, 3) := by decide +kernel
theorem dX10_init_132 : decode cX10_init 132 = .ok (.aload_n 0, 1) := by decide +kernel
theorem dX10_init_133 : decode cX10_init 133 = .ok (.bipush 15, 2) := by decide +kernel
theorem dX10_init_135 : decode cX10_init 135 = .ok (.newarray .char, 2) := by decide +kernel
theorem dX10_init_137 : decode cX10_init 137 = .ok (.dup, 1) := by decide +kernel
theorem dX10_init_138 : decode cX10_init 138 = .ok (.iconst 0, 1) := by decide +kernel
theorem dX10_init_139 : decode cX10_init 139 = .ok (.bipush 102, 2) := by decide +kernel
theorem dX10_init_141 : decode cX10_init 141 = .ok (.castore, 1) := by decide +kernel
theorem dX10_init_142 : decode cX10_init 142 = .ok (.dup, 1) := by decide +kernel
theorem dX10_init_143 : decode cX10_init 143 = .ok (.iconst 1, 1) := by decide +kernel
theorem dX10_init_144 : decode cX10_init 144 = .ok (.bipush 105, 2) := by decide +kernel
theorem dX10_init_146 : decode cX10_init 146 = .ok (.castore, 1) := by decide +kernel
theorem dX10_init_147 : decode cX10_init 147 = .ok (.dup, 1) := by decide +kernel
theorem dX10_init_148 : decode cX10_init 148 = .ok (.iconst 2, 1) := by decide +kernel
theorem dX10_init_149 : decode cX10_init 149 = .ok (.bipush 114, 2) := by decide +kernel
theorem dX10_init_151 : decode cX10_init 151 = .ok (.castore, 1) := by decide +kernel
theorem dX10_init_152 : decode cX10_init 152 = .ok (.dup, 1) := by decide +kernel
theorem dX10_init_153 : decode cX10_init 153 = .ok (.iconst 3, 1) := by decide +kernel
theorem dX10_init_154 : decode cX10_init 154 = .ok (.bipush 109, 2) := by decide +kernel
theorem dX10_init_156 : decode cX10_init 156 = .ok (.castore, 1) := by decide +kernel
theorem dX10_init_157 : decode cX10_init 157 = .ok (.dup, 1) := by decide +kernel
theorem dX10_init_158 : decode cX10_init 158 = .ok (.iconst 4, 1) := by decide +kernel
theorem dX10_init_159 : decode cX10_init 159 = .ok (.iconst 0, 1) := by decide +kernel
theorem dX10_init_160 : decode cX10_init 160 = .ok (.castore, 1) := by decide +kernel
theorem dX10_init_161 : decode cX10_init 161 = .ok (.dup, 1) := by decide +kernel
theorem dX10_init_162 : decode cX10_init 162 = .ok (.iconst 5, 1) := by decide +kernel
theorem dX10_init_163 : decode cX10_init 163 = .ok (.bipush 119, 2) := by decide +kernel
theorem dX10_init_165 : decode cX10_init 165 = .ok (.castore, 1) := by decide +kernel
theorem dX10_init_166 : decode cX10_init 166 = .ok (.dup, 1) := by decide +kernel
theorem dX10_init_167 : decode cX10_init 167 = .ok (.bipush 6, 2) := by decide +kernel
theorem dX10_init_169 : decode cX10_init 169 = .ok (.bipush 101, 2) := by decide +kernel
theorem dX10_init_171 : decode cX10_init 171 = .ok (.castore, 1) := by decide +kernel
theorem dX10_init_172 : decode cX10_init 172 = .ok (.dup, 1) := by decide +kernel
theorem dX10_init_173 : decode cX10_init 173 = .ok (.bipush 7, 2) := by decide +kernel
theorem dX10_init_175 : decode cX10_init 175 = .ok (.bipush 97, 2) := by decide +kernel
theorem dX10_init_177 : decode cX10_init 177 = .ok (.castore, 1) := by decide +kernel
theorem dX10_init_178 : decode cX10_init 178 = .ok (.dup, 1) := by decide +kernel
theorem dX10_init_179 : decode cX10_init 179 = .ok (.bipush 8, 2) := by decide +kernel
theorem dX10_init_181 : decode cX10_init 181 = .ok (.bipush 107, 2) := by decide +kernel
theorem dX10_init_183 : decode cX10_init 183 = .ok (.castore, 1) := by decide +kernel
theorem dX10_init_184 : decode cX10_init 184 = .ok (.dup, 1) := by decide +kernel
theorem dX10_init_185 : decode cX10_init 185 = .ok (.bipush 9, 2) := by decide +kernel
theorem dX10_init_187 : decode cX10_init 187 = .ok (.iconst 0, 1) := by decide +kernel
theorem dX10_init_188 : decode cX10_init 188 = .ok (.castore, 1) := by decide +kernel
theorem dX10_init_189 : decode cX10_init 189 = .ok (.dup, 1) := by decide +kernel
theorem dX10_init_190 : decode cX10_init 190 = .ok (.bipush 10, 2) := by decide +kernel
theorem dX10_init_192 : decode cX10_init 192 = .ok (.bipush 114, 2) := by decide +kernel
theorem dX10_init_194 : decode cX10_init 194 = .ok (.castore, 1) := by decide +kernel
theorem dX10_init_195 : decode cX10_init 195 = .ok (.dup, 1) := by decide +kernel
theorem dX10_init_196 : decode cX10_init 196 = .ok (.bipush 11, 2) := by decide +kernel
theorem dX10_init_198 : decode cX10_init 198 = .ok (.bipush 117, 2) := by decide +kernel
theorem dX10_init_200 : decode cX10_init 200 = .ok (.castore, 1) := by decide +kernel
theorem dX10_init_201 : decode cX10_init 201 = .ok (.dup, 1) := by decide +kernel
theorem dX10_init_202 : decode cX10_init 202 = .ok (.bipush 12, 2) := by decide +kernel
theorem dX10_init_204 : decode cX10_init 204 = .ok (.bipush 98, 2) := by decide +kernel
theorem dX10_init_206 : decode cX10_init 206 = .ok (.castore, 1) := by decide +kernel
theorem dX10_init_207 : decode cX10_init 207 = .ok (.dup, 1) := by decide +kernel
theorem dX10_init_208 : decode cX10_init 208 = .ok (.bipush 13, 2) := by decide +kernel
theorem dX10_init_210 : decode cX10_init 210 = .ok (.iconst 0, 1) := by decide +kernel
theorem dX10_init_211 : decode cX10_init 211 = .ok (.castore, 1) := by decide +kernel
theorem dX10_init_212 : decode cX10_init 212 = .ok (.dup, 1) := by decide +kernel
theorem dX10_init_213 : decode cX10_init 213 = .ok (.bipush 14, 2) := by decide +kernel
theorem dX10_init_215 : decode cX10_init 215 = .ok (.iconst 0, 1) := by decide +kernel
theorem dX10_init_216 : decode cX10_init 216 = .ok (.castore, 1) := by decide +kernel
theorem dX10_init_217 : decode cX10_init 217 = .ok (.putfield 43, 3) := by decide +kernel
theorem dX10_init_220 : decode cX10_init 220 = .ok (.aload_n 0, 1) := by decide +kernel
theorem dX10_init_221 : decode cX10_init 221 = .ok (.bipush 6, 2) := by decide +kernel
theorem dX10_init_223 : decode cX10_init 223 = .ok (.newarray .int, 2) := by decide +kernel
theorem dX10_init_225 : decode cX10_init 225 = .ok (.putfield 46, 3) := by decide +kernel
theorem dX10_init_228 : decode cX10_init 228 = .ok (.aload_n 0, 1) := by decide +kernel
theorem dX10_init_229 : decode cX10_init 229 = .ok (.bipush 6, 2) := by decide +kernel
theorem dX10_init_231 : decode cX10_init 231 = .ok (.newarray .int, 2) := by decide +kernel
theorem dX10_init_233 : decode cX10_init 233 = .ok (.putfield 49, 3) := by decide +kernel
theorem dX10_init_236 : decode cX10_init 236 = .ok (.aload_n 0, 1) := by decide +kernel
theorem dX10_init_237 : decode cX10_init 237 = .ok (.bipush 7, 2) := by decide +kernel
theorem dX10_init_239 : decode cX10_init 239 = .ok (.newarray .int, 2) := by decide +kernel
theorem dX10_init_241 : decode cX10_init 241 = .ok (.dup, 1) := by decide +kernel
theorem dX10_init_242 : decode cX10_init 242 = .ok (.iconst 0, 1) := by decide +kernel
theorem dX10_init_243 : decode cX10_init 243 = .ok (.iconst (-1), 1) := by decide +kernel
theorem dX10_init_244 : decode cX10_init 244 = .ok (.iastore, 1) := by decide +kernel
theorem dX10_init_245 : decode cX10_init 245 = .ok (.dup, 1) := by decide +kernel
theorem dX10_init_246 : decode cX10_init 246 = .ok (.iconst 1, 1) := by decide +kernel
theorem dX10_init_247 : decode cX10_init 247 = .ok (.iconst 0, 1) := by decide +kernel
theorem dX10_init_248 : decode cX10_init 248 = .ok (.iastore, 1) := by decide +kernel
theorem dX10_init_249 : decode cX10_init 249 = .ok (.dup, 1) := by decide +kernel
theorem dX10_init_250 : decode cX10_init 250 = .ok (.iconst 2, 1) := by decide +kernel
theorem dX10_init_251 : decode cX10_init 251 = .ok (.iconst 0, 1) := by decide +kernel
theorem dX10_init_252 : decode cX10_init 252 = .ok (.iastore, 1) := by decide +kernel
theorem dX10_init_253 : decode cX10_init 253 = .ok (.dup, 1) := by decide +kernel
theorem dX10_init_254 : decode cX10_init 254 = .ok (.iconst 3, 1) := by decide +kernel
theorem dX10_init_255 : decode cX10_init 255 = .ok (.iconst 0, 1) := by decide +kernel
theorem dX10_init_256 : decode cX10_init 256 = .ok (.iastore, 1) := by decide +kernel
theorem dX10_init_257 : decode cX10_init 257 = .ok (.dup, 1) := by decide +kernel
theorem dX10_init_258 : decode cX10_init 258 = .ok (.iconst 4, 1) := by decide +kernel
theorem dX10_init_259 : decode cX10_init 259 = .ok (.iconst 1, 1) := by decide +kernel
theorem dX10_init_260 : decode cX10_init 260 = .ok (.iastore, 1) := by decide +kernel
theorem dX10_init_261 : decode cX10_init 261 = .ok (.dup, 1) := by decide +kernel
theorem dX10_init_262 : decode cX10_init 262 = .ok (.iconst 5, 1) := by decide +kernel
theorem dX10_init_263 : decode cX10_init 263 = .ok (.iconst 2, 1) := by decide +kernel
theorem dX10_init_264 : decode cX10_init 264 = .ok (.iastore, 1) := by decide +kernel
theorem dX10_init_265 : decode cX10_init 265 = .ok (.dup, 1) := by decide +kernel
theorem dX10_init_266 : decode cX10_init 266 = .ok (.bipush 6, 2) := by decide +kernel
theorem dX10_init_268 : decode cX10_init 268 = .ok (.iconst 3, 1) := by decide +kernel
theorem dX10_init_269 : decode cX10_init 269 = .ok (.iastore, 1) := by decide +kernel
theorem dX10_init_270 : decode cX10_init 270 = .ok (.putfield 52, 3) := by decide +kernel
theorem dX10_init_273 : decode cX10_init 273 = .ok (.aload_n 0, 1) := by decide +kernel
theorem dX10_init_274 : decode cX10_init 274 = .ok (.bipush 21, 2) := by decide +kernel
theorem dX10_init_276 : decode cX10_init 276 = .ok (.newarray .int, 2) := by decide +kernel
theorem dX10_init_278 : decode cX10_init 278 = .ok (.dup, 1) := by decide +kernel
theorem dX10_init_279 : decode cX10_init 279 = .ok (.iconst 0, 1) := by decide +kernel
theorem dX10_init_280 : decode cX10_init 280 = .ok (.bipush 10, 2) := by decide +kernel
theorem dX10_init_282 : decode cX10_init 282 = .ok (.iastore, 1) := by decide +kernel
theorem dX10_init_283 : decode cX10_init 283 = .ok (.dup, 1) := by decide +kernel
theorem dX10_init_284 : decode cX10_init 284 = .ok (.iconst 1, 1) := by decide +kernel
theorem dX10_init_285 : decode cX10_init 285 = .ok (.bipush 11, 2) := by decide +kernel
theorem dX10_init_287 : decode cX10_init 287 = .ok (.iastore, 1) := by decide +kernel
theorem dX10_init_288 : decode cX10_init 288 = .ok (.dup, 1) := by decide +kernel
theorem dX10_init_289 : decode cX10_init 289 = .ok (.iconst 2, 1) := by decide +kernel
theorem dX10_init_290 : decode cX10_init 290 = .ok (.bipush 12, 2) := by decide +kernel
theorem dX10_init_292 : decode cX10_init 292 = .ok (.iastore, 1) := by decide +kernel
theorem dX10_init_293 : decode cX10_init 293 = .ok (.dup, 1) := by decide +kernel
theorem dX10_init_294 : decode cX10_init 294 = .ok (.iconst 3, 1) := by decide +kernel
theorem dX10_init_295 : decode cX10_init 295 = .ok (.iconst 0, 1) := by decide +kernel
theorem dX10_init_296 : decode cX10_init 296 = .ok (.iastore, 1) := by decide +kernel
theorem dX10_init_297 : decode cX10_init 297 = .ok (.dup, 1) := by decide +kernel
theorem dX10_init_298 : decode cX10_init 298 = .ok (.iconst 4, 1) := by decide +kernel
theorem dX10_init_299 : decode cX10_init 299 = .ok (.bipush 20, 2) := by decide +kernel
theorem dX10_init_301 : decode cX10_init 301 = .ok (.iastore, 1) := by decide +kernel
theorem dX10_init_302 : decode cX10_init 302 = .ok (.dup, 1) := by decide +kernel
theorem dX10_init_303 : decode cX10_init 303 = .ok (.iconst 5, 1) := by decide +kernel
theorem dX10_init_304 : decode cX10_init 304 = .ok (.iconst 0, 1) := by decide +kernel
theorem dX10_init_305 : decode cX10_init 305 = .ok (.iastore, 1) := by decide +kernel
theorem dX10_init_306 : decode cX10_init 306 = .ok (.dup, 1) := by decide +kernel
theorem dX10_init_307 : decode cX10_init 307 = .ok (.bipush 6, 2) := by decide +kernel
theorem dX10_init_309 : decode cX10_init 309 = .ok (.bipush 30, 2) := by decide +kernel
theorem dX10_init_311 : decode cX10_init 311 = .ok (.iastore, 1) := by decide +kernel
theorem dX10_init_312 : decode cX10_init 312 = .ok (.dup, 1) := by decide +kernel
theorem dX10_init_313 : decode cX10_init 313 = .ok (.bipush 7, 2) := by decide +kernel
theorem dX10_init_315 : decode cX10_init 315 = .ok (.iconst 0, 1) := by decide +kernel
theorem dX10_init_316 : decode cX10_init 316 = .ok (.iastore, 1) := by decide +kernel
theorem dX10_init_317 : decode cX10_init 317 = .ok (.dup, 1) := by decide +kernel
theorem dX10_init_318 : decode cX10_init 318 = .ok (.bipush 8, 2) := by decide +kernel
theorem dX10_init_320 : decode cX10_init 320 = .ok (.iconst 0, 1) := by decide +kernel
theorem dX10_init_321 : decode cX10_init 321 = .ok (.iastore, 1) := by decide +kernel
theorem dX10_init_322 : decode cX10_init 322 = .ok (.dup, 1) := by decide +kernel
theorem dX10_init_323 : decode cX10_init 323 = .ok (.bipush 9, 2) := by decide +kernel
theorem dX10_init_325 : decode cX10_init 325 = .ok (.iconst 0, 1) := by decide +kernel
theorem dX10_init_326 : decode cX10_init 326 = .ok (.iastore, 1) := by decide +kernel
theorem dX10_init_327 : decode cX10_init 327 = .ok (.dup, 1) := by decide +kernel
theorem dX10_init_328 : decode cX10_init 328 = .ok (.bipush 10, 2) := by decide +kernel
theorem dX10_init_330 : decode cX10_init 330 = .ok (.iconst 0, 1) := by decide +kernel
theorem dX10_init_331 : decode cX10_init 331 = .ok (.iastore, 1) := by decide +kernel
theorem dX10_init_332 : decode cX10_init 332 = .ok (.dup, 1) := by decide +kernel
theorem dX10_init_333 : decode cX10_init 333 = .ok (.bipush 11, 2) := by decide +kernel
theorem dX10_init_335 : decode cX10_init 335 = .ok (.bipush 40, 2) := by decide +kernel
theorem dX10_init_337 : decode cX10_init 337 = .ok (.iastore, 1) := by decide +kernel
theorem dX10_init_338 : decode cX10_init 338 = .ok (.dup, 1) := by decide +kernel
theorem dX10_init_339 : decode cX10_init 339 = .ok (.bipush 12, 2) := by decide +kernel
theorem dX10_init_341 : decode cX10_init 341 = .ok (.bipush 50, 2) := by decide +kernel
theorem dX10_init_343 : decode cX10_init 343 = .ok (.iastore, 1) := by decide +kernel
theorem dX10_init_344 : decode cX10_init 344 = .ok (.dup, 1) := by decide +kernel
theorem dX10_init_345 : decode cX10_init 345 = .ok (.bipush 13, 2) := by decide +kernel
theorem dX10_init_347 : decode cX10_init 347 = .ok (.bipush 51, 2) := by decide +kernel
theorem dX10_init_349 : decode cX10_init 349 = .ok (.iastore, 1) := by decide +kernel
theorem dX10_init_350 : decode cX10_init 350 = .ok (.dup, 1) := by decide +kernel
theorem dX10_init_351 : decode cX10_init 351 = .ok (.bipush 14, 2) := by decide +kernel
theorem dX10_init_353 : decode cX10_init 353 = .ok (.iconst 0, 1) := by decide +kernel
theorem dX10_init_354 : decode cX10_init 354 = .ok (.iastore, 1) := by decide +kernel
theorem dX10_init_355 : decode cX10_init 355 = .ok (.dup, 1) := by decide +kernel
theorem dX10_init_356 : decode cX10_init 356 = .ok (.bipush 15, 2) := by decide +kernel
theorem dX10_init_358 : decode cX10_init 358 = .ok (.iconst 0, 1) := by decide +kernel
theorem dX10_init_359 : decode cX10_init 359 = .ok (.iastore, 1) := by decide +kernel
theorem dX10_init_360 : decode cX10_init 360 = .ok (.dup, 1) := by decide +kernel
theorem dX10_init_361 : decode cX10_init 361 = .ok (.bipush 16, 2) := by decide +kernel
theorem dX10_init_363 : decode cX10_init 363 = .ok (.iconst 0, 1) := by decide +kernel
theorem dX10_init_364 : decode cX10_init 364 = .ok (.iastore, 1) := by decide +kernel
theorem dX10_init_365 : decode cX10_init 365 = .ok (.dup, 1) := by decide +kernel
theorem dX10_init_366 : decode cX10_init 366 = .ok (.bipush 17, 2) := by decide +kernel
theorem dX10_init_368 : decode cX10_init 368 = .ok (.bipush 60, 2) := by decide +kernel
theorem dX10_init_370 : decode cX10_init 370 = .ok (.iastore, 1) := by decide +kernel
theorem dX10_init_371 : decode cX10_init 371 = .ok (.dup, 1) := by decide +kernel
theorem dX10_init_372 : decode cX10_init 372 = .ok (.bipush 18, 2) := by decide +kernel
theorem dX10_init_374 : decode cX10_init 374 = .ok (.bipush 71, 2) := by decide +kernel
theorem dX10_init_376 : decode cX10_init 376 = .ok (.iastore, 1) := by decide +kernel
theorem dX10_init_377 : decode cX10_init 377 = .ok (.dup, 1) := by decide +kernel
theorem dX10_init_378 : decode cX10_init 378 = .ok (.bipush 19, 2) := by decide +kernel
theorem dX10_init_380 : decode cX10_init 380 = .ok (.bipush 70, 2) := by decide +kernel
theorem dX10_init_382 : decode cX10_init 382 = .ok (.iastore, 1) := by decide +kernel
theorem dX10_init_383 : decode cX10_init 383 = .ok (.dup, 1) := by decide +kernel
theorem dX10_init_384 : decode cX10_init 384 = .ok (.bipush 20, 2) := by decide +kernel
theorem dX10_init_386 : decode cX10_init 386 = .ok (.iconst 0, 1) := by decide +kernel
theorem dX10_init_387 : decode cX10_init 387 = .ok (.iastore, 1) := by decide +kernel
theorem dX10_init_388 : decode cX10_init 388 = .ok (.putfield 55, 3) := by decide +kernel
theorem dX10_init_391 : decode cX10_init 391 = .ok (.aload_n 0, 1) := by decide +kernel
theorem dX10_init_392 : decode cX10_init 392 = .ok (.bipush 20, 2) := by decide +kernel
theorem dX10_init_394 : decode cX10_init 394 = .ok (.newarray .int, 2) := by decide +kernel
theorem dX10_init_396 : decode cX10_init 396 = .ok (.putfield 58, 3) := by decide +kernel
theorem dX10_init_399 : decode cX10_init 399 = .ok (.aload_n 0, 1) := by decide +kernel
theorem dX10_init_400 : decode cX10_init 400 = .ok (.bipush 6, 2) := by decide +kernel
theorem dX10_init_402 : decode cX10_init 402 = .ok (.newarray .int, 2) := by decide +kernel
theorem dX10_init_404 : decode cX10_init 404 = .ok (.dup, 1) := by decide +kernel
theorem dX10_init_405 : decode cX10_init 405 = .ok (.iconst 0, 1) := by decide +kernel
theorem dX10_init_406 : decode cX10_init 406 = .ok (.iconst (-1), 1) := by decide +kernel
theorem dX10_init_407 : decode cX10_init 407 = .ok (.iastore, 1) := by decide +kernel
theorem dX10_init_408 : decode cX10_init 408 = .ok (.dup, 1) := by decide +kernel
theorem dX10_init_409 : decode cX10_init 409 = .ok (.iconst 1, 1) := by decide +kernel
theorem dX10_init_410 : decode cX10_init 410 = .ok (.iconst (-1), 1) := by decide +kernel
theorem dX10_init_411 : decode cX10_init 411 = .ok (.iastore, 1) := by decide +kernel
theorem dX10_init_412 : decode cX10_init 412 = .ok (.dup, 1) := by decide +kernel
theorem dX10_init_413 : decode cX10_init 413 = .ok (.iconst 2, 1) := by decide +kernel
theorem dX10_init_414 : decode cX10_init 414 = .ok (.iconst (-1), 1) := by decide +kernel
theorem dX10_init_415 : decode cX10_init 415 = .ok (.iastore, 1) := by decide +kernel
theorem dX10_init_416 : decode cX10_init 416 = .ok (.dup, 1) := by decide +kernel
theorem dX10_init_417 : decode cX10_init 417 = .ok (.iconst 3, 1) := by decide +kernel
theorem dX10_init_418 : decode cX10_init 418 = .ok (.iconst (-1), 1) := by decide +kernel
theorem dX10_init_419 : decode cX10_init 419 = .ok (.iastore, 1) := by decide +kernel
theorem dX10_init_420 : decode cX10_init 420 = .ok (.dup, 1) := by decide +kernel
theorem dX10_init_421 : decode cX10_init 421 = .ok (.iconst 4, 1) := by decide +kernel
theorem dX10_init_422 : decode cX10_init 422 = .ok (.iconst (-1), 1) := by decide +kernel
theorem dX10_init_423 : decode cX10_init 423 = .ok (.iastore, 1) := by decide +kernel
theorem dX10_init_424 : decode cX10_init 424 = .ok (.dup, 1) := by decide +kernel
theorem dX10_init_425 : decode cX10_init 425 = .ok (.iconst 5, 1) := by decide +kernel
theorem dX10_init_426 : decode cX10_init 426 = .ok (.iconst (-1), 1) := by decide +kernel
theorem dX10_init_427 : decode cX10_init 427 = .ok (.iastore, 1) := by decide +kernel
theorem dX10_init_428 : decode cX10_init 428 = .ok (.putfield 61, 3) := by decide +kernel
theorem dX10_init_431 : decode cX10_init 431 = .ok (.aload_n 0, 1) := by decide +kernel
theorem dX10_init_432 : decode cX10_init 432 = .ok (.bipush 6, 2) := by decide +kernel
theorem dX10_init_434 : decode cX10_init 434 = .ok (.newarray .int, 2) := by decide +kernel
theorem dX10_init_436 : decode cX10_init 436 = .ok (.putfield 64, 3) := by decide +kernel
theorem dX10_init_439 : decode cX10_init 439 = .ok (.aload_n 0, 1) := by decide +kernel
theorem dX10_init_440 : decode cX10_init 440 = .ok (.sipush 360, 3) := by decide +kernel
theorem dX10_init_443 : decode cX10_init 443 = .ok (.newarray .long, 2) := by decide +kernel
theorem dX10_init_445 : decode cX10_init 445 = .ok (.putfield 67, 3) := by decide +kernel
theorem dX10_init_448 : decode cX10_init 448 = .ok (.aload_n 0, 1) := by decide +kernel
theorem dX10_init_449 : decode cX10_init 449 = .ok (.bipush 60, 2) := by decide +kernel
theorem dX10_init_451 : decode cX10_init 451 = .ok (.newarray .long, 2) := by decide +kernel
theorem dX10_init_453 : decode cX10_init 453 = .ok (.putfield 71, 3) := by decide +kernel
theorem dX10_init_456 : decode cX10_init 456 = .ok (.return_, 1) := by decide +kernel
theorem dX10_isIn_0 : decode cX10_isIn 0 = .ok (.iload_n 0, 1) := by decide +kernel
theorem dX10_isIn_1 : decode cX10_isIn 1 = .ok (.iload_n 1, 1) := by decide +kernel
theorem dX10_isIn_2 : decode cX10_isIn 2 = .ok (.if_icmp .lt 12, 3) := by decide +kernel
theorem dX10_isIn_5 : decode cX10_isIn 5 = .ok (.iload_n 0, 1) := by decide +kernel
theorem dX10_isIn_6 : decode cX10_isIn 6 = .ok (.iload_n 2, 1) := by decide +kernel
theorem dX10_isIn_7 : decode cX10_isIn 7 = .ok (.if_icmp .gt 7, 3) := by decide +kernel
theorem dX10_isIn_10 : decode cX10_isIn 10 = .ok (.iconst 1, 1) := by decide +kernel
theorem dX10_isIn_11 : decode cX10_isIn 11 = .ok (.goto 4, 3) := by decide +kernel
theorem dX10_isIn_14 : decode cX10_isIn 14 = .ok (.iconst 0, 1) := by decide +kernel
theorem dX10_isIn_15 : decode cX10_isIn 15 = .ok (.ireturn, 1) := by decide +kernel
theorem dX10_move_0 : decode cX10_move 0 = .ok (.iconst 0, 1) := by decide +kernel
theorem dX10_move_1 : decode cX10_move 1 = .ok (.istore_n 2, 1) := by decide +kernel
theorem dX10_move_2 : decode cX10_move 2 = .ok (.iload_n 2, 1) := by decide +kernel
theorem dX10_move_3 : decode cX10_move 3 = .ok (.sipush 152, 3) := by decide +kernel
theorem dX10_move_6 : decode cX10_move 6 = .ok (.if_icmp .ge 15, 3) := by decide +kernel
theorem dX10_move_9 : decode cX10_move 9 = .ok (.aload_n 1, 1) := by decide +kernel
theorem dX10_move_10 : decode cX10_move 10 = .ok (.iload_n 2, 1) := by decide +kernel
theorem dX10_move_11 : decode cX10_move 11 = .ok (.aload_n 0, 1) := by decide +kernel
theorem dX10_move_12 : decode cX10_move 12 = .ok (.iload_n 2, 1) := by decide +kernel
theorem dX10_move_13 : decode cX10_move 13 = .ok (.iaload, 1) := by decide +kernel
theorem dX10_move_14 : decode cX10_move 14 = .ok (.iastore, 1) := by decide +kernel
theorem dX10_move_15 : decode cX10_move 15 = .ok (.iinc 2 1, 3) := by decide +kernel
theorem dX10_move_18 : decode cX10_move 18 = .ok (.goto (-16), 3) := by decide +kernel
theorem dX10_move_21 : decode cX10_move 21 = .ok (.return_, 1) := by decide +kernel
theorem dX10_image_0 : decode cX10_image 0 = .ok (.aload_n 0, 1) := by decide +kernel
theorem dX10_image_1 : decode cX10_image 1 = .ok (.iconst 1, 1) := by decide +kernel
theorem dX10_image_2 : decode cX10_image 2 = .ok (.putfield 74, 3) := by decide +kernel
theorem dX10_image_5 : decode cX10_image 5 = .ok (.aload_n 0, 1) := by decide +kernel
theorem dX10_image_6 : decode cX10_image 6 = .ok (.getfield 9, 3) := by decide +kernel
theorem dX10_image_9 : decode cX10_image 9 = .ok (.aload_n 0, 1) := by decide +kernel
theorem dX10_image_10 : decode cX10_image 10 = .ok (.getfield 18, 3) := by decide +kernel
theorem dX10_image_13 : decode cX10_image 13 = .ok (.invokestatic 78, 3) := by decide +kernel
theorem dX10_image_16 : decode cX10_image 16 = .ok (.aload_n 0, 1) := by decide +kernel
theorem dX10_image_17 : decode cX10_image 17 = .ok (.getfield 9, 3) := by decide +kernel
theorem dX10_image_20 : decode cX10_image 20 = .ok (.bipush 78, 2) := by decide +kernel
theorem dX10_image_22 : decode cX10_image 22 = .ok (.iaload, 1) := by decide +kernel
theorem dX10_image_23 : decode cX10_image 23 = .ok (.ireturn, 1) := by decide +kernel
theorem dX10_undo_0 : decode cX10_undo 0 = .ok (.aload_n 0, 1) := by decide +kernel
theorem dX10_undo_1 : decode cX10_undo 1 = .ok (.getfield 74, 3) := by decide +kernel
theorem dX10_undo_4 : decode cX10_undo 4 = .ok (.ifCond .ne 6, 3) := by decide +kernel
theorem dX10_undo_7 : decode cX10_undo 7 = .ok (.bipush (-3), 2) := by decide +kernel
theorem dX10_undo_9 : decode cX10_undo 9 = .ok (.ireturn, 1) := by decide +kernel
theorem dX10_undo_10 : decode cX10_undo 10 = .ok (.aload_n 0, 1) := by decide +kernel
theorem dX10_undo_11 : decode cX10_undo 11 = .ok (.getfield 18, 3) := by decide +kernel
theorem dX10_undo_14 : decode cX10_undo 14 = .ok (.aload_n 0, 1) := by decide +kernel
theorem dX10_undo_15 : decode cX10_undo 15 = .ok (.getfield 9, 3) := by decide +kernel
theorem dX10_undo_18 : decode cX10_undo 18 = .ok (.invokestatic 78, 3) := by decide +kernel
theorem dX10_undo_21 : decode cX10_undo 21 = .ok (.aload_n 0, 1) := by decide +kernel
theorem dX10_undo_22 : decode cX10_undo 22 = .ok (.getfield 9, 3) := by decide +kernel
theorem dX10_undo_25 : decode cX10_undo 25 = .ok (.bipush 78, 2) := by decide +kernel
theorem dX10_undo_27 : decode cX10_undo 27 = .ok (.iaload, 1) := by decide +kernel
theorem dX10_undo_28 : decode cX10_undo 28 = .ok (.ireturn, 1) := by decide +kernel
theorem dX10_isOne_0 : decode cX10_isOne 0 = .ok (.iload_n 1, 1) := by decide +kernel
theorem dX10_isOne_1 : decode cX10_isOne 1 = .ok (.iconst 0, 1) := by decide +kernel
theorem dX10_isOne_2 : decode cX10_isOne 2 = .ok (.aload_n 0, 1) := by decide +kernel
theorem dX10_isOne_3 : decode cX10_isOne 3 = .ok (.getfield 9, 3) := by decide +kernel
theorem dX10_isOne_6 : decode cX10_isOne 6 = .ok (.bipush 78, 2) := by decide +kernel
theorem dX10_isOne_8 : decode cX10_isOne 8 = .ok (.iaload, 1) := by decide +kernel
theorem dX10_isOne_9 : decode cX10_isOne 9 = .ok (.iconst 1, 1) := by decide +kernel
theorem dX10_isOne_10 : decode cX10_isOne 10 = .ok (.isub, 1) := by decide +kernel
theorem dX10_isOne_11 : decode cX10_isOne 11 = .ok (.invokestatic 82, 3) := by decide +kernel
theorem dX10_isOne_14 : decode cX10_isOne 14 = .ok (.ireturn, 1) := by decide +kernel
theorem dX10_isSaying_0 : decode cX10_isSaying 0 = .ok (.iload_n 1, 1) := by decide +kernel
theorem dX10_isSaying_1 : decode cX10_isSaying 1 = .ok (.iconst 0, 1) := by decide +kernel
theorem dX10_isSaying_2 : decode cX10_isSaying 2 = .ok (.aload_n 0, 1) := by decide +kernel
theorem dX10_isSaying_3 : decode cX10_isSaying 3 = .ok (.getfield 9, 3) := by decide +kernel
theorem dX10_isSaying_6 : decode cX10_isSaying 6 = .ok (.bipush 79, 2) := by decide +kernel
theorem dX10_isSaying_8 : decode cX10_isSaying 8 = .ok (.iaload, 1) := by decide +kernel
theorem dX10_isSaying_9 : decode cX10_isSaying 9 = .ok (.iconst 1, 1) := by decide +kernel
theorem dX10_isSaying_10 : decode cX10_isSaying 10 = .ok (.isub, 1) := by decide +kernel
theorem dX10_isSaying_11 : decode cX10_isSaying 11 = .ok (.invokestatic 82, 3) := by decide +kernel
theorem dX10_isSaying_14 : decode cX10_isSaying 14 = .ok (.ireturn, 1) := by decide +kernel
theorem dX10_orNever_0 : decode cX10_orNever 0 = .ok (.iload_n 0, 1) := by decide +kernel
theorem dX10_orNever_1 : decode cX10_orNever 1 = .ok (.iconst (-1), 1) := by decide +kernel
theorem dX10_orNever_2 : decode cX10_orNever 2 = .ok (.if_icmp .ne 8, 3) := by decide +kernel
theorem dX10_orNever_5 : decode cX10_orNever 5 = .ok (.bipush (-5), 2) := by decide +kernel
theorem dX10_orNever_7 : decode cX10_orNever 7 = .ok (.goto 4, 3) := by decide +kernel
theorem dX10_orNever_10 : decode cX10_orNever 10 = .ok (.iload_n 0, 1) := by decide +kernel
theorem dX10_orNever_11 : decode cX10_orNever 11 = .ok (.ireturn, 1) := by decide +kernel
theorem dX10_one_0 : decode cX10_one 0 = .ok (.aload_n 0, 1) := by decide +kernel
theorem dX10_one_1 : decode cX10_one 1 = .ok (.getfield 9, 3) := by decide +kernel
theorem dX10_one_4 : decode cX10_one 4 = .ok (.bipush 9, 2) := by decide +kernel
theorem dX10_one_6 : decode cX10_one 6 = .ok (.iload_n 1, 1) := by decide +kernel
theorem dX10_one_7 : decode cX10_one 7 = .ok (.imul, 1) := by decide +kernel
theorem dX10_one_8 : decode cX10_one 8 = .ok (.iload_n 2, 1) := by decide +kernel
theorem dX10_one_9 : decode cX10_one 9 = .ok (.iadd, 1) := by decide +kernel
theorem dX10_one_10 : decode cX10_one 10 = .ok (.iaload, 1) := by decide +kernel
theorem dX10_one_11 : decode cX10_one 11 = .ok (.ireturn, 1) := by decide +kernel
theorem dX10_change_0 : decode cX10_change 0 = .ok (.aload_n 0, 1) := by decide +kernel
theorem dX10_change_1 : decode cX10_change 1 = .ok (.iload_n 1, 1) := by decide +kernel
theorem dX10_change_2 : decode cX10_change 2 = .ok (.iload_n 2, 1) := by decide +kernel
theorem dX10_change_3 : decode cX10_change 3 = .ok (.invokevirtual 86, 3) := by decide +kernel
theorem dX10_change_6 : decode cX10_change 6 = .ok (.istore 4, 2) := by decide +kernel
theorem dX10_change_8 : decode cX10_change 8 = .ok (.aload_n 0, 1) := by decide +kernel
theorem dX10_change_9 : decode cX10_change 9 = .ok (.getfield 9, 3) := by decide +kernel
theorem dX10_change_12 : decode cX10_change 12 = .ok (.bipush 9, 2) := by decide +kernel
theorem dX10_change_14 : decode cX10_change 14 = .ok (.iload_n 1, 1) := by decide +kernel
theorem dX10_change_15 : decode cX10_change 15 = .ok (.imul, 1) := by decide +kernel
theorem dX10_change_16 : decode cX10_change 16 = .ok (.iload_n 2, 1) := by decide +kernel
theorem dX10_change_17 : decode cX10_change 17 = .ok (.iadd, 1) := by decide +kernel
theorem dX10_change_18 : decode cX10_change 18 = .ok (.iload_n 3, 1) := by decide +kernel
theorem dX10_change_19 : decode cX10_change 19 = .ok (.iastore, 1) := by decide +kernel
theorem dX10_change_20 : decode cX10_change 20 = .ok (.iload 4, 2) := by decide +kernel
theorem dX10_change_22 : decode cX10_change 22 = .ok (.ireturn, 1) := by decide +kernel
theorem dX10_word_0 : decode cX10_word 0 = .ok (.aload_n 0, 1) := by decide +kernel
theorem dX10_word_1 : decode cX10_word 1 = .ok (.getfield 9, 3) := by decide +kernel
theorem dX10_word_4 : decode cX10_word 4 = .ok (.bipush 54, 2) := by decide +kernel
theorem dX10_word_6 : decode cX10_word 6 = .ok (.iconst 3, 1) := by decide +kernel
theorem dX10_word_7 : decode cX10_word 7 = .ok (.iload_n 1, 1) := by decide +kernel
theorem dX10_word_8 : decode cX10_word 8 = .ok (.imul, 1) := by decide +kernel
theorem dX10_word_9 : decode cX10_word 9 = .ok (.iadd, 1) := by decide +kernel
theorem dX10_word_10 : decode cX10_word 10 = .ok (.iload_n 2, 1) := by decide +kernel
theorem dX10_word_11 : decode cX10_word 11 = .ok (.iadd, 1) := by decide +kernel
theorem dX10_word_12 : decode cX10_word 12 = .ok (.iaload, 1) := by decide +kernel
theorem dX10_word_13 : decode cX10_word 13 = .ok (.ireturn, 1) := by decide +kernel
theorem dX10_aims_0 : decode cX10_aims 0 = .ok (.aload_n 0, 1) := by decide +kernel
theorem dX10_aims_1 : decode cX10_aims 1 = .ok (.iload_n 1, 1) := by decide +kernel
theorem dX10_aims_2 : decode cX10_aims 2 = .ok (.iconst 2, 1) := by decide +kernel
theorem dX10_aims_3 : decode cX10_aims 3 = .ok (.invokevirtual 90, 3) := by decide +kernel
theorem dX10_aims_6 : decode cX10_aims 6 = .ok (.istore_n 3, 1) := by decide +kernel
theorem dX10_aims_7 : decode cX10_aims 7 = .ok (.aload_n 0, 1) := by decide +kernel
theorem dX10_aims_8 : decode cX10_aims 8 = .ok (.getfield 9, 3) := by decide +kernel
theorem dX10_aims_11 : decode cX10_aims 11 = .ok (.bipush 54, 2) := by decide +kernel
theorem dX10_aims_13 : decode cX10_aims 13 = .ok (.iconst 3, 1) := by decide +kernel
theorem dX10_aims_14 : decode cX10_aims 14 = .ok (.iload_n 1, 1) := by decide +kernel
theorem dX10_aims_15 : decode cX10_aims 15 = .ok (.imul, 1) := by decide +kernel
theorem dX10_aims_16 : decode cX10_aims 16 = .ok (.iadd, 1) := by decide +kernel
theorem dX10_aims_17 : decode cX10_aims 17 = .ok (.iconst 2, 1) := by decide +kernel
theorem dX10_aims_18 : decode cX10_aims 18 = .ok (.iadd, 1) := by decide +kernel
theorem dX10_aims_19 : decode cX10_aims 19 = .ok (.iload_n 2, 1) := by decide +kernel
theorem dX10_aims_20 : decode cX10_aims 20 = .ok (.iastore, 1) := by decide +kernel
theorem dX10_aims_21 : decode cX10_aims 21 = .ok (.iload_n 3, 1) := by decide +kernel
theorem dX10_aims_22 : decode cX10_aims 22 = .ok (.ireturn, 1) := by decide +kernel
theorem dX10_wearer_0 : decode cX10_wearer 0 = .ok (.iload_n 1, 1) := by decide +kernel
theorem dX10_wearer_1 : decode cX10_wearer 1 = .ok (.iconst 0, 1) := by decide +kernel
theorem dX10_wearer_2 : decode cX10_wearer 2 = .ok (.bipush 6, 2) := by decide +kernel
theorem dX10_wearer_4 : decode cX10_wearer 4 = .ok (.invokestatic 82, 3) := by decide +kernel
theorem dX10_wearer_7 : decode cX10_wearer 7 = .ok (.ifCond .ne 5, 3) := by decide +kernel
theorem dX10_wearer_10 : decode cX10_wearer 10 = .ok (.iconst (-1), 1) := by decide +kernel
theorem dX10_wearer_11 : decode cX10_wearer 11 = .ok (.ireturn, 1) := by decide +kernel
theorem dX10_wearer_12 : decode cX10_wearer 12 = .ok (.iload_n 2, 1) := by decide +kernel
theorem dX10_wearer_13 : decode cX10_wearer 13 = .ok (.iconst 0, 1) := by decide +kernel
theorem dX10_wearer_14 : decode cX10_wearer 14 = .ok (.bipush 9, 2) := by decide +kernel
theorem dX10_wearer_16 : decode cX10_wearer 16 = .ok (.invokestatic 82, 3) := by decide +kernel
theorem dX10_wearer_19 : decode cX10_wearer 19 = .ok (.ifCond .eq 13, 3) := by decide +kernel
theorem dX10_wearer_22 : decode cX10_wearer 22 = .ok (.iload_n 3, 1) := by decide +kernel
theorem dX10_wearer_23 : decode cX10_wearer 23 = .ok (.iconst 0, 1) := by decide +kernel
theorem dX10_wearer_24 : decode cX10_wearer 24 = .ok (.bipush 99, 2) := by decide +kernel
theorem dX10_wearer_26 : decode cX10_wearer 26 = .ok (.invokestatic 82, 3) := by decide +kernel
theorem dX10_wearer_29 : decode cX10_wearer 29 = .ok (.ifCond .ne 6, 3) := by decide +kernel
theorem dX10_wearer_32 : decode cX10_wearer 32 = .ok (.bipush (-2), 2) := by decide +kernel
theorem dX10_wearer_34 : decode cX10_wearer 34 = .ok (.ireturn, 1) := by decide +kernel
theorem dX10_wearer_35 : decode cX10_wearer 35 = .ok (.aload_n 0, 1) := by decide +kernel
theorem dX10_wearer_36 : decode cX10_wearer 36 = .ok (.getfield 9, 3) := by decide +kernel
theorem dX10_wearer_39 : decode cX10_wearer 39 = .ok (.bipush 78, 2) := by decide +kernel
theorem dX10_wearer_41 : decode cX10_wearer 41 = .ok (.iaload, 1) := by decide +kernel
theorem dX10_wearer_42 : decode cX10_wearer 42 = .ok (.istore 4, 2) := by decide +kernel
theorem dX10_wearer_44 : decode cX10_wearer 44 = .ok (.iload 4, 2) := by decide +kernel
theorem dX10_wearer_46 : decode cX10_wearer 46 = .ok (.bipush 6, 2) := by decide +kernel
theorem dX10_wearer_48 : decode cX10_wearer 48 = .ok (.if_icmp .ne 6, 3) := by decide +kernel
theorem dX10_wearer_51 : decode cX10_wearer 51 = .ok (.bipush (-4), 2) := by decide +kernel
theorem dX10_wearer_53 : decode cX10_wearer 53 = .ok (.ireturn, 1) := by decide +kernel
theorem dX10_wearer_54 : decode cX10_wearer 54 = .ok (.iconst 0, 1) := by decide +kernel
theorem dX10_wearer_55 : decode cX10_wearer 55 = .ok (.istore 5, 2) := by decide +kernel
theorem dX10_wearer_57 : decode cX10_wearer 57 = .ok (.iload 5, 2) := by decide +kernel
theorem dX10_wearer_59 : decode cX10_wearer 59 = .ok (.bipush 9, 2) := by decide +kernel
theorem dX10_wearer_61 : decode cX10_wearer 61 = .ok (.if_icmp .ge 19, 3) := by decide +kernel
theorem dX10_wearer_64 : decode cX10_wearer 64 = .ok (.aload_n 0, 1) := by decide +kernel
theorem dX10_wearer_65 : decode cX10_wearer 65 = .ok (.iload 4, 2) := by decide +kernel
theorem dX10_wearer_67 : decode cX10_wearer 67 = .ok (.iload 5, 2) := by decide +kernel
theorem dX10_wearer_69 : decode cX10_wearer 69 = .ok (.iconst 0, 1) := by decide +kernel
theorem dX10_wearer_70 : decode cX10_wearer 70 = .ok (.invokevirtual 93, 3) := by decide +kernel
theorem dX10_wearer_73 : decode cX10_wearer 73 = .ok (.pop, 1) := by decide +kernel
theorem dX10_wearer_74 : decode cX10_wearer 74 = .ok (.iinc 5 1, 3) := by decide +kernel
theorem dX10_wearer_77 : decode cX10_wearer 77 = .ok (.goto (-20), 3) := by decide +kernel
theorem dX10_wearer_80 : decode cX10_wearer 80 = .ok (.aload_n 0, 1) := by decide +kernel
theorem dX10_wearer_81 : decode cX10_wearer 81 = .ok (.iload 4, 2) := by decide +kernel
theorem dX10_wearer_83 : decode cX10_wearer 83 = .ok (.iconst 0, 1) := by decide +kernel
theorem dX10_wearer_84 : decode cX10_wearer 84 = .ok (.iload_n 1, 1) := by decide +kernel
theorem dX10_wearer_85 : decode cX10_wearer 85 = .ok (.invokevirtual 93, 3) := by decide +kernel
theorem dX10_wearer_88 : decode cX10_wearer 88 = .ok (.pop, 1) := by decide +kernel
theorem dX10_wearer_89 : decode cX10_wearer 89 = .ok (.aload_n 0, 1) := by decide +kernel
theorem dX10_wearer_90 : decode cX10_wearer 90 = .ok (.iload 4, 2) := by decide +kernel
theorem dX10_wearer_92 : decode cX10_wearer 92 = .ok (.iconst 1, 1) := by decide +kernel
theorem dX10_wearer_93 : decode cX10_wearer 93 = .ok (.iload_n 2, 1) := by decide +kernel
theorem dX10_wearer_94 : decode cX10_wearer 94 = .ok (.invokevirtual 93, 3) := by decide +kernel
theorem dX10_wearer_97 : decode cX10_wearer 97 = .ok (.pop, 1) := by decide +kernel
theorem dX10_wearer_98 : decode cX10_wearer 98 = .ok (.aload_n 0, 1) := by decide +kernel
theorem dX10_wearer_99 : decode cX10_wearer 99 = .ok (.iload 4, 2) := by decide +kernel
theorem dX10_wearer_101 : decode cX10_wearer 101 = .ok (.iconst 2, 1) := by decide +kernel
theorem dX10_wearer_102 : decode cX10_wearer 102 = .ok (.iload_n 3, 1) := by decide +kernel
theorem dX10_wearer_103 : decode cX10_wearer 103 = .ok (.invokevirtual 93, 3) := by decide +kernel
theorem dX10_wearer_106 : decode cX10_wearer 106 = .ok (.pop, 1) := by decide +kernel
theorem dX10_wearer_107 : decode cX10_wearer 107 = .ok (.aload_n 0, 1) := by decide +kernel
theorem dX10_wearer_108 : decode cX10_wearer 108 = .ok (.getfield 9, 3) := by decide +kernel
theorem dX10_wearer_111 : decode cX10_wearer 111 = .ok (.bipush 78, 2) := by decide +kernel
theorem dX10_wearer_113 : decode cX10_wearer 113 = .ok (.dup2, 1) := by decide +kernel
theorem dX10_wearer_114 : decode cX10_wearer 114 = .ok (.iaload, 1) := by decide +kernel
theorem dX10_wearer_115 : decode cX10_wearer 115 = .ok (.iconst 1, 1) := by decide +kernel
theorem dX10_wearer_116 : decode cX10_wearer 116 = .ok (.iadd, 1) := by decide +kernel
theorem dX10_wearer_117 : decode cX10_wearer 117 = .ok (.iastore, 1) := by decide +kernel
theorem dX10_wearer_118 : decode cX10_wearer 118 = .ok (.iload 4, 2) := by decide +kernel
theorem dX10_wearer_120 : decode cX10_wearer 120 = .ok (.ireturn, 1) := by decide +kernel
theorem dX10_of_0 : decode cX10_of 0 = .ok (.aload_n 0, 1) := by decide +kernel
theorem dX10_of_1 : decode cX10_of 1 = .ok (.iload_n 1, 1) := by decide +kernel
theorem dX10_of_2 : decode cX10_of 2 = .ok (.invokevirtual 97, 3) := by decide +kernel
theorem dX10_of_5 : decode cX10_of 5 = .ok (.ifCond .ne 7, 3) := by decide +kernel
theorem dX10_of_8 : decode cX10_of 8 = .ok (.sipush (-10001), 3) := by decide +kernel
theorem dX10_of_11 : decode cX10_of 11 = .ok (.ireturn, 1) := by decide +kernel
theorem dX10_of_12 : decode cX10_of 12 = .ok (.iload_n 2, 1) := by decide +kernel
theorem dX10_of_13 : decode cX10_of 13 = .ok (.iconst 0, 1) := by decide +kernel
theorem dX10_of_14 : decode cX10_of 14 = .ok (.iconst 4, 1) := by decide +kernel
theorem dX10_of_15 : decode cX10_of 15 = .ok (.invokestatic 82, 3) := by decide +kernel
theorem dX10_of_18 : decode cX10_of 18 = .ok (.ifCond .eq 10, 3) := by decide +kernel
theorem dX10_of_21 : decode cX10_of 21 = .ok (.aload_n 0, 1) := by decide +kernel
theorem dX10_of_22 : decode cX10_of 22 = .ok (.iload_n 1, 1) := by decide +kernel
theorem dX10_of_23 : decode cX10_of 23 = .ok (.iload_n 2, 1) := by decide +kernel
theorem dX10_of_24 : decode cX10_of 24 = .ok (.invokevirtual 86, 3) := by decide +kernel
theorem dX10_of_27 : decode cX10_of 27 = .ok (.ireturn, 1) := by decide +kernel
theorem dX10_of_28 : decode cX10_of 28 = .ok (.iload_n 2, 1) := by decide +kernel
theorem dX10_of_29 : decode cX10_of 29 = .ok (.iconst 5, 1) := by decide +kernel
theorem dX10_of_30 : decode cX10_of 30 = .ok (.if_icmp .ne 11, 3) := by decide +kernel
theorem dX10_of_33 : decode cX10_of 33 = .ok (.aload_n 0, 1) := by decide +kernel
theorem dX10_of_34 : decode cX10_of 34 = .ok (.iload_n 1, 1) := by decide +kernel
theorem dX10_of_35 : decode cX10_of 35 = .ok (.invokevirtual 101, 3) := by decide +kernel
theorem dX10_of_38 : decode cX10_of 38 = .ok (.goto 60, 3) := by decide +kernel
theorem dX10_of_41 : decode cX10_of 41 = .ok (.iload_n 2, 1) := by decide +kernel
theorem dX10_of_42 : decode cX10_of 42 = .ok (.bipush 6, 2) := by decide +kernel
theorem dX10_of_44 : decode cX10_of 44 = .ok (.if_icmp .eq 9, 3) := by decide +kernel
theorem dX10_of_47 : decode cX10_of 47 = .ok (.iload_n 2, 1) := by decide +kernel
theorem dX10_of_48 : decode cX10_of 48 = .ok (.bipush 7, 2) := by decide +kernel
theorem dX10_of_50 : decode cX10_of 50 = .ok (.if_icmp .ne 22, 3) := by decide +kernel
theorem dX10_of_53 : decode cX10_of 53 = .ok (.aload_n 0, 1) := by decide +kernel
theorem dX10_of_54 : decode cX10_of 54 = .ok (.iload_n 1, 1) := by decide +kernel
theorem dX10_of_55 : decode cX10_of 55 = .ok (.iload_n 2, 1) := by decide +kernel
theorem dX10_of_56 : decode cX10_of 56 = .ok (.bipush 6, 2) := by decide +kernel
theorem dX10_of_58 : decode cX10_of 58 = .ok (.if_icmp .ne 7, 3) := by decide +kernel
theorem dX10_of_61 : decode cX10_of 61 = .ok (.iconst 1, 1) := by decide +kernel
theorem dX10_of_62 : decode cX10_of 62 = .ok (.goto 4, 3) := by decide +kernel
theorem dX10_of_65 : decode cX10_of 65 = .ok (.iconst 0, 1) := by decide +kernel
theorem dX10_of_66 : decode cX10_of 66 = .ok (.invokevirtual 105, 3) := by decide +kernel
theorem dX10_of_69 : decode cX10_of 69 = .ok (.goto 29, 3) := by decide +kernel
theorem dX10_of_72 : decode cX10_of 72 = .ok (.aload_n 0, 1) := by decide +kernel
theorem dX10_of_73 : decode cX10_of 73 = .ok (.iload_n 2, 1) := by decide +kernel
theorem dX10_of_74 : decode cX10_of 74 = .ok (.bipush 10, 2) := by decide +kernel
theorem dX10_of_76 : decode cX10_of 76 = .ok (.isub, 1) := by decide +kernel
theorem dX10_of_77 : decode cX10_of 77 = .ok (.invokevirtual 108, 3) := by decide +kernel
theorem dX10_of_80 : decode cX10_of 80 = .ok (.ifCond .eq 15, 3) := by decide +kernel
theorem dX10_of_83 : decode cX10_of 83 = .ok (.aload_n 0, 1) := by decide +kernel
theorem dX10_of_84 : decode cX10_of 84 = .ok (.iload_n 1, 1) := by decide +kernel
theorem dX10_of_85 : decode cX10_of 85 = .ok (.iload_n 2, 1) := by decide +kernel
theorem dX10_of_86 : decode cX10_of 86 = .ok (.bipush 10, 2) := by decide +kernel
theorem dX10_of_88 : decode cX10_of 88 = .ok (.isub, 1) := by decide +kernel
theorem dX10_of_89 : decode cX10_of 89 = .ok (.invokevirtual 111, 3) := by decide +kernel
theorem dX10_of_92 : decode cX10_of 92 = .ok (.goto 6, 3) := by decide +kernel
theorem dX10_of_95 : decode cX10_of 95 = .ok (.sipush (-10001), 3) := by decide +kernel
theorem dX10_of_98 : decode cX10_of 98 = .ok (.ireturn, 1) := by decide +kernel
theorem dX10_saying_0 : decode cX10_saying 0 = .ok (.iload_n 1, 1) := by decide +kernel
theorem dX10_saying_1 : decode cX10_saying 1 = .ok (.iconst 0, 1) := by decide +kernel
theorem dX10_saying_2 : decode cX10_saying 2 = .ok (.bipush 60, 2) := by decide +kernel
theorem dX10_saying_4 : decode cX10_saying 4 = .ok (.invokestatic 82, 3) := by decide +kernel
theorem dX10_saying_7 : decode cX10_saying 7 = .ok (.ifCond .eq 13, 3) := by decide +kernel
theorem dX10_saying_10 : decode cX10_saying 10 = .ok (.iload_n 2, 1) := by decide +kernel
theorem dX10_saying_11 : decode cX10_saying 11 = .ok (.iconst 1, 1) := by decide +kernel
theorem dX10_saying_12 : decode cX10_saying 12 = .ok (.bipush 9, 2) := by decide +kernel
theorem dX10_saying_14 : decode cX10_saying 14 = .ok (.invokestatic 82, 3) := by decide +kernel
theorem dX10_saying_17 : decode cX10_saying 17 = .ok (.ifCond .ne 6, 3) := by decide +kernel
theorem dX10_saying_20 : decode cX10_saying 20 = .ok (.bipush (-2), 2) := by decide +kernel
theorem dX10_saying_22 : decode cX10_saying 22 = .ok (.ireturn, 1) := by decide +kernel
theorem dX10_saying_23 : decode cX10_saying 23 = .ok (.aload_n 0, 1) := by decide +kernel
theorem dX10_saying_24 : decode cX10_saying 24 = .ok (.getfield 9, 3) := by decide +kernel
theorem dX10_saying_27 : decode cX10_saying 27 = .ok (.bipush 79, 2) := by decide +kernel
theorem dX10_saying_29 : decode cX10_saying 29 = .ok (.iaload, 1) := by decide +kernel
theorem dX10_saying_30 : decode cX10_saying 30 = .ok (.istore_n 3, 1) := by decide +kernel
theorem dX10_saying_31 : decode cX10_saying 31 = .ok (.iload_n 3, 1) := by decide +kernel
theorem dX10_saying_32 : decode cX10_saying 32 = .ok (.bipush 8, 2) := by decide +kernel
theorem dX10_saying_34 : decode cX10_saying 34 = .ok (.if_icmp .ne 6, 3) := by decide +kernel
theorem dX10_saying_37 : decode cX10_saying 37 = .ok (.bipush (-4), 2) := by decide +kernel
theorem dX10_saying_39 : decode cX10_saying 39 = .ok (.ireturn, 1) := by decide +kernel
theorem dX10_saying_40 : decode cX10_saying 40 = .ok (.aload_n 0, 1) := by decide +kernel
theorem dX10_saying_41 : decode cX10_saying 41 = .ok (.getfield 9, 3) := by decide +kernel
theorem dX10_saying_44 : decode cX10_saying 44 = .ok (.bipush 54, 2) := by decide +kernel
theorem dX10_saying_46 : decode cX10_saying 46 = .ok (.iconst 3, 1) := by decide +kernel
theorem dX10_saying_47 : decode cX10_saying 47 = .ok (.iload_n 3, 1) := by decide +kernel
theorem dX10_saying_48 : decode cX10_saying 48 = .ok (.imul, 1) := by decide +kernel
theorem dX10_saying_49 : decode cX10_saying 49 = .ok (.iadd, 1) := by decide +kernel
theorem dX10_saying_50 : decode cX10_saying 50 = .ok (.iload_n 1, 1) := by decide +kernel
theorem dX10_saying_51 : decode cX10_saying 51 = .ok (.iastore, 1) := by decide +kernel
theorem dX10_saying_52 : decode cX10_saying 52 = .ok (.aload_n 0, 1) := by decide +kernel
theorem dX10_saying_53 : decode cX10_saying 53 = .ok (.getfield 9, 3) := by decide +kernel
theorem dX10_saying_56 : decode cX10_saying 56 = .ok (.bipush 54, 2) := by decide +kernel
theorem dX10_saying_58 : decode cX10_saying 58 = .ok (.iconst 3, 1) := by decide +kernel
theorem dX10_saying_59 : decode cX10_saying 59 = .ok (.iload_n 3, 1) := by decide +kernel
theorem dX10_saying_60 : decode cX10_saying 60 = .ok (.imul, 1) := by decide +kernel
theorem dX10_saying_61 : decode cX10_saying 61 = .ok (.iadd, 1) := by decide +kernel
theorem dX10_saying_62 : decode cX10_saying 62 = .ok (.iconst 1, 1) := by decide +kernel
theorem dX10_saying_63 : decode cX10_saying 63 = .ok (.iadd, 1) := by decide +kernel
theorem dX10_saying_64 : decode cX10_saying 64 = .ok (.iload_n 2, 1) := by decide +kernel
theorem dX10_saying_65 : decode cX10_saying 65 = .ok (.iastore, 1) := by decide +kernel
theorem dX10_saying_66 : decode cX10_saying 66 = .ok (.aload_n 0, 1) := by decide +kernel
theorem dX10_saying_67 : decode cX10_saying 67 = .ok (.iload_n 3, 1) := by decide +kernel
theorem dX10_saying_68 : decode cX10_saying 68 = .ok (.iconst (-1), 1) := by decide +kernel
theorem dX10_saying_69 : decode cX10_saying 69 = .ok (.invokevirtual 114, 3) := by decide +kernel
theorem dX10_saying_72 : decode cX10_saying 72 = .ok (.pop, 1) := by decide +kernel
theorem dX10_saying_73 : decode cX10_saying 73 = .ok (.aload_n 0, 1) := by decide +kernel
theorem dX10_saying_74 : decode cX10_saying 74 = .ok (.getfield 9, 3) := by decide +kernel
theorem dX10_saying_77 : decode cX10_saying 77 = .ok (.bipush 79, 2) := by decide +kernel
theorem dX10_saying_79 : decode cX10_saying 79 = .ok (.dup2, 1) := by decide +kernel
theorem dX10_saying_80 : decode cX10_saying 80 = .ok (.iaload, 1) := by decide +kernel
theorem dX10_saying_81 : decode cX10_saying 81 = .ok (.iconst 1, 1) := by decide +kernel
theorem dX10_saying_82 : decode cX10_saying 82 = .ok (.iadd, 1) := by decide +kernel
theorem dX10_saying_83 : decode cX10_saying 83 = .ok (.iastore, 1) := by decide +kernel
theorem dX10_saying_84 : decode cX10_saying 84 = .ok (.iload_n 3, 1) := by decide +kernel
theorem dX10_saying_85 : decode cX10_saying 85 = .ok (.ireturn, 1) := by decide +kernel
theorem dX10_phrase_0 : decode cX10_phrase 0 = .ok (.aload_n 0, 1) := by decide +kernel
theorem dX10_phrase_1 : decode cX10_phrase 1 = .ok (.iload_n 1, 1) := by decide +kernel
theorem dX10_phrase_2 : decode cX10_phrase 2 = .ok (.invokevirtual 108, 3) := by decide +kernel
theorem dX10_phrase_5 : decode cX10_phrase 5 = .ok (.ifCond .eq 12, 3) := by decide +kernel
theorem dX10_phrase_8 : decode cX10_phrase 8 = .ok (.iload_n 2, 1) := by decide +kernel
theorem dX10_phrase_9 : decode cX10_phrase 9 = .ok (.iconst 0, 1) := by decide +kernel
theorem dX10_phrase_10 : decode cX10_phrase 10 = .ok (.iconst 2, 1) := by decide +kernel
theorem dX10_phrase_11 : decode cX10_phrase 11 = .ok (.invokestatic 82, 3) := by decide +kernel
theorem dX10_phrase_14 : decode cX10_phrase 14 = .ok (.ifCond .ne 5, 3) := by decide +kernel
theorem dX10_phrase_17 : decode cX10_phrase 17 = .ok (.iconst (-1), 1) := by decide +kernel
theorem dX10_phrase_18 : decode cX10_phrase 18 = .ok (.ireturn, 1) := by decide +kernel
theorem dX10_phrase_19 : decode cX10_phrase 19 = .ok (.iload_n 2, 1) := by decide +kernel
theorem dX10_phrase_20 : decode cX10_phrase 20 = .ok (.iconst 2, 1) := by decide +kernel
theorem dX10_phrase_21 : decode cX10_phrase 21 = .ok (.if_icmp .ne 15, 3) := by decide +kernel
theorem dX10_phrase_24 : decode cX10_phrase 24 = .ok (.aload_n 0, 1) := by decide +kernel
theorem dX10_phrase_25 : decode cX10_phrase 25 = .ok (.iload_n 1, 1) := by decide +kernel
theorem dX10_phrase_26 : decode cX10_phrase 26 = .ok (.iconst 2, 1) := by decide +kernel
theorem dX10_phrase_27 : decode cX10_phrase 27 = .ok (.invokevirtual 90, 3) := by decide +kernel
theorem dX10_phrase_30 : decode cX10_phrase 30 = .ok (.invokestatic 117, 3) := by decide +kernel
theorem dX10_phrase_33 : decode cX10_phrase 33 = .ok (.goto 9, 3) := by decide +kernel
theorem dX10_phrase_36 : decode cX10_phrase 36 = .ok (.aload_n 0, 1) := by decide +kernel
theorem dX10_phrase_37 : decode cX10_phrase 37 = .ok (.iload_n 1, 1) := by decide +kernel
theorem dX10_phrase_38 : decode cX10_phrase 38 = .ok (.iload_n 2, 1) := by decide +kernel
theorem dX10_phrase_39 : decode cX10_phrase 39 = .ok (.invokevirtual 90, 3) := by decide +kernel
theorem dX10_phrase_42 : decode cX10_phrase 42 = .ok (.ireturn, 1) := by decide +kernel
theorem dX10_aim_0 : decode cX10_aim 0 = .ok (.aload_n 0, 1) := by decide +kernel
theorem dX10_aim_1 : decode cX10_aim 1 = .ok (.iload_n 1, 1) := by decide +kernel
theorem dX10_aim_2 : decode cX10_aim 2 = .ok (.invokevirtual 108, 3) := by decide +kernel
theorem dX10_aim_5 : decode cX10_aim 5 = .ok (.ifCond .eq 28, 3) := by decide +kernel
theorem dX10_aim_8 : decode cX10_aim 8 = .ok (.iload_n 2, 1) := by decide +kernel
theorem dX10_aim_9 : decode cX10_aim 9 = .ok (.iconst (-1), 1) := by decide +kernel
theorem dX10_aim_10 : decode cX10_aim 10 = .ok (.if_icmp .eq 11, 3) := by decide +kernel
theorem dX10_aim_13 : decode cX10_aim 13 = .ok (.aload_n 0, 1) := by decide +kernel
theorem dX10_aim_14 : decode cX10_aim 14 = .ok (.iload_n 2, 1) := by decide +kernel
theorem dX10_aim_15 : decode cX10_aim 15 = .ok (.invokevirtual 97, 3) := by decide +kernel
theorem dX10_aim_18 : decode cX10_aim 18 = .ok (.ifCond .eq 15, 3) := by decide +kernel
theorem dX10_aim_21 : decode cX10_aim 21 = .ok (.aload_n 0, 1) := by decide +kernel
theorem dX10_aim_22 : decode cX10_aim 22 = .ok (.iload_n 1, 1) := by decide +kernel
theorem dX10_aim_23 : decode cX10_aim 23 = .ok (.iload_n 2, 1) := by decide +kernel
theorem dX10_aim_24 : decode cX10_aim 24 = .ok (.invokevirtual 114, 3) := by decide +kernel
theorem dX10_aim_27 : decode cX10_aim 27 = .ok (.invokestatic 117, 3) := by decide +kernel
theorem dX10_aim_30 : decode cX10_aim 30 = .ok (.goto 4, 3) := by decide +kernel
theorem dX10_aim_33 : decode cX10_aim 33 = .ok (.iconst (-1), 1) := by decide +kernel
theorem dX10_aim_34 : decode cX10_aim 34 = .ok (.ireturn, 1) := by decide +kernel
theorem dX10_mend_0 : decode cX10_mend 0 = .ok (.aload_n 0, 1) := by decide +kernel
theorem dX10_mend_1 : decode cX10_mend 1 = .ok (.iload_n 1, 1) := by decide +kernel
theorem dX10_mend_2 : decode cX10_mend 2 = .ok (.invokevirtual 97, 3) := by decide +kernel
theorem dX10_mend_5 : decode cX10_mend 5 = .ok (.ifCond .ne 5, 3) := by decide +kernel
theorem dX10_mend_8 : decode cX10_mend 8 = .ok (.iconst (-1), 1) := by decide +kernel
theorem dX10_mend_9 : decode cX10_mend 9 = .ok (.ireturn, 1) := by decide +kernel
theorem dX10_mend_10 : decode cX10_mend 10 = .ok (.iload_n 2, 1) := by decide +kernel
theorem dX10_mend_11 : decode cX10_mend 11 = .ok (.iconst 0, 1) := by decide +kernel
theorem dX10_mend_12 : decode cX10_mend 12 = .ok (.bipush 99, 2) := by decide +kernel
theorem dX10_mend_14 : decode cX10_mend 14 = .ok (.invokestatic 82, 3) := by decide +kernel
theorem dX10_mend_17 : decode cX10_mend 17 = .ok (.ifCond .eq 13, 3) := by decide +kernel
theorem dX10_mend_20 : decode cX10_mend 20 = .ok (.aload_n 0, 1) := by decide +kernel
theorem dX10_mend_21 : decode cX10_mend 21 = .ok (.iload_n 1, 1) := by decide +kernel
theorem dX10_mend_22 : decode cX10_mend 22 = .ok (.iconst 2, 1) := by decide +kernel
theorem dX10_mend_23 : decode cX10_mend 23 = .ok (.iload_n 2, 1) := by decide +kernel
theorem dX10_mend_24 : decode cX10_mend 24 = .ok (.invokevirtual 93, 3) := by decide +kernel
theorem dX10_mend_27 : decode cX10_mend 27 = .ok (.goto 5, 3) := by decide +kernel
theorem dX10_mend_30 : decode cX10_mend 30 = .ok (.bipush (-2), 2) := by decide +kernel
theorem dX10_mend_32 : decode cX10_mend 32 = .ok (.ireturn, 1) := by decide +kernel
theorem dX10_row_0 : decode cX10_row 0 = .ok (.aload_n 0, 1) := by decide +kernel
theorem dX10_row_1 : decode cX10_row 1 = .ok (.iload_n 1, 1) := by decide +kernel
theorem dX10_row_2 : decode cX10_row 2 = .ok (.invokevirtual 97, 3) := by decide +kernel
theorem dX10_row_5 : decode cX10_row 5 = .ok (.ifCond .eq 12, 3) := by decide +kernel
theorem dX10_row_8 : decode cX10_row 8 = .ok (.iload_n 2, 1) := by decide +kernel
theorem dX10_row_9 : decode cX10_row 9 = .ok (.iconst 0, 1) := by decide +kernel
theorem dX10_row_10 : decode cX10_row 10 = .ok (.iconst 3, 1) := by decide +kernel
theorem dX10_row_11 : decode cX10_row 11 = .ok (.invokestatic 82, 3) := by decide +kernel
theorem dX10_row_14 : decode cX10_row 14 = .ok (.ifCond .ne 5, 3) := by decide +kernel
theorem dX10_row_17 : decode cX10_row 17 = .ok (.iconst (-1), 1) := by decide +kernel
theorem dX10_row_18 : decode cX10_row 18 = .ok (.ireturn, 1) := by decide +kernel
theorem dX10_row_19 : decode cX10_row 19 = .ok (.iload_n 3, 1) := by decide +kernel
theorem dX10_row_20 : decode cX10_row 20 = .ok (.iconst 0, 1) := by decide +kernel
theorem dX10_row_21 : decode cX10_row 21 = .ok (.bipush 9, 2) := by decide +kernel
theorem dX10_row_23 : decode cX10_row 23 = .ok (.invokestatic 82, 3) := by decide +kernel
theorem dX10_row_26 : decode cX10_row 26 = .ok (.ifCond .ne 6, 3) := by decide +kernel
theorem dX10_row_29 : decode cX10_row 29 = .ok (.bipush (-2), 2) := by decide +kernel
theorem dX10_row_31 : decode cX10_row 31 = .ok (.ireturn, 1) := by decide +kernel
theorem dX10_row_32 : decode cX10_row 32 = .ok (.aload_n 0, 1) := by decide +kernel
theorem dX10_row_33 : decode cX10_row 33 = .ok (.iload_n 1, 1) := by decide +kernel
theorem dX10_row_34 : decode cX10_row 34 = .ok (.iconst 0, 1) := by decide +kernel
theorem dX10_row_35 : decode cX10_row 35 = .ok (.invokevirtual 86, 3) := by decide +kernel
theorem dX10_row_38 : decode cX10_row 38 = .ok (.bipush 6, 2) := by decide +kernel
theorem dX10_row_40 : decode cX10_row 40 = .ok (.if_icmp .ne 15, 3) := by decide +kernel
theorem dX10_row_43 : decode cX10_row 43 = .ok (.aload_n 0, 1) := by decide +kernel
theorem dX10_row_44 : decode cX10_row 44 = .ok (.iload_n 1, 1) := by decide +kernel
theorem dX10_row_45 : decode cX10_row 45 = .ok (.iconst 5, 1) := by decide +kernel
theorem dX10_row_46 : decode cX10_row 46 = .ok (.iload_n 2, 1) := by decide +kernel
theorem dX10_row_47 : decode cX10_row 47 = .ok (.iadd, 1) := by decide +kernel
theorem dX10_row_48 : decode cX10_row 48 = .ok (.iload_n 3, 1) := by decide +kernel
theorem dX10_row_49 : decode cX10_row 49 = .ok (.invokevirtual 93, 3) := by decide +kernel
theorem dX10_row_52 : decode cX10_row 52 = .ok (.goto 5, 3) := by decide +kernel
theorem dX10_row_55 : decode cX10_row 55 = .ok (.bipush (-3), 2) := by decide +kernel
theorem dX10_row_57 : decode cX10_row 57 = .ok (.ireturn, 1) := by decide +kernel
theorem dX10_feed_0 : decode cX10_feed 0 = .ok (.iload_n 1, 1) := by decide +kernel
theorem dX10_feed_1 : decode cX10_feed 1 = .ok (.iconst 0, 1) := by decide +kernel
theorem dX10_feed_2 : decode cX10_feed 2 = .ok (.bipush 127, 2) := by decide +kernel
theorem dX10_feed_4 : decode cX10_feed 4 = .ok (.invokestatic 82, 3) := by decide +kernel
theorem dX10_feed_7 : decode cX10_feed 7 = .ok (.ifCond .ne 6, 3) := by decide +kernel
theorem dX10_feed_10 : decode cX10_feed 10 = .ok (.bipush (-2), 2) := by decide +kernel
theorem dX10_feed_12 : decode cX10_feed 12 = .ok (.ireturn, 1) := by decide +kernel
theorem dX10_feed_13 : decode cX10_feed 13 = .ok (.aload_n 0, 1) := by decide +kernel
theorem dX10_feed_14 : decode cX10_feed 14 = .ok (.getfield 120, 3) := by decide +kernel
theorem dX10_feed_17 : decode cX10_feed 17 = .ok (.bipush 100, 2) := by decide +kernel
theorem dX10_feed_19 : decode cX10_feed 19 = .ok (.if_icmp .ne 6, 3) := by decide +kernel
theorem dX10_feed_22 : decode cX10_feed 22 = .ok (.bipush (-4), 2) := by decide +kernel
theorem dX10_feed_24 : decode cX10_feed 24 = .ok (.ireturn, 1) := by decide +kernel
theorem dX10_feed_25 : decode cX10_feed 25 = .ok (.aload_n 0, 1) := by decide +kernel
theorem dX10_feed_26 : decode cX10_feed 26 = .ok (.getfield 21, 3) := by decide +kernel
theorem dX10_feed_29 : decode cX10_feed 29 = .ok (.aload_n 0, 1) := by decide +kernel
theorem dX10_feed_30 : decode cX10_feed 30 = .ok (.getfield 120, 3) := by decide +kernel
theorem dX10_feed_33 : decode cX10_feed 33 = .ok (.iload_n 1, 1) := by decide +kernel
theorem dX10_feed_34 : decode cX10_feed 34 = .ok (.iastore, 1) := by decide +kernel
theorem dX10_feed_35 : decode cX10_feed 35 = .ok (.aload_n 0, 1) := by decide +kernel
theorem dX10_feed_36 : decode cX10_feed 36 = .ok (.dup, 1) := by decide +kernel
theorem dX10_feed_37 : decode cX10_feed 37 = .ok (.getfield 120, 3) := by decide +kernel
theorem dX10_feed_40 : decode cX10_feed 40 = .ok (.iconst 1, 1) := by decide +kernel
theorem dX10_feed_41 : decode cX10_feed 41 = .ok (.iadd, 1) := by decide +kernel
theorem dX10_feed_42 : decode cX10_feed 42 = .ok (.putfield 120, 3) := by decide +kernel
theorem dX10_feed_45 : decode cX10_feed 45 = .ok (.aload_n 0, 1) := by decide +kernel
theorem dX10_feed_46 : decode cX10_feed 46 = .ok (.getfield 120, 3) := by decide +kernel
theorem dX10_feed_49 : decode cX10_feed 49 = .ok (.ireturn, 1) := by decide +kernel
theorem dX10_isAt_0 : decode cX10_isAt 0 = .ok (.aload_n 0, 1) := by decide +kernel
theorem dX10_isAt_1 : decode cX10_isAt 1 = .ok (.getfield 124, 3) := by decide +kernel
theorem dX10_isAt_4 : decode cX10_isAt 4 = .ok (.ifCond .eq 31, 3) := by decide +kernel
theorem dX10_isAt_7 : decode cX10_isAt 7 = .ok (.aload_n 0, 1) := by decide +kernel
theorem dX10_isAt_8 : decode cX10_isAt 8 = .ok (.getfield 127, 3) := by decide +kernel
theorem dX10_isAt_11 : decode cX10_isAt 11 = .ok (.aload_n 0, 1) := by decide +kernel
theorem dX10_isAt_12 : decode cX10_isAt 12 = .ok (.getfield 130, 3) := by decide +kernel
theorem dX10_isAt_15 : decode cX10_isAt 15 = .ok (.if_icmp .ge 20, 3) := by decide +kernel
theorem dX10_isAt_18 : decode cX10_isAt 18 = .ok (.aload_n 0, 1) := by decide +kernel
theorem dX10_isAt_19 : decode cX10_isAt 19 = .ok (.getfield 30, 3) := by decide +kernel
theorem dX10_isAt_22 : decode cX10_isAt 22 = .ok (.aload_n 0, 1) := by decide +kernel
theorem dX10_isAt_23 : decode cX10_isAt 23 = .ok (.getfield 127, 3) := by decide +kernel
theorem dX10_isAt_26 : decode cX10_isAt 26 = .ok (.iaload, 1) := by decide +kernel
theorem dX10_isAt_27 : decode cX10_isAt 27 = .ok (.iload_n 1, 1) := by decide +kernel
theorem dX10_isAt_28 : decode cX10_isAt 28 = .ok (.if_icmp .ne 7, 3) := by decide +kernel
theorem dX10_isAt_31 : decode cX10_isAt 31 = .ok (.iconst 1, 1) := by decide +kernel
theorem dX10_isAt_32 : decode cX10_isAt 32 = .ok (.goto 4, 3) := by decide +kernel
theorem dX10_isAt_35 : decode cX10_isAt 35 = .ok (.iconst 0, 1) := by decide +kernel
theorem dX10_isAt_36 : decode cX10_isAt 36 = .ok (.ireturn, 1) := by decide +kernel
theorem dX10_takes_0 : decode cX10_takes 0 = .ok (.aload_n 0, 1) := by decide +kernel
theorem dX10_takes_1 : decode cX10_takes 1 = .ok (.iload_n 1, 1) := by decide +kernel
theorem dX10_takes_2 : decode cX10_takes 2 = .ok (.invokevirtual 133, 3) := by decide +kernel
theorem dX10_takes_5 : decode cX10_takes 5 = .ok (.ifCond .eq 16, 3) := by decide +kernel
theorem dX10_takes_8 : decode cX10_takes 8 = .ok (.aload_n 0, 1) := by decide +kernel
theorem dX10_takes_9 : decode cX10_takes 9 = .ok (.dup, 1) := by decide +kernel
theorem dX10_takes_10 : decode cX10_takes 10 = .ok (.getfield 127, 3) := by decide +kernel
theorem dX10_takes_13 : decode cX10_takes 13 = .ok (.iconst 1, 1) := by decide +kernel
theorem dX10_takes_14 : decode cX10_takes 14 = .ok (.iadd, 1) := by decide +kernel
theorem dX10_takes_15 : decode cX10_takes 15 = .ok (.putfield 127, 3) := by decide +kernel
theorem dX10_takes_18 : decode cX10_takes 18 = .ok (.goto 8, 3) := by decide +kernel
theorem dX10_takes_21 : decode cX10_takes 21 = .ok (.aload_n 0, 1) := by decide +kernel
theorem dX10_takes_22 : decode cX10_takes 22 = .ok (.iconst 0, 1) := by decide +kernel
theorem dX10_takes_23 : decode cX10_takes 23 = .ok (.putfield 124, 3) := by decide +kernel
theorem dX10_takes_26 : decode cX10_takes 26 = .ok (.return_, 1) := by decide +kernel
theorem dX10_isDigit_0 : decode cX10_isDigit 0 = .ok (.aload_n 0, 1) := by decide +kernel
theorem dX10_isDigit_1 : decode cX10_isDigit 1 = .ok (.getfield 124, 3) := by decide +kernel
theorem dX10_isDigit_4 : decode cX10_isDigit 4 = .ok (.ifCond .eq 46, 3) := by decide +kernel
theorem dX10_isDigit_7 : decode cX10_isDigit 7 = .ok (.aload_n 0, 1) := by decide +kernel
theorem dX10_isDigit_8 : decode cX10_isDigit 8 = .ok (.getfield 127, 3) := by decide +kernel
theorem dX10_isDigit_11 : decode cX10_isDigit 11 = .ok (.aload_n 0, 1) := by decide +kernel
theorem dX10_isDigit_12 : decode cX10_isDigit 12 = .ok (.getfield 130, 3) := by decide +kernel
theorem dX10_isDigit_15 : decode cX10_isDigit 15 = .ok (.if_icmp .ge 35, 3) := by decide +kernel
theorem dX10_isDigit_18 : decode cX10_isDigit 18 = .ok (.aload_n 0, 1) := by decide +kernel
theorem dX10_isDigit_19 : decode cX10_isDigit 19 = .ok (.getfield 30, 3) := by decide +kernel
theorem dX10_isDigit_22 : decode cX10_isDigit 22 = .ok (.aload_n 0, 1) := by decide +kernel
theorem dX10_isDigit_23 : decode cX10_isDigit 23 = .ok (.getfield 127, 3) := by decide +kernel
theorem dX10_isDigit_26 : decode cX10_isDigit 26 = .ok (.iaload, 1) := by decide +kernel
theorem dX10_isDigit_27 : decode cX10_isDigit 27 = .ok (.bipush 48, 2) := by decide +kernel
theorem dX10_isDigit_29 : decode cX10_isDigit 29 = .ok (.if_icmp .lt 21, 3) := by decide +kernel
theorem dX10_isDigit_32 : decode cX10_isDigit 32 = .ok (.aload_n 0, 1) := by decide +kernel
theorem dX10_isDigit_33 : decode cX10_isDigit 33 = .ok (.getfield 30, 3) := by decide +kernel
theorem dX10_isDigit_36 : decode cX10_isDigit 36 = .ok (.aload_n 0, 1) := by decide +kernel
theorem dX10_isDigit_37 : decode cX10_isDigit 37 = .ok (.getfield 127, 3) := by decide +kernel
theorem dX10_isDigit_40 : decode cX10_isDigit 40 = .ok (.iaload, 1) := by decide +kernel
theorem dX10_isDigit_41 : decode cX10_isDigit 41 = .ok (.bipush 57, 2) := by decide +kernel
theorem dX10_isDigit_43 : decode cX10_isDigit 43 = .ok (.if_icmp .gt 7, 3) := by decide +kernel
theorem dX10_isDigit_46 : decode cX10_isDigit 46 = .ok (.iconst 1, 1) := by decide +kernel
theorem dX10_isDigit_47 : decode cX10_isDigit 47 = .ok (.goto 4, 3) := by decide +kernel
theorem dX10_isDigit_50 : decode cX10_isDigit 50 = .ok (.iconst 0, 1) := by decide +kernel
theorem dX10_isDigit_51 : decode cX10_isDigit 51 = .ok (.ireturn, 1) := by decide +kernel
theorem dX10_number_0 : decode cX10_number 0 = .ok (.aload_n 0, 1) := by decide +kernel
theorem dX10_number_1 : decode cX10_number 1 = .ok (.invokevirtual 136, 3) := by decide +kernel
theorem dX10_number_4 : decode cX10_number 4 = .ok (.ifCond .ne 10, 3) := by decide +kernel
theorem dX10_number_7 : decode cX10_number 7 = .ok (.aload_n 0, 1) := by decide +kernel
theorem dX10_number_8 : decode cX10_number 8 = .ok (.iconst 0, 1) := by decide +kernel
theorem dX10_number_9 : decode cX10_number 9 = .ok (.putfield 124, 3) := by decide +kernel
theorem dX10_number_12 : decode cX10_number 12 = .ok (.iconst 0, 1) := by decide +kernel
theorem dX10_number_13 : decode cX10_number 13 = .ok (.ireturn, 1) := by decide +kernel
theorem dX10_number_14 : decode cX10_number 14 = .ok (.aload_n 0, 1) := by decide +kernel
theorem dX10_number_15 : decode cX10_number 15 = .ok (.getfield 30, 3) := by decide +kernel
theorem dX10_number_18 : decode cX10_number 18 = .ok (.aload_n 0, 1) := by decide +kernel
theorem dX10_number_19 : decode cX10_number 19 = .ok (.getfield 127, 3) := by decide +kernel
theorem dX10_number_22 : decode cX10_number 22 = .ok (.iaload, 1) := by decide +kernel
theorem dX10_number_23 : decode cX10_number 23 = .ok (.bipush 48, 2) := by decide +kernel
theorem dX10_number_25 : decode cX10_number 25 = .ok (.isub, 1) := by decide +kernel
theorem dX10_number_26 : decode cX10_number 26 = .ok (.istore_n 1, 1) := by decide +kernel
theorem dX10_number_27 : decode cX10_number 27 = .ok (.aload_n 0, 1) := by decide +kernel
theorem dX10_number_28 : decode cX10_number 28 = .ok (.dup, 1) := by decide +kernel
theorem dX10_number_29 : decode cX10_number 29 = .ok (.getfield 127, 3) := by decide +kernel
theorem dX10_number_32 : decode cX10_number 32 = .ok (.iconst 1, 1) := by decide +kernel
theorem dX10_number_33 : decode cX10_number 33 = .ok (.iadd, 1) := by decide +kernel
theorem dX10_number_34 : decode cX10_number 34 = .ok (.putfield 127, 3) := by decide +kernel
theorem dX10_number_37 : decode cX10_number 37 = .ok (.aload_n 0, 1) := by decide +kernel
theorem dX10_number_38 : decode cX10_number 38 = .ok (.invokevirtual 136, 3) := by decide +kernel
theorem dX10_number_41 : decode cX10_number 41 = .ok (.ifCond .eq 31, 3) := by decide +kernel
theorem dX10_number_44 : decode cX10_number 44 = .ok (.bipush 10, 2) := by decide +kernel
theorem dX10_number_46 : decode cX10_number 46 = .ok (.iload_n 1, 1) := by decide +kernel
theorem dX10_number_47 : decode cX10_number 47 = .ok (.imul, 1) := by decide +kernel
theorem dX10_number_48 : decode cX10_number 48 = .ok (.aload_n 0, 1) := by decide +kernel
theorem dX10_number_49 : decode cX10_number 49 = .ok (.getfield 30, 3) := by decide +kernel
theorem dX10_number_52 : decode cX10_number 52 = .ok (.aload_n 0, 1) := by decide +kernel
theorem dX10_number_53 : decode cX10_number 53 = .ok (.getfield 127, 3) := by decide +kernel
theorem dX10_number_56 : decode cX10_number 56 = .ok (.iaload, 1) := by decide +kernel
theorem dX10_number_57 : decode cX10_number 57 = .ok (.iadd, 1) := by decide +kernel
theorem dX10_number_58 : decode cX10_number 58 = .ok (.bipush 48, 2) := by decide +kernel
theorem dX10_number_60 : decode cX10_number 60 = .ok (.isub, 1) := by decide +kernel
theorem dX10_number_61 : decode cX10_number 61 = .ok (.istore_n 1, 1) := by decide +kernel
theorem dX10_number_62 : decode cX10_number 62 = .ok (.aload_n 0, 1) := by decide +kernel
theorem dX10_number_63 : decode cX10_number 63 = .ok (.dup, 1) := by decide +kernel
theorem dX10_number_64 : decode cX10_number 64 = .ok (.getfield 127, 3) := by decide +kernel
theorem dX10_number_67 : decode cX10_number 67 = .ok (.iconst 1, 1) := by decide +kernel
theorem dX10_number_68 : decode cX10_number 68 = .ok (.iadd, 1) := by decide +kernel
theorem dX10_number_69 : decode cX10_number 69 = .ok (.putfield 127, 3) := by decide +kernel
theorem dX10_number_72 : decode cX10_number 72 = .ok (.iload_n 1, 1) := by decide +kernel
theorem dX10_number_73 : decode cX10_number 73 = .ok (.ireturn, 1) := by decide +kernel
theorem dX10_test_0 : decode cX10_test 0 = .ok (.iconst (-1), 1) := by decide +kernel
theorem dX10_test_1 : decode cX10_test 1 = .ok (.istore_n 1, 1) := by decide +kernel
theorem dX10_test_2 : decode cX10_test 2 = .ok (.iconst 0, 1) := by decide +kernel
theorem dX10_test_3 : decode cX10_test 3 = .ok (.istore_n 2, 1) := by decide +kernel
theorem dX10_test_4 : decode cX10_test 4 = .ok (.iload_n 2, 1) := by decide +kernel
theorem dX10_test_5 : decode cX10_test 5 = .ok (.bipush 6, 2) := by decide +kernel
theorem dX10_test_7 : decode cX10_test 7 = .ok (.if_icmp .ge 28, 3) := by decide +kernel
theorem dX10_test_10 : decode cX10_test 10 = .ok (.aload_n 0, 1) := by decide +kernel
theorem dX10_test_11 : decode cX10_test 11 = .ok (.aload_n 0, 1) := by decide +kernel
theorem dX10_test_12 : decode cX10_test 12 = .ok (.getfield 36, 3) := by decide +kernel
theorem dX10_test_15 : decode cX10_test 15 = .ok (.iload_n 2, 1) := by decide +kernel
theorem dX10_test_16 : decode cX10_test 16 = .ok (.caload, 1) := by decide +kernel
theorem dX10_test_17 : decode cX10_test 17 = .ok (.invokevirtual 133, 3) := by decide +kernel
theorem dX10_test_20 : decode cX10_test 20 = .ok (.ifCond .eq 7, 3) := by decide +kernel
theorem dX10_test_23 : decode cX10_test 23 = .ok (.iload_n 2, 1) := by decide +kernel
theorem dX10_test_24 : decode cX10_test 24 = .ok (.goto 4, 3) := by decide +kernel
theorem dX10_test_27 : decode cX10_test 27 = .ok (.iload_n 1, 1) := by decide +kernel
theorem dX10_test_28 : decode cX10_test 28 = .ok (.istore_n 1, 1) := by decide +kernel
theorem dX10_test_29 : decode cX10_test 29 = .ok (.iinc 2 1, 3) := by decide +kernel
theorem dX10_test_32 : decode cX10_test 32 = .ok (.goto (-28), 3) := by decide +kernel
theorem dX10_test_35 : decode cX10_test 35 = .ok (.iload_n 1, 1) := by decide +kernel
theorem dX10_test_36 : decode cX10_test 36 = .ok (.iconst (-1), 1) := by decide +kernel
theorem dX10_test_37 : decode cX10_test 37 = .ok (.if_icmp .ne 10, 3) := by decide +kernel
theorem dX10_test_40 : decode cX10_test 40 = .ok (.aload_n 0, 1) := by decide +kernel
theorem dX10_test_41 : decode cX10_test 41 = .ok (.iconst 0, 1) := by decide +kernel
theorem dX10_test_42 : decode cX10_test 42 = .ok (.putfield 124, 3) := by decide +kernel
theorem dX10_test_45 : decode cX10_test 45 = .ok (.iconst 0, 1) := by decide +kernel
theorem dX10_test_46 : decode cX10_test 46 = .ok (.ireturn, 1) := by decide +kernel
theorem dX10_test_47 : decode cX10_test 47 = .ok (.aload_n 0, 1) := by decide +kernel
theorem dX10_test_48 : decode cX10_test 48 = .ok (.dup, 1) := by decide +kernel
theorem dX10_test_49 : decode cX10_test 49 = .ok (.getfield 127, 3) := by decide +kernel
theorem dX10_test_52 : decode cX10_test 52 = .ok (.iconst 1, 1) := by decide +kernel
theorem dX10_test_53 : decode cX10_test 53 = .ok (.iadd, 1) := by decide +kernel
theorem dX10_test_54 : decode cX10_test 54 = .ok (.putfield 127, 3) := by decide +kernel
theorem dX10_test_57 : decode cX10_test 57 = .ok (.aload_n 0, 1) := by decide +kernel
theorem dX10_test_58 : decode cX10_test 58 = .ok (.bipush 60, 2) := by decide +kernel
theorem dX10_test_60 : decode cX10_test 60 = .ok (.invokevirtual 133, 3) := by decide +kernel
theorem dX10_test_63 : decode cX10_test 63 = .ok (.ifCond .eq 7, 3) := by decide +kernel
theorem dX10_test_66 : decode cX10_test 66 = .ok (.iconst (-1), 1) := by decide +kernel
theorem dX10_test_67 : decode cX10_test 67 = .ok (.goto 17, 3) := by decide +kernel
theorem dX10_test_70 : decode cX10_test 70 = .ok (.aload_n 0, 1) := by decide +kernel
theorem dX10_test_71 : decode cX10_test 71 = .ok (.bipush 62, 2) := by decide +kernel
theorem dX10_test_73 : decode cX10_test 73 = .ok (.invokevirtual 133, 3) := by decide +kernel
theorem dX10_test_76 : decode cX10_test 76 = .ok (.ifCond .eq 7, 3) := by decide +kernel
theorem dX10_test_79 : decode cX10_test 79 = .ok (.iconst 1, 1) := by decide +kernel
theorem dX10_test_80 : decode cX10_test 80 = .ok (.goto 4, 3) := by decide +kernel
theorem dX10_test_83 : decode cX10_test 83 = .ok (.iconst 0, 1) := by decide +kernel
theorem dX10_test_84 : decode cX10_test 84 = .ok (.istore_n 2, 1) := by decide +kernel
theorem dX10_test_85 : decode cX10_test 85 = .ok (.aload_n 0, 1) := by decide +kernel
theorem dX10_test_86 : decode cX10_test 86 = .ok (.iload_n 2, 1) := by decide +kernel
theorem dX10_test_87 : decode cX10_test 87 = .ok (.ifCond .ge 8, 3) := by decide +kernel
theorem dX10_test_90 : decode cX10_test 90 = .ok (.bipush 60, 2) := by decide +kernel
theorem dX10_test_92 : decode cX10_test 92 = .ok (.goto 14, 3) := by decide +kernel
theorem dX10_test_95 : decode cX10_test 95 = .ok (.iload_n 2, 1) := by decide +kernel
theorem dX10_test_96 : decode cX10_test 96 = .ok (.ifCond .le 8, 3) := by decide +kernel
theorem dX10_test_99 : decode cX10_test 99 = .ok (.bipush 62, 2) := by decide +kernel
theorem dX10_test_101 : decode cX10_test 101 = .ok (.goto 5, 3) := by decide +kernel
theorem dX10_test_104 : decode cX10_test 104 = .ok (.bipush 61, 2) := by decide +kernel
theorem dX10_test_106 : decode cX10_test 106 = .ok (.invokevirtual 140, 3) := by decide +kernel
theorem dX10_test_109 : decode cX10_test 109 = .ok (.aload_n 0, 1) := by decide +kernel
theorem dX10_test_110 : decode cX10_test 110 = .ok (.invokevirtual 144, 3) := by decide +kernel
theorem dX10_test_113 : decode cX10_test 113 = .ok (.istore_n 3, 1) := by decide +kernel
theorem dX10_test_114 : decode cX10_test 114 = .ok (.iload_n 2, 1) := by decide +kernel
theorem dX10_test_115 : decode cX10_test 115 = .ok (.ifCond .ge 21, 3) := by decide +kernel
theorem dX10_test_118 : decode cX10_test 118 = .ok (.aload_n 0, 1) := by decide +kernel
theorem dX10_test_119 : decode cX10_test 119 = .ok (.getfield 33, 3) := by decide +kernel
theorem dX10_test_122 : decode cX10_test 122 = .ok (.iload_n 1, 1) := by decide +kernel
theorem dX10_test_123 : decode cX10_test 123 = .ok (.iaload, 1) := by decide +kernel
theorem dX10_test_124 : decode cX10_test 124 = .ok (.iload_n 3, 1) := by decide +kernel
theorem dX10_test_125 : decode cX10_test 125 = .ok (.if_icmp .ge 7, 3) := by decide +kernel
theorem dX10_test_128 : decode cX10_test 128 = .ok (.iconst 1, 1) := by decide +kernel
theorem dX10_test_129 : decode cX10_test 129 = .ok (.goto 44, 3) := by decide +kernel
theorem dX10_test_132 : decode cX10_test 132 = .ok (.iconst 0, 1) := by decide +kernel
theorem dX10_test_133 : decode cX10_test 133 = .ok (.goto 40, 3) := by decide +kernel
theorem dX10_test_136 : decode cX10_test 136 = .ok (.iload_n 2, 1) := by decide +kernel
theorem dX10_test_137 : decode cX10_test 137 = .ok (.ifCond .le 21, 3) := by decide +kernel
theorem dX10_test_140 : decode cX10_test 140 = .ok (.aload_n 0, 1) := by decide +kernel
theorem dX10_test_141 : decode cX10_test 141 = .ok (.getfield 33, 3) := by decide +kernel
theorem dX10_test_144 : decode cX10_test 144 = .ok (.iload_n 1, 1) := by decide +kernel
theorem dX10_test_145 : decode cX10_test 145 = .ok (.iaload, 1) := by decide +kernel
theorem dX10_test_146 : decode cX10_test 146 = .ok (.iload_n 3, 1) := by decide +kernel
theorem dX10_test_147 : decode cX10_test 147 = .ok (.if_icmp .le 7, 3) := by decide +kernel
theorem dX10_test_150 : decode cX10_test 150 = .ok (.iconst 1, 1) := by decide +kernel
theorem dX10_test_151 : decode cX10_test 151 = .ok (.goto 22, 3) := by decide +kernel
theorem dX10_test_154 : decode cX10_test 154 = .ok (.iconst 0, 1) := by decide +kernel
theorem dX10_test_155 : decode cX10_test 155 = .ok (.goto 18, 3) := by decide +kernel
theorem dX10_test_158 : decode cX10_test 158 = .ok (.aload_n 0, 1) := by decide +kernel
theorem dX10_test_159 : decode cX10_test 159 = .ok (.getfield 33, 3) := by decide +kernel
theorem dX10_test_162 : decode cX10_test 162 = .ok (.iload_n 1, 1) := by decide +kernel
theorem dX10_test_163 : decode cX10_test 163 = .ok (.iaload, 1) := by decide +kernel
theorem dX10_test_164 : decode cX10_test 164 = .ok (.iload_n 3, 1) := by decide +kernel
theorem dX10_test_165 : decode cX10_test 165 = .ok (.if_icmp .ne 7, 3) := by decide +kernel
theorem dX10_test_168 : decode cX10_test 168 = .ok (.iconst 1, 1) := by decide +kernel
theorem dX10_test_169 : decode cX10_test 169 = .ok (.goto 4, 3) := by decide +kernel
theorem dX10_test_172 : decode cX10_test 172 = .ok (.iconst 0, 1) := by decide +kernel
theorem dX10_test_173 : decode cX10_test 173 = .ok (.ireturn, 1) := by decide +kernel
theorem dX10_factor_0 : decode cX10_factor 0 = .ok (.aload_n 0, 1) := by decide +kernel
theorem dX10_factor_1 : decode cX10_factor 1 = .ok (.getfield 148, 3) := by decide +kernel
theorem dX10_factor_4 : decode cX10_factor 4 = .ok (.iconst 4, 1) := by decide +kernel
theorem dX10_factor_5 : decode cX10_factor 5 = .ok (.if_icmp .ge 58, 3) := by decide +kernel
theorem dX10_factor_8 : decode cX10_factor 8 = .ok (.aload_n 0, 1) := by decide +kernel
theorem dX10_factor_9 : decode cX10_factor 9 = .ok (.bipush 33, 2) := by decide +kernel
theorem dX10_factor_11 : decode cX10_factor 11 = .ok (.invokevirtual 133, 3) := by decide +kernel
theorem dX10_factor_14 : decode cX10_factor 14 = .ok (.ifCond .eq 49, 3) := by decide +kernel
theorem dX10_factor_17 : decode cX10_factor 17 = .ok (.aload_n 0, 1) := by decide +kernel
theorem dX10_factor_18 : decode cX10_factor 18 = .ok (.dup, 1) := by decide +kernel
theorem dX10_factor_19 : decode cX10_factor 19 = .ok (.getfield 127, 3) := by decide +kernel
theorem dX10_factor_22 : decode cX10_factor 22 = .ok (.iconst 1, 1) := by decide +kernel
theorem dX10_factor_23 : decode cX10_factor 23 = .ok (.iadd, 1) := by decide +kernel
theorem dX10_factor_24 : decode cX10_factor 24 = .ok (.putfield 127, 3) := by decide +kernel
theorem dX10_factor_27 : decode cX10_factor 27 = .ok (.aload_n 0, 1) := by decide +kernel
theorem dX10_factor_28 : decode cX10_factor 28 = .ok (.dup, 1) := by decide +kernel
theorem dX10_factor_29 : decode cX10_factor 29 = .ok (.getfield 148, 3) := by decide +kernel
theorem dX10_factor_32 : decode cX10_factor 32 = .ok (.iconst 1, 1) := by decide +kernel
theorem dX10_factor_33 : decode cX10_factor 33 = .ok (.iadd, 1) := by decide +kernel
theorem dX10_factor_34 : decode cX10_factor 34 = .ok (.putfield 148, 3) := by decide +kernel
theorem dX10_factor_37 : decode cX10_factor 37 = .ok (.aload_n 0, 1) := by decide +kernel
theorem dX10_factor_38 : decode cX10_factor 38 = .ok (.invokevirtual 151, 3) := by decide +kernel
theorem dX10_factor_41 : decode cX10_factor 41 = .ok (.ifCond .ne 7, 3) := by decide +kernel
theorem dX10_factor_44 : decode cX10_factor 44 = .ok (.iconst 1, 1) := by decide +kernel
theorem dX10_factor_45 : decode cX10_factor 45 = .ok (.goto 4, 3) := by decide +kernel
theorem dX10_factor_48 : decode cX10_factor 48 = .ok (.iconst 0, 1) := by decide +kernel
theorem dX10_factor_49 : decode cX10_factor 49 = .ok (.istore_n 1, 1) := by decide +kernel
theorem dX10_factor_50 : decode cX10_factor 50 = .ok (.aload_n 0, 1) := by decide +kernel
theorem dX10_factor_51 : decode cX10_factor 51 = .ok (.dup, 1) := by decide +kernel
theorem dX10_factor_52 : decode cX10_factor 52 = .ok (.getfield 148, 3) := by decide +kernel
theorem dX10_factor_55 : decode cX10_factor 55 = .ok (.iconst 1, 1) := by decide +kernel
theorem dX10_factor_56 : decode cX10_factor 56 = .ok (.isub, 1) := by decide +kernel
theorem dX10_factor_57 : decode cX10_factor 57 = .ok (.putfield 148, 3) := by decide +kernel
theorem dX10_factor_60 : decode cX10_factor 60 = .ok (.goto 69, 3) := by decide +kernel
theorem dX10_factor_63 : decode cX10_factor 63 = .ok (.aload_n 0, 1) := by decide +kernel
theorem dX10_factor_64 : decode cX10_factor 64 = .ok (.getfield 148, 3) := by decide +kernel
theorem dX10_factor_67 : decode cX10_factor 67 = .ok (.iconst 4, 1) := by decide +kernel
theorem dX10_factor_68 : decode cX10_factor 68 = .ok (.if_icmp .ge 56, 3) := by decide +kernel
theorem dX10_factor_71 : decode cX10_factor 71 = .ok (.aload_n 0, 1) := by decide +kernel
theorem dX10_factor_72 : decode cX10_factor 72 = .ok (.bipush 40, 2) := by decide +kernel
theorem dX10_factor_74 : decode cX10_factor 74 = .ok (.invokevirtual 133, 3) := by decide +kernel
theorem dX10_factor_77 : decode cX10_factor 77 = .ok (.ifCond .eq 47, 3) := by decide +kernel
theorem dX10_factor_80 : decode cX10_factor 80 = .ok (.aload_n 0, 1) := by decide +kernel
theorem dX10_factor_81 : decode cX10_factor 81 = .ok (.dup, 1) := by decide +kernel
theorem dX10_factor_82 : decode cX10_factor 82 = .ok (.getfield 127, 3) := by decide +kernel
theorem dX10_factor_85 : decode cX10_factor 85 = .ok (.iconst 1, 1) := by decide +kernel
theorem dX10_factor_86 : decode cX10_factor 86 = .ok (.iadd, 1) := by decide +kernel
theorem dX10_factor_87 : decode cX10_factor 87 = .ok (.putfield 127, 3) := by decide +kernel
theorem dX10_factor_90 : decode cX10_factor 90 = .ok (.aload_n 0, 1) := by decide +kernel
theorem dX10_factor_91 : decode cX10_factor 91 = .ok (.dup, 1) := by decide +kernel
theorem dX10_factor_92 : decode cX10_factor 92 = .ok (.getfield 148, 3) := by decide +kernel
theorem dX10_factor_95 : decode cX10_factor 95 = .ok (.iconst 1, 1) := by decide +kernel
theorem dX10_factor_96 : decode cX10_factor 96 = .ok (.iadd, 1) := by decide +kernel
theorem dX10_factor_97 : decode cX10_factor 97 = .ok (.putfield 148, 3) := by decide +kernel
theorem dX10_factor_100 : decode cX10_factor 100 = .ok (.aload_n 0, 1) := by decide +kernel
theorem dX10_factor_101 : decode cX10_factor 101 = .ok (.invokevirtual 154, 3) := by decide +kernel
theorem dX10_factor_104 : decode cX10_factor 104 = .ok (.istore_n 1, 1) := by decide +kernel
theorem dX10_factor_105 : decode cX10_factor 105 = .ok (.aload_n 0, 1) := by decide +kernel
theorem dX10_factor_106 : decode cX10_factor 106 = .ok (.dup, 1) := by decide +kernel
theorem dX10_factor_107 : decode cX10_factor 107 = .ok (.getfield 148, 3) := by decide +kernel
theorem dX10_factor_110 : decode cX10_factor 110 = .ok (.iconst 1, 1) := by decide +kernel
theorem dX10_factor_111 : decode cX10_factor 111 = .ok (.isub, 1) := by decide +kernel
theorem dX10_factor_112 : decode cX10_factor 112 = .ok (.putfield 148, 3) := by decide +kernel
theorem dX10_factor_115 : decode cX10_factor 115 = .ok (.aload_n 0, 1) := by decide +kernel
theorem dX10_factor_116 : decode cX10_factor 116 = .ok (.bipush 41, 2) := by decide +kernel
theorem dX10_factor_118 : decode cX10_factor 118 = .ok (.invokevirtual 140, 3) := by decide +kernel
theorem dX10_factor_121 : decode cX10_factor 121 = .ok (.goto 8, 3) := by decide +kernel
theorem dX10_factor_124 : decode cX10_factor 124 = .ok (.aload_n 0, 1) := by decide +kernel
theorem dX10_factor_125 : decode cX10_factor 125 = .ok (.invokevirtual 157, 3) := by decide +kernel
theorem dX10_factor_128 : decode cX10_factor 128 = .ok (.istore_n 1, 1) := by decide +kernel
theorem dX10_factor_129 : decode cX10_factor 129 = .ok (.iload_n 1, 1) := by decide +kernel
theorem dX10_factor_130 : decode cX10_factor 130 = .ok (.ireturn, 1) := by decide +kernel
theorem dX10_both_0 : decode cX10_both 0 = .ok (.aload_n 0, 1) := by decide +kernel
theorem dX10_both_1 : decode cX10_both 1 = .ok (.invokevirtual 151, 3) := by decide +kernel
theorem dX10_both_4 : decode cX10_both 4 = .ok (.istore_n 1, 1) := by decide +kernel
theorem dX10_both_5 : decode cX10_both 5 = .ok (.aload_n 0, 1) := by decide +kernel
theorem dX10_both_6 : decode cX10_both 6 = .ok (.bipush 38, 2) := by decide +kernel
theorem dX10_both_8 : decode cX10_both 8 = .ok (.invokevirtual 133, 3) := by decide +kernel
theorem dX10_both_11 : decode cX10_both 11 = .ok (.ifCond .eq 35, 3) := by decide +kernel
theorem dX10_both_14 : decode cX10_both 14 = .ok (.aload_n 0, 1) := by decide +kernel
theorem dX10_both_15 : decode cX10_both 15 = .ok (.dup, 1) := by decide +kernel
theorem dX10_both_16 : decode cX10_both 16 = .ok (.getfield 127, 3) := by decide +kernel
theorem dX10_both_19 : decode cX10_both 19 = .ok (.iconst 1, 1) := by decide +kernel
theorem dX10_both_20 : decode cX10_both 20 = .ok (.iadd, 1) := by decide +kernel
theorem dX10_both_21 : decode cX10_both 21 = .ok (.putfield 127, 3) := by decide +kernel
theorem dX10_both_24 : decode cX10_both 24 = .ok (.aload_n 0, 1) := by decide +kernel
theorem dX10_both_25 : decode cX10_both 25 = .ok (.invokevirtual 151, 3) := by decide +kernel
theorem dX10_both_28 : decode cX10_both 28 = .ok (.istore_n 2, 1) := by decide +kernel
theorem dX10_both_29 : decode cX10_both 29 = .ok (.iload_n 1, 1) := by decide +kernel
theorem dX10_both_30 : decode cX10_both 30 = .ok (.ifCond .eq 11, 3) := by decide +kernel
theorem dX10_both_33 : decode cX10_both 33 = .ok (.iload_n 2, 1) := by decide +kernel
theorem dX10_both_34 : decode cX10_both 34 = .ok (.ifCond .eq 7, 3) := by decide +kernel
theorem dX10_both_37 : decode cX10_both 37 = .ok (.iconst 1, 1) := by decide +kernel
theorem dX10_both_38 : decode cX10_both 38 = .ok (.goto 4, 3) := by decide +kernel
theorem dX10_both_41 : decode cX10_both 41 = .ok (.iconst 0, 1) := by decide +kernel
theorem dX10_both_42 : decode cX10_both 42 = .ok (.istore_n 1, 1) := by decide +kernel
theorem dX10_both_43 : decode cX10_both 43 = .ok (.goto (-38), 3) := by decide +kernel
theorem dX10_both_46 : decode cX10_both 46 = .ok (.iload_n 1, 1) := by decide +kernel
theorem dX10_both_47 : decode cX10_both 47 = .ok (.ireturn, 1) := by decide +kernel
theorem dX10_any_0 : decode cX10_any 0 = .ok (.aload_n 0, 1) := by decide +kernel
theorem dX10_any_1 : decode cX10_any 1 = .ok (.invokevirtual 160, 3) := by decide +kernel
theorem dX10_any_4 : decode cX10_any 4 = .ok (.istore_n 1, 1) := by decide +kernel
theorem dX10_any_5 : decode cX10_any 5 = .ok (.aload_n 0, 1) := by decide +kernel
theorem dX10_any_6 : decode cX10_any 6 = .ok (.bipush 124, 2) := by decide +kernel
theorem dX10_any_8 : decode cX10_any 8 = .ok (.invokevirtual 133, 3) := by decide +kernel
theorem dX10_any_11 : decode cX10_any 11 = .ok (.ifCond .eq 35, 3) := by decide +kernel
theorem dX10_any_14 : decode cX10_any 14 = .ok (.aload_n 0, 1) := by decide +kernel
theorem dX10_any_15 : decode cX10_any 15 = .ok (.dup, 1) := by decide +kernel
theorem dX10_any_16 : decode cX10_any 16 = .ok (.getfield 127, 3) := by decide +kernel
theorem dX10_any_19 : decode cX10_any 19 = .ok (.iconst 1, 1) := by decide +kernel
theorem dX10_any_20 : decode cX10_any 20 = .ok (.iadd, 1) := by decide +kernel
theorem dX10_any_21 : decode cX10_any 21 = .ok (.putfield 127, 3) := by decide +kernel
theorem dX10_any_24 : decode cX10_any 24 = .ok (.aload_n 0, 1) := by decide +kernel
theorem dX10_any_25 : decode cX10_any 25 = .ok (.invokevirtual 160, 3) := by decide +kernel
theorem dX10_any_28 : decode cX10_any 28 = .ok (.istore_n 2, 1) := by decide +kernel
theorem dX10_any_29 : decode cX10_any 29 = .ok (.iload_n 1, 1) := by decide +kernel
theorem dX10_any_30 : decode cX10_any 30 = .ok (.ifCond .ne 7, 3) := by decide +kernel
theorem dX10_any_33 : decode cX10_any 33 = .ok (.iload_n 2, 1) := by decide +kernel
theorem dX10_any_34 : decode cX10_any 34 = .ok (.ifCond .eq 7, 3) := by decide +kernel
theorem dX10_any_37 : decode cX10_any 37 = .ok (.iconst 1, 1) := by decide +kernel
theorem dX10_any_38 : decode cX10_any 38 = .ok (.goto 4, 3) := by decide +kernel
theorem dX10_any_41 : decode cX10_any 41 = .ok (.iconst 0, 1) := by decide +kernel
theorem dX10_any_42 : decode cX10_any 42 = .ok (.istore_n 1, 1) := by decide +kernel
theorem dX10_any_43 : decode cX10_any 43 = .ok (.goto (-38), 3) := by decide +kernel
theorem dX10_any_46 : decode cX10_any 46 = .ok (.iload_n 1, 1) := by decide +kernel
theorem dX10_any_47 : decode cX10_any 47 = .ok (.ireturn, 1) := by decide +kernel
theorem dX10_clause_0 : decode cX10_clause 0 = .ok (.iconst (-1), 1) := by decide +kernel
theorem dX10_clause_1 : decode cX10_clause 1 = .ok (.istore_n 1, 1) := by decide +kernel
theorem dX10_clause_2 : decode cX10_clause 2 = .ok (.iconst 0, 1) := by decide +kernel
theorem dX10_clause_3 : decode cX10_clause 3 = .ok (.istore_n 2, 1) := by decide +kernel
theorem dX10_clause_4 : decode cX10_clause 4 = .ok (.iload_n 2, 1) := by decide +kernel
theorem dX10_clause_5 : decode cX10_clause 5 = .ok (.iconst 3, 1) := by decide +kernel
theorem dX10_clause_6 : decode cX10_clause 6 = .ok (.if_icmp .ge 28, 3) := by decide +kernel
theorem dX10_clause_9 : decode cX10_clause 9 = .ok (.aload_n 0, 1) := by decide +kernel
theorem dX10_clause_10 : decode cX10_clause 10 = .ok (.aload_n 0, 1) := by decide +kernel
theorem dX10_clause_11 : decode cX10_clause 11 = .ok (.getfield 40, 3) := by decide +kernel
theorem dX10_clause_14 : decode cX10_clause 14 = .ok (.iload_n 2, 1) := by decide +kernel
theorem dX10_clause_15 : decode cX10_clause 15 = .ok (.caload, 1) := by decide +kernel
theorem dX10_clause_16 : decode cX10_clause 16 = .ok (.invokevirtual 133, 3) := by decide +kernel
theorem dX10_clause_19 : decode cX10_clause 19 = .ok (.ifCond .eq 7, 3) := by decide +kernel
theorem dX10_clause_22 : decode cX10_clause 22 = .ok (.iload_n 2, 1) := by decide +kernel
theorem dX10_clause_23 : decode cX10_clause 23 = .ok (.goto 4, 3) := by decide +kernel
theorem dX10_clause_26 : decode cX10_clause 26 = .ok (.iload_n 1, 1) := by decide +kernel
theorem dX10_clause_27 : decode cX10_clause 27 = .ok (.istore_n 1, 1) := by decide +kernel
theorem dX10_clause_28 : decode cX10_clause 28 = .ok (.iinc 2 1, 3) := by decide +kernel
theorem dX10_clause_31 : decode cX10_clause 31 = .ok (.goto (-27), 3) := by decide +kernel
theorem dX10_clause_34 : decode cX10_clause 34 = .ok (.iload_n 1, 1) := by decide +kernel
theorem dX10_clause_35 : decode cX10_clause 35 = .ok (.iconst (-1), 1) := by decide +kernel
theorem dX10_clause_36 : decode cX10_clause 36 = .ok (.if_icmp .ne 9, 3) := by decide +kernel
theorem dX10_clause_39 : decode cX10_clause 39 = .ok (.aload_n 0, 1) := by decide +kernel
theorem dX10_clause_40 : decode cX10_clause 40 = .ok (.iconst 0, 1) := by decide +kernel
theorem dX10_clause_41 : decode cX10_clause 41 = .ok (.putfield 124, 3) := by decide +kernel
theorem dX10_clause_44 : decode cX10_clause 44 = .ok (.return_, 1) := by decide +kernel
theorem dX10_clause_45 : decode cX10_clause 45 = .ok (.iconst 0, 1) := by decide +kernel
theorem dX10_clause_46 : decode cX10_clause 46 = .ok (.istore_n 2, 1) := by decide +kernel
theorem dX10_clause_47 : decode cX10_clause 47 = .ok (.iload_n 2, 1) := by decide +kernel
theorem dX10_clause_48 : decode cX10_clause 48 = .ok (.iconst 5, 1) := by decide +kernel
theorem dX10_clause_49 : decode cX10_clause 49 = .ok (.if_icmp .ge 36, 3) := by decide +kernel
theorem dX10_clause_52 : decode cX10_clause 52 = .ok (.aload_n 0, 1) := by decide +kernel
theorem dX10_clause_53 : decode cX10_clause 53 = .ok (.getfield 43, 3) := by decide +kernel
theorem dX10_clause_56 : decode cX10_clause 56 = .ok (.iconst 5, 1) := by decide +kernel
theorem dX10_clause_57 : decode cX10_clause 57 = .ok (.iload_n 1, 1) := by decide +kernel
theorem dX10_clause_58 : decode cX10_clause 58 = .ok (.imul, 1) := by decide +kernel
theorem dX10_clause_59 : decode cX10_clause 59 = .ok (.iload_n 2, 1) := by decide +kernel
theorem dX10_clause_60 : decode cX10_clause 60 = .ok (.iadd, 1) := by decide +kernel
theorem dX10_clause_61 : decode cX10_clause 61 = .ok (.caload, 1) := by decide +kernel
theorem dX10_clause_62 : decode cX10_clause 62 = .ok (.ifCond .eq 23, 3) := by decide +kernel
theorem dX10_clause_65 : decode cX10_clause 65 = .ok (.aload_n 0, 1) := by decide +kernel
theorem dX10_clause_66 : decode cX10_clause 66 = .ok (.aload_n 0, 1) := by decide +kernel
theorem dX10_clause_67 : decode cX10_clause 67 = .ok (.getfield 43, 3) := by decide +kernel
theorem dX10_clause_70 : decode cX10_clause 70 = .ok (.iconst 5, 1) := by decide +kernel
theorem dX10_clause_71 : decode cX10_clause 71 = .ok (.iload_n 1, 1) := by decide +kernel
theorem dX10_clause_72 : decode cX10_clause 72 = .ok (.imul, 1) := by decide +kernel
theorem dX10_clause_73 : decode cX10_clause 73 = .ok (.iload_n 2, 1) := by decide +kernel
theorem dX10_clause_74 : decode cX10_clause 74 = .ok (.iadd, 1) := by decide +kernel
theorem dX10_clause_75 : decode cX10_clause 75 = .ok (.caload, 1) := by decide +kernel
theorem dX10_clause_76 : decode cX10_clause 76 = .ok (.invokevirtual 140, 3) := by decide +kernel
theorem dX10_clause_79 : decode cX10_clause 79 = .ok (.iinc 2 1, 3) := by decide +kernel
theorem dX10_clause_82 : decode cX10_clause 82 = .ok (.goto (-35), 3) := by decide +kernel
theorem dX10_clause_85 : decode cX10_clause 85 = .ok (.aload_n 0, 1) := by decide +kernel
theorem dX10_clause_86 : decode cX10_clause 86 = .ok (.bipush 32, 2) := by decide +kernel
theorem dX10_clause_88 : decode cX10_clause 88 = .ok (.invokevirtual 140, 3) := by decide +kernel
theorem dX10_clause_91 : decode cX10_clause 91 = .ok (.aload_n 0, 1) := by decide +kernel
theorem dX10_clause_92 : decode cX10_clause 92 = .ok (.invokevirtual 144, 3) := by decide +kernel
theorem dX10_clause_95 : decode cX10_clause 95 = .ok (.istore_n 2, 1) := by decide +kernel
theorem dX10_clause_96 : decode cX10_clause 96 = .ok (.iload_n 1, 1) := by decide +kernel
theorem dX10_clause_97 : decode cX10_clause 97 = .ok (.iconst 2, 1) := by decide +kernel
theorem dX10_clause_98 : decode cX10_clause 98 = .ok (.if_icmp .ne 9, 3) := by decide +kernel
theorem dX10_clause_101 : decode cX10_clause 101 = .ok (.aload_n 0, 1) := by decide +kernel
theorem dX10_clause_102 : decode cX10_clause 102 = .ok (.iload_n 2, 1) := by decide +kernel
theorem dX10_clause_103 : decode cX10_clause 103 = .ok (.putfield 163, 3) := by decide +kernel
theorem dX10_clause_106 : decode cX10_clause 106 = .ok (.return_, 1) := by decide +kernel
theorem dX10_clause_107 : decode cX10_clause 107 = .ok (.aload_n 0, 1) := by decide +kernel
theorem dX10_clause_108 : decode cX10_clause 108 = .ok (.bipush 32, 2) := by decide +kernel
theorem dX10_clause_110 : decode cX10_clause 110 = .ok (.invokevirtual 140, 3) := by decide +kernel
theorem dX10_clause_113 : decode cX10_clause 113 = .ok (.aload_n 0, 1) := by decide +kernel
theorem dX10_clause_114 : decode cX10_clause 114 = .ok (.iconst 0, 1) := by decide +kernel
theorem dX10_clause_115 : decode cX10_clause 115 = .ok (.putfield 148, 3) := by decide +kernel
theorem dX10_clause_118 : decode cX10_clause 118 = .ok (.aload_n 0, 1) := by decide +kernel
theorem dX10_clause_119 : decode cX10_clause 119 = .ok (.invokevirtual 154, 3) := by decide +kernel
theorem dX10_clause_122 : decode cX10_clause 122 = .ok (.istore_n 3, 1) := by decide +kernel
theorem dX10_clause_123 : decode cX10_clause 123 = .ok (.aload_n 0, 1) := by decide +kernel
theorem dX10_clause_124 : decode cX10_clause 124 = .ok (.dup, 1) := by decide +kernel
theorem dX10_clause_125 : decode cX10_clause 125 = .ok (.getfield 166, 3) := by decide +kernel
theorem dX10_clause_128 : decode cX10_clause 128 = .ok (.iload_n 3, 1) := by decide +kernel
theorem dX10_clause_129 : decode cX10_clause 129 = .ok (.ifCond .ne 7, 3) := by decide +kernel
theorem dX10_clause_132 : decode cX10_clause 132 = .ok (.iconst 0, 1) := by decide +kernel
theorem dX10_clause_133 : decode cX10_clause 133 = .ok (.goto 13, 3) := by decide +kernel
theorem dX10_clause_136 : decode cX10_clause 136 = .ok (.iload_n 1, 1) := by decide +kernel
theorem dX10_clause_137 : decode cX10_clause 137 = .ok (.ifCond .ne 7, 3) := by decide +kernel
theorem dX10_clause_140 : decode cX10_clause 140 = .ok (.iload_n 2, 1) := by decide +kernel
theorem dX10_clause_141 : decode cX10_clause 141 = .ok (.goto 5, 3) := by decide +kernel
theorem dX10_clause_144 : decode cX10_clause 144 = .ok (.iload_n 2, 1) := by decide +kernel
theorem dX10_clause_145 : decode cX10_clause 145 = .ok (.ineg, 1) := by decide +kernel
theorem dX10_clause_146 : decode cX10_clause 146 = .ok (.iadd, 1) := by decide +kernel
theorem dX10_clause_147 : decode cX10_clause 147 = .ok (.putfield 166, 3) := by decide +kernel
theorem dX10_clause_150 : decode cX10_clause 150 = .ok (.return_, 1) := by decide +kernel
theorem dX10_readAll_0 : decode cX10_readAll 0 = .ok (.aload_n 0, 1) := by decide +kernel
theorem dX10_readAll_1 : decode cX10_readAll 1 = .ok (.iconst 0, 1) := by decide +kernel
theorem dX10_readAll_2 : decode cX10_readAll 2 = .ok (.putfield 127, 3) := by decide +kernel
theorem dX10_readAll_5 : decode cX10_readAll 5 = .ok (.aload_n 0, 1) := by decide +kernel
theorem dX10_readAll_6 : decode cX10_readAll 6 = .ok (.iconst 1, 1) := by decide +kernel
theorem dX10_readAll_7 : decode cX10_readAll 7 = .ok (.putfield 124, 3) := by decide +kernel
theorem dX10_readAll_10 : decode cX10_readAll 10 = .ok (.aload_n 0, 1) := by decide +kernel
theorem dX10_readAll_11 : decode cX10_readAll 11 = .ok (.aload_n 0, 1) := by decide +kernel
theorem dX10_readAll_12 : decode cX10_readAll 12 = .ok (.aload_n 0, 1) := by decide +kernel
theorem dX10_readAll_13 : decode cX10_readAll 13 = .ok (.getfield 33, 3) := by decide +kernel
theorem dX10_readAll_16 : decode cX10_readAll 16 = .ok (.iconst 0, 1) := by decide +kernel
theorem dX10_readAll_17 : decode cX10_readAll 17 = .ok (.iaload, 1) := by decide +kernel
theorem dX10_readAll_18 : decode cX10_readAll 18 = .ok (.iconst 2, 1) := by decide +kernel
theorem dX10_readAll_19 : decode cX10_readAll 19 = .ok (.invokevirtual 86, 3) := by decide +kernel
theorem dX10_readAll_22 : decode cX10_readAll 22 = .ok (.iconst 5, 1) := by decide +kernel
theorem dX10_readAll_23 : decode cX10_readAll 23 = .ok (.idiv, 1) := by decide +kernel
theorem dX10_readAll_24 : decode cX10_readAll 24 = .ok (.putfield 166, 3) := by decide +kernel
theorem dX10_readAll_27 : decode cX10_readAll 27 = .ok (.aload_n 0, 1) := by decide +kernel
theorem dX10_readAll_28 : decode cX10_readAll 28 = .ok (.iconst 3, 1) := by decide +kernel
theorem dX10_readAll_29 : decode cX10_readAll 29 = .ok (.putfield 163, 3) := by decide +kernel
theorem dX10_readAll_32 : decode cX10_readAll 32 = .ok (.iconst 1, 1) := by decide +kernel
theorem dX10_readAll_33 : decode cX10_readAll 33 = .ok (.istore_n 1, 1) := by decide +kernel
theorem dX10_readAll_34 : decode cX10_readAll 34 = .ok (.aload_n 0, 1) := by decide +kernel
theorem dX10_readAll_35 : decode cX10_readAll 35 = .ok (.invokevirtual 169, 3) := by decide +kernel
theorem dX10_readAll_38 : decode cX10_readAll 38 = .ok (.iload_n 1, 1) := by decide +kernel
theorem dX10_readAll_39 : decode cX10_readAll 39 = .ok (.bipush 10, 2) := by decide +kernel
theorem dX10_readAll_41 : decode cX10_readAll 41 = .ok (.if_icmp .ge 32, 3) := by decide +kernel
theorem dX10_readAll_44 : decode cX10_readAll 44 = .ok (.aload_n 0, 1) := by decide +kernel
theorem dX10_readAll_45 : decode cX10_readAll 45 = .ok (.bipush 59, 2) := by decide +kernel
theorem dX10_readAll_47 : decode cX10_readAll 47 = .ok (.invokevirtual 133, 3) := by decide +kernel
theorem dX10_readAll_50 : decode cX10_readAll 50 = .ok (.ifCond .eq 23, 3) := by decide +kernel
theorem dX10_readAll_53 : decode cX10_readAll 53 = .ok (.aload_n 0, 1) := by decide +kernel
theorem dX10_readAll_54 : decode cX10_readAll 54 = .ok (.dup, 1) := by decide +kernel
theorem dX10_readAll_55 : decode cX10_readAll 55 = .ok (.getfield 127, 3) := by decide +kernel
theorem dX10_readAll_58 : decode cX10_readAll 58 = .ok (.iconst 1, 1) := by decide +kernel
theorem dX10_readAll_59 : decode cX10_readAll 59 = .ok (.iadd, 1) := by decide +kernel
theorem dX10_readAll_60 : decode cX10_readAll 60 = .ok (.putfield 127, 3) := by decide +kernel
theorem dX10_readAll_63 : decode cX10_readAll 63 = .ok (.aload_n 0, 1) := by decide +kernel
theorem dX10_readAll_64 : decode cX10_readAll 64 = .ok (.invokevirtual 169, 3) := by decide +kernel
theorem dX10_readAll_67 : decode cX10_readAll 67 = .ok (.iinc 1 1, 3) := by decide +kernel
theorem dX10_readAll_70 : decode cX10_readAll 70 = .ok (.goto (-32), 3) := by decide +kernel
theorem dX10_readAll_73 : decode cX10_readAll 73 = .ok (.aload_n 0, 1) := by decide +kernel
theorem dX10_readAll_74 : decode cX10_readAll 74 = .ok (.getfield 124, 3) := by decide +kernel
theorem dX10_readAll_77 : decode cX10_readAll 77 = .ok (.ifCond .eq 18, 3) := by decide +kernel
theorem dX10_readAll_80 : decode cX10_readAll 80 = .ok (.aload_n 0, 1) := by decide +kernel
theorem dX10_readAll_81 : decode cX10_readAll 81 = .ok (.getfield 127, 3) := by decide +kernel
theorem dX10_readAll_84 : decode cX10_readAll 84 = .ok (.aload_n 0, 1) := by decide +kernel
theorem dX10_readAll_85 : decode cX10_readAll 85 = .ok (.getfield 130, 3) := by decide +kernel
theorem dX10_readAll_88 : decode cX10_readAll 88 = .ok (.if_icmp .ne 7, 3) := by decide +kernel
theorem dX10_readAll_91 : decode cX10_readAll 91 = .ok (.iconst 1, 1) := by decide +kernel
theorem dX10_readAll_92 : decode cX10_readAll 92 = .ok (.goto 4, 3) := by decide +kernel
theorem dX10_readAll_95 : decode cX10_readAll 95 = .ok (.iconst 0, 1) := by decide +kernel
theorem dX10_readAll_96 : decode cX10_readAll 96 = .ok (.ireturn, 1) := by decide +kernel
theorem dX10_readFor_0 : decode cX10_readFor 0 = .ok (.aload_n 0, 1) := by decide +kernel
theorem dX10_readFor_1 : decode cX10_readFor 1 = .ok (.getfield 33, 3) := by decide +kernel
theorem dX10_readFor_4 : decode cX10_readFor 4 = .ok (.iconst 0, 1) := by decide +kernel
theorem dX10_readFor_5 : decode cX10_readFor 5 = .ok (.iload_n 1, 1) := by decide +kernel
theorem dX10_readFor_6 : decode cX10_readFor 6 = .ok (.iastore, 1) := by decide +kernel
theorem dX10_readFor_7 : decode cX10_readFor 7 = .ok (.aload_n 0, 1) := by decide +kernel
theorem dX10_readFor_8 : decode cX10_readFor 8 = .ok (.getfield 33, 3) := by decide +kernel
theorem dX10_readFor_11 : decode cX10_readFor 11 = .ok (.iconst 1, 1) := by decide +kernel
theorem dX10_readFor_12 : decode cX10_readFor 12 = .ok (.aload_n 0, 1) := by decide +kernel
theorem dX10_readFor_13 : decode cX10_readFor 13 = .ok (.iload_n 1, 1) := by decide +kernel
theorem dX10_readFor_14 : decode cX10_readFor 14 = .ok (.iconst 0, 1) := by decide +kernel
theorem dX10_readFor_15 : decode cX10_readFor 15 = .ok (.invokevirtual 86, 3) := by decide +kernel
theorem dX10_readFor_18 : decode cX10_readFor 18 = .ok (.iastore, 1) := by decide +kernel
theorem dX10_readFor_19 : decode cX10_readFor 19 = .ok (.aload_n 0, 1) := by decide +kernel
theorem dX10_readFor_20 : decode cX10_readFor 20 = .ok (.getfield 33, 3) := by decide +kernel
theorem dX10_readFor_23 : decode cX10_readFor 23 = .ok (.iconst 2, 1) := by decide +kernel
theorem dX10_readFor_24 : decode cX10_readFor 24 = .ok (.aload_n 0, 1) := by decide +kernel
theorem dX10_readFor_25 : decode cX10_readFor 25 = .ok (.iload_n 1, 1) := by decide +kernel
theorem dX10_readFor_26 : decode cX10_readFor 26 = .ok (.iconst 1, 1) := by decide +kernel
theorem dX10_readFor_27 : decode cX10_readFor 27 = .ok (.invokevirtual 86, 3) := by decide +kernel
theorem dX10_readFor_30 : decode cX10_readFor 30 = .ok (.iastore, 1) := by decide +kernel
theorem dX10_readFor_31 : decode cX10_readFor 31 = .ok (.aload_n 0, 1) := by decide +kernel
theorem dX10_readFor_32 : decode cX10_readFor 32 = .ok (.getfield 33, 3) := by decide +kernel
theorem dX10_readFor_35 : decode cX10_readFor 35 = .ok (.iconst 3, 1) := by decide +kernel
theorem dX10_readFor_36 : decode cX10_readFor 36 = .ok (.iload_n 2, 1) := by decide +kernel
theorem dX10_readFor_37 : decode cX10_readFor 37 = .ok (.iastore, 1) := by decide +kernel
theorem dX10_readFor_38 : decode cX10_readFor 38 = .ok (.aload_n 0, 1) := by decide +kernel
theorem dX10_readFor_39 : decode cX10_readFor 39 = .ok (.getfield 33, 3) := by decide +kernel
theorem dX10_readFor_42 : decode cX10_readFor 42 = .ok (.iconst 4, 1) := by decide +kernel
theorem dX10_readFor_43 : decode cX10_readFor 43 = .ok (.aload_n 0, 1) := by decide +kernel
theorem dX10_readFor_44 : decode cX10_readFor 44 = .ok (.iload_n 1, 1) := by decide +kernel
theorem dX10_readFor_45 : decode cX10_readFor 45 = .ok (.iconst 2, 1) := by decide +kernel
theorem dX10_readFor_46 : decode cX10_readFor 46 = .ok (.invokevirtual 86, 3) := by decide +kernel
theorem dX10_readFor_49 : decode cX10_readFor 49 = .ok (.bipush 10, 2) := by decide +kernel
theorem dX10_readFor_51 : decode cX10_readFor 51 = .ok (.idiv, 1) := by decide +kernel
theorem dX10_readFor_52 : decode cX10_readFor 52 = .ok (.iastore, 1) := by decide +kernel
theorem dX10_readFor_53 : decode cX10_readFor 53 = .ok (.aload_n 0, 1) := by decide +kernel
theorem dX10_readFor_54 : decode cX10_readFor 54 = .ok (.getfield 33, 3) := by decide +kernel
theorem dX10_readFor_57 : decode cX10_readFor 57 = .ok (.iconst 5, 1) := by decide +kernel
theorem dX10_readFor_58 : decode cX10_readFor 58 = .ok (.aload_n 0, 1) := by decide +kernel
theorem dX10_readFor_59 : decode cX10_readFor 59 = .ok (.getfield 9, 3) := by decide +kernel
theorem dX10_readFor_62 : decode cX10_readFor 62 = .ok (.bipush 80, 2) := by decide +kernel
theorem dX10_readFor_64 : decode cX10_readFor 64 = .ok (.iaload, 1) := by decide +kernel
theorem dX10_readFor_65 : decode cX10_readFor 65 = .ok (.bipush 10, 2) := by decide +kernel
theorem dX10_readFor_67 : decode cX10_readFor 67 = .ok (.irem, 1) := by decide +kernel
theorem dX10_readFor_68 : decode cX10_readFor 68 = .ok (.iastore, 1) := by decide +kernel
theorem dX10_readFor_69 : decode cX10_readFor 69 = .ok (.aload_n 0, 1) := by decide +kernel
theorem dX10_readFor_70 : decode cX10_readFor 70 = .ok (.getfield 9, 3) := by decide +kernel
theorem dX10_readFor_73 : decode cX10_readFor 73 = .ok (.bipush 81, 2) := by decide +kernel
theorem dX10_readFor_75 : decode cX10_readFor 75 = .ok (.iaload, 1) := by decide +kernel
theorem dX10_readFor_76 : decode cX10_readFor 76 = .ok (.ifCond .ne 21, 3) := by decide +kernel
theorem dX10_readFor_79 : decode cX10_readFor 79 = .ok (.aload_n 0, 1) := by decide +kernel
theorem dX10_readFor_80 : decode cX10_readFor 80 = .ok (.aload_n 0, 1) := by decide +kernel
theorem dX10_readFor_81 : decode cX10_readFor 81 = .ok (.iload_n 1, 1) := by decide +kernel
theorem dX10_readFor_82 : decode cX10_readFor 82 = .ok (.iconst 2, 1) := by decide +kernel
theorem dX10_readFor_83 : decode cX10_readFor 83 = .ok (.invokevirtual 86, 3) := by decide +kernel
theorem dX10_readFor_86 : decode cX10_readFor 86 = .ok (.iconst 5, 1) := by decide +kernel
theorem dX10_readFor_87 : decode cX10_readFor 87 = .ok (.idiv, 1) := by decide +kernel
theorem dX10_readFor_88 : decode cX10_readFor 88 = .ok (.putfield 166, 3) := by decide +kernel
theorem dX10_readFor_91 : decode cX10_readFor 91 = .ok (.aload_n 0, 1) := by decide +kernel
theorem dX10_readFor_92 : decode cX10_readFor 92 = .ok (.iconst 3, 1) := by decide +kernel
theorem dX10_readFor_93 : decode cX10_readFor 93 = .ok (.putfield 163, 3) := by decide +kernel
theorem dX10_readFor_96 : decode cX10_readFor 96 = .ok (.return_, 1) := by decide +kernel
theorem dX10_readFor_97 : decode cX10_readFor 97 = .ok (.aload_n 0, 1) := by decide +kernel
theorem dX10_readFor_98 : decode cX10_readFor 98 = .ok (.getfield 9, 3) := by decide +kernel
theorem dX10_readFor_101 : decode cX10_readFor 101 = .ok (.bipush 81, 2) := by decide +kernel
theorem dX10_readFor_103 : decode cX10_readFor 103 = .ok (.iaload, 1) := by decide +kernel
theorem dX10_readFor_104 : decode cX10_readFor 104 = .ok (.iconst 1, 1) := by decide +kernel
theorem dX10_readFor_105 : decode cX10_readFor 105 = .ok (.isub, 1) := by decide +kernel
theorem dX10_readFor_106 : decode cX10_readFor 106 = .ok (.istore_n 3, 1) := by decide +kernel
theorem dX10_readFor_107 : decode cX10_readFor 107 = .ok (.aload_n 0, 1) := by decide +kernel
theorem dX10_readFor_108 : decode cX10_readFor 108 = .ok (.aload_n 0, 1) := by decide +kernel
theorem dX10_readFor_109 : decode cX10_readFor 109 = .ok (.getfield 27, 3) := by decide +kernel
theorem dX10_readFor_112 : decode cX10_readFor 112 = .ok (.iload_n 3, 1) := by decide +kernel
theorem dX10_readFor_113 : decode cX10_readFor 113 = .ok (.iaload, 1) := by decide +kernel
theorem dX10_readFor_114 : decode cX10_readFor 114 = .ok (.putfield 130, 3) := by decide +kernel
theorem dX10_readFor_117 : decode cX10_readFor 117 = .ok (.iconst 0, 1) := by decide +kernel
theorem dX10_readFor_118 : decode cX10_readFor 118 = .ok (.istore 4, 2) := by decide +kernel
theorem dX10_readFor_120 : decode cX10_readFor 120 = .ok (.iload 4, 2) := by decide +kernel
theorem dX10_readFor_122 : decode cX10_readFor 122 = .ok (.aload_n 0, 1) := by decide +kernel
theorem dX10_readFor_123 : decode cX10_readFor 123 = .ok (.getfield 130, 3) := by decide +kernel
theorem dX10_readFor_126 : decode cX10_readFor 126 = .ok (.if_icmp .ge 28, 3) := by decide +kernel
theorem dX10_readFor_129 : decode cX10_readFor 129 = .ok (.aload_n 0, 1) := by decide +kernel
theorem dX10_readFor_130 : decode cX10_readFor 130 = .ok (.getfield 30, 3) := by decide +kernel
theorem dX10_readFor_133 : decode cX10_readFor 133 = .ok (.iload 4, 2) := by decide +kernel
theorem dX10_readFor_135 : decode cX10_readFor 135 = .ok (.aload_n 0, 1) := by decide +kernel
theorem dX10_readFor_136 : decode cX10_readFor 136 = .ok (.getfield 24, 3) := by decide +kernel
theorem dX10_readFor_139 : decode cX10_readFor 139 = .ok (.bipush 100, 2) := by decide +kernel
theorem dX10_readFor_141 : decode cX10_readFor 141 = .ok (.iload_n 3, 1) := by decide +kernel
theorem dX10_readFor_142 : decode cX10_readFor 142 = .ok (.imul, 1) := by decide +kernel
theorem dX10_readFor_143 : decode cX10_readFor 143 = .ok (.iload 4, 2) := by decide +kernel
theorem dX10_readFor_145 : decode cX10_readFor 145 = .ok (.iadd, 1) := by decide +kernel
theorem dX10_readFor_146 : decode cX10_readFor 146 = .ok (.iaload, 1) := by decide +kernel
theorem dX10_readFor_147 : decode cX10_readFor 147 = .ok (.iastore, 1) := by decide +kernel
theorem dX10_readFor_148 : decode cX10_readFor 148 = .ok (.iinc 4 1, 3) := by decide +kernel
theorem dX10_readFor_151 : decode cX10_readFor 151 = .ok (.goto (-31), 3) := by decide +kernel
theorem dX10_readFor_154 : decode cX10_readFor 154 = .ok (.aload_n 0, 1) := by decide +kernel
theorem dX10_readFor_155 : decode cX10_readFor 155 = .ok (.invokevirtual 172, 3) := by decide +kernel
theorem dX10_readFor_158 : decode cX10_readFor 158 = .ok (.pop, 1) := by decide +kernel
theorem dX10_readFor_159 : decode cX10_readFor 159 = .ok (.return_, 1) := by decide +kernel
theorem dX10_city_0 : decode cX10_city 0 = .ok (.aload_n 0, 1) := by decide +kernel
theorem dX10_city_1 : decode cX10_city 1 = .ok (.getfield 175, 3) := by decide +kernel
theorem dX10_city_4 : decode cX10_city 4 = .ok (.bipush 6, 2) := by decide +kernel
theorem dX10_city_6 : decode cX10_city 6 = .ok (.if_icmp .ne 6, 3) := by decide +kernel
theorem dX10_city_9 : decode cX10_city 9 = .ok (.bipush (-4), 2) := by decide +kernel
theorem dX10_city_11 : decode cX10_city 11 = .ok (.ireturn, 1) := by decide +kernel
theorem dX10_city_12 : decode cX10_city 12 = .ok (.aload_n 0, 1) := by decide +kernel
theorem dX10_city_13 : decode cX10_city 13 = .ok (.aload_n 0, 1) := by decide +kernel
theorem dX10_city_14 : decode cX10_city 14 = .ok (.getfield 120, 3) := by decide +kernel
theorem dX10_city_17 : decode cX10_city 17 = .ok (.putfield 130, 3) := by decide +kernel
theorem dX10_city_20 : decode cX10_city 20 = .ok (.iconst 0, 1) := by decide +kernel
theorem dX10_city_21 : decode cX10_city 21 = .ok (.istore_n 1, 1) := by decide +kernel
theorem dX10_city_22 : decode cX10_city 22 = .ok (.iload_n 1, 1) := by decide +kernel
theorem dX10_city_23 : decode cX10_city 23 = .ok (.aload_n 0, 1) := by decide +kernel
theorem dX10_city_24 : decode cX10_city 24 = .ok (.getfield 130, 3) := by decide +kernel
theorem dX10_city_27 : decode cX10_city 27 = .ok (.if_icmp .ge 21, 3) := by decide +kernel
theorem dX10_city_30 : decode cX10_city 30 = .ok (.aload_n 0, 1) := by decide +kernel
theorem dX10_city_31 : decode cX10_city 31 = .ok (.getfield 30, 3) := by decide +kernel
theorem dX10_city_34 : decode cX10_city 34 = .ok (.iload_n 1, 1) := by decide +kernel
theorem dX10_city_35 : decode cX10_city 35 = .ok (.aload_n 0, 1) := by decide +kernel
theorem dX10_city_36 : decode cX10_city 36 = .ok (.getfield 21, 3) := by decide +kernel
theorem dX10_city_39 : decode cX10_city 39 = .ok (.iload_n 1, 1) := by decide +kernel
theorem dX10_city_40 : decode cX10_city 40 = .ok (.iaload, 1) := by decide +kernel
theorem dX10_city_41 : decode cX10_city 41 = .ok (.iastore, 1) := by decide +kernel
theorem dX10_city_42 : decode cX10_city 42 = .ok (.iinc 1 1, 3) := by decide +kernel
theorem dX10_city_45 : decode cX10_city 45 = .ok (.goto (-23), 3) := by decide +kernel
theorem dX10_city_48 : decode cX10_city 48 = .ok (.aload_n 0, 1) := by decide +kernel
theorem dX10_city_49 : decode cX10_city 49 = .ok (.iconst 0, 1) := by decide +kernel
theorem dX10_city_50 : decode cX10_city 50 = .ok (.putfield 120, 3) := by decide +kernel
theorem dX10_city_53 : decode cX10_city 53 = .ok (.aload_n 0, 1) := by decide +kernel
theorem dX10_city_54 : decode cX10_city 54 = .ok (.getfield 33, 3) := by decide +kernel
theorem dX10_city_57 : decode cX10_city 57 = .ok (.iconst 0, 1) := by decide +kernel
theorem dX10_city_58 : decode cX10_city 58 = .ok (.iconst 0, 1) := by decide +kernel
theorem dX10_city_59 : decode cX10_city 59 = .ok (.iastore, 1) := by decide +kernel
theorem dX10_city_60 : decode cX10_city 60 = .ok (.aload_n 0, 1) := by decide +kernel
theorem dX10_city_61 : decode cX10_city 61 = .ok (.invokevirtual 172, 3) := by decide +kernel
theorem dX10_city_64 : decode cX10_city 64 = .ok (.ifCond .ne 11, 3) := by decide +kernel
theorem dX10_city_67 : decode cX10_city 67 = .ok (.bipush (-10), 2) := by decide +kernel
theorem dX10_city_69 : decode cX10_city 69 = .ok (.aload_n 0, 1) := by decide +kernel
theorem dX10_city_70 : decode cX10_city 70 = .ok (.getfield 127, 3) := by decide +kernel
theorem dX10_city_73 : decode cX10_city 73 = .ok (.isub, 1) := by decide +kernel
theorem dX10_city_74 : decode cX10_city 74 = .ok (.ireturn, 1) := by decide +kernel
theorem dX10_city_75 : decode cX10_city 75 = .ok (.iconst 0, 1) := by decide +kernel
theorem dX10_city_76 : decode cX10_city 76 = .ok (.istore_n 1, 1) := by decide +kernel
theorem dX10_city_77 : decode cX10_city 77 = .ok (.iload_n 1, 1) := by decide +kernel
theorem dX10_city_78 : decode cX10_city 78 = .ok (.aload_n 0, 1) := by decide +kernel
theorem dX10_city_79 : decode cX10_city 79 = .ok (.getfield 130, 3) := by decide +kernel
theorem dX10_city_82 : decode cX10_city 82 = .ok (.if_icmp .ge 29, 3) := by decide +kernel
theorem dX10_city_85 : decode cX10_city 85 = .ok (.aload_n 0, 1) := by decide +kernel
theorem dX10_city_86 : decode cX10_city 86 = .ok (.getfield 24, 3) := by decide +kernel
theorem dX10_city_89 : decode cX10_city 89 = .ok (.bipush 100, 2) := by decide +kernel
theorem dX10_city_91 : decode cX10_city 91 = .ok (.aload_n 0, 1) := by decide +kernel
theorem dX10_city_92 : decode cX10_city 92 = .ok (.getfield 175, 3) := by decide +kernel
theorem dX10_city_95 : decode cX10_city 95 = .ok (.imul, 1) := by decide +kernel
theorem dX10_city_96 : decode cX10_city 96 = .ok (.iload_n 1, 1) := by decide +kernel
theorem dX10_city_97 : decode cX10_city 97 = .ok (.iadd, 1) := by decide +kernel
theorem dX10_city_98 : decode cX10_city 98 = .ok (.aload_n 0, 1) := by decide +kernel
theorem dX10_city_99 : decode cX10_city 99 = .ok (.getfield 30, 3) := by decide +kernel
theorem dX10_city_102 : decode cX10_city 102 = .ok (.iload_n 1, 1) := by decide +kernel
theorem dX10_city_103 : decode cX10_city 103 = .ok (.iaload, 1) := by decide +kernel
theorem dX10_city_104 : decode cX10_city 104 = .ok (.iastore, 1) := by decide +kernel
theorem dX10_city_105 : decode cX10_city 105 = .ok (.iinc 1 1, 3) := by decide +kernel
theorem dX10_city_108 : decode cX10_city 108 = .ok (.goto (-31), 3) := by decide +kernel
theorem dX10_city_111 : decode cX10_city 111 = .ok (.aload_n 0, 1) := by decide +kernel
theorem dX10_city_112 : decode cX10_city 112 = .ok (.getfield 27, 3) := by decide +kernel
theorem dX10_city_115 : decode cX10_city 115 = .ok (.aload_n 0, 1) := by decide +kernel
theorem dX10_city_116 : decode cX10_city 116 = .ok (.getfield 175, 3) := by decide +kernel
theorem dX10_city_119 : decode cX10_city 119 = .ok (.aload_n 0, 1) := by decide +kernel
theorem dX10_city_120 : decode cX10_city 120 = .ok (.getfield 130, 3) := by decide +kernel
theorem dX10_city_123 : decode cX10_city 123 = .ok (.iastore, 1) := by decide +kernel
theorem dX10_city_124 : decode cX10_city 124 = .ok (.aload_n 0, 1) := by decide +kernel
theorem dX10_city_125 : decode cX10_city 125 = .ok (.dup, 1) := by decide +kernel
theorem dX10_city_126 : decode cX10_city 126 = .ok (.getfield 175, 3) := by decide +kernel
theorem dX10_city_129 : decode cX10_city 129 = .ok (.iconst 1, 1) := by decide +kernel
theorem dX10_city_130 : decode cX10_city 130 = .ok (.iadd, 1) := by decide +kernel
theorem dX10_city_131 : decode cX10_city 131 = .ok (.putfield 175, 3) := by decide +kernel
theorem dX10_city_134 : decode cX10_city 134 = .ok (.aload_n 0, 1) := by decide +kernel
theorem dX10_city_135 : decode cX10_city 135 = .ok (.getfield 9, 3) := by decide +kernel
theorem dX10_city_138 : decode cX10_city 138 = .ok (.bipush 81, 2) := by decide +kernel
theorem dX10_city_140 : decode cX10_city 140 = .ok (.aload_n 0, 1) := by decide +kernel
theorem dX10_city_141 : decode cX10_city 141 = .ok (.getfield 175, 3) := by decide +kernel
theorem dX10_city_144 : decode cX10_city 144 = .ok (.iastore, 1) := by decide +kernel
theorem dX10_city_145 : decode cX10_city 145 = .ok (.aload_n 0, 1) := by decide +kernel
theorem dX10_city_146 : decode cX10_city 146 = .ok (.getfield 175, 3) := by decide +kernel
theorem dX10_city_149 : decode cX10_city 149 = .ok (.iconst 1, 1) := by decide +kernel
theorem dX10_city_150 : decode cX10_city 150 = .ok (.isub, 1) := by decide +kernel
theorem dX10_city_151 : decode cX10_city 151 = .ok (.ireturn, 1) := by decide +kernel
theorem dX10_guard_0 : decode cX10_guard 0 = .ok (.aload_n 0, 1) := by decide +kernel
theorem dX10_guard_1 : decode cX10_guard 1 = .ok (.iload_n 1, 1) := by decide +kernel
theorem dX10_guard_2 : decode cX10_guard 2 = .ok (.iload_n 2, 1) := by decide +kernel
theorem dX10_guard_3 : decode cX10_guard 3 = .ok (.invokevirtual 178, 3) := by decide +kernel
theorem dX10_guard_6 : decode cX10_guard 6 = .ok (.aload_n 0, 1) := by decide +kernel
theorem dX10_guard_7 : decode cX10_guard 7 = .ok (.getfield 166, 3) := by decide +kernel
theorem dX10_guard_10 : decode cX10_guard 10 = .ok (.aload_n 0, 1) := by decide +kernel
theorem dX10_guard_11 : decode cX10_guard 11 = .ok (.iload_n 1, 1) := by decide +kernel
theorem dX10_guard_12 : decode cX10_guard 12 = .ok (.iconst 1, 1) := by decide +kernel
theorem dX10_guard_13 : decode cX10_guard 13 = .ok (.invokevirtual 86, 3) := by decide +kernel
theorem dX10_guard_16 : decode cX10_guard 16 = .ok (.iadd, 1) := by decide +kernel
theorem dX10_guard_17 : decode cX10_guard 17 = .ok (.istore_n 3, 1) := by decide +kernel
theorem dX10_guard_18 : decode cX10_guard 18 = .ok (.aload_n 0, 1) := by decide +kernel
theorem dX10_guard_19 : decode cX10_guard 19 = .ok (.getfield 166, 3) := by decide +kernel
theorem dX10_guard_22 : decode cX10_guard 22 = .ok (.bipush 9, 2) := by decide +kernel
theorem dX10_guard_24 : decode cX10_guard 24 = .ok (.aload_n 0, 1) := by decide +kernel
theorem dX10_guard_25 : decode cX10_guard 25 = .ok (.iload_n 1, 1) := by decide +kernel
theorem dX10_guard_26 : decode cX10_guard 26 = .ok (.iconst 3, 1) := by decide +kernel
theorem dX10_guard_27 : decode cX10_guard 27 = .ok (.invokevirtual 86, 3) := by decide +kernel
theorem dX10_guard_30 : decode cX10_guard 30 = .ok (.iconst 5, 1) := by decide +kernel
theorem dX10_guard_31 : decode cX10_guard 31 = .ok (.idiv, 1) := by decide +kernel
theorem dX10_guard_32 : decode cX10_guard 32 = .ok (.invokestatic 182, 3) := by decide +kernel
theorem dX10_guard_35 : decode cX10_guard 35 = .ok (.iadd, 1) := by decide +kernel
theorem dX10_guard_36 : decode cX10_guard 36 = .ok (.istore 4, 2) := by decide +kernel
theorem dX10_guard_38 : decode cX10_guard 38 = .ok (.aload_n 0, 1) := by decide +kernel
theorem dX10_guard_39 : decode cX10_guard 39 = .ok (.iload_n 1, 1) := by decide +kernel
theorem dX10_guard_40 : decode cX10_guard 40 = .ok (.iconst 0, 1) := by decide +kernel
theorem dX10_guard_41 : decode cX10_guard 41 = .ok (.invokevirtual 86, 3) := by decide +kernel
theorem dX10_guard_44 : decode cX10_guard 44 = .ok (.tableswitch 97 1 6 #[40, 42, 49, 52, 71, 81], 40) := by decide +kernel
theorem dX10_guard_84 : decode cX10_guard 84 = .ok (.iload_n 3, 1) := by decide +kernel
theorem dX10_guard_85 : decode cX10_guard 85 = .ok (.ireturn, 1) := by decide +kernel
theorem dX10_guard_86 : decode cX10_guard 86 = .ok (.aload_n 0, 1) := by decide +kernel
theorem dX10_guard_87 : decode cX10_guard 87 = .ok (.getfield 166, 3) := by decide +kernel
theorem dX10_guard_90 : decode cX10_guard 90 = .ok (.iconst 2, 1) := by decide +kernel
theorem dX10_guard_91 : decode cX10_guard 91 = .ok (.idiv, 1) := by decide +kernel
theorem dX10_guard_92 : decode cX10_guard 92 = .ok (.ireturn, 1) := by decide +kernel
theorem dX10_guard_93 : decode cX10_guard 93 = .ok (.iload 4, 2) := by decide +kernel
theorem dX10_guard_95 : decode cX10_guard 95 = .ok (.ireturn, 1) := by decide +kernel
theorem dX10_guard_96 : decode cX10_guard 96 = .ok (.aload_n 0, 1) := by decide +kernel
theorem dX10_guard_97 : decode cX10_guard 97 = .ok (.iload_n 1, 1) := by decide +kernel
theorem dX10_guard_98 : decode cX10_guard 98 = .ok (.iconst 2, 1) := by decide +kernel
theorem dX10_guard_99 : decode cX10_guard 99 = .ok (.invokevirtual 86, 3) := by decide +kernel
theorem dX10_guard_102 : decode cX10_guard 102 = .ok (.bipush 50, 2) := by decide +kernel
theorem dX10_guard_104 : decode cX10_guard 104 = .ok (.if_icmp .lt 9, 3) := by decide +kernel
theorem dX10_guard_107 : decode cX10_guard 107 = .ok (.iconst 2, 1) := by decide +kernel
theorem dX10_guard_108 : decode cX10_guard 108 = .ok (.iload_n 3, 1) := by decide +kernel
theorem dX10_guard_109 : decode cX10_guard 109 = .ok (.imul, 1) := by decide +kernel
theorem dX10_guard_110 : decode cX10_guard 110 = .ok (.goto 4, 3) := by decide +kernel
theorem dX10_guard_113 : decode cX10_guard 113 = .ok (.iload_n 3, 1) := by decide +kernel
theorem dX10_guard_114 : decode cX10_guard 114 = .ok (.ireturn, 1) := by decide +kernel
theorem dX10_guard_115 : decode cX10_guard 115 = .ok (.aload_n 0, 1) := by decide +kernel
theorem dX10_guard_116 : decode cX10_guard 116 = .ok (.getfield 166, 3) := by decide +kernel
theorem dX10_guard_119 : decode cX10_guard 119 = .ok (.iconst 2, 1) := by decide +kernel
theorem dX10_guard_120 : decode cX10_guard 120 = .ok (.idiv, 1) := by decide +kernel
theorem dX10_guard_121 : decode cX10_guard 121 = .ok (.bipush 10, 2) := by decide +kernel
theorem dX10_guard_123 : decode cX10_guard 123 = .ok (.iadd, 1) := by decide +kernel
theorem dX10_guard_124 : decode cX10_guard 124 = .ok (.ireturn, 1) := by decide +kernel
theorem dX10_guard_125 : decode cX10_guard 125 = .ok (.iload 4, 2) := by decide +kernel
theorem dX10_guard_127 : decode cX10_guard 127 = .ok (.aload_n 0, 1) := by decide +kernel
theorem dX10_guard_128 : decode cX10_guard 128 = .ok (.iload_n 1, 1) := by decide +kernel
theorem dX10_guard_129 : decode cX10_guard 129 = .ok (.iconst 5, 1) := by decide +kernel
theorem dX10_guard_130 : decode cX10_guard 130 = .ok (.iload_n 2, 1) := by decide +kernel
theorem dX10_guard_131 : decode cX10_guard 131 = .ok (.iconst 4, 1) := by decide +kernel
theorem dX10_guard_132 : decode cX10_guard 132 = .ok (.irem, 1) := by decide +kernel
theorem dX10_guard_133 : decode cX10_guard 133 = .ok (.iadd, 1) := by decide +kernel
theorem dX10_guard_134 : decode cX10_guard 134 = .ok (.invokevirtual 86, 3) := by decide +kernel
theorem dX10_guard_137 : decode cX10_guard 137 = .ok (.iadd, 1) := by decide +kernel
theorem dX10_guard_138 : decode cX10_guard 138 = .ok (.iconst 4, 1) := by decide +kernel
theorem dX10_guard_139 : decode cX10_guard 139 = .ok (.isub, 1) := by decide +kernel
theorem dX10_guard_140 : decode cX10_guard 140 = .ok (.ireturn, 1) := by decide +kernel
theorem dX10_guard_141 : decode cX10_guard 141 = .ok (.aload_n 0, 1) := by decide +kernel
theorem dX10_guard_142 : decode cX10_guard 142 = .ok (.getfield 166, 3) := by decide +kernel
theorem dX10_guard_145 : decode cX10_guard 145 = .ok (.ireturn, 1) := by decide +kernel
theorem dX10_rubNow_0 : decode cX10_rubNow 0 = .ok (.aload_n 0, 1) := by decide +kernel
theorem dX10_rubNow_1 : decode cX10_rubNow 1 = .ok (.iconst 0, 1) := by decide +kernel
theorem dX10_rubNow_2 : decode cX10_rubNow 2 = .ok (.iconst 0, 1) := by decide +kernel
theorem dX10_rubNow_3 : decode cX10_rubNow 3 = .ok (.invokevirtual 178, 3) := by decide +kernel
theorem dX10_rubNow_6 : decode cX10_rubNow 6 = .ok (.aload_n 0, 1) := by decide +kernel
theorem dX10_rubNow_7 : decode cX10_rubNow 7 = .ok (.getfield 163, 3) := by decide +kernel
theorem dX10_rubNow_10 : decode cX10_rubNow 10 = .ok (.ireturn, 1) := by decide +kernel
theorem dX10_isStriking_0 : decode cX10_isStriking 0 = .ok (.aload_n 0, 1) := by decide +kernel
theorem dX10_isStriking_1 : decode cX10_isStriking 1 = .ok (.iload_n 1, 1) := by decide +kernel
theorem dX10_isStriking_2 : decode cX10_isStriking 2 = .ok (.iconst 2, 1) := by decide +kernel
theorem dX10_isStriking_3 : decode cX10_isStriking 3 = .ok (.invokevirtual 90, 3) := by decide +kernel
theorem dX10_isStriking_6 : decode cX10_isStriking 6 = .ok (.iconst (-1), 1) := by decide +kernel
theorem dX10_isStriking_7 : decode cX10_isStriking 7 = .ok (.if_icmp .eq 24, 3) := by decide +kernel
theorem dX10_isStriking_10 : decode cX10_isStriking 10 = .ok (.aload_n 0, 1) := by decide +kernel
theorem dX10_isStriking_11 : decode cX10_isStriking 11 = .ok (.getfield 9, 3) := by decide +kernel
theorem dX10_isStriking_14 : decode cX10_isStriking 14 = .ok (.bipush 80, 2) := by decide +kernel
theorem dX10_isStriking_16 : decode cX10_isStriking 16 = .ok (.iaload, 1) := by decide +kernel
theorem dX10_isStriking_17 : decode cX10_isStriking 17 = .ok (.aload_n 0, 1) := by decide +kernel
theorem dX10_isStriking_18 : decode cX10_isStriking 18 = .ok (.iload_n 1, 1) := by decide +kernel
theorem dX10_isStriking_19 : decode cX10_isStriking 19 = .ok (.iconst 1, 1) := by decide +kernel
theorem dX10_isStriking_20 : decode cX10_isStriking 20 = .ok (.invokevirtual 90, 3) := by decide +kernel
theorem dX10_isStriking_23 : decode cX10_isStriking 23 = .ok (.irem, 1) := by decide +kernel
theorem dX10_isStriking_24 : decode cX10_isStriking 24 = .ok (.ifCond .ne 7, 3) := by decide +kernel
theorem dX10_isStriking_27 : decode cX10_isStriking 27 = .ok (.iconst 1, 1) := by decide +kernel
theorem dX10_isStriking_28 : decode cX10_isStriking 28 = .ok (.goto 4, 3) := by decide +kernel
theorem dX10_isStriking_31 : decode cX10_isStriking 31 = .ok (.iconst 0, 1) := by decide +kernel
theorem dX10_isStriking_32 : decode cX10_isStriking 32 = .ok (.ireturn, 1) := by decide +kernel
theorem dX10_strikes_0 : decode cX10_strikes 0 = .ok (.aload_n 0, 1) := by decide +kernel
theorem dX10_strikes_1 : decode cX10_strikes 1 = .ok (.iload_n 1, 1) := by decide +kernel
theorem dX10_strikes_2 : decode cX10_strikes 2 = .ok (.iconst 2, 1) := by decide +kernel
theorem dX10_strikes_3 : decode cX10_strikes 3 = .ok (.invokevirtual 90, 3) := by decide +kernel
theorem dX10_strikes_6 : decode cX10_strikes 6 = .ok (.istore_n 3, 1) := by decide +kernel
theorem dX10_strikes_7 : decode cX10_strikes 7 = .ok (.iconst 0, 1) := by decide +kernel
theorem dX10_strikes_8 : decode cX10_strikes 8 = .ok (.bipush 99, 2) := by decide +kernel
theorem dX10_strikes_10 : decode cX10_strikes 10 = .ok (.aload_n 0, 1) := by decide +kernel
theorem dX10_strikes_11 : decode cX10_strikes 11 = .ok (.iload_n 1, 1) := by decide +kernel
theorem dX10_strikes_12 : decode cX10_strikes 12 = .ok (.iconst 0, 1) := by decide +kernel
theorem dX10_strikes_13 : decode cX10_strikes 13 = .ok (.invokevirtual 90, 3) := by decide +kernel
theorem dX10_strikes_16 : decode cX10_strikes 16 = .ok (.aload_n 0, 1) := by decide +kernel
theorem dX10_strikes_17 : decode cX10_strikes 17 = .ok (.iload_n 3, 1) := by decide +kernel
theorem dX10_strikes_18 : decode cX10_strikes 18 = .ok (.iload_n 1, 1) := by decide +kernel
theorem dX10_strikes_19 : decode cX10_strikes 19 = .ok (.invokevirtual 111, 3) := by decide +kernel
theorem dX10_strikes_22 : decode cX10_strikes 22 = .ok (.isub, 1) := by decide +kernel
theorem dX10_strikes_23 : decode cX10_strikes 23 = .ok (.invokestatic 182, 3) := by decide +kernel
theorem dX10_strikes_26 : decode cX10_strikes 26 = .ok (.invokestatic 187, 3) := by decide +kernel
theorem dX10_strikes_29 : decode cX10_strikes 29 = .ok (.istore 4, 2) := by decide +kernel
theorem dX10_strikes_31 : decode cX10_strikes 31 = .ok (.aload_n 0, 1) := by decide +kernel
theorem dX10_strikes_32 : decode cX10_strikes 32 = .ok (.iload_n 3, 1) := by decide +kernel
theorem dX10_strikes_33 : decode cX10_strikes 33 = .ok (.iconst 4, 1) := by decide +kernel
theorem dX10_strikes_34 : decode cX10_strikes 34 = .ok (.sipush 9999, 3) := by decide +kernel
theorem dX10_strikes_37 : decode cX10_strikes 37 = .ok (.aload_n 0, 1) := by decide +kernel
theorem dX10_strikes_38 : decode cX10_strikes 38 = .ok (.iload_n 3, 1) := by decide +kernel
theorem dX10_strikes_39 : decode cX10_strikes 39 = .ok (.iconst 4, 1) := by decide +kernel
theorem dX10_strikes_40 : decode cX10_strikes 40 = .ok (.invokevirtual 86, 3) := by decide +kernel
theorem dX10_strikes_43 : decode cX10_strikes 43 = .ok (.iload 4, 2) := by decide +kernel
theorem dX10_strikes_45 : decode cX10_strikes 45 = .ok (.iadd, 1) := by decide +kernel
theorem dX10_strikes_46 : decode cX10_strikes 46 = .ok (.invokestatic 182, 3) := by decide +kernel
theorem dX10_strikes_49 : decode cX10_strikes 49 = .ok (.invokevirtual 93, 3) := by decide +kernel
theorem dX10_strikes_52 : decode cX10_strikes 52 = .ok (.pop, 1) := by decide +kernel
theorem dX10_strikes_53 : decode cX10_strikes 53 = .ok (.aload_n 0, 1) := by decide +kernel
theorem dX10_strikes_54 : decode cX10_strikes 54 = .ok (.iload_n 3, 1) := by decide +kernel
theorem dX10_strikes_55 : decode cX10_strikes 55 = .ok (.iconst 3, 1) := by decide +kernel
theorem dX10_strikes_56 : decode cX10_strikes 56 = .ok (.sipush 9999, 3) := by decide +kernel
theorem dX10_strikes_59 : decode cX10_strikes 59 = .ok (.aload_n 0, 1) := by decide +kernel
theorem dX10_strikes_60 : decode cX10_strikes 60 = .ok (.iload_n 3, 1) := by decide +kernel
theorem dX10_strikes_61 : decode cX10_strikes 61 = .ok (.iconst 3, 1) := by decide +kernel
theorem dX10_strikes_62 : decode cX10_strikes 62 = .ok (.invokevirtual 86, 3) := by decide +kernel
theorem dX10_strikes_65 : decode cX10_strikes 65 = .ok (.iconst 1, 1) := by decide +kernel
theorem dX10_strikes_66 : decode cX10_strikes 66 = .ok (.iadd, 1) := by decide +kernel
theorem dX10_strikes_67 : decode cX10_strikes 67 = .ok (.invokestatic 182, 3) := by decide +kernel
theorem dX10_strikes_70 : decode cX10_strikes 70 = .ok (.invokevirtual 93, 3) := by decide +kernel
theorem dX10_strikes_73 : decode cX10_strikes 73 = .ok (.pop, 1) := by decide +kernel
theorem dX10_strikes_74 : decode cX10_strikes 74 = .ok (.aload_n 0, 1) := by decide +kernel
theorem dX10_strikes_75 : decode cX10_strikes 75 = .ok (.iload_n 3, 1) := by decide +kernel
theorem dX10_strikes_76 : decode cX10_strikes 76 = .ok (.iconst 2, 1) := by decide +kernel
theorem dX10_strikes_77 : decode cX10_strikes 77 = .ok (.iconst 0, 1) := by decide +kernel
theorem dX10_strikes_78 : decode cX10_strikes 78 = .ok (.aload_n 0, 1) := by decide +kernel
theorem dX10_strikes_79 : decode cX10_strikes 79 = .ok (.iload_n 3, 1) := by decide +kernel
theorem dX10_strikes_80 : decode cX10_strikes 80 = .ok (.iconst 2, 1) := by decide +kernel
theorem dX10_strikes_81 : decode cX10_strikes 81 = .ok (.invokevirtual 86, 3) := by decide +kernel
theorem dX10_strikes_84 : decode cX10_strikes 84 = .ok (.iload_n 2, 1) := by decide +kernel
theorem dX10_strikes_85 : decode cX10_strikes 85 = .ok (.isub, 1) := by decide +kernel
theorem dX10_strikes_86 : decode cX10_strikes 86 = .ok (.invokestatic 187, 3) := by decide +kernel
theorem dX10_strikes_89 : decode cX10_strikes 89 = .ok (.invokevirtual 93, 3) := by decide +kernel
theorem dX10_strikes_92 : decode cX10_strikes 92 = .ok (.pop, 1) := by decide +kernel
theorem dX10_strikes_93 : decode cX10_strikes 93 = .ok (.return_, 1) := by decide +kernel
theorem dX10_day_0 : decode cX10_day 0 = .ok (.aload_n 0, 1) := by decide +kernel
theorem dX10_day_1 : decode cX10_day 1 = .ok (.invokevirtual 190, 3) := by decide +kernel
theorem dX10_day_4 : decode cX10_day 4 = .ok (.istore_n 1, 1) := by decide +kernel
theorem dX10_day_5 : decode cX10_day 5 = .ok (.iconst 0, 1) := by decide +kernel
theorem dX10_day_6 : decode cX10_day 6 = .ok (.istore_n 2, 1) := by decide +kernel
theorem dX10_day_7 : decode cX10_day 7 = .ok (.iload_n 2, 1) := by decide +kernel
theorem dX10_day_8 : decode cX10_day 8 = .ok (.aload_n 0, 1) := by decide +kernel
theorem dX10_day_9 : decode cX10_day 9 = .ok (.getfield 9, 3) := by decide +kernel
theorem dX10_day_12 : decode cX10_day 12 = .ok (.bipush 79, 2) := by decide +kernel
theorem dX10_day_14 : decode cX10_day 14 = .ok (.iaload, 1) := by decide +kernel
theorem dX10_day_15 : decode cX10_day 15 = .ok (.if_icmp .ge 23, 3) := by decide +kernel
theorem dX10_day_18 : decode cX10_day 18 = .ok (.aload_n 0, 1) := by decide +kernel
theorem dX10_day_19 : decode cX10_day 19 = .ok (.iload_n 2, 1) := by decide +kernel
theorem dX10_day_20 : decode cX10_day 20 = .ok (.invokevirtual 193, 3) := by decide +kernel
theorem dX10_day_23 : decode cX10_day 23 = .ok (.ifCond .eq 9, 3) := by decide +kernel
theorem dX10_day_26 : decode cX10_day 26 = .ok (.aload_n 0, 1) := by decide +kernel
theorem dX10_day_27 : decode cX10_day 27 = .ok (.iload_n 2, 1) := by decide +kernel
theorem dX10_day_28 : decode cX10_day 28 = .ok (.iload_n 1, 1) := by decide +kernel
theorem dX10_day_29 : decode cX10_day 29 = .ok (.invokevirtual 196, 3) := by decide +kernel
theorem dX10_day_32 : decode cX10_day 32 = .ok (.iinc 2 1, 3) := by decide +kernel
theorem dX10_day_35 : decode cX10_day 35 = .ok (.goto (-28), 3) := by decide +kernel
theorem dX10_day_38 : decode cX10_day 38 = .ok (.aload_n 0, 1) := by decide +kernel
theorem dX10_day_39 : decode cX10_day 39 = .ok (.getfield 9, 3) := by decide +kernel
theorem dX10_day_42 : decode cX10_day 42 = .ok (.bipush 80, 2) := by decide +kernel
theorem dX10_day_44 : decode cX10_day 44 = .ok (.dup2, 1) := by decide +kernel
theorem dX10_day_45 : decode cX10_day 45 = .ok (.iaload, 1) := by decide +kernel
theorem dX10_day_46 : decode cX10_day 46 = .ok (.iconst 1, 1) := by decide +kernel
theorem dX10_day_47 : decode cX10_day 47 = .ok (.iadd, 1) := by decide +kernel
theorem dX10_day_48 : decode cX10_day 48 = .ok (.iastore, 1) := by decide +kernel
theorem dX10_day_49 : decode cX10_day 49 = .ok (.return_, 1) := by decide +kernel
theorem dX10_days_0 : decode cX10_days 0 = .ok (.iconst 0, 1) := by decide +kernel
theorem dX10_days_1 : decode cX10_days 1 = .ok (.istore_n 2, 1) := by decide +kernel
theorem dX10_days_2 : decode cX10_days 2 = .ok (.iload_n 2, 1) := by decide +kernel
theorem dX10_days_3 : decode cX10_days 3 = .ok (.iload_n 1, 1) := by decide +kernel
theorem dX10_days_4 : decode cX10_days 4 = .ok (.if_icmp .ge 13, 3) := by decide +kernel
theorem dX10_days_7 : decode cX10_days 7 = .ok (.aload_n 0, 1) := by decide +kernel
theorem dX10_days_8 : decode cX10_days 8 = .ok (.invokevirtual 199, 3) := by decide +kernel
theorem dX10_days_11 : decode cX10_days 11 = .ok (.iinc 2 1, 3) := by decide +kernel
theorem dX10_days_14 : decode cX10_days 14 = .ok (.goto (-12), 3) := by decide +kernel
theorem dX10_days_17 : decode cX10_days 17 = .ok (.return_, 1) := by decide +kernel
theorem dX10_all_0 : decode cX10_all 0 = .ok (.iconst 0, 1) := by decide +kernel
theorem dX10_all_1 : decode cX10_all 1 = .ok (.istore_n 2, 1) := by decide +kernel
theorem dX10_all_2 : decode cX10_all 2 = .ok (.iconst 0, 1) := by decide +kernel
theorem dX10_all_3 : decode cX10_all 3 = .ok (.istore_n 3, 1) := by decide +kernel
theorem dX10_all_4 : decode cX10_all 4 = .ok (.iload_n 3, 1) := by decide +kernel
theorem dX10_all_5 : decode cX10_all 5 = .ok (.aload_n 0, 1) := by decide +kernel
theorem dX10_all_6 : decode cX10_all 6 = .ok (.getfield 9, 3) := by decide +kernel
theorem dX10_all_9 : decode cX10_all 9 = .ok (.bipush 78, 2) := by decide +kernel
theorem dX10_all_11 : decode cX10_all 11 = .ok (.iaload, 1) := by decide +kernel
theorem dX10_all_12 : decode cX10_all 12 = .ok (.if_icmp .ge 18, 3) := by decide +kernel
theorem dX10_all_15 : decode cX10_all 15 = .ok (.iload_n 2, 1) := by decide +kernel
theorem dX10_all_16 : decode cX10_all 16 = .ok (.aload_n 0, 1) := by decide +kernel
theorem dX10_all_17 : decode cX10_all 17 = .ok (.iload_n 3, 1) := by decide +kernel
theorem dX10_all_18 : decode cX10_all 18 = .ok (.iload_n 1, 1) := by decide +kernel
theorem dX10_all_19 : decode cX10_all 19 = .ok (.invokevirtual 86, 3) := by decide +kernel
theorem dX10_all_22 : decode cX10_all 22 = .ok (.iadd, 1) := by decide +kernel
theorem dX10_all_23 : decode cX10_all 23 = .ok (.istore_n 2, 1) := by decide +kernel
theorem dX10_all_24 : decode cX10_all 24 = .ok (.iinc 3 1, 3) := by decide +kernel
theorem dX10_all_27 : decode cX10_all 27 = .ok (.goto (-23), 3) := by decide +kernel
theorem dX10_all_30 : decode cX10_all 30 = .ok (.iload_n 2, 1) := by decide +kernel
theorem dX10_all_31 : decode cX10_all 31 = .ok (.ireturn, 1) := by decide +kernel
theorem dX10_sore_0 : decode cX10_sore 0 = .ok (.aload_n 0, 1) := by decide +kernel
theorem dX10_sore_1 : decode cX10_sore 1 = .ok (.getfield 9, 3) := by decide +kernel
theorem dX10_sore_4 : decode cX10_sore 4 = .ok (.aload_n 0, 1) := by decide +kernel
theorem dX10_sore_5 : decode cX10_sore 5 = .ok (.getfield 15, 3) := by decide +kernel
theorem dX10_sore_8 : decode cX10_sore 8 = .ok (.invokestatic 78, 3) := by decide +kernel
theorem dX10_sore_11 : decode cX10_sore 11 = .ok (.aload_n 0, 1) := by decide +kernel
theorem dX10_sore_12 : decode cX10_sore 12 = .ok (.iload_n 1, 1) := by decide +kernel
theorem dX10_sore_13 : decode cX10_sore 13 = .ok (.iconst 4, 1) := by decide +kernel
theorem dX10_sore_14 : decode cX10_sore 14 = .ok (.invokevirtual 86, 3) := by decide +kernel
theorem dX10_sore_17 : decode cX10_sore 17 = .ok (.istore_n 2, 1) := by decide +kernel
theorem dX10_sore_18 : decode cX10_sore 18 = .ok (.bipush (-5), 2) := by decide +kernel
theorem dX10_sore_20 : decode cX10_sore 20 = .ok (.istore_n 3, 1) := by decide +kernel
theorem dX10_sore_21 : decode cX10_sore 21 = .ok (.iconst 0, 1) := by decide +kernel
theorem dX10_sore_22 : decode cX10_sore 22 = .ok (.istore 4, 2) := by decide +kernel
theorem dX10_sore_24 : decode cX10_sore 24 = .ok (.iload 4, 2) := by decide +kernel
theorem dX10_sore_26 : decode cX10_sore 26 = .ok (.bipush 60, 2) := by decide +kernel
theorem dX10_sore_28 : decode cX10_sore 28 = .ok (.if_icmp .gt 37, 3) := by decide +kernel
theorem dX10_sore_31 : decode cX10_sore 31 = .ok (.iload_n 3, 1) := by decide +kernel
theorem dX10_sore_32 : decode cX10_sore 32 = .ok (.bipush (-5), 2) := by decide +kernel
theorem dX10_sore_34 : decode cX10_sore 34 = .ok (.if_icmp .ne 31, 3) := by decide +kernel
theorem dX10_sore_37 : decode cX10_sore 37 = .ok (.aload_n 0, 1) := by decide +kernel
theorem dX10_sore_38 : decode cX10_sore 38 = .ok (.iload_n 1, 1) := by decide +kernel
theorem dX10_sore_39 : decode cX10_sore 39 = .ok (.iconst 4, 1) := by decide +kernel
theorem dX10_sore_40 : decode cX10_sore 40 = .ok (.invokevirtual 86, 3) := by decide +kernel
theorem dX10_sore_43 : decode cX10_sore 43 = .ok (.iload_n 2, 1) := by decide +kernel
theorem dX10_sore_44 : decode cX10_sore 44 = .ok (.if_icmp .le 8, 3) := by decide +kernel
theorem dX10_sore_47 : decode cX10_sore 47 = .ok (.iload 4, 2) := by decide +kernel
theorem dX10_sore_49 : decode cX10_sore 49 = .ok (.goto 5, 3) := by decide +kernel
theorem dX10_sore_52 : decode cX10_sore 52 = .ok (.bipush (-5), 2) := by decide +kernel
theorem dX10_sore_54 : decode cX10_sore 54 = .ok (.istore_n 3, 1) := by decide +kernel
theorem dX10_sore_55 : decode cX10_sore 55 = .ok (.aload_n 0, 1) := by decide +kernel
theorem dX10_sore_56 : decode cX10_sore 56 = .ok (.invokevirtual 199, 3) := by decide +kernel
theorem dX10_sore_59 : decode cX10_sore 59 = .ok (.iinc 4 1, 3) := by decide +kernel
theorem dX10_sore_62 : decode cX10_sore 62 = .ok (.goto (-38), 3) := by decide +kernel
theorem dX10_sore_65 : decode cX10_sore 65 = .ok (.aload_n 0, 1) := by decide +kernel
theorem dX10_sore_66 : decode cX10_sore 66 = .ok (.getfield 15, 3) := by decide +kernel
theorem dX10_sore_69 : decode cX10_sore 69 = .ok (.aload_n 0, 1) := by decide +kernel
theorem dX10_sore_70 : decode cX10_sore 70 = .ok (.getfield 9, 3) := by decide +kernel
theorem dX10_sore_73 : decode cX10_sore 73 = .ok (.invokestatic 78, 3) := by decide +kernel
theorem dX10_sore_76 : decode cX10_sore 76 = .ok (.iload_n 3, 1) := by decide +kernel
theorem dX10_sore_77 : decode cX10_sore 77 = .ok (.ireturn, 1) := by decide +kernel
theorem dX10_told_0 : decode cX10_told 0 = .ok (.iconst 0, 1) := by decide +kernel
theorem dX10_told_1 : decode cX10_told 1 = .ok (.istore_n 2, 1) := by decide +kernel
theorem dX10_told_2 : decode cX10_told 2 = .ok (.iload_n 1, 1) := by decide +kernel
theorem dX10_told_3 : decode cX10_told 3 = .ok (.tableswitch 97 0 4 #[33, 41, 46, 52, 58], 33) := by decide +kernel
theorem dX10_told_36 : decode cX10_told 36 = .ok (.aload_n 0, 1) := by decide +kernel
theorem dX10_told_37 : decode cX10_told 37 = .ok (.getfield 9, 3) := by decide +kernel
theorem dX10_told_40 : decode cX10_told 40 = .ok (.bipush 80, 2) := by decide +kernel
theorem dX10_told_42 : decode cX10_told 42 = .ok (.iaload, 1) := by decide +kernel
theorem dX10_told_43 : decode cX10_told 43 = .ok (.ireturn, 1) := by decide +kernel
theorem dX10_told_44 : decode cX10_told 44 = .ok (.aload_n 0, 1) := by decide +kernel
theorem dX10_told_45 : decode cX10_told 45 = .ok (.invokevirtual 190, 3) := by decide +kernel
theorem dX10_told_48 : decode cX10_told 48 = .ok (.ireturn, 1) := by decide +kernel
theorem dX10_told_49 : decode cX10_told 49 = .ok (.aload_n 0, 1) := by decide +kernel
theorem dX10_told_50 : decode cX10_told 50 = .ok (.iconst 4, 1) := by decide +kernel
theorem dX10_told_51 : decode cX10_told 51 = .ok (.invokevirtual 202, 3) := by decide +kernel
theorem dX10_told_54 : decode cX10_told 54 = .ok (.ireturn, 1) := by decide +kernel
theorem dX10_told_55 : decode cX10_told 55 = .ok (.aload_n 0, 1) := by decide +kernel
theorem dX10_told_56 : decode cX10_told 56 = .ok (.iconst 2, 1) := by decide +kernel
theorem dX10_told_57 : decode cX10_told 57 = .ok (.invokevirtual 202, 3) := by decide +kernel
theorem dX10_told_60 : decode cX10_told 60 = .ok (.ireturn, 1) := by decide +kernel
theorem dX10_told_61 : decode cX10_told 61 = .ok (.iconst 0, 1) := by decide +kernel
theorem dX10_told_62 : decode cX10_told 62 = .ok (.istore_n 3, 1) := by decide +kernel
theorem dX10_told_63 : decode cX10_told 63 = .ok (.iload_n 3, 1) := by decide +kernel
theorem dX10_told_64 : decode cX10_told 64 = .ok (.aload_n 0, 1) := by decide +kernel
theorem dX10_told_65 : decode cX10_told 65 = .ok (.getfield 9, 3) := by decide +kernel
theorem dX10_told_68 : decode cX10_told 68 = .ok (.bipush 79, 2) := by decide +kernel
theorem dX10_told_70 : decode cX10_told 70 = .ok (.iaload, 1) := by decide +kernel
theorem dX10_told_71 : decode cX10_told 71 = .ok (.if_icmp .ge 27, 3) := by decide +kernel
theorem dX10_told_74 : decode cX10_told 74 = .ok (.iload_n 2, 1) := by decide +kernel
theorem dX10_told_75 : decode cX10_told 75 = .ok (.aload_n 0, 1) := by decide +kernel
theorem dX10_told_76 : decode cX10_told 76 = .ok (.iload_n 3, 1) := by decide +kernel
theorem dX10_told_77 : decode cX10_told 77 = .ok (.invokevirtual 193, 3) := by decide +kernel
theorem dX10_told_80 : decode cX10_told 80 = .ok (.ifCond .eq 9, 3) := by decide +kernel
theorem dX10_told_83 : decode cX10_told 83 = .ok (.iconst 1, 1) := by decide +kernel
theorem dX10_told_84 : decode cX10_told 84 = .ok (.iload_n 3, 1) := by decide +kernel
theorem dX10_told_85 : decode cX10_told 85 = .ok (.ishl, 1) := by decide +kernel
theorem dX10_told_86 : decode cX10_told 86 = .ok (.goto 4, 3) := by decide +kernel
theorem dX10_told_89 : decode cX10_told 89 = .ok (.iconst 0, 1) := by decide +kernel
