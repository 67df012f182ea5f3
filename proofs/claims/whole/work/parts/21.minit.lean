theorem dc_Mod_init_0 : decode M_Mod_init.2.1 0 = .ok (.aload_n 0, 1) := by decide +kernel
theorem dc_Mod_init_1 : decode M_Mod_init.2.1 1 = .ok (.invokespecial 1, 3) := by decide +kernel
theorem dc_Mod_init_4 : decode M_Mod_init.2.1 4 = .ok (.aload_n 0, 1) := by decide +kernel
theorem dc_Mod_init_5 : decode M_Mod_init.2.1 5 = .ok (.bipush 8, 2) := by decide +kernel
theorem dc_Mod_init_7 : decode M_Mod_init.2.1 7 = .ok (.newarray .boolean, 2) := by decide +kernel
theorem dc_Mod_init_9 : decode M_Mod_init.2.1 9 = .ok (.putfield 7, 3) := by decide +kernel
theorem dc_Mod_init_12 : decode M_Mod_init.2.1 12 = .ok (.aload_n 0, 1) := by decide +kernel
theorem dc_Mod_init_13 : decode M_Mod_init.2.1 13 = .ok (.bipush 8, 2) := by decide +kernel
theorem dc_Mod_init_15 : decode M_Mod_init.2.1 15 = .ok (.newarray .int, 2) := by decide +kernel
theorem dc_Mod_init_17 : decode M_Mod_init.2.1 17 = .ok (.putfield 13, 3) := by decide +kernel
theorem dc_Mod_init_20 : decode M_Mod_init.2.1 20 = .ok (.aload_n 0, 1) := by decide +kernel
theorem dc_Mod_init_21 : decode M_Mod_init.2.1 21 = .ok (.ldc 17, 2) := by decide +kernel
theorem dc_Mod_init_23 : decode M_Mod_init.2.1 23 = .ok (.newarray .char, 2) := by decide +kernel
theorem dc_Mod_init_25 : decode M_Mod_init.2.1 25 = .ok (.putfield 18, 3) := by decide +kernel
theorem dc_Mod_init_28 : decode M_Mod_init.2.1 28 = .ok (.aload_n 0, 1) := by decide +kernel
theorem dc_Mod_init_29 : decode M_Mod_init.2.1 29 = .ok (.bipush 8, 2) := by decide +kernel
theorem dc_Mod_init_31 : decode M_Mod_init.2.1 31 = .ok (.newarray .boolean, 2) := by decide +kernel
theorem dc_Mod_init_33 : decode M_Mod_init.2.1 33 = .ok (.putfield 22, 3) := by decide +kernel
theorem dc_Mod_init_36 : decode M_Mod_init.2.1 36 = .ok (.aload_n 0, 1) := by decide +kernel
theorem dc_Mod_init_37 : decode M_Mod_init.2.1 37 = .ok (.bipush 8, 2) := by decide +kernel
theorem dc_Mod_init_39 : decode M_Mod_init.2.1 39 = .ok (.newarray .int, 2) := by decide +kernel
theorem dc_Mod_init_41 : decode M_Mod_init.2.1 41 = .ok (.putfield 25, 3) := by decide +kernel
theorem dc_Mod_init_44 : decode M_Mod_init.2.1 44 = .ok (.aload_n 0, 1) := by decide +kernel
theorem dc_Mod_init_45 : decode M_Mod_init.2.1 45 = .ok (.bipush 8, 2) := by decide +kernel
theorem dc_Mod_init_47 : decode M_Mod_init.2.1 47 = .ok (.newarray .int, 2) := by decide +kernel
theorem dc_Mod_init_49 : decode M_Mod_init.2.1 49 = .ok (.putfield 28, 3) := by decide +kernel
theorem dc_Mod_init_52 : decode M_Mod_init.2.1 52 = .ok (.aload_n 0, 1) := by decide +kernel
theorem dc_Mod_init_53 : decode M_Mod_init.2.1 53 = .ok (.sipush 320, 3) := by decide +kernel
theorem dc_Mod_init_56 : decode M_Mod_init.2.1 56 = .ok (.newarray .int, 2) := by decide +kernel
theorem dc_Mod_init_58 : decode M_Mod_init.2.1 58 = .ok (.putfield 31, 3) := by decide +kernel
theorem dc_Mod_init_61 : decode M_Mod_init.2.1 61 = .ok (.aload_n 0, 1) := by decide +kernel
theorem dc_Mod_init_62 : decode M_Mod_init.2.1 62 = .ok (.bipush 12, 2) := by decide +kernel
theorem dc_Mod_init_64 : decode M_Mod_init.2.1 64 = .ok (.newarray .int, 2) := by decide +kernel
theorem dc_Mod_init_66 : decode M_Mod_init.2.1 66 = .ok (.putfield 34, 3) := by decide +kernel
theorem dc_Mod_init_69 : decode M_Mod_init.2.1 69 = .ok (.aload_n 0, 1) := by decide +kernel
theorem dc_Mod_init_70 : decode M_Mod_init.2.1 70 = .ok (.bipush 12, 2) := by decide +kernel
theorem dc_Mod_init_72 : decode M_Mod_init.2.1 72 = .ok (.newarray .int, 2) := by decide +kernel
theorem dc_Mod_init_74 : decode M_Mod_init.2.1 74 = .ok (.putfield 37, 3) := by decide +kernel
theorem dc_Mod_init_77 : decode M_Mod_init.2.1 77 = .ok (.aload_n 0, 1) := by decide +kernel
theorem dc_Mod_init_78 : decode M_Mod_init.2.1 78 = .ok (.bipush 12, 2) := by decide +kernel
theorem dc_Mod_init_80 : decode M_Mod_init.2.1 80 = .ok (.newarray .int, 2) := by decide +kernel
theorem dc_Mod_init_82 : decode M_Mod_init.2.1 82 = .ok (.putfield 40, 3) := by decide +kernel
theorem dc_Mod_init_85 : decode M_Mod_init.2.1 85 = .ok (.aload_n 0, 1) := by decide +kernel
theorem dc_Mod_init_86 : decode M_Mod_init.2.1 86 = .ok (.bipush 12, 2) := by decide +kernel
theorem dc_Mod_init_88 : decode M_Mod_init.2.1 88 = .ok (.newarray .int, 2) := by decide +kernel
theorem dc_Mod_init_90 : decode M_Mod_init.2.1 90 = .ok (.putfield 43, 3) := by decide +kernel
theorem dc_Mod_init_93 : decode M_Mod_init.2.1 93 = .ok (.aload_n 0, 1) := by decide +kernel
theorem dc_Mod_init_94 : decode M_Mod_init.2.1 94 = .ok (.bipush 12, 2) := by decide +kernel
theorem dc_Mod_init_96 : decode M_Mod_init.2.1 96 = .ok (.newarray .int, 2) := by decide +kernel
theorem dc_Mod_init_98 : decode M_Mod_init.2.1 98 = .ok (.putfield 46, 3) := by decide +kernel
theorem dc_Mod_init_101 : decode M_Mod_init.2.1 101 = .ok (.aload_n 0, 1) := by decide +kernel
theorem dc_Mod_init_102 : decode M_Mod_init.2.1 102 = .ok (.bipush 48, 2) := by decide +kernel
theorem dc_Mod_init_104 : decode M_Mod_init.2.1 104 = .ok (.newarray .int, 2) := by decide +kernel
theorem dc_Mod_init_106 : decode M_Mod_init.2.1 106 = .ok (.putfield 49, 3) := by decide +kernel
theorem dc_Mod_init_109 : decode M_Mod_init.2.1 109 = .ok (.aload_n 0, 1) := by decide +kernel
theorem dc_Mod_init_110 : decode M_Mod_init.2.1 110 = .ok (.bipush 11, 2) := by decide +kernel
theorem dc_Mod_init_112 : decode M_Mod_init.2.1 112 = .ok (.newarray .int, 2) := by decide +kernel
theorem dc_Mod_init_114 : decode M_Mod_init.2.1 114 = .ok (.putfield 52, 3) := by decide +kernel
theorem dc_Mod_init_117 : decode M_Mod_init.2.1 117 = .ok (.aload_n 0, 1) := by decide +kernel
theorem dc_Mod_init_118 : decode M_Mod_init.2.1 118 = .ok (.bipush 11, 2) := by decide +kernel
theorem dc_Mod_init_120 : decode M_Mod_init.2.1 120 = .ok (.newarray .int, 2) := by decide +kernel
theorem dc_Mod_init_122 : decode M_Mod_init.2.1 122 = .ok (.putfield 55, 3) := by decide +kernel
theorem dc_Mod_init_125 : decode M_Mod_init.2.1 125 = .ok (.aload_n 0, 1) := by decide +kernel
theorem dc_Mod_init_126 : decode M_Mod_init.2.1 126 = .ok (.bipush 44, 2) := by decide +kernel
theorem dc_Mod_init_128 : decode M_Mod_init.2.1 128 = .ok (.newarray .int, 2) := by decide +kernel
theorem dc_Mod_init_130 : decode M_Mod_init.2.1 130 = .ok (.putfield 58, 3) := by decide +kernel
theorem dc_Mod_init_133 : decode M_Mod_init.2.1 133 = .ok (.aload_n 0, 1) := by decide +kernel
theorem dc_Mod_init_134 : decode M_Mod_init.2.1 134 = .ok (.bipush 11, 2) := by decide +kernel
theorem dc_Mod_init_136 : decode M_Mod_init.2.1 136 = .ok (.newarray .int, 2) := by decide +kernel
theorem dc_Mod_init_138 : decode M_Mod_init.2.1 138 = .ok (.putfield 61, 3) := by decide +kernel
theorem dc_Mod_init_141 : decode M_Mod_init.2.1 141 = .ok (.aload_n 0, 1) := by decide +kernel
theorem dc_Mod_init_142 : decode M_Mod_init.2.1 142 = .ok (.sipush 704, 3) := by decide +kernel
theorem dc_Mod_init_145 : decode M_Mod_init.2.1 145 = .ok (.newarray .char, 2) := by decide +kernel
theorem dc_Mod_init_147 : decode M_Mod_init.2.1 147 = .ok (.putfield 64, 3) := by decide +kernel
theorem dc_Mod_init_150 : decode M_Mod_init.2.1 150 = .ok (.aload_n 0, 1) := by decide +kernel
theorem dc_Mod_init_151 : decode M_Mod_init.2.1 151 = .ok (.bipush 88, 2) := by decide +kernel
theorem dc_Mod_init_153 : decode M_Mod_init.2.1 153 = .ok (.newarray .int, 2) := by decide +kernel
theorem dc_Mod_init_155 : decode M_Mod_init.2.1 155 = .ok (.putfield 67, 3) := by decide +kernel
theorem dc_Mod_init_158 : decode M_Mod_init.2.1 158 = .ok (.aload_n 0, 1) := by decide +kernel
theorem dc_Mod_init_159 : decode M_Mod_init.2.1 159 = .ok (.bipush 88, 2) := by decide +kernel
theorem dc_Mod_init_161 : decode M_Mod_init.2.1 161 = .ok (.newarray .int, 2) := by decide +kernel
theorem dc_Mod_init_163 : decode M_Mod_init.2.1 163 = .ok (.putfield 70, 3) := by decide +kernel
theorem dc_Mod_init_166 : decode M_Mod_init.2.1 166 = .ok (.aload_n 0, 1) := by decide +kernel
theorem dc_Mod_init_167 : decode M_Mod_init.2.1 167 = .ok (.bipush 7, 2) := by decide +kernel
theorem dc_Mod_init_169 : decode M_Mod_init.2.1 169 = .ok (.newarray .int, 2) := by decide +kernel
theorem dc_Mod_init_171 : decode M_Mod_init.2.1 171 = .ok (.putfield 73, 3) := by decide +kernel
theorem dc_Mod_init_174 : decode M_Mod_init.2.1 174 = .ok (.aload_n 0, 1) := by decide +kernel
theorem dc_Mod_init_175 : decode M_Mod_init.2.1 175 = .ok (.bipush 7, 2) := by decide +kernel
theorem dc_Mod_init_177 : decode M_Mod_init.2.1 177 = .ok (.newarray .int, 2) := by decide +kernel
theorem dc_Mod_init_179 : decode M_Mod_init.2.1 179 = .ok (.putfield 76, 3) := by decide +kernel
theorem dc_Mod_init_182 : decode M_Mod_init.2.1 182 = .ok (.aload_n 0, 1) := by decide +kernel
theorem dc_Mod_init_183 : decode M_Mod_init.2.1 183 = .ok (.sipush 448, 3) := by decide +kernel
theorem dc_Mod_init_186 : decode M_Mod_init.2.1 186 = .ok (.newarray .char, 2) := by decide +kernel
theorem dc_Mod_init_188 : decode M_Mod_init.2.1 188 = .ok (.putfield 79, 3) := by decide +kernel
theorem dc_Mod_init_191 : decode M_Mod_init.2.1 191 = .ok (.aload_n 0, 1) := by decide +kernel
theorem dc_Mod_init_192 : decode M_Mod_init.2.1 192 = .ok (.bipush 8, 2) := by decide +kernel
theorem dc_Mod_init_194 : decode M_Mod_init.2.1 194 = .ok (.newarray .int, 2) := by decide +kernel
theorem dc_Mod_init_196 : decode M_Mod_init.2.1 196 = .ok (.putfield 82, 3) := by decide +kernel
theorem dc_Mod_init_199 : decode M_Mod_init.2.1 199 = .ok (.aload_n 0, 1) := by decide +kernel
theorem dc_Mod_init_200 : decode M_Mod_init.2.1 200 = .ok (.bipush 8, 2) := by decide +kernel
theorem dc_Mod_init_202 : decode M_Mod_init.2.1 202 = .ok (.newarray .int, 2) := by decide +kernel
theorem dc_Mod_init_204 : decode M_Mod_init.2.1 204 = .ok (.putfield 85, 3) := by decide +kernel
theorem dc_Mod_init_207 : decode M_Mod_init.2.1 207 = .ok (.aload_n 0, 1) := by decide +kernel
theorem dc_Mod_init_208 : decode M_Mod_init.2.1 208 = .ok (.bipush 8, 2) := by decide +kernel
theorem dc_Mod_init_210 : decode M_Mod_init.2.1 210 = .ok (.newarray .int, 2) := by decide +kernel
theorem dc_Mod_init_212 : decode M_Mod_init.2.1 212 = .ok (.putfield 88, 3) := by decide +kernel
theorem dc_Mod_init_215 : decode M_Mod_init.2.1 215 = .ok (.aload_n 0, 1) := by decide +kernel
theorem dc_Mod_init_216 : decode M_Mod_init.2.1 216 = .ok (.bipush 8, 2) := by decide +kernel
theorem dc_Mod_init_218 : decode M_Mod_init.2.1 218 = .ok (.newarray .boolean, 2) := by decide +kernel
theorem dc_Mod_init_220 : decode M_Mod_init.2.1 220 = .ok (.putfield 91, 3) := by decide +kernel
theorem dc_Mod_init_223 : decode M_Mod_init.2.1 223 = .ok (.aload_n 0, 1) := by decide +kernel
theorem dc_Mod_init_224 : decode M_Mod_init.2.1 224 = .ok (.bipush 8, 2) := by decide +kernel
theorem dc_Mod_init_226 : decode M_Mod_init.2.1 226 = .ok (.newarray .int, 2) := by decide +kernel
theorem dc_Mod_init_228 : decode M_Mod_init.2.1 228 = .ok (.putfield 94, 3) := by decide +kernel
theorem dc_Mod_init_231 : decode M_Mod_init.2.1 231 = .ok (.aload_n 0, 1) := by decide +kernel
theorem dc_Mod_init_232 : decode M_Mod_init.2.1 232 = .ok (.bipush 8, 2) := by decide +kernel
theorem dc_Mod_init_234 : decode M_Mod_init.2.1 234 = .ok (.newarray .int, 2) := by decide +kernel
theorem dc_Mod_init_236 : decode M_Mod_init.2.1 236 = .ok (.putfield 97, 3) := by decide +kernel
theorem dc_Mod_init_239 : decode M_Mod_init.2.1 239 = .ok (.aload_n 0, 1) := by decide +kernel
theorem dc_Mod_init_240 : decode M_Mod_init.2.1 240 = .ok (.bipush 24, 2) := by decide +kernel
theorem dc_Mod_init_242 : decode M_Mod_init.2.1 242 = .ok (.newarray .int, 2) := by decide +kernel
theorem dc_Mod_init_244 : decode M_Mod_init.2.1 244 = .ok (.putfield 100, 3) := by decide +kernel
theorem dc_Mod_init_247 : decode M_Mod_init.2.1 247 = .ok (.aload_n 0, 1) := by decide +kernel
theorem dc_Mod_init_248 : decode M_Mod_init.2.1 248 = .ok (.bipush 24, 2) := by decide +kernel
theorem dc_Mod_init_250 : decode M_Mod_init.2.1 250 = .ok (.newarray .int, 2) := by decide +kernel
theorem dc_Mod_init_252 : decode M_Mod_init.2.1 252 = .ok (.putfield 103, 3) := by decide +kernel
theorem dc_Mod_init_255 : decode M_Mod_init.2.1 255 = .ok (.aload_n 0, 1) := by decide +kernel
theorem dc_Mod_init_256 : decode M_Mod_init.2.1 256 = .ok (.bipush 8, 2) := by decide +kernel
theorem dc_Mod_init_258 : decode M_Mod_init.2.1 258 = .ok (.newarray .int, 2) := by decide +kernel
theorem dc_Mod_init_260 : decode M_Mod_init.2.1 260 = .ok (.putfield 106, 3) := by decide +kernel
theorem dc_Mod_init_263 : decode M_Mod_init.2.1 263 = .ok (.aload_n 0, 1) := by decide +kernel
theorem dc_Mod_init_264 : decode M_Mod_init.2.1 264 = .ok (.bipush 24, 2) := by decide +kernel
theorem dc_Mod_init_266 : decode M_Mod_init.2.1 266 = .ok (.newarray .int, 2) := by decide +kernel
theorem dc_Mod_init_268 : decode M_Mod_init.2.1 268 = .ok (.putfield 109, 3) := by decide +kernel
theorem dc_Mod_init_271 : decode M_Mod_init.2.1 271 = .ok (.aload_n 0, 1) := by decide +kernel
theorem dc_Mod_init_272 : decode M_Mod_init.2.1 272 = .ok (.bipush 24, 2) := by decide +kernel
theorem dc_Mod_init_274 : decode M_Mod_init.2.1 274 = .ok (.newarray .int, 2) := by decide +kernel
theorem dc_Mod_init_276 : decode M_Mod_init.2.1 276 = .ok (.putfield 112, 3) := by decide +kernel
theorem dc_Mod_init_279 : decode M_Mod_init.2.1 279 = .ok (.aload_n 0, 1) := by decide +kernel
theorem dc_Mod_init_280 : decode M_Mod_init.2.1 280 = .ok (.sipush 4096, 3) := by decide +kernel
theorem dc_Mod_init_283 : decode M_Mod_init.2.1 283 = .ok (.newarray .char, 2) := by decide +kernel
theorem dc_Mod_init_285 : decode M_Mod_init.2.1 285 = .ok (.putfield 115, 3) := by decide +kernel
theorem dc_Mod_init_288 : decode M_Mod_init.2.1 288 = .ok (.aload_n 0, 1) := by decide +kernel
theorem dc_Mod_init_289 : decode M_Mod_init.2.1 289 = .ok (.bipush 64, 2) := by decide +kernel
theorem dc_Mod_init_291 : decode M_Mod_init.2.1 291 = .ok (.newarray .int, 2) := by decide +kernel
theorem dc_Mod_init_293 : decode M_Mod_init.2.1 293 = .ok (.putfield 118, 3) := by decide +kernel
theorem dc_Mod_init_296 : decode M_Mod_init.2.1 296 = .ok (.aload_n 0, 1) := by decide +kernel
theorem dc_Mod_init_297 : decode M_Mod_init.2.1 297 = .ok (.bipush 64, 2) := by decide +kernel
theorem dc_Mod_init_299 : decode M_Mod_init.2.1 299 = .ok (.newarray .int, 2) := by decide +kernel
theorem dc_Mod_init_301 : decode M_Mod_init.2.1 301 = .ok (.putfield 121, 3) := by decide +kernel
theorem dc_Mod_init_304 : decode M_Mod_init.2.1 304 = .ok (.aload_n 0, 1) := by decide +kernel
theorem dc_Mod_init_305 : decode M_Mod_init.2.1 305 = .ok (.bipush 8, 2) := by decide +kernel
theorem dc_Mod_init_307 : decode M_Mod_init.2.1 307 = .ok (.newarray .boolean, 2) := by decide +kernel
theorem dc_Mod_init_309 : decode M_Mod_init.2.1 309 = .ok (.putfield 124, 3) := by decide +kernel
theorem dc_Mod_init_312 : decode M_Mod_init.2.1 312 = .ok (.aload_n 0, 1) := by decide +kernel
theorem dc_Mod_init_313 : decode M_Mod_init.2.1 313 = .ok (.sipush 256, 3) := by decide +kernel
theorem dc_Mod_init_316 : decode M_Mod_init.2.1 316 = .ok (.newarray .char, 2) := by decide +kernel
theorem dc_Mod_init_318 : decode M_Mod_init.2.1 318 = .ok (.putfield 127, 3) := by decide +kernel
theorem dc_Mod_init_321 : decode M_Mod_init.2.1 321 = .ok (.aload_n 0, 1) := by decide +kernel
theorem dc_Mod_init_322 : decode M_Mod_init.2.1 322 = .ok (.sipush 512, 3) := by decide +kernel
theorem dc_Mod_init_325 : decode M_Mod_init.2.1 325 = .ok (.newarray .int, 2) := by decide +kernel
theorem dc_Mod_init_327 : decode M_Mod_init.2.1 327 = .ok (.putfield 130, 3) := by decide +kernel
theorem dc_Mod_init_330 : decode M_Mod_init.2.1 330 = .ok (.aload_n 0, 1) := by decide +kernel
theorem dc_Mod_init_331 : decode M_Mod_init.2.1 331 = .ok (.bipush 12, 2) := by decide +kernel
theorem dc_Mod_init_333 : decode M_Mod_init.2.1 333 = .ok (.newarray .boolean, 2) := by decide +kernel
theorem dc_Mod_init_335 : decode M_Mod_init.2.1 335 = .ok (.putfield 133, 3) := by decide +kernel
theorem dc_Mod_init_338 : decode M_Mod_init.2.1 338 = .ok (.iconst 0, 1) := by decide +kernel
theorem dc_Mod_init_339 : decode M_Mod_init.2.1 339 = .ok (.istore_n 1, 1) := by decide +kernel
theorem dc_Mod_init_340 : decode M_Mod_init.2.1 340 = .ok (.iload_n 1, 1) := by decide +kernel
theorem dc_Mod_init_341 : decode M_Mod_init.2.1 341 = .ok (.bipush 8, 2) := by decide +kernel
theorem dc_Mod_init_343 : decode M_Mod_init.2.1 343 = .ok (.if_icmp .ge 25, 3) := by decide +kernel
theorem dc_Mod_init_346 : decode M_Mod_init.2.1 346 = .ok (.aload_n 0, 1) := by decide +kernel
theorem dc_Mod_init_347 : decode M_Mod_init.2.1 347 = .ok (.getfield 25, 3) := by decide +kernel
theorem dc_Mod_init_350 : decode M_Mod_init.2.1 350 = .ok (.iload_n 1, 1) := by decide +kernel
theorem dc_Mod_init_351 : decode M_Mod_init.2.1 351 = .ok (.sipush 999, 3) := by decide +kernel
theorem dc_Mod_init_354 : decode M_Mod_init.2.1 354 = .ok (.iastore, 1) := by decide +kernel
theorem dc_Mod_init_355 : decode M_Mod_init.2.1 355 = .ok (.aload_n 0, 1) := by decide +kernel
theorem dc_Mod_init_356 : decode M_Mod_init.2.1 356 = .ok (.getfield 82, 3) := by decide +kernel
theorem dc_Mod_init_359 : decode M_Mod_init.2.1 359 = .ok (.iload_n 1, 1) := by decide +kernel
theorem dc_Mod_init_360 : decode M_Mod_init.2.1 360 = .ok (.iconst 1, 1) := by decide +kernel
theorem dc_Mod_init_361 : decode M_Mod_init.2.1 361 = .ok (.iastore, 1) := by decide +kernel
theorem dc_Mod_init_362 : decode M_Mod_init.2.1 362 = .ok (.iinc 1 1, 3) := by decide +kernel
theorem dc_Mod_init_365 : decode M_Mod_init.2.1 365 = .ok (.goto (-25), 3) := by decide +kernel
theorem dc_Mod_init_368 : decode M_Mod_init.2.1 368 = .ok (.return_, 1) := by decide +kernel
set_option maxRecDepth 20000 in
theorem e_Mod_init_0 {d : Nat} {σ : PH} {K : PO → PH → Prop} (x0 : Nat) (h : cc σ + 1 ≤ 601024 ∧ cs σ + 8 ≤ 7293034 ∧ (∀ σ1 : PH, σ1 = mk σ (4, 8) 8 → sh σ1 x0 = (1, 11) ∧ (∀ σ2 : PH, σ2 = pR σ1 705 x0 (some (nx σ)) → cc σ2 + 1 ≤ 601024 ∧ cs σ2 + 8 ≤ 7293034 ∧ (∀ σ3 : PH, σ3 = mk σ2 (2, 8) 8 → sh σ3 x0 = (1, 11) ∧ (∀ σ4 : PH, σ4 = pR σ3 706 x0 (some (nx σ2)) → cc σ4 + 1 ≤ 601024 ∧ cs σ4 + 32768 ≤ 7293034 ∧ (∀ σ5 : PH, σ5 = mk σ4 (3, 32768) 32768 → sh σ5 x0 = (1, 11) ∧ (∀ σ6 : PH, σ6 = pR σ5 707 x0 (some (nx σ4)) → cc σ6 + 1 ≤ 601024 ∧ cs σ6 + 8 ≤ 7293034 ∧ (∀ σ7 : PH, σ7 = mk σ6 (4, 8) 8 → sh σ7 x0 = (1, 11) ∧ (∀ σ8 : PH, σ8 = pR σ7 708 x0 (some (nx σ6)) → cc σ8 + 1 ≤ 601024 ∧ cs σ8 + 8 ≤ 7293034 ∧ (∀ σ9 : PH, σ9 = mk σ8 (2, 8) 8 → sh σ9 x0 = (1, 11) ∧ (∀ σ10 : PH, σ10 = pR σ9 709 x0 (some (nx σ8)) → cc σ10 + 1 ≤ 601024 ∧ cs σ10 + 8 ≤ 7293034 ∧ (∀ σ11 : PH, σ11 = mk σ10 (2, 8) 8 → sh σ11 x0 = (1, 11) ∧ (∀ σ12 : PH, σ12 = pR σ11 710 x0 (some (nx σ10)) → cc σ12 + 1 ≤ 601024 ∧ cs σ12 + 320 ≤ 7293034 ∧ (∀ σ13 : PH, σ13 = mk σ12 (2, 320) 320 → sh σ13 x0 = (1, 11) ∧ (∀ σ14 : PH, σ14 = pR σ13 711 x0 (some (nx σ12)) → cc σ14 + 1 ≤ 601024 ∧ cs σ14 + 12 ≤ 7293034 ∧ (∀ σ15 : PH, σ15 = mk σ14 (2, 12) 12 → sh σ15 x0 = (1, 11) ∧ (∀ σ16 : PH, σ16 = pR σ15 713 x0 (some (nx σ14)) → cc σ16 + 1 ≤ 601024 ∧ cs σ16 + 12 ≤ 7293034 ∧ (∀ σ17 : PH, σ17 = mk σ16 (2, 12) 12 → sh σ17 x0 = (1, 11) ∧ (∀ σ18 : PH, σ18 = pR σ17 714 x0 (some (nx σ16)) → cc σ18 + 1 ≤ 601024 ∧ cs σ18 + 12 ≤ 7293034 ∧ (∀ σ19 : PH, σ19 = mk σ18 (2, 12) 12 → sh σ19 x0 = (1, 11) ∧ (∀ σ20 : PH, σ20 = pR σ19 715 x0 (some (nx σ18)) → cc σ20 + 1 ≤ 601024 ∧ cs σ20 + 12 ≤ 7293034 ∧ (∀ σ21 : PH, σ21 = mk σ20 (2, 12) 12 → sh σ21 x0 = (1, 11) ∧ (∀ σ22 : PH, σ22 = pR σ21 716 x0 (some (nx σ20)) → cc σ22 + 1 ≤ 601024 ∧ cs σ22 + 12 ≤ 7293034 ∧ (∀ σ23 : PH, σ23 = mk σ22 (2, 12) 12 → sh σ23 x0 = (1, 11) ∧ (∀ σ24 : PH, σ24 = pR σ23 717 x0 (some (nx σ22)) → cc σ24 + 1 ≤ 601024 ∧ cs σ24 + 48 ≤ 7293034 ∧ (∀ σ25 : PH, σ25 = mk σ24 (2, 48) 48 → sh σ25 x0 = (1, 11) ∧ (∀ σ26 : PH, σ26 = pR σ25 718 x0 (some (nx σ24)) → cc σ26 + 1 ≤ 601024 ∧ cs σ26 + 11 ≤ 7293034 ∧ (∀ σ27 : PH, σ27 = mk σ26 (2, 11) 11 → sh σ27 x0 = (1, 11) ∧ (∀ σ28 : PH, σ28 = pR σ27 720 x0 (some (nx σ26)) → cc σ28 + 1 ≤ 601024 ∧ cs σ28 + 11 ≤ 7293034 ∧ (∀ σ29 : PH, σ29 = mk σ28 (2, 11) 11 → sh σ29 x0 = (1, 11) ∧ (∀ σ30 : PH, σ30 = pR σ29 721 x0 (some (nx σ28)) → cc σ30 + 1 ≤ 601024 ∧ cs σ30 + 44 ≤ 7293034 ∧ (∀ σ31 : PH, σ31 = mk σ30 (2, 44) 44 → sh σ31 x0 = (1, 11) ∧ (∀ σ32 : PH, σ32 = pR σ31 722 x0 (some (nx σ30)) → cc σ32 + 1 ≤ 601024 ∧ cs σ32 + 11 ≤ 7293034 ∧ (∀ σ33 : PH, σ33 = mk σ32 (2, 11) 11 → sh σ33 x0 = (1, 11) ∧ (∀ σ34 : PH, σ34 = pR σ33 723 x0 (some (nx σ32)) → cc σ34 + 1 ≤ 601024 ∧ cs σ34 + 704 ≤ 7293034 ∧ (∀ σ35 : PH, σ35 = mk σ34 (3, 704) 704 → sh σ35 x0 = (1, 11) ∧ (∀ σ36 : PH, σ36 = pR σ35 724 x0 (some (nx σ34)) → cc σ36 + 1 ≤ 601024 ∧ cs σ36 + 88 ≤ 7293034 ∧ (∀ σ37 : PH, σ37 = mk σ36 (2, 88) 88 → sh σ37 x0 = (1, 11) ∧ (∀ σ38 : PH, σ38 = pR σ37 725 x0 (some (nx σ36)) → cc σ38 + 1 ≤ 601024 ∧ cs σ38 + 88 ≤ 7293034 ∧ (∀ σ39 : PH, σ39 = mk σ38 (2, 88) 88 → sh σ39 x0 = (1, 11) ∧ (∀ σ40 : PH, σ40 = pR σ39 726 x0 (some (nx σ38)) → cc σ40 + 1 ≤ 601024 ∧ cs σ40 + 7 ≤ 7293034 ∧ (∀ σ41 : PH, σ41 = mk σ40 (2, 7) 7 → sh σ41 x0 = (1, 11) ∧ (∀ σ42 : PH, σ42 = pR σ41 728 x0 (some (nx σ40)) → cc σ42 + 1 ≤ 601024 ∧ cs σ42 + 7 ≤ 7293034 ∧ (∀ σ43 : PH, σ43 = mk σ42 (2, 7) 7 → sh σ43 x0 = (1, 11) ∧ (∀ σ44 : PH, σ44 = pR σ43 729 x0 (some (nx σ42)) → cc σ44 + 1 ≤ 601024 ∧ cs σ44 + 448 ≤ 7293034 ∧ (∀ σ45 : PH, σ45 = mk σ44 (3, 448) 448 → sh σ45 x0 = (1, 11) ∧ (∀ σ46 : PH, σ46 = pR σ45 730 x0 (some (nx σ44)) → cc σ46 + 1 ≤ 601024 ∧ cs σ46 + 8 ≤ 7293034 ∧ (∀ σ47 : PH, σ47 = mk σ46 (2, 8) 8 → sh σ47 x0 = (1, 11) ∧ (∀ σ48 : PH, σ48 = pR σ47 731 x0 (some (nx σ46)) → cc σ48 + 1 ≤ 601024 ∧ cs σ48 + 8 ≤ 7293034 ∧ (∀ σ49 : PH, σ49 = mk σ48 (2, 8) 8 → sh σ49 x0 = (1, 11) ∧ (∀ σ50 : PH, σ50 = pR σ49 732 x0 (some (nx σ48)) → cc σ50 + 1 ≤ 601024 ∧ cs σ50 + 8 ≤ 7293034 ∧ (∀ σ51 : PH, σ51 = mk σ50 (2, 8) 8 → sh σ51 x0 = (1, 11) ∧ (∀ σ52 : PH, σ52 = pR σ51 733 x0 (some (nx σ50)) → cc σ52 + 1 ≤ 601024 ∧ cs σ52 + 8 ≤ 7293034 ∧ (∀ σ53 : PH, σ53 = mk σ52 (4, 8) 8 → sh σ53 x0 = (1, 11) ∧ (∀ σ54 : PH, σ54 = pR σ53 734 x0 (some (nx σ52)) → cc σ54 + 1 ≤ 601024 ∧ cs σ54 + 8 ≤ 7293034 ∧ (∀ σ55 : PH, σ55 = mk σ54 (2, 8) 8 → sh σ55 x0 = (1, 11) ∧ (∀ σ56 : PH, σ56 = pR σ55 735 x0 (some (nx σ54)) → cc σ56 + 1 ≤ 601024 ∧ cs σ56 + 8 ≤ 7293034 ∧ (∀ σ57 : PH, σ57 = mk σ56 (2, 8) 8 → sh σ57 x0 = (1, 11) ∧ (∀ σ58 : PH, σ58 = pR σ57 736 x0 (some (nx σ56)) → cc σ58 + 1 ≤ 601024 ∧ cs σ58 + 24 ≤ 7293034 ∧ (∀ σ59 : PH, σ59 = mk σ58 (2, 24) 24 → sh σ59 x0 = (1, 11) ∧ (∀ σ60 : PH, σ60 = pR σ59 737 x0 (some (nx σ58)) → cc σ60 + 1 ≤ 601024 ∧ cs σ60 + 24 ≤ 7293034 ∧ (∀ σ61 : PH, σ61 = mk σ60 (2, 24) 24 → sh σ61 x0 = (1, 11) ∧ (∀ σ62 : PH, σ62 = pR σ61 738 x0 (some (nx σ60)) → cc σ62 + 1 ≤ 601024 ∧ cs σ62 + 8 ≤ 7293034 ∧ (∀ σ63 : PH, σ63 = mk σ62 (2, 8) 8 → sh σ63 x0 = (1, 11) ∧ (∀ σ64 : PH, σ64 = pR σ63 739 x0 (some (nx σ62)) → cc σ64 + 1 ≤ 601024 ∧ cs σ64 + 24 ≤ 7293034 ∧ (∀ σ65 : PH, σ65 = mk σ64 (2, 24) 24 → sh σ65 x0 = (1, 11) ∧ (∀ σ66 : PH, σ66 = pR σ65 740 x0 (some (nx σ64)) → cc σ66 + 1 ≤ 601024 ∧ cs σ66 + 24 ≤ 7293034 ∧ (∀ σ67 : PH, σ67 = mk σ66 (2, 24) 24 → sh σ67 x0 = (1, 11) ∧ (∀ σ68 : PH, σ68 = pR σ67 741 x0 (some (nx σ66)) → cc σ68 + 1 ≤ 601024 ∧ cs σ68 + 4096 ≤ 7293034 ∧ (∀ σ69 : PH, σ69 = mk σ68 (3, 4096) 4096 → sh σ69 x0 = (1, 11) ∧ (∀ σ70 : PH, σ70 = pR σ69 743 x0 (some (nx σ68)) → cc σ70 + 1 ≤ 601024 ∧ cs σ70 + 64 ≤ 7293034 ∧ (∀ σ71 : PH, σ71 = mk σ70 (2, 64) 64 → sh σ71 x0 = (1, 11) ∧ (∀ σ72 : PH, σ72 = pR σ71 746 x0 (some (nx σ70)) → cc σ72 + 1 ≤ 601024 ∧ cs σ72 + 64 ≤ 7293034 ∧ (∀ σ73 : PH, σ73 = mk σ72 (2, 64) 64 → sh σ73 x0 = (1, 11) ∧ (∀ σ74 : PH, σ74 = pR σ73 747 x0 (some (nx σ72)) → cc σ74 + 1 ≤ 601024 ∧ cs σ74 + 8 ≤ 7293034 ∧ (∀ σ75 : PH, σ75 = mk σ74 (4, 8) 8 → sh σ75 x0 = (1, 11) ∧ (∀ σ76 : PH, σ76 = pR σ75 752 x0 (some (nx σ74)) → cc σ76 + 1 ≤ 601024 ∧ cs σ76 + 256 ≤ 7293034 ∧ (∀ σ77 : PH, σ77 = mk σ76 (3, 256) 256 → sh σ77 x0 = (1, 11) ∧ (∀ σ78 : PH, σ78 = pR σ77 755 x0 (some (nx σ76)) → cc σ78 + 1 ≤ 601024 ∧ cs σ78 + 512 ≤ 7293034 ∧ (∀ σ79 : PH, σ79 = mk σ78 (2, 512) 512 → sh σ79 x0 = (1, 11) ∧ (∀ σ80 : PH, σ80 = pR σ79 757 x0 (some (nx σ78)) → cc σ80 + 1 ≤ 601024 ∧ cs σ80 + 12 ≤ 7293034 ∧ (∀ σ81 : PH, σ81 = mk σ80 (4, 12) 12 → sh σ81 x0 = (1, 11) ∧ (∀ σ82 : PH, σ82 = pR σ81 758 x0 (some (nx σ80)) → PW (d + 1) M_Mod_init 340 [.ref x0, .int 0] [] σ82 K))))))))))))))))))))))))))))))))))))))))))))))))))))))))))))))))))))))))))))))))))) : PW (d + 1) M_Mod_init 0 [.ref x0, uu] [] σ K := by
  refine pw_aload_n dc_Mod_init_0 rfl rfl ?_
  refine pw_objInit dc_Mod_init_1 (List.mem_of_getElem? (i := 951) (by decide +kernel)) (List.mem_of_getElem? (i := 91) (by decide +kernel)) (List.mem_of_getElem? (i := 92) (by decide +kernel)) (Nat.le_of_ble_eq_true rfl) ?_
  refine pw_aload_n dc_Mod_init_4 rfl rfl ?_
  refine pw_bipush (v := 8) dc_Mod_init_5 (by decide) ?_
  refine PW.top (v' := .int (nI 8)) rfl ?_
  obtain ⟨hr1, hr2, h⟩ := h
  have h := h _ rfl
  refine pw_newa (k := 4) (N := 8) dc_Mod_init_7 (by unfold nk; decide) rfl (List.mem_of_getElem? (i := 1119) (by decide +kernel)) (by decide) hr1 hr2 ?_
  obtain ⟨hs1, h⟩ := h
  have h := h _ rfl
  refine pw_putR (c := 11) (k := 1) (f := 705) (v := some (nx σ)) dc_Mod_init_9 fl_Mod_7 (Or.inr ⟨rfl, rfl, rfl, List.mem_of_getElem? (i := 954) (by decide +kernel)⟩) rfl rfl hs1 ?_
  refine pw_aload_n dc_Mod_init_12 rfl rfl ?_
  refine pw_bipush (v := 8) dc_Mod_init_13 (by decide) ?_
  refine PW.top (v' := .int (nI 8)) rfl ?_
  obtain ⟨hr3, hr4, h⟩ := h
  have h := h _ rfl
  refine pw_newa (k := 2) (N := 8) dc_Mod_init_15 (by unfold nk; decide) rfl (List.mem_of_getElem? (i := 131) (by decide +kernel)) (by decide) hr3 hr4 ?_
  obtain ⟨hs2, h⟩ := h
  have h := h _ rfl
  refine pw_putR (c := 11) (k := 2) (f := 706) (v := some _) dc_Mod_init_17 fl_Mod_13 (Or.inr ⟨rfl, rfl, rfl, List.mem_of_getElem? (i := 955) (by decide +kernel)⟩) rfl rfl hs2 ?_
  refine pw_aload_n dc_Mod_init_20 rfl rfl ?_
  refine pw_ldc (v := 32768) dc_Mod_init_21 (List.mem_of_getElem? (i := 952) (by decide +kernel)) ?_
  refine PW.top (v' := .int (nI 32768)) rfl ?_
  obtain ⟨hr5, hr6, h⟩ := h
  have h := h _ rfl
  refine pw_newa (k := 3) (N := 32768) dc_Mod_init_23 (by unfold nk; decide) rfl (List.mem_of_getElem? (i := 202) (by decide +kernel)) (by decide) hr5 hr6 ?_
  obtain ⟨hs3, h⟩ := h
  have h := h _ rfl
  refine pw_putR (c := 11) (k := 3) (f := 707) (v := some _) dc_Mod_init_25 fl_Mod_18 (Or.inr ⟨rfl, rfl, rfl, List.mem_of_getElem? (i := 956) (by decide +kernel)⟩) rfl rfl hs3 ?_
  refine pw_aload_n dc_Mod_init_28 rfl rfl ?_
  refine pw_bipush (v := 8) dc_Mod_init_29 (by decide) ?_
  refine PW.top (v' := .int (nI 8)) rfl ?_
  obtain ⟨hr7, hr8, h⟩ := h
  have h := h _ rfl
  refine pw_newa (k := 4) (N := 8) dc_Mod_init_31 (by unfold nk; decide) rfl (List.mem_of_getElem? (i := 1119) (by decide +kernel)) (by decide) hr7 hr8 ?_
  obtain ⟨hs4, h⟩ := h
  have h := h _ rfl
  refine pw_putR (c := 11) (k := 4) (f := 708) (v := some _) dc_Mod_init_33 fl_Mod_22 (Or.inr ⟨rfl, rfl, rfl, List.mem_of_getElem? (i := 957) (by decide +kernel)⟩) rfl rfl hs4 ?_
  refine pw_aload_n dc_Mod_init_36 rfl rfl ?_
  refine pw_bipush (v := 8) dc_Mod_init_37 (by decide) ?_
  refine PW.top (v' := .int (nI 8)) rfl ?_
  obtain ⟨hr9, hr10, h⟩ := h
  have h := h _ rfl
  refine pw_newa (k := 2) (N := 8) dc_Mod_init_39 (by unfold nk; decide) rfl (List.mem_of_getElem? (i := 131) (by decide +kernel)) (by decide) hr9 hr10 ?_
  obtain ⟨hs5, h⟩ := h
  have h := h _ rfl
  refine pw_putR (c := 11) (k := 5) (f := 709) (v := some _) dc_Mod_init_41 fl_Mod_25 (Or.inr ⟨rfl, rfl, rfl, List.mem_of_getElem? (i := 958) (by decide +kernel)⟩) rfl rfl hs5 ?_
  refine pw_aload_n dc_Mod_init_44 rfl rfl ?_
  refine pw_bipush (v := 8) dc_Mod_init_45 (by decide) ?_
  refine PW.top (v' := .int (nI 8)) rfl ?_
  obtain ⟨hr11, hr12, h⟩ := h
  have h := h _ rfl
  refine pw_newa (k := 2) (N := 8) dc_Mod_init_47 (by unfold nk; decide) rfl (List.mem_of_getElem? (i := 131) (by decide +kernel)) (by decide) hr11 hr12 ?_
  obtain ⟨hs6, h⟩ := h
  have h := h _ rfl
  refine pw_putR (c := 11) (k := 6) (f := 710) (v := some _) dc_Mod_init_49 fl_Mod_28 (Or.inr ⟨rfl, rfl, rfl, List.mem_of_getElem? (i := 959) (by decide +kernel)⟩) rfl rfl hs6 ?_
  refine pw_aload_n dc_Mod_init_52 rfl rfl ?_
  refine pw_sipush (v := 320) dc_Mod_init_53 (by decide) ?_
  refine PW.top (v' := .int (nI 320)) rfl ?_
  obtain ⟨hr13, hr14, h⟩ := h
  have h := h _ rfl
  refine pw_newa (k := 2) (N := 320) dc_Mod_init_56 (by unfold nk; decide) rfl (List.mem_of_getElem? (i := 131) (by decide +kernel)) (by decide) hr13 hr14 ?_
  obtain ⟨hs7, h⟩ := h
  have h := h _ rfl
  refine pw_putR (c := 11) (k := 7) (f := 711) (v := some _) dc_Mod_init_58 fl_Mod_31 (Or.inr ⟨rfl, rfl, rfl, List.mem_of_getElem? (i := 960) (by decide +kernel)⟩) rfl rfl hs7 ?_
  refine pw_aload_n dc_Mod_init_61 rfl rfl ?_
  refine pw_bipush (v := 12) dc_Mod_init_62 (by decide) ?_
  refine PW.top (v' := .int (nI 12)) rfl ?_
  obtain ⟨hr15, hr16, h⟩ := h
  have h := h _ rfl
  refine pw_newa (k := 2) (N := 12) dc_Mod_init_64 (by unfold nk; decide) rfl (List.mem_of_getElem? (i := 131) (by decide +kernel)) (by decide) hr15 hr16 ?_
  obtain ⟨hs8, h⟩ := h
  have h := h _ rfl
  refine pw_putR (c := 11) (k := 9) (f := 713) (v := some _) dc_Mod_init_66 fl_Mod_34 (Or.inr ⟨rfl, rfl, rfl, List.mem_of_getElem? (i := 962) (by decide +kernel)⟩) rfl rfl hs8 ?_
  refine pw_aload_n dc_Mod_init_69 rfl rfl ?_
  refine pw_bipush (v := 12) dc_Mod_init_70 (by decide) ?_
  refine PW.top (v' := .int (nI 12)) rfl ?_
  obtain ⟨hr17, hr18, h⟩ := h
  have h := h _ rfl
  refine pw_newa (k := 2) (N := 12) dc_Mod_init_72 (by unfold nk; decide) rfl (List.mem_of_getElem? (i := 131) (by decide +kernel)) (by decide) hr17 hr18 ?_
  obtain ⟨hs9, h⟩ := h
  have h := h _ rfl
  refine pw_putR (c := 11) (k := 10) (f := 714) (v := some _) dc_Mod_init_74 fl_Mod_37 (Or.inr ⟨rfl, rfl, rfl, List.mem_of_getElem? (i := 963) (by decide +kernel)⟩) rfl rfl hs9 ?_
  refine pw_aload_n dc_Mod_init_77 rfl rfl ?_
  refine pw_bipush (v := 12) dc_Mod_init_78 (by decide) ?_
  refine PW.top (v' := .int (nI 12)) rfl ?_
  obtain ⟨hr19, hr20, h⟩ := h
  have h := h _ rfl
  refine pw_newa (k := 2) (N := 12) dc_Mod_init_80 (by unfold nk; decide) rfl (List.mem_of_getElem? (i := 131) (by decide +kernel)) (by decide) hr19 hr20 ?_
  obtain ⟨hs10, h⟩ := h
  have h := h _ rfl
  refine pw_putR (c := 11) (k := 11) (f := 715) (v := some _) dc_Mod_init_82 fl_Mod_40 (Or.inr ⟨rfl, rfl, rfl, List.mem_of_getElem? (i := 964) (by decide +kernel)⟩) rfl rfl hs10 ?_
  refine pw_aload_n dc_Mod_init_85 rfl rfl ?_
  refine pw_bipush (v := 12) dc_Mod_init_86 (by decide) ?_
  refine PW.top (v' := .int (nI 12)) rfl ?_
  obtain ⟨hr21, hr22, h⟩ := h
  have h := h _ rfl
  refine pw_newa (k := 2) (N := 12) dc_Mod_init_88 (by unfold nk; decide) rfl (List.mem_of_getElem? (i := 131) (by decide +kernel)) (by decide) hr21 hr22 ?_
  obtain ⟨hs11, h⟩ := h
  have h := h _ rfl
  refine pw_putR (c := 11) (k := 12) (f := 716) (v := some _) dc_Mod_init_90 fl_Mod_43 (Or.inr ⟨rfl, rfl, rfl, List.mem_of_getElem? (i := 965) (by decide +kernel)⟩) rfl rfl hs11 ?_
  refine pw_aload_n dc_Mod_init_93 rfl rfl ?_
  refine pw_bipush (v := 12) dc_Mod_init_94 (by decide) ?_
  refine PW.top (v' := .int (nI 12)) rfl ?_
  obtain ⟨hr23, hr24, h⟩ := h
  have h := h _ rfl
  refine pw_newa (k := 2) (N := 12) dc_Mod_init_96 (by unfold nk; decide) rfl (List.mem_of_getElem? (i := 131) (by decide +kernel)) (by decide) hr23 hr24 ?_
  obtain ⟨hs12, h⟩ := h
  have h := h _ rfl
  refine pw_putR (c := 11) (k := 13) (f := 717) (v := some _) dc_Mod_init_98 fl_Mod_46 (Or.inr ⟨rfl, rfl, rfl, List.mem_of_getElem? (i := 966) (by decide +kernel)⟩) rfl rfl hs12 ?_
  refine pw_aload_n dc_Mod_init_101 rfl rfl ?_
  refine pw_bipush (v := 48) dc_Mod_init_102 (by decide) ?_
  refine PW.top (v' := .int (nI 48)) rfl ?_
  obtain ⟨hr25, hr26, h⟩ := h
  have h := h _ rfl
  refine pw_newa (k := 2) (N := 48) dc_Mod_init_104 (by unfold nk; decide) rfl (List.mem_of_getElem? (i := 131) (by decide +kernel)) (by decide) hr25 hr26 ?_
  obtain ⟨hs13, h⟩ := h
  have h := h _ rfl
  refine pw_putR (c := 11) (k := 14) (f := 718) (v := some _) dc_Mod_init_106 fl_Mod_49 (Or.inr ⟨rfl, rfl, rfl, List.mem_of_getElem? (i := 967) (by decide +kernel)⟩) rfl rfl hs13 ?_
  refine pw_aload_n dc_Mod_init_109 rfl rfl ?_
  refine pw_bipush (v := 11) dc_Mod_init_110 (by decide) ?_
  refine PW.top (v' := .int (nI 11)) rfl ?_
  obtain ⟨hr27, hr28, h⟩ := h
  have h := h _ rfl
  refine pw_newa (k := 2) (N := 11) dc_Mod_init_112 (by unfold nk; decide) rfl (List.mem_of_getElem? (i := 131) (by decide +kernel)) (by decide) hr27 hr28 ?_
  obtain ⟨hs14, h⟩ := h
  have h := h _ rfl
  refine pw_putR (c := 11) (k := 16) (f := 720) (v := some _) dc_Mod_init_114 fl_Mod_52 (Or.inr ⟨rfl, rfl, rfl, List.mem_of_getElem? (i := 969) (by decide +kernel)⟩) rfl rfl hs14 ?_
  refine pw_aload_n dc_Mod_init_117 rfl rfl ?_
  refine pw_bipush (v := 11) dc_Mod_init_118 (by decide) ?_
  refine PW.top (v' := .int (nI 11)) rfl ?_
  obtain ⟨hr29, hr30, h⟩ := h
  have h := h _ rfl
  refine pw_newa (k := 2) (N := 11) dc_Mod_init_120 (by unfold nk; decide) rfl (List.mem_of_getElem? (i := 131) (by decide +kernel)) (by decide) hr29 hr30 ?_
  obtain ⟨hs15, h⟩ := h
  have h := h _ rfl
  refine pw_putR (c := 11) (k := 17) (f := 721) (v := some _) dc_Mod_init_122 fl_Mod_55 (Or.inr ⟨rfl, rfl, rfl, List.mem_of_getElem? (i := 970) (by decide +kernel)⟩) rfl rfl hs15 ?_
  refine pw_aload_n dc_Mod_init_125 rfl rfl ?_
  refine pw_bipush (v := 44) dc_Mod_init_126 (by decide) ?_
  refine PW.top (v' := .int (nI 44)) rfl ?_
  obtain ⟨hr31, hr32, h⟩ := h
  have h := h _ rfl
  refine pw_newa (k := 2) (N := 44) dc_Mod_init_128 (by unfold nk; decide) rfl (List.mem_of_getElem? (i := 131) (by decide +kernel)) (by decide) hr31 hr32 ?_
  obtain ⟨hs16, h⟩ := h
  have h := h _ rfl
  refine pw_putR (c := 11) (k := 18) (f := 722) (v := some _) dc_Mod_init_130 fl_Mod_58 (Or.inr ⟨rfl, rfl, rfl, List.mem_of_getElem? (i := 971) (by decide +kernel)⟩) rfl rfl hs16 ?_
  refine pw_aload_n dc_Mod_init_133 rfl rfl ?_
  refine pw_bipush (v := 11) dc_Mod_init_134 (by decide) ?_
  refine PW.top (v' := .int (nI 11)) rfl ?_
  obtain ⟨hr33, hr34, h⟩ := h
  have h := h _ rfl
  refine pw_newa (k := 2) (N := 11) dc_Mod_init_136 (by unfold nk; decide) rfl (List.mem_of_getElem? (i := 131) (by decide +kernel)) (by decide) hr33 hr34 ?_
  obtain ⟨hs17, h⟩ := h
  have h := h _ rfl
  refine pw_putR (c := 11) (k := 19) (f := 723) (v := some _) dc_Mod_init_138 fl_Mod_61 (Or.inr ⟨rfl, rfl, rfl, List.mem_of_getElem? (i := 972) (by decide +kernel)⟩) rfl rfl hs17 ?_
  refine pw_aload_n dc_Mod_init_141 rfl rfl ?_
  refine pw_sipush (v := 704) dc_Mod_init_142 (by decide) ?_
  refine PW.top (v' := .int (nI 704)) rfl ?_
  obtain ⟨hr35, hr36, h⟩ := h
  have h := h _ rfl
  refine pw_newa (k := 3) (N := 704) dc_Mod_init_145 (by unfold nk; decide) rfl (List.mem_of_getElem? (i := 202) (by decide +kernel)) (by decide) hr35 hr36 ?_
  obtain ⟨hs18, h⟩ := h
  have h := h _ rfl
  refine pw_putR (c := 11) (k := 20) (f := 724) (v := some _) dc_Mod_init_147 fl_Mod_64 (Or.inr ⟨rfl, rfl, rfl, List.mem_of_getElem? (i := 973) (by decide +kernel)⟩) rfl rfl hs18 ?_
  refine pw_aload_n dc_Mod_init_150 rfl rfl ?_
  refine pw_bipush (v := 88) dc_Mod_init_151 (by decide) ?_
  refine PW.top (v' := .int (nI 88)) rfl ?_
  obtain ⟨hr37, hr38, h⟩ := h
  have h := h _ rfl
  refine pw_newa (k := 2) (N := 88) dc_Mod_init_153 (by unfold nk; decide) rfl (List.mem_of_getElem? (i := 131) (by decide +kernel)) (by decide) hr37 hr38 ?_
  obtain ⟨hs19, h⟩ := h
  have h := h _ rfl
  refine pw_putR (c := 11) (k := 21) (f := 725) (v := some _) dc_Mod_init_155 fl_Mod_67 (Or.inr ⟨rfl, rfl, rfl, List.mem_of_getElem? (i := 974) (by decide +kernel)⟩) rfl rfl hs19 ?_
  refine pw_aload_n dc_Mod_init_158 rfl rfl ?_
  refine pw_bipush (v := 88) dc_Mod_init_159 (by decide) ?_
  refine PW.top (v' := .int (nI 88)) rfl ?_
  obtain ⟨hr39, hr40, h⟩ := h
  have h := h _ rfl
  refine pw_newa (k := 2) (N := 88) dc_Mod_init_161 (by unfold nk; decide) rfl (List.mem_of_getElem? (i := 131) (by decide +kernel)) (by decide) hr39 hr40 ?_
  obtain ⟨hs20, h⟩ := h
  have h := h _ rfl
  refine pw_putR (c := 11) (k := 22) (f := 726) (v := some _) dc_Mod_init_163 fl_Mod_70 (Or.inr ⟨rfl, rfl, rfl, List.mem_of_getElem? (i := 975) (by decide +kernel)⟩) rfl rfl hs20 ?_
  refine pw_aload_n dc_Mod_init_166 rfl rfl ?_
  refine pw_bipush (v := 7) dc_Mod_init_167 (by decide) ?_
  refine PW.top (v' := .int (nI 7)) rfl ?_
  obtain ⟨hr41, hr42, h⟩ := h
  have h := h _ rfl
  refine pw_newa (k := 2) (N := 7) dc_Mod_init_169 (by unfold nk; decide) rfl (List.mem_of_getElem? (i := 131) (by decide +kernel)) (by decide) hr41 hr42 ?_
  obtain ⟨hs21, h⟩ := h
  have h := h _ rfl
  refine pw_putR (c := 11) (k := 24) (f := 728) (v := some _) dc_Mod_init_171 fl_Mod_73 (Or.inr ⟨rfl, rfl, rfl, List.mem_of_getElem? (i := 977) (by decide +kernel)⟩) rfl rfl hs21 ?_
  refine pw_aload_n dc_Mod_init_174 rfl rfl ?_
  refine pw_bipush (v := 7) dc_Mod_init_175 (by decide) ?_
  refine PW.top (v' := .int (nI 7)) rfl ?_
  obtain ⟨hr43, hr44, h⟩ := h
  have h := h _ rfl
  refine pw_newa (k := 2) (N := 7) dc_Mod_init_177 (by unfold nk; decide) rfl (List.mem_of_getElem? (i := 131) (by decide +kernel)) (by decide) hr43 hr44 ?_
  obtain ⟨hs22, h⟩ := h
  have h := h _ rfl
  refine pw_putR (c := 11) (k := 25) (f := 729) (v := some _) dc_Mod_init_179 fl_Mod_76 (Or.inr ⟨rfl, rfl, rfl, List.mem_of_getElem? (i := 978) (by decide +kernel)⟩) rfl rfl hs22 ?_
  refine pw_aload_n dc_Mod_init_182 rfl rfl ?_
  refine pw_sipush (v := 448) dc_Mod_init_183 (by decide) ?_
  refine PW.top (v' := .int (nI 448)) rfl ?_
  obtain ⟨hr45, hr46, h⟩ := h
  have h := h _ rfl
  refine pw_newa (k := 3) (N := 448) dc_Mod_init_186 (by unfold nk; decide) rfl (List.mem_of_getElem? (i := 202) (by decide +kernel)) (by decide) hr45 hr46 ?_
  obtain ⟨hs23, h⟩ := h
  have h := h _ rfl
  refine pw_putR (c := 11) (k := 26) (f := 730) (v := some _) dc_Mod_init_188 fl_Mod_79 (Or.inr ⟨rfl, rfl, rfl, List.mem_of_getElem? (i := 979) (by decide +kernel)⟩) rfl rfl hs23 ?_
  refine pw_aload_n dc_Mod_init_191 rfl rfl ?_
  refine pw_bipush (v := 8) dc_Mod_init_192 (by decide) ?_
  refine PW.top (v' := .int (nI 8)) rfl ?_
  obtain ⟨hr47, hr48, h⟩ := h
  have h := h _ rfl
  refine pw_newa (k := 2) (N := 8) dc_Mod_init_194 (by unfold nk; decide) rfl (List.mem_of_getElem? (i := 131) (by decide +kernel)) (by decide) hr47 hr48 ?_
  obtain ⟨hs24, h⟩ := h
  have h := h _ rfl
  refine pw_putR (c := 11) (k := 27) (f := 731) (v := some _) dc_Mod_init_196 fl_Mod_82 (Or.inr ⟨rfl, rfl, rfl, List.mem_of_getElem? (i := 980) (by decide +kernel)⟩) rfl rfl hs24 ?_
  refine pw_aload_n dc_Mod_init_199 rfl rfl ?_
  refine pw_bipush (v := 8) dc_Mod_init_200 (by decide) ?_
  refine PW.top (v' := .int (nI 8)) rfl ?_
  obtain ⟨hr49, hr50, h⟩ := h
  have h := h _ rfl
  refine pw_newa (k := 2) (N := 8) dc_Mod_init_202 (by unfold nk; decide) rfl (List.mem_of_getElem? (i := 131) (by decide +kernel)) (by decide) hr49 hr50 ?_
  obtain ⟨hs25, h⟩ := h
  have h := h _ rfl
  refine pw_putR (c := 11) (k := 28) (f := 732) (v := some _) dc_Mod_init_204 fl_Mod_85 (Or.inr ⟨rfl, rfl, rfl, List.mem_of_getElem? (i := 981) (by decide +kernel)⟩) rfl rfl hs25 ?_
  refine pw_aload_n dc_Mod_init_207 rfl rfl ?_
  refine pw_bipush (v := 8) dc_Mod_init_208 (by decide) ?_
  refine PW.top (v' := .int (nI 8)) rfl ?_
  obtain ⟨hr51, hr52, h⟩ := h
  have h := h _ rfl
  refine pw_newa (k := 2) (N := 8) dc_Mod_init_210 (by unfold nk; decide) rfl (List.mem_of_getElem? (i := 131) (by decide +kernel)) (by decide) hr51 hr52 ?_
  obtain ⟨hs26, h⟩ := h
  have h := h _ rfl
  refine pw_putR (c := 11) (k := 29) (f := 733) (v := some _) dc_Mod_init_212 fl_Mod_88 (Or.inr ⟨rfl, rfl, rfl, List.mem_of_getElem? (i := 982) (by decide +kernel)⟩) rfl rfl hs26 ?_
  refine pw_aload_n dc_Mod_init_215 rfl rfl ?_
  refine pw_bipush (v := 8) dc_Mod_init_216 (by decide) ?_
  refine PW.top (v' := .int (nI 8)) rfl ?_
  obtain ⟨hr53, hr54, h⟩ := h
  have h := h _ rfl
  refine pw_newa (k := 4) (N := 8) dc_Mod_init_218 (by unfold nk; decide) rfl (List.mem_of_getElem? (i := 1119) (by decide +kernel)) (by decide) hr53 hr54 ?_
  obtain ⟨hs27, h⟩ := h
  have h := h _ rfl
  refine pw_putR (c := 11) (k := 30) (f := 734) (v := some _) dc_Mod_init_220 fl_Mod_91 (Or.inr ⟨rfl, rfl, rfl, List.mem_of_getElem? (i := 983) (by decide +kernel)⟩) rfl rfl hs27 ?_
  refine pw_aload_n dc_Mod_init_223 rfl rfl ?_
  refine pw_bipush (v := 8) dc_Mod_init_224 (by decide) ?_
  refine PW.top (v' := .int (nI 8)) rfl ?_
  obtain ⟨hr55, hr56, h⟩ := h
  have h := h _ rfl
  refine pw_newa (k := 2) (N := 8) dc_Mod_init_226 (by unfold nk; decide) rfl (List.mem_of_getElem? (i := 131) (by decide +kernel)) (by decide) hr55 hr56 ?_
  obtain ⟨hs28, h⟩ := h
  have h := h _ rfl
  refine pw_putR (c := 11) (k := 31) (f := 735) (v := some _) dc_Mod_init_228 fl_Mod_94 (Or.inr ⟨rfl, rfl, rfl, List.mem_of_getElem? (i := 984) (by decide +kernel)⟩) rfl rfl hs28 ?_
  refine pw_aload_n dc_Mod_init_231 rfl rfl ?_
  refine pw_bipush (v := 8) dc_Mod_init_232 (by decide) ?_
  refine PW.top (v' := .int (nI 8)) rfl ?_
  obtain ⟨hr57, hr58, h⟩ := h
  have h := h _ rfl
  refine pw_newa (k := 2) (N := 8) dc_Mod_init_234 (by unfold nk; decide) rfl (List.mem_of_getElem? (i := 131) (by decide +kernel)) (by decide) hr57 hr58 ?_
  obtain ⟨hs29, h⟩ := h
  have h := h _ rfl
  refine pw_putR (c := 11) (k := 32) (f := 736) (v := some _) dc_Mod_init_236 fl_Mod_97 (Or.inr ⟨rfl, rfl, rfl, List.mem_of_getElem? (i := 985) (by decide +kernel)⟩) rfl rfl hs29 ?_
  refine pw_aload_n dc_Mod_init_239 rfl rfl ?_
  refine pw_bipush (v := 24) dc_Mod_init_240 (by decide) ?_
  refine PW.top (v' := .int (nI 24)) rfl ?_
  obtain ⟨hr59, hr60, h⟩ := h
  have h := h _ rfl
  refine pw_newa (k := 2) (N := 24) dc_Mod_init_242 (by unfold nk; decide) rfl (List.mem_of_getElem? (i := 131) (by decide +kernel)) (by decide) hr59 hr60 ?_
  obtain ⟨hs30, h⟩ := h
  have h := h _ rfl
  refine pw_putR (c := 11) (k := 33) (f := 737) (v := some _) dc_Mod_init_244 fl_Mod_100 (Or.inr ⟨rfl, rfl, rfl, List.mem_of_getElem? (i := 986) (by decide +kernel)⟩) rfl rfl hs30 ?_
  refine pw_aload_n dc_Mod_init_247 rfl rfl ?_
  refine pw_bipush (v := 24) dc_Mod_init_248 (by decide) ?_
  refine PW.top (v' := .int (nI 24)) rfl ?_
  obtain ⟨hr61, hr62, h⟩ := h
  have h := h _ rfl
  refine pw_newa (k := 2) (N := 24) dc_Mod_init_250 (by unfold nk; decide) rfl (List.mem_of_getElem? (i := 131) (by decide +kernel)) (by decide) hr61 hr62 ?_
  obtain ⟨hs31, h⟩ := h
  have h := h _ rfl
  refine pw_putR (c := 11) (k := 34) (f := 738) (v := some _) dc_Mod_init_252 fl_Mod_103 (Or.inr ⟨rfl, rfl, rfl, List.mem_of_getElem? (i := 987) (by decide +kernel)⟩) rfl rfl hs31 ?_
  refine pw_aload_n dc_Mod_init_255 rfl rfl ?_
  refine pw_bipush (v := 8) dc_Mod_init_256 (by decide) ?_
  refine PW.top (v' := .int (nI 8)) rfl ?_
  obtain ⟨hr63, hr64, h⟩ := h
  have h := h _ rfl
  refine pw_newa (k := 2) (N := 8) dc_Mod_init_258 (by unfold nk; decide) rfl (List.mem_of_getElem? (i := 131) (by decide +kernel)) (by decide) hr63 hr64 ?_
  obtain ⟨hs32, h⟩ := h
  have h := h _ rfl
  refine pw_putR (c := 11) (k := 35) (f := 739) (v := some _) dc_Mod_init_260 fl_Mod_106 (Or.inr ⟨rfl, rfl, rfl, List.mem_of_getElem? (i := 988) (by decide +kernel)⟩) rfl rfl hs32 ?_
  refine pw_aload_n dc_Mod_init_263 rfl rfl ?_
  refine pw_bipush (v := 24) dc_Mod_init_264 (by decide) ?_
  refine PW.top (v' := .int (nI 24)) rfl ?_
  obtain ⟨hr65, hr66, h⟩ := h
  have h := h _ rfl
  refine pw_newa (k := 2) (N := 24) dc_Mod_init_266 (by unfold nk; decide) rfl (List.mem_of_getElem? (i := 131) (by decide +kernel)) (by decide) hr65 hr66 ?_
  obtain ⟨hs33, h⟩ := h
  have h := h _ rfl
  refine pw_putR (c := 11) (k := 36) (f := 740) (v := some _) dc_Mod_init_268 fl_Mod_109 (Or.inr ⟨rfl, rfl, rfl, List.mem_of_getElem? (i := 989) (by decide +kernel)⟩) rfl rfl hs33 ?_
  refine pw_aload_n dc_Mod_init_271 rfl rfl ?_
  refine pw_bipush (v := 24) dc_Mod_init_272 (by decide) ?_
  refine PW.top (v' := .int (nI 24)) rfl ?_
  obtain ⟨hr67, hr68, h⟩ := h
  have h := h _ rfl
  refine pw_newa (k := 2) (N := 24) dc_Mod_init_274 (by unfold nk; decide) rfl (List.mem_of_getElem? (i := 131) (by decide +kernel)) (by decide) hr67 hr68 ?_
  obtain ⟨hs34, h⟩ := h
  have h := h _ rfl
  refine pw_putR (c := 11) (k := 37) (f := 741) (v := some _) dc_Mod_init_276 fl_Mod_112 (Or.inr ⟨rfl, rfl, rfl, List.mem_of_getElem? (i := 990) (by decide +kernel)⟩) rfl rfl hs34 ?_
  refine pw_aload_n dc_Mod_init_279 rfl rfl ?_
  refine pw_sipush (v := 4096) dc_Mod_init_280 (by decide) ?_
  refine PW.top (v' := .int (nI 4096)) rfl ?_
  obtain ⟨hr69, hr70, h⟩ := h
  have h := h _ rfl
  refine pw_newa (k := 3) (N := 4096) dc_Mod_init_283 (by unfold nk; decide) rfl (List.mem_of_getElem? (i := 202) (by decide +kernel)) (by decide) hr69 hr70 ?_
  obtain ⟨hs35, h⟩ := h
  have h := h _ rfl
  refine pw_putR (c := 11) (k := 39) (f := 743) (v := some _) dc_Mod_init_285 fl_Mod_115 (Or.inr ⟨rfl, rfl, rfl, List.mem_of_getElem? (i := 992) (by decide +kernel)⟩) rfl rfl hs35 ?_
  refine pw_aload_n dc_Mod_init_288 rfl rfl ?_
  refine pw_bipush (v := 64) dc_Mod_init_289 (by decide) ?_
  refine PW.top (v' := .int (nI 64)) rfl ?_
  obtain ⟨hr71, hr72, h⟩ := h
  have h := h _ rfl
  refine pw_newa (k := 2) (N := 64) dc_Mod_init_291 (by unfold nk; decide) rfl (List.mem_of_getElem? (i := 131) (by decide +kernel)) (by decide) hr71 hr72 ?_
  obtain ⟨hs36, h⟩ := h
  have h := h _ rfl
  refine pw_putR (c := 11) (k := 42) (f := 746) (v := some _) dc_Mod_init_293 fl_Mod_118 (Or.inr ⟨rfl, rfl, rfl, List.mem_of_getElem? (i := 995) (by decide +kernel)⟩) rfl rfl hs36 ?_
  refine pw_aload_n dc_Mod_init_296 rfl rfl ?_
  refine pw_bipush (v := 64) dc_Mod_init_297 (by decide) ?_
  refine PW.top (v' := .int (nI 64)) rfl ?_
  obtain ⟨hr73, hr74, h⟩ := h
  have h := h _ rfl
  refine pw_newa (k := 2) (N := 64) dc_Mod_init_299 (by unfold nk; decide) rfl (List.mem_of_getElem? (i := 131) (by decide +kernel)) (by decide) hr73 hr74 ?_
  obtain ⟨hs37, h⟩ := h
  have h := h _ rfl
  refine pw_putR (c := 11) (k := 43) (f := 747) (v := some _) dc_Mod_init_301 fl_Mod_121 (Or.inr ⟨rfl, rfl, rfl, List.mem_of_getElem? (i := 996) (by decide +kernel)⟩) rfl rfl hs37 ?_
  refine pw_aload_n dc_Mod_init_304 rfl rfl ?_
  refine pw_bipush (v := 8) dc_Mod_init_305 (by decide) ?_
  refine PW.top (v' := .int (nI 8)) rfl ?_
  obtain ⟨hr75, hr76, h⟩ := h
  have h := h _ rfl
  refine pw_newa (k := 4) (N := 8) dc_Mod_init_307 (by unfold nk; decide) rfl (List.mem_of_getElem? (i := 1119) (by decide +kernel)) (by decide) hr75 hr76 ?_
  obtain ⟨hs38, h⟩ := h
  have h := h _ rfl
  refine pw_putR (c := 11) (k := 48) (f := 752) (v := some _) dc_Mod_init_309 fl_Mod_124 (Or.inr ⟨rfl, rfl, rfl, List.mem_of_getElem? (i := 1001) (by decide +kernel)⟩) rfl rfl hs38 ?_
  refine pw_aload_n dc_Mod_init_312 rfl rfl ?_
  refine pw_sipush (v := 256) dc_Mod_init_313 (by decide) ?_
  refine PW.top (v' := .int (nI 256)) rfl ?_
  obtain ⟨hr77, hr78, h⟩ := h
  have h := h _ rfl
  refine pw_newa (k := 3) (N := 256) dc_Mod_init_316 (by unfold nk; decide) rfl (List.mem_of_getElem? (i := 202) (by decide +kernel)) (by decide) hr77 hr78 ?_
  obtain ⟨hs39, h⟩ := h
  have h := h _ rfl
  refine pw_putR (c := 11) (k := 51) (f := 755) (v := some _) dc_Mod_init_318 fl_Mod_127 (Or.inr ⟨rfl, rfl, rfl, List.mem_of_getElem? (i := 1004) (by decide +kernel)⟩) rfl rfl hs39 ?_
  refine pw_aload_n dc_Mod_init_321 rfl rfl ?_
  refine pw_sipush (v := 512) dc_Mod_init_322 (by decide) ?_
  refine PW.top (v' := .int (nI 512)) rfl ?_
  obtain ⟨hr79, hr80, h⟩ := h
  have h := h _ rfl
  refine pw_newa (k := 2) (N := 512) dc_Mod_init_325 (by unfold nk; decide) rfl (List.mem_of_getElem? (i := 131) (by decide +kernel)) (by decide) hr79 hr80 ?_
  obtain ⟨hs40, h⟩ := h
  have h := h _ rfl
  refine pw_putR (c := 11) (k := 53) (f := 757) (v := some _) dc_Mod_init_327 fl_Mod_130 (Or.inr ⟨rfl, rfl, rfl, List.mem_of_getElem? (i := 1006) (by decide +kernel)⟩) rfl rfl hs40 ?_
  refine pw_aload_n dc_Mod_init_330 rfl rfl ?_
  refine pw_bipush (v := 12) dc_Mod_init_331 (by decide) ?_
  refine PW.top (v' := .int (nI 12)) rfl ?_
  obtain ⟨hr81, hr82, h⟩ := h
  have h := h _ rfl
  refine pw_newa (k := 4) (N := 12) dc_Mod_init_333 (by unfold nk; decide) rfl (List.mem_of_getElem? (i := 1119) (by decide +kernel)) (by decide) hr81 hr82 ?_
  obtain ⟨hs41, h⟩ := h
  have h := h _ rfl
  refine pw_putR (c := 11) (k := 54) (f := 758) (v := some _) dc_Mod_init_335 fl_Mod_133 (Or.inr ⟨rfl, rfl, rfl, List.mem_of_getElem? (i := 1007) (by decide +kernel)⟩) rfl rfl hs41 ?_
  refine pw_iconst (v := 0) dc_Mod_init_338 (by decide) ?_
  refine pw_istore_n dc_Mod_init_339 (by decide) ?_
  exact h
set_option maxRecDepth 20000 in
theorem e_Mod_init_340 {d : Nat} {σ : PH} {K : PO → PH → Prop} (x0 : Nat) (x1 : Int32) (h : (if 8 ≤ x1 then K (.inl none) σ else sh σ x0 = (1, 11) ∧ (∃ b1 : Nat, gR σ 709 x0 = some b1 ∧ (∃ n1 : Nat, sh σ b1 = (2, n1) ∧ vp_in x1 n1 ∧ (∀ σ1 : PH, σ1 = uI σ b1 (ix x1) 999 → sh σ1 x0 = (1, 11) ∧ (∃ b2 : Nat, gR σ1 731 x0 = some b2 ∧ (∃ n2 : Nat, sh σ1 b2 = (2, n2) ∧ vp_in x1 n2 ∧ (∀ σ2 : PH, σ2 = uI σ1 b2 (ix x1) 1 → PW (d + 1) M_Mod_init 340 [.ref x0, .int (x1 + 1)] [] σ2 K)))))))) : PW (d + 1) M_Mod_init 340 [.ref x0, .int x1] [] σ K := by
  refine pw_iload_n dc_Mod_init_340 rfl ?_
  refine pw_bipush (v := 8) dc_Mod_init_341 (by decide) ?_
  refine pw_icmp_ge (tgt := 368) dc_Mod_init_343 (by decide) (fun hc => ?_) (fun hc => ?_)
  · have h := ite_t h hc
    exact pw_vret dc_Mod_init_368 rfl h
  · have h := ite_f h hc
    refine pw_aload_n dc_Mod_init_346 rfl rfl ?_
    obtain ⟨hs1, h⟩ := h
    refine pw_getR (c := 11) (k := 5) (f := 709) dc_Mod_init_347 fl_Mod_25 rfl rfl hs1 ?_
    obtain ⟨b1, hb1, h⟩ := h
    refine PW.top (v' := .ref b1) (congrArg va_rf hb1) ?_
    refine pw_iload_n dc_Mod_init_350 rfl ?_
    refine pw_sipush (v := 999) dc_Mod_init_351 (by decide) ?_
    obtain ⟨n1, hs2, h⟩ := h
    obtain ⟨hi1, h⟩ := h
    have h := h _ rfl
    refine pw_iast dc_Mod_init_354 hs2 hi1 ?_
    refine pw_aload_n dc_Mod_init_355 rfl rfl ?_
    obtain ⟨hs3, h⟩ := h
    refine pw_getR (c := 11) (k := 27) (f := 731) dc_Mod_init_356 fl_Mod_82 rfl rfl hs3 ?_
    obtain ⟨b2, hb2, h⟩ := h
    refine PW.top (v' := .ref b2) (congrArg va_rf hb2) ?_
    refine pw_iload_n dc_Mod_init_359 rfl ?_
    refine pw_iconst (v := 1) dc_Mod_init_360 (by decide) ?_
    obtain ⟨n2, hs4, h⟩ := h
    obtain ⟨hi2, h⟩ := h
    have h := h _ rfl
    refine pw_iast dc_Mod_init_361 hs4 hi2 ?_
    refine pw_iincv (v := 1) dc_Mod_init_362 (by decide) rfl (by decide) ?_
    refine pw_goto (tgt := 340) dc_Mod_init_365 (by decide) ?_
    exact h
