theorem dc_Law_law_0 : decode M_Law_law.2.1 0 = .ok (.new 8, 3) := by decide +kernel
theorem dc_Law_law_3 : decode M_Law_law.2.1 3 = .ok (.dup, 1) := by decide +kernel
theorem dc_Law_law_4 : decode M_Law_law.2.1 4 = .ok (.invokespecial 58, 3) := by decide +kernel
theorem dc_Law_law_7 : decode M_Law_law.2.1 7 = .ok (.astore_n 1, 1) := by decide +kernel
theorem dc_Law_law_8 : decode M_Law_law.2.1 8 = .ok (.new 59, 3) := by decide +kernel
theorem dc_Law_law_11 : decode M_Law_law.2.1 11 = .ok (.dup, 1) := by decide +kernel
theorem dc_Law_law_12 : decode M_Law_law.2.1 12 = .ok (.invokespecial 61, 3) := by decide +kernel
theorem dc_Law_law_15 : decode M_Law_law.2.1 15 = .ok (.astore_n 2, 1) := by decide +kernel
theorem dc_Law_law_16 : decode M_Law_law.2.1 16 = .ok (.iconst 1, 1) := by decide +kernel
theorem dc_Law_law_17 : decode M_Law_law.2.1 17 = .ok (.newarray .long, 2) := by decide +kernel
theorem dc_Law_law_19 : decode M_Law_law.2.1 19 = .ok (.astore_n 3, 1) := by decide +kernel
theorem dc_Law_law_20 : decode M_Law_law.2.1 20 = .ok (.iconst 0, 1) := by decide +kernel
theorem dc_Law_law_21 : decode M_Law_law.2.1 21 = .ok (.istore 4, 2) := by decide +kernel
theorem dc_Law_law_23 : decode M_Law_law.2.1 23 = .ok (.iload 4, 2) := by decide +kernel
theorem dc_Law_law_25 : decode M_Law_law.2.1 25 = .ok (.aload_n 0, 1) := by decide +kernel
theorem dc_Law_law_26 : decode M_Law_law.2.1 26 = .ok (.arraylength, 1) := by decide +kernel
theorem dc_Law_law_27 : decode M_Law_law.2.1 27 = .ok (.iconst 4, 1) := by decide +kernel
theorem dc_Law_law_28 : decode M_Law_law.2.1 28 = .ok (.isub, 1) := by decide +kernel
theorem dc_Law_law_29 : decode M_Law_law.2.1 29 = .ok (.if_icmp .gt 953, 3) := by decide +kernel
theorem dc_Law_law_32 : decode M_Law_law.2.1 32 = .ok (.aload_n 0, 1) := by decide +kernel
theorem dc_Law_law_33 : decode M_Law_law.2.1 33 = .ok (.iload 4, 2) := by decide +kernel
theorem dc_Law_law_35 : decode M_Law_law.2.1 35 = .ok (.iaload, 1) := by decide +kernel
theorem dc_Law_law_36 : decode M_Law_law.2.1 36 = .ok (.bipush 15, 2) := by decide +kernel
theorem dc_Law_law_38 : decode M_Law_law.2.1 38 = .ok (.iand, 1) := by decide +kernel
theorem dc_Law_law_112 : decode M_Law_law.2.1 112 = .ok (.aload_n 1, 1) := by decide +kernel
theorem dc_Law_law_113 : decode M_Law_law.2.1 113 = .ok (.aload_n 0, 1) := by decide +kernel
theorem dc_Law_law_114 : decode M_Law_law.2.1 114 = .ok (.iload 4, 2) := by decide +kernel
theorem dc_Law_law_116 : decode M_Law_law.2.1 116 = .ok (.iconst 1, 1) := by decide +kernel
theorem dc_Law_law_117 : decode M_Law_law.2.1 117 = .ok (.iadd, 1) := by decide +kernel
theorem dc_Law_law_118 : decode M_Law_law.2.1 118 = .ok (.iaload, 1) := by decide +kernel
theorem dc_Law_law_119 : decode M_Law_law.2.1 119 = .ok (.aload_n 0, 1) := by decide +kernel
theorem dc_Law_law_120 : decode M_Law_law.2.1 120 = .ok (.iload 4, 2) := by decide +kernel
theorem dc_Law_law_122 : decode M_Law_law.2.1 122 = .ok (.iconst 2, 1) := by decide +kernel
theorem dc_Law_law_123 : decode M_Law_law.2.1 123 = .ok (.iadd, 1) := by decide +kernel
theorem dc_Law_law_124 : decode M_Law_law.2.1 124 = .ok (.iaload, 1) := by decide +kernel
theorem dc_Law_law_125 : decode M_Law_law.2.1 125 = .ok (.aload_n 3, 1) := by decide +kernel
theorem dc_Law_law_126 : decode M_Law_law.2.1 126 = .ok (.invokestatic 62, 3) := by decide +kernel
theorem dc_Law_law_129 : decode M_Law_law.2.1 129 = .ok (.istore 5, 2) := by decide +kernel
theorem dc_Law_law_131 : decode M_Law_law.2.1 131 = .ok (.aload_n 2, 1) := by decide +kernel
theorem dc_Law_law_132 : decode M_Law_law.2.1 132 = .ok (.aload_n 0, 1) := by decide +kernel
theorem dc_Law_law_133 : decode M_Law_law.2.1 133 = .ok (.iload 4, 2) := by decide +kernel
theorem dc_Law_law_135 : decode M_Law_law.2.1 135 = .ok (.iconst 1, 1) := by decide +kernel
theorem dc_Law_law_136 : decode M_Law_law.2.1 136 = .ok (.iadd, 1) := by decide +kernel
theorem dc_Law_law_137 : decode M_Law_law.2.1 137 = .ok (.iaload, 1) := by decide +kernel
theorem dc_Law_law_138 : decode M_Law_law.2.1 138 = .ok (.aload_n 0, 1) := by decide +kernel
theorem dc_Law_law_139 : decode M_Law_law.2.1 139 = .ok (.iload 4, 2) := by decide +kernel
theorem dc_Law_law_141 : decode M_Law_law.2.1 141 = .ok (.iconst 2, 1) := by decide +kernel
theorem dc_Law_law_142 : decode M_Law_law.2.1 142 = .ok (.iadd, 1) := by decide +kernel
theorem dc_Law_law_143 : decode M_Law_law.2.1 143 = .ok (.iaload, 1) := by decide +kernel
theorem dc_Law_law_144 : decode M_Law_law.2.1 144 = .ok (.invokevirtual 67, 3) := by decide +kernel
theorem dc_Law_law_147 : decode M_Law_law.2.1 147 = .ok (.istore 6, 2) := by decide +kernel
theorem dc_Law_law_149 : decode M_Law_law.2.1 149 = .ok (.aload_n 2, 1) := by decide +kernel
theorem dc_Law_law_150 : decode M_Law_law.2.1 150 = .ok (.invokevirtual 68, 3) := by decide +kernel
theorem dc_Law_law_153 : decode M_Law_law.2.1 153 = .ok (.iload 5, 2) := by decide +kernel
theorem dc_Law_law_155 : decode M_Law_law.2.1 155 = .ok (.if_icmp .eq 5, 3) := by decide +kernel
theorem dc_Law_law_158 : decode M_Law_law.2.1 158 = .ok (.iconst 0, 1) := by decide +kernel
theorem dc_Law_law_159 : decode M_Law_law.2.1 159 = .ok (.ireturn, 1) := by decide +kernel
theorem dc_Law_law_160 : decode M_Law_law.2.1 160 = .ok (.iload 5, 2) := by decide +kernel
theorem dc_Law_law_162 : decode M_Law_law.2.1 162 = .ok (.ifCond .ne 15, 3) := by decide +kernel
theorem dc_Law_law_165 : decode M_Law_law.2.1 165 = .ok (.aload_n 3, 1) := by decide +kernel
theorem dc_Law_law_166 : decode M_Law_law.2.1 166 = .ok (.iconst 0, 1) := by decide +kernel
theorem dc_Law_law_167 : decode M_Law_law.2.1 167 = .ok (.laload, 1) := by decide +kernel
theorem dc_Law_law_168 : decode M_Law_law.2.1 168 = .ok (.iload 6, 2) := by decide +kernel
theorem dc_Law_law_170 : decode M_Law_law.2.1 170 = .ok (.i2l, 1) := by decide +kernel
theorem dc_Law_law_171 : decode M_Law_law.2.1 171 = .ok (.lcmp, 1) := by decide +kernel
theorem dc_Law_law_172 : decode M_Law_law.2.1 172 = .ok (.ifCond .eq 5, 3) := by decide +kernel
theorem dc_Law_law_175 : decode M_Law_law.2.1 175 = .ok (.iconst 0, 1) := by decide +kernel
theorem dc_Law_law_176 : decode M_Law_law.2.1 176 = .ok (.ireturn, 1) := by decide +kernel
theorem dc_Law_law_177 : decode M_Law_law.2.1 177 = .ok (.goto 799, 3) := by decide +kernel
theorem dc_Law_law_180 : decode M_Law_law.2.1 180 = .ok (.aload_n 1, 1) := by decide +kernel
theorem dc_Law_law_181 : decode M_Law_law.2.1 181 = .ok (.aload_n 0, 1) := by decide +kernel
theorem dc_Law_law_182 : decode M_Law_law.2.1 182 = .ok (.iload 4, 2) := by decide +kernel
theorem dc_Law_law_184 : decode M_Law_law.2.1 184 = .ok (.iconst 1, 1) := by decide +kernel
theorem dc_Law_law_185 : decode M_Law_law.2.1 185 = .ok (.iadd, 1) := by decide +kernel
theorem dc_Law_law_186 : decode M_Law_law.2.1 186 = .ok (.iaload, 1) := by decide +kernel
theorem dc_Law_law_187 : decode M_Law_law.2.1 187 = .ok (.aload_n 3, 1) := by decide +kernel
theorem dc_Law_law_188 : decode M_Law_law.2.1 188 = .ok (.invokestatic 72, 3) := by decide +kernel
theorem dc_Law_law_191 : decode M_Law_law.2.1 191 = .ok (.istore 5, 2) := by decide +kernel
theorem dc_Law_law_193 : decode M_Law_law.2.1 193 = .ok (.aload_n 2, 1) := by decide +kernel
theorem dc_Law_law_194 : decode M_Law_law.2.1 194 = .ok (.aload_n 0, 1) := by decide +kernel
theorem dc_Law_law_195 : decode M_Law_law.2.1 195 = .ok (.iload 4, 2) := by decide +kernel
theorem dc_Law_law_197 : decode M_Law_law.2.1 197 = .ok (.iconst 1, 1) := by decide +kernel
theorem dc_Law_law_198 : decode M_Law_law.2.1 198 = .ok (.iadd, 1) := by decide +kernel
theorem dc_Law_law_199 : decode M_Law_law.2.1 199 = .ok (.iaload, 1) := by decide +kernel
theorem dc_Law_law_200 : decode M_Law_law.2.1 200 = .ok (.invokevirtual 75, 3) := by decide +kernel
theorem dc_Law_law_203 : decode M_Law_law.2.1 203 = .ok (.istore 6, 2) := by decide +kernel
theorem dc_Law_law_205 : decode M_Law_law.2.1 205 = .ok (.aload_n 2, 1) := by decide +kernel
theorem dc_Law_law_206 : decode M_Law_law.2.1 206 = .ok (.invokevirtual 68, 3) := by decide +kernel
theorem dc_Law_law_209 : decode M_Law_law.2.1 209 = .ok (.iload 5, 2) := by decide +kernel
theorem dc_Law_law_211 : decode M_Law_law.2.1 211 = .ok (.if_icmp .eq 5, 3) := by decide +kernel
theorem dc_Law_law_214 : decode M_Law_law.2.1 214 = .ok (.iconst 0, 1) := by decide +kernel
theorem dc_Law_law_215 : decode M_Law_law.2.1 215 = .ok (.ireturn, 1) := by decide +kernel
theorem dc_Law_law_216 : decode M_Law_law.2.1 216 = .ok (.iload 5, 2) := by decide +kernel
theorem dc_Law_law_218 : decode M_Law_law.2.1 218 = .ok (.ifCond .ne 15, 3) := by decide +kernel
theorem dc_Law_law_221 : decode M_Law_law.2.1 221 = .ok (.aload_n 3, 1) := by decide +kernel
theorem dc_Law_law_222 : decode M_Law_law.2.1 222 = .ok (.iconst 0, 1) := by decide +kernel
theorem dc_Law_law_223 : decode M_Law_law.2.1 223 = .ok (.laload, 1) := by decide +kernel
theorem dc_Law_law_224 : decode M_Law_law.2.1 224 = .ok (.iload 6, 2) := by decide +kernel
theorem dc_Law_law_226 : decode M_Law_law.2.1 226 = .ok (.i2l, 1) := by decide +kernel
theorem dc_Law_law_227 : decode M_Law_law.2.1 227 = .ok (.lcmp, 1) := by decide +kernel
theorem dc_Law_law_228 : decode M_Law_law.2.1 228 = .ok (.ifCond .eq 5, 3) := by decide +kernel
theorem dc_Law_law_231 : decode M_Law_law.2.1 231 = .ok (.iconst 0, 1) := by decide +kernel
theorem dc_Law_law_232 : decode M_Law_law.2.1 232 = .ok (.ireturn, 1) := by decide +kernel
theorem dc_Law_law_233 : decode M_Law_law.2.1 233 = .ok (.goto 743, 3) := by decide +kernel
theorem dc_Law_law_236 : decode M_Law_law.2.1 236 = .ok (.aload_n 1, 1) := by decide +kernel
theorem dc_Law_law_237 : decode M_Law_law.2.1 237 = .ok (.aload_n 0, 1) := by decide +kernel
theorem dc_Law_law_238 : decode M_Law_law.2.1 238 = .ok (.iload 4, 2) := by decide +kernel
theorem dc_Law_law_240 : decode M_Law_law.2.1 240 = .ok (.iconst 1, 1) := by decide +kernel
theorem dc_Law_law_241 : decode M_Law_law.2.1 241 = .ok (.iadd, 1) := by decide +kernel
theorem dc_Law_law_242 : decode M_Law_law.2.1 242 = .ok (.iaload, 1) := by decide +kernel
theorem dc_Law_law_243 : decode M_Law_law.2.1 243 = .ok (.aload_n 3, 1) := by decide +kernel
theorem dc_Law_law_244 : decode M_Law_law.2.1 244 = .ok (.invokestatic 76, 3) := by decide +kernel
theorem dc_Law_law_247 : decode M_Law_law.2.1 247 = .ok (.istore 5, 2) := by decide +kernel
theorem dc_Law_law_249 : decode M_Law_law.2.1 249 = .ok (.aload_n 2, 1) := by decide +kernel
theorem dc_Law_law_250 : decode M_Law_law.2.1 250 = .ok (.aload_n 0, 1) := by decide +kernel
theorem dc_Law_law_251 : decode M_Law_law.2.1 251 = .ok (.iload 4, 2) := by decide +kernel
theorem dc_Law_law_253 : decode M_Law_law.2.1 253 = .ok (.iconst 1, 1) := by decide +kernel
theorem dc_Law_law_254 : decode M_Law_law.2.1 254 = .ok (.iadd, 1) := by decide +kernel
theorem dc_Law_law_255 : decode M_Law_law.2.1 255 = .ok (.iaload, 1) := by decide +kernel
theorem dc_Law_law_256 : decode M_Law_law.2.1 256 = .ok (.invokevirtual 78, 3) := by decide +kernel
theorem dc_Law_law_259 : decode M_Law_law.2.1 259 = .ok (.istore 6, 2) := by decide +kernel
theorem dc_Law_law_261 : decode M_Law_law.2.1 261 = .ok (.aload_n 2, 1) := by decide +kernel
theorem dc_Law_law_262 : decode M_Law_law.2.1 262 = .ok (.invokevirtual 68, 3) := by decide +kernel
theorem dc_Law_law_265 : decode M_Law_law.2.1 265 = .ok (.iload 5, 2) := by decide +kernel
theorem dc_Law_law_267 : decode M_Law_law.2.1 267 = .ok (.if_icmp .eq 5, 3) := by decide +kernel
theorem dc_Law_law_270 : decode M_Law_law.2.1 270 = .ok (.iconst 0, 1) := by decide +kernel
theorem dc_Law_law_271 : decode M_Law_law.2.1 271 = .ok (.ireturn, 1) := by decide +kernel
theorem dc_Law_law_272 : decode M_Law_law.2.1 272 = .ok (.iload 5, 2) := by decide +kernel
theorem dc_Law_law_274 : decode M_Law_law.2.1 274 = .ok (.ifCond .ne 15, 3) := by decide +kernel
theorem dc_Law_law_277 : decode M_Law_law.2.1 277 = .ok (.aload_n 3, 1) := by decide +kernel
theorem dc_Law_law_278 : decode M_Law_law.2.1 278 = .ok (.iconst 0, 1) := by decide +kernel
theorem dc_Law_law_279 : decode M_Law_law.2.1 279 = .ok (.laload, 1) := by decide +kernel
theorem dc_Law_law_280 : decode M_Law_law.2.1 280 = .ok (.iload 6, 2) := by decide +kernel
theorem dc_Law_law_282 : decode M_Law_law.2.1 282 = .ok (.i2l, 1) := by decide +kernel
theorem dc_Law_law_283 : decode M_Law_law.2.1 283 = .ok (.lcmp, 1) := by decide +kernel
theorem dc_Law_law_284 : decode M_Law_law.2.1 284 = .ok (.ifCond .eq 5, 3) := by decide +kernel
theorem dc_Law_law_287 : decode M_Law_law.2.1 287 = .ok (.iconst 0, 1) := by decide +kernel
theorem dc_Law_law_288 : decode M_Law_law.2.1 288 = .ok (.ireturn, 1) := by decide +kernel
theorem dc_Law_law_289 : decode M_Law_law.2.1 289 = .ok (.goto 687, 3) := by decide +kernel
theorem dc_Law_law_292 : decode M_Law_law.2.1 292 = .ok (.aload_n 1, 1) := by decide +kernel
theorem dc_Law_law_293 : decode M_Law_law.2.1 293 = .ok (.aload_n 0, 1) := by decide +kernel
theorem dc_Law_law_294 : decode M_Law_law.2.1 294 = .ok (.iload 4, 2) := by decide +kernel
theorem dc_Law_law_296 : decode M_Law_law.2.1 296 = .ok (.iconst 1, 1) := by decide +kernel
theorem dc_Law_law_297 : decode M_Law_law.2.1 297 = .ok (.iadd, 1) := by decide +kernel
theorem dc_Law_law_298 : decode M_Law_law.2.1 298 = .ok (.iaload, 1) := by decide +kernel
theorem dc_Law_law_299 : decode M_Law_law.2.1 299 = .ok (.aload_n 0, 1) := by decide +kernel
theorem dc_Law_law_300 : decode M_Law_law.2.1 300 = .ok (.iload 4, 2) := by decide +kernel
theorem dc_Law_law_302 : decode M_Law_law.2.1 302 = .ok (.iconst 2, 1) := by decide +kernel
theorem dc_Law_law_303 : decode M_Law_law.2.1 303 = .ok (.iadd, 1) := by decide +kernel
theorem dc_Law_law_304 : decode M_Law_law.2.1 304 = .ok (.iaload, 1) := by decide +kernel
theorem dc_Law_law_305 : decode M_Law_law.2.1 305 = .ok (.aload_n 0, 1) := by decide +kernel
theorem dc_Law_law_306 : decode M_Law_law.2.1 306 = .ok (.iload 4, 2) := by decide +kernel
theorem dc_Law_law_308 : decode M_Law_law.2.1 308 = .ok (.iconst 3, 1) := by decide +kernel
theorem dc_Law_law_309 : decode M_Law_law.2.1 309 = .ok (.iadd, 1) := by decide +kernel
theorem dc_Law_law_310 : decode M_Law_law.2.1 310 = .ok (.iaload, 1) := by decide +kernel
theorem dc_Law_law_311 : decode M_Law_law.2.1 311 = .ok (.invokestatic 79, 3) := by decide +kernel
theorem dc_Law_law_314 : decode M_Law_law.2.1 314 = .ok (.istore 5, 2) := by decide +kernel
theorem dc_Law_law_316 : decode M_Law_law.2.1 316 = .ok (.aload_n 2, 1) := by decide +kernel
theorem dc_Law_law_317 : decode M_Law_law.2.1 317 = .ok (.aload_n 0, 1) := by decide +kernel
theorem dc_Law_law_318 : decode M_Law_law.2.1 318 = .ok (.iload 4, 2) := by decide +kernel
theorem dc_Law_law_320 : decode M_Law_law.2.1 320 = .ok (.iconst 1, 1) := by decide +kernel
theorem dc_Law_law_321 : decode M_Law_law.2.1 321 = .ok (.iadd, 1) := by decide +kernel
theorem dc_Law_law_322 : decode M_Law_law.2.1 322 = .ok (.iaload, 1) := by decide +kernel
theorem dc_Law_law_323 : decode M_Law_law.2.1 323 = .ok (.aload_n 0, 1) := by decide +kernel
theorem dc_Law_law_324 : decode M_Law_law.2.1 324 = .ok (.iload 4, 2) := by decide +kernel
theorem dc_Law_law_326 : decode M_Law_law.2.1 326 = .ok (.iconst 2, 1) := by decide +kernel
theorem dc_Law_law_327 : decode M_Law_law.2.1 327 = .ok (.iadd, 1) := by decide +kernel
theorem dc_Law_law_328 : decode M_Law_law.2.1 328 = .ok (.iaload, 1) := by decide +kernel
theorem dc_Law_law_329 : decode M_Law_law.2.1 329 = .ok (.aload_n 0, 1) := by decide +kernel
theorem dc_Law_law_330 : decode M_Law_law.2.1 330 = .ok (.iload 4, 2) := by decide +kernel
theorem dc_Law_law_332 : decode M_Law_law.2.1 332 = .ok (.iconst 3, 1) := by decide +kernel
theorem dc_Law_law_333 : decode M_Law_law.2.1 333 = .ok (.iadd, 1) := by decide +kernel
theorem dc_Law_law_334 : decode M_Law_law.2.1 334 = .ok (.iaload, 1) := by decide +kernel
theorem dc_Law_law_335 : decode M_Law_law.2.1 335 = .ok (.invokevirtual 82, 3) := by decide +kernel
theorem dc_Law_law_338 : decode M_Law_law.2.1 338 = .ok (.aload_n 2, 1) := by decide +kernel
theorem dc_Law_law_339 : decode M_Law_law.2.1 339 = .ok (.invokevirtual 68, 3) := by decide +kernel
theorem dc_Law_law_342 : decode M_Law_law.2.1 342 = .ok (.iload 5, 2) := by decide +kernel
theorem dc_Law_law_344 : decode M_Law_law.2.1 344 = .ok (.if_icmp .eq 5, 3) := by decide +kernel
theorem dc_Law_law_347 : decode M_Law_law.2.1 347 = .ok (.iconst 0, 1) := by decide +kernel
theorem dc_Law_law_348 : decode M_Law_law.2.1 348 = .ok (.ireturn, 1) := by decide +kernel
theorem dc_Law_law_349 : decode M_Law_law.2.1 349 = .ok (.goto 627, 3) := by decide +kernel
theorem dc_Law_law_352 : decode M_Law_law.2.1 352 = .ok (.aload_n 1, 1) := by decide +kernel
theorem dc_Law_law_353 : decode M_Law_law.2.1 353 = .ok (.aload_n 0, 1) := by decide +kernel
theorem dc_Law_law_354 : decode M_Law_law.2.1 354 = .ok (.iload 4, 2) := by decide +kernel
theorem dc_Law_law_356 : decode M_Law_law.2.1 356 = .ok (.iconst 1, 1) := by decide +kernel
theorem dc_Law_law_357 : decode M_Law_law.2.1 357 = .ok (.iadd, 1) := by decide +kernel
theorem dc_Law_law_358 : decode M_Law_law.2.1 358 = .ok (.iaload, 1) := by decide +kernel
theorem dc_Law_law_359 : decode M_Law_law.2.1 359 = .ok (.aload_n 0, 1) := by decide +kernel
theorem dc_Law_law_360 : decode M_Law_law.2.1 360 = .ok (.iload 4, 2) := by decide +kernel
theorem dc_Law_law_362 : decode M_Law_law.2.1 362 = .ok (.iconst 2, 1) := by decide +kernel
theorem dc_Law_law_363 : decode M_Law_law.2.1 363 = .ok (.iadd, 1) := by decide +kernel
theorem dc_Law_law_364 : decode M_Law_law.2.1 364 = .ok (.iaload, 1) := by decide +kernel
theorem dc_Law_law_365 : decode M_Law_law.2.1 365 = .ok (.aload_n 3, 1) := by decide +kernel
theorem dc_Law_law_366 : decode M_Law_law.2.1 366 = .ok (.invokestatic 83, 3) := by decide +kernel
theorem dc_Law_law_369 : decode M_Law_law.2.1 369 = .ok (.istore 5, 2) := by decide +kernel
theorem dc_Law_law_371 : decode M_Law_law.2.1 371 = .ok (.aload_n 2, 1) := by decide +kernel
theorem dc_Law_law_372 : decode M_Law_law.2.1 372 = .ok (.aload_n 0, 1) := by decide +kernel
theorem dc_Law_law_373 : decode M_Law_law.2.1 373 = .ok (.iload 4, 2) := by decide +kernel
theorem dc_Law_law_375 : decode M_Law_law.2.1 375 = .ok (.iconst 1, 1) := by decide +kernel
theorem dc_Law_law_376 : decode M_Law_law.2.1 376 = .ok (.iadd, 1) := by decide +kernel
theorem dc_Law_law_377 : decode M_Law_law.2.1 377 = .ok (.iaload, 1) := by decide +kernel
theorem dc_Law_law_378 : decode M_Law_law.2.1 378 = .ok (.aload_n 0, 1) := by decide +kernel
theorem dc_Law_law_379 : decode M_Law_law.2.1 379 = .ok (.iload 4, 2) := by decide +kernel
theorem dc_Law_law_381 : decode M_Law_law.2.1 381 = .ok (.iconst 2, 1) := by decide +kernel
theorem dc_Law_law_382 : decode M_Law_law.2.1 382 = .ok (.iadd, 1) := by decide +kernel
theorem dc_Law_law_383 : decode M_Law_law.2.1 383 = .ok (.iaload, 1) := by decide +kernel
theorem dc_Law_law_384 : decode M_Law_law.2.1 384 = .ok (.invokevirtual 85, 3) := by decide +kernel
theorem dc_Law_law_387 : decode M_Law_law.2.1 387 = .ok (.istore 6, 2) := by decide +kernel
theorem dc_Law_law_389 : decode M_Law_law.2.1 389 = .ok (.aload_n 2, 1) := by decide +kernel
theorem dc_Law_law_390 : decode M_Law_law.2.1 390 = .ok (.invokevirtual 68, 3) := by decide +kernel
theorem dc_Law_law_393 : decode M_Law_law.2.1 393 = .ok (.iload 5, 2) := by decide +kernel
theorem dc_Law_law_395 : decode M_Law_law.2.1 395 = .ok (.if_icmp .eq 5, 3) := by decide +kernel
theorem dc_Law_law_398 : decode M_Law_law.2.1 398 = .ok (.iconst 0, 1) := by decide +kernel
theorem dc_Law_law_399 : decode M_Law_law.2.1 399 = .ok (.ireturn, 1) := by decide +kernel
theorem dc_Law_law_400 : decode M_Law_law.2.1 400 = .ok (.iload 5, 2) := by decide +kernel
theorem dc_Law_law_402 : decode M_Law_law.2.1 402 = .ok (.ifCond .ne 15, 3) := by decide +kernel
theorem dc_Law_law_405 : decode M_Law_law.2.1 405 = .ok (.aload_n 3, 1) := by decide +kernel
theorem dc_Law_law_406 : decode M_Law_law.2.1 406 = .ok (.iconst 0, 1) := by decide +kernel
theorem dc_Law_law_407 : decode M_Law_law.2.1 407 = .ok (.laload, 1) := by decide +kernel
theorem dc_Law_law_408 : decode M_Law_law.2.1 408 = .ok (.iload 6, 2) := by decide +kernel
theorem dc_Law_law_410 : decode M_Law_law.2.1 410 = .ok (.i2l, 1) := by decide +kernel
theorem dc_Law_law_411 : decode M_Law_law.2.1 411 = .ok (.lcmp, 1) := by decide +kernel
theorem dc_Law_law_412 : decode M_Law_law.2.1 412 = .ok (.ifCond .eq 5, 3) := by decide +kernel
theorem dc_Law_law_415 : decode M_Law_law.2.1 415 = .ok (.iconst 0, 1) := by decide +kernel
theorem dc_Law_law_416 : decode M_Law_law.2.1 416 = .ok (.ireturn, 1) := by decide +kernel
theorem dc_Law_law_417 : decode M_Law_law.2.1 417 = .ok (.goto 559, 3) := by decide +kernel
theorem dc_Law_law_420 : decode M_Law_law.2.1 420 = .ok (.aload_n 1, 1) := by decide +kernel
theorem dc_Law_law_421 : decode M_Law_law.2.1 421 = .ok (.aload_n 0, 1) := by decide +kernel
theorem dc_Law_law_422 : decode M_Law_law.2.1 422 = .ok (.iload 4, 2) := by decide +kernel
theorem dc_Law_law_424 : decode M_Law_law.2.1 424 = .ok (.iconst 1, 1) := by decide +kernel
theorem dc_Law_law_425 : decode M_Law_law.2.1 425 = .ok (.iadd, 1) := by decide +kernel
theorem dc_Law_law_426 : decode M_Law_law.2.1 426 = .ok (.iaload, 1) := by decide +kernel
theorem dc_Law_law_427 : decode M_Law_law.2.1 427 = .ok (.aload_n 0, 1) := by decide +kernel
theorem dc_Law_law_428 : decode M_Law_law.2.1 428 = .ok (.iload 4, 2) := by decide +kernel
theorem dc_Law_law_430 : decode M_Law_law.2.1 430 = .ok (.iconst 2, 1) := by decide +kernel
theorem dc_Law_law_431 : decode M_Law_law.2.1 431 = .ok (.iadd, 1) := by decide +kernel
theorem dc_Law_law_432 : decode M_Law_law.2.1 432 = .ok (.iaload, 1) := by decide +kernel
theorem dc_Law_law_433 : decode M_Law_law.2.1 433 = .ok (.ifCond .eq 7, 3) := by decide +kernel
theorem dc_Law_law_436 : decode M_Law_law.2.1 436 = .ok (.iconst 1, 1) := by decide +kernel
theorem dc_Law_law_437 : decode M_Law_law.2.1 437 = .ok (.goto 4, 3) := by decide +kernel
theorem dc_Law_law_440 : decode M_Law_law.2.1 440 = .ok (.iconst 0, 1) := by decide +kernel
theorem dc_Law_law_441 : decode M_Law_law.2.1 441 = .ok (.aload_n 3, 1) := by decide +kernel
theorem dc_Law_law_442 : decode M_Law_law.2.1 442 = .ok (.invokestatic 86, 3) := by decide +kernel
theorem dc_Law_law_445 : decode M_Law_law.2.1 445 = .ok (.istore 5, 2) := by decide +kernel
theorem dc_Law_law_447 : decode M_Law_law.2.1 447 = .ok (.aload_n 2, 1) := by decide +kernel
theorem dc_Law_law_448 : decode M_Law_law.2.1 448 = .ok (.aload_n 0, 1) := by decide +kernel
theorem dc_Law_law_449 : decode M_Law_law.2.1 449 = .ok (.iload 4, 2) := by decide +kernel
theorem dc_Law_law_451 : decode M_Law_law.2.1 451 = .ok (.iconst 1, 1) := by decide +kernel
theorem dc_Law_law_452 : decode M_Law_law.2.1 452 = .ok (.iadd, 1) := by decide +kernel
theorem dc_Law_law_453 : decode M_Law_law.2.1 453 = .ok (.iaload, 1) := by decide +kernel
theorem dc_Law_law_454 : decode M_Law_law.2.1 454 = .ok (.aload_n 0, 1) := by decide +kernel
theorem dc_Law_law_455 : decode M_Law_law.2.1 455 = .ok (.iload 4, 2) := by decide +kernel
theorem dc_Law_law_457 : decode M_Law_law.2.1 457 = .ok (.iconst 2, 1) := by decide +kernel
theorem dc_Law_law_458 : decode M_Law_law.2.1 458 = .ok (.iadd, 1) := by decide +kernel
theorem dc_Law_law_459 : decode M_Law_law.2.1 459 = .ok (.iaload, 1) := by decide +kernel
theorem dc_Law_law_460 : decode M_Law_law.2.1 460 = .ok (.ifCond .eq 7, 3) := by decide +kernel
theorem dc_Law_law_463 : decode M_Law_law.2.1 463 = .ok (.iconst 1, 1) := by decide +kernel
theorem dc_Law_law_464 : decode M_Law_law.2.1 464 = .ok (.goto 4, 3) := by decide +kernel
theorem dc_Law_law_467 : decode M_Law_law.2.1 467 = .ok (.iconst 0, 1) := by decide +kernel
theorem dc_Law_law_468 : decode M_Law_law.2.1 468 = .ok (.invokevirtual 89, 3) := by decide +kernel
theorem dc_Law_law_471 : decode M_Law_law.2.1 471 = .ok (.istore 6, 2) := by decide +kernel
theorem dc_Law_law_473 : decode M_Law_law.2.1 473 = .ok (.aload_n 2, 1) := by decide +kernel
theorem dc_Law_law_474 : decode M_Law_law.2.1 474 = .ok (.invokevirtual 68, 3) := by decide +kernel
theorem dc_Law_law_477 : decode M_Law_law.2.1 477 = .ok (.iload 5, 2) := by decide +kernel
theorem dc_Law_law_479 : decode M_Law_law.2.1 479 = .ok (.if_icmp .eq 5, 3) := by decide +kernel
theorem dc_Law_law_482 : decode M_Law_law.2.1 482 = .ok (.iconst 0, 1) := by decide +kernel
theorem dc_Law_law_483 : decode M_Law_law.2.1 483 = .ok (.ireturn, 1) := by decide +kernel
theorem dc_Law_law_484 : decode M_Law_law.2.1 484 = .ok (.iload 5, 2) := by decide +kernel
theorem dc_Law_law_486 : decode M_Law_law.2.1 486 = .ok (.ifCond .ne 22, 3) := by decide +kernel
theorem dc_Law_law_489 : decode M_Law_law.2.1 489 = .ok (.aload_n 3, 1) := by decide +kernel
theorem dc_Law_law_490 : decode M_Law_law.2.1 490 = .ok (.iconst 0, 1) := by decide +kernel
theorem dc_Law_law_491 : decode M_Law_law.2.1 491 = .ok (.laload, 1) := by decide +kernel
theorem dc_Law_law_492 : decode M_Law_law.2.1 492 = .ok (.iload 6, 2) := by decide +kernel
theorem dc_Law_law_494 : decode M_Law_law.2.1 494 = .ok (.ifCond .eq 7, 3) := by decide +kernel
theorem dc_Law_law_497 : decode M_Law_law.2.1 497 = .ok (.lconst 1, 1) := by decide +kernel
theorem dc_Law_law_498 : decode M_Law_law.2.1 498 = .ok (.goto 4, 3) := by decide +kernel
theorem dc_Law_law_501 : decode M_Law_law.2.1 501 = .ok (.lconst 0, 1) := by decide +kernel
theorem dc_Law_law_502 : decode M_Law_law.2.1 502 = .ok (.lcmp, 1) := by decide +kernel
theorem dc_Law_law_503 : decode M_Law_law.2.1 503 = .ok (.ifCond .eq 5, 3) := by decide +kernel
theorem dc_Law_law_506 : decode M_Law_law.2.1 506 = .ok (.iconst 0, 1) := by decide +kernel
theorem dc_Law_law_507 : decode M_Law_law.2.1 507 = .ok (.ireturn, 1) := by decide +kernel
theorem dc_Law_law_508 : decode M_Law_law.2.1 508 = .ok (.goto 468, 3) := by decide +kernel
theorem dc_Law_law_511 : decode M_Law_law.2.1 511 = .ok (.aload_n 1, 1) := by decide +kernel
theorem dc_Law_law_512 : decode M_Law_law.2.1 512 = .ok (.aload_n 0, 1) := by decide +kernel
theorem dc_Law_law_513 : decode M_Law_law.2.1 513 = .ok (.iload 4, 2) := by decide +kernel
theorem dc_Law_law_515 : decode M_Law_law.2.1 515 = .ok (.iconst 1, 1) := by decide +kernel
theorem dc_Law_law_516 : decode M_Law_law.2.1 516 = .ok (.iadd, 1) := by decide +kernel
theorem dc_Law_law_517 : decode M_Law_law.2.1 517 = .ok (.iaload, 1) := by decide +kernel
theorem dc_Law_law_518 : decode M_Law_law.2.1 518 = .ok (.aload_n 3, 1) := by decide +kernel
theorem dc_Law_law_519 : decode M_Law_law.2.1 519 = .ok (.invokestatic 90, 3) := by decide +kernel
theorem dc_Law_law_522 : decode M_Law_law.2.1 522 = .ok (.istore 5, 2) := by decide +kernel
theorem dc_Law_law_524 : decode M_Law_law.2.1 524 = .ok (.aload_n 2, 1) := by decide +kernel
theorem dc_Law_law_525 : decode M_Law_law.2.1 525 = .ok (.aload_n 0, 1) := by decide +kernel
theorem dc_Law_law_526 : decode M_Law_law.2.1 526 = .ok (.iload 4, 2) := by decide +kernel
theorem dc_Law_law_528 : decode M_Law_law.2.1 528 = .ok (.iconst 1, 1) := by decide +kernel
theorem dc_Law_law_529 : decode M_Law_law.2.1 529 = .ok (.iadd, 1) := by decide +kernel
theorem dc_Law_law_530 : decode M_Law_law.2.1 530 = .ok (.iaload, 1) := by decide +kernel
theorem dc_Law_law_531 : decode M_Law_law.2.1 531 = .ok (.invokevirtual 92, 3) := by decide +kernel
theorem dc_Law_law_534 : decode M_Law_law.2.1 534 = .ok (.istore 6, 2) := by decide +kernel
theorem dc_Law_law_536 : decode M_Law_law.2.1 536 = .ok (.aload_n 2, 1) := by decide +kernel
theorem dc_Law_law_537 : decode M_Law_law.2.1 537 = .ok (.invokevirtual 68, 3) := by decide +kernel
theorem dc_Law_law_540 : decode M_Law_law.2.1 540 = .ok (.iload 5, 2) := by decide +kernel
theorem dc_Law_law_542 : decode M_Law_law.2.1 542 = .ok (.if_icmp .eq 5, 3) := by decide +kernel
theorem dc_Law_law_545 : decode M_Law_law.2.1 545 = .ok (.iconst 0, 1) := by decide +kernel
theorem dc_Law_law_546 : decode M_Law_law.2.1 546 = .ok (.ireturn, 1) := by decide +kernel
theorem dc_Law_law_547 : decode M_Law_law.2.1 547 = .ok (.iload 5, 2) := by decide +kernel
theorem dc_Law_law_549 : decode M_Law_law.2.1 549 = .ok (.ifCond .ne 15, 3) := by decide +kernel
theorem dc_Law_law_552 : decode M_Law_law.2.1 552 = .ok (.aload_n 3, 1) := by decide +kernel
theorem dc_Law_law_553 : decode M_Law_law.2.1 553 = .ok (.iconst 0, 1) := by decide +kernel
theorem dc_Law_law_554 : decode M_Law_law.2.1 554 = .ok (.laload, 1) := by decide +kernel
theorem dc_Law_law_555 : decode M_Law_law.2.1 555 = .ok (.iload 6, 2) := by decide +kernel
theorem dc_Law_law_557 : decode M_Law_law.2.1 557 = .ok (.i2l, 1) := by decide +kernel
theorem dc_Law_law_558 : decode M_Law_law.2.1 558 = .ok (.lcmp, 1) := by decide +kernel
theorem dc_Law_law_559 : decode M_Law_law.2.1 559 = .ok (.ifCond .eq 5, 3) := by decide +kernel
theorem dc_Law_law_562 : decode M_Law_law.2.1 562 = .ok (.iconst 0, 1) := by decide +kernel
theorem dc_Law_law_563 : decode M_Law_law.2.1 563 = .ok (.ireturn, 1) := by decide +kernel
theorem dc_Law_law_564 : decode M_Law_law.2.1 564 = .ok (.goto 412, 3) := by decide +kernel
theorem dc_Law_law_567 : decode M_Law_law.2.1 567 = .ok (.aload_n 1, 1) := by decide +kernel
theorem dc_Law_law_568 : decode M_Law_law.2.1 568 = .ok (.aload_n 0, 1) := by decide +kernel
theorem dc_Law_law_569 : decode M_Law_law.2.1 569 = .ok (.iload 4, 2) := by decide +kernel
theorem dc_Law_law_571 : decode M_Law_law.2.1 571 = .ok (.iconst 1, 1) := by decide +kernel
theorem dc_Law_law_572 : decode M_Law_law.2.1 572 = .ok (.iadd, 1) := by decide +kernel
theorem dc_Law_law_573 : decode M_Law_law.2.1 573 = .ok (.iaload, 1) := by decide +kernel
theorem dc_Law_law_574 : decode M_Law_law.2.1 574 = .ok (.aload_n 0, 1) := by decide +kernel
theorem dc_Law_law_575 : decode M_Law_law.2.1 575 = .ok (.iload 4, 2) := by decide +kernel
theorem dc_Law_law_577 : decode M_Law_law.2.1 577 = .ok (.iconst 2, 1) := by decide +kernel
theorem dc_Law_law_578 : decode M_Law_law.2.1 578 = .ok (.iadd, 1) := by decide +kernel
theorem dc_Law_law_579 : decode M_Law_law.2.1 579 = .ok (.iaload, 1) := by decide +kernel
theorem dc_Law_law_580 : decode M_Law_law.2.1 580 = .ok (.aload_n 3, 1) := by decide +kernel
theorem dc_Law_law_581 : decode M_Law_law.2.1 581 = .ok (.invokestatic 93, 3) := by decide +kernel
theorem dc_Law_law_584 : decode M_Law_law.2.1 584 = .ok (.istore 5, 2) := by decide +kernel
theorem dc_Law_law_586 : decode M_Law_law.2.1 586 = .ok (.aload_n 2, 1) := by decide +kernel
theorem dc_Law_law_587 : decode M_Law_law.2.1 587 = .ok (.aload_n 0, 1) := by decide +kernel
theorem dc_Law_law_588 : decode M_Law_law.2.1 588 = .ok (.iload 4, 2) := by decide +kernel
theorem dc_Law_law_590 : decode M_Law_law.2.1 590 = .ok (.iconst 1, 1) := by decide +kernel
theorem dc_Law_law_591 : decode M_Law_law.2.1 591 = .ok (.iadd, 1) := by decide +kernel
theorem dc_Law_law_592 : decode M_Law_law.2.1 592 = .ok (.iaload, 1) := by decide +kernel
theorem dc_Law_law_593 : decode M_Law_law.2.1 593 = .ok (.aload_n 0, 1) := by decide +kernel
theorem dc_Law_law_594 : decode M_Law_law.2.1 594 = .ok (.iload 4, 2) := by decide +kernel
theorem dc_Law_law_596 : decode M_Law_law.2.1 596 = .ok (.iconst 2, 1) := by decide +kernel
theorem dc_Law_law_597 : decode M_Law_law.2.1 597 = .ok (.iadd, 1) := by decide +kernel
theorem dc_Law_law_598 : decode M_Law_law.2.1 598 = .ok (.iaload, 1) := by decide +kernel
theorem dc_Law_law_599 : decode M_Law_law.2.1 599 = .ok (.invokevirtual 95, 3) := by decide +kernel
theorem dc_Law_law_602 : decode M_Law_law.2.1 602 = .ok (.istore 6, 2) := by decide +kernel
theorem dc_Law_law_604 : decode M_Law_law.2.1 604 = .ok (.aload_n 2, 1) := by decide +kernel
theorem dc_Law_law_605 : decode M_Law_law.2.1 605 = .ok (.invokevirtual 68, 3) := by decide +kernel
theorem dc_Law_law_608 : decode M_Law_law.2.1 608 = .ok (.iload 5, 2) := by decide +kernel
theorem dc_Law_law_610 : decode M_Law_law.2.1 610 = .ok (.if_icmp .eq 5, 3) := by decide +kernel
theorem dc_Law_law_613 : decode M_Law_law.2.1 613 = .ok (.iconst 0, 1) := by decide +kernel
theorem dc_Law_law_614 : decode M_Law_law.2.1 614 = .ok (.ireturn, 1) := by decide +kernel
theorem dc_Law_law_615 : decode M_Law_law.2.1 615 = .ok (.iload 5, 2) := by decide +kernel
theorem dc_Law_law_617 : decode M_Law_law.2.1 617 = .ok (.ifCond .ne 22, 3) := by decide +kernel
theorem dc_Law_law_620 : decode M_Law_law.2.1 620 = .ok (.aload_n 3, 1) := by decide +kernel
theorem dc_Law_law_621 : decode M_Law_law.2.1 621 = .ok (.iconst 0, 1) := by decide +kernel
theorem dc_Law_law_622 : decode M_Law_law.2.1 622 = .ok (.laload, 1) := by decide +kernel
theorem dc_Law_law_623 : decode M_Law_law.2.1 623 = .ok (.iload 6, 2) := by decide +kernel
theorem dc_Law_law_625 : decode M_Law_law.2.1 625 = .ok (.ifCond .eq 7, 3) := by decide +kernel
theorem dc_Law_law_628 : decode M_Law_law.2.1 628 = .ok (.lconst 1, 1) := by decide +kernel
theorem dc_Law_law_629 : decode M_Law_law.2.1 629 = .ok (.goto 4, 3) := by decide +kernel
theorem dc_Law_law_632 : decode M_Law_law.2.1 632 = .ok (.lconst 0, 1) := by decide +kernel
theorem dc_Law_law_633 : decode M_Law_law.2.1 633 = .ok (.lcmp, 1) := by decide +kernel
theorem dc_Law_law_634 : decode M_Law_law.2.1 634 = .ok (.ifCond .eq 5, 3) := by decide +kernel
theorem dc_Law_law_637 : decode M_Law_law.2.1 637 = .ok (.iconst 0, 1) := by decide +kernel
theorem dc_Law_law_638 : decode M_Law_law.2.1 638 = .ok (.ireturn, 1) := by decide +kernel
theorem dc_Law_law_639 : decode M_Law_law.2.1 639 = .ok (.goto 337, 3) := by decide +kernel
theorem dc_Law_law_642 : decode M_Law_law.2.1 642 = .ok (.aload_n 1, 1) := by decide +kernel
theorem dc_Law_law_643 : decode M_Law_law.2.1 643 = .ok (.aload_n 0, 1) := by decide +kernel
theorem dc_Law_law_644 : decode M_Law_law.2.1 644 = .ok (.iload 4, 2) := by decide +kernel
theorem dc_Law_law_646 : decode M_Law_law.2.1 646 = .ok (.iconst 1, 1) := by decide +kernel
theorem dc_Law_law_647 : decode M_Law_law.2.1 647 = .ok (.iadd, 1) := by decide +kernel
theorem dc_Law_law_648 : decode M_Law_law.2.1 648 = .ok (.iaload, 1) := by decide +kernel
theorem dc_Law_law_649 : decode M_Law_law.2.1 649 = .ok (.aload_n 0, 1) := by decide +kernel
theorem dc_Law_law_650 : decode M_Law_law.2.1 650 = .ok (.iload 4, 2) := by decide +kernel
theorem dc_Law_law_652 : decode M_Law_law.2.1 652 = .ok (.iconst 2, 1) := by decide +kernel
theorem dc_Law_law_653 : decode M_Law_law.2.1 653 = .ok (.iadd, 1) := by decide +kernel
theorem dc_Law_law_654 : decode M_Law_law.2.1 654 = .ok (.iaload, 1) := by decide +kernel
theorem dc_Law_law_655 : decode M_Law_law.2.1 655 = .ok (.aload_n 3, 1) := by decide +kernel
theorem dc_Law_law_656 : decode M_Law_law.2.1 656 = .ok (.invokestatic 96, 3) := by decide +kernel
theorem dc_Law_law_659 : decode M_Law_law.2.1 659 = .ok (.istore 5, 2) := by decide +kernel
theorem dc_Law_law_661 : decode M_Law_law.2.1 661 = .ok (.aload_n 2, 1) := by decide +kernel
theorem dc_Law_law_662 : decode M_Law_law.2.1 662 = .ok (.aload_n 0, 1) := by decide +kernel
theorem dc_Law_law_663 : decode M_Law_law.2.1 663 = .ok (.iload 4, 2) := by decide +kernel
theorem dc_Law_law_665 : decode M_Law_law.2.1 665 = .ok (.iconst 1, 1) := by decide +kernel
theorem dc_Law_law_666 : decode M_Law_law.2.1 666 = .ok (.iadd, 1) := by decide +kernel
theorem dc_Law_law_667 : decode M_Law_law.2.1 667 = .ok (.iaload, 1) := by decide +kernel
theorem dc_Law_law_668 : decode M_Law_law.2.1 668 = .ok (.aload_n 0, 1) := by decide +kernel
theorem dc_Law_law_669 : decode M_Law_law.2.1 669 = .ok (.iload 4, 2) := by decide +kernel
theorem dc_Law_law_671 : decode M_Law_law.2.1 671 = .ok (.iconst 2, 1) := by decide +kernel
theorem dc_Law_law_672 : decode M_Law_law.2.1 672 = .ok (.iadd, 1) := by decide +kernel
theorem dc_Law_law_673 : decode M_Law_law.2.1 673 = .ok (.iaload, 1) := by decide +kernel
theorem dc_Law_law_674 : decode M_Law_law.2.1 674 = .ok (.invokevirtual 98, 3) := by decide +kernel
theorem dc_Law_law_677 : decode M_Law_law.2.1 677 = .ok (.istore 6, 2) := by decide +kernel
theorem dc_Law_law_679 : decode M_Law_law.2.1 679 = .ok (.aload_n 2, 1) := by decide +kernel
theorem dc_Law_law_680 : decode M_Law_law.2.1 680 = .ok (.invokevirtual 68, 3) := by decide +kernel
theorem dc_Law_law_683 : decode M_Law_law.2.1 683 = .ok (.iload 5, 2) := by decide +kernel
theorem dc_Law_law_685 : decode M_Law_law.2.1 685 = .ok (.if_icmp .eq 5, 3) := by decide +kernel
theorem dc_Law_law_688 : decode M_Law_law.2.1 688 = .ok (.iconst 0, 1) := by decide +kernel
theorem dc_Law_law_689 : decode M_Law_law.2.1 689 = .ok (.ireturn, 1) := by decide +kernel
theorem dc_Law_law_690 : decode M_Law_law.2.1 690 = .ok (.iload 5, 2) := by decide +kernel
theorem dc_Law_law_692 : decode M_Law_law.2.1 692 = .ok (.ifCond .ne 15, 3) := by decide +kernel
theorem dc_Law_law_695 : decode M_Law_law.2.1 695 = .ok (.aload_n 3, 1) := by decide +kernel
theorem dc_Law_law_696 : decode M_Law_law.2.1 696 = .ok (.iconst 0, 1) := by decide +kernel
theorem dc_Law_law_697 : decode M_Law_law.2.1 697 = .ok (.laload, 1) := by decide +kernel
theorem dc_Law_law_698 : decode M_Law_law.2.1 698 = .ok (.iload 6, 2) := by decide +kernel
theorem dc_Law_law_700 : decode M_Law_law.2.1 700 = .ok (.i2l, 1) := by decide +kernel
theorem dc_Law_law_701 : decode M_Law_law.2.1 701 = .ok (.lcmp, 1) := by decide +kernel
theorem dc_Law_law_702 : decode M_Law_law.2.1 702 = .ok (.ifCond .eq 5, 3) := by decide +kernel
theorem dc_Law_law_705 : decode M_Law_law.2.1 705 = .ok (.iconst 0, 1) := by decide +kernel
theorem dc_Law_law_706 : decode M_Law_law.2.1 706 = .ok (.ireturn, 1) := by decide +kernel
theorem dc_Law_law_707 : decode M_Law_law.2.1 707 = .ok (.goto 269, 3) := by decide +kernel
theorem dc_Law_law_710 : decode M_Law_law.2.1 710 = .ok (.aload_n 1, 1) := by decide +kernel
theorem dc_Law_law_711 : decode M_Law_law.2.1 711 = .ok (.aload_n 0, 1) := by decide +kernel
theorem dc_Law_law_712 : decode M_Law_law.2.1 712 = .ok (.iload 4, 2) := by decide +kernel
theorem dc_Law_law_714 : decode M_Law_law.2.1 714 = .ok (.iconst 1, 1) := by decide +kernel
theorem dc_Law_law_715 : decode M_Law_law.2.1 715 = .ok (.iadd, 1) := by decide +kernel
theorem dc_Law_law_716 : decode M_Law_law.2.1 716 = .ok (.iaload, 1) := by decide +kernel
theorem dc_Law_law_717 : decode M_Law_law.2.1 717 = .ok (.aload_n 0, 1) := by decide +kernel
theorem dc_Law_law_718 : decode M_Law_law.2.1 718 = .ok (.iload 4, 2) := by decide +kernel
theorem dc_Law_law_720 : decode M_Law_law.2.1 720 = .ok (.iconst 2, 1) := by decide +kernel
theorem dc_Law_law_721 : decode M_Law_law.2.1 721 = .ok (.iadd, 1) := by decide +kernel
theorem dc_Law_law_722 : decode M_Law_law.2.1 722 = .ok (.iaload, 1) := by decide +kernel
theorem dc_Law_law_723 : decode M_Law_law.2.1 723 = .ok (.aload_n 3, 1) := by decide +kernel
theorem dc_Law_law_724 : decode M_Law_law.2.1 724 = .ok (.invokestatic 99, 3) := by decide +kernel
theorem dc_Law_law_727 : decode M_Law_law.2.1 727 = .ok (.istore 5, 2) := by decide +kernel
theorem dc_Law_law_729 : decode M_Law_law.2.1 729 = .ok (.aload_n 2, 1) := by decide +kernel
theorem dc_Law_law_730 : decode M_Law_law.2.1 730 = .ok (.aload_n 0, 1) := by decide +kernel
theorem dc_Law_law_731 : decode M_Law_law.2.1 731 = .ok (.iload 4, 2) := by decide +kernel
theorem dc_Law_law_733 : decode M_Law_law.2.1 733 = .ok (.iconst 1, 1) := by decide +kernel
theorem dc_Law_law_734 : decode M_Law_law.2.1 734 = .ok (.iadd, 1) := by decide +kernel
theorem dc_Law_law_735 : decode M_Law_law.2.1 735 = .ok (.iaload, 1) := by decide +kernel
theorem dc_Law_law_736 : decode M_Law_law.2.1 736 = .ok (.aload_n 0, 1) := by decide +kernel
theorem dc_Law_law_737 : decode M_Law_law.2.1 737 = .ok (.iload 4, 2) := by decide +kernel
theorem dc_Law_law_739 : decode M_Law_law.2.1 739 = .ok (.iconst 2, 1) := by decide +kernel
theorem dc_Law_law_740 : decode M_Law_law.2.1 740 = .ok (.iadd, 1) := by decide +kernel
theorem dc_Law_law_741 : decode M_Law_law.2.1 741 = .ok (.iaload, 1) := by decide +kernel
theorem dc_Law_law_742 : decode M_Law_law.2.1 742 = .ok (.invokevirtual 101, 3) := by decide +kernel
theorem dc_Law_law_745 : decode M_Law_law.2.1 745 = .ok (.istore 6, 2) := by decide +kernel
theorem dc_Law_law_747 : decode M_Law_law.2.1 747 = .ok (.aload_n 2, 1) := by decide +kernel
theorem dc_Law_law_748 : decode M_Law_law.2.1 748 = .ok (.invokevirtual 68, 3) := by decide +kernel
theorem dc_Law_law_751 : decode M_Law_law.2.1 751 = .ok (.iload 5, 2) := by decide +kernel
theorem dc_Law_law_753 : decode M_Law_law.2.1 753 = .ok (.if_icmp .eq 5, 3) := by decide +kernel
theorem dc_Law_law_756 : decode M_Law_law.2.1 756 = .ok (.iconst 0, 1) := by decide +kernel
theorem dc_Law_law_757 : decode M_Law_law.2.1 757 = .ok (.ireturn, 1) := by decide +kernel
theorem dc_Law_law_758 : decode M_Law_law.2.1 758 = .ok (.iload 5, 2) := by decide +kernel
theorem dc_Law_law_760 : decode M_Law_law.2.1 760 = .ok (.ifCond .ne 15, 3) := by decide +kernel
theorem dc_Law_law_763 : decode M_Law_law.2.1 763 = .ok (.aload_n 3, 1) := by decide +kernel
theorem dc_Law_law_764 : decode M_Law_law.2.1 764 = .ok (.iconst 0, 1) := by decide +kernel
theorem dc_Law_law_765 : decode M_Law_law.2.1 765 = .ok (.laload, 1) := by decide +kernel
theorem dc_Law_law_766 : decode M_Law_law.2.1 766 = .ok (.iload 6, 2) := by decide +kernel
theorem dc_Law_law_768 : decode M_Law_law.2.1 768 = .ok (.i2l, 1) := by decide +kernel
theorem dc_Law_law_769 : decode M_Law_law.2.1 769 = .ok (.lcmp, 1) := by decide +kernel
theorem dc_Law_law_770 : decode M_Law_law.2.1 770 = .ok (.ifCond .eq 5, 3) := by decide +kernel
theorem dc_Law_law_773 : decode M_Law_law.2.1 773 = .ok (.iconst 0, 1) := by decide +kernel
theorem dc_Law_law_774 : decode M_Law_law.2.1 774 = .ok (.ireturn, 1) := by decide +kernel
theorem dc_Law_law_775 : decode M_Law_law.2.1 775 = .ok (.goto 201, 3) := by decide +kernel
theorem dc_Law_law_778 : decode M_Law_law.2.1 778 = .ok (.aload_n 1, 1) := by decide +kernel
theorem dc_Law_law_779 : decode M_Law_law.2.1 779 = .ok (.aload_n 0, 1) := by decide +kernel
theorem dc_Law_law_780 : decode M_Law_law.2.1 780 = .ok (.iload 4, 2) := by decide +kernel
theorem dc_Law_law_782 : decode M_Law_law.2.1 782 = .ok (.iconst 1, 1) := by decide +kernel
theorem dc_Law_law_783 : decode M_Law_law.2.1 783 = .ok (.iadd, 1) := by decide +kernel
theorem dc_Law_law_784 : decode M_Law_law.2.1 784 = .ok (.iaload, 1) := by decide +kernel
theorem dc_Law_law_785 : decode M_Law_law.2.1 785 = .ok (.aload_n 3, 1) := by decide +kernel
theorem dc_Law_law_786 : decode M_Law_law.2.1 786 = .ok (.invokestatic 102, 3) := by decide +kernel
theorem dc_Law_law_789 : decode M_Law_law.2.1 789 = .ok (.istore 5, 2) := by decide +kernel
theorem dc_Law_law_791 : decode M_Law_law.2.1 791 = .ok (.aload_n 2, 1) := by decide +kernel
theorem dc_Law_law_792 : decode M_Law_law.2.1 792 = .ok (.aload_n 0, 1) := by decide +kernel
theorem dc_Law_law_793 : decode M_Law_law.2.1 793 = .ok (.iload 4, 2) := by decide +kernel
theorem dc_Law_law_795 : decode M_Law_law.2.1 795 = .ok (.iconst 1, 1) := by decide +kernel
theorem dc_Law_law_796 : decode M_Law_law.2.1 796 = .ok (.iadd, 1) := by decide +kernel
theorem dc_Law_law_797 : decode M_Law_law.2.1 797 = .ok (.iaload, 1) := by decide +kernel
theorem dc_Law_law_798 : decode M_Law_law.2.1 798 = .ok (.invokevirtual 104, 3) := by decide +kernel
theorem dc_Law_law_801 : decode M_Law_law.2.1 801 = .ok (.istore 6, 2) := by decide +kernel
theorem dc_Law_law_803 : decode M_Law_law.2.1 803 = .ok (.aload_n 2, 1) := by decide +kernel
theorem dc_Law_law_804 : decode M_Law_law.2.1 804 = .ok (.invokevirtual 68, 3) := by decide +kernel
theorem dc_Law_law_807 : decode M_Law_law.2.1 807 = .ok (.iload 5, 2) := by decide +kernel
theorem dc_Law_law_809 : decode M_Law_law.2.1 809 = .ok (.if_icmp .eq 5, 3) := by decide +kernel
theorem dc_Law_law_812 : decode M_Law_law.2.1 812 = .ok (.iconst 0, 1) := by decide +kernel
theorem dc_Law_law_813 : decode M_Law_law.2.1 813 = .ok (.ireturn, 1) := by decide +kernel
theorem dc_Law_law_814 : decode M_Law_law.2.1 814 = .ok (.iload 5, 2) := by decide +kernel
theorem dc_Law_law_816 : decode M_Law_law.2.1 816 = .ok (.ifCond .ne 15, 3) := by decide +kernel
theorem dc_Law_law_819 : decode M_Law_law.2.1 819 = .ok (.aload_n 3, 1) := by decide +kernel
theorem dc_Law_law_820 : decode M_Law_law.2.1 820 = .ok (.iconst 0, 1) := by decide +kernel
theorem dc_Law_law_821 : decode M_Law_law.2.1 821 = .ok (.laload, 1) := by decide +kernel
theorem dc_Law_law_822 : decode M_Law_law.2.1 822 = .ok (.iload 6, 2) := by decide +kernel
theorem dc_Law_law_824 : decode M_Law_law.2.1 824 = .ok (.i2l, 1) := by decide +kernel
theorem dc_Law_law_825 : decode M_Law_law.2.1 825 = .ok (.lcmp, 1) := by decide +kernel
theorem dc_Law_law_826 : decode M_Law_law.2.1 826 = .ok (.ifCond .eq 5, 3) := by decide +kernel
theorem dc_Law_law_829 : decode M_Law_law.2.1 829 = .ok (.iconst 0, 1) := by decide +kernel
theorem dc_Law_law_830 : decode M_Law_law.2.1 830 = .ok (.ireturn, 1) := by decide +kernel
theorem dc_Law_law_831 : decode M_Law_law.2.1 831 = .ok (.goto 145, 3) := by decide +kernel
theorem dc_Law_law_834 : decode M_Law_law.2.1 834 = .ok (.aload_n 1, 1) := by decide +kernel
theorem dc_Law_law_835 : decode M_Law_law.2.1 835 = .ok (.aload_n 0, 1) := by decide +kernel
theorem dc_Law_law_836 : decode M_Law_law.2.1 836 = .ok (.iload 4, 2) := by decide +kernel
theorem dc_Law_law_838 : decode M_Law_law.2.1 838 = .ok (.iconst 1, 1) := by decide +kernel
theorem dc_Law_law_839 : decode M_Law_law.2.1 839 = .ok (.iadd, 1) := by decide +kernel
theorem dc_Law_law_840 : decode M_Law_law.2.1 840 = .ok (.iaload, 1) := by decide +kernel
theorem dc_Law_law_841 : decode M_Law_law.2.1 841 = .ok (.aload_n 0, 1) := by decide +kernel
theorem dc_Law_law_842 : decode M_Law_law.2.1 842 = .ok (.iload 4, 2) := by decide +kernel
theorem dc_Law_law_844 : decode M_Law_law.2.1 844 = .ok (.iconst 2, 1) := by decide +kernel
theorem dc_Law_law_845 : decode M_Law_law.2.1 845 = .ok (.iadd, 1) := by decide +kernel
theorem dc_Law_law_846 : decode M_Law_law.2.1 846 = .ok (.iaload, 1) := by decide +kernel
theorem dc_Law_law_847 : decode M_Law_law.2.1 847 = .ok (.i2c, 1) := by decide +kernel
theorem dc_Law_law_848 : decode M_Law_law.2.1 848 = .ok (.invokestatic 105, 3) := by decide +kernel
theorem dc_Law_law_851 : decode M_Law_law.2.1 851 = .ok (.istore 5, 2) := by decide +kernel
theorem dc_Law_law_853 : decode M_Law_law.2.1 853 = .ok (.aload_n 2, 1) := by decide +kernel
theorem dc_Law_law_854 : decode M_Law_law.2.1 854 = .ok (.aload_n 0, 1) := by decide +kernel
theorem dc_Law_law_855 : decode M_Law_law.2.1 855 = .ok (.iload 4, 2) := by decide +kernel
theorem dc_Law_law_857 : decode M_Law_law.2.1 857 = .ok (.iconst 1, 1) := by decide +kernel
theorem dc_Law_law_858 : decode M_Law_law.2.1 858 = .ok (.iadd, 1) := by decide +kernel
theorem dc_Law_law_859 : decode M_Law_law.2.1 859 = .ok (.iaload, 1) := by decide +kernel
theorem dc_Law_law_860 : decode M_Law_law.2.1 860 = .ok (.aload_n 0, 1) := by decide +kernel
theorem dc_Law_law_861 : decode M_Law_law.2.1 861 = .ok (.iload 4, 2) := by decide +kernel
theorem dc_Law_law_863 : decode M_Law_law.2.1 863 = .ok (.iconst 2, 1) := by decide +kernel
theorem dc_Law_law_864 : decode M_Law_law.2.1 864 = .ok (.iadd, 1) := by decide +kernel
theorem dc_Law_law_865 : decode M_Law_law.2.1 865 = .ok (.iaload, 1) := by decide +kernel
theorem dc_Law_law_866 : decode M_Law_law.2.1 866 = .ok (.i2c, 1) := by decide +kernel
theorem dc_Law_law_867 : decode M_Law_law.2.1 867 = .ok (.invokevirtual 108, 3) := by decide +kernel
theorem dc_Law_law_870 : decode M_Law_law.2.1 870 = .ok (.aload_n 2, 1) := by decide +kernel
theorem dc_Law_law_871 : decode M_Law_law.2.1 871 = .ok (.invokevirtual 68, 3) := by decide +kernel
theorem dc_Law_law_874 : decode M_Law_law.2.1 874 = .ok (.iload 5, 2) := by decide +kernel
theorem dc_Law_law_876 : decode M_Law_law.2.1 876 = .ok (.if_icmp .eq 5, 3) := by decide +kernel
theorem dc_Law_law_879 : decode M_Law_law.2.1 879 = .ok (.iconst 0, 1) := by decide +kernel
theorem dc_Law_law_880 : decode M_Law_law.2.1 880 = .ok (.ireturn, 1) := by decide +kernel
theorem dc_Law_law_881 : decode M_Law_law.2.1 881 = .ok (.goto 95, 3) := by decide +kernel
theorem dc_Law_law_884 : decode M_Law_law.2.1 884 = .ok (.aload_n 1, 1) := by decide +kernel
theorem dc_Law_law_885 : decode M_Law_law.2.1 885 = .ok (.aload_n 0, 1) := by decide +kernel
theorem dc_Law_law_886 : decode M_Law_law.2.1 886 = .ok (.iload 4, 2) := by decide +kernel
theorem dc_Law_law_888 : decode M_Law_law.2.1 888 = .ok (.iconst 1, 1) := by decide +kernel
theorem dc_Law_law_889 : decode M_Law_law.2.1 889 = .ok (.iadd, 1) := by decide +kernel
theorem dc_Law_law_890 : decode M_Law_law.2.1 890 = .ok (.iaload, 1) := by decide +kernel
theorem dc_Law_law_891 : decode M_Law_law.2.1 891 = .ok (.aload_n 3, 1) := by decide +kernel
theorem dc_Law_law_892 : decode M_Law_law.2.1 892 = .ok (.invokestatic 109, 3) := by decide +kernel
theorem dc_Law_law_895 : decode M_Law_law.2.1 895 = .ok (.istore 5, 2) := by decide +kernel
theorem dc_Law_law_897 : decode M_Law_law.2.1 897 = .ok (.aload_n 2, 1) := by decide +kernel
theorem dc_Law_law_898 : decode M_Law_law.2.1 898 = .ok (.aload_n 0, 1) := by decide +kernel
theorem dc_Law_law_899 : decode M_Law_law.2.1 899 = .ok (.iload 4, 2) := by decide +kernel
theorem dc_Law_law_901 : decode M_Law_law.2.1 901 = .ok (.iconst 1, 1) := by decide +kernel
theorem dc_Law_law_902 : decode M_Law_law.2.1 902 = .ok (.iadd, 1) := by decide +kernel
theorem dc_Law_law_903 : decode M_Law_law.2.1 903 = .ok (.iaload, 1) := by decide +kernel
theorem dc_Law_law_904 : decode M_Law_law.2.1 904 = .ok (.invokevirtual 111, 3) := by decide +kernel
theorem dc_Law_law_907 : decode M_Law_law.2.1 907 = .ok (.istore 6, 2) := by decide +kernel
theorem dc_Law_law_909 : decode M_Law_law.2.1 909 = .ok (.aload_n 2, 1) := by decide +kernel
theorem dc_Law_law_910 : decode M_Law_law.2.1 910 = .ok (.invokevirtual 68, 3) := by decide +kernel
theorem dc_Law_law_913 : decode M_Law_law.2.1 913 = .ok (.iload 5, 2) := by decide +kernel
theorem dc_Law_law_915 : decode M_Law_law.2.1 915 = .ok (.if_icmp .eq 5, 3) := by decide +kernel
theorem dc_Law_law_918 : decode M_Law_law.2.1 918 = .ok (.iconst 0, 1) := by decide +kernel
theorem dc_Law_law_919 : decode M_Law_law.2.1 919 = .ok (.ireturn, 1) := by decide +kernel
theorem dc_Law_law_920 : decode M_Law_law.2.1 920 = .ok (.iload 5, 2) := by decide +kernel
theorem dc_Law_law_922 : decode M_Law_law.2.1 922 = .ok (.ifCond .ne 15, 3) := by decide +kernel
theorem dc_Law_law_925 : decode M_Law_law.2.1 925 = .ok (.aload_n 3, 1) := by decide +kernel
theorem dc_Law_law_926 : decode M_Law_law.2.1 926 = .ok (.iconst 0, 1) := by decide +kernel
theorem dc_Law_law_927 : decode M_Law_law.2.1 927 = .ok (.laload, 1) := by decide +kernel
theorem dc_Law_law_928 : decode M_Law_law.2.1 928 = .ok (.iload 6, 2) := by decide +kernel
theorem dc_Law_law_930 : decode M_Law_law.2.1 930 = .ok (.i2l, 1) := by decide +kernel
theorem dc_Law_law_931 : decode M_Law_law.2.1 931 = .ok (.lcmp, 1) := by decide +kernel
theorem dc_Law_law_932 : decode M_Law_law.2.1 932 = .ok (.ifCond .eq 5, 3) := by decide +kernel
theorem dc_Law_law_935 : decode M_Law_law.2.1 935 = .ok (.iconst 0, 1) := by decide +kernel
theorem dc_Law_law_936 : decode M_Law_law.2.1 936 = .ok (.ireturn, 1) := by decide +kernel
theorem dc_Law_law_937 : decode M_Law_law.2.1 937 = .ok (.goto 39, 3) := by decide +kernel
theorem dc_Law_law_940 : decode M_Law_law.2.1 940 = .ok (.aload_n 1, 1) := by decide +kernel
theorem dc_Law_law_941 : decode M_Law_law.2.1 941 = .ok (.invokevirtual 112, 3) := by decide +kernel
theorem dc_Law_law_944 : decode M_Law_law.2.1 944 = .ok (.aload_n 2, 1) := by decide +kernel
theorem dc_Law_law_945 : decode M_Law_law.2.1 945 = .ok (.invokevirtual 115, 3) := by decide +kernel
theorem dc_Law_law_948 : decode M_Law_law.2.1 948 = .ok (.goto 28, 3) := by decide +kernel
theorem dc_Law_law_951 : decode M_Law_law.2.1 951 = .ok (.aload_n 1, 1) := by decide +kernel
theorem dc_Law_law_952 : decode M_Law_law.2.1 952 = .ok (.aload_n 0, 1) := by decide +kernel
theorem dc_Law_law_953 : decode M_Law_law.2.1 953 = .ok (.iload 4, 2) := by decide +kernel
theorem dc_Law_law_955 : decode M_Law_law.2.1 955 = .ok (.iconst 1, 1) := by decide +kernel
theorem dc_Law_law_956 : decode M_Law_law.2.1 956 = .ok (.iadd, 1) := by decide +kernel
theorem dc_Law_law_957 : decode M_Law_law.2.1 957 = .ok (.iaload, 1) := by decide +kernel
theorem dc_Law_law_958 : decode M_Law_law.2.1 958 = .ok (.invokevirtual 116, 3) := by decide +kernel
theorem dc_Law_law_961 : decode M_Law_law.2.1 961 = .ok (.aload_n 2, 1) := by decide +kernel
theorem dc_Law_law_962 : decode M_Law_law.2.1 962 = .ok (.aload_n 0, 1) := by decide +kernel
theorem dc_Law_law_963 : decode M_Law_law.2.1 963 = .ok (.iload 4, 2) := by decide +kernel
theorem dc_Law_law_965 : decode M_Law_law.2.1 965 = .ok (.iconst 1, 1) := by decide +kernel
theorem dc_Law_law_966 : decode M_Law_law.2.1 966 = .ok (.iadd, 1) := by decide +kernel
theorem dc_Law_law_967 : decode M_Law_law.2.1 967 = .ok (.iaload, 1) := by decide +kernel
theorem dc_Law_law_968 : decode M_Law_law.2.1 968 = .ok (.invokevirtual 119, 3) := by decide +kernel
theorem dc_Law_law_971 : decode M_Law_law.2.1 971 = .ok (.if_icmp .eq 5, 3) := by decide +kernel
theorem dc_Law_law_974 : decode M_Law_law.2.1 974 = .ok (.iconst 0, 1) := by decide +kernel
theorem dc_Law_law_975 : decode M_Law_law.2.1 975 = .ok (.ireturn, 1) := by decide +kernel
theorem dc_Law_law_976 : decode M_Law_law.2.1 976 = .ok (.iinc 4 4, 3) := by decide +kernel
theorem dc_Law_law_979 : decode M_Law_law.2.1 979 = .ok (.goto (-956), 3) := by decide +kernel
theorem dc_Law_law_982 : decode M_Law_law.2.1 982 = .ok (.iconst 1, 1) := by decide +kernel
theorem dc_Law_law_983 : decode M_Law_law.2.1 983 = .ok (.ireturn, 1) := by decide +kernel
set_option maxRecDepth 20000 in
theorem e_Law_law_0 {d : Nat} {σ : PH} {K : PO → PH → Prop} (x0 : Nat) (h : cc σ + 1 ≤ 601024 ∧ cs σ + 7 ≤ 7293034 ∧ (∀ σ1 : PH, σ1 = mk σ (1, 0) 7 → PW d M_Desk_init 0 [.ref (nx σ), uu] [] σ1 (kV (fun σ2 => cc σ2 + 1 ≤ 601024 ∧ cs σ2 + 55 ≤ 7293034 ∧ (∀ σ3 : PH, σ3 = mk σ2 (1, 11) 55 → PW d M_Mod_init 0 [.ref (nx σ2), uu] [] σ3 (kV (fun σ4 => cc σ4 + 1 ≤ 601024 ∧ cs σ4 + 1 ≤ 7293034 ∧ (∀ σ5 : PH, σ5 = mk σ4 (5, 1) 1 → PW (d + 1) M_Law_law 23 [.ref x0, .ref (nx σ), .ref (nx σ2), .ref (nx σ4), .int 0, uu, uu] [] σ5 K)) K))) K))) : PW (d + 1) M_Law_law 0 [.ref x0, uu, uu, uu, uu, uu, uu] [] σ K := by
  obtain ⟨hr1, hr2, h⟩ := h
  have h := h _ rfl
  refine pw_new (c := 0) dc_Law_law_0 (by decide) (List.mem_of_getElem? (i := 85) (by decide +kernel)) rfl hr1 hr2 ?_
  refine pw_dup dc_Law_law_3 rfl ?_
  refine pw_callI (vs := []) (st := [.ref (nx σ)]) (b := (nx σ)) dc_Law_law_4 cq_Desk_init rfl rfl (List.mem_of_getElem? (i := 89) (by decide +kernel)) (List.mem_of_getElem? (i := 88) (by decide +kernel)) (Or.inl (List.mem_of_getElem? (i := 87) (by decide +kernel))) rfl rfl (by decide) (cat_nil) (Nat.le_of_ble_eq_true rfl) (PW.mono (kV_kN (fun σ2 h => ?_)) h)
  refine pw_astore_n dc_Law_law_7 (by decide) rfl ?_
  obtain ⟨hr3, hr4, h⟩ := h
  have h := h _ rfl
  refine pw_new (c := 11) dc_Law_law_8 (by decide) (List.mem_of_getElem? (i := 946) (by decide +kernel)) rfl hr3 hr4 ?_
  refine pw_dup dc_Law_law_11 rfl ?_
  refine pw_callI (vs := []) (st := [.ref (nx σ2)]) (b := (nx σ2)) dc_Law_law_12 cq_Mod_init rfl rfl (List.mem_of_getElem? (i := 950) (by decide +kernel)) (List.mem_of_getElem? (i := 949) (by decide +kernel)) (Or.inl (List.mem_of_getElem? (i := 948) (by decide +kernel))) rfl rfl (by decide) (cat_nil) (Nat.le_of_ble_eq_true rfl) (PW.mono (kV_kN (fun σ4 h => ?_)) h)
  refine pw_astore_n dc_Law_law_15 (by decide) rfl ?_
  refine pw_iconst (v := 1) dc_Law_law_16 (by decide) ?_
  refine PW.top (v' := .int (nI 1)) rfl ?_
  obtain ⟨hr5, hr6, h⟩ := h
  have h := h _ rfl
  refine pw_newa (k := 5) (N := 1) dc_Law_law_17 (by unfold nk; decide) rfl (List.mem_of_getElem? (i := 1348) (by decide +kernel)) (by decide) hr5 hr6 ?_
  refine pw_astore_n dc_Law_law_19 (by decide) rfl ?_
  refine pw_iconst (v := 0) dc_Law_law_20 (by decide) ?_
  refine pw_istore dc_Law_law_21 (by decide) ?_
  exact h
set_option maxRecDepth 20000 in
theorem e_Law_law_23 {d : Nat} {σ : PH} {K : PO → PH → Prop} (x0 : Nat) (x1 : Nat) (x2 : Nat) (x3 : Nat) (x4 : Int32) (h : (∃ n1 : Nat, sh σ x0 = (10, n1) ∧ (if ((nI n1) - 4) < x4 then K (.inl (some (.int 1))) σ else vp_in x4 n1 ∧ PW (d + 1) M_Law_law 39 [.ref x0, .ref x1, .ref x2, .ref x3, .int x4, uu, uu] [.int ((eI σ x0 (ix x4)) &&& 15)] σ K))) : PW (d + 1) M_Law_law 23 [.ref x0, .ref x1, .ref x2, .ref x3, .int x4, uu, uu] [] σ K := by
  refine pw_iload dc_Law_law_23 rfl ?_
  refine pw_aload_n dc_Law_law_25 rfl rfl ?_
  obtain ⟨n1, hs1, h⟩ := h
  refine pw_alen dc_Law_law_26 (by decide) hs1 ?_
  refine pw_iconst (v := 4) dc_Law_law_27 (by decide) ?_
  refine pw_isub dc_Law_law_28 ?_
  refine pw_icmp_gt (tgt := 982) dc_Law_law_29 (by decide) (fun hc => ?_) (fun hc => ?_)
  · have h := ite_t h hc
    refine pw_iconst (v := 1) dc_Law_law_982 (by decide) ?_
    exact pw_iret dc_Law_law_983 rfl (bo_nar (Or.inr rfl)) h
  · have h := ite_f h hc
    refine pw_aload_n dc_Law_law_32 rfl rfl ?_
    refine pw_iload dc_Law_law_33 rfl ?_
    obtain ⟨hi1, h⟩ := h
    refine pw_iald0 dc_Law_law_35 hs1 hi1 ?_
    refine pw_bipush (v := 15) dc_Law_law_36 (by decide) ?_
    refine pw_iand dc_Law_law_38 ?_
    exact h
set_option maxRecDepth 20000 in
theorem e_Law_law_112 {d : Nat} {σ : PH} {K : PO → PH → Prop} (x0 : Nat) (x1 : Nat) (x2 : Nat) (x3 : Nat) (x4 : Int32) (h : (∃ n1 : Nat, sh σ x0 = (10, n1) ∧ vp_in (x4 + 1) n1 ∧ vp_in (x4 + 2) n1 ∧ PW d M_Law_sign 0 [.ref x1, .int (eI σ x0 (ix (x4 + 1))), .int (eI σ x0 (ix (x4 + 2))), .ref x3, uu] [] σ (kI (fun r1 σ1 => (∃ n2 : Nat, sh σ1 x0 = (10, n2) ∧ vp_in (x4 + 1) n2 ∧ vp_in (x4 + 2) n2 ∧ sh σ1 x2 = (1, 11) ∧ PW d M_Mod_sign 0 [.ref x2, .int (eI σ1 x0 (ix (x4 + 1))), .int (eI σ1 x0 (ix (x4 + 2))), uu, uu] [] σ1 (kI (fun r2 σ2 => sh σ2 x2 = (1, 11) ∧ PW d M_Mod_thrown 0 [.ref x2] [] σ2 (kI (fun r3 σ3 => (if r3 = r1 then (if r1 = 0 then (∃ n3 : Nat, sh σ3 x3 = (5, n3) ∧ vp_in 0 n3 ∧ (if (lg_cmp (eL σ3 x3 (ix 0)) r2.toInt64) = 0 then PW (d + 1) M_Law_law 177 [.ref x0, .ref x1, .ref x2, .ref x3, .int x4, uu, uu] [] σ3 K else K (.inl (some (.int 0))) σ3)) else PW (d + 1) M_Law_law 177 [.ref x0, .ref x1, .ref x2, .ref x3, .int x4, uu, uu] [] σ3 K) else K (.inl (some (.int 0))) σ3)) K)) K))) K))) : PW (d + 1) M_Law_law 112 [.ref x0, .ref x1, .ref x2, .ref x3, .int x4, uu, uu] [] σ K := by
  refine pw_aload_n dc_Law_law_112 rfl rfl ?_
  refine pw_aload_n dc_Law_law_113 rfl rfl ?_
  refine pw_iload dc_Law_law_114 rfl ?_
  refine pw_iconst (v := 1) dc_Law_law_116 (by decide) ?_
  refine pw_iadd dc_Law_law_117 ?_
  obtain ⟨n1, hs1, h⟩ := h
  obtain ⟨hi1, h⟩ := h
  refine pw_iald0 dc_Law_law_118 hs1 hi1 ?_
  refine pw_aload_n dc_Law_law_119 rfl rfl ?_
  refine pw_iload dc_Law_law_120 rfl ?_
  refine pw_iconst (v := 2) dc_Law_law_122 (by decide) ?_
  refine pw_iadd dc_Law_law_123 ?_
  obtain ⟨hi2, h⟩ := h
  refine pw_iald0 dc_Law_law_124 hs1 hi2 ?_
  refine pw_aload_n dc_Law_law_125 rfl rfl ?_
  refine pw_callS (vs := [.ref x1, .int (eI σ x0 (ix (x4 + 1))), .int (eI σ x0 (ix (x4 + 2))), .ref x3]) (st := []) dc_Law_law_126 cq_Law_sign (List.mem_of_getElem? (i := 394) (by decide +kernel)) (List.mem_of_getElem? (i := 393) (by decide +kernel)) rfl rfl (cat_cons rfl (cat_cons rfl (cat_cons rfl (cat_cons rfl (cat_nil))))) (Nat.le_of_ble_eq_true rfl) (PW.mono (kI_kN (fun r1 σ1 h => ?_)) h)
  refine pw_istore dc_Law_law_129 (by decide) ?_
  refine pw_aload_n dc_Law_law_131 rfl rfl ?_
  refine pw_aload_n dc_Law_law_132 rfl rfl ?_
  refine pw_iload dc_Law_law_133 rfl ?_
  refine pw_iconst (v := 1) dc_Law_law_135 (by decide) ?_
  refine pw_iadd dc_Law_law_136 ?_
  obtain ⟨n2, hs2, h⟩ := h
  obtain ⟨hi3, h⟩ := h
  refine pw_iald0 dc_Law_law_137 hs2 hi3 ?_
  refine pw_aload_n dc_Law_law_138 rfl rfl ?_
  refine pw_iload dc_Law_law_139 rfl ?_
  refine pw_iconst (v := 2) dc_Law_law_141 (by decide) ?_
  refine pw_iadd dc_Law_law_142 ?_
  obtain ⟨hi4, h⟩ := h
  refine pw_iald0 dc_Law_law_143 hs2 hi4 ?_
  obtain ⟨hs3, h⟩ := h
  refine pw_callV (vs := [.int (eI σ1 x0 (ix (x4 + 1))), .int (eI σ1 x0 (ix (x4 + 2)))]) (st := []) (b := x2) (cn := 11) dc_Law_law_144 cq_Mod_sign (List.mem_of_getElem? (i := 1125) (by decide +kernel)) (List.mem_of_getElem? (i := 1126) (by decide +kernel)) (List.mem_of_getElem? (i := 1124) (by decide +kernel)) rfl hs3 rfl rfl (by decide) (cat_cons rfl (cat_cons rfl (cat_nil))) (Nat.le_of_ble_eq_true rfl) (PW.mono (kI_kN (fun r2 σ2 h => ?_)) h)
  refine pw_istore dc_Law_law_147 (by decide) ?_
  refine pw_aload_n dc_Law_law_149 rfl rfl ?_
  obtain ⟨hs4, h⟩ := h
  refine pw_callV (vs := []) (st := []) (b := x2) (cn := 11) dc_Law_law_150 cq_Mod_thrown (List.mem_of_getElem? (i := 1121) (by decide +kernel)) (List.mem_of_getElem? (i := 1122) (by decide +kernel)) (List.mem_of_getElem? (i := 1120) (by decide +kernel)) rfl hs4 rfl rfl (by decide) (cat_nil) (Nat.le_of_ble_eq_true rfl) (PW.mono (kI_kN (fun r3 σ3 h => ?_)) h)
  refine pw_iload dc_Law_law_153 rfl ?_
  refine pw_icmp_eq (tgt := 160) dc_Law_law_155 (by decide) (fun hc => ?_) (fun hc => ?_)
  · have h := ite_t h hc
    refine pw_iload dc_Law_law_160 rfl ?_
    refine pw_if_ne (tgt := 177) dc_Law_law_162 (by decide) (fun hc => ?_) (fun hc => ?_)
    · have h := ite_f h hc
      refine PW.drop (ls' := [.ref x0, .ref x1, .ref x2, .ref x3, .int x4, uu, uu]) ⟨Or.inl rfl, Or.inl rfl, Or.inl rfl, Or.inl rfl, Or.inl rfl, Or.inr rfl, Or.inr rfl, trivial⟩ ?_
      exact h
    · have h := ite_t h hc
      refine pw_aload_n dc_Law_law_165 rfl rfl ?_
      refine pw_iconst (v := 0) dc_Law_law_166 (by decide) ?_
      obtain ⟨n3, hs5, h⟩ := h
      obtain ⟨hi5, h⟩ := h
      refine pw_lald dc_Law_law_167 hs5 hi5 ?_
      refine pw_iload dc_Law_law_168 rfl ?_
      refine pw_i2l dc_Law_law_170 ?_
      refine pw_lcmp dc_Law_law_171 ?_
      refine pw_if_eq (tgt := 177) dc_Law_law_172 (by decide) (fun hc => ?_) (fun hc => ?_)
      · have h := ite_t h hc
        refine PW.drop (ls' := [.ref x0, .ref x1, .ref x2, .ref x3, .int x4, uu, uu]) ⟨Or.inl rfl, Or.inl rfl, Or.inl rfl, Or.inl rfl, Or.inl rfl, Or.inr rfl, Or.inr rfl, trivial⟩ ?_
        exact h
      · have h := ite_f h hc
        refine pw_iconst (v := 0) dc_Law_law_175 (by decide) ?_
        exact pw_iret dc_Law_law_176 rfl (bo_nar (Or.inl rfl)) h
  · have h := ite_f h hc
    refine pw_iconst (v := 0) dc_Law_law_158 (by decide) ?_
    exact pw_iret dc_Law_law_159 rfl (bo_nar (Or.inl rfl)) h
set_option maxRecDepth 20000 in
theorem e_Law_law_177 {d : Nat} {σ : PH} {K : PO → PH → Prop} (x0 : Nat) (x1 : Nat) (x2 : Nat) (x3 : Nat) (x4 : Int32) (h : PW (d + 1) M_Law_law 976 [.ref x0, .ref x1, .ref x2, .ref x3, .int x4, uu, uu] [] σ K) : PW (d + 1) M_Law_law 177 [.ref x0, .ref x1, .ref x2, .ref x3, .int x4, uu, uu] [] σ K := by
  refine pw_goto (tgt := 976) dc_Law_law_177 (by decide) ?_
  exact h
set_option maxRecDepth 20000 in
theorem e_Law_law_180 {d : Nat} {σ : PH} {K : PO → PH → Prop} (x0 : Nat) (x1 : Nat) (x2 : Nat) (x3 : Nat) (x4 : Int32) (h : (∃ n1 : Nat, sh σ x0 = (10, n1) ∧ vp_in (x4 + 1) n1 ∧ PW d M_Law_receipt 0 [.ref x1, .int (eI σ x0 (ix (x4 + 1))), .ref x3, uu] [] σ (kI (fun r1 σ1 => (∃ n2 : Nat, sh σ1 x0 = (10, n2) ∧ vp_in (x4 + 1) n2 ∧ sh σ1 x2 = (1, 11) ∧ PW d M_Mod_receipt 0 [.ref x2, .int (eI σ1 x0 (ix (x4 + 1)))] [] σ1 (kI (fun r2 σ2 => sh σ2 x2 = (1, 11) ∧ PW d M_Mod_thrown 0 [.ref x2] [] σ2 (kI (fun r3 σ3 => (if r3 = r1 then (if r1 = 0 then (∃ n3 : Nat, sh σ3 x3 = (5, n3) ∧ vp_in 0 n3 ∧ (if (lg_cmp (eL σ3 x3 (ix 0)) r2.toInt64) = 0 then PW (d + 1) M_Law_law 233 [.ref x0, .ref x1, .ref x2, .ref x3, .int x4, uu, uu] [] σ3 K else K (.inl (some (.int 0))) σ3)) else PW (d + 1) M_Law_law 233 [.ref x0, .ref x1, .ref x2, .ref x3, .int x4, uu, uu] [] σ3 K) else K (.inl (some (.int 0))) σ3)) K)) K))) K))) : PW (d + 1) M_Law_law 180 [.ref x0, .ref x1, .ref x2, .ref x3, .int x4, uu, uu] [] σ K := by
  refine pw_aload_n dc_Law_law_180 rfl rfl ?_
  refine pw_aload_n dc_Law_law_181 rfl rfl ?_
  refine pw_iload dc_Law_law_182 rfl ?_
  refine pw_iconst (v := 1) dc_Law_law_184 (by decide) ?_
  refine pw_iadd dc_Law_law_185 ?_
  obtain ⟨n1, hs1, h⟩ := h
  obtain ⟨hi1, h⟩ := h
  refine pw_iald0 dc_Law_law_186 hs1 hi1 ?_
  refine pw_aload_n dc_Law_law_187 rfl rfl ?_
  refine pw_callS (vs := [.ref x1, .int (eI σ x0 (ix (x4 + 1))), .ref x3]) (st := []) dc_Law_law_188 cq_Law_receipt (List.mem_of_getElem? (i := 688) (by decide +kernel)) (List.mem_of_getElem? (i := 687) (by decide +kernel)) rfl rfl (cat_cons rfl (cat_cons rfl (cat_cons rfl (cat_nil)))) (Nat.le_of_ble_eq_true rfl) (PW.mono (kI_kN (fun r1 σ1 h => ?_)) h)
  refine pw_istore dc_Law_law_191 (by decide) ?_
  refine pw_aload_n dc_Law_law_193 rfl rfl ?_
  refine pw_aload_n dc_Law_law_194 rfl rfl ?_
  refine pw_iload dc_Law_law_195 rfl ?_
  refine pw_iconst (v := 1) dc_Law_law_197 (by decide) ?_
  refine pw_iadd dc_Law_law_198 ?_
  obtain ⟨n2, hs2, h⟩ := h
  obtain ⟨hi2, h⟩ := h
  refine pw_iald0 dc_Law_law_199 hs2 hi2 ?_
  obtain ⟨hs3, h⟩ := h
  refine pw_callV (vs := [.int (eI σ1 x0 (ix (x4 + 1)))]) (st := []) (b := x2) (cn := 11) dc_Law_law_200 cq_Mod_receipt (List.mem_of_getElem? (i := 1239) (by decide +kernel)) (List.mem_of_getElem? (i := 1240) (by decide +kernel)) (List.mem_of_getElem? (i := 1238) (by decide +kernel)) rfl hs3 rfl rfl (by decide) (cat_cons rfl (cat_nil)) (Nat.le_of_ble_eq_true rfl) (PW.mono (kI_kN (fun r2 σ2 h => ?_)) h)
  refine pw_istore dc_Law_law_203 (by decide) ?_
  refine pw_aload_n dc_Law_law_205 rfl rfl ?_
  obtain ⟨hs4, h⟩ := h
  refine pw_callV (vs := []) (st := []) (b := x2) (cn := 11) dc_Law_law_206 cq_Mod_thrown (List.mem_of_getElem? (i := 1121) (by decide +kernel)) (List.mem_of_getElem? (i := 1122) (by decide +kernel)) (List.mem_of_getElem? (i := 1120) (by decide +kernel)) rfl hs4 rfl rfl (by decide) (cat_nil) (Nat.le_of_ble_eq_true rfl) (PW.mono (kI_kN (fun r3 σ3 h => ?_)) h)
  refine pw_iload dc_Law_law_209 rfl ?_
  refine pw_icmp_eq (tgt := 216) dc_Law_law_211 (by decide) (fun hc => ?_) (fun hc => ?_)
  · have h := ite_t h hc
    refine pw_iload dc_Law_law_216 rfl ?_
    refine pw_if_ne (tgt := 233) dc_Law_law_218 (by decide) (fun hc => ?_) (fun hc => ?_)
    · have h := ite_f h hc
      refine PW.drop (ls' := [.ref x0, .ref x1, .ref x2, .ref x3, .int x4, uu, uu]) ⟨Or.inl rfl, Or.inl rfl, Or.inl rfl, Or.inl rfl, Or.inl rfl, Or.inr rfl, Or.inr rfl, trivial⟩ ?_
      exact h
    · have h := ite_t h hc
      refine pw_aload_n dc_Law_law_221 rfl rfl ?_
      refine pw_iconst (v := 0) dc_Law_law_222 (by decide) ?_
      obtain ⟨n3, hs5, h⟩ := h
      obtain ⟨hi3, h⟩ := h
      refine pw_lald dc_Law_law_223 hs5 hi3 ?_
      refine pw_iload dc_Law_law_224 rfl ?_
      refine pw_i2l dc_Law_law_226 ?_
      refine pw_lcmp dc_Law_law_227 ?_
      refine pw_if_eq (tgt := 233) dc_Law_law_228 (by decide) (fun hc => ?_) (fun hc => ?_)
      · have h := ite_t h hc
        refine PW.drop (ls' := [.ref x0, .ref x1, .ref x2, .ref x3, .int x4, uu, uu]) ⟨Or.inl rfl, Or.inl rfl, Or.inl rfl, Or.inl rfl, Or.inl rfl, Or.inr rfl, Or.inr rfl, trivial⟩ ?_
        exact h
      · have h := ite_f h hc
        refine pw_iconst (v := 0) dc_Law_law_231 (by decide) ?_
        exact pw_iret dc_Law_law_232 rfl (bo_nar (Or.inl rfl)) h
  · have h := ite_f h hc
    refine pw_iconst (v := 0) dc_Law_law_214 (by decide) ?_
    exact pw_iret dc_Law_law_215 rfl (bo_nar (Or.inl rfl)) h
set_option maxRecDepth 20000 in
theorem e_Law_law_233 {d : Nat} {σ : PH} {K : PO → PH → Prop} (x0 : Nat) (x1 : Nat) (x2 : Nat) (x3 : Nat) (x4 : Int32) (h : PW (d + 1) M_Law_law 976 [.ref x0, .ref x1, .ref x2, .ref x3, .int x4, uu, uu] [] σ K) : PW (d + 1) M_Law_law 233 [.ref x0, .ref x1, .ref x2, .ref x3, .int x4, uu, uu] [] σ K := by
  refine pw_goto (tgt := 976) dc_Law_law_233 (by decide) ?_
  exact h
set_option maxRecDepth 20000 in
theorem e_Law_law_236 {d : Nat} {σ : PH} {K : PO → PH → Prop} (x0 : Nat) (x1 : Nat) (x2 : Nat) (x3 : Nat) (x4 : Int32) (h : (∃ n1 : Nat, sh σ x0 = (10, n1) ∧ vp_in (x4 + 1) n1 ∧ PW d M_Law_askFor 0 [.ref x1, .int (eI σ x0 (ix (x4 + 1))), .ref x3, uu] [] σ (kI (fun r1 σ1 => (∃ n2 : Nat, sh σ1 x0 = (10, n2) ∧ vp_in (x4 + 1) n2 ∧ sh σ1 x2 = (1, 11) ∧ PW d M_Mod_askFor 0 [.ref x2, .int (eI σ1 x0 (ix (x4 + 1)))] [] σ1 (kI (fun r2 σ2 => sh σ2 x2 = (1, 11) ∧ PW d M_Mod_thrown 0 [.ref x2] [] σ2 (kI (fun r3 σ3 => (if r3 = r1 then (if r1 = 0 then (∃ n3 : Nat, sh σ3 x3 = (5, n3) ∧ vp_in 0 n3 ∧ (if (lg_cmp (eL σ3 x3 (ix 0)) r2.toInt64) = 0 then PW (d + 1) M_Law_law 289 [.ref x0, .ref x1, .ref x2, .ref x3, .int x4, uu, uu] [] σ3 K else K (.inl (some (.int 0))) σ3)) else PW (d + 1) M_Law_law 289 [.ref x0, .ref x1, .ref x2, .ref x3, .int x4, uu, uu] [] σ3 K) else K (.inl (some (.int 0))) σ3)) K)) K))) K))) : PW (d + 1) M_Law_law 236 [.ref x0, .ref x1, .ref x2, .ref x3, .int x4, uu, uu] [] σ K := by
  refine pw_aload_n dc_Law_law_236 rfl rfl ?_
  refine pw_aload_n dc_Law_law_237 rfl rfl ?_
  refine pw_iload dc_Law_law_238 rfl ?_
  refine pw_iconst (v := 1) dc_Law_law_240 (by decide) ?_
  refine pw_iadd dc_Law_law_241 ?_
  obtain ⟨n1, hs1, h⟩ := h
  obtain ⟨hi1, h⟩ := h
  refine pw_iald0 dc_Law_law_242 hs1 hi1 ?_
  refine pw_aload_n dc_Law_law_243 rfl rfl ?_
  refine pw_callS (vs := [.ref x1, .int (eI σ x0 (ix (x4 + 1))), .ref x3]) (st := []) dc_Law_law_244 cq_Law_askFor (List.mem_of_getElem? (i := 695) (by decide +kernel)) (List.mem_of_getElem? (i := 694) (by decide +kernel)) rfl rfl (cat_cons rfl (cat_cons rfl (cat_cons rfl (cat_nil)))) (Nat.le_of_ble_eq_true rfl) (PW.mono (kI_kN (fun r1 σ1 h => ?_)) h)
  refine pw_istore dc_Law_law_247 (by decide) ?_
  refine pw_aload_n dc_Law_law_249 rfl rfl ?_
  refine pw_aload_n dc_Law_law_250 rfl rfl ?_
  refine pw_iload dc_Law_law_251 rfl ?_
  refine pw_iconst (v := 1) dc_Law_law_253 (by decide) ?_
  refine pw_iadd dc_Law_law_254 ?_
  obtain ⟨n2, hs2, h⟩ := h
  obtain ⟨hi2, h⟩ := h
  refine pw_iald0 dc_Law_law_255 hs2 hi2 ?_
  obtain ⟨hs3, h⟩ := h
  refine pw_callV (vs := [.int (eI σ1 x0 (ix (x4 + 1)))]) (st := []) (b := x2) (cn := 11) dc_Law_law_256 cq_Mod_askFor (List.mem_of_getElem? (i := 1243) (by decide +kernel)) (List.mem_of_getElem? (i := 1244) (by decide +kernel)) (List.mem_of_getElem? (i := 1242) (by decide +kernel)) rfl hs3 rfl rfl (by decide) (cat_cons rfl (cat_nil)) (Nat.le_of_ble_eq_true rfl) (PW.mono (kI_kN (fun r2 σ2 h => ?_)) h)
  refine pw_istore dc_Law_law_259 (by decide) ?_
  refine pw_aload_n dc_Law_law_261 rfl rfl ?_
  obtain ⟨hs4, h⟩ := h
  refine pw_callV (vs := []) (st := []) (b := x2) (cn := 11) dc_Law_law_262 cq_Mod_thrown (List.mem_of_getElem? (i := 1121) (by decide +kernel)) (List.mem_of_getElem? (i := 1122) (by decide +kernel)) (List.mem_of_getElem? (i := 1120) (by decide +kernel)) rfl hs4 rfl rfl (by decide) (cat_nil) (Nat.le_of_ble_eq_true rfl) (PW.mono (kI_kN (fun r3 σ3 h => ?_)) h)
  refine pw_iload dc_Law_law_265 rfl ?_
  refine pw_icmp_eq (tgt := 272) dc_Law_law_267 (by decide) (fun hc => ?_) (fun hc => ?_)
  · have h := ite_t h hc
    refine pw_iload dc_Law_law_272 rfl ?_
    refine pw_if_ne (tgt := 289) dc_Law_law_274 (by decide) (fun hc => ?_) (fun hc => ?_)
    · have h := ite_f h hc
      refine PW.drop (ls' := [.ref x0, .ref x1, .ref x2, .ref x3, .int x4, uu, uu]) ⟨Or.inl rfl, Or.inl rfl, Or.inl rfl, Or.inl rfl, Or.inl rfl, Or.inr rfl, Or.inr rfl, trivial⟩ ?_
      exact h
    · have h := ite_t h hc
      refine pw_aload_n dc_Law_law_277 rfl rfl ?_
      refine pw_iconst (v := 0) dc_Law_law_278 (by decide) ?_
      obtain ⟨n3, hs5, h⟩ := h
      obtain ⟨hi3, h⟩ := h
      refine pw_lald dc_Law_law_279 hs5 hi3 ?_
      refine pw_iload dc_Law_law_280 rfl ?_
      refine pw_i2l dc_Law_law_282 ?_
      refine pw_lcmp dc_Law_law_283 ?_
      refine pw_if_eq (tgt := 289) dc_Law_law_284 (by decide) (fun hc => ?_) (fun hc => ?_)
      · have h := ite_t h hc
        refine PW.drop (ls' := [.ref x0, .ref x1, .ref x2, .ref x3, .int x4, uu, uu]) ⟨Or.inl rfl, Or.inl rfl, Or.inl rfl, Or.inl rfl, Or.inl rfl, Or.inr rfl, Or.inr rfl, trivial⟩ ?_
        exact h
      · have h := ite_f h hc
        refine pw_iconst (v := 0) dc_Law_law_287 (by decide) ?_
        exact pw_iret dc_Law_law_288 rfl (bo_nar (Or.inl rfl)) h
  · have h := ite_f h hc
    refine pw_iconst (v := 0) dc_Law_law_270 (by decide) ?_
    exact pw_iret dc_Law_law_271 rfl (bo_nar (Or.inl rfl)) h
set_option maxRecDepth 20000 in
theorem e_Law_law_289 {d : Nat} {σ : PH} {K : PO → PH → Prop} (x0 : Nat) (x1 : Nat) (x2 : Nat) (x3 : Nat) (x4 : Int32) (h : PW (d + 1) M_Law_law 976 [.ref x0, .ref x1, .ref x2, .ref x3, .int x4, uu, uu] [] σ K) : PW (d + 1) M_Law_law 289 [.ref x0, .ref x1, .ref x2, .ref x3, .int x4, uu, uu] [] σ K := by
  refine pw_goto (tgt := 976) dc_Law_law_289 (by decide) ?_
  exact h
set_option maxRecDepth 20000 in
theorem e_Law_law_292 {d : Nat} {σ : PH} {K : PO → PH → Prop} (x0 : Nat) (x1 : Nat) (x2 : Nat) (x3 : Nat) (x4 : Int32) (h : (∃ n1 : Nat, sh σ x0 = (10, n1) ∧ vp_in (x4 + 1) n1 ∧ vp_in (x4 + 2) n1 ∧ vp_in (x4 + 3) n1 ∧ PW d M_Law_route 0 [.ref x1, .int (eI σ x0 (ix (x4 + 1))), .int (eI σ x0 (ix (x4 + 2))), .int (eI σ x0 (ix (x4 + 3))), uu] [] σ (kI (fun r1 σ1 => (∃ n2 : Nat, sh σ1 x0 = (10, n2) ∧ vp_in (x4 + 1) n2 ∧ vp_in (x4 + 2) n2 ∧ vp_in (x4 + 3) n2 ∧ sh σ1 x2 = (1, 11) ∧ PW d M_Mod_route 0 [.ref x2, .int (eI σ1 x0 (ix (x4 + 1))), .int (eI σ1 x0 (ix (x4 + 2))), .int (eI σ1 x0 (ix (x4 + 3))), uu, uu] [] σ1 (kV (fun σ2 => sh σ2 x2 = (1, 11) ∧ PW d M_Mod_thrown 0 [.ref x2] [] σ2 (kI (fun r2 σ3 => (if r2 = r1 then PW (d + 1) M_Law_law 976 [.ref x0, .ref x1, .ref x2, .ref x3, .int x4, uu, uu] [] σ3 K else K (.inl (some (.int 0))) σ3)) K)) K))) K))) : PW (d + 1) M_Law_law 292 [.ref x0, .ref x1, .ref x2, .ref x3, .int x4, uu, uu] [] σ K := by
  refine pw_aload_n dc_Law_law_292 rfl rfl ?_
  refine pw_aload_n dc_Law_law_293 rfl rfl ?_
  refine pw_iload dc_Law_law_294 rfl ?_
  refine pw_iconst (v := 1) dc_Law_law_296 (by decide) ?_
  refine pw_iadd dc_Law_law_297 ?_
  obtain ⟨n1, hs1, h⟩ := h
  obtain ⟨hi1, h⟩ := h
  refine pw_iald0 dc_Law_law_298 hs1 hi1 ?_
  refine pw_aload_n dc_Law_law_299 rfl rfl ?_
  refine pw_iload dc_Law_law_300 rfl ?_
  refine pw_iconst (v := 2) dc_Law_law_302 (by decide) ?_
  refine pw_iadd dc_Law_law_303 ?_
  obtain ⟨hi2, h⟩ := h
  refine pw_iald0 dc_Law_law_304 hs1 hi2 ?_
  refine pw_aload_n dc_Law_law_305 rfl rfl ?_
  refine pw_iload dc_Law_law_306 rfl ?_
  refine pw_iconst (v := 3) dc_Law_law_308 (by decide) ?_
  refine pw_iadd dc_Law_law_309 ?_
  obtain ⟨hi3, h⟩ := h
  refine pw_iald0 dc_Law_law_310 hs1 hi3 ?_
  refine pw_callS (vs := [.ref x1, .int (eI σ x0 (ix (x4 + 1))), .int (eI σ x0 (ix (x4 + 2))), .int (eI σ x0 (ix (x4 + 3)))]) (st := []) dc_Law_law_311 cq_Law_route (List.mem_of_getElem? (i := 706) (by decide +kernel)) (List.mem_of_getElem? (i := 705) (by decide +kernel)) rfl rfl (cat_cons rfl (cat_cons rfl (cat_cons rfl (cat_cons rfl (cat_nil))))) (Nat.le_of_ble_eq_true rfl) (PW.mono (kI_kN (fun r1 σ1 h => ?_)) h)
  refine pw_istore dc_Law_law_314 (by decide) ?_
  refine pw_aload_n dc_Law_law_316 rfl rfl ?_
  refine pw_aload_n dc_Law_law_317 rfl rfl ?_
  refine pw_iload dc_Law_law_318 rfl ?_
  refine pw_iconst (v := 1) dc_Law_law_320 (by decide) ?_
  refine pw_iadd dc_Law_law_321 ?_
  obtain ⟨n2, hs2, h⟩ := h
  obtain ⟨hi4, h⟩ := h
  refine pw_iald0 dc_Law_law_322 hs2 hi4 ?_
  refine pw_aload_n dc_Law_law_323 rfl rfl ?_
  refine pw_iload dc_Law_law_324 rfl ?_
  refine pw_iconst (v := 2) dc_Law_law_326 (by decide) ?_
  refine pw_iadd dc_Law_law_327 ?_
  obtain ⟨hi5, h⟩ := h
  refine pw_iald0 dc_Law_law_328 hs2 hi5 ?_
  refine pw_aload_n dc_Law_law_329 rfl rfl ?_
  refine pw_iload dc_Law_law_330 rfl ?_
  refine pw_iconst (v := 3) dc_Law_law_332 (by decide) ?_
  refine pw_iadd dc_Law_law_333 ?_
  obtain ⟨hi6, h⟩ := h
  refine pw_iald0 dc_Law_law_334 hs2 hi6 ?_
  obtain ⟨hs3, h⟩ := h
  refine pw_callV (vs := [.int (eI σ1 x0 (ix (x4 + 1))), .int (eI σ1 x0 (ix (x4 + 2))), .int (eI σ1 x0 (ix (x4 + 3)))]) (st := []) (b := x2) (cn := 11) dc_Law_law_335 cq_Mod_route (List.mem_of_getElem? (i := 1247) (by decide +kernel)) (List.mem_of_getElem? (i := 1248) (by decide +kernel)) (List.mem_of_getElem? (i := 1246) (by decide +kernel)) rfl hs3 rfl rfl (by decide) (cat_cons rfl (cat_cons rfl (cat_cons rfl (cat_nil)))) (Nat.le_of_ble_eq_true rfl) (PW.mono (kV_kN (fun σ2 h => ?_)) h)
  refine pw_aload_n dc_Law_law_338 rfl rfl ?_
  obtain ⟨hs4, h⟩ := h
  refine pw_callV (vs := []) (st := []) (b := x2) (cn := 11) dc_Law_law_339 cq_Mod_thrown (List.mem_of_getElem? (i := 1121) (by decide +kernel)) (List.mem_of_getElem? (i := 1122) (by decide +kernel)) (List.mem_of_getElem? (i := 1120) (by decide +kernel)) rfl hs4 rfl rfl (by decide) (cat_nil) (Nat.le_of_ble_eq_true rfl) (PW.mono (kI_kN (fun r2 σ3 h => ?_)) h)
  refine pw_iload dc_Law_law_342 rfl ?_
  refine pw_icmp_eq (tgt := 349) dc_Law_law_344 (by decide) (fun hc => ?_) (fun hc => ?_)
  · have h := ite_t h hc
    refine pw_goto (tgt := 976) dc_Law_law_349 (by decide) ?_
    refine PW.drop (ls' := [.ref x0, .ref x1, .ref x2, .ref x3, .int x4, uu, uu]) ⟨Or.inl rfl, Or.inl rfl, Or.inl rfl, Or.inl rfl, Or.inl rfl, Or.inr rfl, Or.inl rfl, trivial⟩ ?_
    exact h
  · have h := ite_f h hc
    refine pw_iconst (v := 0) dc_Law_law_347 (by decide) ?_
    exact pw_iret dc_Law_law_348 rfl (bo_nar (Or.inl rfl)) h
set_option maxRecDepth 20000 in
theorem e_Law_law_352 {d : Nat} {σ : PH} {K : PO → PH → Prop} (x0 : Nat) (x1 : Nat) (x2 : Nat) (x3 : Nat) (x4 : Int32) (h : (∃ n1 : Nat, sh σ x0 = (10, n1) ∧ vp_in (x4 + 1) n1 ∧ vp_in (x4 + 2) n1 ∧ PW d M_Law_group 0 [.ref x1, .int (eI σ x0 (ix (x4 + 1))), .int (eI σ x0 (ix (x4 + 2))), .ref x3, uu] [] σ (kI (fun r1 σ1 => (∃ n2 : Nat, sh σ1 x0 = (10, n2) ∧ vp_in (x4 + 1) n2 ∧ vp_in (x4 + 2) n2 ∧ sh σ1 x2 = (1, 11) ∧ PW d M_Mod_group 0 [.ref x2, .int (eI σ1 x0 (ix (x4 + 1))), .int (eI σ1 x0 (ix (x4 + 2))), uu, uu] [] σ1 (kI (fun r2 σ2 => sh σ2 x2 = (1, 11) ∧ PW d M_Mod_thrown 0 [.ref x2] [] σ2 (kI (fun r3 σ3 => (if r3 = r1 then (if r1 = 0 then (∃ n3 : Nat, sh σ3 x3 = (5, n3) ∧ vp_in 0 n3 ∧ (if (lg_cmp (eL σ3 x3 (ix 0)) r2.toInt64) = 0 then PW (d + 1) M_Law_law 417 [.ref x0, .ref x1, .ref x2, .ref x3, .int x4, uu, uu] [] σ3 K else K (.inl (some (.int 0))) σ3)) else PW (d + 1) M_Law_law 417 [.ref x0, .ref x1, .ref x2, .ref x3, .int x4, uu, uu] [] σ3 K) else K (.inl (some (.int 0))) σ3)) K)) K))) K))) : PW (d + 1) M_Law_law 352 [.ref x0, .ref x1, .ref x2, .ref x3, .int x4, uu, uu] [] σ K := by
  refine pw_aload_n dc_Law_law_352 rfl rfl ?_
  refine pw_aload_n dc_Law_law_353 rfl rfl ?_
  refine pw_iload dc_Law_law_354 rfl ?_
  refine pw_iconst (v := 1) dc_Law_law_356 (by decide) ?_
  refine pw_iadd dc_Law_law_357 ?_
  obtain ⟨n1, hs1, h⟩ := h
  obtain ⟨hi1, h⟩ := h
  refine pw_iald0 dc_Law_law_358 hs1 hi1 ?_
  refine pw_aload_n dc_Law_law_359 rfl rfl ?_
  refine pw_iload dc_Law_law_360 rfl ?_
  refine pw_iconst (v := 2) dc_Law_law_362 (by decide) ?_
  refine pw_iadd dc_Law_law_363 ?_
  obtain ⟨hi2, h⟩ := h
  refine pw_iald0 dc_Law_law_364 hs1 hi2 ?_
  refine pw_aload_n dc_Law_law_365 rfl rfl ?_
  refine pw_callS (vs := [.ref x1, .int (eI σ x0 (ix (x4 + 1))), .int (eI σ x0 (ix (x4 + 2))), .ref x3]) (st := []) dc_Law_law_366 cq_Law_group (List.mem_of_getElem? (i := 740) (by decide +kernel)) (List.mem_of_getElem? (i := 739) (by decide +kernel)) rfl rfl (cat_cons rfl (cat_cons rfl (cat_cons rfl (cat_cons rfl (cat_nil))))) (Nat.le_of_ble_eq_true rfl) (PW.mono (kI_kN (fun r1 σ1 h => ?_)) h)
  refine pw_istore dc_Law_law_369 (by decide) ?_
  refine pw_aload_n dc_Law_law_371 rfl rfl ?_
  refine pw_aload_n dc_Law_law_372 rfl rfl ?_
  refine pw_iload dc_Law_law_373 rfl ?_
  refine pw_iconst (v := 1) dc_Law_law_375 (by decide) ?_
  refine pw_iadd dc_Law_law_376 ?_
  obtain ⟨n2, hs2, h⟩ := h
  obtain ⟨hi3, h⟩ := h
  refine pw_iald0 dc_Law_law_377 hs2 hi3 ?_
  refine pw_aload_n dc_Law_law_378 rfl rfl ?_
  refine pw_iload dc_Law_law_379 rfl ?_
  refine pw_iconst (v := 2) dc_Law_law_381 (by decide) ?_
  refine pw_iadd dc_Law_law_382 ?_
  obtain ⟨hi4, h⟩ := h
  refine pw_iald0 dc_Law_law_383 hs2 hi4 ?_
  obtain ⟨hs3, h⟩ := h
  refine pw_callV (vs := [.int (eI σ1 x0 (ix (x4 + 1))), .int (eI σ1 x0 (ix (x4 + 2)))]) (st := []) (b := x2) (cn := 11) dc_Law_law_384 cq_Mod_group (List.mem_of_getElem? (i := 1259) (by decide +kernel)) (List.mem_of_getElem? (i := 1260) (by decide +kernel)) (List.mem_of_getElem? (i := 1258) (by decide +kernel)) rfl hs3 rfl rfl (by decide) (cat_cons rfl (cat_cons rfl (cat_nil))) (Nat.le_of_ble_eq_true rfl) (PW.mono (kI_kN (fun r2 σ2 h => ?_)) h)
  refine pw_istore dc_Law_law_387 (by decide) ?_
  refine pw_aload_n dc_Law_law_389 rfl rfl ?_
  obtain ⟨hs4, h⟩ := h
  refine pw_callV (vs := []) (st := []) (b := x2) (cn := 11) dc_Law_law_390 cq_Mod_thrown (List.mem_of_getElem? (i := 1121) (by decide +kernel)) (List.mem_of_getElem? (i := 1122) (by decide +kernel)) (List.mem_of_getElem? (i := 1120) (by decide +kernel)) rfl hs4 rfl rfl (by decide) (cat_nil) (Nat.le_of_ble_eq_true rfl) (PW.mono (kI_kN (fun r3 σ3 h => ?_)) h)
  refine pw_iload dc_Law_law_393 rfl ?_
  refine pw_icmp_eq (tgt := 400) dc_Law_law_395 (by decide) (fun hc => ?_) (fun hc => ?_)
  · have h := ite_t h hc
    refine pw_iload dc_Law_law_400 rfl ?_
    refine pw_if_ne (tgt := 417) dc_Law_law_402 (by decide) (fun hc => ?_) (fun hc => ?_)
    · have h := ite_f h hc
      refine PW.drop (ls' := [.ref x0, .ref x1, .ref x2, .ref x3, .int x4, uu, uu]) ⟨Or.inl rfl, Or.inl rfl, Or.inl rfl, Or.inl rfl, Or.inl rfl, Or.inr rfl, Or.inr rfl, trivial⟩ ?_
      exact h
    · have h := ite_t h hc
      refine pw_aload_n dc_Law_law_405 rfl rfl ?_
      refine pw_iconst (v := 0) dc_Law_law_406 (by decide) ?_
      obtain ⟨n3, hs5, h⟩ := h
      obtain ⟨hi5, h⟩ := h
      refine pw_lald dc_Law_law_407 hs5 hi5 ?_
      refine pw_iload dc_Law_law_408 rfl ?_
      refine pw_i2l dc_Law_law_410 ?_
      refine pw_lcmp dc_Law_law_411 ?_
      refine pw_if_eq (tgt := 417) dc_Law_law_412 (by decide) (fun hc => ?_) (fun hc => ?_)
      · have h := ite_t h hc
        refine PW.drop (ls' := [.ref x0, .ref x1, .ref x2, .ref x3, .int x4, uu, uu]) ⟨Or.inl rfl, Or.inl rfl, Or.inl rfl, Or.inl rfl, Or.inl rfl, Or.inr rfl, Or.inr rfl, trivial⟩ ?_
        exact h
      · have h := ite_f h hc
        refine pw_iconst (v := 0) dc_Law_law_415 (by decide) ?_
        exact pw_iret dc_Law_law_416 rfl (bo_nar (Or.inl rfl)) h
  · have h := ite_f h hc
    refine pw_iconst (v := 0) dc_Law_law_398 (by decide) ?_
    exact pw_iret dc_Law_law_399 rfl (bo_nar (Or.inl rfl)) h
set_option maxRecDepth 20000 in
theorem e_Law_law_417 {d : Nat} {σ : PH} {K : PO → PH → Prop} (x0 : Nat) (x1 : Nat) (x2 : Nat) (x3 : Nat) (x4 : Int32) (h : PW (d + 1) M_Law_law 976 [.ref x0, .ref x1, .ref x2, .ref x3, .int x4, uu, uu] [] σ K) : PW (d + 1) M_Law_law 417 [.ref x0, .ref x1, .ref x2, .ref x3, .int x4, uu, uu] [] σ K := by
  refine pw_goto (tgt := 976) dc_Law_law_417 (by decide) ?_
  exact h
set_option maxRecDepth 20000 in
theorem e_Law_law_420 {d : Nat} {σ : PH} {K : PO → PH → Prop} (x0 : Nat) (x1 : Nat) (x2 : Nat) (x3 : Nat) (x4 : Int32) (h : (∃ n1 : Nat, sh σ x0 = (10, n1) ∧ vp_in (x4 + 1) n1 ∧ vp_in (x4 + 2) n1 ∧ (if (eI σ x0 (ix (x4 + 2))) = 0 then PW (d + 1) M_Law_law 441 [.ref x0, .ref x1, .ref x2, .ref x3, .int x4, uu, uu] [.int 0, .int (eI σ x0 (ix (x4 + 1))), .ref x1] σ K else PW (d + 1) M_Law_law 441 [.ref x0, .ref x1, .ref x2, .ref x3, .int x4, uu, uu] [.int 1, .int (eI σ x0 (ix (x4 + 1))), .ref x1] σ K))) : PW (d + 1) M_Law_law 420 [.ref x0, .ref x1, .ref x2, .ref x3, .int x4, uu, uu] [] σ K := by
  refine pw_aload_n dc_Law_law_420 rfl rfl ?_
  refine pw_aload_n dc_Law_law_421 rfl rfl ?_
  refine pw_iload dc_Law_law_422 rfl ?_
  refine pw_iconst (v := 1) dc_Law_law_424 (by decide) ?_
  refine pw_iadd dc_Law_law_425 ?_
  obtain ⟨n1, hs1, h⟩ := h
  obtain ⟨hi1, h⟩ := h
  refine pw_iald0 dc_Law_law_426 hs1 hi1 ?_
  refine pw_aload_n dc_Law_law_427 rfl rfl ?_
  refine pw_iload dc_Law_law_428 rfl ?_
  refine pw_iconst (v := 2) dc_Law_law_430 (by decide) ?_
  refine pw_iadd dc_Law_law_431 ?_
  obtain ⟨hi2, h⟩ := h
  refine pw_iald0 dc_Law_law_432 hs1 hi2 ?_
  refine pw_if_eq (tgt := 440) dc_Law_law_433 (by decide) (fun hc => ?_) (fun hc => ?_)
  · have h := ite_t h hc
    refine pw_iconst (v := 0) dc_Law_law_440 (by decide) ?_
    exact h
  · have h := ite_f h hc
    refine pw_iconst (v := 1) dc_Law_law_436 (by decide) ?_
    refine pw_goto (tgt := 441) dc_Law_law_437 (by decide) ?_
    exact h
set_option maxRecDepth 20000 in
theorem e_Law_law_441 {d : Nat} {σ : PH} {K : PO → PH → Prop} (x0 : Nat) (x1 : Nat) (x2 : Nat) (x3 : Nat) (x4 : Int32) (y0 : Int32) (y1 : Int32) (y2 : Nat) (h : PW d M_Law_open 0 [.ref y2, .int y1, .int y0, .ref x3, uu] [] σ (kI (fun r1 σ1 => (∃ n1 : Nat, sh σ1 x0 = (10, n1) ∧ vp_in (x4 + 1) n1 ∧ vp_in (x4 + 2) n1 ∧ (if (eI σ1 x0 (ix (x4 + 2))) = 0 then PW (d + 1) M_Law_law 468 [.ref x0, .ref x1, .ref x2, .ref x3, .int x4, .int r1, uu] [.int 0, .int (eI σ1 x0 (ix (x4 + 1))), .ref x2] σ1 K else PW (d + 1) M_Law_law 468 [.ref x0, .ref x1, .ref x2, .ref x3, .int x4, .int r1, uu] [.int 1, .int (eI σ1 x0 (ix (x4 + 1))), .ref x2] σ1 K))) K)) : PW (d + 1) M_Law_law 441 [.ref x0, .ref x1, .ref x2, .ref x3, .int x4, uu, uu] [.int y0, .int y1, .ref y2] σ K := by
  refine pw_aload_n dc_Law_law_441 rfl rfl ?_
  refine pw_callS (vs := [.ref y2, .int y1, .int y0, .ref x3]) (st := []) dc_Law_law_442 cq_Law_open (List.mem_of_getElem? (i := 760) (by decide +kernel)) (List.mem_of_getElem? (i := 759) (by decide +kernel)) rfl rfl (cat_cons rfl (cat_cons rfl (cat_cons rfl (cat_cons rfl (cat_nil))))) (Nat.le_of_ble_eq_true rfl) (PW.mono (kI_kN (fun r1 σ1 h => ?_)) h)
  refine pw_istore dc_Law_law_445 (by decide) ?_
  refine pw_aload_n dc_Law_law_447 rfl rfl ?_
  refine pw_aload_n dc_Law_law_448 rfl rfl ?_
  refine pw_iload dc_Law_law_449 rfl ?_
  refine pw_iconst (v := 1) dc_Law_law_451 (by decide) ?_
  refine pw_iadd dc_Law_law_452 ?_
  obtain ⟨n1, hs1, h⟩ := h
  obtain ⟨hi1, h⟩ := h
  refine pw_iald0 dc_Law_law_453 hs1 hi1 ?_
  refine pw_aload_n dc_Law_law_454 rfl rfl ?_
  refine pw_iload dc_Law_law_455 rfl ?_
  refine pw_iconst (v := 2) dc_Law_law_457 (by decide) ?_
  refine pw_iadd dc_Law_law_458 ?_
  obtain ⟨hi2, h⟩ := h
  refine pw_iald0 dc_Law_law_459 hs1 hi2 ?_
  refine pw_if_eq (tgt := 467) dc_Law_law_460 (by decide) (fun hc => ?_) (fun hc => ?_)
  · have h := ite_t h hc
    refine pw_iconst (v := 0) dc_Law_law_467 (by decide) ?_
    exact h
  · have h := ite_f h hc
    refine pw_iconst (v := 1) dc_Law_law_463 (by decide) ?_
    refine pw_goto (tgt := 468) dc_Law_law_464 (by decide) ?_
    exact h
set_option maxRecDepth 20000 in
theorem e_Law_law_468 {d : Nat} {σ : PH} {K : PO → PH → Prop} (x0 : Nat) (x1 : Nat) (x2 : Nat) (x3 : Nat) (x4 : Int32) (x5 : Int32) (y0 : Int32) (y1 : Int32) (y2 : Nat) (h : sh σ y2 = (1, 11) ∧ PW d M_Mod_open 0 [.ref y2, .int y1, .int y0, uu] [] σ (kI (fun r1 σ1 => sh σ1 x2 = (1, 11) ∧ PW d M_Mod_thrown 0 [.ref x2] [] σ1 (kI (fun r2 σ2 => (if r2 = x5 then (if x5 = 0 then (∃ n1 : Nat, sh σ2 x3 = (5, n1) ∧ vp_in 0 n1 ∧ (if r1 = 0 then PW (d + 1) M_Law_law 502 [.ref x0, .ref x1, .ref x2, .ref x3, .int x4, uu, uu] [.long 0, .long (eL σ2 x3 (ix 0))] σ2 K else PW (d + 1) M_Law_law 502 [.ref x0, .ref x1, .ref x2, .ref x3, .int x4, uu, uu] [.long 1, .long (eL σ2 x3 (ix 0))] σ2 K)) else PW (d + 1) M_Law_law 508 [.ref x0, .ref x1, .ref x2, .ref x3, .int x4, uu, uu] [] σ2 K) else K (.inl (some (.int 0))) σ2)) K)) K)) : PW (d + 1) M_Law_law 468 [.ref x0, .ref x1, .ref x2, .ref x3, .int x4, .int x5, uu] [.int y0, .int y1, .ref y2] σ K := by
  obtain ⟨hs1, h⟩ := h
  refine pw_callV (vs := [.int y1, .int y0]) (st := []) (b := y2) (cn := 11) dc_Law_law_468 cq_Mod_open (List.mem_of_getElem? (i := 1271) (by decide +kernel)) (List.mem_of_getElem? (i := 1272) (by decide +kernel)) (List.mem_of_getElem? (i := 1270) (by decide +kernel)) rfl hs1 rfl rfl (by decide) (cat_cons rfl (cat_cons rfl (cat_nil))) (Nat.le_of_ble_eq_true rfl) (PW.mono (kI_kN (fun r1 σ1 h => ?_)) h)
  refine pw_istore dc_Law_law_471 (by decide) ?_
  refine pw_aload_n dc_Law_law_473 rfl rfl ?_
  obtain ⟨hs2, h⟩ := h
  refine pw_callV (vs := []) (st := []) (b := x2) (cn := 11) dc_Law_law_474 cq_Mod_thrown (List.mem_of_getElem? (i := 1121) (by decide +kernel)) (List.mem_of_getElem? (i := 1122) (by decide +kernel)) (List.mem_of_getElem? (i := 1120) (by decide +kernel)) rfl hs2 rfl rfl (by decide) (cat_nil) (Nat.le_of_ble_eq_true rfl) (PW.mono (kI_kN (fun r2 σ2 h => ?_)) h)
  refine pw_iload dc_Law_law_477 rfl ?_
  refine pw_icmp_eq (tgt := 484) dc_Law_law_479 (by decide) (fun hc => ?_) (fun hc => ?_)
  · have h := ite_t h hc
    refine pw_iload dc_Law_law_484 rfl ?_
    refine pw_if_ne (tgt := 508) dc_Law_law_486 (by decide) (fun hc => ?_) (fun hc => ?_)
    · have h := ite_f h hc
      refine PW.drop (ls' := [.ref x0, .ref x1, .ref x2, .ref x3, .int x4, uu, uu]) ⟨Or.inl rfl, Or.inl rfl, Or.inl rfl, Or.inl rfl, Or.inl rfl, Or.inr rfl, Or.inr rfl, trivial⟩ ?_
      exact h
    · have h := ite_t h hc
      refine pw_aload_n dc_Law_law_489 rfl rfl ?_
      refine pw_iconst (v := 0) dc_Law_law_490 (by decide) ?_
      obtain ⟨n1, hs3, h⟩ := h
      obtain ⟨hi1, h⟩ := h
      refine pw_lald dc_Law_law_491 hs3 hi1 ?_
      refine pw_iload dc_Law_law_492 rfl ?_
      refine pw_if_eq (tgt := 501) dc_Law_law_494 (by decide) (fun hc => ?_) (fun hc => ?_)
      · have h := ite_t h hc
        refine pw_lconst (v := 0) dc_Law_law_501 (by decide) ?_
        refine PW.drop (ls' := [.ref x0, .ref x1, .ref x2, .ref x3, .int x4, uu, uu]) ⟨Or.inl rfl, Or.inl rfl, Or.inl rfl, Or.inl rfl, Or.inl rfl, Or.inr rfl, Or.inr rfl, trivial⟩ ?_
        exact h
      · have h := ite_f h hc
        refine pw_lconst (v := 1) dc_Law_law_497 (by decide) ?_
        refine pw_goto (tgt := 502) dc_Law_law_498 (by decide) ?_
        refine PW.drop (ls' := [.ref x0, .ref x1, .ref x2, .ref x3, .int x4, uu, uu]) ⟨Or.inl rfl, Or.inl rfl, Or.inl rfl, Or.inl rfl, Or.inl rfl, Or.inr rfl, Or.inr rfl, trivial⟩ ?_
        exact h
  · have h := ite_f h hc
    refine pw_iconst (v := 0) dc_Law_law_482 (by decide) ?_
    exact pw_iret dc_Law_law_483 rfl (bo_nar (Or.inl rfl)) h
set_option maxRecDepth 20000 in
theorem e_Law_law_502 {d : Nat} {σ : PH} {K : PO → PH → Prop} (x0 : Nat) (x1 : Nat) (x2 : Nat) (x3 : Nat) (x4 : Int32) (y0 : Int64) (y1 : Int64) (h : (if (lg_cmp y1 y0) = 0 then PW (d + 1) M_Law_law 508 [.ref x0, .ref x1, .ref x2, .ref x3, .int x4, uu, uu] [] σ K else K (.inl (some (.int 0))) σ)) : PW (d + 1) M_Law_law 502 [.ref x0, .ref x1, .ref x2, .ref x3, .int x4, uu, uu] [.long y0, .long y1] σ K := by
  refine pw_lcmp dc_Law_law_502 ?_
  refine pw_if_eq (tgt := 508) dc_Law_law_503 (by decide) (fun hc => ?_) (fun hc => ?_)
  · have h := ite_t h hc
    exact h
  · have h := ite_f h hc
    refine pw_iconst (v := 0) dc_Law_law_506 (by decide) ?_
    exact pw_iret dc_Law_law_507 rfl (bo_nar (Or.inl rfl)) h
set_option maxRecDepth 20000 in
theorem e_Law_law_508 {d : Nat} {σ : PH} {K : PO → PH → Prop} (x0 : Nat) (x1 : Nat) (x2 : Nat) (x3 : Nat) (x4 : Int32) (h : PW (d + 1) M_Law_law 976 [.ref x0, .ref x1, .ref x2, .ref x3, .int x4, uu, uu] [] σ K) : PW (d + 1) M_Law_law 508 [.ref x0, .ref x1, .ref x2, .ref x3, .int x4, uu, uu] [] σ K := by
  refine pw_goto (tgt := 976) dc_Law_law_508 (by decide) ?_
  exact h
set_option maxRecDepth 20000 in
theorem e_Law_law_511 {d : Nat} {σ : PH} {K : PO → PH → Prop} (x0 : Nat) (x1 : Nat) (x2 : Nat) (x3 : Nat) (x4 : Int32) (h : (∃ n1 : Nat, sh σ x0 = (10, n1) ∧ vp_in (x4 + 1) n1 ∧ PW d M_Law_send 0 [.ref x1, .int (eI σ x0 (ix (x4 + 1))), .ref x3, uu] [] σ (kI (fun r1 σ1 => (∃ n2 : Nat, sh σ1 x0 = (10, n2) ∧ vp_in (x4 + 1) n2 ∧ sh σ1 x2 = (1, 11) ∧ PW d M_Mod_send 0 [.ref x2, .int (eI σ1 x0 (ix (x4 + 1))), uu] [] σ1 (kI (fun r2 σ2 => sh σ2 x2 = (1, 11) ∧ PW d M_Mod_thrown 0 [.ref x2] [] σ2 (kI (fun r3 σ3 => (if r3 = r1 then (if r1 = 0 then (∃ n3 : Nat, sh σ3 x3 = (5, n3) ∧ vp_in 0 n3 ∧ (if (lg_cmp (eL σ3 x3 (ix 0)) r2.toInt64) = 0 then PW (d + 1) M_Law_law 564 [.ref x0, .ref x1, .ref x2, .ref x3, .int x4, uu, uu] [] σ3 K else K (.inl (some (.int 0))) σ3)) else PW (d + 1) M_Law_law 564 [.ref x0, .ref x1, .ref x2, .ref x3, .int x4, uu, uu] [] σ3 K) else K (.inl (some (.int 0))) σ3)) K)) K))) K))) : PW (d + 1) M_Law_law 511 [.ref x0, .ref x1, .ref x2, .ref x3, .int x4, uu, uu] [] σ K := by
  refine pw_aload_n dc_Law_law_511 rfl rfl ?_
  refine pw_aload_n dc_Law_law_512 rfl rfl ?_
  refine pw_iload dc_Law_law_513 rfl ?_
  refine pw_iconst (v := 1) dc_Law_law_515 (by decide) ?_
  refine pw_iadd dc_Law_law_516 ?_
  obtain ⟨n1, hs1, h⟩ := h
  obtain ⟨hi1, h⟩ := h
  refine pw_iald0 dc_Law_law_517 hs1 hi1 ?_
  refine pw_aload_n dc_Law_law_518 rfl rfl ?_
  refine pw_callS (vs := [.ref x1, .int (eI σ x0 (ix (x4 + 1))), .ref x3]) (st := []) dc_Law_law_519 cq_Law_send (List.mem_of_getElem? (i := 771) (by decide +kernel)) (List.mem_of_getElem? (i := 770) (by decide +kernel)) rfl rfl (cat_cons rfl (cat_cons rfl (cat_cons rfl (cat_nil)))) (Nat.le_of_ble_eq_true rfl) (PW.mono (kI_kN (fun r1 σ1 h => ?_)) h)
  refine pw_istore dc_Law_law_522 (by decide) ?_
  refine pw_aload_n dc_Law_law_524 rfl rfl ?_
  refine pw_aload_n dc_Law_law_525 rfl rfl ?_
  refine pw_iload dc_Law_law_526 rfl ?_
  refine pw_iconst (v := 1) dc_Law_law_528 (by decide) ?_
  refine pw_iadd dc_Law_law_529 ?_
  obtain ⟨n2, hs2, h⟩ := h
  obtain ⟨hi2, h⟩ := h
  refine pw_iald0 dc_Law_law_530 hs2 hi2 ?_
  obtain ⟨hs3, h⟩ := h
  refine pw_callV (vs := [.int (eI σ1 x0 (ix (x4 + 1)))]) (st := []) (b := x2) (cn := 11) dc_Law_law_531 cq_Mod_send (List.mem_of_getElem? (i := 1275) (by decide +kernel)) (List.mem_of_getElem? (i := 1276) (by decide +kernel)) (List.mem_of_getElem? (i := 1274) (by decide +kernel)) rfl hs3 rfl rfl (by decide) (cat_cons rfl (cat_nil)) (Nat.le_of_ble_eq_true rfl) (PW.mono (kI_kN (fun r2 σ2 h => ?_)) h)
  refine pw_istore dc_Law_law_534 (by decide) ?_
  refine pw_aload_n dc_Law_law_536 rfl rfl ?_
  obtain ⟨hs4, h⟩ := h
  refine pw_callV (vs := []) (st := []) (b := x2) (cn := 11) dc_Law_law_537 cq_Mod_thrown (List.mem_of_getElem? (i := 1121) (by decide +kernel)) (List.mem_of_getElem? (i := 1122) (by decide +kernel)) (List.mem_of_getElem? (i := 1120) (by decide +kernel)) rfl hs4 rfl rfl (by decide) (cat_nil) (Nat.le_of_ble_eq_true rfl) (PW.mono (kI_kN (fun r3 σ3 h => ?_)) h)
  refine pw_iload dc_Law_law_540 rfl ?_
  refine pw_icmp_eq (tgt := 547) dc_Law_law_542 (by decide) (fun hc => ?_) (fun hc => ?_)
  · have h := ite_t h hc
    refine pw_iload dc_Law_law_547 rfl ?_
    refine pw_if_ne (tgt := 564) dc_Law_law_549 (by decide) (fun hc => ?_) (fun hc => ?_)
    · have h := ite_f h hc
      refine PW.drop (ls' := [.ref x0, .ref x1, .ref x2, .ref x3, .int x4, uu, uu]) ⟨Or.inl rfl, Or.inl rfl, Or.inl rfl, Or.inl rfl, Or.inl rfl, Or.inr rfl, Or.inr rfl, trivial⟩ ?_
      exact h
    · have h := ite_t h hc
      refine pw_aload_n dc_Law_law_552 rfl rfl ?_
      refine pw_iconst (v := 0) dc_Law_law_553 (by decide) ?_
      obtain ⟨n3, hs5, h⟩ := h
      obtain ⟨hi3, h⟩ := h
      refine pw_lald dc_Law_law_554 hs5 hi3 ?_
      refine pw_iload dc_Law_law_555 rfl ?_
      refine pw_i2l dc_Law_law_557 ?_
      refine pw_lcmp dc_Law_law_558 ?_
      refine pw_if_eq (tgt := 564) dc_Law_law_559 (by decide) (fun hc => ?_) (fun hc => ?_)
      · have h := ite_t h hc
        refine PW.drop (ls' := [.ref x0, .ref x1, .ref x2, .ref x3, .int x4, uu, uu]) ⟨Or.inl rfl, Or.inl rfl, Or.inl rfl, Or.inl rfl, Or.inl rfl, Or.inr rfl, Or.inr rfl, trivial⟩ ?_
        exact h
      · have h := ite_f h hc
        refine pw_iconst (v := 0) dc_Law_law_562 (by decide) ?_
        exact pw_iret dc_Law_law_563 rfl (bo_nar (Or.inl rfl)) h
  · have h := ite_f h hc
    refine pw_iconst (v := 0) dc_Law_law_545 (by decide) ?_
    exact pw_iret dc_Law_law_546 rfl (bo_nar (Or.inl rfl)) h
set_option maxRecDepth 20000 in
theorem e_Law_law_564 {d : Nat} {σ : PH} {K : PO → PH → Prop} (x0 : Nat) (x1 : Nat) (x2 : Nat) (x3 : Nat) (x4 : Int32) (h : PW (d + 1) M_Law_law 976 [.ref x0, .ref x1, .ref x2, .ref x3, .int x4, uu, uu] [] σ K) : PW (d + 1) M_Law_law 564 [.ref x0, .ref x1, .ref x2, .ref x3, .int x4, uu, uu] [] σ K := by
  refine pw_goto (tgt := 976) dc_Law_law_564 (by decide) ?_
  exact h
set_option maxRecDepth 20000 in
theorem e_Law_law_567 {d : Nat} {σ : PH} {K : PO → PH → Prop} (x0 : Nat) (x1 : Nat) (x2 : Nat) (x3 : Nat) (x4 : Int32) (h : (∃ n1 : Nat, sh σ x0 = (10, n1) ∧ vp_in (x4 + 1) n1 ∧ vp_in (x4 + 2) n1 ∧ PW d M_Law_rerun 0 [.ref x1, .int (eI σ x0 (ix (x4 + 1))), .int (eI σ x0 (ix (x4 + 2))), .ref x3, uu] [] σ (kI (fun r1 σ1 => (∃ n2 : Nat, sh σ1 x0 = (10, n2) ∧ vp_in (x4 + 1) n2 ∧ vp_in (x4 + 2) n2 ∧ sh σ1 x2 = (1, 11) ∧ PW d M_Mod_rerun 0 [.ref x2, .int (eI σ1 x0 (ix (x4 + 1))), .int (eI σ1 x0 (ix (x4 + 2))), uu, uu, uu] [] σ1 (kI (fun r2 σ2 => sh σ2 x2 = (1, 11) ∧ PW d M_Mod_thrown 0 [.ref x2] [] σ2 (kI (fun r3 σ3 => (if r3 = r1 then (if r1 = 0 then (∃ n3 : Nat, sh σ3 x3 = (5, n3) ∧ vp_in 0 n3 ∧ (if r2 = 0 then PW (d + 1) M_Law_law 633 [.ref x0, .ref x1, .ref x2, .ref x3, .int x4, uu, uu] [.long 0, .long (eL σ3 x3 (ix 0))] σ3 K else PW (d + 1) M_Law_law 633 [.ref x0, .ref x1, .ref x2, .ref x3, .int x4, uu, uu] [.long 1, .long (eL σ3 x3 (ix 0))] σ3 K)) else PW (d + 1) M_Law_law 639 [.ref x0, .ref x1, .ref x2, .ref x3, .int x4, uu, uu] [] σ3 K) else K (.inl (some (.int 0))) σ3)) K)) K))) K))) : PW (d + 1) M_Law_law 567 [.ref x0, .ref x1, .ref x2, .ref x3, .int x4, uu, uu] [] σ K := by
  refine pw_aload_n dc_Law_law_567 rfl rfl ?_
  refine pw_aload_n dc_Law_law_568 rfl rfl ?_
  refine pw_iload dc_Law_law_569 rfl ?_
  refine pw_iconst (v := 1) dc_Law_law_571 (by decide) ?_
  refine pw_iadd dc_Law_law_572 ?_
  obtain ⟨n1, hs1, h⟩ := h
  obtain ⟨hi1, h⟩ := h
  refine pw_iald0 dc_Law_law_573 hs1 hi1 ?_
  refine pw_aload_n dc_Law_law_574 rfl rfl ?_
  refine pw_iload dc_Law_law_575 rfl ?_
  refine pw_iconst (v := 2) dc_Law_law_577 (by decide) ?_
  refine pw_iadd dc_Law_law_578 ?_
  obtain ⟨hi2, h⟩ := h
  refine pw_iald0 dc_Law_law_579 hs1 hi2 ?_
  refine pw_aload_n dc_Law_law_580 rfl rfl ?_
  refine pw_callS (vs := [.ref x1, .int (eI σ x0 (ix (x4 + 1))), .int (eI σ x0 (ix (x4 + 2))), .ref x3]) (st := []) dc_Law_law_581 cq_Law_rerun (List.mem_of_getElem? (i := 894) (by decide +kernel)) (List.mem_of_getElem? (i := 893) (by decide +kernel)) rfl rfl (cat_cons rfl (cat_cons rfl (cat_cons rfl (cat_cons rfl (cat_nil))))) (Nat.le_of_ble_eq_true rfl) (PW.mono (kI_kN (fun r1 σ1 h => ?_)) h)
  refine pw_istore dc_Law_law_584 (by decide) ?_
  refine pw_aload_n dc_Law_law_586 rfl rfl ?_
  refine pw_aload_n dc_Law_law_587 rfl rfl ?_
  refine pw_iload dc_Law_law_588 rfl ?_
  refine pw_iconst (v := 1) dc_Law_law_590 (by decide) ?_
  refine pw_iadd dc_Law_law_591 ?_
  obtain ⟨n2, hs2, h⟩ := h
  obtain ⟨hi3, h⟩ := h
  refine pw_iald0 dc_Law_law_592 hs2 hi3 ?_
  refine pw_aload_n dc_Law_law_593 rfl rfl ?_
  refine pw_iload dc_Law_law_594 rfl ?_
  refine pw_iconst (v := 2) dc_Law_law_596 (by decide) ?_
  refine pw_iadd dc_Law_law_597 ?_
  obtain ⟨hi4, h⟩ := h
  refine pw_iald0 dc_Law_law_598 hs2 hi4 ?_
  obtain ⟨hs3, h⟩ := h
  refine pw_callV (vs := [.int (eI σ1 x0 (ix (x4 + 1))), .int (eI σ1 x0 (ix (x4 + 2)))]) (st := []) (b := x2) (cn := 11) dc_Law_law_599 cq_Mod_rerun (List.mem_of_getElem? (i := 1310) (by decide +kernel)) (List.mem_of_getElem? (i := 1311) (by decide +kernel)) (List.mem_of_getElem? (i := 1309) (by decide +kernel)) rfl hs3 rfl rfl (by decide) (cat_cons rfl (cat_cons rfl (cat_nil))) (Nat.le_of_ble_eq_true rfl) (PW.mono (kI_kN (fun r2 σ2 h => ?_)) h)
  refine pw_istore dc_Law_law_602 (by decide) ?_
  refine pw_aload_n dc_Law_law_604 rfl rfl ?_
  obtain ⟨hs4, h⟩ := h
  refine pw_callV (vs := []) (st := []) (b := x2) (cn := 11) dc_Law_law_605 cq_Mod_thrown (List.mem_of_getElem? (i := 1121) (by decide +kernel)) (List.mem_of_getElem? (i := 1122) (by decide +kernel)) (List.mem_of_getElem? (i := 1120) (by decide +kernel)) rfl hs4 rfl rfl (by decide) (cat_nil) (Nat.le_of_ble_eq_true rfl) (PW.mono (kI_kN (fun r3 σ3 h => ?_)) h)
  refine pw_iload dc_Law_law_608 rfl ?_
  refine pw_icmp_eq (tgt := 615) dc_Law_law_610 (by decide) (fun hc => ?_) (fun hc => ?_)
  · have h := ite_t h hc
    refine pw_iload dc_Law_law_615 rfl ?_
    refine pw_if_ne (tgt := 639) dc_Law_law_617 (by decide) (fun hc => ?_) (fun hc => ?_)
    · have h := ite_f h hc
      refine PW.drop (ls' := [.ref x0, .ref x1, .ref x2, .ref x3, .int x4, uu, uu]) ⟨Or.inl rfl, Or.inl rfl, Or.inl rfl, Or.inl rfl, Or.inl rfl, Or.inr rfl, Or.inr rfl, trivial⟩ ?_
      exact h
    · have h := ite_t h hc
      refine pw_aload_n dc_Law_law_620 rfl rfl ?_
      refine pw_iconst (v := 0) dc_Law_law_621 (by decide) ?_
      obtain ⟨n3, hs5, h⟩ := h
      obtain ⟨hi5, h⟩ := h
      refine pw_lald dc_Law_law_622 hs5 hi5 ?_
      refine pw_iload dc_Law_law_623 rfl ?_
      refine pw_if_eq (tgt := 632) dc_Law_law_625 (by decide) (fun hc => ?_) (fun hc => ?_)
      · have h := ite_t h hc
        refine pw_lconst (v := 0) dc_Law_law_632 (by decide) ?_
        refine PW.drop (ls' := [.ref x0, .ref x1, .ref x2, .ref x3, .int x4, uu, uu]) ⟨Or.inl rfl, Or.inl rfl, Or.inl rfl, Or.inl rfl, Or.inl rfl, Or.inr rfl, Or.inr rfl, trivial⟩ ?_
        exact h
      · have h := ite_f h hc
        refine pw_lconst (v := 1) dc_Law_law_628 (by decide) ?_
        refine pw_goto (tgt := 633) dc_Law_law_629 (by decide) ?_
        refine PW.drop (ls' := [.ref x0, .ref x1, .ref x2, .ref x3, .int x4, uu, uu]) ⟨Or.inl rfl, Or.inl rfl, Or.inl rfl, Or.inl rfl, Or.inl rfl, Or.inr rfl, Or.inr rfl, trivial⟩ ?_
        exact h
  · have h := ite_f h hc
    refine pw_iconst (v := 0) dc_Law_law_613 (by decide) ?_
    exact pw_iret dc_Law_law_614 rfl (bo_nar (Or.inl rfl)) h
set_option maxRecDepth 20000 in
theorem e_Law_law_633 {d : Nat} {σ : PH} {K : PO → PH → Prop} (x0 : Nat) (x1 : Nat) (x2 : Nat) (x3 : Nat) (x4 : Int32) (y0 : Int64) (y1 : Int64) (h : (if (lg_cmp y1 y0) = 0 then PW (d + 1) M_Law_law 639 [.ref x0, .ref x1, .ref x2, .ref x3, .int x4, uu, uu] [] σ K else K (.inl (some (.int 0))) σ)) : PW (d + 1) M_Law_law 633 [.ref x0, .ref x1, .ref x2, .ref x3, .int x4, uu, uu] [.long y0, .long y1] σ K := by
  refine pw_lcmp dc_Law_law_633 ?_
  refine pw_if_eq (tgt := 639) dc_Law_law_634 (by decide) (fun hc => ?_) (fun hc => ?_)
  · have h := ite_t h hc
    exact h
  · have h := ite_f h hc
    refine pw_iconst (v := 0) dc_Law_law_637 (by decide) ?_
    exact pw_iret dc_Law_law_638 rfl (bo_nar (Or.inl rfl)) h
set_option maxRecDepth 20000 in
theorem e_Law_law_639 {d : Nat} {σ : PH} {K : PO → PH → Prop} (x0 : Nat) (x1 : Nat) (x2 : Nat) (x3 : Nat) (x4 : Int32) (h : PW (d + 1) M_Law_law 976 [.ref x0, .ref x1, .ref x2, .ref x3, .int x4, uu, uu] [] σ K) : PW (d + 1) M_Law_law 639 [.ref x0, .ref x1, .ref x2, .ref x3, .int x4, uu, uu] [] σ K := by
  refine pw_goto (tgt := 976) dc_Law_law_639 (by decide) ?_
  exact h
set_option maxRecDepth 20000 in
theorem e_Law_law_642 {d : Nat} {σ : PH} {K : PO → PH → Prop} (x0 : Nat) (x1 : Nat) (x2 : Nat) (x3 : Nat) (x4 : Int32) (h : (∃ n1 : Nat, sh σ x0 = (10, n1) ∧ vp_in (x4 + 1) n1 ∧ vp_in (x4 + 2) n1 ∧ PW d M_Law_queued 0 [.ref x1, .int (eI σ x0 (ix (x4 + 1))), .int (eI σ x0 (ix (x4 + 2))), .ref x3, uu] [] σ (kI (fun r1 σ1 => (∃ n2 : Nat, sh σ1 x0 = (10, n2) ∧ vp_in (x4 + 1) n2 ∧ vp_in (x4 + 2) n2 ∧ sh σ1 x2 = (1, 11) ∧ PW d M_Mod_queued 0 [.ref x2, .int (eI σ1 x0 (ix (x4 + 1))), .int (eI σ1 x0 (ix (x4 + 2))), uu, uu] [] σ1 (kI (fun r2 σ2 => sh σ2 x2 = (1, 11) ∧ PW d M_Mod_thrown 0 [.ref x2] [] σ2 (kI (fun r3 σ3 => (if r3 = r1 then (if r1 = 0 then (∃ n3 : Nat, sh σ3 x3 = (5, n3) ∧ vp_in 0 n3 ∧ (if (lg_cmp (eL σ3 x3 (ix 0)) r2.toInt64) = 0 then PW (d + 1) M_Law_law 707 [.ref x0, .ref x1, .ref x2, .ref x3, .int x4, uu, uu] [] σ3 K else K (.inl (some (.int 0))) σ3)) else PW (d + 1) M_Law_law 707 [.ref x0, .ref x1, .ref x2, .ref x3, .int x4, uu, uu] [] σ3 K) else K (.inl (some (.int 0))) σ3)) K)) K))) K))) : PW (d + 1) M_Law_law 642 [.ref x0, .ref x1, .ref x2, .ref x3, .int x4, uu, uu] [] σ K := by
  refine pw_aload_n dc_Law_law_642 rfl rfl ?_
  refine pw_aload_n dc_Law_law_643 rfl rfl ?_
  refine pw_iload dc_Law_law_644 rfl ?_
  refine pw_iconst (v := 1) dc_Law_law_646 (by decide) ?_
  refine pw_iadd dc_Law_law_647 ?_
  obtain ⟨n1, hs1, h⟩ := h
  obtain ⟨hi1, h⟩ := h
  refine pw_iald0 dc_Law_law_648 hs1 hi1 ?_
  refine pw_aload_n dc_Law_law_649 rfl rfl ?_
  refine pw_iload dc_Law_law_650 rfl ?_
  refine pw_iconst (v := 2) dc_Law_law_652 (by decide) ?_
  refine pw_iadd dc_Law_law_653 ?_
  obtain ⟨hi2, h⟩ := h
  refine pw_iald0 dc_Law_law_654 hs1 hi2 ?_
  refine pw_aload_n dc_Law_law_655 rfl rfl ?_
  refine pw_callS (vs := [.ref x1, .int (eI σ x0 (ix (x4 + 1))), .int (eI σ x0 (ix (x4 + 2))), .ref x3]) (st := []) dc_Law_law_656 cq_Law_queued (List.mem_of_getElem? (i := 905) (by decide +kernel)) (List.mem_of_getElem? (i := 904) (by decide +kernel)) rfl rfl (cat_cons rfl (cat_cons rfl (cat_cons rfl (cat_cons rfl (cat_nil))))) (Nat.le_of_ble_eq_true rfl) (PW.mono (kI_kN (fun r1 σ1 h => ?_)) h)
  refine pw_istore dc_Law_law_659 (by decide) ?_
  refine pw_aload_n dc_Law_law_661 rfl rfl ?_
  refine pw_aload_n dc_Law_law_662 rfl rfl ?_
  refine pw_iload dc_Law_law_663 rfl ?_
  refine pw_iconst (v := 1) dc_Law_law_665 (by decide) ?_
  refine pw_iadd dc_Law_law_666 ?_
  obtain ⟨n2, hs2, h⟩ := h
  obtain ⟨hi3, h⟩ := h
  refine pw_iald0 dc_Law_law_667 hs2 hi3 ?_
  refine pw_aload_n dc_Law_law_668 rfl rfl ?_
  refine pw_iload dc_Law_law_669 rfl ?_
  refine pw_iconst (v := 2) dc_Law_law_671 (by decide) ?_
  refine pw_iadd dc_Law_law_672 ?_
  obtain ⟨hi4, h⟩ := h
  refine pw_iald0 dc_Law_law_673 hs2 hi4 ?_
  obtain ⟨hs3, h⟩ := h
  refine pw_callV (vs := [.int (eI σ1 x0 (ix (x4 + 1))), .int (eI σ1 x0 (ix (x4 + 2)))]) (st := []) (b := x2) (cn := 11) dc_Law_law_674 cq_Mod_queued (List.mem_of_getElem? (i := 1314) (by decide +kernel)) (List.mem_of_getElem? (i := 1315) (by decide +kernel)) (List.mem_of_getElem? (i := 1313) (by decide +kernel)) rfl hs3 rfl rfl (by decide) (cat_cons rfl (cat_cons rfl (cat_nil))) (Nat.le_of_ble_eq_true rfl) (PW.mono (kI_kN (fun r2 σ2 h => ?_)) h)
  refine pw_istore dc_Law_law_677 (by decide) ?_
  refine pw_aload_n dc_Law_law_679 rfl rfl ?_
  obtain ⟨hs4, h⟩ := h
  refine pw_callV (vs := []) (st := []) (b := x2) (cn := 11) dc_Law_law_680 cq_Mod_thrown (List.mem_of_getElem? (i := 1121) (by decide +kernel)) (List.mem_of_getElem? (i := 1122) (by decide +kernel)) (List.mem_of_getElem? (i := 1120) (by decide +kernel)) rfl hs4 rfl rfl (by decide) (cat_nil) (Nat.le_of_ble_eq_true rfl) (PW.mono (kI_kN (fun r3 σ3 h => ?_)) h)
  refine pw_iload dc_Law_law_683 rfl ?_
  refine pw_icmp_eq (tgt := 690) dc_Law_law_685 (by decide) (fun hc => ?_) (fun hc => ?_)
  · have h := ite_t h hc
    refine pw_iload dc_Law_law_690 rfl ?_
    refine pw_if_ne (tgt := 707) dc_Law_law_692 (by decide) (fun hc => ?_) (fun hc => ?_)
    · have h := ite_f h hc
      refine PW.drop (ls' := [.ref x0, .ref x1, .ref x2, .ref x3, .int x4, uu, uu]) ⟨Or.inl rfl, Or.inl rfl, Or.inl rfl, Or.inl rfl, Or.inl rfl, Or.inr rfl, Or.inr rfl, trivial⟩ ?_
      exact h
    · have h := ite_t h hc
      refine pw_aload_n dc_Law_law_695 rfl rfl ?_
      refine pw_iconst (v := 0) dc_Law_law_696 (by decide) ?_
      obtain ⟨n3, hs5, h⟩ := h
      obtain ⟨hi5, h⟩ := h
      refine pw_lald dc_Law_law_697 hs5 hi5 ?_
      refine pw_iload dc_Law_law_698 rfl ?_
      refine pw_i2l dc_Law_law_700 ?_
      refine pw_lcmp dc_Law_law_701 ?_
      refine pw_if_eq (tgt := 707) dc_Law_law_702 (by decide) (fun hc => ?_) (fun hc => ?_)
      · have h := ite_t h hc
        refine PW.drop (ls' := [.ref x0, .ref x1, .ref x2, .ref x3, .int x4, uu, uu]) ⟨Or.inl rfl, Or.inl rfl, Or.inl rfl, Or.inl rfl, Or.inl rfl, Or.inr rfl, Or.inr rfl, trivial⟩ ?_
        exact h
      · have h := ite_f h hc
        refine pw_iconst (v := 0) dc_Law_law_705 (by decide) ?_
        exact pw_iret dc_Law_law_706 rfl (bo_nar (Or.inl rfl)) h
  · have h := ite_f h hc
    refine pw_iconst (v := 0) dc_Law_law_688 (by decide) ?_
    exact pw_iret dc_Law_law_689 rfl (bo_nar (Or.inl rfl)) h
set_option maxRecDepth 20000 in
theorem e_Law_law_707 {d : Nat} {σ : PH} {K : PO → PH → Prop} (x0 : Nat) (x1 : Nat) (x2 : Nat) (x3 : Nat) (x4 : Int32) (h : PW (d + 1) M_Law_law 976 [.ref x0, .ref x1, .ref x2, .ref x3, .int x4, uu, uu] [] σ K) : PW (d + 1) M_Law_law 707 [.ref x0, .ref x1, .ref x2, .ref x3, .int x4, uu, uu] [] σ K := by
  refine pw_goto (tgt := 976) dc_Law_law_707 (by decide) ?_
  exact h
set_option maxRecDepth 20000 in
theorem e_Law_law_710 {d : Nat} {σ : PH} {K : PO → PH → Prop} (x0 : Nat) (x1 : Nat) (x2 : Nat) (x3 : Nat) (x4 : Int32) (h : (∃ n1 : Nat, sh σ x0 = (10, n1) ∧ vp_in (x4 + 1) n1 ∧ vp_in (x4 + 2) n1 ∧ PW d M_Law_trace 0 [.ref x1, .int (eI σ x0 (ix (x4 + 1))), .int (eI σ x0 (ix (x4 + 2))), .ref x3, uu] [] σ (kI (fun r1 σ1 => (∃ n2 : Nat, sh σ1 x0 = (10, n2) ∧ vp_in (x4 + 1) n2 ∧ vp_in (x4 + 2) n2 ∧ sh σ1 x2 = (1, 11) ∧ PW d M_Mod_trace 0 [.ref x2, .int (eI σ1 x0 (ix (x4 + 1))), .int (eI σ1 x0 (ix (x4 + 2))), uu] [] σ1 (kI (fun r2 σ2 => sh σ2 x2 = (1, 11) ∧ PW d M_Mod_thrown 0 [.ref x2] [] σ2 (kI (fun r3 σ3 => (if r3 = r1 then (if r1 = 0 then (∃ n3 : Nat, sh σ3 x3 = (5, n3) ∧ vp_in 0 n3 ∧ (if (lg_cmp (eL σ3 x3 (ix 0)) r2.toInt64) = 0 then PW (d + 1) M_Law_law 775 [.ref x0, .ref x1, .ref x2, .ref x3, .int x4, uu, uu] [] σ3 K else K (.inl (some (.int 0))) σ3)) else PW (d + 1) M_Law_law 775 [.ref x0, .ref x1, .ref x2, .ref x3, .int x4, uu, uu] [] σ3 K) else K (.inl (some (.int 0))) σ3)) K)) K))) K))) : PW (d + 1) M_Law_law 710 [.ref x0, .ref x1, .ref x2, .ref x3, .int x4, uu, uu] [] σ K := by
  refine pw_aload_n dc_Law_law_710 rfl rfl ?_
  refine pw_aload_n dc_Law_law_711 rfl rfl ?_
  refine pw_iload dc_Law_law_712 rfl ?_
  refine pw_iconst (v := 1) dc_Law_law_714 (by decide) ?_
  refine pw_iadd dc_Law_law_715 ?_
  obtain ⟨n1, hs1, h⟩ := h
  obtain ⟨hi1, h⟩ := h
  refine pw_iald0 dc_Law_law_716 hs1 hi1 ?_
  refine pw_aload_n dc_Law_law_717 rfl rfl ?_
  refine pw_iload dc_Law_law_718 rfl ?_
  refine pw_iconst (v := 2) dc_Law_law_720 (by decide) ?_
  refine pw_iadd dc_Law_law_721 ?_
  obtain ⟨hi2, h⟩ := h
  refine pw_iald0 dc_Law_law_722 hs1 hi2 ?_
  refine pw_aload_n dc_Law_law_723 rfl rfl ?_
  refine pw_callS (vs := [.ref x1, .int (eI σ x0 (ix (x4 + 1))), .int (eI σ x0 (ix (x4 + 2))), .ref x3]) (st := []) dc_Law_law_724 cq_Law_trace (List.mem_of_getElem? (i := 912) (by decide +kernel)) (List.mem_of_getElem? (i := 911) (by decide +kernel)) rfl rfl (cat_cons rfl (cat_cons rfl (cat_cons rfl (cat_cons rfl (cat_nil))))) (Nat.le_of_ble_eq_true rfl) (PW.mono (kI_kN (fun r1 σ1 h => ?_)) h)
  refine pw_istore dc_Law_law_727 (by decide) ?_
  refine pw_aload_n dc_Law_law_729 rfl rfl ?_
  refine pw_aload_n dc_Law_law_730 rfl rfl ?_
  refine pw_iload dc_Law_law_731 rfl ?_
  refine pw_iconst (v := 1) dc_Law_law_733 (by decide) ?_
  refine pw_iadd dc_Law_law_734 ?_
  obtain ⟨n2, hs2, h⟩ := h
  obtain ⟨hi3, h⟩ := h
  refine pw_iald0 dc_Law_law_735 hs2 hi3 ?_
  refine pw_aload_n dc_Law_law_736 rfl rfl ?_
  refine pw_iload dc_Law_law_737 rfl ?_
  refine pw_iconst (v := 2) dc_Law_law_739 (by decide) ?_
  refine pw_iadd dc_Law_law_740 ?_
  obtain ⟨hi4, h⟩ := h
  refine pw_iald0 dc_Law_law_741 hs2 hi4 ?_
  obtain ⟨hs3, h⟩ := h
  refine pw_callV (vs := [.int (eI σ1 x0 (ix (x4 + 1))), .int (eI σ1 x0 (ix (x4 + 2)))]) (st := []) (b := x2) (cn := 11) dc_Law_law_742 cq_Mod_trace (List.mem_of_getElem? (i := 1318) (by decide +kernel)) (List.mem_of_getElem? (i := 1319) (by decide +kernel)) (List.mem_of_getElem? (i := 1317) (by decide +kernel)) rfl hs3 rfl rfl (by decide) (cat_cons rfl (cat_cons rfl (cat_nil))) (Nat.le_of_ble_eq_true rfl) (PW.mono (kI_kN (fun r2 σ2 h => ?_)) h)
  refine pw_istore dc_Law_law_745 (by decide) ?_
  refine pw_aload_n dc_Law_law_747 rfl rfl ?_
  obtain ⟨hs4, h⟩ := h
  refine pw_callV (vs := []) (st := []) (b := x2) (cn := 11) dc_Law_law_748 cq_Mod_thrown (List.mem_of_getElem? (i := 1121) (by decide +kernel)) (List.mem_of_getElem? (i := 1122) (by decide +kernel)) (List.mem_of_getElem? (i := 1120) (by decide +kernel)) rfl hs4 rfl rfl (by decide) (cat_nil) (Nat.le_of_ble_eq_true rfl) (PW.mono (kI_kN (fun r3 σ3 h => ?_)) h)
  refine pw_iload dc_Law_law_751 rfl ?_
  refine pw_icmp_eq (tgt := 758) dc_Law_law_753 (by decide) (fun hc => ?_) (fun hc => ?_)
  · have h := ite_t h hc
    refine pw_iload dc_Law_law_758 rfl ?_
    refine pw_if_ne (tgt := 775) dc_Law_law_760 (by decide) (fun hc => ?_) (fun hc => ?_)
    · have h := ite_f h hc
      refine PW.drop (ls' := [.ref x0, .ref x1, .ref x2, .ref x3, .int x4, uu, uu]) ⟨Or.inl rfl, Or.inl rfl, Or.inl rfl, Or.inl rfl, Or.inl rfl, Or.inr rfl, Or.inr rfl, trivial⟩ ?_
      exact h
    · have h := ite_t h hc
      refine pw_aload_n dc_Law_law_763 rfl rfl ?_
      refine pw_iconst (v := 0) dc_Law_law_764 (by decide) ?_
      obtain ⟨n3, hs5, h⟩ := h
      obtain ⟨hi5, h⟩ := h
      refine pw_lald dc_Law_law_765 hs5 hi5 ?_
      refine pw_iload dc_Law_law_766 rfl ?_
      refine pw_i2l dc_Law_law_768 ?_
      refine pw_lcmp dc_Law_law_769 ?_
      refine pw_if_eq (tgt := 775) dc_Law_law_770 (by decide) (fun hc => ?_) (fun hc => ?_)
      · have h := ite_t h hc
        refine PW.drop (ls' := [.ref x0, .ref x1, .ref x2, .ref x3, .int x4, uu, uu]) ⟨Or.inl rfl, Or.inl rfl, Or.inl rfl, Or.inl rfl, Or.inl rfl, Or.inr rfl, Or.inr rfl, trivial⟩ ?_
        exact h
      · have h := ite_f h hc
        refine pw_iconst (v := 0) dc_Law_law_773 (by decide) ?_
        exact pw_iret dc_Law_law_774 rfl (bo_nar (Or.inl rfl)) h
  · have h := ite_f h hc
    refine pw_iconst (v := 0) dc_Law_law_756 (by decide) ?_
    exact pw_iret dc_Law_law_757 rfl (bo_nar (Or.inl rfl)) h
set_option maxRecDepth 20000 in
theorem e_Law_law_775 {d : Nat} {σ : PH} {K : PO → PH → Prop} (x0 : Nat) (x1 : Nat) (x2 : Nat) (x3 : Nat) (x4 : Int32) (h : PW (d + 1) M_Law_law 976 [.ref x0, .ref x1, .ref x2, .ref x3, .int x4, uu, uu] [] σ K) : PW (d + 1) M_Law_law 775 [.ref x0, .ref x1, .ref x2, .ref x3, .int x4, uu, uu] [] σ K := by
  refine pw_goto (tgt := 976) dc_Law_law_775 (by decide) ?_
  exact h
set_option maxRecDepth 20000 in
theorem e_Law_law_778 {d : Nat} {σ : PH} {K : PO → PH → Prop} (x0 : Nat) (x1 : Nat) (x2 : Nat) (x3 : Nat) (x4 : Int32) (h : (∃ n1 : Nat, sh σ x0 = (10, n1) ∧ vp_in (x4 + 1) n1 ∧ PW d M_Law_reason 0 [.ref x1, .int (eI σ x0 (ix (x4 + 1))), .ref x3, uu] [] σ (kI (fun r1 σ1 => (∃ n2 : Nat, sh σ1 x0 = (10, n2) ∧ vp_in (x4 + 1) n2 ∧ sh σ1 x2 = (1, 11) ∧ PW d M_Mod_reason 0 [.ref x2, .int (eI σ1 x0 (ix (x4 + 1)))] [] σ1 (kI (fun r2 σ2 => sh σ2 x2 = (1, 11) ∧ PW d M_Mod_thrown 0 [.ref x2] [] σ2 (kI (fun r3 σ3 => (if r3 = r1 then (if r1 = 0 then (∃ n3 : Nat, sh σ3 x3 = (5, n3) ∧ vp_in 0 n3 ∧ (if (lg_cmp (eL σ3 x3 (ix 0)) r2.toInt64) = 0 then PW (d + 1) M_Law_law 831 [.ref x0, .ref x1, .ref x2, .ref x3, .int x4, uu, uu] [] σ3 K else K (.inl (some (.int 0))) σ3)) else PW (d + 1) M_Law_law 831 [.ref x0, .ref x1, .ref x2, .ref x3, .int x4, uu, uu] [] σ3 K) else K (.inl (some (.int 0))) σ3)) K)) K))) K))) : PW (d + 1) M_Law_law 778 [.ref x0, .ref x1, .ref x2, .ref x3, .int x4, uu, uu] [] σ K := by
  refine pw_aload_n dc_Law_law_778 rfl rfl ?_
  refine pw_aload_n dc_Law_law_779 rfl rfl ?_
  refine pw_iload dc_Law_law_780 rfl ?_
  refine pw_iconst (v := 1) dc_Law_law_782 (by decide) ?_
  refine pw_iadd dc_Law_law_783 ?_
  obtain ⟨n1, hs1, h⟩ := h
  obtain ⟨hi1, h⟩ := h
  refine pw_iald0 dc_Law_law_784 hs1 hi1 ?_
  refine pw_aload_n dc_Law_law_785 rfl rfl ?_
  refine pw_callS (vs := [.ref x1, .int (eI σ x0 (ix (x4 + 1))), .ref x3]) (st := []) dc_Law_law_786 cq_Law_reason (List.mem_of_getElem? (i := 919) (by decide +kernel)) (List.mem_of_getElem? (i := 918) (by decide +kernel)) rfl rfl (cat_cons rfl (cat_cons rfl (cat_cons rfl (cat_nil)))) (Nat.le_of_ble_eq_true rfl) (PW.mono (kI_kN (fun r1 σ1 h => ?_)) h)
  refine pw_istore dc_Law_law_789 (by decide) ?_
  refine pw_aload_n dc_Law_law_791 rfl rfl ?_
  refine pw_aload_n dc_Law_law_792 rfl rfl ?_
  refine pw_iload dc_Law_law_793 rfl ?_
  refine pw_iconst (v := 1) dc_Law_law_795 (by decide) ?_
  refine pw_iadd dc_Law_law_796 ?_
  obtain ⟨n2, hs2, h⟩ := h
  obtain ⟨hi2, h⟩ := h
  refine pw_iald0 dc_Law_law_797 hs2 hi2 ?_
  obtain ⟨hs3, h⟩ := h
  refine pw_callV (vs := [.int (eI σ1 x0 (ix (x4 + 1)))]) (st := []) (b := x2) (cn := 11) dc_Law_law_798 cq_Mod_reason (List.mem_of_getElem? (i := 1322) (by decide +kernel)) (List.mem_of_getElem? (i := 1323) (by decide +kernel)) (List.mem_of_getElem? (i := 1321) (by decide +kernel)) rfl hs3 rfl rfl (by decide) (cat_cons rfl (cat_nil)) (Nat.le_of_ble_eq_true rfl) (PW.mono (kI_kN (fun r2 σ2 h => ?_)) h)
  refine pw_istore dc_Law_law_801 (by decide) ?_
  refine pw_aload_n dc_Law_law_803 rfl rfl ?_
  obtain ⟨hs4, h⟩ := h
  refine pw_callV (vs := []) (st := []) (b := x2) (cn := 11) dc_Law_law_804 cq_Mod_thrown (List.mem_of_getElem? (i := 1121) (by decide +kernel)) (List.mem_of_getElem? (i := 1122) (by decide +kernel)) (List.mem_of_getElem? (i := 1120) (by decide +kernel)) rfl hs4 rfl rfl (by decide) (cat_nil) (Nat.le_of_ble_eq_true rfl) (PW.mono (kI_kN (fun r3 σ3 h => ?_)) h)
  refine pw_iload dc_Law_law_807 rfl ?_
  refine pw_icmp_eq (tgt := 814) dc_Law_law_809 (by decide) (fun hc => ?_) (fun hc => ?_)
  · have h := ite_t h hc
    refine pw_iload dc_Law_law_814 rfl ?_
    refine pw_if_ne (tgt := 831) dc_Law_law_816 (by decide) (fun hc => ?_) (fun hc => ?_)
    · have h := ite_f h hc
      refine PW.drop (ls' := [.ref x0, .ref x1, .ref x2, .ref x3, .int x4, uu, uu]) ⟨Or.inl rfl, Or.inl rfl, Or.inl rfl, Or.inl rfl, Or.inl rfl, Or.inr rfl, Or.inr rfl, trivial⟩ ?_
      exact h
    · have h := ite_t h hc
      refine pw_aload_n dc_Law_law_819 rfl rfl ?_
      refine pw_iconst (v := 0) dc_Law_law_820 (by decide) ?_
      obtain ⟨n3, hs5, h⟩ := h
      obtain ⟨hi3, h⟩ := h
      refine pw_lald dc_Law_law_821 hs5 hi3 ?_
      refine pw_iload dc_Law_law_822 rfl ?_
      refine pw_i2l dc_Law_law_824 ?_
      refine pw_lcmp dc_Law_law_825 ?_
      refine pw_if_eq (tgt := 831) dc_Law_law_826 (by decide) (fun hc => ?_) (fun hc => ?_)
      · have h := ite_t h hc
        refine PW.drop (ls' := [.ref x0, .ref x1, .ref x2, .ref x3, .int x4, uu, uu]) ⟨Or.inl rfl, Or.inl rfl, Or.inl rfl, Or.inl rfl, Or.inl rfl, Or.inr rfl, Or.inr rfl, trivial⟩ ?_
        exact h
      · have h := ite_f h hc
        refine pw_iconst (v := 0) dc_Law_law_829 (by decide) ?_
        exact pw_iret dc_Law_law_830 rfl (bo_nar (Or.inl rfl)) h
  · have h := ite_f h hc
    refine pw_iconst (v := 0) dc_Law_law_812 (by decide) ?_
    exact pw_iret dc_Law_law_813 rfl (bo_nar (Or.inl rfl)) h
set_option maxRecDepth 20000 in
theorem e_Law_law_831 {d : Nat} {σ : PH} {K : PO → PH → Prop} (x0 : Nat) (x1 : Nat) (x2 : Nat) (x3 : Nat) (x4 : Int32) (h : PW (d + 1) M_Law_law 976 [.ref x0, .ref x1, .ref x2, .ref x3, .int x4, uu, uu] [] σ K) : PW (d + 1) M_Law_law 831 [.ref x0, .ref x1, .ref x2, .ref x3, .int x4, uu, uu] [] σ K := by
  refine pw_goto (tgt := 976) dc_Law_law_831 (by decide) ?_
  exact h
set_option maxRecDepth 20000 in
theorem e_Law_law_834 {d : Nat} {σ : PH} {K : PO → PH → Prop} (x0 : Nat) (x1 : Nat) (x2 : Nat) (x3 : Nat) (x4 : Int32) (h : (∃ n1 : Nat, sh σ x0 = (10, n1) ∧ vp_in (x4 + 1) n1 ∧ vp_in (x4 + 2) n1 ∧ PW d M_Law_clerk 0 [.ref x1, .int (eI σ x0 (ix (x4 + 1))), .int (((eI σ x0 (ix (x4 + 2))).toUInt32 % 65536).toInt32), uu] [] σ (kI (fun r1 σ1 => (∃ n2 : Nat, sh σ1 x0 = (10, n2) ∧ vp_in (x4 + 1) n2 ∧ vp_in (x4 + 2) n2 ∧ sh σ1 x2 = (1, 11) ∧ PW d M_Mod_clerk 0 [.ref x2, .int (eI σ1 x0 (ix (x4 + 1))), .int (((eI σ1 x0 (ix (x4 + 2))).toUInt32 % 65536).toInt32), uu] [] σ1 (kV (fun σ2 => sh σ2 x2 = (1, 11) ∧ PW d M_Mod_thrown 0 [.ref x2] [] σ2 (kI (fun r2 σ3 => (if r2 = r1 then PW (d + 1) M_Law_law 976 [.ref x0, .ref x1, .ref x2, .ref x3, .int x4, uu, uu] [] σ3 K else K (.inl (some (.int 0))) σ3)) K)) K))) K))) : PW (d + 1) M_Law_law 834 [.ref x0, .ref x1, .ref x2, .ref x3, .int x4, uu, uu] [] σ K := by
  refine pw_aload_n dc_Law_law_834 rfl rfl ?_
  refine pw_aload_n dc_Law_law_835 rfl rfl ?_
  refine pw_iload dc_Law_law_836 rfl ?_
  refine pw_iconst (v := 1) dc_Law_law_838 (by decide) ?_
  refine pw_iadd dc_Law_law_839 ?_
  obtain ⟨n1, hs1, h⟩ := h
  obtain ⟨hi1, h⟩ := h
  refine pw_iald0 dc_Law_law_840 hs1 hi1 ?_
  refine pw_aload_n dc_Law_law_841 rfl rfl ?_
  refine pw_iload dc_Law_law_842 rfl ?_
  refine pw_iconst (v := 2) dc_Law_law_844 (by decide) ?_
  refine pw_iadd dc_Law_law_845 ?_
  obtain ⟨hi2, h⟩ := h
  refine pw_iald0 dc_Law_law_846 hs1 hi2 ?_
  refine pw_i2c dc_Law_law_847 ?_
  refine pw_callS (vs := [.ref x1, .int (eI σ x0 (ix (x4 + 1))), .int (((eI σ x0 (ix (x4 + 2))).toUInt32 % 65536).toInt32)]) (st := []) dc_Law_law_848 cq_Law_clerk (List.mem_of_getElem? (i := 926) (by decide +kernel)) (List.mem_of_getElem? (i := 925) (by decide +kernel)) rfl rfl (cat_cons rfl (cat_cons rfl (cat_cons rfl (cat_nil)))) (Nat.le_of_ble_eq_true rfl) (PW.mono (kI_kN (fun r1 σ1 h => ?_)) h)
  refine pw_istore dc_Law_law_851 (by decide) ?_
  refine pw_aload_n dc_Law_law_853 rfl rfl ?_
  refine pw_aload_n dc_Law_law_854 rfl rfl ?_
  refine pw_iload dc_Law_law_855 rfl ?_
  refine pw_iconst (v := 1) dc_Law_law_857 (by decide) ?_
  refine pw_iadd dc_Law_law_858 ?_
  obtain ⟨n2, hs2, h⟩ := h
  obtain ⟨hi3, h⟩ := h
  refine pw_iald0 dc_Law_law_859 hs2 hi3 ?_
  refine pw_aload_n dc_Law_law_860 rfl rfl ?_
  refine pw_iload dc_Law_law_861 rfl ?_
  refine pw_iconst (v := 2) dc_Law_law_863 (by decide) ?_
  refine pw_iadd dc_Law_law_864 ?_
  obtain ⟨hi4, h⟩ := h
  refine pw_iald0 dc_Law_law_865 hs2 hi4 ?_
  refine pw_i2c dc_Law_law_866 ?_
  obtain ⟨hs3, h⟩ := h
  refine pw_callV (vs := [.int (eI σ1 x0 (ix (x4 + 1))), .int (((eI σ1 x0 (ix (x4 + 2))).toUInt32 % 65536).toInt32)]) (st := []) (b := x2) (cn := 11) dc_Law_law_867 cq_Mod_clerk (List.mem_of_getElem? (i := 1330) (by decide +kernel)) (List.mem_of_getElem? (i := 1331) (by decide +kernel)) (List.mem_of_getElem? (i := 1329) (by decide +kernel)) rfl hs3 rfl rfl (by decide) (cat_cons rfl (cat_cons rfl (cat_nil))) (Nat.le_of_ble_eq_true rfl) (PW.mono (kV_kN (fun σ2 h => ?_)) h)
  refine pw_aload_n dc_Law_law_870 rfl rfl ?_
  obtain ⟨hs4, h⟩ := h
  refine pw_callV (vs := []) (st := []) (b := x2) (cn := 11) dc_Law_law_871 cq_Mod_thrown (List.mem_of_getElem? (i := 1121) (by decide +kernel)) (List.mem_of_getElem? (i := 1122) (by decide +kernel)) (List.mem_of_getElem? (i := 1120) (by decide +kernel)) rfl hs4 rfl rfl (by decide) (cat_nil) (Nat.le_of_ble_eq_true rfl) (PW.mono (kI_kN (fun r2 σ3 h => ?_)) h)
  refine pw_iload dc_Law_law_874 rfl ?_
  refine pw_icmp_eq (tgt := 881) dc_Law_law_876 (by decide) (fun hc => ?_) (fun hc => ?_)
  · have h := ite_t h hc
    refine pw_goto (tgt := 976) dc_Law_law_881 (by decide) ?_
    refine PW.drop (ls' := [.ref x0, .ref x1, .ref x2, .ref x3, .int x4, uu, uu]) ⟨Or.inl rfl, Or.inl rfl, Or.inl rfl, Or.inl rfl, Or.inl rfl, Or.inr rfl, Or.inl rfl, trivial⟩ ?_
    exact h
  · have h := ite_f h hc
    refine pw_iconst (v := 0) dc_Law_law_879 (by decide) ?_
    exact pw_iret dc_Law_law_880 rfl (bo_nar (Or.inl rfl)) h
set_option maxRecDepth 20000 in
theorem e_Law_law_884 {d : Nat} {σ : PH} {K : PO → PH → Prop} (x0 : Nat) (x1 : Nat) (x2 : Nat) (x3 : Nat) (x4 : Int32) (h : (∃ n1 : Nat, sh σ x0 = (10, n1) ∧ vp_in (x4 + 1) n1 ∧ PW d M_Law_resubmit 0 [.ref x1, .int (eI σ x0 (ix (x4 + 1))), .ref x3, uu] [] σ (kI (fun r1 σ1 => (∃ n2 : Nat, sh σ1 x0 = (10, n2) ∧ vp_in (x4 + 1) n2 ∧ sh σ1 x2 = (1, 11) ∧ PW d M_Mod_resubmit 0 [.ref x2, .int (eI σ1 x0 (ix (x4 + 1))), uu] [] σ1 (kI (fun r2 σ2 => sh σ2 x2 = (1, 11) ∧ PW d M_Mod_thrown 0 [.ref x2] [] σ2 (kI (fun r3 σ3 => (if r3 = r1 then (if r1 = 0 then (∃ n3 : Nat, sh σ3 x3 = (5, n3) ∧ vp_in 0 n3 ∧ (if (lg_cmp (eL σ3 x3 (ix 0)) r2.toInt64) = 0 then PW (d + 1) M_Law_law 937 [.ref x0, .ref x1, .ref x2, .ref x3, .int x4, uu, uu] [] σ3 K else K (.inl (some (.int 0))) σ3)) else PW (d + 1) M_Law_law 937 [.ref x0, .ref x1, .ref x2, .ref x3, .int x4, uu, uu] [] σ3 K) else K (.inl (some (.int 0))) σ3)) K)) K))) K))) : PW (d + 1) M_Law_law 884 [.ref x0, .ref x1, .ref x2, .ref x3, .int x4, uu, uu] [] σ K := by
  refine pw_aload_n dc_Law_law_884 rfl rfl ?_
  refine pw_aload_n dc_Law_law_885 rfl rfl ?_
  refine pw_iload dc_Law_law_886 rfl ?_
  refine pw_iconst (v := 1) dc_Law_law_888 (by decide) ?_
  refine pw_iadd dc_Law_law_889 ?_
  obtain ⟨n1, hs1, h⟩ := h
  obtain ⟨hi1, h⟩ := h
  refine pw_iald0 dc_Law_law_890 hs1 hi1 ?_
  refine pw_aload_n dc_Law_law_891 rfl rfl ?_
  refine pw_callS (vs := [.ref x1, .int (eI σ x0 (ix (x4 + 1))), .ref x3]) (st := []) dc_Law_law_892 cq_Law_resubmit (List.mem_of_getElem? (i := 935) (by decide +kernel)) (List.mem_of_getElem? (i := 934) (by decide +kernel)) rfl rfl (cat_cons rfl (cat_cons rfl (cat_cons rfl (cat_nil)))) (Nat.le_of_ble_eq_true rfl) (PW.mono (kI_kN (fun r1 σ1 h => ?_)) h)
  refine pw_istore dc_Law_law_895 (by decide) ?_
  refine pw_aload_n dc_Law_law_897 rfl rfl ?_
  refine pw_aload_n dc_Law_law_898 rfl rfl ?_
  refine pw_iload dc_Law_law_899 rfl ?_
  refine pw_iconst (v := 1) dc_Law_law_901 (by decide) ?_
  refine pw_iadd dc_Law_law_902 ?_
  obtain ⟨n2, hs2, h⟩ := h
  obtain ⟨hi2, h⟩ := h
  refine pw_iald0 dc_Law_law_903 hs2 hi2 ?_
  obtain ⟨hs3, h⟩ := h
  refine pw_callV (vs := [.int (eI σ1 x0 (ix (x4 + 1)))]) (st := []) (b := x2) (cn := 11) dc_Law_law_904 cq_Mod_resubmit (List.mem_of_getElem? (i := 1337) (by decide +kernel)) (List.mem_of_getElem? (i := 1338) (by decide +kernel)) (List.mem_of_getElem? (i := 1336) (by decide +kernel)) rfl hs3 rfl rfl (by decide) (cat_cons rfl (cat_nil)) (Nat.le_of_ble_eq_true rfl) (PW.mono (kI_kN (fun r2 σ2 h => ?_)) h)
  refine pw_istore dc_Law_law_907 (by decide) ?_
  refine pw_aload_n dc_Law_law_909 rfl rfl ?_
  obtain ⟨hs4, h⟩ := h
  refine pw_callV (vs := []) (st := []) (b := x2) (cn := 11) dc_Law_law_910 cq_Mod_thrown (List.mem_of_getElem? (i := 1121) (by decide +kernel)) (List.mem_of_getElem? (i := 1122) (by decide +kernel)) (List.mem_of_getElem? (i := 1120) (by decide +kernel)) rfl hs4 rfl rfl (by decide) (cat_nil) (Nat.le_of_ble_eq_true rfl) (PW.mono (kI_kN (fun r3 σ3 h => ?_)) h)
  refine pw_iload dc_Law_law_913 rfl ?_
  refine pw_icmp_eq (tgt := 920) dc_Law_law_915 (by decide) (fun hc => ?_) (fun hc => ?_)
  · have h := ite_t h hc
    refine pw_iload dc_Law_law_920 rfl ?_
    refine pw_if_ne (tgt := 937) dc_Law_law_922 (by decide) (fun hc => ?_) (fun hc => ?_)
    · have h := ite_f h hc
      refine PW.drop (ls' := [.ref x0, .ref x1, .ref x2, .ref x3, .int x4, uu, uu]) ⟨Or.inl rfl, Or.inl rfl, Or.inl rfl, Or.inl rfl, Or.inl rfl, Or.inr rfl, Or.inr rfl, trivial⟩ ?_
      exact h
    · have h := ite_t h hc
      refine pw_aload_n dc_Law_law_925 rfl rfl ?_
      refine pw_iconst (v := 0) dc_Law_law_926 (by decide) ?_
      obtain ⟨n3, hs5, h⟩ := h
      obtain ⟨hi3, h⟩ := h
      refine pw_lald dc_Law_law_927 hs5 hi3 ?_
      refine pw_iload dc_Law_law_928 rfl ?_
      refine pw_i2l dc_Law_law_930 ?_
      refine pw_lcmp dc_Law_law_931 ?_
      refine pw_if_eq (tgt := 937) dc_Law_law_932 (by decide) (fun hc => ?_) (fun hc => ?_)
      · have h := ite_t h hc
        refine PW.drop (ls' := [.ref x0, .ref x1, .ref x2, .ref x3, .int x4, uu, uu]) ⟨Or.inl rfl, Or.inl rfl, Or.inl rfl, Or.inl rfl, Or.inl rfl, Or.inr rfl, Or.inr rfl, trivial⟩ ?_
        exact h
      · have h := ite_f h hc
        refine pw_iconst (v := 0) dc_Law_law_935 (by decide) ?_
        exact pw_iret dc_Law_law_936 rfl (bo_nar (Or.inl rfl)) h
  · have h := ite_f h hc
    refine pw_iconst (v := 0) dc_Law_law_918 (by decide) ?_
    exact pw_iret dc_Law_law_919 rfl (bo_nar (Or.inl rfl)) h
set_option maxRecDepth 20000 in
theorem e_Law_law_937 {d : Nat} {σ : PH} {K : PO → PH → Prop} (x0 : Nat) (x1 : Nat) (x2 : Nat) (x3 : Nat) (x4 : Int32) (h : PW (d + 1) M_Law_law 976 [.ref x0, .ref x1, .ref x2, .ref x3, .int x4, uu, uu] [] σ K) : PW (d + 1) M_Law_law 937 [.ref x0, .ref x1, .ref x2, .ref x3, .int x4, uu, uu] [] σ K := by
  refine pw_goto (tgt := 976) dc_Law_law_937 (by decide) ?_
  exact h
set_option maxRecDepth 20000 in
theorem e_Law_law_940 {d : Nat} {σ : PH} {K : PO → PH → Prop} (x0 : Nat) (x1 : Nat) (x2 : Nat) (x3 : Nat) (x4 : Int32) (h : sh σ x1 = (1, 0) ∧ PW d M_Desk_cut 0 [.ref x1, uu] [] σ (kV (fun σ1 => sh σ1 x2 = (1, 11) ∧ PW d M_Mod_cut 0 [.ref x2, uu] [] σ1 (kV (fun σ2 => PW (d + 1) M_Law_law 976 [.ref x0, .ref x1, .ref x2, .ref x3, .int x4, uu, uu] [] σ2 K) K)) K)) : PW (d + 1) M_Law_law 940 [.ref x0, .ref x1, .ref x2, .ref x3, .int x4, uu, uu] [] σ K := by
  refine pw_aload_n dc_Law_law_940 rfl rfl ?_
  obtain ⟨hs1, h⟩ := h
  refine pw_callV (vs := []) (st := []) (b := x1) (cn := 0) dc_Law_law_941 cq_Desk_cut (List.mem_of_getElem? (i := 362) (by decide +kernel)) (List.mem_of_getElem? (i := 363) (by decide +kernel)) (List.mem_of_getElem? (i := 361) (by decide +kernel)) rfl hs1 rfl rfl (by decide) (cat_nil) (Nat.le_of_ble_eq_true rfl) (PW.mono (kV_kN (fun σ1 h => ?_)) h)
  refine pw_aload_n dc_Law_law_944 rfl rfl ?_
  obtain ⟨hs2, h⟩ := h
  refine pw_callV (vs := []) (st := []) (b := x2) (cn := 11) dc_Law_law_945 cq_Mod_cut (List.mem_of_getElem? (i := 1341) (by decide +kernel)) (List.mem_of_getElem? (i := 1342) (by decide +kernel)) (List.mem_of_getElem? (i := 1340) (by decide +kernel)) rfl hs2 rfl rfl (by decide) (cat_nil) (Nat.le_of_ble_eq_true rfl) (PW.mono (kV_kN (fun σ2 h => ?_)) h)
  refine pw_goto (tgt := 976) dc_Law_law_948 (by decide) ?_
  exact h
set_option maxRecDepth 20000 in
theorem e_Law_law_951 {d : Nat} {σ : PH} {K : PO → PH → Prop} (x0 : Nat) (x1 : Nat) (x2 : Nat) (x3 : Nat) (x4 : Int32) (h : (∃ n1 : Nat, sh σ x0 = (10, n1) ∧ vp_in (x4 + 1) n1 ∧ sh σ x1 = (1, 0) ∧ PW d M_Desk_count 0 [.ref x1, .int (eI σ x0 (ix (x4 + 1)))] [] σ (kI (fun r1 σ1 => (∃ n2 : Nat, sh σ1 x0 = (10, n2) ∧ vp_in (x4 + 1) n2 ∧ sh σ1 x2 = (1, 11) ∧ PW d M_Mod_count 0 [.ref x2, .int (eI σ1 x0 (ix (x4 + 1))), uu, uu] [] σ1 (kI (fun r2 σ2 => (if r1 = r2 then PW (d + 1) M_Law_law 976 [.ref x0, .ref x1, .ref x2, .ref x3, .int x4, uu, uu] [] σ2 K else K (.inl (some (.int 0))) σ2)) K))) K))) : PW (d + 1) M_Law_law 951 [.ref x0, .ref x1, .ref x2, .ref x3, .int x4, uu, uu] [] σ K := by
  refine pw_aload_n dc_Law_law_951 rfl rfl ?_
  refine pw_aload_n dc_Law_law_952 rfl rfl ?_
  refine pw_iload dc_Law_law_953 rfl ?_
  refine pw_iconst (v := 1) dc_Law_law_955 (by decide) ?_
  refine pw_iadd dc_Law_law_956 ?_
  obtain ⟨n1, hs1, h⟩ := h
  obtain ⟨hi1, h⟩ := h
  refine pw_iald0 dc_Law_law_957 hs1 hi1 ?_
  obtain ⟨hs2, h⟩ := h
  refine pw_callV (vs := [.int (eI σ x0 (ix (x4 + 1)))]) (st := []) (b := x1) (cn := 0) dc_Law_law_958 cq_Desk_count (List.mem_of_getElem? (i := 382) (by decide +kernel)) (List.mem_of_getElem? (i := 383) (by decide +kernel)) (List.mem_of_getElem? (i := 381) (by decide +kernel)) rfl hs2 rfl rfl (by decide) (cat_cons rfl (cat_nil)) (Nat.le_of_ble_eq_true rfl) (PW.mono (kI_kN (fun r1 σ1 h => ?_)) h)
  refine pw_aload_n dc_Law_law_961 rfl rfl ?_
  refine pw_aload_n dc_Law_law_962 rfl rfl ?_
  refine pw_iload dc_Law_law_963 rfl ?_
  refine pw_iconst (v := 1) dc_Law_law_965 (by decide) ?_
  refine pw_iadd dc_Law_law_966 ?_
  obtain ⟨n2, hs3, h⟩ := h
  obtain ⟨hi2, h⟩ := h
  refine pw_iald0 dc_Law_law_967 hs3 hi2 ?_
  obtain ⟨hs4, h⟩ := h
  refine pw_callV (vs := [.int (eI σ1 x0 (ix (x4 + 1)))]) (st := [.int r1]) (b := x2) (cn := 11) dc_Law_law_968 cq_Mod_count (List.mem_of_getElem? (i := 1345) (by decide +kernel)) (List.mem_of_getElem? (i := 1346) (by decide +kernel)) (List.mem_of_getElem? (i := 1344) (by decide +kernel)) rfl hs4 rfl rfl (by decide) (cat_cons rfl (cat_nil)) (Nat.le_of_ble_eq_true rfl) (PW.mono (kI_kN (fun r2 σ2 h => ?_)) h)
  refine pw_icmp_eq (tgt := 976) dc_Law_law_971 (by decide) (fun hc => ?_) (fun hc => ?_)
  · have h := ite_t h hc
    exact h
  · have h := ite_f h hc
    refine pw_iconst (v := 0) dc_Law_law_974 (by decide) ?_
    exact pw_iret dc_Law_law_975 rfl (bo_nar (Or.inl rfl)) h
set_option maxRecDepth 20000 in
theorem e_Law_law_976 {d : Nat} {σ : PH} {K : PO → PH → Prop} (x0 : Nat) (x1 : Nat) (x2 : Nat) (x3 : Nat) (x4 : Int32) (h : PW (d + 1) M_Law_law 23 [.ref x0, .ref x1, .ref x2, .ref x3, .int (x4 + 4), uu, uu] [] σ K) : PW (d + 1) M_Law_law 976 [.ref x0, .ref x1, .ref x2, .ref x3, .int x4, uu, uu] [] σ K := by
  refine pw_iincv (v := 4) dc_Law_law_976 (by decide) rfl (by decide) ?_
  refine pw_goto (tgt := 23) dc_Law_law_979 (by decide) ?_
  exact h
