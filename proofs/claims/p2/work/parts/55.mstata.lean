theorem dX11_readStatement_0 : decode cX11_readStatement 0 = .ok (.aload_n 0, 1) := by decide +kernel
theorem dX11_readStatement_1 : decode cX11_readStatement 1 = .ok (.invokevirtual 106, 3) := by decide +kernel
theorem dX11_readStatement_4 : decode cX11_readStatement 4 = .ok (.pop, 1) := by decide +kernel
theorem dX11_readStatement_5 : decode cX11_readStatement 5 = .ok (.aload_n 0, 1) := by decide +kernel
theorem dX11_readStatement_6 : decode cX11_readStatement 6 = .ok (.ldc 162, 2) := by decide +kernel
theorem dX11_readStatement_8 : decode cX11_readStatement 8 = .ok (.invokevirtual 146, 3) := by decide +kernel
theorem dX11_readStatement_11 : decode cX11_readStatement 11 = .ok (.ifCond .eq 8, 3) := by decide +kernel
theorem dX11_readStatement_14 : decode cX11_readStatement 14 = .ok (.aload_n 0, 1) := by decide +kernel
theorem dX11_readStatement_15 : decode cX11_readStatement 15 = .ok (.invokevirtual 164, 3) := by decide +kernel
theorem dX11_readStatement_18 : decode cX11_readStatement 18 = .ok (.ireturn, 1) := by decide +kernel
theorem dX11_readStatement_19 : decode cX11_readStatement 19 = .ok (.aload_n 0, 1) := by decide +kernel
theorem dX11_readStatement_20 : decode cX11_readStatement 20 = .ok (.ldc 167, 2) := by decide +kernel
theorem dX11_readStatement_22 : decode cX11_readStatement 22 = .ok (.invokevirtual 146, 3) := by decide +kernel
theorem dX11_readStatement_25 : decode cX11_readStatement 25 = .ok (.ifCond .eq 8, 3) := by decide +kernel
theorem dX11_readStatement_28 : decode cX11_readStatement 28 = .ok (.aload_n 0, 1) := by decide +kernel
theorem dX11_readStatement_29 : decode cX11_readStatement 29 = .ok (.invokevirtual 169, 3) := by decide +kernel
theorem dX11_readStatement_32 : decode cX11_readStatement 32 = .ok (.ireturn, 1) := by decide +kernel
theorem dX11_readStatement_33 : decode cX11_readStatement 33 = .ok (.aload_n 0, 1) := by decide +kernel
theorem dX11_readStatement_34 : decode cX11_readStatement 34 = .ok (.ldc 172, 2) := by decide +kernel
theorem dX11_readStatement_36 : decode cX11_readStatement 36 = .ok (.invokevirtual 146, 3) := by decide +kernel
theorem dX11_readStatement_39 : decode cX11_readStatement 39 = .ok (.ifCond .eq 8, 3) := by decide +kernel
theorem dX11_readStatement_42 : decode cX11_readStatement 42 = .ok (.aload_n 0, 1) := by decide +kernel
theorem dX11_readStatement_43 : decode cX11_readStatement 43 = .ok (.invokevirtual 174, 3) := by decide +kernel
theorem dX11_readStatement_46 : decode cX11_readStatement 46 = .ok (.ireturn, 1) := by decide +kernel
theorem dX11_readStatement_47 : decode cX11_readStatement 47 = .ok (.aload_n 0, 1) := by decide +kernel
theorem dX11_readStatement_48 : decode cX11_readStatement 48 = .ok (.ldc 177, 2) := by decide +kernel
theorem dX11_readStatement_50 : decode cX11_readStatement 50 = .ok (.invokevirtual 146, 3) := by decide +kernel
theorem dX11_readStatement_53 : decode cX11_readStatement 53 = .ok (.ifCond .eq 30, 3) := by decide +kernel
theorem dX11_readStatement_56 : decode cX11_readStatement 56 = .ok (.aload_n 0, 1) := by decide +kernel
theorem dX11_readStatement_57 : decode cX11_readStatement 57 = .ok (.invokevirtual 133, 3) := by decide +kernel
theorem dX11_readStatement_60 : decode cX11_readStatement 60 = .ok (.ifCond .eq 21, 3) := by decide +kernel
theorem dX11_readStatement_63 : decode cX11_readStatement 63 = .ok (.aload_n 0, 1) := by decide +kernel
theorem dX11_readStatement_64 : decode cX11_readStatement 64 = .ok (.iconst 0, 1) := by decide +kernel
theorem dX11_readStatement_65 : decode cX11_readStatement 65 = .ok (.sipush 500, 3) := by decide +kernel
theorem dX11_readStatement_68 : decode cX11_readStatement 68 = .ok (.sipush 1000, 3) := by decide +kernel
theorem dX11_readStatement_71 : decode cX11_readStatement 71 = .ok (.invokevirtual 140, 3) := by decide +kernel
theorem dX11_readStatement_74 : decode cX11_readStatement 74 = .ok (.ifCond .eq 7, 3) := by decide +kernel
theorem dX11_readStatement_77 : decode cX11_readStatement 77 = .ok (.iconst 1, 1) := by decide +kernel
theorem dX11_readStatement_78 : decode cX11_readStatement 78 = .ok (.goto 4, 3) := by decide +kernel
theorem dX11_readStatement_81 : decode cX11_readStatement 81 = .ok (.iconst 0, 1) := by decide +kernel
theorem dX11_readStatement_82 : decode cX11_readStatement 82 = .ok (.ireturn, 1) := by decide +kernel
theorem dX11_readStatement_83 : decode cX11_readStatement 83 = .ok (.aload_n 0, 1) := by decide +kernel
theorem dX11_readStatement_84 : decode cX11_readStatement 84 = .ok (.ldc 179, 2) := by decide +kernel
theorem dX11_readStatement_86 : decode cX11_readStatement 86 = .ok (.invokevirtual 146, 3) := by decide +kernel
theorem dX11_readStatement_89 : decode cX11_readStatement 89 = .ok (.ifCond .eq 28, 3) := by decide +kernel
theorem dX11_readStatement_92 : decode cX11_readStatement 92 = .ok (.aload_n 0, 1) := by decide +kernel
theorem dX11_readStatement_93 : decode cX11_readStatement 93 = .ok (.invokevirtual 133, 3) := by decide +kernel
theorem dX11_readStatement_96 : decode cX11_readStatement 96 = .ok (.ifCond .eq 19, 3) := by decide +kernel
theorem dX11_readStatement_99 : decode cX11_readStatement 99 = .ok (.aload_n 0, 1) := by decide +kernel
theorem dX11_readStatement_100 : decode cX11_readStatement 100 = .ok (.iconst 1, 1) := by decide +kernel
theorem dX11_readStatement_101 : decode cX11_readStatement 101 = .ok (.bipush 100, 2) := by decide +kernel
theorem dX11_readStatement_103 : decode cX11_readStatement 103 = .ok (.ldc 181, 2) := by decide +kernel
theorem dX11_readStatement_105 : decode cX11_readStatement 105 = .ok (.invokevirtual 140, 3) := by decide +kernel
theorem dX11_readStatement_108 : decode cX11_readStatement 108 = .ok (.ifCond .eq 7, 3) := by decide +kernel
theorem dX11_readStatement_111 : decode cX11_readStatement 111 = .ok (.iconst 1, 1) := by decide +kernel
theorem dX11_readStatement_112 : decode cX11_readStatement 112 = .ok (.goto 4, 3) := by decide +kernel
theorem dX11_readStatement_115 : decode cX11_readStatement 115 = .ok (.iconst 0, 1) := by decide +kernel
theorem dX11_readStatement_116 : decode cX11_readStatement 116 = .ok (.ireturn, 1) := by decide +kernel
theorem dX11_readStatement_117 : decode cX11_readStatement 117 = .ok (.aload_n 0, 1) := by decide +kernel
theorem dX11_readStatement_118 : decode cX11_readStatement 118 = .ok (.ldc 182, 2) := by decide +kernel
theorem dX11_readStatement_120 : decode cX11_readStatement 120 = .ok (.invokevirtual 146, 3) := by decide +kernel
theorem dX11_readStatement_123 : decode cX11_readStatement 123 = .ok (.ifCond .eq 48, 3) := by decide +kernel
theorem dX11_readStatement_126 : decode cX11_readStatement 126 = .ok (.aload_n 0, 1) := by decide +kernel
theorem dX11_readStatement_127 : decode cX11_readStatement 127 = .ok (.invokevirtual 133, 3) := by decide +kernel
theorem dX11_readStatement_130 : decode cX11_readStatement 130 = .ok (.ifCond .eq 39, 3) := by decide +kernel
theorem dX11_readStatement_133 : decode cX11_readStatement 133 = .ok (.aload_n 0, 1) := by decide +kernel
theorem dX11_readStatement_134 : decode cX11_readStatement 134 = .ok (.iconst 2, 1) := by decide +kernel
theorem dX11_readStatement_135 : decode cX11_readStatement 135 = .ok (.iconst 1, 1) := by decide +kernel
theorem dX11_readStatement_136 : decode cX11_readStatement 136 = .ok (.sipush 10000, 3) := by decide +kernel
theorem dX11_readStatement_139 : decode cX11_readStatement 139 = .ok (.invokevirtual 140, 3) := by decide +kernel
theorem dX11_readStatement_142 : decode cX11_readStatement 142 = .ok (.ifCond .eq 27, 3) := by decide +kernel
theorem dX11_readStatement_145 : decode cX11_readStatement 145 = .ok (.aload_n 0, 1) := by decide +kernel
theorem dX11_readStatement_146 : decode cX11_readStatement 146 = .ok (.iconst 3, 1) := by decide +kernel
theorem dX11_readStatement_147 : decode cX11_readStatement 147 = .ok (.iconst 0, 1) := by decide +kernel
theorem dX11_readStatement_148 : decode cX11_readStatement 148 = .ok (.bipush 100, 2) := by decide +kernel
theorem dX11_readStatement_150 : decode cX11_readStatement 150 = .ok (.aload_n 0, 1) := by decide +kernel
theorem dX11_readStatement_151 : decode cX11_readStatement 151 = .ok (.getfield 16, 3) := by decide +kernel
theorem dX11_readStatement_154 : decode cX11_readStatement 154 = .ok (.iconst 2, 1) := by decide +kernel
theorem dX11_readStatement_155 : decode cX11_readStatement 155 = .ok (.iaload, 1) := by decide +kernel
theorem dX11_readStatement_156 : decode cX11_readStatement 156 = .ok (.invokestatic 184, 3) := by decide +kernel
theorem dX11_readStatement_159 : decode cX11_readStatement 159 = .ok (.invokevirtual 140, 3) := by decide +kernel
theorem dX11_readStatement_162 : decode cX11_readStatement 162 = .ok (.ifCond .eq 7, 3) := by decide +kernel
theorem dX11_readStatement_165 : decode cX11_readStatement 165 = .ok (.iconst 1, 1) := by decide +kernel
theorem dX11_readStatement_166 : decode cX11_readStatement 166 = .ok (.goto 4, 3) := by decide +kernel
theorem dX11_readStatement_169 : decode cX11_readStatement 169 = .ok (.iconst 0, 1) := by decide +kernel
theorem dX11_readStatement_170 : decode cX11_readStatement 170 = .ok (.ireturn, 1) := by decide +kernel
theorem dX11_readStatement_171 : decode cX11_readStatement 171 = .ok (.aload_n 0, 1) := by decide +kernel
theorem dX11_readStatement_172 : decode cX11_readStatement 172 = .ok (.ldc 187, 2) := by decide +kernel
theorem dX11_readStatement_174 : decode cX11_readStatement 174 = .ok (.invokevirtual 146, 3) := by decide +kernel
theorem dX11_readStatement_177 : decode cX11_readStatement 177 = .ok (.ifCond .eq 60, 3) := by decide +kernel
theorem dX11_readStatement_180 : decode cX11_readStatement 180 = .ok (.aload_n 0, 1) := by decide +kernel
theorem dX11_readStatement_181 : decode cX11_readStatement 181 = .ok (.invokevirtual 133, 3) := by decide +kernel
theorem dX11_readStatement_184 : decode cX11_readStatement 184 = .ok (.ifCond .eq 51, 3) := by decide +kernel
theorem dX11_readStatement_187 : decode cX11_readStatement 187 = .ok (.aload_n 0, 1) := by decide +kernel
theorem dX11_readStatement_188 : decode cX11_readStatement 188 = .ok (.iconst 4, 1) := by decide +kernel
theorem dX11_readStatement_189 : decode cX11_readStatement 189 = .ok (.iconst 0, 1) := by decide +kernel
theorem dX11_readStatement_190 : decode cX11_readStatement 190 = .ok (.sipush 5000, 3) := by decide +kernel
theorem dX11_readStatement_193 : decode cX11_readStatement 193 = .ok (.invokevirtual 140, 3) := by decide +kernel
theorem dX11_readStatement_196 : decode cX11_readStatement 196 = .ok (.ifCond .eq 39, 3) := by decide +kernel
theorem dX11_readStatement_199 : decode cX11_readStatement 199 = .ok (.aload_n 0, 1) := by decide +kernel
theorem dX11_readStatement_200 : decode cX11_readStatement 200 = .ok (.iconst 5, 1) := by decide +kernel
theorem dX11_readStatement_201 : decode cX11_readStatement 201 = .ok (.aload_n 0, 1) := by decide +kernel
theorem dX11_readStatement_202 : decode cX11_readStatement 202 = .ok (.getfield 16, 3) := by decide +kernel
theorem dX11_readStatement_205 : decode cX11_readStatement 205 = .ok (.iconst 4, 1) := by decide +kernel
theorem dX11_readStatement_206 : decode cX11_readStatement 206 = .ok (.iaload, 1) := by decide +kernel
theorem dX11_readStatement_207 : decode cX11_readStatement 207 = .ok (.sipush 5000, 3) := by decide +kernel
theorem dX11_readStatement_210 : decode cX11_readStatement 210 = .ok (.invokevirtual 140, 3) := by decide +kernel
theorem dX11_readStatement_213 : decode cX11_readStatement 213 = .ok (.ifCond .eq 22, 3) := by decide +kernel
theorem dX11_readStatement_216 : decode cX11_readStatement 216 = .ok (.aload_n 0, 1) := by decide +kernel
theorem dX11_readStatement_217 : decode cX11_readStatement 217 = .ok (.bipush 6, 2) := by decide +kernel
theorem dX11_readStatement_219 : decode cX11_readStatement 219 = .ok (.sipush 250, 3) := by decide +kernel
theorem dX11_readStatement_222 : decode cX11_readStatement 222 = .ok (.sipush 1000, 3) := by decide +kernel
theorem dX11_readStatement_225 : decode cX11_readStatement 225 = .ok (.invokevirtual 140, 3) := by decide +kernel
theorem dX11_readStatement_228 : decode cX11_readStatement 228 = .ok (.ifCond .eq 7, 3) := by decide +kernel
theorem dX11_readStatement_231 : decode cX11_readStatement 231 = .ok (.iconst 1, 1) := by decide +kernel
theorem dX11_readStatement_232 : decode cX11_readStatement 232 = .ok (.goto 4, 3) := by decide +kernel
theorem dX11_readStatement_235 : decode cX11_readStatement 235 = .ok (.iconst 0, 1) := by decide +kernel
theorem dX11_readStatement_236 : decode cX11_readStatement 236 = .ok (.ireturn, 1) := by decide +kernel
theorem dX11_readStatement_237 : decode cX11_readStatement 237 = .ok (.aload_n 0, 1) := by decide +kernel
theorem dX11_readStatement_238 : decode cX11_readStatement 238 = .ok (.ldc 189, 2) := by decide +kernel
theorem dX11_readStatement_240 : decode cX11_readStatement 240 = .ok (.invokevirtual 146, 3) := by decide +kernel
theorem dX11_readStatement_243 : decode cX11_readStatement 243 = .ok (.ifCond .eq 61, 3) := by decide +kernel
theorem dX11_readStatement_246 : decode cX11_readStatement 246 = .ok (.aload_n 0, 1) := by decide +kernel
theorem dX11_readStatement_247 : decode cX11_readStatement 247 = .ok (.invokevirtual 133, 3) := by decide +kernel
theorem dX11_readStatement_250 : decode cX11_readStatement 250 = .ok (.ifCond .eq 52, 3) := by decide +kernel
theorem dX11_readStatement_253 : decode cX11_readStatement 253 = .ok (.aload_n 0, 1) := by decide +kernel
theorem dX11_readStatement_254 : decode cX11_readStatement 254 = .ok (.bipush 13, 2) := by decide +kernel
theorem dX11_readStatement_256 : decode cX11_readStatement 256 = .ok (.iconst 0, 1) := by decide +kernel
theorem dX11_readStatement_257 : decode cX11_readStatement 257 = .ok (.sipush 5000, 3) := by decide +kernel
theorem dX11_readStatement_260 : decode cX11_readStatement 260 = .ok (.invokevirtual 140, 3) := by decide +kernel
theorem dX11_readStatement_263 : decode cX11_readStatement 263 = .ok (.ifCond .eq 39, 3) := by decide +kernel
theorem dX11_readStatement_266 : decode cX11_readStatement 266 = .ok (.aload_n 0, 1) := by decide +kernel
theorem dX11_readStatement_267 : decode cX11_readStatement 267 = .ok (.bipush 14, 2) := by decide +kernel
theorem dX11_readStatement_269 : decode cX11_readStatement 269 = .ok (.aload_n 0, 1) := by decide +kernel
theorem dX11_readStatement_270 : decode cX11_readStatement 270 = .ok (.getfield 16, 3) := by decide +kernel
theorem dX11_readStatement_273 : decode cX11_readStatement 273 = .ok (.bipush 13, 2) := by decide +kernel
theorem dX11_readStatement_275 : decode cX11_readStatement 275 = .ok (.iaload, 1) := by decide +kernel
theorem dX11_readStatement_276 : decode cX11_readStatement 276 = .ok (.sipush 5000, 3) := by decide +kernel
theorem dX11_readStatement_279 : decode cX11_readStatement 279 = .ok (.invokevirtual 140, 3) := by decide +kernel
theorem dX11_readStatement_282 : decode cX11_readStatement 282 = .ok (.ifCond .eq 20, 3) := by decide +kernel
theorem dX11_readStatement_285 : decode cX11_readStatement 285 = .ok (.aload_n 0, 1) := by decide +kernel
theorem dX11_readStatement_286 : decode cX11_readStatement 286 = .ok (.bipush 15, 2) := by decide +kernel
theorem dX11_readStatement_288 : decode cX11_readStatement 288 = .ok (.iconst 0, 1) := by decide +kernel
theorem dX11_readStatement_289 : decode cX11_readStatement 289 = .ok (.sipush 1000, 3) := by decide +kernel
theorem dX11_readStatement_292 : decode cX11_readStatement 292 = .ok (.invokevirtual 140, 3) := by decide +kernel
theorem dX11_readStatement_295 : decode cX11_readStatement 295 = .ok (.ifCond .eq 7, 3) := by decide +kernel
theorem dX11_readStatement_298 : decode cX11_readStatement 298 = .ok (.iconst 1, 1) := by decide +kernel
theorem dX11_readStatement_299 : decode cX11_readStatement 299 = .ok (.goto 4, 3) := by decide +kernel
theorem dX11_readStatement_302 : decode cX11_readStatement 302 = .ok (.iconst 0, 1) := by decide +kernel
theorem dX11_readStatement_303 : decode cX11_readStatement 303 = .ok (.ireturn, 1) := by decide +kernel
theorem dX11_readStatement_304 : decode cX11_readStatement 304 = .ok (.aload_n 0, 1) := by decide +kernel
theorem dX11_readStatement_305 : decode cX11_readStatement 305 = .ok (.ldc 191, 2) := by decide +kernel
theorem dX11_readStatement_307 : decode cX11_readStatement 307 = .ok (.invokevirtual 146, 3) := by decide +kernel
theorem dX11_readStatement_310 : decode cX11_readStatement 310 = .ok (.ifCond .eq 29, 3) := by decide +kernel
theorem dX11_readStatement_313 : decode cX11_readStatement 313 = .ok (.aload_n 0, 1) := by decide +kernel
theorem dX11_readStatement_314 : decode cX11_readStatement 314 = .ok (.invokevirtual 133, 3) := by decide +kernel
theorem dX11_readStatement_317 : decode cX11_readStatement 317 = .ok (.ifCond .eq 20, 3) := by decide +kernel
theorem dX11_readStatement_320 : decode cX11_readStatement 320 = .ok (.aload_n 0, 1) := by decide +kernel
theorem dX11_readStatement_321 : decode cX11_readStatement 321 = .ok (.bipush 16, 2) := by decide +kernel
theorem dX11_readStatement_323 : decode cX11_readStatement 323 = .ok (.iconst 0, 1) := by decide +kernel
theorem dX11_readStatement_324 : decode cX11_readStatement 324 = .ok (.sipush 200, 3) := by decide +kernel
theorem dX11_readStatement_327 : decode cX11_readStatement 327 = .ok (.invokevirtual 140, 3) := by decide +kernel
theorem dX11_readStatement_330 : decode cX11_readStatement 330 = .ok (.ifCond .eq 7, 3) := by decide +kernel
theorem dX11_readStatement_333 : decode cX11_readStatement 333 = .ok (.iconst 1, 1) := by decide +kernel
theorem dX11_readStatement_334 : decode cX11_readStatement 334 = .ok (.goto 4, 3) := by decide +kernel
theorem dX11_readStatement_337 : decode cX11_readStatement 337 = .ok (.iconst 0, 1) := by decide +kernel
theorem dX11_readStatement_338 : decode cX11_readStatement 338 = .ok (.ireturn, 1) := by decide +kernel
theorem dX11_readStatement_339 : decode cX11_readStatement 339 = .ok (.aload_n 0, 1) := by decide +kernel
theorem dX11_readStatement_340 : decode cX11_readStatement 340 = .ok (.ldc 193, 2) := by decide +kernel
theorem dX11_readStatement_342 : decode cX11_readStatement 342 = .ok (.invokevirtual 146, 3) := by decide +kernel
theorem dX11_readStatement_345 : decode cX11_readStatement 345 = .ok (.ifCond .eq 31, 3) := by decide +kernel
theorem dX11_readStatement_348 : decode cX11_readStatement 348 = .ok (.aload_n 0, 1) := by decide +kernel
theorem dX11_readStatement_349 : decode cX11_readStatement 349 = .ok (.invokevirtual 133, 3) := by decide +kernel
theorem dX11_readStatement_352 : decode cX11_readStatement 352 = .ok (.ifCond .eq 20, 3) := by decide +kernel
theorem dX11_readStatement_355 : decode cX11_readStatement 355 = .ok (.aload_n 0, 1) := by decide +kernel
theorem dX11_readStatement_356 : decode cX11_readStatement 356 = .ok (.bipush 7, 2) := by decide +kernel
theorem dX11_readStatement_358 : decode cX11_readStatement 358 = .ok (.iconst 0, 1) := by decide +kernel
theorem dX11_readStatement_359 : decode cX11_readStatement 359 = .ok (.sipush 500, 3) := by decide +kernel
theorem dX11_readStatement_362 : decode cX11_readStatement 362 = .ok (.invokevirtual 140, 3) := by decide +kernel
theorem dX11_readStatement_365 : decode cX11_readStatement 365 = .ok (.ifCond .eq 7, 3) := by decide +kernel
theorem dX11_readStatement_368 : decode cX11_readStatement 368 = .ok (.iconst 1, 1) := by decide +kernel
theorem dX11_readStatement_369 : decode cX11_readStatement 369 = .ok (.goto 12, 3) := by decide +kernel
theorem dX11_readStatement_372 : decode cX11_readStatement 372 = .ok (.iconst 0, 1) := by decide +kernel
theorem dX11_readStatement_373 : decode cX11_readStatement 373 = .ok (.goto 8, 3) := by decide +kernel
theorem dX11_readStatement_376 : decode cX11_readStatement 376 = .ok (.aload_n 0, 1) := by decide +kernel
theorem dX11_readStatement_377 : decode cX11_readStatement 377 = .ok (.iconst 1, 1) := by decide +kernel
theorem dX11_readStatement_378 : decode cX11_readStatement 378 = .ok (.invokevirtual 112, 3) := by decide +kernel
theorem dX11_readStatement_381 : decode cX11_readStatement 381 = .ok (.ireturn, 1) := by decide +kernel
set_option maxRecDepth 100000 in
set_option maxHeartbeats 4000000 in
theorem m_X11_readStatement (l : Launch) (D : va_G) (ct : Nat → ClassId) (S : ty_S) (ws : va_W) (mo : Nat) (mw : Nat) (ma : Nat) (mf : Nat) (m0 : Nat) (m1 : Nat) (mu : Nat) (mv : Nat) (u0 : Nat) (u1 : Nat) (iz : Nat) (mb : Nat) (th : Int32) (mn : Int32) (mpt : Int32) (mbg : Int32) (mwr : Int32) (mwk : Int32) (mlf : Int32) (men : Int32) (b : Nat → Int32) (g : Nat → Int32) (sz : Nat) (hT : ty_W ct S ws) (hmn : 0 ≤ mn.toInt ∧ mn.toInt ≤ 800) (hpt : 0 ≤ mpt.toInt ∧ mpt.toInt ≤ 800) (hL : rf_L g) : Met l yX11_readStatement (ws_ yX11_readStatement cX11_readStatement 1 (some .boolean)) ({ frames := 7, cells := 0, slots := 0, locals := 155 } : Room) (va_Pc [.ref mo] (cmP D ct sz ([(rf_MO mo mw ma mf m0 m1 mu mv u0 u1 iz th mb mn mpt mbg mwr mwk mlf men), (rf_RW ct 0 mb 800 b), (rf_RW ct 0 mf 958 g)] ++ ws))) (va_Qi (fun (r : Int32) (u : va_W × Int32 × Int32 × Int32 × Int32 × (Nat → Int32)) => match u with | (u9, mpt1, mbg1, mwr1, mwk1, g1) => ty_W ct S u9 ∧ ((mpt.toInt ≤ mpt1.toInt ∧ mpt1.toInt ≤ 800) ∧ 0 ≤ mbg1.toInt ∧ mbg1.toInt ≤ 800) ∧ (r = 0 ∨ (r = 1 ∧ rf_L g1))) (cmB D ([(rf_MO mo mw ma mf m0 m1 mu mv u0 u1 iz th mb mn mpt mbg mwr mwk mlf men), (rf_RW ct 0 mb 800 b), (rf_RW ct 0 mf 958 g)] ++ ws) sz (fun (u : va_W × Int32 × Int32 × Int32 × Int32 × (Nat → Int32)) => match u with | (u9, mpt1, mbg1, mwr1, mwk1, g1) => ([(rf_MO mo mw ma mf m0 m1 mu mv u0 u1 iz th mb mn mpt1 mbg1 mwr1 mwk1 mlf men), (rf_RW ct 0 mb 800 b), (rf_RW ct 0 mf 958 g1)] ++ u9))) (va_A ([(rf_MO mo mw ma mf m0 m1 mu mv u0 u1 iz th mb mn mpt mbg mwr mwk mlf men), (rf_RW ct 0 mb 800 b), (rf_RW ct 0 mf 958 g)] ++ ws) sz)) 0 0 (va_A ([(rf_MO mo mw ma mf m0 m1 mu mv u0 u1 iz th mb mn mpt mbg mwr mwk mlf men), (rf_RW ct 0 mb 800 b), (rf_RW ct 0 mf 958 g)] ++ ws) sz) := by
  refine Met.ofW (cc := cX11_readStatement) (maxL := 1) (ret := (some .boolean)) (by decide) rfl ?_
  intro p e s m args below meth c s₁ B hml hv
  obtain ⟨rfl, hsz, hP, hK, hD0, hX⟩ := hv
  have hx := B.exec
  have hb := B.bytes
  have hr := B.returns
  have hts := ws_all (atoms_spec (ws := ws_ yX11_readStatement cX11_readStatement 1 (some .boolean)) B.pre)
  have hown : s.vm.findClass RX11 = some m.cls := findClass_of_methodNamed B.named
  have hlocks := B.notSynchronized
  subst hsz
  have hD := hD0.self (sz := s.heap.size)
  generalize hAe : va_A ([(rf_MO mo mw ma mf m0 m1 mu mv u0 u1 iz th mb mn mpt mbg mwr mwk mlf men), (rf_RW ct 0 mb 800 b), (rf_RW ct 0 mf 958 g)] ++ ws) s.heap.size = A at hD hX ⊢
  have hA : ∀ q : Nat, s.heap.size ≤ q → A q := fun q h => by rw [← hAe]; exact Or.inr h
  have hS : va_S A s.heap s.heap [] := va_S.rf
  have hl := lv_entry ([.ref mo]) (n := 1) (Nat.le_of_ble_eq_true rfl)
  rw [lg_entry_eq]
  generalize (lg_sl ([.ref mo]) ++ List.replicate (1 - (lg_sl ([.ref mo])).length) Slot.unset).toArray = ls at hl ⊢
  have hl : lv_has ls 1 [(0, .ref mo)] := hl
  refine lv_aload_n hx hb dX11_readStatement_0 rfl (lv_at hl 0 rfl) ?_
  have hP : va_P D vwCl ([(rf_RW ct 0 mf 958 g), (rf_MO mo mw ma mf m0 m1 mu mv u0 u1 iz th mb mn mpt mbg mwr mwk mlf men), (rf_RW ct 0 mb 800 b)] ++ ws) s.heap := ty_permP hP (ty_ordp (E := [(rf_MO mo mw ma mf m0 m1 mu mv u0 u1 iz th mb mn mpt mbg mwr mwk mlf men), (rf_RW ct 0 mb 800 b), (rf_RW ct 0 mf 958 g)]) (E2 := [(rf_RW ct 0 mf 958 g), (rf_MO mo mw ma mf m0 m1 mu mv u0 u1 iz th mb mn mpt mbg mwr mwk mlf men), (rf_RW ct 0 mb 800 b)]) (n := 3) [2, 0, 1] rfl rfl (by decide))
  have hD : va_D A ([(rf_RW ct 0 mf 958 g), (rf_MO mo mw ma mf m0 m1 mu mv u0 u1 iz th mb mn mpt mbg mwr mwk mlf men), (rf_RW ct 0 mb 800 b)] ++ ws) := ty_permD hD (ty_ordp (E := [(rf_MO mo mw ma mf m0 m1 mu mv u0 u1 iz th mb mn mpt mbg mwr mwk mlf men), (rf_RW ct 0 mb 800 b), (rf_RW ct 0 mf 958 g)]) (E2 := [(rf_RW ct 0 mf 958 g), (rf_MO mo mw ma mf m0 m1 mu mv u0 u1 iz th mb mn mpt mbg mwr mwk mlf men), (rf_RW ct 0 mb 800 b)]) (n := 3) [2, 0, 1] rfl rfl (by decide))
  refine ty_ki (wr := [(rf_RW ct 0 mf 958 g)]) (wc := ([(rf_MO mo mw ma mf m0 m1 mu mv u0 u1 iz th mb mn mpt mbg mwr mwk mlf men), (rf_RW ct 0 mb 800 b)] ++ ws)) (va_runV (As := []) (rest := []) ⟨hx, hb, hml, hown, hts⟩ (m_X11_see l D ct S ws mo mw ma mf m0 m1 mu mv u0 u1 iz mb th mn mpt mbg mwr mwk mlf men b _ hT hmn (by omega)) (cm_V 0 hts kc_X11_see ki_RX11 kl_RX11_106 kv_X11_see kx_X11_see kd_X11_see ⟨Nat.le_of_ble_eq_true rfl, Nat.le_of_ble_eq_true rfl⟩) (ty_preE (wr := [(rf_RW ct 0 mf 958 g)]) (wc := ([(rf_MO mo mw ma mf m0 m1 mu mv u0 u1 iz th mb mn mpt mbg mwr mwk mlf men), (rf_RW ct 0 mb 800 b)] ++ ws)) (ci := 11) (q0 := 1) hP hK hD hS hA hX rfl rfl) rfl rfl hl.1 rfl (lv_room (Nat.le_of_ble_eq_true rfl)) dX11_readStatement_1 ⟨Nat.le_of_ble_eq_true rfl, Nat.le_of_ble_eq_true rfl⟩) hP hD hS hA (fun r_1 u H locs hw_2 hP hD hS => ?_)
  obtain ⟨ws_3, mbg1_4, mpt1_5⟩ := u
  obtain ⟨hT, rfl, hp_6⟩ := hw_2
  have hP : va_P D vwCl ([(rf_RW ct 0 mf 958 g), (rf_MO mo mw ma mf m0 m1 mu mv u0 u1 iz th mb mn mpt1_5 mbg1_4 mwr mwk mlf men), (rf_RW ct 0 mb 800 b)] ++ ws_3) H := hP
  have hD : va_D A ([(rf_RW ct 0 mf 958 g), (rf_MO mo mw ma mf m0 m1 mu mv u0 u1 iz th mb mn mpt1_5 mbg1_4 mwr mwk mlf men), (rf_RW ct 0 mb 800 b)] ++ ws_3) := hD
  have hs_7 : mpt.toInt ≤ mpt1_5.toInt ∧ mpt1_5.toInt ≤ 800 := hp_6.1
  have hs_8 : mbg1_4.toInt = mpt1_5.toInt := congrArg Int32.toInt hp_6.2
  refine lv_pop hx hb dX11_readStatement_4 rfl ?_
  refine lv_aload_n hx hb dX11_readStatement_5 rfl (lv_at hl 0 rfl) ?_
  obtain ⟨sa_9, sv_10, hsr_11, hss_12⟩ := hX.2.2.2.1 ("CellCyclerModel", 162, "curve", [99, 117, 114, 118, 101]) (by decide +kernel)
  refine va_ldcS hx hb hown hsr_11 dX11_readStatement_6 ?_
  refine ty_ki (wr := [(rf_RW ct 0 mf 958 g)]) (wc := ([(rf_MO mo mw ma mf m0 m1 mu mv u0 u1 iz th mb mn mpt1_5 mbg1_4 mwr mwk mlf men), (rf_RW ct 0 mb 800 b)] ++ ws_3)) (va_runV (As := [.ref sa_9]) (rest := []) ⟨hx, hb, hml, hown, hts⟩ (m_X11_isWord l D ct S ws_3 mo mw ma mf m0 m1 mu mv u0 u1 iz mb th mn mpt1_5 mbg1_4 mwr mwk mlf men b sa_9 ("CellCyclerModel", 162, "curve", [99, 117, 114, 118, 101]) _ hT hmn (by omega) (by decide +kernel)) (cm_V 1 hts kc_X11_isWord ki_RX11 kl_RX11_146 kv_X11_isWord kx_X11_isWord kd_X11_isWord ⟨Nat.le_of_ble_eq_true rfl, Nat.le_of_ble_eq_true rfl⟩) (cm_preVs (ty_preE (wr := [(rf_RW ct 0 mf 958 g)]) (wc := ([(rf_MO mo mw ma mf m0 m1 mu mv u0 u1 iz th mb mn mpt1_5 mbg1_4 mwr mwk mlf men), (rf_RW ct 0 mb 800 b)] ++ ws_3)) (ci := 11) (q0 := 1) hP hK hD hS hA hX rfl rfl) hsr_11) rfl rfl hl.1 rfl (lv_room (Nat.le_of_ble_eq_true rfl)) dX11_readStatement_8 ⟨Nat.le_of_ble_eq_true rfl, Nat.le_of_ble_eq_true rfl⟩) hP hD hS hA (fun r_13 u H locs hw_14 hP hD hS => ?_)
  obtain ⟨ws_15, rfl⟩ : ∃ z, z = u := ⟨_, rfl⟩
  have hT := hw_14
  have hP : va_P D vwCl ([(rf_RW ct 0 mf 958 g), (rf_MO mo mw ma mf m0 m1 mu mv u0 u1 iz th mb mn mpt1_5 mbg1_4 mwr mwk mlf men), (rf_RW ct 0 mb 800 b)] ++ ws_15) H := hP
  have hD : va_D A ([(rf_RW ct 0 mf 958 g), (rf_MO mo mw ma mf m0 m1 mu mv u0 u1 iz th mb mn mpt1_5 mbg1_4 mwr mwk mlf men), (rf_RW ct 0 mb 800 b)] ++ ws_15) := hD
  refine lv_if_eq (tgt := 19) hx hb dX11_readStatement_11 (by decide) (fun hc_16 => ?_) (fun hc_16 => ?_)
  · refine lv_aload_n hx hb dX11_readStatement_19 rfl (lv_at hl 0 rfl) ?_
    obtain ⟨sa_17, sv_18, hsr_19, hss_20⟩ := hX.2.2.2.1 ("CellCyclerModel", 167, "cell", [99, 101, 108, 108]) (by decide +kernel)
    refine va_ldcS hx hb hown hsr_19 dX11_readStatement_20 ?_
    refine ty_ki (wr := [(rf_RW ct 0 mf 958 g)]) (wc := ([(rf_MO mo mw ma mf m0 m1 mu mv u0 u1 iz th mb mn mpt1_5 mbg1_4 mwr mwk mlf men), (rf_RW ct 0 mb 800 b)] ++ ws_15)) (va_runV (As := [.ref sa_17]) (rest := []) ⟨hx, hb, hml, hown, hts⟩ (m_X11_isWord l D ct S ws_15 mo mw ma mf m0 m1 mu mv u0 u1 iz mb th mn mpt1_5 mbg1_4 mwr mwk mlf men b sa_17 ("CellCyclerModel", 167, "cell", [99, 101, 108, 108]) _ hT hmn (by omega) (by decide +kernel)) (cm_V 1 hts kc_X11_isWord ki_RX11 kl_RX11_146 kv_X11_isWord kx_X11_isWord kd_X11_isWord ⟨Nat.le_of_ble_eq_true rfl, Nat.le_of_ble_eq_true rfl⟩) (cm_preVs (ty_preE (wr := [(rf_RW ct 0 mf 958 g)]) (wc := ([(rf_MO mo mw ma mf m0 m1 mu mv u0 u1 iz th mb mn mpt1_5 mbg1_4 mwr mwk mlf men), (rf_RW ct 0 mb 800 b)] ++ ws_15)) (ci := 11) (q0 := 1) hP hK hD hS hA hX rfl rfl) hsr_19) rfl rfl hl.1 rfl (lv_room (Nat.le_of_ble_eq_true rfl)) dX11_readStatement_22 ⟨Nat.le_of_ble_eq_true rfl, Nat.le_of_ble_eq_true rfl⟩) hP hD hS hA (fun r_21 u H locs hw_22 hP hD hS => ?_)
    obtain ⟨ws_23, rfl⟩ : ∃ z, z = u := ⟨_, rfl⟩
    have hT := hw_22
    have hP : va_P D vwCl ([(rf_RW ct 0 mf 958 g), (rf_MO mo mw ma mf m0 m1 mu mv u0 u1 iz th mb mn mpt1_5 mbg1_4 mwr mwk mlf men), (rf_RW ct 0 mb 800 b)] ++ ws_23) H := hP
    have hD : va_D A ([(rf_RW ct 0 mf 958 g), (rf_MO mo mw ma mf m0 m1 mu mv u0 u1 iz th mb mn mpt1_5 mbg1_4 mwr mwk mlf men), (rf_RW ct 0 mb 800 b)] ++ ws_23) := hD
    refine lv_if_eq (tgt := 33) hx hb dX11_readStatement_25 (by decide) (fun hc_24 => ?_) (fun hc_24 => ?_)
    · refine lv_aload_n hx hb dX11_readStatement_33 rfl (lv_at hl 0 rfl) ?_
      obtain ⟨sa_25, sv_26, hsr_27, hss_28⟩ := hX.2.2.2.1 ("CellCyclerModel", 172, "program", [112, 114, 111, 103, 114, 97, 109]) (by decide +kernel)
      refine va_ldcS hx hb hown hsr_27 dX11_readStatement_34 ?_
      refine ty_ki (wr := [(rf_RW ct 0 mf 958 g)]) (wc := ([(rf_MO mo mw ma mf m0 m1 mu mv u0 u1 iz th mb mn mpt1_5 mbg1_4 mwr mwk mlf men), (rf_RW ct 0 mb 800 b)] ++ ws_23)) (va_runV (As := [.ref sa_25]) (rest := []) ⟨hx, hb, hml, hown, hts⟩ (m_X11_isWord l D ct S ws_23 mo mw ma mf m0 m1 mu mv u0 u1 iz mb th mn mpt1_5 mbg1_4 mwr mwk mlf men b sa_25 ("CellCyclerModel", 172, "program", [112, 114, 111, 103, 114, 97, 109]) _ hT hmn (by omega) (by decide +kernel)) (cm_V 1 hts kc_X11_isWord ki_RX11 kl_RX11_146 kv_X11_isWord kx_X11_isWord kd_X11_isWord ⟨Nat.le_of_ble_eq_true rfl, Nat.le_of_ble_eq_true rfl⟩) (cm_preVs (ty_preE (wr := [(rf_RW ct 0 mf 958 g)]) (wc := ([(rf_MO mo mw ma mf m0 m1 mu mv u0 u1 iz th mb mn mpt1_5 mbg1_4 mwr mwk mlf men), (rf_RW ct 0 mb 800 b)] ++ ws_23)) (ci := 11) (q0 := 1) hP hK hD hS hA hX rfl rfl) hsr_27) rfl rfl hl.1 rfl (lv_room (Nat.le_of_ble_eq_true rfl)) dX11_readStatement_36 ⟨Nat.le_of_ble_eq_true rfl, Nat.le_of_ble_eq_true rfl⟩) hP hD hS hA (fun r_29 u H locs hw_30 hP hD hS => ?_)
      obtain ⟨ws_31, rfl⟩ : ∃ z, z = u := ⟨_, rfl⟩
      have hT := hw_30
      have hP : va_P D vwCl ([(rf_RW ct 0 mf 958 g), (rf_MO mo mw ma mf m0 m1 mu mv u0 u1 iz th mb mn mpt1_5 mbg1_4 mwr mwk mlf men), (rf_RW ct 0 mb 800 b)] ++ ws_31) H := hP
      have hD : va_D A ([(rf_RW ct 0 mf 958 g), (rf_MO mo mw ma mf m0 m1 mu mv u0 u1 iz th mb mn mpt1_5 mbg1_4 mwr mwk mlf men), (rf_RW ct 0 mb 800 b)] ++ ws_31) := hD
      refine lv_if_eq (tgt := 47) hx hb dX11_readStatement_39 (by decide) (fun hc_32 => ?_) (fun hc_32 => ?_)
      · refine lv_aload_n hx hb dX11_readStatement_47 rfl (lv_at hl 0 rfl) ?_
        obtain ⟨sa_33, sv_34, hsr_35, hss_36⟩ := hX.2.2.2.1 ("CellCyclerModel", 177, "efficiency", [101, 102, 102, 105, 99, 105, 101, 110, 99, 121]) (by decide +kernel)
        refine va_ldcS hx hb hown hsr_35 dX11_readStatement_48 ?_
        refine ty_ki (wr := [(rf_RW ct 0 mf 958 g)]) (wc := ([(rf_MO mo mw ma mf m0 m1 mu mv u0 u1 iz th mb mn mpt1_5 mbg1_4 mwr mwk mlf men), (rf_RW ct 0 mb 800 b)] ++ ws_31)) (va_runV (As := [.ref sa_33]) (rest := []) ⟨hx, hb, hml, hown, hts⟩ (m_X11_isWord l D ct S ws_31 mo mw ma mf m0 m1 mu mv u0 u1 iz mb th mn mpt1_5 mbg1_4 mwr mwk mlf men b sa_33 ("CellCyclerModel", 177, "efficiency", [101, 102, 102, 105, 99, 105, 101, 110, 99, 121]) _ hT hmn (by omega) (by decide +kernel)) (cm_V 1 hts kc_X11_isWord ki_RX11 kl_RX11_146 kv_X11_isWord kx_X11_isWord kd_X11_isWord ⟨Nat.le_of_ble_eq_true rfl, Nat.le_of_ble_eq_true rfl⟩) (cm_preVs (ty_preE (wr := [(rf_RW ct 0 mf 958 g)]) (wc := ([(rf_MO mo mw ma mf m0 m1 mu mv u0 u1 iz th mb mn mpt1_5 mbg1_4 mwr mwk mlf men), (rf_RW ct 0 mb 800 b)] ++ ws_31)) (ci := 11) (q0 := 1) hP hK hD hS hA hX rfl rfl) hsr_35) rfl rfl hl.1 rfl (lv_room (Nat.le_of_ble_eq_true rfl)) dX11_readStatement_50 ⟨Nat.le_of_ble_eq_true rfl, Nat.le_of_ble_eq_true rfl⟩) hP hD hS hA (fun r_37 u H locs hw_38 hP hD hS => ?_)
        obtain ⟨ws_39, rfl⟩ : ∃ z, z = u := ⟨_, rfl⟩
        have hT := hw_38
        have hP : va_P D vwCl ([(rf_RW ct 0 mf 958 g), (rf_MO mo mw ma mf m0 m1 mu mv u0 u1 iz th mb mn mpt1_5 mbg1_4 mwr mwk mlf men), (rf_RW ct 0 mb 800 b)] ++ ws_39) H := hP
        have hD : va_D A ([(rf_RW ct 0 mf 958 g), (rf_MO mo mw ma mf m0 m1 mu mv u0 u1 iz th mb mn mpt1_5 mbg1_4 mwr mwk mlf men), (rf_RW ct 0 mb 800 b)] ++ ws_39) := hD
        refine lv_if_eq (tgt := 83) hx hb dX11_readStatement_53 (by decide) (fun hc_40 => ?_) (fun hc_40 => ?_)
        · refine lv_aload_n hx hb dX11_readStatement_83 rfl (lv_at hl 0 rfl) ?_
          obtain ⟨sa_41, sv_42, hsr_43, hss_44⟩ := hX.2.2.2.1 ("CellCyclerModel", 179, "fade", [102, 97, 100, 101]) (by decide +kernel)
          refine va_ldcS hx hb hown hsr_43 dX11_readStatement_84 ?_
          refine ty_ki (wr := [(rf_RW ct 0 mf 958 g)]) (wc := ([(rf_MO mo mw ma mf m0 m1 mu mv u0 u1 iz th mb mn mpt1_5 mbg1_4 mwr mwk mlf men), (rf_RW ct 0 mb 800 b)] ++ ws_39)) (va_runV (As := [.ref sa_41]) (rest := []) ⟨hx, hb, hml, hown, hts⟩ (m_X11_isWord l D ct S ws_39 mo mw ma mf m0 m1 mu mv u0 u1 iz mb th mn mpt1_5 mbg1_4 mwr mwk mlf men b sa_41 ("CellCyclerModel", 179, "fade", [102, 97, 100, 101]) _ hT hmn (by omega) (by decide +kernel)) (cm_V 1 hts kc_X11_isWord ki_RX11 kl_RX11_146 kv_X11_isWord kx_X11_isWord kd_X11_isWord ⟨Nat.le_of_ble_eq_true rfl, Nat.le_of_ble_eq_true rfl⟩) (cm_preVs (ty_preE (wr := [(rf_RW ct 0 mf 958 g)]) (wc := ([(rf_MO mo mw ma mf m0 m1 mu mv u0 u1 iz th mb mn mpt1_5 mbg1_4 mwr mwk mlf men), (rf_RW ct 0 mb 800 b)] ++ ws_39)) (ci := 11) (q0 := 1) hP hK hD hS hA hX rfl rfl) hsr_43) rfl rfl hl.1 rfl (lv_room (Nat.le_of_ble_eq_true rfl)) dX11_readStatement_86 ⟨Nat.le_of_ble_eq_true rfl, Nat.le_of_ble_eq_true rfl⟩) hP hD hS hA (fun r_45 u H locs hw_46 hP hD hS => ?_)
          obtain ⟨ws_47, rfl⟩ : ∃ z, z = u := ⟨_, rfl⟩
          have hT := hw_46
          have hP : va_P D vwCl ([(rf_RW ct 0 mf 958 g), (rf_MO mo mw ma mf m0 m1 mu mv u0 u1 iz th mb mn mpt1_5 mbg1_4 mwr mwk mlf men), (rf_RW ct 0 mb 800 b)] ++ ws_47) H := hP
          have hD : va_D A ([(rf_RW ct 0 mf 958 g), (rf_MO mo mw ma mf m0 m1 mu mv u0 u1 iz th mb mn mpt1_5 mbg1_4 mwr mwk mlf men), (rf_RW ct 0 mb 800 b)] ++ ws_47) := hD
          refine lv_if_eq (tgt := 117) hx hb dX11_readStatement_89 (by decide) (fun hc_48 => ?_) (fun hc_48 => ?_)
          · refine lv_aload_n hx hb dX11_readStatement_117 rfl (lv_at hl 0 rfl) ?_
            obtain ⟨sa_49, sv_50, hsr_51, hss_52⟩ := hX.2.2.2.1 ("CellCyclerModel", 182, "heat", [104, 101, 97, 116]) (by decide +kernel)
            refine va_ldcS hx hb hown hsr_51 dX11_readStatement_118 ?_
            refine ty_ki (wr := [(rf_RW ct 0 mf 958 g)]) (wc := ([(rf_MO mo mw ma mf m0 m1 mu mv u0 u1 iz th mb mn mpt1_5 mbg1_4 mwr mwk mlf men), (rf_RW ct 0 mb 800 b)] ++ ws_47)) (va_runV (As := [.ref sa_49]) (rest := []) ⟨hx, hb, hml, hown, hts⟩ (m_X11_isWord l D ct S ws_47 mo mw ma mf m0 m1 mu mv u0 u1 iz mb th mn mpt1_5 mbg1_4 mwr mwk mlf men b sa_49 ("CellCyclerModel", 182, "heat", [104, 101, 97, 116]) _ hT hmn (by omega) (by decide +kernel)) (cm_V 1 hts kc_X11_isWord ki_RX11 kl_RX11_146 kv_X11_isWord kx_X11_isWord kd_X11_isWord ⟨Nat.le_of_ble_eq_true rfl, Nat.le_of_ble_eq_true rfl⟩) (cm_preVs (ty_preE (wr := [(rf_RW ct 0 mf 958 g)]) (wc := ([(rf_MO mo mw ma mf m0 m1 mu mv u0 u1 iz th mb mn mpt1_5 mbg1_4 mwr mwk mlf men), (rf_RW ct 0 mb 800 b)] ++ ws_47)) (ci := 11) (q0 := 1) hP hK hD hS hA hX rfl rfl) hsr_51) rfl rfl hl.1 rfl (lv_room (Nat.le_of_ble_eq_true rfl)) dX11_readStatement_120 ⟨Nat.le_of_ble_eq_true rfl, Nat.le_of_ble_eq_true rfl⟩) hP hD hS hA (fun r_53 u H locs hw_54 hP hD hS => ?_)
            obtain ⟨ws_55, rfl⟩ : ∃ z, z = u := ⟨_, rfl⟩
            have hT := hw_54
            have hP : va_P D vwCl ([(rf_RW ct 0 mf 958 g), (rf_MO mo mw ma mf m0 m1 mu mv u0 u1 iz th mb mn mpt1_5 mbg1_4 mwr mwk mlf men), (rf_RW ct 0 mb 800 b)] ++ ws_55) H := hP
            have hD : va_D A ([(rf_RW ct 0 mf 958 g), (rf_MO mo mw ma mf m0 m1 mu mv u0 u1 iz th mb mn mpt1_5 mbg1_4 mwr mwk mlf men), (rf_RW ct 0 mb 800 b)] ++ ws_55) := hD
            refine lv_if_eq (tgt := 171) hx hb dX11_readStatement_123 (by decide) (fun hc_56 => ?_) (fun hc_56 => ?_)
            · refine lv_aload_n hx hb dX11_readStatement_171 rfl (lv_at hl 0 rfl) ?_
              obtain ⟨sa_57, sv_58, hsr_59, hss_60⟩ := hX.2.2.2.1 ("CellCyclerModel", 187, "limits", [108, 105, 109, 105, 116, 115]) (by decide +kernel)
              refine va_ldcS hx hb hown hsr_59 dX11_readStatement_172 ?_
              refine ty_ki (wr := [(rf_RW ct 0 mf 958 g)]) (wc := ([(rf_MO mo mw ma mf m0 m1 mu mv u0 u1 iz th mb mn mpt1_5 mbg1_4 mwr mwk mlf men), (rf_RW ct 0 mb 800 b)] ++ ws_55)) (va_runV (As := [.ref sa_57]) (rest := []) ⟨hx, hb, hml, hown, hts⟩ (m_X11_isWord l D ct S ws_55 mo mw ma mf m0 m1 mu mv u0 u1 iz mb th mn mpt1_5 mbg1_4 mwr mwk mlf men b sa_57 ("CellCyclerModel", 187, "limits", [108, 105, 109, 105, 116, 115]) _ hT hmn (by omega) (by decide +kernel)) (cm_V 1 hts kc_X11_isWord ki_RX11 kl_RX11_146 kv_X11_isWord kx_X11_isWord kd_X11_isWord ⟨Nat.le_of_ble_eq_true rfl, Nat.le_of_ble_eq_true rfl⟩) (cm_preVs (ty_preE (wr := [(rf_RW ct 0 mf 958 g)]) (wc := ([(rf_MO mo mw ma mf m0 m1 mu mv u0 u1 iz th mb mn mpt1_5 mbg1_4 mwr mwk mlf men), (rf_RW ct 0 mb 800 b)] ++ ws_55)) (ci := 11) (q0 := 1) hP hK hD hS hA hX rfl rfl) hsr_59) rfl rfl hl.1 rfl (lv_room (Nat.le_of_ble_eq_true rfl)) dX11_readStatement_174 ⟨Nat.le_of_ble_eq_true rfl, Nat.le_of_ble_eq_true rfl⟩) hP hD hS hA (fun r_61 u H locs hw_62 hP hD hS => ?_)
              obtain ⟨ws_63, rfl⟩ : ∃ z, z = u := ⟨_, rfl⟩
              have hT := hw_62
              have hP : va_P D vwCl ([(rf_RW ct 0 mf 958 g), (rf_MO mo mw ma mf m0 m1 mu mv u0 u1 iz th mb mn mpt1_5 mbg1_4 mwr mwk mlf men), (rf_RW ct 0 mb 800 b)] ++ ws_63) H := hP
              have hD : va_D A ([(rf_RW ct 0 mf 958 g), (rf_MO mo mw ma mf m0 m1 mu mv u0 u1 iz th mb mn mpt1_5 mbg1_4 mwr mwk mlf men), (rf_RW ct 0 mb 800 b)] ++ ws_63) := hD
              refine lv_if_eq (tgt := 237) hx hb dX11_readStatement_177 (by decide) (fun hc_64 => ?_) (fun hc_64 => ?_)
              · refine lv_aload_n hx hb dX11_readStatement_237 rfl (lv_at hl 0 rfl) ?_
                obtain ⟨sa_65, sv_66, hsr_67, hss_68⟩ := hX.2.2.2.1 ("CellCyclerModel", 189, "warn", [119, 97, 114, 110]) (by decide +kernel)
                refine va_ldcS hx hb hown hsr_67 dX11_readStatement_238 ?_
                refine ty_ki (wr := [(rf_RW ct 0 mf 958 g)]) (wc := ([(rf_MO mo mw ma mf m0 m1 mu mv u0 u1 iz th mb mn mpt1_5 mbg1_4 mwr mwk mlf men), (rf_RW ct 0 mb 800 b)] ++ ws_63)) (va_runV (As := [.ref sa_65]) (rest := []) ⟨hx, hb, hml, hown, hts⟩ (m_X11_isWord l D ct S ws_63 mo mw ma mf m0 m1 mu mv u0 u1 iz mb th mn mpt1_5 mbg1_4 mwr mwk mlf men b sa_65 ("CellCyclerModel", 189, "warn", [119, 97, 114, 110]) _ hT hmn (by omega) (by decide +kernel)) (cm_V 1 hts kc_X11_isWord ki_RX11 kl_RX11_146 kv_X11_isWord kx_X11_isWord kd_X11_isWord ⟨Nat.le_of_ble_eq_true rfl, Nat.le_of_ble_eq_true rfl⟩) (cm_preVs (ty_preE (wr := [(rf_RW ct 0 mf 958 g)]) (wc := ([(rf_MO mo mw ma mf m0 m1 mu mv u0 u1 iz th mb mn mpt1_5 mbg1_4 mwr mwk mlf men), (rf_RW ct 0 mb 800 b)] ++ ws_63)) (ci := 11) (q0 := 1) hP hK hD hS hA hX rfl rfl) hsr_67) rfl rfl hl.1 rfl (lv_room (Nat.le_of_ble_eq_true rfl)) dX11_readStatement_240 ⟨Nat.le_of_ble_eq_true rfl, Nat.le_of_ble_eq_true rfl⟩) hP hD hS hA (fun r_69 u H locs hw_70 hP hD hS => ?_)
                obtain ⟨ws_71, rfl⟩ : ∃ z, z = u := ⟨_, rfl⟩
                have hT := hw_70
                have hP : va_P D vwCl ([(rf_RW ct 0 mf 958 g), (rf_MO mo mw ma mf m0 m1 mu mv u0 u1 iz th mb mn mpt1_5 mbg1_4 mwr mwk mlf men), (rf_RW ct 0 mb 800 b)] ++ ws_71) H := hP
                have hD : va_D A ([(rf_RW ct 0 mf 958 g), (rf_MO mo mw ma mf m0 m1 mu mv u0 u1 iz th mb mn mpt1_5 mbg1_4 mwr mwk mlf men), (rf_RW ct 0 mb 800 b)] ++ ws_71) := hD
                refine lv_if_eq (tgt := 304) hx hb dX11_readStatement_243 (by decide) (fun hc_72 => ?_) (fun hc_72 => ?_)
                · refine lv_aload_n hx hb dX11_readStatement_304 rfl (lv_at hl 0 rfl) ?_
                  obtain ⟨sa_73, sv_74, hsr_75, hss_76⟩ := hX.2.2.2.1 ("CellCyclerModel", 191, "derate", [100, 101, 114, 97, 116, 101]) (by decide +kernel)
                  refine va_ldcS hx hb hown hsr_75 dX11_readStatement_305 ?_
                  refine ty_ki (wr := [(rf_RW ct 0 mf 958 g)]) (wc := ([(rf_MO mo mw ma mf m0 m1 mu mv u0 u1 iz th mb mn mpt1_5 mbg1_4 mwr mwk mlf men), (rf_RW ct 0 mb 800 b)] ++ ws_71)) (va_runV (As := [.ref sa_73]) (rest := []) ⟨hx, hb, hml, hown, hts⟩ (m_X11_isWord l D ct S ws_71 mo mw ma mf m0 m1 mu mv u0 u1 iz mb th mn mpt1_5 mbg1_4 mwr mwk mlf men b sa_73 ("CellCyclerModel", 191, "derate", [100, 101, 114, 97, 116, 101]) _ hT hmn (by omega) (by decide +kernel)) (cm_V 1 hts kc_X11_isWord ki_RX11 kl_RX11_146 kv_X11_isWord kx_X11_isWord kd_X11_isWord ⟨Nat.le_of_ble_eq_true rfl, Nat.le_of_ble_eq_true rfl⟩) (cm_preVs (ty_preE (wr := [(rf_RW ct 0 mf 958 g)]) (wc := ([(rf_MO mo mw ma mf m0 m1 mu mv u0 u1 iz th mb mn mpt1_5 mbg1_4 mwr mwk mlf men), (rf_RW ct 0 mb 800 b)] ++ ws_71)) (ci := 11) (q0 := 1) hP hK hD hS hA hX rfl rfl) hsr_75) rfl rfl hl.1 rfl (lv_room (Nat.le_of_ble_eq_true rfl)) dX11_readStatement_307 ⟨Nat.le_of_ble_eq_true rfl, Nat.le_of_ble_eq_true rfl⟩) hP hD hS hA (fun r_77 u H locs hw_78 hP hD hS => ?_)
                  obtain ⟨ws_79, rfl⟩ : ∃ z, z = u := ⟨_, rfl⟩
                  have hT := hw_78
                  have hP : va_P D vwCl ([(rf_RW ct 0 mf 958 g), (rf_MO mo mw ma mf m0 m1 mu mv u0 u1 iz th mb mn mpt1_5 mbg1_4 mwr mwk mlf men), (rf_RW ct 0 mb 800 b)] ++ ws_79) H := hP
                  have hD : va_D A ([(rf_RW ct 0 mf 958 g), (rf_MO mo mw ma mf m0 m1 mu mv u0 u1 iz th mb mn mpt1_5 mbg1_4 mwr mwk mlf men), (rf_RW ct 0 mb 800 b)] ++ ws_79) := hD
                  refine lv_if_eq (tgt := 339) hx hb dX11_readStatement_310 (by decide) (fun hc_80 => ?_) (fun hc_80 => ?_)
                  · refine lv_aload_n hx hb dX11_readStatement_339 rfl (lv_at hl 0 rfl) ?_
                    obtain ⟨sa_81, sv_82, hsr_83, hss_84⟩ := hX.2.2.2.1 ("CellCyclerModel", 193, "ambient", [97, 109, 98, 105, 101, 110, 116]) (by decide +kernel)
                    refine va_ldcS hx hb hown hsr_83 dX11_readStatement_340 ?_
                    refine ty_ki (wr := [(rf_RW ct 0 mf 958 g)]) (wc := ([(rf_MO mo mw ma mf m0 m1 mu mv u0 u1 iz th mb mn mpt1_5 mbg1_4 mwr mwk mlf men), (rf_RW ct 0 mb 800 b)] ++ ws_79)) (va_runV (As := [.ref sa_81]) (rest := []) ⟨hx, hb, hml, hown, hts⟩ (m_X11_isWord l D ct S ws_79 mo mw ma mf m0 m1 mu mv u0 u1 iz mb th mn mpt1_5 mbg1_4 mwr mwk mlf men b sa_81 ("CellCyclerModel", 193, "ambient", [97, 109, 98, 105, 101, 110, 116]) _ hT hmn (by omega) (by decide +kernel)) (cm_V 1 hts kc_X11_isWord ki_RX11 kl_RX11_146 kv_X11_isWord kx_X11_isWord kd_X11_isWord ⟨Nat.le_of_ble_eq_true rfl, Nat.le_of_ble_eq_true rfl⟩) (cm_preVs (ty_preE (wr := [(rf_RW ct 0 mf 958 g)]) (wc := ([(rf_MO mo mw ma mf m0 m1 mu mv u0 u1 iz th mb mn mpt1_5 mbg1_4 mwr mwk mlf men), (rf_RW ct 0 mb 800 b)] ++ ws_79)) (ci := 11) (q0 := 1) hP hK hD hS hA hX rfl rfl) hsr_83) rfl rfl hl.1 rfl (lv_room (Nat.le_of_ble_eq_true rfl)) dX11_readStatement_342 ⟨Nat.le_of_ble_eq_true rfl, Nat.le_of_ble_eq_true rfl⟩) hP hD hS hA (fun r_85 u H locs hw_86 hP hD hS => ?_)
                    obtain ⟨ws_87, rfl⟩ : ∃ z, z = u := ⟨_, rfl⟩
                    have hT := hw_86
                    have hP : va_P D vwCl ([(rf_RW ct 0 mf 958 g), (rf_MO mo mw ma mf m0 m1 mu mv u0 u1 iz th mb mn mpt1_5 mbg1_4 mwr mwk mlf men), (rf_RW ct 0 mb 800 b)] ++ ws_87) H := hP
                    have hD : va_D A ([(rf_RW ct 0 mf 958 g), (rf_MO mo mw ma mf m0 m1 mu mv u0 u1 iz th mb mn mpt1_5 mbg1_4 mwr mwk mlf men), (rf_RW ct 0 mb 800 b)] ++ ws_87) := hD
                    refine lv_if_eq (tgt := 376) hx hb dX11_readStatement_345 (by decide) (fun hc_88 => ?_) (fun hc_88 => ?_)
                    · refine lv_aload_n hx hb dX11_readStatement_376 rfl (lv_at hl 0 rfl) ?_
                      refine lv_iconst (v := 1) hx hb dX11_readStatement_377 (by decide) ?_
                      have hP : va_P D vwCl ([(rf_RW ct 0 mf 958 g), (rf_RW ct 0 mb 800 b), (rf_MO mo mw ma mf m0 m1 mu mv u0 u1 iz th mb mn mpt1_5 mbg1_4 mwr mwk mlf men)] ++ ws_87) H := ty_permP hP (ty_ordp (E := [(rf_RW ct 0 mf 958 g), (rf_MO mo mw ma mf m0 m1 mu mv u0 u1 iz th mb mn mpt1_5 mbg1_4 mwr mwk mlf men), (rf_RW ct 0 mb 800 b)]) (E2 := [(rf_RW ct 0 mf 958 g), (rf_RW ct 0 mb 800 b), (rf_MO mo mw ma mf m0 m1 mu mv u0 u1 iz th mb mn mpt1_5 mbg1_4 mwr mwk mlf men)]) (n := 3) [0, 2, 1] rfl rfl (by decide))
                      have hD : va_D A ([(rf_RW ct 0 mf 958 g), (rf_RW ct 0 mb 800 b), (rf_MO mo mw ma mf m0 m1 mu mv u0 u1 iz th mb mn mpt1_5 mbg1_4 mwr mwk mlf men)] ++ ws_87) := ty_permD hD (ty_ordp (E := [(rf_RW ct 0 mf 958 g), (rf_MO mo mw ma mf m0 m1 mu mv u0 u1 iz th mb mn mpt1_5 mbg1_4 mwr mwk mlf men), (rf_RW ct 0 mb 800 b)]) (E2 := [(rf_RW ct 0 mf 958 g), (rf_RW ct 0 mb 800 b), (rf_MO mo mw ma mf m0 m1 mu mv u0 u1 iz th mb mn mpt1_5 mbg1_4 mwr mwk mlf men)]) (n := 3) [0, 2, 1] rfl rfl (by decide))
                      refine ty_ki (wr := [(rf_RW ct 0 mf 958 g), (rf_RW ct 0 mb 800 b)]) (wc := ([(rf_MO mo mw ma mf m0 m1 mu mv u0 u1 iz th mb mn mpt1_5 mbg1_4 mwr mwk mlf men)] ++ ws_87)) (va_runV (As := [.int 1]) (rest := []) ⟨hx, hb, hml, hown, hts⟩ (m_X11_fails l D ct S ws_87 mo mw ma mf m0 m1 mu mv u0 u1 iz mb th mn mpt1_5 mbg1_4 mwr mwk mlf men (1 : Int32) _ hT) (cm_V 1 hts kc_X11_fails ki_RX11 kl_RX11_112 kv_X11_fails kx_X11_fails kd_X11_fails ⟨Nat.le_of_ble_eq_true rfl, Nat.le_of_ble_eq_true rfl⟩) (ty_preE (wr := [(rf_RW ct 0 mf 958 g), (rf_RW ct 0 mb 800 b)]) (wc := ([(rf_MO mo mw ma mf m0 m1 mu mv u0 u1 iz th mb mn mpt1_5 mbg1_4 mwr mwk mlf men)] ++ ws_87)) (ci := 11) (q0 := 2) hP hK hD hS hA hX rfl rfl) rfl rfl hl.1 rfl (lv_room (Nat.le_of_ble_eq_true rfl)) dX11_readStatement_378 ⟨Nat.le_of_ble_eq_true rfl, Nat.le_of_ble_eq_true rfl⟩) hP hD hS hA (fun r_89 u H locs hw_90 hP hD hS => ?_)
                      obtain ⟨ws_91, mwr1_92, mwk1_93⟩ := u
                      obtain ⟨hT, rfl⟩ := hw_90
                      have hP : va_P D vwCl ([(rf_RW ct 0 mf 958 g), (rf_RW ct 0 mb 800 b), (rf_MO mo mw ma mf m0 m1 mu mv u0 u1 iz th mb mn mpt1_5 mbg1_4 mwr1_92 mwk1_93 mlf men)] ++ ws_91) H := hP
                      have hD : va_D A ([(rf_RW ct 0 mf 958 g), (rf_RW ct 0 mb 800 b), (rf_MO mo mw ma mf m0 m1 mu mv u0 u1 iz th mb mn mpt1_5 mbg1_4 mwr1_92 mwk1_93 mlf men)] ++ ws_91) := hD
                      have hP : va_P D vwCl ([(rf_MO mo mw ma mf m0 m1 mu mv u0 u1 iz th mb mn mpt1_5 mbg1_4 mwr1_92 mwk1_93 mlf men), (rf_RW ct 0 mb 800 b), (rf_RW ct 0 mf 958 g)] ++ ws_91) H := ty_permP hP (ty_ordp (E := [(rf_RW ct 0 mf 958 g), (rf_RW ct 0 mb 800 b), (rf_MO mo mw ma mf m0 m1 mu mv u0 u1 iz th mb mn mpt1_5 mbg1_4 mwr1_92 mwk1_93 mlf men)]) (E2 := [(rf_MO mo mw ma mf m0 m1 mu mv u0 u1 iz th mb mn mpt1_5 mbg1_4 mwr1_92 mwk1_93 mlf men), (rf_RW ct 0 mb 800 b), (rf_RW ct 0 mf 958 g)]) (n := 3) [2, 1, 0] rfl rfl (by decide))
                      have hD : va_D A ([(rf_MO mo mw ma mf m0 m1 mu mv u0 u1 iz th mb mn mpt1_5 mbg1_4 mwr1_92 mwk1_93 mlf men), (rf_RW ct 0 mb 800 b), (rf_RW ct 0 mf 958 g)] ++ ws_91) := ty_permD hD (ty_ordp (E := [(rf_RW ct 0 mf 958 g), (rf_RW ct 0 mb 800 b), (rf_MO mo mw ma mf m0 m1 mu mv u0 u1 iz th mb mn mpt1_5 mbg1_4 mwr1_92 mwk1_93 mlf men)]) (E2 := [(rf_MO mo mw ma mf m0 m1 mu mv u0 u1 iz th mb mn mpt1_5 mbg1_4 mwr1_92 mwk1_93 mlf men), (rf_RW ct 0 mb 800 b), (rf_RW ct 0 mf 958 g)]) (n := 3) [2, 1, 0] rfl rfl (by decide))
                      exact W.zret (v := 0) hx hb hr (by decide) (fun t ht hW => ⟨⟨0, (ws_91, mpt1_5, mbg1_4, mwr1_92, mwk1_93, g), rfl, ⟨hT, ⟨by omega, Or.inl rfl⟩⟩, by rw [ht]; exact hP, by rw [hAe]; exact hD⟩, hS.F ht⟩) hS.2.2 dX11_readStatement_381
                    · refine lv_aload_n hx hb dX11_readStatement_348 rfl (lv_at hl 0 rfl) ?_
                      refine ty_ki (wr := [(rf_RW ct 0 mf 958 g)]) (wc := ([(rf_MO mo mw ma mf m0 m1 mu mv u0 u1 iz th mb mn mpt1_5 mbg1_4 mwr mwk mlf men), (rf_RW ct 0 mb 800 b)] ++ ws_87)) (va_runV (As := []) (rest := []) ⟨hx, hb, hml, hown, hts⟩ (m_X11_passes l D ct S ws_87 mo mw ma mf m0 m1 mu mv u0 u1 iz mb th mn mpt1_5 mbg1_4 mwr mwk mlf men b _ hT hmn (by omega)) (cm_V 0 hts kc_X11_passes ki_RX11 kl_RX11_133 kv_X11_passes kx_X11_passes kd_X11_passes ⟨Nat.le_of_ble_eq_true rfl, Nat.le_of_ble_eq_true rfl⟩) (ty_preE (wr := [(rf_RW ct 0 mf 958 g)]) (wc := ([(rf_MO mo mw ma mf m0 m1 mu mv u0 u1 iz th mb mn mpt1_5 mbg1_4 mwr mwk mlf men), (rf_RW ct 0 mb 800 b)] ++ ws_87)) (ci := 11) (q0 := 1) hP hK hD hS hA hX rfl rfl) rfl rfl hl.1 rfl (lv_room (Nat.le_of_ble_eq_true rfl)) dX11_readStatement_349 ⟨Nat.le_of_ble_eq_true rfl, Nat.le_of_ble_eq_true rfl⟩) hP hD hS hA (fun r_94 u H locs hw_95 hP hD hS => ?_)
                      obtain ⟨ws_96, mpt1_97⟩ := u
                      obtain ⟨hT, rfl, hp_98⟩ := hw_95
                      have hP : va_P D vwCl ([(rf_RW ct 0 mf 958 g), (rf_MO mo mw ma mf m0 m1 mu mv u0 u1 iz th mb mn mpt1_97 mbg1_4 mwr mwk mlf men), (rf_RW ct 0 mb 800 b)] ++ ws_96) H := hP
                      have hD : va_D A ([(rf_RW ct 0 mf 958 g), (rf_MO mo mw ma mf m0 m1 mu mv u0 u1 iz th mb mn mpt1_97 mbg1_4 mwr mwk mlf men), (rf_RW ct 0 mb 800 b)] ++ ws_96) := hD
                      have hs_99 : mbg1_4.toInt ≤ mpt1_97.toInt ∧ mpt1_97.toInt ≤ 800 := hp_98
                      refine lv_if_eq (tgt := 372) hx hb dX11_readStatement_352 (by decide) (fun hc => absurd hc (by decide)) (fun _ => ?_)
                      refine lv_aload_n hx hb dX11_readStatement_355 rfl (lv_at hl 0 rfl) ?_
                      refine lv_bipush (v := 7) hx hb dX11_readStatement_356 (by decide) ?_
                      refine lv_iconst (v := 0) hx hb dX11_readStatement_358 (by decide) ?_
                      refine lv_sipush (v := 500) hx hb dX11_readStatement_359 (by decide) ?_
                      have hP : va_P D vwCl ([(rf_MO mo mw ma mf m0 m1 mu mv u0 u1 iz th mb mn mpt1_97 mbg1_4 mwr mwk mlf men), (rf_RW ct 0 mb 800 b), (rf_RW ct 0 mf 958 g)] ++ ws_96) H := ty_permP hP (ty_ordp (E := [(rf_RW ct 0 mf 958 g), (rf_MO mo mw ma mf m0 m1 mu mv u0 u1 iz th mb mn mpt1_97 mbg1_4 mwr mwk mlf men), (rf_RW ct 0 mb 800 b)]) (E2 := [(rf_MO mo mw ma mf m0 m1 mu mv u0 u1 iz th mb mn mpt1_97 mbg1_4 mwr mwk mlf men), (rf_RW ct 0 mb 800 b), (rf_RW ct 0 mf 958 g)]) (n := 3) [1, 2, 0] rfl rfl (by decide))
                      have hD : va_D A ([(rf_MO mo mw ma mf m0 m1 mu mv u0 u1 iz th mb mn mpt1_97 mbg1_4 mwr mwk mlf men), (rf_RW ct 0 mb 800 b), (rf_RW ct 0 mf 958 g)] ++ ws_96) := ty_permD hD (ty_ordp (E := [(rf_RW ct 0 mf 958 g), (rf_MO mo mw ma mf m0 m1 mu mv u0 u1 iz th mb mn mpt1_97 mbg1_4 mwr mwk mlf men), (rf_RW ct 0 mb 800 b)]) (E2 := [(rf_MO mo mw ma mf m0 m1 mu mv u0 u1 iz th mb mn mpt1_97 mbg1_4 mwr mwk mlf men), (rf_RW ct 0 mb 800 b), (rf_RW ct 0 mf 958 g)]) (n := 3) [1, 2, 0] rfl rfl (by decide))
                      refine ty_ki (wr := []) (wc := ([(rf_MO mo mw ma mf m0 m1 mu mv u0 u1 iz th mb mn mpt1_97 mbg1_4 mwr mwk mlf men), (rf_RW ct 0 mb 800 b), (rf_RW ct 0 mf 958 g)] ++ ws_96)) (va_runV (As := [.int 7, .int 0, .int 500]) (rest := []) ⟨hx, hb, hml, hown, hts⟩ (m_X11_reads l D ct S ws_96 mo mw ma mf m0 m1 mu mv u0 u1 iz mb th mn mpt1_97 mbg1_4 mwr mwk mlf men b (7 : Int32) (0 : Int32) (500 : Int32) g _ hT hmn (by omega) (by omega) (by decide)) (cm_V 3 hts kc_X11_reads ki_RX11 kl_RX11_140 kv_X11_reads kx_X11_reads kd_X11_reads ⟨Nat.le_of_ble_eq_true rfl, Nat.le_of_ble_eq_true rfl⟩) (ty_preE (wr := []) (wc := ([(rf_MO mo mw ma mf m0 m1 mu mv u0 u1 iz th mb mn mpt1_97 mbg1_4 mwr mwk mlf men), (rf_RW ct 0 mb 800 b), (rf_RW ct 0 mf 958 g)] ++ ws_96)) (ci := 11) (q0 := 0) hP hK hD hS hA hX rfl rfl) rfl rfl hl.1 rfl (lv_room (Nat.le_of_ble_eq_true rfl)) dX11_readStatement_362 ⟨Nat.le_of_ble_eq_true rfl, Nat.le_of_ble_eq_true rfl⟩) hP hD hS hA (fun r_100 u H locs hw_101 hP hD hS => ?_)
                      obtain ⟨ws_102, mpt1_103, mbg1_104, mwr1_105, mwk1_106, g1_107⟩ := u
                      obtain ⟨hT, hp_108⟩ := hw_101
                      have hp_108 : ((mpt1_97.toInt ≤ mpt1_103.toInt ∧ mpt1_103.toInt ≤ 800) ∧ 0 ≤ mbg1_104.toInt ∧ mbg1_104.toInt ≤ 800) ∧ (r_100 = 0 ∨ (r_100 = 1 ∧ ∃ v : Int32, ((0 : Int32).toInt ≤ v.toInt ∧ v.toInt ≤ (500 : Int32).toInt) ∧ g1_107 = upd g (7 : Int32).toInt.toNat v)) := hp_108
                      have hP : va_P D vwCl ([(rf_MO mo mw ma mf m0 m1 mu mv u0 u1 iz th mb mn mpt1_103 mbg1_104 mwr1_105 mwk1_106 mlf men), (rf_RW ct 0 mb 800 b), (rf_RW ct 0 mf 958 g1_107)] ++ ws_102) H := hP
                      have hD : va_D A ([(rf_MO mo mw ma mf m0 m1 mu mv u0 u1 iz th mb mn mpt1_103 mbg1_104 mwr1_105 mwk1_106 mlf men), (rf_RW ct 0 mb 800 b), (rf_RW ct 0 mf 958 g1_107)] ++ ws_102) := hD
                      obtain ⟨hb_109, hb_111⟩ := hp_108
                      rcases hb_111 with rfl | ⟨rfl, hz_112⟩
                      · refine lv_if_eq (tgt := 372) hx hb dX11_readStatement_365 (by decide) (fun _ => ?_) (fun hc => absurd (by decide) hc)
                        refine lv_iconst (v := 0) hx hb dX11_readStatement_372 (by decide) ?_
                        refine lv_goto (tgt := 381) hx hb dX11_readStatement_373 (by decide) ?_
                        exact W.zret (v := 0) hx hb hr (by decide) (fun t ht hW => ⟨⟨0, (ws_102, mpt1_103, mbg1_104, mwr1_105, mwk1_106, g1_107), rfl, ⟨hT, ⟨by omega, Or.inl rfl⟩⟩, by rw [ht]; exact hP, by rw [hAe]; exact hD⟩, hS.F ht⟩) hS.2.2 dX11_readStatement_381
                      · obtain ⟨v_113, hv_114, he_115⟩ := hz_112
                        have hz_116 : (7 : Int32).toInt = 7 := (by decide)
                        have hz_117 : (0 : Int32).toInt = 0 := (by decide)
                        have hz_118 : (500 : Int32).toInt = 500 := (by decide)
                        have hL_119 : rf_L g1_107 := by rw [he_115]; exact rf_Lset hL (by omega)
                        refine lv_if_eq (tgt := 372) hx hb dX11_readStatement_365 (by decide) (fun hc => absurd hc (by decide)) (fun _ => ?_)
                        refine lv_iconst (v := 1) hx hb dX11_readStatement_368 (by decide) ?_
                        refine lv_goto (tgt := 381) hx hb dX11_readStatement_369 (by decide) ?_
                        exact W.zret (v := 1) hx hb hr (by decide) (fun t ht hW => ⟨⟨1, (ws_102, mpt1_103, mbg1_104, mwr1_105, mwk1_106, g1_107), rfl, ⟨hT, ⟨by omega, Or.inr ⟨rfl, hL_119⟩⟩⟩, by rw [ht]; exact hP, by rw [hAe]; exact hD⟩, hS.F ht⟩) hS.2.2 dX11_readStatement_381
                  · refine lv_aload_n hx hb dX11_readStatement_313 rfl (lv_at hl 0 rfl) ?_
                    refine ty_ki (wr := [(rf_RW ct 0 mf 958 g)]) (wc := ([(rf_MO mo mw ma mf m0 m1 mu mv u0 u1 iz th mb mn mpt1_5 mbg1_4 mwr mwk mlf men), (rf_RW ct 0 mb 800 b)] ++ ws_79)) (va_runV (As := []) (rest := []) ⟨hx, hb, hml, hown, hts⟩ (m_X11_passes l D ct S ws_79 mo mw ma mf m0 m1 mu mv u0 u1 iz mb th mn mpt1_5 mbg1_4 mwr mwk mlf men b _ hT hmn (by omega)) (cm_V 0 hts kc_X11_passes ki_RX11 kl_RX11_133 kv_X11_passes kx_X11_passes kd_X11_passes ⟨Nat.le_of_ble_eq_true rfl, Nat.le_of_ble_eq_true rfl⟩) (ty_preE (wr := [(rf_RW ct 0 mf 958 g)]) (wc := ([(rf_MO mo mw ma mf m0 m1 mu mv u0 u1 iz th mb mn mpt1_5 mbg1_4 mwr mwk mlf men), (rf_RW ct 0 mb 800 b)] ++ ws_79)) (ci := 11) (q0 := 1) hP hK hD hS hA hX rfl rfl) rfl rfl hl.1 rfl (lv_room (Nat.le_of_ble_eq_true rfl)) dX11_readStatement_314 ⟨Nat.le_of_ble_eq_true rfl, Nat.le_of_ble_eq_true rfl⟩) hP hD hS hA (fun r_120 u H locs hw_121 hP hD hS => ?_)
                    obtain ⟨ws_122, mpt1_123⟩ := u
                    obtain ⟨hT, rfl, hp_124⟩ := hw_121
                    have hP : va_P D vwCl ([(rf_RW ct 0 mf 958 g), (rf_MO mo mw ma mf m0 m1 mu mv u0 u1 iz th mb mn mpt1_123 mbg1_4 mwr mwk mlf men), (rf_RW ct 0 mb 800 b)] ++ ws_122) H := hP
                    have hD : va_D A ([(rf_RW ct 0 mf 958 g), (rf_MO mo mw ma mf m0 m1 mu mv u0 u1 iz th mb mn mpt1_123 mbg1_4 mwr mwk mlf men), (rf_RW ct 0 mb 800 b)] ++ ws_122) := hD
                    have hs_125 : mbg1_4.toInt ≤ mpt1_123.toInt ∧ mpt1_123.toInt ≤ 800 := hp_124
                    refine lv_if_eq (tgt := 337) hx hb dX11_readStatement_317 (by decide) (fun hc => absurd hc (by decide)) (fun _ => ?_)
                    refine lv_aload_n hx hb dX11_readStatement_320 rfl (lv_at hl 0 rfl) ?_
                    refine lv_bipush (v := 16) hx hb dX11_readStatement_321 (by decide) ?_
                    refine lv_iconst (v := 0) hx hb dX11_readStatement_323 (by decide) ?_
                    refine lv_sipush (v := 200) hx hb dX11_readStatement_324 (by decide) ?_
                    have hP : va_P D vwCl ([(rf_MO mo mw ma mf m0 m1 mu mv u0 u1 iz th mb mn mpt1_123 mbg1_4 mwr mwk mlf men), (rf_RW ct 0 mb 800 b), (rf_RW ct 0 mf 958 g)] ++ ws_122) H := ty_permP hP (ty_ordp (E := [(rf_RW ct 0 mf 958 g), (rf_MO mo mw ma mf m0 m1 mu mv u0 u1 iz th mb mn mpt1_123 mbg1_4 mwr mwk mlf men), (rf_RW ct 0 mb 800 b)]) (E2 := [(rf_MO mo mw ma mf m0 m1 mu mv u0 u1 iz th mb mn mpt1_123 mbg1_4 mwr mwk mlf men), (rf_RW ct 0 mb 800 b), (rf_RW ct 0 mf 958 g)]) (n := 3) [1, 2, 0] rfl rfl (by decide))
                    have hD : va_D A ([(rf_MO mo mw ma mf m0 m1 mu mv u0 u1 iz th mb mn mpt1_123 mbg1_4 mwr mwk mlf men), (rf_RW ct 0 mb 800 b), (rf_RW ct 0 mf 958 g)] ++ ws_122) := ty_permD hD (ty_ordp (E := [(rf_RW ct 0 mf 958 g), (rf_MO mo mw ma mf m0 m1 mu mv u0 u1 iz th mb mn mpt1_123 mbg1_4 mwr mwk mlf men), (rf_RW ct 0 mb 800 b)]) (E2 := [(rf_MO mo mw ma mf m0 m1 mu mv u0 u1 iz th mb mn mpt1_123 mbg1_4 mwr mwk mlf men), (rf_RW ct 0 mb 800 b), (rf_RW ct 0 mf 958 g)]) (n := 3) [1, 2, 0] rfl rfl (by decide))
                    refine ty_ki (wr := []) (wc := ([(rf_MO mo mw ma mf m0 m1 mu mv u0 u1 iz th mb mn mpt1_123 mbg1_4 mwr mwk mlf men), (rf_RW ct 0 mb 800 b), (rf_RW ct 0 mf 958 g)] ++ ws_122)) (va_runV (As := [.int 16, .int 0, .int 200]) (rest := []) ⟨hx, hb, hml, hown, hts⟩ (m_X11_reads l D ct S ws_122 mo mw ma mf m0 m1 mu mv u0 u1 iz mb th mn mpt1_123 mbg1_4 mwr mwk mlf men b (16 : Int32) (0 : Int32) (200 : Int32) g _ hT hmn (by omega) (by omega) (by decide)) (cm_V 3 hts kc_X11_reads ki_RX11 kl_RX11_140 kv_X11_reads kx_X11_reads kd_X11_reads ⟨Nat.le_of_ble_eq_true rfl, Nat.le_of_ble_eq_true rfl⟩) (ty_preE (wr := []) (wc := ([(rf_MO mo mw ma mf m0 m1 mu mv u0 u1 iz th mb mn mpt1_123 mbg1_4 mwr mwk mlf men), (rf_RW ct 0 mb 800 b), (rf_RW ct 0 mf 958 g)] ++ ws_122)) (ci := 11) (q0 := 0) hP hK hD hS hA hX rfl rfl) rfl rfl hl.1 rfl (lv_room (Nat.le_of_ble_eq_true rfl)) dX11_readStatement_327 ⟨Nat.le_of_ble_eq_true rfl, Nat.le_of_ble_eq_true rfl⟩) hP hD hS hA (fun r_126 u H locs hw_127 hP hD hS => ?_)
                    obtain ⟨ws_128, mpt1_129, mbg1_130, mwr1_131, mwk1_132, g1_133⟩ := u
                    obtain ⟨hT, hp_134⟩ := hw_127
                    have hp_134 : ((mpt1_123.toInt ≤ mpt1_129.toInt ∧ mpt1_129.toInt ≤ 800) ∧ 0 ≤ mbg1_130.toInt ∧ mbg1_130.toInt ≤ 800) ∧ (r_126 = 0 ∨ (r_126 = 1 ∧ ∃ v : Int32, ((0 : Int32).toInt ≤ v.toInt ∧ v.toInt ≤ (200 : Int32).toInt) ∧ g1_133 = upd g (16 : Int32).toInt.toNat v)) := hp_134
                    have hP : va_P D vwCl ([(rf_MO mo mw ma mf m0 m1 mu mv u0 u1 iz th mb mn mpt1_129 mbg1_130 mwr1_131 mwk1_132 mlf men), (rf_RW ct 0 mb 800 b), (rf_RW ct 0 mf 958 g1_133)] ++ ws_128) H := hP
                    have hD : va_D A ([(rf_MO mo mw ma mf m0 m1 mu mv u0 u1 iz th mb mn mpt1_129 mbg1_130 mwr1_131 mwk1_132 mlf men), (rf_RW ct 0 mb 800 b), (rf_RW ct 0 mf 958 g1_133)] ++ ws_128) := hD
                    obtain ⟨hb_135, hb_137⟩ := hp_134
                    rcases hb_137 with rfl | ⟨rfl, hz_138⟩
                    · refine lv_if_eq (tgt := 337) hx hb dX11_readStatement_330 (by decide) (fun _ => ?_) (fun hc => absurd (by decide) hc)
                      refine lv_iconst (v := 0) hx hb dX11_readStatement_337 (by decide) ?_
                      exact W.zret (v := 0) hx hb hr (by decide) (fun t ht hW => ⟨⟨0, (ws_128, mpt1_129, mbg1_130, mwr1_131, mwk1_132, g1_133), rfl, ⟨hT, ⟨by omega, Or.inl rfl⟩⟩, by rw [ht]; exact hP, by rw [hAe]; exact hD⟩, hS.F ht⟩) hS.2.2 dX11_readStatement_338
                    · obtain ⟨v_139, hv_140, he_141⟩ := hz_138
                      have hz_142 : (16 : Int32).toInt = 16 := (by decide)
                      have hz_143 : (0 : Int32).toInt = 0 := (by decide)
                      have hz_144 : (200 : Int32).toInt = 200 := (by decide)
                      have hL_145 : rf_L g1_133 := by rw [he_141]; exact rf_Lset hL (by omega)
                      refine lv_if_eq (tgt := 337) hx hb dX11_readStatement_330 (by decide) (fun hc => absurd hc (by decide)) (fun _ => ?_)
                      refine lv_iconst (v := 1) hx hb dX11_readStatement_333 (by decide) ?_
                      refine lv_goto (tgt := 338) hx hb dX11_readStatement_334 (by decide) ?_
                      exact W.zret (v := 1) hx hb hr (by decide) (fun t ht hW => ⟨⟨1, (ws_128, mpt1_129, mbg1_130, mwr1_131, mwk1_132, g1_133), rfl, ⟨hT, ⟨by omega, Or.inr ⟨rfl, hL_145⟩⟩⟩, by rw [ht]; exact hP, by rw [hAe]; exact hD⟩, hS.F ht⟩) hS.2.2 dX11_readStatement_338
                · refine lv_aload_n hx hb dX11_readStatement_246 rfl (lv_at hl 0 rfl) ?_
                  refine ty_ki (wr := [(rf_RW ct 0 mf 958 g)]) (wc := ([(rf_MO mo mw ma mf m0 m1 mu mv u0 u1 iz th mb mn mpt1_5 mbg1_4 mwr mwk mlf men), (rf_RW ct 0 mb 800 b)] ++ ws_71)) (va_runV (As := []) (rest := []) ⟨hx, hb, hml, hown, hts⟩ (m_X11_passes l D ct S ws_71 mo mw ma mf m0 m1 mu mv u0 u1 iz mb th mn mpt1_5 mbg1_4 mwr mwk mlf men b _ hT hmn (by omega)) (cm_V 0 hts kc_X11_passes ki_RX11 kl_RX11_133 kv_X11_passes kx_X11_passes kd_X11_passes ⟨Nat.le_of_ble_eq_true rfl, Nat.le_of_ble_eq_true rfl⟩) (ty_preE (wr := [(rf_RW ct 0 mf 958 g)]) (wc := ([(rf_MO mo mw ma mf m0 m1 mu mv u0 u1 iz th mb mn mpt1_5 mbg1_4 mwr mwk mlf men), (rf_RW ct 0 mb 800 b)] ++ ws_71)) (ci := 11) (q0 := 1) hP hK hD hS hA hX rfl rfl) rfl rfl hl.1 rfl (lv_room (Nat.le_of_ble_eq_true rfl)) dX11_readStatement_247 ⟨Nat.le_of_ble_eq_true rfl, Nat.le_of_ble_eq_true rfl⟩) hP hD hS hA (fun r_146 u H locs hw_147 hP hD hS => ?_)
                  obtain ⟨ws_148, mpt1_149⟩ := u
                  obtain ⟨hT, rfl, hp_150⟩ := hw_147
                  have hP : va_P D vwCl ([(rf_RW ct 0 mf 958 g), (rf_MO mo mw ma mf m0 m1 mu mv u0 u1 iz th mb mn mpt1_149 mbg1_4 mwr mwk mlf men), (rf_RW ct 0 mb 800 b)] ++ ws_148) H := hP
                  have hD : va_D A ([(rf_RW ct 0 mf 958 g), (rf_MO mo mw ma mf m0 m1 mu mv u0 u1 iz th mb mn mpt1_149 mbg1_4 mwr mwk mlf men), (rf_RW ct 0 mb 800 b)] ++ ws_148) := hD
                  have hs_151 : mbg1_4.toInt ≤ mpt1_149.toInt ∧ mpt1_149.toInt ≤ 800 := hp_150
                  refine lv_if_eq (tgt := 302) hx hb dX11_readStatement_250 (by decide) (fun hc => absurd hc (by decide)) (fun _ => ?_)
                  refine lv_aload_n hx hb dX11_readStatement_253 rfl (lv_at hl 0 rfl) ?_
                  refine lv_bipush (v := 13) hx hb dX11_readStatement_254 (by decide) ?_
                  refine lv_iconst (v := 0) hx hb dX11_readStatement_256 (by decide) ?_
                  refine lv_sipush (v := 5000) hx hb dX11_readStatement_257 (by decide) ?_
                  have hP : va_P D vwCl ([(rf_MO mo mw ma mf m0 m1 mu mv u0 u1 iz th mb mn mpt1_149 mbg1_4 mwr mwk mlf men), (rf_RW ct 0 mb 800 b), (rf_RW ct 0 mf 958 g)] ++ ws_148) H := ty_permP hP (ty_ordp (E := [(rf_RW ct 0 mf 958 g), (rf_MO mo mw ma mf m0 m1 mu mv u0 u1 iz th mb mn mpt1_149 mbg1_4 mwr mwk mlf men), (rf_RW ct 0 mb 800 b)]) (E2 := [(rf_MO mo mw ma mf m0 m1 mu mv u0 u1 iz th mb mn mpt1_149 mbg1_4 mwr mwk mlf men), (rf_RW ct 0 mb 800 b), (rf_RW ct 0 mf 958 g)]) (n := 3) [1, 2, 0] rfl rfl (by decide))
                  have hD : va_D A ([(rf_MO mo mw ma mf m0 m1 mu mv u0 u1 iz th mb mn mpt1_149 mbg1_4 mwr mwk mlf men), (rf_RW ct 0 mb 800 b), (rf_RW ct 0 mf 958 g)] ++ ws_148) := ty_permD hD (ty_ordp (E := [(rf_RW ct 0 mf 958 g), (rf_MO mo mw ma mf m0 m1 mu mv u0 u1 iz th mb mn mpt1_149 mbg1_4 mwr mwk mlf men), (rf_RW ct 0 mb 800 b)]) (E2 := [(rf_MO mo mw ma mf m0 m1 mu mv u0 u1 iz th mb mn mpt1_149 mbg1_4 mwr mwk mlf men), (rf_RW ct 0 mb 800 b), (rf_RW ct 0 mf 958 g)]) (n := 3) [1, 2, 0] rfl rfl (by decide))
                  refine ty_ki (wr := []) (wc := ([(rf_MO mo mw ma mf m0 m1 mu mv u0 u1 iz th mb mn mpt1_149 mbg1_4 mwr mwk mlf men), (rf_RW ct 0 mb 800 b), (rf_RW ct 0 mf 958 g)] ++ ws_148)) (va_runV (As := [.int 13, .int 0, .int 5000]) (rest := []) ⟨hx, hb, hml, hown, hts⟩ (m_X11_reads l D ct S ws_148 mo mw ma mf m0 m1 mu mv u0 u1 iz mb th mn mpt1_149 mbg1_4 mwr mwk mlf men b (13 : Int32) (0 : Int32) (5000 : Int32) g _ hT hmn (by omega) (by omega) (by decide)) (cm_V 3 hts kc_X11_reads ki_RX11 kl_RX11_140 kv_X11_reads kx_X11_reads kd_X11_reads ⟨Nat.le_of_ble_eq_true rfl, Nat.le_of_ble_eq_true rfl⟩) (ty_preE (wr := []) (wc := ([(rf_MO mo mw ma mf m0 m1 mu mv u0 u1 iz th mb mn mpt1_149 mbg1_4 mwr mwk mlf men), (rf_RW ct 0 mb 800 b), (rf_RW ct 0 mf 958 g)] ++ ws_148)) (ci := 11) (q0 := 0) hP hK hD hS hA hX rfl rfl) rfl rfl hl.1 rfl (lv_room (Nat.le_of_ble_eq_true rfl)) dX11_readStatement_260 ⟨Nat.le_of_ble_eq_true rfl, Nat.le_of_ble_eq_true rfl⟩) hP hD hS hA (fun r_152 u H locs hw_153 hP hD hS => ?_)
                  obtain ⟨ws_154, mpt1_155, mbg1_156, mwr1_157, mwk1_158, g1_159⟩ := u
                  obtain ⟨hT, hp_160⟩ := hw_153
                  have hp_160 : ((mpt1_149.toInt ≤ mpt1_155.toInt ∧ mpt1_155.toInt ≤ 800) ∧ 0 ≤ mbg1_156.toInt ∧ mbg1_156.toInt ≤ 800) ∧ (r_152 = 0 ∨ (r_152 = 1 ∧ ∃ v : Int32, ((0 : Int32).toInt ≤ v.toInt ∧ v.toInt ≤ (5000 : Int32).toInt) ∧ g1_159 = upd g (13 : Int32).toInt.toNat v)) := hp_160
                  have hP : va_P D vwCl ([(rf_MO mo mw ma mf m0 m1 mu mv u0 u1 iz th mb mn mpt1_155 mbg1_156 mwr1_157 mwk1_158 mlf men), (rf_RW ct 0 mb 800 b), (rf_RW ct 0 mf 958 g1_159)] ++ ws_154) H := hP
                  have hD : va_D A ([(rf_MO mo mw ma mf m0 m1 mu mv u0 u1 iz th mb mn mpt1_155 mbg1_156 mwr1_157 mwk1_158 mlf men), (rf_RW ct 0 mb 800 b), (rf_RW ct 0 mf 958 g1_159)] ++ ws_154) := hD
                  obtain ⟨hb_161, hb_163⟩ := hp_160
                  rcases hb_163 with rfl | ⟨rfl, hz_164⟩
                  · refine lv_if_eq (tgt := 302) hx hb dX11_readStatement_263 (by decide) (fun _ => ?_) (fun hc => absurd (by decide) hc)
                    refine lv_iconst (v := 0) hx hb dX11_readStatement_302 (by decide) ?_
                    exact W.zret (v := 0) hx hb hr (by decide) (fun t ht hW => ⟨⟨0, (ws_154, mpt1_155, mbg1_156, mwr1_157, mwk1_158, g1_159), rfl, ⟨hT, ⟨by omega, Or.inl rfl⟩⟩, by rw [ht]; exact hP, by rw [hAe]; exact hD⟩, hS.F ht⟩) hS.2.2 dX11_readStatement_303
                  · obtain ⟨v_165, hv_166, he_167⟩ := hz_164
                    have hz_168 : (13 : Int32).toInt = 13 := (by decide)
                    have hz_169 : (0 : Int32).toInt = 0 := (by decide)
                    have hz_170 : (5000 : Int32).toInt = 5000 := (by decide)
                    have hL_171 : rf_L g1_159 := by rw [he_167]; exact rf_Lset hL (by omega)
                    refine lv_if_eq (tgt := 302) hx hb dX11_readStatement_263 (by decide) (fun hc => absurd hc (by decide)) (fun _ => ?_)
                    refine lv_aload_n hx hb dX11_readStatement_266 rfl (lv_at hl 0 rfl) ?_
                    refine lv_bipush (v := 14) hx hb dX11_readStatement_267 (by decide) ?_
                    refine lv_aload_n hx hb dX11_readStatement_269 rfl (lv_at hl 0 rfl) ?_
                    refine va_get (v := .ref mf) (D := D) (ci := 11) (C := RX11) (T := TX11) (N := 19) hx hb hts in_X11 hown hK hP 0 rfl rfl 2 (by decide) (hts _ kl_RX11_16) (fun _ h9 => h9) rfl dX11_readStatement_270 ?_
                    refine lv_bipush (v := 13) hx hb dX11_readStatement_273 (by decide) ?_
                    refine va_iald hx hb hK hP 2 0 rfl rfl (cm_vin (by decide)) dX11_readStatement_275 ?_
                    refine cm_cst (y := (g1_159 13)) (by first | rfl | decide +kernel) ?_
                    refine lv_sipush (v := 5000) hx hb dX11_readStatement_276 (by decide) ?_
                    refine ty_ki (wr := []) (wc := ([(rf_MO mo mw ma mf m0 m1 mu mv u0 u1 iz th mb mn mpt1_155 mbg1_156 mwr1_157 mwk1_158 mlf men), (rf_RW ct 0 mb 800 b), (rf_RW ct 0 mf 958 g1_159)] ++ ws_154)) (va_runV (As := [.int 14, .int (g1_159 13), .int 5000]) (rest := []) ⟨hx, hb, hml, hown, hts⟩ (m_X11_reads l D ct S ws_154 mo mw ma mf m0 m1 mu mv u0 u1 iz mb th mn mpt1_155 mbg1_156 mwr1_157 mwk1_158 mlf men b (14 : Int32) (g1_159 13) (5000 : Int32) g1_159 _ hT hmn (by omega) (by omega) (by decide)) (cm_V 3 hts kc_X11_reads ki_RX11 kl_RX11_140 kv_X11_reads kx_X11_reads kd_X11_reads ⟨Nat.le_of_ble_eq_true rfl, Nat.le_of_ble_eq_true rfl⟩) (ty_preE (wr := []) (wc := ([(rf_MO mo mw ma mf m0 m1 mu mv u0 u1 iz th mb mn mpt1_155 mbg1_156 mwr1_157 mwk1_158 mlf men), (rf_RW ct 0 mb 800 b), (rf_RW ct 0 mf 958 g1_159)] ++ ws_154)) (ci := 11) (q0 := 0) hP hK hD hS hA hX rfl rfl) rfl rfl hl.1 rfl (lv_room (Nat.le_of_ble_eq_true rfl)) dX11_readStatement_279 ⟨Nat.le_of_ble_eq_true rfl, Nat.le_of_ble_eq_true rfl⟩) hP hD hS hA (fun r_172 u H locs hw_173 hP hD hS => ?_)
                    obtain ⟨ws_174, mpt1_175, mbg1_176, mwr1_177, mwk1_178, g1_179⟩ := u
                    obtain ⟨hT, hp_180⟩ := hw_173
                    have hp_180 : ((mpt1_155.toInt ≤ mpt1_175.toInt ∧ mpt1_175.toInt ≤ 800) ∧ 0 ≤ mbg1_176.toInt ∧ mbg1_176.toInt ≤ 800) ∧ (r_172 = 0 ∨ (r_172 = 1 ∧ ∃ v : Int32, ((g1_159 13).toInt ≤ v.toInt ∧ v.toInt ≤ (5000 : Int32).toInt) ∧ g1_179 = upd g1_159 (14 : Int32).toInt.toNat v)) := hp_180
                    have hP : va_P D vwCl ([(rf_MO mo mw ma mf m0 m1 mu mv u0 u1 iz th mb mn mpt1_175 mbg1_176 mwr1_177 mwk1_178 mlf men), (rf_RW ct 0 mb 800 b), (rf_RW ct 0 mf 958 g1_179)] ++ ws_174) H := hP
                    have hD : va_D A ([(rf_MO mo mw ma mf m0 m1 mu mv u0 u1 iz th mb mn mpt1_175 mbg1_176 mwr1_177 mwk1_178 mlf men), (rf_RW ct 0 mb 800 b), (rf_RW ct 0 mf 958 g1_179)] ++ ws_174) := hD
                    obtain ⟨hb_181, hb_183⟩ := hp_180
                    rcases hb_183 with rfl | ⟨rfl, hz_184⟩
                    · refine lv_if_eq (tgt := 302) hx hb dX11_readStatement_282 (by decide) (fun _ => ?_) (fun hc => absurd (by decide) hc)
                      refine lv_iconst (v := 0) hx hb dX11_readStatement_302 (by decide) ?_
                      exact W.zret (v := 0) hx hb hr (by decide) (fun t ht hW => ⟨⟨0, (ws_174, mpt1_175, mbg1_176, mwr1_177, mwk1_178, g1_179), rfl, ⟨hT, ⟨by omega, Or.inl rfl⟩⟩, by rw [ht]; exact hP, by rw [hAe]; exact hD⟩, hS.F ht⟩) hS.2.2 dX11_readStatement_303
                    · obtain ⟨v_185, hv_186, he_187⟩ := hz_184
                      have hz_188 : (14 : Int32).toInt = 14 := (by decide)
                      have hz_189 : (5000 : Int32).toInt = 5000 := (by decide)
                      have hL_190 : rf_L g1_179 := by rw [he_187]; exact rf_Lset hL_171 (by omega)
                      refine lv_if_eq (tgt := 302) hx hb dX11_readStatement_282 (by decide) (fun hc => absurd hc (by decide)) (fun _ => ?_)
                      refine lv_aload_n hx hb dX11_readStatement_285 rfl (lv_at hl 0 rfl) ?_
                      refine lv_bipush (v := 15) hx hb dX11_readStatement_286 (by decide) ?_
                      refine lv_iconst (v := 0) hx hb dX11_readStatement_288 (by decide) ?_
                      refine lv_sipush (v := 1000) hx hb dX11_readStatement_289 (by decide) ?_
                      refine ty_ki (wr := []) (wc := ([(rf_MO mo mw ma mf m0 m1 mu mv u0 u1 iz th mb mn mpt1_175 mbg1_176 mwr1_177 mwk1_178 mlf men), (rf_RW ct 0 mb 800 b), (rf_RW ct 0 mf 958 g1_179)] ++ ws_174)) (va_runV (As := [.int 15, .int 0, .int 1000]) (rest := []) ⟨hx, hb, hml, hown, hts⟩ (m_X11_reads l D ct S ws_174 mo mw ma mf m0 m1 mu mv u0 u1 iz mb th mn mpt1_175 mbg1_176 mwr1_177 mwk1_178 mlf men b (15 : Int32) (0 : Int32) (1000 : Int32) g1_179 _ hT hmn (by omega) (by omega) (by decide)) (cm_V 3 hts kc_X11_reads ki_RX11 kl_RX11_140 kv_X11_reads kx_X11_reads kd_X11_reads ⟨Nat.le_of_ble_eq_true rfl, Nat.le_of_ble_eq_true rfl⟩) (ty_preE (wr := []) (wc := ([(rf_MO mo mw ma mf m0 m1 mu mv u0 u1 iz th mb mn mpt1_175 mbg1_176 mwr1_177 mwk1_178 mlf men), (rf_RW ct 0 mb 800 b), (rf_RW ct 0 mf 958 g1_179)] ++ ws_174)) (ci := 11) (q0 := 0) hP hK hD hS hA hX rfl rfl) rfl rfl hl.1 rfl (lv_room (Nat.le_of_ble_eq_true rfl)) dX11_readStatement_292 ⟨Nat.le_of_ble_eq_true rfl, Nat.le_of_ble_eq_true rfl⟩) hP hD hS hA (fun r_191 u H locs hw_192 hP hD hS => ?_)
                      obtain ⟨ws_193, mpt1_194, mbg1_195, mwr1_196, mwk1_197, g1_198⟩ := u
                      obtain ⟨hT, hp_199⟩ := hw_192
                      have hp_199 : ((mpt1_175.toInt ≤ mpt1_194.toInt ∧ mpt1_194.toInt ≤ 800) ∧ 0 ≤ mbg1_195.toInt ∧ mbg1_195.toInt ≤ 800) ∧ (r_191 = 0 ∨ (r_191 = 1 ∧ ∃ v : Int32, ((0 : Int32).toInt ≤ v.toInt ∧ v.toInt ≤ (1000 : Int32).toInt) ∧ g1_198 = upd g1_179 (15 : Int32).toInt.toNat v)) := hp_199
                      have hP : va_P D vwCl ([(rf_MO mo mw ma mf m0 m1 mu mv u0 u1 iz th mb mn mpt1_194 mbg1_195 mwr1_196 mwk1_197 mlf men), (rf_RW ct 0 mb 800 b), (rf_RW ct 0 mf 958 g1_198)] ++ ws_193) H := hP
                      have hD : va_D A ([(rf_MO mo mw ma mf m0 m1 mu mv u0 u1 iz th mb mn mpt1_194 mbg1_195 mwr1_196 mwk1_197 mlf men), (rf_RW ct 0 mb 800 b), (rf_RW ct 0 mf 958 g1_198)] ++ ws_193) := hD
                      obtain ⟨hb_200, hb_202⟩ := hp_199
                      rcases hb_202 with rfl | ⟨rfl, hz_203⟩
                      · refine lv_if_eq (tgt := 302) hx hb dX11_readStatement_295 (by decide) (fun _ => ?_) (fun hc => absurd (by decide) hc)
                        refine lv_iconst (v := 0) hx hb dX11_readStatement_302 (by decide) ?_
                        exact W.zret (v := 0) hx hb hr (by decide) (fun t ht hW => ⟨⟨0, (ws_193, mpt1_194, mbg1_195, mwr1_196, mwk1_197, g1_198), rfl, ⟨hT, ⟨by omega, Or.inl rfl⟩⟩, by rw [ht]; exact hP, by rw [hAe]; exact hD⟩, hS.F ht⟩) hS.2.2 dX11_readStatement_303
                      · obtain ⟨v_204, hv_205, he_206⟩ := hz_203
                        have hz_207 : (15 : Int32).toInt = 15 := (by decide)
                        have hz_208 : (0 : Int32).toInt = 0 := (by decide)
                        have hz_209 : (1000 : Int32).toInt = 1000 := (by decide)
                        have hL_210 : rf_L g1_198 := by rw [he_206]; exact rf_Lset hL_190 (by omega)
                        refine lv_if_eq (tgt := 302) hx hb dX11_readStatement_295 (by decide) (fun hc => absurd hc (by decide)) (fun _ => ?_)
                        refine lv_iconst (v := 1) hx hb dX11_readStatement_298 (by decide) ?_
                        refine lv_goto (tgt := 303) hx hb dX11_readStatement_299 (by decide) ?_
                        exact W.zret (v := 1) hx hb hr (by decide) (fun t ht hW => ⟨⟨1, (ws_193, mpt1_194, mbg1_195, mwr1_196, mwk1_197, g1_198), rfl, ⟨hT, ⟨by omega, Or.inr ⟨rfl, hL_210⟩⟩⟩, by rw [ht]; exact hP, by rw [hAe]; exact hD⟩, hS.F ht⟩) hS.2.2 dX11_readStatement_303
              · refine lv_aload_n hx hb dX11_readStatement_180 rfl (lv_at hl 0 rfl) ?_
                refine ty_ki (wr := [(rf_RW ct 0 mf 958 g)]) (wc := ([(rf_MO mo mw ma mf m0 m1 mu mv u0 u1 iz th mb mn mpt1_5 mbg1_4 mwr mwk mlf men), (rf_RW ct 0 mb 800 b)] ++ ws_63)) (va_runV (As := []) (rest := []) ⟨hx, hb, hml, hown, hts⟩ (m_X11_passes l D ct S ws_63 mo mw ma mf m0 m1 mu mv u0 u1 iz mb th mn mpt1_5 mbg1_4 mwr mwk mlf men b _ hT hmn (by omega)) (cm_V 0 hts kc_X11_passes ki_RX11 kl_RX11_133 kv_X11_passes kx_X11_passes kd_X11_passes ⟨Nat.le_of_ble_eq_true rfl, Nat.le_of_ble_eq_true rfl⟩) (ty_preE (wr := [(rf_RW ct 0 mf 958 g)]) (wc := ([(rf_MO mo mw ma mf m0 m1 mu mv u0 u1 iz th mb mn mpt1_5 mbg1_4 mwr mwk mlf men), (rf_RW ct 0 mb 800 b)] ++ ws_63)) (ci := 11) (q0 := 1) hP hK hD hS hA hX rfl rfl) rfl rfl hl.1 rfl (lv_room (Nat.le_of_ble_eq_true rfl)) dX11_readStatement_181 ⟨Nat.le_of_ble_eq_true rfl, Nat.le_of_ble_eq_true rfl⟩) hP hD hS hA (fun r_211 u H locs hw_212 hP hD hS => ?_)
                obtain ⟨ws_213, mpt1_214⟩ := u
                obtain ⟨hT, rfl, hp_215⟩ := hw_212
                have hP : va_P D vwCl ([(rf_RW ct 0 mf 958 g), (rf_MO mo mw ma mf m0 m1 mu mv u0 u1 iz th mb mn mpt1_214 mbg1_4 mwr mwk mlf men), (rf_RW ct 0 mb 800 b)] ++ ws_213) H := hP
                have hD : va_D A ([(rf_RW ct 0 mf 958 g), (rf_MO mo mw ma mf m0 m1 mu mv u0 u1 iz th mb mn mpt1_214 mbg1_4 mwr mwk mlf men), (rf_RW ct 0 mb 800 b)] ++ ws_213) := hD
                have hs_216 : mbg1_4.toInt ≤ mpt1_214.toInt ∧ mpt1_214.toInt ≤ 800 := hp_215
                refine lv_if_eq (tgt := 235) hx hb dX11_readStatement_184 (by decide) (fun hc => absurd hc (by decide)) (fun _ => ?_)
                refine lv_aload_n hx hb dX11_readStatement_187 rfl (lv_at hl 0 rfl) ?_
                refine lv_iconst (v := 4) hx hb dX11_readStatement_188 (by decide) ?_
                refine lv_iconst (v := 0) hx hb dX11_readStatement_189 (by decide) ?_
                refine lv_sipush (v := 5000) hx hb dX11_readStatement_190 (by decide) ?_
                have hP : va_P D vwCl ([(rf_MO mo mw ma mf m0 m1 mu mv u0 u1 iz th mb mn mpt1_214 mbg1_4 mwr mwk mlf men), (rf_RW ct 0 mb 800 b), (rf_RW ct 0 mf 958 g)] ++ ws_213) H := ty_permP hP (ty_ordp (E := [(rf_RW ct 0 mf 958 g), (rf_MO mo mw ma mf m0 m1 mu mv u0 u1 iz th mb mn mpt1_214 mbg1_4 mwr mwk mlf men), (rf_RW ct 0 mb 800 b)]) (E2 := [(rf_MO mo mw ma mf m0 m1 mu mv u0 u1 iz th mb mn mpt1_214 mbg1_4 mwr mwk mlf men), (rf_RW ct 0 mb 800 b), (rf_RW ct 0 mf 958 g)]) (n := 3) [1, 2, 0] rfl rfl (by decide))
                have hD : va_D A ([(rf_MO mo mw ma mf m0 m1 mu mv u0 u1 iz th mb mn mpt1_214 mbg1_4 mwr mwk mlf men), (rf_RW ct 0 mb 800 b), (rf_RW ct 0 mf 958 g)] ++ ws_213) := ty_permD hD (ty_ordp (E := [(rf_RW ct 0 mf 958 g), (rf_MO mo mw ma mf m0 m1 mu mv u0 u1 iz th mb mn mpt1_214 mbg1_4 mwr mwk mlf men), (rf_RW ct 0 mb 800 b)]) (E2 := [(rf_MO mo mw ma mf m0 m1 mu mv u0 u1 iz th mb mn mpt1_214 mbg1_4 mwr mwk mlf men), (rf_RW ct 0 mb 800 b), (rf_RW ct 0 mf 958 g)]) (n := 3) [1, 2, 0] rfl rfl (by decide))
                refine ty_ki (wr := []) (wc := ([(rf_MO mo mw ma mf m0 m1 mu mv u0 u1 iz th mb mn mpt1_214 mbg1_4 mwr mwk mlf men), (rf_RW ct 0 mb 800 b), (rf_RW ct 0 mf 958 g)] ++ ws_213)) (va_runV (As := [.int 4, .int 0, .int 5000]) (rest := []) ⟨hx, hb, hml, hown, hts⟩ (m_X11_reads l D ct S ws_213 mo mw ma mf m0 m1 mu mv u0 u1 iz mb th mn mpt1_214 mbg1_4 mwr mwk mlf men b (4 : Int32) (0 : Int32) (5000 : Int32) g _ hT hmn (by omega) (by omega) (by decide)) (cm_V 3 hts kc_X11_reads ki_RX11 kl_RX11_140 kv_X11_reads kx_X11_reads kd_X11_reads ⟨Nat.le_of_ble_eq_true rfl, Nat.le_of_ble_eq_true rfl⟩) (ty_preE (wr := []) (wc := ([(rf_MO mo mw ma mf m0 m1 mu mv u0 u1 iz th mb mn mpt1_214 mbg1_4 mwr mwk mlf men), (rf_RW ct 0 mb 800 b), (rf_RW ct 0 mf 958 g)] ++ ws_213)) (ci := 11) (q0 := 0) hP hK hD hS hA hX rfl rfl) rfl rfl hl.1 rfl (lv_room (Nat.le_of_ble_eq_true rfl)) dX11_readStatement_193 ⟨Nat.le_of_ble_eq_true rfl, Nat.le_of_ble_eq_true rfl⟩) hP hD hS hA (fun r_217 u H locs hw_218 hP hD hS => ?_)
                obtain ⟨ws_219, mpt1_220, mbg1_221, mwr1_222, mwk1_223, g1_224⟩ := u
                obtain ⟨hT, hp_225⟩ := hw_218
                have hp_225 : ((mpt1_214.toInt ≤ mpt1_220.toInt ∧ mpt1_220.toInt ≤ 800) ∧ 0 ≤ mbg1_221.toInt ∧ mbg1_221.toInt ≤ 800) ∧ (r_217 = 0 ∨ (r_217 = 1 ∧ ∃ v : Int32, ((0 : Int32).toInt ≤ v.toInt ∧ v.toInt ≤ (5000 : Int32).toInt) ∧ g1_224 = upd g (4 : Int32).toInt.toNat v)) := hp_225
                have hP : va_P D vwCl ([(rf_MO mo mw ma mf m0 m1 mu mv u0 u1 iz th mb mn mpt1_220 mbg1_221 mwr1_222 mwk1_223 mlf men), (rf_RW ct 0 mb 800 b), (rf_RW ct 0 mf 958 g1_224)] ++ ws_219) H := hP
                have hD : va_D A ([(rf_MO mo mw ma mf m0 m1 mu mv u0 u1 iz th mb mn mpt1_220 mbg1_221 mwr1_222 mwk1_223 mlf men), (rf_RW ct 0 mb 800 b), (rf_RW ct 0 mf 958 g1_224)] ++ ws_219) := hD
                obtain ⟨hb_226, hb_228⟩ := hp_225
                rcases hb_228 with rfl | ⟨rfl, hz_229⟩
                · refine lv_if_eq (tgt := 235) hx hb dX11_readStatement_196 (by decide) (fun _ => ?_) (fun hc => absurd (by decide) hc)
                  refine lv_iconst (v := 0) hx hb dX11_readStatement_235 (by decide) ?_
                  exact W.zret (v := 0) hx hb hr (by decide) (fun t ht hW => ⟨⟨0, (ws_219, mpt1_220, mbg1_221, mwr1_222, mwk1_223, g1_224), rfl, ⟨hT, ⟨by omega, Or.inl rfl⟩⟩, by rw [ht]; exact hP, by rw [hAe]; exact hD⟩, hS.F ht⟩) hS.2.2 dX11_readStatement_236
                · obtain ⟨v_230, hv_231, he_232⟩ := hz_229
                  have hz_233 : (4 : Int32).toInt = 4 := (by decide)
                  have hz_234 : (0 : Int32).toInt = 0 := (by decide)
                  have hz_235 : (5000 : Int32).toInt = 5000 := (by decide)
                  have hL_236 : rf_L g1_224 := by rw [he_232]; exact rf_Lset hL (by omega)
                  refine lv_if_eq (tgt := 235) hx hb dX11_readStatement_196 (by decide) (fun hc => absurd hc (by decide)) (fun _ => ?_)
                  refine lv_aload_n hx hb dX11_readStatement_199 rfl (lv_at hl 0 rfl) ?_
                  refine lv_iconst (v := 5) hx hb dX11_readStatement_200 (by decide) ?_
                  refine lv_aload_n hx hb dX11_readStatement_201 rfl (lv_at hl 0 rfl) ?_
                  refine va_get (v := .ref mf) (D := D) (ci := 11) (C := RX11) (T := TX11) (N := 19) hx hb hts in_X11 hown hK hP 0 rfl rfl 2 (by decide) (hts _ kl_RX11_16) (fun _ h9 => h9) rfl dX11_readStatement_202 ?_
                  refine lv_iconst (v := 4) hx hb dX11_readStatement_205 (by decide) ?_
                  refine va_iald hx hb hK hP 2 0 rfl rfl (cm_vin (by decide)) dX11_readStatement_206 ?_
                  refine cm_cst (y := (g1_224 4)) (by first | rfl | decide +kernel) ?_
                  refine lv_sipush (v := 5000) hx hb dX11_readStatement_207 (by decide) ?_
                  refine ty_ki (wr := []) (wc := ([(rf_MO mo mw ma mf m0 m1 mu mv u0 u1 iz th mb mn mpt1_220 mbg1_221 mwr1_222 mwk1_223 mlf men), (rf_RW ct 0 mb 800 b), (rf_RW ct 0 mf 958 g1_224)] ++ ws_219)) (va_runV (As := [.int 5, .int (g1_224 4), .int 5000]) (rest := []) ⟨hx, hb, hml, hown, hts⟩ (m_X11_reads l D ct S ws_219 mo mw ma mf m0 m1 mu mv u0 u1 iz mb th mn mpt1_220 mbg1_221 mwr1_222 mwk1_223 mlf men b (5 : Int32) (g1_224 4) (5000 : Int32) g1_224 _ hT hmn (by omega) (by omega) (by decide)) (cm_V 3 hts kc_X11_reads ki_RX11 kl_RX11_140 kv_X11_reads kx_X11_reads kd_X11_reads ⟨Nat.le_of_ble_eq_true rfl, Nat.le_of_ble_eq_true rfl⟩) (ty_preE (wr := []) (wc := ([(rf_MO mo mw ma mf m0 m1 mu mv u0 u1 iz th mb mn mpt1_220 mbg1_221 mwr1_222 mwk1_223 mlf men), (rf_RW ct 0 mb 800 b), (rf_RW ct 0 mf 958 g1_224)] ++ ws_219)) (ci := 11) (q0 := 0) hP hK hD hS hA hX rfl rfl) rfl rfl hl.1 rfl (lv_room (Nat.le_of_ble_eq_true rfl)) dX11_readStatement_210 ⟨Nat.le_of_ble_eq_true rfl, Nat.le_of_ble_eq_true rfl⟩) hP hD hS hA (fun r_237 u H locs hw_238 hP hD hS => ?_)
                  obtain ⟨ws_239, mpt1_240, mbg1_241, mwr1_242, mwk1_243, g1_244⟩ := u
                  obtain ⟨hT, hp_245⟩ := hw_238
                  have hp_245 : ((mpt1_220.toInt ≤ mpt1_240.toInt ∧ mpt1_240.toInt ≤ 800) ∧ 0 ≤ mbg1_241.toInt ∧ mbg1_241.toInt ≤ 800) ∧ (r_237 = 0 ∨ (r_237 = 1 ∧ ∃ v : Int32, ((g1_224 4).toInt ≤ v.toInt ∧ v.toInt ≤ (5000 : Int32).toInt) ∧ g1_244 = upd g1_224 (5 : Int32).toInt.toNat v)) := hp_245
                  have hP : va_P D vwCl ([(rf_MO mo mw ma mf m0 m1 mu mv u0 u1 iz th mb mn mpt1_240 mbg1_241 mwr1_242 mwk1_243 mlf men), (rf_RW ct 0 mb 800 b), (rf_RW ct 0 mf 958 g1_244)] ++ ws_239) H := hP
                  have hD : va_D A ([(rf_MO mo mw ma mf m0 m1 mu mv u0 u1 iz th mb mn mpt1_240 mbg1_241 mwr1_242 mwk1_243 mlf men), (rf_RW ct 0 mb 800 b), (rf_RW ct 0 mf 958 g1_244)] ++ ws_239) := hD
                  obtain ⟨hb_246, hb_248⟩ := hp_245
                  rcases hb_248 with rfl | ⟨rfl, hz_249⟩
                  · refine lv_if_eq (tgt := 235) hx hb dX11_readStatement_213 (by decide) (fun _ => ?_) (fun hc => absurd (by decide) hc)
                    refine lv_iconst (v := 0) hx hb dX11_readStatement_235 (by decide) ?_
                    exact W.zret (v := 0) hx hb hr (by decide) (fun t ht hW => ⟨⟨0, (ws_239, mpt1_240, mbg1_241, mwr1_242, mwk1_243, g1_244), rfl, ⟨hT, ⟨by omega, Or.inl rfl⟩⟩, by rw [ht]; exact hP, by rw [hAe]; exact hD⟩, hS.F ht⟩) hS.2.2 dX11_readStatement_236
                  · obtain ⟨v_250, hv_251, he_252⟩ := hz_249
                    have hz_253 : (5 : Int32).toInt = 5 := (by decide)
                    have hz_254 : (5000 : Int32).toInt = 5000 := (by decide)
                    have hL_255 : rf_L g1_244 := by rw [he_252]; exact rf_Lset hL_236 (by omega)
                    refine lv_if_eq (tgt := 235) hx hb dX11_readStatement_213 (by decide) (fun hc => absurd hc (by decide)) (fun _ => ?_)
                    refine lv_aload_n hx hb dX11_readStatement_216 rfl (lv_at hl 0 rfl) ?_
                    refine lv_bipush (v := 6) hx hb dX11_readStatement_217 (by decide) ?_
                    refine lv_sipush (v := 250) hx hb dX11_readStatement_219 (by decide) ?_
                    refine lv_sipush (v := 1000) hx hb dX11_readStatement_222 (by decide) ?_
                    refine ty_ki (wr := []) (wc := ([(rf_MO mo mw ma mf m0 m1 mu mv u0 u1 iz th mb mn mpt1_240 mbg1_241 mwr1_242 mwk1_243 mlf men), (rf_RW ct 0 mb 800 b), (rf_RW ct 0 mf 958 g1_244)] ++ ws_239)) (va_runV (As := [.int 6, .int 250, .int 1000]) (rest := []) ⟨hx, hb, hml, hown, hts⟩ (m_X11_reads l D ct S ws_239 mo mw ma mf m0 m1 mu mv u0 u1 iz mb th mn mpt1_240 mbg1_241 mwr1_242 mwk1_243 mlf men b (6 : Int32) (250 : Int32) (1000 : Int32) g1_244 _ hT hmn (by omega) (by omega) (by decide)) (cm_V 3 hts kc_X11_reads ki_RX11 kl_RX11_140 kv_X11_reads kx_X11_reads kd_X11_reads ⟨Nat.le_of_ble_eq_true rfl, Nat.le_of_ble_eq_true rfl⟩) (ty_preE (wr := []) (wc := ([(rf_MO mo mw ma mf m0 m1 mu mv u0 u1 iz th mb mn mpt1_240 mbg1_241 mwr1_242 mwk1_243 mlf men), (rf_RW ct 0 mb 800 b), (rf_RW ct 0 mf 958 g1_244)] ++ ws_239)) (ci := 11) (q0 := 0) hP hK hD hS hA hX rfl rfl) rfl rfl hl.1 rfl (lv_room (Nat.le_of_ble_eq_true rfl)) dX11_readStatement_225 ⟨Nat.le_of_ble_eq_true rfl, Nat.le_of_ble_eq_true rfl⟩) hP hD hS hA (fun r_256 u H locs hw_257 hP hD hS => ?_)
                    obtain ⟨ws_258, mpt1_259, mbg1_260, mwr1_261, mwk1_262, g1_263⟩ := u
                    obtain ⟨hT, hp_264⟩ := hw_257
                    have hp_264 : ((mpt1_240.toInt ≤ mpt1_259.toInt ∧ mpt1_259.toInt ≤ 800) ∧ 0 ≤ mbg1_260.toInt ∧ mbg1_260.toInt ≤ 800) ∧ (r_256 = 0 ∨ (r_256 = 1 ∧ ∃ v : Int32, ((250 : Int32).toInt ≤ v.toInt ∧ v.toInt ≤ (1000 : Int32).toInt) ∧ g1_263 = upd g1_244 (6 : Int32).toInt.toNat v)) := hp_264
                    have hP : va_P D vwCl ([(rf_MO mo mw ma mf m0 m1 mu mv u0 u1 iz th mb mn mpt1_259 mbg1_260 mwr1_261 mwk1_262 mlf men), (rf_RW ct 0 mb 800 b), (rf_RW ct 0 mf 958 g1_263)] ++ ws_258) H := hP
                    have hD : va_D A ([(rf_MO mo mw ma mf m0 m1 mu mv u0 u1 iz th mb mn mpt1_259 mbg1_260 mwr1_261 mwk1_262 mlf men), (rf_RW ct 0 mb 800 b), (rf_RW ct 0 mf 958 g1_263)] ++ ws_258) := hD
                    obtain ⟨hb_265, hb_267⟩ := hp_264
                    rcases hb_267 with rfl | ⟨rfl, hz_268⟩
                    · refine lv_if_eq (tgt := 235) hx hb dX11_readStatement_228 (by decide) (fun _ => ?_) (fun hc => absurd (by decide) hc)
                      refine lv_iconst (v := 0) hx hb dX11_readStatement_235 (by decide) ?_
                      exact W.zret (v := 0) hx hb hr (by decide) (fun t ht hW => ⟨⟨0, (ws_258, mpt1_259, mbg1_260, mwr1_261, mwk1_262, g1_263), rfl, ⟨hT, ⟨by omega, Or.inl rfl⟩⟩, by rw [ht]; exact hP, by rw [hAe]; exact hD⟩, hS.F ht⟩) hS.2.2 dX11_readStatement_236
                    · obtain ⟨v_269, hv_270, he_271⟩ := hz_268
                      have hz_272 : (6 : Int32).toInt = 6 := (by decide)
                      have hz_273 : (250 : Int32).toInt = 250 := (by decide)
                      have hz_274 : (1000 : Int32).toInt = 1000 := (by decide)
                      have hL_275 : rf_L g1_263 := by rw [he_271]; exact rf_Lset hL_255 (by omega)
                      refine lv_if_eq (tgt := 235) hx hb dX11_readStatement_228 (by decide) (fun hc => absurd hc (by decide)) (fun _ => ?_)
                      refine lv_iconst (v := 1) hx hb dX11_readStatement_231 (by decide) ?_
                      refine lv_goto (tgt := 236) hx hb dX11_readStatement_232 (by decide) ?_
                      exact W.zret (v := 1) hx hb hr (by decide) (fun t ht hW => ⟨⟨1, (ws_258, mpt1_259, mbg1_260, mwr1_261, mwk1_262, g1_263), rfl, ⟨hT, ⟨by omega, Or.inr ⟨rfl, hL_275⟩⟩⟩, by rw [ht]; exact hP, by rw [hAe]; exact hD⟩, hS.F ht⟩) hS.2.2 dX11_readStatement_236
            · refine lv_aload_n hx hb dX11_readStatement_126 rfl (lv_at hl 0 rfl) ?_
              refine ty_ki (wr := [(rf_RW ct 0 mf 958 g)]) (wc := ([(rf_MO mo mw ma mf m0 m1 mu mv u0 u1 iz th mb mn mpt1_5 mbg1_4 mwr mwk mlf men), (rf_RW ct 0 mb 800 b)] ++ ws_55)) (va_runV (As := []) (rest := []) ⟨hx, hb, hml, hown, hts⟩ (m_X11_passes l D ct S ws_55 mo mw ma mf m0 m1 mu mv u0 u1 iz mb th mn mpt1_5 mbg1_4 mwr mwk mlf men b _ hT hmn (by omega)) (cm_V 0 hts kc_X11_passes ki_RX11 kl_RX11_133 kv_X11_passes kx_X11_passes kd_X11_passes ⟨Nat.le_of_ble_eq_true rfl, Nat.le_of_ble_eq_true rfl⟩) (ty_preE (wr := [(rf_RW ct 0 mf 958 g)]) (wc := ([(rf_MO mo mw ma mf m0 m1 mu mv u0 u1 iz th mb mn mpt1_5 mbg1_4 mwr mwk mlf men), (rf_RW ct 0 mb 800 b)] ++ ws_55)) (ci := 11) (q0 := 1) hP hK hD hS hA hX rfl rfl) rfl rfl hl.1 rfl (lv_room (Nat.le_of_ble_eq_true rfl)) dX11_readStatement_127 ⟨Nat.le_of_ble_eq_true rfl, Nat.le_of_ble_eq_true rfl⟩) hP hD hS hA (fun r_276 u H locs hw_277 hP hD hS => ?_)
              obtain ⟨ws_278, mpt1_279⟩ := u
              obtain ⟨hT, rfl, hp_280⟩ := hw_277
              have hP : va_P D vwCl ([(rf_RW ct 0 mf 958 g), (rf_MO mo mw ma mf m0 m1 mu mv u0 u1 iz th mb mn mpt1_279 mbg1_4 mwr mwk mlf men), (rf_RW ct 0 mb 800 b)] ++ ws_278) H := hP
              have hD : va_D A ([(rf_RW ct 0 mf 958 g), (rf_MO mo mw ma mf m0 m1 mu mv u0 u1 iz th mb mn mpt1_279 mbg1_4 mwr mwk mlf men), (rf_RW ct 0 mb 800 b)] ++ ws_278) := hD
              have hs_281 : mbg1_4.toInt ≤ mpt1_279.toInt ∧ mpt1_279.toInt ≤ 800 := hp_280
              refine lv_if_eq (tgt := 169) hx hb dX11_readStatement_130 (by decide) (fun hc => absurd hc (by decide)) (fun _ => ?_)
              refine lv_aload_n hx hb dX11_readStatement_133 rfl (lv_at hl 0 rfl) ?_
              refine lv_iconst (v := 2) hx hb dX11_readStatement_134 (by decide) ?_
              refine lv_iconst (v := 1) hx hb dX11_readStatement_135 (by decide) ?_
              refine lv_sipush (v := 10000) hx hb dX11_readStatement_136 (by decide) ?_
              have hP : va_P D vwCl ([(rf_MO mo mw ma mf m0 m1 mu mv u0 u1 iz th mb mn mpt1_279 mbg1_4 mwr mwk mlf men), (rf_RW ct 0 mb 800 b), (rf_RW ct 0 mf 958 g)] ++ ws_278) H := ty_permP hP (ty_ordp (E := [(rf_RW ct 0 mf 958 g), (rf_MO mo mw ma mf m0 m1 mu mv u0 u1 iz th mb mn mpt1_279 mbg1_4 mwr mwk mlf men), (rf_RW ct 0 mb 800 b)]) (E2 := [(rf_MO mo mw ma mf m0 m1 mu mv u0 u1 iz th mb mn mpt1_279 mbg1_4 mwr mwk mlf men), (rf_RW ct 0 mb 800 b), (rf_RW ct 0 mf 958 g)]) (n := 3) [1, 2, 0] rfl rfl (by decide))
              have hD : va_D A ([(rf_MO mo mw ma mf m0 m1 mu mv u0 u1 iz th mb mn mpt1_279 mbg1_4 mwr mwk mlf men), (rf_RW ct 0 mb 800 b), (rf_RW ct 0 mf 958 g)] ++ ws_278) := ty_permD hD (ty_ordp (E := [(rf_RW ct 0 mf 958 g), (rf_MO mo mw ma mf m0 m1 mu mv u0 u1 iz th mb mn mpt1_279 mbg1_4 mwr mwk mlf men), (rf_RW ct 0 mb 800 b)]) (E2 := [(rf_MO mo mw ma mf m0 m1 mu mv u0 u1 iz th mb mn mpt1_279 mbg1_4 mwr mwk mlf men), (rf_RW ct 0 mb 800 b), (rf_RW ct 0 mf 958 g)]) (n := 3) [1, 2, 0] rfl rfl (by decide))
              refine ty_ki (wr := []) (wc := ([(rf_MO mo mw ma mf m0 m1 mu mv u0 u1 iz th mb mn mpt1_279 mbg1_4 mwr mwk mlf men), (rf_RW ct 0 mb 800 b), (rf_RW ct 0 mf 958 g)] ++ ws_278)) (va_runV (As := [.int 2, .int 1, .int 10000]) (rest := []) ⟨hx, hb, hml, hown, hts⟩ (m_X11_reads l D ct S ws_278 mo mw ma mf m0 m1 mu mv u0 u1 iz mb th mn mpt1_279 mbg1_4 mwr mwk mlf men b (2 : Int32) (1 : Int32) (10000 : Int32) g _ hT hmn (by omega) (by omega) (by decide)) (cm_V 3 hts kc_X11_reads ki_RX11 kl_RX11_140 kv_X11_reads kx_X11_reads kd_X11_reads ⟨Nat.le_of_ble_eq_true rfl, Nat.le_of_ble_eq_true rfl⟩) (ty_preE (wr := []) (wc := ([(rf_MO mo mw ma mf m0 m1 mu mv u0 u1 iz th mb mn mpt1_279 mbg1_4 mwr mwk mlf men), (rf_RW ct 0 mb 800 b), (rf_RW ct 0 mf 958 g)] ++ ws_278)) (ci := 11) (q0 := 0) hP hK hD hS hA hX rfl rfl) rfl rfl hl.1 rfl (lv_room (Nat.le_of_ble_eq_true rfl)) dX11_readStatement_139 ⟨Nat.le_of_ble_eq_true rfl, Nat.le_of_ble_eq_true rfl⟩) hP hD hS hA (fun r_282 u H locs hw_283 hP hD hS => ?_)
              obtain ⟨ws_284, mpt1_285, mbg1_286, mwr1_287, mwk1_288, g1_289⟩ := u
              obtain ⟨hT, hp_290⟩ := hw_283
              have hp_290 : ((mpt1_279.toInt ≤ mpt1_285.toInt ∧ mpt1_285.toInt ≤ 800) ∧ 0 ≤ mbg1_286.toInt ∧ mbg1_286.toInt ≤ 800) ∧ (r_282 = 0 ∨ (r_282 = 1 ∧ ∃ v : Int32, ((1 : Int32).toInt ≤ v.toInt ∧ v.toInt ≤ (10000 : Int32).toInt) ∧ g1_289 = upd g (2 : Int32).toInt.toNat v)) := hp_290
              have hP : va_P D vwCl ([(rf_MO mo mw ma mf m0 m1 mu mv u0 u1 iz th mb mn mpt1_285 mbg1_286 mwr1_287 mwk1_288 mlf men), (rf_RW ct 0 mb 800 b), (rf_RW ct 0 mf 958 g1_289)] ++ ws_284) H := hP
              have hD : va_D A ([(rf_MO mo mw ma mf m0 m1 mu mv u0 u1 iz th mb mn mpt1_285 mbg1_286 mwr1_287 mwk1_288 mlf men), (rf_RW ct 0 mb 800 b), (rf_RW ct 0 mf 958 g1_289)] ++ ws_284) := hD
              obtain ⟨hb_291, hb_293⟩ := hp_290
              rcases hb_293 with rfl | ⟨rfl, hz_294⟩
              · refine lv_if_eq (tgt := 169) hx hb dX11_readStatement_142 (by decide) (fun _ => ?_) (fun hc => absurd (by decide) hc)
                refine lv_iconst (v := 0) hx hb dX11_readStatement_169 (by decide) ?_
                exact W.zret (v := 0) hx hb hr (by decide) (fun t ht hW => ⟨⟨0, (ws_284, mpt1_285, mbg1_286, mwr1_287, mwk1_288, g1_289), rfl, ⟨hT, ⟨by omega, Or.inl rfl⟩⟩, by rw [ht]; exact hP, by rw [hAe]; exact hD⟩, hS.F ht⟩) hS.2.2 dX11_readStatement_170
              · obtain ⟨v_295, hv_296, he_297⟩ := hz_294
                have hz_298 : (2 : Int32).toInt = 2 := (by decide)
                have hz_299 : (1 : Int32).toInt = 1 := (by decide)
                have hz_300 : (10000 : Int32).toInt = 10000 := (by decide)
                have hL_301 : rf_L g1_289 := by rw [he_297]; exact rf_Lset hL (by omega)
                refine lv_if_eq (tgt := 169) hx hb dX11_readStatement_142 (by decide) (fun hc => absurd hc (by decide)) (fun _ => ?_)
                refine lv_aload_n hx hb dX11_readStatement_145 rfl (lv_at hl 0 rfl) ?_
                refine lv_iconst (v := 3) hx hb dX11_readStatement_146 (by decide) ?_
                refine lv_iconst (v := 0) hx hb dX11_readStatement_147 (by decide) ?_
                refine lv_bipush (v := 100) hx hb dX11_readStatement_148 (by decide) ?_
                refine lv_aload_n hx hb dX11_readStatement_150 rfl (lv_at hl 0 rfl) ?_
                refine va_get (v := .ref mf) (D := D) (ci := 11) (C := RX11) (T := TX11) (N := 19) hx hb hts in_X11 hown hK hP 0 rfl rfl 2 (by decide) (hts _ kl_RX11_16) (fun _ h9 => h9) rfl dX11_readStatement_151 ?_
                refine lv_iconst (v := 2) hx hb dX11_readStatement_154 (by decide) ?_
                refine va_iald hx hb hK hP 2 0 rfl rfl (cm_vin (by decide)) dX11_readStatement_155 ?_
                refine cm_cst (y := (g1_289 2)) (by first | rfl | decide +kernel) ?_
                refine va_mmin hx hb (hml.trans hl.1.symm) hown (hts _ kl_RX11_184) (hts _ jm_min_s) (hts _ ki_RJ9) (hts _ jm_min_c) (Nat.le_of_ble_eq_true rfl) (Nat.le_of_ble_eq_true rfl) (Nat.le_of_ble_eq_true rfl) (Nat.le_of_ble_eq_true rfl) dX11_readStatement_156 ?_
                refine lv_topi (fun x_302 _ => ?_)
                refine ty_ki (wr := []) (wc := ([(rf_MO mo mw ma mf m0 m1 mu mv u0 u1 iz th mb mn mpt1_285 mbg1_286 mwr1_287 mwk1_288 mlf men), (rf_RW ct 0 mb 800 b), (rf_RW ct 0 mf 958 g1_289)] ++ ws_284)) (va_runV (As := [.int 3, .int 0, .int x_302]) (rest := []) ⟨hx, hb, hml, hown, hts⟩ (m_X11_reads l D ct S ws_284 mo mw ma mf m0 m1 mu mv u0 u1 iz mb th mn mpt1_285 mbg1_286 mwr1_287 mwk1_288 mlf men b (3 : Int32) (0 : Int32) x_302 g1_289 _ hT hmn (by omega) (by omega) (by decide)) (cm_V 3 hts kc_X11_reads ki_RX11 kl_RX11_140 kv_X11_reads kx_X11_reads kd_X11_reads ⟨Nat.le_of_ble_eq_true rfl, Nat.le_of_ble_eq_true rfl⟩) (ty_preE (wr := []) (wc := ([(rf_MO mo mw ma mf m0 m1 mu mv u0 u1 iz th mb mn mpt1_285 mbg1_286 mwr1_287 mwk1_288 mlf men), (rf_RW ct 0 mb 800 b), (rf_RW ct 0 mf 958 g1_289)] ++ ws_284)) (ci := 11) (q0 := 0) hP hK hD hS hA hX rfl rfl) rfl rfl hl.1 rfl (lv_room (Nat.le_of_ble_eq_true rfl)) dX11_readStatement_159 ⟨Nat.le_of_ble_eq_true rfl, Nat.le_of_ble_eq_true rfl⟩) hP hD hS hA (fun r_303 u H locs hw_304 hP hD hS => ?_)
                obtain ⟨ws_305, mpt1_306, mbg1_307, mwr1_308, mwk1_309, g1_310⟩ := u
                obtain ⟨hT, hp_311⟩ := hw_304
                have hp_311 : ((mpt1_285.toInt ≤ mpt1_306.toInt ∧ mpt1_306.toInt ≤ 800) ∧ 0 ≤ mbg1_307.toInt ∧ mbg1_307.toInt ≤ 800) ∧ (r_303 = 0 ∨ (r_303 = 1 ∧ ∃ v : Int32, ((0 : Int32).toInt ≤ v.toInt ∧ v.toInt ≤ x_302.toInt) ∧ g1_310 = upd g1_289 (3 : Int32).toInt.toNat v)) := hp_311
                have hP : va_P D vwCl ([(rf_MO mo mw ma mf m0 m1 mu mv u0 u1 iz th mb mn mpt1_306 mbg1_307 mwr1_308 mwk1_309 mlf men), (rf_RW ct 0 mb 800 b), (rf_RW ct 0 mf 958 g1_310)] ++ ws_305) H := hP
                have hD : va_D A ([(rf_MO mo mw ma mf m0 m1 mu mv u0 u1 iz th mb mn mpt1_306 mbg1_307 mwr1_308 mwk1_309 mlf men), (rf_RW ct 0 mb 800 b), (rf_RW ct 0 mf 958 g1_310)] ++ ws_305) := hD
                obtain ⟨hb_312, hb_314⟩ := hp_311
                rcases hb_314 with rfl | ⟨rfl, hz_315⟩
                · refine lv_if_eq (tgt := 169) hx hb dX11_readStatement_162 (by decide) (fun _ => ?_) (fun hc => absurd (by decide) hc)
                  refine lv_iconst (v := 0) hx hb dX11_readStatement_169 (by decide) ?_
                  exact W.zret (v := 0) hx hb hr (by decide) (fun t ht hW => ⟨⟨0, (ws_305, mpt1_306, mbg1_307, mwr1_308, mwk1_309, g1_310), rfl, ⟨hT, ⟨by omega, Or.inl rfl⟩⟩, by rw [ht]; exact hP, by rw [hAe]; exact hD⟩, hS.F ht⟩) hS.2.2 dX11_readStatement_170
                · obtain ⟨v_316, hv_317, he_318⟩ := hz_315
                  have hz_319 : (3 : Int32).toInt = 3 := (by decide)
                  have hz_320 : (0 : Int32).toInt = 0 := (by decide)
                  have hL_321 : rf_L g1_310 := by rw [he_318]; exact rf_Lset hL_301 (by omega)
                  refine lv_if_eq (tgt := 169) hx hb dX11_readStatement_162 (by decide) (fun hc => absurd hc (by decide)) (fun _ => ?_)
                  refine lv_iconst (v := 1) hx hb dX11_readStatement_165 (by decide) ?_
                  refine lv_goto (tgt := 170) hx hb dX11_readStatement_166 (by decide) ?_
                  exact W.zret (v := 1) hx hb hr (by decide) (fun t ht hW => ⟨⟨1, (ws_305, mpt1_306, mbg1_307, mwr1_308, mwk1_309, g1_310), rfl, ⟨hT, ⟨by omega, Or.inr ⟨rfl, hL_321⟩⟩⟩, by rw [ht]; exact hP, by rw [hAe]; exact hD⟩, hS.F ht⟩) hS.2.2 dX11_readStatement_170
          · refine lv_aload_n hx hb dX11_readStatement_92 rfl (lv_at hl 0 rfl) ?_
            refine ty_ki (wr := [(rf_RW ct 0 mf 958 g)]) (wc := ([(rf_MO mo mw ma mf m0 m1 mu mv u0 u1 iz th mb mn mpt1_5 mbg1_4 mwr mwk mlf men), (rf_RW ct 0 mb 800 b)] ++ ws_47)) (va_runV (As := []) (rest := []) ⟨hx, hb, hml, hown, hts⟩ (m_X11_passes l D ct S ws_47 mo mw ma mf m0 m1 mu mv u0 u1 iz mb th mn mpt1_5 mbg1_4 mwr mwk mlf men b _ hT hmn (by omega)) (cm_V 0 hts kc_X11_passes ki_RX11 kl_RX11_133 kv_X11_passes kx_X11_passes kd_X11_passes ⟨Nat.le_of_ble_eq_true rfl, Nat.le_of_ble_eq_true rfl⟩) (ty_preE (wr := [(rf_RW ct 0 mf 958 g)]) (wc := ([(rf_MO mo mw ma mf m0 m1 mu mv u0 u1 iz th mb mn mpt1_5 mbg1_4 mwr mwk mlf men), (rf_RW ct 0 mb 800 b)] ++ ws_47)) (ci := 11) (q0 := 1) hP hK hD hS hA hX rfl rfl) rfl rfl hl.1 rfl (lv_room (Nat.le_of_ble_eq_true rfl)) dX11_readStatement_93 ⟨Nat.le_of_ble_eq_true rfl, Nat.le_of_ble_eq_true rfl⟩) hP hD hS hA (fun r_322 u H locs hw_323 hP hD hS => ?_)
            obtain ⟨ws_324, mpt1_325⟩ := u
            obtain ⟨hT, rfl, hp_326⟩ := hw_323
            have hP : va_P D vwCl ([(rf_RW ct 0 mf 958 g), (rf_MO mo mw ma mf m0 m1 mu mv u0 u1 iz th mb mn mpt1_325 mbg1_4 mwr mwk mlf men), (rf_RW ct 0 mb 800 b)] ++ ws_324) H := hP
            have hD : va_D A ([(rf_RW ct 0 mf 958 g), (rf_MO mo mw ma mf m0 m1 mu mv u0 u1 iz th mb mn mpt1_325 mbg1_4 mwr mwk mlf men), (rf_RW ct 0 mb 800 b)] ++ ws_324) := hD
            have hs_327 : mbg1_4.toInt ≤ mpt1_325.toInt ∧ mpt1_325.toInt ≤ 800 := hp_326
            refine lv_if_eq (tgt := 115) hx hb dX11_readStatement_96 (by decide) (fun hc => absurd hc (by decide)) (fun _ => ?_)
            refine lv_aload_n hx hb dX11_readStatement_99 rfl (lv_at hl 0 rfl) ?_
            refine lv_iconst (v := 1) hx hb dX11_readStatement_100 (by decide) ?_
            refine lv_bipush (v := 100) hx hb dX11_readStatement_101 (by decide) ?_
            refine lv_ldc hx hb hown (hts _ kl_RX11_181) dX11_readStatement_103 ?_
            have hP : va_P D vwCl ([(rf_MO mo mw ma mf m0 m1 mu mv u0 u1 iz th mb mn mpt1_325 mbg1_4 mwr mwk mlf men), (rf_RW ct 0 mb 800 b), (rf_RW ct 0 mf 958 g)] ++ ws_324) H := ty_permP hP (ty_ordp (E := [(rf_RW ct 0 mf 958 g), (rf_MO mo mw ma mf m0 m1 mu mv u0 u1 iz th mb mn mpt1_325 mbg1_4 mwr mwk mlf men), (rf_RW ct 0 mb 800 b)]) (E2 := [(rf_MO mo mw ma mf m0 m1 mu mv u0 u1 iz th mb mn mpt1_325 mbg1_4 mwr mwk mlf men), (rf_RW ct 0 mb 800 b), (rf_RW ct 0 mf 958 g)]) (n := 3) [1, 2, 0] rfl rfl (by decide))
            have hD : va_D A ([(rf_MO mo mw ma mf m0 m1 mu mv u0 u1 iz th mb mn mpt1_325 mbg1_4 mwr mwk mlf men), (rf_RW ct 0 mb 800 b), (rf_RW ct 0 mf 958 g)] ++ ws_324) := ty_permD hD (ty_ordp (E := [(rf_RW ct 0 mf 958 g), (rf_MO mo mw ma mf m0 m1 mu mv u0 u1 iz th mb mn mpt1_325 mbg1_4 mwr mwk mlf men), (rf_RW ct 0 mb 800 b)]) (E2 := [(rf_MO mo mw ma mf m0 m1 mu mv u0 u1 iz th mb mn mpt1_325 mbg1_4 mwr mwk mlf men), (rf_RW ct 0 mb 800 b), (rf_RW ct 0 mf 958 g)]) (n := 3) [1, 2, 0] rfl rfl (by decide))
            refine ty_ki (wr := []) (wc := ([(rf_MO mo mw ma mf m0 m1 mu mv u0 u1 iz th mb mn mpt1_325 mbg1_4 mwr mwk mlf men), (rf_RW ct 0 mb 800 b), (rf_RW ct 0 mf 958 g)] ++ ws_324)) (va_runV (As := [.int 1, .int 100, .int 1000000]) (rest := []) ⟨hx, hb, hml, hown, hts⟩ (m_X11_reads l D ct S ws_324 mo mw ma mf m0 m1 mu mv u0 u1 iz mb th mn mpt1_325 mbg1_4 mwr mwk mlf men b (1 : Int32) (100 : Int32) (1000000 : Int32) g _ hT hmn (by omega) (by omega) (by decide)) (cm_V 3 hts kc_X11_reads ki_RX11 kl_RX11_140 kv_X11_reads kx_X11_reads kd_X11_reads ⟨Nat.le_of_ble_eq_true rfl, Nat.le_of_ble_eq_true rfl⟩) (ty_preE (wr := []) (wc := ([(rf_MO mo mw ma mf m0 m1 mu mv u0 u1 iz th mb mn mpt1_325 mbg1_4 mwr mwk mlf men), (rf_RW ct 0 mb 800 b), (rf_RW ct 0 mf 958 g)] ++ ws_324)) (ci := 11) (q0 := 0) hP hK hD hS hA hX rfl rfl) rfl rfl hl.1 rfl (lv_room (Nat.le_of_ble_eq_true rfl)) dX11_readStatement_105 ⟨Nat.le_of_ble_eq_true rfl, Nat.le_of_ble_eq_true rfl⟩) hP hD hS hA (fun r_328 u H locs hw_329 hP hD hS => ?_)
            obtain ⟨ws_330, mpt1_331, mbg1_332, mwr1_333, mwk1_334, g1_335⟩ := u
            obtain ⟨hT, hp_336⟩ := hw_329
            have hp_336 : ((mpt1_325.toInt ≤ mpt1_331.toInt ∧ mpt1_331.toInt ≤ 800) ∧ 0 ≤ mbg1_332.toInt ∧ mbg1_332.toInt ≤ 800) ∧ (r_328 = 0 ∨ (r_328 = 1 ∧ ∃ v : Int32, ((100 : Int32).toInt ≤ v.toInt ∧ v.toInt ≤ (1000000 : Int32).toInt) ∧ g1_335 = upd g (1 : Int32).toInt.toNat v)) := hp_336
            have hP : va_P D vwCl ([(rf_MO mo mw ma mf m0 m1 mu mv u0 u1 iz th mb mn mpt1_331 mbg1_332 mwr1_333 mwk1_334 mlf men), (rf_RW ct 0 mb 800 b), (rf_RW ct 0 mf 958 g1_335)] ++ ws_330) H := hP
            have hD : va_D A ([(rf_MO mo mw ma mf m0 m1 mu mv u0 u1 iz th mb mn mpt1_331 mbg1_332 mwr1_333 mwk1_334 mlf men), (rf_RW ct 0 mb 800 b), (rf_RW ct 0 mf 958 g1_335)] ++ ws_330) := hD
            obtain ⟨hb_337, hb_339⟩ := hp_336
            rcases hb_339 with rfl | ⟨rfl, hz_340⟩
            · refine lv_if_eq (tgt := 115) hx hb dX11_readStatement_108 (by decide) (fun _ => ?_) (fun hc => absurd (by decide) hc)
              refine lv_iconst (v := 0) hx hb dX11_readStatement_115 (by decide) ?_
              exact W.zret (v := 0) hx hb hr (by decide) (fun t ht hW => ⟨⟨0, (ws_330, mpt1_331, mbg1_332, mwr1_333, mwk1_334, g1_335), rfl, ⟨hT, ⟨by omega, Or.inl rfl⟩⟩, by rw [ht]; exact hP, by rw [hAe]; exact hD⟩, hS.F ht⟩) hS.2.2 dX11_readStatement_116
            · obtain ⟨v_341, hv_342, he_343⟩ := hz_340
              have hz_344 : (1 : Int32).toInt = 1 := (by decide)
              have hz_345 : (100 : Int32).toInt = 100 := (by decide)
              have hz_346 : (1000000 : Int32).toInt = 1000000 := (by decide)
              have hL_347 : rf_L g1_335 := by rw [he_343]; exact rf_Lset hL (by omega)
              refine lv_if_eq (tgt := 115) hx hb dX11_readStatement_108 (by decide) (fun hc => absurd hc (by decide)) (fun _ => ?_)
              refine lv_iconst (v := 1) hx hb dX11_readStatement_111 (by decide) ?_
              refine lv_goto (tgt := 116) hx hb dX11_readStatement_112 (by decide) ?_
              exact W.zret (v := 1) hx hb hr (by decide) (fun t ht hW => ⟨⟨1, (ws_330, mpt1_331, mbg1_332, mwr1_333, mwk1_334, g1_335), rfl, ⟨hT, ⟨by omega, Or.inr ⟨rfl, hL_347⟩⟩⟩, by rw [ht]; exact hP, by rw [hAe]; exact hD⟩, hS.F ht⟩) hS.2.2 dX11_readStatement_116
        · refine lv_aload_n hx hb dX11_readStatement_56 rfl (lv_at hl 0 rfl) ?_
          refine ty_ki (wr := [(rf_RW ct 0 mf 958 g)]) (wc := ([(rf_MO mo mw ma mf m0 m1 mu mv u0 u1 iz th mb mn mpt1_5 mbg1_4 mwr mwk mlf men), (rf_RW ct 0 mb 800 b)] ++ ws_39)) (va_runV (As := []) (rest := []) ⟨hx, hb, hml, hown, hts⟩ (m_X11_passes l D ct S ws_39 mo mw ma mf m0 m1 mu mv u0 u1 iz mb th mn mpt1_5 mbg1_4 mwr mwk mlf men b _ hT hmn (by omega)) (cm_V 0 hts kc_X11_passes ki_RX11 kl_RX11_133 kv_X11_passes kx_X11_passes kd_X11_passes ⟨Nat.le_of_ble_eq_true rfl, Nat.le_of_ble_eq_true rfl⟩) (ty_preE (wr := [(rf_RW ct 0 mf 958 g)]) (wc := ([(rf_MO mo mw ma mf m0 m1 mu mv u0 u1 iz th mb mn mpt1_5 mbg1_4 mwr mwk mlf men), (rf_RW ct 0 mb 800 b)] ++ ws_39)) (ci := 11) (q0 := 1) hP hK hD hS hA hX rfl rfl) rfl rfl hl.1 rfl (lv_room (Nat.le_of_ble_eq_true rfl)) dX11_readStatement_57 ⟨Nat.le_of_ble_eq_true rfl, Nat.le_of_ble_eq_true rfl⟩) hP hD hS hA (fun r_348 u H locs hw_349 hP hD hS => ?_)
          obtain ⟨ws_350, mpt1_351⟩ := u
          obtain ⟨hT, rfl, hp_352⟩ := hw_349
          have hP : va_P D vwCl ([(rf_RW ct 0 mf 958 g), (rf_MO mo mw ma mf m0 m1 mu mv u0 u1 iz th mb mn mpt1_351 mbg1_4 mwr mwk mlf men), (rf_RW ct 0 mb 800 b)] ++ ws_350) H := hP
          have hD : va_D A ([(rf_RW ct 0 mf 958 g), (rf_MO mo mw ma mf m0 m1 mu mv u0 u1 iz th mb mn mpt1_351 mbg1_4 mwr mwk mlf men), (rf_RW ct 0 mb 800 b)] ++ ws_350) := hD
          have hs_353 : mbg1_4.toInt ≤ mpt1_351.toInt ∧ mpt1_351.toInt ≤ 800 := hp_352
          refine lv_if_eq (tgt := 81) hx hb dX11_readStatement_60 (by decide) (fun hc => absurd hc (by decide)) (fun _ => ?_)
          refine lv_aload_n hx hb dX11_readStatement_63 rfl (lv_at hl 0 rfl) ?_
          refine lv_iconst (v := 0) hx hb dX11_readStatement_64 (by decide) ?_
          refine lv_sipush (v := 500) hx hb dX11_readStatement_65 (by decide) ?_
          refine lv_sipush (v := 1000) hx hb dX11_readStatement_68 (by decide) ?_
          have hP : va_P D vwCl ([(rf_MO mo mw ma mf m0 m1 mu mv u0 u1 iz th mb mn mpt1_351 mbg1_4 mwr mwk mlf men), (rf_RW ct 0 mb 800 b), (rf_RW ct 0 mf 958 g)] ++ ws_350) H := ty_permP hP (ty_ordp (E := [(rf_RW ct 0 mf 958 g), (rf_MO mo mw ma mf m0 m1 mu mv u0 u1 iz th mb mn mpt1_351 mbg1_4 mwr mwk mlf men), (rf_RW ct 0 mb 800 b)]) (E2 := [(rf_MO mo mw ma mf m0 m1 mu mv u0 u1 iz th mb mn mpt1_351 mbg1_4 mwr mwk mlf men), (rf_RW ct 0 mb 800 b), (rf_RW ct 0 mf 958 g)]) (n := 3) [1, 2, 0] rfl rfl (by decide))
          have hD : va_D A ([(rf_MO mo mw ma mf m0 m1 mu mv u0 u1 iz th mb mn mpt1_351 mbg1_4 mwr mwk mlf men), (rf_RW ct 0 mb 800 b), (rf_RW ct 0 mf 958 g)] ++ ws_350) := ty_permD hD (ty_ordp (E := [(rf_RW ct 0 mf 958 g), (rf_MO mo mw ma mf m0 m1 mu mv u0 u1 iz th mb mn mpt1_351 mbg1_4 mwr mwk mlf men), (rf_RW ct 0 mb 800 b)]) (E2 := [(rf_MO mo mw ma mf m0 m1 mu mv u0 u1 iz th mb mn mpt1_351 mbg1_4 mwr mwk mlf men), (rf_RW ct 0 mb 800 b), (rf_RW ct 0 mf 958 g)]) (n := 3) [1, 2, 0] rfl rfl (by decide))
          refine ty_ki (wr := []) (wc := ([(rf_MO mo mw ma mf m0 m1 mu mv u0 u1 iz th mb mn mpt1_351 mbg1_4 mwr mwk mlf men), (rf_RW ct 0 mb 800 b), (rf_RW ct 0 mf 958 g)] ++ ws_350)) (va_runV (As := [.int 0, .int 500, .int 1000]) (rest := []) ⟨hx, hb, hml, hown, hts⟩ (m_X11_reads l D ct S ws_350 mo mw ma mf m0 m1 mu mv u0 u1 iz mb th mn mpt1_351 mbg1_4 mwr mwk mlf men b (0 : Int32) (500 : Int32) (1000 : Int32) g _ hT hmn (by omega) (by omega) (by decide)) (cm_V 3 hts kc_X11_reads ki_RX11 kl_RX11_140 kv_X11_reads kx_X11_reads kd_X11_reads ⟨Nat.le_of_ble_eq_true rfl, Nat.le_of_ble_eq_true rfl⟩) (ty_preE (wr := []) (wc := ([(rf_MO mo mw ma mf m0 m1 mu mv u0 u1 iz th mb mn mpt1_351 mbg1_4 mwr mwk mlf men), (rf_RW ct 0 mb 800 b), (rf_RW ct 0 mf 958 g)] ++ ws_350)) (ci := 11) (q0 := 0) hP hK hD hS hA hX rfl rfl) rfl rfl hl.1 rfl (lv_room (Nat.le_of_ble_eq_true rfl)) dX11_readStatement_71 ⟨Nat.le_of_ble_eq_true rfl, Nat.le_of_ble_eq_true rfl⟩) hP hD hS hA (fun r_354 u H locs hw_355 hP hD hS => ?_)
          obtain ⟨ws_356, mpt1_357, mbg1_358, mwr1_359, mwk1_360, g1_361⟩ := u
          obtain ⟨hT, hp_362⟩ := hw_355
          have hp_362 : ((mpt1_351.toInt ≤ mpt1_357.toInt ∧ mpt1_357.toInt ≤ 800) ∧ 0 ≤ mbg1_358.toInt ∧ mbg1_358.toInt ≤ 800) ∧ (r_354 = 0 ∨ (r_354 = 1 ∧ ∃ v : Int32, ((500 : Int32).toInt ≤ v.toInt ∧ v.toInt ≤ (1000 : Int32).toInt) ∧ g1_361 = upd g (0 : Int32).toInt.toNat v)) := hp_362
          have hP : va_P D vwCl ([(rf_MO mo mw ma mf m0 m1 mu mv u0 u1 iz th mb mn mpt1_357 mbg1_358 mwr1_359 mwk1_360 mlf men), (rf_RW ct 0 mb 800 b), (rf_RW ct 0 mf 958 g1_361)] ++ ws_356) H := hP
          have hD : va_D A ([(rf_MO mo mw ma mf m0 m1 mu mv u0 u1 iz th mb mn mpt1_357 mbg1_358 mwr1_359 mwk1_360 mlf men), (rf_RW ct 0 mb 800 b), (rf_RW ct 0 mf 958 g1_361)] ++ ws_356) := hD
          obtain ⟨hb_363, hb_365⟩ := hp_362
          rcases hb_365 with rfl | ⟨rfl, hz_366⟩
          · refine lv_if_eq (tgt := 81) hx hb dX11_readStatement_74 (by decide) (fun _ => ?_) (fun hc => absurd (by decide) hc)
            refine lv_iconst (v := 0) hx hb dX11_readStatement_81 (by decide) ?_
            exact W.zret (v := 0) hx hb hr (by decide) (fun t ht hW => ⟨⟨0, (ws_356, mpt1_357, mbg1_358, mwr1_359, mwk1_360, g1_361), rfl, ⟨hT, ⟨by omega, Or.inl rfl⟩⟩, by rw [ht]; exact hP, by rw [hAe]; exact hD⟩, hS.F ht⟩) hS.2.2 dX11_readStatement_82
          · obtain ⟨v_367, hv_368, he_369⟩ := hz_366
            have hz_370 : (0 : Int32).toInt = 0 := (by decide)
            have hz_371 : (500 : Int32).toInt = 500 := (by decide)
            have hz_372 : (1000 : Int32).toInt = 1000 := (by decide)
            have hL_373 : rf_L g1_361 := by rw [he_369]; exact rf_Lset hL (by omega)
            refine lv_if_eq (tgt := 81) hx hb dX11_readStatement_74 (by decide) (fun hc => absurd hc (by decide)) (fun _ => ?_)
            refine lv_iconst (v := 1) hx hb dX11_readStatement_77 (by decide) ?_
            refine lv_goto (tgt := 82) hx hb dX11_readStatement_78 (by decide) ?_
            exact W.zret (v := 1) hx hb hr (by decide) (fun t ht hW => ⟨⟨1, (ws_356, mpt1_357, mbg1_358, mwr1_359, mwk1_360, g1_361), rfl, ⟨hT, ⟨by omega, Or.inr ⟨rfl, hL_373⟩⟩⟩, by rw [ht]; exact hP, by rw [hAe]; exact hD⟩, hS.F ht⟩) hS.2.2 dX11_readStatement_82
      · refine lv_aload_n hx hb dX11_readStatement_42 rfl (lv_at hl 0 rfl) ?_
        have hP : va_P D vwCl ([(rf_MO mo mw ma mf m0 m1 mu mv u0 u1 iz th mb mn mpt1_5 mbg1_4 mwr mwk mlf men), (rf_RW ct 0 mb 800 b), (rf_RW ct 0 mf 958 g)] ++ ws_31) H := ty_permP hP (ty_ordp (E := [(rf_RW ct 0 mf 958 g), (rf_MO mo mw ma mf m0 m1 mu mv u0 u1 iz th mb mn mpt1_5 mbg1_4 mwr mwk mlf men), (rf_RW ct 0 mb 800 b)]) (E2 := [(rf_MO mo mw ma mf m0 m1 mu mv u0 u1 iz th mb mn mpt1_5 mbg1_4 mwr mwk mlf men), (rf_RW ct 0 mb 800 b), (rf_RW ct 0 mf 958 g)]) (n := 3) [1, 2, 0] rfl rfl (by decide))
        have hD : va_D A ([(rf_MO mo mw ma mf m0 m1 mu mv u0 u1 iz th mb mn mpt1_5 mbg1_4 mwr mwk mlf men), (rf_RW ct 0 mb 800 b), (rf_RW ct 0 mf 958 g)] ++ ws_31) := ty_permD hD (ty_ordp (E := [(rf_RW ct 0 mf 958 g), (rf_MO mo mw ma mf m0 m1 mu mv u0 u1 iz th mb mn mpt1_5 mbg1_4 mwr mwk mlf men), (rf_RW ct 0 mb 800 b)]) (E2 := [(rf_MO mo mw ma mf m0 m1 mu mv u0 u1 iz th mb mn mpt1_5 mbg1_4 mwr mwk mlf men), (rf_RW ct 0 mb 800 b), (rf_RW ct 0 mf 958 g)]) (n := 3) [1, 2, 0] rfl rfl (by decide))
        refine ty_ki (wr := []) (wc := ([(rf_MO mo mw ma mf m0 m1 mu mv u0 u1 iz th mb mn mpt1_5 mbg1_4 mwr mwk mlf men), (rf_RW ct 0 mb 800 b), (rf_RW ct 0 mf 958 g)] ++ ws_31)) (va_runV (As := []) (rest := []) ⟨hx, hb, hml, hown, hts⟩ (m_X11_readProgram l D ct S ws_31 mo mw ma mf m0 m1 mu mv u0 u1 iz mb th mn mpt1_5 mbg1_4 mwr mwk mlf men b g _ hT hmn (by omega) (by omega) hL) (cm_V 0 hts kc_X11_readProgram ki_RX11 kl_RX11_174 kv_X11_readProgram kx_X11_readProgram kd_X11_readProgram ⟨Nat.le_of_ble_eq_true rfl, Nat.le_of_ble_eq_true rfl⟩) (ty_preE (wr := []) (wc := ([(rf_MO mo mw ma mf m0 m1 mu mv u0 u1 iz th mb mn mpt1_5 mbg1_4 mwr mwk mlf men), (rf_RW ct 0 mb 800 b), (rf_RW ct 0 mf 958 g)] ++ ws_31)) (ci := 11) (q0 := 0) hP hK hD hS hA hX rfl rfl) rfl rfl hl.1 rfl (lv_room (Nat.le_of_ble_eq_true rfl)) dX11_readStatement_43 ⟨Nat.le_of_ble_eq_true rfl, Nat.le_of_ble_eq_true rfl⟩) hP hD hS hA (fun r_374 u H locs hw_375 hP hD hS => ?_)
        obtain ⟨ws_376, mpt1_377, mbg1_378, mwr1_379, mwk1_380, g1_381⟩ := u
        obtain ⟨hT, hp_382⟩ := hw_375
        have hp_382 : ((mpt1_5.toInt ≤ mpt1_377.toInt ∧ mpt1_377.toInt ≤ 800) ∧ 0 ≤ mbg1_378.toInt ∧ mbg1_378.toInt ≤ 800) ∧ (r_374 = 0 ∨ (r_374 = 1 ∧ rf_L g1_381)) := hp_382
        have hP : va_P D vwCl ([(rf_MO mo mw ma mf m0 m1 mu mv u0 u1 iz th mb mn mpt1_377 mbg1_378 mwr1_379 mwk1_380 mlf men), (rf_RW ct 0 mb 800 b), (rf_RW ct 0 mf 958 g1_381)] ++ ws_376) H := hP
        have hD : va_D A ([(rf_MO mo mw ma mf m0 m1 mu mv u0 u1 iz th mb mn mpt1_377 mbg1_378 mwr1_379 mwk1_380 mlf men), (rf_RW ct 0 mb 800 b), (rf_RW ct 0 mf 958 g1_381)] ++ ws_376) := hD
        obtain ⟨hb_383, hb_385⟩ := hp_382
        rcases hb_385 with rfl | ⟨rfl, hz_386⟩
        · exact W.zret (v := 0) hx hb hr (by decide) (fun t ht hW => ⟨⟨0, (ws_376, mpt1_377, mbg1_378, mwr1_379, mwk1_380, g1_381), rfl, ⟨hT, ⟨by omega, Or.inl rfl⟩⟩, by rw [ht]; exact hP, by rw [hAe]; exact hD⟩, hS.F ht⟩) hS.2.2 dX11_readStatement_46
        · exact W.zret (v := 1) hx hb hr (by decide) (fun t ht hW => ⟨⟨1, (ws_376, mpt1_377, mbg1_378, mwr1_379, mwk1_380, g1_381), rfl, ⟨hT, ⟨by omega, Or.inr ⟨rfl, hz_386⟩⟩⟩, by rw [ht]; exact hP, by rw [hAe]; exact hD⟩, hS.F ht⟩) hS.2.2 dX11_readStatement_46
    · refine lv_aload_n hx hb dX11_readStatement_28 rfl (lv_at hl 0 rfl) ?_
      have hP : va_P D vwCl ([(rf_MO mo mw ma mf m0 m1 mu mv u0 u1 iz th mb mn mpt1_5 mbg1_4 mwr mwk mlf men), (rf_RW ct 0 mb 800 b), (rf_RW ct 0 mf 958 g)] ++ ws_23) H := ty_permP hP (ty_ordp (E := [(rf_RW ct 0 mf 958 g), (rf_MO mo mw ma mf m0 m1 mu mv u0 u1 iz th mb mn mpt1_5 mbg1_4 mwr mwk mlf men), (rf_RW ct 0 mb 800 b)]) (E2 := [(rf_MO mo mw ma mf m0 m1 mu mv u0 u1 iz th mb mn mpt1_5 mbg1_4 mwr mwk mlf men), (rf_RW ct 0 mb 800 b), (rf_RW ct 0 mf 958 g)]) (n := 3) [1, 2, 0] rfl rfl (by decide))
      have hD : va_D A ([(rf_MO mo mw ma mf m0 m1 mu mv u0 u1 iz th mb mn mpt1_5 mbg1_4 mwr mwk mlf men), (rf_RW ct 0 mb 800 b), (rf_RW ct 0 mf 958 g)] ++ ws_23) := ty_permD hD (ty_ordp (E := [(rf_RW ct 0 mf 958 g), (rf_MO mo mw ma mf m0 m1 mu mv u0 u1 iz th mb mn mpt1_5 mbg1_4 mwr mwk mlf men), (rf_RW ct 0 mb 800 b)]) (E2 := [(rf_MO mo mw ma mf m0 m1 mu mv u0 u1 iz th mb mn mpt1_5 mbg1_4 mwr mwk mlf men), (rf_RW ct 0 mb 800 b), (rf_RW ct 0 mf 958 g)]) (n := 3) [1, 2, 0] rfl rfl (by decide))
      refine ty_ki (wr := []) (wc := ([(rf_MO mo mw ma mf m0 m1 mu mv u0 u1 iz th mb mn mpt1_5 mbg1_4 mwr mwk mlf men), (rf_RW ct 0 mb 800 b), (rf_RW ct 0 mf 958 g)] ++ ws_23)) (va_runV (As := []) (rest := []) ⟨hx, hb, hml, hown, hts⟩ (m_X11_readCell l D ct S ws_23 mo mw ma mf m0 m1 mu mv u0 u1 iz mb th mn mpt1_5 mbg1_4 mwr mwk mlf men b g _ hT hmn (by omega) (by omega) hL) (cm_V 0 hts kc_X11_readCell ki_RX11 kl_RX11_169 kv_X11_readCell kx_X11_readCell kd_X11_readCell ⟨Nat.le_of_ble_eq_true rfl, Nat.le_of_ble_eq_true rfl⟩) (ty_preE (wr := []) (wc := ([(rf_MO mo mw ma mf m0 m1 mu mv u0 u1 iz th mb mn mpt1_5 mbg1_4 mwr mwk mlf men), (rf_RW ct 0 mb 800 b), (rf_RW ct 0 mf 958 g)] ++ ws_23)) (ci := 11) (q0 := 0) hP hK hD hS hA hX rfl rfl) rfl rfl hl.1 rfl (lv_room (Nat.le_of_ble_eq_true rfl)) dX11_readStatement_29 ⟨Nat.le_of_ble_eq_true rfl, Nat.le_of_ble_eq_true rfl⟩) hP hD hS hA (fun r_387 u H locs hw_388 hP hD hS => ?_)
      obtain ⟨ws_389, mpt1_390, mbg1_391, mwr1_392, mwk1_393, g1_394⟩ := u
      obtain ⟨hT, hp_395⟩ := hw_388
      have hp_395 : ((mpt1_5.toInt ≤ mpt1_390.toInt ∧ mpt1_390.toInt ≤ 800) ∧ 0 ≤ mbg1_391.toInt ∧ mbg1_391.toInt ≤ 800) ∧ (r_387 = 0 ∨ (r_387 = 1 ∧ rf_L g1_394)) := hp_395
      have hP : va_P D vwCl ([(rf_MO mo mw ma mf m0 m1 mu mv u0 u1 iz th mb mn mpt1_390 mbg1_391 mwr1_392 mwk1_393 mlf men), (rf_RW ct 0 mb 800 b), (rf_RW ct 0 mf 958 g1_394)] ++ ws_389) H := hP
      have hD : va_D A ([(rf_MO mo mw ma mf m0 m1 mu mv u0 u1 iz th mb mn mpt1_390 mbg1_391 mwr1_392 mwk1_393 mlf men), (rf_RW ct 0 mb 800 b), (rf_RW ct 0 mf 958 g1_394)] ++ ws_389) := hD
      obtain ⟨hb_396, hb_398⟩ := hp_395
      rcases hb_398 with rfl | ⟨rfl, hz_399⟩
      · exact W.zret (v := 0) hx hb hr (by decide) (fun t ht hW => ⟨⟨0, (ws_389, mpt1_390, mbg1_391, mwr1_392, mwk1_393, g1_394), rfl, ⟨hT, ⟨by omega, Or.inl rfl⟩⟩, by rw [ht]; exact hP, by rw [hAe]; exact hD⟩, hS.F ht⟩) hS.2.2 dX11_readStatement_32
      · exact W.zret (v := 1) hx hb hr (by decide) (fun t ht hW => ⟨⟨1, (ws_389, mpt1_390, mbg1_391, mwr1_392, mwk1_393, g1_394), rfl, ⟨hT, ⟨by omega, Or.inr ⟨rfl, hz_399⟩⟩⟩, by rw [ht]; exact hP, by rw [hAe]; exact hD⟩, hS.F ht⟩) hS.2.2 dX11_readStatement_32
  · refine lv_aload_n hx hb dX11_readStatement_14 rfl (lv_at hl 0 rfl) ?_
    have hP : va_P D vwCl ([(rf_MO mo mw ma mf m0 m1 mu mv u0 u1 iz th mb mn mpt1_5 mbg1_4 mwr mwk mlf men), (rf_RW ct 0 mb 800 b), (rf_RW ct 0 mf 958 g)] ++ ws_15) H := ty_permP hP (ty_ordp (E := [(rf_RW ct 0 mf 958 g), (rf_MO mo mw ma mf m0 m1 mu mv u0 u1 iz th mb mn mpt1_5 mbg1_4 mwr mwk mlf men), (rf_RW ct 0 mb 800 b)]) (E2 := [(rf_MO mo mw ma mf m0 m1 mu mv u0 u1 iz th mb mn mpt1_5 mbg1_4 mwr mwk mlf men), (rf_RW ct 0 mb 800 b), (rf_RW ct 0 mf 958 g)]) (n := 3) [1, 2, 0] rfl rfl (by decide))
    have hD : va_D A ([(rf_MO mo mw ma mf m0 m1 mu mv u0 u1 iz th mb mn mpt1_5 mbg1_4 mwr mwk mlf men), (rf_RW ct 0 mb 800 b), (rf_RW ct 0 mf 958 g)] ++ ws_15) := ty_permD hD (ty_ordp (E := [(rf_RW ct 0 mf 958 g), (rf_MO mo mw ma mf m0 m1 mu mv u0 u1 iz th mb mn mpt1_5 mbg1_4 mwr mwk mlf men), (rf_RW ct 0 mb 800 b)]) (E2 := [(rf_MO mo mw ma mf m0 m1 mu mv u0 u1 iz th mb mn mpt1_5 mbg1_4 mwr mwk mlf men), (rf_RW ct 0 mb 800 b), (rf_RW ct 0 mf 958 g)]) (n := 3) [1, 2, 0] rfl rfl (by decide))
    refine ty_ki (wr := []) (wc := ([(rf_MO mo mw ma mf m0 m1 mu mv u0 u1 iz th mb mn mpt1_5 mbg1_4 mwr mwk mlf men), (rf_RW ct 0 mb 800 b), (rf_RW ct 0 mf 958 g)] ++ ws_15)) (va_runV (As := []) (rest := []) ⟨hx, hb, hml, hown, hts⟩ (m_X11_readCurve l D ct S ws_15 mo mw ma mf m0 m1 mu mv u0 u1 iz mb th mn mpt1_5 mbg1_4 mwr mwk mlf men b g _ hT hmn (by omega) (by omega) hL) (cm_V 0 hts kc_X11_readCurve ki_RX11 kl_RX11_164 kv_X11_readCurve kx_X11_readCurve kd_X11_readCurve ⟨Nat.le_of_ble_eq_true rfl, Nat.le_of_ble_eq_true rfl⟩) (ty_preE (wr := []) (wc := ([(rf_MO mo mw ma mf m0 m1 mu mv u0 u1 iz th mb mn mpt1_5 mbg1_4 mwr mwk mlf men), (rf_RW ct 0 mb 800 b), (rf_RW ct 0 mf 958 g)] ++ ws_15)) (ci := 11) (q0 := 0) hP hK hD hS hA hX rfl rfl) rfl rfl hl.1 rfl (lv_room (Nat.le_of_ble_eq_true rfl)) dX11_readStatement_15 ⟨Nat.le_of_ble_eq_true rfl, Nat.le_of_ble_eq_true rfl⟩) hP hD hS hA (fun r_400 u H locs hw_401 hP hD hS => ?_)
    obtain ⟨ws_402, mpt1_403, mbg1_404, mwr1_405, mwk1_406, g1_407⟩ := u
    obtain ⟨hT, hp_408⟩ := hw_401
    have hp_408 : ((mpt1_5.toInt ≤ mpt1_403.toInt ∧ mpt1_403.toInt ≤ 800) ∧ 0 ≤ mbg1_404.toInt ∧ mbg1_404.toInt ≤ 800) ∧ (r_400 = 0 ∨ (r_400 = 1 ∧ rf_L g1_407)) := hp_408
    have hP : va_P D vwCl ([(rf_MO mo mw ma mf m0 m1 mu mv u0 u1 iz th mb mn mpt1_403 mbg1_404 mwr1_405 mwk1_406 mlf men), (rf_RW ct 0 mb 800 b), (rf_RW ct 0 mf 958 g1_407)] ++ ws_402) H := hP
    have hD : va_D A ([(rf_MO mo mw ma mf m0 m1 mu mv u0 u1 iz th mb mn mpt1_403 mbg1_404 mwr1_405 mwk1_406 mlf men), (rf_RW ct 0 mb 800 b), (rf_RW ct 0 mf 958 g1_407)] ++ ws_402) := hD
    obtain ⟨hb_409, hb_411⟩ := hp_408
    rcases hb_411 with rfl | ⟨rfl, hz_412⟩
    · exact W.zret (v := 0) hx hb hr (by decide) (fun t ht hW => ⟨⟨0, (ws_402, mpt1_403, mbg1_404, mwr1_405, mwk1_406, g1_407), rfl, ⟨hT, ⟨by omega, Or.inl rfl⟩⟩, by rw [ht]; exact hP, by rw [hAe]; exact hD⟩, hS.F ht⟩) hS.2.2 dX11_readStatement_18
    · exact W.zret (v := 1) hx hb hr (by decide) (fun t ht hW => ⟨⟨1, (ws_402, mpt1_403, mbg1_404, mwr1_405, mwk1_406, g1_407), rfl, ⟨hT, ⟨by omega, Or.inr ⟨rfl, hz_412⟩⟩⟩, by rw [ht]; exact hP, by rw [hAe]; exact hD⟩, hS.F ht⟩) hS.2.2 dX11_readStatement_18
