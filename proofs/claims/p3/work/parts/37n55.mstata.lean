theorem dX11_readStatement_0 : decode cX11_readStatement 0 = .ok (.aload_n 0, 1) := by decide +kernel
theorem dX11_readStatement_1 : decode cX11_readStatement 1 = .ok (.invokevirtual 106, 3) := by decide +kernel
theorem dX11_readStatement_4 : decode cX11_readStatement 4 = .ok (.pop, 1) := by decide +kernel
theorem dX11_readStatement_5 : decode cX11_readStatement 5 = .ok (.aload_n 0, 1) := by decide +kernel
theorem dX11_readStatement_6 : decode cX11_readStatement 6 = .ok (.ldc 162, 2) := by decide +kernel
theorem dX11_readStatement_8 : decode cX11_readStatement 8 = .ok (.invokevirtual 146, 3) := by decide +kernel
theorem dX11_readStatement_11 : decode cX11_readStatement 11 = .ok (.ifCond .eq 8, 3) := by decide +kernel
theorem dX11_readStatement_14 : decode cX11_readStatement 14 = .ok (.aload_n 0, 1) := by decide +kernel
theorem dX11_readStatement_15 : decode cX11_readStatement 15 = .ok (.invokevirtual 164, 3) := by decide +kernel
theorem dX11_readStatement_18 : decode cX11_readStatement 18 = .ok (.ireturn, 1) := by decide +kernel
theorem dX11_readStatement_19 : decode cX11_readStatement 19 = .ok (.aload_n 0, 1) := by decide +kernel
theorem dX11_readStatement_20 : decode cX11_readStatement 20 = .ok (.ldc 167, 2) := by decide +kernel
theorem dX11_readStatement_22 : decode cX11_readStatement 22 = .ok (.invokevirtual 146, 3) := by decide +kernel
theorem dX11_readStatement_25 : decode cX11_readStatement 25 = .ok (.ifCond .eq 8, 3) := by decide +kernel
theorem dX11_readStatement_28 : decode cX11_readStatement 28 = .ok (.aload_n 0, 1) := by decide +kernel
theorem dX11_readStatement_29 : decode cX11_readStatement 29 = .ok (.invokevirtual 169, 3) := by decide +kernel
theorem dX11_readStatement_32 : decode cX11_readStatement 32 = .ok (.ireturn, 1) := by decide +kernel
theorem dX11_readStatement_33 : decode cX11_readStatement 33 = .ok (.aload_n 0, 1) := by decide +kernel
theorem dX11_readStatement_34 : decode cX11_readStatement 34 = .ok (.ldc 172, 2) := by decide +kernel
theorem dX11_readStatement_36 : decode cX11_readStatement 36 = .ok (.invokevirtual 146, 3) := by decide +kernel
theorem dX11_readStatement_39 : decode cX11_readStatement 39 = .ok (.ifCond .eq 8, 3) := by decide +kernel
theorem dX11_readStatement_42 : decode cX11_readStatement 42 = .ok (.aload_n 0, 1) := by decide +kernel
theorem dX11_readStatement_43 : decode cX11_readStatement 43 = .ok (.invokevirtual 174, 3) := by decide +kernel
theorem dX11_readStatement_46 : decode cX11_readStatement 46 = .ok (.ireturn, 1) := by decide +kernel
theorem dX11_readStatement_47 : decode cX11_readStatement 47 = .ok (.aload_n 0, 1) := by decide +kernel
theorem dX11_readStatement_48 : decode cX11_readStatement 48 = .ok (.ldc 177, 2) := by decide +kernel
theorem dX11_readStatement_50 : decode cX11_readStatement 50 = .ok (.invokevirtual 146, 3) := by decide +kernel
theorem dX11_readStatement_53 : decode cX11_readStatement 53 = .ok (.ifCond .eq 30, 3) := by decide +kernel
theorem dX11_readStatement_56 : decode cX11_readStatement 56 = .ok (.aload_n 0, 1) := by decide +kernel
theorem dX11_readStatement_57 : decode cX11_readStatement 57 = .ok (.invokevirtual 133, 3) := by decide +kernel
theorem dX11_readStatement_60 : decode cX11_readStatement 60 = .ok (.ifCond .eq 21, 3) := by decide +kernel
theorem dX11_readStatement_63 : decode cX11_readStatement 63 = .ok (.aload_n 0, 1) := by decide +kernel
theorem dX11_readStatement_64 : decode cX11_readStatement 64 = .ok (.iconst 0, 1) := by decide +kernel
theorem dX11_readStatement_65 : decode cX11_readStatement 65 = .ok (.sipush 500, 3) := by decide +kernel
theorem dX11_readStatement_68 : decode cX11_readStatement 68 = .ok (.sipush 1000, 3) := by decide +kernel
theorem dX11_readStatement_71 : decode cX11_readStatement 71 = .ok (.invokevirtual 140, 3) := by decide +kernel
theorem dX11_readStatement_74 : decode cX11_readStatement 74 = .ok (.ifCond .eq 7, 3) := by decide +kernel
theorem dX11_readStatement_77 : decode cX11_readStatement 77 = .ok (.iconst 1, 1) := by decide +kernel
theorem dX11_readStatement_78 : decode cX11_readStatement 78 = .ok (.goto 4, 3) := by decide +kernel
theorem dX11_readStatement_81 : decode cX11_readStatement 81 = .ok (.iconst 0, 1) := by decide +kernel
theorem dX11_readStatement_82 : decode cX11_readStatement 82 = .ok (.ireturn, 1) := by decide +kernel
theorem dX11_readStatement_83 : decode cX11_readStatement 83 = .ok (.aload_n 0, 1) := by decide +kernel
theorem dX11_readStatement_84 : decode cX11_readStatement 84 = .ok (.ldc 179, 2) := by decide +kernel
theorem dX11_readStatement_86 : decode cX11_readStatement 86 = .ok (.invokevirtual 146, 3) := by decide +kernel
theorem dX11_readStatement_89 : decode cX11_readStatement 89 = .ok (.ifCond .eq 28, 3) := by decide +kernel
theorem dX11_readStatement_92 : decode cX11_readStatement 92 = .ok (.aload_n 0, 1) := by decide +kernel
theorem dX11_readStatement_93 : decode cX11_readStatement 93 = .ok (.invokevirtual 133, 3) := by decide +kernel
theorem dX11_readStatement_96 : decode cX11_readStatement 96 = .ok (.ifCond .eq 19, 3) := by decide +kernel
theorem dX11_readStatement_99 : decode cX11_readStatement 99 = .ok (.aload_n 0, 1) := by decide +kernel
theorem dX11_readStatement_100 : decode cX11_readStatement 100 = .ok (.iconst 1, 1) := by decide +kernel
theorem dX11_readStatement_101 : decode cX11_readStatement 101 = .ok (.bipush 100, 2) := by decide +kernel
theorem dX11_readStatement_103 : decode cX11_readStatement 103 = .ok (.ldc 181, 2) := by decide +kernel
theorem dX11_readStatement_105 : decode cX11_readStatement 105 = .ok (.invokevirtual 140, 3) := by decide +kernel
theorem dX11_readStatement_108 : decode cX11_readStatement 108 = .ok (.ifCond .eq 7, 3) := by decide +kernel
theorem dX11_readStatement_111 : decode cX11_readStatement 111 = .ok (.iconst 1, 1) := by decide +kernel
theorem dX11_readStatement_112 : decode cX11_readStatement 112 = .ok (.goto 4, 3) := by decide +kernel
theorem dX11_readStatement_115 : decode cX11_readStatement 115 = .ok (.iconst 0, 1) := by decide +kernel
theorem dX11_readStatement_116 : decode cX11_readStatement 116 = .ok (.ireturn, 1) := by decide +kernel
theorem dX11_readStatement_117 : decode cX11_readStatement 117 = .ok (.aload_n 0, 1) := by decide +kernel
theorem dX11_readStatement_118 : decode cX11_readStatement 118 = .ok (.ldc 182, 2) := by decide +kernel
theorem dX11_readStatement_120 : decode cX11_readStatement 120 = .ok (.invokevirtual 146, 3) := by decide +kernel
theorem dX11_readStatement_123 : decode cX11_readStatement 123 = .ok (.ifCond .eq 48, 3) := by decide +kernel
theorem dX11_readStatement_126 : decode cX11_readStatement 126 = .ok (.aload_n 0, 1) := by decide +kernel
theorem dX11_readStatement_127 : decode cX11_readStatement 127 = .ok (.invokevirtual 133, 3) := by decide +kernel
theorem dX11_readStatement_130 : decode cX11_readStatement 130 = .ok (.ifCond .eq 39, 3) := by decide +kernel
theorem dX11_readStatement_133 : decode cX11_readStatement 133 = .ok (.aload_n 0, 1) := by decide +kernel
theorem dX11_readStatement_134 : decode cX11_readStatement 134 = .ok (.iconst 2, 1) := by decide +kernel
theorem dX11_readStatement_135 : decode cX11_readStatement 135 = .ok (.iconst 1, 1) := by decide +kernel
theorem dX11_readStatement_136 : decode cX11_readStatement 136 = .ok (.sipush 10000, 3) := by decide +kernel
theorem dX11_readStatement_139 : decode cX11_readStatement 139 = .ok (.invokevirtual 140, 3) := by decide +kernel
theorem dX11_readStatement_142 : decode cX11_readStatement 142 = .ok (.ifCond .eq 27, 3) := by decide +kernel
theorem dX11_readStatement_145 : decode cX11_readStatement 145 = .ok (.aload_n 0, 1) := by decide +kernel
theorem dX11_readStatement_146 : decode cX11_readStatement 146 = .ok (.iconst 3, 1) := by decide +kernel
theorem dX11_readStatement_147 : decode cX11_readStatement 147 = .ok (.iconst 0, 1) := by decide +kernel
theorem dX11_readStatement_148 : decode cX11_readStatement 148 = .ok (.bipush 100, 2) := by decide +kernel
theorem dX11_readStatement_150 : decode cX11_readStatement 150 = .ok (.aload_n 0, 1) := by decide +kernel
theorem dX11_readStatement_151 : decode cX11_readStatement 151 = .ok (.getfield 16, 3) := by decide +kernel
theorem dX11_readStatement_154 : decode cX11_readStatement 154 = .ok (.iconst 2, 1) := by decide +kernel
theorem dX11_readStatement_155 : decode cX11_readStatement 155 = .ok (.iaload, 1) := by decide +kernel
theorem dX11_readStatement_156 : decode cX11_readStatement 156 = .ok (.invokestatic 184, 3) := by decide +kernel
theorem dX11_readStatement_159 : decode cX11_readStatement 159 = .ok (.invokevirtual 140, 3) := by decide +kernel
theorem dX11_readStatement_162 : decode cX11_readStatement 162 = .ok (.ifCond .eq 7, 3) := by decide +kernel
theorem dX11_readStatement_165 : decode cX11_readStatement 165 = .ok (.iconst 1, 1) := by decide +kernel
theorem dX11_readStatement_166 : decode cX11_readStatement 166 = .ok (.goto 4, 3) := by decide +kernel
theorem dX11_readStatement_169 : decode cX11_readStatement 169 = .ok (.iconst 0, 1) := by decide +kernel
theorem dX11_readStatement_170 : decode cX11_readStatement 170 = .ok (.ireturn, 1) := by decide +kernel
theorem dX11_readStatement_171 : decode cX11_readStatement 171 = .ok (.aload_n 0, 1) := by decide +kernel
theorem dX11_readStatement_172 : decode cX11_readStatement 172 = .ok (.ldc 187, 2) := by decide +kernel
theorem dX11_readStatement_174 : decode cX11_readStatement 174 = .ok (.invokevirtual 146, 3) := by decide +kernel
theorem dX11_readStatement_177 : decode cX11_readStatement 177 = .ok (.ifCond .eq 60, 3) := by decide +kernel
theorem dX11_readStatement_180 : decode cX11_readStatement 180 = .ok (.aload_n 0, 1) := by decide +kernel
theorem dX11_readStatement_181 : decode cX11_readStatement 181 = .ok (.invokevirtual 133, 3) := by decide +kernel
theorem dX11_readStatement_184 : decode cX11_readStatement 184 = .ok (.ifCond .eq 51, 3) := by decide +kernel
theorem dX11_readStatement_187 : decode cX11_readStatement 187 = .ok (.aload_n 0, 1) := by decide +kernel
theorem dX11_readStatement_188 : decode cX11_readStatement 188 = .ok (.iconst 4, 1) := by decide +kernel
theorem dX11_readStatement_189 : decode cX11_readStatement 189 = .ok (.iconst 0, 1) := by decide +kernel
theorem dX11_readStatement_190 : decode cX11_readStatement 190 = .ok (.sipush 5000, 3) := by decide +kernel
theorem dX11_readStatement_193 : decode cX11_readStatement 193 = .ok (.invokevirtual 140, 3) := by decide +kernel
theorem dX11_readStatement_196 : decode cX11_readStatement 196 = .ok (.ifCond .eq 39, 3) := by decide +kernel
theorem dX11_readStatement_199 : decode cX11_readStatement 199 = .ok (.aload_n 0, 1) := by decide +kernel
theorem dX11_readStatement_200 : decode cX11_readStatement 200 = .ok (.iconst 5, 1) := by decide +kernel
theorem dX11_readStatement_201 : decode cX11_readStatement 201 = .ok (.aload_n 0, 1) := by decide +kernel
theorem dX11_readStatement_202 : decode cX11_readStatement 202 = .ok (.getfield 16, 3) := by decide +kernel
theorem dX11_readStatement_205 : decode cX11_readStatement 205 = .ok (.iconst 4, 1) := by decide +kernel
theorem dX11_readStatement_206 : decode cX11_readStatement 206 = .ok (.iaload, 1) := by decide +kernel
theorem dX11_readStatement_207 : decode cX11_readStatement 207 = .ok (.sipush 5000, 3) := by decide +kernel
theorem dX11_readStatement_210 : decode cX11_readStatement 210 = .ok (.invokevirtual 140, 3) := by decide +kernel
theorem dX11_readStatement_213 : decode cX11_readStatement 213 = .ok (.ifCond .eq 22, 3) := by decide +kernel
theorem dX11_readStatement_216 : decode cX11_readStatement 216 = .ok (.aload_n 0, 1) := by decide +kernel
theorem dX11_readStatement_217 : decode cX11_readStatement 217 = .ok (.bipush 6, 2) := by decide +kernel
theorem dX11_readStatement_219 : decode cX11_readStatement 219 = .ok (.sipush 250, 3) := by decide +kernel
theorem dX11_readStatement_222 : decode cX11_readStatement 222 = .ok (.sipush 1000, 3) := by decide +kernel
theorem dX11_readStatement_225 : decode cX11_readStatement 225 = .ok (.invokevirtual 140, 3) := by decide +kernel
theorem dX11_readStatement_228 : decode cX11_readStatement 228 = .ok (.ifCond .eq 7, 3) := by decide +kernel
theorem dX11_readStatement_231 : decode cX11_readStatement 231 = .ok (.iconst 1, 1) := by decide +kernel
theorem dX11_readStatement_232 : decode cX11_readStatement 232 = .ok (.goto 4, 3) := by decide +kernel
theorem dX11_readStatement_235 : decode cX11_readStatement 235 = .ok (.iconst 0, 1) := by decide +kernel
theorem dX11_readStatement_236 : decode cX11_readStatement 236 = .ok (.ireturn, 1) := by decide +kernel
theorem dX11_readStatement_237 : decode cX11_readStatement 237 = .ok (.aload_n 0, 1) := by decide +kernel
theorem dX11_readStatement_238 : decode cX11_readStatement 238 = .ok (.ldc 189, 2) := by decide +kernel
theorem dX11_readStatement_240 : decode cX11_readStatement 240 = .ok (.invokevirtual 146, 3) := by decide +kernel
theorem dX11_readStatement_243 : decode cX11_readStatement 243 = .ok (.ifCond .eq 61, 3) := by decide +kernel
theorem dX11_readStatement_246 : decode cX11_readStatement 246 = .ok (.aload_n 0, 1) := by decide +kernel
theorem dX11_readStatement_247 : decode cX11_readStatement 247 = .ok (.invokevirtual 133, 3) := by decide +kernel
theorem dX11_readStatement_250 : decode cX11_readStatement 250 = .ok (.ifCond .eq 52, 3) := by decide +kernel
theorem dX11_readStatement_253 : decode cX11_readStatement 253 = .ok (.aload_n 0, 1) := by decide +kernel
theorem dX11_readStatement_254 : decode cX11_readStatement 254 = .ok (.bipush 13, 2) := by decide +kernel
theorem dX11_readStatement_256 : decode cX11_readStatement 256 = .ok (.iconst 0, 1) := by decide +kernel
theorem dX11_readStatement_257 : decode cX11_readStatement 257 = .ok (.sipush 5000, 3) := by decide +kernel
theorem dX11_readStatement_260 : decode cX11_readStatement 260 = .ok (.invokevirtual 140, 3) := by decide +kernel
theorem dX11_readStatement_263 : decode cX11_readStatement 263 = .ok (.ifCond .eq 39, 3) := by decide +kernel
theorem dX11_readStatement_266 : decode cX11_readStatement 266 = .ok (.aload_n 0, 1) := by decide +kernel
theorem dX11_readStatement_267 : decode cX11_readStatement 267 = .ok (.bipush 14, 2) := by decide +kernel
theorem dX11_readStatement_269 : decode cX11_readStatement 269 = .ok (.aload_n 0, 1) := by decide +kernel
theorem dX11_readStatement_270 : decode cX11_readStatement 270 = .ok (.getfield 16, 3) := by decide +kernel
theorem dX11_readStatement_273 : decode cX11_readStatement 273 = .ok (.bipush 13, 2) := by decide +kernel
theorem dX11_readStatement_275 : decode cX11_readStatement 275 = .ok (.iaload, 1) := by decide +kernel
theorem dX11_readStatement_276 : decode cX11_readStatement 276 = .ok (.sipush 5000, 3) := by decide +kernel
theorem dX11_readStatement_279 : decode cX11_readStatement 279 = .ok (.invokevirtual 140, 3) := by decide +kernel
theorem dX11_readStatement_282 : decode cX11_readStatement 282 = .ok (.ifCond .eq 20, 3) := by decide +kernel
theorem dX11_readStatement_285 : decode cX11_readStatement 285 = .ok (.aload_n 0, 1) := by decide +kernel
theorem dX11_readStatement_286 : decode cX11_readStatement 286 = .ok (.bipush 15, 2) := by decide +kernel
theorem dX11_readStatement_288 : decode cX11_readStatement 288 = .ok (.iconst 0, 1) := by decide +kernel
theorem dX11_readStatement_289 : decode cX11_readStatement 289 = .ok (.sipush 1000, 3) := by decide +kernel
theorem dX11_readStatement_292 : decode cX11_readStatement 292 = .ok (.invokevirtual 140, 3) := by decide +kernel
theorem dX11_readStatement_295 : decode cX11_readStatement 295 = .ok (.ifCond .eq 7, 3) := by decide +kernel
theorem dX11_readStatement_298 : decode cX11_readStatement 298 = .ok (.iconst 1, 1) := by decide +kernel
theorem dX11_readStatement_299 : decode cX11_readStatement 299 = .ok (.goto 4, 3) := by decide +kernel
theorem dX11_readStatement_302 : decode cX11_readStatement 302 = .ok (.iconst 0, 1) := by decide +kernel
theorem dX11_readStatement_303 : decode cX11_readStatement 303 = .ok (.ireturn, 1) := by decide +kernel
theorem dX11_readStatement_304 : decode cX11_readStatement 304 = .ok (.aload_n 0, 1) := by decide +kernel
theorem dX11_readStatement_305 : decode cX11_readStatement 305 = .ok (.ldc 191, 2) := by decide +kernel
theorem dX11_readStatement_307 : decode cX11_readStatement 307 = .ok (.invokevirtual 146, 3) := by decide +kernel
theorem dX11_readStatement_310 : decode cX11_readStatement 310 = .ok (.ifCond .eq 29, 3) := by decide +kernel
theorem dX11_readStatement_313 : decode cX11_readStatement 313 = .ok (.aload_n 0, 1) := by decide +kernel
theorem dX11_readStatement_314 : decode cX11_readStatement 314 = .ok (.invokevirtual 133, 3) := by decide +kernel
theorem dX11_readStatement_317 : decode cX11_readStatement 317 = .ok (.ifCond .eq 20, 3) := by decide +kernel
theorem dX11_readStatement_320 : decode cX11_readStatement 320 = .ok (.aload_n 0, 1) := by decide +kernel
theorem dX11_readStatement_321 : decode cX11_readStatement 321 = .ok (.bipush 16, 2) := by decide +kernel
theorem dX11_readStatement_323 : decode cX11_readStatement 323 = .ok (.iconst 0, 1) := by decide +kernel
theorem dX11_readStatement_324 : decode cX11_readStatement 324 = .ok (.sipush 200, 3) := by decide +kernel
theorem dX11_readStatement_327 : decode cX11_readStatement 327 = .ok (.invokevirtual 140, 3) := by decide +kernel
theorem dX11_readStatement_330 : decode cX11_readStatement 330 = .ok (.ifCond .eq 7, 3) := by decide +kernel
theorem dX11_readStatement_333 : decode cX11_readStatement 333 = .ok (.iconst 1, 1) := by decide +kernel
theorem dX11_readStatement_334 : decode cX11_readStatement 334 = .ok (.goto 4, 3) := by decide +kernel
theorem dX11_readStatement_337 : decode cX11_readStatement 337 = .ok (.iconst 0, 1) := by decide +kernel
theorem dX11_readStatement_338 : decode cX11_readStatement 338 = .ok (.ireturn, 1) := by decide +kernel
theorem dX11_readStatement_339 : decode cX11_readStatement 339 = .ok (.aload_n 0, 1) := by decide +kernel
theorem dX11_readStatement_340 : decode cX11_readStatement 340 = .ok (.ldc 193, 2) := by decide +kernel
theorem dX11_readStatement_342 : decode cX11_readStatement 342 = .ok (.invokevirtual 146, 3) := by decide +kernel
theorem dX11_readStatement_345 : decode cX11_readStatement 345 = .ok (.ifCond .eq 31, 3) := by decide +kernel
theorem dX11_readStatement_348 : decode cX11_readStatement 348 = .ok (.aload_n 0, 1) := by decide +kernel
theorem dX11_readStatement_349 : decode cX11_readStatement 349 = .ok (.invokevirtual 133, 3) := by decide +kernel
theorem dX11_readStatement_352 : decode cX11_readStatement 352 = .ok (.ifCond .eq 20, 3) := by decide +kernel
theorem dX11_readStatement_355 : decode cX11_readStatement 355 = .ok (.aload_n 0, 1) := by decide +kernel
theorem dX11_readStatement_356 : decode cX11_readStatement 356 = .ok (.bipush 7, 2) := by decide +kernel
theorem dX11_readStatement_358 : decode cX11_readStatement 358 = .ok (.iconst 0, 1) := by decide +kernel
theorem dX11_readStatement_359 : decode cX11_readStatement 359 = .ok (.sipush 500, 3) := by decide +kernel
theorem dX11_readStatement_362 : decode cX11_readStatement 362 = .ok (.invokevirtual 140, 3) := by decide +kernel
theorem dX11_readStatement_365 : decode cX11_readStatement 365 = .ok (.ifCond .eq 7, 3) := by decide +kernel
theorem dX11_readStatement_368 : decode cX11_readStatement 368 = .ok (.iconst 1, 1) := by decide +kernel
theorem dX11_readStatement_369 : decode cX11_readStatement 369 = .ok (.goto 12, 3) := by decide +kernel
theorem dX11_readStatement_372 : decode cX11_readStatement 372 = .ok (.iconst 0, 1) := by decide +kernel
theorem dX11_readStatement_373 : decode cX11_readStatement 373 = .ok (.goto 8, 3) := by decide +kernel
theorem dX11_readStatement_376 : decode cX11_readStatement 376 = .ok (.aload_n 0, 1) := by decide +kernel
theorem dX11_readStatement_377 : decode cX11_readStatement 377 = .ok (.iconst 1, 1) := by decide +kernel
theorem dX11_readStatement_378 : decode cX11_readStatement 378 = .ok (.invokevirtual 112, 3) := by decide +kernel
theorem dX11_readStatement_381 : decode cX11_readStatement 381 = .ok (.ireturn, 1) := by decide +kernel
set_option maxRecDepth 100000 in
set_option maxHeartbeats 4000000 in
theorem m_X11_readStatement (l : Launch) (D : va_G) (ct : Nat → ClassId) (S : ty_S) (ws : va_W) (ph : va_W → Prop) (xx : Nat → Nat → Nat → Prop) (mo : Nat) (mw : Nat) (ma : Nat) (mf : Nat) (m0 : Nat) (m1 : Nat) (mu : Nat) (mv : Nat) (u0 : Nat) (u1 : Nat) (iz : Nat) (mb : Nat) (th : Int32) (mn : Int32) (mpt : Int32) (mbg : Int32) (mwr : Int32) (mlf : Int32) (men : Int32) (b : Nat → Int32) (g : Nat → Int32) (N : List (List Int32)) (sz : Nat) (hT : ty_V ct S ph ws) (hph : ty_C ph xx) (hy1 : ty_y1 xx) (hmn : 0 ≤ mn.toInt ∧ mn.toInt ≤ 800) (hpt : 0 ≤ mpt.toInt ∧ mpt.toInt ≤ mn.toInt) (hL : rf_L g) (hN : rm_N N g) : Met l yX11_readStatement (ws_ yX11_readStatement cX11_readStatement 1 (some .boolean)) ({ frames := 7, cells := 0, slots := 0, locals := 155 } : Room) (va_Pc [.ref mo] (cmP D ct sz ([(rf_MO mo mw ma mf m0 m1 mu mv u0 u1 iz th mb mn mpt mbg mwr (0) mlf men), (rf_RW ct 0 mb 800 b), (rf_RW ct 0 mf 958 g)] ++ ws))) (va_Qi (fun (r : Int32) (u : va_W × Int32 × Int32 × Int32 × Int32 × (Nat → Int32)) => match u with | (u9, mpt1, mbg1, mwr1, mwk1, g1) => ty_V ct S ph u9 ∧ ((mpt.toInt ≤ mpt1.toInt ∧ mpt1.toInt ≤ mn.toInt) ∧ 0 ≤ mbg1.toInt ∧ mbg1.toInt ≤ mn.toInt) ∧ ((r = 0 ∧ rm_B b mn (rp_tk b mn N (g 10).toInt (g 9).toInt (rp_sk b mn mpt)) (rp_tp b mn N (g 10).toInt (g 9).toInt (rp_sk b mn mpt)) mwk1 mwr1) ∨ (r = 1 ∧ (rp_tk b mn N (g 10).toInt (g 9).toInt (rp_sk b mn mpt)) = 0 ∧ mwk1 = 0 ∧ rp_sk b mn mpt1 = rp_sk b mn (rp_tp b mn N (g 10).toInt (g 9).toInt (rp_sk b mn mpt)) ∧ rf_L g1 ∧ rm_N (rp_tN b mn N (rp_sk b mn mpt)) g1 ∧ (g1 9).toInt = rp_tc b mn (rp_sk b mn mpt) (g 9).toInt ∧ (g1 10).toInt = rp_tg b mn (rp_sk b mn mpt) (g 10).toInt))) (cmB D ([(rf_MO mo mw ma mf m0 m1 mu mv u0 u1 iz th mb mn mpt mbg mwr (0) mlf men), (rf_RW ct 0 mb 800 b), (rf_RW ct 0 mf 958 g)] ++ ws) sz (fun (u : va_W × Int32 × Int32 × Int32 × Int32 × (Nat → Int32)) => match u with | (u9, mpt1, mbg1, mwr1, mwk1, g1) => ([(rf_MO mo mw ma mf m0 m1 mu mv u0 u1 iz th mb mn mpt1 mbg1 mwr1 mwk1 mlf men), (rf_RW ct 0 mb 800 b), (rf_RW ct 0 mf 958 g1)] ++ u9))) (va_A ([(rf_MO mo mw ma mf m0 m1 mu mv u0 u1 iz th mb mn mpt mbg mwr (0) mlf men), (rf_RW ct 0 mb 800 b), (rf_RW ct 0 mf 958 g)] ++ ws) sz)) 0 0 (va_A ([(rf_MO mo mw ma mf m0 m1 mu mv u0 u1 iz th mb mn mpt mbg mwr (0) mlf men), (rf_RW ct 0 mb 800 b), (rf_RW ct 0 mf 958 g)] ++ ws) sz) := sorry