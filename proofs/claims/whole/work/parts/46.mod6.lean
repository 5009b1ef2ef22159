theorem d_Mod_literal_0 : decode b_Mod_literal 0 = .ok (.aload_n 0, 1) := by decide +kernel
theorem d_Mod_literal_1 : decode b_Mod_literal 1 = .ok (.getfield 81, 3) := by decide +kernel
theorem d_Mod_literal_4 : decode b_Mod_literal 4 = .ok (.istore_n 3, 1) := by decide +kernel
theorem d_Mod_literal_5 : decode b_Mod_literal 5 = .ok (.aload_n 0, 1) := by decide +kernel
theorem d_Mod_literal_6 : decode b_Mod_literal 6 = .ok (.aload_n 0, 1) := by decide +kernel
theorem d_Mod_literal_7 : decode b_Mod_literal 7 = .ok (.getfield 81, 3) := by decide +kernel
theorem d_Mod_literal_10 : decode b_Mod_literal 10 = .ok (.iload_n 1, 1) := by decide +kernel
theorem d_Mod_literal_11 : decode b_Mod_literal 11 = .ok (.invokevirtual 116, 3) := by decide +kernel
theorem d_Mod_literal_14 : decode b_Mod_literal 14 = .ok (.istore 4, 2) := by decide +kernel
theorem d_Mod_literal_16 : decode b_Mod_literal 16 = .ok (.aload_n 0, 1) := by decide +kernel
theorem d_Mod_literal_17 : decode b_Mod_literal 17 = .ok (.dup, 1) := by decide +kernel
theorem d_Mod_literal_18 : decode b_Mod_literal 18 = .ok (.getfield 81, 3) := by decide +kernel
theorem d_Mod_literal_21 : decode b_Mod_literal 21 = .ok (.iload 4, 2) := by decide +kernel
theorem d_Mod_literal_23 : decode b_Mod_literal 23 = .ok (.iadd, 1) := by decide +kernel
theorem d_Mod_literal_24 : decode b_Mod_literal 24 = .ok (.putfield 81, 3) := by decide +kernel
theorem d_Mod_literal_27 : decode b_Mod_literal 27 = .ok (.aload_n 0, 1) := by decide +kernel
theorem d_Mod_literal_28 : decode b_Mod_literal 28 = .ok (.getfield 81, 3) := by decide +kernel
theorem d_Mod_literal_31 : decode b_Mod_literal 31 = .ok (.istore 5, 2) := by decide +kernel
theorem d_Mod_literal_33 : decode b_Mod_literal 33 = .ok (.iconst 0, 1) := by decide +kernel
theorem d_Mod_literal_34 : decode b_Mod_literal 34 = .ok (.istore 6, 2) := by decide +kernel
theorem d_Mod_literal_36 : decode b_Mod_literal 36 = .ok (.aload_n 0, 1) := by decide +kernel
theorem d_Mod_literal_37 : decode b_Mod_literal 37 = .ok (.bipush 46, 2) := by decide +kernel
theorem d_Mod_literal_39 : decode b_Mod_literal 39 = .ok (.bipush 46, 2) := by decide +kernel
theorem d_Mod_literal_41 : decode b_Mod_literal 41 = .ok (.invokevirtual 119, 3) := by decide +kernel
theorem d_Mod_literal_44 : decode b_Mod_literal 44 = .ok (.ifCond .eq 25, 3) := by decide +kernel
theorem d_Mod_literal_47 : decode b_Mod_literal 47 = .ok (.aload_n 0, 1) := by decide +kernel
theorem d_Mod_literal_48 : decode b_Mod_literal 48 = .ok (.aload_n 0, 1) := by decide +kernel
theorem d_Mod_literal_49 : decode b_Mod_literal 49 = .ok (.getfield 81, 3) := by decide +kernel
theorem d_Mod_literal_52 : decode b_Mod_literal 52 = .ok (.iload_n 1, 1) := by decide +kernel
theorem d_Mod_literal_53 : decode b_Mod_literal 53 = .ok (.invokevirtual 116, 3) := by decide +kernel
theorem d_Mod_literal_56 : decode b_Mod_literal 56 = .ok (.istore 6, 2) := by decide +kernel
theorem d_Mod_literal_58 : decode b_Mod_literal 58 = .ok (.aload_n 0, 1) := by decide +kernel
theorem d_Mod_literal_59 : decode b_Mod_literal 59 = .ok (.dup, 1) := by decide +kernel
theorem d_Mod_literal_60 : decode b_Mod_literal 60 = .ok (.getfield 81, 3) := by decide +kernel
theorem d_Mod_literal_63 : decode b_Mod_literal 63 = .ok (.iload 6, 2) := by decide +kernel
theorem d_Mod_literal_65 : decode b_Mod_literal 65 = .ok (.iadd, 1) := by decide +kernel
theorem d_Mod_literal_66 : decode b_Mod_literal 66 = .ok (.putfield 81, 3) := by decide +kernel
theorem d_Mod_literal_69 : decode b_Mod_literal 69 = .ok (.iload 4, 2) := by decide +kernel
theorem d_Mod_literal_71 : decode b_Mod_literal 71 = .ok (.iload 6, 2) := by decide +kernel
theorem d_Mod_literal_73 : decode b_Mod_literal 73 = .ok (.iadd, 1) := by decide +kernel
theorem d_Mod_literal_74 : decode b_Mod_literal 74 = .ok (.ifCond .ne 7, 3) := by decide +kernel
theorem d_Mod_literal_77 : decode b_Mod_literal 77 = .ok (.ldc2_w 123, 3) := by decide +kernel
theorem d_Mod_literal_80 : decode b_Mod_literal 80 = .ok (.lreturn, 1) := by decide +kernel
theorem d_Mod_literal_81 : decode b_Mod_literal 81 = .ok (.lconst 0, 1) := by decide +kernel
theorem d_Mod_literal_82 : decode b_Mod_literal 82 = .ok (.lstore 7, 2) := by decide +kernel
theorem d_Mod_literal_84 : decode b_Mod_literal 84 = .ok (.iload_n 1, 1) := by decide +kernel
theorem d_Mod_literal_85 : decode b_Mod_literal 85 = .ok (.bipush 16, 2) := by decide +kernel
theorem d_Mod_literal_87 : decode b_Mod_literal 87 = .ok (.if_icmp .ne 14, 3) := by decide +kernel
theorem d_Mod_literal_90 : decode b_Mod_literal 90 = .ok (.aload_n 0, 1) := by decide +kernel
theorem d_Mod_literal_91 : decode b_Mod_literal 91 = .ok (.bipush 112, 2) := by decide +kernel
theorem d_Mod_literal_93 : decode b_Mod_literal 93 = .ok (.bipush 80, 2) := by decide +kernel
theorem d_Mod_literal_95 : decode b_Mod_literal 95 = .ok (.invokevirtual 119, 3) := by decide +kernel
theorem d_Mod_literal_98 : decode b_Mod_literal 98 = .ok (.goto 11, 3) := by decide +kernel
theorem d_Mod_literal_101 : decode b_Mod_literal 101 = .ok (.aload_n 0, 1) := by decide +kernel
theorem d_Mod_literal_102 : decode b_Mod_literal 102 = .ok (.bipush 101, 2) := by decide +kernel
theorem d_Mod_literal_104 : decode b_Mod_literal 104 = .ok (.bipush 69, 2) := by decide +kernel
theorem d_Mod_literal_106 : decode b_Mod_literal 106 = .ok (.invokevirtual 119, 3) := by decide +kernel
theorem d_Mod_literal_109 : decode b_Mod_literal 109 = .ok (.istore 9, 2) := by decide +kernel
theorem d_Mod_literal_111 : decode b_Mod_literal 111 = .ok (.iload 9, 2) := by decide +kernel
theorem d_Mod_literal_113 : decode b_Mod_literal 113 = .ok (.ifCond .ne 13, 3) := by decide +kernel
theorem d_Mod_literal_116 : decode b_Mod_literal 116 = .ok (.iload_n 1, 1) := by decide +kernel
theorem d_Mod_literal_117 : decode b_Mod_literal 117 = .ok (.bipush 16, 2) := by decide +kernel
theorem d_Mod_literal_119 : decode b_Mod_literal 119 = .ok (.if_icmp .ne 7, 3) := by decide +kernel
theorem d_Mod_literal_122 : decode b_Mod_literal 122 = .ok (.ldc2_w 123, 3) := by decide +kernel
theorem d_Mod_literal_125 : decode b_Mod_literal 125 = .ok (.lreturn, 1) := by decide +kernel
theorem d_Mod_literal_126 : decode b_Mod_literal 126 = .ok (.iload 9, 2) := by decide +kernel
theorem d_Mod_literal_128 : decode b_Mod_literal 128 = .ok (.ifCond .eq 158, 3) := by decide +kernel
theorem d_Mod_literal_131 : decode b_Mod_literal 131 = .ok (.aload_n 0, 1) := by decide +kernel
theorem d_Mod_literal_132 : decode b_Mod_literal 132 = .ok (.aload_n 0, 1) := by decide +kernel
theorem d_Mod_literal_133 : decode b_Mod_literal 133 = .ok (.getfield 81, 3) := by decide +kernel
theorem d_Mod_literal_136 : decode b_Mod_literal 136 = .ok (.invokevirtual 84, 3) := by decide +kernel
theorem d_Mod_literal_139 : decode b_Mod_literal 139 = .ok (.bipush 45, 2) := by decide +kernel
theorem d_Mod_literal_141 : decode b_Mod_literal 141 = .ok (.if_icmp .ne 7, 3) := by decide +kernel
theorem d_Mod_literal_144 : decode b_Mod_literal 144 = .ok (.iconst 1, 1) := by decide +kernel
theorem d_Mod_literal_145 : decode b_Mod_literal 145 = .ok (.goto 4, 3) := by decide +kernel
theorem d_Mod_literal_148 : decode b_Mod_literal 148 = .ok (.iconst 0, 1) := by decide +kernel
theorem d_Mod_literal_149 : decode b_Mod_literal 149 = .ok (.istore 10, 2) := by decide +kernel
theorem d_Mod_literal_151 : decode b_Mod_literal 151 = .ok (.iload 10, 2) := by decide +kernel
theorem d_Mod_literal_153 : decode b_Mod_literal 153 = .ok (.ifCond .ne 16, 3) := by decide +kernel
theorem d_Mod_literal_156 : decode b_Mod_literal 156 = .ok (.aload_n 0, 1) := by decide +kernel
theorem d_Mod_literal_157 : decode b_Mod_literal 157 = .ok (.aload_n 0, 1) := by decide +kernel
theorem d_Mod_literal_158 : decode b_Mod_literal 158 = .ok (.getfield 81, 3) := by decide +kernel
theorem d_Mod_literal_161 : decode b_Mod_literal 161 = .ok (.invokevirtual 84, 3) := by decide +kernel
theorem d_Mod_literal_164 : decode b_Mod_literal 164 = .ok (.bipush 43, 2) := by decide +kernel
theorem d_Mod_literal_166 : decode b_Mod_literal 166 = .ok (.if_icmp .ne 13, 3) := by decide +kernel
theorem d_Mod_literal_169 : decode b_Mod_literal 169 = .ok (.aload_n 0, 1) := by decide +kernel
theorem d_Mod_literal_170 : decode b_Mod_literal 170 = .ok (.dup, 1) := by decide +kernel
theorem d_Mod_literal_171 : decode b_Mod_literal 171 = .ok (.getfield 81, 3) := by decide +kernel
theorem d_Mod_literal_174 : decode b_Mod_literal 174 = .ok (.iconst 1, 1) := by decide +kernel
theorem d_Mod_literal_175 : decode b_Mod_literal 175 = .ok (.iadd, 1) := by decide +kernel
theorem d_Mod_literal_176 : decode b_Mod_literal 176 = .ok (.putfield 81, 3) := by decide +kernel
theorem d_Mod_literal_179 : decode b_Mod_literal 179 = .ok (.aload_n 0, 1) := by decide +kernel
theorem d_Mod_literal_180 : decode b_Mod_literal 180 = .ok (.aload_n 0, 1) := by decide +kernel
theorem d_Mod_literal_181 : decode b_Mod_literal 181 = .ok (.getfield 81, 3) := by decide +kernel
theorem d_Mod_literal_184 : decode b_Mod_literal 184 = .ok (.bipush 10, 2) := by decide +kernel
theorem d_Mod_literal_186 : decode b_Mod_literal 186 = .ok (.invokevirtual 116, 3) := by decide +kernel
theorem d_Mod_literal_189 : decode b_Mod_literal 189 = .ok (.istore 11, 2) := by decide +kernel
theorem d_Mod_literal_191 : decode b_Mod_literal 191 = .ok (.iload 11, 2) := by decide +kernel
theorem d_Mod_literal_193 : decode b_Mod_literal 193 = .ok (.ifCond .ne 7, 3) := by decide +kernel
theorem d_Mod_literal_196 : decode b_Mod_literal 196 = .ok (.ldc2_w 123, 3) := by decide +kernel
theorem d_Mod_literal_199 : decode b_Mod_literal 199 = .ok (.lreturn, 1) := by decide +kernel
theorem d_Mod_literal_200 : decode b_Mod_literal 200 = .ok (.iconst 0, 1) := by decide +kernel
theorem d_Mod_literal_201 : decode b_Mod_literal 201 = .ok (.istore 12, 2) := by decide +kernel
theorem d_Mod_literal_203 : decode b_Mod_literal 203 = .ok (.iload 12, 2) := by decide +kernel
theorem d_Mod_literal_205 : decode b_Mod_literal 205 = .ok (.iload 11, 2) := by decide +kernel
theorem d_Mod_literal_207 : decode b_Mod_literal 207 = .ok (.if_icmp .ge 53, 3) := by decide +kernel
theorem d_Mod_literal_210 : decode b_Mod_literal 210 = .ok (.ldc2_w 125, 3) := by decide +kernel
theorem d_Mod_literal_213 : decode b_Mod_literal 213 = .ok (.lload 7, 2) := by decide +kernel
theorem d_Mod_literal_215 : decode b_Mod_literal 215 = .ok (.lmul, 1) := by decide +kernel
theorem d_Mod_literal_216 : decode b_Mod_literal 216 = .ok (.aload_n 0, 1) := by decide +kernel
theorem d_Mod_literal_217 : decode b_Mod_literal 217 = .ok (.aload_n 0, 1) := by decide +kernel
theorem d_Mod_literal_218 : decode b_Mod_literal 218 = .ok (.getfield 81, 3) := by decide +kernel
theorem d_Mod_literal_221 : decode b_Mod_literal 221 = .ok (.iload 12, 2) := by decide +kernel
theorem d_Mod_literal_223 : decode b_Mod_literal 223 = .ok (.iadd, 1) := by decide +kernel
theorem d_Mod_literal_224 : decode b_Mod_literal 224 = .ok (.invokevirtual 84, 3) := by decide +kernel
theorem d_Mod_literal_227 : decode b_Mod_literal 227 = .ok (.i2l, 1) := by decide +kernel
theorem d_Mod_literal_228 : decode b_Mod_literal 228 = .ok (.ladd, 1) := by decide +kernel
theorem d_Mod_literal_229 : decode b_Mod_literal 229 = .ok (.ldc2_w 127, 3) := by decide +kernel
theorem d_Mod_literal_232 : decode b_Mod_literal 232 = .ok (.lsub, 1) := by decide +kernel
theorem d_Mod_literal_233 : decode b_Mod_literal 233 = .ok (.lstore 7, 2) := by decide +kernel
theorem d_Mod_literal_235 : decode b_Mod_literal 235 = .ok (.lload 7, 2) := by decide +kernel
theorem d_Mod_literal_237 : decode b_Mod_literal 237 = .ok (.ldc2_w 129, 3) := by decide +kernel
theorem d_Mod_literal_240 : decode b_Mod_literal 240 = .ok (.lcmp, 1) := by decide +kernel
theorem d_Mod_literal_241 : decode b_Mod_literal 241 = .ok (.ifCond .le 9, 3) := by decide +kernel
theorem d_Mod_literal_244 : decode b_Mod_literal 244 = .ok (.ldc2_w 129, 3) := by decide +kernel
theorem d_Mod_literal_247 : decode b_Mod_literal 247 = .ok (.goto 5, 3) := by decide +kernel
theorem d_Mod_literal_250 : decode b_Mod_literal 250 = .ok (.lload 7, 2) := by decide +kernel
theorem d_Mod_literal_252 : decode b_Mod_literal 252 = .ok (.lstore 7, 2) := by decide +kernel
theorem d_Mod_literal_254 : decode b_Mod_literal 254 = .ok (.iinc 12 1, 3) := by decide +kernel
theorem d_Mod_literal_257 : decode b_Mod_literal 257 = .ok (.goto (-54), 3) := by decide +kernel
theorem d_Mod_literal_260 : decode b_Mod_literal 260 = .ok (.aload_n 0, 1) := by decide +kernel
theorem d_Mod_literal_261 : decode b_Mod_literal 261 = .ok (.dup, 1) := by decide +kernel
theorem d_Mod_literal_262 : decode b_Mod_literal 262 = .ok (.getfield 81, 3) := by decide +kernel
theorem d_Mod_literal_265 : decode b_Mod_literal 265 = .ok (.iload 11, 2) := by decide +kernel
theorem d_Mod_literal_267 : decode b_Mod_literal 267 = .ok (.iadd, 1) := by decide +kernel
theorem d_Mod_literal_268 : decode b_Mod_literal 268 = .ok (.putfield 81, 3) := by decide +kernel
theorem d_Mod_literal_271 : decode b_Mod_literal 271 = .ok (.iload 10, 2) := by decide +kernel
theorem d_Mod_literal_273 : decode b_Mod_literal 273 = .ok (.ifCond .eq 9, 3) := by decide +kernel
theorem d_Mod_literal_276 : decode b_Mod_literal 276 = .ok (.lload 7, 2) := by decide +kernel
theorem d_Mod_literal_278 : decode b_Mod_literal 278 = .ok (.lneg, 1) := by decide +kernel
theorem d_Mod_literal_279 : decode b_Mod_literal 279 = .ok (.goto 5, 3) := by decide +kernel
theorem d_Mod_literal_282 : decode b_Mod_literal 282 = .ok (.lload 7, 2) := by decide +kernel
theorem d_Mod_literal_284 : decode b_Mod_literal 284 = .ok (.lstore 7, 2) := by decide +kernel
theorem d_Mod_literal_286 : decode b_Mod_literal 286 = .ok (.aload_n 0, 1) := by decide +kernel
theorem d_Mod_literal_287 : decode b_Mod_literal 287 = .ok (.bipush 102, 2) := by decide +kernel
theorem d_Mod_literal_289 : decode b_Mod_literal 289 = .ok (.bipush 70, 2) := by decide +kernel
theorem d_Mod_literal_291 : decode b_Mod_literal 291 = .ok (.invokevirtual 119, 3) := by decide +kernel
theorem d_Mod_literal_294 : decode b_Mod_literal 294 = .ok (.ifCond .ne 14, 3) := by decide +kernel
theorem d_Mod_literal_297 : decode b_Mod_literal 297 = .ok (.aload_n 0, 1) := by decide +kernel
theorem d_Mod_literal_298 : decode b_Mod_literal 298 = .ok (.bipush 100, 2) := by decide +kernel
theorem d_Mod_literal_300 : decode b_Mod_literal 300 = .ok (.bipush 68, 2) := by decide +kernel
theorem d_Mod_literal_302 : decode b_Mod_literal 302 = .ok (.invokevirtual 119, 3) := by decide +kernel
theorem d_Mod_literal_305 : decode b_Mod_literal 305 = .ok (.ifCond .eq 7, 3) := by decide +kernel
theorem d_Mod_literal_308 : decode b_Mod_literal 308 = .ok (.iconst 1, 1) := by decide +kernel
theorem d_Mod_literal_309 : decode b_Mod_literal 309 = .ok (.goto 4, 3) := by decide +kernel
theorem d_Mod_literal_312 : decode b_Mod_literal 312 = .ok (.iconst 0, 1) := by decide +kernel
theorem d_Mod_literal_313 : decode b_Mod_literal 313 = .ok (.istore 10, 2) := by decide +kernel
theorem d_Mod_literal_315 : decode b_Mod_literal 315 = .ok (.aload_n 0, 1) := by decide +kernel
theorem d_Mod_literal_316 : decode b_Mod_literal 316 = .ok (.getfield 81, 3) := by decide +kernel
theorem d_Mod_literal_319 : decode b_Mod_literal 319 = .ok (.aload_n 0, 1) := by decide +kernel
theorem d_Mod_literal_320 : decode b_Mod_literal 320 = .ok (.getfield 78, 3) := by decide +kernel
theorem d_Mod_literal_323 : decode b_Mod_literal 323 = .ok (.if_icmp .eq 7, 3) := by decide +kernel
theorem d_Mod_literal_326 : decode b_Mod_literal 326 = .ok (.ldc2_w 123, 3) := by decide +kernel
theorem d_Mod_literal_329 : decode b_Mod_literal 329 = .ok (.lreturn, 1) := by decide +kernel
theorem d_Mod_literal_330 : decode b_Mod_literal 330 = .ok (.iload_n 1, 1) := by decide +kernel
theorem d_Mod_literal_331 : decode b_Mod_literal 331 = .ok (.bipush 16, 2) := by decide +kernel
theorem d_Mod_literal_333 : decode b_Mod_literal 333 = .ok (.if_icmp .ne 18, 3) := by decide +kernel
theorem d_Mod_literal_336 : decode b_Mod_literal 336 = .ok (.aload_n 0, 1) := by decide +kernel
theorem d_Mod_literal_337 : decode b_Mod_literal 337 = .ok (.iload_n 3, 1) := by decide +kernel
theorem d_Mod_literal_338 : decode b_Mod_literal 338 = .ok (.iload 5, 2) := by decide +kernel
theorem d_Mod_literal_340 : decode b_Mod_literal 340 = .ok (.iload 6, 2) := by decide +kernel
theorem d_Mod_literal_342 : decode b_Mod_literal 342 = .ok (.lload 7, 2) := by decide +kernel
theorem d_Mod_literal_344 : decode b_Mod_literal 344 = .ok (.iload_n 2, 1) := by decide +kernel
theorem d_Mod_literal_345 : decode b_Mod_literal 345 = .ok (.invokevirtual 131, 3) := by decide +kernel
theorem d_Mod_literal_348 : decode b_Mod_literal 348 = .ok (.goto 15, 3) := by decide +kernel
theorem d_Mod_literal_351 : decode b_Mod_literal 351 = .ok (.aload_n 0, 1) := by decide +kernel
theorem d_Mod_literal_352 : decode b_Mod_literal 352 = .ok (.iload_n 3, 1) := by decide +kernel
theorem d_Mod_literal_353 : decode b_Mod_literal 353 = .ok (.iload 5, 2) := by decide +kernel
theorem d_Mod_literal_355 : decode b_Mod_literal 355 = .ok (.iload 6, 2) := by decide +kernel
theorem d_Mod_literal_357 : decode b_Mod_literal 357 = .ok (.lload 7, 2) := by decide +kernel
theorem d_Mod_literal_359 : decode b_Mod_literal 359 = .ok (.iload_n 2, 1) := by decide +kernel
theorem d_Mod_literal_360 : decode b_Mod_literal 360 = .ok (.invokevirtual 135, 3) := by decide +kernel
theorem d_Mod_literal_363 : decode b_Mod_literal 363 = .ok (.lreturn, 1) := by decide +kernel
theorem d_Mod_read_0 : decode b_Mod_read 0 = .ok (.aload_n 0, 1) := by decide +kernel
theorem d_Mod_read_1 : decode b_Mod_read 1 = .ok (.iconst 0, 1) := by decide +kernel
theorem d_Mod_read_2 : decode b_Mod_read 2 = .ok (.putfield 81, 3) := by decide +kernel
theorem d_Mod_read_5 : decode b_Mod_read 5 = .ok (.aload_n 0, 1) := by decide +kernel
theorem d_Mod_read_6 : decode b_Mod_read 6 = .ok (.aload_n 0, 1) := by decide +kernel
theorem d_Mod_read_7 : decode b_Mod_read 7 = .ok (.getfield 74, 3) := by decide +kernel
theorem d_Mod_read_10 : decode b_Mod_read 10 = .ok (.putfield 78, 3) := by decide +kernel
theorem d_Mod_read_13 : decode b_Mod_read 13 = .ok (.aload_n 0, 1) := by decide +kernel
theorem d_Mod_read_14 : decode b_Mod_read 14 = .ok (.getfield 81, 3) := by decide +kernel
theorem d_Mod_read_17 : decode b_Mod_read 17 = .ok (.aload_n 0, 1) := by decide +kernel
theorem d_Mod_read_18 : decode b_Mod_read 18 = .ok (.getfield 78, 3) := by decide +kernel
theorem d_Mod_read_21 : decode b_Mod_read 21 = .ok (.if_icmp .ge 30, 3) := by decide +kernel
theorem d_Mod_read_24 : decode b_Mod_read 24 = .ok (.aload_n 0, 1) := by decide +kernel
theorem d_Mod_read_25 : decode b_Mod_read 25 = .ok (.getfield 7, 3) := by decide +kernel
theorem d_Mod_read_28 : decode b_Mod_read 28 = .ok (.aload_n 0, 1) := by decide +kernel
theorem d_Mod_read_29 : decode b_Mod_read 29 = .ok (.getfield 81, 3) := by decide +kernel
theorem d_Mod_read_32 : decode b_Mod_read 32 = .ok (.iaload, 1) := by decide +kernel
theorem d_Mod_read_33 : decode b_Mod_read 33 = .ok (.bipush 32, 2) := by decide +kernel
theorem d_Mod_read_35 : decode b_Mod_read 35 = .ok (.if_icmp .gt 16, 3) := by decide +kernel
theorem d_Mod_read_38 : decode b_Mod_read 38 = .ok (.aload_n 0, 1) := by decide +kernel
theorem d_Mod_read_39 : decode b_Mod_read 39 = .ok (.dup, 1) := by decide +kernel
theorem d_Mod_read_40 : decode b_Mod_read 40 = .ok (.getfield 81, 3) := by decide +kernel
theorem d_Mod_read_43 : decode b_Mod_read 43 = .ok (.iconst 1, 1) := by decide +kernel
theorem d_Mod_read_44 : decode b_Mod_read 44 = .ok (.iadd, 1) := by decide +kernel
theorem d_Mod_read_45 : decode b_Mod_read 45 = .ok (.putfield 81, 3) := by decide +kernel
theorem d_Mod_read_48 : decode b_Mod_read 48 = .ok (.goto (-35), 3) := by decide +kernel
theorem d_Mod_read_51 : decode b_Mod_read 51 = .ok (.aload_n 0, 1) := by decide +kernel
theorem d_Mod_read_52 : decode b_Mod_read 52 = .ok (.getfield 78, 3) := by decide +kernel
theorem d_Mod_read_55 : decode b_Mod_read 55 = .ok (.aload_n 0, 1) := by decide +kernel
theorem d_Mod_read_56 : decode b_Mod_read 56 = .ok (.getfield 81, 3) := by decide +kernel
theorem d_Mod_read_59 : decode b_Mod_read 59 = .ok (.if_icmp .le 32, 3) := by decide +kernel
theorem d_Mod_read_62 : decode b_Mod_read 62 = .ok (.aload_n 0, 1) := by decide +kernel
theorem d_Mod_read_63 : decode b_Mod_read 63 = .ok (.getfield 7, 3) := by decide +kernel
theorem d_Mod_read_66 : decode b_Mod_read 66 = .ok (.aload_n 0, 1) := by decide +kernel
theorem d_Mod_read_67 : decode b_Mod_read 67 = .ok (.getfield 78, 3) := by decide +kernel
theorem d_Mod_read_70 : decode b_Mod_read 70 = .ok (.iconst 1, 1) := by decide +kernel
theorem d_Mod_read_71 : decode b_Mod_read 71 = .ok (.isub, 1) := by decide +kernel
theorem d_Mod_read_72 : decode b_Mod_read 72 = .ok (.iaload, 1) := by decide +kernel
theorem d_Mod_read_73 : decode b_Mod_read 73 = .ok (.bipush 32, 2) := by decide +kernel
theorem d_Mod_read_75 : decode b_Mod_read 75 = .ok (.if_icmp .gt 16, 3) := by decide +kernel
theorem d_Mod_read_78 : decode b_Mod_read 78 = .ok (.aload_n 0, 1) := by decide +kernel
theorem d_Mod_read_79 : decode b_Mod_read 79 = .ok (.dup, 1) := by decide +kernel
theorem d_Mod_read_80 : decode b_Mod_read 80 = .ok (.getfield 78, 3) := by decide +kernel
theorem d_Mod_read_83 : decode b_Mod_read 83 = .ok (.iconst 1, 1) := by decide +kernel
theorem d_Mod_read_84 : decode b_Mod_read 84 = .ok (.isub, 1) := by decide +kernel
theorem d_Mod_read_85 : decode b_Mod_read 85 = .ok (.putfield 78, 3) := by decide +kernel
theorem d_Mod_read_88 : decode b_Mod_read 88 = .ok (.goto (-37), 3) := by decide +kernel
theorem d_Mod_read_91 : decode b_Mod_read 91 = .ok (.aload_n 0, 1) := by decide +kernel
theorem d_Mod_read_92 : decode b_Mod_read 92 = .ok (.aload_n 0, 1) := by decide +kernel
theorem d_Mod_read_93 : decode b_Mod_read 93 = .ok (.getfield 81, 3) := by decide +kernel
theorem d_Mod_read_96 : decode b_Mod_read 96 = .ok (.invokevirtual 84, 3) := by decide +kernel
theorem d_Mod_read_99 : decode b_Mod_read 99 = .ok (.bipush 45, 2) := by decide +kernel
theorem d_Mod_read_101 : decode b_Mod_read 101 = .ok (.if_icmp .ne 7, 3) := by decide +kernel
theorem d_Mod_read_104 : decode b_Mod_read 104 = .ok (.iconst 1, 1) := by decide +kernel
theorem d_Mod_read_105 : decode b_Mod_read 105 = .ok (.goto 4, 3) := by decide +kernel
theorem d_Mod_read_108 : decode b_Mod_read 108 = .ok (.iconst 0, 1) := by decide +kernel
theorem d_Mod_read_109 : decode b_Mod_read 109 = .ok (.istore_n 2, 1) := by decide +kernel
theorem d_Mod_read_110 : decode b_Mod_read 110 = .ok (.iload_n 2, 1) := by decide +kernel
theorem d_Mod_read_111 : decode b_Mod_read 111 = .ok (.ifCond .ne 16, 3) := by decide +kernel
theorem d_Mod_read_114 : decode b_Mod_read 114 = .ok (.aload_n 0, 1) := by decide +kernel
theorem d_Mod_read_115 : decode b_Mod_read 115 = .ok (.aload_n 0, 1) := by decide +kernel
theorem d_Mod_read_116 : decode b_Mod_read 116 = .ok (.getfield 81, 3) := by decide +kernel
theorem d_Mod_read_119 : decode b_Mod_read 119 = .ok (.invokevirtual 84, 3) := by decide +kernel
theorem d_Mod_read_122 : decode b_Mod_read 122 = .ok (.bipush 43, 2) := by decide +kernel
theorem d_Mod_read_124 : decode b_Mod_read 124 = .ok (.if_icmp .ne 13, 3) := by decide +kernel
theorem d_Mod_read_127 : decode b_Mod_read 127 = .ok (.aload_n 0, 1) := by decide +kernel
theorem d_Mod_read_128 : decode b_Mod_read 128 = .ok (.dup, 1) := by decide +kernel
theorem d_Mod_read_129 : decode b_Mod_read 129 = .ok (.getfield 81, 3) := by decide +kernel
theorem d_Mod_read_132 : decode b_Mod_read 132 = .ok (.iconst 1, 1) := by decide +kernel
theorem d_Mod_read_133 : decode b_Mod_read 133 = .ok (.iadd, 1) := by decide +kernel
theorem d_Mod_read_134 : decode b_Mod_read 134 = .ok (.putfield 81, 3) := by decide +kernel
theorem d_Mod_read_137 : decode b_Mod_read 137 = .ok (.lconst 0, 1) := by decide +kernel
theorem d_Mod_read_138 : decode b_Mod_read 138 = .ok (.lstore_n 3, 1) := by decide +kernel
theorem d_Mod_read_139 : decode b_Mod_read 139 = .ok (.aload_n 0, 1) := by decide +kernel
theorem d_Mod_read_140 : decode b_Mod_read 140 = .ok (.bipush 78, 2) := by decide +kernel
theorem d_Mod_read_142 : decode b_Mod_read 142 = .ok (.bipush 97, 2) := by decide +kernel
theorem d_Mod_read_144 : decode b_Mod_read 144 = .ok (.bipush 78, 2) := by decide +kernel
theorem d_Mod_read_146 : decode b_Mod_read 146 = .ok (.iconst 3, 1) := by decide +kernel
theorem d_Mod_read_147 : decode b_Mod_read 147 = .ok (.invokevirtual 90, 3) := by decide +kernel
theorem d_Mod_read_150 : decode b_Mod_read 150 = .ok (.ifCond .eq 23, 3) := by decide +kernel
theorem d_Mod_read_153 : decode b_Mod_read 153 = .ok (.aload_n 0, 1) := by decide +kernel
theorem d_Mod_read_154 : decode b_Mod_read 154 = .ok (.iload_n 1, 1) := by decide +kernel
theorem d_Mod_read_155 : decode b_Mod_read 155 = .ok (.invokestatic 94, 3) := by decide +kernel
theorem d_Mod_read_158 : decode b_Mod_read 158 = .ok (.putfield 97, 3) := by decide +kernel
theorem d_Mod_read_161 : decode b_Mod_read 161 = .ok (.aload_n 0, 1) := by decide +kernel
theorem d_Mod_read_162 : decode b_Mod_read 162 = .ok (.dup, 1) := by decide +kernel
theorem d_Mod_read_163 : decode b_Mod_read 163 = .ok (.getfield 101, 3) := by decide +kernel
theorem d_Mod_read_166 : decode b_Mod_read 166 = .ok (.iconst 1, 1) := by decide +kernel
theorem d_Mod_read_167 : decode b_Mod_read 167 = .ok (.iadd, 1) := by decide +kernel
theorem d_Mod_read_168 : decode b_Mod_read 168 = .ok (.putfield 101, 3) := by decide +kernel
theorem d_Mod_read_171 : decode b_Mod_read 171 = .ok (.iconst 1, 1) := by decide +kernel
theorem d_Mod_read_172 : decode b_Mod_read 172 = .ok (.ireturn, 1) := by decide +kernel
theorem d_Mod_read_173 : decode b_Mod_read 173 = .ok (.aload_n 0, 1) := by decide +kernel
theorem d_Mod_read_174 : decode b_Mod_read 174 = .ok (.invokevirtual 104, 3) := by decide +kernel
theorem d_Mod_read_177 : decode b_Mod_read 177 = .ok (.ifCond .eq 11, 3) := by decide +kernel
theorem d_Mod_read_180 : decode b_Mod_read 180 = .ok (.iload_n 1, 1) := by decide +kernel
theorem d_Mod_read_181 : decode b_Mod_read 181 = .ok (.invokestatic 46, 3) := by decide +kernel
theorem d_Mod_read_184 : decode b_Mod_read 184 = .ok (.lstore_n 3, 1) := by decide +kernel
theorem d_Mod_read_185 : decode b_Mod_read 185 = .ok (.goto 94, 3) := by decide +kernel
theorem d_Mod_read_188 : decode b_Mod_read 188 = .ok (.aload_n 0, 1) := by decide +kernel
theorem d_Mod_read_189 : decode b_Mod_read 189 = .ok (.aload_n 0, 1) := by decide +kernel
theorem d_Mod_read_190 : decode b_Mod_read 190 = .ok (.getfield 81, 3) := by decide +kernel
theorem d_Mod_read_193 : decode b_Mod_read 193 = .ok (.invokevirtual 84, 3) := by decide +kernel
theorem d_Mod_read_196 : decode b_Mod_read 196 = .ok (.bipush 48, 2) := by decide +kernel
theorem d_Mod_read_198 : decode b_Mod_read 198 = .ok (.if_icmp .ne 37, 3) := by decide +kernel
theorem d_Mod_read_201 : decode b_Mod_read 201 = .ok (.aload_n 0, 1) := by decide +kernel
theorem d_Mod_read_202 : decode b_Mod_read 202 = .ok (.aload_n 0, 1) := by decide +kernel
theorem d_Mod_read_203 : decode b_Mod_read 203 = .ok (.getfield 81, 3) := by decide +kernel
theorem d_Mod_read_206 : decode b_Mod_read 206 = .ok (.iconst 1, 1) := by decide +kernel
theorem d_Mod_read_207 : decode b_Mod_read 207 = .ok (.iadd, 1) := by decide +kernel
theorem d_Mod_read_208 : decode b_Mod_read 208 = .ok (.invokevirtual 84, 3) := by decide +kernel
theorem d_Mod_read_211 : decode b_Mod_read 211 = .ok (.bipush 120, 2) := by decide +kernel
theorem d_Mod_read_213 : decode b_Mod_read 213 = .ok (.if_icmp .eq 18, 3) := by decide +kernel
theorem d_Mod_read_216 : decode b_Mod_read 216 = .ok (.aload_n 0, 1) := by decide +kernel
theorem d_Mod_read_217 : decode b_Mod_read 217 = .ok (.aload_n 0, 1) := by decide +kernel
theorem d_Mod_read_218 : decode b_Mod_read 218 = .ok (.getfield 81, 3) := by decide +kernel
theorem d_Mod_read_221 : decode b_Mod_read 221 = .ok (.iconst 1, 1) := by decide +kernel
theorem d_Mod_read_222 : decode b_Mod_read 222 = .ok (.iadd, 1) := by decide +kernel
theorem d_Mod_read_223 : decode b_Mod_read 223 = .ok (.invokevirtual 84, 3) := by decide +kernel
theorem d_Mod_read_226 : decode b_Mod_read 226 = .ok (.bipush 88, 2) := by decide +kernel
theorem d_Mod_read_228 : decode b_Mod_read 228 = .ok (.if_icmp .ne 7, 3) := by decide +kernel
theorem d_Mod_read_231 : decode b_Mod_read 231 = .ok (.iconst 1, 1) := by decide +kernel
theorem d_Mod_read_232 : decode b_Mod_read 232 = .ok (.goto 4, 3) := by decide +kernel
theorem d_Mod_read_235 : decode b_Mod_read 235 = .ok (.iconst 0, 1) := by decide +kernel
theorem d_Mod_read_236 : decode b_Mod_read 236 = .ok (.istore 5, 2) := by decide +kernel
theorem d_Mod_read_238 : decode b_Mod_read 238 = .ok (.iload 5, 2) := by decide +kernel
theorem d_Mod_read_240 : decode b_Mod_read 240 = .ok (.ifCond .eq 13, 3) := by decide +kernel
theorem d_Mod_read_243 : decode b_Mod_read 243 = .ok (.aload_n 0, 1) := by decide +kernel
theorem d_Mod_read_244 : decode b_Mod_read 244 = .ok (.dup, 1) := by decide +kernel
theorem d_Mod_read_245 : decode b_Mod_read 245 = .ok (.getfield 81, 3) := by decide +kernel
theorem d_Mod_read_248 : decode b_Mod_read 248 = .ok (.iconst 2, 1) := by decide +kernel
theorem d_Mod_read_249 : decode b_Mod_read 249 = .ok (.iadd, 1) := by decide +kernel
theorem d_Mod_read_250 : decode b_Mod_read 250 = .ok (.putfield 81, 3) := by decide +kernel
theorem d_Mod_read_253 : decode b_Mod_read 253 = .ok (.aload_n 0, 1) := by decide +kernel
theorem d_Mod_read_254 : decode b_Mod_read 254 = .ok (.iload 5, 2) := by decide +kernel
theorem d_Mod_read_256 : decode b_Mod_read 256 = .ok (.ifCond .eq 8, 3) := by decide +kernel
theorem d_Mod_read_259 : decode b_Mod_read 259 = .ok (.bipush 16, 2) := by decide +kernel
theorem d_Mod_read_261 : decode b_Mod_read 261 = .ok (.goto 5, 3) := by decide +kernel
theorem d_Mod_read_264 : decode b_Mod_read 264 = .ok (.bipush 10, 2) := by decide +kernel
theorem d_Mod_read_266 : decode b_Mod_read 266 = .ok (.iload_n 1, 1) := by decide +kernel
theorem d_Mod_read_267 : decode b_Mod_read 267 = .ok (.invokevirtual 108, 3) := by decide +kernel
theorem d_Mod_read_270 : decode b_Mod_read 270 = .ok (.lstore_n 3, 1) := by decide +kernel
theorem d_Mod_read_271 : decode b_Mod_read 271 = .ok (.lload_n 3, 1) := by decide +kernel
theorem d_Mod_read_272 : decode b_Mod_read 272 = .ok (.lconst 0, 1) := by decide +kernel
theorem d_Mod_read_273 : decode b_Mod_read 273 = .ok (.lcmp, 1) := by decide +kernel
theorem d_Mod_read_274 : decode b_Mod_read 274 = .ok (.ifCond .ge 5, 3) := by decide +kernel
theorem d_Mod_read_277 : decode b_Mod_read 277 = .ok (.iconst 0, 1) := by decide +kernel
theorem d_Mod_read_278 : decode b_Mod_read 278 = .ok (.ireturn, 1) := by decide +kernel
theorem d_Mod_read_279 : decode b_Mod_read 279 = .ok (.aload_n 0, 1) := by decide +kernel
theorem d_Mod_read_280 : decode b_Mod_read 280 = .ok (.lload_n 3, 1) := by decide +kernel
theorem d_Mod_read_281 : decode b_Mod_read 281 = .ok (.iload_n 2, 1) := by decide +kernel
theorem d_Mod_read_282 : decode b_Mod_read 282 = .ok (.iload_n 1, 1) := by decide +kernel
theorem d_Mod_read_283 : decode b_Mod_read 283 = .ok (.invokestatic 112, 3) := by decide +kernel
theorem d_Mod_read_286 : decode b_Mod_read 286 = .ok (.putfield 97, 3) := by decide +kernel
theorem d_Mod_read_289 : decode b_Mod_read 289 = .ok (.aload_n 0, 1) := by decide +kernel
theorem d_Mod_read_290 : decode b_Mod_read 290 = .ok (.dup, 1) := by decide +kernel
theorem d_Mod_read_291 : decode b_Mod_read 291 = .ok (.getfield 101, 3) := by decide +kernel
theorem d_Mod_read_294 : decode b_Mod_read 294 = .ok (.iconst 1, 1) := by decide +kernel
theorem d_Mod_read_295 : decode b_Mod_read 295 = .ok (.iadd, 1) := by decide +kernel
theorem d_Mod_read_296 : decode b_Mod_read 296 = .ok (.putfield 101, 3) := by decide +kernel
theorem d_Mod_read_299 : decode b_Mod_read 299 = .ok (.iconst 1, 1) := by decide +kernel
theorem d_Mod_read_300 : decode b_Mod_read 300 = .ok (.ireturn, 1) := by decide +kernel
theorem d_Mod_wide_0 : decode b_Mod_wide 0 = .ok (.aload_n 0, 1) := by decide +kernel
theorem d_Mod_wide_1 : decode b_Mod_wide 1 = .ok (.iconst 1, 1) := by decide +kernel
theorem d_Mod_wide_2 : decode b_Mod_wide 2 = .ok (.invokevirtual 159, 3) := by decide +kernel
theorem d_Mod_wide_5 : decode b_Mod_wide 5 = .ok (.ireturn, 1) := by decide +kernel
theorem d_Mod_narrow_0 : decode b_Mod_narrow 0 = .ok (.aload_n 0, 1) := by decide +kernel
theorem d_Mod_narrow_1 : decode b_Mod_narrow 1 = .ok (.iconst 0, 1) := by decide +kernel
theorem d_Mod_narrow_2 : decode b_Mod_narrow 2 = .ok (.invokevirtual 159, 3) := by decide +kernel
theorem d_Mod_narrow_5 : decode b_Mod_narrow 5 = .ok (.ireturn, 1) := by decide +kernel
theorem d_Mod_init_0 : decode b_Mod_init 0 = .ok (.aload_n 0, 1) := by decide +kernel
theorem d_Mod_init_1 : decode b_Mod_init 1 = .ok (.invokespecial 1, 3) := by decide +kernel
theorem d_Mod_init_4 : decode b_Mod_init 4 = .ok (.aload_n 0, 1) := by decide +kernel
theorem d_Mod_init_5 : decode b_Mod_init 5 = .ok (.sipush 2400, 3) := by decide +kernel
theorem d_Mod_init_8 : decode b_Mod_init 8 = .ok (.newarray .int, 2) := by decide +kernel
theorem d_Mod_init_10 : decode b_Mod_init 10 = .ok (.putfield 7, 3) := by decide +kernel
theorem d_Mod_init_13 : decode b_Mod_init 13 = .ok (.aload_n 0, 1) := by decide +kernel
theorem d_Mod_init_14 : decode b_Mod_init 14 = .ok (.sipush 3000, 3) := by decide +kernel
theorem d_Mod_init_17 : decode b_Mod_init 17 = .ok (.newarray .int, 2) := by decide +kernel
theorem d_Mod_init_19 : decode b_Mod_init 19 = .ok (.putfield 13, 3) := by decide +kernel
theorem d_Mod_init_22 : decode b_Mod_init 22 = .ok (.aload_n 0, 1) := by decide +kernel
theorem d_Mod_init_23 : decode b_Mod_init 23 = .ok (.iconst 3, 1) := by decide +kernel
theorem d_Mod_init_24 : decode b_Mod_init 24 = .ok (.newarray .int, 2) := by decide +kernel
theorem d_Mod_init_26 : decode b_Mod_init 26 = .ok (.putfield 16, 3) := by decide +kernel
theorem d_Mod_init_29 : decode b_Mod_init 29 = .ok (.return_, 1) := by decide +kernel
set_option maxHeartbeats 4000000 in
set_option maxRecDepth 100000 in
theorem c_Mod_literal (l : Launch) (D : va_G) (E : evD) (md xx mm nn : Nat) (cM cN cX : ClassId) (V : Nat → Nat) (ln rd : Int32) (R : Int64) (T : Nat → Nat) (hT : ∀ j, T j < 256) (e : Nat) (he : e ≤ 2400) (hV : okV V) (i : Nat) (hi : i < 2) (wd : Int32) (hwd : knd wd = i) (hx1 : Bool) (a : Nat) (hae : a ≤ e) : Cl (S := (Int32 × (Nat → Nat))) l y_Mod_literal (wz y_Mod_literal b_Mod_literal 13 (some .long)) ({ frames := 5, cells := 0, slots := 0, locals := 147 }) D vcl (ev1 E) [.ref md, .int (nI (bas hx1)), .int wd] [(cM, .int), (cN, .int), (cX, .int)] [(md, .inr (5, [.ref xx, .int ln, .long R, .int rd, .ref mm, .ref nn, .int (nI a), .int (nI e)])), (mm, .inl (cM, 3000, .inl (rw16 V))), (nn, .inl (cN, 3, .inl (rc V))), (xx, .inl (cX, 2400, .inl (tx T)))] 0 0 (fun (w : Int64) (u : (Int32 × (Nat → Nat))) => (oL hx1 T e a = true → w = lN (vL 100000000 i hx1 T e a)) ∧ (oL hx1 T e a = false → w = -1) ∧ okV u.2) (fun _ => [(cM, .int), (cN, .int), (cX, .int)]) (fun u : (Int32 × (Nat → Nat)) => [(md, .inr (5, [.ref xx, .int ln, .long R, .int rd, .ref mm, .ref nn, .int u.1, .int (nI e)])), (mm, .inl (cM, 3000, .inl (rw16 u.2))), (nn, .inl (cN, 3, .inl (rc u.2))), (xx, .inl (cX, 2400, .inl (tx T)))]) := by
  have hev := ev1_ok E
  unfold Cl
  refine ct_of (y := y_Mod_literal) (av := [.ref md, .int (nI (bas hx1)), .int wd]) (cc := b_Mod_literal) (maxL := 13) (ret := (some .long)) (Qc := fun A => va_Ql (S := (Int32 × (Nat → Nat))) (fun (w : Int64) (u : (Int32 × (Nat → Nat))) => (oL hx1 T e a = true → w = lN (vL 100000000 i hx1 T e a)) ∧ (oL hx1 T e a = false → w = -1) ∧ okV u.2) (fun u tS => ctB D vcl ((fun _ => [(cM, .int), (cN, .int), (cX, .int)]) u) ((fun u : (Int32 × (Nat → Nat)) => [(md, .inr (5, [.ref xx, .int ln, .long R, .int rd, .ref mm, .ref nn, .int u.1, .int (nI e)])), (mm, .inl (cM, 3000, .inl (rw16 u.2))), (nn, .inl (cN, 3, .inl (rc u.2))), (xx, .inl (cX, 2400, .inl (tx T)))]) u) A tS) A) (by decide) rfl (Nat.le_of_ble_eq_true rfl) ?_
  intro p ee s m below meth cde ls A H locs hx hb hml hrt hlocks hown hin hts hA hP hK hD hS hE hl
  have hown : s.vm.findClass R_Mod = some m.cls := hown
  have hts := wz_g hts
  have hl : lv_has ls 13 [(0, .ref md), (1, .int (nI (bas hx1))), (2, .int wd)] := hl
  have hb16 := (bas_16 (hx := hx1)).1
  obtain ⟨pt, hpt⟩ : ∃ x, x = sk (bas hx1) T e a := ⟨_, rfl⟩
  obtain ⟨bh, hbh⟩ : ∃ x, x = bh0 (bas hx1) T e a := ⟨_, rfl⟩
  obtain ⟨d, hd⟩ : ∃ x, x = dE (bas hx1) T e a := ⟨_, rfl⟩
  have hgb := dE_gb (β := bas hx1) (T := T) (e := e) (a := a) hb16
  have hdc := dE_c (β := bas hx1) (T := T) (e := e) (a := a)
  have hap : a ≤ sk (bas hx1) T e a := sk_ge _ _ _ _
  have hpe : sk (bas hx1) T e a ≤ e := sk_le hae
  have hd1 : ∀ j, a ≤ j → j < sk (bas hx1) T e a → dg (T j) < bas hx1 := fun j x y => (sk_in x y).2
  have hde : dE (bas hx1) T e a ≤ e := (dE_le hae).2
  have hbe : bh0 (bas hx1) T e a = 0 ∨ sk (bas hx1) T e a + 1 + bh0 (bas hx1) T e a ≤ e := by
    by_cases z : lk T e (sk (bas hx1) T e a) = 46
    · have := hdc.1 z; omega
    · exact Or.inl (hdc.2 z).1
  have hd2 : ∀ j, sk (bas hx1) T e a < j → j < sk (bas hx1) T e a + 1 + bh0 (bas hx1) T e a → dg (T j) < bas hx1 := by
    intro j x y
    by_cases z : lk T e (sk (bas hx1) T e a) = 46
    · have h9 := hdc.1 z
      exact (sk_in (e := e) (k := sk (bas hx1) T e a + 1) x (by have := sk_ge (bas hx1) T e (sk (bas hx1) T e a + 1); omega)).2
    · have h9 := hdc.2 z; omega
  rw [← hpt, ← hbh, ← hd] at hgb hdc
  rw [← hpt] at hap hpe hd1
  rw [← hpt, ← hbh] at hbe hd2
  rw [← hd] at hde
  refine lv_aload_n hx hb d_Mod_literal_0 rfl (lv_at hl 0 rfl) ?_
  refine va_get (D := D) (ci := 5) (v := .int (nI a)) (C := R_Mod) (T := F_Mod) (N := 8) hx hb hts w_Mod hown hK hP 0 rfl rfl 6 (by decide) (hts _ kF_Mod_81) (fun _ h9 => h9) rfl d_Mod_literal_1 ?_
  refine lv_istore_n (lv' := [(3, .int (nI a)), (0, .ref md), (1, .int (nI (bas hx1))), (2, .int wd)]) hx hb d_Mod_literal_4 rfl hl (by decide) rfl (fun ls hl => ?_)
  refine lv_aload_n hx hb d_Mod_literal_5 rfl (lv_at hl 1 rfl) ?_
  refine lv_aload_n hx hb d_Mod_literal_6 rfl (lv_at hl 1 rfl) ?_
  refine va_get (D := D) (ci := 5) (v := .int (nI a)) (C := R_Mod) (T := F_Mod) (N := 8) hx hb hts w_Mod hown hK hP 0 rfl rfl 6 (by decide) (hts _ kF_Mod_81) (fun _ h9 => h9) rfl d_Mod_literal_7 ?_
  refine lv_iload_n hx hb d_Mod_literal_10 rfl (lv_at hl 2 rfl) ?_
  refine ca_i [(mm, .inl (cM, 3000, .inl (rw16 V))), (nn, .inl (cN, 3, .inl (rc V)))] (va_runV (As := [.int (nI a), .int (nI (bas hx1))]) (rest := []) ⟨hx, hb, hml, hown, hts⟩ (c_Mod_digits l D E md xx mm nn cX ln rd R T (nI a) hT e he a (hae) (bas hx1) (hb16) H.size) (xV 2 hts kC_Mod_digits kM_Mod_116 kI_Mod_digits kS_Mod_digits kN_Mod rfl rfl (by decide +kernel) ⟨Nat.le_of_ble_eq_true rfl, Nat.le_of_ble_eq_true rfl⟩) ⟨ct_blind hev, va_recv hK hP (ci := 5) (q0 := 0) rfl rfl, ct_pre hev hP hK hD hS hA hE [0, 3] rfl (by decide) [2] rfl⟩ rfl rfl hl.1 rfl (lv_room (Nat.le_of_ble_eq_true rfl)) d_Mod_literal_11 ⟨Nat.le_of_ble_eq_true rfl, Nat.le_of_ble_eq_true rfl⟩) hP hD hS hA [0, 3] [1, 2] rfl rfl (by decide) (by decide) (fun rv u H locs hw hP hD hS hK1 => ?_)
  subst hw
  have hP : va_P D vcl [(mm, .inl (cM, 3000, .inl (rw16 V))), (nn, .inl (cN, 3, .inl (rc V))), (md, .inr (5, [.ref xx, .int ln, .long R, .int rd, .ref mm, .ref nn, .int (nI a), .int (nI e)])), (xx, .inl (cX, 2400, .inl (tx T)))] H := hP
  have hD : va_D A [(mm, .inl (cM, 3000, .inl (rw16 V))), (nn, .inl (cN, 3, .inl (rc V))), (md, .inr (5, [.ref xx, .int ln, .long R, .int rd, .ref mm, .ref nn, .int (nI a), .int (nI e)])), (xx, .inl (cX, 2400, .inl (tx T)))] := hD
  refine tv_i (nI (pt - a)) (by rw [hpt]) ?_
  refine lv_istore (lv' := [(4, .int (nI (pt - a))), (3, .int (nI a)), (0, .ref md), (1, .int (nI (bas hx1))), (2, .int wd)]) hx hb d_Mod_literal_14 hl (by decide) rfl (fun ls hl => ?_)
  refine lv_aload_n hx hb d_Mod_literal_16 rfl (lv_at hl 2 rfl) ?_
  refine lv_dup hx hb d_Mod_literal_17 rfl ?_
  refine va_get (D := D) (ci := 5) (v := .int (nI a)) (C := R_Mod) (T := F_Mod) (N := 8) hx hb hts w_Mod hown hK hP 2 rfl rfl 6 (by decide) (hts _ kF_Mod_81) (fun _ h9 => h9) rfl d_Mod_literal_18 ?_
  refine lv_iload hx hb d_Mod_literal_21 (lv_at hl 0 rfl) ?_
  refine lv_iadd hx hb d_Mod_literal_23 ?_
  refine tv_i (nI pt) (by rw [nI_add]; exact congrArg nI (by omega)) ?_
  refine va_put (D := D) (ci := 5) (v := .int (nI pt)) (ty := .int) (C := R_Mod) (T := F_Mod) (N := 8) hx hb hts w_Mod t_Mod tk_Mod n_Mod hown hK hP hD hS 2 rfl rfl 6 (by decide) (hts _ kF_Mod_81) (fun _ h9 => h9) rfl (by decide +kernel) (rfl) (rfl) (Nat.le_of_ble_eq_true rfl) d_Mod_literal_24 (fun H locs hP hD hS => ?_)
  have hP : va_P D vcl [(mm, .inl (cM, 3000, .inl (rw16 V))), (nn, .inl (cN, 3, .inl (rc V))), (md, .inr (5, [.ref xx, .int ln, .long R, .int rd, .ref mm, .ref nn, .int (nI pt), .int (nI e)])), (xx, .inl (cX, 2400, .inl (tx T)))] H := hP
  have hD : va_D A [(mm, .inl (cM, 3000, .inl (rw16 V))), (nn, .inl (cN, 3, .inl (rc V))), (md, .inr (5, [.ref xx, .int ln, .long R, .int rd, .ref mm, .ref nn, .int (nI pt), .int (nI e)])), (xx, .inl (cX, 2400, .inl (tx T)))] := hD
  refine lv_aload_n hx hb d_Mod_literal_27 rfl (lv_at hl 2 rfl) ?_
  refine va_get (D := D) (ci := 5) (v := .int (nI pt)) (C := R_Mod) (T := F_Mod) (N := 8) hx hb hts w_Mod hown hK hP 2 rfl rfl 6 (by decide) (hts _ kF_Mod_81) (fun _ h9 => h9) rfl d_Mod_literal_28 ?_
  refine lv_istore (lv' := [(5, .int (nI pt)), (4, .int (nI (pt - a))), (3, .int (nI a)), (0, .ref md), (1, .int (nI (bas hx1))), (2, .int wd)]) hx hb d_Mod_literal_31 hl (by decide) rfl (fun ls hl => ?_)
  refine lv_iconst (v := 0) hx hb d_Mod_literal_33 (by decide) ?_
  refine tv_i (nI 0) (rfl) ?_
  refine lv_istore (lv' := [(6, .int (nI 0)), (5, .int (nI pt)), (4, .int (nI (pt - a))), (3, .int (nI a)), (0, .ref md), (1, .int (nI (bas hx1))), (2, .int wd)]) hx hb d_Mod_literal_34 hl (by decide) rfl (fun ls hl => ?_)
  have L69 : ∀ (kk : Nat) (u0 : Nat), 0 < kk → ∀ (H : Heap) (locs : List Loc) (ls : Array Slot), va_P D vcl [(md, .inr (5, [.ref xx, .int ln, .long R, .int rd, .ref mm, .ref nn, .int (nI d), .int (nI e)])), (mm, .inl (cM, 3000, .inl (rw16 V))), (nn, .inl (cN, 3, .inl (rc V))), (xx, .inl (cX, 2400, .inl (tx T)))] H → va_D A [(md, .inr (5, [.ref xx, .int ln, .long R, .int rd, .ref mm, .ref nn, .int (nI d), .int (nI e)])), (mm, .inl (cM, 3000, .inl (rw16 V))), (nn, .inl (cN, 3, .inl (rc V))), (xx, .inl (cX, 2400, .inl (tx T)))] → va_S A s.heap H locs → lv_has ls 13 [(0, .ref md), (1, .int (nI (bas hx1))), (2, .int wd), (3, .int (nI a)), (5, .int (nI pt)), (6, .int (nI bh)), (4, .int (nI (pt - a)))] → W p l ee ({ frames := 5, cells := 0, slots := 0, locals := 147 }) s m ([.ref md, .int (nI (bas hx1)), .int wd] : List Value).toArray below meth cde H locs 0 0 (MQ below (va_Ql (S := (Int32 × (Nat → Nat))) (fun (w : Int64) (u : (Int32 × (Nat → Nat))) => (oL hx1 T e a = true → w = lN (vL 100000000 i hx1 T e a)) ∧ (oL hx1 T e a = false → w = -1) ∧ okV u.2) (fun u tS => ctB D vcl ((fun _ => [(cM, .int), (cN, .int), (cX, .int)]) u) ((fun u : (Int32 × (Nat → Nat)) => [(md, .inr (5, [.ref xx, .int ln, .long R, .int rd, .ref mm, .ref nn, .int u.1, .int (nI e)])), (mm, .inl (cM, 3000, .inl (rw16 u.2))), (nn, .inl (cN, 3, .inl (rc u.2))), (xx, .inl (cX, 2400, .inl (tx T)))]) u) A tS) A) ([.ref md, .int (nI (bas hx1)), .int wd] : List Value).toArray s 0 0 A) (F0 m 69 ls []) := by
    intro kk
    induction kk with
    | zero => intro u0 hmz; exact absurd hmz (Nat.not_lt_zero _)
    | succ kk ih =>
      intro u0 hmz  H locs ls hP hD hS hl
      refine lv_iload hx hb d_Mod_literal_69 (lv_at hl 6 rfl) ?_
      refine lv_iload hx hb d_Mod_literal_71 (lv_at hl 5 rfl) ?_
      refine lv_iadd hx hb d_Mod_literal_73 ?_
      refine tv_i (nI (pt - a + bh)) (nI_add _ _) ?_
      refine lv_if_ne (tgt := 81) hx hb d_Mod_literal_74 (by decide) (fun c74 => ?_) (fun c74 => ?_)
      · have hdn : 0 < pt - a + bh := Nat.pos_of_ne_zero (fun z => c74 (by rw [z]; rfl))
        have L111 : ∀ (kk : Nat) (u0 : Nat), 0 < kk → (0 < pt - a + bh) → ∀ (H : Heap) (locs : List Loc) (ls : Array Slot), va_P D vcl [(md, .inr (5, [.ref xx, .int ln, .long R, .int rd, .ref mm, .ref nn, .int (nI (if mkB hx1 T e d = true then d + 1 else d)), .int (nI e)])), (mm, .inl (cM, 3000, .inl (rw16 V))), (nn, .inl (cN, 3, .inl (rc V))), (xx, .inl (cX, 2400, .inl (tx T)))] H → va_D A [(md, .inr (5, [.ref xx, .int ln, .long R, .int rd, .ref mm, .ref nn, .int (nI (if mkB hx1 T e d = true then d + 1 else d)), .int (nI e)])), (mm, .inl (cM, 3000, .inl (rw16 V))), (nn, .inl (cN, 3, .inl (rc V))), (xx, .inl (cX, 2400, .inl (tx T)))] → va_S A s.heap H locs → lv_has ls 13 [(0, .ref md), (1, .int (nI (bas hx1))), (2, .int wd), (3, .int (nI a)), (5, .int (nI pt)), (6, .int (nI bh)), (7, .long (lZ 0)), (9, .int (bI (mkB hx1 T e d)))] → W p l ee ({ frames := 5, cells := 0, slots := 0, locals := 147 }) s m ([.ref md, .int (nI (bas hx1)), .int wd] : List Value).toArray below meth cde H locs 0 0 (MQ below (va_Ql (S := (Int32 × (Nat → Nat))) (fun (w : Int64) (u : (Int32 × (Nat → Nat))) => (oL hx1 T e a = true → w = lN (vL 100000000 i hx1 T e a)) ∧ (oL hx1 T e a = false → w = -1) ∧ okV u.2) (fun u tS => ctB D vcl ((fun _ => [(cM, .int), (cN, .int), (cX, .int)]) u) ((fun u : (Int32 × (Nat → Nat)) => [(md, .inr (5, [.ref xx, .int ln, .long R, .int rd, .ref mm, .ref nn, .int u.1, .int (nI e)])), (mm, .inl (cM, 3000, .inl (rw16 u.2))), (nn, .inl (cN, 3, .inl (rc u.2))), (xx, .inl (cX, 2400, .inl (tx T)))]) u) A tS) A) ([.ref md, .int (nI (bas hx1)), .int wd] : List Value).toArray s 0 0 A) (F0 m 111 ls []) := by
          intro kk
          induction kk with
          | zero => intro u0 hmz; exact absurd hmz (Nat.not_lt_zero _)
          | succ kk ih =>
            intro u0 hmz hdn H locs ls hP hD hS hl
            have L286 : ∀ (kk : Nat) (X : Nat) (pq : Int), 0 < kk → (X = pAt hx1 T e d) → (pq = pPw 100000000 hx1 T e d) → (pOk hx1 T e d = true) → ∀ (H : Heap) (locs : List Loc) (ls : Array Slot), va_P D vcl [(md, .inr (5, [.ref xx, .int ln, .long R, .int rd, .ref mm, .ref nn, .int (nI X), .int (nI e)])), (mm, .inl (cM, 3000, .inl (rw16 V))), (nn, .inl (cN, 3, .inl (rc V))), (xx, .inl (cX, 2400, .inl (tx T)))] H → va_D A [(md, .inr (5, [.ref xx, .int ln, .long R, .int rd, .ref mm, .ref nn, .int (nI X), .int (nI e)])), (mm, .inl (cM, 3000, .inl (rw16 V))), (nn, .inl (cN, 3, .inl (rc V))), (xx, .inl (cX, 2400, .inl (tx T)))] → va_S A s.heap H locs → lv_has ls 13 [(0, .ref md), (1, .int (nI (bas hx1))), (2, .int wd), (3, .int (nI a)), (5, .int (nI pt)), (6, .int (nI bh)), (7, .long (lZ pq))] → W p l ee ({ frames := 5, cells := 0, slots := 0, locals := 147 }) s m ([.ref md, .int (nI (bas hx1)), .int wd] : List Value).toArray below meth cde H locs 0 0 (MQ below (va_Ql (S := (Int32 × (Nat → Nat))) (fun (w : Int64) (u : (Int32 × (Nat → Nat))) => (oL hx1 T e a = true → w = lN (vL 100000000 i hx1 T e a)) ∧ (oL hx1 T e a = false → w = -1) ∧ okV u.2) (fun u tS => ctB D vcl ((fun _ => [(cM, .int), (cN, .int), (cX, .int)]) u) ((fun u : (Int32 × (Nat → Nat)) => [(md, .inr (5, [.ref xx, .int ln, .long R, .int rd, .ref mm, .ref nn, .int u.1, .int (nI e)])), (mm, .inl (cM, 3000, .inl (rw16 u.2))), (nn, .inl (cN, 3, .inl (rc u.2))), (xx, .inl (cX, 2400, .inl (tx T)))]) u) A tS) A) ([.ref md, .int (nI (bas hx1)), .int wd] : List Value).toArray s 0 0 A) (F0 m 286 ls []) := by
              intro kk
              induction kk with
              | zero => intro X pq hmz; exact absurd hmz (Nat.not_lt_zero _)
              | succ kk ih =>
                intro X pq hmz hX hpq hpo H locs ls hP hD hS hl
                have hXe : X ≤ e := by rw [hX]; exact (pAt_le hde).2
                have hpb := pPw_b (hx := hx1) (T := T) (e := e) (a := d) (C := 100000000)
                rw [← hpq] at hpb
                have L315 : ∀ (kk : Nat) (Y : Nat), 0 < kk → (Y = if sfB T e X then X + 1 else X) → ∀ (H : Heap) (locs : List Loc) (ls : Array Slot), va_P D vcl [(md, .inr (5, [.ref xx, .int ln, .long R, .int rd, .ref mm, .ref nn, .int (nI Y), .int (nI e)])), (mm, .inl (cM, 3000, .inl (rw16 V))), (nn, .inl (cN, 3, .inl (rc V))), (xx, .inl (cX, 2400, .inl (tx T)))] H → va_D A [(md, .inr (5, [.ref xx, .int ln, .long R, .int rd, .ref mm, .ref nn, .int (nI Y), .int (nI e)])), (mm, .inl (cM, 3000, .inl (rw16 V))), (nn, .inl (cN, 3, .inl (rc V))), (xx, .inl (cX, 2400, .inl (tx T)))] → va_S A s.heap H locs → lv_has ls 13 [(0, .ref md), (1, .int (nI (bas hx1))), (2, .int wd), (3, .int (nI a)), (5, .int (nI pt)), (6, .int (nI bh)), (7, .long (lZ pq))] → W p l ee ({ frames := 5, cells := 0, slots := 0, locals := 147 }) s m ([.ref md, .int (nI (bas hx1)), .int wd] : List Value).toArray below meth cde H locs 0 0 (MQ below (va_Ql (S := (Int32 × (Nat → Nat))) (fun (w : Int64) (u : (Int32 × (Nat → Nat))) => (oL hx1 T e a = true → w = lN (vL 100000000 i hx1 T e a)) ∧ (oL hx1 T e a = false → w = -1) ∧ okV u.2) (fun u tS => ctB D vcl ((fun _ => [(cM, .int), (cN, .int), (cX, .int)]) u) ((fun u : (Int32 × (Nat → Nat)) => [(md, .inr (5, [.ref xx, .int ln, .long R, .int rd, .ref mm, .ref nn, .int u.1, .int (nI e)])), (mm, .inl (cM, 3000, .inl (rw16 u.2))), (nn, .inl (cN, 3, .inl (rc u.2))), (xx, .inl (cX, 2400, .inl (tx T)))]) u) A tS) A) ([.ref md, .int (nI (bas hx1)), .int wd] : List Value).toArray s 0 0 A) (F0 m 315 ls []) := by
                  intro kk
                  induction kk with
                  | zero => intro Y hmz; exact absurd hmz (Nat.not_lt_zero _)
                  | succ kk ih =>
                    intro Y hmz hY H locs ls hP hD hS hl
                    refine lv_aload_n hx hb d_Mod_literal_315 rfl (lv_at hl 0 rfl) ?_
                    refine va_get (D := D) (ci := 5) (v := .int (nI Y)) (C := R_Mod) (T := F_Mod) (N := 8) hx hb hts w_Mod hown hK hP 0 rfl rfl 6 (by decide) (hts _ kF_Mod_81) (fun _ h9 => h9) rfl d_Mod_literal_316 ?_
                    refine lv_aload_n hx hb d_Mod_literal_319 rfl (lv_at hl 0 rfl) ?_
                    refine va_get (D := D) (ci := 5) (v := .int (nI e)) (C := R_Mod) (T := F_Mod) (N := 8) hx hb hts w_Mod hown hK hP 0 rfl rfl 7 (by decide) (hts _ kF_Mod_78) (fun _ h9 => h9) rfl d_Mod_literal_320 ?_
                    refine lv_icmp_eq (tgt := 330) hx hb d_Mod_literal_323 (by decide) (fun c323 => ?_) (fun c323 => ?_)
                    · have e323 : Y = e := (nI_eq (by rw [hY]; split <;> omega) (by omega)).mp c323
                      refine lv_iload_n hx hb d_Mod_literal_330 rfl (lv_at hl 1 rfl) ?_
                      refine lv_bipush (v := 16) hx hb d_Mod_literal_331 (by decide) ?_
                      refine lv_icmp_ne (tgt := 351) hx hb d_Mod_literal_333 (by decide) (fun c333 => ?_) (fun c333 => ?_)
                      · have e333 : hx1 = false := by
                          cases hx1
                          · rfl
                          · exact absurd rfl c333
                        have hgv : gv 10 T a (d - a) = gb 10 T a pt bh ∧ gf T a (d - a) = bh := by have h9 := hgb; rw [e333] at h9; exact ⟨h9.1, h9.2.1⟩
                        refine lv_aload_n hx hb d_Mod_literal_351 rfl (lv_at hl 0 rfl) ?_
                        refine lv_iload_n hx hb d_Mod_literal_352 rfl (lv_at hl 3 rfl) ?_
                        refine lv_iload hx hb d_Mod_literal_353 (lv_at hl 4 rfl) ?_
                        refine lv_iload hx hb d_Mod_literal_355 (lv_at hl 5 rfl) ?_
                        refine lv_lload hx hb d_Mod_literal_357 (lv_at hl 6 rfl) ?_
                        refine lv_iload_n hx hb d_Mod_literal_359 rfl (lv_at hl 2 rfl) ?_
                        refine ca_l [] (va_runV (As := [.int (nI a), .int (nI pt), .int (nI bh), .long (lZ pq), .int wd]) (rest := []) ⟨hx, hb, hml, hown, hts⟩ (c_Mod_sized10 l D E md xx mm nn cM cN cX V ln rd (nI Y) R T hT e he hV a pt bh hap hpe hbe (fun j x y => by have h9 := hd1 j x y; rw [e333] at h9; exact h9) (fun j x y => by have h9 := hd2 j x y; rw [e333] at h9; exact h9) i hi wd hwd pq (by omega) (by omega) H.size) (xV 5 hts kC_Mod_sized10 kM_Mod_135 kI_Mod_sized10 kS_Mod_sized10 kN_Mod rfl rfl (by decide +kernel) ⟨Nat.le_of_ble_eq_true rfl, Nat.le_of_ble_eq_true rfl⟩) ⟨ct_blind hev, va_recv hK hP (ci := 5) (q0 := 0) rfl rfl, ct_pre hev hP hK hD hS hA hE [0, 1, 2, 3] rfl (by decide) [0, 1, 2] rfl⟩ rfl rfl hl.1 rfl (lv_room (Nat.le_of_ble_eq_true rfl)) d_Mod_literal_360 ⟨Nat.le_of_ble_eq_true rfl, Nat.le_of_ble_eq_true rfl⟩) hP hD hS hA [0, 1, 2, 3] [] rfl rfl (by decide) (by decide) (fun rv u H locs hw hP hD hS hK1 => ?_)
                        obtain ⟨hw, hVn⟩ := hw
                        subst hw
                        obtain ⟨V9, hV9⟩ : ∃ x : Nat → Nat, x = u := ⟨_, rfl⟩
                        rw [← hV9] at hP hD hVn
                        have hP : va_P D vcl [(md, .inr (5, [.ref xx, .int ln, .long R, .int rd, .ref mm, .ref nn, .int (nI Y), .int (nI e)])), (mm, .inl (cM, 3000, .inl (rw16 V9))), (nn, .inl (cN, 3, .inl (rc V9))), (xx, .inl (cX, 2400, .inl (tx T)))] H := hP
                        have hD : va_D A [(md, .inr (5, [.ref xx, .int ln, .long R, .int rd, .ref mm, .ref nn, .int (nI Y), .int (nI e)])), (mm, .inl (cM, 3000, .inl (rw16 V9))), (nn, .inl (cN, 3, .inl (rc V9))), (xx, .inl (cX, 2400, .inl (tx T)))] := hD
                        exact rt_l hx hb hrt hlocks ((nI Y, V9)) (⟨fun _ => congrArg lN (by unfold vL; rw [if_neg (by rw [e333]; decide), ← hd, ← hpq, hgv.2, hgv.1]), fun z => absurd ((oL_t (by rw [hgb.2.2]; omega) (by rw [← hd]; exact hpo) (by rw [← hd, ← hX, ← hY]; exact e323)).symm.trans z) (by decide), hVn⟩) (hP.sub [0, 1, 2, 3] rfl) (hK.sub [0, 1, 2] rfl) (hD.sub [0, 1, 2, 3] (by decide) rfl) hS d_Mod_literal_363
                      · have e333 : hx1 = true := by
                          cases hx1
                          · exact absurd c333 (by decide)
                          · rfl
                        have hgv : gv 16 T a (d - a) = gb 16 T a pt bh ∧ gf T a (d - a) = bh := by have h9 := hgb; rw [e333] at h9; exact ⟨h9.1, h9.2.1⟩
                        refine lv_aload_n hx hb d_Mod_literal_336 rfl (lv_at hl 0 rfl) ?_
                        refine lv_iload_n hx hb d_Mod_literal_337 rfl (lv_at hl 3 rfl) ?_
                        refine lv_iload hx hb d_Mod_literal_338 (lv_at hl 4 rfl) ?_
                        refine lv_iload hx hb d_Mod_literal_340 (lv_at hl 5 rfl) ?_
                        refine lv_lload hx hb d_Mod_literal_342 (lv_at hl 6 rfl) ?_
                        refine lv_iload_n hx hb d_Mod_literal_344 rfl (lv_at hl 2 rfl) ?_
                        refine ca_l [] (va_runV (As := [.int (nI a), .int (nI pt), .int (nI bh), .long (lZ pq), .int wd]) (rest := []) ⟨hx, hb, hml, hown, hts⟩ (c_Mod_sized16 l D E md xx mm nn cM cN cX V ln rd (nI Y) R T hT e he hV a pt bh hap hpe hbe (fun j x y => by have h9 := hd1 j x y; rw [e333] at h9; exact h9) (fun j x y => by have h9 := hd2 j x y; rw [e333] at h9; exact h9) i hi wd hwd pq (by omega) (by omega) H.size) (xV 5 hts kC_Mod_sized16 kM_Mod_131 kI_Mod_sized16 kS_Mod_sized16 kN_Mod rfl rfl (by decide +kernel) ⟨Nat.le_of_ble_eq_true rfl, Nat.le_of_ble_eq_true rfl⟩) ⟨ct_blind hev, va_recv hK hP (ci := 5) (q0 := 0) rfl rfl, ct_pre hev hP hK hD hS hA hE [0, 1, 2, 3] rfl (by decide) [0, 1, 2] rfl⟩ rfl rfl hl.1 rfl (lv_room (Nat.le_of_ble_eq_true rfl)) d_Mod_literal_345 ⟨Nat.le_of_ble_eq_true rfl, Nat.le_of_ble_eq_true rfl⟩) hP hD hS hA [0, 1, 2, 3] [] rfl rfl (by decide) (by decide) (fun rv u H locs hw hP hD hS hK1 => ?_)
                        obtain ⟨hw, hVn⟩ := hw
                        subst hw
                        obtain ⟨V9, hV9⟩ : ∃ x : Nat → Nat, x = u := ⟨_, rfl⟩
                        rw [← hV9] at hP hD hVn
                        have hP : va_P D vcl [(md, .inr (5, [.ref xx, .int ln, .long R, .int rd, .ref mm, .ref nn, .int (nI Y), .int (nI e)])), (mm, .inl (cM, 3000, .inl (rw16 V9))), (nn, .inl (cN, 3, .inl (rc V9))), (xx, .inl (cX, 2400, .inl (tx T)))] H := hP
                        have hD : va_D A [(md, .inr (5, [.ref xx, .int ln, .long R, .int rd, .ref mm, .ref nn, .int (nI Y), .int (nI e)])), (mm, .inl (cM, 3000, .inl (rw16 V9))), (nn, .inl (cN, 3, .inl (rc V9))), (xx, .inl (cX, 2400, .inl (tx T)))] := hD
                        refine lv_goto (tgt := 363) hx hb d_Mod_literal_348 (by decide) ?_
                        exact rt_l hx hb hrt hlocks ((nI Y, V9)) (⟨fun _ => congrArg lN (by unfold vL; rw [if_pos e333, ← hd, ← hpq, hgv.2, hgv.1]), fun z => absurd ((oL_t (by rw [hgb.2.2]; omega) (by rw [← hd]; exact hpo) (by rw [← hd, ← hX, ← hY]; exact e323)).symm.trans z) (by decide), hVn⟩) (hP.sub [0, 1, 2, 3] rfl) (hK.sub [0, 1, 2] rfl) (hD.sub [0, 1, 2, 3] (by decide) rfl) hS d_Mod_literal_363
                    · have e323 : Y ≠ e := fun z => c323 (by rw [z])
                      refine lv_ldc2 hx hb hown (hts _ kK_Mod_123) d_Mod_literal_326 ?_
                      exact rt_l hx hb hrt hlocks ((nI Y, V)) (⟨fun z => absurd ((oL_3 (by rw [← hd, ← hX, ← hY]; exact e323)).symm.trans z) (by decide), fun _ => rfl, hV⟩) (hP.sub [0, 1, 2, 3] rfl) (hK.sub [0, 1, 2] rfl) (hD.sub [0, 1, 2, 3] (by decide) rfl) hS d_Mod_literal_329
                refine lv_aload_n hx hb d_Mod_literal_286 rfl (lv_at hl 0 rfl) ?_
                refine lv_bipush (v := 102) hx hb d_Mod_literal_287 (by decide) ?_
                refine lv_bipush (v := 70) hx hb d_Mod_literal_289 (by decide) ?_
                refine ca_i [(mm, .inl (cM, 3000, .inl (rw16 V))), (nn, .inl (cN, 3, .inl (rc V)))] (va_runV (As := [.int 102, .int 70]) (rest := []) ⟨hx, hb, hml, hown, hts⟩ (c_Mod_skips l D E md xx mm nn cX ln rd R T hT e he X (by omega) 102 70 (by decide) (by decide) H.size) (xV 2 hts kC_Mod_skips kM_Mod_119 kI_Mod_skips kS_Mod_skips kN_Mod rfl rfl (by decide +kernel) ⟨Nat.le_of_ble_eq_true rfl, Nat.le_of_ble_eq_true rfl⟩) ⟨ct_blind hev, va_recv hK hP (ci := 5) (q0 := 0) rfl rfl, ct_pre hev hP hK hD hS hA hE [0, 3] rfl (by decide) [2] rfl⟩ rfl rfl hl.1 rfl (lv_room (Nat.le_of_ble_eq_true rfl)) d_Mod_literal_291 ⟨Nat.le_of_ble_eq_true rfl, Nat.le_of_ble_eq_true rfl⟩) hP hD hS hA [0, 3] [1, 2] rfl rfl (by decide) (by decide) (fun rv u H locs hw hP hD hS hK1 => ?_)
                subst hw
                have hP : va_P D vcl [(mm, .inl (cM, 3000, .inl (rw16 V))), (nn, .inl (cN, 3, .inl (rc V))), (md, .inr (5, [.ref xx, .int ln, .long R, .int rd, .ref mm, .ref nn, .int (nI (if lk T e X = 102 ∨ lk T e X = 70 then X + 1 else X)), .int (nI e)])), (xx, .inl (cX, 2400, .inl (tx T)))] H := hP
                have hD : va_D A [(mm, .inl (cM, 3000, .inl (rw16 V))), (nn, .inl (cN, 3, .inl (rc V))), (md, .inr (5, [.ref xx, .int ln, .long R, .int rd, .ref mm, .ref nn, .int (nI (if lk T e X = 102 ∨ lk T e X = 70 then X + 1 else X)), .int (nI e)])), (xx, .inl (cX, 2400, .inl (tx T)))] := hD
                refine lv_if_ne (tgt := 308) hx hb d_Mod_literal_294 (by decide) (fun c294 => ?_) (fun c294 => ?_)
                · have e294 : (lk T e X = 102 ∨ lk T e X = 70) := of_decide_eq_true (tt_of (fun z => c294 ((bI_0 _).mpr z)))
                  rw [show nI (if lk T e X = 102 ∨ lk T e X = 70 then X + 1 else X) = nI (X + 1) from by rw [if_pos e294]] at hP hD
                  have hP : va_P D vcl [(mm, .inl (cM, 3000, .inl (rw16 V))), (nn, .inl (cN, 3, .inl (rc V))), (md, .inr (5, [.ref xx, .int ln, .long R, .int rd, .ref mm, .ref nn, .int (nI (X + 1)), .int (nI e)])), (xx, .inl (cX, 2400, .inl (tx T)))] H := hP
                  have hD : va_D A [(mm, .inl (cM, 3000, .inl (rw16 V))), (nn, .inl (cN, 3, .inl (rc V))), (md, .inr (5, [.ref xx, .int ln, .long R, .int rd, .ref mm, .ref nn, .int (nI (X + 1)), .int (nI e)])), (xx, .inl (cX, 2400, .inl (tx T)))] := hD
                  refine lv_iconst (v := 1) hx hb d_Mod_literal_308 (by decide) ?_
                  refine lv_goto (tgt := 313) hx hb d_Mod_literal_309 (by decide) ?_
                  refine lv_istore (lv' := [(10, .int 1), (0, .ref md), (1, .int (nI (bas hx1))), (2, .int wd), (3, .int (nI a)), (5, .int (nI pt)), (6, .int (nI bh)), (7, .long (lZ pq))]) hx hb d_Mod_literal_313 hl (by decide) rfl (fun ls hl => ?_)
                  exact L315 1 (X + 1) (by decide) (by unfold sfB; rw [decide_eq_true (Or.inl e294)]; rfl) _ _ _ (hP.sub [2, 0, 1, 3] rfl) (hD.sub [2, 0, 1, 3] (by decide) rfl) hS (lv_sub hl [1, 2, 3, 4, 5, 6, 7] rfl)
                · have e294 : ¬ (lk T e X = 102 ∨ lk T e X = 70) := of_decide_eq_false ((bI_0 _).mp c294)
                  rw [show nI (if lk T e X = 102 ∨ lk T e X = 70 then X + 1 else X) = nI X from by rw [if_neg e294]] at hP hD
                  have hP : va_P D vcl [(mm, .inl (cM, 3000, .inl (rw16 V))), (nn, .inl (cN, 3, .inl (rc V))), (md, .inr (5, [.ref xx, .int ln, .long R, .int rd, .ref mm, .ref nn, .int (nI X), .int (nI e)])), (xx, .inl (cX, 2400, .inl (tx T)))] H := hP
                  have hD : va_D A [(mm, .inl (cM, 3000, .inl (rw16 V))), (nn, .inl (cN, 3, .inl (rc V))), (md, .inr (5, [.ref xx, .int ln, .long R, .int rd, .ref mm, .ref nn, .int (nI X), .int (nI e)])), (xx, .inl (cX, 2400, .inl (tx T)))] := hD
                  refine lv_aload_n hx hb d_Mod_literal_297 rfl (lv_at hl 0 rfl) ?_
                  refine lv_bipush (v := 100) hx hb d_Mod_literal_298 (by decide) ?_
                  refine lv_bipush (v := 68) hx hb d_Mod_literal_300 (by decide) ?_
                  refine ca_i [(mm, .inl (cM, 3000, .inl (rw16 V))), (nn, .inl (cN, 3, .inl (rc V)))] (va_runV (As := [.int 100, .int 68]) (rest := []) ⟨hx, hb, hml, hown, hts⟩ (c_Mod_skips l D E md xx mm nn cX ln rd R T hT e he X (by omega) 100 68 (by decide) (by decide) H.size) (xV 2 hts kC_Mod_skips kM_Mod_119 kI_Mod_skips kS_Mod_skips kN_Mod rfl rfl (by decide +kernel) ⟨Nat.le_of_ble_eq_true rfl, Nat.le_of_ble_eq_true rfl⟩) ⟨ct_blind hev, va_recv hK hP (ci := 5) (q0 := 2) rfl rfl, ct_pre hev hP hK hD hS hA hE [2, 3] rfl (by decide) [2] rfl⟩ rfl rfl hl.1 rfl (lv_room (Nat.le_of_ble_eq_true rfl)) d_Mod_literal_302 ⟨Nat.le_of_ble_eq_true rfl, Nat.le_of_ble_eq_true rfl⟩) hP hD hS hA [2, 3] [0, 1] rfl rfl (by decide) (by decide) (fun rv u H locs hw hP hD hS hK1 => ?_)
                  subst hw
                  have hP : va_P D vcl [(mm, .inl (cM, 3000, .inl (rw16 V))), (nn, .inl (cN, 3, .inl (rc V))), (md, .inr (5, [.ref xx, .int ln, .long R, .int rd, .ref mm, .ref nn, .int (nI (if lk T e X = 100 ∨ lk T e X = 68 then X + 1 else X)), .int (nI e)])), (xx, .inl (cX, 2400, .inl (tx T)))] H := hP
                  have hD : va_D A [(mm, .inl (cM, 3000, .inl (rw16 V))), (nn, .inl (cN, 3, .inl (rc V))), (md, .inr (5, [.ref xx, .int ln, .long R, .int rd, .ref mm, .ref nn, .int (nI (if lk T e X = 100 ∨ lk T e X = 68 then X + 1 else X)), .int (nI e)])), (xx, .inl (cX, 2400, .inl (tx T)))] := hD
                  refine lv_if_eq (tgt := 312) hx hb d_Mod_literal_305 (by decide) (fun c305 => ?_) (fun c305 => ?_)
                  · have e305 : ¬ (lk T e X = 100 ∨ lk T e X = 68) := of_decide_eq_false ((bI_0 _).mp c305)
                    rw [show nI (if lk T e X = 100 ∨ lk T e X = 68 then X + 1 else X) = nI X from by rw [if_neg e305]] at hP hD
                    have hP : va_P D vcl [(mm, .inl (cM, 3000, .inl (rw16 V))), (nn, .inl (cN, 3, .inl (rc V))), (md, .inr (5, [.ref xx, .int ln, .long R, .int rd, .ref mm, .ref nn, .int (nI X), .int (nI e)])), (xx, .inl (cX, 2400, .inl (tx T)))] H := hP
                    have hD : va_D A [(mm, .inl (cM, 3000, .inl (rw16 V))), (nn, .inl (cN, 3, .inl (rc V))), (md, .inr (5, [.ref xx, .int ln, .long R, .int rd, .ref mm, .ref nn, .int (nI X), .int (nI e)])), (xx, .inl (cX, 2400, .inl (tx T)))] := hD
                    refine lv_iconst (v := 0) hx hb d_Mod_literal_312 (by decide) ?_
                    refine lv_istore (lv' := [(10, .int 0), (0, .ref md), (1, .int (nI (bas hx1))), (2, .int wd), (3, .int (nI a)), (5, .int (nI pt)), (6, .int (nI bh)), (7, .long (lZ pq))]) hx hb d_Mod_literal_313 hl (by decide) rfl (fun ls hl => ?_)
                    exact L315 1 X (by decide) (by unfold sfB; rw [decide_eq_false (fun z => z.elim e294 e305)]; rfl) _ _ _ (hP.sub [2, 0, 1, 3] rfl) (hD.sub [2, 0, 1, 3] (by decide) rfl) hS (lv_sub hl [1, 2, 3, 4, 5, 6, 7] rfl)
                  · have e305 : (lk T e X = 100 ∨ lk T e X = 68) := of_decide_eq_true (tt_of (fun z => c305 ((bI_0 _).mpr z)))
                    rw [show nI (if lk T e X = 100 ∨ lk T e X = 68 then X + 1 else X) = nI (X + 1) from by rw [if_pos e305]] at hP hD
                    have hP : va_P D vcl [(mm, .inl (cM, 3000, .inl (rw16 V))), (nn, .inl (cN, 3, .inl (rc V))), (md, .inr (5, [.ref xx, .int ln, .long R, .int rd, .ref mm, .ref nn, .int (nI (X + 1)), .int (nI e)])), (xx, .inl (cX, 2400, .inl (tx T)))] H := hP
                    have hD : va_D A [(mm, .inl (cM, 3000, .inl (rw16 V))), (nn, .inl (cN, 3, .inl (rc V))), (md, .inr (5, [.ref xx, .int ln, .long R, .int rd, .ref mm, .ref nn, .int (nI (X + 1)), .int (nI e)])), (xx, .inl (cX, 2400, .inl (tx T)))] := hD
                    refine lv_iconst (v := 1) hx hb d_Mod_literal_308 (by decide) ?_
                    refine lv_goto (tgt := 313) hx hb d_Mod_literal_309 (by decide) ?_
                    refine lv_istore (lv' := [(10, .int 1), (0, .ref md), (1, .int (nI (bas hx1))), (2, .int wd), (3, .int (nI a)), (5, .int (nI pt)), (6, .int (nI bh)), (7, .long (lZ pq))]) hx hb d_Mod_literal_313 hl (by decide) rfl (fun ls hl => ?_)
                    exact L315 1 (X + 1) (by decide) (by unfold sfB; rw [decide_eq_true (Or.inr e305)]; rfl) _ _ _ (hP.sub [2, 0, 1, 3] rfl) (hD.sub [2, 0, 1, 3] (by decide) rfl) hS (lv_sub hl [1, 2, 3, 4, 5, 6, 7] rfl)
            refine lv_iload hx hb d_Mod_literal_111 (lv_at hl 7 rfl) ?_
            refine lv_if_ne (tgt := 126) hx hb d_Mod_literal_113 (by decide) (fun c113 => ?_) (fun c113 => ?_)
            · have e113 : mkB hx1 T e d = true := tt_of (fun z => c113 ((bI_0 _).mpr z))
              refine lv_iload hx hb d_Mod_literal_126 (lv_at hl 7 rfl) ?_
              refine lv_if_eq (tgt := 286) hx hb d_Mod_literal_128 (by decide) (fun c128 => ?_) (fun c128 => ?_)
              · exact absurd (e113.symm.trans ((bI_0 _).mp c128)) (by decide)
              · rw [show nI (if mkB hx1 T e d = true then d + 1 else d) = nI (d + 1) from by rw [e113]; rfl] at hP hD
                have hP : va_P D vcl [(md, .inr (5, [.ref xx, .int ln, .long R, .int rd, .ref mm, .ref nn, .int (nI (d + 1)), .int (nI e)])), (mm, .inl (cM, 3000, .inl (rw16 V))), (nn, .inl (cN, 3, .inl (rc V))), (xx, .inl (cX, 2400, .inl (tx T)))] H := hP
                have hD : va_D A [(md, .inr (5, [.ref xx, .int ln, .long R, .int rd, .ref mm, .ref nn, .int (nI (d + 1)), .int (nI e)])), (mm, .inl (cM, 3000, .inl (rw16 V))), (nn, .inl (cN, 3, .inl (rc V))), (xx, .inl (cX, 2400, .inl (tx T)))] := hD
                have hdl := mk_lt e113
                have hpl := pS_le (T := T) hdl
                obtain ⟨ps, hps⟩ : ∃ x, x = pS T e d := ⟨_, rfl⟩
                obtain ⟨px, hpx⟩ : ∃ x, x = sk 10 T e ps := ⟨_, rfl⟩
                rw [← hps] at hpl
                have hpx1 : ps ≤ px := by rw [hpx]; exact sk_ge _ _ _ _
                have hpx2 : px ≤ e := by rw [hpx]; exact sk_le hpl.1
                have hpX : pX T e d = px := by unfold pX; rw [← hps, hpx]
                have L179 : ∀ (kk : Nat) (u0 : Nat), 0 < kk → ∀ (H : Heap) (locs : List Loc) (ls : Array Slot), va_P D vcl [(md, .inr (5, [.ref xx, .int ln, .long R, .int rd, .ref mm, .ref nn, .int (nI ps), .int (nI e)])), (mm, .inl (cM, 3000, .inl (rw16 V))), (nn, .inl (cN, 3, .inl (rc V))), (xx, .inl (cX, 2400, .inl (tx T)))] H → va_D A [(md, .inr (5, [.ref xx, .int ln, .long R, .int rd, .ref mm, .ref nn, .int (nI ps), .int (nI e)])), (mm, .inl (cM, 3000, .inl (rw16 V))), (nn, .inl (cN, 3, .inl (rc V))), (xx, .inl (cX, 2400, .inl (tx T)))] → va_S A s.heap H locs → lv_has ls 13 [(0, .ref md), (1, .int (nI (bas hx1))), (2, .int wd), (3, .int (nI a)), (5, .int (nI pt)), (6, .int (nI bh)), (7, .long (lZ 0)), (10, .int (bI (ngB T e d)))] → W p l ee ({ frames := 5, cells := 0, slots := 0, locals := 147 }) s m ([.ref md, .int (nI (bas hx1)), .int wd] : List Value).toArray below meth cde H locs 0 0 (MQ below (va_Ql (S := (Int32 × (Nat → Nat))) (fun (w : Int64) (u : (Int32 × (Nat → Nat))) => (oL hx1 T e a = true → w = lN (vL 100000000 i hx1 T e a)) ∧ (oL hx1 T e a = false → w = -1) ∧ okV u.2) (fun u tS => ctB D vcl ((fun _ => [(cM, .int), (cN, .int), (cX, .int)]) u) ((fun u : (Int32 × (Nat → Nat)) => [(md, .inr (5, [.ref xx, .int ln, .long R, .int rd, .ref mm, .ref nn, .int u.1, .int (nI e)])), (mm, .inl (cM, 3000, .inl (rw16 u.2))), (nn, .inl (cN, 3, .inl (rc u.2))), (xx, .inl (cX, 2400, .inl (tx T)))]) u) A tS) A) ([.ref md, .int (nI (bas hx1)), .int wd] : List Value).toArray s 0 0 A) (F0 m 179 ls []) := by
                  intro kk
                  induction kk with
                  | zero => intro u0 hmz; exact absurd hmz (Nat.not_lt_zero _)
                  | succ kk ih =>
                    intro u0 hmz  H locs ls hP hD hS hl
                    refine lv_aload_n hx hb d_Mod_literal_179 rfl (lv_at hl 0 rfl) ?_
                    refine lv_aload_n hx hb d_Mod_literal_180 rfl (lv_at hl 0 rfl) ?_
                    refine va_get (D := D) (ci := 5) (v := .int (nI ps)) (C := R_Mod) (T := F_Mod) (N := 8) hx hb hts w_Mod hown hK hP 0 rfl rfl 6 (by decide) (hts _ kF_Mod_81) (fun _ h9 => h9) rfl d_Mod_literal_181 ?_
                    refine lv_bipush (v := 10) hx hb d_Mod_literal_184 (by decide) ?_
                    refine tv_i (nI 10) (rfl) ?_
                    refine ca_i [(mm, .inl (cM, 3000, .inl (rw16 V))), (nn, .inl (cN, 3, .inl (rc V)))] (va_runV (As := [.int (nI ps), .int (nI 10)]) (rest := []) ⟨hx, hb, hml, hown, hts⟩ (c_Mod_digits l D E md xx mm nn cX ln rd R T (nI ps) hT e he ps (hpl.1) 10 (by decide) H.size) (xV 2 hts kC_Mod_digits kM_Mod_116 kI_Mod_digits kS_Mod_digits kN_Mod rfl rfl (by decide +kernel) ⟨Nat.le_of_ble_eq_true rfl, Nat.le_of_ble_eq_true rfl⟩) ⟨ct_blind hev, va_recv hK hP (ci := 5) (q0 := 0) rfl rfl, ct_pre hev hP hK hD hS hA hE [0, 3] rfl (by decide) [2] rfl⟩ rfl rfl hl.1 rfl (lv_room (Nat.le_of_ble_eq_true rfl)) d_Mod_literal_186 ⟨Nat.le_of_ble_eq_true rfl, Nat.le_of_ble_eq_true rfl⟩) hP hD hS hA [0, 3] [1, 2] rfl rfl (by decide) (by decide) (fun rv u H locs hw hP hD hS hK1 => ?_)
                    subst hw
                    have hP : va_P D vcl [(mm, .inl (cM, 3000, .inl (rw16 V))), (nn, .inl (cN, 3, .inl (rc V))), (md, .inr (5, [.ref xx, .int ln, .long R, .int rd, .ref mm, .ref nn, .int (nI ps), .int (nI e)])), (xx, .inl (cX, 2400, .inl (tx T)))] H := hP
                    have hD : va_D A [(mm, .inl (cM, 3000, .inl (rw16 V))), (nn, .inl (cN, 3, .inl (rc V))), (md, .inr (5, [.ref xx, .int ln, .long R, .int rd, .ref mm, .ref nn, .int (nI ps), .int (nI e)])), (xx, .inl (cX, 2400, .inl (tx T)))] := hD
                    refine tv_i (nI (px - ps)) (by rw [hpx]) ?_
                    refine lv_istore (lv' := [(11, .int (nI (px - ps))), (0, .ref md), (1, .int (nI (bas hx1))), (2, .int wd), (3, .int (nI a)), (5, .int (nI pt)), (6, .int (nI bh)), (7, .long (lZ 0)), (10, .int (bI (ngB T e d)))]) hx hb d_Mod_literal_189 hl (by decide) rfl (fun ls hl => ?_)
                    refine lv_iload hx hb d_Mod_literal_191 (lv_at hl 0 rfl) ?_
                    refine lv_if_ne (tgt := 200) hx hb d_Mod_literal_193 (by decide) (fun c193 => ?_) (fun c193 => ?_)
                    · have e193 : px - ps ≠ 0 := fun z => c193 (by rw [z]; rfl)
                      refine lv_iconst (v := 0) hx hb d_Mod_literal_200 (by decide) ?_
                      refine tv_i (nI 0) (rfl) ?_
                      refine lv_istore (lv' := [(12, .int (nI 0)), (11, .int (nI (px - ps))), (0, .ref md), (1, .int (nI (bas hx1))), (2, .int wd), (3, .int (nI a)), (5, .int (nI pt)), (6, .int (nI bh)), (7, .long (lZ 0)), (10, .int (bI (ngB T e d)))]) hx hb d_Mod_literal_201 hl (by decide) rfl (fun ls hl => ?_)
                      have L203 : ∀ (kk : Nat) (k : Nat), px - ps - k < kk → (k ≤ px - ps) → ∀ (H : Heap) (locs : List Loc) (ls : Array Slot), va_P D vcl [(md, .inr (5, [.ref xx, .int ln, .long R, .int rd, .ref mm, .ref nn, .int (nI ps), .int (nI e)])), (mm, .inl (cM, 3000, .inl (rw16 V))), (nn, .inl (cN, 3, .inl (rc V))), (xx, .inl (cX, 2400, .inl (tx T)))] H → va_D A [(md, .inr (5, [.ref xx, .int ln, .long R, .int rd, .ref mm, .ref nn, .int (nI ps), .int (nI e)])), (mm, .inl (cM, 3000, .inl (rw16 V))), (nn, .inl (cN, 3, .inl (rc V))), (xx, .inl (cX, 2400, .inl (tx T)))] → va_S A s.heap H locs → lv_has ls 13 [(0, .ref md), (1, .int (nI (bas hx1))), (2, .int wd), (3, .int (nI a)), (5, .int (nI pt)), (6, .int (nI bh)), (7, .long (lZ ((min (xv T ps k) 100000000 : Nat) : Int))), (10, .int (bI (ngB T e d))), (11, .int (nI (px - ps))), (12, .int (nI k))] → W p l ee ({ frames := 5, cells := 0, slots := 0, locals := 147 }) s m ([.ref md, .int (nI (bas hx1)), .int wd] : List Value).toArray below meth cde H locs 0 0 (MQ below (va_Ql (S := (Int32 × (Nat → Nat))) (fun (w : Int64) (u : (Int32 × (Nat → Nat))) => (oL hx1 T e a = true → w = lN (vL 100000000 i hx1 T e a)) ∧ (oL hx1 T e a = false → w = -1) ∧ okV u.2) (fun u tS => ctB D vcl ((fun _ => [(cM, .int), (cN, .int), (cX, .int)]) u) ((fun u : (Int32 × (Nat → Nat)) => [(md, .inr (5, [.ref xx, .int ln, .long R, .int rd, .ref mm, .ref nn, .int u.1, .int (nI e)])), (mm, .inl (cM, 3000, .inl (rw16 u.2))), (nn, .inl (cN, 3, .inl (rc u.2))), (xx, .inl (cX, 2400, .inl (tx T)))]) u) A tS) A) ([.ref md, .int (nI (bas hx1)), .int wd] : List Value).toArray s 0 0 A) (F0 m 203 ls []) := by
                        intro kk
                        induction kk with
                        | zero => intro k hmz; exact absurd hmz (Nat.not_lt_zero _)
                        | succ kk ih =>
                          intro k hmz hk H locs ls hP hD hS hl
                          refine lv_iload hx hb d_Mod_literal_203 (lv_at hl 9 rfl) ?_
                          refine lv_iload hx hb d_Mod_literal_205 (lv_at hl 8 rfl) ?_
                          refine lv_icmp_ge (tgt := 260) hx hb d_Mod_literal_207 (by decide) (fun c207 => ?_) (fun c207 => ?_)
                          · have e207 : k = px - ps := by have := (nI_leI (by omega) (by omega)).mp c207; omega
                            refine lv_aload_n hx hb d_Mod_literal_260 rfl (lv_at hl 0 rfl) ?_
                            refine lv_dup hx hb d_Mod_literal_261 rfl ?_
                            refine va_get (D := D) (ci := 5) (v := .int (nI ps)) (C := R_Mod) (T := F_Mod) (N := 8) hx hb hts w_Mod hown hK hP 0 rfl rfl 6 (by decide) (hts _ kF_Mod_81) (fun _ h9 => h9) rfl d_Mod_literal_262 ?_
                            refine lv_iload hx hb d_Mod_literal_265 (lv_at hl 8 rfl) ?_
                            refine lv_iadd hx hb d_Mod_literal_267 ?_
                            refine tv_i (nI px) (by rw [nI_add]; exact congrArg nI (by omega)) ?_
                            refine va_put (D := D) (ci := 5) (v := .int (nI px)) (ty := .int) (C := R_Mod) (T := F_Mod) (N := 8) hx hb hts w_Mod t_Mod tk_Mod n_Mod hown hK hP hD hS 0 rfl rfl 6 (by decide) (hts _ kF_Mod_81) (fun _ h9 => h9) rfl (by decide +kernel) (rfl) (rfl) (Nat.le_of_ble_eq_true rfl) d_Mod_literal_268 (fun H locs hP hD hS => ?_)
                            have hP : va_P D vcl [(md, .inr (5, [.ref xx, .int ln, .long R, .int rd, .ref mm, .ref nn, .int (nI px), .int (nI e)])), (mm, .inl (cM, 3000, .inl (rw16 V))), (nn, .inl (cN, 3, .inl (rc V))), (xx, .inl (cX, 2400, .inl (tx T)))] H := hP
                            have hD : va_D A [(md, .inr (5, [.ref xx, .int ln, .long R, .int rd, .ref mm, .ref nn, .int (nI px), .int (nI e)])), (mm, .inl (cM, 3000, .inl (rw16 V))), (nn, .inl (cN, 3, .inl (rc V))), (xx, .inl (cX, 2400, .inl (tx T)))] := hD
                            refine lv_iload hx hb d_Mod_literal_271 (lv_at hl 7 rfl) ?_
                            refine lv_if_eq (tgt := 282) hx hb d_Mod_literal_273 (by decide) (fun c273 => ?_) (fun c273 => ?_)
                            · have e273 : ngB T e d = false := (bI_0 _).mp c273
                              refine lv_lload hx hb d_Mod_literal_282 (lv_at hl 6 rfl) ?_
                              refine lv_lstore (lv' := [(7, .long (lZ ((min (xv T ps k) 100000000 : Nat) : Int))), (0, .ref md), (1, .int (nI (bas hx1))), (2, .int wd), (3, .int (nI a)), (5, .int (nI pt)), (6, .int (nI bh)), (10, .int (bI (ngB T e d))), (11, .int (nI (px - ps))), (12, .int (nI k))]) hx hb d_Mod_literal_284 hl (by decide) rfl (fun ls hl => ?_)
                              exact L286 1 px ((min (xv T ps k) 100000000 : Nat) : Int) (by decide) (by unfold pAt; rw [e113]; exact hpX.symm) (by unfold pPw pE; rw [e113, hpX, ← hps, e273, e207]; rfl) (by unfold pOk; rw [e113, hpX, ← hps]; exact decide_eq_true (by omega)) _ _ _ (hP.sub [0, 1, 2, 3] rfl) (hD.sub [0, 1, 2, 3] (by decide) rfl) hS (lv_sub hl [1, 2, 3, 4, 5, 6, 0] rfl)
                            · have e273 : ngB T e d = true := tt_of (fun z => c273 ((bI_0 _).mpr z))
                              refine lv_lload hx hb d_Mod_literal_276 (lv_at hl 6 rfl) ?_
                              refine lv_lneg hx hb d_Mod_literal_278 ?_
                              refine tv_l (lZ (-((min (xv T ps k) 100000000 : Nat) : Int))) (lZ_neg _) ?_
                              refine lv_goto (tgt := 284) hx hb d_Mod_literal_279 (by decide) ?_
                              refine lv_lstore (lv' := [(7, .long (lZ (-((min (xv T ps k) 100000000 : Nat) : Int)))), (0, .ref md), (1, .int (nI (bas hx1))), (2, .int wd), (3, .int (nI a)), (5, .int (nI pt)), (6, .int (nI bh)), (10, .int (bI (ngB T e d))), (11, .int (nI (px - ps))), (12, .int (nI k))]) hx hb d_Mod_literal_284 hl (by decide) rfl (fun ls hl => ?_)
                              exact L286 1 px (-((min (xv T ps k) 100000000 : Nat) : Int)) (by decide) (by unfold pAt; rw [e113]; exact hpX.symm) (by unfold pPw pE; rw [e113, hpX, ← hps, e273, e207]; rfl) (by unfold pOk; rw [e113, hpX, ← hps]; exact decide_eq_true (by omega)) _ _ _ (hP.sub [0, 1, 2, 3] rfl) (hD.sub [0, 1, 2, 3] (by decide) rfl) hS (lv_sub hl [1, 2, 3, 4, 5, 6, 0] rfl)
                          · have e207 : k < px - ps := Nat.lt_of_not_le (fun z => c207 ((nI_leI (by omega) (by omega)).mpr z))
                            have hin := sk_in (β := 10) (T := T) (e := e) (k := ps) (j := ps + k) (by omega) (by rw [← hpx]; omega)
                            have hdd := dg_10 hin.2
                            have hdx := dg10 hdd.1 hdd.2
                            have hms := min_st (xv T ps k) 100000000 (dg (T (ps + k)))
                            have hmb : min (xv T ps k) 100000000 ≤ 100000000 := Nat.min_le_right _ _
                            obtain ⟨mv, hmv⟩ : ∃ x, x = min (xv T ps k) 100000000 := ⟨_, rfl⟩
                            have hxs : xv T ps (k + 1) = xv T ps k * 10 + dg (T (ps + k)) := rfl
                            refine lv_ldc2 hx hb hown (hts _ kK_Mod_125) d_Mod_literal_210 ?_
                            refine lv_lload hx hb d_Mod_literal_213 (lv_at hl 6 rfl) ?_
                            refine lv_lmul hx hb d_Mod_literal_215 ?_
                            refine tv_l (lZ ((10 * mv : Nat) : Int)) (by rw [← hmv]; show lZ 10 * lZ _ = _; rw [lZ_mul]; rfl) ?_
                            refine lv_aload_n hx hb d_Mod_literal_216 rfl (lv_at hl 0 rfl) ?_
                            refine lv_aload_n hx hb d_Mod_literal_217 rfl (lv_at hl 0 rfl) ?_
                            refine va_get (D := D) (ci := 5) (v := .int (nI ps)) (C := R_Mod) (T := F_Mod) (N := 8) hx hb hts w_Mod hown hK hP 0 rfl rfl 6 (by decide) (hts _ kF_Mod_81) (fun _ h9 => h9) rfl d_Mod_literal_218 ?_
                            refine lv_iload hx hb d_Mod_literal_221 (lv_at hl 9 rfl) ?_
                            refine lv_iadd hx hb d_Mod_literal_223 ?_
                            refine tv_i (nI (ps + k)) (nI_add _ _) ?_
                            refine ca_i [(mm, .inl (cM, 3000, .inl (rw16 V))), (nn, .inl (cN, 3, .inl (rc V)))] (va_runV (As := [.int (nI (ps + k))]) (rest := [.long (lZ ((10 * mv : Nat) : Int))]) ⟨hx, hb, hml, hown, hts⟩ (c_Mod_look l D E md xx mm nn cX ln rd R T (nI ps) e he (ps + k) (by omega) H.size) (xV 1 hts kC_Mod_look kM_Mod_84 kI_Mod_look kS_Mod_look kN_Mod rfl rfl (by decide +kernel) ⟨Nat.le_of_ble_eq_true rfl, Nat.le_of_ble_eq_true rfl⟩) ⟨ct_blind hev, va_recv hK hP (ci := 5) (q0 := 0) rfl rfl, ct_pre hev hP hK hD hS hA hE [0, 3] rfl (by decide) [2] rfl⟩ rfl rfl hl.1 rfl (lv_room (Nat.le_of_ble_eq_true rfl)) d_Mod_literal_224 ⟨Nat.le_of_ble_eq_true rfl, Nat.le_of_ble_eq_true rfl⟩) hP hD hS hA [0, 3] [1, 2] rfl rfl (by decide) (by decide) (fun rv u H locs hw hP hD hS hK1 => ?_)
                            subst hw
                            have hP : va_P D vcl [(mm, .inl (cM, 3000, .inl (rw16 V))), (nn, .inl (cN, 3, .inl (rc V))), (md, .inr (5, [.ref xx, .int ln, .long R, .int rd, .ref mm, .ref nn, .int (nI ps), .int (nI e)])), (xx, .inl (cX, 2400, .inl (tx T)))] H := hP
                            have hD : va_D A [(mm, .inl (cM, 3000, .inl (rw16 V))), (nn, .inl (cN, 3, .inl (rc V))), (md, .inr (5, [.ref xx, .int ln, .long R, .int rd, .ref mm, .ref nn, .int (nI ps), .int (nI e)])), (xx, .inl (cX, 2400, .inl (tx T)))] := hD
                            refine lv_i2l (v := (nI (lk T e (ps + k))).toInt64) hx hb d_Mod_literal_227 (rfl) ?_
                            refine tv_l (lZ (T (ps + k) : Int)) (by rw [lk_in hin.1]; exact lZ_nI (by have := hT (ps + k); omega)) ?_
                            refine lv_ladd hx hb d_Mod_literal_228 ?_
                            refine tv_l (lZ (((10 * mv : Nat) : Int) + T (ps + k))) (lZ_add _ _) ?_
                            refine lv_ldc2 hx hb hown (hts _ kK_Mod_127) d_Mod_literal_229 ?_
                            refine lv_lsub hx hb d_Mod_literal_232 ?_
                            refine tv_l (lZ ((mv * 10 + dg (T (ps + k)) : Nat) : Int)) (by show lZ _ - lZ 48 = _; rw [lZ_sub]; exact congrArg lZ (by omega)) ?_
                            refine lv_lstore (lv' := [(7, .long (lZ ((mv * 10 + dg (T (ps + k)) : Nat) : Int))), (0, .ref md), (1, .int (nI (bas hx1))), (2, .int wd), (3, .int (nI a)), (5, .int (nI pt)), (6, .int (nI bh)), (10, .int (bI (ngB T e d))), (11, .int (nI (px - ps))), (12, .int (nI k))]) hx hb d_Mod_literal_233 hl (by decide) rfl (fun ls hl => ?_)
                            refine lv_lload hx hb d_Mod_literal_235 (lv_at hl 0 rfl) ?_
                            refine lv_ldc2 hx hb hown (hts _ kK_Mod_129) d_Mod_literal_237 ?_
                            refine W.lcmp hx hb d_Mod_literal_240 ?_
                            refine lv_if_le (tgt := 250) hx hb d_Mod_literal_241 (by decide) (fun c241 => ?_) (fun c241 => ?_)
                            · have e241 : mv * 10 + dg (T (ps + k)) ≤ 100000000 := by have := (lZ_le (b := 100000000) (by omega) (by omega) (by decide) (by decide)).mp ((lg_cmp_le _ _).mp c241); omega
                              refine lv_lload hx hb d_Mod_literal_250 (lv_at hl 0 rfl) ?_
                              refine tv_l (lZ ((min (xv T ps (k + 1)) 100000000 : Nat) : Int)) (by rw [hxs, ← hms, ← hmv, Nat.min_eq_left e241]) ?_
                              refine lv_lstore (lv' := [(7, .long (lZ ((min (xv T ps (k + 1)) 100000000 : Nat) : Int))), (0, .ref md), (1, .int (nI (bas hx1))), (2, .int wd), (3, .int (nI a)), (5, .int (nI pt)), (6, .int (nI bh)), (10, .int (bI (ngB T e d))), (11, .int (nI (px - ps))), (12, .int (nI k))]) hx hb d_Mod_literal_252 hl (by decide) rfl (fun ls hl => ?_)
                              refine lv_iinc (v := nI (k + 1)) (lv' := [(12, .int (nI (k + 1))), (7, .long (lZ ((min (xv T ps (k + 1)) 100000000 : Nat) : Int))), (0, .ref md), (1, .int (nI (bas hx1))), (2, .int wd), (3, .int (nI a)), (5, .int (nI pt)), (6, .int (nI bh)), (10, .int (bI (ngB T e d))), (11, .int (nI (px - ps)))]) hx hb d_Mod_literal_254 hl (k := 9) rfl (nI_1 k) (by decide) rfl (fun ls hl => ?_)
                              refine lv_goto (tgt := 203) hx hb d_Mod_literal_257 (by decide) ?_
                              exact ih (k + 1) (by omega) (by omega) _ _ _ (hP.sub [2, 0, 1, 3] rfl) (hD.sub [2, 0, 1, 3] (by decide) rfl) hS (lv_sub hl [2, 3, 4, 5, 6, 7, 1, 8, 9, 0] rfl)
                            · have e241 : 100000000 < mv * 10 + dg (T (ps + k)) := by have := mt (lZ_le (a := ((mv * 10 + dg (T (ps + k)) : Nat) : Int)) (b := 100000000) (by omega) (by omega) (by decide) (by decide)).mpr (fun z => c241 ((lg_cmp_le _ _).mpr z)); omega
                              refine lv_ldc2 hx hb hown (hts _ kK_Mod_129) d_Mod_literal_244 ?_
                              refine tv_l (lZ ((min (xv T ps (k + 1)) 100000000 : Nat) : Int)) (by rw [hxs, ← hms, ← hmv, Nat.min_eq_right (by omega)]; rfl) ?_
                              refine lv_goto (tgt := 252) hx hb d_Mod_literal_247 (by decide) ?_
                              refine lv_lstore (lv' := [(7, .long (lZ ((min (xv T ps (k + 1)) 100000000 : Nat) : Int))), (0, .ref md), (1, .int (nI (bas hx1))), (2, .int wd), (3, .int (nI a)), (5, .int (nI pt)), (6, .int (nI bh)), (10, .int (bI (ngB T e d))), (11, .int (nI (px - ps))), (12, .int (nI k))]) hx hb d_Mod_literal_252 hl (by decide) rfl (fun ls hl => ?_)
                              refine lv_iinc (v := nI (k + 1)) (lv' := [(12, .int (nI (k + 1))), (7, .long (lZ ((min (xv T ps (k + 1)) 100000000 : Nat) : Int))), (0, .ref md), (1, .int (nI (bas hx1))), (2, .int wd), (3, .int (nI a)), (5, .int (nI pt)), (6, .int (nI bh)), (10, .int (bI (ngB T e d))), (11, .int (nI (px - ps)))]) hx hb d_Mod_literal_254 hl (k := 9) rfl (nI_1 k) (by decide) rfl (fun ls hl => ?_)
                              refine lv_goto (tgt := 203) hx hb d_Mod_literal_257 (by decide) ?_
                              exact ih (k + 1) (by omega) (by omega) _ _ _ (hP.sub [2, 0, 1, 3] rfl) (hD.sub [2, 0, 1, 3] (by decide) rfl) hS (lv_sub hl [2, 3, 4, 5, 6, 7, 1, 8, 9, 0] rfl)
                      have hl0 : lZ 0 = lZ ((min (xv T ps 0) 100000000 : Nat) : Int) := rfl
                      rw [hl0] at hl
                      exact L203 (px - ps + 1) 0 (by omega) (Nat.zero_le _) _ _ _ (hP.sub [2, 0, 1, 3] rfl) (hD.sub [2, 0, 1, 3] (by decide) rfl) hS (lv_sub hl [2, 3, 4, 5, 6, 7, 8, 9, 1, 0] rfl)
                    · have e193 : px - ps = 0 := (nI_eq0 (by omega)).mp c193
                      refine lv_ldc2 hx hb hown (hts _ kK_Mod_123) d_Mod_literal_196 ?_
                      exact rt_l hx hb hrt hlocks ((nI ps, V)) (⟨fun z => absurd ((oL_2 (by rw [← hd]; unfold pOk; rw [e113, hpX, ← hps]; exact decide_eq_false (by omega))).symm.trans z) (by decide), fun _ => rfl, hV⟩) (hP.sub [2, 0, 1, 3] rfl) (hK.sub [0, 1, 2] rfl) (hD.sub [2, 0, 1, 3] (by decide) rfl) hS d_Mod_literal_199
                refine lv_aload_n hx hb d_Mod_literal_131 rfl (lv_at hl 0 rfl) ?_
                refine lv_aload_n hx hb d_Mod_literal_132 rfl (lv_at hl 0 rfl) ?_
                refine va_get (D := D) (ci := 5) (v := .int (nI (d + 1))) (C := R_Mod) (T := F_Mod) (N := 8) hx hb hts w_Mod hown hK hP 0 rfl rfl 6 (by decide) (hts _ kF_Mod_81) (fun _ h9 => h9) rfl d_Mod_literal_133 ?_
                refine ca_i [(mm, .inl (cM, 3000, .inl (rw16 V))), (nn, .inl (cN, 3, .inl (rc V)))] (va_runV (As := [.int (nI (d + 1))]) (rest := []) ⟨hx, hb, hml, hown, hts⟩ (c_Mod_look l D E md xx mm nn cX ln rd R T (nI (d + 1)) e he (d + 1) (by omega) H.size) (xV 1 hts kC_Mod_look kM_Mod_84 kI_Mod_look kS_Mod_look kN_Mod rfl rfl (by decide +kernel) ⟨Nat.le_of_ble_eq_true rfl, Nat.le_of_ble_eq_true rfl⟩) ⟨ct_blind hev, va_recv hK hP (ci := 5) (q0 := 0) rfl rfl, ct_pre hev hP hK hD hS hA hE [0, 3] rfl (by decide) [2] rfl⟩ rfl rfl hl.1 rfl (lv_room (Nat.le_of_ble_eq_true rfl)) d_Mod_literal_136 ⟨Nat.le_of_ble_eq_true rfl, Nat.le_of_ble_eq_true rfl⟩) hP hD hS hA [0, 3] [1, 2] rfl rfl (by decide) (by decide) (fun rv u H locs hw hP hD hS hK1 => ?_)
                subst hw
                have hP : va_P D vcl [(mm, .inl (cM, 3000, .inl (rw16 V))), (nn, .inl (cN, 3, .inl (rc V))), (md, .inr (5, [.ref xx, .int ln, .long R, .int rd, .ref mm, .ref nn, .int (nI (d + 1)), .int (nI e)])), (xx, .inl (cX, 2400, .inl (tx T)))] H := hP
                have hD : va_D A [(mm, .inl (cM, 3000, .inl (rw16 V))), (nn, .inl (cN, 3, .inl (rc V))), (md, .inr (5, [.ref xx, .int ln, .long R, .int rd, .ref mm, .ref nn, .int (nI (d + 1)), .int (nI e)])), (xx, .inl (cX, 2400, .inl (tx T)))] := hD
                refine lv_bipush (v := 45) hx hb d_Mod_literal_139 (by decide) ?_
                refine lv_icmp_ne (tgt := 148) hx hb d_Mod_literal_141 (by decide) (fun c141 => ?_) (fun c141 => ?_)
                · have e141 : ngB T e d = false := decide_eq_false (fun z => c141 (by rw [z]; rfl))
                  have e141b : lk T e (d + 1) ≠ 45 := fun z => c141 (by rw [z]; rfl)
                  refine lv_iconst (v := 0) hx hb d_Mod_literal_148 (by decide) ?_
                  refine tv_i (bI (ngB T e d)) (by rw [e141]; rfl) ?_
                  refine lv_istore (lv' := [(10, .int (bI (ngB T e d))), (0, .ref md), (1, .int (nI (bas hx1))), (2, .int wd), (3, .int (nI a)), (5, .int (nI pt)), (6, .int (nI bh)), (7, .long (lZ 0)), (9, .int (bI (mkB hx1 T e d)))]) hx hb d_Mod_literal_149 hl (by decide) rfl (fun ls hl => ?_)
                  refine lv_iload hx hb d_Mod_literal_151 (lv_at hl 0 rfl) ?_
                  refine lv_if_ne (tgt := 169) hx hb d_Mod_literal_153 (by decide) (fun c153 => ?_) (fun c153 => ?_)
                  · exact absurd ((bI_0 _).mpr e141) c153
                  · refine lv_aload_n hx hb d_Mod_literal_156 rfl (lv_at hl 1 rfl) ?_
                    refine lv_aload_n hx hb d_Mod_literal_157 rfl (lv_at hl 1 rfl) ?_
                    refine va_get (D := D) (ci := 5) (v := .int (nI (d + 1))) (C := R_Mod) (T := F_Mod) (N := 8) hx hb hts w_Mod hown hK hP 2 rfl rfl 6 (by decide) (hts _ kF_Mod_81) (fun _ h9 => h9) rfl d_Mod_literal_158 ?_
                    refine ca_i [(mm, .inl (cM, 3000, .inl (rw16 V))), (nn, .inl (cN, 3, .inl (rc V)))] (va_runV (As := [.int (nI (d + 1))]) (rest := []) ⟨hx, hb, hml, hown, hts⟩ (c_Mod_look l D E md xx mm nn cX ln rd R T (nI (d + 1)) e he (d + 1) (by omega) H.size) (xV 1 hts kC_Mod_look kM_Mod_84 kI_Mod_look kS_Mod_look kN_Mod rfl rfl (by decide +kernel) ⟨Nat.le_of_ble_eq_true rfl, Nat.le_of_ble_eq_true rfl⟩) ⟨ct_blind hev, va_recv hK hP (ci := 5) (q0 := 2) rfl rfl, ct_pre hev hP hK hD hS hA hE [2, 3] rfl (by decide) [2] rfl⟩ rfl rfl hl.1 rfl (lv_room (Nat.le_of_ble_eq_true rfl)) d_Mod_literal_161 ⟨Nat.le_of_ble_eq_true rfl, Nat.le_of_ble_eq_true rfl⟩) hP hD hS hA [2, 3] [0, 1] rfl rfl (by decide) (by decide) (fun rv u H locs hw hP hD hS hK1 => ?_)
                    subst hw
                    have hP : va_P D vcl [(mm, .inl (cM, 3000, .inl (rw16 V))), (nn, .inl (cN, 3, .inl (rc V))), (md, .inr (5, [.ref xx, .int ln, .long R, .int rd, .ref mm, .ref nn, .int (nI (d + 1)), .int (nI e)])), (xx, .inl (cX, 2400, .inl (tx T)))] H := hP
                    have hD : va_D A [(mm, .inl (cM, 3000, .inl (rw16 V))), (nn, .inl (cN, 3, .inl (rc V))), (md, .inr (5, [.ref xx, .int ln, .long R, .int rd, .ref mm, .ref nn, .int (nI (d + 1)), .int (nI e)])), (xx, .inl (cX, 2400, .inl (tx T)))] := hD
                    refine lv_bipush (v := 43) hx hb d_Mod_literal_164 (by decide) ?_
                    refine lv_icmp_ne (tgt := 179) hx hb d_Mod_literal_166 (by decide) (fun c166 => ?_) (fun c166 => ?_)
                    · have e166 : ¬ (lk T e (d + 1) = 45 ∨ lk T e (d + 1) = 43) := fun z => z.elim e141b (fun z => c166 (by rw [z]; rfl))
                      rw [show nI (d + 1) = nI ps from by rw [hps]; unfold pS; rw [if_neg e166]] at hP hD
                      have hP : va_P D vcl [(mm, .inl (cM, 3000, .inl (rw16 V))), (nn, .inl (cN, 3, .inl (rc V))), (md, .inr (5, [.ref xx, .int ln, .long R, .int rd, .ref mm, .ref nn, .int (nI ps), .int (nI e)])), (xx, .inl (cX, 2400, .inl (tx T)))] H := hP
                      have hD : va_D A [(mm, .inl (cM, 3000, .inl (rw16 V))), (nn, .inl (cN, 3, .inl (rc V))), (md, .inr (5, [.ref xx, .int ln, .long R, .int rd, .ref mm, .ref nn, .int (nI ps), .int (nI e)])), (xx, .inl (cX, 2400, .inl (tx T)))] := hD
                      exact L179 1 0 (by decide)  _ _ _ (hP.sub [2, 0, 1, 3] rfl) (hD.sub [2, 0, 1, 3] (by decide) rfl) hS (lv_sub hl [1, 2, 3, 4, 5, 6, 7, 0] rfl)
                    · have hsg : lk T e (d + 1) = 45 ∨ lk T e (d + 1) = 43 := Or.inr ((nI_eq (b := 43) (by have := lk_b hT e (d + 1); omega) (by decide)).mp c166)
                      refine lv_aload_n hx hb d_Mod_literal_169 rfl (lv_at hl 1 rfl) ?_
                      refine lv_dup hx hb d_Mod_literal_170 rfl ?_
                      refine va_get (D := D) (ci := 5) (v := .int (nI (d + 1))) (C := R_Mod) (T := F_Mod) (N := 8) hx hb hts w_Mod hown hK hP 2 rfl rfl 6 (by decide) (hts _ kF_Mod_81) (fun _ h9 => h9) rfl d_Mod_literal_171 ?_
                      refine lv_iconst (v := 1) hx hb d_Mod_literal_174 (by decide) ?_
                      refine lv_iadd hx hb d_Mod_literal_175 ?_
                      refine tv_i (nI ps) (by rw [hps]; unfold pS; rw [if_pos hsg]; exact nI_add _ 1) ?_
                      refine va_put (D := D) (ci := 5) (v := .int (nI ps)) (ty := .int) (C := R_Mod) (T := F_Mod) (N := 8) hx hb hts w_Mod t_Mod tk_Mod n_Mod hown hK hP hD hS 2 rfl rfl 6 (by decide) (hts _ kF_Mod_81) (fun _ h9 => h9) rfl (by decide +kernel) (rfl) (rfl) (Nat.le_of_ble_eq_true rfl) d_Mod_literal_176 (fun H locs hP hD hS => ?_)
                      have hP : va_P D vcl [(mm, .inl (cM, 3000, .inl (rw16 V))), (nn, .inl (cN, 3, .inl (rc V))), (md, .inr (5, [.ref xx, .int ln, .long R, .int rd, .ref mm, .ref nn, .int (nI ps), .int (nI e)])), (xx, .inl (cX, 2400, .inl (tx T)))] H := hP
                      have hD : va_D A [(mm, .inl (cM, 3000, .inl (rw16 V))), (nn, .inl (cN, 3, .inl (rc V))), (md, .inr (5, [.ref xx, .int ln, .long R, .int rd, .ref mm, .ref nn, .int (nI ps), .int (nI e)])), (xx, .inl (cX, 2400, .inl (tx T)))] := hD
                      exact L179 1 0 (by decide)  _ _ _ (hP.sub [2, 0, 1, 3] rfl) (hD.sub [2, 0, 1, 3] (by decide) rfl) hS (lv_sub hl [1, 2, 3, 4, 5, 6, 7, 0] rfl)
                · have e141b : lk T e (d + 1) = 45 := (nI_eq (b := 45) (by have := lk_b hT e (d + 1); omega) (by decide)).mp c141
                  have e141 : ngB T e d = true := decide_eq_true e141b
                  refine lv_iconst (v := 1) hx hb d_Mod_literal_144 (by decide) ?_
                  refine tv_i (bI (ngB T e d)) (by rw [e141]; rfl) ?_
                  refine lv_goto (tgt := 149) hx hb d_Mod_literal_145 (by decide) ?_
                  refine lv_istore (lv' := [(10, .int (bI (ngB T e d))), (0, .ref md), (1, .int (nI (bas hx1))), (2, .int wd), (3, .int (nI a)), (5, .int (nI pt)), (6, .int (nI bh)), (7, .long (lZ 0)), (9, .int (bI (mkB hx1 T e d)))]) hx hb d_Mod_literal_149 hl (by decide) rfl (fun ls hl => ?_)
                  refine lv_iload hx hb d_Mod_literal_151 (lv_at hl 0 rfl) ?_
                  refine lv_if_ne (tgt := 169) hx hb d_Mod_literal_153 (by decide) (fun c153 => ?_) (fun c153 => ?_)
                  · have hsg : lk T e (d + 1) = 45 ∨ lk T e (d + 1) = 43 := Or.inl e141b
                    refine lv_aload_n hx hb d_Mod_literal_169 rfl (lv_at hl 1 rfl) ?_
                    refine lv_dup hx hb d_Mod_literal_170 rfl ?_
                    refine va_get (D := D) (ci := 5) (v := .int (nI (d + 1))) (C := R_Mod) (T := F_Mod) (N := 8) hx hb hts w_Mod hown hK hP 2 rfl rfl 6 (by decide) (hts _ kF_Mod_81) (fun _ h9 => h9) rfl d_Mod_literal_171 ?_
                    refine lv_iconst (v := 1) hx hb d_Mod_literal_174 (by decide) ?_
                    refine lv_iadd hx hb d_Mod_literal_175 ?_
                    refine tv_i (nI ps) (by rw [hps]; unfold pS; rw [if_pos hsg]; exact nI_add _ 1) ?_
                    refine va_put (D := D) (ci := 5) (v := .int (nI ps)) (ty := .int) (C := R_Mod) (T := F_Mod) (N := 8) hx hb hts w_Mod t_Mod tk_Mod n_Mod hown hK hP hD hS 2 rfl rfl 6 (by decide) (hts _ kF_Mod_81) (fun _ h9 => h9) rfl (by decide +kernel) (rfl) (rfl) (Nat.le_of_ble_eq_true rfl) d_Mod_literal_176 (fun H locs hP hD hS => ?_)
                    have hP : va_P D vcl [(mm, .inl (cM, 3000, .inl (rw16 V))), (nn, .inl (cN, 3, .inl (rc V))), (md, .inr (5, [.ref xx, .int ln, .long R, .int rd, .ref mm, .ref nn, .int (nI ps), .int (nI e)])), (xx, .inl (cX, 2400, .inl (tx T)))] H := hP
                    have hD : va_D A [(mm, .inl (cM, 3000, .inl (rw16 V))), (nn, .inl (cN, 3, .inl (rc V))), (md, .inr (5, [.ref xx, .int ln, .long R, .int rd, .ref mm, .ref nn, .int (nI ps), .int (nI e)])), (xx, .inl (cX, 2400, .inl (tx T)))] := hD
                    exact L179 1 0 (by decide)  _ _ _ (hP.sub [2, 0, 1, 3] rfl) (hD.sub [2, 0, 1, 3] (by decide) rfl) hS (lv_sub hl [1, 2, 3, 4, 5, 6, 7, 0] rfl)
                  · exact absurd (e141.symm.trans ((bI_0 _).mp c153)) (by decide)
            · have e113 : mkB hx1 T e d = false := (bI_0 _).mp c113
              refine lv_iload_n hx hb d_Mod_literal_116 rfl (lv_at hl 1 rfl) ?_
              refine lv_bipush (v := 16) hx hb d_Mod_literal_117 (by decide) ?_
              refine lv_icmp_ne (tgt := 126) hx hb d_Mod_literal_119 (by decide) (fun c119 => ?_) (fun c119 => ?_)
              · have e119 : hx1 = false := by
                  cases hx1
                  · rfl
                  · exact absurd rfl c119
                refine lv_iload hx hb d_Mod_literal_126 (lv_at hl 7 rfl) ?_
                refine lv_if_eq (tgt := 286) hx hb d_Mod_literal_128 (by decide) (fun c128 => ?_) (fun c128 => ?_)
                · rw [show nI (if mkB hx1 T e d = true then d + 1 else d) = nI d from by rw [e113]; rfl] at hP hD
                  have hP : va_P D vcl [(md, .inr (5, [.ref xx, .int ln, .long R, .int rd, .ref mm, .ref nn, .int (nI d), .int (nI e)])), (mm, .inl (cM, 3000, .inl (rw16 V))), (nn, .inl (cN, 3, .inl (rc V))), (xx, .inl (cX, 2400, .inl (tx T)))] H := hP
                  have hD : va_D A [(md, .inr (5, [.ref xx, .int ln, .long R, .int rd, .ref mm, .ref nn, .int (nI d), .int (nI e)])), (mm, .inl (cM, 3000, .inl (rw16 V))), (nn, .inl (cN, 3, .inl (rc V))), (xx, .inl (cX, 2400, .inl (tx T)))] := hD
                  exact L286 1 d 0 (by decide) (by unfold pAt; rw [e113]; rfl) (by unfold pPw; rw [e113]; rfl) (by unfold pOk; rw [e113, e119]; rfl) _ _ _ (hP.sub [0, 1, 2, 3] rfl) (hD.sub [0, 1, 2, 3] (by decide) rfl) hS (lv_sub hl [0, 1, 2, 3, 4, 5, 6] rfl)
                · exact absurd ((bI_0 _).mpr e113) c128
              · have e119 : hx1 = true := by
                  cases hx1
                  · exact absurd c119 (by decide)
                  · rfl
                refine lv_ldc2 hx hb hown (hts _ kK_Mod_123) d_Mod_literal_122 ?_
                exact rt_l hx hb hrt hlocks ((nI (if mkB hx1 T e d = true then d + 1 else d), V)) (⟨fun z => absurd ((oL_2 (by rw [← hd]; unfold pOk; rw [e113, e119]; rfl)).symm.trans z) (by decide), fun _ => rfl, hV⟩) (hP.sub [0, 1, 2, 3] rfl) (hK.sub [0, 1, 2] rfl) (hD.sub [0, 1, 2, 3] (by decide) rfl) hS d_Mod_literal_125
        refine lv_lconst (v := 0) hx hb d_Mod_literal_81 (by decide) ?_
        refine tv_l (lZ 0) (rfl) ?_
        refine lv_lstore (lv' := [(7, .long (lZ 0)), (0, .ref md), (1, .int (nI (bas hx1))), (2, .int wd), (3, .int (nI a)), (5, .int (nI pt)), (6, .int (nI bh)), (4, .int (nI (pt - a)))]) hx hb d_Mod_literal_82 hl (by decide) rfl (fun ls hl => ?_)
        refine lv_iload_n hx hb d_Mod_literal_84 rfl (lv_at hl 2 rfl) ?_
        refine lv_bipush (v := 16) hx hb d_Mod_literal_85 (by decide) ?_
        refine lv_icmp_ne (tgt := 101) hx hb d_Mod_literal_87 (by decide) (fun c87 => ?_) (fun c87 => ?_)
        · have e87 : hx1 = false := by
            cases hx1
            · rfl
            · exact absurd rfl c87
          refine lv_aload_n hx hb d_Mod_literal_101 rfl (lv_at hl 1 rfl) ?_
          refine lv_bipush (v := 101) hx hb d_Mod_literal_102 (by decide) ?_
          refine lv_bipush (v := 69) hx hb d_Mod_literal_104 (by decide) ?_
          refine ca_i [(mm, .inl (cM, 3000, .inl (rw16 V))), (nn, .inl (cN, 3, .inl (rc V)))] (va_runV (As := [.int 101, .int 69]) (rest := []) ⟨hx, hb, hml, hown, hts⟩ (c_Mod_skips l D E md xx mm nn cX ln rd R T hT e he d (by omega) 101 69 (by decide) (by decide) H.size) (xV 2 hts kC_Mod_skips kM_Mod_119 kI_Mod_skips kS_Mod_skips kN_Mod rfl rfl (by decide +kernel) ⟨Nat.le_of_ble_eq_true rfl, Nat.le_of_ble_eq_true rfl⟩) ⟨ct_blind hev, va_recv hK hP (ci := 5) (q0 := 0) rfl rfl, ct_pre hev hP hK hD hS hA hE [0, 3] rfl (by decide) [2] rfl⟩ rfl rfl hl.1 rfl (lv_room (Nat.le_of_ble_eq_true rfl)) d_Mod_literal_106 ⟨Nat.le_of_ble_eq_true rfl, Nat.le_of_ble_eq_true rfl⟩) hP hD hS hA [0, 3] [1, 2] rfl rfl (by decide) (by decide) (fun rv u H locs hw hP hD hS hK1 => ?_)
          subst hw
          have hP : va_P D vcl [(mm, .inl (cM, 3000, .inl (rw16 V))), (nn, .inl (cN, 3, .inl (rc V))), (md, .inr (5, [.ref xx, .int ln, .long R, .int rd, .ref mm, .ref nn, .int (nI (if lk T e d = 101 ∨ lk T e d = 69 then d + 1 else d)), .int (nI e)])), (xx, .inl (cX, 2400, .inl (tx T)))] H := hP
          have hD : va_D A [(mm, .inl (cM, 3000, .inl (rw16 V))), (nn, .inl (cN, 3, .inl (rc V))), (md, .inr (5, [.ref xx, .int ln, .long R, .int rd, .ref mm, .ref nn, .int (nI (if lk T e d = 101 ∨ lk T e d = 69 then d + 1 else d)), .int (nI e)])), (xx, .inl (cX, 2400, .inl (tx T)))] := hD
          refine tv_i (bI (mkB hx1 T e d)) (by rw [e87]; rfl) ?_
          rw [show nI (if lk T e d = 101 ∨ lk T e d = 69 then d + 1 else d) = nI (if mkB hx1 T e d = true then d + 1 else d) from by rw [e87, ite_dec]; rfl] at hP hD
          have hP : va_P D vcl [(mm, .inl (cM, 3000, .inl (rw16 V))), (nn, .inl (cN, 3, .inl (rc V))), (md, .inr (5, [.ref xx, .int ln, .long R, .int rd, .ref mm, .ref nn, .int (nI (if mkB hx1 T e d = true then d + 1 else d)), .int (nI e)])), (xx, .inl (cX, 2400, .inl (tx T)))] H := hP
          have hD : va_D A [(mm, .inl (cM, 3000, .inl (rw16 V))), (nn, .inl (cN, 3, .inl (rc V))), (md, .inr (5, [.ref xx, .int ln, .long R, .int rd, .ref mm, .ref nn, .int (nI (if mkB hx1 T e d = true then d + 1 else d)), .int (nI e)])), (xx, .inl (cX, 2400, .inl (tx T)))] := hD
          refine lv_istore (lv' := [(9, .int (bI (mkB hx1 T e d))), (7, .long (lZ 0)), (0, .ref md), (1, .int (nI (bas hx1))), (2, .int wd), (3, .int (nI a)), (5, .int (nI pt)), (6, .int (nI bh)), (4, .int (nI (pt - a)))]) hx hb d_Mod_literal_109 hl (by decide) rfl (fun ls hl => ?_)
          exact L111 1 0 (by decide) (hdn) _ _ _ (hP.sub [2, 0, 1, 3] rfl) (hD.sub [2, 0, 1, 3] (by decide) rfl) hS (lv_sub hl [2, 3, 4, 5, 6, 7, 1, 0] rfl)
        · have e87 : hx1 = true := by
            cases hx1
            · exact absurd c87 (by decide)
            · rfl
          refine lv_aload_n hx hb d_Mod_literal_90 rfl (lv_at hl 1 rfl) ?_
          refine lv_bipush (v := 112) hx hb d_Mod_literal_91 (by decide) ?_
          refine lv_bipush (v := 80) hx hb d_Mod_literal_93 (by decide) ?_
          refine ca_i [(mm, .inl (cM, 3000, .inl (rw16 V))), (nn, .inl (cN, 3, .inl (rc V)))] (va_runV (As := [.int 112, .int 80]) (rest := []) ⟨hx, hb, hml, hown, hts⟩ (c_Mod_skips l D E md xx mm nn cX ln rd R T hT e he d (by omega) 112 80 (by decide) (by decide) H.size) (xV 2 hts kC_Mod_skips kM_Mod_119 kI_Mod_skips kS_Mod_skips kN_Mod rfl rfl (by decide +kernel) ⟨Nat.le_of_ble_eq_true rfl, Nat.le_of_ble_eq_true rfl⟩) ⟨ct_blind hev, va_recv hK hP (ci := 5) (q0 := 0) rfl rfl, ct_pre hev hP hK hD hS hA hE [0, 3] rfl (by decide) [2] rfl⟩ rfl rfl hl.1 rfl (lv_room (Nat.le_of_ble_eq_true rfl)) d_Mod_literal_95 ⟨Nat.le_of_ble_eq_true rfl, Nat.le_of_ble_eq_true rfl⟩) hP hD hS hA [0, 3] [1, 2] rfl rfl (by decide) (by decide) (fun rv u H locs hw hP hD hS hK1 => ?_)
          subst hw
          have hP : va_P D vcl [(mm, .inl (cM, 3000, .inl (rw16 V))), (nn, .inl (cN, 3, .inl (rc V))), (md, .inr (5, [.ref xx, .int ln, .long R, .int rd, .ref mm, .ref nn, .int (nI (if lk T e d = 112 ∨ lk T e d = 80 then d + 1 else d)), .int (nI e)])), (xx, .inl (cX, 2400, .inl (tx T)))] H := hP
          have hD : va_D A [(mm, .inl (cM, 3000, .inl (rw16 V))), (nn, .inl (cN, 3, .inl (rc V))), (md, .inr (5, [.ref xx, .int ln, .long R, .int rd, .ref mm, .ref nn, .int (nI (if lk T e d = 112 ∨ lk T e d = 80 then d + 1 else d)), .int (nI e)])), (xx, .inl (cX, 2400, .inl (tx T)))] := hD
          refine tv_i (bI (mkB hx1 T e d)) (by rw [e87]; rfl) ?_
          rw [show nI (if lk T e d = 112 ∨ lk T e d = 80 then d + 1 else d) = nI (if mkB hx1 T e d = true then d + 1 else d) from by rw [e87, ite_dec]; rfl] at hP hD
          have hP : va_P D vcl [(mm, .inl (cM, 3000, .inl (rw16 V))), (nn, .inl (cN, 3, .inl (rc V))), (md, .inr (5, [.ref xx, .int ln, .long R, .int rd, .ref mm, .ref nn, .int (nI (if mkB hx1 T e d = true then d + 1 else d)), .int (nI e)])), (xx, .inl (cX, 2400, .inl (tx T)))] H := hP
          have hD : va_D A [(mm, .inl (cM, 3000, .inl (rw16 V))), (nn, .inl (cN, 3, .inl (rc V))), (md, .inr (5, [.ref xx, .int ln, .long R, .int rd, .ref mm, .ref nn, .int (nI (if mkB hx1 T e d = true then d + 1 else d)), .int (nI e)])), (xx, .inl (cX, 2400, .inl (tx T)))] := hD
          refine lv_goto (tgt := 109) hx hb d_Mod_literal_98 (by decide) ?_
          refine lv_istore (lv' := [(9, .int (bI (mkB hx1 T e d))), (7, .long (lZ 0)), (0, .ref md), (1, .int (nI (bas hx1))), (2, .int wd), (3, .int (nI a)), (5, .int (nI pt)), (6, .int (nI bh)), (4, .int (nI (pt - a)))]) hx hb d_Mod_literal_109 hl (by decide) rfl (fun ls hl => ?_)
          exact L111 1 0 (by decide) (hdn) _ _ _ (hP.sub [2, 0, 1, 3] rfl) (hD.sub [2, 0, 1, 3] (by decide) rfl) hS (lv_sub hl [2, 3, 4, 5, 6, 7, 1, 0] rfl)
      · have hdn : pt - a + bh = 0 := (nI_eq0 (by omega)).mp c74
        refine lv_ldc2 hx hb hown (hts _ kK_Mod_123) d_Mod_literal_77 ?_
        exact rt_l hx hb hrt hlocks ((nI d, V)) (⟨fun z => absurd ((oL_1 (by rw [hgb.2.2]; omega)).symm.trans z) (by decide), fun _ => rfl, hV⟩) (hP.sub [0, 1, 2, 3] rfl) (hK.sub [0, 1, 2] rfl) (hD.sub [0, 1, 2, 3] (by decide) rfl) hS d_Mod_literal_80
  refine lv_aload_n hx hb d_Mod_literal_36 rfl (lv_at hl 4 rfl) ?_
  refine lv_bipush (v := 46) hx hb d_Mod_literal_37 (by decide) ?_
  refine lv_bipush (v := 46) hx hb d_Mod_literal_39 (by decide) ?_
  refine ca_i [(mm, .inl (cM, 3000, .inl (rw16 V))), (nn, .inl (cN, 3, .inl (rc V)))] (va_runV (As := [.int 46, .int 46]) (rest := []) ⟨hx, hb, hml, hown, hts⟩ (c_Mod_skips l D E md xx mm nn cX ln rd R T hT e he pt (by omega) 46 46 (by decide) (by decide) H.size) (xV 2 hts kC_Mod_skips kM_Mod_119 kI_Mod_skips kS_Mod_skips kN_Mod rfl rfl (by decide +kernel) ⟨Nat.le_of_ble_eq_true rfl, Nat.le_of_ble_eq_true rfl⟩) ⟨ct_blind hev, va_recv hK hP (ci := 5) (q0 := 2) rfl rfl, ct_pre hev hP hK hD hS hA hE [2, 3] rfl (by decide) [2] rfl⟩ rfl rfl hl.1 rfl (lv_room (Nat.le_of_ble_eq_true rfl)) d_Mod_literal_41 ⟨Nat.le_of_ble_eq_true rfl, Nat.le_of_ble_eq_true rfl⟩) hP hD hS hA [2, 3] [0, 1] rfl rfl (by decide) (by decide) (fun rv u H locs hw hP hD hS hK1 => ?_)
  subst hw
  have hP : va_P D vcl [(mm, .inl (cM, 3000, .inl (rw16 V))), (nn, .inl (cN, 3, .inl (rc V))), (md, .inr (5, [.ref xx, .int ln, .long R, .int rd, .ref mm, .ref nn, .int (nI (if lk T e pt = 46 ∨ lk T e pt = 46 then pt + 1 else pt)), .int (nI e)])), (xx, .inl (cX, 2400, .inl (tx T)))] H := hP
  have hD : va_D A [(mm, .inl (cM, 3000, .inl (rw16 V))), (nn, .inl (cN, 3, .inl (rc V))), (md, .inr (5, [.ref xx, .int ln, .long R, .int rd, .ref mm, .ref nn, .int (nI (if lk T e pt = 46 ∨ lk T e pt = 46 then pt + 1 else pt)), .int (nI e)])), (xx, .inl (cX, 2400, .inl (tx T)))] := hD
  refine lv_if_eq (tgt := 69) hx hb d_Mod_literal_44 (by decide) (fun c44 => ?_) (fun c44 => ?_)
  · have e44 : lk T e pt ≠ 46 := by have h9 := of_decide_eq_false ((bI_0 _).mp c44); exact fun z => h9 (Or.inl z)
    obtain ⟨hb0, hd0⟩ := hdc.2 e44
    rw [show nI (if lk T e pt = 46 ∨ lk T e pt = 46 then pt + 1 else pt) = nI d from by rw [if_neg (fun z => z.elim e44 e44), hd0]] at hP hD
    have hP : va_P D vcl [(mm, .inl (cM, 3000, .inl (rw16 V))), (nn, .inl (cN, 3, .inl (rc V))), (md, .inr (5, [.ref xx, .int ln, .long R, .int rd, .ref mm, .ref nn, .int (nI d), .int (nI e)])), (xx, .inl (cX, 2400, .inl (tx T)))] H := hP
    have hD : va_D A [(mm, .inl (cM, 3000, .inl (rw16 V))), (nn, .inl (cN, 3, .inl (rc V))), (md, .inr (5, [.ref xx, .int ln, .long R, .int rd, .ref mm, .ref nn, .int (nI d), .int (nI e)])), (xx, .inl (cX, 2400, .inl (tx T)))] := hD
    have hb00 : nI 0 = nI bh := by rw [hb0]
    rw [hb00] at hl
    exact L69 1 0 (by decide)  _ _ _ (hP.sub [2, 0, 1, 3] rfl) (hD.sub [2, 0, 1, 3] (by decide) rfl) hS (lv_sub hl [4, 5, 6, 3, 1, 0, 2] rfl)
  · have e44 : lk T e pt = 46 := (of_decide_eq_true (tt_of (fun z => c44 ((bI_0 _).mpr z)))).elim id id
    obtain ⟨hb0, hb1, hd0, hde0⟩ := hdc.1 e44
    rw [show nI (if lk T e pt = 46 ∨ lk T e pt = 46 then pt + 1 else pt) = nI (pt + 1) from by rw [if_pos (Or.inl e44)]] at hP hD
    have hP : va_P D vcl [(mm, .inl (cM, 3000, .inl (rw16 V))), (nn, .inl (cN, 3, .inl (rc V))), (md, .inr (5, [.ref xx, .int ln, .long R, .int rd, .ref mm, .ref nn, .int (nI (pt + 1)), .int (nI e)])), (xx, .inl (cX, 2400, .inl (tx T)))] H := hP
    have hD : va_D A [(mm, .inl (cM, 3000, .inl (rw16 V))), (nn, .inl (cN, 3, .inl (rc V))), (md, .inr (5, [.ref xx, .int ln, .long R, .int rd, .ref mm, .ref nn, .int (nI (pt + 1)), .int (nI e)])), (xx, .inl (cX, 2400, .inl (tx T)))] := hD
    refine lv_aload_n hx hb d_Mod_literal_47 rfl (lv_at hl 4 rfl) ?_
    refine lv_aload_n hx hb d_Mod_literal_48 rfl (lv_at hl 4 rfl) ?_
    refine va_get (D := D) (ci := 5) (v := .int (nI (pt + 1))) (C := R_Mod) (T := F_Mod) (N := 8) hx hb hts w_Mod hown hK hP 2 rfl rfl 6 (by decide) (hts _ kF_Mod_81) (fun _ h9 => h9) rfl d_Mod_literal_49 ?_
    refine lv_iload_n hx hb d_Mod_literal_52 rfl (lv_at hl 5 rfl) ?_
    refine ca_i [(mm, .inl (cM, 3000, .inl (rw16 V))), (nn, .inl (cN, 3, .inl (rc V)))] (va_runV (As := [.int (nI (pt + 1)), .int (nI (bas hx1))]) (rest := []) ⟨hx, hb, hml, hown, hts⟩ (c_Mod_digits l D E md xx mm nn cX ln rd R T (nI (pt + 1)) hT e he (pt + 1) (by omega) (bas hx1) (hb16) H.size) (xV 2 hts kC_Mod_digits kM_Mod_116 kI_Mod_digits kS_Mod_digits kN_Mod rfl rfl (by decide +kernel) ⟨Nat.le_of_ble_eq_true rfl, Nat.le_of_ble_eq_true rfl⟩) ⟨ct_blind hev, va_recv hK hP (ci := 5) (q0 := 2) rfl rfl, ct_pre hev hP hK hD hS hA hE [2, 3] rfl (by decide) [2] rfl⟩ rfl rfl hl.1 rfl (lv_room (Nat.le_of_ble_eq_true rfl)) d_Mod_literal_53 ⟨Nat.le_of_ble_eq_true rfl, Nat.le_of_ble_eq_true rfl⟩) hP hD hS hA [2, 3] [0, 1] rfl rfl (by decide) (by decide) (fun rv u H locs hw hP hD hS hK1 => ?_)
    subst hw
    have hP : va_P D vcl [(mm, .inl (cM, 3000, .inl (rw16 V))), (nn, .inl (cN, 3, .inl (rc V))), (md, .inr (5, [.ref xx, .int ln, .long R, .int rd, .ref mm, .ref nn, .int (nI (pt + 1)), .int (nI e)])), (xx, .inl (cX, 2400, .inl (tx T)))] H := hP
    have hD : va_D A [(mm, .inl (cM, 3000, .inl (rw16 V))), (nn, .inl (cN, 3, .inl (rc V))), (md, .inr (5, [.ref xx, .int ln, .long R, .int rd, .ref mm, .ref nn, .int (nI (pt + 1)), .int (nI e)])), (xx, .inl (cX, 2400, .inl (tx T)))] := hD
    refine tv_i (nI bh) (by rw [hb1]) ?_
    refine lv_istore (lv' := [(6, .int (nI bh)), (5, .int (nI pt)), (4, .int (nI (pt - a))), (3, .int (nI a)), (0, .ref md), (1, .int (nI (bas hx1))), (2, .int wd)]) hx hb d_Mod_literal_56 hl (by decide) rfl (fun ls hl => ?_)
    refine lv_aload_n hx hb d_Mod_literal_58 rfl (lv_at hl 4 rfl) ?_
    refine lv_dup hx hb d_Mod_literal_59 rfl ?_
    refine va_get (D := D) (ci := 5) (v := .int (nI (pt + 1))) (C := R_Mod) (T := F_Mod) (N := 8) hx hb hts w_Mod hown hK hP 2 rfl rfl 6 (by decide) (hts _ kF_Mod_81) (fun _ h9 => h9) rfl d_Mod_literal_60 ?_
    refine lv_iload hx hb d_Mod_literal_63 (lv_at hl 0 rfl) ?_
    refine lv_iadd hx hb d_Mod_literal_65 ?_
    refine tv_i (nI d) (by rw [nI_add, hd0]) ?_
    refine va_put (D := D) (ci := 5) (v := .int (nI d)) (ty := .int) (C := R_Mod) (T := F_Mod) (N := 8) hx hb hts w_Mod t_Mod tk_Mod n_Mod hown hK hP hD hS 2 rfl rfl 6 (by decide) (hts _ kF_Mod_81) (fun _ h9 => h9) rfl (by decide +kernel) (rfl) (rfl) (Nat.le_of_ble_eq_true rfl) d_Mod_literal_66 (fun H locs hP hD hS => ?_)
    have hP : va_P D vcl [(mm, .inl (cM, 3000, .inl (rw16 V))), (nn, .inl (cN, 3, .inl (rc V))), (md, .inr (5, [.ref xx, .int ln, .long R, .int rd, .ref mm, .ref nn, .int (nI d), .int (nI e)])), (xx, .inl (cX, 2400, .inl (tx T)))] H := hP
    have hD : va_D A [(mm, .inl (cM, 3000, .inl (rw16 V))), (nn, .inl (cN, 3, .inl (rc V))), (md, .inr (5, [.ref xx, .int ln, .long R, .int rd, .ref mm, .ref nn, .int (nI d), .int (nI e)])), (xx, .inl (cX, 2400, .inl (tx T)))] := hD
    exact L69 1 0 (by decide)  _ _ _ (hP.sub [2, 0, 1, 3] rfl) (hD.sub [2, 0, 1, 3] (by decide) rfl) hS (lv_sub hl [4, 5, 6, 3, 1, 0, 2] rfl)

set_option maxHeartbeats 4000000 in
set_option maxRecDepth 100000 in
theorem c_Mod_read (l : Launch) (D : va_G) (E : evD) (md xx mm nn : Nat) (cM cN cX : ClassId) (V : Nat → Nat) (rd at0 en0 : Int32) (R : Int64) (T : Nat → Nat) (hT : ∀ j, T j < 256) (n : Nat) (hn : n ≤ 2400) (hV : okV V) (i : Nat) (hi : i < 2) (wd : Int32) (hwd : knd wd = i) : Ci (S := (Int32 × Int32 × (Nat → Nat))) l y_Mod_read (wz y_Mod_read b_Mod_read 6 (some .boolean)) ({ frames := 6, cells := 0, slots := 0, locals := 179 }) D vcl (ev1 E) [.ref md, .int wd] [(cM, .int), (cN, .int), (cX, .int)] [(md, .inr (5, [.ref xx, .int (nI n), .long R, .int rd, .ref mm, .ref nn, .int at0, .int en0])), (mm, .inl (cM, 3000, .inl (rw16 V))), (nn, .inl (cN, 3, .inl (rc V))), (xx, .inl (cX, 2400, .inl (tx T)))] 0 0 (fun (w : Int32) (u : (Int32 × Int32 × (Nat → Nat))) => w = bI (decide (xF T n ≠ 0)) ∧ okV u.2.2) (fun _ => [(cM, .int), (cN, .int), (cX, .int)]) (fun u : (Int32 × Int32 × (Nat → Nat)) => [(md, .inr (5, [.ref xx, .int (nI n), .long (rdR i T n R), .int (rdF T n rd), .ref mm, .ref nn, .int u.1, .int u.2.1])), (mm, .inl (cM, 3000, .inl (rw16 u.2.2))), (nn, .inl (cN, 3, .inl (rc u.2.2))), (xx, .inl (cX, 2400, .inl (tx T)))]) := by
  have hev := ev1_ok E
  unfold Ci
  refine ct_of (y := y_Mod_read) (av := [.ref md, .int wd]) (cc := b_Mod_read) (maxL := 6) (ret := (some .boolean)) (Qc := fun A => va_Qi (S := (Int32 × Int32 × (Nat → Nat))) (fun (w : Int32) (u : (Int32 × Int32 × (Nat → Nat))) => w = bI (decide (xF T n ≠ 0)) ∧ okV u.2.2) (fun u tS => ctB D vcl ((fun _ => [(cM, .int), (cN, .int), (cX, .int)]) u) ((fun u : (Int32 × Int32 × (Nat → Nat)) => [(md, .inr (5, [.ref xx, .int (nI n), .long (rdR i T n R), .int (rdF T n rd), .ref mm, .ref nn, .int u.1, .int u.2.1])), (mm, .inl (cM, 3000, .inl (rw16 u.2.2))), (nn, .inl (cN, 3, .inl (rc u.2.2))), (xx, .inl (cX, 2400, .inl (tx T)))]) u) A tS) A) (by decide) rfl (Nat.le_of_ble_eq_true rfl) ?_
  intro p ee s m below meth cde ls A H locs hx hb hml hrt hlocks hown hin hts hA hP hK hD hS hE hl
  have hown : s.vm.findClass R_Mod = some m.cls := hown
  have hts := wz_g hts
  have hl : lv_has ls 6 [(0, .ref md), (1, .int wd)] := hl
  refine lv_aload_n hx hb d_Mod_read_0 rfl (lv_at hl 0 rfl) ?_
  refine lv_iconst (v := 0) hx hb d_Mod_read_1 (by decide) ?_
  refine tv_i (nI 0) (rfl) ?_
  refine va_put (D := D) (ci := 5) (v := .int (nI 0)) (ty := .int) (C := R_Mod) (T := F_Mod) (N := 8) hx hb hts w_Mod t_Mod tk_Mod n_Mod hown hK hP hD hS 0 rfl rfl 6 (by decide) (hts _ kF_Mod_81) (fun _ h9 => h9) rfl (by decide +kernel) (rfl) (rfl) (Nat.le_of_ble_eq_true rfl) d_Mod_read_2 (fun H locs hP hD hS => ?_)
  have hP : va_P D vcl [(md, .inr (5, [.ref xx, .int (nI n), .long R, .int rd, .ref mm, .ref nn, .int (nI 0), .int en0])), (mm, .inl (cM, 3000, .inl (rw16 V))), (nn, .inl (cN, 3, .inl (rc V))), (xx, .inl (cX, 2400, .inl (tx T)))] H := hP
  have hD : va_D A [(md, .inr (5, [.ref xx, .int (nI n), .long R, .int rd, .ref mm, .ref nn, .int (nI 0), .int en0])), (mm, .inl (cM, 3000, .inl (rw16 V))), (nn, .inl (cN, 3, .inl (rc V))), (xx, .inl (cX, 2400, .inl (tx T)))] := hD
  refine lv_aload_n hx hb d_Mod_read_5 rfl (lv_at hl 0 rfl) ?_
  refine lv_aload_n hx hb d_Mod_read_6 rfl (lv_at hl 0 rfl) ?_
  refine va_get (D := D) (ci := 5) (v := .int (nI n)) (C := R_Mod) (T := F_Mod) (N := 8) hx hb hts w_Mod hown hK hP 0 rfl rfl 1 (by decide) (hts _ kF_Mod_74) (fun _ h9 => h9) rfl d_Mod_read_7 ?_
  refine va_put (D := D) (ci := 5) (v := .int (nI n)) (ty := .int) (C := R_Mod) (T := F_Mod) (N := 8) hx hb hts w_Mod t_Mod tk_Mod n_Mod hown hK hP hD hS 0 rfl rfl 7 (by decide) (hts _ kF_Mod_78) (fun _ h9 => h9) rfl (by decide +kernel) (rfl) (rfl) (Nat.le_of_ble_eq_true rfl) d_Mod_read_10 (fun H locs hP hD hS => ?_)
  have hP : va_P D vcl [(md, .inr (5, [.ref xx, .int (nI n), .long R, .int rd, .ref mm, .ref nn, .int (nI 0), .int (nI n)])), (mm, .inl (cM, 3000, .inl (rw16 V))), (nn, .inl (cN, 3, .inl (rc V))), (xx, .inl (cX, 2400, .inl (tx T)))] H := hP
  have hD : va_D A [(md, .inr (5, [.ref xx, .int (nI n), .long R, .int rd, .ref mm, .ref nn, .int (nI 0), .int (nI n)])), (mm, .inl (cM, 3000, .inl (rw16 V))), (nn, .inl (cN, 3, .inl (rc V))), (xx, .inl (cX, 2400, .inl (tx T)))] := hD
  have L91 : ∀ (kk : Nat) (a : Nat) (e : Nat), 0 < kk → (a ≤ e) → (e ≤ n) → ((a = xA T n ∧ e = xE T n) ∨ (a = e ∧ xF T n = 0)) → ∀ (H : Heap) (locs : List Loc) (ls : Array Slot), va_P D vcl [(md, .inr (5, [.ref xx, .int (nI n), .long R, .int rd, .ref mm, .ref nn, .int (nI a), .int (nI e)])), (mm, .inl (cM, 3000, .inl (rw16 V))), (nn, .inl (cN, 3, .inl (rc V))), (xx, .inl (cX, 2400, .inl (tx T)))] H → va_D A [(md, .inr (5, [.ref xx, .int (nI n), .long R, .int rd, .ref mm, .ref nn, .int (nI a), .int (nI e)])), (mm, .inl (cM, 3000, .inl (rw16 V))), (nn, .inl (cN, 3, .inl (rc V))), (xx, .inl (cX, 2400, .inl (tx T)))] → va_S A s.heap H locs → lv_has ls 6 [(0, .ref md), (1, .int wd)] → W p l ee ({ frames := 6, cells := 0, slots := 0, locals := 179 }) s m ([.ref md, .int wd] : List Value).toArray below meth cde H locs 0 0 (MQ below (va_Qi (S := (Int32 × Int32 × (Nat → Nat))) (fun (w : Int32) (u : (Int32 × Int32 × (Nat → Nat))) => w = bI (decide (xF T n ≠ 0)) ∧ okV u.2.2) (fun u tS => ctB D vcl ((fun _ => [(cM, .int), (cN, .int), (cX, .int)]) u) ((fun u : (Int32 × Int32 × (Nat → Nat)) => [(md, .inr (5, [.ref xx, .int (nI n), .long (rdR i T n R), .int (rdF T n rd), .ref mm, .ref nn, .int u.1, .int u.2.1])), (mm, .inl (cM, 3000, .inl (rw16 u.2.2))), (nn, .inl (cN, 3, .inl (rc u.2.2))), (xx, .inl (cX, 2400, .inl (tx T)))]) u) A tS) A) ([.ref md, .int wd] : List Value).toArray s 0 0 A) (F0 m 91 ls []) := by
    intro kk
    induction kk with
    | zero => intro a e hmz; exact absurd hmz (Nat.not_lt_zero _)
    | succ kk ih =>
      intro a e hmz hae hen hdj H locs ls hP hD hS hl
      have he : e ≤ 2400 := by omega
      obtain ⟨hg1, hg2⟩ := gF_of hdj
      obtain ⟨pp, hpp⟩ : ∃ x, x = gP T e a := ⟨_, rfl⟩
      rw [← hpp] at hg1
      have hppe : pp ≤ e := by rw [hpp]; exact gP_le hae
      have hlb := lk_b hT e a
      have L137 : ∀ (kk : Nat) (u0 : Nat), 0 < kk → ∀ (H : Heap) (locs : List Loc) (ls : Array Slot), va_P D vcl [(md, .inr (5, [.ref xx, .int (nI n), .long R, .int rd, .ref mm, .ref nn, .int (nI pp), .int (nI e)])), (mm, .inl (cM, 3000, .inl (rw16 V))), (nn, .inl (cN, 3, .inl (rc V))), (xx, .inl (cX, 2400, .inl (tx T)))] H → va_D A [(md, .inr (5, [.ref xx, .int (nI n), .long R, .int rd, .ref mm, .ref nn, .int (nI pp), .int (nI e)])), (mm, .inl (cM, 3000, .inl (rw16 V))), (nn, .inl (cN, 3, .inl (rc V))), (xx, .inl (cX, 2400, .inl (tx T)))] → va_S A s.heap H locs → lv_has ls 6 [(0, .ref md), (1, .int wd), (2, .int (bI (decide (lk T e a = 45))))] → W p l ee ({ frames := 6, cells := 0, slots := 0, locals := 179 }) s m ([.ref md, .int wd] : List Value).toArray below meth cde H locs 0 0 (MQ below (va_Qi (S := (Int32 × Int32 × (Nat → Nat))) (fun (w : Int32) (u : (Int32 × Int32 × (Nat → Nat))) => w = bI (decide (xF T n ≠ 0)) ∧ okV u.2.2) (fun u tS => ctB D vcl ((fun _ => [(cM, .int), (cN, .int), (cX, .int)]) u) ((fun u : (Int32 × Int32 × (Nat → Nat)) => [(md, .inr (5, [.ref xx, .int (nI n), .long (rdR i T n R), .int (rdF T n rd), .ref mm, .ref nn, .int u.1, .int u.2.1])), (mm, .inl (cM, 3000, .inl (rw16 u.2.2))), (nn, .inl (cN, 3, .inl (rc u.2.2))), (xx, .inl (cX, 2400, .inl (tx T)))]) u) A tS) A) ([.ref md, .int wd] : List Value).toArray s 0 0 A) (F0 m 137 ls []) := by
        intro kk
        induction kk with
        | zero => intro u0 hmz; exact absurd hmz (Nat.not_lt_zero _)
        | succ kk ih =>
          intro u0 hmz  H locs ls hP hD hS hl
          refine lv_lconst (v := 0) hx hb d_Mod_read_137 (by decide) ?_
          refine lv_lstore_n (lv' := [(3, .long 0), (0, .ref md), (1, .int wd), (2, .int (bI (decide (lk T e a = 45))))]) hx hb d_Mod_read_138 rfl hl (by decide) rfl (fun ls hl => ?_)
          refine lv_aload_n hx hb d_Mod_read_139 rfl (lv_at hl 1 rfl) ?_
          refine lv_bipush (v := 78) hx hb d_Mod_read_140 (by decide) ?_
          refine lv_bipush (v := 97) hx hb d_Mod_read_142 (by decide) ?_
          refine lv_bipush (v := 78) hx hb d_Mod_read_144 (by decide) ?_
          refine lv_iconst (v := 3) hx hb d_Mod_read_146 (by decide) ?_
          refine ca_i [(mm, .inl (cM, 3000, .inl (rw16 V))), (nn, .inl (cN, 3, .inl (rc V)))] (va_runV (As := [.int 78, .int 97, .int 78, .int 3]) (rest := []) ⟨hx, hb, hml, hown, hts⟩ (c_Mod_isWord l D E md xx mm nn cX (nI n) rd R T hT e he pp (hppe) 78 97 78 3 (by decide) (by decide) (by decide) (by decide) H.size) (xV 4 hts kC_Mod_isWord kM_Mod_90 kI_Mod_isWord kS_Mod_isWord kN_Mod rfl rfl (by decide +kernel) ⟨Nat.le_of_ble_eq_true rfl, Nat.le_of_ble_eq_true rfl⟩) ⟨ct_blind hev, va_recv hK hP (ci := 5) (q0 := 0) rfl rfl, ct_pre hev hP hK hD hS hA hE [0, 3] rfl (by decide) [2] rfl⟩ rfl rfl hl.1 rfl (lv_room (Nat.le_of_ble_eq_true rfl)) d_Mod_read_147 ⟨Nat.le_of_ble_eq_true rfl, Nat.le_of_ble_eq_true rfl⟩) hP hD hS hA [0, 3] [1, 2] rfl rfl (by decide) (by decide) (fun rv u H locs hw hP hD hS hK1 => ?_)
          subst hw
          have hP : va_P D vcl [(mm, .inl (cM, 3000, .inl (rw16 V))), (nn, .inl (cN, 3, .inl (rc V))), (md, .inr (5, [.ref xx, .int (nI n), .long R, .int rd, .ref mm, .ref nn, .int (nI pp), .int (nI e)])), (xx, .inl (cX, 2400, .inl (tx T)))] H := hP
          have hD : va_D A [(mm, .inl (cM, 3000, .inl (rw16 V))), (nn, .inl (cN, 3, .inl (rc V))), (md, .inr (5, [.ref xx, .int (nI n), .long R, .int rd, .ref mm, .ref nn, .int (nI pp), .int (nI e)])), (xx, .inl (cX, 2400, .inl (tx T)))] := hD
          refine tv_i (bI (wdB T e pp 0)) (by rw [wd_0]) ?_
          refine lv_if_eq (tgt := 173) hx hb d_Mod_read_150 (by decide) (fun c150 => ?_) (fun c150 => ?_)
          · have e150 : wdB T e pp 0 = false := (bI_0 _).mp c150
            refine lv_aload_n hx hb d_Mod_read_173 rfl (lv_at hl 1 rfl) ?_
            refine ca_i [(mm, .inl (cM, 3000, .inl (rw16 V))), (nn, .inl (cN, 3, .inl (rc V)))] (va_runV (As := []) (rest := []) ⟨hx, hb, hml, hown, hts⟩ (c_Mod_isInfinity l D E md xx mm nn cX (nI n) rd R T hT e he pp (hppe) H.size) (xV 0 hts kC_Mod_isInfinity kM_Mod_104 kI_Mod_isInfinity kS_Mod_isInfinity kN_Mod rfl rfl (by decide +kernel) ⟨Nat.le_of_ble_eq_true rfl, Nat.le_of_ble_eq_true rfl⟩) ⟨ct_blind hev, va_recv hK hP (ci := 5) (q0 := 2) rfl rfl, ct_pre hev hP hK hD hS hA hE [2, 3] rfl (by decide) [2] rfl⟩ rfl rfl hl.1 rfl (lv_room (Nat.le_of_ble_eq_true rfl)) d_Mod_read_174 ⟨Nat.le_of_ble_eq_true rfl, Nat.le_of_ble_eq_true rfl⟩) hP hD hS hA [2, 3] [0, 1] rfl rfl (by decide) (by decide) (fun rv u H locs hw hP hD hS hK1 => ?_)
            subst hw
            have hP : va_P D vcl [(mm, .inl (cM, 3000, .inl (rw16 V))), (nn, .inl (cN, 3, .inl (rc V))), (md, .inr (5, [.ref xx, .int (nI n), .long R, .int rd, .ref mm, .ref nn, .int (nI pp), .int (nI e)])), (xx, .inl (cX, 2400, .inl (tx T)))] H := hP
            have hD : va_D A [(mm, .inl (cM, 3000, .inl (rw16 V))), (nn, .inl (cN, 3, .inl (rc V))), (md, .inr (5, [.ref xx, .int (nI n), .long R, .int rd, .ref mm, .ref nn, .int (nI pp), .int (nI e)])), (xx, .inl (cX, 2400, .inl (tx T)))] := hD
            refine lv_if_eq (tgt := 188) hx hb d_Mod_read_177 (by decide) (fun c177 => ?_) (fun c177 => ?_)
            · have e177 : wdB T e pp 1 = false := (bI_0 _).mp c177
              have L238 : ∀ (kk : Nat) (u0 : Nat), 0 < kk → ∀ (H : Heap) (locs : List Loc) (ls : Array Slot), va_P D vcl [(md, .inr (5, [.ref xx, .int (nI n), .long R, .int rd, .ref mm, .ref nn, .int (nI pp), .int (nI e)])), (mm, .inl (cM, 3000, .inl (rw16 V))), (nn, .inl (cN, 3, .inl (rc V))), (xx, .inl (cX, 2400, .inl (tx T)))] H → va_D A [(md, .inr (5, [.ref xx, .int (nI n), .long R, .int rd, .ref mm, .ref nn, .int (nI pp), .int (nI e)])), (mm, .inl (cM, 3000, .inl (rw16 V))), (nn, .inl (cN, 3, .inl (rc V))), (xx, .inl (cX, 2400, .inl (tx T)))] → va_S A s.heap H locs → lv_has ls 6 [(0, .ref md), (1, .int wd), (2, .int (bI (decide (lk T e a = 45)))), (5, .int (bI (pxB T e pp)))] → W p l ee ({ frames := 6, cells := 0, slots := 0, locals := 179 }) s m ([.ref md, .int wd] : List Value).toArray below meth cde H locs 0 0 (MQ below (va_Qi (S := (Int32 × Int32 × (Nat → Nat))) (fun (w : Int32) (u : (Int32 × Int32 × (Nat → Nat))) => w = bI (decide (xF T n ≠ 0)) ∧ okV u.2.2) (fun u tS => ctB D vcl ((fun _ => [(cM, .int), (cN, .int), (cX, .int)]) u) ((fun u : (Int32 × Int32 × (Nat → Nat)) => [(md, .inr (5, [.ref xx, .int (nI n), .long (rdR i T n R), .int (rdF T n rd), .ref mm, .ref nn, .int u.1, .int u.2.1])), (mm, .inl (cM, 3000, .inl (rw16 u.2.2))), (nn, .inl (cN, 3, .inl (rc u.2.2))), (xx, .inl (cX, 2400, .inl (tx T)))]) u) A tS) A) ([.ref md, .int wd] : List Value).toArray s 0 0 A) (F0 m 238 ls []) := by
                intro kk
                induction kk with
                | zero => intro u0 hmz; exact absurd hmz (Nat.not_lt_zero _)
                | succ kk ih =>
                  intro u0 hmz  H locs ls hP hD hS hl
                  refine lv_iload hx hb d_Mod_read_238 (lv_at hl 3 rfl) ?_
                  refine lv_if_eq (tgt := 253) hx hb d_Mod_read_240 (by decide) (fun c240 => ?_) (fun c240 => ?_)
                  · have e240 : pxB T e pp = false := (bI_0 _).mp c240
                    have hpa : pxA T e pp = pp := by unfold pxA; rw [e240]; rfl
                    rw [show nI pp = nI (pxA T e pp) from by rw [hpa]] at hP hD
                    have hP : va_P D vcl [(md, .inr (5, [.ref xx, .int (nI n), .long R, .int rd, .ref mm, .ref nn, .int (nI (pxA T e pp)), .int (nI e)])), (mm, .inl (cM, 3000, .inl (rw16 V))), (nn, .inl (cN, 3, .inl (rc V))), (xx, .inl (cX, 2400, .inl (tx T)))] H := hP
                    have hD : va_D A [(md, .inr (5, [.ref xx, .int (nI n), .long R, .int rd, .ref mm, .ref nn, .int (nI (pxA T e pp)), .int (nI e)])), (mm, .inl (cM, 3000, .inl (rw16 V))), (nn, .inl (cN, 3, .inl (rc V))), (xx, .inl (cX, 2400, .inl (tx T)))] := hD
                    refine lv_aload_n hx hb d_Mod_read_253 rfl (lv_at hl 0 rfl) ?_
                    refine lv_iload hx hb d_Mod_read_254 (lv_at hl 3 rfl) ?_
                    refine lv_if_eq (tgt := 264) hx hb d_Mod_read_256 (by decide) (fun c256 => ?_) (fun c256 => ?_)
                    · refine lv_bipush (v := 10) hx hb d_Mod_read_264 (by decide) ?_
                      refine tv_i (nI (bas (pxB T e pp))) (by rw [e240]; rfl) ?_
                      refine lv_iload_n hx hb d_Mod_read_266 rfl (lv_at hl 1 rfl) ?_
                      refine ca_l [] (va_runV (As := [.int (nI (bas (pxB T e pp))), .int wd]) (rest := []) ⟨hx, hb, hml, hown, hts⟩ (c_Mod_literal l D E md xx mm nn cM cN cX V (nI n) rd R T hT e he hV i hi wd hwd (pxB T e pp) (pxA T e pp) ((pxA_le hppe).2) H.size) (xV 2 hts kC_Mod_literal kM_Mod_108 kI_Mod_literal kS_Mod_literal kN_Mod rfl rfl (by decide +kernel) ⟨Nat.le_of_ble_eq_true rfl, Nat.le_of_ble_eq_true rfl⟩) ⟨ct_blind hev, va_recv hK hP (ci := 5) (q0 := 0) rfl rfl, ct_pre hev hP hK hD hS hA hE [0, 1, 2, 3] rfl (by decide) [0, 1, 2] rfl⟩ rfl rfl hl.1 rfl (lv_room (Nat.le_of_ble_eq_true rfl)) d_Mod_read_267 ⟨Nat.le_of_ble_eq_true rfl, Nat.le_of_ble_eq_true rfl⟩) hP hD hS hA [0, 1, 2, 3] [] rfl rfl (by decide) (by decide) (fun rv u H locs hw hP hD hS hK1 => ?_)
                      obtain ⟨hwt, hwf, hVn⟩ := hw
                      obtain ⟨at9, V9⟩ := u
                      have hVn : okV V9 := hVn
                      have hP : va_P D vcl [(md, .inr (5, [.ref xx, .int (nI n), .long R, .int rd, .ref mm, .ref nn, .int at9, .int (nI e)])), (mm, .inl (cM, 3000, .inl (rw16 V9))), (nn, .inl (cN, 3, .inl (rc V9))), (xx, .inl (cX, 2400, .inl (tx T)))] H := hP
                      have hD : va_D A [(md, .inr (5, [.ref xx, .int (nI n), .long R, .int rd, .ref mm, .ref nn, .int at9, .int (nI e)])), (mm, .inl (cM, 3000, .inl (rw16 V9))), (nn, .inl (cN, 3, .inl (rc V9))), (xx, .inl (cX, 2400, .inl (tx T)))] := hD
                      refine lv_lstore_n (lv' := [(3, .long rv), (0, .ref md), (1, .int wd), (2, .int (bI (decide (lk T e a = 45)))), (5, .int (bI (pxB T e pp)))]) hx hb d_Mod_read_270 rfl hl (by decide) rfl (fun ls hl => ?_)
                      refine lv_lload_n hx hb d_Mod_read_271 rfl (lv_at hl 0 rfl) ?_
                      refine lv_lconst (v := 0) hx hb d_Mod_read_272 (by decide) ?_
                      refine W.lcmp hx hb d_Mod_read_273 ?_
                      refine lv_if_ge (tgt := 279) hx hb d_Mod_read_274 (by decide) (fun c274 => ?_) (fun c274 => ?_)
                      · have hoL : oL (pxB T e pp) T e (pxA T e pp) = true := tt_of (fun z => by have h9 := hwf z; rw [h9] at c274; exact absurd ((lg_cmp_ge _ _).mp c274) (by decide))
                        have hrv := hwt hoL
                        subst hrv
                        refine lv_aload_n hx hb d_Mod_read_279 rfl (lv_at hl 1 rfl) ?_
                        refine lv_lload_n hx hb d_Mod_read_280 rfl (lv_at hl 0 rfl) ?_
                        refine lv_iload_n hx hb d_Mod_read_281 rfl (lv_at hl 3 rfl) ?_
                        refine lv_iload_n hx hb d_Mod_read_282 rfl (lv_at hl 2 rfl) ?_
                        refine ca_l [(md, .inr (5, [.ref xx, .int (nI n), .long R, .int rd, .ref mm, .ref nn, .int at9, .int (nI e)])), (mm, .inl (cM, 3000, .inl (rw16 V9))), (nn, .inl (cN, 3, .inl (rc V9))), (xx, .inl (cX, 2400, .inl (tx T)))] (va_runS (As := [.long (lN (vL 100000000 i (pxB T e pp) T e (pxA T e pp))), .int (bI (decide (lk T e a = 45))), .int wd]) (rest := [.ref md]) ⟨hx, hb, hml, hown, hts⟩ (c_Mod_signed l D E (lN (vL 100000000 i (pxB T e pp) T e (pxA T e pp))) (bI (decide (lk T e a = 45))) wd H.size) (xS 3 hts kC_Mod_signed kM_Mod_112 kT_Mod_signed kN_Mod rfl rfl (by decide +kernel) ⟨Nat.le_of_ble_eq_true rfl, Nat.le_of_ble_eq_true rfl⟩) ⟨ct_blind hev, ct_pre hev hP hK hD hS hA hE [] rfl (by decide) [] rfl⟩ rfl rfl hl.1 rfl (lv_room (Nat.le_of_ble_eq_true rfl)) d_Mod_read_283 ⟨Nat.le_of_ble_eq_true rfl, Nat.le_of_ble_eq_true rfl⟩) hP hD hS hA [] [0, 1, 2, 3] rfl rfl (by decide) (by decide) (fun rv u H locs hw hP hD hS hK1 => ?_)
                        subst hw
                        have hP : va_P D vcl [(md, .inr (5, [.ref xx, .int (nI n), .long R, .int rd, .ref mm, .ref nn, .int at9, .int (nI e)])), (mm, .inl (cM, 3000, .inl (rw16 V9))), (nn, .inl (cN, 3, .inl (rc V9))), (xx, .inl (cX, 2400, .inl (tx T)))] H := hP
                        have hD : va_D A [(md, .inr (5, [.ref xx, .int (nI n), .long R, .int rd, .ref mm, .ref nn, .int at9, .int (nI e)])), (mm, .inl (cM, 3000, .inl (rw16 V9))), (nn, .inl (cN, 3, .inl (rc V9))), (xx, .inl (cX, 2400, .inl (tx T)))] := hD
                        refine va_put (D := D) (ci := 5) (v := .long (sgd (knd wd) (lN (vL 100000000 i (pxB T e pp) T e (pxA T e pp))) (bI (decide (lk T e a = 45))))) (ty := .long) (C := R_Mod) (T := F_Mod) (N := 8) hx hb hts w_Mod t_Mod tk_Mod n_Mod hown hK hP hD hS 0 rfl rfl 2 (by decide) (hts _ kF_Mod_97) (fun _ h9 => h9) rfl (by decide +kernel) (rfl) (rfl) (Nat.le_of_ble_eq_true rfl) d_Mod_read_286 (fun H locs hP hD hS => ?_)
                        have hP : va_P D vcl [(md, .inr (5, [.ref xx, .int (nI n), .long (sgd (knd wd) (lN (vL 100000000 i (pxB T e pp) T e (pxA T e pp))) (bI (decide (lk T e a = 45)))), .int rd, .ref mm, .ref nn, .int at9, .int (nI e)])), (mm, .inl (cM, 3000, .inl (rw16 V9))), (nn, .inl (cN, 3, .inl (rc V9))), (xx, .inl (cX, 2400, .inl (tx T)))] H := hP
                        have hD : va_D A [(md, .inr (5, [.ref xx, .int (nI n), .long (sgd (knd wd) (lN (vL 100000000 i (pxB T e pp) T e (pxA T e pp))) (bI (decide (lk T e a = 45)))), .int rd, .ref mm, .ref nn, .int at9, .int (nI e)])), (mm, .inl (cM, 3000, .inl (rw16 V9))), (nn, .inl (cN, 3, .inl (rc V9))), (xx, .inl (cX, 2400, .inl (tx T)))] := hD
                        refine lv_aload_n hx hb d_Mod_read_289 rfl (lv_at hl 1 rfl) ?_
                        refine lv_dup hx hb d_Mod_read_290 rfl ?_
                        refine va_get (D := D) (ci := 5) (v := .int rd) (C := R_Mod) (T := F_Mod) (N := 8) hx hb hts w_Mod hown hK hP 0 rfl rfl 3 (by decide) (hts _ kF_Mod_101) (fun _ h9 => h9) rfl d_Mod_read_291 ?_
                        refine lv_iconst (v := 1) hx hb d_Mod_read_294 (by decide) ?_
                        refine lv_iadd hx hb d_Mod_read_295 ?_
                        refine va_put (D := D) (ci := 5) (v := .int (rd + 1)) (ty := .int) (C := R_Mod) (T := F_Mod) (N := 8) hx hb hts w_Mod t_Mod tk_Mod n_Mod hown hK hP hD hS 0 rfl rfl 3 (by decide) (hts _ kF_Mod_101) (fun _ h9 => h9) rfl (by decide +kernel) (rfl) (rfl) (Nat.le_of_ble_eq_true rfl) d_Mod_read_296 (fun H locs hP hD hS => ?_)
                        have hP : va_P D vcl [(md, .inr (5, [.ref xx, .int (nI n), .long (sgd (knd wd) (lN (vL 100000000 i (pxB T e pp) T e (pxA T e pp))) (bI (decide (lk T e a = 45)))), .int (rd + 1), .ref mm, .ref nn, .int at9, .int (nI e)])), (mm, .inl (cM, 3000, .inl (rw16 V9))), (nn, .inl (cN, 3, .inl (rc V9))), (xx, .inl (cX, 2400, .inl (tx T)))] H := hP
                        have hD : va_D A [(md, .inr (5, [.ref xx, .int (nI n), .long (sgd (knd wd) (lN (vL 100000000 i (pxB T e pp) T e (pxA T e pp))) (bI (decide (lk T e a = 45)))), .int (rd + 1), .ref mm, .ref nn, .int at9, .int (nI e)])), (mm, .inl (cM, 3000, .inl (rw16 V9))), (nn, .inl (cN, 3, .inl (rc V9))), (xx, .inl (cX, 2400, .inl (tx T)))] := hD
                        refine lv_iconst (v := 1) hx hb d_Mod_read_299 (by decide) ?_
                        have hxF : xF T n = 3 := by rw [← hg1]; unfold gF; rw [e150, e177, hoL, e240]; rfl
                        obtain ⟨hqa, hqe⟩ := hg2 (by rw [hxF]; decide)
                        have hqp : pp = xP T n := by rw [hpp, hqa, hqe]; rfl
                        have hqm : decide (lk T e a = 45) = xM T n := by rw [hqa, hqe]; rfl
                        obtain ⟨hr1, hr2⟩ := rd_3 (R := R) (fd := rd) hi hn (Or.inl hxF)
                        rw [← hqe, ← hqp] at hr1
                        rw [← hqm] at hr1
                        rw [show sgd (knd wd) (lN (vL 100000000 i (pxB T e pp) T e (pxA T e pp))) (bI (decide (lk T e a = 45))) = rdR i T n R from by rw [hr1, hwd], show rd + 1 = rdF T n rd from hr2.symm] at hP hD
                        exact rt_i hx hb hrt hlocks (rfl) ((at9, nI e, V9)) (⟨by rw [decide_eq_true (by rw [hxF]; decide)]; rfl, hVn⟩) (hP.sub [0, 1, 2, 3] rfl) (hK.sub [0, 1, 2] rfl) (hD.sub [0, 1, 2, 3] (by decide) rfl) hS d_Mod_read_300
                      · have hoL : oL (pxB T e pp) T e (pxA T e pp) = false := by
                          cases h9 : oL (pxB T e pp) T e (pxA T e pp)
                          · rfl
                          · rw [hwt h9] at c274; exact absurd ((lg_cmp_ge _ _).mpr (Int64.not_lt.mp (lN_pos (vL_lt hi)))) c274
                        refine lv_iconst (v := 0) hx hb d_Mod_read_277 (by decide) ?_
                        have hxF : xF T n = 0 := by rw [← hg1]; unfold gF; rw [e150, e177, hoL]; rfl
                        obtain ⟨hr1, hr2⟩ := rd_0 (i := i) (R := R) (fd := rd) hxF
                        have hr1s := hr1.symm
                        have hr2s := hr2.symm
                        have hP : va_P D vcl [(md, .inr (5, [.ref xx, .int (nI n), .long (rdR i T n R), .int (rdF T n rd), .ref mm, .ref nn, .int at9, .int (nI e)])), (mm, .inl (cM, 3000, .inl (rw16 V9))), (nn, .inl (cN, 3, .inl (rc V9))), (xx, .inl (cX, 2400, .inl (tx T)))] H := by rw [hr1, hr2]; exact hP
                        have hD : va_D A [(md, .inr (5, [.ref xx, .int (nI n), .long (rdR i T n R), .int (rdF T n rd), .ref mm, .ref nn, .int at9, .int (nI e)])), (mm, .inl (cM, 3000, .inl (rw16 V9))), (nn, .inl (cN, 3, .inl (rc V9))), (xx, .inl (cX, 2400, .inl (tx T)))] := by rw [hr1, hr2]; exact hD
                        exact rt_i hx hb hrt hlocks (rfl) ((at9, nI e, V9)) (⟨by rw [decide_eq_false (by rw [hxF]; decide)]; rfl, hVn⟩) (hP.sub [0, 1, 2, 3] rfl) (hK.sub [0, 1, 2] rfl) (hD.sub [0, 1, 2, 3] (by decide) rfl) hS d_Mod_read_278
                    · exact absurd ((bI_0 _).mpr e240) c256
                  · have e240 : pxB T e pp = true := tt_of (fun z => c240 ((bI_0 _).mpr z))
                    have hpa : pxA T e pp = pp + 2 := by unfold pxA; rw [e240]; rfl
                    refine lv_aload_n hx hb d_Mod_read_243 rfl (lv_at hl 0 rfl) ?_
                    refine lv_dup hx hb d_Mod_read_244 rfl ?_
                    refine va_get (D := D) (ci := 5) (v := .int (nI pp)) (C := R_Mod) (T := F_Mod) (N := 8) hx hb hts w_Mod hown hK hP 0 rfl rfl 6 (by decide) (hts _ kF_Mod_81) (fun _ h9 => h9) rfl d_Mod_read_245 ?_
                    refine lv_iconst (v := 2) hx hb d_Mod_read_248 (by decide) ?_
                    refine lv_iadd hx hb d_Mod_read_249 ?_
                    refine tv_i (nI (pxA T e pp)) (by rw [hpa]; exact nI_add pp 2) ?_
                    refine va_put (D := D) (ci := 5) (v := .int (nI (pxA T e pp))) (ty := .int) (C := R_Mod) (T := F_Mod) (N := 8) hx hb hts w_Mod t_Mod tk_Mod n_Mod hown hK hP hD hS 0 rfl rfl 6 (by decide) (hts _ kF_Mod_81) (fun _ h9 => h9) rfl (by decide +kernel) (rfl) (rfl) (Nat.le_of_ble_eq_true rfl) d_Mod_read_250 (fun H locs hP hD hS => ?_)
                    have hP : va_P D vcl [(md, .inr (5, [.ref xx, .int (nI n), .long R, .int rd, .ref mm, .ref nn, .int (nI (pxA T e pp)), .int (nI e)])), (mm, .inl (cM, 3000, .inl (rw16 V))), (nn, .inl (cN, 3, .inl (rc V))), (xx, .inl (cX, 2400, .inl (tx T)))] H := hP
                    have hD : va_D A [(md, .inr (5, [.ref xx, .int (nI n), .long R, .int rd, .ref mm, .ref nn, .int (nI (pxA T e pp)), .int (nI e)])), (mm, .inl (cM, 3000, .inl (rw16 V))), (nn, .inl (cN, 3, .inl (rc V))), (xx, .inl (cX, 2400, .inl (tx T)))] := hD
                    refine lv_aload_n hx hb d_Mod_read_253 rfl (lv_at hl 0 rfl) ?_
                    refine lv_iload hx hb d_Mod_read_254 (lv_at hl 3 rfl) ?_
                    refine lv_if_eq (tgt := 264) hx hb d_Mod_read_256 (by decide) (fun c256 => ?_) (fun c256 => ?_)
                    · exact absurd (e240.symm.trans ((bI_0 _).mp c256)) (by decide)
                    · refine lv_bipush (v := 16) hx hb d_Mod_read_259 (by decide) ?_
                      refine tv_i (nI (bas (pxB T e pp))) (by rw [e240]; rfl) ?_
                      refine lv_goto (tgt := 266) hx hb d_Mod_read_261 (by decide) ?_
                      refine lv_iload_n hx hb d_Mod_read_266 rfl (lv_at hl 1 rfl) ?_
                      refine ca_l [] (va_runV (As := [.int (nI (bas (pxB T e pp))), .int wd]) (rest := []) ⟨hx, hb, hml, hown, hts⟩ (c_Mod_literal l D E md xx mm nn cM cN cX V (nI n) rd R T hT e he hV i hi wd hwd (pxB T e pp) (pxA T e pp) ((pxA_le hppe).2) H.size) (xV 2 hts kC_Mod_literal kM_Mod_108 kI_Mod_literal kS_Mod_literal kN_Mod rfl rfl (by decide +kernel) ⟨Nat.le_of_ble_eq_true rfl, Nat.le_of_ble_eq_true rfl⟩) ⟨ct_blind hev, va_recv hK hP (ci := 5) (q0 := 0) rfl rfl, ct_pre hev hP hK hD hS hA hE [0, 1, 2, 3] rfl (by decide) [0, 1, 2] rfl⟩ rfl rfl hl.1 rfl (lv_room (Nat.le_of_ble_eq_true rfl)) d_Mod_read_267 ⟨Nat.le_of_ble_eq_true rfl, Nat.le_of_ble_eq_true rfl⟩) hP hD hS hA [0, 1, 2, 3] [] rfl rfl (by decide) (by decide) (fun rv u H locs hw hP hD hS hK1 => ?_)
                      obtain ⟨hwt, hwf, hVn⟩ := hw
                      obtain ⟨at9, V9⟩ := u
                      have hVn : okV V9 := hVn
                      have hP : va_P D vcl [(md, .inr (5, [.ref xx, .int (nI n), .long R, .int rd, .ref mm, .ref nn, .int at9, .int (nI e)])), (mm, .inl (cM, 3000, .inl (rw16 V9))), (nn, .inl (cN, 3, .inl (rc V9))), (xx, .inl (cX, 2400, .inl (tx T)))] H := hP
                      have hD : va_D A [(md, .inr (5, [.ref xx, .int (nI n), .long R, .int rd, .ref mm, .ref nn, .int at9, .int (nI e)])), (mm, .inl (cM, 3000, .inl (rw16 V9))), (nn, .inl (cN, 3, .inl (rc V9))), (xx, .inl (cX, 2400, .inl (tx T)))] := hD
                      refine lv_lstore_n (lv' := [(3, .long rv), (0, .ref md), (1, .int wd), (2, .int (bI (decide (lk T e a = 45)))), (5, .int (bI (pxB T e pp)))]) hx hb d_Mod_read_270 rfl hl (by decide) rfl (fun ls hl => ?_)
                      refine lv_lload_n hx hb d_Mod_read_271 rfl (lv_at hl 0 rfl) ?_
                      refine lv_lconst (v := 0) hx hb d_Mod_read_272 (by decide) ?_
                      refine W.lcmp hx hb d_Mod_read_273 ?_
                      refine lv_if_ge (tgt := 279) hx hb d_Mod_read_274 (by decide) (fun c274 => ?_) (fun c274 => ?_)
                      · have hoL : oL (pxB T e pp) T e (pxA T e pp) = true := tt_of (fun z => by have h9 := hwf z; rw [h9] at c274; exact absurd ((lg_cmp_ge _ _).mp c274) (by decide))
                        have hrv := hwt hoL
                        subst hrv
                        refine lv_aload_n hx hb d_Mod_read_279 rfl (lv_at hl 1 rfl) ?_
                        refine lv_lload_n hx hb d_Mod_read_280 rfl (lv_at hl 0 rfl) ?_
                        refine lv_iload_n hx hb d_Mod_read_281 rfl (lv_at hl 3 rfl) ?_
                        refine lv_iload_n hx hb d_Mod_read_282 rfl (lv_at hl 2 rfl) ?_
                        refine ca_l [(md, .inr (5, [.ref xx, .int (nI n), .long R, .int rd, .ref mm, .ref nn, .int at9, .int (nI e)])), (mm, .inl (cM, 3000, .inl (rw16 V9))), (nn, .inl (cN, 3, .inl (rc V9))), (xx, .inl (cX, 2400, .inl (tx T)))] (va_runS (As := [.long (lN (vL 100000000 i (pxB T e pp) T e (pxA T e pp))), .int (bI (decide (lk T e a = 45))), .int wd]) (rest := [.ref md]) ⟨hx, hb, hml, hown, hts⟩ (c_Mod_signed l D E (lN (vL 100000000 i (pxB T e pp) T e (pxA T e pp))) (bI (decide (lk T e a = 45))) wd H.size) (xS 3 hts kC_Mod_signed kM_Mod_112 kT_Mod_signed kN_Mod rfl rfl (by decide +kernel) ⟨Nat.le_of_ble_eq_true rfl, Nat.le_of_ble_eq_true rfl⟩) ⟨ct_blind hev, ct_pre hev hP hK hD hS hA hE [] rfl (by decide) [] rfl⟩ rfl rfl hl.1 rfl (lv_room (Nat.le_of_ble_eq_true rfl)) d_Mod_read_283 ⟨Nat.le_of_ble_eq_true rfl, Nat.le_of_ble_eq_true rfl⟩) hP hD hS hA [] [0, 1, 2, 3] rfl rfl (by decide) (by decide) (fun rv u H locs hw hP hD hS hK1 => ?_)
                        subst hw
                        have hP : va_P D vcl [(md, .inr (5, [.ref xx, .int (nI n), .long R, .int rd, .ref mm, .ref nn, .int at9, .int (nI e)])), (mm, .inl (cM, 3000, .inl (rw16 V9))), (nn, .inl (cN, 3, .inl (rc V9))), (xx, .inl (cX, 2400, .inl (tx T)))] H := hP
                        have hD : va_D A [(md, .inr (5, [.ref xx, .int (nI n), .long R, .int rd, .ref mm, .ref nn, .int at9, .int (nI e)])), (mm, .inl (cM, 3000, .inl (rw16 V9))), (nn, .inl (cN, 3, .inl (rc V9))), (xx, .inl (cX, 2400, .inl (tx T)))] := hD
                        refine va_put (D := D) (ci := 5) (v := .long (sgd (knd wd) (lN (vL 100000000 i (pxB T e pp) T e (pxA T e pp))) (bI (decide (lk T e a = 45))))) (ty := .long) (C := R_Mod) (T := F_Mod) (N := 8) hx hb hts w_Mod t_Mod tk_Mod n_Mod hown hK hP hD hS 0 rfl rfl 2 (by decide) (hts _ kF_Mod_97) (fun _ h9 => h9) rfl (by decide +kernel) (rfl) (rfl) (Nat.le_of_ble_eq_true rfl) d_Mod_read_286 (fun H locs hP hD hS => ?_)
                        have hP : va_P D vcl [(md, .inr (5, [.ref xx, .int (nI n), .long (sgd (knd wd) (lN (vL 100000000 i (pxB T e pp) T e (pxA T e pp))) (bI (decide (lk T e a = 45)))), .int rd, .ref mm, .ref nn, .int at9, .int (nI e)])), (mm, .inl (cM, 3000, .inl (rw16 V9))), (nn, .inl (cN, 3, .inl (rc V9))), (xx, .inl (cX, 2400, .inl (tx T)))] H := hP
                        have hD : va_D A [(md, .inr (5, [.ref xx, .int (nI n), .long (sgd (knd wd) (lN (vL 100000000 i (pxB T e pp) T e (pxA T e pp))) (bI (decide (lk T e a = 45)))), .int rd, .ref mm, .ref nn, .int at9, .int (nI e)])), (mm, .inl (cM, 3000, .inl (rw16 V9))), (nn, .inl (cN, 3, .inl (rc V9))), (xx, .inl (cX, 2400, .inl (tx T)))] := hD
                        refine lv_aload_n hx hb d_Mod_read_289 rfl (lv_at hl 1 rfl) ?_
                        refine lv_dup hx hb d_Mod_read_290 rfl ?_
                        refine va_get (D := D) (ci := 5) (v := .int rd) (C := R_Mod) (T := F_Mod) (N := 8) hx hb hts w_Mod hown hK hP 0 rfl rfl 3 (by decide) (hts _ kF_Mod_101) (fun _ h9 => h9) rfl d_Mod_read_291 ?_
                        refine lv_iconst (v := 1) hx hb d_Mod_read_294 (by decide) ?_
                        refine lv_iadd hx hb d_Mod_read_295 ?_
                        refine va_put (D := D) (ci := 5) (v := .int (rd + 1)) (ty := .int) (C := R_Mod) (T := F_Mod) (N := 8) hx hb hts w_Mod t_Mod tk_Mod n_Mod hown hK hP hD hS 0 rfl rfl 3 (by decide) (hts _ kF_Mod_101) (fun _ h9 => h9) rfl (by decide +kernel) (rfl) (rfl) (Nat.le_of_ble_eq_true rfl) d_Mod_read_296 (fun H locs hP hD hS => ?_)
                        have hP : va_P D vcl [(md, .inr (5, [.ref xx, .int (nI n), .long (sgd (knd wd) (lN (vL 100000000 i (pxB T e pp) T e (pxA T e pp))) (bI (decide (lk T e a = 45)))), .int (rd + 1), .ref mm, .ref nn, .int at9, .int (nI e)])), (mm, .inl (cM, 3000, .inl (rw16 V9))), (nn, .inl (cN, 3, .inl (rc V9))), (xx, .inl (cX, 2400, .inl (tx T)))] H := hP
                        have hD : va_D A [(md, .inr (5, [.ref xx, .int (nI n), .long (sgd (knd wd) (lN (vL 100000000 i (pxB T e pp) T e (pxA T e pp))) (bI (decide (lk T e a = 45)))), .int (rd + 1), .ref mm, .ref nn, .int at9, .int (nI e)])), (mm, .inl (cM, 3000, .inl (rw16 V9))), (nn, .inl (cN, 3, .inl (rc V9))), (xx, .inl (cX, 2400, .inl (tx T)))] := hD
                        refine lv_iconst (v := 1) hx hb d_Mod_read_299 (by decide) ?_
                        have hxF : xF T n = 4 := by rw [← hg1]; unfold gF; rw [e150, e177, hoL, e240]; rfl
                        obtain ⟨hqa, hqe⟩ := hg2 (by rw [hxF]; decide)
                        have hqp : pp = xP T n := by rw [hpp, hqa, hqe]; rfl
                        have hqm : decide (lk T e a = 45) = xM T n := by rw [hqa, hqe]; rfl
                        obtain ⟨hr1, hr2⟩ := rd_3 (R := R) (fd := rd) hi hn (Or.inr hxF)
                        rw [← hqe, ← hqp] at hr1
                        rw [← hqm] at hr1
                        rw [show sgd (knd wd) (lN (vL 100000000 i (pxB T e pp) T e (pxA T e pp))) (bI (decide (lk T e a = 45))) = rdR i T n R from by rw [hr1, hwd], show rd + 1 = rdF T n rd from hr2.symm] at hP hD
                        exact rt_i hx hb hrt hlocks (rfl) ((at9, nI e, V9)) (⟨by rw [decide_eq_true (by rw [hxF]; decide)]; rfl, hVn⟩) (hP.sub [0, 1, 2, 3] rfl) (hK.sub [0, 1, 2] rfl) (hD.sub [0, 1, 2, 3] (by decide) rfl) hS d_Mod_read_300
                      · have hoL : oL (pxB T e pp) T e (pxA T e pp) = false := by
                          cases h9 : oL (pxB T e pp) T e (pxA T e pp)
                          · rfl
                          · rw [hwt h9] at c274; exact absurd ((lg_cmp_ge _ _).mpr (Int64.not_lt.mp (lN_pos (vL_lt hi)))) c274
                        refine lv_iconst (v := 0) hx hb d_Mod_read_277 (by decide) ?_
                        have hxF : xF T n = 0 := by rw [← hg1]; unfold gF; rw [e150, e177, hoL]; rfl
                        obtain ⟨hr1, hr2⟩ := rd_0 (i := i) (R := R) (fd := rd) hxF
                        have hr1s := hr1.symm
                        have hr2s := hr2.symm
                        have hP : va_P D vcl [(md, .inr (5, [.ref xx, .int (nI n), .long (rdR i T n R), .int (rdF T n rd), .ref mm, .ref nn, .int at9, .int (nI e)])), (mm, .inl (cM, 3000, .inl (rw16 V9))), (nn, .inl (cN, 3, .inl (rc V9))), (xx, .inl (cX, 2400, .inl (tx T)))] H := by rw [hr1, hr2]; exact hP
                        have hD : va_D A [(md, .inr (5, [.ref xx, .int (nI n), .long (rdR i T n R), .int (rdF T n rd), .ref mm, .ref nn, .int at9, .int (nI e)])), (mm, .inl (cM, 3000, .inl (rw16 V9))), (nn, .inl (cN, 3, .inl (rc V9))), (xx, .inl (cX, 2400, .inl (tx T)))] := by rw [hr1, hr2]; exact hD
                        exact rt_i hx hb hrt hlocks (rfl) ((at9, nI e, V9)) (⟨by rw [decide_eq_false (by rw [hxF]; decide)]; rfl, hVn⟩) (hP.sub [0, 1, 2, 3] rfl) (hK.sub [0, 1, 2] rfl) (hD.sub [0, 1, 2, 3] (by decide) rfl) hS d_Mod_read_278
              refine lv_aload_n hx hb d_Mod_read_188 rfl (lv_at hl 1 rfl) ?_
              refine lv_aload_n hx hb d_Mod_read_189 rfl (lv_at hl 1 rfl) ?_
              refine va_get (D := D) (ci := 5) (v := .int (nI pp)) (C := R_Mod) (T := F_Mod) (N := 8) hx hb hts w_Mod hown hK hP 2 rfl rfl 6 (by decide) (hts _ kF_Mod_81) (fun _ h9 => h9) rfl d_Mod_read_190 ?_
              refine ca_i [(mm, .inl (cM, 3000, .inl (rw16 V))), (nn, .inl (cN, 3, .inl (rc V)))] (va_runV (As := [.int (nI pp)]) (rest := []) ⟨hx, hb, hml, hown, hts⟩ (c_Mod_look l D E md xx mm nn cX (nI n) rd R T (nI pp) e he pp (by omega) H.size) (xV 1 hts kC_Mod_look kM_Mod_84 kI_Mod_look kS_Mod_look kN_Mod rfl rfl (by decide +kernel) ⟨Nat.le_of_ble_eq_true rfl, Nat.le_of_ble_eq_true rfl⟩) ⟨ct_blind hev, va_recv hK hP (ci := 5) (q0 := 2) rfl rfl, ct_pre hev hP hK hD hS hA hE [2, 3] rfl (by decide) [2] rfl⟩ rfl rfl hl.1 rfl (lv_room (Nat.le_of_ble_eq_true rfl)) d_Mod_read_193 ⟨Nat.le_of_ble_eq_true rfl, Nat.le_of_ble_eq_true rfl⟩) hP hD hS hA [2, 3] [0, 1] rfl rfl (by decide) (by decide) (fun rv u H locs hw hP hD hS hK1 => ?_)
              subst hw
              have hP : va_P D vcl [(mm, .inl (cM, 3000, .inl (rw16 V))), (nn, .inl (cN, 3, .inl (rc V))), (md, .inr (5, [.ref xx, .int (nI n), .long R, .int rd, .ref mm, .ref nn, .int (nI pp), .int (nI e)])), (xx, .inl (cX, 2400, .inl (tx T)))] H := hP
              have hD : va_D A [(mm, .inl (cM, 3000, .inl (rw16 V))), (nn, .inl (cN, 3, .inl (rc V))), (md, .inr (5, [.ref xx, .int (nI n), .long R, .int rd, .ref mm, .ref nn, .int (nI pp), .int (nI e)])), (xx, .inl (cX, 2400, .inl (tx T)))] := hD
              refine lv_bipush (v := 48) hx hb d_Mod_read_196 (by decide) ?_
              refine lv_icmp_ne (tgt := 235) hx hb d_Mod_read_198 (by decide) (fun c198 => ?_) (fun c198 => ?_)
              · have e198 : lk T e pp ≠ 48 := fun z => c198 (by rw [z]; rfl)
                refine lv_iconst (v := 0) hx hb d_Mod_read_235 (by decide) ?_
                refine tv_i (bI (pxB T e pp)) (by rw [px_lk, decide_eq_false (fun z => e198 z.1)]; rfl) ?_
                refine lv_istore (lv' := [(5, .int (bI (pxB T e pp))), (3, .long 0), (0, .ref md), (1, .int wd), (2, .int (bI (decide (lk T e a = 45))))]) hx hb d_Mod_read_236 hl (by decide) rfl (fun ls hl => ?_)
                exact L238 1 0 (by decide)  _ _ _ (hP.sub [2, 0, 1, 3] rfl) (hD.sub [2, 0, 1, 3] (by decide) rfl) hS (lv_sub hl [2, 3, 4, 0] rfl)
              · have e198 : lk T e pp = 48 := (nI_eq (b := 48) (by have := lk_b hT e pp; omega) (by decide)).mp c198
                refine lv_aload_n hx hb d_Mod_read_201 rfl (lv_at hl 1 rfl) ?_
                refine lv_aload_n hx hb d_Mod_read_202 rfl (lv_at hl 1 rfl) ?_
                refine va_get (D := D) (ci := 5) (v := .int (nI pp)) (C := R_Mod) (T := F_Mod) (N := 8) hx hb hts w_Mod hown hK hP 2 rfl rfl 6 (by decide) (hts _ kF_Mod_81) (fun _ h9 => h9) rfl d_Mod_read_203 ?_
                refine lv_iconst (v := 1) hx hb d_Mod_read_206 (by decide) ?_
                refine lv_iadd hx hb d_Mod_read_207 ?_
                refine tv_i (nI (pp + 1)) (nI_1 pp) ?_
                refine ca_i [(mm, .inl (cM, 3000, .inl (rw16 V))), (nn, .inl (cN, 3, .inl (rc V)))] (va_runV (As := [.int (nI (pp + 1))]) (rest := []) ⟨hx, hb, hml, hown, hts⟩ (c_Mod_look l D E md xx mm nn cX (nI n) rd R T (nI pp) e he (pp + 1) (by omega) H.size) (xV 1 hts kC_Mod_look kM_Mod_84 kI_Mod_look kS_Mod_look kN_Mod rfl rfl (by decide +kernel) ⟨Nat.le_of_ble_eq_true rfl, Nat.le_of_ble_eq_true rfl⟩) ⟨ct_blind hev, va_recv hK hP (ci := 5) (q0 := 2) rfl rfl, ct_pre hev hP hK hD hS hA hE [2, 3] rfl (by decide) [2] rfl⟩ rfl rfl hl.1 rfl (lv_room (Nat.le_of_ble_eq_true rfl)) d_Mod_read_208 ⟨Nat.le_of_ble_eq_true rfl, Nat.le_of_ble_eq_true rfl⟩) hP hD hS hA [2, 3] [0, 1] rfl rfl (by decide) (by decide) (fun rv u H locs hw hP hD hS hK1 => ?_)
                subst hw
                have hP : va_P D vcl [(mm, .inl (cM, 3000, .inl (rw16 V))), (nn, .inl (cN, 3, .inl (rc V))), (md, .inr (5, [.ref xx, .int (nI n), .long R, .int rd, .ref mm, .ref nn, .int (nI pp), .int (nI e)])), (xx, .inl (cX, 2400, .inl (tx T)))] H := hP
                have hD : va_D A [(mm, .inl (cM, 3000, .inl (rw16 V))), (nn, .inl (cN, 3, .inl (rc V))), (md, .inr (5, [.ref xx, .int (nI n), .long R, .int rd, .ref mm, .ref nn, .int (nI pp), .int (nI e)])), (xx, .inl (cX, 2400, .inl (tx T)))] := hD
                refine lv_bipush (v := 120) hx hb d_Mod_read_211 (by decide) ?_
                refine lv_icmp_eq (tgt := 231) hx hb d_Mod_read_213 (by decide) (fun c213 => ?_) (fun c213 => ?_)
                · have e213 : lk T e (pp + 1) = 120 := (nI_eq (b := 120) (by have := lk_b hT e (pp + 1); omega) (by decide)).mp c213
                  refine lv_iconst (v := 1) hx hb d_Mod_read_231 (by decide) ?_
                  refine tv_i (bI (pxB T e pp)) (by rw [px_lk, decide_eq_true ⟨e198, Or.inl e213⟩]; rfl) ?_
                  refine lv_goto (tgt := 236) hx hb d_Mod_read_232 (by decide) ?_
                  refine lv_istore (lv' := [(5, .int (bI (pxB T e pp))), (3, .long 0), (0, .ref md), (1, .int wd), (2, .int (bI (decide (lk T e a = 45))))]) hx hb d_Mod_read_236 hl (by decide) rfl (fun ls hl => ?_)
                  exact L238 1 0 (by decide)  _ _ _ (hP.sub [2, 0, 1, 3] rfl) (hD.sub [2, 0, 1, 3] (by decide) rfl) hS (lv_sub hl [2, 3, 4, 0] rfl)
                · have e213 : lk T e (pp + 1) ≠ 120 := fun z => c213 (by rw [z]; rfl)
                  refine lv_aload_n hx hb d_Mod_read_216 rfl (lv_at hl 1 rfl) ?_
                  refine lv_aload_n hx hb d_Mod_read_217 rfl (lv_at hl 1 rfl) ?_
                  refine va_get (D := D) (ci := 5) (v := .int (nI pp)) (C := R_Mod) (T := F_Mod) (N := 8) hx hb hts w_Mod hown hK hP 2 rfl rfl 6 (by decide) (hts _ kF_Mod_81) (fun _ h9 => h9) rfl d_Mod_read_218 ?_
                  refine lv_iconst (v := 1) hx hb d_Mod_read_221 (by decide) ?_
                  refine lv_iadd hx hb d_Mod_read_222 ?_
                  refine tv_i (nI (pp + 1)) (nI_1 pp) ?_
                  refine ca_i [(mm, .inl (cM, 3000, .inl (rw16 V))), (nn, .inl (cN, 3, .inl (rc V)))] (va_runV (As := [.int (nI (pp + 1))]) (rest := []) ⟨hx, hb, hml, hown, hts⟩ (c_Mod_look l D E md xx mm nn cX (nI n) rd R T (nI pp) e he (pp + 1) (by omega) H.size) (xV 1 hts kC_Mod_look kM_Mod_84 kI_Mod_look kS_Mod_look kN_Mod rfl rfl (by decide +kernel) ⟨Nat.le_of_ble_eq_true rfl, Nat.le_of_ble_eq_true rfl⟩) ⟨ct_blind hev, va_recv hK hP (ci := 5) (q0 := 2) rfl rfl, ct_pre hev hP hK hD hS hA hE [2, 3] rfl (by decide) [2] rfl⟩ rfl rfl hl.1 rfl (lv_room (Nat.le_of_ble_eq_true rfl)) d_Mod_read_223 ⟨Nat.le_of_ble_eq_true rfl, Nat.le_of_ble_eq_true rfl⟩) hP hD hS hA [2, 3] [0, 1] rfl rfl (by decide) (by decide) (fun rv u H locs hw hP hD hS hK1 => ?_)
                  subst hw
                  have hP : va_P D vcl [(mm, .inl (cM, 3000, .inl (rw16 V))), (nn, .inl (cN, 3, .inl (rc V))), (md, .inr (5, [.ref xx, .int (nI n), .long R, .int rd, .ref mm, .ref nn, .int (nI pp), .int (nI e)])), (xx, .inl (cX, 2400, .inl (tx T)))] H := hP
                  have hD : va_D A [(mm, .inl (cM, 3000, .inl (rw16 V))), (nn, .inl (cN, 3, .inl (rc V))), (md, .inr (5, [.ref xx, .int (nI n), .long R, .int rd, .ref mm, .ref nn, .int (nI pp), .int (nI e)])), (xx, .inl (cX, 2400, .inl (tx T)))] := hD
                  refine lv_bipush (v := 88) hx hb d_Mod_read_226 (by decide) ?_
                  refine lv_icmp_ne (tgt := 235) hx hb d_Mod_read_228 (by decide) (fun c228 => ?_) (fun c228 => ?_)
                  · have e228 : lk T e (pp + 1) ≠ 88 := fun z => c228 (by rw [z]; rfl)
                    refine lv_iconst (v := 0) hx hb d_Mod_read_235 (by decide) ?_
                    refine tv_i (bI (pxB T e pp)) (by rw [px_lk, decide_eq_false (fun z => z.2.elim e213 e228)]; rfl) ?_
                    refine lv_istore (lv' := [(5, .int (bI (pxB T e pp))), (3, .long 0), (0, .ref md), (1, .int wd), (2, .int (bI (decide (lk T e a = 45))))]) hx hb d_Mod_read_236 hl (by decide) rfl (fun ls hl => ?_)
                    exact L238 1 0 (by decide)  _ _ _ (hP.sub [2, 0, 1, 3] rfl) (hD.sub [2, 0, 1, 3] (by decide) rfl) hS (lv_sub hl [2, 3, 4, 0] rfl)
                  · have e228 : lk T e (pp + 1) = 88 := (nI_eq (b := 88) (by have := lk_b hT e (pp + 1); omega) (by decide)).mp c228
                    refine lv_iconst (v := 1) hx hb d_Mod_read_231 (by decide) ?_
                    refine tv_i (bI (pxB T e pp)) (by rw [px_lk, decide_eq_true ⟨e198, Or.inr e228⟩]; rfl) ?_
                    refine lv_goto (tgt := 236) hx hb d_Mod_read_232 (by decide) ?_
                    refine lv_istore (lv' := [(5, .int (bI (pxB T e pp))), (3, .long 0), (0, .ref md), (1, .int wd), (2, .int (bI (decide (lk T e a = 45))))]) hx hb d_Mod_read_236 hl (by decide) rfl (fun ls hl => ?_)
                    exact L238 1 0 (by decide)  _ _ _ (hP.sub [2, 0, 1, 3] rfl) (hD.sub [2, 0, 1, 3] (by decide) rfl) hS (lv_sub hl [2, 3, 4, 0] rfl)
            · have e177 : wdB T e pp 1 = true := tt_of (fun z => c177 ((bI_0 _).mpr z))
              refine lv_iload_n hx hb d_Mod_read_180 rfl (lv_at hl 2 rfl) ?_
              refine ca_l [(mm, .inl (cM, 3000, .inl (rw16 V))), (nn, .inl (cN, 3, .inl (rc V))), (md, .inr (5, [.ref xx, .int (nI n), .long R, .int rd, .ref mm, .ref nn, .int (nI pp), .int (nI e)])), (xx, .inl (cX, 2400, .inl (tx T)))] (va_runS (As := [.int wd]) (rest := []) ⟨hx, hb, hml, hown, hts⟩ (c_Mod_infinite l D E wd H.size) (xS 1 hts kC_Mod_infinite kM_Mod_46 kT_Mod_infinite kN_Mod rfl rfl (by decide +kernel) ⟨Nat.le_of_ble_eq_true rfl, Nat.le_of_ble_eq_true rfl⟩) ⟨ct_blind hev, ct_pre hev hP hK hD hS hA hE [] rfl (by decide) [] rfl⟩ rfl rfl hl.1 rfl (lv_room (Nat.le_of_ble_eq_true rfl)) d_Mod_read_181 ⟨Nat.le_of_ble_eq_true rfl, Nat.le_of_ble_eq_true rfl⟩) hP hD hS hA [] [0, 1, 2, 3] rfl rfl (by decide) (by decide) (fun rv u H locs hw hP hD hS hK1 => ?_)
              subst hw
              have hP : va_P D vcl [(mm, .inl (cM, 3000, .inl (rw16 V))), (nn, .inl (cN, 3, .inl (rc V))), (md, .inr (5, [.ref xx, .int (nI n), .long R, .int rd, .ref mm, .ref nn, .int (nI pp), .int (nI e)])), (xx, .inl (cX, 2400, .inl (tx T)))] H := hP
              have hD : va_D A [(mm, .inl (cM, 3000, .inl (rw16 V))), (nn, .inl (cN, 3, .inl (rc V))), (md, .inr (5, [.ref xx, .int (nI n), .long R, .int rd, .ref mm, .ref nn, .int (nI pp), .int (nI e)])), (xx, .inl (cX, 2400, .inl (tx T)))] := hD
              refine lv_lstore_n (lv' := [(3, .long (kInf (knd wd))), (0, .ref md), (1, .int wd), (2, .int (bI (decide (lk T e a = 45))))]) hx hb d_Mod_read_184 rfl hl (by decide) rfl (fun ls hl => ?_)
              refine lv_goto (tgt := 279) hx hb d_Mod_read_185 (by decide) ?_
              refine lv_aload_n hx hb d_Mod_read_279 rfl (lv_at hl 1 rfl) ?_
              refine lv_lload_n hx hb d_Mod_read_280 rfl (lv_at hl 0 rfl) ?_
              refine lv_iload_n hx hb d_Mod_read_281 rfl (lv_at hl 3 rfl) ?_
              refine lv_iload_n hx hb d_Mod_read_282 rfl (lv_at hl 2 rfl) ?_
              refine ca_l [(mm, .inl (cM, 3000, .inl (rw16 V))), (nn, .inl (cN, 3, .inl (rc V))), (md, .inr (5, [.ref xx, .int (nI n), .long R, .int rd, .ref mm, .ref nn, .int (nI pp), .int (nI e)])), (xx, .inl (cX, 2400, .inl (tx T)))] (va_runS (As := [.long (kInf (knd wd)), .int (bI (decide (lk T e a = 45))), .int wd]) (rest := [.ref md]) ⟨hx, hb, hml, hown, hts⟩ (c_Mod_signed l D E (kInf (knd wd)) (bI (decide (lk T e a = 45))) wd H.size) (xS 3 hts kC_Mod_signed kM_Mod_112 kT_Mod_signed kN_Mod rfl rfl (by decide +kernel) ⟨Nat.le_of_ble_eq_true rfl, Nat.le_of_ble_eq_true rfl⟩) ⟨ct_blind hev, ct_pre hev hP hK hD hS hA hE [] rfl (by decide) [] rfl⟩ rfl rfl hl.1 rfl (lv_room (Nat.le_of_ble_eq_true rfl)) d_Mod_read_283 ⟨Nat.le_of_ble_eq_true rfl, Nat.le_of_ble_eq_true rfl⟩) hP hD hS hA [] [0, 1, 2, 3] rfl rfl (by decide) (by decide) (fun rv u H locs hw hP hD hS hK1 => ?_)
              subst hw
              have hP : va_P D vcl [(mm, .inl (cM, 3000, .inl (rw16 V))), (nn, .inl (cN, 3, .inl (rc V))), (md, .inr (5, [.ref xx, .int (nI n), .long R, .int rd, .ref mm, .ref nn, .int (nI pp), .int (nI e)])), (xx, .inl (cX, 2400, .inl (tx T)))] H := hP
              have hD : va_D A [(mm, .inl (cM, 3000, .inl (rw16 V))), (nn, .inl (cN, 3, .inl (rc V))), (md, .inr (5, [.ref xx, .int (nI n), .long R, .int rd, .ref mm, .ref nn, .int (nI pp), .int (nI e)])), (xx, .inl (cX, 2400, .inl (tx T)))] := hD
              refine va_put (D := D) (ci := 5) (v := .long (sgd (knd wd) (kInf (knd wd)) (bI (decide (lk T e a = 45))))) (ty := .long) (C := R_Mod) (T := F_Mod) (N := 8) hx hb hts w_Mod t_Mod tk_Mod n_Mod hown hK hP hD hS 2 rfl rfl 2 (by decide) (hts _ kF_Mod_97) (fun _ h9 => h9) rfl (by decide +kernel) (rfl) (rfl) (Nat.le_of_ble_eq_true rfl) d_Mod_read_286 (fun H locs hP hD hS => ?_)
              have hP : va_P D vcl [(mm, .inl (cM, 3000, .inl (rw16 V))), (nn, .inl (cN, 3, .inl (rc V))), (md, .inr (5, [.ref xx, .int (nI n), .long (sgd (knd wd) (kInf (knd wd)) (bI (decide (lk T e a = 45)))), .int rd, .ref mm, .ref nn, .int (nI pp), .int (nI e)])), (xx, .inl (cX, 2400, .inl (tx T)))] H := hP
              have hD : va_D A [(mm, .inl (cM, 3000, .inl (rw16 V))), (nn, .inl (cN, 3, .inl (rc V))), (md, .inr (5, [.ref xx, .int (nI n), .long (sgd (knd wd) (kInf (knd wd)) (bI (decide (lk T e a = 45)))), .int rd, .ref mm, .ref nn, .int (nI pp), .int (nI e)])), (xx, .inl (cX, 2400, .inl (tx T)))] := hD
              refine lv_aload_n hx hb d_Mod_read_289 rfl (lv_at hl 1 rfl) ?_
              refine lv_dup hx hb d_Mod_read_290 rfl ?_
              refine va_get (D := D) (ci := 5) (v := .int rd) (C := R_Mod) (T := F_Mod) (N := 8) hx hb hts w_Mod hown hK hP 2 rfl rfl 3 (by decide) (hts _ kF_Mod_101) (fun _ h9 => h9) rfl d_Mod_read_291 ?_
              refine lv_iconst (v := 1) hx hb d_Mod_read_294 (by decide) ?_
              refine lv_iadd hx hb d_Mod_read_295 ?_
              refine va_put (D := D) (ci := 5) (v := .int (rd + 1)) (ty := .int) (C := R_Mod) (T := F_Mod) (N := 8) hx hb hts w_Mod t_Mod tk_Mod n_Mod hown hK hP hD hS 2 rfl rfl 3 (by decide) (hts _ kF_Mod_101) (fun _ h9 => h9) rfl (by decide +kernel) (rfl) (rfl) (Nat.le_of_ble_eq_true rfl) d_Mod_read_296 (fun H locs hP hD hS => ?_)
              have hP : va_P D vcl [(mm, .inl (cM, 3000, .inl (rw16 V))), (nn, .inl (cN, 3, .inl (rc V))), (md, .inr (5, [.ref xx, .int (nI n), .long (sgd (knd wd) (kInf (knd wd)) (bI (decide (lk T e a = 45)))), .int (rd + 1), .ref mm, .ref nn, .int (nI pp), .int (nI e)])), (xx, .inl (cX, 2400, .inl (tx T)))] H := hP
              have hD : va_D A [(mm, .inl (cM, 3000, .inl (rw16 V))), (nn, .inl (cN, 3, .inl (rc V))), (md, .inr (5, [.ref xx, .int (nI n), .long (sgd (knd wd) (kInf (knd wd)) (bI (decide (lk T e a = 45)))), .int (rd + 1), .ref mm, .ref nn, .int (nI pp), .int (nI e)])), (xx, .inl (cX, 2400, .inl (tx T)))] := hD
              refine lv_iconst (v := 1) hx hb d_Mod_read_299 (by decide) ?_
              have hxF : xF T n = 2 := by rw [← hg1]; unfold gF; rw [e150, e177]; rfl
              obtain ⟨hqa, hqe⟩ := hg2 (by rw [hxF]; decide)
              have hqp : pp = xP T n := by rw [hpp, hqa, hqe]; rfl
              have hqm : decide (lk T e a = 45) = xM T n := by rw [hqa, hqe]; rfl
              obtain ⟨hr1, hr2⟩ := rd_2 (R := R) (fd := rd) hi hxF
              rw [← hqm] at hr1
              rw [show sgd (knd wd) (kInf (knd wd)) (bI (decide (lk T e a = 45))) = rdR i T n R from by rw [hr1, hwd], show rd + 1 = rdF T n rd from hr2.symm] at hP hD
              exact rt_i hx hb hrt hlocks (rfl) ((nI pp, nI e, V)) (⟨by rw [decide_eq_true (by rw [hxF]; decide)]; rfl, hV⟩) (hP.sub [2, 0, 1, 3] rfl) (hK.sub [0, 1, 2] rfl) (hD.sub [2, 0, 1, 3] (by decide) rfl) hS d_Mod_read_300
          · have e150 : wdB T e pp 0 = true := tt_of (fun z => c150 ((bI_0 _).mpr z))
            refine lv_aload_n hx hb d_Mod_read_153 rfl (lv_at hl 1 rfl) ?_
            refine lv_iload_n hx hb d_Mod_read_154 rfl (lv_at hl 2 rfl) ?_
            refine ca_l [(mm, .inl (cM, 3000, .inl (rw16 V))), (nn, .inl (cN, 3, .inl (rc V))), (md, .inr (5, [.ref xx, .int (nI n), .long R, .int rd, .ref mm, .ref nn, .int (nI pp), .int (nI e)])), (xx, .inl (cX, 2400, .inl (tx T)))] (va_runS (As := [.int wd]) (rest := [.ref md]) ⟨hx, hb, hml, hown, hts⟩ (c_Mod_none l D E wd H.size) (xS 1 hts kC_Mod_none kM_Mod_94 kT_Mod_none kN_Mod rfl rfl (by decide +kernel) ⟨Nat.le_of_ble_eq_true rfl, Nat.le_of_ble_eq_true rfl⟩) ⟨ct_blind hev, ct_pre hev hP hK hD hS hA hE [] rfl (by decide) [] rfl⟩ rfl rfl hl.1 rfl (lv_room (Nat.le_of_ble_eq_true rfl)) d_Mod_read_155 ⟨Nat.le_of_ble_eq_true rfl, Nat.le_of_ble_eq_true rfl⟩) hP hD hS hA [] [0, 1, 2, 3] rfl rfl (by decide) (by decide) (fun rv u H locs hw hP hD hS hK1 => ?_)
            subst hw
            have hP : va_P D vcl [(mm, .inl (cM, 3000, .inl (rw16 V))), (nn, .inl (cN, 3, .inl (rc V))), (md, .inr (5, [.ref xx, .int (nI n), .long R, .int rd, .ref mm, .ref nn, .int (nI pp), .int (nI e)])), (xx, .inl (cX, 2400, .inl (tx T)))] H := hP
            have hD : va_D A [(mm, .inl (cM, 3000, .inl (rw16 V))), (nn, .inl (cN, 3, .inl (rc V))), (md, .inr (5, [.ref xx, .int (nI n), .long R, .int rd, .ref mm, .ref nn, .int (nI pp), .int (nI e)])), (xx, .inl (cX, 2400, .inl (tx T)))] := hD
            refine va_put (D := D) (ci := 5) (v := .long (kNon (knd wd))) (ty := .long) (C := R_Mod) (T := F_Mod) (N := 8) hx hb hts w_Mod t_Mod tk_Mod n_Mod hown hK hP hD hS 2 rfl rfl 2 (by decide) (hts _ kF_Mod_97) (fun _ h9 => h9) rfl (by decide +kernel) (rfl) (rfl) (Nat.le_of_ble_eq_true rfl) d_Mod_read_158 (fun H locs hP hD hS => ?_)
            have hP : va_P D vcl [(mm, .inl (cM, 3000, .inl (rw16 V))), (nn, .inl (cN, 3, .inl (rc V))), (md, .inr (5, [.ref xx, .int (nI n), .long (kNon (knd wd)), .int rd, .ref mm, .ref nn, .int (nI pp), .int (nI e)])), (xx, .inl (cX, 2400, .inl (tx T)))] H := hP
            have hD : va_D A [(mm, .inl (cM, 3000, .inl (rw16 V))), (nn, .inl (cN, 3, .inl (rc V))), (md, .inr (5, [.ref xx, .int (nI n), .long (kNon (knd wd)), .int rd, .ref mm, .ref nn, .int (nI pp), .int (nI e)])), (xx, .inl (cX, 2400, .inl (tx T)))] := hD
            refine lv_aload_n hx hb d_Mod_read_161 rfl (lv_at hl 1 rfl) ?_
            refine lv_dup hx hb d_Mod_read_162 rfl ?_
            refine va_get (D := D) (ci := 5) (v := .int rd) (C := R_Mod) (T := F_Mod) (N := 8) hx hb hts w_Mod hown hK hP 2 rfl rfl 3 (by decide) (hts _ kF_Mod_101) (fun _ h9 => h9) rfl d_Mod_read_163 ?_
            refine lv_iconst (v := 1) hx hb d_Mod_read_166 (by decide) ?_
            refine lv_iadd hx hb d_Mod_read_167 ?_
            refine va_put (D := D) (ci := 5) (v := .int (rd + 1)) (ty := .int) (C := R_Mod) (T := F_Mod) (N := 8) hx hb hts w_Mod t_Mod tk_Mod n_Mod hown hK hP hD hS 2 rfl rfl 3 (by decide) (hts _ kF_Mod_101) (fun _ h9 => h9) rfl (by decide +kernel) (rfl) (rfl) (Nat.le_of_ble_eq_true rfl) d_Mod_read_168 (fun H locs hP hD hS => ?_)
            have hP : va_P D vcl [(mm, .inl (cM, 3000, .inl (rw16 V))), (nn, .inl (cN, 3, .inl (rc V))), (md, .inr (5, [.ref xx, .int (nI n), .long (kNon (knd wd)), .int (rd + 1), .ref mm, .ref nn, .int (nI pp), .int (nI e)])), (xx, .inl (cX, 2400, .inl (tx T)))] H := hP
            have hD : va_D A [(mm, .inl (cM, 3000, .inl (rw16 V))), (nn, .inl (cN, 3, .inl (rc V))), (md, .inr (5, [.ref xx, .int (nI n), .long (kNon (knd wd)), .int (rd + 1), .ref mm, .ref nn, .int (nI pp), .int (nI e)])), (xx, .inl (cX, 2400, .inl (tx T)))] := hD
            refine lv_iconst (v := 1) hx hb d_Mod_read_171 (by decide) ?_
            have hxF : xF T n = 1 := by rw [← hg1]; unfold gF; rw [e150]; rfl
            obtain ⟨hr1, hr2⟩ := rd_1 (i := i) (R := R) (fd := rd) hxF
            rw [show kNon (knd wd) = rdR i T n R from by rw [hr1, hwd], show rd + 1 = rdF T n rd from hr2.symm] at hP hD
            exact rt_i hx hb hrt hlocks (rfl) ((nI pp, nI e, V)) (⟨by rw [decide_eq_true (by rw [hxF]; decide)]; rfl, hV⟩) (hP.sub [2, 0, 1, 3] rfl) (hK.sub [0, 1, 2] rfl) (hD.sub [2, 0, 1, 3] (by decide) rfl) hS d_Mod_read_172
      refine lv_aload_n hx hb d_Mod_read_91 rfl (lv_at hl 0 rfl) ?_
      refine lv_aload_n hx hb d_Mod_read_92 rfl (lv_at hl 0 rfl) ?_
      refine va_get (D := D) (ci := 5) (v := .int (nI a)) (C := R_Mod) (T := F_Mod) (N := 8) hx hb hts w_Mod hown hK hP 0 rfl rfl 6 (by decide) (hts _ kF_Mod_81) (fun _ h9 => h9) rfl d_Mod_read_93 ?_
      refine ca_i [(mm, .inl (cM, 3000, .inl (rw16 V))), (nn, .inl (cN, 3, .inl (rc V)))] (va_runV (As := [.int (nI a)]) (rest := []) ⟨hx, hb, hml, hown, hts⟩ (c_Mod_look l D E md xx mm nn cX (nI n) rd R T (nI a) e he a (by omega) H.size) (xV 1 hts kC_Mod_look kM_Mod_84 kI_Mod_look kS_Mod_look kN_Mod rfl rfl (by decide +kernel) ⟨Nat.le_of_ble_eq_true rfl, Nat.le_of_ble_eq_true rfl⟩) ⟨ct_blind hev, va_recv hK hP (ci := 5) (q0 := 0) rfl rfl, ct_pre hev hP hK hD hS hA hE [0, 3] rfl (by decide) [2] rfl⟩ rfl rfl hl.1 rfl (lv_room (Nat.le_of_ble_eq_true rfl)) d_Mod_read_96 ⟨Nat.le_of_ble_eq_true rfl, Nat.le_of_ble_eq_true rfl⟩) hP hD hS hA [0, 3] [1, 2] rfl rfl (by decide) (by decide) (fun rv u H locs hw hP hD hS hK1 => ?_)
      subst hw
      have hP : va_P D vcl [(mm, .inl (cM, 3000, .inl (rw16 V))), (nn, .inl (cN, 3, .inl (rc V))), (md, .inr (5, [.ref xx, .int (nI n), .long R, .int rd, .ref mm, .ref nn, .int (nI a), .int (nI e)])), (xx, .inl (cX, 2400, .inl (tx T)))] H := hP
      have hD : va_D A [(mm, .inl (cM, 3000, .inl (rw16 V))), (nn, .inl (cN, 3, .inl (rc V))), (md, .inr (5, [.ref xx, .int (nI n), .long R, .int rd, .ref mm, .ref nn, .int (nI a), .int (nI e)])), (xx, .inl (cX, 2400, .inl (tx T)))] := hD
      refine lv_bipush (v := 45) hx hb d_Mod_read_99 (by decide) ?_
      refine lv_icmp_ne (tgt := 108) hx hb d_Mod_read_101 (by decide) (fun c101 => ?_) (fun c101 => ?_)
      · have e101 : lk T e a ≠ 45 := fun z => c101 (by rw [z]; rfl)
        refine lv_iconst (v := 0) hx hb d_Mod_read_108 (by decide) ?_
        refine tv_i (bI (decide (lk T e a = 45))) (by rw [decide_eq_false e101]; rfl) ?_
        refine lv_istore_n (lv' := [(2, .int (bI (decide (lk T e a = 45)))), (0, .ref md), (1, .int wd)]) hx hb d_Mod_read_109 rfl hl (by decide) rfl (fun ls hl => ?_)
        refine lv_iload_n hx hb d_Mod_read_110 rfl (lv_at hl 0 rfl) ?_
        refine lv_if_ne (tgt := 127) hx hb d_Mod_read_111 (by decide) (fun c111 => ?_) (fun c111 => ?_)
        · exact absurd (by rw [decide_eq_false e101]; rfl) c111
        · refine lv_aload_n hx hb d_Mod_read_114 rfl (lv_at hl 1 rfl) ?_
          refine lv_aload_n hx hb d_Mod_read_115 rfl (lv_at hl 1 rfl) ?_
          refine va_get (D := D) (ci := 5) (v := .int (nI a)) (C := R_Mod) (T := F_Mod) (N := 8) hx hb hts w_Mod hown hK hP 2 rfl rfl 6 (by decide) (hts _ kF_Mod_81) (fun _ h9 => h9) rfl d_Mod_read_116 ?_
          refine ca_i [(mm, .inl (cM, 3000, .inl (rw16 V))), (nn, .inl (cN, 3, .inl (rc V)))] (va_runV (As := [.int (nI a)]) (rest := []) ⟨hx, hb, hml, hown, hts⟩ (c_Mod_look l D E md xx mm nn cX (nI n) rd R T (nI a) e he a (by omega) H.size) (xV 1 hts kC_Mod_look kM_Mod_84 kI_Mod_look kS_Mod_look kN_Mod rfl rfl (by decide +kernel) ⟨Nat.le_of_ble_eq_true rfl, Nat.le_of_ble_eq_true rfl⟩) ⟨ct_blind hev, va_recv hK hP (ci := 5) (q0 := 2) rfl rfl, ct_pre hev hP hK hD hS hA hE [2, 3] rfl (by decide) [2] rfl⟩ rfl rfl hl.1 rfl (lv_room (Nat.le_of_ble_eq_true rfl)) d_Mod_read_119 ⟨Nat.le_of_ble_eq_true rfl, Nat.le_of_ble_eq_true rfl⟩) hP hD hS hA [2, 3] [0, 1] rfl rfl (by decide) (by decide) (fun rv u H locs hw hP hD hS hK1 => ?_)
          subst hw
          have hP : va_P D vcl [(mm, .inl (cM, 3000, .inl (rw16 V))), (nn, .inl (cN, 3, .inl (rc V))), (md, .inr (5, [.ref xx, .int (nI n), .long R, .int rd, .ref mm, .ref nn, .int (nI a), .int (nI e)])), (xx, .inl (cX, 2400, .inl (tx T)))] H := hP
          have hD : va_D A [(mm, .inl (cM, 3000, .inl (rw16 V))), (nn, .inl (cN, 3, .inl (rc V))), (md, .inr (5, [.ref xx, .int (nI n), .long R, .int rd, .ref mm, .ref nn, .int (nI a), .int (nI e)])), (xx, .inl (cX, 2400, .inl (tx T)))] := hD
          refine lv_bipush (v := 43) hx hb d_Mod_read_122 (by decide) ?_
          refine lv_icmp_ne (tgt := 137) hx hb d_Mod_read_124 (by decide) (fun c124 => ?_) (fun c124 => ?_)
          · have hsg : ¬ (lk T e a = 45 ∨ lk T e a = 43) := fun z => z.elim e101 (fun z => c124 (by rw [z]; rfl))
            rw [show nI a = nI pp from by rw [hpp]; unfold gP; rw [if_neg hsg]] at hP hD
            have hP : va_P D vcl [(mm, .inl (cM, 3000, .inl (rw16 V))), (nn, .inl (cN, 3, .inl (rc V))), (md, .inr (5, [.ref xx, .int (nI n), .long R, .int rd, .ref mm, .ref nn, .int (nI pp), .int (nI e)])), (xx, .inl (cX, 2400, .inl (tx T)))] H := hP
            have hD : va_D A [(mm, .inl (cM, 3000, .inl (rw16 V))), (nn, .inl (cN, 3, .inl (rc V))), (md, .inr (5, [.ref xx, .int (nI n), .long R, .int rd, .ref mm, .ref nn, .int (nI pp), .int (nI e)])), (xx, .inl (cX, 2400, .inl (tx T)))] := hD
            exact L137 1 0 (by decide)  _ _ _ (hP.sub [2, 0, 1, 3] rfl) (hD.sub [2, 0, 1, 3] (by decide) rfl) hS (lv_sub hl [1, 2, 0] rfl)
          · have hsg : lk T e a = 45 ∨ lk T e a = 43 := Or.inr ((nI_eq (b := 43) (by omega) (by decide)).mp c124)
            refine lv_aload_n hx hb d_Mod_read_127 rfl (lv_at hl 1 rfl) ?_
            refine lv_dup hx hb d_Mod_read_128 rfl ?_
            refine va_get (D := D) (ci := 5) (v := .int (nI a)) (C := R_Mod) (T := F_Mod) (N := 8) hx hb hts w_Mod hown hK hP 2 rfl rfl 6 (by decide) (hts _ kF_Mod_81) (fun _ h9 => h9) rfl d_Mod_read_129 ?_
            refine lv_iconst (v := 1) hx hb d_Mod_read_132 (by decide) ?_
            refine lv_iadd hx hb d_Mod_read_133 ?_
            refine tv_i (nI pp) (by rw [hpp]; unfold gP; rw [if_pos hsg]; exact nI_1 a) ?_
            refine va_put (D := D) (ci := 5) (v := .int (nI pp)) (ty := .int) (C := R_Mod) (T := F_Mod) (N := 8) hx hb hts w_Mod t_Mod tk_Mod n_Mod hown hK hP hD hS 2 rfl rfl 6 (by decide) (hts _ kF_Mod_81) (fun _ h9 => h9) rfl (by decide +kernel) (rfl) (rfl) (Nat.le_of_ble_eq_true rfl) d_Mod_read_134 (fun H locs hP hD hS => ?_)
            have hP : va_P D vcl [(mm, .inl (cM, 3000, .inl (rw16 V))), (nn, .inl (cN, 3, .inl (rc V))), (md, .inr (5, [.ref xx, .int (nI n), .long R, .int rd, .ref mm, .ref nn, .int (nI pp), .int (nI e)])), (xx, .inl (cX, 2400, .inl (tx T)))] H := hP
            have hD : va_D A [(mm, .inl (cM, 3000, .inl (rw16 V))), (nn, .inl (cN, 3, .inl (rc V))), (md, .inr (5, [.ref xx, .int (nI n), .long R, .int rd, .ref mm, .ref nn, .int (nI pp), .int (nI e)])), (xx, .inl (cX, 2400, .inl (tx T)))] := hD
            exact L137 1 0 (by decide)  _ _ _ (hP.sub [2, 0, 1, 3] rfl) (hD.sub [2, 0, 1, 3] (by decide) rfl) hS (lv_sub hl [1, 2, 0] rfl)
      · have e101 : lk T e a = 45 := (nI_eq (b := 45) (by omega) (by decide)).mp c101
        refine lv_iconst (v := 1) hx hb d_Mod_read_104 (by decide) ?_
        refine tv_i (bI (decide (lk T e a = 45))) (by rw [decide_eq_true e101]; rfl) ?_
        refine lv_goto (tgt := 109) hx hb d_Mod_read_105 (by decide) ?_
        refine lv_istore_n (lv' := [(2, .int (bI (decide (lk T e a = 45)))), (0, .ref md), (1, .int wd)]) hx hb d_Mod_read_109 rfl hl (by decide) rfl (fun ls hl => ?_)
        refine lv_iload_n hx hb d_Mod_read_110 rfl (lv_at hl 0 rfl) ?_
        refine lv_if_ne (tgt := 127) hx hb d_Mod_read_111 (by decide) (fun c111 => ?_) (fun c111 => ?_)
        · have hsg : lk T e a = 45 ∨ lk T e a = 43 := Or.inl e101
          refine lv_aload_n hx hb d_Mod_read_127 rfl (lv_at hl 1 rfl) ?_
          refine lv_dup hx hb d_Mod_read_128 rfl ?_
          refine va_get (D := D) (ci := 5) (v := .int (nI a)) (C := R_Mod) (T := F_Mod) (N := 8) hx hb hts w_Mod hown hK hP 2 rfl rfl 6 (by decide) (hts _ kF_Mod_81) (fun _ h9 => h9) rfl d_Mod_read_129 ?_
          refine lv_iconst (v := 1) hx hb d_Mod_read_132 (by decide) ?_
          refine lv_iadd hx hb d_Mod_read_133 ?_
          refine tv_i (nI pp) (by rw [hpp]; unfold gP; rw [if_pos hsg]; exact nI_1 a) ?_
          refine va_put (D := D) (ci := 5) (v := .int (nI pp)) (ty := .int) (C := R_Mod) (T := F_Mod) (N := 8) hx hb hts w_Mod t_Mod tk_Mod n_Mod hown hK hP hD hS 2 rfl rfl 6 (by decide) (hts _ kF_Mod_81) (fun _ h9 => h9) rfl (by decide +kernel) (rfl) (rfl) (Nat.le_of_ble_eq_true rfl) d_Mod_read_134 (fun H locs hP hD hS => ?_)
          have hP : va_P D vcl [(mm, .inl (cM, 3000, .inl (rw16 V))), (nn, .inl (cN, 3, .inl (rc V))), (md, .inr (5, [.ref xx, .int (nI n), .long R, .int rd, .ref mm, .ref nn, .int (nI pp), .int (nI e)])), (xx, .inl (cX, 2400, .inl (tx T)))] H := hP
          have hD : va_D A [(mm, .inl (cM, 3000, .inl (rw16 V))), (nn, .inl (cN, 3, .inl (rc V))), (md, .inr (5, [.ref xx, .int (nI n), .long R, .int rd, .ref mm, .ref nn, .int (nI pp), .int (nI e)])), (xx, .inl (cX, 2400, .inl (tx T)))] := hD
          exact L137 1 0 (by decide)  _ _ _ (hP.sub [2, 0, 1, 3] rfl) (hD.sub [2, 0, 1, 3] (by decide) rfl) hS (lv_sub hl [1, 2, 0] rfl)
        · exact absurd ((decide_eq_true e101).symm.trans ((bI_0 _).mp c111)) (by decide)
  have L51 : ∀ (kk : Nat) (a : Nat) (e : Nat), e < kk → (a ≤ e) → (e ≤ n) → (bk T n 0 = a) → (a < n → a < e ∧ ¬ T a ≤ 32) → (tE T e = tE T n) → ∀ (H : Heap) (locs : List Loc) (ls : Array Slot), va_P D vcl [(md, .inr (5, [.ref xx, .int (nI n), .long R, .int rd, .ref mm, .ref nn, .int (nI a), .int (nI e)])), (mm, .inl (cM, 3000, .inl (rw16 V))), (nn, .inl (cN, 3, .inl (rc V))), (xx, .inl (cX, 2400, .inl (tx T)))] H → va_D A [(md, .inr (5, [.ref xx, .int (nI n), .long R, .int rd, .ref mm, .ref nn, .int (nI a), .int (nI e)])), (mm, .inl (cM, 3000, .inl (rw16 V))), (nn, .inl (cN, 3, .inl (rc V))), (xx, .inl (cX, 2400, .inl (tx T)))] → va_S A s.heap H locs → lv_has ls 6 [(0, .ref md), (1, .int wd)] → W p l ee ({ frames := 6, cells := 0, slots := 0, locals := 179 }) s m ([.ref md, .int wd] : List Value).toArray below meth cde H locs 0 0 (MQ below (va_Qi (S := (Int32 × Int32 × (Nat → Nat))) (fun (w : Int32) (u : (Int32 × Int32 × (Nat → Nat))) => w = bI (decide (xF T n ≠ 0)) ∧ okV u.2.2) (fun u tS => ctB D vcl ((fun _ => [(cM, .int), (cN, .int), (cX, .int)]) u) ((fun u : (Int32 × Int32 × (Nat → Nat)) => [(md, .inr (5, [.ref xx, .int (nI n), .long (rdR i T n R), .int (rdF T n rd), .ref mm, .ref nn, .int u.1, .int u.2.1])), (mm, .inl (cM, 3000, .inl (rw16 u.2.2))), (nn, .inl (cN, 3, .inl (rc u.2.2))), (xx, .inl (cX, 2400, .inl (tx T)))]) u) A tS) A) ([.ref md, .int wd] : List Value).toArray s 0 0 A) (F0 m 51 ls []) := by
    intro kk
    induction kk with
    | zero => intro a e hmz; exact absurd hmz (Nat.not_lt_zero _)
    | succ kk ih =>
      intro a e hmz hae hen hbk hTa htr H locs ls hP hD hS hl
      refine lv_aload_n hx hb d_Mod_read_51 rfl (lv_at hl 0 rfl) ?_
      refine va_get (D := D) (ci := 5) (v := .int (nI e)) (C := R_Mod) (T := F_Mod) (N := 8) hx hb hts w_Mod hown hK hP 0 rfl rfl 7 (by decide) (hts _ kF_Mod_78) (fun _ h9 => h9) rfl d_Mod_read_52 ?_
      refine lv_aload_n hx hb d_Mod_read_55 rfl (lv_at hl 0 rfl) ?_
      refine va_get (D := D) (ci := 5) (v := .int (nI a)) (C := R_Mod) (T := F_Mod) (N := 8) hx hb hts w_Mod hown hK hP 0 rfl rfl 6 (by decide) (hts _ kF_Mod_81) (fun _ h9 => h9) rfl d_Mod_read_56 ?_
      refine lv_icmp_le (tgt := 91) hx hb d_Mod_read_59 (by decide) (fun c59 => ?_) (fun c59 => ?_)
      · have e59 : e ≤ a := (nI_leI (by omega) (by omega)).mp c59
        exact L91 1 a e (by decide) (hae) (hen) (Or.inr ⟨by omega, blank_xF (by rw [hbk]; by_cases h9 : a < n; (· have := hTa h9; omega); omega)⟩) _ _ _ (hP.sub [0, 1, 2, 3] rfl) (hD.sub [0, 1, 2, 3] (by decide) rfl) hS (lv_sub hl [0, 1] rfl)
      · have e59 : a < e := Nat.lt_of_not_le (fun z => c59 ((nI_leI (by omega) (by omega)).mpr z))
        refine lv_aload_n hx hb d_Mod_read_62 rfl (lv_at hl 0 rfl) ?_
        refine va_get (D := D) (ci := 5) (v := .ref xx) (C := R_Mod) (T := F_Mod) (N := 8) hx hb hts w_Mod hown hK hP 0 rfl rfl 0 (by decide) (hts _ kF_Mod_7) (fun _ h9 => h9) rfl d_Mod_read_63 ?_
        refine lv_aload_n hx hb d_Mod_read_66 rfl (lv_at hl 0 rfl) ?_
        refine va_get (D := D) (ci := 5) (v := .int (nI e)) (C := R_Mod) (T := F_Mod) (N := 8) hx hb hts w_Mod hown hK hP 0 rfl rfl 7 (by decide) (hts _ kF_Mod_78) (fun _ h9 => h9) rfl d_Mod_read_67 ?_
        refine lv_iconst (v := 1) hx hb d_Mod_read_70 (by decide) ?_
        refine lv_isub hx hb d_Mod_read_71 ?_
        refine tv_i (nI (e - 1)) (nI_dec (by omega)) ?_
        refine va_iald hx hb hK hP 3 2 rfl rfl (i := nI (e - 1)) (vp_in_nI (show e - 1 < 2400 by omega) (by decide)) d_Mod_read_72 ?_
        refine tv_i (nI (T (e - 1))) (by rw [nI_clamp (by omega)]; rfl) ?_
        refine lv_bipush (v := 32) hx hb d_Mod_read_73 (by decide) ?_
        refine lv_icmp_gt (tgt := 91) hx hb d_Mod_read_75 (by decide) (fun c75 => ?_) (fun c75 => ?_)
        · have e75 : ¬ T (e - 1) ≤ 32 := by have := (nI_ltI (a := 32) (by decide) (by have := hT (e - 1); omega)).mp c75; omega
          have h8 : tE T n = e := by rw [← htr, tE_f (by omega) e75]
          have h7 : bk T e 0 = a := bk_cut hbk e59 (hTa (by omega)).2
          exact L91 1 a e (by decide) (hae) (hen) (Or.inl ⟨by show a = bk T (tE T n) 0; rw [h8]; exact h7.symm, h8.symm⟩) _ _ _ (hP.sub [0, 1, 2, 3] rfl) (hD.sub [0, 1, 2, 3] (by decide) rfl) hS (lv_sub hl [0, 1] rfl)
        · have e75 : T (e - 1) ≤ 32 := Nat.le_of_not_lt (fun z => c75 ((nI_ltI (a := 32) (by decide) (by have := hT (e - 1); omega)).mpr z))
          refine lv_aload_n hx hb d_Mod_read_78 rfl (lv_at hl 0 rfl) ?_
          refine lv_dup hx hb d_Mod_read_79 rfl ?_
          refine va_get (D := D) (ci := 5) (v := .int (nI e)) (C := R_Mod) (T := F_Mod) (N := 8) hx hb hts w_Mod hown hK hP 0 rfl rfl 7 (by decide) (hts _ kF_Mod_78) (fun _ h9 => h9) rfl d_Mod_read_80 ?_
          refine lv_iconst (v := 1) hx hb d_Mod_read_83 (by decide) ?_
          refine lv_isub hx hb d_Mod_read_84 ?_
          refine tv_i (nI (e - 1)) (nI_dec (by omega)) ?_
          refine va_put (D := D) (ci := 5) (v := .int (nI (e - 1))) (ty := .int) (C := R_Mod) (T := F_Mod) (N := 8) hx hb hts w_Mod t_Mod tk_Mod n_Mod hown hK hP hD hS 0 rfl rfl 7 (by decide) (hts _ kF_Mod_78) (fun _ h9 => h9) rfl (by decide +kernel) (rfl) (rfl) (Nat.le_of_ble_eq_true rfl) d_Mod_read_85 (fun H locs hP hD hS => ?_)
          have hP : va_P D vcl [(md, .inr (5, [.ref xx, .int (nI n), .long R, .int rd, .ref mm, .ref nn, .int (nI a), .int (nI (e - 1))])), (mm, .inl (cM, 3000, .inl (rw16 V))), (nn, .inl (cN, 3, .inl (rc V))), (xx, .inl (cX, 2400, .inl (tx T)))] H := hP
          have hD : va_D A [(md, .inr (5, [.ref xx, .int (nI n), .long R, .int rd, .ref mm, .ref nn, .int (nI a), .int (nI (e - 1))])), (mm, .inl (cM, 3000, .inl (rw16 V))), (nn, .inl (cN, 3, .inl (rc V))), (xx, .inl (cX, 2400, .inl (tx T)))] := hD
          refine lv_goto (tgt := 51) hx hb d_Mod_read_88 (by decide) ?_
          exact ih a (e - 1) (by omega) (by omega) (by omega) (hbk) (fun z => by have h9 := hTa z; refine ⟨?_, h9.2⟩; by_cases h8 : a = e - 1; (· rw [← h8] at e75; exact absurd e75 h9.2); omega) (by rw [← tE_t (by omega) e75]; exact htr) _ _ _ (hP.sub [0, 1, 2, 3] rfl) (hD.sub [0, 1, 2, 3] (by decide) rfl) hS (lv_sub hl [0, 1] rfl)
  have L13 : ∀ (kk : Nat) (a : Nat), n - a < kk → (a ≤ n) → (bk T n a = bk T n 0) → ∀ (H : Heap) (locs : List Loc) (ls : Array Slot), va_P D vcl [(md, .inr (5, [.ref xx, .int (nI n), .long R, .int rd, .ref mm, .ref nn, .int (nI a), .int (nI n)])), (mm, .inl (cM, 3000, .inl (rw16 V))), (nn, .inl (cN, 3, .inl (rc V))), (xx, .inl (cX, 2400, .inl (tx T)))] H → va_D A [(md, .inr (5, [.ref xx, .int (nI n), .long R, .int rd, .ref mm, .ref nn, .int (nI a), .int (nI n)])), (mm, .inl (cM, 3000, .inl (rw16 V))), (nn, .inl (cN, 3, .inl (rc V))), (xx, .inl (cX, 2400, .inl (tx T)))] → va_S A s.heap H locs → lv_has ls 6 [(0, .ref md), (1, .int wd)] → W p l ee ({ frames := 6, cells := 0, slots := 0, locals := 179 }) s m ([.ref md, .int wd] : List Value).toArray below meth cde H locs 0 0 (MQ below (va_Qi (S := (Int32 × Int32 × (Nat → Nat))) (fun (w : Int32) (u : (Int32 × Int32 × (Nat → Nat))) => w = bI (decide (xF T n ≠ 0)) ∧ okV u.2.2) (fun u tS => ctB D vcl ((fun _ => [(cM, .int), (cN, .int), (cX, .int)]) u) ((fun u : (Int32 × Int32 × (Nat → Nat)) => [(md, .inr (5, [.ref xx, .int (nI n), .long (rdR i T n R), .int (rdF T n rd), .ref mm, .ref nn, .int u.1, .int u.2.1])), (mm, .inl (cM, 3000, .inl (rw16 u.2.2))), (nn, .inl (cN, 3, .inl (rc u.2.2))), (xx, .inl (cX, 2400, .inl (tx T)))]) u) A tS) A) ([.ref md, .int wd] : List Value).toArray s 0 0 A) (F0 m 13 ls []) := by
    intro kk
    induction kk with
    | zero => intro a hmz; exact absurd hmz (Nat.not_lt_zero _)
    | succ kk ih =>
      intro a hmz ha hbk H locs ls hP hD hS hl
      refine lv_aload_n hx hb d_Mod_read_13 rfl (lv_at hl 0 rfl) ?_
      refine va_get (D := D) (ci := 5) (v := .int (nI a)) (C := R_Mod) (T := F_Mod) (N := 8) hx hb hts w_Mod hown hK hP 0 rfl rfl 6 (by decide) (hts _ kF_Mod_81) (fun _ h9 => h9) rfl d_Mod_read_14 ?_
      refine lv_aload_n hx hb d_Mod_read_17 rfl (lv_at hl 0 rfl) ?_
      refine va_get (D := D) (ci := 5) (v := .int (nI n)) (C := R_Mod) (T := F_Mod) (N := 8) hx hb hts w_Mod hown hK hP 0 rfl rfl 7 (by decide) (hts _ kF_Mod_78) (fun _ h9 => h9) rfl d_Mod_read_18 ?_
      refine lv_icmp_ge (tgt := 51) hx hb d_Mod_read_21 (by decide) (fun c21 => ?_) (fun c21 => ?_)
      · have e21 : n ≤ a := (nI_leI (by omega) (by omega)).mp c21
        exact L51 (n + 1) a n (by omega) (by omega) (Nat.le_refl _) (by rw [← hbk]; exact bk_f (fun z => by omega)) (fun z => by omega) (rfl) _ _ _ (hP.sub [0, 1, 2, 3] rfl) (hD.sub [0, 1, 2, 3] (by decide) rfl) hS (lv_sub hl [0, 1] rfl)
      · have e21 : a < n := Nat.lt_of_not_le (fun z => c21 ((nI_leI (by omega) (by omega)).mpr z))
        refine lv_aload_n hx hb d_Mod_read_24 rfl (lv_at hl 0 rfl) ?_
        refine va_get (D := D) (ci := 5) (v := .ref xx) (C := R_Mod) (T := F_Mod) (N := 8) hx hb hts w_Mod hown hK hP 0 rfl rfl 0 (by decide) (hts _ kF_Mod_7) (fun _ h9 => h9) rfl d_Mod_read_25 ?_
        refine lv_aload_n hx hb d_Mod_read_28 rfl (lv_at hl 0 rfl) ?_
        refine va_get (D := D) (ci := 5) (v := .int (nI a)) (C := R_Mod) (T := F_Mod) (N := 8) hx hb hts w_Mod hown hK hP 0 rfl rfl 6 (by decide) (hts _ kF_Mod_81) (fun _ h9 => h9) rfl d_Mod_read_29 ?_
        refine va_iald hx hb hK hP 3 2 rfl rfl (i := nI a) (vp_in_nI (show a < 2400 by omega) (by decide)) d_Mod_read_32 ?_
        refine tv_i (nI (T a)) (by rw [nI_clamp (by omega)]; rfl) ?_
        refine lv_bipush (v := 32) hx hb d_Mod_read_33 (by decide) ?_
        refine lv_icmp_gt (tgt := 51) hx hb d_Mod_read_35 (by decide) (fun c35 => ?_) (fun c35 => ?_)
        · have e35 : ¬ T (a) ≤ 32 := by have := (nI_ltI (a := 32) (by decide) (by have := hT (a); omega)).mp c35; omega
          exact L51 (n + 1) a n (by omega) (by omega) (Nat.le_refl _) (by rw [← hbk]; exact bk_f (fun z => e35 z.2)) (fun z => ⟨z, e35⟩) (rfl) _ _ _ (hP.sub [0, 1, 2, 3] rfl) (hD.sub [0, 1, 2, 3] (by decide) rfl) hS (lv_sub hl [0, 1] rfl)
        · have e35 : T (a) ≤ 32 := Nat.le_of_not_lt (fun z => c35 ((nI_ltI (a := 32) (by decide) (by have := hT (a); omega)).mpr z))
          refine lv_aload_n hx hb d_Mod_read_38 rfl (lv_at hl 0 rfl) ?_
          refine lv_dup hx hb d_Mod_read_39 rfl ?_
          refine va_get (D := D) (ci := 5) (v := .int (nI a)) (C := R_Mod) (T := F_Mod) (N := 8) hx hb hts w_Mod hown hK hP 0 rfl rfl 6 (by decide) (hts _ kF_Mod_81) (fun _ h9 => h9) rfl d_Mod_read_40 ?_
          refine lv_iconst (v := 1) hx hb d_Mod_read_43 (by decide) ?_
          refine lv_iadd hx hb d_Mod_read_44 ?_
          refine tv_i (nI (a + 1)) (nI_1 a) ?_
          refine va_put (D := D) (ci := 5) (v := .int (nI (a + 1))) (ty := .int) (C := R_Mod) (T := F_Mod) (N := 8) hx hb hts w_Mod t_Mod tk_Mod n_Mod hown hK hP hD hS 0 rfl rfl 6 (by decide) (hts _ kF_Mod_81) (fun _ h9 => h9) rfl (by decide +kernel) (rfl) (rfl) (Nat.le_of_ble_eq_true rfl) d_Mod_read_45 (fun H locs hP hD hS => ?_)
          have hP : va_P D vcl [(md, .inr (5, [.ref xx, .int (nI n), .long R, .int rd, .ref mm, .ref nn, .int (nI (a + 1)), .int (nI n)])), (mm, .inl (cM, 3000, .inl (rw16 V))), (nn, .inl (cN, 3, .inl (rc V))), (xx, .inl (cX, 2400, .inl (tx T)))] H := hP
          have hD : va_D A [(md, .inr (5, [.ref xx, .int (nI n), .long R, .int rd, .ref mm, .ref nn, .int (nI (a + 1)), .int (nI n)])), (mm, .inl (cM, 3000, .inl (rw16 V))), (nn, .inl (cN, 3, .inl (rc V))), (xx, .inl (cX, 2400, .inl (tx T)))] := hD
          refine lv_goto (tgt := 13) hx hb d_Mod_read_48 (by decide) ?_
          exact ih (a + 1) (by omega) (by omega) (by rw [← bk_t e21 e35]; exact hbk) _ _ _ (hP.sub [0, 1, 2, 3] rfl) (hD.sub [0, 1, 2, 3] (by decide) rfl) hS (lv_sub hl [0, 1] rfl)
  exact L13 (n + 1) 0 (by omega) (Nat.zero_le _) (rfl) _ _ _ (hP.sub [0, 1, 2, 3] rfl) (hD.sub [0, 1, 2, 3] (by decide) rfl) hS (lv_sub hl [0, 1] rfl)

set_option maxHeartbeats 4000000 in
set_option maxRecDepth 100000 in
theorem c_Mod_wide (l : Launch) (D : va_G) (E : evD) (md xx mm nn : Nat) (cM cN cX : ClassId) (V : Nat → Nat) (rd at0 en0 : Int32) (R : Int64) (T : Nat → Nat) (hT : ∀ j, T j < 256) (n : Nat) (hn : n ≤ 2400) (hV : okV V) : Ci (S := (Int32 × Int32 × (Nat → Nat))) l y_Mod_wide (wz y_Mod_wide b_Mod_wide 1 (some .boolean)) ({ frames := 7, cells := 0, slots := 0, locals := 204 }) D vcl (ev1 E) [.ref md] [(cM, .int), (cN, .int), (cX, .int)] [(md, .inr (5, [.ref xx, .int (nI n), .long R, .int rd, .ref mm, .ref nn, .int at0, .int en0])), (mm, .inl (cM, 3000, .inl (rw16 V))), (nn, .inl (cN, 3, .inl (rc V))), (xx, .inl (cX, 2400, .inl (tx T)))] 0 0 (fun (w : Int32) (u : (Int32 × Int32 × (Nat → Nat))) => w = bI (decide (xF T n ≠ 0)) ∧ okV u.2.2) (fun _ => [(cM, .int), (cN, .int), (cX, .int)]) (fun u : (Int32 × Int32 × (Nat → Nat)) => [(md, .inr (5, [.ref xx, .int (nI n), .long (rdR 0 T n R), .int (rdF T n rd), .ref mm, .ref nn, .int u.1, .int u.2.1])), (mm, .inl (cM, 3000, .inl (rw16 u.2.2))), (nn, .inl (cN, 3, .inl (rc u.2.2))), (xx, .inl (cX, 2400, .inl (tx T)))]) := by
  have hev := ev1_ok E
  unfold Ci
  refine ct_of (y := y_Mod_wide) (av := [.ref md]) (cc := b_Mod_wide) (maxL := 1) (ret := (some .boolean)) (Qc := fun A => va_Qi (S := (Int32 × Int32 × (Nat → Nat))) (fun (w : Int32) (u : (Int32 × Int32 × (Nat → Nat))) => w = bI (decide (xF T n ≠ 0)) ∧ okV u.2.2) (fun u tS => ctB D vcl ((fun _ => [(cM, .int), (cN, .int), (cX, .int)]) u) ((fun u : (Int32 × Int32 × (Nat → Nat)) => [(md, .inr (5, [.ref xx, .int (nI n), .long (rdR 0 T n R), .int (rdF T n rd), .ref mm, .ref nn, .int u.1, .int u.2.1])), (mm, .inl (cM, 3000, .inl (rw16 u.2.2))), (nn, .inl (cN, 3, .inl (rc u.2.2))), (xx, .inl (cX, 2400, .inl (tx T)))]) u) A tS) A) (by decide) rfl (Nat.le_of_ble_eq_true rfl) ?_
  intro p ee s m below meth cde ls A H locs hx hb hml hrt hlocks hown hin hts hA hP hK hD hS hE hl
  have hown : s.vm.findClass R_Mod = some m.cls := hown
  have hts := wz_g hts
  have hl : lv_has ls 1 [(0, .ref md)] := hl
  refine lv_aload_n hx hb d_Mod_wide_0 rfl (lv_at hl 0 rfl) ?_
  refine lv_iconst (v := 1) hx hb d_Mod_wide_1 (by decide) ?_
  refine ca_i [] (va_runV (As := [.int 1]) (rest := []) ⟨hx, hb, hml, hown, hts⟩ (c_Mod_read l D E md xx mm nn cM cN cX V rd at0 en0 R T hT n hn hV 0 (by decide) 1 rfl H.size) (xV 1 hts kC_Mod_read kM_Mod_159 kI_Mod_read kS_Mod_read kN_Mod rfl rfl (by decide +kernel) ⟨Nat.le_of_ble_eq_true rfl, Nat.le_of_ble_eq_true rfl⟩) ⟨ct_blind hev, va_recv hK hP (ci := 5) (q0 := 0) rfl rfl, ct_pre hev hP hK hD hS hA hE [0, 1, 2, 3] rfl (by decide) [0, 1, 2] rfl⟩ rfl rfl hl.1 rfl (lv_room (Nat.le_of_ble_eq_true rfl)) d_Mod_wide_2 ⟨Nat.le_of_ble_eq_true rfl, Nat.le_of_ble_eq_true rfl⟩) hP hD hS hA [0, 1, 2, 3] [] rfl rfl (by decide) (by decide) (fun rv u H locs hw hP hD hS hK1 => ?_)
  obtain ⟨hw, hVn⟩ := hw
  subst hw
  obtain ⟨at9, en9, V9⟩ := u
  have hVn : okV V9 := hVn
  have hP : va_P D vcl [(md, .inr (5, [.ref xx, .int (nI n), .long (rdR 0 T n R), .int (rdF T n rd), .ref mm, .ref nn, .int at9, .int en9])), (mm, .inl (cM, 3000, .inl (rw16 V9))), (nn, .inl (cN, 3, .inl (rc V9))), (xx, .inl (cX, 2400, .inl (tx T)))] H := hP
  have hD : va_D A [(md, .inr (5, [.ref xx, .int (nI n), .long (rdR 0 T n R), .int (rdF T n rd), .ref mm, .ref nn, .int at9, .int en9])), (mm, .inl (cM, 3000, .inl (rw16 V9))), (nn, .inl (cN, 3, .inl (rc V9))), (xx, .inl (cX, 2400, .inl (tx T)))] := hD
  exact rt_i hx hb hrt hlocks (by cases decide (xF T n ≠ 0) <;> rfl) ((at9, en9, V9)) (⟨rfl, hVn⟩) (hP.sub [0, 1, 2, 3] rfl) (hK.sub [0, 1, 2] rfl) (hD.sub [0, 1, 2, 3] (by decide) rfl) hS d_Mod_wide_5

set_option maxHeartbeats 4000000 in
set_option maxRecDepth 100000 in
theorem c_Mod_narrow (l : Launch) (D : va_G) (E : evD) (md xx mm nn : Nat) (cM cN cX : ClassId) (V : Nat → Nat) (rd at0 en0 : Int32) (R : Int64) (T : Nat → Nat) (hT : ∀ j, T j < 256) (n : Nat) (hn : n ≤ 2400) (hV : okV V) : Ci (S := (Int32 × Int32 × (Nat → Nat))) l y_Mod_narrow (wz y_Mod_narrow b_Mod_narrow 1 (some .boolean)) ({ frames := 7, cells := 0, slots := 0, locals := 204 }) D vcl (ev1 E) [.ref md] [(cM, .int), (cN, .int), (cX, .int)] [(md, .inr (5, [.ref xx, .int (nI n), .long R, .int rd, .ref mm, .ref nn, .int at0, .int en0])), (mm, .inl (cM, 3000, .inl (rw16 V))), (nn, .inl (cN, 3, .inl (rc V))), (xx, .inl (cX, 2400, .inl (tx T)))] 0 0 (fun (w : Int32) (u : (Int32 × Int32 × (Nat → Nat))) => w = bI (decide (xF T n ≠ 0)) ∧ okV u.2.2) (fun _ => [(cM, .int), (cN, .int), (cX, .int)]) (fun u : (Int32 × Int32 × (Nat → Nat)) => [(md, .inr (5, [.ref xx, .int (nI n), .long (rdR 1 T n R), .int (rdF T n rd), .ref mm, .ref nn, .int u.1, .int u.2.1])), (mm, .inl (cM, 3000, .inl (rw16 u.2.2))), (nn, .inl (cN, 3, .inl (rc u.2.2))), (xx, .inl (cX, 2400, .inl (tx T)))]) := by
  have hev := ev1_ok E
  unfold Ci
  refine ct_of (y := y_Mod_narrow) (av := [.ref md]) (cc := b_Mod_narrow) (maxL := 1) (ret := (some .boolean)) (Qc := fun A => va_Qi (S := (Int32 × Int32 × (Nat → Nat))) (fun (w : Int32) (u : (Int32 × Int32 × (Nat → Nat))) => w = bI (decide (xF T n ≠ 0)) ∧ okV u.2.2) (fun u tS => ctB D vcl ((fun _ => [(cM, .int), (cN, .int), (cX, .int)]) u) ((fun u : (Int32 × Int32 × (Nat → Nat)) => [(md, .inr (5, [.ref xx, .int (nI n), .long (rdR 1 T n R), .int (rdF T n rd), .ref mm, .ref nn, .int u.1, .int u.2.1])), (mm, .inl (cM, 3000, .inl (rw16 u.2.2))), (nn, .inl (cN, 3, .inl (rc u.2.2))), (xx, .inl (cX, 2400, .inl (tx T)))]) u) A tS) A) (by decide) rfl (Nat.le_of_ble_eq_true rfl) ?_
  intro p ee s m below meth cde ls A H locs hx hb hml hrt hlocks hown hin hts hA hP hK hD hS hE hl
  have hown : s.vm.findClass R_Mod = some m.cls := hown
  have hts := wz_g hts
  have hl : lv_has ls 1 [(0, .ref md)] := hl
  refine lv_aload_n hx hb d_Mod_narrow_0 rfl (lv_at hl 0 rfl) ?_
  refine lv_iconst (v := 0) hx hb d_Mod_narrow_1 (by decide) ?_
  refine ca_i [] (va_runV (As := [.int 0]) (rest := []) ⟨hx, hb, hml, hown, hts⟩ (c_Mod_read l D E md xx mm nn cM cN cX V rd at0 en0 R T hT n hn hV 1 (by decide) 0 rfl H.size) (xV 1 hts kC_Mod_read kM_Mod_159 kI_Mod_read kS_Mod_read kN_Mod rfl rfl (by decide +kernel) ⟨Nat.le_of_ble_eq_true rfl, Nat.le_of_ble_eq_true rfl⟩) ⟨ct_blind hev, va_recv hK hP (ci := 5) (q0 := 0) rfl rfl, ct_pre hev hP hK hD hS hA hE [0, 1, 2, 3] rfl (by decide) [0, 1, 2] rfl⟩ rfl rfl hl.1 rfl (lv_room (Nat.le_of_ble_eq_true rfl)) d_Mod_narrow_2 ⟨Nat.le_of_ble_eq_true rfl, Nat.le_of_ble_eq_true rfl⟩) hP hD hS hA [0, 1, 2, 3] [] rfl rfl (by decide) (by decide) (fun rv u H locs hw hP hD hS hK1 => ?_)
  obtain ⟨hw, hVn⟩ := hw
  subst hw
  obtain ⟨at9, en9, V9⟩ := u
  have hVn : okV V9 := hVn
  have hP : va_P D vcl [(md, .inr (5, [.ref xx, .int (nI n), .long (rdR 1 T n R), .int (rdF T n rd), .ref mm, .ref nn, .int at9, .int en9])), (mm, .inl (cM, 3000, .inl (rw16 V9))), (nn, .inl (cN, 3, .inl (rc V9))), (xx, .inl (cX, 2400, .inl (tx T)))] H := hP
  have hD : va_D A [(md, .inr (5, [.ref xx, .int (nI n), .long (rdR 1 T n R), .int (rdF T n rd), .ref mm, .ref nn, .int at9, .int en9])), (mm, .inl (cM, 3000, .inl (rw16 V9))), (nn, .inl (cN, 3, .inl (rc V9))), (xx, .inl (cX, 2400, .inl (tx T)))] := hD
  exact rt_i hx hb hrt hlocks (by cases decide (xF T n ≠ 0) <;> rfl) ((at9, en9, V9)) (⟨rfl, hVn⟩) (hP.sub [0, 1, 2, 3] rfl) (hK.sub [0, 1, 2] rfl) (hD.sub [0, 1, 2, 3] (by decide) rfl) hS d_Mod_narrow_5

set_option maxHeartbeats 4000000 in
set_option maxRecDepth 100000 in
theorem c_Mod_init (l : Launch) (D : va_G) (E : evD) (md : Nat) : Cv (S := (Nat × Nat × Nat) × (ClassId × ClassId × ClassId)) l y_Mod_init (wz y_Mod_init b_Mod_init 1 none) ({ frames := 1, cells := 3, slots := 5403, locals := 20 }) D vcl (ev1 E) [.ref md] [] [(md, .inr (5, [.null, .int 0, .long 0, .int 0, .null, .null, .int 0, .int 0]))] 3 5403 (fun _ : (Nat × Nat × Nat) × (ClassId × ClassId × ClassId) => True) (fun u : (Nat × Nat × Nat) × (ClassId × ClassId × ClassId) => [(u.2.1, .int), (u.2.2.1, .int), (u.2.2.2, .int)]) (fun u : (Nat × Nat × Nat) × (ClassId × ClassId × ClassId) => [(md, .inr (5, [.ref u.1.1, .int 0, .long 0, .int 0, .ref u.1.2.1, .ref u.1.2.2, .int 0, .int 0])), (u.1.1, .inl (u.2.1, 2400, .inl (fun _ => 0))), (u.1.2.1, .inl (u.2.2.1, 3000, .inl (fun _ => 0))), (u.1.2.2, .inl (u.2.2.2, 3, .inl (fun _ => 0)))]) := by
  have hev := ev1_ok E
  unfold Cv
  refine ct_of (y := y_Mod_init) (av := [.ref md]) (cc := b_Mod_init) (maxL := 1) (ret := none) (Qc := fun A => va_Qv (S := (Nat × Nat × Nat) × (ClassId × ClassId × ClassId)) (fun _ : (Nat × Nat × Nat) × (ClassId × ClassId × ClassId) => True) (fun u tS => ctB D vcl ((fun u : (Nat × Nat × Nat) × (ClassId × ClassId × ClassId) => [(u.2.1, .int), (u.2.2.1, .int), (u.2.2.2, .int)]) u) ((fun u : (Nat × Nat × Nat) × (ClassId × ClassId × ClassId) => [(md, .inr (5, [.ref u.1.1, .int 0, .long 0, .int 0, .ref u.1.2.1, .ref u.1.2.2, .int 0, .int 0])), (u.1.1, .inl (u.2.1, 2400, .inl (fun _ => 0))), (u.1.2.1, .inl (u.2.2.1, 3000, .inl (fun _ => 0))), (u.1.2.2, .inl (u.2.2.2, 3, .inl (fun _ => 0)))]) u) A tS) A) (by decide) rfl (Nat.le_of_ble_eq_true rfl) ?_
  intro p ee s m below meth cde ls A H locs hx hb hml hrt hlocks hown hin hts hA hP hK hD hS hE hl
  have hown : s.vm.findClass R_Mod = some m.cls := hown
  have hts := wz_g hts
  have hl : lv_has ls 1 [(0, .ref md)] := hl
  refine lv_aload_n hx hb d_Mod_init_0 rfl (lv_at hl 0 rfl) ?_
  refine W.objInit hx hb hown (hts _ kM_Mod_1) (hts _ kI_object) (hts _ kC_object) rfl (by rw [hml]; exact hl.1) rfl d_Mod_init_1 (Nat.le_of_ble_eq_true rfl) (Nat.le_of_ble_eq_true rfl) ?_
  refine W.eq (g2 := F0 m 4 ls []) rfl ?_
  refine lv_aload_n hx hb d_Mod_init_4 rfl (lv_at hl 0 rfl) ?_
  refine lv_sipush (v := 2400) hx hb d_Mod_init_5 (by decide) ?_
  refine va_newa hx hb (atype := .int) (hts _ kA_int) (ty := .int) rfl hK hP hD hS hA (n := 2400) (N' := 2400) (a0 := (2400, .inl (fun _ => 0))) (fun _ => rfl) (by decide) (by decide) (by decide) (Nat.le_of_ble_eq_true rfl) (Nat.le_of_ble_eq_true rfl) d_Mod_init_8 (fun q1 cY2 H hK hP hD hS => ?_)
  have hP : va_P D vcl [(md, .inr (5, [.null, .int 0, .long 0, .int 0, .null, .null, .int 0, .int 0])), (q1, .inl (cY2, 2400, .inl (fun _ => 0)))] H := hP
  have hD : va_D A [(md, .inr (5, [.null, .int 0, .long 0, .int 0, .null, .null, .int 0, .int 0])), (q1, .inl (cY2, 2400, .inl (fun _ => 0)))] := hD
  have hK : va_K D vcl [(cY2, .int)] s := hK
  refine va_putF (D := D) (ci := 5) (v := .ref q1) (ty := .array .int) (C := R_Mod) (T := F_Mod) (N := 8) hx hb hts w_Mod t_Mod tk_Mod n_Mod hown hK hP hD hS 0 rfl rfl 0 (by decide) (hts _ kF_Mod_7) (fun _ h9 => h9) rfl hin rfl (by decide +kernel) (rfl) (rfl) (Nat.le_of_ble_eq_true rfl) d_Mod_init_10 (fun H locs hP hD hS => ?_)
  have hP : va_P D vcl [(md, .inr (5, [.ref q1, .int 0, .long 0, .int 0, .null, .null, .int 0, .int 0])), (q1, .inl (cY2, 2400, .inl (fun _ => 0)))] H := hP
  have hD : va_D A [(md, .inr (5, [.ref q1, .int 0, .long 0, .int 0, .null, .null, .int 0, .int 0])), (q1, .inl (cY2, 2400, .inl (fun _ => 0)))] := hD
  refine lv_aload_n hx hb d_Mod_init_13 rfl (lv_at hl 0 rfl) ?_
  refine lv_sipush (v := 3000) hx hb d_Mod_init_14 (by decide) ?_
  refine va_newa hx hb (atype := .int) (hts _ kA_int) (ty := .int) rfl hK hP hD hS hA (n := 3000) (N' := 3000) (a0 := (3000, .inl (fun _ => 0))) (fun _ => rfl) (by decide) (by decide) (by decide) (Nat.le_of_ble_eq_true rfl) (Nat.le_of_ble_eq_true rfl) d_Mod_init_17 (fun q3 cY4 H hK hP hD hS => ?_)
  have hP : va_P D vcl [(md, .inr (5, [.ref q1, .int 0, .long 0, .int 0, .null, .null, .int 0, .int 0])), (q1, .inl (cY2, 2400, .inl (fun _ => 0))), (q3, .inl (cY4, 3000, .inl (fun _ => 0)))] H := hP
  have hD : va_D A [(md, .inr (5, [.ref q1, .int 0, .long 0, .int 0, .null, .null, .int 0, .int 0])), (q1, .inl (cY2, 2400, .inl (fun _ => 0))), (q3, .inl (cY4, 3000, .inl (fun _ => 0)))] := hD
  have hK : va_K D vcl [(cY2, .int), (cY4, .int)] s := hK
  refine va_putF (D := D) (ci := 5) (v := .ref q3) (ty := .array .int) (C := R_Mod) (T := F_Mod) (N := 8) hx hb hts w_Mod t_Mod tk_Mod n_Mod hown hK hP hD hS 0 rfl rfl 4 (by decide) (hts _ kF_Mod_13) (fun _ h9 => h9) rfl hin rfl (by decide +kernel) (rfl) (rfl) (Nat.le_of_ble_eq_true rfl) d_Mod_init_19 (fun H locs hP hD hS => ?_)
  have hP : va_P D vcl [(md, .inr (5, [.ref q1, .int 0, .long 0, .int 0, .ref q3, .null, .int 0, .int 0])), (q1, .inl (cY2, 2400, .inl (fun _ => 0))), (q3, .inl (cY4, 3000, .inl (fun _ => 0)))] H := hP
  have hD : va_D A [(md, .inr (5, [.ref q1, .int 0, .long 0, .int 0, .ref q3, .null, .int 0, .int 0])), (q1, .inl (cY2, 2400, .inl (fun _ => 0))), (q3, .inl (cY4, 3000, .inl (fun _ => 0)))] := hD
  refine lv_aload_n hx hb d_Mod_init_22 rfl (lv_at hl 0 rfl) ?_
  refine lv_iconst (v := 3) hx hb d_Mod_init_23 (by decide) ?_
  refine va_newa hx hb (atype := .int) (hts _ kA_int) (ty := .int) rfl hK hP hD hS hA (n := 3) (N' := 3) (a0 := (3, .inl (fun _ => 0))) (fun _ => rfl) (by decide) (by decide) (by decide) (Nat.le_of_ble_eq_true rfl) (Nat.le_of_ble_eq_true rfl) d_Mod_init_24 (fun q5 cY6 H hK hP hD hS => ?_)
  have hP : va_P D vcl [(md, .inr (5, [.ref q1, .int 0, .long 0, .int 0, .ref q3, .null, .int 0, .int 0])), (q1, .inl (cY2, 2400, .inl (fun _ => 0))), (q3, .inl (cY4, 3000, .inl (fun _ => 0))), (q5, .inl (cY6, 3, .inl (fun _ => 0)))] H := hP
  have hD : va_D A [(md, .inr (5, [.ref q1, .int 0, .long 0, .int 0, .ref q3, .null, .int 0, .int 0])), (q1, .inl (cY2, 2400, .inl (fun _ => 0))), (q3, .inl (cY4, 3000, .inl (fun _ => 0))), (q5, .inl (cY6, 3, .inl (fun _ => 0)))] := hD
  have hK : va_K D vcl [(cY2, .int), (cY4, .int), (cY6, .int)] s := hK
  refine va_putF (D := D) (ci := 5) (v := .ref q5) (ty := .array .int) (C := R_Mod) (T := F_Mod) (N := 8) hx hb hts w_Mod t_Mod tk_Mod n_Mod hown hK hP hD hS 0 rfl rfl 5 (by decide) (hts _ kF_Mod_16) (fun _ h9 => h9) rfl hin rfl (by decide +kernel) (rfl) (rfl) (Nat.le_of_ble_eq_true rfl) d_Mod_init_26 (fun H locs hP hD hS => ?_)
  have hP : va_P D vcl [(md, .inr (5, [.ref q1, .int 0, .long 0, .int 0, .ref q3, .ref q5, .int 0, .int 0])), (q1, .inl (cY2, 2400, .inl (fun _ => 0))), (q3, .inl (cY4, 3000, .inl (fun _ => 0))), (q5, .inl (cY6, 3, .inl (fun _ => 0)))] H := hP
  have hD : va_D A [(md, .inr (5, [.ref q1, .int 0, .long 0, .int 0, .ref q3, .ref q5, .int 0, .int 0])), (q1, .inl (cY2, 2400, .inl (fun _ => 0))), (q3, .inl (cY4, 3000, .inl (fun _ => 0))), (q5, .inl (cY6, 3, .inl (fun _ => 0)))] := hD
  exact rt_v hx hb hrt hlocks (((q1, q3, q5), (cY2, cY4, cY6))) (trivial) (hP.sub [0, 1, 2, 3] rfl) (hK.sub [0, 1, 2] rfl) (hD.sub [0, 1, 2, 3] (by decide) rfl) hS d_Mod_init_29
