/-! THE CLAIM OUT OF ONE WALK OF THE LAW'S BODY. Your part is whole_start (and what it stands on); all else here is the same for every law, but numbers. -/
def R_law : String := "NearestReaderLaw"
def lw_P (b : Addr) (xs : List Int32) (args : Array Value) (s : State) : Prop := args = #[.ref b] ∧ s.IntsAt b xs ∧ xs.length ≤ 3072 ∧ (Jvm.Cond.and given_1 narrow_1).before args s = true
def lw_Q (_ : Array Value) (s : State) (o : Outcome) (t : State) : Prop := o = .returned (some (.int 1)) ∧ Framed s o t [] 13 8029
def lw_Z (below : List Frame) (a : Array Value) (s : State) : State → Prop := fun t => ∃ o, t.status = .running ∧ Ended t below o ∧ lw_Q a s o t
/-- the law's own end, with 1 on the stack, nothing written that was there before, its room as the claim has it -/
theorem lw_ret {p : Program} {l : Launch} {e : Env} {s : State} {m : MethodId} {below : List Frame} {meth : Method} {c : Code} {b : Nat} (hx : p.tables.exec = Jvm.exec) (hb : c.code = code) (hr : meth.sig.returnType = ret) (hlocks : meth.locks = false) {pc : Nat} {H : Heap} {ls : Array Slot} (hdg : decode code pc = .ok (.ireturn, 1)) : W p l e room_1 s m #[Value.ref b] below meth c H [] 13 8029 (lw_Z below #[Value.ref b] s) (F0 m pc ls [.int 1]) := by
  intro T hT X
  obtain ⟨fs, hret, hrun, hended, hW, hframe⟩ := X.leave (v := some (.int 1)) (hlocks := hlocks) (fun h => by rw [hr] at h; cases h)
  have hmeth' : T.vm.method? m = some meth := X.method'
  refine ⟨T.setFrames fs, ?_, .returned (some (.int 1)), hrun, hended, rfl, ⟨_, rfl⟩, hW, hframe⟩
  jvm_step X.here [X.here.top, hx, hb, hdg, hmeth', hr, ret, narrow_b1]
  (try refine ⟨rfl, ?_⟩); (try refine ⟨rfl, ?_⟩)
  first | (intro acts; rw [hret _ acts rfl rfl rfl]) | rw [hret _ _ rfl rfl rfl]
  exact Steps.refl _
/-- what holds at the law's entry: the machine, the code, the tables' words (any of lw_tbl by 'hts w (by decide +kernel)'), the script of L ints xs at the cell b, what the Statement gives of the start (any of its parts by flat_of_before) -/
def lw_At (p : Program) (s : State) (m : MethodId) (meth : Method) (c : Code) (b L : Nat) (xs : Nat → Int32) : Prop :=
  p.tables.exec = Jvm.exec ∧ c.code = code ∧ meth.sig.returnType = ret ∧ c.maxLocals = 4 ∧ s.vm.findClass R_law = some m.cls ∧ (∀ w ∈ lw_tbl, w.before #[Value.ref b] s = true) ∧ va_X b L xs s s.heap ∧ b < s.heap.size ∧ meth.locks = false ∧ (Jvm.Cond.and given_1 narrow_1).before #[Value.ref b] s = true
theorem d_Law_law_0 : decode code 0 = .ok (.new 7, 3) := by decide +kernel
theorem d_Law_law_3 : decode code 3 = .ok (.dup, 1) := by decide +kernel
theorem d_Law_law_4 : decode code 4 = .ok (.invokespecial 9, 3) := by decide +kernel
theorem d_Law_law_7 : decode code 7 = .ok (.astore_n 1, 1) := by decide +kernel
theorem d_Law_law_8 : decode code 8 = .ok (.new 10, 3) := by decide +kernel
theorem d_Law_law_11 : decode code 11 = .ok (.dup, 1) := by decide +kernel
theorem d_Law_law_12 : decode code 12 = .ok (.invokespecial 12, 3) := by decide +kernel
theorem d_Law_law_15 : decode code 15 = .ok (.astore_n 2, 1) := by decide +kernel
theorem d_Law_law_16 : decode code 16 = .ok (.iconst 0, 1) := by decide +kernel
theorem d_Law_law_17 : decode code 17 = .ok (.istore_n 3, 1) := by decide +kernel
theorem d_Law_law_18 : decode code 18 = .ok (.iload_n 3, 1) := by decide +kernel
theorem d_Law_law_19 : decode code 19 = .ok (.aload_n 0, 1) := by decide +kernel
theorem d_Law_law_20 : decode code 20 = .ok (.arraylength, 1) := by decide +kernel
theorem d_Law_law_21 : decode code 21 = .ok (.bipush 6, 2) := by decide +kernel
theorem d_Law_law_23 : decode code 23 = .ok (.isub, 1) := by decide +kernel
theorem d_Law_law_24 : decode code 24 = .ok (.if_icmp .gt 563, 3) := by decide +kernel
theorem d_Law_law_27 : decode code 27 = .ok (.aload_n 0, 1) := by decide +kernel
theorem d_Law_law_28 : decode code 28 = .ok (.iload_n 3, 1) := by decide +kernel
theorem d_Law_law_29 : decode code 29 = .ok (.iaload, 1) := by decide +kernel
theorem d_Law_law_30 : decode code 30 = .ok (.bipush 15, 2) := by decide +kernel
theorem d_Law_law_32 : decode code 32 = .ok (.iand, 1) := by decide +kernel
theorem d_Law_law_92 : decode code 92 = .ok (.aload_n 1, 1) := by decide +kernel
theorem d_Law_law_93 : decode code 93 = .ok (.aload_n 0, 1) := by decide +kernel
theorem d_Law_law_94 : decode code 94 = .ok (.iload_n 3, 1) := by decide +kernel
theorem d_Law_law_95 : decode code 95 = .ok (.iconst 1, 1) := by decide +kernel
theorem d_Law_law_96 : decode code 96 = .ok (.iadd, 1) := by decide +kernel
theorem d_Law_law_97 : decode code 97 = .ok (.iaload, 1) := by decide +kernel
theorem d_Law_law_98 : decode code 98 = .ok (.i2l, 1) := by decide +kernel
theorem d_Law_law_99 : decode code 99 = .ok (.bipush 32, 2) := by decide +kernel
theorem d_Law_law_101 : decode code 101 = .ok (.lshl, 1) := by decide +kernel
theorem d_Law_law_102 : decode code 102 = .ok (.aload_n 0, 1) := by decide +kernel
theorem d_Law_law_103 : decode code 103 = .ok (.iload_n 3, 1) := by decide +kernel
theorem d_Law_law_104 : decode code 104 = .ok (.iconst 2, 1) := by decide +kernel
theorem d_Law_law_105 : decode code 105 = .ok (.iadd, 1) := by decide +kernel
theorem d_Law_law_106 : decode code 106 = .ok (.iaload, 1) := by decide +kernel
theorem d_Law_law_107 : decode code 107 = .ok (.i2l, 1) := by decide +kernel
theorem d_Law_law_108 : decode code 108 = .ok (.ldc2_w 13, 3) := by decide +kernel
theorem d_Law_law_111 : decode code 111 = .ok (.land, 1) := by decide +kernel
theorem d_Law_law_112 : decode code 112 = .ok (.lor, 1) := by decide +kernel
theorem d_Law_law_113 : decode code 113 = .ok (.invokevirtual 15, 3) := by decide +kernel
theorem d_Law_law_116 : decode code 116 = .ok (.aload_n 2, 1) := by decide +kernel
theorem d_Law_law_117 : decode code 117 = .ok (.aload_n 0, 1) := by decide +kernel
theorem d_Law_law_118 : decode code 118 = .ok (.iload_n 3, 1) := by decide +kernel
theorem d_Law_law_119 : decode code 119 = .ok (.iconst 1, 1) := by decide +kernel
theorem d_Law_law_120 : decode code 120 = .ok (.iadd, 1) := by decide +kernel
theorem d_Law_law_121 : decode code 121 = .ok (.iaload, 1) := by decide +kernel
theorem d_Law_law_122 : decode code 122 = .ok (.i2l, 1) := by decide +kernel
theorem d_Law_law_123 : decode code 123 = .ok (.bipush 32, 2) := by decide +kernel
theorem d_Law_law_125 : decode code 125 = .ok (.lshl, 1) := by decide +kernel
theorem d_Law_law_126 : decode code 126 = .ok (.aload_n 0, 1) := by decide +kernel
theorem d_Law_law_127 : decode code 127 = .ok (.iload_n 3, 1) := by decide +kernel
theorem d_Law_law_128 : decode code 128 = .ok (.iconst 2, 1) := by decide +kernel
theorem d_Law_law_129 : decode code 129 = .ok (.iadd, 1) := by decide +kernel
theorem d_Law_law_130 : decode code 130 = .ok (.iaload, 1) := by decide +kernel
theorem d_Law_law_131 : decode code 131 = .ok (.i2l, 1) := by decide +kernel
theorem d_Law_law_132 : decode code 132 = .ok (.ldc2_w 13, 3) := by decide +kernel
theorem d_Law_law_135 : decode code 135 = .ok (.land, 1) := by decide +kernel
theorem d_Law_law_136 : decode code 136 = .ok (.lor, 1) := by decide +kernel
theorem d_Law_law_137 : decode code 137 = .ok (.invokevirtual 19, 3) := by decide +kernel
theorem d_Law_law_140 : decode code 140 = .ok (.if_icmp .eq 441, 3) := by decide +kernel
theorem d_Law_law_143 : decode code 143 = .ok (.iconst 0, 1) := by decide +kernel
theorem d_Law_law_144 : decode code 144 = .ok (.ireturn, 1) := by decide +kernel
theorem d_Law_law_145 : decode code 145 = .ok (.aload_n 1, 1) := by decide +kernel
theorem d_Law_law_146 : decode code 146 = .ok (.aload_n 0, 1) := by decide +kernel
theorem d_Law_law_147 : decode code 147 = .ok (.iload_n 3, 1) := by decide +kernel
theorem d_Law_law_148 : decode code 148 = .ok (.iconst 1, 1) := by decide +kernel
theorem d_Law_law_149 : decode code 149 = .ok (.iadd, 1) := by decide +kernel
theorem d_Law_law_150 : decode code 150 = .ok (.iaload, 1) := by decide +kernel
theorem d_Law_law_151 : decode code 151 = .ok (.invokevirtual 20, 3) := by decide +kernel
theorem d_Law_law_154 : decode code 154 = .ok (.aload_n 2, 1) := by decide +kernel
theorem d_Law_law_155 : decode code 155 = .ok (.aload_n 0, 1) := by decide +kernel
theorem d_Law_law_156 : decode code 156 = .ok (.iload_n 3, 1) := by decide +kernel
theorem d_Law_law_157 : decode code 157 = .ok (.iconst 1, 1) := by decide +kernel
theorem d_Law_law_158 : decode code 158 = .ok (.iadd, 1) := by decide +kernel
theorem d_Law_law_159 : decode code 159 = .ok (.iaload, 1) := by decide +kernel
theorem d_Law_law_160 : decode code 160 = .ok (.invokevirtual 24, 3) := by decide +kernel
theorem d_Law_law_163 : decode code 163 = .ok (.if_icmp .eq 418, 3) := by decide +kernel
theorem d_Law_law_166 : decode code 166 = .ok (.iconst 0, 1) := by decide +kernel
theorem d_Law_law_167 : decode code 167 = .ok (.ireturn, 1) := by decide +kernel
theorem d_Law_law_168 : decode code 168 = .ok (.aload_n 1, 1) := by decide +kernel
theorem d_Law_law_169 : decode code 169 = .ok (.invokevirtual 25, 3) := by decide +kernel
theorem d_Law_law_172 : decode code 172 = .ok (.aload_n 2, 1) := by decide +kernel
theorem d_Law_law_173 : decode code 173 = .ok (.invokevirtual 29, 3) := by decide +kernel
theorem d_Law_law_176 : decode code 176 = .ok (.if_icmp .eq 405, 3) := by decide +kernel
theorem d_Law_law_179 : decode code 179 = .ok (.iconst 0, 1) := by decide +kernel
theorem d_Law_law_180 : decode code 180 = .ok (.ireturn, 1) := by decide +kernel
theorem d_Law_law_181 : decode code 181 = .ok (.aload_n 1, 1) := by decide +kernel
theorem d_Law_law_182 : decode code 182 = .ok (.invokevirtual 30, 3) := by decide +kernel
theorem d_Law_law_185 : decode code 185 = .ok (.aload_n 2, 1) := by decide +kernel
theorem d_Law_law_186 : decode code 186 = .ok (.invokevirtual 34, 3) := by decide +kernel
theorem d_Law_law_189 : decode code 189 = .ok (.if_icmp .eq 392, 3) := by decide +kernel
theorem d_Law_law_192 : decode code 192 = .ok (.iconst 0, 1) := by decide +kernel
theorem d_Law_law_193 : decode code 193 = .ok (.ireturn, 1) := by decide +kernel
theorem d_Law_law_194 : decode code 194 = .ok (.aload_n 1, 1) := by decide +kernel
theorem d_Law_law_195 : decode code 195 = .ok (.invokevirtual 35, 3) := by decide +kernel
theorem d_Law_law_198 : decode code 198 = .ok (.aload_n 2, 1) := by decide +kernel
theorem d_Law_law_199 : decode code 199 = .ok (.invokevirtual 38, 3) := by decide +kernel
theorem d_Law_law_202 : decode code 202 = .ok (.if_icmp .eq 379, 3) := by decide +kernel
theorem d_Law_law_205 : decode code 205 = .ok (.iconst 0, 1) := by decide +kernel
theorem d_Law_law_206 : decode code 206 = .ok (.ireturn, 1) := by decide +kernel
theorem d_Law_law_207 : decode code 207 = .ok (.aload_n 1, 1) := by decide +kernel
theorem d_Law_law_208 : decode code 208 = .ok (.invokevirtual 39, 3) := by decide +kernel
theorem d_Law_law_211 : decode code 211 = .ok (.aload_n 2, 1) := by decide +kernel
theorem d_Law_law_212 : decode code 212 = .ok (.invokevirtual 43, 3) := by decide +kernel
theorem d_Law_law_215 : decode code 215 = .ok (.lcmp, 1) := by decide +kernel
theorem d_Law_law_216 : decode code 216 = .ok (.ifCond .eq 365, 3) := by decide +kernel
theorem d_Law_law_219 : decode code 219 = .ok (.iconst 0, 1) := by decide +kernel
theorem d_Law_law_220 : decode code 220 = .ok (.ireturn, 1) := by decide +kernel
theorem d_Law_law_221 : decode code 221 = .ok (.aload_n 1, 1) := by decide +kernel
theorem d_Law_law_222 : decode code 222 = .ok (.aload_n 0, 1) := by decide +kernel
theorem d_Law_law_223 : decode code 223 = .ok (.iload_n 3, 1) := by decide +kernel
theorem d_Law_law_224 : decode code 224 = .ok (.iconst 1, 1) := by decide +kernel
theorem d_Law_law_225 : decode code 225 = .ok (.iadd, 1) := by decide +kernel
theorem d_Law_law_226 : decode code 226 = .ok (.iaload, 1) := by decide +kernel
theorem d_Law_law_227 : decode code 227 = .ok (.i2l, 1) := by decide +kernel
theorem d_Law_law_228 : decode code 228 = .ok (.bipush 32, 2) := by decide +kernel
theorem d_Law_law_230 : decode code 230 = .ok (.lshl, 1) := by decide +kernel
theorem d_Law_law_231 : decode code 231 = .ok (.aload_n 0, 1) := by decide +kernel
theorem d_Law_law_232 : decode code 232 = .ok (.iload_n 3, 1) := by decide +kernel
theorem d_Law_law_233 : decode code 233 = .ok (.iconst 2, 1) := by decide +kernel
theorem d_Law_law_234 : decode code 234 = .ok (.iadd, 1) := by decide +kernel
theorem d_Law_law_235 : decode code 235 = .ok (.iaload, 1) := by decide +kernel
theorem d_Law_law_236 : decode code 236 = .ok (.i2l, 1) := by decide +kernel
theorem d_Law_law_237 : decode code 237 = .ok (.ldc2_w 13, 3) := by decide +kernel
theorem d_Law_law_240 : decode code 240 = .ok (.land, 1) := by decide +kernel
theorem d_Law_law_241 : decode code 241 = .ok (.lor, 1) := by decide +kernel
theorem d_Law_law_242 : decode code 242 = .ok (.invokevirtual 44, 3) := by decide +kernel
theorem d_Law_law_245 : decode code 245 = .ok (.aload_n 2, 1) := by decide +kernel
theorem d_Law_law_246 : decode code 246 = .ok (.aload_n 0, 1) := by decide +kernel
theorem d_Law_law_247 : decode code 247 = .ok (.iload_n 3, 1) := by decide +kernel
theorem d_Law_law_248 : decode code 248 = .ok (.iconst 1, 1) := by decide +kernel
theorem d_Law_law_249 : decode code 249 = .ok (.iadd, 1) := by decide +kernel
theorem d_Law_law_250 : decode code 250 = .ok (.iaload, 1) := by decide +kernel
theorem d_Law_law_251 : decode code 251 = .ok (.i2l, 1) := by decide +kernel
theorem d_Law_law_252 : decode code 252 = .ok (.bipush 32, 2) := by decide +kernel
theorem d_Law_law_254 : decode code 254 = .ok (.lshl, 1) := by decide +kernel
theorem d_Law_law_255 : decode code 255 = .ok (.aload_n 0, 1) := by decide +kernel
theorem d_Law_law_256 : decode code 256 = .ok (.iload_n 3, 1) := by decide +kernel
theorem d_Law_law_257 : decode code 257 = .ok (.iconst 2, 1) := by decide +kernel
theorem d_Law_law_258 : decode code 258 = .ok (.iadd, 1) := by decide +kernel
theorem d_Law_law_259 : decode code 259 = .ok (.iaload, 1) := by decide +kernel
theorem d_Law_law_260 : decode code 260 = .ok (.i2l, 1) := by decide +kernel
theorem d_Law_law_261 : decode code 261 = .ok (.ldc2_w 13, 3) := by decide +kernel
theorem d_Law_law_264 : decode code 264 = .ok (.land, 1) := by decide +kernel
theorem d_Law_law_265 : decode code 265 = .ok (.lor, 1) := by decide +kernel
theorem d_Law_law_266 : decode code 266 = .ok (.invokevirtual 48, 3) := by decide +kernel
theorem d_Law_law_269 : decode code 269 = .ok (.lcmp, 1) := by decide +kernel
theorem d_Law_law_270 : decode code 270 = .ok (.ifCond .eq 311, 3) := by decide +kernel
theorem d_Law_law_273 : decode code 273 = .ok (.iconst 0, 1) := by decide +kernel
theorem d_Law_law_274 : decode code 274 = .ok (.ireturn, 1) := by decide +kernel
theorem d_Law_law_275 : decode code 275 = .ok (.aload_n 1, 1) := by decide +kernel
theorem d_Law_law_276 : decode code 276 = .ok (.aload_n 0, 1) := by decide +kernel
theorem d_Law_law_277 : decode code 277 = .ok (.iload_n 3, 1) := by decide +kernel
theorem d_Law_law_278 : decode code 278 = .ok (.iconst 1, 1) := by decide +kernel
theorem d_Law_law_279 : decode code 279 = .ok (.iadd, 1) := by decide +kernel
theorem d_Law_law_280 : decode code 280 = .ok (.iaload, 1) := by decide +kernel
theorem d_Law_law_281 : decode code 281 = .ok (.i2l, 1) := by decide +kernel
theorem d_Law_law_282 : decode code 282 = .ok (.bipush 32, 2) := by decide +kernel
theorem d_Law_law_284 : decode code 284 = .ok (.lshl, 1) := by decide +kernel
theorem d_Law_law_285 : decode code 285 = .ok (.aload_n 0, 1) := by decide +kernel
theorem d_Law_law_286 : decode code 286 = .ok (.iload_n 3, 1) := by decide +kernel
theorem d_Law_law_287 : decode code 287 = .ok (.iconst 2, 1) := by decide +kernel
theorem d_Law_law_288 : decode code 288 = .ok (.iadd, 1) := by decide +kernel
theorem d_Law_law_289 : decode code 289 = .ok (.iaload, 1) := by decide +kernel
theorem d_Law_law_290 : decode code 290 = .ok (.i2l, 1) := by decide +kernel
theorem d_Law_law_291 : decode code 291 = .ok (.ldc2_w 13, 3) := by decide +kernel
theorem d_Law_law_294 : decode code 294 = .ok (.land, 1) := by decide +kernel
theorem d_Law_law_295 : decode code 295 = .ok (.lor, 1) := by decide +kernel
theorem d_Law_law_296 : decode code 296 = .ok (.invokevirtual 49, 3) := by decide +kernel
theorem d_Law_law_299 : decode code 299 = .ok (.aload_n 2, 1) := by decide +kernel
theorem d_Law_law_300 : decode code 300 = .ok (.aload_n 0, 1) := by decide +kernel
theorem d_Law_law_301 : decode code 301 = .ok (.iload_n 3, 1) := by decide +kernel
theorem d_Law_law_302 : decode code 302 = .ok (.iconst 1, 1) := by decide +kernel
theorem d_Law_law_303 : decode code 303 = .ok (.iadd, 1) := by decide +kernel
theorem d_Law_law_304 : decode code 304 = .ok (.iaload, 1) := by decide +kernel
theorem d_Law_law_305 : decode code 305 = .ok (.i2l, 1) := by decide +kernel
theorem d_Law_law_306 : decode code 306 = .ok (.bipush 32, 2) := by decide +kernel
theorem d_Law_law_308 : decode code 308 = .ok (.lshl, 1) := by decide +kernel
theorem d_Law_law_309 : decode code 309 = .ok (.aload_n 0, 1) := by decide +kernel
theorem d_Law_law_310 : decode code 310 = .ok (.iload_n 3, 1) := by decide +kernel
theorem d_Law_law_311 : decode code 311 = .ok (.iconst 2, 1) := by decide +kernel
theorem d_Law_law_312 : decode code 312 = .ok (.iadd, 1) := by decide +kernel
theorem d_Law_law_313 : decode code 313 = .ok (.iaload, 1) := by decide +kernel
theorem d_Law_law_314 : decode code 314 = .ok (.i2l, 1) := by decide +kernel
theorem d_Law_law_315 : decode code 315 = .ok (.ldc2_w 13, 3) := by decide +kernel
theorem d_Law_law_318 : decode code 318 = .ok (.land, 1) := by decide +kernel
theorem d_Law_law_319 : decode code 319 = .ok (.lor, 1) := by decide +kernel
theorem d_Law_law_320 : decode code 320 = .ok (.invokevirtual 52, 3) := by decide +kernel
theorem d_Law_law_323 : decode code 323 = .ok (.lcmp, 1) := by decide +kernel
theorem d_Law_law_324 : decode code 324 = .ok (.ifCond .eq 257, 3) := by decide +kernel
theorem d_Law_law_327 : decode code 327 = .ok (.iconst 0, 1) := by decide +kernel
theorem d_Law_law_328 : decode code 328 = .ok (.ireturn, 1) := by decide +kernel
theorem d_Law_law_329 : decode code 329 = .ok (.aload_n 1, 1) := by decide +kernel
theorem d_Law_law_330 : decode code 330 = .ok (.aload_n 0, 1) := by decide +kernel
theorem d_Law_law_331 : decode code 331 = .ok (.iload_n 3, 1) := by decide +kernel
theorem d_Law_law_332 : decode code 332 = .ok (.iconst 1, 1) := by decide +kernel
theorem d_Law_law_333 : decode code 333 = .ok (.iadd, 1) := by decide +kernel
theorem d_Law_law_334 : decode code 334 = .ok (.iaload, 1) := by decide +kernel
theorem d_Law_law_335 : decode code 335 = .ok (.i2l, 1) := by decide +kernel
theorem d_Law_law_336 : decode code 336 = .ok (.bipush 32, 2) := by decide +kernel
theorem d_Law_law_338 : decode code 338 = .ok (.lshl, 1) := by decide +kernel
theorem d_Law_law_339 : decode code 339 = .ok (.aload_n 0, 1) := by decide +kernel
theorem d_Law_law_340 : decode code 340 = .ok (.iload_n 3, 1) := by decide +kernel
theorem d_Law_law_341 : decode code 341 = .ok (.iconst 2, 1) := by decide +kernel
theorem d_Law_law_342 : decode code 342 = .ok (.iadd, 1) := by decide +kernel
theorem d_Law_law_343 : decode code 343 = .ok (.iaload, 1) := by decide +kernel
theorem d_Law_law_344 : decode code 344 = .ok (.i2l, 1) := by decide +kernel
theorem d_Law_law_345 : decode code 345 = .ok (.ldc2_w 13, 3) := by decide +kernel
theorem d_Law_law_348 : decode code 348 = .ok (.land, 1) := by decide +kernel
theorem d_Law_law_349 : decode code 349 = .ok (.lor, 1) := by decide +kernel
theorem d_Law_law_350 : decode code 350 = .ok (.aload_n 0, 1) := by decide +kernel
theorem d_Law_law_351 : decode code 351 = .ok (.iload_n 3, 1) := by decide +kernel
theorem d_Law_law_352 : decode code 352 = .ok (.iconst 3, 1) := by decide +kernel
theorem d_Law_law_353 : decode code 353 = .ok (.iadd, 1) := by decide +kernel
theorem d_Law_law_354 : decode code 354 = .ok (.iaload, 1) := by decide +kernel
theorem d_Law_law_355 : decode code 355 = .ok (.i2l, 1) := by decide +kernel
theorem d_Law_law_356 : decode code 356 = .ok (.bipush 32, 2) := by decide +kernel
theorem d_Law_law_358 : decode code 358 = .ok (.lshl, 1) := by decide +kernel
theorem d_Law_law_359 : decode code 359 = .ok (.aload_n 0, 1) := by decide +kernel
theorem d_Law_law_360 : decode code 360 = .ok (.iload_n 3, 1) := by decide +kernel
theorem d_Law_law_361 : decode code 361 = .ok (.iconst 4, 1) := by decide +kernel
theorem d_Law_law_362 : decode code 362 = .ok (.iadd, 1) := by decide +kernel
theorem d_Law_law_363 : decode code 363 = .ok (.iaload, 1) := by decide +kernel
theorem d_Law_law_364 : decode code 364 = .ok (.i2l, 1) := by decide +kernel
theorem d_Law_law_365 : decode code 365 = .ok (.ldc2_w 13, 3) := by decide +kernel
theorem d_Law_law_368 : decode code 368 = .ok (.land, 1) := by decide +kernel
theorem d_Law_law_369 : decode code 369 = .ok (.lor, 1) := by decide +kernel
theorem d_Law_law_370 : decode code 370 = .ok (.aload_n 0, 1) := by decide +kernel
theorem d_Law_law_371 : decode code 371 = .ok (.iload_n 3, 1) := by decide +kernel
theorem d_Law_law_372 : decode code 372 = .ok (.iconst 5, 1) := by decide +kernel
theorem d_Law_law_373 : decode code 373 = .ok (.iadd, 1) := by decide +kernel
theorem d_Law_law_374 : decode code 374 = .ok (.iaload, 1) := by decide +kernel
theorem d_Law_law_375 : decode code 375 = .ok (.ifCond .eq 7, 3) := by decide +kernel
theorem d_Law_law_378 : decode code 378 = .ok (.iconst 1, 1) := by decide +kernel
theorem d_Law_law_379 : decode code 379 = .ok (.goto 4, 3) := by decide +kernel
theorem d_Law_law_382 : decode code 382 = .ok (.iconst 0, 1) := by decide +kernel
theorem d_Law_law_383 : decode code 383 = .ok (.invokevirtual 53, 3) := by decide +kernel
theorem d_Law_law_386 : decode code 386 = .ok (.aload_n 2, 1) := by decide +kernel
theorem d_Law_law_387 : decode code 387 = .ok (.aload_n 0, 1) := by decide +kernel
theorem d_Law_law_388 : decode code 388 = .ok (.iload_n 3, 1) := by decide +kernel
theorem d_Law_law_389 : decode code 389 = .ok (.iconst 1, 1) := by decide +kernel
theorem d_Law_law_390 : decode code 390 = .ok (.iadd, 1) := by decide +kernel
theorem d_Law_law_391 : decode code 391 = .ok (.iaload, 1) := by decide +kernel
theorem d_Law_law_392 : decode code 392 = .ok (.i2l, 1) := by decide +kernel
theorem d_Law_law_393 : decode code 393 = .ok (.bipush 32, 2) := by decide +kernel
theorem d_Law_law_395 : decode code 395 = .ok (.lshl, 1) := by decide +kernel
theorem d_Law_law_396 : decode code 396 = .ok (.aload_n 0, 1) := by decide +kernel
theorem d_Law_law_397 : decode code 397 = .ok (.iload_n 3, 1) := by decide +kernel
theorem d_Law_law_398 : decode code 398 = .ok (.iconst 2, 1) := by decide +kernel
theorem d_Law_law_399 : decode code 399 = .ok (.iadd, 1) := by decide +kernel
theorem d_Law_law_400 : decode code 400 = .ok (.iaload, 1) := by decide +kernel
theorem d_Law_law_401 : decode code 401 = .ok (.i2l, 1) := by decide +kernel
theorem d_Law_law_402 : decode code 402 = .ok (.ldc2_w 13, 3) := by decide +kernel
theorem d_Law_law_405 : decode code 405 = .ok (.land, 1) := by decide +kernel
theorem d_Law_law_406 : decode code 406 = .ok (.lor, 1) := by decide +kernel
theorem d_Law_law_407 : decode code 407 = .ok (.aload_n 0, 1) := by decide +kernel
theorem d_Law_law_408 : decode code 408 = .ok (.iload_n 3, 1) := by decide +kernel
theorem d_Law_law_409 : decode code 409 = .ok (.iconst 3, 1) := by decide +kernel
theorem d_Law_law_410 : decode code 410 = .ok (.iadd, 1) := by decide +kernel
theorem d_Law_law_411 : decode code 411 = .ok (.iaload, 1) := by decide +kernel
theorem d_Law_law_412 : decode code 412 = .ok (.i2l, 1) := by decide +kernel
theorem d_Law_law_413 : decode code 413 = .ok (.bipush 32, 2) := by decide +kernel
theorem d_Law_law_415 : decode code 415 = .ok (.lshl, 1) := by decide +kernel
theorem d_Law_law_416 : decode code 416 = .ok (.aload_n 0, 1) := by decide +kernel
theorem d_Law_law_417 : decode code 417 = .ok (.iload_n 3, 1) := by decide +kernel
theorem d_Law_law_418 : decode code 418 = .ok (.iconst 4, 1) := by decide +kernel
theorem d_Law_law_419 : decode code 419 = .ok (.iadd, 1) := by decide +kernel
theorem d_Law_law_420 : decode code 420 = .ok (.iaload, 1) := by decide +kernel
theorem d_Law_law_421 : decode code 421 = .ok (.i2l, 1) := by decide +kernel
theorem d_Law_law_422 : decode code 422 = .ok (.ldc2_w 13, 3) := by decide +kernel
theorem d_Law_law_425 : decode code 425 = .ok (.land, 1) := by decide +kernel
theorem d_Law_law_426 : decode code 426 = .ok (.lor, 1) := by decide +kernel
theorem d_Law_law_427 : decode code 427 = .ok (.aload_n 0, 1) := by decide +kernel
theorem d_Law_law_428 : decode code 428 = .ok (.iload_n 3, 1) := by decide +kernel
theorem d_Law_law_429 : decode code 429 = .ok (.iconst 5, 1) := by decide +kernel
theorem d_Law_law_430 : decode code 430 = .ok (.iadd, 1) := by decide +kernel
theorem d_Law_law_431 : decode code 431 = .ok (.iaload, 1) := by decide +kernel
theorem d_Law_law_432 : decode code 432 = .ok (.ifCond .eq 7, 3) := by decide +kernel
theorem d_Law_law_435 : decode code 435 = .ok (.iconst 1, 1) := by decide +kernel
theorem d_Law_law_436 : decode code 436 = .ok (.goto 4, 3) := by decide +kernel
theorem d_Law_law_439 : decode code 439 = .ok (.iconst 0, 1) := by decide +kernel
theorem d_Law_law_440 : decode code 440 = .ok (.invokevirtual 57, 3) := by decide +kernel
theorem d_Law_law_443 : decode code 443 = .ok (.lcmp, 1) := by decide +kernel
theorem d_Law_law_444 : decode code 444 = .ok (.ifCond .eq 137, 3) := by decide +kernel
theorem d_Law_law_447 : decode code 447 = .ok (.iconst 0, 1) := by decide +kernel
theorem d_Law_law_448 : decode code 448 = .ok (.ireturn, 1) := by decide +kernel
theorem d_Law_law_449 : decode code 449 = .ok (.aload_n 1, 1) := by decide +kernel
theorem d_Law_law_450 : decode code 450 = .ok (.aload_n 0, 1) := by decide +kernel
theorem d_Law_law_451 : decode code 451 = .ok (.iload_n 3, 1) := by decide +kernel
theorem d_Law_law_452 : decode code 452 = .ok (.iconst 1, 1) := by decide +kernel
theorem d_Law_law_453 : decode code 453 = .ok (.iadd, 1) := by decide +kernel
theorem d_Law_law_454 : decode code 454 = .ok (.iaload, 1) := by decide +kernel
theorem d_Law_law_455 : decode code 455 = .ok (.i2l, 1) := by decide +kernel
theorem d_Law_law_456 : decode code 456 = .ok (.bipush 32, 2) := by decide +kernel
theorem d_Law_law_458 : decode code 458 = .ok (.lshl, 1) := by decide +kernel
theorem d_Law_law_459 : decode code 459 = .ok (.aload_n 0, 1) := by decide +kernel
theorem d_Law_law_460 : decode code 460 = .ok (.iload_n 3, 1) := by decide +kernel
theorem d_Law_law_461 : decode code 461 = .ok (.iconst 2, 1) := by decide +kernel
theorem d_Law_law_462 : decode code 462 = .ok (.iadd, 1) := by decide +kernel
theorem d_Law_law_463 : decode code 463 = .ok (.iaload, 1) := by decide +kernel
theorem d_Law_law_464 : decode code 464 = .ok (.i2l, 1) := by decide +kernel
theorem d_Law_law_465 : decode code 465 = .ok (.ldc2_w 13, 3) := by decide +kernel
theorem d_Law_law_468 : decode code 468 = .ok (.land, 1) := by decide +kernel
theorem d_Law_law_469 : decode code 469 = .ok (.lor, 1) := by decide +kernel
theorem d_Law_law_470 : decode code 470 = .ok (.aload_n 0, 1) := by decide +kernel
theorem d_Law_law_471 : decode code 471 = .ok (.iload_n 3, 1) := by decide +kernel
theorem d_Law_law_472 : decode code 472 = .ok (.iconst 3, 1) := by decide +kernel
theorem d_Law_law_473 : decode code 473 = .ok (.iadd, 1) := by decide +kernel
theorem d_Law_law_474 : decode code 474 = .ok (.iaload, 1) := by decide +kernel
theorem d_Law_law_475 : decode code 475 = .ok (.i2l, 1) := by decide +kernel
theorem d_Law_law_476 : decode code 476 = .ok (.bipush 32, 2) := by decide +kernel
theorem d_Law_law_478 : decode code 478 = .ok (.lshl, 1) := by decide +kernel
theorem d_Law_law_479 : decode code 479 = .ok (.aload_n 0, 1) := by decide +kernel
theorem d_Law_law_480 : decode code 480 = .ok (.iload_n 3, 1) := by decide +kernel
theorem d_Law_law_481 : decode code 481 = .ok (.iconst 4, 1) := by decide +kernel
theorem d_Law_law_482 : decode code 482 = .ok (.iadd, 1) := by decide +kernel
theorem d_Law_law_483 : decode code 483 = .ok (.iaload, 1) := by decide +kernel
theorem d_Law_law_484 : decode code 484 = .ok (.i2l, 1) := by decide +kernel
theorem d_Law_law_485 : decode code 485 = .ok (.ldc2_w 13, 3) := by decide +kernel
theorem d_Law_law_488 : decode code 488 = .ok (.land, 1) := by decide +kernel
theorem d_Law_law_489 : decode code 489 = .ok (.lor, 1) := by decide +kernel
theorem d_Law_law_490 : decode code 490 = .ok (.aload_n 0, 1) := by decide +kernel
theorem d_Law_law_491 : decode code 491 = .ok (.iload_n 3, 1) := by decide +kernel
theorem d_Law_law_492 : decode code 492 = .ok (.iconst 5, 1) := by decide +kernel
theorem d_Law_law_493 : decode code 493 = .ok (.iadd, 1) := by decide +kernel
theorem d_Law_law_494 : decode code 494 = .ok (.iaload, 1) := by decide +kernel
theorem d_Law_law_495 : decode code 495 = .ok (.ifCond .eq 7, 3) := by decide +kernel
theorem d_Law_law_498 : decode code 498 = .ok (.iconst 1, 1) := by decide +kernel
theorem d_Law_law_499 : decode code 499 = .ok (.goto 4, 3) := by decide +kernel
theorem d_Law_law_502 : decode code 502 = .ok (.iconst 0, 1) := by decide +kernel
theorem d_Law_law_503 : decode code 503 = .ok (.invokevirtual 58, 3) := by decide +kernel
theorem d_Law_law_506 : decode code 506 = .ok (.aload_n 2, 1) := by decide +kernel
theorem d_Law_law_507 : decode code 507 = .ok (.aload_n 0, 1) := by decide +kernel
theorem d_Law_law_508 : decode code 508 = .ok (.iload_n 3, 1) := by decide +kernel
theorem d_Law_law_509 : decode code 509 = .ok (.iconst 1, 1) := by decide +kernel
theorem d_Law_law_510 : decode code 510 = .ok (.iadd, 1) := by decide +kernel
theorem d_Law_law_511 : decode code 511 = .ok (.iaload, 1) := by decide +kernel
theorem d_Law_law_512 : decode code 512 = .ok (.i2l, 1) := by decide +kernel
theorem d_Law_law_513 : decode code 513 = .ok (.bipush 32, 2) := by decide +kernel
theorem d_Law_law_515 : decode code 515 = .ok (.lshl, 1) := by decide +kernel
theorem d_Law_law_516 : decode code 516 = .ok (.aload_n 0, 1) := by decide +kernel
theorem d_Law_law_517 : decode code 517 = .ok (.iload_n 3, 1) := by decide +kernel
theorem d_Law_law_518 : decode code 518 = .ok (.iconst 2, 1) := by decide +kernel
theorem d_Law_law_519 : decode code 519 = .ok (.iadd, 1) := by decide +kernel
theorem d_Law_law_520 : decode code 520 = .ok (.iaload, 1) := by decide +kernel
theorem d_Law_law_521 : decode code 521 = .ok (.i2l, 1) := by decide +kernel
theorem d_Law_law_522 : decode code 522 = .ok (.ldc2_w 13, 3) := by decide +kernel
theorem d_Law_law_525 : decode code 525 = .ok (.land, 1) := by decide +kernel
theorem d_Law_law_526 : decode code 526 = .ok (.lor, 1) := by decide +kernel
theorem d_Law_law_527 : decode code 527 = .ok (.aload_n 0, 1) := by decide +kernel
theorem d_Law_law_528 : decode code 528 = .ok (.iload_n 3, 1) := by decide +kernel
theorem d_Law_law_529 : decode code 529 = .ok (.iconst 3, 1) := by decide +kernel
theorem d_Law_law_530 : decode code 530 = .ok (.iadd, 1) := by decide +kernel
theorem d_Law_law_531 : decode code 531 = .ok (.iaload, 1) := by decide +kernel
theorem d_Law_law_532 : decode code 532 = .ok (.i2l, 1) := by decide +kernel
theorem d_Law_law_533 : decode code 533 = .ok (.bipush 32, 2) := by decide +kernel
theorem d_Law_law_535 : decode code 535 = .ok (.lshl, 1) := by decide +kernel
theorem d_Law_law_536 : decode code 536 = .ok (.aload_n 0, 1) := by decide +kernel
theorem d_Law_law_537 : decode code 537 = .ok (.iload_n 3, 1) := by decide +kernel
theorem d_Law_law_538 : decode code 538 = .ok (.iconst 4, 1) := by decide +kernel
theorem d_Law_law_539 : decode code 539 = .ok (.iadd, 1) := by decide +kernel
theorem d_Law_law_540 : decode code 540 = .ok (.iaload, 1) := by decide +kernel
theorem d_Law_law_541 : decode code 541 = .ok (.i2l, 1) := by decide +kernel
theorem d_Law_law_542 : decode code 542 = .ok (.ldc2_w 13, 3) := by decide +kernel
theorem d_Law_law_545 : decode code 545 = .ok (.land, 1) := by decide +kernel
theorem d_Law_law_546 : decode code 546 = .ok (.lor, 1) := by decide +kernel
theorem d_Law_law_547 : decode code 547 = .ok (.aload_n 0, 1) := by decide +kernel
theorem d_Law_law_548 : decode code 548 = .ok (.iload_n 3, 1) := by decide +kernel
theorem d_Law_law_549 : decode code 549 = .ok (.iconst 5, 1) := by decide +kernel
theorem d_Law_law_550 : decode code 550 = .ok (.iadd, 1) := by decide +kernel
theorem d_Law_law_551 : decode code 551 = .ok (.iaload, 1) := by decide +kernel
theorem d_Law_law_552 : decode code 552 = .ok (.ifCond .eq 7, 3) := by decide +kernel
theorem d_Law_law_555 : decode code 555 = .ok (.iconst 1, 1) := by decide +kernel
theorem d_Law_law_556 : decode code 556 = .ok (.goto 4, 3) := by decide +kernel
theorem d_Law_law_559 : decode code 559 = .ok (.iconst 0, 1) := by decide +kernel
theorem d_Law_law_560 : decode code 560 = .ok (.invokevirtual 62, 3) := by decide +kernel
theorem d_Law_law_563 : decode code 563 = .ok (.if_icmp .eq 18, 3) := by decide +kernel
theorem d_Law_law_566 : decode code 566 = .ok (.iconst 0, 1) := by decide +kernel
theorem d_Law_law_567 : decode code 567 = .ok (.ireturn, 1) := by decide +kernel
theorem d_Law_law_568 : decode code 568 = .ok (.aload_n 1, 1) := by decide +kernel
theorem d_Law_law_569 : decode code 569 = .ok (.invokevirtual 63, 3) := by decide +kernel
theorem d_Law_law_572 : decode code 572 = .ok (.aload_n 2, 1) := by decide +kernel
theorem d_Law_law_573 : decode code 573 = .ok (.invokevirtual 66, 3) := by decide +kernel
theorem d_Law_law_576 : decode code 576 = .ok (.if_icmp .eq 5, 3) := by decide +kernel
theorem d_Law_law_579 : decode code 579 = .ok (.iconst 0, 1) := by decide +kernel
theorem d_Law_law_580 : decode code 580 = .ok (.ireturn, 1) := by decide +kernel
theorem d_Law_law_581 : decode code 581 = .ok (.iinc 3 6, 3) := by decide +kernel
theorem d_Law_law_584 : decode code 584 = .ok (.goto (-566), 3) := by decide +kernel
theorem d_Law_law_587 : decode code 587 = .ok (.iconst 1, 1) := by decide +kernel
theorem d_Law_law_588 : decode code 588 = .ok (.ireturn, 1) := by decide +kernel
theorem d_Law_law_33 : decode code 33 = .ok (.tableswitch 548 0 10 #[59, 112, 135, 148, 161, 174, 188, 242, 296, 416, 535], 59) := by decide +kernel
