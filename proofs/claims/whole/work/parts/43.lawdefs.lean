/-! ===== the law: its end, its entry, its decode rows ===== -/
def R_law : String := "WideFractionsLaw"
def lw_P (b : Addr) (xs : List Int32) (args : Array Value) (s : State) : Prop := args = #[.ref b] ∧ s.IntsAt b xs ∧ xs.length ≤ 3072 ∧ (Jvm.Cond.and given_1 narrow_1).before args s = true
def lw_Q (_ : Array Value) (s : State) (o : Outcome) (t : State) : Prop := o = .returned (some (.int 1)) ∧ Framed s o t [] 1041 10127
def lw_Z (below : List Frame) (a : Array Value) (s : State) : State → Prop := fun t => ∃ o, t.status = .running ∧ Ended t below o ∧ lw_Q a s o t
/-- the law's own end, with 1 on the stack, nothing written that was there before, its room as the claim has it -/
theorem lw_ret {p : Program} {l : Launch} {e : Env} {s : State} {m : MethodId} {below : List Frame} {meth : Method} {c : Code} {b : Nat} (hx : p.tables.exec = Jvm.exec) (hb : c.code = code) (hr : meth.sig.returnType = ret) (hlocks : meth.locks = false) {pc : Nat} {H : Heap} {ls : Array Slot} (hdg : decode code pc = .ok (.ireturn, 1)) : W p l e room_1 s m #[Value.ref b] below meth c H [] 1041 10127 (lw_Z below #[Value.ref b] s) (F0 m pc ls [.int 1]) := by
  intro T hT X
  obtain ⟨fs, hret, hrun, hended, hW, hframe⟩ := X.leave (v := some (.int 1)) (hlocks := hlocks) (fun h => by rw [hr] at h; cases h)
  have hmeth' : T.vm.method? m = some meth := X.method'
  refine ⟨T.setFrames fs, ?_, .returned (some (.int 1)), hrun, hended, rfl, ⟨_, rfl⟩, hW, hframe⟩
  jvm_step X.here [X.here.top, hx, hb, hdg, hmeth', hr, ret, narrow_b1]
  (try refine ⟨rfl, ?_⟩); (try refine ⟨rfl, ?_⟩)
  first | (intro acts; rw [hret _ acts rfl rfl rfl]) | rw [hret _ _ rfl rfl rfl]
  exact Steps.refl _
/-- what holds at the law's entry: the machine, the code, the tables' words (any of lw_tbl by 'hts w (by decide +kernel)'), the script of L ints xs at the cell b, what the Statement gives of the start (any of its parts by flat_of_before) -/
def lw_At (p : Program) (s : State) (m : MethodId) (meth : Method) (c : Code) (b L : Nat) (xs : Nat → Int32) : Prop :=
  p.tables.exec = Jvm.exec ∧ c.code = code ∧ meth.sig.returnType = ret ∧ c.maxLocals = 8 ∧ s.vm.findClass R_law = some m.cls ∧ (∀ w ∈ lw_tbl, w.before #[Value.ref b] s = true) ∧ va_X b L xs s s.heap ∧ b < s.heap.size ∧ meth.locks = false ∧ (Jvm.Cond.and given_1 narrow_1).before #[Value.ref b] s = true

theorem d_law_0 : decode code 0 = .ok (.new 8, 3) := by decide +kernel
theorem d_law_3 : decode code 3 = .ok (.dup, 1) := by decide +kernel
theorem d_law_4 : decode code 4 = .ok (.invokespecial 62, 3) := by decide +kernel
theorem d_law_7 : decode code 7 = .ok (.astore_n 1, 1) := by decide +kernel
theorem d_law_8 : decode code 8 = .ok (.new 63, 3) := by decide +kernel
theorem d_law_11 : decode code 11 = .ok (.dup, 1) := by decide +kernel
theorem d_law_12 : decode code 12 = .ok (.invokespecial 65, 3) := by decide +kernel
theorem d_law_15 : decode code 15 = .ok (.astore_n 2, 1) := by decide +kernel
theorem d_law_16 : decode code 16 = .ok (.iconst 1, 1) := by decide +kernel
theorem d_law_17 : decode code 17 = .ok (.newarray .long, 2) := by decide +kernel
theorem d_law_19 : decode code 19 = .ok (.astore_n 3, 1) := by decide +kernel
theorem d_law_20 : decode code 20 = .ok (.iconst 0, 1) := by decide +kernel
theorem d_law_21 : decode code 21 = .ok (.istore 4, 2) := by decide +kernel
theorem d_law_23 : decode code 23 = .ok (.iload 4, 2) := by decide +kernel
theorem d_law_25 : decode code 25 = .ok (.aload_n 0, 1) := by decide +kernel
theorem d_law_26 : decode code 26 = .ok (.arraylength, 1) := by decide +kernel
theorem d_law_27 : decode code 27 = .ok (.bipush 6, 2) := by decide +kernel
theorem d_law_29 : decode code 29 = .ok (.isub, 1) := by decide +kernel
theorem d_law_30 : decode code 30 = .ok (.if_icmp .gt 1100, 3) := by decide +kernel
theorem d_law_33 : decode code 33 = .ok (.aload_n 0, 1) := by decide +kernel
theorem d_law_34 : decode code 34 = .ok (.iload 4, 2) := by decide +kernel
theorem d_law_36 : decode code 36 = .ok (.iaload, 1) := by decide +kernel
theorem d_law_37 : decode code 37 = .ok (.bipush 15, 2) := by decide +kernel
theorem d_law_39 : decode code 39 = .ok (.iand, 1) := by decide +kernel
theorem d_law_40 : decode code 40 = .ok (.tableswitch 1084 0 13 #[72, 196, 279, 366, 453, 525, 597, 657, 744, 804, 860, 928, 984, 1009], 72) := by decide +kernel
theorem d_law_112 : decode code 112 = .ok (.aload_n 1, 1) := by decide +kernel
theorem d_law_113 : decode code 113 = .ok (.aload_n 0, 1) := by decide +kernel
theorem d_law_114 : decode code 114 = .ok (.iload 4, 2) := by decide +kernel
theorem d_law_116 : decode code 116 = .ok (.iconst 1, 1) := by decide +kernel
theorem d_law_117 : decode code 117 = .ok (.iadd, 1) := by decide +kernel
theorem d_law_118 : decode code 118 = .ok (.iaload, 1) := by decide +kernel
theorem d_law_119 : decode code 119 = .ok (.aload_n 0, 1) := by decide +kernel
theorem d_law_120 : decode code 120 = .ok (.iload 4, 2) := by decide +kernel
theorem d_law_122 : decode code 122 = .ok (.iconst 2, 1) := by decide +kernel
theorem d_law_123 : decode code 123 = .ok (.iadd, 1) := by decide +kernel
theorem d_law_124 : decode code 124 = .ok (.iaload, 1) := by decide +kernel
theorem d_law_125 : decode code 125 = .ok (.i2l, 1) := by decide +kernel
theorem d_law_126 : decode code 126 = .ok (.bipush 32, 2) := by decide +kernel
theorem d_law_128 : decode code 128 = .ok (.lshl, 1) := by decide +kernel
theorem d_law_129 : decode code 129 = .ok (.aload_n 0, 1) := by decide +kernel
theorem d_law_130 : decode code 130 = .ok (.iload 4, 2) := by decide +kernel
theorem d_law_132 : decode code 132 = .ok (.iconst 3, 1) := by decide +kernel
theorem d_law_133 : decode code 133 = .ok (.iadd, 1) := by decide +kernel
theorem d_law_134 : decode code 134 = .ok (.iaload, 1) := by decide +kernel
theorem d_law_135 : decode code 135 = .ok (.i2l, 1) := by decide +kernel
theorem d_law_136 : decode code 136 = .ok (.ldc2_w 66, 3) := by decide +kernel
theorem d_law_139 : decode code 139 = .ok (.land, 1) := by decide +kernel
theorem d_law_140 : decode code 140 = .ok (.lor, 1) := by decide +kernel
theorem d_law_141 : decode code 141 = .ok (.aload_n 0, 1) := by decide +kernel
theorem d_law_142 : decode code 142 = .ok (.iload 4, 2) := by decide +kernel
theorem d_law_144 : decode code 144 = .ok (.iconst 4, 1) := by decide +kernel
theorem d_law_145 : decode code 145 = .ok (.iadd, 1) := by decide +kernel
theorem d_law_146 : decode code 146 = .ok (.iaload, 1) := by decide +kernel
theorem d_law_147 : decode code 147 = .ok (.i2l, 1) := by decide +kernel
theorem d_law_148 : decode code 148 = .ok (.bipush 32, 2) := by decide +kernel
theorem d_law_150 : decode code 150 = .ok (.lshl, 1) := by decide +kernel
theorem d_law_151 : decode code 151 = .ok (.aload_n 0, 1) := by decide +kernel
theorem d_law_152 : decode code 152 = .ok (.iload 4, 2) := by decide +kernel
theorem d_law_154 : decode code 154 = .ok (.iconst 5, 1) := by decide +kernel
theorem d_law_155 : decode code 155 = .ok (.iadd, 1) := by decide +kernel
theorem d_law_156 : decode code 156 = .ok (.iaload, 1) := by decide +kernel
theorem d_law_157 : decode code 157 = .ok (.i2l, 1) := by decide +kernel
theorem d_law_158 : decode code 158 = .ok (.ldc2_w 66, 3) := by decide +kernel
theorem d_law_161 : decode code 161 = .ok (.land, 1) := by decide +kernel
theorem d_law_162 : decode code 162 = .ok (.lor, 1) := by decide +kernel
theorem d_law_163 : decode code 163 = .ok (.invokestatic 68, 3) := by decide +kernel
theorem d_law_166 : decode code 166 = .ok (.istore 5, 2) := by decide +kernel
theorem d_law_168 : decode code 168 = .ok (.aload_n 2, 1) := by decide +kernel
theorem d_law_169 : decode code 169 = .ok (.aload_n 0, 1) := by decide +kernel
theorem d_law_170 : decode code 170 = .ok (.iload 4, 2) := by decide +kernel
theorem d_law_172 : decode code 172 = .ok (.iconst 1, 1) := by decide +kernel
theorem d_law_173 : decode code 173 = .ok (.iadd, 1) := by decide +kernel
theorem d_law_174 : decode code 174 = .ok (.iaload, 1) := by decide +kernel
theorem d_law_175 : decode code 175 = .ok (.aload_n 0, 1) := by decide +kernel
theorem d_law_176 : decode code 176 = .ok (.iload 4, 2) := by decide +kernel
theorem d_law_178 : decode code 178 = .ok (.iconst 2, 1) := by decide +kernel
theorem d_law_179 : decode code 179 = .ok (.iadd, 1) := by decide +kernel
theorem d_law_180 : decode code 180 = .ok (.iaload, 1) := by decide +kernel
theorem d_law_181 : decode code 181 = .ok (.i2l, 1) := by decide +kernel
theorem d_law_182 : decode code 182 = .ok (.bipush 32, 2) := by decide +kernel
theorem d_law_184 : decode code 184 = .ok (.lshl, 1) := by decide +kernel
theorem d_law_185 : decode code 185 = .ok (.aload_n 0, 1) := by decide +kernel
theorem d_law_186 : decode code 186 = .ok (.iload 4, 2) := by decide +kernel
theorem d_law_188 : decode code 188 = .ok (.iconst 3, 1) := by decide +kernel
theorem d_law_189 : decode code 189 = .ok (.iadd, 1) := by decide +kernel
theorem d_law_190 : decode code 190 = .ok (.iaload, 1) := by decide +kernel
theorem d_law_191 : decode code 191 = .ok (.i2l, 1) := by decide +kernel
theorem d_law_192 : decode code 192 = .ok (.ldc2_w 66, 3) := by decide +kernel
theorem d_law_195 : decode code 195 = .ok (.land, 1) := by decide +kernel
theorem d_law_196 : decode code 196 = .ok (.lor, 1) := by decide +kernel
theorem d_law_197 : decode code 197 = .ok (.aload_n 0, 1) := by decide +kernel
theorem d_law_198 : decode code 198 = .ok (.iload 4, 2) := by decide +kernel
theorem d_law_200 : decode code 200 = .ok (.iconst 4, 1) := by decide +kernel
theorem d_law_201 : decode code 201 = .ok (.iadd, 1) := by decide +kernel
theorem d_law_202 : decode code 202 = .ok (.iaload, 1) := by decide +kernel
theorem d_law_203 : decode code 203 = .ok (.i2l, 1) := by decide +kernel
theorem d_law_204 : decode code 204 = .ok (.bipush 32, 2) := by decide +kernel
theorem d_law_206 : decode code 206 = .ok (.lshl, 1) := by decide +kernel
theorem d_law_207 : decode code 207 = .ok (.aload_n 0, 1) := by decide +kernel
theorem d_law_208 : decode code 208 = .ok (.iload 4, 2) := by decide +kernel
theorem d_law_210 : decode code 210 = .ok (.iconst 5, 1) := by decide +kernel
theorem d_law_211 : decode code 211 = .ok (.iadd, 1) := by decide +kernel
theorem d_law_212 : decode code 212 = .ok (.iaload, 1) := by decide +kernel
theorem d_law_213 : decode code 213 = .ok (.i2l, 1) := by decide +kernel
theorem d_law_214 : decode code 214 = .ok (.ldc2_w 66, 3) := by decide +kernel
theorem d_law_217 : decode code 217 = .ok (.land, 1) := by decide +kernel
theorem d_law_218 : decode code 218 = .ok (.lor, 1) := by decide +kernel
theorem d_law_219 : decode code 219 = .ok (.invokevirtual 73, 3) := by decide +kernel
theorem d_law_222 : decode code 222 = .ok (.aload_n 2, 1) := by decide +kernel
theorem d_law_223 : decode code 223 = .ok (.invokevirtual 74, 3) := by decide +kernel
theorem d_law_226 : decode code 226 = .ok (.iload 5, 2) := by decide +kernel
theorem d_law_228 : decode code 228 = .ok (.if_icmp .eq 5, 3) := by decide +kernel
theorem d_law_231 : decode code 231 = .ok (.iconst 0, 1) := by decide +kernel
theorem d_law_232 : decode code 232 = .ok (.ireturn, 1) := by decide +kernel
theorem d_law_233 : decode code 233 = .ok (.goto 891, 3) := by decide +kernel
theorem d_law_236 : decode code 236 = .ok (.aload_n 1, 1) := by decide +kernel
theorem d_law_237 : decode code 237 = .ok (.aload_n 0, 1) := by decide +kernel
theorem d_law_238 : decode code 238 = .ok (.iload 4, 2) := by decide +kernel
theorem d_law_240 : decode code 240 = .ok (.iconst 1, 1) := by decide +kernel
theorem d_law_241 : decode code 241 = .ok (.iadd, 1) := by decide +kernel
theorem d_law_242 : decode code 242 = .ok (.iaload, 1) := by decide +kernel
theorem d_law_243 : decode code 243 = .ok (.aload_n 0, 1) := by decide +kernel
theorem d_law_244 : decode code 244 = .ok (.iload 4, 2) := by decide +kernel
theorem d_law_246 : decode code 246 = .ok (.iconst 2, 1) := by decide +kernel
theorem d_law_247 : decode code 247 = .ok (.iadd, 1) := by decide +kernel
theorem d_law_248 : decode code 248 = .ok (.iaload, 1) := by decide +kernel
theorem d_law_249 : decode code 249 = .ok (.ifCond .eq 7, 3) := by decide +kernel
theorem d_law_252 : decode code 252 = .ok (.iconst 1, 1) := by decide +kernel
theorem d_law_253 : decode code 253 = .ok (.goto 4, 3) := by decide +kernel
theorem d_law_256 : decode code 256 = .ok (.iconst 0, 1) := by decide +kernel
theorem d_law_257 : decode code 257 = .ok (.aload_n 3, 1) := by decide +kernel
theorem d_law_258 : decode code 258 = .ok (.invokestatic 78, 3) := by decide +kernel
theorem d_law_261 : decode code 261 = .ok (.istore 5, 2) := by decide +kernel
theorem d_law_263 : decode code 263 = .ok (.aload_n 2, 1) := by decide +kernel
theorem d_law_264 : decode code 264 = .ok (.aload_n 0, 1) := by decide +kernel
theorem d_law_265 : decode code 265 = .ok (.iload 4, 2) := by decide +kernel
theorem d_law_267 : decode code 267 = .ok (.iconst 1, 1) := by decide +kernel
theorem d_law_268 : decode code 268 = .ok (.iadd, 1) := by decide +kernel
theorem d_law_269 : decode code 269 = .ok (.iaload, 1) := by decide +kernel
theorem d_law_270 : decode code 270 = .ok (.aload_n 0, 1) := by decide +kernel
theorem d_law_271 : decode code 271 = .ok (.iload 4, 2) := by decide +kernel
theorem d_law_273 : decode code 273 = .ok (.iconst 2, 1) := by decide +kernel
theorem d_law_274 : decode code 274 = .ok (.iadd, 1) := by decide +kernel
theorem d_law_275 : decode code 275 = .ok (.iaload, 1) := by decide +kernel
theorem d_law_276 : decode code 276 = .ok (.ifCond .eq 7, 3) := by decide +kernel
theorem d_law_279 : decode code 279 = .ok (.iconst 1, 1) := by decide +kernel
theorem d_law_280 : decode code 280 = .ok (.goto 4, 3) := by decide +kernel
theorem d_law_283 : decode code 283 = .ok (.iconst 0, 1) := by decide +kernel
theorem d_law_284 : decode code 284 = .ok (.invokevirtual 81, 3) := by decide +kernel
theorem d_law_287 : decode code 287 = .ok (.lstore 6, 2) := by decide +kernel
theorem d_law_289 : decode code 289 = .ok (.aload_n 2, 1) := by decide +kernel
theorem d_law_290 : decode code 290 = .ok (.invokevirtual 74, 3) := by decide +kernel
theorem d_law_293 : decode code 293 = .ok (.iload 5, 2) := by decide +kernel
theorem d_law_295 : decode code 295 = .ok (.if_icmp .eq 5, 3) := by decide +kernel
theorem d_law_298 : decode code 298 = .ok (.iconst 0, 1) := by decide +kernel
theorem d_law_299 : decode code 299 = .ok (.ireturn, 1) := by decide +kernel
theorem d_law_300 : decode code 300 = .ok (.iload 5, 2) := by decide +kernel
theorem d_law_302 : decode code 302 = .ok (.ifCond .ne 14, 3) := by decide +kernel
theorem d_law_305 : decode code 305 = .ok (.aload_n 3, 1) := by decide +kernel
theorem d_law_306 : decode code 306 = .ok (.iconst 0, 1) := by decide +kernel
theorem d_law_307 : decode code 307 = .ok (.laload, 1) := by decide +kernel
theorem d_law_308 : decode code 308 = .ok (.lload 6, 2) := by decide +kernel
theorem d_law_310 : decode code 310 = .ok (.lcmp, 1) := by decide +kernel
theorem d_law_311 : decode code 311 = .ok (.ifCond .eq 5, 3) := by decide +kernel
theorem d_law_314 : decode code 314 = .ok (.iconst 0, 1) := by decide +kernel
theorem d_law_315 : decode code 315 = .ok (.ireturn, 1) := by decide +kernel
theorem d_law_316 : decode code 316 = .ok (.goto 808, 3) := by decide +kernel
theorem d_law_319 : decode code 319 = .ok (.aload_n 1, 1) := by decide +kernel
theorem d_law_320 : decode code 320 = .ok (.aload_n 0, 1) := by decide +kernel
theorem d_law_321 : decode code 321 = .ok (.iload 4, 2) := by decide +kernel
theorem d_law_323 : decode code 323 = .ok (.iconst 1, 1) := by decide +kernel
theorem d_law_324 : decode code 324 = .ok (.iadd, 1) := by decide +kernel
theorem d_law_325 : decode code 325 = .ok (.iaload, 1) := by decide +kernel
theorem d_law_326 : decode code 326 = .ok (.aload_n 0, 1) := by decide +kernel
theorem d_law_327 : decode code 327 = .ok (.iload 4, 2) := by decide +kernel
theorem d_law_329 : decode code 329 = .ok (.iconst 2, 1) := by decide +kernel
theorem d_law_330 : decode code 330 = .ok (.iadd, 1) := by decide +kernel
theorem d_law_331 : decode code 331 = .ok (.iaload, 1) := by decide +kernel
theorem d_law_332 : decode code 332 = .ok (.aload_n 0, 1) := by decide +kernel
theorem d_law_333 : decode code 333 = .ok (.iload 4, 2) := by decide +kernel
theorem d_law_335 : decode code 335 = .ok (.iconst 3, 1) := by decide +kernel
theorem d_law_336 : decode code 336 = .ok (.iadd, 1) := by decide +kernel
theorem d_law_337 : decode code 337 = .ok (.iaload, 1) := by decide +kernel
theorem d_law_338 : decode code 338 = .ok (.aload_n 3, 1) := by decide +kernel
theorem d_law_339 : decode code 339 = .ok (.invokestatic 82, 3) := by decide +kernel
theorem d_law_342 : decode code 342 = .ok (.istore 5, 2) := by decide +kernel
theorem d_law_344 : decode code 344 = .ok (.aload_n 2, 1) := by decide +kernel
theorem d_law_345 : decode code 345 = .ok (.aload_n 0, 1) := by decide +kernel
theorem d_law_346 : decode code 346 = .ok (.iload 4, 2) := by decide +kernel
theorem d_law_348 : decode code 348 = .ok (.iconst 1, 1) := by decide +kernel
theorem d_law_349 : decode code 349 = .ok (.iadd, 1) := by decide +kernel
theorem d_law_350 : decode code 350 = .ok (.iaload, 1) := by decide +kernel
theorem d_law_351 : decode code 351 = .ok (.aload_n 0, 1) := by decide +kernel
theorem d_law_352 : decode code 352 = .ok (.iload 4, 2) := by decide +kernel
theorem d_law_354 : decode code 354 = .ok (.iconst 2, 1) := by decide +kernel
theorem d_law_355 : decode code 355 = .ok (.iadd, 1) := by decide +kernel
theorem d_law_356 : decode code 356 = .ok (.iaload, 1) := by decide +kernel
theorem d_law_357 : decode code 357 = .ok (.aload_n 0, 1) := by decide +kernel
theorem d_law_358 : decode code 358 = .ok (.iload 4, 2) := by decide +kernel
theorem d_law_360 : decode code 360 = .ok (.iconst 3, 1) := by decide +kernel
theorem d_law_361 : decode code 361 = .ok (.iadd, 1) := by decide +kernel
theorem d_law_362 : decode code 362 = .ok (.iaload, 1) := by decide +kernel
theorem d_law_363 : decode code 363 = .ok (.invokevirtual 85, 3) := by decide +kernel
theorem d_law_366 : decode code 366 = .ok (.istore 6, 2) := by decide +kernel
theorem d_law_368 : decode code 368 = .ok (.aload_n 2, 1) := by decide +kernel
theorem d_law_369 : decode code 369 = .ok (.invokevirtual 74, 3) := by decide +kernel
theorem d_law_372 : decode code 372 = .ok (.iload 5, 2) := by decide +kernel
theorem d_law_374 : decode code 374 = .ok (.if_icmp .eq 5, 3) := by decide +kernel
theorem d_law_377 : decode code 377 = .ok (.iconst 0, 1) := by decide +kernel
theorem d_law_378 : decode code 378 = .ok (.ireturn, 1) := by decide +kernel
theorem d_law_379 : decode code 379 = .ok (.iload 5, 2) := by decide +kernel
theorem d_law_381 : decode code 381 = .ok (.ifCond .ne 22, 3) := by decide +kernel
theorem d_law_384 : decode code 384 = .ok (.aload_n 3, 1) := by decide +kernel
theorem d_law_385 : decode code 385 = .ok (.iconst 0, 1) := by decide +kernel
theorem d_law_386 : decode code 386 = .ok (.laload, 1) := by decide +kernel
theorem d_law_387 : decode code 387 = .ok (.iload 6, 2) := by decide +kernel
theorem d_law_389 : decode code 389 = .ok (.ifCond .eq 7, 3) := by decide +kernel
theorem d_law_392 : decode code 392 = .ok (.lconst 1, 1) := by decide +kernel
theorem d_law_393 : decode code 393 = .ok (.goto 4, 3) := by decide +kernel
theorem d_law_396 : decode code 396 = .ok (.lconst 0, 1) := by decide +kernel
theorem d_law_397 : decode code 397 = .ok (.lcmp, 1) := by decide +kernel
theorem d_law_398 : decode code 398 = .ok (.ifCond .eq 5, 3) := by decide +kernel
theorem d_law_401 : decode code 401 = .ok (.iconst 0, 1) := by decide +kernel
theorem d_law_402 : decode code 402 = .ok (.ireturn, 1) := by decide +kernel
theorem d_law_403 : decode code 403 = .ok (.goto 721, 3) := by decide +kernel
theorem d_law_406 : decode code 406 = .ok (.aload_n 1, 1) := by decide +kernel
theorem d_law_407 : decode code 407 = .ok (.aload_n 0, 1) := by decide +kernel
theorem d_law_408 : decode code 408 = .ok (.iload 4, 2) := by decide +kernel
theorem d_law_410 : decode code 410 = .ok (.iconst 1, 1) := by decide +kernel
theorem d_law_411 : decode code 411 = .ok (.iadd, 1) := by decide +kernel
theorem d_law_412 : decode code 412 = .ok (.iaload, 1) := by decide +kernel
theorem d_law_413 : decode code 413 = .ok (.aload_n 0, 1) := by decide +kernel
theorem d_law_414 : decode code 414 = .ok (.iload 4, 2) := by decide +kernel
theorem d_law_416 : decode code 416 = .ok (.iconst 2, 1) := by decide +kernel
theorem d_law_417 : decode code 417 = .ok (.iadd, 1) := by decide +kernel
theorem d_law_418 : decode code 418 = .ok (.iaload, 1) := by decide +kernel
theorem d_law_419 : decode code 419 = .ok (.aload_n 0, 1) := by decide +kernel
theorem d_law_420 : decode code 420 = .ok (.iload 4, 2) := by decide +kernel
theorem d_law_422 : decode code 422 = .ok (.iconst 3, 1) := by decide +kernel
theorem d_law_423 : decode code 423 = .ok (.iadd, 1) := by decide +kernel
theorem d_law_424 : decode code 424 = .ok (.iaload, 1) := by decide +kernel
theorem d_law_425 : decode code 425 = .ok (.aload_n 3, 1) := by decide +kernel
theorem d_law_426 : decode code 426 = .ok (.invokestatic 86, 3) := by decide +kernel
theorem d_law_429 : decode code 429 = .ok (.istore 5, 2) := by decide +kernel
theorem d_law_431 : decode code 431 = .ok (.aload_n 2, 1) := by decide +kernel
theorem d_law_432 : decode code 432 = .ok (.aload_n 0, 1) := by decide +kernel
theorem d_law_433 : decode code 433 = .ok (.iload 4, 2) := by decide +kernel
theorem d_law_435 : decode code 435 = .ok (.iconst 1, 1) := by decide +kernel
theorem d_law_436 : decode code 436 = .ok (.iadd, 1) := by decide +kernel
theorem d_law_437 : decode code 437 = .ok (.iaload, 1) := by decide +kernel
theorem d_law_438 : decode code 438 = .ok (.aload_n 0, 1) := by decide +kernel
theorem d_law_439 : decode code 439 = .ok (.iload 4, 2) := by decide +kernel
theorem d_law_441 : decode code 441 = .ok (.iconst 2, 1) := by decide +kernel
theorem d_law_442 : decode code 442 = .ok (.iadd, 1) := by decide +kernel
theorem d_law_443 : decode code 443 = .ok (.iaload, 1) := by decide +kernel
theorem d_law_444 : decode code 444 = .ok (.aload_n 0, 1) := by decide +kernel
theorem d_law_445 : decode code 445 = .ok (.iload 4, 2) := by decide +kernel
theorem d_law_447 : decode code 447 = .ok (.iconst 3, 1) := by decide +kernel
theorem d_law_448 : decode code 448 = .ok (.iadd, 1) := by decide +kernel
theorem d_law_449 : decode code 449 = .ok (.iaload, 1) := by decide +kernel
theorem d_law_450 : decode code 450 = .ok (.invokevirtual 88, 3) := by decide +kernel
theorem d_law_453 : decode code 453 = .ok (.istore 6, 2) := by decide +kernel
theorem d_law_455 : decode code 455 = .ok (.aload_n 2, 1) := by decide +kernel
theorem d_law_456 : decode code 456 = .ok (.invokevirtual 74, 3) := by decide +kernel
theorem d_law_459 : decode code 459 = .ok (.iload 5, 2) := by decide +kernel
theorem d_law_461 : decode code 461 = .ok (.if_icmp .eq 5, 3) := by decide +kernel
theorem d_law_464 : decode code 464 = .ok (.iconst 0, 1) := by decide +kernel
theorem d_law_465 : decode code 465 = .ok (.ireturn, 1) := by decide +kernel
theorem d_law_466 : decode code 466 = .ok (.iload 5, 2) := by decide +kernel
theorem d_law_468 : decode code 468 = .ok (.ifCond .ne 22, 3) := by decide +kernel
theorem d_law_471 : decode code 471 = .ok (.aload_n 3, 1) := by decide +kernel
theorem d_law_472 : decode code 472 = .ok (.iconst 0, 1) := by decide +kernel
theorem d_law_473 : decode code 473 = .ok (.laload, 1) := by decide +kernel
theorem d_law_474 : decode code 474 = .ok (.iload 6, 2) := by decide +kernel
theorem d_law_476 : decode code 476 = .ok (.ifCond .eq 7, 3) := by decide +kernel
theorem d_law_479 : decode code 479 = .ok (.lconst 1, 1) := by decide +kernel
theorem d_law_480 : decode code 480 = .ok (.goto 4, 3) := by decide +kernel
theorem d_law_483 : decode code 483 = .ok (.lconst 0, 1) := by decide +kernel
theorem d_law_484 : decode code 484 = .ok (.lcmp, 1) := by decide +kernel
theorem d_law_485 : decode code 485 = .ok (.ifCond .eq 5, 3) := by decide +kernel
theorem d_law_488 : decode code 488 = .ok (.iconst 0, 1) := by decide +kernel
theorem d_law_489 : decode code 489 = .ok (.ireturn, 1) := by decide +kernel
theorem d_law_490 : decode code 490 = .ok (.goto 634, 3) := by decide +kernel
theorem d_law_493 : decode code 493 = .ok (.aload_n 1, 1) := by decide +kernel
theorem d_law_494 : decode code 494 = .ok (.aload_n 0, 1) := by decide +kernel
theorem d_law_495 : decode code 495 = .ok (.iload 4, 2) := by decide +kernel
theorem d_law_497 : decode code 497 = .ok (.iconst 1, 1) := by decide +kernel
theorem d_law_498 : decode code 498 = .ok (.iadd, 1) := by decide +kernel
theorem d_law_499 : decode code 499 = .ok (.iaload, 1) := by decide +kernel
theorem d_law_500 : decode code 500 = .ok (.aload_n 0, 1) := by decide +kernel
theorem d_law_501 : decode code 501 = .ok (.iload 4, 2) := by decide +kernel
theorem d_law_503 : decode code 503 = .ok (.iconst 2, 1) := by decide +kernel
theorem d_law_504 : decode code 504 = .ok (.iadd, 1) := by decide +kernel
theorem d_law_505 : decode code 505 = .ok (.iaload, 1) := by decide +kernel
theorem d_law_506 : decode code 506 = .ok (.aload_n 0, 1) := by decide +kernel
theorem d_law_507 : decode code 507 = .ok (.iload 4, 2) := by decide +kernel
theorem d_law_509 : decode code 509 = .ok (.iconst 3, 1) := by decide +kernel
theorem d_law_510 : decode code 510 = .ok (.iadd, 1) := by decide +kernel
theorem d_law_511 : decode code 511 = .ok (.iaload, 1) := by decide +kernel
theorem d_law_512 : decode code 512 = .ok (.aload_n 0, 1) := by decide +kernel
theorem d_law_513 : decode code 513 = .ok (.iload 4, 2) := by decide +kernel
theorem d_law_515 : decode code 515 = .ok (.iconst 4, 1) := by decide +kernel
theorem d_law_516 : decode code 516 = .ok (.iadd, 1) := by decide +kernel
theorem d_law_517 : decode code 517 = .ok (.iaload, 1) := by decide +kernel
theorem d_law_518 : decode code 518 = .ok (.invokestatic 89, 3) := by decide +kernel
theorem d_law_521 : decode code 521 = .ok (.istore 5, 2) := by decide +kernel
theorem d_law_523 : decode code 523 = .ok (.aload_n 2, 1) := by decide +kernel
theorem d_law_524 : decode code 524 = .ok (.aload_n 0, 1) := by decide +kernel
theorem d_law_525 : decode code 525 = .ok (.iload 4, 2) := by decide +kernel
theorem d_law_527 : decode code 527 = .ok (.iconst 1, 1) := by decide +kernel
theorem d_law_528 : decode code 528 = .ok (.iadd, 1) := by decide +kernel
theorem d_law_529 : decode code 529 = .ok (.iaload, 1) := by decide +kernel
theorem d_law_530 : decode code 530 = .ok (.aload_n 0, 1) := by decide +kernel
theorem d_law_531 : decode code 531 = .ok (.iload 4, 2) := by decide +kernel
theorem d_law_533 : decode code 533 = .ok (.iconst 2, 1) := by decide +kernel
theorem d_law_534 : decode code 534 = .ok (.iadd, 1) := by decide +kernel
theorem d_law_535 : decode code 535 = .ok (.iaload, 1) := by decide +kernel
theorem d_law_536 : decode code 536 = .ok (.aload_n 0, 1) := by decide +kernel
theorem d_law_537 : decode code 537 = .ok (.iload 4, 2) := by decide +kernel
theorem d_law_539 : decode code 539 = .ok (.iconst 3, 1) := by decide +kernel
theorem d_law_540 : decode code 540 = .ok (.iadd, 1) := by decide +kernel
theorem d_law_541 : decode code 541 = .ok (.iaload, 1) := by decide +kernel
theorem d_law_542 : decode code 542 = .ok (.aload_n 0, 1) := by decide +kernel
theorem d_law_543 : decode code 543 = .ok (.iload 4, 2) := by decide +kernel
theorem d_law_545 : decode code 545 = .ok (.iconst 4, 1) := by decide +kernel
theorem d_law_546 : decode code 546 = .ok (.iadd, 1) := by decide +kernel
theorem d_law_547 : decode code 547 = .ok (.iaload, 1) := by decide +kernel
theorem d_law_548 : decode code 548 = .ok (.invokevirtual 92, 3) := by decide +kernel
theorem d_law_551 : decode code 551 = .ok (.aload_n 2, 1) := by decide +kernel
theorem d_law_552 : decode code 552 = .ok (.invokevirtual 74, 3) := by decide +kernel
theorem d_law_555 : decode code 555 = .ok (.iload 5, 2) := by decide +kernel
theorem d_law_557 : decode code 557 = .ok (.if_icmp .eq 5, 3) := by decide +kernel
theorem d_law_560 : decode code 560 = .ok (.iconst 0, 1) := by decide +kernel
theorem d_law_561 : decode code 561 = .ok (.ireturn, 1) := by decide +kernel
theorem d_law_562 : decode code 562 = .ok (.goto 562, 3) := by decide +kernel
theorem d_law_565 : decode code 565 = .ok (.aload_n 1, 1) := by decide +kernel
theorem d_law_566 : decode code 566 = .ok (.aload_n 0, 1) := by decide +kernel
theorem d_law_567 : decode code 567 = .ok (.iload 4, 2) := by decide +kernel
theorem d_law_569 : decode code 569 = .ok (.iconst 1, 1) := by decide +kernel
theorem d_law_570 : decode code 570 = .ok (.iadd, 1) := by decide +kernel
theorem d_law_571 : decode code 571 = .ok (.iaload, 1) := by decide +kernel
theorem d_law_572 : decode code 572 = .ok (.aload_n 0, 1) := by decide +kernel
theorem d_law_573 : decode code 573 = .ok (.iload 4, 2) := by decide +kernel
theorem d_law_575 : decode code 575 = .ok (.iconst 2, 1) := by decide +kernel
theorem d_law_576 : decode code 576 = .ok (.iadd, 1) := by decide +kernel
theorem d_law_577 : decode code 577 = .ok (.iaload, 1) := by decide +kernel
theorem d_law_578 : decode code 578 = .ok (.aload_n 0, 1) := by decide +kernel
theorem d_law_579 : decode code 579 = .ok (.iload 4, 2) := by decide +kernel
theorem d_law_581 : decode code 581 = .ok (.iconst 3, 1) := by decide +kernel
theorem d_law_582 : decode code 582 = .ok (.iadd, 1) := by decide +kernel
theorem d_law_583 : decode code 583 = .ok (.iaload, 1) := by decide +kernel
theorem d_law_584 : decode code 584 = .ok (.aload_n 0, 1) := by decide +kernel
theorem d_law_585 : decode code 585 = .ok (.iload 4, 2) := by decide +kernel
theorem d_law_587 : decode code 587 = .ok (.iconst 4, 1) := by decide +kernel
theorem d_law_588 : decode code 588 = .ok (.iadd, 1) := by decide +kernel
theorem d_law_589 : decode code 589 = .ok (.iaload, 1) := by decide +kernel
theorem d_law_590 : decode code 590 = .ok (.invokestatic 93, 3) := by decide +kernel
theorem d_law_593 : decode code 593 = .ok (.istore 5, 2) := by decide +kernel
theorem d_law_595 : decode code 595 = .ok (.aload_n 2, 1) := by decide +kernel
theorem d_law_596 : decode code 596 = .ok (.aload_n 0, 1) := by decide +kernel
theorem d_law_597 : decode code 597 = .ok (.iload 4, 2) := by decide +kernel
theorem d_law_599 : decode code 599 = .ok (.iconst 1, 1) := by decide +kernel
theorem d_law_600 : decode code 600 = .ok (.iadd, 1) := by decide +kernel
theorem d_law_601 : decode code 601 = .ok (.iaload, 1) := by decide +kernel
theorem d_law_602 : decode code 602 = .ok (.aload_n 0, 1) := by decide +kernel
theorem d_law_603 : decode code 603 = .ok (.iload 4, 2) := by decide +kernel
theorem d_law_605 : decode code 605 = .ok (.iconst 2, 1) := by decide +kernel
theorem d_law_606 : decode code 606 = .ok (.iadd, 1) := by decide +kernel
theorem d_law_607 : decode code 607 = .ok (.iaload, 1) := by decide +kernel
theorem d_law_608 : decode code 608 = .ok (.aload_n 0, 1) := by decide +kernel
theorem d_law_609 : decode code 609 = .ok (.iload 4, 2) := by decide +kernel
theorem d_law_611 : decode code 611 = .ok (.iconst 3, 1) := by decide +kernel
theorem d_law_612 : decode code 612 = .ok (.iadd, 1) := by decide +kernel
theorem d_law_613 : decode code 613 = .ok (.iaload, 1) := by decide +kernel
theorem d_law_614 : decode code 614 = .ok (.aload_n 0, 1) := by decide +kernel
theorem d_law_615 : decode code 615 = .ok (.iload 4, 2) := by decide +kernel
theorem d_law_617 : decode code 617 = .ok (.iconst 4, 1) := by decide +kernel
theorem d_law_618 : decode code 618 = .ok (.iadd, 1) := by decide +kernel
theorem d_law_619 : decode code 619 = .ok (.iaload, 1) := by decide +kernel
theorem d_law_620 : decode code 620 = .ok (.invokevirtual 95, 3) := by decide +kernel
theorem d_law_623 : decode code 623 = .ok (.aload_n 2, 1) := by decide +kernel
theorem d_law_624 : decode code 624 = .ok (.invokevirtual 74, 3) := by decide +kernel
theorem d_law_627 : decode code 627 = .ok (.iload 5, 2) := by decide +kernel
theorem d_law_629 : decode code 629 = .ok (.if_icmp .eq 5, 3) := by decide +kernel
theorem d_law_632 : decode code 632 = .ok (.iconst 0, 1) := by decide +kernel
theorem d_law_633 : decode code 633 = .ok (.ireturn, 1) := by decide +kernel
theorem d_law_634 : decode code 634 = .ok (.goto 490, 3) := by decide +kernel
theorem d_law_637 : decode code 637 = .ok (.aload_n 1, 1) := by decide +kernel
theorem d_law_638 : decode code 638 = .ok (.aload_n 0, 1) := by decide +kernel
theorem d_law_639 : decode code 639 = .ok (.iload 4, 2) := by decide +kernel
theorem d_law_641 : decode code 641 = .ok (.iconst 1, 1) := by decide +kernel
theorem d_law_642 : decode code 642 = .ok (.iadd, 1) := by decide +kernel
theorem d_law_643 : decode code 643 = .ok (.iaload, 1) := by decide +kernel
theorem d_law_644 : decode code 644 = .ok (.aload_n 0, 1) := by decide +kernel
theorem d_law_645 : decode code 645 = .ok (.iload 4, 2) := by decide +kernel
theorem d_law_647 : decode code 647 = .ok (.iconst 2, 1) := by decide +kernel
theorem d_law_648 : decode code 648 = .ok (.iadd, 1) := by decide +kernel
theorem d_law_649 : decode code 649 = .ok (.iaload, 1) := by decide +kernel
theorem d_law_650 : decode code 650 = .ok (.aload_n 0, 1) := by decide +kernel
theorem d_law_651 : decode code 651 = .ok (.iload 4, 2) := by decide +kernel
theorem d_law_653 : decode code 653 = .ok (.iconst 3, 1) := by decide +kernel
theorem d_law_654 : decode code 654 = .ok (.iadd, 1) := by decide +kernel
theorem d_law_655 : decode code 655 = .ok (.iaload, 1) := by decide +kernel
theorem d_law_656 : decode code 656 = .ok (.invokestatic 96, 3) := by decide +kernel
theorem d_law_659 : decode code 659 = .ok (.istore 5, 2) := by decide +kernel
theorem d_law_661 : decode code 661 = .ok (.aload_n 2, 1) := by decide +kernel
theorem d_law_662 : decode code 662 = .ok (.aload_n 0, 1) := by decide +kernel
theorem d_law_663 : decode code 663 = .ok (.iload 4, 2) := by decide +kernel
theorem d_law_665 : decode code 665 = .ok (.iconst 1, 1) := by decide +kernel
theorem d_law_666 : decode code 666 = .ok (.iadd, 1) := by decide +kernel
theorem d_law_667 : decode code 667 = .ok (.iaload, 1) := by decide +kernel
theorem d_law_668 : decode code 668 = .ok (.aload_n 0, 1) := by decide +kernel
theorem d_law_669 : decode code 669 = .ok (.iload 4, 2) := by decide +kernel
theorem d_law_671 : decode code 671 = .ok (.iconst 2, 1) := by decide +kernel
theorem d_law_672 : decode code 672 = .ok (.iadd, 1) := by decide +kernel
theorem d_law_673 : decode code 673 = .ok (.iaload, 1) := by decide +kernel
theorem d_law_674 : decode code 674 = .ok (.aload_n 0, 1) := by decide +kernel
theorem d_law_675 : decode code 675 = .ok (.iload 4, 2) := by decide +kernel
theorem d_law_677 : decode code 677 = .ok (.iconst 3, 1) := by decide +kernel
theorem d_law_678 : decode code 678 = .ok (.iadd, 1) := by decide +kernel
theorem d_law_679 : decode code 679 = .ok (.iaload, 1) := by decide +kernel
theorem d_law_680 : decode code 680 = .ok (.invokevirtual 99, 3) := by decide +kernel
theorem d_law_683 : decode code 683 = .ok (.aload_n 2, 1) := by decide +kernel
theorem d_law_684 : decode code 684 = .ok (.invokevirtual 74, 3) := by decide +kernel
theorem d_law_687 : decode code 687 = .ok (.iload 5, 2) := by decide +kernel
theorem d_law_689 : decode code 689 = .ok (.if_icmp .eq 5, 3) := by decide +kernel
theorem d_law_692 : decode code 692 = .ok (.iconst 0, 1) := by decide +kernel
theorem d_law_693 : decode code 693 = .ok (.ireturn, 1) := by decide +kernel
theorem d_law_694 : decode code 694 = .ok (.goto 430, 3) := by decide +kernel
theorem d_law_697 : decode code 697 = .ok (.aload_n 1, 1) := by decide +kernel
theorem d_law_698 : decode code 698 = .ok (.aload_n 0, 1) := by decide +kernel
theorem d_law_699 : decode code 699 = .ok (.iload 4, 2) := by decide +kernel
theorem d_law_701 : decode code 701 = .ok (.iconst 1, 1) := by decide +kernel
theorem d_law_702 : decode code 702 = .ok (.iadd, 1) := by decide +kernel
theorem d_law_703 : decode code 703 = .ok (.iaload, 1) := by decide +kernel
theorem d_law_704 : decode code 704 = .ok (.aload_n 0, 1) := by decide +kernel
theorem d_law_705 : decode code 705 = .ok (.iload 4, 2) := by decide +kernel
theorem d_law_707 : decode code 707 = .ok (.iconst 2, 1) := by decide +kernel
theorem d_law_708 : decode code 708 = .ok (.iadd, 1) := by decide +kernel
theorem d_law_709 : decode code 709 = .ok (.iaload, 1) := by decide +kernel
theorem d_law_710 : decode code 710 = .ok (.aload_n 0, 1) := by decide +kernel
theorem d_law_711 : decode code 711 = .ok (.iload 4, 2) := by decide +kernel
theorem d_law_713 : decode code 713 = .ok (.iconst 3, 1) := by decide +kernel
theorem d_law_714 : decode code 714 = .ok (.iadd, 1) := by decide +kernel
theorem d_law_715 : decode code 715 = .ok (.iaload, 1) := by decide +kernel
theorem d_law_716 : decode code 716 = .ok (.aload_n 3, 1) := by decide +kernel
theorem d_law_717 : decode code 717 = .ok (.invokestatic 100, 3) := by decide +kernel
theorem d_law_720 : decode code 720 = .ok (.istore 5, 2) := by decide +kernel
theorem d_law_722 : decode code 722 = .ok (.aload_n 2, 1) := by decide +kernel
theorem d_law_723 : decode code 723 = .ok (.aload_n 0, 1) := by decide +kernel
theorem d_law_724 : decode code 724 = .ok (.iload 4, 2) := by decide +kernel
theorem d_law_726 : decode code 726 = .ok (.iconst 1, 1) := by decide +kernel
theorem d_law_727 : decode code 727 = .ok (.iadd, 1) := by decide +kernel
theorem d_law_728 : decode code 728 = .ok (.iaload, 1) := by decide +kernel
theorem d_law_729 : decode code 729 = .ok (.aload_n 0, 1) := by decide +kernel
theorem d_law_730 : decode code 730 = .ok (.iload 4, 2) := by decide +kernel
theorem d_law_732 : decode code 732 = .ok (.iconst 2, 1) := by decide +kernel
theorem d_law_733 : decode code 733 = .ok (.iadd, 1) := by decide +kernel
theorem d_law_734 : decode code 734 = .ok (.iaload, 1) := by decide +kernel
theorem d_law_735 : decode code 735 = .ok (.aload_n 0, 1) := by decide +kernel
theorem d_law_736 : decode code 736 = .ok (.iload 4, 2) := by decide +kernel
theorem d_law_738 : decode code 738 = .ok (.iconst 3, 1) := by decide +kernel
theorem d_law_739 : decode code 739 = .ok (.iadd, 1) := by decide +kernel
theorem d_law_740 : decode code 740 = .ok (.iaload, 1) := by decide +kernel
theorem d_law_741 : decode code 741 = .ok (.invokevirtual 102, 3) := by decide +kernel
theorem d_law_744 : decode code 744 = .ok (.istore 6, 2) := by decide +kernel
theorem d_law_746 : decode code 746 = .ok (.aload_n 2, 1) := by decide +kernel
theorem d_law_747 : decode code 747 = .ok (.invokevirtual 74, 3) := by decide +kernel
theorem d_law_750 : decode code 750 = .ok (.iload 5, 2) := by decide +kernel
theorem d_law_752 : decode code 752 = .ok (.if_icmp .eq 5, 3) := by decide +kernel
theorem d_law_755 : decode code 755 = .ok (.iconst 0, 1) := by decide +kernel
theorem d_law_756 : decode code 756 = .ok (.ireturn, 1) := by decide +kernel
theorem d_law_757 : decode code 757 = .ok (.iload 5, 2) := by decide +kernel
theorem d_law_759 : decode code 759 = .ok (.ifCond .ne 22, 3) := by decide +kernel
theorem d_law_762 : decode code 762 = .ok (.aload_n 3, 1) := by decide +kernel
theorem d_law_763 : decode code 763 = .ok (.iconst 0, 1) := by decide +kernel
theorem d_law_764 : decode code 764 = .ok (.laload, 1) := by decide +kernel
theorem d_law_765 : decode code 765 = .ok (.iload 6, 2) := by decide +kernel
theorem d_law_767 : decode code 767 = .ok (.ifCond .eq 7, 3) := by decide +kernel
theorem d_law_770 : decode code 770 = .ok (.lconst 1, 1) := by decide +kernel
theorem d_law_771 : decode code 771 = .ok (.goto 4, 3) := by decide +kernel
theorem d_law_774 : decode code 774 = .ok (.lconst 0, 1) := by decide +kernel
theorem d_law_775 : decode code 775 = .ok (.lcmp, 1) := by decide +kernel
theorem d_law_776 : decode code 776 = .ok (.ifCond .eq 5, 3) := by decide +kernel
theorem d_law_779 : decode code 779 = .ok (.iconst 0, 1) := by decide +kernel
theorem d_law_780 : decode code 780 = .ok (.ireturn, 1) := by decide +kernel
theorem d_law_781 : decode code 781 = .ok (.goto 343, 3) := by decide +kernel
theorem d_law_784 : decode code 784 = .ok (.aload_n 1, 1) := by decide +kernel
theorem d_law_785 : decode code 785 = .ok (.aload_n 0, 1) := by decide +kernel
theorem d_law_786 : decode code 786 = .ok (.iload 4, 2) := by decide +kernel
theorem d_law_788 : decode code 788 = .ok (.iconst 1, 1) := by decide +kernel
theorem d_law_789 : decode code 789 = .ok (.iadd, 1) := by decide +kernel
theorem d_law_790 : decode code 790 = .ok (.iaload, 1) := by decide +kernel
theorem d_law_791 : decode code 791 = .ok (.aload_n 0, 1) := by decide +kernel
theorem d_law_792 : decode code 792 = .ok (.iload 4, 2) := by decide +kernel
theorem d_law_794 : decode code 794 = .ok (.iconst 2, 1) := by decide +kernel
theorem d_law_795 : decode code 795 = .ok (.iadd, 1) := by decide +kernel
theorem d_law_796 : decode code 796 = .ok (.iaload, 1) := by decide +kernel
theorem d_law_797 : decode code 797 = .ok (.aload_n 0, 1) := by decide +kernel
theorem d_law_798 : decode code 798 = .ok (.iload 4, 2) := by decide +kernel
theorem d_law_800 : decode code 800 = .ok (.iconst 3, 1) := by decide +kernel
theorem d_law_801 : decode code 801 = .ok (.iadd, 1) := by decide +kernel
theorem d_law_802 : decode code 802 = .ok (.iaload, 1) := by decide +kernel
theorem d_law_803 : decode code 803 = .ok (.invokestatic 103, 3) := by decide +kernel
theorem d_law_806 : decode code 806 = .ok (.istore 5, 2) := by decide +kernel
theorem d_law_808 : decode code 808 = .ok (.aload_n 2, 1) := by decide +kernel
theorem d_law_809 : decode code 809 = .ok (.aload_n 0, 1) := by decide +kernel
theorem d_law_810 : decode code 810 = .ok (.iload 4, 2) := by decide +kernel
theorem d_law_812 : decode code 812 = .ok (.iconst 1, 1) := by decide +kernel
theorem d_law_813 : decode code 813 = .ok (.iadd, 1) := by decide +kernel
theorem d_law_814 : decode code 814 = .ok (.iaload, 1) := by decide +kernel
theorem d_law_815 : decode code 815 = .ok (.aload_n 0, 1) := by decide +kernel
theorem d_law_816 : decode code 816 = .ok (.iload 4, 2) := by decide +kernel
theorem d_law_818 : decode code 818 = .ok (.iconst 2, 1) := by decide +kernel
theorem d_law_819 : decode code 819 = .ok (.iadd, 1) := by decide +kernel
theorem d_law_820 : decode code 820 = .ok (.iaload, 1) := by decide +kernel
theorem d_law_821 : decode code 821 = .ok (.aload_n 0, 1) := by decide +kernel
theorem d_law_822 : decode code 822 = .ok (.iload 4, 2) := by decide +kernel
theorem d_law_824 : decode code 824 = .ok (.iconst 3, 1) := by decide +kernel
theorem d_law_825 : decode code 825 = .ok (.iadd, 1) := by decide +kernel
theorem d_law_826 : decode code 826 = .ok (.iaload, 1) := by decide +kernel
theorem d_law_827 : decode code 827 = .ok (.invokevirtual 105, 3) := by decide +kernel
theorem d_law_830 : decode code 830 = .ok (.aload_n 2, 1) := by decide +kernel
theorem d_law_831 : decode code 831 = .ok (.invokevirtual 74, 3) := by decide +kernel
theorem d_law_834 : decode code 834 = .ok (.iload 5, 2) := by decide +kernel
theorem d_law_836 : decode code 836 = .ok (.if_icmp .eq 5, 3) := by decide +kernel
theorem d_law_839 : decode code 839 = .ok (.iconst 0, 1) := by decide +kernel
theorem d_law_840 : decode code 840 = .ok (.ireturn, 1) := by decide +kernel
theorem d_law_841 : decode code 841 = .ok (.goto 283, 3) := by decide +kernel
theorem d_law_844 : decode code 844 = .ok (.aload_n 1, 1) := by decide +kernel
theorem d_law_845 : decode code 845 = .ok (.aload_n 0, 1) := by decide +kernel
theorem d_law_846 : decode code 846 = .ok (.iload 4, 2) := by decide +kernel
theorem d_law_848 : decode code 848 = .ok (.iconst 1, 1) := by decide +kernel
theorem d_law_849 : decode code 849 = .ok (.iadd, 1) := by decide +kernel
theorem d_law_850 : decode code 850 = .ok (.iaload, 1) := by decide +kernel
theorem d_law_851 : decode code 851 = .ok (.aload_n 3, 1) := by decide +kernel
theorem d_law_852 : decode code 852 = .ok (.invokestatic 106, 3) := by decide +kernel
theorem d_law_855 : decode code 855 = .ok (.istore 5, 2) := by decide +kernel
theorem d_law_857 : decode code 857 = .ok (.aload_n 2, 1) := by decide +kernel
theorem d_law_858 : decode code 858 = .ok (.aload_n 0, 1) := by decide +kernel
theorem d_law_859 : decode code 859 = .ok (.iload 4, 2) := by decide +kernel
theorem d_law_861 : decode code 861 = .ok (.iconst 1, 1) := by decide +kernel
theorem d_law_862 : decode code 862 = .ok (.iadd, 1) := by decide +kernel
theorem d_law_863 : decode code 863 = .ok (.iaload, 1) := by decide +kernel
theorem d_law_864 : decode code 864 = .ok (.invokevirtual 109, 3) := by decide +kernel
theorem d_law_867 : decode code 867 = .ok (.istore 6, 2) := by decide +kernel
theorem d_law_869 : decode code 869 = .ok (.aload_n 2, 1) := by decide +kernel
theorem d_law_870 : decode code 870 = .ok (.invokevirtual 74, 3) := by decide +kernel
theorem d_law_873 : decode code 873 = .ok (.iload 5, 2) := by decide +kernel
theorem d_law_875 : decode code 875 = .ok (.if_icmp .eq 5, 3) := by decide +kernel
theorem d_law_878 : decode code 878 = .ok (.iconst 0, 1) := by decide +kernel
theorem d_law_879 : decode code 879 = .ok (.ireturn, 1) := by decide +kernel
theorem d_law_880 : decode code 880 = .ok (.iload 5, 2) := by decide +kernel
theorem d_law_882 : decode code 882 = .ok (.ifCond .ne 15, 3) := by decide +kernel
theorem d_law_885 : decode code 885 = .ok (.aload_n 3, 1) := by decide +kernel
theorem d_law_886 : decode code 886 = .ok (.iconst 0, 1) := by decide +kernel
theorem d_law_887 : decode code 887 = .ok (.laload, 1) := by decide +kernel
theorem d_law_888 : decode code 888 = .ok (.iload 6, 2) := by decide +kernel
theorem d_law_890 : decode code 890 = .ok (.i2l, 1) := by decide +kernel
theorem d_law_891 : decode code 891 = .ok (.lcmp, 1) := by decide +kernel
theorem d_law_892 : decode code 892 = .ok (.ifCond .eq 5, 3) := by decide +kernel
theorem d_law_895 : decode code 895 = .ok (.iconst 0, 1) := by decide +kernel
theorem d_law_896 : decode code 896 = .ok (.ireturn, 1) := by decide +kernel
theorem d_law_897 : decode code 897 = .ok (.goto 227, 3) := by decide +kernel
theorem d_law_900 : decode code 900 = .ok (.aload_n 1, 1) := by decide +kernel
theorem d_law_901 : decode code 901 = .ok (.aload_n 0, 1) := by decide +kernel
theorem d_law_902 : decode code 902 = .ok (.iload 4, 2) := by decide +kernel
theorem d_law_904 : decode code 904 = .ok (.iconst 1, 1) := by decide +kernel
theorem d_law_905 : decode code 905 = .ok (.iadd, 1) := by decide +kernel
theorem d_law_906 : decode code 906 = .ok (.iaload, 1) := by decide +kernel
theorem d_law_907 : decode code 907 = .ok (.aload_n 0, 1) := by decide +kernel
theorem d_law_908 : decode code 908 = .ok (.iload 4, 2) := by decide +kernel
theorem d_law_910 : decode code 910 = .ok (.iconst 2, 1) := by decide +kernel
theorem d_law_911 : decode code 911 = .ok (.iadd, 1) := by decide +kernel
theorem d_law_912 : decode code 912 = .ok (.iaload, 1) := by decide +kernel
theorem d_law_913 : decode code 913 = .ok (.aload_n 3, 1) := by decide +kernel
theorem d_law_914 : decode code 914 = .ok (.invokestatic 110, 3) := by decide +kernel
theorem d_law_917 : decode code 917 = .ok (.istore 5, 2) := by decide +kernel
theorem d_law_919 : decode code 919 = .ok (.aload_n 2, 1) := by decide +kernel
theorem d_law_920 : decode code 920 = .ok (.aload_n 0, 1) := by decide +kernel
theorem d_law_921 : decode code 921 = .ok (.iload 4, 2) := by decide +kernel
theorem d_law_923 : decode code 923 = .ok (.iconst 1, 1) := by decide +kernel
theorem d_law_924 : decode code 924 = .ok (.iadd, 1) := by decide +kernel
theorem d_law_925 : decode code 925 = .ok (.iaload, 1) := by decide +kernel
theorem d_law_926 : decode code 926 = .ok (.aload_n 0, 1) := by decide +kernel
theorem d_law_927 : decode code 927 = .ok (.iload 4, 2) := by decide +kernel
theorem d_law_929 : decode code 929 = .ok (.iconst 2, 1) := by decide +kernel
theorem d_law_930 : decode code 930 = .ok (.iadd, 1) := by decide +kernel
theorem d_law_931 : decode code 931 = .ok (.iaload, 1) := by decide +kernel
theorem d_law_932 : decode code 932 = .ok (.invokevirtual 113, 3) := by decide +kernel
theorem d_law_935 : decode code 935 = .ok (.istore 6, 2) := by decide +kernel
theorem d_law_937 : decode code 937 = .ok (.aload_n 2, 1) := by decide +kernel
theorem d_law_938 : decode code 938 = .ok (.invokevirtual 74, 3) := by decide +kernel
theorem d_law_941 : decode code 941 = .ok (.iload 5, 2) := by decide +kernel
theorem d_law_943 : decode code 943 = .ok (.if_icmp .eq 5, 3) := by decide +kernel
theorem d_law_946 : decode code 946 = .ok (.iconst 0, 1) := by decide +kernel
theorem d_law_947 : decode code 947 = .ok (.ireturn, 1) := by decide +kernel
theorem d_law_948 : decode code 948 = .ok (.iload 5, 2) := by decide +kernel
theorem d_law_950 : decode code 950 = .ok (.ifCond .ne 15, 3) := by decide +kernel
theorem d_law_953 : decode code 953 = .ok (.aload_n 3, 1) := by decide +kernel
theorem d_law_954 : decode code 954 = .ok (.iconst 0, 1) := by decide +kernel
theorem d_law_955 : decode code 955 = .ok (.laload, 1) := by decide +kernel
theorem d_law_956 : decode code 956 = .ok (.iload 6, 2) := by decide +kernel
theorem d_law_958 : decode code 958 = .ok (.i2l, 1) := by decide +kernel
theorem d_law_959 : decode code 959 = .ok (.lcmp, 1) := by decide +kernel
theorem d_law_960 : decode code 960 = .ok (.ifCond .eq 5, 3) := by decide +kernel
theorem d_law_963 : decode code 963 = .ok (.iconst 0, 1) := by decide +kernel
theorem d_law_964 : decode code 964 = .ok (.ireturn, 1) := by decide +kernel
theorem d_law_965 : decode code 965 = .ok (.goto 159, 3) := by decide +kernel
theorem d_law_968 : decode code 968 = .ok (.aload_n 1, 1) := by decide +kernel
theorem d_law_969 : decode code 969 = .ok (.aload_n 0, 1) := by decide +kernel
theorem d_law_970 : decode code 970 = .ok (.iload 4, 2) := by decide +kernel
theorem d_law_972 : decode code 972 = .ok (.iconst 1, 1) := by decide +kernel
theorem d_law_973 : decode code 973 = .ok (.iadd, 1) := by decide +kernel
theorem d_law_974 : decode code 974 = .ok (.iaload, 1) := by decide +kernel
theorem d_law_975 : decode code 975 = .ok (.aload_n 3, 1) := by decide +kernel
theorem d_law_976 : decode code 976 = .ok (.invokestatic 114, 3) := by decide +kernel
theorem d_law_979 : decode code 979 = .ok (.istore 5, 2) := by decide +kernel
theorem d_law_981 : decode code 981 = .ok (.aload_n 2, 1) := by decide +kernel
theorem d_law_982 : decode code 982 = .ok (.aload_n 0, 1) := by decide +kernel
theorem d_law_983 : decode code 983 = .ok (.iload 4, 2) := by decide +kernel
theorem d_law_985 : decode code 985 = .ok (.iconst 1, 1) := by decide +kernel
theorem d_law_986 : decode code 986 = .ok (.iadd, 1) := by decide +kernel
theorem d_law_987 : decode code 987 = .ok (.iaload, 1) := by decide +kernel
theorem d_law_988 : decode code 988 = .ok (.invokevirtual 116, 3) := by decide +kernel
theorem d_law_991 : decode code 991 = .ok (.istore 6, 2) := by decide +kernel
theorem d_law_993 : decode code 993 = .ok (.aload_n 2, 1) := by decide +kernel
theorem d_law_994 : decode code 994 = .ok (.invokevirtual 74, 3) := by decide +kernel
theorem d_law_997 : decode code 997 = .ok (.iload 5, 2) := by decide +kernel
theorem d_law_999 : decode code 999 = .ok (.if_icmp .eq 5, 3) := by decide +kernel
theorem d_law_1002 : decode code 1002 = .ok (.iconst 0, 1) := by decide +kernel
theorem d_law_1003 : decode code 1003 = .ok (.ireturn, 1) := by decide +kernel
theorem d_law_1004 : decode code 1004 = .ok (.iload 5, 2) := by decide +kernel
theorem d_law_1006 : decode code 1006 = .ok (.ifCond .ne 15, 3) := by decide +kernel
theorem d_law_1009 : decode code 1009 = .ok (.aload_n 3, 1) := by decide +kernel
theorem d_law_1010 : decode code 1010 = .ok (.iconst 0, 1) := by decide +kernel
theorem d_law_1011 : decode code 1011 = .ok (.laload, 1) := by decide +kernel
theorem d_law_1012 : decode code 1012 = .ok (.iload 6, 2) := by decide +kernel
theorem d_law_1014 : decode code 1014 = .ok (.i2l, 1) := by decide +kernel
theorem d_law_1015 : decode code 1015 = .ok (.lcmp, 1) := by decide +kernel
theorem d_law_1016 : decode code 1016 = .ok (.ifCond .eq 5, 3) := by decide +kernel
theorem d_law_1019 : decode code 1019 = .ok (.iconst 0, 1) := by decide +kernel
theorem d_law_1020 : decode code 1020 = .ok (.ireturn, 1) := by decide +kernel
theorem d_law_1021 : decode code 1021 = .ok (.goto 103, 3) := by decide +kernel
theorem d_law_1024 : decode code 1024 = .ok (.aload_n 1, 1) := by decide +kernel
theorem d_law_1025 : decode code 1025 = .ok (.aload_n 0, 1) := by decide +kernel
theorem d_law_1026 : decode code 1026 = .ok (.iload 4, 2) := by decide +kernel
theorem d_law_1028 : decode code 1028 = .ok (.iconst 1, 1) := by decide +kernel
theorem d_law_1029 : decode code 1029 = .ok (.iadd, 1) := by decide +kernel
theorem d_law_1030 : decode code 1030 = .ok (.iaload, 1) := by decide +kernel
theorem d_law_1031 : decode code 1031 = .ok (.invokevirtual 117, 3) := by decide +kernel
theorem d_law_1034 : decode code 1034 = .ok (.aload_n 2, 1) := by decide +kernel
theorem d_law_1035 : decode code 1035 = .ok (.aload_n 0, 1) := by decide +kernel
theorem d_law_1036 : decode code 1036 = .ok (.iload 4, 2) := by decide +kernel
theorem d_law_1038 : decode code 1038 = .ok (.iconst 1, 1) := by decide +kernel
theorem d_law_1039 : decode code 1039 = .ok (.iadd, 1) := by decide +kernel
theorem d_law_1040 : decode code 1040 = .ok (.iaload, 1) := by decide +kernel
theorem d_law_1041 : decode code 1041 = .ok (.invokevirtual 120, 3) := by decide +kernel
theorem d_law_1044 : decode code 1044 = .ok (.if_icmp .eq 80, 3) := by decide +kernel
theorem d_law_1047 : decode code 1047 = .ok (.iconst 0, 1) := by decide +kernel
theorem d_law_1048 : decode code 1048 = .ok (.ireturn, 1) := by decide +kernel
theorem d_law_1049 : decode code 1049 = .ok (.aload_n 1, 1) := by decide +kernel
theorem d_law_1050 : decode code 1050 = .ok (.aload_n 0, 1) := by decide +kernel
theorem d_law_1051 : decode code 1051 = .ok (.iload 4, 2) := by decide +kernel
theorem d_law_1053 : decode code 1053 = .ok (.iconst 1, 1) := by decide +kernel
theorem d_law_1054 : decode code 1054 = .ok (.iadd, 1) := by decide +kernel
theorem d_law_1055 : decode code 1055 = .ok (.iaload, 1) := by decide +kernel
theorem d_law_1056 : decode code 1056 = .ok (.aload_n 0, 1) := by decide +kernel
theorem d_law_1057 : decode code 1057 = .ok (.iload 4, 2) := by decide +kernel
theorem d_law_1059 : decode code 1059 = .ok (.iconst 2, 1) := by decide +kernel
theorem d_law_1060 : decode code 1060 = .ok (.iadd, 1) := by decide +kernel
theorem d_law_1061 : decode code 1061 = .ok (.iaload, 1) := by decide +kernel
theorem d_law_1062 : decode code 1062 = .ok (.aload_n 3, 1) := by decide +kernel
theorem d_law_1063 : decode code 1063 = .ok (.invokestatic 121, 3) := by decide +kernel
theorem d_law_1066 : decode code 1066 = .ok (.istore 5, 2) := by decide +kernel
theorem d_law_1068 : decode code 1068 = .ok (.aload_n 2, 1) := by decide +kernel
theorem d_law_1069 : decode code 1069 = .ok (.aload_n 0, 1) := by decide +kernel
theorem d_law_1070 : decode code 1070 = .ok (.iload 4, 2) := by decide +kernel
theorem d_law_1072 : decode code 1072 = .ok (.iconst 1, 1) := by decide +kernel
theorem d_law_1073 : decode code 1073 = .ok (.iadd, 1) := by decide +kernel
theorem d_law_1074 : decode code 1074 = .ok (.iaload, 1) := by decide +kernel
theorem d_law_1075 : decode code 1075 = .ok (.aload_n 0, 1) := by decide +kernel
theorem d_law_1076 : decode code 1076 = .ok (.iload 4, 2) := by decide +kernel
theorem d_law_1078 : decode code 1078 = .ok (.iconst 2, 1) := by decide +kernel
theorem d_law_1079 : decode code 1079 = .ok (.iadd, 1) := by decide +kernel
theorem d_law_1080 : decode code 1080 = .ok (.iaload, 1) := by decide +kernel
theorem d_law_1081 : decode code 1081 = .ok (.invokevirtual 123, 3) := by decide +kernel
theorem d_law_1084 : decode code 1084 = .ok (.istore 6, 2) := by decide +kernel
theorem d_law_1086 : decode code 1086 = .ok (.aload_n 2, 1) := by decide +kernel
theorem d_law_1087 : decode code 1087 = .ok (.invokevirtual 74, 3) := by decide +kernel
theorem d_law_1090 : decode code 1090 = .ok (.iload 5, 2) := by decide +kernel
theorem d_law_1092 : decode code 1092 = .ok (.if_icmp .eq 5, 3) := by decide +kernel
theorem d_law_1095 : decode code 1095 = .ok (.iconst 0, 1) := by decide +kernel
theorem d_law_1096 : decode code 1096 = .ok (.ireturn, 1) := by decide +kernel
theorem d_law_1097 : decode code 1097 = .ok (.iload 5, 2) := by decide +kernel
theorem d_law_1099 : decode code 1099 = .ok (.ifCond .ne 22, 3) := by decide +kernel
theorem d_law_1102 : decode code 1102 = .ok (.aload_n 3, 1) := by decide +kernel
theorem d_law_1103 : decode code 1103 = .ok (.iconst 0, 1) := by decide +kernel
theorem d_law_1104 : decode code 1104 = .ok (.laload, 1) := by decide +kernel
theorem d_law_1105 : decode code 1105 = .ok (.iload 6, 2) := by decide +kernel
theorem d_law_1107 : decode code 1107 = .ok (.ifCond .eq 7, 3) := by decide +kernel
theorem d_law_1110 : decode code 1110 = .ok (.lconst 1, 1) := by decide +kernel
theorem d_law_1111 : decode code 1111 = .ok (.goto 4, 3) := by decide +kernel
theorem d_law_1114 : decode code 1114 = .ok (.lconst 0, 1) := by decide +kernel
theorem d_law_1115 : decode code 1115 = .ok (.lcmp, 1) := by decide +kernel
theorem d_law_1116 : decode code 1116 = .ok (.ifCond .eq 5, 3) := by decide +kernel
theorem d_law_1119 : decode code 1119 = .ok (.iconst 0, 1) := by decide +kernel
theorem d_law_1120 : decode code 1120 = .ok (.ireturn, 1) := by decide +kernel
theorem d_law_1121 : decode code 1121 = .ok (.goto 3, 3) := by decide +kernel
theorem d_law_1124 : decode code 1124 = .ok (.iinc 4 6, 3) := by decide +kernel
theorem d_law_1127 : decode code 1127 = .ok (.goto (-1104), 3) := by decide +kernel
theorem d_law_1130 : decode code 1130 = .ok (.iconst 1, 1) := by decide +kernel
theorem d_law_1131 : decode code 1131 = .ok (.ireturn, 1) := by decide +kernel
