/-! ===== 35: the law: the skeleton's names, its end, its calls (by wip/whole2/law35.py) ===== -/
/-! THE CLAIM OUT OF ONE WALK OF THE LAW'S BODY. Your part is whole_start (and what it stands on); all else here is the same for every law, but numbers. -/
def R_law : String := "TableTongueLaw"
def lw_P (b : Addr) (xs : List Int32) (args : Array Value) (s : State) : Prop := args = #[.ref b] ∧ s.IntsAt b xs ∧ xs.length ≤ 2048 ∧ (Jvm.Cond.and given_1 narrow_1).before args s = true
def lw_Q (_ : Array Value) (s : State) (o : Outcome) (t : State) : Prop := o = .returned (some (.int 1)) ∧ Framed s o t [] 601024 room_1.slots
def lw_Z (below : List Frame) (a : Array Value) (s : State) : State → Prop := fun t => ∃ o, t.status = .running ∧ Ended t below o ∧ lw_Q a s o t
/-- the law's own end, with 1 on the stack, nothing written that was there before, its room as the claim has it -/
theorem lw_ret {p : Program} {l : Launch} {e : Env} {s : State} {m : MethodId} {below : List Frame} {meth : Method} {c : Code} {b : Nat} (hx : p.tables.exec = Jvm.exec) (hb : c.code = code) (hr : meth.sig.returnType = ret) (hlocks : meth.locks = false) {pc : Nat} {H : Heap} {ls : Array Slot} (hdg : decode code pc = .ok (.ireturn, 1)) : W p l e room_1 s m #[Value.ref b] below meth c H [] 601024 room_1.slots (lw_Z below #[Value.ref b] s) (F0 m pc ls [.int 1]) := by
  intro T hT X
  obtain ⟨fs, hret, hrun, hended, hW, hframe⟩ := X.leave (v := some (.int 1)) (hlocks := hlocks) (fun h => by rw [hr] at h; cases h)
  have hmeth' : T.vm.method? m = some meth := X.method'
  refine ⟨T.setFrames fs, ?_, .returned (some (.int 1)), hrun, hended, rfl, ⟨_, rfl⟩, hW, hframe⟩
  jvm_step X.here [X.here.top, hx, hb, hdg, hmeth', hr, ret, narrow_b1]
  (try refine ⟨rfl, ?_⟩); (try refine ⟨rfl, ?_⟩)
  first | (intro acts; rw [hret _ acts rfl rfl rfl]) | rw [hret _ _ rfl rfl rfl]
  exact Steps.refl _
/-- what holds at the law's entry: the machine, the code, the tables' words (any of lw_tbl by 'hts w (by decide +kernel)'), the script of L ints xs at the cell b, what the Statement gives of the start (any of its parts by flat_of_before) -/
def lw_At (p : Program) (s : State) (m : MethodId) (meth : Method) (c : Code) (b L : Nat) (xs : Nat → Int32) : Prop :=
  p.tables.exec = Jvm.exec ∧ c.code = code ∧ meth.sig.returnType = ret ∧ c.maxLocals = 8 ∧ s.vm.findClass R_law = some m.cls ∧ (∀ w ∈ lw_tbl, w.before #[Value.ref b] s = true) ∧ va_X b L xs s s.heap ∧ b < s.heap.size ∧ meth.locks = false ∧ (Jvm.Cond.and given_1 narrow_1).before #[Value.ref b] s = true
theorem lwd_0 : decode code 0 = .ok (.new 8, 3) := by decide +kernel
theorem lwd_3 : decode code 3 = .ok (.dup, 1) := by decide +kernel
theorem lwd_4 : decode code 4 = .ok (.invokespecial 53, 3) := by decide +kernel
theorem lwd_7 : decode code 7 = .ok (.astore_n 1, 1) := by decide +kernel
theorem lwd_8 : decode code 8 = .ok (.new 54, 3) := by decide +kernel
theorem lwd_11 : decode code 11 = .ok (.dup, 1) := by decide +kernel
theorem lwd_12 : decode code 12 = .ok (.invokespecial 56, 3) := by decide +kernel
theorem lwd_15 : decode code 15 = .ok (.astore_n 2, 1) := by decide +kernel
theorem lwd_16 : decode code 16 = .ok (.iconst 1, 1) := by decide +kernel
theorem lwd_17 : decode code 17 = .ok (.newarray .long, 2) := by decide +kernel
theorem lwd_19 : decode code 19 = .ok (.astore_n 3, 1) := by decide +kernel
theorem lwd_20 : decode code 20 = .ok (.iconst 0, 1) := by decide +kernel
theorem lwd_21 : decode code 21 = .ok (.istore 4, 2) := by decide +kernel
theorem lwd_23 : decode code 23 = .ok (.iload 4, 2) := by decide +kernel
theorem lwd_25 : decode code 25 = .ok (.aload_n 0, 1) := by decide +kernel
theorem lwd_26 : decode code 26 = .ok (.arraylength, 1) := by decide +kernel
theorem lwd_27 : decode code 27 = .ok (.iconst 4, 1) := by decide +kernel
theorem lwd_28 : decode code 28 = .ok (.isub, 1) := by decide +kernel
theorem lwd_29 : decode code 29 = .ok (.if_icmp .gt 857, 3) := by decide +kernel
theorem lwd_32 : decode code 32 = .ok (.aload_n 0, 1) := by decide +kernel
theorem lwd_33 : decode code 33 = .ok (.iload 4, 2) := by decide +kernel
theorem lwd_35 : decode code 35 = .ok (.iaload, 1) := by decide +kernel
theorem lwd_36 : decode code 36 = .ok (.bipush 15, 2) := by decide +kernel
theorem lwd_38 : decode code 38 = .ok (.iand, 1) := by decide +kernel
theorem lwd_39 : decode code 39 = .ok (.tableswitch 841 0 15 #[77, 177, 190, 203, 259, 327, 351, 407, 421, 434, 501, 569, 582, 638, 694, 762], 77) := by decide +kernel
theorem lwd_116 : decode code 116 = .ok (.aload_n 1, 1) := by decide +kernel
theorem lwd_117 : decode code 117 = .ok (.aload_n 0, 1) := by decide +kernel
theorem lwd_118 : decode code 118 = .ok (.iload 4, 2) := by decide +kernel
theorem lwd_120 : decode code 120 = .ok (.iconst 1, 1) := by decide +kernel
theorem lwd_121 : decode code 121 = .ok (.iadd, 1) := by decide +kernel
theorem lwd_122 : decode code 122 = .ok (.iaload, 1) := by decide +kernel
theorem lwd_123 : decode code 123 = .ok (.aload_n 0, 1) := by decide +kernel
theorem lwd_124 : decode code 124 = .ok (.iload 4, 2) := by decide +kernel
theorem lwd_126 : decode code 126 = .ok (.iconst 2, 1) := by decide +kernel
theorem lwd_127 : decode code 127 = .ok (.iadd, 1) := by decide +kernel
theorem lwd_128 : decode code 128 = .ok (.iaload, 1) := by decide +kernel
theorem lwd_129 : decode code 129 = .ok (.i2l, 1) := by decide +kernel
theorem lwd_130 : decode code 130 = .ok (.bipush 32, 2) := by decide +kernel
theorem lwd_132 : decode code 132 = .ok (.lshl, 1) := by decide +kernel
theorem lwd_133 : decode code 133 = .ok (.aload_n 0, 1) := by decide +kernel
theorem lwd_134 : decode code 134 = .ok (.iload 4, 2) := by decide +kernel
theorem lwd_136 : decode code 136 = .ok (.iconst 3, 1) := by decide +kernel
theorem lwd_137 : decode code 137 = .ok (.iadd, 1) := by decide +kernel
theorem lwd_138 : decode code 138 = .ok (.iaload, 1) := by decide +kernel
theorem lwd_139 : decode code 139 = .ok (.i2l, 1) := by decide +kernel
theorem lwd_140 : decode code 140 = .ok (.ldc2_w 57, 3) := by decide +kernel
theorem lwd_143 : decode code 143 = .ok (.land, 1) := by decide +kernel
theorem lwd_144 : decode code 144 = .ok (.lor, 1) := by decide +kernel
theorem lwd_145 : decode code 145 = .ok (.aload_n 3, 1) := by decide +kernel
theorem lwd_146 : decode code 146 = .ok (.invokestatic 59, 3) := by decide +kernel
theorem lwd_149 : decode code 149 = .ok (.istore 5, 2) := by decide +kernel
theorem lwd_151 : decode code 151 = .ok (.aload_n 2, 1) := by decide +kernel
theorem lwd_152 : decode code 152 = .ok (.aload_n 0, 1) := by decide +kernel
theorem lwd_153 : decode code 153 = .ok (.iload 4, 2) := by decide +kernel
theorem lwd_155 : decode code 155 = .ok (.iconst 1, 1) := by decide +kernel
theorem lwd_156 : decode code 156 = .ok (.iadd, 1) := by decide +kernel
theorem lwd_157 : decode code 157 = .ok (.iaload, 1) := by decide +kernel
theorem lwd_158 : decode code 158 = .ok (.aload_n 0, 1) := by decide +kernel
theorem lwd_159 : decode code 159 = .ok (.iload 4, 2) := by decide +kernel
theorem lwd_161 : decode code 161 = .ok (.iconst 2, 1) := by decide +kernel
theorem lwd_162 : decode code 162 = .ok (.iadd, 1) := by decide +kernel
theorem lwd_163 : decode code 163 = .ok (.iaload, 1) := by decide +kernel
theorem lwd_164 : decode code 164 = .ok (.i2l, 1) := by decide +kernel
theorem lwd_165 : decode code 165 = .ok (.bipush 32, 2) := by decide +kernel
theorem lwd_167 : decode code 167 = .ok (.lshl, 1) := by decide +kernel
theorem lwd_168 : decode code 168 = .ok (.aload_n 0, 1) := by decide +kernel
theorem lwd_169 : decode code 169 = .ok (.iload 4, 2) := by decide +kernel
theorem lwd_171 : decode code 171 = .ok (.iconst 3, 1) := by decide +kernel
theorem lwd_172 : decode code 172 = .ok (.iadd, 1) := by decide +kernel
theorem lwd_173 : decode code 173 = .ok (.iaload, 1) := by decide +kernel
theorem lwd_174 : decode code 174 = .ok (.i2l, 1) := by decide +kernel
theorem lwd_175 : decode code 175 = .ok (.ldc2_w 57, 3) := by decide +kernel
theorem lwd_178 : decode code 178 = .ok (.land, 1) := by decide +kernel
theorem lwd_179 : decode code 179 = .ok (.lor, 1) := by decide +kernel
theorem lwd_180 : decode code 180 = .ok (.invokevirtual 64, 3) := by decide +kernel
theorem lwd_183 : decode code 183 = .ok (.istore 6, 2) := by decide +kernel
theorem lwd_185 : decode code 185 = .ok (.aload_n 2, 1) := by decide +kernel
theorem lwd_186 : decode code 186 = .ok (.invokevirtual 65, 3) := by decide +kernel
theorem lwd_189 : decode code 189 = .ok (.iload 5, 2) := by decide +kernel
theorem lwd_191 : decode code 191 = .ok (.if_icmp .eq 5, 3) := by decide +kernel
theorem lwd_194 : decode code 194 = .ok (.iconst 0, 1) := by decide +kernel
theorem lwd_195 : decode code 195 = .ok (.ireturn, 1) := by decide +kernel
theorem lwd_196 : decode code 196 = .ok (.iload 5, 2) := by decide +kernel
theorem lwd_198 : decode code 198 = .ok (.ifCond .ne 15, 3) := by decide +kernel
theorem lwd_201 : decode code 201 = .ok (.aload_n 3, 1) := by decide +kernel
theorem lwd_202 : decode code 202 = .ok (.iconst 0, 1) := by decide +kernel
theorem lwd_203 : decode code 203 = .ok (.laload, 1) := by decide +kernel
theorem lwd_204 : decode code 204 = .ok (.iload 6, 2) := by decide +kernel
theorem lwd_206 : decode code 206 = .ok (.i2l, 1) := by decide +kernel
theorem lwd_207 : decode code 207 = .ok (.lcmp, 1) := by decide +kernel
theorem lwd_208 : decode code 208 = .ok (.ifCond .eq 5, 3) := by decide +kernel
theorem lwd_211 : decode code 211 = .ok (.iconst 0, 1) := by decide +kernel
theorem lwd_212 : decode code 212 = .ok (.ireturn, 1) := by decide +kernel
theorem lwd_213 : decode code 213 = .ok (.goto 667, 3) := by decide +kernel
theorem lwd_216 : decode code 216 = .ok (.aload_n 1, 1) := by decide +kernel
theorem lwd_217 : decode code 217 = .ok (.invokevirtual 69, 3) := by decide +kernel
theorem lwd_220 : decode code 220 = .ok (.aload_n 2, 1) := by decide +kernel
theorem lwd_221 : decode code 221 = .ok (.invokevirtual 72, 3) := by decide +kernel
theorem lwd_224 : decode code 224 = .ok (.if_icmp .eq 656, 3) := by decide +kernel
theorem lwd_227 : decode code 227 = .ok (.iconst 0, 1) := by decide +kernel
theorem lwd_228 : decode code 228 = .ok (.ireturn, 1) := by decide +kernel
theorem lwd_229 : decode code 229 = .ok (.aload_n 1, 1) := by decide +kernel
theorem lwd_230 : decode code 230 = .ok (.invokevirtual 73, 3) := by decide +kernel
theorem lwd_233 : decode code 233 = .ok (.aload_n 2, 1) := by decide +kernel
theorem lwd_234 : decode code 234 = .ok (.invokevirtual 76, 3) := by decide +kernel
theorem lwd_237 : decode code 237 = .ok (.if_icmp .eq 643, 3) := by decide +kernel
theorem lwd_240 : decode code 240 = .ok (.iconst 0, 1) := by decide +kernel
theorem lwd_241 : decode code 241 = .ok (.ireturn, 1) := by decide +kernel
theorem lwd_242 : decode code 242 = .ok (.aload_n 1, 1) := by decide +kernel
theorem lwd_243 : decode code 243 = .ok (.aload_n 0, 1) := by decide +kernel
theorem lwd_244 : decode code 244 = .ok (.iload 4, 2) := by decide +kernel
theorem lwd_246 : decode code 246 = .ok (.iconst 1, 1) := by decide +kernel
theorem lwd_247 : decode code 247 = .ok (.iadd, 1) := by decide +kernel
theorem lwd_248 : decode code 248 = .ok (.iaload, 1) := by decide +kernel
theorem lwd_249 : decode code 249 = .ok (.aload_n 3, 1) := by decide +kernel
theorem lwd_250 : decode code 250 = .ok (.invokestatic 77, 3) := by decide +kernel
theorem lwd_253 : decode code 253 = .ok (.istore 5, 2) := by decide +kernel
theorem lwd_255 : decode code 255 = .ok (.aload_n 2, 1) := by decide +kernel
theorem lwd_256 : decode code 256 = .ok (.aload_n 0, 1) := by decide +kernel
theorem lwd_257 : decode code 257 = .ok (.iload 4, 2) := by decide +kernel
theorem lwd_259 : decode code 259 = .ok (.iconst 1, 1) := by decide +kernel
theorem lwd_260 : decode code 260 = .ok (.iadd, 1) := by decide +kernel
theorem lwd_261 : decode code 261 = .ok (.iaload, 1) := by decide +kernel
theorem lwd_262 : decode code 262 = .ok (.invokevirtual 80, 3) := by decide +kernel
theorem lwd_265 : decode code 265 = .ok (.istore 6, 2) := by decide +kernel
theorem lwd_267 : decode code 267 = .ok (.aload_n 2, 1) := by decide +kernel
theorem lwd_268 : decode code 268 = .ok (.invokevirtual 65, 3) := by decide +kernel
theorem lwd_271 : decode code 271 = .ok (.iload 5, 2) := by decide +kernel
theorem lwd_273 : decode code 273 = .ok (.if_icmp .eq 5, 3) := by decide +kernel
theorem lwd_276 : decode code 276 = .ok (.iconst 0, 1) := by decide +kernel
theorem lwd_277 : decode code 277 = .ok (.ireturn, 1) := by decide +kernel
theorem lwd_278 : decode code 278 = .ok (.iload 5, 2) := by decide +kernel
theorem lwd_280 : decode code 280 = .ok (.ifCond .ne 15, 3) := by decide +kernel
theorem lwd_283 : decode code 283 = .ok (.aload_n 3, 1) := by decide +kernel
theorem lwd_284 : decode code 284 = .ok (.iconst 0, 1) := by decide +kernel
theorem lwd_285 : decode code 285 = .ok (.laload, 1) := by decide +kernel
theorem lwd_286 : decode code 286 = .ok (.iload 6, 2) := by decide +kernel
theorem lwd_288 : decode code 288 = .ok (.i2l, 1) := by decide +kernel
theorem lwd_289 : decode code 289 = .ok (.lcmp, 1) := by decide +kernel
theorem lwd_290 : decode code 290 = .ok (.ifCond .eq 5, 3) := by decide +kernel
theorem lwd_293 : decode code 293 = .ok (.iconst 0, 1) := by decide +kernel
theorem lwd_294 : decode code 294 = .ok (.ireturn, 1) := by decide +kernel
theorem lwd_295 : decode code 295 = .ok (.goto 585, 3) := by decide +kernel
theorem lwd_298 : decode code 298 = .ok (.aload_n 1, 1) := by decide +kernel
theorem lwd_299 : decode code 299 = .ok (.aload_n 0, 1) := by decide +kernel
theorem lwd_300 : decode code 300 = .ok (.iload 4, 2) := by decide +kernel
theorem lwd_302 : decode code 302 = .ok (.iconst 1, 1) := by decide +kernel
theorem lwd_303 : decode code 303 = .ok (.iadd, 1) := by decide +kernel
theorem lwd_304 : decode code 304 = .ok (.iaload, 1) := by decide +kernel
theorem lwd_305 : decode code 305 = .ok (.aload_n 0, 1) := by decide +kernel
theorem lwd_306 : decode code 306 = .ok (.iload 4, 2) := by decide +kernel
theorem lwd_308 : decode code 308 = .ok (.iconst 2, 1) := by decide +kernel
theorem lwd_309 : decode code 309 = .ok (.iadd, 1) := by decide +kernel
theorem lwd_310 : decode code 310 = .ok (.iaload, 1) := by decide +kernel
theorem lwd_311 : decode code 311 = .ok (.aload_n 3, 1) := by decide +kernel
theorem lwd_312 : decode code 312 = .ok (.invokestatic 81, 3) := by decide +kernel
theorem lwd_315 : decode code 315 = .ok (.istore 5, 2) := by decide +kernel
theorem lwd_317 : decode code 317 = .ok (.aload_n 2, 1) := by decide +kernel
theorem lwd_318 : decode code 318 = .ok (.aload_n 0, 1) := by decide +kernel
theorem lwd_319 : decode code 319 = .ok (.iload 4, 2) := by decide +kernel
theorem lwd_321 : decode code 321 = .ok (.iconst 1, 1) := by decide +kernel
theorem lwd_322 : decode code 322 = .ok (.iadd, 1) := by decide +kernel
theorem lwd_323 : decode code 323 = .ok (.iaload, 1) := by decide +kernel
theorem lwd_324 : decode code 324 = .ok (.aload_n 0, 1) := by decide +kernel
theorem lwd_325 : decode code 325 = .ok (.iload 4, 2) := by decide +kernel
theorem lwd_327 : decode code 327 = .ok (.iconst 2, 1) := by decide +kernel
theorem lwd_328 : decode code 328 = .ok (.iadd, 1) := by decide +kernel
theorem lwd_329 : decode code 329 = .ok (.iaload, 1) := by decide +kernel
theorem lwd_330 : decode code 330 = .ok (.invokevirtual 84, 3) := by decide +kernel
theorem lwd_333 : decode code 333 = .ok (.istore 6, 2) := by decide +kernel
theorem lwd_335 : decode code 335 = .ok (.aload_n 2, 1) := by decide +kernel
theorem lwd_336 : decode code 336 = .ok (.invokevirtual 65, 3) := by decide +kernel
theorem lwd_339 : decode code 339 = .ok (.iload 5, 2) := by decide +kernel
theorem lwd_341 : decode code 341 = .ok (.if_icmp .eq 5, 3) := by decide +kernel
theorem lwd_344 : decode code 344 = .ok (.iconst 0, 1) := by decide +kernel
theorem lwd_345 : decode code 345 = .ok (.ireturn, 1) := by decide +kernel
theorem lwd_346 : decode code 346 = .ok (.iload 5, 2) := by decide +kernel
theorem lwd_348 : decode code 348 = .ok (.ifCond .ne 15, 3) := by decide +kernel
theorem lwd_351 : decode code 351 = .ok (.aload_n 3, 1) := by decide +kernel
theorem lwd_352 : decode code 352 = .ok (.iconst 0, 1) := by decide +kernel
theorem lwd_353 : decode code 353 = .ok (.laload, 1) := by decide +kernel
theorem lwd_354 : decode code 354 = .ok (.iload 6, 2) := by decide +kernel
theorem lwd_356 : decode code 356 = .ok (.i2l, 1) := by decide +kernel
theorem lwd_357 : decode code 357 = .ok (.lcmp, 1) := by decide +kernel
theorem lwd_358 : decode code 358 = .ok (.ifCond .eq 5, 3) := by decide +kernel
theorem lwd_361 : decode code 361 = .ok (.iconst 0, 1) := by decide +kernel
theorem lwd_362 : decode code 362 = .ok (.ireturn, 1) := by decide +kernel
theorem lwd_363 : decode code 363 = .ok (.goto 517, 3) := by decide +kernel
theorem lwd_366 : decode code 366 = .ok (.aload_n 1, 1) := by decide +kernel
theorem lwd_367 : decode code 367 = .ok (.invokestatic 85, 3) := by decide +kernel
theorem lwd_370 : decode code 370 = .ok (.istore 5, 2) := by decide +kernel
theorem lwd_372 : decode code 372 = .ok (.aload_n 2, 1) := by decide +kernel
theorem lwd_373 : decode code 373 = .ok (.invokevirtual 88, 3) := by decide +kernel
theorem lwd_376 : decode code 376 = .ok (.aload_n 2, 1) := by decide +kernel
theorem lwd_377 : decode code 377 = .ok (.invokevirtual 65, 3) := by decide +kernel
theorem lwd_380 : decode code 380 = .ok (.iload 5, 2) := by decide +kernel
theorem lwd_382 : decode code 382 = .ok (.if_icmp .eq 5, 3) := by decide +kernel
theorem lwd_385 : decode code 385 = .ok (.iconst 0, 1) := by decide +kernel
theorem lwd_386 : decode code 386 = .ok (.ireturn, 1) := by decide +kernel
theorem lwd_387 : decode code 387 = .ok (.goto 493, 3) := by decide +kernel
theorem lwd_390 : decode code 390 = .ok (.aload_n 1, 1) := by decide +kernel
theorem lwd_391 : decode code 391 = .ok (.aload_n 0, 1) := by decide +kernel
theorem lwd_392 : decode code 392 = .ok (.iload 4, 2) := by decide +kernel
theorem lwd_394 : decode code 394 = .ok (.iconst 1, 1) := by decide +kernel
theorem lwd_395 : decode code 395 = .ok (.iadd, 1) := by decide +kernel
theorem lwd_396 : decode code 396 = .ok (.iaload, 1) := by decide +kernel
theorem lwd_397 : decode code 397 = .ok (.aload_n 3, 1) := by decide +kernel
theorem lwd_398 : decode code 398 = .ok (.invokestatic 89, 3) := by decide +kernel
theorem lwd_401 : decode code 401 = .ok (.istore 5, 2) := by decide +kernel
theorem lwd_403 : decode code 403 = .ok (.aload_n 2, 1) := by decide +kernel
theorem lwd_404 : decode code 404 = .ok (.aload_n 0, 1) := by decide +kernel
theorem lwd_405 : decode code 405 = .ok (.iload 4, 2) := by decide +kernel
theorem lwd_407 : decode code 407 = .ok (.iconst 1, 1) := by decide +kernel
theorem lwd_408 : decode code 408 = .ok (.iadd, 1) := by decide +kernel
theorem lwd_409 : decode code 409 = .ok (.iaload, 1) := by decide +kernel
theorem lwd_410 : decode code 410 = .ok (.invokevirtual 91, 3) := by decide +kernel
theorem lwd_413 : decode code 413 = .ok (.istore 6, 2) := by decide +kernel
theorem lwd_415 : decode code 415 = .ok (.aload_n 2, 1) := by decide +kernel
theorem lwd_416 : decode code 416 = .ok (.invokevirtual 65, 3) := by decide +kernel
theorem lwd_419 : decode code 419 = .ok (.iload 5, 2) := by decide +kernel
theorem lwd_421 : decode code 421 = .ok (.if_icmp .eq 5, 3) := by decide +kernel
theorem lwd_424 : decode code 424 = .ok (.iconst 0, 1) := by decide +kernel
theorem lwd_425 : decode code 425 = .ok (.ireturn, 1) := by decide +kernel
theorem lwd_426 : decode code 426 = .ok (.iload 5, 2) := by decide +kernel
theorem lwd_428 : decode code 428 = .ok (.ifCond .ne 15, 3) := by decide +kernel
theorem lwd_431 : decode code 431 = .ok (.aload_n 3, 1) := by decide +kernel
theorem lwd_432 : decode code 432 = .ok (.iconst 0, 1) := by decide +kernel
theorem lwd_433 : decode code 433 = .ok (.laload, 1) := by decide +kernel
theorem lwd_434 : decode code 434 = .ok (.iload 6, 2) := by decide +kernel
theorem lwd_436 : decode code 436 = .ok (.i2l, 1) := by decide +kernel
theorem lwd_437 : decode code 437 = .ok (.lcmp, 1) := by decide +kernel
theorem lwd_438 : decode code 438 = .ok (.ifCond .eq 5, 3) := by decide +kernel
theorem lwd_441 : decode code 441 = .ok (.iconst 0, 1) := by decide +kernel
theorem lwd_442 : decode code 442 = .ok (.ireturn, 1) := by decide +kernel
theorem lwd_443 : decode code 443 = .ok (.goto 437, 3) := by decide +kernel
theorem lwd_446 : decode code 446 = .ok (.aload_n 1, 1) := by decide +kernel
theorem lwd_447 : decode code 447 = .ok (.invokevirtual 92, 3) := by decide +kernel
theorem lwd_450 : decode code 450 = .ok (.aload_n 2, 1) := by decide +kernel
theorem lwd_451 : decode code 451 = .ok (.invokevirtual 96, 3) := by decide +kernel
theorem lwd_454 : decode code 454 = .ok (.lcmp, 1) := by decide +kernel
theorem lwd_455 : decode code 455 = .ok (.ifCond .eq 425, 3) := by decide +kernel
theorem lwd_458 : decode code 458 = .ok (.iconst 0, 1) := by decide +kernel
theorem lwd_459 : decode code 459 = .ok (.ireturn, 1) := by decide +kernel
theorem lwd_460 : decode code 460 = .ok (.aload_n 1, 1) := by decide +kernel
theorem lwd_461 : decode code 461 = .ok (.invokevirtual 97, 3) := by decide +kernel
theorem lwd_464 : decode code 464 = .ok (.aload_n 2, 1) := by decide +kernel
theorem lwd_465 : decode code 465 = .ok (.invokevirtual 100, 3) := by decide +kernel
theorem lwd_468 : decode code 468 = .ok (.if_icmp .eq 412, 3) := by decide +kernel
theorem lwd_471 : decode code 471 = .ok (.iconst 0, 1) := by decide +kernel
theorem lwd_472 : decode code 472 = .ok (.ireturn, 1) := by decide +kernel
theorem lwd_473 : decode code 473 = .ok (.aload_n 1, 1) := by decide +kernel
theorem lwd_474 : decode code 474 = .ok (.aload_n 0, 1) := by decide +kernel
theorem lwd_475 : decode code 475 = .ok (.iload 4, 2) := by decide +kernel
theorem lwd_477 : decode code 477 = .ok (.iconst 1, 1) := by decide +kernel
theorem lwd_478 : decode code 478 = .ok (.iadd, 1) := by decide +kernel
theorem lwd_479 : decode code 479 = .ok (.iaload, 1) := by decide +kernel
theorem lwd_480 : decode code 480 = .ok (.aload_n 0, 1) := by decide +kernel
theorem lwd_481 : decode code 481 = .ok (.iload 4, 2) := by decide +kernel
theorem lwd_483 : decode code 483 = .ok (.iconst 2, 1) := by decide +kernel
theorem lwd_484 : decode code 484 = .ok (.iadd, 1) := by decide +kernel
theorem lwd_485 : decode code 485 = .ok (.iaload, 1) := by decide +kernel
theorem lwd_486 : decode code 486 = .ok (.aload_n 3, 1) := by decide +kernel
theorem lwd_487 : decode code 487 = .ok (.invokestatic 101, 3) := by decide +kernel
theorem lwd_490 : decode code 490 = .ok (.istore 5, 2) := by decide +kernel
theorem lwd_492 : decode code 492 = .ok (.aload_n 2, 1) := by decide +kernel
theorem lwd_493 : decode code 493 = .ok (.aload_n 0, 1) := by decide +kernel
theorem lwd_494 : decode code 494 = .ok (.iload 4, 2) := by decide +kernel
theorem lwd_496 : decode code 496 = .ok (.iconst 1, 1) := by decide +kernel
theorem lwd_497 : decode code 497 = .ok (.iadd, 1) := by decide +kernel
theorem lwd_498 : decode code 498 = .ok (.iaload, 1) := by decide +kernel
theorem lwd_499 : decode code 499 = .ok (.aload_n 0, 1) := by decide +kernel
theorem lwd_500 : decode code 500 = .ok (.iload 4, 2) := by decide +kernel
theorem lwd_502 : decode code 502 = .ok (.iconst 2, 1) := by decide +kernel
theorem lwd_503 : decode code 503 = .ok (.iadd, 1) := by decide +kernel
theorem lwd_504 : decode code 504 = .ok (.iaload, 1) := by decide +kernel
theorem lwd_505 : decode code 505 = .ok (.invokevirtual 103, 3) := by decide +kernel
theorem lwd_508 : decode code 508 = .ok (.lstore 6, 2) := by decide +kernel
theorem lwd_510 : decode code 510 = .ok (.aload_n 2, 1) := by decide +kernel
theorem lwd_511 : decode code 511 = .ok (.invokevirtual 65, 3) := by decide +kernel
theorem lwd_514 : decode code 514 = .ok (.iload 5, 2) := by decide +kernel
theorem lwd_516 : decode code 516 = .ok (.if_icmp .eq 5, 3) := by decide +kernel
theorem lwd_519 : decode code 519 = .ok (.iconst 0, 1) := by decide +kernel
theorem lwd_520 : decode code 520 = .ok (.ireturn, 1) := by decide +kernel
theorem lwd_521 : decode code 521 = .ok (.iload 5, 2) := by decide +kernel
theorem lwd_523 : decode code 523 = .ok (.ifCond .ne 14, 3) := by decide +kernel
theorem lwd_526 : decode code 526 = .ok (.aload_n 3, 1) := by decide +kernel
theorem lwd_527 : decode code 527 = .ok (.iconst 0, 1) := by decide +kernel
theorem lwd_528 : decode code 528 = .ok (.laload, 1) := by decide +kernel
theorem lwd_529 : decode code 529 = .ok (.lload 6, 2) := by decide +kernel
theorem lwd_531 : decode code 531 = .ok (.lcmp, 1) := by decide +kernel
theorem lwd_532 : decode code 532 = .ok (.ifCond .eq 5, 3) := by decide +kernel
theorem lwd_535 : decode code 535 = .ok (.iconst 0, 1) := by decide +kernel
theorem lwd_536 : decode code 536 = .ok (.ireturn, 1) := by decide +kernel
theorem lwd_537 : decode code 537 = .ok (.goto 343, 3) := by decide +kernel
theorem lwd_540 : decode code 540 = .ok (.aload_n 1, 1) := by decide +kernel
theorem lwd_541 : decode code 541 = .ok (.aload_n 0, 1) := by decide +kernel
theorem lwd_542 : decode code 542 = .ok (.iload 4, 2) := by decide +kernel
theorem lwd_544 : decode code 544 = .ok (.iconst 1, 1) := by decide +kernel
theorem lwd_545 : decode code 545 = .ok (.iadd, 1) := by decide +kernel
theorem lwd_546 : decode code 546 = .ok (.iaload, 1) := by decide +kernel
theorem lwd_547 : decode code 547 = .ok (.aload_n 0, 1) := by decide +kernel
theorem lwd_548 : decode code 548 = .ok (.iload 4, 2) := by decide +kernel
theorem lwd_550 : decode code 550 = .ok (.iconst 2, 1) := by decide +kernel
theorem lwd_551 : decode code 551 = .ok (.iadd, 1) := by decide +kernel
theorem lwd_552 : decode code 552 = .ok (.iaload, 1) := by decide +kernel
theorem lwd_553 : decode code 553 = .ok (.aload_n 3, 1) := by decide +kernel
theorem lwd_554 : decode code 554 = .ok (.invokestatic 104, 3) := by decide +kernel
theorem lwd_557 : decode code 557 = .ok (.istore 5, 2) := by decide +kernel
theorem lwd_559 : decode code 559 = .ok (.aload_n 2, 1) := by decide +kernel
theorem lwd_560 : decode code 560 = .ok (.aload_n 0, 1) := by decide +kernel
theorem lwd_561 : decode code 561 = .ok (.iload 4, 2) := by decide +kernel
theorem lwd_563 : decode code 563 = .ok (.iconst 1, 1) := by decide +kernel
theorem lwd_564 : decode code 564 = .ok (.iadd, 1) := by decide +kernel
theorem lwd_565 : decode code 565 = .ok (.iaload, 1) := by decide +kernel
theorem lwd_566 : decode code 566 = .ok (.aload_n 0, 1) := by decide +kernel
theorem lwd_567 : decode code 567 = .ok (.iload 4, 2) := by decide +kernel
theorem lwd_569 : decode code 569 = .ok (.iconst 2, 1) := by decide +kernel
theorem lwd_570 : decode code 570 = .ok (.iadd, 1) := by decide +kernel
theorem lwd_571 : decode code 571 = .ok (.iaload, 1) := by decide +kernel
theorem lwd_572 : decode code 572 = .ok (.invokevirtual 106, 3) := by decide +kernel
theorem lwd_575 : decode code 575 = .ok (.istore 6, 2) := by decide +kernel
theorem lwd_577 : decode code 577 = .ok (.aload_n 2, 1) := by decide +kernel
theorem lwd_578 : decode code 578 = .ok (.invokevirtual 65, 3) := by decide +kernel
theorem lwd_581 : decode code 581 = .ok (.iload 5, 2) := by decide +kernel
theorem lwd_583 : decode code 583 = .ok (.if_icmp .eq 5, 3) := by decide +kernel
theorem lwd_586 : decode code 586 = .ok (.iconst 0, 1) := by decide +kernel
theorem lwd_587 : decode code 587 = .ok (.ireturn, 1) := by decide +kernel
theorem lwd_588 : decode code 588 = .ok (.iload 5, 2) := by decide +kernel
theorem lwd_590 : decode code 590 = .ok (.ifCond .ne 15, 3) := by decide +kernel
theorem lwd_593 : decode code 593 = .ok (.aload_n 3, 1) := by decide +kernel
theorem lwd_594 : decode code 594 = .ok (.iconst 0, 1) := by decide +kernel
theorem lwd_595 : decode code 595 = .ok (.laload, 1) := by decide +kernel
theorem lwd_596 : decode code 596 = .ok (.iload 6, 2) := by decide +kernel
theorem lwd_598 : decode code 598 = .ok (.i2l, 1) := by decide +kernel
theorem lwd_599 : decode code 599 = .ok (.lcmp, 1) := by decide +kernel
theorem lwd_600 : decode code 600 = .ok (.ifCond .eq 5, 3) := by decide +kernel
theorem lwd_603 : decode code 603 = .ok (.iconst 0, 1) := by decide +kernel
theorem lwd_604 : decode code 604 = .ok (.ireturn, 1) := by decide +kernel
theorem lwd_605 : decode code 605 = .ok (.goto 275, 3) := by decide +kernel
theorem lwd_608 : decode code 608 = .ok (.aload_n 1, 1) := by decide +kernel
theorem lwd_609 : decode code 609 = .ok (.invokevirtual 107, 3) := by decide +kernel
theorem lwd_612 : decode code 612 = .ok (.aload_n 2, 1) := by decide +kernel
theorem lwd_613 : decode code 613 = .ok (.invokevirtual 110, 3) := by decide +kernel
theorem lwd_616 : decode code 616 = .ok (.if_icmp .eq 264, 3) := by decide +kernel
theorem lwd_619 : decode code 619 = .ok (.iconst 0, 1) := by decide +kernel
theorem lwd_620 : decode code 620 = .ok (.ireturn, 1) := by decide +kernel
theorem lwd_621 : decode code 621 = .ok (.aload_n 1, 1) := by decide +kernel
theorem lwd_622 : decode code 622 = .ok (.aload_n 0, 1) := by decide +kernel
theorem lwd_623 : decode code 623 = .ok (.iload 4, 2) := by decide +kernel
theorem lwd_625 : decode code 625 = .ok (.iconst 1, 1) := by decide +kernel
theorem lwd_626 : decode code 626 = .ok (.iadd, 1) := by decide +kernel
theorem lwd_627 : decode code 627 = .ok (.iaload, 1) := by decide +kernel
theorem lwd_628 : decode code 628 = .ok (.aload_n 3, 1) := by decide +kernel
theorem lwd_629 : decode code 629 = .ok (.invokestatic 111, 3) := by decide +kernel
theorem lwd_632 : decode code 632 = .ok (.istore 5, 2) := by decide +kernel
theorem lwd_634 : decode code 634 = .ok (.aload_n 2, 1) := by decide +kernel
theorem lwd_635 : decode code 635 = .ok (.aload_n 0, 1) := by decide +kernel
theorem lwd_636 : decode code 636 = .ok (.iload 4, 2) := by decide +kernel
theorem lwd_638 : decode code 638 = .ok (.iconst 1, 1) := by decide +kernel
theorem lwd_639 : decode code 639 = .ok (.iadd, 1) := by decide +kernel
theorem lwd_640 : decode code 640 = .ok (.iaload, 1) := by decide +kernel
theorem lwd_641 : decode code 641 = .ok (.invokevirtual 113, 3) := by decide +kernel
theorem lwd_644 : decode code 644 = .ok (.istore 6, 2) := by decide +kernel
theorem lwd_646 : decode code 646 = .ok (.aload_n 2, 1) := by decide +kernel
theorem lwd_647 : decode code 647 = .ok (.invokevirtual 65, 3) := by decide +kernel
theorem lwd_650 : decode code 650 = .ok (.iload 5, 2) := by decide +kernel
theorem lwd_652 : decode code 652 = .ok (.if_icmp .eq 5, 3) := by decide +kernel
theorem lwd_655 : decode code 655 = .ok (.iconst 0, 1) := by decide +kernel
theorem lwd_656 : decode code 656 = .ok (.ireturn, 1) := by decide +kernel
theorem lwd_657 : decode code 657 = .ok (.iload 5, 2) := by decide +kernel
theorem lwd_659 : decode code 659 = .ok (.ifCond .ne 15, 3) := by decide +kernel
theorem lwd_662 : decode code 662 = .ok (.aload_n 3, 1) := by decide +kernel
theorem lwd_663 : decode code 663 = .ok (.iconst 0, 1) := by decide +kernel
theorem lwd_664 : decode code 664 = .ok (.laload, 1) := by decide +kernel
theorem lwd_665 : decode code 665 = .ok (.iload 6, 2) := by decide +kernel
theorem lwd_667 : decode code 667 = .ok (.i2l, 1) := by decide +kernel
theorem lwd_668 : decode code 668 = .ok (.lcmp, 1) := by decide +kernel
theorem lwd_669 : decode code 669 = .ok (.ifCond .eq 5, 3) := by decide +kernel
theorem lwd_672 : decode code 672 = .ok (.iconst 0, 1) := by decide +kernel
theorem lwd_673 : decode code 673 = .ok (.ireturn, 1) := by decide +kernel
theorem lwd_674 : decode code 674 = .ok (.goto 206, 3) := by decide +kernel
theorem lwd_677 : decode code 677 = .ok (.aload_n 1, 1) := by decide +kernel
theorem lwd_678 : decode code 678 = .ok (.aload_n 0, 1) := by decide +kernel
theorem lwd_679 : decode code 679 = .ok (.iload 4, 2) := by decide +kernel
theorem lwd_681 : decode code 681 = .ok (.iconst 1, 1) := by decide +kernel
theorem lwd_682 : decode code 682 = .ok (.iadd, 1) := by decide +kernel
theorem lwd_683 : decode code 683 = .ok (.iaload, 1) := by decide +kernel
theorem lwd_684 : decode code 684 = .ok (.aload_n 3, 1) := by decide +kernel
theorem lwd_685 : decode code 685 = .ok (.invokestatic 114, 3) := by decide +kernel
theorem lwd_688 : decode code 688 = .ok (.istore 5, 2) := by decide +kernel
theorem lwd_690 : decode code 690 = .ok (.aload_n 2, 1) := by decide +kernel
theorem lwd_691 : decode code 691 = .ok (.aload_n 0, 1) := by decide +kernel
theorem lwd_692 : decode code 692 = .ok (.iload 4, 2) := by decide +kernel
theorem lwd_694 : decode code 694 = .ok (.iconst 1, 1) := by decide +kernel
theorem lwd_695 : decode code 695 = .ok (.iadd, 1) := by decide +kernel
theorem lwd_696 : decode code 696 = .ok (.iaload, 1) := by decide +kernel
theorem lwd_697 : decode code 697 = .ok (.invokevirtual 116, 3) := by decide +kernel
theorem lwd_700 : decode code 700 = .ok (.istore 6, 2) := by decide +kernel
theorem lwd_702 : decode code 702 = .ok (.aload_n 2, 1) := by decide +kernel
theorem lwd_703 : decode code 703 = .ok (.invokevirtual 65, 3) := by decide +kernel
theorem lwd_706 : decode code 706 = .ok (.iload 5, 2) := by decide +kernel
theorem lwd_708 : decode code 708 = .ok (.if_icmp .eq 5, 3) := by decide +kernel
theorem lwd_711 : decode code 711 = .ok (.iconst 0, 1) := by decide +kernel
theorem lwd_712 : decode code 712 = .ok (.ireturn, 1) := by decide +kernel
theorem lwd_713 : decode code 713 = .ok (.iload 5, 2) := by decide +kernel
theorem lwd_715 : decode code 715 = .ok (.ifCond .ne 15, 3) := by decide +kernel
theorem lwd_718 : decode code 718 = .ok (.aload_n 3, 1) := by decide +kernel
theorem lwd_719 : decode code 719 = .ok (.iconst 0, 1) := by decide +kernel
theorem lwd_720 : decode code 720 = .ok (.laload, 1) := by decide +kernel
theorem lwd_721 : decode code 721 = .ok (.iload 6, 2) := by decide +kernel
theorem lwd_723 : decode code 723 = .ok (.i2l, 1) := by decide +kernel
theorem lwd_724 : decode code 724 = .ok (.lcmp, 1) := by decide +kernel
theorem lwd_725 : decode code 725 = .ok (.ifCond .eq 5, 3) := by decide +kernel
theorem lwd_728 : decode code 728 = .ok (.iconst 0, 1) := by decide +kernel
theorem lwd_729 : decode code 729 = .ok (.ireturn, 1) := by decide +kernel
theorem lwd_730 : decode code 730 = .ok (.goto 150, 3) := by decide +kernel
theorem lwd_733 : decode code 733 = .ok (.aload_n 1, 1) := by decide +kernel
theorem lwd_734 : decode code 734 = .ok (.aload_n 0, 1) := by decide +kernel
theorem lwd_735 : decode code 735 = .ok (.iload 4, 2) := by decide +kernel
theorem lwd_737 : decode code 737 = .ok (.iconst 1, 1) := by decide +kernel
theorem lwd_738 : decode code 738 = .ok (.iadd, 1) := by decide +kernel
theorem lwd_739 : decode code 739 = .ok (.iaload, 1) := by decide +kernel
theorem lwd_740 : decode code 740 = .ok (.aload_n 0, 1) := by decide +kernel
theorem lwd_741 : decode code 741 = .ok (.iload 4, 2) := by decide +kernel
theorem lwd_743 : decode code 743 = .ok (.iconst 2, 1) := by decide +kernel
theorem lwd_744 : decode code 744 = .ok (.iadd, 1) := by decide +kernel
theorem lwd_745 : decode code 745 = .ok (.iaload, 1) := by decide +kernel
theorem lwd_746 : decode code 746 = .ok (.aload_n 3, 1) := by decide +kernel
theorem lwd_747 : decode code 747 = .ok (.invokestatic 117, 3) := by decide +kernel
theorem lwd_750 : decode code 750 = .ok (.istore 5, 2) := by decide +kernel
theorem lwd_752 : decode code 752 = .ok (.aload_n 2, 1) := by decide +kernel
theorem lwd_753 : decode code 753 = .ok (.aload_n 0, 1) := by decide +kernel
theorem lwd_754 : decode code 754 = .ok (.iload 4, 2) := by decide +kernel
theorem lwd_756 : decode code 756 = .ok (.iconst 1, 1) := by decide +kernel
theorem lwd_757 : decode code 757 = .ok (.iadd, 1) := by decide +kernel
theorem lwd_758 : decode code 758 = .ok (.iaload, 1) := by decide +kernel
theorem lwd_759 : decode code 759 = .ok (.aload_n 0, 1) := by decide +kernel
theorem lwd_760 : decode code 760 = .ok (.iload 4, 2) := by decide +kernel
theorem lwd_762 : decode code 762 = .ok (.iconst 2, 1) := by decide +kernel
theorem lwd_763 : decode code 763 = .ok (.iadd, 1) := by decide +kernel
theorem lwd_764 : decode code 764 = .ok (.iaload, 1) := by decide +kernel
theorem lwd_765 : decode code 765 = .ok (.invokevirtual 119, 3) := by decide +kernel
theorem lwd_768 : decode code 768 = .ok (.istore 6, 2) := by decide +kernel
theorem lwd_770 : decode code 770 = .ok (.aload_n 2, 1) := by decide +kernel
theorem lwd_771 : decode code 771 = .ok (.invokevirtual 65, 3) := by decide +kernel
theorem lwd_774 : decode code 774 = .ok (.iload 5, 2) := by decide +kernel
theorem lwd_776 : decode code 776 = .ok (.if_icmp .eq 5, 3) := by decide +kernel
theorem lwd_779 : decode code 779 = .ok (.iconst 0, 1) := by decide +kernel
theorem lwd_780 : decode code 780 = .ok (.ireturn, 1) := by decide +kernel
theorem lwd_781 : decode code 781 = .ok (.iload 5, 2) := by decide +kernel
theorem lwd_783 : decode code 783 = .ok (.ifCond .ne 15, 3) := by decide +kernel
theorem lwd_786 : decode code 786 = .ok (.aload_n 3, 1) := by decide +kernel
theorem lwd_787 : decode code 787 = .ok (.iconst 0, 1) := by decide +kernel
theorem lwd_788 : decode code 788 = .ok (.laload, 1) := by decide +kernel
theorem lwd_789 : decode code 789 = .ok (.iload 6, 2) := by decide +kernel
theorem lwd_791 : decode code 791 = .ok (.i2l, 1) := by decide +kernel
theorem lwd_792 : decode code 792 = .ok (.lcmp, 1) := by decide +kernel
theorem lwd_793 : decode code 793 = .ok (.ifCond .eq 5, 3) := by decide +kernel
theorem lwd_796 : decode code 796 = .ok (.iconst 0, 1) := by decide +kernel
theorem lwd_797 : decode code 797 = .ok (.ireturn, 1) := by decide +kernel
theorem lwd_798 : decode code 798 = .ok (.goto 82, 3) := by decide +kernel
theorem lwd_801 : decode code 801 = .ok (.aload_n 1, 1) := by decide +kernel
theorem lwd_802 : decode code 802 = .ok (.aload_n 0, 1) := by decide +kernel
theorem lwd_803 : decode code 803 = .ok (.iload 4, 2) := by decide +kernel
theorem lwd_805 : decode code 805 = .ok (.iconst 1, 1) := by decide +kernel
theorem lwd_806 : decode code 806 = .ok (.iadd, 1) := by decide +kernel
theorem lwd_807 : decode code 807 = .ok (.iaload, 1) := by decide +kernel
theorem lwd_808 : decode code 808 = .ok (.aload_n 0, 1) := by decide +kernel
theorem lwd_809 : decode code 809 = .ok (.iload 4, 2) := by decide +kernel
theorem lwd_811 : decode code 811 = .ok (.iconst 2, 1) := by decide +kernel
theorem lwd_812 : decode code 812 = .ok (.iadd, 1) := by decide +kernel
theorem lwd_813 : decode code 813 = .ok (.iaload, 1) := by decide +kernel
theorem lwd_814 : decode code 814 = .ok (.aload_n 0, 1) := by decide +kernel
theorem lwd_815 : decode code 815 = .ok (.iload 4, 2) := by decide +kernel
theorem lwd_817 : decode code 817 = .ok (.iconst 3, 1) := by decide +kernel
theorem lwd_818 : decode code 818 = .ok (.iadd, 1) := by decide +kernel
theorem lwd_819 : decode code 819 = .ok (.iaload, 1) := by decide +kernel
theorem lwd_820 : decode code 820 = .ok (.aload_n 3, 1) := by decide +kernel
theorem lwd_821 : decode code 821 = .ok (.invokestatic 120, 3) := by decide +kernel
theorem lwd_824 : decode code 824 = .ok (.istore 5, 2) := by decide +kernel
theorem lwd_826 : decode code 826 = .ok (.aload_n 2, 1) := by decide +kernel
theorem lwd_827 : decode code 827 = .ok (.aload_n 0, 1) := by decide +kernel
theorem lwd_828 : decode code 828 = .ok (.iload 4, 2) := by decide +kernel
theorem lwd_830 : decode code 830 = .ok (.iconst 1, 1) := by decide +kernel
theorem lwd_831 : decode code 831 = .ok (.iadd, 1) := by decide +kernel
theorem lwd_832 : decode code 832 = .ok (.iaload, 1) := by decide +kernel
theorem lwd_833 : decode code 833 = .ok (.aload_n 0, 1) := by decide +kernel
theorem lwd_834 : decode code 834 = .ok (.iload 4, 2) := by decide +kernel
theorem lwd_836 : decode code 836 = .ok (.iconst 2, 1) := by decide +kernel
theorem lwd_837 : decode code 837 = .ok (.iadd, 1) := by decide +kernel
theorem lwd_838 : decode code 838 = .ok (.iaload, 1) := by decide +kernel
theorem lwd_839 : decode code 839 = .ok (.aload_n 0, 1) := by decide +kernel
theorem lwd_840 : decode code 840 = .ok (.iload 4, 2) := by decide +kernel
theorem lwd_842 : decode code 842 = .ok (.iconst 3, 1) := by decide +kernel
theorem lwd_843 : decode code 843 = .ok (.iadd, 1) := by decide +kernel
theorem lwd_844 : decode code 844 = .ok (.iaload, 1) := by decide +kernel
theorem lwd_845 : decode code 845 = .ok (.invokevirtual 123, 3) := by decide +kernel
theorem lwd_848 : decode code 848 = .ok (.lstore 6, 2) := by decide +kernel
theorem lwd_850 : decode code 850 = .ok (.aload_n 2, 1) := by decide +kernel
theorem lwd_851 : decode code 851 = .ok (.invokevirtual 65, 3) := by decide +kernel
theorem lwd_854 : decode code 854 = .ok (.iload 5, 2) := by decide +kernel
theorem lwd_856 : decode code 856 = .ok (.if_icmp .eq 5, 3) := by decide +kernel
theorem lwd_859 : decode code 859 = .ok (.iconst 0, 1) := by decide +kernel
theorem lwd_860 : decode code 860 = .ok (.ireturn, 1) := by decide +kernel
theorem lwd_861 : decode code 861 = .ok (.iload 5, 2) := by decide +kernel
theorem lwd_863 : decode code 863 = .ok (.ifCond .ne 14, 3) := by decide +kernel
theorem lwd_866 : decode code 866 = .ok (.aload_n 3, 1) := by decide +kernel
theorem lwd_867 : decode code 867 = .ok (.iconst 0, 1) := by decide +kernel
theorem lwd_868 : decode code 868 = .ok (.laload, 1) := by decide +kernel
theorem lwd_869 : decode code 869 = .ok (.lload 6, 2) := by decide +kernel
theorem lwd_871 : decode code 871 = .ok (.lcmp, 1) := by decide +kernel
theorem lwd_872 : decode code 872 = .ok (.ifCond .eq 5, 3) := by decide +kernel
theorem lwd_875 : decode code 875 = .ok (.iconst 0, 1) := by decide +kernel
theorem lwd_876 : decode code 876 = .ok (.ireturn, 1) := by decide +kernel
theorem lwd_877 : decode code 877 = .ok (.goto 3, 3) := by decide +kernel
theorem lwd_880 : decode code 880 = .ok (.iinc 4 4, 3) := by decide +kernel
theorem lwd_883 : decode code 883 = .ok (.goto (-860), 3) := by decide +kernel
theorem lwd_886 : decode code 886 = .ok (.iconst 1, 1) := by decide +kernel
theorem lwd_887 : decode code 887 = .ok (.ireturn, 1) := by decide +kernel
theorem lw_GoodT {y : MethodName} {b : ByteArray} {n : Nat} {r : Option FieldType} (h : Jvm.Cond.code y b n r ∈ lw_tbl) (g : goodWord (Jvm.Cond.code y b n r) = true) : GoodIn lw_tbl (lw_w y b n r) := fun w hw => by
  rcases List.mem_cons.mp hw with rfl | hw
  · exact ⟨h, good_of_word g⟩
  · exact ⟨lw_Gt hw, good_of_word (lw_Gg hw)⟩
theorem lw_csw {R : Room} {s : State} {args : Array Value} {index maxL mc ms : Nat} {y : MethodName} {bytes : ByteArray} {ret : Option FieldType} {hh : List (Nat × Nat × Nat × Nat)} {rm : Room} (n : Nat) (hts : ∀ w ∈ lw_tbl, w.before args s = true) (w0 : Jvm.Cond.codeWith y bytes maxL ret hh ∈ lw_tbl) (g0 : goodWord (Jvm.Cond.codeWith y bytes maxL ret hh) = true) (w1 : Jvm.Cond.methodLink "TableTongueLaw" index y ∈ lw_tbl) (w2 : Jvm.Cond.static y ∈ lw_tbl) (w3 : Jvm.Cond.initialized y.cls ∈ lw_tbl) (hrc : rm.cells = mc) (hrs : rm.slots = ms)
    (hd : y.cls ≠ "java/lang/invoke/MethodHandle" ∧ y.cls ≠ "java/lang/invoke/VarHandle" ∧ (parseMethodDescriptor y.desc).map (fun d => d.parameters.length) = some n) (hR : rm.frames + 1 ≤ R.frames ∧ 8 + (maxL + 11) + rm.locals ≤ R.locals) :
    vx_CSW R s args "TableTongueLaw" index y bytes maxL ret hh (lw_wH y bytes maxL ret hh) rm mc ms n :=
  vx_cwSW n hts (fun w hw => by
    rcases List.mem_append.mp hw with hw | hw
    · rcases List.mem_cons.mp hw with rfl | hw
      · exact ⟨w1, good_of_word rfl⟩
      · rcases List.mem_cons.mp hw with rfl | hw
        · exact ⟨w2, good_of_word rfl⟩
        · rcases List.mem_cons.mp hw with rfl | hw
          · exact ⟨w3, good_of_word rfl⟩
          · cases hw
    · rcases List.mem_cons.mp hw with rfl | hw
      · exact ⟨w0, good_of_word g0⟩
      · exact ⟨lw_Gt hw, good_of_word (lw_Gg hw)⟩) rfl hrc hrs hd hR
