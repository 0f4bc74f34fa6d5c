/-! THE CLAIM OUT OF ONE WALK OF THE LAW'S BODY. Your part is whole_start (and what it stands on); all else here is the same for every law, but numbers. -/
def R_law : String := "StairPathsLaw"
def lw_P (b : Addr) (xs : List Int32) (args : Array Value) (s : State) : Prop := args = #[.ref b] ∧ s.IntsAt b xs ∧ xs.length ≤ 3072 ∧ (Jvm.Cond.and given_1 narrow_1).before args s = true
def lw_Q (_ : Array Value) (s : State) (o : Outcome) (t : State) : Prop := o = .returned (some (.int 1)) ∧ Framed s o t [] 600000 7302250
def lw_Z (below : List Frame) (a : Array Value) (s : State) : State → Prop := fun t => ∃ o, t.status = .running ∧ Ended t below o ∧ lw_Q a s o t
/-- the law's own end, with 1 on the stack, nothing written that was there before, its room as the claim has it -/
theorem lw_ret {p : Program} {l : Launch} {e : Env} {s : State} {m : MethodId} {below : List Frame} {meth : Method} {c : Code} {b : Nat} (hx : p.tables.exec = Jvm.exec) (hb : c.code = code) (hr : meth.sig.returnType = ret) (hlocks : meth.locks = false) {pc : Nat} {H : Heap} {ls : Array Slot} (hdg : decode code pc = .ok (.ireturn, 1)) : W p l e room_1 s m #[Value.ref b] below meth c H [] 600000 7302250 (lw_Z below #[Value.ref b] s) (F0 m pc ls [.int 1]) := by
  intro T hT X
  obtain ⟨fs, hret, hrun, hended, hW, hframe⟩ := X.leave (v := some (.int 1)) (hlocks := hlocks) (fun h => by rw [hr] at h; cases h)
  have hmeth' : T.vm.method? m = some meth := X.method'
  refine ⟨T.setFrames fs, ?_, .returned (some (.int 1)), hrun, hended, rfl, ⟨_, rfl⟩, hW, hframe⟩
  jvm_step X.here [X.here.top, hx, hb, hdg, hmeth', hr, ret, narrow_b1]
  (try refine ⟨rfl, ?_⟩); (try refine ⟨rfl, ?_⟩)
  first | (intro acts; rw [hret _ acts rfl rfl rfl]) | rw [hret _ _ rfl rfl rfl]
  exact Steps.refl _
/-- what holds at the law's entry: the machine, the code, the tables' words (any of lw_tbl by 'hts w (by decide +kernel)'), the script of L ints xs at the cell b, what the Statement gives of the start (any of its parts by flat_of_before) -/
def lw_At (p : Program) (s : State) (m : MethodId) (meth : Method) (c : Code) (b L : Nat) (xs : Nat → Int32) : Prop :=
  p.tables.exec = Jvm.exec ∧ c.code = code ∧ meth.sig.returnType = ret ∧ c.maxLocals = 4 ∧ s.vm.findClass R_law = some m.cls ∧ (∀ w ∈ lw_tbl, w.before #[Value.ref b] s = true) ∧ va_X b L xs s s.heap ∧ b < s.heap.size ∧ meth.locks = false ∧ (Jvm.Cond.and given_1 narrow_1).before #[Value.ref b] s = true
/-! the law, over the pure machine: .float 8 is its script -/
theorem dL_0 : D code 0 (.new 7) 3 3 := ⟨by decide +kernel, rfl⟩
theorem dL_3 : D code 3 (.dup) 1 4 := ⟨by decide +kernel, rfl⟩
theorem dL_4 : D code 4 (.invokespecial 9) 3 7 := ⟨by decide +kernel, rfl⟩
theorem dL_7 : D code 7 (.astore_n 1) 1 8 := ⟨by decide +kernel, rfl⟩
theorem dL_8 : D code 8 (.new 10) 3 11 := ⟨by decide +kernel, rfl⟩
theorem dL_11 : D code 11 (.dup) 1 12 := ⟨by decide +kernel, rfl⟩
theorem dL_12 : D code 12 (.invokespecial 12) 3 15 := ⟨by decide +kernel, rfl⟩
theorem dL_15 : D code 15 (.astore_n 2) 1 16 := ⟨by decide +kernel, rfl⟩
theorem dL_16 : D code 16 (.iconst 0) 1 17 := ⟨by decide +kernel, rfl⟩
theorem dL_17 : D code 17 (.istore_n 3) 1 18 := ⟨by decide +kernel, rfl⟩
theorem dL_18 : D code 18 (.iload_n 3) 1 19 := ⟨by decide +kernel, rfl⟩
theorem dL_19 : D code 19 (.aload_n 0) 1 20 := ⟨by decide +kernel, rfl⟩
theorem dL_20 : D code 20 (.arraylength) 1 21 := ⟨by decide +kernel, rfl⟩
theorem dL_21 : D code 21 (.bipush 6) 2 23 := ⟨by decide +kernel, rfl⟩
theorem dL_23 : D code 23 (.isub) 1 24 := ⟨by decide +kernel, rfl⟩
theorem dL_24 : D code 24 (.if_icmp .gt 1212) 3 27 := ⟨by decide +kernel, rfl⟩
theorem dL_27 : D code 27 (.aload_n 0) 1 28 := ⟨by decide +kernel, rfl⟩
theorem dL_28 : D code 28 (.iload_n 3) 1 29 := ⟨by decide +kernel, rfl⟩
theorem dL_29 : D code 29 (.iaload) 1 30 := ⟨by decide +kernel, rfl⟩
theorem dL_30 : D code 30 (.bipush 63) 2 32 := ⟨by decide +kernel, rfl⟩
theorem dL_32 : D code 32 (.iand) 1 33 := ⟨by decide +kernel, rfl⟩
theorem dL_33 : D code 33 (.tableswitch 1197 0 33 #[151, 174, 197, 220, 243, 266, 299, 322, 335, 358, 391, 424, 457, 490, 523, 546, 599, 653, 676, 709, 722, 766, 800, 833, 856, 889, 902, 935, 948, 961, 984, 1027, 1100, 1134]) 151 184 := ⟨by decide +kernel, rfl⟩
theorem dL_184 : D code 184 (.aload_n 1) 1 185 := ⟨by decide +kernel, rfl⟩
theorem dL_185 : D code 185 (.aload_n 0) 1 186 := ⟨by decide +kernel, rfl⟩
theorem dL_186 : D code 186 (.iload_n 3) 1 187 := ⟨by decide +kernel, rfl⟩
theorem dL_187 : D code 187 (.iconst 1) 1 188 := ⟨by decide +kernel, rfl⟩
theorem dL_188 : D code 188 (.iadd) 1 189 := ⟨by decide +kernel, rfl⟩
theorem dL_189 : D code 189 (.iaload) 1 190 := ⟨by decide +kernel, rfl⟩
theorem dL_190 : D code 190 (.invokevirtual 13) 3 193 := ⟨by decide +kernel, rfl⟩
theorem dL_193 : D code 193 (.aload_n 2) 1 194 := ⟨by decide +kernel, rfl⟩
theorem dL_194 : D code 194 (.aload_n 0) 1 195 := ⟨by decide +kernel, rfl⟩
theorem dL_195 : D code 195 (.iload_n 3) 1 196 := ⟨by decide +kernel, rfl⟩
theorem dL_196 : D code 196 (.iconst 1) 1 197 := ⟨by decide +kernel, rfl⟩
theorem dL_197 : D code 197 (.iadd) 1 198 := ⟨by decide +kernel, rfl⟩
theorem dL_198 : D code 198 (.iaload) 1 199 := ⟨by decide +kernel, rfl⟩
theorem dL_199 : D code 199 (.invokevirtual 17) 3 202 := ⟨by decide +kernel, rfl⟩
theorem dL_202 : D code 202 (.if_icmp .eq 1028) 3 205 := ⟨by decide +kernel, rfl⟩
theorem dL_205 : D code 205 (.iconst 0) 1 206 := ⟨by decide +kernel, rfl⟩
theorem dL_206 : D code 206 (.ireturn) 1 207 := ⟨by decide +kernel, rfl⟩
theorem dL_207 : D code 207 (.aload_n 1) 1 208 := ⟨by decide +kernel, rfl⟩
theorem dL_208 : D code 208 (.aload_n 0) 1 209 := ⟨by decide +kernel, rfl⟩
theorem dL_209 : D code 209 (.iload_n 3) 1 210 := ⟨by decide +kernel, rfl⟩
theorem dL_210 : D code 210 (.iconst 1) 1 211 := ⟨by decide +kernel, rfl⟩
theorem dL_211 : D code 211 (.iadd) 1 212 := ⟨by decide +kernel, rfl⟩
theorem dL_212 : D code 212 (.iaload) 1 213 := ⟨by decide +kernel, rfl⟩
theorem dL_213 : D code 213 (.invokevirtual 18) 3 216 := ⟨by decide +kernel, rfl⟩
theorem dL_216 : D code 216 (.aload_n 2) 1 217 := ⟨by decide +kernel, rfl⟩
theorem dL_217 : D code 217 (.aload_n 0) 1 218 := ⟨by decide +kernel, rfl⟩
theorem dL_218 : D code 218 (.iload_n 3) 1 219 := ⟨by decide +kernel, rfl⟩
theorem dL_219 : D code 219 (.iconst 1) 1 220 := ⟨by decide +kernel, rfl⟩
theorem dL_220 : D code 220 (.iadd) 1 221 := ⟨by decide +kernel, rfl⟩
theorem dL_221 : D code 221 (.iaload) 1 222 := ⟨by decide +kernel, rfl⟩
theorem dL_222 : D code 222 (.invokevirtual 21) 3 225 := ⟨by decide +kernel, rfl⟩
theorem dL_225 : D code 225 (.if_icmp .eq 1005) 3 228 := ⟨by decide +kernel, rfl⟩
theorem dL_228 : D code 228 (.iconst 0) 1 229 := ⟨by decide +kernel, rfl⟩
theorem dL_229 : D code 229 (.ireturn) 1 230 := ⟨by decide +kernel, rfl⟩
theorem dL_230 : D code 230 (.aload_n 1) 1 231 := ⟨by decide +kernel, rfl⟩
theorem dL_231 : D code 231 (.aload_n 0) 1 232 := ⟨by decide +kernel, rfl⟩
theorem dL_232 : D code 232 (.iload_n 3) 1 233 := ⟨by decide +kernel, rfl⟩
theorem dL_233 : D code 233 (.iconst 1) 1 234 := ⟨by decide +kernel, rfl⟩
theorem dL_234 : D code 234 (.iadd) 1 235 := ⟨by decide +kernel, rfl⟩
theorem dL_235 : D code 235 (.iaload) 1 236 := ⟨by decide +kernel, rfl⟩
theorem dL_236 : D code 236 (.invokevirtual 22) 3 239 := ⟨by decide +kernel, rfl⟩
theorem dL_239 : D code 239 (.aload_n 2) 1 240 := ⟨by decide +kernel, rfl⟩
theorem dL_240 : D code 240 (.aload_n 0) 1 241 := ⟨by decide +kernel, rfl⟩
theorem dL_241 : D code 241 (.iload_n 3) 1 242 := ⟨by decide +kernel, rfl⟩
theorem dL_242 : D code 242 (.iconst 1) 1 243 := ⟨by decide +kernel, rfl⟩
theorem dL_243 : D code 243 (.iadd) 1 244 := ⟨by decide +kernel, rfl⟩
theorem dL_244 : D code 244 (.iaload) 1 245 := ⟨by decide +kernel, rfl⟩
theorem dL_245 : D code 245 (.invokevirtual 25) 3 248 := ⟨by decide +kernel, rfl⟩
theorem dL_248 : D code 248 (.if_icmp .eq 982) 3 251 := ⟨by decide +kernel, rfl⟩
theorem dL_251 : D code 251 (.iconst 0) 1 252 := ⟨by decide +kernel, rfl⟩
theorem dL_252 : D code 252 (.ireturn) 1 253 := ⟨by decide +kernel, rfl⟩
theorem dL_253 : D code 253 (.aload_n 1) 1 254 := ⟨by decide +kernel, rfl⟩
theorem dL_254 : D code 254 (.aload_n 0) 1 255 := ⟨by decide +kernel, rfl⟩
theorem dL_255 : D code 255 (.iload_n 3) 1 256 := ⟨by decide +kernel, rfl⟩
theorem dL_256 : D code 256 (.iconst 1) 1 257 := ⟨by decide +kernel, rfl⟩
theorem dL_257 : D code 257 (.iadd) 1 258 := ⟨by decide +kernel, rfl⟩
theorem dL_258 : D code 258 (.iaload) 1 259 := ⟨by decide +kernel, rfl⟩
theorem dL_259 : D code 259 (.invokevirtual 26) 3 262 := ⟨by decide +kernel, rfl⟩
theorem dL_262 : D code 262 (.aload_n 2) 1 263 := ⟨by decide +kernel, rfl⟩
theorem dL_263 : D code 263 (.aload_n 0) 1 264 := ⟨by decide +kernel, rfl⟩
theorem dL_264 : D code 264 (.iload_n 3) 1 265 := ⟨by decide +kernel, rfl⟩
theorem dL_265 : D code 265 (.iconst 1) 1 266 := ⟨by decide +kernel, rfl⟩
theorem dL_266 : D code 266 (.iadd) 1 267 := ⟨by decide +kernel, rfl⟩
theorem dL_267 : D code 267 (.iaload) 1 268 := ⟨by decide +kernel, rfl⟩
theorem dL_268 : D code 268 (.invokevirtual 29) 3 271 := ⟨by decide +kernel, rfl⟩
theorem dL_271 : D code 271 (.if_icmp .eq 959) 3 274 := ⟨by decide +kernel, rfl⟩
theorem dL_274 : D code 274 (.iconst 0) 1 275 := ⟨by decide +kernel, rfl⟩
theorem dL_275 : D code 275 (.ireturn) 1 276 := ⟨by decide +kernel, rfl⟩
theorem dL_276 : D code 276 (.aload_n 1) 1 277 := ⟨by decide +kernel, rfl⟩
theorem dL_277 : D code 277 (.aload_n 0) 1 278 := ⟨by decide +kernel, rfl⟩
theorem dL_278 : D code 278 (.iload_n 3) 1 279 := ⟨by decide +kernel, rfl⟩
theorem dL_279 : D code 279 (.iconst 1) 1 280 := ⟨by decide +kernel, rfl⟩
theorem dL_280 : D code 280 (.iadd) 1 281 := ⟨by decide +kernel, rfl⟩
theorem dL_281 : D code 281 (.iaload) 1 282 := ⟨by decide +kernel, rfl⟩
theorem dL_282 : D code 282 (.invokevirtual 30) 3 285 := ⟨by decide +kernel, rfl⟩
theorem dL_285 : D code 285 (.aload_n 2) 1 286 := ⟨by decide +kernel, rfl⟩
theorem dL_286 : D code 286 (.aload_n 0) 1 287 := ⟨by decide +kernel, rfl⟩
theorem dL_287 : D code 287 (.iload_n 3) 1 288 := ⟨by decide +kernel, rfl⟩
theorem dL_288 : D code 288 (.iconst 1) 1 289 := ⟨by decide +kernel, rfl⟩
theorem dL_289 : D code 289 (.iadd) 1 290 := ⟨by decide +kernel, rfl⟩
theorem dL_290 : D code 290 (.iaload) 1 291 := ⟨by decide +kernel, rfl⟩
theorem dL_291 : D code 291 (.invokevirtual 33) 3 294 := ⟨by decide +kernel, rfl⟩
theorem dL_294 : D code 294 (.if_icmp .eq 936) 3 297 := ⟨by decide +kernel, rfl⟩
theorem dL_297 : D code 297 (.iconst 0) 1 298 := ⟨by decide +kernel, rfl⟩
theorem dL_298 : D code 298 (.ireturn) 1 299 := ⟨by decide +kernel, rfl⟩
theorem dL_299 : D code 299 (.aload_n 1) 1 300 := ⟨by decide +kernel, rfl⟩
theorem dL_300 : D code 300 (.aload_n 0) 1 301 := ⟨by decide +kernel, rfl⟩
theorem dL_301 : D code 301 (.iload_n 3) 1 302 := ⟨by decide +kernel, rfl⟩
theorem dL_302 : D code 302 (.iconst 1) 1 303 := ⟨by decide +kernel, rfl⟩
theorem dL_303 : D code 303 (.iadd) 1 304 := ⟨by decide +kernel, rfl⟩
theorem dL_304 : D code 304 (.iaload) 1 305 := ⟨by decide +kernel, rfl⟩
theorem dL_305 : D code 305 (.aload_n 0) 1 306 := ⟨by decide +kernel, rfl⟩
theorem dL_306 : D code 306 (.iload_n 3) 1 307 := ⟨by decide +kernel, rfl⟩
theorem dL_307 : D code 307 (.iconst 2) 1 308 := ⟨by decide +kernel, rfl⟩
theorem dL_308 : D code 308 (.iadd) 1 309 := ⟨by decide +kernel, rfl⟩
theorem dL_309 : D code 309 (.iaload) 1 310 := ⟨by decide +kernel, rfl⟩
theorem dL_310 : D code 310 (.invokevirtual 34) 3 313 := ⟨by decide +kernel, rfl⟩
theorem dL_313 : D code 313 (.aload_n 2) 1 314 := ⟨by decide +kernel, rfl⟩
theorem dL_314 : D code 314 (.aload_n 0) 1 315 := ⟨by decide +kernel, rfl⟩
theorem dL_315 : D code 315 (.iload_n 3) 1 316 := ⟨by decide +kernel, rfl⟩
theorem dL_316 : D code 316 (.iconst 1) 1 317 := ⟨by decide +kernel, rfl⟩
theorem dL_317 : D code 317 (.iadd) 1 318 := ⟨by decide +kernel, rfl⟩
theorem dL_318 : D code 318 (.iaload) 1 319 := ⟨by decide +kernel, rfl⟩
theorem dL_319 : D code 319 (.aload_n 0) 1 320 := ⟨by decide +kernel, rfl⟩
theorem dL_320 : D code 320 (.iload_n 3) 1 321 := ⟨by decide +kernel, rfl⟩
theorem dL_321 : D code 321 (.iconst 2) 1 322 := ⟨by decide +kernel, rfl⟩
theorem dL_322 : D code 322 (.iadd) 1 323 := ⟨by decide +kernel, rfl⟩
theorem dL_323 : D code 323 (.iaload) 1 324 := ⟨by decide +kernel, rfl⟩
theorem dL_324 : D code 324 (.invokevirtual 38) 3 327 := ⟨by decide +kernel, rfl⟩
theorem dL_327 : D code 327 (.if_icmp .eq 903) 3 330 := ⟨by decide +kernel, rfl⟩
theorem dL_330 : D code 330 (.iconst 0) 1 331 := ⟨by decide +kernel, rfl⟩
theorem dL_331 : D code 331 (.ireturn) 1 332 := ⟨by decide +kernel, rfl⟩
theorem dL_332 : D code 332 (.aload_n 1) 1 333 := ⟨by decide +kernel, rfl⟩
theorem dL_333 : D code 333 (.aload_n 0) 1 334 := ⟨by decide +kernel, rfl⟩
theorem dL_334 : D code 334 (.iload_n 3) 1 335 := ⟨by decide +kernel, rfl⟩
theorem dL_335 : D code 335 (.iconst 1) 1 336 := ⟨by decide +kernel, rfl⟩
theorem dL_336 : D code 336 (.iadd) 1 337 := ⟨by decide +kernel, rfl⟩
theorem dL_337 : D code 337 (.iaload) 1 338 := ⟨by decide +kernel, rfl⟩
theorem dL_338 : D code 338 (.invokevirtual 39) 3 341 := ⟨by decide +kernel, rfl⟩
theorem dL_341 : D code 341 (.aload_n 2) 1 342 := ⟨by decide +kernel, rfl⟩
theorem dL_342 : D code 342 (.aload_n 0) 1 343 := ⟨by decide +kernel, rfl⟩
theorem dL_343 : D code 343 (.iload_n 3) 1 344 := ⟨by decide +kernel, rfl⟩
theorem dL_344 : D code 344 (.iconst 1) 1 345 := ⟨by decide +kernel, rfl⟩
theorem dL_345 : D code 345 (.iadd) 1 346 := ⟨by decide +kernel, rfl⟩
theorem dL_346 : D code 346 (.iaload) 1 347 := ⟨by decide +kernel, rfl⟩
theorem dL_347 : D code 347 (.invokevirtual 42) 3 350 := ⟨by decide +kernel, rfl⟩
theorem dL_350 : D code 350 (.if_icmp .eq 880) 3 353 := ⟨by decide +kernel, rfl⟩
theorem dL_353 : D code 353 (.iconst 0) 1 354 := ⟨by decide +kernel, rfl⟩
theorem dL_354 : D code 354 (.ireturn) 1 355 := ⟨by decide +kernel, rfl⟩
theorem dL_355 : D code 355 (.aload_n 1) 1 356 := ⟨by decide +kernel, rfl⟩
theorem dL_356 : D code 356 (.invokevirtual 43) 3 359 := ⟨by decide +kernel, rfl⟩
theorem dL_359 : D code 359 (.aload_n 2) 1 360 := ⟨by decide +kernel, rfl⟩
theorem dL_360 : D code 360 (.invokevirtual 47) 3 363 := ⟨by decide +kernel, rfl⟩
theorem dL_363 : D code 363 (.if_icmp .eq 867) 3 366 := ⟨by decide +kernel, rfl⟩
theorem dL_366 : D code 366 (.iconst 0) 1 367 := ⟨by decide +kernel, rfl⟩
theorem dL_367 : D code 367 (.ireturn) 1 368 := ⟨by decide +kernel, rfl⟩
theorem dL_368 : D code 368 (.aload_n 1) 1 369 := ⟨by decide +kernel, rfl⟩
theorem dL_369 : D code 369 (.aload_n 0) 1 370 := ⟨by decide +kernel, rfl⟩
theorem dL_370 : D code 370 (.iload_n 3) 1 371 := ⟨by decide +kernel, rfl⟩
theorem dL_371 : D code 371 (.iconst 1) 1 372 := ⟨by decide +kernel, rfl⟩
theorem dL_372 : D code 372 (.iadd) 1 373 := ⟨by decide +kernel, rfl⟩
theorem dL_373 : D code 373 (.iaload) 1 374 := ⟨by decide +kernel, rfl⟩
theorem dL_374 : D code 374 (.invokevirtual 48) 3 377 := ⟨by decide +kernel, rfl⟩
theorem dL_377 : D code 377 (.aload_n 2) 1 378 := ⟨by decide +kernel, rfl⟩
theorem dL_378 : D code 378 (.aload_n 0) 1 379 := ⟨by decide +kernel, rfl⟩
theorem dL_379 : D code 379 (.iload_n 3) 1 380 := ⟨by decide +kernel, rfl⟩
theorem dL_380 : D code 380 (.iconst 1) 1 381 := ⟨by decide +kernel, rfl⟩
theorem dL_381 : D code 381 (.iadd) 1 382 := ⟨by decide +kernel, rfl⟩
theorem dL_382 : D code 382 (.iaload) 1 383 := ⟨by decide +kernel, rfl⟩
theorem dL_383 : D code 383 (.invokevirtual 51) 3 386 := ⟨by decide +kernel, rfl⟩
theorem dL_386 : D code 386 (.if_icmp .eq 844) 3 389 := ⟨by decide +kernel, rfl⟩
theorem dL_389 : D code 389 (.iconst 0) 1 390 := ⟨by decide +kernel, rfl⟩
theorem dL_390 : D code 390 (.ireturn) 1 391 := ⟨by decide +kernel, rfl⟩
theorem dL_391 : D code 391 (.aload_n 1) 1 392 := ⟨by decide +kernel, rfl⟩
theorem dL_392 : D code 392 (.aload_n 0) 1 393 := ⟨by decide +kernel, rfl⟩
theorem dL_393 : D code 393 (.iload_n 3) 1 394 := ⟨by decide +kernel, rfl⟩
theorem dL_394 : D code 394 (.iconst 1) 1 395 := ⟨by decide +kernel, rfl⟩
theorem dL_395 : D code 395 (.iadd) 1 396 := ⟨by decide +kernel, rfl⟩
theorem dL_396 : D code 396 (.iaload) 1 397 := ⟨by decide +kernel, rfl⟩
theorem dL_397 : D code 397 (.aload_n 0) 1 398 := ⟨by decide +kernel, rfl⟩
theorem dL_398 : D code 398 (.iload_n 3) 1 399 := ⟨by decide +kernel, rfl⟩
theorem dL_399 : D code 399 (.iconst 2) 1 400 := ⟨by decide +kernel, rfl⟩
theorem dL_400 : D code 400 (.iadd) 1 401 := ⟨by decide +kernel, rfl⟩
theorem dL_401 : D code 401 (.iaload) 1 402 := ⟨by decide +kernel, rfl⟩
theorem dL_402 : D code 402 (.invokevirtual 52) 3 405 := ⟨by decide +kernel, rfl⟩
theorem dL_405 : D code 405 (.aload_n 2) 1 406 := ⟨by decide +kernel, rfl⟩
theorem dL_406 : D code 406 (.aload_n 0) 1 407 := ⟨by decide +kernel, rfl⟩
theorem dL_407 : D code 407 (.iload_n 3) 1 408 := ⟨by decide +kernel, rfl⟩
theorem dL_408 : D code 408 (.iconst 1) 1 409 := ⟨by decide +kernel, rfl⟩
theorem dL_409 : D code 409 (.iadd) 1 410 := ⟨by decide +kernel, rfl⟩
theorem dL_410 : D code 410 (.iaload) 1 411 := ⟨by decide +kernel, rfl⟩
theorem dL_411 : D code 411 (.aload_n 0) 1 412 := ⟨by decide +kernel, rfl⟩
theorem dL_412 : D code 412 (.iload_n 3) 1 413 := ⟨by decide +kernel, rfl⟩
theorem dL_413 : D code 413 (.iconst 2) 1 414 := ⟨by decide +kernel, rfl⟩
theorem dL_414 : D code 414 (.iadd) 1 415 := ⟨by decide +kernel, rfl⟩
theorem dL_415 : D code 415 (.iaload) 1 416 := ⟨by decide +kernel, rfl⟩
theorem dL_416 : D code 416 (.invokevirtual 55) 3 419 := ⟨by decide +kernel, rfl⟩
theorem dL_419 : D code 419 (.if_icmp .eq 811) 3 422 := ⟨by decide +kernel, rfl⟩
theorem dL_422 : D code 422 (.iconst 0) 1 423 := ⟨by decide +kernel, rfl⟩
theorem dL_423 : D code 423 (.ireturn) 1 424 := ⟨by decide +kernel, rfl⟩
theorem dL_424 : D code 424 (.aload_n 1) 1 425 := ⟨by decide +kernel, rfl⟩
theorem dL_425 : D code 425 (.aload_n 0) 1 426 := ⟨by decide +kernel, rfl⟩
theorem dL_426 : D code 426 (.iload_n 3) 1 427 := ⟨by decide +kernel, rfl⟩
theorem dL_427 : D code 427 (.iconst 1) 1 428 := ⟨by decide +kernel, rfl⟩
theorem dL_428 : D code 428 (.iadd) 1 429 := ⟨by decide +kernel, rfl⟩
theorem dL_429 : D code 429 (.iaload) 1 430 := ⟨by decide +kernel, rfl⟩
theorem dL_430 : D code 430 (.aload_n 0) 1 431 := ⟨by decide +kernel, rfl⟩
theorem dL_431 : D code 431 (.iload_n 3) 1 432 := ⟨by decide +kernel, rfl⟩
theorem dL_432 : D code 432 (.iconst 2) 1 433 := ⟨by decide +kernel, rfl⟩
theorem dL_433 : D code 433 (.iadd) 1 434 := ⟨by decide +kernel, rfl⟩
theorem dL_434 : D code 434 (.iaload) 1 435 := ⟨by decide +kernel, rfl⟩
theorem dL_435 : D code 435 (.invokevirtual 56) 3 438 := ⟨by decide +kernel, rfl⟩
theorem dL_438 : D code 438 (.aload_n 2) 1 439 := ⟨by decide +kernel, rfl⟩
theorem dL_439 : D code 439 (.aload_n 0) 1 440 := ⟨by decide +kernel, rfl⟩
theorem dL_440 : D code 440 (.iload_n 3) 1 441 := ⟨by decide +kernel, rfl⟩
theorem dL_441 : D code 441 (.iconst 1) 1 442 := ⟨by decide +kernel, rfl⟩
theorem dL_442 : D code 442 (.iadd) 1 443 := ⟨by decide +kernel, rfl⟩
theorem dL_443 : D code 443 (.iaload) 1 444 := ⟨by decide +kernel, rfl⟩
theorem dL_444 : D code 444 (.aload_n 0) 1 445 := ⟨by decide +kernel, rfl⟩
theorem dL_445 : D code 445 (.iload_n 3) 1 446 := ⟨by decide +kernel, rfl⟩
theorem dL_446 : D code 446 (.iconst 2) 1 447 := ⟨by decide +kernel, rfl⟩
theorem dL_447 : D code 447 (.iadd) 1 448 := ⟨by decide +kernel, rfl⟩
theorem dL_448 : D code 448 (.iaload) 1 449 := ⟨by decide +kernel, rfl⟩
theorem dL_449 : D code 449 (.invokevirtual 59) 3 452 := ⟨by decide +kernel, rfl⟩
theorem dL_452 : D code 452 (.if_icmp .eq 778) 3 455 := ⟨by decide +kernel, rfl⟩
theorem dL_455 : D code 455 (.iconst 0) 1 456 := ⟨by decide +kernel, rfl⟩
theorem dL_456 : D code 456 (.ireturn) 1 457 := ⟨by decide +kernel, rfl⟩
theorem dL_457 : D code 457 (.aload_n 1) 1 458 := ⟨by decide +kernel, rfl⟩
theorem dL_458 : D code 458 (.aload_n 0) 1 459 := ⟨by decide +kernel, rfl⟩
theorem dL_459 : D code 459 (.iload_n 3) 1 460 := ⟨by decide +kernel, rfl⟩
theorem dL_460 : D code 460 (.iconst 1) 1 461 := ⟨by decide +kernel, rfl⟩
theorem dL_461 : D code 461 (.iadd) 1 462 := ⟨by decide +kernel, rfl⟩
theorem dL_462 : D code 462 (.iaload) 1 463 := ⟨by decide +kernel, rfl⟩
theorem dL_463 : D code 463 (.aload_n 0) 1 464 := ⟨by decide +kernel, rfl⟩
theorem dL_464 : D code 464 (.iload_n 3) 1 465 := ⟨by decide +kernel, rfl⟩
theorem dL_465 : D code 465 (.iconst 2) 1 466 := ⟨by decide +kernel, rfl⟩
theorem dL_466 : D code 466 (.iadd) 1 467 := ⟨by decide +kernel, rfl⟩
theorem dL_467 : D code 467 (.iaload) 1 468 := ⟨by decide +kernel, rfl⟩
theorem dL_468 : D code 468 (.invokevirtual 60) 3 471 := ⟨by decide +kernel, rfl⟩
theorem dL_471 : D code 471 (.aload_n 2) 1 472 := ⟨by decide +kernel, rfl⟩
theorem dL_472 : D code 472 (.aload_n 0) 1 473 := ⟨by decide +kernel, rfl⟩
theorem dL_473 : D code 473 (.iload_n 3) 1 474 := ⟨by decide +kernel, rfl⟩
theorem dL_474 : D code 474 (.iconst 1) 1 475 := ⟨by decide +kernel, rfl⟩
theorem dL_475 : D code 475 (.iadd) 1 476 := ⟨by decide +kernel, rfl⟩
theorem dL_476 : D code 476 (.iaload) 1 477 := ⟨by decide +kernel, rfl⟩
theorem dL_477 : D code 477 (.aload_n 0) 1 478 := ⟨by decide +kernel, rfl⟩
theorem dL_478 : D code 478 (.iload_n 3) 1 479 := ⟨by decide +kernel, rfl⟩
theorem dL_479 : D code 479 (.iconst 2) 1 480 := ⟨by decide +kernel, rfl⟩
theorem dL_480 : D code 480 (.iadd) 1 481 := ⟨by decide +kernel, rfl⟩
theorem dL_481 : D code 481 (.iaload) 1 482 := ⟨by decide +kernel, rfl⟩
theorem dL_482 : D code 482 (.invokevirtual 63) 3 485 := ⟨by decide +kernel, rfl⟩
theorem dL_485 : D code 485 (.if_icmp .eq 745) 3 488 := ⟨by decide +kernel, rfl⟩
theorem dL_488 : D code 488 (.iconst 0) 1 489 := ⟨by decide +kernel, rfl⟩
theorem dL_489 : D code 489 (.ireturn) 1 490 := ⟨by decide +kernel, rfl⟩
theorem dL_490 : D code 490 (.aload_n 1) 1 491 := ⟨by decide +kernel, rfl⟩
theorem dL_491 : D code 491 (.aload_n 0) 1 492 := ⟨by decide +kernel, rfl⟩
theorem dL_492 : D code 492 (.iload_n 3) 1 493 := ⟨by decide +kernel, rfl⟩
theorem dL_493 : D code 493 (.iconst 1) 1 494 := ⟨by decide +kernel, rfl⟩
theorem dL_494 : D code 494 (.iadd) 1 495 := ⟨by decide +kernel, rfl⟩
theorem dL_495 : D code 495 (.iaload) 1 496 := ⟨by decide +kernel, rfl⟩
theorem dL_496 : D code 496 (.aload_n 0) 1 497 := ⟨by decide +kernel, rfl⟩
theorem dL_497 : D code 497 (.iload_n 3) 1 498 := ⟨by decide +kernel, rfl⟩
theorem dL_498 : D code 498 (.iconst 2) 1 499 := ⟨by decide +kernel, rfl⟩
theorem dL_499 : D code 499 (.iadd) 1 500 := ⟨by decide +kernel, rfl⟩
theorem dL_500 : D code 500 (.iaload) 1 501 := ⟨by decide +kernel, rfl⟩
theorem dL_501 : D code 501 (.invokevirtual 64) 3 504 := ⟨by decide +kernel, rfl⟩
theorem dL_504 : D code 504 (.aload_n 2) 1 505 := ⟨by decide +kernel, rfl⟩
theorem dL_505 : D code 505 (.aload_n 0) 1 506 := ⟨by decide +kernel, rfl⟩
theorem dL_506 : D code 506 (.iload_n 3) 1 507 := ⟨by decide +kernel, rfl⟩
theorem dL_507 : D code 507 (.iconst 1) 1 508 := ⟨by decide +kernel, rfl⟩
theorem dL_508 : D code 508 (.iadd) 1 509 := ⟨by decide +kernel, rfl⟩
theorem dL_509 : D code 509 (.iaload) 1 510 := ⟨by decide +kernel, rfl⟩
theorem dL_510 : D code 510 (.aload_n 0) 1 511 := ⟨by decide +kernel, rfl⟩
theorem dL_511 : D code 511 (.iload_n 3) 1 512 := ⟨by decide +kernel, rfl⟩
theorem dL_512 : D code 512 (.iconst 2) 1 513 := ⟨by decide +kernel, rfl⟩
theorem dL_513 : D code 513 (.iadd) 1 514 := ⟨by decide +kernel, rfl⟩
theorem dL_514 : D code 514 (.iaload) 1 515 := ⟨by decide +kernel, rfl⟩
theorem dL_515 : D code 515 (.invokevirtual 67) 3 518 := ⟨by decide +kernel, rfl⟩
theorem dL_518 : D code 518 (.if_icmp .eq 712) 3 521 := ⟨by decide +kernel, rfl⟩
theorem dL_521 : D code 521 (.iconst 0) 1 522 := ⟨by decide +kernel, rfl⟩
theorem dL_522 : D code 522 (.ireturn) 1 523 := ⟨by decide +kernel, rfl⟩
theorem dL_523 : D code 523 (.aload_n 1) 1 524 := ⟨by decide +kernel, rfl⟩
theorem dL_524 : D code 524 (.aload_n 0) 1 525 := ⟨by decide +kernel, rfl⟩
theorem dL_525 : D code 525 (.iload_n 3) 1 526 := ⟨by decide +kernel, rfl⟩
theorem dL_526 : D code 526 (.iconst 1) 1 527 := ⟨by decide +kernel, rfl⟩
theorem dL_527 : D code 527 (.iadd) 1 528 := ⟨by decide +kernel, rfl⟩
theorem dL_528 : D code 528 (.iaload) 1 529 := ⟨by decide +kernel, rfl⟩
theorem dL_529 : D code 529 (.aload_n 0) 1 530 := ⟨by decide +kernel, rfl⟩
theorem dL_530 : D code 530 (.iload_n 3) 1 531 := ⟨by decide +kernel, rfl⟩
theorem dL_531 : D code 531 (.iconst 2) 1 532 := ⟨by decide +kernel, rfl⟩
theorem dL_532 : D code 532 (.iadd) 1 533 := ⟨by decide +kernel, rfl⟩
theorem dL_533 : D code 533 (.iaload) 1 534 := ⟨by decide +kernel, rfl⟩
theorem dL_534 : D code 534 (.invokevirtual 68) 3 537 := ⟨by decide +kernel, rfl⟩
theorem dL_537 : D code 537 (.aload_n 2) 1 538 := ⟨by decide +kernel, rfl⟩
theorem dL_538 : D code 538 (.aload_n 0) 1 539 := ⟨by decide +kernel, rfl⟩
theorem dL_539 : D code 539 (.iload_n 3) 1 540 := ⟨by decide +kernel, rfl⟩
theorem dL_540 : D code 540 (.iconst 1) 1 541 := ⟨by decide +kernel, rfl⟩
theorem dL_541 : D code 541 (.iadd) 1 542 := ⟨by decide +kernel, rfl⟩
theorem dL_542 : D code 542 (.iaload) 1 543 := ⟨by decide +kernel, rfl⟩
theorem dL_543 : D code 543 (.aload_n 0) 1 544 := ⟨by decide +kernel, rfl⟩
theorem dL_544 : D code 544 (.iload_n 3) 1 545 := ⟨by decide +kernel, rfl⟩
theorem dL_545 : D code 545 (.iconst 2) 1 546 := ⟨by decide +kernel, rfl⟩
theorem dL_546 : D code 546 (.iadd) 1 547 := ⟨by decide +kernel, rfl⟩
theorem dL_547 : D code 547 (.iaload) 1 548 := ⟨by decide +kernel, rfl⟩
theorem dL_548 : D code 548 (.invokevirtual 71) 3 551 := ⟨by decide +kernel, rfl⟩
theorem dL_551 : D code 551 (.if_icmp .eq 679) 3 554 := ⟨by decide +kernel, rfl⟩
theorem dL_554 : D code 554 (.iconst 0) 1 555 := ⟨by decide +kernel, rfl⟩
theorem dL_555 : D code 555 (.ireturn) 1 556 := ⟨by decide +kernel, rfl⟩
theorem dL_556 : D code 556 (.aload_n 1) 1 557 := ⟨by decide +kernel, rfl⟩
theorem dL_557 : D code 557 (.aload_n 0) 1 558 := ⟨by decide +kernel, rfl⟩
theorem dL_558 : D code 558 (.iload_n 3) 1 559 := ⟨by decide +kernel, rfl⟩
theorem dL_559 : D code 559 (.iconst 1) 1 560 := ⟨by decide +kernel, rfl⟩
theorem dL_560 : D code 560 (.iadd) 1 561 := ⟨by decide +kernel, rfl⟩
theorem dL_561 : D code 561 (.iaload) 1 562 := ⟨by decide +kernel, rfl⟩
theorem dL_562 : D code 562 (.invokevirtual 72) 3 565 := ⟨by decide +kernel, rfl⟩
theorem dL_565 : D code 565 (.aload_n 2) 1 566 := ⟨by decide +kernel, rfl⟩
theorem dL_566 : D code 566 (.aload_n 0) 1 567 := ⟨by decide +kernel, rfl⟩
theorem dL_567 : D code 567 (.iload_n 3) 1 568 := ⟨by decide +kernel, rfl⟩
theorem dL_568 : D code 568 (.iconst 1) 1 569 := ⟨by decide +kernel, rfl⟩
theorem dL_569 : D code 569 (.iadd) 1 570 := ⟨by decide +kernel, rfl⟩
theorem dL_570 : D code 570 (.iaload) 1 571 := ⟨by decide +kernel, rfl⟩
theorem dL_571 : D code 571 (.invokevirtual 75) 3 574 := ⟨by decide +kernel, rfl⟩
theorem dL_574 : D code 574 (.if_icmp .eq 656) 3 577 := ⟨by decide +kernel, rfl⟩
theorem dL_577 : D code 577 (.iconst 0) 1 578 := ⟨by decide +kernel, rfl⟩
theorem dL_578 : D code 578 (.ireturn) 1 579 := ⟨by decide +kernel, rfl⟩
theorem dL_579 : D code 579 (.aload_n 1) 1 580 := ⟨by decide +kernel, rfl⟩
theorem dL_580 : D code 580 (.aload_n 0) 1 581 := ⟨by decide +kernel, rfl⟩
theorem dL_581 : D code 581 (.iload_n 3) 1 582 := ⟨by decide +kernel, rfl⟩
theorem dL_582 : D code 582 (.iconst 1) 1 583 := ⟨by decide +kernel, rfl⟩
theorem dL_583 : D code 583 (.iadd) 1 584 := ⟨by decide +kernel, rfl⟩
theorem dL_584 : D code 584 (.iaload) 1 585 := ⟨by decide +kernel, rfl⟩
theorem dL_585 : D code 585 (.aload_n 0) 1 586 := ⟨by decide +kernel, rfl⟩
theorem dL_586 : D code 586 (.iload_n 3) 1 587 := ⟨by decide +kernel, rfl⟩
theorem dL_587 : D code 587 (.iconst 2) 1 588 := ⟨by decide +kernel, rfl⟩
theorem dL_588 : D code 588 (.iadd) 1 589 := ⟨by decide +kernel, rfl⟩
theorem dL_589 : D code 589 (.iaload) 1 590 := ⟨by decide +kernel, rfl⟩
theorem dL_590 : D code 590 (.aload_n 0) 1 591 := ⟨by decide +kernel, rfl⟩
theorem dL_591 : D code 591 (.iload_n 3) 1 592 := ⟨by decide +kernel, rfl⟩
theorem dL_592 : D code 592 (.iconst 3) 1 593 := ⟨by decide +kernel, rfl⟩
theorem dL_593 : D code 593 (.iadd) 1 594 := ⟨by decide +kernel, rfl⟩
theorem dL_594 : D code 594 (.iaload) 1 595 := ⟨by decide +kernel, rfl⟩
theorem dL_595 : D code 595 (.aload_n 0) 1 596 := ⟨by decide +kernel, rfl⟩
theorem dL_596 : D code 596 (.iload_n 3) 1 597 := ⟨by decide +kernel, rfl⟩
theorem dL_597 : D code 597 (.iconst 4) 1 598 := ⟨by decide +kernel, rfl⟩
theorem dL_598 : D code 598 (.iadd) 1 599 := ⟨by decide +kernel, rfl⟩
theorem dL_599 : D code 599 (.iaload) 1 600 := ⟨by decide +kernel, rfl⟩
theorem dL_600 : D code 600 (.invokevirtual 76) 3 603 := ⟨by decide +kernel, rfl⟩
theorem dL_603 : D code 603 (.aload_n 2) 1 604 := ⟨by decide +kernel, rfl⟩
theorem dL_604 : D code 604 (.aload_n 0) 1 605 := ⟨by decide +kernel, rfl⟩
theorem dL_605 : D code 605 (.iload_n 3) 1 606 := ⟨by decide +kernel, rfl⟩
theorem dL_606 : D code 606 (.iconst 1) 1 607 := ⟨by decide +kernel, rfl⟩
theorem dL_607 : D code 607 (.iadd) 1 608 := ⟨by decide +kernel, rfl⟩
theorem dL_608 : D code 608 (.iaload) 1 609 := ⟨by decide +kernel, rfl⟩
theorem dL_609 : D code 609 (.aload_n 0) 1 610 := ⟨by decide +kernel, rfl⟩
theorem dL_610 : D code 610 (.iload_n 3) 1 611 := ⟨by decide +kernel, rfl⟩
theorem dL_611 : D code 611 (.iconst 2) 1 612 := ⟨by decide +kernel, rfl⟩
theorem dL_612 : D code 612 (.iadd) 1 613 := ⟨by decide +kernel, rfl⟩
theorem dL_613 : D code 613 (.iaload) 1 614 := ⟨by decide +kernel, rfl⟩
theorem dL_614 : D code 614 (.aload_n 0) 1 615 := ⟨by decide +kernel, rfl⟩
theorem dL_615 : D code 615 (.iload_n 3) 1 616 := ⟨by decide +kernel, rfl⟩
theorem dL_616 : D code 616 (.iconst 3) 1 617 := ⟨by decide +kernel, rfl⟩
theorem dL_617 : D code 617 (.iadd) 1 618 := ⟨by decide +kernel, rfl⟩
theorem dL_618 : D code 618 (.iaload) 1 619 := ⟨by decide +kernel, rfl⟩
theorem dL_619 : D code 619 (.aload_n 0) 1 620 := ⟨by decide +kernel, rfl⟩
theorem dL_620 : D code 620 (.iload_n 3) 1 621 := ⟨by decide +kernel, rfl⟩
theorem dL_621 : D code 621 (.iconst 4) 1 622 := ⟨by decide +kernel, rfl⟩
theorem dL_622 : D code 622 (.iadd) 1 623 := ⟨by decide +kernel, rfl⟩
theorem dL_623 : D code 623 (.iaload) 1 624 := ⟨by decide +kernel, rfl⟩
theorem dL_624 : D code 624 (.invokevirtual 80) 3 627 := ⟨by decide +kernel, rfl⟩
theorem dL_627 : D code 627 (.if_icmp .eq 603) 3 630 := ⟨by decide +kernel, rfl⟩
theorem dL_630 : D code 630 (.iconst 0) 1 631 := ⟨by decide +kernel, rfl⟩
theorem dL_631 : D code 631 (.ireturn) 1 632 := ⟨by decide +kernel, rfl⟩
theorem dL_632 : D code 632 (.aload_n 1) 1 633 := ⟨by decide +kernel, rfl⟩
theorem dL_633 : D code 633 (.aload_n 0) 1 634 := ⟨by decide +kernel, rfl⟩
theorem dL_634 : D code 634 (.iload_n 3) 1 635 := ⟨by decide +kernel, rfl⟩
theorem dL_635 : D code 635 (.iconst 1) 1 636 := ⟨by decide +kernel, rfl⟩
theorem dL_636 : D code 636 (.iadd) 1 637 := ⟨by decide +kernel, rfl⟩
theorem dL_637 : D code 637 (.iaload) 1 638 := ⟨by decide +kernel, rfl⟩
theorem dL_638 : D code 638 (.aload_n 0) 1 639 := ⟨by decide +kernel, rfl⟩
theorem dL_639 : D code 639 (.iload_n 3) 1 640 := ⟨by decide +kernel, rfl⟩
theorem dL_640 : D code 640 (.iconst 2) 1 641 := ⟨by decide +kernel, rfl⟩
theorem dL_641 : D code 641 (.iadd) 1 642 := ⟨by decide +kernel, rfl⟩
theorem dL_642 : D code 642 (.iaload) 1 643 := ⟨by decide +kernel, rfl⟩
theorem dL_643 : D code 643 (.aload_n 0) 1 644 := ⟨by decide +kernel, rfl⟩
theorem dL_644 : D code 644 (.iload_n 3) 1 645 := ⟨by decide +kernel, rfl⟩
theorem dL_645 : D code 645 (.iconst 3) 1 646 := ⟨by decide +kernel, rfl⟩
theorem dL_646 : D code 646 (.iadd) 1 647 := ⟨by decide +kernel, rfl⟩
theorem dL_647 : D code 647 (.iaload) 1 648 := ⟨by decide +kernel, rfl⟩
theorem dL_648 : D code 648 (.aload_n 0) 1 649 := ⟨by decide +kernel, rfl⟩
theorem dL_649 : D code 649 (.iload_n 3) 1 650 := ⟨by decide +kernel, rfl⟩
theorem dL_650 : D code 650 (.iconst 4) 1 651 := ⟨by decide +kernel, rfl⟩
theorem dL_651 : D code 651 (.iadd) 1 652 := ⟨by decide +kernel, rfl⟩
theorem dL_652 : D code 652 (.iaload) 1 653 := ⟨by decide +kernel, rfl⟩
theorem dL_653 : D code 653 (.invokevirtual 81) 3 656 := ⟨by decide +kernel, rfl⟩
theorem dL_656 : D code 656 (.aload_n 2) 1 657 := ⟨by decide +kernel, rfl⟩
theorem dL_657 : D code 657 (.aload_n 0) 1 658 := ⟨by decide +kernel, rfl⟩
theorem dL_658 : D code 658 (.iload_n 3) 1 659 := ⟨by decide +kernel, rfl⟩
theorem dL_659 : D code 659 (.iconst 1) 1 660 := ⟨by decide +kernel, rfl⟩
theorem dL_660 : D code 660 (.iadd) 1 661 := ⟨by decide +kernel, rfl⟩
theorem dL_661 : D code 661 (.iaload) 1 662 := ⟨by decide +kernel, rfl⟩
theorem dL_662 : D code 662 (.aload_n 0) 1 663 := ⟨by decide +kernel, rfl⟩
theorem dL_663 : D code 663 (.iload_n 3) 1 664 := ⟨by decide +kernel, rfl⟩
theorem dL_664 : D code 664 (.iconst 2) 1 665 := ⟨by decide +kernel, rfl⟩
theorem dL_665 : D code 665 (.iadd) 1 666 := ⟨by decide +kernel, rfl⟩
theorem dL_666 : D code 666 (.iaload) 1 667 := ⟨by decide +kernel, rfl⟩
theorem dL_667 : D code 667 (.aload_n 0) 1 668 := ⟨by decide +kernel, rfl⟩
theorem dL_668 : D code 668 (.iload_n 3) 1 669 := ⟨by decide +kernel, rfl⟩
theorem dL_669 : D code 669 (.iconst 3) 1 670 := ⟨by decide +kernel, rfl⟩
theorem dL_670 : D code 670 (.iadd) 1 671 := ⟨by decide +kernel, rfl⟩
theorem dL_671 : D code 671 (.iaload) 1 672 := ⟨by decide +kernel, rfl⟩
theorem dL_672 : D code 672 (.aload_n 0) 1 673 := ⟨by decide +kernel, rfl⟩
theorem dL_673 : D code 673 (.iload_n 3) 1 674 := ⟨by decide +kernel, rfl⟩
theorem dL_674 : D code 674 (.iconst 4) 1 675 := ⟨by decide +kernel, rfl⟩
theorem dL_675 : D code 675 (.iadd) 1 676 := ⟨by decide +kernel, rfl⟩
theorem dL_676 : D code 676 (.iaload) 1 677 := ⟨by decide +kernel, rfl⟩
theorem dL_677 : D code 677 (.invokevirtual 85) 3 680 := ⟨by decide +kernel, rfl⟩
theorem dL_680 : D code 680 (.lcmp) 1 681 := ⟨by decide +kernel, rfl⟩
theorem dL_681 : D code 681 (.ifCond .eq 549) 3 684 := ⟨by decide +kernel, rfl⟩
theorem dL_684 : D code 684 (.iconst 0) 1 685 := ⟨by decide +kernel, rfl⟩
theorem dL_685 : D code 685 (.ireturn) 1 686 := ⟨by decide +kernel, rfl⟩
theorem dL_686 : D code 686 (.aload_n 1) 1 687 := ⟨by decide +kernel, rfl⟩
theorem dL_687 : D code 687 (.aload_n 0) 1 688 := ⟨by decide +kernel, rfl⟩
theorem dL_688 : D code 688 (.iload_n 3) 1 689 := ⟨by decide +kernel, rfl⟩
theorem dL_689 : D code 689 (.iconst 1) 1 690 := ⟨by decide +kernel, rfl⟩
theorem dL_690 : D code 690 (.iadd) 1 691 := ⟨by decide +kernel, rfl⟩
theorem dL_691 : D code 691 (.iaload) 1 692 := ⟨by decide +kernel, rfl⟩
theorem dL_692 : D code 692 (.invokevirtual 86) 3 695 := ⟨by decide +kernel, rfl⟩
theorem dL_695 : D code 695 (.aload_n 2) 1 696 := ⟨by decide +kernel, rfl⟩
theorem dL_696 : D code 696 (.aload_n 0) 1 697 := ⟨by decide +kernel, rfl⟩
theorem dL_697 : D code 697 (.iload_n 3) 1 698 := ⟨by decide +kernel, rfl⟩
theorem dL_698 : D code 698 (.iconst 1) 1 699 := ⟨by decide +kernel, rfl⟩
theorem dL_699 : D code 699 (.iadd) 1 700 := ⟨by decide +kernel, rfl⟩
theorem dL_700 : D code 700 (.iaload) 1 701 := ⟨by decide +kernel, rfl⟩
theorem dL_701 : D code 701 (.invokevirtual 89) 3 704 := ⟨by decide +kernel, rfl⟩
theorem dL_704 : D code 704 (.if_icmp .eq 526) 3 707 := ⟨by decide +kernel, rfl⟩
theorem dL_707 : D code 707 (.iconst 0) 1 708 := ⟨by decide +kernel, rfl⟩
theorem dL_708 : D code 708 (.ireturn) 1 709 := ⟨by decide +kernel, rfl⟩
theorem dL_709 : D code 709 (.aload_n 1) 1 710 := ⟨by decide +kernel, rfl⟩
theorem dL_710 : D code 710 (.aload_n 0) 1 711 := ⟨by decide +kernel, rfl⟩
theorem dL_711 : D code 711 (.iload_n 3) 1 712 := ⟨by decide +kernel, rfl⟩
theorem dL_712 : D code 712 (.iconst 1) 1 713 := ⟨by decide +kernel, rfl⟩
theorem dL_713 : D code 713 (.iadd) 1 714 := ⟨by decide +kernel, rfl⟩
theorem dL_714 : D code 714 (.iaload) 1 715 := ⟨by decide +kernel, rfl⟩
theorem dL_715 : D code 715 (.aload_n 0) 1 716 := ⟨by decide +kernel, rfl⟩
theorem dL_716 : D code 716 (.iload_n 3) 1 717 := ⟨by decide +kernel, rfl⟩
theorem dL_717 : D code 717 (.iconst 2) 1 718 := ⟨by decide +kernel, rfl⟩
theorem dL_718 : D code 718 (.iadd) 1 719 := ⟨by decide +kernel, rfl⟩
theorem dL_719 : D code 719 (.iaload) 1 720 := ⟨by decide +kernel, rfl⟩
theorem dL_720 : D code 720 (.invokevirtual 90) 3 723 := ⟨by decide +kernel, rfl⟩
theorem dL_723 : D code 723 (.aload_n 2) 1 724 := ⟨by decide +kernel, rfl⟩
theorem dL_724 : D code 724 (.aload_n 0) 1 725 := ⟨by decide +kernel, rfl⟩
theorem dL_725 : D code 725 (.iload_n 3) 1 726 := ⟨by decide +kernel, rfl⟩
theorem dL_726 : D code 726 (.iconst 1) 1 727 := ⟨by decide +kernel, rfl⟩
theorem dL_727 : D code 727 (.iadd) 1 728 := ⟨by decide +kernel, rfl⟩
theorem dL_728 : D code 728 (.iaload) 1 729 := ⟨by decide +kernel, rfl⟩
theorem dL_729 : D code 729 (.aload_n 0) 1 730 := ⟨by decide +kernel, rfl⟩
theorem dL_730 : D code 730 (.iload_n 3) 1 731 := ⟨by decide +kernel, rfl⟩
theorem dL_731 : D code 731 (.iconst 2) 1 732 := ⟨by decide +kernel, rfl⟩
theorem dL_732 : D code 732 (.iadd) 1 733 := ⟨by decide +kernel, rfl⟩
theorem dL_733 : D code 733 (.iaload) 1 734 := ⟨by decide +kernel, rfl⟩
theorem dL_734 : D code 734 (.invokevirtual 93) 3 737 := ⟨by decide +kernel, rfl⟩
theorem dL_737 : D code 737 (.if_icmp .eq 493) 3 740 := ⟨by decide +kernel, rfl⟩
theorem dL_740 : D code 740 (.iconst 0) 1 741 := ⟨by decide +kernel, rfl⟩
theorem dL_741 : D code 741 (.ireturn) 1 742 := ⟨by decide +kernel, rfl⟩
theorem dL_742 : D code 742 (.aload_n 1) 1 743 := ⟨by decide +kernel, rfl⟩
theorem dL_743 : D code 743 (.invokevirtual 94) 3 746 := ⟨by decide +kernel, rfl⟩
theorem dL_746 : D code 746 (.aload_n 2) 1 747 := ⟨by decide +kernel, rfl⟩
theorem dL_747 : D code 747 (.invokevirtual 97) 3 750 := ⟨by decide +kernel, rfl⟩
theorem dL_750 : D code 750 (.if_icmp .eq 480) 3 753 := ⟨by decide +kernel, rfl⟩
theorem dL_753 : D code 753 (.iconst 0) 1 754 := ⟨by decide +kernel, rfl⟩
theorem dL_754 : D code 754 (.ireturn) 1 755 := ⟨by decide +kernel, rfl⟩
theorem dL_755 : D code 755 (.aload_n 1) 1 756 := ⟨by decide +kernel, rfl⟩
theorem dL_756 : D code 756 (.aload_n 0) 1 757 := ⟨by decide +kernel, rfl⟩
theorem dL_757 : D code 757 (.iload_n 3) 1 758 := ⟨by decide +kernel, rfl⟩
theorem dL_758 : D code 758 (.iconst 1) 1 759 := ⟨by decide +kernel, rfl⟩
theorem dL_759 : D code 759 (.iadd) 1 760 := ⟨by decide +kernel, rfl⟩
theorem dL_760 : D code 760 (.iaload) 1 761 := ⟨by decide +kernel, rfl⟩
theorem dL_761 : D code 761 (.aload_n 0) 1 762 := ⟨by decide +kernel, rfl⟩
theorem dL_762 : D code 762 (.iload_n 3) 1 763 := ⟨by decide +kernel, rfl⟩
theorem dL_763 : D code 763 (.iconst 2) 1 764 := ⟨by decide +kernel, rfl⟩
theorem dL_764 : D code 764 (.iadd) 1 765 := ⟨by decide +kernel, rfl⟩
theorem dL_765 : D code 765 (.iaload) 1 766 := ⟨by decide +kernel, rfl⟩
theorem dL_766 : D code 766 (.aload_n 0) 1 767 := ⟨by decide +kernel, rfl⟩
theorem dL_767 : D code 767 (.iload_n 3) 1 768 := ⟨by decide +kernel, rfl⟩
theorem dL_768 : D code 768 (.iconst 3) 1 769 := ⟨by decide +kernel, rfl⟩
theorem dL_769 : D code 769 (.iadd) 1 770 := ⟨by decide +kernel, rfl⟩
theorem dL_770 : D code 770 (.iaload) 1 771 := ⟨by decide +kernel, rfl⟩
theorem dL_771 : D code 771 (.invokevirtual 98) 3 774 := ⟨by decide +kernel, rfl⟩
theorem dL_774 : D code 774 (.aload_n 2) 1 775 := ⟨by decide +kernel, rfl⟩
theorem dL_775 : D code 775 (.aload_n 0) 1 776 := ⟨by decide +kernel, rfl⟩
theorem dL_776 : D code 776 (.iload_n 3) 1 777 := ⟨by decide +kernel, rfl⟩
theorem dL_777 : D code 777 (.iconst 1) 1 778 := ⟨by decide +kernel, rfl⟩
theorem dL_778 : D code 778 (.iadd) 1 779 := ⟨by decide +kernel, rfl⟩
theorem dL_779 : D code 779 (.iaload) 1 780 := ⟨by decide +kernel, rfl⟩
theorem dL_780 : D code 780 (.aload_n 0) 1 781 := ⟨by decide +kernel, rfl⟩
theorem dL_781 : D code 781 (.iload_n 3) 1 782 := ⟨by decide +kernel, rfl⟩
theorem dL_782 : D code 782 (.iconst 2) 1 783 := ⟨by decide +kernel, rfl⟩
theorem dL_783 : D code 783 (.iadd) 1 784 := ⟨by decide +kernel, rfl⟩
theorem dL_784 : D code 784 (.iaload) 1 785 := ⟨by decide +kernel, rfl⟩
theorem dL_785 : D code 785 (.aload_n 0) 1 786 := ⟨by decide +kernel, rfl⟩
theorem dL_786 : D code 786 (.iload_n 3) 1 787 := ⟨by decide +kernel, rfl⟩
theorem dL_787 : D code 787 (.iconst 3) 1 788 := ⟨by decide +kernel, rfl⟩
theorem dL_788 : D code 788 (.iadd) 1 789 := ⟨by decide +kernel, rfl⟩
theorem dL_789 : D code 789 (.iaload) 1 790 := ⟨by decide +kernel, rfl⟩
theorem dL_790 : D code 790 (.invokevirtual 102) 3 793 := ⟨by decide +kernel, rfl⟩
theorem dL_793 : D code 793 (.lcmp) 1 794 := ⟨by decide +kernel, rfl⟩
theorem dL_794 : D code 794 (.ifCond .eq 436) 3 797 := ⟨by decide +kernel, rfl⟩
theorem dL_797 : D code 797 (.iconst 0) 1 798 := ⟨by decide +kernel, rfl⟩
theorem dL_798 : D code 798 (.ireturn) 1 799 := ⟨by decide +kernel, rfl⟩
theorem dL_799 : D code 799 (.aload_n 1) 1 800 := ⟨by decide +kernel, rfl⟩
theorem dL_800 : D code 800 (.aload_n 0) 1 801 := ⟨by decide +kernel, rfl⟩
theorem dL_801 : D code 801 (.iload_n 3) 1 802 := ⟨by decide +kernel, rfl⟩
theorem dL_802 : D code 802 (.iconst 1) 1 803 := ⟨by decide +kernel, rfl⟩
theorem dL_803 : D code 803 (.iadd) 1 804 := ⟨by decide +kernel, rfl⟩
theorem dL_804 : D code 804 (.iaload) 1 805 := ⟨by decide +kernel, rfl⟩
theorem dL_805 : D code 805 (.aload_n 0) 1 806 := ⟨by decide +kernel, rfl⟩
theorem dL_806 : D code 806 (.iload_n 3) 1 807 := ⟨by decide +kernel, rfl⟩
theorem dL_807 : D code 807 (.iconst 2) 1 808 := ⟨by decide +kernel, rfl⟩
theorem dL_808 : D code 808 (.iadd) 1 809 := ⟨by decide +kernel, rfl⟩
theorem dL_809 : D code 809 (.iaload) 1 810 := ⟨by decide +kernel, rfl⟩
theorem dL_810 : D code 810 (.invokevirtual 103) 3 813 := ⟨by decide +kernel, rfl⟩
theorem dL_813 : D code 813 (.aload_n 2) 1 814 := ⟨by decide +kernel, rfl⟩
theorem dL_814 : D code 814 (.aload_n 0) 1 815 := ⟨by decide +kernel, rfl⟩
theorem dL_815 : D code 815 (.iload_n 3) 1 816 := ⟨by decide +kernel, rfl⟩
theorem dL_816 : D code 816 (.iconst 1) 1 817 := ⟨by decide +kernel, rfl⟩
theorem dL_817 : D code 817 (.iadd) 1 818 := ⟨by decide +kernel, rfl⟩
theorem dL_818 : D code 818 (.iaload) 1 819 := ⟨by decide +kernel, rfl⟩
theorem dL_819 : D code 819 (.aload_n 0) 1 820 := ⟨by decide +kernel, rfl⟩
theorem dL_820 : D code 820 (.iload_n 3) 1 821 := ⟨by decide +kernel, rfl⟩
theorem dL_821 : D code 821 (.iconst 2) 1 822 := ⟨by decide +kernel, rfl⟩
theorem dL_822 : D code 822 (.iadd) 1 823 := ⟨by decide +kernel, rfl⟩
theorem dL_823 : D code 823 (.iaload) 1 824 := ⟨by decide +kernel, rfl⟩
theorem dL_824 : D code 824 (.invokevirtual 107) 3 827 := ⟨by decide +kernel, rfl⟩
theorem dL_827 : D code 827 (.lcmp) 1 828 := ⟨by decide +kernel, rfl⟩
theorem dL_828 : D code 828 (.ifCond .eq 402) 3 831 := ⟨by decide +kernel, rfl⟩
theorem dL_831 : D code 831 (.iconst 0) 1 832 := ⟨by decide +kernel, rfl⟩
theorem dL_832 : D code 832 (.ireturn) 1 833 := ⟨by decide +kernel, rfl⟩
theorem dL_833 : D code 833 (.aload_n 1) 1 834 := ⟨by decide +kernel, rfl⟩
theorem dL_834 : D code 834 (.aload_n 0) 1 835 := ⟨by decide +kernel, rfl⟩
theorem dL_835 : D code 835 (.iload_n 3) 1 836 := ⟨by decide +kernel, rfl⟩
theorem dL_836 : D code 836 (.iconst 1) 1 837 := ⟨by decide +kernel, rfl⟩
theorem dL_837 : D code 837 (.iadd) 1 838 := ⟨by decide +kernel, rfl⟩
theorem dL_838 : D code 838 (.iaload) 1 839 := ⟨by decide +kernel, rfl⟩
theorem dL_839 : D code 839 (.aload_n 0) 1 840 := ⟨by decide +kernel, rfl⟩
theorem dL_840 : D code 840 (.iload_n 3) 1 841 := ⟨by decide +kernel, rfl⟩
theorem dL_841 : D code 841 (.iconst 2) 1 842 := ⟨by decide +kernel, rfl⟩
theorem dL_842 : D code 842 (.iadd) 1 843 := ⟨by decide +kernel, rfl⟩
theorem dL_843 : D code 843 (.iaload) 1 844 := ⟨by decide +kernel, rfl⟩
theorem dL_844 : D code 844 (.invokevirtual 108) 3 847 := ⟨by decide +kernel, rfl⟩
theorem dL_847 : D code 847 (.aload_n 2) 1 848 := ⟨by decide +kernel, rfl⟩
theorem dL_848 : D code 848 (.aload_n 0) 1 849 := ⟨by decide +kernel, rfl⟩
theorem dL_849 : D code 849 (.iload_n 3) 1 850 := ⟨by decide +kernel, rfl⟩
theorem dL_850 : D code 850 (.iconst 1) 1 851 := ⟨by decide +kernel, rfl⟩
theorem dL_851 : D code 851 (.iadd) 1 852 := ⟨by decide +kernel, rfl⟩
theorem dL_852 : D code 852 (.iaload) 1 853 := ⟨by decide +kernel, rfl⟩
theorem dL_853 : D code 853 (.aload_n 0) 1 854 := ⟨by decide +kernel, rfl⟩
theorem dL_854 : D code 854 (.iload_n 3) 1 855 := ⟨by decide +kernel, rfl⟩
theorem dL_855 : D code 855 (.iconst 2) 1 856 := ⟨by decide +kernel, rfl⟩
theorem dL_856 : D code 856 (.iadd) 1 857 := ⟨by decide +kernel, rfl⟩
theorem dL_857 : D code 857 (.iaload) 1 858 := ⟨by decide +kernel, rfl⟩
theorem dL_858 : D code 858 (.invokevirtual 111) 3 861 := ⟨by decide +kernel, rfl⟩
theorem dL_861 : D code 861 (.if_icmp .eq 369) 3 864 := ⟨by decide +kernel, rfl⟩
theorem dL_864 : D code 864 (.iconst 0) 1 865 := ⟨by decide +kernel, rfl⟩
theorem dL_865 : D code 865 (.ireturn) 1 866 := ⟨by decide +kernel, rfl⟩
theorem dL_866 : D code 866 (.aload_n 1) 1 867 := ⟨by decide +kernel, rfl⟩
theorem dL_867 : D code 867 (.aload_n 0) 1 868 := ⟨by decide +kernel, rfl⟩
theorem dL_868 : D code 868 (.iload_n 3) 1 869 := ⟨by decide +kernel, rfl⟩
theorem dL_869 : D code 869 (.iconst 1) 1 870 := ⟨by decide +kernel, rfl⟩
theorem dL_870 : D code 870 (.iadd) 1 871 := ⟨by decide +kernel, rfl⟩
theorem dL_871 : D code 871 (.iaload) 1 872 := ⟨by decide +kernel, rfl⟩
theorem dL_872 : D code 872 (.invokevirtual 112) 3 875 := ⟨by decide +kernel, rfl⟩
theorem dL_875 : D code 875 (.aload_n 2) 1 876 := ⟨by decide +kernel, rfl⟩
theorem dL_876 : D code 876 (.aload_n 0) 1 877 := ⟨by decide +kernel, rfl⟩
theorem dL_877 : D code 877 (.iload_n 3) 1 878 := ⟨by decide +kernel, rfl⟩
theorem dL_878 : D code 878 (.iconst 1) 1 879 := ⟨by decide +kernel, rfl⟩
theorem dL_879 : D code 879 (.iadd) 1 880 := ⟨by decide +kernel, rfl⟩
theorem dL_880 : D code 880 (.iaload) 1 881 := ⟨by decide +kernel, rfl⟩
theorem dL_881 : D code 881 (.invokevirtual 115) 3 884 := ⟨by decide +kernel, rfl⟩
theorem dL_884 : D code 884 (.if_icmp .eq 346) 3 887 := ⟨by decide +kernel, rfl⟩
theorem dL_887 : D code 887 (.iconst 0) 1 888 := ⟨by decide +kernel, rfl⟩
theorem dL_888 : D code 888 (.ireturn) 1 889 := ⟨by decide +kernel, rfl⟩
theorem dL_889 : D code 889 (.aload_n 1) 1 890 := ⟨by decide +kernel, rfl⟩
theorem dL_890 : D code 890 (.aload_n 0) 1 891 := ⟨by decide +kernel, rfl⟩
theorem dL_891 : D code 891 (.iload_n 3) 1 892 := ⟨by decide +kernel, rfl⟩
theorem dL_892 : D code 892 (.iconst 1) 1 893 := ⟨by decide +kernel, rfl⟩
theorem dL_893 : D code 893 (.iadd) 1 894 := ⟨by decide +kernel, rfl⟩
theorem dL_894 : D code 894 (.iaload) 1 895 := ⟨by decide +kernel, rfl⟩
theorem dL_895 : D code 895 (.aload_n 0) 1 896 := ⟨by decide +kernel, rfl⟩
theorem dL_896 : D code 896 (.iload_n 3) 1 897 := ⟨by decide +kernel, rfl⟩
theorem dL_897 : D code 897 (.iconst 2) 1 898 := ⟨by decide +kernel, rfl⟩
theorem dL_898 : D code 898 (.iadd) 1 899 := ⟨by decide +kernel, rfl⟩
theorem dL_899 : D code 899 (.iaload) 1 900 := ⟨by decide +kernel, rfl⟩
theorem dL_900 : D code 900 (.invokevirtual 116) 3 903 := ⟨by decide +kernel, rfl⟩
theorem dL_903 : D code 903 (.aload_n 2) 1 904 := ⟨by decide +kernel, rfl⟩
theorem dL_904 : D code 904 (.aload_n 0) 1 905 := ⟨by decide +kernel, rfl⟩
theorem dL_905 : D code 905 (.iload_n 3) 1 906 := ⟨by decide +kernel, rfl⟩
theorem dL_906 : D code 906 (.iconst 1) 1 907 := ⟨by decide +kernel, rfl⟩
theorem dL_907 : D code 907 (.iadd) 1 908 := ⟨by decide +kernel, rfl⟩
theorem dL_908 : D code 908 (.iaload) 1 909 := ⟨by decide +kernel, rfl⟩
theorem dL_909 : D code 909 (.aload_n 0) 1 910 := ⟨by decide +kernel, rfl⟩
theorem dL_910 : D code 910 (.iload_n 3) 1 911 := ⟨by decide +kernel, rfl⟩
theorem dL_911 : D code 911 (.iconst 2) 1 912 := ⟨by decide +kernel, rfl⟩
theorem dL_912 : D code 912 (.iadd) 1 913 := ⟨by decide +kernel, rfl⟩
theorem dL_913 : D code 913 (.iaload) 1 914 := ⟨by decide +kernel, rfl⟩
theorem dL_914 : D code 914 (.invokevirtual 119) 3 917 := ⟨by decide +kernel, rfl⟩
theorem dL_917 : D code 917 (.if_icmp .eq 313) 3 920 := ⟨by decide +kernel, rfl⟩
theorem dL_920 : D code 920 (.iconst 0) 1 921 := ⟨by decide +kernel, rfl⟩
theorem dL_921 : D code 921 (.ireturn) 1 922 := ⟨by decide +kernel, rfl⟩
theorem dL_922 : D code 922 (.aload_n 1) 1 923 := ⟨by decide +kernel, rfl⟩
theorem dL_923 : D code 923 (.invokevirtual 120) 3 926 := ⟨by decide +kernel, rfl⟩
theorem dL_926 : D code 926 (.aload_n 2) 1 927 := ⟨by decide +kernel, rfl⟩
theorem dL_927 : D code 927 (.invokevirtual 123) 3 930 := ⟨by decide +kernel, rfl⟩
theorem dL_930 : D code 930 (.if_icmp .eq 300) 3 933 := ⟨by decide +kernel, rfl⟩
theorem dL_933 : D code 933 (.iconst 0) 1 934 := ⟨by decide +kernel, rfl⟩
theorem dL_934 : D code 934 (.ireturn) 1 935 := ⟨by decide +kernel, rfl⟩
theorem dL_935 : D code 935 (.aload_n 1) 1 936 := ⟨by decide +kernel, rfl⟩
theorem dL_936 : D code 936 (.aload_n 0) 1 937 := ⟨by decide +kernel, rfl⟩
theorem dL_937 : D code 937 (.iload_n 3) 1 938 := ⟨by decide +kernel, rfl⟩
theorem dL_938 : D code 938 (.iconst 1) 1 939 := ⟨by decide +kernel, rfl⟩
theorem dL_939 : D code 939 (.iadd) 1 940 := ⟨by decide +kernel, rfl⟩
theorem dL_940 : D code 940 (.iaload) 1 941 := ⟨by decide +kernel, rfl⟩
theorem dL_941 : D code 941 (.aload_n 0) 1 942 := ⟨by decide +kernel, rfl⟩
theorem dL_942 : D code 942 (.iload_n 3) 1 943 := ⟨by decide +kernel, rfl⟩
theorem dL_943 : D code 943 (.iconst 2) 1 944 := ⟨by decide +kernel, rfl⟩
theorem dL_944 : D code 944 (.iadd) 1 945 := ⟨by decide +kernel, rfl⟩
theorem dL_945 : D code 945 (.iaload) 1 946 := ⟨by decide +kernel, rfl⟩
theorem dL_946 : D code 946 (.invokevirtual 124) 3 949 := ⟨by decide +kernel, rfl⟩
theorem dL_949 : D code 949 (.aload_n 2) 1 950 := ⟨by decide +kernel, rfl⟩
theorem dL_950 : D code 950 (.aload_n 0) 1 951 := ⟨by decide +kernel, rfl⟩
theorem dL_951 : D code 951 (.iload_n 3) 1 952 := ⟨by decide +kernel, rfl⟩
theorem dL_952 : D code 952 (.iconst 1) 1 953 := ⟨by decide +kernel, rfl⟩
theorem dL_953 : D code 953 (.iadd) 1 954 := ⟨by decide +kernel, rfl⟩
theorem dL_954 : D code 954 (.iaload) 1 955 := ⟨by decide +kernel, rfl⟩
theorem dL_955 : D code 955 (.aload_n 0) 1 956 := ⟨by decide +kernel, rfl⟩
theorem dL_956 : D code 956 (.iload_n 3) 1 957 := ⟨by decide +kernel, rfl⟩
theorem dL_957 : D code 957 (.iconst 2) 1 958 := ⟨by decide +kernel, rfl⟩
theorem dL_958 : D code 958 (.iadd) 1 959 := ⟨by decide +kernel, rfl⟩
theorem dL_959 : D code 959 (.iaload) 1 960 := ⟨by decide +kernel, rfl⟩
theorem dL_960 : D code 960 (.invokevirtual 127) 3 963 := ⟨by decide +kernel, rfl⟩
theorem dL_963 : D code 963 (.if_icmp .eq 267) 3 966 := ⟨by decide +kernel, rfl⟩
theorem dL_966 : D code 966 (.iconst 0) 1 967 := ⟨by decide +kernel, rfl⟩
theorem dL_967 : D code 967 (.ireturn) 1 968 := ⟨by decide +kernel, rfl⟩
theorem dL_968 : D code 968 (.aload_n 1) 1 969 := ⟨by decide +kernel, rfl⟩
theorem dL_969 : D code 969 (.invokevirtual 128) 3 972 := ⟨by decide +kernel, rfl⟩
theorem dL_972 : D code 972 (.aload_n 2) 1 973 := ⟨by decide +kernel, rfl⟩
theorem dL_973 : D code 973 (.invokevirtual 131) 3 976 := ⟨by decide +kernel, rfl⟩
theorem dL_976 : D code 976 (.if_icmp .eq 254) 3 979 := ⟨by decide +kernel, rfl⟩
theorem dL_979 : D code 979 (.iconst 0) 1 980 := ⟨by decide +kernel, rfl⟩
theorem dL_980 : D code 980 (.ireturn) 1 981 := ⟨by decide +kernel, rfl⟩
theorem dL_981 : D code 981 (.aload_n 1) 1 982 := ⟨by decide +kernel, rfl⟩
theorem dL_982 : D code 982 (.invokevirtual 132) 3 985 := ⟨by decide +kernel, rfl⟩
theorem dL_985 : D code 985 (.aload_n 2) 1 986 := ⟨by decide +kernel, rfl⟩
theorem dL_986 : D code 986 (.invokevirtual 135) 3 989 := ⟨by decide +kernel, rfl⟩
theorem dL_989 : D code 989 (.if_icmp .eq 241) 3 992 := ⟨by decide +kernel, rfl⟩
theorem dL_992 : D code 992 (.iconst 0) 1 993 := ⟨by decide +kernel, rfl⟩
theorem dL_993 : D code 993 (.ireturn) 1 994 := ⟨by decide +kernel, rfl⟩
theorem dL_994 : D code 994 (.aload_n 1) 1 995 := ⟨by decide +kernel, rfl⟩
theorem dL_995 : D code 995 (.aload_n 0) 1 996 := ⟨by decide +kernel, rfl⟩
theorem dL_996 : D code 996 (.iload_n 3) 1 997 := ⟨by decide +kernel, rfl⟩
theorem dL_997 : D code 997 (.iconst 1) 1 998 := ⟨by decide +kernel, rfl⟩
theorem dL_998 : D code 998 (.iadd) 1 999 := ⟨by decide +kernel, rfl⟩
theorem dL_999 : D code 999 (.iaload) 1 1000 := ⟨by decide +kernel, rfl⟩
theorem dL_1000 : D code 1000 (.invokevirtual 136) 3 1003 := ⟨by decide +kernel, rfl⟩
theorem dL_1003 : D code 1003 (.aload_n 2) 1 1004 := ⟨by decide +kernel, rfl⟩
theorem dL_1004 : D code 1004 (.aload_n 0) 1 1005 := ⟨by decide +kernel, rfl⟩
theorem dL_1005 : D code 1005 (.iload_n 3) 1 1006 := ⟨by decide +kernel, rfl⟩
theorem dL_1006 : D code 1006 (.iconst 1) 1 1007 := ⟨by decide +kernel, rfl⟩
theorem dL_1007 : D code 1007 (.iadd) 1 1008 := ⟨by decide +kernel, rfl⟩
theorem dL_1008 : D code 1008 (.iaload) 1 1009 := ⟨by decide +kernel, rfl⟩
theorem dL_1009 : D code 1009 (.invokevirtual 139) 3 1012 := ⟨by decide +kernel, rfl⟩
theorem dL_1012 : D code 1012 (.if_icmp .eq 218) 3 1015 := ⟨by decide +kernel, rfl⟩
theorem dL_1015 : D code 1015 (.iconst 0) 1 1016 := ⟨by decide +kernel, rfl⟩
theorem dL_1016 : D code 1016 (.ireturn) 1 1017 := ⟨by decide +kernel, rfl⟩
theorem dL_1017 : D code 1017 (.aload_n 1) 1 1018 := ⟨by decide +kernel, rfl⟩
theorem dL_1018 : D code 1018 (.aload_n 0) 1 1019 := ⟨by decide +kernel, rfl⟩
theorem dL_1019 : D code 1019 (.iload_n 3) 1 1020 := ⟨by decide +kernel, rfl⟩
theorem dL_1020 : D code 1020 (.iconst 1) 1 1021 := ⟨by decide +kernel, rfl⟩
theorem dL_1021 : D code 1021 (.iadd) 1 1022 := ⟨by decide +kernel, rfl⟩
theorem dL_1022 : D code 1022 (.iaload) 1 1023 := ⟨by decide +kernel, rfl⟩
theorem dL_1023 : D code 1023 (.aload_n 0) 1 1024 := ⟨by decide +kernel, rfl⟩
theorem dL_1024 : D code 1024 (.iload_n 3) 1 1025 := ⟨by decide +kernel, rfl⟩
theorem dL_1025 : D code 1025 (.iconst 2) 1 1026 := ⟨by decide +kernel, rfl⟩
theorem dL_1026 : D code 1026 (.iadd) 1 1027 := ⟨by decide +kernel, rfl⟩
theorem dL_1027 : D code 1027 (.iaload) 1 1028 := ⟨by decide +kernel, rfl⟩
theorem dL_1028 : D code 1028 (.aload_n 0) 1 1029 := ⟨by decide +kernel, rfl⟩
theorem dL_1029 : D code 1029 (.iload_n 3) 1 1030 := ⟨by decide +kernel, rfl⟩
theorem dL_1030 : D code 1030 (.iconst 3) 1 1031 := ⟨by decide +kernel, rfl⟩
theorem dL_1031 : D code 1031 (.iadd) 1 1032 := ⟨by decide +kernel, rfl⟩
theorem dL_1032 : D code 1032 (.iaload) 1 1033 := ⟨by decide +kernel, rfl⟩
theorem dL_1033 : D code 1033 (.invokevirtual 140) 3 1036 := ⟨by decide +kernel, rfl⟩
theorem dL_1036 : D code 1036 (.aload_n 2) 1 1037 := ⟨by decide +kernel, rfl⟩
theorem dL_1037 : D code 1037 (.aload_n 0) 1 1038 := ⟨by decide +kernel, rfl⟩
theorem dL_1038 : D code 1038 (.iload_n 3) 1 1039 := ⟨by decide +kernel, rfl⟩
theorem dL_1039 : D code 1039 (.iconst 1) 1 1040 := ⟨by decide +kernel, rfl⟩
theorem dL_1040 : D code 1040 (.iadd) 1 1041 := ⟨by decide +kernel, rfl⟩
theorem dL_1041 : D code 1041 (.iaload) 1 1042 := ⟨by decide +kernel, rfl⟩
theorem dL_1042 : D code 1042 (.aload_n 0) 1 1043 := ⟨by decide +kernel, rfl⟩
theorem dL_1043 : D code 1043 (.iload_n 3) 1 1044 := ⟨by decide +kernel, rfl⟩
theorem dL_1044 : D code 1044 (.iconst 2) 1 1045 := ⟨by decide +kernel, rfl⟩
theorem dL_1045 : D code 1045 (.iadd) 1 1046 := ⟨by decide +kernel, rfl⟩
theorem dL_1046 : D code 1046 (.iaload) 1 1047 := ⟨by decide +kernel, rfl⟩
theorem dL_1047 : D code 1047 (.aload_n 0) 1 1048 := ⟨by decide +kernel, rfl⟩
theorem dL_1048 : D code 1048 (.iload_n 3) 1 1049 := ⟨by decide +kernel, rfl⟩
theorem dL_1049 : D code 1049 (.iconst 3) 1 1050 := ⟨by decide +kernel, rfl⟩
theorem dL_1050 : D code 1050 (.iadd) 1 1051 := ⟨by decide +kernel, rfl⟩
theorem dL_1051 : D code 1051 (.iaload) 1 1052 := ⟨by decide +kernel, rfl⟩
theorem dL_1052 : D code 1052 (.invokevirtual 144) 3 1055 := ⟨by decide +kernel, rfl⟩
theorem dL_1055 : D code 1055 (.if_icmp .eq 175) 3 1058 := ⟨by decide +kernel, rfl⟩
theorem dL_1058 : D code 1058 (.iconst 0) 1 1059 := ⟨by decide +kernel, rfl⟩
theorem dL_1059 : D code 1059 (.ireturn) 1 1060 := ⟨by decide +kernel, rfl⟩
theorem dL_1060 : D code 1060 (.aload_n 1) 1 1061 := ⟨by decide +kernel, rfl⟩
theorem dL_1061 : D code 1061 (.aload_n 0) 1 1062 := ⟨by decide +kernel, rfl⟩
theorem dL_1062 : D code 1062 (.iload_n 3) 1 1063 := ⟨by decide +kernel, rfl⟩
theorem dL_1063 : D code 1063 (.iconst 1) 1 1064 := ⟨by decide +kernel, rfl⟩
theorem dL_1064 : D code 1064 (.iadd) 1 1065 := ⟨by decide +kernel, rfl⟩
theorem dL_1065 : D code 1065 (.iaload) 1 1066 := ⟨by decide +kernel, rfl⟩
theorem dL_1066 : D code 1066 (.aload_n 0) 1 1067 := ⟨by decide +kernel, rfl⟩
theorem dL_1067 : D code 1067 (.iload_n 3) 1 1068 := ⟨by decide +kernel, rfl⟩
theorem dL_1068 : D code 1068 (.iconst 2) 1 1069 := ⟨by decide +kernel, rfl⟩
theorem dL_1069 : D code 1069 (.iadd) 1 1070 := ⟨by decide +kernel, rfl⟩
theorem dL_1070 : D code 1070 (.iaload) 1 1071 := ⟨by decide +kernel, rfl⟩
theorem dL_1071 : D code 1071 (.aload_n 0) 1 1072 := ⟨by decide +kernel, rfl⟩
theorem dL_1072 : D code 1072 (.iload_n 3) 1 1073 := ⟨by decide +kernel, rfl⟩
theorem dL_1073 : D code 1073 (.iconst 3) 1 1074 := ⟨by decide +kernel, rfl⟩
theorem dL_1074 : D code 1074 (.iadd) 1 1075 := ⟨by decide +kernel, rfl⟩
theorem dL_1075 : D code 1075 (.iaload) 1 1076 := ⟨by decide +kernel, rfl⟩
theorem dL_1076 : D code 1076 (.i2l) 1 1077 := ⟨by decide +kernel, rfl⟩
theorem dL_1077 : D code 1077 (.bipush 32) 2 1079 := ⟨by decide +kernel, rfl⟩
theorem dL_1079 : D code 1079 (.lshl) 1 1080 := ⟨by decide +kernel, rfl⟩
theorem dL_1080 : D code 1080 (.aload_n 0) 1 1081 := ⟨by decide +kernel, rfl⟩
theorem dL_1081 : D code 1081 (.iload_n 3) 1 1082 := ⟨by decide +kernel, rfl⟩
theorem dL_1082 : D code 1082 (.iconst 4) 1 1083 := ⟨by decide +kernel, rfl⟩
theorem dL_1083 : D code 1083 (.iadd) 1 1084 := ⟨by decide +kernel, rfl⟩
theorem dL_1084 : D code 1084 (.iaload) 1 1085 := ⟨by decide +kernel, rfl⟩
theorem dL_1085 : D code 1085 (.i2l) 1 1086 := ⟨by decide +kernel, rfl⟩
theorem dL_1086 : D code 1086 (.ldc2_w 145) 3 1089 := ⟨by decide +kernel, rfl⟩
theorem dL_1089 : D code 1089 (.land) 1 1090 := ⟨by decide +kernel, rfl⟩
theorem dL_1090 : D code 1090 (.lor) 1 1091 := ⟨by decide +kernel, rfl⟩
theorem dL_1091 : D code 1091 (.invokevirtual 147) 3 1094 := ⟨by decide +kernel, rfl⟩
theorem dL_1094 : D code 1094 (.aload_n 2) 1 1095 := ⟨by decide +kernel, rfl⟩
theorem dL_1095 : D code 1095 (.aload_n 0) 1 1096 := ⟨by decide +kernel, rfl⟩
theorem dL_1096 : D code 1096 (.iload_n 3) 1 1097 := ⟨by decide +kernel, rfl⟩
theorem dL_1097 : D code 1097 (.iconst 1) 1 1098 := ⟨by decide +kernel, rfl⟩
theorem dL_1098 : D code 1098 (.iadd) 1 1099 := ⟨by decide +kernel, rfl⟩
theorem dL_1099 : D code 1099 (.iaload) 1 1100 := ⟨by decide +kernel, rfl⟩
theorem dL_1100 : D code 1100 (.aload_n 0) 1 1101 := ⟨by decide +kernel, rfl⟩
theorem dL_1101 : D code 1101 (.iload_n 3) 1 1102 := ⟨by decide +kernel, rfl⟩
theorem dL_1102 : D code 1102 (.iconst 2) 1 1103 := ⟨by decide +kernel, rfl⟩
theorem dL_1103 : D code 1103 (.iadd) 1 1104 := ⟨by decide +kernel, rfl⟩
theorem dL_1104 : D code 1104 (.iaload) 1 1105 := ⟨by decide +kernel, rfl⟩
theorem dL_1105 : D code 1105 (.aload_n 0) 1 1106 := ⟨by decide +kernel, rfl⟩
theorem dL_1106 : D code 1106 (.iload_n 3) 1 1107 := ⟨by decide +kernel, rfl⟩
theorem dL_1107 : D code 1107 (.iconst 3) 1 1108 := ⟨by decide +kernel, rfl⟩
theorem dL_1108 : D code 1108 (.iadd) 1 1109 := ⟨by decide +kernel, rfl⟩
theorem dL_1109 : D code 1109 (.iaload) 1 1110 := ⟨by decide +kernel, rfl⟩
theorem dL_1110 : D code 1110 (.i2l) 1 1111 := ⟨by decide +kernel, rfl⟩
theorem dL_1111 : D code 1111 (.bipush 32) 2 1113 := ⟨by decide +kernel, rfl⟩
theorem dL_1113 : D code 1113 (.lshl) 1 1114 := ⟨by decide +kernel, rfl⟩
theorem dL_1114 : D code 1114 (.aload_n 0) 1 1115 := ⟨by decide +kernel, rfl⟩
theorem dL_1115 : D code 1115 (.iload_n 3) 1 1116 := ⟨by decide +kernel, rfl⟩
theorem dL_1116 : D code 1116 (.iconst 4) 1 1117 := ⟨by decide +kernel, rfl⟩
theorem dL_1117 : D code 1117 (.iadd) 1 1118 := ⟨by decide +kernel, rfl⟩
theorem dL_1118 : D code 1118 (.iaload) 1 1119 := ⟨by decide +kernel, rfl⟩
theorem dL_1119 : D code 1119 (.i2l) 1 1120 := ⟨by decide +kernel, rfl⟩
theorem dL_1120 : D code 1120 (.ldc2_w 145) 3 1123 := ⟨by decide +kernel, rfl⟩
theorem dL_1123 : D code 1123 (.land) 1 1124 := ⟨by decide +kernel, rfl⟩
theorem dL_1124 : D code 1124 (.lor) 1 1125 := ⟨by decide +kernel, rfl⟩
theorem dL_1125 : D code 1125 (.invokevirtual 151) 3 1128 := ⟨by decide +kernel, rfl⟩
theorem dL_1128 : D code 1128 (.if_icmp .eq 102) 3 1131 := ⟨by decide +kernel, rfl⟩
theorem dL_1131 : D code 1131 (.iconst 0) 1 1132 := ⟨by decide +kernel, rfl⟩
theorem dL_1132 : D code 1132 (.ireturn) 1 1133 := ⟨by decide +kernel, rfl⟩
theorem dL_1133 : D code 1133 (.aload_n 1) 1 1134 := ⟨by decide +kernel, rfl⟩
theorem dL_1134 : D code 1134 (.aload_n 0) 1 1135 := ⟨by decide +kernel, rfl⟩
theorem dL_1135 : D code 1135 (.iload_n 3) 1 1136 := ⟨by decide +kernel, rfl⟩
theorem dL_1136 : D code 1136 (.iconst 1) 1 1137 := ⟨by decide +kernel, rfl⟩
theorem dL_1137 : D code 1137 (.iadd) 1 1138 := ⟨by decide +kernel, rfl⟩
theorem dL_1138 : D code 1138 (.iaload) 1 1139 := ⟨by decide +kernel, rfl⟩
theorem dL_1139 : D code 1139 (.aload_n 0) 1 1140 := ⟨by decide +kernel, rfl⟩
theorem dL_1140 : D code 1140 (.iload_n 3) 1 1141 := ⟨by decide +kernel, rfl⟩
theorem dL_1141 : D code 1141 (.iconst 2) 1 1142 := ⟨by decide +kernel, rfl⟩
theorem dL_1142 : D code 1142 (.iadd) 1 1143 := ⟨by decide +kernel, rfl⟩
theorem dL_1143 : D code 1143 (.iaload) 1 1144 := ⟨by decide +kernel, rfl⟩
theorem dL_1144 : D code 1144 (.invokevirtual 152) 3 1147 := ⟨by decide +kernel, rfl⟩
theorem dL_1147 : D code 1147 (.aload_n 2) 1 1148 := ⟨by decide +kernel, rfl⟩
theorem dL_1148 : D code 1148 (.aload_n 0) 1 1149 := ⟨by decide +kernel, rfl⟩
theorem dL_1149 : D code 1149 (.iload_n 3) 1 1150 := ⟨by decide +kernel, rfl⟩
theorem dL_1150 : D code 1150 (.iconst 1) 1 1151 := ⟨by decide +kernel, rfl⟩
theorem dL_1151 : D code 1151 (.iadd) 1 1152 := ⟨by decide +kernel, rfl⟩
theorem dL_1152 : D code 1152 (.iaload) 1 1153 := ⟨by decide +kernel, rfl⟩
theorem dL_1153 : D code 1153 (.aload_n 0) 1 1154 := ⟨by decide +kernel, rfl⟩
theorem dL_1154 : D code 1154 (.iload_n 3) 1 1155 := ⟨by decide +kernel, rfl⟩
theorem dL_1155 : D code 1155 (.iconst 2) 1 1156 := ⟨by decide +kernel, rfl⟩
theorem dL_1156 : D code 1156 (.iadd) 1 1157 := ⟨by decide +kernel, rfl⟩
theorem dL_1157 : D code 1157 (.iaload) 1 1158 := ⟨by decide +kernel, rfl⟩
theorem dL_1158 : D code 1158 (.invokevirtual 155) 3 1161 := ⟨by decide +kernel, rfl⟩
theorem dL_1161 : D code 1161 (.lcmp) 1 1162 := ⟨by decide +kernel, rfl⟩
theorem dL_1162 : D code 1162 (.ifCond .eq 68) 3 1165 := ⟨by decide +kernel, rfl⟩
theorem dL_1165 : D code 1165 (.iconst 0) 1 1166 := ⟨by decide +kernel, rfl⟩
theorem dL_1166 : D code 1166 (.ireturn) 1 1167 := ⟨by decide +kernel, rfl⟩
theorem dL_1167 : D code 1167 (.aload_n 1) 1 1168 := ⟨by decide +kernel, rfl⟩
theorem dL_1168 : D code 1168 (.aload_n 0) 1 1169 := ⟨by decide +kernel, rfl⟩
theorem dL_1169 : D code 1169 (.iload_n 3) 1 1170 := ⟨by decide +kernel, rfl⟩
theorem dL_1170 : D code 1170 (.iconst 1) 1 1171 := ⟨by decide +kernel, rfl⟩
theorem dL_1171 : D code 1171 (.iadd) 1 1172 := ⟨by decide +kernel, rfl⟩
theorem dL_1172 : D code 1172 (.iaload) 1 1173 := ⟨by decide +kernel, rfl⟩
theorem dL_1173 : D code 1173 (.aload_n 0) 1 1174 := ⟨by decide +kernel, rfl⟩
theorem dL_1174 : D code 1174 (.iload_n 3) 1 1175 := ⟨by decide +kernel, rfl⟩
theorem dL_1175 : D code 1175 (.iconst 2) 1 1176 := ⟨by decide +kernel, rfl⟩
theorem dL_1176 : D code 1176 (.iadd) 1 1177 := ⟨by decide +kernel, rfl⟩
theorem dL_1177 : D code 1177 (.iaload) 1 1178 := ⟨by decide +kernel, rfl⟩
theorem dL_1178 : D code 1178 (.aload_n 0) 1 1179 := ⟨by decide +kernel, rfl⟩
theorem dL_1179 : D code 1179 (.iload_n 3) 1 1180 := ⟨by decide +kernel, rfl⟩
theorem dL_1180 : D code 1180 (.iconst 3) 1 1181 := ⟨by decide +kernel, rfl⟩
theorem dL_1181 : D code 1181 (.iadd) 1 1182 := ⟨by decide +kernel, rfl⟩
theorem dL_1182 : D code 1182 (.iaload) 1 1183 := ⟨by decide +kernel, rfl⟩
theorem dL_1183 : D code 1183 (.aload_n 0) 1 1184 := ⟨by decide +kernel, rfl⟩
theorem dL_1184 : D code 1184 (.iload_n 3) 1 1185 := ⟨by decide +kernel, rfl⟩
theorem dL_1185 : D code 1185 (.iconst 4) 1 1186 := ⟨by decide +kernel, rfl⟩
theorem dL_1186 : D code 1186 (.iadd) 1 1187 := ⟨by decide +kernel, rfl⟩
theorem dL_1187 : D code 1187 (.iaload) 1 1188 := ⟨by decide +kernel, rfl⟩
theorem dL_1188 : D code 1188 (.aload_n 0) 1 1189 := ⟨by decide +kernel, rfl⟩
theorem dL_1189 : D code 1189 (.iload_n 3) 1 1190 := ⟨by decide +kernel, rfl⟩
theorem dL_1190 : D code 1190 (.iconst 5) 1 1191 := ⟨by decide +kernel, rfl⟩
theorem dL_1191 : D code 1191 (.iadd) 1 1192 := ⟨by decide +kernel, rfl⟩
theorem dL_1192 : D code 1192 (.iaload) 1 1193 := ⟨by decide +kernel, rfl⟩
theorem dL_1193 : D code 1193 (.invokevirtual 156) 3 1196 := ⟨by decide +kernel, rfl⟩
theorem dL_1196 : D code 1196 (.aload_n 2) 1 1197 := ⟨by decide +kernel, rfl⟩
theorem dL_1197 : D code 1197 (.aload_n 0) 1 1198 := ⟨by decide +kernel, rfl⟩
theorem dL_1198 : D code 1198 (.iload_n 3) 1 1199 := ⟨by decide +kernel, rfl⟩
theorem dL_1199 : D code 1199 (.iconst 1) 1 1200 := ⟨by decide +kernel, rfl⟩
theorem dL_1200 : D code 1200 (.iadd) 1 1201 := ⟨by decide +kernel, rfl⟩
theorem dL_1201 : D code 1201 (.iaload) 1 1202 := ⟨by decide +kernel, rfl⟩
theorem dL_1202 : D code 1202 (.aload_n 0) 1 1203 := ⟨by decide +kernel, rfl⟩
theorem dL_1203 : D code 1203 (.iload_n 3) 1 1204 := ⟨by decide +kernel, rfl⟩
theorem dL_1204 : D code 1204 (.iconst 2) 1 1205 := ⟨by decide +kernel, rfl⟩
theorem dL_1205 : D code 1205 (.iadd) 1 1206 := ⟨by decide +kernel, rfl⟩
theorem dL_1206 : D code 1206 (.iaload) 1 1207 := ⟨by decide +kernel, rfl⟩
theorem dL_1207 : D code 1207 (.aload_n 0) 1 1208 := ⟨by decide +kernel, rfl⟩
theorem dL_1208 : D code 1208 (.iload_n 3) 1 1209 := ⟨by decide +kernel, rfl⟩
theorem dL_1209 : D code 1209 (.iconst 3) 1 1210 := ⟨by decide +kernel, rfl⟩
theorem dL_1210 : D code 1210 (.iadd) 1 1211 := ⟨by decide +kernel, rfl⟩
theorem dL_1211 : D code 1211 (.iaload) 1 1212 := ⟨by decide +kernel, rfl⟩
theorem dL_1212 : D code 1212 (.aload_n 0) 1 1213 := ⟨by decide +kernel, rfl⟩
theorem dL_1213 : D code 1213 (.iload_n 3) 1 1214 := ⟨by decide +kernel, rfl⟩
theorem dL_1214 : D code 1214 (.iconst 4) 1 1215 := ⟨by decide +kernel, rfl⟩
theorem dL_1215 : D code 1215 (.iadd) 1 1216 := ⟨by decide +kernel, rfl⟩
theorem dL_1216 : D code 1216 (.iaload) 1 1217 := ⟨by decide +kernel, rfl⟩
theorem dL_1217 : D code 1217 (.aload_n 0) 1 1218 := ⟨by decide +kernel, rfl⟩
theorem dL_1218 : D code 1218 (.iload_n 3) 1 1219 := ⟨by decide +kernel, rfl⟩
theorem dL_1219 : D code 1219 (.iconst 5) 1 1220 := ⟨by decide +kernel, rfl⟩
theorem dL_1220 : D code 1220 (.iadd) 1 1221 := ⟨by decide +kernel, rfl⟩
theorem dL_1221 : D code 1221 (.iaload) 1 1222 := ⟨by decide +kernel, rfl⟩
theorem dL_1222 : D code 1222 (.invokevirtual 160) 3 1225 := ⟨by decide +kernel, rfl⟩
theorem dL_1225 : D code 1225 (.if_icmp .eq 5) 3 1228 := ⟨by decide +kernel, rfl⟩
theorem dL_1228 : D code 1228 (.iconst 0) 1 1229 := ⟨by decide +kernel, rfl⟩
theorem dL_1229 : D code 1229 (.ireturn) 1 1230 := ⟨by decide +kernel, rfl⟩
theorem dL_1230 : D code 1230 (.iinc 3 6) 3 1233 := ⟨by decide +kernel, rfl⟩
theorem dL_1233 : D code 1233 (.goto (-1215)) 3 1236 := ⟨by decide +kernel, rfl⟩
theorem dL_1236 : D code 1236 (.iconst 1) 1 1237 := ⟨by decide +kernel, rfl⟩
theorem dL_1237 : D code 1237 (.ireturn) 1 1238 := ⟨by decide +kernel, rfl⟩
abbrev LCx (p : Program) (s : State) (m : MethodId) (meth : Method) (c : Code) (E : RE) (b L : Nat) (xs : Nat → Int32) : Prop :=
  p.tables.exec = Jvm.exec ∧ c.code = code ∧ meth.sig.returnType = ret ∧ c.maxLocals = 4 ∧ s.vm.findClass R_law = some m.cls ∧ (∀ w ∈ wsT, w.before #[Value.ref b] s = true) ∧ va_X b L xs s s.heap ∧ b < s.heap.size ∧ meth.locks = false ∧ Kn E s ∧ rB E = s.heap.size ∧ rH E = s.heap ∧ rK E 8 = b
def VS (p : Program) (l : Launch) (e : Env) (s : State) (m : MethodId) (below : List Frame) (meth : Method) (c : Code) (E : RE) (b : Nat) (pc : Nat) (ls : List (Nat × Value)) (st : List Value) (h : PH) (cells slots : Nat) : Prop :=
  ∀ (H : Heap) (locs : List Loc) (Ls : Array Slot), lv_has Ls 4 (trL E ls) → HOk E h H → (∀ x ∈ locs, rB E ≤ x.base) → W p l e room_1 s m #[Value.ref b] below meth c H locs cells slots (lw_Z below #[Value.ref b] s) (F0 m pc Ls (st.map (tr E)))
section VSR
variable {p : Program} {l : Launch} {e : Env} {s : State} {m : MethodId} {below : List Frame} {meth : Method} {c : Code} {E : RE} {b L : Nat} {xs : Nat → Int32} {pc nx : Nat} {ls : List (Nat × Value)} {st stk : List Value} {h : PH} {cells slots : Nat}
theorem VS.iconst (C : LCx p s m meth c E b L xs) {n : Int} {v : Int32} (hv : Int32.ofInt n = v) (hd : D code pc (.iconst n) 1 nx) (k : VS p l e s m below meth c E b nx ls (.int v :: st) h cells slots) : VS p l e s m below meth c E b pc ls st h cells slots := by
  obtain ⟨hd, rfl⟩ := hd
  intro H locs Ls hL hH hl
  exact lv_iconst C.1 C.2.1 hd hv (k H locs Ls hL hH hl)
theorem VS.bipush (C : LCx p s m meth c E b L xs) {n : Int} {v : Int32} (hv : (Int8.ofInt n).toInt32 = v) (hd : D code pc (.bipush n) 2 nx) (k : VS p l e s m below meth c E b nx ls (.int v :: st) h cells slots) : VS p l e s m below meth c E b pc ls st h cells slots := by
  obtain ⟨hd, rfl⟩ := hd
  intro H locs Ls hL hH hl
  exact lv_bipush C.1 C.2.1 hd hv (k H locs Ls hL hH hl)
theorem VS.iload_n (C : LCx p s m meth c E b L xs) (t : Nat) {j : Fin 4} {i : Nat} (hi : (j : Nat) = i) {x : Int32} (ht : ls[t]? = some (i, .int x)) (hd : D code pc (.iload_n j) 1 nx) (k : VS p l e s m below meth c E b nx ls (.int x :: st) h cells slots) : VS p l e s m below meth c E b pc ls st h cells slots := by
  obtain ⟨hd, rfl⟩ := hd
  intro H locs Ls hL hH hl
  exact lv_iload_n C.1 C.2.1 hd hi (tr_mem hL t ht) (k H locs Ls hL hH hl)
theorem VS.aload_n (C : LCx p s m meth c E b L xs) (t : Nat) {j : Fin 4} {i : Nat} (hi : (j : Nat) = i) {x : Nat} (ht : ls[t]? = some (i, .ref x)) (hd : D code pc (.aload_n j) 1 nx) (k : VS p l e s m below meth c E b nx ls (.ref x :: st) h cells slots) : VS p l e s m below meth c E b pc ls st h cells slots := by
  obtain ⟨hd, rfl⟩ := hd
  intro H locs Ls hL hH hl
  exact lv_aload_n C.1 C.2.1 hd hi (tr_mem hL t ht) (k H locs Ls hL hH hl)
theorem VS.aload_nS (C : LCx p s m meth c E b L xs) (t : Nat) {j : Fin 4} {i : Nat} (hi : (j : Nat) = i) {x : UInt32} (ht : ls[t]? = some (i, .float x)) (hd : D code pc (.aload_n j) 1 nx) (k : VS p l e s m below meth c E b nx ls (.float x :: st) h cells slots) : VS p l e s m below meth c E b pc ls st h cells slots := by
  obtain ⟨hd, rfl⟩ := hd
  intro H locs Ls hL hH hl
  exact lv_aload_n C.1 C.2.1 hd hi (tr_mem hL t ht) (k H locs Ls hL hH hl)
theorem VS.istore_n (C : LCx p s m meth c E b L xs) {j : Fin 4} {i : Nat} (hi : (j : Nat) = i) {x : Int32} {ls' : List (Nat × Value)} (hn : i < 4) (hl' : (i, .int x) :: ls.filter (fun q => !(q.1 == i) && !(q.1 + 1 == i && q.2.category == 2)) = ls') (hd : D code pc (.istore_n j) 1 nx) (k : VS p l e s m below meth c E b nx ls' st h cells slots) : VS p l e s m below meth c E b pc ls (.int x :: st) h cells slots := by
  obtain ⟨hd, rfl⟩ := hd
  intro H locs Ls hL hH hl
  exact lv_istore_n C.1 C.2.1 hd hi hL hn (tr_st1 hl') (fun L' hL' => k H locs L' hL' hH hl)
theorem VS.astore_n (C : LCx p s m meth c E b L xs) {j : Fin 4} {i : Nat} (hi : (j : Nat) = i) {x : Nat} {ls' : List (Nat × Value)} (hn : i < 4) (hl' : (i, .ref x) :: ls.filter (fun q => !(q.1 == i) && !(q.1 + 1 == i && q.2.category == 2)) = ls') (hd : D code pc (.astore_n j) 1 nx) (k : VS p l e s m below meth c E b nx ls' st h cells slots) : VS p l e s m below meth c E b pc ls (.ref x :: st) h cells slots := by
  obtain ⟨hd, rfl⟩ := hd
  intro H locs Ls hL hH hl
  exact lv_astore_n C.1 C.2.1 hd hi hL hn (tr_st1 hl') (fun L' hL' => k H locs L' hL' hH hl)
theorem VS.iinc (C : LCx p s m meth c E b L xs) (t : Nat) {i : Nat} {n : Int} {x v : Int32} {ls' : List (Nat × Value)} (ht : ls[t]? = some (i, .int x)) (hv : x + Int32.ofInt n = v) (hn : i < 4) (hl' : (i, .int v) :: ls.filter (fun q => !(q.1 == i) && !(q.1 + 1 == i && q.2.category == 2)) = ls') (hd : D code pc (.iinc i n) 3 nx) (k : VS p l e s m below meth c E b nx ls' st h cells slots) : VS p l e s m below meth c E b pc ls st h cells slots := by
  obtain ⟨hd, rfl⟩ := hd
  intro H locs Ls hL hH hl
  exact lv_iinc (k := t) C.1 C.2.1 hd hL (by show (ls.map _)[t]? = _; rw [List.getElem?_map, ht]; rfl) hv hn (tr_st1 hl') (fun L' hL' => k H locs L' hL' hH hl)
theorem VS.iadd (C : LCx p s m meth c E b L xs) {x y : Int32} (hd : D code pc (.iadd) 1 nx) (k : VS p l e s m below meth c E b nx ls (.int (x + y) :: st) h cells slots) : VS p l e s m below meth c E b pc ls (.int y :: .int x :: st) h cells slots := by
  obtain ⟨hd, rfl⟩ := hd
  intro H locs Ls hL hH hl
  exact lv_iadd C.1 C.2.1 hd (k H locs Ls hL hH hl)
theorem VS.isub (C : LCx p s m meth c E b L xs) {x y : Int32} (hd : D code pc (.isub) 1 nx) (k : VS p l e s m below meth c E b nx ls (.int (x - y) :: st) h cells slots) : VS p l e s m below meth c E b pc ls (.int y :: .int x :: st) h cells slots := by
  obtain ⟨hd, rfl⟩ := hd
  intro H locs Ls hL hH hl
  exact lv_isub C.1 C.2.1 hd (k H locs Ls hL hH hl)
theorem VS.iand (C : LCx p s m meth c E b L xs) {x y : Int32} (hd : D code pc (.iand) 1 nx) (k : VS p l e s m below meth c E b nx ls (.int (x &&& y) :: st) h cells slots) : VS p l e s m below meth c E b pc ls (.int y :: .int x :: st) h cells slots := by
  obtain ⟨hd, rfl⟩ := hd
  intro H locs Ls hL hH hl
  exact lv_iand C.1 C.2.1 hd (k H locs Ls hL hH hl)
theorem VS.land (C : LCx p s m meth c E b L xs) {x y : Int64} (hd : D code pc (.land) 1 nx) (k : VS p l e s m below meth c E b nx ls (.long (x &&& y) :: st) h cells slots) : VS p l e s m below meth c E b pc ls (.long y :: .long x :: st) h cells slots := by
  obtain ⟨hd, rfl⟩ := hd
  intro H locs Ls hL hH hl
  exact lv_land C.1 C.2.1 hd (k H locs Ls hL hH hl)
theorem VS.lor (C : LCx p s m meth c E b L xs) {x y : Int64} (hd : D code pc (.lor) 1 nx) (k : VS p l e s m below meth c E b nx ls (.long (x ||| y) :: st) h cells slots) : VS p l e s m below meth c E b pc ls (.long y :: .long x :: st) h cells slots := by
  obtain ⟨hd, rfl⟩ := hd
  intro H locs Ls hL hH hl
  exact lv_lor C.1 C.2.1 hd (k H locs Ls hL hH hl)
theorem VS.lshl (C : LCx p s m meth c E b L xs) {x : Int64} {y : Int32} (hd : D code pc (.lshl) 1 nx) (k : VS p l e s m below meth c E b nx ls (.long (x <<< (y.toInt64 &&& 63)) :: st) h cells slots) : VS p l e s m below meth c E b pc ls (.int y :: .long x :: st) h cells slots := by
  obtain ⟨hd, rfl⟩ := hd
  intro H locs Ls hL hH hl
  exact lv_lshl C.1 C.2.1 hd rfl (k H locs Ls hL hH hl)
theorem VS.i2l (C : LCx p s m meth c E b L xs) {x : Int32} (hd : D code pc (.i2l) 1 nx) (k : VS p l e s m below meth c E b nx ls (.long x.toInt64 :: st) h cells slots) : VS p l e s m below meth c E b pc ls (.int x :: st) h cells slots := by
  obtain ⟨hd, rfl⟩ := hd
  intro H locs Ls hL hH hl
  exact lv_i2l C.1 C.2.1 hd rfl (k H locs Ls hL hH hl)
theorem VS.dup (C : LCx p s m meth c E b L xs) {v : Value} (hv : v.category = 1) (hd : D code pc (.dup) 1 nx) (k : VS p l e s m below meth c E b nx ls (v :: v :: st) h cells slots) : VS p l e s m below meth c E b pc ls (v :: st) h cells slots := by
  obtain ⟨hd, rfl⟩ := hd
  intro H locs Ls hL hH hl
  exact lv_dup C.1 C.2.1 hd (by rw [tr_cat]; exact hv) (k H locs Ls hL hH hl)
theorem VS.lcmp (C : LCx p s m meth c E b L xs) {x y : Int64} (hd : D code pc (.lcmp) 1 nx) (k : VS p l e s m below meth c E b nx ls (.int (lg_cmp x y) :: st) h cells slots) : VS p l e s m below meth c E b pc ls (.long y :: .long x :: st) h cells slots := by
  obtain ⟨hd, rfl⟩ := hd
  intro H locs Ls hL hH hl
  exact W.lcmp C.1 C.2.1 hd (k H locs Ls hL hH hl)
theorem VS.if_eq (C : LCx p s m meth c E b L xs) {x : Int32} {off : Int} {tgt : Nat} (ht : (pc : Int) + off = (tgt : Int)) (hd : D code pc (.ifCond .eq off) 3 nx) (k1 : x = 0 → VS p l e s m below meth c E b tgt ls st h cells slots) (k2 : ¬ x = 0 → VS p l e s m below meth c E b nx ls st h cells slots) : VS p l e s m below meth c E b pc ls (.int x :: st) h cells slots := by
  obtain ⟨hd, rfl⟩ := hd
  intro H locs Ls hL hH hl
  exact lv_if_eq C.1 C.2.1 hd ht (fun z => k1 z H locs Ls hL hH hl) (fun z => k2 z H locs Ls hL hH hl)
theorem VS.icmp_eq (C : LCx p s m meth c E b L xs) {x y : Int32} {off : Int} {tgt : Nat} (ht : (pc : Int) + off = (tgt : Int)) (hd : D code pc (.if_icmp .eq off) 3 nx) (k1 : x = y → VS p l e s m below meth c E b tgt ls st h cells slots) (k2 : ¬ x = y → VS p l e s m below meth c E b nx ls st h cells slots) : VS p l e s m below meth c E b pc ls (.int y :: .int x :: st) h cells slots := by
  obtain ⟨hd, rfl⟩ := hd
  intro H locs Ls hL hH hl
  exact lv_icmp_eq C.1 C.2.1 hd ht (fun z => k1 z H locs Ls hL hH hl) (fun z => k2 z H locs Ls hL hH hl)
theorem VS.icmp_gt (C : LCx p s m meth c E b L xs) {x y : Int32} {off : Int} {tgt : Nat} (ht : (pc : Int) + off = (tgt : Int)) (hd : D code pc (.if_icmp .gt off) 3 nx) (k1 : y < x → VS p l e s m below meth c E b tgt ls st h cells slots) (k2 : ¬ y < x → VS p l e s m below meth c E b nx ls st h cells slots) : VS p l e s m below meth c E b pc ls (.int y :: .int x :: st) h cells slots := by
  obtain ⟨hd, rfl⟩ := hd
  intro H locs Ls hL hH hl
  exact lv_icmp_gt C.1 C.2.1 hd ht (fun z => k1 z H locs Ls hL hH hl) (fun z => k2 z H locs Ls hL hH hl)
theorem VS.goto (C : LCx p s m meth c E b L xs) {off : Int} {tgt : Nat} (ht : (pc : Int) + off = (tgt : Int)) (hd : D code pc (.goto off) 3 nx) (k : VS p l e s m below meth c E b tgt ls st h cells slots) : VS p l e s m below meth c E b pc ls st h cells slots := by
  obtain ⟨hd, rfl⟩ := hd
  intro H locs Ls hL hH hl
  exact lv_goto C.1 C.2.1 hd ht (k H locs Ls hL hH hl)
theorem VS.tabIn (C : LCx p s m meth c E b L xs) {dflt lo hi : Int} {offs : Array Int} {len : Nat} {x : Int32} {off : Int} {tgt : Nat} (h1 : ¬ x.toInt < lo) (h2 : ¬ hi < x.toInt) (ho : offs[(x.toInt - lo).toNat]? = some off) (ht : (pc : Int) + off = (tgt : Int)) (hd : D code pc (.tableswitch dflt lo hi offs) len nx) (k : VS p l e s m below meth c E b tgt ls st h cells slots) : VS p l e s m below meth c E b pc ls (.int x :: st) h cells slots := by
  obtain ⟨hd, rfl⟩ := hd
  intro H locs Ls hL hH hl
  exact lv_tableIn C.1 C.2.1 hd h1 h2 ho ht (k H locs Ls hL hH hl)
theorem VS.tabOut (C : LCx p s m meth c E b L xs) {dflt lo hi : Int} {offs : Array Int} {len : Nat} {x : Int32} {tgt : Nat} (h1 : x.toInt < lo ∨ hi < x.toInt) (ht : (pc : Int) + dflt = (tgt : Int)) (hd : D code pc (.tableswitch dflt lo hi offs) len nx) (k : VS p l e s m below meth c E b tgt ls st h cells slots) : VS p l e s m below meth c E b pc ls (.int x :: st) h cells slots := by
  obtain ⟨hd, rfl⟩ := hd
  intro H locs Ls hL hH hl
  exact lv_tableOut C.1 C.2.1 hd h1 ht (k H locs Ls hL hH hl)
theorem VS.ldc2 (C : LCx p s m meth c E b L xs) {i : Nat} {v : Int64} (hw : Cond.constantLong R_law i v ∈ wsT) (hd : D code pc (.ldc2_w i) 3 nx) (k : VS p l e s m below meth c E b nx ls (.long v :: st) h cells slots) : VS p l e s m below meth c E b pc ls st h cells slots := by
  obtain ⟨hd, rfl⟩ := hd
  intro H locs Ls hL hH hl
  exact lv_ldc2 C.1 C.2.1 C.2.2.2.2.1 (C.2.2.2.2.2.1 _ hw) hd (k H locs Ls hL hH hl)
theorem VS.wk {ls' : List (Nat × Value)} (hs : ∀ x ∈ ls', x ∈ ls) (k : VS p l e s m below meth c E b pc ls' st h cells slots) : VS p l e s m below meth c E b pc ls st h cells slots := by
  intro H locs Ls hL
  refine k H locs Ls ⟨hL.1, hL.2.1, fun x hx => ?_⟩
  obtain ⟨y, hy, rfl⟩ := List.mem_map.mp hx
  exact hL.2.2 _ (List.mem_map.mpr ⟨y, hs y hy, rfl⟩)
theorem VS.topi {x y : Int32} (e1 : x = y) (k : VS p l e s m below meth c E b pc ls (.int y :: st) h cells slots) : VS p l e s m below meth c E b pc ls (.int x :: st) h cells slots := e1 ▸ k
theorem VS.same {g : PH} (e1 : Same h g) (k : VS p l e s m below meth c E b pc ls st g cells slots) : VS p l e s m below meth c E b pc ls st h cells slots := fun H locs Ls hL hH hl => k H locs Ls hL (hH.congr e1.1 e1.2) hl
theorem VS.widen {c' s' : Nat} (h1 : cells ≤ c') (h2 : slots ≤ s') (k : VS p l e s m below meth c E b pc ls st h c' s') : VS p l e s m below meth c E b pc ls st h cells slots := fun H locs Ls hL hH hl => W.widen h1 h2 (k H locs Ls hL hH hl)
theorem LCx.scr (C : LCx p s m meth c E b L xs) {H : Heap} (hH : HOk E h H) : va_X b L xs s H := C.2.2.2.2.2.2.1.kept (by rw [hH.2.1 b (by rw [C.2.2.2.2.2.2.2.2.2.2.1]; exact C.2.2.2.2.2.2.2.1), C.2.2.2.2.2.2.2.2.2.2.2.1])
theorem VS.slen (C : LCx p s m meth c E b L xs) (hd : D code pc .arraylength 1 nx) (k : VS p l e s m below meth c E b nx ls (.int (Int32.ofNat L) :: st) h cells slots) : VS p l e s m below meth c E b pc ls (.float 8 :: st) h cells slots := by
  obtain ⟨hd, rfl⟩ := hd
  intro H locs Ls hL hH hl
  obtain ⟨scr, g1, g2, g3, g4, -⟩ := C.scr hH
  have e8 : tr E (.float 8) = .ref b := congrArg Value.ref C.2.2.2.2.2.2.2.2.2.2.2.2
  show W p l e room_1 s m _ below meth c H locs cells slots _ (F0 m pc Ls (tr E (.float 8) :: st.map (tr E)))
  rw [e8]
  exact W.alen C.1 C.2.1 g1 g2 (by rw [g4]) rfl rfl hd (k H locs Ls hL hH hl)
theorem VS.sld (C : LCx p s m meth c E b L xs) {j : Nat} (hj : j < L) (hL2 : L ≤ 3072) (hd : D code pc .iaload 1 nx) (k : VS p l e s m below meth c E b nx ls (.int (xs j) :: st) h cells slots) : VS p l e s m below meth c E b pc ls (.int (nI j) :: .float 8 :: st) h cells slots := by
  obtain ⟨hd, rfl⟩ := hd
  intro H locs Ls hL hH hl
  obtain ⟨scr, g1, g2, g3, g4, g5⟩ := C.scr hH
  have e8 : tr E (.float 8) = .ref b := congrArg Value.ref C.2.2.2.2.2.2.2.2.2.2.2.2
  show W p l e room_1 s m _ below meth c H locs cells slots _ (F0 m pc Ls (.int (nI j) :: tr E (.float 8) :: st.map (tr E)))
  rw [e8]
  have hc : (nI j).toNatClampNeg = j := nI_clamp (by omega)
  refine W.iald C.1 C.2.1 g1 g2 g3 ?_ (v := .int (xs j)) ?_ rfl rfl hd (k H locs Ls hL hH hl)
  · rw [hc, g4]
    rintro (z | z)
    · exact nI_pos (by omega) z
    · omega
  · rw [hc]; exact g5 j hj
theorem VS.ret (C : LCx p s m meth c E b L xs) (hc : cells ≤ 600000) (hss : slots ≤ 7302250) (hd : D code pc .ireturn 1 nx) : VS p l e s m below meth c E b pc ls [.int 1] h cells slots := by
  obtain ⟨hd, rfl⟩ := hd
  intro H locs Ls hL hH hl
  refine W.widen hc hss ?_
  refine va_forget (fun q hq => ?_) ?_
  · have := hl q hq
    rw [C.2.2.2.2.2.2.2.2.2.2.1] at this
    exact this
  · exact lw_ret C.1 C.2.1 C.2.2.1 C.2.2.2.2.2.2.2.2.1 hd
theorem VS.run {as : List Value} {Q2 : Option Value → PH → Prop} {mc2 ms2 : Nat} {a : Array Value} (kk : ∀ (v : Option Value) (hh : PH), Q2 v hh → VS p l e s m below meth c E b (pc + 3) ls (v.toList ++ st) hh (cells + mc2) (slots + ms2)) {H : Heap} {locs : List Loc} {Ls : Array Slot}
    (hL : lv_has Ls 4 (trL E ls)) (hH : HOk E h H) (hl : ∀ x ∈ locs, rB E ≤ x.base)
    (hr : va_Run p l e room_1 s m #[Value.ref b] below meth c H locs cells slots mc2 ms2 (F0 m pc Ls (stk.map (tr E))) (st.map (tr E)) (QcM E h Q2 a) (fun a => rB E ≤ a)) :
    W p l e room_1 s m #[Value.ref b] below meth c H locs cells slots (lw_Z below #[Value.ref b] s) (F0 m pc Ls (stk.map (tr E))) := by
  intro T hT X
  obtain ⟨w, st₀, t, T', Lc, e0, X', hLf, e1, e2, ⟨v, hh, hv, hQ, hS, hH', hF'⟩, stp⟩ := hr T hT X
  have hv := Outcome.returned.inj hv
  subst hv
  obtain ⟨t2, a1, b1⟩ := kk v hh hQ T'.heap (locs ++ Lc) Ls hL (by rw [e1]; exact hH') (fun x hx => by
      rcases List.mem_append.mp hx with h1 | h1
      · exact hl x h1
      · exact hLf x h1) T' rfl X'
  refine ⟨t2, stp t2 ?_, b1⟩
  have hst : (v.toList ++ st).map (tr E) = (v.map (tr E)).toList ++ st.map (tr E) := by cases v <;> simp
  rw [hst] at a1
  exact a1
theorem VS.callV (C : LCx p s m meth c E b L xs) {q2 : MI} {d2 : Nat} (as : List Value) {a cn i : Nat} {fs : List Value} {r : vw_C} {Q2 : Option Value → PH → Prop} {mc2 ms2 : Nat} (hS : Sem l q2 d2 (.ref a :: as) h Q2 mc2 ms2) (ho : lk h a = some (cn, fs)) (hr : vwCl[cn]? = some r) (hw : jV r.1 q2 as.length) (hm : Cond.methodLink R_law i q2.1 ∈ wsT)
    (hst : stk = as.reverse ++ .ref a :: st) (hc : (st.map fun v => v.category).sum ≤ 8) (hd2 : d2 ≤ 1000) (hcc : cells + mc2 ≤ 600000) (hss : slots + ms2 ≤ 7302250) (hd : D code pc (.invokevirtual i) 3 nx)
    (kk : ∀ (v : Option Value) (hh : PH), Q2 v hh → VS p l e s m below meth c E b nx ls (v.toList ++ st) hh (cells + mc2) (slots + ms2)) : VS p l e s m below meth c E b pc ls stk h cells slots := by
  obtain ⟨hd, rfl⟩ := hd
  intro H locs Ls hL hH hl
  obtain ⟨hx, hb, hrt, hml, hown, hts, hX, hbl, hlo, hK, hB, hHH, h8⟩ := id C
  obtain ⟨cell, q1, hmt⟩ := hH.2.2 a _ ho
  obtain ⟨m1, m2, m3, m4⟩ := hmt.obj hr
  obtain ⟨⟨w1, w2, w3, w4⟩, w5, w6⟩ := hw
  have hg := mW_good w1 rfl
  refine VS.run (as := as) kk hL hH hl (a := (Value.ref (rB E + a) :: as.map (tr E)).toArray) ?_
  subst hst
  exact va_runV (As := as.map (tr E)) (rest := st.map (tr E)) (n := as.length) ⟨hx, hb, hml, hown, hts⟩ (hS E) ⟨⟨rfl, rfl, by show d2 + 1 ≤ 2048; omega, by show 8 + (q2.2.2.1 + 11) + d2 * 40 ≤ 84000; omega, pay_in hts hg, List.mem_cons_self, hts _ w1, hts _ w2, ⟨w3.1, w3.2.1⟩, fun sig hsig => by have h2 := w3.2.2; rw [hsig] at h2; exact (Option.some.inj h2).symm, hts _ hm⟩, hts _ w5, hts _ w6⟩
    ⟨PcM.blind, ⟨cell, q1, by rw [m1]; rfl, by rw [m3]; exact (hK.1 cn r hr).2.1⟩, fun U hU hW => ⟨rfl, by rw [hU]; exact hH, hK.warm hW⟩⟩ rfl (by simp) hL.1 (by simp [tr, List.map_reverse]) (lv_room (by simpa [Function.comp_def, tr_cat] using hc)) hd ⟨hcc, hss⟩
theorem VS.callI (C : LCx p s m meth c E b L xs) {q2 : MI} {d2 : Nat} (as : List Value) {a i : Nat} {Q2 : Option Value → PH → Prop} {mc2 ms2 : Nat} (hS : Sem l q2 d2 (.ref a :: as) h Q2 mc2 ms2) (hw : jI q2 as.length) (hrn : q2.2.2.2.1 = none) (hm : Cond.methodLink R_law i q2.1 ∈ wsT)
    (hst : stk = as.reverse ++ .ref a :: st) (hc : (st.map fun v => v.category).sum ≤ 8) (hd2 : d2 ≤ 1000) (hcc : cells + mc2 ≤ 600000) (hss : slots + ms2 ≤ 7302250) (hd : D code pc (.invokespecial i) 3 nx)
    (kk : ∀ (v : Option Value) (hh : PH), Q2 v hh → VS p l e s m below meth c E b nx ls (v.toList ++ st) hh (cells + mc2) (slots + ms2)) : VS p l e s m below meth c E b pc ls stk h cells slots := by
  obtain ⟨hd, rfl⟩ := hd
  intro H locs Ls hL hH hl
  obtain ⟨hx, hb, hrt, hml, hown, hts, hX, hbl, hlo, hK, hB, hHH, h8⟩ := id C
  obtain ⟨⟨w1, w2, w3, w4⟩, w5, w6⟩ := hw
  have hg := mW_good w1 rfl
  refine VS.run (as := as) kk hL hH hl (a := (Value.ref (rB E + a) :: as.map (tr E)).toArray) ?_
  subst hst
  rw [hrn] at w1
  exact va_runI (As := as.map (tr E)) (rest := st.map (tr E)) (n := as.length) (bytes := q2.2.1) (maxL := q2.2.2.1) ⟨hx, hb, hml, hown, hts⟩ (hS E) ⟨⟨rfl, rfl, by show d2 + 1 ≤ 2048; omega, by show 8 + (q2.2.2.1 + 11) + d2 * 40 ≤ 84000; omega, pay_in hts hg, by rw [← hrn]; exact List.mem_cons_self, hts _ w1, hts _ w2, ⟨w3.1, w3.2.1⟩, fun sig hsig => by have h2 := w3.2.2; rw [hsig] at h2; exact (Option.some.inj h2).symm, hts _ hm⟩, w6, hts _ w5⟩
    ⟨PcM.blind, fun U hU hW => ⟨rfl, by rw [hU]; exact hH, hK.warm hW⟩⟩ rfl (by simp) hL.1 (by simp [tr, List.map_reverse]) (lv_room (by simpa [Function.comp_def, tr_cat] using hc)) hd ⟨hcc, hss⟩
theorem VS.newc (C : LCx p s m meth c E b L xs) {cn i : Nat} {r : vw_C} {fs : List Value} (hr : vwCl[cn]? = some r) (hw1 : Cond.classLink R_law i r.1 ∈ wsT) (hw2 : Cond.instantiable r.1 r.2.2 ∈ wsT) (hw3 : Cond.initialized r.1 ∈ wsT) (hfs : (List.range r.2.2).map (fun k => defaultValue (tyC cn k)) = fs) (htr : ∀ E : RE, fs.map (tr E) = fs) (hcc : cells + 1 ≤ 600000) (hss : slots + r.2.2 ≤ 7302250) (hd : D code pc (.new i) 3 nx)
    (kk : VS p l e s m below meth c E b nx ls (.ref h.1 :: st) (nw h (cn, fs)) (cells + 1) (slots + r.2.2)) : VS p l e s m below meth c E b pc ls st h cells slots := by
  obtain ⟨hd, rfl⟩ := hd
  intro H locs Ls hL hH hl
  obtain ⟨hx, hb, hrt, hml, hown, hts, hX, hbl, hlo, hK, hB, hHH, h8⟩ := id C
  have hKn := hK.1 cn r hr
  refine W.newcK hx hb hown (hts _ hw1) (hts _ hw2) (hts _ hw3) rfl hd hcc hss hKn.2.1 rfl fun H1 kC hkC e1 z1 o1 => ?_
  obtain ⟨cell, g1, g2, g3, g4⟩ := u_born (tyC cn) hts (inC cn r hr) hKn hkC e1 (tyC_ok cn r hr)
  have hm : mt E (cn, fs) cell := by
    refine ⟨g3, Or.inl ⟨r, hr, by rw [← hfs]; simp, g2, fun k hk => ?_⟩⟩
    rw [g4 k hk]
    have h1 : (fs.map (tr E))[k]? = fs[k]? := by rw [htr E]
    have h2 : fs[k]? = some (defaultValue (tyC cn k)) := by rw [← hfs]; simp [hk]
    rw [List.getElem?_map, h2] at h1
    rw [List.getD_eq_getElem?_getD, h2]
    exact h1.symm
  have hk := kk H1 locs Ls hL (nwOk hH (fresh hH) g1 z1 o1 hm) hl
  rw [show H.size = rB E + h.1 from hH.1]
  exact hk
end VSR
