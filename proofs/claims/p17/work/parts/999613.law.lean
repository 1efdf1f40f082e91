abbrev cL_law : ByteArray := code
def yL_law : MethodName := ⟨RL, "law", "([I)Z"⟩
theorem dL_law_224 : decode cL_law 224 = .ok (.aload_n 1, 1) := by decide +kernel
theorem dL_law_225 : decode cL_law 225 = .ok (.aload_n 0, 1) := by decide +kernel
theorem dL_law_226 : decode cL_law 226 = .ok (.iload 4, 2) := by decide +kernel
theorem dL_law_228 : decode cL_law 228 = .ok (.iconst 1, 1) := by decide +kernel
theorem dL_law_229 : decode cL_law 229 = .ok (.iadd, 1) := by decide +kernel
theorem dL_law_230 : decode cL_law 230 = .ok (.iaload, 1) := by decide +kernel
theorem dL_law_231 : decode cL_law 231 = .ok (.aload_n 0, 1) := by decide +kernel
theorem dL_law_232 : decode cL_law 232 = .ok (.iload 4, 2) := by decide +kernel
theorem dL_law_234 : decode cL_law 234 = .ok (.iconst 2, 1) := by decide +kernel
theorem dL_law_235 : decode cL_law 235 = .ok (.iadd, 1) := by decide +kernel
theorem dL_law_236 : decode cL_law 236 = .ok (.iaload, 1) := by decide +kernel
theorem dL_law_237 : decode cL_law 237 = .ok (.aload_n 0, 1) := by decide +kernel
theorem dL_law_238 : decode cL_law 238 = .ok (.iload 4, 2) := by decide +kernel
theorem dL_law_240 : decode cL_law 240 = .ok (.iconst 3, 1) := by decide +kernel
theorem dL_law_241 : decode cL_law 241 = .ok (.iadd, 1) := by decide +kernel
theorem dL_law_242 : decode cL_law 242 = .ok (.iaload, 1) := by decide +kernel
theorem dL_law_243 : decode cL_law 243 = .ok (.aload_n 0, 1) := by decide +kernel
theorem dL_law_244 : decode cL_law 244 = .ok (.iload 4, 2) := by decide +kernel
theorem dL_law_246 : decode cL_law 246 = .ok (.iconst 4, 1) := by decide +kernel
theorem dL_law_247 : decode cL_law 247 = .ok (.iadd, 1) := by decide +kernel
theorem dL_law_248 : decode cL_law 248 = .ok (.iaload, 1) := by decide +kernel
theorem dL_law_249 : decode cL_law 249 = .ok (.aload_n 0, 1) := by decide +kernel
theorem dL_law_250 : decode cL_law 250 = .ok (.iload 4, 2) := by decide +kernel
theorem dL_law_252 : decode cL_law 252 = .ok (.iconst 5, 1) := by decide +kernel
theorem dL_law_253 : decode cL_law 253 = .ok (.iadd, 1) := by decide +kernel
theorem dL_law_254 : decode cL_law 254 = .ok (.iaload, 1) := by decide +kernel
theorem dL_law_255 : decode cL_law 255 = .ok (.invokevirtual 19, 3) := by decide +kernel
theorem dL_law_258 : decode cL_law 258 = .ok (.pop, 1) := by decide +kernel
theorem dL_law_259 : decode cL_law 259 = .ok (.aload_n 2, 1) := by decide +kernel
theorem dL_law_260 : decode cL_law 260 = .ok (.aload_n 0, 1) := by decide +kernel
theorem dL_law_261 : decode cL_law 261 = .ok (.iload 4, 2) := by decide +kernel
theorem dL_law_263 : decode cL_law 263 = .ok (.iconst 1, 1) := by decide +kernel
theorem dL_law_264 : decode cL_law 264 = .ok (.iadd, 1) := by decide +kernel
theorem dL_law_265 : decode cL_law 265 = .ok (.iaload, 1) := by decide +kernel
theorem dL_law_266 : decode cL_law 266 = .ok (.aload_n 0, 1) := by decide +kernel
theorem dL_law_267 : decode cL_law 267 = .ok (.iload 4, 2) := by decide +kernel
theorem dL_law_269 : decode cL_law 269 = .ok (.iconst 2, 1) := by decide +kernel
theorem dL_law_270 : decode cL_law 270 = .ok (.iadd, 1) := by decide +kernel
theorem dL_law_271 : decode cL_law 271 = .ok (.iaload, 1) := by decide +kernel
theorem dL_law_272 : decode cL_law 272 = .ok (.aload_n 0, 1) := by decide +kernel
theorem dL_law_273 : decode cL_law 273 = .ok (.iload 4, 2) := by decide +kernel
theorem dL_law_275 : decode cL_law 275 = .ok (.iconst 3, 1) := by decide +kernel
theorem dL_law_276 : decode cL_law 276 = .ok (.iadd, 1) := by decide +kernel
theorem dL_law_277 : decode cL_law 277 = .ok (.iaload, 1) := by decide +kernel
theorem dL_law_278 : decode cL_law 278 = .ok (.aload_n 0, 1) := by decide +kernel
theorem dL_law_279 : decode cL_law 279 = .ok (.iload 4, 2) := by decide +kernel
theorem dL_law_281 : decode cL_law 281 = .ok (.iconst 4, 1) := by decide +kernel
theorem dL_law_282 : decode cL_law 282 = .ok (.iadd, 1) := by decide +kernel
theorem dL_law_283 : decode cL_law 283 = .ok (.iaload, 1) := by decide +kernel
theorem dL_law_284 : decode cL_law 284 = .ok (.aload_n 0, 1) := by decide +kernel
theorem dL_law_285 : decode cL_law 285 = .ok (.iload 4, 2) := by decide +kernel
theorem dL_law_287 : decode cL_law 287 = .ok (.iconst 5, 1) := by decide +kernel
theorem dL_law_288 : decode cL_law 288 = .ok (.iadd, 1) := by decide +kernel
theorem dL_law_289 : decode cL_law 289 = .ok (.iaload, 1) := by decide +kernel
theorem dL_law_290 : decode cL_law 290 = .ok (.invokevirtual 23, 3) := by decide +kernel
theorem dL_law_293 : decode cL_law 293 = .ok (.pop, 1) := by decide +kernel
theorem dL_law_294 : decode cL_law 294 = .ok (.goto 1055, 3) := by decide +kernel
theorem dL_law_297 : decode cL_law 297 = .ok (.aload_n 1, 1) := by decide +kernel
theorem dL_law_298 : decode cL_law 298 = .ok (.aload_n 0, 1) := by decide +kernel
theorem dL_law_299 : decode cL_law 299 = .ok (.iload 4, 2) := by decide +kernel
theorem dL_law_301 : decode cL_law 301 = .ok (.iconst 1, 1) := by decide +kernel
theorem dL_law_302 : decode cL_law 302 = .ok (.iadd, 1) := by decide +kernel
theorem dL_law_303 : decode cL_law 303 = .ok (.iaload, 1) := by decide +kernel
theorem dL_law_304 : decode cL_law 304 = .ok (.invokevirtual 24, 3) := by decide +kernel
theorem dL_law_307 : decode cL_law 307 = .ok (.pop, 1) := by decide +kernel
theorem dL_law_308 : decode cL_law 308 = .ok (.aload_n 2, 1) := by decide +kernel
theorem dL_law_309 : decode cL_law 309 = .ok (.aload_n 0, 1) := by decide +kernel
theorem dL_law_310 : decode cL_law 310 = .ok (.iload 4, 2) := by decide +kernel
theorem dL_law_312 : decode cL_law 312 = .ok (.iconst 1, 1) := by decide +kernel
theorem dL_law_313 : decode cL_law 313 = .ok (.iadd, 1) := by decide +kernel
theorem dL_law_314 : decode cL_law 314 = .ok (.iaload, 1) := by decide +kernel
theorem dL_law_315 : decode cL_law 315 = .ok (.invokevirtual 28, 3) := by decide +kernel
theorem dL_law_318 : decode cL_law 318 = .ok (.pop, 1) := by decide +kernel
theorem dL_law_319 : decode cL_law 319 = .ok (.goto 1030, 3) := by decide +kernel
theorem dL_law_322 : decode cL_law 322 = .ok (.aload_n 1, 1) := by decide +kernel
theorem dL_law_323 : decode cL_law 323 = .ok (.aload_n 0, 1) := by decide +kernel
theorem dL_law_324 : decode cL_law 324 = .ok (.iload 4, 2) := by decide +kernel
theorem dL_law_326 : decode cL_law 326 = .ok (.iconst 1, 1) := by decide +kernel
theorem dL_law_327 : decode cL_law 327 = .ok (.iadd, 1) := by decide +kernel
theorem dL_law_328 : decode cL_law 328 = .ok (.iaload, 1) := by decide +kernel
theorem dL_law_329 : decode cL_law 329 = .ok (.invokevirtual 29, 3) := by decide +kernel
theorem dL_law_332 : decode cL_law 332 = .ok (.pop, 1) := by decide +kernel
theorem dL_law_333 : decode cL_law 333 = .ok (.aload_n 2, 1) := by decide +kernel
theorem dL_law_334 : decode cL_law 334 = .ok (.aload_n 0, 1) := by decide +kernel
theorem dL_law_335 : decode cL_law 335 = .ok (.iload 4, 2) := by decide +kernel
theorem dL_law_337 : decode cL_law 337 = .ok (.iconst 1, 1) := by decide +kernel
theorem dL_law_338 : decode cL_law 338 = .ok (.iadd, 1) := by decide +kernel
theorem dL_law_339 : decode cL_law 339 = .ok (.iaload, 1) := by decide +kernel
theorem dL_law_340 : decode cL_law 340 = .ok (.invokevirtual 33, 3) := by decide +kernel
theorem dL_law_343 : decode cL_law 343 = .ok (.pop, 1) := by decide +kernel
theorem dL_law_344 : decode cL_law 344 = .ok (.goto 1005, 3) := by decide +kernel
theorem dL_law_347 : decode cL_law 347 = .ok (.aload_n 1, 1) := by decide +kernel
theorem dL_law_348 : decode cL_law 348 = .ok (.aload_n 0, 1) := by decide +kernel
theorem dL_law_349 : decode cL_law 349 = .ok (.iload 4, 2) := by decide +kernel
theorem dL_law_351 : decode cL_law 351 = .ok (.iconst 1, 1) := by decide +kernel
theorem dL_law_352 : decode cL_law 352 = .ok (.iadd, 1) := by decide +kernel
theorem dL_law_353 : decode cL_law 353 = .ok (.iaload, 1) := by decide +kernel
theorem dL_law_354 : decode cL_law 354 = .ok (.invokevirtual 34, 3) := by decide +kernel
theorem dL_law_357 : decode cL_law 357 = .ok (.pop, 1) := by decide +kernel
theorem dL_law_358 : decode cL_law 358 = .ok (.aload_n 2, 1) := by decide +kernel
theorem dL_law_359 : decode cL_law 359 = .ok (.aload_n 0, 1) := by decide +kernel
theorem dL_law_360 : decode cL_law 360 = .ok (.iload 4, 2) := by decide +kernel
theorem dL_law_362 : decode cL_law 362 = .ok (.iconst 1, 1) := by decide +kernel
theorem dL_law_363 : decode cL_law 363 = .ok (.iadd, 1) := by decide +kernel
theorem dL_law_364 : decode cL_law 364 = .ok (.iaload, 1) := by decide +kernel
theorem dL_law_365 : decode cL_law 365 = .ok (.invokevirtual 37, 3) := by decide +kernel
theorem dL_law_368 : decode cL_law 368 = .ok (.pop, 1) := by decide +kernel
theorem dL_law_369 : decode cL_law 369 = .ok (.goto 980, 3) := by decide +kernel
theorem dL_law_372 : decode cL_law 372 = .ok (.aload_n 1, 1) := by decide +kernel
theorem dL_law_373 : decode cL_law 373 = .ok (.aload_n 0, 1) := by decide +kernel
theorem dL_law_374 : decode cL_law 374 = .ok (.iload 4, 2) := by decide +kernel
theorem dL_law_376 : decode cL_law 376 = .ok (.iconst 1, 1) := by decide +kernel
theorem dL_law_377 : decode cL_law 377 = .ok (.iadd, 1) := by decide +kernel
theorem dL_law_378 : decode cL_law 378 = .ok (.iaload, 1) := by decide +kernel
theorem dL_law_379 : decode cL_law 379 = .ok (.invokevirtual 38, 3) := by decide +kernel
theorem dL_law_382 : decode cL_law 382 = .ok (.pop, 1) := by decide +kernel
theorem dL_law_383 : decode cL_law 383 = .ok (.aload_n 2, 1) := by decide +kernel
theorem dL_law_384 : decode cL_law 384 = .ok (.aload_n 0, 1) := by decide +kernel
theorem dL_law_385 : decode cL_law 385 = .ok (.iload 4, 2) := by decide +kernel
theorem dL_law_387 : decode cL_law 387 = .ok (.iconst 1, 1) := by decide +kernel
theorem dL_law_388 : decode cL_law 388 = .ok (.iadd, 1) := by decide +kernel
theorem dL_law_389 : decode cL_law 389 = .ok (.iaload, 1) := by decide +kernel
theorem dL_law_390 : decode cL_law 390 = .ok (.invokevirtual 41, 3) := by decide +kernel
theorem dL_law_393 : decode cL_law 393 = .ok (.pop, 1) := by decide +kernel
theorem dL_law_394 : decode cL_law 394 = .ok (.goto 955, 3) := by decide +kernel
theorem dL_law_437 : decode cL_law 437 = .ok (.aload_n 1, 1) := by decide +kernel
theorem dL_law_438 : decode cL_law 438 = .ok (.aload_n 0, 1) := by decide +kernel
theorem dL_law_439 : decode cL_law 439 = .ok (.iload 4, 2) := by decide +kernel
theorem dL_law_441 : decode cL_law 441 = .ok (.iconst 1, 1) := by decide +kernel
theorem dL_law_442 : decode cL_law 442 = .ok (.iadd, 1) := by decide +kernel
theorem dL_law_443 : decode cL_law 443 = .ok (.iaload, 1) := by decide +kernel
theorem dL_law_444 : decode cL_law 444 = .ok (.invokevirtual 48, 3) := by decide +kernel
theorem dL_law_447 : decode cL_law 447 = .ok (.pop, 1) := by decide +kernel
theorem dL_law_448 : decode cL_law 448 = .ok (.aload_n 2, 1) := by decide +kernel
theorem dL_law_449 : decode cL_law 449 = .ok (.aload_n 0, 1) := by decide +kernel
theorem dL_law_450 : decode cL_law 450 = .ok (.iload 4, 2) := by decide +kernel
theorem dL_law_452 : decode cL_law 452 = .ok (.iconst 1, 1) := by decide +kernel
theorem dL_law_453 : decode cL_law 453 = .ok (.iadd, 1) := by decide +kernel
theorem dL_law_454 : decode cL_law 454 = .ok (.iaload, 1) := by decide +kernel
theorem dL_law_455 : decode cL_law 455 = .ok (.invokevirtual 51, 3) := by decide +kernel
theorem dL_law_458 : decode cL_law 458 = .ok (.pop, 1) := by decide +kernel
theorem dL_law_459 : decode cL_law 459 = .ok (.goto 890, 3) := by decide +kernel
theorem wl_3_7 : (.methodLink RL 19 yX11_feed : Cond) ∈ sg_tbl := tb_3 _ (List.mem_of_getElem? (i := 7) (by decide +kernel)) (by decide +kernel)
theorem wl_7_99 : (.methodLink RL 23 yX12_feed : Cond) ∈ sg_tbl := tb_7 _ (List.mem_of_getElem? (i := 99) (by decide +kernel)) (by decide +kernel)
theorem wl_3_18 : (.methodLink RL 24 yX11_end : Cond) ∈ sg_tbl := tb_3 _ (List.mem_of_getElem? (i := 18) (by decide +kernel)) (by decide +kernel)
theorem wl_7_110 : (.methodLink RL 28 yX12_end : Cond) ∈ sg_tbl := tb_7 _ (List.mem_of_getElem? (i := 110) (by decide +kernel)) (by decide +kernel)
theorem wl_3_22 : (.methodLink RL 29 yX11_fault : Cond) ∈ sg_tbl := tb_3 _ (List.mem_of_getElem? (i := 22) (by decide +kernel)) (by decide +kernel)
theorem wl_7_114 : (.methodLink RL 33 yX12_fault : Cond) ∈ sg_tbl := tb_7 _ (List.mem_of_getElem? (i := 114) (by decide +kernel)) (by decide +kernel)
theorem wl_4_35 : (.methodLink RL 34 yX11_text : Cond) ∈ sg_tbl := tb_4 _ (List.mem_of_getElem? (i := 35) (by decide +kernel)) (by decide +kernel)
theorem wl_8_41 : (.methodLink RL 37 yX12_text : Cond) ∈ sg_tbl := tb_8 _ (List.mem_of_getElem? (i := 41) (by decide +kernel)) (by decide +kernel)
theorem wl_4_70 : (.methodLink RL 38 yX11_rule : Cond) ∈ sg_tbl := tb_4 _ (List.mem_of_getElem? (i := 70) (by decide +kernel)) (by decide +kernel)
theorem wl_8_46 : (.methodLink RL 41 yX12_rule : Cond) ∈ sg_tbl := tb_8 _ (List.mem_of_getElem? (i := 46) (by decide +kernel)) (by decide +kernel)
theorem wl_4_78 : (.methodLink RL 48 yX11_law : Cond) ∈ sg_tbl := tb_4 _ (List.mem_of_getElem? (i := 78) (by decide +kernel)) (by decide +kernel)
theorem wl_8_77 : (.methodLink RL 51 yX12_law : Cond) ∈ sg_tbl := tb_8 _ (List.mem_of_getElem? (i := 77) (by decide +kernel)) (by decide +kernel)
section
variable {p : Program} {l : Launch} {e : Env} {R : Room} {s : State} {m : MethodId} {args : Array Value} {below : List Frame} {meth : Method} {c : Code} {H : Heap} {locs : List Loc} {cells slots : Nat} {Q : State → Prop} {cc : ByteArray} {nL pc : Nat} {ls : Array Slot} {rest : List Value} {own : String} {D : va_G} {A : Nat → Prop} {tys : List (ClassId × FieldType)} {ad ks : List Nat} {P : sgPm} {H0 : Heap} {index : Nat} {base : Nat} {st0 : List Value} {a : Nat}

set_option maxHeartbeats 8000000 in
set_option maxRecDepth 100000 in
theorem law_case_0 {p : Program} {l : Launch} {e : Env} {s : State} {m : MethodId} {below : List Frame} {meth : Method} {c : Code} {b L : Nat} {xs : Nat → Int32} {D : va_G} (C : lwC p l e s m below meth c b L xs) {n : Nat} {P : sgPm} {tys : List (ClassId × FieldType)} {ad ks : List Nat} {xx mm oq : Nat} {H : Heap} {locs : List Loc} (hW : lwV D n P tys ad ks xx mm oq s H) (hS : va_S (fun q : Nat => s.heap.size ≤ q) s.heap H locs) {i : Int32} (hi0 : 0 ≤ i.toInt) (hi6 : i.toInt + 6 ≤ L) (hn : n ≤ 511) {ls : Array Slot} (hl : lv_has ls 7 [(4, .int i), (3, .ref oq), (2, .ref mm), (1, .ref xx), (0, .ref b)]) {cells slots : Nat} (hc : cells + 4 ≤ 601024) (hs : slots + 8300 ≤ 7293034) {Q : State → Prop}
    (kk : ∀ (P1 : sgPm) (tys1 : List (ClassId × FieldType)) (ad1 ks1 : List Nat) (H1 : Heap) (locs1 : List Loc) (ls1 : Array Slot), lwV D (n + 1) P1 tys1 ad1 ks1 xx mm oq s H1 → va_S (fun q : Nat => s.heap.size ≤ q) s.heap H1 locs1 → lv_has ls1 7 [(4, .int i), (3, .ref oq), (2, .ref mm), (1, .ref xx), (0, .ref b)] → W p l e room_1 s m #[.ref b] below meth c H1 locs1 (cells + 4) (slots + 8300) Q (F0 m 1349 ls1 [])) :
    W p l e room_1 s m #[.ref b] below meth c H locs cells slots Q (F0 m 224 ls []) := by
  obtain ⟨X, hC, hX, hbl, hL⟩ := C
  obtain ⟨hK, hG, hxx, hmm, hoq, hpin, hN0, hinv, hgl⟩ := id hW
  have hp10 := hpin
  have hb : s.heap.size ≤ s.heap.size := Nat.le_refl _
  have hbA : ¬ (fun q : Nat => s.heap.size ≤ q) b := Nat.not_le.mpr hbl
  have lwr : cells ≤ room_1.cells ∧ slots ≤ room_1.slots := ⟨by show cells ≤ 601024; omega, by show slots ≤ 7293034; omega⟩
  have lwr1 : cells + 1 ≤ room_1.cells ∧ slots + 8256 ≤ room_1.slots := ⟨by show cells + 1 ≤ 601024; omega, by show slots + 8256 ≤ 7293034; omega⟩
  have lwr2 : cells + 1 ≤ room_1.cells ∧ slots + 4096 ≤ room_1.slots := ⟨by show cells + 1 ≤ 601024; omega, by show slots + 4096 ≤ 7293034; omega⟩
  have hgi := hgl.1.1
  have hgg := hgl.2.1
  have hpk := hm_pk hgl.2
  have hl0 := sgInv_l1 hinv
  have hby := sgInv_b1 hinv
  refine lv_aload_n X.1 X.2.1 dL_law_224 rfl (lv_at hl 3 rfl) ?_
  refine lv_aload_n X.1 X.2.1 dL_law_225 rfl (lv_at hl 4 rfl) ?_
  refine lv_iload X.1 X.2.1 dL_law_226 (lv_at hl 0 rfl) ?_
  refine lv_iconst (v := 1) X.1 X.2.1 dL_law_228 (by decide +kernel) ?_
  refine lv_iadd X.1 X.2.1 dL_law_229 ?_
  refine lv_topi (fun f1 ef1 => ?_)
  refine va_sld (i := f1) X.1 X.2.1 hX hbl hbA hS (lw_ix ef1 hi0 hi6 hL (by decide +kernel)) dL_law_230 ?_
  refine lv_aload_n X.1 X.2.1 dL_law_231 rfl (lv_at hl 4 rfl) ?_
  refine lv_iload X.1 X.2.1 dL_law_232 (lv_at hl 0 rfl) ?_
  refine lv_iconst (v := 2) X.1 X.2.1 dL_law_234 (by decide +kernel) ?_
  refine lv_iadd X.1 X.2.1 dL_law_235 ?_
  refine lv_topi (fun f3 ef3 => ?_)
  refine va_sld (i := f3) X.1 X.2.1 hX hbl hbA hS (lw_ix ef3 hi0 hi6 hL (by decide +kernel)) dL_law_236 ?_
  refine lv_aload_n X.1 X.2.1 dL_law_237 rfl (lv_at hl 4 rfl) ?_
  refine lv_iload X.1 X.2.1 dL_law_238 (lv_at hl 0 rfl) ?_
  refine lv_iconst (v := 3) X.1 X.2.1 dL_law_240 (by decide +kernel) ?_
  refine lv_iadd X.1 X.2.1 dL_law_241 ?_
  refine lv_topi (fun f5 ef5 => ?_)
  refine va_sld (i := f5) X.1 X.2.1 hX hbl hbA hS (lw_ix ef5 hi0 hi6 hL (by decide +kernel)) dL_law_242 ?_
  refine lv_aload_n X.1 X.2.1 dL_law_243 rfl (lv_at hl 4 rfl) ?_
  refine lv_iload X.1 X.2.1 dL_law_244 (lv_at hl 0 rfl) ?_
  refine lv_iconst (v := 4) X.1 X.2.1 dL_law_246 (by decide +kernel) ?_
  refine lv_iadd X.1 X.2.1 dL_law_247 ?_
  refine lv_topi (fun f7 ef7 => ?_)
  refine va_sld (i := f7) X.1 X.2.1 hX hbl hbA hS (lw_ix ef7 hi0 hi6 hL (by decide +kernel)) dL_law_248 ?_
  refine lv_aload_n X.1 X.2.1 dL_law_249 rfl (lv_at hl 4 rfl) ?_
  refine lv_iload X.1 X.2.1 dL_law_250 (lv_at hl 0 rfl) ?_
  refine lv_iconst (v := 5) X.1 X.2.1 dL_law_252 (by decide +kernel) ?_
  refine lv_iadd X.1 X.2.1 dL_law_253 ?_
  refine lv_topi (fun f9 ef9 => ?_)
  refine va_sld (i := f9) X.1 X.2.1 hX hbl hbA hS (lw_ix ef9 hi0 hi6 hL (by decide +kernel)) dL_law_254 ?_
  refine ca_X11_feed_q X hK hG hC hS hb xx hxx (xs f1.toNatClampNeg) (xs f3.toNatClampNeg) (xs f5.toNatClampNeg) (xs f7.toNatClampNeg) (xs f9.toNatClampNeg) hl0 wl_3_7 hl.1 (rest := []) rfl (Nat.le_of_ble_eq_true rfl) ⟨Nat.le_of_ble_eq_true rfl, Nat.le_of_ble_eq_true rfl⟩ lwr dL_law_255 (fun f11 tf11 H locs htf11 hf11 hWf11 hS => ?_)
  obtain ⟨P1, hfe1, hBf11⟩ := sgFe1_of (B := fun P1 => sgB (KT P1) D vwCl _ tys ad ks _) hWf11
  have hs1 := sgFe1_s hfe1
  have hp10 := hs1.1.trans hpin
  have hl0 : 0 ≤ sgL2 P1 ∧ sgL2 P1 ≤ 240 := by rw [hs1.2.2.2]; exact sgInv_l2 hinv
  have hG := hBf11.2.2.2
  rw [htf11] at hG
  refine lv_pop X.1 X.2.1 dL_law_258 rfl ?_
  refine lv_aload_n X.1 X.2.1 dL_law_259 rfl (lv_at hl 2 rfl) ?_
  refine lv_aload_n X.1 X.2.1 dL_law_260 rfl (lv_at hl 4 rfl) ?_
  refine lv_iload X.1 X.2.1 dL_law_261 (lv_at hl 0 rfl) ?_
  refine lv_iconst (v := 1) X.1 X.2.1 dL_law_263 (by decide +kernel) ?_
  refine lv_iadd X.1 X.2.1 dL_law_264 ?_
  refine lv_topi (fun f12 ef12 => ?_)
  refine va_sld (i := f12) X.1 X.2.1 hX hbl hbA hS (lw_ix ef12 hi0 hi6 hL (by decide +kernel)) dL_law_265 ?_
  refine lv_aload_n X.1 X.2.1 dL_law_266 rfl (lv_at hl 4 rfl) ?_
  refine lv_iload X.1 X.2.1 dL_law_267 (lv_at hl 0 rfl) ?_
  refine lv_iconst (v := 2) X.1 X.2.1 dL_law_269 (by decide +kernel) ?_
  refine lv_iadd X.1 X.2.1 dL_law_270 ?_
  refine lv_topi (fun f14 ef14 => ?_)
  refine va_sld (i := f14) X.1 X.2.1 hX hbl hbA hS (lw_ix ef14 hi0 hi6 hL (by decide +kernel)) dL_law_271 ?_
  refine lv_aload_n X.1 X.2.1 dL_law_272 rfl (lv_at hl 4 rfl) ?_
  refine lv_iload X.1 X.2.1 dL_law_273 (lv_at hl 0 rfl) ?_
  refine lv_iconst (v := 3) X.1 X.2.1 dL_law_275 (by decide +kernel) ?_
  refine lv_iadd X.1 X.2.1 dL_law_276 ?_
  refine lv_topi (fun f16 ef16 => ?_)
  refine va_sld (i := f16) X.1 X.2.1 hX hbl hbA hS (lw_ix ef16 hi0 hi6 hL (by decide +kernel)) dL_law_277 ?_
  refine lv_aload_n X.1 X.2.1 dL_law_278 rfl (lv_at hl 4 rfl) ?_
  refine lv_iload X.1 X.2.1 dL_law_279 (lv_at hl 0 rfl) ?_
  refine lv_iconst (v := 4) X.1 X.2.1 dL_law_281 (by decide +kernel) ?_
  refine lv_iadd X.1 X.2.1 dL_law_282 ?_
  refine lv_topi (fun f18 ef18 => ?_)
  refine va_sld (i := f18) X.1 X.2.1 hX hbl hbA hS (lw_ix ef18 hi0 hi6 hL (by decide +kernel)) dL_law_283 ?_
  refine lv_aload_n X.1 X.2.1 dL_law_284 rfl (lv_at hl 4 rfl) ?_
  refine lv_iload X.1 X.2.1 dL_law_285 (lv_at hl 0 rfl) ?_
  refine lv_iconst (v := 5) X.1 X.2.1 dL_law_287 (by decide +kernel) ?_
  refine lv_iadd X.1 X.2.1 dL_law_288 ?_
  refine lv_topi (fun f20 ef20 => ?_)
  refine va_sld (i := f20) X.1 X.2.1 hX hbl hbA hS (lw_ix ef20 hi0 hi6 hL (by decide +kernel)) dL_law_289 ?_
  refine ca_X12_feed_q X hK hG hC hS hb mm hmm (xs f12.toNatClampNeg) (xs f14.toNatClampNeg) (xs f16.toNatClampNeg) (xs f18.toNatClampNeg) (xs f20.toNatClampNeg) hl0 wl_7_99 hl.1 (rest := []) rfl (Nat.le_of_ble_eq_true rfl) ⟨Nat.le_of_ble_eq_true rfl, Nat.le_of_ble_eq_true rfl⟩ lwr dL_law_290 (fun f22 tf22 H locs htf22 hf22 hWf22 hS => ?_)
  obtain ⟨P2, hfe2, hBf22⟩ := sgFe2_of (B := fun P2 => sgB (KT P2) D vwCl _ tys ad ks _) hWf22
  have hs2 := sgFe2_s hfe2
  have q23 : f12 = f1 := ef12.trans ef1.symm
  rw [q23] at hfe2
  have q24 : f14 = f3 := ef14.trans ef3.symm
  rw [q24] at hfe2
  have q25 : f16 = f5 := ef16.trans ef5.symm
  rw [q25] at hfe2
  have q26 : f18 = f7 := ef18.trans ef7.symm
  rw [q26] at hfe2
  have q27 : f20 = f9 := ef20.trans ef9.symm
  rw [q27] at hfe2
  have hin2 := sgInv_feed hinv hfe1 hfe2
  have hgl2 := sgHx_feed hgl hfe1 hfe2
  have hpin2 := hs2.1.trans hp10
  have hn2 : sgN P2 ≤ sgN P + 432000 := by have q1 := hs1.2.1; have q2 := hs2.2; omega
  have hG := hBf22.2.2.2
  rw [htf22] at hG
  refine lv_pop X.1 X.2.1 dL_law_293 rfl ?_
  refine lv_goto (tgt := 1349) X.1 X.2.1 dL_law_294 (by decide) ?_
  refine W.widen (k := cells + 4) (n := slots + 8300) (by omega) (by omega) ?_
  exact kk _ _ _ _ _ _ _ (lwV_next hW hK hG hpin2 hn2 (sgMo.rf _ _) hin2 hgl2) hS (lv_sub hl [0, 1, 2, 3, 4] rfl)

set_option maxHeartbeats 8000000 in
set_option maxRecDepth 100000 in
theorem law_case_1 {p : Program} {l : Launch} {e : Env} {s : State} {m : MethodId} {below : List Frame} {meth : Method} {c : Code} {b L : Nat} {xs : Nat → Int32} {D : va_G} (C : lwC p l e s m below meth c b L xs) {n : Nat} {P : sgPm} {tys : List (ClassId × FieldType)} {ad ks : List Nat} {xx mm oq : Nat} {H : Heap} {locs : List Loc} (hW : lwV D n P tys ad ks xx mm oq s H) (hS : va_S (fun q : Nat => s.heap.size ≤ q) s.heap H locs) {i : Int32} (hi0 : 0 ≤ i.toInt) (hi6 : i.toInt + 6 ≤ L) (hn : n ≤ 511) {ls : Array Slot} (hl : lv_has ls 7 [(4, .int i), (3, .ref oq), (2, .ref mm), (1, .ref xx), (0, .ref b)]) {cells slots : Nat} (hc : cells + 4 ≤ 601024) (hs : slots + 8300 ≤ 7293034) {Q : State → Prop}
    (kk : ∀ (P1 : sgPm) (tys1 : List (ClassId × FieldType)) (ad1 ks1 : List Nat) (H1 : Heap) (locs1 : List Loc) (ls1 : Array Slot), lwV D (n + 1) P1 tys1 ad1 ks1 xx mm oq s H1 → va_S (fun q : Nat => s.heap.size ≤ q) s.heap H1 locs1 → lv_has ls1 7 [(4, .int i), (3, .ref oq), (2, .ref mm), (1, .ref xx), (0, .ref b)] → W p l e room_1 s m #[.ref b] below meth c H1 locs1 (cells + 4) (slots + 8300) Q (F0 m 1349 ls1 [])) :
    W p l e room_1 s m #[.ref b] below meth c H locs cells slots Q (F0 m 297 ls []) := by
  obtain ⟨X, hC, hX, hbl, hL⟩ := C
  obtain ⟨hK, hG, hxx, hmm, hoq, hpin, hN0, hinv, hgl⟩ := id hW
  have hp10 := hpin
  have hb : s.heap.size ≤ s.heap.size := Nat.le_refl _
  have hbA : ¬ (fun q : Nat => s.heap.size ≤ q) b := Nat.not_le.mpr hbl
  have lwr : cells ≤ room_1.cells ∧ slots ≤ room_1.slots := ⟨by show cells ≤ 601024; omega, by show slots ≤ 7293034; omega⟩
  have lwr1 : cells + 1 ≤ room_1.cells ∧ slots + 8256 ≤ room_1.slots := ⟨by show cells + 1 ≤ 601024; omega, by show slots + 8256 ≤ 7293034; omega⟩
  have lwr2 : cells + 1 ≤ room_1.cells ∧ slots + 4096 ≤ room_1.slots := ⟨by show cells + 1 ≤ 601024; omega, by show slots + 4096 ≤ 7293034; omega⟩
  have hgi := hgl.1.1
  have hgg := hgl.2.1
  have hpk := hm_pk hgl.2
  have hl0 := sgInv_l1 hinv
  have hby := sgInv_b1 hinv
  refine lv_aload_n X.1 X.2.1 dL_law_297 rfl (lv_at hl 3 rfl) ?_
  refine lv_aload_n X.1 X.2.1 dL_law_298 rfl (lv_at hl 4 rfl) ?_
  refine lv_iload X.1 X.2.1 dL_law_299 (lv_at hl 0 rfl) ?_
  refine lv_iconst (v := 1) X.1 X.2.1 dL_law_301 (by decide +kernel) ?_
  refine lv_iadd X.1 X.2.1 dL_law_302 ?_
  refine lv_topi (fun f1 ef1 => ?_)
  refine va_sld (i := f1) X.1 X.2.1 hX hbl hbA hS (lw_ix ef1 hi0 hi6 hL (by decide +kernel)) dL_law_303 ?_
  refine ca_X11_end X hK hG hC hS hb xx hxx (xs f1.toNatClampNeg) wl_3_18 hl.1 (rest := []) rfl (Nat.le_of_ble_eq_true rfl) ⟨Nat.le_of_ble_eq_true rfl, Nat.le_of_ble_eq_true rfl⟩ lwr dL_law_304 (fun f3 tf3 H locs htf3 hf3 hWf3 hS => ?_)
  obtain ⟨P1, hfe1, hBf3⟩ := sgEd1_of (B := fun P1 => sgB (KT P1) D vwCl _ tys ad ks _) hl0 hWf3
  have hs1 := sgEd1_s hfe1
  have hp10 := hs1.1.trans hpin
  have hl0 : 0 ≤ sgL2 P1 ∧ sgL2 P1 ≤ 240 := by rw [hs1.2.2.2]; exact sgInv_l2 hinv
  have hG := hBf3.2.2.2
  rw [htf3] at hG
  refine lv_pop X.1 X.2.1 dL_law_307 rfl ?_
  refine lv_aload_n X.1 X.2.1 dL_law_308 rfl (lv_at hl 2 rfl) ?_
  refine lv_aload_n X.1 X.2.1 dL_law_309 rfl (lv_at hl 4 rfl) ?_
  refine lv_iload X.1 X.2.1 dL_law_310 (lv_at hl 0 rfl) ?_
  refine lv_iconst (v := 1) X.1 X.2.1 dL_law_312 (by decide +kernel) ?_
  refine lv_iadd X.1 X.2.1 dL_law_313 ?_
  refine lv_topi (fun f4 ef4 => ?_)
  refine va_sld (i := f4) X.1 X.2.1 hX hbl hbA hS (lw_ix ef4 hi0 hi6 hL (by decide +kernel)) dL_law_314 ?_
  refine ca_X12_end X hK hG hC hS hb mm hmm (xs f4.toNatClampNeg) wl_7_110 hl.1 (rest := []) rfl (Nat.le_of_ble_eq_true rfl) ⟨Nat.le_of_ble_eq_true rfl, Nat.le_of_ble_eq_true rfl⟩ lwr dL_law_315 (fun f6 tf6 H locs htf6 hf6 hWf6 hS => ?_)
  obtain ⟨P2, hfe2, hBf6⟩ := sgEd2_of (B := fun P2 => sgB (KT P2) D vwCl _ tys ad ks _) hl0 hWf6
  have hs2 := sgEd2_s hfe2
  have q7 : f4 = f1 := ef4.trans ef1.symm
  rw [q7] at hfe2
  have hin2 := sgInv_end hinv hfe1 hfe2
  have hgl2 := sgHx_end hgl hfe1 hfe2
  have hpin2 := hs2.1.trans hp10
  have hn2 : sgN P2 ≤ sgN P + 432000 := by have q1 := hs1.2.1; have q2 := hs2.2; omega
  have hG := hBf6.2.2.2
  rw [htf6] at hG
  refine lv_pop X.1 X.2.1 dL_law_318 rfl ?_
  refine lv_goto (tgt := 1349) X.1 X.2.1 dL_law_319 (by decide) ?_
  refine W.widen (k := cells + 4) (n := slots + 8300) (by omega) (by omega) ?_
  exact kk _ _ _ _ _ _ _ (lwV_next hW hK hG hpin2 hn2 (sgMo.rf _ _) hin2 hgl2) hS (lv_sub hl [0, 1, 2, 3, 4] rfl)

set_option maxHeartbeats 8000000 in
set_option maxRecDepth 100000 in
theorem law_case_2 {p : Program} {l : Launch} {e : Env} {s : State} {m : MethodId} {below : List Frame} {meth : Method} {c : Code} {b L : Nat} {xs : Nat → Int32} {D : va_G} (C : lwC p l e s m below meth c b L xs) {n : Nat} {P : sgPm} {tys : List (ClassId × FieldType)} {ad ks : List Nat} {xx mm oq : Nat} {H : Heap} {locs : List Loc} (hW : lwV D n P tys ad ks xx mm oq s H) (hS : va_S (fun q : Nat => s.heap.size ≤ q) s.heap H locs) {i : Int32} (hi0 : 0 ≤ i.toInt) (hi6 : i.toInt + 6 ≤ L) (hn : n ≤ 511) {ls : Array Slot} (hl : lv_has ls 7 [(4, .int i), (3, .ref oq), (2, .ref mm), (1, .ref xx), (0, .ref b)]) {cells slots : Nat} (hc : cells + 4 ≤ 601024) (hs : slots + 8300 ≤ 7293034) {Q : State → Prop}
    (kk : ∀ (P1 : sgPm) (tys1 : List (ClassId × FieldType)) (ad1 ks1 : List Nat) (H1 : Heap) (locs1 : List Loc) (ls1 : Array Slot), lwV D (n + 1) P1 tys1 ad1 ks1 xx mm oq s H1 → va_S (fun q : Nat => s.heap.size ≤ q) s.heap H1 locs1 → lv_has ls1 7 [(4, .int i), (3, .ref oq), (2, .ref mm), (1, .ref xx), (0, .ref b)] → W p l e room_1 s m #[.ref b] below meth c H1 locs1 (cells + 4) (slots + 8300) Q (F0 m 1349 ls1 [])) :
    W p l e room_1 s m #[.ref b] below meth c H locs cells slots Q (F0 m 322 ls []) := by
  obtain ⟨X, hC, hX, hbl, hL⟩ := C
  obtain ⟨hK, hG, hxx, hmm, hoq, hpin, hN0, hinv, hgl⟩ := id hW
  have hp10 := hpin
  have hb : s.heap.size ≤ s.heap.size := Nat.le_refl _
  have hbA : ¬ (fun q : Nat => s.heap.size ≤ q) b := Nat.not_le.mpr hbl
  have lwr : cells ≤ room_1.cells ∧ slots ≤ room_1.slots := ⟨by show cells ≤ 601024; omega, by show slots ≤ 7293034; omega⟩
  have lwr1 : cells + 1 ≤ room_1.cells ∧ slots + 8256 ≤ room_1.slots := ⟨by show cells + 1 ≤ 601024; omega, by show slots + 8256 ≤ 7293034; omega⟩
  have lwr2 : cells + 1 ≤ room_1.cells ∧ slots + 4096 ≤ room_1.slots := ⟨by show cells + 1 ≤ 601024; omega, by show slots + 4096 ≤ 7293034; omega⟩
  have hgi := hgl.1.1
  have hgg := hgl.2.1
  have hpk := hm_pk hgl.2
  have hl0 := sgInv_l1 hinv
  have hby := sgInv_b1 hinv
  refine lv_aload_n X.1 X.2.1 dL_law_322 rfl (lv_at hl 3 rfl) ?_
  refine lv_aload_n X.1 X.2.1 dL_law_323 rfl (lv_at hl 4 rfl) ?_
  refine lv_iload X.1 X.2.1 dL_law_324 (lv_at hl 0 rfl) ?_
  refine lv_iconst (v := 1) X.1 X.2.1 dL_law_326 (by decide +kernel) ?_
  refine lv_iadd X.1 X.2.1 dL_law_327 ?_
  refine lv_topi (fun f1 ef1 => ?_)
  refine va_sld (i := f1) X.1 X.2.1 hX hbl hbA hS (lw_ix ef1 hi0 hi6 hL (by decide +kernel)) dL_law_328 ?_
  refine ca_X11_fault X hK hG hC hS hb xx hxx (xs f1.toNatClampNeg) hgi hgg wl_3_22 hl.1 (rest := []) rfl (Nat.le_of_ble_eq_true rfl) ⟨Nat.le_of_ble_eq_true rfl, Nat.le_of_ble_eq_true rfl⟩ lwr dL_law_329 (fun f3 H locs hf3 hG hS => ?_)
  refine lv_pop X.1 X.2.1 dL_law_332 rfl ?_
  refine lv_aload_n X.1 X.2.1 dL_law_333 rfl (lv_at hl 2 rfl) ?_
  refine lv_aload_n X.1 X.2.1 dL_law_334 rfl (lv_at hl 4 rfl) ?_
  refine lv_iload X.1 X.2.1 dL_law_335 (lv_at hl 0 rfl) ?_
  refine lv_iconst (v := 1) X.1 X.2.1 dL_law_337 (by decide +kernel) ?_
  refine lv_iadd X.1 X.2.1 dL_law_338 ?_
  refine lv_topi (fun f4 ef4 => ?_)
  refine va_sld (i := f4) X.1 X.2.1 hX hbl hbA hS (lw_ix ef4 hi0 hi6 hL (by decide +kernel)) dL_law_339 ?_
  refine ca_X12_fault X hK hG hC hS hb mm hmm (xs f4.toNatClampNeg) wl_7_114 hl.1 (rest := []) rfl (Nat.le_of_ble_eq_true rfl) ⟨Nat.le_of_ble_eq_true rfl, Nat.le_of_ble_eq_true rfl⟩ lwr dL_law_340 (fun f6 H locs hf6 hG hS => ?_)
  refine lv_pop X.1 X.2.1 dL_law_343 rfl ?_
  refine lv_goto (tgt := 1349) X.1 X.2.1 dL_law_344 (by decide) ?_
  refine W.widen (k := cells + 4) (n := slots + 8300) (by omega) (by omega) ?_
  exact kk _ _ _ _ _ _ _ (lwV_next hW hK hG hpin (Nat.le_add_right _ _) (sgMo.rf _ _) hinv hgl) hS (lv_sub hl [0, 1, 2, 3, 4] rfl)

set_option maxHeartbeats 8000000 in
set_option maxRecDepth 100000 in
theorem law_case_3 {p : Program} {l : Launch} {e : Env} {s : State} {m : MethodId} {below : List Frame} {meth : Method} {c : Code} {b L : Nat} {xs : Nat → Int32} {D : va_G} (C : lwC p l e s m below meth c b L xs) {n : Nat} {P : sgPm} {tys : List (ClassId × FieldType)} {ad ks : List Nat} {xx mm oq : Nat} {H : Heap} {locs : List Loc} (hW : lwV D n P tys ad ks xx mm oq s H) (hS : va_S (fun q : Nat => s.heap.size ≤ q) s.heap H locs) {i : Int32} (hi0 : 0 ≤ i.toInt) (hi6 : i.toInt + 6 ≤ L) (hn : n ≤ 511) {ls : Array Slot} (hl : lv_has ls 7 [(4, .int i), (3, .ref oq), (2, .ref mm), (1, .ref xx), (0, .ref b)]) {cells slots : Nat} (hc : cells + 4 ≤ 601024) (hs : slots + 8300 ≤ 7293034) {Q : State → Prop}
    (kk : ∀ (P1 : sgPm) (tys1 : List (ClassId × FieldType)) (ad1 ks1 : List Nat) (H1 : Heap) (locs1 : List Loc) (ls1 : Array Slot), lwV D (n + 1) P1 tys1 ad1 ks1 xx mm oq s H1 → va_S (fun q : Nat => s.heap.size ≤ q) s.heap H1 locs1 → lv_has ls1 7 [(4, .int i), (3, .ref oq), (2, .ref mm), (1, .ref xx), (0, .ref b)] → W p l e room_1 s m #[.ref b] below meth c H1 locs1 (cells + 4) (slots + 8300) Q (F0 m 1349 ls1 [])) :
    W p l e room_1 s m #[.ref b] below meth c H locs cells slots Q (F0 m 347 ls []) := by
  obtain ⟨X, hC, hX, hbl, hL⟩ := C
  obtain ⟨hK, hG, hxx, hmm, hoq, hpin, hN0, hinv, hgl⟩ := id hW
  have hp10 := hpin
  have hb : s.heap.size ≤ s.heap.size := Nat.le_refl _
  have hbA : ¬ (fun q : Nat => s.heap.size ≤ q) b := Nat.not_le.mpr hbl
  have lwr : cells ≤ room_1.cells ∧ slots ≤ room_1.slots := ⟨by show cells ≤ 601024; omega, by show slots ≤ 7293034; omega⟩
  have lwr1 : cells + 1 ≤ room_1.cells ∧ slots + 8256 ≤ room_1.slots := ⟨by show cells + 1 ≤ 601024; omega, by show slots + 8256 ≤ 7293034; omega⟩
  have lwr2 : cells + 1 ≤ room_1.cells ∧ slots + 4096 ≤ room_1.slots := ⟨by show cells + 1 ≤ 601024; omega, by show slots + 4096 ≤ 7293034; omega⟩
  have hgi := hgl.1.1
  have hgg := hgl.2.1
  have hpk := hm_pk hgl.2
  have hl0 := sgInv_l1 hinv
  have hby := sgInv_b1 hinv
  refine lv_aload_n X.1 X.2.1 dL_law_347 rfl (lv_at hl 3 rfl) ?_
  refine lv_aload_n X.1 X.2.1 dL_law_348 rfl (lv_at hl 4 rfl) ?_
  refine lv_iload X.1 X.2.1 dL_law_349 (lv_at hl 0 rfl) ?_
  refine lv_iconst (v := 1) X.1 X.2.1 dL_law_351 (by decide +kernel) ?_
  refine lv_iadd X.1 X.2.1 dL_law_352 ?_
  refine lv_topi (fun f1 ef1 => ?_)
  refine va_sld (i := f1) X.1 X.2.1 hX hbl hbA hS (lw_ix ef1 hi0 hi6 hL (by decide +kernel)) dL_law_353 ?_
  refine ca_X11_text_q X hK hG hC hS hb xx hxx (xs f1.toNatClampNeg) hgi hgg hl0 hby wl_4_35 hl.1 (rest := []) rfl (Nat.le_of_ble_eq_true rfl) ⟨Nat.le_of_ble_eq_true rfl, Nat.le_of_ble_eq_true rfl⟩ lwr dL_law_354 (fun f3 tf3 H locs htf3 hf3 hWf3 hS => ?_)
  obtain ⟨P1, hke1, hpn1, hn1, hsd1, hls1, hgk1, hty1, hBf3⟩ := hWf3
  have hp10 := hpn1.trans hpin
  have hl0 := sgSd1_l2 hsd1 hinv
  have hby := sgSd1_b2 hsd1 hinv
  have hG := hBf3.2.2.2
  rw [htf3] at hG
  refine lv_pop X.1 X.2.1 dL_law_357 rfl ?_
  refine lv_aload_n X.1 X.2.1 dL_law_358 rfl (lv_at hl 2 rfl) ?_
  refine lv_aload_n X.1 X.2.1 dL_law_359 rfl (lv_at hl 4 rfl) ?_
  refine lv_iload X.1 X.2.1 dL_law_360 (lv_at hl 0 rfl) ?_
  refine lv_iconst (v := 1) X.1 X.2.1 dL_law_362 (by decide +kernel) ?_
  refine lv_iadd X.1 X.2.1 dL_law_363 ?_
  refine lv_topi (fun f4 ef4 => ?_)
  refine va_sld (i := f4) X.1 X.2.1 hX hbl hbA hS (lw_ix ef4 hi0 hi6 hL (by decide +kernel)) dL_law_364 ?_
  refine ca_X12_text_e X hK hG hC hS hb hp10 mm hmm (xs f4.toNatClampNeg) hl0 hby wl_8_41 hl.1 (rest := []) rfl (Nat.le_of_ble_eq_true rfl) ⟨Nat.le_of_ble_eq_true rfl, Nat.le_of_ble_eq_true rfl⟩ lwr dL_law_365 (fun f6 tf6 H locs htf6 hf6 hWf6 hS => ?_)
  obtain ⟨P2, hke2, hpin2, hsd2, hgm2, hty2, hBf6⟩ := hWf6
  have q7 : f4 = f1 := ef4.trans ef1.symm
  rw [q7] at hty2
  have hin2 := sgInv_text hinv hsd1 (ty_tx1 hty1) hsd2 (ty_tx2 hty2)
  have hta := ty_all hinv hgl.1 hsd1 hls1 hty1 hsd2 hgm2 hty2
  have hgl2 : sgHx P2 := ⟨hta.2, ty_gm hinv hgl.2 hsd1 hgk1 hty1 hsd2 hgm2 hty2⟩
  have hn2 : sgN P2 ≤ sgN P + 432000 := by have q2 := hke2.2.2.2; omega
  have hG := hBf6.2.2.2
  rw [htf6] at hG
  refine lv_pop X.1 X.2.1 dL_law_368 rfl ?_
  refine lv_goto (tgt := 1349) X.1 X.2.1 dL_law_369 (by decide) ?_
  refine W.widen (k := cells + 4) (n := slots + 8300) (by omega) (by omega) ?_
  exact kk _ _ _ _ _ _ _ (lwV_next hW hK hG hpin2 hn2 (sgMo.rf _ _) hin2 hgl2) hS (lv_sub hl [0, 1, 2, 3, 4] rfl)

set_option maxHeartbeats 8000000 in
set_option maxRecDepth 100000 in
theorem law_case_4 {p : Program} {l : Launch} {e : Env} {s : State} {m : MethodId} {below : List Frame} {meth : Method} {c : Code} {b L : Nat} {xs : Nat → Int32} {D : va_G} (C : lwC p l e s m below meth c b L xs) {n : Nat} {P : sgPm} {tys : List (ClassId × FieldType)} {ad ks : List Nat} {xx mm oq : Nat} {H : Heap} {locs : List Loc} (hW : lwV D n P tys ad ks xx mm oq s H) (hS : va_S (fun q : Nat => s.heap.size ≤ q) s.heap H locs) {i : Int32} (hi0 : 0 ≤ i.toInt) (hi6 : i.toInt + 6 ≤ L) (hn : n ≤ 511) {ls : Array Slot} (hl : lv_has ls 7 [(4, .int i), (3, .ref oq), (2, .ref mm), (1, .ref xx), (0, .ref b)]) {cells slots : Nat} (hc : cells + 4 ≤ 601024) (hs : slots + 8300 ≤ 7293034) {Q : State → Prop}
    (kk : ∀ (P1 : sgPm) (tys1 : List (ClassId × FieldType)) (ad1 ks1 : List Nat) (H1 : Heap) (locs1 : List Loc) (ls1 : Array Slot), lwV D (n + 1) P1 tys1 ad1 ks1 xx mm oq s H1 → va_S (fun q : Nat => s.heap.size ≤ q) s.heap H1 locs1 → lv_has ls1 7 [(4, .int i), (3, .ref oq), (2, .ref mm), (1, .ref xx), (0, .ref b)] → W p l e room_1 s m #[.ref b] below meth c H1 locs1 (cells + 4) (slots + 8300) Q (F0 m 1349 ls1 [])) :
    W p l e room_1 s m #[.ref b] below meth c H locs cells slots Q (F0 m 372 ls []) := by
  obtain ⟨X, hC, hX, hbl, hL⟩ := C
  obtain ⟨hK, hG, hxx, hmm, hoq, hpin, hN0, hinv, hgl⟩ := id hW
  have hp10 := hpin
  have hb : s.heap.size ≤ s.heap.size := Nat.le_refl _
  have hbA : ¬ (fun q : Nat => s.heap.size ≤ q) b := Nat.not_le.mpr hbl
  have lwr : cells ≤ room_1.cells ∧ slots ≤ room_1.slots := ⟨by show cells ≤ 601024; omega, by show slots ≤ 7293034; omega⟩
  have lwr1 : cells + 1 ≤ room_1.cells ∧ slots + 8256 ≤ room_1.slots := ⟨by show cells + 1 ≤ 601024; omega, by show slots + 8256 ≤ 7293034; omega⟩
  have lwr2 : cells + 1 ≤ room_1.cells ∧ slots + 4096 ≤ room_1.slots := ⟨by show cells + 1 ≤ 601024; omega, by show slots + 4096 ≤ 7293034; omega⟩
  have hgi := hgl.1.1
  have hgg := hgl.2.1
  have hpk := hm_pk hgl.2
  have hl0 := sgInv_l1 hinv
  have hby := sgInv_b1 hinv
  refine lv_aload_n X.1 X.2.1 dL_law_372 rfl (lv_at hl 3 rfl) ?_
  refine lv_aload_n X.1 X.2.1 dL_law_373 rfl (lv_at hl 4 rfl) ?_
  refine lv_iload X.1 X.2.1 dL_law_374 (lv_at hl 0 rfl) ?_
  refine lv_iconst (v := 1) X.1 X.2.1 dL_law_376 (by decide +kernel) ?_
  refine lv_iadd X.1 X.2.1 dL_law_377 ?_
  refine lv_topi (fun f1 ef1 => ?_)
  refine va_sld (i := f1) X.1 X.2.1 hX hbl hbA hS (lw_ix ef1 hi0 hi6 hL (by decide +kernel)) dL_law_378 ?_
  refine ca_X11_rule X hK hG hC hS hb xx hxx (xs f1.toNatClampNeg) wl_4_70 hl.1 (rest := []) rfl (Nat.le_of_ble_eq_true rfl) ⟨Nat.le_of_ble_eq_true rfl, Nat.le_of_ble_eq_true rfl⟩ lwr dL_law_379 (fun f3 H locs hf3 hG hS => ?_)
  refine lv_pop X.1 X.2.1 dL_law_382 rfl ?_
  refine lv_aload_n X.1 X.2.1 dL_law_383 rfl (lv_at hl 2 rfl) ?_
  refine lv_aload_n X.1 X.2.1 dL_law_384 rfl (lv_at hl 4 rfl) ?_
  refine lv_iload X.1 X.2.1 dL_law_385 (lv_at hl 0 rfl) ?_
  refine lv_iconst (v := 1) X.1 X.2.1 dL_law_387 (by decide +kernel) ?_
  refine lv_iadd X.1 X.2.1 dL_law_388 ?_
  refine lv_topi (fun f4 ef4 => ?_)
  refine va_sld (i := f4) X.1 X.2.1 hX hbl hbA hS (lw_ix ef4 hi0 hi6 hL (by decide +kernel)) dL_law_389 ?_
  rcases Bool.eq_false_or_eq_true P.2.2.2.2.1 with hp4 | hp4
  · refine ca_X12_rule_1 X hK hG hC hS hb hp4 mm hmm (xs f4.toNatClampNeg) wl_8_46 hl.1 (rest := []) rfl (Nat.le_of_ble_eq_true rfl) ⟨Nat.le_of_ble_eq_true rfl, Nat.le_of_ble_eq_true rfl⟩ lwr dL_law_390 (fun f6 H locs hf6 hG hS => ?_)
    refine lv_pop X.1 X.2.1 dL_law_393 rfl ?_
    refine lv_goto (tgt := 1349) X.1 X.2.1 dL_law_394 (by decide) ?_
    refine W.widen (k := cells + 4) (n := slots + 8300) (by omega) (by omega) ?_
    exact kk _ _ _ _ _ _ _ (lwV_next hW hK hG hpin (Nat.le_add_right _ _) (sgMo.rf _ _) hinv hgl) hS (lv_sub hl [0, 1, 2, 3, 4] rfl)
  · refine ca_X12_rule_0 X hK hG hC hS hb hp4 mm hmm (xs f4.toNatClampNeg) wl_8_46 hl.1 (rest := []) rfl (Nat.le_of_ble_eq_true rfl) ⟨Nat.le_of_ble_eq_true rfl, Nat.le_of_ble_eq_true rfl⟩ lwr dL_law_390 (fun f7 H locs hf7 hG hS => ?_)
    refine lv_pop X.1 X.2.1 dL_law_393 rfl ?_
    refine lv_goto (tgt := 1349) X.1 X.2.1 dL_law_394 (by decide) ?_
    refine W.widen (k := cells + 4) (n := slots + 8300) (by omega) (by omega) ?_
    exact kk _ _ _ _ _ _ _ (lwV_next hW hK hG hpin (Nat.le_add_right _ _) (sgMo.rf _ _) hinv hgl) hS (lv_sub hl [0, 1, 2, 3, 4] rfl)

set_option maxHeartbeats 8000000 in
set_option maxRecDepth 100000 in
theorem law_case_6 {p : Program} {l : Launch} {e : Env} {s : State} {m : MethodId} {below : List Frame} {meth : Method} {c : Code} {b L : Nat} {xs : Nat → Int32} {D : va_G} (C : lwC p l e s m below meth c b L xs) {n : Nat} {P : sgPm} {tys : List (ClassId × FieldType)} {ad ks : List Nat} {xx mm oq : Nat} {H : Heap} {locs : List Loc} (hW : lwV D n P tys ad ks xx mm oq s H) (hS : va_S (fun q : Nat => s.heap.size ≤ q) s.heap H locs) {i : Int32} (hi0 : 0 ≤ i.toInt) (hi6 : i.toInt + 6 ≤ L) (hn : n ≤ 511) {ls : Array Slot} (hl : lv_has ls 7 [(4, .int i), (3, .ref oq), (2, .ref mm), (1, .ref xx), (0, .ref b)]) {cells slots : Nat} (hc : cells + 4 ≤ 601024) (hs : slots + 8300 ≤ 7293034) {Q : State → Prop}
    (kk : ∀ (P1 : sgPm) (tys1 : List (ClassId × FieldType)) (ad1 ks1 : List Nat) (H1 : Heap) (locs1 : List Loc) (ls1 : Array Slot), lwV D (n + 1) P1 tys1 ad1 ks1 xx mm oq s H1 → va_S (fun q : Nat => s.heap.size ≤ q) s.heap H1 locs1 → lv_has ls1 7 [(4, .int i), (3, .ref oq), (2, .ref mm), (1, .ref xx), (0, .ref b)] → W p l e room_1 s m #[.ref b] below meth c H1 locs1 (cells + 4) (slots + 8300) Q (F0 m 1349 ls1 [])) :
    W p l e room_1 s m #[.ref b] below meth c H locs cells slots Q (F0 m 437 ls []) := by
  obtain ⟨X, hC, hX, hbl, hL⟩ := C
  obtain ⟨hK, hG, hxx, hmm, hoq, hpin, hN0, hinv, hgl⟩ := id hW
  have hp10 := hpin
  have hb : s.heap.size ≤ s.heap.size := Nat.le_refl _
  have hbA : ¬ (fun q : Nat => s.heap.size ≤ q) b := Nat.not_le.mpr hbl
  have lwr : cells ≤ room_1.cells ∧ slots ≤ room_1.slots := ⟨by show cells ≤ 601024; omega, by show slots ≤ 7293034; omega⟩
  have lwr1 : cells + 1 ≤ room_1.cells ∧ slots + 8256 ≤ room_1.slots := ⟨by show cells + 1 ≤ 601024; omega, by show slots + 8256 ≤ 7293034; omega⟩
  have lwr2 : cells + 1 ≤ room_1.cells ∧ slots + 4096 ≤ room_1.slots := ⟨by show cells + 1 ≤ 601024; omega, by show slots + 4096 ≤ 7293034; omega⟩
  have hgi := hgl.1.1
  have hgg := hgl.2.1
  have hpk := hm_pk hgl.2
  have hl0 := sgInv_l1 hinv
  have hby := sgInv_b1 hinv
  refine lv_aload_n X.1 X.2.1 dL_law_437 rfl (lv_at hl 3 rfl) ?_
  refine lv_aload_n X.1 X.2.1 dL_law_438 rfl (lv_at hl 4 rfl) ?_
  refine lv_iload X.1 X.2.1 dL_law_439 (lv_at hl 0 rfl) ?_
  refine lv_iconst (v := 1) X.1 X.2.1 dL_law_441 (by decide +kernel) ?_
  refine lv_iadd X.1 X.2.1 dL_law_442 ?_
  refine lv_topi (fun f1 ef1 => ?_)
  refine va_sld (i := f1) X.1 X.2.1 hX hbl hbA hS (lw_ix ef1 hi0 hi6 hL (by decide +kernel)) dL_law_443 ?_
  refine ca_X11_law_q X hK hG hC hS hb xx hxx (xs f1.toNatClampNeg) wl_4_78 hl.1 (rest := []) rfl (Nat.le_of_ble_eq_true rfl) ⟨Nat.le_of_ble_eq_true rfl, Nat.le_of_ble_eq_true rfl⟩ lwr dL_law_444 (fun f3 tf3 H locs htf3 hf3 hWf3 hS => ?_)
  obtain ⟨hla1, b1, hBf3⟩ := hWf3
  have hG := hBf3.2.2.2
  rw [htf3] at hG
  refine lv_pop X.1 X.2.1 dL_law_447 rfl ?_
  refine lv_aload_n X.1 X.2.1 dL_law_448 rfl (lv_at hl 2 rfl) ?_
  refine lv_aload_n X.1 X.2.1 dL_law_449 rfl (lv_at hl 4 rfl) ?_
  refine lv_iload X.1 X.2.1 dL_law_450 (lv_at hl 0 rfl) ?_
  refine lv_iconst (v := 1) X.1 X.2.1 dL_law_452 (by decide +kernel) ?_
  refine lv_iadd X.1 X.2.1 dL_law_453 ?_
  refine lv_topi (fun f4 ef4 => ?_)
  refine va_sld (i := f4) X.1 X.2.1 hX hbl hbA hS (lw_ix ef4 hi0 hi6 hL (by decide +kernel)) dL_law_454 ?_
  refine ca_X12_law_q X hK hG hC hS hb mm hmm (xs f4.toNatClampNeg) wl_8_77 hl.1 (rest := []) rfl (Nat.le_of_ble_eq_true rfl) ⟨Nat.le_of_ble_eq_true rfl, Nat.le_of_ble_eq_true rfl⟩ lwr dL_law_455 (fun f6 tf6 H locs htf6 hf6 hWf6 hS => ?_)
  obtain ⟨hla2, hBf6⟩ := hWf6
  have q7 : f4 = f1 := ef4.trans ef1.symm
  rw [q7] at hla2
  have hrr : f3 = f6 := sgLa.fun hla1 (by rw [hinv.2.2.1]; exact hla2)
  have hG := hBf6.2.2.2
  rw [htf6] at hG
  refine lv_pop X.1 X.2.1 dL_law_458 rfl ?_
  refine lv_goto (tgt := 1349) X.1 X.2.1 dL_law_459 (by decide) ?_
  refine W.widen (k := cells + 4) (n := slots + 8300) (by omega) (by omega) ?_
  exact kk _ _ _ _ _ _ _ (lwV_next hW hK hG hpin (Nat.le_add_right _ _) (sgMo.rf _ _) (sgInv_of hinv rfl rfl rfl rfl rfl) (sgHx_of hgl rfl rfl rfl rfl rfl rfl)) hS (lv_sub hl [0, 1, 2, 3, 4] rfl)
end
