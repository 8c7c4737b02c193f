def SX (X : mm_X) (b N : Nat) (xs : Nat → Int32) : Prop := match X with
  | (_, _, _, s, _, _, _, _, _, _, _, _, A) => va_X b N xs s s.heap ∧ b < s.heap.size ∧ ¬ A b
abbrev LL (E : mm_E) (b i : Nat) : List (Nat × Value) := [(0, .ref b), (1, .ref (E.1 0)), (2, .ref (E.1 7)), (3, .int (nI i))]
section
variable {E : mm_E} {X : mm_X} {cc : ByteArray} {own : String} {Ts : List Cond} {nL fr lo pc : Nat} {g : mm_I} {h : mm_L} {L : List (Nat × Value)} {st : List Value}
theorem jr_sld {b N j : Nat} {xs : Nat → Int32} {i : Int32} (cx : Cx E X cc own Ts nL fr lo) (sx : SX X b N xs) (hd : decode cc pc = .ok (.iaload, 1)) (hi : i = nI j) (hj : j < N) (hN : N ≤ 3584) (k : JJ E X g h (pc + 1) L (.int (xs j) :: st)) : JJ E X g h pc L (.int i :: .ref b :: st) := by
  obtain ⟨p, e, R, s, m, args, below, meth, c, cells, slots, Q, A⟩ := X
  obtain ⟨hx, hb, hml, hown, hts, hK, hA, hfr, hlo, hc, hs⟩ := cx
  obtain ⟨s1, s2, s3⟩ := sx
  intro ls H locs hl hP hS
  subst hi
  refine va_sld hx hb s1 s2 s3 hS (vp_in_nI hj (by omega)) hd ?_
  rw [nI_clamp (by omega)]
  exact k ls H locs hl hP hS
theorem jr_slen {b N : Nat} {xs : Nat → Int32} (cx : Cx E X cc own Ts nL fr lo) (sx : SX X b N xs) (hd : decode cc pc = .ok (.arraylength, 1)) (k : JJ E X g h (pc + 1) L (.int (nI N) :: st)) : JJ E X g h pc L (.ref b :: st) := by
  obtain ⟨p, e, R, s, m, args, below, meth, c, cells, slots, Q, A⟩ := X
  obtain ⟨hx, hb, hml, hown, hts, hK, hA, hfr, hlo, hc, hs⟩ := cx
  obtain ⟨s1, s2, s3⟩ := sx
  intro ls H locs hl hP hS
  exact va_slen hx hb s1 s2 s3 hS hd (k ls H locs hl hP hS)
theorem jr_arg {b N i t : Nat} {z : Int} {xs : Nat → Int32} (cx : Cx E X cc own Ts nL fr lo) (sx : SX X b N xs) (d0 : decode cc pc = .ok (.aload_n 0, 1)) (d1 : decode cc (pc + 1) = .ok (.iload_n 3, 1)) (d2 : decode cc (pc + 1 + 1) = .ok (.iconst z, 1)) (d3 : decode cc (pc + 1 + 1 + 1) = .ok (.iadd, 1)) (d4 : decode cc (pc + 1 + 1 + 1 + 1) = .ok (.iaload, 1)) (hz : Int32.ofInt z = nI t) (hj : i + t < N) (hN : N ≤ 3584) (k : JJ E X g h (pc + 1 + 1 + 1 + 1 + 1) (LL E b i) (.int (xs (i + t)) :: st)) : JJ E X g h pc (LL E b i) st := by
  refine jr_aload_n cx d0 0 rfl rfl ?_
  refine jr_iload_n cx d1 3 rfl rfl ?_
  refine jr_iconst cx d2 hz ?_
  refine jr_iadd cx d3 ?_
  exact jr_sld cx sx d4 (nI_add i t) hj hN k
theorem jr_arg6 {b N i t : Nat} {z : Int} {xs : Nat → Int32} (cx : Cx E X cc own Ts nL fr lo) (sx : SX X b N xs) (d0 : decode cc pc = .ok (.aload_n 0, 1)) (d1 : decode cc (pc + 1) = .ok (.iload_n 3, 1)) (d2 : decode cc (pc + 1 + 1) = .ok (.bipush z, 2)) (d3 : decode cc (pc + 1 + 1 + 2) = .ok (.iadd, 1)) (d4 : decode cc (pc + 1 + 1 + 2 + 1) = .ok (.iaload, 1)) (hz : (Int8.ofInt z).toInt32 = nI t) (hj : i + t < N) (hN : N ≤ 3584) (k : JJ E X g h (pc + 1 + 1 + 2 + 1 + 1) (LL E b i) (.int (xs (i + t)) :: st)) : JJ E X g h pc (LL E b i) st := by
  refine jr_aload_n cx d0 0 rfl rfl ?_
  refine jr_iload_n cx d1 3 rfl rfl ?_
  refine jr_bipush cx d2 hz ?_
  refine jr_iadd cx d3 ?_
  exact jr_sld cx sx d4 (nI_add i t) hj hN k
end
theorem lc_row (E : mm_E) (X : mm_X) (g : mm_I) (h : mm_L) (b N i : Nat) (xs : Nat → Int32) (cx : Cx E X cL_law RL wsL_law 4 7 286) (sx : SX X b N xs) (hN : N ≤ 3584) (hi : i + 7 ≤ N) (R : Rl g h) (K : ∀ g2 h2, Rl g2 h2 → JJ E X g2 h2 1339 (LL E b i) []) : JJ E X g h 188 (LL E b i) [] := by
  obtain ⟨r, g1, h1, g2, h2, c6, c7, R2⟩ := op_row (xs (i + 1)) (xs (i + 2)) E g h R
  refine jr_aload_n cx dL_law_188 1 rfl rfl ?_
  refine jr_arg (t := 1) cx sx dL_law_189 dL_law_190 dL_law_191 dL_law_192 dL_law_193 (by decide +kernel) (by omega) hN ?_
  refine jr_arg (t := 2) cx sx dL_law_194 dL_law_195 dL_law_196 dL_law_197 dL_law_198 (by decide +kernel) (by omega) hN ?_
  refine jr_vi [.int (xs (i + 1)), .int (xs (i + 2))] 2 cx dL_law_199 c6 (by decide) rfl rfl gL_law_X6_row rfl (by decide +kernel) ⟨Nat.le_of_ble_eq_true rfl, Nat.le_of_ble_eq_true rfl⟩ rfl rfl (Nat.le_of_ble_eq_true rfl) ?_
  refine jr_aload_n cx dL_law_202 2 rfl rfl ?_
  refine jr_arg (t := 1) cx sx dL_law_203 dL_law_204 dL_law_205 dL_law_206 dL_law_207 (by decide +kernel) (by omega) hN ?_
  refine jr_arg (t := 2) cx sx dL_law_208 dL_law_209 dL_law_210 dL_law_211 dL_law_212 (by decide +kernel) (by omega) hN ?_
  refine jr_vi [.int (xs (i + 1)), .int (xs (i + 2))] 2 cx dL_law_213 c7 (by decide) rfl rfl gL_law_X7_row rfl (by decide +kernel) ⟨Nat.le_of_ble_eq_true rfl, Nat.le_of_ble_eq_true rfl⟩ rfl rfl (Nat.le_of_ble_eq_true rfl) ?_
  exact jr_icmp_eq (tgt := 1339) cx dL_law_216 (by decide) (fun _ => K g2 h2 R2) (fun hne => absurd rfl hne)
theorem lc_lay (E : mm_E) (X : mm_X) (g : mm_I) (h : mm_L) (b N i : Nat) (xs : Nat → Int32) (cx : Cx E X cL_law RL wsL_law 4 7 286) (sx : SX X b N xs) (hN : N ≤ 3584) (hi : i + 7 ≤ N) (R : Rl g h) (K : ∀ g2 h2, Rl g2 h2 → JJ E X g2 h2 1339 (LL E b i) []) : JJ E X g h 221 (LL E b i) [] := by
  obtain ⟨r, g1, h1, g2, h2, c6, c7, R2⟩ := op_lay (xs (i + 1)) (xs (i + 2)) (xs (i + 3)) E g h R
  refine jr_aload_n cx dL_law_221 1 rfl rfl ?_
  refine jr_arg (t := 1) cx sx dL_law_222 dL_law_223 dL_law_224 dL_law_225 dL_law_226 (by decide +kernel) (by omega) hN ?_
  refine jr_arg (t := 2) cx sx dL_law_227 dL_law_228 dL_law_229 dL_law_230 dL_law_231 (by decide +kernel) (by omega) hN ?_
  refine jr_arg (t := 3) cx sx dL_law_232 dL_law_233 dL_law_234 dL_law_235 dL_law_236 (by decide +kernel) (by omega) hN ?_
  refine jr_vi [.int (xs (i + 1)), .int (xs (i + 2)), .int (xs (i + 3))] 3 cx dL_law_237 c6 (by decide) rfl rfl gL_law_X6_lay rfl (by decide +kernel) ⟨Nat.le_of_ble_eq_true rfl, Nat.le_of_ble_eq_true rfl⟩ rfl rfl (Nat.le_of_ble_eq_true rfl) ?_
  refine jr_aload_n cx dL_law_240 2 rfl rfl ?_
  refine jr_arg (t := 1) cx sx dL_law_241 dL_law_242 dL_law_243 dL_law_244 dL_law_245 (by decide +kernel) (by omega) hN ?_
  refine jr_arg (t := 2) cx sx dL_law_246 dL_law_247 dL_law_248 dL_law_249 dL_law_250 (by decide +kernel) (by omega) hN ?_
  refine jr_arg (t := 3) cx sx dL_law_251 dL_law_252 dL_law_253 dL_law_254 dL_law_255 (by decide +kernel) (by omega) hN ?_
  refine jr_vi [.int (xs (i + 1)), .int (xs (i + 2)), .int (xs (i + 3))] 3 cx dL_law_256 c7 (by decide) rfl rfl gL_law_X7_lay rfl (by decide +kernel) ⟨Nat.le_of_ble_eq_true rfl, Nat.le_of_ble_eq_true rfl⟩ rfl rfl (Nat.le_of_ble_eq_true rfl) ?_
  exact jr_icmp_eq (tgt := 1339) cx dL_law_259 (by decide) (fun _ => K g2 h2 R2) (fun hne => absurd rfl hne)
theorem lc_tear (E : mm_E) (X : mm_X) (g : mm_I) (h : mm_L) (b N i : Nat) (xs : Nat → Int32) (cx : Cx E X cL_law RL wsL_law 4 7 286) (sx : SX X b N xs) (hN : N ≤ 3584) (hi : i + 7 ≤ N) (R : Rl g h) (K : ∀ g2 h2, Rl g2 h2 → JJ E X g2 h2 1339 (LL E b i) []) : JJ E X g h 264 (LL E b i) [] := by
  obtain ⟨r, g1, h1, g2, h2, c6, c7, R2⟩ := op_tear (xs (i + 1)) E g h R
  refine jr_aload_n cx dL_law_264 1 rfl rfl ?_
  refine jr_arg (t := 1) cx sx dL_law_265 dL_law_266 dL_law_267 dL_law_268 dL_law_269 (by decide +kernel) (by omega) hN ?_
  refine jr_vi [.int (xs (i + 1))] 1 cx dL_law_270 c6 (by decide) rfl rfl gL_law_X6_tear rfl (by decide +kernel) ⟨Nat.le_of_ble_eq_true rfl, Nat.le_of_ble_eq_true rfl⟩ rfl rfl (Nat.le_of_ble_eq_true rfl) ?_
  refine jr_aload_n cx dL_law_273 2 rfl rfl ?_
  refine jr_arg (t := 1) cx sx dL_law_274 dL_law_275 dL_law_276 dL_law_277 dL_law_278 (by decide +kernel) (by omega) hN ?_
  refine jr_vi [.int (xs (i + 1))] 1 cx dL_law_279 c7 (by decide) rfl rfl gL_law_X7_tear rfl (by decide +kernel) ⟨Nat.le_of_ble_eq_true rfl, Nat.le_of_ble_eq_true rfl⟩ rfl rfl (Nat.le_of_ble_eq_true rfl) ?_
  exact jr_icmp_eq (tgt := 1339) cx dL_law_282 (by decide) (fun _ => K g2 h2 R2) (fun hne => absurd rfl hne)
theorem lc_copy (E : mm_E) (X : mm_X) (g : mm_I) (h : mm_L) (b N i : Nat) (xs : Nat → Int32) (cx : Cx E X cL_law RL wsL_law 4 7 286) (sx : SX X b N xs) (hN : N ≤ 3584) (hi : i + 7 ≤ N) (R : Rl g h) (K : ∀ g2 h2, Rl g2 h2 → JJ E X g2 h2 1339 (LL E b i) []) : JJ E X g h 287 (LL E b i) [] := by
  obtain ⟨r, g1, h1, g2, h2, c6, c7, R2⟩ := op_copy (xs (i + 1)) (xs (i + 2)) (xs (i + 3)) (xs (i + 4)) (xs (i + 5)) E g h R
  refine jr_aload_n cx dL_law_287 1 rfl rfl ?_
  refine jr_arg (t := 1) cx sx dL_law_288 dL_law_289 dL_law_290 dL_law_291 dL_law_292 (by decide +kernel) (by omega) hN ?_
  refine jr_arg (t := 2) cx sx dL_law_293 dL_law_294 dL_law_295 dL_law_296 dL_law_297 (by decide +kernel) (by omega) hN ?_
  refine jr_arg (t := 3) cx sx dL_law_298 dL_law_299 dL_law_300 dL_law_301 dL_law_302 (by decide +kernel) (by omega) hN ?_
  refine jr_arg (t := 4) cx sx dL_law_303 dL_law_304 dL_law_305 dL_law_306 dL_law_307 (by decide +kernel) (by omega) hN ?_
  refine jr_arg (t := 5) cx sx dL_law_308 dL_law_309 dL_law_310 dL_law_311 dL_law_312 (by decide +kernel) (by omega) hN ?_
  refine jr_vi [.int (xs (i + 1)), .int (xs (i + 2)), .int (xs (i + 3)), .int (xs (i + 4)), .int (xs (i + 5))] 5 cx dL_law_313 c6 (by decide) rfl rfl gL_law_X6_copy rfl (by decide +kernel) ⟨Nat.le_of_ble_eq_true rfl, Nat.le_of_ble_eq_true rfl⟩ rfl rfl (Nat.le_of_ble_eq_true rfl) ?_
  refine jr_aload_n cx dL_law_316 2 rfl rfl ?_
  refine jr_arg (t := 1) cx sx dL_law_317 dL_law_318 dL_law_319 dL_law_320 dL_law_321 (by decide +kernel) (by omega) hN ?_
  refine jr_arg (t := 2) cx sx dL_law_322 dL_law_323 dL_law_324 dL_law_325 dL_law_326 (by decide +kernel) (by omega) hN ?_
  refine jr_arg (t := 3) cx sx dL_law_327 dL_law_328 dL_law_329 dL_law_330 dL_law_331 (by decide +kernel) (by omega) hN ?_
  refine jr_arg (t := 4) cx sx dL_law_332 dL_law_333 dL_law_334 dL_law_335 dL_law_336 (by decide +kernel) (by omega) hN ?_
  refine jr_arg (t := 5) cx sx dL_law_337 dL_law_338 dL_law_339 dL_law_340 dL_law_341 (by decide +kernel) (by omega) hN ?_
  refine jr_vi [.int (xs (i + 1)), .int (xs (i + 2)), .int (xs (i + 3)), .int (xs (i + 4)), .int (xs (i + 5))] 5 cx dL_law_342 c7 (by decide) rfl rfl gL_law_X7_copy rfl (by decide +kernel) ⟨Nat.le_of_ble_eq_true rfl, Nat.le_of_ble_eq_true rfl⟩ rfl rfl (Nat.le_of_ble_eq_true rfl) ?_
  exact jr_icmp_eq (tgt := 1339) cx dL_law_345 (by decide) (fun _ => K g2 h2 R2) (fun hne => absurd rfl hne)
theorem lc_mean (E : mm_E) (X : mm_X) (g : mm_I) (h : mm_L) (b N i : Nat) (xs : Nat → Int32) (cx : Cx E X cL_law RL wsL_law 4 7 286) (sx : SX X b N xs) (hN : N ≤ 3584) (hi : i + 7 ≤ N) (R : Rl g h) (K : ∀ g2 h2, Rl g2 h2 → JJ E X g2 h2 1339 (LL E b i) []) : JJ E X g h 350 (LL E b i) [] := by
  obtain ⟨r, g1, h1, g2, h2, c6, c7, R2⟩ := op_mean (xs (i + 1)) E g h R
  refine jr_aload_n cx dL_law_350 1 rfl rfl ?_
  refine jr_arg (t := 1) cx sx dL_law_351 dL_law_352 dL_law_353 dL_law_354 dL_law_355 (by decide +kernel) (by omega) hN ?_
  refine jr_vi [.int (xs (i + 1))] 1 cx dL_law_356 c6 (by decide) rfl rfl gL_law_X6_mean rfl (by decide +kernel) ⟨Nat.le_of_ble_eq_true rfl, Nat.le_of_ble_eq_true rfl⟩ rfl rfl (Nat.le_of_ble_eq_true rfl) ?_
  refine jr_aload_n cx dL_law_359 2 rfl rfl ?_
  refine jr_arg (t := 1) cx sx dL_law_360 dL_law_361 dL_law_362 dL_law_363 dL_law_364 (by decide +kernel) (by omega) hN ?_
  refine jr_vi [.int (xs (i + 1))] 1 cx dL_law_365 c7 (by decide) rfl rfl gL_law_X7_mean rfl (by decide +kernel) ⟨Nat.le_of_ble_eq_true rfl, Nat.le_of_ble_eq_true rfl⟩ rfl rfl (Nat.le_of_ble_eq_true rfl) ?_
  exact jr_icmp_eq (tgt := 1339) cx dL_law_368 (by decide) (fun _ => K g2 h2 R2) (fun hne => absurd rfl hne)
theorem lc_plateau (E : mm_E) (X : mm_X) (g : mm_I) (h : mm_L) (b N i : Nat) (xs : Nat → Int32) (cx : Cx E X cL_law RL wsL_law 4 7 286) (sx : SX X b N xs) (hN : N ≤ 3584) (hi : i + 7 ≤ N) (R : Rl g h) (K : ∀ g2 h2, Rl g2 h2 → JJ E X g2 h2 1339 (LL E b i) []) : JJ E X g h 373 (LL E b i) [] := by
  obtain ⟨r, g1, h1, g2, h2, c6, c7, R2⟩ := op_plateau (xs (i + 1)) (xs (i + 2)) (xs (i + 3)) E g h R
  refine jr_aload_n cx dL_law_373 1 rfl rfl ?_
  refine jr_arg (t := 1) cx sx dL_law_374 dL_law_375 dL_law_376 dL_law_377 dL_law_378 (by decide +kernel) (by omega) hN ?_
  refine jr_arg (t := 2) cx sx dL_law_379 dL_law_380 dL_law_381 dL_law_382 dL_law_383 (by decide +kernel) (by omega) hN ?_
  refine jr_arg (t := 3) cx sx dL_law_384 dL_law_385 dL_law_386 dL_law_387 dL_law_388 (by decide +kernel) (by omega) hN ?_
  refine jr_vi [.int (xs (i + 1)), .int (xs (i + 2)), .int (xs (i + 3))] 3 cx dL_law_389 c6 (by decide) rfl rfl gL_law_X6_plateau rfl (by decide +kernel) ⟨Nat.le_of_ble_eq_true rfl, Nat.le_of_ble_eq_true rfl⟩ rfl rfl (Nat.le_of_ble_eq_true rfl) ?_
  refine jr_aload_n cx dL_law_392 2 rfl rfl ?_
  refine jr_arg (t := 1) cx sx dL_law_393 dL_law_394 dL_law_395 dL_law_396 dL_law_397 (by decide +kernel) (by omega) hN ?_
  refine jr_arg (t := 2) cx sx dL_law_398 dL_law_399 dL_law_400 dL_law_401 dL_law_402 (by decide +kernel) (by omega) hN ?_
  refine jr_arg (t := 3) cx sx dL_law_403 dL_law_404 dL_law_405 dL_law_406 dL_law_407 (by decide +kernel) (by omega) hN ?_
  refine jr_vi [.int (xs (i + 1)), .int (xs (i + 2)), .int (xs (i + 3))] 3 cx dL_law_408 c7 (by decide) rfl rfl gL_law_X7_plateau rfl (by decide +kernel) ⟨Nat.le_of_ble_eq_true rfl, Nat.le_of_ble_eq_true rfl⟩ rfl rfl (Nat.le_of_ble_eq_true rfl) ?_
  exact jr_icmp_eq (tgt := 1339) cx dL_law_411 (by decide) (fun _ => K g2 h2 R2) (fun hne => absurd rfl hne)
theorem lc_point (E : mm_E) (X : mm_X) (g : mm_I) (h : mm_L) (b N i : Nat) (xs : Nat → Int32) (cx : Cx E X cL_law RL wsL_law 4 7 286) (sx : SX X b N xs) (hN : N ≤ 3584) (hi : i + 7 ≤ N) (R : Rl g h) (K : ∀ g2 h2, Rl g2 h2 → JJ E X g2 h2 1339 (LL E b i) []) : JJ E X g h 416 (LL E b i) [] := by
  obtain ⟨r, g1, h1, g2, h2, c6, c7, R2⟩ := op_point (xs (i + 1)) (xs (i + 2)) (xs (i + 3)) E g h R
  refine jr_aload_n cx dL_law_416 1 rfl rfl ?_
  refine jr_arg (t := 1) cx sx dL_law_417 dL_law_418 dL_law_419 dL_law_420 dL_law_421 (by decide +kernel) (by omega) hN ?_
  refine jr_arg (t := 2) cx sx dL_law_422 dL_law_423 dL_law_424 dL_law_425 dL_law_426 (by decide +kernel) (by omega) hN ?_
  refine jr_arg (t := 3) cx sx dL_law_427 dL_law_428 dL_law_429 dL_law_430 dL_law_431 (by decide +kernel) (by omega) hN ?_
  refine jr_vi [.int (xs (i + 1)), .int (xs (i + 2)), .int (xs (i + 3))] 3 cx dL_law_432 c6 (by decide) rfl rfl gL_law_X6_point rfl (by decide +kernel) ⟨Nat.le_of_ble_eq_true rfl, Nat.le_of_ble_eq_true rfl⟩ rfl rfl (Nat.le_of_ble_eq_true rfl) ?_
  refine jr_aload_n cx dL_law_435 2 rfl rfl ?_
  refine jr_arg (t := 1) cx sx dL_law_436 dL_law_437 dL_law_438 dL_law_439 dL_law_440 (by decide +kernel) (by omega) hN ?_
  refine jr_arg (t := 2) cx sx dL_law_441 dL_law_442 dL_law_443 dL_law_444 dL_law_445 (by decide +kernel) (by omega) hN ?_
  refine jr_arg (t := 3) cx sx dL_law_446 dL_law_447 dL_law_448 dL_law_449 dL_law_450 (by decide +kernel) (by omega) hN ?_
  refine jr_vi [.int (xs (i + 1)), .int (xs (i + 2)), .int (xs (i + 3))] 3 cx dL_law_451 c7 (by decide) rfl rfl gL_law_X7_point rfl (by decide +kernel) ⟨Nat.le_of_ble_eq_true rfl, Nat.le_of_ble_eq_true rfl⟩ rfl rfl (Nat.le_of_ble_eq_true rfl) ?_
  exact jr_icmp_eq (tgt := 1339) cx dL_law_454 (by decide) (fun _ => K g2 h2 R2) (fun hne => absurd rfl hne)
theorem lc_clear (E : mm_E) (X : mm_X) (g : mm_I) (h : mm_L) (b N i : Nat) (xs : Nat → Int32) (cx : Cx E X cL_law RL wsL_law 4 7 286) (sx : SX X b N xs) (hN : N ≤ 3584) (hi : i + 7 ≤ N) (R : Rl g h) (K : ∀ g2 h2, Rl g2 h2 → JJ E X g2 h2 1339 (LL E b i) []) : JJ E X g h 459 (LL E b i) [] := by
  obtain ⟨r, g1, h1, g2, h2, c6, c7, R2⟩ := op_clear (xs (i + 1)) E g h R
  refine jr_aload_n cx dL_law_459 1 rfl rfl ?_
  refine jr_arg (t := 1) cx sx dL_law_460 dL_law_461 dL_law_462 dL_law_463 dL_law_464 (by decide +kernel) (by omega) hN ?_
  refine jr_vi [.int (xs (i + 1))] 1 cx dL_law_465 c6 (by decide) rfl rfl gL_law_X6_clear rfl (by decide +kernel) ⟨Nat.le_of_ble_eq_true rfl, Nat.le_of_ble_eq_true rfl⟩ rfl rfl (Nat.le_of_ble_eq_true rfl) ?_
  refine jr_aload_n cx dL_law_468 2 rfl rfl ?_
  refine jr_arg (t := 1) cx sx dL_law_469 dL_law_470 dL_law_471 dL_law_472 dL_law_473 (by decide +kernel) (by omega) hN ?_
  refine jr_vi [.int (xs (i + 1))] 1 cx dL_law_474 c7 (by decide) rfl rfl gL_law_X7_clear rfl (by decide +kernel) ⟨Nat.le_of_ble_eq_true rfl, Nat.le_of_ble_eq_true rfl⟩ rfl rfl (Nat.le_of_ble_eq_true rfl) ?_
  exact jr_icmp_eq (tgt := 1339) cx dL_law_477 (by decide) (fun _ => K g2 h2 R2) (fun hne => absurd rfl hne)
theorem lc_curve (E : mm_E) (X : mm_X) (g : mm_I) (h : mm_L) (b N i : Nat) (xs : Nat → Int32) (cx : Cx E X cL_law RL wsL_law 4 7 286) (sx : SX X b N xs) (hN : N ≤ 3584) (hi : i + 7 ≤ N) (R : Rl g h) (K : ∀ g2 h2, Rl g2 h2 → JJ E X g2 h2 1339 (LL E b i) []) : JJ E X g h 482 (LL E b i) [] := by
  obtain ⟨r, g1, h1, g2, h2, c6, c7, R2⟩ := op_curve (xs (i + 1)) (xs (i + 2)) E g h R
  refine jr_aload_n cx dL_law_482 1 rfl rfl ?_
  refine jr_arg (t := 1) cx sx dL_law_483 dL_law_484 dL_law_485 dL_law_486 dL_law_487 (by decide +kernel) (by omega) hN ?_
  refine jr_arg (t := 2) cx sx dL_law_488 dL_law_489 dL_law_490 dL_law_491 dL_law_492 (by decide +kernel) (by omega) hN ?_
  refine jr_vi [.int (xs (i + 1)), .int (xs (i + 2))] 2 cx dL_law_493 c6 (by decide) rfl rfl gL_law_X6_curve rfl (by decide +kernel) ⟨Nat.le_of_ble_eq_true rfl, Nat.le_of_ble_eq_true rfl⟩ rfl rfl (Nat.le_of_ble_eq_true rfl) ?_
  refine jr_aload_n cx dL_law_496 2 rfl rfl ?_
  refine jr_arg (t := 1) cx sx dL_law_497 dL_law_498 dL_law_499 dL_law_500 dL_law_501 (by decide +kernel) (by omega) hN ?_
  refine jr_arg (t := 2) cx sx dL_law_502 dL_law_503 dL_law_504 dL_law_505 dL_law_506 (by decide +kernel) (by omega) hN ?_
  refine jr_vi [.int (xs (i + 1)), .int (xs (i + 2))] 2 cx dL_law_507 c7 (by decide) rfl rfl gL_law_X7_curve rfl (by decide +kernel) ⟨Nat.le_of_ble_eq_true rfl, Nat.le_of_ble_eq_true rfl⟩ rfl rfl (Nat.le_of_ble_eq_true rfl) ?_
  exact jr_icmp_eq (tgt := 1339) cx dL_law_510 (by decide) (fun _ => K g2 h2 R2) (fun hne => absurd rfl hne)
theorem lc_apart (E : mm_E) (X : mm_X) (g : mm_I) (h : mm_L) (b N i : Nat) (xs : Nat → Int32) (cx : Cx E X cL_law RL wsL_law 4 7 286) (sx : SX X b N xs) (hN : N ≤ 3584) (hi : i + 7 ≤ N) (R : Rl g h) (K : ∀ g2 h2, Rl g2 h2 → JJ E X g2 h2 1339 (LL E b i) []) : JJ E X g h 515 (LL E b i) [] := by
  obtain ⟨r, g1, h1, g2, h2, c6, c7, R2⟩ := op_apart (xs (i + 1)) (xs (i + 2)) (xs (i + 3)) (xs (i + 4)) E g h R
  refine jr_aload_n cx dL_law_515 1 rfl rfl ?_
  refine jr_arg (t := 1) cx sx dL_law_516 dL_law_517 dL_law_518 dL_law_519 dL_law_520 (by decide +kernel) (by omega) hN ?_
  refine jr_arg (t := 2) cx sx dL_law_521 dL_law_522 dL_law_523 dL_law_524 dL_law_525 (by decide +kernel) (by omega) hN ?_
  refine jr_arg (t := 3) cx sx dL_law_526 dL_law_527 dL_law_528 dL_law_529 dL_law_530 (by decide +kernel) (by omega) hN ?_
  refine jr_arg (t := 4) cx sx dL_law_531 dL_law_532 dL_law_533 dL_law_534 dL_law_535 (by decide +kernel) (by omega) hN ?_
  refine jr_vi [.int (xs (i + 1)), .int (xs (i + 2)), .int (xs (i + 3)), .int (xs (i + 4))] 4 cx dL_law_536 c6 (by decide) rfl rfl gL_law_X6_apart rfl (by decide +kernel) ⟨Nat.le_of_ble_eq_true rfl, Nat.le_of_ble_eq_true rfl⟩ rfl rfl (Nat.le_of_ble_eq_true rfl) ?_
  refine jr_aload_n cx dL_law_539 2 rfl rfl ?_
  refine jr_arg (t := 1) cx sx dL_law_540 dL_law_541 dL_law_542 dL_law_543 dL_law_544 (by decide +kernel) (by omega) hN ?_
  refine jr_arg (t := 2) cx sx dL_law_545 dL_law_546 dL_law_547 dL_law_548 dL_law_549 (by decide +kernel) (by omega) hN ?_
  refine jr_arg (t := 3) cx sx dL_law_550 dL_law_551 dL_law_552 dL_law_553 dL_law_554 (by decide +kernel) (by omega) hN ?_
  refine jr_arg (t := 4) cx sx dL_law_555 dL_law_556 dL_law_557 dL_law_558 dL_law_559 (by decide +kernel) (by omega) hN ?_
  refine jr_vi [.int (xs (i + 1)), .int (xs (i + 2)), .int (xs (i + 3)), .int (xs (i + 4))] 4 cx dL_law_560 c7 (by decide) rfl rfl gL_law_X7_apart rfl (by decide +kernel) ⟨Nat.le_of_ble_eq_true rfl, Nat.le_of_ble_eq_true rfl⟩ rfl rfl (Nat.le_of_ble_eq_true rfl) ?_
  exact jr_icmp_eq (tgt := 1339) cx dL_law_563 (by decide) (fun _ => K g2 h2 R2) (fun hne => absurd rfl hne)
theorem lc_bulb (E : mm_E) (X : mm_X) (g : mm_I) (h : mm_L) (b N i : Nat) (xs : Nat → Int32) (cx : Cx E X cL_law RL wsL_law 4 7 286) (sx : SX X b N xs) (hN : N ≤ 3584) (hi : i + 7 ≤ N) (R : Rl g h) (K : ∀ g2 h2, Rl g2 h2 → JJ E X g2 h2 1339 (LL E b i) []) : JJ E X g h 568 (LL E b i) [] := by
  obtain ⟨r, g1, h1, g2, h2, c6, c7, R2⟩ := op_bulb (xs (i + 1)) (xs (i + 2)) E g h R
  refine jr_aload_n cx dL_law_568 1 rfl rfl ?_
  refine jr_arg (t := 1) cx sx dL_law_569 dL_law_570 dL_law_571 dL_law_572 dL_law_573 (by decide +kernel) (by omega) hN ?_
  refine jr_arg (t := 2) cx sx dL_law_574 dL_law_575 dL_law_576 dL_law_577 dL_law_578 (by decide +kernel) (by omega) hN ?_
  refine jr_vi [.int (xs (i + 1)), .int (xs (i + 2))] 2 cx dL_law_579 c6 (by decide) rfl rfl gL_law_X6_bulb rfl (by decide +kernel) ⟨Nat.le_of_ble_eq_true rfl, Nat.le_of_ble_eq_true rfl⟩ rfl rfl (Nat.le_of_ble_eq_true rfl) ?_
  refine jr_aload_n cx dL_law_582 2 rfl rfl ?_
  refine jr_arg (t := 1) cx sx dL_law_583 dL_law_584 dL_law_585 dL_law_586 dL_law_587 (by decide +kernel) (by omega) hN ?_
  refine jr_arg (t := 2) cx sx dL_law_588 dL_law_589 dL_law_590 dL_law_591 dL_law_592 (by decide +kernel) (by omega) hN ?_
  refine jr_vi [.int (xs (i + 1)), .int (xs (i + 2))] 2 cx dL_law_593 c7 (by decide) rfl rfl gL_law_X7_bulb rfl (by decide +kernel) ⟨Nat.le_of_ble_eq_true rfl, Nat.le_of_ble_eq_true rfl⟩ rfl rfl (Nat.le_of_ble_eq_true rfl) ?_
  exact jr_icmp_eq (tgt := 1339) cx dL_law_596 (by decide) (fun _ => K g2 h2 R2) (fun hne => absurd rfl hne)
theorem lc_told (E : mm_E) (X : mm_X) (g : mm_I) (h : mm_L) (b N i : Nat) (xs : Nat → Int32) (cx : Cx E X cL_law RL wsL_law 4 7 286) (sx : SX X b N xs) (hN : N ≤ 3584) (hi : i + 7 ≤ N) (R : Rl g h) (K : ∀ g2 h2, Rl g2 h2 → JJ E X g2 h2 1339 (LL E b i) []) : JJ E X g h 601 (LL E b i) [] := by
  obtain ⟨r, g1, h1, g2, h2, c6, c7, R2⟩ := op_told (xs (i + 1)) (xs (i + 2)) E g h R
  refine jr_aload_n cx dL_law_601 1 rfl rfl ?_
  refine jr_arg (t := 1) cx sx dL_law_602 dL_law_603 dL_law_604 dL_law_605 dL_law_606 (by decide +kernel) (by omega) hN ?_
  refine jr_arg (t := 2) cx sx dL_law_607 dL_law_608 dL_law_609 dL_law_610 dL_law_611 (by decide +kernel) (by omega) hN ?_
  refine jr_vi [.int (xs (i + 1)), .int (xs (i + 2))] 2 cx dL_law_612 c6 (by decide) rfl rfl gL_law_X6_told rfl (by decide +kernel) ⟨Nat.le_of_ble_eq_true rfl, Nat.le_of_ble_eq_true rfl⟩ rfl rfl (Nat.le_of_ble_eq_true rfl) ?_
  refine jr_aload_n cx dL_law_615 2 rfl rfl ?_
  refine jr_arg (t := 1) cx sx dL_law_616 dL_law_617 dL_law_618 dL_law_619 dL_law_620 (by decide +kernel) (by omega) hN ?_
  refine jr_arg (t := 2) cx sx dL_law_621 dL_law_622 dL_law_623 dL_law_624 dL_law_625 (by decide +kernel) (by omega) hN ?_
  refine jr_vi [.int (xs (i + 1)), .int (xs (i + 2))] 2 cx dL_law_626 c7 (by decide) rfl rfl gL_law_X7_told rfl (by decide +kernel) ⟨Nat.le_of_ble_eq_true rfl, Nat.le_of_ble_eq_true rfl⟩ rfl rfl (Nat.le_of_ble_eq_true rfl) ?_
  exact jr_icmp_eq (tgt := 1339) cx dL_law_629 (by decide) (fun _ => K g2 h2 R2) (fun hne => absurd rfl hne)
theorem lc_mark (E : mm_E) (X : mm_X) (g : mm_I) (h : mm_L) (b N i : Nat) (xs : Nat → Int32) (cx : Cx E X cL_law RL wsL_law 4 7 286) (sx : SX X b N xs) (hN : N ≤ 3584) (hi : i + 7 ≤ N) (R : Rl g h) (K : ∀ g2 h2, Rl g2 h2 → JJ E X g2 h2 1339 (LL E b i) []) : JJ E X g h 634 (LL E b i) [] := by
  obtain ⟨r, g1, h1, g2, h2, c6, c7, R2⟩ := op_mark (xs (i + 1)) (xs (i + 2)) E g h R
  refine jr_aload_n cx dL_law_634 1 rfl rfl ?_
  refine jr_arg (t := 1) cx sx dL_law_635 dL_law_636 dL_law_637 dL_law_638 dL_law_639 (by decide +kernel) (by omega) hN ?_
  refine jr_arg (t := 2) cx sx dL_law_640 dL_law_641 dL_law_642 dL_law_643 dL_law_644 (by decide +kernel) (by omega) hN ?_
  refine jr_vi [.int (xs (i + 1)), .int (xs (i + 2))] 2 cx dL_law_645 c6 (by decide) rfl rfl gL_law_X6_mark rfl (by decide +kernel) ⟨Nat.le_of_ble_eq_true rfl, Nat.le_of_ble_eq_true rfl⟩ rfl rfl (Nat.le_of_ble_eq_true rfl) ?_
  refine jr_aload_n cx dL_law_648 2 rfl rfl ?_
  refine jr_arg (t := 1) cx sx dL_law_649 dL_law_650 dL_law_651 dL_law_652 dL_law_653 (by decide +kernel) (by omega) hN ?_
  refine jr_arg (t := 2) cx sx dL_law_654 dL_law_655 dL_law_656 dL_law_657 dL_law_658 (by decide +kernel) (by omega) hN ?_
  refine jr_vi [.int (xs (i + 1)), .int (xs (i + 2))] 2 cx dL_law_659 c7 (by decide) rfl rfl gL_law_X7_mark rfl (by decide +kernel) ⟨Nat.le_of_ble_eq_true rfl, Nat.le_of_ble_eq_true rfl⟩ rfl rfl (Nat.le_of_ble_eq_true rfl) ?_
  exact jr_icmp_eq (tgt := 1339) cx dL_law_662 (by decide) (fun _ => K g2 h2 R2) (fun hne => absurd rfl hne)
theorem lc_stem (E : mm_E) (X : mm_X) (g : mm_I) (h : mm_L) (b N i : Nat) (xs : Nat → Int32) (cx : Cx E X cL_law RL wsL_law 4 7 286) (sx : SX X b N xs) (hN : N ≤ 3584) (hi : i + 7 ≤ N) (R : Rl g h) (K : ∀ g2 h2, Rl g2 h2 → JJ E X g2 h2 1339 (LL E b i) []) : JJ E X g h 667 (LL E b i) [] := by
  obtain ⟨r, g1, h1, g2, h2, c6, c7, R2⟩ := op_stem (xs (i + 1)) (xs (i + 2)) (xs (i + 3)) (xs (i + 4)) (xs (i + 5)) E g h R
  refine jr_aload_n cx dL_law_667 1 rfl rfl ?_
  refine jr_arg (t := 1) cx sx dL_law_668 dL_law_669 dL_law_670 dL_law_671 dL_law_672 (by decide +kernel) (by omega) hN ?_
  refine jr_arg (t := 2) cx sx dL_law_673 dL_law_674 dL_law_675 dL_law_676 dL_law_677 (by decide +kernel) (by omega) hN ?_
  refine jr_arg (t := 3) cx sx dL_law_678 dL_law_679 dL_law_680 dL_law_681 dL_law_682 (by decide +kernel) (by omega) hN ?_
  refine jr_arg (t := 4) cx sx dL_law_683 dL_law_684 dL_law_685 dL_law_686 dL_law_687 (by decide +kernel) (by omega) hN ?_
  refine jr_arg (t := 5) cx sx dL_law_688 dL_law_689 dL_law_690 dL_law_691 dL_law_692 (by decide +kernel) (by omega) hN ?_
  refine jr_vi [.int (xs (i + 1)), .int (xs (i + 2)), .int (xs (i + 3)), .int (xs (i + 4)), .int (xs (i + 5))] 5 cx dL_law_693 c6 (by decide) rfl rfl gL_law_X6_stem rfl (by decide +kernel) ⟨Nat.le_of_ble_eq_true rfl, Nat.le_of_ble_eq_true rfl⟩ rfl rfl (Nat.le_of_ble_eq_true rfl) ?_
  refine jr_aload_n cx dL_law_696 2 rfl rfl ?_
  refine jr_arg (t := 1) cx sx dL_law_697 dL_law_698 dL_law_699 dL_law_700 dL_law_701 (by decide +kernel) (by omega) hN ?_
  refine jr_arg (t := 2) cx sx dL_law_702 dL_law_703 dL_law_704 dL_law_705 dL_law_706 (by decide +kernel) (by omega) hN ?_
  refine jr_arg (t := 3) cx sx dL_law_707 dL_law_708 dL_law_709 dL_law_710 dL_law_711 (by decide +kernel) (by omega) hN ?_
  refine jr_arg (t := 4) cx sx dL_law_712 dL_law_713 dL_law_714 dL_law_715 dL_law_716 (by decide +kernel) (by omega) hN ?_
  refine jr_arg (t := 5) cx sx dL_law_717 dL_law_718 dL_law_719 dL_law_720 dL_law_721 (by decide +kernel) (by omega) hN ?_
  refine jr_vi [.int (xs (i + 1)), .int (xs (i + 2)), .int (xs (i + 3)), .int (xs (i + 4)), .int (xs (i + 5))] 5 cx dL_law_722 c7 (by decide) rfl rfl gL_law_X7_stem rfl (by decide +kernel) ⟨Nat.le_of_ble_eq_true rfl, Nat.le_of_ble_eq_true rfl⟩ rfl rfl (Nat.le_of_ble_eq_true rfl) ?_
  exact jr_icmp_eq (tgt := 1339) cx dL_law_725 (by decide) (fun _ => K g2 h2 R2) (fun hne => absurd rfl hne)
theorem lc_currents (E : mm_E) (X : mm_X) (g : mm_I) (h : mm_L) (b N i : Nat) (xs : Nat → Int32) (cx : Cx E X cL_law RL wsL_law 4 7 286) (sx : SX X b N xs) (hN : N ≤ 3584) (hi : i + 7 ≤ N) (R : Rl g h) (K : ∀ g2 h2, Rl g2 h2 → JJ E X g2 h2 1339 (LL E b i) []) : JJ E X g h 730 (LL E b i) [] := by
  obtain ⟨r, g1, h1, g2, h2, c6, c7, R2⟩ := op_currents (xs (i + 1)) (xs (i + 2)) (xs (i + 3)) (xs (i + 4)) (xs (i + 5)) E g h R
  refine jr_aload_n cx dL_law_730 1 rfl rfl ?_
  refine jr_arg (t := 1) cx sx dL_law_731 dL_law_732 dL_law_733 dL_law_734 dL_law_735 (by decide +kernel) (by omega) hN ?_
  refine jr_arg (t := 2) cx sx dL_law_736 dL_law_737 dL_law_738 dL_law_739 dL_law_740 (by decide +kernel) (by omega) hN ?_
  refine jr_arg (t := 3) cx sx dL_law_741 dL_law_742 dL_law_743 dL_law_744 dL_law_745 (by decide +kernel) (by omega) hN ?_
  refine jr_arg (t := 4) cx sx dL_law_746 dL_law_747 dL_law_748 dL_law_749 dL_law_750 (by decide +kernel) (by omega) hN ?_
  refine jr_arg (t := 5) cx sx dL_law_751 dL_law_752 dL_law_753 dL_law_754 dL_law_755 (by decide +kernel) (by omega) hN ?_
  refine jr_vi [.int (xs (i + 1)), .int (xs (i + 2)), .int (xs (i + 3)), .int (xs (i + 4)), .int (xs (i + 5))] 5 cx dL_law_756 c6 (by decide) rfl rfl gL_law_X6_currents rfl (by decide +kernel) ⟨Nat.le_of_ble_eq_true rfl, Nat.le_of_ble_eq_true rfl⟩ rfl rfl (Nat.le_of_ble_eq_true rfl) ?_
  refine jr_aload_n cx dL_law_759 2 rfl rfl ?_
  refine jr_arg (t := 1) cx sx dL_law_760 dL_law_761 dL_law_762 dL_law_763 dL_law_764 (by decide +kernel) (by omega) hN ?_
  refine jr_arg (t := 2) cx sx dL_law_765 dL_law_766 dL_law_767 dL_law_768 dL_law_769 (by decide +kernel) (by omega) hN ?_
  refine jr_arg (t := 3) cx sx dL_law_770 dL_law_771 dL_law_772 dL_law_773 dL_law_774 (by decide +kernel) (by omega) hN ?_
  refine jr_arg (t := 4) cx sx dL_law_775 dL_law_776 dL_law_777 dL_law_778 dL_law_779 (by decide +kernel) (by omega) hN ?_
  refine jr_arg (t := 5) cx sx dL_law_780 dL_law_781 dL_law_782 dL_law_783 dL_law_784 (by decide +kernel) (by omega) hN ?_
  refine jr_vi [.int (xs (i + 1)), .int (xs (i + 2)), .int (xs (i + 3)), .int (xs (i + 4)), .int (xs (i + 5))] 5 cx dL_law_785 c7 (by decide) rfl rfl gL_law_X7_currents rfl (by decide +kernel) ⟨Nat.le_of_ble_eq_true rfl, Nat.le_of_ble_eq_true rfl⟩ rfl rfl (Nat.le_of_ble_eq_true rfl) ?_
  exact jr_icmp_eq (tgt := 1339) cx dL_law_788 (by decide) (fun _ => K g2 h2 R2) (fun hne => absurd rfl hne)
theorem lc_compare (E : mm_E) (X : mm_X) (g : mm_I) (h : mm_L) (b N i : Nat) (xs : Nat → Int32) (cx : Cx E X cL_law RL wsL_law 4 7 286) (sx : SX X b N xs) (hN : N ≤ 3584) (hi : i + 7 ≤ N) (R : Rl g h) (K : ∀ g2 h2, Rl g2 h2 → JJ E X g2 h2 1339 (LL E b i) []) : JJ E X g h 793 (LL E b i) [] := by
  obtain ⟨r, g1, h1, g2, h2, c6, c7, R2⟩ := op_compare (xs (i + 1)) (xs (i + 2)) E g h R
  refine jr_aload_n cx dL_law_793 1 rfl rfl ?_
  refine jr_arg (t := 1) cx sx dL_law_794 dL_law_795 dL_law_796 dL_law_797 dL_law_798 (by decide +kernel) (by omega) hN ?_
  refine jr_arg (t := 2) cx sx dL_law_799 dL_law_800 dL_law_801 dL_law_802 dL_law_803 (by decide +kernel) (by omega) hN ?_
  refine jr_vi [.int (xs (i + 1)), .int (xs (i + 2))] 2 cx dL_law_804 c6 (by decide) rfl rfl gL_law_X6_compare rfl (by decide +kernel) ⟨Nat.le_of_ble_eq_true rfl, Nat.le_of_ble_eq_true rfl⟩ rfl rfl (Nat.le_of_ble_eq_true rfl) ?_
  refine jr_aload_n cx dL_law_807 2 rfl rfl ?_
  refine jr_arg (t := 1) cx sx dL_law_808 dL_law_809 dL_law_810 dL_law_811 dL_law_812 (by decide +kernel) (by omega) hN ?_
  refine jr_arg (t := 2) cx sx dL_law_813 dL_law_814 dL_law_815 dL_law_816 dL_law_817 (by decide +kernel) (by omega) hN ?_
  refine jr_vi [.int (xs (i + 1)), .int (xs (i + 2))] 2 cx dL_law_818 c7 (by decide) rfl rfl gL_law_X7_compare rfl (by decide +kernel) ⟨Nat.le_of_ble_eq_true rfl, Nat.le_of_ble_eq_true rfl⟩ rfl rfl (Nat.le_of_ble_eq_true rfl) ?_
  exact jr_icmp_eq (tgt := 1339) cx dL_law_821 (by decide) (fun _ => K g2 h2 R2) (fun hne => absurd rfl hne)
theorem lc_certify (E : mm_E) (X : mm_X) (g : mm_I) (h : mm_L) (b N i : Nat) (xs : Nat → Int32) (cx : Cx E X cL_law RL wsL_law 4 7 286) (sx : SX X b N xs) (hN : N ≤ 3584) (hi : i + 7 ≤ N) (R : Rl g h) (K : ∀ g2 h2, Rl g2 h2 → JJ E X g2 h2 1339 (LL E b i) []) : JJ E X g h 826 (LL E b i) [] := by
  obtain ⟨r, g1, h1, g2, h2, c6, c7, R2⟩ := op_certify (xs (i + 1)) (xs (i + 2)) (xs (i + 3)) (xs (i + 4)) (xs (i + 5)) (xs (i + 6)) E g h R
  refine jr_aload_n cx dL_law_826 1 rfl rfl ?_
  refine jr_arg (t := 1) cx sx dL_law_827 dL_law_828 dL_law_829 dL_law_830 dL_law_831 (by decide +kernel) (by omega) hN ?_
  refine jr_arg (t := 2) cx sx dL_law_832 dL_law_833 dL_law_834 dL_law_835 dL_law_836 (by decide +kernel) (by omega) hN ?_
  refine jr_arg (t := 3) cx sx dL_law_837 dL_law_838 dL_law_839 dL_law_840 dL_law_841 (by decide +kernel) (by omega) hN ?_
  refine jr_arg (t := 4) cx sx dL_law_842 dL_law_843 dL_law_844 dL_law_845 dL_law_846 (by decide +kernel) (by omega) hN ?_
  refine jr_arg (t := 5) cx sx dL_law_847 dL_law_848 dL_law_849 dL_law_850 dL_law_851 (by decide +kernel) (by omega) hN ?_
  refine jr_arg6 (t := 6) cx sx dL_law_852 dL_law_853 dL_law_854 dL_law_856 dL_law_857 (by decide +kernel) (by omega) hN ?_
  refine jr_vi [.int (xs (i + 1)), .int (xs (i + 2)), .int (xs (i + 3)), .int (xs (i + 4)), .int (xs (i + 5)), .int (xs (i + 6))] 6 cx dL_law_858 c6 (by decide) rfl rfl gL_law_X6_certify rfl (by decide +kernel) ⟨Nat.le_of_ble_eq_true rfl, Nat.le_of_ble_eq_true rfl⟩ rfl rfl (Nat.le_of_ble_eq_true rfl) ?_
  refine jr_aload_n cx dL_law_861 2 rfl rfl ?_
  refine jr_arg (t := 1) cx sx dL_law_862 dL_law_863 dL_law_864 dL_law_865 dL_law_866 (by decide +kernel) (by omega) hN ?_
  refine jr_arg (t := 2) cx sx dL_law_867 dL_law_868 dL_law_869 dL_law_870 dL_law_871 (by decide +kernel) (by omega) hN ?_
  refine jr_arg (t := 3) cx sx dL_law_872 dL_law_873 dL_law_874 dL_law_875 dL_law_876 (by decide +kernel) (by omega) hN ?_
  refine jr_arg (t := 4) cx sx dL_law_877 dL_law_878 dL_law_879 dL_law_880 dL_law_881 (by decide +kernel) (by omega) hN ?_
  refine jr_arg (t := 5) cx sx dL_law_882 dL_law_883 dL_law_884 dL_law_885 dL_law_886 (by decide +kernel) (by omega) hN ?_
  refine jr_arg6 (t := 6) cx sx dL_law_887 dL_law_888 dL_law_889 dL_law_891 dL_law_892 (by decide +kernel) (by omega) hN ?_
  refine jr_vi [.int (xs (i + 1)), .int (xs (i + 2)), .int (xs (i + 3)), .int (xs (i + 4)), .int (xs (i + 5)), .int (xs (i + 6))] 6 cx dL_law_893 c7 (by decide) rfl rfl gL_law_X7_certify rfl (by decide +kernel) ⟨Nat.le_of_ble_eq_true rfl, Nat.le_of_ble_eq_true rfl⟩ rfl rfl (Nat.le_of_ble_eq_true rfl) ?_
  exact jr_icmp_eq (tgt := 1339) cx dL_law_896 (by decide) (fun _ => K g2 h2 R2) (fun hne => absurd rfl hne)
theorem lc_certificate (E : mm_E) (X : mm_X) (g : mm_I) (h : mm_L) (b N i : Nat) (xs : Nat → Int32) (cx : Cx E X cL_law RL wsL_law 4 7 286) (sx : SX X b N xs) (hN : N ≤ 3584) (hi : i + 7 ≤ N) (R : Rl g h) (K : ∀ g2 h2, Rl g2 h2 → JJ E X g2 h2 1339 (LL E b i) []) : JJ E X g h 901 (LL E b i) [] := by
  obtain ⟨r, g1, h1, g2, h2, c6, c7, R2⟩ := op_certificate (xs (i + 1)) (xs (i + 2)) E g h R
  refine jr_aload_n cx dL_law_901 1 rfl rfl ?_
  refine jr_arg (t := 1) cx sx dL_law_902 dL_law_903 dL_law_904 dL_law_905 dL_law_906 (by decide +kernel) (by omega) hN ?_
  refine jr_arg (t := 2) cx sx dL_law_907 dL_law_908 dL_law_909 dL_law_910 dL_law_911 (by decide +kernel) (by omega) hN ?_
  refine jr_vi [.int (xs (i + 1)), .int (xs (i + 2))] 2 cx dL_law_912 c6 (by decide) rfl rfl gL_law_X6_certificate rfl (by decide +kernel) ⟨Nat.le_of_ble_eq_true rfl, Nat.le_of_ble_eq_true rfl⟩ rfl rfl (Nat.le_of_ble_eq_true rfl) ?_
  refine jr_aload_n cx dL_law_915 2 rfl rfl ?_
  refine jr_arg (t := 1) cx sx dL_law_916 dL_law_917 dL_law_918 dL_law_919 dL_law_920 (by decide +kernel) (by omega) hN ?_
  refine jr_arg (t := 2) cx sx dL_law_921 dL_law_922 dL_law_923 dL_law_924 dL_law_925 (by decide +kernel) (by omega) hN ?_
  refine jr_vi [.int (xs (i + 1)), .int (xs (i + 2))] 2 cx dL_law_926 c7 (by decide) rfl rfl gL_law_X7_certificate rfl (by decide +kernel) ⟨Nat.le_of_ble_eq_true rfl, Nat.le_of_ble_eq_true rfl⟩ rfl rfl (Nat.le_of_ble_eq_true rfl) ?_
  exact jr_icmp_eq (tgt := 1339) cx dL_law_929 (by decide) (fun _ => K g2 h2 R2) (fun hne => absurd rfl hne)
theorem lc_offset (E : mm_E) (X : mm_X) (g : mm_I) (h : mm_L) (b N i : Nat) (xs : Nat → Int32) (cx : Cx E X cL_law RL wsL_law 4 7 286) (sx : SX X b N xs) (hN : N ≤ 3584) (hi : i + 7 ≤ N) (R : Rl g h) (K : ∀ g2 h2, Rl g2 h2 → JJ E X g2 h2 1339 (LL E b i) []) : JJ E X g h 934 (LL E b i) [] := by
  obtain ⟨r, g1, h1, g2, h2, c6, c7, R2⟩ := op_offset (xs (i + 1)) E g h R
  refine jr_aload_n cx dL_law_934 1 rfl rfl ?_
  refine jr_arg (t := 1) cx sx dL_law_935 dL_law_936 dL_law_937 dL_law_938 dL_law_939 (by decide +kernel) (by omega) hN ?_
  refine jr_vi [.int (xs (i + 1))] 1 cx dL_law_940 c6 (by decide) rfl rfl gL_law_X6_offset rfl (by decide +kernel) ⟨Nat.le_of_ble_eq_true rfl, Nat.le_of_ble_eq_true rfl⟩ rfl rfl (Nat.le_of_ble_eq_true rfl) ?_
  refine jr_aload_n cx dL_law_943 2 rfl rfl ?_
  refine jr_arg (t := 1) cx sx dL_law_944 dL_law_945 dL_law_946 dL_law_947 dL_law_948 (by decide +kernel) (by omega) hN ?_
  refine jr_vi [.int (xs (i + 1))] 1 cx dL_law_949 c7 (by decide) rfl rfl gL_law_X7_offset rfl (by decide +kernel) ⟨Nat.le_of_ble_eq_true rfl, Nat.le_of_ble_eq_true rfl⟩ rfl rfl (Nat.le_of_ble_eq_true rfl) ?_
  exact jr_icmp_eq (tgt := 1339) cx dL_law_952 (by decide) (fun _ => K g2 h2 R2) (fun hne => absurd rfl hne)
theorem lc_wrong (E : mm_E) (X : mm_X) (g : mm_I) (h : mm_L) (b N i : Nat) (xs : Nat → Int32) (cx : Cx E X cL_law RL wsL_law 4 7 286) (sx : SX X b N xs) (hN : N ≤ 3584) (hi : i + 7 ≤ N) (R : Rl g h) (K : ∀ g2 h2, Rl g2 h2 → JJ E X g2 h2 1339 (LL E b i) []) : JJ E X g h 957 (LL E b i) [] := by
  obtain ⟨r, g1, h1, g2, h2, c6, c7, R2⟩ := op_wrong (xs (i + 1)) (xs (i + 2)) (xs (i + 3)) E g h R
  refine jr_aload_n cx dL_law_957 1 rfl rfl ?_
  refine jr_arg (t := 1) cx sx dL_law_958 dL_law_959 dL_law_960 dL_law_961 dL_law_962 (by decide +kernel) (by omega) hN ?_
  refine jr_arg (t := 2) cx sx dL_law_963 dL_law_964 dL_law_965 dL_law_966 dL_law_967 (by decide +kernel) (by omega) hN ?_
  refine jr_arg (t := 3) cx sx dL_law_968 dL_law_969 dL_law_970 dL_law_971 dL_law_972 (by decide +kernel) (by omega) hN ?_
  refine jr_vi [.int (xs (i + 1)), .int (xs (i + 2)), .int (xs (i + 3))] 3 cx dL_law_973 c6 (by decide) rfl rfl gL_law_X6_wrong rfl (by decide +kernel) ⟨Nat.le_of_ble_eq_true rfl, Nat.le_of_ble_eq_true rfl⟩ rfl rfl (Nat.le_of_ble_eq_true rfl) ?_
  refine jr_aload_n cx dL_law_976 2 rfl rfl ?_
  refine jr_arg (t := 1) cx sx dL_law_977 dL_law_978 dL_law_979 dL_law_980 dL_law_981 (by decide +kernel) (by omega) hN ?_
  refine jr_arg (t := 2) cx sx dL_law_982 dL_law_983 dL_law_984 dL_law_985 dL_law_986 (by decide +kernel) (by omega) hN ?_
  refine jr_arg (t := 3) cx sx dL_law_987 dL_law_988 dL_law_989 dL_law_990 dL_law_991 (by decide +kernel) (by omega) hN ?_
  refine jr_vi [.int (xs (i + 1)), .int (xs (i + 2)), .int (xs (i + 3))] 3 cx dL_law_992 c7 (by decide) rfl rfl gL_law_X7_wrong rfl (by decide +kernel) ⟨Nat.le_of_ble_eq_true rfl, Nat.le_of_ble_eq_true rfl⟩ rfl rfl (Nat.le_of_ble_eq_true rfl) ?_
  exact jr_icmp_eq (tgt := 1339) cx dL_law_995 (by decide) (fun _ => K g2 h2 R2) (fun hne => absurd rfl hne)
theorem lc_passes (E : mm_E) (X : mm_X) (g : mm_I) (h : mm_L) (b N i : Nat) (xs : Nat → Int32) (cx : Cx E X cL_law RL wsL_law 4 7 286) (sx : SX X b N xs) (hN : N ≤ 3584) (hi : i + 7 ≤ N) (R : Rl g h) (K : ∀ g2 h2, Rl g2 h2 → JJ E X g2 h2 1339 (LL E b i) []) : JJ E X g h 1000 (LL E b i) [] := by
  obtain ⟨r, g1, h1, g2, h2, c6, c7, R2⟩ := op_passes (xs (i + 1)) E g h R
  refine jr_aload_n cx dL_law_1000 1 rfl rfl ?_
  refine jr_arg (t := 1) cx sx dL_law_1001 dL_law_1002 dL_law_1003 dL_law_1004 dL_law_1005 (by decide +kernel) (by omega) hN ?_
  refine jr_vi [.int (xs (i + 1))] 1 cx dL_law_1006 c6 (by decide) rfl rfl gL_law_X6_passes rfl (by decide +kernel) ⟨Nat.le_of_ble_eq_true rfl, Nat.le_of_ble_eq_true rfl⟩ rfl rfl (Nat.le_of_ble_eq_true rfl) ?_
  refine jr_aload_n cx dL_law_1009 2 rfl rfl ?_
  refine jr_arg (t := 1) cx sx dL_law_1010 dL_law_1011 dL_law_1012 dL_law_1013 dL_law_1014 (by decide +kernel) (by omega) hN ?_
  refine jr_vi [.int (xs (i + 1))] 1 cx dL_law_1015 c7 (by decide) rfl rfl gL_law_X7_passes rfl (by decide +kernel) ⟨Nat.le_of_ble_eq_true rfl, Nat.le_of_ble_eq_true rfl⟩ rfl rfl (Nat.le_of_ble_eq_true rfl) ?_
  exact jr_icmp_eq (tgt := 1339) cx dL_law_1018 (by decide) (fun _ => K g2 h2 R2) (fun hne => absurd rfl hne)
theorem lc_whole (E : mm_E) (X : mm_X) (g : mm_I) (h : mm_L) (b N i : Nat) (xs : Nat → Int32) (cx : Cx E X cL_law RL wsL_law 4 7 286) (sx : SX X b N xs) (hN : N ≤ 3584) (hi : i + 7 ≤ N) (R : Rl g h) (K : ∀ g2 h2, Rl g2 h2 → JJ E X g2 h2 1339 (LL E b i) []) : JJ E X g h 1023 (LL E b i) [] := by
  obtain ⟨r, g1, h1, g2, h2, c6, c7, R2⟩ := op_whole (xs (i + 1)) E g h R
  refine jr_aload_n cx dL_law_1023 1 rfl rfl ?_
  refine jr_arg (t := 1) cx sx dL_law_1024 dL_law_1025 dL_law_1026 dL_law_1027 dL_law_1028 (by decide +kernel) (by omega) hN ?_
  refine jr_vi [.int (xs (i + 1))] 1 cx dL_law_1029 c6 (by decide) rfl rfl gL_law_X6_whole rfl (by decide +kernel) ⟨Nat.le_of_ble_eq_true rfl, Nat.le_of_ble_eq_true rfl⟩ rfl rfl (Nat.le_of_ble_eq_true rfl) ?_
  refine jr_aload_n cx dL_law_1032 2 rfl rfl ?_
  refine jr_arg (t := 1) cx sx dL_law_1033 dL_law_1034 dL_law_1035 dL_law_1036 dL_law_1037 (by decide +kernel) (by omega) hN ?_
  refine jr_vi [.int (xs (i + 1))] 1 cx dL_law_1038 c7 (by decide) rfl rfl gL_law_X7_whole rfl (by decide +kernel) ⟨Nat.le_of_ble_eq_true rfl, Nat.le_of_ble_eq_true rfl⟩ rfl rfl (Nat.le_of_ble_eq_true rfl) ?_
  exact jr_icmp_eq (tgt := 1339) cx dL_law_1041 (by decide) (fun _ => K g2 h2 R2) (fun hne => absurd rfl hne)
theorem lc_drift (E : mm_E) (X : mm_X) (g : mm_I) (h : mm_L) (b N i : Nat) (xs : Nat → Int32) (cx : Cx E X cL_law RL wsL_law 4 7 286) (sx : SX X b N xs) (hN : N ≤ 3584) (hi : i + 7 ≤ N) (R : Rl g h) (K : ∀ g2 h2, Rl g2 h2 → JJ E X g2 h2 1339 (LL E b i) []) : JJ E X g h 1046 (LL E b i) [] := by
  obtain ⟨r, g1, h1, g2, h2, c6, c7, R2⟩ := op_drift (xs (i + 1)) E g h R
  refine jr_aload_n cx dL_law_1046 1 rfl rfl ?_
  refine jr_arg (t := 1) cx sx dL_law_1047 dL_law_1048 dL_law_1049 dL_law_1050 dL_law_1051 (by decide +kernel) (by omega) hN ?_
  refine jr_vi [.int (xs (i + 1))] 1 cx dL_law_1052 c6 (by decide) rfl rfl gL_law_X6_drift rfl (by decide +kernel) ⟨Nat.le_of_ble_eq_true rfl, Nat.le_of_ble_eq_true rfl⟩ rfl rfl (Nat.le_of_ble_eq_true rfl) ?_
  refine jr_aload_n cx dL_law_1055 2 rfl rfl ?_
  refine jr_arg (t := 1) cx sx dL_law_1056 dL_law_1057 dL_law_1058 dL_law_1059 dL_law_1060 (by decide +kernel) (by omega) hN ?_
  refine jr_vi [.int (xs (i + 1))] 1 cx dL_law_1061 c7 (by decide) rfl rfl gL_law_X7_drift rfl (by decide +kernel) ⟨Nat.le_of_ble_eq_true rfl, Nat.le_of_ble_eq_true rfl⟩ rfl rfl (Nat.le_of_ble_eq_true rfl) ?_
  exact jr_icmp_eq (tgt := 1339) cx dL_law_1064 (by decide) (fun _ => K g2 h2 R2) (fun hne => absurd rfl hne)
theorem lc_due (E : mm_E) (X : mm_X) (g : mm_I) (h : mm_L) (b N i : Nat) (xs : Nat → Int32) (cx : Cx E X cL_law RL wsL_law 4 7 286) (sx : SX X b N xs) (hN : N ≤ 3584) (hi : i + 7 ≤ N) (R : Rl g h) (K : ∀ g2 h2, Rl g2 h2 → JJ E X g2 h2 1339 (LL E b i) []) : JJ E X g h 1069 (LL E b i) [] := by
  obtain ⟨r, g1, h1, g2, h2, c6, c7, R2⟩ := op_due (xs (i + 1)) E g h R
  refine jr_aload_n cx dL_law_1069 1 rfl rfl ?_
  refine jr_arg (t := 1) cx sx dL_law_1070 dL_law_1071 dL_law_1072 dL_law_1073 dL_law_1074 (by decide +kernel) (by omega) hN ?_
  refine jr_vi [.int (xs (i + 1))] 1 cx dL_law_1075 c6 (by decide) rfl rfl gL_law_X6_due rfl (by decide +kernel) ⟨Nat.le_of_ble_eq_true rfl, Nat.le_of_ble_eq_true rfl⟩ rfl rfl (Nat.le_of_ble_eq_true rfl) ?_
  refine jr_aload_n cx dL_law_1078 2 rfl rfl ?_
  refine jr_arg (t := 1) cx sx dL_law_1079 dL_law_1080 dL_law_1081 dL_law_1082 dL_law_1083 (by decide +kernel) (by omega) hN ?_
  refine jr_vi [.int (xs (i + 1))] 1 cx dL_law_1084 c7 (by decide) rfl rfl gL_law_X7_due rfl (by decide +kernel) ⟨Nat.le_of_ble_eq_true rfl, Nat.le_of_ble_eq_true rfl⟩ rfl rfl (Nat.le_of_ble_eq_true rfl) ?_
  exact jr_icmp_eq (tgt := 1339) cx dL_law_1087 (by decide) (fun _ => K g2 h2 R2) (fun hne => absurd rfl hne)
theorem lc_resting (E : mm_E) (X : mm_X) (g : mm_I) (h : mm_L) (b N i : Nat) (xs : Nat → Int32) (cx : Cx E X cL_law RL wsL_law 4 7 286) (sx : SX X b N xs) (hN : N ≤ 3584) (hi : i + 7 ≤ N) (R : Rl g h) (K : ∀ g2 h2, Rl g2 h2 → JJ E X g2 h2 1339 (LL E b i) []) : JJ E X g h 1092 (LL E b i) [] := by
  obtain ⟨r, g1, h1, g2, h2, c6, c7, R2⟩ := op_resting (xs (i + 1)) E g h R
  refine jr_aload_n cx dL_law_1092 1 rfl rfl ?_
  refine jr_arg (t := 1) cx sx dL_law_1093 dL_law_1094 dL_law_1095 dL_law_1096 dL_law_1097 (by decide +kernel) (by omega) hN ?_
  refine jr_vi [.int (xs (i + 1))] 1 cx dL_law_1098 c6 (by decide) rfl rfl gL_law_X6_resting rfl (by decide +kernel) ⟨Nat.le_of_ble_eq_true rfl, Nat.le_of_ble_eq_true rfl⟩ rfl rfl (Nat.le_of_ble_eq_true rfl) ?_
  refine jr_aload_n cx dL_law_1101 2 rfl rfl ?_
  refine jr_arg (t := 1) cx sx dL_law_1102 dL_law_1103 dL_law_1104 dL_law_1105 dL_law_1106 (by decide +kernel) (by omega) hN ?_
  refine jr_vi [.int (xs (i + 1))] 1 cx dL_law_1107 c7 (by decide) rfl rfl gL_law_X7_resting rfl (by decide +kernel) ⟨Nat.le_of_ble_eq_true rfl, Nat.le_of_ble_eq_true rfl⟩ rfl rfl (Nat.le_of_ble_eq_true rfl) ?_
  exact jr_icmp_eq (tgt := 1339) cx dL_law_1110 (by decide) (fun _ => K g2 h2 R2) (fun hne => absurd rfl hne)
theorem lc_lab (E : mm_E) (X : mm_X) (g : mm_I) (h : mm_L) (b N i : Nat) (xs : Nat → Int32) (cx : Cx E X cL_law RL wsL_law 4 7 286) (sx : SX X b N xs) (hN : N ≤ 3584) (hi : i + 7 ≤ N) (R : Rl g h) (K : ∀ g2 h2, Rl g2 h2 → JJ E X g2 h2 1339 (LL E b i) []) : JJ E X g h 1115 (LL E b i) [] := by
  obtain ⟨r, g1, h1, g2, h2, c6, c7, R2⟩ := op_lab (xs (i + 1)) (xs (i + 2)) (xs (i + 3)) (xs (i + 4)) E g h R
  refine jr_aload_n cx dL_law_1115 1 rfl rfl ?_
  refine jr_arg (t := 1) cx sx dL_law_1116 dL_law_1117 dL_law_1118 dL_law_1119 dL_law_1120 (by decide +kernel) (by omega) hN ?_
  refine jr_arg (t := 2) cx sx dL_law_1121 dL_law_1122 dL_law_1123 dL_law_1124 dL_law_1125 (by decide +kernel) (by omega) hN ?_
  refine jr_arg (t := 3) cx sx dL_law_1126 dL_law_1127 dL_law_1128 dL_law_1129 dL_law_1130 (by decide +kernel) (by omega) hN ?_
  refine jr_arg (t := 4) cx sx dL_law_1131 dL_law_1132 dL_law_1133 dL_law_1134 dL_law_1135 (by decide +kernel) (by omega) hN ?_
  refine jr_vi [.int (xs (i + 1)), .int (xs (i + 2)), .int (xs (i + 3)), .int (xs (i + 4))] 4 cx dL_law_1136 c6 (by decide) rfl rfl gL_law_X6_lab rfl (by decide +kernel) ⟨Nat.le_of_ble_eq_true rfl, Nat.le_of_ble_eq_true rfl⟩ rfl rfl (Nat.le_of_ble_eq_true rfl) ?_
  refine jr_aload_n cx dL_law_1139 2 rfl rfl ?_
  refine jr_arg (t := 1) cx sx dL_law_1140 dL_law_1141 dL_law_1142 dL_law_1143 dL_law_1144 (by decide +kernel) (by omega) hN ?_
  refine jr_arg (t := 2) cx sx dL_law_1145 dL_law_1146 dL_law_1147 dL_law_1148 dL_law_1149 (by decide +kernel) (by omega) hN ?_
  refine jr_arg (t := 3) cx sx dL_law_1150 dL_law_1151 dL_law_1152 dL_law_1153 dL_law_1154 (by decide +kernel) (by omega) hN ?_
  refine jr_arg (t := 4) cx sx dL_law_1155 dL_law_1156 dL_law_1157 dL_law_1158 dL_law_1159 (by decide +kernel) (by omega) hN ?_
  refine jr_vi [.int (xs (i + 1)), .int (xs (i + 2)), .int (xs (i + 3)), .int (xs (i + 4))] 4 cx dL_law_1160 c7 (by decide) rfl rfl gL_law_X7_lab rfl (by decide +kernel) ⟨Nat.le_of_ble_eq_true rfl, Nat.le_of_ble_eq_true rfl⟩ rfl rfl (Nat.le_of_ble_eq_true rfl) ?_
  exact jr_icmp_eq (tgt := 1339) cx dL_law_1163 (by decide) (fun _ => K g2 h2 R2) (fun hne => absurd rfl hne)
theorem lc_closes (E : mm_E) (X : mm_X) (g : mm_I) (h : mm_L) (b N i : Nat) (xs : Nat → Int32) (cx : Cx E X cL_law RL wsL_law 4 7 286) (sx : SX X b N xs) (hN : N ≤ 3584) (hi : i + 7 ≤ N) (R : Rl g h) (K : ∀ g2 h2, Rl g2 h2 → JJ E X g2 h2 1339 (LL E b i) []) : JJ E X g h 1168 (LL E b i) [] := by
  obtain ⟨r, g1, h1, g2, h2, c6, c7, R2⟩ := op_closes (xs (i + 1)) (xs (i + 2)) (xs (i + 3)) E g h R
  refine jr_aload_n cx dL_law_1168 1 rfl rfl ?_
  refine jr_arg (t := 1) cx sx dL_law_1169 dL_law_1170 dL_law_1171 dL_law_1172 dL_law_1173 (by decide +kernel) (by omega) hN ?_
  refine jr_arg (t := 2) cx sx dL_law_1174 dL_law_1175 dL_law_1176 dL_law_1177 dL_law_1178 (by decide +kernel) (by omega) hN ?_
  refine jr_arg (t := 3) cx sx dL_law_1179 dL_law_1180 dL_law_1181 dL_law_1182 dL_law_1183 (by decide +kernel) (by omega) hN ?_
  refine jr_vi [.int (xs (i + 1)), .int (xs (i + 2)), .int (xs (i + 3))] 3 cx dL_law_1184 c6 (by decide) rfl rfl gL_law_X6_closes rfl (by decide +kernel) ⟨Nat.le_of_ble_eq_true rfl, Nat.le_of_ble_eq_true rfl⟩ rfl rfl (Nat.le_of_ble_eq_true rfl) ?_
  refine jr_aload_n cx dL_law_1187 2 rfl rfl ?_
  refine jr_arg (t := 1) cx sx dL_law_1188 dL_law_1189 dL_law_1190 dL_law_1191 dL_law_1192 (by decide +kernel) (by omega) hN ?_
  refine jr_arg (t := 2) cx sx dL_law_1193 dL_law_1194 dL_law_1195 dL_law_1196 dL_law_1197 (by decide +kernel) (by omega) hN ?_
  refine jr_arg (t := 3) cx sx dL_law_1198 dL_law_1199 dL_law_1200 dL_law_1201 dL_law_1202 (by decide +kernel) (by omega) hN ?_
  refine jr_vi [.int (xs (i + 1)), .int (xs (i + 2)), .int (xs (i + 3))] 3 cx dL_law_1203 c7 (by decide) rfl rfl gL_law_X7_closes rfl (by decide +kernel) ⟨Nat.le_of_ble_eq_true rfl, Nat.le_of_ble_eq_true rfl⟩ rfl rfl (Nat.le_of_ble_eq_true rfl) ?_
  exact jr_icmp_eq (tgt := 1339) cx dL_law_1206 (by decide) (fun _ => K g2 h2 R2) (fun hne => absurd rfl hne)
theorem lc_open (E : mm_E) (X : mm_X) (g : mm_I) (h : mm_L) (b N i : Nat) (xs : Nat → Int32) (cx : Cx E X cL_law RL wsL_law 4 7 286) (sx : SX X b N xs) (hN : N ≤ 3584) (hi : i + 7 ≤ N) (R : Rl g h) (K : ∀ g2 h2, Rl g2 h2 → JJ E X g2 h2 1339 (LL E b i) []) : JJ E X g h 1211 (LL E b i) [] := by
  obtain ⟨r, g1, h1, g2, h2, c6, c7, R2⟩ := op_open E g h R
  refine jr_aload_n cx dL_law_1211 1 rfl rfl ?_
  refine jr_vi [] 0 cx dL_law_1212 c6 (by decide) rfl rfl gL_law_X6_open rfl (by decide +kernel) ⟨Nat.le_of_ble_eq_true rfl, Nat.le_of_ble_eq_true rfl⟩ rfl rfl (Nat.le_of_ble_eq_true rfl) ?_
  refine jr_aload_n cx dL_law_1215 2 rfl rfl ?_
  refine jr_vi [] 0 cx dL_law_1216 c7 (by decide) rfl rfl gL_law_X7_open rfl (by decide +kernel) ⟨Nat.le_of_ble_eq_true rfl, Nat.le_of_ble_eq_true rfl⟩ rfl rfl (Nat.le_of_ble_eq_true rfl) ?_
  exact jr_icmp_eq (tgt := 1339) cx dL_law_1219 (by decide) (fun _ => K g2 h2 R2) (fun hne => absurd rfl hne)
theorem lc_asked (E : mm_E) (X : mm_X) (g : mm_I) (h : mm_L) (b N i : Nat) (xs : Nat → Int32) (cx : Cx E X cL_law RL wsL_law 4 7 286) (sx : SX X b N xs) (hN : N ≤ 3584) (hi : i + 7 ≤ N) (R : Rl g h) (K : ∀ g2 h2, Rl g2 h2 → JJ E X g2 h2 1339 (LL E b i) []) : JJ E X g h 1224 (LL E b i) [] := by
  obtain ⟨r, g1, h1, g2, h2, c6, c7, R2⟩ := op_asked E g h R
  refine jr_aload_n cx dL_law_1224 1 rfl rfl ?_
  refine jr_vl [] 0 cx dL_law_1225 c6 (by decide) rfl rfl gL_law_X6_asked rfl (by decide +kernel) ⟨Nat.le_of_ble_eq_true rfl, Nat.le_of_ble_eq_true rfl⟩ rfl rfl (Nat.le_of_ble_eq_true rfl) ?_
  refine jr_aload_n cx dL_law_1228 2 rfl rfl ?_
  refine jr_vl [] 0 cx dL_law_1229 c7 (by decide) rfl rfl gL_law_X7_asked rfl (by decide +kernel) ⟨Nat.le_of_ble_eq_true rfl, Nat.le_of_ble_eq_true rfl⟩ rfl rfl (Nat.le_of_ble_eq_true rfl) ?_
  refine jr_lcmp cx dL_law_1232 ?_
  exact jr_lif_eq (tgt := 1339) cx dL_law_1233 (by decide) (fun _ => K g2 h2 R2) (fun hne => absurd rfl hne)
theorem lc_upper (E : mm_E) (X : mm_X) (g : mm_I) (h : mm_L) (b N i : Nat) (xs : Nat → Int32) (cx : Cx E X cL_law RL wsL_law 4 7 286) (sx : SX X b N xs) (hN : N ≤ 3584) (hi : i + 7 ≤ N) (R : Rl g h) (K : ∀ g2 h2, Rl g2 h2 → JJ E X g2 h2 1339 (LL E b i) []) : JJ E X g h 1238 (LL E b i) [] := by
  obtain ⟨r, g1, h1, g2, h2, c6, c7, R2⟩ := op_upper E g h R
  refine jr_aload_n cx dL_law_1238 1 rfl rfl ?_
  refine jr_vl [] 0 cx dL_law_1239 c6 (by decide) rfl rfl gL_law_X6_upper rfl (by decide +kernel) ⟨Nat.le_of_ble_eq_true rfl, Nat.le_of_ble_eq_true rfl⟩ rfl rfl (Nat.le_of_ble_eq_true rfl) ?_
  refine jr_aload_n cx dL_law_1242 2 rfl rfl ?_
  refine jr_vl [] 0 cx dL_law_1243 c7 (by decide) rfl rfl gL_law_X7_upper rfl (by decide +kernel) ⟨Nat.le_of_ble_eq_true rfl, Nat.le_of_ble_eq_true rfl⟩ rfl rfl (Nat.le_of_ble_eq_true rfl) ?_
  refine jr_lcmp cx dL_law_1246 ?_
  exact jr_lif_eq (tgt := 1339) cx dL_law_1247 (by decide) (fun _ => K g2 h2 R2) (fun hne => absurd rfl hne)
theorem lc_lower (E : mm_E) (X : mm_X) (g : mm_I) (h : mm_L) (b N i : Nat) (xs : Nat → Int32) (cx : Cx E X cL_law RL wsL_law 4 7 286) (sx : SX X b N xs) (hN : N ≤ 3584) (hi : i + 7 ≤ N) (R : Rl g h) (K : ∀ g2 h2, Rl g2 h2 → JJ E X g2 h2 1339 (LL E b i) []) : JJ E X g h 1252 (LL E b i) [] := by
  obtain ⟨r, g1, h1, g2, h2, c6, c7, R2⟩ := op_lower E g h R
  refine jr_aload_n cx dL_law_1252 1 rfl rfl ?_
  refine jr_vl [] 0 cx dL_law_1253 c6 (by decide) rfl rfl gL_law_X6_lower rfl (by decide +kernel) ⟨Nat.le_of_ble_eq_true rfl, Nat.le_of_ble_eq_true rfl⟩ rfl rfl (Nat.le_of_ble_eq_true rfl) ?_
  refine jr_aload_n cx dL_law_1256 2 rfl rfl ?_
  refine jr_vl [] 0 cx dL_law_1257 c7 (by decide) rfl rfl gL_law_X7_lower rfl (by decide +kernel) ⟨Nat.le_of_ble_eq_true rfl, Nat.le_of_ble_eq_true rfl⟩ rfl rfl (Nat.le_of_ble_eq_true rfl) ?_
  refine jr_lcmp cx dL_law_1260 ?_
  exact jr_lif_eq (tgt := 1339) cx dL_law_1261 (by decide) (fun _ => K g2 h2 R2) (fun hne => absurd rfl hne)
theorem lc_count (E : mm_E) (X : mm_X) (g : mm_I) (h : mm_L) (b N i : Nat) (xs : Nat → Int32) (cx : Cx E X cL_law RL wsL_law 4 7 286) (sx : SX X b N xs) (hN : N ≤ 3584) (hi : i + 7 ≤ N) (R : Rl g h) (K : ∀ g2 h2, Rl g2 h2 → JJ E X g2 h2 1339 (LL E b i) []) : JJ E X g h 1266 (LL E b i) [] := by
  obtain ⟨r, g1, h1, g2, h2, c6, c7, R2⟩ := op_count (xs (i + 1)) E g h R
  refine jr_aload_n cx dL_law_1266 1 rfl rfl ?_
  refine jr_arg (t := 1) cx sx dL_law_1267 dL_law_1268 dL_law_1269 dL_law_1270 dL_law_1271 (by decide +kernel) (by omega) hN ?_
  refine jr_vi [.int (xs (i + 1))] 1 cx dL_law_1272 c6 (by decide) rfl rfl gL_law_X6_count rfl (by decide +kernel) ⟨Nat.le_of_ble_eq_true rfl, Nat.le_of_ble_eq_true rfl⟩ rfl rfl (Nat.le_of_ble_eq_true rfl) ?_
  refine jr_aload_n cx dL_law_1275 2 rfl rfl ?_
  refine jr_arg (t := 1) cx sx dL_law_1276 dL_law_1277 dL_law_1278 dL_law_1279 dL_law_1280 (by decide +kernel) (by omega) hN ?_
  refine jr_vi [.int (xs (i + 1))] 1 cx dL_law_1281 c7 (by decide) rfl rfl gL_law_X7_count rfl (by decide +kernel) ⟨Nat.le_of_ble_eq_true rfl, Nat.le_of_ble_eq_true rfl⟩ rfl rfl (Nat.le_of_ble_eq_true rfl) ?_
  exact jr_icmp_eq (tgt := 1339) cx dL_law_1284 (by decide) (fun _ => K g2 h2 R2) (fun hne => absurd rfl hne)
theorem lc_finding (E : mm_E) (X : mm_X) (g : mm_I) (h : mm_L) (b N i : Nat) (xs : Nat → Int32) (cx : Cx E X cL_law RL wsL_law 4 7 286) (sx : SX X b N xs) (hN : N ≤ 3584) (hi : i + 7 ≤ N) (R : Rl g h) (K : ∀ g2 h2, Rl g2 h2 → JJ E X g2 h2 1339 (LL E b i) []) : JJ E X g h 1289 (LL E b i) [] := by
  obtain ⟨r, g1, h1, g2, h2, c6, c7, R2⟩ := op_finding E g h R
  refine jr_aload_n cx dL_law_1289 1 rfl rfl ?_
  refine jr_vi [] 0 cx dL_law_1290 c6 (by decide) rfl rfl gL_law_X6_finding rfl (by decide +kernel) ⟨Nat.le_of_ble_eq_true rfl, Nat.le_of_ble_eq_true rfl⟩ rfl rfl (Nat.le_of_ble_eq_true rfl) ?_
  refine jr_aload_n cx dL_law_1293 2 rfl rfl ?_
  refine jr_vi [] 0 cx dL_law_1294 c7 (by decide) rfl rfl gL_law_X7_finding rfl (by decide +kernel) ⟨Nat.le_of_ble_eq_true rfl, Nat.le_of_ble_eq_true rfl⟩ rfl rfl (Nat.le_of_ble_eq_true rfl) ?_
  exact jr_icmp_eq (tgt := 1339) cx dL_law_1297 (by decide) (fun _ => K g2 h2 R2) (fun hne => absurd rfl hne)
theorem lc_findings (E : mm_E) (X : mm_X) (g : mm_I) (h : mm_L) (b N i : Nat) (xs : Nat → Int32) (cx : Cx E X cL_law RL wsL_law 4 7 286) (sx : SX X b N xs) (hN : N ≤ 3584) (hi : i + 7 ≤ N) (R : Rl g h) (K : ∀ g2 h2, Rl g2 h2 → JJ E X g2 h2 1339 (LL E b i) []) : JJ E X g h 1302 (LL E b i) [] := by
  obtain ⟨r, g1, h1, g2, h2, c6, c7, R2⟩ := op_findings (xs (i + 1)) E g h R
  refine jr_aload_n cx dL_law_1302 1 rfl rfl ?_
  refine jr_arg (t := 1) cx sx dL_law_1303 dL_law_1304 dL_law_1305 dL_law_1306 dL_law_1307 (by decide +kernel) (by omega) hN ?_
  refine jr_vi [.int (xs (i + 1))] 1 cx dL_law_1308 c6 (by decide) rfl rfl gL_law_X6_findings rfl (by decide +kernel) ⟨Nat.le_of_ble_eq_true rfl, Nat.le_of_ble_eq_true rfl⟩ rfl rfl (Nat.le_of_ble_eq_true rfl) ?_
  refine jr_aload_n cx dL_law_1311 2 rfl rfl ?_
  refine jr_arg (t := 1) cx sx dL_law_1312 dL_law_1313 dL_law_1314 dL_law_1315 dL_law_1316 (by decide +kernel) (by omega) hN ?_
  refine jr_vi [.int (xs (i + 1))] 1 cx dL_law_1317 c7 (by decide) rfl rfl gL_law_X7_findings rfl (by decide +kernel) ⟨Nat.le_of_ble_eq_true rfl, Nat.le_of_ble_eq_true rfl⟩ rfl rfl (Nat.le_of_ble_eq_true rfl) ?_
  exact jr_icmp_eq (tgt := 1339) cx dL_law_1320 (by decide) (fun _ => K g2 h2 R2) (fun hne => absurd rfl hne)
theorem lc_digest (E : mm_E) (X : mm_X) (g : mm_I) (h : mm_L) (b N i : Nat) (xs : Nat → Int32) (cx : Cx E X cL_law RL wsL_law 4 7 286) (sx : SX X b N xs) (hN : N ≤ 3584) (hi : i + 7 ≤ N) (R : Rl g h) (K : ∀ g2 h2, Rl g2 h2 → JJ E X g2 h2 1339 (LL E b i) []) : JJ E X g h 1325 (LL E b i) [] := by
  obtain ⟨r, g1, h1, g2, h2, c6, c7, R2⟩ := op_digest E g h R
  refine jr_aload_n cx dL_law_1325 1 rfl rfl ?_
  refine jr_vl [] 0 cx dL_law_1326 c6 (by decide) rfl rfl gL_law_X6_digest rfl (by decide +kernel) ⟨Nat.le_of_ble_eq_true rfl, Nat.le_of_ble_eq_true rfl⟩ rfl rfl (Nat.le_of_ble_eq_true rfl) ?_
  refine jr_aload_n cx dL_law_1329 2 rfl rfl ?_
  refine jr_vl [] 0 cx dL_law_1330 c7 (by decide) rfl rfl gL_law_X7_digest rfl (by decide +kernel) ⟨Nat.le_of_ble_eq_true rfl, Nat.le_of_ble_eq_true rfl⟩ rfl rfl (Nat.le_of_ble_eq_true rfl) ?_
  refine jr_lcmp cx dL_law_1333 ?_
  exact jr_lif_eq (tgt := 1339) cx dL_law_1334 (by decide) (fun _ => K g2 h2 R2) (fun hne => absurd rfl hne)
