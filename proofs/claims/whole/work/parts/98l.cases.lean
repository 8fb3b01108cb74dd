/-! THE LAW'S LOOP: each case -/
section CO98
variable {l : Launch} {E : mx_Env} {M : mx_M} {d k n k2 n2 pc p1 p2 p3 p4 p5 p6 nx idx i j t x c : Nat} {ls : List (Option Value)} {o5 o6 : Option Value} {st : List Value} {X : mx_H} {Q : mx_R → mx_H → Prop} {S : mx_S} {I : mx_I} {P : mx_P} {J : mx_G} {v w : Int32}
theorem lc_feed (htr : l.stackTraces = false) (hi : i + 6 ≤ mx_L E) (hL : mx_L E ≤ 3072) (hd : 60 ≤ d) (hk : 6 ≤ k) (hn : 600 ≤ n) (h : al_ok t S I P x) (kk : ∀ t' S' I' P' J' o5' o6', t ≤ t' → al_ok t' S' I' P' x → mx_E l E M_law d (k - 6) (n - 600) 3184 (lw_ls E x i o5' o6') [] (t', S', I', P', J') Q) : mx_E l E M_law d k n 268 (lw_ls E x i o5 o6) [] (t, S, I, P, J) Q := by
  refine mx_al1 d_law_268 ?_
  refine mx_arg_1 d_law_269 d_law_270 d_law_272 d_law_273 d_law_274 (by omega) hL ?_
  refine mx_arg_2 d_law_275 d_law_276 d_law_278 d_law_279 d_law_280 (by omega) hL ?_
  refine mx_arg_3 d_law_281 d_law_282 d_law_284 d_law_285 d_law_286 (by omega) hL ?_
  refine mx_arg_4 d_law_287 d_law_288 d_law_290 d_law_291 d_law_292 (by omega) hL ?_
  refine mx_arg_5 d_law_293 d_law_294 d_law_296 d_law_297 d_law_298 (by omega) hL ?_
  obtain ⟨c, dd, v, A, ⟨hc, -⟩, hdd, hV, hA⟩ := op_feed (E := E) (x := x) htr (v0 := (mx_xs E (i + 1))) (v1 := (mx_xs E (i + 2))) (v2 := (mx_xs E (i + 3))) (v3 := (mx_xs E (i + 4))) (v4 := (mx_xs E (i + 5))) t S I P J h
  obtain rfl : c = 0 := by omega
  refine mx_callV (as := [.int (mx_xs E (i + 1)), .int (mx_xs E (i + 2)), .int (mx_xs E (i + 3)), .int (mx_xs E (i + 4)), .int (mx_xs E (i + 5))]) (c := 11) (k2 := k - 6) (n2 := n - 600) d_law_299 hV ok_Vh_feed ml_Lw_143 h.2.1.1.1 ⟨rfl, rfl⟩ rfl rfl (Nat.le_of_ble_eq_true rfl) (by omega) (by omega) (by omega) (fun w9 X9 h9 => ?_) (fun C9 X9 h9 => by obtain ⟨-, ⟨-, h8⟩ | ⟨h8, -⟩⟩ := h9; (cases h8); exact absurd rfl h8)
  obtain ⟨hX1, ⟨-, h8⟩ | ⟨h8, -⟩⟩ := h9
  rotate_left
  · exact absurd rfl h8
  cases h8
  obtain ⟨t', S', I', P', rfl, ht', hS, hm⟩ := hA X9 hX1
  obtain ⟨w, hM, hw⟩ := hm J
  obtain rfl := hw rfl
  refine mx_al2 d_law_302 ?_
  refine mx_arg_1 d_law_303 d_law_304 d_law_306 d_law_307 d_law_308 (by omega) hL ?_
  refine mx_arg_2 d_law_309 d_law_310 d_law_312 d_law_313 d_law_314 (by omega) hL ?_
  refine mx_arg_3 d_law_315 d_law_316 d_law_318 d_law_319 d_law_320 (by omega) hL ?_
  refine mx_arg_4 d_law_321 d_law_322 d_law_324 d_law_325 d_law_326 (by omega) hL ?_
  refine mx_arg_5 d_law_327 d_law_328 d_law_330 d_law_331 d_law_332 (by omega) hL ?_
  refine mx_callV (as := [.int (mx_xs E (i + 1)), .int (mx_xs E (i + 2)), .int (mx_xs E (i + 3)), .int (mx_xs E (i + 4)), .int (mx_xs E (i + 5))]) (c := 12) (k2 := k - 6) (n2 := n - 600) d_law_333 hM ok_Mo_feed ml_Lw_147 hS.2 ⟨rfl, rfl⟩ rfl rfl (Nat.le_of_ble_eq_true rfl) (by omega) (by omega) (by omega) (fun w9 X9 h9 => ?_) (fun C9 X9 h9 => by cases h9.1)
  obtain ⟨h8, K, rfl, hK, hK0⟩ := h9
  cases h8
  exact mx_icmp_eq 3184 d_law_336 (by decide) (fun _ => kk _ _ _ _ _ _ _ ht' hK) (fun c9 => absurd rfl c9)
theorem lc_end (htr : l.stackTraces = false) (hi : i + 6 ≤ mx_L E) (hL : mx_L E ≤ 3072) (hd : 60 ≤ d) (hk : 6 ≤ k) (hn : 600 ≤ n) (h : al_ok t S I P x) (kk : ∀ t' S' I' P' J' o5' o6', t ≤ t' → al_ok t' S' I' P' x → mx_E l E M_law d (k - 6) (n - 600) 3184 (lw_ls E x i o5' o6') [] (t', S', I', P', J') Q) : mx_E l E M_law d k n 341 (lw_ls E x i o5 o6) [] (t, S, I, P, J) Q := by
  refine mx_al1 d_law_341 ?_
  refine mx_arg_1 d_law_342 d_law_343 d_law_345 d_law_346 d_law_347 (by omega) hL ?_
  obtain ⟨c, dd, v, A, ⟨hc, -⟩, hdd, hV, hA⟩ := op_end (E := E) (x := x) htr (v := (mx_xs E (i + 1))) t S I P J h
  obtain rfl : c = 0 := by omega
  refine mx_callV (as := [.int (mx_xs E (i + 1))]) (c := 11) (k2 := k - 6) (n2 := n - 600) d_law_348 hV ok_Vh_end ml_Lw_148 h.2.1.1.1 ⟨rfl, rfl⟩ rfl rfl (Nat.le_of_ble_eq_true rfl) (by omega) (by omega) (by omega) (fun w9 X9 h9 => ?_) (fun C9 X9 h9 => by obtain ⟨-, ⟨-, h8⟩ | ⟨h8, -⟩⟩ := h9; (cases h8); exact absurd rfl h8)
  obtain ⟨hX1, ⟨-, h8⟩ | ⟨h8, -⟩⟩ := h9
  rotate_left
  · exact absurd rfl h8
  cases h8
  obtain ⟨t', S', I', P', rfl, ht', hS, hm⟩ := hA X9 hX1
  obtain ⟨w, hM, hw⟩ := hm J
  obtain rfl := hw rfl
  refine mx_al2 d_law_351 ?_
  refine mx_arg_1 d_law_352 d_law_353 d_law_355 d_law_356 d_law_357 (by omega) hL ?_
  refine mx_callV (as := [.int (mx_xs E (i + 1))]) (c := 12) (k2 := k - 6) (n2 := n - 600) d_law_358 hM ok_Mo_end ml_Lw_152 hS.2 ⟨rfl, rfl⟩ rfl rfl (Nat.le_of_ble_eq_true rfl) (by omega) (by omega) (by omega) (fun w9 X9 h9 => ?_) (fun C9 X9 h9 => by cases h9.1)
  obtain ⟨h8, K, rfl, hK, hK0⟩ := h9
  cases h8
  exact mx_icmp_eq 3184 d_law_361 (by decide) (fun _ => kk _ _ _ _ _ _ _ ht' hK) (fun c9 => absurd rfl c9)
theorem lc_ground (htr : l.stackTraces = false) (hi : i + 6 ≤ mx_L E) (hL : mx_L E ≤ 3072) (hd : 60 ≤ d) (hk : 6 ≤ k) (hn : 600 ≤ n) (h : al_ok t S I P x) (kk : ∀ t' S' I' P' J' o5' o6', t ≤ t' → al_ok t' S' I' P' x → mx_E l E M_law d (k - 6) (n - 600) 3184 (lw_ls E x i o5' o6') [] (t', S', I', P', J') Q) : mx_E l E M_law d k n 366 (lw_ls E x i o5 o6) [] (t, S, I, P, J) Q := by
  refine mx_al1 d_law_366 ?_
  refine mx_al3 d_law_367 ?_
  obtain ⟨c, dd, v, A, ⟨hc, hz⟩, hdd, hV, hA⟩ := op_ground (E := E) (x := x) htr  t S I P J h
  refine mx_callSW (as := .ref x :: ([] ++ [.ref (x + 291)])) (k2 := k - 6) (n2 := n - 600) d_law_368 (c_Lw_ground hV h.2.1.1.1 (fun X1 hX => by obtain ⟨t', S', I', P', rfl, -, hS, -⟩ := hA X1 hX; exact hS.1) (by omega)) ok_Lw_ground ml_Lw_153 rfl rfl (Nat.le_of_ble_eq_true rfl) (by omega) (by omega) (by omega) (fun w9 X9 h9 => ?_) (fun C9 X9 h9 => by cases h9.1)
  obtain ⟨h8, X1, hX1, rfl⟩ := h9
  cases h8
  obtain ⟨t', S', I', P', rfl, ht', hS, hm⟩ := hA X1 hX1
  dsimp only
  obtain ⟨J9, hJ9⟩ : ∃ J9 : mx_G, J9 = (if c = 0 then mx_upJ J (x + 291) 0 v.toInt64 else J) := ⟨_, rfl⟩
  rw [← hJ9]
  obtain ⟨w, hM, hw⟩ := hm J9
  refine mx_is5 d_law_371 ?_
  refine mx_al2 d_law_373 ?_
  refine mx_callV (as := []) (c := 12) (k2 := k - 6) (n2 := n - 600) d_law_374 hM ok_Mo_ground ml_Lw_158 hS.2 ⟨rfl, rfl⟩ rfl rfl (Nat.le_of_ble_eq_true rfl) (by omega) (by omega) (by omega) (fun w9 X9 h9 => ?_) (fun C9 X9 h9 => by cases h9.1)
  obtain ⟨h8, K, rfl, hK, hK0⟩ := h9
  cases h8
  exact lw_tail_i (p := 377) d_law_377 d_law_379 d_law_380 d_law_383 d_law_385 d_law_390 d_law_392 d_law_395 d_law_396 d_law_397 d_law_398 d_law_400 d_law_401 d_law_402 d_law_407 (by decide) hK.2.1.2.2.2.2.2.2.2.2.2.2.2.2.1 hK0 (by omega) hK.out.1 (fun z => by rw [hJ9, if_pos z, hw z]; simp [mx_upJ]) (by omega) (kk _ _ _ _ _ _ _ ht' hK)
theorem lc_law (htr : l.stackTraces = false) (hi : i + 6 ≤ mx_L E) (hL : mx_L E ≤ 3072) (hd : 60 ≤ d) (hk : 6 ≤ k) (hn : 600 ≤ n) (h : al_ok t S I P x) (kk : ∀ t' S' I' P' J' o5' o6', t ≤ t' → al_ok t' S' I' P' x → mx_E l E M_law d (k - 6) (n - 600) 3184 (lw_ls E x i o5' o6') [] (t', S', I', P', J') Q) : mx_E l E M_law d k n 410 (lw_ls E x i o5 o6) [] (t, S, I, P, J) Q := by
  refine mx_al1 d_law_410 ?_
  refine mx_al3 d_law_411 ?_
  obtain ⟨c, dd, v, A, ⟨hc, hz⟩, hdd, hV, hA⟩ := op_law (E := E) (x := x) htr  t S I P J h
  refine mx_callSW (as := .ref x :: ([] ++ [.ref (x + 291)])) (k2 := k - 6) (n2 := n - 600) d_law_412 (c_Lw_law hV h.2.1.1.1 (fun X1 hX => by obtain ⟨t', S', I', P', rfl, -, hS, -⟩ := hA X1 hX; exact hS.1) (by omega)) ok_Lw_law ml_Lw_162 rfl rfl (Nat.le_of_ble_eq_true rfl) (by omega) (by omega) (by omega) (fun w9 X9 h9 => ?_) (fun C9 X9 h9 => by cases h9.1)
  obtain ⟨h8, X1, hX1, rfl⟩ := h9
  cases h8
  obtain ⟨t', S', I', P', rfl, ht', hS, hm⟩ := hA X1 hX1
  dsimp only
  obtain ⟨J9, hJ9⟩ : ∃ J9 : mx_G, J9 = (if c = 0 then mx_upJ J (x + 291) 0 v.toInt64 else J) := ⟨_, rfl⟩
  rw [← hJ9]
  obtain ⟨w, hM, hw⟩ := hm J9
  refine mx_is5 d_law_415 ?_
  refine mx_al2 d_law_417 ?_
  refine mx_callV (as := []) (c := 12) (k2 := k - 6) (n2 := n - 600) d_law_418 hM ok_Mo_law ml_Lw_164 hS.2 ⟨rfl, rfl⟩ rfl rfl (Nat.le_of_ble_eq_true rfl) (by omega) (by omega) (by omega) (fun w9 X9 h9 => ?_) (fun C9 X9 h9 => by cases h9.1)
  obtain ⟨h8, K, rfl, hK, hK0⟩ := h9
  cases h8
  exact lw_tail_i (p := 421) d_law_421 d_law_423 d_law_424 d_law_427 d_law_429 d_law_434 d_law_436 d_law_439 d_law_440 d_law_441 d_law_442 d_law_444 d_law_445 d_law_446 d_law_451 (by decide) hK.2.1.2.2.2.2.2.2.2.2.2.2.2.2.1 hK0 (by omega) hK.out.1 (fun z => by rw [hJ9, if_pos z, hw z]; simp [mx_upJ]) (by omega) (kk _ _ _ _ _ _ _ ht' hK)
theorem lc_fault (htr : l.stackTraces = false) (hi : i + 6 ≤ mx_L E) (hL : mx_L E ≤ 3072) (hd : 60 ≤ d) (hk : 6 ≤ k) (hn : 600 ≤ n) (h : al_ok t S I P x) (kk : ∀ t' S' I' P' J' o5' o6', t ≤ t' → al_ok t' S' I' P' x → mx_E l E M_law d (k - 6) (n - 600) 3184 (lw_ls E x i o5' o6') [] (t', S', I', P', J') Q) : mx_E l E M_law d k n 454 (lw_ls E x i o5 o6) [] (t, S, I, P, J) Q := by
  refine mx_al1 d_law_454 ?_
  obtain ⟨c, dd, v, A, ⟨hc, -⟩, hdd, hV, hA⟩ := op_fault (E := E) (x := x) htr  t S I P J h
  obtain rfl : c = 0 := by omega
  refine mx_callV (as := []) (c := 11) (k2 := k - 6) (n2 := n - 600) d_law_455 hV ok_Vh_fault ml_Lw_165 h.2.1.1.1 ⟨rfl, rfl⟩ rfl rfl (Nat.le_of_ble_eq_true rfl) (by omega) (by omega) (by omega) (fun w9 X9 h9 => ?_) (fun C9 X9 h9 => by obtain ⟨-, ⟨-, h8⟩ | ⟨h8, -⟩⟩ := h9; (cases h8); exact absurd rfl h8)
  obtain ⟨hX1, ⟨-, h8⟩ | ⟨h8, -⟩⟩ := h9
  rotate_left
  · exact absurd rfl h8
  cases h8
  obtain ⟨t', S', I', P', rfl, ht', hS, hm⟩ := hA X9 hX1
  obtain ⟨w, hM, hw⟩ := hm J
  obtain rfl := hw rfl
  refine mx_al2 d_law_458 ?_
  refine mx_callV (as := []) (c := 12) (k2 := k - 6) (n2 := n - 600) d_law_459 hM ok_Mo_fault ml_Lw_168 hS.2 ⟨rfl, rfl⟩ rfl rfl (Nat.le_of_ble_eq_true rfl) (by omega) (by omega) (by omega) (fun w9 X9 h9 => ?_) (fun C9 X9 h9 => by cases h9.1)
  obtain ⟨h8, K, rfl, hK, hK0⟩ := h9
  cases h8
  exact mx_icmp_eq 3184 d_law_462 (by decide) (fun _ => kk _ _ _ _ _ _ _ ht' hK) (fun c9 => absurd rfl c9)
theorem lc_host (htr : l.stackTraces = false) (hi : i + 6 ≤ mx_L E) (hL : mx_L E ≤ 3072) (hd : 60 ≤ d) (hk : 6 ≤ k) (hn : 600 ≤ n) (h : al_ok t S I P x) (kk : ∀ t' S' I' P' J' o5' o6', t ≤ t' → al_ok t' S' I' P' x → mx_E l E M_law d (k - 6) (n - 600) 3184 (lw_ls E x i o5' o6') [] (t', S', I', P', J') Q) : mx_E l E M_law d k n 467 (lw_ls E x i o5 o6) [] (t, S, I, P, J) Q := by
  refine mx_al1 d_law_467 ?_
  refine mx_arg_1 d_law_468 d_law_469 d_law_471 d_law_472 d_law_473 (by omega) hL ?_
  refine mx_arg_2 d_law_474 d_law_475 d_law_477 d_law_478 d_law_479 (by omega) hL ?_
  refine mx_al3 d_law_480 ?_
  obtain ⟨c, dd, v, A, ⟨hc, hz⟩, hdd, hV, hA⟩ := op_host (E := E) (x := x) htr (v := (mx_xs E (i + 1))) (w := (mx_xs E (i + 2))) t S I P J h
  refine mx_callSW (as := .ref x :: ([.int (mx_xs E (i + 1)), .int (mx_xs E (i + 2))] ++ [.ref (x + 291)])) (k2 := k - 6) (n2 := n - 600) d_law_481 (c_Lw_host hV h.2.1.1.1 (fun X1 hX => by obtain ⟨t', S', I', P', rfl, -, hS, -⟩ := hA X1 hX; exact hS.1) (by omega)) ok_Lw_host ml_Lw_169 rfl rfl (Nat.le_of_ble_eq_true rfl) (by omega) (by omega) (by omega) (fun w9 X9 h9 => ?_) (fun C9 X9 h9 => by cases h9.1)
  obtain ⟨h8, X1, hX1, rfl⟩ := h9
  cases h8
  obtain ⟨t', S', I', P', rfl, ht', hS, hm⟩ := hA X1 hX1
  dsimp only
  obtain ⟨J9, hJ9⟩ : ∃ J9 : mx_G, J9 = (if c = 0 then mx_upJ J (x + 291) 0 v.toInt64 else J) := ⟨_, rfl⟩
  rw [← hJ9]
  obtain ⟨w, hM, hw⟩ := hm J9
  refine mx_is5 d_law_484 ?_
  refine mx_al2 d_law_486 ?_
  refine mx_arg_1 d_law_487 d_law_488 d_law_490 d_law_491 d_law_492 (by omega) hL ?_
  refine mx_arg_2 d_law_493 d_law_494 d_law_496 d_law_497 d_law_498 (by omega) hL ?_
  refine mx_callV (as := [.int (mx_xs E (i + 1)), .int (mx_xs E (i + 2))]) (c := 12) (k2 := k - 6) (n2 := n - 600) d_law_499 hM ok_Mo_host ml_Lw_172 hS.2 ⟨rfl, rfl⟩ rfl rfl (Nat.le_of_ble_eq_true rfl) (by omega) (by omega) (by omega) (fun w9 X9 h9 => ?_) (fun C9 X9 h9 => by cases h9.1)
  obtain ⟨h8, K, rfl, hK, hK0⟩ := h9
  cases h8
  exact lw_tail_i (p := 502) d_law_502 d_law_504 d_law_505 d_law_508 d_law_510 d_law_515 d_law_517 d_law_520 d_law_521 d_law_522 d_law_523 d_law_525 d_law_526 d_law_527 d_law_532 (by decide) hK.2.1.2.2.2.2.2.2.2.2.2.2.2.2.1 hK0 (by omega) hK.out.1 (fun z => by rw [hJ9, if_pos z, hw z]; simp [mx_upJ]) (by omega) (kk _ _ _ _ _ _ _ ht' hK)
theorem lc_guest (htr : l.stackTraces = false) (hi : i + 6 ≤ mx_L E) (hL : mx_L E ≤ 3072) (hd : 60 ≤ d) (hk : 6 ≤ k) (hn : 600 ≤ n) (h : al_ok t S I P x) (kk : ∀ t' S' I' P' J' o5' o6', t ≤ t' → al_ok t' S' I' P' x → mx_E l E M_law d (k - 6) (n - 600) 3184 (lw_ls E x i o5' o6') [] (t', S', I', P', J') Q) : mx_E l E M_law d k n 535 (lw_ls E x i o5 o6) [] (t, S, I, P, J) Q := by
  refine mx_al1 d_law_535 ?_
  refine mx_arg_1 d_law_536 d_law_537 d_law_539 d_law_540 d_law_541 (by omega) hL ?_
  refine mx_arg_2 d_law_542 d_law_543 d_law_545 d_law_546 d_law_547 (by omega) hL ?_
  refine mx_al3 d_law_548 ?_
  obtain ⟨c, dd, v, A, ⟨hc, hz⟩, hdd, hV, hA⟩ := op_guest (E := E) (x := x) htr (v := (mx_xs E (i + 1))) (w := (mx_xs E (i + 2))) t S I P J h
  refine mx_callSW (as := .ref x :: ([.int (mx_xs E (i + 1)), .int (mx_xs E (i + 2))] ++ [.ref (x + 291)])) (k2 := k - 6) (n2 := n - 600) d_law_549 (c_Lw_guest hV h.2.1.1.1 (fun X1 hX => by obtain ⟨t', S', I', P', rfl, -, hS, -⟩ := hA X1 hX; exact hS.1) (by omega)) ok_Lw_guest ml_Lw_173 rfl rfl (Nat.le_of_ble_eq_true rfl) (by omega) (by omega) (by omega) (fun w9 X9 h9 => ?_) (fun C9 X9 h9 => by cases h9.1)
  obtain ⟨h8, X1, hX1, rfl⟩ := h9
  cases h8
  obtain ⟨t', S', I', P', rfl, ht', hS, hm⟩ := hA X1 hX1
  dsimp only
  obtain ⟨J9, hJ9⟩ : ∃ J9 : mx_G, J9 = (if c = 0 then mx_upJ J (x + 291) 0 v.toInt64 else J) := ⟨_, rfl⟩
  rw [← hJ9]
  obtain ⟨w, hM, hw⟩ := hm J9
  refine mx_is5 d_law_552 ?_
  refine mx_al2 d_law_554 ?_
  refine mx_arg_1 d_law_555 d_law_556 d_law_558 d_law_559 d_law_560 (by omega) hL ?_
  refine mx_arg_2 d_law_561 d_law_562 d_law_564 d_law_565 d_law_566 (by omega) hL ?_
  refine mx_callV (as := [.int (mx_xs E (i + 1)), .int (mx_xs E (i + 2))]) (c := 12) (k2 := k - 6) (n2 := n - 600) d_law_567 hM ok_Mo_guest ml_Lw_175 hS.2 ⟨rfl, rfl⟩ rfl rfl (Nat.le_of_ble_eq_true rfl) (by omega) (by omega) (by omega) (fun w9 X9 h9 => ?_) (fun C9 X9 h9 => by cases h9.1)
  obtain ⟨h8, K, rfl, hK, hK0⟩ := h9
  cases h8
  exact lw_tail_i (p := 570) d_law_570 d_law_572 d_law_573 d_law_576 d_law_578 d_law_583 d_law_585 d_law_588 d_law_589 d_law_590 d_law_591 d_law_593 d_law_594 d_law_595 d_law_600 (by decide) hK.2.1.2.2.2.2.2.2.2.2.2.2.2.2.1 hK0 (by omega) hK.out.1 (fun z => by rw [hJ9, if_pos z, hw z]; simp [mx_upJ]) (by omega) (kk _ _ _ _ _ _ _ ht' hK)
theorem lc_rank (htr : l.stackTraces = false) (hi : i + 6 ≤ mx_L E) (hL : mx_L E ≤ 3072) (hd : 60 ≤ d) (hk : 6 ≤ k) (hn : 600 ≤ n) (h : al_ok t S I P x) (kk : ∀ t' S' I' P' J' o5' o6', t ≤ t' → al_ok t' S' I' P' x → mx_E l E M_law d (k - 6) (n - 600) 3184 (lw_ls E x i o5' o6') [] (t', S', I', P', J') Q) : mx_E l E M_law d k n 603 (lw_ls E x i o5 o6) [] (t, S, I, P, J) Q := by
  refine mx_al1 d_law_603 ?_
  refine mx_arg_1 d_law_604 d_law_605 d_law_607 d_law_608 d_law_609 (by omega) hL ?_
  refine mx_arg_2 d_law_610 d_law_611 d_law_613 d_law_614 d_law_615 (by omega) hL ?_
  refine mx_arg_3 d_law_616 d_law_617 d_law_619 d_law_620 d_law_621 (by omega) hL ?_
  refine mx_nez d_law_622 d_law_625 d_law_626 d_law_629 (by decide) (by decide) ?_
  refine mx_al3 d_law_630 ?_
  obtain ⟨c, dd, v, A, ⟨hc, hz⟩, hdd, hV, hA⟩ := op_rank (E := E) (x := x) htr (v := (mx_xs E (i + 1))) (w := (mx_xs E (i + 2))) (b := !(decide (mx_xs E (i + 3) = 0))) t S I P J h
  refine mx_callSW (as := .ref x :: ([.int (mx_xs E (i + 1)), .int (mx_xs E (i + 2)), .int (bI (!(decide (mx_xs E (i + 3) = 0))))] ++ [.ref (x + 291)])) (k2 := k - 6) (n2 := n - 600) d_law_631 (c_Lw_rank hV h.2.1.1.1 (fun X1 hX => by obtain ⟨t', S', I', P', rfl, -, hS, -⟩ := hA X1 hX; exact hS.1) (by omega)) ok_Lw_rank ml_Lw_176 rfl rfl (Nat.le_of_ble_eq_true rfl) (by omega) (by omega) (by omega) (fun w9 X9 h9 => ?_) (fun C9 X9 h9 => by cases h9.1)
  obtain ⟨h8, X1, hX1, rfl⟩ := h9
  cases h8
  obtain ⟨t', S', I', P', rfl, ht', hS, hm⟩ := hA X1 hX1
  dsimp only
  obtain ⟨J9, hJ9⟩ : ∃ J9 : mx_G, J9 = (if c = 0 then mx_upJ J (x + 291) 0 v.toInt64 else J) := ⟨_, rfl⟩
  rw [← hJ9]
  obtain ⟨w, hM, hw⟩ := hm J9
  refine mx_is5 d_law_634 ?_
  refine mx_al2 d_law_636 ?_
  refine mx_arg_1 d_law_637 d_law_638 d_law_640 d_law_641 d_law_642 (by omega) hL ?_
  refine mx_arg_2 d_law_643 d_law_644 d_law_646 d_law_647 d_law_648 (by omega) hL ?_
  refine mx_arg_3 d_law_649 d_law_650 d_law_652 d_law_653 d_law_654 (by omega) hL ?_
  refine mx_nez d_law_655 d_law_658 d_law_659 d_law_662 (by decide) (by decide) ?_
  refine mx_callV (as := [.int (mx_xs E (i + 1)), .int (mx_xs E (i + 2)), .int (bI (!(decide (mx_xs E (i + 3) = 0))))]) (c := 12) (k2 := k - 6) (n2 := n - 600) d_law_663 hM ok_Mo_rank ml_Lw_179 hS.2 ⟨rfl, rfl⟩ rfl rfl (Nat.le_of_ble_eq_true rfl) (by omega) (by omega) (by omega) (fun w9 X9 h9 => ?_) (fun C9 X9 h9 => by cases h9.1)
  obtain ⟨h8, K, rfl, hK, hK0⟩ := h9
  cases h8
  exact lw_tail_i (p := 666) d_law_666 d_law_668 d_law_669 d_law_672 d_law_674 d_law_679 d_law_681 d_law_684 d_law_685 d_law_686 d_law_687 d_law_689 d_law_690 d_law_691 d_law_696 (by decide) hK.2.1.2.2.2.2.2.2.2.2.2.2.2.2.1 hK0 (by omega) hK.out.1 (fun z => by rw [hJ9, if_pos z, hw z]; simp [mx_upJ]) (by omega) (kk _ _ _ _ _ _ _ ht' hK)
theorem lc_booked (htr : l.stackTraces = false) (hi : i + 6 ≤ mx_L E) (hL : mx_L E ≤ 3072) (hd : 60 ≤ d) (hk : 6 ≤ k) (hn : 600 ≤ n) (h : al_ok t S I P x) (kk : ∀ t' S' I' P' J' o5' o6', t ≤ t' → al_ok t' S' I' P' x → mx_E l E M_law d (k - 6) (n - 600) 3184 (lw_ls E x i o5' o6') [] (t', S', I', P', J') Q) : mx_E l E M_law d k n 699 (lw_ls E x i o5 o6) [] (t, S, I, P, J) Q := by
  refine mx_al1 d_law_699 ?_
  refine mx_arg_1 d_law_700 d_law_701 d_law_703 d_law_704 d_law_705 (by omega) hL ?_
  refine mx_arg_2 d_law_706 d_law_707 d_law_709 d_law_710 d_law_711 (by omega) hL ?_
  refine mx_al3 d_law_712 ?_
  obtain ⟨c, dd, v, A, ⟨hc, hz⟩, hdd, hV, hA⟩ := op_booked (E := E) (x := x) htr (v := (mx_xs E (i + 1))) (u := (mx_xs E (i + 2))) t S I P J h
  refine mx_callSW (as := .ref x :: ([.int (mx_xs E (i + 1)), .int (mx_xs E (i + 2))] ++ [.ref (x + 291)])) (k2 := k - 6) (n2 := n - 600) d_law_713 (c_Lw_booked hV h.2.1.1.1 (fun X1 hX => by obtain ⟨t', S', I', P', rfl, -, hS, -⟩ := hA X1 hX; exact hS.1) (by omega)) ok_Lw_booked ml_Lw_180 rfl rfl (Nat.le_of_ble_eq_true rfl) (by omega) (by omega) (by omega) (fun w9 X9 h9 => ?_) (fun C9 X9 h9 => by cases h9.1)
  obtain ⟨h8, X1, hX1, rfl⟩ := h9
  cases h8
  obtain ⟨t', S', I', P', rfl, ht', hS, hm⟩ := hA X1 hX1
  dsimp only
  obtain ⟨J9, hJ9⟩ : ∃ J9 : mx_G, J9 = (if c = 0 then mx_upJ J (x + 291) 0 v.toInt64 else J) := ⟨_, rfl⟩
  rw [← hJ9]
  obtain ⟨w, hM, hw⟩ := hm J9
  refine mx_is5 d_law_716 ?_
  refine mx_al2 d_law_718 ?_
  refine mx_arg_1 d_law_719 d_law_720 d_law_722 d_law_723 d_law_724 (by omega) hL ?_
  refine mx_arg_2 d_law_725 d_law_726 d_law_728 d_law_729 d_law_730 (by omega) hL ?_
  refine mx_callV (as := [.int (mx_xs E (i + 1)), .int (mx_xs E (i + 2))]) (c := 12) (k2 := k - 6) (n2 := n - 600) d_law_731 hM ok_Mo_booked ml_Lw_182 hS.2 ⟨rfl, rfl⟩ rfl rfl (Nat.le_of_ble_eq_true rfl) (by omega) (by omega) (by omega) (fun w9 X9 h9 => ?_) (fun C9 X9 h9 => by cases h9.1)
  obtain ⟨h8, K, rfl, hK, hK0⟩ := h9
  cases h8
  exact lw_tail_i (p := 734) d_law_734 d_law_736 d_law_737 d_law_740 d_law_742 d_law_747 d_law_749 d_law_752 d_law_753 d_law_754 d_law_755 d_law_757 d_law_758 d_law_759 d_law_764 (by decide) hK.2.1.2.2.2.2.2.2.2.2.2.2.2.2.1 hK0 (by omega) hK.out.1 (fun z => by rw [hJ9, if_pos z, hw z]; simp [mx_upJ]) (by omega) (kk _ _ _ _ _ _ _ ht' hK)
theorem lc_can (htr : l.stackTraces = false) (hi : i + 6 ≤ mx_L E) (hL : mx_L E ≤ 3072) (hd : 60 ≤ d) (hk : 6 ≤ k) (hn : 600 ≤ n) (h : al_ok t S I P x) (kk : ∀ t' S' I' P' J' o5' o6', t ≤ t' → al_ok t' S' I' P' x → mx_E l E M_law d (k - 6) (n - 600) 3184 (lw_ls E x i o5' o6') [] (t', S', I', P', J') Q) : mx_E l E M_law d k n 767 (lw_ls E x i o5 o6) [] (t, S, I, P, J) Q := by
  refine mx_al1 d_law_767 ?_
  refine mx_arg_1 d_law_768 d_law_769 d_law_771 d_law_772 d_law_773 (by omega) hL ?_
  refine mx_arg_2 d_law_774 d_law_775 d_law_777 d_law_778 d_law_779 (by omega) hL ?_
  refine mx_arg_3 d_law_780 d_law_781 d_law_783 d_law_784 d_law_785 (by omega) hL ?_
  refine mx_al3 d_law_786 ?_
  obtain ⟨c, dd, v, A, ⟨hc, hz⟩, hdd, hV, hA⟩ := op_can (E := E) (x := x) htr (v := (mx_xs E (i + 1))) (w := (mx_xs E (i + 2))) (u := (mx_xs E (i + 3))) t S I P J h
  obtain ⟨r, rfl⟩ := hz rfl
  refine mx_callSW (as := .ref x :: ([.int (mx_xs E (i + 1)), .int (mx_xs E (i + 2)), .int (mx_xs E (i + 3))] ++ [.ref (x + 291)])) (k2 := k - 6) (n2 := n - 600) d_law_787 (c_Lw_can hV h.2.1.1.1 (fun X1 hX => by obtain ⟨t', S', I', P', rfl, -, hS, -⟩ := hA X1 hX; exact hS.1) (by omega)) ok_Lw_can ml_Lw_183 rfl rfl (Nat.le_of_ble_eq_true rfl) (by omega) (by omega) (by omega) (fun w9 X9 h9 => ?_) (fun C9 X9 h9 => by cases h9.1)
  obtain ⟨h8, X1, hX1, rfl⟩ := h9
  cases h8
  obtain ⟨t', S', I', P', rfl, ht', hS, hm⟩ := hA X1 hX1
  dsimp only
  obtain ⟨J9, hJ9⟩ : ∃ J9 : mx_G, J9 = (if c = 0 then mx_upJ J (x + 291) 0 (bI r).toInt64 else J) := ⟨_, rfl⟩
  rw [← hJ9]
  obtain ⟨w, hM, hw⟩ := hm J9
  refine mx_is5 d_law_790 ?_
  refine mx_al2 d_law_792 ?_
  refine mx_arg_1 d_law_793 d_law_794 d_law_796 d_law_797 d_law_798 (by omega) hL ?_
  refine mx_arg_2 d_law_799 d_law_800 d_law_802 d_law_803 d_law_804 (by omega) hL ?_
  refine mx_arg_3 d_law_805 d_law_806 d_law_808 d_law_809 d_law_810 (by omega) hL ?_
  refine mx_callV (as := [.int (mx_xs E (i + 1)), .int (mx_xs E (i + 2)), .int (mx_xs E (i + 3))]) (c := 12) (k2 := k - 6) (n2 := n - 600) d_law_811 hM ok_Mo_can ml_Lw_186 hS.2 ⟨rfl, rfl⟩ rfl rfl (Nat.le_of_ble_eq_true rfl) (by omega) (by omega) (by omega) (fun w9 X9 h9 => ?_) (fun C9 X9 h9 => by cases h9.1)
  obtain ⟨h8, K, rfl, hK, hK0⟩ := h9
  cases h8
  exact lw_tail_z (p := 814) d_law_814 d_law_816 d_law_817 d_law_820 d_law_822 d_law_827 d_law_829 d_law_832 d_law_833 d_law_834 d_law_835 d_law_837 d_law_840 d_law_841 d_law_844 d_law_845 d_law_846 d_law_851 (by decide) (r := r) hw hK.2.1.2.2.2.2.2.2.2.2.2.2.2.2.1 hK0 (by omega) hK.out.1 (fun z => by rw [hJ9, if_pos z, hw z]; simp [mx_upJ]) (by omega) (kk _ _ _ _ _ _ _ ht' hK)
theorem lc_lets (htr : l.stackTraces = false) (hi : i + 6 ≤ mx_L E) (hL : mx_L E ≤ 3072) (hd : 60 ≤ d) (hk : 6 ≤ k) (hn : 600 ≤ n) (h : al_ok t S I P x) (kk : ∀ t' S' I' P' J' o5' o6', t ≤ t' → al_ok t' S' I' P' x → mx_E l E M_law d (k - 6) (n - 600) 3184 (lw_ls E x i o5' o6') [] (t', S', I', P', J') Q) : mx_E l E M_law d k n 854 (lw_ls E x i o5 o6) [] (t, S, I, P, J) Q := by
  refine mx_al1 d_law_854 ?_
  refine mx_arg_1 d_law_855 d_law_856 d_law_858 d_law_859 d_law_860 (by omega) hL ?_
  refine mx_arg_2 d_law_861 d_law_862 d_law_864 d_law_865 d_law_866 (by omega) hL ?_
  refine mx_arg_3 d_law_867 d_law_868 d_law_870 d_law_871 d_law_872 (by omega) hL ?_
  refine mx_al3 d_law_873 ?_
  obtain ⟨c, dd, v, A, ⟨hc, hz⟩, hdd, hV, hA⟩ := op_lets (E := E) (x := x) htr (v := (mx_xs E (i + 1))) (w := (mx_xs E (i + 2))) (u := (mx_xs E (i + 3))) t S I P J h
  obtain ⟨r, rfl⟩ := hz rfl
  refine mx_callSW (as := .ref x :: ([.int (mx_xs E (i + 1)), .int (mx_xs E (i + 2)), .int (mx_xs E (i + 3))] ++ [.ref (x + 291)])) (k2 := k - 6) (n2 := n - 600) d_law_874 (c_Lw_lets hV h.2.1.1.1 (fun X1 hX => by obtain ⟨t', S', I', P', rfl, -, hS, -⟩ := hA X1 hX; exact hS.1) (by omega)) ok_Lw_lets ml_Lw_187 rfl rfl (Nat.le_of_ble_eq_true rfl) (by omega) (by omega) (by omega) (fun w9 X9 h9 => ?_) (fun C9 X9 h9 => by cases h9.1)
  obtain ⟨h8, X1, hX1, rfl⟩ := h9
  cases h8
  obtain ⟨t', S', I', P', rfl, ht', hS, hm⟩ := hA X1 hX1
  dsimp only
  obtain ⟨J9, hJ9⟩ : ∃ J9 : mx_G, J9 = (if c = 0 then mx_upJ J (x + 291) 0 (bI r).toInt64 else J) := ⟨_, rfl⟩
  rw [← hJ9]
  obtain ⟨w, hM, hw⟩ := hm J9
  refine mx_is5 d_law_877 ?_
  refine mx_al2 d_law_879 ?_
  refine mx_arg_1 d_law_880 d_law_881 d_law_883 d_law_884 d_law_885 (by omega) hL ?_
  refine mx_arg_2 d_law_886 d_law_887 d_law_889 d_law_890 d_law_891 (by omega) hL ?_
  refine mx_arg_3 d_law_892 d_law_893 d_law_895 d_law_896 d_law_897 (by omega) hL ?_
  refine mx_callV (as := [.int (mx_xs E (i + 1)), .int (mx_xs E (i + 2)), .int (mx_xs E (i + 3))]) (c := 12) (k2 := k - 6) (n2 := n - 600) d_law_898 hM ok_Mo_lets ml_Lw_189 hS.2 ⟨rfl, rfl⟩ rfl rfl (Nat.le_of_ble_eq_true rfl) (by omega) (by omega) (by omega) (fun w9 X9 h9 => ?_) (fun C9 X9 h9 => by cases h9.1)
  obtain ⟨h8, K, rfl, hK, hK0⟩ := h9
  cases h8
  exact lw_tail_z (p := 901) d_law_901 d_law_903 d_law_904 d_law_907 d_law_909 d_law_914 d_law_916 d_law_919 d_law_920 d_law_921 d_law_922 d_law_924 d_law_927 d_law_928 d_law_931 d_law_932 d_law_933 d_law_938 (by decide) (r := r) hw hK.2.1.2.2.2.2.2.2.2.2.2.2.2.2.1 hK0 (by omega) hK.out.1 (fun z => by rw [hJ9, if_pos z, hw z]; simp [mx_upJ]) (by omega) (kk _ _ _ _ _ _ _ ht' hK)
theorem lc_joy (htr : l.stackTraces = false) (hi : i + 6 ≤ mx_L E) (hL : mx_L E ≤ 3072) (hd : 60 ≤ d) (hk : 6 ≤ k) (hn : 600 ≤ n) (h : al_ok t S I P x) (kk : ∀ t' S' I' P' J' o5' o6', t ≤ t' → al_ok t' S' I' P' x → mx_E l E M_law d (k - 6) (n - 600) 3184 (lw_ls E x i o5' o6') [] (t', S', I', P', J') Q) : mx_E l E M_law d k n 941 (lw_ls E x i o5 o6) [] (t, S, I, P, J) Q := by
  refine mx_al1 d_law_941 ?_
  refine mx_arg_1 d_law_942 d_law_943 d_law_945 d_law_946 d_law_947 (by omega) hL ?_
  refine mx_arg_2 d_law_948 d_law_949 d_law_951 d_law_952 d_law_953 (by omega) hL ?_
  refine mx_arg_3 d_law_954 d_law_955 d_law_957 d_law_958 d_law_959 (by omega) hL ?_
  refine mx_al3 d_law_960 ?_
  obtain ⟨c, dd, v, A, ⟨hc, hz⟩, hdd, hV, hA⟩ := op_joy (E := E) (x := x) htr (v := (mx_xs E (i + 1))) (w := (mx_xs E (i + 2))) (u := (mx_xs E (i + 3))) t S I P J h
  refine mx_callSW (as := .ref x :: ([.int (mx_xs E (i + 1)), .int (mx_xs E (i + 2)), .int (mx_xs E (i + 3))] ++ [.ref (x + 291)])) (k2 := k - 6) (n2 := n - 600) d_law_961 (c_Lw_joy hV h.2.1.1.1 (fun X1 hX => by obtain ⟨t', S', I', P', rfl, -, hS, -⟩ := hA X1 hX; exact hS.1) (by omega)) ok_Lw_joy ml_Lw_190 rfl rfl (Nat.le_of_ble_eq_true rfl) (by omega) (by omega) (by omega) (fun w9 X9 h9 => ?_) (fun C9 X9 h9 => by cases h9.1)
  obtain ⟨h8, X1, hX1, rfl⟩ := h9
  cases h8
  obtain ⟨t', S', I', P', rfl, ht', hS, hm⟩ := hA X1 hX1
  dsimp only
  obtain ⟨J9, hJ9⟩ : ∃ J9 : mx_G, J9 = (if c = 0 then mx_upJ J (x + 291) 0 v.toInt64 else J) := ⟨_, rfl⟩
  rw [← hJ9]
  obtain ⟨w, hM, hw⟩ := hm J9
  refine mx_is5 d_law_964 ?_
  refine mx_al2 d_law_966 ?_
  refine mx_arg_1 d_law_967 d_law_968 d_law_970 d_law_971 d_law_972 (by omega) hL ?_
  refine mx_arg_2 d_law_973 d_law_974 d_law_976 d_law_977 d_law_978 (by omega) hL ?_
  refine mx_arg_3 d_law_979 d_law_980 d_law_982 d_law_983 d_law_984 (by omega) hL ?_
  refine mx_callV (as := [.int (mx_xs E (i + 1)), .int (mx_xs E (i + 2)), .int (mx_xs E (i + 3))]) (c := 12) (k2 := k - 6) (n2 := n - 600) d_law_985 hM ok_Mo_joy ml_Lw_192 hS.2 ⟨rfl, rfl⟩ rfl rfl (Nat.le_of_ble_eq_true rfl) (by omega) (by omega) (by omega) (fun w9 X9 h9 => ?_) (fun C9 X9 h9 => by cases h9.1)
  obtain ⟨h8, K, rfl, hK, hK0⟩ := h9
  cases h8
  exact lw_tail_i (p := 988) d_law_988 d_law_990 d_law_991 d_law_994 d_law_996 d_law_1001 d_law_1003 d_law_1006 d_law_1007 d_law_1008 d_law_1009 d_law_1011 d_law_1012 d_law_1013 d_law_1018 (by decide) hK.2.1.2.2.2.2.2.2.2.2.2.2.2.2.1 hK0 (by omega) hK.out.1 (fun z => by rw [hJ9, if_pos z, hw z]; simp [mx_upJ]) (by omega) (kk _ _ _ _ _ _ _ ht' hK)
theorem lc_book (htr : l.stackTraces = false) (hi : i + 6 ≤ mx_L E) (hL : mx_L E ≤ 3072) (hd : 60 ≤ d) (hk : 6 ≤ k) (hn : 600 ≤ n) (h : al_ok t S I P x) (kk : ∀ t' S' I' P' J' o5' o6', t ≤ t' → al_ok t' S' I' P' x → mx_E l E M_law d (k - 6) (n - 600) 3184 (lw_ls E x i o5' o6') [] (t', S', I', P', J') Q) : mx_E l E M_law d k n 1021 (lw_ls E x i o5 o6) [] (t, S, I, P, J) Q := by
  refine mx_al1 d_law_1021 ?_
  refine mx_arg_1 d_law_1022 d_law_1023 d_law_1025 d_law_1026 d_law_1027 (by omega) hL ?_
  refine mx_arg_2 d_law_1028 d_law_1029 d_law_1031 d_law_1032 d_law_1033 (by omega) hL ?_
  refine mx_arg_3 d_law_1034 d_law_1035 d_law_1037 d_law_1038 d_law_1039 (by omega) hL ?_
  refine mx_al3 d_law_1040 ?_
  obtain ⟨c, dd, v, A, ⟨hc, hz⟩, hdd, hV, hA⟩ := op_book (E := E) (x := x) htr (v := (mx_xs E (i + 1))) (w := (mx_xs E (i + 2))) (u := (mx_xs E (i + 3))) t S I P J h
  refine mx_callSW (as := .ref x :: ([.int (mx_xs E (i + 1)), .int (mx_xs E (i + 2)), .int (mx_xs E (i + 3))] ++ [.ref (x + 291)])) (k2 := k - 6) (n2 := n - 600) d_law_1041 (c_Lw_book hV h.2.1.1.1 (fun X1 hX => by obtain ⟨t', S', I', P', rfl, -, hS, -⟩ := hA X1 hX; exact hS.1) (by omega)) ok_Lw_book ml_Lw_193 rfl rfl (Nat.le_of_ble_eq_true rfl) (by omega) (by omega) (by omega) (fun w9 X9 h9 => ?_) (fun C9 X9 h9 => by cases h9.1)
  obtain ⟨h8, X1, hX1, rfl⟩ := h9
  cases h8
  obtain ⟨t', S', I', P', rfl, ht', hS, hm⟩ := hA X1 hX1
  dsimp only
  obtain ⟨J9, hJ9⟩ : ∃ J9 : mx_G, J9 = (if c = 0 then mx_upJ J (x + 291) 0 v.toInt64 else J) := ⟨_, rfl⟩
  rw [← hJ9]
  obtain ⟨w, hM, hw⟩ := hm J9
  refine mx_is5 d_law_1044 ?_
  refine mx_al2 d_law_1046 ?_
  refine mx_arg_1 d_law_1047 d_law_1048 d_law_1050 d_law_1051 d_law_1052 (by omega) hL ?_
  refine mx_arg_2 d_law_1053 d_law_1054 d_law_1056 d_law_1057 d_law_1058 (by omega) hL ?_
  refine mx_arg_3 d_law_1059 d_law_1060 d_law_1062 d_law_1063 d_law_1064 (by omega) hL ?_
  refine mx_callV (as := [.int (mx_xs E (i + 1)), .int (mx_xs E (i + 2)), .int (mx_xs E (i + 3))]) (c := 12) (k2 := k - 6) (n2 := n - 600) d_law_1065 hM ok_Mo_book ml_Lw_195 hS.2 ⟨rfl, rfl⟩ rfl rfl (Nat.le_of_ble_eq_true rfl) (by omega) (by omega) (by omega) (fun w9 X9 h9 => ?_) (fun C9 X9 h9 => by cases h9.1)
  obtain ⟨h8, K, rfl, hK, hK0⟩ := h9
  cases h8
  exact lw_tail_i (p := 1068) d_law_1068 d_law_1070 d_law_1071 d_law_1074 d_law_1076 d_law_1081 d_law_1083 d_law_1086 d_law_1087 d_law_1088 d_law_1089 d_law_1091 d_law_1092 d_law_1093 d_law_1098 (by decide) hK.2.1.2.2.2.2.2.2.2.2.2.2.2.2.1 hK0 (by omega) hK.out.1 (fun z => by rw [hJ9, if_pos z, hw z]; simp [mx_upJ]) (by omega) (kk _ _ _ _ _ _ _ ht' hK)
theorem lc_strike (htr : l.stackTraces = false) (hi : i + 6 ≤ mx_L E) (hL : mx_L E ≤ 3072) (hd : 60 ≤ d) (hk : 6 ≤ k) (hn : 600 ≤ n) (h : al_ok t S I P x) (kk : ∀ t' S' I' P' J' o5' o6', t ≤ t' → al_ok t' S' I' P' x → mx_E l E M_law d (k - 6) (n - 600) 3184 (lw_ls E x i o5' o6') [] (t', S', I', P', J') Q) : mx_E l E M_law d k n 1101 (lw_ls E x i o5 o6) [] (t, S, I, P, J) Q := by
  refine mx_al1 d_law_1101 ?_
  refine mx_arg_1 d_law_1102 d_law_1103 d_law_1105 d_law_1106 d_law_1107 (by omega) hL ?_
  refine mx_arg_2 d_law_1108 d_law_1109 d_law_1111 d_law_1112 d_law_1113 (by omega) hL ?_
  refine mx_al3 d_law_1114 ?_
  obtain ⟨c, dd, v, A, ⟨hc, hz⟩, hdd, hV, hA⟩ := op_strike (E := E) (x := x) htr (v := (mx_xs E (i + 1))) (u := (mx_xs E (i + 2))) t S I P J h
  refine mx_callSW (as := .ref x :: ([.int (mx_xs E (i + 1)), .int (mx_xs E (i + 2))] ++ [.ref (x + 291)])) (k2 := k - 6) (n2 := n - 600) d_law_1115 (c_Lw_strike hV h.2.1.1.1 (fun X1 hX => by obtain ⟨t', S', I', P', rfl, -, hS, -⟩ := hA X1 hX; exact hS.1) (by omega)) ok_Lw_strike ml_Lw_196 rfl rfl (Nat.le_of_ble_eq_true rfl) (by omega) (by omega) (by omega) (fun w9 X9 h9 => ?_) (fun C9 X9 h9 => by cases h9.1)
  obtain ⟨h8, X1, hX1, rfl⟩ := h9
  cases h8
  obtain ⟨t', S', I', P', rfl, ht', hS, hm⟩ := hA X1 hX1
  dsimp only
  obtain ⟨J9, hJ9⟩ : ∃ J9 : mx_G, J9 = (if c = 0 then mx_upJ J (x + 291) 0 v.toInt64 else J) := ⟨_, rfl⟩
  rw [← hJ9]
  obtain ⟨w, hM, hw⟩ := hm J9
  refine mx_is5 d_law_1118 ?_
  refine mx_al2 d_law_1120 ?_
  refine mx_arg_1 d_law_1121 d_law_1122 d_law_1124 d_law_1125 d_law_1126 (by omega) hL ?_
  refine mx_arg_2 d_law_1127 d_law_1128 d_law_1130 d_law_1131 d_law_1132 (by omega) hL ?_
  refine mx_callV (as := [.int (mx_xs E (i + 1)), .int (mx_xs E (i + 2))]) (c := 12) (k2 := k - 6) (n2 := n - 600) d_law_1133 hM ok_Mo_strike ml_Lw_198 hS.2 ⟨rfl, rfl⟩ rfl rfl (Nat.le_of_ble_eq_true rfl) (by omega) (by omega) (by omega) (fun w9 X9 h9 => ?_) (fun C9 X9 h9 => by cases h9.1)
  obtain ⟨h8, K, rfl, hK, hK0⟩ := h9
  cases h8
  exact lw_tail_i (p := 1136) d_law_1136 d_law_1138 d_law_1139 d_law_1142 d_law_1144 d_law_1149 d_law_1151 d_law_1154 d_law_1155 d_law_1156 d_law_1157 d_law_1159 d_law_1160 d_law_1161 d_law_1166 (by decide) hK.2.1.2.2.2.2.2.2.2.2.2.2.2.2.1 hK0 (by omega) hK.out.1 (fun z => by rw [hJ9, if_pos z, hw z]; simp [mx_upJ]) (by omega) (kk _ _ _ _ _ _ _ ht' hK)
theorem lc_change (htr : l.stackTraces = false) (hi : i + 6 ≤ mx_L E) (hL : mx_L E ≤ 3072) (hd : 60 ≤ d) (hk : 6 ≤ k) (hn : 600 ≤ n) (h : al_ok t S I P x) (kk : ∀ t' S' I' P' J' o5' o6', t ≤ t' → al_ok t' S' I' P' x → mx_E l E M_law d (k - 6) (n - 600) 3184 (lw_ls E x i o5' o6') [] (t', S', I', P', J') Q) : mx_E l E M_law d k n 1169 (lw_ls E x i o5 o6) [] (t, S, I, P, J) Q := by
  refine mx_al1 d_law_1169 ?_
  refine mx_arg_1 d_law_1170 d_law_1171 d_law_1173 d_law_1174 d_law_1175 (by omega) hL ?_
  refine mx_arg_2 d_law_1176 d_law_1177 d_law_1179 d_law_1180 d_law_1181 (by omega) hL ?_
  refine mx_arg_3 d_law_1182 d_law_1183 d_law_1185 d_law_1186 d_law_1187 (by omega) hL ?_
  refine mx_al3 d_law_1188 ?_
  obtain ⟨c, dd, v, A, ⟨hc, hz⟩, hdd, hV, hA⟩ := op_change (E := E) (x := x) htr (v := (mx_xs E (i + 1))) (w := (mx_xs E (i + 2))) (u := (mx_xs E (i + 3))) t S I P J h
  refine mx_callSW (as := .ref x :: ([.int (mx_xs E (i + 1)), .int (mx_xs E (i + 2)), .int (mx_xs E (i + 3))] ++ [.ref (x + 291)])) (k2 := k - 6) (n2 := n - 600) d_law_1189 (c_Lw_change hV h.2.1.1.1 (fun X1 hX => by obtain ⟨t', S', I', P', rfl, -, hS, -⟩ := hA X1 hX; exact hS.1) (by omega)) ok_Lw_change ml_Lw_199 rfl rfl (Nat.le_of_ble_eq_true rfl) (by omega) (by omega) (by omega) (fun w9 X9 h9 => ?_) (fun C9 X9 h9 => by cases h9.1)
  obtain ⟨h8, X1, hX1, rfl⟩ := h9
  cases h8
  obtain ⟨t', S', I', P', rfl, ht', hS, hm⟩ := hA X1 hX1
  dsimp only
  obtain ⟨J9, hJ9⟩ : ∃ J9 : mx_G, J9 = (if c = 0 then mx_upJ J (x + 291) 0 v.toInt64 else J) := ⟨_, rfl⟩
  rw [← hJ9]
  obtain ⟨w, hM, hw⟩ := hm J9
  refine mx_is5 d_law_1192 ?_
  refine mx_al2 d_law_1194 ?_
  refine mx_arg_1 d_law_1195 d_law_1196 d_law_1198 d_law_1199 d_law_1200 (by omega) hL ?_
  refine mx_arg_2 d_law_1201 d_law_1202 d_law_1204 d_law_1205 d_law_1206 (by omega) hL ?_
  refine mx_arg_3 d_law_1207 d_law_1208 d_law_1210 d_law_1211 d_law_1212 (by omega) hL ?_
  refine mx_callV (as := [.int (mx_xs E (i + 1)), .int (mx_xs E (i + 2)), .int (mx_xs E (i + 3))]) (c := 12) (k2 := k - 6) (n2 := n - 600) d_law_1213 hM ok_Mo_change ml_Lw_201 hS.2 ⟨rfl, rfl⟩ rfl rfl (Nat.le_of_ble_eq_true rfl) (by omega) (by omega) (by omega) (fun w9 X9 h9 => ?_) (fun C9 X9 h9 => by cases h9.1)
  obtain ⟨h8, K, rfl, hK, hK0⟩ := h9
  cases h8
  exact lw_tail_i (p := 1216) d_law_1216 d_law_1218 d_law_1219 d_law_1222 d_law_1224 d_law_1229 d_law_1231 d_law_1234 d_law_1235 d_law_1236 d_law_1237 d_law_1239 d_law_1240 d_law_1241 d_law_1246 (by decide) hK.2.1.2.2.2.2.2.2.2.2.2.2.2.2.1 hK0 (by omega) hK.out.1 (fun z => by rw [hJ9, if_pos z, hw z]; simp [mx_upJ]) (by omega) (kk _ _ _ _ _ _ _ ht' hK)
theorem lc_mark (htr : l.stackTraces = false) (hi : i + 6 ≤ mx_L E) (hL : mx_L E ≤ 3072) (hd : 60 ≤ d) (hk : 6 ≤ k) (hn : 600 ≤ n) (h : al_ok t S I P x) (kk : ∀ t' S' I' P' J' o5' o6', t ≤ t' → al_ok t' S' I' P' x → mx_E l E M_law d (k - 6) (n - 600) 3184 (lw_ls E x i o5' o6') [] (t', S', I', P', J') Q) : mx_E l E M_law d k n 1249 (lw_ls E x i o5 o6) [] (t, S, I, P, J) Q := by
  refine mx_al1 d_law_1249 ?_
  refine mx_arg_1 d_law_1250 d_law_1251 d_law_1253 d_law_1254 d_law_1255 (by omega) hL ?_
  refine mx_arg_2 d_law_1256 d_law_1257 d_law_1259 d_law_1260 d_law_1261 (by omega) hL ?_
  refine mx_al3 d_law_1262 ?_
  obtain ⟨c, dd, v, A, ⟨hc, hz⟩, hdd, hV, hA⟩ := op_mark (E := E) (x := x) htr (v := (mx_xs E (i + 1))) (w := (mx_xs E (i + 2))) t S I P J h
  refine mx_callSW (as := .ref x :: ([.int (mx_xs E (i + 1)), .int (mx_xs E (i + 2))] ++ [.ref (x + 291)])) (k2 := k - 6) (n2 := n - 600) d_law_1263 (c_Lw_mark hV h.2.1.1.1 (fun X1 hX => by obtain ⟨t', S', I', P', rfl, -, hS, -⟩ := hA X1 hX; exact hS.1) (by omega)) ok_Lw_mark ml_Lw_202 rfl rfl (Nat.le_of_ble_eq_true rfl) (by omega) (by omega) (by omega) (fun w9 X9 h9 => ?_) (fun C9 X9 h9 => by cases h9.1)
  obtain ⟨h8, X1, hX1, rfl⟩ := h9
  cases h8
  obtain ⟨t', S', I', P', rfl, ht', hS, hm⟩ := hA X1 hX1
  dsimp only
  obtain ⟨J9, hJ9⟩ : ∃ J9 : mx_G, J9 = (if c = 0 then mx_upJ J (x + 291) 0 v.toInt64 else J) := ⟨_, rfl⟩
  rw [← hJ9]
  obtain ⟨w, hM, hw⟩ := hm J9
  refine mx_is5 d_law_1266 ?_
  refine mx_al2 d_law_1268 ?_
  refine mx_arg_1 d_law_1269 d_law_1270 d_law_1272 d_law_1273 d_law_1274 (by omega) hL ?_
  refine mx_arg_2 d_law_1275 d_law_1276 d_law_1278 d_law_1279 d_law_1280 (by omega) hL ?_
  refine mx_callV (as := [.int (mx_xs E (i + 1)), .int (mx_xs E (i + 2))]) (c := 12) (k2 := k - 6) (n2 := n - 600) d_law_1281 hM ok_Mo_mark ml_Lw_204 hS.2 ⟨rfl, rfl⟩ rfl rfl (Nat.le_of_ble_eq_true rfl) (by omega) (by omega) (by omega) (fun w9 X9 h9 => ?_) (fun C9 X9 h9 => by cases h9.1)
  obtain ⟨h8, K, rfl, hK, hK0⟩ := h9
  cases h8
  exact lw_tail_i (p := 1284) d_law_1284 d_law_1286 d_law_1287 d_law_1290 d_law_1292 d_law_1297 d_law_1299 d_law_1302 d_law_1303 d_law_1304 d_law_1305 d_law_1307 d_law_1308 d_law_1309 d_law_1314 (by decide) hK.2.1.2.2.2.2.2.2.2.2.2.2.2.2.1 hK0 (by omega) hK.out.1 (fun z => by rw [hJ9, if_pos z, hw z]; simp [mx_upJ]) (by omega) (kk _ _ _ _ _ _ _ ht' hK)
theorem lc_gate (htr : l.stackTraces = false) (hi : i + 6 ≤ mx_L E) (hL : mx_L E ≤ 3072) (hd : 60 ≤ d) (hk : 6 ≤ k) (hn : 600 ≤ n) (h : al_ok t S I P x) (kk : ∀ t' S' I' P' J' o5' o6', t ≤ t' → al_ok t' S' I' P' x → mx_E l E M_law d (k - 6) (n - 600) 3184 (lw_ls E x i o5' o6') [] (t', S', I', P', J') Q) : mx_E l E M_law d k n 1317 (lw_ls E x i o5 o6) [] (t, S, I, P, J) Q := by
  refine mx_al1 d_law_1317 ?_
  refine mx_arg_1 d_law_1318 d_law_1319 d_law_1321 d_law_1322 d_law_1323 (by omega) hL ?_
  refine mx_arg_2 d_law_1324 d_law_1325 d_law_1327 d_law_1328 d_law_1329 (by omega) hL ?_
  refine mx_al3 d_law_1330 ?_
  obtain ⟨c, dd, v, A, ⟨hc, hz⟩, hdd, hV, hA⟩ := op_gate (E := E) (x := x) htr (v := (mx_xs E (i + 1))) (w := (mx_xs E (i + 2))) t S I P J h
  refine mx_callSW (as := .ref x :: ([.int (mx_xs E (i + 1)), .int (mx_xs E (i + 2))] ++ [.ref (x + 291)])) (k2 := k - 6) (n2 := n - 600) d_law_1331 (c_Lw_gate hV h.2.1.1.1 (fun X1 hX => by obtain ⟨t', S', I', P', rfl, -, hS, -⟩ := hA X1 hX; exact hS.1) (by omega)) ok_Lw_gate ml_Lw_205 rfl rfl (Nat.le_of_ble_eq_true rfl) (by omega) (by omega) (by omega) (fun w9 X9 h9 => ?_) (fun C9 X9 h9 => by cases h9.1)
  obtain ⟨h8, X1, hX1, rfl⟩ := h9
  cases h8
  obtain ⟨t', S', I', P', rfl, ht', hS, hm⟩ := hA X1 hX1
  dsimp only
  obtain ⟨J9, hJ9⟩ : ∃ J9 : mx_G, J9 = (if c = 0 then mx_upJ J (x + 291) 0 v.toInt64 else J) := ⟨_, rfl⟩
  rw [← hJ9]
  obtain ⟨w, hM, hw⟩ := hm J9
  refine mx_is5 d_law_1334 ?_
  refine mx_al2 d_law_1336 ?_
  refine mx_arg_1 d_law_1337 d_law_1338 d_law_1340 d_law_1341 d_law_1342 (by omega) hL ?_
  refine mx_arg_2 d_law_1343 d_law_1344 d_law_1346 d_law_1347 d_law_1348 (by omega) hL ?_
  refine mx_callV (as := [.int (mx_xs E (i + 1)), .int (mx_xs E (i + 2))]) (c := 12) (k2 := k - 6) (n2 := n - 600) d_law_1349 hM ok_Mo_gate ml_Lw_207 hS.2 ⟨rfl, rfl⟩ rfl rfl (Nat.le_of_ble_eq_true rfl) (by omega) (by omega) (by omega) (fun w9 X9 h9 => ?_) (fun C9 X9 h9 => by cases h9.1)
  obtain ⟨h8, K, rfl, hK, hK0⟩ := h9
  cases h8
  exact lw_tail_i (p := 1352) d_law_1352 d_law_1354 d_law_1355 d_law_1358 d_law_1360 d_law_1365 d_law_1367 d_law_1370 d_law_1371 d_law_1372 d_law_1373 d_law_1375 d_law_1376 d_law_1377 d_law_1382 (by decide) hK.2.1.2.2.2.2.2.2.2.2.2.2.2.2.1 hK0 (by omega) hK.out.1 (fun z => by rw [hJ9, if_pos z, hw z]; simp [mx_upJ]) (by omega) (kk _ _ _ _ _ _ _ ht' hK)
theorem lc_value (htr : l.stackTraces = false) (hi : i + 6 ≤ mx_L E) (hL : mx_L E ≤ 3072) (hd : 60 ≤ d) (hk : 6 ≤ k) (hn : 600 ≤ n) (h : al_ok t S I P x) (kk : ∀ t' S' I' P' J' o5' o6', t ≤ t' → al_ok t' S' I' P' x → mx_E l E M_law d (k - 6) (n - 600) 3184 (lw_ls E x i o5' o6') [] (t', S', I', P', J') Q) : mx_E l E M_law d k n 1385 (lw_ls E x i o5 o6) [] (t, S, I, P, J) Q := by
  refine mx_al1 d_law_1385 ?_
  refine mx_arg_1 d_law_1386 d_law_1387 d_law_1389 d_law_1390 d_law_1391 (by omega) hL ?_
  refine mx_arg_2 d_law_1392 d_law_1393 d_law_1395 d_law_1396 d_law_1397 (by omega) hL ?_
  refine mx_arg_3 d_law_1398 d_law_1399 d_law_1401 d_law_1402 d_law_1403 (by omega) hL ?_
  refine mx_nez d_law_1404 d_law_1407 d_law_1408 d_law_1411 (by decide) (by decide) ?_
  refine mx_arg_4 d_law_1412 d_law_1413 d_law_1415 d_law_1416 d_law_1417 (by omega) hL ?_
  refine mx_al3 d_law_1418 ?_
  obtain ⟨c, dd, v, A, ⟨hc, hz⟩, hdd, hV, hA⟩ := op_value (E := E) (x := x) htr (v := (mx_xs E (i + 1))) (w := (mx_xs E (i + 2))) (b := !(decide (mx_xs E (i + 3) = 0))) (u := (mx_xs E (i + 4))) t S I P J h
  refine mx_callSW (as := .ref x :: ([.int (mx_xs E (i + 1)), .int (mx_xs E (i + 2)), .int (bI (!(decide (mx_xs E (i + 3) = 0)))), .int (mx_xs E (i + 4))] ++ [.ref (x + 291)])) (k2 := k - 6) (n2 := n - 600) d_law_1419 (c_Lw_value hV h.2.1.1.1 (fun X1 hX => by obtain ⟨t', S', I', P', rfl, -, hS, -⟩ := hA X1 hX; exact hS.1) (by omega)) ok_Lw_value ml_Lw_208 rfl rfl (Nat.le_of_ble_eq_true rfl) (by omega) (by omega) (by omega) (fun w9 X9 h9 => ?_) (fun C9 X9 h9 => by cases h9.1)
  obtain ⟨h8, X1, hX1, rfl⟩ := h9
  cases h8
  obtain ⟨t', S', I', P', rfl, ht', hS, hm⟩ := hA X1 hX1
  dsimp only
  obtain ⟨J9, hJ9⟩ : ∃ J9 : mx_G, J9 = (if c = 0 then mx_upJ J (x + 291) 0 v.toInt64 else J) := ⟨_, rfl⟩
  rw [← hJ9]
  obtain ⟨w, hM, hw⟩ := hm J9
  refine mx_is5 d_law_1422 ?_
  refine mx_al2 d_law_1424 ?_
  refine mx_arg_1 d_law_1425 d_law_1426 d_law_1428 d_law_1429 d_law_1430 (by omega) hL ?_
  refine mx_arg_2 d_law_1431 d_law_1432 d_law_1434 d_law_1435 d_law_1436 (by omega) hL ?_
  refine mx_arg_3 d_law_1437 d_law_1438 d_law_1440 d_law_1441 d_law_1442 (by omega) hL ?_
  refine mx_nez d_law_1443 d_law_1446 d_law_1447 d_law_1450 (by decide) (by decide) ?_
  refine mx_arg_4 d_law_1451 d_law_1452 d_law_1454 d_law_1455 d_law_1456 (by omega) hL ?_
  refine mx_callV (as := [.int (mx_xs E (i + 1)), .int (mx_xs E (i + 2)), .int (bI (!(decide (mx_xs E (i + 3) = 0)))), .int (mx_xs E (i + 4))]) (c := 12) (k2 := k - 6) (n2 := n - 600) d_law_1457 hM ok_Mo_value ml_Lw_211 hS.2 ⟨rfl, rfl⟩ rfl rfl (Nat.le_of_ble_eq_true rfl) (by omega) (by omega) (by omega) (fun w9 X9 h9 => ?_) (fun C9 X9 h9 => by cases h9.1)
  obtain ⟨h8, K, rfl, hK, hK0⟩ := h9
  cases h8
  exact lw_tail_i (p := 1460) d_law_1460 d_law_1462 d_law_1463 d_law_1466 d_law_1468 d_law_1473 d_law_1475 d_law_1478 d_law_1479 d_law_1480 d_law_1481 d_law_1483 d_law_1484 d_law_1485 d_law_1490 (by decide) hK.2.1.2.2.2.2.2.2.2.2.2.2.2.2.1 hK0 (by omega) hK.out.1 (fun z => by rw [hJ9, if_pos z, hw z]; simp [mx_upJ]) (by omega) (kk _ _ _ _ _ _ _ ht' hK)
theorem lc_weeks (htr : l.stackTraces = false) (hi : i + 6 ≤ mx_L E) (hL : mx_L E ≤ 3072) (hd : 60 ≤ d) (hk : 6 ≤ k) (hn : 600 ≤ n) (h : al_ok t S I P x) (kk : ∀ t' S' I' P' J' o5' o6', t ≤ t' → al_ok t' S' I' P' x → mx_E l E M_law d (k - 6) (n - 600) 3184 (lw_ls E x i o5' o6') [] (t', S', I', P', J') Q) : mx_E l E M_law d k n 1493 (lw_ls E x i o5 o6) [] (t, S, I, P, J) Q := by
  refine mx_al1 d_law_1493 ?_
  refine mx_arg_1 d_law_1494 d_law_1495 d_law_1497 d_law_1498 d_law_1499 (by omega) hL ?_
  refine mx_al3 d_law_1500 ?_
  obtain ⟨c, dd, v, A, ⟨hc, hz⟩, hdd, hV, hA⟩ := op_weeks (E := E) (x := x) htr (v := (mx_xs E (i + 1))) t S I P J h
  refine mx_callSW (as := .ref x :: ([.int (mx_xs E (i + 1))] ++ [.ref (x + 291)])) (k2 := k - 6) (n2 := n - 600) d_law_1501 (c_Lw_weeks hV h.2.1.1.1 (fun X1 hX => by obtain ⟨t', S', I', P', rfl, -, hS, -⟩ := hA X1 hX; exact hS.1) (by omega)) ok_Lw_weeks ml_Lw_212 rfl rfl (Nat.le_of_ble_eq_true rfl) (by omega) (by omega) (by omega) (fun w9 X9 h9 => ?_) (fun C9 X9 h9 => by cases h9.1)
  obtain ⟨h8, X1, hX1, rfl⟩ := h9
  cases h8
  obtain ⟨t', S', I', P', rfl, ht', hS, hm⟩ := hA X1 hX1
  dsimp only
  obtain ⟨J9, hJ9⟩ : ∃ J9 : mx_G, J9 = (if c = 0 then mx_upJ J (x + 291) 0 v.toInt64 else J) := ⟨_, rfl⟩
  rw [← hJ9]
  obtain ⟨w, hM, hw⟩ := hm J9
  refine mx_is5 d_law_1504 ?_
  refine mx_al2 d_law_1506 ?_
  refine mx_arg_1 d_law_1507 d_law_1508 d_law_1510 d_law_1511 d_law_1512 (by omega) hL ?_
  refine mx_callV (as := [.int (mx_xs E (i + 1))]) (c := 12) (k2 := k - 6) (n2 := n - 600) d_law_1513 hM ok_Mo_weeks ml_Lw_215 hS.2 ⟨rfl, rfl⟩ rfl rfl (Nat.le_of_ble_eq_true rfl) (by omega) (by omega) (by omega) (fun w9 X9 h9 => ?_) (fun C9 X9 h9 => by cases h9.1)
  obtain ⟨h8, K, rfl, hK, hK0⟩ := h9
  cases h8
  exact lw_tail_i (p := 1516) d_law_1516 d_law_1518 d_law_1519 d_law_1522 d_law_1524 d_law_1529 d_law_1531 d_law_1534 d_law_1535 d_law_1536 d_law_1537 d_law_1539 d_law_1540 d_law_1541 d_law_1546 (by decide) hK.2.1.2.2.2.2.2.2.2.2.2.2.2.2.1 hK0 (by omega) hK.out.1 (fun z => by rw [hJ9, if_pos z, hw z]; simp [mx_upJ]) (by omega) (kk _ _ _ _ _ _ _ ht' hK)
theorem lc_meetings (htr : l.stackTraces = false) (hi : i + 6 ≤ mx_L E) (hL : mx_L E ≤ 3072) (hd : 60 ≤ d) (hk : 6 ≤ k) (hn : 600 ≤ n) (h : al_ok t S I P x) (kk : ∀ t' S' I' P' J' o5' o6', t ≤ t' → al_ok t' S' I' P' x → mx_E l E M_law d (k - 6) (n - 600) 3184 (lw_ls E x i o5' o6') [] (t', S', I', P', J') Q) : mx_E l E M_law d k n 1549 (lw_ls E x i o5 o6) [] (t, S, I, P, J) Q := by
  refine mx_al1 d_law_1549 ?_
  refine mx_arg_1 d_law_1550 d_law_1551 d_law_1553 d_law_1554 d_law_1555 (by omega) hL ?_
  refine mx_nez d_law_1556 d_law_1559 d_law_1560 d_law_1563 (by decide) (by decide) ?_
  obtain ⟨c, dd, v, A, ⟨hc, -⟩, hdd, hV, hA⟩ := op_meetings (E := E) (x := x) htr (b := !(decide (mx_xs E (i + 1) = 0))) t S I P J h
  obtain rfl : c = 0 := by omega
  refine mx_callV (as := [.int (bI (!(decide (mx_xs E (i + 1) = 0))))]) (c := 11) (k2 := k - 6) (n2 := n - 600) d_law_1564 hV ok_Vh_meetings ml_Lw_216 h.2.1.1.1 ⟨rfl, rfl⟩ rfl rfl (Nat.le_of_ble_eq_true rfl) (by omega) (by omega) (by omega) (fun w9 X9 h9 => ?_) (fun C9 X9 h9 => by obtain ⟨-, ⟨-, h8⟩ | ⟨h8, -⟩⟩ := h9; (cases h8); exact absurd rfl h8)
  obtain ⟨hX1, ⟨-, h8⟩ | ⟨h8, -⟩⟩ := h9
  rotate_left
  · exact absurd rfl h8
  cases h8
  obtain ⟨t', S', I', P', rfl, ht', hS, hm⟩ := hA X9 hX1
  obtain ⟨w, hM, hw⟩ := hm J
  obtain rfl := hw rfl
  refine mx_al2 d_law_1567 ?_
  refine mx_arg_1 d_law_1568 d_law_1569 d_law_1571 d_law_1572 d_law_1573 (by omega) hL ?_
  refine mx_nez d_law_1574 d_law_1577 d_law_1578 d_law_1581 (by decide) (by decide) ?_
  refine mx_callV (as := [.int (bI (!(decide (mx_xs E (i + 1) = 0))))]) (c := 12) (k2 := k - 6) (n2 := n - 600) d_law_1582 hM ok_Mo_meetings ml_Lw_219 hS.2 ⟨rfl, rfl⟩ rfl rfl (Nat.le_of_ble_eq_true rfl) (by omega) (by omega) (by omega) (fun w9 X9 h9 => ?_) (fun C9 X9 h9 => by cases h9.1)
  obtain ⟨h8, K, rfl, hK, hK0⟩ := h9
  cases h8
  exact mx_icmp_eq 3184 d_law_1585 (by decide) (fun _ => kk _ _ _ _ _ _ _ ht' hK) (fun c9 => absurd rfl c9)
theorem lc_twice (htr : l.stackTraces = false) (hi : i + 6 ≤ mx_L E) (hL : mx_L E ≤ 3072) (hd : 60 ≤ d) (hk : 6 ≤ k) (hn : 600 ≤ n) (h : al_ok t S I P x) (kk : ∀ t' S' I' P' J' o5' o6', t ≤ t' → al_ok t' S' I' P' x → mx_E l E M_law d (k - 6) (n - 600) 3184 (lw_ls E x i o5' o6') [] (t', S', I', P', J') Q) : mx_E l E M_law d k n 1590 (lw_ls E x i o5 o6) [] (t, S, I, P, J) Q := by
  refine mx_al1 d_law_1590 ?_
  obtain ⟨c, dd, v, A, ⟨hc, -⟩, hdd, hV, hA⟩ := op_twice (E := E) (x := x) htr  t S I P J h
  obtain rfl : c = 0 := by omega
  refine mx_callV (as := []) (c := 11) (k2 := k - 6) (n2 := n - 600) d_law_1591 hV ok_Vh_twice ml_Lw_220 h.2.1.1.1 ⟨rfl, rfl⟩ rfl rfl (Nat.le_of_ble_eq_true rfl) (by omega) (by omega) (by omega) (fun w9 X9 h9 => ?_) (fun C9 X9 h9 => by obtain ⟨-, ⟨-, h8⟩ | ⟨h8, -⟩⟩ := h9; (cases h8); exact absurd rfl h8)
  obtain ⟨hX1, ⟨-, h8⟩ | ⟨h8, -⟩⟩ := h9
  rotate_left
  · exact absurd rfl h8
  cases h8
  obtain ⟨t', S', I', P', rfl, ht', hS, hm⟩ := hA X9 hX1
  obtain ⟨w, hM, hw⟩ := hm J
  obtain rfl := hw rfl
  refine mx_al2 d_law_1594 ?_
  refine mx_callV (as := []) (c := 12) (k2 := k - 6) (n2 := n - 600) d_law_1595 hM ok_Mo_twice ml_Lw_223 hS.2 ⟨rfl, rfl⟩ rfl rfl (Nat.le_of_ble_eq_true rfl) (by omega) (by omega) (by omega) (fun w9 X9 h9 => ?_) (fun C9 X9 h9 => by cases h9.1)
  obtain ⟨h8, K, rfl, hK, hK0⟩ := h9
  cases h8
  exact mx_icmp_eq 3184 d_law_1598 (by decide) (fun _ => kk _ _ _ _ _ _ _ ht' hK) (fun c9 => absurd rfl c9)
theorem lc_taboo (htr : l.stackTraces = false) (hi : i + 6 ≤ mx_L E) (hL : mx_L E ≤ 3072) (hd : 60 ≤ d) (hk : 6 ≤ k) (hn : 600 ≤ n) (h : al_ok t S I P x) (kk : ∀ t' S' I' P' J' o5' o6', t ≤ t' → al_ok t' S' I' P' x → mx_E l E M_law d (k - 6) (n - 600) 3184 (lw_ls E x i o5' o6') [] (t', S', I', P', J') Q) : mx_E l E M_law d k n 1603 (lw_ls E x i o5 o6) [] (t, S, I, P, J) Q := by
  refine mx_al1 d_law_1603 ?_
  obtain ⟨c, dd, v, A, ⟨hc, -⟩, hdd, hV, hA⟩ := op_taboo (E := E) (x := x) htr  t S I P J h
  obtain rfl : c = 0 := by omega
  refine mx_callV (as := []) (c := 11) (k2 := k - 6) (n2 := n - 600) d_law_1604 hV ok_Vh_taboo ml_Lw_224 h.2.1.1.1 ⟨rfl, rfl⟩ rfl rfl (Nat.le_of_ble_eq_true rfl) (by omega) (by omega) (by omega) (fun w9 X9 h9 => ?_) (fun C9 X9 h9 => by obtain ⟨-, ⟨-, h8⟩ | ⟨h8, -⟩⟩ := h9; (cases h8); exact absurd rfl h8)
  obtain ⟨hX1, ⟨-, h8⟩ | ⟨h8, -⟩⟩ := h9
  rotate_left
  · exact absurd rfl h8
  cases h8
  obtain ⟨t', S', I', P', rfl, ht', hS, hm⟩ := hA X9 hX1
  obtain ⟨w, hM, hw⟩ := hm J
  obtain rfl := hw rfl
  refine mx_al2 d_law_1607 ?_
  refine mx_callV (as := []) (c := 12) (k2 := k - 6) (n2 := n - 600) d_law_1608 hM ok_Mo_taboo ml_Lw_227 hS.2 ⟨rfl, rfl⟩ rfl rfl (Nat.le_of_ble_eq_true rfl) (by omega) (by omega) (by omega) (fun w9 X9 h9 => ?_) (fun C9 X9 h9 => by cases h9.1)
  obtain ⟨h8, K, rfl, hK, hK0⟩ := h9
  cases h8
  exact mx_icmp_eq 3184 d_law_1611 (by decide) (fun _ => kk _ _ _ _ _ _ _ ht' hK) (fun c9 => absurd rfl c9)
theorem lc_hostBest (htr : l.stackTraces = false) (hi : i + 6 ≤ mx_L E) (hL : mx_L E ≤ 3072) (hd : 60 ≤ d) (hk : 6 ≤ k) (hn : 600 ≤ n) (h : al_ok t S I P x) (kk : ∀ t' S' I' P' J' o5' o6', t ≤ t' → al_ok t' S' I' P' x → mx_E l E M_law d (k - 6) (n - 600) 3184 (lw_ls E x i o5' o6') [] (t', S', I', P', J') Q) : mx_E l E M_law d k n 1616 (lw_ls E x i o5 o6) [] (t, S, I, P, J) Q := by
  refine mx_al1 d_law_1616 ?_
  refine mx_arg_1 d_law_1617 d_law_1618 d_law_1620 d_law_1621 d_law_1622 (by omega) hL ?_
  refine mx_al3 d_law_1623 ?_
  obtain ⟨c, dd, v, A, ⟨hc, hz⟩, hdd, hV, hA⟩ := op_hostBest (E := E) (x := x) htr (v := (mx_xs E (i + 1))) t S I P J h
  refine mx_callSW (as := .ref x :: ([.int (mx_xs E (i + 1))] ++ [.ref (x + 291)])) (k2 := k - 6) (n2 := n - 600) d_law_1624 (c_Lw_hostBest hV h.2.1.1.1 (fun X1 hX => by obtain ⟨t', S', I', P', rfl, -, hS, -⟩ := hA X1 hX; exact hS.1) (by omega)) ok_Lw_hostBest ml_Lw_228 rfl rfl (Nat.le_of_ble_eq_true rfl) (by omega) (by omega) (by omega) (fun w9 X9 h9 => ?_) (fun C9 X9 h9 => by cases h9.1)
  obtain ⟨h8, X1, hX1, rfl⟩ := h9
  cases h8
  obtain ⟨t', S', I', P', rfl, ht', hS, hm⟩ := hA X1 hX1
  dsimp only
  obtain ⟨J9, hJ9⟩ : ∃ J9 : mx_G, J9 = (if c = 0 then mx_upJ J (x + 291) 0 v.toInt64 else J) := ⟨_, rfl⟩
  rw [← hJ9]
  obtain ⟨w, hM, hw⟩ := hm J9
  refine mx_is5 d_law_1627 ?_
  refine mx_al2 d_law_1629 ?_
  refine mx_arg_1 d_law_1630 d_law_1631 d_law_1633 d_law_1634 d_law_1635 (by omega) hL ?_
  refine mx_callV (as := [.int (mx_xs E (i + 1))]) (c := 12) (k2 := k - 6) (n2 := n - 600) d_law_1636 hM ok_Mo_hostBest ml_Lw_230 hS.2 ⟨rfl, rfl⟩ rfl rfl (Nat.le_of_ble_eq_true rfl) (by omega) (by omega) (by omega) (fun w9 X9 h9 => ?_) (fun C9 X9 h9 => by cases h9.1)
  obtain ⟨h8, K, rfl, hK, hK0⟩ := h9
  cases h8
  exact lw_tail_i (p := 1639) d_law_1639 d_law_1641 d_law_1642 d_law_1645 d_law_1647 d_law_1652 d_law_1654 d_law_1657 d_law_1658 d_law_1659 d_law_1660 d_law_1662 d_law_1663 d_law_1664 d_law_1669 (by decide) hK.2.1.2.2.2.2.2.2.2.2.2.2.2.2.1 hK0 (by omega) hK.out.1 (fun z => by rw [hJ9, if_pos z, hw z]; simp [mx_upJ]) (by omega) (kk _ _ _ _ _ _ _ ht' hK)
theorem lc_guestBest (htr : l.stackTraces = false) (hi : i + 6 ≤ mx_L E) (hL : mx_L E ≤ 3072) (hd : 60 ≤ d) (hk : 6 ≤ k) (hn : 600 ≤ n) (h : al_ok t S I P x) (kk : ∀ t' S' I' P' J' o5' o6', t ≤ t' → al_ok t' S' I' P' x → mx_E l E M_law d (k - 6) (n - 600) 3184 (lw_ls E x i o5' o6') [] (t', S', I', P', J') Q) : mx_E l E M_law d k n 1672 (lw_ls E x i o5 o6) [] (t, S, I, P, J) Q := by
  refine mx_al1 d_law_1672 ?_
  refine mx_arg_1 d_law_1673 d_law_1674 d_law_1676 d_law_1677 d_law_1678 (by omega) hL ?_
  refine mx_al3 d_law_1679 ?_
  obtain ⟨c, dd, v, A, ⟨hc, hz⟩, hdd, hV, hA⟩ := op_guestBest (E := E) (x := x) htr (v := (mx_xs E (i + 1))) t S I P J h
  refine mx_callSW (as := .ref x :: ([.int (mx_xs E (i + 1))] ++ [.ref (x + 291)])) (k2 := k - 6) (n2 := n - 600) d_law_1680 (c_Lw_guestBest hV h.2.1.1.1 (fun X1 hX => by obtain ⟨t', S', I', P', rfl, -, hS, -⟩ := hA X1 hX; exact hS.1) (by omega)) ok_Lw_guestBest ml_Lw_231 rfl rfl (Nat.le_of_ble_eq_true rfl) (by omega) (by omega) (by omega) (fun w9 X9 h9 => ?_) (fun C9 X9 h9 => by cases h9.1)
  obtain ⟨h8, X1, hX1, rfl⟩ := h9
  cases h8
  obtain ⟨t', S', I', P', rfl, ht', hS, hm⟩ := hA X1 hX1
  dsimp only
  obtain ⟨J9, hJ9⟩ : ∃ J9 : mx_G, J9 = (if c = 0 then mx_upJ J (x + 291) 0 v.toInt64 else J) := ⟨_, rfl⟩
  rw [← hJ9]
  obtain ⟨w, hM, hw⟩ := hm J9
  refine mx_is5 d_law_1683 ?_
  refine mx_al2 d_law_1685 ?_
  refine mx_arg_1 d_law_1686 d_law_1687 d_law_1689 d_law_1690 d_law_1691 (by omega) hL ?_
  refine mx_callV (as := [.int (mx_xs E (i + 1))]) (c := 12) (k2 := k - 6) (n2 := n - 600) d_law_1692 hM ok_Mo_guestBest ml_Lw_233 hS.2 ⟨rfl, rfl⟩ rfl rfl (Nat.le_of_ble_eq_true rfl) (by omega) (by omega) (by omega) (fun w9 X9 h9 => ?_) (fun C9 X9 h9 => by cases h9.1)
  obtain ⟨h8, K, rfl, hK, hK0⟩ := h9
  cases h8
  exact lw_tail_i (p := 1695) d_law_1695 d_law_1697 d_law_1698 d_law_1701 d_law_1703 d_law_1708 d_law_1710 d_law_1713 d_law_1714 d_law_1715 d_law_1716 d_law_1718 d_law_1719 d_law_1720 d_law_1725 (by decide) hK.2.1.2.2.2.2.2.2.2.2.2.2.2.2.1 hK0 (by omega) hK.out.1 (fun z => by rw [hJ9, if_pos z, hw z]; simp [mx_upJ]) (by omega) (kk _ _ _ _ _ _ _ ht' hK)
theorem lc_ways (htr : l.stackTraces = false) (hi : i + 6 ≤ mx_L E) (hL : mx_L E ≤ 3072) (hd : 60 ≤ d) (hk : 6 ≤ k) (hn : 600 ≤ n) (h : al_ok t S I P x) (kk : ∀ t' S' I' P' J' o5' o6', t ≤ t' → al_ok t' S' I' P' x → mx_E l E M_law d (k - 6) (n - 600) 3184 (lw_ls E x i o5' o6') [] (t', S', I', P', J') Q) : mx_E l E M_law d k n 1728 (lw_ls E x i o5 o6) [] (t, S, I, P, J) Q := by
  refine mx_al1 d_law_1728 ?_
  obtain ⟨c, dd, v, A, ⟨hc, -⟩, hdd, hV, hA⟩ := op_ways (E := E) (x := x) htr  t S I P J h
  obtain rfl : c = 0 := by omega
  refine mx_callV (as := []) (c := 11) (k2 := k - 6) (n2 := n - 600) d_law_1729 hV ok_Vh_ways ml_Lw_234 h.2.1.1.1 ⟨rfl, rfl⟩ rfl rfl (Nat.le_of_ble_eq_true rfl) (by omega) (by omega) (by omega) (fun w9 X9 h9 => ?_) (fun C9 X9 h9 => by obtain ⟨-, ⟨-, h8⟩ | ⟨h8, -⟩⟩ := h9; (cases h8); exact absurd rfl h8)
  obtain ⟨hX1, ⟨-, h8⟩ | ⟨h8, -⟩⟩ := h9
  rotate_left
  · exact absurd rfl h8
  cases h8
  obtain ⟨t', S', I', P', rfl, ht', hS, hm⟩ := hA X9 hX1
  obtain ⟨w, hM, hw⟩ := hm J
  obtain rfl := hw rfl
  refine mx_al2 d_law_1732 ?_
  refine mx_callV (as := []) (c := 12) (k2 := k - 6) (n2 := n - 600) d_law_1733 hM ok_Mo_ways ml_Lw_237 hS.2 ⟨rfl, rfl⟩ rfl rfl (Nat.le_of_ble_eq_true rfl) (by omega) (by omega) (by omega) (fun w9 X9 h9 => ?_) (fun C9 X9 h9 => by cases h9.1)
  obtain ⟨h8, K, rfl, hK, hK0⟩ := h9
  cases h8
  exact mx_icmp_eq 3184 d_law_1736 (by decide) (fun _ => kk _ _ _ _ _ _ _ ht' hK) (fun c9 => absurd rfl c9)
theorem lc_rather (htr : l.stackTraces = false) (hi : i + 6 ≤ mx_L E) (hL : mx_L E ≤ 3072) (hd : 60 ≤ d) (hk : 6 ≤ k) (hn : 600 ≤ n) (h : al_ok t S I P x) (kk : ∀ t' S' I' P' J' o5' o6', t ≤ t' → al_ok t' S' I' P' x → mx_E l E M_law d (k - 6) (n - 600) 3184 (lw_ls E x i o5' o6') [] (t', S', I', P', J') Q) : mx_E l E M_law d k n 1741 (lw_ls E x i o5 o6) [] (t, S, I, P, J) Q := by
  refine mx_al1 d_law_1741 ?_
  refine mx_al3 d_law_1742 ?_
  obtain ⟨c, dd, v, A, ⟨hc, hz⟩, hdd, hV, hA⟩ := op_rather (E := E) (x := x) htr  t S I P J h
  refine mx_callSW (as := .ref x :: ([] ++ [.ref (x + 291)])) (k2 := k - 6) (n2 := n - 600) d_law_1743 (c_Lw_rather hV h.2.1.1.1 (fun X1 hX => by obtain ⟨t', S', I', P', rfl, -, hS, -⟩ := hA X1 hX; exact hS.1) (by omega)) ok_Lw_rather ml_Lw_238 rfl rfl (Nat.le_of_ble_eq_true rfl) (by omega) (by omega) (by omega) (fun w9 X9 h9 => ?_) (fun C9 X9 h9 => by cases h9.1)
  obtain ⟨h8, X1, hX1, rfl⟩ := h9
  cases h8
  obtain ⟨t', S', I', P', rfl, ht', hS, hm⟩ := hA X1 hX1
  dsimp only
  obtain ⟨J9, hJ9⟩ : ∃ J9 : mx_G, J9 = (if c = 0 then mx_upJ J (x + 291) 0 v.toInt64 else J) := ⟨_, rfl⟩
  rw [← hJ9]
  obtain ⟨w, hM, hw⟩ := hm J9
  refine mx_is5 d_law_1746 ?_
  refine mx_al2 d_law_1748 ?_
  refine mx_callV (as := []) (c := 12) (k2 := k - 6) (n2 := n - 600) d_law_1749 hM ok_Mo_rather ml_Lw_240 hS.2 ⟨rfl, rfl⟩ rfl rfl (Nat.le_of_ble_eq_true rfl) (by omega) (by omega) (by omega) (fun w9 X9 h9 => ?_) (fun C9 X9 h9 => by cases h9.1)
  obtain ⟨h8, K, rfl, hK, hK0⟩ := h9
  cases h8
  exact lw_tail_i (p := 1752) d_law_1752 d_law_1754 d_law_1755 d_law_1758 d_law_1760 d_law_1765 d_law_1767 d_law_1770 d_law_1771 d_law_1772 d_law_1773 d_law_1775 d_law_1776 d_law_1777 d_law_1782 (by decide) hK.2.1.2.2.2.2.2.2.2.2.2.2.2.2.1 hK0 (by omega) hK.out.1 (fun z => by rw [hJ9, if_pos z, hw z]; simp [mx_upJ]) (by omega) (kk _ _ _ _ _ _ _ ht' hK)
theorem lc_row (htr : l.stackTraces = false) (hi : i + 6 ≤ mx_L E) (hL : mx_L E ≤ 3072) (hd : 60 ≤ d) (hk : 6 ≤ k) (hn : 600 ≤ n) (h : al_ok t S I P x) (kk : ∀ t' S' I' P' J' o5' o6', t ≤ t' → al_ok t' S' I' P' x → mx_E l E M_law d (k - 6) (n - 600) 3184 (lw_ls E x i o5' o6') [] (t', S', I', P', J') Q) : mx_E l E M_law d k n 1785 (lw_ls E x i o5 o6) [] (t, S, I, P, J) Q := by
  refine mx_al1 d_law_1785 ?_
  refine mx_arg_1 d_law_1786 d_law_1787 d_law_1789 d_law_1790 d_law_1791 (by omega) hL ?_
  refine mx_arg_2 d_law_1792 d_law_1793 d_law_1795 d_law_1796 d_law_1797 (by omega) hL ?_
  refine mx_arg_3 d_law_1798 d_law_1799 d_law_1801 d_law_1802 d_law_1803 (by omega) hL ?_
  refine mx_nez d_law_1804 d_law_1807 d_law_1808 d_law_1811 (by decide) (by decide) ?_
  refine mx_al3 d_law_1812 ?_
  obtain ⟨c, dd, v, A, ⟨hc, hz⟩, hdd, hV, hA⟩ := op_row (E := E) (x := x) htr (v := (mx_xs E (i + 1))) (w := (mx_xs E (i + 2))) (b := !(decide (mx_xs E (i + 3) = 0))) t S I P J h
  refine mx_callSW (as := .ref x :: ([.int (mx_xs E (i + 1)), .int (mx_xs E (i + 2)), .int (bI (!(decide (mx_xs E (i + 3) = 0))))] ++ [.ref (x + 291)])) (k2 := k - 6) (n2 := n - 600) d_law_1813 (c_Lw_row hV h.2.1.1.1 (fun X1 hX => by obtain ⟨t', S', I', P', rfl, -, hS, -⟩ := hA X1 hX; exact hS.1) (by omega)) ok_Lw_row ml_Lw_241 rfl rfl (Nat.le_of_ble_eq_true rfl) (by omega) (by omega) (by omega) (fun w9 X9 h9 => ?_) (fun C9 X9 h9 => by cases h9.1)
  obtain ⟨h8, X1, hX1, rfl⟩ := h9
  cases h8
  obtain ⟨t', S', I', P', rfl, ht', hS, hm⟩ := hA X1 hX1
  dsimp only
  obtain ⟨J9, hJ9⟩ : ∃ J9 : mx_G, J9 = (if c = 0 then mx_upJ J (x + 291) 0 v.toInt64 else J) := ⟨_, rfl⟩
  rw [← hJ9]
  obtain ⟨w, hM, hw⟩ := hm J9
  refine mx_is5 d_law_1816 ?_
  refine mx_al2 d_law_1818 ?_
  refine mx_arg_1 d_law_1819 d_law_1820 d_law_1822 d_law_1823 d_law_1824 (by omega) hL ?_
  refine mx_arg_2 d_law_1825 d_law_1826 d_law_1828 d_law_1829 d_law_1830 (by omega) hL ?_
  refine mx_arg_3 d_law_1831 d_law_1832 d_law_1834 d_law_1835 d_law_1836 (by omega) hL ?_
  refine mx_nez d_law_1837 d_law_1840 d_law_1841 d_law_1844 (by decide) (by decide) ?_
  refine mx_callV (as := [.int (mx_xs E (i + 1)), .int (mx_xs E (i + 2)), .int (bI (!(decide (mx_xs E (i + 3) = 0))))]) (c := 12) (k2 := k - 6) (n2 := n - 600) d_law_1845 hM ok_Mo_row ml_Lw_243 hS.2 ⟨rfl, rfl⟩ rfl rfl (Nat.le_of_ble_eq_true rfl) (by omega) (by omega) (by omega) (fun w9 X9 h9 => ?_) (fun C9 X9 h9 => by cases h9.1)
  obtain ⟨h8, K, rfl, hK, hK0⟩ := h9
  cases h8
  exact lw_tail_i (p := 1848) d_law_1848 d_law_1850 d_law_1851 d_law_1854 d_law_1856 d_law_1861 d_law_1863 d_law_1866 d_law_1867 d_law_1868 d_law_1869 d_law_1871 d_law_1872 d_law_1873 d_law_1878 (by decide) hK.2.1.2.2.2.2.2.2.2.2.2.2.2.2.1 hK0 (by omega) hK.out.1 (fun z => by rw [hJ9, if_pos z, hw z]; simp [mx_upJ]) (by omega) (kk _ _ _ _ _ _ _ ht' hK)
theorem lc_afternoon (htr : l.stackTraces = false) (hi : i + 6 ≤ mx_L E) (hL : mx_L E ≤ 3072) (hd : 60 ≤ d) (hk : 6 ≤ k) (hn : 600 ≤ n) (h : al_ok t S I P x) (kk : ∀ t' S' I' P' J' o5' o6', t ≤ t' → al_ok t' S' I' P' x → mx_E l E M_law d (k - 6) (n - 600) 3184 (lw_ls E x i o5' o6') [] (t', S', I', P', J') Q) : mx_E l E M_law d k n 1881 (lw_ls E x i o5 o6) [] (t, S, I, P, J) Q := by
  refine mx_al1 d_law_1881 ?_
  refine mx_arg_1 d_law_1882 d_law_1883 d_law_1885 d_law_1886 d_law_1887 (by omega) hL ?_
  refine mx_arg_2 d_law_1888 d_law_1889 d_law_1891 d_law_1892 d_law_1893 (by omega) hL ?_
  refine mx_al3 d_law_1894 ?_
  obtain ⟨c, dd, v, A, ⟨hc, hz⟩, hdd, hV, hA⟩ := op_afternoon (E := E) (x := x) htr (v := (mx_xs E (i + 1))) (w := (mx_xs E (i + 2))) t S I P J h
  refine mx_callSW (as := .ref x :: ([.int (mx_xs E (i + 1)), .int (mx_xs E (i + 2))] ++ [.ref (x + 291)])) (k2 := k - 6) (n2 := n - 600) d_law_1895 (c_Lw_afternoon hV h.2.1.1.1 (fun X1 hX => by obtain ⟨t', S', I', P', rfl, -, hS, -⟩ := hA X1 hX; exact hS.1) (by omega)) ok_Lw_afternoon ml_Lw_244 rfl rfl (Nat.le_of_ble_eq_true rfl) (by omega) (by omega) (by omega) (fun w9 X9 h9 => ?_) (fun C9 X9 h9 => by cases h9.1)
  obtain ⟨h8, X1, hX1, rfl⟩ := h9
  cases h8
  obtain ⟨t', S', I', P', rfl, ht', hS, hm⟩ := hA X1 hX1
  dsimp only
  obtain ⟨J9, hJ9⟩ : ∃ J9 : mx_G, J9 = (if c = 0 then mx_upJ J (x + 291) 0 v.toInt64 else J) := ⟨_, rfl⟩
  rw [← hJ9]
  obtain ⟨w, hM, hw⟩ := hm J9
  refine mx_is5 d_law_1898 ?_
  refine mx_al2 d_law_1900 ?_
  refine mx_arg_1 d_law_1901 d_law_1902 d_law_1904 d_law_1905 d_law_1906 (by omega) hL ?_
  refine mx_arg_2 d_law_1907 d_law_1908 d_law_1910 d_law_1911 d_law_1912 (by omega) hL ?_
  refine mx_callV (as := [.int (mx_xs E (i + 1)), .int (mx_xs E (i + 2))]) (c := 12) (k2 := k - 6) (n2 := n - 600) d_law_1913 hM ok_Mo_afternoon ml_Lw_246 hS.2 ⟨rfl, rfl⟩ rfl rfl (Nat.le_of_ble_eq_true rfl) (by omega) (by omega) (by omega) (fun w9 X9 h9 => ?_) (fun C9 X9 h9 => by cases h9.1)
  obtain ⟨h8, K, rfl, hK, hK0⟩ := h9
  cases h8
  exact lw_tail_i (p := 1916) d_law_1916 d_law_1918 d_law_1919 d_law_1922 d_law_1924 d_law_1929 d_law_1931 d_law_1934 d_law_1935 d_law_1936 d_law_1937 d_law_1939 d_law_1940 d_law_1941 d_law_1946 (by decide) hK.2.1.2.2.2.2.2.2.2.2.2.2.2.2.1 hK0 (by omega) hK.out.1 (fun z => by rw [hJ9, if_pos z, hw z]; simp [mx_upJ]) (by omega) (kk _ _ _ _ _ _ _ ht' hK)
theorem lc_rules (htr : l.stackTraces = false) (hi : i + 6 ≤ mx_L E) (hL : mx_L E ≤ 3072) (hd : 60 ≤ d) (hk : 6 ≤ k) (hn : 600 ≤ n) (h : al_ok t S I P x) (kk : ∀ t' S' I' P' J' o5' o6', t ≤ t' → al_ok t' S' I' P' x → mx_E l E M_law d (k - 6) (n - 600) 3184 (lw_ls E x i o5' o6') [] (t', S', I', P', J') Q) : mx_E l E M_law d k n 1949 (lw_ls E x i o5 o6) [] (t, S, I, P, J) Q := by
  refine mx_al1 d_law_1949 ?_
  refine mx_arg_1 d_law_1950 d_law_1951 d_law_1953 d_law_1954 d_law_1955 (by omega) hL ?_
  refine mx_nez d_law_1956 d_law_1959 d_law_1960 d_law_1963 (by decide) (by decide) ?_
  refine mx_al3 d_law_1964 ?_
  obtain ⟨c, dd, v, A, ⟨hc, hz⟩, hdd, hV, hA⟩ := op_rules (E := E) (x := x) htr (b := !(decide (mx_xs E (i + 1) = 0))) t S I P J h
  refine mx_callSW (as := .ref x :: ([.int (bI (!(decide (mx_xs E (i + 1) = 0))))] ++ [.ref (x + 291)])) (k2 := k - 6) (n2 := n - 600) d_law_1965 (c_Lw_rules hV h.2.1.1.1 (fun X1 hX => by obtain ⟨t', S', I', P', rfl, -, hS, -⟩ := hA X1 hX; exact hS.1) (by omega)) ok_Lw_rules ml_Lw_247 rfl rfl (Nat.le_of_ble_eq_true rfl) (by omega) (by omega) (by omega) (fun w9 X9 h9 => ?_) (fun C9 X9 h9 => by cases h9.1)
  obtain ⟨h8, X1, hX1, rfl⟩ := h9
  cases h8
  obtain ⟨t', S', I', P', rfl, ht', hS, hm⟩ := hA X1 hX1
  dsimp only
  obtain ⟨J9, hJ9⟩ : ∃ J9 : mx_G, J9 = (if c = 0 then mx_upJ J (x + 291) 0 v.toInt64 else J) := ⟨_, rfl⟩
  rw [← hJ9]
  obtain ⟨w, hM, hw⟩ := hm J9
  refine mx_is5 d_law_1968 ?_
  refine mx_al2 d_law_1970 ?_
  refine mx_arg_1 d_law_1971 d_law_1972 d_law_1974 d_law_1975 d_law_1976 (by omega) hL ?_
  refine mx_nez d_law_1977 d_law_1980 d_law_1981 d_law_1984 (by decide) (by decide) ?_
  refine mx_callV (as := [.int (bI (!(decide (mx_xs E (i + 1) = 0))))]) (c := 12) (k2 := k - 6) (n2 := n - 600) d_law_1985 hM ok_Mo_rules ml_Lw_250 hS.2 ⟨rfl, rfl⟩ rfl rfl (Nat.le_of_ble_eq_true rfl) (by omega) (by omega) (by omega) (fun w9 X9 h9 => ?_) (fun C9 X9 h9 => by cases h9.1)
  obtain ⟨h8, K, rfl, hK, hK0⟩ := h9
  cases h8
  exact lw_tail_i (p := 1988) d_law_1988 d_law_1990 d_law_1991 d_law_1994 d_law_1996 d_law_2001 d_law_2003 d_law_2006 d_law_2007 d_law_2008 d_law_2009 d_law_2011 d_law_2012 d_law_2013 d_law_2018 (by decide) hK.2.1.2.2.2.2.2.2.2.2.2.2.2.2.1 hK0 (by omega) hK.out.1 (fun z => by rw [hJ9, if_pos z, hw z]; simp [mx_upJ]) (by omega) (kk _ _ _ _ _ _ _ ht' hK)
theorem lc_send (htr : l.stackTraces = false) (hi : i + 6 ≤ mx_L E) (hL : mx_L E ≤ 3072) (hd : 60 ≤ d) (hk : 6 ≤ k) (hn : 600 ≤ n) (h : al_ok t S I P x) (kk : ∀ t' S' I' P' J' o5' o6', t ≤ t' → al_ok t' S' I' P' x → mx_E l E M_law d (k - 6) (n - 600) 3184 (lw_ls E x i o5' o6') [] (t', S', I', P', J') Q) : mx_E l E M_law d k n 2021 (lw_ls E x i o5 o6) [] (t, S, I, P, J) Q := by
  refine mx_al1 d_law_2021 ?_
  refine mx_al3 d_law_2022 ?_
  obtain ⟨c, dd, v, A, ⟨hc, hz⟩, hdd, hV, hA⟩ := op_send (E := E) (x := x) htr  t S I P J h
  refine mx_callSW (as := .ref x :: ([] ++ [.ref (x + 291)])) (k2 := k - 6) (n2 := n - 600) d_law_2023 (c_Lw_send hV h.2.1.1.1 (fun X1 hX => by obtain ⟨t', S', I', P', rfl, -, hS, -⟩ := hA X1 hX; exact hS.1) (by omega)) ok_Lw_send ml_Lw_251 rfl rfl (Nat.le_of_ble_eq_true rfl) (by omega) (by omega) (by omega) (fun w9 X9 h9 => ?_) (fun C9 X9 h9 => by cases h9.1)
  obtain ⟨h8, X1, hX1, rfl⟩ := h9
  cases h8
  obtain ⟨t', S', I', P', rfl, ht', hS, hm⟩ := hA X1 hX1
  dsimp only
  obtain ⟨J9, hJ9⟩ : ∃ J9 : mx_G, J9 = (if c = 0 then mx_upJ J (x + 291) 0 v.toInt64 else J) := ⟨_, rfl⟩
  rw [← hJ9]
  obtain ⟨w, hM, hw⟩ := hm J9
  refine mx_is5 d_law_2026 ?_
  refine mx_al2 d_law_2028 ?_
  refine mx_callV (as := []) (c := 12) (k2 := k - 6) (n2 := n - 600) d_law_2029 hM ok_Mo_send ml_Lw_253 hS.2 ⟨rfl, rfl⟩ rfl rfl (Nat.le_of_ble_eq_true rfl) (by omega) (by omega) (by omega) (fun w9 X9 h9 => ?_) (fun C9 X9 h9 => by cases h9.1)
  obtain ⟨h8, K, rfl, hK, hK0⟩ := h9
  cases h8
  exact lw_tail_i (p := 2032) d_law_2032 d_law_2034 d_law_2035 d_law_2038 d_law_2040 d_law_2045 d_law_2047 d_law_2050 d_law_2051 d_law_2052 d_law_2053 d_law_2055 d_law_2056 d_law_2057 d_law_2062 (by decide) hK.2.1.2.2.2.2.2.2.2.2.2.2.2.2.1 hK0 (by omega) hK.out.1 (fun z => by rw [hJ9, if_pos z, hw z]; simp [mx_upJ]) (by omega) (kk _ _ _ _ _ _ _ ht' hK)
theorem lc_hand (htr : l.stackTraces = false) (hi : i + 6 ≤ mx_L E) (hL : mx_L E ≤ 3072) (hd : 60 ≤ d) (hk : 6 ≤ k) (hn : 600 ≤ n) (h : al_ok t S I P x) (kk : ∀ t' S' I' P' J' o5' o6', t ≤ t' → al_ok t' S' I' P' x → mx_E l E M_law d (k - 6) (n - 600) 3184 (lw_ls E x i o5' o6') [] (t', S', I', P', J') Q) : mx_E l E M_law d k n 2065 (lw_ls E x i o5 o6) [] (t, S, I, P, J) Q := by
  refine mx_al1 d_law_2065 ?_
  refine mx_arg_1 d_law_2066 d_law_2067 d_law_2069 d_law_2070 d_law_2071 (by omega) hL ?_
  refine mx_nez d_law_2072 d_law_2075 d_law_2076 d_law_2079 (by decide) (by decide) ?_
  refine mx_al3 d_law_2080 ?_
  obtain ⟨c, dd, v, A, ⟨hc, hz⟩, hdd, hV, hA⟩ := op_hand (E := E) (x := x) htr (b := !(decide (mx_xs E (i + 1) = 0))) t S I P J h
  refine mx_callSW (as := .ref x :: ([.int (bI (!(decide (mx_xs E (i + 1) = 0))))] ++ [.ref (x + 291)])) (k2 := k - 6) (n2 := n - 600) d_law_2081 (c_Lw_hand hV h.2.1.1.1 (fun X1 hX => by obtain ⟨t', S', I', P', rfl, -, hS, -⟩ := hA X1 hX; exact hS.1) (by omega)) ok_Lw_hand ml_Lw_254 rfl rfl (Nat.le_of_ble_eq_true rfl) (by omega) (by omega) (by omega) (fun w9 X9 h9 => ?_) (fun C9 X9 h9 => by cases h9.1)
  obtain ⟨h8, X1, hX1, rfl⟩ := h9
  cases h8
  obtain ⟨t', S', I', P', rfl, ht', hS, hm⟩ := hA X1 hX1
  dsimp only
  obtain ⟨J9, hJ9⟩ : ∃ J9 : mx_G, J9 = (if c = 0 then mx_upJ J (x + 291) 0 v.toInt64 else J) := ⟨_, rfl⟩
  rw [← hJ9]
  obtain ⟨w, hM, hw⟩ := hm J9
  refine mx_is5 d_law_2084 ?_
  refine mx_al2 d_law_2086 ?_
  refine mx_arg_1 d_law_2087 d_law_2088 d_law_2090 d_law_2091 d_law_2092 (by omega) hL ?_
  refine mx_nez d_law_2093 d_law_2096 d_law_2097 d_law_2100 (by decide) (by decide) ?_
  refine mx_callV (as := [.int (bI (!(decide (mx_xs E (i + 1) = 0))))]) (c := 12) (k2 := k - 6) (n2 := n - 600) d_law_2101 hM ok_Mo_hand ml_Lw_256 hS.2 ⟨rfl, rfl⟩ rfl rfl (Nat.le_of_ble_eq_true rfl) (by omega) (by omega) (by omega) (fun w9 X9 h9 => ?_) (fun C9 X9 h9 => by cases h9.1)
  obtain ⟨h8, K, rfl, hK, hK0⟩ := h9
  cases h8
  exact lw_tail_i (p := 2104) d_law_2104 d_law_2106 d_law_2107 d_law_2110 d_law_2112 d_law_2117 d_law_2119 d_law_2122 d_law_2123 d_law_2124 d_law_2125 d_law_2127 d_law_2128 d_law_2129 d_law_2134 (by decide) hK.2.1.2.2.2.2.2.2.2.2.2.2.2.2.1 hK0 (by omega) hK.out.1 (fun z => by rw [hJ9, if_pos z, hw z]; simp [mx_upJ]) (by omega) (kk _ _ _ _ _ _ _ ht' hK)
theorem lc_dry (htr : l.stackTraces = false) (hi : i + 6 ≤ mx_L E) (hL : mx_L E ≤ 3072) (hd : 60 ≤ d) (hk : 6 ≤ k) (hn : 600 ≤ n) (h : al_ok t S I P x) (kk : ∀ t' S' I' P' J' o5' o6', t ≤ t' → al_ok t' S' I' P' x → mx_E l E M_law d (k - 6) (n - 600) 3184 (lw_ls E x i o5' o6') [] (t', S', I', P', J') Q) : mx_E l E M_law d k n 2137 (lw_ls E x i o5 o6) [] (t, S, I, P, J) Q := by
  refine mx_al1 d_law_2137 ?_
  obtain ⟨c, dd, v, A, ⟨hc, -⟩, hdd, hV, hA⟩ := op_dry (E := E) (x := x) htr  t S I P J h
  obtain rfl : c = 0 := by omega
  refine mx_callV (as := []) (c := 11) (k2 := k - 6) (n2 := n - 600) d_law_2138 hV ok_Vh_dry ml_Lw_257 h.2.1.1.1 ⟨rfl, rfl⟩ rfl rfl (Nat.le_of_ble_eq_true rfl) (by omega) (by omega) (by omega) (fun w9 X9 h9 => ?_) (fun C9 X9 h9 => by obtain ⟨-, ⟨-, h8⟩ | ⟨h8, -⟩⟩ := h9; (cases h8); exact absurd rfl h8)
  obtain ⟨hX1, ⟨-, h8⟩ | ⟨h8, -⟩⟩ := h9
  rotate_left
  · exact absurd rfl h8
  cases h8
  obtain ⟨t', S', I', P', rfl, ht', hS, hm⟩ := hA X9 hX1
  obtain ⟨w, hM, hw⟩ := hm J
  obtain rfl := hw rfl
  refine mx_al2 d_law_2141 ?_
  refine mx_callV (as := []) (c := 12) (k2 := k - 6) (n2 := n - 600) d_law_2142 hM ok_Mo_dry ml_Lw_260 hS.2 ⟨rfl, rfl⟩ rfl rfl (Nat.le_of_ble_eq_true rfl) (by omega) (by omega) (by omega) (fun w9 X9 h9 => ?_) (fun C9 X9 h9 => by cases h9.1)
  obtain ⟨h8, K, rfl, hK, hK0⟩ := h9
  cases h8
  exact mx_icmp_eq 3184 d_law_2145 (by decide) (fun _ => kk _ _ _ _ _ _ _ ht' hK) (fun c9 => absurd rfl c9)
theorem lc_saved (htr : l.stackTraces = false) (hi : i + 6 ≤ mx_L E) (hL : mx_L E ≤ 3072) (hd : 60 ≤ d) (hk : 6 ≤ k) (hn : 600 ≤ n) (h : al_ok t S I P x) (kk : ∀ t' S' I' P' J' o5' o6', t ≤ t' → al_ok t' S' I' P' x → mx_E l E M_law d (k - 6) (n - 600) 3184 (lw_ls E x i o5' o6') [] (t', S', I', P', J') Q) : mx_E l E M_law d k n 2150 (lw_ls E x i o5 o6) [] (t, S, I, P, J) Q := by
  refine mx_al1 d_law_2150 ?_
  refine mx_arg_1 d_law_2151 d_law_2152 d_law_2154 d_law_2155 d_law_2156 (by omega) hL ?_
  refine mx_arg_2 d_law_2157 d_law_2158 d_law_2160 d_law_2161 d_law_2162 (by omega) hL ?_
  refine mx_al3 d_law_2163 ?_
  obtain ⟨c, dd, v, A, ⟨hc, hz⟩, hdd, hV, hA⟩ := op_saved (E := E) (x := x) htr (v := (mx_xs E (i + 1))) (w := (mx_xs E (i + 2))) t S I P J h
  refine mx_callSW (as := .ref x :: ([.int (mx_xs E (i + 1)), .int (mx_xs E (i + 2))] ++ [.ref (x + 291)])) (k2 := k - 6) (n2 := n - 600) d_law_2164 (c_Lw_saved hV h.2.1.1.1 (fun X1 hX => by obtain ⟨t', S', I', P', rfl, -, hS, -⟩ := hA X1 hX; exact hS.1) (by omega)) ok_Lw_saved ml_Lw_261 rfl rfl (Nat.le_of_ble_eq_true rfl) (by omega) (by omega) (by omega) (fun w9 X9 h9 => ?_) (fun C9 X9 h9 => by cases h9.1)
  obtain ⟨h8, X1, hX1, rfl⟩ := h9
  cases h8
  obtain ⟨t', S', I', P', rfl, ht', hS, hm⟩ := hA X1 hX1
  dsimp only
  obtain ⟨J9, hJ9⟩ : ∃ J9 : mx_G, J9 = (if c = 0 then mx_upJ J (x + 291) 0 v.toInt64 else J) := ⟨_, rfl⟩
  rw [← hJ9]
  obtain ⟨w, hM, hw⟩ := hm J9
  refine mx_is5 d_law_2167 ?_
  refine mx_al2 d_law_2169 ?_
  refine mx_arg_1 d_law_2170 d_law_2171 d_law_2173 d_law_2174 d_law_2175 (by omega) hL ?_
  refine mx_arg_2 d_law_2176 d_law_2177 d_law_2179 d_law_2180 d_law_2181 (by omega) hL ?_
  refine mx_callV (as := [.int (mx_xs E (i + 1)), .int (mx_xs E (i + 2))]) (c := 12) (k2 := k - 6) (n2 := n - 600) d_law_2182 hM ok_Mo_saved ml_Lw_263 hS.2 ⟨rfl, rfl⟩ rfl rfl (Nat.le_of_ble_eq_true rfl) (by omega) (by omega) (by omega) (fun w9 X9 h9 => ?_) (fun C9 X9 h9 => by cases h9.1)
  obtain ⟨h8, K, rfl, hK, hK0⟩ := h9
  cases h8
  exact lw_tail_i (p := 2185) d_law_2185 d_law_2187 d_law_2188 d_law_2191 d_law_2193 d_law_2198 d_law_2200 d_law_2203 d_law_2204 d_law_2205 d_law_2206 d_law_2208 d_law_2209 d_law_2210 d_law_2215 (by decide) hK.2.1.2.2.2.2.2.2.2.2.2.2.2.2.1 hK0 (by omega) hK.out.1 (fun z => by rw [hJ9, if_pos z, hw z]; simp [mx_upJ]) (by omega) (kk _ _ _ _ _ _ _ ht' hK)
theorem lc_lend (htr : l.stackTraces = false) (hi : i + 6 ≤ mx_L E) (hL : mx_L E ≤ 3072) (hd : 60 ≤ d) (hk : 6 ≤ k) (hn : 600 ≤ n) (h : al_ok t S I P x) (kk : ∀ t' S' I' P' J' o5' o6', t ≤ t' → al_ok t' S' I' P' x → mx_E l E M_law d (k - 6) (n - 600) 3184 (lw_ls E x i o5' o6') [] (t', S', I', P', J') Q) : mx_E l E M_law d k n 2218 (lw_ls E x i o5 o6) [] (t, S, I, P, J) Q := by
  refine mx_al1 d_law_2218 ?_
  refine mx_arg_1 d_law_2219 d_law_2220 d_law_2222 d_law_2223 d_law_2224 (by omega) hL ?_
  refine mx_al3 d_law_2225 ?_
  obtain ⟨c, dd, v, A, ⟨hc, hz⟩, hdd, hV, hA⟩ := op_lend (E := E) (x := x) htr (v := (mx_xs E (i + 1))) t S I P J h
  refine mx_callSW (as := .ref x :: ([.int (mx_xs E (i + 1))] ++ [.ref (x + 291)])) (k2 := k - 6) (n2 := n - 600) d_law_2226 (c_Lw_lend hV h.2.1.1.1 (fun X1 hX => by obtain ⟨t', S', I', P', rfl, -, hS, -⟩ := hA X1 hX; exact hS.1) (by omega)) ok_Lw_lend ml_Lw_264 rfl rfl (Nat.le_of_ble_eq_true rfl) (by omega) (by omega) (by omega) (fun w9 X9 h9 => ?_) (fun C9 X9 h9 => by cases h9.1)
  obtain ⟨h8, X1, hX1, rfl⟩ := h9
  cases h8
  obtain ⟨t', S', I', P', rfl, ht', hS, hm⟩ := hA X1 hX1
  dsimp only
  obtain ⟨J9, hJ9⟩ : ∃ J9 : mx_G, J9 = (if c = 0 then mx_upJ J (x + 291) 0 v.toInt64 else J) := ⟨_, rfl⟩
  rw [← hJ9]
  obtain ⟨w, hM, hw⟩ := hm J9
  refine mx_is5 d_law_2229 ?_
  refine mx_al2 d_law_2231 ?_
  refine mx_arg_1 d_law_2232 d_law_2233 d_law_2235 d_law_2236 d_law_2237 (by omega) hL ?_
  refine mx_callV (as := [.int (mx_xs E (i + 1))]) (c := 12) (k2 := k - 6) (n2 := n - 600) d_law_2238 hM ok_Mo_lend ml_Lw_266 hS.2 ⟨rfl, rfl⟩ rfl rfl (Nat.le_of_ble_eq_true rfl) (by omega) (by omega) (by omega) (fun w9 X9 h9 => ?_) (fun C9 X9 h9 => by cases h9.1)
  obtain ⟨h8, K, rfl, hK, hK0⟩ := h9
  cases h8
  exact lw_tail_i (p := 2241) d_law_2241 d_law_2243 d_law_2244 d_law_2247 d_law_2249 d_law_2254 d_law_2256 d_law_2259 d_law_2260 d_law_2261 d_law_2262 d_law_2264 d_law_2265 d_law_2266 d_law_2271 (by decide) hK.2.1.2.2.2.2.2.2.2.2.2.2.2.2.1 hK0 (by omega) hK.out.1 (fun z => by rw [hJ9, if_pos z, hw z]; simp [mx_upJ]) (by omega) (kk _ _ _ _ _ _ _ ht' hK)
theorem lc_odds (htr : l.stackTraces = false) (hi : i + 6 ≤ mx_L E) (hL : mx_L E ≤ 3072) (hd : 60 ≤ d) (hk : 6 ≤ k) (hn : 600 ≤ n) (h : al_ok t S I P x) (kk : ∀ t' S' I' P' J' o5' o6', t ≤ t' → al_ok t' S' I' P' x → mx_E l E M_law d (k - 6) (n - 600) 3184 (lw_ls E x i o5' o6') [] (t', S', I', P', J') Q) : mx_E l E M_law d k n 2274 (lw_ls E x i o5 o6) [] (t, S, I, P, J) Q := by
  refine mx_al1 d_law_2274 ?_
  refine mx_arg_1 d_law_2275 d_law_2276 d_law_2278 d_law_2279 d_law_2280 (by omega) hL ?_
  refine mx_arg_2 d_law_2281 d_law_2282 d_law_2284 d_law_2285 d_law_2286 (by omega) hL ?_
  refine mx_al3 d_law_2287 ?_
  obtain ⟨c, dd, v, A, ⟨hc, hz⟩, hdd, hV, hA⟩ := op_odds (E := E) (x := x) htr (v := (mx_xs E (i + 1))) (w := (mx_xs E (i + 2))) t S I P J h
  refine mx_callSW (as := .ref x :: ([.int (mx_xs E (i + 1)), .int (mx_xs E (i + 2))] ++ [.ref (x + 291)])) (k2 := k - 6) (n2 := n - 600) d_law_2288 (c_Lw_odds hV h.2.1.1.1 (fun X1 hX => by obtain ⟨t', S', I', P', rfl, -, hS, -⟩ := hA X1 hX; exact hS.1) (by omega)) ok_Lw_odds ml_Lw_267 rfl rfl (Nat.le_of_ble_eq_true rfl) (by omega) (by omega) (by omega) (fun w9 X9 h9 => ?_) (fun C9 X9 h9 => by cases h9.1)
  obtain ⟨h8, X1, hX1, rfl⟩ := h9
  cases h8
  obtain ⟨t', S', I', P', rfl, ht', hS, hm⟩ := hA X1 hX1
  dsimp only
  obtain ⟨J9, hJ9⟩ : ∃ J9 : mx_G, J9 = (if c = 0 then mx_upJ J (x + 291) 0 v.toInt64 else J) := ⟨_, rfl⟩
  rw [← hJ9]
  obtain ⟨w, hM, hw⟩ := hm J9
  refine mx_is5 d_law_2291 ?_
  refine mx_al2 d_law_2293 ?_
  refine mx_arg_1 d_law_2294 d_law_2295 d_law_2297 d_law_2298 d_law_2299 (by omega) hL ?_
  refine mx_arg_2 d_law_2300 d_law_2301 d_law_2303 d_law_2304 d_law_2305 (by omega) hL ?_
  refine mx_callV (as := [.int (mx_xs E (i + 1)), .int (mx_xs E (i + 2))]) (c := 12) (k2 := k - 6) (n2 := n - 600) d_law_2306 hM ok_Mo_odds ml_Lw_269 hS.2 ⟨rfl, rfl⟩ rfl rfl (Nat.le_of_ble_eq_true rfl) (by omega) (by omega) (by omega) (fun w9 X9 h9 => ?_) (fun C9 X9 h9 => by cases h9.1)
  obtain ⟨h8, K, rfl, hK, hK0⟩ := h9
  cases h8
  exact lw_tail_i (p := 2309) d_law_2309 d_law_2311 d_law_2312 d_law_2315 d_law_2317 d_law_2322 d_law_2324 d_law_2327 d_law_2328 d_law_2329 d_law_2330 d_law_2332 d_law_2333 d_law_2334 d_law_2339 (by decide) hK.2.1.2.2.2.2.2.2.2.2.2.2.2.2.1 hK0 (by omega) hK.out.1 (fun z => by rw [hJ9, if_pos z, hw z]; simp [mx_upJ]) (by omega) (kk _ _ _ _ _ _ _ ht' hK)
theorem lc_waits (htr : l.stackTraces = false) (hi : i + 6 ≤ mx_L E) (hL : mx_L E ≤ 3072) (hd : 60 ≤ d) (hk : 6 ≤ k) (hn : 600 ≤ n) (h : al_ok t S I P x) (kk : ∀ t' S' I' P' J' o5' o6', t ≤ t' → al_ok t' S' I' P' x → mx_E l E M_law d (k - 6) (n - 600) 3184 (lw_ls E x i o5' o6') [] (t', S', I', P', J') Q) : mx_E l E M_law d k n 2342 (lw_ls E x i o5 o6) [] (t, S, I, P, J) Q := by
  refine mx_al1 d_law_2342 ?_
  refine mx_arg_1 d_law_2343 d_law_2344 d_law_2346 d_law_2347 d_law_2348 (by omega) hL ?_
  refine mx_arg_2 d_law_2349 d_law_2350 d_law_2352 d_law_2353 d_law_2354 (by omega) hL ?_
  refine mx_al3 d_law_2355 ?_
  obtain ⟨c, dd, v, A, ⟨hc, hz⟩, hdd, hV, hA⟩ := op_waits (E := E) (x := x) htr (v := (mx_xs E (i + 1))) (u := (mx_xs E (i + 2))) t S I P J h
  refine mx_callSW (as := .ref x :: ([.int (mx_xs E (i + 1)), .int (mx_xs E (i + 2))] ++ [.ref (x + 291)])) (k2 := k - 6) (n2 := n - 600) d_law_2356 (c_Lw_waits hV h.2.1.1.1 (fun X1 hX => by obtain ⟨t', S', I', P', rfl, -, hS, -⟩ := hA X1 hX; exact hS.1) (by omega)) ok_Lw_waits ml_Lw_270 rfl rfl (Nat.le_of_ble_eq_true rfl) (by omega) (by omega) (by omega) (fun w9 X9 h9 => ?_) (fun C9 X9 h9 => by cases h9.1)
  obtain ⟨h8, X1, hX1, rfl⟩ := h9
  cases h8
  obtain ⟨t', S', I', P', rfl, ht', hS, hm⟩ := hA X1 hX1
  dsimp only
  obtain ⟨J9, hJ9⟩ : ∃ J9 : mx_G, J9 = (if c = 0 then mx_upJ J (x + 291) 0 v.toInt64 else J) := ⟨_, rfl⟩
  rw [← hJ9]
  obtain ⟨w, hM, hw⟩ := hm J9
  refine mx_is5 d_law_2359 ?_
  refine mx_al2 d_law_2361 ?_
  refine mx_arg_1 d_law_2362 d_law_2363 d_law_2365 d_law_2366 d_law_2367 (by omega) hL ?_
  refine mx_arg_2 d_law_2368 d_law_2369 d_law_2371 d_law_2372 d_law_2373 (by omega) hL ?_
  refine mx_callV (as := [.int (mx_xs E (i + 1)), .int (mx_xs E (i + 2))]) (c := 12) (k2 := k - 6) (n2 := n - 600) d_law_2374 hM ok_Mo_waits ml_Lw_272 hS.2 ⟨rfl, rfl⟩ rfl rfl (Nat.le_of_ble_eq_true rfl) (by omega) (by omega) (by omega) (fun w9 X9 h9 => ?_) (fun C9 X9 h9 => by cases h9.1)
  obtain ⟨h8, K, rfl, hK, hK0⟩ := h9
  cases h8
  exact lw_tail_i (p := 2377) d_law_2377 d_law_2379 d_law_2380 d_law_2383 d_law_2385 d_law_2390 d_law_2392 d_law_2395 d_law_2396 d_law_2397 d_law_2398 d_law_2400 d_law_2401 d_law_2402 d_law_2407 (by decide) hK.2.1.2.2.2.2.2.2.2.2.2.2.2.2.1 hK0 (by omega) hK.out.1 (fun z => by rw [hJ9, if_pos z, hw z]; simp [mx_upJ]) (by omega) (kk _ _ _ _ _ _ _ ht' hK)
theorem lc_treaty (htr : l.stackTraces = false) (hi : i + 6 ≤ mx_L E) (hL : mx_L E ≤ 3072) (hd : 60 ≤ d) (hk : 6 ≤ k) (hn : 600 ≤ n) (h : al_ok t S I P x) (kk : ∀ t' S' I' P' J' o5' o6', t ≤ t' → al_ok t' S' I' P' x → mx_E l E M_law d (k - 6) (n - 600) 3184 (lw_ls E x i o5' o6') [] (t', S', I', P', J') Q) : mx_E l E M_law d k n 2410 (lw_ls E x i o5 o6) [] (t, S, I, P, J) Q := by
  refine mx_al1 d_law_2410 ?_
  refine mx_arg_1 d_law_2411 d_law_2412 d_law_2414 d_law_2415 d_law_2416 (by omega) hL ?_
  refine mx_arg_2 d_law_2417 d_law_2418 d_law_2420 d_law_2421 d_law_2422 (by omega) hL ?_
  refine mx_al3 d_law_2423 ?_
  obtain ⟨c, dd, v, A, ⟨hc, hz⟩, hdd, hV, hA⟩ := op_treaty (E := E) (x := x) htr (v := (mx_xs E (i + 1))) (w := (mx_xs E (i + 2))) t S I P J h
  refine mx_callSW (as := .ref x :: ([.int (mx_xs E (i + 1)), .int (mx_xs E (i + 2))] ++ [.ref (x + 291)])) (k2 := k - 6) (n2 := n - 600) d_law_2424 (c_Lw_treaty hV h.2.1.1.1 (fun X1 hX => by obtain ⟨t', S', I', P', rfl, -, hS, -⟩ := hA X1 hX; exact hS.1) (by omega)) ok_Lw_treaty ml_Lw_273 rfl rfl (Nat.le_of_ble_eq_true rfl) (by omega) (by omega) (by omega) (fun w9 X9 h9 => ?_) (fun C9 X9 h9 => by cases h9.1)
  obtain ⟨h8, X1, hX1, rfl⟩ := h9
  cases h8
  obtain ⟨t', S', I', P', rfl, ht', hS, hm⟩ := hA X1 hX1
  dsimp only
  obtain ⟨J9, hJ9⟩ : ∃ J9 : mx_G, J9 = (if c = 0 then mx_upJ J (x + 291) 0 v.toInt64 else J) := ⟨_, rfl⟩
  rw [← hJ9]
  obtain ⟨w, hM, hw⟩ := hm J9
  refine mx_is5 d_law_2427 ?_
  refine mx_al2 d_law_2429 ?_
  refine mx_arg_1 d_law_2430 d_law_2431 d_law_2433 d_law_2434 d_law_2435 (by omega) hL ?_
  refine mx_arg_2 d_law_2436 d_law_2437 d_law_2439 d_law_2440 d_law_2441 (by omega) hL ?_
  refine mx_callV (as := [.int (mx_xs E (i + 1)), .int (mx_xs E (i + 2))]) (c := 12) (k2 := k - 6) (n2 := n - 600) d_law_2442 hM ok_Mo_treaty ml_Lw_275 hS.2 ⟨rfl, rfl⟩ rfl rfl (Nat.le_of_ble_eq_true rfl) (by omega) (by omega) (by omega) (fun w9 X9 h9 => ?_) (fun C9 X9 h9 => by cases h9.1)
  obtain ⟨h8, K, rfl, hK, hK0⟩ := h9
  cases h8
  exact lw_tail_i (p := 2445) d_law_2445 d_law_2447 d_law_2448 d_law_2451 d_law_2453 d_law_2458 d_law_2460 d_law_2463 d_law_2464 d_law_2465 d_law_2466 d_law_2468 d_law_2469 d_law_2470 d_law_2475 (by decide) hK.2.1.2.2.2.2.2.2.2.2.2.2.2.2.1 hK0 (by omega) hK.out.1 (fun z => by rw [hJ9, if_pos z, hw z]; simp [mx_upJ]) (by omega) (kk _ _ _ _ _ _ _ ht' hK)
theorem lc_rests (htr : l.stackTraces = false) (hi : i + 6 ≤ mx_L E) (hL : mx_L E ≤ 3072) (hd : 60 ≤ d) (hk : 6 ≤ k) (hn : 600 ≤ n) (h : al_ok t S I P x) (kk : ∀ t' S' I' P' J' o5' o6', t ≤ t' → al_ok t' S' I' P' x → mx_E l E M_law d (k - 6) (n - 600) 3184 (lw_ls E x i o5' o6') [] (t', S', I', P', J') Q) : mx_E l E M_law d k n 2478 (lw_ls E x i o5 o6) [] (t, S, I, P, J) Q := by
  refine mx_al1 d_law_2478 ?_
  refine mx_arg_1 d_law_2479 d_law_2480 d_law_2482 d_law_2483 d_law_2484 (by omega) hL ?_
  refine mx_arg_2 d_law_2485 d_law_2486 d_law_2488 d_law_2489 d_law_2490 (by omega) hL ?_
  refine mx_al3 d_law_2491 ?_
  obtain ⟨c, dd, v, A, ⟨hc, hz⟩, hdd, hV, hA⟩ := op_rests (E := E) (x := x) htr (v := (mx_xs E (i + 1))) (w := (mx_xs E (i + 2))) t S I P J h
  refine mx_callSW (as := .ref x :: ([.int (mx_xs E (i + 1)), .int (mx_xs E (i + 2))] ++ [.ref (x + 291)])) (k2 := k - 6) (n2 := n - 600) d_law_2492 (c_Lw_rests hV h.2.1.1.1 (fun X1 hX => by obtain ⟨t', S', I', P', rfl, -, hS, -⟩ := hA X1 hX; exact hS.1) (by omega)) ok_Lw_rests ml_Lw_276 rfl rfl (Nat.le_of_ble_eq_true rfl) (by omega) (by omega) (by omega) (fun w9 X9 h9 => ?_) (fun C9 X9 h9 => by cases h9.1)
  obtain ⟨h8, X1, hX1, rfl⟩ := h9
  cases h8
  obtain ⟨t', S', I', P', rfl, ht', hS, hm⟩ := hA X1 hX1
  dsimp only
  obtain ⟨J9, hJ9⟩ : ∃ J9 : mx_G, J9 = (if c = 0 then mx_upJ J (x + 291) 0 v.toInt64 else J) := ⟨_, rfl⟩
  rw [← hJ9]
  obtain ⟨w, hM, hw⟩ := hm J9
  refine mx_is5 d_law_2495 ?_
  refine mx_al2 d_law_2497 ?_
  refine mx_arg_1 d_law_2498 d_law_2499 d_law_2501 d_law_2502 d_law_2503 (by omega) hL ?_
  refine mx_arg_2 d_law_2504 d_law_2505 d_law_2507 d_law_2508 d_law_2509 (by omega) hL ?_
  refine mx_callV (as := [.int (mx_xs E (i + 1)), .int (mx_xs E (i + 2))]) (c := 12) (k2 := k - 6) (n2 := n - 600) d_law_2510 hM ok_Mo_rests ml_Lw_278 hS.2 ⟨rfl, rfl⟩ rfl rfl (Nat.le_of_ble_eq_true rfl) (by omega) (by omega) (by omega) (fun w9 X9 h9 => ?_) (fun C9 X9 h9 => by cases h9.1)
  obtain ⟨h8, K, rfl, hK, hK0⟩ := h9
  cases h8
  exact lw_tail_i (p := 2513) d_law_2513 d_law_2515 d_law_2516 d_law_2519 d_law_2521 d_law_2526 d_law_2528 d_law_2531 d_law_2532 d_law_2533 d_law_2534 d_law_2536 d_law_2537 d_law_2538 d_law_2543 (by decide) hK.2.1.2.2.2.2.2.2.2.2.2.2.2.2.1 hK0 (by omega) hK.out.1 (fun z => by rw [hJ9, if_pos z, hw z]; simp [mx_upJ]) (by omega) (kk _ _ _ _ _ _ _ ht' hK)
theorem lc_dearest (htr : l.stackTraces = false) (hi : i + 6 ≤ mx_L E) (hL : mx_L E ≤ 3072) (hd : 60 ≤ d) (hk : 6 ≤ k) (hn : 600 ≤ n) (h : al_ok t S I P x) (kk : ∀ t' S' I' P' J' o5' o6', t ≤ t' → al_ok t' S' I' P' x → mx_E l E M_law d (k - 6) (n - 600) 3184 (lw_ls E x i o5' o6') [] (t', S', I', P', J') Q) : mx_E l E M_law d k n 2546 (lw_ls E x i o5 o6) [] (t, S, I, P, J) Q := by
  refine mx_al1 d_law_2546 ?_
  obtain ⟨c, dd, v, A, ⟨hc, -⟩, hdd, hV, hA⟩ := op_dearest (E := E) (x := x) htr  t S I P J h
  obtain rfl : c = 0 := by omega
  refine mx_callV (as := []) (c := 11) (k2 := k - 6) (n2 := n - 600) d_law_2547 hV ok_Vh_dearest ml_Lw_279 h.2.1.1.1 ⟨rfl, rfl⟩ rfl rfl (Nat.le_of_ble_eq_true rfl) (by omega) (by omega) (by omega) (fun w9 X9 h9 => ?_) (fun C9 X9 h9 => by obtain ⟨-, ⟨-, h8⟩ | ⟨h8, -⟩⟩ := h9; (cases h8); exact absurd rfl h8)
  obtain ⟨hX1, ⟨-, h8⟩ | ⟨h8, -⟩⟩ := h9
  rotate_left
  · exact absurd rfl h8
  cases h8
  obtain ⟨t', S', I', P', rfl, ht', hS, hm⟩ := hA X9 hX1
  obtain ⟨w, hM, hw⟩ := hm J
  obtain rfl := hw rfl
  refine mx_al2 d_law_2550 ?_
  refine mx_callV (as := []) (c := 12) (k2 := k - 6) (n2 := n - 600) d_law_2551 hM ok_Mo_dearest ml_Lw_282 hS.2 ⟨rfl, rfl⟩ rfl rfl (Nat.le_of_ble_eq_true rfl) (by omega) (by omega) (by omega) (fun w9 X9 h9 => ?_) (fun C9 X9 h9 => by cases h9.1)
  obtain ⟨h8, K, rfl, hK, hK0⟩ := h9
  cases h8
  exact mx_icmp_eq 3184 d_law_2554 (by decide) (fun _ => kk _ _ _ _ _ _ _ ht' hK) (fun c9 => absurd rfl c9)
theorem lc_forlorn (htr : l.stackTraces = false) (hi : i + 6 ≤ mx_L E) (hL : mx_L E ≤ 3072) (hd : 60 ≤ d) (hk : 6 ≤ k) (hn : 600 ≤ n) (h : al_ok t S I P x) (kk : ∀ t' S' I' P' J' o5' o6', t ≤ t' → al_ok t' S' I' P' x → mx_E l E M_law d (k - 6) (n - 600) 3184 (lw_ls E x i o5' o6') [] (t', S', I', P', J') Q) : mx_E l E M_law d k n 2559 (lw_ls E x i o5 o6) [] (t, S, I, P, J) Q := by
  refine mx_al1 d_law_2559 ?_
  obtain ⟨c, dd, v, A, ⟨hc, -⟩, hdd, hV, hA⟩ := op_forlorn (E := E) (x := x) htr  t S I P J h
  obtain rfl : c = 0 := by omega
  refine mx_callV (as := []) (c := 11) (k2 := k - 6) (n2 := n - 600) d_law_2560 hV ok_Vh_forlorn ml_Lw_283 h.2.1.1.1 ⟨rfl, rfl⟩ rfl rfl (Nat.le_of_ble_eq_true rfl) (by omega) (by omega) (by omega) (fun w9 X9 h9 => ?_) (fun C9 X9 h9 => by obtain ⟨-, ⟨-, h8⟩ | ⟨h8, -⟩⟩ := h9; (cases h8); exact absurd rfl h8)
  obtain ⟨hX1, ⟨-, h8⟩ | ⟨h8, -⟩⟩ := h9
  rotate_left
  · exact absurd rfl h8
  cases h8
  obtain ⟨t', S', I', P', rfl, ht', hS, hm⟩ := hA X9 hX1
  obtain ⟨w, hM, hw⟩ := hm J
  obtain rfl := hw rfl
  refine mx_al2 d_law_2563 ?_
  refine mx_callV (as := []) (c := 12) (k2 := k - 6) (n2 := n - 600) d_law_2564 hM ok_Mo_forlorn ml_Lw_286 hS.2 ⟨rfl, rfl⟩ rfl rfl (Nat.le_of_ble_eq_true rfl) (by omega) (by omega) (by omega) (fun w9 X9 h9 => ?_) (fun C9 X9 h9 => by cases h9.1)
  obtain ⟨h8, K, rfl, hK, hK0⟩ := h9
  cases h8
  exact mx_icmp_eq 3184 d_law_2567 (by decide) (fun _ => kk _ _ _ _ _ _ _ ht' hK) (fun c9 => absurd rfl c9)
theorem lc_alike (htr : l.stackTraces = false) (hi : i + 6 ≤ mx_L E) (hL : mx_L E ≤ 3072) (hd : 60 ≤ d) (hk : 6 ≤ k) (hn : 600 ≤ n) (h : al_ok t S I P x) (kk : ∀ t' S' I' P' J' o5' o6', t ≤ t' → al_ok t' S' I' P' x → mx_E l E M_law d (k - 6) (n - 600) 3184 (lw_ls E x i o5' o6') [] (t', S', I', P', J') Q) : mx_E l E M_law d k n 2572 (lw_ls E x i o5 o6) [] (t, S, I, P, J) Q := by
  refine mx_al1 d_law_2572 ?_
  obtain ⟨c, dd, v, A, ⟨hc, -⟩, hdd, hV, hA⟩ := op_alike (E := E) (x := x) htr  t S I P J h
  obtain rfl : c = 0 := by omega
  refine mx_callV (as := []) (c := 11) (k2 := k - 6) (n2 := n - 600) d_law_2573 hV ok_Vh_alike ml_Lw_287 h.2.1.1.1 ⟨rfl, rfl⟩ rfl rfl (Nat.le_of_ble_eq_true rfl) (by omega) (by omega) (by omega) (fun w9 X9 h9 => ?_) (fun C9 X9 h9 => by obtain ⟨-, ⟨-, h8⟩ | ⟨h8, -⟩⟩ := h9; (cases h8); exact absurd rfl h8)
  obtain ⟨hX1, ⟨-, h8⟩ | ⟨h8, -⟩⟩ := h9
  rotate_left
  · exact absurd rfl h8
  cases h8
  obtain ⟨t', S', I', P', rfl, ht', hS, hm⟩ := hA X9 hX1
  obtain ⟨w, hM, hw⟩ := hm J
  obtain rfl := hw rfl
  refine mx_al2 d_law_2576 ?_
  refine mx_callV (as := []) (c := 12) (k2 := k - 6) (n2 := n - 600) d_law_2577 hM ok_Mo_alike ml_Lw_290 hS.2 ⟨rfl, rfl⟩ rfl rfl (Nat.le_of_ble_eq_true rfl) (by omega) (by omega) (by omega) (fun w9 X9 h9 => ?_) (fun C9 X9 h9 => by cases h9.1)
  obtain ⟨h8, K, rfl, hK, hK0⟩ := h9
  cases h8
  exact mx_icmp_eq 3184 d_law_2580 (by decide) (fun _ => kk _ _ _ _ _ _ _ ht' hK) (fun c9 => absurd rfl c9)
theorem lc_settle (htr : l.stackTraces = false) (hi : i + 6 ≤ mx_L E) (hL : mx_L E ≤ 3072) (hd : 60 ≤ d) (hk : 6 ≤ k) (hn : 600 ≤ n) (h : al_ok t S I P x) (kk : ∀ t' S' I' P' J' o5' o6', t ≤ t' → al_ok t' S' I' P' x → mx_E l E M_law d (k - 6) (n - 600) 3184 (lw_ls E x i o5' o6') [] (t', S', I', P', J') Q) : mx_E l E M_law d k n 2585 (lw_ls E x i o5 o6) [] (t, S, I, P, J) Q := by
  refine mx_al1 d_law_2585 ?_
  refine mx_arg_1 d_law_2586 d_law_2587 d_law_2589 d_law_2590 d_law_2591 (by omega) hL ?_
  refine mx_al3 d_law_2592 ?_
  obtain ⟨c, dd, v, A, ⟨hc, hz⟩, hdd, hV, hA⟩ := op_settle (E := E) (x := x) htr (v := (mx_xs E (i + 1))) t S I P J h
  refine mx_callSW (as := .ref x :: ([.int (mx_xs E (i + 1))] ++ [.ref (x + 291)])) (k2 := k - 6) (n2 := n - 600) d_law_2593 (c_Lw_settle hV h.2.1.1.1 (fun X1 hX => by obtain ⟨t', S', I', P', rfl, -, hS, -⟩ := hA X1 hX; exact hS.1) (by omega)) ok_Lw_settle ml_Lw_291 rfl rfl (Nat.le_of_ble_eq_true rfl) (by omega) (by omega) (by omega) (fun w9 X9 h9 => ?_) (fun C9 X9 h9 => by cases h9.1)
  obtain ⟨h8, X1, hX1, rfl⟩ := h9
  cases h8
  obtain ⟨t', S', I', P', rfl, ht', hS, hm⟩ := hA X1 hX1
  dsimp only
  obtain ⟨J9, hJ9⟩ : ∃ J9 : mx_G, J9 = (if c = 0 then mx_upJ J (x + 291) 0 v.toInt64 else J) := ⟨_, rfl⟩
  rw [← hJ9]
  obtain ⟨w, hM, hw⟩ := hm J9
  refine mx_is5 d_law_2596 ?_
  refine mx_al2 d_law_2598 ?_
  refine mx_arg_1 d_law_2599 d_law_2600 d_law_2602 d_law_2603 d_law_2604 (by omega) hL ?_
  refine mx_callV (as := [.int (mx_xs E (i + 1))]) (c := 12) (k2 := k - 6) (n2 := n - 600) d_law_2605 hM ok_Mo_settle ml_Lw_293 hS.2 ⟨rfl, rfl⟩ rfl rfl (Nat.le_of_ble_eq_true rfl) (by omega) (by omega) (by omega) (fun w9 X9 h9 => ?_) (fun C9 X9 h9 => by cases h9.1)
  obtain ⟨h8, K, rfl, hK, hK0⟩ := h9
  cases h8
  exact lw_tail_i (p := 2608) d_law_2608 d_law_2610 d_law_2611 d_law_2614 d_law_2616 d_law_2621 d_law_2623 d_law_2626 d_law_2627 d_law_2628 d_law_2629 d_law_2631 d_law_2632 d_law_2633 d_law_2638 (by decide) hK.2.1.2.2.2.2.2.2.2.2.2.2.2.2.1 hK0 (by omega) hK.out.1 (fun z => by rw [hJ9, if_pos z, hw z]; simp [mx_upJ]) (by omega) (kk _ _ _ _ _ _ _ ht' hK)
theorem lc_gladder (htr : l.stackTraces = false) (hi : i + 6 ≤ mx_L E) (hL : mx_L E ≤ 3072) (hd : 60 ≤ d) (hk : 6 ≤ k) (hn : 600 ≤ n) (h : al_ok t S I P x) (kk : ∀ t' S' I' P' J' o5' o6', t ≤ t' → al_ok t' S' I' P' x → mx_E l E M_law d (k - 6) (n - 600) 3184 (lw_ls E x i o5' o6') [] (t', S', I', P', J') Q) : mx_E l E M_law d k n 2641 (lw_ls E x i o5 o6) [] (t, S, I, P, J) Q := by
  refine mx_al1 d_law_2641 ?_
  refine mx_arg_1 d_law_2642 d_law_2643 d_law_2645 d_law_2646 d_law_2647 (by omega) hL ?_
  refine mx_al3 d_law_2648 ?_
  obtain ⟨c, dd, v, A, ⟨hc, hz⟩, hdd, hV, hA⟩ := op_gladder (E := E) (x := x) htr (v := (mx_xs E (i + 1))) t S I P J h
  refine mx_callSW (as := .ref x :: ([.int (mx_xs E (i + 1))] ++ [.ref (x + 291)])) (k2 := k - 6) (n2 := n - 600) d_law_2649 (c_Lw_gladder hV h.2.1.1.1 (fun X1 hX => by obtain ⟨t', S', I', P', rfl, -, hS, -⟩ := hA X1 hX; exact hS.1) (by omega)) ok_Lw_gladder ml_Lw_294 rfl rfl (Nat.le_of_ble_eq_true rfl) (by omega) (by omega) (by omega) (fun w9 X9 h9 => ?_) (fun C9 X9 h9 => by cases h9.1)
  obtain ⟨h8, X1, hX1, rfl⟩ := h9
  cases h8
  obtain ⟨t', S', I', P', rfl, ht', hS, hm⟩ := hA X1 hX1
  dsimp only
  obtain ⟨J9, hJ9⟩ : ∃ J9 : mx_G, J9 = (if c = 0 then mx_upJ J (x + 291) 0 v.toInt64 else J) := ⟨_, rfl⟩
  rw [← hJ9]
  obtain ⟨w, hM, hw⟩ := hm J9
  refine mx_is5 d_law_2652 ?_
  refine mx_al2 d_law_2654 ?_
  refine mx_arg_1 d_law_2655 d_law_2656 d_law_2658 d_law_2659 d_law_2660 (by omega) hL ?_
  refine mx_callV (as := [.int (mx_xs E (i + 1))]) (c := 12) (k2 := k - 6) (n2 := n - 600) d_law_2661 hM ok_Mo_gladder ml_Lw_296 hS.2 ⟨rfl, rfl⟩ rfl rfl (Nat.le_of_ble_eq_true rfl) (by omega) (by omega) (by omega) (fun w9 X9 h9 => ?_) (fun C9 X9 h9 => by cases h9.1)
  obtain ⟨h8, K, rfl, hK, hK0⟩ := h9
  cases h8
  exact lw_tail_i (p := 2664) d_law_2664 d_law_2666 d_law_2667 d_law_2670 d_law_2672 d_law_2677 d_law_2679 d_law_2682 d_law_2683 d_law_2684 d_law_2685 d_law_2687 d_law_2688 d_law_2689 d_law_2694 (by decide) hK.2.1.2.2.2.2.2.2.2.2.2.2.2.2.1 hK0 (by omega) hK.out.1 (fun z => by rw [hJ9, if_pos z, hw z]; simp [mx_upJ]) (by omega) (kk _ _ _ _ _ _ _ ht' hK)
theorem lc_ahead (htr : l.stackTraces = false) (hi : i + 6 ≤ mx_L E) (hL : mx_L E ≤ 3072) (hd : 60 ≤ d) (hk : 6 ≤ k) (hn : 600 ≤ n) (h : al_ok t S I P x) (kk : ∀ t' S' I' P' J' o5' o6', t ≤ t' → al_ok t' S' I' P' x → mx_E l E M_law d (k - 6) (n - 600) 3184 (lw_ls E x i o5' o6') [] (t', S', I', P', J') Q) : mx_E l E M_law d k n 2697 (lw_ls E x i o5 o6) [] (t, S, I, P, J) Q := by
  refine mx_al1 d_law_2697 ?_
  refine mx_arg_1 d_law_2698 d_law_2699 d_law_2701 d_law_2702 d_law_2703 (by omega) hL ?_
  refine mx_arg_2 d_law_2704 d_law_2705 d_law_2707 d_law_2708 d_law_2709 (by omega) hL ?_
  refine mx_arg_3 d_law_2710 d_law_2711 d_law_2713 d_law_2714 d_law_2715 (by omega) hL ?_
  refine mx_al3 d_law_2716 ?_
  obtain ⟨c, dd, v, A, ⟨hc, hz⟩, hdd, hV, hA⟩ := op_ahead (E := E) (x := x) htr (v := (mx_xs E (i + 1))) (w := (mx_xs E (i + 2))) (u := (mx_xs E (i + 3))) t S I P J h
  refine mx_callSW (as := .ref x :: ([.int (mx_xs E (i + 1)), .int (mx_xs E (i + 2)), .int (mx_xs E (i + 3))] ++ [.ref (x + 291)])) (k2 := k - 6) (n2 := n - 600) d_law_2717 (c_Lw_ahead hV h.2.1.1.1 (fun X1 hX => by obtain ⟨t', S', I', P', rfl, -, hS, -⟩ := hA X1 hX; exact hS.1) (by omega)) ok_Lw_ahead ml_Lw_297 rfl rfl (Nat.le_of_ble_eq_true rfl) (by omega) (by omega) (by omega) (fun w9 X9 h9 => ?_) (fun C9 X9 h9 => by cases h9.1)
  obtain ⟨h8, X1, hX1, rfl⟩ := h9
  cases h8
  obtain ⟨t', S', I', P', rfl, ht', hS, hm⟩ := hA X1 hX1
  dsimp only
  obtain ⟨J9, hJ9⟩ : ∃ J9 : mx_G, J9 = (if c = 0 then mx_upJ J (x + 291) 0 v.toInt64 else J) := ⟨_, rfl⟩
  rw [← hJ9]
  obtain ⟨w, hM, hw⟩ := hm J9
  refine mx_is5 d_law_2720 ?_
  refine mx_al2 d_law_2722 ?_
  refine mx_arg_1 d_law_2723 d_law_2724 d_law_2726 d_law_2727 d_law_2728 (by omega) hL ?_
  refine mx_arg_2 d_law_2729 d_law_2730 d_law_2732 d_law_2733 d_law_2734 (by omega) hL ?_
  refine mx_arg_3 d_law_2735 d_law_2736 d_law_2738 d_law_2739 d_law_2740 (by omega) hL ?_
  refine mx_callV (as := [.int (mx_xs E (i + 1)), .int (mx_xs E (i + 2)), .int (mx_xs E (i + 3))]) (c := 12) (k2 := k - 6) (n2 := n - 600) d_law_2741 hM ok_Mo_ahead ml_Lw_299 hS.2 ⟨rfl, rfl⟩ rfl rfl (Nat.le_of_ble_eq_true rfl) (by omega) (by omega) (by omega) (fun w9 X9 h9 => ?_) (fun C9 X9 h9 => by cases h9.1)
  obtain ⟨h8, K, rfl, hK, hK0⟩ := h9
  cases h8
  exact lw_tail_i (p := 2744) d_law_2744 d_law_2746 d_law_2747 d_law_2750 d_law_2752 d_law_2757 d_law_2759 d_law_2762 d_law_2763 d_law_2764 d_law_2765 d_law_2767 d_law_2768 d_law_2769 d_law_2774 (by decide) hK.2.1.2.2.2.2.2.2.2.2.2.2.2.2.1 hK0 (by omega) hK.out.1 (fun z => by rw [hJ9, if_pos z, hw z]; simp [mx_upJ]) (by omega) (kk _ _ _ _ _ _ _ ht' hK)
theorem lc_trial (htr : l.stackTraces = false) (hi : i + 6 ≤ mx_L E) (hL : mx_L E ≤ 3072) (hd : 60 ≤ d) (hk : 6 ≤ k) (hn : 600 ≤ n) (h : al_ok t S I P x) (kk : ∀ t' S' I' P' J' o5' o6', t ≤ t' → al_ok t' S' I' P' x → mx_E l E M_law d (k - 6) (n - 600) 3184 (lw_ls E x i o5' o6') [] (t', S', I', P', J') Q) : mx_E l E M_law d k n 2777 (lw_ls E x i o5 o6) [] (t, S, I, P, J) Q := by
  refine mx_al1 d_law_2777 ?_
  refine mx_arg_1 d_law_2778 d_law_2779 d_law_2781 d_law_2782 d_law_2783 (by omega) hL ?_
  refine mx_arg_2 d_law_2784 d_law_2785 d_law_2787 d_law_2788 d_law_2789 (by omega) hL ?_
  refine mx_nez d_law_2790 d_law_2793 d_law_2794 d_law_2797 (by decide) (by decide) ?_
  refine mx_al3 d_law_2798 ?_
  obtain ⟨c, dd, v, A, ⟨hc, hz⟩, hdd, hV, hA⟩ := op_trial (E := E) (x := x) htr (v := (mx_xs E (i + 1))) (b := !(decide (mx_xs E (i + 2) = 0))) t S I P J h
  refine mx_callSW (as := .ref x :: ([.int (mx_xs E (i + 1)), .int (bI (!(decide (mx_xs E (i + 2) = 0))))] ++ [.ref (x + 291)])) (k2 := k - 6) (n2 := n - 600) d_law_2799 (c_Lw_trial hV h.2.1.1.1 (fun X1 hX => by obtain ⟨t', S', I', P', rfl, -, hS, -⟩ := hA X1 hX; exact hS.1) (by omega)) ok_Lw_trial ml_Lw_300 rfl rfl (Nat.le_of_ble_eq_true rfl) (by omega) (by omega) (by omega) (fun w9 X9 h9 => ?_) (fun C9 X9 h9 => by cases h9.1)
  obtain ⟨h8, X1, hX1, rfl⟩ := h9
  cases h8
  obtain ⟨t', S', I', P', rfl, ht', hS, hm⟩ := hA X1 hX1
  dsimp only
  obtain ⟨J9, hJ9⟩ : ∃ J9 : mx_G, J9 = (if c = 0 then mx_upJ J (x + 291) 0 v.toInt64 else J) := ⟨_, rfl⟩
  rw [← hJ9]
  obtain ⟨w, hM, hw⟩ := hm J9
  refine mx_is5 d_law_2802 ?_
  refine mx_al2 d_law_2804 ?_
  refine mx_arg_1 d_law_2805 d_law_2806 d_law_2808 d_law_2809 d_law_2810 (by omega) hL ?_
  refine mx_arg_2 d_law_2811 d_law_2812 d_law_2814 d_law_2815 d_law_2816 (by omega) hL ?_
  refine mx_nez d_law_2817 d_law_2820 d_law_2821 d_law_2824 (by decide) (by decide) ?_
  refine mx_callV (as := [.int (mx_xs E (i + 1)), .int (bI (!(decide (mx_xs E (i + 2) = 0))))]) (c := 12) (k2 := k - 6) (n2 := n - 600) d_law_2825 hM ok_Mo_trial ml_Lw_303 hS.2 ⟨rfl, rfl⟩ rfl rfl (Nat.le_of_ble_eq_true rfl) (by omega) (by omega) (by omega) (fun w9 X9 h9 => ?_) (fun C9 X9 h9 => by cases h9.1)
  obtain ⟨h8, K, rfl, hK, hK0⟩ := h9
  cases h8
  exact lw_tail_i (p := 2828) d_law_2828 d_law_2830 d_law_2831 d_law_2834 d_law_2836 d_law_2841 d_law_2843 d_law_2846 d_law_2847 d_law_2848 d_law_2849 d_law_2851 d_law_2852 d_law_2853 d_law_2858 (by decide) hK.2.1.2.2.2.2.2.2.2.2.2.2.2.2.1 hK0 (by omega) hK.out.1 (fun z => by rw [hJ9, if_pos z, hw z]; simp [mx_upJ]) (by omega) (kk _ _ _ _ _ _ _ ht' hK)
theorem lc_span (htr : l.stackTraces = false) (hi : i + 6 ≤ mx_L E) (hL : mx_L E ≤ 3072) (hd : 60 ≤ d) (hk : 6 ≤ k) (hn : 600 ≤ n) (h : al_ok t S I P x) (kk : ∀ t' S' I' P' J' o5' o6', t ≤ t' → al_ok t' S' I' P' x → mx_E l E M_law d (k - 6) (n - 600) 3184 (lw_ls E x i o5' o6') [] (t', S', I', P', J') Q) : mx_E l E M_law d k n 2861 (lw_ls E x i o5 o6) [] (t, S, I, P, J) Q := by
  refine mx_al1 d_law_2861 ?_
  refine mx_arg_1 d_law_2862 d_law_2863 d_law_2865 d_law_2866 d_law_2867 (by omega) hL ?_
  refine mx_arg_2 d_law_2868 d_law_2869 d_law_2871 d_law_2872 d_law_2873 (by omega) hL ?_
  refine mx_nez d_law_2874 d_law_2877 d_law_2878 d_law_2881 (by decide) (by decide) ?_
  refine mx_al3 d_law_2882 ?_
  obtain ⟨c, dd, v, A, ⟨hc, hz⟩, hdd, hV, hA⟩ := op_span (E := E) (x := x) htr (v := (mx_xs E (i + 1))) (b := !(decide (mx_xs E (i + 2) = 0))) t S I P J h
  refine mx_callSW (as := .ref x :: ([.int (mx_xs E (i + 1)), .int (bI (!(decide (mx_xs E (i + 2) = 0))))] ++ [.ref (x + 291)])) (k2 := k - 6) (n2 := n - 600) d_law_2883 (c_Lw_span hV h.2.1.1.1 (fun X1 hX => by obtain ⟨t', S', I', P', rfl, -, hS, -⟩ := hA X1 hX; exact hS.1) (by omega)) ok_Lw_span ml_Lw_304 rfl rfl (Nat.le_of_ble_eq_true rfl) (by omega) (by omega) (by omega) (fun w9 X9 h9 => ?_) (fun C9 X9 h9 => by cases h9.1)
  obtain ⟨h8, X1, hX1, rfl⟩ := h9
  cases h8
  obtain ⟨t', S', I', P', rfl, ht', hS, hm⟩ := hA X1 hX1
  dsimp only
  obtain ⟨J9, hJ9⟩ : ∃ J9 : mx_G, J9 = (if c = 0 then mx_upJ J (x + 291) 0 v.toInt64 else J) := ⟨_, rfl⟩
  rw [← hJ9]
  obtain ⟨w, hM, hw⟩ := hm J9
  refine mx_is5 d_law_2886 ?_
  refine mx_al2 d_law_2888 ?_
  refine mx_arg_1 d_law_2889 d_law_2890 d_law_2892 d_law_2893 d_law_2894 (by omega) hL ?_
  refine mx_arg_2 d_law_2895 d_law_2896 d_law_2898 d_law_2899 d_law_2900 (by omega) hL ?_
  refine mx_nez d_law_2901 d_law_2904 d_law_2905 d_law_2908 (by decide) (by decide) ?_
  refine mx_callV (as := [.int (mx_xs E (i + 1)), .int (bI (!(decide (mx_xs E (i + 2) = 0))))]) (c := 12) (k2 := k - 6) (n2 := n - 600) d_law_2909 hM ok_Mo_span ml_Lw_306 hS.2 ⟨rfl, rfl⟩ rfl rfl (Nat.le_of_ble_eq_true rfl) (by omega) (by omega) (by omega) (fun w9 X9 h9 => ?_) (fun C9 X9 h9 => by cases h9.1)
  obtain ⟨h8, K, rfl, hK, hK0⟩ := h9
  cases h8
  exact lw_tail_i (p := 2912) d_law_2912 d_law_2914 d_law_2915 d_law_2918 d_law_2920 d_law_2925 d_law_2927 d_law_2930 d_law_2931 d_law_2932 d_law_2933 d_law_2935 d_law_2936 d_law_2937 d_law_2942 (by decide) hK.2.1.2.2.2.2.2.2.2.2.2.2.2.2.1 hK0 (by omega) hK.out.1 (fun z => by rw [hJ9, if_pos z, hw z]; simp [mx_upJ]) (by omega) (kk _ _ _ _ _ _ _ ht' hK)
theorem lc_led (htr : l.stackTraces = false) (hi : i + 6 ≤ mx_L E) (hL : mx_L E ≤ 3072) (hd : 60 ≤ d) (hk : 6 ≤ k) (hn : 600 ≤ n) (h : al_ok t S I P x) (kk : ∀ t' S' I' P' J' o5' o6', t ≤ t' → al_ok t' S' I' P' x → mx_E l E M_law d (k - 6) (n - 600) 3184 (lw_ls E x i o5' o6') [] (t', S', I', P', J') Q) : mx_E l E M_law d k n 2945 (lw_ls E x i o5 o6) [] (t, S, I, P, J) Q := by
  refine mx_al1 d_law_2945 ?_
  refine mx_arg_1 d_law_2946 d_law_2947 d_law_2949 d_law_2950 d_law_2951 (by omega) hL ?_
  refine mx_arg_2 d_law_2952 d_law_2953 d_law_2955 d_law_2956 d_law_2957 (by omega) hL ?_
  refine mx_nez d_law_2958 d_law_2961 d_law_2962 d_law_2965 (by decide) (by decide) ?_
  refine mx_al3 d_law_2966 ?_
  obtain ⟨c, dd, v, A, ⟨hc, hz⟩, hdd, hV, hA⟩ := op_led (E := E) (x := x) htr (v := (mx_xs E (i + 1))) (b := !(decide (mx_xs E (i + 2) = 0))) t S I P J h
  refine mx_callSW (as := .ref x :: ([.int (mx_xs E (i + 1)), .int (bI (!(decide (mx_xs E (i + 2) = 0))))] ++ [.ref (x + 291)])) (k2 := k - 6) (n2 := n - 600) d_law_2967 (c_Lw_led hV h.2.1.1.1 (fun X1 hX => by obtain ⟨t', S', I', P', rfl, -, hS, -⟩ := hA X1 hX; exact hS.1) (by omega)) ok_Lw_led ml_Lw_307 rfl rfl (Nat.le_of_ble_eq_true rfl) (by omega) (by omega) (by omega) (fun w9 X9 h9 => ?_) (fun C9 X9 h9 => by cases h9.1)
  obtain ⟨h8, X1, hX1, rfl⟩ := h9
  cases h8
  obtain ⟨t', S', I', P', rfl, ht', hS, hm⟩ := hA X1 hX1
  dsimp only
  obtain ⟨J9, hJ9⟩ : ∃ J9 : mx_G, J9 = (if c = 0 then mx_upJ J (x + 291) 0 v.toInt64 else J) := ⟨_, rfl⟩
  rw [← hJ9]
  obtain ⟨w, hM, hw⟩ := hm J9
  refine mx_is5 d_law_2970 ?_
  refine mx_al2 d_law_2972 ?_
  refine mx_arg_1 d_law_2973 d_law_2974 d_law_2976 d_law_2977 d_law_2978 (by omega) hL ?_
  refine mx_arg_2 d_law_2979 d_law_2980 d_law_2982 d_law_2983 d_law_2984 (by omega) hL ?_
  refine mx_nez d_law_2985 d_law_2988 d_law_2989 d_law_2992 (by decide) (by decide) ?_
  refine mx_callV (as := [.int (mx_xs E (i + 1)), .int (bI (!(decide (mx_xs E (i + 2) = 0))))]) (c := 12) (k2 := k - 6) (n2 := n - 600) d_law_2993 hM ok_Mo_led ml_Lw_309 hS.2 ⟨rfl, rfl⟩ rfl rfl (Nat.le_of_ble_eq_true rfl) (by omega) (by omega) (by omega) (fun w9 X9 h9 => ?_) (fun C9 X9 h9 => by cases h9.1)
  obtain ⟨h8, K, rfl, hK, hK0⟩ := h9
  cases h8
  exact lw_tail_i (p := 2996) d_law_2996 d_law_2998 d_law_2999 d_law_3002 d_law_3004 d_law_3009 d_law_3011 d_law_3014 d_law_3015 d_law_3016 d_law_3017 d_law_3019 d_law_3020 d_law_3021 d_law_3026 (by decide) hK.2.1.2.2.2.2.2.2.2.2.2.2.2.2.1 hK0 (by omega) hK.out.1 (fun z => by rw [hJ9, if_pos z, hw z]; simp [mx_upJ]) (by omega) (kk _ _ _ _ _ _ _ ht' hK)
theorem lc_log (htr : l.stackTraces = false) (hi : i + 6 ≤ mx_L E) (hL : mx_L E ≤ 3072) (hd : 60 ≤ d) (hk : 6 ≤ k) (hn : 600 ≤ n) (h : al_ok t S I P x) (kk : ∀ t' S' I' P' J' o5' o6', t ≤ t' → al_ok t' S' I' P' x → mx_E l E M_law d (k - 6) (n - 600) 3184 (lw_ls E x i o5' o6') [] (t', S', I', P', J') Q) : mx_E l E M_law d k n 3029 (lw_ls E x i o5 o6) [] (t, S, I, P, J) Q := by
  refine mx_al1 d_law_3029 ?_
  refine mx_arg_1 d_law_3030 d_law_3031 d_law_3033 d_law_3034 d_law_3035 (by omega) hL ?_
  refine mx_arg_2 d_law_3036 d_law_3037 d_law_3039 d_law_3040 d_law_3041 (by omega) hL ?_
  refine mx_al3 d_law_3042 ?_
  obtain ⟨c, dd, v, A, ⟨hc, hz⟩, hdd, hV, hA⟩ := op_log (E := E) (x := x) htr (v := (mx_xs E (i + 1))) (w := (mx_xs E (i + 2))) t S I P J h
  refine mx_callSW (as := .ref x :: ([.int (mx_xs E (i + 1)), .int (mx_xs E (i + 2))] ++ [.ref (x + 291)])) (k2 := k - 6) (n2 := n - 600) d_law_3043 (c_Lw_log hV h.2.1.1.1 (fun X1 hX => by obtain ⟨t', S', I', P', rfl, -, hS, -⟩ := hA X1 hX; exact hS.1) (by omega)) ok_Lw_log ml_Lw_310 rfl rfl (Nat.le_of_ble_eq_true rfl) (by omega) (by omega) (by omega) (fun w9 X9 h9 => ?_) (fun C9 X9 h9 => by cases h9.1)
  obtain ⟨h8, X1, hX1, rfl⟩ := h9
  cases h8
  obtain ⟨t', S', I', P', rfl, ht', hS, hm⟩ := hA X1 hX1
  dsimp only
  obtain ⟨J9, hJ9⟩ : ∃ J9 : mx_G, J9 = (if c = 0 then mx_upJ J (x + 291) 0 v.toInt64 else J) := ⟨_, rfl⟩
  rw [← hJ9]
  obtain ⟨w, hM, hw⟩ := hm J9
  refine mx_is5 d_law_3046 ?_
  refine mx_al2 d_law_3048 ?_
  refine mx_arg_1 d_law_3049 d_law_3050 d_law_3052 d_law_3053 d_law_3054 (by omega) hL ?_
  refine mx_arg_2 d_law_3055 d_law_3056 d_law_3058 d_law_3059 d_law_3060 (by omega) hL ?_
  refine mx_callV (as := [.int (mx_xs E (i + 1)), .int (mx_xs E (i + 2))]) (c := 12) (k2 := k - 6) (n2 := n - 600) d_law_3061 hM ok_Mo_log ml_Lw_312 hS.2 ⟨rfl, rfl⟩ rfl rfl (Nat.le_of_ble_eq_true rfl) (by omega) (by omega) (by omega) (fun w9 X9 h9 => ?_) (fun C9 X9 h9 => by cases h9.1)
  obtain ⟨h8, K, rfl, hK, hK0⟩ := h9
  cases h8
  exact lw_tail_i (p := 3064) d_law_3064 d_law_3066 d_law_3067 d_law_3070 d_law_3072 d_law_3077 d_law_3079 d_law_3082 d_law_3083 d_law_3084 d_law_3085 d_law_3087 d_law_3088 d_law_3089 d_law_3094 (by decide) hK.2.1.2.2.2.2.2.2.2.2.2.2.2.2.1 hK0 (by omega) hK.out.1 (fun z => by rw [hJ9, if_pos z, hw z]; simp [mx_upJ]) (by omega) (kk _ _ _ _ _ _ _ ht' hK)
theorem lc_seed (htr : l.stackTraces = false) (hi : i + 6 ≤ mx_L E) (hL : mx_L E ≤ 3072) (hd : 60 ≤ d) (hk : 6 ≤ k) (hn : 600 ≤ n) (h : al_ok t S I P x) (kk : ∀ t' S' I' P' J' o5' o6', t ≤ t' → al_ok t' S' I' P' x → mx_E l E M_law d (k - 6) (n - 600) 3184 (lw_ls E x i o5' o6') [] (t', S', I', P', J') Q) : mx_E l E M_law d k n 3097 (lw_ls E x i o5 o6) [] (t, S, I, P, J) Q := by
  refine mx_al1 d_law_3097 ?_
  refine mx_arg_1 d_law_3098 d_law_3099 d_law_3101 d_law_3102 d_law_3103 (by omega) hL ?_
  obtain ⟨c, dd, v, A, ⟨hc, -⟩, hdd, hV, hA⟩ := op_seed (E := E) (x := x) htr (v := (mx_xs E (i + 1))) t S I P J h
  obtain rfl : c = 0 := by omega
  refine mx_callV (as := [.int (mx_xs E (i + 1))]) (c := 11) (k2 := k - 6) (n2 := n - 600) d_law_3104 hV ok_Vh_seed ml_Lw_313 h.2.1.1.1 ⟨rfl, rfl⟩ rfl rfl (Nat.le_of_ble_eq_true rfl) (by omega) (by omega) (by omega) (fun w9 X9 h9 => ?_) (fun C9 X9 h9 => by obtain ⟨-, ⟨-, h8⟩ | ⟨h8, -⟩⟩ := h9; (cases h8); exact absurd rfl h8)
  obtain ⟨hX1, ⟨-, h8⟩ | ⟨h8, -⟩⟩ := h9
  rotate_left
  · exact absurd rfl h8
  cases h8
  obtain ⟨t', S', I', P', rfl, ht', hS, hm⟩ := hA X9 hX1
  obtain ⟨w, hM, hw⟩ := hm J
  obtain rfl := hw rfl
  refine mx_al2 d_law_3107 ?_
  refine mx_arg_1 d_law_3108 d_law_3109 d_law_3111 d_law_3112 d_law_3113 (by omega) hL ?_
  refine mx_callV (as := [.int (mx_xs E (i + 1))]) (c := 12) (k2 := k - 6) (n2 := n - 600) d_law_3114 hM ok_Mo_seed ml_Lw_316 hS.2 ⟨rfl, rfl⟩ rfl rfl (Nat.le_of_ble_eq_true rfl) (by omega) (by omega) (by omega) (fun w9 X9 h9 => ?_) (fun C9 X9 h9 => by cases h9.1)
  obtain ⟨h8, K, rfl, hK, hK0⟩ := h9
  cases h8
  exact mx_icmp_eq 3184 d_law_3117 (by decide) (fun _ => kk _ _ _ _ _ _ _ ht' hK) (fun c9 => absurd rfl c9)
theorem lc_undo (htr : l.stackTraces = false) (hi : i + 6 ≤ mx_L E) (hL : mx_L E ≤ 3072) (hd : 60 ≤ d) (hk : 6 ≤ k) (hn : 600 ≤ n) (h : al_ok t S I P x) (kk : ∀ t' S' I' P' J' o5' o6', t ≤ t' → al_ok t' S' I' P' x → mx_E l E M_law d (k - 6) (n - 600) 3184 (lw_ls E x i o5' o6') [] (t', S', I', P', J') Q) : mx_E l E M_law d k n 3122 (lw_ls E x i o5 o6) [] (t, S, I, P, J) Q := by
  refine mx_al1 d_law_3122 ?_
  obtain ⟨c, dd, v, A, ⟨hc, -⟩, hdd, hV, hA⟩ := op_undo (E := E) (x := x) htr  t S I P J h
  obtain rfl : c = 0 := by omega
  refine mx_callV (as := []) (c := 11) (k2 := k - 6) (n2 := n - 600) d_law_3123 hV ok_Vh_undo ml_Lw_317 h.2.1.1.1 ⟨rfl, rfl⟩ rfl rfl (Nat.le_of_ble_eq_true rfl) (by omega) (by omega) (by omega) (fun w9 X9 h9 => ?_) (fun C9 X9 h9 => by obtain ⟨-, ⟨-, h8⟩ | ⟨h8, -⟩⟩ := h9; (cases h8); exact absurd rfl h8)
  obtain ⟨hX1, ⟨-, h8⟩ | ⟨h8, -⟩⟩ := h9
  rotate_left
  · exact absurd rfl h8
  cases h8
  obtain ⟨t', S', I', P', rfl, ht', hS, hm⟩ := hA X9 hX1
  obtain ⟨w, hM, hw⟩ := hm J
  obtain rfl := hw rfl
  refine mx_al2 d_law_3126 ?_
  refine mx_callV (as := []) (c := 12) (k2 := k - 6) (n2 := n - 600) d_law_3127 hM ok_Mo_undo ml_Lw_321 hS.2 ⟨rfl, rfl⟩ rfl rfl (Nat.le_of_ble_eq_true rfl) (by omega) (by omega) (by omega) (fun w9 X9 h9 => ?_) (fun C9 X9 h9 => by cases h9.1)
  obtain ⟨h8, K, rfl, hK, hK0⟩ := h9
  cases h8
  exact mx_icmp_eq 3184 d_law_3130 (by decide) (fun _ => kk _ _ _ _ _ _ _ ht' hK) (fun c9 => absurd rfl c9)
theorem lc_image (htr : l.stackTraces = false) (hi : i + 6 ≤ mx_L E) (hL : mx_L E ≤ 3072) (hd : 60 ≤ d) (hk : 6 ≤ k) (hn : 600 ≤ n) (h : al_ok t S I P x) (kk : ∀ t' S' I' P' J' o5' o6', t ≤ t' → al_ok t' S' I' P' x → mx_E l E M_law d (k - 6) (n - 600) 3184 (lw_ls E x i o5' o6') [] (t', S', I', P', J') Q) : mx_E l E M_law d k n 3135 (lw_ls E x i o5 o6) [] (t, S, I, P, J) Q := by
  refine mx_al1 d_law_3135 ?_
  obtain ⟨I1, P1, hV, I2, hok, hM⟩ := op_image (l := l) (E := E) (J := J) h
  refine mx_callV (as := []) (c := 11) (k2 := k - 6) (n2 := n - 600) d_law_3136 hV ok_Vh_image ml_Lw_322 h.2.1.1.1 ⟨rfl, rfl⟩ rfl rfl (Nat.le_of_ble_eq_true rfl) (by omega) (by omega) (by omega) (fun w9 X9 h9 => ?_) (fun C9 X9 h9 => by cases h9.1)
  obtain ⟨h8, rfl⟩ := h9
  cases h8
  refine mx_al2 d_law_3139 ?_
  refine mx_callV (as := []) (c := 12) (k2 := k - 6) (n2 := n - 600) d_law_3140 (hM J) ok_Mo_image ml_Lw_325 h.2.1.2.2.2.2.2.2.2.2.2.2.2.2.1.1 ⟨rfl, rfl⟩ rfl rfl (Nat.le_of_ble_eq_true rfl) (by omega) (by omega) (by omega) (fun w9 X9 h9 => ?_) (fun C9 X9 h9 => by cases h9.1)
  obtain ⟨h8, rfl⟩ := h9
  cases h8
  exact mx_goto 3184 d_law_3143 (by decide) (kk _ _ _ _ _ _ _ (Nat.le_refl _) hok)
theorem lc_back (htr : l.stackTraces = false) (hi : i + 6 ≤ mx_L E) (hL : mx_L E ≤ 3072) (hd : 60 ≤ d) (hk : 6 ≤ k) (hn : 600 ≤ n) (h : al_ok t S I P x) (kk : ∀ t' S' I' P' J' o5' o6', t ≤ t' → al_ok t' S' I' P' x → mx_E l E M_law d (k - 6) (n - 600) 3184 (lw_ls E x i o5' o6') [] (t', S', I', P', J') Q) : mx_E l E M_law d k n 3146 (lw_ls E x i o5 o6) [] (t, S, I, P, J) Q := by
  refine mx_al1 d_law_3146 ?_
  obtain ⟨c, dd, v, A, ⟨hc, -⟩, hdd, hV, hA⟩ := op_back (E := E) (x := x) htr  t S I P J h
  obtain rfl : c = 0 := by omega
  refine mx_callV (as := []) (c := 11) (k2 := k - 6) (n2 := n - 600) d_law_3147 hV ok_Vh_back ml_Lw_326 h.2.1.1.1 ⟨rfl, rfl⟩ rfl rfl (Nat.le_of_ble_eq_true rfl) (by omega) (by omega) (by omega) (fun w9 X9 h9 => ?_) (fun C9 X9 h9 => by obtain ⟨-, ⟨-, h8⟩ | ⟨h8, -⟩⟩ := h9; (cases h8); exact absurd rfl h8)
  obtain ⟨hX1, ⟨-, h8⟩ | ⟨h8, -⟩⟩ := h9
  rotate_left
  · exact absurd rfl h8
  cases h8
  obtain ⟨t', S', I', P', rfl, ht', hS, hm⟩ := hA X9 hX1
  obtain ⟨w, hM, hw⟩ := hm J
  obtain rfl := hw rfl
  refine mx_al2 d_law_3150 ?_
  refine mx_callV (as := []) (c := 12) (k2 := k - 6) (n2 := n - 600) d_law_3151 hM ok_Mo_back ml_Lw_329 hS.2 ⟨rfl, rfl⟩ rfl rfl (Nat.le_of_ble_eq_true rfl) (by omega) (by omega) (by omega) (fun w9 X9 h9 => ?_) (fun C9 X9 h9 => by cases h9.1)
  obtain ⟨h8, K, rfl, hK, hK0⟩ := h9
  cases h8
  exact mx_icmp_eq 3184 d_law_3154 (by decide) (fun _ => kk _ _ _ _ _ _ _ ht' hK) (fun c9 => absurd rfl c9)
theorem lc_count (htr : l.stackTraces = false) (hi : i + 6 ≤ mx_L E) (hL : mx_L E ≤ 3072) (hd : 60 ≤ d) (hk : 6 ≤ k) (hn : 600 ≤ n) (h : al_ok t S I P x) (kk : ∀ t' S' I' P' J' o5' o6', t ≤ t' → al_ok t' S' I' P' x → mx_E l E M_law d (k - 6) (n - 600) 3184 (lw_ls E x i o5' o6') [] (t', S', I', P', J') Q) : mx_E l E M_law d k n 3159 (lw_ls E x i o5 o6) [] (t, S, I, P, J) Q := by
  refine mx_al1 d_law_3159 ?_
  refine mx_arg_1 d_law_3160 d_law_3161 d_law_3163 d_law_3164 d_law_3165 (by omega) hL ?_
  obtain ⟨c, dd, v, A, ⟨hc, -⟩, hdd, hV, hA⟩ := op_count (E := E) (x := x) htr (w := (mx_xs E (i + 1))) t S I P J h
  obtain rfl : c = 0 := by omega
  refine mx_callV (as := [.int (mx_xs E (i + 1))]) (c := 11) (k2 := k - 6) (n2 := n - 600) d_law_3166 hV ok_Vh_count ml_Lw_330 h.2.1.1.1 ⟨rfl, rfl⟩ rfl rfl (Nat.le_of_ble_eq_true rfl) (by omega) (by omega) (by omega) (fun w9 X9 h9 => ?_) (fun C9 X9 h9 => by obtain ⟨-, ⟨-, h8⟩ | ⟨h8, -⟩⟩ := h9; (cases h8); exact absurd rfl h8)
  obtain ⟨hX1, ⟨-, h8⟩ | ⟨h8, -⟩⟩ := h9
  rotate_left
  · exact absurd rfl h8
  cases h8
  obtain ⟨t', S', I', P', rfl, ht', hS, hm⟩ := hA X9 hX1
  obtain ⟨w, hM, hw⟩ := hm J
  obtain rfl := hw rfl
  refine mx_al2 d_law_3169 ?_
  refine mx_arg_1 d_law_3170 d_law_3171 d_law_3173 d_law_3174 d_law_3175 (by omega) hL ?_
  refine mx_callV (as := [.int (mx_xs E (i + 1))]) (c := 12) (k2 := k - 6) (n2 := n - 600) d_law_3176 hM ok_Mo_count ml_Lw_333 hS.2 ⟨rfl, rfl⟩ rfl rfl (Nat.le_of_ble_eq_true rfl) (by omega) (by omega) (by omega) (fun w9 X9 h9 => ?_) (fun C9 X9 h9 => by cases h9.1)
  obtain ⟨h8, K, rfl, hK, hK0⟩ := h9
  cases h8
  exact mx_icmp_eq 3184 d_law_3179 (by decide) (fun _ => kk _ _ _ _ _ _ _ ht' hK) (fun c9 => absurd rfl c9)
end CO98
