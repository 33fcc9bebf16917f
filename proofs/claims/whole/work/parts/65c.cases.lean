-- printed by wip/gen/cases.py
section LK2
variable {p : Program} {l : Launch} {e : Env} {s : State} {m : MethodId} {below : List Frame} {meth : Method} {c : Code} {H : Heap} {locs : List Loc} {cells slots : Nat} {Qg : State → Prop} {ls : Array Slot} {b L : Nat} {xs : Nat → Int32} {D : va_G} {cy : Nat → ClassId} {tF tT : Nat} {h hM : Nat} {aM : Nat → Nat} {u : lw_Ad} {Z : ls_Z} {M : Int64 × dk_O}
set_option maxHeartbeats 4000000 in
set_option maxRecDepth 100000 in
theorem lk_fate (hL : L ≤ 2048) (cx : ls_Cx p s m c b L xs D cy tF tT) {i : Nat} (hi : i + 3 < L) (hl : lv_has ls 4 [(3, .int (nI i)), (2, .ref hM), (1, .ref h), (0, .ref b)]) (hc : cells ≤ 600000 ∧ slots ≤ 7302250) (hP : va_P D vwCl (ls_W cy h u Z ++ ls_V cy hM aM M) H) (hD : va_D (ls_A s) (ls_W cy h u Z ++ ls_V cy hM aM M)) (hS : va_S (ls_A s) s.heap H locs) (hR : ls_R Z M) (kk : ∀ (u : lw_Ad) (Z : ls_Z) (M : Int64 × dk_O) (H : Heap) (locs : List Loc), va_P D vwCl (ls_W cy h u Z ++ ls_V cy hM aM M) H → va_D (ls_A s) (ls_W cy h u Z ++ ls_V cy hM aM M) → va_S (ls_A s) s.heap H locs → ls_R Z M → W p l e room_1 s m #[Value.ref b] below meth c H locs cells slots Qg (F0 m 799 ls [])) : W p l e room_1 s m #[Value.ref b] below meth c H locs cells slots Qg (F0 m 390 ls []) := by
  obtain ⟨hx, hb, hml, hown, hts, -, -, -, -⟩ := id cx
  refine lv_aload_n hx hb dL_law_390 rfl (lv_at hl 2 rfl) ?_
  refine lv_aload_n hx hb dL_law_391 rfl (lv_at hl 3 rfl) ?_
  refine lv_iload_n hx hb dL_law_392 rfl (lv_at hl 0 rfl) ?_
  refine lv_iconst (v := 1) hx hb dL_law_393 (by decide) ?_
  refine lv_iadd hx hb dL_law_394 ?_
  refine lc_ld cx hS (k := i + 1) ⟨by omega, hL⟩ (nI_add i 1) dL_law_395 ?_
  refine lv_aload_n hx hb dL_law_396 rfl (lv_at hl 3 rfl) ?_
  refine lv_iload_n hx hb dL_law_397 rfl (lv_at hl 0 rfl) ?_
  refine lv_iconst (v := 2) hx hb dL_law_398 (by decide) ?_
  refine lv_iadd hx hb dL_law_399 ?_
  refine lc_ld cx hS (k := i + 2) ⟨by omega, hL⟩ (nI_add i 2) dL_law_400 ?_
  obtain ⟨r, Z2, M2, c5, c6, hR2⟩ := pr_fate l D cy h hM aM hR (xs (i + 1)) (xs (i + 2))
  refine lc_5 cx hl.1 c5 (cwV 2 hts gL_law_X5_fate rfl rfl rfl (by decide +kernel) ⟨(Nat.le_of_ble_eq_true rfl), (Nat.le_of_ble_eq_true rfl)⟩) rfl rfl (Nat.le_of_ble_eq_true rfl) dL_law_401 hc hP hD hS (fun u H locs hP hD hS => ?_)
  refine lv_aload_n hx hb dL_law_404 rfl (lv_at hl 1 rfl) ?_
  refine lv_aload_n hx hb dL_law_405 rfl (lv_at hl 3 rfl) ?_
  refine lv_iload_n hx hb dL_law_406 rfl (lv_at hl 0 rfl) ?_
  refine lv_iconst (v := 1) hx hb dL_law_407 (by decide) ?_
  refine lv_iadd hx hb dL_law_408 ?_
  refine lc_ld cx hS (k := i + 1) ⟨by omega, hL⟩ (nI_add i 1) dL_law_409 ?_
  refine lv_aload_n hx hb dL_law_410 rfl (lv_at hl 3 rfl) ?_
  refine lv_iload_n hx hb dL_law_411 rfl (lv_at hl 0 rfl) ?_
  refine lv_iconst (v := 2) hx hb dL_law_412 (by decide) ?_
  refine lv_iadd hx hb dL_law_413 ?_
  refine lc_ld cx hS (k := i + 2) ⟨by omega, hL⟩ (nI_add i 2) dL_law_414 ?_
  refine lc_6 cx hl.1 c6 (cwV 2 hts gL_law_X6_fate rfl rfl rfl (by decide +kernel) ⟨(Nat.le_of_ble_eq_true rfl), (Nat.le_of_ble_eq_true rfl)⟩) rfl rfl (Nat.le_of_ble_eq_true rfl) dL_law_415 hc hP hD hS (fun H locs hP hD hS => ?_)
  refine lv_icmp_eq (tgt := 799) hx hb dL_law_418 (by decide) (fun _ => ?_) (fun q => absurd rfl q)
  exact kk u Z2 M2 H locs hP hD hS hR2
set_option maxHeartbeats 4000000 in
set_option maxRecDepth 100000 in
theorem lk_judge (hL : L ≤ 2048) (cx : ls_Cx p s m c b L xs D cy tF tT) {i : Nat} (hi : i + 3 < L) (hl : lv_has ls 4 [(3, .int (nI i)), (2, .ref hM), (1, .ref h), (0, .ref b)]) (hc : cells ≤ 600000 ∧ slots ≤ 7302250) (hP : va_P D vwCl (ls_W cy h u Z ++ ls_V cy hM aM M) H) (hD : va_D (ls_A s) (ls_W cy h u Z ++ ls_V cy hM aM M)) (hS : va_S (ls_A s) s.heap H locs) (hR : ls_R Z M) (kk : ∀ (u : lw_Ad) (Z : ls_Z) (M : Int64 × dk_O) (H : Heap) (locs : List Loc), va_P D vwCl (ls_W cy h u Z ++ ls_V cy hM aM M) H → va_D (ls_A s) (ls_W cy h u Z ++ ls_V cy hM aM M) → va_S (ls_A s) s.heap H locs → ls_R Z M → W p l e room_1 s m #[Value.ref b] below meth c H locs cells slots Qg (F0 m 799 ls [])) : W p l e room_1 s m #[Value.ref b] below meth c H locs cells slots Qg (F0 m 423 ls []) := by
  obtain ⟨hx, hb, hml, hown, hts, -, -, -, -⟩ := id cx
  refine lv_aload_n hx hb dL_law_423 rfl (lv_at hl 2 rfl) ?_
  refine lv_aload_n hx hb dL_law_424 rfl (lv_at hl 3 rfl) ?_
  refine lv_iload_n hx hb dL_law_425 rfl (lv_at hl 0 rfl) ?_
  refine lv_iconst (v := 1) hx hb dL_law_426 (by decide) ?_
  refine lv_iadd hx hb dL_law_427 ?_
  refine lc_ld cx hS (k := i + 1) ⟨by omega, hL⟩ (nI_add i 1) dL_law_428 ?_
  refine lv_aload_n hx hb dL_law_429 rfl (lv_at hl 3 rfl) ?_
  refine lv_iload_n hx hb dL_law_430 rfl (lv_at hl 0 rfl) ?_
  refine lv_iconst (v := 2) hx hb dL_law_431 (by decide) ?_
  refine lv_iadd hx hb dL_law_432 ?_
  refine lc_ld cx hS (k := i + 2) ⟨by omega, hL⟩ (nI_add i 2) dL_law_433 ?_
  refine lv_i2l hx hb dL_law_434 rfl ?_
  refine lv_bipush (v := 32) hx hb dL_law_435 (by decide) ?_
  refine lv_lshl hx hb dL_law_437 rfl ?_
  refine lv_aload_n hx hb dL_law_438 rfl (lv_at hl 3 rfl) ?_
  refine lv_iload_n hx hb dL_law_439 rfl (lv_at hl 0 rfl) ?_
  refine lv_iconst (v := 3) hx hb dL_law_440 (by decide) ?_
  refine lv_iadd hx hb dL_law_441 ?_
  refine lc_ld cx hS (k := i + 3) ⟨by omega, hL⟩ (nI_add i 3) dL_law_442 ?_
  refine lv_i2l hx hb dL_law_443 rfl ?_
  refine lv_ldc2 hx hb hown (hts (Cond.constantLong RL 68 (4294967295)) (List.mem_of_getElem? (i := 6) rfl)) dL_law_444 ?_
  refine lv_land hx hb dL_law_447 ?_
  refine lv_lor hx hb dL_law_448 ?_
  obtain ⟨r, Z2, M2, c5, c6, hR2⟩ := pr_judge l D cy h hM aM hR (xs (i + 1)) (((xs (i + 2)).toInt64 <<< ((32 : Int32).toInt64 &&& 63)) ||| ((xs (i + 3)).toInt64 &&& 4294967295))
  refine lc_5 cx hl.1 c5 (cwV 2 hts gL_law_X5_judge rfl rfl rfl (by decide +kernel) ⟨(Nat.le_of_ble_eq_true rfl), (Nat.le_of_ble_eq_true rfl)⟩) rfl rfl (Nat.le_of_ble_eq_true rfl) dL_law_449 hc hP hD hS (fun u H locs hP hD hS => ?_)
  refine lv_aload_n hx hb dL_law_452 rfl (lv_at hl 1 rfl) ?_
  refine lv_aload_n hx hb dL_law_453 rfl (lv_at hl 3 rfl) ?_
  refine lv_iload_n hx hb dL_law_454 rfl (lv_at hl 0 rfl) ?_
  refine lv_iconst (v := 1) hx hb dL_law_455 (by decide) ?_
  refine lv_iadd hx hb dL_law_456 ?_
  refine lc_ld cx hS (k := i + 1) ⟨by omega, hL⟩ (nI_add i 1) dL_law_457 ?_
  refine lv_aload_n hx hb dL_law_458 rfl (lv_at hl 3 rfl) ?_
  refine lv_iload_n hx hb dL_law_459 rfl (lv_at hl 0 rfl) ?_
  refine lv_iconst (v := 2) hx hb dL_law_460 (by decide) ?_
  refine lv_iadd hx hb dL_law_461 ?_
  refine lc_ld cx hS (k := i + 2) ⟨by omega, hL⟩ (nI_add i 2) dL_law_462 ?_
  refine lv_i2l hx hb dL_law_463 rfl ?_
  refine lv_bipush (v := 32) hx hb dL_law_464 (by decide) ?_
  refine lv_lshl hx hb dL_law_466 rfl ?_
  refine lv_aload_n hx hb dL_law_467 rfl (lv_at hl 3 rfl) ?_
  refine lv_iload_n hx hb dL_law_468 rfl (lv_at hl 0 rfl) ?_
  refine lv_iconst (v := 3) hx hb dL_law_469 (by decide) ?_
  refine lv_iadd hx hb dL_law_470 ?_
  refine lc_ld cx hS (k := i + 3) ⟨by omega, hL⟩ (nI_add i 3) dL_law_471 ?_
  refine lv_i2l hx hb dL_law_472 rfl ?_
  refine lv_ldc2 hx hb hown (hts (Cond.constantLong RL 68 (4294967295)) (List.mem_of_getElem? (i := 6) rfl)) dL_law_473 ?_
  refine lv_land hx hb dL_law_476 ?_
  refine lv_lor hx hb dL_law_477 ?_
  refine lc_6 cx hl.1 c6 (cwV 2 hts gL_law_X6_judge rfl rfl rfl (by decide +kernel) ⟨(Nat.le_of_ble_eq_true rfl), (Nat.le_of_ble_eq_true rfl)⟩) rfl rfl (Nat.le_of_ble_eq_true rfl) dL_law_478 hc hP hD hS (fun H locs hP hD hS => ?_)
  refine lv_icmp_eq (tgt := 799) hx hb dL_law_481 (by decide) (fun _ => ?_) (fun q => absurd rfl q)
  exact kk u Z2 M2 H locs hP hD hS hR2
set_option maxHeartbeats 4000000 in
set_option maxRecDepth 100000 in
theorem lk_see (hL : L ≤ 2048) (cx : ls_Cx p s m c b L xs D cy tF tT) {i : Nat} (hi : i + 3 < L) (hl : lv_has ls 4 [(3, .int (nI i)), (2, .ref hM), (1, .ref h), (0, .ref b)]) (hc : cells ≤ 600000 ∧ slots ≤ 7302250) (hP : va_P D vwCl (ls_W cy h u Z ++ ls_V cy hM aM M) H) (hD : va_D (ls_A s) (ls_W cy h u Z ++ ls_V cy hM aM M)) (hS : va_S (ls_A s) s.heap H locs) (hR : ls_R Z M) (kk : ∀ (u : lw_Ad) (Z : ls_Z) (M : Int64 × dk_O) (H : Heap) (locs : List Loc), va_P D vwCl (ls_W cy h u Z ++ ls_V cy hM aM M) H → va_D (ls_A s) (ls_W cy h u Z ++ ls_V cy hM aM M) → va_S (ls_A s) s.heap H locs → ls_R Z M → W p l e room_1 s m #[Value.ref b] below meth c H locs cells slots Qg (F0 m 799 ls [])) : W p l e room_1 s m #[Value.ref b] below meth c H locs cells slots Qg (F0 m 486 ls []) := by
  obtain ⟨hx, hb, hml, hown, hts, -, -, -, -⟩ := id cx
  refine lv_aload_n hx hb dL_law_486 rfl (lv_at hl 2 rfl) ?_
  refine lv_aload_n hx hb dL_law_487 rfl (lv_at hl 3 rfl) ?_
  refine lv_iload_n hx hb dL_law_488 rfl (lv_at hl 0 rfl) ?_
  refine lv_iconst (v := 1) hx hb dL_law_489 (by decide) ?_
  refine lv_iadd hx hb dL_law_490 ?_
  refine lc_ld cx hS (k := i + 1) ⟨by omega, hL⟩ (nI_add i 1) dL_law_491 ?_
  refine lv_aload_n hx hb dL_law_492 rfl (lv_at hl 3 rfl) ?_
  refine lv_iload_n hx hb dL_law_493 rfl (lv_at hl 0 rfl) ?_
  refine lv_iconst (v := 2) hx hb dL_law_494 (by decide) ?_
  refine lv_iadd hx hb dL_law_495 ?_
  refine lc_ld cx hS (k := i + 2) ⟨by omega, hL⟩ (nI_add i 2) dL_law_496 ?_
  obtain ⟨r, Z2, M2, c5, c6, hR2⟩ := pr_see l D cy h hM aM hR (xs (i + 1)) (xs (i + 2))
  refine lc_5 cx hl.1 c5 (cwV 2 hts gL_law_X5_see rfl rfl rfl (by decide +kernel) ⟨(Nat.le_of_ble_eq_true rfl), (Nat.le_of_ble_eq_true rfl)⟩) rfl rfl (Nat.le_of_ble_eq_true rfl) dL_law_497 hc hP hD hS (fun u H locs hP hD hS => ?_)
  refine lv_aload_n hx hb dL_law_500 rfl (lv_at hl 1 rfl) ?_
  refine lv_aload_n hx hb dL_law_501 rfl (lv_at hl 3 rfl) ?_
  refine lv_iload_n hx hb dL_law_502 rfl (lv_at hl 0 rfl) ?_
  refine lv_iconst (v := 1) hx hb dL_law_503 (by decide) ?_
  refine lv_iadd hx hb dL_law_504 ?_
  refine lc_ld cx hS (k := i + 1) ⟨by omega, hL⟩ (nI_add i 1) dL_law_505 ?_
  refine lv_aload_n hx hb dL_law_506 rfl (lv_at hl 3 rfl) ?_
  refine lv_iload_n hx hb dL_law_507 rfl (lv_at hl 0 rfl) ?_
  refine lv_iconst (v := 2) hx hb dL_law_508 (by decide) ?_
  refine lv_iadd hx hb dL_law_509 ?_
  refine lc_ld cx hS (k := i + 2) ⟨by omega, hL⟩ (nI_add i 2) dL_law_510 ?_
  refine lc_6 cx hl.1 c6 (cwV 2 hts gL_law_X6_see rfl rfl rfl (by decide +kernel) ⟨(Nat.le_of_ble_eq_true rfl), (Nat.le_of_ble_eq_true rfl)⟩) rfl rfl (Nat.le_of_ble_eq_true rfl) dL_law_511 hc hP hD hS (fun H locs hP hD hS => ?_)
  refine lv_icmp_eq (tgt := 799) hx hb dL_law_514 (by decide) (fun _ => ?_) (fun q => absurd rfl q)
  exact kk u Z2 M2 H locs hP hD hS hR2
set_option maxHeartbeats 4000000 in
set_option maxRecDepth 100000 in
theorem lk_unsee (hL : L ≤ 2048) (cx : ls_Cx p s m c b L xs D cy tF tT) {i : Nat} (hi : i + 3 < L) (hl : lv_has ls 4 [(3, .int (nI i)), (2, .ref hM), (1, .ref h), (0, .ref b)]) (hc : cells ≤ 600000 ∧ slots ≤ 7302250) (hP : va_P D vwCl (ls_W cy h u Z ++ ls_V cy hM aM M) H) (hD : va_D (ls_A s) (ls_W cy h u Z ++ ls_V cy hM aM M)) (hS : va_S (ls_A s) s.heap H locs) (hR : ls_R Z M) (kk : ∀ (u : lw_Ad) (Z : ls_Z) (M : Int64 × dk_O) (H : Heap) (locs : List Loc), va_P D vwCl (ls_W cy h u Z ++ ls_V cy hM aM M) H → va_D (ls_A s) (ls_W cy h u Z ++ ls_V cy hM aM M) → va_S (ls_A s) s.heap H locs → ls_R Z M → W p l e room_1 s m #[Value.ref b] below meth c H locs cells slots Qg (F0 m 799 ls [])) : W p l e room_1 s m #[Value.ref b] below meth c H locs cells slots Qg (F0 m 519 ls []) := by
  obtain ⟨hx, hb, hml, hown, hts, -, -, -, -⟩ := id cx
  refine lv_aload_n hx hb dL_law_519 rfl (lv_at hl 2 rfl) ?_
  obtain ⟨r, Z2, M2, c5, c6, hR2⟩ := pr_unsee l D cy h hM aM hR 
  refine lc_5 cx hl.1 c5 (cwV 0 hts gL_law_X5_unsee rfl rfl rfl (by decide +kernel) ⟨(Nat.le_of_ble_eq_true rfl), (Nat.le_of_ble_eq_true rfl)⟩) rfl rfl (Nat.le_of_ble_eq_true rfl) dL_law_520 hc hP hD hS (fun u H locs hP hD hS => ?_)
  refine lv_aload_n hx hb dL_law_523 rfl (lv_at hl 1 rfl) ?_
  refine lc_6 cx hl.1 c6 (cwV 0 hts gL_law_X6_unsee rfl rfl rfl (by decide +kernel) ⟨(Nat.le_of_ble_eq_true rfl), (Nat.le_of_ble_eq_true rfl)⟩) rfl rfl (Nat.le_of_ble_eq_true rfl) dL_law_524 hc hP hD hS (fun H locs hP hD hS => ?_)
  refine lv_icmp_eq (tgt := 799) hx hb dL_law_527 (by decide) (fun _ => ?_) (fun q => absurd rfl q)
  exact kk u Z2 M2 H locs hP hD hS hR2
set_option maxHeartbeats 4000000 in
set_option maxRecDepth 100000 in
theorem lk_which (hL : L ≤ 2048) (cx : ls_Cx p s m c b L xs D cy tF tT) {i : Nat} (hi : i + 3 < L) (hl : lv_has ls 4 [(3, .int (nI i)), (2, .ref hM), (1, .ref h), (0, .ref b)]) (hc : cells ≤ 600000 ∧ slots ≤ 7302250) (hP : va_P D vwCl (ls_W cy h u Z ++ ls_V cy hM aM M) H) (hD : va_D (ls_A s) (ls_W cy h u Z ++ ls_V cy hM aM M)) (hS : va_S (ls_A s) s.heap H locs) (hR : ls_R Z M) (kk : ∀ (u : lw_Ad) (Z : ls_Z) (M : Int64 × dk_O) (H : Heap) (locs : List Loc), va_P D vwCl (ls_W cy h u Z ++ ls_V cy hM aM M) H → va_D (ls_A s) (ls_W cy h u Z ++ ls_V cy hM aM M) → va_S (ls_A s) s.heap H locs → ls_R Z M → W p l e room_1 s m #[Value.ref b] below meth c H locs cells slots Qg (F0 m 799 ls [])) : W p l e room_1 s m #[Value.ref b] below meth c H locs cells slots Qg (F0 m 532 ls []) := by
  obtain ⟨hx, hb, hml, hown, hts, -, -, -, -⟩ := id cx
  refine lv_aload_n hx hb dL_law_532 rfl (lv_at hl 2 rfl) ?_
  obtain ⟨r, Z2, M2, c5, c6, hR2⟩ := pr_which l D cy h hM aM hR 
  refine lc_5 cx hl.1 c5 (cwV 0 hts gL_law_X5_which rfl rfl rfl (by decide +kernel) ⟨(Nat.le_of_ble_eq_true rfl), (Nat.le_of_ble_eq_true rfl)⟩) rfl rfl (Nat.le_of_ble_eq_true rfl) dL_law_533 hc hP hD hS (fun u H locs hP hD hS => ?_)
  refine lv_aload_n hx hb dL_law_536 rfl (lv_at hl 1 rfl) ?_
  refine lc_6 cx hl.1 c6 (cwV 0 hts gL_law_X6_which rfl rfl rfl (by decide +kernel) ⟨(Nat.le_of_ble_eq_true rfl), (Nat.le_of_ble_eq_true rfl)⟩) rfl rfl (Nat.le_of_ble_eq_true rfl) dL_law_537 hc hP hD hS (fun H locs hP hD hS => ?_)
  refine lv_icmp_eq (tgt := 799) hx hb dL_law_540 (by decide) (fun _ => ?_) (fun q => absurd rfl q)
  exact kk u Z2 M2 H locs hP hD hS hR2
set_option maxHeartbeats 4000000 in
set_option maxRecDepth 100000 in
theorem lk_share (hL : L ≤ 2048) (cx : ls_Cx p s m c b L xs D cy tF tT) {i : Nat} (hi : i + 3 < L) (hl : lv_has ls 4 [(3, .int (nI i)), (2, .ref hM), (1, .ref h), (0, .ref b)]) (hc : cells ≤ 600000 ∧ slots ≤ 7302250) (hP : va_P D vwCl (ls_W cy h u Z ++ ls_V cy hM aM M) H) (hD : va_D (ls_A s) (ls_W cy h u Z ++ ls_V cy hM aM M)) (hS : va_S (ls_A s) s.heap H locs) (hR : ls_R Z M) (kk : ∀ (u : lw_Ad) (Z : ls_Z) (M : Int64 × dk_O) (H : Heap) (locs : List Loc), va_P D vwCl (ls_W cy h u Z ++ ls_V cy hM aM M) H → va_D (ls_A s) (ls_W cy h u Z ++ ls_V cy hM aM M) → va_S (ls_A s) s.heap H locs → ls_R Z M → W p l e room_1 s m #[Value.ref b] below meth c H locs cells slots Qg (F0 m 799 ls [])) : W p l e room_1 s m #[Value.ref b] below meth c H locs cells slots Qg (F0 m 545 ls []) := by
  obtain ⟨hx, hb, hml, hown, hts, -, -, -, -⟩ := id cx
  refine lv_aload_n hx hb dL_law_545 rfl (lv_at hl 2 rfl) ?_
  refine lv_aload_n hx hb dL_law_546 rfl (lv_at hl 3 rfl) ?_
  refine lv_iload_n hx hb dL_law_547 rfl (lv_at hl 0 rfl) ?_
  refine lv_iconst (v := 1) hx hb dL_law_548 (by decide) ?_
  refine lv_iadd hx hb dL_law_549 ?_
  refine lc_ld cx hS (k := i + 1) ⟨by omega, hL⟩ (nI_add i 1) dL_law_550 ?_
  refine lv_aload_n hx hb dL_law_551 rfl (lv_at hl 3 rfl) ?_
  refine lv_iload_n hx hb dL_law_552 rfl (lv_at hl 0 rfl) ?_
  refine lv_iconst (v := 2) hx hb dL_law_553 (by decide) ?_
  refine lv_iadd hx hb dL_law_554 ?_
  refine lc_ld cx hS (k := i + 2) ⟨by omega, hL⟩ (nI_add i 2) dL_law_555 ?_
  by_cases zq : (xs (i + 2)) = 0
  · refine lv_if_eq (tgt := 563) hx hb dL_law_556 (by decide) (fun _ => ?_) (fun q => absurd zq q)
    refine lv_iconst (v := 0) hx hb dL_law_563 (by decide) ?_
    obtain ⟨r, Z2, M2, c5, c6, hR2⟩ := pr_share l D cy h hM aM hR (xs (i + 1)) 0 (by decide)
    refine lc_5 cx hl.1 c5 (cwV 2 hts gL_law_X5_share rfl rfl rfl (by decide +kernel) ⟨(Nat.le_of_ble_eq_true rfl), (Nat.le_of_ble_eq_true rfl)⟩) rfl rfl (Nat.le_of_ble_eq_true rfl) dL_law_564 hc hP hD hS (fun u H locs hP hD hS => ?_)
    refine lv_aload_n hx hb dL_law_567 rfl (lv_at hl 1 rfl) ?_
    refine lv_aload_n hx hb dL_law_568 rfl (lv_at hl 3 rfl) ?_
    refine lv_iload_n hx hb dL_law_569 rfl (lv_at hl 0 rfl) ?_
    refine lv_iconst (v := 1) hx hb dL_law_570 (by decide) ?_
    refine lv_iadd hx hb dL_law_571 ?_
    refine lc_ld cx hS (k := i + 1) ⟨by omega, hL⟩ (nI_add i 1) dL_law_572 ?_
    refine lv_aload_n hx hb dL_law_573 rfl (lv_at hl 3 rfl) ?_
    refine lv_iload_n hx hb dL_law_574 rfl (lv_at hl 0 rfl) ?_
    refine lv_iconst (v := 2) hx hb dL_law_575 (by decide) ?_
    refine lv_iadd hx hb dL_law_576 ?_
    refine lc_ld cx hS (k := i + 2) ⟨by omega, hL⟩ (nI_add i 2) dL_law_577 ?_
    refine lv_if_eq (tgt := 585) hx hb dL_law_578 (by decide) (fun _ => ?_) (fun q => absurd zq q)
    refine lv_iconst (v := 0) hx hb dL_law_585 (by decide) ?_
    refine lc_6 cx hl.1 c6 (cwV 2 hts gL_law_X6_share rfl rfl rfl (by decide +kernel) ⟨(Nat.le_of_ble_eq_true rfl), (Nat.le_of_ble_eq_true rfl)⟩) rfl rfl (Nat.le_of_ble_eq_true rfl) dL_law_586 hc hP hD hS (fun H locs hP hD hS => ?_)
    refine lv_icmp_eq (tgt := 799) hx hb dL_law_589 (by decide) (fun _ => ?_) (fun q => absurd rfl q)
    exact kk u Z2 M2 H locs hP hD hS hR2
  · refine lv_if_eq (tgt := 563) hx hb dL_law_556 (by decide) (fun q => absurd q zq) (fun _ => ?_)
    refine lv_iconst (v := 1) hx hb dL_law_559 (by decide) ?_
    refine lv_goto (tgt := 564) hx hb dL_law_560 (by decide) ?_
    obtain ⟨r, Z2, M2, c5, c6, hR2⟩ := pr_share l D cy h hM aM hR (xs (i + 1)) 1 (by decide)
    refine lc_5 cx hl.1 c5 (cwV 2 hts gL_law_X5_share rfl rfl rfl (by decide +kernel) ⟨(Nat.le_of_ble_eq_true rfl), (Nat.le_of_ble_eq_true rfl)⟩) rfl rfl (Nat.le_of_ble_eq_true rfl) dL_law_564 hc hP hD hS (fun u H locs hP hD hS => ?_)
    refine lv_aload_n hx hb dL_law_567 rfl (lv_at hl 1 rfl) ?_
    refine lv_aload_n hx hb dL_law_568 rfl (lv_at hl 3 rfl) ?_
    refine lv_iload_n hx hb dL_law_569 rfl (lv_at hl 0 rfl) ?_
    refine lv_iconst (v := 1) hx hb dL_law_570 (by decide) ?_
    refine lv_iadd hx hb dL_law_571 ?_
    refine lc_ld cx hS (k := i + 1) ⟨by omega, hL⟩ (nI_add i 1) dL_law_572 ?_
    refine lv_aload_n hx hb dL_law_573 rfl (lv_at hl 3 rfl) ?_
    refine lv_iload_n hx hb dL_law_574 rfl (lv_at hl 0 rfl) ?_
    refine lv_iconst (v := 2) hx hb dL_law_575 (by decide) ?_
    refine lv_iadd hx hb dL_law_576 ?_
    refine lc_ld cx hS (k := i + 2) ⟨by omega, hL⟩ (nI_add i 2) dL_law_577 ?_
    refine lv_if_eq (tgt := 585) hx hb dL_law_578 (by decide) (fun q => absurd q zq) (fun _ => ?_)
    refine lv_iconst (v := 1) hx hb dL_law_581 (by decide) ?_
    refine lv_goto (tgt := 586) hx hb dL_law_582 (by decide) ?_
    refine lc_6 cx hl.1 c6 (cwV 2 hts gL_law_X6_share rfl rfl rfl (by decide +kernel) ⟨(Nat.le_of_ble_eq_true rfl), (Nat.le_of_ble_eq_true rfl)⟩) rfl rfl (Nat.le_of_ble_eq_true rfl) dL_law_586 hc hP hD hS (fun H locs hP hD hS => ?_)
    refine lv_icmp_eq (tgt := 799) hx hb dL_law_589 (by decide) (fun _ => ?_) (fun q => absurd rfl q)
    exact kk u Z2 M2 H locs hP hD hS hR2
set_option maxHeartbeats 4000000 in
set_option maxRecDepth 100000 in
theorem lk_luck (hL : L ≤ 2048) (cx : ls_Cx p s m c b L xs D cy tF tT) {i : Nat} (hi : i + 3 < L) (hl : lv_has ls 4 [(3, .int (nI i)), (2, .ref hM), (1, .ref h), (0, .ref b)]) (hc : cells ≤ 600000 ∧ slots ≤ 7302250) (hP : va_P D vwCl (ls_W cy h u Z ++ ls_V cy hM aM M) H) (hD : va_D (ls_A s) (ls_W cy h u Z ++ ls_V cy hM aM M)) (hS : va_S (ls_A s) s.heap H locs) (hR : ls_R Z M) (kk : ∀ (u : lw_Ad) (Z : ls_Z) (M : Int64 × dk_O) (H : Heap) (locs : List Loc), va_P D vwCl (ls_W cy h u Z ++ ls_V cy hM aM M) H → va_D (ls_A s) (ls_W cy h u Z ++ ls_V cy hM aM M) → va_S (ls_A s) s.heap H locs → ls_R Z M → W p l e room_1 s m #[Value.ref b] below meth c H locs cells slots Qg (F0 m 799 ls [])) : W p l e room_1 s m #[Value.ref b] below meth c H locs cells slots Qg (F0 m 594 ls []) := by
  obtain ⟨hx, hb, hml, hown, hts, -, -, -, -⟩ := id cx
  refine lv_aload_n hx hb dL_law_594 rfl (lv_at hl 2 rfl) ?_
  refine lv_aload_n hx hb dL_law_595 rfl (lv_at hl 3 rfl) ?_
  refine lv_iload_n hx hb dL_law_596 rfl (lv_at hl 0 rfl) ?_
  refine lv_iconst (v := 1) hx hb dL_law_597 (by decide) ?_
  refine lv_iadd hx hb dL_law_598 ?_
  refine lc_ld cx hS (k := i + 1) ⟨by omega, hL⟩ (nI_add i 1) dL_law_599 ?_
  refine lv_aload_n hx hb dL_law_600 rfl (lv_at hl 3 rfl) ?_
  refine lv_iload_n hx hb dL_law_601 rfl (lv_at hl 0 rfl) ?_
  refine lv_iconst (v := 2) hx hb dL_law_602 (by decide) ?_
  refine lv_iadd hx hb dL_law_603 ?_
  refine lc_ld cx hS (k := i + 2) ⟨by omega, hL⟩ (nI_add i 2) dL_law_604 ?_
  refine lv_aload_n hx hb dL_law_605 rfl (lv_at hl 3 rfl) ?_
  refine lv_iload_n hx hb dL_law_606 rfl (lv_at hl 0 rfl) ?_
  refine lv_iconst (v := 3) hx hb dL_law_607 (by decide) ?_
  refine lv_iadd hx hb dL_law_608 ?_
  refine lc_ld cx hS (k := i + 3) ⟨by omega, hL⟩ (nI_add i 3) dL_law_609 ?_
  by_cases zq : (xs (i + 3)) = 0
  · refine lv_if_eq (tgt := 617) hx hb dL_law_610 (by decide) (fun _ => ?_) (fun q => absurd zq q)
    refine lv_iconst (v := 0) hx hb dL_law_617 (by decide) ?_
    obtain ⟨r, Z2, M2, c5, c6, hR2⟩ := pr_luck l D cy h hM aM hR (xs (i + 1)) (xs (i + 2)) 0 (by decide)
    refine lc_5 cx hl.1 c5 (cwV 3 hts gL_law_X5_luck rfl rfl rfl (by decide +kernel) ⟨(Nat.le_of_ble_eq_true rfl), (Nat.le_of_ble_eq_true rfl)⟩) rfl rfl (Nat.le_of_ble_eq_true rfl) dL_law_618 hc hP hD hS (fun u H locs hP hD hS => ?_)
    refine lv_aload_n hx hb dL_law_621 rfl (lv_at hl 1 rfl) ?_
    refine lv_aload_n hx hb dL_law_622 rfl (lv_at hl 3 rfl) ?_
    refine lv_iload_n hx hb dL_law_623 rfl (lv_at hl 0 rfl) ?_
    refine lv_iconst (v := 1) hx hb dL_law_624 (by decide) ?_
    refine lv_iadd hx hb dL_law_625 ?_
    refine lc_ld cx hS (k := i + 1) ⟨by omega, hL⟩ (nI_add i 1) dL_law_626 ?_
    refine lv_aload_n hx hb dL_law_627 rfl (lv_at hl 3 rfl) ?_
    refine lv_iload_n hx hb dL_law_628 rfl (lv_at hl 0 rfl) ?_
    refine lv_iconst (v := 2) hx hb dL_law_629 (by decide) ?_
    refine lv_iadd hx hb dL_law_630 ?_
    refine lc_ld cx hS (k := i + 2) ⟨by omega, hL⟩ (nI_add i 2) dL_law_631 ?_
    refine lv_aload_n hx hb dL_law_632 rfl (lv_at hl 3 rfl) ?_
    refine lv_iload_n hx hb dL_law_633 rfl (lv_at hl 0 rfl) ?_
    refine lv_iconst (v := 3) hx hb dL_law_634 (by decide) ?_
    refine lv_iadd hx hb dL_law_635 ?_
    refine lc_ld cx hS (k := i + 3) ⟨by omega, hL⟩ (nI_add i 3) dL_law_636 ?_
    refine lv_if_eq (tgt := 644) hx hb dL_law_637 (by decide) (fun _ => ?_) (fun q => absurd zq q)
    refine lv_iconst (v := 0) hx hb dL_law_644 (by decide) ?_
    refine lc_6 cx hl.1 c6 (cwV 3 hts gL_law_X6_luck rfl rfl rfl (by decide +kernel) ⟨(Nat.le_of_ble_eq_true rfl), (Nat.le_of_ble_eq_true rfl)⟩) rfl rfl (Nat.le_of_ble_eq_true rfl) dL_law_645 hc hP hD hS (fun H locs hP hD hS => ?_)
    refine lv_icmp_eq (tgt := 799) hx hb dL_law_648 (by decide) (fun _ => ?_) (fun q => absurd rfl q)
    exact kk u Z2 M2 H locs hP hD hS hR2
  · refine lv_if_eq (tgt := 617) hx hb dL_law_610 (by decide) (fun q => absurd q zq) (fun _ => ?_)
    refine lv_iconst (v := 1) hx hb dL_law_613 (by decide) ?_
    refine lv_goto (tgt := 618) hx hb dL_law_614 (by decide) ?_
    obtain ⟨r, Z2, M2, c5, c6, hR2⟩ := pr_luck l D cy h hM aM hR (xs (i + 1)) (xs (i + 2)) 1 (by decide)
    refine lc_5 cx hl.1 c5 (cwV 3 hts gL_law_X5_luck rfl rfl rfl (by decide +kernel) ⟨(Nat.le_of_ble_eq_true rfl), (Nat.le_of_ble_eq_true rfl)⟩) rfl rfl (Nat.le_of_ble_eq_true rfl) dL_law_618 hc hP hD hS (fun u H locs hP hD hS => ?_)
    refine lv_aload_n hx hb dL_law_621 rfl (lv_at hl 1 rfl) ?_
    refine lv_aload_n hx hb dL_law_622 rfl (lv_at hl 3 rfl) ?_
    refine lv_iload_n hx hb dL_law_623 rfl (lv_at hl 0 rfl) ?_
    refine lv_iconst (v := 1) hx hb dL_law_624 (by decide) ?_
    refine lv_iadd hx hb dL_law_625 ?_
    refine lc_ld cx hS (k := i + 1) ⟨by omega, hL⟩ (nI_add i 1) dL_law_626 ?_
    refine lv_aload_n hx hb dL_law_627 rfl (lv_at hl 3 rfl) ?_
    refine lv_iload_n hx hb dL_law_628 rfl (lv_at hl 0 rfl) ?_
    refine lv_iconst (v := 2) hx hb dL_law_629 (by decide) ?_
    refine lv_iadd hx hb dL_law_630 ?_
    refine lc_ld cx hS (k := i + 2) ⟨by omega, hL⟩ (nI_add i 2) dL_law_631 ?_
    refine lv_aload_n hx hb dL_law_632 rfl (lv_at hl 3 rfl) ?_
    refine lv_iload_n hx hb dL_law_633 rfl (lv_at hl 0 rfl) ?_
    refine lv_iconst (v := 3) hx hb dL_law_634 (by decide) ?_
    refine lv_iadd hx hb dL_law_635 ?_
    refine lc_ld cx hS (k := i + 3) ⟨by omega, hL⟩ (nI_add i 3) dL_law_636 ?_
    refine lv_if_eq (tgt := 644) hx hb dL_law_637 (by decide) (fun q => absurd q zq) (fun _ => ?_)
    refine lv_iconst (v := 1) hx hb dL_law_640 (by decide) ?_
    refine lv_goto (tgt := 645) hx hb dL_law_641 (by decide) ?_
    refine lc_6 cx hl.1 c6 (cwV 3 hts gL_law_X6_luck rfl rfl rfl (by decide +kernel) ⟨(Nat.le_of_ble_eq_true rfl), (Nat.le_of_ble_eq_true rfl)⟩) rfl rfl (Nat.le_of_ble_eq_true rfl) dL_law_645 hc hP hD hS (fun H locs hP hD hS => ?_)
    refine lv_icmp_eq (tgt := 799) hx hb dL_law_648 (by decide) (fun _ => ?_) (fun q => absurd rfl q)
    exact kk u Z2 M2 H locs hP hD hS hR2
set_option maxHeartbeats 4000000 in
set_option maxRecDepth 100000 in
theorem lk_seed (hL : L ≤ 2048) (cx : ls_Cx p s m c b L xs D cy tF tT) {i : Nat} (hi : i + 3 < L) (hl : lv_has ls 4 [(3, .int (nI i)), (2, .ref hM), (1, .ref h), (0, .ref b)]) (hc : cells ≤ 600000 ∧ slots ≤ 7302250) (hP : va_P D vwCl (ls_W cy h u Z ++ ls_V cy hM aM M) H) (hD : va_D (ls_A s) (ls_W cy h u Z ++ ls_V cy hM aM M)) (hS : va_S (ls_A s) s.heap H locs) (hR : ls_R Z M) (kk : ∀ (u : lw_Ad) (Z : ls_Z) (M : Int64 × dk_O) (H : Heap) (locs : List Loc), va_P D vwCl (ls_W cy h u Z ++ ls_V cy hM aM M) H → va_D (ls_A s) (ls_W cy h u Z ++ ls_V cy hM aM M) → va_S (ls_A s) s.heap H locs → ls_R Z M → W p l e room_1 s m #[Value.ref b] below meth c H locs cells slots Qg (F0 m 799 ls [])) : W p l e room_1 s m #[Value.ref b] below meth c H locs cells slots Qg (F0 m 653 ls []) := by
  obtain ⟨hx, hb, hml, hown, hts, -, -, -, -⟩ := id cx
  refine lv_aload_n hx hb dL_law_653 rfl (lv_at hl 2 rfl) ?_
  refine lv_aload_n hx hb dL_law_654 rfl (lv_at hl 3 rfl) ?_
  refine lv_iload_n hx hb dL_law_655 rfl (lv_at hl 0 rfl) ?_
  refine lv_iconst (v := 1) hx hb dL_law_656 (by decide) ?_
  refine lv_iadd hx hb dL_law_657 ?_
  refine lc_ld cx hS (k := i + 1) ⟨by omega, hL⟩ (nI_add i 1) dL_law_658 ?_
  refine lv_i2l hx hb dL_law_659 rfl ?_
  refine lv_bipush (v := 32) hx hb dL_law_660 (by decide) ?_
  refine lv_lshl hx hb dL_law_662 rfl ?_
  refine lv_aload_n hx hb dL_law_663 rfl (lv_at hl 3 rfl) ?_
  refine lv_iload_n hx hb dL_law_664 rfl (lv_at hl 0 rfl) ?_
  refine lv_iconst (v := 2) hx hb dL_law_665 (by decide) ?_
  refine lv_iadd hx hb dL_law_666 ?_
  refine lc_ld cx hS (k := i + 2) ⟨by omega, hL⟩ (nI_add i 2) dL_law_667 ?_
  refine lv_i2l hx hb dL_law_668 rfl ?_
  refine lv_ldc2 hx hb hown (hts (Cond.constantLong RL 68 (4294967295)) (List.mem_of_getElem? (i := 6) rfl)) dL_law_669 ?_
  refine lv_land hx hb dL_law_672 ?_
  refine lv_lor hx hb dL_law_673 ?_
  obtain ⟨r, Z2, M2, c5, c6, hR2⟩ := pr_seed l D cy h hM aM hR (((xs (i + 1)).toInt64 <<< ((32 : Int32).toInt64 &&& 63)) ||| ((xs (i + 2)).toInt64 &&& 4294967295))
  refine lc_5L cx hl.1 c5 (cwV 1 hts gL_law_X5_seed rfl rfl rfl (by decide +kernel) ⟨(Nat.le_of_ble_eq_true rfl), (Nat.le_of_ble_eq_true rfl)⟩) rfl rfl (Nat.le_of_ble_eq_true rfl) dL_law_674 hc hP hD hS (fun u H locs hP hD hS => ?_)
  refine lv_aload_n hx hb dL_law_677 rfl (lv_at hl 1 rfl) ?_
  refine lv_aload_n hx hb dL_law_678 rfl (lv_at hl 3 rfl) ?_
  refine lv_iload_n hx hb dL_law_679 rfl (lv_at hl 0 rfl) ?_
  refine lv_iconst (v := 1) hx hb dL_law_680 (by decide) ?_
  refine lv_iadd hx hb dL_law_681 ?_
  refine lc_ld cx hS (k := i + 1) ⟨by omega, hL⟩ (nI_add i 1) dL_law_682 ?_
  refine lv_i2l hx hb dL_law_683 rfl ?_
  refine lv_bipush (v := 32) hx hb dL_law_684 (by decide) ?_
  refine lv_lshl hx hb dL_law_686 rfl ?_
  refine lv_aload_n hx hb dL_law_687 rfl (lv_at hl 3 rfl) ?_
  refine lv_iload_n hx hb dL_law_688 rfl (lv_at hl 0 rfl) ?_
  refine lv_iconst (v := 2) hx hb dL_law_689 (by decide) ?_
  refine lv_iadd hx hb dL_law_690 ?_
  refine lc_ld cx hS (k := i + 2) ⟨by omega, hL⟩ (nI_add i 2) dL_law_691 ?_
  refine lv_i2l hx hb dL_law_692 rfl ?_
  refine lv_ldc2 hx hb hown (hts (Cond.constantLong RL 68 (4294967295)) (List.mem_of_getElem? (i := 6) rfl)) dL_law_693 ?_
  refine lv_land hx hb dL_law_696 ?_
  refine lv_lor hx hb dL_law_697 ?_
  refine lc_6L cx hl.1 c6 (cwV 1 hts gL_law_X6_seed rfl rfl rfl (by decide +kernel) ⟨(Nat.le_of_ble_eq_true rfl), (Nat.le_of_ble_eq_true rfl)⟩) rfl rfl (Nat.le_of_ble_eq_true rfl) dL_law_698 hc hP hD hS (fun H locs hP hD hS => ?_)
  refine W.lcmp hx hb dL_law_701 ?_
  refine lv_if_eq (tgt := 799) hx hb dL_law_702 (by decide) (fun _ => ?_) (fun q => absurd (lc_cmp r) q)
  exact kk u Z2 M2 H locs hP hD hS hR2
set_option maxHeartbeats 4000000 in
set_option maxRecDepth 100000 in
theorem lk_drawn (hL : L ≤ 2048) (cx : ls_Cx p s m c b L xs D cy tF tT) {i : Nat} (hi : i + 3 < L) (hl : lv_has ls 4 [(3, .int (nI i)), (2, .ref hM), (1, .ref h), (0, .ref b)]) (hc : cells ≤ 600000 ∧ slots ≤ 7302250) (hP : va_P D vwCl (ls_W cy h u Z ++ ls_V cy hM aM M) H) (hD : va_D (ls_A s) (ls_W cy h u Z ++ ls_V cy hM aM M)) (hS : va_S (ls_A s) s.heap H locs) (hR : ls_R Z M) (kk : ∀ (u : lw_Ad) (Z : ls_Z) (M : Int64 × dk_O) (H : Heap) (locs : List Loc), va_P D vwCl (ls_W cy h u Z ++ ls_V cy hM aM M) H → va_D (ls_A s) (ls_W cy h u Z ++ ls_V cy hM aM M) → va_S (ls_A s) s.heap H locs → ls_R Z M → W p l e room_1 s m #[Value.ref b] below meth c H locs cells slots Qg (F0 m 799 ls [])) : W p l e room_1 s m #[Value.ref b] below meth c H locs cells slots Qg (F0 m 707 ls []) := by
  obtain ⟨hx, hb, hml, hown, hts, -, -, -, -⟩ := id cx
  refine lv_aload_n hx hb dL_law_707 rfl (lv_at hl 2 rfl) ?_
  refine lv_aload_n hx hb dL_law_708 rfl (lv_at hl 3 rfl) ?_
  refine lv_iload_n hx hb dL_law_709 rfl (lv_at hl 0 rfl) ?_
  refine lv_iconst (v := 1) hx hb dL_law_710 (by decide) ?_
  refine lv_iadd hx hb dL_law_711 ?_
  refine lc_ld cx hS (k := i + 1) ⟨by omega, hL⟩ (nI_add i 1) dL_law_712 ?_
  obtain ⟨r, Z2, M2, c5, c6, hR2⟩ := pr_drawn l D cy h hM aM hR (xs (i + 1))
  refine lc_5 cx hl.1 c5 (cwV 1 hts gL_law_X5_drawn rfl rfl rfl (by decide +kernel) ⟨(Nat.le_of_ble_eq_true rfl), (Nat.le_of_ble_eq_true rfl)⟩) rfl rfl (Nat.le_of_ble_eq_true rfl) dL_law_713 hc hP hD hS (fun u H locs hP hD hS => ?_)
  refine lv_aload_n hx hb dL_law_716 rfl (lv_at hl 1 rfl) ?_
  refine lv_aload_n hx hb dL_law_717 rfl (lv_at hl 3 rfl) ?_
  refine lv_iload_n hx hb dL_law_718 rfl (lv_at hl 0 rfl) ?_
  refine lv_iconst (v := 1) hx hb dL_law_719 (by decide) ?_
  refine lv_iadd hx hb dL_law_720 ?_
  refine lc_ld cx hS (k := i + 1) ⟨by omega, hL⟩ (nI_add i 1) dL_law_721 ?_
  refine lc_6 cx hl.1 c6 (cwV 1 hts gL_law_X6_drawn rfl rfl rfl (by decide +kernel) ⟨(Nat.le_of_ble_eq_true rfl), (Nat.le_of_ble_eq_true rfl)⟩) rfl rfl (Nat.le_of_ble_eq_true rfl) dL_law_722 hc hP hD hS (fun H locs hP hD hS => ?_)
  refine lv_icmp_eq (tgt := 799) hx hb dL_law_725 (by decide) (fun _ => ?_) (fun q => absurd rfl q)
  exact kk u Z2 M2 H locs hP hD hS hR2
set_option maxHeartbeats 4000000 in
set_option maxRecDepth 100000 in
theorem lk_keep (hL : L ≤ 2048) (cx : ls_Cx p s m c b L xs D cy tF tT) {i : Nat} (hi : i + 3 < L) (hl : lv_has ls 4 [(3, .int (nI i)), (2, .ref hM), (1, .ref h), (0, .ref b)]) (hc : cells ≤ 600000 ∧ slots ≤ 7302250) (hP : va_P D vwCl (ls_W cy h u Z ++ ls_V cy hM aM M) H) (hD : va_D (ls_A s) (ls_W cy h u Z ++ ls_V cy hM aM M)) (hS : va_S (ls_A s) s.heap H locs) (hR : ls_R Z M) (kk : ∀ (u : lw_Ad) (Z : ls_Z) (M : Int64 × dk_O) (H : Heap) (locs : List Loc), va_P D vwCl (ls_W cy h u Z ++ ls_V cy hM aM M) H → va_D (ls_A s) (ls_W cy h u Z ++ ls_V cy hM aM M) → va_S (ls_A s) s.heap H locs → ls_R Z M → W p l e room_1 s m #[Value.ref b] below meth c H locs cells slots Qg (F0 m 799 ls [])) : W p l e room_1 s m #[Value.ref b] below meth c H locs cells slots Qg (F0 m 730 ls []) := by
  obtain ⟨hx, hb, hml, hown, hts, -, -, -, -⟩ := id cx
  refine lv_aload_n hx hb dL_law_730 rfl (lv_at hl 2 rfl) ?_
  refine lv_aload_n hx hb dL_law_731 rfl (lv_at hl 3 rfl) ?_
  refine lv_iload_n hx hb dL_law_732 rfl (lv_at hl 0 rfl) ?_
  refine lv_iconst (v := 1) hx hb dL_law_733 (by decide) ?_
  refine lv_iadd hx hb dL_law_734 ?_
  refine lc_ld cx hS (k := i + 1) ⟨by omega, hL⟩ (nI_add i 1) dL_law_735 ?_
  obtain ⟨r, Z2, M2, c5, c6, hR2⟩ := pr_keep l D cy h hM aM hR (xs (i + 1))
  refine lc_5 cx hl.1 c5 (cwV 1 hts gL_law_X5_keep rfl rfl rfl (by decide +kernel) ⟨(Nat.le_of_ble_eq_true rfl), (Nat.le_of_ble_eq_true rfl)⟩) rfl rfl (Nat.le_of_ble_eq_true rfl) dL_law_736 hc hP hD hS (fun u H locs hP hD hS => ?_)
  refine lv_aload_n hx hb dL_law_739 rfl (lv_at hl 1 rfl) ?_
  refine lv_aload_n hx hb dL_law_740 rfl (lv_at hl 3 rfl) ?_
  refine lv_iload_n hx hb dL_law_741 rfl (lv_at hl 0 rfl) ?_
  refine lv_iconst (v := 1) hx hb dL_law_742 (by decide) ?_
  refine lv_iadd hx hb dL_law_743 ?_
  refine lc_ld cx hS (k := i + 1) ⟨by omega, hL⟩ (nI_add i 1) dL_law_744 ?_
  refine lc_6 cx hl.1 c6 (cwV 1 hts gL_law_X6_keep rfl rfl rfl (by decide +kernel) ⟨(Nat.le_of_ble_eq_true rfl), (Nat.le_of_ble_eq_true rfl)⟩) rfl rfl (Nat.le_of_ble_eq_true rfl) dL_law_745 hc hP hD hS (fun H locs hP hD hS => ?_)
  refine lv_icmp_eq (tgt := 799) hx hb dL_law_748 (by decide) (fun _ => ?_) (fun q => absurd rfl q)
  exact kk u Z2 M2 H locs hP hD hS hR2
set_option maxHeartbeats 4000000 in
set_option maxRecDepth 100000 in
theorem lk_again (hL : L ≤ 2048) (cx : ls_Cx p s m c b L xs D cy tF tT) {i : Nat} (hi : i + 3 < L) (hl : lv_has ls 4 [(3, .int (nI i)), (2, .ref hM), (1, .ref h), (0, .ref b)]) (hc : cells ≤ 600000 ∧ slots ≤ 7302250) (hP : va_P D vwCl (ls_W cy h u Z ++ ls_V cy hM aM M) H) (hD : va_D (ls_A s) (ls_W cy h u Z ++ ls_V cy hM aM M)) (hS : va_S (ls_A s) s.heap H locs) (hR : ls_R Z M) (kk : ∀ (u : lw_Ad) (Z : ls_Z) (M : Int64 × dk_O) (H : Heap) (locs : List Loc), va_P D vwCl (ls_W cy h u Z ++ ls_V cy hM aM M) H → va_D (ls_A s) (ls_W cy h u Z ++ ls_V cy hM aM M) → va_S (ls_A s) s.heap H locs → ls_R Z M → W p l e room_1 s m #[Value.ref b] below meth c H locs cells slots Qg (F0 m 799 ls [])) : W p l e room_1 s m #[Value.ref b] below meth c H locs cells slots Qg (F0 m 753 ls []) := by
  obtain ⟨hx, hb, hml, hown, hts, -, -, -, -⟩ := id cx
  refine lv_aload_n hx hb dL_law_753 rfl (lv_at hl 2 rfl) ?_
  refine lv_aload_n hx hb dL_law_754 rfl (lv_at hl 3 rfl) ?_
  refine lv_iload_n hx hb dL_law_755 rfl (lv_at hl 0 rfl) ?_
  refine lv_iconst (v := 1) hx hb dL_law_756 (by decide) ?_
  refine lv_iadd hx hb dL_law_757 ?_
  refine lc_ld cx hS (k := i + 1) ⟨by omega, hL⟩ (nI_add i 1) dL_law_758 ?_
  obtain ⟨r, Z2, M2, c5, c6, hR2⟩ := pr_again l D cy h hM aM hR (xs (i + 1))
  refine lc_5 cx hl.1 c5 (cwV 1 hts gL_law_X5_again rfl rfl rfl (by decide +kernel) ⟨(Nat.le_of_ble_eq_true rfl), (Nat.le_of_ble_eq_true rfl)⟩) rfl rfl (Nat.le_of_ble_eq_true rfl) dL_law_759 hc hP hD hS (fun u H locs hP hD hS => ?_)
  refine lv_aload_n hx hb dL_law_762 rfl (lv_at hl 1 rfl) ?_
  refine lv_aload_n hx hb dL_law_763 rfl (lv_at hl 3 rfl) ?_
  refine lv_iload_n hx hb dL_law_764 rfl (lv_at hl 0 rfl) ?_
  refine lv_iconst (v := 1) hx hb dL_law_765 (by decide) ?_
  refine lv_iadd hx hb dL_law_766 ?_
  refine lc_ld cx hS (k := i + 1) ⟨by omega, hL⟩ (nI_add i 1) dL_law_767 ?_
  refine lc_6 cx hl.1 c6 (cwV 1 hts gL_law_X6_again rfl rfl rfl (by decide +kernel) ⟨(Nat.le_of_ble_eq_true rfl), (Nat.le_of_ble_eq_true rfl)⟩) rfl rfl (Nat.le_of_ble_eq_true rfl) dL_law_768 hc hP hD hS (fun H locs hP hD hS => ?_)
  refine lv_icmp_eq (tgt := 799) hx hb dL_law_771 (by decide) (fun _ => ?_) (fun q => absurd rfl q)
  exact kk u Z2 M2 H locs hP hD hS hR2
set_option maxHeartbeats 4000000 in
set_option maxRecDepth 100000 in
theorem lk_count (hL : L ≤ 2048) (cx : ls_Cx p s m c b L xs D cy tF tT) {i : Nat} (hi : i + 3 < L) (hl : lv_has ls 4 [(3, .int (nI i)), (2, .ref hM), (1, .ref h), (0, .ref b)]) (hc : cells ≤ 600000 ∧ slots ≤ 7302250) (hP : va_P D vwCl (ls_W cy h u Z ++ ls_V cy hM aM M) H) (hD : va_D (ls_A s) (ls_W cy h u Z ++ ls_V cy hM aM M)) (hS : va_S (ls_A s) s.heap H locs) (hR : ls_R Z M) (kk : ∀ (u : lw_Ad) (Z : ls_Z) (M : Int64 × dk_O) (H : Heap) (locs : List Loc), va_P D vwCl (ls_W cy h u Z ++ ls_V cy hM aM M) H → va_D (ls_A s) (ls_W cy h u Z ++ ls_V cy hM aM M) → va_S (ls_A s) s.heap H locs → ls_R Z M → W p l e room_1 s m #[Value.ref b] below meth c H locs cells slots Qg (F0 m 799 ls [])) : W p l e room_1 s m #[Value.ref b] below meth c H locs cells slots Qg (F0 m 776 ls []) := by
  obtain ⟨hx, hb, hml, hown, hts, -, -, -, -⟩ := id cx
  refine lv_aload_n hx hb dL_law_776 rfl (lv_at hl 2 rfl) ?_
  refine lv_aload_n hx hb dL_law_777 rfl (lv_at hl 3 rfl) ?_
  refine lv_iload_n hx hb dL_law_778 rfl (lv_at hl 0 rfl) ?_
  refine lv_iconst (v := 1) hx hb dL_law_779 (by decide) ?_
  refine lv_iadd hx hb dL_law_780 ?_
  refine lc_ld cx hS (k := i + 1) ⟨by omega, hL⟩ (nI_add i 1) dL_law_781 ?_
  obtain ⟨r, Z2, M2, c5, c6, hR2⟩ := pr_count l D cy h hM aM hR (xs (i + 1))
  refine lc_5 cx hl.1 c5 (cwV 1 hts gL_law_X5_count rfl rfl rfl (by decide +kernel) ⟨(Nat.le_of_ble_eq_true rfl), (Nat.le_of_ble_eq_true rfl)⟩) rfl rfl (Nat.le_of_ble_eq_true rfl) dL_law_782 hc hP hD hS (fun u H locs hP hD hS => ?_)
  refine lv_aload_n hx hb dL_law_785 rfl (lv_at hl 1 rfl) ?_
  refine lv_aload_n hx hb dL_law_786 rfl (lv_at hl 3 rfl) ?_
  refine lv_iload_n hx hb dL_law_787 rfl (lv_at hl 0 rfl) ?_
  refine lv_iconst (v := 1) hx hb dL_law_788 (by decide) ?_
  refine lv_iadd hx hb dL_law_789 ?_
  refine lc_ld cx hS (k := i + 1) ⟨by omega, hL⟩ (nI_add i 1) dL_law_790 ?_
  refine lc_6 cx hl.1 c6 (cwV 1 hts gL_law_X6_count rfl rfl rfl (by decide +kernel) ⟨(Nat.le_of_ble_eq_true rfl), (Nat.le_of_ble_eq_true rfl)⟩) rfl rfl (Nat.le_of_ble_eq_true rfl) dL_law_791 hc hP hD hS (fun H locs hP hD hS => ?_)
  refine lv_icmp_eq (tgt := 799) hx hb dL_law_794 (by decide) (fun _ => ?_) (fun q => absurd rfl q)
  exact kk u Z2 M2 H locs hP hD hS hR2
end LK2
