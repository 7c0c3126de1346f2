set_option maxHeartbeats 4000000 in
set_option maxRecDepth 100000 in
theorem lw_case_version {p : Program} {l : Launch} {e : Env} {s : State} {m : MethodId} {below : List Frame} {meth : Method} {c : Code} {b L : Nat} {xs : Nat → Int32} {D : va_G} {cI cT cJ cZ : ClassId} {ad am : Nat → Nat → Nat} (C0 : lw_C p s m meth c b L xs D cI cT cJ cZ ad am) {n : Nat} (h4 : 4 * n + 4 ≤ L) {H : Heap} {locs : List Loc} {ls : Array Slot} (I : lw_I s D cI cT cJ cZ ad am n H locs) (hl : lv_has ls 4 [(0, .ref b), (1, .ref (ad 0 0)), (2, .ref (am 0 0)), (3, .int (nI (4 * n)))]) (kk : ∀ (H : Heap) (locs : List Loc), lw_I s D cI cT cJ cZ ad am (n + 1) H locs → W p l e room_1 s m #[Value.ref b] below meth c H locs 219 4059 (lw_Z below #[Value.ref b] s) (F0 m 503 ls [])) : W p l e room_1 s m #[Value.ref b] below meth c H locs 219 4059 (lw_Z below #[Value.ref b] s) (F0 m 378 ls []) := by
  obtain ⟨⟨hx, hb, hr, hml, hown, hts0, hX, hbl, hlocks, hgv⟩, hK, hKm, hN, hI, hIm, hAx, hAm, hdis, hL⟩ := C0
  have hts : ∀ w ∈ (Cond.initialized "TermBook" :: gt_T), w.before #[Value.ref b] s = true := fun w hw => hts0 w (gt_sub w (gt_cons gt_1 w hw))
  have ht := fun (w : Cond) (h : w ∈ gt_T) => hts w (List.mem_cons_of_mem _ h)
  have hbA : ¬ (fun q : Nat => s.heap.size ≤ q) b := Nat.not_le.mpr hbl
  have i1 : vp_in (nI (4 * n) + 1) L := lw_in (k := 1) (by omega) hL
  have i2 : vp_in (nI (4 * n) + 2) L := lw_in (k := 2) (by omega) hL
  have i3 : vp_in (nI (4 * n) + 3) L := lw_in (k := 3) (by omega) hL
  obtain ⟨u, a, hH, hM, hW, hR, hS⟩ := I
  obtain ⟨r, u', a', e1, e2, hW', hR'⟩ := op_version n a u (by omega) hW hR
  refine lv_aload_n hx hb gd_Lw_law_378 rfl (lv_at hl 1 rfl) ?_
  refine lw_call (va_runV (As := []) (rest := []) ⟨hx, hb, hml, hown, hts⟩ (ct_Bk_version l D cI cT ad hI u  (r, u') e1) (cwV 0 hts (gt_V gt_289 gt_290 gt_291 gt_1 gt_292) rfl rfl rfl (by decide +kernel) ⟨Nat.le_of_ble_eq_true rfl, Nat.le_of_ble_eq_true rfl⟩) (gq_preV hH hK hN (va_recv hK (gq_one (c := 0) (k := 0) hH rfl (gk_c0 cI cT ad u)) (ci := 0) (q0 := 0) rfl rfl)) rfl rfl hl.1 rfl (lv_room (Nat.le_of_ble_eq_true rfl)) gd_Lw_law_379 ⟨Nat.le_of_ble_eq_true rfl, Nat.le_of_ble_eq_true rfl⟩) hAx hdis hM hS (fun H locs hH hM hS => ?_)
  refine lv_aload_n hx hb gd_Lw_law_382 rfl (lv_at hl 2 rfl) ?_
  refine lw_call (va_runV (As := []) (rest := [.int r]) ⟨hx, hb, hml, hown, hts⟩ (ct_Md_version l D cJ cZ am hIm (ga_v a)  (r, ga_v a') e2) (cwV 0 hts (gt_V gt_511 gt_512 gt_513 gt_5 gt_514) rfl rfl rfl (by decide +kernel) ⟨Nat.le_of_ble_eq_true rfl, Nat.le_of_ble_eq_true rfl⟩) (gq_preV hM hKm ⟨fun q h => absurd h List.not_mem_nil, fun q h => absurd h List.not_mem_nil⟩ (va_recv hKm (gq_one (c := 0) (k := 0) hM rfl (gm_c0 cJ cZ am (ga_v a))) (ci := 4) (q0 := 0) rfl rfl)) rfl rfl hl.1 rfl (lv_room (Nat.le_of_ble_eq_true rfl)) gd_Lw_law_383 ⟨Nat.le_of_ble_eq_true rfl, Nat.le_of_ble_eq_true rfl⟩) hAm (fun q h h' => hdis q h' h) hH hS (fun H locs hM hH hS => ?_)
  refine lv_icmp_eq (tgt := 503) hx hb gd_Lw_law_386 (by decide) (fun _ => ?_) (fun c9 => absurd rfl c9)
  exact kk H locs ⟨u', a', hH, hM, hW', hR', hS⟩
set_option maxHeartbeats 4000000 in
set_option maxRecDepth 100000 in
theorem lw_case_release {p : Program} {l : Launch} {e : Env} {s : State} {m : MethodId} {below : List Frame} {meth : Method} {c : Code} {b L : Nat} {xs : Nat → Int32} {D : va_G} {cI cT cJ cZ : ClassId} {ad am : Nat → Nat → Nat} (C0 : lw_C p s m meth c b L xs D cI cT cJ cZ ad am) {n : Nat} (h4 : 4 * n + 4 ≤ L) {H : Heap} {locs : List Loc} {ls : Array Slot} (I : lw_I s D cI cT cJ cZ ad am n H locs) (hl : lv_has ls 4 [(0, .ref b), (1, .ref (ad 0 0)), (2, .ref (am 0 0)), (3, .int (nI (4 * n)))]) (kk : ∀ (H : Heap) (locs : List Loc), lw_I s D cI cT cJ cZ ad am (n + 1) H locs → W p l e room_1 s m #[Value.ref b] below meth c H locs 219 4059 (lw_Z below #[Value.ref b] s) (F0 m 503 ls [])) : W p l e room_1 s m #[Value.ref b] below meth c H locs 219 4059 (lw_Z below #[Value.ref b] s) (F0 m 391 ls []) := by
  obtain ⟨⟨hx, hb, hr, hml, hown, hts0, hX, hbl, hlocks, hgv⟩, hK, hKm, hN, hI, hIm, hAx, hAm, hdis, hL⟩ := C0
  have hts : ∀ w ∈ (Cond.initialized "TermBook" :: gt_T), w.before #[Value.ref b] s = true := fun w hw => hts0 w (gt_sub w (gt_cons gt_1 w hw))
  have ht := fun (w : Cond) (h : w ∈ gt_T) => hts w (List.mem_cons_of_mem _ h)
  have hbA : ¬ (fun q : Nat => s.heap.size ≤ q) b := Nat.not_le.mpr hbl
  have i1 : vp_in (nI (4 * n) + 1) L := lw_in (k := 1) (by omega) hL
  have i2 : vp_in (nI (4 * n) + 2) L := lw_in (k := 2) (by omega) hL
  have i3 : vp_in (nI (4 * n) + 3) L := lw_in (k := 3) (by omega) hL
  obtain ⟨u, a, hH, hM, hW, hR, hS⟩ := I
  obtain ⟨r, u', a', e1, e2, hW', hR'⟩ := op_release (xs (Int32.toNatClampNeg (nI (4 * n) + 1))) n a u (by omega) hW hR
  refine lv_aload_n hx hb gd_Lw_law_391 rfl (lv_at hl 1 rfl) ?_
  refine lv_aload_n hx hb gd_Lw_law_392 rfl (lv_at hl 0 rfl) ?_
  refine lv_iload_n hx hb gd_Lw_law_393 rfl (lv_at hl 3 rfl) ?_
  refine lv_iconst (v := 1) hx hb gd_Lw_law_394 (by decide) ?_
  refine lv_iadd hx hb gd_Lw_law_395 ?_
  refine va_sld hx hb hX hbl hbA hS i1 gd_Lw_law_396 ?_
  refine lw_call (va_runV (As := [.int (xs (Int32.toNatClampNeg (nI (4 * n) + 1)))]) (rest := []) ⟨hx, hb, hml, hown, hts⟩ (ct_Bk_release l D cI cT ad hI u (xs (Int32.toNatClampNeg (nI (4 * n) + 1))) (r, u') e1) (cwV 1 hts (gt_V gt_301 gt_302 gt_303 gt_1 gt_304) rfl rfl rfl (by decide +kernel) ⟨Nat.le_of_ble_eq_true rfl, Nat.le_of_ble_eq_true rfl⟩) (gq_preV hH hK hN (va_recv hK (gq_one (c := 0) (k := 0) hH rfl (gk_c0 cI cT ad u)) (ci := 0) (q0 := 0) rfl rfl)) rfl rfl hl.1 rfl (lv_room (Nat.le_of_ble_eq_true rfl)) gd_Lw_law_397 ⟨Nat.le_of_ble_eq_true rfl, Nat.le_of_ble_eq_true rfl⟩) hAx hdis hM hS (fun H locs hH hM hS => ?_)
  refine lv_aload_n hx hb gd_Lw_law_400 rfl (lv_at hl 2 rfl) ?_
  refine lv_aload_n hx hb gd_Lw_law_401 rfl (lv_at hl 0 rfl) ?_
  refine lv_iload_n hx hb gd_Lw_law_402 rfl (lv_at hl 3 rfl) ?_
  refine lv_iconst (v := 1) hx hb gd_Lw_law_403 (by decide) ?_
  refine lv_iadd hx hb gd_Lw_law_404 ?_
  refine va_sld hx hb hX hbl hbA hS i1 gd_Lw_law_405 ?_
  refine lw_call (va_runV (As := [.int (xs (Int32.toNatClampNeg (nI (4 * n) + 1)))]) (rest := [.int r]) ⟨hx, hb, hml, hown, hts⟩ (ct_Md_release l D cJ cZ am hIm (ga_v a) (xs (Int32.toNatClampNeg (nI (4 * n) + 1))) (r, ga_v a') e2) (cwV 1 hts (gt_V gt_515 gt_516 gt_517 gt_5 gt_518) rfl rfl rfl (by decide +kernel) ⟨Nat.le_of_ble_eq_true rfl, Nat.le_of_ble_eq_true rfl⟩) (gq_preV hM hKm ⟨fun q h => absurd h List.not_mem_nil, fun q h => absurd h List.not_mem_nil⟩ (va_recv hKm (gq_one (c := 0) (k := 0) hM rfl (gm_c0 cJ cZ am (ga_v a))) (ci := 4) (q0 := 0) rfl rfl)) rfl rfl hl.1 rfl (lv_room (Nat.le_of_ble_eq_true rfl)) gd_Lw_law_406 ⟨Nat.le_of_ble_eq_true rfl, Nat.le_of_ble_eq_true rfl⟩) hAm (fun q h h' => hdis q h' h) hH hS (fun H locs hM hH hS => ?_)
  refine lv_icmp_eq (tgt := 503) hx hb gd_Lw_law_409 (by decide) (fun _ => ?_) (fun c9 => absurd rfl c9)
  exact kk H locs ⟨u', a', hH, hM, hW', hR', hS⟩
set_option maxHeartbeats 4000000 in
set_option maxRecDepth 100000 in
theorem lw_case_had {p : Program} {l : Launch} {e : Env} {s : State} {m : MethodId} {below : List Frame} {meth : Method} {c : Code} {b L : Nat} {xs : Nat → Int32} {D : va_G} {cI cT cJ cZ : ClassId} {ad am : Nat → Nat → Nat} (C0 : lw_C p s m meth c b L xs D cI cT cJ cZ ad am) {n : Nat} (h4 : 4 * n + 4 ≤ L) {H : Heap} {locs : List Loc} {ls : Array Slot} (I : lw_I s D cI cT cJ cZ ad am n H locs) (hl : lv_has ls 4 [(0, .ref b), (1, .ref (ad 0 0)), (2, .ref (am 0 0)), (3, .int (nI (4 * n)))]) (kk : ∀ (H : Heap) (locs : List Loc), lw_I s D cI cT cJ cZ ad am (n + 1) H locs → W p l e room_1 s m #[Value.ref b] below meth c H locs 219 4059 (lw_Z below #[Value.ref b] s) (F0 m 503 ls [])) : W p l e room_1 s m #[Value.ref b] below meth c H locs 219 4059 (lw_Z below #[Value.ref b] s) (F0 m 414 ls []) := by
  obtain ⟨⟨hx, hb, hr, hml, hown, hts0, hX, hbl, hlocks, hgv⟩, hK, hKm, hN, hI, hIm, hAx, hAm, hdis, hL⟩ := C0
  have hts : ∀ w ∈ (Cond.initialized "TermBook" :: gt_T), w.before #[Value.ref b] s = true := fun w hw => hts0 w (gt_sub w (gt_cons gt_1 w hw))
  have ht := fun (w : Cond) (h : w ∈ gt_T) => hts w (List.mem_cons_of_mem _ h)
  have hbA : ¬ (fun q : Nat => s.heap.size ≤ q) b := Nat.not_le.mpr hbl
  have i1 : vp_in (nI (4 * n) + 1) L := lw_in (k := 1) (by omega) hL
  have i2 : vp_in (nI (4 * n) + 2) L := lw_in (k := 2) (by omega) hL
  have i3 : vp_in (nI (4 * n) + 3) L := lw_in (k := 3) (by omega) hL
  obtain ⟨u, a, hH, hM, hW, hR, hS⟩ := I
  obtain ⟨r, u', a', e1, e2, hW', hR'⟩ := op_had (xs (Int32.toNatClampNeg (nI (4 * n) + 1))) (xs (Int32.toNatClampNeg (nI (4 * n) + 2))) n a u (by omega) hW hR
  refine lv_aload_n hx hb gd_Lw_law_414 rfl (lv_at hl 1 rfl) ?_
  refine lv_aload_n hx hb gd_Lw_law_415 rfl (lv_at hl 0 rfl) ?_
  refine lv_iload_n hx hb gd_Lw_law_416 rfl (lv_at hl 3 rfl) ?_
  refine lv_iconst (v := 1) hx hb gd_Lw_law_417 (by decide) ?_
  refine lv_iadd hx hb gd_Lw_law_418 ?_
  refine va_sld hx hb hX hbl hbA hS i1 gd_Lw_law_419 ?_
  refine lv_aload_n hx hb gd_Lw_law_420 rfl (lv_at hl 0 rfl) ?_
  refine lv_iload_n hx hb gd_Lw_law_421 rfl (lv_at hl 3 rfl) ?_
  refine lv_iconst (v := 2) hx hb gd_Lw_law_422 (by decide) ?_
  refine lv_iadd hx hb gd_Lw_law_423 ?_
  refine va_sld hx hb hX hbl hbA hS i2 gd_Lw_law_424 ?_
  refine lw_call (va_runV (As := [.int (xs (Int32.toNatClampNeg (nI (4 * n) + 1))), .int (xs (Int32.toNatClampNeg (nI (4 * n) + 2)))]) (rest := []) ⟨hx, hb, hml, hown, hts⟩ (ct_Bk_had l D cI cT ad hI u (xs (Int32.toNatClampNeg (nI (4 * n) + 1))) (xs (Int32.toNatClampNeg (nI (4 * n) + 2))) (r, u') e1) (cwV 2 hts (gt_V gt_317 gt_318 gt_319 gt_1 gt_320) rfl rfl rfl (by decide +kernel) ⟨Nat.le_of_ble_eq_true rfl, Nat.le_of_ble_eq_true rfl⟩) (gq_preV hH hK hN (va_recv hK (gq_one (c := 0) (k := 0) hH rfl (gk_c0 cI cT ad u)) (ci := 0) (q0 := 0) rfl rfl)) rfl rfl hl.1 rfl (lv_room (Nat.le_of_ble_eq_true rfl)) gd_Lw_law_425 ⟨Nat.le_of_ble_eq_true rfl, Nat.le_of_ble_eq_true rfl⟩) hAx hdis hM hS (fun H locs hH hM hS => ?_)
  refine lv_aload_n hx hb gd_Lw_law_428 rfl (lv_at hl 2 rfl) ?_
  refine lv_aload_n hx hb gd_Lw_law_429 rfl (lv_at hl 0 rfl) ?_
  refine lv_iload_n hx hb gd_Lw_law_430 rfl (lv_at hl 3 rfl) ?_
  refine lv_iconst (v := 1) hx hb gd_Lw_law_431 (by decide) ?_
  refine lv_iadd hx hb gd_Lw_law_432 ?_
  refine va_sld hx hb hX hbl hbA hS i1 gd_Lw_law_433 ?_
  refine lv_aload_n hx hb gd_Lw_law_434 rfl (lv_at hl 0 rfl) ?_
  refine lv_iload_n hx hb gd_Lw_law_435 rfl (lv_at hl 3 rfl) ?_
  refine lv_iconst (v := 2) hx hb gd_Lw_law_436 (by decide) ?_
  refine lv_iadd hx hb gd_Lw_law_437 ?_
  refine va_sld hx hb hX hbl hbA hS i2 gd_Lw_law_438 ?_
  refine lw_call (va_runV (As := [.int (xs (Int32.toNatClampNeg (nI (4 * n) + 1))), .int (xs (Int32.toNatClampNeg (nI (4 * n) + 2)))]) (rest := [.int r]) ⟨hx, hb, hml, hown, hts⟩ (ct_Md_had l D cJ cZ am hIm (ga_v a) (xs (Int32.toNatClampNeg (nI (4 * n) + 1))) (xs (Int32.toNatClampNeg (nI (4 * n) + 2))) (r, ga_v a') e2) (cwV 2 hts (gt_V gt_523 gt_524 gt_525 gt_5 gt_526) rfl rfl rfl (by decide +kernel) ⟨Nat.le_of_ble_eq_true rfl, Nat.le_of_ble_eq_true rfl⟩) (gq_preV hM hKm ⟨fun q h => absurd h List.not_mem_nil, fun q h => absurd h List.not_mem_nil⟩ (va_recv hKm (gq_one (c := 0) (k := 0) hM rfl (gm_c0 cJ cZ am (ga_v a))) (ci := 4) (q0 := 0) rfl rfl)) rfl rfl hl.1 rfl (lv_room (Nat.le_of_ble_eq_true rfl)) gd_Lw_law_439 ⟨Nat.le_of_ble_eq_true rfl, Nat.le_of_ble_eq_true rfl⟩) hAm (fun q h h' => hdis q h' h) hH hS (fun H locs hM hH hS => ?_)
  refine lv_icmp_eq (tgt := 503) hx hb gd_Lw_law_442 (by decide) (fun _ => ?_) (fun c9 => absurd rfl c9)
  exact kk H locs ⟨u', a', hH, hM, hW', hR', hS⟩
set_option maxHeartbeats 4000000 in
set_option maxRecDepth 100000 in
theorem lw_case_leaf {p : Program} {l : Launch} {e : Env} {s : State} {m : MethodId} {below : List Frame} {meth : Method} {c : Code} {b L : Nat} {xs : Nat → Int32} {D : va_G} {cI cT cJ cZ : ClassId} {ad am : Nat → Nat → Nat} (C0 : lw_C p s m meth c b L xs D cI cT cJ cZ ad am) {n : Nat} (h4 : 4 * n + 4 ≤ L) {H : Heap} {locs : List Loc} {ls : Array Slot} (I : lw_I s D cI cT cJ cZ ad am n H locs) (hl : lv_has ls 4 [(0, .ref b), (1, .ref (ad 0 0)), (2, .ref (am 0 0)), (3, .int (nI (4 * n)))]) (kk : ∀ (H : Heap) (locs : List Loc), lw_I s D cI cT cJ cZ ad am (n + 1) H locs → W p l e room_1 s m #[Value.ref b] below meth c H locs 219 4059 (lw_Z below #[Value.ref b] s) (F0 m 503 ls [])) : W p l e room_1 s m #[Value.ref b] below meth c H locs 219 4059 (lw_Z below #[Value.ref b] s) (F0 m 447 ls []) := by
  obtain ⟨⟨hx, hb, hr, hml, hown, hts0, hX, hbl, hlocks, hgv⟩, hK, hKm, hN, hI, hIm, hAx, hAm, hdis, hL⟩ := C0
  have hts : ∀ w ∈ (Cond.initialized "TermBook" :: gt_T), w.before #[Value.ref b] s = true := fun w hw => hts0 w (gt_sub w (gt_cons gt_1 w hw))
  have ht := fun (w : Cond) (h : w ∈ gt_T) => hts w (List.mem_cons_of_mem _ h)
  have hbA : ¬ (fun q : Nat => s.heap.size ≤ q) b := Nat.not_le.mpr hbl
  have i1 : vp_in (nI (4 * n) + 1) L := lw_in (k := 1) (by omega) hL
  have i2 : vp_in (nI (4 * n) + 2) L := lw_in (k := 2) (by omega) hL
  have i3 : vp_in (nI (4 * n) + 3) L := lw_in (k := 3) (by omega) hL
  obtain ⟨u, a, hH, hM, hW, hR, hS⟩ := I
  obtain ⟨r, u', a', e1, e2, hW', hR'⟩ := op_leaf (xs (Int32.toNatClampNeg (nI (4 * n) + 1))) (xs (Int32.toNatClampNeg (nI (4 * n) + 2))) n a u (by omega) hW hR
  refine lv_aload_n hx hb gd_Lw_law_447 rfl (lv_at hl 1 rfl) ?_
  refine lv_aload_n hx hb gd_Lw_law_448 rfl (lv_at hl 0 rfl) ?_
  refine lv_iload_n hx hb gd_Lw_law_449 rfl (lv_at hl 3 rfl) ?_
  refine lv_iconst (v := 1) hx hb gd_Lw_law_450 (by decide) ?_
  refine lv_iadd hx hb gd_Lw_law_451 ?_
  refine va_sld hx hb hX hbl hbA hS i1 gd_Lw_law_452 ?_
  refine lv_aload_n hx hb gd_Lw_law_453 rfl (lv_at hl 0 rfl) ?_
  refine lv_iload_n hx hb gd_Lw_law_454 rfl (lv_at hl 3 rfl) ?_
  refine lv_iconst (v := 2) hx hb gd_Lw_law_455 (by decide) ?_
  refine lv_iadd hx hb gd_Lw_law_456 ?_
  refine va_sld hx hb hX hbl hbA hS i2 gd_Lw_law_457 ?_
  refine lw_call (va_runV (As := [.int (xs (Int32.toNatClampNeg (nI (4 * n) + 1))), .int (xs (Int32.toNatClampNeg (nI (4 * n) + 2)))]) (rest := []) ⟨hx, hb, hml, hown, hts⟩ (ct_Bk_leaf l D cI cT ad hI u (xs (Int32.toNatClampNeg (nI (4 * n) + 1))) (xs (Int32.toNatClampNeg (nI (4 * n) + 2))) (r, u') e1) (cwV 2 hts (gt_V gt_329 gt_330 gt_331 gt_1 gt_332) rfl rfl rfl (by decide +kernel) ⟨Nat.le_of_ble_eq_true rfl, Nat.le_of_ble_eq_true rfl⟩) (gq_preV hH hK hN (va_recv hK (gq_one (c := 0) (k := 0) hH rfl (gk_c0 cI cT ad u)) (ci := 0) (q0 := 0) rfl rfl)) rfl rfl hl.1 rfl (lv_room (Nat.le_of_ble_eq_true rfl)) gd_Lw_law_458 ⟨Nat.le_of_ble_eq_true rfl, Nat.le_of_ble_eq_true rfl⟩) hAx hdis hM hS (fun H locs hH hM hS => ?_)
  refine lv_aload_n hx hb gd_Lw_law_461 rfl (lv_at hl 2 rfl) ?_
  refine lv_aload_n hx hb gd_Lw_law_462 rfl (lv_at hl 0 rfl) ?_
  refine lv_iload_n hx hb gd_Lw_law_463 rfl (lv_at hl 3 rfl) ?_
  refine lv_iconst (v := 1) hx hb gd_Lw_law_464 (by decide) ?_
  refine lv_iadd hx hb gd_Lw_law_465 ?_
  refine va_sld hx hb hX hbl hbA hS i1 gd_Lw_law_466 ?_
  refine lv_aload_n hx hb gd_Lw_law_467 rfl (lv_at hl 0 rfl) ?_
  refine lv_iload_n hx hb gd_Lw_law_468 rfl (lv_at hl 3 rfl) ?_
  refine lv_iconst (v := 2) hx hb gd_Lw_law_469 (by decide) ?_
  refine lv_iadd hx hb gd_Lw_law_470 ?_
  refine va_sld hx hb hX hbl hbA hS i2 gd_Lw_law_471 ?_
  refine lw_call (va_runV (As := [.int (xs (Int32.toNatClampNeg (nI (4 * n) + 1))), .int (xs (Int32.toNatClampNeg (nI (4 * n) + 2)))]) (rest := [.int r]) ⟨hx, hb, hml, hown, hts⟩ (ct_Md_leaf l D cJ cZ am hIm (ga_v a) (xs (Int32.toNatClampNeg (nI (4 * n) + 1))) (xs (Int32.toNatClampNeg (nI (4 * n) + 2))) (r, ga_v a') e2) (cwV 2 hts (gt_V gt_527 gt_528 gt_529 gt_5 gt_530) rfl rfl rfl (by decide +kernel) ⟨Nat.le_of_ble_eq_true rfl, Nat.le_of_ble_eq_true rfl⟩) (gq_preV hM hKm ⟨fun q h => absurd h List.not_mem_nil, fun q h => absurd h List.not_mem_nil⟩ (va_recv hKm (gq_one (c := 0) (k := 0) hM rfl (gm_c0 cJ cZ am (ga_v a))) (ci := 4) (q0 := 0) rfl rfl)) rfl rfl hl.1 rfl (lv_room (Nat.le_of_ble_eq_true rfl)) gd_Lw_law_472 ⟨Nat.le_of_ble_eq_true rfl, Nat.le_of_ble_eq_true rfl⟩) hAm (fun q h h' => hdis q h' h) hH hS (fun H locs hM hH hS => ?_)
  refine lv_icmp_eq (tgt := 503) hx hb gd_Lw_law_475 (by decide) (fun _ => ?_) (fun c9 => absurd rfl c9)
  exact kk H locs ⟨u', a', hH, hM, hW', hR', hS⟩
set_option maxHeartbeats 4000000 in
set_option maxRecDepth 100000 in
theorem lw_case_count {p : Program} {l : Launch} {e : Env} {s : State} {m : MethodId} {below : List Frame} {meth : Method} {c : Code} {b L : Nat} {xs : Nat → Int32} {D : va_G} {cI cT cJ cZ : ClassId} {ad am : Nat → Nat → Nat} (C0 : lw_C p s m meth c b L xs D cI cT cJ cZ ad am) {n : Nat} (h4 : 4 * n + 4 ≤ L) {H : Heap} {locs : List Loc} {ls : Array Slot} (I : lw_I s D cI cT cJ cZ ad am n H locs) (hl : lv_has ls 4 [(0, .ref b), (1, .ref (ad 0 0)), (2, .ref (am 0 0)), (3, .int (nI (4 * n)))]) (kk : ∀ (H : Heap) (locs : List Loc), lw_I s D cI cT cJ cZ ad am (n + 1) H locs → W p l e room_1 s m #[Value.ref b] below meth c H locs 219 4059 (lw_Z below #[Value.ref b] s) (F0 m 503 ls [])) : W p l e room_1 s m #[Value.ref b] below meth c H locs 219 4059 (lw_Z below #[Value.ref b] s) (F0 m 480 ls []) := by
  obtain ⟨⟨hx, hb, hr, hml, hown, hts0, hX, hbl, hlocks, hgv⟩, hK, hKm, hN, hI, hIm, hAx, hAm, hdis, hL⟩ := C0
  have hts : ∀ w ∈ (Cond.initialized "TermBook" :: gt_T), w.before #[Value.ref b] s = true := fun w hw => hts0 w (gt_sub w (gt_cons gt_1 w hw))
  have ht := fun (w : Cond) (h : w ∈ gt_T) => hts w (List.mem_cons_of_mem _ h)
  have hbA : ¬ (fun q : Nat => s.heap.size ≤ q) b := Nat.not_le.mpr hbl
  have i1 : vp_in (nI (4 * n) + 1) L := lw_in (k := 1) (by omega) hL
  have i2 : vp_in (nI (4 * n) + 2) L := lw_in (k := 2) (by omega) hL
  have i3 : vp_in (nI (4 * n) + 3) L := lw_in (k := 3) (by omega) hL
  obtain ⟨u, a, hH, hM, hW, hR, hS⟩ := I
  obtain ⟨r, u', a', e1, e2, hW', hR'⟩ := op_count (xs (Int32.toNatClampNeg (nI (4 * n) + 1))) n a u (by omega) hW hR
  refine lv_aload_n hx hb gd_Lw_law_480 rfl (lv_at hl 1 rfl) ?_
  refine lv_aload_n hx hb gd_Lw_law_481 rfl (lv_at hl 0 rfl) ?_
  refine lv_iload_n hx hb gd_Lw_law_482 rfl (lv_at hl 3 rfl) ?_
  refine lv_iconst (v := 1) hx hb gd_Lw_law_483 (by decide) ?_
  refine lv_iadd hx hb gd_Lw_law_484 ?_
  refine va_sld hx hb hX hbl hbA hS i1 gd_Lw_law_485 ?_
  refine lw_call (va_runV (As := [.int (xs (Int32.toNatClampNeg (nI (4 * n) + 1)))]) (rest := []) ⟨hx, hb, hml, hown, hts⟩ (ct_Bk_count l D cI cT ad hI u (xs (Int32.toNatClampNeg (nI (4 * n) + 1))) (r, u') e1) (cwV 1 hts (gt_V gt_347 gt_348 gt_349 gt_1 gt_350) rfl rfl rfl (by decide +kernel) ⟨Nat.le_of_ble_eq_true rfl, Nat.le_of_ble_eq_true rfl⟩) (gq_preV hH hK hN (va_recv hK (gq_one (c := 0) (k := 0) hH rfl (gk_c0 cI cT ad u)) (ci := 0) (q0 := 0) rfl rfl)) rfl rfl hl.1 rfl (lv_room (Nat.le_of_ble_eq_true rfl)) gd_Lw_law_486 ⟨Nat.le_of_ble_eq_true rfl, Nat.le_of_ble_eq_true rfl⟩) hAx hdis hM hS (fun H locs hH hM hS => ?_)
  refine lv_aload_n hx hb gd_Lw_law_489 rfl (lv_at hl 2 rfl) ?_
  refine lv_aload_n hx hb gd_Lw_law_490 rfl (lv_at hl 0 rfl) ?_
  refine lv_iload_n hx hb gd_Lw_law_491 rfl (lv_at hl 3 rfl) ?_
  refine lv_iconst (v := 1) hx hb gd_Lw_law_492 (by decide) ?_
  refine lv_iadd hx hb gd_Lw_law_493 ?_
  refine va_sld hx hb hX hbl hbA hS i1 gd_Lw_law_494 ?_
  refine lw_call (va_runV (As := [.int (xs (Int32.toNatClampNeg (nI (4 * n) + 1)))]) (rest := [.int r]) ⟨hx, hb, hml, hown, hts⟩ (ct_Md_count l D cJ cZ am hIm (ga_v a) (xs (Int32.toNatClampNeg (nI (4 * n) + 1))) (r, ga_v a') e2) (cwV 1 hts (gt_V gt_539 gt_540 gt_541 gt_5 gt_542) rfl rfl rfl (by decide +kernel) ⟨Nat.le_of_ble_eq_true rfl, Nat.le_of_ble_eq_true rfl⟩) (gq_preV hM hKm ⟨fun q h => absurd h List.not_mem_nil, fun q h => absurd h List.not_mem_nil⟩ (va_recv hKm (gq_one (c := 0) (k := 0) hM rfl (gm_c0 cJ cZ am (ga_v a))) (ci := 4) (q0 := 0) rfl rfl)) rfl rfl hl.1 rfl (lv_room (Nat.le_of_ble_eq_true rfl)) gd_Lw_law_495 ⟨Nat.le_of_ble_eq_true rfl, Nat.le_of_ble_eq_true rfl⟩) hAm (fun q h h' => hdis q h' h) hH hS (fun H locs hM hH hS => ?_)
  refine lv_icmp_eq (tgt := 503) hx hb gd_Lw_law_498 (by decide) (fun _ => ?_) (fun c9 => absurd rfl c9)
  exact kk H locs ⟨u', a', hH, hM, hW', hR', hS⟩
