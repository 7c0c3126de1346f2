set_option maxHeartbeats 4000000 in
set_option maxRecDepth 100000 in
theorem lw_case_term {p : Program} {l : Launch} {e : Env} {s : State} {m : MethodId} {below : List Frame} {meth : Method} {c : Code} {b L : Nat} {xs : Nat → Int32} {D : va_G} {cI cT cJ cZ : ClassId} {ad am : Nat → Nat → Nat} (C0 : lw_C p s m meth c b L xs D cI cT cJ cZ ad am) {n : Nat} (h4 : 4 * n + 4 ≤ L) {H : Heap} {locs : List Loc} {ls : Array Slot} (I : lw_I s D cI cT cJ cZ ad am n H locs) (hl : lv_has ls 4 [(0, .ref b), (1, .ref (ad 0 0)), (2, .ref (am 0 0)), (3, .int (nI (4 * n)))]) (kk : ∀ (H : Heap) (locs : List Loc), lw_I s D cI cT cJ cZ ad am (n + 1) H locs → W p l e room_1 s m #[Value.ref b] below meth c H locs 219 4059 (lw_Z below #[Value.ref b] s) (F0 m 503 ls [])) : W p l e room_1 s m #[Value.ref b] below meth c H locs 219 4059 (lw_Z below #[Value.ref b] s) (F0 m 253 ls []) := by
  obtain ⟨⟨hx, hb, hr, hml, hown, hts0, hX, hbl, hlocks, hgv⟩, hK, hKm, hN, hI, hIm, hAx, hAm, hdis, hL⟩ := C0
  have hts : ∀ w ∈ (Cond.initialized "TermBook" :: gt_T), w.before #[Value.ref b] s = true := fun w hw => hts0 w (gt_sub w (gt_cons gt_1 w hw))
  have ht := fun (w : Cond) (h : w ∈ gt_T) => hts w (List.mem_cons_of_mem _ h)
  have hbA : ¬ (fun q : Nat => s.heap.size ≤ q) b := Nat.not_le.mpr hbl
  have i1 : vp_in (nI (4 * n) + 1) L := lw_in (k := 1) (by omega) hL
  have i2 : vp_in (nI (4 * n) + 2) L := lw_in (k := 2) (by omega) hL
  have i3 : vp_in (nI (4 * n) + 3) L := lw_in (k := 3) (by omega) hL
  obtain ⟨u, a, hH, hM, hW, hR, hS⟩ := I
  obtain ⟨r, u', a', e1, e2, hW', hR'⟩ := op_term (xs (Int32.toNatClampNeg (nI (4 * n) + 1))) (xs (Int32.toNatClampNeg (nI (4 * n) + 2))) n a u (by omega) hW hR
  refine lv_aload_n hx hb gd_Lw_law_253 rfl (lv_at hl 1 rfl) ?_
  refine lv_aload_n hx hb gd_Lw_law_254 rfl (lv_at hl 0 rfl) ?_
  refine lv_iload_n hx hb gd_Lw_law_255 rfl (lv_at hl 3 rfl) ?_
  refine lv_iconst (v := 1) hx hb gd_Lw_law_256 (by decide) ?_
  refine lv_iadd hx hb gd_Lw_law_257 ?_
  refine va_sld hx hb hX hbl hbA hS i1 gd_Lw_law_258 ?_
  refine lv_aload_n hx hb gd_Lw_law_259 rfl (lv_at hl 0 rfl) ?_
  refine lv_iload_n hx hb gd_Lw_law_260 rfl (lv_at hl 3 rfl) ?_
  refine lv_iconst (v := 2) hx hb gd_Lw_law_261 (by decide) ?_
  refine lv_iadd hx hb gd_Lw_law_262 ?_
  refine va_sld hx hb hX hbl hbA hS i2 gd_Lw_law_263 ?_
  refine lw_call (va_runV (As := [.int (xs (Int32.toNatClampNeg (nI (4 * n) + 1))), .int (xs (Int32.toNatClampNeg (nI (4 * n) + 2)))]) (rest := []) ⟨hx, hb, hml, hown, hts⟩ (ct_Bk_term l D cI cT ad hI u (xs (Int32.toNatClampNeg (nI (4 * n) + 1))) (xs (Int32.toNatClampNeg (nI (4 * n) + 2))) (r, u') e1) (cwV 2 hts (gt_V gt_248 gt_249 gt_250 gt_1 gt_251) rfl rfl rfl (by decide +kernel) ⟨Nat.le_of_ble_eq_true rfl, Nat.le_of_ble_eq_true rfl⟩) (gq_preV hH hK hN (va_recv hK (gq_one (c := 0) (k := 0) hH rfl (gk_c0 cI cT ad u)) (ci := 0) (q0 := 0) rfl rfl)) rfl rfl hl.1 rfl (lv_room (Nat.le_of_ble_eq_true rfl)) gd_Lw_law_264 ⟨Nat.le_of_ble_eq_true rfl, Nat.le_of_ble_eq_true rfl⟩) hAx hdis hM hS (fun H locs hH hM hS => ?_)
  refine lv_aload_n hx hb gd_Lw_law_267 rfl (lv_at hl 2 rfl) ?_
  refine lv_aload_n hx hb gd_Lw_law_268 rfl (lv_at hl 0 rfl) ?_
  refine lv_iload_n hx hb gd_Lw_law_269 rfl (lv_at hl 3 rfl) ?_
  refine lv_iconst (v := 1) hx hb gd_Lw_law_270 (by decide) ?_
  refine lv_iadd hx hb gd_Lw_law_271 ?_
  refine va_sld hx hb hX hbl hbA hS i1 gd_Lw_law_272 ?_
  refine lv_aload_n hx hb gd_Lw_law_273 rfl (lv_at hl 0 rfl) ?_
  refine lv_iload_n hx hb gd_Lw_law_274 rfl (lv_at hl 3 rfl) ?_
  refine lv_iconst (v := 2) hx hb gd_Lw_law_275 (by decide) ?_
  refine lv_iadd hx hb gd_Lw_law_276 ?_
  refine va_sld hx hb hX hbl hbA hS i2 gd_Lw_law_277 ?_
  refine lw_call (va_runV (As := [.int (xs (Int32.toNatClampNeg (nI (4 * n) + 1))), .int (xs (Int32.toNatClampNeg (nI (4 * n) + 2)))]) (rest := [.int r]) ⟨hx, hb, hml, hown, hts⟩ (ct_Md_term l D cJ cZ am hIm (ga_v a) (xs (Int32.toNatClampNeg (nI (4 * n) + 1))) (xs (Int32.toNatClampNeg (nI (4 * n) + 2))) (r, ga_v a') e2) (cwV 2 hts (gt_V gt_491 gt_492 gt_493 gt_5 gt_494) rfl rfl rfl (by decide +kernel) ⟨Nat.le_of_ble_eq_true rfl, Nat.le_of_ble_eq_true rfl⟩) (gq_preV hM hKm ⟨fun q h => absurd h List.not_mem_nil, fun q h => absurd h List.not_mem_nil⟩ (va_recv hKm (gq_one (c := 0) (k := 0) hM rfl (gm_c0 cJ cZ am (ga_v a))) (ci := 4) (q0 := 0) rfl rfl)) rfl rfl hl.1 rfl (lv_room (Nat.le_of_ble_eq_true rfl)) gd_Lw_law_278 ⟨Nat.le_of_ble_eq_true rfl, Nat.le_of_ble_eq_true rfl⟩) hAm (fun q h h' => hdis q h' h) hH hS (fun H locs hM hH hS => ?_)
  refine lv_icmp_eq (tgt := 503) hx hb gd_Lw_law_281 (by decide) (fun _ => ?_) (fun c9 => absurd rfl c9)
  exact kk H locs ⟨u', a', hH, hM, hW', hR', hS⟩
set_option maxHeartbeats 4000000 in
set_option maxRecDepth 100000 in
theorem lw_case_at {p : Program} {l : Launch} {e : Env} {s : State} {m : MethodId} {below : List Frame} {meth : Method} {c : Code} {b L : Nat} {xs : Nat → Int32} {D : va_G} {cI cT cJ cZ : ClassId} {ad am : Nat → Nat → Nat} (C0 : lw_C p s m meth c b L xs D cI cT cJ cZ ad am) {n : Nat} (h4 : 4 * n + 4 ≤ L) {H : Heap} {locs : List Loc} {ls : Array Slot} (I : lw_I s D cI cT cJ cZ ad am n H locs) (hl : lv_has ls 4 [(0, .ref b), (1, .ref (ad 0 0)), (2, .ref (am 0 0)), (3, .int (nI (4 * n)))]) (kk : ∀ (H : Heap) (locs : List Loc), lw_I s D cI cT cJ cZ ad am (n + 1) H locs → W p l e room_1 s m #[Value.ref b] below meth c H locs 219 4059 (lw_Z below #[Value.ref b] s) (F0 m 503 ls [])) : W p l e room_1 s m #[Value.ref b] below meth c H locs 219 4059 (lw_Z below #[Value.ref b] s) (F0 m 286 ls []) := by
  obtain ⟨⟨hx, hb, hr, hml, hown, hts0, hX, hbl, hlocks, hgv⟩, hK, hKm, hN, hI, hIm, hAx, hAm, hdis, hL⟩ := C0
  have hts : ∀ w ∈ (Cond.initialized "TermBook" :: gt_T), w.before #[Value.ref b] s = true := fun w hw => hts0 w (gt_sub w (gt_cons gt_1 w hw))
  have ht := fun (w : Cond) (h : w ∈ gt_T) => hts w (List.mem_cons_of_mem _ h)
  have hbA : ¬ (fun q : Nat => s.heap.size ≤ q) b := Nat.not_le.mpr hbl
  have i1 : vp_in (nI (4 * n) + 1) L := lw_in (k := 1) (by omega) hL
  have i2 : vp_in (nI (4 * n) + 2) L := lw_in (k := 2) (by omega) hL
  have i3 : vp_in (nI (4 * n) + 3) L := lw_in (k := 3) (by omega) hL
  obtain ⟨u, a, hH, hM, hW, hR, hS⟩ := I
  obtain ⟨r, u', a', e1, e2, hW', hR'⟩ := op_at (xs (Int32.toNatClampNeg (nI (4 * n) + 1))) n a u (by omega) hW hR
  refine lv_aload_n hx hb gd_Lw_law_286 rfl (lv_at hl 1 rfl) ?_
  refine lv_aload_n hx hb gd_Lw_law_287 rfl (lv_at hl 0 rfl) ?_
  refine lv_iload_n hx hb gd_Lw_law_288 rfl (lv_at hl 3 rfl) ?_
  refine lv_iconst (v := 1) hx hb gd_Lw_law_289 (by decide) ?_
  refine lv_iadd hx hb gd_Lw_law_290 ?_
  refine va_sld hx hb hX hbl hbA hS i1 gd_Lw_law_291 ?_
  refine lw_call (va_runV (As := [.int (xs (Int32.toNatClampNeg (nI (4 * n) + 1)))]) (rest := []) ⟨hx, hb, hml, hown, hts⟩ (ct_Bk_at l D cI cT ad hI u (xs (Int32.toNatClampNeg (nI (4 * n) + 1))) (r, u') e1) (cwV 1 hts (gt_V gt_257 gt_258 gt_259 gt_1 gt_260) rfl rfl rfl (by decide +kernel) ⟨Nat.le_of_ble_eq_true rfl, Nat.le_of_ble_eq_true rfl⟩) (gq_preV hH hK hN (va_recv hK (gq_one (c := 0) (k := 0) hH rfl (gk_c0 cI cT ad u)) (ci := 0) (q0 := 0) rfl rfl)) rfl rfl hl.1 rfl (lv_room (Nat.le_of_ble_eq_true rfl)) gd_Lw_law_292 ⟨Nat.le_of_ble_eq_true rfl, Nat.le_of_ble_eq_true rfl⟩) hAx hdis hM hS (fun H locs hH hM hS => ?_)
  refine lv_aload_n hx hb gd_Lw_law_295 rfl (lv_at hl 2 rfl) ?_
  refine lv_aload_n hx hb gd_Lw_law_296 rfl (lv_at hl 0 rfl) ?_
  refine lv_iload_n hx hb gd_Lw_law_297 rfl (lv_at hl 3 rfl) ?_
  refine lv_iconst (v := 1) hx hb gd_Lw_law_298 (by decide) ?_
  refine lv_iadd hx hb gd_Lw_law_299 ?_
  refine va_sld hx hb hX hbl hbA hS i1 gd_Lw_law_300 ?_
  refine lw_call (va_runV (As := [.int (xs (Int32.toNatClampNeg (nI (4 * n) + 1)))]) (rest := [.int r]) ⟨hx, hb, hml, hown, hts⟩ (ct_Md_at l D cJ cZ am hIm (ga_v a) (xs (Int32.toNatClampNeg (nI (4 * n) + 1))) (r, ga_v a') e2) (cwV 1 hts (gt_V gt_495 gt_496 gt_497 gt_5 gt_498) rfl rfl rfl (by decide +kernel) ⟨Nat.le_of_ble_eq_true rfl, Nat.le_of_ble_eq_true rfl⟩) (gq_preV hM hKm ⟨fun q h => absurd h List.not_mem_nil, fun q h => absurd h List.not_mem_nil⟩ (va_recv hKm (gq_one (c := 0) (k := 0) hM rfl (gm_c0 cJ cZ am (ga_v a))) (ci := 4) (q0 := 0) rfl rfl)) rfl rfl hl.1 rfl (lv_room (Nat.le_of_ble_eq_true rfl)) gd_Lw_law_301 ⟨Nat.le_of_ble_eq_true rfl, Nat.le_of_ble_eq_true rfl⟩) hAm (fun q h h' => hdis q h' h) hH hS (fun H locs hM hH hS => ?_)
  refine lv_icmp_eq (tgt := 503) hx hb gd_Lw_law_304 (by decide) (fun _ => ?_) (fun c9 => absurd rfl c9)
  exact kk H locs ⟨u', a', hH, hM, hW', hR', hS⟩
set_option maxHeartbeats 4000000 in
set_option maxRecDepth 100000 in
theorem lw_case_place {p : Program} {l : Launch} {e : Env} {s : State} {m : MethodId} {below : List Frame} {meth : Method} {c : Code} {b L : Nat} {xs : Nat → Int32} {D : va_G} {cI cT cJ cZ : ClassId} {ad am : Nat → Nat → Nat} (C0 : lw_C p s m meth c b L xs D cI cT cJ cZ ad am) {n : Nat} (h4 : 4 * n + 4 ≤ L) {H : Heap} {locs : List Loc} {ls : Array Slot} (I : lw_I s D cI cT cJ cZ ad am n H locs) (hl : lv_has ls 4 [(0, .ref b), (1, .ref (ad 0 0)), (2, .ref (am 0 0)), (3, .int (nI (4 * n)))]) (kk : ∀ (H : Heap) (locs : List Loc), lw_I s D cI cT cJ cZ ad am (n + 1) H locs → W p l e room_1 s m #[Value.ref b] below meth c H locs 219 4059 (lw_Z below #[Value.ref b] s) (F0 m 503 ls [])) : W p l e room_1 s m #[Value.ref b] below meth c H locs 219 4059 (lw_Z below #[Value.ref b] s) (F0 m 309 ls []) := by
  obtain ⟨⟨hx, hb, hr, hml, hown, hts0, hX, hbl, hlocks, hgv⟩, hK, hKm, hN, hI, hIm, hAx, hAm, hdis, hL⟩ := C0
  have hts : ∀ w ∈ (Cond.initialized "TermBook" :: gt_T), w.before #[Value.ref b] s = true := fun w hw => hts0 w (gt_sub w (gt_cons gt_1 w hw))
  have ht := fun (w : Cond) (h : w ∈ gt_T) => hts w (List.mem_cons_of_mem _ h)
  have hbA : ¬ (fun q : Nat => s.heap.size ≤ q) b := Nat.not_le.mpr hbl
  have i1 : vp_in (nI (4 * n) + 1) L := lw_in (k := 1) (by omega) hL
  have i2 : vp_in (nI (4 * n) + 2) L := lw_in (k := 2) (by omega) hL
  have i3 : vp_in (nI (4 * n) + 3) L := lw_in (k := 3) (by omega) hL
  obtain ⟨u, a, hH, hM, hW, hR, hS⟩ := I
  obtain ⟨r, u', a', e1, e2, hW', hR'⟩ := op_place (xs (Int32.toNatClampNeg (nI (4 * n) + 1))) n a u (by omega) hW hR
  refine lv_aload_n hx hb gd_Lw_law_309 rfl (lv_at hl 1 rfl) ?_
  refine lv_aload_n hx hb gd_Lw_law_310 rfl (lv_at hl 0 rfl) ?_
  refine lv_iload_n hx hb gd_Lw_law_311 rfl (lv_at hl 3 rfl) ?_
  refine lv_iconst (v := 1) hx hb gd_Lw_law_312 (by decide) ?_
  refine lv_iadd hx hb gd_Lw_law_313 ?_
  refine va_sld hx hb hX hbl hbA hS i1 gd_Lw_law_314 ?_
  refine lw_call (va_runV (As := [.int (xs (Int32.toNatClampNeg (nI (4 * n) + 1)))]) (rest := []) ⟨hx, hb, hml, hown, hts⟩ (ct_Bk_place l D cI cT ad hI u (xs (Int32.toNatClampNeg (nI (4 * n) + 1))) (r, u') e1) (cwV 1 hts (gt_V gt_261 gt_262 gt_263 gt_1 gt_264) rfl rfl rfl (by decide +kernel) ⟨Nat.le_of_ble_eq_true rfl, Nat.le_of_ble_eq_true rfl⟩) (gq_preV hH hK hN (va_recv hK (gq_one (c := 0) (k := 0) hH rfl (gk_c0 cI cT ad u)) (ci := 0) (q0 := 0) rfl rfl)) rfl rfl hl.1 rfl (lv_room (Nat.le_of_ble_eq_true rfl)) gd_Lw_law_315 ⟨Nat.le_of_ble_eq_true rfl, Nat.le_of_ble_eq_true rfl⟩) hAx hdis hM hS (fun H locs hH hM hS => ?_)
  refine lv_aload_n hx hb gd_Lw_law_318 rfl (lv_at hl 2 rfl) ?_
  refine lv_aload_n hx hb gd_Lw_law_319 rfl (lv_at hl 0 rfl) ?_
  refine lv_iload_n hx hb gd_Lw_law_320 rfl (lv_at hl 3 rfl) ?_
  refine lv_iconst (v := 1) hx hb gd_Lw_law_321 (by decide) ?_
  refine lv_iadd hx hb gd_Lw_law_322 ?_
  refine va_sld hx hb hX hbl hbA hS i1 gd_Lw_law_323 ?_
  refine lw_call (va_runV (As := [.int (xs (Int32.toNatClampNeg (nI (4 * n) + 1)))]) (rest := [.int r]) ⟨hx, hb, hml, hown, hts⟩ (ct_Md_place l D cJ cZ am hIm (ga_v a) (xs (Int32.toNatClampNeg (nI (4 * n) + 1))) (r, ga_v a') e2) (cwV 1 hts (gt_V gt_499 gt_500 gt_501 gt_5 gt_502) rfl rfl rfl (by decide +kernel) ⟨Nat.le_of_ble_eq_true rfl, Nat.le_of_ble_eq_true rfl⟩) (gq_preV hM hKm ⟨fun q h => absurd h List.not_mem_nil, fun q h => absurd h List.not_mem_nil⟩ (va_recv hKm (gq_one (c := 0) (k := 0) hM rfl (gm_c0 cJ cZ am (ga_v a))) (ci := 4) (q0 := 0) rfl rfl)) rfl rfl hl.1 rfl (lv_room (Nat.le_of_ble_eq_true rfl)) gd_Lw_law_324 ⟨Nat.le_of_ble_eq_true rfl, Nat.le_of_ble_eq_true rfl⟩) hAm (fun q h h' => hdis q h' h) hH hS (fun H locs hM hH hS => ?_)
  refine lv_icmp_eq (tgt := 503) hx hb gd_Lw_law_327 (by decide) (fun _ => ?_) (fun c9 => absurd rfl c9)
  exact kk H locs ⟨u', a', hH, hM, hW', hR', hS⟩
set_option maxHeartbeats 4000000 in
set_option maxRecDepth 100000 in
theorem lw_case_begins {p : Program} {l : Launch} {e : Env} {s : State} {m : MethodId} {below : List Frame} {meth : Method} {c : Code} {b L : Nat} {xs : Nat → Int32} {D : va_G} {cI cT cJ cZ : ClassId} {ad am : Nat → Nat → Nat} (C0 : lw_C p s m meth c b L xs D cI cT cJ cZ ad am) {n : Nat} (h4 : 4 * n + 4 ≤ L) {H : Heap} {locs : List Loc} {ls : Array Slot} (I : lw_I s D cI cT cJ cZ ad am n H locs) (hl : lv_has ls 4 [(0, .ref b), (1, .ref (ad 0 0)), (2, .ref (am 0 0)), (3, .int (nI (4 * n)))]) (kk : ∀ (H : Heap) (locs : List Loc), lw_I s D cI cT cJ cZ ad am (n + 1) H locs → W p l e room_1 s m #[Value.ref b] below meth c H locs 219 4059 (lw_Z below #[Value.ref b] s) (F0 m 503 ls [])) : W p l e room_1 s m #[Value.ref b] below meth c H locs 219 4059 (lw_Z below #[Value.ref b] s) (F0 m 332 ls []) := by
  obtain ⟨⟨hx, hb, hr, hml, hown, hts0, hX, hbl, hlocks, hgv⟩, hK, hKm, hN, hI, hIm, hAx, hAm, hdis, hL⟩ := C0
  have hts : ∀ w ∈ (Cond.initialized "TermBook" :: gt_T), w.before #[Value.ref b] s = true := fun w hw => hts0 w (gt_sub w (gt_cons gt_1 w hw))
  have ht := fun (w : Cond) (h : w ∈ gt_T) => hts w (List.mem_cons_of_mem _ h)
  have hbA : ¬ (fun q : Nat => s.heap.size ≤ q) b := Nat.not_le.mpr hbl
  have i1 : vp_in (nI (4 * n) + 1) L := lw_in (k := 1) (by omega) hL
  have i2 : vp_in (nI (4 * n) + 2) L := lw_in (k := 2) (by omega) hL
  have i3 : vp_in (nI (4 * n) + 3) L := lw_in (k := 3) (by omega) hL
  obtain ⟨u, a, hH, hM, hW, hR, hS⟩ := I
  obtain ⟨r, u', a', e1, e2, hW', hR'⟩ := op_begins (xs (Int32.toNatClampNeg (nI (4 * n) + 1))) n a u (by omega) hW hR
  refine lv_aload_n hx hb gd_Lw_law_332 rfl (lv_at hl 1 rfl) ?_
  refine lv_aload_n hx hb gd_Lw_law_333 rfl (lv_at hl 0 rfl) ?_
  refine lv_iload_n hx hb gd_Lw_law_334 rfl (lv_at hl 3 rfl) ?_
  refine lv_iconst (v := 1) hx hb gd_Lw_law_335 (by decide) ?_
  refine lv_iadd hx hb gd_Lw_law_336 ?_
  refine va_sld hx hb hX hbl hbA hS i1 gd_Lw_law_337 ?_
  refine lw_call (va_runV (As := [.int (xs (Int32.toNatClampNeg (nI (4 * n) + 1)))]) (rest := []) ⟨hx, hb, hml, hown, hts⟩ (ct_Bk_begins l D cI cT ad hI u (xs (Int32.toNatClampNeg (nI (4 * n) + 1))) (r, u') e1) (cwV 1 hts (gt_V gt_265 gt_266 gt_267 gt_1 gt_268) rfl rfl rfl (by decide +kernel) ⟨Nat.le_of_ble_eq_true rfl, Nat.le_of_ble_eq_true rfl⟩) (gq_preV hH hK hN (va_recv hK (gq_one (c := 0) (k := 0) hH rfl (gk_c0 cI cT ad u)) (ci := 0) (q0 := 0) rfl rfl)) rfl rfl hl.1 rfl (lv_room (Nat.le_of_ble_eq_true rfl)) gd_Lw_law_338 ⟨Nat.le_of_ble_eq_true rfl, Nat.le_of_ble_eq_true rfl⟩) hAx hdis hM hS (fun H locs hH hM hS => ?_)
  refine lv_aload_n hx hb gd_Lw_law_341 rfl (lv_at hl 2 rfl) ?_
  refine lv_aload_n hx hb gd_Lw_law_342 rfl (lv_at hl 0 rfl) ?_
  refine lv_iload_n hx hb gd_Lw_law_343 rfl (lv_at hl 3 rfl) ?_
  refine lv_iconst (v := 1) hx hb gd_Lw_law_344 (by decide) ?_
  refine lv_iadd hx hb gd_Lw_law_345 ?_
  refine va_sld hx hb hX hbl hbA hS i1 gd_Lw_law_346 ?_
  refine lw_call (va_runV (As := [.int (xs (Int32.toNatClampNeg (nI (4 * n) + 1)))]) (rest := [.int r]) ⟨hx, hb, hml, hown, hts⟩ (ct_Md_begins l D cJ cZ am hIm (ga_v a) (xs (Int32.toNatClampNeg (nI (4 * n) + 1))) (r, ga_v a') e2) (cwV 1 hts (gt_V gt_503 gt_504 gt_505 gt_5 gt_506) rfl rfl rfl (by decide +kernel) ⟨Nat.le_of_ble_eq_true rfl, Nat.le_of_ble_eq_true rfl⟩) (gq_preV hM hKm ⟨fun q h => absurd h List.not_mem_nil, fun q h => absurd h List.not_mem_nil⟩ (va_recv hKm (gq_one (c := 0) (k := 0) hM rfl (gm_c0 cJ cZ am (ga_v a))) (ci := 4) (q0 := 0) rfl rfl)) rfl rfl hl.1 rfl (lv_room (Nat.le_of_ble_eq_true rfl)) gd_Lw_law_347 ⟨Nat.le_of_ble_eq_true rfl, Nat.le_of_ble_eq_true rfl⟩) hAm (fun q h h' => hdis q h' h) hH hS (fun H locs hM hH hS => ?_)
  refine lv_icmp_eq (tgt := 503) hx hb gd_Lw_law_350 (by decide) (fun _ => ?_) (fun c9 => absurd rfl c9)
  exact kk H locs ⟨u', a', hH, hM, hW', hR', hS⟩
set_option maxHeartbeats 4000000 in
set_option maxRecDepth 100000 in
theorem lw_case_from {p : Program} {l : Launch} {e : Env} {s : State} {m : MethodId} {below : List Frame} {meth : Method} {c : Code} {b L : Nat} {xs : Nat → Int32} {D : va_G} {cI cT cJ cZ : ClassId} {ad am : Nat → Nat → Nat} (C0 : lw_C p s m meth c b L xs D cI cT cJ cZ ad am) {n : Nat} (h4 : 4 * n + 4 ≤ L) {H : Heap} {locs : List Loc} {ls : Array Slot} (I : lw_I s D cI cT cJ cZ ad am n H locs) (hl : lv_has ls 4 [(0, .ref b), (1, .ref (ad 0 0)), (2, .ref (am 0 0)), (3, .int (nI (4 * n)))]) (kk : ∀ (H : Heap) (locs : List Loc), lw_I s D cI cT cJ cZ ad am (n + 1) H locs → W p l e room_1 s m #[Value.ref b] below meth c H locs 219 4059 (lw_Z below #[Value.ref b] s) (F0 m 503 ls [])) : W p l e room_1 s m #[Value.ref b] below meth c H locs 219 4059 (lw_Z below #[Value.ref b] s) (F0 m 355 ls []) := by
  obtain ⟨⟨hx, hb, hr, hml, hown, hts0, hX, hbl, hlocks, hgv⟩, hK, hKm, hN, hI, hIm, hAx, hAm, hdis, hL⟩ := C0
  have hts : ∀ w ∈ (Cond.initialized "TermBook" :: gt_T), w.before #[Value.ref b] s = true := fun w hw => hts0 w (gt_sub w (gt_cons gt_1 w hw))
  have ht := fun (w : Cond) (h : w ∈ gt_T) => hts w (List.mem_cons_of_mem _ h)
  have hbA : ¬ (fun q : Nat => s.heap.size ≤ q) b := Nat.not_le.mpr hbl
  have i1 : vp_in (nI (4 * n) + 1) L := lw_in (k := 1) (by omega) hL
  have i2 : vp_in (nI (4 * n) + 2) L := lw_in (k := 2) (by omega) hL
  have i3 : vp_in (nI (4 * n) + 3) L := lw_in (k := 3) (by omega) hL
  obtain ⟨u, a, hH, hM, hW, hR, hS⟩ := I
  obtain ⟨r, u', a', e1, e2, hW', hR'⟩ := op_from (xs (Int32.toNatClampNeg (nI (4 * n) + 1))) n a u (by omega) hW hR
  refine lv_aload_n hx hb gd_Lw_law_355 rfl (lv_at hl 1 rfl) ?_
  refine lv_aload_n hx hb gd_Lw_law_356 rfl (lv_at hl 0 rfl) ?_
  refine lv_iload_n hx hb gd_Lw_law_357 rfl (lv_at hl 3 rfl) ?_
  refine lv_iconst (v := 1) hx hb gd_Lw_law_358 (by decide) ?_
  refine lv_iadd hx hb gd_Lw_law_359 ?_
  refine va_sld hx hb hX hbl hbA hS i1 gd_Lw_law_360 ?_
  refine lw_call (va_runV (As := [.int (xs (Int32.toNatClampNeg (nI (4 * n) + 1)))]) (rest := []) ⟨hx, hb, hml, hown, hts⟩ (ct_Bk_from l D cI cT ad hI u (xs (Int32.toNatClampNeg (nI (4 * n) + 1))) (r, u') e1) (cwV 1 hts (gt_V gt_285 gt_286 gt_287 gt_1 gt_288) rfl rfl rfl (by decide +kernel) ⟨Nat.le_of_ble_eq_true rfl, Nat.le_of_ble_eq_true rfl⟩) (gq_preV hH hK hN (va_recv hK (gq_one (c := 0) (k := 0) hH rfl (gk_c0 cI cT ad u)) (ci := 0) (q0 := 0) rfl rfl)) rfl rfl hl.1 rfl (lv_room (Nat.le_of_ble_eq_true rfl)) gd_Lw_law_361 ⟨Nat.le_of_ble_eq_true rfl, Nat.le_of_ble_eq_true rfl⟩) hAx hdis hM hS (fun H locs hH hM hS => ?_)
  refine lv_aload_n hx hb gd_Lw_law_364 rfl (lv_at hl 2 rfl) ?_
  refine lv_aload_n hx hb gd_Lw_law_365 rfl (lv_at hl 0 rfl) ?_
  refine lv_iload_n hx hb gd_Lw_law_366 rfl (lv_at hl 3 rfl) ?_
  refine lv_iconst (v := 1) hx hb gd_Lw_law_367 (by decide) ?_
  refine lv_iadd hx hb gd_Lw_law_368 ?_
  refine va_sld hx hb hX hbl hbA hS i1 gd_Lw_law_369 ?_
  refine lw_call (va_runV (As := [.int (xs (Int32.toNatClampNeg (nI (4 * n) + 1)))]) (rest := [.int r]) ⟨hx, hb, hml, hown, hts⟩ (ct_Md_from l D cJ cZ am hIm (ga_v a) (xs (Int32.toNatClampNeg (nI (4 * n) + 1))) (r, ga_v a') e2) (cwV 1 hts (gt_V gt_507 gt_508 gt_509 gt_5 gt_510) rfl rfl rfl (by decide +kernel) ⟨Nat.le_of_ble_eq_true rfl, Nat.le_of_ble_eq_true rfl⟩) (gq_preV hM hKm ⟨fun q h => absurd h List.not_mem_nil, fun q h => absurd h List.not_mem_nil⟩ (va_recv hKm (gq_one (c := 0) (k := 0) hM rfl (gm_c0 cJ cZ am (ga_v a))) (ci := 4) (q0 := 0) rfl rfl)) rfl rfl hl.1 rfl (lv_room (Nat.le_of_ble_eq_true rfl)) gd_Lw_law_370 ⟨Nat.le_of_ble_eq_true rfl, Nat.le_of_ble_eq_true rfl⟩) hAm (fun q h h' => hdis q h' h) hH hS (fun H locs hM hH hS => ?_)
  refine lv_icmp_eq (tgt := 503) hx hb gd_Lw_law_373 (by decide) (fun _ => ?_) (fun c9 => absurd rfl c9)
  exact kk H locs ⟨u', a', hH, hM, hW', hR', hS⟩
