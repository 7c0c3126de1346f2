set_option maxHeartbeats 4000000 in
set_option maxRecDepth 100000 in
theorem lw_case_type {p : Program} {l : Launch} {e : Env} {s : State} {m : MethodId} {below : List Frame} {meth : Method} {c : Code} {b L : Nat} {xs : Nat → Int32} {D : va_G} {cI cT cJ cZ : ClassId} {ad am : Nat → Nat → Nat} (C0 : lw_C p s m meth c b L xs D cI cT cJ cZ ad am) {n : Nat} (h4 : 4 * n + 4 ≤ L) {H : Heap} {locs : List Loc} {ls : Array Slot} (I : lw_I s D cI cT cJ cZ ad am n H locs) (hl : lv_has ls 4 [(0, .ref b), (1, .ref (ad 0 0)), (2, .ref (am 0 0)), (3, .int (nI (4 * n)))]) (kk : ∀ (H : Heap) (locs : List Loc), lw_I s D cI cT cJ cZ ad am (n + 1) H locs → W p l e room_1 s m #[Value.ref b] below meth c H locs 219 4059 (lw_Z below #[Value.ref b] s) (F0 m 503 ls [])) : W p l e room_1 s m #[Value.ref b] below meth c H locs 219 4059 (lw_Z below #[Value.ref b] s) (F0 m 108 ls []) := by
  obtain ⟨⟨hx, hb, hr, hml, hown, hts0, hX, hbl, hlocks, hgv⟩, hK, hKm, hN, hI, hIm, hAx, hAm, hdis, hL⟩ := C0
  have hts : ∀ w ∈ (Cond.initialized "TermBook" :: gt_T), w.before #[Value.ref b] s = true := fun w hw => hts0 w (gt_sub w (gt_cons gt_1 w hw))
  have ht := fun (w : Cond) (h : w ∈ gt_T) => hts w (List.mem_cons_of_mem _ h)
  have hbA : ¬ (fun q : Nat => s.heap.size ≤ q) b := Nat.not_le.mpr hbl
  have i1 : vp_in (nI (4 * n) + 1) L := lw_in (k := 1) (by omega) hL
  have i2 : vp_in (nI (4 * n) + 2) L := lw_in (k := 2) (by omega) hL
  have i3 : vp_in (nI (4 * n) + 3) L := lw_in (k := 3) (by omega) hL
  obtain ⟨u, a, hH, hM, hW, hR, hS⟩ := I
  obtain ⟨r, u', a', e1, e2, hW', hR'⟩ := op_type ((gj_lshl (Int32.toInt64 (xs (Int32.toNatClampNeg (nI (4 * n) + 1)))) 32) ||| ((Int32.toInt64 (xs (Int32.toNatClampNeg (nI (4 * n) + 2)))) &&& 4294967295)) (xs (Int32.toNatClampNeg (nI (4 * n) + 3))) n a u (by omega) hW hR
  refine lv_aload_n hx hb gd_Lw_law_108 rfl (lv_at hl 1 rfl) ?_
  refine lv_aload_n hx hb gd_Lw_law_109 rfl (lv_at hl 0 rfl) ?_
  refine lv_iload_n hx hb gd_Lw_law_110 rfl (lv_at hl 3 rfl) ?_
  refine lv_iconst (v := 1) hx hb gd_Lw_law_111 (by decide) ?_
  refine lv_iadd hx hb gd_Lw_law_112 ?_
  refine va_sld hx hb hX hbl hbA hS i1 gd_Lw_law_113 ?_
  refine lv_i2l hx hb gd_Lw_law_114 rfl ?_
  refine lv_bipush (v := 32) hx hb gd_Lw_law_115 (by decide) ?_
  refine lv_lshl (v := gj_lshl (Int32.toInt64 (xs (Int32.toNatClampNeg (nI (4 * n) + 1)))) 32) hx hb gd_Lw_law_117 rfl ?_
  refine lv_aload_n hx hb gd_Lw_law_118 rfl (lv_at hl 0 rfl) ?_
  refine lv_iload_n hx hb gd_Lw_law_119 rfl (lv_at hl 3 rfl) ?_
  refine lv_iconst (v := 2) hx hb gd_Lw_law_120 (by decide) ?_
  refine lv_iadd hx hb gd_Lw_law_121 ?_
  refine va_sld hx hb hX hbl hbA hS i2 gd_Lw_law_122 ?_
  refine lv_i2l hx hb gd_Lw_law_123 rfl ?_
  refine lv_ldc2 (v := 4294967295) hx hb hown (ht _ gt_543) gd_Lw_law_124 ?_
  refine lv_land hx hb gd_Lw_law_127 ?_
  refine lv_lor hx hb gd_Lw_law_128 ?_
  refine lv_aload_n hx hb gd_Lw_law_129 rfl (lv_at hl 0 rfl) ?_
  refine lv_iload_n hx hb gd_Lw_law_130 rfl (lv_at hl 3 rfl) ?_
  refine lv_iconst (v := 3) hx hb gd_Lw_law_131 (by decide) ?_
  refine lv_iadd hx hb gd_Lw_law_132 ?_
  refine va_sld hx hb hX hbl hbA hS i3 gd_Lw_law_133 ?_
  refine lw_call (va_runV (As := [.long ((gj_lshl (Int32.toInt64 (xs (Int32.toNatClampNeg (nI (4 * n) + 1)))) 32) ||| ((Int32.toInt64 (xs (Int32.toNatClampNeg (nI (4 * n) + 2)))) &&& 4294967295)), .int (xs (Int32.toNatClampNeg (nI (4 * n) + 3)))]) (rest := []) ⟨hx, hb, hml, hown, hts⟩ (ct_Bk_type l D cI cT ad hI u ((gj_lshl (Int32.toInt64 (xs (Int32.toNatClampNeg (nI (4 * n) + 1)))) 32) ||| ((Int32.toInt64 (xs (Int32.toNatClampNeg (nI (4 * n) + 2)))) &&& 4294967295)) (xs (Int32.toNatClampNeg (nI (4 * n) + 3))) (r, u') e1) (cwV 2 hts (gt_V gt_101 gt_102 gt_103 gt_1 gt_104) rfl rfl rfl (by decide +kernel) ⟨Nat.le_of_ble_eq_true rfl, Nat.le_of_ble_eq_true rfl⟩) (gq_preV hH hK hN (va_recv hK (gq_one (c := 0) (k := 0) hH rfl (gk_c0 cI cT ad u)) (ci := 0) (q0 := 0) rfl rfl)) rfl rfl hl.1 rfl (lv_room (Nat.le_of_ble_eq_true rfl)) gd_Lw_law_134 ⟨Nat.le_of_ble_eq_true rfl, Nat.le_of_ble_eq_true rfl⟩) hAx hdis hM hS (fun H locs hH hM hS => ?_)
  refine lv_aload_n hx hb gd_Lw_law_137 rfl (lv_at hl 2 rfl) ?_
  refine lv_aload_n hx hb gd_Lw_law_138 rfl (lv_at hl 0 rfl) ?_
  refine lv_iload_n hx hb gd_Lw_law_139 rfl (lv_at hl 3 rfl) ?_
  refine lv_iconst (v := 1) hx hb gd_Lw_law_140 (by decide) ?_
  refine lv_iadd hx hb gd_Lw_law_141 ?_
  refine va_sld hx hb hX hbl hbA hS i1 gd_Lw_law_142 ?_
  refine lv_i2l hx hb gd_Lw_law_143 rfl ?_
  refine lv_bipush (v := 32) hx hb gd_Lw_law_144 (by decide) ?_
  refine lv_lshl (v := gj_lshl (Int32.toInt64 (xs (Int32.toNatClampNeg (nI (4 * n) + 1)))) 32) hx hb gd_Lw_law_146 rfl ?_
  refine lv_aload_n hx hb gd_Lw_law_147 rfl (lv_at hl 0 rfl) ?_
  refine lv_iload_n hx hb gd_Lw_law_148 rfl (lv_at hl 3 rfl) ?_
  refine lv_iconst (v := 2) hx hb gd_Lw_law_149 (by decide) ?_
  refine lv_iadd hx hb gd_Lw_law_150 ?_
  refine va_sld hx hb hX hbl hbA hS i2 gd_Lw_law_151 ?_
  refine lv_i2l hx hb gd_Lw_law_152 rfl ?_
  refine lv_ldc2 (v := 4294967295) hx hb hown (ht _ gt_543) gd_Lw_law_153 ?_
  refine lv_land hx hb gd_Lw_law_156 ?_
  refine lv_lor hx hb gd_Lw_law_157 ?_
  refine lv_aload_n hx hb gd_Lw_law_158 rfl (lv_at hl 0 rfl) ?_
  refine lv_iload_n hx hb gd_Lw_law_159 rfl (lv_at hl 3 rfl) ?_
  refine lv_iconst (v := 3) hx hb gd_Lw_law_160 (by decide) ?_
  refine lv_iadd hx hb gd_Lw_law_161 ?_
  refine va_sld hx hb hX hbl hbA hS i3 gd_Lw_law_162 ?_
  refine lw_call (va_runV (As := [.long ((gj_lshl (Int32.toInt64 (xs (Int32.toNatClampNeg (nI (4 * n) + 1)))) 32) ||| ((Int32.toInt64 (xs (Int32.toNatClampNeg (nI (4 * n) + 2)))) &&& 4294967295)), .int (xs (Int32.toNatClampNeg (nI (4 * n) + 3)))]) (rest := [.int r]) ⟨hx, hb, hml, hown, hts⟩ (ct_Md_type l D cJ cZ am hIm (ga_v a) ((gj_lshl (Int32.toInt64 (xs (Int32.toNatClampNeg (nI (4 * n) + 1)))) 32) ||| ((Int32.toInt64 (xs (Int32.toNatClampNeg (nI (4 * n) + 2)))) &&& 4294967295)) (xs (Int32.toNatClampNeg (nI (4 * n) + 3))) (r, ga_v a') e2) (cwV 2 hts (gt_V gt_419 gt_420 gt_421 gt_5 gt_422) rfl rfl rfl (by decide +kernel) ⟨Nat.le_of_ble_eq_true rfl, Nat.le_of_ble_eq_true rfl⟩) (gq_preV hM hKm ⟨fun q h => absurd h List.not_mem_nil, fun q h => absurd h List.not_mem_nil⟩ (va_recv hKm (gq_one (c := 0) (k := 0) hM rfl (gm_c0 cJ cZ am (ga_v a))) (ci := 4) (q0 := 0) rfl rfl)) rfl rfl hl.1 rfl (lv_room (Nat.le_of_ble_eq_true rfl)) gd_Lw_law_163 ⟨Nat.le_of_ble_eq_true rfl, Nat.le_of_ble_eq_true rfl⟩) hAm (fun q h h' => hdis q h' h) hH hS (fun H locs hM hH hS => ?_)
  refine lv_icmp_eq (tgt := 503) hx hb gd_Lw_law_166 (by decide) (fun _ => ?_) (fun c9 => absurd rfl c9)
  exact kk H locs ⟨u', a', hH, hM, hW', hR', hS⟩
set_option maxHeartbeats 4000000 in
set_option maxRecDepth 100000 in
theorem lw_case_clear {p : Program} {l : Launch} {e : Env} {s : State} {m : MethodId} {below : List Frame} {meth : Method} {c : Code} {b L : Nat} {xs : Nat → Int32} {D : va_G} {cI cT cJ cZ : ClassId} {ad am : Nat → Nat → Nat} (C0 : lw_C p s m meth c b L xs D cI cT cJ cZ ad am) {n : Nat} (h4 : 4 * n + 4 ≤ L) {H : Heap} {locs : List Loc} {ls : Array Slot} (I : lw_I s D cI cT cJ cZ ad am n H locs) (hl : lv_has ls 4 [(0, .ref b), (1, .ref (ad 0 0)), (2, .ref (am 0 0)), (3, .int (nI (4 * n)))]) (kk : ∀ (H : Heap) (locs : List Loc), lw_I s D cI cT cJ cZ ad am (n + 1) H locs → W p l e room_1 s m #[Value.ref b] below meth c H locs 219 4059 (lw_Z below #[Value.ref b] s) (F0 m 503 ls [])) : W p l e room_1 s m #[Value.ref b] below meth c H locs 219 4059 (lw_Z below #[Value.ref b] s) (F0 m 171 ls []) := by
  obtain ⟨⟨hx, hb, hr, hml, hown, hts0, hX, hbl, hlocks, hgv⟩, hK, hKm, hN, hI, hIm, hAx, hAm, hdis, hL⟩ := C0
  have hts : ∀ w ∈ (Cond.initialized "TermBook" :: gt_T), w.before #[Value.ref b] s = true := fun w hw => hts0 w (gt_sub w (gt_cons gt_1 w hw))
  have ht := fun (w : Cond) (h : w ∈ gt_T) => hts w (List.mem_cons_of_mem _ h)
  have hbA : ¬ (fun q : Nat => s.heap.size ≤ q) b := Nat.not_le.mpr hbl
  have i1 : vp_in (nI (4 * n) + 1) L := lw_in (k := 1) (by omega) hL
  have i2 : vp_in (nI (4 * n) + 2) L := lw_in (k := 2) (by omega) hL
  have i3 : vp_in (nI (4 * n) + 3) L := lw_in (k := 3) (by omega) hL
  obtain ⟨u, a, hH, hM, hW, hR, hS⟩ := I
  obtain ⟨r, u', a', e1, e2, hW', hR'⟩ := op_clear n a u (by omega) hW hR
  refine lv_aload_n hx hb gd_Lw_law_171 rfl (lv_at hl 1 rfl) ?_
  refine lw_call (va_runV (As := []) (rest := []) ⟨hx, hb, hml, hown, hts⟩ (ct_Bk_clear l D cI cT ad hI u  (r, u') e1) (cwV 0 hts (gt_V gt_116 gt_117 gt_118 gt_1 gt_119) rfl rfl rfl (by decide +kernel) ⟨Nat.le_of_ble_eq_true rfl, Nat.le_of_ble_eq_true rfl⟩) (gq_preV hH hK hN (va_recv hK (gq_one (c := 0) (k := 0) hH rfl (gk_c0 cI cT ad u)) (ci := 0) (q0 := 0) rfl rfl)) rfl rfl hl.1 rfl (lv_room (Nat.le_of_ble_eq_true rfl)) gd_Lw_law_172 ⟨Nat.le_of_ble_eq_true rfl, Nat.le_of_ble_eq_true rfl⟩) hAx hdis hM hS (fun H locs hH hM hS => ?_)
  refine lv_aload_n hx hb gd_Lw_law_175 rfl (lv_at hl 2 rfl) ?_
  refine lw_call (va_runV (As := []) (rest := [.int r]) ⟨hx, hb, hml, hown, hts⟩ (ct_Md_clear l D cJ cZ am hIm (ga_v a)  (r, ga_v a') e2) (cwV 0 hts (gt_V gt_427 gt_428 gt_429 gt_5 gt_430) rfl rfl rfl (by decide +kernel) ⟨Nat.le_of_ble_eq_true rfl, Nat.le_of_ble_eq_true rfl⟩) (gq_preV hM hKm ⟨fun q h => absurd h List.not_mem_nil, fun q h => absurd h List.not_mem_nil⟩ (va_recv hKm (gq_one (c := 0) (k := 0) hM rfl (gm_c0 cJ cZ am (ga_v a))) (ci := 4) (q0 := 0) rfl rfl)) rfl rfl hl.1 rfl (lv_room (Nat.le_of_ble_eq_true rfl)) gd_Lw_law_176 ⟨Nat.le_of_ble_eq_true rfl, Nat.le_of_ble_eq_true rfl⟩) hAm (fun q h h' => hdis q h' h) hH hS (fun H locs hM hH hS => ?_)
  refine lv_icmp_eq (tgt := 503) hx hb gd_Lw_law_179 (by decide) (fun _ => ?_) (fun c9 => absurd rfl c9)
  exact kk H locs ⟨u', a', hH, hM, hW', hR', hS⟩
set_option maxHeartbeats 4000000 in
set_option maxRecDepth 100000 in
theorem lw_case_add {p : Program} {l : Launch} {e : Env} {s : State} {m : MethodId} {below : List Frame} {meth : Method} {c : Code} {b L : Nat} {xs : Nat → Int32} {D : va_G} {cI cT cJ cZ : ClassId} {ad am : Nat → Nat → Nat} (C0 : lw_C p s m meth c b L xs D cI cT cJ cZ ad am) {n : Nat} (h4 : 4 * n + 4 ≤ L) {H : Heap} {locs : List Loc} {ls : Array Slot} (I : lw_I s D cI cT cJ cZ ad am n H locs) (hl : lv_has ls 4 [(0, .ref b), (1, .ref (ad 0 0)), (2, .ref (am 0 0)), (3, .int (nI (4 * n)))]) (kk : ∀ (H : Heap) (locs : List Loc), lw_I s D cI cT cJ cZ ad am (n + 1) H locs → W p l e room_1 s m #[Value.ref b] below meth c H locs 219 4059 (lw_Z below #[Value.ref b] s) (F0 m 503 ls [])) : W p l e room_1 s m #[Value.ref b] below meth c H locs 219 4059 (lw_Z below #[Value.ref b] s) (F0 m 184 ls []) := by
  obtain ⟨⟨hx, hb, hr, hml, hown, hts0, hX, hbl, hlocks, hgv⟩, hK, hKm, hN, hI, hIm, hAx, hAm, hdis, hL⟩ := C0
  have hts : ∀ w ∈ (Cond.initialized "TermBook" :: gt_T), w.before #[Value.ref b] s = true := fun w hw => hts0 w (gt_sub w (gt_cons gt_1 w hw))
  have ht := fun (w : Cond) (h : w ∈ gt_T) => hts w (List.mem_cons_of_mem _ h)
  have hbA : ¬ (fun q : Nat => s.heap.size ≤ q) b := Nat.not_le.mpr hbl
  have i1 : vp_in (nI (4 * n) + 1) L := lw_in (k := 1) (by omega) hL
  have i2 : vp_in (nI (4 * n) + 2) L := lw_in (k := 2) (by omega) hL
  have i3 : vp_in (nI (4 * n) + 3) L := lw_in (k := 3) (by omega) hL
  obtain ⟨u, a, hH, hM, hW, hR, hS⟩ := I
  obtain ⟨r, u', a', e1, e2, hW', hR'⟩ := op_add (xs (Int32.toNatClampNeg (nI (4 * n) + 1))) n a u (by omega) hW hR
  refine lv_aload_n hx hb gd_Lw_law_184 rfl (lv_at hl 1 rfl) ?_
  refine lv_aload_n hx hb gd_Lw_law_185 rfl (lv_at hl 0 rfl) ?_
  refine lv_iload_n hx hb gd_Lw_law_186 rfl (lv_at hl 3 rfl) ?_
  refine lv_iconst (v := 1) hx hb gd_Lw_law_187 (by decide) ?_
  refine lv_iadd hx hb gd_Lw_law_188 ?_
  refine va_sld hx hb hX hbl hbA hS i1 gd_Lw_law_189 ?_
  refine lw_call (va_runV (As := [.int (xs (Int32.toNatClampNeg (nI (4 * n) + 1)))]) (rest := []) ⟨hx, hb, hml, hown, hts⟩ (ct_Bk_add l D cI cT ad hI u (xs (Int32.toNatClampNeg (nI (4 * n) + 1))) (r, u') e1) (cwV 1 hts (gt_V gt_124 gt_125 gt_126 gt_1 gt_127) rfl rfl rfl (by decide +kernel) ⟨Nat.le_of_ble_eq_true rfl, Nat.le_of_ble_eq_true rfl⟩) (gq_preV hH hK hN (va_recv hK (gq_one (c := 0) (k := 0) hH rfl (gk_c0 cI cT ad u)) (ci := 0) (q0 := 0) rfl rfl)) rfl rfl hl.1 rfl (lv_room (Nat.le_of_ble_eq_true rfl)) gd_Lw_law_190 ⟨Nat.le_of_ble_eq_true rfl, Nat.le_of_ble_eq_true rfl⟩) hAx hdis hM hS (fun H locs hH hM hS => ?_)
  refine lv_aload_n hx hb gd_Lw_law_193 rfl (lv_at hl 2 rfl) ?_
  refine lv_aload_n hx hb gd_Lw_law_194 rfl (lv_at hl 0 rfl) ?_
  refine lv_iload_n hx hb gd_Lw_law_195 rfl (lv_at hl 3 rfl) ?_
  refine lv_iconst (v := 1) hx hb gd_Lw_law_196 (by decide) ?_
  refine lv_iadd hx hb gd_Lw_law_197 ?_
  refine va_sld hx hb hX hbl hbA hS i1 gd_Lw_law_198 ?_
  refine lw_call (va_runV (As := [.int (xs (Int32.toNatClampNeg (nI (4 * n) + 1)))]) (rest := [.int r]) ⟨hx, hb, hml, hown, hts⟩ (ct_Md_add l D cJ cZ am hIm (ga_v a) (xs (Int32.toNatClampNeg (nI (4 * n) + 1))) (r, ga_v a') e2) (cwV 1 hts (gt_V gt_431 gt_432 gt_433 gt_5 gt_434) rfl rfl rfl (by decide +kernel) ⟨Nat.le_of_ble_eq_true rfl, Nat.le_of_ble_eq_true rfl⟩) (gq_preV hM hKm ⟨fun q h => absurd h List.not_mem_nil, fun q h => absurd h List.not_mem_nil⟩ (va_recv hKm (gq_one (c := 0) (k := 0) hM rfl (gm_c0 cJ cZ am (ga_v a))) (ci := 4) (q0 := 0) rfl rfl)) rfl rfl hl.1 rfl (lv_room (Nat.le_of_ble_eq_true rfl)) gd_Lw_law_199 ⟨Nat.le_of_ble_eq_true rfl, Nat.le_of_ble_eq_true rfl⟩) hAm (fun q h h' => hdis q h' h) hH hS (fun H locs hM hH hS => ?_)
  refine lv_icmp_eq (tgt := 503) hx hb gd_Lw_law_202 (by decide) (fun _ => ?_) (fun c9 => absurd rfl c9)
  exact kk H locs ⟨u', a', hH, hM, hW', hR', hS⟩
set_option maxHeartbeats 4000000 in
set_option maxRecDepth 100000 in
theorem lw_case_drop {p : Program} {l : Launch} {e : Env} {s : State} {m : MethodId} {below : List Frame} {meth : Method} {c : Code} {b L : Nat} {xs : Nat → Int32} {D : va_G} {cI cT cJ cZ : ClassId} {ad am : Nat → Nat → Nat} (C0 : lw_C p s m meth c b L xs D cI cT cJ cZ ad am) {n : Nat} (h4 : 4 * n + 4 ≤ L) {H : Heap} {locs : List Loc} {ls : Array Slot} (I : lw_I s D cI cT cJ cZ ad am n H locs) (hl : lv_has ls 4 [(0, .ref b), (1, .ref (ad 0 0)), (2, .ref (am 0 0)), (3, .int (nI (4 * n)))]) (kk : ∀ (H : Heap) (locs : List Loc), lw_I s D cI cT cJ cZ ad am (n + 1) H locs → W p l e room_1 s m #[Value.ref b] below meth c H locs 219 4059 (lw_Z below #[Value.ref b] s) (F0 m 503 ls [])) : W p l e room_1 s m #[Value.ref b] below meth c H locs 219 4059 (lw_Z below #[Value.ref b] s) (F0 m 207 ls []) := by
  obtain ⟨⟨hx, hb, hr, hml, hown, hts0, hX, hbl, hlocks, hgv⟩, hK, hKm, hN, hI, hIm, hAx, hAm, hdis, hL⟩ := C0
  have hts : ∀ w ∈ (Cond.initialized "TermBook" :: gt_T), w.before #[Value.ref b] s = true := fun w hw => hts0 w (gt_sub w (gt_cons gt_1 w hw))
  have ht := fun (w : Cond) (h : w ∈ gt_T) => hts w (List.mem_cons_of_mem _ h)
  have hbA : ¬ (fun q : Nat => s.heap.size ≤ q) b := Nat.not_le.mpr hbl
  have i1 : vp_in (nI (4 * n) + 1) L := lw_in (k := 1) (by omega) hL
  have i2 : vp_in (nI (4 * n) + 2) L := lw_in (k := 2) (by omega) hL
  have i3 : vp_in (nI (4 * n) + 3) L := lw_in (k := 3) (by omega) hL
  obtain ⟨u, a, hH, hM, hW, hR, hS⟩ := I
  obtain ⟨r, u', a', e1, e2, hW', hR'⟩ := op_drop (xs (Int32.toNatClampNeg (nI (4 * n) + 1))) n a u (by omega) hW hR
  refine lv_aload_n hx hb gd_Lw_law_207 rfl (lv_at hl 1 rfl) ?_
  refine lv_aload_n hx hb gd_Lw_law_208 rfl (lv_at hl 0 rfl) ?_
  refine lv_iload_n hx hb gd_Lw_law_209 rfl (lv_at hl 3 rfl) ?_
  refine lv_iconst (v := 1) hx hb gd_Lw_law_210 (by decide) ?_
  refine lv_iadd hx hb gd_Lw_law_211 ?_
  refine va_sld hx hb hX hbl hbA hS i1 gd_Lw_law_212 ?_
  refine lw_call (va_runV (As := [.int (xs (Int32.toNatClampNeg (nI (4 * n) + 1)))]) (rest := []) ⟨hx, hb, hml, hown, hts⟩ (ct_Bk_drop l D cI cT ad hI u (xs (Int32.toNatClampNeg (nI (4 * n) + 1))) (r, u') e1) (cwV 1 hts (gt_V gt_208 gt_209 gt_210 gt_1 gt_211) rfl rfl rfl (by decide +kernel) ⟨Nat.le_of_ble_eq_true rfl, Nat.le_of_ble_eq_true rfl⟩) (gq_preV hH hK hN (va_recv hK (gq_one (c := 0) (k := 0) hH rfl (gk_c0 cI cT ad u)) (ci := 0) (q0 := 0) rfl rfl)) rfl rfl hl.1 rfl (lv_room (Nat.le_of_ble_eq_true rfl)) gd_Lw_law_213 ⟨Nat.le_of_ble_eq_true rfl, Nat.le_of_ble_eq_true rfl⟩) hAx hdis hM hS (fun H locs hH hM hS => ?_)
  refine lv_aload_n hx hb gd_Lw_law_216 rfl (lv_at hl 2 rfl) ?_
  refine lv_aload_n hx hb gd_Lw_law_217 rfl (lv_at hl 0 rfl) ?_
  refine lv_iload_n hx hb gd_Lw_law_218 rfl (lv_at hl 3 rfl) ?_
  refine lv_iconst (v := 1) hx hb gd_Lw_law_219 (by decide) ?_
  refine lv_iadd hx hb gd_Lw_law_220 ?_
  refine va_sld hx hb hX hbl hbA hS i1 gd_Lw_law_221 ?_
  refine lw_call (va_runV (As := [.int (xs (Int32.toNatClampNeg (nI (4 * n) + 1)))]) (rest := [.int r]) ⟨hx, hb, hml, hown, hts⟩ (ct_Md_drop l D cJ cZ am hIm (ga_v a) (xs (Int32.toNatClampNeg (nI (4 * n) + 1))) (r, ga_v a') e2) (cwV 1 hts (gt_V gt_459 gt_460 gt_461 gt_5 gt_462) rfl rfl rfl (by decide +kernel) ⟨Nat.le_of_ble_eq_true rfl, Nat.le_of_ble_eq_true rfl⟩) (gq_preV hM hKm ⟨fun q h => absurd h List.not_mem_nil, fun q h => absurd h List.not_mem_nil⟩ (va_recv hKm (gq_one (c := 0) (k := 0) hM rfl (gm_c0 cJ cZ am (ga_v a))) (ci := 4) (q0 := 0) rfl rfl)) rfl rfl hl.1 rfl (lv_room (Nat.le_of_ble_eq_true rfl)) gd_Lw_law_222 ⟨Nat.le_of_ble_eq_true rfl, Nat.le_of_ble_eq_true rfl⟩) hAm (fun q h h' => hdis q h' h) hH hS (fun H locs hM hH hS => ?_)
  refine lv_icmp_eq (tgt := 503) hx hb gd_Lw_law_225 (by decide) (fun _ => ?_) (fun c9 => absurd rfl c9)
  exact kk H locs ⟨u', a', hH, hM, hW', hR', hS⟩
set_option maxHeartbeats 4000000 in
set_option maxRecDepth 100000 in
theorem lw_case_find {p : Program} {l : Launch} {e : Env} {s : State} {m : MethodId} {below : List Frame} {meth : Method} {c : Code} {b L : Nat} {xs : Nat → Int32} {D : va_G} {cI cT cJ cZ : ClassId} {ad am : Nat → Nat → Nat} (C0 : lw_C p s m meth c b L xs D cI cT cJ cZ ad am) {n : Nat} (h4 : 4 * n + 4 ≤ L) {H : Heap} {locs : List Loc} {ls : Array Slot} (I : lw_I s D cI cT cJ cZ ad am n H locs) (hl : lv_has ls 4 [(0, .ref b), (1, .ref (ad 0 0)), (2, .ref (am 0 0)), (3, .int (nI (4 * n)))]) (kk : ∀ (H : Heap) (locs : List Loc), lw_I s D cI cT cJ cZ ad am (n + 1) H locs → W p l e room_1 s m #[Value.ref b] below meth c H locs 219 4059 (lw_Z below #[Value.ref b] s) (F0 m 503 ls [])) : W p l e room_1 s m #[Value.ref b] below meth c H locs 219 4059 (lw_Z below #[Value.ref b] s) (F0 m 230 ls []) := by
  obtain ⟨⟨hx, hb, hr, hml, hown, hts0, hX, hbl, hlocks, hgv⟩, hK, hKm, hN, hI, hIm, hAx, hAm, hdis, hL⟩ := C0
  have hts : ∀ w ∈ (Cond.initialized "TermBook" :: gt_T), w.before #[Value.ref b] s = true := fun w hw => hts0 w (gt_sub w (gt_cons gt_1 w hw))
  have ht := fun (w : Cond) (h : w ∈ gt_T) => hts w (List.mem_cons_of_mem _ h)
  have hbA : ¬ (fun q : Nat => s.heap.size ≤ q) b := Nat.not_le.mpr hbl
  have i1 : vp_in (nI (4 * n) + 1) L := lw_in (k := 1) (by omega) hL
  have i2 : vp_in (nI (4 * n) + 2) L := lw_in (k := 2) (by omega) hL
  have i3 : vp_in (nI (4 * n) + 3) L := lw_in (k := 3) (by omega) hL
  obtain ⟨u, a, hH, hM, hW, hR, hS⟩ := I
  obtain ⟨r, u', a', e1, e2, hW', hR'⟩ := op_find (xs (Int32.toNatClampNeg (nI (4 * n) + 1))) n a u (by omega) hW hR
  refine lv_aload_n hx hb gd_Lw_law_230 rfl (lv_at hl 1 rfl) ?_
  refine lv_aload_n hx hb gd_Lw_law_231 rfl (lv_at hl 0 rfl) ?_
  refine lv_iload_n hx hb gd_Lw_law_232 rfl (lv_at hl 3 rfl) ?_
  refine lv_iconst (v := 1) hx hb gd_Lw_law_233 (by decide) ?_
  refine lv_iadd hx hb gd_Lw_law_234 ?_
  refine va_sld hx hb hX hbl hbA hS i1 gd_Lw_law_235 ?_
  refine lw_call (va_runV (As := [.int (xs (Int32.toNatClampNeg (nI (4 * n) + 1)))]) (rest := []) ⟨hx, hb, hml, hown, hts⟩ (ct_Bk_find l D cI cT ad hI u (xs (Int32.toNatClampNeg (nI (4 * n) + 1))) (r, u') e1) (cwV 1 hts (gt_V gt_244 gt_245 gt_246 gt_1 gt_247) rfl rfl rfl (by decide +kernel) ⟨Nat.le_of_ble_eq_true rfl, Nat.le_of_ble_eq_true rfl⟩) (gq_preV hH hK hN (va_recv hK (gq_one (c := 0) (k := 0) hH rfl (gk_c0 cI cT ad u)) (ci := 0) (q0 := 0) rfl rfl)) rfl rfl hl.1 rfl (lv_room (Nat.le_of_ble_eq_true rfl)) gd_Lw_law_236 ⟨Nat.le_of_ble_eq_true rfl, Nat.le_of_ble_eq_true rfl⟩) hAx hdis hM hS (fun H locs hH hM hS => ?_)
  refine lv_aload_n hx hb gd_Lw_law_239 rfl (lv_at hl 2 rfl) ?_
  refine lv_aload_n hx hb gd_Lw_law_240 rfl (lv_at hl 0 rfl) ?_
  refine lv_iload_n hx hb gd_Lw_law_241 rfl (lv_at hl 3 rfl) ?_
  refine lv_iconst (v := 1) hx hb gd_Lw_law_242 (by decide) ?_
  refine lv_iadd hx hb gd_Lw_law_243 ?_
  refine va_sld hx hb hX hbl hbA hS i1 gd_Lw_law_244 ?_
  refine lw_call (va_runV (As := [.int (xs (Int32.toNatClampNeg (nI (4 * n) + 1)))]) (rest := [.int r]) ⟨hx, hb, hml, hown, hts⟩ (ct_Md_find l D cJ cZ am hIm (ga_v a) (xs (Int32.toNatClampNeg (nI (4 * n) + 1))) (r, ga_v a') e2) (cwV 1 hts (gt_V gt_487 gt_488 gt_489 gt_5 gt_490) rfl rfl rfl (by decide +kernel) ⟨Nat.le_of_ble_eq_true rfl, Nat.le_of_ble_eq_true rfl⟩) (gq_preV hM hKm ⟨fun q h => absurd h List.not_mem_nil, fun q h => absurd h List.not_mem_nil⟩ (va_recv hKm (gq_one (c := 0) (k := 0) hM rfl (gm_c0 cJ cZ am (ga_v a))) (ci := 4) (q0 := 0) rfl rfl)) rfl rfl hl.1 rfl (lv_room (Nat.le_of_ble_eq_true rfl)) gd_Lw_law_245 ⟨Nat.le_of_ble_eq_true rfl, Nat.le_of_ble_eq_true rfl⟩) hAm (fun q h h' => hdis q h' h) hH hS (fun H locs hM hH hS => ?_)
  refine lv_icmp_eq (tgt := 503) hx hb gd_Lw_law_248 (by decide) (fun _ => ?_) (fun c9 => absurd rfl c9)
  exact kk H locs ⟨u', a', hH, hM, hW', hR', hS⟩
