set_option maxHeartbeats 4000000 in
set_option maxRecDepth 100000 in
theorem law_loop {p : Program} {l : Launch} {e : Env} {s : State} {m : MethodId} {below : List Frame} {meth : Method} {c : Code} {b L : Nat} {xs : Nat → Int32} {D : va_G} {cI cT cJ cZ : ClassId} {ad am : Nat → Nat → Nat} (C0 : lw_C p s m meth c b L xs D cI cT cJ cZ ad am) : ∀ (k n : Nat) (H : Heap) (locs : List Loc) (ls : Array Slot), L ≤ 4 * n + 4 * k → n ≤ 512 → lw_I s D cI cT cJ cZ ad am n H locs → lv_has ls 4 [(0, .ref b), (1, .ref (ad 0 0)), (2, .ref (am 0 0)), (3, .int (nI (4 * n)))] → W p l e room_1 s m #[Value.ref b] below meth c H locs 219 4059 (lw_Z below #[Value.ref b] s) (F0 m 18 ls []) := by
  obtain ⟨⟨hx, hb, hr, hml, hown, hts0, hX, hbl, hlocks, hgv⟩, hK, hKm, hN, hI, hIm, hAx, hAm, hdis, hL⟩ := id C0
  have hbA : ¬ (fun q : Nat => s.heap.size ≤ q) b := Nat.not_le.mpr hbl
  intro k
  induction k with
  | zero =>
    intro n H locs ls hk hn I hl
    have hS := I.choose_spec.choose_spec.2.2.2.2
    refine lv_iload_n hx hb gd_Lw_law_18 rfl (lv_at hl 3 rfl) ?_
    refine lv_aload_n hx hb gd_Lw_law_19 rfl (lv_at hl 0 rfl) ?_
    refine va_slen hx hb hX hbl hbA hS gd_Lw_law_20 ?_
    refine lv_iconst (v := 4) hx hb gd_Lw_law_21 (by decide) ?_
    refine lv_isub hx hb gd_Lw_law_22 ?_
    refine lv_icmp_gt (tgt := 509) hx hb gd_Lw_law_23 (by decide) (fun c1 => ?_) (fun c1 => ?_)
    · refine lv_iconst (v := 1) hx hb gd_Lw_law_509 (by decide) ?_
      refine va_forget (fun q hq => hS.2.2 q hq) ?_
      refine W.widen (k := 600000) (n := 7302250) (Nat.le_of_ble_eq_true rfl) (Nat.le_of_ble_eq_true rfl) ?_
      exact lw_ret hx hb hr hlocks gd_Lw_law_510
    · have h4 : 4 * n + 4 ≤ L := lw_end hL hn c1
      omega
  | succ k ih =>
    intro n H locs ls hk hn I hl
    have hS := I.choose_spec.choose_spec.2.2.2.2
    refine lv_iload_n hx hb gd_Lw_law_18 rfl (lv_at hl 3 rfl) ?_
    refine lv_aload_n hx hb gd_Lw_law_19 rfl (lv_at hl 0 rfl) ?_
    refine va_slen hx hb hX hbl hbA hS gd_Lw_law_20 ?_
    refine lv_iconst (v := 4) hx hb gd_Lw_law_21 (by decide) ?_
    refine lv_isub hx hb gd_Lw_law_22 ?_
    refine lv_icmp_gt (tgt := 509) hx hb gd_Lw_law_23 (by decide) (fun c1 => ?_) (fun c1 => ?_)
    · refine lv_iconst (v := 1) hx hb gd_Lw_law_509 (by decide) ?_
      refine va_forget (fun q hq => hS.2.2 q hq) ?_
      refine W.widen (k := 600000) (n := 7302250) (Nat.le_of_ble_eq_true rfl) (Nat.le_of_ble_eq_true rfl) ?_
      exact lw_ret hx hb hr hlocks gd_Lw_law_510
    · have h4 : 4 * n + 4 ≤ L := lw_end hL hn c1
      have hT : ∀ (H : Heap) (locs : List Loc), lw_I s D cI cT cJ cZ ad am (n + 1) H locs → W p l e room_1 s m #[Value.ref b] below meth c H locs 219 4059 (lw_Z below #[Value.ref b] s) (F0 m 503 ls []) := by
        intro H locs I
        refine lv_iinc (v := nI (4 * (n + 1))) (lv' := [(3, .int (nI (4 * (n + 1)))), (0, .ref b), (1, .ref (ad 0 0)), (2, .ref (am 0 0))]) hx hb gd_Lw_law_503 hl (k := 3) rfl (nI_add (4 * n) 4) (by decide) rfl (fun ls hl => ?_)
        refine lv_goto (tgt := 18) hx hb gd_Lw_law_506 (by decide) ?_
        exact ih (n + 1) H locs ls (by omega) (by omega) I (lv_sub hl [1, 2, 3, 0] rfl)
      have i0 : vp_in (nI (4 * n)) L := vp_in_nI (by omega) (by omega)
      refine lv_aload_n hx hb gd_Lw_law_26 rfl (lv_at hl 0 rfl) ?_
      refine lv_iload_n hx hb gd_Lw_law_27 rfl (lv_at hl 3 rfl) ?_
      refine va_sld hx hb hX hbl hbA hS i0 gd_Lw_law_28 ?_
      refine lv_bipush (v := 15) hx hb gd_Lw_law_29 (by decide) ?_
      refine lv_iand hx hb gd_Lw_law_31 ?_
      generalize xs (nI (4 * n)).toNatClampNeg &&& 15 = v
      by_cases c0 : v = 0
      · refine gj_tab (tgt := 108) (k := 0) hx hb c0 gd_Lw_law_32 (by decide) (by decide) rfl (by decide) ?_
        exact lw_case_type C0 h4 I hl hT
      by_cases c1 : v = 1
      · refine gj_tab (tgt := 171) (k := 1) hx hb c1 gd_Lw_law_32 (by decide) (by decide) rfl (by decide) ?_
        exact lw_case_clear C0 h4 I hl hT
      by_cases c2 : v = 2
      · refine gj_tab (tgt := 184) (k := 2) hx hb c2 gd_Lw_law_32 (by decide) (by decide) rfl (by decide) ?_
        exact lw_case_add C0 h4 I hl hT
      by_cases c3 : v = 3
      · refine gj_tab (tgt := 207) (k := 3) hx hb c3 gd_Lw_law_32 (by decide) (by decide) rfl (by decide) ?_
        exact lw_case_drop C0 h4 I hl hT
      by_cases c4 : v = 4
      · refine gj_tab (tgt := 230) (k := 4) hx hb c4 gd_Lw_law_32 (by decide) (by decide) rfl (by decide) ?_
        exact lw_case_find C0 h4 I hl hT
      by_cases c5 : v = 5
      · refine gj_tab (tgt := 253) (k := 5) hx hb c5 gd_Lw_law_32 (by decide) (by decide) rfl (by decide) ?_
        exact lw_case_term C0 h4 I hl hT
      by_cases c6 : v = 6
      · refine gj_tab (tgt := 286) (k := 6) hx hb c6 gd_Lw_law_32 (by decide) (by decide) rfl (by decide) ?_
        exact lw_case_at C0 h4 I hl hT
      by_cases c7 : v = 7
      · refine gj_tab (tgt := 309) (k := 7) hx hb c7 gd_Lw_law_32 (by decide) (by decide) rfl (by decide) ?_
        exact lw_case_place C0 h4 I hl hT
      by_cases c8 : v = 8
      · refine gj_tab (tgt := 332) (k := 8) hx hb c8 gd_Lw_law_32 (by decide) (by decide) rfl (by decide) ?_
        exact lw_case_begins C0 h4 I hl hT
      by_cases c9 : v = 9
      · refine gj_tab (tgt := 355) (k := 9) hx hb c9 gd_Lw_law_32 (by decide) (by decide) rfl (by decide) ?_
        exact lw_case_from C0 h4 I hl hT
      by_cases c10 : v = 10
      · refine gj_tab (tgt := 378) (k := 10) hx hb c10 gd_Lw_law_32 (by decide) (by decide) rfl (by decide) ?_
        exact lw_case_version C0 h4 I hl hT
      by_cases c11 : v = 11
      · refine gj_tab (tgt := 391) (k := 11) hx hb c11 gd_Lw_law_32 (by decide) (by decide) rfl (by decide) ?_
        exact lw_case_release C0 h4 I hl hT
      by_cases c12 : v = 12
      · refine gj_tab (tgt := 414) (k := 12) hx hb c12 gd_Lw_law_32 (by decide) (by decide) rfl (by decide) ?_
        exact lw_case_had C0 h4 I hl hT
      by_cases c13 : v = 13
      · refine gj_tab (tgt := 447) (k := 13) hx hb c13 gd_Lw_law_32 (by decide) (by decide) rfl (by decide) ?_
        exact lw_case_leaf C0 h4 I hl hT
      by_cases c14 : v = 14
      · refine gj_tab (tgt := 480) (k := 14) hx hb c14 gd_Lw_law_32 (by decide) (by decide) rfl (by decide) ?_
        exact lw_case_count C0 h4 I hl hT
      refine lv_tableOut (tgt := 503) hx hb gd_Lw_law_32 (by have e0 := lv_neT (a := 0) c0 rfl; have e1 := lv_neT (a := 1) c1 rfl; have e2 := lv_neT (a := 2) c2 rfl; have e3 := lv_neT (a := 3) c3 rfl; have e4 := lv_neT (a := 4) c4 rfl; have e5 := lv_neT (a := 5) c5 rfl; have e6 := lv_neT (a := 6) c6 rfl; have e7 := lv_neT (a := 7) c7 rfl; have e8 := lv_neT (a := 8) c8 rfl; have e9 := lv_neT (a := 9) c9 rfl; have e10 := lv_neT (a := 10) c10 rfl; have e11 := lv_neT (a := 11) c11 rfl; have e12 := lv_neT (a := 12) c12 rfl; have e13 := lv_neT (a := 13) c13 rfl; have e14 := lv_neT (a := 14) c14 rfl; omega) (by decide) ?_
      obtain ⟨u, a, h1, h2, h3, h5⟩ := I
      exact hT H locs ⟨u, a, h1, h2, h3.up, h5⟩
