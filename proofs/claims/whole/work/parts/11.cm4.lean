set_option maxHeartbeats 4000000 in
set_option maxRecDepth 100000 in
theorem ct_Md_cost (l : Launch) (D : va_G) (cI cZ : ClassId) (ad : Nat → Nat → Nat) (hI : gq_I gm_vd ad) (u : gm_St) (p1 : Int32) (z : Int32 × gm_St) (hf : fn_Md_cost p1 u = some z) : Met l gy_Md_cost gws_Md_cost ({ frames := 2, cells := 0, slots := 0, locals := 50 }) (va_Pc [.ref (ad 0 0), .int p1] (gq_pre D gc_cl (gm_tys cI cZ) gm_vd ad gm_NF gm_NM (gm_pc cI cZ ad u))) (va_Qi (fun r u2 => r = z.1 ∧ u2 = z.2) (fun u2 t => gq_B D gc_cl (gm_tys cI cZ) gm_vd ad (gm_pc cI cZ ad u2) t) (gq_A gm_vd ad)) 0 0 (gq_A gm_vd ad) := by
  refine Met.ofW (cc := gb_Md_cost) (maxL := 5) (ret := (some .int)) (by decide) rfl ?_
  intro p e s m args below meth c s₁ B hml hv
  obtain ⟨rfl, hH, hK, hN⟩ := hv
  have hx := B.exec
  have hb := B.bytes
  have hr := B.returns
  have hts := atoms_spec (ws := gws_Md_cost) B.pre
  have ht := fun (w : Cond) (h : w ∈ gt_T) => hts w (List.mem_cons_of_mem _ h)
  have hown : s.vm.findClass gR_Md = some m.cls := findClass_of_methodNamed B.named
  have hlocks := B.notSynchronized
  have hA : ∀ q, (gq_A gm_vd ad) q → (gq_A gm_vd ad) q := fun _ h => h
  have hS : va_S (gq_A gm_vd ad) s.heap s.heap [] := va_S.rf
  have hl := lv_entry ([.ref (ad 0 0), .int p1]) (n := 5) (Nat.le_of_ble_eq_true rfl)
  rw [lg_entry_eq]
  generalize (lg_sl ([.ref (ad 0 0), .int p1]) ++ List.replicate (5 - (lg_sl ([.ref (ad 0 0), .int p1])).length) Slot.unset).toArray = ls at hl ⊢
  have hl : lv_has ls 5 [(0, .ref (ad 0 0)), (1, .int p1)] := hl
  have L15 : ∀ (n : Nat) (x1 : Int32) (x2 : Int32) (x3 : Int32) (x4 : Int32) (u : gm_St) (H : Heap) (locs : List Loc) (ls : Array Slot), fn_Md_cost_15 n x1 x2 x3 x4 u = some z → gq_H D gc_cl gm_vd ad (gm_pc cI cZ ad u) H → va_S (gq_A gm_vd ad) s.heap H locs → lv_has ls 5 [(0, .ref (ad 0 0)), (1, .int x1), (2, .int x2), (3, .int x3), (4, .int x4)] → W p l e (headSpec gws_Md_cost ({ frames := 2, cells := 0, slots := 0, locals := 50 })).room s m ([.ref (ad 0 0), .int p1] : List Value).toArray below meth c H locs 0 0 (MQ below (va_Qi (fun r u2 => r = z.1 ∧ u2 = z.2) (fun u2 t => gq_B D gc_cl (gm_tys cI cZ) gm_vd ad (gm_pc cI cZ ad u2) t) (gq_A gm_vd ad)) ([.ref (ad 0 0), .int p1] : List Value).toArray s 0 0 (gq_A gm_vd ad)) (F0 m 15 ls []) := by
    intro n
    induction n with
    | zero =>
      intro x1 x2 x3 x4 u H locs ls hf
      have h0 : none = some z := hf
      cases h0
    | succ n ih =>
      intro x1 x2 x3 x4 u H locs ls hf hH hS hl
      rw [fn_Md_cost_15] at hf
      refine lv_iload hx hb gd_Md_cost_15 (lv_at hl 4 rfl) ?_
      refine lv_aload_n hx hb gd_Md_cost_17 rfl (lv_at hl 0 rfl) ?_
      refine lv_iload_n hx hb gd_Md_cost_18 rfl (lv_at hl 1 rfl) ?_
      obtain ⟨z5, hc6, hf⟩ := Option.bind_eq_some_iff.mp hf
      refine gq_calli (va_runV (As := [.int x1]) (rest := [.int x4]) ⟨hx, hb, hml, hown, hts⟩ (ct_Md_begin l D cI cZ ad hI u x1 z5 hc6) (cwV 1 hts (gt_V gt_455 gt_457 (gt_sel (List.mem_of_getElem? (i := 28) rfl)) gt_5 gt_458) rfl rfl rfl (by decide +kernel) ⟨Nat.le_of_ble_eq_true rfl, Nat.le_of_ble_eq_true rfl⟩) (gq_preV hH hK hN (va_recv hK (gq_one (c := 0) (k := 0) hH rfl (gm_c0 cI cZ ad u)) (ci := 4) (q0 := 0) rfl rfl)) rfl rfl hl.1 rfl (lv_room (Nat.le_of_ble_eq_true rfl)) gd_Md_cost_19 ⟨Nat.zero_le _, Nat.zero_le _⟩) hA hS (fun H locs hH hS => ?_)
      refine lv_aload_n hx hb gd_Md_cost_22 rfl (lv_at hl 0 rfl) ?_
      refine va_get (D := D) (ci := 4) (C := gR_Md) (T := gT_Md) (N := 16) hx hb hts (fun w h => List.mem_cons_of_mem _ (gl_Md w h)) hown hK (gq_one (c := 0) (k := 0) hH rfl (gm_c0 cI cZ ad z5.2)) 0 rfl rfl 10 (by decide) (ht _ gt_379) (fun _ h9 => h9) rfl gd_Md_cost_23 ?_
      refine lv_iload_n hx hb gd_Md_cost_26 rfl (lv_at hl 1 rfl) ?_
      obtain ⟨hg7, hf⟩ := gj_g hf
      refine va_iald (D := D) hx hb hK (gq_one (c := 8) (k := 0) hH rfl (gm_c8 cI cZ ad z5.2)) 0 0 rfl rfl hg7 gd_Md_cost_27 ?_
      refine lv_iadd hx hb gd_Md_cost_28 ?_
      refine lv_icmp_ge (tgt := 55) hx hb gd_Md_cost_29 (by decide) (fun c10 => ?_) (fun c10 => ?_)
      · replace hf := gj_t c10 hf
        refine lv_iload_n hx hb gd_Md_cost_55 rfl (lv_at hl 3 rfl) ?_
        cases hf
        exact W.iret hx hb hr (fun t ht hW => ⟨⟨_, _, rfl, ⟨rfl, rfl⟩, ⟨by rw [ht]; exact hH, va_K.moved hW.alike hK⟩⟩, hS.F ht⟩) hS.2.2 gd_Md_cost_56
      · replace hf := gj_e c10 hf
        refine lv_iload_n hx hb gd_Md_cost_32 rfl (lv_at hl 3 rfl) ?_
        refine lv_aload_n hx hb gd_Md_cost_33 rfl (lv_at hl 0 rfl) ?_
        refine va_get (D := D) (ci := 4) (C := gR_Md) (T := gT_Md) (N := 16) hx hb hts (fun w h => List.mem_cons_of_mem _ (gl_Md w h)) hown hK (gq_one (c := 0) (k := 0) hH rfl (gm_c0 cI cZ ad z5.2)) 0 rfl rfl 5 (by decide) (ht _ gt_374) (fun _ h9 => h9) rfl gd_Md_cost_34 ?_
        refine lv_aload_n hx hb gd_Md_cost_37 rfl (lv_at hl 0 rfl) ?_
        refine va_get (D := D) (ci := 4) (C := gR_Md) (T := gT_Md) (N := 16) hx hb hts (fun w h => List.mem_cons_of_mem _ (gl_Md w h)) hown hK (gq_one (c := 0) (k := 0) hH rfl (gm_c0 cI cZ ad z5.2)) 0 rfl rfl 8 (by decide) (ht _ gt_377) (fun _ h9 => h9) rfl gd_Md_cost_38 ?_
        refine lv_iload hx hb gd_Md_cost_41 (lv_at hl 4 rfl) ?_
        obtain ⟨hg8, hf⟩ := gj_g hf
        refine va_iald (D := D) hx hb hK (gq_one (c := 7) (k := 0) hH rfl (gm_c7 cI cZ ad z5.2)) 0 0 rfl rfl hg8 gd_Md_cost_43 ?_
        obtain ⟨hg9, hf⟩ := gj_g hf
        refine va_iald (D := D) hx hb hK (gq_one (c := 5) (k := 0) hH rfl (gm_c5 cI cZ ad z5.2)) 0 0 rfl rfl hg9 gd_Md_cost_44 ?_
        refine lv_iload_n hx hb gd_Md_cost_45 rfl (lv_at hl 2 rfl) ?_
        refine lv_isub hx hb gd_Md_cost_46 ?_
        refine lv_iadd hx hb gd_Md_cost_47 ?_
        refine lv_istore_n (lv' := [(3, .int (x3 + ((z5.2.1 5 (Int32.toNatClampNeg (z5.2.1 7 (Int32.toNatClampNeg x4)))) - x2))), (0, .ref (ad 0 0)), (1, .int x1), (2, .int x2), (4, .int x4)]) hx hb gd_Md_cost_48 rfl hl (by decide) rfl (fun ls hl => ?_)
        refine lv_iinc (v := x4 + 1) (lv' := [(4, .int (x4 + 1)), (3, .int (x3 + ((z5.2.1 5 (Int32.toNatClampNeg (z5.2.1 7 (Int32.toNatClampNeg x4)))) - x2))), (0, .ref (ad 0 0)), (1, .int x1), (2, .int x2)]) hx hb gd_Md_cost_49 hl (k := 4) rfl rfl (by decide) rfl (fun ls hl => ?_)
        refine lv_goto (tgt := 15) hx hb gd_Md_cost_52 (by decide) ?_
        exact ih x1 x2 (x3 + ((z5.2.1 5 (Int32.toNatClampNeg (z5.2.1 7 (Int32.toNatClampNeg x4)))) - x2)) (x4 + 1) z5.2 _ _ _ hf hH hS (lv_sub hl [2, 3, 4, 1, 0] rfl)
  unfold fn_Md_cost at hf
  refine lv_aload_n hx hb gd_Md_cost_0 rfl (lv_at hl 0 rfl) ?_
  refine lv_iload_n hx hb gd_Md_cost_1 rfl (lv_at hl 1 rfl) ?_
  obtain ⟨z1, hc2, hf⟩ := Option.bind_eq_some_iff.mp hf
  refine gq_calli (va_runV (As := [.int p1]) (rest := []) ⟨hx, hb, hml, hown, hts⟩ (ct_Md_shared l D cI cZ ad hI u p1 z1 hc2) (cwV 1 hts (gt_V gt_531 gt_533 (gt_sel (List.mem_of_getElem? (i := 36) rfl)) gt_5 gt_534) rfl rfl rfl (by decide +kernel) ⟨Nat.le_of_ble_eq_true rfl, Nat.le_of_ble_eq_true rfl⟩) (gq_preV hH hK hN (va_recv hK (gq_one (c := 0) (k := 0) hH rfl (gm_c0 cI cZ ad u)) (ci := 4) (q0 := 0) rfl rfl)) rfl rfl hl.1 rfl (lv_room (Nat.le_of_ble_eq_true rfl)) gd_Md_cost_2 ⟨Nat.zero_le _, Nat.zero_le _⟩) hA hS (fun H locs hH hS => ?_)
  refine lv_istore_n (lv' := [(2, .int z1.1), (0, .ref (ad 0 0)), (1, .int p1)]) hx hb gd_Md_cost_5 rfl hl (by decide) rfl (fun ls hl => ?_)
  refine lv_iload_n hx hb gd_Md_cost_6 rfl (lv_at hl 0 rfl) ?_
  refine lv_istore_n (lv' := [(3, .int z1.1), (2, .int z1.1), (0, .ref (ad 0 0)), (1, .int p1)]) hx hb gd_Md_cost_7 rfl hl (by decide) rfl (fun ls hl => ?_)
  refine lv_aload_n hx hb gd_Md_cost_8 rfl (lv_at hl 2 rfl) ?_
  refine lv_iload_n hx hb gd_Md_cost_9 rfl (lv_at hl 3 rfl) ?_
  obtain ⟨z3, hc4, hf⟩ := Option.bind_eq_some_iff.mp hf
  refine gq_calli (va_runV (As := [.int p1]) (rest := []) ⟨hx, hb, hml, hown, hts⟩ (ct_Md_begin l D cI cZ ad hI z1.2 p1 z3 hc4) (cwV 1 hts (gt_V gt_455 gt_457 (gt_sel (List.mem_of_getElem? (i := 28) rfl)) gt_5 gt_458) rfl rfl rfl (by decide +kernel) ⟨Nat.le_of_ble_eq_true rfl, Nat.le_of_ble_eq_true rfl⟩) (gq_preV hH hK hN (va_recv hK (gq_one (c := 0) (k := 0) hH rfl (gm_c0 cI cZ ad z1.2)) (ci := 4) (q0 := 0) rfl rfl)) rfl rfl hl.1 rfl (lv_room (Nat.le_of_ble_eq_true rfl)) gd_Md_cost_10 ⟨Nat.zero_le _, Nat.zero_le _⟩) hA hS (fun H locs hH hS => ?_)
  refine lv_istore (lv' := [(4, .int z3.1), (3, .int z1.1), (2, .int z1.1), (0, .ref (ad 0 0)), (1, .int p1)]) hx hb gd_Md_cost_13 hl (by decide) rfl (fun ls hl => ?_)
  exact L15 gm_fu p1 z1.1 z1.1 z3.1 z3.2 _ _ _ hf hH hS (lv_sub hl [3, 4, 2, 1, 0] rfl)
set_option maxHeartbeats 4000000 in
set_option maxRecDepth 100000 in
theorem ct_Md_leaf (l : Launch) (D : va_G) (cI cZ : ClassId) (ad : Nat → Nat → Nat) (hI : gq_I gm_vd ad) (u : gm_St) (p1 : Int32) (p2 : Int32) (z : Int32 × gm_St) (hf : fn_Md_leaf p1 p2 u = some z) : Met l gy_Md_leaf gws_Md_leaf ({ frames := 3, cells := 0, slots := 0, locals := 74 }) (va_Pc [.ref (ad 0 0), .int p1, .int p2] (gq_pre D gc_cl (gm_tys cI cZ) gm_vd ad gm_NF gm_NM (gm_pc cI cZ ad u))) (va_Qi (fun r u2 => r = z.1 ∧ u2 = z.2) (fun u2 t => gq_B D gc_cl (gm_tys cI cZ) gm_vd ad (gm_pc cI cZ ad u2) t) (gq_A gm_vd ad)) 0 0 (gq_A gm_vd ad) := by
  refine Met.ofW (cc := gb_Md_leaf) (maxL := 3) (ret := (some .int)) (by decide) rfl ?_
  intro p e s m args below meth c s₁ B hml hv
  obtain ⟨rfl, hH, hK, hN⟩ := hv
  have hx := B.exec
  have hb := B.bytes
  have hr := B.returns
  have hts := atoms_spec (ws := gws_Md_leaf) B.pre
  have ht := fun (w : Cond) (h : w ∈ gt_T) => hts w (List.mem_cons_of_mem _ h)
  have hown : s.vm.findClass gR_Md = some m.cls := findClass_of_methodNamed B.named
  have hlocks := B.notSynchronized
  have hA : ∀ q, (gq_A gm_vd ad) q → (gq_A gm_vd ad) q := fun _ h => h
  have hS : va_S (gq_A gm_vd ad) s.heap s.heap [] := va_S.rf
  have hl := lv_entry ([.ref (ad 0 0), .int p1, .int p2]) (n := 3) (Nat.le_of_ble_eq_true rfl)
  rw [lg_entry_eq]
  generalize (lg_sl ([.ref (ad 0 0), .int p1, .int p2]) ++ List.replicate (3 - (lg_sl ([.ref (ad 0 0), .int p1, .int p2])).length) Slot.unset).toArray = ls at hl ⊢
  have hl : lv_has ls 3 [(0, .ref (ad 0 0)), (1, .int p1), (2, .int p2)] := hl
  unfold fn_Md_leaf at hf
  refine lv_iload_n hx hb gd_Md_leaf_0 rfl (lv_at hl 1 rfl) ?_
  refine lv_iconst (v := 0) hx hb gd_Md_leaf_1 (by decide) ?_
  refine lv_aload_n hx hb gd_Md_leaf_2 rfl (lv_at hl 0 rfl) ?_
  refine va_get (D := D) (ci := 4) (C := gR_Md) (T := gT_Md) (N := 16) hx hb hts (fun w h => List.mem_cons_of_mem _ (gl_Md w h)) hown hK (gq_one (c := 0) (k := 0) hH rfl (gm_c0 cI cZ ad u)) 0 rfl rfl 9 (by decide) (ht _ gt_378) (fun _ h9 => h9) rfl gd_Md_leaf_3 ?_
  refine lv_iconst (v := 1) hx hb gd_Md_leaf_6 (by decide) ?_
  refine lv_isub hx hb gd_Md_leaf_7 ?_
  obtain ⟨z1, hc2, hf⟩ := Option.bind_eq_some_iff.mp hf
  refine gq_calli (va_runS (As := [.int p1, .int 0, .int ((u.1 13 0) - 1)]) (rest := []) ⟨hx, hb, hml, hown, hts⟩ (ct_Md_in l D cI cZ ad hI u p1 0 ((u.1 13 0) - 1) z1 hc2) (va_cwS 3 hts (gt_S gt_423 gt_424 gt_5 gt_425) rfl rfl rfl (by decide +kernel) ⟨Nat.le_of_ble_eq_true rfl, Nat.le_of_ble_eq_true rfl⟩) (gq_preS hH hK hN) rfl rfl hl.1 rfl (lv_room (Nat.le_of_ble_eq_true rfl)) gd_Md_leaf_8 ⟨Nat.zero_le _, Nat.zero_le _⟩) hA hS (fun H locs hH hS => ?_)
  refine lv_if_ne (tgt := 16) hx hb gd_Md_leaf_11 (by decide) (fun c15 => ?_) (fun c15 => ?_)
  · replace hf := gj_e c15 hf
    refine lv_iload_n hx hb gd_Md_leaf_16 rfl (lv_at hl 2 rfl) ?_
    by_cases c4 : p2 = 0
    · replace hf := gj_t c4 hf
      refine gj_tab (tgt := 48) (k := 0) hx hb c4 gd_Md_leaf_17 (by decide) (by decide) rfl (by decide) ?_
      refine lv_aload_n hx hb gd_Md_leaf_48 rfl (lv_at hl 0 rfl) ?_
      refine va_get (D := D) (ci := 4) (C := gR_Md) (T := gT_Md) (N := 16) hx hb hts (fun w h => List.mem_cons_of_mem _ (gl_Md w h)) hown hK (gq_one (c := 0) (k := 0) hH rfl (gm_c0 cI cZ ad z1.2)) 0 rfl rfl 10 (by decide) (ht _ gt_379) (fun _ h9 => h9) rfl gd_Md_leaf_49 ?_
      refine lv_iload_n hx hb gd_Md_leaf_52 rfl (lv_at hl 1 rfl) ?_
      obtain ⟨hg3, hf⟩ := gj_g hf
      refine va_iald (D := D) hx hb hK (gq_one (c := 8) (k := 0) hH rfl (gm_c8 cI cZ ad z1.2)) 0 0 rfl rfl hg3 gd_Md_leaf_53 ?_
      cases hf
      exact W.iret hx hb hr (fun t ht hW => ⟨⟨_, _, rfl, ⟨rfl, rfl⟩, ⟨by rw [ht]; exact hH, va_K.moved hW.alike hK⟩⟩, hS.F ht⟩) hS.2.2 gd_Md_leaf_54
    replace hf := gj_e c4 hf
    by_cases c7 : p2 = 1
    · replace hf := gj_t c7 hf
      refine gj_tab (tgt := 55) (k := 1) hx hb c7 gd_Md_leaf_17 (by decide) (by decide) rfl (by decide) ?_
      refine lv_aload_n hx hb gd_Md_leaf_55 rfl (lv_at hl 0 rfl) ?_
      refine lv_iload_n hx hb gd_Md_leaf_56 rfl (lv_at hl 1 rfl) ?_
      obtain ⟨z5, hc6, hf⟩ := Option.bind_eq_some_iff.mp hf
      refine gq_calli (va_runV (As := [.int p1]) (rest := []) ⟨hx, hb, hml, hown, hts⟩ (ct_Md_shared l D cI cZ ad hI z1.2 p1 z5 hc6) (cwV 1 hts (gt_V gt_531 gt_533 (gt_sel (List.mem_of_getElem? (i := 36) rfl)) gt_5 gt_534) rfl rfl rfl (by decide +kernel) ⟨Nat.le_of_ble_eq_true rfl, Nat.le_of_ble_eq_true rfl⟩) (gq_preV hH hK hN (va_recv hK (gq_one (c := 0) (k := 0) hH rfl (gm_c0 cI cZ ad z1.2)) (ci := 4) (q0 := 0) rfl rfl)) rfl rfl hl.1 rfl (lv_room (Nat.le_of_ble_eq_true rfl)) gd_Md_leaf_57 ⟨Nat.zero_le _, Nat.zero_le _⟩) hA hS (fun H locs hH hS => ?_)
      cases hf
      exact W.iret hx hb hr (fun t ht hW => ⟨⟨_, _, rfl, ⟨rfl, rfl⟩, ⟨by rw [ht]; exact hH, va_K.moved hW.alike hK⟩⟩, hS.F ht⟩) hS.2.2 gd_Md_leaf_60
    replace hf := gj_e c7 hf
    by_cases c10 : p2 = 2
    · replace hf := gj_t c10 hf
      refine gj_tab (tgt := 61) (k := 2) hx hb c10 gd_Md_leaf_17 (by decide) (by decide) rfl (by decide) ?_
      refine lv_aload_n hx hb gd_Md_leaf_61 rfl (lv_at hl 0 rfl) ?_
      refine lv_iload_n hx hb gd_Md_leaf_62 rfl (lv_at hl 1 rfl) ?_
      obtain ⟨z8, hc9, hf⟩ := Option.bind_eq_some_iff.mp hf
      refine gq_calli (va_runV (As := [.int p1]) (rest := []) ⟨hx, hb, hml, hown, hts⟩ (ct_Md_cost l D cI cZ ad hI z1.2 p1 z8 hc9) (cwV 1 hts (gt_V gt_535 gt_537 (gt_sel (List.mem_of_getElem? (i := 37) rfl)) gt_5 gt_538) rfl rfl rfl (by decide +kernel) ⟨Nat.le_of_ble_eq_true rfl, Nat.le_of_ble_eq_true rfl⟩) (gq_preV hH hK hN (va_recv hK (gq_one (c := 0) (k := 0) hH rfl (gm_c0 cI cZ ad z1.2)) (ci := 4) (q0 := 0) rfl rfl)) rfl rfl hl.1 rfl (lv_room (Nat.le_of_ble_eq_true rfl)) gd_Md_leaf_63 ⟨Nat.zero_le _, Nat.zero_le _⟩) hA hS (fun H locs hH hS => ?_)
      cases hf
      exact W.iret hx hb hr (fun t ht hW => ⟨⟨_, _, rfl, ⟨rfl, rfl⟩, ⟨by rw [ht]; exact hH, va_K.moved hW.alike hK⟩⟩, hS.F ht⟩) hS.2.2 gd_Md_leaf_66
    replace hf := gj_e c10 hf
    by_cases c14 : p2 = 3
    · replace hf := gj_t c14 hf
      refine gj_tab (tgt := 67) (k := 3) hx hb c14 gd_Md_leaf_17 (by decide) (by decide) rfl (by decide) ?_
      refine lv_aload_n hx hb gd_Md_leaf_67 rfl (lv_at hl 0 rfl) ?_
      refine va_get (D := D) (ci := 4) (C := gR_Md) (T := gT_Md) (N := 16) hx hb hts (fun w h => List.mem_cons_of_mem _ (gl_Md w h)) hown hK (gq_one (c := 0) (k := 0) hH rfl (gm_c0 cI cZ ad z1.2)) 0 rfl rfl 8 (by decide) (ht _ gt_377) (fun _ h9 => h9) rfl gd_Md_leaf_68 ?_
      refine lv_aload_n hx hb gd_Md_leaf_71 rfl (lv_at hl 0 rfl) ?_
      refine lv_iload_n hx hb gd_Md_leaf_72 rfl (lv_at hl 1 rfl) ?_
      obtain ⟨z11, hc12, hf⟩ := Option.bind_eq_some_iff.mp hf
      refine gq_calli (va_runV (As := [.int p1]) (rest := [.ref (ad 7 0)]) ⟨hx, hb, hml, hown, hts⟩ (ct_Md_begin l D cI cZ ad hI z1.2 p1 z11 hc12) (cwV 1 hts (gt_V gt_455 gt_457 (gt_sel (List.mem_of_getElem? (i := 28) rfl)) gt_5 gt_458) rfl rfl rfl (by decide +kernel) ⟨Nat.le_of_ble_eq_true rfl, Nat.le_of_ble_eq_true rfl⟩) (gq_preV hH hK hN (va_recv hK (gq_one (c := 0) (k := 0) hH rfl (gm_c0 cI cZ ad z1.2)) (ci := 4) (q0 := 0) rfl rfl)) rfl rfl hl.1 rfl (lv_room (Nat.le_of_ble_eq_true rfl)) gd_Md_leaf_73 ⟨Nat.zero_le _, Nat.zero_le _⟩) hA hS (fun H locs hH hS => ?_)
      obtain ⟨hg13, hf⟩ := gj_g hf
      refine va_iald (D := D) hx hb hK (gq_one (c := 7) (k := 0) hH rfl (gm_c7 cI cZ ad z11.2)) 0 0 rfl rfl hg13 gd_Md_leaf_76 ?_
      cases hf
      exact W.iret hx hb hr (fun t ht hW => ⟨⟨_, _, rfl, ⟨rfl, rfl⟩, ⟨by rw [ht]; exact hH, va_K.moved hW.alike hK⟩⟩, hS.F ht⟩) hS.2.2 gd_Md_leaf_77
    replace hf := gj_e c14 hf
    refine lv_tableOut (tgt := 78) hx hb gd_Md_leaf_17 (by have ec4 := lv_neT (a := 0) c4 rfl; have ec7 := lv_neT (a := 1) c7 rfl; have ec10 := lv_neT (a := 2) c10 rfl; have ec14 := lv_neT (a := 3) c14 rfl; omega) (by decide) ?_
    refine lv_iconst (v := (-1)) hx hb gd_Md_leaf_78 (by decide) ?_
    cases hf
    exact W.iret hx hb hr (fun t ht hW => ⟨⟨_, _, rfl, ⟨rfl, rfl⟩, ⟨by rw [ht]; exact hH, va_K.moved hW.alike hK⟩⟩, hS.F ht⟩) hS.2.2 gd_Md_leaf_79
  · replace hf := gj_t c15 hf
    refine lv_iconst (v := (-1)) hx hb gd_Md_leaf_14 (by decide) ?_
    cases hf
    exact W.iret hx hb hr (fun t ht hW => ⟨⟨_, _, rfl, ⟨rfl, rfl⟩, ⟨by rw [ht]; exact hH, va_K.moved hW.alike hK⟩⟩, hS.F ht⟩) hS.2.2 gd_Md_leaf_15
set_option maxHeartbeats 4000000 in
set_option maxRecDepth 100000 in
theorem ct_Md_count (l : Launch) (D : va_G) (cI cZ : ClassId) (ad : Nat → Nat → Nat) (hI : gq_I gm_vd ad) (u : gm_St) (p1 : Int32) (z : Int32 × gm_St) (hf : fn_Md_count p1 u = some z) : Met l gy_Md_count gws_Md_count ({ frames := 3, cells := 0, slots := 0, locals := 74 }) (va_Pc [.ref (ad 0 0), .int p1] (gq_pre D gc_cl (gm_tys cI cZ) gm_vd ad gm_NF gm_NM (gm_pc cI cZ ad u))) (va_Qi (fun r u2 => r = z.1 ∧ u2 = z.2) (fun u2 t => gq_B D gc_cl (gm_tys cI cZ) gm_vd ad (gm_pc cI cZ ad u2) t) (gq_A gm_vd ad)) 0 0 (gq_A gm_vd ad) := by
  refine Met.ofW (cc := gb_Md_count) (maxL := 4) (ret := (some .int)) (by decide) rfl ?_
  intro p e s m args below meth c s₁ B hml hv
  obtain ⟨rfl, hH, hK, hN⟩ := hv
  have hx := B.exec
  have hb := B.bytes
  have hr := B.returns
  have hts := atoms_spec (ws := gws_Md_count) B.pre
  have ht := fun (w : Cond) (h : w ∈ gt_T) => hts w (List.mem_cons_of_mem _ h)
  have hown : s.vm.findClass gR_Md = some m.cls := findClass_of_methodNamed B.named
  have hlocks := B.notSynchronized
  have hA : ∀ q, (gq_A gm_vd ad) q → (gq_A gm_vd ad) q := fun _ h => h
  have hS : va_S (gq_A gm_vd ad) s.heap s.heap [] := va_S.rf
  have hl := lv_entry ([.ref (ad 0 0), .int p1]) (n := 4) (Nat.le_of_ble_eq_true rfl)
  rw [lg_entry_eq]
  generalize (lg_sl ([.ref (ad 0 0), .int p1]) ++ List.replicate (4 - (lg_sl ([.ref (ad 0 0), .int p1])).length) Slot.unset).toArray = ls at hl ⊢
  have hl : lv_has ls 4 [(0, .ref (ad 0 0)), (1, .int p1)] := hl
  have L66 : ∀ (n : Nat) (x1 : Int32) (x2 : Int32) (x3 : Int32) (u : gm_St) (H : Heap) (locs : List Loc) (ls : Array Slot), fn_Md_count_66 n x1 x2 x3 u = some z → gq_H D gc_cl gm_vd ad (gm_pc cI cZ ad u) H → va_S (gq_A gm_vd ad) s.heap H locs → lv_has ls 4 [(0, .ref (ad 0 0)), (1, .int x1), (2, .int x2), (3, .int x3)] → W p l e (headSpec gws_Md_count ({ frames := 3, cells := 0, slots := 0, locals := 74 })).room s m ([.ref (ad 0 0), .int p1] : List Value).toArray below meth c H locs 0 0 (MQ below (va_Qi (fun r u2 => r = z.1 ∧ u2 = z.2) (fun u2 t => gq_B D gc_cl (gm_tys cI cZ) gm_vd ad (gm_pc cI cZ ad u2) t) (gq_A gm_vd ad)) ([.ref (ad 0 0), .int p1] : List Value).toArray s 0 0 (gq_A gm_vd ad)) (F0 m 66 ls []) := by
    intro n
    induction n with
    | zero =>
      intro x1 x2 x3 u H locs ls hf
      have h0 : none = some z := hf
      cases h0
    | succ n ih =>
      intro x1 x2 x3 u H locs ls hf hH hS hl
      rw [fn_Md_count_66] at hf
      refine lv_iload_n hx hb gd_Md_count_66 rfl (lv_at hl 3 rfl) ?_
      refine lv_aload_n hx hb gd_Md_count_67 rfl (lv_at hl 0 rfl) ?_
      refine va_get (D := D) (ci := 4) (C := gR_Md) (T := gT_Md) (N := 16) hx hb hts (fun w h => List.mem_cons_of_mem _ (gl_Md w h)) hown hK (gq_one (c := 0) (k := 0) hH rfl (gm_c0 cI cZ ad u)) 0 rfl rfl 7 (by decide) (ht _ gt_376) (fun _ h9 => h9) rfl gd_Md_count_68 ?_
      refine lv_icmp_ge (tgt := 102) hx hb gd_Md_count_71 (by decide) (fun c8 => ?_) (fun c8 => ?_)
      · replace hf := gj_t c8 hf
        refine lv_iload_n hx hb gd_Md_count_102 rfl (lv_at hl 2 rfl) ?_
        cases hf
        exact W.iret hx hb hr (fun t ht hW => ⟨⟨_, _, rfl, ⟨rfl, rfl⟩, ⟨by rw [ht]; exact hH, va_K.moved hW.alike hK⟩⟩, hS.F ht⟩) hS.2.2 gd_Md_count_103
      · replace hf := gj_e c8 hf
        refine lv_iload_n hx hb gd_Md_count_74 rfl (lv_at hl 2 rfl) ?_
        refine lv_aload_n hx hb gd_Md_count_75 rfl (lv_at hl 0 rfl) ?_
        refine va_get (D := D) (ci := 4) (C := gR_Md) (T := gT_Md) (N := 16) hx hb hts (fun w h => List.mem_cons_of_mem _ (gl_Md w h)) hown hK (gq_one (c := 0) (k := 0) hH rfl (gm_c0 cI cZ ad u)) 0 rfl rfl 4 (by decide) (ht _ gt_373) (fun _ h9 => h9) rfl gd_Md_count_76 ?_
        refine lv_aload_n hx hb gd_Md_count_79 rfl (lv_at hl 0 rfl) ?_
        refine va_get (D := D) (ci := 4) (C := gR_Md) (T := gT_Md) (N := 16) hx hb hts (fun w h => List.mem_cons_of_mem _ (gl_Md w h)) hown hK (gq_one (c := 0) (k := 0) hH rfl (gm_c0 cI cZ ad u)) 0 rfl rfl 8 (by decide) (ht _ gt_377) (fun _ h9 => h9) rfl gd_Md_count_80 ?_
        refine lv_iload_n hx hb gd_Md_count_83 rfl (lv_at hl 3 rfl) ?_
        obtain ⟨hg5, hf⟩ := gj_g hf
        refine va_iald (D := D) hx hb hK (gq_one (c := 7) (k := 0) hH rfl (gm_c7 cI cZ ad u)) 0 0 rfl rfl hg5 gd_Md_count_84 ?_
        obtain ⟨hg6, hf⟩ := gj_g hf
        refine va_iald (D := D) hx hb hK (gq_one (c := 4) (k := 0) hH rfl (gm_c4 cI cZ ad u)) 0 0 rfl rfl hg6 gd_Md_count_85 ?_
        refine lv_if_ne (tgt := 93) hx hb gd_Md_count_86 (by decide) (fun c7 => ?_) (fun c7 => ?_)
        · replace hf := gj_e c7 hf
          refine lv_iconst (v := 0) hx hb gd_Md_count_93 (by decide) ?_
          refine lv_iadd hx hb gd_Md_count_94 ?_
          refine lv_istore_n (lv' := [(2, .int (x2 + 0)), (0, .ref (ad 0 0)), (1, .int x1), (3, .int x3)]) hx hb gd_Md_count_95 rfl hl (by decide) rfl (fun ls hl => ?_)
          refine lv_iinc (v := x3 + 1) (lv' := [(3, .int (x3 + 1)), (2, .int (x2 + 0)), (0, .ref (ad 0 0)), (1, .int x1)]) hx hb gd_Md_count_96 hl (k := 3) rfl rfl (by decide) rfl (fun ls hl => ?_)
          refine lv_goto (tgt := 66) hx hb gd_Md_count_99 (by decide) ?_
          exact ih x1 (x2 + 0) (x3 + 1) u _ _ _ hf hH hS (lv_sub hl [2, 3, 1, 0] rfl)
        · replace hf := gj_t c7 hf
          refine lv_iconst (v := 1) hx hb gd_Md_count_89 (by decide) ?_
          refine lv_goto (tgt := 94) hx hb gd_Md_count_90 (by decide) ?_
          refine lv_iadd hx hb gd_Md_count_94 ?_
          refine lv_istore_n (lv' := [(2, .int (x2 + 1)), (0, .ref (ad 0 0)), (1, .int x1), (3, .int x3)]) hx hb gd_Md_count_95 rfl hl (by decide) rfl (fun ls hl => ?_)
          refine lv_iinc (v := x3 + 1) (lv' := [(3, .int (x3 + 1)), (2, .int (x2 + 1)), (0, .ref (ad 0 0)), (1, .int x1)]) hx hb gd_Md_count_96 hl (k := 3) rfl rfl (by decide) rfl (fun ls hl => ?_)
          refine lv_goto (tgt := 66) hx hb gd_Md_count_99 (by decide) ?_
          exact ih x1 (x2 + 1) (x3 + 1) u _ _ _ hf hH hS (lv_sub hl [2, 3, 1, 0] rfl)
  have L111 : ∀ (n : Nat) (x1 : Int32) (x2 : Int32) (x3 : Int32) (u : gm_St) (H : Heap) (locs : List Loc) (ls : Array Slot), fn_Md_count_111 n x1 x2 x3 u = some z → gq_H D gc_cl gm_vd ad (gm_pc cI cZ ad u) H → va_S (gq_A gm_vd ad) s.heap H locs → lv_has ls 4 [(0, .ref (ad 0 0)), (1, .int x1), (2, .int x2), (3, .int x3)] → W p l e (headSpec gws_Md_count ({ frames := 3, cells := 0, slots := 0, locals := 74 })).room s m ([.ref (ad 0 0), .int p1] : List Value).toArray below meth c H locs 0 0 (MQ below (va_Qi (fun r u2 => r = z.1 ∧ u2 = z.2) (fun u2 t => gq_B D gc_cl (gm_tys cI cZ) gm_vd ad (gm_pc cI cZ ad u2) t) (gq_A gm_vd ad)) ([.ref (ad 0 0), .int p1] : List Value).toArray s 0 0 (gq_A gm_vd ad)) (F0 m 111 ls []) := by
    intro n
    induction n with
    | zero =>
      intro x1 x2 x3 u H locs ls hf
      have h0 : none = some z := hf
      cases h0
    | succ n ih =>
      intro x1 x2 x3 u H locs ls hf hH hS hl
      rw [fn_Md_count_111] at hf
      refine lv_iload_n hx hb gd_Md_count_111 rfl (lv_at hl 3 rfl) ?_
      refine lv_aload_n hx hb gd_Md_count_112 rfl (lv_at hl 0 rfl) ?_
      refine va_get (D := D) (ci := 4) (C := gR_Md) (T := gT_Md) (N := 16) hx hb hts (fun w h => List.mem_cons_of_mem _ (gl_Md w h)) hown hK (gq_one (c := 0) (k := 0) hH rfl (gm_c0 cI cZ ad u)) 0 rfl rfl 9 (by decide) (ht _ gt_378) (fun _ h9 => h9) rfl gd_Md_count_113 ?_
      refine lv_icmp_ge (tgt := 133) hx hb gd_Md_count_116 (by decide) (fun c13 => ?_) (fun c13 => ?_)
      · replace hf := gj_t c13 hf
        refine lv_iload_n hx hb gd_Md_count_133 rfl (lv_at hl 2 rfl) ?_
        cases hf
        exact W.iret hx hb hr (fun t ht hW => ⟨⟨_, _, rfl, ⟨rfl, rfl⟩, ⟨by rw [ht]; exact hH, va_K.moved hW.alike hK⟩⟩, hS.F ht⟩) hS.2.2 gd_Md_count_134
      · replace hf := gj_e c13 hf
        refine lv_iload_n hx hb gd_Md_count_119 rfl (lv_at hl 2 rfl) ?_
        refine lv_aload_n hx hb gd_Md_count_120 rfl (lv_at hl 0 rfl) ?_
        refine lv_iload_n hx hb gd_Md_count_121 rfl (lv_at hl 3 rfl) ?_
        obtain ⟨z11, hc12, hf⟩ := Option.bind_eq_some_iff.mp hf
        refine gq_calli (va_runV (As := [.int x3]) (rest := [.int x2]) ⟨hx, hb, hml, hown, hts⟩ (ct_Md_cost l D cI cZ ad hI u x3 z11 hc12) (cwV 1 hts (gt_V gt_535 gt_537 (gt_sel (List.mem_of_getElem? (i := 37) rfl)) gt_5 gt_538) rfl rfl rfl (by decide +kernel) ⟨Nat.le_of_ble_eq_true rfl, Nat.le_of_ble_eq_true rfl⟩) (gq_preV hH hK hN (va_recv hK (gq_one (c := 0) (k := 0) hH rfl (gm_c0 cI cZ ad u)) (ci := 4) (q0 := 0) rfl rfl)) rfl rfl hl.1 rfl (lv_room (Nat.le_of_ble_eq_true rfl)) gd_Md_count_122 ⟨Nat.zero_le _, Nat.zero_le _⟩) hA hS (fun H locs hH hS => ?_)
        refine lv_iadd hx hb gd_Md_count_125 ?_
        refine lv_istore_n (lv' := [(2, .int (x2 + z11.1)), (0, .ref (ad 0 0)), (1, .int x1), (3, .int x3)]) hx hb gd_Md_count_126 rfl hl (by decide) rfl (fun ls hl => ?_)
        refine lv_iinc (v := x3 + 1) (lv' := [(3, .int (x3 + 1)), (2, .int (x2 + z11.1)), (0, .ref (ad 0 0)), (1, .int x1)]) hx hb gd_Md_count_127 hl (k := 3) rfl rfl (by decide) rfl (fun ls hl => ?_)
        refine lv_goto (tgt := 111) hx hb gd_Md_count_130 (by decide) ?_
        exact ih x1 (x2 + z11.1) (x3 + 1) z11.2 _ _ _ hf hH hS (lv_sub hl [2, 3, 1, 0] rfl)
  unfold fn_Md_count at hf
  refine lv_iconst (v := 0) hx hb gd_Md_count_0 (by decide) ?_
  refine lv_istore_n (lv' := [(2, .int 0), (0, .ref (ad 0 0)), (1, .int p1)]) hx hb gd_Md_count_1 rfl hl (by decide) rfl (fun ls hl => ?_)
  refine lv_iload_n hx hb gd_Md_count_2 rfl (lv_at hl 2 rfl) ?_
  by_cases c1 : p1 = 0
  · replace hf := gj_t c1 hf
    refine gj_tab (tgt := 44) (k := 0) hx hb c1 gd_Md_count_3 (by decide) (by decide) rfl (by decide) ?_
    refine lv_aload_n hx hb gd_Md_count_44 rfl (lv_at hl 1 rfl) ?_
    refine va_get (D := D) (ci := 4) (C := gR_Md) (T := gT_Md) (N := 16) hx hb hts (fun w h => List.mem_cons_of_mem _ (gl_Md w h)) hown hK (gq_one (c := 0) (k := 0) hH rfl (gm_c0 cI cZ ad u)) 0 rfl rfl 7 (by decide) (ht _ gt_376) (fun _ h9 => h9) rfl gd_Md_count_45 ?_
    cases hf
    exact W.iret hx hb hr (fun t ht hW => ⟨⟨_, _, rfl, ⟨rfl, rfl⟩, ⟨by rw [ht]; exact hH, va_K.moved hW.alike hK⟩⟩, hS.F ht⟩) hS.2.2 gd_Md_count_48
  replace hf := gj_e c1 hf
  by_cases c2 : p1 = 1
  · replace hf := gj_t c2 hf
    refine gj_tab (tgt := 49) (k := 1) hx hb c2 gd_Md_count_3 (by decide) (by decide) rfl (by decide) ?_
    refine lv_aload_n hx hb gd_Md_count_49 rfl (lv_at hl 1 rfl) ?_
    refine va_get (D := D) (ci := 4) (C := gR_Md) (T := gT_Md) (N := 16) hx hb hts (fun w h => List.mem_cons_of_mem _ (gl_Md w h)) hown hK (gq_one (c := 0) (k := 0) hH rfl (gm_c0 cI cZ ad u)) 0 rfl rfl 9 (by decide) (ht _ gt_378) (fun _ h9 => h9) rfl gd_Md_count_50 ?_
    cases hf
    exact W.iret hx hb hr (fun t ht hW => ⟨⟨_, _, rfl, ⟨rfl, rfl⟩, ⟨by rw [ht]; exact hH, va_K.moved hW.alike hK⟩⟩, hS.F ht⟩) hS.2.2 gd_Md_count_53
  replace hf := gj_e c2 hf
  by_cases c3 : p1 = 2
  · replace hf := gj_t c3 hf
    refine gj_tab (tgt := 54) (k := 2) hx hb c3 gd_Md_count_3 (by decide) (by decide) rfl (by decide) ?_
    refine lv_aload_n hx hb gd_Md_count_54 rfl (lv_at hl 1 rfl) ?_
    refine va_get (D := D) (ci := 4) (C := gR_Md) (T := gT_Md) (N := 16) hx hb hts (fun w h => List.mem_cons_of_mem _ (gl_Md w h)) hown hK (gq_one (c := 0) (k := 0) hH rfl (gm_c0 cI cZ ad u)) 0 rfl rfl 11 (by decide) (ht _ gt_380) (fun _ h9 => h9) rfl gd_Md_count_55 ?_
    cases hf
    exact W.iret hx hb hr (fun t ht hW => ⟨⟨_, _, rfl, ⟨rfl, rfl⟩, ⟨by rw [ht]; exact hH, va_K.moved hW.alike hK⟩⟩, hS.F ht⟩) hS.2.2 gd_Md_count_58
  replace hf := gj_e c3 hf
  by_cases c4 : p1 = 3
  · replace hf := gj_t c4 hf
    refine gj_tab (tgt := 59) (k := 3) hx hb c4 gd_Md_count_3 (by decide) (by decide) rfl (by decide) ?_
    refine lv_aload_n hx hb gd_Md_count_59 rfl (lv_at hl 1 rfl) ?_
    refine va_get (D := D) (ci := 4) (C := gR_Md) (T := gT_Md) (N := 16) hx hb hts (fun w h => List.mem_cons_of_mem _ (gl_Md w h)) hown hK (gq_one (c := 0) (k := 0) hH rfl (gm_c0 cI cZ ad u)) 0 rfl rfl 12 (by decide) (ht _ gt_381) (fun _ h9 => h9) rfl gd_Md_count_60 ?_
    cases hf
    exact W.iret hx hb hr (fun t ht hW => ⟨⟨_, _, rfl, ⟨rfl, rfl⟩, ⟨by rw [ht]; exact hH, va_K.moved hW.alike hK⟩⟩, hS.F ht⟩) hS.2.2 gd_Md_count_63
  replace hf := gj_e c4 hf
  by_cases c9 : p1 = 4
  · replace hf := gj_t c9 hf
    refine gj_tab (tgt := 64) (k := 4) hx hb c9 gd_Md_count_3 (by decide) (by decide) rfl (by decide) ?_
    refine lv_iconst (v := 0) hx hb gd_Md_count_64 (by decide) ?_
    refine lv_istore_n (lv' := [(3, .int 0), (2, .int 0), (0, .ref (ad 0 0)), (1, .int p1)]) hx hb gd_Md_count_65 rfl hl (by decide) rfl (fun ls hl => ?_)
    exact L66 gm_fu p1 0 0 u _ _ _ hf hH hS (lv_sub hl [2, 3, 1, 0] rfl)
  replace hf := gj_e c9 hf
  by_cases c10 : p1 = 5
  · replace hf := gj_t c10 hf
    refine gj_tab (tgt := 104) (k := 5) hx hb c10 gd_Md_count_3 (by decide) (by decide) rfl (by decide) ?_
    refine lv_aload_n hx hb gd_Md_count_104 rfl (lv_at hl 1 rfl) ?_
    refine va_get (D := D) (ci := 4) (C := gR_Md) (T := gT_Md) (N := 16) hx hb hts (fun w h => List.mem_cons_of_mem _ (gl_Md w h)) hown hK (gq_one (c := 0) (k := 0) hH rfl (gm_c0 cI cZ ad u)) 0 rfl rfl 0 (by decide) (ht _ gt_369) (fun _ h9 => h9) rfl gd_Md_count_105 ?_
    cases hf
    exact W.iret hx hb hr (fun t ht hW => ⟨⟨_, _, rfl, ⟨rfl, rfl⟩, ⟨by rw [ht]; exact hH, va_K.moved hW.alike hK⟩⟩, hS.F ht⟩) hS.2.2 gd_Md_count_108
  replace hf := gj_e c10 hf
  by_cases c14 : p1 = 6
  · replace hf := gj_t c14 hf
    refine gj_tab (tgt := 109) (k := 6) hx hb c14 gd_Md_count_3 (by decide) (by decide) rfl (by decide) ?_
    refine lv_iconst (v := 0) hx hb gd_Md_count_109 (by decide) ?_
    refine lv_istore_n (lv' := [(3, .int 0), (2, .int 0), (0, .ref (ad 0 0)), (1, .int p1)]) hx hb gd_Md_count_110 rfl hl (by decide) rfl (fun ls hl => ?_)
    exact L111 gm_fu p1 0 0 u _ _ _ hf hH hS (lv_sub hl [2, 3, 1, 0] rfl)
  replace hf := gj_e c14 hf
  refine lv_tableOut (tgt := 135) hx hb gd_Md_count_3 (by have ec1 := lv_neT (a := 0) c1 rfl; have ec2 := lv_neT (a := 1) c2 rfl; have ec3 := lv_neT (a := 2) c3 rfl; have ec4 := lv_neT (a := 3) c4 rfl; have ec9 := lv_neT (a := 4) c9 rfl; have ec10 := lv_neT (a := 5) c10 rfl; have ec14 := lv_neT (a := 6) c14 rfl; omega) (by decide) ?_
  refine lv_iconst (v := (-1)) hx hb gd_Md_count_135 (by decide) ?_
  cases hf
  exact W.iret hx hb hr (fun t ht hW => ⟨⟨_, _, rfl, ⟨rfl, rfl⟩, ⟨by rw [ht]; exact hH, va_K.moved hW.alike hK⟩⟩, hS.F ht⟩) hS.2.2 gd_Md_count_136
