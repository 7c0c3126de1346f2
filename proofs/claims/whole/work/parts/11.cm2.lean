set_option maxHeartbeats 4000000 in
set_option maxRecDepth 100000 in
theorem ct_Md_isLoose (l : Launch) (D : va_G) (cI cZ : ClassId) (ad : Nat → Nat → Nat) (hI : gq_I gm_vd ad) (u : gm_St) (p1 : Int32) (z : Int32 × gm_St) (hf : fn_Md_isLoose p1 u = some z) : Met l gy_Md_isLoose gws_Md_isLoose ({ frames := 1, cells := 0, slots := 0, locals := 22 }) (va_Pc [.ref (ad 0 0), .int p1] (gq_pre D gc_cl (gm_tys cI cZ) gm_vd ad gm_NF gm_NM (gm_pc cI cZ ad u))) (va_Qi (fun r u2 => r = z.1 ∧ u2 = z.2) (fun u2 t => gq_B D gc_cl (gm_tys cI cZ) gm_vd ad (gm_pc cI cZ ad u2) t) (gq_A gm_vd ad)) 0 0 (gq_A gm_vd ad) := by
  refine Met.ofW (cc := gb_Md_isLoose) (maxL := 4) (ret := (some .boolean)) (by decide) rfl ?_
  intro p e s m args below meth c s₁ B hml hv
  obtain ⟨rfl, hH, hK, hN⟩ := hv
  have hx := B.exec
  have hb := B.bytes
  have hr := B.returns
  have hts := atoms_spec (ws := gws_Md_isLoose) B.pre
  have ht := fun (w : Cond) (h : w ∈ gt_T) => hts w (List.mem_cons_of_mem _ h)
  have hown : s.vm.findClass gR_Md = some m.cls := findClass_of_methodNamed B.named
  have hlocks := B.notSynchronized
  have hA : ∀ q, (gq_A gm_vd ad) q → (gq_A gm_vd ad) q := fun _ h => h
  have hS : va_S (gq_A gm_vd ad) s.heap s.heap [] := va_S.rf
  have hl := lv_entry ([.ref (ad 0 0), .int p1]) (n := 4) (Nat.le_of_ble_eq_true rfl)
  rw [lg_entry_eq]
  generalize (lg_sl ([.ref (ad 0 0), .int p1]) ++ List.replicate (4 - (lg_sl ([.ref (ad 0 0), .int p1])).length) Slot.unset).toArray = ls at hl ⊢
  have hl : lv_has ls 4 [(0, .ref (ad 0 0)), (1, .int p1)] := hl
  have L17 : ∀ (n : Nat) (x1 : Int32) (x2 : Int32) (x3 : Int32) (u : gm_St) (H : Heap) (locs : List Loc) (ls : Array Slot), fn_Md_isLoose_17 n x1 x2 x3 u = some z → gq_H D gc_cl gm_vd ad (gm_pc cI cZ ad u) H → va_S (gq_A gm_vd ad) s.heap H locs → lv_has ls 4 [(0, .ref (ad 0 0)), (1, .int x1), (2, .int x2), (3, .int x3)] → W p l e (headSpec gws_Md_isLoose ({ frames := 1, cells := 0, slots := 0, locals := 22 })).room s m ([.ref (ad 0 0), .int p1] : List Value).toArray below meth c H locs 0 0 (MQ below (va_Qi (fun r u2 => r = z.1 ∧ u2 = z.2) (fun u2 t => gq_B D gc_cl (gm_tys cI cZ) gm_vd ad (gm_pc cI cZ ad u2) t) (gq_A gm_vd ad)) ([.ref (ad 0 0), .int p1] : List Value).toArray s 0 0 (gq_A gm_vd ad)) (F0 m 17 ls []) := by
    intro n
    induction n with
    | zero =>
      intro x1 x2 x3 u H locs ls hf
      have h0 : none = some z := hf
      cases h0
    | succ n ih =>
      intro x1 x2 x3 u H locs ls hf hH hS hl
      rw [fn_Md_isLoose_17] at hf
      refine lv_iload_n hx hb gd_Md_isLoose_17 rfl (lv_at hl 3 rfl) ?_
      refine lv_aload_n hx hb gd_Md_isLoose_18 rfl (lv_at hl 0 rfl) ?_
      refine va_get (D := D) (ci := 4) (C := gR_Md) (T := gT_Md) (N := 16) hx hb hts (fun w h => List.mem_cons_of_mem _ (gl_Md w h)) hown hK (gq_one (c := 0) (k := 0) hH rfl (gm_c0 cI cZ ad u)) 0 rfl rfl 12 (by decide) (ht _ gt_381) (fun _ h9 => h9) rfl gd_Md_isLoose_19 ?_
      refine lv_icmp_ge (tgt := 50) hx hb gd_Md_isLoose_22 (by decide) (fun c7 => ?_) (fun c7 => ?_)
      · replace hf := gj_t c7 hf
        refine lv_iload_n hx hb gd_Md_isLoose_50 rfl (lv_at hl 2 rfl) ?_
        obtain ⟨hg2, hf⟩ := gj_g hf
        cases hf
        exact W.zret hx hb hr (gj_01n hg2) (fun t ht hW => ⟨⟨_, _, rfl, ⟨rfl, rfl⟩, ⟨by rw [ht]; exact hH, va_K.moved hW.alike hK⟩⟩, hS.F ht⟩) hS.2.2 gd_Md_isLoose_51
      · replace hf := gj_e c7 hf
        refine lv_iload_n hx hb gd_Md_isLoose_25 rfl (lv_at hl 2 rfl) ?_
        refine lv_if_eq (tgt := 42) hx hb gd_Md_isLoose_26 (by decide) (fun c6 => ?_) (fun c6 => ?_)
        · replace hf := gj_t c6 hf
          refine lv_iconst (v := 0) hx hb gd_Md_isLoose_42 (by decide) ?_
          refine lv_istore_n (lv' := [(2, .int 0), (0, .ref (ad 0 0)), (1, .int x1), (3, .int x3)]) hx hb gd_Md_isLoose_43 rfl hl (by decide) rfl (fun ls hl => ?_)
          refine lv_iinc (v := x3 + 1) (lv' := [(3, .int (x3 + 1)), (2, .int 0), (0, .ref (ad 0 0)), (1, .int x1)]) hx hb gd_Md_isLoose_44 hl (k := 3) rfl rfl (by decide) rfl (fun ls hl => ?_)
          refine lv_goto (tgt := 17) hx hb gd_Md_isLoose_47 (by decide) ?_
          exact ih x1 0 (x3 + 1) u _ _ _ hf hH hS (lv_sub hl [2, 3, 1, 0] rfl)
        · replace hf := gj_e c6 hf
          refine lv_aload_n hx hb gd_Md_isLoose_29 rfl (lv_at hl 0 rfl) ?_
          refine lv_iload_n hx hb gd_Md_isLoose_30 rfl (lv_at hl 3 rfl) ?_
          refine lv_iload_n hx hb gd_Md_isLoose_31 rfl (lv_at hl 1 rfl) ?_
          obtain ⟨z3, hc4, hf⟩ := Option.bind_eq_some_iff.mp hf
          refine gq_calli (va_runV (As := [.int x3, .int x1]) (rest := []) ⟨hx, hb, hml, hown, hts⟩ (ct_Md_isKeptBy l D cI cZ ad hI u x3 x1 z3 hc4) (cwV 2 hts (gt_V gt_471 gt_473 (gt_sel (List.mem_of_getElem? (i := 31) rfl)) gt_5 gt_474) rfl rfl rfl (by decide +kernel) ⟨Nat.le_of_ble_eq_true rfl, Nat.le_of_ble_eq_true rfl⟩) (gq_preV hH hK hN (va_recv hK (gq_one (c := 0) (k := 0) hH rfl (gm_c0 cI cZ ad u)) (ci := 4) (q0 := 0) rfl rfl)) rfl rfl hl.1 rfl (lv_room (Nat.le_of_ble_eq_true rfl)) gd_Md_isLoose_32 ⟨Nat.zero_le _, Nat.zero_le _⟩) hA hS (fun H locs hH hS => ?_)
          refine lv_if_ne (tgt := 42) hx hb gd_Md_isLoose_35 (by decide) (fun c5 => ?_) (fun c5 => ?_)
          · replace hf := gj_e c5 hf
            refine lv_iconst (v := 0) hx hb gd_Md_isLoose_42 (by decide) ?_
            refine lv_istore_n (lv' := [(2, .int 0), (0, .ref (ad 0 0)), (1, .int x1), (3, .int x3)]) hx hb gd_Md_isLoose_43 rfl hl (by decide) rfl (fun ls hl => ?_)
            refine lv_iinc (v := x3 + 1) (lv' := [(3, .int (x3 + 1)), (2, .int 0), (0, .ref (ad 0 0)), (1, .int x1)]) hx hb gd_Md_isLoose_44 hl (k := 3) rfl rfl (by decide) rfl (fun ls hl => ?_)
            refine lv_goto (tgt := 17) hx hb gd_Md_isLoose_47 (by decide) ?_
            exact ih x1 0 (x3 + 1) z3.2 _ _ _ hf hH hS (lv_sub hl [2, 3, 1, 0] rfl)
          · replace hf := gj_t c5 hf
            refine lv_iconst (v := 1) hx hb gd_Md_isLoose_38 (by decide) ?_
            refine lv_goto (tgt := 43) hx hb gd_Md_isLoose_39 (by decide) ?_
            refine lv_istore_n (lv' := [(2, .int 1), (0, .ref (ad 0 0)), (1, .int x1), (3, .int x3)]) hx hb gd_Md_isLoose_43 rfl hl (by decide) rfl (fun ls hl => ?_)
            refine lv_iinc (v := x3 + 1) (lv' := [(3, .int (x3 + 1)), (2, .int 1), (0, .ref (ad 0 0)), (1, .int x1)]) hx hb gd_Md_isLoose_44 hl (k := 3) rfl rfl (by decide) rfl (fun ls hl => ?_)
            refine lv_goto (tgt := 17) hx hb gd_Md_isLoose_47 (by decide) ?_
            exact ih x1 1 (x3 + 1) z3.2 _ _ _ hf hH hS (lv_sub hl [2, 3, 1, 0] rfl)
  unfold fn_Md_isLoose at hf
  refine lv_aload_n hx hb gd_Md_isLoose_0 rfl (lv_at hl 0 rfl) ?_
  refine va_get (D := D) (ci := 4) (C := gR_Md) (T := gT_Md) (N := 16) hx hb hts (fun w h => List.mem_cons_of_mem _ (gl_Md w h)) hown hK (gq_one (c := 0) (k := 0) hH rfl (gm_c0 cI cZ ad u)) 0 rfl rfl 4 (by decide) (ht _ gt_373) (fun _ h9 => h9) rfl gd_Md_isLoose_1 ?_
  refine lv_iload_n hx hb gd_Md_isLoose_4 rfl (lv_at hl 1 rfl) ?_
  obtain ⟨hg1, hf⟩ := gj_g hf
  refine va_iald (D := D) hx hb hK (gq_one (c := 4) (k := 0) hH rfl (gm_c4 cI cZ ad u)) 0 0 rfl rfl hg1 gd_Md_isLoose_5 ?_
  refine lv_if_ne (tgt := 13) hx hb gd_Md_isLoose_6 (by decide) (fun c8 => ?_) (fun c8 => ?_)
  · replace hf := gj_e c8 hf
    refine lv_iconst (v := 0) hx hb gd_Md_isLoose_13 (by decide) ?_
    refine lv_istore_n (lv' := [(2, .int 0), (0, .ref (ad 0 0)), (1, .int p1)]) hx hb gd_Md_isLoose_14 rfl hl (by decide) rfl (fun ls hl => ?_)
    refine lv_iconst (v := 0) hx hb gd_Md_isLoose_15 (by decide) ?_
    refine lv_istore_n (lv' := [(3, .int 0), (2, .int 0), (0, .ref (ad 0 0)), (1, .int p1)]) hx hb gd_Md_isLoose_16 rfl hl (by decide) rfl (fun ls hl => ?_)
    exact L17 gm_fu p1 0 0 u _ _ _ hf hH hS (lv_sub hl [2, 3, 1, 0] rfl)
  · replace hf := gj_t c8 hf
    refine lv_iconst (v := 1) hx hb gd_Md_isLoose_9 (by decide) ?_
    refine lv_goto (tgt := 14) hx hb gd_Md_isLoose_10 (by decide) ?_
    refine lv_istore_n (lv' := [(2, .int 1), (0, .ref (ad 0 0)), (1, .int p1)]) hx hb gd_Md_isLoose_14 rfl hl (by decide) rfl (fun ls hl => ?_)
    refine lv_iconst (v := 0) hx hb gd_Md_isLoose_15 (by decide) ?_
    refine lv_istore_n (lv' := [(3, .int 0), (2, .int 1), (0, .ref (ad 0 0)), (1, .int p1)]) hx hb gd_Md_isLoose_16 rfl hl (by decide) rfl (fun ls hl => ?_)
    exact L17 gm_fu p1 1 0 u _ _ _ hf hH hS (lv_sub hl [2, 3, 1, 0] rfl)
set_option maxHeartbeats 4000000 in
set_option maxRecDepth 100000 in
theorem ct_Md_isTerm (l : Launch) (D : va_G) (cI cZ : ClassId) (ad : Nat → Nat → Nat) (hI : gq_I gm_vd ad) (u : gm_St) (p1 : Int32) (z : Int32 × gm_St) (hf : fn_Md_isTerm p1 u = some z) : Met l gy_Md_isTerm gws_Md_isTerm ({ frames := 1, cells := 0, slots := 0, locals := 22 }) (va_Pc [.ref (ad 0 0), .int p1] (gq_pre D gc_cl (gm_tys cI cZ) gm_vd ad gm_NF gm_NM (gm_pc cI cZ ad u))) (va_Qi (fun r u2 => r = z.1 ∧ u2 = z.2) (fun u2 t => gq_B D gc_cl (gm_tys cI cZ) gm_vd ad (gm_pc cI cZ ad u2) t) (gq_A gm_vd ad)) 0 0 (gq_A gm_vd ad) := by
  refine Met.ofW (cc := gb_Md_isTerm) (maxL := 2) (ret := (some .boolean)) (by decide) rfl ?_
  intro p e s m args below meth c s₁ B hml hv
  obtain ⟨rfl, hH, hK, hN⟩ := hv
  have hx := B.exec
  have hb := B.bytes
  have hr := B.returns
  have hts := atoms_spec (ws := gws_Md_isTerm) B.pre
  have ht := fun (w : Cond) (h : w ∈ gt_T) => hts w (List.mem_cons_of_mem _ h)
  have hown : s.vm.findClass gR_Md = some m.cls := findClass_of_methodNamed B.named
  have hlocks := B.notSynchronized
  have hA : ∀ q, (gq_A gm_vd ad) q → (gq_A gm_vd ad) q := fun _ h => h
  have hS : va_S (gq_A gm_vd ad) s.heap s.heap [] := va_S.rf
  have hl := lv_entry ([.ref (ad 0 0), .int p1]) (n := 2) (Nat.le_of_ble_eq_true rfl)
  rw [lg_entry_eq]
  generalize (lg_sl ([.ref (ad 0 0), .int p1]) ++ List.replicate (2 - (lg_sl ([.ref (ad 0 0), .int p1])).length) Slot.unset).toArray = ls at hl ⊢
  have hl : lv_has ls 2 [(0, .ref (ad 0 0)), (1, .int p1)] := hl
  unfold fn_Md_isTerm at hf
  refine lv_iload_n hx hb gd_Md_isTerm_0 rfl (lv_at hl 1 rfl) ?_
  refine lv_iconst (v := 0) hx hb gd_Md_isTerm_1 (by decide) ?_
  refine lv_bipush (v := 99) hx hb gd_Md_isTerm_2 (by decide) ?_
  obtain ⟨z1, hc2, hf⟩ := Option.bind_eq_some_iff.mp hf
  refine gq_calli (va_runS (As := [.int p1, .int 0, .int 99]) (rest := []) ⟨hx, hb, hml, hown, hts⟩ (ct_Md_in l D cI cZ ad hI u p1 0 99 z1 hc2) (va_cwS 3 hts (gt_S gt_423 gt_424 gt_5 gt_425) rfl rfl rfl (by decide +kernel) ⟨Nat.le_of_ble_eq_true rfl, Nat.le_of_ble_eq_true rfl⟩) (gq_preS hH hK hN) rfl rfl hl.1 rfl (lv_room (Nat.le_of_ble_eq_true rfl)) gd_Md_isTerm_4 ⟨Nat.zero_le _, Nat.zero_le _⟩) hA hS (fun H locs hH hS => ?_)
  refine lv_if_eq (tgt := 23) hx hb gd_Md_isTerm_7 (by decide) (fun c5 => ?_) (fun c5 => ?_)
  · replace hf := gj_t c5 hf
    refine lv_iconst (v := 0) hx hb gd_Md_isTerm_23 (by decide) ?_
    cases hf
    exact W.zret hx hb hr rfl (fun t ht hW => ⟨⟨_, _, rfl, ⟨rfl, rfl⟩, ⟨by rw [ht]; exact hH, va_K.moved hW.alike hK⟩⟩, hS.F ht⟩) hS.2.2 gd_Md_isTerm_24
  · replace hf := gj_e c5 hf
    refine lv_aload_n hx hb gd_Md_isTerm_10 rfl (lv_at hl 0 rfl) ?_
    refine va_get (D := D) (ci := 4) (C := gR_Md) (T := gT_Md) (N := 16) hx hb hts (fun w h => List.mem_cons_of_mem _ (gl_Md w h)) hown hK (gq_one (c := 0) (k := 0) hH rfl (gm_c0 cI cZ ad z1.2)) 0 rfl rfl 2 (by decide) (ht _ gt_371) (fun _ h9 => h9) rfl gd_Md_isTerm_11 ?_
    refine lv_iload_n hx hb gd_Md_isTerm_14 rfl (lv_at hl 1 rfl) ?_
    obtain ⟨hg3, hf⟩ := gj_g hf
    refine va_zald (D := D) hx hb hK (gq_one (c := 2) (k := 0) hH rfl (gm_c2 cI cZ ad z1.2)) 0 1 rfl rfl hg3 gd_Md_isTerm_15 ?_
    refine lv_if_eq (tgt := 23) hx hb gd_Md_isTerm_16 (by decide) (fun c4 => ?_) (fun c4 => ?_)
    · replace hf := gj_t c4 hf
      refine lv_iconst (v := 0) hx hb gd_Md_isTerm_23 (by decide) ?_
      cases hf
      exact W.zret hx hb hr rfl (fun t ht hW => ⟨⟨_, _, rfl, ⟨rfl, rfl⟩, ⟨by rw [ht]; exact hH, va_K.moved hW.alike hK⟩⟩, hS.F ht⟩) hS.2.2 gd_Md_isTerm_24
    · replace hf := gj_e c4 hf
      refine lv_iconst (v := 1) hx hb gd_Md_isTerm_19 (by decide) ?_
      refine lv_goto (tgt := 24) hx hb gd_Md_isTerm_20 (by decide) ?_
      cases hf
      exact W.zret hx hb hr rfl (fun t ht hW => ⟨⟨_, _, rfl, ⟨rfl, rfl⟩, ⟨by rw [ht]; exact hH, va_K.moved hW.alike hK⟩⟩, hS.F ht⟩) hS.2.2 gd_Md_isTerm_24
set_option maxHeartbeats 4000000 in
set_option maxRecDepth 100000 in
theorem ct_Md_drop (l : Launch) (D : va_G) (cI cZ : ClassId) (ad : Nat → Nat → Nat) (hI : gq_I gm_vd ad) (u : gm_St) (p1 : Int32) (z : Int32 × gm_St) (hf : fn_Md_drop p1 u = some z) : Met l gy_Md_drop gws_Md_drop ({ frames := 2, cells := 0, slots := 0, locals := 47 }) (va_Pc [.ref (ad 0 0), .int p1] (gq_pre D gc_cl (gm_tys cI cZ) gm_vd ad gm_NF gm_NM (gm_pc cI cZ ad u))) (va_Qi (fun r u2 => r = z.1 ∧ u2 = z.2) (fun u2 t => gq_B D gc_cl (gm_tys cI cZ) gm_vd ad (gm_pc cI cZ ad u2) t) (gq_A gm_vd ad)) 0 0 (gq_A gm_vd ad) := by
  refine Met.ofW (cc := gb_Md_drop) (maxL := 3) (ret := (some .int)) (by decide) rfl ?_
  intro p e s m args below meth c s₁ B hml hv
  obtain ⟨rfl, hH, hK, hN⟩ := hv
  have hx := B.exec
  have hb := B.bytes
  have hr := B.returns
  have hts := atoms_spec (ws := gws_Md_drop) B.pre
  have ht := fun (w : Cond) (h : w ∈ gt_T) => hts w (List.mem_cons_of_mem _ h)
  have hown : s.vm.findClass gR_Md = some m.cls := findClass_of_methodNamed B.named
  have hlocks := B.notSynchronized
  have hA : ∀ q, (gq_A gm_vd ad) q → (gq_A gm_vd ad) q := fun _ h => h
  have hS : va_S (gq_A gm_vd ad) s.heap s.heap [] := va_S.rf
  have hl := lv_entry ([.ref (ad 0 0), .int p1]) (n := 3) (Nat.le_of_ble_eq_true rfl)
  rw [lg_entry_eq]
  generalize (lg_sl ([.ref (ad 0 0), .int p1]) ++ List.replicate (3 - (lg_sl ([.ref (ad 0 0), .int p1])).length) Slot.unset).toArray = ls at hl ⊢
  have hl : lv_has ls 3 [(0, .ref (ad 0 0)), (1, .int p1)] := hl
  unfold fn_Md_drop at hf
  refine lv_aload_n hx hb gd_Md_drop_0 rfl (lv_at hl 0 rfl) ?_
  refine lv_iload_n hx hb gd_Md_drop_1 rfl (lv_at hl 1 rfl) ?_
  obtain ⟨z1, hc2, hf⟩ := Option.bind_eq_some_iff.mp hf
  refine gq_calli (va_runV (As := [.int p1]) (rest := []) ⟨hx, hb, hml, hown, hts⟩ (ct_Md_isTerm l D cI cZ ad hI u p1 z1 hc2) (cwV 1 hts (gt_V gt_463 gt_465 (gt_sel (List.mem_of_getElem? (i := 29) rfl)) gt_5 gt_466) rfl rfl rfl (by decide +kernel) ⟨Nat.le_of_ble_eq_true rfl, Nat.le_of_ble_eq_true rfl⟩) (gq_preV hH hK hN (va_recv hK (gq_one (c := 0) (k := 0) hH rfl (gm_c0 cI cZ ad u)) (ci := 4) (q0 := 0) rfl rfl)) rfl rfl hl.1 rfl (lv_room (Nat.le_of_ble_eq_true rfl)) gd_Md_drop_2 ⟨Nat.zero_le _, Nat.zero_le _⟩) hA hS (fun H locs hH hS => ?_)
  refine lv_if_eq (tgt := 17) hx hb gd_Md_drop_5 (by decide) (fun c13 => ?_) (fun c13 => ?_)
  · replace hf := gj_t c13 hf
    refine lv_iconst (v := (-1)) hx hb gd_Md_drop_17 (by decide) ?_
    cases hf
    exact W.iret hx hb hr (fun t ht hW => ⟨⟨_, _, rfl, ⟨rfl, rfl⟩, ⟨by rw [ht]; exact hH, va_K.moved hW.alike hK⟩⟩, hS.F ht⟩) hS.2.2 gd_Md_drop_18
  · replace hf := gj_e c13 hf
    refine lv_aload_n hx hb gd_Md_drop_8 rfl (lv_at hl 0 rfl) ?_
    refine va_get (D := D) (ci := 4) (C := gR_Md) (T := gT_Md) (N := 16) hx hb hts (fun w h => List.mem_cons_of_mem _ (gl_Md w h)) hown hK (gq_one (c := 0) (k := 0) hH rfl (gm_c0 cI cZ ad z1.2)) 0 rfl rfl 4 (by decide) (ht _ gt_373) (fun _ h9 => h9) rfl gd_Md_drop_9 ?_
    refine lv_iload_n hx hb gd_Md_drop_12 rfl (lv_at hl 1 rfl) ?_
    obtain ⟨hg3, hf⟩ := gj_g hf
    refine va_iald (D := D) hx hb hK (gq_one (c := 4) (k := 0) hH rfl (gm_c4 cI cZ ad z1.2)) 0 0 rfl rfl hg3 gd_Md_drop_13 ?_
    refine lv_if_ne (tgt := 19) hx hb gd_Md_drop_14 (by decide) (fun c12 => ?_) (fun c12 => ?_)
    · replace hf := gj_e c12 hf
      refine lv_aload_n hx hb gd_Md_drop_19 rfl (lv_at hl 0 rfl) ?_
      refine va_get (D := D) (ci := 4) (C := gR_Md) (T := gT_Md) (N := 16) hx hb hts (fun w h => List.mem_cons_of_mem _ (gl_Md w h)) hown hK (gq_one (c := 0) (k := 0) hH rfl (gm_c0 cI cZ ad z1.2)) 0 rfl rfl 4 (by decide) (ht _ gt_373) (fun _ h9 => h9) rfl gd_Md_drop_20 ?_
      refine lv_iload_n hx hb gd_Md_drop_23 rfl (lv_at hl 1 rfl) ?_
      refine lv_dup2_11 hx hb gd_Md_drop_24 rfl rfl ?_
      obtain ⟨hg4, hf⟩ := gj_g hf
      refine va_iald (D := D) hx hb hK (gq_one (c := 4) (k := 0) hH rfl (gm_c4 cI cZ ad z1.2)) 0 0 rfl rfl hg4 gd_Md_drop_25 ?_
      refine lv_iconst (v := 1) hx hb gd_Md_drop_26 (by decide) ?_
      refine lv_isub hx hb gd_Md_drop_27 ?_
      obtain ⟨hg5, hf⟩ := gj_g hf
      refine gq_iast (D := D) (ca := 4) (ka := 0) (pp' := gm_pc cI cZ ad (gm_sI z1.2 4 (Int32.toNatClampNeg p1) ((z1.2.1 4 (Int32.toNatClampNeg p1)) - 1))) hx hb hK hH hI hA rfl (gm_c4 cI cZ ad z1.2) 0 rfl hg5 (gm_w4 cI cZ ad z1.2 (Int32.toNatClampNeg p1) ((z1.2.1 4 (Int32.toNatClampNeg p1)) - 1)) (gm_o4 cI cZ ad z1.2 (Int32.toNatClampNeg p1) ((z1.2.1 4 (Int32.toNatClampNeg p1)) - 1)) hS gd_Md_drop_28 (fun H locs hH hS => ?_)
      refine lv_aload_n hx hb gd_Md_drop_29 rfl (lv_at hl 0 rfl) ?_
      refine va_get (D := D) (ci := 4) (C := gR_Md) (T := gT_Md) (N := 16) hx hb hts (fun w h => List.mem_cons_of_mem _ (gl_Md w h)) hown hK (gq_one (c := 0) (k := 0) hH rfl (gm_c0 cI cZ ad (gm_sI z1.2 4 (Int32.toNatClampNeg p1) ((z1.2.1 4 (Int32.toNatClampNeg p1)) - 1)))) 0 rfl rfl 4 (by decide) (ht _ gt_373) (fun _ h9 => h9) rfl gd_Md_drop_30 ?_
      refine lv_iload_n hx hb gd_Md_drop_33 rfl (lv_at hl 1 rfl) ?_
      obtain ⟨hg6, hf⟩ := gj_g hf
      refine va_iald (D := D) hx hb hK (gq_one (c := 4) (k := 0) hH rfl (gm_c4 cI cZ ad (gm_sI z1.2 4 (Int32.toNatClampNeg p1) ((z1.2.1 4 (Int32.toNatClampNeg p1)) - 1)))) 0 0 rfl rfl hg6 gd_Md_drop_34 ?_
      refine lv_istore_n (lv' := [(2, .int ((gm_sI z1.2 4 (Int32.toNatClampNeg p1) ((z1.2.1 4 (Int32.toNatClampNeg p1)) - 1)).1 4 (Int32.toNatClampNeg p1))), (0, .ref (ad 0 0)), (1, .int p1)]) hx hb gd_Md_drop_35 rfl hl (by decide) rfl (fun ls hl => ?_)
      refine lv_aload_n hx hb gd_Md_drop_36 rfl (lv_at hl 1 rfl) ?_
      refine lv_iload_n hx hb gd_Md_drop_37 rfl (lv_at hl 2 rfl) ?_
      obtain ⟨z7, hc8, hf⟩ := Option.bind_eq_some_iff.mp hf
      refine gq_calli (va_runV (As := [.int p1]) (rest := []) ⟨hx, hb, hml, hown, hts⟩ (ct_Md_isLoose l D cI cZ ad hI (gm_sI z1.2 4 (Int32.toNatClampNeg p1) ((z1.2.1 4 (Int32.toNatClampNeg p1)) - 1)) p1 z7 hc8) (cwV 1 hts (gt_V gt_467 gt_469 (gt_sel (List.mem_of_getElem? (i := 30) rfl)) gt_5 gt_470) rfl rfl rfl (by decide +kernel) ⟨Nat.le_of_ble_eq_true rfl, Nat.le_of_ble_eq_true rfl⟩) (gq_preV hH hK hN (va_recv hK (gq_one (c := 0) (k := 0) hH rfl (gm_c0 cI cZ ad (gm_sI z1.2 4 (Int32.toNatClampNeg p1) ((z1.2.1 4 (Int32.toNatClampNeg p1)) - 1)))) (ci := 4) (q0 := 0) rfl rfl)) rfl rfl hl.1 rfl (lv_room (Nat.le_of_ble_eq_true rfl)) gd_Md_drop_38 ⟨Nat.zero_le _, Nat.zero_le _⟩) hA hS (fun H locs hH hS => ?_)
      refine lv_if_eq (tgt := 49) hx hb gd_Md_drop_41 (by decide) (fun c11 => ?_) (fun c11 => ?_)
      · replace hf := gj_t c11 hf
        refine lv_iload_n hx hb gd_Md_drop_49 rfl (lv_at hl 0 rfl) ?_
        cases hf
        exact W.iret hx hb hr (fun t ht hW => ⟨⟨_, _, rfl, ⟨rfl, rfl⟩, ⟨by rw [ht]; exact hH, va_K.moved hW.alike hK⟩⟩, hS.F ht⟩) hS.2.2 gd_Md_drop_50
      · replace hf := gj_e c11 hf
        refine lv_aload_n hx hb gd_Md_drop_44 rfl (lv_at hl 1 rfl) ?_
        refine lv_iload_n hx hb gd_Md_drop_45 rfl (lv_at hl 2 rfl) ?_
        obtain ⟨z9, hc10, hf⟩ := Option.bind_eq_some_iff.mp hf
        refine gq_callv (va_runV (As := [.int p1]) (rest := []) ⟨hx, hb, hml, hown, hts⟩ (ct_Md_go l D cI cZ ad hI z7.2 p1 z9 hc10) (cwV 1 hts (gt_V gt_475 gt_477 (gt_sel (List.mem_of_getElem? (i := 32) rfl)) gt_5 gt_478) rfl rfl rfl (by decide +kernel) ⟨Nat.le_of_ble_eq_true rfl, Nat.le_of_ble_eq_true rfl⟩) (gq_preV hH hK hN (va_recv hK (gq_one (c := 0) (k := 0) hH rfl (gm_c0 cI cZ ad z7.2)) (ci := 4) (q0 := 0) rfl rfl)) rfl rfl hl.1 rfl (lv_room (Nat.le_of_ble_eq_true rfl)) gd_Md_drop_46 ⟨Nat.zero_le _, Nat.zero_le _⟩) hA hS (fun H locs hH hS => ?_)
        refine lv_iload_n hx hb gd_Md_drop_49 rfl (lv_at hl 0 rfl) ?_
        cases hf
        exact W.iret hx hb hr (fun t ht hW => ⟨⟨_, _, rfl, ⟨rfl, rfl⟩, ⟨by rw [ht]; exact hH, va_K.moved hW.alike hK⟩⟩, hS.F ht⟩) hS.2.2 gd_Md_drop_50
    · replace hf := gj_t c12 hf
      refine lv_iconst (v := (-1)) hx hb gd_Md_drop_17 (by decide) ?_
      cases hf
      exact W.iret hx hb hr (fun t ht hW => ⟨⟨_, _, rfl, ⟨rfl, rfl⟩, ⟨by rw [ht]; exact hH, va_K.moved hW.alike hK⟩⟩, hS.F ht⟩) hS.2.2 gd_Md_drop_18
set_option maxHeartbeats 4000000 in
set_option maxRecDepth 100000 in
theorem ct_Md_find (l : Launch) (D : va_G) (cI cZ : ClassId) (ad : Nat → Nat → Nat) (hI : gq_I gm_vd ad) (u : gm_St) (p1 : Int32) (z : Int32 × gm_St) (hf : fn_Md_find p1 u = some z) : Met l gy_Md_find gws_Md_find ({ frames := 2, cells := 0, slots := 0, locals := 47 }) (va_Pc [.ref (ad 0 0), .int p1] (gq_pre D gc_cl (gm_tys cI cZ) gm_vd ad gm_NF gm_NM (gm_pc cI cZ ad u))) (va_Qi (fun r u2 => r = z.1 ∧ u2 = z.2) (fun u2 t => gq_B D gc_cl (gm_tys cI cZ) gm_vd ad (gm_pc cI cZ ad u2) t) (gq_A gm_vd ad)) 0 0 (gq_A gm_vd ad) := by
  refine Met.ofW (cc := gb_Md_find) (maxL := 3) (ret := (some .int)) (by decide) rfl ?_
  intro p e s m args below meth c s₁ B hml hv
  obtain ⟨rfl, hH, hK, hN⟩ := hv
  have hx := B.exec
  have hb := B.bytes
  have hr := B.returns
  have hts := atoms_spec (ws := gws_Md_find) B.pre
  have ht := fun (w : Cond) (h : w ∈ gt_T) => hts w (List.mem_cons_of_mem _ h)
  have hown : s.vm.findClass gR_Md = some m.cls := findClass_of_methodNamed B.named
  have hlocks := B.notSynchronized
  have hA : ∀ q, (gq_A gm_vd ad) q → (gq_A gm_vd ad) q := fun _ h => h
  have hS : va_S (gq_A gm_vd ad) s.heap s.heap [] := va_S.rf
  have hl := lv_entry ([.ref (ad 0 0), .int p1]) (n := 3) (Nat.le_of_ble_eq_true rfl)
  rw [lg_entry_eq]
  generalize (lg_sl ([.ref (ad 0 0), .int p1]) ++ List.replicate (3 - (lg_sl ([.ref (ad 0 0), .int p1])).length) Slot.unset).toArray = ls at hl ⊢
  have hl : lv_has ls 3 [(0, .ref (ad 0 0)), (1, .int p1)] := hl
  unfold fn_Md_find at hf
  refine lv_iload_n hx hb gd_Md_find_0 rfl (lv_at hl 1 rfl) ?_
  refine lv_iconst (v := 0) hx hb gd_Md_find_1 (by decide) ?_
  refine lv_iconst (v := 3) hx hb gd_Md_find_2 (by decide) ?_
  obtain ⟨z1, hc2, hf⟩ := Option.bind_eq_some_iff.mp hf
  refine gq_calli (va_runS (As := [.int p1, .int 0, .int 3]) (rest := []) ⟨hx, hb, hml, hown, hts⟩ (ct_Md_in l D cI cZ ad hI u p1 0 3 z1 hc2) (va_cwS 3 hts (gt_S gt_423 gt_424 gt_5 gt_425) rfl rfl rfl (by decide +kernel) ⟨Nat.le_of_ble_eq_true rfl, Nat.le_of_ble_eq_true rfl⟩) (gq_preS hH hK hN) rfl rfl hl.1 rfl (lv_room (Nat.le_of_ble_eq_true rfl)) gd_Md_find_3 ⟨Nat.zero_le _, Nat.zero_le _⟩) hA hS (fun H locs hH hS => ?_)
  refine lv_if_ne (tgt := 11) hx hb gd_Md_find_6 (by decide) (fun c6 => ?_) (fun c6 => ?_)
  · replace hf := gj_e c6 hf
    refine lv_aload_n hx hb gd_Md_find_11 rfl (lv_at hl 0 rfl) ?_
    refine lv_iload_n hx hb gd_Md_find_12 rfl (lv_at hl 1 rfl) ?_
    obtain ⟨z3, hc4, hf⟩ := Option.bind_eq_some_iff.mp hf
    refine gq_calli (va_runV (As := [.int p1]) (rest := []) ⟨hx, hb, hml, hown, hts⟩ (ct_Md_numberOf l D cI cZ ad hI z1.2 p1 z3 hc4) (cwV 1 hts (gt_V gt_435 gt_437 (gt_sel (List.mem_of_getElem? (i := 23) rfl)) gt_5 gt_438) rfl rfl rfl (by decide +kernel) ⟨Nat.le_of_ble_eq_true rfl, Nat.le_of_ble_eq_true rfl⟩) (gq_preV hH hK hN (va_recv hK (gq_one (c := 0) (k := 0) hH rfl (gm_c0 cI cZ ad z1.2)) (ci := 4) (q0 := 0) rfl rfl)) rfl rfl hl.1 rfl (lv_room (Nat.le_of_ble_eq_true rfl)) gd_Md_find_13 ⟨Nat.zero_le _, Nat.zero_le _⟩) hA hS (fun H locs hH hS => ?_)
    refine lv_istore_n (lv' := [(2, .int z3.1), (0, .ref (ad 0 0)), (1, .int p1)]) hx hb gd_Md_find_16 rfl hl (by decide) rfl (fun ls hl => ?_)
    refine lv_iload_n hx hb gd_Md_find_17 rfl (lv_at hl 0 rfl) ?_
    refine lv_if_ge (tgt := 26) hx hb gd_Md_find_18 (by decide) (fun c5 => ?_) (fun c5 => ?_)
    · replace hf := gj_t c5 hf
      refine lv_iload_n hx hb gd_Md_find_26 rfl (lv_at hl 0 rfl) ?_
      cases hf
      exact W.iret hx hb hr (fun t ht hW => ⟨⟨_, _, rfl, ⟨rfl, rfl⟩, ⟨by rw [ht]; exact hH, va_K.moved hW.alike hK⟩⟩, hS.F ht⟩) hS.2.2 gd_Md_find_27
    · replace hf := gj_e c5 hf
      refine lv_bipush (v := (-2)) hx hb gd_Md_find_21 (by decide) ?_
      refine lv_goto (tgt := 27) hx hb gd_Md_find_23 (by decide) ?_
      cases hf
      exact W.iret hx hb hr (fun t ht hW => ⟨⟨_, _, rfl, ⟨rfl, rfl⟩, ⟨by rw [ht]; exact hH, va_K.moved hW.alike hK⟩⟩, hS.F ht⟩) hS.2.2 gd_Md_find_27
  · replace hf := gj_t c6 hf
    refine lv_iconst (v := (-1)) hx hb gd_Md_find_9 (by decide) ?_
    cases hf
    exact W.iret hx hb hr (fun t ht hW => ⟨⟨_, _, rfl, ⟨rfl, rfl⟩, ⟨by rw [ht]; exact hH, va_K.moved hW.alike hK⟩⟩, hS.F ht⟩) hS.2.2 gd_Md_find_10
set_option maxHeartbeats 4000000 in
set_option maxRecDepth 100000 in
theorem ct_Md_term (l : Launch) (D : va_G) (cI cZ : ClassId) (ad : Nat → Nat → Nat) (hI : gq_I gm_vd ad) (u : gm_St) (p1 : Int32) (p2 : Int32) (z : Int32 × gm_St) (hf : fn_Md_term p1 p2 u = some z) : Met l gy_Md_term gws_Md_term ({ frames := 2, cells := 0, slots := 0, locals := 43 }) (va_Pc [.ref (ad 0 0), .int p1, .int p2] (gq_pre D gc_cl (gm_tys cI cZ) gm_vd ad gm_NF gm_NM (gm_pc cI cZ ad u))) (va_Qi (fun r u2 => r = z.1 ∧ u2 = z.2) (fun u2 t => gq_B D gc_cl (gm_tys cI cZ) gm_vd ad (gm_pc cI cZ ad u2) t) (gq_A gm_vd ad)) 0 0 (gq_A gm_vd ad) := by
  refine Met.ofW (cc := gb_Md_term) (maxL := 3) (ret := (some .int)) (by decide) rfl ?_
  intro p e s m args below meth c s₁ B hml hv
  obtain ⟨rfl, hH, hK, hN⟩ := hv
  have hx := B.exec
  have hb := B.bytes
  have hr := B.returns
  have hts := atoms_spec (ws := gws_Md_term) B.pre
  have ht := fun (w : Cond) (h : w ∈ gt_T) => hts w (List.mem_cons_of_mem _ h)
  have hown : s.vm.findClass gR_Md = some m.cls := findClass_of_methodNamed B.named
  have hlocks := B.notSynchronized
  have hA : ∀ q, (gq_A gm_vd ad) q → (gq_A gm_vd ad) q := fun _ h => h
  have hS : va_S (gq_A gm_vd ad) s.heap s.heap [] := va_S.rf
  have hl := lv_entry ([.ref (ad 0 0), .int p1, .int p2]) (n := 3) (Nat.le_of_ble_eq_true rfl)
  rw [lg_entry_eq]
  generalize (lg_sl ([.ref (ad 0 0), .int p1, .int p2]) ++ List.replicate (3 - (lg_sl ([.ref (ad 0 0), .int p1, .int p2])).length) Slot.unset).toArray = ls at hl ⊢
  have hl : lv_has ls 3 [(0, .ref (ad 0 0)), (1, .int p1), (2, .int p2)] := hl
  unfold fn_Md_term at hf
  refine lv_aload_n hx hb gd_Md_term_0 rfl (lv_at hl 0 rfl) ?_
  refine lv_iload_n hx hb gd_Md_term_1 rfl (lv_at hl 1 rfl) ?_
  obtain ⟨z1, hc2, hf⟩ := Option.bind_eq_some_iff.mp hf
  refine gq_calli (va_runV (As := [.int p1]) (rest := []) ⟨hx, hb, hml, hown, hts⟩ (ct_Md_isTerm l D cI cZ ad hI u p1 z1 hc2) (cwV 1 hts (gt_V gt_463 gt_465 (gt_sel (List.mem_of_getElem? (i := 29) rfl)) gt_5 gt_466) rfl rfl rfl (by decide +kernel) ⟨Nat.le_of_ble_eq_true rfl, Nat.le_of_ble_eq_true rfl⟩) (gq_preV hH hK hN (va_recv hK (gq_one (c := 0) (k := 0) hH rfl (gm_c0 cI cZ ad u)) (ci := 4) (q0 := 0) rfl rfl)) rfl rfl hl.1 rfl (lv_room (Nat.le_of_ble_eq_true rfl)) gd_Md_term_2 ⟨Nat.zero_le _, Nat.zero_le _⟩) hA hS (fun H locs hH hS => ?_)
  refine lv_if_eq (tgt := 12) hx hb gd_Md_term_5 (by decide) (fun c13 => ?_) (fun c13 => ?_)
  · replace hf := gj_t c13 hf
    refine lv_iconst (v := (-1)) hx hb gd_Md_term_12 (by decide) ?_
    cases hf
    exact W.iret hx hb hr (fun t ht hW => ⟨⟨_, _, rfl, ⟨rfl, rfl⟩, ⟨by rw [ht]; exact hH, va_K.moved hW.alike hK⟩⟩, hS.F ht⟩) hS.2.2 gd_Md_term_13
  · replace hf := gj_e c13 hf
    refine lv_iload_n hx hb gd_Md_term_8 rfl (lv_at hl 2 rfl) ?_
    refine lv_if_ge (tgt := 14) hx hb gd_Md_term_9 (by decide) (fun c12 => ?_) (fun c12 => ?_)
    · replace hf := gj_t c12 hf
      refine lv_iload_n hx hb gd_Md_term_14 rfl (lv_at hl 2 rfl) ?_
      by_cases c4 : p2 = 0
      · replace hf := gj_t c4 hf
        refine gj_tab (tgt := 40) (k := 0) hx hb c4 gd_Md_term_15 (by decide) (by decide) rfl (by decide) ?_
        refine lv_aload_n hx hb gd_Md_term_40 rfl (lv_at hl 0 rfl) ?_
        refine va_get (D := D) (ci := 4) (C := gR_Md) (T := gT_Md) (N := 16) hx hb hts (fun w h => List.mem_cons_of_mem _ (gl_Md w h)) hown hK (gq_one (c := 0) (k := 0) hH rfl (gm_c0 cI cZ ad z1.2)) 0 rfl rfl 3 (by decide) (ht _ gt_372) (fun _ h9 => h9) rfl gd_Md_term_41 ?_
        refine lv_iload_n hx hb gd_Md_term_44 rfl (lv_at hl 1 rfl) ?_
        obtain ⟨hg3, hf⟩ := gj_g hf
        refine va_iald (D := D) hx hb hK (gq_one (c := 3) (k := 0) hH rfl (gm_c3 cI cZ ad z1.2)) 0 0 rfl rfl hg3 gd_Md_term_45 ?_
        cases hf
        exact W.iret hx hb hr (fun t ht hW => ⟨⟨_, _, rfl, ⟨rfl, rfl⟩, ⟨by rw [ht]; exact hH, va_K.moved hW.alike hK⟩⟩, hS.F ht⟩) hS.2.2 gd_Md_term_46
      replace hf := gj_e c4 hf
      by_cases c6 : p2 = 1
      · replace hf := gj_t c6 hf
        refine gj_tab (tgt := 47) (k := 1) hx hb c6 gd_Md_term_15 (by decide) (by decide) rfl (by decide) ?_
        refine lv_aload_n hx hb gd_Md_term_47 rfl (lv_at hl 0 rfl) ?_
        refine va_get (D := D) (ci := 4) (C := gR_Md) (T := gT_Md) (N := 16) hx hb hts (fun w h => List.mem_cons_of_mem _ (gl_Md w h)) hown hK (gq_one (c := 0) (k := 0) hH rfl (gm_c0 cI cZ ad z1.2)) 0 rfl rfl 4 (by decide) (ht _ gt_373) (fun _ h9 => h9) rfl gd_Md_term_48 ?_
        refine lv_iload_n hx hb gd_Md_term_51 rfl (lv_at hl 1 rfl) ?_
        obtain ⟨hg5, hf⟩ := gj_g hf
        refine va_iald (D := D) hx hb hK (gq_one (c := 4) (k := 0) hH rfl (gm_c4 cI cZ ad z1.2)) 0 0 rfl rfl hg5 gd_Md_term_52 ?_
        cases hf
        exact W.iret hx hb hr (fun t ht hW => ⟨⟨_, _, rfl, ⟨rfl, rfl⟩, ⟨by rw [ht]; exact hH, va_K.moved hW.alike hK⟩⟩, hS.F ht⟩) hS.2.2 gd_Md_term_53
      replace hf := gj_e c6 hf
      by_cases c8 : p2 = 2
      · replace hf := gj_t c8 hf
        refine gj_tab (tgt := 54) (k := 2) hx hb c8 gd_Md_term_15 (by decide) (by decide) rfl (by decide) ?_
        refine lv_aload_n hx hb gd_Md_term_54 rfl (lv_at hl 0 rfl) ?_
        refine va_get (D := D) (ci := 4) (C := gR_Md) (T := gT_Md) (N := 16) hx hb hts (fun w h => List.mem_cons_of_mem _ (gl_Md w h)) hown hK (gq_one (c := 0) (k := 0) hH rfl (gm_c0 cI cZ ad z1.2)) 0 rfl rfl 5 (by decide) (ht _ gt_374) (fun _ h9 => h9) rfl gd_Md_term_55 ?_
        refine lv_iload_n hx hb gd_Md_term_58 rfl (lv_at hl 1 rfl) ?_
        obtain ⟨hg7, hf⟩ := gj_g hf
        refine va_iald (D := D) hx hb hK (gq_one (c := 5) (k := 0) hH rfl (gm_c5 cI cZ ad z1.2)) 0 0 rfl rfl hg7 gd_Md_term_59 ?_
        cases hf
        exact W.iret hx hb hr (fun t ht hW => ⟨⟨_, _, rfl, ⟨rfl, rfl⟩, ⟨by rw [ht]; exact hH, va_K.moved hW.alike hK⟩⟩, hS.F ht⟩) hS.2.2 gd_Md_term_60
      replace hf := gj_e c8 hf
      refine lv_tableOut (tgt := 61) hx hb gd_Md_term_15 (by have ec4 := lv_neT (a := 0) c4 rfl; have ec6 := lv_neT (a := 1) c6 rfl; have ec8 := lv_neT (a := 2) c8 rfl; omega) (by decide) ?_
      refine lv_iload_n hx hb gd_Md_term_61 rfl (lv_at hl 2 rfl) ?_
      refine lv_iconst (v := 3) hx hb gd_Md_term_62 (by decide) ?_
      refine lv_isub hx hb gd_Md_term_63 ?_
      refine lv_aload_n hx hb gd_Md_term_64 rfl (lv_at hl 0 rfl) ?_
      refine va_get (D := D) (ci := 4) (C := gR_Md) (T := gT_Md) (N := 16) hx hb hts (fun w h => List.mem_cons_of_mem _ (gl_Md w h)) hown hK (gq_one (c := 0) (k := 0) hH rfl (gm_c0 cI cZ ad z1.2)) 0 rfl rfl 5 (by decide) (ht _ gt_374) (fun _ h9 => h9) rfl gd_Md_term_65 ?_
      refine lv_iload_n hx hb gd_Md_term_68 rfl (lv_at hl 1 rfl) ?_
      obtain ⟨hg9, hf⟩ := gj_g hf
      refine va_iald (D := D) hx hb hK (gq_one (c := 5) (k := 0) hH rfl (gm_c5 cI cZ ad z1.2)) 0 0 rfl rfl hg9 gd_Md_term_69 ?_
      refine lv_icmp_ge (tgt := 89) hx hb gd_Md_term_70 (by decide) (fun c11 => ?_) (fun c11 => ?_)
      · replace hf := gj_t c11 hf
        refine lv_iconst (v := (-1)) hx hb gd_Md_term_89 (by decide) ?_
        cases hf
        exact W.iret hx hb hr (fun t ht hW => ⟨⟨_, _, rfl, ⟨rfl, rfl⟩, ⟨by rw [ht]; exact hH, va_K.moved hW.alike hK⟩⟩, hS.F ht⟩) hS.2.2 gd_Md_term_90
      · replace hf := gj_e c11 hf
        refine lv_aload_n hx hb gd_Md_term_73 rfl (lv_at hl 0 rfl) ?_
        refine va_get (D := D) (ci := 4) (C := gR_Md) (T := gT_Md) (N := 16) hx hb hts (fun w h => List.mem_cons_of_mem _ (gl_Md w h)) hown hK (gq_one (c := 0) (k := 0) hH rfl (gm_c0 cI cZ ad z1.2)) 0 rfl rfl 6 (by decide) (ht _ gt_375) (fun _ h9 => h9) rfl gd_Md_term_74 ?_
        refine lv_bipush (v := 16) hx hb gd_Md_term_77 (by decide) ?_
        refine lv_iload_n hx hb gd_Md_term_79 rfl (lv_at hl 1 rfl) ?_
        refine lv_imul hx hb gd_Md_term_80 ?_
        refine lv_iload_n hx hb gd_Md_term_81 rfl (lv_at hl 2 rfl) ?_
        refine lv_iadd hx hb gd_Md_term_82 ?_
        refine lv_iconst (v := 3) hx hb gd_Md_term_83 (by decide) ?_
        refine lv_isub hx hb gd_Md_term_84 ?_
        obtain ⟨hg10, hf⟩ := gj_g hf
        refine va_iald (D := D) hx hb hK (gq_one (c := 6) (k := 0) hH rfl (gm_c6 cI cZ ad z1.2)) 0 0 rfl rfl hg10 gd_Md_term_85 ?_
        refine lv_goto (tgt := 90) hx hb gd_Md_term_86 (by decide) ?_
        cases hf
        exact W.iret hx hb hr (fun t ht hW => ⟨⟨_, _, rfl, ⟨rfl, rfl⟩, ⟨by rw [ht]; exact hH, va_K.moved hW.alike hK⟩⟩, hS.F ht⟩) hS.2.2 gd_Md_term_90
    · replace hf := gj_e c12 hf
      refine lv_iconst (v := (-1)) hx hb gd_Md_term_12 (by decide) ?_
      cases hf
      exact W.iret hx hb hr (fun t ht hW => ⟨⟨_, _, rfl, ⟨rfl, rfl⟩, ⟨by rw [ht]; exact hH, va_K.moved hW.alike hK⟩⟩, hS.F ht⟩) hS.2.2 gd_Md_term_13
set_option maxHeartbeats 4000000 in
set_option maxRecDepth 100000 in
theorem ct_Md_at (l : Launch) (D : va_G) (cI cZ : ClassId) (ad : Nat → Nat → Nat) (hI : gq_I gm_vd ad) (u : gm_St) (p1 : Int32) (z : Int32 × gm_St) (hf : fn_Md_at p1 u = some z) : Met l gy_Md_at gws_Md_at ({ frames := 1, cells := 0, slots := 0, locals := 22 }) (va_Pc [.ref (ad 0 0), .int p1] (gq_pre D gc_cl (gm_tys cI cZ) gm_vd ad gm_NF gm_NM (gm_pc cI cZ ad u))) (va_Qi (fun r u2 => r = z.1 ∧ u2 = z.2) (fun u2 t => gq_B D gc_cl (gm_tys cI cZ) gm_vd ad (gm_pc cI cZ ad u2) t) (gq_A gm_vd ad)) 0 0 (gq_A gm_vd ad) := by
  refine Met.ofW (cc := gb_Md_at) (maxL := 2) (ret := (some .int)) (by decide) rfl ?_
  intro p e s m args below meth c s₁ B hml hv
  obtain ⟨rfl, hH, hK, hN⟩ := hv
  have hx := B.exec
  have hb := B.bytes
  have hr := B.returns
  have hts := atoms_spec (ws := gws_Md_at) B.pre
  have ht := fun (w : Cond) (h : w ∈ gt_T) => hts w (List.mem_cons_of_mem _ h)
  have hown : s.vm.findClass gR_Md = some m.cls := findClass_of_methodNamed B.named
  have hlocks := B.notSynchronized
  have hA : ∀ q, (gq_A gm_vd ad) q → (gq_A gm_vd ad) q := fun _ h => h
  have hS : va_S (gq_A gm_vd ad) s.heap s.heap [] := va_S.rf
  have hl := lv_entry ([.ref (ad 0 0), .int p1]) (n := 2) (Nat.le_of_ble_eq_true rfl)
  rw [lg_entry_eq]
  generalize (lg_sl ([.ref (ad 0 0), .int p1]) ++ List.replicate (2 - (lg_sl ([.ref (ad 0 0), .int p1])).length) Slot.unset).toArray = ls at hl ⊢
  have hl : lv_has ls 2 [(0, .ref (ad 0 0)), (1, .int p1)] := hl
  unfold fn_Md_at at hf
  refine lv_iload_n hx hb gd_Md_at_0 rfl (lv_at hl 1 rfl) ?_
  refine lv_iconst (v := 0) hx hb gd_Md_at_1 (by decide) ?_
  refine lv_aload_n hx hb gd_Md_at_2 rfl (lv_at hl 0 rfl) ?_
  refine va_get (D := D) (ci := 4) (C := gR_Md) (T := gT_Md) (N := 16) hx hb hts (fun w h => List.mem_cons_of_mem _ (gl_Md w h)) hown hK (gq_one (c := 0) (k := 0) hH rfl (gm_c0 cI cZ ad u)) 0 rfl rfl 7 (by decide) (ht _ gt_376) (fun _ h9 => h9) rfl gd_Md_at_3 ?_
  refine lv_iconst (v := 1) hx hb gd_Md_at_6 (by decide) ?_
  refine lv_isub hx hb gd_Md_at_7 ?_
  obtain ⟨z1, hc2, hf⟩ := Option.bind_eq_some_iff.mp hf
  refine gq_calli (va_runS (As := [.int p1, .int 0, .int ((u.1 12 0) - 1)]) (rest := []) ⟨hx, hb, hml, hown, hts⟩ (ct_Md_in l D cI cZ ad hI u p1 0 ((u.1 12 0) - 1) z1 hc2) (va_cwS 3 hts (gt_S gt_423 gt_424 gt_5 gt_425) rfl rfl rfl (by decide +kernel) ⟨Nat.le_of_ble_eq_true rfl, Nat.le_of_ble_eq_true rfl⟩) (gq_preS hH hK hN) rfl rfl hl.1 rfl (lv_room (Nat.le_of_ble_eq_true rfl)) gd_Md_at_8 ⟨Nat.zero_le _, Nat.zero_le _⟩) hA hS (fun H locs hH hS => ?_)
  refine lv_if_eq (tgt := 23) hx hb gd_Md_at_11 (by decide) (fun c4 => ?_) (fun c4 => ?_)
  · replace hf := gj_t c4 hf
    refine lv_bipush (v := (-2)) hx hb gd_Md_at_23 (by decide) ?_
    cases hf
    exact W.iret hx hb hr (fun t ht hW => ⟨⟨_, _, rfl, ⟨rfl, rfl⟩, ⟨by rw [ht]; exact hH, va_K.moved hW.alike hK⟩⟩, hS.F ht⟩) hS.2.2 gd_Md_at_25
  · replace hf := gj_e c4 hf
    refine lv_aload_n hx hb gd_Md_at_14 rfl (lv_at hl 0 rfl) ?_
    refine va_get (D := D) (ci := 4) (C := gR_Md) (T := gT_Md) (N := 16) hx hb hts (fun w h => List.mem_cons_of_mem _ (gl_Md w h)) hown hK (gq_one (c := 0) (k := 0) hH rfl (gm_c0 cI cZ ad z1.2)) 0 rfl rfl 8 (by decide) (ht _ gt_377) (fun _ h9 => h9) rfl gd_Md_at_15 ?_
    refine lv_iload_n hx hb gd_Md_at_18 rfl (lv_at hl 1 rfl) ?_
    obtain ⟨hg3, hf⟩ := gj_g hf
    refine va_iald (D := D) hx hb hK (gq_one (c := 7) (k := 0) hH rfl (gm_c7 cI cZ ad z1.2)) 0 0 rfl rfl hg3 gd_Md_at_19 ?_
    refine lv_goto (tgt := 25) hx hb gd_Md_at_20 (by decide) ?_
    cases hf
    exact W.iret hx hb hr (fun t ht hW => ⟨⟨_, _, rfl, ⟨rfl, rfl⟩, ⟨by rw [ht]; exact hH, va_K.moved hW.alike hK⟩⟩, hS.F ht⟩) hS.2.2 gd_Md_at_25
set_option maxHeartbeats 4000000 in
set_option maxRecDepth 100000 in
theorem ct_Md_place (l : Launch) (D : va_G) (cI cZ : ClassId) (ad : Nat → Nat → Nat) (hI : gq_I gm_vd ad) (u : gm_St) (p1 : Int32) (z : Int32 × gm_St) (hf : fn_Md_place p1 u = some z) : Met l gy_Md_place gws_Md_place ({ frames := 2, cells := 0, slots := 0, locals := 43 }) (va_Pc [.ref (ad 0 0), .int p1] (gq_pre D gc_cl (gm_tys cI cZ) gm_vd ad gm_NF gm_NM (gm_pc cI cZ ad u))) (va_Qi (fun r u2 => r = z.1 ∧ u2 = z.2) (fun u2 t => gq_B D gc_cl (gm_tys cI cZ) gm_vd ad (gm_pc cI cZ ad u2) t) (gq_A gm_vd ad)) 0 0 (gq_A gm_vd ad) := by
  refine Met.ofW (cc := gb_Md_place) (maxL := 2) (ret := (some .int)) (by decide) rfl ?_
  intro p e s m args below meth c s₁ B hml hv
  obtain ⟨rfl, hH, hK, hN⟩ := hv
  have hx := B.exec
  have hb := B.bytes
  have hr := B.returns
  have hts := atoms_spec (ws := gws_Md_place) B.pre
  have ht := fun (w : Cond) (h : w ∈ gt_T) => hts w (List.mem_cons_of_mem _ h)
  have hown : s.vm.findClass gR_Md = some m.cls := findClass_of_methodNamed B.named
  have hlocks := B.notSynchronized
  have hA : ∀ q, (gq_A gm_vd ad) q → (gq_A gm_vd ad) q := fun _ h => h
  have hS : va_S (gq_A gm_vd ad) s.heap s.heap [] := va_S.rf
  have hl := lv_entry ([.ref (ad 0 0), .int p1]) (n := 2) (Nat.le_of_ble_eq_true rfl)
  rw [lg_entry_eq]
  generalize (lg_sl ([.ref (ad 0 0), .int p1]) ++ List.replicate (2 - (lg_sl ([.ref (ad 0 0), .int p1])).length) Slot.unset).toArray = ls at hl ⊢
  have hl : lv_has ls 2 [(0, .ref (ad 0 0)), (1, .int p1)] := hl
  unfold fn_Md_place at hf
  refine lv_aload_n hx hb gd_Md_place_0 rfl (lv_at hl 0 rfl) ?_
  refine lv_iload_n hx hb gd_Md_place_1 rfl (lv_at hl 1 rfl) ?_
  obtain ⟨z1, hc2, hf⟩ := Option.bind_eq_some_iff.mp hf
  refine gq_calli (va_runV (As := [.int p1]) (rest := []) ⟨hx, hb, hml, hown, hts⟩ (ct_Md_isTerm l D cI cZ ad hI u p1 z1 hc2) (cwV 1 hts (gt_V gt_463 gt_465 (gt_sel (List.mem_of_getElem? (i := 29) rfl)) gt_5 gt_466) rfl rfl rfl (by decide +kernel) ⟨Nat.le_of_ble_eq_true rfl, Nat.le_of_ble_eq_true rfl⟩) (gq_preV hH hK hN (va_recv hK (gq_one (c := 0) (k := 0) hH rfl (gm_c0 cI cZ ad u)) (ci := 4) (q0 := 0) rfl rfl)) rfl rfl hl.1 rfl (lv_room (Nat.le_of_ble_eq_true rfl)) gd_Md_place_2 ⟨Nat.zero_le _, Nat.zero_le _⟩) hA hS (fun H locs hH hS => ?_)
  refine lv_if_eq (tgt := 16) hx hb gd_Md_place_5 (by decide) (fun c5 => ?_) (fun c5 => ?_)
  · replace hf := gj_t c5 hf
    refine lv_iconst (v := (-1)) hx hb gd_Md_place_16 (by decide) ?_
    cases hf
    exact W.iret hx hb hr (fun t ht hW => ⟨⟨_, _, rfl, ⟨rfl, rfl⟩, ⟨by rw [ht]; exact hH, va_K.moved hW.alike hK⟩⟩, hS.F ht⟩) hS.2.2 gd_Md_place_17
  · replace hf := gj_e c5 hf
    refine lv_aload_n hx hb gd_Md_place_8 rfl (lv_at hl 0 rfl) ?_
    refine lv_iload_n hx hb gd_Md_place_9 rfl (lv_at hl 1 rfl) ?_
    obtain ⟨z3, hc4, hf⟩ := Option.bind_eq_some_iff.mp hf
    refine gq_calli (va_runV (As := [.int p1]) (rest := []) ⟨hx, hb, hml, hown, hts⟩ (ct_Md_placeOf l D cI cZ ad hI z1.2 p1 z3 hc4) (cwV 1 hts (gt_V gt_479 gt_481 (gt_sel (List.mem_of_getElem? (i := 33) rfl)) gt_5 gt_482) rfl rfl rfl (by decide +kernel) ⟨Nat.le_of_ble_eq_true rfl, Nat.le_of_ble_eq_true rfl⟩) (gq_preV hH hK hN (va_recv hK (gq_one (c := 0) (k := 0) hH rfl (gm_c0 cI cZ ad z1.2)) (ci := 4) (q0 := 0) rfl rfl)) rfl rfl hl.1 rfl (lv_room (Nat.le_of_ble_eq_true rfl)) gd_Md_place_10 ⟨Nat.zero_le _, Nat.zero_le _⟩) hA hS (fun H locs hH hS => ?_)
    refine lv_goto (tgt := 17) hx hb gd_Md_place_13 (by decide) ?_
    cases hf
    exact W.iret hx hb hr (fun t ht hW => ⟨⟨_, _, rfl, ⟨rfl, rfl⟩, ⟨by rw [ht]; exact hH, va_K.moved hW.alike hK⟩⟩, hS.F ht⟩) hS.2.2 gd_Md_place_17
