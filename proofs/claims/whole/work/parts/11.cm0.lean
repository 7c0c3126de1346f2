set_option maxHeartbeats 4000000 in
set_option maxRecDepth 100000 in
theorem ct_Md_in (l : Launch) (D : va_G) (cI cZ : ClassId) (ad : Nat → Nat → Nat) (hI : gq_I gm_vd ad) (u : gm_St) (p0 : Int32) (p1 : Int32) (p2 : Int32) (z : Int32 × gm_St) (hf : fn_Md_in p0 p1 p2 u = some z) : Met l gy_Md_in gws_Md_in ({ frames := 0, cells := 0, slots := 0, locals := 0 }) (va_Pc [.int p0, .int p1, .int p2] (gq_pre D gc_cl (gm_tys cI cZ) gm_vd ad gm_NF gm_NM (gm_pc cI cZ ad u))) (va_Qi (fun r u2 => r = z.1 ∧ u2 = z.2) (fun u2 t => gq_B D gc_cl (gm_tys cI cZ) gm_vd ad (gm_pc cI cZ ad u2) t) (gq_A gm_vd ad)) 0 0 (gq_A gm_vd ad) := by
  refine Met.ofW (cc := gb_Md_in) (maxL := 3) (ret := (some .boolean)) (by decide) rfl ?_
  intro p e s m args below meth c s₁ B hml hv
  obtain ⟨rfl, hH, hK, hN⟩ := hv
  have hx := B.exec
  have hb := B.bytes
  have hr := B.returns
  have hts := atoms_spec (ws := gws_Md_in) B.pre
  have ht := fun (w : Cond) (h : w ∈ gt_T) => hts w (List.mem_cons_of_mem _ h)
  have hown : s.vm.findClass gR_Md = some m.cls := findClass_of_methodNamed B.named
  have hlocks := B.notSynchronized
  have hA : ∀ q, (gq_A gm_vd ad) q → (gq_A gm_vd ad) q := fun _ h => h
  have hS : va_S (gq_A gm_vd ad) s.heap s.heap [] := va_S.rf
  have hl := lv_entry ([.int p0, .int p1, .int p2]) (n := 3) (Nat.le_of_ble_eq_true rfl)
  rw [lg_entry_eq]
  generalize (lg_sl ([.int p0, .int p1, .int p2]) ++ List.replicate (3 - (lg_sl ([.int p0, .int p1, .int p2])).length) Slot.unset).toArray = ls at hl ⊢
  have hl : lv_has ls 3 [(0, .int p0), (1, .int p1), (2, .int p2)] := hl
  unfold fn_Md_in at hf
  refine lv_iload_n hx hb gd_Md_in_0 rfl (lv_at hl 0 rfl) ?_
  refine lv_iload_n hx hb gd_Md_in_1 rfl (lv_at hl 1 rfl) ?_
  refine lv_icmp_lt (tgt := 14) hx hb gd_Md_in_2 (by decide) (fun c2 => ?_) (fun c2 => ?_)
  · replace hf := gj_t c2 hf
    refine lv_iconst (v := 0) hx hb gd_Md_in_14 (by decide) ?_
    cases hf
    exact W.zret hx hb hr rfl (fun t ht hW => ⟨⟨_, _, rfl, ⟨rfl, rfl⟩, ⟨by rw [ht]; exact hH, va_K.moved hW.alike hK⟩⟩, hS.F ht⟩) hS.2.2 gd_Md_in_15
  · replace hf := gj_e c2 hf
    refine lv_iload_n hx hb gd_Md_in_5 rfl (lv_at hl 0 rfl) ?_
    refine lv_iload_n hx hb gd_Md_in_6 rfl (lv_at hl 2 rfl) ?_
    refine lv_icmp_gt (tgt := 14) hx hb gd_Md_in_7 (by decide) (fun c1 => ?_) (fun c1 => ?_)
    · replace hf := gj_t c1 hf
      refine lv_iconst (v := 0) hx hb gd_Md_in_14 (by decide) ?_
      cases hf
      exact W.zret hx hb hr rfl (fun t ht hW => ⟨⟨_, _, rfl, ⟨rfl, rfl⟩, ⟨by rw [ht]; exact hH, va_K.moved hW.alike hK⟩⟩, hS.F ht⟩) hS.2.2 gd_Md_in_15
    · replace hf := gj_e c1 hf
      refine lv_iconst (v := 1) hx hb gd_Md_in_10 (by decide) ?_
      refine lv_goto (tgt := 15) hx hb gd_Md_in_11 (by decide) ?_
      cases hf
      exact W.zret hx hb hr rfl (fun t ht hW => ⟨⟨_, _, rfl, ⟨rfl, rfl⟩, ⟨by rw [ht]; exact hH, va_K.moved hW.alike hK⟩⟩, hS.F ht⟩) hS.2.2 gd_Md_in_15
set_option maxHeartbeats 4000000 in
set_option maxRecDepth 100000 in
theorem ct_Md_type (l : Launch) (D : va_G) (cI cZ : ClassId) (ad : Nat → Nat → Nat) (hI : gq_I gm_vd ad) (u : gm_St) (p1 : Int64) (p3 : Int32) (z : Int32 × gm_St) (hf : fn_Md_type p1 p3 u = some z) : Met l gy_Md_type gws_Md_type ({ frames := 1, cells := 0, slots := 0, locals := 22 }) (va_Pc [.ref (ad 0 0), .long p1, .int p3] (gq_pre D gc_cl (gm_tys cI cZ) gm_vd ad gm_NF gm_NM (gm_pc cI cZ ad u))) (va_Qi (fun r u2 => r = z.1 ∧ u2 = z.2) (fun u2 t => gq_B D gc_cl (gm_tys cI cZ) gm_vd ad (gm_pc cI cZ ad u2) t) (gq_A gm_vd ad)) 0 0 (gq_A gm_vd ad) := by
  refine Met.ofW (cc := gb_Md_type) (maxL := 6) (ret := (some .int)) (by decide) rfl ?_
  intro p e s m args below meth c s₁ B hml hv
  obtain ⟨rfl, hH, hK, hN⟩ := hv
  have hx := B.exec
  have hb := B.bytes
  have hr := B.returns
  have hts := atoms_spec (ws := gws_Md_type) B.pre
  have ht := fun (w : Cond) (h : w ∈ gt_T) => hts w (List.mem_cons_of_mem _ h)
  have hown : s.vm.findClass gR_Md = some m.cls := findClass_of_methodNamed B.named
  have hlocks := B.notSynchronized
  have hA : ∀ q, (gq_A gm_vd ad) q → (gq_A gm_vd ad) q := fun _ h => h
  have hS : va_S (gq_A gm_vd ad) s.heap s.heap [] := va_S.rf
  have hl := lv_entry ([.ref (ad 0 0), .long p1, .int p3]) (n := 6) (Nat.le_of_ble_eq_true rfl)
  rw [lg_entry_eq]
  generalize (lg_sl ([.ref (ad 0 0), .long p1, .int p3]) ++ List.replicate (6 - (lg_sl ([.ref (ad 0 0), .long p1, .int p3])).length) Slot.unset).toArray = ls at hl ⊢
  have hl : lv_has ls 6 [(0, .ref (ad 0 0)), (1, .long p1), (3, .int p3)] := hl
  have L76 : ∀ (n : Nat) (x1 : Int64) (x3 : Int32) (x4 : Int32) (x5 : Int32) (u : gm_St) (H : Heap) (locs : List Loc) (ls : Array Slot), fn_Md_type_76 n x1 x3 x4 x5 u = some z → gq_H D gc_cl gm_vd ad (gm_pc cI cZ ad u) H → va_S (gq_A gm_vd ad) s.heap H locs → lv_has ls 6 [(0, .ref (ad 0 0)), (1, .long x1), (3, .int x3), (4, .int x4), (5, .int x5)] → W p l e (headSpec gws_Md_type ({ frames := 1, cells := 0, slots := 0, locals := 22 })).room s m ([.ref (ad 0 0), .long p1, .int p3] : List Value).toArray below meth c H locs 0 0 (MQ below (va_Qi (fun r u2 => r = z.1 ∧ u2 = z.2) (fun u2 t => gq_B D gc_cl (gm_tys cI cZ) gm_vd ad (gm_pc cI cZ ad u2) t) (gq_A gm_vd ad)) ([.ref (ad 0 0), .long p1, .int p3] : List Value).toArray s 0 0 (gq_A gm_vd ad)) (F0 m 76 ls []) := by
    intro n
    induction n with
    | zero =>
      intro x1 x3 x4 x5 u H locs ls hf
      have h0 : none = some z := hf
      cases h0
    | succ n ih =>
      intro x1 x3 x4 x5 u H locs ls hf hH hS hl
      rw [fn_Md_type_76] at hf
      refine lv_iload hx hb gd_Md_type_76 (lv_at hl 4 rfl) ?_
      refine lv_if_lt (tgt := 118) hx hb gd_Md_type_78 (by decide) (fun c4 => ?_) (fun c4 => ?_)
      · replace hf := gj_t c4 hf
        refine lv_aload_n hx hb gd_Md_type_118 rfl (lv_at hl 0 rfl) ?_
        refine va_get (D := D) (ci := 4) (C := gR_Md) (T := gT_Md) (N := 16) hx hb hts (fun w h => List.mem_cons_of_mem _ (gl_Md w h)) hown hK (gq_one (c := 0) (k := 0) hH rfl (gm_c0 cI cZ ad u)) 0 rfl rfl 0 (by decide) (ht _ gt_369) (fun _ h9 => h9) rfl gd_Md_type_119 ?_
        cases hf
        exact W.iret hx hb hr (fun t ht hW => ⟨⟨_, _, rfl, ⟨rfl, rfl⟩, ⟨by rw [ht]; exact hH, va_K.moved hW.alike hK⟩⟩, hS.F ht⟩) hS.2.2 gd_Md_type_122
      · replace hf := gj_e c4 hf
        refine lv_aload_n hx hb gd_Md_type_81 rfl (lv_at hl 0 rfl) ?_
        refine va_get (D := D) (ci := 4) (C := gR_Md) (T := gT_Md) (N := 16) hx hb hts (fun w h => List.mem_cons_of_mem _ (gl_Md w h)) hown hK (gq_one (c := 0) (k := 0) hH rfl (gm_c0 cI cZ ad u)) 0 rfl rfl 1 (by decide) (ht _ gt_370) (fun _ h9 => h9) rfl gd_Md_type_82 ?_
        refine lv_aload_n hx hb gd_Md_type_85 rfl (lv_at hl 0 rfl) ?_
        refine va_get (D := D) (ci := 4) (C := gR_Md) (T := gT_Md) (N := 16) hx hb hts (fun w h => List.mem_cons_of_mem _ (gl_Md w h)) hown hK (gq_one (c := 0) (k := 0) hH rfl (gm_c0 cI cZ ad u)) 0 rfl rfl 0 (by decide) (ht _ gt_369) (fun _ h9 => h9) rfl gd_Md_type_86 ?_
        refine lv_lload_n hx hb gd_Md_type_89 rfl (lv_at hl 1 rfl) ?_
        refine lv_bipush (v := 8) hx hb gd_Md_type_90 (by decide) ?_
        refine lv_iload hx hb gd_Md_type_92 (lv_at hl 4 rfl) ?_
        refine lv_imul hx hb gd_Md_type_94 ?_
        refine lv_lshr (v := gj_lshr x1 (8 * x5)) hx hb gd_Md_type_95 rfl ?_
        refine lv_ldc2 (v := 255) hx hb hown (ht _ gt_426) gd_Md_type_96 ?_
        refine lv_land hx hb gd_Md_type_99 ?_
        refine lv_l2i hx hb gd_Md_type_100 rfl ?_
        obtain ⟨hg3, hf⟩ := gj_g hf
        refine gq_iast (D := D) (ca := 1) (ka := 0) (pp' := gm_pc cI cZ ad (gm_sI u 1 (Int32.toNatClampNeg (u.1 0 0)) (Int64.toInt32 ((gj_lshr x1 (8 * x5)) &&& 255)))) hx hb hK hH hI hA rfl (gm_c1 cI cZ ad u) 0 rfl hg3 (gm_w1 cI cZ ad u (Int32.toNatClampNeg (u.1 0 0)) (Int64.toInt32 ((gj_lshr x1 (8 * x5)) &&& 255))) (gm_o1 cI cZ ad u (Int32.toNatClampNeg (u.1 0 0)) (Int64.toInt32 ((gj_lshr x1 (8 * x5)) &&& 255))) hS gd_Md_type_101 (fun H locs hH hS => ?_)
        refine lv_aload_n hx hb gd_Md_type_102 rfl (lv_at hl 0 rfl) ?_
        refine lv_dup hx hb gd_Md_type_103 rfl ?_
        refine va_get (D := D) (ci := 4) (C := gR_Md) (T := gT_Md) (N := 16) hx hb hts (fun w h => List.mem_cons_of_mem _ (gl_Md w h)) hown hK (gq_one (c := 0) (k := 0) hH rfl (gm_c0 cI cZ ad (gm_sI u 1 (Int32.toNatClampNeg (u.1 0 0)) (Int64.toInt32 ((gj_lshr x1 (8 * x5)) &&& 255))))) 0 rfl rfl 0 (by decide) (ht _ gt_369) (fun _ h9 => h9) rfl gd_Md_type_104 ?_
        refine lv_iconst (v := 1) hx hb gd_Md_type_107 (by decide) ?_
        refine lv_iadd hx hb gd_Md_type_108 ?_
        refine gq_put (D := D) (ci := 4) (C := gR_Md) (T := gT_Md) (N := 16) (ca := 0) (ka := 0) (pp' := gm_pc cI cZ ad (gm_sI (gm_sI u 1 (Int32.toNatClampNeg (u.1 0 0)) (Int64.toInt32 ((gj_lshr x1 (8 * x5)) &&& 255))) 0 0 (((gm_sI u 1 (Int32.toNatClampNeg (u.1 0 0)) (Int64.toInt32 ((gj_lshr x1 (8 * x5)) &&& 255))).1 0 0) + 1))) (ty := .int) hx hb hts (fun w h => List.mem_cons_of_mem _ (gl_Md w h)) gF_Md gf_Md gn_Md hown hK hH hI hA rfl (gm_c0 cI cZ ad (gm_sI u 1 (Int32.toNatClampNeg (u.1 0 0)) (Int64.toInt32 ((gj_lshr x1 (8 * x5)) &&& 255)))) rfl 0 (by decide) (ht _ gt_369) (fun _ h9 => h9) rfl (by decide +kernel) rfl rfl (Nat.le_of_ble_eq_true rfl) (gm_w0 cI cZ ad (gm_sI u 1 (Int32.toNatClampNeg (u.1 0 0)) (Int64.toInt32 ((gj_lshr x1 (8 * x5)) &&& 255))) (((gm_sI u 1 (Int32.toNatClampNeg (u.1 0 0)) (Int64.toInt32 ((gj_lshr x1 (8 * x5)) &&& 255))).1 0 0) + 1)) (gm_o0 cI cZ ad (gm_sI u 1 (Int32.toNatClampNeg (u.1 0 0)) (Int64.toInt32 ((gj_lshr x1 (8 * x5)) &&& 255))) (((gm_sI u 1 (Int32.toNatClampNeg (u.1 0 0)) (Int64.toInt32 ((gj_lshr x1 (8 * x5)) &&& 255))).1 0 0) + 1)) hS gd_Md_type_109 (fun H locs hH hS => ?_)
        refine lv_iinc (v := x5 + (-1)) (lv' := [(5, .int (x5 + (-1))), (0, .ref (ad 0 0)), (1, .long x1), (3, .int x3), (4, .int x4)]) hx hb gd_Md_type_112 hl (k := 4) rfl rfl (by decide) rfl (fun ls hl => ?_)
        refine lv_goto (tgt := 76) hx hb gd_Md_type_115 (by decide) ?_
        exact ih x1 x3 x4 (x5 + (-1)) (gm_sI (gm_sI u 1 (Int32.toNatClampNeg (u.1 0 0)) (Int64.toInt32 ((gj_lshr x1 (8 * x5)) &&& 255))) 0 0 (((gm_sI u 1 (Int32.toNatClampNeg (u.1 0 0)) (Int64.toInt32 ((gj_lshr x1 (8 * x5)) &&& 255))).1 0 0) + 1)) _ _ _ hf hH hS (lv_sub hl [1, 2, 3, 4, 0] rfl)
  have L12 : ∀ (n : Nat) (x1 : Int64) (x3 : Int32) (x4 : Int32) (x5 : Int32) (u : gm_St) (H : Heap) (locs : List Loc) (ls : Array Slot), fn_Md_type_12 n x1 x3 x4 x5 u = some z → gq_H D gc_cl gm_vd ad (gm_pc cI cZ ad u) H → va_S (gq_A gm_vd ad) s.heap H locs → lv_has ls 6 [(0, .ref (ad 0 0)), (1, .long x1), (3, .int x3), (4, .int x4), (5, .int x5)] → W p l e (headSpec gws_Md_type ({ frames := 1, cells := 0, slots := 0, locals := 22 })).room s m ([.ref (ad 0 0), .long p1, .int p3] : List Value).toArray below meth c H locs 0 0 (MQ below (va_Qi (fun r u2 => r = z.1 ∧ u2 = z.2) (fun u2 t => gq_B D gc_cl (gm_tys cI cZ) gm_vd ad (gm_pc cI cZ ad u2) t) (gq_A gm_vd ad)) ([.ref (ad 0 0), .long p1, .int p3] : List Value).toArray s 0 0 (gq_A gm_vd ad)) (F0 m 12 ls []) := by
    intro n
    induction n with
    | zero =>
      intro x1 x3 x4 x5 u H locs ls hf
      have h0 : none = some z := hf
      cases h0
    | succ n ih =>
      intro x1 x3 x4 x5 u H locs ls hf hH hS hl
      rw [fn_Md_type_12] at hf
      refine lv_iload hx hb gd_Md_type_12 (lv_at hl 4 rfl) ?_
      refine lv_iload_n hx hb gd_Md_type_14 rfl (lv_at hl 2 rfl) ?_
      refine lv_icmp_ge (tgt := 50) hx hb gd_Md_type_15 (by decide) (fun c12 => ?_) (fun c12 => ?_)
      · replace hf := gj_t c12 hf
        refine lv_iload hx hb gd_Md_type_50 (lv_at hl 3 rfl) ?_
        refine lv_if_ne (tgt := 57) hx hb gd_Md_type_52 (by decide) (fun c6 => ?_) (fun c6 => ?_)
        · replace hf := gj_e c6 hf
          refine lv_aload_n hx hb gd_Md_type_57 rfl (lv_at hl 0 rfl) ?_
          refine va_get (D := D) (ci := 4) (C := gR_Md) (T := gT_Md) (N := 16) hx hb hts (fun w h => List.mem_cons_of_mem _ (gl_Md w h)) hown hK (gq_one (c := 0) (k := 0) hH rfl (gm_c0 cI cZ ad u)) 0 rfl rfl 0 (by decide) (ht _ gt_369) (fun _ h9 => h9) rfl gd_Md_type_58 ?_
          refine lv_iload_n hx hb gd_Md_type_61 rfl (lv_at hl 2 rfl) ?_
          refine lv_iadd hx hb gd_Md_type_62 ?_
          refine lv_bipush (v := 16) hx hb gd_Md_type_63 (by decide) ?_
          refine lv_icmp_le (tgt := 71) hx hb gd_Md_type_65 (by decide) (fun c5 => ?_) (fun c5 => ?_)
          · replace hf := gj_t c5 hf
            refine lv_iload_n hx hb gd_Md_type_71 rfl (lv_at hl 2 rfl) ?_
            refine lv_iconst (v := 1) hx hb gd_Md_type_72 (by decide) ?_
            refine lv_isub hx hb gd_Md_type_73 ?_
            refine lv_istore (lv' := [(5, .int (x3 - 1)), (0, .ref (ad 0 0)), (1, .long x1), (3, .int x3), (4, .int x4)]) hx hb gd_Md_type_74 hl (by decide) rfl (fun ls hl => ?_)
            exact L76 gm_fu x1 x3 x4 (x3 - 1) u _ _ _ hf hH hS (lv_sub hl [1, 2, 3, 4, 0] rfl)
          · replace hf := gj_e c5 hf
            refine lv_bipush (v := (-3)) hx hb gd_Md_type_68 (by decide) ?_
            cases hf
            exact W.iret hx hb hr (fun t ht hW => ⟨⟨_, _, rfl, ⟨rfl, rfl⟩, ⟨by rw [ht]; exact hH, va_K.moved hW.alike hK⟩⟩, hS.F ht⟩) hS.2.2 gd_Md_type_70
        · replace hf := gj_t c6 hf
          refine lv_iconst (v := (-1)) hx hb gd_Md_type_55 (by decide) ?_
          cases hf
          exact W.iret hx hb hr (fun t ht hW => ⟨⟨_, _, rfl, ⟨rfl, rfl⟩, ⟨by rw [ht]; exact hH, va_K.moved hW.alike hK⟩⟩, hS.F ht⟩) hS.2.2 gd_Md_type_56
      · replace hf := gj_e c12 hf
        refine lv_iload hx hb gd_Md_type_18 (lv_at hl 3 rfl) ?_
        refine lv_if_eq (tgt := 50) hx hb gd_Md_type_20 (by decide) (fun c11 => ?_) (fun c11 => ?_)
        · replace hf := gj_t c11 hf
          refine lv_iload hx hb gd_Md_type_50 (lv_at hl 3 rfl) ?_
          refine lv_if_ne (tgt := 57) hx hb gd_Md_type_52 (by decide) (fun c8 => ?_) (fun c8 => ?_)
          · replace hf := gj_e c8 hf
            refine lv_aload_n hx hb gd_Md_type_57 rfl (lv_at hl 0 rfl) ?_
            refine va_get (D := D) (ci := 4) (C := gR_Md) (T := gT_Md) (N := 16) hx hb hts (fun w h => List.mem_cons_of_mem _ (gl_Md w h)) hown hK (gq_one (c := 0) (k := 0) hH rfl (gm_c0 cI cZ ad u)) 0 rfl rfl 0 (by decide) (ht _ gt_369) (fun _ h9 => h9) rfl gd_Md_type_58 ?_
            refine lv_iload_n hx hb gd_Md_type_61 rfl (lv_at hl 2 rfl) ?_
            refine lv_iadd hx hb gd_Md_type_62 ?_
            refine lv_bipush (v := 16) hx hb gd_Md_type_63 (by decide) ?_
            refine lv_icmp_le (tgt := 71) hx hb gd_Md_type_65 (by decide) (fun c7 => ?_) (fun c7 => ?_)
            · replace hf := gj_t c7 hf
              refine lv_iload_n hx hb gd_Md_type_71 rfl (lv_at hl 2 rfl) ?_
              refine lv_iconst (v := 1) hx hb gd_Md_type_72 (by decide) ?_
              refine lv_isub hx hb gd_Md_type_73 ?_
              refine lv_istore (lv' := [(5, .int (x3 - 1)), (0, .ref (ad 0 0)), (1, .long x1), (3, .int x3), (4, .int x4)]) hx hb gd_Md_type_74 hl (by decide) rfl (fun ls hl => ?_)
              exact L76 gm_fu x1 x3 x4 (x3 - 1) u _ _ _ hf hH hS (lv_sub hl [1, 2, 3, 4, 0] rfl)
            · replace hf := gj_e c7 hf
              refine lv_bipush (v := (-3)) hx hb gd_Md_type_68 (by decide) ?_
              cases hf
              exact W.iret hx hb hr (fun t ht hW => ⟨⟨_, _, rfl, ⟨rfl, rfl⟩, ⟨by rw [ht]; exact hH, va_K.moved hW.alike hK⟩⟩, hS.F ht⟩) hS.2.2 gd_Md_type_70
          · replace hf := gj_t c8 hf
            refine lv_iconst (v := (-1)) hx hb gd_Md_type_55 (by decide) ?_
            cases hf
            exact W.iret hx hb hr (fun t ht hW => ⟨⟨_, _, rfl, ⟨rfl, rfl⟩, ⟨by rw [ht]; exact hH, va_K.moved hW.alike hK⟩⟩, hS.F ht⟩) hS.2.2 gd_Md_type_56
        · replace hf := gj_e c11 hf
          refine lv_lload_n hx hb gd_Md_type_23 rfl (lv_at hl 1 rfl) ?_
          refine lv_bipush (v := 8) hx hb gd_Md_type_24 (by decide) ?_
          refine lv_iload hx hb gd_Md_type_26 (lv_at hl 4 rfl) ?_
          refine lv_imul hx hb gd_Md_type_28 ?_
          refine lv_lshr (v := gj_lshr x1 (8 * x5)) hx hb gd_Md_type_29 rfl ?_
          refine lv_ldc2 (v := 255) hx hb hown (ht _ gt_426) gd_Md_type_30 ?_
          refine lv_land hx hb gd_Md_type_33 ?_
          refine lv_l2i hx hb gd_Md_type_34 rfl ?_
          refine lv_bipush (v := 33) hx hb gd_Md_type_35 (by decide) ?_
          refine lv_bipush (v := 126) hx hb gd_Md_type_37 (by decide) ?_
          obtain ⟨z9, hc10, hf⟩ := Option.bind_eq_some_iff.mp hf
          refine gq_calli (va_runS (As := [.int (Int64.toInt32 ((gj_lshr x1 (8 * x5)) &&& 255)), .int 33, .int 126]) (rest := []) ⟨hx, hb, hml, hown, hts⟩ (ct_Md_in l D cI cZ ad hI u (Int64.toInt32 ((gj_lshr x1 (8 * x5)) &&& 255)) 33 126 z9 hc10) (va_cwS 3 hts (gt_S gt_423 gt_424 gt_5 gt_425) rfl rfl rfl (by decide +kernel) ⟨Nat.le_of_ble_eq_true rfl, Nat.le_of_ble_eq_true rfl⟩) (gq_preS hH hK hN) rfl rfl hl.1 rfl (lv_room (Nat.le_of_ble_eq_true rfl)) gd_Md_type_39 ⟨Nat.zero_le _, Nat.zero_le _⟩) hA hS (fun H locs hH hS => ?_)
          refine lv_istore (lv' := [(4, .int z9.1), (0, .ref (ad 0 0)), (1, .long x1), (3, .int x3), (5, .int x5)]) hx hb gd_Md_type_42 hl (by decide) rfl (fun ls hl => ?_)
          refine lv_iinc (v := x5 + 1) (lv' := [(5, .int (x5 + 1)), (4, .int z9.1), (0, .ref (ad 0 0)), (1, .long x1), (3, .int x3)]) hx hb gd_Md_type_44 hl (k := 4) rfl rfl (by decide) rfl (fun ls hl => ?_)
          refine lv_goto (tgt := 12) hx hb gd_Md_type_47 (by decide) ?_
          exact ih x1 x3 z9.1 (x5 + 1) z9.2 _ _ _ hf hH hS (lv_sub hl [2, 3, 4, 1, 0] rfl)
  unfold fn_Md_type at hf
  refine lv_iload_n hx hb gd_Md_type_0 rfl (lv_at hl 2 rfl) ?_
  refine lv_iconst (v := 1) hx hb gd_Md_type_1 (by decide) ?_
  refine lv_bipush (v := 8) hx hb gd_Md_type_2 (by decide) ?_
  obtain ⟨z1, hc2, hf⟩ := Option.bind_eq_some_iff.mp hf
  refine gq_calli (va_runS (As := [.int p3, .int 1, .int 8]) (rest := []) ⟨hx, hb, hml, hown, hts⟩ (ct_Md_in l D cI cZ ad hI u p3 1 8 z1 hc2) (va_cwS 3 hts (gt_S gt_423 gt_424 gt_5 gt_425) rfl rfl rfl (by decide +kernel) ⟨Nat.le_of_ble_eq_true rfl, Nat.le_of_ble_eq_true rfl⟩) (gq_preS hH hK hN) rfl rfl hl.1 rfl (lv_room (Nat.le_of_ble_eq_true rfl)) gd_Md_type_4 ⟨Nat.zero_le _, Nat.zero_le _⟩) hA hS (fun H locs hH hS => ?_)
  refine lv_istore (lv' := [(4, .int z1.1), (0, .ref (ad 0 0)), (1, .long p1), (3, .int p3)]) hx hb gd_Md_type_7 hl (by decide) rfl (fun ls hl => ?_)
  refine lv_iconst (v := 0) hx hb gd_Md_type_9 (by decide) ?_
  refine lv_istore (lv' := [(5, .int 0), (4, .int z1.1), (0, .ref (ad 0 0)), (1, .long p1), (3, .int p3)]) hx hb gd_Md_type_10 hl (by decide) rfl (fun ls hl => ?_)
  exact L12 gm_fu p1 p3 z1.1 0 z1.2 _ _ _ hf hH hS (lv_sub hl [2, 3, 4, 1, 0] rfl)
set_option maxHeartbeats 4000000 in
set_option maxRecDepth 100000 in
theorem ct_Md_clear (l : Launch) (D : va_G) (cI cZ : ClassId) (ad : Nat → Nat → Nat) (hI : gq_I gm_vd ad) (u : gm_St)  (z : Int32 × gm_St) (hf : fn_Md_clear u = some z) : Met l gy_Md_clear gws_Md_clear ({ frames := 0, cells := 0, slots := 0, locals := 0 }) (va_Pc [.ref (ad 0 0)] (gq_pre D gc_cl (gm_tys cI cZ) gm_vd ad gm_NF gm_NM (gm_pc cI cZ ad u))) (va_Qi (fun r u2 => r = z.1 ∧ u2 = z.2) (fun u2 t => gq_B D gc_cl (gm_tys cI cZ) gm_vd ad (gm_pc cI cZ ad u2) t) (gq_A gm_vd ad)) 0 0 (gq_A gm_vd ad) := by
  refine Met.ofW (cc := gb_Md_clear) (maxL := 2) (ret := (some .int)) (by decide) rfl ?_
  intro p e s m args below meth c s₁ B hml hv
  obtain ⟨rfl, hH, hK, hN⟩ := hv
  have hx := B.exec
  have hb := B.bytes
  have hr := B.returns
  have hts := atoms_spec (ws := gws_Md_clear) B.pre
  have ht := fun (w : Cond) (h : w ∈ gt_T) => hts w (List.mem_cons_of_mem _ h)
  have hown : s.vm.findClass gR_Md = some m.cls := findClass_of_methodNamed B.named
  have hlocks := B.notSynchronized
  have hA : ∀ q, (gq_A gm_vd ad) q → (gq_A gm_vd ad) q := fun _ h => h
  have hS : va_S (gq_A gm_vd ad) s.heap s.heap [] := va_S.rf
  have hl := lv_entry ([.ref (ad 0 0)]) (n := 2) (Nat.le_of_ble_eq_true rfl)
  rw [lg_entry_eq]
  generalize (lg_sl ([.ref (ad 0 0)]) ++ List.replicate (2 - (lg_sl ([.ref (ad 0 0)])).length) Slot.unset).toArray = ls at hl ⊢
  have hl : lv_has ls 2 [(0, .ref (ad 0 0))] := hl
  unfold fn_Md_clear at hf
  refine lv_aload_n hx hb gd_Md_clear_0 rfl (lv_at hl 0 rfl) ?_
  refine va_get (D := D) (ci := 4) (C := gR_Md) (T := gT_Md) (N := 16) hx hb hts (fun w h => List.mem_cons_of_mem _ (gl_Md w h)) hown hK (gq_one (c := 0) (k := 0) hH rfl (gm_c0 cI cZ ad u)) 0 rfl rfl 0 (by decide) (ht _ gt_369) (fun _ h9 => h9) rfl gd_Md_clear_1 ?_
  refine lv_istore_n (lv' := [(1, .int (u.1 0 0)), (0, .ref (ad 0 0))]) hx hb gd_Md_clear_4 rfl hl (by decide) rfl (fun ls hl => ?_)
  refine lv_aload_n hx hb gd_Md_clear_5 rfl (lv_at hl 1 rfl) ?_
  refine lv_iconst (v := 0) hx hb gd_Md_clear_6 (by decide) ?_
  refine gq_put (D := D) (ci := 4) (C := gR_Md) (T := gT_Md) (N := 16) (ca := 0) (ka := 0) (pp' := gm_pc cI cZ ad (gm_sI u 0 0 0)) (ty := .int) hx hb hts (fun w h => List.mem_cons_of_mem _ (gl_Md w h)) gF_Md gf_Md gn_Md hown hK hH hI hA rfl (gm_c0 cI cZ ad u) rfl 0 (by decide) (ht _ gt_369) (fun _ h9 => h9) rfl (by decide +kernel) rfl rfl (Nat.le_of_ble_eq_true rfl) (gm_w0 cI cZ ad u 0) (gm_o0 cI cZ ad u 0) hS gd_Md_clear_7 (fun H locs hH hS => ?_)
  refine lv_iload_n hx hb gd_Md_clear_10 rfl (lv_at hl 0 rfl) ?_
  cases hf
  exact W.iret hx hb hr (fun t ht hW => ⟨⟨_, _, rfl, ⟨rfl, rfl⟩, ⟨by rw [ht]; exact hH, va_K.moved hW.alike hK⟩⟩, hS.F ht⟩) hS.2.2 gd_Md_clear_11
set_option maxHeartbeats 4000000 in
set_option maxRecDepth 100000 in
theorem ct_Md_against (l : Launch) (D : va_G) (cI cZ : ClassId) (ad : Nat → Nat → Nat) (hI : gq_I gm_vd ad) (u : gm_St) (p1 : Int32) (p2 : Int32) (z : Int32 × gm_St) (hf : fn_Md_against p1 p2 u = some z) : Met l gy_Md_against gws_Md_against ({ frames := 0, cells := 0, slots := 0, locals := 0 }) (va_Pc [.ref (ad 0 0), .int p1, .int p2] (gq_pre D gc_cl (gm_tys cI cZ) gm_vd ad gm_NF gm_NM (gm_pc cI cZ ad u))) (va_Qi (fun r u2 => r = z.1 ∧ u2 = z.2) (fun u2 t => gq_B D gc_cl (gm_tys cI cZ) gm_vd ad (gm_pc cI cZ ad u2) t) (gq_A gm_vd ad)) 0 0 (gq_A gm_vd ad) := by
  refine Met.ofW (cc := gb_Md_against) (maxL := 5) (ret := (some .int)) (by decide) rfl ?_
  intro p e s m args below meth c s₁ B hml hv
  obtain ⟨rfl, hH, hK, hN⟩ := hv
  have hx := B.exec
  have hb := B.bytes
  have hr := B.returns
  have hts := atoms_spec (ws := gws_Md_against) B.pre
  have ht := fun (w : Cond) (h : w ∈ gt_T) => hts w (List.mem_cons_of_mem _ h)
  have hown : s.vm.findClass gR_Md = some m.cls := findClass_of_methodNamed B.named
  have hlocks := B.notSynchronized
  have hA : ∀ q, (gq_A gm_vd ad) q → (gq_A gm_vd ad) q := fun _ h => h
  have hS : va_S (gq_A gm_vd ad) s.heap s.heap [] := va_S.rf
  have hl := lv_entry ([.ref (ad 0 0), .int p1, .int p2]) (n := 5) (Nat.le_of_ble_eq_true rfl)
  rw [lg_entry_eq]
  generalize (lg_sl ([.ref (ad 0 0), .int p1, .int p2]) ++ List.replicate (5 - (lg_sl ([.ref (ad 0 0), .int p1, .int p2])).length) Slot.unset).toArray = ls at hl ⊢
  have hl : lv_has ls 5 [(0, .ref (ad 0 0)), (1, .int p1), (2, .int p2)] := hl
  have L21 : ∀ (n : Nat) (x1 : Int32) (x2 : Int32) (x3 : Int32) (u : gm_St) (H : Heap) (locs : List Loc) (ls : Array Slot), fn_Md_against_21 n x1 x2 x3 u = some z → gq_H D gc_cl gm_vd ad (gm_pc cI cZ ad u) H → va_S (gq_A gm_vd ad) s.heap H locs → lv_has ls 5 [(0, .ref (ad 0 0)), (1, .int x1), (2, .int x2), (3, .int x3)] → W p l e (headSpec gws_Md_against ({ frames := 0, cells := 0, slots := 0, locals := 0 })).room s m ([.ref (ad 0 0), .int p1, .int p2] : List Value).toArray below meth c H locs 0 0 (MQ below (va_Qi (fun r u2 => r = z.1 ∧ u2 = z.2) (fun u2 t => gq_B D gc_cl (gm_tys cI cZ) gm_vd ad (gm_pc cI cZ ad u2) t) (gq_A gm_vd ad)) ([.ref (ad 0 0), .int p1, .int p2] : List Value).toArray s 0 0 (gq_A gm_vd ad)) (F0 m 21 ls []) := by
    intro n
    induction n with
    | zero =>
      intro x1 x2 x3 u H locs ls hf
      have h0 : none = some z := hf
      cases h0
    | succ n ih =>
      intro x1 x2 x3 u H locs ls hf hH hS hl
      rw [fn_Md_against_21] at hf
      refine lv_iload_n hx hb gd_Md_against_21 rfl (lv_at hl 3 rfl) ?_
      refine lv_aload_n hx hb gd_Md_against_22 rfl (lv_at hl 0 rfl) ?_
      refine va_get (D := D) (ci := 4) (C := gR_Md) (T := gT_Md) (N := 16) hx hb hts (fun w h => List.mem_cons_of_mem _ (gl_Md w h)) hown hK (gq_one (c := 0) (k := 0) hH rfl (gm_c0 cI cZ ad u)) 0 rfl rfl 5 (by decide) (ht _ gt_374) (fun _ h9 => h9) rfl gd_Md_against_23 ?_
      refine lv_iload_n hx hb gd_Md_against_26 rfl (lv_at hl 1 rfl) ?_
      obtain ⟨hg2, hf⟩ := gj_g hf
      refine va_iald (D := D) hx hb hK (gq_one (c := 5) (k := 0) hH rfl (gm_c5 cI cZ ad u)) 0 0 rfl rfl hg2 gd_Md_against_27 ?_
      refine lv_icmp_ge (tgt := 73) hx hb gd_Md_against_28 (by decide) (fun c9 => ?_) (fun c9 => ?_)
      · replace hf := gj_t c9 hf
        refine lv_aload_n hx hb gd_Md_against_73 rfl (lv_at hl 0 rfl) ?_
        refine va_get (D := D) (ci := 4) (C := gR_Md) (T := gT_Md) (N := 16) hx hb hts (fun w h => List.mem_cons_of_mem _ (gl_Md w h)) hown hK (gq_one (c := 0) (k := 0) hH rfl (gm_c0 cI cZ ad u)) 0 rfl rfl 5 (by decide) (ht _ gt_374) (fun _ h9 => h9) rfl gd_Md_against_74 ?_
        refine lv_iload_n hx hb gd_Md_against_77 rfl (lv_at hl 1 rfl) ?_
        obtain ⟨hg3, hf⟩ := gj_g hf
        refine va_iald (D := D) hx hb hK (gq_one (c := 5) (k := 0) hH rfl (gm_c5 cI cZ ad u)) 0 0 rfl rfl hg3 gd_Md_against_78 ?_
        refine lv_aload_n hx hb gd_Md_against_79 rfl (lv_at hl 0 rfl) ?_
        refine va_get (D := D) (ci := 4) (C := gR_Md) (T := gT_Md) (N := 16) hx hb hts (fun w h => List.mem_cons_of_mem _ (gl_Md w h)) hown hK (gq_one (c := 0) (k := 0) hH rfl (gm_c0 cI cZ ad u)) 0 rfl rfl 0 (by decide) (ht _ gt_369) (fun _ h9 => h9) rfl gd_Md_against_80 ?_
        refine lv_isub hx hb gd_Md_against_83 ?_
        cases hf
        exact W.iret hx hb hr (fun t ht hW => ⟨⟨_, _, rfl, ⟨rfl, rfl⟩, ⟨by rw [ht]; exact hH, va_K.moved hW.alike hK⟩⟩, hS.F ht⟩) hS.2.2 gd_Md_against_84
      · replace hf := gj_e c9 hf
        refine lv_iload_n hx hb gd_Md_against_31 rfl (lv_at hl 3 rfl) ?_
        refine lv_aload_n hx hb gd_Md_against_32 rfl (lv_at hl 0 rfl) ?_
        refine va_get (D := D) (ci := 4) (C := gR_Md) (T := gT_Md) (N := 16) hx hb hts (fun w h => List.mem_cons_of_mem _ (gl_Md w h)) hown hK (gq_one (c := 0) (k := 0) hH rfl (gm_c0 cI cZ ad u)) 0 rfl rfl 0 (by decide) (ht _ gt_369) (fun _ h9 => h9) rfl gd_Md_against_33 ?_
        refine lv_icmp_ge (tgt := 73) hx hb gd_Md_against_36 (by decide) (fun c8 => ?_) (fun c8 => ?_)
        · replace hf := gj_t c8 hf
          refine lv_aload_n hx hb gd_Md_against_73 rfl (lv_at hl 0 rfl) ?_
          refine va_get (D := D) (ci := 4) (C := gR_Md) (T := gT_Md) (N := 16) hx hb hts (fun w h => List.mem_cons_of_mem _ (gl_Md w h)) hown hK (gq_one (c := 0) (k := 0) hH rfl (gm_c0 cI cZ ad u)) 0 rfl rfl 5 (by decide) (ht _ gt_374) (fun _ h9 => h9) rfl gd_Md_against_74 ?_
          refine lv_iload_n hx hb gd_Md_against_77 rfl (lv_at hl 1 rfl) ?_
          obtain ⟨hg4, hf⟩ := gj_g hf
          refine va_iald (D := D) hx hb hK (gq_one (c := 5) (k := 0) hH rfl (gm_c5 cI cZ ad u)) 0 0 rfl rfl hg4 gd_Md_against_78 ?_
          refine lv_aload_n hx hb gd_Md_against_79 rfl (lv_at hl 0 rfl) ?_
          refine va_get (D := D) (ci := 4) (C := gR_Md) (T := gT_Md) (N := 16) hx hb hts (fun w h => List.mem_cons_of_mem _ (gl_Md w h)) hown hK (gq_one (c := 0) (k := 0) hH rfl (gm_c0 cI cZ ad u)) 0 rfl rfl 0 (by decide) (ht _ gt_369) (fun _ h9 => h9) rfl gd_Md_against_80 ?_
          refine lv_isub hx hb gd_Md_against_83 ?_
          cases hf
          exact W.iret hx hb hr (fun t ht hW => ⟨⟨_, _, rfl, ⟨rfl, rfl⟩, ⟨by rw [ht]; exact hH, va_K.moved hW.alike hK⟩⟩, hS.F ht⟩) hS.2.2 gd_Md_against_84
        · replace hf := gj_e c8 hf
          refine lv_aload_n hx hb gd_Md_against_39 rfl (lv_at hl 0 rfl) ?_
          refine va_get (D := D) (ci := 4) (C := gR_Md) (T := gT_Md) (N := 16) hx hb hts (fun w h => List.mem_cons_of_mem _ (gl_Md w h)) hown hK (gq_one (c := 0) (k := 0) hH rfl (gm_c0 cI cZ ad u)) 0 rfl rfl 6 (by decide) (ht _ gt_375) (fun _ h9 => h9) rfl gd_Md_against_40 ?_
          refine lv_bipush (v := 16) hx hb gd_Md_against_43 (by decide) ?_
          refine lv_iload_n hx hb gd_Md_against_45 rfl (lv_at hl 1 rfl) ?_
          refine lv_imul hx hb gd_Md_against_46 ?_
          refine lv_iload_n hx hb gd_Md_against_47 rfl (lv_at hl 3 rfl) ?_
          refine lv_iadd hx hb gd_Md_against_48 ?_
          obtain ⟨hg5, hf⟩ := gj_g hf
          refine va_iald (D := D) hx hb hK (gq_one (c := 6) (k := 0) hH rfl (gm_c6 cI cZ ad u)) 0 0 rfl rfl hg5 gd_Md_against_49 ?_
          refine lv_aload_n hx hb gd_Md_against_50 rfl (lv_at hl 0 rfl) ?_
          refine va_get (D := D) (ci := 4) (C := gR_Md) (T := gT_Md) (N := 16) hx hb hts (fun w h => List.mem_cons_of_mem _ (gl_Md w h)) hown hK (gq_one (c := 0) (k := 0) hH rfl (gm_c0 cI cZ ad u)) 0 rfl rfl 1 (by decide) (ht _ gt_370) (fun _ h9 => h9) rfl gd_Md_against_51 ?_
          refine lv_iload_n hx hb gd_Md_against_54 rfl (lv_at hl 3 rfl) ?_
          obtain ⟨hg6, hf⟩ := gj_g hf
          refine va_iald (D := D) hx hb hK (gq_one (c := 1) (k := 0) hH rfl (gm_c1 cI cZ ad u)) 0 0 rfl rfl hg6 gd_Md_against_55 ?_
          refine lv_isub hx hb gd_Md_against_56 ?_
          refine lv_istore (lv' := [(4, .int ((u.1 6 (Int32.toNatClampNeg ((16 * x1) + x3))) - (u.1 1 (Int32.toNatClampNeg x3)))), (0, .ref (ad 0 0)), (1, .int x1), (2, .int x2), (3, .int x3)]) hx hb gd_Md_against_57 hl (by decide) rfl (fun ls hl => ?_)
          refine lv_iload hx hb gd_Md_against_59 (lv_at hl 0 rfl) ?_
          refine lv_if_eq (tgt := 67) hx hb gd_Md_against_61 (by decide) (fun c7 => ?_) (fun c7 => ?_)
          · replace hf := gj_t c7 hf
            refine lv_iinc (v := x3 + 1) (lv' := [(3, .int (x3 + 1)), (4, .int ((u.1 6 (Int32.toNatClampNeg ((16 * x1) + x3))) - (u.1 1 (Int32.toNatClampNeg x3)))), (0, .ref (ad 0 0)), (1, .int x1), (2, .int x2)]) hx hb gd_Md_against_67 hl (k := 4) rfl rfl (by decide) rfl (fun ls hl => ?_)
            refine lv_goto (tgt := 21) hx hb gd_Md_against_70 (by decide) ?_
            exact ih x1 x2 (x3 + 1) u _ _ _ hf hH hS (lv_sub hl [2, 3, 4, 0] rfl)
          · replace hf := gj_e c7 hf
            refine lv_iload hx hb gd_Md_against_64 (lv_at hl 0 rfl) ?_
            cases hf
            exact W.iret hx hb hr (fun t ht hW => ⟨⟨_, _, rfl, ⟨rfl, rfl⟩, ⟨by rw [ht]; exact hH, va_K.moved hW.alike hK⟩⟩, hS.F ht⟩) hS.2.2 gd_Md_against_66
  unfold fn_Md_against at hf
  refine lv_aload_n hx hb gd_Md_against_0 rfl (lv_at hl 0 rfl) ?_
  refine va_get (D := D) (ci := 4) (C := gR_Md) (T := gT_Md) (N := 16) hx hb hts (fun w h => List.mem_cons_of_mem _ (gl_Md w h)) hown hK (gq_one (c := 0) (k := 0) hH rfl (gm_c0 cI cZ ad u)) 0 rfl rfl 3 (by decide) (ht _ gt_372) (fun _ h9 => h9) rfl gd_Md_against_1 ?_
  refine lv_iload_n hx hb gd_Md_against_4 rfl (lv_at hl 1 rfl) ?_
  obtain ⟨hg1, hf⟩ := gj_g hf
  refine va_iald (D := D) hx hb hK (gq_one (c := 3) (k := 0) hH rfl (gm_c3 cI cZ ad u)) 0 0 rfl rfl hg1 gd_Md_against_5 ?_
  refine lv_iload_n hx hb gd_Md_against_6 rfl (lv_at hl 2 rfl) ?_
  refine lv_icmp_eq (tgt := 19) hx hb gd_Md_against_7 (by decide) (fun c11 => ?_) (fun c11 => ?_)
  · replace hf := gj_t c11 hf
    refine lv_iconst (v := 0) hx hb gd_Md_against_19 (by decide) ?_
    refine lv_istore_n (lv' := [(3, .int 0), (0, .ref (ad 0 0)), (1, .int p1), (2, .int p2)]) hx hb gd_Md_against_20 rfl hl (by decide) rfl (fun ls hl => ?_)
    exact L21 gm_fu p1 p2 0 u _ _ _ hf hH hS (lv_sub hl [1, 2, 3, 0] rfl)
  · replace hf := gj_e c11 hf
    refine lv_aload_n hx hb gd_Md_against_10 rfl (lv_at hl 0 rfl) ?_
    refine va_get (D := D) (ci := 4) (C := gR_Md) (T := gT_Md) (N := 16) hx hb hts (fun w h => List.mem_cons_of_mem _ (gl_Md w h)) hown hK (gq_one (c := 0) (k := 0) hH rfl (gm_c0 cI cZ ad u)) 0 rfl rfl 3 (by decide) (ht _ gt_372) (fun _ h9 => h9) rfl gd_Md_against_11 ?_
    refine lv_iload_n hx hb gd_Md_against_14 rfl (lv_at hl 1 rfl) ?_
    obtain ⟨hg10, hf⟩ := gj_g hf
    refine va_iald (D := D) hx hb hK (gq_one (c := 3) (k := 0) hH rfl (gm_c3 cI cZ ad u)) 0 0 rfl rfl hg10 gd_Md_against_15 ?_
    refine lv_iload_n hx hb gd_Md_against_16 rfl (lv_at hl 2 rfl) ?_
    refine lv_isub hx hb gd_Md_against_17 ?_
    cases hf
    exact W.iret hx hb hr (fun t ht hW => ⟨⟨_, _, rfl, ⟨rfl, rfl⟩, ⟨by rw [ht]; exact hH, va_K.moved hW.alike hK⟩⟩, hS.F ht⟩) hS.2.2 gd_Md_against_18
set_option maxHeartbeats 4000000 in
set_option maxRecDepth 100000 in
theorem ct_Md_before (l : Launch) (D : va_G) (cI cZ : ClassId) (ad : Nat → Nat → Nat) (hI : gq_I gm_vd ad) (u : gm_St) (p1 : Int32) (z : Int32 × gm_St) (hf : fn_Md_before p1 u = some z) : Met l gy_Md_before gws_Md_before ({ frames := 1, cells := 0, slots := 0, locals := 24 }) (va_Pc [.ref (ad 0 0), .int p1] (gq_pre D gc_cl (gm_tys cI cZ) gm_vd ad gm_NF gm_NM (gm_pc cI cZ ad u))) (va_Qi (fun r u2 => r = z.1 ∧ u2 = z.2) (fun u2 t => gq_B D gc_cl (gm_tys cI cZ) gm_vd ad (gm_pc cI cZ ad u2) t) (gq_A gm_vd ad)) 0 0 (gq_A gm_vd ad) := by
  refine Met.ofW (cc := gb_Md_before) (maxL := 4) (ret := (some .int)) (by decide) rfl ?_
  intro p e s m args below meth c s₁ B hml hv
  obtain ⟨rfl, hH, hK, hN⟩ := hv
  have hx := B.exec
  have hb := B.bytes
  have hr := B.returns
  have hts := atoms_spec (ws := gws_Md_before) B.pre
  have ht := fun (w : Cond) (h : w ∈ gt_T) => hts w (List.mem_cons_of_mem _ h)
  have hown : s.vm.findClass gR_Md = some m.cls := findClass_of_methodNamed B.named
  have hlocks := B.notSynchronized
  have hA : ∀ q, (gq_A gm_vd ad) q → (gq_A gm_vd ad) q := fun _ h => h
  have hS : va_S (gq_A gm_vd ad) s.heap s.heap [] := va_S.rf
  have hl := lv_entry ([.ref (ad 0 0), .int p1]) (n := 4) (Nat.le_of_ble_eq_true rfl)
  rw [lg_entry_eq]
  generalize (lg_sl ([.ref (ad 0 0), .int p1]) ++ List.replicate (4 - (lg_sl ([.ref (ad 0 0), .int p1])).length) Slot.unset).toArray = ls at hl ⊢
  have hl : lv_has ls 4 [(0, .ref (ad 0 0)), (1, .int p1)] := hl
  have L4 : ∀ (n : Nat) (x1 : Int32) (x2 : Int32) (x3 : Int32) (u : gm_St) (H : Heap) (locs : List Loc) (ls : Array Slot), fn_Md_before_4 n x1 x2 x3 u = some z → gq_H D gc_cl gm_vd ad (gm_pc cI cZ ad u) H → va_S (gq_A gm_vd ad) s.heap H locs → lv_has ls 4 [(0, .ref (ad 0 0)), (1, .int x1), (2, .int x2), (3, .int x3)] → W p l e (headSpec gws_Md_before ({ frames := 1, cells := 0, slots := 0, locals := 24 })).room s m ([.ref (ad 0 0), .int p1] : List Value).toArray below meth c H locs 0 0 (MQ below (va_Qi (fun r u2 => r = z.1 ∧ u2 = z.2) (fun u2 t => gq_B D gc_cl (gm_tys cI cZ) gm_vd ad (gm_pc cI cZ ad u2) t) (gq_A gm_vd ad)) ([.ref (ad 0 0), .int p1] : List Value).toArray s 0 0 (gq_A gm_vd ad)) (F0 m 4 ls []) := by
    intro n
    induction n with
    | zero =>
      intro x1 x2 x3 u H locs ls hf
      have h0 : none = some z := hf
      cases h0
    | succ n ih =>
      intro x1 x2 x3 u H locs ls hf hH hS hl
      rw [fn_Md_before_4] at hf
      refine lv_iload_n hx hb gd_Md_before_4 rfl (lv_at hl 3 rfl) ?_
      refine lv_aload_n hx hb gd_Md_before_5 rfl (lv_at hl 0 rfl) ?_
      refine va_get (D := D) (ci := 4) (C := gR_Md) (T := gT_Md) (N := 16) hx hb hts (fun w h => List.mem_cons_of_mem _ (gl_Md w h)) hown hK (gq_one (c := 0) (k := 0) hH rfl (gm_c0 cI cZ ad u)) 0 rfl rfl 7 (by decide) (ht _ gt_376) (fun _ h9 => h9) rfl gd_Md_before_6 ?_
      refine lv_icmp_ge (tgt := 40) hx hb gd_Md_before_9 (by decide) (fun c5 => ?_) (fun c5 => ?_)
      · replace hf := gj_t c5 hf
        refine lv_iload_n hx hb gd_Md_before_40 rfl (lv_at hl 2 rfl) ?_
        cases hf
        exact W.iret hx hb hr (fun t ht hW => ⟨⟨_, _, rfl, ⟨rfl, rfl⟩, ⟨by rw [ht]; exact hH, va_K.moved hW.alike hK⟩⟩, hS.F ht⟩) hS.2.2 gd_Md_before_41
      · replace hf := gj_e c5 hf
        refine lv_iload_n hx hb gd_Md_before_12 rfl (lv_at hl 2 rfl) ?_
        refine lv_aload_n hx hb gd_Md_before_13 rfl (lv_at hl 0 rfl) ?_
        refine lv_aload_n hx hb gd_Md_before_14 rfl (lv_at hl 0 rfl) ?_
        refine va_get (D := D) (ci := 4) (C := gR_Md) (T := gT_Md) (N := 16) hx hb hts (fun w h => List.mem_cons_of_mem _ (gl_Md w h)) hown hK (gq_one (c := 0) (k := 0) hH rfl (gm_c0 cI cZ ad u)) 0 rfl rfl 8 (by decide) (ht _ gt_377) (fun _ h9 => h9) rfl gd_Md_before_15 ?_
        refine lv_iload_n hx hb gd_Md_before_18 rfl (lv_at hl 3 rfl) ?_
        obtain ⟨hg1, hf⟩ := gj_g hf
        refine va_iald (D := D) hx hb hK (gq_one (c := 7) (k := 0) hH rfl (gm_c7 cI cZ ad u)) 0 0 rfl rfl hg1 gd_Md_before_19 ?_
        refine lv_iload_n hx hb gd_Md_before_20 rfl (lv_at hl 1 rfl) ?_
        obtain ⟨z2, hc3, hf⟩ := Option.bind_eq_some_iff.mp hf
        refine gq_calli (va_runV (As := [.int (u.1 7 (Int32.toNatClampNeg x3)), .int x1]) (rest := [.int x2]) ⟨hx, hb, hml, hown, hts⟩ (ct_Md_against l D cI cZ ad hI u (u.1 7 (Int32.toNatClampNeg x3)) x1 z2 hc3) (cwV 2 hts (gt_V gt_439 gt_441 (gt_sel (List.mem_of_getElem? (i := 24) rfl)) gt_5 gt_442) rfl rfl rfl (by decide +kernel) ⟨Nat.le_of_ble_eq_true rfl, Nat.le_of_ble_eq_true rfl⟩) (gq_preV hH hK hN (va_recv hK (gq_one (c := 0) (k := 0) hH rfl (gm_c0 cI cZ ad u)) (ci := 4) (q0 := 0) rfl rfl)) rfl rfl hl.1 rfl (lv_room (Nat.le_of_ble_eq_true rfl)) gd_Md_before_21 ⟨Nat.zero_le _, Nat.zero_le _⟩) hA hS (fun H locs hH hS => ?_)
        refine lv_if_ge (tgt := 31) hx hb gd_Md_before_24 (by decide) (fun c4 => ?_) (fun c4 => ?_)
        · replace hf := gj_t c4 hf
          refine lv_iconst (v := 0) hx hb gd_Md_before_31 (by decide) ?_
          refine lv_iadd hx hb gd_Md_before_32 ?_
          refine lv_istore_n (lv' := [(2, .int (x2 + 0)), (0, .ref (ad 0 0)), (1, .int x1), (3, .int x3)]) hx hb gd_Md_before_33 rfl hl (by decide) rfl (fun ls hl => ?_)
          refine lv_iinc (v := x3 + 1) (lv' := [(3, .int (x3 + 1)), (2, .int (x2 + 0)), (0, .ref (ad 0 0)), (1, .int x1)]) hx hb gd_Md_before_34 hl (k := 3) rfl rfl (by decide) rfl (fun ls hl => ?_)
          refine lv_goto (tgt := 4) hx hb gd_Md_before_37 (by decide) ?_
          exact ih x1 (x2 + 0) (x3 + 1) z2.2 _ _ _ hf hH hS (lv_sub hl [2, 3, 1, 0] rfl)
        · replace hf := gj_e c4 hf
          refine lv_iconst (v := 1) hx hb gd_Md_before_27 (by decide) ?_
          refine lv_goto (tgt := 32) hx hb gd_Md_before_28 (by decide) ?_
          refine lv_iadd hx hb gd_Md_before_32 ?_
          refine lv_istore_n (lv' := [(2, .int (x2 + 1)), (0, .ref (ad 0 0)), (1, .int x1), (3, .int x3)]) hx hb gd_Md_before_33 rfl hl (by decide) rfl (fun ls hl => ?_)
          refine lv_iinc (v := x3 + 1) (lv' := [(3, .int (x3 + 1)), (2, .int (x2 + 1)), (0, .ref (ad 0 0)), (1, .int x1)]) hx hb gd_Md_before_34 hl (k := 3) rfl rfl (by decide) rfl (fun ls hl => ?_)
          refine lv_goto (tgt := 4) hx hb gd_Md_before_37 (by decide) ?_
          exact ih x1 (x2 + 1) (x3 + 1) z2.2 _ _ _ hf hH hS (lv_sub hl [2, 3, 1, 0] rfl)
  unfold fn_Md_before at hf
  refine lv_iconst (v := 0) hx hb gd_Md_before_0 (by decide) ?_
  refine lv_istore_n (lv' := [(2, .int 0), (0, .ref (ad 0 0)), (1, .int p1)]) hx hb gd_Md_before_1 rfl hl (by decide) rfl (fun ls hl => ?_)
  refine lv_iconst (v := 0) hx hb gd_Md_before_2 (by decide) ?_
  refine lv_istore_n (lv' := [(3, .int 0), (2, .int 0), (0, .ref (ad 0 0)), (1, .int p1)]) hx hb gd_Md_before_3 rfl hl (by decide) rfl (fun ls hl => ?_)
  exact L4 gm_fu p1 0 0 u _ _ _ hf hH hS (lv_sub hl [2, 3, 1, 0] rfl)
set_option maxHeartbeats 4000000 in
set_option maxRecDepth 100000 in
theorem ct_Md_numberOf (l : Launch) (D : va_G) (cI cZ : ClassId) (ad : Nat → Nat → Nat) (hI : gq_I gm_vd ad) (u : gm_St) (p1 : Int32) (z : Int32 × gm_St) (hf : fn_Md_numberOf p1 u = some z) : Met l gy_Md_numberOf gws_Md_numberOf ({ frames := 1, cells := 0, slots := 0, locals := 24 }) (va_Pc [.ref (ad 0 0), .int p1] (gq_pre D gc_cl (gm_tys cI cZ) gm_vd ad gm_NF gm_NM (gm_pc cI cZ ad u))) (va_Qi (fun r u2 => r = z.1 ∧ u2 = z.2) (fun u2 t => gq_B D gc_cl (gm_tys cI cZ) gm_vd ad (gm_pc cI cZ ad u2) t) (gq_A gm_vd ad)) 0 0 (gq_A gm_vd ad) := by
  refine Met.ofW (cc := gb_Md_numberOf) (maxL := 4) (ret := (some .int)) (by decide) rfl ?_
  intro p e s m args below meth c s₁ B hml hv
  obtain ⟨rfl, hH, hK, hN⟩ := hv
  have hx := B.exec
  have hb := B.bytes
  have hr := B.returns
  have hts := atoms_spec (ws := gws_Md_numberOf) B.pre
  have ht := fun (w : Cond) (h : w ∈ gt_T) => hts w (List.mem_cons_of_mem _ h)
  have hown : s.vm.findClass gR_Md = some m.cls := findClass_of_methodNamed B.named
  have hlocks := B.notSynchronized
  have hA : ∀ q, (gq_A gm_vd ad) q → (gq_A gm_vd ad) q := fun _ h => h
  have hS : va_S (gq_A gm_vd ad) s.heap s.heap [] := va_S.rf
  have hl := lv_entry ([.ref (ad 0 0), .int p1]) (n := 4) (Nat.le_of_ble_eq_true rfl)
  rw [lg_entry_eq]
  generalize (lg_sl ([.ref (ad 0 0), .int p1]) ++ List.replicate (4 - (lg_sl ([.ref (ad 0 0), .int p1])).length) Slot.unset).toArray = ls at hl ⊢
  have hl : lv_has ls 4 [(0, .ref (ad 0 0)), (1, .int p1)] := hl
  have L4 : ∀ (n : Nat) (x1 : Int32) (x2 : Int32) (x3 : Int32) (u : gm_St) (H : Heap) (locs : List Loc) (ls : Array Slot), fn_Md_numberOf_4 n x1 x2 x3 u = some z → gq_H D gc_cl gm_vd ad (gm_pc cI cZ ad u) H → va_S (gq_A gm_vd ad) s.heap H locs → lv_has ls 4 [(0, .ref (ad 0 0)), (1, .int x1), (2, .int x2), (3, .int x3)] → W p l e (headSpec gws_Md_numberOf ({ frames := 1, cells := 0, slots := 0, locals := 24 })).room s m ([.ref (ad 0 0), .int p1] : List Value).toArray below meth c H locs 0 0 (MQ below (va_Qi (fun r u2 => r = z.1 ∧ u2 = z.2) (fun u2 t => gq_B D gc_cl (gm_tys cI cZ) gm_vd ad (gm_pc cI cZ ad u2) t) (gq_A gm_vd ad)) ([.ref (ad 0 0), .int p1] : List Value).toArray s 0 0 (gq_A gm_vd ad)) (F0 m 4 ls []) := by
    intro n
    induction n with
    | zero =>
      intro x1 x2 x3 u H locs ls hf
      have h0 : none = some z := hf
      cases h0
    | succ n ih =>
      intro x1 x2 x3 u H locs ls hf hH hS hl
      rw [fn_Md_numberOf_4] at hf
      refine lv_iload_n hx hb gd_Md_numberOf_4 rfl (lv_at hl 3 rfl) ?_
      refine lv_aload_n hx hb gd_Md_numberOf_5 rfl (lv_at hl 0 rfl) ?_
      refine va_get (D := D) (ci := 4) (C := gR_Md) (T := gT_Md) (N := 16) hx hb hts (fun w h => List.mem_cons_of_mem _ (gl_Md w h)) hown hK (gq_one (c := 0) (k := 0) hH rfl (gm_c0 cI cZ ad u)) 0 rfl rfl 7 (by decide) (ht _ gt_376) (fun _ h9 => h9) rfl gd_Md_numberOf_6 ?_
      refine lv_icmp_ge (tgt := 43) hx hb gd_Md_numberOf_9 (by decide) (fun c6 => ?_) (fun c6 => ?_)
      · replace hf := gj_t c6 hf
        refine lv_iload_n hx hb gd_Md_numberOf_43 rfl (lv_at hl 2 rfl) ?_
        cases hf
        exact W.iret hx hb hr (fun t ht hW => ⟨⟨_, _, rfl, ⟨rfl, rfl⟩, ⟨by rw [ht]; exact hH, va_K.moved hW.alike hK⟩⟩, hS.F ht⟩) hS.2.2 gd_Md_numberOf_44
      · replace hf := gj_e c6 hf
        refine lv_aload_n hx hb gd_Md_numberOf_12 rfl (lv_at hl 0 rfl) ?_
        refine lv_aload_n hx hb gd_Md_numberOf_13 rfl (lv_at hl 0 rfl) ?_
        refine va_get (D := D) (ci := 4) (C := gR_Md) (T := gT_Md) (N := 16) hx hb hts (fun w h => List.mem_cons_of_mem _ (gl_Md w h)) hown hK (gq_one (c := 0) (k := 0) hH rfl (gm_c0 cI cZ ad u)) 0 rfl rfl 8 (by decide) (ht _ gt_377) (fun _ h9 => h9) rfl gd_Md_numberOf_14 ?_
        refine lv_iload_n hx hb gd_Md_numberOf_17 rfl (lv_at hl 3 rfl) ?_
        obtain ⟨hg1, hf⟩ := gj_g hf
        refine va_iald (D := D) hx hb hK (gq_one (c := 7) (k := 0) hH rfl (gm_c7 cI cZ ad u)) 0 0 rfl rfl hg1 gd_Md_numberOf_18 ?_
        refine lv_iload_n hx hb gd_Md_numberOf_19 rfl (lv_at hl 1 rfl) ?_
        obtain ⟨z2, hc3, hf⟩ := Option.bind_eq_some_iff.mp hf
        refine gq_calli (va_runV (As := [.int (u.1 7 (Int32.toNatClampNeg x3)), .int x1]) (rest := []) ⟨hx, hb, hml, hown, hts⟩ (ct_Md_against l D cI cZ ad hI u (u.1 7 (Int32.toNatClampNeg x3)) x1 z2 hc3) (cwV 2 hts (gt_V gt_439 gt_441 (gt_sel (List.mem_of_getElem? (i := 24) rfl)) gt_5 gt_442) rfl rfl rfl (by decide +kernel) ⟨Nat.le_of_ble_eq_true rfl, Nat.le_of_ble_eq_true rfl⟩) (gq_preV hH hK hN (va_recv hK (gq_one (c := 0) (k := 0) hH rfl (gm_c0 cI cZ ad u)) (ci := 4) (q0 := 0) rfl rfl)) rfl rfl hl.1 rfl (lv_room (Nat.le_of_ble_eq_true rfl)) gd_Md_numberOf_20 ⟨Nat.zero_le _, Nat.zero_le _⟩) hA hS (fun H locs hH hS => ?_)
        refine lv_if_ne (tgt := 35) hx hb gd_Md_numberOf_23 (by decide) (fun c5 => ?_) (fun c5 => ?_)
        · replace hf := gj_e c5 hf
          refine lv_iload_n hx hb gd_Md_numberOf_35 rfl (lv_at hl 2 rfl) ?_
          refine lv_istore_n (lv' := [(2, .int x2), (0, .ref (ad 0 0)), (1, .int x1), (3, .int x3)]) hx hb gd_Md_numberOf_36 rfl hl (by decide) rfl (fun ls hl => ?_)
          refine lv_iinc (v := x3 + 1) (lv' := [(3, .int (x3 + 1)), (2, .int x2), (0, .ref (ad 0 0)), (1, .int x1)]) hx hb gd_Md_numberOf_37 hl (k := 3) rfl rfl (by decide) rfl (fun ls hl => ?_)
          refine lv_goto (tgt := 4) hx hb gd_Md_numberOf_40 (by decide) ?_
          exact ih x1 x2 (x3 + 1) z2.2 _ _ _ hf hH hS (lv_sub hl [2, 3, 1, 0] rfl)
        · replace hf := gj_t c5 hf
          refine lv_aload_n hx hb gd_Md_numberOf_26 rfl (lv_at hl 0 rfl) ?_
          refine va_get (D := D) (ci := 4) (C := gR_Md) (T := gT_Md) (N := 16) hx hb hts (fun w h => List.mem_cons_of_mem _ (gl_Md w h)) hown hK (gq_one (c := 0) (k := 0) hH rfl (gm_c0 cI cZ ad z2.2)) 0 rfl rfl 8 (by decide) (ht _ gt_377) (fun _ h9 => h9) rfl gd_Md_numberOf_27 ?_
          refine lv_iload_n hx hb gd_Md_numberOf_30 rfl (lv_at hl 3 rfl) ?_
          obtain ⟨hg4, hf⟩ := gj_g hf
          refine va_iald (D := D) hx hb hK (gq_one (c := 7) (k := 0) hH rfl (gm_c7 cI cZ ad z2.2)) 0 0 rfl rfl hg4 gd_Md_numberOf_31 ?_
          refine lv_goto (tgt := 36) hx hb gd_Md_numberOf_32 (by decide) ?_
          refine lv_istore_n (lv' := [(2, .int (z2.2.1 7 (Int32.toNatClampNeg x3))), (0, .ref (ad 0 0)), (1, .int x1), (3, .int x3)]) hx hb gd_Md_numberOf_36 rfl hl (by decide) rfl (fun ls hl => ?_)
          refine lv_iinc (v := x3 + 1) (lv' := [(3, .int (x3 + 1)), (2, .int (z2.2.1 7 (Int32.toNatClampNeg x3))), (0, .ref (ad 0 0)), (1, .int x1)]) hx hb gd_Md_numberOf_37 hl (k := 3) rfl rfl (by decide) rfl (fun ls hl => ?_)
          refine lv_goto (tgt := 4) hx hb gd_Md_numberOf_40 (by decide) ?_
          exact ih x1 (z2.2.1 7 (Int32.toNatClampNeg x3)) (x3 + 1) z2.2 _ _ _ hf hH hS (lv_sub hl [2, 3, 1, 0] rfl)
  unfold fn_Md_numberOf at hf
  refine lv_iconst (v := (-1)) hx hb gd_Md_numberOf_0 (by decide) ?_
  refine lv_istore_n (lv' := [(2, .int (-1)), (0, .ref (ad 0 0)), (1, .int p1)]) hx hb gd_Md_numberOf_1 rfl hl (by decide) rfl (fun ls hl => ?_)
  refine lv_iconst (v := 0) hx hb gd_Md_numberOf_2 (by decide) ?_
  refine lv_istore_n (lv' := [(3, .int 0), (2, .int (-1)), (0, .ref (ad 0 0)), (1, .int p1)]) hx hb gd_Md_numberOf_3 rfl hl (by decide) rfl (fun ls hl => ?_)
  exact L4 gm_fu p1 (-1) 0 u _ _ _ hf hH hS (lv_sub hl [2, 3, 1, 0] rfl)
set_option maxHeartbeats 4000000 in
set_option maxRecDepth 100000 in
theorem ct_Md_placeOf (l : Launch) (D : va_G) (cI cZ : ClassId) (ad : Nat → Nat → Nat) (hI : gq_I gm_vd ad) (u : gm_St) (p1 : Int32) (z : Int32 × gm_St) (hf : fn_Md_placeOf p1 u = some z) : Met l gy_Md_placeOf gws_Md_placeOf ({ frames := 0, cells := 0, slots := 0, locals := 0 }) (va_Pc [.ref (ad 0 0), .int p1] (gq_pre D gc_cl (gm_tys cI cZ) gm_vd ad gm_NF gm_NM (gm_pc cI cZ ad u))) (va_Qi (fun r u2 => r = z.1 ∧ u2 = z.2) (fun u2 t => gq_B D gc_cl (gm_tys cI cZ) gm_vd ad (gm_pc cI cZ ad u2) t) (gq_A gm_vd ad)) 0 0 (gq_A gm_vd ad) := by
  refine Met.ofW (cc := gb_Md_placeOf) (maxL := 4) (ret := (some .int)) (by decide) rfl ?_
  intro p e s m args below meth c s₁ B hml hv
  obtain ⟨rfl, hH, hK, hN⟩ := hv
  have hx := B.exec
  have hb := B.bytes
  have hr := B.returns
  have hts := atoms_spec (ws := gws_Md_placeOf) B.pre
  have ht := fun (w : Cond) (h : w ∈ gt_T) => hts w (List.mem_cons_of_mem _ h)
  have hown : s.vm.findClass gR_Md = some m.cls := findClass_of_methodNamed B.named
  have hlocks := B.notSynchronized
  have hA : ∀ q, (gq_A gm_vd ad) q → (gq_A gm_vd ad) q := fun _ h => h
  have hS : va_S (gq_A gm_vd ad) s.heap s.heap [] := va_S.rf
  have hl := lv_entry ([.ref (ad 0 0), .int p1]) (n := 4) (Nat.le_of_ble_eq_true rfl)
  rw [lg_entry_eq]
  generalize (lg_sl ([.ref (ad 0 0), .int p1]) ++ List.replicate (4 - (lg_sl ([.ref (ad 0 0), .int p1])).length) Slot.unset).toArray = ls at hl ⊢
  have hl : lv_has ls 4 [(0, .ref (ad 0 0)), (1, .int p1)] := hl
  have L4 : ∀ (n : Nat) (x1 : Int32) (x2 : Int32) (x3 : Int32) (u : gm_St) (H : Heap) (locs : List Loc) (ls : Array Slot), fn_Md_placeOf_4 n x1 x2 x3 u = some z → gq_H D gc_cl gm_vd ad (gm_pc cI cZ ad u) H → va_S (gq_A gm_vd ad) s.heap H locs → lv_has ls 4 [(0, .ref (ad 0 0)), (1, .int x1), (2, .int x2), (3, .int x3)] → W p l e (headSpec gws_Md_placeOf ({ frames := 0, cells := 0, slots := 0, locals := 0 })).room s m ([.ref (ad 0 0), .int p1] : List Value).toArray below meth c H locs 0 0 (MQ below (va_Qi (fun r u2 => r = z.1 ∧ u2 = z.2) (fun u2 t => gq_B D gc_cl (gm_tys cI cZ) gm_vd ad (gm_pc cI cZ ad u2) t) (gq_A gm_vd ad)) ([.ref (ad 0 0), .int p1] : List Value).toArray s 0 0 (gq_A gm_vd ad)) (F0 m 4 ls []) := by
    intro n
    induction n with
    | zero =>
      intro x1 x2 x3 u H locs ls hf
      have h0 : none = some z := hf
      cases h0
    | succ n ih =>
      intro x1 x2 x3 u H locs ls hf hH hS hl
      rw [fn_Md_placeOf_4] at hf
      refine lv_iload_n hx hb gd_Md_placeOf_4 rfl (lv_at hl 3 rfl) ?_
      refine lv_aload_n hx hb gd_Md_placeOf_5 rfl (lv_at hl 0 rfl) ?_
      refine va_get (D := D) (ci := 4) (C := gR_Md) (T := gT_Md) (N := 16) hx hb hts (fun w h => List.mem_cons_of_mem _ (gl_Md w h)) hown hK (gq_one (c := 0) (k := 0) hH rfl (gm_c0 cI cZ ad u)) 0 rfl rfl 7 (by decide) (ht _ gt_376) (fun _ h9 => h9) rfl gd_Md_placeOf_6 ?_
      refine lv_icmp_ge (tgt := 34) hx hb gd_Md_placeOf_9 (by decide) (fun c3 => ?_) (fun c3 => ?_)
      · replace hf := gj_t c3 hf
        refine lv_iload_n hx hb gd_Md_placeOf_34 rfl (lv_at hl 2 rfl) ?_
        cases hf
        exact W.iret hx hb hr (fun t ht hW => ⟨⟨_, _, rfl, ⟨rfl, rfl⟩, ⟨by rw [ht]; exact hH, va_K.moved hW.alike hK⟩⟩, hS.F ht⟩) hS.2.2 gd_Md_placeOf_35
      · replace hf := gj_e c3 hf
        refine lv_aload_n hx hb gd_Md_placeOf_12 rfl (lv_at hl 0 rfl) ?_
        refine va_get (D := D) (ci := 4) (C := gR_Md) (T := gT_Md) (N := 16) hx hb hts (fun w h => List.mem_cons_of_mem _ (gl_Md w h)) hown hK (gq_one (c := 0) (k := 0) hH rfl (gm_c0 cI cZ ad u)) 0 rfl rfl 8 (by decide) (ht _ gt_377) (fun _ h9 => h9) rfl gd_Md_placeOf_13 ?_
        refine lv_iload_n hx hb gd_Md_placeOf_16 rfl (lv_at hl 3 rfl) ?_
        obtain ⟨hg1, hf⟩ := gj_g hf
        refine va_iald (D := D) hx hb hK (gq_one (c := 7) (k := 0) hH rfl (gm_c7 cI cZ ad u)) 0 0 rfl rfl hg1 gd_Md_placeOf_17 ?_
        refine lv_iload_n hx hb gd_Md_placeOf_18 rfl (lv_at hl 1 rfl) ?_
        refine lv_icmp_ne (tgt := 26) hx hb gd_Md_placeOf_19 (by decide) (fun c2 => ?_) (fun c2 => ?_)
        · replace hf := gj_e c2 hf
          refine lv_iload_n hx hb gd_Md_placeOf_26 rfl (lv_at hl 2 rfl) ?_
          refine lv_istore_n (lv' := [(2, .int x2), (0, .ref (ad 0 0)), (1, .int x1), (3, .int x3)]) hx hb gd_Md_placeOf_27 rfl hl (by decide) rfl (fun ls hl => ?_)
          refine lv_iinc (v := x3 + 1) (lv' := [(3, .int (x3 + 1)), (2, .int x2), (0, .ref (ad 0 0)), (1, .int x1)]) hx hb gd_Md_placeOf_28 hl (k := 3) rfl rfl (by decide) rfl (fun ls hl => ?_)
          refine lv_goto (tgt := 4) hx hb gd_Md_placeOf_31 (by decide) ?_
          exact ih x1 x2 (x3 + 1) u _ _ _ hf hH hS (lv_sub hl [2, 3, 1, 0] rfl)
        · replace hf := gj_t c2 hf
          refine lv_iload_n hx hb gd_Md_placeOf_22 rfl (lv_at hl 3 rfl) ?_
          refine lv_goto (tgt := 27) hx hb gd_Md_placeOf_23 (by decide) ?_
          refine lv_istore_n (lv' := [(2, .int x3), (0, .ref (ad 0 0)), (1, .int x1), (3, .int x3)]) hx hb gd_Md_placeOf_27 rfl hl (by decide) rfl (fun ls hl => ?_)
          refine lv_iinc (v := x3 + 1) (lv' := [(3, .int (x3 + 1)), (2, .int x3), (0, .ref (ad 0 0)), (1, .int x1)]) hx hb gd_Md_placeOf_28 hl (k := 3) rfl rfl (by decide) rfl (fun ls hl => ?_)
          refine lv_goto (tgt := 4) hx hb gd_Md_placeOf_31 (by decide) ?_
          exact ih x1 x3 (x3 + 1) u _ _ _ hf hH hS (lv_sub hl [2, 3, 1, 0] rfl)
  unfold fn_Md_placeOf at hf
  refine lv_iconst (v := (-1)) hx hb gd_Md_placeOf_0 (by decide) ?_
  refine lv_istore_n (lv' := [(2, .int (-1)), (0, .ref (ad 0 0)), (1, .int p1)]) hx hb gd_Md_placeOf_1 rfl hl (by decide) rfl (fun ls hl => ?_)
  refine lv_iconst (v := 0) hx hb gd_Md_placeOf_2 (by decide) ?_
  refine lv_istore_n (lv' := [(3, .int 0), (2, .int (-1)), (0, .ref (ad 0 0)), (1, .int p1)]) hx hb gd_Md_placeOf_3 rfl hl (by decide) rfl (fun ls hl => ?_)
  exact L4 gm_fu p1 (-1) 0 u _ _ _ hf hH hS (lv_sub hl [2, 3, 1, 0] rfl)
