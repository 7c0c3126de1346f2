set_option maxHeartbeats 4000000 in
set_option maxRecDepth 100000 in
theorem ct_Lv_part (l : Launch) (D : va_G) (cI cT : ClassId) (ad : Nat → Nat → Nat) (hI : gq_I gk_vd ad) (u : gk_St) (p1 : Int32) (z : gk_St) (hf : fn_Lv_part p1 u = some z) : Met l gy_Lv_part gws_Lv_part ({ frames := 0, cells := 0, slots := 0, locals := 0 }) (va_Pc [.ref (ad 2 0), .int p1] (gq_pre D gc_cl (gk_tys cI cT) gk_vd ad gk_NF gk_NM (gk_pc cI cT ad u))) (va_Qv (fun u2 => u2 = z) (fun u2 t => gq_B D gc_cl (gk_tys cI cT) gk_vd ad (gk_pc cI cT ad u2) t) (gq_A gk_vd ad)) 0 0 (gq_A gk_vd ad) := by
  refine Met.ofW (cc := gb_Lv_part) (maxL := 3) (ret := none) (by decide) rfl ?_
  intro p e s m args below meth c s₁ B hml hv
  obtain ⟨rfl, hH, hK, hN⟩ := hv
  have hx := B.exec
  have hb := B.bytes
  have hr := B.returns
  have hts := atoms_spec (ws := gws_Lv_part) B.pre
  have ht := fun (w : Cond) (h : w ∈ gt_T) => hts w (List.mem_cons_of_mem _ h)
  have hown : s.vm.findClass gR_Lv = some m.cls := findClass_of_methodNamed B.named
  have hlocks := B.notSynchronized
  have hA : ∀ q, (gq_A gk_vd ad) q → (gq_A gk_vd ad) q := fun _ h => h
  have hS : va_S (gq_A gk_vd ad) s.heap s.heap [] := va_S.rf
  have hl := lv_entry ([.ref (ad 2 0), .int p1]) (n := 3) (Nat.le_of_ble_eq_true rfl)
  rw [lg_entry_eq]
  generalize (lg_sl ([.ref (ad 2 0), .int p1]) ++ List.replicate (3 - (lg_sl ([.ref (ad 2 0), .int p1])).length) Slot.unset).toArray = ls at hl ⊢
  have hl : lv_has ls 3 [(0, .ref (ad 2 0)), (1, .int p1)] := hl
  have L30 : ∀ (n : Nat) (x1 : Int32) (x2 : Int32) (u : gk_St) (H : Heap) (locs : List Loc) (ls : Array Slot), fn_Lv_part_30 n x1 x2 u = some z → gq_H D gc_cl gk_vd ad (gk_pc cI cT ad u) H → va_S (gq_A gk_vd ad) s.heap H locs → lv_has ls 3 [(0, .ref (ad 2 0)), (1, .int x1), (2, .int x2)] → W p l e (headSpec gws_Lv_part ({ frames := 0, cells := 0, slots := 0, locals := 0 })).room s m ([.ref (ad 2 0), .int p1] : List Value).toArray below meth c H locs 0 0 (MQ below (va_Qv (fun u2 => u2 = z) (fun u2 t => gq_B D gc_cl (gk_tys cI cT) gk_vd ad (gk_pc cI cT ad u2) t) (gq_A gk_vd ad)) ([.ref (ad 2 0), .int p1] : List Value).toArray s 0 0 (gq_A gk_vd ad)) (F0 m 30 ls []) := by
    intro n
    induction n with
    | zero =>
      intro x1 x2 u H locs ls hf
      have h0 : none = some z := hf
      cases h0
    | succ n ih =>
      intro x1 x2 u H locs ls hf hH hS hl
      rw [fn_Lv_part_30] at hf
      refine lv_iload_n hx hb gd_Lv_part_30 rfl (lv_at hl 2 rfl) ?_
      refine lv_iload_n hx hb gd_Lv_part_31 rfl (lv_at hl 1 rfl) ?_
      refine lv_iconst (v := 1) hx hb gd_Lv_part_32 (by decide) ?_
      refine lv_iadd hx hb gd_Lv_part_33 ?_
      refine lv_icmp_le (tgt := 57) hx hb gd_Lv_part_34 (by decide) (fun c6 => ?_) (fun c6 => ?_)
      · replace hf := gj_t c6 hf
        refine lv_aload_n hx hb gd_Lv_part_57 rfl (lv_at hl 0 rfl) ?_
        refine lv_dup hx hb gd_Lv_part_58 rfl ?_
        refine va_get (D := D) (ci := 1) (C := gR_Lv) (T := gT_Lv) (N := 4) hx hb hts (fun w h => List.mem_cons_of_mem _ (gl_Lv w h)) hown hK (gq_one (c := 2) (k := 0) hH rfl (gk_c2 cI cT ad u)) 0 rfl rfl 3 (by decide) (ht _ gt_73) (fun _ h9 => h9) rfl gd_Lv_part_59 ?_
        refine lv_iconst (v := 1) hx hb gd_Lv_part_62 (by decide) ?_
        refine lv_iadd hx hb gd_Lv_part_63 ?_
        refine gq_put (D := D) (ci := 1) (C := gR_Lv) (T := gT_Lv) (N := 4) (ca := 2) (ka := 0) (pp' := gk_pc cI cT ad (gk_sI u 8 0 ((u.1 8 0) + 1))) (ty := .int) hx hb hts (fun w h => List.mem_cons_of_mem _ (gl_Lv w h)) gF_Lv gf_Lv gn_Lv hown hK hH hI hA rfl (gk_c2 cI cT ad u) rfl 3 (by decide) (ht _ gt_73) (fun _ h9 => h9) rfl (by decide +kernel) rfl rfl (Nat.le_of_ble_eq_true rfl) (gk_w8 cI cT ad u ((u.1 8 0) + 1)) (gk_o8 cI cT ad u ((u.1 8 0) + 1)) hS gd_Lv_part_64 (fun H locs hH hS => ?_)
        refine lv_aload_n hx hb gd_Lv_part_67 rfl (lv_at hl 0 rfl) ?_
        refine va_get (D := D) (ci := 1) (C := gR_Lv) (T := gT_Lv) (N := 4) hx hb hts (fun w h => List.mem_cons_of_mem _ (gl_Lv w h)) hown hK (gq_one (c := 2) (k := 0) hH rfl (gk_c2 cI cT ad (gk_sI u 8 0 ((u.1 8 0) + 1)))) 0 rfl rfl 2 (by decide) (ht _ gt_72) (fun _ h9 => h9) rfl gd_Lv_part_68 ?_
        refine lv_iload_n hx hb gd_Lv_part_71 rfl (lv_at hl 1 rfl) ?_
        refine lv_iconst (v := 1) hx hb gd_Lv_part_72 (by decide) ?_
        refine lv_iadd hx hb gd_Lv_part_73 ?_
        refine lv_aload_n hx hb gd_Lv_part_74 rfl (lv_at hl 0 rfl) ?_
        refine va_get (D := D) (ci := 1) (C := gR_Lv) (T := gT_Lv) (N := 4) hx hb hts (fun w h => List.mem_cons_of_mem _ (gl_Lv w h)) hown hK (gq_one (c := 2) (k := 0) hH rfl (gk_c2 cI cT ad (gk_sI u 8 0 ((u.1 8 0) + 1)))) 0 rfl rfl 2 (by decide) (ht _ gt_72) (fun _ h9 => h9) rfl gd_Lv_part_75 ?_
        refine lv_iload_n hx hb gd_Lv_part_78 rfl (lv_at hl 1 rfl) ?_
        obtain ⟨hg1, hf⟩ := gj_g hf
        refine va_iald (D := D) hx hb hK (gq_one (c := 4) (k := 0) hH rfl (gk_c4 cI cT ad (gk_sI u 8 0 ((u.1 8 0) + 1)))) 0 0 rfl rfl hg1 gd_Lv_part_79 ?_
        refine lv_iconst (v := 4) hx hb gd_Lv_part_80 (by decide) ?_
        refine lv_isub hx hb gd_Lv_part_81 ?_
        obtain ⟨hg2, hf⟩ := gj_g hf
        refine gq_iast (D := D) (ca := 4) (ka := 0) (pp' := gk_pc cI cT ad (gk_sI (gk_sI u 8 0 ((u.1 8 0) + 1)) 7 (Int32.toNatClampNeg (x1 + 1)) (((gk_sI u 8 0 ((u.1 8 0) + 1)).1 7 (Int32.toNatClampNeg x1)) - 4))) hx hb hK hH hI hA rfl (gk_c4 cI cT ad (gk_sI u 8 0 ((u.1 8 0) + 1))) 0 rfl hg2 (gk_w7 cI cT ad (gk_sI u 8 0 ((u.1 8 0) + 1)) (Int32.toNatClampNeg (x1 + 1)) (((gk_sI u 8 0 ((u.1 8 0) + 1)).1 7 (Int32.toNatClampNeg x1)) - 4)) (gk_o7 cI cT ad (gk_sI u 8 0 ((u.1 8 0) + 1)) (Int32.toNatClampNeg (x1 + 1)) (((gk_sI u 8 0 ((u.1 8 0) + 1)).1 7 (Int32.toNatClampNeg x1)) - 4)) hS gd_Lv_part_82 (fun H locs hH hS => ?_)
        refine lv_aload_n hx hb gd_Lv_part_83 rfl (lv_at hl 0 rfl) ?_
        refine va_get (D := D) (ci := 1) (C := gR_Lv) (T := gT_Lv) (N := 4) hx hb hts (fun w h => List.mem_cons_of_mem _ (gl_Lv w h)) hown hK (gq_one (c := 2) (k := 0) hH rfl (gk_c2 cI cT ad (gk_sI (gk_sI u 8 0 ((u.1 8 0) + 1)) 7 (Int32.toNatClampNeg (x1 + 1)) (((gk_sI u 8 0 ((u.1 8 0) + 1)).1 7 (Int32.toNatClampNeg x1)) - 4)))) 0 rfl rfl 2 (by decide) (ht _ gt_72) (fun _ h9 => h9) rfl gd_Lv_part_84 ?_
        refine lv_iload_n hx hb gd_Lv_part_87 rfl (lv_at hl 1 rfl) ?_
        refine lv_iconst (v := 4) hx hb gd_Lv_part_88 (by decide) ?_
        obtain ⟨hg3, hf⟩ := gj_g hf
        refine gq_iast (D := D) (ca := 4) (ka := 0) (pp' := gk_pc cI cT ad (gk_sI (gk_sI (gk_sI u 8 0 ((u.1 8 0) + 1)) 7 (Int32.toNatClampNeg (x1 + 1)) (((gk_sI u 8 0 ((u.1 8 0) + 1)).1 7 (Int32.toNatClampNeg x1)) - 4)) 7 (Int32.toNatClampNeg x1) 4)) hx hb hK hH hI hA rfl (gk_c4 cI cT ad (gk_sI (gk_sI u 8 0 ((u.1 8 0) + 1)) 7 (Int32.toNatClampNeg (x1 + 1)) (((gk_sI u 8 0 ((u.1 8 0) + 1)).1 7 (Int32.toNatClampNeg x1)) - 4))) 0 rfl hg3 (gk_w7 cI cT ad (gk_sI (gk_sI u 8 0 ((u.1 8 0) + 1)) 7 (Int32.toNatClampNeg (x1 + 1)) (((gk_sI u 8 0 ((u.1 8 0) + 1)).1 7 (Int32.toNatClampNeg x1)) - 4)) (Int32.toNatClampNeg x1) 4) (gk_o7 cI cT ad (gk_sI (gk_sI u 8 0 ((u.1 8 0) + 1)) 7 (Int32.toNatClampNeg (x1 + 1)) (((gk_sI u 8 0 ((u.1 8 0) + 1)).1 7 (Int32.toNatClampNeg x1)) - 4)) (Int32.toNatClampNeg x1) 4) hS gd_Lv_part_89 (fun H locs hH hS => ?_)
        cases hf
        exact W.vret hx hb hr (fun t ht hW => ⟨⟨_, rfl, rfl, ⟨by rw [ht]; exact hH, va_K.moved hW.alike hK⟩⟩, hS.F ht⟩) hS.2.2 gd_Lv_part_90
      · replace hf := gj_e c6 hf
        refine lv_aload_n hx hb gd_Lv_part_37 rfl (lv_at hl 0 rfl) ?_
        refine va_get (D := D) (ci := 1) (C := gR_Lv) (T := gT_Lv) (N := 4) hx hb hts (fun w h => List.mem_cons_of_mem _ (gl_Lv w h)) hown hK (gq_one (c := 2) (k := 0) hH rfl (gk_c2 cI cT ad u)) 0 rfl rfl 2 (by decide) (ht _ gt_72) (fun _ h9 => h9) rfl gd_Lv_part_38 ?_
        refine lv_iload_n hx hb gd_Lv_part_41 rfl (lv_at hl 2 rfl) ?_
        refine lv_aload_n hx hb gd_Lv_part_42 rfl (lv_at hl 0 rfl) ?_
        refine va_get (D := D) (ci := 1) (C := gR_Lv) (T := gT_Lv) (N := 4) hx hb hts (fun w h => List.mem_cons_of_mem _ (gl_Lv w h)) hown hK (gq_one (c := 2) (k := 0) hH rfl (gk_c2 cI cT ad u)) 0 rfl rfl 2 (by decide) (ht _ gt_72) (fun _ h9 => h9) rfl gd_Lv_part_43 ?_
        refine lv_iload_n hx hb gd_Lv_part_46 rfl (lv_at hl 2 rfl) ?_
        refine lv_iconst (v := 1) hx hb gd_Lv_part_47 (by decide) ?_
        refine lv_isub hx hb gd_Lv_part_48 ?_
        obtain ⟨hg4, hf⟩ := gj_g hf
        refine va_iald (D := D) hx hb hK (gq_one (c := 4) (k := 0) hH rfl (gk_c4 cI cT ad u)) 0 0 rfl rfl hg4 gd_Lv_part_49 ?_
        obtain ⟨hg5, hf⟩ := gj_g hf
        refine gq_iast (D := D) (ca := 4) (ka := 0) (pp' := gk_pc cI cT ad (gk_sI u 7 (Int32.toNatClampNeg x2) (u.1 7 (Int32.toNatClampNeg (x2 - 1))))) hx hb hK hH hI hA rfl (gk_c4 cI cT ad u) 0 rfl hg5 (gk_w7 cI cT ad u (Int32.toNatClampNeg x2) (u.1 7 (Int32.toNatClampNeg (x2 - 1)))) (gk_o7 cI cT ad u (Int32.toNatClampNeg x2) (u.1 7 (Int32.toNatClampNeg (x2 - 1)))) hS gd_Lv_part_50 (fun H locs hH hS => ?_)
        refine lv_iinc (v := x2 + (-1)) (lv' := [(2, .int (x2 + (-1))), (0, .ref (ad 2 0)), (1, .int x1)]) hx hb gd_Lv_part_51 hl (k := 2) rfl rfl (by decide) rfl (fun ls hl => ?_)
        refine lv_goto (tgt := 30) hx hb gd_Lv_part_54 (by decide) ?_
        exact ih x1 (x2 + (-1)) (gk_sI u 7 (Int32.toNatClampNeg x2) (u.1 7 (Int32.toNatClampNeg (x2 - 1)))) _ _ _ hf hH hS (lv_sub hl [1, 2, 0] rfl)
  unfold fn_Lv_part at hf
  refine lv_iload_n hx hb gd_Lv_part_0 rfl (lv_at hl 1 rfl) ?_
  refine lv_if_lt (tgt := 24) hx hb gd_Lv_part_1 (by decide) (fun c9 => ?_) (fun c9 => ?_)
  · replace hf := gj_t c9 hf
    cases hf
    exact W.vret hx hb hr (fun t ht hW => ⟨⟨_, rfl, rfl, ⟨by rw [ht]; exact hH, va_K.moved hW.alike hK⟩⟩, hS.F ht⟩) hS.2.2 gd_Lv_part_24
  · replace hf := gj_e c9 hf
    refine lv_iload_n hx hb gd_Lv_part_4 rfl (lv_at hl 1 rfl) ?_
    refine lv_aload_n hx hb gd_Lv_part_5 rfl (lv_at hl 0 rfl) ?_
    refine va_get (D := D) (ci := 1) (C := gR_Lv) (T := gT_Lv) (N := 4) hx hb hts (fun w h => List.mem_cons_of_mem _ (gl_Lv w h)) hown hK (gq_one (c := 2) (k := 0) hH rfl (gk_c2 cI cT ad u)) 0 rfl rfl 3 (by decide) (ht _ gt_73) (fun _ h9 => h9) rfl gd_Lv_part_6 ?_
    refine lv_icmp_ge (tgt := 24) hx hb gd_Lv_part_9 (by decide) (fun c8 => ?_) (fun c8 => ?_)
    · replace hf := gj_t c8 hf
      cases hf
      exact W.vret hx hb hr (fun t ht hW => ⟨⟨_, rfl, rfl, ⟨by rw [ht]; exact hH, va_K.moved hW.alike hK⟩⟩, hS.F ht⟩) hS.2.2 gd_Lv_part_24
    · replace hf := gj_e c8 hf
      refine lv_aload_n hx hb gd_Lv_part_12 rfl (lv_at hl 0 rfl) ?_
      refine va_get (D := D) (ci := 1) (C := gR_Lv) (T := gT_Lv) (N := 4) hx hb hts (fun w h => List.mem_cons_of_mem _ (gl_Lv w h)) hown hK (gq_one (c := 2) (k := 0) hH rfl (gk_c2 cI cT ad u)) 0 rfl rfl 3 (by decide) (ht _ gt_73) (fun _ h9 => h9) rfl gd_Lv_part_13 ?_
      refine lv_aload_n hx hb gd_Lv_part_16 rfl (lv_at hl 0 rfl) ?_
      refine va_get (D := D) (ci := 1) (C := gR_Lv) (T := gT_Lv) (N := 4) hx hb hts (fun w h => List.mem_cons_of_mem _ (gl_Lv w h)) hown hK (gq_one (c := 2) (k := 0) hH rfl (gk_c2 cI cT ad u)) 0 rfl rfl 2 (by decide) (ht _ gt_72) (fun _ h9 => h9) rfl gd_Lv_part_17 ?_
      refine va_alen (D := D) (v := 100) hx hb hK (gq_one (c := 4) (k := 0) hH rfl (gk_c4 cI cT ad u)) 0 0 rfl rfl rfl gd_Lv_part_20 ?_
      refine lv_icmp_lt (tgt := 25) hx hb gd_Lv_part_21 (by decide) (fun c7 => ?_) (fun c7 => ?_)
      · replace hf := gj_t c7 hf
        refine lv_aload_n hx hb gd_Lv_part_25 rfl (lv_at hl 0 rfl) ?_
        refine va_get (D := D) (ci := 1) (C := gR_Lv) (T := gT_Lv) (N := 4) hx hb hts (fun w h => List.mem_cons_of_mem _ (gl_Lv w h)) hown hK (gq_one (c := 2) (k := 0) hH rfl (gk_c2 cI cT ad u)) 0 rfl rfl 3 (by decide) (ht _ gt_73) (fun _ h9 => h9) rfl gd_Lv_part_26 ?_
        refine lv_istore_n (lv' := [(2, .int (u.1 8 0)), (0, .ref (ad 2 0)), (1, .int p1)]) hx hb gd_Lv_part_29 rfl hl (by decide) rfl (fun ls hl => ?_)
        exact L30 gk_fu p1 (u.1 8 0) u _ _ _ hf hH hS (lv_sub hl [1, 2, 0] rfl)
      · replace hf := gj_e c7 hf
        cases hf
        exact W.vret hx hb hr (fun t ht hW => ⟨⟨_, rfl, rfl, ⟨by rw [ht]; exact hH, va_K.moved hW.alike hK⟩⟩, hS.F ht⟩) hS.2.2 gd_Lv_part_24
set_option maxHeartbeats 4000000 in
set_option maxRecDepth 100000 in
theorem ct_Lv_insert (l : Launch) (D : va_G) (cI cT : ClassId) (ad : Nat → Nat → Nat) (hI : gq_I gk_vd ad) (u : gk_St) (p1 : Int32) (p2 : Int32) (z : gk_St) (hf : fn_Lv_insert p1 p2 u = some z) : Met l gy_Lv_insert gws_Lv_insert ({ frames := 2, cells := 0, slots := 0, locals := 44 }) (va_Pc [.ref (ad 2 0), .int p1, .int p2] (gq_pre D gc_cl (gk_tys cI cT) gk_vd ad gk_NF gk_NM (gk_pc cI cT ad u))) (va_Qv (fun u2 => u2 = z) (fun u2 t => gq_B D gc_cl (gk_tys cI cT) gk_vd ad (gk_pc cI cT ad u2) t) (gq_A gk_vd ad)) 0 0 (gq_A gk_vd ad) := by
  refine Met.ofW (cc := gb_Lv_insert) (maxL := 5) (ret := none) (by decide) rfl ?_
  intro p e s m args below meth c s₁ B hml hv
  obtain ⟨rfl, hH, hK, hN⟩ := hv
  have hx := B.exec
  have hb := B.bytes
  have hr := B.returns
  have hts := atoms_spec (ws := gws_Lv_insert) B.pre
  have ht := fun (w : Cond) (h : w ∈ gt_T) => hts w (List.mem_cons_of_mem _ h)
  have hown : s.vm.findClass gR_Lv = some m.cls := findClass_of_methodNamed B.named
  have hlocks := B.notSynchronized
  have hA : ∀ q, (gq_A gk_vd ad) q → (gq_A gk_vd ad) q := fun _ h => h
  have hS : va_S (gq_A gk_vd ad) s.heap s.heap [] := va_S.rf
  have hl := lv_entry ([.ref (ad 2 0), .int p1, .int p2]) (n := 5) (Nat.le_of_ble_eq_true rfl)
  rw [lg_entry_eq]
  generalize (lg_sl ([.ref (ad 2 0), .int p1, .int p2]) ++ List.replicate (5 - (lg_sl ([.ref (ad 2 0), .int p1, .int p2])).length) Slot.unset).toArray = ls at hl ⊢
  have hl : lv_has ls 5 [(0, .ref (ad 2 0)), (1, .int p1), (2, .int p2)] := hl
  have L37 : ∀ (n : Nat) (x1 : Int32) (x2 : Int32) (x3 : Int32) (x4 : Int32) (u : gk_St) (H : Heap) (locs : List Loc) (ls : Array Slot), fn_Lv_insert_37 n x1 x2 x3 x4 u = some z → gq_H D gc_cl gk_vd ad (gk_pc cI cT ad u) H → va_S (gq_A gk_vd ad) s.heap H locs → lv_has ls 5 [(0, .ref (ad 2 0)), (1, .int x1), (2, .int x2), (3, .int x3), (4, .int x4)] → W p l e (headSpec gws_Lv_insert ({ frames := 2, cells := 0, slots := 0, locals := 44 })).room s m ([.ref (ad 2 0), .int p1, .int p2] : List Value).toArray below meth c H locs 0 0 (MQ below (va_Qv (fun u2 => u2 = z) (fun u2 t => gq_B D gc_cl (gk_tys cI cT) gk_vd ad (gk_pc cI cT ad u2) t) (gq_A gk_vd ad)) ([.ref (ad 2 0), .int p1, .int p2] : List Value).toArray s 0 0 (gq_A gk_vd ad)) (F0 m 37 ls []) := by
    intro n
    induction n with
    | zero =>
      intro x1 x2 x3 x4 u H locs ls hf
      have h0 : none = some z := hf
      cases h0
    | succ n ih =>
      intro x1 x2 x3 x4 u H locs ls hf hH hS hl
      rw [fn_Lv_insert_37] at hf
      refine lv_iload hx hb gd_Lv_insert_37 (lv_at hl 4 rfl) ?_
      refine lv_iload_n hx hb gd_Lv_insert_39 rfl (lv_at hl 1 rfl) ?_
      refine lv_icmp_le (tgt := 65) hx hb gd_Lv_insert_40 (by decide) (fun c21 => ?_) (fun c21 => ?_)
      · replace hf := gj_t c21 hf
        refine lv_aload_n hx hb gd_Lv_insert_65 rfl (lv_at hl 0 rfl) ?_
        refine va_get (D := D) (ci := 1) (C := gR_Lv) (T := gT_Lv) (N := 4) hx hb hts (fun w h => List.mem_cons_of_mem _ (gl_Lv w h)) hown hK (gq_one (c := 2) (k := 0) hH rfl (gk_c2 cI cT ad u)) 0 rfl rfl 0 (by decide) (ht _ gt_69) (fun _ h9 => h9) rfl gd_Lv_insert_66 ?_
        refine lv_iload_n hx hb gd_Lv_insert_69 rfl (lv_at hl 1 rfl) ?_
        refine lv_iload_n hx hb gd_Lv_insert_70 rfl (lv_at hl 2 rfl) ?_
        obtain ⟨hg3, hf⟩ := gj_g hf
        refine gq_iast (D := D) (ca := 3) (ka := 0) (pp' := gk_pc cI cT ad (gk_sI u 5 (Int32.toNatClampNeg x1) x2)) hx hb hK hH hI hA rfl (gk_c3 cI cT ad u) 0 rfl hg3 (gk_w5 cI cT ad u (Int32.toNatClampNeg x1) x2) (gk_o5 cI cT ad u (Int32.toNatClampNeg x1) x2) hS gd_Lv_insert_71 (fun H locs hH hS => ?_)
        refine lv_aload_n hx hb gd_Lv_insert_72 rfl (lv_at hl 0 rfl) ?_
        refine lv_dup hx hb gd_Lv_insert_73 rfl ?_
        refine va_get (D := D) (ci := 1) (C := gR_Lv) (T := gT_Lv) (N := 4) hx hb hts (fun w h => List.mem_cons_of_mem _ (gl_Lv w h)) hown hK (gq_one (c := 2) (k := 0) hH rfl (gk_c2 cI cT ad (gk_sI u 5 (Int32.toNatClampNeg x1) x2))) 0 rfl rfl 1 (by decide) (ht _ gt_70) (fun _ h9 => h9) rfl gd_Lv_insert_74 ?_
        refine lv_iconst (v := 1) hx hb gd_Lv_insert_77 (by decide) ?_
        refine lv_iadd hx hb gd_Lv_insert_78 ?_
        refine gq_put (D := D) (ci := 1) (C := gR_Lv) (T := gT_Lv) (N := 4) (ca := 2) (ka := 0) (pp' := gk_pc cI cT ad (gk_sI (gk_sI u 5 (Int32.toNatClampNeg x1) x2) 6 0 (((gk_sI u 5 (Int32.toNatClampNeg x1) x2).1 6 0) + 1))) (ty := .int) hx hb hts (fun w h => List.mem_cons_of_mem _ (gl_Lv w h)) gF_Lv gf_Lv gn_Lv hown hK hH hI hA rfl (gk_c2 cI cT ad (gk_sI u 5 (Int32.toNatClampNeg x1) x2)) rfl 1 (by decide) (ht _ gt_70) (fun _ h9 => h9) rfl (by decide +kernel) rfl rfl (Nat.le_of_ble_eq_true rfl) (gk_w6 cI cT ad (gk_sI u 5 (Int32.toNatClampNeg x1) x2) (((gk_sI u 5 (Int32.toNatClampNeg x1) x2).1 6 0) + 1)) (gk_o6 cI cT ad (gk_sI u 5 (Int32.toNatClampNeg x1) x2) (((gk_sI u 5 (Int32.toNatClampNeg x1) x2).1 6 0) + 1)) hS gd_Lv_insert_79 (fun H locs hH hS => ?_)
        refine lv_aload_n hx hb gd_Lv_insert_82 rfl (lv_at hl 0 rfl) ?_
        refine va_get (D := D) (ci := 1) (C := gR_Lv) (T := gT_Lv) (N := 4) hx hb hts (fun w h => List.mem_cons_of_mem _ (gl_Lv w h)) hown hK (gq_one (c := 2) (k := 0) hH rfl (gk_c2 cI cT ad (gk_sI (gk_sI u 5 (Int32.toNatClampNeg x1) x2) 6 0 (((gk_sI u 5 (Int32.toNatClampNeg x1) x2).1 6 0) + 1)))) 0 rfl rfl 3 (by decide) (ht _ gt_73) (fun _ h9 => h9) rfl gd_Lv_insert_83 ?_
        refine lv_if_ne (tgt := 94) hx hb gd_Lv_insert_86 (by decide) (fun c18 => ?_) (fun c18 => ?_)
        · replace hf := gj_e c18 hf
          refine lv_aload_n hx hb gd_Lv_insert_94 rfl (lv_at hl 0 rfl) ?_
          refine lv_iload_n hx hb gd_Lv_insert_95 rfl (lv_at hl 3 rfl) ?_
          refine lv_iconst (v := 1) hx hb gd_Lv_insert_96 (by decide) ?_
          obtain ⟨z4, hc5, hf⟩ := Option.bind_eq_some_iff.mp hf
          refine gq_callv (va_runV (As := [.int x3, .int 1]) (rest := []) ⟨hx, hb, hml, hown, hts⟩ (ct_Lv_resize l D cI cT ad hI (gk_sI (gk_sI u 5 (Int32.toNatClampNeg x1) x2) 6 0 (((gk_sI u 5 (Int32.toNatClampNeg x1) x2).1 6 0) + 1)) x3 1 z4 hc5) (cwV 2 hts (gt_V gt_200 gt_202 (gt_sel (List.mem_of_getElem? (i := 8) rfl)) gt_4 gt_203) rfl rfl rfl (by decide +kernel) ⟨Nat.le_of_ble_eq_true rfl, Nat.le_of_ble_eq_true rfl⟩) (gq_preV hH hK hN (va_recv hK (gq_one (c := 2) (k := 0) hH rfl (gk_c2 cI cT ad (gk_sI (gk_sI u 5 (Int32.toNatClampNeg x1) x2) 6 0 (((gk_sI u 5 (Int32.toNatClampNeg x1) x2).1 6 0) + 1)))) (ci := 1) (q0 := 0) rfl rfl)) rfl rfl hl.1 rfl (lv_room (Nat.le_of_ble_eq_true rfl)) gd_Lv_insert_97 ⟨Nat.zero_le _, Nat.zero_le _⟩) hA hS (fun H locs hH hS => ?_)
          refine lv_aload_n hx hb gd_Lv_insert_100 rfl (lv_at hl 0 rfl) ?_
          refine lv_iload_n hx hb gd_Lv_insert_101 rfl (lv_at hl 3 rfl) ?_
          obtain ⟨z6, hc7, hf⟩ := Option.bind_eq_some_iff.mp hf
          refine gq_calli (va_runV (As := [.int x3]) (rest := []) ⟨hx, hb, hml, hown, hts⟩ (ct_Lv_sizeOf l D cI cT ad hI z4 x3 z6 hc7) (cwV 1 hts (gt_V gt_193 gt_194 gt_195 gt_4 gt_196) rfl rfl rfl (by decide +kernel) ⟨Nat.le_of_ble_eq_true rfl, Nat.le_of_ble_eq_true rfl⟩) (gq_preV hH hK hN (va_recv hK (gq_one (c := 2) (k := 0) hH rfl (gk_c2 cI cT ad z4)) (ci := 1) (q0 := 0) rfl rfl)) rfl rfl hl.1 rfl (lv_room (Nat.le_of_ble_eq_true rfl)) gd_Lv_insert_102 ⟨Nat.zero_le _, Nat.zero_le _⟩) hA hS (fun H locs hH hS => ?_)
          refine lv_bipush (v := 8) hx hb gd_Lv_insert_105 (by decide) ?_
          refine lv_icmp_le (tgt := 115) hx hb gd_Lv_insert_107 (by decide) (fun c10 => ?_) (fun c10 => ?_)
          · replace hf := gj_t c10 hf
            cases hf
            exact W.vret hx hb hr (fun t ht hW => ⟨⟨_, rfl, rfl, ⟨by rw [ht]; exact hH, va_K.moved hW.alike hK⟩⟩, hS.F ht⟩) hS.2.2 gd_Lv_insert_115
          · replace hf := gj_e c10 hf
            refine lv_aload_n hx hb gd_Lv_insert_110 rfl (lv_at hl 0 rfl) ?_
            refine lv_iload_n hx hb gd_Lv_insert_111 rfl (lv_at hl 3 rfl) ?_
            obtain ⟨z8, hc9, hf⟩ := Option.bind_eq_some_iff.mp hf
            refine gq_callv (va_runV (As := [.int x3]) (rest := []) ⟨hx, hb, hml, hown, hts⟩ (ct_Lv_part l D cI cT ad hI z6.2 x3 z8 hc9) (cwV 1 hts (gt_V gt_204 gt_206 (gt_sel (List.mem_of_getElem? (i := 9) rfl)) gt_4 gt_207) rfl rfl rfl (by decide +kernel) ⟨Nat.le_of_ble_eq_true rfl, Nat.le_of_ble_eq_true rfl⟩) (gq_preV hH hK hN (va_recv hK (gq_one (c := 2) (k := 0) hH rfl (gk_c2 cI cT ad z6.2)) (ci := 1) (q0 := 0) rfl rfl)) rfl rfl hl.1 rfl (lv_room (Nat.le_of_ble_eq_true rfl)) gd_Lv_insert_112 ⟨Nat.zero_le _, Nat.zero_le _⟩) hA hS (fun H locs hH hS => ?_)
            cases hf
            exact W.vret hx hb hr (fun t ht hW => ⟨⟨_, rfl, rfl, ⟨by rw [ht]; exact hH, va_K.moved hW.alike hK⟩⟩, hS.F ht⟩) hS.2.2 gd_Lv_insert_115
        · replace hf := gj_t c18 hf
          refine lv_aload_n hx hb gd_Lv_insert_89 rfl (lv_at hl 0 rfl) ?_
          refine lv_iconst (v := 1) hx hb gd_Lv_insert_90 (by decide) ?_
          refine gq_put (D := D) (ci := 1) (C := gR_Lv) (T := gT_Lv) (N := 4) (ca := 2) (ka := 0) (pp' := gk_pc cI cT ad (gk_sI (gk_sI (gk_sI u 5 (Int32.toNatClampNeg x1) x2) 6 0 (((gk_sI u 5 (Int32.toNatClampNeg x1) x2).1 6 0) + 1)) 8 0 1)) (ty := .int) hx hb hts (fun w h => List.mem_cons_of_mem _ (gl_Lv w h)) gF_Lv gf_Lv gn_Lv hown hK hH hI hA rfl (gk_c2 cI cT ad (gk_sI (gk_sI u 5 (Int32.toNatClampNeg x1) x2) 6 0 (((gk_sI u 5 (Int32.toNatClampNeg x1) x2).1 6 0) + 1))) rfl 3 (by decide) (ht _ gt_73) (fun _ h9 => h9) rfl (by decide +kernel) rfl rfl (Nat.le_of_ble_eq_true rfl) (gk_w8 cI cT ad (gk_sI (gk_sI u 5 (Int32.toNatClampNeg x1) x2) 6 0 (((gk_sI u 5 (Int32.toNatClampNeg x1) x2).1 6 0) + 1)) 1) (gk_o8 cI cT ad (gk_sI (gk_sI u 5 (Int32.toNatClampNeg x1) x2) 6 0 (((gk_sI u 5 (Int32.toNatClampNeg x1) x2).1 6 0) + 1)) 1) hS gd_Lv_insert_91 (fun H locs hH hS => ?_)
          refine lv_aload_n hx hb gd_Lv_insert_94 rfl (lv_at hl 0 rfl) ?_
          refine lv_iload_n hx hb gd_Lv_insert_95 rfl (lv_at hl 3 rfl) ?_
          refine lv_iconst (v := 1) hx hb gd_Lv_insert_96 (by decide) ?_
          obtain ⟨z11, hc12, hf⟩ := Option.bind_eq_some_iff.mp hf
          refine gq_callv (va_runV (As := [.int x3, .int 1]) (rest := []) ⟨hx, hb, hml, hown, hts⟩ (ct_Lv_resize l D cI cT ad hI (gk_sI (gk_sI (gk_sI u 5 (Int32.toNatClampNeg x1) x2) 6 0 (((gk_sI u 5 (Int32.toNatClampNeg x1) x2).1 6 0) + 1)) 8 0 1) x3 1 z11 hc12) (cwV 2 hts (gt_V gt_200 gt_202 (gt_sel (List.mem_of_getElem? (i := 8) rfl)) gt_4 gt_203) rfl rfl rfl (by decide +kernel) ⟨Nat.le_of_ble_eq_true rfl, Nat.le_of_ble_eq_true rfl⟩) (gq_preV hH hK hN (va_recv hK (gq_one (c := 2) (k := 0) hH rfl (gk_c2 cI cT ad (gk_sI (gk_sI (gk_sI u 5 (Int32.toNatClampNeg x1) x2) 6 0 (((gk_sI u 5 (Int32.toNatClampNeg x1) x2).1 6 0) + 1)) 8 0 1))) (ci := 1) (q0 := 0) rfl rfl)) rfl rfl hl.1 rfl (lv_room (Nat.le_of_ble_eq_true rfl)) gd_Lv_insert_97 ⟨Nat.zero_le _, Nat.zero_le _⟩) hA hS (fun H locs hH hS => ?_)
          refine lv_aload_n hx hb gd_Lv_insert_100 rfl (lv_at hl 0 rfl) ?_
          refine lv_iload_n hx hb gd_Lv_insert_101 rfl (lv_at hl 3 rfl) ?_
          obtain ⟨z13, hc14, hf⟩ := Option.bind_eq_some_iff.mp hf
          refine gq_calli (va_runV (As := [.int x3]) (rest := []) ⟨hx, hb, hml, hown, hts⟩ (ct_Lv_sizeOf l D cI cT ad hI z11 x3 z13 hc14) (cwV 1 hts (gt_V gt_193 gt_194 gt_195 gt_4 gt_196) rfl rfl rfl (by decide +kernel) ⟨Nat.le_of_ble_eq_true rfl, Nat.le_of_ble_eq_true rfl⟩) (gq_preV hH hK hN (va_recv hK (gq_one (c := 2) (k := 0) hH rfl (gk_c2 cI cT ad z11)) (ci := 1) (q0 := 0) rfl rfl)) rfl rfl hl.1 rfl (lv_room (Nat.le_of_ble_eq_true rfl)) gd_Lv_insert_102 ⟨Nat.zero_le _, Nat.zero_le _⟩) hA hS (fun H locs hH hS => ?_)
          refine lv_bipush (v := 8) hx hb gd_Lv_insert_105 (by decide) ?_
          refine lv_icmp_le (tgt := 115) hx hb gd_Lv_insert_107 (by decide) (fun c17 => ?_) (fun c17 => ?_)
          · replace hf := gj_t c17 hf
            cases hf
            exact W.vret hx hb hr (fun t ht hW => ⟨⟨_, rfl, rfl, ⟨by rw [ht]; exact hH, va_K.moved hW.alike hK⟩⟩, hS.F ht⟩) hS.2.2 gd_Lv_insert_115
          · replace hf := gj_e c17 hf
            refine lv_aload_n hx hb gd_Lv_insert_110 rfl (lv_at hl 0 rfl) ?_
            refine lv_iload_n hx hb gd_Lv_insert_111 rfl (lv_at hl 3 rfl) ?_
            obtain ⟨z15, hc16, hf⟩ := Option.bind_eq_some_iff.mp hf
            refine gq_callv (va_runV (As := [.int x3]) (rest := []) ⟨hx, hb, hml, hown, hts⟩ (ct_Lv_part l D cI cT ad hI z13.2 x3 z15 hc16) (cwV 1 hts (gt_V gt_204 gt_206 (gt_sel (List.mem_of_getElem? (i := 9) rfl)) gt_4 gt_207) rfl rfl rfl (by decide +kernel) ⟨Nat.le_of_ble_eq_true rfl, Nat.le_of_ble_eq_true rfl⟩) (gq_preV hH hK hN (va_recv hK (gq_one (c := 2) (k := 0) hH rfl (gk_c2 cI cT ad z13.2)) (ci := 1) (q0 := 0) rfl rfl)) rfl rfl hl.1 rfl (lv_room (Nat.le_of_ble_eq_true rfl)) gd_Lv_insert_112 ⟨Nat.zero_le _, Nat.zero_le _⟩) hA hS (fun H locs hH hS => ?_)
            cases hf
            exact W.vret hx hb hr (fun t ht hW => ⟨⟨_, rfl, rfl, ⟨by rw [ht]; exact hH, va_K.moved hW.alike hK⟩⟩, hS.F ht⟩) hS.2.2 gd_Lv_insert_115
      · replace hf := gj_e c21 hf
        refine lv_aload_n hx hb gd_Lv_insert_43 rfl (lv_at hl 0 rfl) ?_
        refine va_get (D := D) (ci := 1) (C := gR_Lv) (T := gT_Lv) (N := 4) hx hb hts (fun w h => List.mem_cons_of_mem _ (gl_Lv w h)) hown hK (gq_one (c := 2) (k := 0) hH rfl (gk_c2 cI cT ad u)) 0 rfl rfl 0 (by decide) (ht _ gt_69) (fun _ h9 => h9) rfl gd_Lv_insert_44 ?_
        refine lv_iload hx hb gd_Lv_insert_47 (lv_at hl 4 rfl) ?_
        refine lv_aload_n hx hb gd_Lv_insert_49 rfl (lv_at hl 0 rfl) ?_
        refine va_get (D := D) (ci := 1) (C := gR_Lv) (T := gT_Lv) (N := 4) hx hb hts (fun w h => List.mem_cons_of_mem _ (gl_Lv w h)) hown hK (gq_one (c := 2) (k := 0) hH rfl (gk_c2 cI cT ad u)) 0 rfl rfl 0 (by decide) (ht _ gt_69) (fun _ h9 => h9) rfl gd_Lv_insert_50 ?_
        refine lv_iload hx hb gd_Lv_insert_53 (lv_at hl 4 rfl) ?_
        refine lv_iconst (v := 1) hx hb gd_Lv_insert_55 (by decide) ?_
        refine lv_isub hx hb gd_Lv_insert_56 ?_
        obtain ⟨hg19, hf⟩ := gj_g hf
        refine va_iald (D := D) hx hb hK (gq_one (c := 3) (k := 0) hH rfl (gk_c3 cI cT ad u)) 0 0 rfl rfl hg19 gd_Lv_insert_57 ?_
        obtain ⟨hg20, hf⟩ := gj_g hf
        refine gq_iast (D := D) (ca := 3) (ka := 0) (pp' := gk_pc cI cT ad (gk_sI u 5 (Int32.toNatClampNeg x4) (u.1 5 (Int32.toNatClampNeg (x4 - 1))))) hx hb hK hH hI hA rfl (gk_c3 cI cT ad u) 0 rfl hg20 (gk_w5 cI cT ad u (Int32.toNatClampNeg x4) (u.1 5 (Int32.toNatClampNeg (x4 - 1)))) (gk_o5 cI cT ad u (Int32.toNatClampNeg x4) (u.1 5 (Int32.toNatClampNeg (x4 - 1)))) hS gd_Lv_insert_58 (fun H locs hH hS => ?_)
        refine lv_iinc (v := x4 + (-1)) (lv' := [(4, .int (x4 + (-1))), (0, .ref (ad 2 0)), (1, .int x1), (2, .int x2), (3, .int x3)]) hx hb gd_Lv_insert_59 hl (k := 4) rfl rfl (by decide) rfl (fun ls hl => ?_)
        refine lv_goto (tgt := 37) hx hb gd_Lv_insert_62 (by decide) ?_
        exact ih x1 x2 x3 (x4 + (-1)) (gk_sI u 5 (Int32.toNatClampNeg x4) (u.1 5 (Int32.toNatClampNeg (x4 - 1)))) _ _ _ hf hH hS (lv_sub hl [1, 2, 3, 4, 0] rfl)
  unfold fn_Lv_insert at hf
  refine lv_iload_n hx hb gd_Lv_insert_0 rfl (lv_at hl 1 rfl) ?_
  refine lv_if_lt (tgt := 24) hx hb gd_Lv_insert_1 (by decide) (fun c24 => ?_) (fun c24 => ?_)
  · replace hf := gj_t c24 hf
    cases hf
    exact W.vret hx hb hr (fun t ht hW => ⟨⟨_, rfl, rfl, ⟨by rw [ht]; exact hH, va_K.moved hW.alike hK⟩⟩, hS.F ht⟩) hS.2.2 gd_Lv_insert_24
  · replace hf := gj_e c24 hf
    refine lv_iload_n hx hb gd_Lv_insert_4 rfl (lv_at hl 1 rfl) ?_
    refine lv_aload_n hx hb gd_Lv_insert_5 rfl (lv_at hl 0 rfl) ?_
    refine va_get (D := D) (ci := 1) (C := gR_Lv) (T := gT_Lv) (N := 4) hx hb hts (fun w h => List.mem_cons_of_mem _ (gl_Lv w h)) hown hK (gq_one (c := 2) (k := 0) hH rfl (gk_c2 cI cT ad u)) 0 rfl rfl 1 (by decide) (ht _ gt_70) (fun _ h9 => h9) rfl gd_Lv_insert_6 ?_
    refine lv_icmp_gt (tgt := 24) hx hb gd_Lv_insert_9 (by decide) (fun c23 => ?_) (fun c23 => ?_)
    · replace hf := gj_t c23 hf
      cases hf
      exact W.vret hx hb hr (fun t ht hW => ⟨⟨_, rfl, rfl, ⟨by rw [ht]; exact hH, va_K.moved hW.alike hK⟩⟩, hS.F ht⟩) hS.2.2 gd_Lv_insert_24
    · replace hf := gj_e c23 hf
      refine lv_aload_n hx hb gd_Lv_insert_12 rfl (lv_at hl 0 rfl) ?_
      refine va_get (D := D) (ci := 1) (C := gR_Lv) (T := gT_Lv) (N := 4) hx hb hts (fun w h => List.mem_cons_of_mem _ (gl_Lv w h)) hown hK (gq_one (c := 2) (k := 0) hH rfl (gk_c2 cI cT ad u)) 0 rfl rfl 1 (by decide) (ht _ gt_70) (fun _ h9 => h9) rfl gd_Lv_insert_13 ?_
      refine lv_aload_n hx hb gd_Lv_insert_16 rfl (lv_at hl 0 rfl) ?_
      refine va_get (D := D) (ci := 1) (C := gR_Lv) (T := gT_Lv) (N := 4) hx hb hts (fun w h => List.mem_cons_of_mem _ (gl_Lv w h)) hown hK (gq_one (c := 2) (k := 0) hH rfl (gk_c2 cI cT ad u)) 0 rfl rfl 0 (by decide) (ht _ gt_69) (fun _ h9 => h9) rfl gd_Lv_insert_17 ?_
      refine va_alen (D := D) (v := 100) hx hb hK (gq_one (c := 3) (k := 0) hH rfl (gk_c3 cI cT ad u)) 0 0 rfl rfl rfl gd_Lv_insert_20 ?_
      refine lv_icmp_lt (tgt := 25) hx hb gd_Lv_insert_21 (by decide) (fun c22 => ?_) (fun c22 => ?_)
      · replace hf := gj_t c22 hf
        refine lv_aload_n hx hb gd_Lv_insert_25 rfl (lv_at hl 0 rfl) ?_
        refine lv_iload_n hx hb gd_Lv_insert_26 rfl (lv_at hl 1 rfl) ?_
        obtain ⟨z1, hc2, hf⟩ := Option.bind_eq_some_iff.mp hf
        refine gq_calli (va_runV (As := [.int p1]) (rest := []) ⟨hx, hb, hml, hown, hts⟩ (ct_Lv_leafOf l D cI cT ad hI u p1 z1 hc2) (cwV 1 hts (gt_V gt_189 gt_191 (gt_sel (List.mem_of_getElem? (i := 7) rfl)) gt_4 gt_192) rfl rfl rfl (by decide +kernel) ⟨Nat.le_of_ble_eq_true rfl, Nat.le_of_ble_eq_true rfl⟩) (gq_preV hH hK hN (va_recv hK (gq_one (c := 2) (k := 0) hH rfl (gk_c2 cI cT ad u)) (ci := 1) (q0 := 0) rfl rfl)) rfl rfl hl.1 rfl (lv_room (Nat.le_of_ble_eq_true rfl)) gd_Lv_insert_27 ⟨Nat.zero_le _, Nat.zero_le _⟩) hA hS (fun H locs hH hS => ?_)
        refine lv_istore_n (lv' := [(3, .int z1.1), (0, .ref (ad 2 0)), (1, .int p1), (2, .int p2)]) hx hb gd_Lv_insert_30 rfl hl (by decide) rfl (fun ls hl => ?_)
        refine lv_aload_n hx hb gd_Lv_insert_31 rfl (lv_at hl 1 rfl) ?_
        refine va_get (D := D) (ci := 1) (C := gR_Lv) (T := gT_Lv) (N := 4) hx hb hts (fun w h => List.mem_cons_of_mem _ (gl_Lv w h)) hown hK (gq_one (c := 2) (k := 0) hH rfl (gk_c2 cI cT ad z1.2)) 0 rfl rfl 1 (by decide) (ht _ gt_70) (fun _ h9 => h9) rfl gd_Lv_insert_32 ?_
        refine lv_istore (lv' := [(4, .int (z1.2.1 6 0)), (3, .int z1.1), (0, .ref (ad 2 0)), (1, .int p1), (2, .int p2)]) hx hb gd_Lv_insert_35 hl (by decide) rfl (fun ls hl => ?_)
        exact L37 gk_fu p1 p2 z1.1 (z1.2.1 6 0) z1.2 _ _ _ hf hH hS (lv_sub hl [2, 3, 4, 1, 0] rfl)
      · replace hf := gj_e c22 hf
        cases hf
        exact W.vret hx hb hr (fun t ht hW => ⟨⟨_, rfl, rfl, ⟨by rw [ht]; exact hH, va_K.moved hW.alike hK⟩⟩, hS.F ht⟩) hS.2.2 gd_Lv_insert_24
set_option maxHeartbeats 4000000 in
set_option maxRecDepth 100000 in
theorem ct_Bk_bringTape (l : Launch) (D : va_G) (cI cT : ClassId) (ad : Nat → Nat → Nat) (hI : gq_I gk_vd ad) (u : gk_St) (p1 : Int32) (p2 : Int32) (z : Int32 × gk_St) (hf : fn_Bk_bringTape p1 p2 u = some z) : Met l gy_Bk_bringTape gws_Bk_bringTape ({ frames := 3, cells := 0, slots := 0, locals := 68 }) (va_Pc [.ref (ad 0 0), .int p1, .int p2] (gq_pre D gc_cl (gk_tys cI cT) gk_vd ad gk_NF gk_NM (gk_pc cI cT ad u))) (va_Qi (fun r u2 => r = z.1 ∧ u2 = z.2) (fun u2 t => gq_B D gc_cl (gk_tys cI cT) gk_vd ad (gk_pc cI cT ad u2) t) (gq_A gk_vd ad)) 0 0 (gq_A gk_vd ad) := by
  refine Met.ofW (cc := gb_Bk_bringTape) (maxL := 4) (ret := (some .int)) (by decide) rfl ?_
  intro p e s m args below meth c s₁ B hml hv
  obtain ⟨rfl, hH, hK, hN⟩ := hv
  have hx := B.exec
  have hb := B.bytes
  have hr := B.returns
  have hts := atoms_spec (ws := gws_Bk_bringTape) B.pre
  have ht := fun (w : Cond) (h : w ∈ gt_T) => hts w (List.mem_cons_of_mem _ h)
  have hown : s.vm.findClass gR_Bk = some m.cls := findClass_of_methodNamed B.named
  have hlocks := B.notSynchronized
  have hA : ∀ q, (gq_A gk_vd ad) q → (gq_A gk_vd ad) q := fun _ h => h
  have hS : va_S (gq_A gk_vd ad) s.heap s.heap [] := va_S.rf
  have hl := lv_entry ([.ref (ad 0 0), .int p1, .int p2]) (n := 4) (Nat.le_of_ble_eq_true rfl)
  rw [lg_entry_eq]
  generalize (lg_sl ([.ref (ad 0 0), .int p1, .int p2]) ++ List.replicate (4 - (lg_sl ([.ref (ad 0 0), .int p1, .int p2])).length) Slot.unset).toArray = ls at hl ⊢
  have hl : lv_has ls 4 [(0, .ref (ad 0 0)), (1, .int p1), (2, .int p2)] := hl
  unfold fn_Bk_bringTape at hf
  refine lv_aload_n hx hb gd_Bk_bringTape_0 rfl (lv_at hl 0 rfl) ?_
  obtain ⟨z1, hc2, hf⟩ := Option.bind_eq_some_iff.mp hf
  refine gq_calli (va_runV (As := []) (rest := []) ⟨hx, hb, hml, hown, hts⟩ (ct_Bk_leastFree l D cI cT ad hI u  z1 hc2) (cwV 0 hts (gt_V gt_173 gt_175 (gt_sel (List.mem_of_getElem? (i := 6) rfl)) gt_1 gt_176) rfl rfl rfl (by decide +kernel) ⟨Nat.le_of_ble_eq_true rfl, Nat.le_of_ble_eq_true rfl⟩) (gq_preV hH hK hN (va_recv hK (gq_one (c := 0) (k := 0) hH rfl (gk_c0 cI cT ad u)) (ci := 0) (q0 := 0) rfl rfl)) rfl rfl hl.1 rfl (lv_room (Nat.le_of_ble_eq_true rfl)) gd_Bk_bringTape_1 ⟨Nat.zero_le _, Nat.zero_le _⟩) hA hS (fun H locs hH hS => ?_)
  refine lv_istore_n (lv' := [(3, .int z1.1), (0, .ref (ad 0 0)), (1, .int p1), (2, .int p2)]) hx hb gd_Bk_bringTape_4 rfl hl (by decide) rfl (fun ls hl => ?_)
  refine lv_iload_n hx hb gd_Bk_bringTape_5 rfl (lv_at hl 0 rfl) ?_
  refine lv_iconst (v := (-1)) hx hb gd_Bk_bringTape_6 (by decide) ?_
  refine lv_icmp_eq (tgt := 19) hx hb gd_Bk_bringTape_7 (by decide) (fun c9 => ?_) (fun c9 => ?_)
  · replace hf := gj_t c9 hf
    refine lv_iconst (v := (-1)) hx hb gd_Bk_bringTape_19 (by decide) ?_
    cases hf
    exact W.iret hx hb hr (fun t ht hW => ⟨⟨_, _, rfl, ⟨rfl, rfl⟩, ⟨by rw [ht]; exact hH, va_K.moved hW.alike hK⟩⟩, hS.F ht⟩) hS.2.2 gd_Bk_bringTape_20
  · replace hf := gj_e c9 hf
    refine lv_aload_n hx hb gd_Bk_bringTape_10 rfl (lv_at hl 1 rfl) ?_
    refine va_get (D := D) (ci := 0) (C := gR_Bk) (T := gT_Bk) (N := 5) hx hb hts (fun w h => List.mem_cons_of_mem _ (gl_Bk w h)) hown hK (gq_one (c := 0) (k := 0) hH rfl (gk_c0 cI cT ad z1.2)) 0 rfl rfl 1 (by decide) (ht _ gt_86) (fun _ h9 => h9) rfl gd_Bk_bringTape_11 ?_
    refine lv_iload_n hx hb gd_Bk_bringTape_14 rfl (lv_at hl 0 rfl) ?_
    obtain ⟨hg3, hf⟩ := gj_g hf
    refine va_aldq (D := D) hx hb hK (gq_one (c := 1) (k := 0) hH rfl (gk_c1 cI cT ad z1.2)) 0 1 rfl rfl hg3 gd_Bk_bringTape_15 ?_
    refine W.eq (g2 := F0 m 16 ls [.ref (ad 7 (Int32.toNatClampNeg z1.1))]) rfl ?_
    refine lv_ifnonnull (tgt := 21) hx hb gd_Bk_bringTape_16 (by decide) ?_
    refine lv_aload_n hx hb gd_Bk_bringTape_21 rfl (lv_at hl 1 rfl) ?_
    refine va_get (D := D) (ci := 0) (C := gR_Bk) (T := gT_Bk) (N := 5) hx hb hts (fun w h => List.mem_cons_of_mem _ (gl_Bk w h)) hown hK (gq_one (c := 0) (k := 0) hH rfl (gk_c0 cI cT ad z1.2)) 0 rfl rfl 1 (by decide) (ht _ gt_86) (fun _ h9 => h9) rfl gd_Bk_bringTape_22 ?_
    refine lv_iload_n hx hb gd_Bk_bringTape_25 rfl (lv_at hl 0 rfl) ?_
    obtain ⟨hg4, hf⟩ := gj_g hf
    refine va_aldq (D := D) hx hb hK (gq_one (c := 1) (k := 0) hH rfl (gk_c1 cI cT ad z1.2)) 0 1 rfl rfl hg4 gd_Bk_bringTape_26 ?_
    refine W.eq (g2 := F0 m 27 ls [.ref (ad 7 (Int32.toNatClampNeg z1.1))]) rfl ?_
    refine lv_iload_n hx hb gd_Bk_bringTape_27 rfl (lv_at hl 2 rfl) ?_
    refine lv_aload_n hx hb gd_Bk_bringTape_28 rfl (lv_at hl 1 rfl) ?_
    refine va_get (D := D) (ci := 0) (C := gR_Bk) (T := gT_Bk) (N := 5) hx hb hts (fun w h => List.mem_cons_of_mem _ (gl_Bk w h)) hown hK (gq_one (c := 0) (k := 0) hH rfl (gk_c0 cI cT ad z1.2)) 0 rfl rfl 0 (by decide) (ht _ gt_85) (fun _ h9 => h9) rfl gd_Bk_bringTape_29 ?_
    obtain ⟨z5, hc6, hf⟩ := Option.bind_eq_some_iff.mp hf
    refine gq_callv (va_runV (As := [.int p1, .ref (ad 6 100)]) (rest := []) ⟨hx, hb, hml, hown, hts⟩ (ct_Tm_comeAs l D cI cT ad hI z1.2 (Int32.toNatClampNeg z1.1) (gj_in_lt hg4) p1 100 (Nat.le_refl 100) z5 hc6) (cwV 2 hts (gt_V gt_177 gt_178 gt_179 gt_3 gt_180) rfl rfl rfl (by decide +kernel) ⟨Nat.le_of_ble_eq_true rfl, Nat.le_of_ble_eq_true rfl⟩) (gq_preV hH hK hN (va_recv hK (gq_one (c := 7) (k := (Int32.toNatClampNeg z1.1)) hH (gj_in_lt hg4) (gk_c7 cI cT ad z1.2 (Int32.toNatClampNeg z1.1))) (ci := 3) (q0 := 0) rfl rfl)) rfl rfl hl.1 rfl (lv_room (Nat.le_of_ble_eq_true rfl)) gd_Bk_bringTape_32 ⟨Nat.zero_le _, Nat.zero_le _⟩) hA hS (fun H locs hH hS => ?_)
    refine lv_aload_n hx hb gd_Bk_bringTape_35 rfl (lv_at hl 1 rfl) ?_
    refine va_get (D := D) (ci := 0) (C := gR_Bk) (T := gT_Bk) (N := 5) hx hb hts (fun w h => List.mem_cons_of_mem _ (gl_Bk w h)) hown hK (gq_one (c := 0) (k := 0) hH rfl (gk_c0 cI cT ad z5)) 0 rfl rfl 2 (by decide) (ht _ gt_87) (fun _ h9 => h9) rfl gd_Bk_bringTape_36 ?_
    refine lv_iload_n hx hb gd_Bk_bringTape_39 rfl (lv_at hl 3 rfl) ?_
    refine lv_iload_n hx hb gd_Bk_bringTape_40 rfl (lv_at hl 0 rfl) ?_
    obtain ⟨z7, hc8, hf⟩ := Option.bind_eq_some_iff.mp hf
    refine gq_callv (va_runV (As := [.int p2, .int z1.1]) (rest := []) ⟨hx, hb, hml, hown, hts⟩ (ct_Lv_insert l D cI cT ad hI z5 p2 z1.1 z7 hc8) (cwV 2 hts (gt_V gt_185 gt_186 gt_187 gt_4 gt_188) rfl rfl rfl (by decide +kernel) ⟨Nat.le_of_ble_eq_true rfl, Nat.le_of_ble_eq_true rfl⟩) (gq_preV hH hK hN (va_recv hK (gq_one (c := 2) (k := 0) hH rfl (gk_c2 cI cT ad z5)) (ci := 1) (q0 := 0) rfl rfl)) rfl rfl hl.1 rfl (lv_room (Nat.le_of_ble_eq_true rfl)) gd_Bk_bringTape_41 ⟨Nat.zero_le _, Nat.zero_le _⟩) hA hS (fun H locs hH hS => ?_)
    refine lv_iload_n hx hb gd_Bk_bringTape_44 rfl (lv_at hl 0 rfl) ?_
    cases hf
    exact W.iret hx hb hr (fun t ht hW => ⟨⟨_, _, rfl, ⟨rfl, rfl⟩, ⟨by rw [ht]; exact hH, va_K.moved hW.alike hK⟩⟩, hS.F ht⟩) hS.2.2 gd_Bk_bringTape_45
set_option maxHeartbeats 4000000 in
set_option maxRecDepth 100000 in
theorem ct_Bk_useTape (l : Launch) (D : va_G) (cI cT : ClassId) (ad : Nat → Nat → Nat) (hI : gq_I gk_vd ad) (u : gk_St) (p1 : Int32) (z : Int32 × gk_St) (hf : fn_Bk_useTape p1 u = some z) : Met l gy_Bk_useTape gws_Bk_useTape ({ frames := 5, cells := 0, slots := 0, locals := 111 }) (va_Pc [.ref (ad 0 0), .int p1] (gq_pre D gc_cl (gk_tys cI cT) gk_vd ad gk_NF gk_NM (gk_pc cI cT ad u))) (va_Qi (fun r u2 => r = z.1 ∧ u2 = z.2) (fun u2 t => gq_B D gc_cl (gk_tys cI cT) gk_vd ad (gk_pc cI cT ad u2) t) (gq_A gk_vd ad)) 0 0 (gq_A gk_vd ad) := by
  refine Met.ofW (cc := gb_Bk_useTape) (maxL := 5) (ret := (some .int)) (by decide) rfl ?_
  intro p e s m args below meth c s₁ B hml hv
  obtain ⟨rfl, hH, hK, hN⟩ := hv
  have hx := B.exec
  have hb := B.bytes
  have hr := B.returns
  have hts := atoms_spec (ws := gws_Bk_useTape) B.pre
  have ht := fun (w : Cond) (h : w ∈ gt_T) => hts w (List.mem_cons_of_mem _ h)
  have hown : s.vm.findClass gR_Bk = some m.cls := findClass_of_methodNamed B.named
  have hlocks := B.notSynchronized
  have hA : ∀ q, (gq_A gk_vd ad) q → (gq_A gk_vd ad) q := fun _ h => h
  have hS : va_S (gq_A gk_vd ad) s.heap s.heap [] := va_S.rf
  have hl := lv_entry ([.ref (ad 0 0), .int p1]) (n := 5) (Nat.le_of_ble_eq_true rfl)
  rw [lg_entry_eq]
  generalize (lg_sl ([.ref (ad 0 0), .int p1]) ++ List.replicate (5 - (lg_sl ([.ref (ad 0 0), .int p1])).length) Slot.unset).toArray = ls at hl ⊢
  have hl : lv_has ls 5 [(0, .ref (ad 0 0)), (1, .int p1)] := hl
  unfold fn_Bk_useTape at hf
  refine lv_aload_n hx hb gd_Bk_useTape_0 rfl (lv_at hl 0 rfl) ?_
  refine lv_iload_n hx hb gd_Bk_useTape_1 rfl (lv_at hl 1 rfl) ?_
  obtain ⟨z1, hc2, hf⟩ := Option.bind_eq_some_iff.mp hf
  refine gq_calli (va_runV (As := [.int p1]) (rest := []) ⟨hx, hb, hml, hown, hts⟩ (ct_Bk_placeOfTape l D cI cT ad hI u p1 z1 hc2) (cwV 1 hts (gt_V gt_135 gt_137 (gt_sel (List.mem_of_getElem? (i := 1) rfl)) gt_1 gt_138) rfl rfl rfl (by decide +kernel) ⟨Nat.le_of_ble_eq_true rfl, Nat.le_of_ble_eq_true rfl⟩) (gq_preV hH hK hN (va_recv hK (gq_one (c := 0) (k := 0) hH rfl (gk_c0 cI cT ad u)) (ci := 0) (q0 := 0) rfl rfl)) rfl rfl hl.1 rfl (lv_room (Nat.le_of_ble_eq_true rfl)) gd_Bk_useTape_2 ⟨Nat.zero_le _, Nat.zero_le _⟩) hA hS (fun H locs hH hS => ?_)
  refine lv_istore_n (lv' := [(2, .int z1.1), (0, .ref (ad 0 0)), (1, .int p1)]) hx hb gd_Bk_useTape_5 rfl hl (by decide) rfl (fun ls hl => ?_)
  refine lv_aload_n hx hb gd_Bk_useTape_6 rfl (lv_at hl 1 rfl) ?_
  refine va_get (D := D) (ci := 0) (C := gR_Bk) (T := gT_Bk) (N := 5) hx hb hts (fun w h => List.mem_cons_of_mem _ (gl_Bk w h)) hown hK (gq_one (c := 0) (k := 0) hH rfl (gk_c0 cI cT ad z1.2)) 0 rfl rfl 2 (by decide) (ht _ gt_87) (fun _ h9 => h9) rfl gd_Bk_useTape_7 ?_
  refine lv_iload_n hx hb gd_Bk_useTape_10 rfl (lv_at hl 0 rfl) ?_
  obtain ⟨z3, hc4, hf⟩ := Option.bind_eq_some_iff.mp hf
  refine gq_calli (va_runV (As := [.int z1.1]) (rest := []) ⟨hx, hb, hml, hown, hts⟩ (ct_Lv_numberAt l D cI cT ad hI z1.2 z1.1 z3 hc4) (cwV 1 hts (gt_V gt_139 gt_140 gt_141 gt_4 gt_142) rfl rfl rfl (by decide +kernel) ⟨Nat.le_of_ble_eq_true rfl, Nat.le_of_ble_eq_true rfl⟩) (gq_preV hH hK hN (va_recv hK (gq_one (c := 2) (k := 0) hH rfl (gk_c2 cI cT ad z1.2)) (ci := 1) (q0 := 0) rfl rfl)) rfl rfl hl.1 rfl (lv_room (Nat.le_of_ble_eq_true rfl)) gd_Bk_useTape_11 ⟨Nat.zero_le _, Nat.zero_le _⟩) hA hS (fun H locs hH hS => ?_)
  refine lv_istore_n (lv' := [(3, .int z3.1), (2, .int z1.1), (0, .ref (ad 0 0)), (1, .int p1)]) hx hb gd_Bk_useTape_14 rfl hl (by decide) rfl (fun ls hl => ?_)
  refine lv_aload_n hx hb gd_Bk_useTape_15 rfl (lv_at hl 2 rfl) ?_
  refine lv_iload_n hx hb gd_Bk_useTape_16 rfl (lv_at hl 0 rfl) ?_
  refine lv_iload_n hx hb gd_Bk_useTape_17 rfl (lv_at hl 3 rfl) ?_
  obtain ⟨z5, hc6, hf⟩ := Option.bind_eq_some_iff.mp hf
  refine gq_calli (va_runV (As := [.int z3.1, .int p1]) (rest := []) ⟨hx, hb, hml, hown, hts⟩ (ct_Bk_isTape l D cI cT ad hI z3.2 z3.1 p1 z5 hc6) (cwV 2 hts (gt_V gt_165 gt_167 (gt_sel (List.mem_of_getElem? (i := 4) rfl)) gt_1 gt_168) rfl rfl rfl (by decide +kernel) ⟨Nat.le_of_ble_eq_true rfl, Nat.le_of_ble_eq_true rfl⟩) (gq_preV hH hK hN (va_recv hK (gq_one (c := 0) (k := 0) hH rfl (gk_c0 cI cT ad z3.2)) (ci := 0) (q0 := 0) rfl rfl)) rfl rfl hl.1 rfl (lv_room (Nat.le_of_ble_eq_true rfl)) gd_Bk_useTape_18 ⟨Nat.zero_le _, Nat.zero_le _⟩) hA hS (fun H locs hH hS => ?_)
  refine lv_if_ne (tgt := 31) hx hb gd_Bk_useTape_21 (by decide) (fun c19 => ?_) (fun c19 => ?_)
  · replace hf := gj_e c19 hf
    refine lv_aload_n hx hb gd_Bk_useTape_31 rfl (lv_at hl 2 rfl) ?_
    refine lv_iload_n hx hb gd_Bk_useTape_32 rfl (lv_at hl 0 rfl) ?_
    obtain ⟨⟨o9, u10⟩, hc8, hf⟩ := Option.bind_eq_some_iff.mp hf
    refine gq_calle (va_runV (As := [.int z3.1]) (rest := []) ⟨hx, hb, hml, hown, hts⟩ (ct_Bk_inBook l D cI cT ad hI z5.2 z3.1 (o9, u10) hc8) (cwV 1 hts (gt_V gt_147 gt_149 (gt_sel (List.mem_of_getElem? (i := 3) rfl)) gt_1 gt_150) rfl rfl rfl (by decide +kernel) ⟨Nat.le_of_ble_eq_true rfl, Nat.le_of_ble_eq_true rfl⟩) (gq_preV hH hK hN (va_recv hK (gq_one (c := 0) (k := 0) hH rfl (gk_c0 cI cT ad z5.2)) (ci := 0) (q0 := 0) rfl rfl)) rfl rfl hl.1 rfl (lv_room (Nat.le_of_ble_eq_true rfl)) gd_Bk_useTape_33 ⟨Nat.zero_le _, Nat.zero_le _⟩) hA hS (fun H locs hH hS => ?_)
    cases o9 with
    | none =>
      have hH : gq_H D gc_cl gk_vd ad (gk_pc cI cT ad u10) H := hH
      refine W.eq (g2 := F0 m 36 ls [.null]) rfl ?_
      dsimp only at hf
      refine lv_astoreN (lv' := [(4, .null), (3, .int z3.1), (2, .int z1.1), (0, .ref (ad 0 0)), (1, .int p1)]) hx hb gd_Bk_useTape_36 hl (by decide) rfl (fun ls hl => ?_)
      refine lv_aloadN hx hb gd_Bk_useTape_38 (lv_at hl 0 rfl) ?_
      refine lv_ifnonnullN hx hb gd_Bk_useTape_40 ?_
      refine lv_bipush (v := (-3)) hx hb gd_Bk_useTape_43 (by decide) ?_
      cases hf
      exact W.iret hx hb hr (fun t ht hW => ⟨⟨_, _, rfl, ⟨rfl, rfl⟩, ⟨by rw [ht]; exact hH, va_K.moved hW.alike hK⟩⟩, hS.F ht⟩) hS.2.2 gd_Bk_useTape_45
    | some k11 =>
      have hH : gq_H D gc_cl gk_vd ad (gk_pc cI cT ad u10) H := hH
      refine W.eq (g2 := F0 m 36 ls [.ref (ad 7 k11)]) rfl ?_
      dsimp only at hf
      refine lv_astore (lv' := [(4, .ref (ad 7 k11)), (3, .int z3.1), (2, .int z1.1), (0, .ref (ad 0 0)), (1, .int p1)]) hx hb gd_Bk_useTape_36 hl (by decide) rfl (fun ls hl => ?_)
      refine lv_aload hx hb gd_Bk_useTape_38 (lv_at hl 0 rfl) ?_
      refine lv_ifnonnull (tgt := 46) hx hb gd_Bk_useTape_40 (by decide) ?_
      refine lv_aload hx hb gd_Bk_useTape_46 (lv_at hl 0 rfl) ?_
      refine lv_dup hx hb gd_Bk_useTape_48 rfl ?_
      refine va_getN (D := D) (ci := 3) (C := gR_Tm) (T := gT_Tm) (N := 5) hx hb hts (fun w h => List.mem_cons_of_mem _ (gl_Tm w h)) hown hK (gq_one (c := 7) (k := k11) hH (ok_Bk_inBook hc8) (gk_c7 cI cT ad u10 k11)) 0 rfl rfl 3 (by decide) (va_Nw.use rfl (hN.1 _ (List.mem_of_getElem? (i := 4) rfl))) (fun _ h9 => h9) rfl gd_Bk_useTape_49 ?_
      refine lv_iconst (v := 1) hx hb gd_Bk_useTape_52 (by decide) ?_
      refine lv_iadd hx hb gd_Bk_useTape_53 ?_
      refine gq_putN (D := D) (ci := 3) (C := gR_Tm) (T := gT_Tm) (N := 5) (ca := 7) (ka := k11) (pp' := gk_pc cI cT ad (gk_sI u10 3 k11 ((u10.1 3 k11) + 1))) (ty := .int) hx hb hts (fun w h => List.mem_cons_of_mem _ (gl_Tm w h)) gF_Tm gf_Tm gn_Tm hown hK hH hI hA (ok_Bk_inBook hc8) (gk_c7 cI cT ad u10 k11) rfl 3 (by decide) (va_Nw.use rfl (hN.1 _ (List.mem_of_getElem? (i := 4) rfl))) (fun _ h9 => h9) rfl (by decide +kernel) rfl rfl (Nat.le_of_ble_eq_true rfl) (gk_w3 cI cT ad u10 k11 ((u10.1 3 k11) + 1)) (gk_o3 cI cT ad u10 k11 ((u10.1 3 k11) + 1)) hS gd_Bk_useTape_54 (fun H locs hH hS => ?_)
      refine lv_iload_n hx hb gd_Bk_useTape_57 rfl (lv_at hl 1 rfl) ?_
      cases hf
      exact W.iret hx hb hr (fun t ht hW => ⟨⟨_, _, rfl, ⟨rfl, rfl⟩, ⟨by rw [ht]; exact hH, va_K.moved hW.alike hK⟩⟩, hS.F ht⟩) hS.2.2 gd_Bk_useTape_58
  · replace hf := gj_t c19 hf
    refine lv_aload_n hx hb gd_Bk_useTape_24 rfl (lv_at hl 2 rfl) ?_
    refine lv_iload_n hx hb gd_Bk_useTape_25 rfl (lv_at hl 3 rfl) ?_
    refine lv_iload_n hx hb gd_Bk_useTape_26 rfl (lv_at hl 1 rfl) ?_
    obtain ⟨z12, hc13, hf⟩ := Option.bind_eq_some_iff.mp hf
    refine gq_calli (va_runV (As := [.int p1, .int z1.1]) (rest := []) ⟨hx, hb, hml, hown, hts⟩ (ct_Bk_bringTape l D cI cT ad hI z5.2 p1 z1.1 z12 hc13) (cwV 2 hts (gt_V gt_169 gt_171 (gt_sel (List.mem_of_getElem? (i := 5) rfl)) gt_1 gt_172) rfl rfl rfl (by decide +kernel) ⟨Nat.le_of_ble_eq_true rfl, Nat.le_of_ble_eq_true rfl⟩) (gq_preV hH hK hN (va_recv hK (gq_one (c := 0) (k := 0) hH rfl (gk_c0 cI cT ad z5.2)) (ci := 0) (q0 := 0) rfl rfl)) rfl rfl hl.1 rfl (lv_room (Nat.le_of_ble_eq_true rfl)) gd_Bk_useTape_27 ⟨Nat.zero_le _, Nat.zero_le _⟩) hA hS (fun H locs hH hS => ?_)
    refine lv_istore_n (lv' := [(3, .int z12.1), (2, .int z1.1), (0, .ref (ad 0 0)), (1, .int p1)]) hx hb gd_Bk_useTape_30 rfl hl (by decide) rfl (fun ls hl => ?_)
    refine lv_aload_n hx hb gd_Bk_useTape_31 rfl (lv_at hl 2 rfl) ?_
    refine lv_iload_n hx hb gd_Bk_useTape_32 rfl (lv_at hl 0 rfl) ?_
    obtain ⟨⟨o16, u17⟩, hc15, hf⟩ := Option.bind_eq_some_iff.mp hf
    refine gq_calle (va_runV (As := [.int z12.1]) (rest := []) ⟨hx, hb, hml, hown, hts⟩ (ct_Bk_inBook l D cI cT ad hI z12.2 z12.1 (o16, u17) hc15) (cwV 1 hts (gt_V gt_147 gt_149 (gt_sel (List.mem_of_getElem? (i := 3) rfl)) gt_1 gt_150) rfl rfl rfl (by decide +kernel) ⟨Nat.le_of_ble_eq_true rfl, Nat.le_of_ble_eq_true rfl⟩) (gq_preV hH hK hN (va_recv hK (gq_one (c := 0) (k := 0) hH rfl (gk_c0 cI cT ad z12.2)) (ci := 0) (q0 := 0) rfl rfl)) rfl rfl hl.1 rfl (lv_room (Nat.le_of_ble_eq_true rfl)) gd_Bk_useTape_33 ⟨Nat.zero_le _, Nat.zero_le _⟩) hA hS (fun H locs hH hS => ?_)
    cases o16 with
    | none =>
      have hH : gq_H D gc_cl gk_vd ad (gk_pc cI cT ad u17) H := hH
      refine W.eq (g2 := F0 m 36 ls [.null]) rfl ?_
      dsimp only at hf
      refine lv_astoreN (lv' := [(4, .null), (3, .int z12.1), (2, .int z1.1), (0, .ref (ad 0 0)), (1, .int p1)]) hx hb gd_Bk_useTape_36 hl (by decide) rfl (fun ls hl => ?_)
      refine lv_aloadN hx hb gd_Bk_useTape_38 (lv_at hl 0 rfl) ?_
      refine lv_ifnonnullN hx hb gd_Bk_useTape_40 ?_
      refine lv_bipush (v := (-3)) hx hb gd_Bk_useTape_43 (by decide) ?_
      cases hf
      exact W.iret hx hb hr (fun t ht hW => ⟨⟨_, _, rfl, ⟨rfl, rfl⟩, ⟨by rw [ht]; exact hH, va_K.moved hW.alike hK⟩⟩, hS.F ht⟩) hS.2.2 gd_Bk_useTape_45
    | some k18 =>
      have hH : gq_H D gc_cl gk_vd ad (gk_pc cI cT ad u17) H := hH
      refine W.eq (g2 := F0 m 36 ls [.ref (ad 7 k18)]) rfl ?_
      dsimp only at hf
      refine lv_astore (lv' := [(4, .ref (ad 7 k18)), (3, .int z12.1), (2, .int z1.1), (0, .ref (ad 0 0)), (1, .int p1)]) hx hb gd_Bk_useTape_36 hl (by decide) rfl (fun ls hl => ?_)
      refine lv_aload hx hb gd_Bk_useTape_38 (lv_at hl 0 rfl) ?_
      refine lv_ifnonnull (tgt := 46) hx hb gd_Bk_useTape_40 (by decide) ?_
      refine lv_aload hx hb gd_Bk_useTape_46 (lv_at hl 0 rfl) ?_
      refine lv_dup hx hb gd_Bk_useTape_48 rfl ?_
      refine va_getN (D := D) (ci := 3) (C := gR_Tm) (T := gT_Tm) (N := 5) hx hb hts (fun w h => List.mem_cons_of_mem _ (gl_Tm w h)) hown hK (gq_one (c := 7) (k := k18) hH (ok_Bk_inBook hc15) (gk_c7 cI cT ad u17 k18)) 0 rfl rfl 3 (by decide) (va_Nw.use rfl (hN.1 _ (List.mem_of_getElem? (i := 4) rfl))) (fun _ h9 => h9) rfl gd_Bk_useTape_49 ?_
      refine lv_iconst (v := 1) hx hb gd_Bk_useTape_52 (by decide) ?_
      refine lv_iadd hx hb gd_Bk_useTape_53 ?_
      refine gq_putN (D := D) (ci := 3) (C := gR_Tm) (T := gT_Tm) (N := 5) (ca := 7) (ka := k18) (pp' := gk_pc cI cT ad (gk_sI u17 3 k18 ((u17.1 3 k18) + 1))) (ty := .int) hx hb hts (fun w h => List.mem_cons_of_mem _ (gl_Tm w h)) gF_Tm gf_Tm gn_Tm hown hK hH hI hA (ok_Bk_inBook hc15) (gk_c7 cI cT ad u17 k18) rfl 3 (by decide) (va_Nw.use rfl (hN.1 _ (List.mem_of_getElem? (i := 4) rfl))) (fun _ h9 => h9) rfl (by decide +kernel) rfl rfl (Nat.le_of_ble_eq_true rfl) (gk_w3 cI cT ad u17 k18 ((u17.1 3 k18) + 1)) (gk_o3 cI cT ad u17 k18 ((u17.1 3 k18) + 1)) hS gd_Bk_useTape_54 (fun H locs hH hS => ?_)
      refine lv_iload_n hx hb gd_Bk_useTape_57 rfl (lv_at hl 1 rfl) ?_
      cases hf
      exact W.iret hx hb hr (fun t ht hW => ⟨⟨_, _, rfl, ⟨rfl, rfl⟩, ⟨by rw [ht]; exact hH, va_K.moved hW.alike hK⟩⟩, hS.F ht⟩) hS.2.2 gd_Bk_useTape_58
set_option maxHeartbeats 4000000 in
set_option maxRecDepth 100000 in
theorem ct_Bk_add (l : Launch) (D : va_G) (cI cT : ClassId) (ad : Nat → Nat → Nat) (hI : gq_I gk_vd ad) (u : gk_St) (p1 : Int32) (z : Int32 × gk_St) (hf : fn_Bk_add p1 u = some z) : Met l gy_Bk_add gws_Bk_add ({ frames := 6, cells := 0, slots := 0, locals := 135 }) (va_Pc [.ref (ad 0 0), .int p1] (gq_pre D gc_cl (gk_tys cI cT) gk_vd ad gk_NF gk_NM (gk_pc cI cT ad u))) (va_Qi (fun r u2 => r = z.1 ∧ u2 = z.2) (fun u2 t => gq_B D gc_cl (gk_tys cI cT) gk_vd ad (gk_pc cI cT ad u2) t) (gq_A gk_vd ad)) 0 0 (gq_A gk_vd ad) := by
  refine Met.ofW (cc := gb_Bk_add) (maxL := 3) (ret := (some .int)) (by decide) rfl ?_
  intro p e s m args below meth c s₁ B hml hv
  obtain ⟨rfl, hH, hK, hN⟩ := hv
  have hx := B.exec
  have hb := B.bytes
  have hr := B.returns
  have hts := atoms_spec (ws := gws_Bk_add) B.pre
  have ht := fun (w : Cond) (h : w ∈ gt_T) => hts w (List.mem_cons_of_mem _ h)
  have hown : s.vm.findClass gR_Bk = some m.cls := findClass_of_methodNamed B.named
  have hlocks := B.notSynchronized
  have hA : ∀ q, (gq_A gk_vd ad) q → (gq_A gk_vd ad) q := fun _ h => h
  have hS : va_S (gq_A gk_vd ad) s.heap s.heap [] := va_S.rf
  have hl := lv_entry ([.ref (ad 0 0), .int p1]) (n := 3) (Nat.le_of_ble_eq_true rfl)
  rw [lg_entry_eq]
  generalize (lg_sl ([.ref (ad 0 0), .int p1]) ++ List.replicate (3 - (lg_sl ([.ref (ad 0 0), .int p1])).length) Slot.unset).toArray = ls at hl ⊢
  have hl : lv_has ls 3 [(0, .ref (ad 0 0)), (1, .int p1)] := hl
  unfold fn_Bk_add at hf
  refine lv_iload_n hx hb gd_Bk_add_0 rfl (lv_at hl 1 rfl) ?_
  obtain ⟨z1, hc2, hf⟩ := Option.bind_eq_some_iff.mp hf
  refine gq_calli (va_runS (As := [.int p1]) (rest := []) ⟨hx, hb, hml, hown, hts⟩ (ct_Bk_isKind l D cI cT ad hI u p1 z1 hc2) (va_cwS 1 hts (gt_S gt_128 gt_129 gt_1 gt_130) rfl rfl rfl (by decide +kernel) ⟨Nat.le_of_ble_eq_true rfl, Nat.le_of_ble_eq_true rfl⟩) (gq_preS hH hK hN) rfl rfl hl.1 rfl (lv_room (Nat.le_of_ble_eq_true rfl)) gd_Bk_add_1 ⟨Nat.zero_le _, Nat.zero_le _⟩) hA hS (fun H locs hH hS => ?_)
  refine lv_if_eq (tgt := 25) hx hb gd_Bk_add_4 (by decide) (fun c12 => ?_) (fun c12 => ?_)
  · replace hf := gj_t c12 hf
    refine lv_iconst (v := (-1)) hx hb gd_Bk_add_25 (by decide) ?_
    refine lv_istore_n (lv' := [(2, .int (-1)), (0, .ref (ad 0 0)), (1, .int p1)]) hx hb gd_Bk_add_26 rfl hl (by decide) rfl (fun ls hl => ?_)
    refine lv_aload_n hx hb gd_Bk_add_27 rfl (lv_at hl 1 rfl) ?_
    refine va_get (D := D) (ci := 0) (C := gR_Bk) (T := gT_Bk) (N := 5) hx hb hts (fun w h => List.mem_cons_of_mem _ (gl_Bk w h)) hown hK (gq_one (c := 0) (k := 0) hH rfl (gk_c0 cI cT ad z1.2)) 0 rfl rfl 0 (by decide) (ht _ gt_85) (fun _ h9 => h9) rfl gd_Bk_add_28 ?_
    obtain ⟨z3, hc4, hf⟩ := Option.bind_eq_some_iff.mp hf
    refine gq_callv (va_runV (As := []) (rest := []) ⟨hx, hb, hml, hown, hts⟩ (ct_Tx_empty l D cI cT ad hI z1.2 100 (Nat.le_refl 100) z3 hc4) (cwV 0 hts (gt_V gt_120 gt_121 gt_122 gt_2 gt_123) rfl rfl rfl (by decide +kernel) ⟨Nat.le_of_ble_eq_true rfl, Nat.le_of_ble_eq_true rfl⟩) (gq_preV hH hK hN (va_recv hK (gq_one (c := 6) (k := 100) hH (Nat.le_refl 100) (gk_c6 cI cT ad z1.2 100)) (ci := 2) (q0 := 0) rfl rfl)) rfl rfl hl.1 rfl (lv_room (Nat.le_of_ble_eq_true rfl)) gd_Bk_add_31 ⟨Nat.zero_le _, Nat.zero_le _⟩) hA hS (fun H locs hH hS => ?_)
    refine lv_iload_n hx hb gd_Bk_add_34 rfl (lv_at hl 0 rfl) ?_
    cases hf
    exact W.iret hx hb hr (fun t ht hW => ⟨⟨_, _, rfl, ⟨rfl, rfl⟩, ⟨by rw [ht]; exact hH, va_K.moved hW.alike hK⟩⟩, hS.F ht⟩) hS.2.2 gd_Bk_add_35
  · replace hf := gj_e c12 hf
    refine lv_aload_n hx hb gd_Bk_add_7 rfl (lv_at hl 0 rfl) ?_
    refine va_get (D := D) (ci := 0) (C := gR_Bk) (T := gT_Bk) (N := 5) hx hb hts (fun w h => List.mem_cons_of_mem _ (gl_Bk w h)) hown hK (gq_one (c := 0) (k := 0) hH rfl (gk_c0 cI cT ad z1.2)) 0 rfl rfl 0 (by decide) (ht _ gt_85) (fun _ h9 => h9) rfl gd_Bk_add_8 ?_
    refine va_getN (D := D) (ci := 2) (C := gR_Tx) (T := gT_Tx) (N := 3) hx hb hts (fun w h => List.mem_cons_of_mem _ (gl_Tx w h)) hown hK (gq_one (c := 6) (k := 100) hH (Nat.le_refl 100) (gk_c6 cI cT ad z1.2 100)) 0 rfl rfl 2 (by decide) (va_Nw.use rfl (hN.1 _ (List.mem_of_getElem? (i := 0) rfl))) (fun _ h9 => h9) rfl gd_Bk_add_11 ?_
    refine lv_if_le (tgt := 25) hx hb gd_Bk_add_14 (by decide) (fun c11 => ?_) (fun c11 => ?_)
    · replace hf := gj_t c11 hf
      refine lv_iconst (v := (-1)) hx hb gd_Bk_add_25 (by decide) ?_
      refine lv_istore_n (lv' := [(2, .int (-1)), (0, .ref (ad 0 0)), (1, .int p1)]) hx hb gd_Bk_add_26 rfl hl (by decide) rfl (fun ls hl => ?_)
      refine lv_aload_n hx hb gd_Bk_add_27 rfl (lv_at hl 1 rfl) ?_
      refine va_get (D := D) (ci := 0) (C := gR_Bk) (T := gT_Bk) (N := 5) hx hb hts (fun w h => List.mem_cons_of_mem _ (gl_Bk w h)) hown hK (gq_one (c := 0) (k := 0) hH rfl (gk_c0 cI cT ad z1.2)) 0 rfl rfl 0 (by decide) (ht _ gt_85) (fun _ h9 => h9) rfl gd_Bk_add_28 ?_
      obtain ⟨z5, hc6, hf⟩ := Option.bind_eq_some_iff.mp hf
      refine gq_callv (va_runV (As := []) (rest := []) ⟨hx, hb, hml, hown, hts⟩ (ct_Tx_empty l D cI cT ad hI z1.2 100 (Nat.le_refl 100) z5 hc6) (cwV 0 hts (gt_V gt_120 gt_121 gt_122 gt_2 gt_123) rfl rfl rfl (by decide +kernel) ⟨Nat.le_of_ble_eq_true rfl, Nat.le_of_ble_eq_true rfl⟩) (gq_preV hH hK hN (va_recv hK (gq_one (c := 6) (k := 100) hH (Nat.le_refl 100) (gk_c6 cI cT ad z1.2 100)) (ci := 2) (q0 := 0) rfl rfl)) rfl rfl hl.1 rfl (lv_room (Nat.le_of_ble_eq_true rfl)) gd_Bk_add_31 ⟨Nat.zero_le _, Nat.zero_le _⟩) hA hS (fun H locs hH hS => ?_)
      refine lv_iload_n hx hb gd_Bk_add_34 rfl (lv_at hl 0 rfl) ?_
      cases hf
      exact W.iret hx hb hr (fun t ht hW => ⟨⟨_, _, rfl, ⟨rfl, rfl⟩, ⟨by rw [ht]; exact hH, va_K.moved hW.alike hK⟩⟩, hS.F ht⟩) hS.2.2 gd_Bk_add_35
    · replace hf := gj_e c11 hf
      refine lv_aload_n hx hb gd_Bk_add_17 rfl (lv_at hl 0 rfl) ?_
      refine lv_iload_n hx hb gd_Bk_add_18 rfl (lv_at hl 1 rfl) ?_
      obtain ⟨z7, hc8, hf⟩ := Option.bind_eq_some_iff.mp hf
      refine gq_calli (va_runV (As := [.int p1]) (rest := []) ⟨hx, hb, hml, hown, hts⟩ (ct_Bk_useTape l D cI cT ad hI z1.2 p1 z7 hc8) (cwV 1 hts (gt_V gt_131 gt_133 (gt_sel (List.mem_of_getElem? (i := 0) rfl)) gt_1 gt_134) rfl rfl rfl (by decide +kernel) ⟨Nat.le_of_ble_eq_true rfl, Nat.le_of_ble_eq_true rfl⟩) (gq_preV hH hK hN (va_recv hK (gq_one (c := 0) (k := 0) hH rfl (gk_c0 cI cT ad z1.2)) (ci := 0) (q0 := 0) rfl rfl)) rfl rfl hl.1 rfl (lv_room (Nat.le_of_ble_eq_true rfl)) gd_Bk_add_19 ⟨Nat.zero_le _, Nat.zero_le _⟩) hA hS (fun H locs hH hS => ?_)
      refine lv_goto (tgt := 26) hx hb gd_Bk_add_22 (by decide) ?_
      refine lv_istore_n (lv' := [(2, .int z7.1), (0, .ref (ad 0 0)), (1, .int p1)]) hx hb gd_Bk_add_26 rfl hl (by decide) rfl (fun ls hl => ?_)
      refine lv_aload_n hx hb gd_Bk_add_27 rfl (lv_at hl 1 rfl) ?_
      refine va_get (D := D) (ci := 0) (C := gR_Bk) (T := gT_Bk) (N := 5) hx hb hts (fun w h => List.mem_cons_of_mem _ (gl_Bk w h)) hown hK (gq_one (c := 0) (k := 0) hH rfl (gk_c0 cI cT ad z7.2)) 0 rfl rfl 0 (by decide) (ht _ gt_85) (fun _ h9 => h9) rfl gd_Bk_add_28 ?_
      obtain ⟨z9, hc10, hf⟩ := Option.bind_eq_some_iff.mp hf
      refine gq_callv (va_runV (As := []) (rest := []) ⟨hx, hb, hml, hown, hts⟩ (ct_Tx_empty l D cI cT ad hI z7.2 100 (Nat.le_refl 100) z9 hc10) (cwV 0 hts (gt_V gt_120 gt_121 gt_122 gt_2 gt_123) rfl rfl rfl (by decide +kernel) ⟨Nat.le_of_ble_eq_true rfl, Nat.le_of_ble_eq_true rfl⟩) (gq_preV hH hK hN (va_recv hK (gq_one (c := 6) (k := 100) hH (Nat.le_refl 100) (gk_c6 cI cT ad z7.2 100)) (ci := 2) (q0 := 0) rfl rfl)) rfl rfl hl.1 rfl (lv_room (Nat.le_of_ble_eq_true rfl)) gd_Bk_add_31 ⟨Nat.zero_le _, Nat.zero_le _⟩) hA hS (fun H locs hH hS => ?_)
      refine lv_iload_n hx hb gd_Bk_add_34 rfl (lv_at hl 0 rfl) ?_
      cases hf
      exact W.iret hx hb hr (fun t ht hW => ⟨⟨_, _, rfl, ⟨rfl, rfl⟩, ⟨by rw [ht]; exact hH, va_K.moved hW.alike hK⟩⟩, hS.F ht⟩) hS.2.2 gd_Bk_add_35
set_option maxHeartbeats 4000000 in
set_option maxRecDepth 100000 in
theorem ct_Tm_isNeeded (l : Launch) (D : va_G) (cI cT : ClassId) (ad : Nat → Nat → Nat) (hI : gq_I gk_vd ad) (u : gk_St) (k : Nat) (hk : k < 100) (z : Int32 × gk_St) (hf : fn_Tm_isNeeded k u = some z) : Met l gy_Tm_isNeeded gws_Tm_isNeeded ({ frames := 0, cells := 0, slots := 0, locals := 0 }) (va_Pc [.ref (ad 7 k)] (gq_pre D gc_cl (gk_tys cI cT) gk_vd ad gk_NF gk_NM (gk_pc cI cT ad u))) (va_Qi (fun r u2 => r = z.1 ∧ u2 = z.2) (fun u2 t => gq_B D gc_cl (gk_tys cI cT) gk_vd ad (gk_pc cI cT ad u2) t) (gq_A gk_vd ad)) 0 0 (gq_A gk_vd ad) := by
  refine Met.ofW (cc := gb_Tm_isNeeded) (maxL := 1) (ret := (some .boolean)) (by decide) rfl ?_
  intro p e s m args below meth c s₁ B hml hv
  obtain ⟨rfl, hH, hK, hN⟩ := hv
  have hx := B.exec
  have hb := B.bytes
  have hr := B.returns
  have hts := atoms_spec (ws := gws_Tm_isNeeded) B.pre
  have ht := fun (w : Cond) (h : w ∈ gt_T) => hts w (List.mem_cons_of_mem _ h)
  have hown : s.vm.findClass gR_Tm = some m.cls := findClass_of_methodNamed B.named
  have hlocks := B.notSynchronized
  have hA : ∀ q, (gq_A gk_vd ad) q → (gq_A gk_vd ad) q := fun _ h => h
  have hS : va_S (gq_A gk_vd ad) s.heap s.heap [] := va_S.rf
  have hl := lv_entry ([.ref (ad 7 k)]) (n := 1) (Nat.le_of_ble_eq_true rfl)
  rw [lg_entry_eq]
  generalize (lg_sl ([.ref (ad 7 k)]) ++ List.replicate (1 - (lg_sl ([.ref (ad 7 k)])).length) Slot.unset).toArray = ls at hl ⊢
  have hl : lv_has ls 1 [(0, .ref (ad 7 k))] := hl
  unfold fn_Tm_isNeeded at hf
  refine lv_aload_n hx hb gd_Tm_isNeeded_0 rfl (lv_at hl 0 rfl) ?_
  refine va_get (D := D) (ci := 3) (C := gR_Tm) (T := gT_Tm) (N := 5) hx hb hts (fun w h => List.mem_cons_of_mem _ (gl_Tm w h)) hown hK (gq_one (c := 7) (k := k) hH hk (gk_c7 cI cT ad u k)) 0 rfl rfl 3 (by decide) (ht _ gt_49) (fun _ h9 => h9) rfl gd_Tm_isNeeded_1 ?_
  refine lv_if_gt (tgt := 14) hx hb gd_Tm_isNeeded_4 (by decide) (fun c2 => ?_) (fun c2 => ?_)
  · replace hf := gj_t c2 hf
    refine lv_iconst (v := 1) hx hb gd_Tm_isNeeded_14 (by decide) ?_
    refine lv_goto (tgt := 19) hx hb gd_Tm_isNeeded_15 (by decide) ?_
    cases hf
    exact W.zret hx hb hr rfl (fun t ht hW => ⟨⟨_, _, rfl, ⟨rfl, rfl⟩, ⟨by rw [ht]; exact hH, va_K.moved hW.alike hK⟩⟩, hS.F ht⟩) hS.2.2 gd_Tm_isNeeded_19
  · replace hf := gj_e c2 hf
    refine lv_aload_n hx hb gd_Tm_isNeeded_7 rfl (lv_at hl 0 rfl) ?_
    refine va_get (D := D) (ci := 3) (C := gR_Tm) (T := gT_Tm) (N := 5) hx hb hts (fun w h => List.mem_cons_of_mem _ (gl_Tm w h)) hown hK (gq_one (c := 7) (k := k) hH hk (gk_c7 cI cT ad u k)) 0 rfl rfl 4 (by decide) (ht _ gt_51) (fun _ h9 => h9) rfl gd_Tm_isNeeded_8 ?_
    refine lv_if_eq (tgt := 18) hx hb gd_Tm_isNeeded_11 (by decide) (fun c1 => ?_) (fun c1 => ?_)
    · replace hf := gj_t c1 hf
      refine lv_iconst (v := 0) hx hb gd_Tm_isNeeded_18 (by decide) ?_
      cases hf
      exact W.zret hx hb hr rfl (fun t ht hW => ⟨⟨_, _, rfl, ⟨rfl, rfl⟩, ⟨by rw [ht]; exact hH, va_K.moved hW.alike hK⟩⟩, hS.F ht⟩) hS.2.2 gd_Tm_isNeeded_19
    · replace hf := gj_e c1 hf
      refine lv_iconst (v := 1) hx hb gd_Tm_isNeeded_14 (by decide) ?_
      refine lv_goto (tgt := 19) hx hb gd_Tm_isNeeded_15 (by decide) ?_
      cases hf
      exact W.zret hx hb hr rfl (fun t ht hW => ⟨⟨_, _, rfl, ⟨rfl, rfl⟩, ⟨by rw [ht]; exact hH, va_K.moved hW.alike hK⟩⟩, hS.F ht⟩) hS.2.2 gd_Tm_isNeeded_19
set_option maxHeartbeats 4000000 in
set_option maxRecDepth 100000 in
theorem ct_Lv_placeOf (l : Launch) (D : va_G) (cI cT : ClassId) (ad : Nat → Nat → Nat) (hI : gq_I gk_vd ad) (u : gk_St) (p1 : Int32) (z : Int32 × gk_St) (hf : fn_Lv_placeOf p1 u = some z) : Met l gy_Lv_placeOf gws_Lv_placeOf ({ frames := 1, cells := 0, slots := 0, locals := 21 }) (va_Pc [.ref (ad 2 0), .int p1] (gq_pre D gc_cl (gk_tys cI cT) gk_vd ad gk_NF gk_NM (gk_pc cI cT ad u))) (va_Qi (fun r u2 => r = z.1 ∧ u2 = z.2) (fun u2 t => gq_B D gc_cl (gk_tys cI cT) gk_vd ad (gk_pc cI cT ad u2) t) (gq_A gk_vd ad)) 0 0 (gq_A gk_vd ad) := by
  refine Met.ofW (cc := gb_Lv_placeOf) (maxL := 3) (ret := (some .int)) (by decide) rfl ?_
  intro p e s m args below meth c s₁ B hml hv
  obtain ⟨rfl, hH, hK, hN⟩ := hv
  have hx := B.exec
  have hb := B.bytes
  have hr := B.returns
  have hts := atoms_spec (ws := gws_Lv_placeOf) B.pre
  have ht := fun (w : Cond) (h : w ∈ gt_T) => hts w (List.mem_cons_of_mem _ h)
  have hown : s.vm.findClass gR_Lv = some m.cls := findClass_of_methodNamed B.named
  have hlocks := B.notSynchronized
  have hA : ∀ q, (gq_A gk_vd ad) q → (gq_A gk_vd ad) q := fun _ h => h
  have hS : va_S (gq_A gk_vd ad) s.heap s.heap [] := va_S.rf
  have hl := lv_entry ([.ref (ad 2 0), .int p1]) (n := 3) (Nat.le_of_ble_eq_true rfl)
  rw [lg_entry_eq]
  generalize (lg_sl ([.ref (ad 2 0), .int p1]) ++ List.replicate (3 - (lg_sl ([.ref (ad 2 0), .int p1])).length) Slot.unset).toArray = ls at hl ⊢
  have hl : lv_has ls 3 [(0, .ref (ad 2 0)), (1, .int p1)] := hl
  have L2 : ∀ (n : Nat) (x1 : Int32) (x2 : Int32) (u : gk_St) (H : Heap) (locs : List Loc) (ls : Array Slot), fn_Lv_placeOf_2 n x1 x2 u = some z → gq_H D gc_cl gk_vd ad (gk_pc cI cT ad u) H → va_S (gq_A gk_vd ad) s.heap H locs → lv_has ls 3 [(0, .ref (ad 2 0)), (1, .int x1), (2, .int x2)] → W p l e (headSpec gws_Lv_placeOf ({ frames := 1, cells := 0, slots := 0, locals := 21 })).room s m ([.ref (ad 2 0), .int p1] : List Value).toArray below meth c H locs 0 0 (MQ below (va_Qi (fun r u2 => r = z.1 ∧ u2 = z.2) (fun u2 t => gq_B D gc_cl (gk_tys cI cT) gk_vd ad (gk_pc cI cT ad u2) t) (gq_A gk_vd ad)) ([.ref (ad 2 0), .int p1] : List Value).toArray s 0 0 (gq_A gk_vd ad)) (F0 m 2 ls []) := by
    intro n
    induction n with
    | zero =>
      intro x1 x2 u H locs ls hf
      have h0 : none = some z := hf
      cases h0
    | succ n ih =>
      intro x1 x2 u H locs ls hf hH hS hl
      rw [fn_Lv_placeOf_2] at hf
      refine lv_iload_n hx hb gd_Lv_placeOf_2 rfl (lv_at hl 2 rfl) ?_
      refine lv_aload_n hx hb gd_Lv_placeOf_3 rfl (lv_at hl 0 rfl) ?_
      refine va_get (D := D) (ci := 1) (C := gR_Lv) (T := gT_Lv) (N := 4) hx hb hts (fun w h => List.mem_cons_of_mem _ (gl_Lv w h)) hown hK (gq_one (c := 2) (k := 0) hH rfl (gk_c2 cI cT ad u)) 0 rfl rfl 1 (by decide) (ht _ gt_70) (fun _ h9 => h9) rfl gd_Lv_placeOf_4 ?_
      refine lv_icmp_ge (tgt := 27) hx hb gd_Lv_placeOf_7 (by decide) (fun c4 => ?_) (fun c4 => ?_)
      · replace hf := gj_t c4 hf
        refine lv_iconst (v := (-1)) hx hb gd_Lv_placeOf_27 (by decide) ?_
        cases hf
        exact W.iret hx hb hr (fun t ht hW => ⟨⟨_, _, rfl, ⟨rfl, rfl⟩, ⟨by rw [ht]; exact hH, va_K.moved hW.alike hK⟩⟩, hS.F ht⟩) hS.2.2 gd_Lv_placeOf_28
      · replace hf := gj_e c4 hf
        refine lv_aload_n hx hb gd_Lv_placeOf_10 rfl (lv_at hl 0 rfl) ?_
        refine lv_iload_n hx hb gd_Lv_placeOf_11 rfl (lv_at hl 2 rfl) ?_
        obtain ⟨z1, hc2, hf⟩ := Option.bind_eq_some_iff.mp hf
        refine gq_calli (va_runV (As := [.int x2]) (rest := []) ⟨hx, hb, hml, hown, hts⟩ (ct_Lv_numberAt l D cI cT ad hI u x2 z1 hc2) (cwV 1 hts (gt_V gt_220 gt_140 gt_141 gt_4 gt_142) rfl rfl rfl (by decide +kernel) ⟨Nat.le_of_ble_eq_true rfl, Nat.le_of_ble_eq_true rfl⟩) (gq_preV hH hK hN (va_recv hK (gq_one (c := 2) (k := 0) hH rfl (gk_c2 cI cT ad u)) (ci := 1) (q0 := 0) rfl rfl)) rfl rfl hl.1 rfl (lv_room (Nat.le_of_ble_eq_true rfl)) gd_Lv_placeOf_12 ⟨Nat.zero_le _, Nat.zero_le _⟩) hA hS (fun H locs hH hS => ?_)
        refine lv_iload_n hx hb gd_Lv_placeOf_15 rfl (lv_at hl 1 rfl) ?_
        refine lv_icmp_ne (tgt := 21) hx hb gd_Lv_placeOf_16 (by decide) (fun c3 => ?_) (fun c3 => ?_)
        · replace hf := gj_e c3 hf
          refine lv_iinc (v := x2 + 1) (lv' := [(2, .int (x2 + 1)), (0, .ref (ad 2 0)), (1, .int x1)]) hx hb gd_Lv_placeOf_21 hl (k := 2) rfl rfl (by decide) rfl (fun ls hl => ?_)
          refine lv_goto (tgt := 2) hx hb gd_Lv_placeOf_24 (by decide) ?_
          exact ih x1 (x2 + 1) z1.2 _ _ _ hf hH hS (lv_sub hl [1, 2, 0] rfl)
        · replace hf := gj_t c3 hf
          refine lv_iload_n hx hb gd_Lv_placeOf_19 rfl (lv_at hl 2 rfl) ?_
          cases hf
          exact W.iret hx hb hr (fun t ht hW => ⟨⟨_, _, rfl, ⟨rfl, rfl⟩, ⟨by rw [ht]; exact hH, va_K.moved hW.alike hK⟩⟩, hS.F ht⟩) hS.2.2 gd_Lv_placeOf_20
  unfold fn_Lv_placeOf at hf
  refine lv_iconst (v := 0) hx hb gd_Lv_placeOf_0 (by decide) ?_
  refine lv_istore_n (lv' := [(2, .int 0), (0, .ref (ad 2 0)), (1, .int p1)]) hx hb gd_Lv_placeOf_1 rfl hl (by decide) rfl (fun ls hl => ?_)
  exact L2 gk_fu p1 0 u _ _ _ hf hH hS (lv_sub hl [1, 2, 0] rfl)
set_option maxHeartbeats 4000000 in
set_option maxRecDepth 100000 in
theorem ct_Lv_dropEmpty (l : Launch) (D : va_G) (cI cT : ClassId) (ad : Nat → Nat → Nat) (hI : gq_I gk_vd ad) (u : gk_St)  (z : gk_St) (hf : fn_Lv_dropEmpty u = some z) : Met l gy_Lv_dropEmpty gws_Lv_dropEmpty ({ frames := 0, cells := 0, slots := 0, locals := 0 }) (va_Pc [.ref (ad 2 0)] (gq_pre D gc_cl (gk_tys cI cT) gk_vd ad gk_NF gk_NM (gk_pc cI cT ad u))) (va_Qv (fun u2 => u2 = z) (fun u2 t => gq_B D gc_cl (gk_tys cI cT) gk_vd ad (gk_pc cI cT ad u2) t) (gq_A gk_vd ad)) 0 0 (gq_A gk_vd ad) := by
  refine Met.ofW (cc := gb_Lv_dropEmpty) (maxL := 1) (ret := none) (by decide) rfl ?_
  intro p e s m args below meth c s₁ B hml hv
  obtain ⟨rfl, hH, hK, hN⟩ := hv
  have hx := B.exec
  have hb := B.bytes
  have hr := B.returns
  have hts := atoms_spec (ws := gws_Lv_dropEmpty) B.pre
  have ht := fun (w : Cond) (h : w ∈ gt_T) => hts w (List.mem_cons_of_mem _ h)
  have hown : s.vm.findClass gR_Lv = some m.cls := findClass_of_methodNamed B.named
  have hlocks := B.notSynchronized
  have hA : ∀ q, (gq_A gk_vd ad) q → (gq_A gk_vd ad) q := fun _ h => h
  have hS : va_S (gq_A gk_vd ad) s.heap s.heap [] := va_S.rf
  have hl := lv_entry ([.ref (ad 2 0)]) (n := 1) (Nat.le_of_ble_eq_true rfl)
  rw [lg_entry_eq]
  generalize (lg_sl ([.ref (ad 2 0)]) ++ List.replicate (1 - (lg_sl ([.ref (ad 2 0)])).length) Slot.unset).toArray = ls at hl ⊢
  have hl : lv_has ls 1 [(0, .ref (ad 2 0))] := hl
  unfold fn_Lv_dropEmpty at hf
  refine lv_aload_n hx hb gd_Lv_dropEmpty_0 rfl (lv_at hl 0 rfl) ?_
  refine va_get (D := D) (ci := 1) (C := gR_Lv) (T := gT_Lv) (N := 4) hx hb hts (fun w h => List.mem_cons_of_mem _ (gl_Lv w h)) hown hK (gq_one (c := 2) (k := 0) hH rfl (gk_c2 cI cT ad u)) 0 rfl rfl 1 (by decide) (ht _ gt_70) (fun _ h9 => h9) rfl gd_Lv_dropEmpty_1 ?_
  refine lv_if_ne (tgt := 12) hx hb gd_Lv_dropEmpty_4 (by decide) (fun c1 => ?_) (fun c1 => ?_)
  · replace hf := gj_e c1 hf
    cases hf
    exact W.vret hx hb hr (fun t ht hW => ⟨⟨_, rfl, rfl, ⟨by rw [ht]; exact hH, va_K.moved hW.alike hK⟩⟩, hS.F ht⟩) hS.2.2 gd_Lv_dropEmpty_12
  · replace hf := gj_t c1 hf
    refine lv_aload_n hx hb gd_Lv_dropEmpty_7 rfl (lv_at hl 0 rfl) ?_
    refine lv_iconst (v := 0) hx hb gd_Lv_dropEmpty_8 (by decide) ?_
    refine gq_put (D := D) (ci := 1) (C := gR_Lv) (T := gT_Lv) (N := 4) (ca := 2) (ka := 0) (pp' := gk_pc cI cT ad (gk_sI u 8 0 0)) (ty := .int) hx hb hts (fun w h => List.mem_cons_of_mem _ (gl_Lv w h)) gF_Lv gf_Lv gn_Lv hown hK hH hI hA rfl (gk_c2 cI cT ad u) rfl 3 (by decide) (ht _ gt_73) (fun _ h9 => h9) rfl (by decide +kernel) rfl rfl (Nat.le_of_ble_eq_true rfl) (gk_w8 cI cT ad u 0) (gk_o8 cI cT ad u 0) hS gd_Lv_dropEmpty_9 (fun H locs hH hS => ?_)
    cases hf
    exact W.vret hx hb hr (fun t ht hW => ⟨⟨_, rfl, rfl, ⟨by rw [ht]; exact hH, va_K.moved hW.alike hK⟩⟩, hS.F ht⟩) hS.2.2 gd_Lv_dropEmpty_12
set_option maxHeartbeats 4000000 in
set_option maxRecDepth 100000 in
theorem ct_Lv_joinNext (l : Launch) (D : va_G) (cI cT : ClassId) (ad : Nat → Nat → Nat) (hI : gq_I gk_vd ad) (u : gk_St) (p1 : Int32) (z : gk_St) (hf : fn_Lv_joinNext p1 u = some z) : Met l gy_Lv_joinNext gws_Lv_joinNext ({ frames := 1, cells := 0, slots := 0, locals := 22 }) (va_Pc [.ref (ad 2 0), .int p1] (gq_pre D gc_cl (gk_tys cI cT) gk_vd ad gk_NF gk_NM (gk_pc cI cT ad u))) (va_Qv (fun u2 => u2 = z) (fun u2 t => gq_B D gc_cl (gk_tys cI cT) gk_vd ad (gk_pc cI cT ad u2) t) (gq_A gk_vd ad)) 0 0 (gq_A gk_vd ad) := by
  refine Met.ofW (cc := gb_Lv_joinNext) (maxL := 3) (ret := none) (by decide) rfl ?_
  intro p e s m args below meth c s₁ B hml hv
  obtain ⟨rfl, hH, hK, hN⟩ := hv
  have hx := B.exec
  have hb := B.bytes
  have hr := B.returns
  have hts := atoms_spec (ws := gws_Lv_joinNext) B.pre
  have ht := fun (w : Cond) (h : w ∈ gt_T) => hts w (List.mem_cons_of_mem _ h)
  have hown : s.vm.findClass gR_Lv = some m.cls := findClass_of_methodNamed B.named
  have hlocks := B.notSynchronized
  have hA : ∀ q, (gq_A gk_vd ad) q → (gq_A gk_vd ad) q := fun _ h => h
  have hS : va_S (gq_A gk_vd ad) s.heap s.heap [] := va_S.rf
  have hl := lv_entry ([.ref (ad 2 0), .int p1]) (n := 3) (Nat.le_of_ble_eq_true rfl)
  rw [lg_entry_eq]
  generalize (lg_sl ([.ref (ad 2 0), .int p1]) ++ List.replicate (3 - (lg_sl ([.ref (ad 2 0), .int p1])).length) Slot.unset).toArray = ls at hl ⊢
  have hl : lv_has ls 3 [(0, .ref (ad 2 0)), (1, .int p1)] := hl
  have L53 : ∀ (n : Nat) (x1 : Int32) (x2 : Int32) (u : gk_St) (H : Heap) (locs : List Loc) (ls : Array Slot), fn_Lv_joinNext_53 n x1 x2 u = some z → gq_H D gc_cl gk_vd ad (gk_pc cI cT ad u) H → va_S (gq_A gk_vd ad) s.heap H locs → lv_has ls 3 [(0, .ref (ad 2 0)), (1, .int x1), (2, .int x2)] → W p l e (headSpec gws_Lv_joinNext ({ frames := 1, cells := 0, slots := 0, locals := 22 })).room s m ([.ref (ad 2 0), .int p1] : List Value).toArray below meth c H locs 0 0 (MQ below (va_Qv (fun u2 => u2 = z) (fun u2 t => gq_B D gc_cl (gk_tys cI cT) gk_vd ad (gk_pc cI cT ad u2) t) (gq_A gk_vd ad)) ([.ref (ad 2 0), .int p1] : List Value).toArray s 0 0 (gq_A gk_vd ad)) (F0 m 53 ls []) := by
    intro n
    induction n with
    | zero =>
      intro x1 x2 u H locs ls hf
      have h0 : none = some z := hf
      cases h0
    | succ n ih =>
      intro x1 x2 u H locs ls hf hH hS hl
      rw [fn_Lv_joinNext_53] at hf
      refine lv_iload_n hx hb gd_Lv_joinNext_53 rfl (lv_at hl 2 rfl) ?_
      refine lv_aload_n hx hb gd_Lv_joinNext_54 rfl (lv_at hl 0 rfl) ?_
      refine va_get (D := D) (ci := 1) (C := gR_Lv) (T := gT_Lv) (N := 4) hx hb hts (fun w h => List.mem_cons_of_mem _ (gl_Lv w h)) hown hK (gq_one (c := 2) (k := 0) hH rfl (gk_c2 cI cT ad u)) 0 rfl rfl 3 (by decide) (ht _ gt_73) (fun _ h9 => h9) rfl gd_Lv_joinNext_55 ?_
      refine lv_icmp_ge (tgt := 81) hx hb gd_Lv_joinNext_58 (by decide) (fun c7 => ?_) (fun c7 => ?_)
      · replace hf := gj_t c7 hf
        cases hf
        exact W.vret hx hb hr (fun t ht hW => ⟨⟨_, rfl, rfl, ⟨by rw [ht]; exact hH, va_K.moved hW.alike hK⟩⟩, hS.F ht⟩) hS.2.2 gd_Lv_joinNext_81
      · replace hf := gj_e c7 hf
        refine lv_aload_n hx hb gd_Lv_joinNext_61 rfl (lv_at hl 0 rfl) ?_
        refine va_get (D := D) (ci := 1) (C := gR_Lv) (T := gT_Lv) (N := 4) hx hb hts (fun w h => List.mem_cons_of_mem _ (gl_Lv w h)) hown hK (gq_one (c := 2) (k := 0) hH rfl (gk_c2 cI cT ad u)) 0 rfl rfl 2 (by decide) (ht _ gt_72) (fun _ h9 => h9) rfl gd_Lv_joinNext_62 ?_
        refine lv_iload_n hx hb gd_Lv_joinNext_65 rfl (lv_at hl 2 rfl) ?_
        refine lv_aload_n hx hb gd_Lv_joinNext_66 rfl (lv_at hl 0 rfl) ?_
        refine va_get (D := D) (ci := 1) (C := gR_Lv) (T := gT_Lv) (N := 4) hx hb hts (fun w h => List.mem_cons_of_mem _ (gl_Lv w h)) hown hK (gq_one (c := 2) (k := 0) hH rfl (gk_c2 cI cT ad u)) 0 rfl rfl 2 (by decide) (ht _ gt_72) (fun _ h9 => h9) rfl gd_Lv_joinNext_67 ?_
        refine lv_iload_n hx hb gd_Lv_joinNext_70 rfl (lv_at hl 2 rfl) ?_
        refine lv_iconst (v := 1) hx hb gd_Lv_joinNext_71 (by decide) ?_
        refine lv_iadd hx hb gd_Lv_joinNext_72 ?_
        obtain ⟨hg5, hf⟩ := gj_g hf
        refine va_iald (D := D) hx hb hK (gq_one (c := 4) (k := 0) hH rfl (gk_c4 cI cT ad u)) 0 0 rfl rfl hg5 gd_Lv_joinNext_73 ?_
        obtain ⟨hg6, hf⟩ := gj_g hf
        refine gq_iast (D := D) (ca := 4) (ka := 0) (pp' := gk_pc cI cT ad (gk_sI u 7 (Int32.toNatClampNeg x2) (u.1 7 (Int32.toNatClampNeg (x2 + 1))))) hx hb hK hH hI hA rfl (gk_c4 cI cT ad u) 0 rfl hg6 (gk_w7 cI cT ad u (Int32.toNatClampNeg x2) (u.1 7 (Int32.toNatClampNeg (x2 + 1)))) (gk_o7 cI cT ad u (Int32.toNatClampNeg x2) (u.1 7 (Int32.toNatClampNeg (x2 + 1)))) hS gd_Lv_joinNext_74 (fun H locs hH hS => ?_)
        refine lv_iinc (v := x2 + 1) (lv' := [(2, .int (x2 + 1)), (0, .ref (ad 2 0)), (1, .int x1)]) hx hb gd_Lv_joinNext_75 hl (k := 2) rfl rfl (by decide) rfl (fun ls hl => ?_)
        refine lv_goto (tgt := 53) hx hb gd_Lv_joinNext_78 (by decide) ?_
        exact ih x1 (x2 + 1) (gk_sI u 7 (Int32.toNatClampNeg x2) (u.1 7 (Int32.toNatClampNeg (x2 + 1)))) _ _ _ hf hH hS (lv_sub hl [1, 2, 0] rfl)
  unfold fn_Lv_joinNext at hf
  refine lv_iload_n hx hb gd_Lv_joinNext_0 rfl (lv_at hl 1 rfl) ?_
  refine lv_if_lt (tgt := 26) hx hb gd_Lv_joinNext_1 (by decide) (fun c10 => ?_) (fun c10 => ?_)
  · replace hf := gj_t c10 hf
    cases hf
    exact W.vret hx hb hr (fun t ht hW => ⟨⟨_, rfl, rfl, ⟨by rw [ht]; exact hH, va_K.moved hW.alike hK⟩⟩, hS.F ht⟩) hS.2.2 gd_Lv_joinNext_26
  · replace hf := gj_e c10 hf
    refine lv_iload_n hx hb gd_Lv_joinNext_4 rfl (lv_at hl 1 rfl) ?_
    refine lv_iconst (v := 1) hx hb gd_Lv_joinNext_5 (by decide) ?_
    refine lv_iadd hx hb gd_Lv_joinNext_6 ?_
    refine lv_aload_n hx hb gd_Lv_joinNext_7 rfl (lv_at hl 0 rfl) ?_
    refine va_get (D := D) (ci := 1) (C := gR_Lv) (T := gT_Lv) (N := 4) hx hb hts (fun w h => List.mem_cons_of_mem _ (gl_Lv w h)) hown hK (gq_one (c := 2) (k := 0) hH rfl (gk_c2 cI cT ad u)) 0 rfl rfl 3 (by decide) (ht _ gt_73) (fun _ h9 => h9) rfl gd_Lv_joinNext_8 ?_
    refine lv_icmp_ge (tgt := 26) hx hb gd_Lv_joinNext_11 (by decide) (fun c9 => ?_) (fun c9 => ?_)
    · replace hf := gj_t c9 hf
      cases hf
      exact W.vret hx hb hr (fun t ht hW => ⟨⟨_, rfl, rfl, ⟨by rw [ht]; exact hH, va_K.moved hW.alike hK⟩⟩, hS.F ht⟩) hS.2.2 gd_Lv_joinNext_26
    · replace hf := gj_e c9 hf
      refine lv_aload_n hx hb gd_Lv_joinNext_14 rfl (lv_at hl 0 rfl) ?_
      refine va_get (D := D) (ci := 1) (C := gR_Lv) (T := gT_Lv) (N := 4) hx hb hts (fun w h => List.mem_cons_of_mem _ (gl_Lv w h)) hown hK (gq_one (c := 2) (k := 0) hH rfl (gk_c2 cI cT ad u)) 0 rfl rfl 3 (by decide) (ht _ gt_73) (fun _ h9 => h9) rfl gd_Lv_joinNext_15 ?_
      refine lv_aload_n hx hb gd_Lv_joinNext_18 rfl (lv_at hl 0 rfl) ?_
      refine va_get (D := D) (ci := 1) (C := gR_Lv) (T := gT_Lv) (N := 4) hx hb hts (fun w h => List.mem_cons_of_mem _ (gl_Lv w h)) hown hK (gq_one (c := 2) (k := 0) hH rfl (gk_c2 cI cT ad u)) 0 rfl rfl 2 (by decide) (ht _ gt_72) (fun _ h9 => h9) rfl gd_Lv_joinNext_19 ?_
      refine va_alen (D := D) (v := 100) hx hb hK (gq_one (c := 4) (k := 0) hH rfl (gk_c4 cI cT ad u)) 0 0 rfl rfl rfl gd_Lv_joinNext_22 ?_
      refine lv_icmp_le (tgt := 27) hx hb gd_Lv_joinNext_23 (by decide) (fun c8 => ?_) (fun c8 => ?_)
      · replace hf := gj_t c8 hf
        refine lv_aload_n hx hb gd_Lv_joinNext_27 rfl (lv_at hl 0 rfl) ?_
        refine lv_iload_n hx hb gd_Lv_joinNext_28 rfl (lv_at hl 1 rfl) ?_
        refine lv_aload_n hx hb gd_Lv_joinNext_29 rfl (lv_at hl 0 rfl) ?_
        refine lv_iload_n hx hb gd_Lv_joinNext_30 rfl (lv_at hl 1 rfl) ?_
        refine lv_iconst (v := 1) hx hb gd_Lv_joinNext_31 (by decide) ?_
        refine lv_iadd hx hb gd_Lv_joinNext_32 ?_
        obtain ⟨z1, hc2, hf⟩ := Option.bind_eq_some_iff.mp hf
        refine gq_calli (va_runV (As := [.int (p1 + 1)]) (rest := [.int p1, .ref (ad 2 0)]) ⟨hx, hb, hml, hown, hts⟩ (ct_Lv_sizeOf l D cI cT ad hI u (p1 + 1) z1 hc2) (cwV 1 hts (gt_V gt_193 gt_194 gt_195 gt_4 gt_196) rfl rfl rfl (by decide +kernel) ⟨Nat.le_of_ble_eq_true rfl, Nat.le_of_ble_eq_true rfl⟩) (gq_preV hH hK hN (va_recv hK (gq_one (c := 2) (k := 0) hH rfl (gk_c2 cI cT ad u)) (ci := 1) (q0 := 0) rfl rfl)) rfl rfl hl.1 rfl (lv_room (Nat.le_of_ble_eq_true rfl)) gd_Lv_joinNext_33 ⟨Nat.zero_le _, Nat.zero_le _⟩) hA hS (fun H locs hH hS => ?_)
        obtain ⟨z3, hc4, hf⟩ := Option.bind_eq_some_iff.mp hf
        refine gq_callv (va_runV (As := [.int p1, .int z1.1]) (rest := []) ⟨hx, hb, hml, hown, hts⟩ (ct_Lv_resize l D cI cT ad hI z1.2 p1 z1.1 z3 hc4) (cwV 2 hts (gt_V gt_200 gt_202 (gt_sel (List.mem_of_getElem? (i := 8) rfl)) gt_4 gt_203) rfl rfl rfl (by decide +kernel) ⟨Nat.le_of_ble_eq_true rfl, Nat.le_of_ble_eq_true rfl⟩) (gq_preV hH hK hN (va_recv hK (gq_one (c := 2) (k := 0) hH rfl (gk_c2 cI cT ad z1.2)) (ci := 1) (q0 := 0) rfl rfl)) rfl rfl hl.1 rfl (lv_room (Nat.le_of_ble_eq_true rfl)) gd_Lv_joinNext_36 ⟨Nat.zero_le _, Nat.zero_le _⟩) hA hS (fun H locs hH hS => ?_)
        refine lv_aload_n hx hb gd_Lv_joinNext_39 rfl (lv_at hl 0 rfl) ?_
        refine lv_dup hx hb gd_Lv_joinNext_40 rfl ?_
        refine va_get (D := D) (ci := 1) (C := gR_Lv) (T := gT_Lv) (N := 4) hx hb hts (fun w h => List.mem_cons_of_mem _ (gl_Lv w h)) hown hK (gq_one (c := 2) (k := 0) hH rfl (gk_c2 cI cT ad z3)) 0 rfl rfl 3 (by decide) (ht _ gt_73) (fun _ h9 => h9) rfl gd_Lv_joinNext_41 ?_
        refine lv_iconst (v := 1) hx hb gd_Lv_joinNext_44 (by decide) ?_
        refine lv_isub hx hb gd_Lv_joinNext_45 ?_
        refine gq_put (D := D) (ci := 1) (C := gR_Lv) (T := gT_Lv) (N := 4) (ca := 2) (ka := 0) (pp' := gk_pc cI cT ad (gk_sI z3 8 0 ((z3.1 8 0) - 1))) (ty := .int) hx hb hts (fun w h => List.mem_cons_of_mem _ (gl_Lv w h)) gF_Lv gf_Lv gn_Lv hown hK hH hI hA rfl (gk_c2 cI cT ad z3) rfl 3 (by decide) (ht _ gt_73) (fun _ h9 => h9) rfl (by decide +kernel) rfl rfl (Nat.le_of_ble_eq_true rfl) (gk_w8 cI cT ad z3 ((z3.1 8 0) - 1)) (gk_o8 cI cT ad z3 ((z3.1 8 0) - 1)) hS gd_Lv_joinNext_46 (fun H locs hH hS => ?_)
        refine lv_iload_n hx hb gd_Lv_joinNext_49 rfl (lv_at hl 1 rfl) ?_
        refine lv_iconst (v := 1) hx hb gd_Lv_joinNext_50 (by decide) ?_
        refine lv_iadd hx hb gd_Lv_joinNext_51 ?_
        refine lv_istore_n (lv' := [(2, .int (p1 + 1)), (0, .ref (ad 2 0)), (1, .int p1)]) hx hb gd_Lv_joinNext_52 rfl hl (by decide) rfl (fun ls hl => ?_)
        exact L53 gk_fu p1 (p1 + 1) (gk_sI z3 8 0 ((z3.1 8 0) - 1)) _ _ _ hf hH hS (lv_sub hl [1, 2, 0] rfl)
      · replace hf := gj_e c8 hf
        cases hf
        exact W.vret hx hb hr (fun t ht hW => ⟨⟨_, rfl, rfl, ⟨by rw [ht]; exact hH, va_K.moved hW.alike hK⟩⟩, hS.F ht⟩) hS.2.2 gd_Lv_joinNext_26
set_option maxHeartbeats 4000000 in
set_option maxRecDepth 100000 in
theorem ct_Lv_mend (l : Launch) (D : va_G) (cI cT : ClassId) (ad : Nat → Nat → Nat) (hI : gq_I gk_vd ad) (u : gk_St) (p1 : Int32) (z : gk_St) (hf : fn_Lv_mend p1 u = some z) : Met l gy_Lv_mend gws_Lv_mend ({ frames := 2, cells := 0, slots := 0, locals := 44 }) (va_Pc [.ref (ad 2 0), .int p1] (gq_pre D gc_cl (gk_tys cI cT) gk_vd ad gk_NF gk_NM (gk_pc cI cT ad u))) (va_Qv (fun u2 => u2 = z) (fun u2 t => gq_B D gc_cl (gk_tys cI cT) gk_vd ad (gk_pc cI cT ad u2) t) (gq_A gk_vd ad)) 0 0 (gq_A gk_vd ad) := by
  refine Met.ofW (cc := gb_Lv_mend) (maxL := 3) (ret := none) (by decide) rfl ?_
  intro p e s m args below meth c s₁ B hml hv
  obtain ⟨rfl, hH, hK, hN⟩ := hv
  have hx := B.exec
  have hb := B.bytes
  have hr := B.returns
  have hts := atoms_spec (ws := gws_Lv_mend) B.pre
  have ht := fun (w : Cond) (h : w ∈ gt_T) => hts w (List.mem_cons_of_mem _ h)
  have hown : s.vm.findClass gR_Lv = some m.cls := findClass_of_methodNamed B.named
  have hlocks := B.notSynchronized
  have hA : ∀ q, (gq_A gk_vd ad) q → (gq_A gk_vd ad) q := fun _ h => h
  have hS : va_S (gq_A gk_vd ad) s.heap s.heap [] := va_S.rf
  have hl := lv_entry ([.ref (ad 2 0), .int p1]) (n := 3) (Nat.le_of_ble_eq_true rfl)
  rw [lg_entry_eq]
  generalize (lg_sl ([.ref (ad 2 0), .int p1]) ++ List.replicate (3 - (lg_sl ([.ref (ad 2 0), .int p1])).length) Slot.unset).toArray = ls at hl ⊢
  have hl : lv_has ls 3 [(0, .ref (ad 2 0)), (1, .int p1)] := hl
  unfold fn_Lv_mend at hf
  refine lv_aload_n hx hb gd_Lv_mend_0 rfl (lv_at hl 0 rfl) ?_
  refine va_get (D := D) (ci := 1) (C := gR_Lv) (T := gT_Lv) (N := 4) hx hb hts (fun w h => List.mem_cons_of_mem _ (gl_Lv w h)) hown hK (gq_one (c := 2) (k := 0) hH rfl (gk_c2 cI cT ad u)) 0 rfl rfl 3 (by decide) (ht _ gt_73) (fun _ h9 => h9) rfl gd_Lv_mend_1 ?_
  refine lv_iconst (v := 2) hx hb gd_Lv_mend_4 (by decide) ?_
  refine lv_icmp_ge (tgt := 13) hx hb gd_Lv_mend_5 (by decide) (fun c26 => ?_) (fun c26 => ?_)
  · replace hf := gj_t c26 hf
    refine lv_iload_n hx hb gd_Lv_mend_13 rfl (lv_at hl 1 rfl) ?_
    refine lv_iconst (v := 1) hx hb gd_Lv_mend_14 (by decide) ?_
    refine lv_iadd hx hb gd_Lv_mend_15 ?_
    refine lv_aload_n hx hb gd_Lv_mend_16 rfl (lv_at hl 0 rfl) ?_
    refine va_get (D := D) (ci := 1) (C := gR_Lv) (T := gT_Lv) (N := 4) hx hb hts (fun w h => List.mem_cons_of_mem _ (gl_Lv w h)) hown hK (gq_one (c := 2) (k := 0) hH rfl (gk_c2 cI cT ad u)) 0 rfl rfl 3 (by decide) (ht _ gt_73) (fun _ h9 => h9) rfl gd_Lv_mend_17 ?_
    refine lv_icmp_ge (tgt := 29) hx hb gd_Lv_mend_20 (by decide) (fun c23 => ?_) (fun c23 => ?_)
    · replace hf := gj_t c23 hf
      refine lv_iload_n hx hb gd_Lv_mend_29 rfl (lv_at hl 1 rfl) ?_
      refine lv_iconst (v := 1) hx hb gd_Lv_mend_30 (by decide) ?_
      refine lv_isub hx hb gd_Lv_mend_31 ?_
      refine lv_istore_n (lv' := [(2, .int (p1 - 1)), (0, .ref (ad 2 0)), (1, .int p1)]) hx hb gd_Lv_mend_32 rfl hl (by decide) rfl (fun ls hl => ?_)
      refine lv_aload_n hx hb gd_Lv_mend_33 rfl (lv_at hl 1 rfl) ?_
      refine lv_iload_n hx hb gd_Lv_mend_34 rfl (lv_at hl 2 rfl) ?_
      obtain ⟨z1, hc2, hf⟩ := Option.bind_eq_some_iff.mp hf
      refine gq_calli (va_runV (As := [.int p1]) (rest := []) ⟨hx, hb, hml, hown, hts⟩ (ct_Lv_sizeOf l D cI cT ad hI u p1 z1 hc2) (cwV 1 hts (gt_V gt_193 gt_194 gt_195 gt_4 gt_196) rfl rfl rfl (by decide +kernel) ⟨Nat.le_of_ble_eq_true rfl, Nat.le_of_ble_eq_true rfl⟩) (gq_preV hH hK hN (va_recv hK (gq_one (c := 2) (k := 0) hH rfl (gk_c2 cI cT ad u)) (ci := 1) (q0 := 0) rfl rfl)) rfl rfl hl.1 rfl (lv_room (Nat.le_of_ble_eq_true rfl)) gd_Lv_mend_35 ⟨Nat.zero_le _, Nat.zero_le _⟩) hA hS (fun H locs hH hS => ?_)
      refine lv_aload_n hx hb gd_Lv_mend_38 rfl (lv_at hl 1 rfl) ?_
      refine lv_iload_n hx hb gd_Lv_mend_39 rfl (lv_at hl 0 rfl) ?_
      obtain ⟨z3, hc4, hf⟩ := Option.bind_eq_some_iff.mp hf
      refine gq_calli (va_runV (As := [.int (p1 - 1)]) (rest := [.int z1.1]) ⟨hx, hb, hml, hown, hts⟩ (ct_Lv_sizeOf l D cI cT ad hI z1.2 (p1 - 1) z3 hc4) (cwV 1 hts (gt_V gt_193 gt_194 gt_195 gt_4 gt_196) rfl rfl rfl (by decide +kernel) ⟨Nat.le_of_ble_eq_true rfl, Nat.le_of_ble_eq_true rfl⟩) (gq_preV hH hK hN (va_recv hK (gq_one (c := 2) (k := 0) hH rfl (gk_c2 cI cT ad z1.2)) (ci := 1) (q0 := 0) rfl rfl)) rfl rfl hl.1 rfl (lv_room (Nat.le_of_ble_eq_true rfl)) gd_Lv_mend_40 ⟨Nat.zero_le _, Nat.zero_le _⟩) hA hS (fun H locs hH hS => ?_)
      refine lv_iadd hx hb gd_Lv_mend_43 ?_
      refine lv_bipush (v := 8) hx hb gd_Lv_mend_44 (by decide) ?_
      refine lv_icmp_gt (tgt := 61) hx hb gd_Lv_mend_46 (by decide) (fun c11 => ?_) (fun c11 => ?_)
      · replace hf := gj_t c11 hf
        refine lv_aload_n hx hb gd_Lv_mend_61 rfl (lv_at hl 1 rfl) ?_
        refine lv_iload_n hx hb gd_Lv_mend_62 rfl (lv_at hl 2 rfl) ?_
        refine lv_iconst (v := 1) hx hb gd_Lv_mend_63 (by decide) ?_
        obtain ⟨z5, hc6, hf⟩ := Option.bind_eq_some_iff.mp hf
        refine gq_callv (va_runV (As := [.int p1, .int 1]) (rest := []) ⟨hx, hb, hml, hown, hts⟩ (ct_Lv_resize l D cI cT ad hI z3.2 p1 1 z5 hc6) (cwV 2 hts (gt_V gt_200 gt_202 (gt_sel (List.mem_of_getElem? (i := 8) rfl)) gt_4 gt_203) rfl rfl rfl (by decide +kernel) ⟨Nat.le_of_ble_eq_true rfl, Nat.le_of_ble_eq_true rfl⟩) (gq_preV hH hK hN (va_recv hK (gq_one (c := 2) (k := 0) hH rfl (gk_c2 cI cT ad z3.2)) (ci := 1) (q0 := 0) rfl rfl)) rfl rfl hl.1 rfl (lv_room (Nat.le_of_ble_eq_true rfl)) gd_Lv_mend_64 ⟨Nat.zero_le _, Nat.zero_le _⟩) hA hS (fun H locs hH hS => ?_)
        refine lv_aload_n hx hb gd_Lv_mend_67 rfl (lv_at hl 1 rfl) ?_
        refine lv_iload_n hx hb gd_Lv_mend_68 rfl (lv_at hl 0 rfl) ?_
        refine lv_iconst (v := (-1)) hx hb gd_Lv_mend_69 (by decide) ?_
        obtain ⟨z7, hc8, hf⟩ := Option.bind_eq_some_iff.mp hf
        refine gq_callv (va_runV (As := [.int (p1 - 1), .int (-1)]) (rest := []) ⟨hx, hb, hml, hown, hts⟩ (ct_Lv_resize l D cI cT ad hI z5 (p1 - 1) (-1) z7 hc8) (cwV 2 hts (gt_V gt_200 gt_202 (gt_sel (List.mem_of_getElem? (i := 8) rfl)) gt_4 gt_203) rfl rfl rfl (by decide +kernel) ⟨Nat.le_of_ble_eq_true rfl, Nat.le_of_ble_eq_true rfl⟩) (gq_preV hH hK hN (va_recv hK (gq_one (c := 2) (k := 0) hH rfl (gk_c2 cI cT ad z5)) (ci := 1) (q0 := 0) rfl rfl)) rfl rfl hl.1 rfl (lv_room (Nat.le_of_ble_eq_true rfl)) gd_Lv_mend_70 ⟨Nat.zero_le _, Nat.zero_le _⟩) hA hS (fun H locs hH hS => ?_)
        cases hf
        exact W.vret hx hb hr (fun t ht hW => ⟨⟨_, rfl, rfl, ⟨by rw [ht]; exact hH, va_K.moved hW.alike hK⟩⟩, hS.F ht⟩) hS.2.2 gd_Lv_mend_73
      · replace hf := gj_e c11 hf
        refine lv_aload_n hx hb gd_Lv_mend_49 rfl (lv_at hl 1 rfl) ?_
        refine lv_iload_n hx hb gd_Lv_mend_50 rfl (lv_at hl 2 rfl) ?_
        refine lv_iload_n hx hb gd_Lv_mend_51 rfl (lv_at hl 0 rfl) ?_
        refine va_mmin hx hb (hml.trans hl.1.symm) hown (ht _ gt_237) (ht _ gt_238) (ht _ gt_8) (ht _ gt_239) (Nat.le_of_ble_eq_true rfl) (Nat.le_of_ble_eq_true rfl) (Nat.zero_le _) (Nat.zero_le _) gd_Lv_mend_52 ?_
        refine W.eq (g2 := F0 m 55 ls (.int (fn_Ma_min p1 (p1 - 1)) :: [.ref (ad 2 0)])) rfl ?_
        obtain ⟨z9, hc10, hf⟩ := Option.bind_eq_some_iff.mp hf
        refine gq_callv (va_runV (As := [.int (fn_Ma_min p1 (p1 - 1))]) (rest := []) ⟨hx, hb, hml, hown, hts⟩ (ct_Lv_joinNext l D cI cT ad hI z3.2 (fn_Ma_min p1 (p1 - 1)) z9 hc10) (cwV 1 hts (gt_V gt_240 gt_242 (gt_sel (List.mem_of_getElem? (i := 13) rfl)) gt_4 gt_243) rfl rfl rfl (by decide +kernel) ⟨Nat.le_of_ble_eq_true rfl, Nat.le_of_ble_eq_true rfl⟩) (gq_preV hH hK hN (va_recv hK (gq_one (c := 2) (k := 0) hH rfl (gk_c2 cI cT ad z3.2)) (ci := 1) (q0 := 0) rfl rfl)) rfl rfl hl.1 rfl (lv_room (Nat.le_of_ble_eq_true rfl)) gd_Lv_mend_55 ⟨Nat.zero_le _, Nat.zero_le _⟩) hA hS (fun H locs hH hS => ?_)
        refine lv_goto (tgt := 73) hx hb gd_Lv_mend_58 (by decide) ?_
        cases hf
        exact W.vret hx hb hr (fun t ht hW => ⟨⟨_, rfl, rfl, ⟨by rw [ht]; exact hH, va_K.moved hW.alike hK⟩⟩, hS.F ht⟩) hS.2.2 gd_Lv_mend_73
    · replace hf := gj_e c23 hf
      refine lv_iload_n hx hb gd_Lv_mend_23 rfl (lv_at hl 1 rfl) ?_
      refine lv_iconst (v := 1) hx hb gd_Lv_mend_24 (by decide) ?_
      refine lv_iadd hx hb gd_Lv_mend_25 ?_
      refine lv_goto (tgt := 32) hx hb gd_Lv_mend_26 (by decide) ?_
      refine lv_istore_n (lv' := [(2, .int (p1 + 1)), (0, .ref (ad 2 0)), (1, .int p1)]) hx hb gd_Lv_mend_32 rfl hl (by decide) rfl (fun ls hl => ?_)
      refine lv_aload_n hx hb gd_Lv_mend_33 rfl (lv_at hl 1 rfl) ?_
      refine lv_iload_n hx hb gd_Lv_mend_34 rfl (lv_at hl 2 rfl) ?_
      obtain ⟨z12, hc13, hf⟩ := Option.bind_eq_some_iff.mp hf
      refine gq_calli (va_runV (As := [.int p1]) (rest := []) ⟨hx, hb, hml, hown, hts⟩ (ct_Lv_sizeOf l D cI cT ad hI u p1 z12 hc13) (cwV 1 hts (gt_V gt_193 gt_194 gt_195 gt_4 gt_196) rfl rfl rfl (by decide +kernel) ⟨Nat.le_of_ble_eq_true rfl, Nat.le_of_ble_eq_true rfl⟩) (gq_preV hH hK hN (va_recv hK (gq_one (c := 2) (k := 0) hH rfl (gk_c2 cI cT ad u)) (ci := 1) (q0 := 0) rfl rfl)) rfl rfl hl.1 rfl (lv_room (Nat.le_of_ble_eq_true rfl)) gd_Lv_mend_35 ⟨Nat.zero_le _, Nat.zero_le _⟩) hA hS (fun H locs hH hS => ?_)
      refine lv_aload_n hx hb gd_Lv_mend_38 rfl (lv_at hl 1 rfl) ?_
      refine lv_iload_n hx hb gd_Lv_mend_39 rfl (lv_at hl 0 rfl) ?_
      obtain ⟨z14, hc15, hf⟩ := Option.bind_eq_some_iff.mp hf
      refine gq_calli (va_runV (As := [.int (p1 + 1)]) (rest := [.int z12.1]) ⟨hx, hb, hml, hown, hts⟩ (ct_Lv_sizeOf l D cI cT ad hI z12.2 (p1 + 1) z14 hc15) (cwV 1 hts (gt_V gt_193 gt_194 gt_195 gt_4 gt_196) rfl rfl rfl (by decide +kernel) ⟨Nat.le_of_ble_eq_true rfl, Nat.le_of_ble_eq_true rfl⟩) (gq_preV hH hK hN (va_recv hK (gq_one (c := 2) (k := 0) hH rfl (gk_c2 cI cT ad z12.2)) (ci := 1) (q0 := 0) rfl rfl)) rfl rfl hl.1 rfl (lv_room (Nat.le_of_ble_eq_true rfl)) gd_Lv_mend_40 ⟨Nat.zero_le _, Nat.zero_le _⟩) hA hS (fun H locs hH hS => ?_)
      refine lv_iadd hx hb gd_Lv_mend_43 ?_
      refine lv_bipush (v := 8) hx hb gd_Lv_mend_44 (by decide) ?_
      refine lv_icmp_gt (tgt := 61) hx hb gd_Lv_mend_46 (by decide) (fun c22 => ?_) (fun c22 => ?_)
      · replace hf := gj_t c22 hf
        refine lv_aload_n hx hb gd_Lv_mend_61 rfl (lv_at hl 1 rfl) ?_
        refine lv_iload_n hx hb gd_Lv_mend_62 rfl (lv_at hl 2 rfl) ?_
        refine lv_iconst (v := 1) hx hb gd_Lv_mend_63 (by decide) ?_
        obtain ⟨z16, hc17, hf⟩ := Option.bind_eq_some_iff.mp hf
        refine gq_callv (va_runV (As := [.int p1, .int 1]) (rest := []) ⟨hx, hb, hml, hown, hts⟩ (ct_Lv_resize l D cI cT ad hI z14.2 p1 1 z16 hc17) (cwV 2 hts (gt_V gt_200 gt_202 (gt_sel (List.mem_of_getElem? (i := 8) rfl)) gt_4 gt_203) rfl rfl rfl (by decide +kernel) ⟨Nat.le_of_ble_eq_true rfl, Nat.le_of_ble_eq_true rfl⟩) (gq_preV hH hK hN (va_recv hK (gq_one (c := 2) (k := 0) hH rfl (gk_c2 cI cT ad z14.2)) (ci := 1) (q0 := 0) rfl rfl)) rfl rfl hl.1 rfl (lv_room (Nat.le_of_ble_eq_true rfl)) gd_Lv_mend_64 ⟨Nat.zero_le _, Nat.zero_le _⟩) hA hS (fun H locs hH hS => ?_)
        refine lv_aload_n hx hb gd_Lv_mend_67 rfl (lv_at hl 1 rfl) ?_
        refine lv_iload_n hx hb gd_Lv_mend_68 rfl (lv_at hl 0 rfl) ?_
        refine lv_iconst (v := (-1)) hx hb gd_Lv_mend_69 (by decide) ?_
        obtain ⟨z18, hc19, hf⟩ := Option.bind_eq_some_iff.mp hf
        refine gq_callv (va_runV (As := [.int (p1 + 1), .int (-1)]) (rest := []) ⟨hx, hb, hml, hown, hts⟩ (ct_Lv_resize l D cI cT ad hI z16 (p1 + 1) (-1) z18 hc19) (cwV 2 hts (gt_V gt_200 gt_202 (gt_sel (List.mem_of_getElem? (i := 8) rfl)) gt_4 gt_203) rfl rfl rfl (by decide +kernel) ⟨Nat.le_of_ble_eq_true rfl, Nat.le_of_ble_eq_true rfl⟩) (gq_preV hH hK hN (va_recv hK (gq_one (c := 2) (k := 0) hH rfl (gk_c2 cI cT ad z16)) (ci := 1) (q0 := 0) rfl rfl)) rfl rfl hl.1 rfl (lv_room (Nat.le_of_ble_eq_true rfl)) gd_Lv_mend_70 ⟨Nat.zero_le _, Nat.zero_le _⟩) hA hS (fun H locs hH hS => ?_)
        cases hf
        exact W.vret hx hb hr (fun t ht hW => ⟨⟨_, rfl, rfl, ⟨by rw [ht]; exact hH, va_K.moved hW.alike hK⟩⟩, hS.F ht⟩) hS.2.2 gd_Lv_mend_73
      · replace hf := gj_e c22 hf
        refine lv_aload_n hx hb gd_Lv_mend_49 rfl (lv_at hl 1 rfl) ?_
        refine lv_iload_n hx hb gd_Lv_mend_50 rfl (lv_at hl 2 rfl) ?_
        refine lv_iload_n hx hb gd_Lv_mend_51 rfl (lv_at hl 0 rfl) ?_
        refine va_mmin hx hb (hml.trans hl.1.symm) hown (ht _ gt_237) (ht _ gt_238) (ht _ gt_8) (ht _ gt_239) (Nat.le_of_ble_eq_true rfl) (Nat.le_of_ble_eq_true rfl) (Nat.zero_le _) (Nat.zero_le _) gd_Lv_mend_52 ?_
        refine W.eq (g2 := F0 m 55 ls (.int (fn_Ma_min p1 (p1 + 1)) :: [.ref (ad 2 0)])) rfl ?_
        obtain ⟨z20, hc21, hf⟩ := Option.bind_eq_some_iff.mp hf
        refine gq_callv (va_runV (As := [.int (fn_Ma_min p1 (p1 + 1))]) (rest := []) ⟨hx, hb, hml, hown, hts⟩ (ct_Lv_joinNext l D cI cT ad hI z14.2 (fn_Ma_min p1 (p1 + 1)) z20 hc21) (cwV 1 hts (gt_V gt_240 gt_242 (gt_sel (List.mem_of_getElem? (i := 13) rfl)) gt_4 gt_243) rfl rfl rfl (by decide +kernel) ⟨Nat.le_of_ble_eq_true rfl, Nat.le_of_ble_eq_true rfl⟩) (gq_preV hH hK hN (va_recv hK (gq_one (c := 2) (k := 0) hH rfl (gk_c2 cI cT ad z14.2)) (ci := 1) (q0 := 0) rfl rfl)) rfl rfl hl.1 rfl (lv_room (Nat.le_of_ble_eq_true rfl)) gd_Lv_mend_55 ⟨Nat.zero_le _, Nat.zero_le _⟩) hA hS (fun H locs hH hS => ?_)
        refine lv_goto (tgt := 73) hx hb gd_Lv_mend_58 (by decide) ?_
        cases hf
        exact W.vret hx hb hr (fun t ht hW => ⟨⟨_, rfl, rfl, ⟨by rw [ht]; exact hH, va_K.moved hW.alike hK⟩⟩, hS.F ht⟩) hS.2.2 gd_Lv_mend_73
  · replace hf := gj_e c26 hf
    refine lv_aload_n hx hb gd_Lv_mend_8 rfl (lv_at hl 0 rfl) ?_
    obtain ⟨z24, hc25, hf⟩ := Option.bind_eq_some_iff.mp hf
    refine gq_callv (va_runV (As := []) (rest := []) ⟨hx, hb, hml, hown, hts⟩ (ct_Lv_dropEmpty l D cI cT ad hI u  z24 hc25) (cwV 0 hts (gt_V gt_233 gt_235 (gt_sel (List.mem_of_getElem? (i := 12) rfl)) gt_4 gt_236) rfl rfl rfl (by decide +kernel) ⟨Nat.le_of_ble_eq_true rfl, Nat.le_of_ble_eq_true rfl⟩) (gq_preV hH hK hN (va_recv hK (gq_one (c := 2) (k := 0) hH rfl (gk_c2 cI cT ad u)) (ci := 1) (q0 := 0) rfl rfl)) rfl rfl hl.1 rfl (lv_room (Nat.le_of_ble_eq_true rfl)) gd_Lv_mend_9 ⟨Nat.zero_le _, Nat.zero_le _⟩) hA hS (fun H locs hH hS => ?_)
    cases hf
    exact W.vret hx hb hr (fun t ht hW => ⟨⟨_, rfl, rfl, ⟨by rw [ht]; exact hH, va_K.moved hW.alike hK⟩⟩, hS.F ht⟩) hS.2.2 gd_Lv_mend_12
