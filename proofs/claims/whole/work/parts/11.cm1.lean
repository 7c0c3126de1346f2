set_option maxHeartbeats 4000000 in
set_option maxRecDepth 100000 in
theorem ct_Md_begin (l : Launch) (D : va_G) (cI cZ : ClassId) (ad : Nat → Nat → Nat) (hI : gq_I gm_vd ad) (u : gm_St) (p1 : Int32) (z : Int32 × gm_St) (hf : fn_Md_begin p1 u = some z) : Met l gy_Md_begin gws_Md_begin ({ frames := 0, cells := 0, slots := 0, locals := 0 }) (va_Pc [.ref (ad 0 0), .int p1] (gq_pre D gc_cl (gm_tys cI cZ) gm_vd ad gm_NF gm_NM (gm_pc cI cZ ad u))) (va_Qi (fun r u2 => r = z.1 ∧ u2 = z.2) (fun u2 t => gq_B D gc_cl (gm_tys cI cZ) gm_vd ad (gm_pc cI cZ ad u2) t) (gq_A gm_vd ad)) 0 0 (gq_A gm_vd ad) := by
  refine Met.ofW (cc := gb_Md_begin) (maxL := 4) (ret := (some .int)) (by decide) rfl ?_
  intro p e s m args below meth c s₁ B hml hv
  obtain ⟨rfl, hH, hK, hN⟩ := hv
  have hx := B.exec
  have hb := B.bytes
  have hr := B.returns
  have hts := atoms_spec (ws := gws_Md_begin) B.pre
  have ht := fun (w : Cond) (h : w ∈ gt_T) => hts w (List.mem_cons_of_mem _ h)
  have hown : s.vm.findClass gR_Md = some m.cls := findClass_of_methodNamed B.named
  have hlocks := B.notSynchronized
  have hA : ∀ q, (gq_A gm_vd ad) q → (gq_A gm_vd ad) q := fun _ h => h
  have hS : va_S (gq_A gm_vd ad) s.heap s.heap [] := va_S.rf
  have hl := lv_entry ([.ref (ad 0 0), .int p1]) (n := 4) (Nat.le_of_ble_eq_true rfl)
  rw [lg_entry_eq]
  generalize (lg_sl ([.ref (ad 0 0), .int p1]) ++ List.replicate (4 - (lg_sl ([.ref (ad 0 0), .int p1])).length) Slot.unset).toArray = ls at hl ⊢
  have hl : lv_has ls 4 [(0, .ref (ad 0 0)), (1, .int p1)] := hl
  have L4 : ∀ (n : Nat) (x1 : Int32) (x2 : Int32) (x3 : Int32) (u : gm_St) (H : Heap) (locs : List Loc) (ls : Array Slot), fn_Md_begin_4 n x1 x2 x3 u = some z → gq_H D gc_cl gm_vd ad (gm_pc cI cZ ad u) H → va_S (gq_A gm_vd ad) s.heap H locs → lv_has ls 4 [(0, .ref (ad 0 0)), (1, .int x1), (2, .int x2), (3, .int x3)] → W p l e (headSpec gws_Md_begin ({ frames := 0, cells := 0, slots := 0, locals := 0 })).room s m ([.ref (ad 0 0), .int p1] : List Value).toArray below meth c H locs 0 0 (MQ below (va_Qi (fun r u2 => r = z.1 ∧ u2 = z.2) (fun u2 t => gq_B D gc_cl (gm_tys cI cZ) gm_vd ad (gm_pc cI cZ ad u2) t) (gq_A gm_vd ad)) ([.ref (ad 0 0), .int p1] : List Value).toArray s 0 0 (gq_A gm_vd ad)) (F0 m 4 ls []) := by
    intro n
    induction n with
    | zero =>
      intro x1 x2 x3 u H locs ls hf
      have h0 : none = some z := hf
      cases h0
    | succ n ih =>
      intro x1 x2 x3 u H locs ls hf hH hS hl
      rw [fn_Md_begin_4] at hf
      refine lv_iload_n hx hb gd_Md_begin_4 rfl (lv_at hl 3 rfl) ?_
      refine lv_iload_n hx hb gd_Md_begin_5 rfl (lv_at hl 1 rfl) ?_
      refine lv_icmp_ge (tgt := 24) hx hb gd_Md_begin_6 (by decide) (fun c2 => ?_) (fun c2 => ?_)
      · replace hf := gj_t c2 hf
        refine lv_iload_n hx hb gd_Md_begin_24 rfl (lv_at hl 2 rfl) ?_
        cases hf
        exact W.iret hx hb hr (fun t ht hW => ⟨⟨_, _, rfl, ⟨rfl, rfl⟩, ⟨by rw [ht]; exact hH, va_K.moved hW.alike hK⟩⟩, hS.F ht⟩) hS.2.2 gd_Md_begin_25
      · replace hf := gj_e c2 hf
        refine lv_iload_n hx hb gd_Md_begin_9 rfl (lv_at hl 2 rfl) ?_
        refine lv_aload_n hx hb gd_Md_begin_10 rfl (lv_at hl 0 rfl) ?_
        refine va_get (D := D) (ci := 4) (C := gR_Md) (T := gT_Md) (N := 16) hx hb hts (fun w h => List.mem_cons_of_mem _ (gl_Md w h)) hown hK (gq_one (c := 0) (k := 0) hH rfl (gm_c0 cI cZ ad u)) 0 rfl rfl 10 (by decide) (ht _ gt_379) (fun _ h9 => h9) rfl gd_Md_begin_11 ?_
        refine lv_iload_n hx hb gd_Md_begin_14 rfl (lv_at hl 3 rfl) ?_
        obtain ⟨hg1, hf⟩ := gj_g hf
        refine va_iald (D := D) hx hb hK (gq_one (c := 8) (k := 0) hH rfl (gm_c8 cI cZ ad u)) 0 0 rfl rfl hg1 gd_Md_begin_15 ?_
        refine lv_iadd hx hb gd_Md_begin_16 ?_
        refine lv_istore_n (lv' := [(2, .int (x2 + (u.1 8 (Int32.toNatClampNeg x3)))), (0, .ref (ad 0 0)), (1, .int x1), (3, .int x3)]) hx hb gd_Md_begin_17 rfl hl (by decide) rfl (fun ls hl => ?_)
        refine lv_iinc (v := x3 + 1) (lv' := [(3, .int (x3 + 1)), (2, .int (x2 + (u.1 8 (Int32.toNatClampNeg x3)))), (0, .ref (ad 0 0)), (1, .int x1)]) hx hb gd_Md_begin_18 hl (k := 3) rfl rfl (by decide) rfl (fun ls hl => ?_)
        refine lv_goto (tgt := 4) hx hb gd_Md_begin_21 (by decide) ?_
        exact ih x1 (x2 + (u.1 8 (Int32.toNatClampNeg x3))) (x3 + 1) u _ _ _ hf hH hS (lv_sub hl [2, 3, 1, 0] rfl)
  unfold fn_Md_begin at hf
  refine lv_iconst (v := 0) hx hb gd_Md_begin_0 (by decide) ?_
  refine lv_istore_n (lv' := [(2, .int 0), (0, .ref (ad 0 0)), (1, .int p1)]) hx hb gd_Md_begin_1 rfl hl (by decide) rfl (fun ls hl => ?_)
  refine lv_iconst (v := 0) hx hb gd_Md_begin_2 (by decide) ?_
  refine lv_istore_n (lv' := [(3, .int 0), (2, .int 0), (0, .ref (ad 0 0)), (1, .int p1)]) hx hb gd_Md_begin_3 rfl hl (by decide) rfl (fun ls hl => ?_)
  exact L4 gm_fu p1 0 0 u _ _ _ hf hH hS (lv_sub hl [2, 3, 1, 0] rfl)
set_option maxHeartbeats 4000000 in
set_option maxRecDepth 100000 in
theorem ct_Md_insertLeaf (l : Launch) (D : va_G) (cI cZ : ClassId) (ad : Nat → Nat → Nat) (hI : gq_I gm_vd ad) (u : gm_St) (p1 : Int32) (p2 : Int32) (z : gm_St) (hf : fn_Md_insertLeaf p1 p2 u = some z) : Met l gy_Md_insertLeaf gws_Md_insertLeaf ({ frames := 0, cells := 0, slots := 0, locals := 0 }) (va_Pc [.ref (ad 0 0), .int p1, .int p2] (gq_pre D gc_cl (gm_tys cI cZ) gm_vd ad gm_NF gm_NM (gm_pc cI cZ ad u))) (va_Qv (fun u2 => u2 = z) (fun u2 t => gq_B D gc_cl (gm_tys cI cZ) gm_vd ad (gm_pc cI cZ ad u2) t) (gq_A gm_vd ad)) 0 0 (gq_A gm_vd ad) := by
  refine Met.ofW (cc := gb_Md_insertLeaf) (maxL := 4) (ret := none) (by decide) rfl ?_
  intro p e s m args below meth c s₁ B hml hv
  obtain ⟨rfl, hH, hK, hN⟩ := hv
  have hx := B.exec
  have hb := B.bytes
  have hr := B.returns
  have hts := atoms_spec (ws := gws_Md_insertLeaf) B.pre
  have ht := fun (w : Cond) (h : w ∈ gt_T) => hts w (List.mem_cons_of_mem _ h)
  have hown : s.vm.findClass gR_Md = some m.cls := findClass_of_methodNamed B.named
  have hlocks := B.notSynchronized
  have hA : ∀ q, (gq_A gm_vd ad) q → (gq_A gm_vd ad) q := fun _ h => h
  have hS : va_S (gq_A gm_vd ad) s.heap s.heap [] := va_S.rf
  have hl := lv_entry ([.ref (ad 0 0), .int p1, .int p2]) (n := 4) (Nat.le_of_ble_eq_true rfl)
  rw [lg_entry_eq]
  generalize (lg_sl ([.ref (ad 0 0), .int p1, .int p2]) ++ List.replicate (4 - (lg_sl ([.ref (ad 0 0), .int p1, .int p2])).length) Slot.unset).toArray = ls at hl ⊢
  have hl : lv_has ls 4 [(0, .ref (ad 0 0)), (1, .int p1), (2, .int p2)] := hl
  have L5 : ∀ (n : Nat) (x1 : Int32) (x2 : Int32) (x3 : Int32) (u : gm_St) (H : Heap) (locs : List Loc) (ls : Array Slot), fn_Md_insertLeaf_5 n x1 x2 x3 u = some z → gq_H D gc_cl gm_vd ad (gm_pc cI cZ ad u) H → va_S (gq_A gm_vd ad) s.heap H locs → lv_has ls 4 [(0, .ref (ad 0 0)), (1, .int x1), (2, .int x2), (3, .int x3)] → W p l e (headSpec gws_Md_insertLeaf ({ frames := 0, cells := 0, slots := 0, locals := 0 })).room s m ([.ref (ad 0 0), .int p1, .int p2] : List Value).toArray below meth c H locs 0 0 (MQ below (va_Qv (fun u2 => u2 = z) (fun u2 t => gq_B D gc_cl (gm_tys cI cZ) gm_vd ad (gm_pc cI cZ ad u2) t) (gq_A gm_vd ad)) ([.ref (ad 0 0), .int p1, .int p2] : List Value).toArray s 0 0 (gq_A gm_vd ad)) (F0 m 5 ls []) := by
    intro n
    induction n with
    | zero =>
      intro x1 x2 x3 u H locs ls hf
      have h0 : none = some z := hf
      cases h0
    | succ n ih =>
      intro x1 x2 x3 u H locs ls hf hH hS hl
      rw [fn_Md_insertLeaf_5] at hf
      refine lv_iload_n hx hb gd_Md_insertLeaf_5 rfl (lv_at hl 3 rfl) ?_
      refine lv_iload_n hx hb gd_Md_insertLeaf_6 rfl (lv_at hl 1 rfl) ?_
      refine lv_icmp_le (tgt := 30) hx hb gd_Md_insertLeaf_7 (by decide) (fun c4 => ?_) (fun c4 => ?_)
      · replace hf := gj_t c4 hf
        refine lv_aload_n hx hb gd_Md_insertLeaf_30 rfl (lv_at hl 0 rfl) ?_
        refine va_get (D := D) (ci := 4) (C := gR_Md) (T := gT_Md) (N := 16) hx hb hts (fun w h => List.mem_cons_of_mem _ (gl_Md w h)) hown hK (gq_one (c := 0) (k := 0) hH rfl (gm_c0 cI cZ ad u)) 0 rfl rfl 10 (by decide) (ht _ gt_379) (fun _ h9 => h9) rfl gd_Md_insertLeaf_31 ?_
        refine lv_iload_n hx hb gd_Md_insertLeaf_34 rfl (lv_at hl 1 rfl) ?_
        refine lv_iload_n hx hb gd_Md_insertLeaf_35 rfl (lv_at hl 2 rfl) ?_
        obtain ⟨hg1, hf⟩ := gj_g hf
        refine gq_iast (D := D) (ca := 8) (ka := 0) (pp' := gm_pc cI cZ ad (gm_sI u 8 (Int32.toNatClampNeg x1) x2)) hx hb hK hH hI hA rfl (gm_c8 cI cZ ad u) 0 rfl hg1 (gm_w8 cI cZ ad u (Int32.toNatClampNeg x1) x2) (gm_o8 cI cZ ad u (Int32.toNatClampNeg x1) x2) hS gd_Md_insertLeaf_36 (fun H locs hH hS => ?_)
        refine lv_aload_n hx hb gd_Md_insertLeaf_37 rfl (lv_at hl 0 rfl) ?_
        refine lv_dup hx hb gd_Md_insertLeaf_38 rfl ?_
        refine va_get (D := D) (ci := 4) (C := gR_Md) (T := gT_Md) (N := 16) hx hb hts (fun w h => List.mem_cons_of_mem _ (gl_Md w h)) hown hK (gq_one (c := 0) (k := 0) hH rfl (gm_c0 cI cZ ad (gm_sI u 8 (Int32.toNatClampNeg x1) x2))) 0 rfl rfl 9 (by decide) (ht _ gt_378) (fun _ h9 => h9) rfl gd_Md_insertLeaf_39 ?_
        refine lv_iconst (v := 1) hx hb gd_Md_insertLeaf_42 (by decide) ?_
        refine lv_iadd hx hb gd_Md_insertLeaf_43 ?_
        refine gq_put (D := D) (ci := 4) (C := gR_Md) (T := gT_Md) (N := 16) (ca := 0) (ka := 0) (pp' := gm_pc cI cZ ad (gm_sI (gm_sI u 8 (Int32.toNatClampNeg x1) x2) 13 0 (((gm_sI u 8 (Int32.toNatClampNeg x1) x2).1 13 0) + 1))) (ty := .int) hx hb hts (fun w h => List.mem_cons_of_mem _ (gl_Md w h)) gF_Md gf_Md gn_Md hown hK hH hI hA rfl (gm_c0 cI cZ ad (gm_sI u 8 (Int32.toNatClampNeg x1) x2)) rfl 9 (by decide) (ht _ gt_378) (fun _ h9 => h9) rfl (by decide +kernel) rfl rfl (Nat.le_of_ble_eq_true rfl) (gm_w13 cI cZ ad (gm_sI u 8 (Int32.toNatClampNeg x1) x2) (((gm_sI u 8 (Int32.toNatClampNeg x1) x2).1 13 0) + 1)) (gm_o13 cI cZ ad (gm_sI u 8 (Int32.toNatClampNeg x1) x2) (((gm_sI u 8 (Int32.toNatClampNeg x1) x2).1 13 0) + 1)) hS gd_Md_insertLeaf_44 (fun H locs hH hS => ?_)
        cases hf
        exact W.vret hx hb hr (fun t ht hW => ⟨⟨_, rfl, rfl, ⟨by rw [ht]; exact hH, va_K.moved hW.alike hK⟩⟩, hS.F ht⟩) hS.2.2 gd_Md_insertLeaf_47
      · replace hf := gj_e c4 hf
        refine lv_aload_n hx hb gd_Md_insertLeaf_10 rfl (lv_at hl 0 rfl) ?_
        refine va_get (D := D) (ci := 4) (C := gR_Md) (T := gT_Md) (N := 16) hx hb hts (fun w h => List.mem_cons_of_mem _ (gl_Md w h)) hown hK (gq_one (c := 0) (k := 0) hH rfl (gm_c0 cI cZ ad u)) 0 rfl rfl 10 (by decide) (ht _ gt_379) (fun _ h9 => h9) rfl gd_Md_insertLeaf_11 ?_
        refine lv_iload_n hx hb gd_Md_insertLeaf_14 rfl (lv_at hl 3 rfl) ?_
        refine lv_aload_n hx hb gd_Md_insertLeaf_15 rfl (lv_at hl 0 rfl) ?_
        refine va_get (D := D) (ci := 4) (C := gR_Md) (T := gT_Md) (N := 16) hx hb hts (fun w h => List.mem_cons_of_mem _ (gl_Md w h)) hown hK (gq_one (c := 0) (k := 0) hH rfl (gm_c0 cI cZ ad u)) 0 rfl rfl 10 (by decide) (ht _ gt_379) (fun _ h9 => h9) rfl gd_Md_insertLeaf_16 ?_
        refine lv_iload_n hx hb gd_Md_insertLeaf_19 rfl (lv_at hl 3 rfl) ?_
        refine lv_iconst (v := 1) hx hb gd_Md_insertLeaf_20 (by decide) ?_
        refine lv_isub hx hb gd_Md_insertLeaf_21 ?_
        obtain ⟨hg2, hf⟩ := gj_g hf
        refine va_iald (D := D) hx hb hK (gq_one (c := 8) (k := 0) hH rfl (gm_c8 cI cZ ad u)) 0 0 rfl rfl hg2 gd_Md_insertLeaf_22 ?_
        obtain ⟨hg3, hf⟩ := gj_g hf
        refine gq_iast (D := D) (ca := 8) (ka := 0) (pp' := gm_pc cI cZ ad (gm_sI u 8 (Int32.toNatClampNeg x3) (u.1 8 (Int32.toNatClampNeg (x3 - 1))))) hx hb hK hH hI hA rfl (gm_c8 cI cZ ad u) 0 rfl hg3 (gm_w8 cI cZ ad u (Int32.toNatClampNeg x3) (u.1 8 (Int32.toNatClampNeg (x3 - 1)))) (gm_o8 cI cZ ad u (Int32.toNatClampNeg x3) (u.1 8 (Int32.toNatClampNeg (x3 - 1)))) hS gd_Md_insertLeaf_23 (fun H locs hH hS => ?_)
        refine lv_iinc (v := x3 + (-1)) (lv' := [(3, .int (x3 + (-1))), (0, .ref (ad 0 0)), (1, .int x1), (2, .int x2)]) hx hb gd_Md_insertLeaf_24 hl (k := 3) rfl rfl (by decide) rfl (fun ls hl => ?_)
        refine lv_goto (tgt := 5) hx hb gd_Md_insertLeaf_27 (by decide) ?_
        exact ih x1 x2 (x3 + (-1)) (gm_sI u 8 (Int32.toNatClampNeg x3) (u.1 8 (Int32.toNatClampNeg (x3 - 1)))) _ _ _ hf hH hS (lv_sub hl [1, 2, 3, 0] rfl)
  unfold fn_Md_insertLeaf at hf
  refine lv_aload_n hx hb gd_Md_insertLeaf_0 rfl (lv_at hl 0 rfl) ?_
  refine va_get (D := D) (ci := 4) (C := gR_Md) (T := gT_Md) (N := 16) hx hb hts (fun w h => List.mem_cons_of_mem _ (gl_Md w h)) hown hK (gq_one (c := 0) (k := 0) hH rfl (gm_c0 cI cZ ad u)) 0 rfl rfl 9 (by decide) (ht _ gt_378) (fun _ h9 => h9) rfl gd_Md_insertLeaf_1 ?_
  refine lv_istore_n (lv' := [(3, .int (u.1 13 0)), (0, .ref (ad 0 0)), (1, .int p1), (2, .int p2)]) hx hb gd_Md_insertLeaf_4 rfl hl (by decide) rfl (fun ls hl => ?_)
  exact L5 gm_fu p1 p2 (u.1 13 0) u _ _ _ hf hH hS (lv_sub hl [1, 2, 3, 0] rfl)
set_option maxHeartbeats 4000000 in
set_option maxRecDepth 100000 in
theorem ct_Md_dropLeaf (l : Launch) (D : va_G) (cI cZ : ClassId) (ad : Nat → Nat → Nat) (hI : gq_I gm_vd ad) (u : gm_St) (p1 : Int32) (z : gm_St) (hf : fn_Md_dropLeaf p1 u = some z) : Met l gy_Md_dropLeaf gws_Md_dropLeaf ({ frames := 0, cells := 0, slots := 0, locals := 0 }) (va_Pc [.ref (ad 0 0), .int p1] (gq_pre D gc_cl (gm_tys cI cZ) gm_vd ad gm_NF gm_NM (gm_pc cI cZ ad u))) (va_Qv (fun u2 => u2 = z) (fun u2 t => gq_B D gc_cl (gm_tys cI cZ) gm_vd ad (gm_pc cI cZ ad u2) t) (gq_A gm_vd ad)) 0 0 (gq_A gm_vd ad) := by
  refine Met.ofW (cc := gb_Md_dropLeaf) (maxL := 3) (ret := none) (by decide) rfl ?_
  intro p e s m args below meth c s₁ B hml hv
  obtain ⟨rfl, hH, hK, hN⟩ := hv
  have hx := B.exec
  have hb := B.bytes
  have hr := B.returns
  have hts := atoms_spec (ws := gws_Md_dropLeaf) B.pre
  have ht := fun (w : Cond) (h : w ∈ gt_T) => hts w (List.mem_cons_of_mem _ h)
  have hown : s.vm.findClass gR_Md = some m.cls := findClass_of_methodNamed B.named
  have hlocks := B.notSynchronized
  have hA : ∀ q, (gq_A gm_vd ad) q → (gq_A gm_vd ad) q := fun _ h => h
  have hS : va_S (gq_A gm_vd ad) s.heap s.heap [] := va_S.rf
  have hl := lv_entry ([.ref (ad 0 0), .int p1]) (n := 3) (Nat.le_of_ble_eq_true rfl)
  rw [lg_entry_eq]
  generalize (lg_sl ([.ref (ad 0 0), .int p1]) ++ List.replicate (3 - (lg_sl ([.ref (ad 0 0), .int p1])).length) Slot.unset).toArray = ls at hl ⊢
  have hl : lv_has ls 3 [(0, .ref (ad 0 0)), (1, .int p1)] := hl
  have L12 : ∀ (n : Nat) (x1 : Int32) (x2 : Int32) (u : gm_St) (H : Heap) (locs : List Loc) (ls : Array Slot), fn_Md_dropLeaf_12 n x1 x2 u = some z → gq_H D gc_cl gm_vd ad (gm_pc cI cZ ad u) H → va_S (gq_A gm_vd ad) s.heap H locs → lv_has ls 3 [(0, .ref (ad 0 0)), (1, .int x1), (2, .int x2)] → W p l e (headSpec gws_Md_dropLeaf ({ frames := 0, cells := 0, slots := 0, locals := 0 })).room s m ([.ref (ad 0 0), .int p1] : List Value).toArray below meth c H locs 0 0 (MQ below (va_Qv (fun u2 => u2 = z) (fun u2 t => gq_B D gc_cl (gm_tys cI cZ) gm_vd ad (gm_pc cI cZ ad u2) t) (gq_A gm_vd ad)) ([.ref (ad 0 0), .int p1] : List Value).toArray s 0 0 (gq_A gm_vd ad)) (F0 m 12 ls []) := by
    intro n
    induction n with
    | zero =>
      intro x1 x2 u H locs ls hf
      have h0 : none = some z := hf
      cases h0
    | succ n ih =>
      intro x1 x2 u H locs ls hf hH hS hl
      rw [fn_Md_dropLeaf_12] at hf
      refine lv_iload_n hx hb gd_Md_dropLeaf_12 rfl (lv_at hl 2 rfl) ?_
      refine lv_aload_n hx hb gd_Md_dropLeaf_13 rfl (lv_at hl 0 rfl) ?_
      refine va_get (D := D) (ci := 4) (C := gR_Md) (T := gT_Md) (N := 16) hx hb hts (fun w h => List.mem_cons_of_mem _ (gl_Md w h)) hown hK (gq_one (c := 0) (k := 0) hH rfl (gm_c0 cI cZ ad u)) 0 rfl rfl 9 (by decide) (ht _ gt_378) (fun _ h9 => h9) rfl gd_Md_dropLeaf_14 ?_
      refine lv_icmp_ge (tgt := 40) hx hb gd_Md_dropLeaf_17 (by decide) (fun c3 => ?_) (fun c3 => ?_)
      · replace hf := gj_t c3 hf
        cases hf
        exact W.vret hx hb hr (fun t ht hW => ⟨⟨_, rfl, rfl, ⟨by rw [ht]; exact hH, va_K.moved hW.alike hK⟩⟩, hS.F ht⟩) hS.2.2 gd_Md_dropLeaf_40
      · replace hf := gj_e c3 hf
        refine lv_aload_n hx hb gd_Md_dropLeaf_20 rfl (lv_at hl 0 rfl) ?_
        refine va_get (D := D) (ci := 4) (C := gR_Md) (T := gT_Md) (N := 16) hx hb hts (fun w h => List.mem_cons_of_mem _ (gl_Md w h)) hown hK (gq_one (c := 0) (k := 0) hH rfl (gm_c0 cI cZ ad u)) 0 rfl rfl 10 (by decide) (ht _ gt_379) (fun _ h9 => h9) rfl gd_Md_dropLeaf_21 ?_
        refine lv_iload_n hx hb gd_Md_dropLeaf_24 rfl (lv_at hl 2 rfl) ?_
        refine lv_aload_n hx hb gd_Md_dropLeaf_25 rfl (lv_at hl 0 rfl) ?_
        refine va_get (D := D) (ci := 4) (C := gR_Md) (T := gT_Md) (N := 16) hx hb hts (fun w h => List.mem_cons_of_mem _ (gl_Md w h)) hown hK (gq_one (c := 0) (k := 0) hH rfl (gm_c0 cI cZ ad u)) 0 rfl rfl 10 (by decide) (ht _ gt_379) (fun _ h9 => h9) rfl gd_Md_dropLeaf_26 ?_
        refine lv_iload_n hx hb gd_Md_dropLeaf_29 rfl (lv_at hl 2 rfl) ?_
        refine lv_iconst (v := 1) hx hb gd_Md_dropLeaf_30 (by decide) ?_
        refine lv_iadd hx hb gd_Md_dropLeaf_31 ?_
        obtain ⟨hg1, hf⟩ := gj_g hf
        refine va_iald (D := D) hx hb hK (gq_one (c := 8) (k := 0) hH rfl (gm_c8 cI cZ ad u)) 0 0 rfl rfl hg1 gd_Md_dropLeaf_32 ?_
        obtain ⟨hg2, hf⟩ := gj_g hf
        refine gq_iast (D := D) (ca := 8) (ka := 0) (pp' := gm_pc cI cZ ad (gm_sI u 8 (Int32.toNatClampNeg x2) (u.1 8 (Int32.toNatClampNeg (x2 + 1))))) hx hb hK hH hI hA rfl (gm_c8 cI cZ ad u) 0 rfl hg2 (gm_w8 cI cZ ad u (Int32.toNatClampNeg x2) (u.1 8 (Int32.toNatClampNeg (x2 + 1)))) (gm_o8 cI cZ ad u (Int32.toNatClampNeg x2) (u.1 8 (Int32.toNatClampNeg (x2 + 1)))) hS gd_Md_dropLeaf_33 (fun H locs hH hS => ?_)
        refine lv_iinc (v := x2 + 1) (lv' := [(2, .int (x2 + 1)), (0, .ref (ad 0 0)), (1, .int x1)]) hx hb gd_Md_dropLeaf_34 hl (k := 2) rfl rfl (by decide) rfl (fun ls hl => ?_)
        refine lv_goto (tgt := 12) hx hb gd_Md_dropLeaf_37 (by decide) ?_
        exact ih x1 (x2 + 1) (gm_sI u 8 (Int32.toNatClampNeg x2) (u.1 8 (Int32.toNatClampNeg (x2 + 1)))) _ _ _ hf hH hS (lv_sub hl [1, 2, 0] rfl)
  unfold fn_Md_dropLeaf at hf
  refine lv_aload_n hx hb gd_Md_dropLeaf_0 rfl (lv_at hl 0 rfl) ?_
  refine lv_dup hx hb gd_Md_dropLeaf_1 rfl ?_
  refine va_get (D := D) (ci := 4) (C := gR_Md) (T := gT_Md) (N := 16) hx hb hts (fun w h => List.mem_cons_of_mem _ (gl_Md w h)) hown hK (gq_one (c := 0) (k := 0) hH rfl (gm_c0 cI cZ ad u)) 0 rfl rfl 9 (by decide) (ht _ gt_378) (fun _ h9 => h9) rfl gd_Md_dropLeaf_2 ?_
  refine lv_iconst (v := 1) hx hb gd_Md_dropLeaf_5 (by decide) ?_
  refine lv_isub hx hb gd_Md_dropLeaf_6 ?_
  refine gq_put (D := D) (ci := 4) (C := gR_Md) (T := gT_Md) (N := 16) (ca := 0) (ka := 0) (pp' := gm_pc cI cZ ad (gm_sI u 13 0 ((u.1 13 0) - 1))) (ty := .int) hx hb hts (fun w h => List.mem_cons_of_mem _ (gl_Md w h)) gF_Md gf_Md gn_Md hown hK hH hI hA rfl (gm_c0 cI cZ ad u) rfl 9 (by decide) (ht _ gt_378) (fun _ h9 => h9) rfl (by decide +kernel) rfl rfl (Nat.le_of_ble_eq_true rfl) (gm_w13 cI cZ ad u ((u.1 13 0) - 1)) (gm_o13 cI cZ ad u ((u.1 13 0) - 1)) hS gd_Md_dropLeaf_7 (fun H locs hH hS => ?_)
  refine lv_iload_n hx hb gd_Md_dropLeaf_10 rfl (lv_at hl 1 rfl) ?_
  refine lv_istore_n (lv' := [(2, .int p1), (0, .ref (ad 0 0)), (1, .int p1)]) hx hb gd_Md_dropLeaf_11 rfl hl (by decide) rfl (fun ls hl => ?_)
  exact L12 gm_fu p1 p1 (gm_sI u 13 0 ((u.1 13 0) - 1)) _ _ _ hf hH hS (lv_sub hl [1, 2, 0] rfl)
set_option maxHeartbeats 4000000 in
set_option maxRecDepth 100000 in
theorem ct_Md_come (l : Launch) (D : va_G) (cI cZ : ClassId) (ad : Nat → Nat → Nat) (hI : gq_I gm_vd ad) (u : gm_St) (p1 : Int32) (p2 : Int32) (z : gm_St) (hf : fn_Md_come p1 p2 u = some z) : Met l gy_Md_come gws_Md_come ({ frames := 2, cells := 0, slots := 0, locals := 47 }) (va_Pc [.ref (ad 0 0), .int p1, .int p2] (gq_pre D gc_cl (gm_tys cI cZ) gm_vd ad gm_NF gm_NM (gm_pc cI cZ ad u))) (va_Qv (fun u2 => u2 = z) (fun u2 t => gq_B D gc_cl (gm_tys cI cZ) gm_vd ad (gm_pc cI cZ ad u2) t) (gq_A gm_vd ad)) 0 0 (gq_A gm_vd ad) := by
  refine Met.ofW (cc := gb_Md_come) (maxL := 5) (ret := none) (by decide) rfl ?_
  intro p e s m args below meth c s₁ B hml hv
  obtain ⟨rfl, hH, hK, hN⟩ := hv
  have hx := B.exec
  have hb := B.bytes
  have hr := B.returns
  have hts := atoms_spec (ws := gws_Md_come) B.pre
  have ht := fun (w : Cond) (h : w ∈ gt_T) => hts w (List.mem_cons_of_mem _ h)
  have hown : s.vm.findClass gR_Md = some m.cls := findClass_of_methodNamed B.named
  have hlocks := B.notSynchronized
  have hA : ∀ q, (gq_A gm_vd ad) q → (gq_A gm_vd ad) q := fun _ h => h
  have hS : va_S (gq_A gm_vd ad) s.heap s.heap [] := va_S.rf
  have hl := lv_entry ([.ref (ad 0 0), .int p1, .int p2]) (n := 5) (Nat.le_of_ble_eq_true rfl)
  rw [lg_entry_eq]
  generalize (lg_sl ([.ref (ad 0 0), .int p1, .int p2]) ++ List.replicate (5 - (lg_sl ([.ref (ad 0 0), .int p1, .int p2])).length) Slot.unset).toArray = ls at hl ⊢
  have hl : lv_has ls 5 [(0, .ref (ad 0 0)), (1, .int p1), (2, .int p2)] := hl
  have L141 : ∀ (n : Nat) (x1 : Int32) (x2 : Int32) (x3 : Int32) (x4 : Int32) (u : gm_St) (H : Heap) (locs : List Loc) (ls : Array Slot), fn_Md_come_141 n x1 x2 x3 x4 u = some z → gq_H D gc_cl gm_vd ad (gm_pc cI cZ ad u) H → va_S (gq_A gm_vd ad) s.heap H locs → lv_has ls 5 [(0, .ref (ad 0 0)), (1, .int x1), (2, .int x2), (3, .int x3), (4, .int x4)] → W p l e (headSpec gws_Md_come ({ frames := 2, cells := 0, slots := 0, locals := 47 })).room s m ([.ref (ad 0 0), .int p1, .int p2] : List Value).toArray below meth c H locs 0 0 (MQ below (va_Qv (fun u2 => u2 = z) (fun u2 t => gq_B D gc_cl (gm_tys cI cZ) gm_vd ad (gm_pc cI cZ ad u2) t) (gq_A gm_vd ad)) ([.ref (ad 0 0), .int p1, .int p2] : List Value).toArray s 0 0 (gq_A gm_vd ad)) (F0 m 141 ls []) := by
    intro n
    induction n with
    | zero =>
      intro x1 x2 x3 x4 u H locs ls hf
      have h0 : none = some z := hf
      cases h0
    | succ n ih =>
      intro x1 x2 x3 x4 u H locs ls hf hH hS hl
      rw [fn_Md_come_141] at hf
      refine lv_iload hx hb gd_Md_come_141 (lv_at hl 4 rfl) ?_
      refine lv_iconst (v := 1) hx hb gd_Md_come_143 (by decide) ?_
      refine lv_iadd hx hb gd_Md_come_144 ?_
      refine lv_aload_n hx hb gd_Md_come_145 rfl (lv_at hl 0 rfl) ?_
      refine va_get (D := D) (ci := 4) (C := gR_Md) (T := gT_Md) (N := 16) hx hb hts (fun w h => List.mem_cons_of_mem _ (gl_Md w h)) hown hK (gq_one (c := 0) (k := 0) hH rfl (gm_c0 cI cZ ad u)) 0 rfl rfl 9 (by decide) (ht _ gt_378) (fun _ h9 => h9) rfl gd_Md_come_146 ?_
      refine lv_icmp_ge (tgt := 170) hx hb gd_Md_come_149 (by decide) (fun c25 => ?_) (fun c25 => ?_)
      · replace hf := gj_t c25 hf
        refine lv_aload_n hx hb gd_Md_come_170 rfl (lv_at hl 0 rfl) ?_
        refine va_get (D := D) (ci := 4) (C := gR_Md) (T := gT_Md) (N := 16) hx hb hts (fun w h => List.mem_cons_of_mem _ (gl_Md w h)) hown hK (gq_one (c := 0) (k := 0) hH rfl (gm_c0 cI cZ ad u)) 0 rfl rfl 10 (by decide) (ht _ gt_379) (fun _ h9 => h9) rfl gd_Md_come_171 ?_
        refine lv_iload hx hb gd_Md_come_174 (lv_at hl 4 rfl) ?_
        refine lv_dup2_11 hx hb gd_Md_come_176 rfl rfl ?_
        obtain ⟨hg8, hf⟩ := gj_g hf
        refine va_iald (D := D) hx hb hK (gq_one (c := 8) (k := 0) hH rfl (gm_c8 cI cZ ad u)) 0 0 rfl rfl hg8 gd_Md_come_177 ?_
        refine lv_iconst (v := 1) hx hb gd_Md_come_178 (by decide) ?_
        refine lv_iadd hx hb gd_Md_come_179 ?_
        obtain ⟨hg9, hf⟩ := gj_g hf
        refine gq_iast (D := D) (ca := 8) (ka := 0) (pp' := gm_pc cI cZ ad (gm_sI u 8 (Int32.toNatClampNeg x4) ((u.1 8 (Int32.toNatClampNeg x4)) + 1))) hx hb hK hH hI hA rfl (gm_c8 cI cZ ad u) 0 rfl hg9 (gm_w8 cI cZ ad u (Int32.toNatClampNeg x4) ((u.1 8 (Int32.toNatClampNeg x4)) + 1)) (gm_o8 cI cZ ad u (Int32.toNatClampNeg x4) ((u.1 8 (Int32.toNatClampNeg x4)) + 1)) hS gd_Md_come_180 (fun H locs hH hS => ?_)
        refine lv_aload_n hx hb gd_Md_come_181 rfl (lv_at hl 0 rfl) ?_
        refine va_get (D := D) (ci := 4) (C := gR_Md) (T := gT_Md) (N := 16) hx hb hts (fun w h => List.mem_cons_of_mem _ (gl_Md w h)) hown hK (gq_one (c := 0) (k := 0) hH rfl (gm_c0 cI cZ ad (gm_sI u 8 (Int32.toNatClampNeg x4) ((u.1 8 (Int32.toNatClampNeg x4)) + 1)))) 0 rfl rfl 10 (by decide) (ht _ gt_379) (fun _ h9 => h9) rfl gd_Md_come_182 ?_
        refine lv_iload hx hb gd_Md_come_185 (lv_at hl 4 rfl) ?_
        obtain ⟨hg10, hf⟩ := gj_g hf
        refine va_iald (D := D) hx hb hK (gq_one (c := 8) (k := 0) hH rfl (gm_c8 cI cZ ad (gm_sI u 8 (Int32.toNatClampNeg x4) ((u.1 8 (Int32.toNatClampNeg x4)) + 1)))) 0 0 rfl rfl hg10 gd_Md_come_187 ?_
        refine lv_bipush (v := 8) hx hb gd_Md_come_188 (by decide) ?_
        refine lv_icmp_le (tgt := 210) hx hb gd_Md_come_190 (by decide) (fun c14 => ?_) (fun c14 => ?_)
        · replace hf := gj_t c14 hf
          cases hf
          exact W.vret hx hb hr (fun t ht hW => ⟨⟨_, rfl, rfl, ⟨by rw [ht]; exact hH, va_K.moved hW.alike hK⟩⟩, hS.F ht⟩) hS.2.2 gd_Md_come_210
        · replace hf := gj_e c14 hf
          refine lv_aload_n hx hb gd_Md_come_193 rfl (lv_at hl 0 rfl) ?_
          refine va_get (D := D) (ci := 4) (C := gR_Md) (T := gT_Md) (N := 16) hx hb hts (fun w h => List.mem_cons_of_mem _ (gl_Md w h)) hown hK (gq_one (c := 0) (k := 0) hH rfl (gm_c0 cI cZ ad (gm_sI u 8 (Int32.toNatClampNeg x4) ((u.1 8 (Int32.toNatClampNeg x4)) + 1)))) 0 rfl rfl 10 (by decide) (ht _ gt_379) (fun _ h9 => h9) rfl gd_Md_come_194 ?_
          refine lv_iload hx hb gd_Md_come_197 (lv_at hl 4 rfl) ?_
          refine lv_iconst (v := 4) hx hb gd_Md_come_199 (by decide) ?_
          obtain ⟨hg11, hf⟩ := gj_g hf
          refine gq_iast (D := D) (ca := 8) (ka := 0) (pp' := gm_pc cI cZ ad (gm_sI (gm_sI u 8 (Int32.toNatClampNeg x4) ((u.1 8 (Int32.toNatClampNeg x4)) + 1)) 8 (Int32.toNatClampNeg x4) 4)) hx hb hK hH hI hA rfl (gm_c8 cI cZ ad (gm_sI u 8 (Int32.toNatClampNeg x4) ((u.1 8 (Int32.toNatClampNeg x4)) + 1))) 0 rfl hg11 (gm_w8 cI cZ ad (gm_sI u 8 (Int32.toNatClampNeg x4) ((u.1 8 (Int32.toNatClampNeg x4)) + 1)) (Int32.toNatClampNeg x4) 4) (gm_o8 cI cZ ad (gm_sI u 8 (Int32.toNatClampNeg x4) ((u.1 8 (Int32.toNatClampNeg x4)) + 1)) (Int32.toNatClampNeg x4) 4) hS gd_Md_come_200 (fun H locs hH hS => ?_)
          refine lv_aload_n hx hb gd_Md_come_201 rfl (lv_at hl 0 rfl) ?_
          refine lv_iload hx hb gd_Md_come_202 (lv_at hl 4 rfl) ?_
          refine lv_iconst (v := 1) hx hb gd_Md_come_204 (by decide) ?_
          refine lv_iadd hx hb gd_Md_come_205 ?_
          refine lv_iconst (v := 5) hx hb gd_Md_come_206 (by decide) ?_
          obtain ⟨z12, hc13, hf⟩ := Option.bind_eq_some_iff.mp hf
          refine gq_callv (va_runV (As := [.int (x4 + 1), .int 5]) (rest := []) ⟨hx, hb, hml, hown, hts⟩ (ct_Md_insertLeaf l D cI cZ ad hI (gm_sI (gm_sI u 8 (Int32.toNatClampNeg x4) ((u.1 8 (Int32.toNatClampNeg x4)) + 1)) 8 (Int32.toNatClampNeg x4) 4) (x4 + 1) 5 z12 hc13) (cwV 2 hts (gt_V gt_451 gt_453 (gt_sel (List.mem_of_getElem? (i := 27) rfl)) gt_5 gt_454) rfl rfl rfl (by decide +kernel) ⟨Nat.le_of_ble_eq_true rfl, Nat.le_of_ble_eq_true rfl⟩) (gq_preV hH hK hN (va_recv hK (gq_one (c := 0) (k := 0) hH rfl (gm_c0 cI cZ ad (gm_sI (gm_sI u 8 (Int32.toNatClampNeg x4) ((u.1 8 (Int32.toNatClampNeg x4)) + 1)) 8 (Int32.toNatClampNeg x4) 4))) (ci := 4) (q0 := 0) rfl rfl)) rfl rfl hl.1 rfl (lv_room (Nat.le_of_ble_eq_true rfl)) gd_Md_come_207 ⟨Nat.zero_le _, Nat.zero_le _⟩) hA hS (fun H locs hH hS => ?_)
          cases hf
          exact W.vret hx hb hr (fun t ht hW => ⟨⟨_, rfl, rfl, ⟨by rw [ht]; exact hH, va_K.moved hW.alike hK⟩⟩, hS.F ht⟩) hS.2.2 gd_Md_come_210
      · replace hf := gj_e c25 hf
        refine lv_aload_n hx hb gd_Md_come_152 rfl (lv_at hl 0 rfl) ?_
        refine lv_iload hx hb gd_Md_come_153 (lv_at hl 4 rfl) ?_
        refine lv_iconst (v := 1) hx hb gd_Md_come_155 (by decide) ?_
        refine lv_iadd hx hb gd_Md_come_156 ?_
        obtain ⟨z15, hc16, hf⟩ := Option.bind_eq_some_iff.mp hf
        refine gq_calli (va_runV (As := [.int (x4 + 1)]) (rest := []) ⟨hx, hb, hml, hown, hts⟩ (ct_Md_begin l D cI cZ ad hI u (x4 + 1) z15 hc16) (cwV 1 hts (gt_V gt_455 gt_457 (gt_sel (List.mem_of_getElem? (i := 28) rfl)) gt_5 gt_458) rfl rfl rfl (by decide +kernel) ⟨Nat.le_of_ble_eq_true rfl, Nat.le_of_ble_eq_true rfl⟩) (gq_preV hH hK hN (va_recv hK (gq_one (c := 0) (k := 0) hH rfl (gm_c0 cI cZ ad u)) (ci := 4) (q0 := 0) rfl rfl)) rfl rfl hl.1 rfl (lv_room (Nat.le_of_ble_eq_true rfl)) gd_Md_come_157 ⟨Nat.zero_le _, Nat.zero_le _⟩) hA hS (fun H locs hH hS => ?_)
        refine lv_iload_n hx hb gd_Md_come_160 rfl (lv_at hl 3 rfl) ?_
        refine lv_icmp_gt (tgt := 170) hx hb gd_Md_come_161 (by decide) (fun c24 => ?_) (fun c24 => ?_)
        · replace hf := gj_t c24 hf
          refine lv_aload_n hx hb gd_Md_come_170 rfl (lv_at hl 0 rfl) ?_
          refine va_get (D := D) (ci := 4) (C := gR_Md) (T := gT_Md) (N := 16) hx hb hts (fun w h => List.mem_cons_of_mem _ (gl_Md w h)) hown hK (gq_one (c := 0) (k := 0) hH rfl (gm_c0 cI cZ ad z15.2)) 0 rfl rfl 10 (by decide) (ht _ gt_379) (fun _ h9 => h9) rfl gd_Md_come_171 ?_
          refine lv_iload hx hb gd_Md_come_174 (lv_at hl 4 rfl) ?_
          refine lv_dup2_11 hx hb gd_Md_come_176 rfl rfl ?_
          obtain ⟨hg17, hf⟩ := gj_g hf
          refine va_iald (D := D) hx hb hK (gq_one (c := 8) (k := 0) hH rfl (gm_c8 cI cZ ad z15.2)) 0 0 rfl rfl hg17 gd_Md_come_177 ?_
          refine lv_iconst (v := 1) hx hb gd_Md_come_178 (by decide) ?_
          refine lv_iadd hx hb gd_Md_come_179 ?_
          obtain ⟨hg18, hf⟩ := gj_g hf
          refine gq_iast (D := D) (ca := 8) (ka := 0) (pp' := gm_pc cI cZ ad (gm_sI z15.2 8 (Int32.toNatClampNeg x4) ((z15.2.1 8 (Int32.toNatClampNeg x4)) + 1))) hx hb hK hH hI hA rfl (gm_c8 cI cZ ad z15.2) 0 rfl hg18 (gm_w8 cI cZ ad z15.2 (Int32.toNatClampNeg x4) ((z15.2.1 8 (Int32.toNatClampNeg x4)) + 1)) (gm_o8 cI cZ ad z15.2 (Int32.toNatClampNeg x4) ((z15.2.1 8 (Int32.toNatClampNeg x4)) + 1)) hS gd_Md_come_180 (fun H locs hH hS => ?_)
          refine lv_aload_n hx hb gd_Md_come_181 rfl (lv_at hl 0 rfl) ?_
          refine va_get (D := D) (ci := 4) (C := gR_Md) (T := gT_Md) (N := 16) hx hb hts (fun w h => List.mem_cons_of_mem _ (gl_Md w h)) hown hK (gq_one (c := 0) (k := 0) hH rfl (gm_c0 cI cZ ad (gm_sI z15.2 8 (Int32.toNatClampNeg x4) ((z15.2.1 8 (Int32.toNatClampNeg x4)) + 1)))) 0 rfl rfl 10 (by decide) (ht _ gt_379) (fun _ h9 => h9) rfl gd_Md_come_182 ?_
          refine lv_iload hx hb gd_Md_come_185 (lv_at hl 4 rfl) ?_
          obtain ⟨hg19, hf⟩ := gj_g hf
          refine va_iald (D := D) hx hb hK (gq_one (c := 8) (k := 0) hH rfl (gm_c8 cI cZ ad (gm_sI z15.2 8 (Int32.toNatClampNeg x4) ((z15.2.1 8 (Int32.toNatClampNeg x4)) + 1)))) 0 0 rfl rfl hg19 gd_Md_come_187 ?_
          refine lv_bipush (v := 8) hx hb gd_Md_come_188 (by decide) ?_
          refine lv_icmp_le (tgt := 210) hx hb gd_Md_come_190 (by decide) (fun c23 => ?_) (fun c23 => ?_)
          · replace hf := gj_t c23 hf
            cases hf
            exact W.vret hx hb hr (fun t ht hW => ⟨⟨_, rfl, rfl, ⟨by rw [ht]; exact hH, va_K.moved hW.alike hK⟩⟩, hS.F ht⟩) hS.2.2 gd_Md_come_210
          · replace hf := gj_e c23 hf
            refine lv_aload_n hx hb gd_Md_come_193 rfl (lv_at hl 0 rfl) ?_
            refine va_get (D := D) (ci := 4) (C := gR_Md) (T := gT_Md) (N := 16) hx hb hts (fun w h => List.mem_cons_of_mem _ (gl_Md w h)) hown hK (gq_one (c := 0) (k := 0) hH rfl (gm_c0 cI cZ ad (gm_sI z15.2 8 (Int32.toNatClampNeg x4) ((z15.2.1 8 (Int32.toNatClampNeg x4)) + 1)))) 0 rfl rfl 10 (by decide) (ht _ gt_379) (fun _ h9 => h9) rfl gd_Md_come_194 ?_
            refine lv_iload hx hb gd_Md_come_197 (lv_at hl 4 rfl) ?_
            refine lv_iconst (v := 4) hx hb gd_Md_come_199 (by decide) ?_
            obtain ⟨hg20, hf⟩ := gj_g hf
            refine gq_iast (D := D) (ca := 8) (ka := 0) (pp' := gm_pc cI cZ ad (gm_sI (gm_sI z15.2 8 (Int32.toNatClampNeg x4) ((z15.2.1 8 (Int32.toNatClampNeg x4)) + 1)) 8 (Int32.toNatClampNeg x4) 4)) hx hb hK hH hI hA rfl (gm_c8 cI cZ ad (gm_sI z15.2 8 (Int32.toNatClampNeg x4) ((z15.2.1 8 (Int32.toNatClampNeg x4)) + 1))) 0 rfl hg20 (gm_w8 cI cZ ad (gm_sI z15.2 8 (Int32.toNatClampNeg x4) ((z15.2.1 8 (Int32.toNatClampNeg x4)) + 1)) (Int32.toNatClampNeg x4) 4) (gm_o8 cI cZ ad (gm_sI z15.2 8 (Int32.toNatClampNeg x4) ((z15.2.1 8 (Int32.toNatClampNeg x4)) + 1)) (Int32.toNatClampNeg x4) 4) hS gd_Md_come_200 (fun H locs hH hS => ?_)
            refine lv_aload_n hx hb gd_Md_come_201 rfl (lv_at hl 0 rfl) ?_
            refine lv_iload hx hb gd_Md_come_202 (lv_at hl 4 rfl) ?_
            refine lv_iconst (v := 1) hx hb gd_Md_come_204 (by decide) ?_
            refine lv_iadd hx hb gd_Md_come_205 ?_
            refine lv_iconst (v := 5) hx hb gd_Md_come_206 (by decide) ?_
            obtain ⟨z21, hc22, hf⟩ := Option.bind_eq_some_iff.mp hf
            refine gq_callv (va_runV (As := [.int (x4 + 1), .int 5]) (rest := []) ⟨hx, hb, hml, hown, hts⟩ (ct_Md_insertLeaf l D cI cZ ad hI (gm_sI (gm_sI z15.2 8 (Int32.toNatClampNeg x4) ((z15.2.1 8 (Int32.toNatClampNeg x4)) + 1)) 8 (Int32.toNatClampNeg x4) 4) (x4 + 1) 5 z21 hc22) (cwV 2 hts (gt_V gt_451 gt_453 (gt_sel (List.mem_of_getElem? (i := 27) rfl)) gt_5 gt_454) rfl rfl rfl (by decide +kernel) ⟨Nat.le_of_ble_eq_true rfl, Nat.le_of_ble_eq_true rfl⟩) (gq_preV hH hK hN (va_recv hK (gq_one (c := 0) (k := 0) hH rfl (gm_c0 cI cZ ad (gm_sI (gm_sI z15.2 8 (Int32.toNatClampNeg x4) ((z15.2.1 8 (Int32.toNatClampNeg x4)) + 1)) 8 (Int32.toNatClampNeg x4) 4))) (ci := 4) (q0 := 0) rfl rfl)) rfl rfl hl.1 rfl (lv_room (Nat.le_of_ble_eq_true rfl)) gd_Md_come_207 ⟨Nat.zero_le _, Nat.zero_le _⟩) hA hS (fun H locs hH hS => ?_)
            cases hf
            exact W.vret hx hb hr (fun t ht hW => ⟨⟨_, rfl, rfl, ⟨by rw [ht]; exact hH, va_K.moved hW.alike hK⟩⟩, hS.F ht⟩) hS.2.2 gd_Md_come_210
        · replace hf := gj_e c24 hf
          refine lv_iinc (v := x4 + 1) (lv' := [(4, .int (x4 + 1)), (0, .ref (ad 0 0)), (1, .int x1), (2, .int x2), (3, .int x3)]) hx hb gd_Md_come_164 hl (k := 4) rfl rfl (by decide) rfl (fun ls hl => ?_)
          refine lv_goto (tgt := 141) hx hb gd_Md_come_167 (by decide) ?_
          exact ih x1 x2 x3 (x4 + 1) z15.2 _ _ _ hf hH hS (lv_sub hl [1, 2, 3, 4, 0] rfl)
  have L80 : ∀ (n : Nat) (x1 : Int32) (x2 : Int32) (x3 : Int32) (x4 : Int32) (u : gm_St) (H : Heap) (locs : List Loc) (ls : Array Slot), fn_Md_come_80 n x1 x2 x3 x4 u = some z → gq_H D gc_cl gm_vd ad (gm_pc cI cZ ad u) H → va_S (gq_A gm_vd ad) s.heap H locs → lv_has ls 5 [(0, .ref (ad 0 0)), (1, .int x1), (2, .int x2), (3, .int x3), (4, .int x4)] → W p l e (headSpec gws_Md_come ({ frames := 2, cells := 0, slots := 0, locals := 47 })).room s m ([.ref (ad 0 0), .int p1, .int p2] : List Value).toArray below meth c H locs 0 0 (MQ below (va_Qv (fun u2 => u2 = z) (fun u2 t => gq_B D gc_cl (gm_tys cI cZ) gm_vd ad (gm_pc cI cZ ad u2) t) (gq_A gm_vd ad)) ([.ref (ad 0 0), .int p1, .int p2] : List Value).toArray s 0 0 (gq_A gm_vd ad)) (F0 m 80 ls []) := by
    intro n
    induction n with
    | zero =>
      intro x1 x2 x3 x4 u H locs ls hf
      have h0 : none = some z := hf
      cases h0
    | succ n ih =>
      intro x1 x2 x3 x4 u H locs ls hf hH hS hl
      rw [fn_Md_come_80] at hf
      refine lv_iload hx hb gd_Md_come_80 (lv_at hl 4 rfl) ?_
      refine lv_iload_n hx hb gd_Md_come_82 rfl (lv_at hl 3 rfl) ?_
      refine lv_icmp_le (tgt := 108) hx hb gd_Md_come_83 (by decide) (fun c31 => ?_) (fun c31 => ?_)
      · replace hf := gj_t c31 hf
        refine lv_aload_n hx hb gd_Md_come_108 rfl (lv_at hl 0 rfl) ?_
        refine va_get (D := D) (ci := 4) (C := gR_Md) (T := gT_Md) (N := 16) hx hb hts (fun w h => List.mem_cons_of_mem _ (gl_Md w h)) hown hK (gq_one (c := 0) (k := 0) hH rfl (gm_c0 cI cZ ad u)) 0 rfl rfl 8 (by decide) (ht _ gt_377) (fun _ h9 => h9) rfl gd_Md_come_109 ?_
        refine lv_iload_n hx hb gd_Md_come_112 rfl (lv_at hl 3 rfl) ?_
        refine lv_iload_n hx hb gd_Md_come_113 rfl (lv_at hl 1 rfl) ?_
        obtain ⟨hg7, hf⟩ := gj_g hf
        refine gq_iast (D := D) (ca := 7) (ka := 0) (pp' := gm_pc cI cZ ad (gm_sI u 7 (Int32.toNatClampNeg x3) x1)) hx hb hK hH hI hA rfl (gm_c7 cI cZ ad u) 0 rfl hg7 (gm_w7 cI cZ ad u (Int32.toNatClampNeg x3) x1) (gm_o7 cI cZ ad u (Int32.toNatClampNeg x3) x1) hS gd_Md_come_114 (fun H locs hH hS => ?_)
        refine lv_aload_n hx hb gd_Md_come_115 rfl (lv_at hl 0 rfl) ?_
        refine lv_dup hx hb gd_Md_come_116 rfl ?_
        refine va_get (D := D) (ci := 4) (C := gR_Md) (T := gT_Md) (N := 16) hx hb hts (fun w h => List.mem_cons_of_mem _ (gl_Md w h)) hown hK (gq_one (c := 0) (k := 0) hH rfl (gm_c0 cI cZ ad (gm_sI u 7 (Int32.toNatClampNeg x3) x1))) 0 rfl rfl 7 (by decide) (ht _ gt_376) (fun _ h9 => h9) rfl gd_Md_come_117 ?_
        refine lv_iconst (v := 1) hx hb gd_Md_come_120 (by decide) ?_
        refine lv_iadd hx hb gd_Md_come_121 ?_
        refine gq_put (D := D) (ci := 4) (C := gR_Md) (T := gT_Md) (N := 16) (ca := 0) (ka := 0) (pp' := gm_pc cI cZ ad (gm_sI (gm_sI u 7 (Int32.toNatClampNeg x3) x1) 12 0 (((gm_sI u 7 (Int32.toNatClampNeg x3) x1).1 12 0) + 1))) (ty := .int) hx hb hts (fun w h => List.mem_cons_of_mem _ (gl_Md w h)) gF_Md gf_Md gn_Md hown hK hH hI hA rfl (gm_c0 cI cZ ad (gm_sI u 7 (Int32.toNatClampNeg x3) x1)) rfl 7 (by decide) (ht _ gt_376) (fun _ h9 => h9) rfl (by decide +kernel) rfl rfl (Nat.le_of_ble_eq_true rfl) (gm_w12 cI cZ ad (gm_sI u 7 (Int32.toNatClampNeg x3) x1) (((gm_sI u 7 (Int32.toNatClampNeg x3) x1).1 12 0) + 1)) (gm_o12 cI cZ ad (gm_sI u 7 (Int32.toNatClampNeg x3) x1) (((gm_sI u 7 (Int32.toNatClampNeg x3) x1).1 12 0) + 1)) hS gd_Md_come_122 (fun H locs hH hS => ?_)
        refine lv_aload_n hx hb gd_Md_come_125 rfl (lv_at hl 0 rfl) ?_
        refine va_get (D := D) (ci := 4) (C := gR_Md) (T := gT_Md) (N := 16) hx hb hts (fun w h => List.mem_cons_of_mem _ (gl_Md w h)) hown hK (gq_one (c := 0) (k := 0) hH rfl (gm_c0 cI cZ ad (gm_sI (gm_sI u 7 (Int32.toNatClampNeg x3) x1) 12 0 (((gm_sI u 7 (Int32.toNatClampNeg x3) x1).1 12 0) + 1)))) 0 rfl rfl 9 (by decide) (ht _ gt_378) (fun _ h9 => h9) rfl gd_Md_come_126 ?_
        refine lv_if_ne (tgt := 138) hx hb gd_Md_come_129 (by decide) (fun c28 => ?_) (fun c28 => ?_)
        · replace hf := gj_e c28 hf
          refine lv_iconst (v := 0) hx hb gd_Md_come_138 (by decide) ?_
          refine lv_istore (lv' := [(4, .int 0), (0, .ref (ad 0 0)), (1, .int x1), (2, .int x2), (3, .int x3)]) hx hb gd_Md_come_139 hl (by decide) rfl (fun ls hl => ?_)
          exact L141 gm_fu x1 x2 x3 0 (gm_sI (gm_sI u 7 (Int32.toNatClampNeg x3) x1) 12 0 (((gm_sI u 7 (Int32.toNatClampNeg x3) x1).1 12 0) + 1)) _ _ _ hf hH hS (lv_sub hl [1, 2, 3, 4, 0] rfl)
        · replace hf := gj_t c28 hf
          refine lv_aload_n hx hb gd_Md_come_132 rfl (lv_at hl 0 rfl) ?_
          refine lv_iconst (v := 0) hx hb gd_Md_come_133 (by decide) ?_
          refine lv_iconst (v := 0) hx hb gd_Md_come_134 (by decide) ?_
          obtain ⟨z26, hc27, hf⟩ := Option.bind_eq_some_iff.mp hf
          refine gq_callv (va_runV (As := [.int 0, .int 0]) (rest := []) ⟨hx, hb, hml, hown, hts⟩ (ct_Md_insertLeaf l D cI cZ ad hI (gm_sI (gm_sI u 7 (Int32.toNatClampNeg x3) x1) 12 0 (((gm_sI u 7 (Int32.toNatClampNeg x3) x1).1 12 0) + 1)) 0 0 z26 hc27) (cwV 2 hts (gt_V gt_451 gt_453 (gt_sel (List.mem_of_getElem? (i := 27) rfl)) gt_5 gt_454) rfl rfl rfl (by decide +kernel) ⟨Nat.le_of_ble_eq_true rfl, Nat.le_of_ble_eq_true rfl⟩) (gq_preV hH hK hN (va_recv hK (gq_one (c := 0) (k := 0) hH rfl (gm_c0 cI cZ ad (gm_sI (gm_sI u 7 (Int32.toNatClampNeg x3) x1) 12 0 (((gm_sI u 7 (Int32.toNatClampNeg x3) x1).1 12 0) + 1)))) (ci := 4) (q0 := 0) rfl rfl)) rfl rfl hl.1 rfl (lv_room (Nat.le_of_ble_eq_true rfl)) gd_Md_come_135 ⟨Nat.zero_le _, Nat.zero_le _⟩) hA hS (fun H locs hH hS => ?_)
          refine lv_iconst (v := 0) hx hb gd_Md_come_138 (by decide) ?_
          refine lv_istore (lv' := [(4, .int 0), (0, .ref (ad 0 0)), (1, .int x1), (2, .int x2), (3, .int x3)]) hx hb gd_Md_come_139 hl (by decide) rfl (fun ls hl => ?_)
          exact L141 gm_fu x1 x2 x3 0 z26 _ _ _ hf hH hS (lv_sub hl [1, 2, 3, 4, 0] rfl)
      · replace hf := gj_e c31 hf
        refine lv_aload_n hx hb gd_Md_come_86 rfl (lv_at hl 0 rfl) ?_
        refine va_get (D := D) (ci := 4) (C := gR_Md) (T := gT_Md) (N := 16) hx hb hts (fun w h => List.mem_cons_of_mem _ (gl_Md w h)) hown hK (gq_one (c := 0) (k := 0) hH rfl (gm_c0 cI cZ ad u)) 0 rfl rfl 8 (by decide) (ht _ gt_377) (fun _ h9 => h9) rfl gd_Md_come_87 ?_
        refine lv_iload hx hb gd_Md_come_90 (lv_at hl 4 rfl) ?_
        refine lv_aload_n hx hb gd_Md_come_92 rfl (lv_at hl 0 rfl) ?_
        refine va_get (D := D) (ci := 4) (C := gR_Md) (T := gT_Md) (N := 16) hx hb hts (fun w h => List.mem_cons_of_mem _ (gl_Md w h)) hown hK (gq_one (c := 0) (k := 0) hH rfl (gm_c0 cI cZ ad u)) 0 rfl rfl 8 (by decide) (ht _ gt_377) (fun _ h9 => h9) rfl gd_Md_come_93 ?_
        refine lv_iload hx hb gd_Md_come_96 (lv_at hl 4 rfl) ?_
        refine lv_iconst (v := 1) hx hb gd_Md_come_98 (by decide) ?_
        refine lv_isub hx hb gd_Md_come_99 ?_
        obtain ⟨hg29, hf⟩ := gj_g hf
        refine va_iald (D := D) hx hb hK (gq_one (c := 7) (k := 0) hH rfl (gm_c7 cI cZ ad u)) 0 0 rfl rfl hg29 gd_Md_come_100 ?_
        obtain ⟨hg30, hf⟩ := gj_g hf
        refine gq_iast (D := D) (ca := 7) (ka := 0) (pp' := gm_pc cI cZ ad (gm_sI u 7 (Int32.toNatClampNeg x4) (u.1 7 (Int32.toNatClampNeg (x4 - 1))))) hx hb hK hH hI hA rfl (gm_c7 cI cZ ad u) 0 rfl hg30 (gm_w7 cI cZ ad u (Int32.toNatClampNeg x4) (u.1 7 (Int32.toNatClampNeg (x4 - 1)))) (gm_o7 cI cZ ad u (Int32.toNatClampNeg x4) (u.1 7 (Int32.toNatClampNeg (x4 - 1)))) hS gd_Md_come_101 (fun H locs hH hS => ?_)
        refine lv_iinc (v := x4 + (-1)) (lv' := [(4, .int (x4 + (-1))), (0, .ref (ad 0 0)), (1, .int x1), (2, .int x2), (3, .int x3)]) hx hb gd_Md_come_102 hl (k := 4) rfl rfl (by decide) rfl (fun ls hl => ?_)
        refine lv_goto (tgt := 80) hx hb gd_Md_come_105 (by decide) ?_
        exact ih x1 x2 x3 (x4 + (-1)) (gm_sI u 7 (Int32.toNatClampNeg x4) (u.1 7 (Int32.toNatClampNeg (x4 - 1)))) _ _ _ hf hH hS (lv_sub hl [1, 2, 3, 4, 0] rfl)
  have L40 : ∀ (n : Nat) (x1 : Int32) (x2 : Int32) (x3 : Int32) (x4 : Int32) (u : gm_St) (H : Heap) (locs : List Loc) (ls : Array Slot), fn_Md_come_40 n x1 x2 x3 x4 u = some z → gq_H D gc_cl gm_vd ad (gm_pc cI cZ ad u) H → va_S (gq_A gm_vd ad) s.heap H locs → lv_has ls 5 [(0, .ref (ad 0 0)), (1, .int x1), (2, .int x2), (3, .int x3), (4, .int x4)] → W p l e (headSpec gws_Md_come ({ frames := 2, cells := 0, slots := 0, locals := 47 })).room s m ([.ref (ad 0 0), .int p1, .int p2] : List Value).toArray below meth c H locs 0 0 (MQ below (va_Qv (fun u2 => u2 = z) (fun u2 t => gq_B D gc_cl (gm_tys cI cZ) gm_vd ad (gm_pc cI cZ ad u2) t) (gq_A gm_vd ad)) ([.ref (ad 0 0), .int p1, .int p2] : List Value).toArray s 0 0 (gq_A gm_vd ad)) (F0 m 40 ls []) := by
    intro n
    induction n with
    | zero =>
      intro x1 x2 x3 x4 u H locs ls hf
      have h0 : none = some z := hf
      cases h0
    | succ n ih =>
      intro x1 x2 x3 x4 u H locs ls hf hH hS hl
      rw [fn_Md_come_40] at hf
      refine lv_iload hx hb gd_Md_come_40 (lv_at hl 4 rfl) ?_
      refine lv_aload_n hx hb gd_Md_come_42 rfl (lv_at hl 0 rfl) ?_
      refine va_get (D := D) (ci := 4) (C := gR_Md) (T := gT_Md) (N := 16) hx hb hts (fun w h => List.mem_cons_of_mem _ (gl_Md w h)) hown hK (gq_one (c := 0) (k := 0) hH rfl (gm_c0 cI cZ ad u)) 0 rfl rfl 0 (by decide) (ht _ gt_369) (fun _ h9 => h9) rfl gd_Md_come_43 ?_
      refine lv_icmp_ge (tgt := 74) hx hb gd_Md_come_46 (by decide) (fun c34 => ?_) (fun c34 => ?_)
      · replace hf := gj_t c34 hf
        refine lv_aload_n hx hb gd_Md_come_74 rfl (lv_at hl 0 rfl) ?_
        refine va_get (D := D) (ci := 4) (C := gR_Md) (T := gT_Md) (N := 16) hx hb hts (fun w h => List.mem_cons_of_mem _ (gl_Md w h)) hown hK (gq_one (c := 0) (k := 0) hH rfl (gm_c0 cI cZ ad u)) 0 rfl rfl 7 (by decide) (ht _ gt_376) (fun _ h9 => h9) rfl gd_Md_come_75 ?_
        refine lv_istore (lv' := [(4, .int (u.1 12 0)), (0, .ref (ad 0 0)), (1, .int x1), (2, .int x2), (3, .int x3)]) hx hb gd_Md_come_78 hl (by decide) rfl (fun ls hl => ?_)
        exact L80 gm_fu x1 x2 x3 (u.1 12 0) u _ _ _ hf hH hS (lv_sub hl [1, 2, 3, 4, 0] rfl)
      · replace hf := gj_e c34 hf
        refine lv_aload_n hx hb gd_Md_come_49 rfl (lv_at hl 0 rfl) ?_
        refine va_get (D := D) (ci := 4) (C := gR_Md) (T := gT_Md) (N := 16) hx hb hts (fun w h => List.mem_cons_of_mem _ (gl_Md w h)) hown hK (gq_one (c := 0) (k := 0) hH rfl (gm_c0 cI cZ ad u)) 0 rfl rfl 6 (by decide) (ht _ gt_375) (fun _ h9 => h9) rfl gd_Md_come_50 ?_
        refine lv_bipush (v := 16) hx hb gd_Md_come_53 (by decide) ?_
        refine lv_iload_n hx hb gd_Md_come_55 rfl (lv_at hl 1 rfl) ?_
        refine lv_imul hx hb gd_Md_come_56 ?_
        refine lv_iload hx hb gd_Md_come_57 (lv_at hl 4 rfl) ?_
        refine lv_iadd hx hb gd_Md_come_59 ?_
        refine lv_aload_n hx hb gd_Md_come_60 rfl (lv_at hl 0 rfl) ?_
        refine va_get (D := D) (ci := 4) (C := gR_Md) (T := gT_Md) (N := 16) hx hb hts (fun w h => List.mem_cons_of_mem _ (gl_Md w h)) hown hK (gq_one (c := 0) (k := 0) hH rfl (gm_c0 cI cZ ad u)) 0 rfl rfl 1 (by decide) (ht _ gt_370) (fun _ h9 => h9) rfl gd_Md_come_61 ?_
        refine lv_iload hx hb gd_Md_come_64 (lv_at hl 4 rfl) ?_
        obtain ⟨hg32, hf⟩ := gj_g hf
        refine va_iald (D := D) hx hb hK (gq_one (c := 1) (k := 0) hH rfl (gm_c1 cI cZ ad u)) 0 0 rfl rfl hg32 gd_Md_come_66 ?_
        obtain ⟨hg33, hf⟩ := gj_g hf
        refine gq_iast (D := D) (ca := 6) (ka := 0) (pp' := gm_pc cI cZ ad (gm_sI u 6 (Int32.toNatClampNeg ((16 * x1) + x4)) (u.1 1 (Int32.toNatClampNeg x4)))) hx hb hK hH hI hA rfl (gm_c6 cI cZ ad u) 0 rfl hg33 (gm_w6 cI cZ ad u (Int32.toNatClampNeg ((16 * x1) + x4)) (u.1 1 (Int32.toNatClampNeg x4))) (gm_o6 cI cZ ad u (Int32.toNatClampNeg ((16 * x1) + x4)) (u.1 1 (Int32.toNatClampNeg x4))) hS gd_Md_come_67 (fun H locs hH hS => ?_)
        refine lv_iinc (v := x4 + 1) (lv' := [(4, .int (x4 + 1)), (0, .ref (ad 0 0)), (1, .int x1), (2, .int x2), (3, .int x3)]) hx hb gd_Md_come_68 hl (k := 4) rfl rfl (by decide) rfl (fun ls hl => ?_)
        refine lv_goto (tgt := 40) hx hb gd_Md_come_71 (by decide) ?_
        exact ih x1 x2 x3 (x4 + 1) (gm_sI u 6 (Int32.toNatClampNeg ((16 * x1) + x4)) (u.1 1 (Int32.toNatClampNeg x4))) _ _ _ hf hH hS (lv_sub hl [1, 2, 3, 4, 0] rfl)
  unfold fn_Md_come at hf
  refine lv_aload_n hx hb gd_Md_come_0 rfl (lv_at hl 0 rfl) ?_
  refine lv_iload_n hx hb gd_Md_come_1 rfl (lv_at hl 2 rfl) ?_
  obtain ⟨z1, hc2, hf⟩ := Option.bind_eq_some_iff.mp hf
  refine gq_calli (va_runV (As := [.int p2]) (rest := []) ⟨hx, hb, hml, hown, hts⟩ (ct_Md_before l D cI cZ ad hI u p2 z1 hc2) (cwV 1 hts (gt_V gt_447 gt_449 (gt_sel (List.mem_of_getElem? (i := 26) rfl)) gt_5 gt_450) rfl rfl rfl (by decide +kernel) ⟨Nat.le_of_ble_eq_true rfl, Nat.le_of_ble_eq_true rfl⟩) (gq_preV hH hK hN (va_recv hK (gq_one (c := 0) (k := 0) hH rfl (gm_c0 cI cZ ad u)) (ci := 4) (q0 := 0) rfl rfl)) rfl rfl hl.1 rfl (lv_room (Nat.le_of_ble_eq_true rfl)) gd_Md_come_2 ⟨Nat.zero_le _, Nat.zero_le _⟩) hA hS (fun H locs hH hS => ?_)
  refine lv_istore_n (lv' := [(3, .int z1.1), (0, .ref (ad 0 0)), (1, .int p1), (2, .int p2)]) hx hb gd_Md_come_5 rfl hl (by decide) rfl (fun ls hl => ?_)
  refine lv_aload_n hx hb gd_Md_come_6 rfl (lv_at hl 1 rfl) ?_
  refine va_get (D := D) (ci := 4) (C := gR_Md) (T := gT_Md) (N := 16) hx hb hts (fun w h => List.mem_cons_of_mem _ (gl_Md w h)) hown hK (gq_one (c := 0) (k := 0) hH rfl (gm_c0 cI cZ ad z1.2)) 0 rfl rfl 2 (by decide) (ht _ gt_371) (fun _ h9 => h9) rfl gd_Md_come_7 ?_
  refine lv_iload_n hx hb gd_Md_come_10 rfl (lv_at hl 2 rfl) ?_
  refine lv_iconst (v := 1) hx hb gd_Md_come_11 (by decide) ?_
  obtain ⟨hg3, hf⟩ := gj_g hf
  refine gq_zast (D := D) (ca := 2) (ka := 0) (pp' := gm_pc cI cZ ad (gm_sI z1.2 2 (Int32.toNatClampNeg p1) (vp_nar .boolean 1))) hx hb hK hH hI hA rfl (gm_c2 cI cZ ad z1.2) 1 rfl hg3 (gm_w2 cI cZ ad z1.2 (Int32.toNatClampNeg p1) (vp_nar .boolean 1)) (gm_o2 cI cZ ad z1.2 (Int32.toNatClampNeg p1) (vp_nar .boolean 1)) hS gd_Md_come_12 (fun H locs hH hS => ?_)
  refine lv_aload_n hx hb gd_Md_come_13 rfl (lv_at hl 1 rfl) ?_
  refine va_get (D := D) (ci := 4) (C := gR_Md) (T := gT_Md) (N := 16) hx hb hts (fun w h => List.mem_cons_of_mem _ (gl_Md w h)) hown hK (gq_one (c := 0) (k := 0) hH rfl (gm_c0 cI cZ ad (gm_sI z1.2 2 (Int32.toNatClampNeg p1) (vp_nar .boolean 1)))) 0 rfl rfl 3 (by decide) (ht _ gt_372) (fun _ h9 => h9) rfl gd_Md_come_14 ?_
  refine lv_iload_n hx hb gd_Md_come_17 rfl (lv_at hl 2 rfl) ?_
  refine lv_iload_n hx hb gd_Md_come_18 rfl (lv_at hl 3 rfl) ?_
  obtain ⟨hg4, hf⟩ := gj_g hf
  refine gq_iast (D := D) (ca := 3) (ka := 0) (pp' := gm_pc cI cZ ad (gm_sI (gm_sI z1.2 2 (Int32.toNatClampNeg p1) (vp_nar .boolean 1)) 3 (Int32.toNatClampNeg p1) p2)) hx hb hK hH hI hA rfl (gm_c3 cI cZ ad (gm_sI z1.2 2 (Int32.toNatClampNeg p1) (vp_nar .boolean 1))) 0 rfl hg4 (gm_w3 cI cZ ad (gm_sI z1.2 2 (Int32.toNatClampNeg p1) (vp_nar .boolean 1)) (Int32.toNatClampNeg p1) p2) (gm_o3 cI cZ ad (gm_sI z1.2 2 (Int32.toNatClampNeg p1) (vp_nar .boolean 1)) (Int32.toNatClampNeg p1) p2) hS gd_Md_come_19 (fun H locs hH hS => ?_)
  refine lv_aload_n hx hb gd_Md_come_20 rfl (lv_at hl 1 rfl) ?_
  refine va_get (D := D) (ci := 4) (C := gR_Md) (T := gT_Md) (N := 16) hx hb hts (fun w h => List.mem_cons_of_mem _ (gl_Md w h)) hown hK (gq_one (c := 0) (k := 0) hH rfl (gm_c0 cI cZ ad (gm_sI (gm_sI z1.2 2 (Int32.toNatClampNeg p1) (vp_nar .boolean 1)) 3 (Int32.toNatClampNeg p1) p2))) 0 rfl rfl 4 (by decide) (ht _ gt_373) (fun _ h9 => h9) rfl gd_Md_come_21 ?_
  refine lv_iload_n hx hb gd_Md_come_24 rfl (lv_at hl 2 rfl) ?_
  refine lv_iconst (v := 0) hx hb gd_Md_come_25 (by decide) ?_
  obtain ⟨hg5, hf⟩ := gj_g hf
  refine gq_iast (D := D) (ca := 4) (ka := 0) (pp' := gm_pc cI cZ ad (gm_sI (gm_sI (gm_sI z1.2 2 (Int32.toNatClampNeg p1) (vp_nar .boolean 1)) 3 (Int32.toNatClampNeg p1) p2) 4 (Int32.toNatClampNeg p1) 0)) hx hb hK hH hI hA rfl (gm_c4 cI cZ ad (gm_sI (gm_sI z1.2 2 (Int32.toNatClampNeg p1) (vp_nar .boolean 1)) 3 (Int32.toNatClampNeg p1) p2)) 0 rfl hg5 (gm_w4 cI cZ ad (gm_sI (gm_sI z1.2 2 (Int32.toNatClampNeg p1) (vp_nar .boolean 1)) 3 (Int32.toNatClampNeg p1) p2) (Int32.toNatClampNeg p1) 0) (gm_o4 cI cZ ad (gm_sI (gm_sI z1.2 2 (Int32.toNatClampNeg p1) (vp_nar .boolean 1)) 3 (Int32.toNatClampNeg p1) p2) (Int32.toNatClampNeg p1) 0) hS gd_Md_come_26 (fun H locs hH hS => ?_)
  refine lv_aload_n hx hb gd_Md_come_27 rfl (lv_at hl 1 rfl) ?_
  refine va_get (D := D) (ci := 4) (C := gR_Md) (T := gT_Md) (N := 16) hx hb hts (fun w h => List.mem_cons_of_mem _ (gl_Md w h)) hown hK (gq_one (c := 0) (k := 0) hH rfl (gm_c0 cI cZ ad (gm_sI (gm_sI (gm_sI z1.2 2 (Int32.toNatClampNeg p1) (vp_nar .boolean 1)) 3 (Int32.toNatClampNeg p1) p2) 4 (Int32.toNatClampNeg p1) 0))) 0 rfl rfl 5 (by decide) (ht _ gt_374) (fun _ h9 => h9) rfl gd_Md_come_28 ?_
  refine lv_iload_n hx hb gd_Md_come_31 rfl (lv_at hl 2 rfl) ?_
  refine lv_aload_n hx hb gd_Md_come_32 rfl (lv_at hl 1 rfl) ?_
  refine va_get (D := D) (ci := 4) (C := gR_Md) (T := gT_Md) (N := 16) hx hb hts (fun w h => List.mem_cons_of_mem _ (gl_Md w h)) hown hK (gq_one (c := 0) (k := 0) hH rfl (gm_c0 cI cZ ad (gm_sI (gm_sI (gm_sI z1.2 2 (Int32.toNatClampNeg p1) (vp_nar .boolean 1)) 3 (Int32.toNatClampNeg p1) p2) 4 (Int32.toNatClampNeg p1) 0))) 0 rfl rfl 0 (by decide) (ht _ gt_369) (fun _ h9 => h9) rfl gd_Md_come_33 ?_
  obtain ⟨hg6, hf⟩ := gj_g hf
  refine gq_iast (D := D) (ca := 5) (ka := 0) (pp' := gm_pc cI cZ ad (gm_sI (gm_sI (gm_sI (gm_sI z1.2 2 (Int32.toNatClampNeg p1) (vp_nar .boolean 1)) 3 (Int32.toNatClampNeg p1) p2) 4 (Int32.toNatClampNeg p1) 0) 5 (Int32.toNatClampNeg p1) ((gm_sI (gm_sI (gm_sI z1.2 2 (Int32.toNatClampNeg p1) (vp_nar .boolean 1)) 3 (Int32.toNatClampNeg p1) p2) 4 (Int32.toNatClampNeg p1) 0).1 0 0))) hx hb hK hH hI hA rfl (gm_c5 cI cZ ad (gm_sI (gm_sI (gm_sI z1.2 2 (Int32.toNatClampNeg p1) (vp_nar .boolean 1)) 3 (Int32.toNatClampNeg p1) p2) 4 (Int32.toNatClampNeg p1) 0)) 0 rfl hg6 (gm_w5 cI cZ ad (gm_sI (gm_sI (gm_sI z1.2 2 (Int32.toNatClampNeg p1) (vp_nar .boolean 1)) 3 (Int32.toNatClampNeg p1) p2) 4 (Int32.toNatClampNeg p1) 0) (Int32.toNatClampNeg p1) ((gm_sI (gm_sI (gm_sI z1.2 2 (Int32.toNatClampNeg p1) (vp_nar .boolean 1)) 3 (Int32.toNatClampNeg p1) p2) 4 (Int32.toNatClampNeg p1) 0).1 0 0)) (gm_o5 cI cZ ad (gm_sI (gm_sI (gm_sI z1.2 2 (Int32.toNatClampNeg p1) (vp_nar .boolean 1)) 3 (Int32.toNatClampNeg p1) p2) 4 (Int32.toNatClampNeg p1) 0) (Int32.toNatClampNeg p1) ((gm_sI (gm_sI (gm_sI z1.2 2 (Int32.toNatClampNeg p1) (vp_nar .boolean 1)) 3 (Int32.toNatClampNeg p1) p2) 4 (Int32.toNatClampNeg p1) 0).1 0 0)) hS gd_Md_come_36 (fun H locs hH hS => ?_)
  refine lv_iconst (v := 0) hx hb gd_Md_come_37 (by decide) ?_
  refine lv_istore (lv' := [(4, .int 0), (3, .int z1.1), (0, .ref (ad 0 0)), (1, .int p1), (2, .int p2)]) hx hb gd_Md_come_38 hl (by decide) rfl (fun ls hl => ?_)
  exact L40 gm_fu p1 p2 z1.1 0 (gm_sI (gm_sI (gm_sI (gm_sI z1.2 2 (Int32.toNatClampNeg p1) (vp_nar .boolean 1)) 3 (Int32.toNatClampNeg p1) p2) 4 (Int32.toNatClampNeg p1) 0) 5 (Int32.toNatClampNeg p1) ((gm_sI (gm_sI (gm_sI z1.2 2 (Int32.toNatClampNeg p1) (vp_nar .boolean 1)) 3 (Int32.toNatClampNeg p1) p2) 4 (Int32.toNatClampNeg p1) 0).1 0 0)) _ _ _ hf hH hS (lv_sub hl [2, 3, 4, 1, 0] rfl)
set_option maxHeartbeats 4000000 in
set_option maxRecDepth 100000 in
theorem ct_Md_add (l : Launch) (D : va_G) (cI cZ : ClassId) (ad : Nat → Nat → Nat) (hI : gq_I gm_vd ad) (u : gm_St) (p1 : Int32) (z : Int32 × gm_St) (hf : fn_Md_add p1 u = some z) : Met l gy_Md_add gws_Md_add ({ frames := 3, cells := 0, slots := 0, locals := 71 }) (va_Pc [.ref (ad 0 0), .int p1] (gq_pre D gc_cl (gm_tys cI cZ) gm_vd ad gm_NF gm_NM (gm_pc cI cZ ad u))) (va_Qi (fun r u2 => r = z.1 ∧ u2 = z.2) (fun u2 t => gq_B D gc_cl (gm_tys cI cZ) gm_vd ad (gm_pc cI cZ ad u2) t) (gq_A gm_vd ad)) 0 0 (gq_A gm_vd ad) := by
  refine Met.ofW (cc := gb_Md_add) (maxL := 4) (ret := (some .int)) (by decide) rfl ?_
  intro p e s m args below meth c s₁ B hml hv
  obtain ⟨rfl, hH, hK, hN⟩ := hv
  have hx := B.exec
  have hb := B.bytes
  have hr := B.returns
  have hts := atoms_spec (ws := gws_Md_add) B.pre
  have ht := fun (w : Cond) (h : w ∈ gt_T) => hts w (List.mem_cons_of_mem _ h)
  have hown : s.vm.findClass gR_Md = some m.cls := findClass_of_methodNamed B.named
  have hlocks := B.notSynchronized
  have hA : ∀ q, (gq_A gm_vd ad) q → (gq_A gm_vd ad) q := fun _ h => h
  have hS : va_S (gq_A gm_vd ad) s.heap s.heap [] := va_S.rf
  have hl := lv_entry ([.ref (ad 0 0), .int p1]) (n := 4) (Nat.le_of_ble_eq_true rfl)
  rw [lg_entry_eq]
  generalize (lg_sl ([.ref (ad 0 0), .int p1]) ++ List.replicate (4 - (lg_sl ([.ref (ad 0 0), .int p1])).length) Slot.unset).toArray = ls at hl ⊢
  have hl : lv_has ls 4 [(0, .ref (ad 0 0)), (1, .int p1)] := hl
  have L58 : ∀ (n : Nat) (x1 : Int32) (x2 : Int32) (x3 : Int32) (u : gm_St) (H : Heap) (locs : List Loc) (ls : Array Slot), fn_Md_add_58 n x1 x2 x3 u = some z → gq_H D gc_cl gm_vd ad (gm_pc cI cZ ad u) H → va_S (gq_A gm_vd ad) s.heap H locs → lv_has ls 4 [(0, .ref (ad 0 0)), (1, .int x1), (2, .int x2), (3, .int x3)] → W p l e (headSpec gws_Md_add ({ frames := 3, cells := 0, slots := 0, locals := 71 })).room s m ([.ref (ad 0 0), .int p1] : List Value).toArray below meth c H locs 0 0 (MQ below (va_Qi (fun r u2 => r = z.1 ∧ u2 = z.2) (fun u2 t => gq_B D gc_cl (gm_tys cI cZ) gm_vd ad (gm_pc cI cZ ad u2) t) (gq_A gm_vd ad)) ([.ref (ad 0 0), .int p1] : List Value).toArray s 0 0 (gq_A gm_vd ad)) (F0 m 58 ls []) := by
    intro n
    induction n with
    | zero =>
      intro x1 x2 x3 u H locs ls hf
      have h0 : none = some z := hf
      cases h0
    | succ n ih =>
      intro x1 x2 x3 u H locs ls hf hH hS hl
      rw [fn_Md_add_58] at hf
      refine lv_aload_n hx hb gd_Md_add_58 rfl (lv_at hl 0 rfl) ?_
      refine va_get (D := D) (ci := 4) (C := gR_Md) (T := gT_Md) (N := 16) hx hb hts (fun w h => List.mem_cons_of_mem _ (gl_Md w h)) hown hK (gq_one (c := 0) (k := 0) hH rfl (gm_c0 cI cZ ad u)) 0 rfl rfl 2 (by decide) (ht _ gt_371) (fun _ h9 => h9) rfl gd_Md_add_59 ?_
      refine lv_iload_n hx hb gd_Md_add_62 rfl (lv_at hl 3 rfl) ?_
      obtain ⟨hg7, hf⟩ := gj_g hf
      refine va_zald (D := D) hx hb hK (gq_one (c := 2) (k := 0) hH rfl (gm_c2 cI cZ ad u)) 0 1 rfl rfl hg7 gd_Md_add_63 ?_
      refine lv_if_eq (tgt := 73) hx hb gd_Md_add_64 (by decide) (fun c12 => ?_) (fun c12 => ?_)
      · replace hf := gj_t c12 hf
        refine lv_aload_n hx hb gd_Md_add_73 rfl (lv_at hl 0 rfl) ?_
        refine lv_iload_n hx hb gd_Md_add_74 rfl (lv_at hl 3 rfl) ?_
        refine lv_iload_n hx hb gd_Md_add_75 rfl (lv_at hl 1 rfl) ?_
        obtain ⟨z8, hc9, hf⟩ := Option.bind_eq_some_iff.mp hf
        refine gq_callv (va_runV (As := [.int x3, .int x1]) (rest := []) ⟨hx, hb, hml, hown, hts⟩ (ct_Md_come l D cI cZ ad hI u x3 x1 z8 hc9) (cwV 2 hts (gt_V gt_443 gt_445 (gt_sel (List.mem_of_getElem? (i := 25) rfl)) gt_5 gt_446) rfl rfl rfl (by decide +kernel) ⟨Nat.le_of_ble_eq_true rfl, Nat.le_of_ble_eq_true rfl⟩) (gq_preV hH hK hN (va_recv hK (gq_one (c := 0) (k := 0) hH rfl (gm_c0 cI cZ ad u)) (ci := 4) (q0 := 0) rfl rfl)) rfl rfl hl.1 rfl (lv_room (Nat.le_of_ble_eq_true rfl)) gd_Md_add_76 ⟨Nat.zero_le _, Nat.zero_le _⟩) hA hS (fun H locs hH hS => ?_)
        refine lv_aload_n hx hb gd_Md_add_79 rfl (lv_at hl 0 rfl) ?_
        refine va_get (D := D) (ci := 4) (C := gR_Md) (T := gT_Md) (N := 16) hx hb hts (fun w h => List.mem_cons_of_mem _ (gl_Md w h)) hown hK (gq_one (c := 0) (k := 0) hH rfl (gm_c0 cI cZ ad z8)) 0 rfl rfl 4 (by decide) (ht _ gt_373) (fun _ h9 => h9) rfl gd_Md_add_80 ?_
        refine lv_iload_n hx hb gd_Md_add_83 rfl (lv_at hl 3 rfl) ?_
        refine lv_dup2_11 hx hb gd_Md_add_84 rfl rfl ?_
        obtain ⟨hg10, hf⟩ := gj_g hf
        refine va_iald (D := D) hx hb hK (gq_one (c := 4) (k := 0) hH rfl (gm_c4 cI cZ ad z8)) 0 0 rfl rfl hg10 gd_Md_add_85 ?_
        refine lv_iconst (v := 1) hx hb gd_Md_add_86 (by decide) ?_
        refine lv_iadd hx hb gd_Md_add_87 ?_
        obtain ⟨hg11, hf⟩ := gj_g hf
        refine gq_iast (D := D) (ca := 4) (ka := 0) (pp' := gm_pc cI cZ ad (gm_sI z8 4 (Int32.toNatClampNeg x3) ((z8.1 4 (Int32.toNatClampNeg x3)) + 1))) hx hb hK hH hI hA rfl (gm_c4 cI cZ ad z8) 0 rfl hg11 (gm_w4 cI cZ ad z8 (Int32.toNatClampNeg x3) ((z8.1 4 (Int32.toNatClampNeg x3)) + 1)) (gm_o4 cI cZ ad z8 (Int32.toNatClampNeg x3) ((z8.1 4 (Int32.toNatClampNeg x3)) + 1)) hS gd_Md_add_88 (fun H locs hH hS => ?_)
        refine lv_aload_n hx hb gd_Md_add_89 rfl (lv_at hl 0 rfl) ?_
        refine lv_iconst (v := 0) hx hb gd_Md_add_90 (by decide) ?_
        refine gq_put (D := D) (ci := 4) (C := gR_Md) (T := gT_Md) (N := 16) (ca := 0) (ka := 0) (pp' := gm_pc cI cZ ad (gm_sI (gm_sI z8 4 (Int32.toNatClampNeg x3) ((z8.1 4 (Int32.toNatClampNeg x3)) + 1)) 0 0 0)) (ty := .int) hx hb hts (fun w h => List.mem_cons_of_mem _ (gl_Md w h)) gF_Md gf_Md gn_Md hown hK hH hI hA rfl (gm_c0 cI cZ ad (gm_sI z8 4 (Int32.toNatClampNeg x3) ((z8.1 4 (Int32.toNatClampNeg x3)) + 1))) rfl 0 (by decide) (ht _ gt_369) (fun _ h9 => h9) rfl (by decide +kernel) rfl rfl (Nat.le_of_ble_eq_true rfl) (gm_w0 cI cZ ad (gm_sI z8 4 (Int32.toNatClampNeg x3) ((z8.1 4 (Int32.toNatClampNeg x3)) + 1)) 0) (gm_o0 cI cZ ad (gm_sI z8 4 (Int32.toNatClampNeg x3) ((z8.1 4 (Int32.toNatClampNeg x3)) + 1)) 0) hS gd_Md_add_91 (fun H locs hH hS => ?_)
        refine lv_iload_n hx hb gd_Md_add_94 rfl (lv_at hl 3 rfl) ?_
        cases hf
        exact W.iret hx hb hr (fun t ht hW => ⟨⟨_, _, rfl, ⟨rfl, rfl⟩, ⟨by rw [ht]; exact hH, va_K.moved hW.alike hK⟩⟩, hS.F ht⟩) hS.2.2 gd_Md_add_95
      · replace hf := gj_e c12 hf
        refine lv_iinc (v := x3 + 1) (lv' := [(3, .int (x3 + 1)), (0, .ref (ad 0 0)), (1, .int x1), (2, .int x2)]) hx hb gd_Md_add_67 hl (k := 3) rfl rfl (by decide) rfl (fun ls hl => ?_)
        refine lv_goto (tgt := 58) hx hb gd_Md_add_70 (by decide) ?_
        exact ih x1 x2 (x3 + 1) u _ _ _ hf hH hS (lv_sub hl [1, 2, 3, 0] rfl)
  unfold fn_Md_add at hf
  refine lv_aload_n hx hb gd_Md_add_0 rfl (lv_at hl 0 rfl) ?_
  refine va_get (D := D) (ci := 4) (C := gR_Md) (T := gT_Md) (N := 16) hx hb hts (fun w h => List.mem_cons_of_mem _ (gl_Md w h)) hown hK (gq_one (c := 0) (k := 0) hH rfl (gm_c0 cI cZ ad u)) 0 rfl rfl 0 (by decide) (ht _ gt_369) (fun _ h9 => h9) rfl gd_Md_add_1 ?_
  refine lv_istore_n (lv' := [(2, .int (u.1 0 0)), (0, .ref (ad 0 0)), (1, .int p1)]) hx hb gd_Md_add_4 rfl hl (by decide) rfl (fun ls hl => ?_)
  refine lv_iload_n hx hb gd_Md_add_5 rfl (lv_at hl 2 rfl) ?_
  refine lv_iconst (v := 0) hx hb gd_Md_add_6 (by decide) ?_
  refine lv_iconst (v := 3) hx hb gd_Md_add_7 (by decide) ?_
  obtain ⟨z1, hc2, hf⟩ := Option.bind_eq_some_iff.mp hf
  refine gq_calli (va_runS (As := [.int p1, .int 0, .int 3]) (rest := []) ⟨hx, hb, hml, hown, hts⟩ (ct_Md_in l D cI cZ ad hI u p1 0 3 z1 hc2) (va_cwS 3 hts (gt_S gt_423 gt_424 gt_5 gt_425) rfl rfl rfl (by decide +kernel) ⟨Nat.le_of_ble_eq_true rfl, Nat.le_of_ble_eq_true rfl⟩) (gq_preS hH hK hN) rfl rfl hl.1 rfl (lv_room (Nat.le_of_ble_eq_true rfl)) gd_Md_add_8 ⟨Nat.zero_le _, Nat.zero_le _⟩) hA hS (fun H locs hH hS => ?_)
  refine lv_if_eq (tgt := 18) hx hb gd_Md_add_11 (by decide) (fun c20 => ?_) (fun c20 => ?_)
  · replace hf := gj_t c20 hf
    refine lv_aload_n hx hb gd_Md_add_18 rfl (lv_at hl 1 rfl) ?_
    refine lv_iconst (v := 0) hx hb gd_Md_add_19 (by decide) ?_
    refine gq_put (D := D) (ci := 4) (C := gR_Md) (T := gT_Md) (N := 16) (ca := 0) (ka := 0) (pp' := gm_pc cI cZ ad (gm_sI z1.2 0 0 0)) (ty := .int) hx hb hts (fun w h => List.mem_cons_of_mem _ (gl_Md w h)) gF_Md gf_Md gn_Md hown hK hH hI hA rfl (gm_c0 cI cZ ad z1.2) rfl 0 (by decide) (ht _ gt_369) (fun _ h9 => h9) rfl (by decide +kernel) rfl rfl (Nat.le_of_ble_eq_true rfl) (gm_w0 cI cZ ad z1.2 0) (gm_o0 cI cZ ad z1.2 0) hS gd_Md_add_20 (fun H locs hH hS => ?_)
    refine lv_iconst (v := (-1)) hx hb gd_Md_add_23 (by decide) ?_
    cases hf
    exact W.iret hx hb hr (fun t ht hW => ⟨⟨_, _, rfl, ⟨rfl, rfl⟩, ⟨by rw [ht]; exact hH, va_K.moved hW.alike hK⟩⟩, hS.F ht⟩) hS.2.2 gd_Md_add_24
  · replace hf := gj_e c20 hf
    refine lv_iload_n hx hb gd_Md_add_14 rfl (lv_at hl 0 rfl) ?_
    refine lv_if_ne (tgt := 25) hx hb gd_Md_add_15 (by decide) (fun c19 => ?_) (fun c19 => ?_)
    · replace hf := gj_e c19 hf
      refine lv_aload_n hx hb gd_Md_add_25 rfl (lv_at hl 1 rfl) ?_
      refine lv_iload_n hx hb gd_Md_add_26 rfl (lv_at hl 2 rfl) ?_
      obtain ⟨z3, hc4, hf⟩ := Option.bind_eq_some_iff.mp hf
      refine gq_calli (va_runV (As := [.int p1]) (rest := []) ⟨hx, hb, hml, hown, hts⟩ (ct_Md_numberOf l D cI cZ ad hI z1.2 p1 z3 hc4) (cwV 1 hts (gt_V gt_435 gt_437 (gt_sel (List.mem_of_getElem? (i := 23) rfl)) gt_5 gt_438) rfl rfl rfl (by decide +kernel) ⟨Nat.le_of_ble_eq_true rfl, Nat.le_of_ble_eq_true rfl⟩) (gq_preV hH hK hN (va_recv hK (gq_one (c := 0) (k := 0) hH rfl (gm_c0 cI cZ ad z1.2)) (ci := 4) (q0 := 0) rfl rfl)) rfl rfl hl.1 rfl (lv_room (Nat.le_of_ble_eq_true rfl)) gd_Md_add_27 ⟨Nat.zero_le _, Nat.zero_le _⟩) hA hS (fun H locs hH hS => ?_)
      refine lv_istore_n (lv' := [(3, .int z3.1), (2, .int (u.1 0 0)), (0, .ref (ad 0 0)), (1, .int p1)]) hx hb gd_Md_add_30 rfl hl (by decide) rfl (fun ls hl => ?_)
      refine lv_iload_n hx hb gd_Md_add_31 rfl (lv_at hl 0 rfl) ?_
      refine lv_if_ge (tgt := 52) hx hb gd_Md_add_32 (by decide) (fun c18 => ?_) (fun c18 => ?_)
      · replace hf := gj_t c18 hf
        refine lv_iload_n hx hb gd_Md_add_52 rfl (lv_at hl 0 rfl) ?_
        refine lv_if_ge (tgt := 79) hx hb gd_Md_add_53 (by decide) (fun c13 => ?_) (fun c13 => ?_)
        · replace hf := gj_t c13 hf
          refine lv_aload_n hx hb gd_Md_add_79 rfl (lv_at hl 2 rfl) ?_
          refine va_get (D := D) (ci := 4) (C := gR_Md) (T := gT_Md) (N := 16) hx hb hts (fun w h => List.mem_cons_of_mem _ (gl_Md w h)) hown hK (gq_one (c := 0) (k := 0) hH rfl (gm_c0 cI cZ ad z3.2)) 0 rfl rfl 4 (by decide) (ht _ gt_373) (fun _ h9 => h9) rfl gd_Md_add_80 ?_
          refine lv_iload_n hx hb gd_Md_add_83 rfl (lv_at hl 0 rfl) ?_
          refine lv_dup2_11 hx hb gd_Md_add_84 rfl rfl ?_
          obtain ⟨hg5, hf⟩ := gj_g hf
          refine va_iald (D := D) hx hb hK (gq_one (c := 4) (k := 0) hH rfl (gm_c4 cI cZ ad z3.2)) 0 0 rfl rfl hg5 gd_Md_add_85 ?_
          refine lv_iconst (v := 1) hx hb gd_Md_add_86 (by decide) ?_
          refine lv_iadd hx hb gd_Md_add_87 ?_
          obtain ⟨hg6, hf⟩ := gj_g hf
          refine gq_iast (D := D) (ca := 4) (ka := 0) (pp' := gm_pc cI cZ ad (gm_sI z3.2 4 (Int32.toNatClampNeg z3.1) ((z3.2.1 4 (Int32.toNatClampNeg z3.1)) + 1))) hx hb hK hH hI hA rfl (gm_c4 cI cZ ad z3.2) 0 rfl hg6 (gm_w4 cI cZ ad z3.2 (Int32.toNatClampNeg z3.1) ((z3.2.1 4 (Int32.toNatClampNeg z3.1)) + 1)) (gm_o4 cI cZ ad z3.2 (Int32.toNatClampNeg z3.1) ((z3.2.1 4 (Int32.toNatClampNeg z3.1)) + 1)) hS gd_Md_add_88 (fun H locs hH hS => ?_)
          refine lv_aload_n hx hb gd_Md_add_89 rfl (lv_at hl 2 rfl) ?_
          refine lv_iconst (v := 0) hx hb gd_Md_add_90 (by decide) ?_
          refine gq_put (D := D) (ci := 4) (C := gR_Md) (T := gT_Md) (N := 16) (ca := 0) (ka := 0) (pp' := gm_pc cI cZ ad (gm_sI (gm_sI z3.2 4 (Int32.toNatClampNeg z3.1) ((z3.2.1 4 (Int32.toNatClampNeg z3.1)) + 1)) 0 0 0)) (ty := .int) hx hb hts (fun w h => List.mem_cons_of_mem _ (gl_Md w h)) gF_Md gf_Md gn_Md hown hK hH hI hA rfl (gm_c0 cI cZ ad (gm_sI z3.2 4 (Int32.toNatClampNeg z3.1) ((z3.2.1 4 (Int32.toNatClampNeg z3.1)) + 1))) rfl 0 (by decide) (ht _ gt_369) (fun _ h9 => h9) rfl (by decide +kernel) rfl rfl (Nat.le_of_ble_eq_true rfl) (gm_w0 cI cZ ad (gm_sI z3.2 4 (Int32.toNatClampNeg z3.1) ((z3.2.1 4 (Int32.toNatClampNeg z3.1)) + 1)) 0) (gm_o0 cI cZ ad (gm_sI z3.2 4 (Int32.toNatClampNeg z3.1) ((z3.2.1 4 (Int32.toNatClampNeg z3.1)) + 1)) 0) hS gd_Md_add_91 (fun H locs hH hS => ?_)
          refine lv_iload_n hx hb gd_Md_add_94 rfl (lv_at hl 0 rfl) ?_
          cases hf
          exact W.iret hx hb hr (fun t ht hW => ⟨⟨_, _, rfl, ⟨rfl, rfl⟩, ⟨by rw [ht]; exact hH, va_K.moved hW.alike hK⟩⟩, hS.F ht⟩) hS.2.2 gd_Md_add_95
        · replace hf := gj_e c13 hf
          refine lv_iconst (v := 0) hx hb gd_Md_add_56 (by decide) ?_
          refine lv_istore_n (lv' := [(3, .int 0), (2, .int (u.1 0 0)), (0, .ref (ad 0 0)), (1, .int p1)]) hx hb gd_Md_add_57 rfl hl (by decide) rfl (fun ls hl => ?_)
          exact L58 gm_fu p1 (u.1 0 0) 0 z3.2 _ _ _ hf hH hS (lv_sub hl [2, 3, 1, 0] rfl)
      · replace hf := gj_e c18 hf
        refine lv_aload_n hx hb gd_Md_add_35 rfl (lv_at hl 2 rfl) ?_
        refine va_get (D := D) (ci := 4) (C := gR_Md) (T := gT_Md) (N := 16) hx hb hts (fun w h => List.mem_cons_of_mem _ (gl_Md w h)) hown hK (gq_one (c := 0) (k := 0) hH rfl (gm_c0 cI cZ ad z3.2)) 0 rfl rfl 7 (by decide) (ht _ gt_376) (fun _ h9 => h9) rfl gd_Md_add_36 ?_
        refine lv_bipush (v := 100) hx hb gd_Md_add_39 (by decide) ?_
        refine lv_icmp_ne (tgt := 52) hx hb gd_Md_add_41 (by decide) (fun c17 => ?_) (fun c17 => ?_)
        · replace hf := gj_e c17 hf
          refine lv_iload_n hx hb gd_Md_add_52 rfl (lv_at hl 0 rfl) ?_
          refine lv_if_ge (tgt := 79) hx hb gd_Md_add_53 (by decide) (fun c16 => ?_) (fun c16 => ?_)
          · replace hf := gj_t c16 hf
            refine lv_aload_n hx hb gd_Md_add_79 rfl (lv_at hl 2 rfl) ?_
            refine va_get (D := D) (ci := 4) (C := gR_Md) (T := gT_Md) (N := 16) hx hb hts (fun w h => List.mem_cons_of_mem _ (gl_Md w h)) hown hK (gq_one (c := 0) (k := 0) hH rfl (gm_c0 cI cZ ad z3.2)) 0 rfl rfl 4 (by decide) (ht _ gt_373) (fun _ h9 => h9) rfl gd_Md_add_80 ?_
            refine lv_iload_n hx hb gd_Md_add_83 rfl (lv_at hl 0 rfl) ?_
            refine lv_dup2_11 hx hb gd_Md_add_84 rfl rfl ?_
            obtain ⟨hg14, hf⟩ := gj_g hf
            refine va_iald (D := D) hx hb hK (gq_one (c := 4) (k := 0) hH rfl (gm_c4 cI cZ ad z3.2)) 0 0 rfl rfl hg14 gd_Md_add_85 ?_
            refine lv_iconst (v := 1) hx hb gd_Md_add_86 (by decide) ?_
            refine lv_iadd hx hb gd_Md_add_87 ?_
            obtain ⟨hg15, hf⟩ := gj_g hf
            refine gq_iast (D := D) (ca := 4) (ka := 0) (pp' := gm_pc cI cZ ad (gm_sI z3.2 4 (Int32.toNatClampNeg z3.1) ((z3.2.1 4 (Int32.toNatClampNeg z3.1)) + 1))) hx hb hK hH hI hA rfl (gm_c4 cI cZ ad z3.2) 0 rfl hg15 (gm_w4 cI cZ ad z3.2 (Int32.toNatClampNeg z3.1) ((z3.2.1 4 (Int32.toNatClampNeg z3.1)) + 1)) (gm_o4 cI cZ ad z3.2 (Int32.toNatClampNeg z3.1) ((z3.2.1 4 (Int32.toNatClampNeg z3.1)) + 1)) hS gd_Md_add_88 (fun H locs hH hS => ?_)
            refine lv_aload_n hx hb gd_Md_add_89 rfl (lv_at hl 2 rfl) ?_
            refine lv_iconst (v := 0) hx hb gd_Md_add_90 (by decide) ?_
            refine gq_put (D := D) (ci := 4) (C := gR_Md) (T := gT_Md) (N := 16) (ca := 0) (ka := 0) (pp' := gm_pc cI cZ ad (gm_sI (gm_sI z3.2 4 (Int32.toNatClampNeg z3.1) ((z3.2.1 4 (Int32.toNatClampNeg z3.1)) + 1)) 0 0 0)) (ty := .int) hx hb hts (fun w h => List.mem_cons_of_mem _ (gl_Md w h)) gF_Md gf_Md gn_Md hown hK hH hI hA rfl (gm_c0 cI cZ ad (gm_sI z3.2 4 (Int32.toNatClampNeg z3.1) ((z3.2.1 4 (Int32.toNatClampNeg z3.1)) + 1))) rfl 0 (by decide) (ht _ gt_369) (fun _ h9 => h9) rfl (by decide +kernel) rfl rfl (Nat.le_of_ble_eq_true rfl) (gm_w0 cI cZ ad (gm_sI z3.2 4 (Int32.toNatClampNeg z3.1) ((z3.2.1 4 (Int32.toNatClampNeg z3.1)) + 1)) 0) (gm_o0 cI cZ ad (gm_sI z3.2 4 (Int32.toNatClampNeg z3.1) ((z3.2.1 4 (Int32.toNatClampNeg z3.1)) + 1)) 0) hS gd_Md_add_91 (fun H locs hH hS => ?_)
            refine lv_iload_n hx hb gd_Md_add_94 rfl (lv_at hl 0 rfl) ?_
            cases hf
            exact W.iret hx hb hr (fun t ht hW => ⟨⟨_, _, rfl, ⟨rfl, rfl⟩, ⟨by rw [ht]; exact hH, va_K.moved hW.alike hK⟩⟩, hS.F ht⟩) hS.2.2 gd_Md_add_95
          · replace hf := gj_e c16 hf
            refine lv_iconst (v := 0) hx hb gd_Md_add_56 (by decide) ?_
            refine lv_istore_n (lv' := [(3, .int 0), (2, .int (u.1 0 0)), (0, .ref (ad 0 0)), (1, .int p1)]) hx hb gd_Md_add_57 rfl hl (by decide) rfl (fun ls hl => ?_)
            exact L58 gm_fu p1 (u.1 0 0) 0 z3.2 _ _ _ hf hH hS (lv_sub hl [2, 3, 1, 0] rfl)
        · replace hf := gj_t c17 hf
          refine lv_aload_n hx hb gd_Md_add_44 rfl (lv_at hl 2 rfl) ?_
          refine lv_iconst (v := 0) hx hb gd_Md_add_45 (by decide) ?_
          refine gq_put (D := D) (ci := 4) (C := gR_Md) (T := gT_Md) (N := 16) (ca := 0) (ka := 0) (pp' := gm_pc cI cZ ad (gm_sI z3.2 0 0 0)) (ty := .int) hx hb hts (fun w h => List.mem_cons_of_mem _ (gl_Md w h)) gF_Md gf_Md gn_Md hown hK hH hI hA rfl (gm_c0 cI cZ ad z3.2) rfl 0 (by decide) (ht _ gt_369) (fun _ h9 => h9) rfl (by decide +kernel) rfl rfl (Nat.le_of_ble_eq_true rfl) (gm_w0 cI cZ ad z3.2 0) (gm_o0 cI cZ ad z3.2 0) hS gd_Md_add_46 (fun H locs hH hS => ?_)
          refine lv_bipush (v := (-3)) hx hb gd_Md_add_49 (by decide) ?_
          cases hf
          exact W.iret hx hb hr (fun t ht hW => ⟨⟨_, _, rfl, ⟨rfl, rfl⟩, ⟨by rw [ht]; exact hH, va_K.moved hW.alike hK⟩⟩, hS.F ht⟩) hS.2.2 gd_Md_add_51
    · replace hf := gj_t c19 hf
      refine lv_aload_n hx hb gd_Md_add_18 rfl (lv_at hl 1 rfl) ?_
      refine lv_iconst (v := 0) hx hb gd_Md_add_19 (by decide) ?_
      refine gq_put (D := D) (ci := 4) (C := gR_Md) (T := gT_Md) (N := 16) (ca := 0) (ka := 0) (pp' := gm_pc cI cZ ad (gm_sI z1.2 0 0 0)) (ty := .int) hx hb hts (fun w h => List.mem_cons_of_mem _ (gl_Md w h)) gF_Md gf_Md gn_Md hown hK hH hI hA rfl (gm_c0 cI cZ ad z1.2) rfl 0 (by decide) (ht _ gt_369) (fun _ h9 => h9) rfl (by decide +kernel) rfl rfl (Nat.le_of_ble_eq_true rfl) (gm_w0 cI cZ ad z1.2 0) (gm_o0 cI cZ ad z1.2 0) hS gd_Md_add_20 (fun H locs hH hS => ?_)
      refine lv_iconst (v := (-1)) hx hb gd_Md_add_23 (by decide) ?_
      cases hf
      exact W.iret hx hb hr (fun t ht hW => ⟨⟨_, _, rfl, ⟨rfl, rfl⟩, ⟨by rw [ht]; exact hH, va_K.moved hW.alike hK⟩⟩, hS.F ht⟩) hS.2.2 gd_Md_add_24
set_option maxHeartbeats 4000000 in
set_option maxRecDepth 100000 in
theorem ct_Md_go (l : Launch) (D : va_G) (cI cZ : ClassId) (ad : Nat → Nat → Nat) (hI : gq_I gm_vd ad) (u : gm_St) (p1 : Int32) (z : gm_St) (hf : fn_Md_go p1 u = some z) : Met l gy_Md_go gws_Md_go ({ frames := 1, cells := 0, slots := 0, locals := 23 }) (va_Pc [.ref (ad 0 0), .int p1] (gq_pre D gc_cl (gm_tys cI cZ) gm_vd ad gm_NF gm_NM (gm_pc cI cZ ad u))) (va_Qv (fun u2 => u2 = z) (fun u2 t => gq_B D gc_cl (gm_tys cI cZ) gm_vd ad (gm_pc cI cZ ad u2) t) (gq_A gm_vd ad)) 0 0 (gq_A gm_vd ad) := by
  refine Met.ofW (cc := gb_Md_go) (maxL := 5) (ret := none) (by decide) rfl ?_
  intro p e s m args below meth c s₁ B hml hv
  obtain ⟨rfl, hH, hK, hN⟩ := hv
  have hx := B.exec
  have hb := B.bytes
  have hr := B.returns
  have hts := atoms_spec (ws := gws_Md_go) B.pre
  have ht := fun (w : Cond) (h : w ∈ gt_T) => hts w (List.mem_cons_of_mem _ h)
  have hown : s.vm.findClass gR_Md = some m.cls := findClass_of_methodNamed B.named
  have hlocks := B.notSynchronized
  have hA : ∀ q, (gq_A gm_vd ad) q → (gq_A gm_vd ad) q := fun _ h => h
  have hS : va_S (gq_A gm_vd ad) s.heap s.heap [] := va_S.rf
  have hl := lv_entry ([.ref (ad 0 0), .int p1]) (n := 5) (Nat.le_of_ble_eq_true rfl)
  rw [lg_entry_eq]
  generalize (lg_sl ([.ref (ad 0 0), .int p1]) ++ List.replicate (5 - (lg_sl ([.ref (ad 0 0), .int p1])).length) Slot.unset).toArray = ls at hl ⊢
  have hl : lv_has ls 5 [(0, .ref (ad 0 0)), (1, .int p1)] := hl
  have L45 : ∀ (n : Nat) (x1 : Int32) (x2 : Int32) (x3 : Int32) (x4 : Int32) (u : gm_St) (H : Heap) (locs : List Loc) (ls : Array Slot), fn_Md_go_45 n x1 x2 x3 x4 u = some z → gq_H D gc_cl gm_vd ad (gm_pc cI cZ ad u) H → va_S (gq_A gm_vd ad) s.heap H locs → lv_has ls 5 [(0, .ref (ad 0 0)), (1, .int x1), (2, .int x2), (3, .int x3), (4, .int x4)] → W p l e (headSpec gws_Md_go ({ frames := 1, cells := 0, slots := 0, locals := 23 })).room s m ([.ref (ad 0 0), .int p1] : List Value).toArray below meth c H locs 0 0 (MQ below (va_Qv (fun u2 => u2 = z) (fun u2 t => gq_B D gc_cl (gm_tys cI cZ) gm_vd ad (gm_pc cI cZ ad u2) t) (gq_A gm_vd ad)) ([.ref (ad 0 0), .int p1] : List Value).toArray s 0 0 (gq_A gm_vd ad)) (F0 m 45 ls []) := by
    intro n
    induction n with
    | zero =>
      intro x1 x2 x3 x4 u H locs ls hf
      have h0 : none = some z := hf
      cases h0
    | succ n ih =>
      intro x1 x2 x3 x4 u H locs ls hf hH hS hl
      rw [fn_Md_go_45] at hf
      refine lv_iload hx hb gd_Md_go_45 (lv_at hl 4 rfl) ?_
      refine lv_aload_n hx hb gd_Md_go_47 rfl (lv_at hl 0 rfl) ?_
      refine va_get (D := D) (ci := 4) (C := gR_Md) (T := gT_Md) (N := 16) hx hb hts (fun w h => List.mem_cons_of_mem _ (gl_Md w h)) hown hK (gq_one (c := 0) (k := 0) hH rfl (gm_c0 cI cZ ad u)) 0 rfl rfl 7 (by decide) (ht _ gt_376) (fun _ h9 => h9) rfl gd_Md_go_48 ?_
      refine lv_icmp_ge (tgt := 76) hx hb gd_Md_go_51 (by decide) (fun c46 => ?_) (fun c46 => ?_)
      · replace hf := gj_t c46 hf
        refine lv_aload_n hx hb gd_Md_go_76 rfl (lv_at hl 0 rfl) ?_
        refine va_get (D := D) (ci := 4) (C := gR_Md) (T := gT_Md) (N := 16) hx hb hts (fun w h => List.mem_cons_of_mem _ (gl_Md w h)) hown hK (gq_one (c := 0) (k := 0) hH rfl (gm_c0 cI cZ ad u)) 0 rfl rfl 10 (by decide) (ht _ gt_379) (fun _ h9 => h9) rfl gd_Md_go_77 ?_
        refine lv_iload_n hx hb gd_Md_go_80 rfl (lv_at hl 3 rfl) ?_
        refine lv_dup2_11 hx hb gd_Md_go_81 rfl rfl ?_
        obtain ⟨hg6, hf⟩ := gj_g hf
        refine va_iald (D := D) hx hb hK (gq_one (c := 8) (k := 0) hH rfl (gm_c8 cI cZ ad u)) 0 0 rfl rfl hg6 gd_Md_go_82 ?_
        refine lv_iconst (v := 1) hx hb gd_Md_go_83 (by decide) ?_
        refine lv_isub hx hb gd_Md_go_84 ?_
        obtain ⟨hg7, hf⟩ := gj_g hf
        refine gq_iast (D := D) (ca := 8) (ka := 0) (pp' := gm_pc cI cZ ad (gm_sI u 8 (Int32.toNatClampNeg x3) ((u.1 8 (Int32.toNatClampNeg x3)) - 1))) hx hb hK hH hI hA rfl (gm_c8 cI cZ ad u) 0 rfl hg7 (gm_w8 cI cZ ad u (Int32.toNatClampNeg x3) ((u.1 8 (Int32.toNatClampNeg x3)) - 1)) (gm_o8 cI cZ ad u (Int32.toNatClampNeg x3) ((u.1 8 (Int32.toNatClampNeg x3)) - 1)) hS gd_Md_go_85 (fun H locs hH hS => ?_)
        refine lv_aload_n hx hb gd_Md_go_86 rfl (lv_at hl 0 rfl) ?_
        refine va_get (D := D) (ci := 4) (C := gR_Md) (T := gT_Md) (N := 16) hx hb hts (fun w h => List.mem_cons_of_mem _ (gl_Md w h)) hown hK (gq_one (c := 0) (k := 0) hH rfl (gm_c0 cI cZ ad (gm_sI u 8 (Int32.toNatClampNeg x3) ((u.1 8 (Int32.toNatClampNeg x3)) - 1)))) 0 rfl rfl 10 (by decide) (ht _ gt_379) (fun _ h9 => h9) rfl gd_Md_go_87 ?_
        refine lv_iload_n hx hb gd_Md_go_90 rfl (lv_at hl 3 rfl) ?_
        obtain ⟨hg8, hf⟩ := gj_g hf
        refine va_iald (D := D) hx hb hK (gq_one (c := 8) (k := 0) hH rfl (gm_c8 cI cZ ad (gm_sI u 8 (Int32.toNatClampNeg x3) ((u.1 8 (Int32.toNatClampNeg x3)) - 1)))) 0 0 rfl rfl hg8 gd_Md_go_91 ?_
        refine lv_iconst (v := 3) hx hb gd_Md_go_92 (by decide) ?_
        refine lv_icmp_ge (tgt := 192) hx hb gd_Md_go_93 (by decide) (fun c43 => ?_) (fun c43 => ?_)
        · replace hf := gj_t c43 hf
          refine lv_aload_n hx hb gd_Md_go_192 rfl (lv_at hl 0 rfl) ?_
          refine va_get (D := D) (ci := 4) (C := gR_Md) (T := gT_Md) (N := 16) hx hb hts (fun w h => List.mem_cons_of_mem _ (gl_Md w h)) hown hK (gq_one (c := 0) (k := 0) hH rfl (gm_c0 cI cZ ad (gm_sI u 8 (Int32.toNatClampNeg x3) ((u.1 8 (Int32.toNatClampNeg x3)) - 1)))) 0 rfl rfl 10 (by decide) (ht _ gt_379) (fun _ h9 => h9) rfl gd_Md_go_193 ?_
          refine lv_iload_n hx hb gd_Md_go_196 rfl (lv_at hl 3 rfl) ?_
          obtain ⟨hg9, hf⟩ := gj_g hf
          refine va_iald (D := D) hx hb hK (gq_one (c := 8) (k := 0) hH rfl (gm_c8 cI cZ ad (gm_sI u 8 (Int32.toNatClampNeg x3) ((u.1 8 (Int32.toNatClampNeg x3)) - 1)))) 0 0 rfl rfl hg9 gd_Md_go_197 ?_
          refine lv_if_ne (tgt := 206) hx hb gd_Md_go_198 (by decide) (fun c12 => ?_) (fun c12 => ?_)
          · replace hf := gj_e c12 hf
            cases hf
            exact W.vret hx hb hr (fun t ht hW => ⟨⟨_, rfl, rfl, ⟨by rw [ht]; exact hH, va_K.moved hW.alike hK⟩⟩, hS.F ht⟩) hS.2.2 gd_Md_go_206
          · replace hf := gj_t c12 hf
            refine lv_aload_n hx hb gd_Md_go_201 rfl (lv_at hl 0 rfl) ?_
            refine lv_iload_n hx hb gd_Md_go_202 rfl (lv_at hl 3 rfl) ?_
            obtain ⟨z10, hc11, hf⟩ := Option.bind_eq_some_iff.mp hf
            refine gq_callv (va_runV (As := [.int x3]) (rest := []) ⟨hx, hb, hml, hown, hts⟩ (ct_Md_dropLeaf l D cI cZ ad hI (gm_sI u 8 (Int32.toNatClampNeg x3) ((u.1 8 (Int32.toNatClampNeg x3)) - 1)) x3 z10 hc11) (cwV 1 hts (gt_V gt_483 gt_485 (gt_sel (List.mem_of_getElem? (i := 34) rfl)) gt_5 gt_486) rfl rfl rfl (by decide +kernel) ⟨Nat.le_of_ble_eq_true rfl, Nat.le_of_ble_eq_true rfl⟩) (gq_preV hH hK hN (va_recv hK (gq_one (c := 0) (k := 0) hH rfl (gm_c0 cI cZ ad (gm_sI u 8 (Int32.toNatClampNeg x3) ((u.1 8 (Int32.toNatClampNeg x3)) - 1)))) (ci := 4) (q0 := 0) rfl rfl)) rfl rfl hl.1 rfl (lv_room (Nat.le_of_ble_eq_true rfl)) gd_Md_go_203 ⟨Nat.zero_le _, Nat.zero_le _⟩) hA hS (fun H locs hH hS => ?_)
            cases hf
            exact W.vret hx hb hr (fun t ht hW => ⟨⟨_, rfl, rfl, ⟨by rw [ht]; exact hH, va_K.moved hW.alike hK⟩⟩, hS.F ht⟩) hS.2.2 gd_Md_go_206
        · replace hf := gj_e c43 hf
          refine lv_aload_n hx hb gd_Md_go_96 rfl (lv_at hl 0 rfl) ?_
          refine va_get (D := D) (ci := 4) (C := gR_Md) (T := gT_Md) (N := 16) hx hb hts (fun w h => List.mem_cons_of_mem _ (gl_Md w h)) hown hK (gq_one (c := 0) (k := 0) hH rfl (gm_c0 cI cZ ad (gm_sI u 8 (Int32.toNatClampNeg x3) ((u.1 8 (Int32.toNatClampNeg x3)) - 1)))) 0 rfl rfl 9 (by decide) (ht _ gt_378) (fun _ h9 => h9) rfl gd_Md_go_97 ?_
          refine lv_iconst (v := 1) hx hb gd_Md_go_100 (by decide) ?_
          refine lv_icmp_le (tgt := 192) hx hb gd_Md_go_101 (by decide) (fun c42 => ?_) (fun c42 => ?_)
          · replace hf := gj_t c42 hf
            refine lv_aload_n hx hb gd_Md_go_192 rfl (lv_at hl 0 rfl) ?_
            refine va_get (D := D) (ci := 4) (C := gR_Md) (T := gT_Md) (N := 16) hx hb hts (fun w h => List.mem_cons_of_mem _ (gl_Md w h)) hown hK (gq_one (c := 0) (k := 0) hH rfl (gm_c0 cI cZ ad (gm_sI u 8 (Int32.toNatClampNeg x3) ((u.1 8 (Int32.toNatClampNeg x3)) - 1)))) 0 rfl rfl 10 (by decide) (ht _ gt_379) (fun _ h9 => h9) rfl gd_Md_go_193 ?_
            refine lv_iload_n hx hb gd_Md_go_196 rfl (lv_at hl 3 rfl) ?_
            obtain ⟨hg13, hf⟩ := gj_g hf
            refine va_iald (D := D) hx hb hK (gq_one (c := 8) (k := 0) hH rfl (gm_c8 cI cZ ad (gm_sI u 8 (Int32.toNatClampNeg x3) ((u.1 8 (Int32.toNatClampNeg x3)) - 1)))) 0 0 rfl rfl hg13 gd_Md_go_197 ?_
            refine lv_if_ne (tgt := 206) hx hb gd_Md_go_198 (by decide) (fun c16 => ?_) (fun c16 => ?_)
            · replace hf := gj_e c16 hf
              cases hf
              exact W.vret hx hb hr (fun t ht hW => ⟨⟨_, rfl, rfl, ⟨by rw [ht]; exact hH, va_K.moved hW.alike hK⟩⟩, hS.F ht⟩) hS.2.2 gd_Md_go_206
            · replace hf := gj_t c16 hf
              refine lv_aload_n hx hb gd_Md_go_201 rfl (lv_at hl 0 rfl) ?_
              refine lv_iload_n hx hb gd_Md_go_202 rfl (lv_at hl 3 rfl) ?_
              obtain ⟨z14, hc15, hf⟩ := Option.bind_eq_some_iff.mp hf
              refine gq_callv (va_runV (As := [.int x3]) (rest := []) ⟨hx, hb, hml, hown, hts⟩ (ct_Md_dropLeaf l D cI cZ ad hI (gm_sI u 8 (Int32.toNatClampNeg x3) ((u.1 8 (Int32.toNatClampNeg x3)) - 1)) x3 z14 hc15) (cwV 1 hts (gt_V gt_483 gt_485 (gt_sel (List.mem_of_getElem? (i := 34) rfl)) gt_5 gt_486) rfl rfl rfl (by decide +kernel) ⟨Nat.le_of_ble_eq_true rfl, Nat.le_of_ble_eq_true rfl⟩) (gq_preV hH hK hN (va_recv hK (gq_one (c := 0) (k := 0) hH rfl (gm_c0 cI cZ ad (gm_sI u 8 (Int32.toNatClampNeg x3) ((u.1 8 (Int32.toNatClampNeg x3)) - 1)))) (ci := 4) (q0 := 0) rfl rfl)) rfl rfl hl.1 rfl (lv_room (Nat.le_of_ble_eq_true rfl)) gd_Md_go_203 ⟨Nat.zero_le _, Nat.zero_le _⟩) hA hS (fun H locs hH hS => ?_)
              cases hf
              exact W.vret hx hb hr (fun t ht hW => ⟨⟨_, rfl, rfl, ⟨by rw [ht]; exact hH, va_K.moved hW.alike hK⟩⟩, hS.F ht⟩) hS.2.2 gd_Md_go_206
          · replace hf := gj_e c42 hf
            refine lv_iload_n hx hb gd_Md_go_104 rfl (lv_at hl 3 rfl) ?_
            refine lv_iconst (v := 1) hx hb gd_Md_go_105 (by decide) ?_
            refine lv_iadd hx hb gd_Md_go_106 ?_
            refine lv_aload_n hx hb gd_Md_go_107 rfl (lv_at hl 0 rfl) ?_
            refine va_get (D := D) (ci := 4) (C := gR_Md) (T := gT_Md) (N := 16) hx hb hts (fun w h => List.mem_cons_of_mem _ (gl_Md w h)) hown hK (gq_one (c := 0) (k := 0) hH rfl (gm_c0 cI cZ ad (gm_sI u 8 (Int32.toNatClampNeg x3) ((u.1 8 (Int32.toNatClampNeg x3)) - 1)))) 0 rfl rfl 9 (by decide) (ht _ gt_378) (fun _ h9 => h9) rfl gd_Md_go_108 ?_
            refine lv_icmp_ge (tgt := 120) hx hb gd_Md_go_111 (by decide) (fun c41 => ?_) (fun c41 => ?_)
            · replace hf := gj_t c41 hf
              refine lv_iload_n hx hb gd_Md_go_120 rfl (lv_at hl 3 rfl) ?_
              refine lv_iconst (v := 1) hx hb gd_Md_go_121 (by decide) ?_
              refine lv_isub hx hb gd_Md_go_122 ?_
              refine lv_istore (lv' := [(4, .int (x3 - 1)), (0, .ref (ad 0 0)), (1, .int x1), (2, .int x2), (3, .int x3)]) hx hb gd_Md_go_123 hl (by decide) rfl (fun ls hl => ?_)
              refine lv_aload_n hx hb gd_Md_go_125 rfl (lv_at hl 1 rfl) ?_
              refine va_get (D := D) (ci := 4) (C := gR_Md) (T := gT_Md) (N := 16) hx hb hts (fun w h => List.mem_cons_of_mem _ (gl_Md w h)) hown hK (gq_one (c := 0) (k := 0) hH rfl (gm_c0 cI cZ ad (gm_sI u 8 (Int32.toNatClampNeg x3) ((u.1 8 (Int32.toNatClampNeg x3)) - 1)))) 0 rfl rfl 10 (by decide) (ht _ gt_379) (fun _ h9 => h9) rfl gd_Md_go_126 ?_
              refine lv_iload_n hx hb gd_Md_go_129 rfl (lv_at hl 4 rfl) ?_
              obtain ⟨hg17, hf⟩ := gj_g hf
              refine va_iald (D := D) hx hb hK (gq_one (c := 8) (k := 0) hH rfl (gm_c8 cI cZ ad (gm_sI u 8 (Int32.toNatClampNeg x3) ((u.1 8 (Int32.toNatClampNeg x3)) - 1)))) 0 0 rfl rfl hg17 gd_Md_go_130 ?_
              refine lv_aload_n hx hb gd_Md_go_131 rfl (lv_at hl 1 rfl) ?_
              refine va_get (D := D) (ci := 4) (C := gR_Md) (T := gT_Md) (N := 16) hx hb hts (fun w h => List.mem_cons_of_mem _ (gl_Md w h)) hown hK (gq_one (c := 0) (k := 0) hH rfl (gm_c0 cI cZ ad (gm_sI u 8 (Int32.toNatClampNeg x3) ((u.1 8 (Int32.toNatClampNeg x3)) - 1)))) 0 rfl rfl 10 (by decide) (ht _ gt_379) (fun _ h9 => h9) rfl gd_Md_go_132 ?_
              refine lv_iload hx hb gd_Md_go_135 (lv_at hl 0 rfl) ?_
              obtain ⟨hg18, hf⟩ := gj_g hf
              refine va_iald (D := D) hx hb hK (gq_one (c := 8) (k := 0) hH rfl (gm_c8 cI cZ ad (gm_sI u 8 (Int32.toNatClampNeg x3) ((u.1 8 (Int32.toNatClampNeg x3)) - 1)))) 0 0 rfl rfl hg18 gd_Md_go_137 ?_
              refine lv_iadd hx hb gd_Md_go_138 ?_
              refine lv_bipush (v := 8) hx hb gd_Md_go_139 (by decide) ?_
              refine lv_icmp_gt (tgt := 168) hx hb gd_Md_go_141 (by decide) (fun c28 => ?_) (fun c28 => ?_)
              · replace hf := gj_t c28 hf
                refine lv_aload_n hx hb gd_Md_go_168 rfl (lv_at hl 1 rfl) ?_
                refine va_get (D := D) (ci := 4) (C := gR_Md) (T := gT_Md) (N := 16) hx hb hts (fun w h => List.mem_cons_of_mem _ (gl_Md w h)) hown hK (gq_one (c := 0) (k := 0) hH rfl (gm_c0 cI cZ ad (gm_sI u 8 (Int32.toNatClampNeg x3) ((u.1 8 (Int32.toNatClampNeg x3)) - 1)))) 0 rfl rfl 10 (by decide) (ht _ gt_379) (fun _ h9 => h9) rfl gd_Md_go_169 ?_
                refine lv_iload hx hb gd_Md_go_172 (lv_at hl 0 rfl) ?_
                refine lv_dup2_11 hx hb gd_Md_go_174 rfl rfl ?_
                obtain ⟨hg19, hf⟩ := gj_g hf
                refine va_iald (D := D) hx hb hK (gq_one (c := 8) (k := 0) hH rfl (gm_c8 cI cZ ad (gm_sI u 8 (Int32.toNatClampNeg x3) ((u.1 8 (Int32.toNatClampNeg x3)) - 1)))) 0 0 rfl rfl hg19 gd_Md_go_175 ?_
                refine lv_iconst (v := 1) hx hb gd_Md_go_176 (by decide) ?_
                refine lv_isub hx hb gd_Md_go_177 ?_
                obtain ⟨hg20, hf⟩ := gj_g hf
                refine gq_iast (D := D) (ca := 8) (ka := 0) (pp' := gm_pc cI cZ ad (gm_sI (gm_sI u 8 (Int32.toNatClampNeg x3) ((u.1 8 (Int32.toNatClampNeg x3)) - 1)) 8 (Int32.toNatClampNeg (x3 - 1)) (((gm_sI u 8 (Int32.toNatClampNeg x3) ((u.1 8 (Int32.toNatClampNeg x3)) - 1)).1 8 (Int32.toNatClampNeg (x3 - 1))) - 1))) hx hb hK hH hI hA rfl (gm_c8 cI cZ ad (gm_sI u 8 (Int32.toNatClampNeg x3) ((u.1 8 (Int32.toNatClampNeg x3)) - 1))) 0 rfl hg20 (gm_w8 cI cZ ad (gm_sI u 8 (Int32.toNatClampNeg x3) ((u.1 8 (Int32.toNatClampNeg x3)) - 1)) (Int32.toNatClampNeg (x3 - 1)) (((gm_sI u 8 (Int32.toNatClampNeg x3) ((u.1 8 (Int32.toNatClampNeg x3)) - 1)).1 8 (Int32.toNatClampNeg (x3 - 1))) - 1)) (gm_o8 cI cZ ad (gm_sI u 8 (Int32.toNatClampNeg x3) ((u.1 8 (Int32.toNatClampNeg x3)) - 1)) (Int32.toNatClampNeg (x3 - 1)) (((gm_sI u 8 (Int32.toNatClampNeg x3) ((u.1 8 (Int32.toNatClampNeg x3)) - 1)).1 8 (Int32.toNatClampNeg (x3 - 1))) - 1)) hS gd_Md_go_178 (fun H locs hH hS => ?_)
                refine lv_aload_n hx hb gd_Md_go_179 rfl (lv_at hl 1 rfl) ?_
                refine va_get (D := D) (ci := 4) (C := gR_Md) (T := gT_Md) (N := 16) hx hb hts (fun w h => List.mem_cons_of_mem _ (gl_Md w h)) hown hK (gq_one (c := 0) (k := 0) hH rfl (gm_c0 cI cZ ad (gm_sI (gm_sI u 8 (Int32.toNatClampNeg x3) ((u.1 8 (Int32.toNatClampNeg x3)) - 1)) 8 (Int32.toNatClampNeg (x3 - 1)) (((gm_sI u 8 (Int32.toNatClampNeg x3) ((u.1 8 (Int32.toNatClampNeg x3)) - 1)).1 8 (Int32.toNatClampNeg (x3 - 1))) - 1)))) 0 rfl rfl 10 (by decide) (ht _ gt_379) (fun _ h9 => h9) rfl gd_Md_go_180 ?_
                refine lv_iload_n hx hb gd_Md_go_183 rfl (lv_at hl 4 rfl) ?_
                refine lv_dup2_11 hx hb gd_Md_go_184 rfl rfl ?_
                obtain ⟨hg21, hf⟩ := gj_g hf
                refine va_iald (D := D) hx hb hK (gq_one (c := 8) (k := 0) hH rfl (gm_c8 cI cZ ad (gm_sI (gm_sI u 8 (Int32.toNatClampNeg x3) ((u.1 8 (Int32.toNatClampNeg x3)) - 1)) 8 (Int32.toNatClampNeg (x3 - 1)) (((gm_sI u 8 (Int32.toNatClampNeg x3) ((u.1 8 (Int32.toNatClampNeg x3)) - 1)).1 8 (Int32.toNatClampNeg (x3 - 1))) - 1)))) 0 0 rfl rfl hg21 gd_Md_go_185 ?_
                refine lv_iconst (v := 1) hx hb gd_Md_go_186 (by decide) ?_
                refine lv_iadd hx hb gd_Md_go_187 ?_
                obtain ⟨hg22, hf⟩ := gj_g hf
                refine gq_iast (D := D) (ca := 8) (ka := 0) (pp' := gm_pc cI cZ ad (gm_sI (gm_sI (gm_sI u 8 (Int32.toNatClampNeg x3) ((u.1 8 (Int32.toNatClampNeg x3)) - 1)) 8 (Int32.toNatClampNeg (x3 - 1)) (((gm_sI u 8 (Int32.toNatClampNeg x3) ((u.1 8 (Int32.toNatClampNeg x3)) - 1)).1 8 (Int32.toNatClampNeg (x3 - 1))) - 1)) 8 (Int32.toNatClampNeg x3) (((gm_sI (gm_sI u 8 (Int32.toNatClampNeg x3) ((u.1 8 (Int32.toNatClampNeg x3)) - 1)) 8 (Int32.toNatClampNeg (x3 - 1)) (((gm_sI u 8 (Int32.toNatClampNeg x3) ((u.1 8 (Int32.toNatClampNeg x3)) - 1)).1 8 (Int32.toNatClampNeg (x3 - 1))) - 1)).1 8 (Int32.toNatClampNeg x3)) + 1))) hx hb hK hH hI hA rfl (gm_c8 cI cZ ad (gm_sI (gm_sI u 8 (Int32.toNatClampNeg x3) ((u.1 8 (Int32.toNatClampNeg x3)) - 1)) 8 (Int32.toNatClampNeg (x3 - 1)) (((gm_sI u 8 (Int32.toNatClampNeg x3) ((u.1 8 (Int32.toNatClampNeg x3)) - 1)).1 8 (Int32.toNatClampNeg (x3 - 1))) - 1))) 0 rfl hg22 (gm_w8 cI cZ ad (gm_sI (gm_sI u 8 (Int32.toNatClampNeg x3) ((u.1 8 (Int32.toNatClampNeg x3)) - 1)) 8 (Int32.toNatClampNeg (x3 - 1)) (((gm_sI u 8 (Int32.toNatClampNeg x3) ((u.1 8 (Int32.toNatClampNeg x3)) - 1)).1 8 (Int32.toNatClampNeg (x3 - 1))) - 1)) (Int32.toNatClampNeg x3) (((gm_sI (gm_sI u 8 (Int32.toNatClampNeg x3) ((u.1 8 (Int32.toNatClampNeg x3)) - 1)) 8 (Int32.toNatClampNeg (x3 - 1)) (((gm_sI u 8 (Int32.toNatClampNeg x3) ((u.1 8 (Int32.toNatClampNeg x3)) - 1)).1 8 (Int32.toNatClampNeg (x3 - 1))) - 1)).1 8 (Int32.toNatClampNeg x3)) + 1)) (gm_o8 cI cZ ad (gm_sI (gm_sI u 8 (Int32.toNatClampNeg x3) ((u.1 8 (Int32.toNatClampNeg x3)) - 1)) 8 (Int32.toNatClampNeg (x3 - 1)) (((gm_sI u 8 (Int32.toNatClampNeg x3) ((u.1 8 (Int32.toNatClampNeg x3)) - 1)).1 8 (Int32.toNatClampNeg (x3 - 1))) - 1)) (Int32.toNatClampNeg x3) (((gm_sI (gm_sI u 8 (Int32.toNatClampNeg x3) ((u.1 8 (Int32.toNatClampNeg x3)) - 1)) 8 (Int32.toNatClampNeg (x3 - 1)) (((gm_sI u 8 (Int32.toNatClampNeg x3) ((u.1 8 (Int32.toNatClampNeg x3)) - 1)).1 8 (Int32.toNatClampNeg (x3 - 1))) - 1)).1 8 (Int32.toNatClampNeg x3)) + 1)) hS gd_Md_go_188 (fun H locs hH hS => ?_)
                refine lv_goto (tgt := 206) hx hb gd_Md_go_189 (by decide) ?_
                cases hf
                exact W.vret hx hb hr (fun t ht hW => ⟨⟨_, rfl, rfl, ⟨by rw [ht]; exact hH, va_K.moved hW.alike hK⟩⟩, hS.F ht⟩) hS.2.2 gd_Md_go_206
              · replace hf := gj_e c28 hf
                refine lv_aload_n hx hb gd_Md_go_144 rfl (lv_at hl 1 rfl) ?_
                refine va_get (D := D) (ci := 4) (C := gR_Md) (T := gT_Md) (N := 16) hx hb hts (fun w h => List.mem_cons_of_mem _ (gl_Md w h)) hown hK (gq_one (c := 0) (k := 0) hH rfl (gm_c0 cI cZ ad (gm_sI u 8 (Int32.toNatClampNeg x3) ((u.1 8 (Int32.toNatClampNeg x3)) - 1)))) 0 rfl rfl 10 (by decide) (ht _ gt_379) (fun _ h9 => h9) rfl gd_Md_go_145 ?_
                refine lv_iload hx hb gd_Md_go_148 (lv_at hl 0 rfl) ?_
                refine lv_dup2_11 hx hb gd_Md_go_150 rfl rfl ?_
                obtain ⟨hg23, hf⟩ := gj_g hf
                refine va_iald (D := D) hx hb hK (gq_one (c := 8) (k := 0) hH rfl (gm_c8 cI cZ ad (gm_sI u 8 (Int32.toNatClampNeg x3) ((u.1 8 (Int32.toNatClampNeg x3)) - 1)))) 0 0 rfl rfl hg23 gd_Md_go_151 ?_
                refine lv_aload_n hx hb gd_Md_go_152 rfl (lv_at hl 1 rfl) ?_
                refine va_get (D := D) (ci := 4) (C := gR_Md) (T := gT_Md) (N := 16) hx hb hts (fun w h => List.mem_cons_of_mem _ (gl_Md w h)) hown hK (gq_one (c := 0) (k := 0) hH rfl (gm_c0 cI cZ ad (gm_sI u 8 (Int32.toNatClampNeg x3) ((u.1 8 (Int32.toNatClampNeg x3)) - 1)))) 0 rfl rfl 10 (by decide) (ht _ gt_379) (fun _ h9 => h9) rfl gd_Md_go_153 ?_
                refine lv_iload_n hx hb gd_Md_go_156 rfl (lv_at hl 4 rfl) ?_
                obtain ⟨hg24, hf⟩ := gj_g hf
                refine va_iald (D := D) hx hb hK (gq_one (c := 8) (k := 0) hH rfl (gm_c8 cI cZ ad (gm_sI u 8 (Int32.toNatClampNeg x3) ((u.1 8 (Int32.toNatClampNeg x3)) - 1)))) 0 0 rfl rfl hg24 gd_Md_go_157 ?_
                refine lv_iadd hx hb gd_Md_go_158 ?_
                obtain ⟨hg25, hf⟩ := gj_g hf
                refine gq_iast (D := D) (ca := 8) (ka := 0) (pp' := gm_pc cI cZ ad (gm_sI (gm_sI u 8 (Int32.toNatClampNeg x3) ((u.1 8 (Int32.toNatClampNeg x3)) - 1)) 8 (Int32.toNatClampNeg (x3 - 1)) (((gm_sI u 8 (Int32.toNatClampNeg x3) ((u.1 8 (Int32.toNatClampNeg x3)) - 1)).1 8 (Int32.toNatClampNeg (x3 - 1))) + ((gm_sI u 8 (Int32.toNatClampNeg x3) ((u.1 8 (Int32.toNatClampNeg x3)) - 1)).1 8 (Int32.toNatClampNeg x3))))) hx hb hK hH hI hA rfl (gm_c8 cI cZ ad (gm_sI u 8 (Int32.toNatClampNeg x3) ((u.1 8 (Int32.toNatClampNeg x3)) - 1))) 0 rfl hg25 (gm_w8 cI cZ ad (gm_sI u 8 (Int32.toNatClampNeg x3) ((u.1 8 (Int32.toNatClampNeg x3)) - 1)) (Int32.toNatClampNeg (x3 - 1)) (((gm_sI u 8 (Int32.toNatClampNeg x3) ((u.1 8 (Int32.toNatClampNeg x3)) - 1)).1 8 (Int32.toNatClampNeg (x3 - 1))) + ((gm_sI u 8 (Int32.toNatClampNeg x3) ((u.1 8 (Int32.toNatClampNeg x3)) - 1)).1 8 (Int32.toNatClampNeg x3)))) (gm_o8 cI cZ ad (gm_sI u 8 (Int32.toNatClampNeg x3) ((u.1 8 (Int32.toNatClampNeg x3)) - 1)) (Int32.toNatClampNeg (x3 - 1)) (((gm_sI u 8 (Int32.toNatClampNeg x3) ((u.1 8 (Int32.toNatClampNeg x3)) - 1)).1 8 (Int32.toNatClampNeg (x3 - 1))) + ((gm_sI u 8 (Int32.toNatClampNeg x3) ((u.1 8 (Int32.toNatClampNeg x3)) - 1)).1 8 (Int32.toNatClampNeg x3)))) hS gd_Md_go_159 (fun H locs hH hS => ?_)
                refine lv_aload_n hx hb gd_Md_go_160 rfl (lv_at hl 1 rfl) ?_
                refine lv_iload_n hx hb gd_Md_go_161 rfl (lv_at hl 4 rfl) ?_
                obtain ⟨z26, hc27, hf⟩ := Option.bind_eq_some_iff.mp hf
                refine gq_callv (va_runV (As := [.int x3]) (rest := []) ⟨hx, hb, hml, hown, hts⟩ (ct_Md_dropLeaf l D cI cZ ad hI (gm_sI (gm_sI u 8 (Int32.toNatClampNeg x3) ((u.1 8 (Int32.toNatClampNeg x3)) - 1)) 8 (Int32.toNatClampNeg (x3 - 1)) (((gm_sI u 8 (Int32.toNatClampNeg x3) ((u.1 8 (Int32.toNatClampNeg x3)) - 1)).1 8 (Int32.toNatClampNeg (x3 - 1))) + ((gm_sI u 8 (Int32.toNatClampNeg x3) ((u.1 8 (Int32.toNatClampNeg x3)) - 1)).1 8 (Int32.toNatClampNeg x3)))) x3 z26 hc27) (cwV 1 hts (gt_V gt_483 gt_485 (gt_sel (List.mem_of_getElem? (i := 34) rfl)) gt_5 gt_486) rfl rfl rfl (by decide +kernel) ⟨Nat.le_of_ble_eq_true rfl, Nat.le_of_ble_eq_true rfl⟩) (gq_preV hH hK hN (va_recv hK (gq_one (c := 0) (k := 0) hH rfl (gm_c0 cI cZ ad (gm_sI (gm_sI u 8 (Int32.toNatClampNeg x3) ((u.1 8 (Int32.toNatClampNeg x3)) - 1)) 8 (Int32.toNatClampNeg (x3 - 1)) (((gm_sI u 8 (Int32.toNatClampNeg x3) ((u.1 8 (Int32.toNatClampNeg x3)) - 1)).1 8 (Int32.toNatClampNeg (x3 - 1))) + ((gm_sI u 8 (Int32.toNatClampNeg x3) ((u.1 8 (Int32.toNatClampNeg x3)) - 1)).1 8 (Int32.toNatClampNeg x3)))))) (ci := 4) (q0 := 0) rfl rfl)) rfl rfl hl.1 rfl (lv_room (Nat.le_of_ble_eq_true rfl)) gd_Md_go_162 ⟨Nat.zero_le _, Nat.zero_le _⟩) hA hS (fun H locs hH hS => ?_)
                refine lv_goto (tgt := 189) hx hb gd_Md_go_165 (by decide) ?_
                refine lv_goto (tgt := 206) hx hb gd_Md_go_189 (by decide) ?_
                cases hf
                exact W.vret hx hb hr (fun t ht hW => ⟨⟨_, rfl, rfl, ⟨by rw [ht]; exact hH, va_K.moved hW.alike hK⟩⟩, hS.F ht⟩) hS.2.2 gd_Md_go_206
            · replace hf := gj_e c41 hf
              refine lv_iload_n hx hb gd_Md_go_114 rfl (lv_at hl 3 rfl) ?_
              refine lv_iconst (v := 1) hx hb gd_Md_go_115 (by decide) ?_
              refine lv_iadd hx hb gd_Md_go_116 ?_
              refine lv_goto (tgt := 123) hx hb gd_Md_go_117 (by decide) ?_
              refine lv_istore (lv' := [(4, .int (x3 + 1)), (0, .ref (ad 0 0)), (1, .int x1), (2, .int x2), (3, .int x3)]) hx hb gd_Md_go_123 hl (by decide) rfl (fun ls hl => ?_)
              refine lv_aload_n hx hb gd_Md_go_125 rfl (lv_at hl 1 rfl) ?_
              refine va_get (D := D) (ci := 4) (C := gR_Md) (T := gT_Md) (N := 16) hx hb hts (fun w h => List.mem_cons_of_mem _ (gl_Md w h)) hown hK (gq_one (c := 0) (k := 0) hH rfl (gm_c0 cI cZ ad (gm_sI u 8 (Int32.toNatClampNeg x3) ((u.1 8 (Int32.toNatClampNeg x3)) - 1)))) 0 rfl rfl 10 (by decide) (ht _ gt_379) (fun _ h9 => h9) rfl gd_Md_go_126 ?_
              refine lv_iload_n hx hb gd_Md_go_129 rfl (lv_at hl 4 rfl) ?_
              obtain ⟨hg29, hf⟩ := gj_g hf
              refine va_iald (D := D) hx hb hK (gq_one (c := 8) (k := 0) hH rfl (gm_c8 cI cZ ad (gm_sI u 8 (Int32.toNatClampNeg x3) ((u.1 8 (Int32.toNatClampNeg x3)) - 1)))) 0 0 rfl rfl hg29 gd_Md_go_130 ?_
              refine lv_aload_n hx hb gd_Md_go_131 rfl (lv_at hl 1 rfl) ?_
              refine va_get (D := D) (ci := 4) (C := gR_Md) (T := gT_Md) (N := 16) hx hb hts (fun w h => List.mem_cons_of_mem _ (gl_Md w h)) hown hK (gq_one (c := 0) (k := 0) hH rfl (gm_c0 cI cZ ad (gm_sI u 8 (Int32.toNatClampNeg x3) ((u.1 8 (Int32.toNatClampNeg x3)) - 1)))) 0 rfl rfl 10 (by decide) (ht _ gt_379) (fun _ h9 => h9) rfl gd_Md_go_132 ?_
              refine lv_iload hx hb gd_Md_go_135 (lv_at hl 0 rfl) ?_
              obtain ⟨hg30, hf⟩ := gj_g hf
              refine va_iald (D := D) hx hb hK (gq_one (c := 8) (k := 0) hH rfl (gm_c8 cI cZ ad (gm_sI u 8 (Int32.toNatClampNeg x3) ((u.1 8 (Int32.toNatClampNeg x3)) - 1)))) 0 0 rfl rfl hg30 gd_Md_go_137 ?_
              refine lv_iadd hx hb gd_Md_go_138 ?_
              refine lv_bipush (v := 8) hx hb gd_Md_go_139 (by decide) ?_
              refine lv_icmp_gt (tgt := 168) hx hb gd_Md_go_141 (by decide) (fun c40 => ?_) (fun c40 => ?_)
              · replace hf := gj_t c40 hf
                refine lv_aload_n hx hb gd_Md_go_168 rfl (lv_at hl 1 rfl) ?_
                refine va_get (D := D) (ci := 4) (C := gR_Md) (T := gT_Md) (N := 16) hx hb hts (fun w h => List.mem_cons_of_mem _ (gl_Md w h)) hown hK (gq_one (c := 0) (k := 0) hH rfl (gm_c0 cI cZ ad (gm_sI u 8 (Int32.toNatClampNeg x3) ((u.1 8 (Int32.toNatClampNeg x3)) - 1)))) 0 rfl rfl 10 (by decide) (ht _ gt_379) (fun _ h9 => h9) rfl gd_Md_go_169 ?_
                refine lv_iload hx hb gd_Md_go_172 (lv_at hl 0 rfl) ?_
                refine lv_dup2_11 hx hb gd_Md_go_174 rfl rfl ?_
                obtain ⟨hg31, hf⟩ := gj_g hf
                refine va_iald (D := D) hx hb hK (gq_one (c := 8) (k := 0) hH rfl (gm_c8 cI cZ ad (gm_sI u 8 (Int32.toNatClampNeg x3) ((u.1 8 (Int32.toNatClampNeg x3)) - 1)))) 0 0 rfl rfl hg31 gd_Md_go_175 ?_
                refine lv_iconst (v := 1) hx hb gd_Md_go_176 (by decide) ?_
                refine lv_isub hx hb gd_Md_go_177 ?_
                obtain ⟨hg32, hf⟩ := gj_g hf
                refine gq_iast (D := D) (ca := 8) (ka := 0) (pp' := gm_pc cI cZ ad (gm_sI (gm_sI u 8 (Int32.toNatClampNeg x3) ((u.1 8 (Int32.toNatClampNeg x3)) - 1)) 8 (Int32.toNatClampNeg (x3 + 1)) (((gm_sI u 8 (Int32.toNatClampNeg x3) ((u.1 8 (Int32.toNatClampNeg x3)) - 1)).1 8 (Int32.toNatClampNeg (x3 + 1))) - 1))) hx hb hK hH hI hA rfl (gm_c8 cI cZ ad (gm_sI u 8 (Int32.toNatClampNeg x3) ((u.1 8 (Int32.toNatClampNeg x3)) - 1))) 0 rfl hg32 (gm_w8 cI cZ ad (gm_sI u 8 (Int32.toNatClampNeg x3) ((u.1 8 (Int32.toNatClampNeg x3)) - 1)) (Int32.toNatClampNeg (x3 + 1)) (((gm_sI u 8 (Int32.toNatClampNeg x3) ((u.1 8 (Int32.toNatClampNeg x3)) - 1)).1 8 (Int32.toNatClampNeg (x3 + 1))) - 1)) (gm_o8 cI cZ ad (gm_sI u 8 (Int32.toNatClampNeg x3) ((u.1 8 (Int32.toNatClampNeg x3)) - 1)) (Int32.toNatClampNeg (x3 + 1)) (((gm_sI u 8 (Int32.toNatClampNeg x3) ((u.1 8 (Int32.toNatClampNeg x3)) - 1)).1 8 (Int32.toNatClampNeg (x3 + 1))) - 1)) hS gd_Md_go_178 (fun H locs hH hS => ?_)
                refine lv_aload_n hx hb gd_Md_go_179 rfl (lv_at hl 1 rfl) ?_
                refine va_get (D := D) (ci := 4) (C := gR_Md) (T := gT_Md) (N := 16) hx hb hts (fun w h => List.mem_cons_of_mem _ (gl_Md w h)) hown hK (gq_one (c := 0) (k := 0) hH rfl (gm_c0 cI cZ ad (gm_sI (gm_sI u 8 (Int32.toNatClampNeg x3) ((u.1 8 (Int32.toNatClampNeg x3)) - 1)) 8 (Int32.toNatClampNeg (x3 + 1)) (((gm_sI u 8 (Int32.toNatClampNeg x3) ((u.1 8 (Int32.toNatClampNeg x3)) - 1)).1 8 (Int32.toNatClampNeg (x3 + 1))) - 1)))) 0 rfl rfl 10 (by decide) (ht _ gt_379) (fun _ h9 => h9) rfl gd_Md_go_180 ?_
                refine lv_iload_n hx hb gd_Md_go_183 rfl (lv_at hl 4 rfl) ?_
                refine lv_dup2_11 hx hb gd_Md_go_184 rfl rfl ?_
                obtain ⟨hg33, hf⟩ := gj_g hf
                refine va_iald (D := D) hx hb hK (gq_one (c := 8) (k := 0) hH rfl (gm_c8 cI cZ ad (gm_sI (gm_sI u 8 (Int32.toNatClampNeg x3) ((u.1 8 (Int32.toNatClampNeg x3)) - 1)) 8 (Int32.toNatClampNeg (x3 + 1)) (((gm_sI u 8 (Int32.toNatClampNeg x3) ((u.1 8 (Int32.toNatClampNeg x3)) - 1)).1 8 (Int32.toNatClampNeg (x3 + 1))) - 1)))) 0 0 rfl rfl hg33 gd_Md_go_185 ?_
                refine lv_iconst (v := 1) hx hb gd_Md_go_186 (by decide) ?_
                refine lv_iadd hx hb gd_Md_go_187 ?_
                obtain ⟨hg34, hf⟩ := gj_g hf
                refine gq_iast (D := D) (ca := 8) (ka := 0) (pp' := gm_pc cI cZ ad (gm_sI (gm_sI (gm_sI u 8 (Int32.toNatClampNeg x3) ((u.1 8 (Int32.toNatClampNeg x3)) - 1)) 8 (Int32.toNatClampNeg (x3 + 1)) (((gm_sI u 8 (Int32.toNatClampNeg x3) ((u.1 8 (Int32.toNatClampNeg x3)) - 1)).1 8 (Int32.toNatClampNeg (x3 + 1))) - 1)) 8 (Int32.toNatClampNeg x3) (((gm_sI (gm_sI u 8 (Int32.toNatClampNeg x3) ((u.1 8 (Int32.toNatClampNeg x3)) - 1)) 8 (Int32.toNatClampNeg (x3 + 1)) (((gm_sI u 8 (Int32.toNatClampNeg x3) ((u.1 8 (Int32.toNatClampNeg x3)) - 1)).1 8 (Int32.toNatClampNeg (x3 + 1))) - 1)).1 8 (Int32.toNatClampNeg x3)) + 1))) hx hb hK hH hI hA rfl (gm_c8 cI cZ ad (gm_sI (gm_sI u 8 (Int32.toNatClampNeg x3) ((u.1 8 (Int32.toNatClampNeg x3)) - 1)) 8 (Int32.toNatClampNeg (x3 + 1)) (((gm_sI u 8 (Int32.toNatClampNeg x3) ((u.1 8 (Int32.toNatClampNeg x3)) - 1)).1 8 (Int32.toNatClampNeg (x3 + 1))) - 1))) 0 rfl hg34 (gm_w8 cI cZ ad (gm_sI (gm_sI u 8 (Int32.toNatClampNeg x3) ((u.1 8 (Int32.toNatClampNeg x3)) - 1)) 8 (Int32.toNatClampNeg (x3 + 1)) (((gm_sI u 8 (Int32.toNatClampNeg x3) ((u.1 8 (Int32.toNatClampNeg x3)) - 1)).1 8 (Int32.toNatClampNeg (x3 + 1))) - 1)) (Int32.toNatClampNeg x3) (((gm_sI (gm_sI u 8 (Int32.toNatClampNeg x3) ((u.1 8 (Int32.toNatClampNeg x3)) - 1)) 8 (Int32.toNatClampNeg (x3 + 1)) (((gm_sI u 8 (Int32.toNatClampNeg x3) ((u.1 8 (Int32.toNatClampNeg x3)) - 1)).1 8 (Int32.toNatClampNeg (x3 + 1))) - 1)).1 8 (Int32.toNatClampNeg x3)) + 1)) (gm_o8 cI cZ ad (gm_sI (gm_sI u 8 (Int32.toNatClampNeg x3) ((u.1 8 (Int32.toNatClampNeg x3)) - 1)) 8 (Int32.toNatClampNeg (x3 + 1)) (((gm_sI u 8 (Int32.toNatClampNeg x3) ((u.1 8 (Int32.toNatClampNeg x3)) - 1)).1 8 (Int32.toNatClampNeg (x3 + 1))) - 1)) (Int32.toNatClampNeg x3) (((gm_sI (gm_sI u 8 (Int32.toNatClampNeg x3) ((u.1 8 (Int32.toNatClampNeg x3)) - 1)) 8 (Int32.toNatClampNeg (x3 + 1)) (((gm_sI u 8 (Int32.toNatClampNeg x3) ((u.1 8 (Int32.toNatClampNeg x3)) - 1)).1 8 (Int32.toNatClampNeg (x3 + 1))) - 1)).1 8 (Int32.toNatClampNeg x3)) + 1)) hS gd_Md_go_188 (fun H locs hH hS => ?_)
                refine lv_goto (tgt := 206) hx hb gd_Md_go_189 (by decide) ?_
                cases hf
                exact W.vret hx hb hr (fun t ht hW => ⟨⟨_, rfl, rfl, ⟨by rw [ht]; exact hH, va_K.moved hW.alike hK⟩⟩, hS.F ht⟩) hS.2.2 gd_Md_go_206
              · replace hf := gj_e c40 hf
                refine lv_aload_n hx hb gd_Md_go_144 rfl (lv_at hl 1 rfl) ?_
                refine va_get (D := D) (ci := 4) (C := gR_Md) (T := gT_Md) (N := 16) hx hb hts (fun w h => List.mem_cons_of_mem _ (gl_Md w h)) hown hK (gq_one (c := 0) (k := 0) hH rfl (gm_c0 cI cZ ad (gm_sI u 8 (Int32.toNatClampNeg x3) ((u.1 8 (Int32.toNatClampNeg x3)) - 1)))) 0 rfl rfl 10 (by decide) (ht _ gt_379) (fun _ h9 => h9) rfl gd_Md_go_145 ?_
                refine lv_iload hx hb gd_Md_go_148 (lv_at hl 0 rfl) ?_
                refine lv_dup2_11 hx hb gd_Md_go_150 rfl rfl ?_
                obtain ⟨hg35, hf⟩ := gj_g hf
                refine va_iald (D := D) hx hb hK (gq_one (c := 8) (k := 0) hH rfl (gm_c8 cI cZ ad (gm_sI u 8 (Int32.toNatClampNeg x3) ((u.1 8 (Int32.toNatClampNeg x3)) - 1)))) 0 0 rfl rfl hg35 gd_Md_go_151 ?_
                refine lv_aload_n hx hb gd_Md_go_152 rfl (lv_at hl 1 rfl) ?_
                refine va_get (D := D) (ci := 4) (C := gR_Md) (T := gT_Md) (N := 16) hx hb hts (fun w h => List.mem_cons_of_mem _ (gl_Md w h)) hown hK (gq_one (c := 0) (k := 0) hH rfl (gm_c0 cI cZ ad (gm_sI u 8 (Int32.toNatClampNeg x3) ((u.1 8 (Int32.toNatClampNeg x3)) - 1)))) 0 rfl rfl 10 (by decide) (ht _ gt_379) (fun _ h9 => h9) rfl gd_Md_go_153 ?_
                refine lv_iload_n hx hb gd_Md_go_156 rfl (lv_at hl 4 rfl) ?_
                obtain ⟨hg36, hf⟩ := gj_g hf
                refine va_iald (D := D) hx hb hK (gq_one (c := 8) (k := 0) hH rfl (gm_c8 cI cZ ad (gm_sI u 8 (Int32.toNatClampNeg x3) ((u.1 8 (Int32.toNatClampNeg x3)) - 1)))) 0 0 rfl rfl hg36 gd_Md_go_157 ?_
                refine lv_iadd hx hb gd_Md_go_158 ?_
                obtain ⟨hg37, hf⟩ := gj_g hf
                refine gq_iast (D := D) (ca := 8) (ka := 0) (pp' := gm_pc cI cZ ad (gm_sI (gm_sI u 8 (Int32.toNatClampNeg x3) ((u.1 8 (Int32.toNatClampNeg x3)) - 1)) 8 (Int32.toNatClampNeg (x3 + 1)) (((gm_sI u 8 (Int32.toNatClampNeg x3) ((u.1 8 (Int32.toNatClampNeg x3)) - 1)).1 8 (Int32.toNatClampNeg (x3 + 1))) + ((gm_sI u 8 (Int32.toNatClampNeg x3) ((u.1 8 (Int32.toNatClampNeg x3)) - 1)).1 8 (Int32.toNatClampNeg x3))))) hx hb hK hH hI hA rfl (gm_c8 cI cZ ad (gm_sI u 8 (Int32.toNatClampNeg x3) ((u.1 8 (Int32.toNatClampNeg x3)) - 1))) 0 rfl hg37 (gm_w8 cI cZ ad (gm_sI u 8 (Int32.toNatClampNeg x3) ((u.1 8 (Int32.toNatClampNeg x3)) - 1)) (Int32.toNatClampNeg (x3 + 1)) (((gm_sI u 8 (Int32.toNatClampNeg x3) ((u.1 8 (Int32.toNatClampNeg x3)) - 1)).1 8 (Int32.toNatClampNeg (x3 + 1))) + ((gm_sI u 8 (Int32.toNatClampNeg x3) ((u.1 8 (Int32.toNatClampNeg x3)) - 1)).1 8 (Int32.toNatClampNeg x3)))) (gm_o8 cI cZ ad (gm_sI u 8 (Int32.toNatClampNeg x3) ((u.1 8 (Int32.toNatClampNeg x3)) - 1)) (Int32.toNatClampNeg (x3 + 1)) (((gm_sI u 8 (Int32.toNatClampNeg x3) ((u.1 8 (Int32.toNatClampNeg x3)) - 1)).1 8 (Int32.toNatClampNeg (x3 + 1))) + ((gm_sI u 8 (Int32.toNatClampNeg x3) ((u.1 8 (Int32.toNatClampNeg x3)) - 1)).1 8 (Int32.toNatClampNeg x3)))) hS gd_Md_go_159 (fun H locs hH hS => ?_)
                refine lv_aload_n hx hb gd_Md_go_160 rfl (lv_at hl 1 rfl) ?_
                refine lv_iload_n hx hb gd_Md_go_161 rfl (lv_at hl 4 rfl) ?_
                obtain ⟨z38, hc39, hf⟩ := Option.bind_eq_some_iff.mp hf
                refine gq_callv (va_runV (As := [.int x3]) (rest := []) ⟨hx, hb, hml, hown, hts⟩ (ct_Md_dropLeaf l D cI cZ ad hI (gm_sI (gm_sI u 8 (Int32.toNatClampNeg x3) ((u.1 8 (Int32.toNatClampNeg x3)) - 1)) 8 (Int32.toNatClampNeg (x3 + 1)) (((gm_sI u 8 (Int32.toNatClampNeg x3) ((u.1 8 (Int32.toNatClampNeg x3)) - 1)).1 8 (Int32.toNatClampNeg (x3 + 1))) + ((gm_sI u 8 (Int32.toNatClampNeg x3) ((u.1 8 (Int32.toNatClampNeg x3)) - 1)).1 8 (Int32.toNatClampNeg x3)))) x3 z38 hc39) (cwV 1 hts (gt_V gt_483 gt_485 (gt_sel (List.mem_of_getElem? (i := 34) rfl)) gt_5 gt_486) rfl rfl rfl (by decide +kernel) ⟨Nat.le_of_ble_eq_true rfl, Nat.le_of_ble_eq_true rfl⟩) (gq_preV hH hK hN (va_recv hK (gq_one (c := 0) (k := 0) hH rfl (gm_c0 cI cZ ad (gm_sI (gm_sI u 8 (Int32.toNatClampNeg x3) ((u.1 8 (Int32.toNatClampNeg x3)) - 1)) 8 (Int32.toNatClampNeg (x3 + 1)) (((gm_sI u 8 (Int32.toNatClampNeg x3) ((u.1 8 (Int32.toNatClampNeg x3)) - 1)).1 8 (Int32.toNatClampNeg (x3 + 1))) + ((gm_sI u 8 (Int32.toNatClampNeg x3) ((u.1 8 (Int32.toNatClampNeg x3)) - 1)).1 8 (Int32.toNatClampNeg x3)))))) (ci := 4) (q0 := 0) rfl rfl)) rfl rfl hl.1 rfl (lv_room (Nat.le_of_ble_eq_true rfl)) gd_Md_go_162 ⟨Nat.zero_le _, Nat.zero_le _⟩) hA hS (fun H locs hH hS => ?_)
                refine lv_goto (tgt := 189) hx hb gd_Md_go_165 (by decide) ?_
                refine lv_goto (tgt := 206) hx hb gd_Md_go_189 (by decide) ?_
                cases hf
                exact W.vret hx hb hr (fun t ht hW => ⟨⟨_, rfl, rfl, ⟨by rw [ht]; exact hH, va_K.moved hW.alike hK⟩⟩, hS.F ht⟩) hS.2.2 gd_Md_go_206
      · replace hf := gj_e c46 hf
        refine lv_aload_n hx hb gd_Md_go_54 rfl (lv_at hl 0 rfl) ?_
        refine va_get (D := D) (ci := 4) (C := gR_Md) (T := gT_Md) (N := 16) hx hb hts (fun w h => List.mem_cons_of_mem _ (gl_Md w h)) hown hK (gq_one (c := 0) (k := 0) hH rfl (gm_c0 cI cZ ad u)) 0 rfl rfl 8 (by decide) (ht _ gt_377) (fun _ h9 => h9) rfl gd_Md_go_55 ?_
        refine lv_iload hx hb gd_Md_go_58 (lv_at hl 4 rfl) ?_
        refine lv_aload_n hx hb gd_Md_go_60 rfl (lv_at hl 0 rfl) ?_
        refine va_get (D := D) (ci := 4) (C := gR_Md) (T := gT_Md) (N := 16) hx hb hts (fun w h => List.mem_cons_of_mem _ (gl_Md w h)) hown hK (gq_one (c := 0) (k := 0) hH rfl (gm_c0 cI cZ ad u)) 0 rfl rfl 8 (by decide) (ht _ gt_377) (fun _ h9 => h9) rfl gd_Md_go_61 ?_
        refine lv_iload hx hb gd_Md_go_64 (lv_at hl 4 rfl) ?_
        refine lv_iconst (v := 1) hx hb gd_Md_go_66 (by decide) ?_
        refine lv_iadd hx hb gd_Md_go_67 ?_
        obtain ⟨hg44, hf⟩ := gj_g hf
        refine va_iald (D := D) hx hb hK (gq_one (c := 7) (k := 0) hH rfl (gm_c7 cI cZ ad u)) 0 0 rfl rfl hg44 gd_Md_go_68 ?_
        obtain ⟨hg45, hf⟩ := gj_g hf
        refine gq_iast (D := D) (ca := 7) (ka := 0) (pp' := gm_pc cI cZ ad (gm_sI u 7 (Int32.toNatClampNeg x4) (u.1 7 (Int32.toNatClampNeg (x4 + 1))))) hx hb hK hH hI hA rfl (gm_c7 cI cZ ad u) 0 rfl hg45 (gm_w7 cI cZ ad u (Int32.toNatClampNeg x4) (u.1 7 (Int32.toNatClampNeg (x4 + 1)))) (gm_o7 cI cZ ad u (Int32.toNatClampNeg x4) (u.1 7 (Int32.toNatClampNeg (x4 + 1)))) hS gd_Md_go_69 (fun H locs hH hS => ?_)
        refine lv_iinc (v := x4 + 1) (lv' := [(4, .int (x4 + 1)), (0, .ref (ad 0 0)), (1, .int x1), (2, .int x2), (3, .int x3)]) hx hb gd_Md_go_70 hl (k := 4) rfl rfl (by decide) rfl (fun ls hl => ?_)
        refine lv_goto (tgt := 45) hx hb gd_Md_go_73 (by decide) ?_
        exact ih x1 x2 x3 (x4 + 1) (gm_sI u 7 (Int32.toNatClampNeg x4) (u.1 7 (Int32.toNatClampNeg (x4 + 1)))) _ _ _ hf hH hS (lv_sub hl [1, 2, 3, 4, 0] rfl)
  have L8 : ∀ (n : Nat) (x1 : Int32) (x2 : Int32) (x3 : Int32) (u : gm_St) (H : Heap) (locs : List Loc) (ls : Array Slot), fn_Md_go_8 n x1 x2 x3 u = some z → gq_H D gc_cl gm_vd ad (gm_pc cI cZ ad u) H → va_S (gq_A gm_vd ad) s.heap H locs → lv_has ls 5 [(0, .ref (ad 0 0)), (1, .int x1), (2, .int x2), (3, .int x3)] → W p l e (headSpec gws_Md_go ({ frames := 1, cells := 0, slots := 0, locals := 23 })).room s m ([.ref (ad 0 0), .int p1] : List Value).toArray below meth c H locs 0 0 (MQ below (va_Qv (fun u2 => u2 = z) (fun u2 t => gq_B D gc_cl (gm_tys cI cZ) gm_vd ad (gm_pc cI cZ ad u2) t) (gq_A gm_vd ad)) ([.ref (ad 0 0), .int p1] : List Value).toArray s 0 0 (gq_A gm_vd ad)) (F0 m 8 ls []) := by
    intro n
    induction n with
    | zero =>
      intro x1 x2 x3 u H locs ls hf
      have h0 : none = some z := hf
      cases h0
    | succ n ih =>
      intro x1 x2 x3 u H locs ls hf hH hS hl
      rw [fn_Md_go_8] at hf
      refine lv_aload_n hx hb gd_Md_go_8 rfl (lv_at hl 0 rfl) ?_
      refine lv_iload_n hx hb gd_Md_go_9 rfl (lv_at hl 3 rfl) ?_
      refine lv_iconst (v := 1) hx hb gd_Md_go_10 (by decide) ?_
      refine lv_iadd hx hb gd_Md_go_11 ?_
      obtain ⟨z3, hc4, hf⟩ := Option.bind_eq_some_iff.mp hf
      refine gq_calli (va_runV (As := [.int (x3 + 1)]) (rest := []) ⟨hx, hb, hml, hown, hts⟩ (ct_Md_begin l D cI cZ ad hI u (x3 + 1) z3 hc4) (cwV 1 hts (gt_V gt_455 gt_457 (gt_sel (List.mem_of_getElem? (i := 28) rfl)) gt_5 gt_458) rfl rfl rfl (by decide +kernel) ⟨Nat.le_of_ble_eq_true rfl, Nat.le_of_ble_eq_true rfl⟩) (gq_preV hH hK hN (va_recv hK (gq_one (c := 0) (k := 0) hH rfl (gm_c0 cI cZ ad u)) (ci := 4) (q0 := 0) rfl rfl)) rfl rfl hl.1 rfl (lv_room (Nat.le_of_ble_eq_true rfl)) gd_Md_go_12 ⟨Nat.zero_le _, Nat.zero_le _⟩) hA hS (fun H locs hH hS => ?_)
      refine lv_iload_n hx hb gd_Md_go_15 rfl (lv_at hl 2 rfl) ?_
      refine lv_icmp_gt (tgt := 25) hx hb gd_Md_go_16 (by decide) (fun c47 => ?_) (fun c47 => ?_)
      · replace hf := gj_t c47 hf
        refine lv_aload_n hx hb gd_Md_go_25 rfl (lv_at hl 0 rfl) ?_
        refine va_get (D := D) (ci := 4) (C := gR_Md) (T := gT_Md) (N := 16) hx hb hts (fun w h => List.mem_cons_of_mem _ (gl_Md w h)) hown hK (gq_one (c := 0) (k := 0) hH rfl (gm_c0 cI cZ ad z3.2)) 0 rfl rfl 2 (by decide) (ht _ gt_371) (fun _ h9 => h9) rfl gd_Md_go_26 ?_
        refine lv_iload_n hx hb gd_Md_go_29 rfl (lv_at hl 1 rfl) ?_
        refine lv_iconst (v := 0) hx hb gd_Md_go_30 (by decide) ?_
        obtain ⟨hg5, hf⟩ := gj_g hf
        refine gq_zast (D := D) (ca := 2) (ka := 0) (pp' := gm_pc cI cZ ad (gm_sI z3.2 2 (Int32.toNatClampNeg x1) (vp_nar .boolean 0))) hx hb hK hH hI hA rfl (gm_c2 cI cZ ad z3.2) 1 rfl hg5 (gm_w2 cI cZ ad z3.2 (Int32.toNatClampNeg x1) (vp_nar .boolean 0)) (gm_o2 cI cZ ad z3.2 (Int32.toNatClampNeg x1) (vp_nar .boolean 0)) hS gd_Md_go_31 (fun H locs hH hS => ?_)
        refine lv_aload_n hx hb gd_Md_go_32 rfl (lv_at hl 0 rfl) ?_
        refine lv_dup hx hb gd_Md_go_33 rfl ?_
        refine va_get (D := D) (ci := 4) (C := gR_Md) (T := gT_Md) (N := 16) hx hb hts (fun w h => List.mem_cons_of_mem _ (gl_Md w h)) hown hK (gq_one (c := 0) (k := 0) hH rfl (gm_c0 cI cZ ad (gm_sI z3.2 2 (Int32.toNatClampNeg x1) (vp_nar .boolean 0)))) 0 rfl rfl 7 (by decide) (ht _ gt_376) (fun _ h9 => h9) rfl gd_Md_go_34 ?_
        refine lv_iconst (v := 1) hx hb gd_Md_go_37 (by decide) ?_
        refine lv_isub hx hb gd_Md_go_38 ?_
        refine gq_put (D := D) (ci := 4) (C := gR_Md) (T := gT_Md) (N := 16) (ca := 0) (ka := 0) (pp' := gm_pc cI cZ ad (gm_sI (gm_sI z3.2 2 (Int32.toNatClampNeg x1) (vp_nar .boolean 0)) 12 0 (((gm_sI z3.2 2 (Int32.toNatClampNeg x1) (vp_nar .boolean 0)).1 12 0) - 1))) (ty := .int) hx hb hts (fun w h => List.mem_cons_of_mem _ (gl_Md w h)) gF_Md gf_Md gn_Md hown hK hH hI hA rfl (gm_c0 cI cZ ad (gm_sI z3.2 2 (Int32.toNatClampNeg x1) (vp_nar .boolean 0))) rfl 7 (by decide) (ht _ gt_376) (fun _ h9 => h9) rfl (by decide +kernel) rfl rfl (Nat.le_of_ble_eq_true rfl) (gm_w12 cI cZ ad (gm_sI z3.2 2 (Int32.toNatClampNeg x1) (vp_nar .boolean 0)) (((gm_sI z3.2 2 (Int32.toNatClampNeg x1) (vp_nar .boolean 0)).1 12 0) - 1)) (gm_o12 cI cZ ad (gm_sI z3.2 2 (Int32.toNatClampNeg x1) (vp_nar .boolean 0)) (((gm_sI z3.2 2 (Int32.toNatClampNeg x1) (vp_nar .boolean 0)).1 12 0) - 1)) hS gd_Md_go_39 (fun H locs hH hS => ?_)
        refine lv_iload_n hx hb gd_Md_go_42 rfl (lv_at hl 2 rfl) ?_
        refine lv_istore (lv' := [(4, .int x2), (0, .ref (ad 0 0)), (1, .int x1), (2, .int x2), (3, .int x3)]) hx hb gd_Md_go_43 hl (by decide) rfl (fun ls hl => ?_)
        exact L45 gm_fu x1 x2 x3 x2 (gm_sI (gm_sI z3.2 2 (Int32.toNatClampNeg x1) (vp_nar .boolean 0)) 12 0 (((gm_sI z3.2 2 (Int32.toNatClampNeg x1) (vp_nar .boolean 0)).1 12 0) - 1)) _ _ _ hf hH hS (lv_sub hl [1, 2, 3, 4, 0] rfl)
      · replace hf := gj_e c47 hf
        refine lv_iinc (v := x3 + 1) (lv' := [(3, .int (x3 + 1)), (0, .ref (ad 0 0)), (1, .int x1), (2, .int x2)]) hx hb gd_Md_go_19 hl (k := 3) rfl rfl (by decide) rfl (fun ls hl => ?_)
        refine lv_goto (tgt := 8) hx hb gd_Md_go_22 (by decide) ?_
        exact ih x1 x2 (x3 + 1) z3.2 _ _ _ hf hH hS (lv_sub hl [1, 2, 3, 0] rfl)
  unfold fn_Md_go at hf
  refine lv_aload_n hx hb gd_Md_go_0 rfl (lv_at hl 0 rfl) ?_
  refine lv_iload_n hx hb gd_Md_go_1 rfl (lv_at hl 1 rfl) ?_
  obtain ⟨z1, hc2, hf⟩ := Option.bind_eq_some_iff.mp hf
  refine gq_calli (va_runV (As := [.int p1]) (rest := []) ⟨hx, hb, hml, hown, hts⟩ (ct_Md_placeOf l D cI cZ ad hI u p1 z1 hc2) (cwV 1 hts (gt_V gt_479 gt_481 (gt_sel (List.mem_of_getElem? (i := 33) rfl)) gt_5 gt_482) rfl rfl rfl (by decide +kernel) ⟨Nat.le_of_ble_eq_true rfl, Nat.le_of_ble_eq_true rfl⟩) (gq_preV hH hK hN (va_recv hK (gq_one (c := 0) (k := 0) hH rfl (gm_c0 cI cZ ad u)) (ci := 4) (q0 := 0) rfl rfl)) rfl rfl hl.1 rfl (lv_room (Nat.le_of_ble_eq_true rfl)) gd_Md_go_2 ⟨Nat.zero_le _, Nat.zero_le _⟩) hA hS (fun H locs hH hS => ?_)
  refine lv_istore_n (lv' := [(2, .int z1.1), (0, .ref (ad 0 0)), (1, .int p1)]) hx hb gd_Md_go_5 rfl hl (by decide) rfl (fun ls hl => ?_)
  refine lv_iconst (v := 0) hx hb gd_Md_go_6 (by decide) ?_
  refine lv_istore_n (lv' := [(3, .int 0), (2, .int z1.1), (0, .ref (ad 0 0)), (1, .int p1)]) hx hb gd_Md_go_7 rfl hl (by decide) rfl (fun ls hl => ?_)
  exact L8 gm_fu p1 z1.1 0 z1.2 _ _ _ hf hH hS (lv_sub hl [2, 3, 1, 0] rfl)
set_option maxHeartbeats 4000000 in
set_option maxRecDepth 100000 in
theorem ct_Md_isKeptBy (l : Launch) (D : va_G) (cI cZ : ClassId) (ad : Nat → Nat → Nat) (hI : gq_I gm_vd ad) (u : gm_St) (p1 : Int32) (p2 : Int32) (z : Int32 × gm_St) (hf : fn_Md_isKeptBy p1 p2 u = some z) : Met l gy_Md_isKeptBy gws_Md_isKeptBy ({ frames := 0, cells := 0, slots := 0, locals := 0 }) (va_Pc [.ref (ad 0 0), .int p1, .int p2] (gq_pre D gc_cl (gm_tys cI cZ) gm_vd ad gm_NF gm_NM (gm_pc cI cZ ad u))) (va_Qi (fun r u2 => r = z.1 ∧ u2 = z.2) (fun u2 t => gq_B D gc_cl (gm_tys cI cZ) gm_vd ad (gm_pc cI cZ ad u2) t) (gq_A gm_vd ad)) 0 0 (gq_A gm_vd ad) := by
  refine Met.ofW (cc := gb_Md_isKeptBy) (maxL := 3) (ret := (some .boolean)) (by decide) rfl ?_
  intro p e s m args below meth c s₁ B hml hv
  obtain ⟨rfl, hH, hK, hN⟩ := hv
  have hx := B.exec
  have hb := B.bytes
  have hr := B.returns
  have hts := atoms_spec (ws := gws_Md_isKeptBy) B.pre
  have ht := fun (w : Cond) (h : w ∈ gt_T) => hts w (List.mem_cons_of_mem _ h)
  have hown : s.vm.findClass gR_Md = some m.cls := findClass_of_methodNamed B.named
  have hlocks := B.notSynchronized
  have hA : ∀ q, (gq_A gm_vd ad) q → (gq_A gm_vd ad) q := fun _ h => h
  have hS : va_S (gq_A gm_vd ad) s.heap s.heap [] := va_S.rf
  have hl := lv_entry ([.ref (ad 0 0), .int p1, .int p2]) (n := 3) (Nat.le_of_ble_eq_true rfl)
  rw [lg_entry_eq]
  generalize (lg_sl ([.ref (ad 0 0), .int p1, .int p2]) ++ List.replicate (3 - (lg_sl ([.ref (ad 0 0), .int p1, .int p2])).length) Slot.unset).toArray = ls at hl ⊢
  have hl : lv_has ls 3 [(0, .ref (ad 0 0)), (1, .int p1), (2, .int p2)] := hl
  unfold fn_Md_isKeptBy at hf
  refine lv_aload_n hx hb gd_Md_isKeptBy_0 rfl (lv_at hl 0 rfl) ?_
  refine va_get (D := D) (ci := 4) (C := gR_Md) (T := gT_Md) (N := 16) hx hb hts (fun w h => List.mem_cons_of_mem _ (gl_Md w h)) hown hK (gq_one (c := 0) (k := 0) hH rfl (gm_c0 cI cZ ad u)) 0 rfl rfl 14 (by decide) (ht _ gt_383) (fun _ h9 => h9) rfl gd_Md_isKeptBy_1 ?_
  refine lv_bipush (v := 100) hx hb gd_Md_isKeptBy_4 (by decide) ?_
  refine lv_iload_n hx hb gd_Md_isKeptBy_6 rfl (lv_at hl 1 rfl) ?_
  refine lv_imul hx hb gd_Md_isKeptBy_7 ?_
  refine lv_iload_n hx hb gd_Md_isKeptBy_8 rfl (lv_at hl 2 rfl) ?_
  refine lv_iadd hx hb gd_Md_isKeptBy_9 ?_
  obtain ⟨hg1, hf⟩ := gj_g hf
  refine va_zald (D := D) hx hb hK (gq_one (c := 10) (k := 0) hH rfl (gm_c10 cI cZ ad u)) 0 1 rfl rfl hg1 gd_Md_isKeptBy_10 ?_
  obtain ⟨hg2, hf⟩ := gj_g hf
  cases hf
  exact W.zret hx hb hr (gj_01n hg2) (fun t ht hW => ⟨⟨_, _, rfl, ⟨rfl, rfl⟩, ⟨by rw [ht]; exact hH, va_K.moved hW.alike hK⟩⟩, hS.F ht⟩) hS.2.2 gd_Md_isKeptBy_11
