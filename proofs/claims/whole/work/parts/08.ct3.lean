set_option maxHeartbeats 4000000 in
set_option maxRecDepth 100000 in
theorem ct_Lv_remove (l : Launch) (D : va_G) (cI cT : ClassId) (ad : Nat → Nat → Nat) (hI : gq_I gk_vd ad) (u : gk_St) (p1 : Int32) (z : gk_St) (hf : fn_Lv_remove p1 u = some z) : Met l gy_Lv_remove gws_Lv_remove ({ frames := 3, cells := 0, slots := 0, locals := 66 }) (va_Pc [.ref (ad 2 0), .int p1] (gq_pre D gc_cl (gk_tys cI cT) gk_vd ad gk_NF gk_NM (gk_pc cI cT ad u))) (va_Qv (fun u2 => u2 = z) (fun u2 t => gq_B D gc_cl (gk_tys cI cT) gk_vd ad (gk_pc cI cT ad u2) t) (gq_A gk_vd ad)) 0 0 (gq_A gk_vd ad) := by
  refine Met.ofW (cc := gb_Lv_remove) (maxL := 4) (ret := none) (by decide) rfl ?_
  intro p e s m args below meth c s₁ B hml hv
  obtain ⟨rfl, hH, hK, hN⟩ := hv
  have hx := B.exec
  have hb := B.bytes
  have hr := B.returns
  have hts := atoms_spec (ws := gws_Lv_remove) B.pre
  have ht := fun (w : Cond) (h : w ∈ gt_T) => hts w (List.mem_cons_of_mem _ h)
  have hown : s.vm.findClass gR_Lv = some m.cls := findClass_of_methodNamed B.named
  have hlocks := B.notSynchronized
  have hA : ∀ q, (gq_A gk_vd ad) q → (gq_A gk_vd ad) q := fun _ h => h
  have hS : va_S (gq_A gk_vd ad) s.heap s.heap [] := va_S.rf
  have hl := lv_entry ([.ref (ad 2 0), .int p1]) (n := 4) (Nat.le_of_ble_eq_true rfl)
  rw [lg_entry_eq]
  generalize (lg_sl ([.ref (ad 2 0), .int p1]) ++ List.replicate (4 - (lg_sl ([.ref (ad 2 0), .int p1])).length) Slot.unset).toArray = ls at hl ⊢
  have hl : lv_has ls 4 [(0, .ref (ad 2 0)), (1, .int p1)] := hl
  have L43 : ∀ (n : Nat) (x1 : Int32) (x2 : Int32) (x3 : Int32) (u : gk_St) (H : Heap) (locs : List Loc) (ls : Array Slot), fn_Lv_remove_43 n x1 x2 x3 u = some z → gq_H D gc_cl gk_vd ad (gk_pc cI cT ad u) H → va_S (gq_A gk_vd ad) s.heap H locs → lv_has ls 4 [(0, .ref (ad 2 0)), (1, .int x1), (2, .int x2), (3, .int x3)] → W p l e (headSpec gws_Lv_remove ({ frames := 3, cells := 0, slots := 0, locals := 66 })).room s m ([.ref (ad 2 0), .int p1] : List Value).toArray below meth c H locs 0 0 (MQ below (va_Qv (fun u2 => u2 = z) (fun u2 t => gq_B D gc_cl (gk_tys cI cT) gk_vd ad (gk_pc cI cT ad u2) t) (gq_A gk_vd ad)) ([.ref (ad 2 0), .int p1] : List Value).toArray s 0 0 (gq_A gk_vd ad)) (F0 m 43 ls []) := by
    intro n
    induction n with
    | zero =>
      intro x1 x2 x3 u H locs ls hf
      have h0 : none = some z := hf
      cases h0
    | succ n ih =>
      intro x1 x2 x3 u H locs ls hf hH hS hl
      rw [fn_Lv_remove_43] at hf
      refine lv_iload_n hx hb gd_Lv_remove_43 rfl (lv_at hl 3 rfl) ?_
      refine lv_aload_n hx hb gd_Lv_remove_44 rfl (lv_at hl 0 rfl) ?_
      refine va_get (D := D) (ci := 1) (C := gR_Lv) (T := gT_Lv) (N := 4) hx hb hts (fun w h => List.mem_cons_of_mem _ (gl_Lv w h)) hown hK (gq_one (c := 2) (k := 0) hH rfl (gk_c2 cI cT ad u)) 0 rfl rfl 1 (by decide) (ht _ gt_70) (fun _ h9 => h9) rfl gd_Lv_remove_45 ?_
      refine lv_icmp_ge (tgt := 71) hx hb gd_Lv_remove_48 (by decide) (fun c12 => ?_) (fun c12 => ?_)
      · replace hf := gj_t c12 hf
        refine lv_aload_n hx hb gd_Lv_remove_71 rfl (lv_at hl 0 rfl) ?_
        refine lv_iload_n hx hb gd_Lv_remove_72 rfl (lv_at hl 2 rfl) ?_
        refine lv_iconst (v := (-1)) hx hb gd_Lv_remove_73 (by decide) ?_
        obtain ⟨z3, hc4, hf⟩ := Option.bind_eq_some_iff.mp hf
        refine gq_callv (va_runV (As := [.int x2, .int (-1)]) (rest := []) ⟨hx, hb, hml, hown, hts⟩ (ct_Lv_resize l D cI cT ad hI u x2 (-1) z3 hc4) (cwV 2 hts (gt_V gt_200 gt_202 (gt_sel (List.mem_of_getElem? (i := 8) rfl)) gt_4 gt_203) rfl rfl rfl (by decide +kernel) ⟨Nat.le_of_ble_eq_true rfl, Nat.le_of_ble_eq_true rfl⟩) (gq_preV hH hK hN (va_recv hK (gq_one (c := 2) (k := 0) hH rfl (gk_c2 cI cT ad u)) (ci := 1) (q0 := 0) rfl rfl)) rfl rfl hl.1 rfl (lv_room (Nat.le_of_ble_eq_true rfl)) gd_Lv_remove_74 ⟨Nat.zero_le _, Nat.zero_le _⟩) hA hS (fun H locs hH hS => ?_)
        refine lv_aload_n hx hb gd_Lv_remove_77 rfl (lv_at hl 0 rfl) ?_
        refine lv_iload_n hx hb gd_Lv_remove_78 rfl (lv_at hl 2 rfl) ?_
        obtain ⟨z5, hc6, hf⟩ := Option.bind_eq_some_iff.mp hf
        refine gq_calli (va_runV (As := [.int x2]) (rest := []) ⟨hx, hb, hml, hown, hts⟩ (ct_Lv_sizeOf l D cI cT ad hI z3 x2 z5 hc6) (cwV 1 hts (gt_V gt_193 gt_194 gt_195 gt_4 gt_196) rfl rfl rfl (by decide +kernel) ⟨Nat.le_of_ble_eq_true rfl, Nat.le_of_ble_eq_true rfl⟩) (gq_preV hH hK hN (va_recv hK (gq_one (c := 2) (k := 0) hH rfl (gk_c2 cI cT ad z3)) (ci := 1) (q0 := 0) rfl rfl)) rfl rfl hl.1 rfl (lv_room (Nat.le_of_ble_eq_true rfl)) gd_Lv_remove_79 ⟨Nat.zero_le _, Nat.zero_le _⟩) hA hS (fun H locs hH hS => ?_)
        refine lv_iconst (v := 3) hx hb gd_Lv_remove_82 (by decide) ?_
        refine lv_icmp_ge (tgt := 91) hx hb gd_Lv_remove_83 (by decide) (fun c9 => ?_) (fun c9 => ?_)
        · replace hf := gj_t c9 hf
          cases hf
          exact W.vret hx hb hr (fun t ht hW => ⟨⟨_, rfl, rfl, ⟨by rw [ht]; exact hH, va_K.moved hW.alike hK⟩⟩, hS.F ht⟩) hS.2.2 gd_Lv_remove_91
        · replace hf := gj_e c9 hf
          refine lv_aload_n hx hb gd_Lv_remove_86 rfl (lv_at hl 0 rfl) ?_
          refine lv_iload_n hx hb gd_Lv_remove_87 rfl (lv_at hl 2 rfl) ?_
          obtain ⟨z7, hc8, hf⟩ := Option.bind_eq_some_iff.mp hf
          refine gq_callv (va_runV (As := [.int x2]) (rest := []) ⟨hx, hb, hml, hown, hts⟩ (ct_Lv_mend l D cI cT ad hI z5.2 x2 z7 hc8) (cwV 1 hts (gt_V gt_229 gt_231 (gt_sel (List.mem_of_getElem? (i := 11) rfl)) gt_4 gt_232) rfl rfl rfl (by decide +kernel) ⟨Nat.le_of_ble_eq_true rfl, Nat.le_of_ble_eq_true rfl⟩) (gq_preV hH hK hN (va_recv hK (gq_one (c := 2) (k := 0) hH rfl (gk_c2 cI cT ad z5.2)) (ci := 1) (q0 := 0) rfl rfl)) rfl rfl hl.1 rfl (lv_room (Nat.le_of_ble_eq_true rfl)) gd_Lv_remove_88 ⟨Nat.zero_le _, Nat.zero_le _⟩) hA hS (fun H locs hH hS => ?_)
          cases hf
          exact W.vret hx hb hr (fun t ht hW => ⟨⟨_, rfl, rfl, ⟨by rw [ht]; exact hH, va_K.moved hW.alike hK⟩⟩, hS.F ht⟩) hS.2.2 gd_Lv_remove_91
      · replace hf := gj_e c12 hf
        refine lv_aload_n hx hb gd_Lv_remove_51 rfl (lv_at hl 0 rfl) ?_
        refine va_get (D := D) (ci := 1) (C := gR_Lv) (T := gT_Lv) (N := 4) hx hb hts (fun w h => List.mem_cons_of_mem _ (gl_Lv w h)) hown hK (gq_one (c := 2) (k := 0) hH rfl (gk_c2 cI cT ad u)) 0 rfl rfl 0 (by decide) (ht _ gt_69) (fun _ h9 => h9) rfl gd_Lv_remove_52 ?_
        refine lv_iload_n hx hb gd_Lv_remove_55 rfl (lv_at hl 3 rfl) ?_
        refine lv_aload_n hx hb gd_Lv_remove_56 rfl (lv_at hl 0 rfl) ?_
        refine va_get (D := D) (ci := 1) (C := gR_Lv) (T := gT_Lv) (N := 4) hx hb hts (fun w h => List.mem_cons_of_mem _ (gl_Lv w h)) hown hK (gq_one (c := 2) (k := 0) hH rfl (gk_c2 cI cT ad u)) 0 rfl rfl 0 (by decide) (ht _ gt_69) (fun _ h9 => h9) rfl gd_Lv_remove_57 ?_
        refine lv_iload_n hx hb gd_Lv_remove_60 rfl (lv_at hl 3 rfl) ?_
        refine lv_iconst (v := 1) hx hb gd_Lv_remove_61 (by decide) ?_
        refine lv_iadd hx hb gd_Lv_remove_62 ?_
        obtain ⟨hg10, hf⟩ := gj_g hf
        refine va_iald (D := D) hx hb hK (gq_one (c := 3) (k := 0) hH rfl (gk_c3 cI cT ad u)) 0 0 rfl rfl hg10 gd_Lv_remove_63 ?_
        obtain ⟨hg11, hf⟩ := gj_g hf
        refine gq_iast (D := D) (ca := 3) (ka := 0) (pp' := gk_pc cI cT ad (gk_sI u 5 (Int32.toNatClampNeg x3) (u.1 5 (Int32.toNatClampNeg (x3 + 1))))) hx hb hK hH hI hA rfl (gk_c3 cI cT ad u) 0 rfl hg11 (gk_w5 cI cT ad u (Int32.toNatClampNeg x3) (u.1 5 (Int32.toNatClampNeg (x3 + 1)))) (gk_o5 cI cT ad u (Int32.toNatClampNeg x3) (u.1 5 (Int32.toNatClampNeg (x3 + 1)))) hS gd_Lv_remove_64 (fun H locs hH hS => ?_)
        refine lv_iinc (v := x3 + 1) (lv' := [(3, .int (x3 + 1)), (0, .ref (ad 2 0)), (1, .int x1), (2, .int x2)]) hx hb gd_Lv_remove_65 hl (k := 3) rfl rfl (by decide) rfl (fun ls hl => ?_)
        refine lv_goto (tgt := 43) hx hb gd_Lv_remove_68 (by decide) ?_
        exact ih x1 x2 (x3 + 1) (gk_sI u 5 (Int32.toNatClampNeg x3) (u.1 5 (Int32.toNatClampNeg (x3 + 1)))) _ _ _ hf hH hS (lv_sub hl [1, 2, 3, 0] rfl)
  unfold fn_Lv_remove at hf
  refine lv_iload_n hx hb gd_Lv_remove_0 rfl (lv_at hl 1 rfl) ?_
  refine lv_if_lt (tgt := 24) hx hb gd_Lv_remove_1 (by decide) (fun c15 => ?_) (fun c15 => ?_)
  · replace hf := gj_t c15 hf
    cases hf
    exact W.vret hx hb hr (fun t ht hW => ⟨⟨_, rfl, rfl, ⟨by rw [ht]; exact hH, va_K.moved hW.alike hK⟩⟩, hS.F ht⟩) hS.2.2 gd_Lv_remove_24
  · replace hf := gj_e c15 hf
    refine lv_iload_n hx hb gd_Lv_remove_4 rfl (lv_at hl 1 rfl) ?_
    refine lv_aload_n hx hb gd_Lv_remove_5 rfl (lv_at hl 0 rfl) ?_
    refine va_get (D := D) (ci := 1) (C := gR_Lv) (T := gT_Lv) (N := 4) hx hb hts (fun w h => List.mem_cons_of_mem _ (gl_Lv w h)) hown hK (gq_one (c := 2) (k := 0) hH rfl (gk_c2 cI cT ad u)) 0 rfl rfl 1 (by decide) (ht _ gt_70) (fun _ h9 => h9) rfl gd_Lv_remove_6 ?_
    refine lv_icmp_ge (tgt := 24) hx hb gd_Lv_remove_9 (by decide) (fun c14 => ?_) (fun c14 => ?_)
    · replace hf := gj_t c14 hf
      cases hf
      exact W.vret hx hb hr (fun t ht hW => ⟨⟨_, rfl, rfl, ⟨by rw [ht]; exact hH, va_K.moved hW.alike hK⟩⟩, hS.F ht⟩) hS.2.2 gd_Lv_remove_24
    · replace hf := gj_e c14 hf
      refine lv_aload_n hx hb gd_Lv_remove_12 rfl (lv_at hl 0 rfl) ?_
      refine va_get (D := D) (ci := 1) (C := gR_Lv) (T := gT_Lv) (N := 4) hx hb hts (fun w h => List.mem_cons_of_mem _ (gl_Lv w h)) hown hK (gq_one (c := 2) (k := 0) hH rfl (gk_c2 cI cT ad u)) 0 rfl rfl 1 (by decide) (ht _ gt_70) (fun _ h9 => h9) rfl gd_Lv_remove_13 ?_
      refine lv_aload_n hx hb gd_Lv_remove_16 rfl (lv_at hl 0 rfl) ?_
      refine va_get (D := D) (ci := 1) (C := gR_Lv) (T := gT_Lv) (N := 4) hx hb hts (fun w h => List.mem_cons_of_mem _ (gl_Lv w h)) hown hK (gq_one (c := 2) (k := 0) hH rfl (gk_c2 cI cT ad u)) 0 rfl rfl 0 (by decide) (ht _ gt_69) (fun _ h9 => h9) rfl gd_Lv_remove_17 ?_
      refine va_alen (D := D) (v := 100) hx hb hK (gq_one (c := 3) (k := 0) hH rfl (gk_c3 cI cT ad u)) 0 0 rfl rfl rfl gd_Lv_remove_20 ?_
      refine lv_icmp_le (tgt := 25) hx hb gd_Lv_remove_21 (by decide) (fun c13 => ?_) (fun c13 => ?_)
      · replace hf := gj_t c13 hf
        refine lv_aload_n hx hb gd_Lv_remove_25 rfl (lv_at hl 0 rfl) ?_
        refine lv_iload_n hx hb gd_Lv_remove_26 rfl (lv_at hl 1 rfl) ?_
        obtain ⟨z1, hc2, hf⟩ := Option.bind_eq_some_iff.mp hf
        refine gq_calli (va_runV (As := [.int p1]) (rest := []) ⟨hx, hb, hml, hown, hts⟩ (ct_Lv_leafOf l D cI cT ad hI u p1 z1 hc2) (cwV 1 hts (gt_V gt_189 gt_191 (gt_sel (List.mem_of_getElem? (i := 7) rfl)) gt_4 gt_192) rfl rfl rfl (by decide +kernel) ⟨Nat.le_of_ble_eq_true rfl, Nat.le_of_ble_eq_true rfl⟩) (gq_preV hH hK hN (va_recv hK (gq_one (c := 2) (k := 0) hH rfl (gk_c2 cI cT ad u)) (ci := 1) (q0 := 0) rfl rfl)) rfl rfl hl.1 rfl (lv_room (Nat.le_of_ble_eq_true rfl)) gd_Lv_remove_27 ⟨Nat.zero_le _, Nat.zero_le _⟩) hA hS (fun H locs hH hS => ?_)
        refine lv_istore_n (lv' := [(2, .int z1.1), (0, .ref (ad 2 0)), (1, .int p1)]) hx hb gd_Lv_remove_30 rfl hl (by decide) rfl (fun ls hl => ?_)
        refine lv_aload_n hx hb gd_Lv_remove_31 rfl (lv_at hl 1 rfl) ?_
        refine lv_dup hx hb gd_Lv_remove_32 rfl ?_
        refine va_get (D := D) (ci := 1) (C := gR_Lv) (T := gT_Lv) (N := 4) hx hb hts (fun w h => List.mem_cons_of_mem _ (gl_Lv w h)) hown hK (gq_one (c := 2) (k := 0) hH rfl (gk_c2 cI cT ad z1.2)) 0 rfl rfl 1 (by decide) (ht _ gt_70) (fun _ h9 => h9) rfl gd_Lv_remove_33 ?_
        refine lv_iconst (v := 1) hx hb gd_Lv_remove_36 (by decide) ?_
        refine lv_isub hx hb gd_Lv_remove_37 ?_
        refine gq_put (D := D) (ci := 1) (C := gR_Lv) (T := gT_Lv) (N := 4) (ca := 2) (ka := 0) (pp' := gk_pc cI cT ad (gk_sI z1.2 6 0 ((z1.2.1 6 0) - 1))) (ty := .int) hx hb hts (fun w h => List.mem_cons_of_mem _ (gl_Lv w h)) gF_Lv gf_Lv gn_Lv hown hK hH hI hA rfl (gk_c2 cI cT ad z1.2) rfl 1 (by decide) (ht _ gt_70) (fun _ h9 => h9) rfl (by decide +kernel) rfl rfl (Nat.le_of_ble_eq_true rfl) (gk_w6 cI cT ad z1.2 ((z1.2.1 6 0) - 1)) (gk_o6 cI cT ad z1.2 ((z1.2.1 6 0) - 1)) hS gd_Lv_remove_38 (fun H locs hH hS => ?_)
        refine lv_iload_n hx hb gd_Lv_remove_41 rfl (lv_at hl 2 rfl) ?_
        refine lv_istore_n (lv' := [(3, .int p1), (2, .int z1.1), (0, .ref (ad 2 0)), (1, .int p1)]) hx hb gd_Lv_remove_42 rfl hl (by decide) rfl (fun ls hl => ?_)
        exact L43 gk_fu p1 z1.1 p1 (gk_sI z1.2 6 0 ((z1.2.1 6 0) - 1)) _ _ _ hf hH hS (lv_sub hl [2, 3, 1, 0] rfl)
      · replace hf := gj_e c13 hf
        cases hf
        exact W.vret hx hb hr (fun t ht hW => ⟨⟨_, rfl, rfl, ⟨by rw [ht]; exact hH, va_K.moved hW.alike hK⟩⟩, hS.F ht⟩) hS.2.2 gd_Lv_remove_24
set_option maxHeartbeats 4000000 in
set_option maxRecDepth 100000 in
theorem ct_Bk_takeOut (l : Launch) (D : va_G) (cI cT : ClassId) (ad : Nat → Nat → Nat) (hI : gq_I gk_vd ad) (u : gk_St) (q1 : Nat) (hq1 : q1 < 100) (p2 : Int32) (z : gk_St) (hf : fn_Bk_takeOut q1 p2 u = some z) : Met l gy_Bk_takeOut gws_Bk_takeOut ({ frames := 4, cells := 0, slots := 0, locals := 89 }) (va_Pc [.ref (ad 0 0), .ref (ad 7 q1), .int p2] (gq_pre D gc_cl (gk_tys cI cT) gk_vd ad gk_NF gk_NM (gk_pc cI cT ad u))) (va_Qv (fun u2 => u2 = z) (fun u2 t => gq_B D gc_cl (gk_tys cI cT) gk_vd ad (gk_pc cI cT ad u2) t) (gq_A gk_vd ad)) 0 0 (gq_A gk_vd ad) := by
  refine Met.ofW (cc := gb_Bk_takeOut) (maxL := 3) (ret := none) (by decide) rfl ?_
  intro p e s m args below meth c s₁ B hml hv
  obtain ⟨rfl, hH, hK, hN⟩ := hv
  have hx := B.exec
  have hb := B.bytes
  have hr := B.returns
  have hts := atoms_spec (ws := gws_Bk_takeOut) B.pre
  have ht := fun (w : Cond) (h : w ∈ gt_T) => hts w (List.mem_cons_of_mem _ h)
  have hown : s.vm.findClass gR_Bk = some m.cls := findClass_of_methodNamed B.named
  have hlocks := B.notSynchronized
  have hA : ∀ q, (gq_A gk_vd ad) q → (gq_A gk_vd ad) q := fun _ h => h
  have hS : va_S (gq_A gk_vd ad) s.heap s.heap [] := va_S.rf
  have hl := lv_entry ([.ref (ad 0 0), .ref (ad 7 q1), .int p2]) (n := 3) (Nat.le_of_ble_eq_true rfl)
  rw [lg_entry_eq]
  generalize (lg_sl ([.ref (ad 0 0), .ref (ad 7 q1), .int p2]) ++ List.replicate (3 - (lg_sl ([.ref (ad 0 0), .ref (ad 7 q1), .int p2])).length) Slot.unset).toArray = ls at hl ⊢
  have hl : lv_has ls 3 [(0, .ref (ad 0 0)), (1, .ref (ad 7 q1)), (2, .int p2)] := hl
  unfold fn_Bk_takeOut at hf
  refine lv_aload_n hx hb gd_Bk_takeOut_0 rfl (lv_at hl 1 rfl) ?_
  refine lv_iconst (v := 0) hx hb gd_Bk_takeOut_1 (by decide) ?_
  refine gq_putN (D := D) (ci := 3) (C := gR_Tm) (T := gT_Tm) (N := 5) (ca := 7) (ka := q1) (pp' := gk_pc cI cT ad (gk_sI u 1 q1 0)) (ty := .boolean) hx hb hts (fun w h => List.mem_cons_of_mem _ (gl_Tm w h)) gF_Tm gf_Tm gn_Tm hown hK hH hI hA hq1 (gk_c7 cI cT ad u q1) rfl 1 (by decide) (va_Nw.use rfl (hN.1 _ (List.mem_of_getElem? (i := 2) rfl))) (fun _ h9 => h9) rfl (by decide +kernel) rfl rfl (Nat.le_of_ble_eq_true rfl) (gk_w1 cI cT ad u q1 0) (gk_o1 cI cT ad u q1 0) hS gd_Bk_takeOut_2 (fun H locs hH hS => ?_)
  refine lv_aload_n hx hb gd_Bk_takeOut_5 rfl (lv_at hl 0 rfl) ?_
  refine va_get (D := D) (ci := 0) (C := gR_Bk) (T := gT_Bk) (N := 5) hx hb hts (fun w h => List.mem_cons_of_mem _ (gl_Bk w h)) hown hK (gq_one (c := 0) (k := 0) hH rfl (gk_c0 cI cT ad (gk_sI u 1 q1 0))) 0 rfl rfl 2 (by decide) (ht _ gt_87) (fun _ h9 => h9) rfl gd_Bk_takeOut_6 ?_
  refine lv_iload_n hx hb gd_Bk_takeOut_9 rfl (lv_at hl 2 rfl) ?_
  obtain ⟨z1, hc2, hf⟩ := Option.bind_eq_some_iff.mp hf
  refine gq_callv (va_runV (As := [.int p2]) (rest := []) ⟨hx, hb, hml, hown, hts⟩ (ct_Lv_remove l D cI cT ad hI (gk_sI u 1 q1 0) p2 z1 hc2) (cwV 1 hts (gt_V gt_225 gt_226 gt_227 gt_4 gt_228) rfl rfl rfl (by decide +kernel) ⟨Nat.le_of_ble_eq_true rfl, Nat.le_of_ble_eq_true rfl⟩) (gq_preV hH hK hN (va_recv hK (gq_one (c := 2) (k := 0) hH rfl (gk_c2 cI cT ad (gk_sI u 1 q1 0))) (ci := 1) (q0 := 0) rfl rfl)) rfl rfl hl.1 rfl (lv_room (Nat.le_of_ble_eq_true rfl)) gd_Bk_takeOut_10 ⟨Nat.zero_le _, Nat.zero_le _⟩) hA hS (fun H locs hH hS => ?_)
  cases hf
  exact W.vret hx hb hr (fun t ht hW => ⟨⟨_, rfl, rfl, ⟨by rw [ht]; exact hH, va_K.moved hW.alike hK⟩⟩, hS.F ht⟩) hS.2.2 gd_Bk_takeOut_13
set_option maxHeartbeats 4000000 in
set_option maxRecDepth 100000 in
theorem ct_Bk_drop (l : Launch) (D : va_G) (cI cT : ClassId) (ad : Nat → Nat → Nat) (hI : gq_I gk_vd ad) (u : gk_St) (p1 : Int32) (z : Int32 × gk_St) (hf : fn_Bk_drop p1 u = some z) : Met l gy_Bk_drop gws_Bk_drop ({ frames := 5, cells := 0, slots := 0, locals := 111 }) (va_Pc [.ref (ad 0 0), .int p1] (gq_pre D gc_cl (gk_tys cI cT) gk_vd ad gk_NF gk_NM (gk_pc cI cT ad u))) (va_Qi (fun r u2 => r = z.1 ∧ u2 = z.2) (fun u2 t => gq_B D gc_cl (gk_tys cI cT) gk_vd ad (gk_pc cI cT ad u2) t) (gq_A gk_vd ad)) 0 0 (gq_A gk_vd ad) := by
  refine Met.ofW (cc := gb_Bk_drop) (maxL := 3) (ret := (some .int)) (by decide) rfl ?_
  intro p e s m args below meth c s₁ B hml hv
  obtain ⟨rfl, hH, hK, hN⟩ := hv
  have hx := B.exec
  have hb := B.bytes
  have hr := B.returns
  have hts := atoms_spec (ws := gws_Bk_drop) B.pre
  have ht := fun (w : Cond) (h : w ∈ gt_T) => hts w (List.mem_cons_of_mem _ h)
  have hown : s.vm.findClass gR_Bk = some m.cls := findClass_of_methodNamed B.named
  have hlocks := B.notSynchronized
  have hA : ∀ q, (gq_A gk_vd ad) q → (gq_A gk_vd ad) q := fun _ h => h
  have hS : va_S (gq_A gk_vd ad) s.heap s.heap [] := va_S.rf
  have hl := lv_entry ([.ref (ad 0 0), .int p1]) (n := 3) (Nat.le_of_ble_eq_true rfl)
  rw [lg_entry_eq]
  generalize (lg_sl ([.ref (ad 0 0), .int p1]) ++ List.replicate (3 - (lg_sl ([.ref (ad 0 0), .int p1])).length) Slot.unset).toArray = ls at hl ⊢
  have hl : lv_has ls 3 [(0, .ref (ad 0 0)), (1, .int p1)] := hl
  unfold fn_Bk_drop at hf
  refine lv_aload_n hx hb gd_Bk_drop_0 rfl (lv_at hl 0 rfl) ?_
  refine lv_iload_n hx hb gd_Bk_drop_1 rfl (lv_at hl 1 rfl) ?_
  obtain ⟨⟨o3, u4⟩, hc2, hf⟩ := Option.bind_eq_some_iff.mp hf
  refine gq_calle (va_runV (As := [.int p1]) (rest := []) ⟨hx, hb, hml, hown, hts⟩ (ct_Bk_inBook l D cI cT ad hI u p1 (o3, u4) hc2) (cwV 1 hts (gt_V gt_147 gt_149 (gt_sel (List.mem_of_getElem? (i := 3) rfl)) gt_1 gt_150) rfl rfl rfl (by decide +kernel) ⟨Nat.le_of_ble_eq_true rfl, Nat.le_of_ble_eq_true rfl⟩) (gq_preV hH hK hN (va_recv hK (gq_one (c := 0) (k := 0) hH rfl (gk_c0 cI cT ad u)) (ci := 0) (q0 := 0) rfl rfl)) rfl rfl hl.1 rfl (lv_room (Nat.le_of_ble_eq_true rfl)) gd_Bk_drop_2 ⟨Nat.zero_le _, Nat.zero_le _⟩) hA hS (fun H locs hH hS => ?_)
  cases o3 with
  | none =>
    have hH : gq_H D gc_cl gk_vd ad (gk_pc cI cT ad u4) H := hH
    refine W.eq (g2 := F0 m 5 ls [.null]) rfl ?_
    dsimp only at hf
    refine lv_astore_nN (lv' := [(2, .null), (0, .ref (ad 0 0)), (1, .int p1)]) hx hb gd_Bk_drop_5 rfl hl (by decide) rfl (fun ls hl => ?_)
    refine lv_aload_nN hx hb gd_Bk_drop_6 rfl (lv_at hl 0 rfl) ?_
    refine lv_ifnullN (tgt := 17) hx hb gd_Bk_drop_7 (by decide) ?_
    refine lv_iconst (v := (-1)) hx hb gd_Bk_drop_17 (by decide) ?_
    cases hf
    exact W.iret hx hb hr (fun t ht hW => ⟨⟨_, _, rfl, ⟨rfl, rfl⟩, ⟨by rw [ht]; exact hH, va_K.moved hW.alike hK⟩⟩, hS.F ht⟩) hS.2.2 gd_Bk_drop_18
  | some k5 =>
    have hH : gq_H D gc_cl gk_vd ad (gk_pc cI cT ad u4) H := hH
    refine W.eq (g2 := F0 m 5 ls [.ref (ad 7 k5)]) rfl ?_
    dsimp only at hf
    refine lv_astore_n (lv' := [(2, .ref (ad 7 k5)), (0, .ref (ad 0 0)), (1, .int p1)]) hx hb gd_Bk_drop_5 rfl hl (by decide) rfl (fun ls hl => ?_)
    refine lv_aload_n hx hb gd_Bk_drop_6 rfl (lv_at hl 0 rfl) ?_
    refine lv_ifnull hx hb gd_Bk_drop_7 ?_
    refine lv_aload_n hx hb gd_Bk_drop_10 rfl (lv_at hl 0 rfl) ?_
    refine va_getN (D := D) (ci := 3) (C := gR_Tm) (T := gT_Tm) (N := 5) hx hb hts (fun w h => List.mem_cons_of_mem _ (gl_Tm w h)) hown hK (gq_one (c := 7) (k := k5) hH (ok_Bk_inBook hc2) (gk_c7 cI cT ad u4 k5)) 0 rfl rfl 3 (by decide) (va_Nw.use rfl (hN.1 _ (List.mem_of_getElem? (i := 4) rfl))) (fun _ h9 => h9) rfl gd_Bk_drop_11 ?_
    refine lv_if_ne (tgt := 19) hx hb gd_Bk_drop_14 (by decide) (fun c13 => ?_) (fun c13 => ?_)
    · replace hf := gj_e c13 hf
      refine lv_aload_n hx hb gd_Bk_drop_19 rfl (lv_at hl 0 rfl) ?_
      refine lv_dup hx hb gd_Bk_drop_20 rfl ?_
      refine va_getN (D := D) (ci := 3) (C := gR_Tm) (T := gT_Tm) (N := 5) hx hb hts (fun w h => List.mem_cons_of_mem _ (gl_Tm w h)) hown hK (gq_one (c := 7) (k := k5) hH (ok_Bk_inBook hc2) (gk_c7 cI cT ad u4 k5)) 0 rfl rfl 3 (by decide) (va_Nw.use rfl (hN.1 _ (List.mem_of_getElem? (i := 4) rfl))) (fun _ h9 => h9) rfl gd_Bk_drop_21 ?_
      refine lv_iconst (v := 1) hx hb gd_Bk_drop_24 (by decide) ?_
      refine lv_isub hx hb gd_Bk_drop_25 ?_
      refine gq_putN (D := D) (ci := 3) (C := gR_Tm) (T := gT_Tm) (N := 5) (ca := 7) (ka := k5) (pp' := gk_pc cI cT ad (gk_sI u4 3 k5 ((u4.1 3 k5) - 1))) (ty := .int) hx hb hts (fun w h => List.mem_cons_of_mem _ (gl_Tm w h)) gF_Tm gf_Tm gn_Tm hown hK hH hI hA (ok_Bk_inBook hc2) (gk_c7 cI cT ad u4 k5) rfl 3 (by decide) (va_Nw.use rfl (hN.1 _ (List.mem_of_getElem? (i := 4) rfl))) (fun _ h9 => h9) rfl (by decide +kernel) rfl rfl (Nat.le_of_ble_eq_true rfl) (gk_w3 cI cT ad u4 k5 ((u4.1 3 k5) - 1)) (gk_o3 cI cT ad u4 k5 ((u4.1 3 k5) - 1)) hS gd_Bk_drop_26 (fun H locs hH hS => ?_)
      refine lv_aload_n hx hb gd_Bk_drop_29 rfl (lv_at hl 0 rfl) ?_
      obtain ⟨z6, hc7, hf⟩ := Option.bind_eq_some_iff.mp hf
      refine gq_calli (va_runV (As := []) (rest := []) ⟨hx, hb, hml, hown, hts⟩ (ct_Tm_isNeeded l D cI cT ad hI (gk_sI u4 3 k5 ((u4.1 3 k5) - 1)) k5 (ok_Bk_inBook hc2) z6 hc7) (cwV 0 hts (gt_V gt_212 gt_213 gt_214 gt_3 gt_215) rfl rfl rfl (by decide +kernel) ⟨Nat.le_of_ble_eq_true rfl, Nat.le_of_ble_eq_true rfl⟩) (gq_preV hH hK hN (va_recv hK (gq_one (c := 7) (k := k5) hH (ok_Bk_inBook hc2) (gk_c7 cI cT ad (gk_sI u4 3 k5 ((u4.1 3 k5) - 1)) k5)) (ci := 3) (q0 := 0) rfl rfl)) rfl rfl hl.1 rfl (lv_room (Nat.le_of_ble_eq_true rfl)) gd_Bk_drop_30 ⟨Nat.zero_le _, Nat.zero_le _⟩) hA hS (fun H locs hH hS => ?_)
      refine lv_if_ne (tgt := 49) hx hb gd_Bk_drop_33 (by decide) (fun c12 => ?_) (fun c12 => ?_)
      · replace hf := gj_e c12 hf
        refine lv_aload_n hx hb gd_Bk_drop_49 rfl (lv_at hl 0 rfl) ?_
        refine va_getN (D := D) (ci := 3) (C := gR_Tm) (T := gT_Tm) (N := 5) hx hb hts (fun w h => List.mem_cons_of_mem _ (gl_Tm w h)) hown hK (gq_one (c := 7) (k := k5) hH (ok_Bk_inBook hc2) (gk_c7 cI cT ad z6.2 k5)) 0 rfl rfl 3 (by decide) (va_Nw.use rfl (hN.1 _ (List.mem_of_getElem? (i := 4) rfl))) (fun _ h9 => h9) rfl gd_Bk_drop_50 ?_
        cases hf
        exact W.iret hx hb hr (fun t ht hW => ⟨⟨_, _, rfl, ⟨rfl, rfl⟩, ⟨by rw [ht]; exact hH, va_K.moved hW.alike hK⟩⟩, hS.F ht⟩) hS.2.2 gd_Bk_drop_53
      · replace hf := gj_t c12 hf
        refine lv_aload_n hx hb gd_Bk_drop_36 rfl (lv_at hl 1 rfl) ?_
        refine lv_aload_n hx hb gd_Bk_drop_37 rfl (lv_at hl 0 rfl) ?_
        refine lv_aload_n hx hb gd_Bk_drop_38 rfl (lv_at hl 1 rfl) ?_
        refine va_get (D := D) (ci := 0) (C := gR_Bk) (T := gT_Bk) (N := 5) hx hb hts (fun w h => List.mem_cons_of_mem _ (gl_Bk w h)) hown hK (gq_one (c := 0) (k := 0) hH rfl (gk_c0 cI cT ad z6.2)) 0 rfl rfl 2 (by decide) (ht _ gt_87) (fun _ h9 => h9) rfl gd_Bk_drop_39 ?_
        refine lv_iload_n hx hb gd_Bk_drop_42 rfl (lv_at hl 2 rfl) ?_
        obtain ⟨z8, hc9, hf⟩ := Option.bind_eq_some_iff.mp hf
        refine gq_calli (va_runV (As := [.int p1]) (rest := [.ref (ad 7 k5), .ref (ad 0 0)]) ⟨hx, hb, hml, hown, hts⟩ (ct_Lv_placeOf l D cI cT ad hI z6.2 p1 z8 hc9) (cwV 1 hts (gt_V gt_216 gt_217 gt_218 gt_4 gt_219) rfl rfl rfl (by decide +kernel) ⟨Nat.le_of_ble_eq_true rfl, Nat.le_of_ble_eq_true rfl⟩) (gq_preV hH hK hN (va_recv hK (gq_one (c := 2) (k := 0) hH rfl (gk_c2 cI cT ad z6.2)) (ci := 1) (q0 := 0) rfl rfl)) rfl rfl hl.1 rfl (lv_room (Nat.le_of_ble_eq_true rfl)) gd_Bk_drop_43 ⟨Nat.zero_le _, Nat.zero_le _⟩) hA hS (fun H locs hH hS => ?_)
        obtain ⟨z10, hc11, hf⟩ := Option.bind_eq_some_iff.mp hf
        refine gq_callv (va_runV (As := [.ref (ad 7 k5), .int z8.1]) (rest := []) ⟨hx, hb, hml, hown, hts⟩ (ct_Bk_takeOut l D cI cT ad hI z8.2 k5 (ok_Bk_inBook hc2) z8.1 z10 hc11) (cwV 2 hts (gt_V gt_221 gt_223 (gt_sel (List.mem_of_getElem? (i := 10) rfl)) gt_1 gt_224) rfl rfl rfl (by decide +kernel) ⟨Nat.le_of_ble_eq_true rfl, Nat.le_of_ble_eq_true rfl⟩) (gq_preV hH hK hN (va_recv hK (gq_one (c := 0) (k := 0) hH rfl (gk_c0 cI cT ad z8.2)) (ci := 0) (q0 := 0) rfl rfl)) rfl rfl hl.1 rfl (lv_room (Nat.le_of_ble_eq_true rfl)) gd_Bk_drop_46 ⟨Nat.zero_le _, Nat.zero_le _⟩) hA hS (fun H locs hH hS => ?_)
        refine lv_aload_n hx hb gd_Bk_drop_49 rfl (lv_at hl 0 rfl) ?_
        refine va_getN (D := D) (ci := 3) (C := gR_Tm) (T := gT_Tm) (N := 5) hx hb hts (fun w h => List.mem_cons_of_mem _ (gl_Tm w h)) hown hK (gq_one (c := 7) (k := k5) hH (ok_Bk_inBook hc2) (gk_c7 cI cT ad z10 k5)) 0 rfl rfl 3 (by decide) (va_Nw.use rfl (hN.1 _ (List.mem_of_getElem? (i := 4) rfl))) (fun _ h9 => h9) rfl gd_Bk_drop_50 ?_
        cases hf
        exact W.iret hx hb hr (fun t ht hW => ⟨⟨_, _, rfl, ⟨rfl, rfl⟩, ⟨by rw [ht]; exact hH, va_K.moved hW.alike hK⟩⟩, hS.F ht⟩) hS.2.2 gd_Bk_drop_53
    · replace hf := gj_t c13 hf
      refine lv_iconst (v := (-1)) hx hb gd_Bk_drop_17 (by decide) ?_
      cases hf
      exact W.iret hx hb hr (fun t ht hW => ⟨⟨_, _, rfl, ⟨rfl, rfl⟩, ⟨by rw [ht]; exact hH, va_K.moved hW.alike hK⟩⟩, hS.F ht⟩) hS.2.2 gd_Bk_drop_18
set_option maxHeartbeats 4000000 in
set_option maxRecDepth 100000 in
theorem ct_Bk_find (l : Launch) (D : va_G) (cI cT : ClassId) (ad : Nat → Nat → Nat) (hI : gq_I gk_vd ad) (u : gk_St) (p1 : Int32) (z : Int32 × gk_St) (hf : fn_Bk_find p1 u = some z) : Met l gy_Bk_find gws_Bk_find ({ frames := 5, cells := 0, slots := 0, locals := 111 }) (va_Pc [.ref (ad 0 0), .int p1] (gq_pre D gc_cl (gk_tys cI cT) gk_vd ad gk_NF gk_NM (gk_pc cI cT ad u))) (va_Qi (fun r u2 => r = z.1 ∧ u2 = z.2) (fun u2 t => gq_B D gc_cl (gk_tys cI cT) gk_vd ad (gk_pc cI cT ad u2) t) (gq_A gk_vd ad)) 0 0 (gq_A gk_vd ad) := by
  refine Met.ofW (cc := gb_Bk_find) (maxL := 3) (ret := (some .int)) (by decide) rfl ?_
  intro p e s m args below meth c s₁ B hml hv
  obtain ⟨rfl, hH, hK, hN⟩ := hv
  have hx := B.exec
  have hb := B.bytes
  have hr := B.returns
  have hts := atoms_spec (ws := gws_Bk_find) B.pre
  have ht := fun (w : Cond) (h : w ∈ gt_T) => hts w (List.mem_cons_of_mem _ h)
  have hown : s.vm.findClass gR_Bk = some m.cls := findClass_of_methodNamed B.named
  have hlocks := B.notSynchronized
  have hA : ∀ q, (gq_A gk_vd ad) q → (gq_A gk_vd ad) q := fun _ h => h
  have hS : va_S (gq_A gk_vd ad) s.heap s.heap [] := va_S.rf
  have hl := lv_entry ([.ref (ad 0 0), .int p1]) (n := 3) (Nat.le_of_ble_eq_true rfl)
  rw [lg_entry_eq]
  generalize (lg_sl ([.ref (ad 0 0), .int p1]) ++ List.replicate (3 - (lg_sl ([.ref (ad 0 0), .int p1])).length) Slot.unset).toArray = ls at hl ⊢
  have hl : lv_has ls 3 [(0, .ref (ad 0 0)), (1, .int p1)] := hl
  unfold fn_Bk_find at hf
  refine lv_iload_n hx hb gd_Bk_find_0 rfl (lv_at hl 1 rfl) ?_
  obtain ⟨z1, hc2, hf⟩ := Option.bind_eq_some_iff.mp hf
  refine gq_calli (va_runS (As := [.int p1]) (rest := []) ⟨hx, hb, hml, hown, hts⟩ (ct_Bk_isKind l D cI cT ad hI u p1 z1 hc2) (va_cwS 1 hts (gt_S gt_128 gt_129 gt_1 gt_130) rfl rfl rfl (by decide +kernel) ⟨Nat.le_of_ble_eq_true rfl, Nat.le_of_ble_eq_true rfl⟩) (gq_preS hH hK hN) rfl rfl hl.1 rfl (lv_room (Nat.le_of_ble_eq_true rfl)) gd_Bk_find_1 ⟨Nat.zero_le _, Nat.zero_le _⟩) hA hS (fun H locs hH hS => ?_)
  refine lv_if_ne (tgt := 9) hx hb gd_Bk_find_4 (by decide) (fun c10 => ?_) (fun c10 => ?_)
  · replace hf := gj_e c10 hf
    refine lv_aload_n hx hb gd_Bk_find_9 rfl (lv_at hl 0 rfl) ?_
    refine va_get (D := D) (ci := 0) (C := gR_Bk) (T := gT_Bk) (N := 5) hx hb hts (fun w h => List.mem_cons_of_mem _ (gl_Bk w h)) hown hK (gq_one (c := 0) (k := 0) hH rfl (gk_c0 cI cT ad z1.2)) 0 rfl rfl 2 (by decide) (ht _ gt_87) (fun _ h9 => h9) rfl gd_Bk_find_10 ?_
    refine lv_aload_n hx hb gd_Bk_find_13 rfl (lv_at hl 0 rfl) ?_
    refine lv_iload_n hx hb gd_Bk_find_14 rfl (lv_at hl 1 rfl) ?_
    obtain ⟨z3, hc4, hf⟩ := Option.bind_eq_some_iff.mp hf
    refine gq_calli (va_runV (As := [.int p1]) (rest := [.ref (ad 2 0)]) ⟨hx, hb, hml, hown, hts⟩ (ct_Bk_placeOfTape l D cI cT ad hI z1.2 p1 z3 hc4) (cwV 1 hts (gt_V gt_135 gt_137 (gt_sel (List.mem_of_getElem? (i := 1) rfl)) gt_1 gt_138) rfl rfl rfl (by decide +kernel) ⟨Nat.le_of_ble_eq_true rfl, Nat.le_of_ble_eq_true rfl⟩) (gq_preV hH hK hN (va_recv hK (gq_one (c := 0) (k := 0) hH rfl (gk_c0 cI cT ad z1.2)) (ci := 0) (q0 := 0) rfl rfl)) rfl rfl hl.1 rfl (lv_room (Nat.le_of_ble_eq_true rfl)) gd_Bk_find_15 ⟨Nat.zero_le _, Nat.zero_le _⟩) hA hS (fun H locs hH hS => ?_)
    obtain ⟨z5, hc6, hf⟩ := Option.bind_eq_some_iff.mp hf
    refine gq_calli (va_runV (As := [.int z3.1]) (rest := []) ⟨hx, hb, hml, hown, hts⟩ (ct_Lv_numberAt l D cI cT ad hI z3.2 z3.1 z5 hc6) (cwV 1 hts (gt_V gt_139 gt_140 gt_141 gt_4 gt_142) rfl rfl rfl (by decide +kernel) ⟨Nat.le_of_ble_eq_true rfl, Nat.le_of_ble_eq_true rfl⟩) (gq_preV hH hK hN (va_recv hK (gq_one (c := 2) (k := 0) hH rfl (gk_c2 cI cT ad z3.2)) (ci := 1) (q0 := 0) rfl rfl)) rfl rfl hl.1 rfl (lv_room (Nat.le_of_ble_eq_true rfl)) gd_Bk_find_18 ⟨Nat.zero_le _, Nat.zero_le _⟩) hA hS (fun H locs hH hS => ?_)
    refine lv_istore_n (lv' := [(2, .int z5.1), (0, .ref (ad 0 0)), (1, .int p1)]) hx hb gd_Bk_find_21 rfl hl (by decide) rfl (fun ls hl => ?_)
    refine lv_aload_n hx hb gd_Bk_find_22 rfl (lv_at hl 1 rfl) ?_
    refine lv_iload_n hx hb gd_Bk_find_23 rfl (lv_at hl 0 rfl) ?_
    refine lv_iload_n hx hb gd_Bk_find_24 rfl (lv_at hl 2 rfl) ?_
    obtain ⟨z7, hc8, hf⟩ := Option.bind_eq_some_iff.mp hf
    refine gq_calli (va_runV (As := [.int z5.1, .int p1]) (rest := []) ⟨hx, hb, hml, hown, hts⟩ (ct_Bk_isTape l D cI cT ad hI z5.2 z5.1 p1 z7 hc8) (cwV 2 hts (gt_V gt_165 gt_167 (gt_sel (List.mem_of_getElem? (i := 4) rfl)) gt_1 gt_168) rfl rfl rfl (by decide +kernel) ⟨Nat.le_of_ble_eq_true rfl, Nat.le_of_ble_eq_true rfl⟩) (gq_preV hH hK hN (va_recv hK (gq_one (c := 0) (k := 0) hH rfl (gk_c0 cI cT ad z5.2)) (ci := 0) (q0 := 0) rfl rfl)) rfl rfl hl.1 rfl (lv_room (Nat.le_of_ble_eq_true rfl)) gd_Bk_find_25 ⟨Nat.zero_le _, Nat.zero_le _⟩) hA hS (fun H locs hH hS => ?_)
    refine lv_if_eq (tgt := 35) hx hb gd_Bk_find_28 (by decide) (fun c9 => ?_) (fun c9 => ?_)
    · replace hf := gj_t c9 hf
      refine lv_bipush (v := (-2)) hx hb gd_Bk_find_35 (by decide) ?_
      cases hf
      exact W.iret hx hb hr (fun t ht hW => ⟨⟨_, _, rfl, ⟨rfl, rfl⟩, ⟨by rw [ht]; exact hH, va_K.moved hW.alike hK⟩⟩, hS.F ht⟩) hS.2.2 gd_Bk_find_37
    · replace hf := gj_e c9 hf
      refine lv_iload_n hx hb gd_Bk_find_31 rfl (lv_at hl 0 rfl) ?_
      refine lv_goto (tgt := 37) hx hb gd_Bk_find_32 (by decide) ?_
      cases hf
      exact W.iret hx hb hr (fun t ht hW => ⟨⟨_, _, rfl, ⟨rfl, rfl⟩, ⟨by rw [ht]; exact hH, va_K.moved hW.alike hK⟩⟩, hS.F ht⟩) hS.2.2 gd_Bk_find_37
  · replace hf := gj_t c10 hf
    refine lv_iconst (v := (-1)) hx hb gd_Bk_find_7 (by decide) ?_
    cases hf
    exact W.iret hx hb hr (fun t ht hW => ⟨⟨_, _, rfl, ⟨rfl, rfl⟩, ⟨by rw [ht]; exact hH, va_K.moved hW.alike hK⟩⟩, hS.F ht⟩) hS.2.2 gd_Bk_find_8
set_option maxHeartbeats 4000000 in
set_option maxRecDepth 100000 in
theorem ct_Tx_byteAt (l : Launch) (D : va_G) (cI cT : ClassId) (ad : Nat → Nat → Nat) (hI : gq_I gk_vd ad) (u : gk_St) (k : Nat) (hk : k ≤ 100) (p1 : Int32) (z : Int32 × gk_St) (hf : fn_Tx_byteAt k p1 u = some z) : Met l gy_Tx_byteAt gws_Tx_byteAt ({ frames := 1, cells := 0, slots := 0, locals := 22 }) (va_Pc [.ref (ad 6 k), .int p1] (gq_pre D gc_cl (gk_tys cI cT) gk_vd ad gk_NF gk_NM (gk_pc cI cT ad u))) (va_Qi (fun r u2 => r = z.1 ∧ u2 = z.2) (fun u2 t => gq_B D gc_cl (gk_tys cI cT) gk_vd ad (gk_pc cI cT ad u2) t) (gq_A gk_vd ad)) 0 0 (gq_A gk_vd ad) := by
  refine Met.ofW (cc := gb_Tx_byteAt) (maxL := 2) (ret := (some .int)) (by decide) rfl ?_
  intro p e s m args below meth c s₁ B hml hv
  obtain ⟨rfl, hH, hK, hN⟩ := hv
  have hx := B.exec
  have hb := B.bytes
  have hr := B.returns
  have hts := atoms_spec (ws := gws_Tx_byteAt) B.pre
  have ht := fun (w : Cond) (h : w ∈ gt_T) => hts w (List.mem_cons_of_mem _ h)
  have hown : s.vm.findClass gR_Tx = some m.cls := findClass_of_methodNamed B.named
  have hlocks := B.notSynchronized
  have hA : ∀ q, (gq_A gk_vd ad) q → (gq_A gk_vd ad) q := fun _ h => h
  have hS : va_S (gq_A gk_vd ad) s.heap s.heap [] := va_S.rf
  have hl := lv_entry ([.ref (ad 6 k), .int p1]) (n := 2) (Nat.le_of_ble_eq_true rfl)
  rw [lg_entry_eq]
  generalize (lg_sl ([.ref (ad 6 k), .int p1]) ++ List.replicate (2 - (lg_sl ([.ref (ad 6 k), .int p1])).length) Slot.unset).toArray = ls at hl ⊢
  have hl : lv_has ls 2 [(0, .ref (ad 6 k)), (1, .int p1)] := hl
  unfold fn_Tx_byteAt at hf
  refine lv_iload_n hx hb gd_Tx_byteAt_0 rfl (lv_at hl 1 rfl) ?_
  refine lv_bipush (v := 8) hx hb gd_Tx_byteAt_1 (by decide) ?_
  refine lv_icmp_ge (tgt := 20) hx hb gd_Tx_byteAt_3 (by decide) (fun c5 => ?_) (fun c5 => ?_)
  · replace hf := gj_t c5 hf
    refine lv_aload_n hx hb gd_Tx_byteAt_20 rfl (lv_at hl 0 rfl) ?_
    refine va_get (D := D) (ci := 2) (C := gR_Tx) (T := gT_Tx) (N := 3) hx hb hts (fun w h => List.mem_cons_of_mem _ (gl_Tx w h)) hown hK (gq_one (c := 6) (k := k) hH hk (gk_c6 cI cT ad u k)) 0 rfl rfl 1 (by decide) (ht _ gt_24) (fun _ h9 => h9) rfl gd_Tx_byteAt_21 ?_
    refine lv_bipush (v := 15) hx hb gd_Tx_byteAt_24 (by decide) ?_
    refine lv_iload_n hx hb gd_Tx_byteAt_26 rfl (lv_at hl 1 rfl) ?_
    refine lv_isub hx hb gd_Tx_byteAt_27 ?_
    obtain ⟨z1, hc2, hf⟩ := Option.bind_eq_some_iff.mp hf
    refine gq_calli (va_runSN (As := [.long (u.2 1 k), .int (15 - p1)]) (rest := []) ⟨hx, hb, hml, hown, hts⟩ (ct_Bk_byteOf l D cI cT ad hI u (u.2 1 k) (15 - p1) z1 hc2) ⟨va_cnB 2 hts (gt_good gt_110) rfl rfl rfl (hN.2 _ (List.mem_of_getElem? (i := 2) rfl)) (ht _ gt_1) (by decide +kernel) ⟨Nat.le_of_ble_eq_true rfl, Nat.le_of_ble_eq_true rfl⟩, ht _ gt_109, trivial⟩ (gq_preS hH hK hN) rfl rfl hl.1 rfl (lv_room (Nat.le_of_ble_eq_true rfl)) gd_Tx_byteAt_28 ⟨Nat.zero_le _, Nat.zero_le _⟩) hA hS (fun H locs hH hS => ?_)
    cases hf
    exact W.iret hx hb hr (fun t ht hW => ⟨⟨_, _, rfl, ⟨rfl, rfl⟩, ⟨by rw [ht]; exact hH, va_K.moved hW.alike hK⟩⟩, hS.F ht⟩) hS.2.2 gd_Tx_byteAt_31
  · replace hf := gj_e c5 hf
    refine lv_aload_n hx hb gd_Tx_byteAt_6 rfl (lv_at hl 0 rfl) ?_
    refine va_get (D := D) (ci := 2) (C := gR_Tx) (T := gT_Tx) (N := 3) hx hb hts (fun w h => List.mem_cons_of_mem _ (gl_Tx w h)) hown hK (gq_one (c := 6) (k := k) hH hk (gk_c6 cI cT ad u k)) 0 rfl rfl 0 (by decide) (ht _ gt_23) (fun _ h9 => h9) rfl gd_Tx_byteAt_7 ?_
    refine lv_bipush (v := 7) hx hb gd_Tx_byteAt_10 (by decide) ?_
    refine lv_iload_n hx hb gd_Tx_byteAt_12 rfl (lv_at hl 1 rfl) ?_
    refine lv_isub hx hb gd_Tx_byteAt_13 ?_
    obtain ⟨z3, hc4, hf⟩ := Option.bind_eq_some_iff.mp hf
    refine gq_calli (va_runSN (As := [.long (u.2 0 k), .int (7 - p1)]) (rest := []) ⟨hx, hb, hml, hown, hts⟩ (ct_Bk_byteOf l D cI cT ad hI u (u.2 0 k) (7 - p1) z3 hc4) ⟨va_cnB 2 hts (gt_good gt_110) rfl rfl rfl (hN.2 _ (List.mem_of_getElem? (i := 2) rfl)) (ht _ gt_1) (by decide +kernel) ⟨Nat.le_of_ble_eq_true rfl, Nat.le_of_ble_eq_true rfl⟩, ht _ gt_109, trivial⟩ (gq_preS hH hK hN) rfl rfl hl.1 rfl (lv_room (Nat.le_of_ble_eq_true rfl)) gd_Tx_byteAt_14 ⟨Nat.zero_le _, Nat.zero_le _⟩) hA hS (fun H locs hH hS => ?_)
    refine lv_goto (tgt := 31) hx hb gd_Tx_byteAt_17 (by decide) ?_
    cases hf
    exact W.iret hx hb hr (fun t ht hW => ⟨⟨_, _, rfl, ⟨rfl, rfl⟩, ⟨by rw [ht]; exact hH, va_K.moved hW.alike hK⟩⟩, hS.F ht⟩) hS.2.2 gd_Tx_byteAt_31
set_option maxHeartbeats 4000000 in
set_option maxRecDepth 100000 in
theorem ct_Bk_term (l : Launch) (D : va_G) (cI cT : ClassId) (ad : Nat → Nat → Nat) (hI : gq_I gk_vd ad) (u : gk_St) (p1 : Int32) (p2 : Int32) (z : Int32 × gk_St) (hf : fn_Bk_term p1 p2 u = some z) : Met l gy_Bk_term gws_Bk_term ({ frames := 2, cells := 0, slots := 0, locals := 43 }) (va_Pc [.ref (ad 0 0), .int p1, .int p2] (gq_pre D gc_cl (gk_tys cI cT) gk_vd ad gk_NF gk_NM (gk_pc cI cT ad u))) (va_Qi (fun r u2 => r = z.1 ∧ u2 = z.2) (fun u2 t => gq_B D gc_cl (gk_tys cI cT) gk_vd ad (gk_pc cI cT ad u2) t) (gq_A gk_vd ad)) 0 0 (gq_A gk_vd ad) := by
  refine Met.ofW (cc := gb_Bk_term) (maxL := 4) (ret := (some .int)) (by decide) rfl ?_
  intro p e s m args below meth c s₁ B hml hv
  obtain ⟨rfl, hH, hK, hN⟩ := hv
  have hx := B.exec
  have hb := B.bytes
  have hr := B.returns
  have hts := atoms_spec (ws := gws_Bk_term) B.pre
  have ht := fun (w : Cond) (h : w ∈ gt_T) => hts w (List.mem_cons_of_mem _ h)
  have hown : s.vm.findClass gR_Bk = some m.cls := findClass_of_methodNamed B.named
  have hlocks := B.notSynchronized
  have hA : ∀ q, (gq_A gk_vd ad) q → (gq_A gk_vd ad) q := fun _ h => h
  have hS : va_S (gq_A gk_vd ad) s.heap s.heap [] := va_S.rf
  have hl := lv_entry ([.ref (ad 0 0), .int p1, .int p2]) (n := 4) (Nat.le_of_ble_eq_true rfl)
  rw [lg_entry_eq]
  generalize (lg_sl ([.ref (ad 0 0), .int p1, .int p2]) ++ List.replicate (4 - (lg_sl ([.ref (ad 0 0), .int p1, .int p2])).length) Slot.unset).toArray = ls at hl ⊢
  have hl : lv_has ls 4 [(0, .ref (ad 0 0)), (1, .int p1), (2, .int p2)] := hl
  unfold fn_Bk_term at hf
  refine lv_aload_n hx hb gd_Bk_term_0 rfl (lv_at hl 0 rfl) ?_
  refine lv_iload_n hx hb gd_Bk_term_1 rfl (lv_at hl 1 rfl) ?_
  obtain ⟨⟨o3, u4⟩, hc2, hf⟩ := Option.bind_eq_some_iff.mp hf
  refine gq_calle (va_runV (As := [.int p1]) (rest := []) ⟨hx, hb, hml, hown, hts⟩ (ct_Bk_inBook l D cI cT ad hI u p1 (o3, u4) hc2) (cwV 1 hts (gt_V gt_147 gt_149 (gt_sel (List.mem_of_getElem? (i := 3) rfl)) gt_1 gt_150) rfl rfl rfl (by decide +kernel) ⟨Nat.le_of_ble_eq_true rfl, Nat.le_of_ble_eq_true rfl⟩) (gq_preV hH hK hN (va_recv hK (gq_one (c := 0) (k := 0) hH rfl (gk_c0 cI cT ad u)) (ci := 0) (q0 := 0) rfl rfl)) rfl rfl hl.1 rfl (lv_room (Nat.le_of_ble_eq_true rfl)) gd_Bk_term_2 ⟨Nat.zero_le _, Nat.zero_le _⟩) hA hS (fun H locs hH hS => ?_)
  cases o3 with
  | none =>
    have hH : gq_H D gc_cl gk_vd ad (gk_pc cI cT ad u4) H := hH
    refine W.eq (g2 := F0 m 5 ls [.null]) rfl ?_
    dsimp only at hf
    refine lv_astore_nN (lv' := [(3, .null), (0, .ref (ad 0 0)), (1, .int p1), (2, .int p2)]) hx hb gd_Bk_term_5 rfl hl (by decide) rfl (fun ls hl => ?_)
    refine lv_aload_nN hx hb gd_Bk_term_6 rfl (lv_at hl 0 rfl) ?_
    refine lv_ifnullN (tgt := 14) hx hb gd_Bk_term_7 (by decide) ?_
    refine lv_iconst (v := (-1)) hx hb gd_Bk_term_14 (by decide) ?_
    cases hf
    exact W.iret hx hb hr (fun t ht hW => ⟨⟨_, _, rfl, ⟨rfl, rfl⟩, ⟨by rw [ht]; exact hH, va_K.moved hW.alike hK⟩⟩, hS.F ht⟩) hS.2.2 gd_Bk_term_15
  | some k5 =>
    have hH : gq_H D gc_cl gk_vd ad (gk_pc cI cT ad u4) H := hH
    refine W.eq (g2 := F0 m 5 ls [.ref (ad 7 k5)]) rfl ?_
    dsimp only at hf
    refine lv_astore_n (lv' := [(3, .ref (ad 7 k5)), (0, .ref (ad 0 0)), (1, .int p1), (2, .int p2)]) hx hb gd_Bk_term_5 rfl hl (by decide) rfl (fun ls hl => ?_)
    refine lv_aload_n hx hb gd_Bk_term_6 rfl (lv_at hl 0 rfl) ?_
    refine lv_ifnull hx hb gd_Bk_term_7 ?_
    refine lv_iload_n hx hb gd_Bk_term_10 rfl (lv_at hl 3 rfl) ?_
    refine lv_if_ge (tgt := 16) hx hb gd_Bk_term_11 (by decide) (fun c12 => ?_) (fun c12 => ?_)
    · replace hf := gj_t c12 hf
      refine lv_iload_n hx hb gd_Bk_term_16 rfl (lv_at hl 3 rfl) ?_
      by_cases c6 : p2 = 0
      · replace hf := gj_t c6 hf
        refine gj_tab (tgt := 44) (k := 0) hx hb c6 gd_Bk_term_17 (by decide) (by decide) rfl (by decide) ?_
        refine lv_aload_n hx hb gd_Bk_term_44 rfl (lv_at hl 0 rfl) ?_
        refine va_getN (D := D) (ci := 3) (C := gR_Tm) (T := gT_Tm) (N := 5) hx hb hts (fun w h => List.mem_cons_of_mem _ (gl_Tm w h)) hown hK (gq_one (c := 7) (k := k5) hH (ok_Bk_inBook hc2) (gk_c7 cI cT ad u4 k5)) 0 rfl rfl 2 (by decide) (va_Nw.use rfl (hN.1 _ (List.mem_of_getElem? (i := 3) rfl))) (fun _ h9 => h9) rfl gd_Bk_term_45 ?_
        cases hf
        exact W.iret hx hb hr (fun t ht hW => ⟨⟨_, _, rfl, ⟨rfl, rfl⟩, ⟨by rw [ht]; exact hH, va_K.moved hW.alike hK⟩⟩, hS.F ht⟩) hS.2.2 gd_Bk_term_48
      replace hf := gj_e c6 hf
      by_cases c7 : p2 = 1
      · replace hf := gj_t c7 hf
        refine gj_tab (tgt := 49) (k := 1) hx hb c7 gd_Bk_term_17 (by decide) (by decide) rfl (by decide) ?_
        refine lv_aload_n hx hb gd_Bk_term_49 rfl (lv_at hl 0 rfl) ?_
        refine va_getN (D := D) (ci := 3) (C := gR_Tm) (T := gT_Tm) (N := 5) hx hb hts (fun w h => List.mem_cons_of_mem _ (gl_Tm w h)) hown hK (gq_one (c := 7) (k := k5) hH (ok_Bk_inBook hc2) (gk_c7 cI cT ad u4 k5)) 0 rfl rfl 3 (by decide) (va_Nw.use rfl (hN.1 _ (List.mem_of_getElem? (i := 4) rfl))) (fun _ h9 => h9) rfl gd_Bk_term_50 ?_
        cases hf
        exact W.iret hx hb hr (fun t ht hW => ⟨⟨_, _, rfl, ⟨rfl, rfl⟩, ⟨by rw [ht]; exact hH, va_K.moved hW.alike hK⟩⟩, hS.F ht⟩) hS.2.2 gd_Bk_term_53
      replace hf := gj_e c7 hf
      by_cases c8 : p2 = 2
      · replace hf := gj_t c8 hf
        refine gj_tab (tgt := 54) (k := 2) hx hb c8 gd_Bk_term_17 (by decide) (by decide) rfl (by decide) ?_
        refine lv_aload_n hx hb gd_Bk_term_54 rfl (lv_at hl 0 rfl) ?_
        refine va_getN (D := D) (ci := 3) (C := gR_Tm) (T := gT_Tm) (N := 5) hx hb hts (fun w h => List.mem_cons_of_mem _ (gl_Tm w h)) hown hK (gq_one (c := 7) (k := k5) hH (ok_Bk_inBook hc2) (gk_c7 cI cT ad u4 k5)) 0 rfl rfl 0 (by decide) (va_Nw.use rfl (hN.1 _ (List.mem_of_getElem? (i := 1) rfl))) (fun _ h9 => h9) rfl gd_Bk_term_55 ?_
        refine va_getN (D := D) (ci := 2) (C := gR_Tx) (T := gT_Tx) (N := 3) hx hb hts (fun w h => List.mem_cons_of_mem _ (gl_Tx w h)) hown hK (gq_one (c := 6) (k := k5) hH (Nat.le_of_lt (ok_Bk_inBook hc2)) (gk_c6 cI cT ad u4 k5)) 0 rfl rfl 2 (by decide) (va_Nw.use rfl (hN.1 _ (List.mem_of_getElem? (i := 0) rfl))) (fun _ h9 => h9) rfl gd_Bk_term_58 ?_
        cases hf
        exact W.iret hx hb hr (fun t ht hW => ⟨⟨_, _, rfl, ⟨rfl, rfl⟩, ⟨by rw [ht]; exact hH, va_K.moved hW.alike hK⟩⟩, hS.F ht⟩) hS.2.2 gd_Bk_term_61
      replace hf := gj_e c8 hf
      refine lv_tableOut (tgt := 62) hx hb gd_Bk_term_17 (by have ec6 := lv_neT (a := 0) c6 rfl; have ec7 := lv_neT (a := 1) c7 rfl; have ec8 := lv_neT (a := 2) c8 rfl; omega) (by decide) ?_
      refine lv_iload_n hx hb gd_Bk_term_62 rfl (lv_at hl 3 rfl) ?_
      refine lv_iconst (v := 3) hx hb gd_Bk_term_63 (by decide) ?_
      refine lv_isub hx hb gd_Bk_term_64 ?_
      refine lv_aload_n hx hb gd_Bk_term_65 rfl (lv_at hl 0 rfl) ?_
      refine va_getN (D := D) (ci := 3) (C := gR_Tm) (T := gT_Tm) (N := 5) hx hb hts (fun w h => List.mem_cons_of_mem _ (gl_Tm w h)) hown hK (gq_one (c := 7) (k := k5) hH (ok_Bk_inBook hc2) (gk_c7 cI cT ad u4 k5)) 0 rfl rfl 0 (by decide) (va_Nw.use rfl (hN.1 _ (List.mem_of_getElem? (i := 1) rfl))) (fun _ h9 => h9) rfl gd_Bk_term_66 ?_
      refine va_getN (D := D) (ci := 2) (C := gR_Tx) (T := gT_Tx) (N := 3) hx hb hts (fun w h => List.mem_cons_of_mem _ (gl_Tx w h)) hown hK (gq_one (c := 6) (k := k5) hH (Nat.le_of_lt (ok_Bk_inBook hc2)) (gk_c6 cI cT ad u4 k5)) 0 rfl rfl 2 (by decide) (va_Nw.use rfl (hN.1 _ (List.mem_of_getElem? (i := 0) rfl))) (fun _ h9 => h9) rfl gd_Bk_term_69 ?_
      refine lv_icmp_ge (tgt := 88) hx hb gd_Bk_term_72 (by decide) (fun c11 => ?_) (fun c11 => ?_)
      · replace hf := gj_t c11 hf
        refine lv_iconst (v := (-1)) hx hb gd_Bk_term_88 (by decide) ?_
        cases hf
        exact W.iret hx hb hr (fun t ht hW => ⟨⟨_, _, rfl, ⟨rfl, rfl⟩, ⟨by rw [ht]; exact hH, va_K.moved hW.alike hK⟩⟩, hS.F ht⟩) hS.2.2 gd_Bk_term_89
      · replace hf := gj_e c11 hf
        refine lv_aload_n hx hb gd_Bk_term_75 rfl (lv_at hl 0 rfl) ?_
        refine va_getN (D := D) (ci := 3) (C := gR_Tm) (T := gT_Tm) (N := 5) hx hb hts (fun w h => List.mem_cons_of_mem _ (gl_Tm w h)) hown hK (gq_one (c := 7) (k := k5) hH (ok_Bk_inBook hc2) (gk_c7 cI cT ad u4 k5)) 0 rfl rfl 0 (by decide) (va_Nw.use rfl (hN.1 _ (List.mem_of_getElem? (i := 1) rfl))) (fun _ h9 => h9) rfl gd_Bk_term_76 ?_
        refine lv_iload_n hx hb gd_Bk_term_79 rfl (lv_at hl 3 rfl) ?_
        refine lv_iconst (v := 3) hx hb gd_Bk_term_80 (by decide) ?_
        refine lv_isub hx hb gd_Bk_term_81 ?_
        obtain ⟨z9, hc10, hf⟩ := Option.bind_eq_some_iff.mp hf
        refine gq_calli (va_runV (As := [.int (p2 - 3)]) (rest := []) ⟨hx, hb, hml, hown, hts⟩ (ct_Tx_byteAt l D cI cT ad hI u4 k5 (Nat.le_of_lt (ok_Bk_inBook hc2)) (p2 - 3) z9 hc10) (cwV 1 hts (gt_V gt_252 gt_253 gt_254 gt_2 gt_255) rfl rfl rfl (by decide +kernel) ⟨Nat.le_of_ble_eq_true rfl, Nat.le_of_ble_eq_true rfl⟩) (gq_preV hH hK hN (va_recv hK (gq_one (c := 6) (k := k5) hH (Nat.le_of_lt (ok_Bk_inBook hc2)) (gk_c6 cI cT ad u4 k5)) (ci := 2) (q0 := 0) rfl rfl)) rfl rfl hl.1 rfl (lv_room (Nat.le_of_ble_eq_true rfl)) gd_Bk_term_82 ⟨Nat.zero_le _, Nat.zero_le _⟩) hA hS (fun H locs hH hS => ?_)
        refine lv_goto (tgt := 89) hx hb gd_Bk_term_85 (by decide) ?_
        cases hf
        exact W.iret hx hb hr (fun t ht hW => ⟨⟨_, _, rfl, ⟨rfl, rfl⟩, ⟨by rw [ht]; exact hH, va_K.moved hW.alike hK⟩⟩, hS.F ht⟩) hS.2.2 gd_Bk_term_89
    · replace hf := gj_e c12 hf
      refine lv_iconst (v := (-1)) hx hb gd_Bk_term_14 (by decide) ?_
      cases hf
      exact W.iret hx hb hr (fun t ht hW => ⟨⟨_, _, rfl, ⟨rfl, rfl⟩, ⟨by rw [ht]; exact hH, va_K.moved hW.alike hK⟩⟩, hS.F ht⟩) hS.2.2 gd_Bk_term_15
set_option maxHeartbeats 4000000 in
set_option maxRecDepth 100000 in
theorem ct_Bk_at (l : Launch) (D : va_G) (cI cT : ClassId) (ad : Nat → Nat → Nat) (hI : gq_I gk_vd ad) (u : gk_St) (p1 : Int32) (z : Int32 × gk_St) (hf : fn_Bk_at p1 u = some z) : Met l gy_Bk_at gws_Bk_at ({ frames := 1, cells := 0, slots := 0, locals := 21 }) (va_Pc [.ref (ad 0 0), .int p1] (gq_pre D gc_cl (gk_tys cI cT) gk_vd ad gk_NF gk_NM (gk_pc cI cT ad u))) (va_Qi (fun r u2 => r = z.1 ∧ u2 = z.2) (fun u2 t => gq_B D gc_cl (gk_tys cI cT) gk_vd ad (gk_pc cI cT ad u2) t) (gq_A gk_vd ad)) 0 0 (gq_A gk_vd ad) := by
  refine Met.ofW (cc := gb_Bk_at) (maxL := 3) (ret := (some .int)) (by decide) rfl ?_
  intro p e s m args below meth c s₁ B hml hv
  obtain ⟨rfl, hH, hK, hN⟩ := hv
  have hx := B.exec
  have hb := B.bytes
  have hr := B.returns
  have hts := atoms_spec (ws := gws_Bk_at) B.pre
  have ht := fun (w : Cond) (h : w ∈ gt_T) => hts w (List.mem_cons_of_mem _ h)
  have hown : s.vm.findClass gR_Bk = some m.cls := findClass_of_methodNamed B.named
  have hlocks := B.notSynchronized
  have hA : ∀ q, (gq_A gk_vd ad) q → (gq_A gk_vd ad) q := fun _ h => h
  have hS : va_S (gq_A gk_vd ad) s.heap s.heap [] := va_S.rf
  have hl := lv_entry ([.ref (ad 0 0), .int p1]) (n := 3) (Nat.le_of_ble_eq_true rfl)
  rw [lg_entry_eq]
  generalize (lg_sl ([.ref (ad 0 0), .int p1]) ++ List.replicate (3 - (lg_sl ([.ref (ad 0 0), .int p1])).length) Slot.unset).toArray = ls at hl ⊢
  have hl : lv_has ls 3 [(0, .ref (ad 0 0)), (1, .int p1)] := hl
  unfold fn_Bk_at at hf
  refine lv_aload_n hx hb gd_Bk_at_0 rfl (lv_at hl 0 rfl) ?_
  refine va_get (D := D) (ci := 0) (C := gR_Bk) (T := gT_Bk) (N := 5) hx hb hts (fun w h => List.mem_cons_of_mem _ (gl_Bk w h)) hown hK (gq_one (c := 0) (k := 0) hH rfl (gk_c0 cI cT ad u)) 0 rfl rfl 2 (by decide) (ht _ gt_87) (fun _ h9 => h9) rfl gd_Bk_at_1 ?_
  refine lv_iload_n hx hb gd_Bk_at_4 rfl (lv_at hl 1 rfl) ?_
  obtain ⟨z1, hc2, hf⟩ := Option.bind_eq_some_iff.mp hf
  refine gq_calli (va_runV (As := [.int p1]) (rest := []) ⟨hx, hb, hml, hown, hts⟩ (ct_Lv_numberAt l D cI cT ad hI u p1 z1 hc2) (cwV 1 hts (gt_V gt_139 gt_140 gt_141 gt_4 gt_142) rfl rfl rfl (by decide +kernel) ⟨Nat.le_of_ble_eq_true rfl, Nat.le_of_ble_eq_true rfl⟩) (gq_preV hH hK hN (va_recv hK (gq_one (c := 2) (k := 0) hH rfl (gk_c2 cI cT ad u)) (ci := 1) (q0 := 0) rfl rfl)) rfl rfl hl.1 rfl (lv_room (Nat.le_of_ble_eq_true rfl)) gd_Bk_at_5 ⟨Nat.zero_le _, Nat.zero_le _⟩) hA hS (fun H locs hH hS => ?_)
  refine lv_istore_n (lv' := [(2, .int z1.1), (0, .ref (ad 0 0)), (1, .int p1)]) hx hb gd_Bk_at_8 rfl hl (by decide) rfl (fun ls hl => ?_)
  refine lv_iload_n hx hb gd_Bk_at_9 rfl (lv_at hl 0 rfl) ?_
  refine lv_iconst (v := (-1)) hx hb gd_Bk_at_10 (by decide) ?_
  refine lv_icmp_ne (tgt := 19) hx hb gd_Bk_at_11 (by decide) (fun c3 => ?_) (fun c3 => ?_)
  · replace hf := gj_e c3 hf
    refine lv_iload_n hx hb gd_Bk_at_19 rfl (lv_at hl 0 rfl) ?_
    cases hf
    exact W.iret hx hb hr (fun t ht hW => ⟨⟨_, _, rfl, ⟨rfl, rfl⟩, ⟨by rw [ht]; exact hH, va_K.moved hW.alike hK⟩⟩, hS.F ht⟩) hS.2.2 gd_Bk_at_20
  · replace hf := gj_t c3 hf
    refine lv_bipush (v := (-2)) hx hb gd_Bk_at_14 (by decide) ?_
    refine lv_goto (tgt := 20) hx hb gd_Bk_at_16 (by decide) ?_
    cases hf
    exact W.iret hx hb hr (fun t ht hW => ⟨⟨_, _, rfl, ⟨rfl, rfl⟩, ⟨by rw [ht]; exact hH, va_K.moved hW.alike hK⟩⟩, hS.F ht⟩) hS.2.2 gd_Bk_at_20
set_option maxHeartbeats 4000000 in
set_option maxRecDepth 100000 in
theorem ct_Bk_place (l : Launch) (D : va_G) (cI cT : ClassId) (ad : Nat → Nat → Nat) (hI : gq_I gk_vd ad) (u : gk_St) (p1 : Int32) (z : Int32 × gk_St) (hf : fn_Bk_place p1 u = some z) : Met l gy_Bk_place gws_Bk_place ({ frames := 2, cells := 0, slots := 0, locals := 43 }) (va_Pc [.ref (ad 0 0), .int p1] (gq_pre D gc_cl (gk_tys cI cT) gk_vd ad gk_NF gk_NM (gk_pc cI cT ad u))) (va_Qi (fun r u2 => r = z.1 ∧ u2 = z.2) (fun u2 t => gq_B D gc_cl (gk_tys cI cT) gk_vd ad (gk_pc cI cT ad u2) t) (gq_A gk_vd ad)) 0 0 (gq_A gk_vd ad) := by
  refine Met.ofW (cc := gb_Bk_place) (maxL := 2) (ret := (some .int)) (by decide) rfl ?_
  intro p e s m args below meth c s₁ B hml hv
  obtain ⟨rfl, hH, hK, hN⟩ := hv
  have hx := B.exec
  have hb := B.bytes
  have hr := B.returns
  have hts := atoms_spec (ws := gws_Bk_place) B.pre
  have ht := fun (w : Cond) (h : w ∈ gt_T) => hts w (List.mem_cons_of_mem _ h)
  have hown : s.vm.findClass gR_Bk = some m.cls := findClass_of_methodNamed B.named
  have hlocks := B.notSynchronized
  have hA : ∀ q, (gq_A gk_vd ad) q → (gq_A gk_vd ad) q := fun _ h => h
  have hS : va_S (gq_A gk_vd ad) s.heap s.heap [] := va_S.rf
  have hl := lv_entry ([.ref (ad 0 0), .int p1]) (n := 2) (Nat.le_of_ble_eq_true rfl)
  rw [lg_entry_eq]
  generalize (lg_sl ([.ref (ad 0 0), .int p1]) ++ List.replicate (2 - (lg_sl ([.ref (ad 0 0), .int p1])).length) Slot.unset).toArray = ls at hl ⊢
  have hl : lv_has ls 2 [(0, .ref (ad 0 0)), (1, .int p1)] := hl
  unfold fn_Bk_place at hf
  refine lv_aload_n hx hb gd_Bk_place_0 rfl (lv_at hl 0 rfl) ?_
  refine lv_iload_n hx hb gd_Bk_place_1 rfl (lv_at hl 1 rfl) ?_
  obtain ⟨⟨o3, u4⟩, hc2, hf⟩ := Option.bind_eq_some_iff.mp hf
  refine gq_calle (va_runV (As := [.int p1]) (rest := []) ⟨hx, hb, hml, hown, hts⟩ (ct_Bk_inBook l D cI cT ad hI u p1 (o3, u4) hc2) (cwV 1 hts (gt_V gt_147 gt_149 (gt_sel (List.mem_of_getElem? (i := 3) rfl)) gt_1 gt_150) rfl rfl rfl (by decide +kernel) ⟨Nat.le_of_ble_eq_true rfl, Nat.le_of_ble_eq_true rfl⟩) (gq_preV hH hK hN (va_recv hK (gq_one (c := 0) (k := 0) hH rfl (gk_c0 cI cT ad u)) (ci := 0) (q0 := 0) rfl rfl)) rfl rfl hl.1 rfl (lv_room (Nat.le_of_ble_eq_true rfl)) gd_Bk_place_2 ⟨Nat.zero_le _, Nat.zero_le _⟩) hA hS (fun H locs hH hS => ?_)
  cases o3 with
  | none =>
    have hH : gq_H D gc_cl gk_vd ad (gk_pc cI cT ad u4) H := hH
    refine W.eq (g2 := F0 m 5 ls [.null]) rfl ?_
    dsimp only at hf
    refine lv_ifnonnullN hx hb gd_Bk_place_5 ?_
    refine lv_iconst (v := (-1)) hx hb gd_Bk_place_8 (by decide) ?_
    refine lv_goto (tgt := 20) hx hb gd_Bk_place_9 (by decide) ?_
    cases hf
    exact W.iret hx hb hr (fun t ht hW => ⟨⟨_, _, rfl, ⟨rfl, rfl⟩, ⟨by rw [ht]; exact hH, va_K.moved hW.alike hK⟩⟩, hS.F ht⟩) hS.2.2 gd_Bk_place_20
  | some k5 =>
    have hH : gq_H D gc_cl gk_vd ad (gk_pc cI cT ad u4) H := hH
    refine W.eq (g2 := F0 m 5 ls [.ref (ad 7 k5)]) rfl ?_
    dsimp only at hf
    refine lv_ifnonnull (tgt := 12) hx hb gd_Bk_place_5 (by decide) ?_
    refine lv_aload_n hx hb gd_Bk_place_12 rfl (lv_at hl 0 rfl) ?_
    refine va_get (D := D) (ci := 0) (C := gR_Bk) (T := gT_Bk) (N := 5) hx hb hts (fun w h => List.mem_cons_of_mem _ (gl_Bk w h)) hown hK (gq_one (c := 0) (k := 0) hH rfl (gk_c0 cI cT ad u4)) 0 rfl rfl 2 (by decide) (ht _ gt_87) (fun _ h9 => h9) rfl gd_Bk_place_13 ?_
    refine lv_iload_n hx hb gd_Bk_place_16 rfl (lv_at hl 1 rfl) ?_
    obtain ⟨z6, hc7, hf⟩ := Option.bind_eq_some_iff.mp hf
    refine gq_calli (va_runV (As := [.int p1]) (rest := []) ⟨hx, hb, hml, hown, hts⟩ (ct_Lv_placeOf l D cI cT ad hI u4 p1 z6 hc7) (cwV 1 hts (gt_V gt_216 gt_217 gt_218 gt_4 gt_219) rfl rfl rfl (by decide +kernel) ⟨Nat.le_of_ble_eq_true rfl, Nat.le_of_ble_eq_true rfl⟩) (gq_preV hH hK hN (va_recv hK (gq_one (c := 2) (k := 0) hH rfl (gk_c2 cI cT ad u4)) (ci := 1) (q0 := 0) rfl rfl)) rfl rfl hl.1 rfl (lv_room (Nat.le_of_ble_eq_true rfl)) gd_Bk_place_17 ⟨Nat.zero_le _, Nat.zero_le _⟩) hA hS (fun H locs hH hS => ?_)
    cases hf
    exact W.iret hx hb hr (fun t ht hW => ⟨⟨_, _, rfl, ⟨rfl, rfl⟩, ⟨by rw [ht]; exact hH, va_K.moved hW.alike hK⟩⟩, hS.F ht⟩) hS.2.2 gd_Bk_place_20
set_option maxHeartbeats 4000000 in
set_option maxRecDepth 100000 in
theorem ct_Tx_sharedWith (l : Launch) (D : va_G) (cI cT : ClassId) (ad : Nat → Nat → Nat) (hI : gq_I gk_vd ad) (u : gk_St) (k : Nat) (hk : k ≤ 100) (q1 : Nat) (hq1 : q1 ≤ 100) (z : Int32 × gk_St) (hf : fn_Tx_sharedWith k q1 u = some z) : Met l gy_Tx_sharedWith gws_Tx_sharedWith ({ frames := 2, cells := 0, slots := 0, locals := 43 }) (va_Pc [.ref (ad 6 k), .ref (ad 6 q1)] (gq_pre D gc_cl (gk_tys cI cT) gk_vd ad gk_NF gk_NM (gk_pc cI cT ad u))) (va_Qi (fun r u2 => r = z.1 ∧ u2 = z.2) (fun u2 t => gq_B D gc_cl (gk_tys cI cT) gk_vd ad (gk_pc cI cT ad u2) t) (gq_A gk_vd ad)) 0 0 (gq_A gk_vd ad) := by
  refine Met.ofW (cc := gb_Tx_sharedWith) (maxL := 3) (ret := (some .int)) (by decide) rfl ?_
  intro p e s m args below meth c s₁ B hml hv
  obtain ⟨rfl, hH, hK, hN⟩ := hv
  have hx := B.exec
  have hb := B.bytes
  have hr := B.returns
  have hts := atoms_spec (ws := gws_Tx_sharedWith) B.pre
  have ht := fun (w : Cond) (h : w ∈ gt_T) => hts w (List.mem_cons_of_mem _ h)
  have hown : s.vm.findClass gR_Tx = some m.cls := findClass_of_methodNamed B.named
  have hlocks := B.notSynchronized
  have hA : ∀ q, (gq_A gk_vd ad) q → (gq_A gk_vd ad) q := fun _ h => h
  have hS : va_S (gq_A gk_vd ad) s.heap s.heap [] := va_S.rf
  have hl := lv_entry ([.ref (ad 6 k), .ref (ad 6 q1)]) (n := 3) (Nat.le_of_ble_eq_true rfl)
  rw [lg_entry_eq]
  generalize (lg_sl ([.ref (ad 6 k), .ref (ad 6 q1)]) ++ List.replicate (3 - (lg_sl ([.ref (ad 6 k), .ref (ad 6 q1)])).length) Slot.unset).toArray = ls at hl ⊢
  have hl : lv_has ls 3 [(0, .ref (ad 6 k)), (1, .ref (ad 6 q1))] := hl
  unfold fn_Tx_sharedWith at hf
  refine lv_aload_n hx hb gd_Tx_sharedWith_0 rfl (lv_at hl 0 rfl) ?_
  refine va_get (D := D) (ci := 2) (C := gR_Tx) (T := gT_Tx) (N := 3) hx hb hts (fun w h => List.mem_cons_of_mem _ (gl_Tx w h)) hown hK (gq_one (c := 6) (k := k) hH hk (gk_c6 cI cT ad u k)) 0 rfl rfl 0 (by decide) (ht _ gt_23) (fun _ h9 => h9) rfl gd_Tx_sharedWith_1 ?_
  refine lv_aload_n hx hb gd_Tx_sharedWith_4 rfl (lv_at hl 1 rfl) ?_
  refine va_get (D := D) (ci := 2) (C := gR_Tx) (T := gT_Tx) (N := 3) hx hb hts (fun w h => List.mem_cons_of_mem _ (gl_Tx w h)) hown hK (gq_one (c := 6) (k := q1) hH hq1 (gk_c6 cI cT ad u q1)) 0 rfl rfl 0 (by decide) (ht _ gt_23) (fun _ h9 => h9) rfl gd_Tx_sharedWith_5 ?_
  refine W.lcmp hx hb gd_Tx_sharedWith_8 ?_
  refine lv_if_eq (tgt := 30) hx hb gd_Tx_sharedWith_9 (by decide) (fun c1 => ?_) (fun c1 => ?_)
  · replace hf := gj_t c1 hf
    refine lv_bipush (v := 8) hx hb gd_Tx_sharedWith_30 (by decide) ?_
    refine lv_aload_n hx hb gd_Tx_sharedWith_32 rfl (lv_at hl 0 rfl) ?_
    refine va_get (D := D) (ci := 2) (C := gR_Tx) (T := gT_Tx) (N := 3) hx hb hts (fun w h => List.mem_cons_of_mem _ (gl_Tx w h)) hown hK (gq_one (c := 6) (k := k) hH hk (gk_c6 cI cT ad u k)) 0 rfl rfl 1 (by decide) (ht _ gt_24) (fun _ h9 => h9) rfl gd_Tx_sharedWith_33 ?_
    refine lv_aload_n hx hb gd_Tx_sharedWith_36 rfl (lv_at hl 1 rfl) ?_
    refine va_get (D := D) (ci := 2) (C := gR_Tx) (T := gT_Tx) (N := 3) hx hb hts (fun w h => List.mem_cons_of_mem _ (gl_Tx w h)) hown hK (gq_one (c := 6) (k := q1) hH hq1 (gk_c6 cI cT ad u q1)) 0 rfl rfl 1 (by decide) (ht _ gt_24) (fun _ h9 => h9) rfl gd_Tx_sharedWith_37 ?_
    refine lv_lxor hx hb gd_Tx_sharedWith_40 ?_
    refine W.callR (W.runS (As := [.long ((u.2 1 k) ^^^ (u.2 1 q1))]) (rest := [.int 8]) ⟨hx, hb, hml, hown, hts⟩ (ct_Lo_numberOfLeadingZeros l ((u.2 1 k) ^^^ (u.2 1 q1)) _ rfl) (va_cwS 1 hts (gt_S gt_277 gt_278 gt_7 gt_279) rfl rfl rfl (by decide +kernel) ⟨Nat.le_of_ble_eq_true rfl, Nat.le_of_ble_eq_true rfl⟩) preEq rfl rfl hl.1 rfl (lv_room (Nat.le_of_ble_eq_true rfl)) gd_Tx_sharedWith_41 ⟨Nat.zero_le _, Nat.zero_le _⟩) ?_
    refine W.eq (g2 := F0 m 44 ls (.int (fn_Lo_numberOfLeadingZeros ((u.2 1 k) ^^^ (u.2 1 q1))) :: [.int 8])) rfl ?_
    refine lv_bipush (v := 8) hx hb gd_Tx_sharedWith_44 (by decide) ?_
    refine lv_idiv hx hb gd_Tx_sharedWith_46 (by decide) ?_
    refine lv_iadd hx hb gd_Tx_sharedWith_47 ?_
    refine lv_istore_n (lv' := [(2, .int (8 + ((fn_Lo_numberOfLeadingZeros ((u.2 1 k) ^^^ (u.2 1 q1))) / 8))), (0, .ref (ad 6 k)), (1, .ref (ad 6 q1))]) hx hb gd_Tx_sharedWith_48 rfl hl (by decide) rfl (fun ls hl => ?_)
    refine lv_iload_n hx hb gd_Tx_sharedWith_49 rfl (lv_at hl 0 rfl) ?_
    refine lv_aload_n hx hb gd_Tx_sharedWith_50 rfl (lv_at hl 1 rfl) ?_
    refine va_get (D := D) (ci := 2) (C := gR_Tx) (T := gT_Tx) (N := 3) hx hb hts (fun w h => List.mem_cons_of_mem _ (gl_Tx w h)) hown hK (gq_one (c := 6) (k := k) hH hk (gk_c6 cI cT ad u k)) 0 rfl rfl 2 (by decide) (ht _ gt_25) (fun _ h9 => h9) rfl gd_Tx_sharedWith_51 ?_
    refine lv_aload_n hx hb gd_Tx_sharedWith_54 rfl (lv_at hl 2 rfl) ?_
    refine va_get (D := D) (ci := 2) (C := gR_Tx) (T := gT_Tx) (N := 3) hx hb hts (fun w h => List.mem_cons_of_mem _ (gl_Tx w h)) hown hK (gq_one (c := 6) (k := q1) hH hq1 (gk_c6 cI cT ad u q1)) 0 rfl rfl 2 (by decide) (ht _ gt_25) (fun _ h9 => h9) rfl gd_Tx_sharedWith_55 ?_
    refine va_mmin hx hb (hml.trans hl.1.symm) hown (ht _ gt_284) (ht _ gt_238) (ht _ gt_8) (ht _ gt_239) (Nat.le_of_ble_eq_true rfl) (Nat.le_of_ble_eq_true rfl) (Nat.zero_le _) (Nat.zero_le _) gd_Tx_sharedWith_58 ?_
    refine W.eq (g2 := F0 m 61 ls (.int (fn_Ma_min (u.1 0 k) (u.1 0 q1)) :: [.int (8 + ((fn_Lo_numberOfLeadingZeros ((u.2 1 k) ^^^ (u.2 1 q1))) / 8))])) rfl ?_
    refine va_mmin hx hb (hml.trans hl.1.symm) hown (ht _ gt_284) (ht _ gt_238) (ht _ gt_8) (ht _ gt_239) (Nat.le_of_ble_eq_true rfl) (Nat.le_of_ble_eq_true rfl) (Nat.zero_le _) (Nat.zero_le _) gd_Tx_sharedWith_61 ?_
    refine W.eq (g2 := F0 m 64 ls (.int (fn_Ma_min (8 + ((fn_Lo_numberOfLeadingZeros ((u.2 1 k) ^^^ (u.2 1 q1))) / 8)) (fn_Ma_min (u.1 0 k) (u.1 0 q1))) :: [])) rfl ?_
    cases hf
    exact W.iret hx hb hr (fun t ht hW => ⟨⟨_, _, rfl, ⟨rfl, rfl⟩, ⟨by rw [ht]; exact hH, va_K.moved hW.alike hK⟩⟩, hS.F ht⟩) hS.2.2 gd_Tx_sharedWith_64
  · replace hf := gj_e c1 hf
    refine lv_aload_n hx hb gd_Tx_sharedWith_12 rfl (lv_at hl 0 rfl) ?_
    refine va_get (D := D) (ci := 2) (C := gR_Tx) (T := gT_Tx) (N := 3) hx hb hts (fun w h => List.mem_cons_of_mem _ (gl_Tx w h)) hown hK (gq_one (c := 6) (k := k) hH hk (gk_c6 cI cT ad u k)) 0 rfl rfl 0 (by decide) (ht _ gt_23) (fun _ h9 => h9) rfl gd_Tx_sharedWith_13 ?_
    refine lv_aload_n hx hb gd_Tx_sharedWith_16 rfl (lv_at hl 1 rfl) ?_
    refine va_get (D := D) (ci := 2) (C := gR_Tx) (T := gT_Tx) (N := 3) hx hb hts (fun w h => List.mem_cons_of_mem _ (gl_Tx w h)) hown hK (gq_one (c := 6) (k := q1) hH hq1 (gk_c6 cI cT ad u q1)) 0 rfl rfl 0 (by decide) (ht _ gt_23) (fun _ h9 => h9) rfl gd_Tx_sharedWith_17 ?_
    refine lv_lxor hx hb gd_Tx_sharedWith_20 ?_
    refine W.callR (W.runS (As := [.long ((u.2 0 k) ^^^ (u.2 0 q1))]) (rest := []) ⟨hx, hb, hml, hown, hts⟩ (ct_Lo_numberOfLeadingZeros l ((u.2 0 k) ^^^ (u.2 0 q1)) _ rfl) (va_cwS 1 hts (gt_S gt_277 gt_278 gt_7 gt_279) rfl rfl rfl (by decide +kernel) ⟨Nat.le_of_ble_eq_true rfl, Nat.le_of_ble_eq_true rfl⟩) preEq rfl rfl hl.1 rfl (lv_room (Nat.le_of_ble_eq_true rfl)) gd_Tx_sharedWith_21 ⟨Nat.zero_le _, Nat.zero_le _⟩) ?_
    refine W.eq (g2 := F0 m 24 ls (.int (fn_Lo_numberOfLeadingZeros ((u.2 0 k) ^^^ (u.2 0 q1))) :: [])) rfl ?_
    refine lv_bipush (v := 8) hx hb gd_Tx_sharedWith_24 (by decide) ?_
    refine lv_idiv hx hb gd_Tx_sharedWith_26 (by decide) ?_
    refine lv_goto (tgt := 48) hx hb gd_Tx_sharedWith_27 (by decide) ?_
    refine lv_istore_n (lv' := [(2, .int ((fn_Lo_numberOfLeadingZeros ((u.2 0 k) ^^^ (u.2 0 q1))) / 8)), (0, .ref (ad 6 k)), (1, .ref (ad 6 q1))]) hx hb gd_Tx_sharedWith_48 rfl hl (by decide) rfl (fun ls hl => ?_)
    refine lv_iload_n hx hb gd_Tx_sharedWith_49 rfl (lv_at hl 0 rfl) ?_
    refine lv_aload_n hx hb gd_Tx_sharedWith_50 rfl (lv_at hl 1 rfl) ?_
    refine va_get (D := D) (ci := 2) (C := gR_Tx) (T := gT_Tx) (N := 3) hx hb hts (fun w h => List.mem_cons_of_mem _ (gl_Tx w h)) hown hK (gq_one (c := 6) (k := k) hH hk (gk_c6 cI cT ad u k)) 0 rfl rfl 2 (by decide) (ht _ gt_25) (fun _ h9 => h9) rfl gd_Tx_sharedWith_51 ?_
    refine lv_aload_n hx hb gd_Tx_sharedWith_54 rfl (lv_at hl 2 rfl) ?_
    refine va_get (D := D) (ci := 2) (C := gR_Tx) (T := gT_Tx) (N := 3) hx hb hts (fun w h => List.mem_cons_of_mem _ (gl_Tx w h)) hown hK (gq_one (c := 6) (k := q1) hH hq1 (gk_c6 cI cT ad u q1)) 0 rfl rfl 2 (by decide) (ht _ gt_25) (fun _ h9 => h9) rfl gd_Tx_sharedWith_55 ?_
    refine va_mmin hx hb (hml.trans hl.1.symm) hown (ht _ gt_284) (ht _ gt_238) (ht _ gt_8) (ht _ gt_239) (Nat.le_of_ble_eq_true rfl) (Nat.le_of_ble_eq_true rfl) (Nat.zero_le _) (Nat.zero_le _) gd_Tx_sharedWith_58 ?_
    refine W.eq (g2 := F0 m 61 ls (.int (fn_Ma_min (u.1 0 k) (u.1 0 q1)) :: [.int ((fn_Lo_numberOfLeadingZeros ((u.2 0 k) ^^^ (u.2 0 q1))) / 8)])) rfl ?_
    refine va_mmin hx hb (hml.trans hl.1.symm) hown (ht _ gt_284) (ht _ gt_238) (ht _ gt_8) (ht _ gt_239) (Nat.le_of_ble_eq_true rfl) (Nat.le_of_ble_eq_true rfl) (Nat.zero_le _) (Nat.zero_le _) gd_Tx_sharedWith_61 ?_
    refine W.eq (g2 := F0 m 64 ls (.int (fn_Ma_min ((fn_Lo_numberOfLeadingZeros ((u.2 0 k) ^^^ (u.2 0 q1))) / 8) (fn_Ma_min (u.1 0 k) (u.1 0 q1))) :: [])) rfl ?_
    cases hf
    exact W.iret hx hb hr (fun t ht hW => ⟨⟨_, _, rfl, ⟨rfl, rfl⟩, ⟨by rw [ht]; exact hH, va_K.moved hW.alike hK⟩⟩, hS.F ht⟩) hS.2.2 gd_Tx_sharedWith_64
set_option maxHeartbeats 4000000 in
set_option maxRecDepth 100000 in
theorem ct_Tx_startsWith (l : Launch) (D : va_G) (cI cT : ClassId) (ad : Nat → Nat → Nat) (hI : gq_I gk_vd ad) (u : gk_St) (k : Nat) (hk : k ≤ 100) (q1 : Nat) (hq1 : q1 ≤ 100) (z : Int32 × gk_St) (hf : fn_Tx_startsWith k q1 u = some z) : Met l gy_Tx_startsWith gws_Tx_startsWith ({ frames := 3, cells := 0, slots := 0, locals := 65 }) (va_Pc [.ref (ad 6 k), .ref (ad 6 q1)] (gq_pre D gc_cl (gk_tys cI cT) gk_vd ad gk_NF gk_NM (gk_pc cI cT ad u))) (va_Qi (fun r u2 => r = z.1 ∧ u2 = z.2) (fun u2 t => gq_B D gc_cl (gk_tys cI cT) gk_vd ad (gk_pc cI cT ad u2) t) (gq_A gk_vd ad)) 0 0 (gq_A gk_vd ad) := by
  refine Met.ofW (cc := gb_Tx_startsWith) (maxL := 2) (ret := (some .boolean)) (by decide) rfl ?_
  intro p e s m args below meth c s₁ B hml hv
  obtain ⟨rfl, hH, hK, hN⟩ := hv
  have hx := B.exec
  have hb := B.bytes
  have hr := B.returns
  have hts := atoms_spec (ws := gws_Tx_startsWith) B.pre
  have ht := fun (w : Cond) (h : w ∈ gt_T) => hts w (List.mem_cons_of_mem _ h)
  have hown : s.vm.findClass gR_Tx = some m.cls := findClass_of_methodNamed B.named
  have hlocks := B.notSynchronized
  have hA : ∀ q, (gq_A gk_vd ad) q → (gq_A gk_vd ad) q := fun _ h => h
  have hS : va_S (gq_A gk_vd ad) s.heap s.heap [] := va_S.rf
  have hl := lv_entry ([.ref (ad 6 k), .ref (ad 6 q1)]) (n := 2) (Nat.le_of_ble_eq_true rfl)
  rw [lg_entry_eq]
  generalize (lg_sl ([.ref (ad 6 k), .ref (ad 6 q1)]) ++ List.replicate (2 - (lg_sl ([.ref (ad 6 k), .ref (ad 6 q1)])).length) Slot.unset).toArray = ls at hl ⊢
  have hl : lv_has ls 2 [(0, .ref (ad 6 k)), (1, .ref (ad 6 q1))] := hl
  unfold fn_Tx_startsWith at hf
  refine lv_aload_n hx hb gd_Tx_startsWith_0 rfl (lv_at hl 0 rfl) ?_
  refine lv_aload_n hx hb gd_Tx_startsWith_1 rfl (lv_at hl 1 rfl) ?_
  obtain ⟨z1, hc2, hf⟩ := Option.bind_eq_some_iff.mp hf
  refine gq_calli (va_runV (As := [.ref (ad 6 q1)]) (rest := []) ⟨hx, hb, hml, hown, hts⟩ (ct_Tx_sharedWith l D cI cT ad hI u k hk q1 hq1 z1 hc2) (cwV 1 hts (gt_V gt_273 gt_274 gt_275 gt_2 gt_276) rfl rfl rfl (by decide +kernel) ⟨Nat.le_of_ble_eq_true rfl, Nat.le_of_ble_eq_true rfl⟩) (gq_preV hH hK hN (va_recv hK (gq_one (c := 6) (k := k) hH hk (gk_c6 cI cT ad u k)) (ci := 2) (q0 := 0) rfl rfl)) rfl rfl hl.1 rfl (lv_room (Nat.le_of_ble_eq_true rfl)) gd_Tx_startsWith_2 ⟨Nat.zero_le _, Nat.zero_le _⟩) hA hS (fun H locs hH hS => ?_)
  refine lv_aload_n hx hb gd_Tx_startsWith_5 rfl (lv_at hl 1 rfl) ?_
  refine va_get (D := D) (ci := 2) (C := gR_Tx) (T := gT_Tx) (N := 3) hx hb hts (fun w h => List.mem_cons_of_mem _ (gl_Tx w h)) hown hK (gq_one (c := 6) (k := q1) hH hq1 (gk_c6 cI cT ad z1.2 q1)) 0 rfl rfl 2 (by decide) (ht _ gt_25) (fun _ h9 => h9) rfl gd_Tx_startsWith_6 ?_
  refine lv_icmp_ne (tgt := 16) hx hb gd_Tx_startsWith_9 (by decide) (fun c3 => ?_) (fun c3 => ?_)
  · replace hf := gj_e c3 hf
    refine lv_iconst (v := 0) hx hb gd_Tx_startsWith_16 (by decide) ?_
    cases hf
    exact W.zret hx hb hr rfl (fun t ht hW => ⟨⟨_, _, rfl, ⟨rfl, rfl⟩, ⟨by rw [ht]; exact hH, va_K.moved hW.alike hK⟩⟩, hS.F ht⟩) hS.2.2 gd_Tx_startsWith_17
  · replace hf := gj_t c3 hf
    refine lv_iconst (v := 1) hx hb gd_Tx_startsWith_12 (by decide) ?_
    refine lv_goto (tgt := 17) hx hb gd_Tx_startsWith_13 (by decide) ?_
    cases hf
    exact W.zret hx hb hr rfl (fun t ht hW => ⟨⟨_, _, rfl, ⟨rfl, rfl⟩, ⟨by rw [ht]; exact hH, va_K.moved hW.alike hK⟩⟩, hS.F ht⟩) hS.2.2 gd_Tx_startsWith_17
