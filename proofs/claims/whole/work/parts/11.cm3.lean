set_option maxHeartbeats 4000000 in
set_option maxRecDepth 100000 in
theorem ct_Md_begins (l : Launch) (D : va_G) (cI cZ : ClassId) (ad : Nat → Nat → Nat) (hI : gq_I gm_vd ad) (u : gm_St) (p1 : Int32) (z : Int32 × gm_St) (hf : fn_Md_begins p1 u = some z) : Met l gy_Md_begins gws_Md_begins ({ frames := 1, cells := 0, slots := 0, locals := 22 }) (va_Pc [.ref (ad 0 0), .int p1] (gq_pre D gc_cl (gm_tys cI cZ) gm_vd ad gm_NF gm_NM (gm_pc cI cZ ad u))) (va_Qi (fun r u2 => r = z.1 ∧ u2 = z.2) (fun u2 t => gq_B D gc_cl (gm_tys cI cZ) gm_vd ad (gm_pc cI cZ ad u2) t) (gq_A gm_vd ad)) 0 0 (gq_A gm_vd ad) := by
  refine Met.ofW (cc := gb_Md_begins) (maxL := 7) (ret := (some .int)) (by decide) rfl ?_
  intro p e s m args below meth c s₁ B hml hv
  obtain ⟨rfl, hH, hK, hN⟩ := hv
  have hx := B.exec
  have hb := B.bytes
  have hr := B.returns
  have hts := atoms_spec (ws := gws_Md_begins) B.pre
  have ht := fun (w : Cond) (h : w ∈ gt_T) => hts w (List.mem_cons_of_mem _ h)
  have hown : s.vm.findClass gR_Md = some m.cls := findClass_of_methodNamed B.named
  have hlocks := B.notSynchronized
  have hA : ∀ q, (gq_A gm_vd ad) q → (gq_A gm_vd ad) q := fun _ h => h
  have hS : va_S (gq_A gm_vd ad) s.heap s.heap [] := va_S.rf
  have hl := lv_entry ([.ref (ad 0 0), .int p1]) (n := 7) (Nat.le_of_ble_eq_true rfl)
  rw [lg_entry_eq]
  generalize (lg_sl ([.ref (ad 0 0), .int p1]) ++ List.replicate (7 - (lg_sl ([.ref (ad 0 0), .int p1])).length) Slot.unset).toArray = ls at hl ⊢
  have hl : lv_has ls 7 [(0, .ref (ad 0 0)), (1, .int p1)] := hl
  have L15 : ∀ (n : Nat) (x1 : Int32) (x2 : Int32) (x3 : Int32) (u : gm_St) (H : Heap) (locs : List Loc) (ls : Array Slot), fn_Md_begins_15 n x1 x2 x3 u = some z → gq_H D gc_cl gm_vd ad (gm_pc cI cZ ad u) H → va_S (gq_A gm_vd ad) s.heap H locs → lv_has ls 7 [(0, .ref (ad 0 0)), (1, .int x1), (2, .int x2), (3, .int x3)] → W p l e (headSpec gws_Md_begins ({ frames := 1, cells := 0, slots := 0, locals := 22 })).room s m ([.ref (ad 0 0), .int p1] : List Value).toArray below meth c H locs 0 0 (MQ below (va_Qi (fun r u2 => r = z.1 ∧ u2 = z.2) (fun u2 t => gq_B D gc_cl (gm_tys cI cZ) gm_vd ad (gm_pc cI cZ ad u2) t) (gq_A gm_vd ad)) ([.ref (ad 0 0), .int p1] : List Value).toArray s 0 0 (gq_A gm_vd ad)) (F0 m 15 ls []) := by
    intro n
    induction n with
    | zero =>
      intro x1 x2 x3 u H locs ls hf
      have h0 : none = some z := hf
      cases h0
    | succ n ih =>
      intro x1 x2 x3 u H locs ls hf hH hS hl
      rw [fn_Md_begins_15] at hf
      have X116 : ∀ (x1 : Int32) (x2 : Int32) (x3 : Int32) (x4 : Int32) (x5 : Int32) (x6 : Int32) (u : gm_St) (H : Heap) (locs : List Loc) (ls : Array Slot), (fn_Md_begins_116 (fn_Md_begins_15 n)) x1 x2 x3 x4 x5 x6 u = some z → gq_H D gc_cl gm_vd ad (gm_pc cI cZ ad u) H → va_S (gq_A gm_vd ad) s.heap H locs → lv_has ls 7 [(0, .ref (ad 0 0)), (1, .int x1), (2, .int x2), (3, .int x3), (4, .int x4), (5, .int x5), (6, .int x6)] → W p l e (headSpec gws_Md_begins ({ frames := 1, cells := 0, slots := 0, locals := 22 })).room s m ([.ref (ad 0 0), .int p1] : List Value).toArray below meth c H locs 0 0 (MQ below (va_Qi (fun r u2 => r = z.1 ∧ u2 = z.2) (fun u2 t => gq_B D gc_cl (gm_tys cI cZ) gm_vd ad (gm_pc cI cZ ad u2) t) (gq_A gm_vd ad)) ([.ref (ad 0 0), .int p1] : List Value).toArray s 0 0 (gq_A gm_vd ad)) (F0 m 116 ls []) := by
        intro x1 x2 x3 x4 x5 x6 u H locs ls hf hH hS hl
        unfold fn_Md_begins_116 at hf
        refine lv_iload_n hx hb gd_Md_begins_116 rfl (lv_at hl 2 rfl) ?_
        refine lv_iload hx hb gd_Md_begins_117 (lv_at hl 5 rfl) ?_
        refine lv_if_eq (tgt := 126) hx hb gd_Md_begins_119 (by decide) (fun c10 => ?_) (fun c10 => ?_)
        · replace hf := gj_t c10 hf
          refine lv_iconst (v := 0) hx hb gd_Md_begins_126 (by decide) ?_
          refine lv_iadd hx hb gd_Md_begins_127 ?_
          refine lv_istore_n (lv' := [(2, .int (x2 + 0)), (0, .ref (ad 0 0)), (1, .int x1), (3, .int x3), (4, .int x4), (5, .int x5), (6, .int x6)]) hx hb gd_Md_begins_128 rfl hl (by decide) rfl (fun ls hl => ?_)
          refine lv_iinc (v := x3 + 1) (lv' := [(3, .int (x3 + 1)), (2, .int (x2 + 0)), (0, .ref (ad 0 0)), (1, .int x1), (4, .int x4), (5, .int x5), (6, .int x6)]) hx hb gd_Md_begins_129 hl (k := 3) rfl rfl (by decide) rfl (fun ls hl => ?_)
          refine lv_goto (tgt := 15) hx hb gd_Md_begins_132 (by decide) ?_
          exact ih x1 (x2 + 0) (x3 + 1) u _ _ _ hf hH hS (lv_sub hl [2, 3, 1, 0] rfl)
        · replace hf := gj_e c10 hf
          refine lv_iconst (v := 1) hx hb gd_Md_begins_122 (by decide) ?_
          refine lv_goto (tgt := 127) hx hb gd_Md_begins_123 (by decide) ?_
          refine lv_iadd hx hb gd_Md_begins_127 ?_
          refine lv_istore_n (lv' := [(2, .int (x2 + 1)), (0, .ref (ad 0 0)), (1, .int x1), (3, .int x3), (4, .int x4), (5, .int x5), (6, .int x6)]) hx hb gd_Md_begins_128 rfl hl (by decide) rfl (fun ls hl => ?_)
          refine lv_iinc (v := x3 + 1) (lv' := [(3, .int (x3 + 1)), (2, .int (x2 + 1)), (0, .ref (ad 0 0)), (1, .int x1), (4, .int x4), (5, .int x5), (6, .int x6)]) hx hb gd_Md_begins_129 hl (k := 3) rfl rfl (by decide) rfl (fun ls hl => ?_)
          refine lv_goto (tgt := 15) hx hb gd_Md_begins_132 (by decide) ?_
          exact ih x1 (x2 + 1) (x3 + 1) u _ _ _ hf hH hS (lv_sub hl [2, 3, 1, 0] rfl)
      have L66 : ∀ (n2 : Nat) (x1 : Int32) (x2 : Int32) (x3 : Int32) (x4 : Int32) (x5 : Int32) (x6 : Int32) (u : gm_St) (H : Heap) (locs : List Loc) (ls : Array Slot), fn_Md_begins_66 (fn_Md_begins_116 (fn_Md_begins_15 n)) n2 x1 x2 x3 x4 x5 x6 u = some z → gq_H D gc_cl gm_vd ad (gm_pc cI cZ ad u) H → va_S (gq_A gm_vd ad) s.heap H locs → lv_has ls 7 [(0, .ref (ad 0 0)), (1, .int x1), (2, .int x2), (3, .int x3), (4, .int x4), (5, .int x5), (6, .int x6)] → W p l e (headSpec gws_Md_begins ({ frames := 1, cells := 0, slots := 0, locals := 22 })).room s m ([.ref (ad 0 0), .int p1] : List Value).toArray below meth c H locs 0 0 (MQ below (va_Qi (fun r u2 => r = z.1 ∧ u2 = z.2) (fun u2 t => gq_B D gc_cl (gm_tys cI cZ) gm_vd ad (gm_pc cI cZ ad u2) t) (gq_A gm_vd ad)) ([.ref (ad 0 0), .int p1] : List Value).toArray s 0 0 (gq_A gm_vd ad)) (F0 m 66 ls []) := by
        intro n2
        induction n2 with
        | zero =>
          intro x1 x2 x3 x4 x5 x6 u H locs ls hf
          have h0 : none = some z := hf
          cases h0
        | succ n2 ih2 =>
          intro x1 x2 x3 x4 x5 x6 u H locs ls hf hH hS hl
          rw [fn_Md_begins_66] at hf
          refine lv_iload hx hb gd_Md_begins_66 (lv_at hl 6 rfl) ?_
          refine lv_aload_n hx hb gd_Md_begins_68 rfl (lv_at hl 0 rfl) ?_
          refine va_get (D := D) (ci := 4) (C := gR_Md) (T := gT_Md) (N := 16) hx hb hts (fun w h => List.mem_cons_of_mem _ (gl_Md w h)) hown hK (gq_one (c := 0) (k := 0) hH rfl (gm_c0 cI cZ ad u)) 0 rfl rfl 0 (by decide) (ht _ gt_369) (fun _ h9 => h9) rfl gd_Md_begins_69 ?_
          refine lv_icmp_ge (tgt := 116) hx hb gd_Md_begins_72 (by decide) (fun c9 => ?_) (fun c9 => ?_)
          · replace hf := gj_t c9 hf
            exact X116 x1 x2 x3 x4 x5 x6 u _ _ _ hf hH hS (lv_sub hl [0, 1, 2, 3, 4, 5, 6] rfl)
          · replace hf := gj_e c9 hf
            refine lv_iload hx hb gd_Md_begins_75 (lv_at hl 5 rfl) ?_
            refine lv_if_eq (tgt := 116) hx hb gd_Md_begins_77 (by decide) (fun c8 => ?_) (fun c8 => ?_)
            · replace hf := gj_t c8 hf
              exact X116 x1 x2 x3 x4 x5 x6 u _ _ _ hf hH hS (lv_sub hl [0, 1, 2, 3, 4, 5, 6] rfl)
            · replace hf := gj_e c8 hf
              refine lv_aload_n hx hb gd_Md_begins_80 rfl (lv_at hl 0 rfl) ?_
              refine va_get (D := D) (ci := 4) (C := gR_Md) (T := gT_Md) (N := 16) hx hb hts (fun w h => List.mem_cons_of_mem _ (gl_Md w h)) hown hK (gq_one (c := 0) (k := 0) hH rfl (gm_c0 cI cZ ad u)) 0 rfl rfl 6 (by decide) (ht _ gt_375) (fun _ h9 => h9) rfl gd_Md_begins_81 ?_
              refine lv_bipush (v := 16) hx hb gd_Md_begins_84 (by decide) ?_
              refine lv_iload hx hb gd_Md_begins_86 (lv_at hl 4 rfl) ?_
              refine lv_imul hx hb gd_Md_begins_88 ?_
              refine lv_iload hx hb gd_Md_begins_89 (lv_at hl 6 rfl) ?_
              refine lv_iadd hx hb gd_Md_begins_91 ?_
              obtain ⟨hg5, hf⟩ := gj_g hf
              refine va_iald (D := D) hx hb hK (gq_one (c := 6) (k := 0) hH rfl (gm_c6 cI cZ ad u)) 0 0 rfl rfl hg5 gd_Md_begins_92 ?_
              refine lv_aload_n hx hb gd_Md_begins_93 rfl (lv_at hl 0 rfl) ?_
              refine va_get (D := D) (ci := 4) (C := gR_Md) (T := gT_Md) (N := 16) hx hb hts (fun w h => List.mem_cons_of_mem _ (gl_Md w h)) hown hK (gq_one (c := 0) (k := 0) hH rfl (gm_c0 cI cZ ad u)) 0 rfl rfl 1 (by decide) (ht _ gt_370) (fun _ h9 => h9) rfl gd_Md_begins_94 ?_
              refine lv_iload hx hb gd_Md_begins_97 (lv_at hl 6 rfl) ?_
              obtain ⟨hg6, hf⟩ := gj_g hf
              refine va_iald (D := D) hx hb hK (gq_one (c := 1) (k := 0) hH rfl (gm_c1 cI cZ ad u)) 0 0 rfl rfl hg6 gd_Md_begins_99 ?_
              refine lv_icmp_ne (tgt := 107) hx hb gd_Md_begins_100 (by decide) (fun c7 => ?_) (fun c7 => ?_)
              · replace hf := gj_e c7 hf
                refine lv_iconst (v := 0) hx hb gd_Md_begins_107 (by decide) ?_
                refine lv_istore (lv' := [(5, .int 0), (0, .ref (ad 0 0)), (1, .int x1), (2, .int x2), (3, .int x3), (4, .int x4), (6, .int x6)]) hx hb gd_Md_begins_108 hl (by decide) rfl (fun ls hl => ?_)
                refine lv_iinc (v := x6 + 1) (lv' := [(6, .int (x6 + 1)), (5, .int 0), (0, .ref (ad 0 0)), (1, .int x1), (2, .int x2), (3, .int x3), (4, .int x4)]) hx hb gd_Md_begins_110 hl (k := 6) rfl rfl (by decide) rfl (fun ls hl => ?_)
                refine lv_goto (tgt := 66) hx hb gd_Md_begins_113 (by decide) ?_
                exact ih2 x1 x2 x3 x4 0 (x6 + 1) u _ _ _ hf hH hS (lv_sub hl [2, 3, 4, 5, 6, 1, 0] rfl)
              · replace hf := gj_t c7 hf
                refine lv_iconst (v := 1) hx hb gd_Md_begins_103 (by decide) ?_
                refine lv_goto (tgt := 108) hx hb gd_Md_begins_104 (by decide) ?_
                refine lv_istore (lv' := [(5, .int 1), (0, .ref (ad 0 0)), (1, .int x1), (2, .int x2), (3, .int x3), (4, .int x4), (6, .int x6)]) hx hb gd_Md_begins_108 hl (by decide) rfl (fun ls hl => ?_)
                refine lv_iinc (v := x6 + 1) (lv' := [(6, .int (x6 + 1)), (5, .int 1), (0, .ref (ad 0 0)), (1, .int x1), (2, .int x2), (3, .int x3), (4, .int x4)]) hx hb gd_Md_begins_110 hl (k := 6) rfl rfl (by decide) rfl (fun ls hl => ?_)
                refine lv_goto (tgt := 66) hx hb gd_Md_begins_113 (by decide) ?_
                exact ih2 x1 x2 x3 x4 1 (x6 + 1) u _ _ _ hf hH hS (lv_sub hl [2, 3, 4, 5, 6, 1, 0] rfl)
      refine lv_iload_n hx hb gd_Md_begins_15 rfl (lv_at hl 3 rfl) ?_
      refine lv_aload_n hx hb gd_Md_begins_16 rfl (lv_at hl 0 rfl) ?_
      refine va_get (D := D) (ci := 4) (C := gR_Md) (T := gT_Md) (N := 16) hx hb hts (fun w h => List.mem_cons_of_mem _ (gl_Md w h)) hown hK (gq_one (c := 0) (k := 0) hH rfl (gm_c0 cI cZ ad u)) 0 rfl rfl 7 (by decide) (ht _ gt_376) (fun _ h9 => h9) rfl gd_Md_begins_17 ?_
      refine lv_icmp_ge (tgt := 135) hx hb gd_Md_begins_20 (by decide) (fun c14 => ?_) (fun c14 => ?_)
      · replace hf := gj_t c14 hf
        refine lv_iload_n hx hb gd_Md_begins_135 rfl (lv_at hl 2 rfl) ?_
        cases hf
        exact W.iret hx hb hr (fun t ht hW => ⟨⟨_, _, rfl, ⟨rfl, rfl⟩, ⟨by rw [ht]; exact hH, va_K.moved hW.alike hK⟩⟩, hS.F ht⟩) hS.2.2 gd_Md_begins_136
      · replace hf := gj_e c14 hf
        refine lv_aload_n hx hb gd_Md_begins_23 rfl (lv_at hl 0 rfl) ?_
        refine va_get (D := D) (ci := 4) (C := gR_Md) (T := gT_Md) (N := 16) hx hb hts (fun w h => List.mem_cons_of_mem _ (gl_Md w h)) hown hK (gq_one (c := 0) (k := 0) hH rfl (gm_c0 cI cZ ad u)) 0 rfl rfl 8 (by decide) (ht _ gt_377) (fun _ h9 => h9) rfl gd_Md_begins_24 ?_
        refine lv_iload_n hx hb gd_Md_begins_27 rfl (lv_at hl 3 rfl) ?_
        obtain ⟨hg3, hf⟩ := gj_g hf
        refine va_iald (D := D) hx hb hK (gq_one (c := 7) (k := 0) hH rfl (gm_c7 cI cZ ad u)) 0 0 rfl rfl hg3 gd_Md_begins_28 ?_
        refine lv_istore (lv' := [(4, .int (u.1 7 (Int32.toNatClampNeg x3))), (0, .ref (ad 0 0)), (1, .int x1), (2, .int x2), (3, .int x3)]) hx hb gd_Md_begins_29 hl (by decide) rfl (fun ls hl => ?_)
        refine lv_aload_n hx hb gd_Md_begins_31 rfl (lv_at hl 1 rfl) ?_
        refine va_get (D := D) (ci := 4) (C := gR_Md) (T := gT_Md) (N := 16) hx hb hts (fun w h => List.mem_cons_of_mem _ (gl_Md w h)) hown hK (gq_one (c := 0) (k := 0) hH rfl (gm_c0 cI cZ ad u)) 0 rfl rfl 3 (by decide) (ht _ gt_372) (fun _ h9 => h9) rfl gd_Md_begins_32 ?_
        refine lv_iload hx hb gd_Md_begins_35 (lv_at hl 0 rfl) ?_
        obtain ⟨hg4, hf⟩ := gj_g hf
        refine va_iald (D := D) hx hb hK (gq_one (c := 3) (k := 0) hH rfl (gm_c3 cI cZ ad u)) 0 0 rfl rfl hg4 gd_Md_begins_37 ?_
        refine lv_iload_n hx hb gd_Md_begins_38 rfl (lv_at hl 2 rfl) ?_
        refine lv_icmp_ne (tgt := 60) hx hb gd_Md_begins_39 (by decide) (fun c13 => ?_) (fun c13 => ?_)
        · replace hf := gj_e c13 hf
          refine lv_iconst (v := 0) hx hb gd_Md_begins_60 (by decide) ?_
          refine lv_istore (lv' := [(5, .int 0), (4, .int (u.1 7 (Int32.toNatClampNeg x3))), (0, .ref (ad 0 0)), (1, .int x1), (2, .int x2), (3, .int x3)]) hx hb gd_Md_begins_61 hl (by decide) rfl (fun ls hl => ?_)
          refine lv_iconst (v := 0) hx hb gd_Md_begins_63 (by decide) ?_
          refine lv_istore (lv' := [(6, .int 0), (5, .int 0), (4, .int (u.1 7 (Int32.toNatClampNeg x3))), (0, .ref (ad 0 0)), (1, .int x1), (2, .int x2), (3, .int x3)]) hx hb gd_Md_begins_64 hl (by decide) rfl (fun ls hl => ?_)
          exact L66 gm_fu x1 x2 x3 (u.1 7 (Int32.toNatClampNeg x3)) 0 0 u _ _ _ hf hH hS (lv_sub hl [3, 4, 5, 6, 2, 1, 0] rfl)
        · replace hf := gj_t c13 hf
          refine lv_aload_n hx hb gd_Md_begins_42 rfl (lv_at hl 1 rfl) ?_
          refine va_get (D := D) (ci := 4) (C := gR_Md) (T := gT_Md) (N := 16) hx hb hts (fun w h => List.mem_cons_of_mem _ (gl_Md w h)) hown hK (gq_one (c := 0) (k := 0) hH rfl (gm_c0 cI cZ ad u)) 0 rfl rfl 5 (by decide) (ht _ gt_374) (fun _ h9 => h9) rfl gd_Md_begins_43 ?_
          refine lv_iload hx hb gd_Md_begins_46 (lv_at hl 0 rfl) ?_
          obtain ⟨hg11, hf⟩ := gj_g hf
          refine va_iald (D := D) hx hb hK (gq_one (c := 5) (k := 0) hH rfl (gm_c5 cI cZ ad u)) 0 0 rfl rfl hg11 gd_Md_begins_48 ?_
          refine lv_aload_n hx hb gd_Md_begins_49 rfl (lv_at hl 1 rfl) ?_
          refine va_get (D := D) (ci := 4) (C := gR_Md) (T := gT_Md) (N := 16) hx hb hts (fun w h => List.mem_cons_of_mem _ (gl_Md w h)) hown hK (gq_one (c := 0) (k := 0) hH rfl (gm_c0 cI cZ ad u)) 0 rfl rfl 0 (by decide) (ht _ gt_369) (fun _ h9 => h9) rfl gd_Md_begins_50 ?_
          refine lv_icmp_lt (tgt := 60) hx hb gd_Md_begins_53 (by decide) (fun c12 => ?_) (fun c12 => ?_)
          · replace hf := gj_t c12 hf
            refine lv_iconst (v := 0) hx hb gd_Md_begins_60 (by decide) ?_
            refine lv_istore (lv' := [(5, .int 0), (4, .int (u.1 7 (Int32.toNatClampNeg x3))), (0, .ref (ad 0 0)), (1, .int x1), (2, .int x2), (3, .int x3)]) hx hb gd_Md_begins_61 hl (by decide) rfl (fun ls hl => ?_)
            refine lv_iconst (v := 0) hx hb gd_Md_begins_63 (by decide) ?_
            refine lv_istore (lv' := [(6, .int 0), (5, .int 0), (4, .int (u.1 7 (Int32.toNatClampNeg x3))), (0, .ref (ad 0 0)), (1, .int x1), (2, .int x2), (3, .int x3)]) hx hb gd_Md_begins_64 hl (by decide) rfl (fun ls hl => ?_)
            exact L66 gm_fu x1 x2 x3 (u.1 7 (Int32.toNatClampNeg x3)) 0 0 u _ _ _ hf hH hS (lv_sub hl [3, 4, 5, 6, 2, 1, 0] rfl)
          · replace hf := gj_e c12 hf
            refine lv_iconst (v := 1) hx hb gd_Md_begins_56 (by decide) ?_
            refine lv_goto (tgt := 61) hx hb gd_Md_begins_57 (by decide) ?_
            refine lv_istore (lv' := [(5, .int 1), (4, .int (u.1 7 (Int32.toNatClampNeg x3))), (0, .ref (ad 0 0)), (1, .int x1), (2, .int x2), (3, .int x3)]) hx hb gd_Md_begins_61 hl (by decide) rfl (fun ls hl => ?_)
            refine lv_iconst (v := 0) hx hb gd_Md_begins_63 (by decide) ?_
            refine lv_istore (lv' := [(6, .int 0), (5, .int 1), (4, .int (u.1 7 (Int32.toNatClampNeg x3))), (0, .ref (ad 0 0)), (1, .int x1), (2, .int x2), (3, .int x3)]) hx hb gd_Md_begins_64 hl (by decide) rfl (fun ls hl => ?_)
            exact L66 gm_fu x1 x2 x3 (u.1 7 (Int32.toNatClampNeg x3)) 1 0 u _ _ _ hf hH hS (lv_sub hl [3, 4, 5, 6, 2, 1, 0] rfl)
  unfold fn_Md_begins at hf
  refine lv_iload_n hx hb gd_Md_begins_0 rfl (lv_at hl 1 rfl) ?_
  refine lv_iconst (v := 0) hx hb gd_Md_begins_1 (by decide) ?_
  refine lv_iconst (v := 3) hx hb gd_Md_begins_2 (by decide) ?_
  obtain ⟨z1, hc2, hf⟩ := Option.bind_eq_some_iff.mp hf
  refine gq_calli (va_runS (As := [.int p1, .int 0, .int 3]) (rest := []) ⟨hx, hb, hml, hown, hts⟩ (ct_Md_in l D cI cZ ad hI u p1 0 3 z1 hc2) (va_cwS 3 hts (gt_S gt_423 gt_424 gt_5 gt_425) rfl rfl rfl (by decide +kernel) ⟨Nat.le_of_ble_eq_true rfl, Nat.le_of_ble_eq_true rfl⟩) (gq_preS hH hK hN) rfl rfl hl.1 rfl (lv_room (Nat.le_of_ble_eq_true rfl)) gd_Md_begins_3 ⟨Nat.zero_le _, Nat.zero_le _⟩) hA hS (fun H locs hH hS => ?_)
  refine lv_if_ne (tgt := 11) hx hb gd_Md_begins_6 (by decide) (fun c15 => ?_) (fun c15 => ?_)
  · replace hf := gj_e c15 hf
    refine lv_iconst (v := 0) hx hb gd_Md_begins_11 (by decide) ?_
    refine lv_istore_n (lv' := [(2, .int 0), (0, .ref (ad 0 0)), (1, .int p1)]) hx hb gd_Md_begins_12 rfl hl (by decide) rfl (fun ls hl => ?_)
    refine lv_iconst (v := 0) hx hb gd_Md_begins_13 (by decide) ?_
    refine lv_istore_n (lv' := [(3, .int 0), (2, .int 0), (0, .ref (ad 0 0)), (1, .int p1)]) hx hb gd_Md_begins_14 rfl hl (by decide) rfl (fun ls hl => ?_)
    exact L15 gm_fu p1 0 0 z1.2 _ _ _ hf hH hS (lv_sub hl [2, 3, 1, 0] rfl)
  · replace hf := gj_t c15 hf
    refine lv_iconst (v := (-1)) hx hb gd_Md_begins_9 (by decide) ?_
    cases hf
    exact W.iret hx hb hr (fun t ht hW => ⟨⟨_, _, rfl, ⟨rfl, rfl⟩, ⟨by rw [ht]; exact hH, va_K.moved hW.alike hK⟩⟩, hS.F ht⟩) hS.2.2 gd_Md_begins_10
set_option maxHeartbeats 4000000 in
set_option maxRecDepth 100000 in
theorem ct_Md_from (l : Launch) (D : va_G) (cI cZ : ClassId) (ad : Nat → Nat → Nat) (hI : gq_I gm_vd ad) (u : gm_St) (p1 : Int32) (z : Int32 × gm_St) (hf : fn_Md_from p1 u = some z) : Met l gy_Md_from gws_Md_from ({ frames := 2, cells := 0, slots := 0, locals := 47 }) (va_Pc [.ref (ad 0 0), .int p1] (gq_pre D gc_cl (gm_tys cI cZ) gm_vd ad gm_NF gm_NM (gm_pc cI cZ ad u))) (va_Qi (fun r u2 => r = z.1 ∧ u2 = z.2) (fun u2 t => gq_B D gc_cl (gm_tys cI cZ) gm_vd ad (gm_pc cI cZ ad u2) t) (gq_A gm_vd ad)) 0 0 (gq_A gm_vd ad) := by
  refine Met.ofW (cc := gb_Md_from) (maxL := 2) (ret := (some .int)) (by decide) rfl ?_
  intro p e s m args below meth c s₁ B hml hv
  obtain ⟨rfl, hH, hK, hN⟩ := hv
  have hx := B.exec
  have hb := B.bytes
  have hr := B.returns
  have hts := atoms_spec (ws := gws_Md_from) B.pre
  have ht := fun (w : Cond) (h : w ∈ gt_T) => hts w (List.mem_cons_of_mem _ h)
  have hown : s.vm.findClass gR_Md = some m.cls := findClass_of_methodNamed B.named
  have hlocks := B.notSynchronized
  have hA : ∀ q, (gq_A gm_vd ad) q → (gq_A gm_vd ad) q := fun _ h => h
  have hS : va_S (gq_A gm_vd ad) s.heap s.heap [] := va_S.rf
  have hl := lv_entry ([.ref (ad 0 0), .int p1]) (n := 2) (Nat.le_of_ble_eq_true rfl)
  rw [lg_entry_eq]
  generalize (lg_sl ([.ref (ad 0 0), .int p1]) ++ List.replicate (2 - (lg_sl ([.ref (ad 0 0), .int p1])).length) Slot.unset).toArray = ls at hl ⊢
  have hl : lv_has ls 2 [(0, .ref (ad 0 0)), (1, .int p1)] := hl
  unfold fn_Md_from at hf
  refine lv_iload_n hx hb gd_Md_from_0 rfl (lv_at hl 1 rfl) ?_
  refine lv_iconst (v := 0) hx hb gd_Md_from_1 (by decide) ?_
  refine lv_iconst (v := 3) hx hb gd_Md_from_2 (by decide) ?_
  obtain ⟨z1, hc2, hf⟩ := Option.bind_eq_some_iff.mp hf
  refine gq_calli (va_runS (As := [.int p1, .int 0, .int 3]) (rest := []) ⟨hx, hb, hml, hown, hts⟩ (ct_Md_in l D cI cZ ad hI u p1 0 3 z1 hc2) (va_cwS 3 hts (gt_S gt_423 gt_424 gt_5 gt_425) rfl rfl rfl (by decide +kernel) ⟨Nat.le_of_ble_eq_true rfl, Nat.le_of_ble_eq_true rfl⟩) (gq_preS hH hK hN) rfl rfl hl.1 rfl (lv_room (Nat.le_of_ble_eq_true rfl)) gd_Md_from_3 ⟨Nat.zero_le _, Nat.zero_le _⟩) hA hS (fun H locs hH hS => ?_)
  refine lv_if_eq (tgt := 17) hx hb gd_Md_from_6 (by decide) (fun c5 => ?_) (fun c5 => ?_)
  · replace hf := gj_t c5 hf
    refine lv_iconst (v := (-1)) hx hb gd_Md_from_17 (by decide) ?_
    cases hf
    exact W.iret hx hb hr (fun t ht hW => ⟨⟨_, _, rfl, ⟨rfl, rfl⟩, ⟨by rw [ht]; exact hH, va_K.moved hW.alike hK⟩⟩, hS.F ht⟩) hS.2.2 gd_Md_from_18
  · replace hf := gj_e c5 hf
    refine lv_aload_n hx hb gd_Md_from_9 rfl (lv_at hl 0 rfl) ?_
    refine lv_iload_n hx hb gd_Md_from_10 rfl (lv_at hl 1 rfl) ?_
    obtain ⟨z3, hc4, hf⟩ := Option.bind_eq_some_iff.mp hf
    refine gq_calli (va_runV (As := [.int p1]) (rest := []) ⟨hx, hb, hml, hown, hts⟩ (ct_Md_before l D cI cZ ad hI z1.2 p1 z3 hc4) (cwV 1 hts (gt_V gt_447 gt_449 (gt_sel (List.mem_of_getElem? (i := 26) rfl)) gt_5 gt_450) rfl rfl rfl (by decide +kernel) ⟨Nat.le_of_ble_eq_true rfl, Nat.le_of_ble_eq_true rfl⟩) (gq_preV hH hK hN (va_recv hK (gq_one (c := 0) (k := 0) hH rfl (gm_c0 cI cZ ad z1.2)) (ci := 4) (q0 := 0) rfl rfl)) rfl rfl hl.1 rfl (lv_room (Nat.le_of_ble_eq_true rfl)) gd_Md_from_11 ⟨Nat.zero_le _, Nat.zero_le _⟩) hA hS (fun H locs hH hS => ?_)
    refine lv_goto (tgt := 18) hx hb gd_Md_from_14 (by decide) ?_
    cases hf
    exact W.iret hx hb hr (fun t ht hW => ⟨⟨_, _, rfl, ⟨rfl, rfl⟩, ⟨by rw [ht]; exact hH, va_K.moved hW.alike hK⟩⟩, hS.F ht⟩) hS.2.2 gd_Md_from_18
set_option maxHeartbeats 4000000 in
set_option maxRecDepth 100000 in
theorem ct_Md_version (l : Launch) (D : va_G) (cI cZ : ClassId) (ad : Nat → Nat → Nat) (hI : gq_I gm_vd ad) (u : gm_St)  (z : Int32 × gm_St) (hf : fn_Md_version u = some z) : Met l gy_Md_version gws_Md_version ({ frames := 0, cells := 0, slots := 0, locals := 0 }) (va_Pc [.ref (ad 0 0)] (gq_pre D gc_cl (gm_tys cI cZ) gm_vd ad gm_NF gm_NM (gm_pc cI cZ ad u))) (va_Qi (fun r u2 => r = z.1 ∧ u2 = z.2) (fun u2 t => gq_B D gc_cl (gm_tys cI cZ) gm_vd ad (gm_pc cI cZ ad u2) t) (gq_A gm_vd ad)) 0 0 (gq_A gm_vd ad) := by
  refine Met.ofW (cc := gb_Md_version) (maxL := 2) (ret := (some .int)) (by decide) rfl ?_
  intro p e s m args below meth c s₁ B hml hv
  obtain ⟨rfl, hH, hK, hN⟩ := hv
  have hx := B.exec
  have hb := B.bytes
  have hr := B.returns
  have hts := atoms_spec (ws := gws_Md_version) B.pre
  have ht := fun (w : Cond) (h : w ∈ gt_T) => hts w (List.mem_cons_of_mem _ h)
  have hown : s.vm.findClass gR_Md = some m.cls := findClass_of_methodNamed B.named
  have hlocks := B.notSynchronized
  have hA : ∀ q, (gq_A gm_vd ad) q → (gq_A gm_vd ad) q := fun _ h => h
  have hS : va_S (gq_A gm_vd ad) s.heap s.heap [] := va_S.rf
  have hl := lv_entry ([.ref (ad 0 0)]) (n := 2) (Nat.le_of_ble_eq_true rfl)
  rw [lg_entry_eq]
  generalize (lg_sl ([.ref (ad 0 0)]) ++ List.replicate (2 - (lg_sl ([.ref (ad 0 0)])).length) Slot.unset).toArray = ls at hl ⊢
  have hl : lv_has ls 2 [(0, .ref (ad 0 0))] := hl
  have L27 : ∀ (n : Nat) (x1 : Int32) (u : gm_St) (H : Heap) (locs : List Loc) (ls : Array Slot), fn_Md_version_27 n x1 u = some z → gq_H D gc_cl gm_vd ad (gm_pc cI cZ ad u) H → va_S (gq_A gm_vd ad) s.heap H locs → lv_has ls 2 [(0, .ref (ad 0 0)), (1, .int x1)] → W p l e (headSpec gws_Md_version ({ frames := 0, cells := 0, slots := 0, locals := 0 })).room s m ([.ref (ad 0 0)] : List Value).toArray below meth c H locs 0 0 (MQ below (va_Qi (fun r u2 => r = z.1 ∧ u2 = z.2) (fun u2 t => gq_B D gc_cl (gm_tys cI cZ) gm_vd ad (gm_pc cI cZ ad u2) t) (gq_A gm_vd ad)) ([.ref (ad 0 0)] : List Value).toArray s 0 0 (gq_A gm_vd ad)) (F0 m 27 ls []) := by
    intro n
    induction n with
    | zero =>
      intro x1 u H locs ls hf
      have h0 : none = some z := hf
      cases h0
    | succ n ih =>
      intro x1 u H locs ls hf hH hS hl
      rw [fn_Md_version_27] at hf
      refine lv_iload_n hx hb gd_Md_version_27 rfl (lv_at hl 1 rfl) ?_
      refine lv_bipush (v := 100) hx hb gd_Md_version_28 (by decide) ?_
      refine lv_icmp_ge (tgt := 76) hx hb gd_Md_version_30 (by decide) (fun c9 => ?_) (fun c9 => ?_)
      · replace hf := gj_t c9 hf
        refine lv_aload_n hx hb gd_Md_version_76 rfl (lv_at hl 0 rfl) ?_
        refine lv_dup hx hb gd_Md_version_77 rfl ?_
        refine va_get (D := D) (ci := 4) (C := gR_Md) (T := gT_Md) (N := 16) hx hb hts (fun w h => List.mem_cons_of_mem _ (gl_Md w h)) hown hK (gq_one (c := 0) (k := 0) hH rfl (gm_c0 cI cZ ad u)) 0 rfl rfl 12 (by decide) (ht _ gt_381) (fun _ h9 => h9) rfl gd_Md_version_78 ?_
        refine lv_iconst (v := 1) hx hb gd_Md_version_81 (by decide) ?_
        refine lv_iadd hx hb gd_Md_version_82 ?_
        refine gq_put (D := D) (ci := 4) (C := gR_Md) (T := gT_Md) (N := 16) (ca := 0) (ka := 0) (pp' := gm_pc cI cZ ad (gm_sI u 15 0 ((u.1 15 0) + 1))) (ty := .int) hx hb hts (fun w h => List.mem_cons_of_mem _ (gl_Md w h)) gF_Md gf_Md gn_Md hown hK hH hI hA rfl (gm_c0 cI cZ ad u) rfl 12 (by decide) (ht _ gt_381) (fun _ h9 => h9) rfl (by decide +kernel) rfl rfl (Nat.le_of_ble_eq_true rfl) (gm_w15 cI cZ ad u ((u.1 15 0) + 1)) (gm_o15 cI cZ ad u ((u.1 15 0) + 1)) hS gd_Md_version_83 (fun H locs hH hS => ?_)
        refine lv_aload_n hx hb gd_Md_version_86 rfl (lv_at hl 0 rfl) ?_
        refine lv_dup hx hb gd_Md_version_87 rfl ?_
        refine va_get (D := D) (ci := 4) (C := gR_Md) (T := gT_Md) (N := 16) hx hb hts (fun w h => List.mem_cons_of_mem _ (gl_Md w h)) hown hK (gq_one (c := 0) (k := 0) hH rfl (gm_c0 cI cZ ad (gm_sI u 15 0 ((u.1 15 0) + 1)))) 0 rfl rfl 11 (by decide) (ht _ gt_380) (fun _ h9 => h9) rfl gd_Md_version_88 ?_
        refine lv_iconst (v := 1) hx hb gd_Md_version_91 (by decide) ?_
        refine lv_iadd hx hb gd_Md_version_92 ?_
        refine gq_put (D := D) (ci := 4) (C := gR_Md) (T := gT_Md) (N := 16) (ca := 0) (ka := 0) (pp' := gm_pc cI cZ ad (gm_sI (gm_sI u 15 0 ((u.1 15 0) + 1)) 14 0 (((gm_sI u 15 0 ((u.1 15 0) + 1)).1 14 0) + 1))) (ty := .int) hx hb hts (fun w h => List.mem_cons_of_mem _ (gl_Md w h)) gF_Md gf_Md gn_Md hown hK hH hI hA rfl (gm_c0 cI cZ ad (gm_sI u 15 0 ((u.1 15 0) + 1))) rfl 11 (by decide) (ht _ gt_380) (fun _ h9 => h9) rfl (by decide +kernel) rfl rfl (Nat.le_of_ble_eq_true rfl) (gm_w14 cI cZ ad (gm_sI u 15 0 ((u.1 15 0) + 1)) (((gm_sI u 15 0 ((u.1 15 0) + 1)).1 14 0) + 1)) (gm_o14 cI cZ ad (gm_sI u 15 0 ((u.1 15 0) + 1)) (((gm_sI u 15 0 ((u.1 15 0) + 1)).1 14 0) + 1)) hS gd_Md_version_93 (fun H locs hH hS => ?_)
        refine lv_aload_n hx hb gd_Md_version_96 rfl (lv_at hl 0 rfl) ?_
        refine va_get (D := D) (ci := 4) (C := gR_Md) (T := gT_Md) (N := 16) hx hb hts (fun w h => List.mem_cons_of_mem _ (gl_Md w h)) hown hK (gq_one (c := 0) (k := 0) hH rfl (gm_c0 cI cZ ad (gm_sI (gm_sI u 15 0 ((u.1 15 0) + 1)) 14 0 (((gm_sI u 15 0 ((u.1 15 0) + 1)).1 14 0) + 1)))) 0 rfl rfl 11 (by decide) (ht _ gt_380) (fun _ h9 => h9) rfl gd_Md_version_97 ?_
        refine lv_iconst (v := 1) hx hb gd_Md_version_100 (by decide) ?_
        refine lv_isub hx hb gd_Md_version_101 ?_
        cases hf
        exact W.iret hx hb hr (fun t ht hW => ⟨⟨_, _, rfl, ⟨rfl, rfl⟩, ⟨by rw [ht]; exact hH, va_K.moved hW.alike hK⟩⟩, hS.F ht⟩) hS.2.2 gd_Md_version_102
      · replace hf := gj_e c9 hf
        refine lv_aload_n hx hb gd_Md_version_33 rfl (lv_at hl 0 rfl) ?_
        refine va_get (D := D) (ci := 4) (C := gR_Md) (T := gT_Md) (N := 16) hx hb hts (fun w h => List.mem_cons_of_mem _ (gl_Md w h)) hown hK (gq_one (c := 0) (k := 0) hH rfl (gm_c0 cI cZ ad u)) 0 rfl rfl 14 (by decide) (ht _ gt_383) (fun _ h9 => h9) rfl gd_Md_version_34 ?_
        refine lv_bipush (v := 100) hx hb gd_Md_version_37 (by decide) ?_
        refine lv_aload_n hx hb gd_Md_version_39 rfl (lv_at hl 0 rfl) ?_
        refine va_get (D := D) (ci := 4) (C := gR_Md) (T := gT_Md) (N := 16) hx hb hts (fun w h => List.mem_cons_of_mem _ (gl_Md w h)) hown hK (gq_one (c := 0) (k := 0) hH rfl (gm_c0 cI cZ ad u)) 0 rfl rfl 12 (by decide) (ht _ gt_381) (fun _ h9 => h9) rfl gd_Md_version_40 ?_
        refine lv_imul hx hb gd_Md_version_43 ?_
        refine lv_iload_n hx hb gd_Md_version_44 rfl (lv_at hl 1 rfl) ?_
        refine lv_iadd hx hb gd_Md_version_45 ?_
        refine lv_aload_n hx hb gd_Md_version_46 rfl (lv_at hl 0 rfl) ?_
        refine va_get (D := D) (ci := 4) (C := gR_Md) (T := gT_Md) (N := 16) hx hb hts (fun w h => List.mem_cons_of_mem _ (gl_Md w h)) hown hK (gq_one (c := 0) (k := 0) hH rfl (gm_c0 cI cZ ad u)) 0 rfl rfl 2 (by decide) (ht _ gt_371) (fun _ h9 => h9) rfl gd_Md_version_47 ?_
        refine lv_iload_n hx hb gd_Md_version_50 rfl (lv_at hl 1 rfl) ?_
        obtain ⟨hg2, hf⟩ := gj_g hf
        refine va_zald (D := D) hx hb hK (gq_one (c := 2) (k := 0) hH rfl (gm_c2 cI cZ ad u)) 0 1 rfl rfl hg2 gd_Md_version_51 ?_
        refine lv_if_eq (tgt := 68) hx hb gd_Md_version_52 (by decide) (fun c8 => ?_) (fun c8 => ?_)
        · replace hf := gj_t c8 hf
          refine lv_iconst (v := 0) hx hb gd_Md_version_68 (by decide) ?_
          obtain ⟨hg3, hf⟩ := gj_g hf
          refine gq_zast (D := D) (ca := 10) (ka := 0) (pp' := gm_pc cI cZ ad (gm_sI u 10 (Int32.toNatClampNeg ((100 * (u.1 15 0)) + x1)) (vp_nar .boolean 0))) hx hb hK hH hI hA rfl (gm_c10 cI cZ ad u) 1 rfl hg3 (gm_w10 cI cZ ad u (Int32.toNatClampNeg ((100 * (u.1 15 0)) + x1)) (vp_nar .boolean 0)) (gm_o10 cI cZ ad u (Int32.toNatClampNeg ((100 * (u.1 15 0)) + x1)) (vp_nar .boolean 0)) hS gd_Md_version_69 (fun H locs hH hS => ?_)
          refine lv_iinc (v := x1 + 1) (lv' := [(1, .int (x1 + 1)), (0, .ref (ad 0 0))]) hx hb gd_Md_version_70 hl (k := 1) rfl rfl (by decide) rfl (fun ls hl => ?_)
          refine lv_goto (tgt := 27) hx hb gd_Md_version_73 (by decide) ?_
          exact ih (x1 + 1) (gm_sI u 10 (Int32.toNatClampNeg ((100 * (u.1 15 0)) + x1)) (vp_nar .boolean 0)) _ _ _ hf hH hS (lv_sub hl [1, 0] rfl)
        · replace hf := gj_e c8 hf
          refine lv_aload_n hx hb gd_Md_version_55 rfl (lv_at hl 0 rfl) ?_
          refine va_get (D := D) (ci := 4) (C := gR_Md) (T := gT_Md) (N := 16) hx hb hts (fun w h => List.mem_cons_of_mem _ (gl_Md w h)) hown hK (gq_one (c := 0) (k := 0) hH rfl (gm_c0 cI cZ ad u)) 0 rfl rfl 4 (by decide) (ht _ gt_373) (fun _ h9 => h9) rfl gd_Md_version_56 ?_
          refine lv_iload_n hx hb gd_Md_version_59 rfl (lv_at hl 1 rfl) ?_
          obtain ⟨hg4, hf⟩ := gj_g hf
          refine va_iald (D := D) hx hb hK (gq_one (c := 4) (k := 0) hH rfl (gm_c4 cI cZ ad u)) 0 0 rfl rfl hg4 gd_Md_version_60 ?_
          refine lv_if_le (tgt := 68) hx hb gd_Md_version_61 (by decide) (fun c7 => ?_) (fun c7 => ?_)
          · replace hf := gj_t c7 hf
            refine lv_iconst (v := 0) hx hb gd_Md_version_68 (by decide) ?_
            obtain ⟨hg5, hf⟩ := gj_g hf
            refine gq_zast (D := D) (ca := 10) (ka := 0) (pp' := gm_pc cI cZ ad (gm_sI u 10 (Int32.toNatClampNeg ((100 * (u.1 15 0)) + x1)) (vp_nar .boolean 0))) hx hb hK hH hI hA rfl (gm_c10 cI cZ ad u) 1 rfl hg5 (gm_w10 cI cZ ad u (Int32.toNatClampNeg ((100 * (u.1 15 0)) + x1)) (vp_nar .boolean 0)) (gm_o10 cI cZ ad u (Int32.toNatClampNeg ((100 * (u.1 15 0)) + x1)) (vp_nar .boolean 0)) hS gd_Md_version_69 (fun H locs hH hS => ?_)
            refine lv_iinc (v := x1 + 1) (lv' := [(1, .int (x1 + 1)), (0, .ref (ad 0 0))]) hx hb gd_Md_version_70 hl (k := 1) rfl rfl (by decide) rfl (fun ls hl => ?_)
            refine lv_goto (tgt := 27) hx hb gd_Md_version_73 (by decide) ?_
            exact ih (x1 + 1) (gm_sI u 10 (Int32.toNatClampNeg ((100 * (u.1 15 0)) + x1)) (vp_nar .boolean 0)) _ _ _ hf hH hS (lv_sub hl [1, 0] rfl)
          · replace hf := gj_e c7 hf
            refine lv_iconst (v := 1) hx hb gd_Md_version_64 (by decide) ?_
            refine lv_goto (tgt := 69) hx hb gd_Md_version_65 (by decide) ?_
            obtain ⟨hg6, hf⟩ := gj_g hf
            refine gq_zast (D := D) (ca := 10) (ka := 0) (pp' := gm_pc cI cZ ad (gm_sI u 10 (Int32.toNatClampNeg ((100 * (u.1 15 0)) + x1)) (vp_nar .boolean 1))) hx hb hK hH hI hA rfl (gm_c10 cI cZ ad u) 1 rfl hg6 (gm_w10 cI cZ ad u (Int32.toNatClampNeg ((100 * (u.1 15 0)) + x1)) (vp_nar .boolean 1)) (gm_o10 cI cZ ad u (Int32.toNatClampNeg ((100 * (u.1 15 0)) + x1)) (vp_nar .boolean 1)) hS gd_Md_version_69 (fun H locs hH hS => ?_)
            refine lv_iinc (v := x1 + 1) (lv' := [(1, .int (x1 + 1)), (0, .ref (ad 0 0))]) hx hb gd_Md_version_70 hl (k := 1) rfl rfl (by decide) rfl (fun ls hl => ?_)
            refine lv_goto (tgt := 27) hx hb gd_Md_version_73 (by decide) ?_
            exact ih (x1 + 1) (gm_sI u 10 (Int32.toNatClampNeg ((100 * (u.1 15 0)) + x1)) (vp_nar .boolean 1)) _ _ _ hf hH hS (lv_sub hl [1, 0] rfl)
  unfold fn_Md_version at hf
  refine lv_aload_n hx hb gd_Md_version_0 rfl (lv_at hl 0 rfl) ?_
  refine va_get (D := D) (ci := 4) (C := gR_Md) (T := gT_Md) (N := 16) hx hb hts (fun w h => List.mem_cons_of_mem _ (gl_Md w h)) hown hK (gq_one (c := 0) (k := 0) hH rfl (gm_c0 cI cZ ad u)) 0 rfl rfl 12 (by decide) (ht _ gt_381) (fun _ h9 => h9) rfl gd_Md_version_1 ?_
  refine lv_bipush (v := 6) hx hb gd_Md_version_4 (by decide) ?_
  refine lv_icmp_ne (tgt := 12) hx hb gd_Md_version_6 (by decide) (fun c10 => ?_) (fun c10 => ?_)
  · replace hf := gj_e c10 hf
    refine lv_aload_n hx hb gd_Md_version_12 rfl (lv_at hl 0 rfl) ?_
    refine va_get (D := D) (ci := 4) (C := gR_Md) (T := gT_Md) (N := 16) hx hb hts (fun w h => List.mem_cons_of_mem _ (gl_Md w h)) hown hK (gq_one (c := 0) (k := 0) hH rfl (gm_c0 cI cZ ad u)) 0 rfl rfl 13 (by decide) (ht _ gt_382) (fun _ h9 => h9) rfl gd_Md_version_13 ?_
    refine lv_aload_n hx hb gd_Md_version_16 rfl (lv_at hl 0 rfl) ?_
    refine va_get (D := D) (ci := 4) (C := gR_Md) (T := gT_Md) (N := 16) hx hb hts (fun w h => List.mem_cons_of_mem _ (gl_Md w h)) hown hK (gq_one (c := 0) (k := 0) hH rfl (gm_c0 cI cZ ad u)) 0 rfl rfl 12 (by decide) (ht _ gt_381) (fun _ h9 => h9) rfl gd_Md_version_17 ?_
    refine lv_aload_n hx hb gd_Md_version_20 rfl (lv_at hl 0 rfl) ?_
    refine va_get (D := D) (ci := 4) (C := gR_Md) (T := gT_Md) (N := 16) hx hb hts (fun w h => List.mem_cons_of_mem _ (gl_Md w h)) hown hK (gq_one (c := 0) (k := 0) hH rfl (gm_c0 cI cZ ad u)) 0 rfl rfl 11 (by decide) (ht _ gt_380) (fun _ h9 => h9) rfl gd_Md_version_21 ?_
    obtain ⟨hg1, hf⟩ := gj_g hf
    refine gq_iast (D := D) (ca := 9) (ka := 0) (pp' := gm_pc cI cZ ad (gm_sI u 9 (Int32.toNatClampNeg (u.1 15 0)) (u.1 14 0))) hx hb hK hH hI hA rfl (gm_c9 cI cZ ad u) 0 rfl hg1 (gm_w9 cI cZ ad u (Int32.toNatClampNeg (u.1 15 0)) (u.1 14 0)) (gm_o9 cI cZ ad u (Int32.toNatClampNeg (u.1 15 0)) (u.1 14 0)) hS gd_Md_version_24 (fun H locs hH hS => ?_)
    refine lv_iconst (v := 0) hx hb gd_Md_version_25 (by decide) ?_
    refine lv_istore_n (lv' := [(1, .int 0), (0, .ref (ad 0 0))]) hx hb gd_Md_version_26 rfl hl (by decide) rfl (fun ls hl => ?_)
    exact L27 gm_fu 0 (gm_sI u 9 (Int32.toNatClampNeg (u.1 15 0)) (u.1 14 0)) _ _ _ hf hH hS (lv_sub hl [1, 0] rfl)
  · replace hf := gj_t c10 hf
    refine lv_bipush (v := (-3)) hx hb gd_Md_version_9 (by decide) ?_
    cases hf
    exact W.iret hx hb hr (fun t ht hW => ⟨⟨_, _, rfl, ⟨rfl, rfl⟩, ⟨by rw [ht]; exact hH, va_K.moved hW.alike hK⟩⟩, hS.F ht⟩) hS.2.2 gd_Md_version_11
set_option maxHeartbeats 4000000 in
set_option maxRecDepth 100000 in
theorem ct_Md_keptAs (l : Launch) (D : va_G) (cI cZ : ClassId) (ad : Nat → Nat → Nat) (hI : gq_I gm_vd ad) (u : gm_St) (p1 : Int32) (z : Int32 × gm_St) (hf : fn_Md_keptAs p1 u = some z) : Met l gy_Md_keptAs gws_Md_keptAs ({ frames := 0, cells := 0, slots := 0, locals := 0 }) (va_Pc [.ref (ad 0 0), .int p1] (gq_pre D gc_cl (gm_tys cI cZ) gm_vd ad gm_NF gm_NM (gm_pc cI cZ ad u))) (va_Qi (fun r u2 => r = z.1 ∧ u2 = z.2) (fun u2 t => gq_B D gc_cl (gm_tys cI cZ) gm_vd ad (gm_pc cI cZ ad u2) t) (gq_A gm_vd ad)) 0 0 (gq_A gm_vd ad) := by
  refine Met.ofW (cc := gb_Md_keptAs) (maxL := 4) (ret := (some .int)) (by decide) rfl ?_
  intro p e s m args below meth c s₁ B hml hv
  obtain ⟨rfl, hH, hK, hN⟩ := hv
  have hx := B.exec
  have hb := B.bytes
  have hr := B.returns
  have hts := atoms_spec (ws := gws_Md_keptAs) B.pre
  have ht := fun (w : Cond) (h : w ∈ gt_T) => hts w (List.mem_cons_of_mem _ h)
  have hown : s.vm.findClass gR_Md = some m.cls := findClass_of_methodNamed B.named
  have hlocks := B.notSynchronized
  have hA : ∀ q, (gq_A gm_vd ad) q → (gq_A gm_vd ad) q := fun _ h => h
  have hS : va_S (gq_A gm_vd ad) s.heap s.heap [] := va_S.rf
  have hl := lv_entry ([.ref (ad 0 0), .int p1]) (n := 4) (Nat.le_of_ble_eq_true rfl)
  rw [lg_entry_eq]
  generalize (lg_sl ([.ref (ad 0 0), .int p1]) ++ List.replicate (4 - (lg_sl ([.ref (ad 0 0), .int p1])).length) Slot.unset).toArray = ls at hl ⊢
  have hl : lv_has ls 4 [(0, .ref (ad 0 0)), (1, .int p1)] := hl
  have L4 : ∀ (n : Nat) (x1 : Int32) (x2 : Int32) (x3 : Int32) (u : gm_St) (H : Heap) (locs : List Loc) (ls : Array Slot), fn_Md_keptAs_4 n x1 x2 x3 u = some z → gq_H D gc_cl gm_vd ad (gm_pc cI cZ ad u) H → va_S (gq_A gm_vd ad) s.heap H locs → lv_has ls 4 [(0, .ref (ad 0 0)), (1, .int x1), (2, .int x2), (3, .int x3)] → W p l e (headSpec gws_Md_keptAs ({ frames := 0, cells := 0, slots := 0, locals := 0 })).room s m ([.ref (ad 0 0), .int p1] : List Value).toArray below meth c H locs 0 0 (MQ below (va_Qi (fun r u2 => r = z.1 ∧ u2 = z.2) (fun u2 t => gq_B D gc_cl (gm_tys cI cZ) gm_vd ad (gm_pc cI cZ ad u2) t) (gq_A gm_vd ad)) ([.ref (ad 0 0), .int p1] : List Value).toArray s 0 0 (gq_A gm_vd ad)) (F0 m 4 ls []) := by
    intro n
    induction n with
    | zero =>
      intro x1 x2 x3 u H locs ls hf
      have h0 : none = some z := hf
      cases h0
    | succ n ih =>
      intro x1 x2 x3 u H locs ls hf hH hS hl
      rw [fn_Md_keptAs_4] at hf
      refine lv_iload_n hx hb gd_Md_keptAs_4 rfl (lv_at hl 3 rfl) ?_
      refine lv_aload_n hx hb gd_Md_keptAs_5 rfl (lv_at hl 0 rfl) ?_
      refine va_get (D := D) (ci := 4) (C := gR_Md) (T := gT_Md) (N := 16) hx hb hts (fun w h => List.mem_cons_of_mem _ (gl_Md w h)) hown hK (gq_one (c := 0) (k := 0) hH rfl (gm_c0 cI cZ ad u)) 0 rfl rfl 12 (by decide) (ht _ gt_381) (fun _ h9 => h9) rfl gd_Md_keptAs_6 ?_
      refine lv_icmp_ge (tgt := 34) hx hb gd_Md_keptAs_9 (by decide) (fun c3 => ?_) (fun c3 => ?_)
      · replace hf := gj_t c3 hf
        refine lv_iload_n hx hb gd_Md_keptAs_34 rfl (lv_at hl 2 rfl) ?_
        cases hf
        exact W.iret hx hb hr (fun t ht hW => ⟨⟨_, _, rfl, ⟨rfl, rfl⟩, ⟨by rw [ht]; exact hH, va_K.moved hW.alike hK⟩⟩, hS.F ht⟩) hS.2.2 gd_Md_keptAs_35
      · replace hf := gj_e c3 hf
        refine lv_aload_n hx hb gd_Md_keptAs_12 rfl (lv_at hl 0 rfl) ?_
        refine va_get (D := D) (ci := 4) (C := gR_Md) (T := gT_Md) (N := 16) hx hb hts (fun w h => List.mem_cons_of_mem _ (gl_Md w h)) hown hK (gq_one (c := 0) (k := 0) hH rfl (gm_c0 cI cZ ad u)) 0 rfl rfl 13 (by decide) (ht _ gt_382) (fun _ h9 => h9) rfl gd_Md_keptAs_13 ?_
        refine lv_iload_n hx hb gd_Md_keptAs_16 rfl (lv_at hl 3 rfl) ?_
        obtain ⟨hg1, hf⟩ := gj_g hf
        refine va_iald (D := D) hx hb hK (gq_one (c := 9) (k := 0) hH rfl (gm_c9 cI cZ ad u)) 0 0 rfl rfl hg1 gd_Md_keptAs_17 ?_
        refine lv_iload_n hx hb gd_Md_keptAs_18 rfl (lv_at hl 1 rfl) ?_
        refine lv_icmp_ne (tgt := 26) hx hb gd_Md_keptAs_19 (by decide) (fun c2 => ?_) (fun c2 => ?_)
        · replace hf := gj_e c2 hf
          refine lv_iload_n hx hb gd_Md_keptAs_26 rfl (lv_at hl 2 rfl) ?_
          refine lv_istore_n (lv' := [(2, .int x2), (0, .ref (ad 0 0)), (1, .int x1), (3, .int x3)]) hx hb gd_Md_keptAs_27 rfl hl (by decide) rfl (fun ls hl => ?_)
          refine lv_iinc (v := x3 + 1) (lv' := [(3, .int (x3 + 1)), (2, .int x2), (0, .ref (ad 0 0)), (1, .int x1)]) hx hb gd_Md_keptAs_28 hl (k := 3) rfl rfl (by decide) rfl (fun ls hl => ?_)
          refine lv_goto (tgt := 4) hx hb gd_Md_keptAs_31 (by decide) ?_
          exact ih x1 x2 (x3 + 1) u _ _ _ hf hH hS (lv_sub hl [2, 3, 1, 0] rfl)
        · replace hf := gj_t c2 hf
          refine lv_iload_n hx hb gd_Md_keptAs_22 rfl (lv_at hl 3 rfl) ?_
          refine lv_goto (tgt := 27) hx hb gd_Md_keptAs_23 (by decide) ?_
          refine lv_istore_n (lv' := [(2, .int x3), (0, .ref (ad 0 0)), (1, .int x1), (3, .int x3)]) hx hb gd_Md_keptAs_27 rfl hl (by decide) rfl (fun ls hl => ?_)
          refine lv_iinc (v := x3 + 1) (lv' := [(3, .int (x3 + 1)), (2, .int x3), (0, .ref (ad 0 0)), (1, .int x1)]) hx hb gd_Md_keptAs_28 hl (k := 3) rfl rfl (by decide) rfl (fun ls hl => ?_)
          refine lv_goto (tgt := 4) hx hb gd_Md_keptAs_31 (by decide) ?_
          exact ih x1 x3 (x3 + 1) u _ _ _ hf hH hS (lv_sub hl [2, 3, 1, 0] rfl)
  unfold fn_Md_keptAs at hf
  refine lv_iconst (v := (-1)) hx hb gd_Md_keptAs_0 (by decide) ?_
  refine lv_istore_n (lv' := [(2, .int (-1)), (0, .ref (ad 0 0)), (1, .int p1)]) hx hb gd_Md_keptAs_1 rfl hl (by decide) rfl (fun ls hl => ?_)
  refine lv_iconst (v := 0) hx hb gd_Md_keptAs_2 (by decide) ?_
  refine lv_istore_n (lv' := [(3, .int 0), (2, .int (-1)), (0, .ref (ad 0 0)), (1, .int p1)]) hx hb gd_Md_keptAs_3 rfl hl (by decide) rfl (fun ls hl => ?_)
  exact L4 gm_fu p1 (-1) 0 u _ _ _ hf hH hS (lv_sub hl [2, 3, 1, 0] rfl)
set_option maxHeartbeats 4000000 in
set_option maxRecDepth 100000 in
theorem ct_Md_release (l : Launch) (D : va_G) (cI cZ : ClassId) (ad : Nat → Nat → Nat) (hI : gq_I gm_vd ad) (u : gm_St) (p1 : Int32) (z : Int32 × gm_St) (hf : fn_Md_release p1 u = some z) : Met l gy_Md_release gws_Md_release ({ frames := 2, cells := 0, slots := 0, locals := 47 }) (va_Pc [.ref (ad 0 0), .int p1] (gq_pre D gc_cl (gm_tys cI cZ) gm_vd ad gm_NF gm_NM (gm_pc cI cZ ad u))) (va_Qi (fun r u2 => r = z.1 ∧ u2 = z.2) (fun u2 t => gq_B D gc_cl (gm_tys cI cZ) gm_vd ad (gm_pc cI cZ ad u2) t) (gq_A gm_vd ad)) 0 0 (gq_A gm_vd ad) := by
  refine Met.ofW (cc := gb_Md_release) (maxL := 5) (ret := (some .int)) (by decide) rfl ?_
  intro p e s m args below meth c s₁ B hml hv
  obtain ⟨rfl, hH, hK, hN⟩ := hv
  have hx := B.exec
  have hb := B.bytes
  have hr := B.returns
  have hts := atoms_spec (ws := gws_Md_release) B.pre
  have ht := fun (w : Cond) (h : w ∈ gt_T) => hts w (List.mem_cons_of_mem _ h)
  have hown : s.vm.findClass gR_Md = some m.cls := findClass_of_methodNamed B.named
  have hlocks := B.notSynchronized
  have hA : ∀ q, (gq_A gm_vd ad) q → (gq_A gm_vd ad) q := fun _ h => h
  have hS : va_S (gq_A gm_vd ad) s.heap s.heap [] := va_S.rf
  have hl := lv_entry ([.ref (ad 0 0), .int p1]) (n := 5) (Nat.le_of_ble_eq_true rfl)
  rw [lg_entry_eq]
  generalize (lg_sl ([.ref (ad 0 0), .int p1]) ++ List.replicate (5 - (lg_sl ([.ref (ad 0 0), .int p1])).length) Slot.unset).toArray = ls at hl ⊢
  have hl : lv_has ls 5 [(0, .ref (ad 0 0)), (1, .int p1)] := hl
  have L148 : ∀ (n : Nat) (x1 : Int32) (x2 : Int32) (x3 : Int32) (x4 : Int32) (u : gm_St) (H : Heap) (locs : List Loc) (ls : Array Slot), fn_Md_release_148 n x1 x2 x3 x4 u = some z → gq_H D gc_cl gm_vd ad (gm_pc cI cZ ad u) H → va_S (gq_A gm_vd ad) s.heap H locs → lv_has ls 5 [(0, .ref (ad 0 0)), (1, .int x1), (2, .int x2), (3, .int x3), (4, .int x4)] → W p l e (headSpec gws_Md_release ({ frames := 2, cells := 0, slots := 0, locals := 47 })).room s m ([.ref (ad 0 0), .int p1] : List Value).toArray below meth c H locs 0 0 (MQ below (va_Qi (fun r u2 => r = z.1 ∧ u2 = z.2) (fun u2 t => gq_B D gc_cl (gm_tys cI cZ) gm_vd ad (gm_pc cI cZ ad u2) t) (gq_A gm_vd ad)) ([.ref (ad 0 0), .int p1] : List Value).toArray s 0 0 (gq_A gm_vd ad)) (F0 m 148 ls []) := by
    intro n
    induction n with
    | zero =>
      intro x1 x2 x3 x4 u H locs ls hf
      have h0 : none = some z := hf
      cases h0
    | succ n ih =>
      intro x1 x2 x3 x4 u H locs ls hf hH hS hl
      rw [fn_Md_release_148] at hf
      refine lv_iload hx hb gd_Md_release_148 (lv_at hl 4 rfl) ?_
      refine lv_iload_n hx hb gd_Md_release_150 rfl (lv_at hl 3 rfl) ?_
      refine lv_icmp_ge (tgt := 171) hx hb gd_Md_release_151 (by decide) (fun c6 => ?_) (fun c6 => ?_)
      · replace hf := gj_t c6 hf
        refine lv_iload_n hx hb gd_Md_release_171 rfl (lv_at hl 3 rfl) ?_
        cases hf
        exact W.iret hx hb hr (fun t ht hW => ⟨⟨_, _, rfl, ⟨rfl, rfl⟩, ⟨by rw [ht]; exact hH, va_K.moved hW.alike hK⟩⟩, hS.F ht⟩) hS.2.2 gd_Md_release_172
      · replace hf := gj_e c6 hf
        refine lv_aload_n hx hb gd_Md_release_154 rfl (lv_at hl 0 rfl) ?_
        refine lv_aload_n hx hb gd_Md_release_155 rfl (lv_at hl 0 rfl) ?_
        refine va_get (D := D) (ci := 4) (C := gR_Md) (T := gT_Md) (N := 16) hx hb hts (fun w h => List.mem_cons_of_mem _ (gl_Md w h)) hown hK (gq_one (c := 0) (k := 0) hH rfl (gm_c0 cI cZ ad u)) 0 rfl rfl 15 (by decide) (ht _ gt_384) (fun _ h9 => h9) rfl gd_Md_release_156 ?_
        refine lv_iload hx hb gd_Md_release_159 (lv_at hl 4 rfl) ?_
        obtain ⟨hg3, hf⟩ := gj_g hf
        refine va_iald (D := D) hx hb hK (gq_one (c := 11) (k := 0) hH rfl (gm_c11 cI cZ ad u)) 0 0 rfl rfl hg3 gd_Md_release_161 ?_
        obtain ⟨z4, hc5, hf⟩ := Option.bind_eq_some_iff.mp hf
        refine gq_callv (va_runV (As := [.int (u.1 11 (Int32.toNatClampNeg x4))]) (rest := []) ⟨hx, hb, hml, hown, hts⟩ (ct_Md_go l D cI cZ ad hI u (u.1 11 (Int32.toNatClampNeg x4)) z4 hc5) (cwV 1 hts (gt_V gt_475 gt_477 (gt_sel (List.mem_of_getElem? (i := 32) rfl)) gt_5 gt_478) rfl rfl rfl (by decide +kernel) ⟨Nat.le_of_ble_eq_true rfl, Nat.le_of_ble_eq_true rfl⟩) (gq_preV hH hK hN (va_recv hK (gq_one (c := 0) (k := 0) hH rfl (gm_c0 cI cZ ad u)) (ci := 4) (q0 := 0) rfl rfl)) rfl rfl hl.1 rfl (lv_room (Nat.le_of_ble_eq_true rfl)) gd_Md_release_162 ⟨Nat.zero_le _, Nat.zero_le _⟩) hA hS (fun H locs hH hS => ?_)
        refine lv_iinc (v := x4 + 1) (lv' := [(4, .int (x4 + 1)), (0, .ref (ad 0 0)), (1, .int x1), (2, .int x2), (3, .int x3)]) hx hb gd_Md_release_165 hl (k := 4) rfl rfl (by decide) rfl (fun ls hl => ?_)
        refine lv_goto (tgt := 148) hx hb gd_Md_release_168 (by decide) ?_
        exact ih x1 x2 x3 (x4 + 1) z4 _ _ _ hf hH hS (lv_sub hl [1, 2, 3, 4, 0] rfl)
  have L100 : ∀ (n : Nat) (x1 : Int32) (x2 : Int32) (x3 : Int32) (x4 : Int32) (u : gm_St) (H : Heap) (locs : List Loc) (ls : Array Slot), fn_Md_release_100 n x1 x2 x3 x4 u = some z → gq_H D gc_cl gm_vd ad (gm_pc cI cZ ad u) H → va_S (gq_A gm_vd ad) s.heap H locs → lv_has ls 5 [(0, .ref (ad 0 0)), (1, .int x1), (2, .int x2), (3, .int x3), (4, .int x4)] → W p l e (headSpec gws_Md_release ({ frames := 2, cells := 0, slots := 0, locals := 47 })).room s m ([.ref (ad 0 0), .int p1] : List Value).toArray below meth c H locs 0 0 (MQ below (va_Qi (fun r u2 => r = z.1 ∧ u2 = z.2) (fun u2 t => gq_B D gc_cl (gm_tys cI cZ) gm_vd ad (gm_pc cI cZ ad u2) t) (gq_A gm_vd ad)) ([.ref (ad 0 0), .int p1] : List Value).toArray s 0 0 (gq_A gm_vd ad)) (F0 m 100 ls []) := by
    intro n
    induction n with
    | zero =>
      intro x1 x2 x3 x4 u H locs ls hf
      have h0 : none = some z := hf
      cases h0
    | succ n ih =>
      intro x1 x2 x3 x4 u H locs ls hf hH hS hl
      rw [fn_Md_release_100] at hf
      refine lv_iload hx hb gd_Md_release_100 (lv_at hl 4 rfl) ?_
      refine lv_aload_n hx hb gd_Md_release_102 rfl (lv_at hl 0 rfl) ?_
      refine va_get (D := D) (ci := 4) (C := gR_Md) (T := gT_Md) (N := 16) hx hb hts (fun w h => List.mem_cons_of_mem _ (gl_Md w h)) hown hK (gq_one (c := 0) (k := 0) hH rfl (gm_c0 cI cZ ad u)) 0 rfl rfl 7 (by decide) (ht _ gt_376) (fun _ h9 => h9) rfl gd_Md_release_103 ?_
      refine lv_icmp_ge (tgt := 145) hx hb gd_Md_release_106 (by decide) (fun c13 => ?_) (fun c13 => ?_)
      · replace hf := gj_t c13 hf
        refine lv_iconst (v := 0) hx hb gd_Md_release_145 (by decide) ?_
        refine lv_istore (lv' := [(4, .int 0), (0, .ref (ad 0 0)), (1, .int x1), (2, .int x2), (3, .int x3)]) hx hb gd_Md_release_146 hl (by decide) rfl (fun ls hl => ?_)
        exact L148 gm_fu x1 x2 x3 0 u _ _ _ hf hH hS (lv_sub hl [1, 2, 3, 4, 0] rfl)
      · replace hf := gj_e c13 hf
        refine lv_aload_n hx hb gd_Md_release_109 rfl (lv_at hl 0 rfl) ?_
        refine lv_aload_n hx hb gd_Md_release_110 rfl (lv_at hl 0 rfl) ?_
        refine va_get (D := D) (ci := 4) (C := gR_Md) (T := gT_Md) (N := 16) hx hb hts (fun w h => List.mem_cons_of_mem _ (gl_Md w h)) hown hK (gq_one (c := 0) (k := 0) hH rfl (gm_c0 cI cZ ad u)) 0 rfl rfl 8 (by decide) (ht _ gt_377) (fun _ h9 => h9) rfl gd_Md_release_111 ?_
        refine lv_iload hx hb gd_Md_release_114 (lv_at hl 4 rfl) ?_
        obtain ⟨hg7, hf⟩ := gj_g hf
        refine va_iald (D := D) hx hb hK (gq_one (c := 7) (k := 0) hH rfl (gm_c7 cI cZ ad u)) 0 0 rfl rfl hg7 gd_Md_release_116 ?_
        obtain ⟨z8, hc9, hf⟩ := Option.bind_eq_some_iff.mp hf
        refine gq_calli (va_runV (As := [.int (u.1 7 (Int32.toNatClampNeg x4))]) (rest := []) ⟨hx, hb, hml, hown, hts⟩ (ct_Md_isLoose l D cI cZ ad hI u (u.1 7 (Int32.toNatClampNeg x4)) z8 hc9) (cwV 1 hts (gt_V gt_467 gt_469 (gt_sel (List.mem_of_getElem? (i := 30) rfl)) gt_5 gt_470) rfl rfl rfl (by decide +kernel) ⟨Nat.le_of_ble_eq_true rfl, Nat.le_of_ble_eq_true rfl⟩) (gq_preV hH hK hN (va_recv hK (gq_one (c := 0) (k := 0) hH rfl (gm_c0 cI cZ ad u)) (ci := 4) (q0 := 0) rfl rfl)) rfl rfl hl.1 rfl (lv_room (Nat.le_of_ble_eq_true rfl)) gd_Md_release_117 ⟨Nat.zero_le _, Nat.zero_le _⟩) hA hS (fun H locs hH hS => ?_)
        refine lv_if_eq (tgt := 139) hx hb gd_Md_release_120 (by decide) (fun c12 => ?_) (fun c12 => ?_)
        · replace hf := gj_t c12 hf
          refine lv_iinc (v := x4 + 1) (lv' := [(4, .int (x4 + 1)), (0, .ref (ad 0 0)), (1, .int x1), (2, .int x2), (3, .int x3)]) hx hb gd_Md_release_139 hl (k := 4) rfl rfl (by decide) rfl (fun ls hl => ?_)
          refine lv_goto (tgt := 100) hx hb gd_Md_release_142 (by decide) ?_
          exact ih x1 x2 x3 (x4 + 1) z8.2 _ _ _ hf hH hS (lv_sub hl [1, 2, 3, 4, 0] rfl)
        · replace hf := gj_e c12 hf
          refine lv_aload_n hx hb gd_Md_release_123 rfl (lv_at hl 0 rfl) ?_
          refine va_get (D := D) (ci := 4) (C := gR_Md) (T := gT_Md) (N := 16) hx hb hts (fun w h => List.mem_cons_of_mem _ (gl_Md w h)) hown hK (gq_one (c := 0) (k := 0) hH rfl (gm_c0 cI cZ ad z8.2)) 0 rfl rfl 15 (by decide) (ht _ gt_384) (fun _ h9 => h9) rfl gd_Md_release_124 ?_
          refine lv_iload_n hx hb gd_Md_release_127 rfl (lv_at hl 3 rfl) ?_
          refine lv_aload_n hx hb gd_Md_release_128 rfl (lv_at hl 0 rfl) ?_
          refine va_get (D := D) (ci := 4) (C := gR_Md) (T := gT_Md) (N := 16) hx hb hts (fun w h => List.mem_cons_of_mem _ (gl_Md w h)) hown hK (gq_one (c := 0) (k := 0) hH rfl (gm_c0 cI cZ ad z8.2)) 0 rfl rfl 8 (by decide) (ht _ gt_377) (fun _ h9 => h9) rfl gd_Md_release_129 ?_
          refine lv_iload hx hb gd_Md_release_132 (lv_at hl 4 rfl) ?_
          obtain ⟨hg10, hf⟩ := gj_g hf
          refine va_iald (D := D) hx hb hK (gq_one (c := 7) (k := 0) hH rfl (gm_c7 cI cZ ad z8.2)) 0 0 rfl rfl hg10 gd_Md_release_134 ?_
          obtain ⟨hg11, hf⟩ := gj_g hf
          refine gq_iast (D := D) (ca := 11) (ka := 0) (pp' := gm_pc cI cZ ad (gm_sI z8.2 11 (Int32.toNatClampNeg x3) (z8.2.1 7 (Int32.toNatClampNeg x4)))) hx hb hK hH hI hA rfl (gm_c11 cI cZ ad z8.2) 0 rfl hg11 (gm_w11 cI cZ ad z8.2 (Int32.toNatClampNeg x3) (z8.2.1 7 (Int32.toNatClampNeg x4))) (gm_o11 cI cZ ad z8.2 (Int32.toNatClampNeg x3) (z8.2.1 7 (Int32.toNatClampNeg x4))) hS gd_Md_release_135 (fun H locs hH hS => ?_)
          refine lv_iinc (v := x3 + 1) (lv' := [(3, .int (x3 + 1)), (0, .ref (ad 0 0)), (1, .int x1), (2, .int x2), (4, .int x4)]) hx hb gd_Md_release_136 hl (k := 3) rfl rfl (by decide) rfl (fun ls hl => ?_)
          refine lv_iinc (v := x4 + 1) (lv' := [(4, .int (x4 + 1)), (3, .int (x3 + 1)), (0, .ref (ad 0 0)), (1, .int x1), (2, .int x2)]) hx hb gd_Md_release_139 hl (k := 4) rfl rfl (by decide) rfl (fun ls hl => ?_)
          refine lv_goto (tgt := 100) hx hb gd_Md_release_142 (by decide) ?_
          exact ih x1 x2 (x3 + 1) (x4 + 1) (gm_sI z8.2 11 (Int32.toNatClampNeg x3) (z8.2.1 7 (Int32.toNatClampNeg x4))) _ _ _ hf hH hS (lv_sub hl [2, 3, 4, 1, 0] rfl)
  have L24 : ∀ (n : Nat) (x1 : Int32) (x2 : Int32) (x3 : Int32) (u : gm_St) (H : Heap) (locs : List Loc) (ls : Array Slot), fn_Md_release_24 n x1 x2 x3 u = some z → gq_H D gc_cl gm_vd ad (gm_pc cI cZ ad u) H → va_S (gq_A gm_vd ad) s.heap H locs → lv_has ls 5 [(0, .ref (ad 0 0)), (1, .int x1), (2, .int x2), (3, .int x3)] → W p l e (headSpec gws_Md_release ({ frames := 2, cells := 0, slots := 0, locals := 47 })).room s m ([.ref (ad 0 0), .int p1] : List Value).toArray below meth c H locs 0 0 (MQ below (va_Qi (fun r u2 => r = z.1 ∧ u2 = z.2) (fun u2 t => gq_B D gc_cl (gm_tys cI cZ) gm_vd ad (gm_pc cI cZ ad u2) t) (gq_A gm_vd ad)) ([.ref (ad 0 0), .int p1] : List Value).toArray s 0 0 (gq_A gm_vd ad)) (F0 m 24 ls []) := by
    intro n
    induction n with
    | zero =>
      intro x1 x2 x3 u H locs ls hf
      have h0 : none = some z := hf
      cases h0
    | succ n ih =>
      intro x1 x2 x3 u H locs ls hf hH hS hl
      rw [fn_Md_release_24] at hf
      have X89 : ∀ (x1 : Int32) (x2 : Int32) (x3 : Int32) (x4 : Int32) (u : gm_St) (H : Heap) (locs : List Loc) (ls : Array Slot), (fn_Md_release_89 (fn_Md_release_24 n)) x1 x2 x3 x4 u = some z → gq_H D gc_cl gm_vd ad (gm_pc cI cZ ad u) H → va_S (gq_A gm_vd ad) s.heap H locs → lv_has ls 5 [(0, .ref (ad 0 0)), (1, .int x1), (2, .int x2), (3, .int x3), (4, .int x4)] → W p l e (headSpec gws_Md_release ({ frames := 2, cells := 0, slots := 0, locals := 47 })).room s m ([.ref (ad 0 0), .int p1] : List Value).toArray below meth c H locs 0 0 (MQ below (va_Qi (fun r u2 => r = z.1 ∧ u2 = z.2) (fun u2 t => gq_B D gc_cl (gm_tys cI cZ) gm_vd ad (gm_pc cI cZ ad u2) t) (gq_A gm_vd ad)) ([.ref (ad 0 0), .int p1] : List Value).toArray s 0 0 (gq_A gm_vd ad)) (F0 m 89 ls []) := by
        intro x1 x2 x3 x4 u H locs ls hf hH hS hl
        unfold fn_Md_release_89 at hf
        refine lv_iinc (v := x3 + 1) (lv' := [(3, .int (x3 + 1)), (0, .ref (ad 0 0)), (1, .int x1), (2, .int x2), (4, .int x4)]) hx hb gd_Md_release_89 hl (k := 3) rfl rfl (by decide) rfl (fun ls hl => ?_)
        refine lv_goto (tgt := 24) hx hb gd_Md_release_92 (by decide) ?_
        exact ih x1 x2 (x3 + 1) u _ _ _ hf hH hS (lv_sub hl [1, 2, 3, 0] rfl)
      have L49 : ∀ (n2 : Nat) (x1 : Int32) (x2 : Int32) (x3 : Int32) (x4 : Int32) (u : gm_St) (H : Heap) (locs : List Loc) (ls : Array Slot), fn_Md_release_49 (fn_Md_release_89 (fn_Md_release_24 n)) n2 x1 x2 x3 x4 u = some z → gq_H D gc_cl gm_vd ad (gm_pc cI cZ ad u) H → va_S (gq_A gm_vd ad) s.heap H locs → lv_has ls 5 [(0, .ref (ad 0 0)), (1, .int x1), (2, .int x2), (3, .int x3), (4, .int x4)] → W p l e (headSpec gws_Md_release ({ frames := 2, cells := 0, slots := 0, locals := 47 })).room s m ([.ref (ad 0 0), .int p1] : List Value).toArray below meth c H locs 0 0 (MQ below (va_Qi (fun r u2 => r = z.1 ∧ u2 = z.2) (fun u2 t => gq_B D gc_cl (gm_tys cI cZ) gm_vd ad (gm_pc cI cZ ad u2) t) (gq_A gm_vd ad)) ([.ref (ad 0 0), .int p1] : List Value).toArray s 0 0 (gq_A gm_vd ad)) (F0 m 49 ls []) := by
        intro n2
        induction n2 with
        | zero =>
          intro x1 x2 x3 x4 u H locs ls hf
          have h0 : none = some z := hf
          cases h0
        | succ n2 ih2 =>
          intro x1 x2 x3 x4 u H locs ls hf hH hS hl
          rw [fn_Md_release_49] at hf
          refine lv_iload hx hb gd_Md_release_49 (lv_at hl 4 rfl) ?_
          refine lv_bipush (v := 100) hx hb gd_Md_release_51 (by decide) ?_
          refine lv_icmp_ge (tgt := 89) hx hb gd_Md_release_53 (by decide) (fun c18 => ?_) (fun c18 => ?_)
          · replace hf := gj_t c18 hf
            exact X89 x1 x2 x3 x4 u _ _ _ hf hH hS (lv_sub hl [0, 1, 2, 3, 4] rfl)
          · replace hf := gj_e c18 hf
            refine lv_aload_n hx hb gd_Md_release_56 rfl (lv_at hl 0 rfl) ?_
            refine va_get (D := D) (ci := 4) (C := gR_Md) (T := gT_Md) (N := 16) hx hb hts (fun w h => List.mem_cons_of_mem _ (gl_Md w h)) hown hK (gq_one (c := 0) (k := 0) hH rfl (gm_c0 cI cZ ad u)) 0 rfl rfl 14 (by decide) (ht _ gt_383) (fun _ h9 => h9) rfl gd_Md_release_57 ?_
            refine lv_bipush (v := 100) hx hb gd_Md_release_60 (by decide) ?_
            refine lv_iload_n hx hb gd_Md_release_62 rfl (lv_at hl 3 rfl) ?_
            refine lv_imul hx hb gd_Md_release_63 ?_
            refine lv_iload hx hb gd_Md_release_64 (lv_at hl 4 rfl) ?_
            refine lv_iadd hx hb gd_Md_release_66 ?_
            refine lv_aload_n hx hb gd_Md_release_67 rfl (lv_at hl 0 rfl) ?_
            refine va_get (D := D) (ci := 4) (C := gR_Md) (T := gT_Md) (N := 16) hx hb hts (fun w h => List.mem_cons_of_mem _ (gl_Md w h)) hown hK (gq_one (c := 0) (k := 0) hH rfl (gm_c0 cI cZ ad u)) 0 rfl rfl 14 (by decide) (ht _ gt_383) (fun _ h9 => h9) rfl gd_Md_release_68 ?_
            refine lv_bipush (v := 100) hx hb gd_Md_release_71 (by decide) ?_
            refine lv_iload_n hx hb gd_Md_release_73 rfl (lv_at hl 3 rfl) ?_
            refine lv_imul hx hb gd_Md_release_74 ?_
            refine lv_bipush (v := 100) hx hb gd_Md_release_75 (by decide) ?_
            refine lv_iadd hx hb gd_Md_release_77 ?_
            refine lv_iload hx hb gd_Md_release_78 (lv_at hl 4 rfl) ?_
            refine lv_iadd hx hb gd_Md_release_80 ?_
            obtain ⟨hg16, hf⟩ := gj_g hf
            refine va_zald (D := D) hx hb hK (gq_one (c := 10) (k := 0) hH rfl (gm_c10 cI cZ ad u)) 0 1 rfl rfl hg16 gd_Md_release_81 ?_
            obtain ⟨hg17, hf⟩ := gj_g hf
            refine gq_zast (D := D) (ca := 10) (ka := 0) (pp' := gm_pc cI cZ ad (gm_sI u 10 (Int32.toNatClampNeg ((100 * x3) + x4)) (vp_nar .boolean (u.1 10 (Int32.toNatClampNeg (((100 * x3) + 100) + x4)))))) hx hb hK hH hI hA rfl (gm_c10 cI cZ ad u) 1 rfl hg17 (gm_w10 cI cZ ad u (Int32.toNatClampNeg ((100 * x3) + x4)) (vp_nar .boolean (u.1 10 (Int32.toNatClampNeg (((100 * x3) + 100) + x4))))) (gm_o10 cI cZ ad u (Int32.toNatClampNeg ((100 * x3) + x4)) (vp_nar .boolean (u.1 10 (Int32.toNatClampNeg (((100 * x3) + 100) + x4))))) hS gd_Md_release_82 (fun H locs hH hS => ?_)
            refine lv_iinc (v := x4 + 1) (lv' := [(4, .int (x4 + 1)), (0, .ref (ad 0 0)), (1, .int x1), (2, .int x2), (3, .int x3)]) hx hb gd_Md_release_83 hl (k := 4) rfl rfl (by decide) rfl (fun ls hl => ?_)
            refine lv_goto (tgt := 49) hx hb gd_Md_release_86 (by decide) ?_
            exact ih2 x1 x2 x3 (x4 + 1) (gm_sI u 10 (Int32.toNatClampNeg ((100 * x3) + x4)) (vp_nar .boolean (u.1 10 (Int32.toNatClampNeg (((100 * x3) + 100) + x4))))) _ _ _ hf hH hS (lv_sub hl [1, 2, 3, 4, 0] rfl)
      refine lv_iload_n hx hb gd_Md_release_24 rfl (lv_at hl 3 rfl) ?_
      refine lv_aload_n hx hb gd_Md_release_25 rfl (lv_at hl 0 rfl) ?_
      refine va_get (D := D) (ci := 4) (C := gR_Md) (T := gT_Md) (N := 16) hx hb hts (fun w h => List.mem_cons_of_mem _ (gl_Md w h)) hown hK (gq_one (c := 0) (k := 0) hH rfl (gm_c0 cI cZ ad u)) 0 rfl rfl 12 (by decide) (ht _ gt_381) (fun _ h9 => h9) rfl gd_Md_release_26 ?_
      refine lv_icmp_ge (tgt := 95) hx hb gd_Md_release_29 (by decide) (fun c19 => ?_) (fun c19 => ?_)
      · replace hf := gj_t c19 hf
        refine lv_iconst (v := 0) hx hb gd_Md_release_95 (by decide) ?_
        refine lv_istore_n (lv' := [(3, .int 0), (0, .ref (ad 0 0)), (1, .int x1), (2, .int x2)]) hx hb gd_Md_release_96 rfl hl (by decide) rfl (fun ls hl => ?_)
        refine lv_iconst (v := 0) hx hb gd_Md_release_97 (by decide) ?_
        refine lv_istore (lv' := [(4, .int 0), (3, .int 0), (0, .ref (ad 0 0)), (1, .int x1), (2, .int x2)]) hx hb gd_Md_release_98 hl (by decide) rfl (fun ls hl => ?_)
        exact L100 gm_fu x1 x2 0 0 u _ _ _ hf hH hS (lv_sub hl [2, 3, 4, 1, 0] rfl)
      · replace hf := gj_e c19 hf
        refine lv_aload_n hx hb gd_Md_release_32 rfl (lv_at hl 0 rfl) ?_
        refine va_get (D := D) (ci := 4) (C := gR_Md) (T := gT_Md) (N := 16) hx hb hts (fun w h => List.mem_cons_of_mem _ (gl_Md w h)) hown hK (gq_one (c := 0) (k := 0) hH rfl (gm_c0 cI cZ ad u)) 0 rfl rfl 13 (by decide) (ht _ gt_382) (fun _ h9 => h9) rfl gd_Md_release_33 ?_
        refine lv_iload_n hx hb gd_Md_release_36 rfl (lv_at hl 3 rfl) ?_
        refine lv_aload_n hx hb gd_Md_release_37 rfl (lv_at hl 0 rfl) ?_
        refine va_get (D := D) (ci := 4) (C := gR_Md) (T := gT_Md) (N := 16) hx hb hts (fun w h => List.mem_cons_of_mem _ (gl_Md w h)) hown hK (gq_one (c := 0) (k := 0) hH rfl (gm_c0 cI cZ ad u)) 0 rfl rfl 13 (by decide) (ht _ gt_382) (fun _ h9 => h9) rfl gd_Md_release_38 ?_
        refine lv_iload_n hx hb gd_Md_release_41 rfl (lv_at hl 3 rfl) ?_
        refine lv_iconst (v := 1) hx hb gd_Md_release_42 (by decide) ?_
        refine lv_iadd hx hb gd_Md_release_43 ?_
        obtain ⟨hg14, hf⟩ := gj_g hf
        refine va_iald (D := D) hx hb hK (gq_one (c := 9) (k := 0) hH rfl (gm_c9 cI cZ ad u)) 0 0 rfl rfl hg14 gd_Md_release_44 ?_
        obtain ⟨hg15, hf⟩ := gj_g hf
        refine gq_iast (D := D) (ca := 9) (ka := 0) (pp' := gm_pc cI cZ ad (gm_sI u 9 (Int32.toNatClampNeg x3) (u.1 9 (Int32.toNatClampNeg (x3 + 1))))) hx hb hK hH hI hA rfl (gm_c9 cI cZ ad u) 0 rfl hg15 (gm_w9 cI cZ ad u (Int32.toNatClampNeg x3) (u.1 9 (Int32.toNatClampNeg (x3 + 1)))) (gm_o9 cI cZ ad u (Int32.toNatClampNeg x3) (u.1 9 (Int32.toNatClampNeg (x3 + 1)))) hS gd_Md_release_45 (fun H locs hH hS => ?_)
        refine lv_iconst (v := 0) hx hb gd_Md_release_46 (by decide) ?_
        refine lv_istore (lv' := [(4, .int 0), (0, .ref (ad 0 0)), (1, .int x1), (2, .int x2), (3, .int x3)]) hx hb gd_Md_release_47 hl (by decide) rfl (fun ls hl => ?_)
        exact L49 gm_fu x1 x2 x3 0 (gm_sI u 9 (Int32.toNatClampNeg x3) (u.1 9 (Int32.toNatClampNeg (x3 + 1)))) _ _ _ hf hH hS (lv_sub hl [1, 2, 3, 4, 0] rfl)
  unfold fn_Md_release at hf
  refine lv_aload_n hx hb gd_Md_release_0 rfl (lv_at hl 0 rfl) ?_
  refine lv_iload_n hx hb gd_Md_release_1 rfl (lv_at hl 1 rfl) ?_
  obtain ⟨z1, hc2, hf⟩ := Option.bind_eq_some_iff.mp hf
  refine gq_calli (va_runV (As := [.int p1]) (rest := []) ⟨hx, hb, hml, hown, hts⟩ (ct_Md_keptAs l D cI cZ ad hI u p1 z1 hc2) (cwV 1 hts (gt_V gt_519 gt_521 (gt_sel (List.mem_of_getElem? (i := 35) rfl)) gt_5 gt_522) rfl rfl rfl (by decide +kernel) ⟨Nat.le_of_ble_eq_true rfl, Nat.le_of_ble_eq_true rfl⟩) (gq_preV hH hK hN (va_recv hK (gq_one (c := 0) (k := 0) hH rfl (gm_c0 cI cZ ad u)) (ci := 4) (q0 := 0) rfl rfl)) rfl rfl hl.1 rfl (lv_room (Nat.le_of_ble_eq_true rfl)) gd_Md_release_2 ⟨Nat.zero_le _, Nat.zero_le _⟩) hA hS (fun H locs hH hS => ?_)
  refine lv_istore_n (lv' := [(2, .int z1.1), (0, .ref (ad 0 0)), (1, .int p1)]) hx hb gd_Md_release_5 rfl hl (by decide) rfl (fun ls hl => ?_)
  refine lv_iload_n hx hb gd_Md_release_6 rfl (lv_at hl 0 rfl) ?_
  refine lv_if_ge (tgt := 12) hx hb gd_Md_release_7 (by decide) (fun c20 => ?_) (fun c20 => ?_)
  · replace hf := gj_t c20 hf
    refine lv_aload_n hx hb gd_Md_release_12 rfl (lv_at hl 1 rfl) ?_
    refine lv_dup hx hb gd_Md_release_13 rfl ?_
    refine va_get (D := D) (ci := 4) (C := gR_Md) (T := gT_Md) (N := 16) hx hb hts (fun w h => List.mem_cons_of_mem _ (gl_Md w h)) hown hK (gq_one (c := 0) (k := 0) hH rfl (gm_c0 cI cZ ad z1.2)) 0 rfl rfl 12 (by decide) (ht _ gt_381) (fun _ h9 => h9) rfl gd_Md_release_14 ?_
    refine lv_iconst (v := 1) hx hb gd_Md_release_17 (by decide) ?_
    refine lv_isub hx hb gd_Md_release_18 ?_
    refine gq_put (D := D) (ci := 4) (C := gR_Md) (T := gT_Md) (N := 16) (ca := 0) (ka := 0) (pp' := gm_pc cI cZ ad (gm_sI z1.2 15 0 ((z1.2.1 15 0) - 1))) (ty := .int) hx hb hts (fun w h => List.mem_cons_of_mem _ (gl_Md w h)) gF_Md gf_Md gn_Md hown hK hH hI hA rfl (gm_c0 cI cZ ad z1.2) rfl 12 (by decide) (ht _ gt_381) (fun _ h9 => h9) rfl (by decide +kernel) rfl rfl (Nat.le_of_ble_eq_true rfl) (gm_w15 cI cZ ad z1.2 ((z1.2.1 15 0) - 1)) (gm_o15 cI cZ ad z1.2 ((z1.2.1 15 0) - 1)) hS gd_Md_release_19 (fun H locs hH hS => ?_)
    refine lv_iload_n hx hb gd_Md_release_22 rfl (lv_at hl 0 rfl) ?_
    refine lv_istore_n (lv' := [(3, .int z1.1), (2, .int z1.1), (0, .ref (ad 0 0)), (1, .int p1)]) hx hb gd_Md_release_23 rfl hl (by decide) rfl (fun ls hl => ?_)
    exact L24 gm_fu p1 z1.1 z1.1 (gm_sI z1.2 15 0 ((z1.2.1 15 0) - 1)) _ _ _ hf hH hS (lv_sub hl [2, 3, 1, 0] rfl)
  · replace hf := gj_e c20 hf
    refine lv_iconst (v := (-1)) hx hb gd_Md_release_10 (by decide) ?_
    cases hf
    exact W.iret hx hb hr (fun t ht hW => ⟨⟨_, _, rfl, ⟨rfl, rfl⟩, ⟨by rw [ht]; exact hH, va_K.moved hW.alike hK⟩⟩, hS.F ht⟩) hS.2.2 gd_Md_release_11
set_option maxHeartbeats 4000000 in
set_option maxRecDepth 100000 in
theorem ct_Md_had (l : Launch) (D : va_G) (cI cZ : ClassId) (ad : Nat → Nat → Nat) (hI : gq_I gm_vd ad) (u : gm_St) (p1 : Int32) (p2 : Int32) (z : Int32 × gm_St) (hf : fn_Md_had p1 p2 u = some z) : Met l gy_Md_had gws_Md_had ({ frames := 1, cells := 0, slots := 0, locals := 23 }) (va_Pc [.ref (ad 0 0), .int p1, .int p2] (gq_pre D gc_cl (gm_tys cI cZ) gm_vd ad gm_NF gm_NM (gm_pc cI cZ ad u))) (va_Qi (fun r u2 => r = z.1 ∧ u2 = z.2) (fun u2 t => gq_B D gc_cl (gm_tys cI cZ) gm_vd ad (gm_pc cI cZ ad u2) t) (gq_A gm_vd ad)) 0 0 (gq_A gm_vd ad) := by
  refine Met.ofW (cc := gb_Md_had) (maxL := 6) (ret := (some .int)) (by decide) rfl ?_
  intro p e s m args below meth c s₁ B hml hv
  obtain ⟨rfl, hH, hK, hN⟩ := hv
  have hx := B.exec
  have hb := B.bytes
  have hr := B.returns
  have hts := atoms_spec (ws := gws_Md_had) B.pre
  have ht := fun (w : Cond) (h : w ∈ gt_T) => hts w (List.mem_cons_of_mem _ h)
  have hown : s.vm.findClass gR_Md = some m.cls := findClass_of_methodNamed B.named
  have hlocks := B.notSynchronized
  have hA : ∀ q, (gq_A gm_vd ad) q → (gq_A gm_vd ad) q := fun _ h => h
  have hS : va_S (gq_A gm_vd ad) s.heap s.heap [] := va_S.rf
  have hl := lv_entry ([.ref (ad 0 0), .int p1, .int p2]) (n := 6) (Nat.le_of_ble_eq_true rfl)
  rw [lg_entry_eq]
  generalize (lg_sl ([.ref (ad 0 0), .int p1, .int p2]) ++ List.replicate (6 - (lg_sl ([.ref (ad 0 0), .int p1, .int p2])).length) Slot.unset).toArray = ls at hl ⊢
  have hl : lv_has ls 6 [(0, .ref (ad 0 0)), (1, .int p1), (2, .int p2)] := hl
  have L47 : ∀ (n : Nat) (x1 : Int32) (x2 : Int32) (x3 : Int32) (x4 : Int32) (x5 : Int32) (u : gm_St) (H : Heap) (locs : List Loc) (ls : Array Slot), fn_Md_had_47 n x1 x2 x3 x4 x5 u = some z → gq_H D gc_cl gm_vd ad (gm_pc cI cZ ad u) H → va_S (gq_A gm_vd ad) s.heap H locs → lv_has ls 6 [(0, .ref (ad 0 0)), (1, .int x1), (2, .int x2), (3, .int x3), (4, .int x4), (5, .int x5)] → W p l e (headSpec gws_Md_had ({ frames := 1, cells := 0, slots := 0, locals := 23 })).room s m ([.ref (ad 0 0), .int p1, .int p2] : List Value).toArray below meth c H locs 0 0 (MQ below (va_Qi (fun r u2 => r = z.1 ∧ u2 = z.2) (fun u2 t => gq_B D gc_cl (gm_tys cI cZ) gm_vd ad (gm_pc cI cZ ad u2) t) (gq_A gm_vd ad)) ([.ref (ad 0 0), .int p1, .int p2] : List Value).toArray s 0 0 (gq_A gm_vd ad)) (F0 m 47 ls []) := by
    intro n
    induction n with
    | zero =>
      intro x1 x2 x3 x4 x5 u H locs ls hf
      have h0 : none = some z := hf
      cases h0
    | succ n ih =>
      intro x1 x2 x3 x4 x5 u H locs ls hf hH hS hl
      rw [fn_Md_had_47] at hf
      refine lv_iload hx hb gd_Md_had_47 (lv_at hl 5 rfl) ?_
      refine lv_bipush (v := 100) hx hb gd_Md_had_49 (by decide) ?_
      refine lv_icmp_ge (tgt := 80) hx hb gd_Md_had_51 (by decide) (fun c8 => ?_) (fun c8 => ?_)
      · replace hf := gj_t c8 hf
        refine lv_iload hx hb gd_Md_had_80 (lv_at hl 4 rfl) ?_
        cases hf
        exact W.iret hx hb hr (fun t ht hW => ⟨⟨_, _, rfl, ⟨rfl, rfl⟩, ⟨by rw [ht]; exact hH, va_K.moved hW.alike hK⟩⟩, hS.F ht⟩) hS.2.2 gd_Md_had_82
      · replace hf := gj_e c8 hf
        refine lv_iload hx hb gd_Md_had_54 (lv_at hl 4 rfl) ?_
        refine lv_aload_n hx hb gd_Md_had_56 rfl (lv_at hl 0 rfl) ?_
        refine lv_iload_n hx hb gd_Md_had_57 rfl (lv_at hl 3 rfl) ?_
        refine lv_iload hx hb gd_Md_had_58 (lv_at hl 5 rfl) ?_
        obtain ⟨z5, hc6, hf⟩ := Option.bind_eq_some_iff.mp hf
        refine gq_calli (va_runV (As := [.int x3, .int x5]) (rest := [.int x4]) ⟨hx, hb, hml, hown, hts⟩ (ct_Md_isKeptBy l D cI cZ ad hI u x3 x5 z5 hc6) (cwV 2 hts (gt_V gt_471 gt_473 (gt_sel (List.mem_of_getElem? (i := 31) rfl)) gt_5 gt_474) rfl rfl rfl (by decide +kernel) ⟨Nat.le_of_ble_eq_true rfl, Nat.le_of_ble_eq_true rfl⟩) (gq_preV hH hK hN (va_recv hK (gq_one (c := 0) (k := 0) hH rfl (gm_c0 cI cZ ad u)) (ci := 4) (q0 := 0) rfl rfl)) rfl rfl hl.1 rfl (lv_room (Nat.le_of_ble_eq_true rfl)) gd_Md_had_60 ⟨Nat.zero_le _, Nat.zero_le _⟩) hA hS (fun H locs hH hS => ?_)
        refine lv_if_eq (tgt := 70) hx hb gd_Md_had_63 (by decide) (fun c7 => ?_) (fun c7 => ?_)
        · replace hf := gj_t c7 hf
          refine lv_iconst (v := 0) hx hb gd_Md_had_70 (by decide) ?_
          refine lv_iadd hx hb gd_Md_had_71 ?_
          refine lv_istore (lv' := [(4, .int (x4 + 0)), (0, .ref (ad 0 0)), (1, .int x1), (2, .int x2), (3, .int x3), (5, .int x5)]) hx hb gd_Md_had_72 hl (by decide) rfl (fun ls hl => ?_)
          refine lv_iinc (v := x5 + 1) (lv' := [(5, .int (x5 + 1)), (4, .int (x4 + 0)), (0, .ref (ad 0 0)), (1, .int x1), (2, .int x2), (3, .int x3)]) hx hb gd_Md_had_74 hl (k := 5) rfl rfl (by decide) rfl (fun ls hl => ?_)
          refine lv_goto (tgt := 47) hx hb gd_Md_had_77 (by decide) ?_
          exact ih x1 x2 x3 (x4 + 0) (x5 + 1) z5.2 _ _ _ hf hH hS (lv_sub hl [2, 3, 4, 5, 1, 0] rfl)
        · replace hf := gj_e c7 hf
          refine lv_iconst (v := 1) hx hb gd_Md_had_66 (by decide) ?_
          refine lv_goto (tgt := 71) hx hb gd_Md_had_67 (by decide) ?_
          refine lv_iadd hx hb gd_Md_had_71 ?_
          refine lv_istore (lv' := [(4, .int (x4 + 1)), (0, .ref (ad 0 0)), (1, .int x1), (2, .int x2), (3, .int x3), (5, .int x5)]) hx hb gd_Md_had_72 hl (by decide) rfl (fun ls hl => ?_)
          refine lv_iinc (v := x5 + 1) (lv' := [(5, .int (x5 + 1)), (4, .int (x4 + 1)), (0, .ref (ad 0 0)), (1, .int x1), (2, .int x2), (3, .int x3)]) hx hb gd_Md_had_74 hl (k := 5) rfl rfl (by decide) rfl (fun ls hl => ?_)
          refine lv_goto (tgt := 47) hx hb gd_Md_had_77 (by decide) ?_
          exact ih x1 x2 x3 (x4 + 1) (x5 + 1) z5.2 _ _ _ hf hH hS (lv_sub hl [2, 3, 4, 5, 1, 0] rfl)
  unfold fn_Md_had at hf
  refine lv_aload_n hx hb gd_Md_had_0 rfl (lv_at hl 0 rfl) ?_
  refine lv_iload_n hx hb gd_Md_had_1 rfl (lv_at hl 1 rfl) ?_
  obtain ⟨z1, hc2, hf⟩ := Option.bind_eq_some_iff.mp hf
  refine gq_calli (va_runV (As := [.int p1]) (rest := []) ⟨hx, hb, hml, hown, hts⟩ (ct_Md_keptAs l D cI cZ ad hI u p1 z1 hc2) (cwV 1 hts (gt_V gt_519 gt_521 (gt_sel (List.mem_of_getElem? (i := 35) rfl)) gt_5 gt_522) rfl rfl rfl (by decide +kernel) ⟨Nat.le_of_ble_eq_true rfl, Nat.le_of_ble_eq_true rfl⟩) (gq_preV hH hK hN (va_recv hK (gq_one (c := 0) (k := 0) hH rfl (gm_c0 cI cZ ad u)) (ci := 4) (q0 := 0) rfl rfl)) rfl rfl hl.1 rfl (lv_room (Nat.le_of_ble_eq_true rfl)) gd_Md_had_2 ⟨Nat.zero_le _, Nat.zero_le _⟩) hA hS (fun H locs hH hS => ?_)
  refine lv_istore_n (lv' := [(3, .int z1.1), (0, .ref (ad 0 0)), (1, .int p1), (2, .int p2)]) hx hb gd_Md_had_5 rfl hl (by decide) rfl (fun ls hl => ?_)
  refine lv_iload_n hx hb gd_Md_had_6 rfl (lv_at hl 0 rfl) ?_
  refine lv_if_lt (tgt := 20) hx hb gd_Md_had_7 (by decide) (fun c14 => ?_) (fun c14 => ?_)
  · replace hf := gj_t c14 hf
    refine lv_iconst (v := (-1)) hx hb gd_Md_had_20 (by decide) ?_
    cases hf
    exact W.iret hx hb hr (fun t ht hW => ⟨⟨_, _, rfl, ⟨rfl, rfl⟩, ⟨by rw [ht]; exact hH, va_K.moved hW.alike hK⟩⟩, hS.F ht⟩) hS.2.2 gd_Md_had_21
  · replace hf := gj_e c14 hf
    refine lv_iload_n hx hb gd_Md_had_10 rfl (lv_at hl 3 rfl) ?_
    refine lv_iconst (v := (-1)) hx hb gd_Md_had_11 (by decide) ?_
    refine lv_bipush (v := 99) hx hb gd_Md_had_12 (by decide) ?_
    obtain ⟨z3, hc4, hf⟩ := Option.bind_eq_some_iff.mp hf
    refine gq_calli (va_runS (As := [.int p2, .int (-1), .int 99]) (rest := []) ⟨hx, hb, hml, hown, hts⟩ (ct_Md_in l D cI cZ ad hI z1.2 p2 (-1) 99 z3 hc4) (va_cwS 3 hts (gt_S gt_423 gt_424 gt_5 gt_425) rfl rfl rfl (by decide +kernel) ⟨Nat.le_of_ble_eq_true rfl, Nat.le_of_ble_eq_true rfl⟩) (gq_preS hH hK hN) rfl rfl hl.1 rfl (lv_room (Nat.le_of_ble_eq_true rfl)) gd_Md_had_14 ⟨Nat.zero_le _, Nat.zero_le _⟩) hA hS (fun H locs hH hS => ?_)
    refine lv_if_ne (tgt := 22) hx hb gd_Md_had_17 (by decide) (fun c13 => ?_) (fun c13 => ?_)
    · replace hf := gj_e c13 hf
      refine lv_iload_n hx hb gd_Md_had_22 rfl (lv_at hl 3 rfl) ?_
      refine lv_if_lt (tgt := 41) hx hb gd_Md_had_23 (by decide) (fun c12 => ?_) (fun c12 => ?_)
      · replace hf := gj_t c12 hf
        refine lv_iconst (v := 0) hx hb gd_Md_had_41 (by decide) ?_
        refine lv_istore (lv' := [(4, .int 0), (3, .int z1.1), (0, .ref (ad 0 0)), (1, .int p1), (2, .int p2)]) hx hb gd_Md_had_42 hl (by decide) rfl (fun ls hl => ?_)
        refine lv_iconst (v := 0) hx hb gd_Md_had_44 (by decide) ?_
        refine lv_istore (lv' := [(5, .int 0), (4, .int 0), (3, .int z1.1), (0, .ref (ad 0 0)), (1, .int p1), (2, .int p2)]) hx hb gd_Md_had_45 hl (by decide) rfl (fun ls hl => ?_)
        exact L47 gm_fu p1 p2 z1.1 0 0 z3.2 _ _ _ hf hH hS (lv_sub hl [3, 4, 5, 2, 1, 0] rfl)
      · replace hf := gj_e c12 hf
        refine lv_aload_n hx hb gd_Md_had_26 rfl (lv_at hl 1 rfl) ?_
        refine lv_iload_n hx hb gd_Md_had_27 rfl (lv_at hl 0 rfl) ?_
        refine lv_iload_n hx hb gd_Md_had_28 rfl (lv_at hl 3 rfl) ?_
        obtain ⟨z9, hc10, hf⟩ := Option.bind_eq_some_iff.mp hf
        refine gq_calli (va_runV (As := [.int z1.1, .int p2]) (rest := []) ⟨hx, hb, hml, hown, hts⟩ (ct_Md_isKeptBy l D cI cZ ad hI z3.2 z1.1 p2 z9 hc10) (cwV 2 hts (gt_V gt_471 gt_473 (gt_sel (List.mem_of_getElem? (i := 31) rfl)) gt_5 gt_474) rfl rfl rfl (by decide +kernel) ⟨Nat.le_of_ble_eq_true rfl, Nat.le_of_ble_eq_true rfl⟩) (gq_preV hH hK hN (va_recv hK (gq_one (c := 0) (k := 0) hH rfl (gm_c0 cI cZ ad z3.2)) (ci := 4) (q0 := 0) rfl rfl)) rfl rfl hl.1 rfl (lv_room (Nat.le_of_ble_eq_true rfl)) gd_Md_had_29 ⟨Nat.zero_le _, Nat.zero_le _⟩) hA hS (fun H locs hH hS => ?_)
        refine lv_if_eq (tgt := 39) hx hb gd_Md_had_32 (by decide) (fun c11 => ?_) (fun c11 => ?_)
        · replace hf := gj_t c11 hf
          refine lv_iconst (v := 0) hx hb gd_Md_had_39 (by decide) ?_
          cases hf
          exact W.iret hx hb hr (fun t ht hW => ⟨⟨_, _, rfl, ⟨rfl, rfl⟩, ⟨by rw [ht]; exact hH, va_K.moved hW.alike hK⟩⟩, hS.F ht⟩) hS.2.2 gd_Md_had_40
        · replace hf := gj_e c11 hf
          refine lv_iconst (v := 1) hx hb gd_Md_had_35 (by decide) ?_
          refine lv_goto (tgt := 40) hx hb gd_Md_had_36 (by decide) ?_
          cases hf
          exact W.iret hx hb hr (fun t ht hW => ⟨⟨_, _, rfl, ⟨rfl, rfl⟩, ⟨by rw [ht]; exact hH, va_K.moved hW.alike hK⟩⟩, hS.F ht⟩) hS.2.2 gd_Md_had_40
    · replace hf := gj_t c13 hf
      refine lv_iconst (v := (-1)) hx hb gd_Md_had_20 (by decide) ?_
      cases hf
      exact W.iret hx hb hr (fun t ht hW => ⟨⟨_, _, rfl, ⟨rfl, rfl⟩, ⟨by rw [ht]; exact hH, va_K.moved hW.alike hK⟩⟩, hS.F ht⟩) hS.2.2 gd_Md_had_21
set_option maxHeartbeats 4000000 in
set_option maxRecDepth 100000 in
theorem ct_Md_shared (l : Launch) (D : va_G) (cI cZ : ClassId) (ad : Nat → Nat → Nat) (hI : gq_I gm_vd ad) (u : gm_St) (p1 : Int32) (z : Int32 × gm_St) (hf : fn_Md_shared p1 u = some z) : Met l gy_Md_shared gws_Md_shared ({ frames := 1, cells := 0, slots := 0, locals := 23 }) (va_Pc [.ref (ad 0 0), .int p1] (gq_pre D gc_cl (gm_tys cI cZ) gm_vd ad gm_NF gm_NM (gm_pc cI cZ ad u))) (va_Qi (fun r u2 => r = z.1 ∧ u2 = z.2) (fun u2 t => gq_B D gc_cl (gm_tys cI cZ) gm_vd ad (gm_pc cI cZ ad u2) t) (gq_A gm_vd ad)) 0 0 (gq_A gm_vd ad) := by
  refine Met.ofW (cc := gb_Md_shared) (maxL := 8) (ret := (some .int)) (by decide) rfl ?_
  intro p e s m args below meth c s₁ B hml hv
  obtain ⟨rfl, hH, hK, hN⟩ := hv
  have hx := B.exec
  have hb := B.bytes
  have hr := B.returns
  have hts := atoms_spec (ws := gws_Md_shared) B.pre
  have ht := fun (w : Cond) (h : w ∈ gt_T) => hts w (List.mem_cons_of_mem _ h)
  have hown : s.vm.findClass gR_Md = some m.cls := findClass_of_methodNamed B.named
  have hlocks := B.notSynchronized
  have hA : ∀ q, (gq_A gm_vd ad) q → (gq_A gm_vd ad) q := fun _ h => h
  have hS : va_S (gq_A gm_vd ad) s.heap s.heap [] := va_S.rf
  have hl := lv_entry ([.ref (ad 0 0), .int p1]) (n := 8) (Nat.le_of_ble_eq_true rfl)
  rw [lg_entry_eq]
  generalize (lg_sl ([.ref (ad 0 0), .int p1]) ++ List.replicate (8 - (lg_sl ([.ref (ad 0 0), .int p1])).length) Slot.unset).toArray = ls at hl ⊢
  have hl : lv_has ls 8 [(0, .ref (ad 0 0)), (1, .int p1)] := hl
  have L26 : ∀ (n : Nat) (x1 : Int32) (x2 : Int32) (x3 : Int32) (x4 : Int32) (x5 : Int32) (u : gm_St) (H : Heap) (locs : List Loc) (ls : Array Slot), fn_Md_shared_26 n x1 x2 x3 x4 x5 u = some z → gq_H D gc_cl gm_vd ad (gm_pc cI cZ ad u) H → va_S (gq_A gm_vd ad) s.heap H locs → lv_has ls 8 [(0, .ref (ad 0 0)), (1, .int x1), (2, .int x2), (3, .int x3), (4, .int x4), (5, .int x5)] → W p l e (headSpec gws_Md_shared ({ frames := 1, cells := 0, slots := 0, locals := 23 })).room s m ([.ref (ad 0 0), .int p1] : List Value).toArray below meth c H locs 0 0 (MQ below (va_Qi (fun r u2 => r = z.1 ∧ u2 = z.2) (fun u2 t => gq_B D gc_cl (gm_tys cI cZ) gm_vd ad (gm_pc cI cZ ad u2) t) (gq_A gm_vd ad)) ([.ref (ad 0 0), .int p1] : List Value).toArray s 0 0 (gq_A gm_vd ad)) (F0 m 26 ls []) := by
    intro n
    induction n with
    | zero =>
      intro x1 x2 x3 x4 x5 u H locs ls hf
      have h0 : none = some z := hf
      cases h0
    | succ n ih =>
      intro x1 x2 x3 x4 x5 u H locs ls hf hH hS hl
      rw [fn_Md_shared_26] at hf
      have X104 : ∀ (x1 : Int32) (x2 : Int32) (x3 : Int32) (x4 : Int32) (x5 : Int32) (x6 : Int32) (x7 : Int32) (u : gm_St) (H : Heap) (locs : List Loc) (ls : Array Slot), (fn_Md_shared_104 (fn_Md_shared_26 n)) x1 x2 x3 x4 x5 x6 x7 u = some z → gq_H D gc_cl gm_vd ad (gm_pc cI cZ ad u) H → va_S (gq_A gm_vd ad) s.heap H locs → lv_has ls 8 [(0, .ref (ad 0 0)), (1, .int x1), (2, .int x2), (3, .int x3), (4, .int x4), (5, .int x5), (6, .int x6), (7, .int x7)] → W p l e (headSpec gws_Md_shared ({ frames := 1, cells := 0, slots := 0, locals := 23 })).room s m ([.ref (ad 0 0), .int p1] : List Value).toArray below meth c H locs 0 0 (MQ below (va_Qi (fun r u2 => r = z.1 ∧ u2 = z.2) (fun u2 t => gq_B D gc_cl (gm_tys cI cZ) gm_vd ad (gm_pc cI cZ ad u2) t) (gq_A gm_vd ad)) ([.ref (ad 0 0), .int p1] : List Value).toArray s 0 0 (gq_A gm_vd ad)) (F0 m 104 ls []) := by
        intro x1 x2 x3 x4 x5 x6 x7 u H locs ls hf hH hS hl
        unfold fn_Md_shared_104 at hf
        refine lv_aload_n hx hb gd_Md_shared_104 rfl (lv_at hl 0 rfl) ?_
        refine va_get (D := D) (ci := 4) (C := gR_Md) (T := gT_Md) (N := 16) hx hb hts (fun w h => List.mem_cons_of_mem _ (gl_Md w h)) hown hK (gq_one (c := 0) (k := 0) hH rfl (gm_c0 cI cZ ad u)) 0 rfl rfl 3 (by decide) (ht _ gt_372) (fun _ h9 => h9) rfl gd_Md_shared_105 ?_
        refine lv_iload hx hb gd_Md_shared_108 (lv_at hl 6 rfl) ?_
        obtain ⟨hg13, hf⟩ := gj_g hf
        refine va_iald (D := D) hx hb hK (gq_one (c := 3) (k := 0) hH rfl (gm_c3 cI cZ ad u)) 0 0 rfl rfl hg13 gd_Md_shared_110 ?_
        refine lv_aload_n hx hb gd_Md_shared_111 rfl (lv_at hl 0 rfl) ?_
        refine va_get (D := D) (ci := 4) (C := gR_Md) (T := gT_Md) (N := 16) hx hb hts (fun w h => List.mem_cons_of_mem _ (gl_Md w h)) hown hK (gq_one (c := 0) (k := 0) hH rfl (gm_c0 cI cZ ad u)) 0 rfl rfl 3 (by decide) (ht _ gt_372) (fun _ h9 => h9) rfl gd_Md_shared_112 ?_
        refine lv_iload_n hx hb gd_Md_shared_115 rfl (lv_at hl 3 rfl) ?_
        obtain ⟨hg14, hf⟩ := gj_g hf
        refine va_iald (D := D) hx hb hK (gq_one (c := 3) (k := 0) hH rfl (gm_c3 cI cZ ad u)) 0 0 rfl rfl hg14 gd_Md_shared_116 ?_
        refine lv_icmp_ne (tgt := 125) hx hb gd_Md_shared_117 (by decide) (fun c15 => ?_) (fun c15 => ?_)
        · replace hf := gj_e c15 hf
          refine lv_iconst (v := 0) hx hb gd_Md_shared_125 (by decide) ?_
          refine lv_istore (lv' := [(4, .int 0), (0, .ref (ad 0 0)), (1, .int x1), (2, .int x2), (3, .int x3), (5, .int x5), (6, .int x6), (7, .int x7)]) hx hb gd_Md_shared_126 hl (by decide) rfl (fun ls hl => ?_)
          refine lv_iinc (v := x5 + 1) (lv' := [(5, .int (x5 + 1)), (4, .int 0), (0, .ref (ad 0 0)), (1, .int x1), (2, .int x2), (3, .int x3), (6, .int x6), (7, .int x7)]) hx hb gd_Md_shared_128 hl (k := 5) rfl rfl (by decide) rfl (fun ls hl => ?_)
          refine lv_goto (tgt := 26) hx hb gd_Md_shared_131 (by decide) ?_
          exact ih x1 x2 x3 0 (x5 + 1) u _ _ _ hf hH hS (lv_sub hl [2, 3, 4, 5, 1, 0] rfl)
        · replace hf := gj_t c15 hf
          refine lv_iload hx hb gd_Md_shared_120 (lv_at hl 7 rfl) ?_
          refine lv_goto (tgt := 126) hx hb gd_Md_shared_122 (by decide) ?_
          refine lv_istore (lv' := [(4, .int x7), (0, .ref (ad 0 0)), (1, .int x1), (2, .int x2), (3, .int x3), (5, .int x5), (6, .int x6), (7, .int x7)]) hx hb gd_Md_shared_126 hl (by decide) rfl (fun ls hl => ?_)
          refine lv_iinc (v := x5 + 1) (lv' := [(5, .int (x5 + 1)), (4, .int x7), (0, .ref (ad 0 0)), (1, .int x1), (2, .int x2), (3, .int x3), (6, .int x6), (7, .int x7)]) hx hb gd_Md_shared_128 hl (k := 5) rfl rfl (by decide) rfl (fun ls hl => ?_)
          refine lv_goto (tgt := 26) hx hb gd_Md_shared_131 (by decide) ?_
          exact ih x1 x2 x3 x7 (x5 + 1) u _ _ _ hf hH hS (lv_sub hl [2, 3, 4, 5, 1, 0] rfl)
      have L51 : ∀ (n2 : Nat) (x1 : Int32) (x2 : Int32) (x3 : Int32) (x4 : Int32) (x5 : Int32) (x6 : Int32) (x7 : Int32) (u : gm_St) (H : Heap) (locs : List Loc) (ls : Array Slot), fn_Md_shared_51 (fn_Md_shared_104 (fn_Md_shared_26 n)) n2 x1 x2 x3 x4 x5 x6 x7 u = some z → gq_H D gc_cl gm_vd ad (gm_pc cI cZ ad u) H → va_S (gq_A gm_vd ad) s.heap H locs → lv_has ls 8 [(0, .ref (ad 0 0)), (1, .int x1), (2, .int x2), (3, .int x3), (4, .int x4), (5, .int x5), (6, .int x6), (7, .int x7)] → W p l e (headSpec gws_Md_shared ({ frames := 1, cells := 0, slots := 0, locals := 23 })).room s m ([.ref (ad 0 0), .int p1] : List Value).toArray below meth c H locs 0 0 (MQ below (va_Qi (fun r u2 => r = z.1 ∧ u2 = z.2) (fun u2 t => gq_B D gc_cl (gm_tys cI cZ) gm_vd ad (gm_pc cI cZ ad u2) t) (gq_A gm_vd ad)) ([.ref (ad 0 0), .int p1] : List Value).toArray s 0 0 (gq_A gm_vd ad)) (F0 m 51 ls []) := by
        intro n2
        induction n2 with
        | zero =>
          intro x1 x2 x3 x4 x5 x6 x7 u H locs ls hf
          have h0 : none = some z := hf
          cases h0
        | succ n2 ih2 =>
          intro x1 x2 x3 x4 x5 x6 x7 u H locs ls hf hH hS hl
          rw [fn_Md_shared_51] at hf
          refine lv_iload hx hb gd_Md_shared_51 (lv_at hl 7 rfl) ?_
          refine lv_iload hx hb gd_Md_shared_53 (lv_at hl 4 rfl) ?_
          refine lv_icmp_ge (tgt := 104) hx hb gd_Md_shared_55 (by decide) (fun c12 => ?_) (fun c12 => ?_)
          · replace hf := gj_t c12 hf
            exact X104 x1 x2 x3 x4 x5 x6 x7 u _ _ _ hf hH hS (lv_sub hl [0, 1, 2, 3, 4, 5, 6, 7] rfl)
          · replace hf := gj_e c12 hf
            refine lv_iload hx hb gd_Md_shared_58 (lv_at hl 7 rfl) ?_
            refine lv_aload_n hx hb gd_Md_shared_60 rfl (lv_at hl 0 rfl) ?_
            refine va_get (D := D) (ci := 4) (C := gR_Md) (T := gT_Md) (N := 16) hx hb hts (fun w h => List.mem_cons_of_mem _ (gl_Md w h)) hown hK (gq_one (c := 0) (k := 0) hH rfl (gm_c0 cI cZ ad u)) 0 rfl rfl 5 (by decide) (ht _ gt_374) (fun _ h9 => h9) rfl gd_Md_shared_61 ?_
            refine lv_iload hx hb gd_Md_shared_64 (lv_at hl 6 rfl) ?_
            obtain ⟨hg7, hf⟩ := gj_g hf
            refine va_iald (D := D) hx hb hK (gq_one (c := 5) (k := 0) hH rfl (gm_c5 cI cZ ad u)) 0 0 rfl rfl hg7 gd_Md_shared_66 ?_
            refine lv_icmp_ge (tgt := 104) hx hb gd_Md_shared_67 (by decide) (fun c11 => ?_) (fun c11 => ?_)
            · replace hf := gj_t c11 hf
              exact X104 x1 x2 x3 x4 x5 x6 x7 u _ _ _ hf hH hS (lv_sub hl [0, 1, 2, 3, 4, 5, 6, 7] rfl)
            · replace hf := gj_e c11 hf
              refine lv_aload_n hx hb gd_Md_shared_70 rfl (lv_at hl 0 rfl) ?_
              refine va_get (D := D) (ci := 4) (C := gR_Md) (T := gT_Md) (N := 16) hx hb hts (fun w h => List.mem_cons_of_mem _ (gl_Md w h)) hown hK (gq_one (c := 0) (k := 0) hH rfl (gm_c0 cI cZ ad u)) 0 rfl rfl 6 (by decide) (ht _ gt_375) (fun _ h9 => h9) rfl gd_Md_shared_71 ?_
              refine lv_bipush (v := 16) hx hb gd_Md_shared_74 (by decide) ?_
              refine lv_iload hx hb gd_Md_shared_76 (lv_at hl 6 rfl) ?_
              refine lv_imul hx hb gd_Md_shared_78 ?_
              refine lv_iload hx hb gd_Md_shared_79 (lv_at hl 7 rfl) ?_
              refine lv_iadd hx hb gd_Md_shared_81 ?_
              obtain ⟨hg8, hf⟩ := gj_g hf
              refine va_iald (D := D) hx hb hK (gq_one (c := 6) (k := 0) hH rfl (gm_c6 cI cZ ad u)) 0 0 rfl rfl hg8 gd_Md_shared_82 ?_
              refine lv_aload_n hx hb gd_Md_shared_83 rfl (lv_at hl 0 rfl) ?_
              refine va_get (D := D) (ci := 4) (C := gR_Md) (T := gT_Md) (N := 16) hx hb hts (fun w h => List.mem_cons_of_mem _ (gl_Md w h)) hown hK (gq_one (c := 0) (k := 0) hH rfl (gm_c0 cI cZ ad u)) 0 rfl rfl 6 (by decide) (ht _ gt_375) (fun _ h9 => h9) rfl gd_Md_shared_84 ?_
              refine lv_bipush (v := 16) hx hb gd_Md_shared_87 (by decide) ?_
              refine lv_iload_n hx hb gd_Md_shared_89 rfl (lv_at hl 3 rfl) ?_
              refine lv_imul hx hb gd_Md_shared_90 ?_
              refine lv_iload hx hb gd_Md_shared_91 (lv_at hl 7 rfl) ?_
              refine lv_iadd hx hb gd_Md_shared_93 ?_
              obtain ⟨hg9, hf⟩ := gj_g hf
              refine va_iald (D := D) hx hb hK (gq_one (c := 6) (k := 0) hH rfl (gm_c6 cI cZ ad u)) 0 0 rfl rfl hg9 gd_Md_shared_94 ?_
              refine lv_icmp_ne (tgt := 104) hx hb gd_Md_shared_95 (by decide) (fun c10 => ?_) (fun c10 => ?_)
              · replace hf := gj_e c10 hf
                exact X104 x1 x2 x3 x4 x5 x6 x7 u _ _ _ hf hH hS (lv_sub hl [0, 1, 2, 3, 4, 5, 6, 7] rfl)
              · replace hf := gj_t c10 hf
                refine lv_iinc (v := x7 + 1) (lv' := [(7, .int (x7 + 1)), (0, .ref (ad 0 0)), (1, .int x1), (2, .int x2), (3, .int x3), (4, .int x4), (5, .int x5), (6, .int x6)]) hx hb gd_Md_shared_98 hl (k := 7) rfl rfl (by decide) rfl (fun ls hl => ?_)
                refine lv_goto (tgt := 51) hx hb gd_Md_shared_101 (by decide) ?_
                exact ih2 x1 x2 x3 x4 x5 x6 (x7 + 1) u _ _ _ hf hH hS (lv_sub hl [1, 2, 3, 4, 5, 6, 7, 0] rfl)
      refine lv_iload hx hb gd_Md_shared_26 (lv_at hl 5 rfl) ?_
      refine lv_iload_n hx hb gd_Md_shared_28 rfl (lv_at hl 2 rfl) ?_
      refine lv_aload_n hx hb gd_Md_shared_29 rfl (lv_at hl 0 rfl) ?_
      refine va_get (D := D) (ci := 4) (C := gR_Md) (T := gT_Md) (N := 16) hx hb hts (fun w h => List.mem_cons_of_mem _ (gl_Md w h)) hown hK (gq_one (c := 0) (k := 0) hH rfl (gm_c0 cI cZ ad u)) 0 rfl rfl 10 (by decide) (ht _ gt_379) (fun _ h9 => h9) rfl gd_Md_shared_30 ?_
      refine lv_iload_n hx hb gd_Md_shared_33 rfl (lv_at hl 1 rfl) ?_
      obtain ⟨hg5, hf⟩ := gj_g hf
      refine va_iald (D := D) hx hb hK (gq_one (c := 8) (k := 0) hH rfl (gm_c8 cI cZ ad u)) 0 0 rfl rfl hg5 gd_Md_shared_34 ?_
      refine lv_iadd hx hb gd_Md_shared_35 ?_
      refine lv_icmp_ge (tgt := 134) hx hb gd_Md_shared_36 (by decide) (fun c16 => ?_) (fun c16 => ?_)
      · replace hf := gj_t c16 hf
        refine lv_iload hx hb gd_Md_shared_134 (lv_at hl 4 rfl) ?_
        cases hf
        exact W.iret hx hb hr (fun t ht hW => ⟨⟨_, _, rfl, ⟨rfl, rfl⟩, ⟨by rw [ht]; exact hH, va_K.moved hW.alike hK⟩⟩, hS.F ht⟩) hS.2.2 gd_Md_shared_136
      · replace hf := gj_e c16 hf
        refine lv_aload_n hx hb gd_Md_shared_39 rfl (lv_at hl 0 rfl) ?_
        refine va_get (D := D) (ci := 4) (C := gR_Md) (T := gT_Md) (N := 16) hx hb hts (fun w h => List.mem_cons_of_mem _ (gl_Md w h)) hown hK (gq_one (c := 0) (k := 0) hH rfl (gm_c0 cI cZ ad u)) 0 rfl rfl 8 (by decide) (ht _ gt_377) (fun _ h9 => h9) rfl gd_Md_shared_40 ?_
        refine lv_iload hx hb gd_Md_shared_43 (lv_at hl 5 rfl) ?_
        obtain ⟨hg6, hf⟩ := gj_g hf
        refine va_iald (D := D) hx hb hK (gq_one (c := 7) (k := 0) hH rfl (gm_c7 cI cZ ad u)) 0 0 rfl rfl hg6 gd_Md_shared_45 ?_
        refine lv_istore (lv' := [(6, .int (u.1 7 (Int32.toNatClampNeg x5))), (0, .ref (ad 0 0)), (1, .int x1), (2, .int x2), (3, .int x3), (4, .int x4), (5, .int x5)]) hx hb gd_Md_shared_46 hl (by decide) rfl (fun ls hl => ?_)
        refine lv_iconst (v := 0) hx hb gd_Md_shared_48 (by decide) ?_
        refine lv_istore (lv' := [(7, .int 0), (6, .int (u.1 7 (Int32.toNatClampNeg x5))), (0, .ref (ad 0 0)), (1, .int x1), (2, .int x2), (3, .int x3), (4, .int x4), (5, .int x5)]) hx hb gd_Md_shared_49 hl (by decide) rfl (fun ls hl => ?_)
        exact L51 gm_fu x1 x2 x3 x4 x5 (u.1 7 (Int32.toNatClampNeg x5)) 0 u _ _ _ hf hH hS (lv_sub hl [2, 3, 4, 5, 6, 7, 1, 0] rfl)
  unfold fn_Md_shared at hf
  refine lv_aload_n hx hb gd_Md_shared_0 rfl (lv_at hl 0 rfl) ?_
  refine lv_iload_n hx hb gd_Md_shared_1 rfl (lv_at hl 1 rfl) ?_
  obtain ⟨z1, hc2, hf⟩ := Option.bind_eq_some_iff.mp hf
  refine gq_calli (va_runV (As := [.int p1]) (rest := []) ⟨hx, hb, hml, hown, hts⟩ (ct_Md_begin l D cI cZ ad hI u p1 z1 hc2) (cwV 1 hts (gt_V gt_455 gt_457 (gt_sel (List.mem_of_getElem? (i := 28) rfl)) gt_5 gt_458) rfl rfl rfl (by decide +kernel) ⟨Nat.le_of_ble_eq_true rfl, Nat.le_of_ble_eq_true rfl⟩) (gq_preV hH hK hN (va_recv hK (gq_one (c := 0) (k := 0) hH rfl (gm_c0 cI cZ ad u)) (ci := 4) (q0 := 0) rfl rfl)) rfl rfl hl.1 rfl (lv_room (Nat.le_of_ble_eq_true rfl)) gd_Md_shared_2 ⟨Nat.zero_le _, Nat.zero_le _⟩) hA hS (fun H locs hH hS => ?_)
  refine lv_istore_n (lv' := [(2, .int z1.1), (0, .ref (ad 0 0)), (1, .int p1)]) hx hb gd_Md_shared_5 rfl hl (by decide) rfl (fun ls hl => ?_)
  refine lv_aload_n hx hb gd_Md_shared_6 rfl (lv_at hl 1 rfl) ?_
  refine va_get (D := D) (ci := 4) (C := gR_Md) (T := gT_Md) (N := 16) hx hb hts (fun w h => List.mem_cons_of_mem _ (gl_Md w h)) hown hK (gq_one (c := 0) (k := 0) hH rfl (gm_c0 cI cZ ad z1.2)) 0 rfl rfl 8 (by decide) (ht _ gt_377) (fun _ h9 => h9) rfl gd_Md_shared_7 ?_
  refine lv_iload_n hx hb gd_Md_shared_10 rfl (lv_at hl 0 rfl) ?_
  obtain ⟨hg3, hf⟩ := gj_g hf
  refine va_iald (D := D) hx hb hK (gq_one (c := 7) (k := 0) hH rfl (gm_c7 cI cZ ad z1.2)) 0 0 rfl rfl hg3 gd_Md_shared_11 ?_
  refine lv_istore_n (lv' := [(3, .int (z1.2.1 7 (Int32.toNatClampNeg z1.1))), (2, .int z1.1), (0, .ref (ad 0 0)), (1, .int p1)]) hx hb gd_Md_shared_12 rfl hl (by decide) rfl (fun ls hl => ?_)
  refine lv_aload_n hx hb gd_Md_shared_13 rfl (lv_at hl 2 rfl) ?_
  refine va_get (D := D) (ci := 4) (C := gR_Md) (T := gT_Md) (N := 16) hx hb hts (fun w h => List.mem_cons_of_mem _ (gl_Md w h)) hown hK (gq_one (c := 0) (k := 0) hH rfl (gm_c0 cI cZ ad z1.2)) 0 rfl rfl 5 (by decide) (ht _ gt_374) (fun _ h9 => h9) rfl gd_Md_shared_14 ?_
  refine lv_iload_n hx hb gd_Md_shared_17 rfl (lv_at hl 0 rfl) ?_
  obtain ⟨hg4, hf⟩ := gj_g hf
  refine va_iald (D := D) hx hb hK (gq_one (c := 5) (k := 0) hH rfl (gm_c5 cI cZ ad z1.2)) 0 0 rfl rfl hg4 gd_Md_shared_18 ?_
  refine lv_istore (lv' := [(4, .int (z1.2.1 5 (Int32.toNatClampNeg (z1.2.1 7 (Int32.toNatClampNeg z1.1))))), (3, .int (z1.2.1 7 (Int32.toNatClampNeg z1.1))), (2, .int z1.1), (0, .ref (ad 0 0)), (1, .int p1)]) hx hb gd_Md_shared_19 hl (by decide) rfl (fun ls hl => ?_)
  refine lv_iload_n hx hb gd_Md_shared_21 rfl (lv_at hl 2 rfl) ?_
  refine lv_iconst (v := 1) hx hb gd_Md_shared_22 (by decide) ?_
  refine lv_iadd hx hb gd_Md_shared_23 ?_
  refine lv_istore (lv' := [(5, .int (z1.1 + 1)), (4, .int (z1.2.1 5 (Int32.toNatClampNeg (z1.2.1 7 (Int32.toNatClampNeg z1.1))))), (3, .int (z1.2.1 7 (Int32.toNatClampNeg z1.1))), (2, .int z1.1), (0, .ref (ad 0 0)), (1, .int p1)]) hx hb gd_Md_shared_24 hl (by decide) rfl (fun ls hl => ?_)
  exact L26 gm_fu p1 z1.1 (z1.2.1 7 (Int32.toNatClampNeg z1.1)) (z1.2.1 5 (Int32.toNatClampNeg (z1.2.1 7 (Int32.toNatClampNeg z1.1)))) (z1.1 + 1) z1.2 _ _ _ hf hH hS (lv_sub hl [4, 5, 3, 2, 1, 0] rfl)
