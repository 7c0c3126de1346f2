set_option maxHeartbeats 4000000 in
set_option maxRecDepth 100000 in
theorem ct_Bk_byteOf (l : Launch) (D : va_G) (cI cT : ClassId) (ad : Nat → Nat → Nat) (hI : gq_I gk_vd ad) (u : gk_St) (p0 : Int64) (p2 : Int32) (z : Int32 × gk_St) (hf : fn_Bk_byteOf p0 p2 u = some z) : Met l gy_Bk_byteOf gws_Bk_byteOf ({ frames := 0, cells := 0, slots := 0, locals := 0 }) (va_Pc [.long p0, .int p2] (gq_pre D gc_cl (gk_tys cI cT) gk_vd ad gk_NF gk_NM (gk_pc cI cT ad u))) (va_Qi (fun r u2 => r = z.1 ∧ u2 = z.2) (fun u2 t => gq_B D gc_cl (gk_tys cI cT) gk_vd ad (gk_pc cI cT ad u2) t) (gq_A gk_vd ad)) 0 0 (gq_A gk_vd ad) := by
  refine Met.ofW (cc := gb_Bk_byteOf) (maxL := 3) (ret := (some .int)) (by decide) rfl ?_
  intro p e s m args below meth c s₁ B hml hv
  obtain ⟨rfl, hH, hK, hN⟩ := hv
  have hx := B.exec
  have hb := B.bytes
  have hr := B.returns
  have hts := atoms_spec (ws := gws_Bk_byteOf) B.pre
  have ht := fun (w : Cond) (h : w ∈ gt_T) => hts w (List.mem_cons_of_mem _ h)
  have hown : s.vm.findClass gR_Bk = some m.cls := findClass_of_methodNamed B.named
  have hlocks := B.notSynchronized
  have hA : ∀ q, (gq_A gk_vd ad) q → (gq_A gk_vd ad) q := fun _ h => h
  have hS : va_S (gq_A gk_vd ad) s.heap s.heap [] := va_S.rf
  have hl := lv_entry ([.long p0, .int p2]) (n := 3) (Nat.le_of_ble_eq_true rfl)
  rw [lg_entry_eq]
  generalize (lg_sl ([.long p0, .int p2]) ++ List.replicate (3 - (lg_sl ([.long p0, .int p2])).length) Slot.unset).toArray = ls at hl ⊢
  have hl : lv_has ls 3 [(0, .long p0), (2, .int p2)] := hl
  unfold fn_Bk_byteOf at hf
  refine lv_lload_n hx hb gd_Bk_byteOf_0 rfl (lv_at hl 0 rfl) ?_
  refine lv_bipush (v := 8) hx hb gd_Bk_byteOf_1 (by decide) ?_
  refine lv_iload_n hx hb gd_Bk_byteOf_3 rfl (lv_at hl 1 rfl) ?_
  refine lv_imul hx hb gd_Bk_byteOf_4 ?_
  refine lv_lushr (v := gj_lushr p0 (8 * p2)) hx hb gd_Bk_byteOf_5 rfl ?_
  refine lv_ldc2 (v := 255) hx hb hown (ht _ gt_111) gd_Bk_byteOf_6 ?_
  refine lv_land hx hb gd_Bk_byteOf_9 ?_
  refine lv_l2i hx hb gd_Bk_byteOf_10 rfl ?_
  cases hf
  exact W.iret hx hb hr (fun t ht hW => ⟨⟨_, _, rfl, ⟨rfl, rfl⟩, ⟨by rw [ht]; exact hH, va_K.moved hW.alike hK⟩⟩, hS.F ht⟩) hS.2.2 gd_Bk_byteOf_11
set_option maxHeartbeats 4000000 in
set_option maxRecDepth 100000 in
theorem ct_Bk_allFit (l : Launch) (D : va_G) (cI cT : ClassId) (ad : Nat → Nat → Nat) (hI : gq_I gk_vd ad) (u : gk_St) (p0 : Int64) (p2 : Int32) (z : Int32 × gk_St) (hf : fn_Bk_allFit p0 p2 u = some z) : Met l gy_Bk_allFit gws_Bk_allFit ({ frames := 1, cells := 0, slots := 0, locals := 22 }) (va_Pc [.long p0, .int p2] (gq_pre D gc_cl (gk_tys cI cT) gk_vd ad gk_NF gk_NM (gk_pc cI cT ad u))) (va_Qi (fun r u2 => r = z.1 ∧ u2 = z.2) (fun u2 t => gq_B D gc_cl (gk_tys cI cT) gk_vd ad (gk_pc cI cT ad u2) t) (gq_A gk_vd ad)) 0 0 (gq_A gk_vd ad) := by
  refine Met.ofW (cc := gb_Bk_allFit) (maxL := 5) (ret := (some .boolean)) (by decide) rfl ?_
  intro p e s m args below meth c s₁ B hml hv
  obtain ⟨rfl, hH, hK, hN⟩ := hv
  have hx := B.exec
  have hb := B.bytes
  have hr := B.returns
  have hts := atoms_spec (ws := gws_Bk_allFit) B.pre
  have ht := fun (w : Cond) (h : w ∈ gt_T) => hts w (List.mem_cons_of_mem _ h)
  have hown : s.vm.findClass gR_Bk = some m.cls := findClass_of_methodNamed B.named
  have hlocks := B.notSynchronized
  have hA : ∀ q, (gq_A gk_vd ad) q → (gq_A gk_vd ad) q := fun _ h => h
  have hS : va_S (gq_A gk_vd ad) s.heap s.heap [] := va_S.rf
  have hl := lv_entry ([.long p0, .int p2]) (n := 5) (Nat.le_of_ble_eq_true rfl)
  rw [lg_entry_eq]
  generalize (lg_sl ([.long p0, .int p2]) ++ List.replicate (5 - (lg_sl ([.long p0, .int p2])).length) Slot.unset).toArray = ls at hl ⊢
  have hl : lv_has ls 5 [(0, .long p0), (2, .int p2)] := hl
  have L2 : ∀ (n : Nat) (x0 : Int64) (x2 : Int32) (x3 : Int32) (u : gk_St) (H : Heap) (locs : List Loc) (ls : Array Slot), fn_Bk_allFit_2 n x0 x2 x3 u = some z → gq_H D gc_cl gk_vd ad (gk_pc cI cT ad u) H → va_S (gq_A gk_vd ad) s.heap H locs → lv_has ls 5 [(0, .long x0), (2, .int x2), (3, .int x3)] → W p l e (headSpec gws_Bk_allFit ({ frames := 1, cells := 0, slots := 0, locals := 22 })).room s m ([.long p0, .int p2] : List Value).toArray below meth c H locs 0 0 (MQ below (va_Qi (fun r u2 => r = z.1 ∧ u2 = z.2) (fun u2 t => gq_B D gc_cl (gk_tys cI cT) gk_vd ad (gk_pc cI cT ad u2) t) (gq_A gk_vd ad)) ([.long p0, .int p2] : List Value).toArray s 0 0 (gq_A gk_vd ad)) (F0 m 2 ls []) := by
    intro n
    induction n with
    | zero =>
      intro x0 x2 x3 u H locs ls hf
      have h0 : none = some z := hf
      cases h0
    | succ n ih =>
      intro x0 x2 x3 u H locs ls hf hH hS hl
      rw [fn_Bk_allFit_2] at hf
      refine lv_iload_n hx hb gd_Bk_allFit_2 rfl (lv_at hl 2 rfl) ?_
      refine lv_iload_n hx hb gd_Bk_allFit_3 rfl (lv_at hl 1 rfl) ?_
      refine lv_icmp_ge (tgt := 36) hx hb gd_Bk_allFit_4 (by decide) (fun c5 => ?_) (fun c5 => ?_)
      · replace hf := gj_t c5 hf
        refine lv_iconst (v := 1) hx hb gd_Bk_allFit_36 (by decide) ?_
        cases hf
        exact W.zret hx hb hr rfl (fun t ht hW => ⟨⟨_, _, rfl, ⟨rfl, rfl⟩, ⟨by rw [ht]; exact hH, va_K.moved hW.alike hK⟩⟩, hS.F ht⟩) hS.2.2 gd_Bk_allFit_37
      · replace hf := gj_e c5 hf
        refine lv_lload_n hx hb gd_Bk_allFit_7 rfl (lv_at hl 0 rfl) ?_
        refine lv_iload_n hx hb gd_Bk_allFit_8 rfl (lv_at hl 2 rfl) ?_
        obtain ⟨z1, hc2, hf⟩ := Option.bind_eq_some_iff.mp hf
        refine gq_calli (va_runS (As := [.long x0, .int x3]) (rest := []) ⟨hx, hb, hml, hown, hts⟩ (ct_Bk_byteOf l D cI cT ad hI u x0 x3 z1 hc2) (va_cwS 2 hts (gt_S gt_108 gt_109 gt_1 gt_110) rfl rfl rfl (by decide +kernel) ⟨Nat.le_of_ble_eq_true rfl, Nat.le_of_ble_eq_true rfl⟩) (gq_preS hH hK hN) rfl rfl hl.1 rfl (lv_room (Nat.le_of_ble_eq_true rfl)) gd_Bk_allFit_9 ⟨Nat.zero_le _, Nat.zero_le _⟩) hA hS (fun H locs hH hS => ?_)
        refine lv_istore (lv' := [(4, .int z1.1), (0, .long x0), (2, .int x2), (3, .int x3)]) hx hb gd_Bk_allFit_12 hl (by decide) rfl (fun ls hl => ?_)
        refine lv_iload hx hb gd_Bk_allFit_14 (lv_at hl 0 rfl) ?_
        refine lv_bipush (v := 33) hx hb gd_Bk_allFit_16 (by decide) ?_
        refine lv_icmp_lt (tgt := 28) hx hb gd_Bk_allFit_18 (by decide) (fun c4 => ?_) (fun c4 => ?_)
        · replace hf := gj_t c4 hf
          refine lv_iconst (v := 0) hx hb gd_Bk_allFit_28 (by decide) ?_
          cases hf
          exact W.zret hx hb hr rfl (fun t ht hW => ⟨⟨_, _, rfl, ⟨rfl, rfl⟩, ⟨by rw [ht]; exact hH, va_K.moved hW.alike hK⟩⟩, hS.F ht⟩) hS.2.2 gd_Bk_allFit_29
        · replace hf := gj_e c4 hf
          refine lv_iload hx hb gd_Bk_allFit_21 (lv_at hl 0 rfl) ?_
          refine lv_bipush (v := 126) hx hb gd_Bk_allFit_23 (by decide) ?_
          refine lv_icmp_le (tgt := 30) hx hb gd_Bk_allFit_25 (by decide) (fun c3 => ?_) (fun c3 => ?_)
          · replace hf := gj_t c3 hf
            refine lv_iinc (v := x3 + 1) (lv' := [(3, .int (x3 + 1)), (4, .int z1.1), (0, .long x0), (2, .int x2)]) hx hb gd_Bk_allFit_30 hl (k := 3) rfl rfl (by decide) rfl (fun ls hl => ?_)
            refine lv_goto (tgt := 2) hx hb gd_Bk_allFit_33 (by decide) ?_
            exact ih x0 x2 (x3 + 1) z1.2 _ _ _ hf hH hS (lv_sub hl [2, 3, 0] rfl)
          · replace hf := gj_e c3 hf
            refine lv_iconst (v := 0) hx hb gd_Bk_allFit_28 (by decide) ?_
            cases hf
            exact W.zret hx hb hr rfl (fun t ht hW => ⟨⟨_, _, rfl, ⟨rfl, rfl⟩, ⟨by rw [ht]; exact hH, va_K.moved hW.alike hK⟩⟩, hS.F ht⟩) hS.2.2 gd_Bk_allFit_29
  unfold fn_Bk_allFit at hf
  refine lv_iconst (v := 0) hx hb gd_Bk_allFit_0 (by decide) ?_
  refine lv_istore_n (lv' := [(3, .int 0), (0, .long p0), (2, .int p2)]) hx hb gd_Bk_allFit_1 rfl hl (by decide) rfl (fun ls hl => ?_)
  exact L2 gk_fu p0 p2 0 u _ _ _ hf hH hS (lv_sub hl [1, 2, 0] rfl)
set_option maxHeartbeats 4000000 in
set_option maxRecDepth 100000 in
theorem ct_Tx_append (l : Launch) (D : va_G) (cI cT : ClassId) (ad : Nat → Nat → Nat) (hI : gq_I gk_vd ad) (u : gk_St) (k : Nat) (hk : k ≤ 100) (p1 : Int32) (z : gk_St) (hf : fn_Tx_append k p1 u = some z) : Met l gy_Tx_append gws_Tx_append ({ frames := 0, cells := 0, slots := 0, locals := 0 }) (va_Pc [.ref (ad 6 k), .int p1] (gq_pre D gc_cl (gk_tys cI cT) gk_vd ad gk_NF gk_NM (gk_pc cI cT ad u))) (va_Qv (fun u2 => u2 = z) (fun u2 t => gq_B D gc_cl (gk_tys cI cT) gk_vd ad (gk_pc cI cT ad u2) t) (gq_A gk_vd ad)) 0 0 (gq_A gk_vd ad) := by
  refine Met.ofW (cc := gb_Tx_append) (maxL := 2) (ret := none) (by decide) rfl ?_
  intro p e s m args below meth c s₁ B hml hv
  obtain ⟨rfl, hH, hK, hN⟩ := hv
  have hx := B.exec
  have hb := B.bytes
  have hr := B.returns
  have hts := atoms_spec (ws := gws_Tx_append) B.pre
  have ht := fun (w : Cond) (h : w ∈ gt_T) => hts w (List.mem_cons_of_mem _ h)
  have hown : s.vm.findClass gR_Tx = some m.cls := findClass_of_methodNamed B.named
  have hlocks := B.notSynchronized
  have hA : ∀ q, (gq_A gk_vd ad) q → (gq_A gk_vd ad) q := fun _ h => h
  have hS : va_S (gq_A gk_vd ad) s.heap s.heap [] := va_S.rf
  have hl := lv_entry ([.ref (ad 6 k), .int p1]) (n := 2) (Nat.le_of_ble_eq_true rfl)
  rw [lg_entry_eq]
  generalize (lg_sl ([.ref (ad 6 k), .int p1]) ++ List.replicate (2 - (lg_sl ([.ref (ad 6 k), .int p1])).length) Slot.unset).toArray = ls at hl ⊢
  have hl : lv_has ls 2 [(0, .ref (ad 6 k)), (1, .int p1)] := hl
  unfold fn_Tx_append at hf
  refine lv_aload_n hx hb gd_Tx_append_0 rfl (lv_at hl 0 rfl) ?_
  refine va_get (D := D) (ci := 2) (C := gR_Tx) (T := gT_Tx) (N := 3) hx hb hts (fun w h => List.mem_cons_of_mem _ (gl_Tx w h)) hown hK (gq_one (c := 6) (k := k) hH hk (gk_c6 cI cT ad u k)) 0 rfl rfl 2 (by decide) (ht _ gt_25) (fun _ h9 => h9) rfl gd_Tx_append_1 ?_
  refine lv_bipush (v := 8) hx hb gd_Tx_append_4 (by decide) ?_
  refine lv_icmp_ge (tgt := 44) hx hb gd_Tx_append_6 (by decide) (fun c2 => ?_) (fun c2 => ?_)
  · replace hf := gj_t c2 hf
    refine lv_aload_n hx hb gd_Tx_append_44 rfl (lv_at hl 0 rfl) ?_
    refine va_get (D := D) (ci := 2) (C := gR_Tx) (T := gT_Tx) (N := 3) hx hb hts (fun w h => List.mem_cons_of_mem _ (gl_Tx w h)) hown hK (gq_one (c := 6) (k := k) hH hk (gk_c6 cI cT ad u k)) 0 rfl rfl 2 (by decide) (ht _ gt_25) (fun _ h9 => h9) rfl gd_Tx_append_45 ?_
    refine lv_bipush (v := 16) hx hb gd_Tx_append_48 (by decide) ?_
    refine lv_icmp_ge (tgt := 85) hx hb gd_Tx_append_50 (by decide) (fun c1 => ?_) (fun c1 => ?_)
    · replace hf := gj_t c1 hf
      cases hf
      exact W.vret hx hb hr (fun t ht hW => ⟨⟨_, rfl, rfl, ⟨by rw [ht]; exact hH, va_K.moved hW.alike hK⟩⟩, hS.F ht⟩) hS.2.2 gd_Tx_append_85
    · replace hf := gj_e c1 hf
      refine lv_aload_n hx hb gd_Tx_append_53 rfl (lv_at hl 0 rfl) ?_
      refine lv_dup hx hb gd_Tx_append_54 rfl ?_
      refine va_get (D := D) (ci := 2) (C := gR_Tx) (T := gT_Tx) (N := 3) hx hb hts (fun w h => List.mem_cons_of_mem _ (gl_Tx w h)) hown hK (gq_one (c := 6) (k := k) hH hk (gk_c6 cI cT ad u k)) 0 rfl rfl 1 (by decide) (ht _ gt_24) (fun _ h9 => h9) rfl gd_Tx_append_55 ?_
      refine lv_iload_n hx hb gd_Tx_append_58 rfl (lv_at hl 1 rfl) ?_
      refine lv_i2l hx hb gd_Tx_append_59 rfl ?_
      refine lv_bipush (v := 8) hx hb gd_Tx_append_60 (by decide) ?_
      refine lv_bipush (v := 15) hx hb gd_Tx_append_62 (by decide) ?_
      refine lv_aload_n hx hb gd_Tx_append_64 rfl (lv_at hl 0 rfl) ?_
      refine va_get (D := D) (ci := 2) (C := gR_Tx) (T := gT_Tx) (N := 3) hx hb hts (fun w h => List.mem_cons_of_mem _ (gl_Tx w h)) hown hK (gq_one (c := 6) (k := k) hH hk (gk_c6 cI cT ad u k)) 0 rfl rfl 2 (by decide) (ht _ gt_25) (fun _ h9 => h9) rfl gd_Tx_append_65 ?_
      refine lv_isub hx hb gd_Tx_append_68 ?_
      refine lv_imul hx hb gd_Tx_append_69 ?_
      refine lv_lshl (v := gj_lshl (Int32.toInt64 p1) (8 * (15 - (u.1 0 k)))) hx hb gd_Tx_append_70 rfl ?_
      refine lv_lor hx hb gd_Tx_append_71 ?_
      refine gq_put (D := D) (ci := 2) (C := gR_Tx) (T := gT_Tx) (N := 3) (ca := 6) (ka := k) (pp' := gk_pc cI cT ad (gk_sL u 1 k ((u.2 1 k) ||| (gj_lshl (Int32.toInt64 p1) (8 * (15 - (u.1 0 k))))))) (ty := .long) hx hb hts (fun w h => List.mem_cons_of_mem _ (gl_Tx w h)) gF_Tx gf_Tx gn_Tx hown hK hH hI hA hk (gk_c6 cI cT ad u k) rfl 1 (by decide) (ht _ gt_24) (fun _ h9 => h9) rfl (by decide +kernel) rfl rfl (Nat.le_of_ble_eq_true rfl) (gk_w1L cI cT ad u k ((u.2 1 k) ||| (gj_lshl (Int32.toInt64 p1) (8 * (15 - (u.1 0 k)))))) (gk_o1L cI cT ad u k ((u.2 1 k) ||| (gj_lshl (Int32.toInt64 p1) (8 * (15 - (u.1 0 k)))))) hS gd_Tx_append_72 (fun H locs hH hS => ?_)
      refine lv_aload_n hx hb gd_Tx_append_75 rfl (lv_at hl 0 rfl) ?_
      refine lv_dup hx hb gd_Tx_append_76 rfl ?_
      refine va_get (D := D) (ci := 2) (C := gR_Tx) (T := gT_Tx) (N := 3) hx hb hts (fun w h => List.mem_cons_of_mem _ (gl_Tx w h)) hown hK (gq_one (c := 6) (k := k) hH hk (gk_c6 cI cT ad (gk_sL u 1 k ((u.2 1 k) ||| (gj_lshl (Int32.toInt64 p1) (8 * (15 - (u.1 0 k)))))) k)) 0 rfl rfl 2 (by decide) (ht _ gt_25) (fun _ h9 => h9) rfl gd_Tx_append_77 ?_
      refine lv_iconst (v := 1) hx hb gd_Tx_append_80 (by decide) ?_
      refine lv_iadd hx hb gd_Tx_append_81 ?_
      refine gq_put (D := D) (ci := 2) (C := gR_Tx) (T := gT_Tx) (N := 3) (ca := 6) (ka := k) (pp' := gk_pc cI cT ad (gk_sI (gk_sL u 1 k ((u.2 1 k) ||| (gj_lshl (Int32.toInt64 p1) (8 * (15 - (u.1 0 k)))))) 0 k (((gk_sL u 1 k ((u.2 1 k) ||| (gj_lshl (Int32.toInt64 p1) (8 * (15 - (u.1 0 k)))))).1 0 k) + 1))) (ty := .int) hx hb hts (fun w h => List.mem_cons_of_mem _ (gl_Tx w h)) gF_Tx gf_Tx gn_Tx hown hK hH hI hA hk (gk_c6 cI cT ad (gk_sL u 1 k ((u.2 1 k) ||| (gj_lshl (Int32.toInt64 p1) (8 * (15 - (u.1 0 k)))))) k) rfl 2 (by decide) (ht _ gt_25) (fun _ h9 => h9) rfl (by decide +kernel) rfl rfl (Nat.le_of_ble_eq_true rfl) (gk_w0 cI cT ad (gk_sL u 1 k ((u.2 1 k) ||| (gj_lshl (Int32.toInt64 p1) (8 * (15 - (u.1 0 k)))))) k (((gk_sL u 1 k ((u.2 1 k) ||| (gj_lshl (Int32.toInt64 p1) (8 * (15 - (u.1 0 k)))))).1 0 k) + 1)) (gk_o0 cI cT ad (gk_sL u 1 k ((u.2 1 k) ||| (gj_lshl (Int32.toInt64 p1) (8 * (15 - (u.1 0 k)))))) k (((gk_sL u 1 k ((u.2 1 k) ||| (gj_lshl (Int32.toInt64 p1) (8 * (15 - (u.1 0 k)))))).1 0 k) + 1)) hS gd_Tx_append_82 (fun H locs hH hS => ?_)
      cases hf
      exact W.vret hx hb hr (fun t ht hW => ⟨⟨_, rfl, rfl, ⟨by rw [ht]; exact hH, va_K.moved hW.alike hK⟩⟩, hS.F ht⟩) hS.2.2 gd_Tx_append_85
  · replace hf := gj_e c2 hf
    refine lv_aload_n hx hb gd_Tx_append_9 rfl (lv_at hl 0 rfl) ?_
    refine lv_dup hx hb gd_Tx_append_10 rfl ?_
    refine va_get (D := D) (ci := 2) (C := gR_Tx) (T := gT_Tx) (N := 3) hx hb hts (fun w h => List.mem_cons_of_mem _ (gl_Tx w h)) hown hK (gq_one (c := 6) (k := k) hH hk (gk_c6 cI cT ad u k)) 0 rfl rfl 0 (by decide) (ht _ gt_23) (fun _ h9 => h9) rfl gd_Tx_append_11 ?_
    refine lv_iload_n hx hb gd_Tx_append_14 rfl (lv_at hl 1 rfl) ?_
    refine lv_i2l hx hb gd_Tx_append_15 rfl ?_
    refine lv_bipush (v := 8) hx hb gd_Tx_append_16 (by decide) ?_
    refine lv_bipush (v := 7) hx hb gd_Tx_append_18 (by decide) ?_
    refine lv_aload_n hx hb gd_Tx_append_20 rfl (lv_at hl 0 rfl) ?_
    refine va_get (D := D) (ci := 2) (C := gR_Tx) (T := gT_Tx) (N := 3) hx hb hts (fun w h => List.mem_cons_of_mem _ (gl_Tx w h)) hown hK (gq_one (c := 6) (k := k) hH hk (gk_c6 cI cT ad u k)) 0 rfl rfl 2 (by decide) (ht _ gt_25) (fun _ h9 => h9) rfl gd_Tx_append_21 ?_
    refine lv_isub hx hb gd_Tx_append_24 ?_
    refine lv_imul hx hb gd_Tx_append_25 ?_
    refine lv_lshl (v := gj_lshl (Int32.toInt64 p1) (8 * (7 - (u.1 0 k)))) hx hb gd_Tx_append_26 rfl ?_
    refine lv_lor hx hb gd_Tx_append_27 ?_
    refine gq_put (D := D) (ci := 2) (C := gR_Tx) (T := gT_Tx) (N := 3) (ca := 6) (ka := k) (pp' := gk_pc cI cT ad (gk_sL u 0 k ((u.2 0 k) ||| (gj_lshl (Int32.toInt64 p1) (8 * (7 - (u.1 0 k))))))) (ty := .long) hx hb hts (fun w h => List.mem_cons_of_mem _ (gl_Tx w h)) gF_Tx gf_Tx gn_Tx hown hK hH hI hA hk (gk_c6 cI cT ad u k) rfl 0 (by decide) (ht _ gt_23) (fun _ h9 => h9) rfl (by decide +kernel) rfl rfl (Nat.le_of_ble_eq_true rfl) (gk_w0L cI cT ad u k ((u.2 0 k) ||| (gj_lshl (Int32.toInt64 p1) (8 * (7 - (u.1 0 k)))))) (gk_o0L cI cT ad u k ((u.2 0 k) ||| (gj_lshl (Int32.toInt64 p1) (8 * (7 - (u.1 0 k)))))) hS gd_Tx_append_28 (fun H locs hH hS => ?_)
    refine lv_aload_n hx hb gd_Tx_append_31 rfl (lv_at hl 0 rfl) ?_
    refine lv_dup hx hb gd_Tx_append_32 rfl ?_
    refine va_get (D := D) (ci := 2) (C := gR_Tx) (T := gT_Tx) (N := 3) hx hb hts (fun w h => List.mem_cons_of_mem _ (gl_Tx w h)) hown hK (gq_one (c := 6) (k := k) hH hk (gk_c6 cI cT ad (gk_sL u 0 k ((u.2 0 k) ||| (gj_lshl (Int32.toInt64 p1) (8 * (7 - (u.1 0 k)))))) k)) 0 rfl rfl 2 (by decide) (ht _ gt_25) (fun _ h9 => h9) rfl gd_Tx_append_33 ?_
    refine lv_iconst (v := 1) hx hb gd_Tx_append_36 (by decide) ?_
    refine lv_iadd hx hb gd_Tx_append_37 ?_
    refine gq_put (D := D) (ci := 2) (C := gR_Tx) (T := gT_Tx) (N := 3) (ca := 6) (ka := k) (pp' := gk_pc cI cT ad (gk_sI (gk_sL u 0 k ((u.2 0 k) ||| (gj_lshl (Int32.toInt64 p1) (8 * (7 - (u.1 0 k)))))) 0 k (((gk_sL u 0 k ((u.2 0 k) ||| (gj_lshl (Int32.toInt64 p1) (8 * (7 - (u.1 0 k)))))).1 0 k) + 1))) (ty := .int) hx hb hts (fun w h => List.mem_cons_of_mem _ (gl_Tx w h)) gF_Tx gf_Tx gn_Tx hown hK hH hI hA hk (gk_c6 cI cT ad (gk_sL u 0 k ((u.2 0 k) ||| (gj_lshl (Int32.toInt64 p1) (8 * (7 - (u.1 0 k)))))) k) rfl 2 (by decide) (ht _ gt_25) (fun _ h9 => h9) rfl (by decide +kernel) rfl rfl (Nat.le_of_ble_eq_true rfl) (gk_w0 cI cT ad (gk_sL u 0 k ((u.2 0 k) ||| (gj_lshl (Int32.toInt64 p1) (8 * (7 - (u.1 0 k)))))) k (((gk_sL u 0 k ((u.2 0 k) ||| (gj_lshl (Int32.toInt64 p1) (8 * (7 - (u.1 0 k)))))).1 0 k) + 1)) (gk_o0 cI cT ad (gk_sL u 0 k ((u.2 0 k) ||| (gj_lshl (Int32.toInt64 p1) (8 * (7 - (u.1 0 k)))))) k (((gk_sL u 0 k ((u.2 0 k) ||| (gj_lshl (Int32.toInt64 p1) (8 * (7 - (u.1 0 k)))))).1 0 k) + 1)) hS gd_Tx_append_38 (fun H locs hH hS => ?_)
    refine lv_goto (tgt := 85) hx hb gd_Tx_append_41 (by decide) ?_
    cases hf
    exact W.vret hx hb hr (fun t ht hW => ⟨⟨_, rfl, rfl, ⟨by rw [ht]; exact hH, va_K.moved hW.alike hK⟩⟩, hS.F ht⟩) hS.2.2 gd_Tx_append_85
set_option maxHeartbeats 4000000 in
set_option maxRecDepth 100000 in
theorem ct_Bk_type (l : Launch) (D : va_G) (cI cT : ClassId) (ad : Nat → Nat → Nat) (hI : gq_I gk_vd ad) (u : gk_St) (p1 : Int64) (p3 : Int32) (z : Int32 × gk_St) (hf : fn_Bk_type p1 p3 u = some z) : Met l gy_Bk_type gws_Bk_type ({ frames := 2, cells := 0, slots := 0, locals := 46 }) (va_Pc [.ref (ad 0 0), .long p1, .int p3] (gq_pre D gc_cl (gk_tys cI cT) gk_vd ad gk_NF gk_NM (gk_pc cI cT ad u))) (va_Qi (fun r u2 => r = z.1 ∧ u2 = z.2) (fun u2 t => gq_B D gc_cl (gk_tys cI cT) gk_vd ad (gk_pc cI cT ad u2) t) (gq_A gk_vd ad)) 0 0 (gq_A gk_vd ad) := by
  refine Met.ofW (cc := gb_Bk_type) (maxL := 5) (ret := (some .int)) (by decide) rfl ?_
  intro p e s m args below meth c s₁ B hml hv
  obtain ⟨rfl, hH, hK, hN⟩ := hv
  have hx := B.exec
  have hb := B.bytes
  have hr := B.returns
  have hts := atoms_spec (ws := gws_Bk_type) B.pre
  have ht := fun (w : Cond) (h : w ∈ gt_T) => hts w (List.mem_cons_of_mem _ h)
  have hown : s.vm.findClass gR_Bk = some m.cls := findClass_of_methodNamed B.named
  have hlocks := B.notSynchronized
  have hA : ∀ q, (gq_A gk_vd ad) q → (gq_A gk_vd ad) q := fun _ h => h
  have hS : va_S (gq_A gk_vd ad) s.heap s.heap [] := va_S.rf
  have hl := lv_entry ([.ref (ad 0 0), .long p1, .int p3]) (n := 5) (Nat.le_of_ble_eq_true rfl)
  rw [lg_entry_eq]
  generalize (lg_sl ([.ref (ad 0 0), .long p1, .int p3]) ++ List.replicate (5 - (lg_sl ([.ref (ad 0 0), .long p1, .int p3])).length) Slot.unset).toArray = ls at hl ⊢
  have hl : lv_has ls 5 [(0, .ref (ad 0 0)), (1, .long p1), (3, .int p3)] := hl
  have L43 : ∀ (n : Nat) (x1 : Int64) (x3 : Int32) (x4 : Int32) (u : gk_St) (H : Heap) (locs : List Loc) (ls : Array Slot), fn_Bk_type_43 n x1 x3 x4 u = some z → gq_H D gc_cl gk_vd ad (gk_pc cI cT ad u) H → va_S (gq_A gk_vd ad) s.heap H locs → lv_has ls 5 [(0, .ref (ad 0 0)), (1, .long x1), (3, .int x3), (4, .int x4)] → W p l e (headSpec gws_Bk_type ({ frames := 2, cells := 0, slots := 0, locals := 46 })).room s m ([.ref (ad 0 0), .long p1, .int p3] : List Value).toArray below meth c H locs 0 0 (MQ below (va_Qi (fun r u2 => r = z.1 ∧ u2 = z.2) (fun u2 t => gq_B D gc_cl (gk_tys cI cT) gk_vd ad (gk_pc cI cT ad u2) t) (gq_A gk_vd ad)) ([.ref (ad 0 0), .long p1, .int p3] : List Value).toArray s 0 0 (gq_A gk_vd ad)) (F0 m 43 ls []) := by
    intro n
    induction n with
    | zero =>
      intro x1 x3 x4 u H locs ls hf
      have h0 : none = some z := hf
      cases h0
    | succ n ih =>
      intro x1 x3 x4 u H locs ls hf hH hS hl
      rw [fn_Bk_type_43] at hf
      refine lv_iload hx hb gd_Bk_type_43 (lv_at hl 3 rfl) ?_
      refine lv_if_lt (tgt := 67) hx hb gd_Bk_type_45 (by decide) (fun c7 => ?_) (fun c7 => ?_)
      · replace hf := gj_t c7 hf
        refine lv_aload_n hx hb gd_Bk_type_67 rfl (lv_at hl 0 rfl) ?_
        refine va_get (D := D) (ci := 0) (C := gR_Bk) (T := gT_Bk) (N := 5) hx hb hts (fun w h => List.mem_cons_of_mem _ (gl_Bk w h)) hown hK (gq_one (c := 0) (k := 0) hH rfl (gk_c0 cI cT ad u)) 0 rfl rfl 0 (by decide) (ht _ gt_85) (fun _ h9 => h9) rfl gd_Bk_type_68 ?_
        refine va_getN (D := D) (ci := 2) (C := gR_Tx) (T := gT_Tx) (N := 3) hx hb hts (fun w h => List.mem_cons_of_mem _ (gl_Tx w h)) hown hK (gq_one (c := 6) (k := 100) hH (Nat.le_refl 100) (gk_c6 cI cT ad u 100)) 0 rfl rfl 2 (by decide) (va_Nw.use rfl (hN.1 _ (List.mem_of_getElem? (i := 0) rfl))) (fun _ h9 => h9) rfl gd_Bk_type_71 ?_
        cases hf
        exact W.iret hx hb hr (fun t ht hW => ⟨⟨_, _, rfl, ⟨rfl, rfl⟩, ⟨by rw [ht]; exact hH, va_K.moved hW.alike hK⟩⟩, hS.F ht⟩) hS.2.2 gd_Bk_type_74
      · replace hf := gj_e c7 hf
        refine lv_aload_n hx hb gd_Bk_type_48 rfl (lv_at hl 0 rfl) ?_
        refine va_get (D := D) (ci := 0) (C := gR_Bk) (T := gT_Bk) (N := 5) hx hb hts (fun w h => List.mem_cons_of_mem _ (gl_Bk w h)) hown hK (gq_one (c := 0) (k := 0) hH rfl (gk_c0 cI cT ad u)) 0 rfl rfl 0 (by decide) (ht _ gt_85) (fun _ h9 => h9) rfl gd_Bk_type_49 ?_
        refine lv_lload_n hx hb gd_Bk_type_52 rfl (lv_at hl 1 rfl) ?_
        refine lv_iload hx hb gd_Bk_type_53 (lv_at hl 3 rfl) ?_
        obtain ⟨z3, hc4, hf⟩ := Option.bind_eq_some_iff.mp hf
        refine gq_calli (va_runS (As := [.long x1, .int x4]) (rest := [.ref (ad 6 100)]) ⟨hx, hb, hml, hown, hts⟩ (ct_Bk_byteOf l D cI cT ad hI u x1 x4 z3 hc4) (va_cwS 2 hts (gt_S gt_108 gt_109 gt_1 gt_110) rfl rfl rfl (by decide +kernel) ⟨Nat.le_of_ble_eq_true rfl, Nat.le_of_ble_eq_true rfl⟩) (gq_preS hH hK hN) rfl rfl hl.1 rfl (lv_room (Nat.le_of_ble_eq_true rfl)) gd_Bk_type_55 ⟨Nat.zero_le _, Nat.zero_le _⟩) hA hS (fun H locs hH hS => ?_)
        obtain ⟨z5, hc6, hf⟩ := Option.bind_eq_some_iff.mp hf
        refine gq_callv (va_runV (As := [.int z3.1]) (rest := []) ⟨hx, hb, hml, hown, hts⟩ (ct_Tx_append l D cI cT ad hI z3.2 100 (Nat.le_refl 100) z3.1 z5 hc6) (cwV 1 hts (gt_V gt_112 gt_113 gt_114 gt_2 gt_115) rfl rfl rfl (by decide +kernel) ⟨Nat.le_of_ble_eq_true rfl, Nat.le_of_ble_eq_true rfl⟩) (gq_preV hH hK hN (va_recv hK (gq_one (c := 6) (k := 100) hH (Nat.le_refl 100) (gk_c6 cI cT ad z3.2 100)) (ci := 2) (q0 := 0) rfl rfl)) rfl rfl hl.1 rfl (lv_room (Nat.le_of_ble_eq_true rfl)) gd_Bk_type_58 ⟨Nat.zero_le _, Nat.zero_le _⟩) hA hS (fun H locs hH hS => ?_)
        refine lv_iinc (v := x4 + (-1)) (lv' := [(4, .int (x4 + (-1))), (0, .ref (ad 0 0)), (1, .long x1), (3, .int x3)]) hx hb gd_Bk_type_61 hl (k := 3) rfl rfl (by decide) rfl (fun ls hl => ?_)
        refine lv_goto (tgt := 43) hx hb gd_Bk_type_64 (by decide) ?_
        exact ih x1 x3 (x4 + (-1)) z5 _ _ _ hf hH hS (lv_sub hl [1, 2, 3, 0] rfl)
  unfold fn_Bk_type at hf
  refine lv_iload_n hx hb gd_Bk_type_0 rfl (lv_at hl 2 rfl) ?_
  refine lv_iconst (v := 1) hx hb gd_Bk_type_1 (by decide) ?_
  refine lv_icmp_lt (tgt := 19) hx hb gd_Bk_type_2 (by decide) (fun c11 => ?_) (fun c11 => ?_)
  · replace hf := gj_t c11 hf
    refine lv_iconst (v := (-1)) hx hb gd_Bk_type_19 (by decide) ?_
    cases hf
    exact W.iret hx hb hr (fun t ht hW => ⟨⟨_, _, rfl, ⟨rfl, rfl⟩, ⟨by rw [ht]; exact hH, va_K.moved hW.alike hK⟩⟩, hS.F ht⟩) hS.2.2 gd_Bk_type_20
  · replace hf := gj_e c11 hf
    refine lv_iload_n hx hb gd_Bk_type_5 rfl (lv_at hl 2 rfl) ?_
    refine lv_bipush (v := 8) hx hb gd_Bk_type_6 (by decide) ?_
    refine lv_icmp_gt (tgt := 19) hx hb gd_Bk_type_8 (by decide) (fun c10 => ?_) (fun c10 => ?_)
    · replace hf := gj_t c10 hf
      refine lv_iconst (v := (-1)) hx hb gd_Bk_type_19 (by decide) ?_
      cases hf
      exact W.iret hx hb hr (fun t ht hW => ⟨⟨_, _, rfl, ⟨rfl, rfl⟩, ⟨by rw [ht]; exact hH, va_K.moved hW.alike hK⟩⟩, hS.F ht⟩) hS.2.2 gd_Bk_type_20
    · replace hf := gj_e c10 hf
      refine lv_lload_n hx hb gd_Bk_type_11 rfl (lv_at hl 1 rfl) ?_
      refine lv_iload_n hx hb gd_Bk_type_12 rfl (lv_at hl 2 rfl) ?_
      obtain ⟨z1, hc2, hf⟩ := Option.bind_eq_some_iff.mp hf
      refine gq_calli (va_runS (As := [.long p1, .int p3]) (rest := []) ⟨hx, hb, hml, hown, hts⟩ (ct_Bk_allFit l D cI cT ad hI u p1 p3 z1 hc2) (va_cwS 2 hts (gt_S gt_105 gt_106 gt_1 gt_107) rfl rfl rfl (by decide +kernel) ⟨Nat.le_of_ble_eq_true rfl, Nat.le_of_ble_eq_true rfl⟩) (gq_preS hH hK hN) rfl rfl hl.1 rfl (lv_room (Nat.le_of_ble_eq_true rfl)) gd_Bk_type_13 ⟨Nat.zero_le _, Nat.zero_le _⟩) hA hS (fun H locs hH hS => ?_)
      refine lv_if_ne (tgt := 21) hx hb gd_Bk_type_16 (by decide) (fun c9 => ?_) (fun c9 => ?_)
      · replace hf := gj_e c9 hf
        refine lv_aload_n hx hb gd_Bk_type_21 rfl (lv_at hl 0 rfl) ?_
        refine va_get (D := D) (ci := 0) (C := gR_Bk) (T := gT_Bk) (N := 5) hx hb hts (fun w h => List.mem_cons_of_mem _ (gl_Bk w h)) hown hK (gq_one (c := 0) (k := 0) hH rfl (gk_c0 cI cT ad z1.2)) 0 rfl rfl 0 (by decide) (ht _ gt_85) (fun _ h9 => h9) rfl gd_Bk_type_22 ?_
        refine va_getN (D := D) (ci := 2) (C := gR_Tx) (T := gT_Tx) (N := 3) hx hb hts (fun w h => List.mem_cons_of_mem _ (gl_Tx w h)) hown hK (gq_one (c := 6) (k := 100) hH (Nat.le_refl 100) (gk_c6 cI cT ad z1.2 100)) 0 rfl rfl 2 (by decide) (va_Nw.use rfl (hN.1 _ (List.mem_of_getElem? (i := 0) rfl))) (fun _ h9 => h9) rfl gd_Bk_type_25 ?_
        refine lv_iload_n hx hb gd_Bk_type_28 rfl (lv_at hl 2 rfl) ?_
        refine lv_iadd hx hb gd_Bk_type_29 ?_
        refine lv_bipush (v := 16) hx hb gd_Bk_type_30 (by decide) ?_
        refine lv_icmp_le (tgt := 38) hx hb gd_Bk_type_32 (by decide) (fun c8 => ?_) (fun c8 => ?_)
        · replace hf := gj_t c8 hf
          refine lv_iload_n hx hb gd_Bk_type_38 rfl (lv_at hl 2 rfl) ?_
          refine lv_iconst (v := 1) hx hb gd_Bk_type_39 (by decide) ?_
          refine lv_isub hx hb gd_Bk_type_40 ?_
          refine lv_istore (lv' := [(4, .int (p3 - 1)), (0, .ref (ad 0 0)), (1, .long p1), (3, .int p3)]) hx hb gd_Bk_type_41 hl (by decide) rfl (fun ls hl => ?_)
          exact L43 gk_fu p1 p3 (p3 - 1) z1.2 _ _ _ hf hH hS (lv_sub hl [1, 2, 3, 0] rfl)
        · replace hf := gj_e c8 hf
          refine lv_bipush (v := (-3)) hx hb gd_Bk_type_35 (by decide) ?_
          cases hf
          exact W.iret hx hb hr (fun t ht hW => ⟨⟨_, _, rfl, ⟨rfl, rfl⟩, ⟨by rw [ht]; exact hH, va_K.moved hW.alike hK⟩⟩, hS.F ht⟩) hS.2.2 gd_Bk_type_37
      · replace hf := gj_t c9 hf
        refine lv_iconst (v := (-1)) hx hb gd_Bk_type_19 (by decide) ?_
        cases hf
        exact W.iret hx hb hr (fun t ht hW => ⟨⟨_, _, rfl, ⟨rfl, rfl⟩, ⟨by rw [ht]; exact hH, va_K.moved hW.alike hK⟩⟩, hS.F ht⟩) hS.2.2 gd_Bk_type_20
set_option maxHeartbeats 4000000 in
set_option maxRecDepth 100000 in
theorem ct_Tx_empty (l : Launch) (D : va_G) (cI cT : ClassId) (ad : Nat → Nat → Nat) (hI : gq_I gk_vd ad) (u : gk_St) (k : Nat) (hk : k ≤ 100) (z : gk_St) (hf : fn_Tx_empty k u = some z) : Met l gy_Tx_empty gws_Tx_empty ({ frames := 0, cells := 0, slots := 0, locals := 0 }) (va_Pc [.ref (ad 6 k)] (gq_pre D gc_cl (gk_tys cI cT) gk_vd ad gk_NF gk_NM (gk_pc cI cT ad u))) (va_Qv (fun u2 => u2 = z) (fun u2 t => gq_B D gc_cl (gk_tys cI cT) gk_vd ad (gk_pc cI cT ad u2) t) (gq_A gk_vd ad)) 0 0 (gq_A gk_vd ad) := by
  refine Met.ofW (cc := gb_Tx_empty) (maxL := 1) (ret := none) (by decide) rfl ?_
  intro p e s m args below meth c s₁ B hml hv
  obtain ⟨rfl, hH, hK, hN⟩ := hv
  have hx := B.exec
  have hb := B.bytes
  have hr := B.returns
  have hts := atoms_spec (ws := gws_Tx_empty) B.pre
  have ht := fun (w : Cond) (h : w ∈ gt_T) => hts w (List.mem_cons_of_mem _ h)
  have hown : s.vm.findClass gR_Tx = some m.cls := findClass_of_methodNamed B.named
  have hlocks := B.notSynchronized
  have hA : ∀ q, (gq_A gk_vd ad) q → (gq_A gk_vd ad) q := fun _ h => h
  have hS : va_S (gq_A gk_vd ad) s.heap s.heap [] := va_S.rf
  have hl := lv_entry ([.ref (ad 6 k)]) (n := 1) (Nat.le_of_ble_eq_true rfl)
  rw [lg_entry_eq]
  generalize (lg_sl ([.ref (ad 6 k)]) ++ List.replicate (1 - (lg_sl ([.ref (ad 6 k)])).length) Slot.unset).toArray = ls at hl ⊢
  have hl : lv_has ls 1 [(0, .ref (ad 6 k))] := hl
  unfold fn_Tx_empty at hf
  refine lv_aload_n hx hb gd_Tx_empty_0 rfl (lv_at hl 0 rfl) ?_
  refine lv_lconst (v := 0) hx hb gd_Tx_empty_1 (by decide) ?_
  refine gq_put (D := D) (ci := 2) (C := gR_Tx) (T := gT_Tx) (N := 3) (ca := 6) (ka := k) (pp' := gk_pc cI cT ad (gk_sL u 0 k 0)) (ty := .long) hx hb hts (fun w h => List.mem_cons_of_mem _ (gl_Tx w h)) gF_Tx gf_Tx gn_Tx hown hK hH hI hA hk (gk_c6 cI cT ad u k) rfl 0 (by decide) (ht _ gt_23) (fun _ h9 => h9) rfl (by decide +kernel) rfl rfl (Nat.le_of_ble_eq_true rfl) (gk_w0L cI cT ad u k 0) (gk_o0L cI cT ad u k 0) hS gd_Tx_empty_2 (fun H locs hH hS => ?_)
  refine lv_aload_n hx hb gd_Tx_empty_5 rfl (lv_at hl 0 rfl) ?_
  refine lv_lconst (v := 0) hx hb gd_Tx_empty_6 (by decide) ?_
  refine gq_put (D := D) (ci := 2) (C := gR_Tx) (T := gT_Tx) (N := 3) (ca := 6) (ka := k) (pp' := gk_pc cI cT ad (gk_sL (gk_sL u 0 k 0) 1 k 0)) (ty := .long) hx hb hts (fun w h => List.mem_cons_of_mem _ (gl_Tx w h)) gF_Tx gf_Tx gn_Tx hown hK hH hI hA hk (gk_c6 cI cT ad (gk_sL u 0 k 0) k) rfl 1 (by decide) (ht _ gt_24) (fun _ h9 => h9) rfl (by decide +kernel) rfl rfl (Nat.le_of_ble_eq_true rfl) (gk_w1L cI cT ad (gk_sL u 0 k 0) k 0) (gk_o1L cI cT ad (gk_sL u 0 k 0) k 0) hS gd_Tx_empty_7 (fun H locs hH hS => ?_)
  refine lv_aload_n hx hb gd_Tx_empty_10 rfl (lv_at hl 0 rfl) ?_
  refine lv_iconst (v := 0) hx hb gd_Tx_empty_11 (by decide) ?_
  refine gq_put (D := D) (ci := 2) (C := gR_Tx) (T := gT_Tx) (N := 3) (ca := 6) (ka := k) (pp' := gk_pc cI cT ad (gk_sI (gk_sL (gk_sL u 0 k 0) 1 k 0) 0 k 0)) (ty := .int) hx hb hts (fun w h => List.mem_cons_of_mem _ (gl_Tx w h)) gF_Tx gf_Tx gn_Tx hown hK hH hI hA hk (gk_c6 cI cT ad (gk_sL (gk_sL u 0 k 0) 1 k 0) k) rfl 2 (by decide) (ht _ gt_25) (fun _ h9 => h9) rfl (by decide +kernel) rfl rfl (Nat.le_of_ble_eq_true rfl) (gk_w0 cI cT ad (gk_sL (gk_sL u 0 k 0) 1 k 0) k 0) (gk_o0 cI cT ad (gk_sL (gk_sL u 0 k 0) 1 k 0) k 0) hS gd_Tx_empty_12 (fun H locs hH hS => ?_)
  cases hf
  exact W.vret hx hb hr (fun t ht hW => ⟨⟨_, rfl, rfl, ⟨by rw [ht]; exact hH, va_K.moved hW.alike hK⟩⟩, hS.F ht⟩) hS.2.2 gd_Tx_empty_15
set_option maxHeartbeats 4000000 in
set_option maxRecDepth 100000 in
theorem ct_Bk_clear (l : Launch) (D : va_G) (cI cT : ClassId) (ad : Nat → Nat → Nat) (hI : gq_I gk_vd ad) (u : gk_St)  (z : Int32 × gk_St) (hf : fn_Bk_clear u = some z) : Met l gy_Bk_clear gws_Bk_clear ({ frames := 1, cells := 0, slots := 0, locals := 20 }) (va_Pc [.ref (ad 0 0)] (gq_pre D gc_cl (gk_tys cI cT) gk_vd ad gk_NF gk_NM (gk_pc cI cT ad u))) (va_Qi (fun r u2 => r = z.1 ∧ u2 = z.2) (fun u2 t => gq_B D gc_cl (gk_tys cI cT) gk_vd ad (gk_pc cI cT ad u2) t) (gq_A gk_vd ad)) 0 0 (gq_A gk_vd ad) := by
  refine Met.ofW (cc := gb_Bk_clear) (maxL := 2) (ret := (some .int)) (by decide) rfl ?_
  intro p e s m args below meth c s₁ B hml hv
  obtain ⟨rfl, hH, hK, hN⟩ := hv
  have hx := B.exec
  have hb := B.bytes
  have hr := B.returns
  have hts := atoms_spec (ws := gws_Bk_clear) B.pre
  have ht := fun (w : Cond) (h : w ∈ gt_T) => hts w (List.mem_cons_of_mem _ h)
  have hown : s.vm.findClass gR_Bk = some m.cls := findClass_of_methodNamed B.named
  have hlocks := B.notSynchronized
  have hA : ∀ q, (gq_A gk_vd ad) q → (gq_A gk_vd ad) q := fun _ h => h
  have hS : va_S (gq_A gk_vd ad) s.heap s.heap [] := va_S.rf
  have hl := lv_entry ([.ref (ad 0 0)]) (n := 2) (Nat.le_of_ble_eq_true rfl)
  rw [lg_entry_eq]
  generalize (lg_sl ([.ref (ad 0 0)]) ++ List.replicate (2 - (lg_sl ([.ref (ad 0 0)])).length) Slot.unset).toArray = ls at hl ⊢
  have hl : lv_has ls 2 [(0, .ref (ad 0 0))] := hl
  unfold fn_Bk_clear at hf
  refine lv_aload_n hx hb gd_Bk_clear_0 rfl (lv_at hl 0 rfl) ?_
  refine va_get (D := D) (ci := 0) (C := gR_Bk) (T := gT_Bk) (N := 5) hx hb hts (fun w h => List.mem_cons_of_mem _ (gl_Bk w h)) hown hK (gq_one (c := 0) (k := 0) hH rfl (gk_c0 cI cT ad u)) 0 rfl rfl 0 (by decide) (ht _ gt_85) (fun _ h9 => h9) rfl gd_Bk_clear_1 ?_
  refine va_getN (D := D) (ci := 2) (C := gR_Tx) (T := gT_Tx) (N := 3) hx hb hts (fun w h => List.mem_cons_of_mem _ (gl_Tx w h)) hown hK (gq_one (c := 6) (k := 100) hH (Nat.le_refl 100) (gk_c6 cI cT ad u 100)) 0 rfl rfl 2 (by decide) (va_Nw.use rfl (hN.1 _ (List.mem_of_getElem? (i := 0) rfl))) (fun _ h9 => h9) rfl gd_Bk_clear_4 ?_
  refine lv_istore_n (lv' := [(1, .int (u.1 0 100)), (0, .ref (ad 0 0))]) hx hb gd_Bk_clear_7 rfl hl (by decide) rfl (fun ls hl => ?_)
  refine lv_aload_n hx hb gd_Bk_clear_8 rfl (lv_at hl 1 rfl) ?_
  refine va_get (D := D) (ci := 0) (C := gR_Bk) (T := gT_Bk) (N := 5) hx hb hts (fun w h => List.mem_cons_of_mem _ (gl_Bk w h)) hown hK (gq_one (c := 0) (k := 0) hH rfl (gk_c0 cI cT ad u)) 0 rfl rfl 0 (by decide) (ht _ gt_85) (fun _ h9 => h9) rfl gd_Bk_clear_9 ?_
  obtain ⟨z1, hc2, hf⟩ := Option.bind_eq_some_iff.mp hf
  refine gq_callv (va_runV (As := []) (rest := []) ⟨hx, hb, hml, hown, hts⟩ (ct_Tx_empty l D cI cT ad hI u 100 (Nat.le_refl 100) z1 hc2) (cwV 0 hts (gt_V gt_120 gt_121 gt_122 gt_2 gt_123) rfl rfl rfl (by decide +kernel) ⟨Nat.le_of_ble_eq_true rfl, Nat.le_of_ble_eq_true rfl⟩) (gq_preV hH hK hN (va_recv hK (gq_one (c := 6) (k := 100) hH (Nat.le_refl 100) (gk_c6 cI cT ad u 100)) (ci := 2) (q0 := 0) rfl rfl)) rfl rfl hl.1 rfl (lv_room (Nat.le_of_ble_eq_true rfl)) gd_Bk_clear_12 ⟨Nat.zero_le _, Nat.zero_le _⟩) hA hS (fun H locs hH hS => ?_)
  refine lv_iload_n hx hb gd_Bk_clear_15 rfl (lv_at hl 0 rfl) ?_
  cases hf
  exact W.iret hx hb hr (fun t ht hW => ⟨⟨_, _, rfl, ⟨rfl, rfl⟩, ⟨by rw [ht]; exact hH, va_K.moved hW.alike hK⟩⟩, hS.F ht⟩) hS.2.2 gd_Bk_clear_16
set_option maxHeartbeats 4000000 in
set_option maxRecDepth 100000 in
theorem ct_Bk_isKind (l : Launch) (D : va_G) (cI cT : ClassId) (ad : Nat → Nat → Nat) (hI : gq_I gk_vd ad) (u : gk_St) (p0 : Int32) (z : Int32 × gk_St) (hf : fn_Bk_isKind p0 u = some z) : Met l gy_Bk_isKind gws_Bk_isKind ({ frames := 0, cells := 0, slots := 0, locals := 0 }) (va_Pc [.int p0] (gq_pre D gc_cl (gk_tys cI cT) gk_vd ad gk_NF gk_NM (gk_pc cI cT ad u))) (va_Qi (fun r u2 => r = z.1 ∧ u2 = z.2) (fun u2 t => gq_B D gc_cl (gk_tys cI cT) gk_vd ad (gk_pc cI cT ad u2) t) (gq_A gk_vd ad)) 0 0 (gq_A gk_vd ad) := by
  refine Met.ofW (cc := gb_Bk_isKind) (maxL := 1) (ret := (some .boolean)) (by decide) rfl ?_
  intro p e s m args below meth c s₁ B hml hv
  obtain ⟨rfl, hH, hK, hN⟩ := hv
  have hx := B.exec
  have hb := B.bytes
  have hr := B.returns
  have hts := atoms_spec (ws := gws_Bk_isKind) B.pre
  have ht := fun (w : Cond) (h : w ∈ gt_T) => hts w (List.mem_cons_of_mem _ h)
  have hown : s.vm.findClass gR_Bk = some m.cls := findClass_of_methodNamed B.named
  have hlocks := B.notSynchronized
  have hA : ∀ q, (gq_A gk_vd ad) q → (gq_A gk_vd ad) q := fun _ h => h
  have hS : va_S (gq_A gk_vd ad) s.heap s.heap [] := va_S.rf
  have hl := lv_entry ([.int p0]) (n := 1) (Nat.le_of_ble_eq_true rfl)
  rw [lg_entry_eq]
  generalize (lg_sl ([.int p0]) ++ List.replicate (1 - (lg_sl ([.int p0])).length) Slot.unset).toArray = ls at hl ⊢
  have hl : lv_has ls 1 [(0, .int p0)] := hl
  unfold fn_Bk_isKind at hf
  refine lv_iload_n hx hb gd_Bk_isKind_0 rfl (lv_at hl 0 rfl) ?_
  refine lv_if_lt (tgt := 13) hx hb gd_Bk_isKind_1 (by decide) (fun c2 => ?_) (fun c2 => ?_)
  · replace hf := gj_t c2 hf
    refine lv_iconst (v := 0) hx hb gd_Bk_isKind_13 (by decide) ?_
    cases hf
    exact W.zret hx hb hr rfl (fun t ht hW => ⟨⟨_, _, rfl, ⟨rfl, rfl⟩, ⟨by rw [ht]; exact hH, va_K.moved hW.alike hK⟩⟩, hS.F ht⟩) hS.2.2 gd_Bk_isKind_14
  · replace hf := gj_e c2 hf
    refine lv_iload_n hx hb gd_Bk_isKind_4 rfl (lv_at hl 0 rfl) ?_
    refine lv_iconst (v := 4) hx hb gd_Bk_isKind_5 (by decide) ?_
    refine lv_icmp_ge (tgt := 13) hx hb gd_Bk_isKind_6 (by decide) (fun c1 => ?_) (fun c1 => ?_)
    · replace hf := gj_t c1 hf
      refine lv_iconst (v := 0) hx hb gd_Bk_isKind_13 (by decide) ?_
      cases hf
      exact W.zret hx hb hr rfl (fun t ht hW => ⟨⟨_, _, rfl, ⟨rfl, rfl⟩, ⟨by rw [ht]; exact hH, va_K.moved hW.alike hK⟩⟩, hS.F ht⟩) hS.2.2 gd_Bk_isKind_14
    · replace hf := gj_e c1 hf
      refine lv_iconst (v := 1) hx hb gd_Bk_isKind_9 (by decide) ?_
      refine lv_goto (tgt := 14) hx hb gd_Bk_isKind_10 (by decide) ?_
      cases hf
      exact W.zret hx hb hr rfl (fun t ht hW => ⟨⟨_, _, rfl, ⟨rfl, rfl⟩, ⟨by rw [ht]; exact hH, va_K.moved hW.alike hK⟩⟩, hS.F ht⟩) hS.2.2 gd_Bk_isKind_14
set_option maxHeartbeats 4000000 in
set_option maxRecDepth 100000 in
theorem ct_Lv_numberAt (l : Launch) (D : va_G) (cI cT : ClassId) (ad : Nat → Nat → Nat) (hI : gq_I gk_vd ad) (u : gk_St) (p1 : Int32) (z : Int32 × gk_St) (hf : fn_Lv_numberAt p1 u = some z) : Met l gy_Lv_numberAt gws_Lv_numberAt ({ frames := 0, cells := 0, slots := 0, locals := 0 }) (va_Pc [.ref (ad 2 0), .int p1] (gq_pre D gc_cl (gk_tys cI cT) gk_vd ad gk_NF gk_NM (gk_pc cI cT ad u))) (va_Qi (fun r u2 => r = z.1 ∧ u2 = z.2) (fun u2 t => gq_B D gc_cl (gk_tys cI cT) gk_vd ad (gk_pc cI cT ad u2) t) (gq_A gk_vd ad)) 0 0 (gq_A gk_vd ad) := by
  refine Met.ofW (cc := gb_Lv_numberAt) (maxL := 2) (ret := (some .int)) (by decide) rfl ?_
  intro p e s m args below meth c s₁ B hml hv
  obtain ⟨rfl, hH, hK, hN⟩ := hv
  have hx := B.exec
  have hb := B.bytes
  have hr := B.returns
  have hts := atoms_spec (ws := gws_Lv_numberAt) B.pre
  have ht := fun (w : Cond) (h : w ∈ gt_T) => hts w (List.mem_cons_of_mem _ h)
  have hown : s.vm.findClass gR_Lv = some m.cls := findClass_of_methodNamed B.named
  have hlocks := B.notSynchronized
  have hA : ∀ q, (gq_A gk_vd ad) q → (gq_A gk_vd ad) q := fun _ h => h
  have hS : va_S (gq_A gk_vd ad) s.heap s.heap [] := va_S.rf
  have hl := lv_entry ([.ref (ad 2 0), .int p1]) (n := 2) (Nat.le_of_ble_eq_true rfl)
  rw [lg_entry_eq]
  generalize (lg_sl ([.ref (ad 2 0), .int p1]) ++ List.replicate (2 - (lg_sl ([.ref (ad 2 0), .int p1])).length) Slot.unset).toArray = ls at hl ⊢
  have hl : lv_has ls 2 [(0, .ref (ad 2 0)), (1, .int p1)] := hl
  unfold fn_Lv_numberAt at hf
  refine lv_iload_n hx hb gd_Lv_numberAt_0 rfl (lv_at hl 1 rfl) ?_
  refine lv_if_lt (tgt := 30) hx hb gd_Lv_numberAt_1 (by decide) (fun c4 => ?_) (fun c4 => ?_)
  · replace hf := gj_t c4 hf
    refine lv_iconst (v := (-1)) hx hb gd_Lv_numberAt_30 (by decide) ?_
    cases hf
    exact W.iret hx hb hr (fun t ht hW => ⟨⟨_, _, rfl, ⟨rfl, rfl⟩, ⟨by rw [ht]; exact hH, va_K.moved hW.alike hK⟩⟩, hS.F ht⟩) hS.2.2 gd_Lv_numberAt_31
  · replace hf := gj_e c4 hf
    refine lv_iload_n hx hb gd_Lv_numberAt_4 rfl (lv_at hl 1 rfl) ?_
    refine lv_aload_n hx hb gd_Lv_numberAt_5 rfl (lv_at hl 0 rfl) ?_
    refine va_get (D := D) (ci := 1) (C := gR_Lv) (T := gT_Lv) (N := 4) hx hb hts (fun w h => List.mem_cons_of_mem _ (gl_Lv w h)) hown hK (gq_one (c := 2) (k := 0) hH rfl (gk_c2 cI cT ad u)) 0 rfl rfl 1 (by decide) (ht _ gt_70) (fun _ h9 => h9) rfl gd_Lv_numberAt_6 ?_
    refine lv_icmp_ge (tgt := 30) hx hb gd_Lv_numberAt_9 (by decide) (fun c3 => ?_) (fun c3 => ?_)
    · replace hf := gj_t c3 hf
      refine lv_iconst (v := (-1)) hx hb gd_Lv_numberAt_30 (by decide) ?_
      cases hf
      exact W.iret hx hb hr (fun t ht hW => ⟨⟨_, _, rfl, ⟨rfl, rfl⟩, ⟨by rw [ht]; exact hH, va_K.moved hW.alike hK⟩⟩, hS.F ht⟩) hS.2.2 gd_Lv_numberAt_31
    · replace hf := gj_e c3 hf
      refine lv_iload_n hx hb gd_Lv_numberAt_12 rfl (lv_at hl 1 rfl) ?_
      refine lv_aload_n hx hb gd_Lv_numberAt_13 rfl (lv_at hl 0 rfl) ?_
      refine va_get (D := D) (ci := 1) (C := gR_Lv) (T := gT_Lv) (N := 4) hx hb hts (fun w h => List.mem_cons_of_mem _ (gl_Lv w h)) hown hK (gq_one (c := 2) (k := 0) hH rfl (gk_c2 cI cT ad u)) 0 rfl rfl 0 (by decide) (ht _ gt_69) (fun _ h9 => h9) rfl gd_Lv_numberAt_14 ?_
      refine va_alen (D := D) (v := 100) hx hb hK (gq_one (c := 3) (k := 0) hH rfl (gk_c3 cI cT ad u)) 0 0 rfl rfl rfl gd_Lv_numberAt_17 ?_
      refine lv_icmp_ge (tgt := 30) hx hb gd_Lv_numberAt_18 (by decide) (fun c2 => ?_) (fun c2 => ?_)
      · replace hf := gj_t c2 hf
        refine lv_iconst (v := (-1)) hx hb gd_Lv_numberAt_30 (by decide) ?_
        cases hf
        exact W.iret hx hb hr (fun t ht hW => ⟨⟨_, _, rfl, ⟨rfl, rfl⟩, ⟨by rw [ht]; exact hH, va_K.moved hW.alike hK⟩⟩, hS.F ht⟩) hS.2.2 gd_Lv_numberAt_31
      · replace hf := gj_e c2 hf
        refine lv_aload_n hx hb gd_Lv_numberAt_21 rfl (lv_at hl 0 rfl) ?_
        refine va_get (D := D) (ci := 1) (C := gR_Lv) (T := gT_Lv) (N := 4) hx hb hts (fun w h => List.mem_cons_of_mem _ (gl_Lv w h)) hown hK (gq_one (c := 2) (k := 0) hH rfl (gk_c2 cI cT ad u)) 0 rfl rfl 0 (by decide) (ht _ gt_69) (fun _ h9 => h9) rfl gd_Lv_numberAt_22 ?_
        refine lv_iload_n hx hb gd_Lv_numberAt_25 rfl (lv_at hl 1 rfl) ?_
        obtain ⟨hg1, hf⟩ := gj_g hf
        refine va_iald (D := D) hx hb hK (gq_one (c := 3) (k := 0) hH rfl (gk_c3 cI cT ad u)) 0 0 rfl rfl hg1 gd_Lv_numberAt_26 ?_
        refine lv_goto (tgt := 31) hx hb gd_Lv_numberAt_27 (by decide) ?_
        cases hf
        exact W.iret hx hb hr (fun t ht hW => ⟨⟨_, _, rfl, ⟨rfl, rfl⟩, ⟨by rw [ht]; exact hH, va_K.moved hW.alike hK⟩⟩, hS.F ht⟩) hS.2.2 gd_Lv_numberAt_31
set_option maxHeartbeats 4000000 in
set_option maxRecDepth 100000 in
theorem ct_Bk_inBook (l : Launch) (D : va_G) (cI cT : ClassId) (ad : Nat → Nat → Nat) (hI : gq_I gk_vd ad) (u : gk_St) (p1 : Int32) (z : Option Nat × gk_St) (hf : fn_Bk_inBook p1 u = some z) : Met l gy_Bk_inBook gws_Bk_inBook ({ frames := 0, cells := 0, slots := 0, locals := 0 }) (va_Pc [.ref (ad 0 0), .int p1] (gq_pre D gc_cl (gk_tys cI cT) gk_vd ad gk_NF gk_NM (gk_pc cI cT ad u))) (va_Qe (ad 7) (fun r u2 => r = z.1 ∧ u2 = z.2) (fun u2 t => gq_B D gc_cl (gk_tys cI cT) gk_vd ad (gk_pc cI cT ad u2) t) (gq_A gk_vd ad)) 0 0 (gq_A gk_vd ad) := by
  refine Met.ofW (cc := gb_Bk_inBook) (maxL := 3) (ret := (some (.object "TermBook$Term"))) (by decide) rfl ?_
  intro p e s m args below meth c s₁ B hml hv
  obtain ⟨rfl, hH, hK, hN⟩ := hv
  have hx := B.exec
  have hb := B.bytes
  have hr := B.returns
  have hts := atoms_spec (ws := gws_Bk_inBook) B.pre
  have ht := fun (w : Cond) (h : w ∈ gt_T) => hts w (List.mem_cons_of_mem _ h)
  have hown : s.vm.findClass gR_Bk = some m.cls := findClass_of_methodNamed B.named
  have hlocks := B.notSynchronized
  have hA : ∀ q, (gq_A gk_vd ad) q → (gq_A gk_vd ad) q := fun _ h => h
  have hS : va_S (gq_A gk_vd ad) s.heap s.heap [] := va_S.rf
  have hl := lv_entry ([.ref (ad 0 0), .int p1]) (n := 3) (Nat.le_of_ble_eq_true rfl)
  rw [lg_entry_eq]
  generalize (lg_sl ([.ref (ad 0 0), .int p1]) ++ List.replicate (3 - (lg_sl ([.ref (ad 0 0), .int p1])).length) Slot.unset).toArray = ls at hl ⊢
  have hl : lv_has ls 3 [(0, .ref (ad 0 0)), (1, .int p1)] := hl
  unfold fn_Bk_inBook at hf
  refine lv_iload_n hx hb gd_Bk_inBook_0 rfl (lv_at hl 1 rfl) ?_
  refine lv_if_lt (tgt := 13) hx hb gd_Bk_inBook_1 (by decide) (fun c4 => ?_) (fun c4 => ?_)
  · replace hf := gj_t c4 hf
    refine lv_null hx hb gd_Bk_inBook_13 ?_
    cases hf
    exact W.aret hx hb hr (Or.inl ⟨_, rfl⟩) (Or.inl rfl) (fun t ht hW => ⟨⟨none, _, rfl, ⟨rfl, rfl⟩, ⟨by rw [ht]; exact hH, va_K.moved hW.alike hK⟩⟩, hS.F ht⟩) hS.2.2 gd_Bk_inBook_14
  · replace hf := gj_e c4 hf
    refine lv_iload_n hx hb gd_Bk_inBook_4 rfl (lv_at hl 1 rfl) ?_
    refine lv_aload_n hx hb gd_Bk_inBook_5 rfl (lv_at hl 0 rfl) ?_
    refine va_get (D := D) (ci := 0) (C := gR_Bk) (T := gT_Bk) (N := 5) hx hb hts (fun w h => List.mem_cons_of_mem _ (gl_Bk w h)) hown hK (gq_one (c := 0) (k := 0) hH rfl (gk_c0 cI cT ad u)) 0 rfl rfl 1 (by decide) (ht _ gt_86) (fun _ h9 => h9) rfl gd_Bk_inBook_6 ?_
    refine va_alen (D := D) (v := 100) hx hb hK (gq_one (c := 1) (k := 0) hH rfl (gk_c1 cI cT ad u)) 0 1 rfl rfl rfl gd_Bk_inBook_9 ?_
    refine lv_icmp_lt (tgt := 15) hx hb gd_Bk_inBook_10 (by decide) (fun c3 => ?_) (fun c3 => ?_)
    · replace hf := gj_t c3 hf
      refine lv_aload_n hx hb gd_Bk_inBook_15 rfl (lv_at hl 0 rfl) ?_
      refine va_get (D := D) (ci := 0) (C := gR_Bk) (T := gT_Bk) (N := 5) hx hb hts (fun w h => List.mem_cons_of_mem _ (gl_Bk w h)) hown hK (gq_one (c := 0) (k := 0) hH rfl (gk_c0 cI cT ad u)) 0 rfl rfl 1 (by decide) (ht _ gt_86) (fun _ h9 => h9) rfl gd_Bk_inBook_16 ?_
      refine lv_iload_n hx hb gd_Bk_inBook_19 rfl (lv_at hl 1 rfl) ?_
      obtain ⟨hg1, hf⟩ := gj_g hf
      refine va_aldq (D := D) hx hb hK (gq_one (c := 1) (k := 0) hH rfl (gk_c1 cI cT ad u)) 0 1 rfl rfl hg1 gd_Bk_inBook_20 ?_
      refine W.eq (g2 := F0 m 21 ls [.ref (ad 7 (Int32.toNatClampNeg p1))]) rfl ?_
      refine lv_astore_n (lv' := [(2, .ref (ad 7 (Int32.toNatClampNeg p1))), (0, .ref (ad 0 0)), (1, .int p1)]) hx hb gd_Bk_inBook_21 rfl hl (by decide) rfl (fun ls hl => ?_)
      refine lv_aload_n hx hb gd_Bk_inBook_22 rfl (lv_at hl 0 rfl) ?_
      refine lv_ifnull hx hb gd_Bk_inBook_23 ?_
      refine lv_aload_n hx hb gd_Bk_inBook_26 rfl (lv_at hl 0 rfl) ?_
      refine va_getN (D := D) (ci := 3) (C := gR_Tm) (T := gT_Tm) (N := 5) hx hb hts (fun w h => List.mem_cons_of_mem _ (gl_Tm w h)) hown hK (gq_one (c := 7) (k := (Int32.toNatClampNeg p1)) hH (gj_in_lt hg1) (gk_c7 cI cT ad u (Int32.toNatClampNeg p1))) 0 rfl rfl 1 (by decide) (va_Nw.use rfl (hN.1 _ (List.mem_of_getElem? (i := 2) rfl))) (fun _ h9 => h9) rfl gd_Bk_inBook_27 ?_
      refine lv_if_eq (tgt := 37) hx hb gd_Bk_inBook_30 (by decide) (fun c2 => ?_) (fun c2 => ?_)
      · replace hf := gj_t c2 hf
        refine lv_null hx hb gd_Bk_inBook_37 ?_
        cases hf
        exact W.aret hx hb hr (Or.inl ⟨_, rfl⟩) (Or.inl rfl) (fun t ht hW => ⟨⟨none, _, rfl, ⟨rfl, rfl⟩, ⟨by rw [ht]; exact hH, va_K.moved hW.alike hK⟩⟩, hS.F ht⟩) hS.2.2 gd_Bk_inBook_38
      · replace hf := gj_e c2 hf
        refine lv_aload_n hx hb gd_Bk_inBook_33 rfl (lv_at hl 0 rfl) ?_
        refine lv_goto (tgt := 38) hx hb gd_Bk_inBook_34 (by decide) ?_
        cases hf
        exact W.aret hx hb hr (Or.inl ⟨_, rfl⟩) (Or.inr ⟨_, rfl⟩) (fun t ht hW => ⟨⟨some (Int32.toNatClampNeg p1), _, rfl, ⟨rfl, rfl⟩, ⟨by rw [ht]; exact hH, va_K.moved hW.alike hK⟩⟩, hS.F ht⟩) hS.2.2 gd_Bk_inBook_38
    · replace hf := gj_e c3 hf
      refine lv_null hx hb gd_Bk_inBook_13 ?_
      cases hf
      exact W.aret hx hb hr (Or.inl ⟨_, rfl⟩) (Or.inl rfl) (fun t ht hW => ⟨⟨none, _, rfl, ⟨rfl, rfl⟩, ⟨by rw [ht]; exact hH, va_K.moved hW.alike hK⟩⟩, hS.F ht⟩) hS.2.2 gd_Bk_inBook_14
set_option maxHeartbeats 4000000 in
set_option maxRecDepth 100000 in
theorem ct_Tx_compareWith (l : Launch) (D : va_G) (cI cT : ClassId) (ad : Nat → Nat → Nat) (hI : gq_I gk_vd ad) (u : gk_St) (k : Nat) (hk : k ≤ 100) (q1 : Nat) (hq1 : q1 ≤ 100) (z : Int32 × gk_St) (hf : fn_Tx_compareWith k q1 u = some z) : Met l gy_Tx_compareWith gws_Tx_compareWith ({ frames := 1, cells := 0, slots := 0, locals := 23 }) (va_Pc [.ref (ad 6 k), .ref (ad 6 q1)] (gq_pre D gc_cl (gk_tys cI cT) gk_vd ad gk_NF gk_NM (gk_pc cI cT ad u))) (va_Qi (fun r u2 => r = z.1 ∧ u2 = z.2) (fun u2 t => gq_B D gc_cl (gk_tys cI cT) gk_vd ad (gk_pc cI cT ad u2) t) (gq_A gk_vd ad)) 0 0 (gq_A gk_vd ad) := by
  refine Met.ofW (cc := gb_Tx_compareWith) (maxL := 2) (ret := (some .int)) (by decide) rfl ?_
  intro p e s m args below meth c s₁ B hml hv
  obtain ⟨rfl, hH, hK, hN⟩ := hv
  have hx := B.exec
  have hb := B.bytes
  have hr := B.returns
  have hts := atoms_spec (ws := gws_Tx_compareWith) B.pre
  have ht := fun (w : Cond) (h : w ∈ gt_T) => hts w (List.mem_cons_of_mem _ h)
  have hown : s.vm.findClass gR_Tx = some m.cls := findClass_of_methodNamed B.named
  have hlocks := B.notSynchronized
  have hA : ∀ q, (gq_A gk_vd ad) q → (gq_A gk_vd ad) q := fun _ h => h
  have hS : va_S (gq_A gk_vd ad) s.heap s.heap [] := va_S.rf
  have hl := lv_entry ([.ref (ad 6 k), .ref (ad 6 q1)]) (n := 2) (Nat.le_of_ble_eq_true rfl)
  rw [lg_entry_eq]
  generalize (lg_sl ([.ref (ad 6 k), .ref (ad 6 q1)]) ++ List.replicate (2 - (lg_sl ([.ref (ad 6 k), .ref (ad 6 q1)])).length) Slot.unset).toArray = ls at hl ⊢
  have hl : lv_has ls 2 [(0, .ref (ad 6 k)), (1, .ref (ad 6 q1))] := hl
  unfold fn_Tx_compareWith at hf
  refine lv_aload_n hx hb gd_Tx_compareWith_0 rfl (lv_at hl 0 rfl) ?_
  refine va_get (D := D) (ci := 2) (C := gR_Tx) (T := gT_Tx) (N := 3) hx hb hts (fun w h => List.mem_cons_of_mem _ (gl_Tx w h)) hown hK (gq_one (c := 6) (k := k) hH hk (gk_c6 cI cT ad u k)) 0 rfl rfl 0 (by decide) (ht _ gt_23) (fun _ h9 => h9) rfl gd_Tx_compareWith_1 ?_
  refine lv_aload_n hx hb gd_Tx_compareWith_4 rfl (lv_at hl 1 rfl) ?_
  refine va_get (D := D) (ci := 2) (C := gR_Tx) (T := gT_Tx) (N := 3) hx hb hts (fun w h => List.mem_cons_of_mem _ (gl_Tx w h)) hown hK (gq_one (c := 6) (k := q1) hH hq1 (gk_c6 cI cT ad u q1)) 0 rfl rfl 0 (by decide) (ht _ gt_23) (fun _ h9 => h9) rfl gd_Tx_compareWith_5 ?_
  refine W.lcmp hx hb gd_Tx_compareWith_8 ?_
  refine lv_if_eq (tgt := 26) hx hb gd_Tx_compareWith_9 (by decide) (fun c1 => ?_) (fun c1 => ?_)
  · replace hf := gj_t c1 hf
    refine lv_aload_n hx hb gd_Tx_compareWith_26 rfl (lv_at hl 0 rfl) ?_
    refine va_get (D := D) (ci := 2) (C := gR_Tx) (T := gT_Tx) (N := 3) hx hb hts (fun w h => List.mem_cons_of_mem _ (gl_Tx w h)) hown hK (gq_one (c := 6) (k := k) hH hk (gk_c6 cI cT ad u k)) 0 rfl rfl 1 (by decide) (ht _ gt_24) (fun _ h9 => h9) rfl gd_Tx_compareWith_27 ?_
    refine lv_aload_n hx hb gd_Tx_compareWith_30 rfl (lv_at hl 1 rfl) ?_
    refine va_get (D := D) (ci := 2) (C := gR_Tx) (T := gT_Tx) (N := 3) hx hb hts (fun w h => List.mem_cons_of_mem _ (gl_Tx w h)) hown hK (gq_one (c := 6) (k := q1) hH hq1 (gk_c6 cI cT ad u q1)) 0 rfl rfl 1 (by decide) (ht _ gt_24) (fun _ h9 => h9) rfl gd_Tx_compareWith_31 ?_
    refine W.callR (W.runS (As := [.long (u.2 1 k), .long (u.2 1 q1)]) (rest := []) ⟨hx, hb, hml, hown, hts⟩ (ct_Lo_compare l (u.2 1 k) (u.2 1 q1) _ rfl) (va_cwS 2 hts (gt_S gt_162 gt_163 gt_7 gt_164) rfl rfl rfl (by decide +kernel) ⟨Nat.le_of_ble_eq_true rfl, Nat.le_of_ble_eq_true rfl⟩) preEq rfl rfl hl.1 rfl (lv_room (Nat.le_of_ble_eq_true rfl)) gd_Tx_compareWith_34 ⟨Nat.zero_le _, Nat.zero_le _⟩) ?_
    refine W.eq (g2 := F0 m 37 ls (.int (fn_Lo_compare (u.2 1 k) (u.2 1 q1)) :: [])) rfl ?_
    cases hf
    exact W.iret hx hb hr (fun t ht hW => ⟨⟨_, _, rfl, ⟨rfl, rfl⟩, ⟨by rw [ht]; exact hH, va_K.moved hW.alike hK⟩⟩, hS.F ht⟩) hS.2.2 gd_Tx_compareWith_37
  · replace hf := gj_e c1 hf
    refine lv_aload_n hx hb gd_Tx_compareWith_12 rfl (lv_at hl 0 rfl) ?_
    refine va_get (D := D) (ci := 2) (C := gR_Tx) (T := gT_Tx) (N := 3) hx hb hts (fun w h => List.mem_cons_of_mem _ (gl_Tx w h)) hown hK (gq_one (c := 6) (k := k) hH hk (gk_c6 cI cT ad u k)) 0 rfl rfl 0 (by decide) (ht _ gt_23) (fun _ h9 => h9) rfl gd_Tx_compareWith_13 ?_
    refine lv_aload_n hx hb gd_Tx_compareWith_16 rfl (lv_at hl 1 rfl) ?_
    refine va_get (D := D) (ci := 2) (C := gR_Tx) (T := gT_Tx) (N := 3) hx hb hts (fun w h => List.mem_cons_of_mem _ (gl_Tx w h)) hown hK (gq_one (c := 6) (k := q1) hH hq1 (gk_c6 cI cT ad u q1)) 0 rfl rfl 0 (by decide) (ht _ gt_23) (fun _ h9 => h9) rfl gd_Tx_compareWith_17 ?_
    refine W.callR (W.runS (As := [.long (u.2 0 k), .long (u.2 0 q1)]) (rest := []) ⟨hx, hb, hml, hown, hts⟩ (ct_Lo_compare l (u.2 0 k) (u.2 0 q1) _ rfl) (va_cwS 2 hts (gt_S gt_162 gt_163 gt_7 gt_164) rfl rfl rfl (by decide +kernel) ⟨Nat.le_of_ble_eq_true rfl, Nat.le_of_ble_eq_true rfl⟩) preEq rfl rfl hl.1 rfl (lv_room (Nat.le_of_ble_eq_true rfl)) gd_Tx_compareWith_20 ⟨Nat.zero_le _, Nat.zero_le _⟩) ?_
    refine W.eq (g2 := F0 m 23 ls (.int (fn_Lo_compare (u.2 0 k) (u.2 0 q1)) :: [])) rfl ?_
    refine lv_goto (tgt := 37) hx hb gd_Tx_compareWith_23 (by decide) ?_
    cases hf
    exact W.iret hx hb hr (fun t ht hW => ⟨⟨_, _, rfl, ⟨rfl, rfl⟩, ⟨by rw [ht]; exact hH, va_K.moved hW.alike hK⟩⟩, hS.F ht⟩) hS.2.2 gd_Tx_compareWith_37
