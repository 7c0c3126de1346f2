set_option maxHeartbeats 4000000 in
set_option maxRecDepth 100000 in
theorem ct_Bk_begins (l : Launch) (D : va_G) (cI cT : ClassId) (ad : Nat → Nat → Nat) (hI : gq_I gk_vd ad) (u : gk_St) (p1 : Int32) (z : Int32 × gk_St) (hf : fn_Bk_begins p1 u = some z) : Met l gy_Bk_begins gws_Bk_begins ({ frames := 4, cells := 0, slots := 0, locals := 86 }) (va_Pc [.ref (ad 0 0), .int p1] (gq_pre D gc_cl (gk_tys cI cT) gk_vd ad gk_NF gk_NM (gk_pc cI cT ad u))) (va_Qi (fun r u2 => r = z.1 ∧ u2 = z.2) (fun u2 t => gq_B D gc_cl (gk_tys cI cT) gk_vd ad (gk_pc cI cT ad u2) t) (gq_A gk_vd ad)) 0 0 (gq_A gk_vd ad) := by
  refine Met.ofW (cc := gb_Bk_begins) (maxL := 5) (ret := (some .int)) (by decide) rfl ?_
  intro p e s m args below meth c s₁ B hml hv
  obtain ⟨rfl, hH, hK, hN⟩ := hv
  have hx := B.exec
  have hb := B.bytes
  have hr := B.returns
  have hts := atoms_spec (ws := gws_Bk_begins) B.pre
  have ht := fun (w : Cond) (h : w ∈ gt_T) => hts w (List.mem_cons_of_mem _ h)
  have hown : s.vm.findClass gR_Bk = some m.cls := findClass_of_methodNamed B.named
  have hlocks := B.notSynchronized
  have hA : ∀ q, (gq_A gk_vd ad) q → (gq_A gk_vd ad) q := fun _ h => h
  have hS : va_S (gq_A gk_vd ad) s.heap s.heap [] := va_S.rf
  have hl := lv_entry ([.ref (ad 0 0), .int p1]) (n := 5) (Nat.le_of_ble_eq_true rfl)
  rw [lg_entry_eq]
  generalize (lg_sl ([.ref (ad 0 0), .int p1]) ++ List.replicate (5 - (lg_sl ([.ref (ad 0 0), .int p1])).length) Slot.unset).toArray = ls at hl ⊢
  have hl : lv_has ls 5 [(0, .ref (ad 0 0)), (1, .int p1)] := hl
  have L13 : ∀ (n : Nat) (x1 : Int32) (x2 : Int32) (x3 : Int32) (u : gk_St) (H : Heap) (locs : List Loc) (ls : Array Slot), fn_Bk_begins_13 n x1 x2 x3 u = some z → gq_H D gc_cl gk_vd ad (gk_pc cI cT ad u) H → va_S (gq_A gk_vd ad) s.heap H locs → lv_has ls 5 [(0, .ref (ad 0 0)), (1, .int x1), (2, .int x2), (3, .int x3)] → W p l e (headSpec gws_Bk_begins ({ frames := 4, cells := 0, slots := 0, locals := 86 })).room s m ([.ref (ad 0 0), .int p1] : List Value).toArray below meth c H locs 0 0 (MQ below (va_Qi (fun r u2 => r = z.1 ∧ u2 = z.2) (fun u2 t => gq_B D gc_cl (gk_tys cI cT) gk_vd ad (gk_pc cI cT ad u2) t) (gq_A gk_vd ad)) ([.ref (ad 0 0), .int p1] : List Value).toArray s 0 0 (gq_A gk_vd ad)) (F0 m 13 ls []) := by
    intro n
    induction n with
    | zero =>
      intro x1 x2 x3 u H locs ls hf
      have h0 : none = some z := hf
      cases h0
    | succ n ih =>
      intro x1 x2 x3 u H locs ls hf hH hS hl
      rw [fn_Bk_begins_13] at hf
      refine lv_iload_n hx hb gd_Bk_begins_13 rfl (lv_at hl 3 rfl) ?_
      refine lv_bipush (v := 100) hx hb gd_Bk_begins_14 (by decide) ?_
      refine lv_icmp_ge (tgt := 64) hx hb gd_Bk_begins_16 (by decide) (fun c12 => ?_) (fun c12 => ?_)
      · replace hf := gj_t c12 hf
        refine lv_iload_n hx hb gd_Bk_begins_64 rfl (lv_at hl 2 rfl) ?_
        cases hf
        exact W.iret hx hb hr (fun t ht hW => ⟨⟨_, _, rfl, ⟨rfl, rfl⟩, ⟨by rw [ht]; exact hH, va_K.moved hW.alike hK⟩⟩, hS.F ht⟩) hS.2.2 gd_Bk_begins_65
      · replace hf := gj_e c12 hf
        refine lv_aload_n hx hb gd_Bk_begins_19 rfl (lv_at hl 0 rfl) ?_
        refine lv_iload_n hx hb gd_Bk_begins_20 rfl (lv_at hl 3 rfl) ?_
        obtain ⟨⟨o5, u6⟩, hc4, hf⟩ := Option.bind_eq_some_iff.mp hf
        refine gq_calle (va_runV (As := [.int x3]) (rest := []) ⟨hx, hb, hml, hown, hts⟩ (ct_Bk_inBook l D cI cT ad hI u x3 (o5, u6) hc4) (cwV 1 hts (gt_V gt_147 gt_149 (gt_sel (List.mem_of_getElem? (i := 3) rfl)) gt_1 gt_150) rfl rfl rfl (by decide +kernel) ⟨Nat.le_of_ble_eq_true rfl, Nat.le_of_ble_eq_true rfl⟩) (gq_preV hH hK hN (va_recv hK (gq_one (c := 0) (k := 0) hH rfl (gk_c0 cI cT ad u)) (ci := 0) (q0 := 0) rfl rfl)) rfl rfl hl.1 rfl (lv_room (Nat.le_of_ble_eq_true rfl)) gd_Bk_begins_21 ⟨Nat.zero_le _, Nat.zero_le _⟩) hA hS (fun H locs hH hS => ?_)
        cases o5 with
        | none =>
          have hH : gq_H D gc_cl gk_vd ad (gk_pc cI cT ad u6) H := hH
          refine W.eq (g2 := F0 m 24 ls [.null]) rfl ?_
          dsimp only at hf
          refine lv_astoreN (lv' := [(4, .null), (0, .ref (ad 0 0)), (1, .int x1), (2, .int x2), (3, .int x3)]) hx hb gd_Bk_begins_24 hl (by decide) rfl (fun ls hl => ?_)
          refine lv_aloadN hx hb gd_Bk_begins_26 (lv_at hl 0 rfl) ?_
          refine lv_ifnullN (tgt := 58) hx hb gd_Bk_begins_28 (by decide) ?_
          refine lv_iinc (v := x3 + 1) (lv' := [(3, .int (x3 + 1)), (4, .null), (0, .ref (ad 0 0)), (1, .int x1), (2, .int x2)]) hx hb gd_Bk_begins_58 hl (k := 4) rfl rfl (by decide) rfl (fun ls hl => ?_)
          refine lv_goto (tgt := 13) hx hb gd_Bk_begins_61 (by decide) ?_
          exact ih x1 x2 (x3 + 1) u6 _ _ _ hf hH hS (lv_sub hl [2, 3, 4, 0] rfl)
        | some k7 =>
          have hH : gq_H D gc_cl gk_vd ad (gk_pc cI cT ad u6) H := hH
          refine W.eq (g2 := F0 m 24 ls [.ref (ad 7 k7)]) rfl ?_
          dsimp only at hf
          refine lv_astore (lv' := [(4, .ref (ad 7 k7)), (0, .ref (ad 0 0)), (1, .int x1), (2, .int x2), (3, .int x3)]) hx hb gd_Bk_begins_24 hl (by decide) rfl (fun ls hl => ?_)
          refine lv_aload hx hb gd_Bk_begins_26 (lv_at hl 0 rfl) ?_
          refine lv_ifnull hx hb gd_Bk_begins_28 ?_
          refine lv_aload hx hb gd_Bk_begins_31 (lv_at hl 0 rfl) ?_
          refine va_getN (D := D) (ci := 3) (C := gR_Tm) (T := gT_Tm) (N := 5) hx hb hts (fun w h => List.mem_cons_of_mem _ (gl_Tm w h)) hown hK (gq_one (c := 7) (k := k7) hH (ok_Bk_inBook hc4) (gk_c7 cI cT ad u6 k7)) 0 rfl rfl 2 (by decide) (va_Nw.use rfl (hN.1 _ (List.mem_of_getElem? (i := 3) rfl))) (fun _ h9 => h9) rfl gd_Bk_begins_33 ?_
          refine lv_iload_n hx hb gd_Bk_begins_36 rfl (lv_at hl 2 rfl) ?_
          refine lv_icmp_ne (tgt := 58) hx hb gd_Bk_begins_37 (by decide) (fun c11 => ?_) (fun c11 => ?_)
          · replace hf := gj_e c11 hf
            refine lv_iinc (v := x3 + 1) (lv' := [(3, .int (x3 + 1)), (4, .ref (ad 7 k7)), (0, .ref (ad 0 0)), (1, .int x1), (2, .int x2)]) hx hb gd_Bk_begins_58 hl (k := 4) rfl rfl (by decide) rfl (fun ls hl => ?_)
            refine lv_goto (tgt := 13) hx hb gd_Bk_begins_61 (by decide) ?_
            exact ih x1 x2 (x3 + 1) u6 _ _ _ hf hH hS (lv_sub hl [2, 3, 4, 0] rfl)
          · replace hf := gj_t c11 hf
            refine lv_aload hx hb gd_Bk_begins_40 (lv_at hl 0 rfl) ?_
            refine va_getN (D := D) (ci := 3) (C := gR_Tm) (T := gT_Tm) (N := 5) hx hb hts (fun w h => List.mem_cons_of_mem _ (gl_Tm w h)) hown hK (gq_one (c := 7) (k := k7) hH (ok_Bk_inBook hc4) (gk_c7 cI cT ad u6 k7)) 0 rfl rfl 0 (by decide) (va_Nw.use rfl (hN.1 _ (List.mem_of_getElem? (i := 1) rfl))) (fun _ h9 => h9) rfl gd_Bk_begins_42 ?_
            refine lv_aload_n hx hb gd_Bk_begins_45 rfl (lv_at hl 1 rfl) ?_
            refine va_get (D := D) (ci := 0) (C := gR_Bk) (T := gT_Bk) (N := 5) hx hb hts (fun w h => List.mem_cons_of_mem _ (gl_Bk w h)) hown hK (gq_one (c := 0) (k := 0) hH rfl (gk_c0 cI cT ad u6)) 0 rfl rfl 0 (by decide) (ht _ gt_85) (fun _ h9 => h9) rfl gd_Bk_begins_46 ?_
            obtain ⟨z8, hc9, hf⟩ := Option.bind_eq_some_iff.mp hf
            refine gq_calli (va_runV (As := [.ref (ad 6 100)]) (rest := []) ⟨hx, hb, hml, hown, hts⟩ (ct_Tx_startsWith l D cI cT ad hI u6 k7 (Nat.le_of_lt (ok_Bk_inBook hc4)) 100 (Nat.le_refl 100) z8 hc9) (cwV 1 hts (gt_V gt_269 gt_270 gt_271 gt_2 gt_272) rfl rfl rfl (by decide +kernel) ⟨Nat.le_of_ble_eq_true rfl, Nat.le_of_ble_eq_true rfl⟩) (gq_preV hH hK hN (va_recv hK (gq_one (c := 6) (k := k7) hH (Nat.le_of_lt (ok_Bk_inBook hc4)) (gk_c6 cI cT ad u6 k7)) (ci := 2) (q0 := 0) rfl rfl)) rfl rfl hl.1 rfl (lv_room (Nat.le_of_ble_eq_true rfl)) gd_Bk_begins_49 ⟨Nat.zero_le _, Nat.zero_le _⟩) hA hS (fun H locs hH hS => ?_)
            refine lv_if_eq (tgt := 58) hx hb gd_Bk_begins_52 (by decide) (fun c10 => ?_) (fun c10 => ?_)
            · replace hf := gj_t c10 hf
              refine lv_iinc (v := x3 + 1) (lv' := [(3, .int (x3 + 1)), (4, .ref (ad 7 k7)), (0, .ref (ad 0 0)), (1, .int x1), (2, .int x2)]) hx hb gd_Bk_begins_58 hl (k := 4) rfl rfl (by decide) rfl (fun ls hl => ?_)
              refine lv_goto (tgt := 13) hx hb gd_Bk_begins_61 (by decide) ?_
              exact ih x1 x2 (x3 + 1) z8.2 _ _ _ hf hH hS (lv_sub hl [2, 3, 4, 0] rfl)
            · replace hf := gj_e c10 hf
              refine lv_iinc (v := x2 + 1) (lv' := [(2, .int (x2 + 1)), (4, .ref (ad 7 k7)), (0, .ref (ad 0 0)), (1, .int x1), (3, .int x3)]) hx hb gd_Bk_begins_55 hl (k := 3) rfl rfl (by decide) rfl (fun ls hl => ?_)
              refine lv_iinc (v := x3 + 1) (lv' := [(3, .int (x3 + 1)), (2, .int (x2 + 1)), (4, .ref (ad 7 k7)), (0, .ref (ad 0 0)), (1, .int x1)]) hx hb gd_Bk_begins_58 hl (k := 4) rfl rfl (by decide) rfl (fun ls hl => ?_)
              refine lv_goto (tgt := 13) hx hb gd_Bk_begins_61 (by decide) ?_
              exact ih x1 (x2 + 1) (x3 + 1) z8.2 _ _ _ hf hH hS (lv_sub hl [3, 4, 1, 0] rfl)
  unfold fn_Bk_begins at hf
  refine lv_iload_n hx hb gd_Bk_begins_0 rfl (lv_at hl 1 rfl) ?_
  obtain ⟨z1, hc2, hf⟩ := Option.bind_eq_some_iff.mp hf
  refine gq_calli (va_runS (As := [.int p1]) (rest := []) ⟨hx, hb, hml, hown, hts⟩ (ct_Bk_isKind l D cI cT ad hI u p1 z1 hc2) (va_cwS 1 hts (gt_S gt_128 gt_129 gt_1 gt_130) rfl rfl rfl (by decide +kernel) ⟨Nat.le_of_ble_eq_true rfl, Nat.le_of_ble_eq_true rfl⟩) (gq_preS hH hK hN) rfl rfl hl.1 rfl (lv_room (Nat.le_of_ble_eq_true rfl)) gd_Bk_begins_1 ⟨Nat.zero_le _, Nat.zero_le _⟩) hA hS (fun H locs hH hS => ?_)
  refine lv_if_ne (tgt := 9) hx hb gd_Bk_begins_4 (by decide) (fun c13 => ?_) (fun c13 => ?_)
  · replace hf := gj_e c13 hf
    refine lv_iconst (v := 0) hx hb gd_Bk_begins_9 (by decide) ?_
    refine lv_istore_n (lv' := [(2, .int 0), (0, .ref (ad 0 0)), (1, .int p1)]) hx hb gd_Bk_begins_10 rfl hl (by decide) rfl (fun ls hl => ?_)
    refine lv_iconst (v := 0) hx hb gd_Bk_begins_11 (by decide) ?_
    refine lv_istore_n (lv' := [(3, .int 0), (2, .int 0), (0, .ref (ad 0 0)), (1, .int p1)]) hx hb gd_Bk_begins_12 rfl hl (by decide) rfl (fun ls hl => ?_)
    exact L13 gk_fu p1 0 0 z1.2 _ _ _ hf hH hS (lv_sub hl [2, 3, 1, 0] rfl)
  · replace hf := gj_t c13 hf
    refine lv_iconst (v := (-1)) hx hb gd_Bk_begins_7 (by decide) ?_
    cases hf
    exact W.iret hx hb hr (fun t ht hW => ⟨⟨_, _, rfl, ⟨rfl, rfl⟩, ⟨by rw [ht]; exact hH, va_K.moved hW.alike hK⟩⟩, hS.F ht⟩) hS.2.2 gd_Bk_begins_8
set_option maxHeartbeats 4000000 in
set_option maxRecDepth 100000 in
theorem ct_Bk_from (l : Launch) (D : va_G) (cI cT : ClassId) (ad : Nat → Nat → Nat) (hI : gq_I gk_vd ad) (u : gk_St) (p1 : Int32) (z : Int32 × gk_St) (hf : fn_Bk_from p1 u = some z) : Met l gy_Bk_from gws_Bk_from ({ frames := 5, cells := 0, slots := 0, locals := 111 }) (va_Pc [.ref (ad 0 0), .int p1] (gq_pre D gc_cl (gk_tys cI cT) gk_vd ad gk_NF gk_NM (gk_pc cI cT ad u))) (va_Qi (fun r u2 => r = z.1 ∧ u2 = z.2) (fun u2 t => gq_B D gc_cl (gk_tys cI cT) gk_vd ad (gk_pc cI cT ad u2) t) (gq_A gk_vd ad)) 0 0 (gq_A gk_vd ad) := by
  refine Met.ofW (cc := gb_Bk_from) (maxL := 2) (ret := (some .int)) (by decide) rfl ?_
  intro p e s m args below meth c s₁ B hml hv
  obtain ⟨rfl, hH, hK, hN⟩ := hv
  have hx := B.exec
  have hb := B.bytes
  have hr := B.returns
  have hts := atoms_spec (ws := gws_Bk_from) B.pre
  have ht := fun (w : Cond) (h : w ∈ gt_T) => hts w (List.mem_cons_of_mem _ h)
  have hown : s.vm.findClass gR_Bk = some m.cls := findClass_of_methodNamed B.named
  have hlocks := B.notSynchronized
  have hA : ∀ q, (gq_A gk_vd ad) q → (gq_A gk_vd ad) q := fun _ h => h
  have hS : va_S (gq_A gk_vd ad) s.heap s.heap [] := va_S.rf
  have hl := lv_entry ([.ref (ad 0 0), .int p1]) (n := 2) (Nat.le_of_ble_eq_true rfl)
  rw [lg_entry_eq]
  generalize (lg_sl ([.ref (ad 0 0), .int p1]) ++ List.replicate (2 - (lg_sl ([.ref (ad 0 0), .int p1])).length) Slot.unset).toArray = ls at hl ⊢
  have hl : lv_has ls 2 [(0, .ref (ad 0 0)), (1, .int p1)] := hl
  unfold fn_Bk_from at hf
  refine lv_iload_n hx hb gd_Bk_from_0 rfl (lv_at hl 1 rfl) ?_
  obtain ⟨z1, hc2, hf⟩ := Option.bind_eq_some_iff.mp hf
  refine gq_calli (va_runS (As := [.int p1]) (rest := []) ⟨hx, hb, hml, hown, hts⟩ (ct_Bk_isKind l D cI cT ad hI u p1 z1 hc2) (va_cwS 1 hts (gt_S gt_128 gt_129 gt_1 gt_130) rfl rfl rfl (by decide +kernel) ⟨Nat.le_of_ble_eq_true rfl, Nat.le_of_ble_eq_true rfl⟩) (gq_preS hH hK hN) rfl rfl hl.1 rfl (lv_room (Nat.le_of_ble_eq_true rfl)) gd_Bk_from_1 ⟨Nat.zero_le _, Nat.zero_le _⟩) hA hS (fun H locs hH hS => ?_)
  refine lv_if_eq (tgt := 15) hx hb gd_Bk_from_4 (by decide) (fun c5 => ?_) (fun c5 => ?_)
  · replace hf := gj_t c5 hf
    refine lv_iconst (v := (-1)) hx hb gd_Bk_from_15 (by decide) ?_
    cases hf
    exact W.iret hx hb hr (fun t ht hW => ⟨⟨_, _, rfl, ⟨rfl, rfl⟩, ⟨by rw [ht]; exact hH, va_K.moved hW.alike hK⟩⟩, hS.F ht⟩) hS.2.2 gd_Bk_from_16
  · replace hf := gj_e c5 hf
    refine lv_aload_n hx hb gd_Bk_from_7 rfl (lv_at hl 0 rfl) ?_
    refine lv_iload_n hx hb gd_Bk_from_8 rfl (lv_at hl 1 rfl) ?_
    obtain ⟨z3, hc4, hf⟩ := Option.bind_eq_some_iff.mp hf
    refine gq_calli (va_runV (As := [.int p1]) (rest := []) ⟨hx, hb, hml, hown, hts⟩ (ct_Bk_placeOfTape l D cI cT ad hI z1.2 p1 z3 hc4) (cwV 1 hts (gt_V gt_135 gt_137 (gt_sel (List.mem_of_getElem? (i := 1) rfl)) gt_1 gt_138) rfl rfl rfl (by decide +kernel) ⟨Nat.le_of_ble_eq_true rfl, Nat.le_of_ble_eq_true rfl⟩) (gq_preV hH hK hN (va_recv hK (gq_one (c := 0) (k := 0) hH rfl (gk_c0 cI cT ad z1.2)) (ci := 0) (q0 := 0) rfl rfl)) rfl rfl hl.1 rfl (lv_room (Nat.le_of_ble_eq_true rfl)) gd_Bk_from_9 ⟨Nat.zero_le _, Nat.zero_le _⟩) hA hS (fun H locs hH hS => ?_)
    refine lv_goto (tgt := 16) hx hb gd_Bk_from_12 (by decide) ?_
    cases hf
    exact W.iret hx hb hr (fun t ht hW => ⟨⟨_, _, rfl, ⟨rfl, rfl⟩, ⟨by rw [ht]; exact hH, va_K.moved hW.alike hK⟩⟩, hS.F ht⟩) hS.2.2 gd_Bk_from_16
set_option maxHeartbeats 4000000 in
set_option maxRecDepth 100000 in
theorem ct_Bk_slotOf (l : Launch) (D : va_G) (cI cT : ClassId) (ad : Nat → Nat → Nat) (hI : gq_I gk_vd ad) (u : gk_St) (p1 : Int32) (z : Int32 × gk_St) (hf : fn_Bk_slotOf p1 u = some z) : Met l gy_Bk_slotOf gws_Bk_slotOf ({ frames := 0, cells := 0, slots := 0, locals := 0 }) (va_Pc [.ref (ad 0 0), .int p1] (gq_pre D gc_cl (gk_tys cI cT) gk_vd ad gk_NF gk_NM (gk_pc cI cT ad u))) (va_Qi (fun r u2 => r = z.1 ∧ u2 = z.2) (fun u2 t => gq_B D gc_cl (gk_tys cI cT) gk_vd ad (gk_pc cI cT ad u2) t) (gq_A gk_vd ad)) 0 0 (gq_A gk_vd ad) := by
  refine Met.ofW (cc := gb_Bk_slotOf) (maxL := 3) (ret := (some .int)) (by decide) rfl ?_
  intro p e s m args below meth c s₁ B hml hv
  obtain ⟨rfl, hH, hK, hN⟩ := hv
  have hx := B.exec
  have hb := B.bytes
  have hr := B.returns
  have hts := atoms_spec (ws := gws_Bk_slotOf) B.pre
  have ht := fun (w : Cond) (h : w ∈ gt_T) => hts w (List.mem_cons_of_mem _ h)
  have hown : s.vm.findClass gR_Bk = some m.cls := findClass_of_methodNamed B.named
  have hlocks := B.notSynchronized
  have hA : ∀ q, (gq_A gk_vd ad) q → (gq_A gk_vd ad) q := fun _ h => h
  have hS : va_S (gq_A gk_vd ad) s.heap s.heap [] := va_S.rf
  have hl := lv_entry ([.ref (ad 0 0), .int p1]) (n := 3) (Nat.le_of_ble_eq_true rfl)
  rw [lg_entry_eq]
  generalize (lg_sl ([.ref (ad 0 0), .int p1]) ++ List.replicate (3 - (lg_sl ([.ref (ad 0 0), .int p1])).length) Slot.unset).toArray = ls at hl ⊢
  have hl : lv_has ls 3 [(0, .ref (ad 0 0)), (1, .int p1)] := hl
  have L2 : ∀ (n : Nat) (x1 : Int32) (x2 : Int32) (u : gk_St) (H : Heap) (locs : List Loc) (ls : Array Slot), fn_Bk_slotOf_2 n x1 x2 u = some z → gq_H D gc_cl gk_vd ad (gk_pc cI cT ad u) H → va_S (gq_A gk_vd ad) s.heap H locs → lv_has ls 3 [(0, .ref (ad 0 0)), (1, .int x1), (2, .int x2)] → W p l e (headSpec gws_Bk_slotOf ({ frames := 0, cells := 0, slots := 0, locals := 0 })).room s m ([.ref (ad 0 0), .int p1] : List Value).toArray below meth c H locs 0 0 (MQ below (va_Qi (fun r u2 => r = z.1 ∧ u2 = z.2) (fun u2 t => gq_B D gc_cl (gk_tys cI cT) gk_vd ad (gk_pc cI cT ad u2) t) (gq_A gk_vd ad)) ([.ref (ad 0 0), .int p1] : List Value).toArray s 0 0 (gq_A gk_vd ad)) (F0 m 2 ls []) := by
    intro n
    induction n with
    | zero =>
      intro x1 x2 u H locs ls hf
      have h0 : none = some z := hf
      cases h0
    | succ n ih =>
      intro x1 x2 u H locs ls hf hH hS hl
      rw [fn_Bk_slotOf_2] at hf
      refine lv_iload_n hx hb gd_Bk_slotOf_2 rfl (lv_at hl 2 rfl) ?_
      refine lv_aload_n hx hb gd_Bk_slotOf_3 rfl (lv_at hl 0 rfl) ?_
      refine va_get (D := D) (ci := 0) (C := gR_Bk) (T := gT_Bk) (N := 5) hx hb hts (fun w h => List.mem_cons_of_mem _ (gl_Bk w h)) hown hK (gq_one (c := 0) (k := 0) hH rfl (gk_c0 cI cT ad u)) 0 rfl rfl 3 (by decide) (ht _ gt_88) (fun _ h9 => h9) rfl gd_Bk_slotOf_4 ?_
      refine va_alen (D := D) (v := 6) hx hb hK (gq_one (c := 5) (k := 0) hH rfl (gk_c5 cI cT ad u)) 0 0 rfl rfl rfl gd_Bk_slotOf_7 ?_
      refine lv_icmp_ge (tgt := 29) hx hb gd_Bk_slotOf_8 (by decide) (fun c3 => ?_) (fun c3 => ?_)
      · replace hf := gj_t c3 hf
        refine lv_iconst (v := (-1)) hx hb gd_Bk_slotOf_29 (by decide) ?_
        cases hf
        exact W.iret hx hb hr (fun t ht hW => ⟨⟨_, _, rfl, ⟨rfl, rfl⟩, ⟨by rw [ht]; exact hH, va_K.moved hW.alike hK⟩⟩, hS.F ht⟩) hS.2.2 gd_Bk_slotOf_30
      · replace hf := gj_e c3 hf
        refine lv_aload_n hx hb gd_Bk_slotOf_11 rfl (lv_at hl 0 rfl) ?_
        refine va_get (D := D) (ci := 0) (C := gR_Bk) (T := gT_Bk) (N := 5) hx hb hts (fun w h => List.mem_cons_of_mem _ (gl_Bk w h)) hown hK (gq_one (c := 0) (k := 0) hH rfl (gk_c0 cI cT ad u)) 0 rfl rfl 3 (by decide) (ht _ gt_88) (fun _ h9 => h9) rfl gd_Bk_slotOf_12 ?_
        refine lv_iload_n hx hb gd_Bk_slotOf_15 rfl (lv_at hl 2 rfl) ?_
        obtain ⟨hg1, hf⟩ := gj_g hf
        refine va_iald (D := D) hx hb hK (gq_one (c := 5) (k := 0) hH rfl (gk_c5 cI cT ad u)) 0 0 rfl rfl hg1 gd_Bk_slotOf_16 ?_
        refine lv_iload_n hx hb gd_Bk_slotOf_17 rfl (lv_at hl 1 rfl) ?_
        refine lv_icmp_ne (tgt := 23) hx hb gd_Bk_slotOf_18 (by decide) (fun c2 => ?_) (fun c2 => ?_)
        · replace hf := gj_e c2 hf
          refine lv_iinc (v := x2 + 1) (lv' := [(2, .int (x2 + 1)), (0, .ref (ad 0 0)), (1, .int x1)]) hx hb gd_Bk_slotOf_23 hl (k := 2) rfl rfl (by decide) rfl (fun ls hl => ?_)
          refine lv_goto (tgt := 2) hx hb gd_Bk_slotOf_26 (by decide) ?_
          exact ih x1 (x2 + 1) u _ _ _ hf hH hS (lv_sub hl [1, 2, 0] rfl)
        · replace hf := gj_t c2 hf
          refine lv_iload_n hx hb gd_Bk_slotOf_21 rfl (lv_at hl 2 rfl) ?_
          cases hf
          exact W.iret hx hb hr (fun t ht hW => ⟨⟨_, _, rfl, ⟨rfl, rfl⟩, ⟨by rw [ht]; exact hH, va_K.moved hW.alike hK⟩⟩, hS.F ht⟩) hS.2.2 gd_Bk_slotOf_22
  unfold fn_Bk_slotOf at hf
  refine lv_iconst (v := 0) hx hb gd_Bk_slotOf_0 (by decide) ?_
  refine lv_istore_n (lv' := [(2, .int 0), (0, .ref (ad 0 0)), (1, .int p1)]) hx hb gd_Bk_slotOf_1 rfl hl (by decide) rfl (fun ls hl => ?_)
  exact L2 gk_fu p1 0 u _ _ _ hf hH hS (lv_sub hl [1, 2, 0] rfl)
set_option maxHeartbeats 4000000 in
set_option maxRecDepth 100000 in
theorem ct_Tm_keepFor (l : Launch) (D : va_G) (cI cT : ClassId) (ad : Nat → Nat → Nat) (hI : gq_I gk_vd ad) (u : gk_St) (k : Nat) (hk : k < 100) (p1 : Int32) (z : gk_St) (hf : fn_Tm_keepFor k p1 u = some z) : Met l gy_Tm_keepFor gws_Tm_keepFor ({ frames := 0, cells := 0, slots := 0, locals := 0 }) (va_Pc [.ref (ad 7 k), .int p1] (gq_pre D gc_cl (gk_tys cI cT) gk_vd ad gk_NF gk_NM (gk_pc cI cT ad u))) (va_Qv (fun u2 => u2 = z) (fun u2 t => gq_B D gc_cl (gk_tys cI cT) gk_vd ad (gk_pc cI cT ad u2) t) (gq_A gk_vd ad)) 0 0 (gq_A gk_vd ad) := by
  refine Met.ofW (cc := gb_Tm_keepFor) (maxL := 2) (ret := none) (by decide) rfl ?_
  intro p e s m args below meth c s₁ B hml hv
  obtain ⟨rfl, hH, hK, hN⟩ := hv
  have hx := B.exec
  have hb := B.bytes
  have hr := B.returns
  have hts := atoms_spec (ws := gws_Tm_keepFor) B.pre
  have ht := fun (w : Cond) (h : w ∈ gt_T) => hts w (List.mem_cons_of_mem _ h)
  have hown : s.vm.findClass gR_Tm = some m.cls := findClass_of_methodNamed B.named
  have hlocks := B.notSynchronized
  have hA : ∀ q, (gq_A gk_vd ad) q → (gq_A gk_vd ad) q := fun _ h => h
  have hS : va_S (gq_A gk_vd ad) s.heap s.heap [] := va_S.rf
  have hl := lv_entry ([.ref (ad 7 k), .int p1]) (n := 2) (Nat.le_of_ble_eq_true rfl)
  rw [lg_entry_eq]
  generalize (lg_sl ([.ref (ad 7 k), .int p1]) ++ List.replicate (2 - (lg_sl ([.ref (ad 7 k), .int p1])).length) Slot.unset).toArray = ls at hl ⊢
  have hl : lv_has ls 2 [(0, .ref (ad 7 k)), (1, .int p1)] := hl
  unfold fn_Tm_keepFor at hf
  refine lv_aload_n hx hb gd_Tm_keepFor_0 rfl (lv_at hl 0 rfl) ?_
  refine lv_dup hx hb gd_Tm_keepFor_1 rfl ?_
  refine va_get (D := D) (ci := 3) (C := gR_Tm) (T := gT_Tm) (N := 5) hx hb hts (fun w h => List.mem_cons_of_mem _ (gl_Tm w h)) hown hK (gq_one (c := 7) (k := k) hH hk (gk_c7 cI cT ad u k)) 0 rfl rfl 4 (by decide) (ht _ gt_51) (fun _ h9 => h9) rfl gd_Tm_keepFor_2 ?_
  refine lv_iconst (v := 1) hx hb gd_Tm_keepFor_5 (by decide) ?_
  refine lv_iload_n hx hb gd_Tm_keepFor_6 rfl (lv_at hl 1 rfl) ?_
  refine lv_ishl hx hb gd_Tm_keepFor_7 ?_
  refine lv_ior hx hb gd_Tm_keepFor_8 ?_
  refine gq_put (D := D) (ci := 3) (C := gR_Tm) (T := gT_Tm) (N := 5) (ca := 7) (ka := k) (pp' := gk_pc cI cT ad (gk_sI u 4 k ((u.1 4 k) ||| ((1 : Int32) <<< (p1 &&& 31))))) (ty := .int) hx hb hts (fun w h => List.mem_cons_of_mem _ (gl_Tm w h)) gF_Tm gf_Tm gn_Tm hown hK hH hI hA hk (gk_c7 cI cT ad u k) rfl 4 (by decide) (ht _ gt_51) (fun _ h9 => h9) rfl (by decide +kernel) rfl rfl (Nat.le_of_ble_eq_true rfl) (gk_w4 cI cT ad u k ((u.1 4 k) ||| ((1 : Int32) <<< (p1 &&& 31)))) (gk_o4 cI cT ad u k ((u.1 4 k) ||| ((1 : Int32) <<< (p1 &&& 31)))) hS gd_Tm_keepFor_9 (fun H locs hH hS => ?_)
  cases hf
  exact W.vret hx hb hr (fun t ht hW => ⟨⟨_, rfl, rfl, ⟨by rw [ht]; exact hH, va_K.moved hW.alike hK⟩⟩, hS.F ht⟩) hS.2.2 gd_Tm_keepFor_12
set_option maxHeartbeats 4000000 in
set_option maxRecDepth 100000 in
theorem ct_Bk_version (l : Launch) (D : va_G) (cI cT : ClassId) (ad : Nat → Nat → Nat) (hI : gq_I gk_vd ad) (u : gk_St)  (z : Int32 × gk_St) (hf : fn_Bk_version u = some z) : Met l gy_Bk_version gws_Bk_version ({ frames := 1, cells := 0, slots := 0, locals := 22 }) (va_Pc [.ref (ad 0 0)] (gq_pre D gc_cl (gk_tys cI cT) gk_vd ad gk_NF gk_NM (gk_pc cI cT ad u))) (va_Qi (fun r u2 => r = z.1 ∧ u2 = z.2) (fun u2 t => gq_B D gc_cl (gk_tys cI cT) gk_vd ad (gk_pc cI cT ad u2) t) (gq_A gk_vd ad)) 0 0 (gq_A gk_vd ad) := by
  refine Met.ofW (cc := gb_Bk_version) (maxL := 4) (ret := (some .int)) (by decide) rfl ?_
  intro p e s m args below meth c s₁ B hml hv
  obtain ⟨rfl, hH, hK, hN⟩ := hv
  have hx := B.exec
  have hb := B.bytes
  have hr := B.returns
  have hts := atoms_spec (ws := gws_Bk_version) B.pre
  have ht := fun (w : Cond) (h : w ∈ gt_T) => hts w (List.mem_cons_of_mem _ h)
  have hown : s.vm.findClass gR_Bk = some m.cls := findClass_of_methodNamed B.named
  have hlocks := B.notSynchronized
  have hA : ∀ q, (gq_A gk_vd ad) q → (gq_A gk_vd ad) q := fun _ h => h
  have hS : va_S (gq_A gk_vd ad) s.heap s.heap [] := va_S.rf
  have hl := lv_entry ([.ref (ad 0 0)]) (n := 4) (Nat.le_of_ble_eq_true rfl)
  rw [lg_entry_eq]
  generalize (lg_sl ([.ref (ad 0 0)]) ++ List.replicate (4 - (lg_sl ([.ref (ad 0 0)])).length) Slot.unset).toArray = ls at hl ⊢
  have hl : lv_has ls 4 [(0, .ref (ad 0 0))] := hl
  have L16 : ∀ (n : Nat) (x1 : Int32) (x2 : Int32) (u : gk_St) (H : Heap) (locs : List Loc) (ls : Array Slot), fn_Bk_version_16 n x1 x2 u = some z → gq_H D gc_cl gk_vd ad (gk_pc cI cT ad u) H → va_S (gq_A gk_vd ad) s.heap H locs → lv_has ls 4 [(0, .ref (ad 0 0)), (1, .int x1), (2, .int x2)] → W p l e (headSpec gws_Bk_version ({ frames := 1, cells := 0, slots := 0, locals := 22 })).room s m ([.ref (ad 0 0)] : List Value).toArray below meth c H locs 0 0 (MQ below (va_Qi (fun r u2 => r = z.1 ∧ u2 = z.2) (fun u2 t => gq_B D gc_cl (gk_tys cI cT) gk_vd ad (gk_pc cI cT ad u2) t) (gq_A gk_vd ad)) ([.ref (ad 0 0)] : List Value).toArray s 0 0 (gq_A gk_vd ad)) (F0 m 16 ls []) := by
    intro n
    induction n with
    | zero =>
      intro x1 x2 u H locs ls hf
      have h0 : none = some z := hf
      cases h0
    | succ n ih =>
      intro x1 x2 u H locs ls hf hH hS hl
      rw [fn_Bk_version_16] at hf
      refine lv_iload_n hx hb gd_Bk_version_16 rfl (lv_at hl 2 rfl) ?_
      refine lv_bipush (v := 100) hx hb gd_Bk_version_17 (by decide) ?_
      refine lv_icmp_ge (tgt := 50) hx hb gd_Bk_version_19 (by decide) (fun c13 => ?_) (fun c13 => ?_)
      · replace hf := gj_t c13 hf
        refine lv_aload_n hx hb gd_Bk_version_50 rfl (lv_at hl 0 rfl) ?_
        refine va_get (D := D) (ci := 0) (C := gR_Bk) (T := gT_Bk) (N := 5) hx hb hts (fun w h => List.mem_cons_of_mem _ (gl_Bk w h)) hown hK (gq_one (c := 0) (k := 0) hH rfl (gk_c0 cI cT ad u)) 0 rfl rfl 3 (by decide) (ht _ gt_88) (fun _ h9 => h9) rfl gd_Bk_version_51 ?_
        refine lv_iload_n hx hb gd_Bk_version_54 rfl (lv_at hl 1 rfl) ?_
        refine lv_aload_n hx hb gd_Bk_version_55 rfl (lv_at hl 0 rfl) ?_
        refine va_get (D := D) (ci := 0) (C := gR_Bk) (T := gT_Bk) (N := 5) hx hb hts (fun w h => List.mem_cons_of_mem _ (gl_Bk w h)) hown hK (gq_one (c := 0) (k := 0) hH rfl (gk_c0 cI cT ad u)) 0 rfl rfl 4 (by decide) (ht _ gt_89) (fun _ h9 => h9) rfl gd_Bk_version_56 ?_
        obtain ⟨hg3, hf⟩ := gj_g hf
        refine gq_iast (D := D) (ca := 5) (ka := 0) (pp' := gk_pc cI cT ad (gk_sI u 9 (Int32.toNatClampNeg x1) (u.1 10 0))) hx hb hK hH hI hA rfl (gk_c5 cI cT ad u) 0 rfl hg3 (gk_w9 cI cT ad u (Int32.toNatClampNeg x1) (u.1 10 0)) (gk_o9 cI cT ad u (Int32.toNatClampNeg x1) (u.1 10 0)) hS gd_Bk_version_59 (fun H locs hH hS => ?_)
        refine lv_aload_n hx hb gd_Bk_version_60 rfl (lv_at hl 0 rfl) ?_
        refine lv_dup hx hb gd_Bk_version_61 rfl ?_
        refine va_get (D := D) (ci := 0) (C := gR_Bk) (T := gT_Bk) (N := 5) hx hb hts (fun w h => List.mem_cons_of_mem _ (gl_Bk w h)) hown hK (gq_one (c := 0) (k := 0) hH rfl (gk_c0 cI cT ad (gk_sI u 9 (Int32.toNatClampNeg x1) (u.1 10 0)))) 0 rfl rfl 4 (by decide) (ht _ gt_89) (fun _ h9 => h9) rfl gd_Bk_version_62 ?_
        refine lv_iconst (v := 1) hx hb gd_Bk_version_65 (by decide) ?_
        refine lv_iadd hx hb gd_Bk_version_66 ?_
        refine gq_put (D := D) (ci := 0) (C := gR_Bk) (T := gT_Bk) (N := 5) (ca := 0) (ka := 0) (pp' := gk_pc cI cT ad (gk_sI (gk_sI u 9 (Int32.toNatClampNeg x1) (u.1 10 0)) 10 0 (((gk_sI u 9 (Int32.toNatClampNeg x1) (u.1 10 0)).1 10 0) + 1))) (ty := .int) hx hb hts (fun w h => List.mem_cons_of_mem _ (gl_Bk w h)) gF_Bk gf_Bk gn_Bk hown hK hH hI hA rfl (gk_c0 cI cT ad (gk_sI u 9 (Int32.toNatClampNeg x1) (u.1 10 0))) rfl 4 (by decide) (ht _ gt_89) (fun _ h9 => h9) rfl (by decide +kernel) rfl rfl (Nat.le_of_ble_eq_true rfl) (gk_w10 cI cT ad (gk_sI u 9 (Int32.toNatClampNeg x1) (u.1 10 0)) (((gk_sI u 9 (Int32.toNatClampNeg x1) (u.1 10 0)).1 10 0) + 1)) (gk_o10 cI cT ad (gk_sI u 9 (Int32.toNatClampNeg x1) (u.1 10 0)) (((gk_sI u 9 (Int32.toNatClampNeg x1) (u.1 10 0)).1 10 0) + 1)) hS gd_Bk_version_67 (fun H locs hH hS => ?_)
        refine lv_aload_n hx hb gd_Bk_version_70 rfl (lv_at hl 0 rfl) ?_
        refine va_get (D := D) (ci := 0) (C := gR_Bk) (T := gT_Bk) (N := 5) hx hb hts (fun w h => List.mem_cons_of_mem _ (gl_Bk w h)) hown hK (gq_one (c := 0) (k := 0) hH rfl (gk_c0 cI cT ad (gk_sI (gk_sI u 9 (Int32.toNatClampNeg x1) (u.1 10 0)) 10 0 (((gk_sI u 9 (Int32.toNatClampNeg x1) (u.1 10 0)).1 10 0) + 1)))) 0 rfl rfl 3 (by decide) (ht _ gt_88) (fun _ h9 => h9) rfl gd_Bk_version_71 ?_
        refine lv_iload_n hx hb gd_Bk_version_74 rfl (lv_at hl 1 rfl) ?_
        obtain ⟨hg4, hf⟩ := gj_g hf
        refine va_iald (D := D) hx hb hK (gq_one (c := 5) (k := 0) hH rfl (gk_c5 cI cT ad (gk_sI (gk_sI u 9 (Int32.toNatClampNeg x1) (u.1 10 0)) 10 0 (((gk_sI u 9 (Int32.toNatClampNeg x1) (u.1 10 0)).1 10 0) + 1)))) 0 0 rfl rfl hg4 gd_Bk_version_75 ?_
        cases hf
        exact W.iret hx hb hr (fun t ht hW => ⟨⟨_, _, rfl, ⟨rfl, rfl⟩, ⟨by rw [ht]; exact hH, va_K.moved hW.alike hK⟩⟩, hS.F ht⟩) hS.2.2 gd_Bk_version_76
      · replace hf := gj_e c13 hf
        refine lv_aload_n hx hb gd_Bk_version_22 rfl (lv_at hl 0 rfl) ?_
        refine lv_iload_n hx hb gd_Bk_version_23 rfl (lv_at hl 2 rfl) ?_
        obtain ⟨⟨o7, u8⟩, hc6, hf⟩ := Option.bind_eq_some_iff.mp hf
        refine gq_calle (va_runV (As := [.int x2]) (rest := []) ⟨hx, hb, hml, hown, hts⟩ (ct_Bk_inBook l D cI cT ad hI u x2 (o7, u8) hc6) (cwV 1 hts (gt_V gt_147 gt_149 (gt_sel (List.mem_of_getElem? (i := 3) rfl)) gt_1 gt_150) rfl rfl rfl (by decide +kernel) ⟨Nat.le_of_ble_eq_true rfl, Nat.le_of_ble_eq_true rfl⟩) (gq_preV hH hK hN (va_recv hK (gq_one (c := 0) (k := 0) hH rfl (gk_c0 cI cT ad u)) (ci := 0) (q0 := 0) rfl rfl)) rfl rfl hl.1 rfl (lv_room (Nat.le_of_ble_eq_true rfl)) gd_Bk_version_24 ⟨Nat.zero_le _, Nat.zero_le _⟩) hA hS (fun H locs hH hS => ?_)
        cases o7 with
        | none =>
          have hH : gq_H D gc_cl gk_vd ad (gk_pc cI cT ad u8) H := hH
          refine W.eq (g2 := F0 m 27 ls [.null]) rfl ?_
          dsimp only at hf
          refine lv_astore_nN (lv' := [(3, .null), (0, .ref (ad 0 0)), (1, .int x1), (2, .int x2)]) hx hb gd_Bk_version_27 rfl hl (by decide) rfl (fun ls hl => ?_)
          refine lv_aload_nN hx hb gd_Bk_version_28 rfl (lv_at hl 0 rfl) ?_
          refine lv_ifnullN (tgt := 44) hx hb gd_Bk_version_29 (by decide) ?_
          refine lv_iinc (v := x2 + 1) (lv' := [(2, .int (x2 + 1)), (3, .null), (0, .ref (ad 0 0)), (1, .int x1)]) hx hb gd_Bk_version_44 hl (k := 3) rfl rfl (by decide) rfl (fun ls hl => ?_)
          refine lv_goto (tgt := 16) hx hb gd_Bk_version_47 (by decide) ?_
          exact ih x1 (x2 + 1) u8 _ _ _ hf hH hS (lv_sub hl [2, 3, 0] rfl)
        | some k9 =>
          have hH : gq_H D gc_cl gk_vd ad (gk_pc cI cT ad u8) H := hH
          refine W.eq (g2 := F0 m 27 ls [.ref (ad 7 k9)]) rfl ?_
          dsimp only at hf
          refine lv_astore_n (lv' := [(3, .ref (ad 7 k9)), (0, .ref (ad 0 0)), (1, .int x1), (2, .int x2)]) hx hb gd_Bk_version_27 rfl hl (by decide) rfl (fun ls hl => ?_)
          refine lv_aload_n hx hb gd_Bk_version_28 rfl (lv_at hl 0 rfl) ?_
          refine lv_ifnull hx hb gd_Bk_version_29 ?_
          refine lv_aload_n hx hb gd_Bk_version_32 rfl (lv_at hl 0 rfl) ?_
          refine va_getN (D := D) (ci := 3) (C := gR_Tm) (T := gT_Tm) (N := 5) hx hb hts (fun w h => List.mem_cons_of_mem _ (gl_Tm w h)) hown hK (gq_one (c := 7) (k := k9) hH (ok_Bk_inBook hc6) (gk_c7 cI cT ad u8 k9)) 0 rfl rfl 3 (by decide) (va_Nw.use rfl (hN.1 _ (List.mem_of_getElem? (i := 4) rfl))) (fun _ h9 => h9) rfl gd_Bk_version_33 ?_
          refine lv_if_le (tgt := 44) hx hb gd_Bk_version_36 (by decide) (fun c12 => ?_) (fun c12 => ?_)
          · replace hf := gj_t c12 hf
            refine lv_iinc (v := x2 + 1) (lv' := [(2, .int (x2 + 1)), (3, .ref (ad 7 k9)), (0, .ref (ad 0 0)), (1, .int x1)]) hx hb gd_Bk_version_44 hl (k := 3) rfl rfl (by decide) rfl (fun ls hl => ?_)
            refine lv_goto (tgt := 16) hx hb gd_Bk_version_47 (by decide) ?_
            exact ih x1 (x2 + 1) u8 _ _ _ hf hH hS (lv_sub hl [2, 3, 0] rfl)
          · replace hf := gj_e c12 hf
            refine lv_aload_n hx hb gd_Bk_version_39 rfl (lv_at hl 0 rfl) ?_
            refine lv_iload_n hx hb gd_Bk_version_40 rfl (lv_at hl 2 rfl) ?_
            obtain ⟨z10, hc11, hf⟩ := Option.bind_eq_some_iff.mp hf
            refine gq_callv (va_runV (As := [.int x1]) (rest := []) ⟨hx, hb, hml, hown, hts⟩ (ct_Tm_keepFor l D cI cT ad hI u8 k9 (ok_Bk_inBook hc6) x1 z10 hc11) (cwV 1 hts (gt_V gt_297 gt_298 gt_299 gt_3 gt_300) rfl rfl rfl (by decide +kernel) ⟨Nat.le_of_ble_eq_true rfl, Nat.le_of_ble_eq_true rfl⟩) (gq_preV hH hK hN (va_recv hK (gq_one (c := 7) (k := k9) hH (ok_Bk_inBook hc6) (gk_c7 cI cT ad u8 k9)) (ci := 3) (q0 := 0) rfl rfl)) rfl rfl hl.1 rfl (lv_room (Nat.le_of_ble_eq_true rfl)) gd_Bk_version_41 ⟨Nat.zero_le _, Nat.zero_le _⟩) hA hS (fun H locs hH hS => ?_)
            refine lv_iinc (v := x2 + 1) (lv' := [(2, .int (x2 + 1)), (3, .ref (ad 7 k9)), (0, .ref (ad 0 0)), (1, .int x1)]) hx hb gd_Bk_version_44 hl (k := 3) rfl rfl (by decide) rfl (fun ls hl => ?_)
            refine lv_goto (tgt := 16) hx hb gd_Bk_version_47 (by decide) ?_
            exact ih x1 (x2 + 1) z10 _ _ _ hf hH hS (lv_sub hl [2, 3, 0] rfl)
  unfold fn_Bk_version at hf
  refine lv_aload_n hx hb gd_Bk_version_0 rfl (lv_at hl 0 rfl) ?_
  refine lv_iconst (v := (-1)) hx hb gd_Bk_version_1 (by decide) ?_
  obtain ⟨z1, hc2, hf⟩ := Option.bind_eq_some_iff.mp hf
  refine gq_calli (va_runV (As := [.int (-1)]) (rest := []) ⟨hx, hb, hml, hown, hts⟩ (ct_Bk_slotOf l D cI cT ad hI u (-1) z1 hc2) (cwV 1 hts (gt_V gt_293 gt_295 (gt_sel (List.mem_of_getElem? (i := 14) rfl)) gt_1 gt_296) rfl rfl rfl (by decide +kernel) ⟨Nat.le_of_ble_eq_true rfl, Nat.le_of_ble_eq_true rfl⟩) (gq_preV hH hK hN (va_recv hK (gq_one (c := 0) (k := 0) hH rfl (gk_c0 cI cT ad u)) (ci := 0) (q0 := 0) rfl rfl)) rfl rfl hl.1 rfl (lv_room (Nat.le_of_ble_eq_true rfl)) gd_Bk_version_2 ⟨Nat.zero_le _, Nat.zero_le _⟩) hA hS (fun H locs hH hS => ?_)
  refine lv_istore_n (lv' := [(1, .int z1.1), (0, .ref (ad 0 0))]) hx hb gd_Bk_version_5 rfl hl (by decide) rfl (fun ls hl => ?_)
  refine lv_iload_n hx hb gd_Bk_version_6 rfl (lv_at hl 0 rfl) ?_
  refine lv_iconst (v := (-1)) hx hb gd_Bk_version_7 (by decide) ?_
  refine lv_icmp_ne (tgt := 14) hx hb gd_Bk_version_8 (by decide) (fun c14 => ?_) (fun c14 => ?_)
  · replace hf := gj_e c14 hf
    refine lv_iconst (v := 0) hx hb gd_Bk_version_14 (by decide) ?_
    refine lv_istore_n (lv' := [(2, .int 0), (1, .int z1.1), (0, .ref (ad 0 0))]) hx hb gd_Bk_version_15 rfl hl (by decide) rfl (fun ls hl => ?_)
    exact L16 gk_fu z1.1 0 z1.2 _ _ _ hf hH hS (lv_sub hl [2, 1, 0] rfl)
  · replace hf := gj_t c14 hf
    refine lv_bipush (v := (-3)) hx hb gd_Bk_version_11 (by decide) ?_
    cases hf
    exact W.iret hx hb hr (fun t ht hW => ⟨⟨_, _, rfl, ⟨rfl, rfl⟩, ⟨by rw [ht]; exact hH, va_K.moved hW.alike hK⟩⟩, hS.F ht⟩) hS.2.2 gd_Bk_version_13
set_option maxHeartbeats 4000000 in
set_option maxRecDepth 100000 in
theorem ct_Bk_keptSlot (l : Launch) (D : va_G) (cI cT : ClassId) (ad : Nat → Nat → Nat) (hI : gq_I gk_vd ad) (u : gk_St) (p1 : Int32) (z : Int32 × gk_St) (hf : fn_Bk_keptSlot p1 u = some z) : Met l gy_Bk_keptSlot gws_Bk_keptSlot ({ frames := 1, cells := 0, slots := 0, locals := 22 }) (va_Pc [.ref (ad 0 0), .int p1] (gq_pre D gc_cl (gk_tys cI cT) gk_vd ad gk_NF gk_NM (gk_pc cI cT ad u))) (va_Qi (fun r u2 => r = z.1 ∧ u2 = z.2) (fun u2 t => gq_B D gc_cl (gk_tys cI cT) gk_vd ad (gk_pc cI cT ad u2) t) (gq_A gk_vd ad)) 0 0 (gq_A gk_vd ad) := by
  refine Met.ofW (cc := gb_Bk_keptSlot) (maxL := 2) (ret := (some .int)) (by decide) rfl ?_
  intro p e s m args below meth c s₁ B hml hv
  obtain ⟨rfl, hH, hK, hN⟩ := hv
  have hx := B.exec
  have hb := B.bytes
  have hr := B.returns
  have hts := atoms_spec (ws := gws_Bk_keptSlot) B.pre
  have ht := fun (w : Cond) (h : w ∈ gt_T) => hts w (List.mem_cons_of_mem _ h)
  have hown : s.vm.findClass gR_Bk = some m.cls := findClass_of_methodNamed B.named
  have hlocks := B.notSynchronized
  have hA : ∀ q, (gq_A gk_vd ad) q → (gq_A gk_vd ad) q := fun _ h => h
  have hS : va_S (gq_A gk_vd ad) s.heap s.heap [] := va_S.rf
  have hl := lv_entry ([.ref (ad 0 0), .int p1]) (n := 2) (Nat.le_of_ble_eq_true rfl)
  rw [lg_entry_eq]
  generalize (lg_sl ([.ref (ad 0 0), .int p1]) ++ List.replicate (2 - (lg_sl ([.ref (ad 0 0), .int p1])).length) Slot.unset).toArray = ls at hl ⊢
  have hl : lv_has ls 2 [(0, .ref (ad 0 0)), (1, .int p1)] := hl
  unfold fn_Bk_keptSlot at hf
  refine lv_iload_n hx hb gd_Bk_keptSlot_0 rfl (lv_at hl 1 rfl) ?_
  refine lv_if_ge (tgt := 8) hx hb gd_Bk_keptSlot_1 (by decide) (fun c3 => ?_) (fun c3 => ?_)
  · replace hf := gj_t c3 hf
    refine lv_aload_n hx hb gd_Bk_keptSlot_8 rfl (lv_at hl 0 rfl) ?_
    refine lv_iload_n hx hb gd_Bk_keptSlot_9 rfl (lv_at hl 1 rfl) ?_
    obtain ⟨z1, hc2, hf⟩ := Option.bind_eq_some_iff.mp hf
    refine gq_calli (va_runV (As := [.int p1]) (rest := []) ⟨hx, hb, hml, hown, hts⟩ (ct_Bk_slotOf l D cI cT ad hI u p1 z1 hc2) (cwV 1 hts (gt_V gt_293 gt_295 (gt_sel (List.mem_of_getElem? (i := 14) rfl)) gt_1 gt_296) rfl rfl rfl (by decide +kernel) ⟨Nat.le_of_ble_eq_true rfl, Nat.le_of_ble_eq_true rfl⟩) (gq_preV hH hK hN (va_recv hK (gq_one (c := 0) (k := 0) hH rfl (gk_c0 cI cT ad u)) (ci := 0) (q0 := 0) rfl rfl)) rfl rfl hl.1 rfl (lv_room (Nat.le_of_ble_eq_true rfl)) gd_Bk_keptSlot_10 ⟨Nat.zero_le _, Nat.zero_le _⟩) hA hS (fun H locs hH hS => ?_)
    cases hf
    exact W.iret hx hb hr (fun t ht hW => ⟨⟨_, _, rfl, ⟨rfl, rfl⟩, ⟨by rw [ht]; exact hH, va_K.moved hW.alike hK⟩⟩, hS.F ht⟩) hS.2.2 gd_Bk_keptSlot_13
  · replace hf := gj_e c3 hf
    refine lv_iconst (v := (-1)) hx hb gd_Bk_keptSlot_4 (by decide) ?_
    refine lv_goto (tgt := 13) hx hb gd_Bk_keptSlot_5 (by decide) ?_
    cases hf
    exact W.iret hx hb hr (fun t ht hW => ⟨⟨_, _, rfl, ⟨rfl, rfl⟩, ⟨by rw [ht]; exact hH, va_K.moved hW.alike hK⟩⟩, hS.F ht⟩) hS.2.2 gd_Bk_keptSlot_13
set_option maxHeartbeats 4000000 in
set_option maxRecDepth 100000 in
theorem ct_Tm_giveUpFor (l : Launch) (D : va_G) (cI cT : ClassId) (ad : Nat → Nat → Nat) (hI : gq_I gk_vd ad) (u : gk_St) (k : Nat) (hk : k < 100) (p1 : Int32) (z : gk_St) (hf : fn_Tm_giveUpFor k p1 u = some z) : Met l gy_Tm_giveUpFor gws_Tm_giveUpFor ({ frames := 0, cells := 0, slots := 0, locals := 0 }) (va_Pc [.ref (ad 7 k), .int p1] (gq_pre D gc_cl (gk_tys cI cT) gk_vd ad gk_NF gk_NM (gk_pc cI cT ad u))) (va_Qv (fun u2 => u2 = z) (fun u2 t => gq_B D gc_cl (gk_tys cI cT) gk_vd ad (gk_pc cI cT ad u2) t) (gq_A gk_vd ad)) 0 0 (gq_A gk_vd ad) := by
  refine Met.ofW (cc := gb_Tm_giveUpFor) (maxL := 2) (ret := none) (by decide) rfl ?_
  intro p e s m args below meth c s₁ B hml hv
  obtain ⟨rfl, hH, hK, hN⟩ := hv
  have hx := B.exec
  have hb := B.bytes
  have hr := B.returns
  have hts := atoms_spec (ws := gws_Tm_giveUpFor) B.pre
  have ht := fun (w : Cond) (h : w ∈ gt_T) => hts w (List.mem_cons_of_mem _ h)
  have hown : s.vm.findClass gR_Tm = some m.cls := findClass_of_methodNamed B.named
  have hlocks := B.notSynchronized
  have hA : ∀ q, (gq_A gk_vd ad) q → (gq_A gk_vd ad) q := fun _ h => h
  have hS : va_S (gq_A gk_vd ad) s.heap s.heap [] := va_S.rf
  have hl := lv_entry ([.ref (ad 7 k), .int p1]) (n := 2) (Nat.le_of_ble_eq_true rfl)
  rw [lg_entry_eq]
  generalize (lg_sl ([.ref (ad 7 k), .int p1]) ++ List.replicate (2 - (lg_sl ([.ref (ad 7 k), .int p1])).length) Slot.unset).toArray = ls at hl ⊢
  have hl : lv_has ls 2 [(0, .ref (ad 7 k)), (1, .int p1)] := hl
  unfold fn_Tm_giveUpFor at hf
  refine lv_aload_n hx hb gd_Tm_giveUpFor_0 rfl (lv_at hl 0 rfl) ?_
  refine lv_dup hx hb gd_Tm_giveUpFor_1 rfl ?_
  refine va_get (D := D) (ci := 3) (C := gR_Tm) (T := gT_Tm) (N := 5) hx hb hts (fun w h => List.mem_cons_of_mem _ (gl_Tm w h)) hown hK (gq_one (c := 7) (k := k) hH hk (gk_c7 cI cT ad u k)) 0 rfl rfl 4 (by decide) (ht _ gt_51) (fun _ h9 => h9) rfl gd_Tm_giveUpFor_2 ?_
  refine lv_iconst (v := 1) hx hb gd_Tm_giveUpFor_5 (by decide) ?_
  refine lv_iload_n hx hb gd_Tm_giveUpFor_6 rfl (lv_at hl 1 rfl) ?_
  refine lv_ishl hx hb gd_Tm_giveUpFor_7 ?_
  refine lv_iconst (v := (-1)) hx hb gd_Tm_giveUpFor_8 (by decide) ?_
  refine lv_ixor hx hb gd_Tm_giveUpFor_9 ?_
  refine lv_iand hx hb gd_Tm_giveUpFor_10 ?_
  refine gq_put (D := D) (ci := 3) (C := gR_Tm) (T := gT_Tm) (N := 5) (ca := 7) (ka := k) (pp' := gk_pc cI cT ad (gk_sI u 4 k ((u.1 4 k) &&& (((1 : Int32) <<< (p1 &&& 31)) ^^^ (-1))))) (ty := .int) hx hb hts (fun w h => List.mem_cons_of_mem _ (gl_Tm w h)) gF_Tm gf_Tm gn_Tm hown hK hH hI hA hk (gk_c7 cI cT ad u k) rfl 4 (by decide) (ht _ gt_51) (fun _ h9 => h9) rfl (by decide +kernel) rfl rfl (Nat.le_of_ble_eq_true rfl) (gk_w4 cI cT ad u k ((u.1 4 k) &&& (((1 : Int32) <<< (p1 &&& 31)) ^^^ (-1)))) (gk_o4 cI cT ad u k ((u.1 4 k) &&& (((1 : Int32) <<< (p1 &&& 31)) ^^^ (-1)))) hS gd_Tm_giveUpFor_11 (fun H locs hH hS => ?_)
  cases hf
  exact W.vret hx hb hr (fun t ht hW => ⟨⟨_, rfl, rfl, ⟨by rw [ht]; exact hH, va_K.moved hW.alike hK⟩⟩, hS.F ht⟩) hS.2.2 gd_Tm_giveUpFor_14
set_option maxHeartbeats 4000000 in
set_option maxRecDepth 100000 in
theorem ct_Bk_takeOutUnneeded (l : Launch) (D : va_G) (cI cT : ClassId) (ad : Nat → Nat → Nat) (hI : gq_I gk_vd ad) (u : gk_St)  (z : Int32 × gk_St) (hf : fn_Bk_takeOutUnneeded u = some z) : Met l gy_Bk_takeOutUnneeded gws_Bk_takeOutUnneeded ({ frames := 5, cells := 0, slots := 0, locals := 111 }) (va_Pc [.ref (ad 0 0)] (gq_pre D gc_cl (gk_tys cI cT) gk_vd ad gk_NF gk_NM (gk_pc cI cT ad u))) (va_Qi (fun r u2 => r = z.1 ∧ u2 = z.2) (fun u2 t => gq_B D gc_cl (gk_tys cI cT) gk_vd ad (gk_pc cI cT ad u2) t) (gq_A gk_vd ad)) 0 0 (gq_A gk_vd ad) := by
  refine Met.ofW (cc := gb_Bk_takeOutUnneeded) (maxL := 5) (ret := (some .int)) (by decide) rfl ?_
  intro p e s m args below meth c s₁ B hml hv
  obtain ⟨rfl, hH, hK, hN⟩ := hv
  have hx := B.exec
  have hb := B.bytes
  have hr := B.returns
  have hts := atoms_spec (ws := gws_Bk_takeOutUnneeded) B.pre
  have ht := fun (w : Cond) (h : w ∈ gt_T) => hts w (List.mem_cons_of_mem _ h)
  have hown : s.vm.findClass gR_Bk = some m.cls := findClass_of_methodNamed B.named
  have hlocks := B.notSynchronized
  have hA : ∀ q, (gq_A gk_vd ad) q → (gq_A gk_vd ad) q := fun _ h => h
  have hS : va_S (gq_A gk_vd ad) s.heap s.heap [] := va_S.rf
  have hl := lv_entry ([.ref (ad 0 0)]) (n := 5) (Nat.le_of_ble_eq_true rfl)
  rw [lg_entry_eq]
  generalize (lg_sl ([.ref (ad 0 0)]) ++ List.replicate (5 - (lg_sl ([.ref (ad 0 0)])).length) Slot.unset).toArray = ls at hl ⊢
  have hl : lv_has ls 5 [(0, .ref (ad 0 0))] := hl
  have L12 : ∀ (n : Nat) (x1 : Int32) (x2 : Int32) (x3 : Int32) (u : gk_St) (H : Heap) (locs : List Loc) (ls : Array Slot), fn_Bk_takeOutUnneeded_12 n x1 x2 x3 u = some z → gq_H D gc_cl gk_vd ad (gk_pc cI cT ad u) H → va_S (gq_A gk_vd ad) s.heap H locs → lv_has ls 5 [(0, .ref (ad 0 0)), (1, .int x1), (2, .int x2), (3, .int x3)] → W p l e (headSpec gws_Bk_takeOutUnneeded ({ frames := 5, cells := 0, slots := 0, locals := 111 })).room s m ([.ref (ad 0 0)] : List Value).toArray below meth c H locs 0 0 (MQ below (va_Qi (fun r u2 => r = z.1 ∧ u2 = z.2) (fun u2 t => gq_B D gc_cl (gk_tys cI cT) gk_vd ad (gk_pc cI cT ad u2) t) (gq_A gk_vd ad)) ([.ref (ad 0 0)] : List Value).toArray s 0 0 (gq_A gk_vd ad)) (F0 m 12 ls []) := by
    intro n
    induction n with
    | zero =>
      intro x1 x2 x3 u H locs ls hf
      have h0 : none = some z := hf
      cases h0
    | succ n ih =>
      intro x1 x2 x3 u H locs ls hf hH hS hl
      rw [fn_Bk_takeOutUnneeded_12] at hf
      refine lv_iload_n hx hb gd_Bk_takeOutUnneeded_12 rfl (lv_at hl 3 rfl) ?_
      refine lv_iload_n hx hb gd_Bk_takeOutUnneeded_13 rfl (lv_at hl 1 rfl) ?_
      refine lv_icmp_ge (tgt := 63) hx hb gd_Bk_takeOutUnneeded_14 (by decide) (fun c13 => ?_) (fun c13 => ?_)
      · replace hf := gj_t c13 hf
        refine lv_iload_n hx hb gd_Bk_takeOutUnneeded_63 rfl (lv_at hl 1 rfl) ?_
        refine lv_aload_n hx hb gd_Bk_takeOutUnneeded_64 rfl (lv_at hl 0 rfl) ?_
        refine va_get (D := D) (ci := 0) (C := gR_Bk) (T := gT_Bk) (N := 5) hx hb hts (fun w h => List.mem_cons_of_mem _ (gl_Bk w h)) hown hK (gq_one (c := 0) (k := 0) hH rfl (gk_c0 cI cT ad u)) 0 rfl rfl 2 (by decide) (ht _ gt_87) (fun _ h9 => h9) rfl gd_Bk_takeOutUnneeded_65 ?_
        refine va_getN (D := D) (ci := 1) (C := gR_Lv) (T := gT_Lv) (N := 4) hx hb hts (fun w h => List.mem_cons_of_mem _ (gl_Lv w h)) hown hK (gq_one (c := 2) (k := 0) hH rfl (gk_c2 cI cT ad u)) 0 rfl rfl 1 (by decide) (va_Nw.use rfl (hN.1 _ (List.mem_of_getElem? (i := 5) rfl))) (fun _ h9 => h9) rfl gd_Bk_takeOutUnneeded_68 ?_
        refine lv_isub hx hb gd_Bk_takeOutUnneeded_71 ?_
        cases hf
        exact W.iret hx hb hr (fun t ht hW => ⟨⟨_, _, rfl, ⟨rfl, rfl⟩, ⟨by rw [ht]; exact hH, va_K.moved hW.alike hK⟩⟩, hS.F ht⟩) hS.2.2 gd_Bk_takeOutUnneeded_72
      · replace hf := gj_e c13 hf
        refine lv_aload_n hx hb gd_Bk_takeOutUnneeded_17 rfl (lv_at hl 0 rfl) ?_
        refine lv_aload_n hx hb gd_Bk_takeOutUnneeded_18 rfl (lv_at hl 0 rfl) ?_
        refine va_get (D := D) (ci := 0) (C := gR_Bk) (T := gT_Bk) (N := 5) hx hb hts (fun w h => List.mem_cons_of_mem _ (gl_Bk w h)) hown hK (gq_one (c := 0) (k := 0) hH rfl (gk_c0 cI cT ad u)) 0 rfl rfl 2 (by decide) (ht _ gt_87) (fun _ h9 => h9) rfl gd_Bk_takeOutUnneeded_19 ?_
        refine lv_iload_n hx hb gd_Bk_takeOutUnneeded_22 rfl (lv_at hl 2 rfl) ?_
        obtain ⟨z1, hc2, hf⟩ := Option.bind_eq_some_iff.mp hf
        refine gq_calli (va_runV (As := [.int x2]) (rest := [.ref (ad 0 0)]) ⟨hx, hb, hml, hown, hts⟩ (ct_Lv_numberAt l D cI cT ad hI u x2 z1 hc2) (cwV 1 hts (gt_V gt_139 gt_140 gt_141 gt_4 gt_142) rfl rfl rfl (by decide +kernel) ⟨Nat.le_of_ble_eq_true rfl, Nat.le_of_ble_eq_true rfl⟩) (gq_preV hH hK hN (va_recv hK (gq_one (c := 2) (k := 0) hH rfl (gk_c2 cI cT ad u)) (ci := 1) (q0 := 0) rfl rfl)) rfl rfl hl.1 rfl (lv_room (Nat.le_of_ble_eq_true rfl)) gd_Bk_takeOutUnneeded_23 ⟨Nat.zero_le _, Nat.zero_le _⟩) hA hS (fun H locs hH hS => ?_)
        obtain ⟨⟨o5, u6⟩, hc4, hf⟩ := Option.bind_eq_some_iff.mp hf
        refine gq_calle (va_runV (As := [.int z1.1]) (rest := []) ⟨hx, hb, hml, hown, hts⟩ (ct_Bk_inBook l D cI cT ad hI z1.2 z1.1 (o5, u6) hc4) (cwV 1 hts (gt_V gt_147 gt_149 (gt_sel (List.mem_of_getElem? (i := 3) rfl)) gt_1 gt_150) rfl rfl rfl (by decide +kernel) ⟨Nat.le_of_ble_eq_true rfl, Nat.le_of_ble_eq_true rfl⟩) (gq_preV hH hK hN (va_recv hK (gq_one (c := 0) (k := 0) hH rfl (gk_c0 cI cT ad z1.2)) (ci := 0) (q0 := 0) rfl rfl)) rfl rfl hl.1 rfl (lv_room (Nat.le_of_ble_eq_true rfl)) gd_Bk_takeOutUnneeded_26 ⟨Nat.zero_le _, Nat.zero_le _⟩) hA hS (fun H locs hH hS => ?_)
        cases o5 with
        | none =>
          have hH : gq_H D gc_cl gk_vd ad (gk_pc cI cT ad u6) H := hH
          refine W.eq (g2 := F0 m 29 ls [.null]) rfl ?_
          dsimp only at hf
          refine lv_astoreN (lv' := [(4, .null), (0, .ref (ad 0 0)), (1, .int x1), (2, .int x2), (3, .int x3)]) hx hb gd_Bk_takeOutUnneeded_29 hl (by decide) rfl (fun ls hl => ?_)
          refine lv_aloadN hx hb gd_Bk_takeOutUnneeded_31 (lv_at hl 0 rfl) ?_
          refine lv_ifnullN (tgt := 54) hx hb gd_Bk_takeOutUnneeded_33 (by decide) ?_
          refine lv_iinc (v := x2 + 1) (lv' := [(2, .int (x2 + 1)), (4, .null), (0, .ref (ad 0 0)), (1, .int x1), (3, .int x3)]) hx hb gd_Bk_takeOutUnneeded_54 hl (k := 3) rfl rfl (by decide) rfl (fun ls hl => ?_)
          refine lv_iinc (v := x3 + 1) (lv' := [(3, .int (x3 + 1)), (2, .int (x2 + 1)), (4, .null), (0, .ref (ad 0 0)), (1, .int x1)]) hx hb gd_Bk_takeOutUnneeded_57 hl (k := 4) rfl rfl (by decide) rfl (fun ls hl => ?_)
          refine lv_goto (tgt := 12) hx hb gd_Bk_takeOutUnneeded_60 (by decide) ?_
          exact ih x1 (x2 + 1) (x3 + 1) u6 _ _ _ hf hH hS (lv_sub hl [3, 4, 1, 0] rfl)
        | some k7 =>
          have hH : gq_H D gc_cl gk_vd ad (gk_pc cI cT ad u6) H := hH
          refine W.eq (g2 := F0 m 29 ls [.ref (ad 7 k7)]) rfl ?_
          dsimp only at hf
          refine lv_astore (lv' := [(4, .ref (ad 7 k7)), (0, .ref (ad 0 0)), (1, .int x1), (2, .int x2), (3, .int x3)]) hx hb gd_Bk_takeOutUnneeded_29 hl (by decide) rfl (fun ls hl => ?_)
          refine lv_aload hx hb gd_Bk_takeOutUnneeded_31 (lv_at hl 0 rfl) ?_
          refine lv_ifnull hx hb gd_Bk_takeOutUnneeded_33 ?_
          refine lv_aload hx hb gd_Bk_takeOutUnneeded_36 (lv_at hl 0 rfl) ?_
          obtain ⟨z8, hc9, hf⟩ := Option.bind_eq_some_iff.mp hf
          refine gq_calli (va_runV (As := []) (rest := []) ⟨hx, hb, hml, hown, hts⟩ (ct_Tm_isNeeded l D cI cT ad hI u6 k7 (ok_Bk_inBook hc4) z8 hc9) (cwV 0 hts (gt_V gt_212 gt_213 gt_214 gt_3 gt_215) rfl rfl rfl (by decide +kernel) ⟨Nat.le_of_ble_eq_true rfl, Nat.le_of_ble_eq_true rfl⟩) (gq_preV hH hK hN (va_recv hK (gq_one (c := 7) (k := k7) hH (ok_Bk_inBook hc4) (gk_c7 cI cT ad u6 k7)) (ci := 3) (q0 := 0) rfl rfl)) rfl rfl hl.1 rfl (lv_room (Nat.le_of_ble_eq_true rfl)) gd_Bk_takeOutUnneeded_38 ⟨Nat.zero_le _, Nat.zero_le _⟩) hA hS (fun H locs hH hS => ?_)
          refine lv_if_ne (tgt := 54) hx hb gd_Bk_takeOutUnneeded_41 (by decide) (fun c12 => ?_) (fun c12 => ?_)
          · replace hf := gj_e c12 hf
            refine lv_iinc (v := x2 + 1) (lv' := [(2, .int (x2 + 1)), (4, .ref (ad 7 k7)), (0, .ref (ad 0 0)), (1, .int x1), (3, .int x3)]) hx hb gd_Bk_takeOutUnneeded_54 hl (k := 3) rfl rfl (by decide) rfl (fun ls hl => ?_)
            refine lv_iinc (v := x3 + 1) (lv' := [(3, .int (x3 + 1)), (2, .int (x2 + 1)), (4, .ref (ad 7 k7)), (0, .ref (ad 0 0)), (1, .int x1)]) hx hb gd_Bk_takeOutUnneeded_57 hl (k := 4) rfl rfl (by decide) rfl (fun ls hl => ?_)
            refine lv_goto (tgt := 12) hx hb gd_Bk_takeOutUnneeded_60 (by decide) ?_
            exact ih x1 (x2 + 1) (x3 + 1) z8.2 _ _ _ hf hH hS (lv_sub hl [3, 4, 1, 0] rfl)
          · replace hf := gj_t c12 hf
            refine lv_aload_n hx hb gd_Bk_takeOutUnneeded_44 rfl (lv_at hl 1 rfl) ?_
            refine lv_aload hx hb gd_Bk_takeOutUnneeded_45 (lv_at hl 0 rfl) ?_
            refine lv_iload_n hx hb gd_Bk_takeOutUnneeded_47 rfl (lv_at hl 3 rfl) ?_
            obtain ⟨z10, hc11, hf⟩ := Option.bind_eq_some_iff.mp hf
            refine gq_callv (va_runV (As := [.ref (ad 7 k7), .int x2]) (rest := []) ⟨hx, hb, hml, hown, hts⟩ (ct_Bk_takeOut l D cI cT ad hI z8.2 k7 (ok_Bk_inBook hc4) x2 z10 hc11) (cwV 2 hts (gt_V gt_221 gt_223 (gt_sel (List.mem_of_getElem? (i := 10) rfl)) gt_1 gt_224) rfl rfl rfl (by decide +kernel) ⟨Nat.le_of_ble_eq_true rfl, Nat.le_of_ble_eq_true rfl⟩) (gq_preV hH hK hN (va_recv hK (gq_one (c := 0) (k := 0) hH rfl (gk_c0 cI cT ad z8.2)) (ci := 0) (q0 := 0) rfl rfl)) rfl rfl hl.1 rfl (lv_room (Nat.le_of_ble_eq_true rfl)) gd_Bk_takeOutUnneeded_48 ⟨Nat.zero_le _, Nat.zero_le _⟩) hA hS (fun H locs hH hS => ?_)
            refine lv_goto (tgt := 57) hx hb gd_Bk_takeOutUnneeded_51 (by decide) ?_
            refine lv_iinc (v := x3 + 1) (lv' := [(3, .int (x3 + 1)), (4, .ref (ad 7 k7)), (0, .ref (ad 0 0)), (1, .int x1), (2, .int x2)]) hx hb gd_Bk_takeOutUnneeded_57 hl (k := 4) rfl rfl (by decide) rfl (fun ls hl => ?_)
            refine lv_goto (tgt := 12) hx hb gd_Bk_takeOutUnneeded_60 (by decide) ?_
            exact ih x1 x2 (x3 + 1) z10 _ _ _ hf hH hS (lv_sub hl [2, 3, 4, 0] rfl)
  unfold fn_Bk_takeOutUnneeded at hf
  refine lv_aload_n hx hb gd_Bk_takeOutUnneeded_0 rfl (lv_at hl 0 rfl) ?_
  refine va_get (D := D) (ci := 0) (C := gR_Bk) (T := gT_Bk) (N := 5) hx hb hts (fun w h => List.mem_cons_of_mem _ (gl_Bk w h)) hown hK (gq_one (c := 0) (k := 0) hH rfl (gk_c0 cI cT ad u)) 0 rfl rfl 2 (by decide) (ht _ gt_87) (fun _ h9 => h9) rfl gd_Bk_takeOutUnneeded_1 ?_
  refine va_getN (D := D) (ci := 1) (C := gR_Lv) (T := gT_Lv) (N := 4) hx hb hts (fun w h => List.mem_cons_of_mem _ (gl_Lv w h)) hown hK (gq_one (c := 2) (k := 0) hH rfl (gk_c2 cI cT ad u)) 0 rfl rfl 1 (by decide) (va_Nw.use rfl (hN.1 _ (List.mem_of_getElem? (i := 5) rfl))) (fun _ h9 => h9) rfl gd_Bk_takeOutUnneeded_4 ?_
  refine lv_istore_n (lv' := [(1, .int (u.1 6 0)), (0, .ref (ad 0 0))]) hx hb gd_Bk_takeOutUnneeded_7 rfl hl (by decide) rfl (fun ls hl => ?_)
  refine lv_iconst (v := 0) hx hb gd_Bk_takeOutUnneeded_8 (by decide) ?_
  refine lv_istore_n (lv' := [(2, .int 0), (1, .int (u.1 6 0)), (0, .ref (ad 0 0))]) hx hb gd_Bk_takeOutUnneeded_9 rfl hl (by decide) rfl (fun ls hl => ?_)
  refine lv_iconst (v := 0) hx hb gd_Bk_takeOutUnneeded_10 (by decide) ?_
  refine lv_istore_n (lv' := [(3, .int 0), (2, .int 0), (1, .int (u.1 6 0)), (0, .ref (ad 0 0))]) hx hb gd_Bk_takeOutUnneeded_11 rfl hl (by decide) rfl (fun ls hl => ?_)
  exact L12 gk_fu (u.1 6 0) 0 0 u _ _ _ hf hH hS (lv_sub hl [3, 2, 1, 0] rfl)
set_option maxHeartbeats 4000000 in
set_option maxRecDepth 100000 in
theorem ct_Bk_release (l : Launch) (D : va_G) (cI cT : ClassId) (ad : Nat → Nat → Nat) (hI : gq_I gk_vd ad) (u : gk_St) (p1 : Int32) (z : Int32 × gk_St) (hf : fn_Bk_release p1 u = some z) : Met l gy_Bk_release gws_Bk_release ({ frames := 6, cells := 0, slots := 0, locals := 135 }) (va_Pc [.ref (ad 0 0), .int p1] (gq_pre D gc_cl (gk_tys cI cT) gk_vd ad gk_NF gk_NM (gk_pc cI cT ad u))) (va_Qi (fun r u2 => r = z.1 ∧ u2 = z.2) (fun u2 t => gq_B D gc_cl (gk_tys cI cT) gk_vd ad (gk_pc cI cT ad u2) t) (gq_A gk_vd ad)) 0 0 (gq_A gk_vd ad) := by
  refine Met.ofW (cc := gb_Bk_release) (maxL := 5) (ret := (some .int)) (by decide) rfl ?_
  intro p e s m args below meth c s₁ B hml hv
  obtain ⟨rfl, hH, hK, hN⟩ := hv
  have hx := B.exec
  have hb := B.bytes
  have hr := B.returns
  have hts := atoms_spec (ws := gws_Bk_release) B.pre
  have ht := fun (w : Cond) (h : w ∈ gt_T) => hts w (List.mem_cons_of_mem _ h)
  have hown : s.vm.findClass gR_Bk = some m.cls := findClass_of_methodNamed B.named
  have hlocks := B.notSynchronized
  have hA : ∀ q, (gq_A gk_vd ad) q → (gq_A gk_vd ad) q := fun _ h => h
  have hS : va_S (gq_A gk_vd ad) s.heap s.heap [] := va_S.rf
  have hl := lv_entry ([.ref (ad 0 0), .int p1]) (n := 5) (Nat.le_of_ble_eq_true rfl)
  rw [lg_entry_eq]
  generalize (lg_sl ([.ref (ad 0 0), .int p1]) ++ List.replicate (5 - (lg_sl ([.ref (ad 0 0), .int p1])).length) Slot.unset).toArray = ls at hl ⊢
  have hl : lv_has ls 5 [(0, .ref (ad 0 0)), (1, .int p1)] := hl
  have L22 : ∀ (n : Nat) (x1 : Int32) (x2 : Int32) (x3 : Int32) (u : gk_St) (H : Heap) (locs : List Loc) (ls : Array Slot), fn_Bk_release_22 n x1 x2 x3 u = some z → gq_H D gc_cl gk_vd ad (gk_pc cI cT ad u) H → va_S (gq_A gk_vd ad) s.heap H locs → lv_has ls 5 [(0, .ref (ad 0 0)), (1, .int x1), (2, .int x2), (3, .int x3)] → W p l e (headSpec gws_Bk_release ({ frames := 6, cells := 0, slots := 0, locals := 135 })).room s m ([.ref (ad 0 0), .int p1] : List Value).toArray below meth c H locs 0 0 (MQ below (va_Qi (fun r u2 => r = z.1 ∧ u2 = z.2) (fun u2 t => gq_B D gc_cl (gk_tys cI cT) gk_vd ad (gk_pc cI cT ad u2) t) (gq_A gk_vd ad)) ([.ref (ad 0 0), .int p1] : List Value).toArray s 0 0 (gq_A gk_vd ad)) (F0 m 22 ls []) := by
    intro n
    induction n with
    | zero =>
      intro x1 x2 x3 u H locs ls hf
      have h0 : none = some z := hf
      cases h0
    | succ n ih =>
      intro x1 x2 x3 u H locs ls hf hH hS hl
      rw [fn_Bk_release_22] at hf
      refine lv_iload_n hx hb gd_Bk_release_22 rfl (lv_at hl 3 rfl) ?_
      refine lv_bipush (v := 100) hx hb gd_Bk_release_23 (by decide) ?_
      refine lv_icmp_ge (tgt := 52) hx hb gd_Bk_release_25 (by decide) (fun c13 => ?_) (fun c13 => ?_)
      · replace hf := gj_t c13 hf
        refine lv_aload_n hx hb gd_Bk_release_52 rfl (lv_at hl 0 rfl) ?_
        obtain ⟨z4, hc5, hf⟩ := Option.bind_eq_some_iff.mp hf
        refine gq_calli (va_runV (As := []) (rest := []) ⟨hx, hb, hml, hown, hts⟩ (ct_Bk_takeOutUnneeded l D cI cT ad hI u  z4 hc5) (cwV 0 hts (gt_V gt_313 gt_315 (gt_sel (List.mem_of_getElem? (i := 16) rfl)) gt_1 gt_316) rfl rfl rfl (by decide +kernel) ⟨Nat.le_of_ble_eq_true rfl, Nat.le_of_ble_eq_true rfl⟩) (gq_preV hH hK hN (va_recv hK (gq_one (c := 0) (k := 0) hH rfl (gk_c0 cI cT ad u)) (ci := 0) (q0 := 0) rfl rfl)) rfl rfl hl.1 rfl (lv_room (Nat.le_of_ble_eq_true rfl)) gd_Bk_release_53 ⟨Nat.zero_le _, Nat.zero_le _⟩) hA hS (fun H locs hH hS => ?_)
        cases hf
        exact W.iret hx hb hr (fun t ht hW => ⟨⟨_, _, rfl, ⟨rfl, rfl⟩, ⟨by rw [ht]; exact hH, va_K.moved hW.alike hK⟩⟩, hS.F ht⟩) hS.2.2 gd_Bk_release_56
      · replace hf := gj_e c13 hf
        refine lv_aload_n hx hb gd_Bk_release_28 rfl (lv_at hl 0 rfl) ?_
        refine lv_iload_n hx hb gd_Bk_release_29 rfl (lv_at hl 3 rfl) ?_
        obtain ⟨⟨o8, u9⟩, hc7, hf⟩ := Option.bind_eq_some_iff.mp hf
        refine gq_calle (va_runV (As := [.int x3]) (rest := []) ⟨hx, hb, hml, hown, hts⟩ (ct_Bk_inBook l D cI cT ad hI u x3 (o8, u9) hc7) (cwV 1 hts (gt_V gt_147 gt_149 (gt_sel (List.mem_of_getElem? (i := 3) rfl)) gt_1 gt_150) rfl rfl rfl (by decide +kernel) ⟨Nat.le_of_ble_eq_true rfl, Nat.le_of_ble_eq_true rfl⟩) (gq_preV hH hK hN (va_recv hK (gq_one (c := 0) (k := 0) hH rfl (gk_c0 cI cT ad u)) (ci := 0) (q0 := 0) rfl rfl)) rfl rfl hl.1 rfl (lv_room (Nat.le_of_ble_eq_true rfl)) gd_Bk_release_30 ⟨Nat.zero_le _, Nat.zero_le _⟩) hA hS (fun H locs hH hS => ?_)
        cases o8 with
        | none =>
          have hH : gq_H D gc_cl gk_vd ad (gk_pc cI cT ad u9) H := hH
          refine W.eq (g2 := F0 m 33 ls [.null]) rfl ?_
          dsimp only at hf
          refine lv_astoreN (lv' := [(4, .null), (0, .ref (ad 0 0)), (1, .int x1), (2, .int x2), (3, .int x3)]) hx hb gd_Bk_release_33 hl (by decide) rfl (fun ls hl => ?_)
          refine lv_aloadN hx hb gd_Bk_release_35 (lv_at hl 0 rfl) ?_
          refine lv_ifnullN (tgt := 46) hx hb gd_Bk_release_37 (by decide) ?_
          refine lv_iinc (v := x3 + 1) (lv' := [(3, .int (x3 + 1)), (4, .null), (0, .ref (ad 0 0)), (1, .int x1), (2, .int x2)]) hx hb gd_Bk_release_46 hl (k := 4) rfl rfl (by decide) rfl (fun ls hl => ?_)
          refine lv_goto (tgt := 22) hx hb gd_Bk_release_49 (by decide) ?_
          exact ih x1 x2 (x3 + 1) u9 _ _ _ hf hH hS (lv_sub hl [2, 3, 4, 0] rfl)
        | some k10 =>
          have hH : gq_H D gc_cl gk_vd ad (gk_pc cI cT ad u9) H := hH
          refine W.eq (g2 := F0 m 33 ls [.ref (ad 7 k10)]) rfl ?_
          dsimp only at hf
          refine lv_astore (lv' := [(4, .ref (ad 7 k10)), (0, .ref (ad 0 0)), (1, .int x1), (2, .int x2), (3, .int x3)]) hx hb gd_Bk_release_33 hl (by decide) rfl (fun ls hl => ?_)
          refine lv_aload hx hb gd_Bk_release_35 (lv_at hl 0 rfl) ?_
          refine lv_ifnull hx hb gd_Bk_release_37 ?_
          refine lv_aload hx hb gd_Bk_release_40 (lv_at hl 0 rfl) ?_
          refine lv_iload_n hx hb gd_Bk_release_42 rfl (lv_at hl 3 rfl) ?_
          obtain ⟨z11, hc12, hf⟩ := Option.bind_eq_some_iff.mp hf
          refine gq_callv (va_runV (As := [.int x2]) (rest := []) ⟨hx, hb, hml, hown, hts⟩ (ct_Tm_giveUpFor l D cI cT ad hI u9 k10 (ok_Bk_inBook hc7) x2 z11 hc12) (cwV 1 hts (gt_V gt_309 gt_310 gt_311 gt_3 gt_312) rfl rfl rfl (by decide +kernel) ⟨Nat.le_of_ble_eq_true rfl, Nat.le_of_ble_eq_true rfl⟩) (gq_preV hH hK hN (va_recv hK (gq_one (c := 7) (k := k10) hH (ok_Bk_inBook hc7) (gk_c7 cI cT ad u9 k10)) (ci := 3) (q0 := 0) rfl rfl)) rfl rfl hl.1 rfl (lv_room (Nat.le_of_ble_eq_true rfl)) gd_Bk_release_43 ⟨Nat.zero_le _, Nat.zero_le _⟩) hA hS (fun H locs hH hS => ?_)
          refine lv_iinc (v := x3 + 1) (lv' := [(3, .int (x3 + 1)), (4, .ref (ad 7 k10)), (0, .ref (ad 0 0)), (1, .int x1), (2, .int x2)]) hx hb gd_Bk_release_46 hl (k := 4) rfl rfl (by decide) rfl (fun ls hl => ?_)
          refine lv_goto (tgt := 22) hx hb gd_Bk_release_49 (by decide) ?_
          exact ih x1 x2 (x3 + 1) z11 _ _ _ hf hH hS (lv_sub hl [2, 3, 4, 0] rfl)
  unfold fn_Bk_release at hf
  refine lv_aload_n hx hb gd_Bk_release_0 rfl (lv_at hl 0 rfl) ?_
  refine lv_iload_n hx hb gd_Bk_release_1 rfl (lv_at hl 1 rfl) ?_
  obtain ⟨z1, hc2, hf⟩ := Option.bind_eq_some_iff.mp hf
  refine gq_calli (va_runV (As := [.int p1]) (rest := []) ⟨hx, hb, hml, hown, hts⟩ (ct_Bk_keptSlot l D cI cT ad hI u p1 z1 hc2) (cwV 1 hts (gt_V gt_305 gt_307 (gt_sel (List.mem_of_getElem? (i := 15) rfl)) gt_1 gt_308) rfl rfl rfl (by decide +kernel) ⟨Nat.le_of_ble_eq_true rfl, Nat.le_of_ble_eq_true rfl⟩) (gq_preV hH hK hN (va_recv hK (gq_one (c := 0) (k := 0) hH rfl (gk_c0 cI cT ad u)) (ci := 0) (q0 := 0) rfl rfl)) rfl rfl hl.1 rfl (lv_room (Nat.le_of_ble_eq_true rfl)) gd_Bk_release_2 ⟨Nat.zero_le _, Nat.zero_le _⟩) hA hS (fun H locs hH hS => ?_)
  refine lv_istore_n (lv' := [(2, .int z1.1), (0, .ref (ad 0 0)), (1, .int p1)]) hx hb gd_Bk_release_5 rfl hl (by decide) rfl (fun ls hl => ?_)
  refine lv_iload_n hx hb gd_Bk_release_6 rfl (lv_at hl 0 rfl) ?_
  refine lv_iconst (v := (-1)) hx hb gd_Bk_release_7 (by decide) ?_
  refine lv_icmp_ne (tgt := 13) hx hb gd_Bk_release_8 (by decide) (fun c14 => ?_) (fun c14 => ?_)
  · replace hf := gj_e c14 hf
    refine lv_aload_n hx hb gd_Bk_release_13 rfl (lv_at hl 1 rfl) ?_
    refine va_get (D := D) (ci := 0) (C := gR_Bk) (T := gT_Bk) (N := 5) hx hb hts (fun w h => List.mem_cons_of_mem _ (gl_Bk w h)) hown hK (gq_one (c := 0) (k := 0) hH rfl (gk_c0 cI cT ad z1.2)) 0 rfl rfl 3 (by decide) (ht _ gt_88) (fun _ h9 => h9) rfl gd_Bk_release_14 ?_
    refine lv_iload_n hx hb gd_Bk_release_17 rfl (lv_at hl 0 rfl) ?_
    refine lv_iconst (v := (-1)) hx hb gd_Bk_release_18 (by decide) ?_
    obtain ⟨hg3, hf⟩ := gj_g hf
    refine gq_iast (D := D) (ca := 5) (ka := 0) (pp' := gk_pc cI cT ad (gk_sI z1.2 9 (Int32.toNatClampNeg z1.1) (-1))) hx hb hK hH hI hA rfl (gk_c5 cI cT ad z1.2) 0 rfl hg3 (gk_w9 cI cT ad z1.2 (Int32.toNatClampNeg z1.1) (-1)) (gk_o9 cI cT ad z1.2 (Int32.toNatClampNeg z1.1) (-1)) hS gd_Bk_release_19 (fun H locs hH hS => ?_)
    refine lv_iconst (v := 0) hx hb gd_Bk_release_20 (by decide) ?_
    refine lv_istore_n (lv' := [(3, .int 0), (2, .int z1.1), (0, .ref (ad 0 0)), (1, .int p1)]) hx hb gd_Bk_release_21 rfl hl (by decide) rfl (fun ls hl => ?_)
    exact L22 gk_fu p1 z1.1 0 (gk_sI z1.2 9 (Int32.toNatClampNeg z1.1) (-1)) _ _ _ hf hH hS (lv_sub hl [2, 3, 1, 0] rfl)
  · replace hf := gj_t c14 hf
    refine lv_iconst (v := (-1)) hx hb gd_Bk_release_11 (by decide) ?_
    cases hf
    exact W.iret hx hb hr (fun t ht hW => ⟨⟨_, _, rfl, ⟨rfl, rfl⟩, ⟨by rw [ht]; exact hH, va_K.moved hW.alike hK⟩⟩, hS.F ht⟩) hS.2.2 gd_Bk_release_12
set_option maxHeartbeats 4000000 in
set_option maxRecDepth 100000 in
theorem ct_Tm_isKeptFor (l : Launch) (D : va_G) (cI cT : ClassId) (ad : Nat → Nat → Nat) (hI : gq_I gk_vd ad) (u : gk_St) (k : Nat) (hk : k < 100) (p1 : Int32) (z : Int32 × gk_St) (hf : fn_Tm_isKeptFor k p1 u = some z) : Met l gy_Tm_isKeptFor gws_Tm_isKeptFor ({ frames := 0, cells := 0, slots := 0, locals := 0 }) (va_Pc [.ref (ad 7 k), .int p1] (gq_pre D gc_cl (gk_tys cI cT) gk_vd ad gk_NF gk_NM (gk_pc cI cT ad u))) (va_Qi (fun r u2 => r = z.1 ∧ u2 = z.2) (fun u2 t => gq_B D gc_cl (gk_tys cI cT) gk_vd ad (gk_pc cI cT ad u2) t) (gq_A gk_vd ad)) 0 0 (gq_A gk_vd ad) := by
  refine Met.ofW (cc := gb_Tm_isKeptFor) (maxL := 2) (ret := (some .boolean)) (by decide) rfl ?_
  intro p e s m args below meth c s₁ B hml hv
  obtain ⟨rfl, hH, hK, hN⟩ := hv
  have hx := B.exec
  have hb := B.bytes
  have hr := B.returns
  have hts := atoms_spec (ws := gws_Tm_isKeptFor) B.pre
  have ht := fun (w : Cond) (h : w ∈ gt_T) => hts w (List.mem_cons_of_mem _ h)
  have hown : s.vm.findClass gR_Tm = some m.cls := findClass_of_methodNamed B.named
  have hlocks := B.notSynchronized
  have hA : ∀ q, (gq_A gk_vd ad) q → (gq_A gk_vd ad) q := fun _ h => h
  have hS : va_S (gq_A gk_vd ad) s.heap s.heap [] := va_S.rf
  have hl := lv_entry ([.ref (ad 7 k), .int p1]) (n := 2) (Nat.le_of_ble_eq_true rfl)
  rw [lg_entry_eq]
  generalize (lg_sl ([.ref (ad 7 k), .int p1]) ++ List.replicate (2 - (lg_sl ([.ref (ad 7 k), .int p1])).length) Slot.unset).toArray = ls at hl ⊢
  have hl : lv_has ls 2 [(0, .ref (ad 7 k)), (1, .int p1)] := hl
  unfold fn_Tm_isKeptFor at hf
  refine lv_aload_n hx hb gd_Tm_isKeptFor_0 rfl (lv_at hl 0 rfl) ?_
  refine va_get (D := D) (ci := 3) (C := gR_Tm) (T := gT_Tm) (N := 5) hx hb hts (fun w h => List.mem_cons_of_mem _ (gl_Tm w h)) hown hK (gq_one (c := 7) (k := k) hH hk (gk_c7 cI cT ad u k)) 0 rfl rfl 4 (by decide) (ht _ gt_51) (fun _ h9 => h9) rfl gd_Tm_isKeptFor_1 ?_
  refine lv_iconst (v := 1) hx hb gd_Tm_isKeptFor_4 (by decide) ?_
  refine lv_iload_n hx hb gd_Tm_isKeptFor_5 rfl (lv_at hl 1 rfl) ?_
  refine lv_ishl hx hb gd_Tm_isKeptFor_6 ?_
  refine lv_iand hx hb gd_Tm_isKeptFor_7 ?_
  refine lv_if_eq (tgt := 15) hx hb gd_Tm_isKeptFor_8 (by decide) (fun c1 => ?_) (fun c1 => ?_)
  · replace hf := gj_t c1 hf
    refine lv_iconst (v := 0) hx hb gd_Tm_isKeptFor_15 (by decide) ?_
    cases hf
    exact W.zret hx hb hr rfl (fun t ht hW => ⟨⟨_, _, rfl, ⟨rfl, rfl⟩, ⟨by rw [ht]; exact hH, va_K.moved hW.alike hK⟩⟩, hS.F ht⟩) hS.2.2 gd_Tm_isKeptFor_16
  · replace hf := gj_e c1 hf
    refine lv_iconst (v := 1) hx hb gd_Tm_isKeptFor_11 (by decide) ?_
    refine lv_goto (tgt := 16) hx hb gd_Tm_isKeptFor_12 (by decide) ?_
    cases hf
    exact W.zret hx hb hr rfl (fun t ht hW => ⟨⟨_, _, rfl, ⟨rfl, rfl⟩, ⟨by rw [ht]; exact hH, va_K.moved hW.alike hK⟩⟩, hS.F ht⟩) hS.2.2 gd_Tm_isKeptFor_16
