set_option maxHeartbeats 4000000 in
set_option maxRecDepth 100000 in
theorem ct_Bk_countKeptFor (l : Launch) (D : va_G) (cI cT : ClassId) (ad : Nat → Nat → Nat) (hI : gq_I gk_vd ad) (u : gk_St) (p1 : Int32) (z : Int32 × gk_St) (hf : fn_Bk_countKeptFor p1 u = some z) : Met l gy_Bk_countKeptFor gws_Bk_countKeptFor ({ frames := 1, cells := 0, slots := 0, locals := 22 }) (va_Pc [.ref (ad 0 0), .int p1] (gq_pre D gc_cl (gk_tys cI cT) gk_vd ad gk_NF gk_NM (gk_pc cI cT ad u))) (va_Qi (fun r u2 => r = z.1 ∧ u2 = z.2) (fun u2 t => gq_B D gc_cl (gk_tys cI cT) gk_vd ad (gk_pc cI cT ad u2) t) (gq_A gk_vd ad)) 0 0 (gq_A gk_vd ad) := by
  refine Met.ofW (cc := gb_Bk_countKeptFor) (maxL := 5) (ret := (some .int)) (by decide) rfl ?_
  intro p e s m args below meth c s₁ B hml hv
  obtain ⟨rfl, hH, hK, hN⟩ := hv
  have hx := B.exec
  have hb := B.bytes
  have hr := B.returns
  have hts := atoms_spec (ws := gws_Bk_countKeptFor) B.pre
  have ht := fun (w : Cond) (h : w ∈ gt_T) => hts w (List.mem_cons_of_mem _ h)
  have hown : s.vm.findClass gR_Bk = some m.cls := findClass_of_methodNamed B.named
  have hlocks := B.notSynchronized
  have hA : ∀ q, (gq_A gk_vd ad) q → (gq_A gk_vd ad) q := fun _ h => h
  have hS : va_S (gq_A gk_vd ad) s.heap s.heap [] := va_S.rf
  have hl := lv_entry ([.ref (ad 0 0), .int p1]) (n := 5) (Nat.le_of_ble_eq_true rfl)
  rw [lg_entry_eq]
  generalize (lg_sl ([.ref (ad 0 0), .int p1]) ++ List.replicate (5 - (lg_sl ([.ref (ad 0 0), .int p1])).length) Slot.unset).toArray = ls at hl ⊢
  have hl : lv_has ls 5 [(0, .ref (ad 0 0)), (1, .int p1)] := hl
  have L4 : ∀ (n : Nat) (x1 : Int32) (x2 : Int32) (x3 : Int32) (u : gk_St) (H : Heap) (locs : List Loc) (ls : Array Slot), fn_Bk_countKeptFor_4 n x1 x2 x3 u = some z → gq_H D gc_cl gk_vd ad (gk_pc cI cT ad u) H → va_S (gq_A gk_vd ad) s.heap H locs → lv_has ls 5 [(0, .ref (ad 0 0)), (1, .int x1), (2, .int x2), (3, .int x3)] → W p l e (headSpec gws_Bk_countKeptFor ({ frames := 1, cells := 0, slots := 0, locals := 22 })).room s m ([.ref (ad 0 0), .int p1] : List Value).toArray below meth c H locs 0 0 (MQ below (va_Qi (fun r u2 => r = z.1 ∧ u2 = z.2) (fun u2 t => gq_B D gc_cl (gk_tys cI cT) gk_vd ad (gk_pc cI cT ad u2) t) (gq_A gk_vd ad)) ([.ref (ad 0 0), .int p1] : List Value).toArray s 0 0 (gq_A gk_vd ad)) (F0 m 4 ls []) := by
    intro n
    induction n with
    | zero =>
      intro x1 x2 x3 u H locs ls hf
      have h0 : none = some z := hf
      cases h0
    | succ n ih =>
      intro x1 x2 x3 u H locs ls hf hH hS hl
      rw [fn_Bk_countKeptFor_4] at hf
      refine lv_iload_n hx hb gd_Bk_countKeptFor_4 rfl (lv_at hl 3 rfl) ?_
      refine lv_bipush (v := 100) hx hb gd_Bk_countKeptFor_5 (by decide) ?_
      refine lv_icmp_ge (tgt := 40) hx hb gd_Bk_countKeptFor_7 (by decide) (fun c9 => ?_) (fun c9 => ?_)
      · replace hf := gj_t c9 hf
        refine lv_iload_n hx hb gd_Bk_countKeptFor_40 rfl (lv_at hl 2 rfl) ?_
        cases hf
        exact W.iret hx hb hr (fun t ht hW => ⟨⟨_, _, rfl, ⟨rfl, rfl⟩, ⟨by rw [ht]; exact hH, va_K.moved hW.alike hK⟩⟩, hS.F ht⟩) hS.2.2 gd_Bk_countKeptFor_41
      · replace hf := gj_e c9 hf
        refine lv_aload_n hx hb gd_Bk_countKeptFor_10 rfl (lv_at hl 0 rfl) ?_
        refine lv_iload_n hx hb gd_Bk_countKeptFor_11 rfl (lv_at hl 3 rfl) ?_
        obtain ⟨⟨o3, u4⟩, hc2, hf⟩ := Option.bind_eq_some_iff.mp hf
        refine gq_calle (va_runV (As := [.int x3]) (rest := []) ⟨hx, hb, hml, hown, hts⟩ (ct_Bk_inBook l D cI cT ad hI u x3 (o3, u4) hc2) (cwV 1 hts (gt_V gt_147 gt_149 (gt_sel (List.mem_of_getElem? (i := 3) rfl)) gt_1 gt_150) rfl rfl rfl (by decide +kernel) ⟨Nat.le_of_ble_eq_true rfl, Nat.le_of_ble_eq_true rfl⟩) (gq_preV hH hK hN (va_recv hK (gq_one (c := 0) (k := 0) hH rfl (gk_c0 cI cT ad u)) (ci := 0) (q0 := 0) rfl rfl)) rfl rfl hl.1 rfl (lv_room (Nat.le_of_ble_eq_true rfl)) gd_Bk_countKeptFor_12 ⟨Nat.zero_le _, Nat.zero_le _⟩) hA hS (fun H locs hH hS => ?_)
        cases o3 with
        | none =>
          have hH : gq_H D gc_cl gk_vd ad (gk_pc cI cT ad u4) H := hH
          refine W.eq (g2 := F0 m 15 ls [.null]) rfl ?_
          dsimp only at hf
          refine lv_astoreN (lv' := [(4, .null), (0, .ref (ad 0 0)), (1, .int x1), (2, .int x2), (3, .int x3)]) hx hb gd_Bk_countKeptFor_15 hl (by decide) rfl (fun ls hl => ?_)
          refine lv_aloadN hx hb gd_Bk_countKeptFor_17 (lv_at hl 0 rfl) ?_
          refine lv_ifnullN (tgt := 34) hx hb gd_Bk_countKeptFor_19 (by decide) ?_
          refine lv_iinc (v := x3 + 1) (lv' := [(3, .int (x3 + 1)), (4, .null), (0, .ref (ad 0 0)), (1, .int x1), (2, .int x2)]) hx hb gd_Bk_countKeptFor_34 hl (k := 4) rfl rfl (by decide) rfl (fun ls hl => ?_)
          refine lv_goto (tgt := 4) hx hb gd_Bk_countKeptFor_37 (by decide) ?_
          exact ih x1 x2 (x3 + 1) u4 _ _ _ hf hH hS (lv_sub hl [2, 3, 4, 0] rfl)
        | some k5 =>
          have hH : gq_H D gc_cl gk_vd ad (gk_pc cI cT ad u4) H := hH
          refine W.eq (g2 := F0 m 15 ls [.ref (ad 7 k5)]) rfl ?_
          dsimp only at hf
          refine lv_astore (lv' := [(4, .ref (ad 7 k5)), (0, .ref (ad 0 0)), (1, .int x1), (2, .int x2), (3, .int x3)]) hx hb gd_Bk_countKeptFor_15 hl (by decide) rfl (fun ls hl => ?_)
          refine lv_aload hx hb gd_Bk_countKeptFor_17 (lv_at hl 0 rfl) ?_
          refine lv_ifnull hx hb gd_Bk_countKeptFor_19 ?_
          refine lv_aload hx hb gd_Bk_countKeptFor_22 (lv_at hl 0 rfl) ?_
          refine lv_iload_n hx hb gd_Bk_countKeptFor_24 rfl (lv_at hl 2 rfl) ?_
          obtain ⟨z6, hc7, hf⟩ := Option.bind_eq_some_iff.mp hf
          refine gq_calli (va_runV (As := [.int x1]) (rest := []) ⟨hx, hb, hml, hown, hts⟩ (ct_Tm_isKeptFor l D cI cT ad hI u4 k5 (ok_Bk_inBook hc2) x1 z6 hc7) (cwV 1 hts (gt_V gt_325 gt_326 gt_327 gt_3 gt_328) rfl rfl rfl (by decide +kernel) ⟨Nat.le_of_ble_eq_true rfl, Nat.le_of_ble_eq_true rfl⟩) (gq_preV hH hK hN (va_recv hK (gq_one (c := 7) (k := k5) hH (ok_Bk_inBook hc2) (gk_c7 cI cT ad u4 k5)) (ci := 3) (q0 := 0) rfl rfl)) rfl rfl hl.1 rfl (lv_room (Nat.le_of_ble_eq_true rfl)) gd_Bk_countKeptFor_25 ⟨Nat.zero_le _, Nat.zero_le _⟩) hA hS (fun H locs hH hS => ?_)
          refine lv_if_eq (tgt := 34) hx hb gd_Bk_countKeptFor_28 (by decide) (fun c8 => ?_) (fun c8 => ?_)
          · replace hf := gj_t c8 hf
            refine lv_iinc (v := x3 + 1) (lv' := [(3, .int (x3 + 1)), (4, .ref (ad 7 k5)), (0, .ref (ad 0 0)), (1, .int x1), (2, .int x2)]) hx hb gd_Bk_countKeptFor_34 hl (k := 4) rfl rfl (by decide) rfl (fun ls hl => ?_)
            refine lv_goto (tgt := 4) hx hb gd_Bk_countKeptFor_37 (by decide) ?_
            exact ih x1 x2 (x3 + 1) z6.2 _ _ _ hf hH hS (lv_sub hl [2, 3, 4, 0] rfl)
          · replace hf := gj_e c8 hf
            refine lv_iinc (v := x2 + 1) (lv' := [(2, .int (x2 + 1)), (4, .ref (ad 7 k5)), (0, .ref (ad 0 0)), (1, .int x1), (3, .int x3)]) hx hb gd_Bk_countKeptFor_31 hl (k := 3) rfl rfl (by decide) rfl (fun ls hl => ?_)
            refine lv_iinc (v := x3 + 1) (lv' := [(3, .int (x3 + 1)), (2, .int (x2 + 1)), (4, .ref (ad 7 k5)), (0, .ref (ad 0 0)), (1, .int x1)]) hx hb gd_Bk_countKeptFor_34 hl (k := 4) rfl rfl (by decide) rfl (fun ls hl => ?_)
            refine lv_goto (tgt := 4) hx hb gd_Bk_countKeptFor_37 (by decide) ?_
            exact ih x1 (x2 + 1) (x3 + 1) z6.2 _ _ _ hf hH hS (lv_sub hl [3, 4, 1, 0] rfl)
  unfold fn_Bk_countKeptFor at hf
  refine lv_iconst (v := 0) hx hb gd_Bk_countKeptFor_0 (by decide) ?_
  refine lv_istore_n (lv' := [(2, .int 0), (0, .ref (ad 0 0)), (1, .int p1)]) hx hb gd_Bk_countKeptFor_1 rfl hl (by decide) rfl (fun ls hl => ?_)
  refine lv_iconst (v := 0) hx hb gd_Bk_countKeptFor_2 (by decide) ?_
  refine lv_istore_n (lv' := [(3, .int 0), (2, .int 0), (0, .ref (ad 0 0)), (1, .int p1)]) hx hb gd_Bk_countKeptFor_3 rfl hl (by decide) rfl (fun ls hl => ?_)
  exact L4 gk_fu p1 0 0 u _ _ _ hf hH hS (lv_sub hl [2, 3, 1, 0] rfl)
set_option maxHeartbeats 4000000 in
set_option maxRecDepth 100000 in
theorem ct_Bk_had (l : Launch) (D : va_G) (cI cT : ClassId) (ad : Nat → Nat → Nat) (hI : gq_I gk_vd ad) (u : gk_St) (p1 : Int32) (p2 : Int32) (z : Int32 × gk_St) (hf : fn_Bk_had p1 p2 u = some z) : Met l gy_Bk_had gws_Bk_had ({ frames := 2, cells := 0, slots := 0, locals := 46 }) (va_Pc [.ref (ad 0 0), .int p1, .int p2] (gq_pre D gc_cl (gk_tys cI cT) gk_vd ad gk_NF gk_NM (gk_pc cI cT ad u))) (va_Qi (fun r u2 => r = z.1 ∧ u2 = z.2) (fun u2 t => gq_B D gc_cl (gk_tys cI cT) gk_vd ad (gk_pc cI cT ad u2) t) (gq_A gk_vd ad)) 0 0 (gq_A gk_vd ad) := by
  refine Met.ofW (cc := gb_Bk_had) (maxL := 5) (ret := (some .int)) (by decide) rfl ?_
  intro p e s m args below meth c s₁ B hml hv
  obtain ⟨rfl, hH, hK, hN⟩ := hv
  have hx := B.exec
  have hb := B.bytes
  have hr := B.returns
  have hts := atoms_spec (ws := gws_Bk_had) B.pre
  have ht := fun (w : Cond) (h : w ∈ gt_T) => hts w (List.mem_cons_of_mem _ h)
  have hown : s.vm.findClass gR_Bk = some m.cls := findClass_of_methodNamed B.named
  have hlocks := B.notSynchronized
  have hA : ∀ q, (gq_A gk_vd ad) q → (gq_A gk_vd ad) q := fun _ h => h
  have hS : va_S (gq_A gk_vd ad) s.heap s.heap [] := va_S.rf
  have hl := lv_entry ([.ref (ad 0 0), .int p1, .int p2]) (n := 5) (Nat.le_of_ble_eq_true rfl)
  rw [lg_entry_eq]
  generalize (lg_sl ([.ref (ad 0 0), .int p1, .int p2]) ++ List.replicate (5 - (lg_sl ([.ref (ad 0 0), .int p1, .int p2])).length) Slot.unset).toArray = ls at hl ⊢
  have hl : lv_has ls 5 [(0, .ref (ad 0 0)), (1, .int p1), (2, .int p2)] := hl
  unfold fn_Bk_had at hf
  refine lv_aload_n hx hb gd_Bk_had_0 rfl (lv_at hl 0 rfl) ?_
  refine lv_iload_n hx hb gd_Bk_had_1 rfl (lv_at hl 1 rfl) ?_
  obtain ⟨z1, hc2, hf⟩ := Option.bind_eq_some_iff.mp hf
  refine gq_calli (va_runV (As := [.int p1]) (rest := []) ⟨hx, hb, hml, hown, hts⟩ (ct_Bk_keptSlot l D cI cT ad hI u p1 z1 hc2) (cwV 1 hts (gt_V gt_305 gt_307 (gt_sel (List.mem_of_getElem? (i := 15) rfl)) gt_1 gt_308) rfl rfl rfl (by decide +kernel) ⟨Nat.le_of_ble_eq_true rfl, Nat.le_of_ble_eq_true rfl⟩) (gq_preV hH hK hN (va_recv hK (gq_one (c := 0) (k := 0) hH rfl (gk_c0 cI cT ad u)) (ci := 0) (q0 := 0) rfl rfl)) rfl rfl hl.1 rfl (lv_room (Nat.le_of_ble_eq_true rfl)) gd_Bk_had_2 ⟨Nat.zero_le _, Nat.zero_le _⟩) hA hS (fun H locs hH hS => ?_)
  refine lv_istore_n (lv' := [(3, .int z1.1), (0, .ref (ad 0 0)), (1, .int p1), (2, .int p2)]) hx hb gd_Bk_had_5 rfl hl (by decide) rfl (fun ls hl => ?_)
  refine lv_iload_n hx hb gd_Bk_had_6 rfl (lv_at hl 0 rfl) ?_
  refine lv_iconst (v := (-1)) hx hb gd_Bk_had_7 (by decide) ?_
  refine lv_icmp_eq (tgt := 22) hx hb gd_Bk_had_8 (by decide) (fun c16 => ?_) (fun c16 => ?_)
  · replace hf := gj_t c16 hf
    refine lv_iconst (v := (-1)) hx hb gd_Bk_had_22 (by decide) ?_
    cases hf
    exact W.iret hx hb hr (fun t ht hW => ⟨⟨_, _, rfl, ⟨rfl, rfl⟩, ⟨by rw [ht]; exact hH, va_K.moved hW.alike hK⟩⟩, hS.F ht⟩) hS.2.2 gd_Bk_had_23
  · replace hf := gj_e c16 hf
    refine lv_iload_n hx hb gd_Bk_had_11 rfl (lv_at hl 3 rfl) ?_
    refine lv_iconst (v := (-1)) hx hb gd_Bk_had_12 (by decide) ?_
    refine lv_icmp_lt (tgt := 22) hx hb gd_Bk_had_13 (by decide) (fun c15 => ?_) (fun c15 => ?_)
    · replace hf := gj_t c15 hf
      refine lv_iconst (v := (-1)) hx hb gd_Bk_had_22 (by decide) ?_
      cases hf
      exact W.iret hx hb hr (fun t ht hW => ⟨⟨_, _, rfl, ⟨rfl, rfl⟩, ⟨by rw [ht]; exact hH, va_K.moved hW.alike hK⟩⟩, hS.F ht⟩) hS.2.2 gd_Bk_had_23
    · replace hf := gj_e c15 hf
      refine lv_iload_n hx hb gd_Bk_had_16 rfl (lv_at hl 3 rfl) ?_
      refine lv_bipush (v := 100) hx hb gd_Bk_had_17 (by decide) ?_
      refine lv_icmp_lt (tgt := 24) hx hb gd_Bk_had_19 (by decide) (fun c14 => ?_) (fun c14 => ?_)
      · replace hf := gj_t c14 hf
        refine lv_iload_n hx hb gd_Bk_had_24 rfl (lv_at hl 3 rfl) ?_
        refine lv_iconst (v := (-1)) hx hb gd_Bk_had_25 (by decide) ?_
        refine lv_icmp_ne (tgt := 35) hx hb gd_Bk_had_26 (by decide) (fun c13 => ?_) (fun c13 => ?_)
        · replace hf := gj_e c13 hf
          refine lv_aload_n hx hb gd_Bk_had_35 rfl (lv_at hl 1 rfl) ?_
          refine lv_iload_n hx hb gd_Bk_had_36 rfl (lv_at hl 3 rfl) ?_
          obtain ⟨⟨o5, u6⟩, hc4, hf⟩ := Option.bind_eq_some_iff.mp hf
          refine gq_calle (va_runV (As := [.int p2]) (rest := []) ⟨hx, hb, hml, hown, hts⟩ (ct_Bk_inBook l D cI cT ad hI z1.2 p2 (o5, u6) hc4) (cwV 1 hts (gt_V gt_147 gt_149 (gt_sel (List.mem_of_getElem? (i := 3) rfl)) gt_1 gt_150) rfl rfl rfl (by decide +kernel) ⟨Nat.le_of_ble_eq_true rfl, Nat.le_of_ble_eq_true rfl⟩) (gq_preV hH hK hN (va_recv hK (gq_one (c := 0) (k := 0) hH rfl (gk_c0 cI cT ad z1.2)) (ci := 0) (q0 := 0) rfl rfl)) rfl rfl hl.1 rfl (lv_room (Nat.le_of_ble_eq_true rfl)) gd_Bk_had_37 ⟨Nat.zero_le _, Nat.zero_le _⟩) hA hS (fun H locs hH hS => ?_)
          cases o5 with
          | none =>
            have hH : gq_H D gc_cl gk_vd ad (gk_pc cI cT ad u6) H := hH
            refine W.eq (g2 := F0 m 40 ls [.null]) rfl ?_
            dsimp only at hf
            refine lv_astoreN (lv' := [(4, .null), (3, .int z1.1), (0, .ref (ad 0 0)), (1, .int p1), (2, .int p2)]) hx hb gd_Bk_had_40 hl (by decide) rfl (fun ls hl => ?_)
            refine lv_aloadN hx hb gd_Bk_had_42 (lv_at hl 0 rfl) ?_
            refine lv_ifnullN (tgt := 60) hx hb gd_Bk_had_44 (by decide) ?_
            refine lv_iconst (v := 0) hx hb gd_Bk_had_60 (by decide) ?_
            cases hf
            exact W.iret hx hb hr (fun t ht hW => ⟨⟨_, _, rfl, ⟨rfl, rfl⟩, ⟨by rw [ht]; exact hH, va_K.moved hW.alike hK⟩⟩, hS.F ht⟩) hS.2.2 gd_Bk_had_61
          | some k7 =>
            have hH : gq_H D gc_cl gk_vd ad (gk_pc cI cT ad u6) H := hH
            refine W.eq (g2 := F0 m 40 ls [.ref (ad 7 k7)]) rfl ?_
            dsimp only at hf
            refine lv_astore (lv' := [(4, .ref (ad 7 k7)), (3, .int z1.1), (0, .ref (ad 0 0)), (1, .int p1), (2, .int p2)]) hx hb gd_Bk_had_40 hl (by decide) rfl (fun ls hl => ?_)
            refine lv_aload hx hb gd_Bk_had_42 (lv_at hl 0 rfl) ?_
            refine lv_ifnull hx hb gd_Bk_had_44 ?_
            refine lv_aload hx hb gd_Bk_had_47 (lv_at hl 0 rfl) ?_
            refine lv_iload_n hx hb gd_Bk_had_49 rfl (lv_at hl 1 rfl) ?_
            obtain ⟨z8, hc9, hf⟩ := Option.bind_eq_some_iff.mp hf
            refine gq_calli (va_runV (As := [.int z1.1]) (rest := []) ⟨hx, hb, hml, hown, hts⟩ (ct_Tm_isKeptFor l D cI cT ad hI u6 k7 (ok_Bk_inBook hc4) z1.1 z8 hc9) (cwV 1 hts (gt_V gt_325 gt_326 gt_327 gt_3 gt_328) rfl rfl rfl (by decide +kernel) ⟨Nat.le_of_ble_eq_true rfl, Nat.le_of_ble_eq_true rfl⟩) (gq_preV hH hK hN (va_recv hK (gq_one (c := 7) (k := k7) hH (ok_Bk_inBook hc4) (gk_c7 cI cT ad u6 k7)) (ci := 3) (q0 := 0) rfl rfl)) rfl rfl hl.1 rfl (lv_room (Nat.le_of_ble_eq_true rfl)) gd_Bk_had_50 ⟨Nat.zero_le _, Nat.zero_le _⟩) hA hS (fun H locs hH hS => ?_)
            refine lv_if_eq (tgt := 60) hx hb gd_Bk_had_53 (by decide) (fun c10 => ?_) (fun c10 => ?_)
            · replace hf := gj_t c10 hf
              refine lv_iconst (v := 0) hx hb gd_Bk_had_60 (by decide) ?_
              cases hf
              exact W.iret hx hb hr (fun t ht hW => ⟨⟨_, _, rfl, ⟨rfl, rfl⟩, ⟨by rw [ht]; exact hH, va_K.moved hW.alike hK⟩⟩, hS.F ht⟩) hS.2.2 gd_Bk_had_61
            · replace hf := gj_e c10 hf
              refine lv_iconst (v := 1) hx hb gd_Bk_had_56 (by decide) ?_
              refine lv_goto (tgt := 61) hx hb gd_Bk_had_57 (by decide) ?_
              cases hf
              exact W.iret hx hb hr (fun t ht hW => ⟨⟨_, _, rfl, ⟨rfl, rfl⟩, ⟨by rw [ht]; exact hH, va_K.moved hW.alike hK⟩⟩, hS.F ht⟩) hS.2.2 gd_Bk_had_61
        · replace hf := gj_t c13 hf
          refine lv_aload_n hx hb gd_Bk_had_29 rfl (lv_at hl 1 rfl) ?_
          refine lv_iload_n hx hb gd_Bk_had_30 rfl (lv_at hl 0 rfl) ?_
          obtain ⟨z11, hc12, hf⟩ := Option.bind_eq_some_iff.mp hf
          refine gq_calli (va_runV (As := [.int z1.1]) (rest := []) ⟨hx, hb, hml, hown, hts⟩ (ct_Bk_countKeptFor l D cI cT ad hI z1.2 z1.1 z11 hc12) (cwV 1 hts (gt_V gt_321 gt_323 (gt_sel (List.mem_of_getElem? (i := 17) rfl)) gt_1 gt_324) rfl rfl rfl (by decide +kernel) ⟨Nat.le_of_ble_eq_true rfl, Nat.le_of_ble_eq_true rfl⟩) (gq_preV hH hK hN (va_recv hK (gq_one (c := 0) (k := 0) hH rfl (gk_c0 cI cT ad z1.2)) (ci := 0) (q0 := 0) rfl rfl)) rfl rfl hl.1 rfl (lv_room (Nat.le_of_ble_eq_true rfl)) gd_Bk_had_31 ⟨Nat.zero_le _, Nat.zero_le _⟩) hA hS (fun H locs hH hS => ?_)
          cases hf
          exact W.iret hx hb hr (fun t ht hW => ⟨⟨_, _, rfl, ⟨rfl, rfl⟩, ⟨by rw [ht]; exact hH, va_K.moved hW.alike hK⟩⟩, hS.F ht⟩) hS.2.2 gd_Bk_had_34
      · replace hf := gj_e c14 hf
        refine lv_iconst (v := (-1)) hx hb gd_Bk_had_22 (by decide) ?_
        cases hf
        exact W.iret hx hb hr (fun t ht hW => ⟨⟨_, _, rfl, ⟨rfl, rfl⟩, ⟨by rw [ht]; exact hH, va_K.moved hW.alike hK⟩⟩, hS.F ht⟩) hS.2.2 gd_Bk_had_23
set_option maxHeartbeats 4000000 in
set_option maxRecDepth 100000 in
theorem ct_Lv_startOf (l : Launch) (D : va_G) (cI cT : ClassId) (ad : Nat → Nat → Nat) (hI : gq_I gk_vd ad) (u : gk_St) (p1 : Int32) (z : Int32 × gk_St) (hf : fn_Lv_startOf p1 u = some z) : Met l gy_Lv_startOf gws_Lv_startOf ({ frames := 1, cells := 0, slots := 0, locals := 21 }) (va_Pc [.ref (ad 2 0), .int p1] (gq_pre D gc_cl (gk_tys cI cT) gk_vd ad gk_NF gk_NM (gk_pc cI cT ad u))) (va_Qi (fun r u2 => r = z.1 ∧ u2 = z.2) (fun u2 t => gq_B D gc_cl (gk_tys cI cT) gk_vd ad (gk_pc cI cT ad u2) t) (gq_A gk_vd ad)) 0 0 (gq_A gk_vd ad) := by
  refine Met.ofW (cc := gb_Lv_startOf) (maxL := 4) (ret := (some .int)) (by decide) rfl ?_
  intro p e s m args below meth c s₁ B hml hv
  obtain ⟨rfl, hH, hK, hN⟩ := hv
  have hx := B.exec
  have hb := B.bytes
  have hr := B.returns
  have hts := atoms_spec (ws := gws_Lv_startOf) B.pre
  have ht := fun (w : Cond) (h : w ∈ gt_T) => hts w (List.mem_cons_of_mem _ h)
  have hown : s.vm.findClass gR_Lv = some m.cls := findClass_of_methodNamed B.named
  have hlocks := B.notSynchronized
  have hA : ∀ q, (gq_A gk_vd ad) q → (gq_A gk_vd ad) q := fun _ h => h
  have hS : va_S (gq_A gk_vd ad) s.heap s.heap [] := va_S.rf
  have hl := lv_entry ([.ref (ad 2 0), .int p1]) (n := 4) (Nat.le_of_ble_eq_true rfl)
  rw [lg_entry_eq]
  generalize (lg_sl ([.ref (ad 2 0), .int p1]) ++ List.replicate (4 - (lg_sl ([.ref (ad 2 0), .int p1])).length) Slot.unset).toArray = ls at hl ⊢
  have hl : lv_has ls 4 [(0, .ref (ad 2 0)), (1, .int p1)] := hl
  have L4 : ∀ (n : Nat) (x1 : Int32) (x2 : Int32) (x3 : Int32) (u : gk_St) (H : Heap) (locs : List Loc) (ls : Array Slot), fn_Lv_startOf_4 n x1 x2 x3 u = some z → gq_H D gc_cl gk_vd ad (gk_pc cI cT ad u) H → va_S (gq_A gk_vd ad) s.heap H locs → lv_has ls 4 [(0, .ref (ad 2 0)), (1, .int x1), (2, .int x2), (3, .int x3)] → W p l e (headSpec gws_Lv_startOf ({ frames := 1, cells := 0, slots := 0, locals := 21 })).room s m ([.ref (ad 2 0), .int p1] : List Value).toArray below meth c H locs 0 0 (MQ below (va_Qi (fun r u2 => r = z.1 ∧ u2 = z.2) (fun u2 t => gq_B D gc_cl (gk_tys cI cT) gk_vd ad (gk_pc cI cT ad u2) t) (gq_A gk_vd ad)) ([.ref (ad 2 0), .int p1] : List Value).toArray s 0 0 (gq_A gk_vd ad)) (F0 m 4 ls []) := by
    intro n
    induction n with
    | zero =>
      intro x1 x2 x3 u H locs ls hf
      have h0 : none = some z := hf
      cases h0
    | succ n ih =>
      intro x1 x2 x3 u H locs ls hf hH hS hl
      rw [fn_Lv_startOf_4] at hf
      refine lv_iload_n hx hb gd_Lv_startOf_4 rfl (lv_at hl 3 rfl) ?_
      refine lv_iload_n hx hb gd_Lv_startOf_5 rfl (lv_at hl 1 rfl) ?_
      refine lv_icmp_ge (tgt := 31) hx hb gd_Lv_startOf_6 (by decide) (fun c4 => ?_) (fun c4 => ?_)
      · replace hf := gj_t c4 hf
        refine lv_iload_n hx hb gd_Lv_startOf_31 rfl (lv_at hl 2 rfl) ?_
        cases hf
        exact W.iret hx hb hr (fun t ht hW => ⟨⟨_, _, rfl, ⟨rfl, rfl⟩, ⟨by rw [ht]; exact hH, va_K.moved hW.alike hK⟩⟩, hS.F ht⟩) hS.2.2 gd_Lv_startOf_32
      · replace hf := gj_e c4 hf
        refine lv_iload_n hx hb gd_Lv_startOf_9 rfl (lv_at hl 3 rfl) ?_
        refine lv_aload_n hx hb gd_Lv_startOf_10 rfl (lv_at hl 0 rfl) ?_
        refine va_get (D := D) (ci := 1) (C := gR_Lv) (T := gT_Lv) (N := 4) hx hb hts (fun w h => List.mem_cons_of_mem _ (gl_Lv w h)) hown hK (gq_one (c := 2) (k := 0) hH rfl (gk_c2 cI cT ad u)) 0 rfl rfl 3 (by decide) (ht _ gt_73) (fun _ h9 => h9) rfl gd_Lv_startOf_11 ?_
        refine lv_icmp_ge (tgt := 31) hx hb gd_Lv_startOf_14 (by decide) (fun c3 => ?_) (fun c3 => ?_)
        · replace hf := gj_t c3 hf
          refine lv_iload_n hx hb gd_Lv_startOf_31 rfl (lv_at hl 2 rfl) ?_
          cases hf
          exact W.iret hx hb hr (fun t ht hW => ⟨⟨_, _, rfl, ⟨rfl, rfl⟩, ⟨by rw [ht]; exact hH, va_K.moved hW.alike hK⟩⟩, hS.F ht⟩) hS.2.2 gd_Lv_startOf_32
        · replace hf := gj_e c3 hf
          refine lv_iload_n hx hb gd_Lv_startOf_17 rfl (lv_at hl 2 rfl) ?_
          refine lv_aload_n hx hb gd_Lv_startOf_18 rfl (lv_at hl 0 rfl) ?_
          refine lv_iload_n hx hb gd_Lv_startOf_19 rfl (lv_at hl 3 rfl) ?_
          obtain ⟨z1, hc2, hf⟩ := Option.bind_eq_some_iff.mp hf
          refine gq_calli (va_runV (As := [.int x3]) (rest := [.int x2]) ⟨hx, hb, hml, hown, hts⟩ (ct_Lv_sizeOf l D cI cT ad hI u x3 z1 hc2) (cwV 1 hts (gt_V gt_193 gt_194 gt_195 gt_4 gt_196) rfl rfl rfl (by decide +kernel) ⟨Nat.le_of_ble_eq_true rfl, Nat.le_of_ble_eq_true rfl⟩) (gq_preV hH hK hN (va_recv hK (gq_one (c := 2) (k := 0) hH rfl (gk_c2 cI cT ad u)) (ci := 1) (q0 := 0) rfl rfl)) rfl rfl hl.1 rfl (lv_room (Nat.le_of_ble_eq_true rfl)) gd_Lv_startOf_20 ⟨Nat.zero_le _, Nat.zero_le _⟩) hA hS (fun H locs hH hS => ?_)
          refine lv_iadd hx hb gd_Lv_startOf_23 ?_
          refine lv_istore_n (lv' := [(2, .int (x2 + z1.1)), (0, .ref (ad 2 0)), (1, .int x1), (3, .int x3)]) hx hb gd_Lv_startOf_24 rfl hl (by decide) rfl (fun ls hl => ?_)
          refine lv_iinc (v := x3 + 1) (lv' := [(3, .int (x3 + 1)), (2, .int (x2 + z1.1)), (0, .ref (ad 2 0)), (1, .int x1)]) hx hb gd_Lv_startOf_25 hl (k := 3) rfl rfl (by decide) rfl (fun ls hl => ?_)
          refine lv_goto (tgt := 4) hx hb gd_Lv_startOf_28 (by decide) ?_
          exact ih x1 (x2 + z1.1) (x3 + 1) z1.2 _ _ _ hf hH hS (lv_sub hl [2, 3, 1, 0] rfl)
  unfold fn_Lv_startOf at hf
  refine lv_iconst (v := 0) hx hb gd_Lv_startOf_0 (by decide) ?_
  refine lv_istore_n (lv' := [(2, .int 0), (0, .ref (ad 2 0)), (1, .int p1)]) hx hb gd_Lv_startOf_1 rfl hl (by decide) rfl (fun ls hl => ?_)
  refine lv_iconst (v := 0) hx hb gd_Lv_startOf_2 (by decide) ?_
  refine lv_istore_n (lv' := [(3, .int 0), (2, .int 0), (0, .ref (ad 2 0)), (1, .int p1)]) hx hb gd_Lv_startOf_3 rfl hl (by decide) rfl (fun ls hl => ?_)
  exact L4 gk_fu p1 0 0 u _ _ _ hf hH hS (lv_sub hl [2, 3, 1, 0] rfl)
set_option maxHeartbeats 4000000 in
set_option maxRecDepth 100000 in
theorem ct_Bk_sharedIn (l : Launch) (D : va_G) (cI cT : ClassId) (ad : Nat → Nat → Nat) (hI : gq_I gk_vd ad) (u : gk_St) (p1 : Int32) (z : Int32 × gk_St) (hf : fn_Bk_sharedIn p1 u = some z) : Met l gy_Bk_sharedIn gws_Bk_sharedIn ({ frames := 3, cells := 0, slots := 0, locals := 65 }) (va_Pc [.ref (ad 0 0), .int p1] (gq_pre D gc_cl (gk_tys cI cT) gk_vd ad gk_NF gk_NM (gk_pc cI cT ad u))) (va_Qi (fun r u2 => r = z.1 ∧ u2 = z.2) (fun u2 t => gq_B D gc_cl (gk_tys cI cT) gk_vd ad (gk_pc cI cT ad u2) t) (gq_A gk_vd ad)) 0 0 (gq_A gk_vd ad) := by
  refine Met.ofW (cc := gb_Bk_sharedIn) (maxL := 5) (ret := (some .int)) (by decide) rfl ?_
  intro p e s m args below meth c s₁ B hml hv
  obtain ⟨rfl, hH, hK, hN⟩ := hv
  have hx := B.exec
  have hb := B.bytes
  have hr := B.returns
  have hts := atoms_spec (ws := gws_Bk_sharedIn) B.pre
  have ht := fun (w : Cond) (h : w ∈ gt_T) => hts w (List.mem_cons_of_mem _ h)
  have hown : s.vm.findClass gR_Bk = some m.cls := findClass_of_methodNamed B.named
  have hlocks := B.notSynchronized
  have hA : ∀ q, (gq_A gk_vd ad) q → (gq_A gk_vd ad) q := fun _ h => h
  have hS : va_S (gq_A gk_vd ad) s.heap s.heap [] := va_S.rf
  have hl := lv_entry ([.ref (ad 0 0), .int p1]) (n := 5) (Nat.le_of_ble_eq_true rfl)
  rw [lg_entry_eq]
  generalize (lg_sl ([.ref (ad 0 0), .int p1]) ++ List.replicate (5 - (lg_sl ([.ref (ad 0 0), .int p1])).length) Slot.unset).toArray = ls at hl ⊢
  have hl : lv_has ls 5 [(0, .ref (ad 0 0)), (1, .int p1)] := hl
  unfold fn_Bk_sharedIn at hf
  refine lv_aload_n hx hb gd_Bk_sharedIn_0 rfl (lv_at hl 0 rfl) ?_
  refine va_get (D := D) (ci := 0) (C := gR_Bk) (T := gT_Bk) (N := 5) hx hb hts (fun w h => List.mem_cons_of_mem _ (gl_Bk w h)) hown hK (gq_one (c := 0) (k := 0) hH rfl (gk_c0 cI cT ad u)) 0 rfl rfl 2 (by decide) (ht _ gt_87) (fun _ h9 => h9) rfl gd_Bk_sharedIn_1 ?_
  refine lv_iload_n hx hb gd_Bk_sharedIn_4 rfl (lv_at hl 1 rfl) ?_
  obtain ⟨z1, hc2, hf⟩ := Option.bind_eq_some_iff.mp hf
  refine gq_calli (va_runV (As := [.int p1]) (rest := []) ⟨hx, hb, hml, hown, hts⟩ (ct_Lv_startOf l D cI cT ad hI u p1 z1 hc2) (cwV 1 hts (gt_V gt_338 gt_339 gt_340 gt_4 gt_341) rfl rfl rfl (by decide +kernel) ⟨Nat.le_of_ble_eq_true rfl, Nat.le_of_ble_eq_true rfl⟩) (gq_preV hH hK hN (va_recv hK (gq_one (c := 2) (k := 0) hH rfl (gk_c2 cI cT ad u)) (ci := 1) (q0 := 0) rfl rfl)) rfl rfl hl.1 rfl (lv_room (Nat.le_of_ble_eq_true rfl)) gd_Bk_sharedIn_5 ⟨Nat.zero_le _, Nat.zero_le _⟩) hA hS (fun H locs hH hS => ?_)
  refine lv_istore_n (lv' := [(2, .int z1.1), (0, .ref (ad 0 0)), (1, .int p1)]) hx hb gd_Bk_sharedIn_8 rfl hl (by decide) rfl (fun ls hl => ?_)
  refine lv_aload_n hx hb gd_Bk_sharedIn_9 rfl (lv_at hl 1 rfl) ?_
  refine lv_aload_n hx hb gd_Bk_sharedIn_10 rfl (lv_at hl 1 rfl) ?_
  refine va_get (D := D) (ci := 0) (C := gR_Bk) (T := gT_Bk) (N := 5) hx hb hts (fun w h => List.mem_cons_of_mem _ (gl_Bk w h)) hown hK (gq_one (c := 0) (k := 0) hH rfl (gk_c0 cI cT ad z1.2)) 0 rfl rfl 2 (by decide) (ht _ gt_87) (fun _ h9 => h9) rfl gd_Bk_sharedIn_11 ?_
  refine lv_iload_n hx hb gd_Bk_sharedIn_14 rfl (lv_at hl 0 rfl) ?_
  obtain ⟨z3, hc4, hf⟩ := Option.bind_eq_some_iff.mp hf
  refine gq_calli (va_runV (As := [.int z1.1]) (rest := [.ref (ad 0 0)]) ⟨hx, hb, hml, hown, hts⟩ (ct_Lv_numberAt l D cI cT ad hI z1.2 z1.1 z3 hc4) (cwV 1 hts (gt_V gt_139 gt_140 gt_141 gt_4 gt_142) rfl rfl rfl (by decide +kernel) ⟨Nat.le_of_ble_eq_true rfl, Nat.le_of_ble_eq_true rfl⟩) (gq_preV hH hK hN (va_recv hK (gq_one (c := 2) (k := 0) hH rfl (gk_c2 cI cT ad z1.2)) (ci := 1) (q0 := 0) rfl rfl)) rfl rfl hl.1 rfl (lv_room (Nat.le_of_ble_eq_true rfl)) gd_Bk_sharedIn_15 ⟨Nat.zero_le _, Nat.zero_le _⟩) hA hS (fun H locs hH hS => ?_)
  obtain ⟨⟨o7, u8⟩, hc6, hf⟩ := Option.bind_eq_some_iff.mp hf
  refine gq_calle (va_runV (As := [.int z3.1]) (rest := []) ⟨hx, hb, hml, hown, hts⟩ (ct_Bk_inBook l D cI cT ad hI z3.2 z3.1 (o7, u8) hc6) (cwV 1 hts (gt_V gt_147 gt_149 (gt_sel (List.mem_of_getElem? (i := 3) rfl)) gt_1 gt_150) rfl rfl rfl (by decide +kernel) ⟨Nat.le_of_ble_eq_true rfl, Nat.le_of_ble_eq_true rfl⟩) (gq_preV hH hK hN (va_recv hK (gq_one (c := 0) (k := 0) hH rfl (gk_c0 cI cT ad z3.2)) (ci := 0) (q0 := 0) rfl rfl)) rfl rfl hl.1 rfl (lv_room (Nat.le_of_ble_eq_true rfl)) gd_Bk_sharedIn_18 ⟨Nat.zero_le _, Nat.zero_le _⟩) hA hS (fun H locs hH hS => ?_)
  cases o7 with
  | none =>
    have hH : gq_H D gc_cl gk_vd ad (gk_pc cI cT ad u8) H := hH
    refine W.eq (g2 := F0 m 21 ls [.null]) rfl ?_
    dsimp only at hf
    refine lv_astore_nN (lv' := [(3, .null), (2, .int z1.1), (0, .ref (ad 0 0)), (1, .int p1)]) hx hb gd_Bk_sharedIn_21 rfl hl (by decide) rfl (fun ls hl => ?_)
    refine lv_aload_n hx hb gd_Bk_sharedIn_22 rfl (lv_at hl 2 rfl) ?_
    refine lv_aload_n hx hb gd_Bk_sharedIn_23 rfl (lv_at hl 2 rfl) ?_
    refine va_get (D := D) (ci := 0) (C := gR_Bk) (T := gT_Bk) (N := 5) hx hb hts (fun w h => List.mem_cons_of_mem _ (gl_Bk w h)) hown hK (gq_one (c := 0) (k := 0) hH rfl (gk_c0 cI cT ad u8)) 0 rfl rfl 2 (by decide) (ht _ gt_87) (fun _ h9 => h9) rfl gd_Bk_sharedIn_24 ?_
    refine lv_iload_n hx hb gd_Bk_sharedIn_27 rfl (lv_at hl 1 rfl) ?_
    refine lv_aload_n hx hb gd_Bk_sharedIn_28 rfl (lv_at hl 2 rfl) ?_
    refine va_get (D := D) (ci := 0) (C := gR_Bk) (T := gT_Bk) (N := 5) hx hb hts (fun w h => List.mem_cons_of_mem _ (gl_Bk w h)) hown hK (gq_one (c := 0) (k := 0) hH rfl (gk_c0 cI cT ad u8)) 0 rfl rfl 2 (by decide) (ht _ gt_87) (fun _ h9 => h9) rfl gd_Bk_sharedIn_29 ?_
    refine lv_iload_n hx hb gd_Bk_sharedIn_32 rfl (lv_at hl 3 rfl) ?_
    obtain ⟨z10, hc11, hf⟩ := Option.bind_eq_some_iff.mp hf
    refine gq_calli (va_runV (As := [.int p1]) (rest := [.int z1.1, .ref (ad 2 0), .ref (ad 0 0)]) ⟨hx, hb, hml, hown, hts⟩ (ct_Lv_sizeOf l D cI cT ad hI u8 p1 z10 hc11) (cwV 1 hts (gt_V gt_333 gt_194 gt_195 gt_4 gt_196) rfl rfl rfl (by decide +kernel) ⟨Nat.le_of_ble_eq_true rfl, Nat.le_of_ble_eq_true rfl⟩) (gq_preV hH hK hN (va_recv hK (gq_one (c := 2) (k := 0) hH rfl (gk_c2 cI cT ad u8)) (ci := 1) (q0 := 0) rfl rfl)) rfl rfl hl.1 rfl (lv_room (Nat.le_of_ble_eq_true rfl)) gd_Bk_sharedIn_33 ⟨Nat.zero_le _, Nat.zero_le _⟩) hA hS (fun H locs hH hS => ?_)
    refine lv_iadd hx hb gd_Bk_sharedIn_36 ?_
    refine lv_iconst (v := 1) hx hb gd_Bk_sharedIn_37 (by decide) ?_
    refine lv_isub hx hb gd_Bk_sharedIn_38 ?_
    obtain ⟨z12, hc13, hf⟩ := Option.bind_eq_some_iff.mp hf
    refine gq_calli (va_runV (As := [.int ((z1.1 + z10.1) - 1)]) (rest := [.ref (ad 0 0)]) ⟨hx, hb, hml, hown, hts⟩ (ct_Lv_numberAt l D cI cT ad hI z10.2 ((z1.1 + z10.1) - 1) z12 hc13) (cwV 1 hts (gt_V gt_139 gt_140 gt_141 gt_4 gt_142) rfl rfl rfl (by decide +kernel) ⟨Nat.le_of_ble_eq_true rfl, Nat.le_of_ble_eq_true rfl⟩) (gq_preV hH hK hN (va_recv hK (gq_one (c := 2) (k := 0) hH rfl (gk_c2 cI cT ad z10.2)) (ci := 1) (q0 := 0) rfl rfl)) rfl rfl hl.1 rfl (lv_room (Nat.le_of_ble_eq_true rfl)) gd_Bk_sharedIn_39 ⟨Nat.zero_le _, Nat.zero_le _⟩) hA hS (fun H locs hH hS => ?_)
    obtain ⟨⟨o16, u17⟩, hc15, hf⟩ := Option.bind_eq_some_iff.mp hf
    refine gq_calle (va_runV (As := [.int z12.1]) (rest := []) ⟨hx, hb, hml, hown, hts⟩ (ct_Bk_inBook l D cI cT ad hI z12.2 z12.1 (o16, u17) hc15) (cwV 1 hts (gt_V gt_147 gt_149 (gt_sel (List.mem_of_getElem? (i := 3) rfl)) gt_1 gt_150) rfl rfl rfl (by decide +kernel) ⟨Nat.le_of_ble_eq_true rfl, Nat.le_of_ble_eq_true rfl⟩) (gq_preV hH hK hN (va_recv hK (gq_one (c := 0) (k := 0) hH rfl (gk_c0 cI cT ad z12.2)) (ci := 0) (q0 := 0) rfl rfl)) rfl rfl hl.1 rfl (lv_room (Nat.le_of_ble_eq_true rfl)) gd_Bk_sharedIn_42 ⟨Nat.zero_le _, Nat.zero_le _⟩) hA hS (fun H locs hH hS => ?_)
    cases o16 with
    | none =>
      have hH : gq_H D gc_cl gk_vd ad (gk_pc cI cT ad u17) H := hH
      refine W.eq (g2 := F0 m 45 ls [.null]) rfl ?_
      dsimp only at hf
      refine lv_astoreN (lv' := [(4, .null), (3, .null), (2, .int z1.1), (0, .ref (ad 0 0)), (1, .int p1)]) hx hb gd_Bk_sharedIn_45 hl (by decide) rfl (fun ls hl => ?_)
      refine lv_aload_nN hx hb gd_Bk_sharedIn_47 rfl (lv_at hl 1 rfl) ?_
      refine lv_ifnullN (tgt := 68) hx hb gd_Bk_sharedIn_48 (by decide) ?_
      refine lv_iconst (v := 0) hx hb gd_Bk_sharedIn_68 (by decide) ?_
      cases hf
      exact W.iret hx hb hr (fun t ht hW => ⟨⟨_, _, rfl, ⟨rfl, rfl⟩, ⟨by rw [ht]; exact hH, va_K.moved hW.alike hK⟩⟩, hS.F ht⟩) hS.2.2 gd_Bk_sharedIn_69
    | some k18 =>
      have hH : gq_H D gc_cl gk_vd ad (gk_pc cI cT ad u17) H := hH
      refine W.eq (g2 := F0 m 45 ls [.ref (ad 7 k18)]) rfl ?_
      dsimp only at hf
      refine lv_astore (lv' := [(4, .ref (ad 7 k18)), (3, .null), (2, .int z1.1), (0, .ref (ad 0 0)), (1, .int p1)]) hx hb gd_Bk_sharedIn_45 hl (by decide) rfl (fun ls hl => ?_)
      refine lv_aload_nN hx hb gd_Bk_sharedIn_47 rfl (lv_at hl 1 rfl) ?_
      refine lv_ifnullN (tgt := 68) hx hb gd_Bk_sharedIn_48 (by decide) ?_
      refine lv_iconst (v := 0) hx hb gd_Bk_sharedIn_68 (by decide) ?_
      cases hf
      exact W.iret hx hb hr (fun t ht hW => ⟨⟨_, _, rfl, ⟨rfl, rfl⟩, ⟨by rw [ht]; exact hH, va_K.moved hW.alike hK⟩⟩, hS.F ht⟩) hS.2.2 gd_Bk_sharedIn_69
  | some k9 =>
    have hH : gq_H D gc_cl gk_vd ad (gk_pc cI cT ad u8) H := hH
    refine W.eq (g2 := F0 m 21 ls [.ref (ad 7 k9)]) rfl ?_
    dsimp only at hf
    refine lv_astore_n (lv' := [(3, .ref (ad 7 k9)), (2, .int z1.1), (0, .ref (ad 0 0)), (1, .int p1)]) hx hb gd_Bk_sharedIn_21 rfl hl (by decide) rfl (fun ls hl => ?_)
    refine lv_aload_n hx hb gd_Bk_sharedIn_22 rfl (lv_at hl 2 rfl) ?_
    refine lv_aload_n hx hb gd_Bk_sharedIn_23 rfl (lv_at hl 2 rfl) ?_
    refine va_get (D := D) (ci := 0) (C := gR_Bk) (T := gT_Bk) (N := 5) hx hb hts (fun w h => List.mem_cons_of_mem _ (gl_Bk w h)) hown hK (gq_one (c := 0) (k := 0) hH rfl (gk_c0 cI cT ad u8)) 0 rfl rfl 2 (by decide) (ht _ gt_87) (fun _ h9 => h9) rfl gd_Bk_sharedIn_24 ?_
    refine lv_iload_n hx hb gd_Bk_sharedIn_27 rfl (lv_at hl 1 rfl) ?_
    refine lv_aload_n hx hb gd_Bk_sharedIn_28 rfl (lv_at hl 2 rfl) ?_
    refine va_get (D := D) (ci := 0) (C := gR_Bk) (T := gT_Bk) (N := 5) hx hb hts (fun w h => List.mem_cons_of_mem _ (gl_Bk w h)) hown hK (gq_one (c := 0) (k := 0) hH rfl (gk_c0 cI cT ad u8)) 0 rfl rfl 2 (by decide) (ht _ gt_87) (fun _ h9 => h9) rfl gd_Bk_sharedIn_29 ?_
    refine lv_iload_n hx hb gd_Bk_sharedIn_32 rfl (lv_at hl 3 rfl) ?_
    obtain ⟨z19, hc20, hf⟩ := Option.bind_eq_some_iff.mp hf
    refine gq_calli (va_runV (As := [.int p1]) (rest := [.int z1.1, .ref (ad 2 0), .ref (ad 0 0)]) ⟨hx, hb, hml, hown, hts⟩ (ct_Lv_sizeOf l D cI cT ad hI u8 p1 z19 hc20) (cwV 1 hts (gt_V gt_333 gt_194 gt_195 gt_4 gt_196) rfl rfl rfl (by decide +kernel) ⟨Nat.le_of_ble_eq_true rfl, Nat.le_of_ble_eq_true rfl⟩) (gq_preV hH hK hN (va_recv hK (gq_one (c := 2) (k := 0) hH rfl (gk_c2 cI cT ad u8)) (ci := 1) (q0 := 0) rfl rfl)) rfl rfl hl.1 rfl (lv_room (Nat.le_of_ble_eq_true rfl)) gd_Bk_sharedIn_33 ⟨Nat.zero_le _, Nat.zero_le _⟩) hA hS (fun H locs hH hS => ?_)
    refine lv_iadd hx hb gd_Bk_sharedIn_36 ?_
    refine lv_iconst (v := 1) hx hb gd_Bk_sharedIn_37 (by decide) ?_
    refine lv_isub hx hb gd_Bk_sharedIn_38 ?_
    obtain ⟨z21, hc22, hf⟩ := Option.bind_eq_some_iff.mp hf
    refine gq_calli (va_runV (As := [.int ((z1.1 + z19.1) - 1)]) (rest := [.ref (ad 0 0)]) ⟨hx, hb, hml, hown, hts⟩ (ct_Lv_numberAt l D cI cT ad hI z19.2 ((z1.1 + z19.1) - 1) z21 hc22) (cwV 1 hts (gt_V gt_139 gt_140 gt_141 gt_4 gt_142) rfl rfl rfl (by decide +kernel) ⟨Nat.le_of_ble_eq_true rfl, Nat.le_of_ble_eq_true rfl⟩) (gq_preV hH hK hN (va_recv hK (gq_one (c := 2) (k := 0) hH rfl (gk_c2 cI cT ad z19.2)) (ci := 1) (q0 := 0) rfl rfl)) rfl rfl hl.1 rfl (lv_room (Nat.le_of_ble_eq_true rfl)) gd_Bk_sharedIn_39 ⟨Nat.zero_le _, Nat.zero_le _⟩) hA hS (fun H locs hH hS => ?_)
    obtain ⟨⟨o25, u26⟩, hc24, hf⟩ := Option.bind_eq_some_iff.mp hf
    refine gq_calle (va_runV (As := [.int z21.1]) (rest := []) ⟨hx, hb, hml, hown, hts⟩ (ct_Bk_inBook l D cI cT ad hI z21.2 z21.1 (o25, u26) hc24) (cwV 1 hts (gt_V gt_147 gt_149 (gt_sel (List.mem_of_getElem? (i := 3) rfl)) gt_1 gt_150) rfl rfl rfl (by decide +kernel) ⟨Nat.le_of_ble_eq_true rfl, Nat.le_of_ble_eq_true rfl⟩) (gq_preV hH hK hN (va_recv hK (gq_one (c := 0) (k := 0) hH rfl (gk_c0 cI cT ad z21.2)) (ci := 0) (q0 := 0) rfl rfl)) rfl rfl hl.1 rfl (lv_room (Nat.le_of_ble_eq_true rfl)) gd_Bk_sharedIn_42 ⟨Nat.zero_le _, Nat.zero_le _⟩) hA hS (fun H locs hH hS => ?_)
    cases o25 with
    | none =>
      have hH : gq_H D gc_cl gk_vd ad (gk_pc cI cT ad u26) H := hH
      refine W.eq (g2 := F0 m 45 ls [.null]) rfl ?_
      dsimp only at hf
      refine lv_astoreN (lv' := [(4, .null), (3, .ref (ad 7 k9)), (2, .int z1.1), (0, .ref (ad 0 0)), (1, .int p1)]) hx hb gd_Bk_sharedIn_45 hl (by decide) rfl (fun ls hl => ?_)
      refine lv_aload_n hx hb gd_Bk_sharedIn_47 rfl (lv_at hl 1 rfl) ?_
      refine lv_ifnull hx hb gd_Bk_sharedIn_48 ?_
      refine lv_aloadN hx hb gd_Bk_sharedIn_51 (lv_at hl 0 rfl) ?_
      refine lv_ifnullN (tgt := 68) hx hb gd_Bk_sharedIn_53 (by decide) ?_
      refine lv_iconst (v := 0) hx hb gd_Bk_sharedIn_68 (by decide) ?_
      cases hf
      exact W.iret hx hb hr (fun t ht hW => ⟨⟨_, _, rfl, ⟨rfl, rfl⟩, ⟨by rw [ht]; exact hH, va_K.moved hW.alike hK⟩⟩, hS.F ht⟩) hS.2.2 gd_Bk_sharedIn_69
    | some k27 =>
      have hH : gq_H D gc_cl gk_vd ad (gk_pc cI cT ad u26) H := hH
      refine W.eq (g2 := F0 m 45 ls [.ref (ad 7 k27)]) rfl ?_
      dsimp only at hf
      refine lv_astore (lv' := [(4, .ref (ad 7 k27)), (3, .ref (ad 7 k9)), (2, .int z1.1), (0, .ref (ad 0 0)), (1, .int p1)]) hx hb gd_Bk_sharedIn_45 hl (by decide) rfl (fun ls hl => ?_)
      refine lv_aload_n hx hb gd_Bk_sharedIn_47 rfl (lv_at hl 1 rfl) ?_
      refine lv_ifnull hx hb gd_Bk_sharedIn_48 ?_
      refine lv_aload hx hb gd_Bk_sharedIn_51 (lv_at hl 0 rfl) ?_
      refine lv_ifnull hx hb gd_Bk_sharedIn_53 ?_
      refine lv_aload_n hx hb gd_Bk_sharedIn_56 rfl (lv_at hl 1 rfl) ?_
      refine va_getN (D := D) (ci := 3) (C := gR_Tm) (T := gT_Tm) (N := 5) hx hb hts (fun w h => List.mem_cons_of_mem _ (gl_Tm w h)) hown hK (gq_one (c := 7) (k := k9) hH (ok_Bk_inBook hc6) (gk_c7 cI cT ad u26 k9)) 0 rfl rfl 2 (by decide) (va_Nw.use rfl (hN.1 _ (List.mem_of_getElem? (i := 3) rfl))) (fun _ h9 => h9) rfl gd_Bk_sharedIn_57 ?_
      refine lv_aload hx hb gd_Bk_sharedIn_60 (lv_at hl 0 rfl) ?_
      refine va_getN (D := D) (ci := 3) (C := gR_Tm) (T := gT_Tm) (N := 5) hx hb hts (fun w h => List.mem_cons_of_mem _ (gl_Tm w h)) hown hK (gq_one (c := 7) (k := k27) hH (ok_Bk_inBook hc24) (gk_c7 cI cT ad u26 k27)) 0 rfl rfl 2 (by decide) (va_Nw.use rfl (hN.1 _ (List.mem_of_getElem? (i := 3) rfl))) (fun _ h9 => h9) rfl gd_Bk_sharedIn_62 ?_
      refine lv_icmp_eq (tgt := 70) hx hb gd_Bk_sharedIn_65 (by decide) (fun c30 => ?_) (fun c30 => ?_)
      · replace hf := gj_t c30 hf
        refine lv_aload_n hx hb gd_Bk_sharedIn_70 rfl (lv_at hl 1 rfl) ?_
        refine va_getN (D := D) (ci := 3) (C := gR_Tm) (T := gT_Tm) (N := 5) hx hb hts (fun w h => List.mem_cons_of_mem _ (gl_Tm w h)) hown hK (gq_one (c := 7) (k := k9) hH (ok_Bk_inBook hc6) (gk_c7 cI cT ad u26 k9)) 0 rfl rfl 0 (by decide) (va_Nw.use rfl (hN.1 _ (List.mem_of_getElem? (i := 1) rfl))) (fun _ h9 => h9) rfl gd_Bk_sharedIn_71 ?_
        refine lv_aload hx hb gd_Bk_sharedIn_74 (lv_at hl 0 rfl) ?_
        refine va_getN (D := D) (ci := 3) (C := gR_Tm) (T := gT_Tm) (N := 5) hx hb hts (fun w h => List.mem_cons_of_mem _ (gl_Tm w h)) hown hK (gq_one (c := 7) (k := k27) hH (ok_Bk_inBook hc24) (gk_c7 cI cT ad u26 k27)) 0 rfl rfl 0 (by decide) (va_Nw.use rfl (hN.1 _ (List.mem_of_getElem? (i := 1) rfl))) (fun _ h9 => h9) rfl gd_Bk_sharedIn_76 ?_
        obtain ⟨z28, hc29, hf⟩ := Option.bind_eq_some_iff.mp hf
        refine gq_calli (va_runV (As := [.ref (ad 6 k27)]) (rest := []) ⟨hx, hb, hml, hown, hts⟩ (ct_Tx_sharedWith l D cI cT ad hI u26 k9 (Nat.le_of_lt (ok_Bk_inBook hc6)) k27 (Nat.le_of_lt (ok_Bk_inBook hc24)) z28 hc29) (cwV 1 hts (gt_V gt_342 gt_274 gt_275 gt_2 gt_276) rfl rfl rfl (by decide +kernel) ⟨Nat.le_of_ble_eq_true rfl, Nat.le_of_ble_eq_true rfl⟩) (gq_preV hH hK hN (va_recv hK (gq_one (c := 6) (k := k9) hH (Nat.le_of_lt (ok_Bk_inBook hc6)) (gk_c6 cI cT ad u26 k9)) (ci := 2) (q0 := 0) rfl rfl)) rfl rfl hl.1 rfl (lv_room (Nat.le_of_ble_eq_true rfl)) gd_Bk_sharedIn_79 ⟨Nat.zero_le _, Nat.zero_le _⟩) hA hS (fun H locs hH hS => ?_)
        cases hf
        exact W.iret hx hb hr (fun t ht hW => ⟨⟨_, _, rfl, ⟨rfl, rfl⟩, ⟨by rw [ht]; exact hH, va_K.moved hW.alike hK⟩⟩, hS.F ht⟩) hS.2.2 gd_Bk_sharedIn_82
      · replace hf := gj_e c30 hf
        refine lv_iconst (v := 0) hx hb gd_Bk_sharedIn_68 (by decide) ?_
        cases hf
        exact W.iret hx hb hr (fun t ht hW => ⟨⟨_, _, rfl, ⟨rfl, rfl⟩, ⟨by rw [ht]; exact hH, va_K.moved hW.alike hK⟩⟩, hS.F ht⟩) hS.2.2 gd_Bk_sharedIn_69
set_option maxHeartbeats 4000000 in
set_option maxRecDepth 100000 in
theorem ct_Bk_costOf (l : Launch) (D : va_G) (cI cT : ClassId) (ad : Nat → Nat → Nat) (hI : gq_I gk_vd ad) (u : gk_St) (p1 : Int32) (z : Int32 × gk_St) (hf : fn_Bk_costOf p1 u = some z) : Met l gy_Bk_costOf gws_Bk_costOf ({ frames := 4, cells := 0, slots := 0, locals := 89 }) (va_Pc [.ref (ad 0 0), .int p1] (gq_pre D gc_cl (gk_tys cI cT) gk_vd ad gk_NF gk_NM (gk_pc cI cT ad u))) (va_Qi (fun r u2 => r = z.1 ∧ u2 = z.2) (fun u2 t => gq_B D gc_cl (gk_tys cI cT) gk_vd ad (gk_pc cI cT ad u2) t) (gq_A gk_vd ad)) 0 0 (gq_A gk_vd ad) := by
  refine Met.ofW (cc := gb_Bk_costOf) (maxL := 8) (ret := (some .int)) (by decide) rfl ?_
  intro p e s m args below meth c s₁ B hml hv
  obtain ⟨rfl, hH, hK, hN⟩ := hv
  have hx := B.exec
  have hb := B.bytes
  have hr := B.returns
  have hts := atoms_spec (ws := gws_Bk_costOf) B.pre
  have ht := fun (w : Cond) (h : w ∈ gt_T) => hts w (List.mem_cons_of_mem _ h)
  have hown : s.vm.findClass gR_Bk = some m.cls := findClass_of_methodNamed B.named
  have hlocks := B.notSynchronized
  have hA : ∀ q, (gq_A gk_vd ad) q → (gq_A gk_vd ad) q := fun _ h => h
  have hS : va_S (gq_A gk_vd ad) s.heap s.heap [] := va_S.rf
  have hl := lv_entry ([.ref (ad 0 0), .int p1]) (n := 8) (Nat.le_of_ble_eq_true rfl)
  rw [lg_entry_eq]
  generalize (lg_sl ([.ref (ad 0 0), .int p1]) ++ List.replicate (8 - (lg_sl ([.ref (ad 0 0), .int p1])).length) Slot.unset).toArray = ls at hl ⊢
  have hl : lv_has ls 8 [(0, .ref (ad 0 0)), (1, .int p1)] := hl
  have L33 : ∀ (n : Nat) (x1 : Int32) (x2 : Int32) (x3 : Int32) (x4 : Int32) (x5 : Int32) (x6 : Int32) (u : gk_St) (H : Heap) (locs : List Loc) (ls : Array Slot), fn_Bk_costOf_33 n x1 x2 x3 x4 x5 x6 u = some z → gq_H D gc_cl gk_vd ad (gk_pc cI cT ad u) H → va_S (gq_A gk_vd ad) s.heap H locs → lv_has ls 8 [(0, .ref (ad 0 0)), (1, .int x1), (2, .int x2), (3, .int x3), (4, .int x4), (5, .int x5), (6, .int x6)] → W p l e (headSpec gws_Bk_costOf ({ frames := 4, cells := 0, slots := 0, locals := 89 })).room s m ([.ref (ad 0 0), .int p1] : List Value).toArray below meth c H locs 0 0 (MQ below (va_Qi (fun r u2 => r = z.1 ∧ u2 = z.2) (fun u2 t => gq_B D gc_cl (gk_tys cI cT) gk_vd ad (gk_pc cI cT ad u2) t) (gq_A gk_vd ad)) ([.ref (ad 0 0), .int p1] : List Value).toArray s 0 0 (gq_A gk_vd ad)) (F0 m 33 ls []) := by
    intro n
    induction n with
    | zero =>
      intro x1 x2 x3 x4 x5 x6 u H locs ls hf
      have h0 : none = some z := hf
      cases h0
    | succ n ih =>
      intro x1 x2 x3 x4 x5 x6 u H locs ls hf hH hS hl
      rw [fn_Bk_costOf_33] at hf
      refine lv_iload hx hb gd_Bk_costOf_33 (lv_at hl 6 rfl) ?_
      refine lv_iload hx hb gd_Bk_costOf_35 (lv_at hl 4 rfl) ?_
      refine lv_icmp_ge (tgt := 81) hx hb gd_Bk_costOf_37 (by decide) (fun c14 => ?_) (fun c14 => ?_)
      · replace hf := gj_t c14 hf
        refine lv_iload hx hb gd_Bk_costOf_81 (lv_at hl 5 rfl) ?_
        cases hf
        exact W.iret hx hb hr (fun t ht hW => ⟨⟨_, _, rfl, ⟨rfl, rfl⟩, ⟨by rw [ht]; exact hH, va_K.moved hW.alike hK⟩⟩, hS.F ht⟩) hS.2.2 gd_Bk_costOf_83
      · replace hf := gj_e c14 hf
        refine lv_aload_n hx hb gd_Bk_costOf_40 rfl (lv_at hl 0 rfl) ?_
        refine lv_aload_n hx hb gd_Bk_costOf_41 rfl (lv_at hl 0 rfl) ?_
        refine va_get (D := D) (ci := 0) (C := gR_Bk) (T := gT_Bk) (N := 5) hx hb hts (fun w h => List.mem_cons_of_mem _ (gl_Bk w h)) hown hK (gq_one (c := 0) (k := 0) hH rfl (gk_c0 cI cT ad u)) 0 rfl rfl 2 (by decide) (ht _ gt_87) (fun _ h9 => h9) rfl gd_Bk_costOf_42 ?_
        refine lv_iload hx hb gd_Bk_costOf_45 (lv_at hl 6 rfl) ?_
        obtain ⟨z7, hc8, hf⟩ := Option.bind_eq_some_iff.mp hf
        refine gq_calli (va_runV (As := [.int x6]) (rest := [.ref (ad 0 0)]) ⟨hx, hb, hml, hown, hts⟩ (ct_Lv_numberAt l D cI cT ad hI u x6 z7 hc8) (cwV 1 hts (gt_V gt_139 gt_140 gt_141 gt_4 gt_142) rfl rfl rfl (by decide +kernel) ⟨Nat.le_of_ble_eq_true rfl, Nat.le_of_ble_eq_true rfl⟩) (gq_preV hH hK hN (va_recv hK (gq_one (c := 2) (k := 0) hH rfl (gk_c2 cI cT ad u)) (ci := 1) (q0 := 0) rfl rfl)) rfl rfl hl.1 rfl (lv_room (Nat.le_of_ble_eq_true rfl)) gd_Bk_costOf_47 ⟨Nat.zero_le _, Nat.zero_le _⟩) hA hS (fun H locs hH hS => ?_)
        obtain ⟨⟨o11, u12⟩, hc10, hf⟩ := Option.bind_eq_some_iff.mp hf
        refine gq_calle (va_runV (As := [.int z7.1]) (rest := []) ⟨hx, hb, hml, hown, hts⟩ (ct_Bk_inBook l D cI cT ad hI z7.2 z7.1 (o11, u12) hc10) (cwV 1 hts (gt_V gt_147 gt_149 (gt_sel (List.mem_of_getElem? (i := 3) rfl)) gt_1 gt_150) rfl rfl rfl (by decide +kernel) ⟨Nat.le_of_ble_eq_true rfl, Nat.le_of_ble_eq_true rfl⟩) (gq_preV hH hK hN (va_recv hK (gq_one (c := 0) (k := 0) hH rfl (gk_c0 cI cT ad z7.2)) (ci := 0) (q0 := 0) rfl rfl)) rfl rfl hl.1 rfl (lv_room (Nat.le_of_ble_eq_true rfl)) gd_Bk_costOf_50 ⟨Nat.zero_le _, Nat.zero_le _⟩) hA hS (fun H locs hH hS => ?_)
        cases o11 with
        | none =>
          have hH : gq_H D gc_cl gk_vd ad (gk_pc cI cT ad u12) H := hH
          refine W.eq (g2 := F0 m 53 ls [.null]) rfl ?_
          dsimp only at hf
          refine lv_astoreN (lv' := [(7, .null), (0, .ref (ad 0 0)), (1, .int x1), (2, .int x2), (3, .int x3), (4, .int x4), (5, .int x5), (6, .int x6)]) hx hb gd_Bk_costOf_53 hl (by decide) rfl (fun ls hl => ?_)
          refine lv_aloadN hx hb gd_Bk_costOf_55 (lv_at hl 0 rfl) ?_
          refine lv_ifnullN (tgt := 75) hx hb gd_Bk_costOf_57 (by decide) ?_
          refine lv_iinc (v := x6 + 1) (lv' := [(6, .int (x6 + 1)), (7, .null), (0, .ref (ad 0 0)), (1, .int x1), (2, .int x2), (3, .int x3), (4, .int x4), (5, .int x5)]) hx hb gd_Bk_costOf_75 hl (k := 7) rfl rfl (by decide) rfl (fun ls hl => ?_)
          refine lv_goto (tgt := 33) hx hb gd_Bk_costOf_78 (by decide) ?_
          exact ih x1 x2 x3 x4 x5 (x6 + 1) u12 _ _ _ hf hH hS (lv_sub hl [2, 3, 4, 5, 6, 7, 0] rfl)
        | some k13 =>
          have hH : gq_H D gc_cl gk_vd ad (gk_pc cI cT ad u12) H := hH
          refine W.eq (g2 := F0 m 53 ls [.ref (ad 7 k13)]) rfl ?_
          dsimp only at hf
          refine lv_astore (lv' := [(7, .ref (ad 7 k13)), (0, .ref (ad 0 0)), (1, .int x1), (2, .int x2), (3, .int x3), (4, .int x4), (5, .int x5), (6, .int x6)]) hx hb gd_Bk_costOf_53 hl (by decide) rfl (fun ls hl => ?_)
          refine lv_aload hx hb gd_Bk_costOf_55 (lv_at hl 0 rfl) ?_
          refine lv_ifnull hx hb gd_Bk_costOf_57 ?_
          refine lv_iload hx hb gd_Bk_costOf_60 (lv_at hl 6 rfl) ?_
          refine lv_aload hx hb gd_Bk_costOf_62 (lv_at hl 0 rfl) ?_
          refine va_getN (D := D) (ci := 3) (C := gR_Tm) (T := gT_Tm) (N := 5) hx hb hts (fun w h => List.mem_cons_of_mem _ (gl_Tm w h)) hown hK (gq_one (c := 7) (k := k13) hH (ok_Bk_inBook hc10) (gk_c7 cI cT ad u12 k13)) 0 rfl rfl 0 (by decide) (va_Nw.use rfl (hN.1 _ (List.mem_of_getElem? (i := 1) rfl))) (fun _ h9 => h9) rfl gd_Bk_costOf_64 ?_
          refine va_getN (D := D) (ci := 2) (C := gR_Tx) (T := gT_Tx) (N := 3) hx hb hts (fun w h => List.mem_cons_of_mem _ (gl_Tx w h)) hown hK (gq_one (c := 6) (k := k13) hH (Nat.le_of_lt (ok_Bk_inBook hc10)) (gk_c6 cI cT ad u12 k13)) 0 rfl rfl 2 (by decide) (va_Nw.use rfl (hN.1 _ (List.mem_of_getElem? (i := 0) rfl))) (fun _ h9 => h9) rfl gd_Bk_costOf_67 ?_
          refine lv_iload_n hx hb gd_Bk_costOf_70 rfl (lv_at hl 3 rfl) ?_
          refine lv_isub hx hb gd_Bk_costOf_71 ?_
          refine lv_iadd hx hb gd_Bk_costOf_72 ?_
          refine lv_istore (lv' := [(5, .int (x5 + ((u12.1 0 k13) - x2))), (7, .ref (ad 7 k13)), (0, .ref (ad 0 0)), (1, .int x1), (2, .int x2), (3, .int x3), (4, .int x4), (6, .int x6)]) hx hb gd_Bk_costOf_73 hl (by decide) rfl (fun ls hl => ?_)
          refine lv_iinc (v := x6 + 1) (lv' := [(6, .int (x6 + 1)), (5, .int (x5 + ((u12.1 0 k13) - x2))), (7, .ref (ad 7 k13)), (0, .ref (ad 0 0)), (1, .int x1), (2, .int x2), (3, .int x3), (4, .int x4)]) hx hb gd_Bk_costOf_75 hl (k := 7) rfl rfl (by decide) rfl (fun ls hl => ?_)
          refine lv_goto (tgt := 33) hx hb gd_Bk_costOf_78 (by decide) ?_
          exact ih x1 x2 x3 x4 (x5 + ((u12.1 0 k13) - x2)) (x6 + 1) u12 _ _ _ hf hH hS (lv_sub hl [3, 4, 5, 6, 7, 1, 0] rfl)
  unfold fn_Bk_costOf at hf
  refine lv_aload_n hx hb gd_Bk_costOf_0 rfl (lv_at hl 0 rfl) ?_
  refine lv_iload_n hx hb gd_Bk_costOf_1 rfl (lv_at hl 1 rfl) ?_
  obtain ⟨z1, hc2, hf⟩ := Option.bind_eq_some_iff.mp hf
  refine gq_calli (va_runV (As := [.int p1]) (rest := []) ⟨hx, hb, hml, hown, hts⟩ (ct_Bk_sharedIn l D cI cT ad hI u p1 z1 hc2) (cwV 1 hts (gt_V gt_334 gt_336 (gt_sel (List.mem_of_getElem? (i := 18) rfl)) gt_1 gt_337) rfl rfl rfl (by decide +kernel) ⟨Nat.le_of_ble_eq_true rfl, Nat.le_of_ble_eq_true rfl⟩) (gq_preV hH hK hN (va_recv hK (gq_one (c := 0) (k := 0) hH rfl (gk_c0 cI cT ad u)) (ci := 0) (q0 := 0) rfl rfl)) rfl rfl hl.1 rfl (lv_room (Nat.le_of_ble_eq_true rfl)) gd_Bk_costOf_2 ⟨Nat.zero_le _, Nat.zero_le _⟩) hA hS (fun H locs hH hS => ?_)
  refine lv_istore_n (lv' := [(2, .int z1.1), (0, .ref (ad 0 0)), (1, .int p1)]) hx hb gd_Bk_costOf_5 rfl hl (by decide) rfl (fun ls hl => ?_)
  refine lv_aload_n hx hb gd_Bk_costOf_6 rfl (lv_at hl 1 rfl) ?_
  refine va_get (D := D) (ci := 0) (C := gR_Bk) (T := gT_Bk) (N := 5) hx hb hts (fun w h => List.mem_cons_of_mem _ (gl_Bk w h)) hown hK (gq_one (c := 0) (k := 0) hH rfl (gk_c0 cI cT ad z1.2)) 0 rfl rfl 2 (by decide) (ht _ gt_87) (fun _ h9 => h9) rfl gd_Bk_costOf_7 ?_
  refine lv_iload_n hx hb gd_Bk_costOf_10 rfl (lv_at hl 2 rfl) ?_
  obtain ⟨z3, hc4, hf⟩ := Option.bind_eq_some_iff.mp hf
  refine gq_calli (va_runV (As := [.int p1]) (rest := []) ⟨hx, hb, hml, hown, hts⟩ (ct_Lv_startOf l D cI cT ad hI z1.2 p1 z3 hc4) (cwV 1 hts (gt_V gt_338 gt_339 gt_340 gt_4 gt_341) rfl rfl rfl (by decide +kernel) ⟨Nat.le_of_ble_eq_true rfl, Nat.le_of_ble_eq_true rfl⟩) (gq_preV hH hK hN (va_recv hK (gq_one (c := 2) (k := 0) hH rfl (gk_c2 cI cT ad z1.2)) (ci := 1) (q0 := 0) rfl rfl)) rfl rfl hl.1 rfl (lv_room (Nat.le_of_ble_eq_true rfl)) gd_Bk_costOf_11 ⟨Nat.zero_le _, Nat.zero_le _⟩) hA hS (fun H locs hH hS => ?_)
  refine lv_istore_n (lv' := [(3, .int z3.1), (2, .int z1.1), (0, .ref (ad 0 0)), (1, .int p1)]) hx hb gd_Bk_costOf_14 rfl hl (by decide) rfl (fun ls hl => ?_)
  refine lv_iload_n hx hb gd_Bk_costOf_15 rfl (lv_at hl 0 rfl) ?_
  refine lv_aload_n hx hb gd_Bk_costOf_16 rfl (lv_at hl 2 rfl) ?_
  refine va_get (D := D) (ci := 0) (C := gR_Bk) (T := gT_Bk) (N := 5) hx hb hts (fun w h => List.mem_cons_of_mem _ (gl_Bk w h)) hown hK (gq_one (c := 0) (k := 0) hH rfl (gk_c0 cI cT ad z3.2)) 0 rfl rfl 2 (by decide) (ht _ gt_87) (fun _ h9 => h9) rfl gd_Bk_costOf_17 ?_
  refine lv_iload_n hx hb gd_Bk_costOf_20 rfl (lv_at hl 3 rfl) ?_
  obtain ⟨z5, hc6, hf⟩ := Option.bind_eq_some_iff.mp hf
  refine gq_calli (va_runV (As := [.int p1]) (rest := [.int z3.1]) ⟨hx, hb, hml, hown, hts⟩ (ct_Lv_sizeOf l D cI cT ad hI z3.2 p1 z5 hc6) (cwV 1 hts (gt_V gt_333 gt_194 gt_195 gt_4 gt_196) rfl rfl rfl (by decide +kernel) ⟨Nat.le_of_ble_eq_true rfl, Nat.le_of_ble_eq_true rfl⟩) (gq_preV hH hK hN (va_recv hK (gq_one (c := 2) (k := 0) hH rfl (gk_c2 cI cT ad z3.2)) (ci := 1) (q0 := 0) rfl rfl)) rfl rfl hl.1 rfl (lv_room (Nat.le_of_ble_eq_true rfl)) gd_Bk_costOf_21 ⟨Nat.zero_le _, Nat.zero_le _⟩) hA hS (fun H locs hH hS => ?_)
  refine lv_iadd hx hb gd_Bk_costOf_24 ?_
  refine lv_istore (lv' := [(4, .int (z3.1 + z5.1)), (3, .int z3.1), (2, .int z1.1), (0, .ref (ad 0 0)), (1, .int p1)]) hx hb gd_Bk_costOf_25 hl (by decide) rfl (fun ls hl => ?_)
  refine lv_iload_n hx hb gd_Bk_costOf_27 rfl (lv_at hl 2 rfl) ?_
  refine lv_istore (lv' := [(5, .int z1.1), (4, .int (z3.1 + z5.1)), (3, .int z3.1), (2, .int z1.1), (0, .ref (ad 0 0)), (1, .int p1)]) hx hb gd_Bk_costOf_28 hl (by decide) rfl (fun ls hl => ?_)
  refine lv_iload_n hx hb gd_Bk_costOf_30 rfl (lv_at hl 2 rfl) ?_
  refine lv_istore (lv' := [(6, .int z3.1), (5, .int z1.1), (4, .int (z3.1 + z5.1)), (3, .int z3.1), (2, .int z1.1), (0, .ref (ad 0 0)), (1, .int p1)]) hx hb gd_Bk_costOf_31 hl (by decide) rfl (fun ls hl => ?_)
  exact L33 gk_fu p1 z1.1 z3.1 (z3.1 + z5.1) z1.1 z3.1 z5.2 _ _ _ hf hH hS (lv_sub hl [5, 6, 4, 3, 2, 1, 0] rfl)
set_option maxHeartbeats 4000000 in
set_option maxRecDepth 100000 in
theorem ct_Bk_leaf (l : Launch) (D : va_G) (cI cT : ClassId) (ad : Nat → Nat → Nat) (hI : gq_I gk_vd ad) (u : gk_St) (p1 : Int32) (p2 : Int32) (z : Int32 × gk_St) (hf : fn_Bk_leaf p1 p2 u = some z) : Met l gy_Bk_leaf gws_Bk_leaf ({ frames := 5, cells := 0, slots := 0, locals := 116 }) (va_Pc [.ref (ad 0 0), .int p1, .int p2] (gq_pre D gc_cl (gk_tys cI cT) gk_vd ad gk_NF gk_NM (gk_pc cI cT ad u))) (va_Qi (fun r u2 => r = z.1 ∧ u2 = z.2) (fun u2 t => gq_B D gc_cl (gk_tys cI cT) gk_vd ad (gk_pc cI cT ad u2) t) (gq_A gk_vd ad)) 0 0 (gq_A gk_vd ad) := by
  refine Met.ofW (cc := gb_Bk_leaf) (maxL := 3) (ret := (some .int)) (by decide) rfl ?_
  intro p e s m args below meth c s₁ B hml hv
  obtain ⟨rfl, hH, hK, hN⟩ := hv
  have hx := B.exec
  have hb := B.bytes
  have hr := B.returns
  have hts := atoms_spec (ws := gws_Bk_leaf) B.pre
  have ht := fun (w : Cond) (h : w ∈ gt_T) => hts w (List.mem_cons_of_mem _ h)
  have hown : s.vm.findClass gR_Bk = some m.cls := findClass_of_methodNamed B.named
  have hlocks := B.notSynchronized
  have hA : ∀ q, (gq_A gk_vd ad) q → (gq_A gk_vd ad) q := fun _ h => h
  have hS : va_S (gq_A gk_vd ad) s.heap s.heap [] := va_S.rf
  have hl := lv_entry ([.ref (ad 0 0), .int p1, .int p2]) (n := 3) (Nat.le_of_ble_eq_true rfl)
  rw [lg_entry_eq]
  generalize (lg_sl ([.ref (ad 0 0), .int p1, .int p2]) ++ List.replicate (3 - (lg_sl ([.ref (ad 0 0), .int p1, .int p2])).length) Slot.unset).toArray = ls at hl ⊢
  have hl : lv_has ls 3 [(0, .ref (ad 0 0)), (1, .int p1), (2, .int p2)] := hl
  unfold fn_Bk_leaf at hf
  refine lv_iload_n hx hb gd_Bk_leaf_0 rfl (lv_at hl 1 rfl) ?_
  refine lv_if_lt (tgt := 15) hx hb gd_Bk_leaf_1 (by decide) (fun c16 => ?_) (fun c16 => ?_)
  · replace hf := gj_t c16 hf
    refine lv_iconst (v := (-1)) hx hb gd_Bk_leaf_15 (by decide) ?_
    cases hf
    exact W.iret hx hb hr (fun t ht hW => ⟨⟨_, _, rfl, ⟨rfl, rfl⟩, ⟨by rw [ht]; exact hH, va_K.moved hW.alike hK⟩⟩, hS.F ht⟩) hS.2.2 gd_Bk_leaf_16
  · replace hf := gj_e c16 hf
    refine lv_iload_n hx hb gd_Bk_leaf_4 rfl (lv_at hl 1 rfl) ?_
    refine lv_aload_n hx hb gd_Bk_leaf_5 rfl (lv_at hl 0 rfl) ?_
    refine va_get (D := D) (ci := 0) (C := gR_Bk) (T := gT_Bk) (N := 5) hx hb hts (fun w h => List.mem_cons_of_mem _ (gl_Bk w h)) hown hK (gq_one (c := 0) (k := 0) hH rfl (gk_c0 cI cT ad u)) 0 rfl rfl 2 (by decide) (ht _ gt_87) (fun _ h9 => h9) rfl gd_Bk_leaf_6 ?_
    refine va_getN (D := D) (ci := 1) (C := gR_Lv) (T := gT_Lv) (N := 4) hx hb hts (fun w h => List.mem_cons_of_mem _ (gl_Lv w h)) hown hK (gq_one (c := 2) (k := 0) hH rfl (gk_c2 cI cT ad u)) 0 rfl rfl 3 (by decide) (va_Nw.use rfl (hN.1 _ (List.mem_of_getElem? (i := 6) rfl))) (fun _ h9 => h9) rfl gd_Bk_leaf_9 ?_
    refine lv_icmp_lt (tgt := 17) hx hb gd_Bk_leaf_12 (by decide) (fun c15 => ?_) (fun c15 => ?_)
    · replace hf := gj_t c15 hf
      refine lv_iload_n hx hb gd_Bk_leaf_17 rfl (lv_at hl 2 rfl) ?_
      by_cases c3 : p2 = 0
      · replace hf := gj_t c3 hf
        refine gj_tab (tgt := 48) (k := 0) hx hb c3 gd_Bk_leaf_18 (by decide) (by decide) rfl (by decide) ?_
        refine lv_aload_n hx hb gd_Bk_leaf_48 rfl (lv_at hl 0 rfl) ?_
        refine va_get (D := D) (ci := 0) (C := gR_Bk) (T := gT_Bk) (N := 5) hx hb hts (fun w h => List.mem_cons_of_mem _ (gl_Bk w h)) hown hK (gq_one (c := 0) (k := 0) hH rfl (gk_c0 cI cT ad u)) 0 rfl rfl 2 (by decide) (ht _ gt_87) (fun _ h9 => h9) rfl gd_Bk_leaf_49 ?_
        refine lv_iload_n hx hb gd_Bk_leaf_52 rfl (lv_at hl 1 rfl) ?_
        obtain ⟨z1, hc2, hf⟩ := Option.bind_eq_some_iff.mp hf
        refine gq_calli (va_runV (As := [.int p1]) (rest := []) ⟨hx, hb, hml, hown, hts⟩ (ct_Lv_sizeOf l D cI cT ad hI u p1 z1 hc2) (cwV 1 hts (gt_V gt_333 gt_194 gt_195 gt_4 gt_196) rfl rfl rfl (by decide +kernel) ⟨Nat.le_of_ble_eq_true rfl, Nat.le_of_ble_eq_true rfl⟩) (gq_preV hH hK hN (va_recv hK (gq_one (c := 2) (k := 0) hH rfl (gk_c2 cI cT ad u)) (ci := 1) (q0 := 0) rfl rfl)) rfl rfl hl.1 rfl (lv_room (Nat.le_of_ble_eq_true rfl)) gd_Bk_leaf_53 ⟨Nat.zero_le _, Nat.zero_le _⟩) hA hS (fun H locs hH hS => ?_)
        cases hf
        exact W.iret hx hb hr (fun t ht hW => ⟨⟨_, _, rfl, ⟨rfl, rfl⟩, ⟨by rw [ht]; exact hH, va_K.moved hW.alike hK⟩⟩, hS.F ht⟩) hS.2.2 gd_Bk_leaf_56
      replace hf := gj_e c3 hf
      by_cases c6 : p2 = 1
      · replace hf := gj_t c6 hf
        refine gj_tab (tgt := 57) (k := 1) hx hb c6 gd_Bk_leaf_18 (by decide) (by decide) rfl (by decide) ?_
        refine lv_aload_n hx hb gd_Bk_leaf_57 rfl (lv_at hl 0 rfl) ?_
        refine lv_iload_n hx hb gd_Bk_leaf_58 rfl (lv_at hl 1 rfl) ?_
        obtain ⟨z4, hc5, hf⟩ := Option.bind_eq_some_iff.mp hf
        refine gq_calli (va_runV (As := [.int p1]) (rest := []) ⟨hx, hb, hml, hown, hts⟩ (ct_Bk_sharedIn l D cI cT ad hI u p1 z4 hc5) (cwV 1 hts (gt_V gt_334 gt_336 (gt_sel (List.mem_of_getElem? (i := 18) rfl)) gt_1 gt_337) rfl rfl rfl (by decide +kernel) ⟨Nat.le_of_ble_eq_true rfl, Nat.le_of_ble_eq_true rfl⟩) (gq_preV hH hK hN (va_recv hK (gq_one (c := 0) (k := 0) hH rfl (gk_c0 cI cT ad u)) (ci := 0) (q0 := 0) rfl rfl)) rfl rfl hl.1 rfl (lv_room (Nat.le_of_ble_eq_true rfl)) gd_Bk_leaf_59 ⟨Nat.zero_le _, Nat.zero_le _⟩) hA hS (fun H locs hH hS => ?_)
        cases hf
        exact W.iret hx hb hr (fun t ht hW => ⟨⟨_, _, rfl, ⟨rfl, rfl⟩, ⟨by rw [ht]; exact hH, va_K.moved hW.alike hK⟩⟩, hS.F ht⟩) hS.2.2 gd_Bk_leaf_62
      replace hf := gj_e c6 hf
      by_cases c9 : p2 = 2
      · replace hf := gj_t c9 hf
        refine gj_tab (tgt := 63) (k := 2) hx hb c9 gd_Bk_leaf_18 (by decide) (by decide) rfl (by decide) ?_
        refine lv_aload_n hx hb gd_Bk_leaf_63 rfl (lv_at hl 0 rfl) ?_
        refine lv_iload_n hx hb gd_Bk_leaf_64 rfl (lv_at hl 1 rfl) ?_
        obtain ⟨z7, hc8, hf⟩ := Option.bind_eq_some_iff.mp hf
        refine gq_calli (va_runV (As := [.int p1]) (rest := []) ⟨hx, hb, hml, hown, hts⟩ (ct_Bk_costOf l D cI cT ad hI u p1 z7 hc8) (cwV 1 hts (gt_V gt_343 gt_345 (gt_sel (List.mem_of_getElem? (i := 19) rfl)) gt_1 gt_346) rfl rfl rfl (by decide +kernel) ⟨Nat.le_of_ble_eq_true rfl, Nat.le_of_ble_eq_true rfl⟩) (gq_preV hH hK hN (va_recv hK (gq_one (c := 0) (k := 0) hH rfl (gk_c0 cI cT ad u)) (ci := 0) (q0 := 0) rfl rfl)) rfl rfl hl.1 rfl (lv_room (Nat.le_of_ble_eq_true rfl)) gd_Bk_leaf_65 ⟨Nat.zero_le _, Nat.zero_le _⟩) hA hS (fun H locs hH hS => ?_)
        cases hf
        exact W.iret hx hb hr (fun t ht hW => ⟨⟨_, _, rfl, ⟨rfl, rfl⟩, ⟨by rw [ht]; exact hH, va_K.moved hW.alike hK⟩⟩, hS.F ht⟩) hS.2.2 gd_Bk_leaf_68
      replace hf := gj_e c9 hf
      by_cases c14 : p2 = 3
      · replace hf := gj_t c14 hf
        refine gj_tab (tgt := 69) (k := 3) hx hb c14 gd_Bk_leaf_18 (by decide) (by decide) rfl (by decide) ?_
        refine lv_aload_n hx hb gd_Bk_leaf_69 rfl (lv_at hl 0 rfl) ?_
        refine va_get (D := D) (ci := 0) (C := gR_Bk) (T := gT_Bk) (N := 5) hx hb hts (fun w h => List.mem_cons_of_mem _ (gl_Bk w h)) hown hK (gq_one (c := 0) (k := 0) hH rfl (gk_c0 cI cT ad u)) 0 rfl rfl 2 (by decide) (ht _ gt_87) (fun _ h9 => h9) rfl gd_Bk_leaf_70 ?_
        refine lv_aload_n hx hb gd_Bk_leaf_73 rfl (lv_at hl 0 rfl) ?_
        refine va_get (D := D) (ci := 0) (C := gR_Bk) (T := gT_Bk) (N := 5) hx hb hts (fun w h => List.mem_cons_of_mem _ (gl_Bk w h)) hown hK (gq_one (c := 0) (k := 0) hH rfl (gk_c0 cI cT ad u)) 0 rfl rfl 2 (by decide) (ht _ gt_87) (fun _ h9 => h9) rfl gd_Bk_leaf_74 ?_
        refine lv_iload_n hx hb gd_Bk_leaf_77 rfl (lv_at hl 1 rfl) ?_
        obtain ⟨z10, hc11, hf⟩ := Option.bind_eq_some_iff.mp hf
        refine gq_calli (va_runV (As := [.int p1]) (rest := [.ref (ad 2 0)]) ⟨hx, hb, hml, hown, hts⟩ (ct_Lv_startOf l D cI cT ad hI u p1 z10 hc11) (cwV 1 hts (gt_V gt_338 gt_339 gt_340 gt_4 gt_341) rfl rfl rfl (by decide +kernel) ⟨Nat.le_of_ble_eq_true rfl, Nat.le_of_ble_eq_true rfl⟩) (gq_preV hH hK hN (va_recv hK (gq_one (c := 2) (k := 0) hH rfl (gk_c2 cI cT ad u)) (ci := 1) (q0 := 0) rfl rfl)) rfl rfl hl.1 rfl (lv_room (Nat.le_of_ble_eq_true rfl)) gd_Bk_leaf_78 ⟨Nat.zero_le _, Nat.zero_le _⟩) hA hS (fun H locs hH hS => ?_)
        obtain ⟨z12, hc13, hf⟩ := Option.bind_eq_some_iff.mp hf
        refine gq_calli (va_runV (As := [.int z10.1]) (rest := []) ⟨hx, hb, hml, hown, hts⟩ (ct_Lv_numberAt l D cI cT ad hI z10.2 z10.1 z12 hc13) (cwV 1 hts (gt_V gt_139 gt_140 gt_141 gt_4 gt_142) rfl rfl rfl (by decide +kernel) ⟨Nat.le_of_ble_eq_true rfl, Nat.le_of_ble_eq_true rfl⟩) (gq_preV hH hK hN (va_recv hK (gq_one (c := 2) (k := 0) hH rfl (gk_c2 cI cT ad z10.2)) (ci := 1) (q0 := 0) rfl rfl)) rfl rfl hl.1 rfl (lv_room (Nat.le_of_ble_eq_true rfl)) gd_Bk_leaf_81 ⟨Nat.zero_le _, Nat.zero_le _⟩) hA hS (fun H locs hH hS => ?_)
        cases hf
        exact W.iret hx hb hr (fun t ht hW => ⟨⟨_, _, rfl, ⟨rfl, rfl⟩, ⟨by rw [ht]; exact hH, va_K.moved hW.alike hK⟩⟩, hS.F ht⟩) hS.2.2 gd_Bk_leaf_84
      replace hf := gj_e c14 hf
      refine lv_tableOut (tgt := 85) hx hb gd_Bk_leaf_18 (by have ec3 := lv_neT (a := 0) c3 rfl; have ec6 := lv_neT (a := 1) c6 rfl; have ec9 := lv_neT (a := 2) c9 rfl; have ec14 := lv_neT (a := 3) c14 rfl; omega) (by decide) ?_
      refine lv_iconst (v := (-1)) hx hb gd_Bk_leaf_85 (by decide) ?_
      cases hf
      exact W.iret hx hb hr (fun t ht hW => ⟨⟨_, _, rfl, ⟨rfl, rfl⟩, ⟨by rw [ht]; exact hH, va_K.moved hW.alike hK⟩⟩, hS.F ht⟩) hS.2.2 gd_Bk_leaf_86
    · replace hf := gj_e c15 hf
      refine lv_iconst (v := (-1)) hx hb gd_Bk_leaf_15 (by decide) ?_
      cases hf
      exact W.iret hx hb hr (fun t ht hW => ⟨⟨_, _, rfl, ⟨rfl, rfl⟩, ⟨by rw [ht]; exact hH, va_K.moved hW.alike hK⟩⟩, hS.F ht⟩) hS.2.2 gd_Bk_leaf_16
set_option maxHeartbeats 4000000 in
set_option maxRecDepth 100000 in
theorem ct_Bk_countKeptVersions (l : Launch) (D : va_G) (cI cT : ClassId) (ad : Nat → Nat → Nat) (hI : gq_I gk_vd ad) (u : gk_St)  (z : Int32 × gk_St) (hf : fn_Bk_countKeptVersions u = some z) : Met l gy_Bk_countKeptVersions gws_Bk_countKeptVersions ({ frames := 0, cells := 0, slots := 0, locals := 0 }) (va_Pc [.ref (ad 0 0)] (gq_pre D gc_cl (gk_tys cI cT) gk_vd ad gk_NF gk_NM (gk_pc cI cT ad u))) (va_Qi (fun r u2 => r = z.1 ∧ u2 = z.2) (fun u2 t => gq_B D gc_cl (gk_tys cI cT) gk_vd ad (gk_pc cI cT ad u2) t) (gq_A gk_vd ad)) 0 0 (gq_A gk_vd ad) := by
  refine Met.ofW (cc := gb_Bk_countKeptVersions) (maxL := 3) (ret := (some .int)) (by decide) rfl ?_
  intro p e s m args below meth c s₁ B hml hv
  obtain ⟨rfl, hH, hK, hN⟩ := hv
  have hx := B.exec
  have hb := B.bytes
  have hr := B.returns
  have hts := atoms_spec (ws := gws_Bk_countKeptVersions) B.pre
  have ht := fun (w : Cond) (h : w ∈ gt_T) => hts w (List.mem_cons_of_mem _ h)
  have hown : s.vm.findClass gR_Bk = some m.cls := findClass_of_methodNamed B.named
  have hlocks := B.notSynchronized
  have hA : ∀ q, (gq_A gk_vd ad) q → (gq_A gk_vd ad) q := fun _ h => h
  have hS : va_S (gq_A gk_vd ad) s.heap s.heap [] := va_S.rf
  have hl := lv_entry ([.ref (ad 0 0)]) (n := 3) (Nat.le_of_ble_eq_true rfl)
  rw [lg_entry_eq]
  generalize (lg_sl ([.ref (ad 0 0)]) ++ List.replicate (3 - (lg_sl ([.ref (ad 0 0)])).length) Slot.unset).toArray = ls at hl ⊢
  have hl : lv_has ls 3 [(0, .ref (ad 0 0))] := hl
  have L4 : ∀ (n : Nat) (x1 : Int32) (x2 : Int32) (u : gk_St) (H : Heap) (locs : List Loc) (ls : Array Slot), fn_Bk_countKeptVersions_4 n x1 x2 u = some z → gq_H D gc_cl gk_vd ad (gk_pc cI cT ad u) H → va_S (gq_A gk_vd ad) s.heap H locs → lv_has ls 3 [(0, .ref (ad 0 0)), (1, .int x1), (2, .int x2)] → W p l e (headSpec gws_Bk_countKeptVersions ({ frames := 0, cells := 0, slots := 0, locals := 0 })).room s m ([.ref (ad 0 0)] : List Value).toArray below meth c H locs 0 0 (MQ below (va_Qi (fun r u2 => r = z.1 ∧ u2 = z.2) (fun u2 t => gq_B D gc_cl (gk_tys cI cT) gk_vd ad (gk_pc cI cT ad u2) t) (gq_A gk_vd ad)) ([.ref (ad 0 0)] : List Value).toArray s 0 0 (gq_A gk_vd ad)) (F0 m 4 ls []) := by
    intro n
    induction n with
    | zero =>
      intro x1 x2 u H locs ls hf
      have h0 : none = some z := hf
      cases h0
    | succ n ih =>
      intro x1 x2 u H locs ls hf hH hS hl
      rw [fn_Bk_countKeptVersions_4] at hf
      refine lv_iload_n hx hb gd_Bk_countKeptVersions_4 rfl (lv_at hl 2 rfl) ?_
      refine lv_aload_n hx hb gd_Bk_countKeptVersions_5 rfl (lv_at hl 0 rfl) ?_
      refine va_get (D := D) (ci := 0) (C := gR_Bk) (T := gT_Bk) (N := 5) hx hb hts (fun w h => List.mem_cons_of_mem _ (gl_Bk w h)) hown hK (gq_one (c := 0) (k := 0) hH rfl (gk_c0 cI cT ad u)) 0 rfl rfl 3 (by decide) (ht _ gt_88) (fun _ h9 => h9) rfl gd_Bk_countKeptVersions_6 ?_
      refine va_alen (D := D) (v := 6) hx hb hK (gq_one (c := 5) (k := 0) hH rfl (gk_c5 cI cT ad u)) 0 0 rfl rfl rfl gd_Bk_countKeptVersions_9 ?_
      refine lv_icmp_ge (tgt := 32) hx hb gd_Bk_countKeptVersions_10 (by decide) (fun c3 => ?_) (fun c3 => ?_)
      · replace hf := gj_t c3 hf
        refine lv_iload_n hx hb gd_Bk_countKeptVersions_32 rfl (lv_at hl 1 rfl) ?_
        cases hf
        exact W.iret hx hb hr (fun t ht hW => ⟨⟨_, _, rfl, ⟨rfl, rfl⟩, ⟨by rw [ht]; exact hH, va_K.moved hW.alike hK⟩⟩, hS.F ht⟩) hS.2.2 gd_Bk_countKeptVersions_33
      · replace hf := gj_e c3 hf
        refine lv_aload_n hx hb gd_Bk_countKeptVersions_13 rfl (lv_at hl 0 rfl) ?_
        refine va_get (D := D) (ci := 0) (C := gR_Bk) (T := gT_Bk) (N := 5) hx hb hts (fun w h => List.mem_cons_of_mem _ (gl_Bk w h)) hown hK (gq_one (c := 0) (k := 0) hH rfl (gk_c0 cI cT ad u)) 0 rfl rfl 3 (by decide) (ht _ gt_88) (fun _ h9 => h9) rfl gd_Bk_countKeptVersions_14 ?_
        refine lv_iload_n hx hb gd_Bk_countKeptVersions_17 rfl (lv_at hl 2 rfl) ?_
        obtain ⟨hg1, hf⟩ := gj_g hf
        refine va_iald (D := D) hx hb hK (gq_one (c := 5) (k := 0) hH rfl (gk_c5 cI cT ad u)) 0 0 rfl rfl hg1 gd_Bk_countKeptVersions_18 ?_
        refine lv_iconst (v := (-1)) hx hb gd_Bk_countKeptVersions_19 (by decide) ?_
        refine lv_icmp_eq (tgt := 26) hx hb gd_Bk_countKeptVersions_20 (by decide) (fun c2 => ?_) (fun c2 => ?_)
        · replace hf := gj_t c2 hf
          refine lv_iinc (v := x2 + 1) (lv' := [(2, .int (x2 + 1)), (0, .ref (ad 0 0)), (1, .int x1)]) hx hb gd_Bk_countKeptVersions_26 hl (k := 2) rfl rfl (by decide) rfl (fun ls hl => ?_)
          refine lv_goto (tgt := 4) hx hb gd_Bk_countKeptVersions_29 (by decide) ?_
          exact ih x1 (x2 + 1) u _ _ _ hf hH hS (lv_sub hl [1, 2, 0] rfl)
        · replace hf := gj_e c2 hf
          refine lv_iinc (v := x1 + 1) (lv' := [(1, .int (x1 + 1)), (0, .ref (ad 0 0)), (2, .int x2)]) hx hb gd_Bk_countKeptVersions_23 hl (k := 1) rfl rfl (by decide) rfl (fun ls hl => ?_)
          refine lv_iinc (v := x2 + 1) (lv' := [(2, .int (x2 + 1)), (1, .int (x1 + 1)), (0, .ref (ad 0 0))]) hx hb gd_Bk_countKeptVersions_26 hl (k := 2) rfl rfl (by decide) rfl (fun ls hl => ?_)
          refine lv_goto (tgt := 4) hx hb gd_Bk_countKeptVersions_29 (by decide) ?_
          exact ih (x1 + 1) (x2 + 1) u _ _ _ hf hH hS (lv_sub hl [2, 1, 0] rfl)
  unfold fn_Bk_countKeptVersions at hf
  refine lv_iconst (v := 0) hx hb gd_Bk_countKeptVersions_0 (by decide) ?_
  refine lv_istore_n (lv' := [(1, .int 0), (0, .ref (ad 0 0))]) hx hb gd_Bk_countKeptVersions_1 rfl hl (by decide) rfl (fun ls hl => ?_)
  refine lv_iconst (v := 0) hx hb gd_Bk_countKeptVersions_2 (by decide) ?_
  refine lv_istore_n (lv' := [(2, .int 0), (1, .int 0), (0, .ref (ad 0 0))]) hx hb gd_Bk_countKeptVersions_3 rfl hl (by decide) rfl (fun ls hl => ?_)
  exact L4 gk_fu 0 0 u _ _ _ hf hH hS (lv_sub hl [2, 1, 0] rfl)
set_option maxHeartbeats 4000000 in
set_option maxRecDepth 100000 in
theorem ct_Bk_countUnused (l : Launch) (D : va_G) (cI cT : ClassId) (ad : Nat → Nat → Nat) (hI : gq_I gk_vd ad) (u : gk_St)  (z : Int32 × gk_St) (hf : fn_Bk_countUnused u = some z) : Met l gy_Bk_countUnused gws_Bk_countUnused ({ frames := 1, cells := 0, slots := 0, locals := 22 }) (va_Pc [.ref (ad 0 0)] (gq_pre D gc_cl (gk_tys cI cT) gk_vd ad gk_NF gk_NM (gk_pc cI cT ad u))) (va_Qi (fun r u2 => r = z.1 ∧ u2 = z.2) (fun u2 t => gq_B D gc_cl (gk_tys cI cT) gk_vd ad (gk_pc cI cT ad u2) t) (gq_A gk_vd ad)) 0 0 (gq_A gk_vd ad) := by
  refine Met.ofW (cc := gb_Bk_countUnused) (maxL := 4) (ret := (some .int)) (by decide) rfl ?_
  intro p e s m args below meth c s₁ B hml hv
  obtain ⟨rfl, hH, hK, hN⟩ := hv
  have hx := B.exec
  have hb := B.bytes
  have hr := B.returns
  have hts := atoms_spec (ws := gws_Bk_countUnused) B.pre
  have ht := fun (w : Cond) (h : w ∈ gt_T) => hts w (List.mem_cons_of_mem _ h)
  have hown : s.vm.findClass gR_Bk = some m.cls := findClass_of_methodNamed B.named
  have hlocks := B.notSynchronized
  have hA : ∀ q, (gq_A gk_vd ad) q → (gq_A gk_vd ad) q := fun _ h => h
  have hS : va_S (gq_A gk_vd ad) s.heap s.heap [] := va_S.rf
  have hl := lv_entry ([.ref (ad 0 0)]) (n := 4) (Nat.le_of_ble_eq_true rfl)
  rw [lg_entry_eq]
  generalize (lg_sl ([.ref (ad 0 0)]) ++ List.replicate (4 - (lg_sl ([.ref (ad 0 0)])).length) Slot.unset).toArray = ls at hl ⊢
  have hl : lv_has ls 4 [(0, .ref (ad 0 0))] := hl
  have L4 : ∀ (n : Nat) (x1 : Int32) (x2 : Int32) (u : gk_St) (H : Heap) (locs : List Loc) (ls : Array Slot), fn_Bk_countUnused_4 n x1 x2 u = some z → gq_H D gc_cl gk_vd ad (gk_pc cI cT ad u) H → va_S (gq_A gk_vd ad) s.heap H locs → lv_has ls 4 [(0, .ref (ad 0 0)), (1, .int x1), (2, .int x2)] → W p l e (headSpec gws_Bk_countUnused ({ frames := 1, cells := 0, slots := 0, locals := 22 })).room s m ([.ref (ad 0 0)] : List Value).toArray below meth c H locs 0 0 (MQ below (va_Qi (fun r u2 => r = z.1 ∧ u2 = z.2) (fun u2 t => gq_B D gc_cl (gk_tys cI cT) gk_vd ad (gk_pc cI cT ad u2) t) (gq_A gk_vd ad)) ([.ref (ad 0 0)] : List Value).toArray s 0 0 (gq_A gk_vd ad)) (F0 m 4 ls []) := by
    intro n
    induction n with
    | zero =>
      intro x1 x2 u H locs ls hf
      have h0 : none = some z := hf
      cases h0
    | succ n ih =>
      intro x1 x2 u H locs ls hf hH hS hl
      rw [fn_Bk_countUnused_4] at hf
      refine lv_iload_n hx hb gd_Bk_countUnused_4 rfl (lv_at hl 2 rfl) ?_
      refine lv_bipush (v := 100) hx hb gd_Bk_countUnused_5 (by decide) ?_
      refine lv_icmp_ge (tgt := 36) hx hb gd_Bk_countUnused_7 (by decide) (fun c7 => ?_) (fun c7 => ?_)
      · replace hf := gj_t c7 hf
        refine lv_iload_n hx hb gd_Bk_countUnused_36 rfl (lv_at hl 1 rfl) ?_
        cases hf
        exact W.iret hx hb hr (fun t ht hW => ⟨⟨_, _, rfl, ⟨rfl, rfl⟩, ⟨by rw [ht]; exact hH, va_K.moved hW.alike hK⟩⟩, hS.F ht⟩) hS.2.2 gd_Bk_countUnused_37
      · replace hf := gj_e c7 hf
        refine lv_aload_n hx hb gd_Bk_countUnused_10 rfl (lv_at hl 0 rfl) ?_
        refine lv_iload_n hx hb gd_Bk_countUnused_11 rfl (lv_at hl 2 rfl) ?_
        obtain ⟨⟨o3, u4⟩, hc2, hf⟩ := Option.bind_eq_some_iff.mp hf
        refine gq_calle (va_runV (As := [.int x2]) (rest := []) ⟨hx, hb, hml, hown, hts⟩ (ct_Bk_inBook l D cI cT ad hI u x2 (o3, u4) hc2) (cwV 1 hts (gt_V gt_147 gt_149 (gt_sel (List.mem_of_getElem? (i := 3) rfl)) gt_1 gt_150) rfl rfl rfl (by decide +kernel) ⟨Nat.le_of_ble_eq_true rfl, Nat.le_of_ble_eq_true rfl⟩) (gq_preV hH hK hN (va_recv hK (gq_one (c := 0) (k := 0) hH rfl (gk_c0 cI cT ad u)) (ci := 0) (q0 := 0) rfl rfl)) rfl rfl hl.1 rfl (lv_room (Nat.le_of_ble_eq_true rfl)) gd_Bk_countUnused_12 ⟨Nat.zero_le _, Nat.zero_le _⟩) hA hS (fun H locs hH hS => ?_)
        cases o3 with
        | none =>
          have hH : gq_H D gc_cl gk_vd ad (gk_pc cI cT ad u4) H := hH
          refine W.eq (g2 := F0 m 15 ls [.null]) rfl ?_
          dsimp only at hf
          refine lv_astore_nN (lv' := [(3, .null), (0, .ref (ad 0 0)), (1, .int x1), (2, .int x2)]) hx hb gd_Bk_countUnused_15 rfl hl (by decide) rfl (fun ls hl => ?_)
          refine lv_aload_nN hx hb gd_Bk_countUnused_16 rfl (lv_at hl 0 rfl) ?_
          refine lv_ifnullN (tgt := 30) hx hb gd_Bk_countUnused_17 (by decide) ?_
          refine lv_iinc (v := x2 + 1) (lv' := [(2, .int (x2 + 1)), (3, .null), (0, .ref (ad 0 0)), (1, .int x1)]) hx hb gd_Bk_countUnused_30 hl (k := 3) rfl rfl (by decide) rfl (fun ls hl => ?_)
          refine lv_goto (tgt := 4) hx hb gd_Bk_countUnused_33 (by decide) ?_
          exact ih x1 (x2 + 1) u4 _ _ _ hf hH hS (lv_sub hl [2, 3, 0] rfl)
        | some k5 =>
          have hH : gq_H D gc_cl gk_vd ad (gk_pc cI cT ad u4) H := hH
          refine W.eq (g2 := F0 m 15 ls [.ref (ad 7 k5)]) rfl ?_
          dsimp only at hf
          refine lv_astore_n (lv' := [(3, .ref (ad 7 k5)), (0, .ref (ad 0 0)), (1, .int x1), (2, .int x2)]) hx hb gd_Bk_countUnused_15 rfl hl (by decide) rfl (fun ls hl => ?_)
          refine lv_aload_n hx hb gd_Bk_countUnused_16 rfl (lv_at hl 0 rfl) ?_
          refine lv_ifnull hx hb gd_Bk_countUnused_17 ?_
          refine lv_aload_n hx hb gd_Bk_countUnused_20 rfl (lv_at hl 0 rfl) ?_
          refine va_getN (D := D) (ci := 3) (C := gR_Tm) (T := gT_Tm) (N := 5) hx hb hts (fun w h => List.mem_cons_of_mem _ (gl_Tm w h)) hown hK (gq_one (c := 7) (k := k5) hH (ok_Bk_inBook hc2) (gk_c7 cI cT ad u4 k5)) 0 rfl rfl 3 (by decide) (va_Nw.use rfl (hN.1 _ (List.mem_of_getElem? (i := 4) rfl))) (fun _ h9 => h9) rfl gd_Bk_countUnused_21 ?_
          refine lv_if_ne (tgt := 30) hx hb gd_Bk_countUnused_24 (by decide) (fun c6 => ?_) (fun c6 => ?_)
          · replace hf := gj_e c6 hf
            refine lv_iinc (v := x2 + 1) (lv' := [(2, .int (x2 + 1)), (3, .ref (ad 7 k5)), (0, .ref (ad 0 0)), (1, .int x1)]) hx hb gd_Bk_countUnused_30 hl (k := 3) rfl rfl (by decide) rfl (fun ls hl => ?_)
            refine lv_goto (tgt := 4) hx hb gd_Bk_countUnused_33 (by decide) ?_
            exact ih x1 (x2 + 1) u4 _ _ _ hf hH hS (lv_sub hl [2, 3, 0] rfl)
          · replace hf := gj_t c6 hf
            refine lv_iinc (v := x1 + 1) (lv' := [(1, .int (x1 + 1)), (3, .ref (ad 7 k5)), (0, .ref (ad 0 0)), (2, .int x2)]) hx hb gd_Bk_countUnused_27 hl (k := 2) rfl rfl (by decide) rfl (fun ls hl => ?_)
            refine lv_iinc (v := x2 + 1) (lv' := [(2, .int (x2 + 1)), (1, .int (x1 + 1)), (3, .ref (ad 7 k5)), (0, .ref (ad 0 0))]) hx hb gd_Bk_countUnused_30 hl (k := 3) rfl rfl (by decide) rfl (fun ls hl => ?_)
            refine lv_goto (tgt := 4) hx hb gd_Bk_countUnused_33 (by decide) ?_
            exact ih (x1 + 1) (x2 + 1) u4 _ _ _ hf hH hS (lv_sub hl [3, 1, 0] rfl)
  unfold fn_Bk_countUnused at hf
  refine lv_iconst (v := 0) hx hb gd_Bk_countUnused_0 (by decide) ?_
  refine lv_istore_n (lv' := [(1, .int 0), (0, .ref (ad 0 0))]) hx hb gd_Bk_countUnused_1 rfl hl (by decide) rfl (fun ls hl => ?_)
  refine lv_iconst (v := 0) hx hb gd_Bk_countUnused_2 (by decide) ?_
  refine lv_istore_n (lv' := [(2, .int 0), (1, .int 0), (0, .ref (ad 0 0))]) hx hb gd_Bk_countUnused_3 rfl hl (by decide) rfl (fun ls hl => ?_)
  exact L4 gk_fu 0 0 u _ _ _ hf hH hS (lv_sub hl [2, 1, 0] rfl)
set_option maxHeartbeats 4000000 in
set_option maxRecDepth 100000 in
theorem ct_Bk_costOfAll (l : Launch) (D : va_G) (cI cT : ClassId) (ad : Nat → Nat → Nat) (hI : gq_I gk_vd ad) (u : gk_St)  (z : Int32 × gk_St) (hf : fn_Bk_costOfAll u = some z) : Met l gy_Bk_costOfAll gws_Bk_costOfAll ({ frames := 5, cells := 0, slots := 0, locals := 116 }) (va_Pc [.ref (ad 0 0)] (gq_pre D gc_cl (gk_tys cI cT) gk_vd ad gk_NF gk_NM (gk_pc cI cT ad u))) (va_Qi (fun r u2 => r = z.1 ∧ u2 = z.2) (fun u2 t => gq_B D gc_cl (gk_tys cI cT) gk_vd ad (gk_pc cI cT ad u2) t) (gq_A gk_vd ad)) 0 0 (gq_A gk_vd ad) := by
  refine Met.ofW (cc := gb_Bk_costOfAll) (maxL := 3) (ret := (some .int)) (by decide) rfl ?_
  intro p e s m args below meth c s₁ B hml hv
  obtain ⟨rfl, hH, hK, hN⟩ := hv
  have hx := B.exec
  have hb := B.bytes
  have hr := B.returns
  have hts := atoms_spec (ws := gws_Bk_costOfAll) B.pre
  have ht := fun (w : Cond) (h : w ∈ gt_T) => hts w (List.mem_cons_of_mem _ h)
  have hown : s.vm.findClass gR_Bk = some m.cls := findClass_of_methodNamed B.named
  have hlocks := B.notSynchronized
  have hA : ∀ q, (gq_A gk_vd ad) q → (gq_A gk_vd ad) q := fun _ h => h
  have hS : va_S (gq_A gk_vd ad) s.heap s.heap [] := va_S.rf
  have hl := lv_entry ([.ref (ad 0 0)]) (n := 3) (Nat.le_of_ble_eq_true rfl)
  rw [lg_entry_eq]
  generalize (lg_sl ([.ref (ad 0 0)]) ++ List.replicate (3 - (lg_sl ([.ref (ad 0 0)])).length) Slot.unset).toArray = ls at hl ⊢
  have hl : lv_has ls 3 [(0, .ref (ad 0 0))] := hl
  have L4 : ∀ (n : Nat) (x1 : Int32) (x2 : Int32) (u : gk_St) (H : Heap) (locs : List Loc) (ls : Array Slot), fn_Bk_costOfAll_4 n x1 x2 u = some z → gq_H D gc_cl gk_vd ad (gk_pc cI cT ad u) H → va_S (gq_A gk_vd ad) s.heap H locs → lv_has ls 3 [(0, .ref (ad 0 0)), (1, .int x1), (2, .int x2)] → W p l e (headSpec gws_Bk_costOfAll ({ frames := 5, cells := 0, slots := 0, locals := 116 })).room s m ([.ref (ad 0 0)] : List Value).toArray below meth c H locs 0 0 (MQ below (va_Qi (fun r u2 => r = z.1 ∧ u2 = z.2) (fun u2 t => gq_B D gc_cl (gk_tys cI cT) gk_vd ad (gk_pc cI cT ad u2) t) (gq_A gk_vd ad)) ([.ref (ad 0 0)] : List Value).toArray s 0 0 (gq_A gk_vd ad)) (F0 m 4 ls []) := by
    intro n
    induction n with
    | zero =>
      intro x1 x2 u H locs ls hf
      have h0 : none = some z := hf
      cases h0
    | succ n ih =>
      intro x1 x2 u H locs ls hf hH hS hl
      rw [fn_Bk_costOfAll_4] at hf
      refine lv_iload_n hx hb gd_Bk_costOfAll_4 rfl (lv_at hl 2 rfl) ?_
      refine lv_aload_n hx hb gd_Bk_costOfAll_5 rfl (lv_at hl 0 rfl) ?_
      refine va_get (D := D) (ci := 0) (C := gR_Bk) (T := gT_Bk) (N := 5) hx hb hts (fun w h => List.mem_cons_of_mem _ (gl_Bk w h)) hown hK (gq_one (c := 0) (k := 0) hH rfl (gk_c0 cI cT ad u)) 0 rfl rfl 2 (by decide) (ht _ gt_87) (fun _ h9 => h9) rfl gd_Bk_costOfAll_6 ?_
      refine va_getN (D := D) (ci := 1) (C := gR_Lv) (T := gT_Lv) (N := 4) hx hb hts (fun w h => List.mem_cons_of_mem _ (gl_Lv w h)) hown hK (gq_one (c := 2) (k := 0) hH rfl (gk_c2 cI cT ad u)) 0 rfl rfl 3 (by decide) (va_Nw.use rfl (hN.1 _ (List.mem_of_getElem? (i := 6) rfl))) (fun _ h9 => h9) rfl gd_Bk_costOfAll_9 ?_
      refine lv_icmp_ge (tgt := 29) hx hb gd_Bk_costOfAll_12 (by decide) (fun c3 => ?_) (fun c3 => ?_)
      · replace hf := gj_t c3 hf
        refine lv_iload_n hx hb gd_Bk_costOfAll_29 rfl (lv_at hl 1 rfl) ?_
        cases hf
        exact W.iret hx hb hr (fun t ht hW => ⟨⟨_, _, rfl, ⟨rfl, rfl⟩, ⟨by rw [ht]; exact hH, va_K.moved hW.alike hK⟩⟩, hS.F ht⟩) hS.2.2 gd_Bk_costOfAll_30
      · replace hf := gj_e c3 hf
        refine lv_iload_n hx hb gd_Bk_costOfAll_15 rfl (lv_at hl 1 rfl) ?_
        refine lv_aload_n hx hb gd_Bk_costOfAll_16 rfl (lv_at hl 0 rfl) ?_
        refine lv_iload_n hx hb gd_Bk_costOfAll_17 rfl (lv_at hl 2 rfl) ?_
        obtain ⟨z1, hc2, hf⟩ := Option.bind_eq_some_iff.mp hf
        refine gq_calli (va_runV (As := [.int x2]) (rest := [.int x1]) ⟨hx, hb, hml, hown, hts⟩ (ct_Bk_costOf l D cI cT ad hI u x2 z1 hc2) (cwV 1 hts (gt_V gt_343 gt_345 (gt_sel (List.mem_of_getElem? (i := 19) rfl)) gt_1 gt_346) rfl rfl rfl (by decide +kernel) ⟨Nat.le_of_ble_eq_true rfl, Nat.le_of_ble_eq_true rfl⟩) (gq_preV hH hK hN (va_recv hK (gq_one (c := 0) (k := 0) hH rfl (gk_c0 cI cT ad u)) (ci := 0) (q0 := 0) rfl rfl)) rfl rfl hl.1 rfl (lv_room (Nat.le_of_ble_eq_true rfl)) gd_Bk_costOfAll_18 ⟨Nat.zero_le _, Nat.zero_le _⟩) hA hS (fun H locs hH hS => ?_)
        refine lv_iadd hx hb gd_Bk_costOfAll_21 ?_
        refine lv_istore_n (lv' := [(1, .int (x1 + z1.1)), (0, .ref (ad 0 0)), (2, .int x2)]) hx hb gd_Bk_costOfAll_22 rfl hl (by decide) rfl (fun ls hl => ?_)
        refine lv_iinc (v := x2 + 1) (lv' := [(2, .int (x2 + 1)), (1, .int (x1 + z1.1)), (0, .ref (ad 0 0))]) hx hb gd_Bk_costOfAll_23 hl (k := 2) rfl rfl (by decide) rfl (fun ls hl => ?_)
        refine lv_goto (tgt := 4) hx hb gd_Bk_costOfAll_26 (by decide) ?_
        exact ih (x1 + z1.1) (x2 + 1) z1.2 _ _ _ hf hH hS (lv_sub hl [2, 1, 0] rfl)
  unfold fn_Bk_costOfAll at hf
  refine lv_iconst (v := 0) hx hb gd_Bk_costOfAll_0 (by decide) ?_
  refine lv_istore_n (lv' := [(1, .int 0), (0, .ref (ad 0 0))]) hx hb gd_Bk_costOfAll_1 rfl hl (by decide) rfl (fun ls hl => ?_)
  refine lv_iconst (v := 0) hx hb gd_Bk_costOfAll_2 (by decide) ?_
  refine lv_istore_n (lv' := [(2, .int 0), (1, .int 0), (0, .ref (ad 0 0))]) hx hb gd_Bk_costOfAll_3 rfl hl (by decide) rfl (fun ls hl => ?_)
  exact L4 gk_fu 0 0 u _ _ _ hf hH hS (lv_sub hl [2, 1, 0] rfl)
set_option maxHeartbeats 4000000 in
set_option maxRecDepth 100000 in
theorem ct_Bk_count (l : Launch) (D : va_G) (cI cT : ClassId) (ad : Nat → Nat → Nat) (hI : gq_I gk_vd ad) (u : gk_St) (p1 : Int32) (z : Int32 × gk_St) (hf : fn_Bk_count p1 u = some z) : Met l gy_Bk_count gws_Bk_count ({ frames := 6, cells := 0, slots := 0, locals := 138 }) (va_Pc [.ref (ad 0 0), .int p1] (gq_pre D gc_cl (gk_tys cI cT) gk_vd ad gk_NF gk_NM (gk_pc cI cT ad u))) (va_Qi (fun r u2 => r = z.1 ∧ u2 = z.2) (fun u2 t => gq_B D gc_cl (gk_tys cI cT) gk_vd ad (gk_pc cI cT ad u2) t) (gq_A gk_vd ad)) 0 0 (gq_A gk_vd ad) := by
  refine Met.ofW (cc := gb_Bk_count) (maxL := 2) (ret := (some .int)) (by decide) rfl ?_
  intro p e s m args below meth c s₁ B hml hv
  obtain ⟨rfl, hH, hK, hN⟩ := hv
  have hx := B.exec
  have hb := B.bytes
  have hr := B.returns
  have hts := atoms_spec (ws := gws_Bk_count) B.pre
  have ht := fun (w : Cond) (h : w ∈ gt_T) => hts w (List.mem_cons_of_mem _ h)
  have hown : s.vm.findClass gR_Bk = some m.cls := findClass_of_methodNamed B.named
  have hlocks := B.notSynchronized
  have hA : ∀ q, (gq_A gk_vd ad) q → (gq_A gk_vd ad) q := fun _ h => h
  have hS : va_S (gq_A gk_vd ad) s.heap s.heap [] := va_S.rf
  have hl := lv_entry ([.ref (ad 0 0), .int p1]) (n := 2) (Nat.le_of_ble_eq_true rfl)
  rw [lg_entry_eq]
  generalize (lg_sl ([.ref (ad 0 0), .int p1]) ++ List.replicate (2 - (lg_sl ([.ref (ad 0 0), .int p1])).length) Slot.unset).toArray = ls at hl ⊢
  have hl : lv_has ls 2 [(0, .ref (ad 0 0)), (1, .int p1)] := hl
  unfold fn_Bk_count at hf
  refine lv_iload_n hx hb gd_Bk_count_0 rfl (lv_at hl 1 rfl) ?_
  by_cases c1 : p1 = 0
  · replace hf := gj_t c1 hf
    refine gj_tab (tgt := 44) (k := 0) hx hb c1 gd_Bk_count_1 (by decide) (by decide) rfl (by decide) ?_
    refine lv_aload_n hx hb gd_Bk_count_44 rfl (lv_at hl 0 rfl) ?_
    refine va_get (D := D) (ci := 0) (C := gR_Bk) (T := gT_Bk) (N := 5) hx hb hts (fun w h => List.mem_cons_of_mem _ (gl_Bk w h)) hown hK (gq_one (c := 0) (k := 0) hH rfl (gk_c0 cI cT ad u)) 0 rfl rfl 2 (by decide) (ht _ gt_87) (fun _ h9 => h9) rfl gd_Bk_count_45 ?_
    refine va_getN (D := D) (ci := 1) (C := gR_Lv) (T := gT_Lv) (N := 4) hx hb hts (fun w h => List.mem_cons_of_mem _ (gl_Lv w h)) hown hK (gq_one (c := 2) (k := 0) hH rfl (gk_c2 cI cT ad u)) 0 rfl rfl 1 (by decide) (va_Nw.use rfl (hN.1 _ (List.mem_of_getElem? (i := 5) rfl))) (fun _ h9 => h9) rfl gd_Bk_count_48 ?_
    cases hf
    exact W.iret hx hb hr (fun t ht hW => ⟨⟨_, _, rfl, ⟨rfl, rfl⟩, ⟨by rw [ht]; exact hH, va_K.moved hW.alike hK⟩⟩, hS.F ht⟩) hS.2.2 gd_Bk_count_51
  replace hf := gj_e c1 hf
  by_cases c2 : p1 = 1
  · replace hf := gj_t c2 hf
    refine gj_tab (tgt := 52) (k := 1) hx hb c2 gd_Bk_count_1 (by decide) (by decide) rfl (by decide) ?_
    refine lv_aload_n hx hb gd_Bk_count_52 rfl (lv_at hl 0 rfl) ?_
    refine va_get (D := D) (ci := 0) (C := gR_Bk) (T := gT_Bk) (N := 5) hx hb hts (fun w h => List.mem_cons_of_mem _ (gl_Bk w h)) hown hK (gq_one (c := 0) (k := 0) hH rfl (gk_c0 cI cT ad u)) 0 rfl rfl 2 (by decide) (ht _ gt_87) (fun _ h9 => h9) rfl gd_Bk_count_53 ?_
    refine va_getN (D := D) (ci := 1) (C := gR_Lv) (T := gT_Lv) (N := 4) hx hb hts (fun w h => List.mem_cons_of_mem _ (gl_Lv w h)) hown hK (gq_one (c := 2) (k := 0) hH rfl (gk_c2 cI cT ad u)) 0 rfl rfl 3 (by decide) (va_Nw.use rfl (hN.1 _ (List.mem_of_getElem? (i := 6) rfl))) (fun _ h9 => h9) rfl gd_Bk_count_56 ?_
    cases hf
    exact W.iret hx hb hr (fun t ht hW => ⟨⟨_, _, rfl, ⟨rfl, rfl⟩, ⟨by rw [ht]; exact hH, va_K.moved hW.alike hK⟩⟩, hS.F ht⟩) hS.2.2 gd_Bk_count_59
  replace hf := gj_e c2 hf
  by_cases c3 : p1 = 2
  · replace hf := gj_t c3 hf
    refine gj_tab (tgt := 60) (k := 2) hx hb c3 gd_Bk_count_1 (by decide) (by decide) rfl (by decide) ?_
    refine lv_aload_n hx hb gd_Bk_count_60 rfl (lv_at hl 0 rfl) ?_
    refine va_get (D := D) (ci := 0) (C := gR_Bk) (T := gT_Bk) (N := 5) hx hb hts (fun w h => List.mem_cons_of_mem _ (gl_Bk w h)) hown hK (gq_one (c := 0) (k := 0) hH rfl (gk_c0 cI cT ad u)) 0 rfl rfl 4 (by decide) (ht _ gt_89) (fun _ h9 => h9) rfl gd_Bk_count_61 ?_
    cases hf
    exact W.iret hx hb hr (fun t ht hW => ⟨⟨_, _, rfl, ⟨rfl, rfl⟩, ⟨by rw [ht]; exact hH, va_K.moved hW.alike hK⟩⟩, hS.F ht⟩) hS.2.2 gd_Bk_count_64
  replace hf := gj_e c3 hf
  by_cases c6 : p1 = 3
  · replace hf := gj_t c6 hf
    refine gj_tab (tgt := 65) (k := 3) hx hb c6 gd_Bk_count_1 (by decide) (by decide) rfl (by decide) ?_
    refine lv_aload_n hx hb gd_Bk_count_65 rfl (lv_at hl 0 rfl) ?_
    obtain ⟨z4, hc5, hf⟩ := Option.bind_eq_some_iff.mp hf
    refine gq_calli (va_runV (As := []) (rest := []) ⟨hx, hb, hml, hown, hts⟩ (ct_Bk_countKeptVersions l D cI cT ad hI u  z4 hc5) (cwV 0 hts (gt_V gt_351 gt_353 (gt_sel (List.mem_of_getElem? (i := 20) rfl)) gt_1 gt_354) rfl rfl rfl (by decide +kernel) ⟨Nat.le_of_ble_eq_true rfl, Nat.le_of_ble_eq_true rfl⟩) (gq_preV hH hK hN (va_recv hK (gq_one (c := 0) (k := 0) hH rfl (gk_c0 cI cT ad u)) (ci := 0) (q0 := 0) rfl rfl)) rfl rfl hl.1 rfl (lv_room (Nat.le_of_ble_eq_true rfl)) gd_Bk_count_66 ⟨Nat.zero_le _, Nat.zero_le _⟩) hA hS (fun H locs hH hS => ?_)
    cases hf
    exact W.iret hx hb hr (fun t ht hW => ⟨⟨_, _, rfl, ⟨rfl, rfl⟩, ⟨by rw [ht]; exact hH, va_K.moved hW.alike hK⟩⟩, hS.F ht⟩) hS.2.2 gd_Bk_count_69
  replace hf := gj_e c6 hf
  by_cases c9 : p1 = 4
  · replace hf := gj_t c9 hf
    refine gj_tab (tgt := 70) (k := 4) hx hb c9 gd_Bk_count_1 (by decide) (by decide) rfl (by decide) ?_
    refine lv_aload_n hx hb gd_Bk_count_70 rfl (lv_at hl 0 rfl) ?_
    obtain ⟨z7, hc8, hf⟩ := Option.bind_eq_some_iff.mp hf
    refine gq_calli (va_runV (As := []) (rest := []) ⟨hx, hb, hml, hown, hts⟩ (ct_Bk_countUnused l D cI cT ad hI u  z7 hc8) (cwV 0 hts (gt_V gt_355 gt_357 (gt_sel (List.mem_of_getElem? (i := 21) rfl)) gt_1 gt_358) rfl rfl rfl (by decide +kernel) ⟨Nat.le_of_ble_eq_true rfl, Nat.le_of_ble_eq_true rfl⟩) (gq_preV hH hK hN (va_recv hK (gq_one (c := 0) (k := 0) hH rfl (gk_c0 cI cT ad u)) (ci := 0) (q0 := 0) rfl rfl)) rfl rfl hl.1 rfl (lv_room (Nat.le_of_ble_eq_true rfl)) gd_Bk_count_71 ⟨Nat.zero_le _, Nat.zero_le _⟩) hA hS (fun H locs hH hS => ?_)
    cases hf
    exact W.iret hx hb hr (fun t ht hW => ⟨⟨_, _, rfl, ⟨rfl, rfl⟩, ⟨by rw [ht]; exact hH, va_K.moved hW.alike hK⟩⟩, hS.F ht⟩) hS.2.2 gd_Bk_count_74
  replace hf := gj_e c9 hf
  by_cases c10 : p1 = 5
  · replace hf := gj_t c10 hf
    refine gj_tab (tgt := 75) (k := 5) hx hb c10 gd_Bk_count_1 (by decide) (by decide) rfl (by decide) ?_
    refine lv_aload_n hx hb gd_Bk_count_75 rfl (lv_at hl 0 rfl) ?_
    refine va_get (D := D) (ci := 0) (C := gR_Bk) (T := gT_Bk) (N := 5) hx hb hts (fun w h => List.mem_cons_of_mem _ (gl_Bk w h)) hown hK (gq_one (c := 0) (k := 0) hH rfl (gk_c0 cI cT ad u)) 0 rfl rfl 0 (by decide) (ht _ gt_85) (fun _ h9 => h9) rfl gd_Bk_count_76 ?_
    refine va_getN (D := D) (ci := 2) (C := gR_Tx) (T := gT_Tx) (N := 3) hx hb hts (fun w h => List.mem_cons_of_mem _ (gl_Tx w h)) hown hK (gq_one (c := 6) (k := 100) hH (Nat.le_refl 100) (gk_c6 cI cT ad u 100)) 0 rfl rfl 2 (by decide) (va_Nw.use rfl (hN.1 _ (List.mem_of_getElem? (i := 0) rfl))) (fun _ h9 => h9) rfl gd_Bk_count_79 ?_
    cases hf
    exact W.iret hx hb hr (fun t ht hW => ⟨⟨_, _, rfl, ⟨rfl, rfl⟩, ⟨by rw [ht]; exact hH, va_K.moved hW.alike hK⟩⟩, hS.F ht⟩) hS.2.2 gd_Bk_count_82
  replace hf := gj_e c10 hf
  by_cases c13 : p1 = 6
  · replace hf := gj_t c13 hf
    refine gj_tab (tgt := 83) (k := 6) hx hb c13 gd_Bk_count_1 (by decide) (by decide) rfl (by decide) ?_
    refine lv_aload_n hx hb gd_Bk_count_83 rfl (lv_at hl 0 rfl) ?_
    obtain ⟨z11, hc12, hf⟩ := Option.bind_eq_some_iff.mp hf
    refine gq_calli (va_runV (As := []) (rest := []) ⟨hx, hb, hml, hown, hts⟩ (ct_Bk_costOfAll l D cI cT ad hI u  z11 hc12) (cwV 0 hts (gt_V gt_359 gt_361 (gt_sel (List.mem_of_getElem? (i := 22) rfl)) gt_1 gt_362) rfl rfl rfl (by decide +kernel) ⟨Nat.le_of_ble_eq_true rfl, Nat.le_of_ble_eq_true rfl⟩) (gq_preV hH hK hN (va_recv hK (gq_one (c := 0) (k := 0) hH rfl (gk_c0 cI cT ad u)) (ci := 0) (q0 := 0) rfl rfl)) rfl rfl hl.1 rfl (lv_room (Nat.le_of_ble_eq_true rfl)) gd_Bk_count_84 ⟨Nat.zero_le _, Nat.zero_le _⟩) hA hS (fun H locs hH hS => ?_)
    cases hf
    exact W.iret hx hb hr (fun t ht hW => ⟨⟨_, _, rfl, ⟨rfl, rfl⟩, ⟨by rw [ht]; exact hH, va_K.moved hW.alike hK⟩⟩, hS.F ht⟩) hS.2.2 gd_Bk_count_87
  replace hf := gj_e c13 hf
  refine lv_tableOut (tgt := 88) hx hb gd_Bk_count_1 (by have ec1 := lv_neT (a := 0) c1 rfl; have ec2 := lv_neT (a := 1) c2 rfl; have ec3 := lv_neT (a := 2) c3 rfl; have ec6 := lv_neT (a := 3) c6 rfl; have ec9 := lv_neT (a := 4) c9 rfl; have ec10 := lv_neT (a := 5) c10 rfl; have ec13 := lv_neT (a := 6) c13 rfl; omega) (by decide) ?_
  refine lv_iconst (v := (-1)) hx hb gd_Bk_count_88 (by decide) ?_
  cases hf
  exact W.iret hx hb hr (fun t ht hW => ⟨⟨_, _, rfl, ⟨rfl, rfl⟩, ⟨by rw [ht]; exact hH, va_K.moved hW.alike hK⟩⟩, hS.F ht⟩) hS.2.2 gd_Bk_count_89
