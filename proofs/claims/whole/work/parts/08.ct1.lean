set_option maxHeartbeats 4000000 in
set_option maxRecDepth 100000 in
theorem ct_Tm_compareWith (l : Launch) (D : va_G) (cI cT : ClassId) (ad : Nat → Nat → Nat) (hI : gq_I gk_vd ad) (u : gk_St) (k : Nat) (hk : k < 100) (p1 : Int32) (q2 : Nat) (hq2 : q2 ≤ 100) (z : Int32 × gk_St) (hf : fn_Tm_compareWith k p1 q2 u = some z) : Met l gy_Tm_compareWith gws_Tm_compareWith ({ frames := 2, cells := 0, slots := 0, locals := 44 }) (va_Pc [.ref (ad 7 k), .int p1, .ref (ad 6 q2)] (gq_pre D gc_cl (gk_tys cI cT) gk_vd ad gk_NF gk_NM (gk_pc cI cT ad u))) (va_Qi (fun r u2 => r = z.1 ∧ u2 = z.2) (fun u2 t => gq_B D gc_cl (gk_tys cI cT) gk_vd ad (gk_pc cI cT ad u2) t) (gq_A gk_vd ad)) 0 0 (gq_A gk_vd ad) := by
  refine Met.ofW (cc := gb_Tm_compareWith) (maxL := 3) (ret := (some .int)) (by decide) rfl ?_
  intro p e s m args below meth c s₁ B hml hv
  obtain ⟨rfl, hH, hK, hN⟩ := hv
  have hx := B.exec
  have hb := B.bytes
  have hr := B.returns
  have hts := atoms_spec (ws := gws_Tm_compareWith) B.pre
  have ht := fun (w : Cond) (h : w ∈ gt_T) => hts w (List.mem_cons_of_mem _ h)
  have hown : s.vm.findClass gR_Tm = some m.cls := findClass_of_methodNamed B.named
  have hlocks := B.notSynchronized
  have hA : ∀ q, (gq_A gk_vd ad) q → (gq_A gk_vd ad) q := fun _ h => h
  have hS : va_S (gq_A gk_vd ad) s.heap s.heap [] := va_S.rf
  have hl := lv_entry ([.ref (ad 7 k), .int p1, .ref (ad 6 q2)]) (n := 3) (Nat.le_of_ble_eq_true rfl)
  rw [lg_entry_eq]
  generalize (lg_sl ([.ref (ad 7 k), .int p1, .ref (ad 6 q2)]) ++ List.replicate (3 - (lg_sl ([.ref (ad 7 k), .int p1, .ref (ad 6 q2)])).length) Slot.unset).toArray = ls at hl ⊢
  have hl : lv_has ls 3 [(0, .ref (ad 7 k)), (1, .int p1), (2, .ref (ad 6 q2))] := hl
  unfold fn_Tm_compareWith at hf
  refine lv_aload_n hx hb gd_Tm_compareWith_0 rfl (lv_at hl 0 rfl) ?_
  refine va_get (D := D) (ci := 3) (C := gR_Tm) (T := gT_Tm) (N := 5) hx hb hts (fun w h => List.mem_cons_of_mem _ (gl_Tm w h)) hown hK (gq_one (c := 7) (k := k) hH hk (gk_c7 cI cT ad u k)) 0 rfl rfl 2 (by decide) (ht _ gt_47) (fun _ h9 => h9) rfl gd_Tm_compareWith_1 ?_
  refine lv_iload_n hx hb gd_Tm_compareWith_4 rfl (lv_at hl 1 rfl) ?_
  refine lv_icmp_eq (tgt := 19) hx hb gd_Tm_compareWith_5 (by decide) (fun c3 => ?_) (fun c3 => ?_)
  · replace hf := gj_t c3 hf
    refine lv_aload_n hx hb gd_Tm_compareWith_19 rfl (lv_at hl 0 rfl) ?_
    refine va_get (D := D) (ci := 3) (C := gR_Tm) (T := gT_Tm) (N := 5) hx hb hts (fun w h => List.mem_cons_of_mem _ (gl_Tm w h)) hown hK (gq_one (c := 7) (k := k) hH hk (gk_c7 cI cT ad u k)) 0 rfl rfl 0 (by decide) (ht _ gt_43) (fun _ h9 => h9) rfl gd_Tm_compareWith_20 ?_
    refine lv_aload_n hx hb gd_Tm_compareWith_23 rfl (lv_at hl 2 rfl) ?_
    obtain ⟨z1, hc2, hf⟩ := Option.bind_eq_some_iff.mp hf
    refine gq_calli (va_runV (As := [.ref (ad 6 q2)]) (rest := []) ⟨hx, hb, hml, hown, hts⟩ (ct_Tx_compareWith l D cI cT ad hI u k (Nat.le_of_lt hk) q2 hq2 z1 hc2) (cwV 1 hts (gt_V gt_158 gt_159 gt_160 gt_2 gt_161) rfl rfl rfl (by decide +kernel) ⟨Nat.le_of_ble_eq_true rfl, Nat.le_of_ble_eq_true rfl⟩) (gq_preV hH hK hN (va_recv hK (gq_one (c := 6) (k := k) hH (Nat.le_of_lt hk) (gk_c6 cI cT ad u k)) (ci := 2) (q0 := 0) rfl rfl)) rfl rfl hl.1 rfl (lv_room (Nat.le_of_ble_eq_true rfl)) gd_Tm_compareWith_24 ⟨Nat.zero_le _, Nat.zero_le _⟩) hA hS (fun H locs hH hS => ?_)
    cases hf
    exact W.iret hx hb hr (fun t ht hW => ⟨⟨_, _, rfl, ⟨rfl, rfl⟩, ⟨by rw [ht]; exact hH, va_K.moved hW.alike hK⟩⟩, hS.F ht⟩) hS.2.2 gd_Tm_compareWith_27
  · replace hf := gj_e c3 hf
    refine lv_aload_n hx hb gd_Tm_compareWith_8 rfl (lv_at hl 0 rfl) ?_
    refine va_get (D := D) (ci := 3) (C := gR_Tm) (T := gT_Tm) (N := 5) hx hb hts (fun w h => List.mem_cons_of_mem _ (gl_Tm w h)) hown hK (gq_one (c := 7) (k := k) hH hk (gk_c7 cI cT ad u k)) 0 rfl rfl 2 (by decide) (ht _ gt_47) (fun _ h9 => h9) rfl gd_Tm_compareWith_9 ?_
    refine lv_iload_n hx hb gd_Tm_compareWith_12 rfl (lv_at hl 1 rfl) ?_
    refine W.callR (W.runS (As := [.int (u.1 2 k), .int p1]) (rest := []) ⟨hx, hb, hml, hown, hts⟩ (ct_In_compare l (u.1 2 k) p1 _ rfl) (va_cwS 2 hts (gt_S gt_155 gt_156 gt_6 gt_157) rfl rfl rfl (by decide +kernel) ⟨Nat.le_of_ble_eq_true rfl, Nat.le_of_ble_eq_true rfl⟩) preEq rfl rfl hl.1 rfl (lv_room (Nat.le_of_ble_eq_true rfl)) gd_Tm_compareWith_13 ⟨Nat.zero_le _, Nat.zero_le _⟩) ?_
    refine W.eq (g2 := F0 m 16 ls (.int (fn_In_compare (u.1 2 k) p1) :: [])) rfl ?_
    refine lv_goto (tgt := 27) hx hb gd_Tm_compareWith_16 (by decide) ?_
    cases hf
    exact W.iret hx hb hr (fun t ht hW => ⟨⟨_, _, rfl, ⟨rfl, rfl⟩, ⟨by rw [ht]; exact hH, va_K.moved hW.alike hK⟩⟩, hS.F ht⟩) hS.2.2 gd_Tm_compareWith_27
set_option maxHeartbeats 4000000 in
set_option maxRecDepth 100000 in
theorem ct_Bk_isBeforeTape (l : Launch) (D : va_G) (cI cT : ClassId) (ad : Nat → Nat → Nat) (hI : gq_I gk_vd ad) (u : gk_St) (p1 : Int32) (p2 : Int32) (z : Int32 × gk_St) (hf : fn_Bk_isBeforeTape p1 p2 u = some z) : Met l gy_Bk_isBeforeTape gws_Bk_isBeforeTape ({ frames := 3, cells := 0, slots := 0, locals := 66 }) (va_Pc [.ref (ad 0 0), .int p1, .int p2] (gq_pre D gc_cl (gk_tys cI cT) gk_vd ad gk_NF gk_NM (gk_pc cI cT ad u))) (va_Qi (fun r u2 => r = z.1 ∧ u2 = z.2) (fun u2 t => gq_B D gc_cl (gk_tys cI cT) gk_vd ad (gk_pc cI cT ad u2) t) (gq_A gk_vd ad)) 0 0 (gq_A gk_vd ad) := by
  refine Met.ofW (cc := gb_Bk_isBeforeTape) (maxL := 4) (ret := (some .boolean)) (by decide) rfl ?_
  intro p e s m args below meth c s₁ B hml hv
  obtain ⟨rfl, hH, hK, hN⟩ := hv
  have hx := B.exec
  have hb := B.bytes
  have hr := B.returns
  have hts := atoms_spec (ws := gws_Bk_isBeforeTape) B.pre
  have ht := fun (w : Cond) (h : w ∈ gt_T) => hts w (List.mem_cons_of_mem _ h)
  have hown : s.vm.findClass gR_Bk = some m.cls := findClass_of_methodNamed B.named
  have hlocks := B.notSynchronized
  have hA : ∀ q, (gq_A gk_vd ad) q → (gq_A gk_vd ad) q := fun _ h => h
  have hS : va_S (gq_A gk_vd ad) s.heap s.heap [] := va_S.rf
  have hl := lv_entry ([.ref (ad 0 0), .int p1, .int p2]) (n := 4) (Nat.le_of_ble_eq_true rfl)
  rw [lg_entry_eq]
  generalize (lg_sl ([.ref (ad 0 0), .int p1, .int p2]) ++ List.replicate (4 - (lg_sl ([.ref (ad 0 0), .int p1, .int p2])).length) Slot.unset).toArray = ls at hl ⊢
  have hl : lv_has ls 4 [(0, .ref (ad 0 0)), (1, .int p1), (2, .int p2)] := hl
  unfold fn_Bk_isBeforeTape at hf
  refine lv_aload_n hx hb gd_Bk_isBeforeTape_0 rfl (lv_at hl 0 rfl) ?_
  refine lv_iload_n hx hb gd_Bk_isBeforeTape_1 rfl (lv_at hl 1 rfl) ?_
  obtain ⟨⟨o3, u4⟩, hc2, hf⟩ := Option.bind_eq_some_iff.mp hf
  refine gq_calle (va_runV (As := [.int p1]) (rest := []) ⟨hx, hb, hml, hown, hts⟩ (ct_Bk_inBook l D cI cT ad hI u p1 (o3, u4) hc2) (cwV 1 hts (gt_V gt_147 gt_149 (gt_sel (List.mem_of_getElem? (i := 3) rfl)) gt_1 gt_150) rfl rfl rfl (by decide +kernel) ⟨Nat.le_of_ble_eq_true rfl, Nat.le_of_ble_eq_true rfl⟩) (gq_preV hH hK hN (va_recv hK (gq_one (c := 0) (k := 0) hH rfl (gk_c0 cI cT ad u)) (ci := 0) (q0 := 0) rfl rfl)) rfl rfl hl.1 rfl (lv_room (Nat.le_of_ble_eq_true rfl)) gd_Bk_isBeforeTape_2 ⟨Nat.zero_le _, Nat.zero_le _⟩) hA hS (fun H locs hH hS => ?_)
  cases o3 with
  | none =>
    have hH : gq_H D gc_cl gk_vd ad (gk_pc cI cT ad u4) H := hH
    refine W.eq (g2 := F0 m 5 ls [.null]) rfl ?_
    dsimp only at hf
    refine lv_astore_nN (lv' := [(3, .null), (0, .ref (ad 0 0)), (1, .int p1), (2, .int p2)]) hx hb gd_Bk_isBeforeTape_5 rfl hl (by decide) rfl (fun ls hl => ?_)
    refine lv_aload_nN hx hb gd_Bk_isBeforeTape_6 rfl (lv_at hl 0 rfl) ?_
    refine lv_ifnullN (tgt := 26) hx hb gd_Bk_isBeforeTape_7 (by decide) ?_
    refine lv_iconst (v := 0) hx hb gd_Bk_isBeforeTape_26 (by decide) ?_
    cases hf
    exact W.zret hx hb hr rfl (fun t ht hW => ⟨⟨_, _, rfl, ⟨rfl, rfl⟩, ⟨by rw [ht]; exact hH, va_K.moved hW.alike hK⟩⟩, hS.F ht⟩) hS.2.2 gd_Bk_isBeforeTape_27
  | some k5 =>
    have hH : gq_H D gc_cl gk_vd ad (gk_pc cI cT ad u4) H := hH
    refine W.eq (g2 := F0 m 5 ls [.ref (ad 7 k5)]) rfl ?_
    dsimp only at hf
    refine lv_astore_n (lv' := [(3, .ref (ad 7 k5)), (0, .ref (ad 0 0)), (1, .int p1), (2, .int p2)]) hx hb gd_Bk_isBeforeTape_5 rfl hl (by decide) rfl (fun ls hl => ?_)
    refine lv_aload_n hx hb gd_Bk_isBeforeTape_6 rfl (lv_at hl 0 rfl) ?_
    refine lv_ifnull hx hb gd_Bk_isBeforeTape_7 ?_
    refine lv_aload_n hx hb gd_Bk_isBeforeTape_10 rfl (lv_at hl 0 rfl) ?_
    refine lv_iload_n hx hb gd_Bk_isBeforeTape_11 rfl (lv_at hl 3 rfl) ?_
    refine lv_aload_n hx hb gd_Bk_isBeforeTape_12 rfl (lv_at hl 1 rfl) ?_
    refine va_get (D := D) (ci := 0) (C := gR_Bk) (T := gT_Bk) (N := 5) hx hb hts (fun w h => List.mem_cons_of_mem _ (gl_Bk w h)) hown hK (gq_one (c := 0) (k := 0) hH rfl (gk_c0 cI cT ad u4)) 0 rfl rfl 0 (by decide) (ht _ gt_85) (fun _ h9 => h9) rfl gd_Bk_isBeforeTape_13 ?_
    obtain ⟨z6, hc7, hf⟩ := Option.bind_eq_some_iff.mp hf
    refine gq_calli (va_runV (As := [.int p2, .ref (ad 6 100)]) (rest := []) ⟨hx, hb, hml, hown, hts⟩ (ct_Tm_compareWith l D cI cT ad hI u4 k5 (ok_Bk_inBook hc2) p2 100 (Nat.le_refl 100) z6 hc7) (cwV 2 hts (gt_V gt_151 gt_152 gt_153 gt_3 gt_154) rfl rfl rfl (by decide +kernel) ⟨Nat.le_of_ble_eq_true rfl, Nat.le_of_ble_eq_true rfl⟩) (gq_preV hH hK hN (va_recv hK (gq_one (c := 7) (k := k5) hH (ok_Bk_inBook hc2) (gk_c7 cI cT ad u4 k5)) (ci := 3) (q0 := 0) rfl rfl)) rfl rfl hl.1 rfl (lv_room (Nat.le_of_ble_eq_true rfl)) gd_Bk_isBeforeTape_16 ⟨Nat.zero_le _, Nat.zero_le _⟩) hA hS (fun H locs hH hS => ?_)
    refine lv_if_ge (tgt := 26) hx hb gd_Bk_isBeforeTape_19 (by decide) (fun c8 => ?_) (fun c8 => ?_)
    · replace hf := gj_t c8 hf
      refine lv_iconst (v := 0) hx hb gd_Bk_isBeforeTape_26 (by decide) ?_
      cases hf
      exact W.zret hx hb hr rfl (fun t ht hW => ⟨⟨_, _, rfl, ⟨rfl, rfl⟩, ⟨by rw [ht]; exact hH, va_K.moved hW.alike hK⟩⟩, hS.F ht⟩) hS.2.2 gd_Bk_isBeforeTape_27
    · replace hf := gj_e c8 hf
      refine lv_iconst (v := 1) hx hb gd_Bk_isBeforeTape_22 (by decide) ?_
      refine lv_goto (tgt := 27) hx hb gd_Bk_isBeforeTape_23 (by decide) ?_
      cases hf
      exact W.zret hx hb hr rfl (fun t ht hW => ⟨⟨_, _, rfl, ⟨rfl, rfl⟩, ⟨by rw [ht]; exact hH, va_K.moved hW.alike hK⟩⟩, hS.F ht⟩) hS.2.2 gd_Bk_isBeforeTape_27
set_option maxHeartbeats 4000000 in
set_option maxRecDepth 100000 in
theorem ct_Bk_placeOfTape (l : Launch) (D : va_G) (cI cT : ClassId) (ad : Nat → Nat → Nat) (hI : gq_I gk_vd ad) (u : gk_St) (p1 : Int32) (z : Int32 × gk_St) (hf : fn_Bk_placeOfTape p1 u = some z) : Met l gy_Bk_placeOfTape gws_Bk_placeOfTape ({ frames := 4, cells := 0, slots := 0, locals := 89 }) (va_Pc [.ref (ad 0 0), .int p1] (gq_pre D gc_cl (gk_tys cI cT) gk_vd ad gk_NF gk_NM (gk_pc cI cT ad u))) (va_Qi (fun r u2 => r = z.1 ∧ u2 = z.2) (fun u2 t => gq_B D gc_cl (gk_tys cI cT) gk_vd ad (gk_pc cI cT ad u2) t) (gq_A gk_vd ad)) 0 0 (gq_A gk_vd ad) := by
  refine Met.ofW (cc := gb_Bk_placeOfTape) (maxL := 3) (ret := (some .int)) (by decide) rfl ?_
  intro p e s m args below meth c s₁ B hml hv
  obtain ⟨rfl, hH, hK, hN⟩ := hv
  have hx := B.exec
  have hb := B.bytes
  have hr := B.returns
  have hts := atoms_spec (ws := gws_Bk_placeOfTape) B.pre
  have ht := fun (w : Cond) (h : w ∈ gt_T) => hts w (List.mem_cons_of_mem _ h)
  have hown : s.vm.findClass gR_Bk = some m.cls := findClass_of_methodNamed B.named
  have hlocks := B.notSynchronized
  have hA : ∀ q, (gq_A gk_vd ad) q → (gq_A gk_vd ad) q := fun _ h => h
  have hS : va_S (gq_A gk_vd ad) s.heap s.heap [] := va_S.rf
  have hl := lv_entry ([.ref (ad 0 0), .int p1]) (n := 3) (Nat.le_of_ble_eq_true rfl)
  rw [lg_entry_eq]
  generalize (lg_sl ([.ref (ad 0 0), .int p1]) ++ List.replicate (3 - (lg_sl ([.ref (ad 0 0), .int p1])).length) Slot.unset).toArray = ls at hl ⊢
  have hl : lv_has ls 3 [(0, .ref (ad 0 0)), (1, .int p1)] := hl
  have L2 : ∀ (n : Nat) (x1 : Int32) (x2 : Int32) (u : gk_St) (H : Heap) (locs : List Loc) (ls : Array Slot), fn_Bk_placeOfTape_2 n x1 x2 u = some z → gq_H D gc_cl gk_vd ad (gk_pc cI cT ad u) H → va_S (gq_A gk_vd ad) s.heap H locs → lv_has ls 3 [(0, .ref (ad 0 0)), (1, .int x1), (2, .int x2)] → W p l e (headSpec gws_Bk_placeOfTape ({ frames := 4, cells := 0, slots := 0, locals := 89 })).room s m ([.ref (ad 0 0), .int p1] : List Value).toArray below meth c H locs 0 0 (MQ below (va_Qi (fun r u2 => r = z.1 ∧ u2 = z.2) (fun u2 t => gq_B D gc_cl (gk_tys cI cT) gk_vd ad (gk_pc cI cT ad u2) t) (gq_A gk_vd ad)) ([.ref (ad 0 0), .int p1] : List Value).toArray s 0 0 (gq_A gk_vd ad)) (F0 m 2 ls []) := by
    intro n
    induction n with
    | zero =>
      intro x1 x2 u H locs ls hf
      have h0 : none = some z := hf
      cases h0
    | succ n ih =>
      intro x1 x2 u H locs ls hf hH hS hl
      rw [fn_Bk_placeOfTape_2] at hf
      refine lv_iload_n hx hb gd_Bk_placeOfTape_2 rfl (lv_at hl 2 rfl) ?_
      refine lv_aload_n hx hb gd_Bk_placeOfTape_3 rfl (lv_at hl 0 rfl) ?_
      refine va_get (D := D) (ci := 0) (C := gR_Bk) (T := gT_Bk) (N := 5) hx hb hts (fun w h => List.mem_cons_of_mem _ (gl_Bk w h)) hown hK (gq_one (c := 0) (k := 0) hH rfl (gk_c0 cI cT ad u)) 0 rfl rfl 2 (by decide) (ht _ gt_87) (fun _ h9 => h9) rfl gd_Bk_placeOfTape_4 ?_
      refine va_getN (D := D) (ci := 1) (C := gR_Lv) (T := gT_Lv) (N := 4) hx hb hts (fun w h => List.mem_cons_of_mem _ (gl_Lv w h)) hown hK (gq_one (c := 2) (k := 0) hH rfl (gk_c2 cI cT ad u)) 0 rfl rfl 1 (by decide) (va_Nw.use rfl (hN.1 _ (List.mem_of_getElem? (i := 5) rfl))) (fun _ h9 => h9) rfl gd_Bk_placeOfTape_7 ?_
      refine lv_icmp_ge (tgt := 35) hx hb gd_Bk_placeOfTape_10 (by decide) (fun c6 => ?_) (fun c6 => ?_)
      · replace hf := gj_t c6 hf
        refine lv_iload_n hx hb gd_Bk_placeOfTape_35 rfl (lv_at hl 2 rfl) ?_
        cases hf
        exact W.iret hx hb hr (fun t ht hW => ⟨⟨_, _, rfl, ⟨rfl, rfl⟩, ⟨by rw [ht]; exact hH, va_K.moved hW.alike hK⟩⟩, hS.F ht⟩) hS.2.2 gd_Bk_placeOfTape_36
      · replace hf := gj_e c6 hf
        refine lv_aload_n hx hb gd_Bk_placeOfTape_13 rfl (lv_at hl 0 rfl) ?_
        refine lv_aload_n hx hb gd_Bk_placeOfTape_14 rfl (lv_at hl 0 rfl) ?_
        refine va_get (D := D) (ci := 0) (C := gR_Bk) (T := gT_Bk) (N := 5) hx hb hts (fun w h => List.mem_cons_of_mem _ (gl_Bk w h)) hown hK (gq_one (c := 0) (k := 0) hH rfl (gk_c0 cI cT ad u)) 0 rfl rfl 2 (by decide) (ht _ gt_87) (fun _ h9 => h9) rfl gd_Bk_placeOfTape_15 ?_
        refine lv_iload_n hx hb gd_Bk_placeOfTape_18 rfl (lv_at hl 2 rfl) ?_
        obtain ⟨z1, hc2, hf⟩ := Option.bind_eq_some_iff.mp hf
        refine gq_calli (va_runV (As := [.int x2]) (rest := [.ref (ad 0 0)]) ⟨hx, hb, hml, hown, hts⟩ (ct_Lv_numberAt l D cI cT ad hI u x2 z1 hc2) (cwV 1 hts (gt_V gt_139 gt_140 gt_141 gt_4 gt_142) rfl rfl rfl (by decide +kernel) ⟨Nat.le_of_ble_eq_true rfl, Nat.le_of_ble_eq_true rfl⟩) (gq_preV hH hK hN (va_recv hK (gq_one (c := 2) (k := 0) hH rfl (gk_c2 cI cT ad u)) (ci := 1) (q0 := 0) rfl rfl)) rfl rfl hl.1 rfl (lv_room (Nat.le_of_ble_eq_true rfl)) gd_Bk_placeOfTape_19 ⟨Nat.zero_le _, Nat.zero_le _⟩) hA hS (fun H locs hH hS => ?_)
        refine lv_iload_n hx hb gd_Bk_placeOfTape_22 rfl (lv_at hl 1 rfl) ?_
        obtain ⟨z3, hc4, hf⟩ := Option.bind_eq_some_iff.mp hf
        refine gq_calli (va_runV (As := [.int z1.1, .int x1]) (rest := []) ⟨hx, hb, hml, hown, hts⟩ (ct_Bk_isBeforeTape l D cI cT ad hI z1.2 z1.1 x1 z3 hc4) (cwV 2 hts (gt_V gt_143 gt_145 (gt_sel (List.mem_of_getElem? (i := 2) rfl)) gt_1 gt_146) rfl rfl rfl (by decide +kernel) ⟨Nat.le_of_ble_eq_true rfl, Nat.le_of_ble_eq_true rfl⟩) (gq_preV hH hK hN (va_recv hK (gq_one (c := 0) (k := 0) hH rfl (gk_c0 cI cT ad z1.2)) (ci := 0) (q0 := 0) rfl rfl)) rfl rfl hl.1 rfl (lv_room (Nat.le_of_ble_eq_true rfl)) gd_Bk_placeOfTape_23 ⟨Nat.zero_le _, Nat.zero_le _⟩) hA hS (fun H locs hH hS => ?_)
        refine lv_if_eq (tgt := 35) hx hb gd_Bk_placeOfTape_26 (by decide) (fun c5 => ?_) (fun c5 => ?_)
        · replace hf := gj_t c5 hf
          refine lv_iload_n hx hb gd_Bk_placeOfTape_35 rfl (lv_at hl 2 rfl) ?_
          cases hf
          exact W.iret hx hb hr (fun t ht hW => ⟨⟨_, _, rfl, ⟨rfl, rfl⟩, ⟨by rw [ht]; exact hH, va_K.moved hW.alike hK⟩⟩, hS.F ht⟩) hS.2.2 gd_Bk_placeOfTape_36
        · replace hf := gj_e c5 hf
          refine lv_iinc (v := x2 + 1) (lv' := [(2, .int (x2 + 1)), (0, .ref (ad 0 0)), (1, .int x1)]) hx hb gd_Bk_placeOfTape_29 hl (k := 2) rfl rfl (by decide) rfl (fun ls hl => ?_)
          refine lv_goto (tgt := 2) hx hb gd_Bk_placeOfTape_32 (by decide) ?_
          exact ih x1 (x2 + 1) z3.2 _ _ _ hf hH hS (lv_sub hl [1, 2, 0] rfl)
  unfold fn_Bk_placeOfTape at hf
  refine lv_iconst (v := 0) hx hb gd_Bk_placeOfTape_0 (by decide) ?_
  refine lv_istore_n (lv' := [(2, .int 0), (0, .ref (ad 0 0)), (1, .int p1)]) hx hb gd_Bk_placeOfTape_1 rfl hl (by decide) rfl (fun ls hl => ?_)
  exact L2 gk_fu p1 0 u _ _ _ hf hH hS (lv_sub hl [1, 2, 0] rfl)
set_option maxHeartbeats 4000000 in
set_option maxRecDepth 100000 in
theorem ct_Bk_isTape (l : Launch) (D : va_G) (cI cT : ClassId) (ad : Nat → Nat → Nat) (hI : gq_I gk_vd ad) (u : gk_St) (p1 : Int32) (p2 : Int32) (z : Int32 × gk_St) (hf : fn_Bk_isTape p1 p2 u = some z) : Met l gy_Bk_isTape gws_Bk_isTape ({ frames := 3, cells := 0, slots := 0, locals := 66 }) (va_Pc [.ref (ad 0 0), .int p1, .int p2] (gq_pre D gc_cl (gk_tys cI cT) gk_vd ad gk_NF gk_NM (gk_pc cI cT ad u))) (va_Qi (fun r u2 => r = z.1 ∧ u2 = z.2) (fun u2 t => gq_B D gc_cl (gk_tys cI cT) gk_vd ad (gk_pc cI cT ad u2) t) (gq_A gk_vd ad)) 0 0 (gq_A gk_vd ad) := by
  refine Met.ofW (cc := gb_Bk_isTape) (maxL := 4) (ret := (some .boolean)) (by decide) rfl ?_
  intro p e s m args below meth c s₁ B hml hv
  obtain ⟨rfl, hH, hK, hN⟩ := hv
  have hx := B.exec
  have hb := B.bytes
  have hr := B.returns
  have hts := atoms_spec (ws := gws_Bk_isTape) B.pre
  have ht := fun (w : Cond) (h : w ∈ gt_T) => hts w (List.mem_cons_of_mem _ h)
  have hown : s.vm.findClass gR_Bk = some m.cls := findClass_of_methodNamed B.named
  have hlocks := B.notSynchronized
  have hA : ∀ q, (gq_A gk_vd ad) q → (gq_A gk_vd ad) q := fun _ h => h
  have hS : va_S (gq_A gk_vd ad) s.heap s.heap [] := va_S.rf
  have hl := lv_entry ([.ref (ad 0 0), .int p1, .int p2]) (n := 4) (Nat.le_of_ble_eq_true rfl)
  rw [lg_entry_eq]
  generalize (lg_sl ([.ref (ad 0 0), .int p1, .int p2]) ++ List.replicate (4 - (lg_sl ([.ref (ad 0 0), .int p1, .int p2])).length) Slot.unset).toArray = ls at hl ⊢
  have hl : lv_has ls 4 [(0, .ref (ad 0 0)), (1, .int p1), (2, .int p2)] := hl
  unfold fn_Bk_isTape at hf
  refine lv_aload_n hx hb gd_Bk_isTape_0 rfl (lv_at hl 0 rfl) ?_
  refine lv_iload_n hx hb gd_Bk_isTape_1 rfl (lv_at hl 1 rfl) ?_
  obtain ⟨⟨o3, u4⟩, hc2, hf⟩ := Option.bind_eq_some_iff.mp hf
  refine gq_calle (va_runV (As := [.int p1]) (rest := []) ⟨hx, hb, hml, hown, hts⟩ (ct_Bk_inBook l D cI cT ad hI u p1 (o3, u4) hc2) (cwV 1 hts (gt_V gt_147 gt_149 (gt_sel (List.mem_of_getElem? (i := 3) rfl)) gt_1 gt_150) rfl rfl rfl (by decide +kernel) ⟨Nat.le_of_ble_eq_true rfl, Nat.le_of_ble_eq_true rfl⟩) (gq_preV hH hK hN (va_recv hK (gq_one (c := 0) (k := 0) hH rfl (gk_c0 cI cT ad u)) (ci := 0) (q0 := 0) rfl rfl)) rfl rfl hl.1 rfl (lv_room (Nat.le_of_ble_eq_true rfl)) gd_Bk_isTape_2 ⟨Nat.zero_le _, Nat.zero_le _⟩) hA hS (fun H locs hH hS => ?_)
  cases o3 with
  | none =>
    have hH : gq_H D gc_cl gk_vd ad (gk_pc cI cT ad u4) H := hH
    refine W.eq (g2 := F0 m 5 ls [.null]) rfl ?_
    dsimp only at hf
    refine lv_astore_nN (lv' := [(3, .null), (0, .ref (ad 0 0)), (1, .int p1), (2, .int p2)]) hx hb gd_Bk_isTape_5 rfl hl (by decide) rfl (fun ls hl => ?_)
    refine lv_aload_nN hx hb gd_Bk_isTape_6 rfl (lv_at hl 0 rfl) ?_
    refine lv_ifnullN (tgt := 26) hx hb gd_Bk_isTape_7 (by decide) ?_
    refine lv_iconst (v := 0) hx hb gd_Bk_isTape_26 (by decide) ?_
    cases hf
    exact W.zret hx hb hr rfl (fun t ht hW => ⟨⟨_, _, rfl, ⟨rfl, rfl⟩, ⟨by rw [ht]; exact hH, va_K.moved hW.alike hK⟩⟩, hS.F ht⟩) hS.2.2 gd_Bk_isTape_27
  | some k5 =>
    have hH : gq_H D gc_cl gk_vd ad (gk_pc cI cT ad u4) H := hH
    refine W.eq (g2 := F0 m 5 ls [.ref (ad 7 k5)]) rfl ?_
    dsimp only at hf
    refine lv_astore_n (lv' := [(3, .ref (ad 7 k5)), (0, .ref (ad 0 0)), (1, .int p1), (2, .int p2)]) hx hb gd_Bk_isTape_5 rfl hl (by decide) rfl (fun ls hl => ?_)
    refine lv_aload_n hx hb gd_Bk_isTape_6 rfl (lv_at hl 0 rfl) ?_
    refine lv_ifnull hx hb gd_Bk_isTape_7 ?_
    refine lv_aload_n hx hb gd_Bk_isTape_10 rfl (lv_at hl 0 rfl) ?_
    refine lv_iload_n hx hb gd_Bk_isTape_11 rfl (lv_at hl 3 rfl) ?_
    refine lv_aload_n hx hb gd_Bk_isTape_12 rfl (lv_at hl 1 rfl) ?_
    refine va_get (D := D) (ci := 0) (C := gR_Bk) (T := gT_Bk) (N := 5) hx hb hts (fun w h => List.mem_cons_of_mem _ (gl_Bk w h)) hown hK (gq_one (c := 0) (k := 0) hH rfl (gk_c0 cI cT ad u4)) 0 rfl rfl 0 (by decide) (ht _ gt_85) (fun _ h9 => h9) rfl gd_Bk_isTape_13 ?_
    obtain ⟨z6, hc7, hf⟩ := Option.bind_eq_some_iff.mp hf
    refine gq_calli (va_runV (As := [.int p2, .ref (ad 6 100)]) (rest := []) ⟨hx, hb, hml, hown, hts⟩ (ct_Tm_compareWith l D cI cT ad hI u4 k5 (ok_Bk_inBook hc2) p2 100 (Nat.le_refl 100) z6 hc7) (cwV 2 hts (gt_V gt_151 gt_152 gt_153 gt_3 gt_154) rfl rfl rfl (by decide +kernel) ⟨Nat.le_of_ble_eq_true rfl, Nat.le_of_ble_eq_true rfl⟩) (gq_preV hH hK hN (va_recv hK (gq_one (c := 7) (k := k5) hH (ok_Bk_inBook hc2) (gk_c7 cI cT ad u4 k5)) (ci := 3) (q0 := 0) rfl rfl)) rfl rfl hl.1 rfl (lv_room (Nat.le_of_ble_eq_true rfl)) gd_Bk_isTape_16 ⟨Nat.zero_le _, Nat.zero_le _⟩) hA hS (fun H locs hH hS => ?_)
    refine lv_if_ne (tgt := 26) hx hb gd_Bk_isTape_19 (by decide) (fun c8 => ?_) (fun c8 => ?_)
    · replace hf := gj_e c8 hf
      refine lv_iconst (v := 0) hx hb gd_Bk_isTape_26 (by decide) ?_
      cases hf
      exact W.zret hx hb hr rfl (fun t ht hW => ⟨⟨_, _, rfl, ⟨rfl, rfl⟩, ⟨by rw [ht]; exact hH, va_K.moved hW.alike hK⟩⟩, hS.F ht⟩) hS.2.2 gd_Bk_isTape_27
    · replace hf := gj_t c8 hf
      refine lv_iconst (v := 1) hx hb gd_Bk_isTape_22 (by decide) ?_
      refine lv_goto (tgt := 27) hx hb gd_Bk_isTape_23 (by decide) ?_
      cases hf
      exact W.zret hx hb hr rfl (fun t ht hW => ⟨⟨_, _, rfl, ⟨rfl, rfl⟩, ⟨by rw [ht]; exact hH, va_K.moved hW.alike hK⟩⟩, hS.F ht⟩) hS.2.2 gd_Bk_isTape_27
set_option maxHeartbeats 4000000 in
set_option maxRecDepth 100000 in
theorem ct_Bk_leastFree (l : Launch) (D : va_G) (cI cT : ClassId) (ad : Nat → Nat → Nat) (hI : gq_I gk_vd ad) (u : gk_St)  (z : Int32 × gk_St) (hf : fn_Bk_leastFree u = some z) : Met l gy_Bk_leastFree gws_Bk_leastFree ({ frames := 1, cells := 0, slots := 0, locals := 22 }) (va_Pc [.ref (ad 0 0)] (gq_pre D gc_cl (gk_tys cI cT) gk_vd ad gk_NF gk_NM (gk_pc cI cT ad u))) (va_Qi (fun r u2 => r = z.1 ∧ u2 = z.2) (fun u2 t => gq_B D gc_cl (gk_tys cI cT) gk_vd ad (gk_pc cI cT ad u2) t) (gq_A gk_vd ad)) 0 0 (gq_A gk_vd ad) := by
  refine Met.ofW (cc := gb_Bk_leastFree) (maxL := 2) (ret := (some .int)) (by decide) rfl ?_
  intro p e s m args below meth c s₁ B hml hv
  obtain ⟨rfl, hH, hK, hN⟩ := hv
  have hx := B.exec
  have hb := B.bytes
  have hr := B.returns
  have hts := atoms_spec (ws := gws_Bk_leastFree) B.pre
  have ht := fun (w : Cond) (h : w ∈ gt_T) => hts w (List.mem_cons_of_mem _ h)
  have hown : s.vm.findClass gR_Bk = some m.cls := findClass_of_methodNamed B.named
  have hlocks := B.notSynchronized
  have hA : ∀ q, (gq_A gk_vd ad) q → (gq_A gk_vd ad) q := fun _ h => h
  have hS : va_S (gq_A gk_vd ad) s.heap s.heap [] := va_S.rf
  have hl := lv_entry ([.ref (ad 0 0)]) (n := 2) (Nat.le_of_ble_eq_true rfl)
  rw [lg_entry_eq]
  generalize (lg_sl ([.ref (ad 0 0)]) ++ List.replicate (2 - (lg_sl ([.ref (ad 0 0)])).length) Slot.unset).toArray = ls at hl ⊢
  have hl : lv_has ls 2 [(0, .ref (ad 0 0))] := hl
  have L2 : ∀ (n : Nat) (x1 : Int32) (u : gk_St) (H : Heap) (locs : List Loc) (ls : Array Slot), fn_Bk_leastFree_2 n x1 u = some z → gq_H D gc_cl gk_vd ad (gk_pc cI cT ad u) H → va_S (gq_A gk_vd ad) s.heap H locs → lv_has ls 2 [(0, .ref (ad 0 0)), (1, .int x1)] → W p l e (headSpec gws_Bk_leastFree ({ frames := 1, cells := 0, slots := 0, locals := 22 })).room s m ([.ref (ad 0 0)] : List Value).toArray below meth c H locs 0 0 (MQ below (va_Qi (fun r u2 => r = z.1 ∧ u2 = z.2) (fun u2 t => gq_B D gc_cl (gk_tys cI cT) gk_vd ad (gk_pc cI cT ad u2) t) (gq_A gk_vd ad)) ([.ref (ad 0 0)] : List Value).toArray s 0 0 (gq_A gk_vd ad)) (F0 m 2 ls []) := by
    intro n
    induction n with
    | zero =>
      intro x1 u H locs ls hf
      have h0 : none = some z := hf
      cases h0
    | succ n ih =>
      intro x1 u H locs ls hf hH hS hl
      rw [fn_Bk_leastFree_2] at hf
      refine lv_iload_n hx hb gd_Bk_leastFree_2 rfl (lv_at hl 1 rfl) ?_
      refine lv_bipush (v := 100) hx hb gd_Bk_leastFree_3 (by decide) ?_
      refine lv_icmp_ge (tgt := 24) hx hb gd_Bk_leastFree_5 (by decide) (fun c6 => ?_) (fun c6 => ?_)
      · replace hf := gj_t c6 hf
        refine lv_iconst (v := (-1)) hx hb gd_Bk_leastFree_24 (by decide) ?_
        cases hf
        exact W.iret hx hb hr (fun t ht hW => ⟨⟨_, _, rfl, ⟨rfl, rfl⟩, ⟨by rw [ht]; exact hH, va_K.moved hW.alike hK⟩⟩, hS.F ht⟩) hS.2.2 gd_Bk_leastFree_25
      · replace hf := gj_e c6 hf
        refine lv_aload_n hx hb gd_Bk_leastFree_8 rfl (lv_at hl 0 rfl) ?_
        refine lv_iload_n hx hb gd_Bk_leastFree_9 rfl (lv_at hl 1 rfl) ?_
        obtain ⟨⟨o3, u4⟩, hc2, hf⟩ := Option.bind_eq_some_iff.mp hf
        refine gq_calle (va_runV (As := [.int x1]) (rest := []) ⟨hx, hb, hml, hown, hts⟩ (ct_Bk_inBook l D cI cT ad hI u x1 (o3, u4) hc2) (cwV 1 hts (gt_V gt_147 gt_149 (gt_sel (List.mem_of_getElem? (i := 3) rfl)) gt_1 gt_150) rfl rfl rfl (by decide +kernel) ⟨Nat.le_of_ble_eq_true rfl, Nat.le_of_ble_eq_true rfl⟩) (gq_preV hH hK hN (va_recv hK (gq_one (c := 0) (k := 0) hH rfl (gk_c0 cI cT ad u)) (ci := 0) (q0 := 0) rfl rfl)) rfl rfl hl.1 rfl (lv_room (Nat.le_of_ble_eq_true rfl)) gd_Bk_leastFree_10 ⟨Nat.zero_le _, Nat.zero_le _⟩) hA hS (fun H locs hH hS => ?_)
        cases o3 with
        | none =>
          have hH : gq_H D gc_cl gk_vd ad (gk_pc cI cT ad u4) H := hH
          refine W.eq (g2 := F0 m 13 ls [.null]) rfl ?_
          dsimp only at hf
          refine lv_ifnonnullN hx hb gd_Bk_leastFree_13 ?_
          refine lv_iload_n hx hb gd_Bk_leastFree_16 rfl (lv_at hl 1 rfl) ?_
          cases hf
          exact W.iret hx hb hr (fun t ht hW => ⟨⟨_, _, rfl, ⟨rfl, rfl⟩, ⟨by rw [ht]; exact hH, va_K.moved hW.alike hK⟩⟩, hS.F ht⟩) hS.2.2 gd_Bk_leastFree_17
        | some k5 =>
          have hH : gq_H D gc_cl gk_vd ad (gk_pc cI cT ad u4) H := hH
          refine W.eq (g2 := F0 m 13 ls [.ref (ad 7 k5)]) rfl ?_
          dsimp only at hf
          refine lv_ifnonnull (tgt := 18) hx hb gd_Bk_leastFree_13 (by decide) ?_
          refine lv_iinc (v := x1 + 1) (lv' := [(1, .int (x1 + 1)), (0, .ref (ad 0 0))]) hx hb gd_Bk_leastFree_18 hl (k := 1) rfl rfl (by decide) rfl (fun ls hl => ?_)
          refine lv_goto (tgt := 2) hx hb gd_Bk_leastFree_21 (by decide) ?_
          exact ih (x1 + 1) u4 _ _ _ hf hH hS (lv_sub hl [1, 0] rfl)
  unfold fn_Bk_leastFree at hf
  refine lv_iconst (v := 0) hx hb gd_Bk_leastFree_0 (by decide) ?_
  refine lv_istore_n (lv' := [(1, .int 0), (0, .ref (ad 0 0))]) hx hb gd_Bk_leastFree_1 rfl hl (by decide) rfl (fun ls hl => ?_)
  exact L2 gk_fu 0 u _ _ _ hf hH hS (lv_sub hl [1, 0] rfl)
set_option maxHeartbeats 4000000 in
set_option maxRecDepth 100000 in
theorem ct_Tx_copyOf (l : Launch) (D : va_G) (cI cT : ClassId) (ad : Nat → Nat → Nat) (hI : gq_I gk_vd ad) (u : gk_St) (k : Nat) (hk : k ≤ 100) (q1 : Nat) (hq1 : q1 ≤ 100) (z : gk_St) (hf : fn_Tx_copyOf k q1 u = some z) : Met l gy_Tx_copyOf gws_Tx_copyOf ({ frames := 0, cells := 0, slots := 0, locals := 0 }) (va_Pc [.ref (ad 6 k), .ref (ad 6 q1)] (gq_pre D gc_cl (gk_tys cI cT) gk_vd ad gk_NF gk_NM (gk_pc cI cT ad u))) (va_Qv (fun u2 => u2 = z) (fun u2 t => gq_B D gc_cl (gk_tys cI cT) gk_vd ad (gk_pc cI cT ad u2) t) (gq_A gk_vd ad)) 0 0 (gq_A gk_vd ad) := by
  refine Met.ofW (cc := gb_Tx_copyOf) (maxL := 2) (ret := none) (by decide) rfl ?_
  intro p e s m args below meth c s₁ B hml hv
  obtain ⟨rfl, hH, hK, hN⟩ := hv
  have hx := B.exec
  have hb := B.bytes
  have hr := B.returns
  have hts := atoms_spec (ws := gws_Tx_copyOf) B.pre
  have ht := fun (w : Cond) (h : w ∈ gt_T) => hts w (List.mem_cons_of_mem _ h)
  have hown : s.vm.findClass gR_Tx = some m.cls := findClass_of_methodNamed B.named
  have hlocks := B.notSynchronized
  have hA : ∀ q, (gq_A gk_vd ad) q → (gq_A gk_vd ad) q := fun _ h => h
  have hS : va_S (gq_A gk_vd ad) s.heap s.heap [] := va_S.rf
  have hl := lv_entry ([.ref (ad 6 k), .ref (ad 6 q1)]) (n := 2) (Nat.le_of_ble_eq_true rfl)
  rw [lg_entry_eq]
  generalize (lg_sl ([.ref (ad 6 k), .ref (ad 6 q1)]) ++ List.replicate (2 - (lg_sl ([.ref (ad 6 k), .ref (ad 6 q1)])).length) Slot.unset).toArray = ls at hl ⊢
  have hl : lv_has ls 2 [(0, .ref (ad 6 k)), (1, .ref (ad 6 q1))] := hl
  unfold fn_Tx_copyOf at hf
  refine lv_aload_n hx hb gd_Tx_copyOf_0 rfl (lv_at hl 0 rfl) ?_
  refine lv_aload_n hx hb gd_Tx_copyOf_1 rfl (lv_at hl 1 rfl) ?_
  refine va_get (D := D) (ci := 2) (C := gR_Tx) (T := gT_Tx) (N := 3) hx hb hts (fun w h => List.mem_cons_of_mem _ (gl_Tx w h)) hown hK (gq_one (c := 6) (k := q1) hH hq1 (gk_c6 cI cT ad u q1)) 0 rfl rfl 0 (by decide) (ht _ gt_23) (fun _ h9 => h9) rfl gd_Tx_copyOf_2 ?_
  refine gq_put (D := D) (ci := 2) (C := gR_Tx) (T := gT_Tx) (N := 3) (ca := 6) (ka := k) (pp' := gk_pc cI cT ad (gk_sL u 0 k (u.2 0 q1))) (ty := .long) hx hb hts (fun w h => List.mem_cons_of_mem _ (gl_Tx w h)) gF_Tx gf_Tx gn_Tx hown hK hH hI hA hk (gk_c6 cI cT ad u k) rfl 0 (by decide) (ht _ gt_23) (fun _ h9 => h9) rfl (by decide +kernel) rfl rfl (Nat.le_of_ble_eq_true rfl) (gk_w0L cI cT ad u k (u.2 0 q1)) (gk_o0L cI cT ad u k (u.2 0 q1)) hS gd_Tx_copyOf_5 (fun H locs hH hS => ?_)
  refine lv_aload_n hx hb gd_Tx_copyOf_8 rfl (lv_at hl 0 rfl) ?_
  refine lv_aload_n hx hb gd_Tx_copyOf_9 rfl (lv_at hl 1 rfl) ?_
  refine va_get (D := D) (ci := 2) (C := gR_Tx) (T := gT_Tx) (N := 3) hx hb hts (fun w h => List.mem_cons_of_mem _ (gl_Tx w h)) hown hK (gq_one (c := 6) (k := q1) hH hq1 (gk_c6 cI cT ad (gk_sL u 0 k (u.2 0 q1)) q1)) 0 rfl rfl 1 (by decide) (ht _ gt_24) (fun _ h9 => h9) rfl gd_Tx_copyOf_10 ?_
  refine gq_put (D := D) (ci := 2) (C := gR_Tx) (T := gT_Tx) (N := 3) (ca := 6) (ka := k) (pp' := gk_pc cI cT ad (gk_sL (gk_sL u 0 k (u.2 0 q1)) 1 k ((gk_sL u 0 k (u.2 0 q1)).2 1 q1))) (ty := .long) hx hb hts (fun w h => List.mem_cons_of_mem _ (gl_Tx w h)) gF_Tx gf_Tx gn_Tx hown hK hH hI hA hk (gk_c6 cI cT ad (gk_sL u 0 k (u.2 0 q1)) k) rfl 1 (by decide) (ht _ gt_24) (fun _ h9 => h9) rfl (by decide +kernel) rfl rfl (Nat.le_of_ble_eq_true rfl) (gk_w1L cI cT ad (gk_sL u 0 k (u.2 0 q1)) k ((gk_sL u 0 k (u.2 0 q1)).2 1 q1)) (gk_o1L cI cT ad (gk_sL u 0 k (u.2 0 q1)) k ((gk_sL u 0 k (u.2 0 q1)).2 1 q1)) hS gd_Tx_copyOf_13 (fun H locs hH hS => ?_)
  refine lv_aload_n hx hb gd_Tx_copyOf_16 rfl (lv_at hl 0 rfl) ?_
  refine lv_aload_n hx hb gd_Tx_copyOf_17 rfl (lv_at hl 1 rfl) ?_
  refine va_get (D := D) (ci := 2) (C := gR_Tx) (T := gT_Tx) (N := 3) hx hb hts (fun w h => List.mem_cons_of_mem _ (gl_Tx w h)) hown hK (gq_one (c := 6) (k := q1) hH hq1 (gk_c6 cI cT ad (gk_sL (gk_sL u 0 k (u.2 0 q1)) 1 k ((gk_sL u 0 k (u.2 0 q1)).2 1 q1)) q1)) 0 rfl rfl 2 (by decide) (ht _ gt_25) (fun _ h9 => h9) rfl gd_Tx_copyOf_18 ?_
  refine gq_put (D := D) (ci := 2) (C := gR_Tx) (T := gT_Tx) (N := 3) (ca := 6) (ka := k) (pp' := gk_pc cI cT ad (gk_sI (gk_sL (gk_sL u 0 k (u.2 0 q1)) 1 k ((gk_sL u 0 k (u.2 0 q1)).2 1 q1)) 0 k ((gk_sL (gk_sL u 0 k (u.2 0 q1)) 1 k ((gk_sL u 0 k (u.2 0 q1)).2 1 q1)).1 0 q1))) (ty := .int) hx hb hts (fun w h => List.mem_cons_of_mem _ (gl_Tx w h)) gF_Tx gf_Tx gn_Tx hown hK hH hI hA hk (gk_c6 cI cT ad (gk_sL (gk_sL u 0 k (u.2 0 q1)) 1 k ((gk_sL u 0 k (u.2 0 q1)).2 1 q1)) k) rfl 2 (by decide) (ht _ gt_25) (fun _ h9 => h9) rfl (by decide +kernel) rfl rfl (Nat.le_of_ble_eq_true rfl) (gk_w0 cI cT ad (gk_sL (gk_sL u 0 k (u.2 0 q1)) 1 k ((gk_sL u 0 k (u.2 0 q1)).2 1 q1)) k ((gk_sL (gk_sL u 0 k (u.2 0 q1)) 1 k ((gk_sL u 0 k (u.2 0 q1)).2 1 q1)).1 0 q1)) (gk_o0 cI cT ad (gk_sL (gk_sL u 0 k (u.2 0 q1)) 1 k ((gk_sL u 0 k (u.2 0 q1)).2 1 q1)) k ((gk_sL (gk_sL u 0 k (u.2 0 q1)) 1 k ((gk_sL u 0 k (u.2 0 q1)).2 1 q1)).1 0 q1)) hS gd_Tx_copyOf_21 (fun H locs hH hS => ?_)
  cases hf
  exact W.vret hx hb hr (fun t ht hW => ⟨⟨_, rfl, rfl, ⟨by rw [ht]; exact hH, va_K.moved hW.alike hK⟩⟩, hS.F ht⟩) hS.2.2 gd_Tx_copyOf_24
set_option maxHeartbeats 4000000 in
set_option maxRecDepth 100000 in
theorem ct_Tm_comeAs (l : Launch) (D : va_G) (cI cT : ClassId) (ad : Nat → Nat → Nat) (hI : gq_I gk_vd ad) (u : gk_St) (k : Nat) (hk : k < 100) (p1 : Int32) (q2 : Nat) (hq2 : q2 ≤ 100) (z : gk_St) (hf : fn_Tm_comeAs k p1 q2 u = some z) : Met l gy_Tm_comeAs gws_Tm_comeAs ({ frames := 1, cells := 0, slots := 0, locals := 21 }) (va_Pc [.ref (ad 7 k), .int p1, .ref (ad 6 q2)] (gq_pre D gc_cl (gk_tys cI cT) gk_vd ad gk_NF gk_NM (gk_pc cI cT ad u))) (va_Qv (fun u2 => u2 = z) (fun u2 t => gq_B D gc_cl (gk_tys cI cT) gk_vd ad (gk_pc cI cT ad u2) t) (gq_A gk_vd ad)) 0 0 (gq_A gk_vd ad) := by
  refine Met.ofW (cc := gb_Tm_comeAs) (maxL := 3) (ret := none) (by decide) rfl ?_
  intro p e s m args below meth c s₁ B hml hv
  obtain ⟨rfl, hH, hK, hN⟩ := hv
  have hx := B.exec
  have hb := B.bytes
  have hr := B.returns
  have hts := atoms_spec (ws := gws_Tm_comeAs) B.pre
  have ht := fun (w : Cond) (h : w ∈ gt_T) => hts w (List.mem_cons_of_mem _ h)
  have hown : s.vm.findClass gR_Tm = some m.cls := findClass_of_methodNamed B.named
  have hlocks := B.notSynchronized
  have hA : ∀ q, (gq_A gk_vd ad) q → (gq_A gk_vd ad) q := fun _ h => h
  have hS : va_S (gq_A gk_vd ad) s.heap s.heap [] := va_S.rf
  have hl := lv_entry ([.ref (ad 7 k), .int p1, .ref (ad 6 q2)]) (n := 3) (Nat.le_of_ble_eq_true rfl)
  rw [lg_entry_eq]
  generalize (lg_sl ([.ref (ad 7 k), .int p1, .ref (ad 6 q2)]) ++ List.replicate (3 - (lg_sl ([.ref (ad 7 k), .int p1, .ref (ad 6 q2)])).length) Slot.unset).toArray = ls at hl ⊢
  have hl : lv_has ls 3 [(0, .ref (ad 7 k)), (1, .int p1), (2, .ref (ad 6 q2))] := hl
  unfold fn_Tm_comeAs at hf
  refine lv_aload_n hx hb gd_Tm_comeAs_0 rfl (lv_at hl 0 rfl) ?_
  refine va_get (D := D) (ci := 3) (C := gR_Tm) (T := gT_Tm) (N := 5) hx hb hts (fun w h => List.mem_cons_of_mem _ (gl_Tm w h)) hown hK (gq_one (c := 7) (k := k) hH hk (gk_c7 cI cT ad u k)) 0 rfl rfl 0 (by decide) (ht _ gt_43) (fun _ h9 => h9) rfl gd_Tm_comeAs_1 ?_
  refine lv_aload_n hx hb gd_Tm_comeAs_4 rfl (lv_at hl 2 rfl) ?_
  obtain ⟨z1, hc2, hf⟩ := Option.bind_eq_some_iff.mp hf
  refine gq_callv (va_runV (As := [.ref (ad 6 q2)]) (rest := []) ⟨hx, hb, hml, hown, hts⟩ (ct_Tx_copyOf l D cI cT ad hI u k (Nat.le_of_lt hk) q2 hq2 z1 hc2) (cwV 1 hts (gt_V gt_181 gt_182 gt_183 gt_2 gt_184) rfl rfl rfl (by decide +kernel) ⟨Nat.le_of_ble_eq_true rfl, Nat.le_of_ble_eq_true rfl⟩) (gq_preV hH hK hN (va_recv hK (gq_one (c := 6) (k := k) hH (Nat.le_of_lt hk) (gk_c6 cI cT ad u k)) (ci := 2) (q0 := 0) rfl rfl)) rfl rfl hl.1 rfl (lv_room (Nat.le_of_ble_eq_true rfl)) gd_Tm_comeAs_5 ⟨Nat.zero_le _, Nat.zero_le _⟩) hA hS (fun H locs hH hS => ?_)
  refine lv_aload_n hx hb gd_Tm_comeAs_8 rfl (lv_at hl 0 rfl) ?_
  refine lv_iload_n hx hb gd_Tm_comeAs_9 rfl (lv_at hl 1 rfl) ?_
  refine gq_put (D := D) (ci := 3) (C := gR_Tm) (T := gT_Tm) (N := 5) (ca := 7) (ka := k) (pp' := gk_pc cI cT ad (gk_sI z1 2 k p1)) (ty := .int) hx hb hts (fun w h => List.mem_cons_of_mem _ (gl_Tm w h)) gF_Tm gf_Tm gn_Tm hown hK hH hI hA hk (gk_c7 cI cT ad z1 k) rfl 2 (by decide) (ht _ gt_47) (fun _ h9 => h9) rfl (by decide +kernel) rfl rfl (Nat.le_of_ble_eq_true rfl) (gk_w2 cI cT ad z1 k p1) (gk_o2 cI cT ad z1 k p1) hS gd_Tm_comeAs_10 (fun H locs hH hS => ?_)
  refine lv_aload_n hx hb gd_Tm_comeAs_13 rfl (lv_at hl 0 rfl) ?_
  refine lv_iconst (v := 0) hx hb gd_Tm_comeAs_14 (by decide) ?_
  refine gq_put (D := D) (ci := 3) (C := gR_Tm) (T := gT_Tm) (N := 5) (ca := 7) (ka := k) (pp' := gk_pc cI cT ad (gk_sI (gk_sI z1 2 k p1) 3 k 0)) (ty := .int) hx hb hts (fun w h => List.mem_cons_of_mem _ (gl_Tm w h)) gF_Tm gf_Tm gn_Tm hown hK hH hI hA hk (gk_c7 cI cT ad (gk_sI z1 2 k p1) k) rfl 3 (by decide) (ht _ gt_49) (fun _ h9 => h9) rfl (by decide +kernel) rfl rfl (Nat.le_of_ble_eq_true rfl) (gk_w3 cI cT ad (gk_sI z1 2 k p1) k 0) (gk_o3 cI cT ad (gk_sI z1 2 k p1) k 0) hS gd_Tm_comeAs_15 (fun H locs hH hS => ?_)
  refine lv_aload_n hx hb gd_Tm_comeAs_18 rfl (lv_at hl 0 rfl) ?_
  refine lv_iconst (v := 0) hx hb gd_Tm_comeAs_19 (by decide) ?_
  refine gq_put (D := D) (ci := 3) (C := gR_Tm) (T := gT_Tm) (N := 5) (ca := 7) (ka := k) (pp' := gk_pc cI cT ad (gk_sI (gk_sI (gk_sI z1 2 k p1) 3 k 0) 4 k 0)) (ty := .int) hx hb hts (fun w h => List.mem_cons_of_mem _ (gl_Tm w h)) gF_Tm gf_Tm gn_Tm hown hK hH hI hA hk (gk_c7 cI cT ad (gk_sI (gk_sI z1 2 k p1) 3 k 0) k) rfl 4 (by decide) (ht _ gt_51) (fun _ h9 => h9) rfl (by decide +kernel) rfl rfl (Nat.le_of_ble_eq_true rfl) (gk_w4 cI cT ad (gk_sI (gk_sI z1 2 k p1) 3 k 0) k 0) (gk_o4 cI cT ad (gk_sI (gk_sI z1 2 k p1) 3 k 0) k 0) hS gd_Tm_comeAs_20 (fun H locs hH hS => ?_)
  refine lv_aload_n hx hb gd_Tm_comeAs_23 rfl (lv_at hl 0 rfl) ?_
  refine lv_iconst (v := 1) hx hb gd_Tm_comeAs_24 (by decide) ?_
  refine gq_put (D := D) (ci := 3) (C := gR_Tm) (T := gT_Tm) (N := 5) (ca := 7) (ka := k) (pp' := gk_pc cI cT ad (gk_sI (gk_sI (gk_sI (gk_sI z1 2 k p1) 3 k 0) 4 k 0) 1 k 1)) (ty := .boolean) hx hb hts (fun w h => List.mem_cons_of_mem _ (gl_Tm w h)) gF_Tm gf_Tm gn_Tm hown hK hH hI hA hk (gk_c7 cI cT ad (gk_sI (gk_sI (gk_sI z1 2 k p1) 3 k 0) 4 k 0) k) rfl 1 (by decide) (ht _ gt_45) (fun _ h9 => h9) rfl (by decide +kernel) rfl rfl (Nat.le_of_ble_eq_true rfl) (gk_w1 cI cT ad (gk_sI (gk_sI (gk_sI z1 2 k p1) 3 k 0) 4 k 0) k 1) (gk_o1 cI cT ad (gk_sI (gk_sI (gk_sI z1 2 k p1) 3 k 0) 4 k 0) k 1) hS gd_Tm_comeAs_25 (fun H locs hH hS => ?_)
  cases hf
  exact W.vret hx hb hr (fun t ht hW => ⟨⟨_, rfl, rfl, ⟨by rw [ht]; exact hH, va_K.moved hW.alike hK⟩⟩, hS.F ht⟩) hS.2.2 gd_Tm_comeAs_28
set_option maxHeartbeats 4000000 in
set_option maxRecDepth 100000 in
theorem ct_Lv_sizeOf (l : Launch) (D : va_G) (cI cT : ClassId) (ad : Nat → Nat → Nat) (hI : gq_I gk_vd ad) (u : gk_St) (p1 : Int32) (z : Int32 × gk_St) (hf : fn_Lv_sizeOf p1 u = some z) : Met l gy_Lv_sizeOf gws_Lv_sizeOf ({ frames := 0, cells := 0, slots := 0, locals := 0 }) (va_Pc [.ref (ad 2 0), .int p1] (gq_pre D gc_cl (gk_tys cI cT) gk_vd ad gk_NF gk_NM (gk_pc cI cT ad u))) (va_Qi (fun r u2 => r = z.1 ∧ u2 = z.2) (fun u2 t => gq_B D gc_cl (gk_tys cI cT) gk_vd ad (gk_pc cI cT ad u2) t) (gq_A gk_vd ad)) 0 0 (gq_A gk_vd ad) := by
  refine Met.ofW (cc := gb_Lv_sizeOf) (maxL := 2) (ret := (some .int)) (by decide) rfl ?_
  intro p e s m args below meth c s₁ B hml hv
  obtain ⟨rfl, hH, hK, hN⟩ := hv
  have hx := B.exec
  have hb := B.bytes
  have hr := B.returns
  have hts := atoms_spec (ws := gws_Lv_sizeOf) B.pre
  have ht := fun (w : Cond) (h : w ∈ gt_T) => hts w (List.mem_cons_of_mem _ h)
  have hown : s.vm.findClass gR_Lv = some m.cls := findClass_of_methodNamed B.named
  have hlocks := B.notSynchronized
  have hA : ∀ q, (gq_A gk_vd ad) q → (gq_A gk_vd ad) q := fun _ h => h
  have hS : va_S (gq_A gk_vd ad) s.heap s.heap [] := va_S.rf
  have hl := lv_entry ([.ref (ad 2 0), .int p1]) (n := 2) (Nat.le_of_ble_eq_true rfl)
  rw [lg_entry_eq]
  generalize (lg_sl ([.ref (ad 2 0), .int p1]) ++ List.replicate (2 - (lg_sl ([.ref (ad 2 0), .int p1])).length) Slot.unset).toArray = ls at hl ⊢
  have hl : lv_has ls 2 [(0, .ref (ad 2 0)), (1, .int p1)] := hl
  unfold fn_Lv_sizeOf at hf
  refine lv_iload_n hx hb gd_Lv_sizeOf_0 rfl (lv_at hl 1 rfl) ?_
  refine lv_if_lt (tgt := 30) hx hb gd_Lv_sizeOf_1 (by decide) (fun c4 => ?_) (fun c4 => ?_)
  · replace hf := gj_t c4 hf
    refine lv_iconst (v := 0) hx hb gd_Lv_sizeOf_30 (by decide) ?_
    cases hf
    exact W.iret hx hb hr (fun t ht hW => ⟨⟨_, _, rfl, ⟨rfl, rfl⟩, ⟨by rw [ht]; exact hH, va_K.moved hW.alike hK⟩⟩, hS.F ht⟩) hS.2.2 gd_Lv_sizeOf_31
  · replace hf := gj_e c4 hf
    refine lv_iload_n hx hb gd_Lv_sizeOf_4 rfl (lv_at hl 1 rfl) ?_
    refine lv_aload_n hx hb gd_Lv_sizeOf_5 rfl (lv_at hl 0 rfl) ?_
    refine va_get (D := D) (ci := 1) (C := gR_Lv) (T := gT_Lv) (N := 4) hx hb hts (fun w h => List.mem_cons_of_mem _ (gl_Lv w h)) hown hK (gq_one (c := 2) (k := 0) hH rfl (gk_c2 cI cT ad u)) 0 rfl rfl 3 (by decide) (ht _ gt_73) (fun _ h9 => h9) rfl gd_Lv_sizeOf_6 ?_
    refine lv_icmp_ge (tgt := 30) hx hb gd_Lv_sizeOf_9 (by decide) (fun c3 => ?_) (fun c3 => ?_)
    · replace hf := gj_t c3 hf
      refine lv_iconst (v := 0) hx hb gd_Lv_sizeOf_30 (by decide) ?_
      cases hf
      exact W.iret hx hb hr (fun t ht hW => ⟨⟨_, _, rfl, ⟨rfl, rfl⟩, ⟨by rw [ht]; exact hH, va_K.moved hW.alike hK⟩⟩, hS.F ht⟩) hS.2.2 gd_Lv_sizeOf_31
    · replace hf := gj_e c3 hf
      refine lv_iload_n hx hb gd_Lv_sizeOf_12 rfl (lv_at hl 1 rfl) ?_
      refine lv_aload_n hx hb gd_Lv_sizeOf_13 rfl (lv_at hl 0 rfl) ?_
      refine va_get (D := D) (ci := 1) (C := gR_Lv) (T := gT_Lv) (N := 4) hx hb hts (fun w h => List.mem_cons_of_mem _ (gl_Lv w h)) hown hK (gq_one (c := 2) (k := 0) hH rfl (gk_c2 cI cT ad u)) 0 rfl rfl 2 (by decide) (ht _ gt_72) (fun _ h9 => h9) rfl gd_Lv_sizeOf_14 ?_
      refine va_alen (D := D) (v := 100) hx hb hK (gq_one (c := 4) (k := 0) hH rfl (gk_c4 cI cT ad u)) 0 0 rfl rfl rfl gd_Lv_sizeOf_17 ?_
      refine lv_icmp_ge (tgt := 30) hx hb gd_Lv_sizeOf_18 (by decide) (fun c2 => ?_) (fun c2 => ?_)
      · replace hf := gj_t c2 hf
        refine lv_iconst (v := 0) hx hb gd_Lv_sizeOf_30 (by decide) ?_
        cases hf
        exact W.iret hx hb hr (fun t ht hW => ⟨⟨_, _, rfl, ⟨rfl, rfl⟩, ⟨by rw [ht]; exact hH, va_K.moved hW.alike hK⟩⟩, hS.F ht⟩) hS.2.2 gd_Lv_sizeOf_31
      · replace hf := gj_e c2 hf
        refine lv_aload_n hx hb gd_Lv_sizeOf_21 rfl (lv_at hl 0 rfl) ?_
        refine va_get (D := D) (ci := 1) (C := gR_Lv) (T := gT_Lv) (N := 4) hx hb hts (fun w h => List.mem_cons_of_mem _ (gl_Lv w h)) hown hK (gq_one (c := 2) (k := 0) hH rfl (gk_c2 cI cT ad u)) 0 rfl rfl 2 (by decide) (ht _ gt_72) (fun _ h9 => h9) rfl gd_Lv_sizeOf_22 ?_
        refine lv_iload_n hx hb gd_Lv_sizeOf_25 rfl (lv_at hl 1 rfl) ?_
        obtain ⟨hg1, hf⟩ := gj_g hf
        refine va_iald (D := D) hx hb hK (gq_one (c := 4) (k := 0) hH rfl (gk_c4 cI cT ad u)) 0 0 rfl rfl hg1 gd_Lv_sizeOf_26 ?_
        refine lv_goto (tgt := 31) hx hb gd_Lv_sizeOf_27 (by decide) ?_
        cases hf
        exact W.iret hx hb hr (fun t ht hW => ⟨⟨_, _, rfl, ⟨rfl, rfl⟩, ⟨by rw [ht]; exact hH, va_K.moved hW.alike hK⟩⟩, hS.F ht⟩) hS.2.2 gd_Lv_sizeOf_31
set_option maxHeartbeats 4000000 in
set_option maxRecDepth 100000 in
theorem ct_Lv_leafOf (l : Launch) (D : va_G) (cI cT : ClassId) (ad : Nat → Nat → Nat) (hI : gq_I gk_vd ad) (u : gk_St) (p1 : Int32) (z : Int32 × gk_St) (hf : fn_Lv_leafOf p1 u = some z) : Met l gy_Lv_leafOf gws_Lv_leafOf ({ frames := 1, cells := 0, slots := 0, locals := 21 }) (va_Pc [.ref (ad 2 0), .int p1] (gq_pre D gc_cl (gk_tys cI cT) gk_vd ad gk_NF gk_NM (gk_pc cI cT ad u))) (va_Qi (fun r u2 => r = z.1 ∧ u2 = z.2) (fun u2 t => gq_B D gc_cl (gk_tys cI cT) gk_vd ad (gk_pc cI cT ad u2) t) (gq_A gk_vd ad)) 0 0 (gq_A gk_vd ad) := by
  refine Met.ofW (cc := gb_Lv_leafOf) (maxL := 4) (ret := (some .int)) (by decide) rfl ?_
  intro p e s m args below meth c s₁ B hml hv
  obtain ⟨rfl, hH, hK, hN⟩ := hv
  have hx := B.exec
  have hb := B.bytes
  have hr := B.returns
  have hts := atoms_spec (ws := gws_Lv_leafOf) B.pre
  have ht := fun (w : Cond) (h : w ∈ gt_T) => hts w (List.mem_cons_of_mem _ h)
  have hown : s.vm.findClass gR_Lv = some m.cls := findClass_of_methodNamed B.named
  have hlocks := B.notSynchronized
  have hA : ∀ q, (gq_A gk_vd ad) q → (gq_A gk_vd ad) q := fun _ h => h
  have hS : va_S (gq_A gk_vd ad) s.heap s.heap [] := va_S.rf
  have hl := lv_entry ([.ref (ad 2 0), .int p1]) (n := 4) (Nat.le_of_ble_eq_true rfl)
  rw [lg_entry_eq]
  generalize (lg_sl ([.ref (ad 2 0), .int p1]) ++ List.replicate (4 - (lg_sl ([.ref (ad 2 0), .int p1])).length) Slot.unset).toArray = ls at hl ⊢
  have hl : lv_has ls 4 [(0, .ref (ad 2 0)), (1, .int p1)] := hl
  have L4 : ∀ (n : Nat) (x1 : Int32) (x2 : Int32) (x3 : Int32) (u : gk_St) (H : Heap) (locs : List Loc) (ls : Array Slot), fn_Lv_leafOf_4 n x1 x2 x3 u = some z → gq_H D gc_cl gk_vd ad (gk_pc cI cT ad u) H → va_S (gq_A gk_vd ad) s.heap H locs → lv_has ls 4 [(0, .ref (ad 2 0)), (1, .int x1), (2, .int x2), (3, .int x3)] → W p l e (headSpec gws_Lv_leafOf ({ frames := 1, cells := 0, slots := 0, locals := 21 })).room s m ([.ref (ad 2 0), .int p1] : List Value).toArray below meth c H locs 0 0 (MQ below (va_Qi (fun r u2 => r = z.1 ∧ u2 = z.2) (fun u2 t => gq_B D gc_cl (gk_tys cI cT) gk_vd ad (gk_pc cI cT ad u2) t) (gq_A gk_vd ad)) ([.ref (ad 2 0), .int p1] : List Value).toArray s 0 0 (gq_A gk_vd ad)) (F0 m 4 ls []) := by
    intro n
    induction n with
    | zero =>
      intro x1 x2 x3 u H locs ls hf
      have h0 : none = some z := hf
      cases h0
    | succ n ih =>
      intro x1 x2 x3 u H locs ls hf hH hS hl
      rw [fn_Lv_leafOf_4] at hf
      refine lv_iload_n hx hb gd_Lv_leafOf_4 rfl (lv_at hl 3 rfl) ?_
      refine lv_aload_n hx hb gd_Lv_leafOf_5 rfl (lv_at hl 0 rfl) ?_
      refine va_get (D := D) (ci := 1) (C := gR_Lv) (T := gT_Lv) (N := 4) hx hb hts (fun w h => List.mem_cons_of_mem _ (gl_Lv w h)) hown hK (gq_one (c := 2) (k := 0) hH rfl (gk_c2 cI cT ad u)) 0 rfl rfl 3 (by decide) (ht _ gt_73) (fun _ h9 => h9) rfl gd_Lv_leafOf_6 ?_
      refine lv_icmp_ge (tgt := 33) hx hb gd_Lv_leafOf_9 (by decide) (fun c4 => ?_) (fun c4 => ?_)
      · replace hf := gj_t c4 hf
        refine lv_aload_n hx hb gd_Lv_leafOf_33 rfl (lv_at hl 0 rfl) ?_
        refine va_get (D := D) (ci := 1) (C := gR_Lv) (T := gT_Lv) (N := 4) hx hb hts (fun w h => List.mem_cons_of_mem _ (gl_Lv w h)) hown hK (gq_one (c := 2) (k := 0) hH rfl (gk_c2 cI cT ad u)) 0 rfl rfl 3 (by decide) (ht _ gt_73) (fun _ h9 => h9) rfl gd_Lv_leafOf_34 ?_
        refine lv_iconst (v := 1) hx hb gd_Lv_leafOf_37 (by decide) ?_
        refine lv_isub hx hb gd_Lv_leafOf_38 ?_
        refine lv_iconst (v := 0) hx hb gd_Lv_leafOf_39 (by decide) ?_
        refine va_mmax hx hb (hml.trans hl.1.symm) hown (ht _ gt_197) (ht _ gt_198) (ht _ gt_8) (ht _ gt_199) (Nat.le_of_ble_eq_true rfl) (Nat.le_of_ble_eq_true rfl) (Nat.zero_le _) (Nat.zero_le _) gd_Lv_leafOf_40 ?_
        refine W.eq (g2 := F0 m 43 ls (.int (fn_Ma_max ((u.1 8 0) - 1) 0) :: [])) rfl ?_
        cases hf
        exact W.iret hx hb hr (fun t ht hW => ⟨⟨_, _, rfl, ⟨rfl, rfl⟩, ⟨by rw [ht]; exact hH, va_K.moved hW.alike hK⟩⟩, hS.F ht⟩) hS.2.2 gd_Lv_leafOf_43
      · replace hf := gj_e c4 hf
        refine lv_iload_n hx hb gd_Lv_leafOf_12 rfl (lv_at hl 2 rfl) ?_
        refine lv_aload_n hx hb gd_Lv_leafOf_13 rfl (lv_at hl 0 rfl) ?_
        refine lv_iload_n hx hb gd_Lv_leafOf_14 rfl (lv_at hl 3 rfl) ?_
        obtain ⟨z1, hc2, hf⟩ := Option.bind_eq_some_iff.mp hf
        refine gq_calli (va_runV (As := [.int x3]) (rest := [.int x2]) ⟨hx, hb, hml, hown, hts⟩ (ct_Lv_sizeOf l D cI cT ad hI u x3 z1 hc2) (cwV 1 hts (gt_V gt_193 gt_194 gt_195 gt_4 gt_196) rfl rfl rfl (by decide +kernel) ⟨Nat.le_of_ble_eq_true rfl, Nat.le_of_ble_eq_true rfl⟩) (gq_preV hH hK hN (va_recv hK (gq_one (c := 2) (k := 0) hH rfl (gk_c2 cI cT ad u)) (ci := 1) (q0 := 0) rfl rfl)) rfl rfl hl.1 rfl (lv_room (Nat.le_of_ble_eq_true rfl)) gd_Lv_leafOf_15 ⟨Nat.zero_le _, Nat.zero_le _⟩) hA hS (fun H locs hH hS => ?_)
        refine lv_iadd hx hb gd_Lv_leafOf_18 ?_
        refine lv_istore_n (lv' := [(2, .int (x2 + z1.1)), (0, .ref (ad 2 0)), (1, .int x1), (3, .int x3)]) hx hb gd_Lv_leafOf_19 rfl hl (by decide) rfl (fun ls hl => ?_)
        refine lv_iload_n hx hb gd_Lv_leafOf_20 rfl (lv_at hl 0 rfl) ?_
        refine lv_iload_n hx hb gd_Lv_leafOf_21 rfl (lv_at hl 2 rfl) ?_
        refine lv_icmp_le (tgt := 27) hx hb gd_Lv_leafOf_22 (by decide) (fun c3 => ?_) (fun c3 => ?_)
        · replace hf := gj_t c3 hf
          refine lv_iinc (v := x3 + 1) (lv' := [(3, .int (x3 + 1)), (2, .int (x2 + z1.1)), (0, .ref (ad 2 0)), (1, .int x1)]) hx hb gd_Lv_leafOf_27 hl (k := 3) rfl rfl (by decide) rfl (fun ls hl => ?_)
          refine lv_goto (tgt := 4) hx hb gd_Lv_leafOf_30 (by decide) ?_
          exact ih x1 (x2 + z1.1) (x3 + 1) z1.2 _ _ _ hf hH hS (lv_sub hl [2, 3, 1, 0] rfl)
        · replace hf := gj_e c3 hf
          refine lv_iload_n hx hb gd_Lv_leafOf_25 rfl (lv_at hl 3 rfl) ?_
          cases hf
          exact W.iret hx hb hr (fun t ht hW => ⟨⟨_, _, rfl, ⟨rfl, rfl⟩, ⟨by rw [ht]; exact hH, va_K.moved hW.alike hK⟩⟩, hS.F ht⟩) hS.2.2 gd_Lv_leafOf_26
  unfold fn_Lv_leafOf at hf
  refine lv_iconst (v := 0) hx hb gd_Lv_leafOf_0 (by decide) ?_
  refine lv_istore_n (lv' := [(2, .int 0), (0, .ref (ad 2 0)), (1, .int p1)]) hx hb gd_Lv_leafOf_1 rfl hl (by decide) rfl (fun ls hl => ?_)
  refine lv_iconst (v := 0) hx hb gd_Lv_leafOf_2 (by decide) ?_
  refine lv_istore_n (lv' := [(3, .int 0), (2, .int 0), (0, .ref (ad 2 0)), (1, .int p1)]) hx hb gd_Lv_leafOf_3 rfl hl (by decide) rfl (fun ls hl => ?_)
  exact L4 gk_fu p1 0 0 u _ _ _ hf hH hS (lv_sub hl [2, 3, 1, 0] rfl)
set_option maxHeartbeats 4000000 in
set_option maxRecDepth 100000 in
theorem ct_Lv_resize (l : Launch) (D : va_G) (cI cT : ClassId) (ad : Nat → Nat → Nat) (hI : gq_I gk_vd ad) (u : gk_St) (p1 : Int32) (p2 : Int32) (z : gk_St) (hf : fn_Lv_resize p1 p2 u = some z) : Met l gy_Lv_resize gws_Lv_resize ({ frames := 0, cells := 0, slots := 0, locals := 0 }) (va_Pc [.ref (ad 2 0), .int p1, .int p2] (gq_pre D gc_cl (gk_tys cI cT) gk_vd ad gk_NF gk_NM (gk_pc cI cT ad u))) (va_Qv (fun u2 => u2 = z) (fun u2 t => gq_B D gc_cl (gk_tys cI cT) gk_vd ad (gk_pc cI cT ad u2) t) (gq_A gk_vd ad)) 0 0 (gq_A gk_vd ad) := by
  refine Met.ofW (cc := gb_Lv_resize) (maxL := 3) (ret := none) (by decide) rfl ?_
  intro p e s m args below meth c s₁ B hml hv
  obtain ⟨rfl, hH, hK, hN⟩ := hv
  have hx := B.exec
  have hb := B.bytes
  have hr := B.returns
  have hts := atoms_spec (ws := gws_Lv_resize) B.pre
  have ht := fun (w : Cond) (h : w ∈ gt_T) => hts w (List.mem_cons_of_mem _ h)
  have hown : s.vm.findClass gR_Lv = some m.cls := findClass_of_methodNamed B.named
  have hlocks := B.notSynchronized
  have hA : ∀ q, (gq_A gk_vd ad) q → (gq_A gk_vd ad) q := fun _ h => h
  have hS : va_S (gq_A gk_vd ad) s.heap s.heap [] := va_S.rf
  have hl := lv_entry ([.ref (ad 2 0), .int p1, .int p2]) (n := 3) (Nat.le_of_ble_eq_true rfl)
  rw [lg_entry_eq]
  generalize (lg_sl ([.ref (ad 2 0), .int p1, .int p2]) ++ List.replicate (3 - (lg_sl ([.ref (ad 2 0), .int p1, .int p2])).length) Slot.unset).toArray = ls at hl ⊢
  have hl : lv_has ls 3 [(0, .ref (ad 2 0)), (1, .int p1), (2, .int p2)] := hl
  unfold fn_Lv_resize at hf
  refine lv_iload_n hx hb gd_Lv_resize_0 rfl (lv_at hl 1 rfl) ?_
  refine lv_if_lt (tgt := 31) hx hb gd_Lv_resize_1 (by decide) (fun c5 => ?_) (fun c5 => ?_)
  · replace hf := gj_t c5 hf
    cases hf
    exact W.vret hx hb hr (fun t ht hW => ⟨⟨_, rfl, rfl, ⟨by rw [ht]; exact hH, va_K.moved hW.alike hK⟩⟩, hS.F ht⟩) hS.2.2 gd_Lv_resize_31
  · replace hf := gj_e c5 hf
    refine lv_iload_n hx hb gd_Lv_resize_4 rfl (lv_at hl 1 rfl) ?_
    refine lv_aload_n hx hb gd_Lv_resize_5 rfl (lv_at hl 0 rfl) ?_
    refine va_get (D := D) (ci := 1) (C := gR_Lv) (T := gT_Lv) (N := 4) hx hb hts (fun w h => List.mem_cons_of_mem _ (gl_Lv w h)) hown hK (gq_one (c := 2) (k := 0) hH rfl (gk_c2 cI cT ad u)) 0 rfl rfl 3 (by decide) (ht _ gt_73) (fun _ h9 => h9) rfl gd_Lv_resize_6 ?_
    refine lv_icmp_ge (tgt := 31) hx hb gd_Lv_resize_9 (by decide) (fun c4 => ?_) (fun c4 => ?_)
    · replace hf := gj_t c4 hf
      cases hf
      exact W.vret hx hb hr (fun t ht hW => ⟨⟨_, rfl, rfl, ⟨by rw [ht]; exact hH, va_K.moved hW.alike hK⟩⟩, hS.F ht⟩) hS.2.2 gd_Lv_resize_31
    · replace hf := gj_e c4 hf
      refine lv_iload_n hx hb gd_Lv_resize_12 rfl (lv_at hl 1 rfl) ?_
      refine lv_aload_n hx hb gd_Lv_resize_13 rfl (lv_at hl 0 rfl) ?_
      refine va_get (D := D) (ci := 1) (C := gR_Lv) (T := gT_Lv) (N := 4) hx hb hts (fun w h => List.mem_cons_of_mem _ (gl_Lv w h)) hown hK (gq_one (c := 2) (k := 0) hH rfl (gk_c2 cI cT ad u)) 0 rfl rfl 2 (by decide) (ht _ gt_72) (fun _ h9 => h9) rfl gd_Lv_resize_14 ?_
      refine va_alen (D := D) (v := 100) hx hb hK (gq_one (c := 4) (k := 0) hH rfl (gk_c4 cI cT ad u)) 0 0 rfl rfl rfl gd_Lv_resize_17 ?_
      refine lv_icmp_ge (tgt := 31) hx hb gd_Lv_resize_18 (by decide) (fun c3 => ?_) (fun c3 => ?_)
      · replace hf := gj_t c3 hf
        cases hf
        exact W.vret hx hb hr (fun t ht hW => ⟨⟨_, rfl, rfl, ⟨by rw [ht]; exact hH, va_K.moved hW.alike hK⟩⟩, hS.F ht⟩) hS.2.2 gd_Lv_resize_31
      · replace hf := gj_e c3 hf
        refine lv_aload_n hx hb gd_Lv_resize_21 rfl (lv_at hl 0 rfl) ?_
        refine va_get (D := D) (ci := 1) (C := gR_Lv) (T := gT_Lv) (N := 4) hx hb hts (fun w h => List.mem_cons_of_mem _ (gl_Lv w h)) hown hK (gq_one (c := 2) (k := 0) hH rfl (gk_c2 cI cT ad u)) 0 rfl rfl 2 (by decide) (ht _ gt_72) (fun _ h9 => h9) rfl gd_Lv_resize_22 ?_
        refine lv_iload_n hx hb gd_Lv_resize_25 rfl (lv_at hl 1 rfl) ?_
        refine lv_dup2_11 hx hb gd_Lv_resize_26 rfl rfl ?_
        obtain ⟨hg1, hf⟩ := gj_g hf
        refine va_iald (D := D) hx hb hK (gq_one (c := 4) (k := 0) hH rfl (gk_c4 cI cT ad u)) 0 0 rfl rfl hg1 gd_Lv_resize_27 ?_
        refine lv_iload_n hx hb gd_Lv_resize_28 rfl (lv_at hl 2 rfl) ?_
        refine lv_iadd hx hb gd_Lv_resize_29 ?_
        obtain ⟨hg2, hf⟩ := gj_g hf
        refine gq_iast (D := D) (ca := 4) (ka := 0) (pp' := gk_pc cI cT ad (gk_sI u 7 (Int32.toNatClampNeg p1) ((u.1 7 (Int32.toNatClampNeg p1)) + p2))) hx hb hK hH hI hA rfl (gk_c4 cI cT ad u) 0 rfl hg2 (gk_w7 cI cT ad u (Int32.toNatClampNeg p1) ((u.1 7 (Int32.toNatClampNeg p1)) + p2)) (gk_o7 cI cT ad u (Int32.toNatClampNeg p1) ((u.1 7 (Int32.toNatClampNeg p1)) + p2)) hS gd_Lv_resize_30 (fun H locs hH hS => ?_)
        cases hf
        exact W.vret hx hb hr (fun t ht hW => ⟨⟨_, rfl, rfl, ⟨by rw [ht]; exact hH, va_K.moved hW.alike hK⟩⟩, hS.F ht⟩) hS.2.2 gd_Lv_resize_31
