/-! the constructors of Text, Term and Leaves -/
theorem gw_K1 {D : va_G} {cl : List vw_C} {s : State} {cA : ClassId} {ty : FieldType} {tys : List (ClassId × FieldType)} (hK : va_K D cl tys s) (h1 : ArrOfT s cA ty) (h2 : va_RA s cA ty) : va_K D cl [(cA, ty)] s := by
  refine ⟨hK.1, fun k q hk => ?_⟩
  match k, hk with
  | 0, hk => cases hk; exact ⟨h1, h2⟩
  | k + 1, hk => simp at hk
theorem gw_S {A : Nat → Prop} {H0 H H1 : Heap} {locs : List Loc} (h : va_S A H0 H locs) (z : H.size ≤ H1.size) (o : ∀ q : Nat, q < H.size → H1[q]? = H[q]?) : va_S A H0 H1 locs :=
  ⟨Nat.le_trans h.1 z, fun q h1 h2 => (o q (Nat.lt_of_lt_of_le h1 h.1)).trans (h.2.1 q h1 h2), h.2.2⟩
set_option maxHeartbeats 4000000 in
set_option maxRecDepth 100000 in
theorem ct_Tx_init (l : Launch) (h0 sz : Nat) : Met l gy_Tx_init gws_Tx_init ({ frames := 1, cells := 0, slots := 0, locals := 12 }) (va_Pc [.ref h0] (fun U => U.heap.size = sz)) (va_Qv (fun _ : Unit => True) (fun _ t => t.heap.size = sz) (fun _ => False)) 0 0 (fun _ => False) := by
  refine Met.ofW (cc := gb_Tx_init) (maxL := 1) (ret := none) (by decide) rfl ?_
  intro p e s m args below meth c s₁ B hml hv
  obtain ⟨rfl, hsz⟩ := hv
  have hx := B.exec
  have hb := B.bytes
  have hr := B.returns
  have hts := atoms_spec (ws := gws_Tx_init) B.pre
  have ht := fun (w : Cond) (h : w ∈ gt_T) => hts w (List.mem_cons_of_mem _ h)
  have hown : s.vm.findClass gR_Tx = some m.cls := findClass_of_methodNamed B.named
  have hlocks := B.notSynchronized
  have hS : va_S (fun _ => False) s.heap s.heap [] := va_S.rf
  have hl := lv_entry ([.ref h0]) (n := 1) (Nat.le_of_ble_eq_true rfl)
  rw [lg_entry_eq]
  generalize (lg_sl ([.ref h0]) ++ List.replicate (1 - (lg_sl ([.ref h0])).length) Slot.unset).toArray = ls at hl ⊢
  have hl : lv_has ls 1 [(0, .ref h0)] := hl
  refine lv_aload_n hx hb gd_Tx_init_0 rfl (lv_at hl 0 rfl) ?_
  refine W.objInit hx hb hown (ht _ gt_22) (ht _ gt_15) (ht _ gt_16) rfl (by rw [hml]; exact hl.1) rfl gd_Tx_init_1 (Nat.le_of_ble_eq_true rfl) (Nat.le_of_ble_eq_true rfl) ?_
  refine W.eq (g2 := F0 m 4 ls []) rfl ?_
  exact W.vret hx hb hr (fun t ht hW => ⟨⟨(), rfl, trivial, by dsimp only; rw [ht]; exact hsz⟩, hS.F ht⟩) hS.2.2 gd_Tx_init_4
set_option maxHeartbeats 4000000 in
set_option maxRecDepth 100000 in
theorem ct_Tm_init (l : Launch) (D : va_G) (h0 sz : Nat) : Met l gy_Tm_init gws_Tm_init ({ frames := 2, cells := 1, slots := 3, locals := 32 }) (va_Pc [.ref h0] (fun U => U.heap.size = sz ∧ va_at D gc_cl (h0, .inr (3, [.null, .int 0, .int 0, .int 0, .int 0])) U.heap ∧ va_K D gc_cl [] U ∧ gq_N gk_NF gk_NM U)) (va_Qv (fun _ : Unit => True) (fun _ t => t.heap.size = sz + 1 ∧ va_at D gc_cl (h0, .inr (3, [.ref sz, .int 0, .int 0, .int 0, .int 0])) t.heap ∧ va_at D gc_cl (sz, .inr (2, [.long 0, .long 0, .int 0])) t.heap) (fun q => q = h0 ∨ sz ≤ q)) 1 3 (fun q => q = h0 ∨ sz ≤ q) := by
  refine Met.ofW (cc := gb_Tm_init) (maxL := 1) (ret := none) (by decide) rfl ?_
  intro p e s m args below meth c s₁ B hml hv
  obtain ⟨rfl, hsz, hP, hK, hN⟩ := hv
  subst hsz
  have hx := B.exec
  have hb := B.bytes
  have hr := B.returns
  have hts := atoms_spec (ws := gws_Tm_init) B.pre
  have ht := fun (w : Cond) (h : w ∈ gt_T) => hts w (List.mem_cons_of_mem _ h)
  have hown : s.vm.findClass gR_Tm = some m.cls := findClass_of_methodNamed B.named
  have hlocks := B.notSynchronized
  have hin : meth.name = "<init>" := (name_of_methodNamed B.named B.method).1
  have hlt := hP.lt
  have hS : va_S (fun q => q = h0 ∨ s.heap.size ≤ q) s.heap s.heap [] := va_S.rf
  have hl := lv_entry ([.ref h0]) (n := 1) (Nat.le_of_ble_eq_true rfl)
  rw [lg_entry_eq]
  generalize (lg_sl ([.ref h0]) ++ List.replicate (1 - (lg_sl ([.ref h0])).length) Slot.unset).toArray = ls at hl ⊢
  have hl : lv_has ls 1 [(0, .ref h0)] := hl
  refine lv_aload_n hx hb gd_Tm_init_0 rfl (lv_at hl 0 rfl) ?_
  refine W.objInit hx hb hown (ht _ gt_40) (ht _ gt_15) (ht _ gt_16) rfl (by rw [hml]; exact hl.1) rfl gd_Tm_init_1 (Nat.le_of_ble_eq_true rfl) (Nat.le_of_ble_eq_true rfl) ?_
  refine W.eq (g2 := F0 m 4 ls []) rfl ?_
  refine lv_aload_n hx hb gd_Tm_init_4 rfl (lv_at hl 0 rfl) ?_
  refine gw_new (D := D) (cl := gc_cl) (ci := 2) (fs := [.long 0, .long 0, .int 0]) (C := gR_Tx) (T := gT_Tx) (N := 3) hx hb hts (fun w h => List.mem_cons_of_mem _ (gl_Tx w h)) gF_Tx gf_Tx hown (ht _ gt_41) (ht _ gt_18) (ht _ gt_2) hK rfl (fun j hj => by rcases (show j = 0 ∨ j = 1 ∨ j = 2 by omega) with rfl | rfl | rfl <;> rfl) (Nat.le_of_ble_eq_true rfl) (Nat.le_of_ble_eq_true rfl) gd_Tm_init_5 (fun H1 a1 z1 o1 => ?_)
  have hS1 := gw_S hS (by omega) o1
  refine lv_dup hx hb gd_Tm_init_8 rfl ?_
  refine va_callv (va_runIN (As := []) (rest := [.ref s.heap.size, .ref h0]) ⟨hx, hb, hml, hown, hts⟩ (ct_Tx_init l s.heap.size H1.size) ⟨va_cnB 0 hts (gt_good gt_21) rfl rfl rfl (hN.2 _ (List.mem_of_getElem? (i := 1) rfl)) (ht _ gt_2) (by decide +kernel) ⟨Nat.le_of_ble_eq_true rfl, Nat.le_of_ble_eq_true rfl⟩, rfl, ht _ gt_20⟩ ⟨fun a U g mk q => ⟨q.1, q.2⟩, fun U hU hW => ⟨rfl, by dsimp only; rw [hU]⟩⟩ rfl rfl hl.1 rfl (lv_room (Nat.le_of_ble_eq_true rfl)) gd_Tm_init_9 ⟨Nat.le_of_ble_eq_true rfl, Nat.le_of_ble_eq_true rfl⟩) hS1 (fun q _ h => h.elim) (fun q h => h.elim) (fun u t H2 locs2 ht2 hvm hw hB hz2 hk2 hS2 => ?_)
  rw [ht2] at hB
  have hP2 := (hP.kept (o1 _ hlt)).kept (hk2 h0 (by omega) (fun h => h))
  have a2 := a1.kept (hk2 _ (by omega) (fun h => h))
  refine gw_putF (D := D) (cl := gc_cl) (ci := 3) (ty := .object "TermBook$Text") (C := gR_Tm) (T := gT_Tm) (N := 5) hx hb hts (fun w h => List.mem_cons_of_mem _ (gl_Tm w h)) gF_Tm gf_Tm gn_Tm hown hK hP2 rfl 0 (by decide) (ht _ gt_43) (fun _ h9 => h9) rfl hin rfl (by decide +kernel) rfl rfl (Nat.le_of_ble_eq_true rfl) gd_Tm_init_12 (fun H3 i a3 z3 o3 => ?_)
  have hS3 := va_S.put (k := i) hS2 z3 o3 (Or.inl rfl)
  exact W.vret hx hb hr (fun t ht hW => ⟨⟨(), rfl, trivial, by dsimp only; rw [ht]; exact ⟨by omega, a3, a2.kept (o3 _ (show s.heap.size ≠ h0 by omega))⟩⟩, hS3.F ht⟩) hS3.2.2 gd_Tm_init_15
set_option maxHeartbeats 4000000 in
set_option maxRecDepth 100000 in
theorem ct_Lv_init (l : Launch) (D : va_G) (h0 sz : Nat) : Met l gy_Lv_init gws_Lv_init ({ frames := 1, cells := 2, slots := 200, locals := 12 }) (va_Pc [.ref h0] (fun U => U.heap.size = sz ∧ va_at D gc_cl (h0, .inr (1, [.null, .int 0, .null, .int 0])) U.heap ∧ va_K D gc_cl [] U)) (va_Qv (fun _ : Unit => True) (fun _ t => ∃ cI : ClassId, t.heap.size = sz + 2 ∧ va_K D gc_cl [(cI, .int)] t ∧ va_at D gc_cl (h0, .inr (1, [.ref sz, .int 0, .ref (sz + 1), .int 0])) t.heap ∧ va_at D gc_cl (sz, .inl (cI, 100, .inl (fun _ => 0))) t.heap ∧ va_at D gc_cl (sz + 1, .inl (cI, 100, .inl (fun _ => 0))) t.heap) (fun q => q = h0 ∨ sz ≤ q)) 2 200 (fun q => q = h0 ∨ sz ≤ q) := by
  refine Met.ofW (cc := gb_Lv_init) (maxL := 1) (ret := none) (by decide) rfl ?_
  intro p e s m args below meth c s₁ B hml hv
  obtain ⟨rfl, hsz, hP, hK⟩ := hv
  subst hsz
  have hx := B.exec
  have hb := B.bytes
  have hr := B.returns
  have hts := atoms_spec (ws := gws_Lv_init) B.pre
  have ht := fun (w : Cond) (h : w ∈ gt_T) => hts w (List.mem_cons_of_mem _ h)
  have hown : s.vm.findClass gR_Lv = some m.cls := findClass_of_methodNamed B.named
  have hlocks := B.notSynchronized
  have hin : meth.name = "<init>" := (name_of_methodNamed B.named B.method).1
  have hlt := hP.lt
  have hS : va_S (fun q => q = h0 ∨ s.heap.size ≤ q) s.heap s.heap [] := va_S.rf
  have hl := lv_entry ([.ref h0]) (n := 1) (Nat.le_of_ble_eq_true rfl)
  rw [lg_entry_eq]
  generalize (lg_sl ([.ref h0]) ++ List.replicate (1 - (lg_sl ([.ref h0])).length) Slot.unset).toArray = ls at hl ⊢
  have hl : lv_has ls 1 [(0, .ref h0)] := hl
  refine lv_aload_n hx hb gd_Lv_init_0 rfl (lv_at hl 0 rfl) ?_
  refine W.objInit hx hb hown (ht _ gt_68) (ht _ gt_15) (ht _ gt_16) rfl (by rw [hml]; exact hl.1) rfl gd_Lv_init_1 (Nat.le_of_ble_eq_true rfl) (Nat.le_of_ble_eq_true rfl) ?_
  refine W.eq (g2 := F0 m 4 ls []) rfl ?_
  refine lv_aload_n hx hb gd_Lv_init_4 rfl (lv_at hl 0 rfl) ?_
  refine lv_bipush (v := 100) hx hb gd_Lv_init_5 (by decide) ?_
  refine gw_newi (D := D) (cl := gc_cl) (N' := 100) hx hb (ht _ gt_84) (by decide) rfl (by decide) (Nat.le_of_ble_eq_true rfl) (Nat.le_of_ble_eq_true rfl) gd_Lv_init_7 (fun cI H1 hAr hRA a1 z1 o1 => ?_)
  have hS1 := gw_S hS (by omega) o1
  have hP1 := hP.kept (o1 _ hlt)
  refine gw_putF (D := D) (cl := gc_cl) (ci := 1) (ty := .array .int) (C := gR_Lv) (T := gT_Lv) (N := 4) hx hb hts (fun w h => List.mem_cons_of_mem _ (gl_Lv w h)) gF_Lv gf_Lv gn_Lv hown hK hP1 rfl 0 (by decide) (ht _ gt_69) (fun _ h9 => h9) rfl hin rfl (by decide +kernel) rfl rfl (Nat.le_of_ble_eq_true rfl) gd_Lv_init_9 (fun H2 i2 hP2 z2 o2 => ?_)
  have hS2 := va_S.put (k := i2) hS1 z2 o2 (Or.inl rfl)
  have a2 := a1.kept (o2 _ (show s.heap.size ≠ h0 by omega))
  refine lv_aload_n hx hb gd_Lv_init_12 rfl (lv_at hl 0 rfl) ?_
  refine lv_bipush (v := 100) hx hb gd_Lv_init_13 (by decide) ?_
  refine gw_newi (D := D) (cl := gc_cl) (N' := 100) hx hb (ht _ gt_84) (by decide) rfl (by decide) (Nat.le_of_ble_eq_true rfl) (Nat.le_of_ble_eq_true rfl) gd_Lv_init_15 (fun cJ H3 hAr3 hRA3 a3 z3 o3 => ?_)
  obtain rfl : cI = cJ := Option.some.inj (Eq.trans (Eq.symm (show s.vm.findClass ("[" ++ FieldType.int.toString) = some cI from hRA)) hRA3)
  have hS3 := gw_S hS2 (by omega) o3
  have hP3 := hP2.kept (o3 _ (show h0 < H2.size by omega))
  have a23 := a2.kept (o3 _ (show s.heap.size < H2.size by omega))
  have e2 : H2.size = s.heap.size + 1 := by omega
  rw [e2] at a3 ⊢
  refine gw_putF (D := D) (cl := gc_cl) (ci := 1) (ty := .array .int) (C := gR_Lv) (T := gT_Lv) (N := 4) hx hb hts (fun w h => List.mem_cons_of_mem _ (gl_Lv w h)) gF_Lv gf_Lv gn_Lv hown hK hP3 rfl 2 (by decide) (ht _ gt_72) (fun _ h9 => h9) rfl hin rfl (by decide +kernel) rfl rfl (Nat.le_of_ble_eq_true rfl) gd_Lv_init_17 (fun H4 i4 hP4 z4 o4 => ?_)
  have hS4 := va_S.put (k := i4) hS3 z4 o4 (Or.inl rfl)
  exact W.vret hx hb hr (fun t ht hW => ⟨⟨(), rfl, trivial, cI, by rw [ht]; omega, va_K.moved hW.alike (gw_K1 hK hAr hRA), by rw [ht]; exact hP4, by rw [ht]; exact a23.kept (o4 _ (show s.heap.size ≠ h0 by omega)), by rw [ht]; exact a3.kept (o4 _ (show s.heap.size + 1 ≠ h0 by omega))⟩, hS4.F ht⟩) hS4.2.2 gd_Lv_init_20
