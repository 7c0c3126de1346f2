/-! the reference's constructor -/
def gm_ad (h sz : Nat) : Nat → Nat → Nat
  | 0, _ => h
  | c + 1, _ => sz + c
theorem gm_ad_I {h sz : Nat} (hh : h < sz) : gq_I gm_vd (gm_ad h sz) := by
  intro c k c' k' hv hv' e
  have v0 : ∀ c k, gm_vd c k → k = 0 := by
    intro c k hv
    unfold gm_vd at hv
    split at hv <;> first | exact hv | exact hv.elim
  have k0 := v0 c k hv
  have k0' := v0 c' k' hv'
  match c, c', e with
  | 0, 0, _ => exact ⟨rfl, by omega⟩
  | 0, n + 1, e => have e : h = sz + n := e; omega
  | n + 1, 0, e => have e : sz + n = h := e; omega
  | n + 1, n' + 1, e => have e : sz + n = sz + n' := e; omega
def ga_0 : ga_A := fun _ _ => 0
theorem gw_arr {s : State} {args : Array Value} (hi : (Cond.arrayClass .int).before args s = true) (hz : (Cond.arrayClass .boolean).before args s = true) : ∃ cI cZ : ClassId, (ArrOfT s cI .int ∧ va_RA s cI .int) ∧ ArrOfT s cZ .boolean ∧ va_RA s cZ .boolean := by
  obtain ⟨cI, kI, comp, f1, f2, f3⟩ := Cond.arrayClass_spec hi
  obtain ⟨cZ, kZ, comp2, g1, g2, g3⟩ := Cond.arrayClass_spec hz
  exact ⟨cI, cZ, ⟨fun n z => ⟨fun k h => (by cases h), kI, f2, comp, f3⟩, f1⟩, fun n z => ⟨fun k h => (by cases h), kZ, g2, comp2, g3⟩, g1⟩
section GX
variable {p : Program} {l : Launch} {e : Env} {R : Room} {s : State} {m : MethodId} {args : Array Value} {below : List Frame} {meth : Method} {c : Code} {H : Heap} {locs : List Loc} {cells slots : Nat} {Q : State → Prop}
variable {cc : ByteArray} {pc : Nat} {ls : Array Slot} {rest st0 : List Value} {D : va_G} {cl : List vw_C} {tys : List (ClassId × FieldType)}
theorem gx_newi (hexec : p.tables.exec = Jvm.exec) (hb : c.code = cc) (harr : (Cond.arrayClass .int).before args s = true) {cI : ClassId} (hI : va_RA s cI .int)
    {n : Int32} {N' : Nat} (hn : ¬ n < 0) (hN : n.toNatClampNeg = N') (hbytes : N' * componentBytes .int ≤ 536870912) (hcells : cells + 1 ≤ R.cells) (hslots : slots + N' ≤ R.slots) (hdg : decode cc pc = .ok (.newarray .int, 2)) {h : Nat} (hh : H.size = h)
    (kk : ∀ H1 : Heap, va_at D cl (h, .inl (cI, N', .inl (fun _ => 0))) H1 → H1.size = h + 1 → (∀ q : Nat, q < h → H1[q]? = H[q]?) →
      W p l e R s m args below meth c H1 locs (cells + 1) (slots + N') Q (F0 m (pc + 2) ls (.ref h :: rest))) : W p l e R s m args below meth c H locs cells slots Q (F0 m pc ls (.int n :: rest)) := by
  subst hh
  refine gw_newi (D := D) (cl := cl) hexec hb harr hn hN hbytes hcells hslots hdg (fun cJ H1 hAr hRA a1 z1 o1 => ?_)
  obtain rfl : cI = cJ := Option.some.inj (Eq.trans (Eq.symm (show s.vm.findClass ("[" ++ FieldType.int.toString) = some cI from hI)) hRA)
  exact kk H1 a1 z1 o1
theorem gx_newz (hexec : p.tables.exec = Jvm.exec) (hb : c.code = cc) (harr : (Cond.arrayClass .boolean).before args s = true) {cZ : ClassId} (hZ : va_RA s cZ .boolean)
    {n : Int32} {N' : Nat} (hn : ¬ n < 0) (hN : n.toNatClampNeg = N') (hbytes : N' * componentBytes .boolean ≤ 536870912) (hcells : cells + 1 ≤ R.cells) (hslots : slots + N' ≤ R.slots) (hdg : decode cc pc = .ok (.newarray .boolean, 2)) {h : Nat} (hh : H.size = h)
    (kk : ∀ H1 : Heap, va_at D cl (h, .inl (cZ, N', .inl (fun _ => 0))) H1 → H1.size = h + 1 → (∀ q : Nat, q < h → H1[q]? = H[q]?) →
      W p l e R s m args below meth c H1 locs (cells + 1) (slots + N') Q (F0 m (pc + 2) ls (.ref h :: rest))) : W p l e R s m args below meth c H locs cells slots Q (F0 m pc ls (.int n :: rest)) := by
  subst hh
  refine va_newaK (atype := .boolean) hexec hb harr (g := F0 m pc ls (.int n :: rest)) rfl hdg rfl hn hN hbytes hcells hslots rfl fun H1 cJ e1 z1 o1 hAr hNm => ?_
  obtain rfl : cZ = cJ := Option.some.inj (Eq.trans (Eq.symm (show s.vm.findClass ("[" ++ FieldType.boolean.toString) = some cZ from hZ)) hNm)
  exact kk H1 (by show H1[H.size]? = some (vp_cell _ _); rw [vp_cell_i]; exact e1) z1 o1
end GX
theorem gx_F {D : va_G} {h0 sz j : Nat} {X : Nat → va_E} {H H1 H2 : Heap} (F : ∀ c, c < j → va_at D gc_cl (sz + c, X c) H) (hh : h0 < sz) (a1 : va_at D gc_cl (sz + j, X j) H1) (o1 : ∀ q : Nat, q < sz + j → H1[q]? = H[q]?) (o2 : ∀ q : Nat, q ≠ h0 → H2[q]? = H1[q]?) : ∀ c, c < j + 1 → va_at D gc_cl (sz + c, X c) H2 := by
  intro c hc
  by_cases q : c = j
  · subst q
    exact a1.kept (o2 _ (show sz + c ≠ h0 by omega))
  · exact (F c (by omega)).kept ((o2 _ (show sz + c ≠ h0 by omega)).trans (o1 _ (show sz + c < sz + j by omega)))
abbrev gi_BM (D : va_G) (h0 sz : Nat) : Unit → State → Prop := fun _ t => ∃ cI cZ : ClassId, t.heap.size = sz + 11 ∧ va_K D gc_cl (gm_tys cI cZ) t ∧ gq_H D gc_cl gm_vd (gm_ad h0 sz) (gm_pc cI cZ (gm_ad h0 sz) (ga_v ga_0)) t.heap
abbrev gi_rM : Room := { frames := 1, cells := 11, slots := 2925, locals := 12 }
set_option maxHeartbeats 4000000 in
set_option maxRecDepth 100000 in
theorem ct_Md_init (l : Launch) (D : va_G) (h0 sz : Nat) : Met l gy_Md_init gws_Md_init gi_rM (va_Pc [.ref h0] (fun U => U.heap.size = sz ∧ va_at D gc_cl (h0, .inr (4, [.int 0, .null, .null, .null, .null, .null, .null, .int 0, .null, .int 0, .null, .int 0, .int 0, .null, .null, .null])) U.heap ∧ va_K D gc_cl [] U)) (va_Qv (fun _ : Unit => True) (gi_BM D h0 sz) (gi_A h0 sz)) 11 2925 (gi_A h0 sz) := by
  refine Met.ofW (cc := gb_Md_init) (maxL := 1) (ret := none) (by decide) rfl ?_
  intro p e s m args below meth c s₁ B hml hv
  obtain ⟨rfl, hz0, hP, hK⟩ := hv
  have hx := B.exec
  have hb := B.bytes
  have hr := B.returns
  have hts := atoms_spec (ws := gws_Md_init) B.pre
  have ht := fun (w : Cond) (h : w ∈ gt_T) => hts w (List.mem_cons_of_mem _ h)
  have hown : s.vm.findClass gR_Md = some m.cls := findClass_of_methodNamed B.named
  have hlocks := B.notSynchronized
  have hin : meth.name = "<init>" := (name_of_methodNamed B.named B.method).1
  have hlt : h0 < sz := by rw [← hz0]; exact hP.lt
  have hS : va_S (gi_A h0 sz) s.heap s.heap [] := va_S.rf
  obtain ⟨cI, cZ, ⟨hI1, hI2⟩, hZ1, hZ2⟩ := gw_arr (ht _ gt_84) (ht _ gt_418)
  have hl := lv_entry ([.ref h0]) (n := 1) (Nat.le_of_ble_eq_true rfl)
  rw [lg_entry_eq]
  generalize (lg_sl ([.ref h0]) ++ List.replicate (1 - (lg_sl ([.ref h0])).length) Slot.unset).toArray = ls at hl ⊢
  have hl : lv_has ls 1 [(0, .ref h0)] := hl
  refine lv_aload_n hx hb gd_Md_init_0 rfl (lv_at hl 0 rfl) ?_
  refine W.objInit hx hb hown (ht _ gt_368) (ht _ gt_15) (ht _ gt_16) rfl (by rw [hml]; exact hl.1) rfl gd_Md_init_1 (Nat.le_of_ble_eq_true rfl) (Nat.le_of_ble_eq_true rfl) ?_
  refine W.eq (g2 := F0 m 4 ls []) rfl ?_
  have F0' : ∀ c, c < 0 → va_at D gc_cl (sz + c, gm_pc cI cZ (gm_ad h0 sz) (ga_v ga_0) (c + 1) 0) s.heap := fun c h => absurd h (by omega)
  refine lv_aload_n hx hb gd_Md_init_4 rfl (lv_at hl 0 rfl) ?_
  refine lv_bipush (v := 16) hx hb gd_Md_init_5 (by decide) ?_
  refine gx_newi (D := D) (cl := gc_cl) (N' := 16) (h := sz + 0) hx hb (ht _ gt_84) hI2 (by decide) rfl (by decide) (Nat.le_of_ble_eq_true rfl) (Nat.le_of_ble_eq_true rfl) gd_Md_init_7 (by omega) (fun A1 a1 za o1 => ?_)
  have hSa := gw_S (H1 := A1) hS (by omega) (fun q hq => o1 q (by omega))
  have hP1 := hP.kept (o1 _ (show h0 < sz + 0 by omega))
  refine gw_putF (D := D) (cl := gc_cl) (ci := 4) (ty := .array .int) (C := gR_Md) (T := gT_Md) (N := 16) hx hb hts (fun w h => List.mem_cons_of_mem _ (gl_Md w h)) gF_Md gf_Md gn_Md hown hK hP1 rfl 1 (by decide) (ht _ gt_370) (fun _ h9 => h9) rfl hin rfl (by decide +kernel) rfl rfl (Nat.le_of_ble_eq_true rfl) gd_Md_init_9 (fun B1 i2 hP2 zb o2 => ?_)
  have hS1 := va_S.put (k := i2) hSa zb o2 (Or.inl rfl)
  have F1 := gx_F (X := fun c => gm_pc cI cZ (gm_ad h0 sz) (ga_v ga_0) (c + 1) 0) F0' hlt a1 o1 o2
  have z1 : B1.size = sz + 1 := by omega
  have hP : va_at D gc_cl (h0, .inr (4, [.int 0, .ref (sz + 0), .null, .null, .null, .null, .null, .int 0, .null, .int 0, .null, .int 0, .int 0, .null, .null, .null])) B1 := hP2
  clear a1 za o1 hSa hP1 hP2 zb o2
  refine lv_aload_n hx hb gd_Md_init_12 rfl (lv_at hl 0 rfl) ?_
  refine lv_bipush (v := 100) hx hb gd_Md_init_13 (by decide) ?_
  refine gx_newz (D := D) (cl := gc_cl) (N' := 100) (h := sz + 1) hx hb (ht _ gt_418) hZ2 (by decide) rfl (by decide) (Nat.le_of_ble_eq_true rfl) (Nat.le_of_ble_eq_true rfl) gd_Md_init_15 (by omega) (fun A2 a1 za o1 => ?_)
  have hSa := gw_S (H1 := A2) hS1 (by omega) (fun q hq => o1 q (by omega))
  have hP1 := hP.kept (o1 _ (show h0 < sz + 1 by omega))
  refine gw_putF (D := D) (cl := gc_cl) (ci := 4) (ty := .array .boolean) (C := gR_Md) (T := gT_Md) (N := 16) hx hb hts (fun w h => List.mem_cons_of_mem _ (gl_Md w h)) gF_Md gf_Md gn_Md hown hK hP1 rfl 2 (by decide) (ht _ gt_371) (fun _ h9 => h9) rfl hin rfl (by decide +kernel) rfl rfl (Nat.le_of_ble_eq_true rfl) gd_Md_init_17 (fun B2 i2 hP2 zb o2 => ?_)
  have hS2 := va_S.put (k := i2) hSa zb o2 (Or.inl rfl)
  have F2 := gx_F (X := fun c => gm_pc cI cZ (gm_ad h0 sz) (ga_v ga_0) (c + 1) 0) F1 hlt a1 o1 o2
  have z2 : B2.size = sz + 2 := by omega
  have hP : va_at D gc_cl (h0, .inr (4, [.int 0, .ref (sz + 0), .ref (sz + 1), .null, .null, .null, .null, .int 0, .null, .int 0, .null, .int 0, .int 0, .null, .null, .null])) B2 := hP2
  clear a1 za o1 hSa hP1 hP2 zb o2
  refine lv_aload_n hx hb gd_Md_init_20 rfl (lv_at hl 0 rfl) ?_
  refine lv_bipush (v := 100) hx hb gd_Md_init_21 (by decide) ?_
  refine gx_newi (D := D) (cl := gc_cl) (N' := 100) (h := sz + 2) hx hb (ht _ gt_84) hI2 (by decide) rfl (by decide) (Nat.le_of_ble_eq_true rfl) (Nat.le_of_ble_eq_true rfl) gd_Md_init_23 (by omega) (fun A3 a1 za o1 => ?_)
  have hSa := gw_S (H1 := A3) hS2 (by omega) (fun q hq => o1 q (by omega))
  have hP1 := hP.kept (o1 _ (show h0 < sz + 2 by omega))
  refine gw_putF (D := D) (cl := gc_cl) (ci := 4) (ty := .array .int) (C := gR_Md) (T := gT_Md) (N := 16) hx hb hts (fun w h => List.mem_cons_of_mem _ (gl_Md w h)) gF_Md gf_Md gn_Md hown hK hP1 rfl 3 (by decide) (ht _ gt_372) (fun _ h9 => h9) rfl hin rfl (by decide +kernel) rfl rfl (Nat.le_of_ble_eq_true rfl) gd_Md_init_25 (fun B3 i2 hP2 zb o2 => ?_)
  have hS3 := va_S.put (k := i2) hSa zb o2 (Or.inl rfl)
  have F3 := gx_F (X := fun c => gm_pc cI cZ (gm_ad h0 sz) (ga_v ga_0) (c + 1) 0) F2 hlt a1 o1 o2
  have z3 : B3.size = sz + 3 := by omega
  have hP : va_at D gc_cl (h0, .inr (4, [.int 0, .ref (sz + 0), .ref (sz + 1), .ref (sz + 2), .null, .null, .null, .int 0, .null, .int 0, .null, .int 0, .int 0, .null, .null, .null])) B3 := hP2
  clear a1 za o1 hSa hP1 hP2 zb o2
  refine lv_aload_n hx hb gd_Md_init_28 rfl (lv_at hl 0 rfl) ?_
  refine lv_bipush (v := 100) hx hb gd_Md_init_29 (by decide) ?_
  refine gx_newi (D := D) (cl := gc_cl) (N' := 100) (h := sz + 3) hx hb (ht _ gt_84) hI2 (by decide) rfl (by decide) (Nat.le_of_ble_eq_true rfl) (Nat.le_of_ble_eq_true rfl) gd_Md_init_31 (by omega) (fun A4 a1 za o1 => ?_)
  have hSa := gw_S (H1 := A4) hS3 (by omega) (fun q hq => o1 q (by omega))
  have hP1 := hP.kept (o1 _ (show h0 < sz + 3 by omega))
  refine gw_putF (D := D) (cl := gc_cl) (ci := 4) (ty := .array .int) (C := gR_Md) (T := gT_Md) (N := 16) hx hb hts (fun w h => List.mem_cons_of_mem _ (gl_Md w h)) gF_Md gf_Md gn_Md hown hK hP1 rfl 4 (by decide) (ht _ gt_373) (fun _ h9 => h9) rfl hin rfl (by decide +kernel) rfl rfl (Nat.le_of_ble_eq_true rfl) gd_Md_init_33 (fun B4 i2 hP2 zb o2 => ?_)
  have hS4 := va_S.put (k := i2) hSa zb o2 (Or.inl rfl)
  have F4 := gx_F (X := fun c => gm_pc cI cZ (gm_ad h0 sz) (ga_v ga_0) (c + 1) 0) F3 hlt a1 o1 o2
  have z4 : B4.size = sz + 4 := by omega
  have hP : va_at D gc_cl (h0, .inr (4, [.int 0, .ref (sz + 0), .ref (sz + 1), .ref (sz + 2), .ref (sz + 3), .null, .null, .int 0, .null, .int 0, .null, .int 0, .int 0, .null, .null, .null])) B4 := hP2
  clear a1 za o1 hSa hP1 hP2 zb o2
  refine lv_aload_n hx hb gd_Md_init_36 rfl (lv_at hl 0 rfl) ?_
  refine lv_bipush (v := 100) hx hb gd_Md_init_37 (by decide) ?_
  refine gx_newi (D := D) (cl := gc_cl) (N' := 100) (h := sz + 4) hx hb (ht _ gt_84) hI2 (by decide) rfl (by decide) (Nat.le_of_ble_eq_true rfl) (Nat.le_of_ble_eq_true rfl) gd_Md_init_39 (by omega) (fun A5 a1 za o1 => ?_)
  have hSa := gw_S (H1 := A5) hS4 (by omega) (fun q hq => o1 q (by omega))
  have hP1 := hP.kept (o1 _ (show h0 < sz + 4 by omega))
  refine gw_putF (D := D) (cl := gc_cl) (ci := 4) (ty := .array .int) (C := gR_Md) (T := gT_Md) (N := 16) hx hb hts (fun w h => List.mem_cons_of_mem _ (gl_Md w h)) gF_Md gf_Md gn_Md hown hK hP1 rfl 5 (by decide) (ht _ gt_374) (fun _ h9 => h9) rfl hin rfl (by decide +kernel) rfl rfl (Nat.le_of_ble_eq_true rfl) gd_Md_init_41 (fun B5 i2 hP2 zb o2 => ?_)
  have hS5 := va_S.put (k := i2) hSa zb o2 (Or.inl rfl)
  have F5 := gx_F (X := fun c => gm_pc cI cZ (gm_ad h0 sz) (ga_v ga_0) (c + 1) 0) F4 hlt a1 o1 o2
  have z5 : B5.size = sz + 5 := by omega
  have hP : va_at D gc_cl (h0, .inr (4, [.int 0, .ref (sz + 0), .ref (sz + 1), .ref (sz + 2), .ref (sz + 3), .ref (sz + 4), .null, .int 0, .null, .int 0, .null, .int 0, .int 0, .null, .null, .null])) B5 := hP2
  clear a1 za o1 hSa hP1 hP2 zb o2
  refine lv_aload_n hx hb gd_Md_init_44 rfl (lv_at hl 0 rfl) ?_
  refine lv_sipush (v := 1600) hx hb gd_Md_init_45 (by decide) ?_
  refine gx_newi (D := D) (cl := gc_cl) (N' := 1600) (h := sz + 5) hx hb (ht _ gt_84) hI2 (by decide) rfl (by decide) (Nat.le_of_ble_eq_true rfl) (Nat.le_of_ble_eq_true rfl) gd_Md_init_48 (by omega) (fun A6 a1 za o1 => ?_)
  have hSa := gw_S (H1 := A6) hS5 (by omega) (fun q hq => o1 q (by omega))
  have hP1 := hP.kept (o1 _ (show h0 < sz + 5 by omega))
  refine gw_putF (D := D) (cl := gc_cl) (ci := 4) (ty := .array .int) (C := gR_Md) (T := gT_Md) (N := 16) hx hb hts (fun w h => List.mem_cons_of_mem _ (gl_Md w h)) gF_Md gf_Md gn_Md hown hK hP1 rfl 6 (by decide) (ht _ gt_375) (fun _ h9 => h9) rfl hin rfl (by decide +kernel) rfl rfl (Nat.le_of_ble_eq_true rfl) gd_Md_init_50 (fun B6 i2 hP2 zb o2 => ?_)
  have hS6 := va_S.put (k := i2) hSa zb o2 (Or.inl rfl)
  have F6 := gx_F (X := fun c => gm_pc cI cZ (gm_ad h0 sz) (ga_v ga_0) (c + 1) 0) F5 hlt a1 o1 o2
  have z6 : B6.size = sz + 6 := by omega
  have hP : va_at D gc_cl (h0, .inr (4, [.int 0, .ref (sz + 0), .ref (sz + 1), .ref (sz + 2), .ref (sz + 3), .ref (sz + 4), .ref (sz + 5), .int 0, .null, .int 0, .null, .int 0, .int 0, .null, .null, .null])) B6 := hP2
  clear a1 za o1 hSa hP1 hP2 zb o2
  refine lv_aload_n hx hb gd_Md_init_53 rfl (lv_at hl 0 rfl) ?_
  refine lv_bipush (v := 101) hx hb gd_Md_init_54 (by decide) ?_
  refine gx_newi (D := D) (cl := gc_cl) (N' := 101) (h := sz + 6) hx hb (ht _ gt_84) hI2 (by decide) rfl (by decide) (Nat.le_of_ble_eq_true rfl) (Nat.le_of_ble_eq_true rfl) gd_Md_init_56 (by omega) (fun A7 a1 za o1 => ?_)
  have hSa := gw_S (H1 := A7) hS6 (by omega) (fun q hq => o1 q (by omega))
  have hP1 := hP.kept (o1 _ (show h0 < sz + 6 by omega))
  refine gw_putF (D := D) (cl := gc_cl) (ci := 4) (ty := .array .int) (C := gR_Md) (T := gT_Md) (N := 16) hx hb hts (fun w h => List.mem_cons_of_mem _ (gl_Md w h)) gF_Md gf_Md gn_Md hown hK hP1 rfl 8 (by decide) (ht _ gt_377) (fun _ h9 => h9) rfl hin rfl (by decide +kernel) rfl rfl (Nat.le_of_ble_eq_true rfl) gd_Md_init_58 (fun B7 i2 hP2 zb o2 => ?_)
  have hS7 := va_S.put (k := i2) hSa zb o2 (Or.inl rfl)
  have F7 := gx_F (X := fun c => gm_pc cI cZ (gm_ad h0 sz) (ga_v ga_0) (c + 1) 0) F6 hlt a1 o1 o2
  have z7 : B7.size = sz + 7 := by omega
  have hP : va_at D gc_cl (h0, .inr (4, [.int 0, .ref (sz + 0), .ref (sz + 1), .ref (sz + 2), .ref (sz + 3), .ref (sz + 4), .ref (sz + 5), .int 0, .ref (sz + 6), .int 0, .null, .int 0, .int 0, .null, .null, .null])) B7 := hP2
  clear a1 za o1 hSa hP1 hP2 zb o2
  refine lv_aload_n hx hb gd_Md_init_61 rfl (lv_at hl 0 rfl) ?_
  refine lv_bipush (v := 102) hx hb gd_Md_init_62 (by decide) ?_
  refine gx_newi (D := D) (cl := gc_cl) (N' := 102) (h := sz + 7) hx hb (ht _ gt_84) hI2 (by decide) rfl (by decide) (Nat.le_of_ble_eq_true rfl) (Nat.le_of_ble_eq_true rfl) gd_Md_init_64 (by omega) (fun A8 a1 za o1 => ?_)
  have hSa := gw_S (H1 := A8) hS7 (by omega) (fun q hq => o1 q (by omega))
  have hP1 := hP.kept (o1 _ (show h0 < sz + 7 by omega))
  refine gw_putF (D := D) (cl := gc_cl) (ci := 4) (ty := .array .int) (C := gR_Md) (T := gT_Md) (N := 16) hx hb hts (fun w h => List.mem_cons_of_mem _ (gl_Md w h)) gF_Md gf_Md gn_Md hown hK hP1 rfl 10 (by decide) (ht _ gt_379) (fun _ h9 => h9) rfl hin rfl (by decide +kernel) rfl rfl (Nat.le_of_ble_eq_true rfl) gd_Md_init_66 (fun B8 i2 hP2 zb o2 => ?_)
  have hS8 := va_S.put (k := i2) hSa zb o2 (Or.inl rfl)
  have F8 := gx_F (X := fun c => gm_pc cI cZ (gm_ad h0 sz) (ga_v ga_0) (c + 1) 0) F7 hlt a1 o1 o2
  have z8 : B8.size = sz + 8 := by omega
  have hP : va_at D gc_cl (h0, .inr (4, [.int 0, .ref (sz + 0), .ref (sz + 1), .ref (sz + 2), .ref (sz + 3), .ref (sz + 4), .ref (sz + 5), .int 0, .ref (sz + 6), .int 0, .ref (sz + 7), .int 0, .int 0, .null, .null, .null])) B8 := hP2
  clear a1 za o1 hSa hP1 hP2 zb o2
  refine lv_aload_n hx hb gd_Md_init_69 rfl (lv_at hl 0 rfl) ?_
  refine lv_bipush (v := 6) hx hb gd_Md_init_70 (by decide) ?_
  refine gx_newi (D := D) (cl := gc_cl) (N' := 6) (h := sz + 8) hx hb (ht _ gt_84) hI2 (by decide) rfl (by decide) (Nat.le_of_ble_eq_true rfl) (Nat.le_of_ble_eq_true rfl) gd_Md_init_72 (by omega) (fun A9 a1 za o1 => ?_)
  have hSa := gw_S (H1 := A9) hS8 (by omega) (fun q hq => o1 q (by omega))
  have hP1 := hP.kept (o1 _ (show h0 < sz + 8 by omega))
  refine gw_putF (D := D) (cl := gc_cl) (ci := 4) (ty := .array .int) (C := gR_Md) (T := gT_Md) (N := 16) hx hb hts (fun w h => List.mem_cons_of_mem _ (gl_Md w h)) gF_Md gf_Md gn_Md hown hK hP1 rfl 13 (by decide) (ht _ gt_382) (fun _ h9 => h9) rfl hin rfl (by decide +kernel) rfl rfl (Nat.le_of_ble_eq_true rfl) gd_Md_init_74 (fun B9 i2 hP2 zb o2 => ?_)
  have hS9 := va_S.put (k := i2) hSa zb o2 (Or.inl rfl)
  have F9 := gx_F (X := fun c => gm_pc cI cZ (gm_ad h0 sz) (ga_v ga_0) (c + 1) 0) F8 hlt a1 o1 o2
  have z9 : B9.size = sz + 9 := by omega
  have hP : va_at D gc_cl (h0, .inr (4, [.int 0, .ref (sz + 0), .ref (sz + 1), .ref (sz + 2), .ref (sz + 3), .ref (sz + 4), .ref (sz + 5), .int 0, .ref (sz + 6), .int 0, .ref (sz + 7), .int 0, .int 0, .ref (sz + 8), .null, .null])) B9 := hP2
  clear a1 za o1 hSa hP1 hP2 zb o2
  refine lv_aload_n hx hb gd_Md_init_77 rfl (lv_at hl 0 rfl) ?_
  refine lv_sipush (v := 600) hx hb gd_Md_init_78 (by decide) ?_
  refine gx_newz (D := D) (cl := gc_cl) (N' := 600) (h := sz + 9) hx hb (ht _ gt_418) hZ2 (by decide) rfl (by decide) (Nat.le_of_ble_eq_true rfl) (Nat.le_of_ble_eq_true rfl) gd_Md_init_81 (by omega) (fun A10 a1 za o1 => ?_)
  have hSa := gw_S (H1 := A10) hS9 (by omega) (fun q hq => o1 q (by omega))
  have hP1 := hP.kept (o1 _ (show h0 < sz + 9 by omega))
  refine gw_putF (D := D) (cl := gc_cl) (ci := 4) (ty := .array .boolean) (C := gR_Md) (T := gT_Md) (N := 16) hx hb hts (fun w h => List.mem_cons_of_mem _ (gl_Md w h)) gF_Md gf_Md gn_Md hown hK hP1 rfl 14 (by decide) (ht _ gt_383) (fun _ h9 => h9) rfl hin rfl (by decide +kernel) rfl rfl (Nat.le_of_ble_eq_true rfl) gd_Md_init_83 (fun B10 i2 hP2 zb o2 => ?_)
  have hS10 := va_S.put (k := i2) hSa zb o2 (Or.inl rfl)
  have F10 := gx_F (X := fun c => gm_pc cI cZ (gm_ad h0 sz) (ga_v ga_0) (c + 1) 0) F9 hlt a1 o1 o2
  have z10 : B10.size = sz + 10 := by omega
  have hP : va_at D gc_cl (h0, .inr (4, [.int 0, .ref (sz + 0), .ref (sz + 1), .ref (sz + 2), .ref (sz + 3), .ref (sz + 4), .ref (sz + 5), .int 0, .ref (sz + 6), .int 0, .ref (sz + 7), .int 0, .int 0, .ref (sz + 8), .ref (sz + 9), .null])) B10 := hP2
  clear a1 za o1 hSa hP1 hP2 zb o2
  refine lv_aload_n hx hb gd_Md_init_86 rfl (lv_at hl 0 rfl) ?_
  refine lv_bipush (v := 100) hx hb gd_Md_init_87 (by decide) ?_
  refine gx_newi (D := D) (cl := gc_cl) (N' := 100) (h := sz + 10) hx hb (ht _ gt_84) hI2 (by decide) rfl (by decide) (Nat.le_of_ble_eq_true rfl) (Nat.le_of_ble_eq_true rfl) gd_Md_init_89 (by omega) (fun A11 a1 za o1 => ?_)
  have hSa := gw_S (H1 := A11) hS10 (by omega) (fun q hq => o1 q (by omega))
  have hP1 := hP.kept (o1 _ (show h0 < sz + 10 by omega))
  refine gw_putF (D := D) (cl := gc_cl) (ci := 4) (ty := .array .int) (C := gR_Md) (T := gT_Md) (N := 16) hx hb hts (fun w h => List.mem_cons_of_mem _ (gl_Md w h)) gF_Md gf_Md gn_Md hown hK hP1 rfl 15 (by decide) (ht _ gt_384) (fun _ h9 => h9) rfl hin rfl (by decide +kernel) rfl rfl (Nat.le_of_ble_eq_true rfl) gd_Md_init_91 (fun B11 i2 hP2 zb o2 => ?_)
  have hS11 := va_S.put (k := i2) hSa zb o2 (Or.inl rfl)
  have F11 := gx_F (X := fun c => gm_pc cI cZ (gm_ad h0 sz) (ga_v ga_0) (c + 1) 0) F10 hlt a1 o1 o2
  have z11 : B11.size = sz + 11 := by omega
  have hP : va_at D gc_cl (h0, .inr (4, [.int 0, .ref (sz + 0), .ref (sz + 1), .ref (sz + 2), .ref (sz + 3), .ref (sz + 4), .ref (sz + 5), .int 0, .ref (sz + 6), .int 0, .ref (sz + 7), .int 0, .int 0, .ref (sz + 8), .ref (sz + 9), .ref (sz + 10)])) B11 := hP2
  clear a1 za o1 hSa hP1 hP2 zb o2
  refine lv_aload_n hx hb gd_Md_init_94 rfl (lv_at hl 0 rfl) ?_
  refine lv_iconst (v := 0) hx hb gd_Md_init_95 (by decide) ?_
  refine gw_put (D := D) (cl := gc_cl) (ci := 4) (ty := .int) (C := gR_Md) (T := gT_Md) (N := 16) hx hb hts (fun w h => List.mem_cons_of_mem _ (gl_Md w h)) gF_Md gf_Md gn_Md hown hK hP rfl 7 (by decide) (ht _ gt_376) (fun _ h9 => h9) rfl (by decide +kernel) rfl rfl (Nat.le_of_ble_eq_true rfl) gd_Md_init_96 (fun H7 i7 hP7 z7 o7 => ?_)
  have hS7 := va_S.put (k := i7) hS11 z7 o7 (Or.inl rfl)
  refine W.vret hx hb hr (fun t ht hW => ⟨⟨(), rfl, trivial, cI, cZ, by rw [ht]; omega, va_K.moved hW.alike ((gw_K1 hK hI1 hI2).app (gw_K1 hK hZ1 hZ2)), ?_⟩, hS7.F ht⟩) hS7.2.2 gd_Md_init_99
  rw [ht]
  intro c k hv
  match c, hv with
  | 0, hv => exact hP7
  | 1, hv => exact (F11 0 (by decide)).kept (o7 _ (show sz + 0 ≠ h0 by omega))
  | 2, hv => exact (F11 1 (by decide)).kept (o7 _ (show sz + 1 ≠ h0 by omega))
  | 3, hv => exact (F11 2 (by decide)).kept (o7 _ (show sz + 2 ≠ h0 by omega))
  | 4, hv => exact (F11 3 (by decide)).kept (o7 _ (show sz + 3 ≠ h0 by omega))
  | 5, hv => exact (F11 4 (by decide)).kept (o7 _ (show sz + 4 ≠ h0 by omega))
  | 6, hv => exact (F11 5 (by decide)).kept (o7 _ (show sz + 5 ≠ h0 by omega))
  | 7, hv => exact (F11 6 (by decide)).kept (o7 _ (show sz + 6 ≠ h0 by omega))
  | 8, hv => exact (F11 7 (by decide)).kept (o7 _ (show sz + 7 ≠ h0 by omega))
  | 9, hv => exact (F11 8 (by decide)).kept (o7 _ (show sz + 8 ≠ h0 by omega))
  | 10, hv => exact (F11 9 (by decide)).kept (o7 _ (show sz + 9 ≠ h0 by omega))
  | 11, hv => exact (F11 10 (by decide)).kept (o7 _ (show sz + 10 ≠ h0 by omega))
  | n + 12, hv => simp [gm_vd] at hv
