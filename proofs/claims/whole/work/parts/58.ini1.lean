/-! the book's constructor -/
def gk_ad (h sz : Nat) : Nat → Nat → Nat
  | 0, _ => h
  | 1, _ => sz + 1
  | 2, _ => sz + 202
  | 3, _ => sz + 203
  | 4, _ => sz + 204
  | 5, _ => sz + 205
  | 6, k => if k = 100 then sz else sz + 3 + 2 * k
  | 7, k => sz + 2 + 2 * k
  | _, _ => 0
theorem gk_ad_I {h sz : Nat} (hh : h < sz) : gq_I gk_vd (gk_ad h sz) := by
  intro c k c' k' hv hv' e
  have h6 : ∀ j, gk_vd 6 j → gk_ad h sz 6 j = sz ∧ j = 100 ∨ gk_ad h sz 6 j = sz + 3 + 2 * j ∧ j < 100 := fun j hj => by
    have hj : j ≤ 100 := hj
    by_cases q : j = 100
    · exact Or.inl ⟨if_pos q, q⟩
    · exact Or.inr ⟨if_neg q, by omega⟩
  have cs : ∀ c k, gk_vd c k → (c = 0 ∧ k = 0 ∧ gk_ad h sz c k = h) ∨ (c = 1 ∧ k = 0 ∧ gk_ad h sz c k = sz + 1) ∨ (c = 2 ∧ k = 0 ∧ gk_ad h sz c k = sz + 202) ∨ (c = 3 ∧ k = 0 ∧ gk_ad h sz c k = sz + 203) ∨ (c = 4 ∧ k = 0 ∧ gk_ad h sz c k = sz + 204) ∨ (c = 5 ∧ k = 0 ∧ gk_ad h sz c k = sz + 205) ∨ (c = 6 ∧ (gk_ad h sz c k = sz ∧ k = 100 ∨ gk_ad h sz c k = sz + 3 + 2 * k ∧ k < 100)) ∨ (c = 7 ∧ k < 100 ∧ gk_ad h sz c k = sz + 2 + 2 * k) := by
    intro c k hv
    match c, hv with
    | 0, hv => exact Or.inl ⟨rfl, hv, rfl⟩
    | 1, hv => exact Or.inr (Or.inl ⟨rfl, hv, rfl⟩)
    | 2, hv => exact Or.inr (Or.inr (Or.inl ⟨rfl, hv, rfl⟩))
    | 3, hv => exact Or.inr (Or.inr (Or.inr (Or.inl ⟨rfl, hv, rfl⟩)))
    | 4, hv => exact Or.inr (Or.inr (Or.inr (Or.inr (Or.inl ⟨rfl, hv, rfl⟩))))
    | 5, hv => exact Or.inr (Or.inr (Or.inr (Or.inr (Or.inr (Or.inl ⟨rfl, hv, rfl⟩)))))
    | 6, hv => exact Or.inr (Or.inr (Or.inr (Or.inr (Or.inr (Or.inr (Or.inl ⟨rfl, h6 k hv⟩))))))
    | 7, hv => exact Or.inr (Or.inr (Or.inr (Or.inr (Or.inr (Or.inr (Or.inr ⟨rfl, hv, rfl⟩))))))
    | n + 8, hv => simp [gk_vd] at hv
  have a1 := cs c k hv
  have a2 := cs c' k' hv'
  generalize gk_ad h sz c k = x at a1 e
  generalize gk_ad h sz c' k' = y at a2 e
  omega
def gi_f (sz i : Nat) : Nat → Option Nat := fun j => if j < i then some (sz + 2 + 2 * j) else none
theorem gi_f_s (sz i : Nat) : va_up (gi_f sz i) i (some (sz + 2 + 2 * i)) = gi_f sz (i + 1) := by
  funext j
  unfold va_up gi_f
  by_cases h : j = i
  · rw [if_pos h, if_pos (by omega), h]
  · rw [if_neg h]
    by_cases h2 : j < i
    · rw [if_pos h2, if_pos (by omega)]
    · rw [if_neg h2, if_neg (by omega)]
def gi_g (i : Nat) : Nat → Int32 := fun j => if j < i then -1 else 0
theorem gi_g_s (i : Nat) : upd (gi_g i) i (-1) = gi_g (i + 1) := by
  funext j
  unfold upd gi_g
  by_cases h : j = i
  · simp [h]
  · by_cases h2 : j < i
    · simp [h, h2, show j < i + 1 by omega]
    · simp [h, h2, show ¬ j < i + 1 by omega]
def gk_u0I : Nat → Nat → Int32
  | 9, k => gi_g 6 k
  | _, _ => 0
def gk_u0 : gk_St := (gk_u0I, fun _ _ => 0)
abbrev gi_Tx : va_E := .inr (2, [.long 0, .long 0, .int 0])
abbrev gi_Tm (q : Nat) : va_E := .inr (3, [.ref q, .int 0, .int 0, .int 0, .int 0])
abbrev gi_BB (D : va_G) (h0 sz : Nat) : Unit → State → Prop := fun _ t => ∃ cI cT : ClassId, t.heap.size = sz + 206 ∧ va_K D gc_cl (gk_tys cI cT) t ∧ gq_H D gc_cl gk_vd (gk_ad h0 sz) (gk_pc cI cT (gk_ad h0 sz) gk_u0) t.heap
abbrev gi_A (h0 sz : Nat) : Nat → Prop := fun q => q = h0 ∨ sz ≤ q
abbrev gi_rB : Room := { frames := 3, cells := 206, slots := 1113, locals := 52 }
theorem gi_fin {D : va_G} {h0 sz : Nat} {cI cT : ClassId} {H : Heap} (f0 : va_at D gc_cl (h0, .inr (0, [.ref sz, .ref (sz + 1), .ref (sz + 202), .ref (sz + 205), .int 0])) H) (f1 : va_at D gc_cl (sz, gi_Tx) H) (f2 : va_at D gc_cl (sz + 1, .inl (cT, 100, .inr (.inr (.inr (.inr (gi_f sz 100)))))) H) (f3 : ∀ k, k < 100 → va_at D gc_cl (sz + 2 + 2 * k, gi_Tm (sz + 3 + 2 * k)) H ∧ va_at D gc_cl (sz + 3 + 2 * k, gi_Tx) H) (f4 : va_at D gc_cl (sz + 202, .inr (1, [.ref (sz + 203), .int 0, .ref (sz + 204), .int 0])) H) (f5 : va_at D gc_cl (sz + 203, .inl (cI, 100, .inl (fun _ => 0))) H) (f6 : va_at D gc_cl (sz + 204, .inl (cI, 100, .inl (fun _ => 0))) H) (f7 : va_at D gc_cl (sz + 205, .inl (cI, 6, .inl (gi_g 6))) H) : gq_H D gc_cl gk_vd (gk_ad h0 sz) (gk_pc cI cT (gk_ad h0 sz) gk_u0) H := by
  have e6 : gk_ad h0 sz 6 100 = sz := by simp [gk_ad]
  intro c k hv
  match c, hv with
  | 0, hv =>
    show va_at D gc_cl (h0, .inr (0, [.ref (gk_ad h0 sz 6 100), .ref (sz + 1), .ref (sz + 202), .ref (sz + 205), .int 0])) H
    rw [e6]
    exact f0
  | 1, hv => exact gw_ext f2 (fun j hj => if_pos hj)
  | 2, hv => exact f4
  | 3, hv => exact f5
  | 4, hv => exact f6
  | 5, hv => exact f7
  | 6, hv =>
    have hk : k ≤ 100 := hv
    show va_at D gc_cl (gk_ad h0 sz 6 k, gi_Tx) H
    by_cases q : k = 100
    · rw [q, e6]; exact f1
    · rw [show gk_ad h0 sz 6 k = sz + 3 + 2 * k from if_neg q]; exact (f3 k (by omega)).2
  | 7, hv =>
    have hk : k < 100 := hv
    show va_at D gc_cl (sz + 2 + 2 * k, gi_Tm (gk_ad h0 sz 6 k)) H
    rw [show gk_ad h0 sz 6 k = sz + 3 + 2 * k from if_neg (by omega)]
    exact (f3 k hk).1
  | n + 8, hv => simp [gk_vd] at hv
set_option maxHeartbeats 4000000 in
set_option maxRecDepth 100000 in
theorem ct_Bk_init (l : Launch) (D : va_G) (h0 sz : Nat) : Met l gy_Bk_init gws_Bk_init gi_rB (va_Pc [.ref h0] (fun U => U.heap.size = sz ∧ va_at D gc_cl (h0, .inr (0, [.null, .null, .null, .null, .int 0])) U.heap ∧ va_K D gc_cl [] U ∧ gq_N gk_NF gk_NM U ∧ va_AO "TermBook$Term" U)) (va_Qv (fun _ : Unit => True) (gi_BB D h0 sz) (gi_A h0 sz)) 206 1113 (gi_A h0 sz) := by
  refine Met.ofW (cc := gb_Bk_init) (maxL := 2) (ret := none) (by decide) rfl ?_
  intro p e s m args below meth c s₁ B hml hv
  obtain ⟨rfl, hsz, hP, hK, hN, hAO⟩ := hv
  subst hsz
  have hx := B.exec
  have hb := B.bytes
  have hr := B.returns
  have hts := atoms_spec (ws := gws_Bk_init) B.pre
  have ht := fun (w : Cond) (h : w ∈ gt_T) => hts w (List.mem_cons_of_mem _ h)
  have hown : s.vm.findClass gR_Bk = some m.cls := findClass_of_methodNamed B.named
  have hlocks := B.notSynchronized
  have hin : meth.name = "<init>" := (name_of_methodNamed B.named B.method).1
  have hlt : h0 < s.heap.size := hP.lt
  generalize hZ : s.heap.size = sz at hlt ⊢
  have hS : va_S (gi_A h0 sz) s.heap s.heap [] := va_S.rf
  have hl := lv_entry ([.ref h0]) (n := 2) (Nat.le_of_ble_eq_true rfl)
  rw [lg_entry_eq]
  generalize (lg_sl ([.ref h0]) ++ List.replicate (2 - (lg_sl ([.ref h0])).length) Slot.unset).toArray = ls at hl ⊢
  have hl : lv_has ls 2 [(0, .ref h0)] := hl
  refine lv_aload_n hx hb gd_Bk_init_0 rfl (lv_at hl 0 rfl) ?_
  refine W.objInit hx hb hown (ht _ gt_14) (ht _ gt_15) (ht _ gt_16) rfl (by rw [hml]; exact hl.1) rfl gd_Bk_init_1 (Nat.le_of_ble_eq_true rfl) (Nat.le_of_ble_eq_true rfl) ?_
  refine W.eq (g2 := F0 m 4 ls []) rfl ?_
  refine lv_aload_n hx hb gd_Bk_init_4 rfl (lv_at hl 0 rfl) ?_
  refine gw_new (D := D) (cl := gc_cl) (ci := 2) (fs := [.long 0, .long 0, .int 0]) (C := gR_Tx) (T := gT_Tx) (N := 3) hx hb hts (fun w h => List.mem_cons_of_mem _ (gl_Tx w h)) gF_Tx gf_Tx hown (ht _ gt_17) (ht _ gt_18) (ht _ gt_2) hK rfl (fun j hj => by rcases (show j = 0 ∨ j = 1 ∨ j = 2 by omega) with rfl | rfl | rfl <;> rfl) (Nat.le_of_ble_eq_true rfl) (Nat.le_of_ble_eq_true rfl) gd_Bk_init_5 (fun H1 a1 z1 o1 => ?_)
  rw [hZ] at a1 z1 o1
  rw [hZ]
  have hS1 := gw_S (H1 := H1) hS (by omega) (by rw [hZ]; exact o1)
  refine lv_dup hx hb gd_Bk_init_8 rfl ?_
  refine va_callv (va_runIN (As := []) (rest := [.ref sz, .ref h0]) ⟨hx, hb, hml, hown, hts⟩ (ct_Tx_init l sz H1.size) ⟨va_cnB 0 hts (gt_good gt_21) rfl rfl rfl (hN.2 _ (List.mem_of_getElem? (i := 0) rfl)) (ht _ gt_2) (by decide +kernel) ⟨Nat.le_of_ble_eq_true rfl, Nat.le_of_ble_eq_true rfl⟩, rfl, ht _ gt_20⟩ ⟨fun a U g mk q => ⟨q.1, q.2⟩, fun U hU hW => ⟨rfl, by dsimp only; rw [hU]⟩⟩ rfl rfl hl.1 rfl (lv_room (Nat.le_of_ble_eq_true rfl)) gd_Bk_init_9 ⟨Nat.le_of_ble_eq_true rfl, Nat.le_of_ble_eq_true rfl⟩) hS1 (fun q _ h => h.elim) (fun q h => h.elim) (fun u t H2 locs2 ht2 hvm hw hB hz2 hk2 hS2 => ?_)
  rw [ht2] at hB
  have hP2 := (hP.kept (o1 _ hlt)).kept (hk2 h0 (by omega) (fun h => h))
  have a2 := a1.kept (hk2 _ (by omega) (fun h => h))
  refine gw_putF (D := D) (cl := gc_cl) (ci := 0) (ty := .object "TermBook$Text") (C := gR_Bk) (T := gT_Bk) (N := 5) hx hb hts (fun w h => List.mem_cons_of_mem _ (gl_Bk w h)) gF_Bk gf_Bk gn_Bk hown hK hP2 rfl 0 (by decide) (ht _ gt_85) (fun _ h9 => h9) rfl hin rfl (by decide +kernel) rfl rfl (Nat.le_of_ble_eq_true rfl) gd_Bk_init_12 (fun H3 i3 hP3 z3 o3 => ?_)
  have hS3 := va_S.put (k := i3) hS2 z3 o3 (Or.inl rfl)
  have a3 := a2.kept (o3 _ (show sz ≠ h0 by omega))
  refine lv_aload_n hx hb gd_Bk_init_15 rfl (lv_at hl 0 rfl) ?_
  refine lv_bipush (v := 100) hx hb gd_Bk_init_16 (by decide) ?_
  refine gw_newq (D := D) (cl := gc_cl) (N' := 100) hx hb hown (ht _ gt_34) hAO (by decide) rfl (by decide) (Nat.le_of_ble_eq_true rfl) (Nat.le_of_ble_eq_true rfl) gd_Bk_init_18 (fun cT H4 hAr4 hRA4 b4 z4 o4 => ?_)
  have e3 : H3.size = sz + 1 := by omega
  rw [e3] at b4 z4 o4 ⊢
  have hS4 := gw_S (H1 := H4) hS3 (by omega) (by rw [e3]; exact o4)
  have hP4 := hP3.kept (o4 _ (show h0 < sz + 1 by omega))
  have a4 := a3.kept (o4 _ (show sz < sz + 1 by omega))
  refine gw_putF (D := D) (cl := gc_cl) (ci := 0) (ty := .array (.object "TermBook$Term")) (C := gR_Bk) (T := gT_Bk) (N := 5) hx hb hts (fun w h => List.mem_cons_of_mem _ (gl_Bk w h)) gF_Bk gf_Bk gn_Bk hown hK hP4 rfl 1 (by decide) (ht _ gt_86) (fun _ h9 => h9) rfl hin rfl (by decide +kernel) rfl rfl (Nat.le_of_ble_eq_true rfl) gd_Bk_init_21 (fun H5 i5 hP5 z5 o5 => ?_)
  have hS5 := va_S.put (k := i5) hS4 z5 o5 (Or.inl rfl)
  have a5 := a4.kept (o5 _ (show sz ≠ h0 by omega))
  have b5 := b4.kept (o5 _ (show sz + 1 ≠ h0 by omega))
  have hKT : va_K D gc_cl [(cT, .object "TermBook$Term")] s := gw_K1 hK hAr4 hRA4
  refine lv_iconst (v := 0) hx hb gd_Bk_init_24 (by decide) ?_
  refine lv_istore_n (lv' := [(1, .int 0), (0, .ref h0)]) hx hb gd_Bk_init_25 rfl hl (by decide) rfl (fun ls hl => ?_)
  have L54 : ∀ (H : Heap) (locs : List Loc) (ls : Array Slot), H.size = sz + 202 → va_at D gc_cl (h0, .inr (0, [.ref sz, .ref (sz + 1), .null, .null, .int 0])) H → va_at D gc_cl (sz, gi_Tx) H → va_at D gc_cl (sz + 1, .inl (cT, 100, .inr (.inr (.inr (.inr (gi_f sz 100)))))) H → (∀ k, k < 100 → va_at D gc_cl (sz + 2 + 2 * k, gi_Tm (sz + 3 + 2 * k)) H ∧ va_at D gc_cl (sz + 3 + 2 * k, gi_Tx) H) → va_S (gi_A h0 sz) s.heap H locs → lv_has ls 2 [(1, .int (nI 100)), (0, .ref h0)] → W p l e (headSpec gws_Bk_init gi_rB).room s m ([.ref h0] : List Value).toArray below meth c H locs 202 903 (MQ below (va_Qv (fun _ : Unit => True) (gi_BB D h0 sz) (gi_A h0 sz)) ([.ref h0] : List Value).toArray s 206 1113 (gi_A h0 sz)) (F0 m 54 ls []) := by
    intro Ha locs ls hz hP f1 f2 f3 hS hl
    refine lv_aload_n hx hb gd_Bk_init_54 rfl (lv_at hl 1 rfl) ?_
    refine gw_new (D := D) (cl := gc_cl) (ci := 1) (fs := [.null, .int 0, .null, .int 0]) (C := gR_Lv) (T := gT_Lv) (N := 4) hx hb hts (fun w h => List.mem_cons_of_mem _ (gl_Lv w h)) gF_Lv gf_Lv hown (ht _ gt_63) (ht _ gt_64) (ht _ gt_4) hK rfl (fun j hj => by rcases (show j = 0 ∨ j = 1 ∨ j = 2 ∨ j = 3 by omega) with rfl | rfl | rfl | rfl <;> rfl) (Nat.le_of_ble_eq_true rfl) (Nat.le_of_ble_eq_true rfl) gd_Bk_init_55 (fun H1 a1 z1 o1 => ?_)
    rw [hz] at a1 z1 o1 ⊢
    have hS1 := gw_S (H1 := H1) hS (by omega) (by rw [hz]; exact o1)
    refine lv_dup hx hb gd_Bk_init_58 rfl ?_
    have hfr : ∀ q : Nat, (q = sz + 202 ∨ H1.size ≤ q) → gi_A h0 sz q := fun q h => Or.inr (show sz ≤ q by rcases h with h | h <;> omega)
    refine va_callv (va_runI (As := []) (rest := [.ref (sz + 202), .ref h0]) ⟨hx, hb, hml, hown, hts⟩ (ct_Lv_init l D (sz + 202) H1.size) (cwI 0 hts (gt_good gt_67) rfl rfl rfl (ht _ gt_4) (ht _ gt_65) (ht _ gt_66) rfl (by decide +kernel) ⟨Nat.le_of_ble_eq_true rfl, Nat.le_of_ble_eq_true rfl⟩) ⟨fun a U g mk q => by obtain ⟨q0, q1, qP, qK⟩ := q; exact ⟨q0, q1, qP, va_K.moved (u := U) (U := U.calling g mk a) (Vm.Alike.refl U.vm) qK⟩, fun U hU hW => ⟨rfl, by rw [hU], by rw [hU]; exact a1, va_K.moved hW.alike hK⟩⟩ rfl rfl hl.1 rfl (lv_room (Nat.le_of_ble_eq_true rfl)) gd_Bk_init_59 ⟨Nat.le_of_ble_eq_true rfl, Nat.le_of_ble_eq_true rfl⟩) hS1 (fun q _ h => hfr q h) (fun q h => hfr q h) (fun u t H2 locs2 ht2 hvm hw hB hz2 hk2 hS2 => ?_)
    obtain ⟨cI, y1, y2, y3, y4, y5⟩ := hB
    have z1' : H1.size = sz + 203 := by omega
    rw [ht2, z1'] at y1 y3 y4 y5
    have y2 := va_K.moved hvm.symm y2
    have kp2 : ∀ q, q < sz + 202 → H2[q]? = Ha[q]? := fun q hq => (hk2 q (by omega) (fun h => by rcases h with h | h <;> omega)).trans (o1 q hq)
    have hP2 := hP.kept (kp2 _ (show h0 < sz + 202 by omega))
    refine gw_putF (D := D) (cl := gc_cl) (ci := 0) (ty := .object "TermBook$Leaves") (C := gR_Bk) (T := gT_Bk) (N := 5) hx hb hts (fun w h => List.mem_cons_of_mem _ (gl_Bk w h)) gF_Bk gf_Bk gn_Bk hown hK hP2 rfl 2 (by decide) (ht _ gt_87) (fun _ h9 => h9) rfl hin rfl (by decide +kernel) rfl rfl (Nat.le_of_ble_eq_true rfl) gd_Bk_init_62 (fun H3 i3 hP3 z3 o3 => ?_)
    have hS3 := va_S.put (k := i3) hS2 z3 o3 (Or.inl rfl)
    refine lv_aload_n hx hb gd_Bk_init_65 rfl (lv_at hl 1 rfl) ?_
    refine lv_bipush (v := 6) hx hb gd_Bk_init_66 (by decide) ?_
    refine gw_newi (D := D) (cl := gc_cl) (N' := 6) hx hb (ht _ gt_84) (by decide) rfl (by decide) (Nat.le_of_ble_eq_true rfl) (Nat.le_of_ble_eq_true rfl) gd_Bk_init_68 (fun cJ H4 hAr4 hRA4 b4 z4 o4 => ?_)
    obtain rfl : cI = cJ := Option.some.inj (Eq.trans (Eq.symm (show s.vm.findClass ("[" ++ FieldType.int.toString) = some cI from (y2.2 0 _ rfl).2)) hRA4)
    have e3 : H3.size = sz + 205 := by omega
    rw [e3] at b4 z4 o4 ⊢
    have hS4 := gw_S (H1 := H4) hS3 (by omega) (by rw [e3]; exact o4)
    have hP4 := hP3.kept (o4 _ (show h0 < sz + 205 by omega))
    refine gw_putF (D := D) (cl := gc_cl) (ci := 0) (ty := .array .int) (C := gR_Bk) (T := gT_Bk) (N := 5) hx hb hts (fun w h => List.mem_cons_of_mem _ (gl_Bk w h)) gF_Bk gf_Bk gn_Bk hown hK hP4 rfl 3 (by decide) (ht _ gt_88) (fun _ h9 => h9) rfl hin rfl (by decide +kernel) rfl rfl (Nat.le_of_ble_eq_true rfl) gd_Bk_init_70 (fun H5 i5 hP5 z5 o5 => ?_)
    have hS5 := va_S.put (k := i5) hS4 z5 o5 (Or.inl rfl)
    have hP5 : va_at D gc_cl (h0, .inr (0, [.ref sz, .ref (sz + 1), .ref (sz + 202), .ref (sz + 205), .int 0])) H5 := hP5
    have kp5 : ∀ q, q < sz + 205 → q ≠ h0 → H5[q]? = H2[q]? := fun q hq hn => (o5 q hn).trans ((o4 q hq).trans (o3 q hn))
    have b5 := b4.kept (o5 _ (show sz + 205 ≠ h0 by omega))
    have z5' : H5.size = sz + 206 := by omega
    refine W.widen (k := 206) (n := 1113) (Nat.le_of_ble_eq_true rfl) (Nat.le_of_ble_eq_true rfl) ?_
    refine lv_iconst (v := 0) hx hb gd_Bk_init_73 (by decide) ?_
    refine lv_istore_n (lv' := [(1, .int 0), (0, .ref h0)]) hx hb gd_Bk_init_74 rfl hl (by decide) rfl (fun ls hl => ?_)
    have L75 : ∀ (d i : Nat) (H : Heap) (locs : List Loc) (ls : Array Slot), i + d = 6 → H.size = sz + 206 → (∀ q : Nat, q ≠ sz + 205 → H[q]? = H5[q]?) → va_at D gc_cl (sz + 205, .inl (cI, 6, .inl (gi_g i))) H → va_S (gi_A h0 sz) s.heap H locs → lv_has ls 2 [(1, .int (nI i)), (0, .ref h0)] → W p l e (headSpec gws_Bk_init gi_rB).room s m ([.ref h0] : List Value).toArray below meth c H locs 206 1113 (MQ below (va_Qv (fun _ : Unit => True) (gi_BB D h0 sz) (gi_A h0 sz)) ([.ref h0] : List Value).toArray s 206 1113 (gi_A h0 sz)) (F0 m 75 ls []) := by
      intro d
      induction d with
      | zero =>
        intro i H locs ls hi hz ho b hS hl
        obtain rfl : i = 6 := by omega
        have hP := hP5.kept (ho _ (show h0 ≠ sz + 205 by omega))
        refine lv_iload_n hx hb gd_Bk_init_75 rfl (lv_at hl 0 rfl) ?_
        refine lv_aload_n hx hb gd_Bk_init_76 rfl (lv_at hl 1 rfl) ?_
        refine va_get (D := D) (ci := 0) (C := gR_Bk) (T := gT_Bk) (N := 5) hx hb hts (fun w h => List.mem_cons_of_mem _ (gl_Bk w h)) hown hK (gw_one hP) 0 rfl rfl 3 (by decide) (ht _ gt_88) (fun _ h9 => h9) rfl gd_Bk_init_77 ?_
        refine va_alen (D := D) (v := 6) hx hb y2 (gw_one b) 0 0 rfl rfl rfl gd_Bk_init_80 ?_
        refine lv_icmp_ge (tgt := 97) hx hb gd_Bk_init_81 (by decide) (fun c1 => ?_) (fun c1 => absurd (show (6 : Int32) ≤ nI 6 by decide) c1)
        refine lv_aload_n hx hb gd_Bk_init_97 rfl (lv_at hl 1 rfl) ?_
        refine lv_iconst (v := 0) hx hb gd_Bk_init_98 (by decide) ?_
        refine gw_put (D := D) (cl := gc_cl) (ci := 0) (ty := .int) (C := gR_Bk) (T := gT_Bk) (N := 5) hx hb hts (fun w h => List.mem_cons_of_mem _ (gl_Bk w h)) gF_Bk gf_Bk gn_Bk hown hK hP rfl 4 (by decide) (ht _ gt_89) (fun _ h9 => h9) rfl (by decide +kernel) rfl rfl (Nat.le_of_ble_eq_true rfl) gd_Bk_init_99 (fun H7 i7 hP7 z7 o7 => ?_)
        have hS7 := va_S.put (k := i7) hS z7 o7 (Or.inl rfl)
        have kp : ∀ q, q ≠ h0 → q ≠ sz + 205 → H7[q]? = H5[q]? := fun q n1 n2 => (o7 q n1).trans (ho q n2)
        have kq : ∀ q, q < sz + 202 → q ≠ h0 → H7[q]? = Ha[q]? := fun q n1 n2 => (kp q n2 (by omega)).trans ((kp5 q (by omega) n2).trans (kp2 q n1))
        refine W.vret hx hb hr (fun t ht hW => ⟨⟨(), rfl, trivial, cI, cT, by rw [ht]; omega, va_K.moved hW.alike (y2.app hKT), ?_⟩, hS7.F ht⟩) hS7.2.2 gd_Bk_init_102
        rw [ht]
        exact gi_fin hP7 (f1.kept (kq _ (by omega) (show sz ≠ h0 by omega))) (f2.kept (kq _ (by omega) (show sz + 1 ≠ h0 by omega))) (fun k hk => ⟨(f3 k hk).1.kept (kq _ (show sz + 2 + 2 * k < sz + 202 by omega) (show sz + 2 + 2 * k ≠ h0 by omega)), (f3 k hk).2.kept (kq _ (show sz + 3 + 2 * k < sz + 202 by omega) (show sz + 3 + 2 * k ≠ h0 by omega))⟩) (y3.kept ((kp _ (show sz + 202 ≠ h0 by omega) (show sz + 202 ≠ sz + 205 by omega)).trans (kp5 _ (show sz + 202 < sz + 205 by omega) (show sz + 202 ≠ h0 by omega)))) (y4.kept ((kp _ (show sz + 203 ≠ h0 by omega) (show sz + 203 ≠ sz + 205 by omega)).trans (kp5 _ (show sz + 203 < sz + 205 by omega) (show sz + 203 ≠ h0 by omega)))) (y5.kept ((kp _ (show sz + 204 ≠ h0 by omega) (show sz + 204 ≠ sz + 205 by omega)).trans (kp5 _ (show sz + 204 < sz + 205 by omega) (show sz + 204 ≠ h0 by omega)))) (b.kept (o7 _ (show sz + 205 ≠ h0 by omega)))
      | succ d ih =>
        intro i H locs ls hi hz ho b hS hl
        have hP := hP5.kept (ho _ (show h0 ≠ sz + 205 by omega))
        refine lv_iload_n hx hb gd_Bk_init_75 rfl (lv_at hl 0 rfl) ?_
        refine lv_aload_n hx hb gd_Bk_init_76 rfl (lv_at hl 1 rfl) ?_
        refine va_get (D := D) (ci := 0) (C := gR_Bk) (T := gT_Bk) (N := 5) hx hb hts (fun w h => List.mem_cons_of_mem _ (gl_Bk w h)) hown hK (gw_one hP) 0 rfl rfl 3 (by decide) (ht _ gt_88) (fun _ h9 => h9) rfl gd_Bk_init_77 ?_
        refine va_alen (D := D) (v := 6) hx hb y2 (gw_one b) 0 0 rfl rfl rfl gd_Bk_init_80 ?_
        refine lv_icmp_ge (tgt := 97) hx hb gd_Bk_init_81 (by decide) (fun c1 => absurd c1 (show ¬ (6 : Int32) ≤ nI i from nI_ge (b := 6) (by omega) (by decide))) (fun c1 => ?_)
        refine lv_aload_n hx hb gd_Bk_init_84 rfl (lv_at hl 1 rfl) ?_
        refine va_get (D := D) (ci := 0) (C := gR_Bk) (T := gT_Bk) (N := 5) hx hb hts (fun w h => List.mem_cons_of_mem _ (gl_Bk w h)) hown hK (gw_one hP) 0 rfl rfl 3 (by decide) (ht _ gt_88) (fun _ h9 => h9) rfl gd_Bk_init_85 ?_
        refine lv_iload_n hx hb gd_Bk_init_88 rfl (lv_at hl 0 rfl) ?_
        refine lv_iconst (v := -1) hx hb gd_Bk_init_89 (by decide) ?_
        refine gw_iast (D := D) (cl := gc_cl) hx hb y2 b 0 rfl (nI_in (by omega) (by decide)) gd_Bk_init_90 (fun H1 b1 z1 o1 => ?_)
        have hS1 := va_S.put (k := (nI i).toNatClampNeg) hS z1 o1 (Or.inr (by omega))
        rw [nI_clamp (by omega), gi_g_s] at b1
        refine lv_iinc (v := nI (i + 1)) (lv' := [(1, .int (nI (i + 1))), (0, .ref h0)]) hx hb gd_Bk_init_91 hl (k := 0) rfl (nI_1 i) (by decide) rfl (fun ls hl => ?_)
        refine lv_goto (tgt := 75) hx hb gd_Bk_init_94 (by decide) ?_
        exact ih (i + 1) H1 _ ls (by omega) (by omega) (fun q hq => (o1 q hq).trans (ho q hq)) b1 hS1 hl
    exact L75 6 0 H5 _ ls (by omega) z5' (fun q _ => rfl) (show va_at D gc_cl (sz + 205, .inl (cI, 6, .inl (gi_g 0))) H5 from b5) hS5 hl
  have L26 : ∀ (d i : Nat) (H : Heap) (locs : List Loc) (ls : Array Slot), i + d = 100 → H.size = sz + 2 + 2 * i → va_at D gc_cl (h0, .inr (0, [.ref sz, .ref (sz + 1), .null, .null, .int 0])) H → va_at D gc_cl (sz, gi_Tx) H → va_at D gc_cl (sz + 1, .inl (cT, 100, .inr (.inr (.inr (.inr (gi_f sz i)))))) H → (∀ k, k < i → va_at D gc_cl (sz + 2 + 2 * k, gi_Tm (sz + 3 + 2 * k)) H ∧ va_at D gc_cl (sz + 3 + 2 * k, gi_Tx) H) → va_S (gi_A h0 sz) s.heap H locs → lv_has ls 2 [(1, .int (nI i)), (0, .ref h0)] → W p l e (headSpec gws_Bk_init gi_rB).room s m ([.ref h0] : List Value).toArray below meth c H locs (2 + 2 * i) (103 + 8 * i) (MQ below (va_Qv (fun _ : Unit => True) (gi_BB D h0 sz) (gi_A h0 sz)) ([.ref h0] : List Value).toArray s 206 1113 (gi_A h0 sz)) (F0 m 26 ls []) := by
    intro d
    induction d with
    | zero =>
      intro i H locs ls hi hz hP a b f hS hl
      obtain rfl : i = 100 := by omega
      refine lv_iload_n hx hb gd_Bk_init_26 rfl (lv_at hl 0 rfl) ?_
      refine lv_aload_n hx hb gd_Bk_init_27 rfl (lv_at hl 1 rfl) ?_
      refine va_get (D := D) (ci := 0) (C := gR_Bk) (T := gT_Bk) (N := 5) hx hb hts (fun w h => List.mem_cons_of_mem _ (gl_Bk w h)) hown hK (gw_one hP) 0 rfl rfl 1 (by decide) (ht _ gt_86) (fun _ h9 => h9) rfl gd_Bk_init_28 ?_
      refine va_alen (D := D) (v := 100) hx hb hKT (gw_one b) 0 0 rfl rfl rfl gd_Bk_init_31 ?_
      refine lv_icmp_ge (tgt := 54) hx hb gd_Bk_init_32 (by decide) (fun c1 => ?_) (fun c1 => absurd (show (100 : Int32) ≤ nI 100 by decide) c1)
      exact L54 H locs ls hz hP a b f hS hl
    | succ d ih =>
      intro i H locs ls hi hz hP a b f hS hl
      refine lv_iload_n hx hb gd_Bk_init_26 rfl (lv_at hl 0 rfl) ?_
      refine lv_aload_n hx hb gd_Bk_init_27 rfl (lv_at hl 1 rfl) ?_
      refine va_get (D := D) (ci := 0) (C := gR_Bk) (T := gT_Bk) (N := 5) hx hb hts (fun w h => List.mem_cons_of_mem _ (gl_Bk w h)) hown hK (gw_one hP) 0 rfl rfl 1 (by decide) (ht _ gt_86) (fun _ h9 => h9) rfl gd_Bk_init_28 ?_
      refine va_alen (D := D) (v := 100) hx hb hKT (gw_one b) 0 0 rfl rfl rfl gd_Bk_init_31 ?_
      refine lv_icmp_ge (tgt := 54) hx hb gd_Bk_init_32 (by decide) (fun c1 => absurd c1 (show ¬ (100 : Int32) ≤ nI i from nI_ge (b := 100) (by omega) (by decide))) (fun c1 => ?_)
      refine lv_aload_n hx hb gd_Bk_init_35 rfl (lv_at hl 1 rfl) ?_
      refine va_get (D := D) (ci := 0) (C := gR_Bk) (T := gT_Bk) (N := 5) hx hb hts (fun w h => List.mem_cons_of_mem _ (gl_Bk w h)) hown hK (gw_one hP) 0 rfl rfl 1 (by decide) (ht _ gt_86) (fun _ h9 => h9) rfl gd_Bk_init_36 ?_
      refine lv_iload_n hx hb gd_Bk_init_39 rfl (lv_at hl 0 rfl) ?_
      refine gw_new (D := D) (cl := gc_cl) (ci := 3) (fs := [.null, .int 0, .int 0, .int 0, .int 0]) (C := gR_Tm) (T := gT_Tm) (N := 5) hx hb hts (fun w h => List.mem_cons_of_mem _ (gl_Tm w h)) gF_Tm gf_Tm hown (ht _ gt_34) (ht _ gt_36) (ht _ gt_3) hK rfl (fun j hj => by rcases (show j = 0 ∨ j = 1 ∨ j = 2 ∨ j = 3 ∨ j = 4 by omega) with rfl | rfl | rfl | rfl | rfl <;> rfl) (show 2 + 2 * i + 1 ≤ 206 by omega) (show 103 + 8 * i + 5 ≤ 1113 by omega) gd_Bk_init_40 (fun H1 a1 z1 o1 => ?_)
      rw [hz] at a1 z1 o1 ⊢
      have hS1 := gw_S (H1 := H1) hS (by omega) (by rw [hz]; exact o1)
      refine lv_dup hx hb gd_Bk_init_43 rfl ?_
      have hfr : ∀ q : Nat, (q = sz + 2 + 2 * i ∨ H1.size ≤ q) → gi_A h0 sz q := fun q h => Or.inr (show sz ≤ q by rcases h with h | h <;> omega)
      refine va_callv (va_runI (As := []) (rest := [.ref (sz + 2 + 2 * i), .int (nI i), .ref (sz + 1)]) ⟨hx, hb, hml, hown, hts⟩ (ct_Tm_init l D (sz + 2 + 2 * i) H1.size) (cwI 0 hts (gt_good gt_39) rfl rfl rfl (ht _ gt_3) (ht _ gt_37) (ht _ gt_38) rfl (by decide +kernel) ⟨Nat.le_of_ble_eq_true rfl, Nat.le_of_ble_eq_true rfl⟩) ⟨fun a U g mk q => by obtain ⟨q0, q1, qP, qK, qN⟩ := q; exact ⟨q0, q1, qP, va_K.moved (u := U) (U := U.calling g mk a) (Vm.Alike.refl U.vm) qK, qN.same rfl⟩, fun U hU hW => ⟨rfl, by rw [hU], by rw [hU]; exact a1, va_K.moved hW.alike hK, hN.warm hW⟩⟩ rfl rfl hl.1 rfl (lv_room (Nat.le_of_ble_eq_true rfl)) gd_Bk_init_44 ⟨show 2 + 2 * i + 1 + 1 ≤ 206 by omega, show 103 + 8 * i + 5 + 3 ≤ 1113 by omega⟩) hS1 (fun q _ h => hfr q h) (fun q h => hfr q h) (fun u t H2 locs2 ht2 hvm hw hB hz2 hk2 hS2 => ?_)
      obtain ⟨y1, y2, y3⟩ := hB
      have z1' : H1.size = sz + 3 + 2 * i := by omega
      rw [ht2, z1'] at y1 y2 y3
      have kp2 : ∀ q, q < sz + 2 + 2 * i → H2[q]? = H[q]? := fun q hq => (hk2 q (by omega) (fun h => by rcases h with h | h <;> omega)).trans (o1 q hq)
      have b2 := b.kept (kp2 _ (show sz + 1 < sz + 2 + 2 * i by omega))
      refine gw_astq (D := D) (cl := gc_cl) (r := (gR_Tm, gT_Tm, 5)) hx hb hKT b2 0 rfl y2 rfl (nI_in (by omega) (by decide)) gd_Bk_init_47 (fun H3 b3 z3 o3 => ?_)
      have hS3 := va_S.put (k := (nI i).toNatClampNeg) hS2 z3 o3 (Or.inr (by omega))
      rw [nI_clamp (by omega), gi_f_s] at b3
      refine lv_iinc (v := nI (i + 1)) (lv' := [(1, .int (nI (i + 1))), (0, .ref h0)]) hx hb gd_Bk_init_48 hl (k := 0) rfl (nI_1 i) (by decide) rfl (fun ls hl => ?_)
      refine lv_goto (tgt := 26) hx hb gd_Bk_init_51 (by decide) ?_
      have kp3 : ∀ q, q < sz + 2 + 2 * i → q ≠ sz + 1 → H3[q]? = H[q]? := fun q hq hn => (o3 q hn).trans (kp2 q hq)
      exact ih (i + 1) H3 _ ls (by omega) (by omega) (hP.kept (kp3 _ (show h0 < sz + 2 + 2 * i by omega) (show h0 ≠ sz + 1 by omega))) (a.kept (kp3 _ (show sz < sz + 2 + 2 * i by omega) (show sz ≠ sz + 1 by omega))) b3 (fun k hk => by
        by_cases hki : k < i
        · exact ⟨(f k hki).1.kept (kp3 _ (show sz + 2 + 2 * k < sz + 2 + 2 * i by omega) (show sz + 2 + 2 * k ≠ sz + 1 by omega)), (f k hki).2.kept (kp3 _ (show sz + 3 + 2 * k < sz + 2 + 2 * i by omega) (show sz + 3 + 2 * k ≠ sz + 1 by omega))⟩
        · obtain rfl : k = i := by omega
          exact ⟨y2.kept (o3 _ (show sz + 2 + 2 * k ≠ sz + 1 by omega)), y3.kept (o3 _ (show sz + 3 + 2 * k ≠ sz + 1 by omega))⟩) hS3 hl
  exact L26 100 0 H5 _ ls (by omega) (by omega) hP5 a5 (show va_at D gc_cl (sz + 1, .inl (cT, 100, .inr (.inr (.inr (.inr (gi_f sz 0)))))) H5 from b5) (fun k hk => absurd hk (by omega)) hS5 hl
