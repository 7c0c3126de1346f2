def fn_Ma_min (x y : Int32) : Int32 := if y < x then y else x
def fn_Ma_max (x y : Int32) : Int32 := if x < y then y else x
def fn_In_compare (p0 : Int32) (p1 : Int32) : Int32 := if p1 ≤ p0 then (if p0 = p1 then 0 else 1) else ((-1))
set_option maxHeartbeats 4000000 in
set_option maxRecDepth 100000 in
theorem ct_In_compare (l : Launch) (p0 : Int32) (p1 : Int32) (z : Int32) (hf : fn_In_compare p0 p1 = z) : Met l gy_In_compare gws_In_compare ({ frames := 0, cells := 0, slots := 0, locals := 0 }) (fun v _ => v = ([.int p0, .int p1] : List Value).toArray) (QcRead z) 0 0 (fun _ => False) := by
  refine Met.ofW (cc := gb_In_compare) (maxL := 2) (ret := (some .int)) (by decide) rfl ?_
  intro p e s m args below meth c s₁ B hml hv
  subst hv
  have hx := B.exec
  have hb := B.bytes
  have hr := B.returns
  have hts := atoms_spec (ws := gws_In_compare) B.pre
  have ht := fun (w : Cond) (h : w ∈ gt_T) => hts w (List.mem_cons_of_mem _ h)
  have hown : s.vm.findClass "java/lang/Integer" = some m.cls := findClass_of_methodNamed B.named
  have hlocks := B.notSynchronized
  have hl := lv_entry ([.int p0, .int p1]) (n := 2) (Nat.le_of_ble_eq_true rfl)
  rw [lg_entry_eq]
  generalize (lg_sl ([.int p0, .int p1]) ++ List.replicate (2 - (lg_sl ([.int p0, .int p1])).length) Slot.unset).toArray = ls at hl ⊢
  have hl : lv_has ls 2 [(0, .int p0), (1, .int p1)] := hl
  unfold fn_In_compare at hf
  refine lv_iload_n hx hb gd_In_compare_0 rfl (lv_at hl 0 rfl) ?_
  refine lv_iload_n hx hb gd_In_compare_1 rfl (lv_at hl 1 rfl) ?_
  refine lv_icmp_ge (tgt := 9) hx hb gd_In_compare_2 (by decide) (fun c2 => ?_) (fun c2 => ?_)
  · replace hf := gj_t c2 hf
    refine lv_iload_n hx hb gd_In_compare_9 rfl (lv_at hl 0 rfl) ?_
    refine lv_iload_n hx hb gd_In_compare_10 rfl (lv_at hl 1 rfl) ?_
    refine lv_icmp_ne (tgt := 18) hx hb gd_In_compare_11 (by decide) (fun c1 => ?_) (fun c1 => ?_)
    · replace hf := gj_e c1 hf
      refine lv_iconst (v := 1) hx hb gd_In_compare_18 (by decide) ?_
      subst hf
      exact W.iret hx hb hr (fun t ht hW => ⟨rfl, ht⟩) (fun q h => by cases h) gd_In_compare_19
    · replace hf := gj_t c1 hf
      refine lv_iconst (v := 0) hx hb gd_In_compare_14 (by decide) ?_
      refine lv_goto (tgt := 19) hx hb gd_In_compare_15 (by decide) ?_
      subst hf
      exact W.iret hx hb hr (fun t ht hW => ⟨rfl, ht⟩) (fun q h => by cases h) gd_In_compare_19
  · replace hf := gj_e c2 hf
    refine lv_iconst (v := (-1)) hx hb gd_In_compare_5 (by decide) ?_
    refine lv_goto (tgt := 19) hx hb gd_In_compare_6 (by decide) ?_
    subst hf
    exact W.iret hx hb hr (fun t ht hW => ⟨rfl, ht⟩) (fun q h => by cases h) gd_In_compare_19
def fn_In_numberOfLeadingZeros_73 (x0 : Int32) (x1 : Int32) : Int32 := (x1 - (gj_iushr x0 1))
def fn_In_numberOfLeadingZeros_61 (x0 : Int32) (x1 : Int32) : Int32 := if x0 < 4 then (fn_In_numberOfLeadingZeros_73 x0 x1) else (fn_In_numberOfLeadingZeros_73 (gj_iushr x0 2) (x1 + (-2)))
def fn_In_numberOfLeadingZeros_48 (x0 : Int32) (x1 : Int32) : Int32 := if x0 < 16 then (fn_In_numberOfLeadingZeros_61 x0 x1) else (fn_In_numberOfLeadingZeros_61 (gj_iushr x0 4) (x1 + (-4)))
def fn_In_numberOfLeadingZeros_33 (x0 : Int32) (x1 : Int32) : Int32 := if x0 < 256 then (fn_In_numberOfLeadingZeros_48 x0 x1) else (fn_In_numberOfLeadingZeros_48 (gj_iushr x0 8) (x1 + (-8)))
def fn_In_numberOfLeadingZeros (p0 : Int32) : Int32 := if 0 < p0 then (if p0 < 65536 then (fn_In_numberOfLeadingZeros_33 p0 31) else (fn_In_numberOfLeadingZeros_33 (gj_iushr p0 16) (31 + (-16)))) else (if p0 = 0 then 32 else 0)
set_option maxHeartbeats 4000000 in
set_option maxRecDepth 100000 in
theorem ct_In_numberOfLeadingZeros (l : Launch) (p0 : Int32) (z : Int32) (hf : fn_In_numberOfLeadingZeros p0 = z) : Met l gy_In_numberOfLeadingZeros gws_In_numberOfLeadingZeros ({ frames := 0, cells := 0, slots := 0, locals := 0 }) (fun v _ => v = ([.int p0] : List Value).toArray) (QcRead z) 0 0 (fun _ => False) := by
  refine Met.ofW (cc := gb_In_numberOfLeadingZeros) (maxL := 2) (ret := (some .int)) (by decide) rfl ?_
  intro p e s m args below meth c s₁ B hml hv
  subst hv
  have hx := B.exec
  have hb := B.bytes
  have hr := B.returns
  have hts := atoms_spec (ws := gws_In_numberOfLeadingZeros) B.pre
  have ht := fun (w : Cond) (h : w ∈ gt_T) => hts w (List.mem_cons_of_mem _ h)
  have hown : s.vm.findClass "java/lang/Integer" = some m.cls := findClass_of_methodNamed B.named
  have hlocks := B.notSynchronized
  have hl := lv_entry ([.int p0]) (n := 2) (Nat.le_of_ble_eq_true rfl)
  rw [lg_entry_eq]
  generalize (lg_sl ([.int p0]) ++ List.replicate (2 - (lg_sl ([.int p0])).length) Slot.unset).toArray = ls at hl ⊢
  have hl : lv_has ls 2 [(0, .int p0)] := hl
  have L73 : ∀ (x0 : Int32) (x1 : Int32) (ls : Array Slot), fn_In_numberOfLeadingZeros_73 x0 x1 = z → lv_has ls 2 [(0, .int x0), (1, .int x1)] → W p l e (headSpec gws_In_numberOfLeadingZeros ({ frames := 0, cells := 0, slots := 0, locals := 0 })).room s m ([.int p0] : List Value).toArray below meth c s.heap [] 0 0 (MQ below (QcRead z) ([.int p0] : List Value).toArray s 0 0 (fun _ => False)) (F0 m 73 ls []) := by
    intro x0 x1 ls hf hl
    unfold fn_In_numberOfLeadingZeros_73 at hf
    refine lv_iload_n hx hb gd_In_numberOfLeadingZeros_73 rfl (lv_at hl 1 rfl) ?_
    refine lv_iload_n hx hb gd_In_numberOfLeadingZeros_74 rfl (lv_at hl 0 rfl) ?_
    refine lv_iconst (v := 1) hx hb gd_In_numberOfLeadingZeros_75 (by decide) ?_
    refine lv_iushr (v := gj_iushr x0 1) hx hb gd_In_numberOfLeadingZeros_76 rfl ?_
    refine lv_isub hx hb gd_In_numberOfLeadingZeros_77 ?_
    subst hf
    exact W.iret hx hb hr (fun t ht hW => ⟨rfl, ht⟩) (fun q h => by cases h) gd_In_numberOfLeadingZeros_78
  have L61 : ∀ (x0 : Int32) (x1 : Int32) (ls : Array Slot), fn_In_numberOfLeadingZeros_61 x0 x1 = z → lv_has ls 2 [(0, .int x0), (1, .int x1)] → W p l e (headSpec gws_In_numberOfLeadingZeros ({ frames := 0, cells := 0, slots := 0, locals := 0 })).room s m ([.int p0] : List Value).toArray below meth c s.heap [] 0 0 (MQ below (QcRead z) ([.int p0] : List Value).toArray s 0 0 (fun _ => False)) (F0 m 61 ls []) := by
    intro x0 x1 ls hf hl
    unfold fn_In_numberOfLeadingZeros_61 at hf
    refine lv_iload_n hx hb gd_In_numberOfLeadingZeros_61 rfl (lv_at hl 0 rfl) ?_
    refine lv_iconst (v := 4) hx hb gd_In_numberOfLeadingZeros_62 (by decide) ?_
    refine lv_icmp_lt (tgt := 73) hx hb gd_In_numberOfLeadingZeros_63 (by decide) (fun c1 => ?_) (fun c1 => ?_)
    · replace hf := gj_t c1 hf
      exact L73 x0 x1 _ hf (lv_sub hl [0, 1] rfl)
    · replace hf := gj_e c1 hf
      refine lv_iinc (v := x1 + (-2)) (lv' := [(1, .int (x1 + (-2))), (0, .int x0)]) hx hb gd_In_numberOfLeadingZeros_66 hl (k := 1) rfl rfl (by decide) rfl (fun ls hl => ?_)
      refine lv_iload_n hx hb gd_In_numberOfLeadingZeros_69 rfl (lv_at hl 1 rfl) ?_
      refine lv_iconst (v := 2) hx hb gd_In_numberOfLeadingZeros_70 (by decide) ?_
      refine lv_iushr (v := gj_iushr x0 2) hx hb gd_In_numberOfLeadingZeros_71 rfl ?_
      refine lv_istore_n (lv' := [(0, .int (gj_iushr x0 2)), (1, .int (x1 + (-2)))]) hx hb gd_In_numberOfLeadingZeros_72 rfl hl (by decide) rfl (fun ls hl => ?_)
      exact L73 (gj_iushr x0 2) (x1 + (-2)) _ hf (lv_sub hl [0, 1] rfl)
  have L48 : ∀ (x0 : Int32) (x1 : Int32) (ls : Array Slot), fn_In_numberOfLeadingZeros_48 x0 x1 = z → lv_has ls 2 [(0, .int x0), (1, .int x1)] → W p l e (headSpec gws_In_numberOfLeadingZeros ({ frames := 0, cells := 0, slots := 0, locals := 0 })).room s m ([.int p0] : List Value).toArray below meth c s.heap [] 0 0 (MQ below (QcRead z) ([.int p0] : List Value).toArray s 0 0 (fun _ => False)) (F0 m 48 ls []) := by
    intro x0 x1 ls hf hl
    unfold fn_In_numberOfLeadingZeros_48 at hf
    refine lv_iload_n hx hb gd_In_numberOfLeadingZeros_48 rfl (lv_at hl 0 rfl) ?_
    refine lv_bipush (v := 16) hx hb gd_In_numberOfLeadingZeros_49 (by decide) ?_
    refine lv_icmp_lt (tgt := 61) hx hb gd_In_numberOfLeadingZeros_51 (by decide) (fun c2 => ?_) (fun c2 => ?_)
    · replace hf := gj_t c2 hf
      exact L61 x0 x1 _ hf (lv_sub hl [0, 1] rfl)
    · replace hf := gj_e c2 hf
      refine lv_iinc (v := x1 + (-4)) (lv' := [(1, .int (x1 + (-4))), (0, .int x0)]) hx hb gd_In_numberOfLeadingZeros_54 hl (k := 1) rfl rfl (by decide) rfl (fun ls hl => ?_)
      refine lv_iload_n hx hb gd_In_numberOfLeadingZeros_57 rfl (lv_at hl 1 rfl) ?_
      refine lv_iconst (v := 4) hx hb gd_In_numberOfLeadingZeros_58 (by decide) ?_
      refine lv_iushr (v := gj_iushr x0 4) hx hb gd_In_numberOfLeadingZeros_59 rfl ?_
      refine lv_istore_n (lv' := [(0, .int (gj_iushr x0 4)), (1, .int (x1 + (-4)))]) hx hb gd_In_numberOfLeadingZeros_60 rfl hl (by decide) rfl (fun ls hl => ?_)
      exact L61 (gj_iushr x0 4) (x1 + (-4)) _ hf (lv_sub hl [0, 1] rfl)
  have L33 : ∀ (x0 : Int32) (x1 : Int32) (ls : Array Slot), fn_In_numberOfLeadingZeros_33 x0 x1 = z → lv_has ls 2 [(0, .int x0), (1, .int x1)] → W p l e (headSpec gws_In_numberOfLeadingZeros ({ frames := 0, cells := 0, slots := 0, locals := 0 })).room s m ([.int p0] : List Value).toArray below meth c s.heap [] 0 0 (MQ below (QcRead z) ([.int p0] : List Value).toArray s 0 0 (fun _ => False)) (F0 m 33 ls []) := by
    intro x0 x1 ls hf hl
    unfold fn_In_numberOfLeadingZeros_33 at hf
    refine lv_iload_n hx hb gd_In_numberOfLeadingZeros_33 rfl (lv_at hl 0 rfl) ?_
    refine lv_sipush (v := 256) hx hb gd_In_numberOfLeadingZeros_34 (by decide) ?_
    refine lv_icmp_lt (tgt := 48) hx hb gd_In_numberOfLeadingZeros_37 (by decide) (fun c3 => ?_) (fun c3 => ?_)
    · replace hf := gj_t c3 hf
      exact L48 x0 x1 _ hf (lv_sub hl [0, 1] rfl)
    · replace hf := gj_e c3 hf
      refine lv_iinc (v := x1 + (-8)) (lv' := [(1, .int (x1 + (-8))), (0, .int x0)]) hx hb gd_In_numberOfLeadingZeros_40 hl (k := 1) rfl rfl (by decide) rfl (fun ls hl => ?_)
      refine lv_iload_n hx hb gd_In_numberOfLeadingZeros_43 rfl (lv_at hl 1 rfl) ?_
      refine lv_bipush (v := 8) hx hb gd_In_numberOfLeadingZeros_44 (by decide) ?_
      refine lv_iushr (v := gj_iushr x0 8) hx hb gd_In_numberOfLeadingZeros_46 rfl ?_
      refine lv_istore_n (lv' := [(0, .int (gj_iushr x0 8)), (1, .int (x1 + (-8)))]) hx hb gd_In_numberOfLeadingZeros_47 rfl hl (by decide) rfl (fun ls hl => ?_)
      exact L48 (gj_iushr x0 8) (x1 + (-8)) _ hf (lv_sub hl [0, 1] rfl)
  unfold fn_In_numberOfLeadingZeros at hf
  refine lv_iload_n hx hb gd_In_numberOfLeadingZeros_0 rfl (lv_at hl 0 rfl) ?_
  refine lv_if_gt (tgt := 15) hx hb gd_In_numberOfLeadingZeros_1 (by decide) (fun c6 => ?_) (fun c6 => ?_)
  · replace hf := gj_t c6 hf
    refine lv_bipush (v := 31) hx hb gd_In_numberOfLeadingZeros_15 (by decide) ?_
    refine lv_istore_n (lv' := [(1, .int 31), (0, .int p0)]) hx hb gd_In_numberOfLeadingZeros_17 rfl hl (by decide) rfl (fun ls hl => ?_)
    refine lv_iload_n hx hb gd_In_numberOfLeadingZeros_18 rfl (lv_at hl 1 rfl) ?_
    refine lv_ldcw (v := 65536) hx hb hown (ht _ gt_283) gd_In_numberOfLeadingZeros_19 ?_
    refine lv_icmp_lt (tgt := 33) hx hb gd_In_numberOfLeadingZeros_22 (by decide) (fun c4 => ?_) (fun c4 => ?_)
    · replace hf := gj_t c4 hf
      exact L33 p0 31 _ hf (lv_sub hl [1, 0] rfl)
    · replace hf := gj_e c4 hf
      refine lv_iinc (v := 31 + (-16)) (lv' := [(1, .int (31 + (-16))), (0, .int p0)]) hx hb gd_In_numberOfLeadingZeros_25 hl (k := 0) rfl rfl (by decide) rfl (fun ls hl => ?_)
      refine lv_iload_n hx hb gd_In_numberOfLeadingZeros_28 rfl (lv_at hl 1 rfl) ?_
      refine lv_bipush (v := 16) hx hb gd_In_numberOfLeadingZeros_29 (by decide) ?_
      refine lv_iushr (v := gj_iushr p0 16) hx hb gd_In_numberOfLeadingZeros_31 rfl ?_
      refine lv_istore_n (lv' := [(0, .int (gj_iushr p0 16)), (1, .int (31 + (-16)))]) hx hb gd_In_numberOfLeadingZeros_32 rfl hl (by decide) rfl (fun ls hl => ?_)
      exact L33 (gj_iushr p0 16) (31 + (-16)) _ hf (lv_sub hl [0, 1] rfl)
  · replace hf := gj_e c6 hf
    refine lv_iload_n hx hb gd_In_numberOfLeadingZeros_4 rfl (lv_at hl 0 rfl) ?_
    refine lv_if_ne (tgt := 13) hx hb gd_In_numberOfLeadingZeros_5 (by decide) (fun c5 => ?_) (fun c5 => ?_)
    · replace hf := gj_e c5 hf
      refine lv_iconst (v := 0) hx hb gd_In_numberOfLeadingZeros_13 (by decide) ?_
      subst hf
      exact W.iret hx hb hr (fun t ht hW => ⟨rfl, ht⟩) (fun q h => by cases h) gd_In_numberOfLeadingZeros_14
    · replace hf := gj_t c5 hf
      refine lv_bipush (v := 32) hx hb gd_In_numberOfLeadingZeros_8 (by decide) ?_
      refine lv_goto (tgt := 14) hx hb gd_In_numberOfLeadingZeros_10 (by decide) ?_
      subst hf
      exact W.iret hx hb hr (fun t ht hW => ⟨rfl, ht⟩) (fun q h => by cases h) gd_In_numberOfLeadingZeros_14
def fn_Lo_compare (p0 : Int64) (p2 : Int64) : Int32 := if 0 ≤ (lg_cmp p0 p2) then (if (lg_cmp p0 p2) = 0 then 0 else 1) else ((-1))
set_option maxHeartbeats 4000000 in
set_option maxRecDepth 100000 in
theorem ct_Lo_compare (l : Launch) (p0 : Int64) (p2 : Int64) (z : Int32) (hf : fn_Lo_compare p0 p2 = z) : Met l gy_Lo_compare gws_Lo_compare ({ frames := 0, cells := 0, slots := 0, locals := 0 }) (fun v _ => v = ([.long p0, .long p2] : List Value).toArray) (QcRead z) 0 0 (fun _ => False) := by
  refine Met.ofW (cc := gb_Lo_compare) (maxL := 4) (ret := (some .int)) (by decide) rfl ?_
  intro p e s m args below meth c s₁ B hml hv
  subst hv
  have hx := B.exec
  have hb := B.bytes
  have hr := B.returns
  have hts := atoms_spec (ws := gws_Lo_compare) B.pre
  have ht := fun (w : Cond) (h : w ∈ gt_T) => hts w (List.mem_cons_of_mem _ h)
  have hown : s.vm.findClass "java/lang/Long" = some m.cls := findClass_of_methodNamed B.named
  have hlocks := B.notSynchronized
  have hl := lv_entry ([.long p0, .long p2]) (n := 4) (Nat.le_of_ble_eq_true rfl)
  rw [lg_entry_eq]
  generalize (lg_sl ([.long p0, .long p2]) ++ List.replicate (4 - (lg_sl ([.long p0, .long p2])).length) Slot.unset).toArray = ls at hl ⊢
  have hl : lv_has ls 4 [(0, .long p0), (2, .long p2)] := hl
  unfold fn_Lo_compare at hf
  refine lv_lload_n hx hb gd_Lo_compare_0 rfl (lv_at hl 0 rfl) ?_
  refine lv_lload_n hx hb gd_Lo_compare_1 rfl (lv_at hl 1 rfl) ?_
  refine W.lcmp hx hb gd_Lo_compare_2 ?_
  refine lv_if_ge (tgt := 10) hx hb gd_Lo_compare_3 (by decide) (fun c2 => ?_) (fun c2 => ?_)
  · replace hf := gj_t c2 hf
    refine lv_lload_n hx hb gd_Lo_compare_10 rfl (lv_at hl 0 rfl) ?_
    refine lv_lload_n hx hb gd_Lo_compare_11 rfl (lv_at hl 1 rfl) ?_
    refine W.lcmp hx hb gd_Lo_compare_12 ?_
    refine lv_if_ne (tgt := 20) hx hb gd_Lo_compare_13 (by decide) (fun c1 => ?_) (fun c1 => ?_)
    · replace hf := gj_e c1 hf
      refine lv_iconst (v := 1) hx hb gd_Lo_compare_20 (by decide) ?_
      subst hf
      exact W.iret hx hb hr (fun t ht hW => ⟨rfl, ht⟩) (fun q h => by cases h) gd_Lo_compare_21
    · replace hf := gj_t c1 hf
      refine lv_iconst (v := 0) hx hb gd_Lo_compare_16 (by decide) ?_
      refine lv_goto (tgt := 21) hx hb gd_Lo_compare_17 (by decide) ?_
      subst hf
      exact W.iret hx hb hr (fun t ht hW => ⟨rfl, ht⟩) (fun q h => by cases h) gd_Lo_compare_21
  · replace hf := gj_e c2 hf
    refine lv_iconst (v := (-1)) hx hb gd_Lo_compare_6 (by decide) ?_
    refine lv_goto (tgt := 21) hx hb gd_Lo_compare_7 (by decide) ?_
    subst hf
    exact W.iret hx hb hr (fun t ht hW => ⟨rfl, ht⟩) (fun q h => by cases h) gd_Lo_compare_21
def fn_Lo_numberOfLeadingZeros (p0 : Int64) : Int32 := if (Int64.toInt32 (gj_lushr p0 32)) = 0 then ((32 + (fn_In_numberOfLeadingZeros (Int64.toInt32 p0)))) else ((fn_In_numberOfLeadingZeros (Int64.toInt32 (gj_lushr p0 32))))
set_option maxHeartbeats 4000000 in
set_option maxRecDepth 100000 in
theorem ct_Lo_numberOfLeadingZeros (l : Launch) (p0 : Int64) (z : Int32) (hf : fn_Lo_numberOfLeadingZeros p0 = z) : Met l gy_Lo_numberOfLeadingZeros gws_Lo_numberOfLeadingZeros ({ frames := 1, cells := 0, slots := 0, locals := 21 }) (fun v _ => v = ([.long p0] : List Value).toArray) (QcRead z) 0 0 (fun _ => False) := by
  refine Met.ofW (cc := gb_Lo_numberOfLeadingZeros) (maxL := 3) (ret := (some .int)) (by decide) rfl ?_
  intro p e s m args below meth c s₁ B hml hv
  subst hv
  have hx := B.exec
  have hb := B.bytes
  have hr := B.returns
  have hts := atoms_spec (ws := gws_Lo_numberOfLeadingZeros) B.pre
  have ht := fun (w : Cond) (h : w ∈ gt_T) => hts w (List.mem_cons_of_mem _ h)
  have hown : s.vm.findClass "java/lang/Long" = some m.cls := findClass_of_methodNamed B.named
  have hlocks := B.notSynchronized
  have hl := lv_entry ([.long p0]) (n := 3) (Nat.le_of_ble_eq_true rfl)
  rw [lg_entry_eq]
  generalize (lg_sl ([.long p0]) ++ List.replicate (3 - (lg_sl ([.long p0])).length) Slot.unset).toArray = ls at hl ⊢
  have hl : lv_has ls 3 [(0, .long p0)] := hl
  unfold fn_Lo_numberOfLeadingZeros at hf
  refine lv_lload_n hx hb gd_Lo_numberOfLeadingZeros_0 rfl (lv_at hl 0 rfl) ?_
  refine lv_bipush (v := 32) hx hb gd_Lo_numberOfLeadingZeros_1 (by decide) ?_
  refine lv_lushr (v := gj_lushr p0 32) hx hb gd_Lo_numberOfLeadingZeros_3 rfl ?_
  refine lv_l2i hx hb gd_Lo_numberOfLeadingZeros_4 rfl ?_
  refine lv_istore_n (lv' := [(2, .int (Int64.toInt32 (gj_lushr p0 32))), (0, .long p0)]) hx hb gd_Lo_numberOfLeadingZeros_5 rfl hl (by decide) rfl (fun ls hl => ?_)
  refine lv_iload_n hx hb gd_Lo_numberOfLeadingZeros_6 rfl (lv_at hl 0 rfl) ?_
  refine lv_if_ne (tgt := 21) hx hb gd_Lo_numberOfLeadingZeros_7 (by decide) (fun c1 => ?_) (fun c1 => ?_)
  · replace hf := gj_e c1 hf
    refine lv_iload_n hx hb gd_Lo_numberOfLeadingZeros_21 rfl (lv_at hl 0 rfl) ?_
    refine W.callR (W.runS (As := [.int (Int64.toInt32 (gj_lushr p0 32))]) (rest := []) ⟨hx, hb, hml, hown, hts⟩ (ct_In_numberOfLeadingZeros l (Int64.toInt32 (gj_lushr p0 32)) _ rfl) (va_cwS 1 hts (gt_S gt_280 gt_281 gt_6 gt_282) rfl rfl rfl (by decide +kernel) ⟨Nat.le_of_ble_eq_true rfl, Nat.le_of_ble_eq_true rfl⟩) preEq rfl rfl hl.1 rfl (lv_room (Nat.le_of_ble_eq_true rfl)) gd_Lo_numberOfLeadingZeros_22 ⟨Nat.zero_le _, Nat.zero_le _⟩) ?_
    refine W.eq (g2 := F0 m 25 ls (.int (fn_In_numberOfLeadingZeros (Int64.toInt32 (gj_lushr p0 32))) :: [])) rfl ?_
    subst hf
    exact W.iret hx hb hr (fun t ht hW => ⟨rfl, ht⟩) (fun q h => by cases h) gd_Lo_numberOfLeadingZeros_25
  · replace hf := gj_t c1 hf
    refine lv_bipush (v := 32) hx hb gd_Lo_numberOfLeadingZeros_10 (by decide) ?_
    refine lv_lload_n hx hb gd_Lo_numberOfLeadingZeros_12 rfl (lv_at hl 1 rfl) ?_
    refine lv_l2i hx hb gd_Lo_numberOfLeadingZeros_13 rfl ?_
    refine W.callR (W.runS (As := [.int (Int64.toInt32 p0)]) (rest := [.int 32]) ⟨hx, hb, hml, hown, hts⟩ (ct_In_numberOfLeadingZeros l (Int64.toInt32 p0) _ rfl) (va_cwS 1 hts (gt_S gt_280 gt_281 gt_6 gt_282) rfl rfl rfl (by decide +kernel) ⟨Nat.le_of_ble_eq_true rfl, Nat.le_of_ble_eq_true rfl⟩) preEq rfl rfl hl.1 rfl (lv_room (Nat.le_of_ble_eq_true rfl)) gd_Lo_numberOfLeadingZeros_14 ⟨Nat.zero_le _, Nat.zero_le _⟩) ?_
    refine W.eq (g2 := F0 m 17 ls (.int (fn_In_numberOfLeadingZeros (Int64.toInt32 p0)) :: [.int 32])) rfl ?_
    refine lv_iadd hx hb gd_Lo_numberOfLeadingZeros_17 ?_
    refine lv_goto (tgt := 25) hx hb gd_Lo_numberOfLeadingZeros_18 (by decide) ?_
    subst hf
    exact W.iret hx hb hr (fun t ht hW => ⟨rfl, ht⟩) (fun q h => by cases h) gd_Lo_numberOfLeadingZeros_25
