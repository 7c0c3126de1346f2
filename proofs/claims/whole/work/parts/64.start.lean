/-! the start: both are new, and hold the empty state -/
theorem ga_0_W : ga_W 0 ga_0 := by
  refine ⟨⟨Nat.zero_le _, ⟨Nat.zero_le _, fun i hi => absurd hi (Nat.not_lt_zero _)⟩, fun j hj => absurd hj (Nat.not_lt_zero _), fun j hj => absurd hj (Nat.not_lt_zero _), fun i j _ hj => absurd hj (Nat.not_lt_zero _)⟩, ⟨fun k _ => Or.inl rfl, fun j hj => absurd hj (Nat.not_lt_zero _), fun k _ h => absurd (show (0 : Nat) = 1 from h) (by decide)⟩, fun k _ => Nat.le_refl _, ⟨rfl, fun j hj => absurd hj (Nat.not_lt_zero _)⟩, ⟨Nat.le_refl _, Nat.zero_le _, fun i hi => absurd hi (Nat.not_lt_zero _), fun i j _ hj => absurd hj (Nat.not_lt_zero _), fun i t hi _ => absurd hi (Nat.not_lt_zero _)⟩⟩
theorem ga_0_R : gb_R ga_0 gk_u0 := by
  have hz : ∀ o, tx_enc (ga_P ga_0) o 8 = 0 := fun o => tx_zero o 8 (fun i _ => by unfold ga_P; split <;> rfl)
  refine ⟨⟨rfl, fun j hj => absurd hj (Nat.not_lt_zero _), rfl, fun j hj => absurd hj (Nat.not_lt_zero _), fun _ => rfl⟩, fun k _ => rfl, ⟨rfl, by rw [hz]; rfl, by rw [hz]; rfl⟩, fun k _ h => absurd (show (0 : Nat) = 1 from h) (by decide), rfl, fun i => i, fun i hi => absurd hi (Nat.not_lt_zero _), fun i j hi => absurd hi (Nat.not_lt_zero _), fun q hq _ => ?_, fun t _ h => absurd (show (0 : Nat) = 1 from h) (by decide)⟩
  show gi_g 6 q = -1
  exact if_pos hq
theorem gt_nest {w : Cond} (i : Nat) (h : tables_1[i]? = some w) : w ∈ lw_tbl := List.mem_append_right _ (List.mem_of_getElem? h)
theorem lw_N {s : State} {args : Array Value} (hts : ∀ w ∈ lw_tbl, w.before args s = true) : gq_N gk_NF gk_NM s := by
  refine ⟨List.forall_mem_cons.mpr ⟨va_Nw.of rfl (hts _ (gt_nest 26 (by decide +kernel))), List.forall_mem_cons.mpr ⟨va_Nw.of rfl (hts _ (gt_nest 44 (by decide +kernel))), List.forall_mem_cons.mpr ⟨va_Nw.of rfl (hts _ (gt_nest 46 (by decide +kernel))), List.forall_mem_cons.mpr ⟨va_Nw.of rfl (hts _ (gt_nest 48 (by decide +kernel))), List.forall_mem_cons.mpr ⟨va_Nw.of rfl (hts _ (gt_nest 50 (by decide +kernel))), List.forall_mem_cons.mpr ⟨va_Nw.of rfl (hts _ (gt_nest 71 (by decide +kernel))), List.forall_mem_cons.mpr ⟨va_Nw.of rfl (hts _ (gt_nest 74 (by decide +kernel))), fun _ h => absurd h List.not_mem_nil⟩⟩⟩⟩⟩⟩⟩, List.forall_mem_cons.mpr ⟨va_Nw.of rfl (hts _ (gt_nest 19 (by decide +kernel))), List.forall_mem_cons.mpr ⟨va_Nw.of rfl (hts _ (gt_nest 42 (by decide +kernel))), List.forall_mem_cons.mpr ⟨va_Nw.of rfl (hts _ (gt_nest 256 (by decide +kernel))), fun _ h => absurd h List.not_mem_nil⟩⟩⟩⟩
theorem gk_ad_b {h sz c k : Nat} (hv : gk_vd c k) (hh : sz = h + 1 := by first | rfl | omega) : h ≤ gk_ad h sz c k ∧ gk_ad h sz c k < h + 207 := by
  subst hh
  match c, hv with
  | 0, hv => exact ⟨Nat.le_refl _, by show h < h + 207; omega⟩
  | 1, hv => show h ≤ h + 1 + 1 ∧ h + 1 + 1 < h + 207; omega
  | 2, hv => show h ≤ h + 1 + 202 ∧ h + 1 + 202 < h + 207; omega
  | 3, hv => show h ≤ h + 1 + 203 ∧ h + 1 + 203 < h + 207; omega
  | 4, hv => show h ≤ h + 1 + 204 ∧ h + 1 + 204 < h + 207; omega
  | 5, hv => show h ≤ h + 1 + 205 ∧ h + 1 + 205 < h + 207; omega
  | 6, hv =>
    have hk : k ≤ 100 := hv
    show h ≤ (if k = 100 then h + 1 else h + 1 + 3 + 2 * k) ∧ (if k = 100 then h + 1 else h + 1 + 3 + 2 * k) < h + 207
    split <;> omega
  | 7, hv =>
    have hk : k < 100 := hv
    show h ≤ h + 1 + 2 + 2 * k ∧ h + 1 + 2 + 2 * k < h + 207
    omega
  | n + 8, hv => simp [gk_vd] at hv
set_option maxHeartbeats 4000000 in
set_option maxRecDepth 100000 in
theorem whole_start {p : Program} {e : Env} {s : State} {m : MethodId} {below : List Frame} {meth : Method} {c : Code} (l : Launch) {b L : Nat} {xs : Nat → Int32} (hL : L ≤ 2048) (C0 : lw_At p s m meth c b L xs) : W p l e room_1 s m #[Value.ref b] below meth c s.heap [] 0 0 (lw_Z below #[Value.ref b] s) (entryFrame m ([Value.ref b] : List Value).toArray 4) := by
  obtain ⟨hx, hb, hr, hml, hown, hts0, hX, hbl, hlocks, hgv⟩ := id C0
  have hts : ∀ w ∈ (Cond.initialized "TermBook" :: gt_T), w.before #[Value.ref b] s = true := fun w hw => hts0 w (gt_sub w (gt_cons gt_1 w hw))
  have ht := fun (w : Cond) (h : w ∈ gt_T) => hts w (List.mem_cons_of_mem _ h)
  have hN := lw_N hts0
  have hAO : va_AO "TermBook$Term" s := va_AO.of (hts0 _ (gt_nest 35 (by decide +kernel)))
  obtain ⟨c0, i0, k0⟩ := u_known (C := gR_Bk) (T := gT_Bk) (N := 5) (n := 5) hts (fun w h => List.mem_cons_of_mem _ (gl_Bk w h)) (ht _ gt_10)
  obtain ⟨c1, i1, k1⟩ := u_known (C := gR_Lv) (T := gT_Lv) (N := 4) (n := 4) hts (fun w h => List.mem_cons_of_mem _ (gl_Lv w h)) (ht _ gt_64)
  obtain ⟨c2, i2, k2⟩ := u_known (C := gR_Tx) (T := gT_Tx) (N := 3) (n := 3) hts (fun w h => List.mem_cons_of_mem _ (gl_Tx w h)) (ht _ gt_18)
  obtain ⟨c3, i3, k3⟩ := u_known (C := gR_Tm) (T := gT_Tm) (N := 5) (n := 5) hts (fun w h => List.mem_cons_of_mem _ (gl_Tm w h)) (ht _ gt_36)
  obtain ⟨c4, i4, k4⟩ := u_known (C := gR_Md) (T := gT_Md) (N := 16) (n := 16) hts (fun w h => List.mem_cons_of_mem _ (gl_Md w h)) (ht _ gt_364)
  obtain ⟨D, hKc⟩ : ∃ D : va_G, ∀ (k : Nat) (q : vw_C), gc_cl[k]? = some q → u_Kn s q.1 q.2.1 q.2.2 (D.1 k) (D.2 k) := by
    refine ⟨(fun k => if k = 0 then c0 else if k = 1 then c1 else if k = 2 then c2 else if k = 3 then c3 else c4, fun k => if k = 0 then i0 else if k = 1 then i1 else if k = 2 then i2 else if k = 3 then i3 else i4), ?_⟩
    intro k q hq
    match k, hq with
    | 0, hq => cases hq; exact k0
    | 1, hq => cases hq; exact k1
    | 2, hq => cases hq; exact k2
    | 3, hq => cases hq; exact k3
    | 4, hq => cases hq; exact k4
    | k + 5, hq => simp [gc_cl] at hq
  have hK : va_K D gc_cl [] s := ⟨hKc, fun k q h => by simp at h⟩
  have hS : va_S (fun q => s.heap.size ≤ q) s.heap s.heap [] := va_S.rf
  have hl := lv_entry ([.ref b]) (n := 4) (Nat.le_of_ble_eq_true rfl)
  rw [lg_entry_eq]
  generalize (lg_sl ([.ref b]) ++ List.replicate (4 - (lg_sl ([.ref b])).length) Slot.unset).toArray = ls at hl ⊢
  have hl : lv_has ls 4 [(0, .ref b)] := hl
  generalize hZ : s.heap.size = sz at hS
  refine gw_new (D := D) (cl := gc_cl) (ci := 0) (fs := [.null, .null, .null, .null, .int 0]) (C := gR_Bk) (T := gT_Bk) (N := 5) hx hb hts (fun w h => List.mem_cons_of_mem _ (gl_Bk w h)) gF_Bk gf_Bk hown (ht _ gt_9) (ht _ gt_10) (ht _ gt_1) hK rfl (fun j hj => by rcases (show j = 0 ∨ j = 1 ∨ j = 2 ∨ j = 3 ∨ j = 4 by omega) with rfl | rfl | rfl | rfl | rfl <;> rfl) (Nat.le_of_ble_eq_true rfl) (Nat.le_of_ble_eq_true rfl) gd_Lw_law_0 (fun H1 a1 z1 o1 => ?_)
  rw [hZ] at a1 z1 o1 ⊢
  have hS1 := gw_S (H1 := H1) hS (by omega) (by rw [hZ]; exact o1)
  refine lv_dup hx hb gd_Lw_law_3 rfl ?_
  have hf1 : ∀ q : Nat, (q = sz ∨ H1.size ≤ q) → sz ≤ q := fun q h => by rcases h with h | h <;> omega
  refine va_callv (va_runI (As := []) (rest := [.ref sz]) ⟨hx, hb, hml, hown, hts⟩ (ct_Bk_init l D sz H1.size) (cwI 0 hts (gt_good gt_13) rfl rfl rfl (ht _ gt_1) (ht _ gt_11) (ht _ gt_12) rfl (by decide +kernel) ⟨Nat.le_of_ble_eq_true rfl, Nat.le_of_ble_eq_true rfl⟩) ⟨fun a U g mk q => by obtain ⟨q0, q1, qP, qK, qN, qA⟩ := q; exact ⟨q0, q1, qP, va_K.moved (u := U) (U := U.calling g mk a) (Vm.Alike.refl U.vm) qK, qN.same rfl, va_AO.moved (u := U) (U := U.calling g mk a) (Vm.Alike.refl U.vm) qA⟩, fun U hU hW => ⟨rfl, by rw [hU], by rw [hU]; exact a1, va_K.moved hW.alike hK, hN.warm hW, va_AO.moved hW.alike hAO⟩⟩ rfl rfl hl.1 rfl (lv_room (Nat.le_of_ble_eq_true rfl)) gd_Lw_law_4 ⟨Nat.le_of_ble_eq_true rfl, Nat.le_of_ble_eq_true rfl⟩) hS1 (fun q _ h => hf1 q h) (fun q h => hf1 q h) (fun u t H2 locs2 ht2 hvm hw hB hz2 hk2 hS2 => ?_)
  obtain ⟨cI, cT, y1, y2, y3⟩ := hB
  rw [ht2] at y1 y3
  have y2 := va_K.moved hvm.symm y2
  rw [z1] at y1 y3
  refine lv_astore_n (lv' := [(1, .ref sz), (0, .ref b)]) hx hb gd_Lw_law_7 rfl hl (by decide) rfl (fun ls hl => ?_)
  refine gw_new (D := D) (cl := gc_cl) (ci := 4) (fs := [.int 0, .null, .null, .null, .null, .null, .null, .int 0, .null, .int 0, .null, .int 0, .int 0, .null, .null, .null]) (C := gR_Md) (T := gT_Md) (N := 16) hx hb hts (fun w h => List.mem_cons_of_mem _ (gl_Md w h)) gF_Md gf_Md hown (ht _ gt_363) (ht _ gt_364) (ht _ gt_5) hK rfl (fun j hj => by rcases (show j = 0 ∨ j = 1 ∨ j = 2 ∨ j = 3 ∨ j = 4 ∨ j = 5 ∨ j = 6 ∨ j = 7 ∨ j = 8 ∨ j = 9 ∨ j = 10 ∨ j = 11 ∨ j = 12 ∨ j = 13 ∨ j = 14 ∨ j = 15 by omega) with rfl | rfl | rfl | rfl | rfl | rfl | rfl | rfl | rfl | rfl | rfl | rfl | rfl | rfl | rfl | rfl <;> rfl) (Nat.le_of_ble_eq_true rfl) (Nat.le_of_ble_eq_true rfl) gd_Lw_law_8 (fun H3 a3 z3 o3 => ?_)
  have e2 : H2.size = sz + 207 := by omega
  rw [e2] at a3 z3 o3 ⊢
  have hS3 := gw_S (H1 := H3) hS2 (by omega) (by rw [e2]; exact o3)
  refine lv_dup hx hb gd_Lw_law_11 rfl ?_
  have hf3 : ∀ q : Nat, (q = sz + 207 ∨ H3.size ≤ q) → sz ≤ q := fun q h => by rcases h with h | h <;> omega
  refine va_callv (va_runI (As := []) (rest := [.ref (sz + 207)]) ⟨hx, hb, hml, hown, hts⟩ (ct_Md_init l D (sz + 207) H3.size) (cwI 0 hts (gt_good gt_367) rfl rfl rfl (ht _ gt_5) (ht _ gt_365) (ht _ gt_366) rfl (by decide +kernel) ⟨Nat.le_of_ble_eq_true rfl, Nat.le_of_ble_eq_true rfl⟩) ⟨fun a U g mk q => by obtain ⟨q0, q1, qP, qK⟩ := q; exact ⟨q0, q1, qP, va_K.moved (u := U) (U := U.calling g mk a) (Vm.Alike.refl U.vm) qK⟩, fun U hU hW => ⟨rfl, by rw [hU], by rw [hU]; exact a3, va_K.moved hW.alike hK⟩⟩ rfl rfl hl.1 rfl (lv_room (Nat.le_of_ble_eq_true rfl)) gd_Lw_law_12 ⟨Nat.le_of_ble_eq_true rfl, Nat.le_of_ble_eq_true rfl⟩) hS3 (fun q _ h => hf3 q h) (fun q h => hf3 q h) (fun u t H4 locs4 ht4 hvm4 hw4 hB4 hz4 hk4 hS4 => ?_)
  obtain ⟨cJ, cZ, w1, w2, w3⟩ := hB4
  rw [ht4] at w1 w3
  have w2 := va_K.moved hvm4.symm w2
  rw [z3] at w1 w3
  refine lv_astore_n (lv' := [(2, .ref (sz + 207)), (1, .ref sz), (0, .ref b)]) hx hb gd_Lw_law_15 rfl hl (by decide) rfl (fun ls hl => ?_)
  refine lv_iconst (v := 0) hx hb gd_Lw_law_16 (by decide) ?_
  refine lv_istore_n (lv' := [(3, .int 0), (2, .ref (sz + 207)), (1, .ref sz), (0, .ref b)]) hx hb gd_Lw_law_17 rfl hl (by decide) rfl (fun ls hl => ?_)
  have hax : ∀ q, gq_A gk_vd (gk_ad sz (sz + 1)) q → sz ≤ q ∧ q < sz + 207 := by
    rintro q ⟨c, k, hv, rfl⟩
    exact gk_ad_b hv
  have ham : ∀ q, gq_A gm_vd (gm_ad (sz + 207) (sz + 208)) q → sz + 207 ≤ q := by
    rintro q ⟨c, k, hv, rfl⟩
    match c with
    | 0 => exact Nat.le_refl _
    | c + 1 => show sz + 207 ≤ sz + 208 + c; omega
  have y4 : gq_H D gc_cl gk_vd (gk_ad sz (sz + 1)) (gk_pc cI cT (gk_ad sz (sz + 1)) gk_u0) H4 := by
    intro c k hv
    have hb1 := gk_ad_b (h := sz) (sz := sz + 1) hv
    exact (y3 c k hv).kept ((hk4 _ (show gk_ad sz (sz + 1) c k < H3.size by omega) (fun h => by rcases h with h | h <;> omega)).trans (o3 _ (show gk_ad sz (sz + 1) c k < sz + 207 by omega)))
  have C1 : lw_C p s m meth c b L xs D cI cT cJ cZ (gk_ad sz (sz + 1)) (gm_ad (sz + 207) (sz + 208)) := ⟨C0, y2, w2, hN, gk_ad_I (by omega), gm_ad_I (by omega), fun q h => by rw [hZ]; exact (hax q h).1, fun q h => by rw [hZ]; have := ham q h; omega, fun q h h' => by have h1 := ham q h; have h2 := (hax q h').2; omega, hL⟩
  have I0 : lw_I s D cI cT cJ cZ (gk_ad sz (sz + 1)) (gm_ad (sz + 207) (sz + 208)) 0 H4 locs4 := ⟨gk_u0, ga_0, y4, w3, ga_0_W, ga_0_R, by rw [hZ]; exact hS4⟩
  exact law_loop C1 512 0 H4 locs4 ls (by omega) (by omega) I0 (lv_sub hl [3, 2, 1, 0] rfl)
