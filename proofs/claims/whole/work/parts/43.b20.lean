/-! a term goes out of the class's rows -/
theorem bk_remove_43 {u : gk_St} {f : Nat → Int32} {m p : Nat} (q x2 : Int32) (h6 : u.1 6 0 = nI m) (hm : m ≤ 99) : ∀ (d x n : Nat), x + d = m → p ≤ x → d < n → fn_Lv_remove_43 n q x2 (nI x) (gk_c u 5 (ga_dn f p x)) = (fn_Lv_resize x2 (-1) (gk_c u 5 (ga_dn f p m))).bind fun z3 => ((fn_Lv_sizeOf x2 z3).bind fun z5 => (if 3 ≤ z5.1 then (some z5.2) else ((fn_Lv_mend x2 z5.2).bind fun z7 => (some z7)))) := by
  intro d
  induction d with
  | zero =>
    intro x n hx hp hn
    obtain ⟨n, rfl⟩ := ga_su hn
    obtain rfl : x = m := by omega
    rw [fn_Lv_remove_43, gk_c2' (by decide), h6, if_pos (nI_le (Nat.le_refl _) (by omega))]
  | succ d ih =>
    intro x n hx hp hn
    obtain ⟨n, rfl⟩ := ga_su hn
    have g1 : gj_in (nI (x + 1)) 100 := nI_in (by omega) (by decide)
    have c1 : (nI (x + 1)).toNatClampNeg = x + 1 := nI_clamp (by omega)
    have g0 : gj_in (nI x) 100 := nI_in (by omega) (by decide)
    have c0 : (nI x).toNatClampNeg = x := nI_clamp (by omega)
    rw [fn_Lv_remove_43, gk_c2' (by decide), h6, if_neg (nI_ge (by omega) (by omega))]
    simp only [nI_1, if_pos g1, c1, if_pos g0, c0, gk_cc1, gk_cs, ga_dn_s f hp]
    exact ih (x + 1) n (by omega) (by omega) (by omega)
/-- the leaf of a place that is filled -/
theorem ga_leaf_in {n : Nat} {a : ga_A} (h7 : ga_w7 a) {p : Nat} (hp : p < a 12 0) : ∃ l, ga_leaf (a 8) (a 13 0) p l ∧ p < ga_pre (a 8) (l + 1) := by
  have h0 : 0 < a 13 0 := by
    rcases Nat.eq_zero_or_pos (a 13 0) with h | h
    · have := h7.1; rw [h] at this; have : 0 = a 12 0 := this; omega
    · exact h
  obtain ⟨l, hl⟩ := ga_leaf_ex (a 8) h0 p
  refine ⟨l, hl, ?_⟩
  rcases hl.2.2 with q | q
  · exact q
  · rw [q, h7.1]; exact hp
theorem ga_lv_le {a : ga_A} (h7 : ga_w7 a) : a 13 0 ≤ a 12 0 := by
  rw [← h7.1]
  exact gp_ge (fun j hj => (h7.2 j hj).1)
/-- what changes when the term at place p of leaf l goes -/
theorem ga_go_c (a : ga_A) (p l : Nat) : ∀ c, c ≠ 2 → c ≠ 7 → c ≠ 8 → c ≠ 12 → c ≠ 13 → ga_go a p l c = a c := by
  intro c h2 h7 h8 h12 h13
  unfold ga_go
  rw [ga_lf_c _ _ c h8 h13]
  funext k
  rw [ga_rc h8, ga_c2 h7, ga_rc h12, ga_rc h2]
theorem ga_go_2 (a : ga_A) (p l k : Nat) : ga_go a p l 2 k = if k = a 7 p then 0 else a 2 k := by
  unfold ga_go
  rw [ga_lf_c _ _ 2 (by decide) (by decide), ga_rc (by decide), ga_c2 (by decide), ga_rc (by decide)]
  by_cases h : k = a 7 p
  · rw [if_pos h, h, ga_r1]
  · rw [if_neg h, ga_rk h]
theorem ga_go_12 (a : ga_A) (p l : Nat) : ga_go a p l 12 0 = a 12 0 - 1 := by
  unfold ga_go
  rw [ga_lf_c _ _ 12 (by decide) (by decide), ga_rc (by decide), ga_c2 (by decide), ga_r1]
theorem ga_go_7 (a : ga_A) (p l : Nat) : ga_go a p l 7 = ga_dn (a 7) p (a 12 0 - 1) := by
  unfold ga_go
  rw [ga_lf_c _ _ 7 (by decide) (by decide)]
  funext k
  rw [ga_rc (by decide), ga_c1]
/-- the leaves before ga_lf looks at them -/
def ga_gb (a : ga_A) (p l : Nat) : ga_A := ga_s (ga_c (ga_s (ga_s a 2 (a 7 p) 0) 12 0 (a 12 0 - 1)) 7 (ga_dn (a 7) p (a 12 0 - 1))) 8 l (a 8 l - 1)
theorem ga_gb_8 (a : ga_A) (p l j : Nat) : ga_gb a p l 8 j = if j = l then a 8 l - 1 else a 8 j := by
  unfold ga_gb
  by_cases h : j = l
  · rw [if_pos h, h, ga_r1]
  · rw [if_neg h, ga_rk h, ga_c2 (by decide), ga_rc (by decide), ga_rc (by decide)]
theorem ga_gb_13 (a : ga_A) (p l : Nat) : ga_gb a p l 13 0 = a 13 0 := by
  unfold ga_gb
  rw [ga_rc (by decide), ga_c2 (by decide), ga_rc (by decide), ga_rc (by decide)]
theorem ga_gb_pre {a : ga_A} (h7 : ga_w7 a) {p l : Nat} (hl : l < a 13 0) : ga_pre (ga_gb a p l 8) (ga_gb a p l 13 0) = a 12 0 - 1 := by
  rw [ga_gb_13, ga_pre_eq (g := fun j => if j = l then a 8 l - 1 else a 8 j) (fun j _ => ga_gb_8 a p l j)]
  have h1 := gp_set (f := a 8) (l := l) (x := a 8 l - 1) hl
  have h2 := h7.1
  have h3 := (h7.2 l hl).1
  omega
theorem bk_takeOut {n : Nat} {a : ga_A} {u : gk_St} (hW : ga_W n a) (hR : gb_R a u) {p l : Nat} (hp : p < a 12 0) (hlf : ga_leaf (a 8) (a 13 0) p l) : ∃ u', fn_Bk_takeOut (a 7 p) (nI p) u = some u' ∧ gb_lf (ga_go a p l) u' ∧ u'.1 6 0 = nI (a 12 0 - 1) ∧ (∀ j, j < a 12 0 - 1 → u'.1 5 j = nI (ga_dn (a 7) p (a 12 0 - 1) j)) ∧ u'.1 1 (a 7 p) = 0 ∧ (∀ k, k ≠ a 7 p → u'.1 1 k = u.1 1 k) ∧ (∀ c k, c ≠ 1 → c ≠ 5 → c ≠ 6 → c ≠ 7 → c ≠ 8 → u'.1 c k = u.1 c k) ∧ u'.2 = u.2 := by
  obtain ⟨hok, h2, -, h7, -⟩ := hW
  obtain ⟨⟨r6, r5, r8, r7, r0⟩, -⟩ := hR
  have h12 := hok.1
  have hlv := ga_lv_le h7
  have hl := hlf.1
  have hl8 := h7.2 l hl
  unfold fn_Bk_takeOut fn_Lv_remove
  generalize hv : gk_sI u 1 (a 7 p) 0 = v
  have v6 : v.1 6 0 = nI (a 12 0) := by rw [← hv, gk_ic (by decide)]; exact r6
  have v8 : v.1 8 0 = nI (a 13 0) := by rw [← hv, gk_ic (by decide)]; exact r8
  have v7 : ∀ j, j < a 13 0 → v.1 7 j = nI (a 8 j) := fun j hj => by rw [← hv, gk_ic (by decide)]; exact r7 j hj
  have v5 : ∀ j, v.1 5 j = u.1 5 j := fun j => by rw [← hv, gk_ic (by decide)]
  rw [if_neg (nI_pos (by omega)), v6, if_neg (nI_ge hp (by omega)), if_pos (show nI (a 12 0) ≤ (100 : Int32) from nI_le (b := 100) h12 (by decide))]
  rw [bk_leafOf v8 (by omega) v7 (fun j hj => by have := (h7.2 j hj).2; omega) (by rw [h7.1]; omega) (by omega) hlf, Option.bind_some]
  show ∃ u', (Option.bind (fn_Lv_remove_43 gk_fu (nI p) (nI l) (nI p) (gk_sI v 6 0 (v.1 6 0 - 1))) fun z1 => some z1) = some u' ∧ _
  rw [v6, show nI (a 12 0) - 1 = nI (a 12 0 - 1) from pk_sub (a := a 12 0) (b := 1) (by omega)]
  generalize hw : gk_sI v 6 0 (nI (a 12 0 - 1)) = w
  have w6 : w.1 6 0 = nI (a 12 0 - 1) := by rw [← hw, gk_i1]
  have e := bk_remove_43 (f := w.1 5) (p := p) (nI p) (nI l) w6 (by omega) (a 12 0 - 1 - p) p gk_fu (by omega) (Nat.le_refl _) (by unfold gk_fu; omega)
  rw [ga_dn0, gk_c0'] at e
  rw [e]
  generalize hx : gk_c w 5 (ga_dn (w.1 5) p (a 12 0 - 1)) = x
  have x8 : x.1 8 0 = nI (a 13 0) := by rw [← hx, gk_c2' (by decide), ← hw, gk_ic (by decide)]; exact v8
  have x7 : ∀ j, j < a 13 0 → x.1 7 j = nI (a 8 j) := fun j hj => by rw [← hx, gk_c2' (by decide), ← hw, gk_ic (by decide)]; exact v7 j hj
  have x6 : x.1 6 0 = nI (a 12 0 - 1) := by rw [← hx, gk_c2' (by decide)]; exact w6
  have x5 : ∀ j, j < a 12 0 - 1 → x.1 5 j = nI (ga_dn (a 7) p (a 12 0 - 1) j) := fun j hj => by
    rw [← hx, gk_cc1]
    have w5 : ∀ i, w.1 5 i = u.1 5 i := fun i => by rw [← hw, gk_ic (by decide)]; exact v5 i
    unfold ga_dn
    by_cases hc : p ≤ j ∧ j < a 12 0 - 1
    · rw [if_pos hc, if_pos hc, w5, r5 _ (by omega)]
    · rw [if_neg hc, if_neg hc, w5, r5 _ (by omega)]
  have x1 : x.1 1 (a 7 p) = 0 := by rw [← hx, gk_c2' (by decide), ← hw, gk_ic (by decide), ← hv, gk_i1]
  have x1' : ∀ k, k ≠ a 7 p → x.1 1 k = u.1 1 k := fun k hk => by rw [← hx, gk_c2' (by decide), ← hw, gk_ic (by decide), ← hv, gk_ik hk]
  have xo : ∀ c k, c ≠ 1 → c ≠ 5 → c ≠ 6 → x.1 c k = u.1 c k := fun c k c1 c5 c6 => by rw [← hx, gk_c2' c5, ← hw, gk_ic c6, ← hv, gk_ic c1]
  have x2 : x.2 = u.2 := by rw [← hx, ← hw, ← hv]; rfl
  rw [bk_resize _ x8 (by omega) hl, Option.bind_some, x7 l hl, sb_m1 (by omega)]
  generalize hy : gk_sI x 7 l (nI (a 8 l - 1)) = y
  have y8 : y.1 8 0 = nI (a 13 0) := by rw [← hy, gk_ic (by decide)]; exact x8
  have y7 : ∀ j, j < a 13 0 → y.1 7 j = nI (ga_gb a p l 8 j) := fun j hj => by
    rw [← hy, ga_gb_8]
    by_cases h : j = l
    · rw [if_pos h, h, gk_i1]
    · rw [if_neg h, gk_ik h]; exact x7 j hj
  have yo : ∀ c k, c ≠ 7 → y.1 c k = x.1 c k := fun c k c7 => by rw [← hy, gk_ic c7]
  have y2 : y.2 = u.2 := by rw [← hy]; exact x2
  have gl : ga_gb a p l 8 l = a 8 l - 1 := by rw [ga_gb_8, if_pos rfl]
  rw [bk_sizeOf y8 (by omega) hl, Option.bind_some, y7 l hl, gl]
  have yb : gb_lf (ga_gb a p l) y := ⟨by rw [ga_gb_13]; exact y8, by rw [ga_gb_13]; exact y7, fun h0 => by rw [ga_gb_13] at h0; omega⟩
  have ego : ga_go a p l = ga_lf (ga_gb a p l) l := rfl
  by_cases h3 : 3 ≤ a 8 l - 1
  · rw [if_pos (show (3 : Int32) ≤ nI (a 8 l - 1) from nI_le (a := 3) h3 (by omega))]
    refine ⟨y, rfl, ?_, ?_, ?_, ?_, ?_, ?_, y2⟩
    · rw [ego]; unfold ga_lf; rw [if_pos (by rw [gl]; exact h3)]; exact yb
    · rw [yo _ _ (by decide)]; exact x6
    · intro j hj; rw [yo _ _ (by decide)]; exact x5 j hj
    · rw [yo _ _ (by decide)]; exact x1
    · intro k hk; rw [yo _ _ (by decide)]; exact x1' k hk
    · intro c k c1 c5 c6 c7 _; rw [yo _ _ c7]; exact xo c k c1 c5 c6
  · rw [if_neg (show ¬ (3 : Int32) ≤ nI (a 8 l - 1) from nI_ge (b := 3) (by omega) (by decide))]
    obtain ⟨u', q0, q1, q2, q3⟩ := bk_mend yb (by rw [ga_gb_13]; omega) (by rw [ga_gb_13]; exact hl) (fun j hj => by rw [ga_gb_13] at hj; rw [ga_gb_8]; have := (h7.2 j hj).2; split <;> omega) (by rw [gl]; omega) (by rw [ga_gb_pre h7 hl, yo _ _ (by decide)]; exact x6) (by rw [ga_gb_pre h7 hl]; omega)
    show ∃ u', (((fn_Lv_mend (nI l) y).bind fun z7 => some z7).bind fun z1 => some z1) = some u' ∧ _
    rw [q0]
    refine ⟨u', rfl, by rw [ego]; exact q1, ?_, ?_, ?_, ?_, ?_, q3.trans y2⟩
    · rw [q2 _ _ (by decide) (by decide), yo _ _ (by decide)]; exact x6
    · intro j hj; rw [q2 _ _ (by decide) (by decide), yo _ _ (by decide)]; exact x5 j hj
    · rw [q2 _ _ (by decide) (by decide), yo _ _ (by decide)]; exact x1
    · intro k hk; rw [q2 _ _ (by decide) (by decide), yo _ _ (by decide)]; exact x1' k hk
    · intro c k c1 c5 c6 c7 c8; rw [q2 _ _ c7 c8, yo _ _ c7]; exact xo c k c1 c5 c6
