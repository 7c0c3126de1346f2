/-! a term comes to the class's leaves -/
theorem bk_part_18 {u : gk_St} {f : Nat → Int32} {lv l : Nat} (hl : lv ≤ 99) : ∀ (d x n : Nat), l + 1 + d = x → x ≤ lv → d < n → fn_Lv_part_30 n (nI l) (nI x) (gk_c u 7 (ga_up f x lv)) = some (gk_sI (gk_sI (gk_sI (gk_c u 7 (ga_up f (l + 1) lv)) 8 0 (u.1 8 0 + 1)) 7 (l + 1) (ga_up f (l + 1) lv l - 4)) 7 l 4) := by
  intro d
  induction d with
  | zero =>
    intro x n hx hx2 hn
    obtain ⟨n, rfl⟩ := ga_su hn
    obtain rfl : x = l + 1 := by omega
    have g0 : gj_in (nI l) 100 := nI_in (by omega) (by decide)
    have c0 : (nI l).toNatClampNeg = l := nI_clamp (by omega)
    have g1 : gj_in (nI (l + 1)) 100 := nI_in (by omega) (by decide)
    have c1 : (nI (l + 1)).toNatClampNeg = l + 1 := nI_clamp (by omega)
    rw [fn_Lv_part_30, nI_1, if_pos (nI_le (Nat.le_refl _) (by omega))]
    simp only [if_pos g0, if_pos g1, c0, c1, gk_ic (show (7 : Nat) ≠ 8 by decide), gk_cc1, gk_c2' (show (8 : Nat) ≠ 7 by decide)]
  | succ d ih =>
    intro x n hx hx2 hn
    obtain ⟨n, rfl⟩ := ga_su hn
    obtain rfl : x = l + d + 1 + 1 := by omega
    have g0 : gj_in (nI (l + d + 1)) 100 := nI_in (by omega) (by decide)
    have c0 : (nI (l + d + 1)).toNatClampNeg = l + d + 1 := nI_clamp (by omega)
    have g1 : gj_in (nI (l + d + 1 + 1)) 100 := nI_in (by omega) (by decide)
    have c1 : (nI (l + d + 1 + 1)).toNatClampNeg = l + d + 1 + 1 := nI_clamp (by omega)
    rw [fn_Lv_part_30, nI_1 l, if_neg (nI_ge (by omega) (by omega))]
    simp only [nI_pred, if_pos g0, if_pos g1, c0, c1, pk_m1, gk_cc1, gk_cs, ga_up_s f (show l + d + 1 + 1 ≤ lv by omega)]
    exact ih (l + d + 1) n (by omega) (by omega) (by omega)
theorem bk_part {u : gk_St} {f : Nat → Nat} {lv l : Nat} (h8 : u.1 8 0 = nI lv) (hl : lv ≤ 99) (hs : ∀ j, j < lv → u.1 7 j = nI (f j)) (hll : l < lv) (h4 : 4 ≤ f l) : ∃ u', fn_Lv_part (nI l) u = some u' ∧ u'.1 8 0 = nI (lv + 1) ∧ (∀ j, j < lv + 1 → u'.1 7 j = nI (if j < l + 1 then (if j = l then 4 else f j) else if j = l + 1 then f l - 4 else f (j - 1))) ∧ (∀ c k, c ≠ 7 → c ≠ 8 → u'.1 c k = u.1 c k) ∧ u'.2 = u.2 := by
  unfold fn_Lv_part
  rw [if_neg (nI_pos (by omega)), h8, if_neg (nI_ge hll (by omega)), if_pos (show nI lv < (100 : Int32) from nI_lt (b := 100) (by omega) (by decide))]
  have e := bk_part_18 (u := u) (f := u.1 7) (lv := lv) (l := l) hl (lv - (l + 1)) lv gk_fu (by omega) (Nat.le_refl _) (by unfold gk_fu; omega)
  rw [ga_up0, gk_c0'] at e
  refine ⟨_, e, ?_, fun j hj => ?_, fun c k c7 c8 => ?_, rfl⟩
  · rw [gk_ic (by decide), gk_ic (by decide), gk_i1, h8, nI_1]
  · by_cases h1 : j = l
    · rw [h1, gk_i1, if_pos (by omega), if_pos rfl]; rfl
    · rw [gk_ik h1]
      by_cases h2 : j = l + 1
      · rw [h2, gk_i1, if_neg (by omega), if_pos rfl]
        unfold ga_up
        rw [if_neg (by omega), hs l hll]
        exact pk_sub (b := 4) (by omega)
      · rw [gk_ik h2, gk_ic (by decide), gk_cc1]
        unfold ga_up
        by_cases h3 : j < l + 1
        · rw [if_neg (by omega), if_pos h3, if_neg h1, hs j (by omega)]
        · rw [if_pos (by omega), if_neg h3, if_neg h2, hs (j - 1) (by omega)]
  · rw [gk_ic c7, gk_ic c7, gk_ic c8, gk_c2' c7]
theorem bk_grow {b : ga_A} {w : gk_St} {l : Nat} (hb : gb_lf b w) (hL : b 13 0 ≤ 99) (hl : l < b 13 0) (h8 : ∀ j, j < b 13 0 → b 8 j ≤ 8) : ∃ u', ((fn_Lv_resize (nI l) 1 w).bind fun z4 => ((fn_Lv_sizeOf (nI l) z4).bind fun z6 => (if z6.1 ≤ 8 then (some z6.2) else ((fn_Lv_part (nI l) z6.2).bind fun z8 => (some z8))))) = some u' ∧ gb_lf (ga_lin b l) u' ∧ (∀ c k, c ≠ 7 → c ≠ 8 → u'.1 c k = w.1 c k) ∧ u'.2 = w.2 := by
  obtain ⟨b1, b2, -⟩ := hb
  have hl8 := h8 l hl
  rw [bk_resize _ b1 (by omega) hl, Option.bind_some, b2 l hl, nI_1]
  generalize hy : gk_sI w 7 l (nI (b 8 l + 1)) = y
  have y8 : y.1 8 0 = nI (b 13 0) := by rw [← hy, gk_ic (by decide)]; exact b1
  have y7 : ∀ j, j < b 13 0 → y.1 7 j = nI (if j = l then b 8 l + 1 else b 8 j) := fun j hj => by
    rw [← hy]
    by_cases h : j = l
    · rw [if_pos h, h, gk_i1]
    · rw [if_neg h, gk_ik h]; exact b2 j hj
  have yo : ∀ c k, c ≠ 7 → y.1 c k = w.1 c k := fun c k c7 => by rw [← hy, gk_ic c7]
  have y2 : y.2 = w.2 := by rw [← hy]; rfl
  rw [bk_sizeOf y8 (by omega) hl, Option.bind_some, y7 l hl, if_pos rfl]
  by_cases hc : b 8 l + 1 ≤ 8
  · rw [if_pos (show nI (b 8 l + 1) ≤ (8 : Int32) from nI_le (b := 8) hc (by decide))]
    refine ⟨y, rfl, ⟨?_, ?_, ?_⟩, fun c k c7 _ => yo c k c7, y2⟩
    · rw [ga_lin_13, if_pos hc]; exact y8
    · rw [ga_lin_13, if_pos hc]; intro j hj; rw [ga_lin_8a hc]; exact y7 j hj
    · rw [ga_lin_13, if_pos hc]; intro h; omega
  · rw [if_neg (show ¬ nI (b 8 l + 1) ≤ (8 : Int32) from nI_ge (a := 8) (by omega) (by omega))]
    obtain ⟨u', q0, q1, q2, q3, q4⟩ := bk_part (f := fun j => if j = l then b 8 l + 1 else b 8 j) (l := l) y8 hL y7 hl (by show 4 ≤ if l = l then b 8 l + 1 else b 8 l; rw [if_pos rfl]; omega)
    refine ⟨u', by show (fn_Lv_part (nI l) y).bind _ = _; rw [q0]; rfl, ⟨?_, ?_, ?_⟩, fun c k c7 c8 => (q3 c k c7 c8).trans (yo c k c7), q4.trans y2⟩
    · rw [ga_lin_13, if_neg hc]; exact q1
    · rw [ga_lin_13, if_neg hc]
      intro j hj
      rw [ga_lin_8b hc (by omega), q2 j hj]
      congr 1
      by_cases h1 : j < l + 1
      · rw [if_pos h1, if_pos h1]
        by_cases h2 : j = l
        · rw [if_pos h2, if_pos h2]
        · rw [if_neg h2, if_neg h2, if_neg h2]
      · rw [if_neg h1, if_neg h1]
        by_cases h2 : j = l + 1
        · rw [if_pos h2, if_pos h2, if_pos rfl]; omega
        · rw [if_neg h2, if_neg h2, if_neg (by omega)]
    · rw [ga_lin_13, if_neg hc]; intro h; omega
theorem bk_insert_37 {u : gk_St} {m p : Nat} {f : Nat → Int32} (x2 x3 : Int32) (hm : m ≤ 99) : ∀ (d x n : Nat), p + d = x → x ≤ m → d < n → fn_Lv_insert_37 n (nI p) x2 x3 (nI x) (gk_c u 5 (ga_up f x m)) = fn_Lv_insert_37 (0 + 1) (nI p) x2 x3 (nI p) (gk_c u 5 (ga_up f p m)) := by
  intro d
  induction d with
  | zero =>
    intro x n hx hx2 hn
    obtain ⟨n, rfl⟩ := ga_su hn
    obtain rfl : x = p := by omega
    rw [fn_Lv_insert_37, fn_Lv_insert_37, if_pos (nI_le (Nat.le_refl _) (by omega)), if_pos (nI_le (Nat.le_refl _) (by omega))]
  | succ d ih =>
    intro x n hx hx2 hn
    obtain ⟨n, rfl⟩ := ga_su hn
    obtain rfl : x = p + d + 1 := by omega
    have g0 : gj_in (nI (p + d)) 100 := nI_in (by omega) (by decide)
    have c0 : (nI (p + d)).toNatClampNeg = p + d := nI_clamp (by omega)
    have g1 : gj_in (nI (p + d + 1)) 100 := nI_in (by omega) (by decide)
    have c1 : (nI (p + d + 1)).toNatClampNeg = p + d + 1 := nI_clamp (by omega)
    rw [fn_Lv_insert_37, if_neg (nI_ge (by omega) (by omega))]
    simp only [nI_pred, if_pos g0, if_pos g1, c0, c1, pk_m1, gk_cc1, gk_cs, ga_up_s f (show p + d + 1 ≤ m by omega)]
    exact ih (p + d) n (by omega) (by omega) (by omega)
theorem bk_insert {b : ga_A} {u : gk_St} {g : Nat → Nat} {m p t l : Nat} (hb : gb_lf b u) (h6 : u.1 6 0 = nI m) (h5 : ∀ j, j < m → u.1 5 j = nI (g j)) (hm : m < 100) (hp : p ≤ m) (hL : b 13 0 ≤ 99) (h8 : ∀ j, j < b 13 0 → b 8 j ≤ 8) (hs : ga_pre (b 8) (b 13 0) ≤ 1000) (hlf : ga_leaf (ga_lv0 b 8) (ga_lv0 b 13 0) p l) : ∃ u', fn_Lv_insert (nI p) (nI t) u = some u' ∧ gb_lf (ga_lin (ga_lv0 b) l) u' ∧ u'.1 6 0 = nI (m + 1) ∧ (∀ j, j < m + 1 → u'.1 5 j = nI (if j = p then t else ga_up g p m j)) ∧ (∀ c k, c ≠ 5 → c ≠ 6 → c ≠ 7 → c ≠ 8 → u'.1 c k = u.1 c k) ∧ u'.2 = u.2 := by
  have gp : gj_in (nI p) 100 := nI_in (by omega) (by decide)
  have cp : (nI p).toNatClampNeg = p := nI_clamp (by omega)
  obtain ⟨b1, b2, b3⟩ := id hb
  unfold fn_Lv_insert
  rw [if_neg (nI_pos (by omega)), h6, if_neg (nI_nlt hp (by omega)), if_pos (show nI m < (100 : Int32) from nI_lt (b := 100) hm (by decide))]
  have hle : fn_Lv_leafOf (nI p) u = some (nI l, u) := by
    by_cases h0 : b 13 0 = 0
    · rw [bk_leafOf0 _ (by rw [b1, h0]; rfl)]
      have h1 : ga_lv0 b 13 0 = 1 := by unfold ga_lv0; rw [if_pos h0, ga_r1]
      have := hlf.1
      rw [h1] at this
      obtain rfl : l = 0 := by omega
      rfl
    · have e : ga_lv0 b = b := by unfold ga_lv0; rw [if_neg h0]
      rw [e] at hlf
      exact bk_leafOf b1 (by omega) b2 (fun j hj => by have := h8 j hj; omega) hs (by omega) hlf
  rw [hle, Option.bind_some]
  show ∃ u', fn_Lv_insert_37 gk_fu (nI p) (nI t) (nI l) (u.1 6 0) u = some u' ∧ _
  rw [h6]
  have e := bk_insert_37 (u := u) (m := m) (p := p) (f := u.1 5) (nI t) (nI l) (by omega) (m - p) m gk_fu (by omega) (Nat.le_refl _) (by unfold gk_fu; omega)
  rw [ga_up0, gk_c0'] at e
  rw [e, fn_Lv_insert_37, if_pos (nI_le (Nat.le_refl _) (by omega))]
  simp only [if_pos gp, cp, gk_cs]
  generalize hF : (fun j => if j = p then nI t else ga_up (u.1 5) p m j) = F
  have hFj : ∀ j, j < m + 1 → F j = nI (if j = p then t else ga_up g p m j) := fun j hj => by
    rw [← hF]
    show (if j = p then nI t else ga_up (u.1 5) p m j) = _
    by_cases hjp : j = p
    · rw [if_pos hjp, if_pos hjp]
    · rw [if_neg hjp, if_neg hjp]
      unfold ga_up
      by_cases hc : p < j ∧ j ≤ m
      · rw [if_pos hc, if_pos hc, h5 _ (by omega)]
      · rw [if_neg hc, if_neg hc, h5 _ (by omega)]
  rw [gk_c2' (show (6 : Nat) ≠ 5 by decide), h6, nI_1]
  generalize hw : gk_sI (gk_c u 5 F) 6 0 (nI (m + 1)) = w
  have w5 : ∀ j, w.1 5 j = F j := fun j => by rw [← hw, gk_ic (by decide), gk_cc1]
  have w6 : w.1 6 0 = nI (m + 1) := by rw [← hw, gk_i1]
  have wo : ∀ c k, c ≠ 5 → c ≠ 6 → w.1 c k = u.1 c k := fun c k c5 c6 => by rw [← hw, gk_ic c6, gk_c2' c5]
  have w2 : w.2 = u.2 := by rw [← hw]; rfl
  rw [wo 8 0 (by decide) (by decide), b1]
  by_cases h0 : b 13 0 = 0
  · rw [if_pos (show nI (b 13 0) = 0 by rw [h0]; rfl)]
    have h1 : ga_lv0 b 13 0 = 1 := by unfold ga_lv0; rw [if_pos h0, ga_r1]
    have h10 : ga_lv0 b 8 0 = 0 := by unfold ga_lv0; rw [if_pos h0, ga_rc (by decide), ga_r1]
    have hx : gb_lf (ga_lv0 b) (gk_sI w 8 0 1) := by
      refine ⟨by rw [h1, gk_i1]; rfl, fun j hj => ?_, fun h => by omega⟩
      obtain rfl : j = 0 := by omega
      rw [gk_ic (by decide), wo _ _ (by decide) (by decide), b3 h0, h10]
      rfl
    obtain ⟨u', q0, q1, q2, q3⟩ := bk_grow hx (by omega) hlf.1 (fun j hj => by rw [show j = 0 by omega, h10]; omega)
    refine ⟨u', q0, q1, ?_, fun j hj => ?_, fun c k c5 c6 c7 c8 => ?_, ?_⟩
    · rw [q2 _ _ (by decide) (by decide), gk_ic (by decide)]; exact w6
    · rw [q2 _ _ (by decide) (by decide), gk_ic (by decide), w5]; exact hFj j hj
    · rw [q2 _ _ c7 c8, gk_ic c8]; exact wo c k c5 c6
    · rw [q3]; exact w2
  · rw [if_neg (nI_ne0 (by omega) (by omega))]
    have e : ga_lv0 b = b := by unfold ga_lv0; rw [if_neg h0]
    have hx : gb_lf (ga_lv0 b) w := by
      rw [e]
      exact ⟨by rw [wo 8 0 (by decide) (by decide)]; exact b1, fun j hj => by rw [wo _ _ (by decide) (by decide)]; exact b2 j hj, fun h => absurd h h0⟩
    obtain ⟨u', q0, q1, q2, q3⟩ := bk_grow hx (by rw [e]; omega) hlf.1 (by rw [e]; exact h8)
    refine ⟨u', q0, q1, ?_, fun j hj => ?_, fun c k c5 c6 c7 c8 => ?_, ?_⟩
    · rw [q2 _ _ (by decide) (by decide)]; exact w6
    · rw [q2 _ _ (by decide) (by decide), w5]; exact hFj j hj
    · rw [q2 _ _ c7 c8]; exact wo c k c5 c6
    · rw [q3]; exact w2
