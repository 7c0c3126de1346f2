/-! leaf and count -/
theorem bk_sharedIn {a : ga_A} {u : gk_St} (hok : ga_ok a) (h2 : ga_w2 a) (h7 : ga_w7 a) (hR : gb_R a u) {l c : Nat} (hl : l < a 13 0) (hc : ga_sh a (a 7 (ga_pre (a 8) l)) (a 7 (ga_pre (a 8) l + a 8 l - 1)) c) : fn_Bk_sharedIn (nI l) u = some (nI c, u) := by
  have h12 := hok.1
  have hlv := ga_lv_le h7
  obtain ⟨p1, p2, p3⟩ := ga_lf_pl h7 hl
  obtain ⟨⟨r6, r5, r8, r7, r0⟩, rp, rt, r4, -⟩ := id hR
  unfold fn_Bk_sharedIn
  rw [bk_startOf r8 (by omega) r7 (by omega), Option.bind_some]
  generalize ga_pre (a 8) l = s at p1 hc
  have s7 := hok.2.2.1 s (by omega)
  have t7 := hok.2.2.1 (s + a 8 l - 1) (by omega)
  have sp := h2.2.1 s (by omega)
  have tp := h2.2.1 (s + a 8 l - 1) (by omega)
  obtain ⟨ks, -, os, -⟩ := hok.2.2.2.1 s (by omega)
  obtain ⟨kt, -, ot, -⟩ := hok.2.2.2.1 (s + a 8 l - 1) (by omega)
  have Ls := ga_T_lt (hok.2.2.2.1 s (by omega)).2.2
  have Lt := ga_T_lt (hok.2.2.2.1 (s + a 8 l - 1) (by omega)).2.2
  have e1 : nI s + nI (a 8 l) - 1 = nI (s + a 8 l - 1) := by rw [nI_add]; exact pk_sub (b := 1) (by omega)
  show (fn_Lv_numberAt (nI s) u).bind _ = _
  rw [bk_numberAt r6 h12 (by omega), Option.bind_some, r5 s (by omega)]
  show (fn_Bk_inBook (nI (a 7 s)) u).bind _ = _
  rw [bk_inK h2 hR s7, if_pos sp, Option.bind_some]
  show (fn_Lv_sizeOf (nI l) u).bind _ = _
  rw [bk_sizeOf r8 (by omega) hl, Option.bind_some, r7 l hl]
  show (fn_Lv_numberAt (nI s + nI (a 8 l) - 1) u).bind _ = _
  rw [e1, bk_numberAt r6 h12 (by omega), Option.bind_some, r5 (s + a 8 l - 1) (by omega)]
  show (fn_Bk_inBook (nI (a 7 (s + a 8 l - 1))) u).bind _ = _
  rw [bk_inK h2 hR t7, if_pos tp, Option.bind_some]
  generalize a 7 s = x at *
  generalize a 7 (s + a 8 l - 1) = y at *
  obtain ⟨x2, x3, xT⟩ := r4 x s7 sp
  obtain ⟨y2, y3, yT⟩ := r4 y t7 tp
  show (if u.1 2 x = u.1 2 y then (fn_Tx_sharedWith x y u).bind fun z28 => some (z28.1, z28.2) else some (0, u)) = _
  rw [x2, y2]
  by_cases hk : a 3 x = a 3 y
  · rw [if_pos (by rw [hk])]
    obtain ⟨e, ⟨c1, c2, c3⟩, es⟩ := bk_sharedWith Ls Lt xT yT os ot
    have hq := hc.1 hk
    have hq2 : ga_sq a x y (min e (min (a 5 x) (a 5 y))) := ⟨by omega, by omega, fun j hj => c2 j (by omega), fun q1 q2 => by
      have z : min e (min (a 5 x) (a 5 y)) = e := by omega
      rw [z] at q1 q2 ⊢
      exact c3 (by omega)⟩
    rw [es, ga_sq_u hq hq2]
    rfl
  · rw [if_neg (fun q => hk ((nI_eq (by omega) (by omega)).mp q)), hc.2 hk]
    rfl
theorem both_cost {a : ga_A} {u : gk_St} (hok : ga_ok a) (h2 : ga_w2 a) (h7 : ga_w7 a) (hR : gb_R a u) {l s : Nat} (hl : l < a 13 0) (hs : ga_pre (a 8) l = s) (x1 x3 c : Int32) : ∀ (d x n m : Nat) (y : Int32), x + d = s + a 8 l → s ≤ x → d < n → d < m → ∃ r, fn_Bk_costOf_33 n x1 c x3 (nI (s + a 8 l)) y (nI x) u = some (r, u) ∧ fn_Md_cost_15 m (nI l) c y (nI x) (ga_v a) = some (r, ga_v a) := by
  have h12 := hok.1
  have hlv := ga_lv_le h7
  obtain ⟨p1, p2, p3⟩ := ga_lf_pl h7 hl
  rw [hs] at p1
  have gl : gj_in (nI l) 102 := nI_in (by omega) (by decide)
  have cl : (nI l).toNatClampNeg = l := nI_clamp (by omega)
  obtain ⟨⟨r6, r5, r8, r7, r0⟩, rp, rt, r4, -⟩ := id hR
  intro d
  induction d with
  | zero =>
    intro x n m y hx hsx hn hm
    obtain ⟨n, rfl⟩ := ga_su hn
    obtain ⟨m, rfl⟩ := ga_su hm
    refine ⟨y, ?_, ?_⟩
    · rw [fn_Bk_costOf_33, if_pos (nI_le (by omega) (by omega))]
    · rw [fn_Md_cost_15, md_begin a (by omega), Option.bind_some, hs]
      simp only [if_pos gl, cl, ga_vr, nI_add]
      rw [if_pos (nI_le (by omega) (by omega))]
  | succ d ih =>
    intro x n m y hx hsx hn hm
    obtain ⟨n, rfl⟩ := ga_su hn
    obtain ⟨m, rfl⟩ := ga_su hm
    have x7 := hok.2.2.1 x (by omega)
    have xp := h2.2.1 x (by omega)
    have gx : gj_in (nI x) 101 := nI_in (by omega) (by decide)
    have cx : (nI x).toNatClampNeg = x := nI_clamp (by omega)
    have gt : gj_in (nI (a 7 x)) 100 := nI_in x7 (by decide)
    have ct : (nI (a 7 x)).toNatClampNeg = a 7 x := nI_clamp (by omega)
    obtain ⟨r, e1, e2⟩ := ih (x + 1) n m (y + (nI (a 5 (a 7 x)) - c)) (by omega) (by omega) (by omega) (by omega)
    refine ⟨r, ?_, ?_⟩
    · rw [fn_Bk_costOf_33, if_neg (nI_ge (by omega) (by omega)), bk_numberAt r6 h12 (by omega), Option.bind_some, r5 x (by omega)]
      show (fn_Bk_inBook (nI (a 7 x)) u).bind _ = _
      rw [bk_inK h2 hR x7, if_pos xp, Option.bind_some]
      show fn_Bk_costOf_33 n x1 c x3 (nI (s + a 8 l)) (y + (u.1 0 (a 7 x) - c)) (nI x + 1) u = _
      rw [(r4 _ x7 xp).2.2.1, nI_1]
      exact e1
    · rw [fn_Md_cost_15, md_begin a (by omega), Option.bind_some, hs]
      simp only [if_pos gl, cl, ga_vr, nI_add]
      rw [if_neg (nI_ge (by omega) (by omega))]
      simp only [if_pos gx, cx, if_pos gt, ct, nI_1]
      exact e2
theorem both_costOf {a : ga_A} {u : gk_St} (hok : ga_ok a) (h2 : ga_w2 a) (h7 : ga_w7 a) (hR : gb_R a u) {l : Nat} (hl : l < a 13 0) : ∃ r, fn_Bk_costOf (nI l) u = some (r, u) ∧ fn_Md_cost (nI l) (ga_v a) = some (r, ga_v a) := by
  have h12 := hok.1
  have hlv := ga_lv_le h7
  obtain ⟨p1, p2, p3⟩ := ga_lf_pl h7 hl
  obtain ⟨⟨r6, r5, r8, r7, r0⟩, -⟩ := id hR
  obtain ⟨c, c1, c2, c3⟩ := md_shared hok h7 hl
  obtain ⟨r, e1, e2⟩ := both_cost hok h2 h7 hR hl rfl (nI l) (nI (ga_pre (a 8) l)) (nI c) (a 8 l) (ga_pre (a 8) l) gk_fu gm_fu (nI c) rfl (Nat.le_refl _) (by unfold gk_fu; omega) (by unfold gm_fu; omega)
  refine ⟨r, ?_, ?_⟩
  · unfold fn_Bk_costOf
    rw [bk_sharedIn hok h2 h7 hR hl c2, Option.bind_some]
    show (fn_Lv_startOf (nI l) u).bind _ = _
    rw [bk_startOf r8 (by omega) r7 (by omega), Option.bind_some]
    show (fn_Lv_sizeOf (nI l) u).bind _ = _
    rw [bk_sizeOf r8 (by omega) hl, Option.bind_some, r7 l hl, nI_add]
    exact e1
  · unfold fn_Md_cost
    rw [c1, Option.bind_some]
    show (fn_Md_begin (nI l) (ga_v a)).bind _ = _
    rw [md_begin a (by omega), Option.bind_some]
    exact e2
theorem both_all {a : ga_A} {u : gk_St} (hok : ga_ok a) (h2 : ga_w2 a) (h7 : ga_w7 a) (hR : gb_R a u) (x1 : Int32) : ∀ (d x n m : Nat) (y : Int32), x + d = a 13 0 → d < n → d < m → ∃ r, fn_Bk_costOfAll_4 n y (nI x) u = some (r, u) ∧ fn_Md_count_111 m x1 y (nI x) (ga_v a) = some (r, ga_v a) := by
  have h12 := hok.1
  have hlv := ga_lv_le h7
  have r8 := hR.1.2.2.1
  intro d
  induction d with
  | zero =>
    intro x n m y hx hn hm
    obtain ⟨n, rfl⟩ := ga_su hn
    obtain ⟨m, rfl⟩ := ga_su hm
    refine ⟨y, ?_, ?_⟩
    · rw [fn_Bk_costOfAll_4, r8, if_pos (nI_le (by omega) (by omega))]
    · rw [fn_Md_count_111, ga_vr, if_pos (nI_le (by omega) (by omega))]
  | succ d ih =>
    intro x n m y hx hn hm
    obtain ⟨n, rfl⟩ := ga_su hn
    obtain ⟨m, rfl⟩ := ga_su hm
    obtain ⟨q, q1, q2⟩ := both_costOf hok h2 h7 hR (l := x) (by omega)
    obtain ⟨r, e1, e2⟩ := ih (x + 1) n m (y + q) (by omega) (by omega) (by omega)
    refine ⟨r, ?_, ?_⟩
    · rw [fn_Bk_costOfAll_4, r8, if_neg (nI_ge (by omega) (by omega)), q1, Option.bind_some, nI_1]
      exact e1
    · rw [fn_Md_count_111, ga_vr, if_neg (nI_ge (by omega) (by omega)), q2, Option.bind_some, nI_1]
      exact e2
theorem op_leaf (p w : Int32) : gs_op (fn_Bk_leaf p w) (fn_Md_leaf p w) := by
  refine gs_read (fun n a u hn hW hR => ?_)
  obtain ⟨hok, h2, h4, h7, h8⟩ := hW
  obtain ⟨⟨r6, r5, r8, r7, r0⟩, -⟩ := id hR
  have h12 := hok.1
  have hlv := ga_lv_le h7
  unfold fn_Bk_leaf fn_Md_leaf
  rw [ga_vr, r8]
  rcases ga_ix p (m := a 13 0) (by omega) with h | ⟨l, hl, rfl⟩
  · refine ⟨-1, ?_, ?_⟩
    · rcases h with h | h
      · rw [if_pos h]
      · by_cases hz : p < 0
        · rw [if_pos hz]
        · rw [if_neg hz, if_neg (Int32.not_lt.mpr h)]
    · rw [md_in, if_neg (fun q => ?_), Option.bind_some, if_pos rfl]
      rcases h with h | h
      · exact absurd h (Int32.not_lt.mpr q.1)
      · by_cases h0 : a 13 0 = 0
        · rw [h0] at q
          exact absurd (Int32.le_trans q.1 q.2) (by decide)
        · rw [show nI (a 13 0) - 1 = nI (a 13 0 - 1) from pk_sub (a := a 13 0) (b := 1) (by omega)] at q
          exact absurd (Int32.le_trans h q.2) (nI_ge (by omega) (by omega))
  · obtain ⟨p1, p2, p3⟩ := ga_lf_pl h7 hl
    obtain ⟨c, c1, c2, c3⟩ := md_shared hok h7 hl
    obtain ⟨r, e1, e2⟩ := both_costOf hok h2 h7 hR hl
    have gl : gj_in (nI l) 102 := nI_in (by omega) (by decide)
    have cl : (nI l).toNatClampNeg = l := nI_clamp (by omega)
    have hin : (0 : Int32) ≤ nI l ∧ nI l ≤ nI (a 13 0) - 1 := ⟨nI_pos' (by omega), by rw [show nI (a 13 0) - 1 = nI (a 13 0 - 1) from pk_sub (a := a 13 0) (b := 1) (by omega)]; exact nI_le (by omega) (by omega)⟩
    rw [if_neg (nI_pos (by omega)), if_pos (nI_lt hl (by omega)), md_in, if_pos hin, Option.bind_some, if_neg (show ¬ (1 : Int32) = 0 by decide)]
    simp only [if_pos gl, cl, ga_vr, bk_sizeOf r8 (by omega : a 13 0 ≤ 100) hl, bk_sharedIn hok h2 h7 hR hl c2, c1, e1, e2, bk_startOf r8 (by omega : a 13 0 ≤ 100) r7 (by omega : l ≤ a 13 0), md_begin a (by omega : l ≤ 102), Option.bind_some, r7 l hl]
    by_cases w0 : w = 0
    · rw [if_pos w0, if_pos w0]; exact ⟨_, rfl, rfl⟩
    · rw [if_neg w0, if_neg w0]
      by_cases w1 : w = 1
      · rw [if_pos w1, if_pos w1]; exact ⟨_, rfl, rfl⟩
      · rw [if_neg w1, if_neg w1]
        by_cases w2 : w = 2
        · rw [if_pos w2, if_pos w2]; exact ⟨_, rfl, rfl⟩
        · rw [if_neg w2, if_neg w2]
          by_cases w3 : w = 3
          · rw [if_pos w3, if_pos w3]
            have gs : gj_in (nI (ga_pre (a 8) l)) 101 := nI_in (by omega) (by decide)
            have cs : (nI (ga_pre (a 8) l)).toNatClampNeg = ga_pre (a 8) l := nI_clamp (by omega)
            rw [bk_numberAt r6 h12 (by omega), Option.bind_some, r5 _ (by omega), if_pos gs, cs]
            exact ⟨_, rfl, rfl⟩
          · rw [if_neg w3, if_neg w3]; exact ⟨_, rfl, rfl⟩
theorem bk_cntKV {u : gk_St} : ∀ (d x n : Nat), x + d = 6 → d < n → fn_Bk_countKeptVersions_4 n (nI (gn_cnt (fun j => decide (u.1 9 j ≠ -1)) x)) (nI x) u = some (nI (gn_cnt (fun j => decide (u.1 9 j ≠ -1)) 6), u) := by
  intro d
  induction d with
  | zero =>
    intro x n hx hn
    obtain ⟨n, rfl⟩ := ga_su hn
    obtain rfl : x = 6 := by omega
    rw [fn_Bk_countKeptVersions_4, if_pos (show (6 : Int32) ≤ nI 6 by decide)]
  | succ d ih =>
    intro x n hx hn
    obtain ⟨n, rfl⟩ := ga_su hn
    have hc : gn_cnt (fun j => decide (u.1 9 j ≠ -1)) (x + 1) = gn_cnt (fun j => decide (u.1 9 j ≠ -1)) x + (if decide (u.1 9 x ≠ -1) = true then 1 else 0) := rfl
    have ih' := ih (x + 1) n (by omega) (by omega)
    rw [hc] at ih'
    have g : gj_in (nI x) 6 := nI_in (by omega) (by decide)
    have c : (nI x).toNatClampNeg = x := nI_clamp (by omega)
    rw [fn_Bk_countKeptVersions_4, if_neg (show ¬ (6 : Int32) ≤ nI x from nI_ge (b := 6) (by omega) (by decide))]
    simp only [if_pos g, c, nI_1]
    by_cases h : u.1 9 x = -1
    · rw [if_pos h]
      rw [if_neg (by rw [h]; decide)] at ih'
      exact ih'
    · rw [if_neg h]
      rw [if_pos (decide_eq_true h)] at ih'
      exact ih'
theorem bk_cntU {n0 : Nat} {a : ga_A} {u : gk_St} (hn0 : n0 < 512) (h2 : ga_w2 a) (h4 : ∀ k, k < 100 → a 4 k ≤ n0) (hR : gb_R a u) : ∀ (d x n : Nat), x + d = 100 → d < n → fn_Bk_countUnused_4 n (nI (gn_cnt (fun k => decide (a 2 k = 1) && decide (a 4 k = 0)) x)) (nI x) u = some (nI (gn_cnt (fun k => decide (a 2 k = 1) && decide (a 4 k = 0)) 100), u) := by
  intro d
  induction d with
  | zero =>
    intro x n hx hn
    obtain ⟨n, rfl⟩ := ga_su hn
    obtain rfl : x = 100 := by omega
    rw [fn_Bk_countUnused_4, if_pos (show (100 : Int32) ≤ nI 100 by decide)]
  | succ d ih =>
    intro x n hx hn
    obtain ⟨n, rfl⟩ := ga_su hn
    have hc : gn_cnt (fun k => decide (a 2 k = 1) && decide (a 4 k = 0)) (x + 1) = gn_cnt (fun k => decide (a 2 k = 1) && decide (a 4 k = 0)) x + (if (decide (a 2 x = 1) && decide (a 4 x = 0)) = true then 1 else 0) := rfl
    have ih' := ih (x + 1) n (by omega) (by omega)
    rw [hc] at ih'
    rw [fn_Bk_countUnused_4, if_neg (show ¬ (100 : Int32) ≤ nI x from nI_ge (b := 100) (by omega) (by decide)), bk_inK h2 hR (by omega), nI_1]
    by_cases hp : a 2 x = 1
    · rw [if_pos hp, Option.bind_some]
      have h4x := h4 x (by omega)
      show (if u.1 3 x = 0 then _ else _) = _
      rw [(hR.2.2.2.1 x (by omega) hp).2.1]
      by_cases hb : a 4 x = 0
      · rw [if_pos (by rw [hb]; rfl), nI_1]
        rw [if_pos (by rw [decide_eq_true hp, decide_eq_true hb]; rfl)] at ih'
        exact ih'
      · rw [if_neg (nI_ne0 (by omega) (by omega))]
        rw [if_neg (by rw [decide_eq_true hp, decide_eq_false hb]; decide)] at ih'
        exact ih'
    · rw [if_neg hp]
      rw [if_neg (by rw [decide_eq_false hp]; simp)] at ih'
      exact ih'
theorem md_cntU {n0 : Nat} {a : ga_A} (hn0 : n0 < 512) (hok : ga_ok a) (h4 : ∀ k, k < 100 → a 4 k ≤ n0) (x1 : Int32) : ∀ (d x n : Nat), x + d = a 12 0 → d < n → fn_Md_count_66 n x1 (nI (gn_cnt (fun i => decide (a 4 (a 7 i) = 0)) x)) (nI x) (ga_v a) = some (nI (gn_cnt (fun i => decide (a 4 (a 7 i) = 0)) (a 12 0)), ga_v a) := by
  have h12 := hok.1
  intro d
  induction d with
  | zero =>
    intro x n hx hn
    obtain ⟨n, rfl⟩ := ga_su hn
    obtain rfl : x = a 12 0 := by omega
    rw [fn_Md_count_66, ga_vr, if_pos (nI_le (Nat.le_refl _) (by omega))]
  | succ d ih =>
    intro x n hx hn
    obtain ⟨n, rfl⟩ := ga_su hn
    have hc : gn_cnt (fun i => decide (a 4 (a 7 i) = 0)) (x + 1) = gn_cnt (fun i => decide (a 4 (a 7 i) = 0)) x + (if decide (a 4 (a 7 x) = 0) = true then 1 else 0) := rfl
    have ih' := ih (x + 1) n (by omega) (by omega)
    rw [hc] at ih'
    have x7 := hok.2.2.1 x (by omega)
    have h4x := h4 _ x7
    have gx : gj_in (nI x) 101 := nI_in (by omega) (by decide)
    have cx : (nI x).toNatClampNeg = x := nI_clamp (by omega)
    have gt : gj_in (nI (a 7 x)) 100 := nI_in x7 (by decide)
    have ct : (nI (a 7 x)).toNatClampNeg = a 7 x := nI_clamp (by omega)
    rw [fn_Md_count_66, ga_vr, if_neg (nI_ge (by omega) (by omega))]
    simp only [if_pos gx, cx, ga_vr, if_pos gt, ct, nI_1]
    by_cases hb : a 4 (a 7 x) = 0
    · rw [if_pos (by rw [hb]; rfl)]
      rw [if_pos (decide_eq_true hb)] at ih'
      exact ih'
    · rw [if_neg (nI_ne0 (by omega) (by omega)), show (0 : Int32) = nI 0 from rfl, nI_add]
      rw [if_neg (by rw [decide_eq_false hb]; decide)] at ih'
      exact ih'
theorem op_count (w : Int32) : gs_op (fn_Bk_count w) (fn_Md_count w) := by
  refine gs_read (fun n a u hn hW hR => ?_)
  obtain ⟨hok, h2, h4, h7, h8⟩ := hW
  obtain ⟨⟨r6, r5, r8, r7, r0⟩, rp, rt, r4, re, s, hS⟩ := id hR
  have h12 := hok.1
  have hlv := ga_lv_le h7
  unfold fn_Bk_count fn_Md_count
  simp only [ga_vr, r6, r8, re, rt.1]
  by_cases w0 : w = 0
  · rw [if_pos w0, if_pos w0]; exact ⟨_, rfl, rfl⟩
  rw [if_neg w0, if_neg w0]
  by_cases w1 : w = 1
  · rw [if_pos w1, if_pos w1]; exact ⟨_, rfl, rfl⟩
  rw [if_neg w1, if_neg w1]
  by_cases w2 : w = 2
  · rw [if_pos w2, if_pos w2]; exact ⟨_, rfl, rfl⟩
  rw [if_neg w2, if_neg w2]
  by_cases w3 : w = 3
  · rw [if_pos w3, if_pos w3]
    have e := bk_cntKV (u := u) 6 0 gk_fu (by omega) (by unfold gk_fu; omega)
    rw [gb_cntS hn h8 hS] at e
    refine ⟨nI (a 15 0), ?_, rfl⟩
    unfold fn_Bk_countKeptVersions
    rw [show fn_Bk_countKeptVersions_4 gk_fu 0 0 u = _ from e]
    rfl
  rw [if_neg w3, if_neg w3]
  by_cases w4 : w = 4
  · rw [if_pos w4, if_pos w4]
    have e := bk_cntU hn h2 h4 hR 100 0 gk_fu (by omega) (by unfold gk_fu; omega)
    have f := md_cntU hn hok h4 w (a 12 0) 0 gm_fu (by omega) (by unfold gm_fu; omega)
    have hp := gn_perm (s := a 7) (Q := fun k => decide (a 4 k = 0)) (N := 100) (a 12 0) (fun k => decide (a 2 k = 1) && decide (a 4 k = 0)) hok.2.2.1 (fun i j hi hj e => ga_inj hok hi hj e) (fun k hk => by
      rw [Bool.and_eq_true, decide_eq_true_eq, ga_pres h2 hok hk])
    rw [hp] at e
    refine ⟨_, ?_, f⟩
    unfold fn_Bk_countUnused
    rw [show fn_Bk_countUnused_4 gk_fu 0 0 u = _ from e]
    rfl
  rw [if_neg w4, if_neg w4]
  by_cases w5 : w = 5
  · rw [if_pos w5, if_pos w5]; exact ⟨_, rfl, rfl⟩
  rw [if_neg w5, if_neg w5]
  by_cases w6 : w = 6
  · rw [if_pos w6, if_pos w6]
    obtain ⟨r, e1, e2⟩ := both_all hok h2 h7 hR w (a 13 0) 0 gk_fu gm_fu 0 (by omega) (by unfold gk_fu; omega) (by unfold gm_fu; omega)
    refine ⟨r, ?_, e2⟩
    unfold fn_Bk_costOfAll
    rw [show fn_Bk_costOfAll_4 gk_fu 0 0 u = _ from e1]
    rfl
  rw [if_neg w6, if_neg w6]
  exact ⟨_, rfl, rfl⟩
