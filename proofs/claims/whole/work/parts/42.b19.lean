/-! sums of rows that change -/
theorem gp_set {f : Nat → Nat} {l x : Nat} : ∀ {k : Nat}, l < k → ga_pre (fun j => if j = l then x else f j) k + f l = ga_pre f k + x := by
  intro k
  induction k with
  | zero => intro h; omega
  | succ k ih =>
    intro h
    show ga_pre (fun j => if j = l then x else f j) k + (if k = l then x else f k) + f l = ga_pre f k + f k + x
    rcases Nat.lt_succ_iff_lt_or_eq.mp h with q | q
    · rw [if_neg (by omega)]; have := ih q; omega
    · subst q
      rw [if_pos rfl, ga_pre_eq (g := f) (fun j hj => if_neg (by omega))]
      omega
theorem gp_dn {f : Nat → Nat} {p : Nat} : ∀ {k : Nat}, p ≤ k → ga_pre (ga_dn f p k) k + f p = ga_pre f (k + 1) := by
  intro k
  induction k with
  | zero =>
    intro h
    obtain rfl : p = 0 := by omega
    rfl
  | succ k ih =>
    intro h
    rcases Nat.lt_or_ge p (k + 1) with q | q
    · have h1 : ga_pre (ga_dn f p (k + 1)) k = ga_pre (ga_dn f p k) k := ga_pre_eq (fun j hj => by
        unfold ga_dn
        by_cases hc : p ≤ j
        · rw [if_pos (by omega), if_pos (by omega)]
        · rw [if_neg (by omega), if_neg (by omega)])
      have h2 : ga_dn f p (k + 1) k = f (k + 1) := by unfold ga_dn; rw [if_pos (by omega)]
      show ga_pre (ga_dn f p (k + 1)) k + ga_dn f p (k + 1) k + f p = ga_pre f (k + 1) + f (k + 1)
      rw [h1, h2]
      have := ih (by omega)
      omega
    · obtain rfl : p = k + 1 := by omega
      rw [ga_dn0]
      rfl
theorem gp_ge {f : Nat → Nat} : ∀ {k : Nat}, (∀ j, j < k → 1 ≤ f j) → k ≤ ga_pre f k := by
  intro k
  induction k with
  | zero => intro _; exact Nat.zero_le _
  | succ k ih =>
    intro h
    have := ih (fun j hj => h j (by omega))
    have := h k (by omega)
    show k + 1 ≤ ga_pre f k + f k
    omega
/-! the class's leaves change -/
theorem bk_resize {u : gk_St} {lv j : Nat} (x : Int32) (h8 : u.1 8 0 = nI lv) (hl : lv ≤ 100) (hj : j < lv) : fn_Lv_resize (nI j) x u = some (gk_sI u 7 j (u.1 7 j + x)) := by
  have g : gj_in (nI j) 100 := nI_in (by omega) (by decide)
  have c : (nI j).toNatClampNeg = j := nI_clamp (by omega)
  unfold fn_Lv_resize
  rw [if_neg (nI_pos (by omega)), h8, if_neg (nI_ge hj (by omega)), if_neg (show ¬ (100 : Int32) ≤ nI j from nI_ge (b := 100) (by omega) (by decide))]
  simp only [if_pos g, c]
theorem bk_joinNext_26 {u : gk_St} {f : Nat → Int32} {lv p : Nat} (q : Int32) (h8 : u.1 8 0 = nI lv) (hl : lv ≤ 99) : ∀ (d x n : Nat), x + d = lv → p ≤ x → d < n → fn_Lv_joinNext_53 n q (nI x) (gk_c u 7 (ga_dn f p x)) = some (gk_c u 7 (ga_dn f p lv)) := by
  intro d
  induction d with
  | zero =>
    intro x n hx hp hn
    obtain ⟨n, rfl⟩ := ga_su hn
    obtain rfl : x = lv := by omega
    rw [fn_Lv_joinNext_53, gk_c2' (by decide), h8, if_pos (nI_le (Nat.le_refl _) (by omega))]
  | succ d ih =>
    intro x n hx hp hn
    obtain ⟨n, rfl⟩ := ga_su hn
    have g1 : gj_in (nI (x + 1)) 100 := nI_in (by omega) (by decide)
    have c1 : (nI (x + 1)).toNatClampNeg = x + 1 := nI_clamp (by omega)
    have g0 : gj_in (nI x) 100 := nI_in (by omega) (by decide)
    have c0 : (nI x).toNatClampNeg = x := nI_clamp (by omega)
    rw [fn_Lv_joinNext_53, gk_c2' (by decide), h8, if_neg (nI_ge (by omega) (by omega))]
    simp only [nI_1, if_pos g1, c1, if_pos g0, c0, gk_cc1, gk_cs, ga_dn_s f hp]
    exact ih (x + 1) n (by omega) (by omega) (by omega)
/-- joined: l and the next one -/
def ga_jn (f : Nat → Nat) (l : Nat) : Nat → Nat := fun j => if j < l then f j else if j = l then f l + f (l + 1) else f (j + 1)
theorem bk_joinNext {u : gk_St} {f : Nat → Nat} {lv l : Nat} (h8 : u.1 8 0 = nI lv) (hl : lv ≤ 100) (hs : ∀ j, j < lv → u.1 7 j = nI (f j)) (hll : l + 1 < lv) : ∃ u', fn_Lv_joinNext (nI l) u = some u' ∧ u'.1 8 0 = nI (lv - 1) ∧ (∀ j, j < lv - 1 → u'.1 7 j = nI (ga_jn f l j)) ∧ (∀ c k, c ≠ 7 → c ≠ 8 → u'.1 c k = u.1 c k) ∧ u'.2 = u.2 := by
  unfold fn_Lv_joinNext
  rw [if_neg (nI_pos (by omega)), h8, nI_1, if_neg (nI_ge hll (by omega)), if_pos (show nI lv ≤ (100 : Int32) from nI_le (b := 100) hl (by decide)), bk_sizeOf h8 hl hll, Option.bind_some]
  show ∃ u', (fn_Lv_resize (nI l) (u.1 7 (l + 1)) u).bind _ = some u' ∧ _
  rw [bk_resize _ h8 hl (by omega), Option.bind_some, gk_ic (by decide), h8, show nI lv - 1 = nI (lv - 1) from pk_sub (a := lv) (b := 1) (by omega)]
  generalize hw : gk_sI (gk_sI u 7 l (u.1 7 l + u.1 7 (l + 1))) 8 0 (nI (lv - 1)) = w
  have w8 : w.1 8 0 = nI (lv - 1) := by rw [← hw, gk_i1]
  have w7 : ∀ j, w.1 7 j = if j = l then u.1 7 l + u.1 7 (l + 1) else u.1 7 j := fun j => by
    rw [← hw, gk_ic (by decide)]
    by_cases h : j = l
    · rw [if_pos h, h, gk_i1]
    · rw [if_neg h, gk_ik h]
  have e := bk_joinNext_26 (f := w.1 7) (p := l + 1) (nI l) w8 (by omega) (lv - 1 - (l + 1)) (l + 1) gk_fu (by omega) (Nat.le_refl _) (by unfold gk_fu; omega)
  rw [ga_dn0, gk_c0'] at e
  refine ⟨_, e, by rw [gk_c2' (by decide)]; exact w8, fun j hj => ?_, fun c k c7 c8 => ?_, ?_⟩
  · rw [gk_cc1]
    unfold ga_dn ga_jn
    by_cases h1 : j < l
    · rw [if_neg (by omega), if_pos h1, w7, if_neg (by omega), hs j (by omega)]
    · rw [if_neg h1]
      by_cases h2 : j = l
      · subst h2
        rw [if_neg (by omega), if_pos rfl, w7, if_pos rfl, hs j (by omega), hs (j + 1) (by omega), nI_add]
      · rw [if_pos (by omega), if_neg h2, w7, if_neg (by omega), hs (j + 1) (by omega)]
  · rw [gk_c2' c7, ← hw, gk_ic c8, gk_ic c7]
  · rw [← hw]; rfl
/-- what the abstract leaves are, where l has a term less already -/
theorem ga_lf_c (b : ga_A) (l : Nat) : ∀ c, c ≠ 8 → c ≠ 13 → ga_lf b l c = b c := by
  intro c h8 h13
  funext k
  unfold ga_lf ga_drop
  split
  · rfl
  · split
    · split
      · rw [ga_c2 h8, ga_rc h13]
      · rfl
    · split
      · rw [ga_rc h8, ga_rc h8]
      · rw [ga_c2 h8, ga_rc h13, ga_rc h8]
theorem ga_jn_a {b : ga_A} {l : Nat} (hl : l + 1 < b 13 0) : ∀ j, j < b 13 0 - 1 → (ga_drop (ga_s b 8 (l + 1) (b 8 (l + 1) + b 8 l)) l) 8 j = ga_jn (b 8) l j := by
  intro j hj
  unfold ga_drop ga_jn
  rw [ga_c1, ga_rc (by decide)]
  unfold ga_dn
  by_cases h1 : j < l
  · rw [if_neg (by omega), if_pos h1, ga_rk (by omega)]
  · rw [if_pos (by omega), if_neg h1]
    by_cases h2 : j = l
    · subst h2
      rw [if_pos rfl, ga_r1]; omega
    · rw [if_neg h2, ga_rk (by omega)]
theorem ga_jn_b {b : ga_A} {l : Nat} (hl : l + 1 < b 13 0) : ∀ j, j < b 13 0 - 1 → (ga_drop (ga_s b 8 l (b 8 l + b 8 (l + 1))) (l + 1)) 8 j = ga_jn (b 8) l j := by
  intro j hj
  unfold ga_drop ga_jn
  rw [ga_c1, ga_rc (by decide)]
  unfold ga_dn
  by_cases h1 : j < l
  · rw [if_neg (by omega), if_pos h1, ga_rk (by omega)]
  · rw [if_neg h1]
    by_cases h2 : j = l
    · subst h2
      rw [if_neg (by omega), if_pos rfl, ga_r1]
    · rw [if_pos (by omega), if_neg h2, ga_rk (by omega)]
theorem ga_drop_13 (b : ga_A) (l : Nat) : ga_drop b l 13 0 = b 13 0 - 1 := by unfold ga_drop; rw [ga_c2 (by decide), ga_r1]
def gb_lf (b : ga_A) (u : gk_St) : Prop := u.1 8 0 = nI (b 13 0) ∧ (∀ j, j < b 13 0 → u.1 7 j = nI (b 8 j)) ∧ (b 13 0 = 0 → u.1 7 0 = 0)
theorem bk_mend {b : ga_A} {u : gk_St} {l : Nat} (hb : gb_lf b u) (hL : b 13 0 ≤ 100) (hl : l < b 13 0) (h8 : ∀ j, j < b 13 0 → b 8 j ≤ 8) (h3 : b 8 l < 3) (h6 : u.1 6 0 = nI (ga_pre (b 8) (b 13 0))) (hp : ga_pre (b 8) (b 13 0) < 2 ^ 30) : ∃ u', fn_Lv_mend (nI l) u = some u' ∧ gb_lf (ga_lf b l) u' ∧ (∀ c k, c ≠ 7 → c ≠ 8 → u'.1 c k = u.1 c k) ∧ u'.2 = u.2 := by
  obtain ⟨b1, b2, b3⟩ := hb
  unfold fn_Lv_mend ga_lf
  rw [b1, if_neg (show ¬ 3 ≤ b 8 l by omega)]
  by_cases h2 : b 13 0 ≤ 1
  · have h13 : b 13 0 = 1 := by omega
    obtain rfl : l = 0 := by omega
    have hpre : ga_pre (b 8) (b 13 0) = b 8 0 := by rw [h13]; show 0 + b 8 0 = b 8 0; omega
    rw [if_neg (show ¬ (2 : Int32) ≤ nI (b 13 0) from nI_ge (b := 2) (by omega) (by decide)), if_pos h2]
    unfold fn_Lv_dropEmpty
    rw [h6, hpre]
    by_cases hz : b 8 0 = 0
    · rw [if_pos hz, if_pos (show nI (b 8 0) = 0 by rw [hz]; rfl)]
      refine ⟨_, rfl, ⟨?_, fun j hj => ?_, fun _ => ?_⟩, fun c k _ c8 => gk_ic c8, rfl⟩
      · rw [gk_i1, ga_drop_13, h13]; rfl
      · rw [ga_drop_13, h13] at hj; omega
      · rw [gk_ic (by decide), b2 0 (by omega), hz]; rfl
    · rw [if_neg hz, if_neg (show ¬ nI (b 8 0) = 0 from nI_ne0 (by omega) (by have := h8 0 (by omega); omega))]
      exact ⟨u, rfl, ⟨b1, b2, b3⟩, fun _ _ _ _ => rfl, rfl⟩
  · rw [if_pos (show (2 : Int32) ≤ nI (b 13 0) from nI_le (a := 2) (by omega) (by omega)), if_neg h2, nI_1]
    have hl8 := h8 l hl
    by_cases ho : b 13 0 ≤ l + 1
    · have e : ga_oth b l = l - 1 := by unfold ga_oth; rw [if_pos ho]
      have hp1 : nI l - 1 = nI (l - 1) := pk_sub (a := l) (b := 1) (by omega)
      have ho8 := h8 (l - 1) (by omega)
      rw [if_pos (nI_le ho (by omega)), bk_sizeOf b1 hL hl, Option.bind_some, hp1, e]
      show ∃ u', (fn_Lv_sizeOf (nI (l - 1)) u).bind _ = some u' ∧ _
      rw [bk_sizeOf b1 hL (by omega), Option.bind_some, b2 l hl, b2 (l - 1) (by omega), nI_add]
      by_cases h9 : 8 < b 8 l + b 8 (l - 1)
      · rw [if_pos (show (8 : Int32) < nI (b 8 l + b 8 (l - 1)) from nI_lt (a := 8) h9 (by omega)), if_pos h9]
        show ∃ u', (fn_Lv_resize (nI l) 1 u).bind _ = some u' ∧ _
        rw [bk_resize _ b1 hL hl, Option.bind_some, bk_resize _ (by rw [gk_ic (by decide)]; exact b1) hL (by omega), Option.bind_some]
        refine ⟨_, rfl, ⟨?_, fun j hj => ?_, fun h0 => ?_⟩, fun c k c7 _ => by rw [gk_ic c7, gk_ic c7], rfl⟩
        · rw [gk_ic (by decide), gk_ic (by decide), b1, ga_rc (by decide), ga_rc (by decide)]
        · rw [ga_rc (by decide), ga_rc (by decide)] at hj
          by_cases j1 : j = l - 1
          · subst j1
            rw [gk_i1, gk_ik (by omega), b2 _ (by omega), ga_rk (by omega), ga_r1, sb_m1 (by omega)]
          · rw [gk_ik j1]
            by_cases j2 : j = l
            · subst j2
              rw [gk_i1, b2 _ hj, ga_r1, nI_1]
            · rw [gk_ik j2, b2 _ hj, ga_rk j2, ga_rk j1]
        · rw [ga_rc (by decide), ga_rc (by decide)] at h0; omega
      · rw [if_neg (show ¬ (8 : Int32) < nI (b 8 l + b 8 (l - 1)) from nI_nlt (a := 8) (by omega) (by decide)), if_neg h9, mi_nI (by omega) (by omega), show min l (l - 1) = l - 1 by omega]
        obtain ⟨u', q0, q1, q2, q3, q4⟩ := bk_joinNext (l := l - 1) b1 hL b2 (by omega)
        show ∃ u', (fn_Lv_joinNext (nI (l - 1)) u).bind _ = some u' ∧ _
        rw [q0]
        have hj := ga_jn_b (b := b) (l := l - 1) (by omega)
        rw [show l - 1 + 1 = l by omega] at hj
        refine ⟨u', rfl, ⟨?_, fun j hj1 => ?_, fun h0 => ?_⟩, q3, q4⟩
        · rw [q1, ga_drop_13, ga_rc (by decide)]
        · rw [ga_drop_13, ga_rc (by decide)] at hj1
          rw [q2 j hj1, hj j hj1]
        · rw [ga_drop_13, ga_rc (by decide)] at h0; omega
    · have e : ga_oth b l = l + 1 := by unfold ga_oth; rw [if_neg ho]
      have ho8 := h8 (l + 1) (by omega)
      rw [if_neg (nI_ge (by omega) (by omega)), bk_sizeOf b1 hL hl, Option.bind_some, e]
      show ∃ u', (fn_Lv_sizeOf (nI (l + 1)) u).bind _ = some u' ∧ _
      rw [bk_sizeOf b1 hL (by omega), Option.bind_some, b2 l hl, b2 (l + 1) (by omega), nI_add]
      by_cases h9 : 8 < b 8 l + b 8 (l + 1)
      · rw [if_pos (show (8 : Int32) < nI (b 8 l + b 8 (l + 1)) from nI_lt (a := 8) h9 (by omega)), if_pos h9]
        show ∃ u', (fn_Lv_resize (nI l) 1 u).bind _ = some u' ∧ _
        rw [bk_resize _ b1 hL hl, Option.bind_some, bk_resize _ (by rw [gk_ic (by decide)]; exact b1) hL (by omega), Option.bind_some]
        refine ⟨_, rfl, ⟨?_, fun j hj => ?_, fun h0 => ?_⟩, fun c k c7 _ => by rw [gk_ic c7, gk_ic c7], rfl⟩
        · rw [gk_ic (by decide), gk_ic (by decide), b1, ga_rc (by decide), ga_rc (by decide)]
        · rw [ga_rc (by decide), ga_rc (by decide)] at hj
          by_cases j1 : j = l + 1
          · subst j1
            rw [gk_i1, gk_ik (by omega), b2 _ (by omega), ga_rk (by omega), ga_r1, sb_m1 (by omega)]
          · rw [gk_ik j1]
            by_cases j2 : j = l
            · subst j2
              rw [gk_i1, b2 _ hj, ga_r1, nI_1]
            · rw [gk_ik j2, b2 _ hj, ga_rk j2, ga_rk j1]
        · rw [ga_rc (by decide), ga_rc (by decide)] at h0; omega
      · rw [if_neg (show ¬ (8 : Int32) < nI (b 8 l + b 8 (l + 1)) from nI_nlt (a := 8) (by omega) (by decide)), if_neg h9, mi_nI (by omega) (by omega), show min l (l + 1) = l by omega]
        obtain ⟨u', q0, q1, q2, q3, q4⟩ := bk_joinNext (l := l) b1 hL b2 (by omega)
        show ∃ u', (fn_Lv_joinNext (nI l) u).bind _ = some u' ∧ _
        rw [q0]
        have hj := ga_jn_a (b := b) (l := l) (by omega)
        refine ⟨u', rfl, ⟨?_, fun j hj1 => ?_, fun h0 => ?_⟩, q3, q4⟩
        · rw [q1, ga_drop_13, ga_rc (by decide)]
        · rw [ga_drop_13, ga_rc (by decide)] at hj1
          rw [q2 j hj1, hj j hj1]
        · rw [ga_drop_13, ga_rc (by decide)] at h0; omega
