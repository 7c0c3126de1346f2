/-! a version ends -/
def gk_c (u : gk_St) (c : Nat) (f : Nat → Int32) : gk_St := (fun c' k' => if c' = c then f k' else u.1 c' k', u.2)
theorem gk_cc1 (u : gk_St) (c : Nat) (f : Nat → Int32) (k : Nat) : (gk_c u c f).1 c k = f k := by simp [gk_c]
theorem gk_c2' {u : gk_St} {c c' k : Nat} {f : Nat → Int32} (h : c' ≠ c) : (gk_c u c f).1 c' k = u.1 c' k := by simp [gk_c, h]
theorem gk_cs (u : gk_St) (c : Nat) (f : Nat → Int32) (k : Nat) (v : Int32) : gk_sI (gk_c u c f) c k v = gk_c u c (fun j => if j = k then v else f j) := by
  have h : (fun a b => if a = c ∧ b = k then v else (if a = c then f b else u.1 a b)) = fun a b => if a = c then (if b = k then v else f b) else u.1 a b := by
    funext a b
    by_cases h1 : a = c
    · by_cases h2 : b = k <;> simp [h1, h2]
    · simp [h1]
  show ((fun a b => if a = c ∧ b = k then v else (if a = c then f b else u.1 a b)), u.2) = _
  rw [h]
  rfl
theorem gk_c0' (u : gk_St) (c : Nat) : gk_c u c (u.1 c) = u := by
  have h : (fun c' k' => if c' = c then u.1 c k' else u.1 c' k') = u.1 := by
    funext c' k'
    split
    · rename_i h; rw [h]
    · rfl
  show ((fun c' k' => if c' = c then u.1 c k' else u.1 c' k'), u.2) = u
  rw [h]
theorem gn_all {P : Nat → Bool} : ∀ {n : Nat}, gn_cnt P n = n → ∀ i, i < n → P i = true := by
  intro n
  induction n with
  | zero => intro _ i hi; omega
  | succ n ih =>
    intro h i hi
    have h : gn_cnt P n + (if P n = true then 1 else 0) = n + 1 := h
    have hl := gn_le P n
    have hP : P n = true := by
      cases hh : P n
      · rw [hh] at h; simp at h; omega
      · rfl
    rw [hP] at h
    rcases Nat.lt_succ_iff_lt_or_eq.mp hi with q | q
    · exact ih (by simp at h; omega) i q
    · rw [q]; exact hP
theorem gn_ex {P : Nat → Bool} : ∀ {n : Nat}, gn_cnt P n < n → ∃ i, i < n ∧ P i = false := by
  intro n
  induction n with
  | zero => intro h; omega
  | succ n ih =>
    intro h
    have h : gn_cnt P n + (if P n = true then 1 else 0) < n + 1 := h
    cases hh : P n
    · exact ⟨n, by omega, hh⟩
    · rw [hh] at h
      simp at h
      obtain ⟨i, h1, h2⟩ := ih (by omega)
      exact ⟨i, by omega, h2⟩
theorem gb_cntS {n : Nat} {a : ga_A} {u : gk_St} {s : Nat → Nat} (hn : n < 512) (h8 : ga_w8 n a) (hS : gb_S a u s) : gn_cnt (fun j => decide (u.1 9 j ≠ -1)) 6 = a 15 0 := by
  rw [gn_perm (s := s) (Q := fun _ => true) (a 15 0) _ (fun i hi => (hS.1 i hi).1) hS.2.1 (fun k hk => ?_)]
  · exact gn_true _
  · rw [decide_eq_true_eq]
    rcases gb_slot hS hk with ⟨i, h1, h2, h3⟩ | ⟨h1, h2⟩
    · have h9 := h8.2.2.1 i h1
      have hen := h8.1
      refine ⟨fun _ => ⟨⟨i, h1, h2⟩, rfl⟩, fun _ e => ?_⟩
      rw [h3] at e
      exact absurd (show nI (a 9 i) < 0 by rw [e]; decide) (nI_pos (by omega))
    · exact ⟨fun q => absurd h2 q, fun ⟨⟨i, i1, i2⟩, _⟩ => absurd i2 (h1 i i1)⟩
/-- a state in which versions alone have changed -/
theorem ga_W_ver {n : Nat} {a a' : ga_A} (h : ga_W n a) (e : ∀ c, c ≠ 9 → c ≠ 10 → c ≠ 11 → c ≠ 14 → c ≠ 15 → a' c = a c) (h8 : ga_w8 (n + 1) a') : ga_W (n + 1) a' := by
  have eT : ∀ k, ga_T a' k = ga_T a k := fun k => by unfold ga_T; rw [e 5 (by decide) (by decide) (by decide) (by decide) (by decide), e 6 (by decide) (by decide) (by decide) (by decide) (by decide)]
  have eK : ∀ k, ga_K a' k = ga_K a k := fun k => by unfold ga_K; rw [eT, e 3 (by decide) (by decide) (by decide) (by decide) (by decide)]
  obtain ⟨h1, h2, h3, h4, -⟩ := h
  refine ⟨?_, ?_, ?_, ?_, h8⟩
  · unfold ga_ok at *
    simp only [eK, e 0 (by decide) (by decide) (by decide) (by decide) (by decide), e 1 (by decide) (by decide) (by decide) (by decide) (by decide), e 3 (by decide) (by decide) (by decide) (by decide) (by decide), e 5 (by decide) (by decide) (by decide) (by decide) (by decide), e 6 (by decide) (by decide) (by decide) (by decide) (by decide), e 7 (by decide) (by decide) (by decide) (by decide) (by decide), e 12 (by decide) (by decide) (by decide) (by decide) (by decide)]
    exact h1
  · unfold ga_w2 at *
    simp only [e 2 (by decide) (by decide) (by decide) (by decide) (by decide), e 7 (by decide) (by decide) (by decide) (by decide) (by decide), e 12 (by decide) (by decide) (by decide) (by decide) (by decide)]
    exact h2
  · rw [e 4 (by decide) (by decide) (by decide) (by decide) (by decide)]
    exact fun k hk => Nat.le_succ_of_le (h3 k hk)
  · unfold ga_w7 at *
    rw [e 8 (by decide) (by decide) (by decide) (by decide) (by decide), e 12 (by decide) (by decide) (by decide) (by decide) (by decide), e 13 (by decide) (by decide) (by decide) (by decide) (by decide)]
    exact h4
theorem gb_R_ver {a a' : ga_A} {u u' : gk_St} (h : gb_R a u) (e : ∀ c, c ≠ 9 → c ≠ 10 → c ≠ 11 → c ≠ 14 → c ≠ 15 → a' c = a c) (hu : ∀ c k, c ≠ 4 → c ≠ 9 → c ≠ 10 → u'.1 c k = u.1 c k) (hl : u'.2 = u.2) (h14 : u'.1 10 0 = nI (a' 14 0)) (hS : ∃ s, gb_S a' u' s) : gb_R a' u' := by
  have eT : ∀ k, ga_T a' k = ga_T a k := fun k => by unfold ga_T; rw [e 5 (by decide) (by decide) (by decide) (by decide) (by decide), e 6 (by decide) (by decide) (by decide) (by decide) (by decide)]
  have eP : ga_P a' = ga_P a := by unfold ga_P; rw [e 0 (by decide) (by decide) (by decide) (by decide) (by decide), e 1 (by decide) (by decide) (by decide) (by decide) (by decide)]
  obtain ⟨⟨r1, r2, r3, r4, r5⟩, r6, r7, r8, -, -⟩ := h
  refine ⟨?_, ?_, ?_, ?_, h14, hS⟩
  · unfold gb_r1
    rw [e 12 (by decide) (by decide) (by decide) (by decide) (by decide), e 13 (by decide) (by decide) (by decide) (by decide) (by decide), e 7 (by decide) (by decide) (by decide) (by decide) (by decide), e 8 (by decide) (by decide) (by decide) (by decide) (by decide)]
    simp only [hu 6 _ (by decide) (by decide) (by decide), hu 5 _ (by decide) (by decide) (by decide), hu 8 _ (by decide) (by decide) (by decide), hu 7 _ (by decide) (by decide) (by decide)]
    exact ⟨r1, r2, r3, r4, r5⟩
  · rw [e 2 (by decide) (by decide) (by decide) (by decide) (by decide)]
    intro k hk
    rw [hu 1 _ (by decide) (by decide) (by decide)]
    exact r6 k hk
  · rw [eP, e 0 (by decide) (by decide) (by decide) (by decide) (by decide)]
    unfold gb_T at *
    rw [hu 0 _ (by decide) (by decide) (by decide), hl]
    exact r7
  · unfold gb_r4 gb_T at *
    rw [e 2 (by decide) (by decide) (by decide) (by decide) (by decide), e 3 (by decide) (by decide) (by decide) (by decide) (by decide), e 4 (by decide) (by decide) (by decide) (by decide) (by decide), e 5 (by decide) (by decide) (by decide) (by decide) (by decide)]
    simp only [eT, hu 2 _ (by decide) (by decide) (by decide), hu 3 _ (by decide) (by decide) (by decide), hu 0 _ (by decide) (by decide) (by decide), hl]
    exact r8
/-- the bits of slot q, for the terms below x that have uses -/
def gb_mk (a : ga_A) (u : gk_St) (q x : Nat) : Nat → Int32 := fun k => if k < x ∧ a 2 k = 1 ∧ 0 < a 4 k then u.1 4 k ||| ((1 : Int32) <<< (nI q &&& 31)) else u.1 4 k
theorem bk_version_16 {n : Nat} {a : ga_A} {u : gk_St} (hn : n < 512) (h2 : ga_w2 a) (h4 : ∀ k, k < 100 → a 4 k ≤ n) (hR : gb_R a u) {q : Nat} (hq : q < 6) : ∀ (d x m : Nat), x + d = 100 → d < m → fn_Bk_version_16 m (nI q) (nI x) (gk_c u 4 (gb_mk a u q x)) = some (nI (a 14 0), gk_sI (gk_sI (gk_c u 4 (gb_mk a u q 100)) 9 q (nI (a 14 0))) 10 0 (nI (a 14 0) + 1)) := by
  have g : gj_in (nI q) 6 := nI_in hq (by decide)
  have c : (nI q).toNatClampNeg = q := nI_clamp (by omega)
  intro d
  induction d with
  | zero =>
    intro x m hx hm
    obtain ⟨m, rfl⟩ := ga_su hm
    obtain rfl : x = 100 := by omega
    rw [fn_Bk_version_16, if_pos (show (100 : Int32) ≤ nI 100 by decide)]
    simp only [if_pos g, c]
    have e10 : (gk_c u 4 (gb_mk a u q 100)).1 10 0 = nI (a 14 0) := by rw [gk_c2' (by decide)]; exact hR.2.2.2.2.1
    rw [e10, gk_ic (by decide), gk_i1, gk_ic (by decide), e10]
  | succ d ih =>
    intro x m hx hm
    obtain ⟨m, rfl⟩ := ga_su hm
    have h4x := h4 x (by omega)
    rw [fn_Bk_version_16, if_neg (show ¬ (100 : Int32) ≤ nI x from nI_ge (b := 100) (by omega) (by decide)), bk_inBook (by omega), gk_c2' (by decide), hR.2.1 x (by omega), nI_1]
    have same : ¬ (a 2 x = 1 ∧ 0 < a 4 x) → gb_mk a u q (x + 1) = gb_mk a u q x := fun h => by
      funext k
      unfold gb_mk
      by_cases hk : k = x
      · subst hk
        rw [if_neg (fun z => h z.2), if_neg (fun z => h z.2)]
      · by_cases hc : k < x ∧ a 2 k = 1 ∧ 0 < a 4 k
        · rw [if_pos hc, if_pos ⟨by omega, hc.2⟩]
        · rw [if_neg hc, if_neg (fun z => hc ⟨by omega, z.2⟩)]
    rcases h2.1 x (by omega) with hp | hp
    · rw [hp, if_pos (show nI 0 = 0 from rfl), Option.bind_some]
      have := ih (x + 1) m (by omega) (by omega)
      rw [same (fun z => by omega)] at this
      exact this
    · rw [hp, if_neg (show ¬ nI 1 = 0 by decide), Option.bind_some]
      show (if (gk_c u 4 (gb_mk a u q x)).1 3 x ≤ 0 then _ else _) = _
      rw [gk_c2' (by decide), (hR.2.2.2.1 x (by omega) hp).2.1]
      by_cases hz : a 4 x = 0
      · rw [if_pos (by rw [hz]; decide)]
        have := ih (x + 1) m (by omega) (by omega)
        rw [same (fun z => by omega)] at this
        exact this
      · rw [if_neg (nI_nle (by omega) (by omega))]
        unfold fn_Tm_keepFor
        rw [Option.bind_some]
        show fn_Bk_version_16 m (nI q) (nI (x + 1)) (gk_sI (gk_c u 4 (gb_mk a u q x)) 4 x ((gk_c u 4 (gb_mk a u q x)).1 4 x ||| ((1 : Int32) <<< (nI q &&& 31)))) = _
        rw [gk_cc1, gk_cs]
        have e : (fun j => if j = x then gb_mk a u q x x ||| ((1 : Int32) <<< (nI q &&& 31)) else gb_mk a u q x j) = gb_mk a u q (x + 1) := by
          funext k
          unfold gb_mk
          by_cases hk : k = x
          · subst hk
            rw [if_pos rfl, if_neg (fun z => by omega), if_pos ⟨by omega, hp, by omega⟩]
          · rw [if_neg hk]
            by_cases hc : k < x ∧ a 2 k = 1 ∧ 0 < a 4 k
            · rw [if_pos hc, if_pos ⟨by omega, hc.2⟩]
            · rw [if_neg hc, if_neg (fun z => hc ⟨by omega, z.2⟩)]
        rw [e]
        exact ih (x + 1) m (by omega) (by omega)
def ga_hs (a : ga_A) (m x : Nat) : Nat → Nat := fun j => if 100 * m ≤ j ∧ j < 100 * m + x then (if a 2 (j - 100 * m) = 1 ∧ 0 < a 4 (j - 100 * m) then 1 else 0) else a 10 j
theorem md_version_27 {a : ga_A} {n m : Nat} (h2 : ga_w2 a) (hn : n < 512) (h4 : ∀ k, k < 100 → a 4 k ≤ n) (hm : m < 6) (b : ga_A) (b2 : b 2 = a 2) (b4 : b 4 = a 4) (b15 : b 15 0 = m) : ∀ (d x l : Nat), x + d = 100 → d < l → fn_Md_version_27 l (nI x) (ga_v (ga_c b 10 (ga_hs a m x))) = some (nI (b 14 0), ga_v (ga_s (ga_s (ga_c b 10 (ga_hs a m 100)) 15 0 (m + 1)) 14 0 (b 14 0 + 1))) := by
  intro d
  induction d with
  | zero =>
    intro x l hx hl
    obtain ⟨l, rfl⟩ := ga_su hl
    obtain rfl : x = 100 := by omega
    rw [fn_Md_version_27, if_pos (show (100 : Int32) ≤ nI 100 by decide)]
    simp only [ga_vr, ga_c2 (show (15 : Nat) ≠ 10 by decide), b15, nI_1, ga_vs, ga_rc (show (14 : Nat) ≠ 15 by decide), ga_c2 (show (14 : Nat) ≠ 10 by decide), ga_r1, nI_pred]
  | succ d ih =>
    intro x l hx hl
    obtain ⟨l, rfl⟩ := ga_su hl
    have h4x := h4 x (by omega)
    have gx : gj_in (nI x) 100 := nI_in (by omega) (by decide)
    have cx : (nI x).toNatClampNeg = x := nI_clamp (by omega)
    have e : (100 : Int32) * nI m + nI x = nI (100 * m + x) := by rw [show (100 : Int32) = nI 100 from rfl, pk_mul, nI_add]
    have gy : gj_in (nI (100 * m + x)) 600 := nI_in (by omega) (by decide)
    have cy : (nI (100 * m + x)).toNatClampNeg = 100 * m + x := nI_clamp (by omega)
    rw [fn_Md_version_27, if_neg (show ¬ (100 : Int32) ≤ nI x from nI_ge (b := 100) (by omega) (by decide))]
    simp only [if_pos gx, cx, ga_vr, ga_c2 (show (15 : Nat) ≠ 10 by decide), ga_c2 (show (2 : Nat) ≠ 10 by decide), ga_c2 (show (4 : Nat) ≠ 10 by decide), b2, b4, b15, e, if_pos gy, cy, gm_nar0, gm_nar1, ga_vs, ga_cs, nI_1]
    have st : ∀ y, (y = if a 2 x = 1 ∧ 0 < a 4 x then 1 else 0) → (fun j => if j = 100 * m + x then y else ga_hs a m x j) = ga_hs a m (x + 1) := fun y hy => by
      funext j
      unfold ga_hs
      by_cases hj : j = 100 * m + x
      · subst hj
        rw [if_pos rfl, if_pos (by omega), show 100 * m + x - 100 * m = x by omega]
        exact hy
      · rw [if_neg hj]
        by_cases hc : 100 * m ≤ j ∧ j < 100 * m + x
        · rw [if_pos hc, if_pos (show 100 * m ≤ j ∧ j < 100 * m + (x + 1) by omega)]
        · rw [if_neg hc, if_neg (show ¬ (100 * m ≤ j ∧ j < 100 * m + (x + 1)) by omega)]
    rcases h2.1 x (by omega) with hp | hp
    · rw [hp, if_pos (show nI 0 = 0 from rfl), st 0 (by rw [if_neg (by omega)])]
      exact ih (x + 1) l (by omega) (by omega)
    · rw [hp, if_neg (show ¬ nI 1 = 0 by decide)]
      by_cases hz : a 4 x = 0
      · rw [if_pos (show nI (a 4 x) ≤ 0 by rw [hz]; decide), st 0 (by rw [if_neg (by omega)])]
        exact ih (x + 1) l (by omega) (by omega)
      · rw [if_neg (nI_nle (by omega) (by omega)), st 1 (by rw [if_pos (by omega)])]
        exact ih (x + 1) l (by omega) (by omega)
