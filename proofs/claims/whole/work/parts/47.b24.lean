/-! a version is released -/
theorem bt_clr {s i : Nat} (hs : s < 32) (hi : i < 32) (x : Int32) : bb_t (x &&& (((1 : Int32) <<< (nI s &&& 31)) ^^^ (-1))) i = (bb_t x i && !decide (i = s)) := by
  rw [bb_and, bb_xor, bt_sh hs hi, bb_m1 i hi]
  cases bb_t x i <;> cases decide (i = s) <;> rfl
def gb_clr (a : ga_A) (u : gk_St) (q x : Nat) : Nat → Int32 := fun k => if k < x ∧ a 2 k = 1 then u.1 4 k &&& (((1 : Int32) <<< (nI q &&& 31)) ^^^ (-1)) else u.1 4 k
theorem bk_release_22 {a : ga_A} {u : gk_St} (h2 : ga_w2 a) (r1 : ∀ k, k < 100 → u.1 1 k = nI (a 2 k)) {q : Nat} (p : Int32) : ∀ (d x m : Nat), x + d = 100 → d < m → fn_Bk_release_22 m p (nI q) (nI x) (gk_c u 4 (gb_clr a u q x)) = (fn_Bk_takeOutUnneeded (gk_c u 4 (gb_clr a u q 100))).bind fun z4 => some (z4.1, z4.2) := by
  intro d
  induction d with
  | zero =>
    intro x m hx hm
    obtain ⟨m, rfl⟩ := ga_su hm
    obtain rfl : x = 100 := by omega
    rw [fn_Bk_release_22, if_pos (show (100 : Int32) ≤ nI 100 by decide)]
  | succ d ih =>
    intro x m hx hm
    obtain ⟨m, rfl⟩ := ga_su hm
    rw [fn_Bk_release_22, if_neg (show ¬ (100 : Int32) ≤ nI x from nI_ge (b := 100) (by omega) (by decide)), bk_inBook (by omega), gk_c2' (by decide), r1 x (by omega), nI_1]
    rcases h2.1 x (by omega) with hp | hp
    · rw [hp, if_pos (show nI 0 = 0 from rfl), Option.bind_some]
      have e : gb_clr a u q (x + 1) = gb_clr a u q x := by
        funext k
        unfold gb_clr
        by_cases hk : k = x
        · subst hk
          rw [if_neg (fun z => by omega), if_neg (fun z => by omega)]
        · by_cases hc : k < x ∧ a 2 k = 1
          · rw [if_pos hc, if_pos ⟨by omega, hc.2⟩]
          · rw [if_neg hc, if_neg (fun z => hc ⟨by omega, z.2⟩)]
      have := ih (x + 1) m (by omega) (by omega)
      rw [e] at this
      exact this
    · rw [hp, if_neg (show ¬ nI 1 = 0 by decide), Option.bind_some]
      show (fn_Tm_giveUpFor x (nI q) (gk_c u 4 (gb_clr a u q x))).bind _ = _
      unfold fn_Tm_giveUpFor
      rw [Option.bind_some, gk_cc1, gk_cs]
      have e : (fun j => if j = x then gb_clr a u q x x &&& (((1 : Int32) <<< (nI q &&& 31)) ^^^ (-1)) else gb_clr a u q x j) = gb_clr a u q (x + 1) := by
        funext k
        unfold gb_clr
        by_cases hk : k = x
        · subst hk
          rw [if_pos rfl, if_neg (fun z => by omega), if_pos ⟨by omega, hp⟩]
        · rw [if_neg hk]
          by_cases hc : k < x ∧ a 2 k = 1
          · rw [if_pos hc, if_pos ⟨by omega, hc.2⟩]
          · rw [if_neg hc, if_neg (fun z => hc ⟨by omega, z.2⟩)]
      rw [e]
      exact ih (x + 1) m (by omega) (by omega)
def ga_gh (a : ga_A) (i y : Nat) : Nat → Nat := fun j => if 100 * i ≤ j ∧ j < y then a 10 (j + 100) else a 10 j
theorem ga_gh_s {a : ga_A} {i y : Nat} (h : 100 * i ≤ y) : (fun j => if j = y then a 10 (y + 100) else ga_gh a i y j) = ga_gh a i (y + 1) := by
  funext j
  unfold ga_gh
  by_cases hj : j = y
  · subst hj
    rw [if_pos rfl, if_pos (by omega)]
  · rw [if_neg hj]
    by_cases hc : 100 * i ≤ j ∧ j < y
    · rw [if_pos hc, if_pos (by omega)]
    · rw [if_neg hc, if_neg (by omega)]
theorem ga_cs2 (b : ga_A) (f g : Nat → Nat) (k x : Nat) : ga_s (ga_c (ga_c b 9 f) 10 g) 9 k x = ga_c (ga_c b 9 (fun j => if j = k then x else f j)) 10 g := by
  funext c j
  unfold ga_s ga_c
  by_cases h1 : c = 10
  · subst h1; simp
  · by_cases h2 : c = 9
    · subst h2; by_cases h3 : j = k <;> simp [h3]
    · simp [h1, h2]
theorem gm_nar {z : Nat} (h : z = 0 ∨ z = 1) : vp_nar .boolean (nI z) = nI z := by rcases h with rfl | rfl <;> rfl
theorem md_release_49 {n : Nat} {a b : ga_A} (h8 : ga_w8 n a) (f : Nat → Nat) (rec : Int32 → Int32 → Int32 → gm_St → Option (Int32 × gm_St)) (x1 x2 : Int32) {i v : Nat} (hi : i ≤ v) (hv : v + 1 < a 15 0) : ∀ (d x m : Nat), x + d = 100 → d < m → fn_Md_release_49 (fn_Md_release_89 rec) m x1 x2 (nI v) (nI x) (ga_v (ga_c (ga_c b 9 f) 10 (ga_gh a i (100 * v + x)))) = rec x1 x2 (nI v + 1) (ga_v (ga_c (ga_c b 9 f) 10 (ga_gh a i (100 * v + 100)))) := by
  have h15 := h8.2.1
  intro d
  induction d with
  | zero =>
    intro x m hx hm
    obtain ⟨m, rfl⟩ := ga_su hm
    obtain rfl : x = 100 := by omega
    rw [fn_Md_release_49, if_pos (show (100 : Int32) ≤ nI 100 by decide), fn_Md_release_89]
  | succ d ih =>
    intro x m hx hm
    obtain ⟨m, rfl⟩ := ga_su hm
    have e1 : (100 : Int32) * nI v + 100 + nI x = nI (100 * v + x + 100) := by
      rw [show (100 : Int32) = nI 100 from rfl, pk_mul, nI_add, nI_add]; congr 1; omega
    have e2 : (100 : Int32) * nI v + nI x = nI (100 * v + x) := by rw [show (100 : Int32) = nI 100 from rfl, pk_mul, nI_add]
    have g1 : gj_in (nI (100 * v + x + 100)) 600 := nI_in (by omega) (by decide)
    have c1 : (nI (100 * v + x + 100)).toNatClampNeg = 100 * v + x + 100 := nI_clamp (by omega)
    have g2 : gj_in (nI (100 * v + x)) 600 := nI_in (by omega) (by decide)
    have c2 : (nI (100 * v + x)).toNatClampNeg = 100 * v + x := nI_clamp (by omega)
    have hval : ga_gh a i (100 * v + x) (100 * v + x + 100) = a 10 (100 * v + x + 100) := by unfold ga_gh; rw [if_neg (by omega)]
    have h01 := (h8.2.2.2.2 (v + 1) x (by omega) (by omega)).1
    rw [show 100 * (v + 1) + x = 100 * v + x + 100 by omega] at h01
    rw [fn_Md_release_49, if_neg (show ¬ (100 : Int32) ≤ nI x from nI_ge (b := 100) (by omega) (by decide))]
    simp only [e1, e2, if_pos g1, c1, if_pos g2, c2, ga_vr, ga_c1, hval, gm_nar h01, ga_vs, ga_cs, ga_gh_s (show 100 * i ≤ 100 * v + x by omega), nI_1]
    have := ih (x + 1) m (by omega) (by omega)
    rw [nI_1] at this
    exact this
theorem md_release_24 {n : Nat} {a b : ga_A} (h8 : ga_w8 n a) (b15 : b 15 0 = a 15 0 - 1) (x1 x2 : Int32) {i : Nat} (hi : i < a 15 0) : ∀ (d v m : Nat), v + d = a 15 0 - 1 → i ≤ v → d < m → fn_Md_release_24 m x1 x2 (nI v) (ga_v (ga_c (ga_c b 9 (ga_dn (a 9) i v)) 10 (ga_gh a i (100 * v)))) = fn_Md_release_100 gm_fu x1 x2 0 0 (ga_v (ga_c (ga_c b 9 (ga_dn (a 9) i (a 15 0 - 1))) 10 (ga_gh a i (100 * (a 15 0 - 1))))) := by
  have h15 := h8.2.1
  intro d
  induction d with
  | zero =>
    intro v m hv hiv hm
    obtain ⟨m, rfl⟩ := ga_su hm
    obtain rfl : v = a 15 0 - 1 := by omega
    rw [fn_Md_release_24, ga_vr, ga_c2 (by decide), ga_c2 (by decide), b15, if_pos (nI_le (Nat.le_refl _) (by omega))]
  | succ d ih =>
    intro v m hv hiv hm
    obtain ⟨m, rfl⟩ := ga_su hm
    have g1 : gj_in (nI (v + 1)) 6 := nI_in (by omega) (by decide)
    have c1 : (nI (v + 1)).toNatClampNeg = v + 1 := nI_clamp (by omega)
    have g0 : gj_in (nI v) 6 := nI_in (by omega) (by decide)
    have c0 : (nI v).toNatClampNeg = v := nI_clamp (by omega)
    rw [fn_Md_release_24, ga_vr, ga_c2 (by decide), ga_c2 (by decide), b15, if_neg (nI_ge (by omega) (by omega))]
    simp only [nI_1, if_pos g1, c1, if_pos g0, c0, ga_vr, ga_c2 (show (9 : Nat) ≠ 10 by decide), ga_c1, ga_vs, ga_cs2, ga_dn_s (a 9) hiv]
    have h := md_release_49 (b := b) h8 (ga_dn (a 9) i (v + 1)) (fn_Md_release_24 m) x1 x2 hiv (by omega) 100 0 gm_fu (by omega) (by decide)
    refine Eq.trans h ?_
    rw [nI_1, show 100 * v + 100 = 100 * (v + 1) by omega]
    exact ih (v + 1) m (by omega) (by omega) (by omega)
def ga_rel (a : ga_A) (i : Nat) : ga_A := ga_c (ga_c (ga_s a 15 0 (a 15 0 - 1)) 9 (ga_dn (a 9) i (a 15 0 - 1))) 10 (ga_gh a i (100 * (a 15 0 - 1)))
theorem ga_rel_c (a : ga_A) (i : Nat) : ∀ c, c ≠ 9 → c ≠ 10 → c ≠ 11 → c ≠ 14 → c ≠ 15 → ga_rel a i c = a c := by
  intro c h9 h10 _ _ h15
  funext k
  unfold ga_rel
  rw [ga_c2 h10, ga_c2 h9, ga_rc h15]
theorem ga_rel_14 (a : ga_A) (i : Nat) : ga_rel a i 14 0 = a 14 0 := by unfold ga_rel; rw [ga_c2 (by decide), ga_c2 (by decide), ga_rc (by decide)]
theorem ga_rel_15 (a : ga_A) (i : Nat) : ga_rel a i 15 0 = a 15 0 - 1 := by unfold ga_rel; rw [ga_c2 (by decide), ga_c2 (by decide), ga_r1]
def ga_io (i j : Nat) : Nat := if i ≤ j then j + 1 else j
theorem ga_rel_9 (a : ga_A) {i j : Nat} (hj : j < a 15 0 - 1) : ga_rel a i 9 j = a 9 (ga_io i j) := by
  unfold ga_rel
  rw [ga_c2 (by decide), ga_c1, ga_dn_at hj]
  rfl
theorem ga_rel_10 (a : ga_A) {i j t : Nat} (hj : j < a 15 0 - 1) (ht : t < 100) : ga_rel a i 10 (100 * j + t) = a 10 (100 * ga_io i j + t) := by
  unfold ga_rel ga_gh ga_io
  rw [ga_c1]
  by_cases h : i ≤ j
  · rw [if_pos (by omega), if_pos h]; congr 1; omega
  · rw [if_neg (by omega), if_neg h]
theorem ga_rel_w8 {n : Nat} {a : ga_A} (h8 : ga_w8 n a) {i : Nat} (hi : i < a 15 0) : ga_w8 n (ga_rel a i) := by
  obtain ⟨w1, w2, w3, w4, w5⟩ := h8
  have hio : ∀ j, j < a 15 0 - 1 → ga_io i j < a 15 0 := fun j hj => by unfold ga_io; split <;> omega
  unfold ga_w8
  rw [ga_rel_14, ga_rel_15, show ga_rel a i 2 = a 2 from ga_rel_c a i 2 (by decide) (by decide) (by decide) (by decide) (by decide)]
  refine ⟨w1, by omega, fun j hj => ?_, fun j k hjk hk => ?_, fun j t hj ht => ?_⟩
  · rw [ga_rel_9 a hj]; exact w3 _ (hio j hj)
  · rw [ga_rel_9 a (by omega), ga_rel_9 a hk]
    exact w4 _ _ (by unfold ga_io; split <;> split <;> omega) (hio k hk)
  · rw [ga_rel_10 a hj ht]; exact w5 _ t (hio j hj) ht
theorem op_release (v : Int32) : gs_op (fn_Bk_release v) (fn_Md_release v) := by
  intro n a u hn hW hR
  obtain ⟨hok, h2, h4, h7, h8⟩ := id hW
  obtain ⟨s, hS⟩ := hR.2.2.2.2.2
  have h15 := h8.2.1
  unfold fn_Bk_release fn_Md_release
  by_cases hv : ∃ i, i < a 15 0 ∧ nI (a 9 i) = v
  · obtain ⟨i, hi, rfl⟩ := hv
    have hsi := (hS.1 i hi).1
    have g : gj_in (nI (s i)) 6 := nI_in hsi (by decide)
    have c : (nI (s i)).toNatClampNeg = s i := nI_clamp (by omega)
    rw [bk_keptSlot_at hn h8 hS hi, md_keptAs hn h8 (Or.inl ⟨i, hi, rfl, rfl⟩), Option.bind_some, Option.bind_some, if_neg (fun q => absurd (show nI (s i) < 0 by rw [show nI (s i) = -1 from q]; decide) (nI_pos (by omega))), if_pos (nI_pos' (by omega))]
    simp only [if_pos g, c, ga_vr, show nI (a 15 0) - 1 = nI (a 15 0 - 1) from pk_sub (a := a 15 0) (b := 1) (by omega), ga_vs]
    -- the class clears the slot and its bits
    have e1 := bk_release_22 (u := gk_sI u 9 (s i) (-1)) h2 (fun k hk => by rw [gk_ic (by decide)]; exact hR.2.1 k hk) (q := s i) (nI (a 9 i)) 100 0 gk_fu (by omega) (by decide)
    have eclr0 : gb_clr a (gk_sI u 9 (s i) (-1)) (s i) 0 = (gk_sI u 9 (s i) (-1)).1 4 := by funext k; unfold gb_clr; rw [if_neg (by omega)]
    rw [eclr0, gk_c0'] at e1
    generalize hw : gk_c (gk_sI u 9 (s i) (-1)) 4 (gb_clr a (gk_sI u 9 (s i) (-1)) (s i) 100) = w at e1
    have w9 : ∀ q, w.1 9 q = if q = s i then -1 else u.1 9 q := fun q => by
      rw [← hw, gk_c2' (by decide)]
      by_cases h : q = s i
      · rw [if_pos h, h, gk_i1]
      · rw [if_neg h, gk_ik h]
    have w4 : ∀ t, t < 100 → a 2 t = 1 → ∀ r, r < 32 → bb_t (w.1 4 t) r = (bb_t (u.1 4 t) r && !decide (r = s i)) := fun t ht hp r hr => by
      rw [← hw, gk_cc1]
      unfold gb_clr
      rw [if_pos ⟨ht, hp⟩, gk_ic (by decide), bt_clr (by omega) hr]
    have wo : ∀ c k, c ≠ 4 → c ≠ 9 → c ≠ 10 → w.1 c k = u.1 c k := fun c k c4 c9 _ => by rw [← hw, gk_c2' c4, gk_ic c9]
    have w10 : w.1 10 0 = u.1 10 0 := by rw [← hw, gk_c2' (by decide), gk_ic (by decide)]
    have hio : ∀ j, j < a 15 0 - 1 → ga_io i j < a 15 0 := fun j hj => by unfold ga_io; split <;> omega
    have hion : ∀ j, ga_io i j ≠ i := fun j => by unfold ga_io; split <;> omega
    -- the reference moves its rows
    have e2 := md_release_24 (b := ga_s a 15 0 (a 15 0 - 1)) h8 (ga_r1 _ _ _ _) (nI (a 9 i)) (nI i) hi (a 15 0 - 1 - i) i gm_fu (by omega) (Nat.le_refl _) (by unfold gm_fu; omega)
    have egh0 : ga_gh a i (100 * i) = (ga_s a 15 0 (a 15 0 - 1)) 10 := by funext j; unfold ga_gh; rw [if_neg (by omega), ga_rc (by decide)]
    have edn0 : a 9 = (ga_s a 15 0 (a 15 0 - 1)) 9 := by funext j; rw [ga_rc (by decide)]
    have ebase : ga_c (ga_c (ga_s a 15 0 (a 15 0 - 1)) 9 (ga_dn (a 9) i i)) 10 (ga_gh a i (100 * i)) = ga_s a 15 0 (a 15 0 - 1) := by
      rw [ga_dn0, edn0, ga_c0, egh0, ga_c0]
    rw [ebase] at e2
    -- the state between
    have hWr : ga_W n (ga_rel a i) := by
      have h := ga_W_ver (n := n) hW (ga_rel_c a i) (by obtain ⟨y1, y2⟩ := ga_rel_w8 h8 hi; exact ⟨Nat.le_succ_of_le y1, y2⟩)
      obtain ⟨z1, z2, -, z4, -⟩ := h
      exact ⟨z1, z2, by rw [show ga_rel a i 4 = a 4 from ga_rel_c a i 4 (by decide) (by decide) (by decide) (by decide) (by decide)]; exact h4, z4, ga_rel_w8 h8 hi⟩
    have hRr : gb_R (ga_rel a i) w := by
      refine gb_R_ver hR (ga_rel_c a i) wo (by rw [← hw]; rfl) (by rw [w10, ga_rel_14]; exact hR.2.2.2.2.1) ⟨fun j => s (ga_io i j), ?_, ?_, ?_, ?_⟩
      · rw [ga_rel_15]
        intro j hj
        obtain ⟨s1, s2⟩ := hS.1 _ (hio j hj)
        refine ⟨s1, ?_⟩
        rw [w9, if_neg (fun z => hion j (hS.2.1 _ _ (hio j hj) hi z)), ga_rel_9 a hj]
        exact s2
      · rw [ga_rel_15]
        intro j k hj hk z
        have := hS.2.1 _ _ (hio j hj) (hio k hk) z
        unfold ga_io at this
        split at this <;> split at this <;> omega
      · rw [ga_rel_15]
        intro r hr hno
        rw [w9]
        by_cases hrs : r = s i
        · rw [if_pos hrs]
        · rw [if_neg hrs]
          refine hS.2.2.1 r hr (fun j hj z => ?_)
          have hji : j ≠ i := fun y => hrs (by rw [← z, y])
          have hb : (if j < i then j else j - 1) < a 15 0 - 1 := by split <;> omega
          refine hno _ hb ?_
          have : ga_io i (if j < i then j else j - 1) = j := by unfold ga_io; split <;> split <;> omega
          show s (ga_io i (if j < i then j else j - 1)) = r
          rw [this]
          exact z
      · rw [ga_rel_15, show ga_rel a i 2 = a 2 from ga_rel_c a i 2 (by decide) (by decide) (by decide) (by decide) (by decide)]
        intro t ht hp r hr
        rw [w4 t ht hp r hr, Bool.and_eq_true, hS.2.2.2 t ht hp r hr]
        constructor
        · rintro ⟨⟨j, j1, j2, j3⟩, hne⟩
          have hrs : r ≠ s i := by simpa using hne
          have hji : j ≠ i := fun y => hrs (by rw [← j2, y])
          have hb : (if j < i then j else j - 1) < a 15 0 - 1 := by split <;> omega
          have this : ga_io i (if j < i then j else j - 1) = j := by unfold ga_io; split <;> split <;> omega
          refine ⟨_, hb, ?_, ?_⟩
          · show s (ga_io i (if j < i then j else j - 1)) = r
            rw [this]; exact j2
          · rw [ga_rel_10 a hb ht, this]; exact j3
        · rintro ⟨j, j1, j2, j3⟩
          rw [ga_rel_10 a j1 ht] at j3
          refine ⟨⟨ga_io i j, hio j j1, j2, j3⟩, ?_⟩
          have : r ≠ s i := fun z => hion j (hS.2.1 _ _ (hio j j1) hi (j2.trans z))
          simpa using this
    -- what isn't needed goes
    obtain ⟨gg, gg0, gg1⟩ := md_release_100 (n := n) (by omega) hWr (nI (a 9 i)) (nI i) (ga_rel a i 12 0) 0 gm_fu (ga_rel a i 11) (by omega) (by have := hWr.1.1; unfold gm_fu; omega) (fun j hj => absurd hj (by omega))
    rw [ga_c0] at gg1
    have hWg := ga_11_W hWr gg
    have hRg := ga_11_R hRr gg
    have ecnt : (fun j => ga_lo (ga_c (ga_rel a i) 11 gg) (ga_c (ga_rel a i) 11 gg 7 j)) = fun j => ga_lo (ga_rel a i) (ga_rel a i 7 j) := by
      funext j
      unfold ga_lo
      simp only [ga_c2 (show (4 : Nat) ≠ 11 by decide), ga_c2 (show (15 : Nat) ≠ 11 by decide), ga_c2 (show (10 : Nat) ≠ 11 by decide), ga_c2 (show (7 : Nat) ≠ 11 by decide)]
    have h12r : ga_c (ga_rel a i) 11 gg 12 0 = ga_rel a i 12 0 := ga_c2 (by decide)
    obtain ⟨u', b', f1, f2, f3, f4⟩ := both_go (n := n) (a := ga_c (ga_rel a i) 11 gg) (by omega) hWg.1 (nI (a 9 i)) (nI i) rfl (by rw [ecnt, h12r]; intro j hj hl; rw [ga_c1, ga_c2 (by decide)]; exact gg0 j hj (by have := congrFun ecnt j; rw [← this]; exact hl)) (ga_c (ga_rel a i) 11 gg 12 0) 0 gk_fu gm_fu (ga_c (ga_rel a i) 11 gg) w (by omega) (by have := hWg.1.1; unfold gk_fu; omega) (by have := hWg.1.1; unfold gm_fu; omega) hWg hRg rfl rfl rfl rfl (Nat.sub_zero _).symm (fun j hj => rfl)
    rw [ecnt, h12r] at f1 f2
    refine ⟨nI (gn_cnt (fun j => ga_lo (ga_rel a i) (ga_rel a i 7 j)) (ga_rel a i 12 0)), u', b', ?_, ?_, f3.up, f4⟩
    · rw [show fn_Bk_release_22 gk_fu (nI (a 9 i)) (nI (s i)) 0 (gk_sI u 9 (s i) (-1)) = _ from e1]
      unfold fn_Bk_takeOutUnneeded
      rw [hRg.1.1, h12r, show fn_Bk_takeOutUnneeded_12 gk_fu (nI (ga_rel a i 12 0)) 0 0 w = _ from f1]
      rfl
    · rw [e2]
      show fn_Md_release_100 gm_fu (nI (a 9 i)) (nI i) 0 0 (ga_v (ga_rel a i)) = _
      rw [show fn_Md_release_100 gm_fu (nI (a 9 i)) (nI i) 0 0 (ga_v (ga_rel a i)) = _ from gg1]
      exact f2
  · have hv' : ∀ i, i < a 15 0 → nI (a 9 i) ≠ v := fun i hi e => hv ⟨i, hi, e⟩
    rw [bk_keptSlot_no (n := n) hS hv', md_keptAs hn h8 (Or.inr ⟨hv', rfl⟩)]
    exact ⟨-1, u, a, rfl, rfl, hW.up, hR⟩
