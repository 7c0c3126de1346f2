/-! uses; what is needed; drop -/
theorem ga_us_W {n m : Nat} {a : ga_A} (hW : ga_W n a) (hm : n ≤ m) {k x : Nat} (hx : x ≤ m) : ga_W m (ga_s a 4 k x) := by
  have e : ∀ c, c ≠ 4 → ga_s a 4 k x c = a c := fun c h => by funext j; exact ga_rc h
  have eT : ∀ k', ga_T (ga_s a 4 k x) k' = ga_T a k' := fun k' => by unfold ga_T; rw [e 5 (by decide), e 6 (by decide)]
  have eK : ∀ k', ga_K (ga_s a 4 k x) k' = ga_K a k' := fun k' => by unfold ga_K; rw [eT, e 3 (by decide)]
  obtain ⟨h1, h2, h3, h4, h5⟩ := hW
  refine ⟨?_, ?_, ?_, ?_, ?_⟩
  · unfold ga_ok at *
    simp only [eK, e 0 (by decide), e 1 (by decide), e 3 (by decide), e 5 (by decide), e 6 (by decide), e 7 (by decide), e 12 (by decide)]
    exact h1
  · unfold ga_w2 at *
    simp only [e 2 (by decide), e 7 (by decide), e 12 (by decide)]
    exact h2
  · intro j hj
    by_cases q : j = k
    · rw [q, ga_r1]; exact hx
    · rw [ga_rk q]; exact Nat.le_trans (h3 j hj) hm
  · unfold ga_w7 at *
    rw [e 8 (by decide), e 12 (by decide), e 13 (by decide)]
    exact h4
  · obtain ⟨w1, w2⟩ := h5
    unfold ga_w8
    rw [e 14 (by decide), e 15 (by decide), e 9 (by decide), e 10 (by decide), e 2 (by decide)]
    exact ⟨Nat.le_trans w1 hm, w2⟩
theorem ga_us_R {a : ga_A} {u : gk_St} (hR : gb_R a u) (k x : Nat) : gb_R (ga_s a 4 k x) (gk_sI u 3 k (nI x)) := by
  have e : ∀ c, c ≠ 4 → ga_s a 4 k x c = a c := fun c h => by funext j; exact ga_rc h
  have eT : ∀ k', ga_T (ga_s a 4 k x) k' = ga_T a k' := fun k' => by unfold ga_T; rw [e 5 (by decide), e 6 (by decide)]
  have eP : ga_P (ga_s a 4 k x) = ga_P a := by unfold ga_P; rw [e 0 (by decide), e 1 (by decide)]
  have hu : ∀ c j, c ≠ 3 → (gk_sI u 3 k (nI x)).1 c j = u.1 c j := fun c j h => gk_ic h
  obtain ⟨⟨r1, r2, r3, r4, r5⟩, r6, r7, r8, r9, s, s1, s2, s3, s4⟩ := hR
  refine ⟨?_, ?_, ?_, ?_, ?_, s, ?_, ?_, ?_, ?_⟩
  · unfold gb_r1
    rw [e 12 (by decide), e 13 (by decide), e 7 (by decide), e 8 (by decide)]
    simp only [hu 6 _ (by decide), hu 5 _ (by decide), hu 8 _ (by decide), hu 7 _ (by decide)]
    exact ⟨r1, r2, r3, r4, r5⟩
  · rw [e 2 (by decide)]; intro j hj; rw [hu 1 _ (by decide)]; exact r6 j hj
  · rw [eP, e 0 (by decide)]
    unfold gb_T at *
    rw [hu 0 _ (by decide), gk_i3]
    exact r7
  · intro j hj hp
    rw [e 2 (by decide)] at hp
    obtain ⟨g1, g2, g3⟩ := r8 j hj hp
    rw [eT, e 3 (by decide), e 5 (by decide), hu 2 _ (by decide)]
    refine ⟨g1, ?_, ?_⟩
    · by_cases q : j = k
      · rw [q, gk_i1, ga_r1]
      · rw [gk_ik q, ga_rk q]; exact g2
    · unfold gb_T at *
      rw [hu 0 _ (by decide), gk_i3]
      exact g3
  · rw [hu 10 _ (by decide), e 14 (by decide)]; exact r9
  · rw [e 15 (by decide), e 9 (by decide)]; intro i hi; rw [hu 9 _ (by decide)]; exact s1 i hi
  · rw [e 15 (by decide)]; exact s2
  · rw [e 15 (by decide)]; intro q hq h; rw [hu 9 _ (by decide)]; exact s3 q hq h
  · rw [e 15 (by decide), e 10 (by decide), e 2 (by decide)]; intro t ht hp q hq; rw [hu 4 _ (by decide)]; exact s4 t ht hp q hq
/-- no uses, and no kept version has it -/
def ga_loose (a : ga_A) (k : Nat) : Prop := a 4 k = 0 ∧ ∀ i, i < a 15 0 → a 10 (100 * i + k) ≠ 1
theorem gb_keep0 {a : ga_A} {u : gk_St} {s : Nat → Nat} (hS : gb_S a u s) {k : Nat} (hk : k < 100) (hp : a 2 k = 1) : u.1 4 k = 0 ↔ ∀ i, i < a 15 0 → a 10 (100 * i + k) ≠ 1 := by
  have h4 := hS.2.2.2 k hk hp
  constructor
  · intro h i hi q
    have := (h4 (s i) (by have := (hS.1 i hi).1; omega)).mpr ⟨i, hi, rfl, q⟩
    rw [h, bb_0] at this
    cases this
  · intro h
    refine bb_ext (fun r hr => ?_)
    rw [bb_0]
    cases hh : bb_t (u.1 4 k) r
    · rfl
    · obtain ⟨i, i1, -, i3⟩ := (h4 r hr).mp hh
      exact absurd i3 (h i i1)
theorem bk_isNeeded {n : Nat} {a : ga_A} {u : gk_St} (hn : n < 600) (h4 : ∀ k, k < 100 → a 4 k ≤ n) (hR : gb_R a u) {k : Nat} (hk : k < 100) (hp : a 2 k = 1) : ∃ r, fn_Tm_isNeeded k u = some (r, u) ∧ (ga_loose a k → r = 0) ∧ (¬ ga_loose a k → r = 1) := by
  obtain ⟨-, r3, -⟩ := hR.2.2.2.1 k hk hp
  obtain ⟨s, hS⟩ := hR.2.2.2.2.2
  have h4k := h4 k hk
  unfold fn_Tm_isNeeded
  rw [r3]
  by_cases h0 : a 4 k = 0
  · rw [if_neg (show ¬ (0 : Int32) < nI (a 4 k) by rw [h0]; decide)]
    by_cases hz : u.1 4 k = 0
    · rw [if_pos hz]
      exact ⟨0, rfl, fun _ => rfl, fun q => absurd ⟨h0, (gb_keep0 hS hk hp).mp hz⟩ q⟩
    · rw [if_neg hz]
      exact ⟨1, rfl, fun q => absurd ((gb_keep0 hS hk hp).mpr q.2) hz, fun _ => rfl⟩
  · rw [if_pos (show (0 : Int32) < nI (a 4 k) from nI_lt (a := 0) (by omega) (by omega))]
    exact ⟨1, rfl, fun q => absurd q.1 h0, fun _ => rfl⟩
theorem md_isLoose_z {a : ga_A} (h15 : a 15 0 ≤ 6) (q : Int32) : ∀ (d x m : Nat), x + d = a 15 0 → d < m → fn_Md_isLoose_17 m q 0 (nI x) (ga_v a) = some (0, ga_v a) := by
  intro d
  induction d with
  | zero =>
    intro x m hx hm
    obtain ⟨m, rfl⟩ := ga_su hm
    rw [fn_Md_isLoose_17, ga_vr, if_pos (nI_le (by omega) (by omega)), if_pos (Or.inl rfl)]
  | succ d ih =>
    intro x m hx hm
    obtain ⟨m, rfl⟩ := ga_su hm
    rw [fn_Md_isLoose_17, ga_vr, if_neg (nI_ge (by omega) (by omega)), if_pos rfl, nI_1]
    exact ih (x + 1) m (by omega) (by omega)
theorem md_isLoose_1 {n : Nat} {a : ga_A} (h8 : ga_w8 n a) {k : Nat} (hk : k < 100) : ∀ (d x m : Nat), x + d = a 15 0 → d < m → ∃ r, fn_Md_isLoose_17 m (nI k) 1 (nI x) (ga_v a) = some (r, ga_v a) ∧ ((∀ i, x ≤ i → i < a 15 0 → a 10 (100 * i + k) ≠ 1) → r = 1) ∧ ((¬ ∀ i, x ≤ i → i < a 15 0 → a 10 (100 * i + k) ≠ 1) → r = 0) := by
  have h15 := h8.2.1
  intro d
  induction d with
  | zero =>
    intro x m hx hm
    obtain ⟨m, rfl⟩ := ga_su hm
    refine ⟨1, by rw [fn_Md_isLoose_17, ga_vr, if_pos (nI_le (by omega) (by omega)), if_pos (Or.inr rfl)], fun _ => rfl, fun q => absurd (fun i a1 a2 => absurd a2 (by omega)) q⟩
  | succ d ih =>
    intro x m hx hm
    obtain ⟨m, rfl⟩ := ga_su hm
    rw [fn_Md_isLoose_17, ga_vr, if_neg (nI_ge (by omega) (by omega)), if_neg (by decide), md_isKeptBy h8 (by omega) hk, Option.bind_some, nI_1]
    rcases (h8.2.2.2.2 x k (by omega) hk).1 with h | h
    · rw [h]
      obtain ⟨r, r0, r1, r2⟩ := ih (x + 1) m (by omega) (by omega)
      refine ⟨r, r0, fun q => r1 (fun i a1 a2 => q i (by omega) a2), fun q => r2 (fun z => q (fun i a1 a2 => ?_))⟩
      rcases Nat.lt_or_ge x i with s | s
      · exact z i s a2
      · rw [show i = x by omega, h]; decide
    · rw [h]
      refine ⟨0, md_isLoose_z h15 _ d (x + 1) m (by omega) (by omega), fun q => absurd h (q x (Nat.le_refl _) (by omega)), fun _ => rfl⟩
theorem md_isLoose {n : Nat} {a : ga_A} (hn : n < 600) (h4 : ∀ k, k < 100 → a 4 k ≤ n) (h8 : ga_w8 n a) {k : Nat} (hk : k < 100) : ∃ r, fn_Md_isLoose (nI k) (ga_v a) = some (r, ga_v a) ∧ (ga_loose a k → r = 1) ∧ (¬ ga_loose a k → r = 0) := by
  have h15 := h8.2.1
  have h4k := h4 k hk
  have g : gj_in (nI k) 100 := nI_in hk (by decide)
  have c : (nI k).toNatClampNeg = k := nI_clamp (by omega)
  unfold fn_Md_isLoose
  simp only [if_pos g, c, ga_vr]
  by_cases h0 : a 4 k = 0
  · rw [if_pos (show nI (a 4 k) = 0 by rw [h0]; rfl)]
    obtain ⟨r, r0, r1, r2⟩ := md_isLoose_1 h8 hk (a 15 0) 0 gm_fu (by omega) (by unfold gm_fu; omega)
    exact ⟨r, r0, fun q => r1 (fun i _ a2 => q.2 i a2), fun q => r2 (fun z => q ⟨h0, fun i hi => z i (Nat.zero_le _) hi⟩)⟩
  · rw [if_neg (nI_ne0 (by omega) (by omega))]
    exact ⟨0, md_isLoose_z h15 _ (a 15 0) 0 gm_fu (by omega) (by unfold gm_fu; omega), fun q => absurd q.1 h0, fun _ => rfl⟩
/-- the reference lets the term at a place go -/
theorem md_goW {n : Nat} {a : ga_A} (hW : ga_W n a) {p l : Nat} (hp : p < a 12 0) (hlf : ga_leaf (a 8) (a 13 0) p l) (hpl : p < ga_pre (a 8) (l + 1)) : fn_Md_go (nI (a 7 p)) (ga_v a) = some (ga_v (ga_go a p l)) := by
  obtain ⟨hok, -, -, h7, -⟩ := hW
  have h12 := hok.1
  have := ga_lv_le h7
  exact md_go a h12 hp hok.2.2.1 (fun j hj e => ga_inj hok hj hp e) hlf hpl (by omega) (h7.2 l hlf.1).1 (fun j hj => (h7.2 j hj).2) (by rw [h7.1]; omega)
theorem op_drop (p : Int32) : gs_op (fn_Bk_drop p) (fn_Md_drop p) := by
  intro n a u hn hW hR
  obtain ⟨hok, h2, h4, h7, h8⟩ := id hW
  unfold fn_Bk_drop fn_Md_drop
  rcases ga_ix p (m := 100) (by decide) with h | ⟨k, hk, rfl⟩
  · refine ⟨-1, u, a, ?_, ?_, hW.up, hR⟩
    · rw [bk_inBook_o h]; rfl
    · rw [md_isTerm_o _ h, Option.bind_some, if_pos rfl]
  · rw [bk_inK h2 hR hk, md_isTerm h2 hk]
    have g : gj_in (nI k) 100 := nI_in hk (by decide)
    have c : (nI k).toNatClampNeg = k := nI_clamp (by omega)
    have h4k := h4 k hk
    rcases h2.1 k hk with h | h
    · refine ⟨-1, u, a, ?_, ?_, hW.up, hR⟩
      · rw [if_neg (by omega)]; rfl
      · rw [h]; rfl
    · obtain ⟨-, r3, -⟩ := hR.2.2.2.1 k hk h
      rw [if_pos h, h, Option.bind_some, Option.bind_some, if_neg (show ¬ nI 1 = 0 by decide)]
      simp only [if_pos g, c, ga_vr, r3]
      by_cases h0 : a 4 k = 0
      · rw [if_pos (show nI (a 4 k) = 0 by rw [h0]; rfl), if_pos (show nI (a 4 k) = 0 by rw [h0]; rfl)]
        exact ⟨-1, u, a, rfl, rfl, hW.up, hR⟩
      · rw [if_neg (nI_ne0 (by omega) (by omega)), if_neg (nI_ne0 (by omega) (by omega)), show nI (a 4 k) - 1 = nI (a 4 k - 1) from pk_sub (a := a 4 k) (b := 1) (by omega), ga_vs, ga_vr, ga_r1]
        have hW1 := ga_us_W (k := k) (x := a 4 k - 1) hW (Nat.le_succ n) (by omega)
        have hR1 := ga_us_R hR k (a 4 k - 1)
        generalize ha1 : ga_s a 4 k (a 4 k - 1) = a1 at hW1 hR1
        generalize hu1 : gk_sI u 3 k (nI (a 4 k - 1)) = u1 at hR1
        have p1 : a1 2 k = 1 := by rw [← ha1, ga_rc (by decide)]; exact h
        have u13 : u1.1 3 k = nI (a 4 k - 1) := by rw [← hu1, gk_i1]
        obtain ⟨hok1, h21, h41, h71, h81⟩ := id hW1
        obtain ⟨r, e0, e1, e2⟩ := bk_isNeeded (by omega) h41 hR1 hk p1
        obtain ⟨r', f0, f1, f2⟩ := md_isLoose (by omega) h41 h81 hk
        rw [e0, f0, Option.bind_some, Option.bind_some]
        by_cases hl : ga_loose a1 k
        · rw [e1 hl, f1 hl, if_pos rfl, if_neg (show ¬ (1 : Int32) = 0 by decide)]
          obtain ⟨j, hj, ej⟩ := h21.2.2 k hk p1
          obtain ⟨l, hlf, hpl⟩ := ga_leaf_in (n := n) h71 hj
          obtain ⟨u', t0, t1, t2⟩ := ga_go_R hW1 hR1 hj hlf
          refine ⟨nI (a 4 k - 1), u', ga_go a1 j l, ?_, ?_, ga_go_W hW1 hj hlf (fun i hi => by rw [ej]; exact hl.2 i hi), t1⟩
          · show (fn_Lv_placeOf (nI k) u1).bind _ = _
            rw [bk_placeOf hR1.1.1 hok1.1 hR1.1.2.1 hok1.2.2.1 hk hj ej (fun i hi q => by have := ga_inj hok1 (by omega) hj (q.trans ej.symm); omega), Option.bind_some]
            rw [ej] at t0
            show (fn_Bk_takeOut k (nI j) u1).bind _ = _
            rw [t0, Option.bind_some, t2 k, u13]
          · show (fn_Md_go (nI k) (ga_v a1)).bind _ = _
            rw [← ej, md_goW hW1 hj hlf hpl]
            rfl
        · rw [e2 hl, f2 hl, if_neg (show ¬ (1 : Int32) = 0 by decide), if_pos rfl]
          exact ⟨nI (a 4 k - 1), u1, a1, by rw [u13], rfl, hW1, hR1⟩
