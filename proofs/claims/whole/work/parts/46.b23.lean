/-! what isn't needed goes, in the order -/
def ga_lo (a : ga_A) (k : Nat) : Bool := decide (a 4 k = 0 ∧ ∀ i, i < a 15 0 → a 10 (100 * i + k) ≠ 1)
theorem ga_lo_iff {a : ga_A} {k : Nat} : ga_lo a k = true ↔ ga_loose a k := by unfold ga_lo ga_loose; exact decide_eq_true_iff
/-- the state with another row 11 -/
theorem ga_11_W {n : Nat} {a : ga_A} (hW : ga_W n a) (f : Nat → Nat) : ga_W n (ga_c a 11 f) := by
  have e : ∀ c, c ≠ 11 → ga_c a 11 f c = a c := fun c h => by funext j; exact ga_c2 h
  have eT : ∀ k', ga_T (ga_c a 11 f) k' = ga_T a k' := fun k' => by unfold ga_T; rw [e 5 (by decide), e 6 (by decide)]
  have eK : ∀ k', ga_K (ga_c a 11 f) k' = ga_K a k' := fun k' => by unfold ga_K; rw [eT, e 3 (by decide)]
  unfold ga_W ga_ok ga_w2 ga_w7 ga_w8 at *
  simp only [eK, e 0 (by decide), e 1 (by decide), e 2 (by decide), e 3 (by decide), e 4 (by decide), e 5 (by decide), e 6 (by decide), e 7 (by decide), e 8 (by decide), e 9 (by decide), e 10 (by decide), e 12 (by decide), e 13 (by decide), e 14 (by decide), e 15 (by decide)]
  exact hW
theorem ga_11_R {a : ga_A} {u : gk_St} (hR : gb_R a u) (f : Nat → Nat) : gb_R (ga_c a 11 f) u := by
  have e : ∀ c, c ≠ 11 → ga_c a 11 f c = a c := fun c h => by funext j; exact ga_c2 h
  have eT : ∀ k', ga_T (ga_c a 11 f) k' = ga_T a k' := fun k' => by unfold ga_T; rw [e 5 (by decide), e 6 (by decide)]
  have eP : ga_P (ga_c a 11 f) = ga_P a := by unfold ga_P; rw [e 0 (by decide), e 1 (by decide)]
  unfold gb_R gb_r1 gb_r4 gb_S at *
  simp only [eT, eP, e 0 (by decide), e 2 (by decide), e 3 (by decide), e 4 (by decide), e 5 (by decide), e 7 (by decide), e 8 (by decide), e 9 (by decide), e 10 (by decide), e 12 (by decide), e 13 (by decide), e 14 (by decide), e 15 (by decide)]
  exact hR
theorem gn_mono (P : Nat → Bool) {i : Nat} : ∀ {j : Nat}, i ≤ j → gn_cnt P i ≤ gn_cnt P j := by
  intro j h
  induction j with
  | zero => rw [show i = 0 by omega]; exact Nat.le_refl _
  | succ j ih =>
    rcases Nat.lt_succ_iff_lt_or_eq.mp (Nat.lt_succ_of_le h) with q | rfl
    · exact Nat.le_trans (ih (by omega)) (Nat.le_add_right _ _)
    · exact Nat.le_refl _
theorem gn_lt {P : Nat → Bool} {i j : Nat} (hi : P i = true) (hj : i < j) : gn_cnt P i < gn_cnt P j := by
  have h1 : gn_cnt P (i + 1) = gn_cnt P i + 1 := by show gn_cnt P i + _ = _; rw [hi]; rfl
  have h2 := gn_mono P (i := i + 1) (j := j) hj
  omega
/-- the reference notes who goes -/
theorem md_release_100 {n : Nat} {a : ga_A} (hn : n < 600) (hW : ga_W n a) (x1 x2 : Int32) : ∀ (d x m : Nat) (f : Nat → Nat), x + d = a 12 0 → d < m → (∀ i, i < x → ga_lo a (a 7 i) = true → f (gn_cnt (fun i => ga_lo a (a 7 i)) i) = a 7 i) →
    ∃ g : Nat → Nat, (∀ i, i < a 12 0 → ga_lo a (a 7 i) = true → g (gn_cnt (fun i => ga_lo a (a 7 i)) i) = a 7 i) ∧ fn_Md_release_100 m x1 x2 (nI (gn_cnt (fun i => ga_lo a (a 7 i)) x)) (nI x) (ga_v (ga_c a 11 f)) = fn_Md_release_148 gm_fu x1 x2 (nI (gn_cnt (fun i => ga_lo a (a 7 i)) (a 12 0))) 0 (ga_v (ga_c a 11 g)) := by
  have h12 := hW.1.1
  intro d
  induction d with
  | zero =>
    intro x m f hx hm hf
    obtain ⟨m, rfl⟩ := ga_su hm
    obtain rfl : x = a 12 0 := by omega
    refine ⟨f, hf, ?_⟩
    rw [fn_Md_release_100, ga_vr, ga_c2 (by decide), if_pos (nI_le (Nat.le_refl _) (by omega))]
  | succ d ih =>
    intro x m f hx hm hf
    obtain ⟨m, rfl⟩ := ga_su hm
    have hc : gn_cnt (fun i => ga_lo a (a 7 i)) (x + 1) = gn_cnt (fun i => ga_lo a (a 7 i)) x + (if ga_lo a (a 7 x) = true then 1 else 0) := rfl
    have hcx := gn_le (fun i => ga_lo a (a 7 i)) x
    have h7 := hW.1.2.2.1 x (by omega)
    have hW' := ga_11_W hW f
    obtain ⟨-, -, h4', -, h8'⟩ := hW'
    have hlo : ga_loose (ga_c a 11 f) (a 7 x) ↔ ga_lo a (a 7 x) = true := by
      rw [ga_lo_iff]; unfold ga_loose; rw [ga_c2 (by decide), ga_c2 (by decide)]
      exact ⟨fun q => ⟨q.1, fun i hi => by have := q.2 i hi; rw [ga_c2 (by decide)] at this; exact this⟩, fun q => ⟨q.1, fun i hi => by rw [ga_c2 (by decide)]; exact q.2 i hi⟩⟩
    obtain ⟨r, r0, r1, r2⟩ := md_isLoose hn h4' h8' h7
    have gx : gj_in (nI x) 101 := nI_in (by omega) (by decide)
    have cx : (nI x).toNatClampNeg = x := nI_clamp (by omega)
    have gy : gj_in (nI (gn_cnt (fun i => ga_lo a (a 7 i)) x)) 100 := nI_in (by omega) (by decide)
    have cy : (nI (gn_cnt (fun i => ga_lo a (a 7 i)) x)).toNatClampNeg = gn_cnt (fun i => ga_lo a (a 7 i)) x := nI_clamp (by omega)
    rw [fn_Md_release_100, ga_vr, ga_c2 (by decide), if_neg (nI_ge (by omega) (by omega))]
    simp only [if_pos gx, cx, ga_vr, ga_c2 (show (7 : Nat) ≠ 11 by decide), r0, Option.bind_some, if_pos gy, cy, nI_1, ga_vs, ga_cs]
    by_cases hl : ga_lo a (a 7 x) = true
    · rw [r1 (hlo.mpr hl), if_neg (show ¬ (1 : Int32) = 0 by decide)]
      rw [if_pos hl] at hc
      obtain ⟨g, g0, g1⟩ := ih (x + 1) m (fun j => if j = gn_cnt (fun i => ga_lo a (a 7 i)) x then a 7 x else f j) (by omega) (by omega) (fun i hi hli => by
        rcases Nat.lt_succ_iff_lt_or_eq.mp hi with q | q
        · rw [if_neg (by have := gn_lt (P := fun i => ga_lo a (a 7 i)) (i := i) (j := x) hli q; omega)]; exact hf i q hli
        · rw [q, if_pos rfl])
      rw [hc] at g1
      exact ⟨g, g0, g1⟩
    · rw [r2 (fun q => hl (hlo.mp q)), if_pos rfl]
      rw [if_neg hl] at hc
      obtain ⟨g, g0, g1⟩ := ih (x + 1) m f (by omega) (by omega) (fun i hi hli => by
        rcases Nat.lt_succ_iff_lt_or_eq.mp hi with q | q
        · exact hf i q hli
        · rw [q] at hli; exact absurd hli hl)
      rw [hc, Nat.add_zero] at g1
      exact ⟨g, g0, g1⟩
/-- both let them go -/
theorem both_go {n : Nat} {a : ga_A} (hn : n < 600) (hok : ga_ok a) (x1 x2 : Int32) {M : Nat} (hM : M = gn_cnt (fun i => ga_lo a (a 7 i)) (a 12 0)) (hg : ∀ i, i < a 12 0 → ga_lo a (a 7 i) = true → a 11 (gn_cnt (fun i => ga_lo a (a 7 i)) i) = a 7 i) :
    ∀ (d i m1 m2 : Nat) (b : ga_A) (u : gk_St), i + d = a 12 0 → d < m1 → d < m2 → ga_W n b → gb_R b u → b 4 = a 4 → b 10 = a 10 → b 15 = a 15 → b 11 = a 11 → b 12 0 = a 12 0 - gn_cnt (fun i => ga_lo a (a 7 i)) i → (∀ j, j < a 12 0 - i → b 7 (i - gn_cnt (fun i => ga_lo a (a 7 i)) i + j) = a 7 (i + j)) →
    ∃ (u' : gk_St) (b' : ga_A), fn_Bk_takeOutUnneeded_12 m1 (nI (a 12 0)) (nI (i - gn_cnt (fun i => ga_lo a (a 7 i)) i)) (nI i) u = some (nI M, u') ∧ fn_Md_release_148 m2 x1 x2 (nI M) (nI (gn_cnt (fun i => ga_lo a (a 7 i)) i)) (ga_v b) = some (nI M, ga_v b') ∧ ga_W n b' ∧ gb_R b' u' := by
  have h12 := hok.1
  intro d
  induction d with
  | zero =>
    intro i m1 m2 b u hi h1 h2 hW hR b4 b10 b15 b11 b12 b7
    obtain ⟨m1, rfl⟩ := ga_su h1
    obtain ⟨m2, rfl⟩ := ga_su h2
    obtain rfl : i = a 12 0 := by omega
    have hle := gn_le (fun i => ga_lo a (a 7 i)) (a 12 0)
    refine ⟨u, b, ?_, ?_, hW, hR⟩
    · rw [fn_Bk_takeOutUnneeded_12, if_pos (nI_le (Nat.le_refl _) (by omega)), hR.1.1, b12, pk_sub (by omega), hM, show a 12 0 - (a 12 0 - gn_cnt (fun i => ga_lo a (a 7 i)) (a 12 0)) = gn_cnt (fun i => ga_lo a (a 7 i)) (a 12 0) by omega]
    · rw [fn_Md_release_148, if_pos (nI_le (by omega) (by omega))]
  | succ d ih =>
    intro i m1 m2 b u hi h1 h2 hW hR b4 b10 b15 b11 b12 b7
    obtain ⟨m1, rfl⟩ := ga_su h1
    have hle := gn_le (fun i => ga_lo a (a 7 i)) i
    have hc : gn_cnt (fun i => ga_lo a (a 7 i)) (i + 1) = gn_cnt (fun i => ga_lo a (a 7 i)) i + (if ga_lo a (a 7 i) = true then 1 else 0) := rfl
    obtain ⟨hokb, h2b, h4b, h7b, h8b⟩ := id hW
    have hpl : i - gn_cnt (fun i => ga_lo a (a 7 i)) i < b 12 0 := by omega
    have e7 : b 7 (i - gn_cnt (fun i => ga_lo a (a 7 i)) i) = a 7 i := by have := b7 0 (by omega); rw [Nat.add_zero, Nat.add_zero] at this; exact this
    have h7 := hok.2.2.1 i (by omega)
    have hp : b 2 (a 7 i) = 1 := by rw [← e7]; exact h2b.2.1 _ hpl
    have hlo : ga_loose b (a 7 i) ↔ ga_lo a (a 7 i) = true := by rw [ga_lo_iff]; unfold ga_loose; rw [b4, b10, b15]
    obtain ⟨r, r0, r1, r2⟩ := bk_isNeeded hn h4b hR h7 hp
    rw [fn_Bk_takeOutUnneeded_12, if_neg (nI_ge (by omega) (by omega)), bk_numberAt hR.1.1 hokb.1 hpl, Option.bind_some, hR.1.2.1 _ hpl, e7]
    simp only [bk_inK h2b hR h7, if_pos hp, Option.bind_some, r0, nI_1]
    by_cases hl : ga_lo a (a 7 i) = true
    · rw [if_pos hl] at hc
      rw [r1 (hlo.mpr hl), if_pos rfl]
      obtain ⟨l, hlf, hpre⟩ := ga_leaf_in (n := n) h7b hpl
      obtain ⟨u1, t0, t1, -⟩ := ga_go_R hW hR hpl hlf
      have hno : ∀ j, j < b 15 0 → b 10 (100 * j + b 7 (i - gn_cnt (fun i => ga_lo a (a 7 i)) i)) ≠ 1 := by rw [e7]; exact (hlo.mpr hl).2
      have hW1 := ga_go_W hW hpl hlf hno
      have hlt : gn_cnt (fun i => ga_lo a (a 7 i)) i < M := by rw [hM]; exact gn_lt (P := fun i => ga_lo a (a 7 i)) hl (by omega)
      have hMle := gn_le (fun i => ga_lo a (a 7 i)) (a 12 0)
      obtain ⟨m2, rfl⟩ := ga_su h2
      have ec := ga_go_c b (i - gn_cnt (fun i => ga_lo a (a 7 i)) i) l
      have gy : gj_in (nI (gn_cnt (fun i => ga_lo a (a 7 i)) i)) 100 := nI_in (by omega) (by decide)
      have cy : (nI (gn_cnt (fun i => ga_lo a (a 7 i)) i)).toNatClampNeg = gn_cnt (fun i => ga_lo a (a 7 i)) i := nI_clamp (by omega)
      obtain ⟨u', b', f1, f2, f3, f4⟩ := ih (i + 1) m1 m2 (ga_go b (i - gn_cnt (fun i => ga_lo a (a 7 i)) i) l) u1 (by omega) (by omega) (by omega) hW1 t1 (by rw [ec 4 (by decide) (by decide) (by decide) (by decide) (by decide)]; exact b4) (by rw [ec 10 (by decide) (by decide) (by decide) (by decide) (by decide)]; exact b10) (by rw [ec 15 (by decide) (by decide) (by decide) (by decide) (by decide)]; exact b15) (by rw [ec 11 (by decide) (by decide) (by decide) (by decide) (by decide)]; exact b11) (by rw [ga_go_12, b12, hc]; omega) (fun j hj => by
        rw [ga_go_7, hc, show i + 1 - (gn_cnt (fun i => ga_lo a (a 7 i)) i + 1) = i - gn_cnt (fun i => ga_lo a (a 7 i)) i by omega, ga_dn_at (by omega), if_pos (by omega)]
        have := b7 (j + 1) (by omega)
        rw [show i - gn_cnt (fun i => ga_lo a (a 7 i)) i + (j + 1) = i - gn_cnt (fun i => ga_lo a (a 7 i)) i + j + 1 by omega, show i + (j + 1) = i + 1 + j by omega] at this
        exact this)
      rw [hc, show i + 1 - (gn_cnt (fun i => ga_lo a (a 7 i)) i + 1) = i - gn_cnt (fun i => ga_lo a (a 7 i)) i by omega] at f1
      rw [hc] at f2
      refine ⟨u', b', ?_, ?_, f3, f4⟩
      · rw [e7] at t0
        rw [t0, Option.bind_some]
        exact f1
      · rw [fn_Md_release_148, if_neg (nI_ge hlt (by omega))]
        simp only [if_pos gy, cy, ga_vr, nI_1]
        rw [b11, hg i (by omega) hl, ← e7, md_goW hW hpl hlf hpre, Option.bind_some]
        exact f2
    · rw [if_neg hl] at hc
      rw [r2 (fun q => hl (hlo.mp q)), if_neg (show ¬ (1 : Int32) = 0 by decide)]
      obtain ⟨u', b', f1, f2, f3, f4⟩ := ih (i + 1) m1 m2 b u (by omega) (by omega) (by omega) hW hR b4 b10 b15 b11 (by rw [b12, hc]; omega) (fun j hj => by
        have := b7 (j + 1) (by omega)
        rw [hc, show i + 1 - (gn_cnt (fun i => ga_lo a (a 7 i)) i + 0) + j = i - gn_cnt (fun i => ga_lo a (a 7 i)) i + (j + 1) by omega, show i + 1 + j = i + (j + 1) by omega]
        exact this)
      rw [hc, show i + 1 - (gn_cnt (fun i => ga_lo a (a 7 i)) i + 0) = i - gn_cnt (fun i => ga_lo a (a 7 i)) i + 1 by omega] at f1
      rw [hc, Nat.add_zero] at f2
      exact ⟨u', b', f1, f2, f3, f4⟩
