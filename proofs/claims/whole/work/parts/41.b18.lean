theorem bt_or {s i : Nat} (hs : s < 32) (hi : i < 32) (x : Int32) : bb_t (x ||| ((1 : Int32) <<< (nI s &&& 31))) i = (bb_t x i || decide (i = s)) := by rw [bb_or, bt_sh hs hi]
theorem ga_hs0 (a : ga_A) (m : Nat) : ga_hs a m 0 = a 10 := by
  funext j
  unfold ga_hs
  rw [if_neg (by omega)]
theorem gb_mk0 (a : ga_A) (u : gk_St) (q : Nat) : gb_mk a u q 0 = u.1 4 := by
  funext j
  unfold gb_mk
  rw [if_neg (by omega)]
/-- the state behind a version that ended -/
def ga_ver (a : ga_A) : ga_A := ga_s (ga_s (ga_c (ga_s a 9 (a 15 0) (a 14 0)) 10 (ga_hs a (a 15 0) 100)) 15 0 (a 15 0 + 1)) 14 0 (a 14 0 + 1)
theorem ga_ver_c (a : ga_A) : ∀ c, c ≠ 9 → c ≠ 10 → c ≠ 11 → c ≠ 14 → c ≠ 15 → ga_ver a c = a c := by
  intro c h9 h10 _ h14 h15
  funext k
  unfold ga_ver
  rw [ga_rc h14, ga_rc h15, ga_c2 h10, ga_rc h9]
theorem ga_ver_14 (a : ga_A) : ga_ver a 14 0 = a 14 0 + 1 := ga_r1 _ _ _ _
theorem ga_ver_15 (a : ga_A) : ga_ver a 15 0 = a 15 0 + 1 := by unfold ga_ver; rw [ga_rc (by decide), ga_r1]
theorem ga_ver_9 (a : ga_A) (i : Nat) : ga_ver a 9 i = if i = a 15 0 then a 14 0 else a 9 i := by
  unfold ga_ver
  rw [ga_rc (by decide), ga_rc (by decide), ga_c2 (by decide)]
  by_cases h : i = a 15 0
  · rw [if_pos h, h, ga_r1]
  · rw [if_neg h, ga_rk h]
theorem ga_ver_10 (a : ga_A) (j : Nat) : ga_ver a 10 j = ga_hs a (a 15 0) 100 j := by unfold ga_ver; rw [ga_rc (by decide), ga_rc (by decide), ga_c1]
theorem ga_ver_w8 {n : Nat} {a : ga_A} (h2 : ga_w2 a) (h8 : ga_w8 n a) (hk : a 15 0 < 6) : ga_w8 (n + 1) (ga_ver a) := by
  obtain ⟨h1, h3, h4, h5, h6⟩ := h8
  unfold ga_w8
  rw [ga_ver_14, ga_ver_15, show ga_ver a 2 = a 2 from ga_ver_c a 2 (by decide) (by decide) (by decide) (by decide) (by decide)]
  refine ⟨by omega, by omega, fun i hi => ?_, fun i j hij hj => ?_, fun i t hi ht => ?_⟩
  · rw [ga_ver_9]
    split
    · omega
    · have := h4 i (by omega); omega
  · rw [ga_ver_9, ga_ver_9, if_neg (by omega)]
    split
    · exact h4 i (by omega)
    · exact h5 i j hij (by omega)
  · rw [ga_ver_10]
    unfold ga_hs
    by_cases hi2 : i = a 15 0
    · subst hi2
      rw [if_pos (by omega), show 100 * a 15 0 + t - 100 * a 15 0 = t by omega]
      by_cases hc : a 2 t = 1 ∧ 0 < a 4 t
      · rw [if_pos hc]; exact ⟨Or.inr rfl, fun _ => hc.1⟩
      · rw [if_neg hc]; exact ⟨Or.inl rfl, fun q => absurd q (by decide)⟩
    · rw [if_neg (by omega)]
      exact h6 i t (by omega) ht
theorem op_version : gs_op fn_Bk_version fn_Md_version := by
  intro n a u hn hW hR
  obtain ⟨hok, h2, h4, h7, h8⟩ := id hW
  obtain ⟨s, hS⟩ := hR.2.2.2.2.2
  have hcnt := gb_cntS hn h8 hS
  have h6 := h8.2.1
  unfold fn_Bk_version fn_Md_version
  rw [ga_vr]
  by_cases hk : a 15 0 = 6
  · refine ⟨-3, u, a, ?_, by rw [hk]; rfl, hW.up, hR⟩
    rw [hk] at hcnt
    rw [bk_slotOf_no (fun j hj e => by have := gn_all hcnt j hj; rw [decide_eq_true_eq] at this; exact this e)]
    rfl
  · have hlt : a 15 0 < 6 := by omega
    obtain ⟨q0, hq0, hf0⟩ := gn_ex (P := fun j => decide (u.1 9 j ≠ -1)) (n := 6) (by omega)
    have hf0 : u.1 9 q0 = -1 := by simpa using hf0
    obtain ⟨q, ⟨hq, hfq⟩, hmin⟩ := pk_least (fun q => q < 6 ∧ u.1 9 q = -1) ⟨q0, hq0, hf0⟩
    have hfree : ∀ i, i < a 15 0 → s i ≠ q := by
      rcases gb_slot hS hq with ⟨i, i1, i2, i3⟩ | ⟨i1, -⟩
      · have h9 := h8.2.2.1 i i1
        have hen := h8.1
        exact absurd (show nI (a 9 i) < 0 by rw [← i3, hfq]; decide) (nI_pos (by omega))
      · exact i1
    have g : gj_in (nI (a 15 0)) 6 := nI_in hlt (by decide)
    have c : (nI (a 15 0)).toNatClampNeg = a 15 0 := nI_clamp (by omega)
    have e1 := bk_version_16 hn h2 h4 hR hq 100 0 gk_fu (by omega) (by decide)
    rw [gb_mk0, gk_c0'] at e1
    have e2 := md_version_27 h2 hn h4 hlt (ga_s a 9 (a 15 0) (a 14 0)) (by funext k; exact ga_rc (by decide)) (by funext k; exact ga_rc (by decide)) (ga_rc (by decide)) 100 0 gm_fu (by omega) (by decide)
    rw [ga_hs0, show a 10 = (ga_s a 9 (a 15 0) (a 14 0)) 10 from (by funext k; rw [ga_rc (by decide)]), ga_c0, ga_rc (show (14 : Nat) ≠ 9 by decide)] at e2
    refine ⟨nI (a 14 0), _, ga_ver a, ?_, ?_, ga_W_ver hW (ga_ver_c a) (ga_ver_w8 h2 h8 hlt), gb_R_ver hR (ga_ver_c a) (u' := gk_sI (gk_sI (gk_c u 4 (gb_mk a u q 100)) 9 q (nI (a 14 0))) 10 0 (nI (a 14 0) + 1)) (fun c k c4 c9 c10 => ?_) rfl ?_ ⟨fun i => if i = a 15 0 then q else s i, ?_, ?_, ?_, ?_⟩⟩
    · rw [bk_slotOf_at hq hfq (fun j hj e => hmin j hj ⟨by omega, e⟩), Option.bind_some, if_neg (fun z => absurd (show nI q < 0 by rw [show nI q = -1 from z]; decide) (nI_pos (by omega)))]
      exact e1
    · rw [if_neg (show ¬ nI (a 15 0) = (6 : Int32) from fun z => hk ((nI_eq (b := 6) (by omega) (by decide)).mp z))]
      simp only [if_pos g, c, ga_vr, ga_vs]
      exact e2
    · rw [gk_ic c10, gk_ic c9, gk_c2' c4]
    · rw [gk_i1, ga_ver_14, nI_1]
    · rw [ga_ver_15]
      intro i hi
      rw [ga_ver_9]
      by_cases h : i = a 15 0
      · simp only [if_pos h]
        exact ⟨hq, by rw [gk_ic (by decide), gk_i1]⟩
      · simp only [if_neg h]
        obtain ⟨s1, s2⟩ := hS.1 i (by omega)
        exact ⟨s1, by rw [gk_ic (by decide), gk_ik (hfree i (by omega)), gk_c2' (by decide)]; exact s2⟩
    · rw [ga_ver_15]
      intro i j hi hj
      by_cases h1 : i = a 15 0
      · by_cases h2' : j = a 15 0
        · intro _; omega
        · simp only [if_pos h1, if_neg h2']
          exact fun z => absurd z.symm (hfree j (by omega))
      · by_cases h2' : j = a 15 0
        · simp only [if_neg h1, if_pos h2']
          exact fun z => absurd z (hfree i (by omega))
        · simp only [if_neg h1, if_neg h2']
          exact hS.2.1 i j (by omega) (by omega)
    · rw [ga_ver_15]
      intro r hr hno
      have hrq : r ≠ q := fun z => hno (a 15 0) (by omega) (by simp [z])
      rw [gk_ic (by decide), gk_ik hrq, gk_c2' (by decide)]
      exact hS.2.2.1 r hr (fun i hi z => hno i (by omega) (by simp only [if_neg (show ¬ i = a 15 0 by omega)]; exact z))
    · rw [ga_ver_15, show ga_ver a 2 = a 2 from ga_ver_c a 2 (by decide) (by decide) (by decide) (by decide) (by decide)]
      intro t ht hp r hr
      rw [gk_ic (by decide), gk_ic (by decide), gk_cc1]
      have hold := hS.2.2.2 t ht hp r hr
      have hnew : bb_t (gb_mk a u q 100 t) r = true ↔ bb_t (u.1 4 t) r = true ∨ (r = q ∧ 0 < a 4 t) := by
        unfold gb_mk
        by_cases hc : t < 100 ∧ a 2 t = 1 ∧ 0 < a 4 t
        · rw [if_pos hc, bt_or (by omega) hr, Bool.or_eq_true, decide_eq_true_eq]
          exact ⟨fun z => z.imp id (fun w => ⟨w, hc.2.2⟩), fun z => z.imp id (fun w => w.1)⟩
        · rw [if_neg hc]
          exact ⟨Or.inl, fun z => z.elim id (fun w => absurd ⟨ht, hp, w.2⟩ hc)⟩
      rw [hnew, hold]
      constructor
      · rintro (⟨i, i1, i2, i3⟩ | ⟨rfl, h0⟩)
        · refine ⟨i, by omega, by simp only [if_neg (show ¬ i = a 15 0 by omega)]; exact i2, ?_⟩
          rw [ga_ver_10]
          unfold ga_hs
          rw [if_neg (by omega)]
          exact i3
        · refine ⟨a 15 0, by omega, by simp, ?_⟩
          rw [ga_ver_10]
          unfold ga_hs
          rw [if_pos (by omega), show 100 * a 15 0 + t - 100 * a 15 0 = t by omega, if_pos ⟨hp, h0⟩]
      · rintro ⟨i, i1, i2, i3⟩
        rw [ga_ver_10] at i3
        unfold ga_hs at i3
        by_cases h : i = a 15 0
        · subst h
          rw [if_pos (by omega), show 100 * a 15 0 + t - 100 * a 15 0 = t by omega] at i3
          refine Or.inr ⟨by simpa using i2.symm, ?_⟩
          by_cases hc : a 2 t = 1 ∧ 0 < a 4 t
          · exact hc.2
          · rw [if_neg hc] at i3; cases i3
        · simp only [if_neg h] at i2
          rw [if_neg (by omega)] at i3
          exact Or.inl ⟨i, by omega, i2, i3⟩
