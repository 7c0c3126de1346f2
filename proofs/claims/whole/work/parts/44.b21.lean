/-! the state stays well when a term goes -/
theorem ga_lf_w7 {b : ga_A} {l : Nat} (hl : l < b 13 0) (h : ∀ j, j < b 13 0 → j ≠ l → 1 ≤ b 8 j ∧ b 8 j ≤ 8) (h8 : b 8 l ≤ 8) : ga_pre (ga_lf b l 8) (ga_lf b l 13 0) = ga_pre (b 8) (b 13 0) ∧ ∀ j, j < ga_lf b l 13 0 → 1 ≤ ga_lf b l 8 j ∧ ga_lf b l 8 j ≤ 8 := by
  have hall : 1 ≤ b 8 l → ∀ j, j < b 13 0 → 1 ≤ b 8 j ∧ b 8 j ≤ 8 := fun h1 j hj => by
    by_cases q : j = l
    · subst q; exact ⟨h1, h8⟩
    · exact h j hj q
  unfold ga_lf
  by_cases h3 : 3 ≤ b 8 l
  · rw [if_pos h3]
    exact ⟨rfl, hall (by omega)⟩
  · rw [if_neg h3]
    by_cases h13 : b 13 0 ≤ 1
    · rw [if_pos h13]
      by_cases hz : b 8 l = 0
      · rw [if_pos hz, ga_drop_13]
        have h1 : b 13 0 = 1 := by omega
        obtain rfl : l = 0 := by omega
        rw [h1]
        refine ⟨?_, fun j hj => absurd hj (by omega)⟩
        show 0 = 0 + b 8 0
        omega
      · rw [if_neg hz]
        exact ⟨rfl, hall (by omega)⟩
    · rw [if_neg h13]
      have ho : ga_oth b l < b 13 0 ∧ ga_oth b l ≠ l := by unfold ga_oth; split <;> omega
      generalize ga_oth b l = o at ho
      obtain ⟨ho1, ho2⟩ := ho
      have hob := h o ho1 ho2
      by_cases h9 : 8 < b 8 l + b 8 o
      · rw [if_pos h9, ga_rc (by decide), ga_rc (by decide)]
        have e : ∀ j, ga_s (ga_s b 8 o (b 8 o - 1)) 8 l (b 8 l + 1) 8 j = if j = l then b 8 l + 1 else (if j = o then b 8 o - 1 else b 8 j) := fun j => by
          by_cases q : j = l
          · rw [if_pos q, q, ga_r1]
          · rw [if_neg q, ga_rk q]
            by_cases r : j = o
            · rw [if_pos r, r, ga_r1]
            · rw [if_neg r, ga_rk r]
        refine ⟨?_, fun j hj => ?_⟩
        · rw [ga_pre_eq (fun j _ => e j)]
          have g1 := gp_set (f := fun j => if j = o then b 8 o - 1 else b 8 j) (l := l) (x := b 8 l + 1) hl
          have g2 := gp_set (f := b 8) (l := o) (x := b 8 o - 1) ho1
          rw [if_neg (Ne.symm ho2)] at g1
          omega
        · rw [e]
          split
          · omega
          · split
            · omega
            · rename_i q r; exact h j hj q
      · rw [if_neg h9, ga_drop_13, ga_rc (by decide)]
        have e : ∀ j, ga_s b 8 o (b 8 o + b 8 l) 8 j = if j = o then b 8 o + b 8 l else b 8 j := fun j => by
          by_cases r : j = o
          · rw [if_pos r, r, ga_r1]
          · rw [if_neg r, ga_rk r]
        have d8 : ga_drop (ga_s b 8 o (b 8 o + b 8 l)) l 8 = ga_dn (ga_s b 8 o (b 8 o + b 8 l) 8) l (b 13 0 - 1) := by
          funext j
          unfold ga_drop
          rw [ga_c1, ga_rc (by decide)]
        refine ⟨?_, fun j hj => ?_⟩
        · rw [d8]
          have g1 := gp_dn (f := ga_s b 8 o (b 8 o + b 8 l) 8) (p := l) (k := b 13 0 - 1) (by omega)
          rw [show b 13 0 - 1 + 1 = b 13 0 by omega, ga_pre_eq (k := b 13 0) (fun j _ => e j)] at g1
          have g2 := gp_set (f := b 8) (l := o) (x := b 8 o + b 8 l) ho1
          rw [e, if_neg (Ne.symm ho2)] at g1
          omega
        · rw [d8]
          unfold ga_dn
          have key : ∀ i, i < b 13 0 → i ≠ l → 1 ≤ ga_s b 8 o (b 8 o + b 8 l) 8 i ∧ ga_s b 8 o (b 8 o + b 8 l) 8 i ≤ 8 := fun i hi hil => by
            rw [e]
            split
            · omega
            · exact h i hi hil
          by_cases hc : l ≤ j ∧ j < b 13 0 - 1
          · rw [if_pos hc]; exact key (j + 1) (by omega) (by omega)
          · rw [if_neg hc]; exact key j (by omega) (by omega)
theorem ga_dn_at {f : Nat → Nat} {p k j : Nat} (hj : j < k) : ga_dn f p k j = f (if p ≤ j then j + 1 else j) := by
  unfold ga_dn
  by_cases h : p ≤ j
  · rw [if_pos ⟨h, hj⟩, if_pos h]
  · rw [if_neg (by omega), if_neg h]
theorem ga_go_W {n : Nat} {a : ga_A} (hW : ga_W n a) {p l : Nat} (hp : p < a 12 0) (hlf : ga_leaf (a 8) (a 13 0) p l) (hno : ∀ i, i < a 15 0 → a 10 (100 * i + a 7 p) ≠ 1) : ga_W n (ga_go a p l) := by
  obtain ⟨hok, h2, h4, h7, h8⟩ := hW
  have e := ga_go_c a p l
  have eT : ∀ k, ga_T (ga_go a p l) k = ga_T a k := fun k => by unfold ga_T; rw [e 5 (by decide) (by decide) (by decide) (by decide) (by decide), e 6 (by decide) (by decide) (by decide) (by decide) (by decide)]
  have eK : ∀ k, ga_K (ga_go a p l) k = ga_K a k := fun k => by unfold ga_K; rw [eT, e 3 (by decide) (by decide) (by decide) (by decide) (by decide)]
  have e7 : ∀ j, j < a 12 0 - 1 → ga_go a p l 7 j = a 7 (if p ≤ j then j + 1 else j) := fun j hj => by rw [ga_go_7]; exact ga_dn_at hj
  have hio : ∀ j, j < a 12 0 - 1 → (if p ≤ j then j + 1 else j) < a 12 0 := fun j hj => by split <;> omega
  have hne : ∀ j, (if p ≤ j then j + 1 else j) ≠ p := fun j => by split <;> omega
  have h12 := hok.1
  refine ⟨⟨?_, ?_, ?_, ?_, ?_⟩, ⟨?_, ?_, ?_⟩, ?_, ?_, ?_⟩
  · rw [ga_go_12]; omega
  · rw [e 0 (by decide) (by decide) (by decide) (by decide) (by decide), e 1 (by decide) (by decide) (by decide) (by decide) (by decide)]; exact hok.2.1
  · rw [ga_go_12]; intro j hj; rw [e7 j hj]; exact hok.2.2.1 _ (hio j hj)
  · rw [ga_go_12]
    intro j hj
    rw [e7 j hj, e 3 (by decide) (by decide) (by decide) (by decide) (by decide), e 5 (by decide) (by decide) (by decide) (by decide) (by decide), e 6 (by decide) (by decide) (by decide) (by decide) (by decide)]
    exact hok.2.2.2.1 _ (hio j hj)
  · rw [ga_go_12]
    intro i j hij hj
    rw [eK, eK, e7 i (by omega), e7 j hj]
    exact hok.2.2.2.2 _ _ (by split <;> split <;> omega) (hio j hj)
  · intro k hk
    rw [ga_go_2]
    split
    · exact Or.inl rfl
    · exact h2.1 k hk
  · rw [ga_go_12]
    intro j hj
    rw [e7 j hj, ga_go_2, if_neg (fun q => hne j (ga_inj hok (hio j hj) hp q))]
    exact h2.2.1 _ (hio j hj)
  · rw [ga_go_12]
    intro k hk hk2
    rw [ga_go_2] at hk2
    by_cases q : k = a 7 p
    · rw [if_pos q] at hk2; cases hk2
    · rw [if_neg q] at hk2
      obtain ⟨j, hj, ej⟩ := h2.2.2 k hk hk2
      have hjp : j ≠ p := fun z => q (by rw [← ej, z])
      refine ⟨if j < p then j else j - 1, by split <;> omega, ?_⟩
      rw [e7 _ (by split <;> omega), ← ej]
      congr 1
      split <;> split <;> omega
  · rw [e 4 (by decide) (by decide) (by decide) (by decide) (by decide)]; exact h4
  · have hl := hlf.1
    have hl8 := h7.2 l hl
    have key := ga_lf_w7 (b := ga_gb a p l) (l := l) (by rw [ga_gb_13]; exact hl) (fun j hj hjl => by rw [ga_gb_13] at hj; rw [ga_gb_8, if_neg hjl]; exact h7.2 j hj) (by rw [ga_gb_8, if_pos rfl]; omega)
    rw [ga_gb_pre h7 hl] at key
    exact ⟨by rw [ga_go_12]; exact key.1, key.2⟩
  · obtain ⟨w1, w2, w3, w4, w5⟩ := h8
    unfold ga_w8
    rw [e 14 (by decide) (by decide) (by decide) (by decide) (by decide), e 15 (by decide) (by decide) (by decide) (by decide) (by decide), e 9 (by decide) (by decide) (by decide) (by decide) (by decide), e 10 (by decide) (by decide) (by decide) (by decide) (by decide)]
    refine ⟨w1, w2, w3, w4, fun i t hi ht => ⟨(w5 i t hi ht).1, fun q => ?_⟩⟩
    rw [ga_go_2, if_neg (fun z => hno i hi (by rw [← z]; exact q))]
    exact (w5 i t hi ht).2 q
theorem ga_go_R {n : Nat} {a : ga_A} {u : gk_St} (hW : ga_W n a) (hR : gb_R a u) {p l : Nat} (hp : p < a 12 0) (hlf : ga_leaf (a 8) (a 13 0) p l) : ∃ u', fn_Bk_takeOut (a 7 p) (nI p) u = some u' ∧ gb_R (ga_go a p l) u' ∧ (∀ k, u'.1 3 k = u.1 3 k) := by
  obtain ⟨u', q0, ⟨b1, b2, b3⟩, q2, q3, q4, q5, q6, q7⟩ := bk_takeOut hW hR hp hlf
  have e := ga_go_c a p l
  have eT : ∀ k, ga_T (ga_go a p l) k = ga_T a k := fun k => by unfold ga_T; rw [e 5 (by decide) (by decide) (by decide) (by decide) (by decide), e 6 (by decide) (by decide) (by decide) (by decide) (by decide)]
  have eP : ga_P (ga_go a p l) = ga_P a := by unfold ga_P; rw [e 0 (by decide) (by decide) (by decide) (by decide) (by decide), e 1 (by decide) (by decide) (by decide) (by decide) (by decide)]
  obtain ⟨-, r6, r7, r8, r9, s, s1, s2, s3, s4⟩ := hR
  have hp2 : ∀ k, ga_go a p l 2 k = 1 → a 2 k = 1 := fun k h => by
    rw [ga_go_2] at h
    split at h
    · cases h
    · exact h
  refine ⟨u', q0, ⟨⟨?_, ?_, b1, b2, b3⟩, ?_, ?_, ?_, ?_, s, ?_, ?_, ?_, ?_⟩, fun k => q6 _ _ (by decide) (by decide) (by decide) (by decide) (by decide)⟩
  · rw [ga_go_12]; exact q2
  · rw [ga_go_12, ga_go_7]; exact q3
  · intro k hk
    rw [ga_go_2]
    by_cases h : k = a 7 p
    · rw [if_pos h, h, q4]; rfl
    · rw [if_neg h, q5 k h]; exact r6 k hk
  · rw [eP, e 0 (by decide) (by decide) (by decide) (by decide) (by decide)]
    unfold gb_T at *
    rw [q6 _ _ (by decide) (by decide) (by decide) (by decide) (by decide), q7]
    exact r7
  · intro k hk hk2
    obtain ⟨g1, g2, g3⟩ := r8 k hk (hp2 k hk2)
    rw [eT, e 3 (by decide) (by decide) (by decide) (by decide) (by decide), e 4 (by decide) (by decide) (by decide) (by decide) (by decide), e 5 (by decide) (by decide) (by decide) (by decide) (by decide)]
    unfold gb_T at *
    rw [q6 _ _ (by decide) (by decide) (by decide) (by decide) (by decide), q6 _ _ (by decide) (by decide) (by decide) (by decide) (by decide), q6 _ _ (by decide) (by decide) (by decide) (by decide) (by decide), q7]
    exact ⟨g1, g2, g3⟩
  · rw [q6 _ _ (by decide) (by decide) (by decide) (by decide) (by decide), e 14 (by decide) (by decide) (by decide) (by decide) (by decide)]; exact r9
  · rw [e 15 (by decide) (by decide) (by decide) (by decide) (by decide), e 9 (by decide) (by decide) (by decide) (by decide) (by decide)]
    intro i hi
    rw [q6 _ _ (by decide) (by decide) (by decide) (by decide) (by decide)]
    exact s1 i hi
  · rw [e 15 (by decide) (by decide) (by decide) (by decide) (by decide)]; exact s2
  · rw [e 15 (by decide) (by decide) (by decide) (by decide) (by decide)]
    intro q hq h
    rw [q6 _ _ (by decide) (by decide) (by decide) (by decide) (by decide)]
    exact s3 q hq h
  · rw [e 15 (by decide) (by decide) (by decide) (by decide) (by decide), e 10 (by decide) (by decide) (by decide) (by decide) (by decide)]
    intro t ht hp' q hq
    rw [q6 _ _ (by decide) (by decide) (by decide) (by decide) (by decide)]
    exact s4 t ht (hp2 t hp') q hq
