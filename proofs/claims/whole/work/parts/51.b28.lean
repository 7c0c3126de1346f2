/-! the state stays well when a term comes -/
theorem ga_lv0_w {a : ga_A} (h7 : ga_w7 a) (h12 : a 12 0 ≤ 99) : ga_pre (ga_lv0 a 8) (ga_lv0 a 13 0) = a 12 0 ∧ ga_lv0 a 13 0 ≤ 99 ∧ 0 < ga_lv0 a 13 0 ∧ (∀ j, j < ga_lv0 a 13 0 → ga_lv0 a 8 j ≤ 8) ∧ ∀ l, l < ga_lv0 a 13 0 → ∀ j, j < ga_lv0 a 13 0 → j ≠ l → 1 ≤ ga_lv0 a 8 j := by
  have hlv := ga_lv_le h7
  by_cases h0 : a 13 0 = 0
  · have h1 : ga_lv0 a 13 0 = 1 := by unfold ga_lv0; rw [if_pos h0, ga_r1]
    have h10 : ga_lv0 a 8 0 = 0 := by unfold ga_lv0; rw [if_pos h0, ga_rc (by decide), ga_r1]
    have hz := h7.1
    rw [h0] at hz
    rw [h1]
    refine ⟨?_, by omega, by omega, fun j hj => ?_, fun l hl j hj hne => ?_⟩
    · rw [← hz]; show 0 + ga_lv0 a 8 0 = 0; rw [h10]
    · rw [show j = 0 by omega, h10]; omega
    · omega
  · have e : ga_lv0 a = a := by unfold ga_lv0; rw [if_neg h0]
    rw [e]
    exact ⟨h7.1, by omega, by omega, fun j hj => (h7.2 j hj).2, fun l _ j hj _ => (h7.2 j hj).1⟩
theorem ga_up_at {f : Nat → Nat} {p L j : Nat} (hj : j < L + 1) : ga_up f p L j = f (if p < j then j - 1 else j) := by
  unfold ga_up
  by_cases h : p < j
  · rw [if_pos ⟨h, by omega⟩, if_pos h]
  · rw [if_neg (by omega), if_neg h]
theorem ga_come_7 (a : ga_A) (t kd p l : Nat) {j : Nat} (hj : j < a 12 0 + 1) : ga_come a t kd p l 7 j = if j = p then t else a 7 (if p < j then j - 1 else j) := by
  rw [ga_come_b _ _ _ _ _ 7 (by decide) (by decide), ga_cb_7, ga_up_at hj]
theorem ga_come_12 (a : ga_A) (t kd p l : Nat) : ga_come a t kd p l 12 0 = a 12 0 + 1 := by
  rw [ga_come_b _ _ _ _ _ 12 (by decide) (by decide), ga_cb_12]
theorem ga_come_c (a : ga_A) (t kd p l : Nat) : ∀ c, c ≠ 2 → c ≠ 3 → c ≠ 4 → c ≠ 5 → c ≠ 6 → c ≠ 7 → c ≠ 12 → c ≠ 8 → c ≠ 13 → ga_come a t kd p l c = a c := fun c h2 h3 h4 h5 h6 h7 h12 h8 h13 => by
  rw [ga_come_b _ _ _ _ _ c h8 h13, ga_cb_c _ _ _ _ c h2 h3 h4 h5 h6 h7 h12]
theorem ga_come_n (a : ga_A) (t kd p l : Nat) : ∀ c, c ≠ 7 → c ≠ 12 → c ≠ 8 → c ≠ 13 → ga_come a t kd p l c = ga_nt a t kd c := fun c h7 h12 h8 h13 => by
  rw [ga_come_b _ _ _ _ _ c h8 h13, ga_cb_n _ _ _ _ c h7 h12]
theorem ga_come_T (a : ga_A) (t kd p l : Nat) : ga_T (ga_come a t kd p l) t = ga_P a := by
  unfold ga_T ga_P
  rw [ga_come_n _ _ _ _ _ 5 (by decide) (by decide) (by decide) (by decide), ga_come_n _ _ _ _ _ 6 (by decide) (by decide) (by decide) (by decide), ga_nt_5, if_pos rfl]
  funext i
  by_cases h : i < a 0 0
  · rw [if_pos h, if_pos h, ga_nt_6]
    unfold ga_tc
    rw [if_pos (by omega), show 16 * t + i - 16 * t = i by omega]
  · rw [if_neg h, if_neg h]
theorem ga_come_6 {a : ga_A} {t k : Nat} (kd p l : Nat) (hk : k ≠ t) (h16 : a 0 0 ≤ 16) {i : Nat} (hi : i < 16) : ga_come a t kd p l 6 (16 * k + i) = a 6 (16 * k + i) := by
  rw [ga_come_n _ _ _ _ _ 6 (by decide) (by decide) (by decide) (by decide), ga_nt_6]
  unfold ga_tc
  rw [if_neg (by omega)]
theorem ga_come_T' {a : ga_A} {t k : Nat} (kd p l : Nat) (hk : k ≠ t) (h16 : a 0 0 ≤ 16) (h5 : a 5 k ≤ 16) : ga_T (ga_come a t kd p l) k = ga_T a k := by
  unfold ga_T
  rw [ga_come_n _ _ _ _ _ 5 (by decide) (by decide) (by decide) (by decide), ga_nt_5, if_neg hk]
  funext i
  by_cases h : i < a 5 k
  · rw [if_pos h, if_pos h, ga_come_6 kd p l hk h16 (by omega)]
  · rw [if_neg h, if_neg h]
theorem ga_come_K (a : ga_A) (t kd p l : Nat) : ga_K (ga_come a t kd p l) t = ga_Q a kd := by
  unfold ga_K ga_Q
  rw [ga_come_T, ga_come_n _ _ _ _ _ 3 (by decide) (by decide) (by decide) (by decide), ga_nt_3, if_pos rfl]
theorem ga_come_K' {a : ga_A} {t k : Nat} (kd p l : Nat) (hk : k ≠ t) (h16 : a 0 0 ≤ 16) (h5 : a 5 k ≤ 16) : ga_K (ga_come a t kd p l) k = ga_K a k := by
  unfold ga_K
  rw [ga_come_T' kd p l hk h16 h5, ga_come_n _ _ _ _ _ 3 (by decide) (by decide) (by decide) (by decide), ga_nt_3, if_neg hk]
theorem ga_come_lv {a : ga_A} (t kd p : Nat) : ga_lv0 (ga_cb a t kd p) 8 = ga_lv0 a 8 ∧ ga_lv0 (ga_cb a t kd p) 13 0 = ga_lv0 a 13 0 :=
  ga_lv0_cg (ga_cb_c _ _ _ _ 8 (by decide) (by decide) (by decide) (by decide) (by decide) (by decide) (by decide)) (by rw [ga_cb_c _ _ _ _ 13 (by decide) (by decide) (by decide) (by decide) (by decide) (by decide) (by decide)])
theorem ga_come_W {n : Nat} {a : ga_A} (hW : ga_W n a) {t kd p l : Nat} (ht : t < 100) (h2t : a 2 t = 0) (hkd : kd < 4) (h0 : 1 ≤ a 0 0) (hp : ga_pl a kd p) (hni : ¬ ga_is a kd p) (h12 : a 12 0 ≤ 99) (hlf : ga_leaf (ga_lv0 a 8) (ga_lv0 a 13 0) p l) : ga_W n (ga_come a t kd p l) := by
  obtain ⟨hok, h2, h4, h7, h8⟩ := hW
  have h16 := hok.2.1.1
  have hp1 := hp.1
  have hne : ∀ j, j < a 12 0 → a 7 j ≠ t := fun j hj q => by have := h2.2.1 j hj; rw [q, h2t] at this; cases this
  have hio : ∀ j, j < a 12 0 + 1 → j ≠ p → (if p < j then j - 1 else j) < a 12 0 := fun j hj hjp => by split <;> omega
  have e7p : ga_come a t kd p l 7 p = t := by rw [ga_come_7 _ _ _ _ _ (by omega), if_pos rfl]
  have e7 : ∀ j, j < a 12 0 + 1 → j ≠ p → ga_come a t kd p l 7 j = a 7 (if p < j then j - 1 else j) := fun j hj hjp => by rw [ga_come_7 _ _ _ _ _ hj, if_neg hjp]
  have e0 := ga_come_c a t kd p l 0 (by decide) (by decide) (by decide) (by decide) (by decide) (by decide) (by decide) (by decide) (by decide)
  have e1 := ga_come_c a t kd p l 1 (by decide) (by decide) (by decide) (by decide) (by decide) (by decide) (by decide) (by decide) (by decide)
  have e9 := ga_come_c a t kd p l 9 (by decide) (by decide) (by decide) (by decide) (by decide) (by decide) (by decide) (by decide) (by decide)
  have e10 := ga_come_c a t kd p l 10 (by decide) (by decide) (by decide) (by decide) (by decide) (by decide) (by decide) (by decide) (by decide)
  have e14 := ga_come_c a t kd p l 14 (by decide) (by decide) (by decide) (by decide) (by decide) (by decide) (by decide) (by decide) (by decide)
  have e15 := ga_come_c a t kd p l 15 (by decide) (by decide) (by decide) (by decide) (by decide) (by decide) (by decide) (by decide) (by decide)
  have e2 : ∀ k, ga_come a t kd p l 2 k = if k = t then 1 else a 2 k := fun k => by rw [ga_come_n _ _ _ _ _ 2 (by decide) (by decide) (by decide) (by decide), ga_nt_2]
  have e3 : ∀ k, ga_come a t kd p l 3 k = if k = t then kd else a 3 k := fun k => by rw [ga_come_n _ _ _ _ _ 3 (by decide) (by decide) (by decide) (by decide), ga_nt_3]
  have e4 : ∀ k, ga_come a t kd p l 4 k = if k = t then 0 else a 4 k := fun k => by rw [ga_come_n _ _ _ _ _ 4 (by decide) (by decide) (by decide) (by decide), ga_nt_4]
  have e5 : ∀ k, ga_come a t kd p l 5 k = if k = t then a 0 0 else a 5 k := fun k => by rw [ga_come_n _ _ _ _ _ 5 (by decide) (by decide) (by decide) (by decide), ga_nt_5]
  have eK : ∀ j, j < a 12 0 → ga_K (ga_come a t kd p l) (a 7 j) = ga_K a (a 7 j) := fun j hj => ga_come_K' kd p l (hne j hj) h16 (hok.2.2.2.1 j hj).2.2.1
  have hgt : ∀ j, p ≤ j → j < a 12 0 → ga_Q a kd < ga_K a (a 7 j) := fun j h1 h2 => by
    have q1 := hp.2.2 p (Nat.le_refl _) (by omega)
    have q2 : ga_K a (a 7 p) ≠ ga_Q a kd := fun q => hni ⟨by omega, q⟩
    rcases Nat.lt_or_ge p j with r | r
    · have := hok.2.2.2.2 p j r h2; omega
    · rw [show j = p by omega]; omega
  refine ⟨⟨?_, ?_, ?_, ?_, ?_⟩, ⟨?_, ?_, ?_⟩, ?_, ?_, ?_⟩
  · rw [ga_come_12]; omega
  · rw [e0, e1]; exact hok.2.1
  · rw [ga_come_12]
    intro j hj
    by_cases hjp : j = p
    · rw [hjp, e7p]; exact ht
    · rw [e7 j hj hjp]; exact hok.2.2.1 _ (hio j hj hjp)
  · rw [ga_come_12]
    intro j hj
    by_cases hjp : j = p
    · rw [hjp, e7p, e3, if_pos rfl, e5, if_pos rfl]
      refine ⟨hkd, h0, h16, fun i hi => ?_⟩
      have : ga_come a t kd p l 6 (16 * t + i) = a 1 i := by
        rw [ga_come_n _ _ _ _ _ 6 (by decide) (by decide) (by decide) (by decide), ga_nt_6]
        unfold ga_tc
        rw [if_pos (by omega), show 16 * t + i - 16 * t = i by omega]
      show 33 ≤ ga_come a t kd p l 6 (16 * t + i) ∧ ga_come a t kd p l 6 (16 * t + i) ≤ 126
      rw [this]
      exact hok.2.1.2 i hi
    · have hi := hio j hj hjp
      rw [e7 j hj hjp, e3, if_neg (hne _ hi), e5, if_neg (hne _ hi)]
      obtain ⟨q1, q2, q3, q4⟩ := hok.2.2.2.1 _ hi
      refine ⟨q1, q2, q3, fun i hi' => ?_⟩
      show 33 ≤ ga_come a t kd p l 6 (16 * _ + i) ∧ ga_come a t kd p l 6 (16 * _ + i) ≤ 126
      rw [ga_come_6 kd p l (hne _ hi) h16 (by omega)]
      exact q4 i hi'
  · rw [ga_come_12]
    intro i j hij hj
    by_cases hip : i = p
    · rw [hip, e7p, ga_come_K, e7 j hj (by omega), eK _ (hio j hj (by omega)), if_pos (by omega)]
      exact hgt _ (by omega) (by omega)
    · by_cases hjp : j = p
      · rw [hjp, e7p, ga_come_K, e7 i (by omega) hip, eK _ (hio i (by omega) hip), if_neg (by omega)]
        exact hp.2.1 i (by omega)
      · rw [e7 i (by omega) hip, e7 j hj hjp, eK _ (hio i (by omega) hip), eK _ (hio j hj hjp)]
        exact hok.2.2.2.2 _ _ (by split <;> split <;> omega) (hio j hj hjp)
  · intro k hk
    rw [e2]
    split
    · exact Or.inr rfl
    · exact h2.1 k hk
  · rw [ga_come_12]
    intro j hj
    by_cases hjp : j = p
    · rw [hjp, e7p, e2, if_pos rfl]
    · have hi := hio j hj hjp
      rw [e7 j hj hjp, e2, if_neg (hne _ hi)]
      exact h2.2.1 _ hi
  · rw [ga_come_12]
    intro k hk hk2
    rw [e2] at hk2
    by_cases q : k = t
    · exact ⟨p, by omega, by rw [e7p, q]⟩
    · rw [if_neg q] at hk2
      obtain ⟨j, hj, ej⟩ := h2.2.2 k hk hk2
      refine ⟨if j < p then j else j + 1, by split <;> omega, ?_⟩
      rw [e7 _ (by split <;> omega) (by split <;> omega), ← ej]
      congr 1
      split <;> split <;> omega
  · intro k hk
    rw [e4]
    split
    · exact Nat.zero_le _
    · exact h4 k hk
  · obtain ⟨l8, l13⟩ := ga_come_lv (a := a) t kd p
    obtain ⟨q1, q2, q3, q4, q5⟩ := ga_lv0_w h7 h12
    have hl := hlf.1
    have key := ga_lin_w7 (b := ga_lv0 (ga_cb a t kd p)) (l := l) (by rw [l13]; exact hl) (fun j hj hjl => by rw [l13] at hj; rw [l8]; exact ⟨q5 l hl j hj hjl, q4 j hj⟩) (by rw [l8]; exact q4 l hl)
    rw [l8, l13, q1] at key
    exact ⟨by rw [ga_come_12]; exact key.1, key.2⟩
  · obtain ⟨w1, w2, w3, w4, w5⟩ := h8
    unfold ga_w8
    rw [e14, e15, e9, e10]
    refine ⟨w1, w2, w3, w4, fun i t' hi ht' => ⟨(w5 i t' hi ht').1, fun q => ?_⟩⟩
    rw [e2]
    split
    · rfl
    · exact (w5 i t' hi ht').2 q
