/-! the state is well, after n calls; the class holds it; an operation of both -/
def ga_w2 (a : ga_A) : Prop := (∀ k, k < 100 → a 2 k = 0 ∨ a 2 k = 1) ∧ (∀ j, j < a 12 0 → a 2 (a 7 j) = 1) ∧ ∀ k, k < 100 → a 2 k = 1 → ∃ j, j < a 12 0 ∧ a 7 j = k
def ga_w7 (a : ga_A) : Prop := ga_pre (a 8) (a 13 0) = a 12 0 ∧ ∀ j, j < a 13 0 → 1 ≤ a 8 j ∧ a 8 j ≤ 8
def ga_w8 (n : Nat) (a : ga_A) : Prop := a 14 0 ≤ n ∧ a 15 0 ≤ 6 ∧ (∀ i, i < a 15 0 → a 9 i < a 14 0) ∧ (∀ i j, i < j → j < a 15 0 → a 9 i < a 9 j) ∧ ∀ i t, i < a 15 0 → t < 100 → (a 10 (100 * i + t) = 0 ∨ a 10 (100 * i + t) = 1) ∧ (a 10 (100 * i + t) = 1 → a 2 t = 1)
def ga_W (n : Nat) (a : ga_A) : Prop := ga_ok a ∧ ga_w2 a ∧ (∀ k, k < 100 → a 4 k ≤ n) ∧ ga_w7 a ∧ ga_w8 n a
theorem ga_W.up {n : Nat} {a : ga_A} (h : ga_W n a) : ga_W (n + 1) a := by
  obtain ⟨h1, h2, h3, h4, h5, h6⟩ := h
  exact ⟨h1, h2, fun k hk => Nat.le_succ_of_le (h3 k hk), h4, Nat.le_succ_of_le h5, h6⟩
def gb_r1 (a : ga_A) (u : gk_St) : Prop := u.1 6 0 = nI (a 12 0) ∧ (∀ j, j < a 12 0 → u.1 5 j = nI (a 7 j)) ∧ u.1 8 0 = nI (a 13 0) ∧ (∀ j, j < a 13 0 → u.1 7 j = nI (a 8 j)) ∧ (a 13 0 = 0 → u.1 7 0 = 0)
/-- kept version i lies in slot s i; a term's bits say which have it -/
def gb_S (a : ga_A) (u : gk_St) (s : Nat → Nat) : Prop := (∀ i, i < a 15 0 → s i < 6 ∧ u.1 9 (s i) = nI (a 9 i)) ∧ (∀ i j, i < a 15 0 → j < a 15 0 → s i = s j → i = j) ∧ (∀ q, q < 6 → (∀ i, i < a 15 0 → s i ≠ q) → u.1 9 q = -1) ∧ ∀ t, t < 100 → a 2 t = 1 → ∀ q, q < 32 → (bb_t (u.1 4 t) q = true ↔ ∃ i, i < a 15 0 ∧ s i = q ∧ a 10 (100 * i + t) = 1)
def gb_r4 (a : ga_A) (u : gk_St) : Prop := ∀ k, k < 100 → a 2 k = 1 → u.1 2 k = nI (a 3 k) ∧ u.1 3 k = nI (a 4 k) ∧ gb_T u k (a 5 k) (ga_T a k)
def gb_R (a : ga_A) (u : gk_St) : Prop := gb_r1 a u ∧ (∀ k, k < 100 → u.1 1 k = nI (a 2 k)) ∧ gb_T u 100 (a 0 0) (ga_P a) ∧ gb_r4 a u ∧ u.1 10 0 = nI (a 14 0) ∧ ∃ s, gb_S a u s
/-- an operation: both answer, alike, and the class goes on holding the state -/
def gs_op (F : gk_St → Option (Int32 × gk_St)) (G : gm_St → Option (Int32 × gm_St)) : Prop := ∀ (n : Nat) (a : ga_A) (u : gk_St), n < 512 → ga_W n a → gb_R a u → ∃ (r : Int32) (u' : gk_St) (a' : ga_A), F u = some (r, u') ∧ G (ga_v a) = some (r, ga_v a') ∧ ga_W (n + 1) a' ∧ gb_R a' u'
/-- an operation that only reads -/
theorem gs_read {F : gk_St → Option (Int32 × gk_St)} {G : gm_St → Option (Int32 × gm_St)} (h : ∀ (n : Nat) (a : ga_A) (u : gk_St), n < 512 → ga_W n a → gb_R a u → ∃ r : Int32, F u = some (r, u) ∧ G (ga_v a) = some (r, ga_v a)) : gs_op F G := by
  intro n a u hn hW hR
  obtain ⟨r, h1, h2⟩ := h n a u hn hW hR
  exact ⟨r, u, a, h1, h2, hW.up, hR⟩
theorem ga_term {a : ga_A} (h : ga_ok a) (h2 : ga_w2 a) {k : Nat} (hk : k < 100) (hp : a 2 k = 1) : a 3 k < 4 ∧ 1 ≤ a 5 k ∧ ga_tok (fun i => a 6 (16 * k + i)) (a 5 k) := by
  obtain ⟨j, hj, rfl⟩ := h2.2.2 k hk hp
  exact h.2.2.2.1 j hj
theorem ga_T_lt {a : ga_A} {k : Nat} (h : ga_tok (fun i => a 6 (16 * k + i)) (a 5 k)) : ∀ i, ga_T a k i < 128 := by
  intro i
  unfold ga_T
  by_cases q : i < a 5 k
  · rw [if_pos q]; have : a 6 (16 * k + i) ≤ 126 := (h.2 i q).2; omega
  · rw [if_neg q]; decide
theorem ga_P_lt {a : ga_A} (h : ga_tok (a 1) (a 0 0)) : ∀ i, ga_P a i < 128 := by
  intro i
  unfold ga_P
  by_cases q : i < a 0 0
  · rw [if_pos q]; have := (h.2 i q).2; omega
  · rw [if_neg q]; decide
theorem bk_cmpK {a : ga_A} {u : gk_St} (hok : ga_ok a) (h2 : ga_w2 a) (hR : gb_R a u) {k kd : Nat} (hk : k < 100) (hp : a 2 k = 1) (hkd : kd < 4) : ∃ c, fn_Tm_compareWith k (nI kd) 100 u = some (c, u) ∧ (c < 0 ↔ ga_K a k < ga_Q a kd) ∧ (c = 0 ↔ ga_K a k = ga_Q a kd) := by
  obtain ⟨t1, t2, t3⟩ := ga_term hok h2 hk hp
  obtain ⟨-, -, hP, h4, -⟩ := hR
  obtain ⟨r1, r2, r3⟩ := h4 k hk hp
  exact bk_cmp (ga_T_lt t3) (ga_P_lt hok.2.1) r1 t1 hkd r3.2.1 r3.2.2 hP.2.1 hP.2.2
theorem bk_inK {a : ga_A} {u : gk_St} (h2 : ga_w2 a) (hR : gb_R a u) {k : Nat} (hk : k < 100) : fn_Bk_inBook (nI k) u = some (if a 2 k = 1 then some k else none, u) := by
  rw [bk_inBook hk, hR.2.1 k hk]
  rcases h2.1 k hk with h | h
  · rw [h, if_pos (show nI 0 = 0 from rfl), if_neg (show ¬ (0 : Nat) = 1 by decide)]
  · rw [h, if_neg (show ¬ nI 1 = 0 by decide), if_pos rfl]
theorem md_isTerm {a : ga_A} (h2 : ga_w2 a) {k : Nat} (hk : k < 100) : fn_Md_isTerm (nI k) (ga_v a) = some (nI (a 2 k), ga_v a) := by
  have g : gj_in (nI k) 100 := nI_in hk (by decide)
  have c : (nI k).toNatClampNeg = k := nI_clamp (by omega)
  unfold fn_Md_isTerm
  rw [md_in, if_pos ⟨nI_pos' (by omega), show nI k ≤ (99 : Int32) from nI_le (b := 99) (by omega) (by decide)⟩, Option.bind_some]
  simp only [if_neg (show ¬ (1 : Int32) = 0 by decide), if_pos g, c, ga_vr]
  rcases h2.1 k hk with h | h
  · rw [h, if_pos (show nI 0 = 0 from rfl)]; rfl
  · rw [h, if_neg (show ¬ nI 1 = 0 by decide)]; rfl
theorem md_isTerm_o {p : Int32} (v : gm_St) (hp : p < 0 ∨ 100 ≤ p) : fn_Md_isTerm p v = some (0, v) := by
  unfold fn_Md_isTerm
  rw [md_in, if_neg (fun q => by
    rcases hp with h | h
    · exact absurd h (Int32.not_lt.mpr q.1)
    · exact absurd (Int32.le_trans h q.2) (by decide)), Option.bind_some, if_pos rfl]
/-- an int: below zero, or a number below m, or beyond -/
theorem ga_ix (p : Int32) {m : Nat} (hm : m < 2 ^ 31) : (p < 0 ∨ nI m ≤ p) ∨ ∃ j, j < m ∧ p = nI j := by
  rcases pk_ix p hm with h | h | h
  · exact Or.inl (Or.inl h)
  · exact Or.inl (Or.inr h)
  · exact Or.inr h
/-- `at` -/
theorem op_at (p : Int32) : gs_op (fn_Bk_at p) (fn_Md_at p) := by
  refine gs_read (fun n a u hn hW hR => ?_)
  obtain ⟨hok, -⟩ := hW
  obtain ⟨⟨r6, r5, -⟩, -⟩ := hR
  have h12 := hok.1
  unfold fn_Bk_at fn_Md_at
  rw [ga_vr]
  rcases ga_ix p (m := a 12 0) (by omega) with h | ⟨j, hj, rfl⟩
  · refine ⟨-2, ?_, ?_⟩
    · rw [bk_numberAt_o r6 h, Option.bind_some, if_pos rfl]
    · rw [md_in, if_neg (fun q => ?_), Option.bind_some, if_pos rfl]
      rcases h with h | h
      · exact absurd h (Int32.not_lt.mpr q.1)
      · by_cases h0 : a 12 0 = 0
        · rw [h0] at q
          exact absurd (Int32.le_trans q.1 q.2) (by decide)
        · rw [show nI (a 12 0) - 1 = nI (a 12 0 - 1) from pk_sub (a := a 12 0) (b := 1) (by omega)] at q
          exact absurd (Int32.le_trans h q.2) (nI_ge (by omega) (by omega))
  · have h7 := hok.2.2.1 j hj
    refine ⟨nI (a 7 j), ?_, ?_⟩
    · rw [bk_numberAt r6 h12 hj, Option.bind_some, r5 j hj, if_neg (fun q => ?_)]
      exact absurd (show nI (a 7 j) < 0 by rw [show nI (a 7 j) = -1 from q]; decide) (nI_pos (by omega))
    · have g : gj_in (nI j) 101 := nI_in (by omega) (by decide)
      have c : (nI j).toNatClampNeg = j := nI_clamp (by omega)
      rw [md_in, if_pos ⟨nI_pos' (by omega), by rw [show nI (a 12 0) - 1 = nI (a 12 0 - 1) from pk_sub (a := a 12 0) (b := 1) (by omega)]; exact nI_le (by omega) (by omega)⟩, Option.bind_some, if_neg (show ¬ (1 : Int32) = 0 by decide)]
      simp only [if_pos g, c, ga_vr]
/-- keys are apart: so are places -/
theorem ga_inj {a : ga_A} (h : ga_ok a) {i j : Nat} (hi : i < a 12 0) (hj : j < a 12 0) (e : a 7 i = a 7 j) : i = j := by
  rcases Nat.lt_trichotomy i j with q | q | q
  · have := h.2.2.2.2 i j q hj; rw [e] at this; omega
  · exact q
  · have := h.2.2.2.2 j i q hi; rw [e] at this; omega
theorem op_place (p : Int32) : gs_op (fn_Bk_place p) (fn_Md_place p) := by
  refine gs_read (fun n a u hn hW hR => ?_)
  obtain ⟨hok, h2, -⟩ := hW
  have h12 := hok.1
  unfold fn_Bk_place fn_Md_place
  rcases ga_ix p (m := 100) (by decide) with h | ⟨k, hk, rfl⟩
  · refine ⟨-1, ?_, ?_⟩
    · rw [bk_inBook_o h]; rfl
    · rw [md_isTerm_o _ h, Option.bind_some, if_pos rfl]
  · rw [bk_inK h2 hR hk, md_isTerm h2 hk]
    rcases h2.1 k hk with h | h
    · refine ⟨-1, ?_, ?_⟩
      · rw [if_neg (by omega)]; rfl
      · rw [h]; rfl
    · obtain ⟨j, hj, e⟩ := h2.2.2 k hk h
      refine ⟨nI j, ?_, ?_⟩
      · rw [if_pos h]
        show (fn_Lv_placeOf (nI k) u).bind _ = _
        rw [bk_placeOf hR.1.1 h12 hR.1.2.1 hok.2.2.1 hk hj e (fun i hi q => by have := ga_inj hok (by omega) hj (q.trans e.symm); omega)]
        rfl
      · rw [h, Option.bind_some, if_neg (show ¬ nI 1 = 0 by decide), md_placeOf a h12 hk hok.2.2.1 hj e (fun i hi q => ga_inj hok hi hj (q.trans e.symm))]
        rfl
