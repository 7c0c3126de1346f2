/-! versions: slots, bits; had -/
theorem bt_1 : ∀ j, j < 32 → bb_t 1 j = decide (j = 0) := by decide +kernel
theorem bt_sh {s i : Nat} (hs : s < 32) (hi : i < 32) : bb_t ((1 : Int32) <<< (nI s &&& 31)) i = decide (i = s) := by
  rw [bb_shl s hs 1 hi]
  rcases Nat.lt_or_ge i s with h | h
  · rw [decide_eq_false (by omega), Bool.false_and, decide_eq_false (by omega)]
  · rw [decide_eq_true h, Bool.true_and, bt_1 _ (by omega)]
    by_cases e : i = s
    · rw [decide_eq_true e, decide_eq_true (by omega)]
    · rw [decide_eq_false e, decide_eq_false (by omega)]
theorem bt_and {s : Nat} (hs : s < 32) (x : Int32) : (x &&& ((1 : Int32) <<< (nI s &&& 31))) = 0 ↔ bb_t x s = false := by
  constructor
  · intro h
    have := congrArg (fun z => bb_t z s) h
    simp only [bb_and, bt_sh hs hs, bb_0] at this
    simpa using this
  · intro h
    refine bb_ext (fun i hi => ?_)
    rw [bb_and, bt_sh hs hi, bb_0]
    by_cases e : i = s
    · rw [e, h]; rfl
    · rw [decide_eq_false e, Bool.and_false]
theorem bk_isKeptFor {u : gk_St} {k s : Nat} (hs : s < 32) : fn_Tm_isKeptFor k (nI s) u = some (if bb_t (u.1 4 k) s = true then 1 else 0, u) := by
  unfold fn_Tm_isKeptFor
  by_cases h : bb_t (u.1 4 k) s = true
  · rw [if_pos h, if_neg (fun q => by rw [(bt_and hs _).mp q] at h; cases h)]
  · rw [if_neg h, if_pos ((bt_and hs _).mpr (by cases hh : bb_t (u.1 4 k) s; rfl; exact absurd hh h))]
theorem bk_slotOf_2 {u : gk_St} {v : Int32} {s : Nat} (hs : s ≤ 6) (hu : ∀ j, j < s → u.1 9 j ≠ v) (he : s < 6 → u.1 9 s = v) : ∀ (d x n : Nat), x + d = s → d < n → fn_Bk_slotOf_2 n v (nI x) u = some (if s < 6 then nI s else -1, u) := by
  intro d
  induction d with
  | zero =>
    intro x n hx hn
    obtain ⟨n, rfl⟩ := ga_su hn
    obtain rfl : x = s := by omega
    rw [fn_Bk_slotOf_2]
    by_cases h : x < 6
    · have g : gj_in (nI x) 6 := nI_in h (by decide)
      have c : (nI x).toNatClampNeg = x := nI_clamp (by omega)
      rw [if_neg (show ¬ (6 : Int32) ≤ nI x from nI_ge (b := 6) h (by decide))]
      simp only [if_pos g, c, he h, if_pos h, ite_true]
    · rw [if_pos (show (6 : Int32) ≤ nI x from nI_le (a := 6) (by omega) (by omega)), if_neg h]
  | succ d ih =>
    intro x n hx hn
    obtain ⟨n, rfl⟩ := ga_su hn
    have g : gj_in (nI x) 6 := nI_in (by omega) (by decide)
    have c : (nI x).toNatClampNeg = x := nI_clamp (by omega)
    rw [fn_Bk_slotOf_2, if_neg (show ¬ (6 : Int32) ≤ nI x from nI_ge (b := 6) (by omega) (by decide))]
    simp only [if_pos g, c, if_neg (hu x (by omega)), nI_1]
    exact ih (x + 1) n (by omega) (by omega)
theorem bk_slotOf_at {u : gk_St} {v : Int32} {s : Nat} (hs : s < 6) (he : u.1 9 s = v) (hu : ∀ j, j < s → u.1 9 j ≠ v) : fn_Bk_slotOf v u = some (nI s, u) := by
  have := bk_slotOf_2 (by omega) hu (fun _ => he) s 0 gk_fu (by omega) (by unfold gk_fu; omega)
  rw [if_pos hs] at this
  exact this
theorem bk_slotOf_no {u : gk_St} {v : Int32} (hu : ∀ j, j < 6 → u.1 9 j ≠ v) : fn_Bk_slotOf v u = some (-1, u) := by
  have := bk_slotOf_2 (s := 6) (Nat.le_refl _) hu (fun h => absurd h (by omega)) 6 0 gk_fu (by omega) (by decide)
  exact this
theorem ga_w8_inj {n : Nat} {a : ga_A} (h : ga_w8 n a) {i j : Nat} (hi : i < a 15 0) (hj : j < a 15 0) (e : a 9 i = a 9 j) : i = j := by
  rcases Nat.lt_trichotomy i j with q | q | q
  · have := h.2.2.2.1 i j q hj; omega
  · exact q
  · have := h.2.2.2.1 j i q hi; omega
/-- what a slot holds: a kept version's number, or -1 -/
theorem gb_slot {a : ga_A} {u : gk_St} {s : Nat → Nat} (hS : gb_S a u s) {q : Nat} (hq : q < 6) : (∃ i, i < a 15 0 ∧ s i = q ∧ u.1 9 q = nI (a 9 i)) ∨ ((∀ i, i < a 15 0 → s i ≠ q) ∧ u.1 9 q = -1) := by
  by_cases h : ∃ i, i < a 15 0 ∧ s i = q
  · obtain ⟨i, hi, e⟩ := h
    exact Or.inl ⟨i, hi, e, by rw [← e]; exact (hS.1 i hi).2⟩
  · have h' : ∀ i, i < a 15 0 → s i ≠ q := fun i hi e => h ⟨i, hi, e⟩
    exact Or.inr ⟨h', hS.2.2.1 q hq h'⟩
theorem bk_keptSlot_at {n : Nat} {a : ga_A} {u : gk_St} {s : Nat → Nat} (hn : n < 512) (h8 : ga_w8 n a) (hS : gb_S a u s) {i : Nat} (hi : i < a 15 0) : fn_Bk_keptSlot (nI (a 9 i)) u = some (nI (s i), u) := by
  have hen := h8.1
  have h9 := h8.2.2.1 i hi
  unfold fn_Bk_keptSlot
  rw [if_pos (nI_pos' (by omega)), bk_slotOf_at (hS.1 i hi).1 (hS.1 i hi).2 (fun j hj e => ?_)]
  · rfl
  · rcases gb_slot hS (q := j) (by have := (hS.1 i hi).1; omega) with ⟨i', h1, h2, h3⟩ | ⟨-, h3⟩
    · have h9' := h8.2.2.1 i' h1
      have := ga_w8_inj h8 h1 hi ((nI_eq (by omega) (by omega)).mp (h3.symm.trans e))
      subst this
      omega
    · exact absurd (show nI (a 9 i) < 0 by rw [← e, h3]; decide) (nI_pos (by omega))
theorem bk_keptSlot_no {n : Nat} {a : ga_A} {u : gk_St} {s : Nat → Nat} {v : Int32} (hS : gb_S a u s) (h : ∀ i, i < a 15 0 → nI (a 9 i) ≠ v) : fn_Bk_keptSlot v u = some (-1, u) := by
  unfold fn_Bk_keptSlot
  by_cases h0 : 0 ≤ v
  · rw [if_pos h0, bk_slotOf_no (fun j hj e => ?_)]
    · rfl
    · rcases gb_slot hS hj with ⟨i', h1, h2, h3⟩ | ⟨-, h3⟩
      · exact h i' h1 (h3.symm.trans e)
      · rw [← e, h3] at h0
        exact absurd h0 (by decide)
  · rw [if_neg h0]
theorem md_keptAs_4 {n : Nat} {a : ga_A} (hn : n < 512) (h8 : ga_w8 n a) {v r : Int32} (h : (∃ i, i < a 15 0 ∧ nI (a 9 i) = v ∧ r = nI i) ∨ ((∀ i, i < a 15 0 → nI (a 9 i) ≠ v) ∧ r = -1)) : ∀ (d x m : Nat) (y : Int32), x + d = a 15 0 → d < m → ((∃ i, i < x ∧ nI (a 9 i) = v ∧ y = nI i) ∨ ((∀ i, i < x → nI (a 9 i) ≠ v) ∧ y = -1)) → fn_Md_keptAs_4 m v y (nI x) (ga_v a) = some (r, ga_v a) := by
  have h6 := h8.2.1
  have hen := h8.1
  intro d
  induction d with
  | zero =>
    intro x m y hx hm hy
    obtain ⟨m, rfl⟩ := ga_su hm
    obtain rfl : x = a 15 0 := by omega
    rw [fn_Md_keptAs_4, ga_vr, if_pos (nI_le (Nat.le_refl _) (by omega))]
    congr 2
    rcases h with ⟨i, i1, i2, i3⟩ | ⟨i1, i2⟩
    · rcases hy with ⟨j, j1, j2, j3⟩ | ⟨j1, -⟩
      · have a1 := h8.2.2.1 i i1
        have a2 := h8.2.2.1 j j1
        rw [i3, j3, ga_w8_inj h8 j1 i1 ((nI_eq (by omega) (by omega)).mp (j2.trans i2.symm))]
      · exact absurd i2 (j1 i i1)
    · rcases hy with ⟨j, j1, j2, -⟩ | ⟨-, j2⟩
      · exact absurd j2 (i1 j j1)
      · rw [i2, j2]
  | succ d ih =>
    intro x m y hx hm hy
    obtain ⟨m, rfl⟩ := ga_su hm
    have g : gj_in (nI x) 6 := nI_in (by omega) (by decide)
    have c : (nI x).toNatClampNeg = x := nI_clamp (by omega)
    rw [fn_Md_keptAs_4, ga_vr, if_neg (nI_ge (by omega) (by omega))]
    simp only [if_pos g, c, ga_vr, nI_1]
    by_cases e : nI (a 9 x) = v
    · rw [if_pos e]
      exact ih (x + 1) m _ (by omega) (by omega) (Or.inl ⟨x, by omega, e, rfl⟩)
    · rw [if_neg e]
      refine ih (x + 1) m y (by omega) (by omega) ?_
      rcases hy with ⟨j, j1, j2, j3⟩ | ⟨j1, j2⟩
      · exact Or.inl ⟨j, by omega, j2, j3⟩
      · refine Or.inr ⟨fun i hi => ?_, j2⟩
        rcases Nat.lt_succ_iff_lt_or_eq.mp hi with q | q
        · exact j1 i q
        · rw [q]; exact e
theorem md_keptAs {n : Nat} {a : ga_A} (hn : n < 512) (h8 : ga_w8 n a) {v r : Int32} (h : (∃ i, i < a 15 0 ∧ nI (a 9 i) = v ∧ r = nI i) ∨ ((∀ i, i < a 15 0 → nI (a 9 i) ≠ v) ∧ r = -1)) : fn_Md_keptAs v (ga_v a) = some (r, ga_v a) :=
  md_keptAs_4 hn h8 h (a 15 0) 0 gm_fu (-1) (by omega) (by have := h8.2.1; unfold gm_fu; omega) (Or.inr ⟨fun i hi => absurd hi (by omega), rfl⟩)
theorem md_isKeptBy {n : Nat} {a : ga_A} (h8 : ga_w8 n a) {i t : Nat} (hi : i < a 15 0) (ht : t < 100) : fn_Md_isKeptBy (nI i) (nI t) (ga_v a) = some (nI (a 10 (100 * i + t)), ga_v a) := by
  have h6 := h8.2.1
  have e : (100 : Int32) * nI i + nI t = nI (100 * i + t) := by rw [show (100 : Int32) = nI 100 from rfl, pk_mul, nI_add]
  have g : gj_in (nI (100 * i + t)) 600 := nI_in (by omega) (by decide)
  have c : (nI (100 * i + t)).toNatClampNeg = 100 * i + t := nI_clamp (by omega)
  have g1 : gj_01 (nI (a 10 (100 * i + t))) := by
    rcases (h8.2.2.2.2 i t hi ht).1 with h | h
    · rw [h]; exact Or.inl rfl
    · rw [h]; exact Or.inr rfl
  unfold fn_Md_isKeptBy
  simp only [e, if_pos g, c, ga_vr, if_pos g1]
theorem gb_bit {n : Nat} {a : ga_A} {u : gk_St} {s : Nat → Nat} (hS : gb_S a u s) {i t : Nat} (hi : i < a 15 0) (ht : t < 100) (hp : a 2 t = 1) : bb_t (u.1 4 t) (s i) = true ↔ a 10 (100 * i + t) = 1 := by
  rw [hS.2.2.2 t ht hp (s i) (by have := (hS.1 i hi).1; omega)]
  exact ⟨fun ⟨j, j1, j2, j3⟩ => by rw [← hS.2.1 j i j1 hi j2]; exact j3, fun h => ⟨i, hi, rfl, h⟩⟩
theorem bk_countKeptFor_4 {a : ga_A} {u : gk_St} (h2 : ga_w2 a) (hR : gb_R a u) {q : Nat} (hq : q < 32) : ∀ (d x n : Nat), x + d = 100 → d < n → fn_Bk_countKeptFor_4 n (nI q) (nI (gn_cnt (fun k => decide (a 2 k = 1) && bb_t (u.1 4 k) q) x)) (nI x) u = some (nI (gn_cnt (fun k => decide (a 2 k = 1) && bb_t (u.1 4 k) q) 100), u) := by
  intro d
  induction d with
  | zero =>
    intro x n hx hn
    obtain ⟨n, rfl⟩ := ga_su hn
    obtain rfl : x = 100 := by omega
    rw [fn_Bk_countKeptFor_4, if_pos (show (100 : Int32) ≤ nI 100 by decide)]
  | succ d ih =>
    intro x n hx hn
    obtain ⟨n, rfl⟩ := ga_su hn
    have hc : gn_cnt (fun k => decide (a 2 k = 1) && bb_t (u.1 4 k) q) (x + 1) = gn_cnt (fun k => decide (a 2 k = 1) && bb_t (u.1 4 k) q) x + (if (decide (a 2 x = 1) && bb_t (u.1 4 x) q) = true then 1 else 0) := rfl
    have ih' := ih (x + 1) n (by omega) (by omega)
    rw [hc] at ih'
    rw [fn_Bk_countKeptFor_4, if_neg (show ¬ (100 : Int32) ≤ nI x from nI_ge (b := 100) (by omega) (by decide)), bk_inK h2 hR (by omega), nI_1]
    by_cases hp : a 2 x = 1
    · rw [if_pos hp, Option.bind_some]
      show (fn_Tm_isKeptFor x (nI q) u).bind _ = _
      rw [bk_isKeptFor hq, Option.bind_some]
      by_cases hb : bb_t (u.1 4 x) q = true
      · simp only [if_pos hb, if_neg (show ¬ (1 : Int32) = 0 by decide), nI_1]
        rw [if_pos (by rw [decide_eq_true hp, hb]; rfl)] at ih'
        exact ih'
      · simp only [if_neg hb, ite_true]
        rw [if_neg (by rw [decide_eq_true hp, Bool.true_and]; exact hb)] at ih'
        exact ih'
    · rw [if_neg hp]
      rw [if_neg (by rw [decide_eq_false hp]; simp)] at ih'
      exact ih'
theorem md_had_47 {n : Nat} {a : ga_A} (h8 : ga_w8 n a) {i : Nat} (hi : i < a 15 0) (x1 x2 : Int32) : ∀ (d x m : Nat), x + d = 100 → d < m → fn_Md_had_47 m x1 x2 (nI i) (nI (gn_cnt (fun t => decide (a 10 (100 * i + t) = 1)) x)) (nI x) (ga_v a) = some (nI (gn_cnt (fun t => decide (a 10 (100 * i + t) = 1)) 100), ga_v a) := by
  intro d
  induction d with
  | zero =>
    intro x n hx hn
    obtain ⟨n, rfl⟩ := ga_su hn
    obtain rfl : x = 100 := by omega
    rw [fn_Md_had_47, if_pos (show (100 : Int32) ≤ nI 100 by decide)]
  | succ d ih =>
    intro x m hx hm
    obtain ⟨m, rfl⟩ := ga_su hm
    have hc : gn_cnt (fun t => decide (a 10 (100 * i + t) = 1)) (x + 1) = gn_cnt (fun t => decide (a 10 (100 * i + t) = 1)) x + (if decide (a 10 (100 * i + x) = 1) = true then 1 else 0) := rfl
    have ih' := ih (x + 1) m (by omega) (by omega)
    rw [hc] at ih'
    rw [fn_Md_had_47, if_neg (show ¬ (100 : Int32) ≤ nI x from nI_ge (b := 100) (by omega) (by decide)), md_isKeptBy h8 hi (by omega), Option.bind_some, nI_1]
    rcases (h8.2.2.2.2 i x hi (by omega)).1 with h | h
    · rw [h]
      show (if nI 0 = 0 then _ else _) = _
      rw [if_pos (show nI 0 = 0 from rfl), show (0 : Int32) = nI 0 from rfl, nI_add]
      rw [if_neg (by rw [h]; decide)] at ih'
      exact ih'
    · rw [h]
      show (if nI 1 = 0 then _ else _) = _
      rw [if_neg (show ¬ nI 1 = 0 by decide), nI_1]
      rw [if_pos (by rw [h]; decide)] at ih'
      exact ih'
theorem op_had (v w : Int32) : gs_op (fn_Bk_had v w) (fn_Md_had v w) := by
  refine gs_read (fun n a u hn hW hR => ?_)
  obtain ⟨hok, h2, -, -, h8⟩ := hW
  obtain ⟨s, hS⟩ := hR.2.2.2.2.2
  have h6 := h8.2.1
  unfold fn_Bk_had fn_Md_had
  by_cases hv : ∃ i, i < a 15 0 ∧ nI (a 9 i) = v
  · obtain ⟨i, hi, rfl⟩ := hv
    have hsi := (hS.1 i hi).1
    rw [bk_keptSlot_at hn h8 hS hi, md_keptAs hn h8 (Or.inl ⟨i, hi, rfl, rfl⟩), Option.bind_some, Option.bind_some, if_neg (fun q => absurd (show nI (s i) < 0 by rw [show nI (s i) = -1 from q]; decide) (nI_pos (by omega))), if_neg (nI_pos (by omega)), md_in, Option.bind_some]
    rcases ga_ix w (m := 100) (by decide) with (h | h) | ⟨k, hk, rfl⟩
    · by_cases h1 : w = -1
      · subst h1
        rw [if_neg (by decide), if_pos (by decide), if_pos rfl]
        simp only [if_pos (show (-1 : Int32) ≤ -1 ∧ (-1 : Int32) ≤ 99 by decide), if_neg (show ¬ (1 : Int32) = 0 by decide), if_pos (show (-1 : Int32) < 0 by decide)]
        have e1 := bk_countKeptFor_4 h2 hR (q := s i) (by omega) 100 0 gk_fu (by omega) (by decide)
        have e2 := md_had_47 h8 hi (nI (a 9 i)) (-1) 100 0 gm_fu (by omega) (by decide)
        have e3 : gn_cnt (fun k => decide (a 2 k = 1) && bb_t (u.1 4 k) (s i)) 100 = gn_cnt (fun t => decide (a 10 (100 * i + t) = 1)) 100 := gn_cong (fun t ht => by
          have hw := (h8.2.2.2.2 i t hi ht).2
          by_cases hp : a 2 t = 1
          · rw [decide_eq_true hp, Bool.true_and]
            have hb := gb_bit (n := n) hS hi ht hp
            by_cases hx : a 10 (100 * i + t) = 1
            · rw [hb.mpr hx, decide_eq_true hx]
            · rw [decide_eq_false hx]
              cases hh : bb_t (u.1 4 t) (s i)
              · rfl
              · exact absurd (hb.mp hh) hx
          · rw [decide_eq_false hp, Bool.false_and, decide_eq_false (fun q => hp (hw q))])
        rw [e3] at e1
        refine ⟨_, ?_, e2⟩
        show (fn_Bk_countKeptFor (nI (s i)) u).bind _ = _
        unfold fn_Bk_countKeptFor
        rw [show fn_Bk_countKeptFor_4 gk_fu (nI (s i)) 0 0 u = _ from e1]
        rfl
      · have hlt : w < -1 := by
          rw [Int32.lt_iff_toInt_lt, show (0 : Int32).toInt = 0 from rfl] at h
          rw [Int32.lt_iff_toInt_lt, show (-1 : Int32).toInt = -1 from rfl]
          have : w.toInt ≠ -1 := fun q => h1 (Int32.toInt_inj.mp (by rw [q]; rfl))
          omega
        rw [if_pos hlt]
        simp only [if_neg (show ¬ ((-1 : Int32) ≤ w ∧ w ≤ 99) from fun q => absurd hlt (Int32.not_lt.mpr q.1)), ite_true]
        exact ⟨-1, rfl, rfl⟩
    · rw [if_neg (fun q => absurd (Int32.lt_of_le_of_lt h q) (by decide)), if_neg (show ¬ w < (100 : Int32) from Int32.not_lt.mpr h)]
      simp only [if_neg (show ¬ ((-1 : Int32) ≤ w ∧ w ≤ 99) from fun q => absurd (Int32.le_trans h q.2) (by decide)), ite_true]
      exact ⟨-1, rfl, rfl⟩
    · have hk0 : (0 : Int32) ≤ nI k := nI_pos' (by omega)
      have hk1 : ¬ nI k = -1 := fun q => absurd hk0 (by rw [q]; decide)
      rw [if_neg (fun q => absurd (Int32.lt_of_le_of_lt hk0 q) (by decide)), if_pos (show nI k < (100 : Int32) from nI_lt (b := 100) hk (by decide)), if_neg hk1]
      simp only [if_pos (show (-1 : Int32) ≤ nI k ∧ nI k ≤ 99 from ⟨Int32.le_trans (by decide) hk0, nI_le (b := 99) (by omega) (by decide)⟩), if_neg (show ¬ (1 : Int32) = 0 by decide), if_neg (show ¬ nI k < 0 from nI_pos (by omega))]
      rw [md_isKeptBy h8 hi hk, bk_inK h2 hR hk]
      have hw := h8.2.2.2.2 i k hi hk
      by_cases hp : a 2 k = 1
      · rw [if_pos hp, Option.bind_some, Option.bind_some]
        have hb := gb_bit (n := n) hS hi hk hp
        show ∃ r, (fn_Tm_isKeptFor k (nI (s i)) u).bind _ = _ ∧ _
        rw [bk_isKeptFor (by omega), Option.bind_some]
        rcases hw.1 with h | h
        · simp only [if_neg (show ¬ bb_t (u.1 4 k) (s i) = true from fun q => by rw [hb.mp q] at h; cases h), h]
          exact ⟨0, rfl, rfl⟩
        · simp only [if_pos (hb.mpr h), h]
          exact ⟨1, rfl, rfl⟩
      · rw [if_neg hp]
        rcases hw.1 with h | h
        · rw [h]; exact ⟨0, rfl, rfl⟩
        · exact absurd (hw.2 h) hp
  · have hv' : ∀ i, i < a 15 0 → nI (a 9 i) ≠ v := fun i hi e => hv ⟨i, hi, e⟩
    rw [bk_keptSlot_no (n := n) hS hv', md_keptAs hn h8 (Or.inr ⟨hv', rfl⟩)]
    exact ⟨-1, rfl, rfl⟩
