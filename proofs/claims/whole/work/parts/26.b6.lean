/-! the class's reads, over what its rows hold -/
theorem gk_i1 (u : gk_St) (c k : Nat) (v : Int32) : (gk_sI u c k v).1 c k = v := by simp [gk_sI]
theorem gk_i2 {u : gk_St} {c k c' k' : Nat} {v : Int32} (h : ¬ (c' = c ∧ k' = k)) : (gk_sI u c k v).1 c' k' = u.1 c' k' := by simp only [gk_sI, if_neg h]
theorem gk_ic {u : gk_St} {c k c' k' : Nat} {v : Int32} (h : c' ≠ c) : (gk_sI u c k v).1 c' k' = u.1 c' k' := gk_i2 (fun q => h q.1)
theorem gk_ik {u : gk_St} {c k k' : Nat} {v : Int32} (h : k' ≠ k) : (gk_sI u c k v).1 c k' = u.1 c k' := gk_i2 (fun q => h q.2)
theorem gk_i3 (u : gk_St) (c k : Nat) (v : Int32) : (gk_sI u c k v).2 = u.2 := rfl
theorem gk_l1 (u : gk_St) (c k : Nat) (v : Int64) : (gk_sL u c k v).2 c k = v := by simp [gk_sL]
theorem gk_l2 {u : gk_St} {c k c' k' : Nat} {v : Int64} (h : ¬ (c' = c ∧ k' = k)) : (gk_sL u c k v).2 c' k' = u.2 c' k' := by simp only [gk_sL, if_neg h]
theorem gk_l3 (u : gk_St) (c k : Nat) (v : Int64) : (gk_sL u c k v).1 = u.1 := rfl
theorem bk_isKind (p : Int32) (u : gk_St) : fn_Bk_isKind p u = some (if 0 ≤ p ∧ p ≤ 3 then 1 else 0, u) := by
  unfold fn_Bk_isKind
  by_cases h1 : p < 0
  · rw [if_pos h1, if_neg (fun q => absurd h1 (Int32.not_lt.mpr q.1))]
  · rw [if_neg h1]
    by_cases h2 : 4 ≤ p
    · rw [if_pos h2, if_neg (fun q => absurd (Int32.le_trans h2 q.2) (by decide))]
    · have h3 : p ≤ 3 := by
        have := Int32.not_le.mp h2
        rw [Int32.lt_iff_toInt_lt, show (4 : Int32).toInt = 4 from rfl] at this
        rw [Int32.le_iff_toInt_le, show (3 : Int32).toInt = 3 from rfl]
        omega
      rw [if_neg h2, if_pos ⟨Int32.not_lt.mp h1, h3⟩]
theorem bk_numberAt {u : gk_St} {mn j : Nat} (h6 : u.1 6 0 = nI mn) (hm : mn ≤ 100) (hj : j < mn) : fn_Lv_numberAt (nI j) u = some (u.1 5 j, u) := by
  unfold fn_Lv_numberAt
  rw [if_neg (nI_pos (by omega)), h6, if_neg (nI_ge hj (by omega)), if_neg (show ¬ (100 : Int32) ≤ nI j from nI_ge (b := 100) (by omega) (by decide)), if_pos (nI_in (by omega) (by decide)), nI_clamp (by omega)]
theorem bk_numberAt_o {u : gk_St} {mn : Nat} {p : Int32} (h6 : u.1 6 0 = nI mn) (hp : p < 0 ∨ nI mn ≤ p) : fn_Lv_numberAt p u = some (-1, u) := by
  unfold fn_Lv_numberAt
  by_cases h : p < 0
  · rw [if_pos h]
  · rw [if_neg h, h6, if_pos (hp.resolve_left h)]
theorem bk_inBook {u : gk_St} {k : Nat} (hk : k < 100) : fn_Bk_inBook (nI k) u = some (if u.1 1 k = 0 then none else some k, u) := by
  unfold fn_Bk_inBook
  rw [if_neg (nI_pos (by omega)), if_pos (show nI k < (100 : Int32) from nI_lt (b := 100) hk (by decide)), if_pos (nI_in hk (by decide)), nI_clamp (by omega)]
  split <;> rfl
theorem bk_inBook_o {u : gk_St} {p : Int32} (hp : p < 0 ∨ 100 ≤ p) : fn_Bk_inBook p u = some (none, u) := by
  unfold fn_Bk_inBook
  by_cases h : p < 0
  · rw [if_pos h]
  · rw [if_neg h, if_neg (Int32.not_lt.mpr (hp.resolve_left h))]
theorem bk_sizeOf {u : gk_St} {lv j : Nat} (h8 : u.1 8 0 = nI lv) (hl : lv ≤ 100) (hj : j < lv) : fn_Lv_sizeOf (nI j) u = some (u.1 7 j, u) := by
  unfold fn_Lv_sizeOf
  rw [if_neg (nI_pos (by omega)), h8, if_neg (nI_ge hj (by omega)), if_neg (show ¬ (100 : Int32) ≤ nI j from nI_ge (b := 100) (by omega) (by decide)), if_pos (nI_in (by omega) (by decide)), nI_clamp (by omega)]
theorem bk_startOf_4 {u : gk_St} {f : Nat → Nat} {lv l : Nat} (h8 : u.1 8 0 = nI lv) (hl : lv ≤ 100) (hs : ∀ j, j < lv → u.1 7 j = nI (f j)) (hll : l ≤ lv) : ∀ (d x n : Nat), x + d = l → d < n → fn_Lv_startOf_4 n (nI l) (nI (ga_pre f x)) (nI x) u = some (nI (ga_pre f l), u) := by
  intro d
  induction d with
  | zero =>
    intro x n hx hn
    obtain ⟨n, rfl⟩ := ga_su hn
    obtain rfl : x = l := by omega
    rw [fn_Lv_startOf_4, if_pos (nI_le (Nat.le_refl _) (by omega))]
  | succ d ih =>
    intro x n hx hn
    obtain ⟨n, rfl⟩ := ga_su hn
    rw [fn_Lv_startOf_4, if_neg (nI_ge (by omega) (by omega)), h8, if_neg (nI_ge (by omega) (by omega)), bk_sizeOf h8 hl (by omega), Option.bind_some, hs x (by omega), nI_add, nI_1]
    exact ih (x + 1) n (by omega) (by omega)
theorem bk_startOf {u : gk_St} {f : Nat → Nat} {lv l : Nat} (h8 : u.1 8 0 = nI lv) (hl : lv ≤ 100) (hs : ∀ j, j < lv → u.1 7 j = nI (f j)) (hll : l ≤ lv) : fn_Lv_startOf (nI l) u = some (nI (ga_pre f l), u) :=
  bk_startOf_4 h8 hl hs hll l 0 gk_fu (by omega) (by unfold gk_fu; omega)
/-- the first leaf that reaches beyond p, else the last one -/
def ga_leaf (f : Nat → Nat) (lv p l : Nat) : Prop := l < lv ∧ (∀ j, j < l → ga_pre f (j + 1) ≤ p) ∧ (p < ga_pre f (l + 1) ∨ l + 1 = lv)
theorem ga_leaf_ex (f : Nat → Nat) {lv : Nat} (h : 0 < lv) (p : Nat) : ∃ l, ga_leaf f lv p l := by
  obtain ⟨l, h1, h2⟩ := pk_least (fun l => p < ga_pre f (l + 1) ∨ lv ≤ l + 1) ⟨lv, Or.inr (by omega)⟩
  refine ⟨l, ?_, fun j hj => ?_, ?_⟩
  · rcases Nat.lt_or_ge l lv with q | q
    · exact q
    · exact absurd (Or.inr (by omega)) (h2 (l - 1) (by omega))
  · rcases Nat.lt_or_ge p (ga_pre f (j + 1)) with q | q
    · exact absurd (Or.inl q) (h2 j hj)
    · exact q
  · rcases h1 with q | q
    · exact Or.inl q
    · rcases Nat.lt_or_ge (l + 1) lv with r | r
      · omega
      · rcases Nat.lt_or_ge lv (l + 1) with s | s
        · exact absurd (Or.inr (by omega)) (h2 (l - 1) (by omega))
        · exact Or.inr (by omega)
theorem bk_leafOf_4 {u : gk_St} {f : Nat → Nat} {lv p l : Nat} (h8 : u.1 8 0 = nI lv) (hl : lv ≤ 100) (hs : ∀ j, j < lv → u.1 7 j = nI (f j)) (hf : ∀ j, j < lv → f j ≤ 9) (hb : ga_pre f lv ≤ 1000) (hp : p < 2 ^ 30) (hll : ga_leaf f lv p l) : ∀ (d x n : Nat), x + d = lv → (x ≤ l ∨ x = lv ∧ l + 1 = lv) → d < n → fn_Lv_leafOf_4 n (nI p) (nI (ga_pre f x)) (nI x) u = some (nI l, u) := by
  obtain ⟨l1, l2, l3⟩ := hll
  intro d
  induction d with
  | zero =>
    intro x n hx hxl hn
    obtain ⟨n, rfl⟩ := ga_su hn
    obtain rfl : x = lv := by omega
    rw [fn_Lv_leafOf_4, h8, if_pos (nI_le (Nat.le_refl _) (by omega)), show nI x - 1 = nI (x - 1) from pk_sub (a := x) (b := 1) (by omega)]
    unfold fn_Ma_max
    rw [show (0 : Int32) = nI 0 from rfl, if_neg (nI_nlt (Nat.zero_le _) (by omega)), show x - 1 = l by omega]
  | succ d ih =>
    intro x n hx hxl hn
    obtain ⟨n, rfl⟩ := ga_su hn
    have hxl : x ≤ l := by omega
    have hm := ga_pre_mono f (i := x + 1) (j := lv) (by omega)
    rw [fn_Lv_leafOf_4, h8, if_neg (nI_ge (by omega) (by omega)), bk_sizeOf h8 hl (by omega), Option.bind_some, hs x (by omega), nI_add, nI_1]
    show (if nI (ga_pre f (x + 1)) ≤ nI p then fn_Lv_leafOf_4 n (nI p) (nI (ga_pre f (x + 1))) (nI (x + 1)) u else some (nI x, u)) = _
    by_cases h : ga_pre f (x + 1) ≤ p
    · rw [if_pos (nI_le h (by omega))]
      exact ih (x + 1) n (by omega) (by
        rcases Nat.lt_or_ge x l with q | q
        · exact Or.inl q
        · obtain rfl : x = l := by omega
          rcases l3 with r | r
          · omega
          · exact Or.inr ⟨r, r⟩) (by omega)
    · rw [if_neg (nI_ge (by omega) (by omega))]
      rcases Nat.lt_or_ge x l with q | q
      · exact absurd (l2 x q) h
      · rw [show x = l by omega]
theorem bk_leafOf {u : gk_St} {f : Nat → Nat} {lv p l : Nat} (h8 : u.1 8 0 = nI lv) (hl : lv ≤ 100) (hs : ∀ j, j < lv → u.1 7 j = nI (f j)) (hf : ∀ j, j < lv → f j ≤ 9) (hb : ga_pre f lv ≤ 1000) (hp : p < 2 ^ 30) (hll : ga_leaf f lv p l) : fn_Lv_leafOf (nI p) u = some (nI l, u) :=
  bk_leafOf_4 h8 hl hs hf hb hp hll lv 0 gk_fu (by omega) (Or.inl (Nat.zero_le _)) (by unfold gk_fu; omega)
theorem bk_leafOf0 {u : gk_St} (p : Int32) (h8 : u.1 8 0 = 0) : fn_Lv_leafOf p u = some (0, u) := by
  unfold fn_Lv_leafOf
  rw [show gk_fu = 999 + 1 from rfl, fn_Lv_leafOf_4, h8, if_pos (by decide)]
  rfl
/-- the place of a number: the first that holds it -/
theorem bk_placeOf_2 {u : gk_St} {g : Nat → Nat} {mn p t : Nat} (h6 : u.1 6 0 = nI mn) (hm : mn ≤ 100) (h5 : ∀ j, j < mn → u.1 5 j = nI (g j)) (hg : ∀ j, j < mn → g j < 100) (ht : t < 100) (hp : p < mn) (hq : g p = t) (hu : ∀ j, j < p → g j ≠ t) : ∀ (d x n : Nat), x + d = p → d < n → fn_Lv_placeOf_2 n (nI t) (nI x) u = some (nI p, u) := by
  intro d
  induction d with
  | zero =>
    intro x n hx hn
    obtain ⟨n, rfl⟩ := ga_su hn
    obtain rfl : x = p := by omega
    rw [fn_Lv_placeOf_2, h6, if_neg (nI_ge hp (by omega)), bk_numberAt h6 hm hp, Option.bind_some, h5 x hp, if_pos (by rw [hq])]
  | succ d ih =>
    intro x n hx hn
    obtain ⟨n, rfl⟩ := ga_su hn
    have := hg x (by omega)
    rw [fn_Lv_placeOf_2, h6, if_neg (nI_ge (by omega) (by omega)), bk_numberAt h6 hm (by omega), Option.bind_some, h5 x (by omega), if_neg (fun q => hu x (by omega) ((nI_eq (by omega) (by omega)).mp q)), nI_1]
    exact ih (x + 1) n (by omega) (by omega)
theorem bk_placeOf {u : gk_St} {g : Nat → Nat} {mn p t : Nat} (h6 : u.1 6 0 = nI mn) (hm : mn ≤ 100) (h5 : ∀ j, j < mn → u.1 5 j = nI (g j)) (hg : ∀ j, j < mn → g j < 100) (ht : t < 100) (hp : p < mn) (hq : g p = t) (hu : ∀ j, j < p → g j ≠ t) : fn_Lv_placeOf (nI t) u = some (nI p, u) :=
  bk_placeOf_2 h6 hm h5 hg ht hp hq hu p 0 gk_fu (by omega) (by unfold gk_fu; omega)
