/-! the abstract state: numbers, laid out as the reference has them -/
abbrev ga_A : Type := Nat → Nat → Nat
def ga_v (a : ga_A) : gm_St := (fun c k => nI (a c k), fun _ _ => 0)
def ga_s (a : ga_A) (c k x : Nat) : ga_A := fun c' k' => if c' = c ∧ k' = k then x else a c' k'
/-- a component as a whole -/
def ga_c (a : ga_A) (c : Nat) (f : Nat → Nat) : ga_A := fun c' k' => if c' = c then f k' else a c' k'
theorem ga_r1 (a : ga_A) (c k x : Nat) : ga_s a c k x c k = x := by simp [ga_s]
theorem ga_r2 {a : ga_A} {c k x c' k' : Nat} (h : ¬ (c' = c ∧ k' = k)) : ga_s a c k x c' k' = a c' k' := by simp only [ga_s, if_neg h]
theorem ga_rc {a : ga_A} {c k x c' k' : Nat} (h : c' ≠ c) : ga_s a c k x c' k' = a c' k' := ga_r2 (fun q => h q.1)
theorem ga_rk {a : ga_A} {c k x k' : Nat} (h : k' ≠ k) : ga_s a c k x c k' = a c k' := ga_r2 (fun q => h q.2)
theorem ga_c1 (a : ga_A) (c : Nat) (f : Nat → Nat) (k : Nat) : ga_c a c f c k = f k := by simp [ga_c]
theorem ga_c2 {a : ga_A} {c : Nat} {f : Nat → Nat} {c' k : Nat} (h : c' ≠ c) : ga_c a c f c' k = a c' k := by simp [ga_c, h]
theorem ga_vs (a : ga_A) (c k x : Nat) : gm_sI (ga_v a) c k (nI x) = ga_v (ga_s a c k x) := by
  have h : (fun c' k' => if c' = c ∧ k' = k then nI x else nI (a c' k')) = fun c' k' => nI (ga_s a c k x c' k') := by
    funext c' k'
    unfold ga_s
    split <;> rfl
  show ((fun c' k' => if c' = c ∧ k' = k then nI x else nI (a c' k')), fun _ _ => 0) = _
  rw [h]
  rfl
theorem ga_vr (a : ga_A) (c k : Nat) : (ga_v a).1 c k = nI (a c k) := rfl
theorem ga_lt {a b : Nat} (h : a < b) : b - 1 + 1 = b := by omega
/-- sums of the first k -/
def ga_pre (f : Nat → Nat) : Nat → Nat
  | 0 => 0
  | k + 1 => ga_pre f k + f k
theorem ga_pre_mono (f : Nat → Nat) {i : Nat} : ∀ {j : Nat}, i ≤ j → ga_pre f i ≤ ga_pre f j := by
  intro j h
  induction j with
  | zero => rw [show i = 0 by omega]; exact Nat.le_refl _
  | succ j ih =>
    rcases Nat.lt_succ_iff_lt_or_eq.mp (Nat.lt_succ_of_le h) with q | rfl
    · exact Nat.le_trans (ih (by omega)) (Nat.le_add_right _ _)
    · exact Nat.le_refl _
theorem ga_pre_eq {f g : Nat → Nat} : ∀ {k : Nat}, (∀ j, j < k → f j = g j) → ga_pre f k = ga_pre g k := by
  intro k
  induction k with
  | zero => intro _; rfl
  | succ k ih => intro h; show ga_pre f k + f k = ga_pre g k + g k; rw [ih (fun j hj => h j (by omega)), h k (by omega)]
/-- nothing else than 'n is not zero' -/
theorem ga_su {n d : Nat} (h : d < n) : ∃ m, n = m + 1 := ⟨n - 1, by omega⟩
theorem md_in (a b c : Int32) (v : gm_St) : fn_Md_in a b c v = some (if b ≤ a ∧ a ≤ c then 1 else 0, v) := by
  unfold fn_Md_in
  by_cases h1 : a < b
  · rw [if_pos h1, if_neg (fun q => absurd h1 (Int32.not_lt.mpr q.1))]
  · rw [if_neg h1]
    by_cases h2 : c < a
    · rw [if_pos h2, if_neg (fun q => absurd h2 (Int32.not_lt.mpr q.2))]
    · rw [if_neg h2, if_pos ⟨Int32.not_lt.mp h1, Int32.not_lt.mp h2⟩]
theorem md_clear (a : ga_A) : fn_Md_clear (ga_v a) = some (nI (a 0 0), ga_v (ga_s a 0 0 0)) := by
  unfold fn_Md_clear
  rw [show (0 : Int32) = nI 0 from rfl, ga_vs]
  rfl
theorem md_begin_4 (a : ga_A) {k : Nat} (hk : k ≤ 102) : ∀ (d x n : Nat), x + d = k → d < n → fn_Md_begin_4 n (nI k) (nI (ga_pre (a 8) x)) (nI x) (ga_v a) = some (nI (ga_pre (a 8) k), ga_v a) := by
  intro d
  induction d with
  | zero =>
    intro x n hx hn
    obtain ⟨n, rfl⟩ := ga_su hn
    obtain rfl : x = k := by omega
    rw [fn_Md_begin_4, if_pos (nI_le (Nat.le_refl _) (by omega))]
  | succ d ih =>
    intro x n hx hn
    obtain ⟨n, rfl⟩ := ga_su hn
    rw [fn_Md_begin_4, if_neg (nI_ge (by omega) (by omega)), if_pos (nI_in (by omega) (by omega)), nI_clamp (by omega), nI_1]
    rw [show nI (ga_pre (a 8) x) + (ga_v a).1 8 x = nI (ga_pre (a 8) (x + 1)) from nI_add _ _]
    exact ih (x + 1) n (by omega) (by omega)
theorem md_begin (a : ga_A) {k : Nat} (hk : k ≤ 102) : fn_Md_begin (nI k) (ga_v a) = some (nI (ga_pre (a 8) k), ga_v a) :=
  md_begin_4 a hk k 0 gm_fu (by omega) (by unfold gm_fu; omega)
/-- where a number stands: the last place that holds it, by search -/
theorem md_placeOf_4 (a : ga_A) {t p : Nat} (hm : a 12 0 ≤ 100) (ht : t < 100) (hs : ∀ j, j < a 12 0 → a 7 j < 100) (hp : p < a 12 0) (hq : a 7 p = t) (hu : ∀ j, j < a 12 0 → a 7 j = t → j = p) :
    ∀ (d x n : Nat) (y : Int32), x + d = a 12 0 → d < n → (p < x → y = nI p) → fn_Md_placeOf_4 n (nI t) y (nI x) (ga_v a) = some (nI p, ga_v a) := by
  intro d
  induction d with
  | zero =>
    intro x n y hx hn hy
    obtain ⟨n, rfl⟩ := ga_su hn
    rw [fn_Md_placeOf_4, ga_vr, if_pos (nI_le (by omega) (by omega)), hy (by omega)]
  | succ d ih =>
    intro x n y hx hn hy
    obtain ⟨n, rfl⟩ := ga_su hn
    rw [fn_Md_placeOf_4, ga_vr, if_neg (nI_ge (by omega) (by omega)), if_pos (nI_in (by omega) (by omega)), nI_clamp (by omega), nI_1, ga_vr]
    have hx7 := hs x (by omega)
    by_cases h : a 7 x = t
    · rw [if_pos (by rw [h]), hu x (by omega) h]
      exact ih (p + 1) n _ (by have := hu x (by omega) h; omega) (by omega) (fun _ => rfl)
    · rw [if_neg (fun q => h ((nI_eq (by omega) (by omega)).mp q))]
      exact ih (x + 1) n y (by omega) (by omega) (fun q => hy (by
        rcases Nat.lt_succ_iff_lt_or_eq.mp q with r | r
        · exact r
        · exact absurd (r ▸ hq) h))
theorem md_placeOf (a : ga_A) {t p : Nat} (hm : a 12 0 ≤ 100) (ht : t < 100) (hs : ∀ j, j < a 12 0 → a 7 j < 100) (hp : p < a 12 0) (hq : a 7 p = t) (hu : ∀ j, j < a 12 0 → a 7 j = t → j = p) : fn_Md_placeOf (nI t) (ga_v a) = some (nI p, ga_v a) :=
  md_placeOf_4 a hm ht hs hp hq hu (a 12 0) 0 gm_fu (-1) (by omega) (by unfold gm_fu; omega) (fun h => absurd h (by omega))
