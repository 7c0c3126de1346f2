/-! rows that move: the places above x up to L, taken one up; the places from p on below x, taken one down -/
def ga_up {α : Type} (f : Nat → α) (x L : Nat) : Nat → α := fun j => if x < j ∧ j ≤ L then f (j - 1) else f j
def ga_dn {α : Type} (f : Nat → α) (p x : Nat) : Nat → α := fun j => if p ≤ j ∧ j < x then f (j + 1) else f j
theorem ga_up0 {α : Type} (f : Nat → α) (L : Nat) : ga_up f L L = f := by
  funext j
  unfold ga_up
  rw [if_neg (by omega)]
theorem ga_dn0 {α : Type} (f : Nat → α) (p : Nat) : ga_dn f p p = f := by
  funext j
  unfold ga_dn
  rw [if_neg (by omega)]
theorem ga_cs (a : ga_A) (c : Nat) (f : Nat → Nat) (k x : Nat) : ga_s (ga_c a c f) c k x = ga_c a c (fun j => if j = k then x else f j) := by
  funext c' k'
  unfold ga_s ga_c
  by_cases h1 : c' = c
  · subst h1
    by_cases h2 : k' = k <;> simp [h2]
  · simp [h1]
theorem ga_c0 (a : ga_A) (c : Nat) : ga_c a c (a c) = a := by
  funext c' k'
  unfold ga_c
  split
  · rename_i h; rw [h]
  · rfl
theorem ga_up_s {α : Type} (f : Nat → α) {x L : Nat} (h : x + 1 ≤ L) : (fun j => if j = x + 1 then ga_up f (x + 1) L x else ga_up f (x + 1) L j) = ga_up f x L := by
  funext j
  unfold ga_up
  by_cases h1 : j = x + 1
  · subst h1
    rw [if_pos rfl, if_neg (by omega), if_pos (by omega)]
    rfl
  · rw [if_neg h1]
    by_cases h2 : x + 1 < j ∧ j ≤ L
    · rw [if_pos h2, if_pos (by omega)]
    · rw [if_neg h2, if_neg (by omega)]
theorem ga_dn_s {α : Type} (f : Nat → α) {p x : Nat} (h : p ≤ x) : (fun j => if j = x then ga_dn f p x (x + 1) else ga_dn f p x j) = ga_dn f p (x + 1) := by
  funext j
  unfold ga_dn
  by_cases h1 : j = x
  · subst h1
    rw [if_pos rfl, if_neg (by omega), if_pos (by omega)]
  · rw [if_neg h1]
    by_cases h2 : p ≤ j ∧ j < x
    · rw [if_pos h2, if_pos (by omega)]
    · rw [if_neg h2, if_neg (by omega)]
theorem md_insertLeaf_5 (a : ga_A) (f : Nat → Nat) {p s L : Nat} (hL : L ≤ 101) : ∀ (d x n : Nat), p + d = x → x ≤ L → d < n → fn_Md_insertLeaf_5 n (nI p) (nI s) (nI x) (ga_v (ga_c a 8 (ga_up f x L))) = some (ga_v (ga_s (ga_s (ga_c a 8 (ga_up f p L)) 8 p s) 13 0 (a 13 0 + 1))) := by
  intro d
  induction d with
  | zero =>
    intro x n hx hxL hn
    obtain ⟨n, rfl⟩ := ga_su hn
    obtain rfl : p = x := by omega
    rw [fn_Md_insertLeaf_5, if_pos (nI_le (Nat.le_refl _) (by omega)), if_pos (nI_in (by omega) (by omega)), nI_clamp (by omega), ga_vs, ga_vr, ga_rc (by decide), ga_c2 (by decide), nI_1, ga_vs]
  | succ d ih =>
    intro x n hx hxL hn
    obtain ⟨n, rfl⟩ := ga_su hn
    obtain rfl : x = p + d + 1 := by omega
    rw [fn_Md_insertLeaf_5, if_neg (nI_ge (by omega) (by omega)), nI_pred, if_pos (nI_in (by omega) (by omega)), if_pos (nI_in (by omega) (by omega)), nI_clamp (by omega), nI_clamp (by omega), pk_m1, ga_vr, ga_c1, ga_vs, ga_cs, ga_up_s f (by omega)]
    exact ih (p + d) n (by omega) (by omega) (by omega)
theorem md_insertLeaf (a : ga_A) {p s : Nat} (hL : a 13 0 ≤ 101) (hp : p ≤ a 13 0) : fn_Md_insertLeaf (nI p) (nI s) (ga_v a) = some (ga_v (ga_s (ga_s (ga_c a 8 (ga_up (a 8) p (a 13 0))) 8 p s) 13 0 (a 13 0 + 1))) := by
  have h := md_insertLeaf_5 a (a 8) (p := p) (s := s) hL (a 13 0 - p) (a 13 0) gm_fu (by omega) (Nat.le_refl _) (by unfold gm_fu; omega)
  rw [ga_up0, ga_c0] at h
  exact h
theorem md_dropLeaf_12 (a : ga_A) (f : Nat → Nat) {p : Nat} (hL : a 13 0 ≤ 101) : ∀ (d x n : Nat), x + d = a 13 0 → p ≤ x → d < n → fn_Md_dropLeaf_12 n (nI p) (nI x) (ga_v (ga_c a 8 (ga_dn f p x))) = some (ga_v (ga_c a 8 (ga_dn f p (a 13 0)))) := by
  intro d
  induction d with
  | zero =>
    intro x n hx hp hn
    obtain ⟨n, rfl⟩ := ga_su hn
    obtain rfl : x = a 13 0 := by omega
    rw [fn_Md_dropLeaf_12, ga_vr, ga_c2 (by decide), if_pos (nI_le (Nat.le_refl _) (by omega))]
  | succ d ih =>
    intro x n hx hp hn
    obtain ⟨n, rfl⟩ := ga_su hn
    rw [fn_Md_dropLeaf_12, ga_vr, ga_c2 (by decide), if_neg (nI_ge (by omega) (by omega)), nI_1, if_pos (nI_in (by omega) (by omega)), if_pos (nI_in (by omega) (by omega)), nI_clamp (by omega), nI_clamp (by omega), ga_vr, ga_c1, ga_vs, ga_cs, ga_dn_s f hp]
    exact ih (x + 1) n (by omega) (by omega) (by omega)
theorem md_dropLeaf (a : ga_A) {p : Nat} (hL : a 13 0 ≤ 102) (hp : p < a 13 0) : fn_Md_dropLeaf (nI p) (ga_v a) = some (ga_v (ga_c (ga_s a 13 0 (a 13 0 - 1)) 8 (ga_dn (a 8) p (a 13 0 - 1)))) := by
  unfold fn_Md_dropLeaf
  rw [ga_vr, show nI (a 13 0) - 1 = nI (a 13 0 - 1) from pk_sub (a := a 13 0) (b := 1) (by omega), ga_vs]
  have e1 : (ga_s a 13 0 (a 13 0 - 1)) 13 0 = a 13 0 - 1 := ga_r1 _ _ _ _
  have e2 : (ga_s a 13 0 (a 13 0 - 1)) 8 = a 8 := by funext k; exact ga_rc (by decide)
  have h := md_dropLeaf_12 (ga_s a 13 0 (a 13 0 - 1)) (a 8) (p := p) (by rw [e1]; omega) (a 13 0 - 1 - p) p gm_fu (by rw [e1]; omega) (Nat.le_refl _) (by unfold gm_fu; omega)
  rw [ga_dn0, e1, ← e2, ga_c0, e2] at h
  exact h
