/-! a term goes, whole -/
theorem gm_nar0 : vp_nar .boolean 0 = nI 0 := rfl
theorem gm_nar1 : vp_nar .boolean 1 = nI 1 := rfl
theorem md_go_45 (b : ga_A) (f : Nat → Nat) {x1 x2 : Int32} {l p : Nat} (h12 : b 12 0 ≤ 99) (hl : l < b 13 0) (hL : b 13 0 ≤ 100) (h1 : 1 ≤ b 8 l) (h8 : ∀ j, j < b 13 0 → b 8 j ≤ 8) : ∀ (d x n : Nat), x + d = b 12 0 → p ≤ x → d < n →
    fn_Md_go_45 n x1 x2 (nI l) (nI x) (ga_v (ga_c b 7 (ga_dn f p x))) = some (ga_v (ga_lf (ga_s (ga_c b 7 (ga_dn f p (b 12 0))) 8 l (b 8 l - 1)) l)) := by
  intro d
  induction d with
  | zero =>
    intro x n hx hp hn
    obtain ⟨n, rfl⟩ := ga_su hn
    obtain rfl : x = b 12 0 := by omega
    have h := md_go_end (ga_c b 7 (ga_dn f p (b 12 0))) (n := n) (x1 := x1) (x2 := x2) (l := l) (x := b 12 0) (by rw [ga_c2 (by decide)]; exact Nat.le_refl _) (by omega) (by rw [ga_c2 (by decide)]; exact hl) (by rw [ga_c2 (by decide)]; exact hL) (by rw [ga_c2 (by decide)]; exact h1) (by intro j hj; rw [ga_c2 (by decide)] at hj ⊢; exact h8 j hj)
    rw [ga_c2 (by decide)] at h
    exact h
  | succ d ih =>
    intro x n hx hp hn
    obtain ⟨n, rfl⟩ := ga_su hn
    rw [fn_Md_go_45, ga_vr, ga_c2 (by decide), if_neg (nI_ge (by omega) (by omega)), nI_1, if_pos (nI_in (by omega) (by omega)), if_pos (nI_in (by omega) (by omega)), nI_clamp (by omega), nI_clamp (by omega), ga_vr, ga_c1, ga_vs, ga_cs, ga_dn_s f hp]
    exact ih (x + 1) n (by omega) (by omega) (by omega)
def ga_go (a : ga_A) (p l : Nat) : ga_A := ga_lf (ga_s (ga_c (ga_s (ga_s a 2 (a 7 p) 0) 12 0 (a 12 0 - 1)) 7 (ga_dn (a 7) p (a 12 0 - 1))) 8 l (a 8 l - 1)) l
theorem md_go_8 (a : ga_A) {p l : Nat} (h12 : a 12 0 ≤ 100) (hp : p < a 12 0) (h7 : a 7 p < 100) (hlf : ga_leaf (a 8) (a 13 0) p l) (hpl : p < ga_pre (a 8) (l + 1)) (hL : a 13 0 ≤ 100) (h1 : 1 ≤ a 8 l) (h8 : ∀ j, j < a 13 0 → a 8 j ≤ 8) (hs : ga_pre (a 8) (a 13 0) ≤ 1000) : ∀ (d x n : Nat), x + d = l → d < n →
    fn_Md_go_8 n (nI (a 7 p)) (nI p) (nI x) (ga_v a) = some (ga_v (ga_go a p l)) := by
  obtain ⟨l1, l2, -⟩ := hlf
  intro d
  induction d with
  | zero =>
    intro x n hx hn
    obtain ⟨n, rfl⟩ := ga_su hn
    obtain rfl : x = l := by omega
    have hm := ga_pre_mono (a 8) (i := x + 1) (j := a 13 0) (by omega)
    rw [fn_Md_go_8, nI_1, md_begin a (by omega), Option.bind_some]
    show (if nI p < nI (ga_pre (a 8) (x + 1)) then _ else _) = _
    rw [if_pos (nI_lt hpl (by omega)), if_pos (nI_in h7 (by omega)), nI_clamp (by omega), gm_nar0]
    show fn_Md_go_45 gm_fu (nI (a 7 p)) (nI p) (nI x) (nI p) (gm_sI (gm_sI (ga_v a) 2 (a 7 p) (nI 0)) 12 0 ((gm_sI (ga_v a) 2 (a 7 p) (nI 0)).1 12 0 - 1)) = _
    rw [ga_vs, ga_vr, ga_rc (by decide), show nI (a 12 0) - 1 = nI (a 12 0 - 1) from pk_sub (a := a 12 0) (b := 1) (by omega), ga_vs]
    generalize hb : ga_s (ga_s a 2 (a 7 p) 0) 12 0 (a 12 0 - 1) = b
    have b12 : b 12 0 = a 12 0 - 1 := by rw [← hb]; exact ga_r1 _ _ _ _
    have b13 : b 13 0 = a 13 0 := by rw [← hb, ga_rc (by decide), ga_rc (by decide)]
    have b8 : ∀ j, b 8 j = a 8 j := fun j => by rw [← hb, ga_rc (by decide), ga_rc (by decide)]
    have b7 : b 7 = a 7 := by funext j; rw [← hb, ga_rc (by decide), ga_rc (by decide)]
    have h := md_go_45 b (a 7) (x1 := nI (a 7 p)) (x2 := nI p) (l := x) (p := p) (by omega) (by omega) (by omega) (by rw [b8]; exact h1) (by intro j hj; rw [b8]; exact h8 j (by omega)) (a 12 0 - 1 - p) p gm_fu (by omega) (Nat.le_refl _) (by unfold gm_fu; omega)
    rw [ga_dn0, ← b7, ga_c0, b12, b8, b7] at h
    rw [h]
    unfold ga_go
    rw [hb]
  | succ d ih =>
    intro x n hx hn
    obtain ⟨n, rfl⟩ := ga_su hn
    rw [fn_Md_go_8, nI_1, md_begin a (by omega), Option.bind_some]
    show (if nI p < nI (ga_pre (a 8) (x + 1)) then _ else fn_Md_go_8 n (nI (a 7 p)) (nI p) (nI (x + 1)) (ga_v a)) = _
    rw [if_neg (nI_nlt (l2 x (by omega)) (by omega))]
    exact ih (x + 1) n (by omega) (by omega)
theorem md_go (a : ga_A) {p l : Nat} (h12 : a 12 0 ≤ 100) (hp : p < a 12 0) (h7 : ∀ j, j < a 12 0 → a 7 j < 100) (hu : ∀ j, j < a 12 0 → a 7 j = a 7 p → j = p) (hlf : ga_leaf (a 8) (a 13 0) p l) (hpl : p < ga_pre (a 8) (l + 1)) (hL : a 13 0 ≤ 100) (h1 : 1 ≤ a 8 l) (h8 : ∀ j, j < a 13 0 → a 8 j ≤ 8) (hs : ga_pre (a 8) (a 13 0) ≤ 1000) : fn_Md_go (nI (a 7 p)) (ga_v a) = some (ga_v (ga_go a p l)) := by
  unfold fn_Md_go
  rw [md_placeOf a h12 (h7 p hp) h7 hp rfl hu, Option.bind_some]
  have := hlf.1
  exact md_go_8 a h12 hp (h7 p hp) hlf hpl hL h1 h8 hs l 0 gm_fu (by omega) (by unfold gm_fu; omega)
