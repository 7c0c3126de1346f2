/-! a term comes: the walks of both -/
theorem gp_ins {g : Nat → Nat} {q x : Nat} : ∀ {k : Nat}, q ≤ k → ga_pre (fun j => if j < q then g j else if j = q then x else g (j - 1)) (k + 1) = ga_pre g k + x := by
  intro k
  induction k with
  | zero =>
    intro h
    obtain rfl : q = 0 := by omega
    show 0 + _ = 0 + x
    simp
  | succ k ih =>
    intro h
    show ga_pre _ (k + 1) + (if k + 1 < q then g (k + 1) else if k + 1 = q then x else g (k + 1 - 1)) = ga_pre g k + g k + x
    rcases Nat.lt_or_ge k q with r | r
    · obtain rfl : q = k + 1 := by omega
      rw [if_neg (by omega), if_pos rfl, ga_pre_eq (g := g) (fun j hj => if_pos hj)]
      rfl
    · rw [ih r, if_neg (by omega), if_neg (by omega), show k + 1 - 1 = k by omega]
      omega
/-- leaf l of b has a term more; with nine it is parted -/
def ga_lin (b : ga_A) (l : Nat) : ga_A := if b 8 l + 1 ≤ 8 then ga_s b 8 l (b 8 l + 1) else ga_s (ga_s (ga_c (ga_s (ga_s b 8 l (b 8 l + 1)) 8 l 4) 8 (ga_up ((ga_s (ga_s b 8 l (b 8 l + 1)) 8 l 4) 8) (l + 1) (b 13 0))) 8 (l + 1) 5) 13 0 (b 13 0 + 1)
theorem ga_lin_c (b : ga_A) (l : Nat) : ∀ c, c ≠ 8 → c ≠ 13 → ga_lin b l c = b c := by
  intro c h8 h13
  funext k
  unfold ga_lin
  split
  · rw [ga_rc h8]
  · rw [ga_rc h13, ga_rc h8, ga_c2 h8, ga_rc h8, ga_rc h8]
theorem ga_lin_13 (b : ga_A) (l : Nat) : ga_lin b l 13 0 = if b 8 l + 1 ≤ 8 then b 13 0 else b 13 0 + 1 := by
  unfold ga_lin
  split
  · rw [ga_rc (by decide)]
  · rw [ga_r1]
theorem ga_lin_8a {b : ga_A} {l : Nat} (h : b 8 l + 1 ≤ 8) (j : Nat) : ga_lin b l 8 j = if j = l then b 8 l + 1 else b 8 j := by
  unfold ga_lin
  rw [if_pos h]
  by_cases q : j = l
  · rw [if_pos q, q, ga_r1]
  · rw [if_neg q, ga_rk q]
theorem ga_lin_8b {b : ga_A} {l : Nat} (h : ¬ b 8 l + 1 ≤ 8) {j : Nat} (hj : j ≤ b 13 0) : ga_lin b l 8 j = if j < l + 1 then (if j = l then 4 else b 8 j) else if j = l + 1 then 5 else b 8 (j - 1) := by
  unfold ga_lin
  rw [if_neg h, ga_rc (by decide)]
  have e : ∀ i, (ga_s (ga_s b 8 l (b 8 l + 1)) 8 l 4) 8 i = if i = l then 4 else b 8 i := fun i => by
    by_cases q : i = l
    · rw [if_pos q, q, ga_r1]
    · rw [if_neg q, ga_rk q, ga_rk q]
  by_cases h1 : j = l + 1
  · rw [h1, ga_r1, if_neg (by omega), if_pos rfl]
  · rw [ga_rk h1, ga_c1, if_neg h1]
    unfold ga_up
    by_cases h2 : j < l + 1
    · rw [if_neg (by omega), if_pos h2, e]
    · rw [if_pos (by omega), if_neg h2, e, if_neg (by omega)]
theorem ga_lin_w7 {b : ga_A} {l : Nat} (hl : l < b 13 0) (h : ∀ j, j < b 13 0 → j ≠ l → 1 ≤ b 8 j ∧ b 8 j ≤ 8) (h8 : b 8 l ≤ 8) : ga_pre (ga_lin b l 8) (ga_lin b l 13 0) = ga_pre (b 8) (b 13 0) + 1 ∧ ∀ j, j < ga_lin b l 13 0 → 1 ≤ ga_lin b l 8 j ∧ ga_lin b l 8 j ≤ 8 := by
  rw [ga_lin_13]
  by_cases hc : b 8 l + 1 ≤ 8
  · rw [if_pos hc]
    refine ⟨?_, fun j hj => ?_⟩
    · rw [ga_pre_eq (fun j _ => ga_lin_8a hc j)]
      have := gp_set (f := b 8) (l := l) (x := b 8 l + 1) hl
      omega
    · rw [ga_lin_8a hc]
      split
      · omega
      · rename_i q; exact h j hj q
  · rw [if_neg hc]
    refine ⟨?_, fun j hj => ?_⟩
    · have e : ∀ j, j < b 13 0 + 1 → ga_lin b l 8 j = (fun j => if j < l + 1 then (fun i => if i = l then 4 else b 8 i) j else if j = l + 1 then 5 else (fun i => if i = l then 4 else b 8 i) (j - 1)) j := fun j hj => by
        rw [ga_lin_8b hc (by omega)]
        show (if j < l + 1 then (if j = l then 4 else b 8 j) else if j = l + 1 then 5 else b 8 (j - 1)) = if j < l + 1 then (if j = l then 4 else b 8 j) else if j = l + 1 then 5 else (if j - 1 = l then 4 else b 8 (j - 1))
        by_cases h1 : j < l + 1
        · rw [if_pos h1, if_pos h1]
        · rw [if_neg h1, if_neg h1]
          by_cases h2 : j = l + 1
          · rw [if_pos h2, if_pos h2]
          · rw [if_neg h2, if_neg h2, if_neg (show ¬ j - 1 = l by omega)]
      rw [ga_pre_eq e, gp_ins (by omega)]
      have := gp_set (f := b 8) (l := l) (x := 4) hl
      omega
    · rw [ga_lin_8b hc (by omega)]
      by_cases h1 : j < l + 1
      · rw [if_pos h1]
        split
        · omega
        · rename_i q; exact h j (by omega) q
      · rw [if_neg h1]
        split
        · omega
        · exact h (j - 1) (by omega) (by omega)
theorem md_come_141 {b : ga_A} {l p : Nat} (x1 x2 : Int32) (hlf : ga_leaf (b 8) (b 13 0) p l) (hL : b 13 0 ≤ 100) (h8 : ∀ j, j < b 13 0 → b 8 j ≤ 8) (hs : ga_pre (b 8) (b 13 0) ≤ 1000) (hp : p < 2 ^ 30) : ∀ (d x n : Nat), x + d = l → d < n → fn_Md_come_141 n x1 x2 (nI p) (nI x) (ga_v b) = some (ga_v (ga_lin b l)) := by
  obtain ⟨l1, l2, l3⟩ := hlf
  have hl8 := h8 l l1
  have gl : gj_in (nI l) 102 := nI_in (by omega) (by decide)
  have cl : (nI l).toNatClampNeg = l := nI_clamp (by omega)
  have fin : (if ((gm_sI (ga_v b) 8 l (nI (b 8 l) + 1)).1 8 l) ≤ 8 then some (gm_sI (ga_v b) 8 l (nI (b 8 l) + 1)) else (fn_Md_insertLeaf (nI l + 1) 5 (gm_sI (gm_sI (ga_v b) 8 l (nI (b 8 l) + 1)) 8 l 4)).bind fun z12 => some z12) = some (ga_v (ga_lin b l)) := by
    rw [nI_1, nI_1, ga_vs, ga_vr, ga_r1]
    unfold ga_lin
    by_cases hc : b 8 l + 1 ≤ 8
    · rw [if_pos hc, if_pos (show nI (b 8 l + 1) ≤ (8 : Int32) from nI_le (b := 8) hc (by decide))]
    · rw [if_neg hc, if_neg (show ¬ nI (b 8 l + 1) ≤ (8 : Int32) from nI_ge (a := 8) (by omega) (by omega)), show (4 : Int32) = nI 4 from rfl, show (5 : Int32) = nI 5 from rfl, ga_vs]
      have h13 : (ga_s (ga_s b 8 l (b 8 l + 1)) 8 l 4) 13 0 = b 13 0 := by rw [ga_rc (by decide), ga_rc (by decide)]
      rw [md_insertLeaf _ (by rw [h13]; omega) (by rw [h13]; omega), h13]
      rfl
  intro d
  induction d with
  | zero =>
    intro x n hx hn
    obtain ⟨n, rfl⟩ := ga_su hn
    obtain rfl : x = l := by omega
    rw [fn_Md_come_141, ga_vr]
    by_cases hlast : b 13 0 ≤ x + 1
    · rw [nI_1, if_pos (nI_le hlast (by omega))]
      simp only [if_pos gl, cl, ga_vr]
      rw [show nI x + 1 = nI (x + 1) from nI_1 x] at fin
      exact fin
    · have hpx : p < ga_pre (b 8) (x + 1) := by
        rcases l3 with q | q
        · exact q
        · omega
      have hm := ga_pre_mono (b 8) (i := x + 1) (j := b 13 0) (by omega)
      rw [nI_1, if_neg (nI_ge (by omega) (by omega)), md_begin b (by omega), Option.bind_some]
      show (if nI p < nI (ga_pre (b 8) (x + 1)) then _ else _) = _
      rw [if_pos (nI_lt hpx (by omega))]
      simp only [if_pos gl, cl, ga_vr]
      rw [show nI x + 1 = nI (x + 1) from nI_1 x] at fin
      exact fin
  | succ d ih =>
    intro x n hx hn
    obtain ⟨n, rfl⟩ := ga_su hn
    rw [fn_Md_come_141, ga_vr, nI_1, if_neg (nI_ge (by omega) (by omega)), md_begin b (by omega), Option.bind_some]
    show (if nI p < nI (ga_pre (b 8) (x + 1)) then _ else fn_Md_come_141 n x1 x2 (nI p) (nI (x + 1)) (ga_v b)) = _
    rw [if_neg (nI_nlt (l2 x (by omega)) (by omega))]
    exact ih (x + 1) n (by omega) (by omega)
/-- the leaves that a term comes to: a first one, if there is none -/
def ga_lv0 (a : ga_A) : ga_A := if a 13 0 = 0 then ga_s (ga_s (ga_c a 8 (ga_up (a 8) 0 0)) 8 0 0) 13 0 1 else a
theorem ga_lv0_c (a : ga_A) : ∀ c, c ≠ 8 → c ≠ 13 → ga_lv0 a c = a c := by
  intro c h8 h13
  funext k
  unfold ga_lv0
  split
  · rw [ga_rc h13, ga_rc h8, ga_c2 h8]
  · rfl
/-- t at place p of the order -/
def ga_ord (a : ga_A) (p t : Nat) : ga_A := ga_s (ga_s (ga_c a 7 (ga_up (a 7) p (a 12 0))) 7 p t) 12 0 (a 12 0 + 1)
theorem md_come_80 {b : ga_A} {p t l : Nat} (f : Nat → Nat) (x2 : Int32) (h12 : b 12 0 ≤ 99) (ht : t < 100) (hlf : ga_leaf (ga_lv0 b 8) (ga_lv0 b 13 0) p l) (hL : ga_lv0 b 13 0 ≤ 100) (h8 : ∀ j, j < ga_lv0 b 13 0 → ga_lv0 b 8 j ≤ 8) (hs : ga_pre (ga_lv0 b 8) (ga_lv0 b 13 0) ≤ 1000) : ∀ (d x n : Nat), p + d = x → x ≤ b 12 0 → d < n →
    fn_Md_come_80 n (nI t) x2 (nI p) (nI x) (ga_v (ga_c b 7 (ga_up f x (b 12 0)))) = some (ga_v (ga_lin (ga_lv0 (ga_s (ga_s (ga_c b 7 (ga_up f p (b 12 0))) 7 p t) 12 0 (b 12 0 + 1))) l)) := by
  intro d
  induction d with
  | zero =>
    intro x n hx hx2 hn
    obtain ⟨n, rfl⟩ := ga_su hn
    obtain rfl : p = x := by omega
    have gp : gj_in (nI p) 101 := nI_in (by omega) (by decide)
    have cp : (nI p).toNatClampNeg = p := nI_clamp (by omega)
    rw [fn_Md_come_80, if_pos (nI_le (Nat.le_refl _) (by omega))]
    simp only [if_pos gp, cp, ga_vs, ga_vr, ga_rc (show (12 : Nat) ≠ 7 by decide), ga_c2 (show (12 : Nat) ≠ 7 by decide), nI_1, ga_rc (show (13 : Nat) ≠ 12 by decide), ga_rc (show (13 : Nat) ≠ 7 by decide), ga_c2 (show (13 : Nat) ≠ 7 by decide)]
    generalize hc : ga_s (ga_s (ga_c b 7 (ga_up f p (b 12 0))) 7 p t) 12 0 (b 12 0 + 1) = c
    have c8 : c 8 = b 8 := by funext k; rw [← hc, ga_rc (by decide), ga_rc (by decide), ga_c2 (by decide)]
    have c13 : c 13 0 = b 13 0 := by rw [← hc, ga_rc (by decide), ga_rc (by decide), ga_c2 (by decide)]
    have e8 : ga_lv0 c 8 = ga_lv0 b 8 := by
      funext k
      unfold ga_lv0
      rw [c13, c8]
      split
      · by_cases hk : k = 0
        · simp [ga_s, ga_c, hk]
        · simp [ga_s, ga_c, hk]
      · rw [c8]
    have e13 : ga_lv0 c 13 0 = ga_lv0 b 13 0 := by
      unfold ga_lv0
      rw [c13]
      split
      · rw [ga_r1, ga_r1]
      · exact c13
    have key := md_come_141 (b := ga_lv0 c) (l := l) (p := p) (nI t) x2 (by rw [e8, e13]; exact hlf) (by rw [e13]; exact hL) (by rw [e8, e13]; exact h8) (by rw [e8, e13]; exact hs) (by omega) l 0 gm_fu (by omega) (by have := hlf.1; unfold gm_fu; omega)
    by_cases h0 : b 13 0 = 0
    · have el : ga_lv0 c = ga_s (ga_s (ga_c c 8 (ga_up (c 8) 0 (c 13 0))) 8 0 0) 13 0 (c 13 0 + 1) := by unfold ga_lv0; rw [if_pos (by rw [c13]; exact h0), c13, h0]
      rw [if_pos (show nI (b 13 0) = 0 by rw [h0]; rfl)]
      have hi := md_insertLeaf c (p := 0) (s := 0) (by rw [c13]; omega) (by omega)
      rw [show fn_Md_insertLeaf 0 0 (ga_v c) = _ from hi, Option.bind_some, ← el]
      exact key
    · have el : ga_lv0 c = c := by unfold ga_lv0; rw [if_neg (by rw [c13]; exact h0)]
      have h13 : ga_lv0 b 13 0 = b 13 0 := by rw [← e13, el, c13]
      rw [if_neg (nI_ne0 (by omega) (by omega))]
      rw [el] at key ⊢
      exact key
  | succ d ih =>
    intro x n hx hx2 hn
    obtain ⟨n, rfl⟩ := ga_su hn
    obtain rfl : x = p + d + 1 := by omega
    rw [fn_Md_come_80, if_neg (nI_ge (by omega) (by omega)), nI_pred, if_pos (nI_in (by omega) (by omega)), if_pos (nI_in (by omega) (by omega)), nI_clamp (by omega), nI_clamp (by omega), pk_m1, ga_vr, ga_c1, ga_vs, ga_cs, ga_up_s f (by omega)]
    exact ih (p + d) n (by omega) (by omega) (by omega)
