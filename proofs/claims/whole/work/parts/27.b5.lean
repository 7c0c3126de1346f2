/-! a term goes: the reference's walk -/
def ga_drop (a : ga_A) (p : Nat) : ga_A := ga_c (ga_s a 13 0 (a 13 0 - 1)) 8 (ga_dn (a 8) p (a 13 0 - 1))
def ga_oth (a : ga_A) (l : Nat) : Nat := if a 13 0 ≤ l + 1 then l - 1 else l + 1
/-- leaf l has a term less already: it joins, takes, or is none -/
def ga_lf (a : ga_A) (l : Nat) : ga_A :=
  if 3 ≤ a 8 l then a
  else if a 13 0 ≤ 1 then (if a 8 l = 0 then ga_drop a l else a)
  else if 8 < a 8 l + a 8 (ga_oth a l) then ga_s (ga_s a 8 (ga_oth a l) (a 8 (ga_oth a l) - 1)) 8 l (a 8 l + 1)
  else ga_drop (ga_s a 8 (ga_oth a l) (a 8 (ga_oth a l) + a 8 l)) l
theorem md_dropLeaf' (a : ga_A) {p : Nat} (hL : a 13 0 ≤ 102) (hp : p < a 13 0) : fn_Md_dropLeaf (nI p) (ga_v a) = some (ga_v (ga_drop a p)) := md_dropLeaf a hL hp
set_option maxHeartbeats 1000000 in
theorem md_go_end (b : ga_A) {n : Nat} {x1 x2 : Int32} {l x : Nat} (hx : b 12 0 ≤ x) (hx2 : x < 2 ^ 31) (hl : l < b 13 0) (hL : b 13 0 ≤ 100) (h1 : 1 ≤ b 8 l) (h8 : ∀ j, j < b 13 0 → b 8 j ≤ 8) :
    fn_Md_go_45 (n + 1) x1 x2 (nI l) (nI x) (ga_v b) = some (ga_v (ga_lf (ga_s b 8 l (b 8 l - 1)) l)) := by
  have hl8 := h8 l hl
  have e0 : gm_sI (ga_v b) 8 l (nI (b 8 l) - 1) = ga_v (ga_s b 8 l (b 8 l - 1)) := by
    rw [show nI (b 8 l) - 1 = nI (b 8 l - 1) from pk_sub (a := b 8 l) (b := 1) h1, ga_vs]
  have gl : gj_in (nI l) 102 := nI_in (by omega) (by omega)
  have cl : (nI l).toNatClampNeg = l := nI_clamp (by omega)
  rw [fn_Md_go_45, ga_vr, if_pos (nI_le hx hx2)]
  simp only [if_pos gl, cl, ga_vr, e0]
  generalize hc : ga_s b 8 l (b 8 l - 1) = c
  have c8 : c 8 l = b 8 l - 1 := by rw [← hc]; exact ga_r1 _ _ _ _
  have c13 : c 13 0 = b 13 0 := by rw [← hc]; exact ga_rc (by decide)
  have c8' : ∀ j, j < c 13 0 → c 8 j ≤ 8 := fun j hj => by
    by_cases q : j = l
    · rw [q, c8]; omega
    · rw [← hc, ga_rk q]; exact h8 j (by omega)
  unfold ga_lf
  by_cases h3 : 3 ≤ c 8 l
  · rw [if_pos h3, if_pos (show (3 : Int32) ≤ nI (c 8 l) from nI_le (a := 3) h3 (by omega)), if_neg (show ¬ nI (c 8 l) = 0 from nI_ne0 (by omega) (by omega))]
  · rw [if_neg h3, if_neg (show ¬ (3 : Int32) ≤ nI (c 8 l) from nI_ge (b := 3) (by omega) (by decide))]
    by_cases h13 : c 13 0 ≤ 1
    · rw [if_pos h13, if_pos (show nI (c 13 0) ≤ (1 : Int32) from nI_le (b := 1) h13 (by decide))]
      by_cases hz : c 8 l = 0
      · rw [if_pos hz, if_pos (show nI (c 8 l) = 0 by rw [hz]; rfl), md_dropLeaf' c (by omega) (by omega)]
        rfl
      · rw [if_neg hz, if_neg (show ¬ nI (c 8 l) = 0 from nI_ne0 (by omega) (by omega))]
    · rw [if_neg h13, if_neg (show ¬ nI (c 13 0) ≤ (1 : Int32) from nI_ge (a := 1) (by omega) (by omega))]
      rw [nI_1]
      by_cases ho : c 13 0 ≤ l + 1
      · have hp : nI l - 1 = nI (l - 1) := pk_sub (a := l) (b := 1) (by omega)
        have go : gj_in (nI (l - 1)) 102 := nI_in (by omega) (by omega)
        have co : (nI (l - 1)).toNatClampNeg = l - 1 := nI_clamp (by omega)
        have e : ga_oth c l = l - 1 := by unfold ga_oth; rw [if_pos ho]
        have ho8 := c8' (l - 1) (by omega)
        have hl8' := c8' l (by omega)
        rw [if_pos (show nI (c 13 0) ≤ nI (l + 1) from nI_le ho (by omega)), e]
        simp only [hp, if_pos go, co, nI_add]
        by_cases h9 : 8 < c 8 l + c 8 (l - 1)
        · rw [if_pos h9, if_pos (show (8 : Int32) < nI (c 8 l + c 8 (l - 1)) from nI_lt (a := 8) h9 (by omega))]
          rw [show nI (c 8 (l - 1)) - 1 = nI (c 8 (l - 1) - 1) from pk_sub (a := c 8 (l - 1)) (b := 1) (by omega), ga_vs, ga_vr, ga_rk (by omega), nI_1, ga_vs]
        · rw [if_neg h9, if_neg (show ¬ (8 : Int32) < nI (c 8 l + c 8 (l - 1)) from nI_nlt (a := 8) (by omega) (by decide))]
          rw [ga_vs, md_dropLeaf' _ (by rw [ga_rc (by decide)]; omega) (by rw [ga_rc (by decide)]; omega)]
          rfl
      · have go : gj_in (nI (l + 1)) 102 := nI_in (by omega) (by omega)
        have co : (nI (l + 1)).toNatClampNeg = l + 1 := nI_clamp (by omega)
        have e : ga_oth c l = l + 1 := by unfold ga_oth; rw [if_neg ho]
        have ho8 := c8' (l + 1) (by omega)
        have hl8' := c8' l (by omega)
        rw [if_neg (show ¬ nI (c 13 0) ≤ nI (l + 1) from nI_ge (by omega) (by omega)), e]
        simp only [if_pos go, co, nI_add]
        by_cases h9 : 8 < c 8 l + c 8 (l + 1)
        · rw [if_pos h9, if_pos (show (8 : Int32) < nI (c 8 l + c 8 (l + 1)) from nI_lt (a := 8) h9 (by omega))]
          rw [show nI (c 8 (l + 1)) - 1 = nI (c 8 (l + 1) - 1) from pk_sub (a := c 8 (l + 1)) (b := 1) (by omega), ga_vs, ga_vr, ga_rk (by omega), nI_1, ga_vs]
        · rw [if_neg h9, if_neg (show ¬ (8 : Int32) < nI (c 8 l + c 8 (l + 1)) from nI_nlt (a := 8) (by omega) (by decide))]
          rw [ga_vs, md_dropLeaf' _ (by rw [ga_rc (by decide)]; omega) (by rw [ga_rc (by decide)]; omega)]
          rfl
