/-! a term comes: the reference's whole, the class's leaves -/
theorem ga_lv0_cg {a b : ga_A} (h8 : b 8 = a 8) (h13 : b 13 0 = a 13 0) : ga_lv0 b 8 = ga_lv0 a 8 ∧ ga_lv0 b 13 0 = ga_lv0 a 13 0 := by
  refine ⟨?_, ?_⟩
  · funext k
    unfold ga_lv0
    rw [h13, h8]
    split
    · by_cases hk : k = 0
      · simp [ga_s, ga_c, hk]
      · simp [ga_s, ga_c, hk]
    · rw [h8]
  · unfold ga_lv0
    rw [h13]
    split
    · rw [ga_r1, ga_r1]
    · exact h13
/-- the tape's first x bytes as the text of t -/
def ga_tc (a : ga_A) (t x : Nat) : Nat → Nat := fun j => if 16 * t ≤ j ∧ j < 16 * t + x then a 1 (j - 16 * t) else a 6 j
theorem ga_tc0 (a : ga_A) (t : Nat) : ga_tc a t 0 = a 6 := by
  funext j
  unfold ga_tc
  rw [if_neg (by omega)]
theorem ga_tc_s (a : ga_A) (t x : Nat) : (fun j => if j = 16 * t + x then a 1 x else ga_tc a t x j) = ga_tc a t (x + 1) := by
  funext j
  unfold ga_tc
  by_cases h : j = 16 * t + x
  · rw [if_pos h, if_pos (by omega), show j - 16 * t = x by omega]
  · rw [if_neg h]
    by_cases h2 : 16 * t ≤ j ∧ j < 16 * t + x
    · rw [if_pos h2, if_pos (by omega)]
    · rw [if_neg h2, if_neg (by omega)]
theorem md_come_40 {a b : ga_A} {t p : Nat} (x2 : Int32) (ht : t < 100) (h0 : b 0 0 = a 0 0) (h1 : b 1 = a 1) (h16 : a 0 0 ≤ 16) : ∀ (d x n : Nat), x + d = a 0 0 → d < n → fn_Md_come_40 n (nI t) x2 (nI p) (nI x) (ga_v (ga_c b 6 (ga_tc a t x))) = fn_Md_come_80 gm_fu (nI t) x2 (nI p) (nI (b 12 0)) (ga_v (ga_c b 6 (ga_tc a t (a 0 0)))) := by
  intro d
  induction d with
  | zero =>
    intro x n hx hn
    obtain ⟨n, rfl⟩ := ga_su hn
    obtain rfl : x = a 0 0 := by omega
    rw [fn_Md_come_40, ga_vr, ga_c2 (by decide), h0, if_pos (nI_le (Nat.le_refl _) (by omega)), ga_vr, ga_c2 (by decide)]
  | succ d ih =>
    intro x n hx hn
    obtain ⟨n, rfl⟩ := ga_su hn
    have i1 : (16 : Int32) * nI t + nI x = nI (16 * t + x) := by rw [show (16 : Int32) = nI 16 from rfl, pk_mul, nI_add]
    have g1 : gj_in (nI x) 16 := nI_in (by omega) (by decide)
    have c1 : (nI x).toNatClampNeg = x := nI_clamp (by omega)
    have g2 : gj_in (nI (16 * t + x)) 1600 := nI_in (by omega) (by decide)
    have c2 : (nI (16 * t + x)).toNatClampNeg = 16 * t + x := nI_clamp (by omega)
    rw [fn_Md_come_40, ga_vr, ga_c2 (by decide), h0, if_neg (nI_ge (by omega) (by omega))]
    simp only [i1, if_pos g1, if_pos g2, c1, c2, ga_vr, ga_c2 (show (1 : Nat) ≠ 6 by decide), h1, ga_vs, ga_cs, ga_tc_s, nI_1]
    exact ih (x + 1) n (by omega) (by omega)
/-- t is a term: the tape's text, of kind kd -/
def ga_nt (a : ga_A) (t kd : Nat) : ga_A := ga_c (ga_s (ga_s (ga_s (ga_s a 2 t 1) 3 t kd) 4 t 0) 5 t (a 0 0)) 6 (ga_tc a t (a 0 0))
def ga_cb (a : ga_A) (t kd p : Nat) : ga_A := ga_ord (ga_nt a t kd) p t
def ga_come (a : ga_A) (t kd p l : Nat) : ga_A := ga_lin (ga_lv0 (ga_cb a t kd p)) l
theorem ga_nt_c (a : ga_A) (t kd : Nat) : ∀ c, c ≠ 2 → c ≠ 3 → c ≠ 4 → c ≠ 5 → c ≠ 6 → ga_nt a t kd c = a c := by
  intro c h2 h3 h4 h5 h6
  funext k
  unfold ga_nt
  rw [ga_c2 h6, ga_rc h5, ga_rc h4, ga_rc h3, ga_rc h2]
theorem ga_cb_c (a : ga_A) (t kd p : Nat) : ∀ c, c ≠ 2 → c ≠ 3 → c ≠ 4 → c ≠ 5 → c ≠ 6 → c ≠ 7 → c ≠ 12 → ga_cb a t kd p c = a c := by
  intro c h2 h3 h4 h5 h6 h7 h12
  rw [← ga_nt_c a t kd c h2 h3 h4 h5 h6]
  funext k
  unfold ga_cb ga_ord
  rw [ga_rc h12, ga_rc h7, ga_c2 h7]
theorem ga_cb_n (a : ga_A) (t kd p : Nat) : ∀ c, c ≠ 7 → c ≠ 12 → ga_cb a t kd p c = ga_nt a t kd c := by
  intro c h7 h12
  funext k
  unfold ga_cb ga_ord
  rw [ga_rc h12, ga_rc h7, ga_c2 h7]
theorem ga_cb_7 (a : ga_A) (t kd p j : Nat) : ga_cb a t kd p 7 j = if j = p then t else ga_up (a 7) p (a 12 0) j := by
  unfold ga_cb ga_ord
  rw [ga_rc (by decide), ga_nt_c a t kd 12 (by decide) (by decide) (by decide) (by decide) (by decide), ga_nt_c a t kd 7 (by decide) (by decide) (by decide) (by decide) (by decide)]
  by_cases h : j = p
  · rw [if_pos h, h, ga_r1]
  · rw [if_neg h, ga_rk h, ga_c1]
theorem ga_cb_12 (a : ga_A) (t kd p : Nat) : ga_cb a t kd p 12 0 = a 12 0 + 1 := by
  unfold ga_cb ga_ord
  rw [ga_r1, ga_nt_c a t kd 12 (by decide) (by decide) (by decide) (by decide) (by decide)]
theorem ga_come_b (a : ga_A) (t kd p l : Nat) : ∀ c, c ≠ 8 → c ≠ 13 → ga_come a t kd p l c = ga_cb a t kd p c := by
  intro c h8 h13
  unfold ga_come
  rw [ga_lin_c _ _ c h8 h13, ga_lv0_c _ c h8 h13]
theorem ga_nt_2 (a : ga_A) (t kd k : Nat) : ga_nt a t kd 2 k = if k = t then 1 else a 2 k := by
  unfold ga_nt
  rw [ga_c2 (by decide), ga_rc (by decide), ga_rc (by decide), ga_rc (by decide)]
  by_cases h : k = t
  · rw [if_pos h, h, ga_r1]
  · rw [if_neg h, ga_rk h]
theorem ga_nt_3 (a : ga_A) (t kd k : Nat) : ga_nt a t kd 3 k = if k = t then kd else a 3 k := by
  unfold ga_nt
  rw [ga_c2 (by decide), ga_rc (by decide), ga_rc (by decide)]
  by_cases h : k = t
  · rw [if_pos h, h, ga_r1]
  · rw [if_neg h, ga_rk h, ga_rc (by decide)]
theorem ga_nt_4 (a : ga_A) (t kd k : Nat) : ga_nt a t kd 4 k = if k = t then 0 else a 4 k := by
  unfold ga_nt
  rw [ga_c2 (by decide), ga_rc (by decide)]
  by_cases h : k = t
  · rw [if_pos h, h, ga_r1]
  · rw [if_neg h, ga_rk h, ga_rc (by decide), ga_rc (by decide)]
theorem ga_nt_5 (a : ga_A) (t kd k : Nat) : ga_nt a t kd 5 k = if k = t then a 0 0 else a 5 k := by
  unfold ga_nt
  rw [ga_c2 (by decide)]
  by_cases h : k = t
  · rw [if_pos h, h, ga_r1]
  · rw [if_neg h, ga_rk h, ga_rc (by decide), ga_rc (by decide), ga_rc (by decide)]
theorem ga_nt_6 (a : ga_A) (t kd j : Nat) : ga_nt a t kd 6 j = ga_tc a t (a 0 0) j := by
  unfold ga_nt
  rw [ga_c1]
theorem md_come {a : ga_A} (hok : ga_ok a) {t kd p l : Nat} (ht : t < 100) (hkd : kd < 4) (hp : ga_pl a kd p) (h12 : a 12 0 ≤ 99) (hlf : ga_leaf (ga_lv0 a 8) (ga_lv0 a 13 0) p l) (hL : ga_lv0 a 13 0 ≤ 100) (h8 : ∀ j, j < ga_lv0 a 13 0 → ga_lv0 a 8 j ≤ 8) (hs : ga_pre (ga_lv0 a 8) (ga_lv0 a 13 0) ≤ 1000) : fn_Md_come (nI t) (nI kd) (ga_v a) = some (ga_v (ga_come a t kd p l)) := by
  unfold fn_Md_come
  have g : gj_in (nI t) 100 := nI_in ht (by decide)
  have c : (nI t).toNatClampNeg = t := nI_clamp (by omega)
  have h16 := hok.2.1.1
  rw [md_before hok hkd hp, Option.bind_some]
  simp only [if_pos g, c, gm_nar1]
  simp only [ga_vs, show (0 : Int32) = nI 0 from rfl, ga_vr, ga_rc (show (0 : Nat) ≠ 4 by decide), ga_rc (show (0 : Nat) ≠ 3 by decide), ga_rc (show (0 : Nat) ≠ 2 by decide)]
  generalize hb : ga_s (ga_s (ga_s (ga_s a 2 t 1) 3 t kd) 4 t 0) 5 t (a 0 0) = b
  have b0 : b 0 0 = a 0 0 := by rw [← hb, ga_rc (by decide), ga_rc (by decide), ga_rc (by decide), ga_rc (by decide)]
  have b1 : b 1 = a 1 := by funext k; rw [← hb, ga_rc (by decide), ga_rc (by decide), ga_rc (by decide), ga_rc (by decide)]
  have b6 : b 6 = a 6 := by funext k; rw [← hb, ga_rc (by decide), ga_rc (by decide), ga_rc (by decide), ga_rc (by decide)]
  have e := md_come_40 (a := a) (b := b) (p := p) (nI kd) ht b0 b1 h16 (a 0 0) 0 gm_fu (by omega) (by unfold gm_fu; omega)
  rw [ga_tc0, ← b6, ga_c0] at e
  rw [show nI 0 = (0 : Int32) from rfl] at e ⊢
  rw [e]
  have hn : ga_c b 6 (ga_tc a t (a 0 0)) = ga_nt a t kd := by rw [← hb]; rfl
  have b12 : b 12 0 = (ga_nt a t kd) 12 0 := by rw [← hn, ga_c2 (by decide)]
  rw [hn, b12]
  have n12 : (ga_nt a t kd) 12 0 = a 12 0 := by rw [ga_nt_c a t kd 12 (by decide) (by decide) (by decide) (by decide) (by decide)]
  have n8 := ga_nt_c a t kd 8 (by decide) (by decide) (by decide) (by decide) (by decide)
  have n13 := ga_nt_c a t kd 13 (by decide) (by decide) (by decide) (by decide) (by decide)
  obtain ⟨e8, e13⟩ := ga_lv0_cg n8 (by rw [n13])
  have k := md_come_80 (b := ga_nt a t kd) (p := p) (t := t) (l := l) ((ga_nt a t kd) 7) (nI kd) (by rw [n12]; exact h12) ht (by rw [e8, e13]; exact hlf) (by rw [e13]; exact hL) (by rw [e8, e13]; exact h8) (by rw [e8, e13]; exact hs) ((ga_nt a t kd) 12 0 - p) ((ga_nt a t kd) 12 0) gm_fu (by have := hp.1; omega) (Nat.le_refl _) (by unfold gm_fu; omega)
  rw [ga_up0, ga_c0] at k
  rw [k]
  rfl
