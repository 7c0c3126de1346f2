/-! what a leaf's terms share -/
theorem gp_cp (f g : Nat → Nat) : ∀ N, ∃ c, c ≤ N ∧ (∀ j, j < c → f j = g j) ∧ (c < N → f c ≠ g c)
  | 0 => ⟨0, Nat.le_refl _, fun j hj => by omega, fun h => by omega⟩
  | N + 1 => by
    obtain ⟨c, h1, h2, h3⟩ := gp_cp f g N
    by_cases hc : c < N
    · exact ⟨c, by omega, h2, fun _ => h3 hc⟩
    · obtain rfl : c = N := by omega
      by_cases he : f c = g c
      · refine ⟨c + 1, Nat.le_refl _, fun j hj => ?_, fun h => by omega⟩
        by_cases hj2 : j < c
        · exact h2 j hj2
        · rw [show j = c by omega]; exact he
      · exact ⟨c, by omega, h2, fun _ => he⟩
theorem tx_sq {f g h : Nat → Nat} {n m : Nat} (h1 : tx_bef f g 0 n) (h2 : tx_bef g h 0 n) (he : ∀ j, j < m → f j = h j) : ∀ j, j < m → f j = g j := by
  obtain ⟨i, -, i2, i3⟩ := h1
  obtain ⟨k, -, k2, k3⟩ := h2
  simp only [Nat.zero_add] at i2 i3 k2 k3
  have hi : m ≤ i := by
    rcases Nat.lt_or_ge i m with q | q
    · exfalso
      have q1 := he i q
      rcases Nat.lt_trichotomy k i with r | r | r
      · have a1 := i2 k r; have a2 := he k (by omega); omega
      · subst r; omega
      · have a1 := k2 i r; omega
    · exact q
  exact fun j hj => i2 j (by omega)
def ga_sq (a : ga_A) (x y c : Nat) : Prop := c ≤ a 5 x ∧ c ≤ a 5 y ∧ (∀ j, j < c → ga_T a x j = ga_T a y j) ∧ (c < a 5 x → c < a 5 y → ga_T a x c ≠ ga_T a y c)
/-- x and y share c -/
def ga_sh (a : ga_A) (x y c : Nat) : Prop := (a 3 x = a 3 y → ga_sq a x y c) ∧ (a 3 x ≠ a 3 y → c = 0)
theorem ga_sq_u {a : ga_A} {x y c d : Nat} (h : ga_sq a x y c) (h' : ga_sq a x y d) : c = d := by
  obtain ⟨a1, a2, a3, a4⟩ := h
  obtain ⟨b1, b2, b3, b4⟩ := h'
  rcases Nat.lt_trichotomy c d with r | r | r
  · exact absurd (b3 c r) (a4 (by omega) (by omega))
  · exact r
  · exact absurd (a3 d r) (b4 (by omega) (by omega))
theorem ga_T_pos {a : ga_A} (hok : ga_ok a) {j i : Nat} (hj : j < a 12 0) : (i < a 5 (a 7 j) → ga_T a (a 7 j) i ≠ 0) ∧ (¬ i < a 5 (a 7 j) → ga_T a (a 7 j) i = 0) := by
  obtain ⟨-, -, -, q⟩ := hok.2.2.2.1 j hj
  refine ⟨fun h => ?_, fun h => ?_⟩
  · have := q i h
    unfold ga_T
    rw [if_pos h]
    show a 6 (16 * a 7 j + i) ≠ 0
    have h33 : 33 ≤ a 6 (16 * a 7 j + i) := this.1
    omega
  · unfold ga_T; rw [if_neg h]
theorem ga_Klt {a : ga_A} (hok : ga_ok a) {i j : Nat} (hij : i < j) (hj : j < a 12 0) : a 3 (a 7 i) < a 3 (a 7 j) ∨ (a 3 (a 7 i) = a 3 (a 7 j) ∧ tx_bef (ga_T a (a 7 i)) (ga_T a (a 7 j)) 0 16) := by
  have h := hok.2.2.2.2 i j hij hj
  exact (ga_k_lt (fun k => ga_pad (hok.2.2.2.1 i (by omega)).2.2 k) (fun k => ga_pad (hok.2.2.2.1 j hj).2.2 k)).mp h
theorem ga_sh_step {a : ga_A} (hok : ga_ok a) {s j e k : Nat} (hs : s ≤ j) (hj : j + 1 < a 12 0) (hsh : ga_sh a (a 7 s) (a 7 j) e) (k1 : k ≤ e) (k2 : k ≤ a 5 (a 7 (j + 1))) (k3 : ∀ i, i < k → ga_T a (a 7 s) i = ga_T a (a 7 (j + 1)) i) (k4 : k < e → k < a 5 (a 7 (j + 1)) → ga_T a (a 7 s) k ≠ ga_T a (a 7 (j + 1)) k) : ga_sh a (a 7 s) (a 7 (j + 1)) (if a 3 (a 7 (j + 1)) = a 3 (a 7 s) then k else 0) := by
  refine ⟨fun hk => ?_, fun hk => if_neg (fun q => hk q.symm)⟩
  rw [if_pos hk.symm]
  have hl := ga_Klt hok (i := j) (j := j + 1) (by omega) hj
  have hkj : a 3 (a 7 s) = a 3 (a 7 j) := by
    rcases Nat.lt_or_ge s j with r | r
    · have := ga_Klt hok r (by omega)
      omega
    · rw [show s = j by omega]
  have hb : tx_bef (ga_T a (a 7 j)) (ga_T a (a 7 (j + 1))) 0 16 := by
    rcases hl with r | r
    · omega
    · exact r.2
  obtain ⟨e1, e2, e3, e4⟩ := hsh.1 hkj
  refine ⟨by omega, k2, k3, fun q1 q2 => ?_⟩
  rcases Nat.lt_or_ge k e with r | r
  · exact k4 r q2
  · obtain rfl : k = e := by omega
    intro he
    have hag : ∀ i, i < k + 1 → ga_T a (a 7 s) i = ga_T a (a 7 (j + 1)) i := fun i hi => by
      by_cases h : i < k
      · exact k3 i h
      · rw [show i = k by omega]; exact he
    have hsj : ga_T a (a 7 s) k = ga_T a (a 7 j) k := by
      rcases Nat.lt_or_ge s j with r' | r'
      · have hl2 := ga_Klt hok r' (by omega)
        have hb2 : tx_bef (ga_T a (a 7 s)) (ga_T a (a 7 j)) 0 16 := by
          rcases hl2 with z | z
          · omega
          · exact z.2
        exact tx_sq hb2 hb hag k (by omega)
      · rw [show s = j by omega]
    have hp := (ga_T_pos hok (j := s) (i := k) (by omega)).1 q1
    by_cases h5 : k < a 5 (a 7 j)
    · exact e4 q1 h5 hsj
    · rw [hsj] at hp
      exact hp ((ga_T_pos hok (j := j) (i := k) (by omega)).2 h5)
theorem md_shared_51 {a : ga_A} {t0 t e k : Nat} (K : Int32 → Int32 → Int32 → Int32 → Int32 → Int32 → Int32 → gm_St → Option (Int32 × gm_St)) (x1 x2 x5 : Int32) (h0 : t0 < 100) (ht : t < 100) (he : e ≤ 16) (h5 : a 5 t ≤ 16) (k1 : k ≤ e) (k2 : k ≤ a 5 t) (k3 : ∀ i, i < k → a 6 (16 * t0 + i) = a 6 (16 * t + i)) (k4 : k < e → k < a 5 t → a 6 (16 * t0 + k) ≠ a 6 (16 * t + k)) (hb : ∀ i, i < 16 → i < a 5 t → a 6 (16 * t + i) < 2 ^ 20) (hb0 : ∀ i, i < e → a 6 (16 * t0 + i) < 2 ^ 20) : ∀ (d x n : Nat), x + d = k → d < n → fn_Md_shared_51 K n x1 x2 (nI t0) (nI e) x5 (nI t) (nI x) (ga_v a) = K x1 x2 (nI t0) (nI e) x5 (nI t) (nI k) (ga_v a) := by
  have g : gj_in (nI t) 100 := nI_in ht (by decide)
  have c : (nI t).toNatClampNeg = t := nI_clamp (by omega)
  have im : ∀ z i : Nat, (16 : Int32) * nI z + nI i = nI (16 * z + i) := fun z i => by rw [show (16 : Int32) = nI 16 from rfl, pk_mul, nI_add]
  intro d
  induction d with
  | zero =>
    intro x n hx hn
    obtain ⟨n, rfl⟩ := ga_su hn
    obtain rfl : x = k := by omega
    rw [fn_Md_shared_51]
    by_cases r : x < e
    · rw [if_neg (nI_ge r (by omega))]
      by_cases r2 : x < a 5 t
      · have g1 : gj_in (nI (16 * t + x)) 1600 := nI_in (by omega) (by decide)
        have c1 : (nI (16 * t + x)).toNatClampNeg = 16 * t + x := nI_clamp (by omega)
        have g2 : gj_in (nI (16 * t0 + x)) 1600 := nI_in (by omega) (by decide)
        have c2 : (nI (16 * t0 + x)).toNatClampNeg = 16 * t0 + x := nI_clamp (by omega)
        have b1 := hb x (by omega) r2
        have b2 := hb0 x r
        simp only [if_pos g, c, ga_vr, if_neg (nI_ge r2 (show a 5 t < 2 ^ 31 by omega)), im, if_pos g1, if_pos g2, c1, c2]
        rw [if_neg (fun q => k4 r r2 ((nI_eq (by omega) (by omega)).mp q).symm)]
      · simp only [if_pos g, c, ga_vr]
        rw [if_pos (nI_le (by omega) (by omega))]
    · rw [if_pos (nI_le (by omega) (by omega))]
  | succ d ih =>
    intro x n hx hn
    obtain ⟨n, rfl⟩ := ga_su hn
    have g1 : gj_in (nI (16 * t + x)) 1600 := nI_in (by omega) (by decide)
    have c1 : (nI (16 * t + x)).toNatClampNeg = 16 * t + x := nI_clamp (by omega)
    have g2 : gj_in (nI (16 * t0 + x)) 1600 := nI_in (by omega) (by decide)
    have c2 : (nI (16 * t0 + x)).toNatClampNeg = 16 * t0 + x := nI_clamp (by omega)
    rw [fn_Md_shared_51, if_neg (nI_ge (by omega) (by omega))]
    simp only [if_pos g, c, ga_vr, im, if_pos g1, if_pos g2, c1, c2]
    rw [if_neg (nI_ge (by omega) (by omega)), if_pos (by rw [k3 x (by omega)]), nI_1]
    exact ih (x + 1) n (by omega) (by omega)
theorem md_shared_26 {a : ga_A} (hok : ga_ok a) {l s : Nat} (hl : l < 100) (hsm : s + a 8 l ≤ a 12 0) (h8 : a 8 l ≤ 8) {s0 : Nat} (hss : s0 = s) : ∀ (d x n e : Nat), x + d = s + a 8 l → s < x → d < n → ga_sh a (a 7 s) (a 7 (x - 1)) e → ∃ c, fn_Md_shared_26 n (nI l) (nI s) (nI (a 7 s)) (nI e) (nI x) (ga_v a) = some (nI c, ga_v a) ∧ ga_sh a (a 7 s) (a 7 (s + a 8 l - 1)) c ∧ c ≤ 16 := by
  have h12 := hok.1
  have gl : gj_in (nI l) 102 := nI_in (by omega) (by decide)
  have cl : (nI l).toNatClampNeg = l := nI_clamp (by omega)
  have hle : ∀ {y e : Nat}, s < a 12 0 → ga_sh a (a 7 s) y e → e ≤ a 5 (a 7 s) := fun {y e} hs h => by
    by_cases hk : a 3 (a 7 s) = a 3 y
    · exact (h.1 hk).1
    · rw [h.2 hk]; exact Nat.zero_le _
  intro d
  induction d with
  | zero =>
    intro x n e hx hsx hn hsh
    obtain ⟨n, rfl⟩ := ga_su hn
    have h5 := (hok.2.2.2.1 s (by omega)).2.2.1
    have := hle (by omega) hsh
    refine ⟨e, ?_, by rw [← show x - 1 = s + a 8 l - 1 by omega]; exact hsh, by omega⟩
    rw [fn_Md_shared_26]
    simp only [if_pos gl, cl, ga_vr, nI_add]
    rw [if_pos (nI_le (by omega) (by omega))]
  | succ d ih =>
    intro x n e hx hsx hn hsh
    obtain ⟨n, rfl⟩ := ga_su hn
    obtain ⟨j, rfl⟩ : ∃ j, x = j + 1 := ⟨x - 1, by omega⟩
    rw [show j + 1 - 1 = j by omega] at hsh
    have gx : gj_in (nI (j + 1)) 101 := nI_in (by omega) (by decide)
    have cx : (nI (j + 1)).toNatClampNeg = j + 1 := nI_clamp (by omega)
    obtain ⟨q1, q2, q3, q4⟩ := hok.2.2.2.1 (j + 1) (by omega)
    obtain ⟨p1, p2, p3, p4⟩ := hok.2.2.2.1 s (by omega)
    have t7 := hok.2.2.1 (j + 1) (by omega)
    have s7 := hok.2.2.1 s (by omega)
    have he := hle (by omega) hsh
    obtain ⟨k, k1, k3, k4⟩ := gp_cp (fun i => a 6 (16 * a 7 s + i)) (fun i => a 6 (16 * a 7 (j + 1) + i)) (min e (a 5 (a 7 (j + 1))))
    have ke : k ≤ e := by omega
    have k5 : k ≤ a 5 (a 7 (j + 1)) := by omega
    have tT : ∀ i, i < a 5 (a 7 (j + 1)) → ga_T a (a 7 (j + 1)) i = a 6 (16 * a 7 (j + 1) + i) := fun i hi => by unfold ga_T; rw [if_pos hi]
    have sT : ∀ i, i < a 5 (a 7 s) → ga_T a (a 7 s) i = a 6 (16 * a 7 s + i) := fun i hi => by unfold ga_T; rw [if_pos hi]
    have step := ga_sh_step hok (k := k) (show s ≤ j by omega) (by omega) hsh ke k5 (fun i hi => by rw [tT i (by omega), sT i (by omega)]; exact k3 i hi) (fun r1 r2 => by rw [tT k (by omega), sT k (by omega)]; exact k4 (by omega))
    have e51 := md_shared_51 (a := a) (t0 := a 7 s) (t := a 7 (j + 1)) (e := e) (k := k) (fn_Md_shared_104 (fn_Md_shared_26 n)) (nI l) (nI s) (nI (j + 1)) s7 t7 (by omega) q3 ke k5 k3 (fun r1 r2 => k4 (by omega)) (fun i _ hi => by have z : a 6 (16 * a 7 (j + 1) + i) ≤ 126 := (q4 i hi).2; omega) (fun i hi => by have z : a 6 (16 * a 7 s + i) ≤ 126 := (p4 i (by omega)).2; omega) k 0 gm_fu (by omega) (by unfold gm_fu; omega)
    rw [fn_Md_shared_26]
    simp only [if_pos gl, cl, ga_vr, nI_add, if_pos gx, cx]
    rw [if_neg (nI_ge (by omega) (by omega)), show (0 : Int32) = nI 0 from rfl, e51]
    unfold fn_Md_shared_104
    have g1 : gj_in (nI (a 7 (j + 1))) 100 := nI_in t7 (by decide)
    have c1 : (nI (a 7 (j + 1))).toNatClampNeg = a 7 (j + 1) := nI_clamp (by omega)
    have g0 : gj_in (nI (a 7 s)) 100 := nI_in s7 (by decide)
    have c0 : (nI (a 7 s)).toNatClampNeg = a 7 s := nI_clamp (by omega)
    simp only [if_pos g1, if_pos g0, c1, c0, ga_vr, nI_1]
    by_cases hk : a 3 (a 7 (j + 1)) = a 3 (a 7 s)
    · rw [if_pos (by rw [hk])]
      rw [if_pos hk] at step
      exact ih (j + 1 + 1) n k (by omega) (by omega) (by omega) step
    · rw [if_neg (fun q => hk ((nI_eq (by omega) (by omega)).mp q)), show (0 : Int32) = nI 0 from rfl]
      rw [if_neg hk] at step
      exact ih (j + 1 + 1) n 0 (by omega) (by omega) (by omega) step
/-- a leaf's places -/
theorem ga_lf_pl {a : ga_A} (h7 : ga_w7 a) {l : Nat} (hl : l < a 13 0) : ga_pre (a 8) l + a 8 l ≤ a 12 0 ∧ 1 ≤ a 8 l ∧ a 8 l ≤ 8 := by
  have h := ga_pre_mono (a 8) (i := l + 1) (j := a 13 0) (by omega)
  rw [h7.1] at h
  exact ⟨h, h7.2 l hl⟩
theorem md_shared {a : ga_A} (hok : ga_ok a) (h7 : ga_w7 a) {l : Nat} (hl : l < a 13 0) : ∃ c, fn_Md_shared (nI l) (ga_v a) = some (nI c, ga_v a) ∧ ga_sh a (a 7 (ga_pre (a 8) l)) (a 7 (ga_pre (a 8) l + a 8 l - 1)) c ∧ c ≤ 16 := by
  have h12 := hok.1
  have hlv := ga_lv_le h7
  obtain ⟨p1, p2, p3⟩ := ga_lf_pl h7 hl
  generalize hs : ga_pre (a 8) l = s at p1
  have s7 := hok.2.2.1 s (by omega)
  have g1 : gj_in (nI s) 101 := nI_in (by omega) (by decide)
  have c1 : (nI s).toNatClampNeg = s := nI_clamp (by omega)
  have g0 : gj_in (nI (a 7 s)) 100 := nI_in s7 (by decide)
  have c0 : (nI (a 7 s)).toNatClampNeg = a 7 s := nI_clamp (by omega)
  unfold fn_Md_shared
  rw [md_begin a (by omega), Option.bind_some, hs]
  simp only [if_pos g1, c1, ga_vr, if_pos g0, c0, nI_1]
  exact md_shared_26 hok (by omega) p1 p3 rfl (a 8 l - 1) (s + 1) gm_fu (a 5 (a 7 s)) (by omega) (by omega) (by unfold gm_fu; omega) ⟨fun _ => ⟨Nat.le_refl _, Nat.le_refl _, fun _ _ => rfl, fun q => absurd q (Nat.lt_irrefl _)⟩, fun q => absurd rfl q⟩
