/-! texts and the tape, zero behind their ends; which comes first -/
def ga_T (a : ga_A) (k : Nat) : Nat → Nat := fun i => if i < a 5 k then a 6 (16 * k + i) else 0
def ga_P (a : ga_A) : Nat → Nat := fun i => if i < a 0 0 then a 1 i else 0
/-- a text of n bytes of 33 .. 126 -/
def ga_tok (f : Nat → Nat) (n : Nat) : Prop := n ≤ 16 ∧ ∀ i, i < n → 33 ≤ f i ∧ f i ≤ 126
def ga_ltk (a : ga_A) (t kd : Nat) : Prop := a 3 t < kd ∨ (a 3 t = kd ∧ tx_bef (ga_T a t) (ga_P a) 0 16)
def ga_eq (a : ga_A) (t kd : Nat) : Prop := a 3 t = kd ∧ ∀ i, i < 16 → ga_T a t i = ga_P a i
theorem ga_subneg {a b : Nat} (ha : a < 2 ^ 30) (hb : b < 2 ^ 30) : nI a - nI b < 0 ↔ a < b := by
  rw [Int32.lt_iff_toInt_lt, pk_sub_toInt ha hb, show (0 : Int32).toInt = 0 from rfl]
  omega
theorem ga_subz {a b : Nat} (ha : a < 2 ^ 30) (hb : b < 2 ^ 30) : nI a - nI b = 0 ↔ a = b := by
  rw [← Int32.toInt_inj, pk_sub_toInt ha hb, show (0 : Int32).toInt = 0 from rfl]
  omega
theorem tx_at {a b : Nat → Nat} {i n : Nat} (hi : i < n) (he : ∀ j, j < i → a j = b j) (hne : a i ≠ b i) : (tx_bef a b 0 n ↔ a i < b i) ∧ ¬ ∀ j, j < n → a j = b j := by
  refine ⟨⟨fun h => ?_, fun h => ⟨i, hi, fun j hj => by rw [Nat.zero_add]; exact he j hj, by rw [Nat.zero_add]; exact h⟩⟩, fun h => hne (h i hi)⟩
  obtain ⟨k, hk, h1, h2⟩ := h
  rw [Nat.zero_add] at h2
  rcases Nat.lt_trichotomy k i with q | q | q
  · rw [he k q] at h2
    omega
  · rw [← q]; exact h2
  · have := h1 i q
    rw [Nat.zero_add] at this
    exact absurd this hne
theorem tx_same {a b : Nat → Nat} {n : Nat} (he : ∀ j, j < n → a j = b j) : ¬ tx_bef a b 0 n := by
  rintro ⟨i, hi, -, h⟩
  rw [Nat.zero_add, he i hi] at h
  omega
theorem md_against_21 (a : ga_A) {t : Nat} (q : Int32) (ht : t < 100) (hT : ga_tok (fun i => a 6 (16 * t + i)) (a 5 t)) (hP : ga_tok (a 1) (a 0 0)) : ∀ (d x n : Nat), x + d = a 5 t → x ≤ a 0 0 → d < n → (∀ i, i < x → a 6 (16 * t + i) = a 1 i) →
    ∃ c, fn_Md_against_21 n (nI t) q (nI x) (ga_v a) = some (c, ga_v a) ∧ (c < 0 ↔ tx_bef (ga_T a t) (ga_P a) 0 16) ∧ (c = 0 ↔ ∀ i, i < 16 → ga_T a t i = ga_P a i) := by
  have h5 := hT.1
  have h0 := hP.1
  have gt : gj_in (nI t) 100 := nI_in ht (by omega)
  have ct : (nI t).toNatClampNeg = t := nI_clamp (by omega)
  intro d
  induction d with
  | zero =>
    intro x n hx hx0 hn he
    obtain ⟨n, rfl⟩ := ga_su hn
    refine ⟨nI (a 5 t) - nI (a 0 0), ?_, ?_⟩
    · rw [fn_Md_against_21]
      simp only [if_pos gt, ct, ga_vr]
      rw [if_pos (nI_le (by omega) (by omega))]
    · rw [ga_subneg (by omega) (by omega), ga_subz (by omega) (by omega)]
      have hb : ∀ j, j < a 5 t → ga_T a t j = ga_P a j := fun j hj => by
        unfold ga_T ga_P
        rw [if_pos hj, if_pos (by omega), he j (by omega)]
      by_cases hc : a 5 t = a 0 0
      · have hall : ∀ i, i < 16 → ga_T a t i = ga_P a i := fun i hi => by
          by_cases hl : i < a 5 t
          · exact hb i hl
          · unfold ga_T ga_P
            rw [if_neg hl, if_neg (by omega)]
        exact ⟨⟨fun h => absurd h (by omega), fun h => absurd h (tx_same hall)⟩, ⟨fun _ => hall, fun _ => hc⟩⟩
      · have hl := hP.2 (a 5 t) (by omega)
        have e1 : ga_T a t (a 5 t) = 0 := by unfold ga_T; rw [if_neg (by omega)]
        have e2 : ga_P a (a 5 t) = a 1 (a 5 t) := by unfold ga_P; rw [if_pos (by omega)]
        obtain ⟨g1, g2⟩ := tx_at (a := ga_T a t) (b := ga_P a) (i := a 5 t) (n := 16) (by omega) hb (by rw [e1, e2]; omega)
        rw [e1, e2] at g1
        exact ⟨⟨fun _ => g1.mpr (by omega), fun _ => by omega⟩, ⟨fun h => absurd h hc, fun h => absurd h g2⟩⟩
  | succ d ih =>
    intro x n hx hx0 hn he
    obtain ⟨n, rfl⟩ := ga_su hn
    have hb : ∀ j, j < x → ga_T a t j = ga_P a j := fun j hj => by
      unfold ga_T ga_P
      rw [if_pos (by omega), if_pos (by omega), he j hj]
    have b1 : 33 ≤ a 6 (16 * t + x) ∧ a 6 (16 * t + x) ≤ 126 := hT.2 x (by omega)
    have e1 : ga_T a t x = a 6 (16 * t + x) := by unfold ga_T; rw [if_pos (by omega)]
    by_cases hc : a 0 0 ≤ x
    · refine ⟨nI (a 5 t) - nI (a 0 0), ?_, ?_⟩
      · rw [fn_Md_against_21]
        simp only [if_pos gt, ct, ga_vr]
        rw [if_neg (nI_ge (by omega) (by omega)), if_pos (nI_le hc (by omega))]
      · rw [ga_subneg (by omega) (by omega), ga_subz (by omega) (by omega)]
        have e2 : ga_P a x = 0 := by unfold ga_P; rw [if_neg (by omega)]
        obtain ⟨g1, g2⟩ := tx_at (a := ga_T a t) (b := ga_P a) (i := x) (n := 16) (by omega) hb (by rw [e1, e2]; omega)
        rw [e1, e2] at g1
        exact ⟨⟨fun _ => by omega, fun h => absurd (g1.mp h) (by omega)⟩, ⟨fun _ => by omega, fun h => absurd h g2⟩⟩
    · have b2 : 33 ≤ a 1 x ∧ a 1 x ≤ 126 := hP.2 x (by omega)
      have e2 : ga_P a x = a 1 x := by unfold ga_P; rw [if_pos (by omega)]
      have i1 : (16 : Int32) * nI t + nI x = nI (16 * t + x) := by
        rw [show (16 : Int32) = nI 16 from rfl, pk_mul, nI_add]
      have step : fn_Md_against_21 (n + 1) (nI t) q (nI x) (ga_v a) = if nI (a 6 (16 * t + x)) - nI (a 1 x) = 0 then fn_Md_against_21 n (nI t) q (nI (x + 1)) (ga_v a) else some (nI (a 6 (16 * t + x)) - nI (a 1 x), ga_v a) := by
        rw [fn_Md_against_21]
        have gx : gj_in (nI x) 16 := nI_in (by omega) (by omega)
        have cx : (nI x).toNatClampNeg = x := nI_clamp (by omega)
        have gy : gj_in (nI (16 * t + x)) 1600 := nI_in (by omega) (by omega)
        have cy : (nI (16 * t + x)).toNatClampNeg = 16 * t + x := nI_clamp (by omega)
        simp only [if_pos gt, ct, ga_vr, i1, if_pos gx, cx, if_pos gy, cy, nI_1]
        rw [if_neg (nI_ge (by omega) (by omega)), if_neg (nI_ge (by omega) (by omega))]
      rw [step]
      by_cases hd : a 6 (16 * t + x) = a 1 x
      · rw [if_pos ((ga_subz (by omega) (by omega)).mpr hd)]
        exact ih (x + 1) n (by omega) (by omega) (by omega) (fun i hi => by
          rcases Nat.lt_succ_iff_lt_or_eq.mp hi with r | r
          · exact he i r
          · rw [r]; exact hd)
      · rw [if_neg (fun h => hd ((ga_subz (by omega) (by omega)).mp h))]
        refine ⟨_, rfl, ?_⟩
        rw [ga_subneg (by omega) (by omega), ga_subz (by omega) (by omega)]
        obtain ⟨g1, g2⟩ := tx_at (a := ga_T a t) (b := ga_P a) (i := x) (n := 16) (by omega) hb (by rw [e1, e2]; exact hd)
        rw [e1, e2] at g1
        exact ⟨g1.symm, ⟨fun h => absurd h hd, fun h => absurd h g2⟩⟩
theorem md_against (a : ga_A) {t kd : Nat} (ht : t < 100) (hk : a 3 t < 4) (hkd : kd < 4) (hT : ga_tok (fun i => a 6 (16 * t + i)) (a 5 t)) (hP : ga_tok (a 1) (a 0 0)) :
    ∃ c, fn_Md_against (nI t) (nI kd) (ga_v a) = some (c, ga_v a) ∧ (c < 0 ↔ ga_ltk a t kd) ∧ (c = 0 ↔ ga_eq a t kd) := by
  have h5 := hT.1
  unfold fn_Md_against ga_ltk ga_eq
  have gt : gj_in (nI t) 100 := nI_in ht (by omega)
  have ct : (nI t).toNatClampNeg = t := nI_clamp (by omega)
  simp only [if_pos gt, ct, ga_vr]
  by_cases h : a 3 t = kd
  · rw [if_pos (by rw [h])]
    obtain ⟨c, g0, g1, g2⟩ := md_against_21 a (nI kd) ht hT hP (a 5 t) 0 gm_fu (by omega) (by omega) (by unfold gm_fu; omega) (fun i hi => absurd hi (by omega))
    refine ⟨c, g0, g1.trans ⟨fun q => Or.inr ⟨h, q⟩, fun q => q.elim (fun r => absurd r (by omega)) (fun r => r.2)⟩, g2.trans ⟨fun q => ⟨h, q⟩, fun q => q.2⟩⟩
  · rw [if_neg (fun q => h ((nI_eq (by omega) (by omega)).mp q))]
    refine ⟨_, rfl, ?_⟩
    rw [ga_subneg (by omega) (by omega), ga_subz (by omega) (by omega)]
    exact ⟨⟨fun q => Or.inl q, fun q => q.elim id (fun r => absurd r.1 h)⟩, ⟨fun q => absurd q h, fun q => absurd q.1 h⟩⟩
