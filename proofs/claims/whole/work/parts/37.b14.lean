/-! counting -/
def gn_cnt (P : Nat → Bool) : Nat → Nat
  | 0 => 0
  | n + 1 => gn_cnt P n + (if P n = true then 1 else 0)
theorem gn_cong {P Q : Nat → Bool} : ∀ {n : Nat}, (∀ i, i < n → P i = Q i) → gn_cnt P n = gn_cnt Q n := by
  intro n
  induction n with
  | zero => intro _; rfl
  | succ n ih =>
    intro h
    show gn_cnt P n + _ = gn_cnt Q n + _
    rw [ih (fun i hi => h i (by omega)), h n (by omega)]
theorem gn_le (P : Nat → Bool) : ∀ n, gn_cnt P n ≤ n
  | 0 => Nat.le_refl _
  | n + 1 => by
    have := gn_le P n
    show gn_cnt P n + (if P n = true then 1 else 0) ≤ n + 1
    split <;> omega
theorem gn_flip {P Q : Nat → Bool} {s : Nat} (h1 : P s = false) (h2 : Q s = true) (h3 : ∀ i, i ≠ s → Q i = P i) : ∀ {n : Nat}, s < n → gn_cnt Q n = gn_cnt P n + 1 := by
  intro n
  induction n with
  | zero => intro h; omega
  | succ n ih =>
    intro h
    show gn_cnt Q n + (if Q n = true then 1 else 0) = gn_cnt P n + (if P n = true then 1 else 0) + 1
    rcases Nat.lt_succ_iff_lt_or_eq.mp h with q | q
    · rw [ih q, h3 n (by omega)]; omega
    · subst q
      rw [h1, h2, gn_cong (P := Q) (Q := P) (fun i hi => h3 i (by omega))]
      simp
theorem gn_perm {s : Nat → Nat} {N : Nat} {Q : Nat → Bool} : ∀ (m : Nat) (P : Nat → Bool), (∀ i, i < m → s i < N) → (∀ i j, i < m → j < m → s i = s j → i = j) → (∀ k, k < N → (P k = true ↔ (∃ i, i < m ∧ s i = k) ∧ Q k = true)) → gn_cnt P N = gn_cnt (fun i => Q (s i)) m := by
  intro m
  induction m with
  | zero =>
    intro P h1 h2 h3
    have : ∀ i, i < N → P i = (fun _ => false) i := fun i hi => by
      cases hP : P i
      · rfl
      · obtain ⟨⟨j, hj, -⟩, -⟩ := (h3 i hi).mp hP
        omega
    rw [gn_cong this]
    show gn_cnt (fun _ => false) N = 0
    clear h1 h2 h3 this
    induction N with
    | zero => rfl
    | succ N ih => show gn_cnt (fun _ => false) N + _ = 0; rw [ih]; simp
  | succ m ih =>
    intro P h1 h2 h3
    have hs := h1 m (by omega)
    have hP' := ih (fun k => P k && !(k == s m)) (fun i hi => h1 i (by omega)) (fun i j hi hj => h2 i j (by omega) (by omega)) (fun k hk => by
      rw [Bool.and_eq_true, h3 k hk]
      constructor
      · rintro ⟨⟨⟨i, hi, e⟩, q⟩, r⟩
        refine ⟨⟨i, ?_, e⟩, q⟩
        rcases Nat.lt_succ_iff_lt_or_eq.mp hi with z | z
        · exact z
        · subst z; subst e; simp at r
      · rintro ⟨⟨i, hi, e⟩, q⟩
        refine ⟨⟨⟨i, by omega, e⟩, q⟩, ?_⟩
        have : k ≠ s m := fun z => by have := h2 i m (by omega) (by omega) (e.trans z); omega
        simp [this])
    show gn_cnt P N = gn_cnt (fun i => Q (s i)) m + (if Q (s m) = true then 1 else 0)
    rw [← hP']
    by_cases hQ : Q (s m) = true
    · rw [if_pos hQ]
      exact gn_flip (s := s m) (by simp) ((h3 _ hs).mpr ⟨⟨m, by omega, rfl⟩, hQ⟩) (fun i hi => by simp [hi]) hs
    · rw [if_neg hQ]
      refine gn_cong (fun i hi => ?_)
      by_cases e : i = s m
      · subst e
        have : P (s m) = false := by
          cases hP : P (s m)
          · rfl
          · exact absurd ((h3 _ hs).mp hP).2 hQ
        simp [this]
      · simp [e]
theorem gn_true (n : Nat) : gn_cnt (fun _ => true) n = n := by
  induction n with
  | zero => rfl
  | succ n ih => show gn_cnt (fun _ => true) n + _ = n + 1; rw [ih]; simp
/-! how much two texts share -/
theorem mi_nI {a b : Nat} (ha : a < 2 ^ 31) (hb : b < 2 ^ 31) : fn_Ma_min (nI a) (nI b) = nI (min a b) := by
  unfold fn_Ma_min
  by_cases h : b < a
  · rw [if_pos (nI_lt h ha), show min a b = b by omega]
  · rw [if_neg (nI_nlt (by omega) hb), show min a b = a by omega]
theorem lx_nI {a b : Nat} (ha : a < 2 ^ 64) (hb : b < 2 ^ 64) : lN a ^^^ lN b = lN (a ^^^ b) := by
  apply wb_inj
  rw [Int64.toBitVec_xor, wb_tb, wb_tb, wb_tb]
  apply BitVec.eq_of_toNat_eq
  rw [BitVec.toNat_xor, BitVec.toNat_ofNat, BitVec.toNat_ofNat, BitVec.toNat_ofNat, Nat.mod_eq_of_lt ha, Nat.mod_eq_of_lt hb, Nat.mod_eq_of_lt (Nat.xor_lt_two_pow ha hb)]
theorem sh_8 {f g : Nat → Nat} (hf : ∀ i, f i < 256) (hg : ∀ i, g i < 256) (o : Nat) : ∃ e, e ≤ 8 ∧ fn_Lo_numberOfLeadingZeros (lN (tx_enc f o 8) ^^^ lN (tx_enc g o 8)) / 8 = nI e ∧ (∀ j, j < e → f (o + j) = g (o + j)) ∧ (e < 8 → f (o + e) ≠ g (o + e)) := by
  have h1 : tx_enc f o 8 < 2 ^ 64 := Nat.lt_of_lt_of_eq (tx_lt hf o 8) (by decide)
  have h2 : tx_enc g o 8 < 2 ^ 64 := Nat.lt_of_lt_of_eq (tx_lt hg o 8) (by decide)
  rw [lx_nI h1 h2]
  obtain ⟨v, v1, v2, v3, v4⟩ := nz_Lo (Nat.xor_lt_two_pow h1 h2)
  rw [v4, show (8 : Int32) = nI 8 from rfl, pk_div (by omega) (by decide) (by decide)]
  have key : ∀ i, i ≤ 8 → (tx_enc f o 8 ^^^ tx_enc g o 8 < 256 ^ (8 - i) ↔ ∀ j, j < i → f (o + j) = g (o + j)) := fun i hi => by
    have := tx_xor hf hg o i (8 - i)
    rw [show i + (8 - i) = 8 by omega] at this
    exact this
  have first : ∀ j, j < v / 8 → f (o + j) = g (o + j) := (key (v / 8) (by omega)).mp (by
    rw [tx_p8]
    exact Nat.lt_of_lt_of_le v2 (Nat.pow_le_pow_right (by decide) (by omega)))
  refine ⟨v / 8, by omega, rfl, first, fun h8 he => ?_⟩
  have := (key (v / 8 + 1) (by omega)).mpr (fun j hj => by
    rcases Nat.lt_succ_iff_lt_or_eq.mp hj with q | q
    · exact first j q
    · rw [q]; exact he)
  rw [tx_p8] at this
  have h4 := v3 (by omega)
  have h5 : 2 ^ (8 * (8 - (v / 8 + 1))) ≤ 2 ^ (63 - v) := Nat.pow_le_pow_right (by decide) (by omega)
  omega
/-- e of the first 16 places are alike, and no more -/
def ga_cp (f g : Nat → Nat) (e : Nat) : Prop := e ≤ 16 ∧ (∀ j, j < e → f j = g j) ∧ (e < 16 → f e ≠ g e)
theorem bk_sharedWith {u : gk_St} {k q nk nq : Nat} {f g : Nat → Nat} (hf : ∀ i, f i < 128) (hg : ∀ i, g i < 128) (tf : gb_T u k nk f) (tg : gb_T u q nq g) (h1 : nk ≤ 16) (h2 : nq ≤ 16) : ∃ e, ga_cp f g e ∧ fn_Tx_sharedWith k q u = some (nI (min e (min nk nq)), u) := by
  obtain ⟨f0, f1, f2⟩ := tf
  obtain ⟨g0, g1, g2⟩ := tg
  have hf' : ∀ i, f i < 256 := fun i => Nat.lt_of_lt_of_le (hf i) (by decide)
  have hg' : ∀ i, g i < 256 := fun i => Nat.lt_of_lt_of_le (hg i) (by decide)
  unfold fn_Tx_sharedWith
  rw [f0, f1, f2, g0, g1, g2, mi_nI (by omega) (by omega)]
  have a1 := tx_lt7 hf 0
  have b1 := tx_lt7 hg 0
  by_cases h : tx_enc f 0 8 = tx_enc g 0 8
  · rw [if_pos ((lg_0 _ _).mpr (by rw [h]))]
    have h8 := (tx_inj hf' hg' 0 8).mp h
    obtain ⟨e, e1, e2, e3, e4⟩ := sh_8 hf' hg' 8
    rw [e2, show (8 : Int32) = nI 8 from rfl, nI_add, mi_nI (by omega) (by omega)]
    refine ⟨8 + e, ⟨by omega, fun j hj => ?_, fun q => e4 (by omega)⟩, rfl⟩
    by_cases hj8 : j < 8
    · have := h8 j hj8; rw [Nat.zero_add] at this; exact this
    · have := e3 (j - 8) (by omega); rw [show 8 + (j - 8) = j by omega] at this; exact this
  · rw [if_neg (fun r => h ((pk_lEQ a1 b1).mp ((lg_0 _ _).mp r)))]
    obtain ⟨e, e1, e2, e3, e4⟩ := sh_8 hf' hg' 0
    have he : e < 8 := by
      rcases Nat.lt_or_ge e 8 with q | q
      · exact q
      · exact absurd ((tx_inj hf' hg' 0 8).mpr (fun i hi => e3 i (by omega))) h
    rw [e2, mi_nI (by omega) (by omega)]
    refine ⟨e, ⟨by omega, fun j hj => ?_, fun _ => ?_⟩, rfl⟩
    · have := e3 j hj; rw [Nat.zero_add] at this; exact this
    · have := e4 he; rw [Nat.zero_add] at this; exact this
