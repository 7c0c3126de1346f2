/-! the tape: bytes out of a long, and what comes behind the tape -/
def ga_b (N i : Nat) : Nat := N / 2 ^ (8 * i) % 256
theorem by_8 {i : Nat} : (8 : Int32) * nI i = nI (8 * i) := by rw [show (8 : Int32) = nI 8 from rfl, pk_mul]
theorem by_m {m : Nat} (h : m < 2 ^ 64) : lN m &&& 255 = lN (m % 256) := wb_mask (k := 8) h (by decide)
theorem bk_byteOf {N i : Nat} (hN : N < 2 ^ 64) (hi : i < 8) (u : gk_St) : fn_Bk_byteOf (lN N) (nI i) u = some (nI (ga_b N i), u) := by
  unfold fn_Bk_byteOf gj_lushr
  rw [by_8, wb_shr hN (by omega), by_m (Nat.lt_of_le_of_lt (Nat.div_le_self _ _) hN), lN_i]
  rfl
theorem by_s {N i : Nat} (hN : N < 2 ^ 64) (hi : i < 8) : Int64.toInt32 (gj_lshr (lN N) (8 * nI i) &&& 255) = nI (ga_b N i) := by
  unfold gj_lshr
  have e : (lN N >>> ((nI (8 * i)).toInt64 &&& 63)) &&& 255 = lN (ga_b N i) := by
    apply wb_inj
    rw [Int64.toBitVec_and, Int64.toBitVec_shiftRight, wb_c _ (by omega)]
    apply BitVec.eq_of_getLsbD_eq
    intro j hj
    rw [BitVec.getLsbD_and]
    have h255 : (255 : Int64).toBitVec.getLsbD j = decide (j < 8) := by
      have : ∀ j, j < 64 → (255 : Int64).toBitVec.getLsbD j = decide (j < 8) := by decide +kernel
      exact this j hj
    rw [h255, wb_tb, wb_tb, wb_tb]
    unfold ga_b
    by_cases hj8 : j < 8
    · rw [decide_eq_true hj8, Bool.and_true, BitVec.sshiftRight_eq', wb_sm _ (by omega), BitVec.toNat_ofNat, Nat.mod_eq_of_lt (show 8 * i < 2 ^ 64 by omega), BitVec.getLsbD_sshiftRight]
      rw [show decide (64 ≤ j) = false from decide_eq_false (by omega), Bool.not_false, Bool.true_and, if_pos (by omega), BitVec.getLsbD_ofNat, BitVec.getLsbD_ofNat]
      rw [decide_eq_true (show 8 * i + j < 64 by omega), decide_eq_true hj, Bool.true_and, Bool.true_and, show (256 : Nat) = 2 ^ 8 from rfl, Nat.testBit_mod_two_pow, decide_eq_true hj8, Bool.true_and, Nat.testBit_div_two_pow, Nat.add_comm]
    · rw [decide_eq_false hj8, Bool.and_false, BitVec.getLsbD_ofNat, decide_eq_true hj, Bool.true_and, show (256 : Nat) = 2 ^ 8 from rfl, Nat.testBit_mod_two_pow, decide_eq_false hj8, Bool.false_and]
  rw [by_8, e, lN_i]
/-- the lowest n bytes are bytes of texts -/
def ga_fit (N n : Nat) : Prop := ∀ i, i < n → 33 ≤ ga_b N i ∧ ga_b N i ≤ 126
theorem ga_b_lt (N i : Nat) : ga_b N i < 256 := Nat.mod_lt _ (by decide)
theorem bk_allFit_2 {N m : Nat} (hN : N < 2 ^ 64) (hm : m ≤ 8) (u : gk_St) : ∀ (d x n : Nat), x + d = m → d < n → ∃ r, fn_Bk_allFit_2 n (lN N) (nI m) (nI x) u = some (r, u) ∧ ((∀ i, x ≤ i → i < m → 33 ≤ ga_b N i ∧ ga_b N i ≤ 126) → r = 1) ∧ (¬ (∀ i, x ≤ i → i < m → 33 ≤ ga_b N i ∧ ga_b N i ≤ 126) → r = 0) := by
  intro d
  induction d with
  | zero =>
    intro x n hx hn
    obtain ⟨n, rfl⟩ := ga_su hn
    refine ⟨1, by rw [fn_Bk_allFit_2, if_pos (nI_le (by omega) (by omega))], fun _ => rfl, fun h => absurd (fun i h1 h2 => absurd h2 (by omega)) h⟩
  | succ d ih =>
    intro x n hx hn
    obtain ⟨n, rfl⟩ := ga_su hn
    have hb := ga_b_lt N x
    rw [fn_Bk_allFit_2, if_neg (nI_ge (by omega) (by omega)), bk_byteOf hN (by omega), Option.bind_some, nI_1]
    show ∃ r, (if nI (ga_b N x) < 33 then some (0, u) else if nI (ga_b N x) ≤ 126 then fn_Bk_allFit_2 n (lN N) (nI m) (nI (x + 1)) u else some (0, u)) = some (r, u) ∧ _
    by_cases h1 : ga_b N x < 33
    · rw [if_pos (show nI (ga_b N x) < (33 : Int32) from nI_lt (b := 33) h1 (by decide))]
      exact ⟨0, rfl, fun h => absurd (h x (Nat.le_refl _) (by omega)).1 (by omega), fun _ => rfl⟩
    · rw [if_neg (show ¬ nI (ga_b N x) < (33 : Int32) from nI_nlt (b := 33) (by omega) (by omega))]
      by_cases h2 : ga_b N x ≤ 126
      · rw [if_pos (show nI (ga_b N x) ≤ (126 : Int32) from nI_le (b := 126) h2 (by decide))]
        obtain ⟨r, g0, g1, g2⟩ := ih (x + 1) n (by omega) (by omega)
        refine ⟨r, g0, fun h => g1 (fun i a1 a2 => h i (by omega) a2), fun h => g2 (fun q => h (fun i a1 a2 => ?_))⟩
        rcases Nat.lt_or_ge x i with s | s
        · exact q i s a2
        · rw [show i = x by omega]; exact ⟨by omega, h2⟩
      · rw [if_neg (show ¬ nI (ga_b N x) ≤ (126 : Int32) from nI_ge (a := 126) (by omega) (by omega))]
        exact ⟨0, rfl, fun h => absurd (h x (Nat.le_refl _) (by omega)).2 h2, fun _ => rfl⟩
theorem bk_allFit {N m : Nat} (hN : N < 2 ^ 64) (hm : m ≤ 8) (u : gk_St) : ∃ r, fn_Bk_allFit (lN N) (nI m) u = some (r, u) ∧ (ga_fit N m → r = 1) ∧ (¬ ga_fit N m → r = 0) := by
  obtain ⟨r, g0, g1, g2⟩ := bk_allFit_2 hN hm u m 0 gk_fu (by omega) (by unfold gk_fu; omega)
  exact ⟨r, g0, fun h => g1 (fun i _ a2 => h i a2), fun h => g2 (fun q => h (fun i a2 => q i (Nat.zero_le _) a2))⟩
/-- the reference looks at the bytes: all fit -/
theorem md_type_12A {N m : Nat} (hN : N < 2 ^ 64) (hm : m ≤ 8) (v : gm_St) (h : ga_fit N m) : ∀ (d x n : Nat), x + d = m → d < n → fn_Md_type_12 n (lN N) (nI m) 1 (nI x) v = if v.1 0 0 + nI m ≤ 16 then fn_Md_type_76 gm_fu (lN N) (nI m) 1 (nI m - 1) v else some (-3, v) := by
  intro d
  induction d with
  | zero =>
    intro x n hx hn
    obtain ⟨n, rfl⟩ := ga_su hn
    rw [fn_Md_type_12, if_pos (nI_le (by omega) (by omega)), if_neg (by decide)]
  | succ d ih =>
    intro x n hx hn
    obtain ⟨n, rfl⟩ := ga_su hn
    have hb := h x (by omega)
    rw [fn_Md_type_12, if_neg (nI_ge (by omega) (by omega)), if_neg (by decide), by_s hN (by omega), md_in, Option.bind_some, nI_1]
    rw [if_pos ⟨show (33 : Int32) ≤ nI (ga_b N x) from nI_le (a := 33) hb.1 (by omega), show nI (ga_b N x) ≤ (126 : Int32) from nI_le (b := 126) hb.2 (by decide)⟩]
    exact ih (x + 1) n (by omega) (by omega)
/-- one doesn't -/
theorem md_type_12B {N m : Nat} (hN : N < 2 ^ 64) (hm : m ≤ 8) (v : gm_St) : ∀ (d x n : Nat), x + d = m → d < n → (¬ ∀ i, x ≤ i → i < m → 33 ≤ ga_b N i ∧ ga_b N i ≤ 126) → fn_Md_type_12 n (lN N) (nI m) 1 (nI x) v = some (-1, v) := by
  intro d
  induction d with
  | zero =>
    intro x n hx hn h
    exact absurd (fun i h1 h2 => absurd h2 (by omega)) h
  | succ d ih =>
    intro x n hx hn h
    obtain ⟨n, rfl⟩ := ga_su hn
    have hb := ga_b_lt N x
    rw [fn_Md_type_12, if_neg (nI_ge (by omega) (by omega)), if_neg (by decide), by_s hN (by omega), md_in, Option.bind_some, nI_1]
    by_cases hf : 33 ≤ ga_b N x ∧ ga_b N x ≤ 126
    · rw [if_pos ⟨show (33 : Int32) ≤ nI (ga_b N x) from nI_le (a := 33) hf.1 (by omega), show nI (ga_b N x) ≤ (126 : Int32) from nI_le (b := 126) hf.2 (by decide)⟩]
      refine ih (x + 1) n (by omega) (by omega) (fun q => h (fun i a1 a2 => ?_))
      rcases Nat.lt_or_ge x i with s | s
      · exact q i s a2
      · rw [show i = x by omega]; exact hf
    · rw [if_neg (fun q => hf ⟨(nI_leI (a := 33) (by decide) (by omega)).mp q.1, (nI_leI (b := 126) (by omega) (by decide)).mp q.2⟩)]
      obtain ⟨n, rfl⟩ := ga_su (show d < n by omega)
      show fn_Md_type_12 (n + 1) (lN N) (nI m) 0 (nI (x + 1)) v = _
      rw [fn_Md_type_12]
      simp only [if_pos (show (0 : Int32) = 0 from rfl)]
      split <;> rfl
