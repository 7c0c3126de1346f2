/-! how many zeros lead: what the JDK's walk answers -/
theorem nz_mod (n : Nat) : nI n = nI (n % 2 ^ 32) := Int32.toBitVec_inj.mp (by
  show BitVec.ofNat 32 n = BitVec.ofNat 32 (n % 2 ^ 32)
  apply BitVec.eq_of_toNat_eq
  rw [BitVec.toNat_ofNat, BitVec.toNat_ofNat, Nat.mod_mod])
theorem nz_neg {a : Nat} (h : 2 ^ 31 ≤ a) (h2 : a < 2 ^ 32) : nI a < 0 := by
  rw [Int32.lt_iff_toInt_lt]
  have : (nI a).toInt = (a : Int) - 2 ^ 32 := by
    show (Int32.ofNat a).toInt = _
    rw [Int32.toInt_ofNat', show Int32.size = 4294967296 from rfl, Int.bmod_def]
    omega
  rw [this, show (0 : Int32).toInt = 0 from rfl]
  omega
theorem nI_of_ne (m : Nat) (h0 : 0 < m) (h : m < 2 ^ 32) : nI m = 0 → False := by
  intro q
  have := congrArg (fun z : Int32 => z.toBitVec.toNat) q
  simp only [pk_tn h] at this
  rw [show ((0 : Int32).toBitVec.toNat) = 0 from rfl] at this
  omega
theorem nz_73 {a N : Nat} (h1 : 1 ≤ a) (h2 : a < 4) (hN : 1 ≤ N) : ∃ L, L ≤ 1 ∧ 2 ^ L ≤ a ∧ a < 2 ^ (L + 1) ∧ fn_In_numberOfLeadingZeros_73 (nI a) (nI N) = nI (N - L) := by
  have e : fn_In_numberOfLeadingZeros_73 (nI a) (nI N) = nI (N - a / 2) := by
    unfold fn_In_numberOfLeadingZeros_73 gj_iushr
    rw [pk_ushrN (by omega) 1 1 (by decide), pk_sub (by omega)]
  rcases (show a = 1 ∨ a = 2 ∨ a = 3 by omega) with rfl | rfl | rfl
  · exact ⟨0, by decide, by decide, by decide, e⟩
  · exact ⟨1, by decide, by decide, by decide, e⟩
  · exact ⟨1, by decide, by decide, by decide, e⟩
theorem nz_up {a L k : Nat} (h1 : 2 ^ L ≤ a / 2 ^ k) (h2 : a / 2 ^ k < 2 ^ (L + 1)) : 2 ^ (L + k) ≤ a ∧ a < 2 ^ (L + k + 1) := by
  have hp : 0 < 2 ^ k := Nat.pow_pos (by decide)
  constructor
  · rw [Nat.pow_add]
    exact (Nat.le_div_iff_mul_le hp).mp h1
  · rw [show L + k + 1 = (L + 1) + k by omega, Nat.pow_add]
    exact (Nat.div_lt_iff_lt_mul hp).mp h2
theorem nz_m (N k : Nat) (h : k ≤ N) : nI N + (-(nI k)) = nI (N - k) := by
  rw [← Int32.sub_eq_add_neg]
  exact pk_sub h
theorem nz_61 {a N : Nat} (h1 : 1 ≤ a) (h2 : a < 16) (hN : 3 ≤ N) (hN2 : N < 2 ^ 31) : ∃ L, L ≤ 3 ∧ 2 ^ L ≤ a ∧ a < 2 ^ (L + 1) ∧ fn_In_numberOfLeadingZeros_61 (nI a) (nI N) = nI (N - L) := by
  unfold fn_In_numberOfLeadingZeros_61
  by_cases h : a < 4
  · rw [if_pos (show nI a < (4 : Int32) from nI_lt (b := 4) h (by decide))]
    obtain ⟨L, l0, l1, l2, l3⟩ := nz_73 h1 h (show 1 ≤ N by omega)
    exact ⟨L, by omega, l1, l2, l3⟩
  · rw [if_neg (show ¬ nI a < (4 : Int32) from nI_nlt (b := 4) (by omega) (by omega))]
    have e : gj_iushr (nI a) 2 = nI (a / 2 ^ 2) := by unfold gj_iushr; exact pk_ushrN (by omega) 2 2 (by decide)
    obtain ⟨L, l0, l1, l2, l3⟩ := nz_73 (a := a / 2 ^ 2) (N := N - 2) (by omega) (by omega) (by omega)
    rw [e, show nI N + (-2) = nI (N - 2) from nz_m N 2 (by omega), l3]
    obtain ⟨g1, g2⟩ := nz_up l1 l2
    exact ⟨L + 2, by omega, g1, g2, by congr 1; omega⟩
theorem nz_48 {a N : Nat} (h1 : 1 ≤ a) (h2 : a < 256) (hN : 7 ≤ N) (hN2 : N < 2 ^ 31) : ∃ L, L ≤ 7 ∧ 2 ^ L ≤ a ∧ a < 2 ^ (L + 1) ∧ fn_In_numberOfLeadingZeros_48 (nI a) (nI N) = nI (N - L) := by
  unfold fn_In_numberOfLeadingZeros_48
  by_cases h : a < 16
  · rw [if_pos (show nI a < (16 : Int32) from nI_lt (b := 16) h (by decide))]
    obtain ⟨L, l0, l1, l2, l3⟩ := nz_61 h1 h (show 3 ≤ N by omega) hN2
    exact ⟨L, by omega, l1, l2, l3⟩
  · rw [if_neg (show ¬ nI a < (16 : Int32) from nI_nlt (b := 16) (by omega) (by omega))]
    have e : gj_iushr (nI a) 4 = nI (a / 2 ^ 4) := by unfold gj_iushr; exact pk_ushrN (by omega) 4 4 (by decide)
    obtain ⟨L, l0, l1, l2, l3⟩ := nz_61 (a := a / 2 ^ 4) (N := N - 4) (by omega) (by omega) (by omega) (by omega)
    rw [e, show nI N + (-4) = nI (N - 4) from nz_m N 4 (by omega), l3]
    obtain ⟨g1, g2⟩ := nz_up l1 l2
    exact ⟨L + 4, by omega, g1, g2, by congr 1; omega⟩
theorem nz_33 {a N : Nat} (h1 : 1 ≤ a) (h2 : a < 65536) (hN : 15 ≤ N) (hN2 : N < 2 ^ 31) : ∃ L, L ≤ 15 ∧ 2 ^ L ≤ a ∧ a < 2 ^ (L + 1) ∧ fn_In_numberOfLeadingZeros_33 (nI a) (nI N) = nI (N - L) := by
  unfold fn_In_numberOfLeadingZeros_33
  by_cases h : a < 256
  · rw [if_pos (show nI a < (256 : Int32) from nI_lt (b := 256) h (by decide))]
    obtain ⟨L, l0, l1, l2, l3⟩ := nz_48 h1 h (show 7 ≤ N by omega) hN2
    exact ⟨L, by omega, l1, l2, l3⟩
  · rw [if_neg (show ¬ nI a < (256 : Int32) from nI_nlt (b := 256) (by omega) (by omega))]
    have e : gj_iushr (nI a) 8 = nI (a / 2 ^ 8) := by unfold gj_iushr; exact pk_ushrN (by omega) 8 8 (by decide)
    obtain ⟨L, l0, l1, l2, l3⟩ := nz_48 (a := a / 2 ^ 8) (N := N - 8) (by omega) (by omega) (by omega) (by omega)
    rw [e, show nI N + (-8) = nI (N - 8) from nz_m N 8 (by omega), l3]
    obtain ⟨g1, g2⟩ := nz_up l1 l2
    exact ⟨L + 8, by omega, g1, g2, by congr 1; omega⟩
/-- an int: 32 for zero, else 31 less the place of the highest bit -/
theorem nz_In {a : Nat} (h1 : 1 ≤ a) (h2 : a < 2 ^ 32) : ∃ L, L ≤ 31 ∧ 2 ^ L ≤ a ∧ a < 2 ^ (L + 1) ∧ fn_In_numberOfLeadingZeros (nI a) = nI (31 - L) := by
  unfold fn_In_numberOfLeadingZeros
  by_cases h : a < 2 ^ 31
  · rw [if_pos (show (0 : Int32) < nI a from nI_lt (a := 0) (by omega) h)]
    by_cases h3 : a < 65536
    · rw [if_pos (show nI a < (65536 : Int32) from nI_lt (b := 65536) h3 (by decide))]
      obtain ⟨L, l0, l1, l2, l3⟩ := nz_33 h1 h3 (show 15 ≤ 31 by decide) (by decide)
      exact ⟨L, by omega, l1, l2, l3⟩
    · rw [if_neg (show ¬ nI a < (65536 : Int32) from nI_nlt (b := 65536) (by omega) h)]
      have e : gj_iushr (nI a) 16 = nI (a / 2 ^ 16) := by unfold gj_iushr; exact pk_ushrN (by omega) 16 16 (by decide)
      obtain ⟨L, l0, l1, l2, l3⟩ := nz_33 (a := a / 2 ^ 16) (N := 15) (by omega) (by omega) (by omega) (by decide)
      obtain ⟨g1, g2⟩ := nz_up l1 l2
      rw [e, show (31 : Int32) + (-16) = nI 15 from rfl, l3]
      exact ⟨L + 16, by omega, g1, g2, by congr 1; omega⟩
  · have hn := nz_neg (by omega) h2
    rw [if_neg (fun q => absurd (Int32.lt_trans q hn) (by decide)), if_neg (fun q => absurd hn (by rw [q]; decide))]
    exact ⟨31, Nat.le_refl _, by omega, by omega, rfl⟩
/-- a long n of 64 bits: v zeros lead -/
theorem nz_Lo {n : Nat} (h : n < 2 ^ 64) : ∃ v, v ≤ 64 ∧ n < 2 ^ (64 - v) ∧ (v < 64 → 2 ^ (63 - v) ≤ n) ∧ fn_Lo_numberOfLeadingZeros (lN n) = nI v := by
  unfold fn_Lo_numberOfLeadingZeros gj_lushr
  have e : ((lN n).toUInt64 >>> ((32 : Int32).toInt64.toUInt64 &&& Int64.toUInt64 63)).toInt64 = lN (n / 2 ^ 32) := wb_shr (k := 32) h (by decide)
  rw [e, lN_i, lN_i]
  by_cases hz : n / 2 ^ 32 = 0
  · rw [if_pos (by rw [hz]; rfl)]
    by_cases h0 : n = 0
    · subst h0
      exact ⟨64, Nat.le_refl _, by decide, fun q => absurd q (by decide), by rfl⟩
    · obtain ⟨L, l0, l1, l2, l3⟩ := nz_In (a := n) (by omega) (by omega)
      rw [l3, show (32 : Int32) = nI 32 from rfl, nI_add]
      refine ⟨32 + (31 - L), by omega, ?_, fun _ => ?_, rfl⟩
      · rw [show 64 - (32 + (31 - L)) = L + 1 by omega]; exact l2
      · rw [show 63 - (32 + (31 - L)) = L by omega]; exact l1
  · rw [if_neg (show ¬ nI (n / 2 ^ 32) = 0 from fun q => by
      have := (nI_of_ne (n / 2 ^ 32) (by omega) (by omega)) q
      exact this)]
    obtain ⟨L, l0, l1, l2, l3⟩ := nz_In (a := n / 2 ^ 32) (by omega) (by omega)
    obtain ⟨g1, g2⟩ := nz_up l1 l2
    rw [l3]
    refine ⟨31 - L, by omega, ?_, fun _ => ?_, rfl⟩
    · rw [show 64 - (31 - L) = L + 32 + 1 by omega]; exact g2
    · rw [show 63 - (31 - L) = L + 32 by omega]; exact g1
