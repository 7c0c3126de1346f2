/-! texts as functions of the place, zero behind the end; eight of their bytes as one number -/
def tx_enc (t : Nat → Nat) (o : Nat) : Nat → Nat
  | 0 => 0
  | n + 1 => tx_enc t o n * 256 + t (o + n)
theorem tx_lt {t : Nat → Nat} (h : ∀ i, t i < 256) (o : Nat) : ∀ n, tx_enc t o n < 256 ^ n
  | 0 => by simp [tx_enc]
  | n + 1 => by
    have h1 := tx_lt h o n
    have h2 := h (o + n)
    show tx_enc t o n * 256 + t (o + n) < 256 ^ (n + 1)
    rw [Nat.pow_succ]
    omega
theorem tx_app (t : Nat → Nat) (o m : Nat) : ∀ r, tx_enc t o (m + r) = tx_enc t o m * 256 ^ r + tx_enc t (o + m) r
  | 0 => by simp [tx_enc]
  | r + 1 => by
    have h1 := tx_app t o m r
    show tx_enc t o (m + r) * 256 + t (o + (m + r)) = tx_enc t o m * 256 ^ (r + 1) + (tx_enc t (o + m) r * 256 + t (o + m + r))
    rw [h1, Nat.pow_succ, ← Nat.mul_assoc, Nat.add_mul, Nat.add_assoc o m r]
    omega
theorem tx_div {t : Nat → Nat} (h : ∀ i, t i < 256) (o m r : Nat) : tx_enc t o (m + r) / 256 ^ r = tx_enc t o m := by
  rw [tx_app, Nat.mul_comm, Nat.mul_add_div (Nat.pow_pos (by decide)), Nat.div_eq_of_lt (tx_lt h _ _), Nat.add_zero]
theorem tx_byte {t : Nat → Nat} (h : ∀ i, t i < 256) (o i r : Nat) : tx_enc t o (i + 1 + r) / 256 ^ r % 256 = t (o + i) := by
  rw [tx_div h]
  show (tx_enc t o i * 256 + t (o + i)) % 256 = t (o + i)
  have h2 := h (o + i)
  omega
theorem tx_inj {a b : Nat → Nat} (ha : ∀ i, a i < 256) (hb : ∀ i, b i < 256) (o : Nat) : ∀ n, tx_enc a o n = tx_enc b o n ↔ ∀ i, i < n → a (o + i) = b (o + i)
  | 0 => by simp [tx_enc]
  | n + 1 => by
    have ih := tx_inj ha hb o n
    have h1 := ha (o + n)
    have h2 := hb (o + n)
    constructor
    · intro h i hi
      have h : tx_enc a o n * 256 + a (o + n) = tx_enc b o n * 256 + b (o + n) := h
      rcases Nat.lt_succ_iff_lt_or_eq.mp hi with q | rfl
      · exact ih.mp (by omega) i q
      · omega
    · intro h
      have e := ih.mpr (fun i hi => h i (by omega))
      have e2 := h n (by omega)
      show tx_enc a o n * 256 + a (o + n) = tx_enc b o n * 256 + b (o + n)
      rw [e, e2]
/-- a comes before b within the n places from o on -/
def tx_bef (a b : Nat → Nat) (o n : Nat) : Prop := ∃ i, i < n ∧ (∀ j, j < i → a (o + j) = b (o + j)) ∧ a (o + i) < b (o + i)
theorem tx_lex {a b : Nat → Nat} (ha : ∀ i, a i < 256) (hb : ∀ i, b i < 256) (o : Nat) : ∀ n, tx_enc a o n < tx_enc b o n ↔ tx_bef a b o n
  | 0 => by simp [tx_enc, tx_bef]
  | n + 1 => by
    have ih := tx_lex ha hb o n
    have ie := tx_inj ha hb o n
    have h1 := ha (o + n)
    have h2 := hb (o + n)
    constructor
    · intro h
      have h : tx_enc a o n * 256 + a (o + n) < tx_enc b o n * 256 + b (o + n) := h
      rcases Nat.lt_trichotomy (tx_enc a o n) (tx_enc b o n) with q | q | q
      · obtain ⟨i, hi, h3, h4⟩ := ih.mp q
        exact ⟨i, by omega, h3, h4⟩
      · exact ⟨n, by omega, ie.mp q, by omega⟩
      · omega
    · rintro ⟨i, hi, h3, h4⟩
      show tx_enc a o n * 256 + a (o + n) < tx_enc b o n * 256 + b (o + n)
      rcases Nat.lt_succ_iff_lt_or_eq.mp hi with q | rfl
      · have := ih.mpr ⟨i, q, h3, h4⟩
        omega
      · have := ie.mpr h3
        omega
theorem tx_xor0 {a b : Nat} : a ^^^ b = 0 ↔ a = b := by
  constructor
  · intro h
    apply Nat.eq_of_testBit_eq
    intro i
    have h1 : (a ^^^ b).testBit i = false := by rw [h]; simp
    rw [Nat.testBit_xor] at h1
    revert h1
    cases a.testBit i <;> cases b.testBit i <;> simp
  · rintro rfl
    simp
theorem tx_p8 (r : Nat) : 256 ^ r = 2 ^ (8 * r) := by rw [Nat.pow_mul]
theorem tx_xor {a b : Nat → Nat} (ha : ∀ i, a i < 256) (hb : ∀ i, b i < 256) (o i r : Nat) : tx_enc a o (i + r) ^^^ tx_enc b o (i + r) < 256 ^ r ↔ ∀ j, j < i → a (o + j) = b (o + j) := by
  rw [← tx_inj ha hb o i, ← tx_div ha o i r, ← tx_div hb o i r, ← tx_xor0]
  rw [tx_p8, ← Nat.xor_div_two_pow]
  constructor
  · exact fun h => Nat.div_eq_of_lt h
  · intro h
    rcases Nat.div_eq_zero_iff.mp h with q | q
    · exact absurd q (Nat.ne_of_gt (Nat.pow_pos (by decide)))
    · exact q
