/-! the class compares by longs -/
theorem lo_cmp (x y : Int64) : (fn_Lo_compare x y < 0 ↔ x < y) ∧ (fn_Lo_compare x y = 0 ↔ x = y) := by
  unfold fn_Lo_compare lg_cmp
  by_cases h1 : y < x
  · have h2 : ¬ x < y := fun q => absurd (Int64.lt_trans q h1) (Int64.lt_irrefl)
    have h3 : ¬ x = y := fun q => by subst q; exact absurd h1 Int64.lt_irrefl
    rw [if_pos (show x > y from h1), if_pos (by decide), if_neg (by decide)]
    exact ⟨⟨fun q => absurd q (by decide), fun q => absurd q h2⟩, ⟨fun q => absurd q (by decide), fun q => absurd q h3⟩⟩
  · rw [if_neg (show ¬ x > y from h1)]
    by_cases h2 : x = y
    · rw [if_pos h2, if_pos (by decide), if_pos rfl]
      exact ⟨⟨fun q => absurd q (by decide), fun q => by subst h2; exact absurd q Int64.lt_irrefl⟩, ⟨fun _ => h2, fun _ => rfl⟩⟩
    · rw [if_neg h2, if_neg (by decide)]
      have h3 : x < y := by
        rcases Int64.lt_or_lt_of_ne h2 with q | q
        · exact q
        · exact absurd q h1
      exact ⟨⟨fun _ => h3, fun _ => by decide⟩, ⟨fun q => absurd q (by decide), fun q => absurd q h2⟩⟩
theorem in_cmp (x y : Int32) : (fn_In_compare x y < 0 ↔ x < y) ∧ (fn_In_compare x y = 0 ↔ x = y) := by
  unfold fn_In_compare
  by_cases h1 : y ≤ x
  · rw [if_pos h1]
    have h2 : ¬ x < y := Int32.not_lt.mpr h1
    by_cases h3 : x = y
    · rw [if_pos h3]
      exact ⟨⟨fun q => absurd q (by decide), fun q => absurd q h2⟩, ⟨fun _ => h3, fun _ => rfl⟩⟩
    · rw [if_neg h3]
      exact ⟨⟨fun q => absurd q (by decide), fun q => absurd q h2⟩, ⟨fun q => absurd q (by decide), fun q => absurd q h3⟩⟩
  · rw [if_neg h1]
    have h2 : x < y := Int32.not_le.mp h1
    exact ⟨⟨fun _ => h2, fun _ => by decide⟩, ⟨fun q => absurd q (by decide), fun q => by subst q; exact absurd h2 Int32.lt_irrefl⟩⟩
theorem lg_0 (x y : Int64) : lg_cmp x y = 0 ↔ x = y := by
  unfold lg_cmp
  by_cases h1 : y < x
  · rw [if_pos (show x > y from h1)]
    exact ⟨fun q => absurd q (by decide), fun q => by subst q; exact absurd h1 Int64.lt_irrefl⟩
  · rw [if_neg (show ¬ x > y from h1)]
    by_cases h2 : x = y
    · rw [if_pos h2]; exact ⟨fun _ => h2, fun _ => rfl⟩
    · rw [if_neg h2]; exact ⟨fun q => absurd q (by decide), fun q => absurd q h2⟩
theorem tx_lt7 {t : Nat → Nat} (h : ∀ i, t i < 128) (o : Nat) : tx_enc t o 8 < 2 ^ 63 := by
  have h1 := tx_app t o 1 7
  have h2 := tx_lt (t := t) (fun i => Nat.lt_of_lt_of_le (h i) (by decide)) (o + 1) 7
  have h3 : tx_enc t o 1 = t o := by show 0 * 256 + t (o + 0) = t o; simp
  have h4 := h o
  rw [show (8 : Nat) = 1 + 7 from rfl, h1, h3]
  rw [show (256 : Nat) ^ 7 = 72057594037927936 by decide] at *
  rw [show (2 : Nat) ^ 63 = 9223372036854775808 by decide]
  omega
theorem tx_16 (t : Nat → Nat) : tx_enc t 0 16 = tx_enc t 0 8 * 256 ^ 8 + tx_enc t 8 8 := tx_app t 0 8 8
/-- text k's longs and the other's, compared: the order of the texts -/
theorem bk_cmpT {u : gk_St} {k q : Nat} {f g : Nat → Nat} (hf : ∀ i, f i < 128) (hg : ∀ i, g i < 128) (f0 : u.2 0 k = lN (tx_enc f 0 8)) (f1 : u.2 1 k = lN (tx_enc f 8 8)) (g0 : u.2 0 q = lN (tx_enc g 0 8)) (g1 : u.2 1 q = lN (tx_enc g 8 8)) :
    ∃ c, fn_Tx_compareWith k q u = some (c, u) ∧ (c < 0 ↔ tx_enc f 0 16 < tx_enc g 0 16) ∧ (c = 0 ↔ tx_enc f 0 16 = tx_enc g 0 16) := by
  have a1 := tx_lt7 hf 0
  have a2 := tx_lt7 hf 8
  have b1 := tx_lt7 hg 0
  have b2 := tx_lt7 hg 8
  have c1 := tx_lt (t := f) (fun i => Nat.lt_of_lt_of_le (hf i) (by decide)) 8 8
  have c2 := tx_lt (t := g) (fun i => Nat.lt_of_lt_of_le (hg i) (by decide)) 8 8
  rw [tx_16 f, tx_16 g]
  unfold fn_Tx_compareWith
  rw [f0, f1, g0, g1]
  generalize tx_enc f 0 8 = x0 at *
  generalize tx_enc g 0 8 = y0 at *
  generalize tx_enc f 8 8 = x1 at *
  generalize tx_enc g 8 8 = y1 at *
  rw [show (256 : Nat) ^ 8 = 18446744073709551616 by decide] at *
  by_cases h : x0 = y0
  · rw [if_pos ((lg_0 _ _).mpr (by rw [h]))]
    refine ⟨_, rfl, ?_⟩
    rw [(lo_cmp _ _).1, (lo_cmp _ _).2, pk_lLT a2 b2, pk_lEQ a2 b2]
    omega
  · rw [if_neg (fun r => h ((pk_lEQ a1 b1).mp ((lg_0 _ _).mp r)))]
    refine ⟨_, rfl, ?_⟩
    rw [(lo_cmp _ _).1, (lo_cmp _ _).2, pk_lLT a1 b1, pk_lEQ a1 b1]
    omega
theorem bk_cmp {u : gk_St} {k kk kd : Nat} {f g : Nat → Nat} (hf : ∀ i, f i < 128) (hg : ∀ i, g i < 128) (h2 : u.1 2 k = nI kk) (hkk : kk < 4) (hkd : kd < 4) (f0 : u.2 0 k = lN (tx_enc f 0 8)) (f1 : u.2 1 k = lN (tx_enc f 8 8)) (g0 : u.2 0 100 = lN (tx_enc g 0 8)) (g1 : u.2 1 100 = lN (tx_enc g 8 8)) :
    ∃ c, fn_Tm_compareWith k (nI kd) 100 u = some (c, u) ∧ (c < 0 ↔ ga_k kk f < ga_k kd g) ∧ (c = 0 ↔ ga_k kk f = ga_k kd g) := by
  have c1 := tx_lt (t := f) (fun i => Nat.lt_of_lt_of_le (hf i) (by decide)) 0 16
  have c2 := tx_lt (t := g) (fun i => Nat.lt_of_lt_of_le (hg i) (by decide)) 0 16
  unfold fn_Tm_compareWith
  rw [h2]
  by_cases h : kk = kd
  · rw [if_pos (by rw [h])]
    obtain ⟨c, e, e1, e2⟩ := bk_cmpT (q := 100) hf hg f0 f1 g0 g1
    rw [e]
    refine ⟨c, rfl, e1.trans ?_, e2.trans ?_⟩
    · unfold ga_k; rw [h]; omega
    · unfold ga_k; rw [h]; omega
  · rw [if_neg (fun q => h ((nI_eq (by omega) (by omega)).mp q))]
    refine ⟨_, rfl, ?_⟩
    rw [(in_cmp _ _).1, (in_cmp _ _).2, nI_ltI (by omega) (by omega), nI_eq (by omega) (by omega)]
    unfold ga_k
    generalize tx_enc f 0 16 = x0 at *
    generalize tx_enc g 0 16 = y0 at *
    rw [show (256 : Nat) ^ 16 = 340282366920938463463374607431768211456 by decide] at *
    omega
