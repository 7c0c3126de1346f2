/-! type, term -/
theorem ga_n8 {q : Int32} (h : 1 ≤ q ∧ q ≤ 8) : ∃ m, 1 ≤ m ∧ m ≤ 8 ∧ q = nI m := by
  rcases ga_ix q (m := 9) (by decide) with (r | r) | ⟨m, hm, rfl⟩
  · exact absurd (Int32.lt_of_lt_of_le r (Int32.le_trans (by decide) h.1)) Int32.lt_irrefl
  · exact absurd (Int32.le_trans r h.2) (by decide)
  · refine ⟨m, ?_, by omega, rfl⟩
    have := (nI_leI (a := 1) (by decide) (by omega)).mp h.1
    exact this
theorem ga_app_P {a : ga_A} {N m : Nat} : ga_P (ga_c (ga_s a 0 0 (a 0 0 + m)) 1 (ga_app (a 1) (a 0 0) N m)) = ga_app (ga_P a) (a 0 0) N m := by
  funext i
  unfold ga_P
  rw [ga_c1, ga_c2 (by decide), ga_r1]
  unfold ga_app
  by_cases h : a 0 0 ≤ i ∧ i < a 0 0 + m
  · rw [if_pos h, if_pos h, if_pos h.2]
  · rw [if_neg h, if_neg h]
    show (if i < a 0 0 + m then a 1 i else 0) = if i < a 0 0 then a 1 i else 0
    by_cases h2 : i < a 0 0
    · rw [if_pos h2, if_pos (by omega)]
    · rw [if_neg h2, if_neg (by omega)]
theorem op_type (x : Int64) (q : Int32) : gs_op (fn_Bk_type x q) (fn_Md_type x q) := by
  intro n a u hn hW hR
  obtain ⟨N, hN, rfl⟩ := wb_of x
  have htl : a 0 0 ≤ 16 := hW.1.2.1.1
  unfold fn_Bk_type fn_Md_type
  rw [md_in, Option.bind_some]
  by_cases h : 1 ≤ q ∧ q ≤ 8
  · obtain ⟨m, h1, h8, rfl⟩ := ga_n8 h
    obtain ⟨r, e0, e1, e2⟩ := bk_allFit hN h8 u
    rw [if_neg (Int32.not_lt.mpr h.1), if_neg (Int32.not_lt.mpr h.2), e0, Option.bind_some]
    simp only [if_pos h]
    by_cases hf : ga_fit N m
    · rw [e1 hf, if_neg (show ¬ (1 : Int32) = 0 by decide), hR.2.2.1.1, nI_add]
      have hA := md_type_12A hN h8 (ga_v a) hf m 0 gm_fu (by omega) (by unfold gm_fu; omega)
      rw [show (0 : Int32) = nI 0 from rfl, hA, ga_vr, nI_add]
      by_cases hl : a 0 0 + m ≤ 16
      · rw [if_pos (show nI (a 0 0 + m) ≤ (16 : Int32) from nI_le (b := 16) hl (by decide)), if_pos (show nI (a 0 0 + m) ≤ (16 : Int32) from nI_le (b := 16) hl (by decide))]
        obtain ⟨u', g0, g1, g2, g3⟩ := bk_type_43 (m := m) hN m gk_fu u (a 0 0) (ga_P a) hR.2.2.1 hl h8 (fun i hi => by unfold ga_P; rw [if_neg (by omega)]) (fun i => Nat.lt_of_lt_of_le (ga_P_lt hW.1.2.1 i) (by decide)) (by unfold gk_fu; omega)
        have ee : ∀ c, c ≠ 0 → c ≠ 1 → ga_c (ga_s a 0 0 (a 0 0 + m)) 1 (ga_app (a 1) (a 0 0) N m) c = a c := fun c c0 c1 => by
          funext k
          rw [ga_c2 c1, ga_rc c0]
        refine ⟨nI (a 0 0 + m), u', ga_c (ga_s a 0 0 (a 0 0 + m)) 1 (ga_app (a 1) (a 0 0) N m), g0, md_type_76 hN m gm_fu a hl h8 (by unfold gm_fu; omega), (ga_W_tape hW ee ?_).up, gb_R_tape hR ee g2 g3 ?_⟩
        · rw [ga_c2 (by decide), ga_r1]
          refine ⟨hl, fun i hi => ?_⟩
          rw [ga_c1]
          unfold ga_app
          by_cases hi2 : a 0 0 ≤ i ∧ i < a 0 0 + m
          · rw [if_pos hi2]; exact hf _ (by omega)
          · rw [if_neg hi2]; exact hW.1.2.1.2 i (by omega)
        · rw [ga_app_P, ga_c2 (by decide), ga_r1]
          exact g1
      · rw [if_neg (show ¬ nI (a 0 0 + m) ≤ (16 : Int32) from nI_ge (a := 16) (by omega) (by omega)), if_neg (show ¬ nI (a 0 0 + m) ≤ (16 : Int32) from nI_ge (a := 16) (by omega) (by omega))]
        exact ⟨-3, u, a, rfl, rfl, hW.up, hR⟩
    · rw [e2 hf, if_pos rfl]
      have hB := md_type_12B hN h8 (ga_v a) m 0 gm_fu (by omega) (by unfold gm_fu; omega) (fun r => hf (fun i hi => r i (Nat.zero_le _) hi))
      exact ⟨-1, u, a, rfl, hB, hW.up, hR⟩
  · have hc : (if q < 1 then some (((-1 : Int32)), u) else if 8 < q then some (-1, u) else (fn_Bk_allFit (lN N) q u).bind fun z1 => if z1.1 = 0 then some (-1, z1.2) else if z1.2.1 0 100 + q ≤ 16 then fn_Bk_type_43 gk_fu (lN N) q (q - 1) z1.2 else some (-3, z1.2)) = some (-1, u) := by
      by_cases h1 : q < 1
      · rw [if_pos h1]
      · rw [if_neg h1, if_pos (Int32.not_le.mp (fun r => h ⟨Int32.not_lt.mp h1, r⟩))]
    refine ⟨-1, u, a, hc, ?_, hW.up, hR⟩
    simp only [if_neg h]
    rw [show gm_fu = 1999 + 1 from rfl, fn_Md_type_12]
    simp only [if_pos (show (0 : Int32) = 0 from rfl)]
    split <;> rfl
theorem bk_byteAt {u : gk_St} {k n i : Nat} {f : Nat → Nat} (hT : gb_T u k n f) (hf : ∀ i, f i < 256) (hi : i < 16) : fn_Tx_byteAt k (nI i) u = some (nI (f i), u) := by
  obtain ⟨-, t1, t2⟩ := hT
  unfold fn_Tx_byteAt
  by_cases h : i < 8
  · have e : ga_b (tx_enc f 0 8) (7 - i) = f i := by
      have h1 := tx_byte hf 0 i (7 - i)
      rw [show i + 1 + (7 - i) = 8 by omega, Nat.zero_add] at h1
      unfold ga_b
      rw [← tx_p8]
      exact h1
    rw [if_neg (show ¬ (8 : Int32) ≤ nI i from nI_ge (b := 8) h (by decide)), t1, show (7 : Int32) - nI i = nI (7 - i) from pk_sub (a := 7) (by omega), bk_byteOf (Nat.lt_of_lt_of_eq (tx_lt hf 0 8) (by decide)) (by omega), e]
    rfl
  · have e : ga_b (tx_enc f 8 8) (15 - i) = f i := by
      have h1 := tx_byte hf 8 (i - 8) (15 - i)
      rw [show i - 8 + 1 + (15 - i) = 8 by omega, show 8 + (i - 8) = i by omega] at h1
      unfold ga_b
      rw [← tx_p8]
      exact h1
    rw [if_pos (show (8 : Int32) ≤ nI i from nI_le (a := 8) (by omega) (by omega)), t2, show (15 : Int32) - nI i = nI (15 - i) from pk_sub (a := 15) (by omega), bk_byteOf (Nat.lt_of_lt_of_eq (tx_lt hf 8 8) (by decide)) (by omega), e]
    rfl
theorem op_term (p w : Int32) : gs_op (fn_Bk_term p w) (fn_Md_term p w) := by
  refine gs_read (fun n a u hn hW hR => ?_)
  obtain ⟨hok, h2, -⟩ := hW
  unfold fn_Bk_term fn_Md_term
  rcases ga_ix p (m := 100) (by decide) with h | ⟨k, hk, rfl⟩
  · refine ⟨-1, ?_, ?_⟩
    · rw [bk_inBook_o h]; rfl
    · rw [md_isTerm_o _ h, Option.bind_some, if_pos rfl]
  · rw [bk_inK h2 hR hk, md_isTerm h2 hk]
    have g : gj_in (nI k) 100 := nI_in hk (by decide)
    have c : (nI k).toNatClampNeg = k := nI_clamp (by omega)
    rcases h2.1 k hk with h | h
    · refine ⟨-1, ?_, ?_⟩
      · rw [if_neg (by omega)]; rfl
      · rw [h]; rfl
    · obtain ⟨t1, t2, t3⟩ := ga_term hok h2 hk h
      obtain ⟨r1, r2, r3⟩ := hR.2.2.2.1 k hk h
      have h16 := t3.1
      rw [if_pos h, h, Option.bind_some, Option.bind_some, if_neg (show ¬ nI 1 = 0 by decide)]
      simp only [if_pos g, c, ga_vr, r1, r2, r3.1]
      by_cases hw : 0 ≤ w
      · rw [if_pos hw, if_pos hw]
        by_cases w0 : w = 0
        · rw [if_pos w0, if_pos w0]; exact ⟨_, rfl, rfl⟩
        · rw [if_neg w0, if_neg w0]
          by_cases w1 : w = 1
          · rw [if_pos w1, if_pos w1]; exact ⟨_, rfl, rfl⟩
          · rw [if_neg w1, if_neg w1]
            by_cases w2 : w = 2
            · rw [if_pos w2, if_pos w2]; exact ⟨_, rfl, rfl⟩
            · rw [if_neg w2, if_neg w2]
              obtain ⟨y, hy, rfl⟩ := nI_of (Int32.not_lt.mpr hw)
              have hy3 : 3 ≤ y := by
                rcases (show y = 0 ∨ y = 1 ∨ y = 2 ∨ 3 ≤ y by omega) with r | r | r | r
                · exact absurd (by rw [r]; rfl) w0
                · exact absurd (by rw [r]; rfl) w1
                · exact absurd (by rw [r]; rfl) w2
                · exact r
              rw [show nI y - 3 = nI (y - 3) from pk_sub (a := y) (b := 3) hy3]
              by_cases hl : a 5 k ≤ y - 3
              · rw [if_pos (nI_le hl (by omega)), if_pos (nI_le hl (by omega))]
                exact ⟨-1, rfl, rfl⟩
              · have e16 : (16 : Int32) * nI k + nI y - 3 = nI (16 * k + (y - 3)) := by
                  rw [show (16 : Int32) = nI 16 from rfl, pk_mul, nI_add, show nI (16 * k + y) - 3 = nI (16 * k + y - 3) from pk_sub (a := 16 * k + y) (b := 3) (by omega)]
                  congr 1
                  omega
                have g6 : gj_in (nI (16 * k + (y - 3))) 1600 := nI_in (by omega) (by decide)
                have c6 : (nI (16 * k + (y - 3))).toNatClampNeg = 16 * k + (y - 3) := nI_clamp (by omega)
                rw [if_neg (nI_ge (by omega) (by omega)), if_neg (nI_ge (by omega) (by omega)), e16]
                simp only [if_pos g6, c6]
                rw [bk_byteAt r3 (fun i => Nat.lt_of_lt_of_le (ga_T_lt t3 i) (by decide)) (by omega)]
                refine ⟨nI (a 6 (16 * k + (y - 3))), ?_, rfl⟩
                unfold ga_T
                rw [if_pos (by omega)]
                rfl
      · rw [if_neg hw, if_neg hw]
        exact ⟨-1, rfl, rfl⟩
