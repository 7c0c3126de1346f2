/-! changes of the tape alone; clear, type, from, find -/
theorem ga_W_tape {n : Nat} {a a' : ga_A} (h : ga_W n a) (e : ∀ c, c ≠ 0 → c ≠ 1 → a' c = a c) (ht : ga_tok (a' 1) (a' 0 0)) : ga_W n a' := by
  have eT : ∀ k, ga_T a' k = ga_T a k := fun k => by unfold ga_T; rw [e 5 (by decide) (by decide), e 6 (by decide) (by decide)]
  have eK : ∀ k, ga_K a' k = ga_K a k := fun k => by unfold ga_K; rw [eT, e 3 (by decide) (by decide)]
  obtain ⟨⟨h1, -, h3, h4, h5⟩, h6, h7, h8, h9⟩ := h
  unfold ga_W ga_ok ga_w2 ga_w7 ga_w8 at *
  simp only [eK, e 2 (by decide) (by decide), e 3 (by decide) (by decide), e 4 (by decide) (by decide), e 5 (by decide) (by decide), e 6 (by decide) (by decide), e 7 (by decide) (by decide), e 8 (by decide) (by decide), e 9 (by decide) (by decide), e 10 (by decide) (by decide), e 12 (by decide) (by decide), e 13 (by decide) (by decide), e 14 (by decide) (by decide), e 15 (by decide) (by decide)]
  exact ⟨⟨h1, ht, h3, h4, h5⟩, h6, h7, h8, h9⟩
theorem gb_R_tape {a a' : ga_A} {u u' : gk_St} (h : gb_R a u) (e : ∀ c, c ≠ 0 → c ≠ 1 → a' c = a c) (hu : ∀ c k, ¬ (c = 0 ∧ k = 100) → u'.1 c k = u.1 c k) (hl : ∀ c k, k ≠ 100 → u'.2 c k = u.2 c k) (ht : gb_T u' 100 (a' 0 0) (ga_P a')) : gb_R a' u' := by
  have eT : ∀ k, ga_T a' k = ga_T a k := fun k => by unfold ga_T; rw [e 5 (by decide) (by decide), e 6 (by decide) (by decide)]
  obtain ⟨⟨r1, r2, r3, r4, r5⟩, r6, -, r8, r9, s, s1, s2, s3, s4⟩ := h
  unfold gb_R gb_r1 gb_r4 gb_S
  simp only [eT, e 2 (by decide) (by decide), e 3 (by decide) (by decide), e 4 (by decide) (by decide), e 5 (by decide) (by decide), e 7 (by decide) (by decide), e 8 (by decide) (by decide), e 9 (by decide) (by decide), e 10 (by decide) (by decide), e 12 (by decide) (by decide), e 13 (by decide) (by decide), e 14 (by decide) (by decide), e 15 (by decide) (by decide)]
  refine ⟨⟨?_, ?_, ?_, ?_, ?_⟩, ?_, ht, ?_, ?_, s, ?_, s2, ?_, ?_⟩
  · rw [hu _ _ (by omega)]; exact r1
  · intro j hj; rw [hu _ _ (by omega)]; exact r2 j hj
  · rw [hu _ _ (by omega)]; exact r3
  · intro j hj; rw [hu _ _ (by omega)]; exact r4 j hj
  · intro h0; rw [hu _ _ (by omega)]; exact r5 h0
  · intro k hk; rw [hu _ _ (by omega)]; exact r6 k hk
  · intro k hk hp
    obtain ⟨q1, q2, q3⟩ := r8 k hk hp
    refine ⟨by rw [hu _ _ (by omega)]; exact q1, by rw [hu _ _ (by omega)]; exact q2, ?_⟩
    unfold gb_T at *
    rw [hu _ _ (by omega), hl _ _ (by omega), hl _ _ (by omega)]
    exact q3
  · rw [hu _ _ (by omega)]; exact r9
  · intro i hi; rw [hu _ _ (by omega)]; exact s1 i hi
  · intro q hq h; rw [hu _ _ (by omega)]; exact s3 q hq h
  · intro t ht' hp q hq; rw [hu _ _ (by omega)]; exact s4 t ht' hp q hq
theorem bk_empty {u : gk_St} (k : Nat) : ∃ u', fn_Tx_empty k u = some u' ∧ gb_T u' k 0 (fun _ => 0) ∧ (∀ c j, ¬ (c = 0 ∧ j = k) → u'.1 c j = u.1 c j) ∧ ∀ c j, j ≠ k → u'.2 c j = u.2 c j := by
  unfold fn_Tx_empty
  refine ⟨_, rfl, ⟨?_, ?_, ?_⟩, fun c j h => ?_, fun c j h => ?_⟩
  · rw [gk_i1]; rfl
  · rw [gk_i3, gk_l2 (by omega), gk_l1, tx_zero 0 8 (fun _ _ => rfl)]; rfl
  · rw [gk_i3, gk_l1, tx_zero 8 8 (fun _ _ => rfl)]; rfl
  · rw [gk_i2 h, gk_l3, gk_l3]
  · rw [gk_i3, gk_l2 (fun q => h q.2), gk_l2 (fun q => h q.2)]
/-- the tape empty -/
def ga_e (a : ga_A) : ga_A := ga_s a 0 0 0
theorem ga_e_c (a : ga_A) : ∀ c, c ≠ 0 → c ≠ 1 → ga_e a c = a c := fun c h _ => by funext k; exact ga_rc h
theorem ga_e_P (a : ga_A) : ga_P (ga_e a) = fun _ => 0 := by
  funext i
  unfold ga_P ga_e
  rw [ga_r1, if_neg (by omega)]
theorem ga_e_W {n : Nat} {a : ga_A} (h : ga_W n a) : ga_W n (ga_e a) := ga_W_tape h (ga_e_c a) (by
  unfold ga_e ga_tok
  rw [ga_r1]
  exact ⟨Nat.zero_le _, fun i hi => absurd hi (by omega)⟩)
/-- the class empties its tape -/
theorem bk_emptyR {a : ga_A} {u : gk_St} (h : gb_R a u) : ∃ u', fn_Tx_empty 100 u = some u' ∧ gb_R (ga_e a) u' ∧ (∀ c j, ¬ (c = 0 ∧ j = 100) → u'.1 c j = u.1 c j) := by
  obtain ⟨u', e, t, f, g⟩ := bk_empty (u := u) 100
  refine ⟨u', e, gb_R_tape h (ga_e_c a) f g ?_, f⟩
  rw [ga_e_P]
  unfold ga_e
  rw [ga_r1]
  exact t
theorem op_clear : gs_op fn_Bk_clear fn_Md_clear := by
  intro n a u hn hW hR
  obtain ⟨u', e, h, -⟩ := bk_emptyR hR
  refine ⟨nI (a 0 0), u', ga_e a, ?_, md_clear a, (ga_e_W hW).up, h⟩
  unfold fn_Bk_clear
  rw [e, Option.bind_some, hR.2.2.1.1]
theorem ga_kd {p : Int32} (h : 0 ≤ p ∧ p ≤ 3) : ∃ kd, kd < 4 ∧ p = nI kd := by
  rcases ga_ix p (m := 4) (by decide) with (q | q) | q
  · exact absurd q (Int32.not_lt.mpr h.1)
  · exact absurd (Int32.le_trans q h.2) (by decide)
  · exact q
theorem bk_isBefore {a : ga_A} {u : gk_St} (hok : ga_ok a) (h2 : ga_w2 a) (hR : gb_R a u) {j kd : Nat} (hj : j < a 12 0) (hkd : kd < 4) : ∃ r, fn_Bk_isBeforeTape (nI (a 7 j)) (nI kd) u = some (r, u) ∧ (ga_K a (a 7 j) < ga_Q a kd → r = 1) ∧ (¬ ga_K a (a 7 j) < ga_Q a kd → r = 0) := by
  have h7 := hok.2.2.1 j hj
  obtain ⟨c, e, c1, c2⟩ := bk_cmpK hok h2 hR h7 (h2.2.1 j hj) hkd
  unfold fn_Bk_isBeforeTape
  rw [bk_inK h2 hR h7, if_pos (h2.2.1 j hj)]
  show ∃ r, (fn_Tm_compareWith (a 7 j) (nI kd) 100 u).bind _ = some (r, u) ∧ _
  rw [e, Option.bind_some]
  by_cases h : c < 0
  · exact ⟨1, if_neg (Int32.not_le.mpr h), fun _ => rfl, fun q => absurd (c1.mp h) q⟩
  · exact ⟨0, if_pos (Int32.not_lt.mp h), fun q => absurd (c1.mpr q) h, fun _ => rfl⟩
theorem bk_isTapeK {a : ga_A} {u : gk_St} (hok : ga_ok a) (h2 : ga_w2 a) (hR : gb_R a u) {j kd : Nat} (hj : j < a 12 0) (hkd : kd < 4) : ∃ r, fn_Bk_isTape (nI (a 7 j)) (nI kd) u = some (r, u) ∧ (ga_K a (a 7 j) = ga_Q a kd → r = 1) ∧ (¬ ga_K a (a 7 j) = ga_Q a kd → r = 0) := by
  have h7 := hok.2.2.1 j hj
  obtain ⟨c, e, c1, c2⟩ := bk_cmpK hok h2 hR h7 (h2.2.1 j hj) hkd
  unfold fn_Bk_isTape
  rw [bk_inK h2 hR h7, if_pos (h2.2.1 j hj)]
  show ∃ r, (fn_Tm_compareWith (a 7 j) (nI kd) 100 u).bind _ = some (r, u) ∧ _
  rw [e, Option.bind_some]
  by_cases h : c = 0
  · exact ⟨1, if_pos h, fun _ => rfl, fun q => absurd (c2.mp h) q⟩
  · exact ⟨0, if_neg h, fun q => absurd (c2.mpr q) h, fun _ => rfl⟩
theorem bk_isTape_o {u : gk_St} (q : Int32) : fn_Bk_isTape (-1) q u = some (0, u) := by
  unfold fn_Bk_isTape
  rw [bk_inBook_o (Or.inl (by decide))]
  rfl
theorem bk_placeOfTape_2 {a : ga_A} {u : gk_St} (hok : ga_ok a) (h2 : ga_w2 a) (hR : gb_R a u) {kd p : Nat} (hkd : kd < 4) (hp : ga_pl a kd p) : ∀ (d x n : Nat), x + d = p → d < n → fn_Bk_placeOfTape_2 n (nI kd) (nI x) u = some (nI p, u) := by
  obtain ⟨p1, p2, p3⟩ := hp
  have h12 := hok.1
  obtain ⟨r6, r5, -⟩ := hR.1
  intro d
  induction d with
  | zero =>
    intro x n hx hn
    obtain ⟨n, rfl⟩ := ga_su hn
    obtain rfl : x = p := by omega
    rw [fn_Bk_placeOfTape_2, r6]
    by_cases h : a 12 0 ≤ x
    · rw [if_pos (nI_le h (by omega))]
    · rw [if_neg (nI_ge (by omega) (by omega)), bk_numberAt r6 h12 (by omega), Option.bind_some, r5 x (by omega)]
      obtain ⟨r, e, -, e2⟩ := bk_isBefore hok h2 hR (j := x) (by omega) hkd
      show (fn_Bk_isBeforeTape (nI (a 7 x)) (nI kd) u).bind _ = _
      rw [e, Option.bind_some, e2 (Nat.not_lt.mpr (p3 x (Nat.le_refl _) (by omega)))]
      rfl
  | succ d ih =>
    intro x n hx hn
    obtain ⟨n, rfl⟩ := ga_su hn
    rw [fn_Bk_placeOfTape_2, r6, if_neg (nI_ge (by omega) (by omega)), bk_numberAt r6 h12 (by omega), Option.bind_some, r5 x (by omega)]
    obtain ⟨r, e, e1, -⟩ := bk_isBefore hok h2 hR (j := x) (by omega) hkd
    show (fn_Bk_isBeforeTape (nI (a 7 x)) (nI kd) u).bind _ = _
    rw [e, Option.bind_some, e1 (p2 x (by omega)), if_neg (show ¬ (1 : Int32) = 0 by decide), nI_1]
    exact ih (x + 1) n (by omega) (by omega)
theorem bk_placeOfTape {a : ga_A} {u : gk_St} (hok : ga_ok a) (h2 : ga_w2 a) (hR : gb_R a u) {kd p : Nat} (hkd : kd < 4) (hp : ga_pl a kd p) : fn_Bk_placeOfTape (nI kd) u = some (nI p, u) :=
  bk_placeOfTape_2 hok h2 hR hkd hp p 0 gk_fu (by omega) (by have := hp.1; have := hok.1; unfold gk_fu; omega)
theorem op_from (p : Int32) : gs_op (fn_Bk_from p) (fn_Md_from p) := by
  refine gs_read (fun n a u hn hW hR => ?_)
  obtain ⟨hok, h2, -⟩ := hW
  unfold fn_Bk_from fn_Md_from
  rw [bk_isKind, md_in, Option.bind_some, Option.bind_some]
  by_cases h : 0 ≤ p ∧ p ≤ 3
  · obtain ⟨kd, hkd, rfl⟩ := ga_kd h
    obtain ⟨q, hq⟩ := ga_pl_ex hok kd
    simp only [if_pos h, if_neg (show ¬ (1 : Int32) = 0 by decide)]
    rw [bk_placeOfTape hok h2 hR hkd hq, md_before hok hkd hq]
    exact ⟨nI q, rfl, rfl⟩
  · simp only [if_neg h, if_pos (show (0 : Int32) = 0 from rfl)]
    exact ⟨-1, rfl, rfl⟩
/-- the number at the tape's place, and whether it is the tape's -/
theorem bk_look {a : ga_A} {u : gk_St} (hok : ga_ok a) (h2 : ga_w2 a) (hR : gb_R a u) {kd p : Nat} (hkd : kd < 4) (hp : ga_pl a kd p) : ∃ (num r : Int32), fn_Lv_numberAt (nI p) u = some (num, u) ∧ fn_Bk_isTape num (nI kd) u = some (r, u) ∧ (ga_is a kd p → num = nI (a 7 p) ∧ r = 1) ∧ (¬ ga_is a kd p → r = 0) := by
  have h12 := hok.1
  obtain ⟨r6, r5, -⟩ := hR.1
  have p1 := hp.1
  by_cases h : p < a 12 0
  · obtain ⟨r, e, e1, e2⟩ := bk_isTapeK hok h2 hR h hkd
    refine ⟨nI (a 7 p), r, by rw [bk_numberAt r6 h12 h, r5 p h], e, fun q => ⟨rfl, e1 q.2⟩, fun q => e2 (fun s => q ⟨h, s⟩)⟩
  · exact ⟨-1, 0, bk_numberAt_o r6 (Or.inr (nI_le (by omega) (by omega))), bk_isTape_o _, fun q => absurd q.1 h, fun _ => rfl⟩
theorem op_find (p : Int32) : gs_op (fn_Bk_find p) (fn_Md_find p) := by
  refine gs_read (fun n a u hn hW hR => ?_)
  obtain ⟨hok, h2, -⟩ := hW
  unfold fn_Bk_find fn_Md_find
  rw [bk_isKind, md_in, Option.bind_some, Option.bind_some]
  by_cases h : 0 ≤ p ∧ p ≤ 3
  · obtain ⟨kd, hkd, rfl⟩ := ga_kd h
    obtain ⟨q, hq⟩ := ga_pl_ex hok kd
    obtain ⟨num, r, e1, e2, e3, e4⟩ := bk_look hok h2 hR hkd hq
    obtain ⟨m, g0, g1, g2⟩ := md_numberOf hok hkd hq
    simp only [if_pos h, if_neg (show ¬ (1 : Int32) = 0 by decide)]
    rw [bk_placeOfTape hok h2 hR hkd hq, g0]
    simp only [Option.bind_some, e1, e2]
    by_cases his : ga_is a kd q
    · obtain ⟨rfl, rfl⟩ := e3 his
      have h7 := hok.2.2.1 q his.1
      rw [g1 his, if_neg (show ¬ (1 : Int32) = 0 by decide), if_pos (nI_pos' (by omega))]
      exact ⟨nI (a 7 q), rfl, rfl⟩
    · rw [e4 his, g2 his, if_pos rfl, if_neg (by decide)]
      exact ⟨-2, rfl, rfl⟩
  · simp only [if_neg h, if_pos (show (0 : Int32) = 0 from rfl)]
    exact ⟨-1, rfl, rfl⟩
