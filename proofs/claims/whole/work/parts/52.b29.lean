/-! add -/
theorem bk_comeAs {u : gk_St} {t kd : Nat} (ht : t < 100) : ∃ u1, fn_Tm_comeAs t (nI kd) 100 u = some u1 ∧ (∀ n f, gb_T u 100 n f → gb_T u1 t n f) ∧ u1.1 2 t = nI kd ∧ u1.1 3 t = nI 0 ∧ u1.1 4 t = 0 ∧ u1.1 1 t = nI 1 ∧ (∀ c k, k ≠ t → u1.1 c k = u.1 c k) ∧ (∀ c k, 5 ≤ c → u1.1 c k = u.1 c k) ∧ (∀ c k, k ≠ t → u1.2 c k = u.2 c k) := by
  unfold fn_Tm_comeAs fn_Tx_copyOf
  refine ⟨_, rfl, fun n f hT => ?_, ?_, ?_, ?_, ?_, fun c k hk => ?_, fun c k hc => ?_, fun c k hk => ?_⟩
  · obtain ⟨t1, t2, t3⟩ := hT
    refine ⟨?_, ?_, ?_⟩
    · rw [gk_ic (by decide), gk_ic (by decide), gk_ic (by decide), gk_ic (by decide), gk_i1]
      exact t1
    · show (gk_sL (gk_sL u 0 t (u.2 0 100)) 1 t ((gk_sL u 0 t (u.2 0 100)).2 1 100)).2 0 t = _
      rw [gk_l2 (by omega), gk_l1]
      exact t2
    · show (gk_sL (gk_sL u 0 t (u.2 0 100)) 1 t ((gk_sL u 0 t (u.2 0 100)).2 1 100)).2 1 t = _
      rw [gk_l1, gk_l2 (by omega)]
      exact t3
  · rw [gk_ic (by decide), gk_ic (by decide), gk_ic (by decide), gk_i1]
  · rw [gk_ic (by decide), gk_ic (by decide), gk_i1]; rfl
  · rw [gk_ic (by decide), gk_i1]
  · rw [gk_i1]; rfl
  · rw [gk_i2 (by omega), gk_i2 (by omega), gk_i2 (by omega), gk_i2 (by omega), gk_i2 (by omega)]
    rfl
  · rw [gk_ic (by omega), gk_ic (by omega), gk_ic (by omega), gk_ic (by omega), gk_ic (by omega)]
    rfl
  · show (gk_sL (gk_sL u 0 t (u.2 0 100)) 1 t ((gk_sL u 0 t (u.2 0 100)).2 1 100)).2 c k = _
    rw [gk_l2 (by omega), gk_l2 (by omega)]
theorem ga_come_R {n : Nat} {a : ga_A} {u : gk_St} (hW : ga_W n a) (hR : gb_R a u) {t kd p l : Nat} (ht : t < 100) (h2t : a 2 t = 0) (hp : p ≤ a 12 0) (h12 : a 12 0 ≤ 99) (hlf : ga_leaf (ga_lv0 a 8) (ga_lv0 a 13 0) p l) : ∃ u', ((fn_Tm_comeAs t (nI kd) 100 u).bind fun z5 => ((fn_Lv_insert (nI p) (nI t) z5).bind fun z7 => (some (nI t, z7)))) = some (nI t, u') ∧ gb_R (ga_come a t kd p l) u' := by
  obtain ⟨hok, h2, h4, h7, h8⟩ := hW
  obtain ⟨⟨r6, r5, r8, r7, r0⟩, rp, rt, r4, re, s, s1, s2, s3, s4⟩ := hR
  obtain ⟨u1, c0, cT, c2, c3, c4, c1, co, c5, cl⟩ := bk_comeAs (u := u) (kd := kd) ht
  rw [c0, Option.bind_some]
  have hlv := ga_lv_le h7
  have b8 := ga_cb_c a t kd p 8 (by decide) (by decide) (by decide) (by decide) (by decide) (by decide) (by decide)
  have b13 := ga_cb_c a t kd p 13 (by decide) (by decide) (by decide) (by decide) (by decide) (by decide) (by decide)
  obtain ⟨l8, l13⟩ := ga_come_lv (a := a) t kd p
  have hb : gb_lf (ga_cb a t kd p) u1 := by
    unfold gb_lf
    rw [b8, b13]
    exact ⟨by rw [c5 _ _ (by decide)]; exact r8, fun j hj => by rw [c5 _ _ (by decide)]; exact r7 j hj, fun h => by rw [c5 _ _ (by decide)]; exact r0 h⟩
  obtain ⟨u', q0, q1, q6, q5, qo, ql⟩ := bk_insert (t := t) hb (by rw [c5 _ _ (by decide)]; exact r6) (fun j hj => by rw [c5 _ _ (by decide)]; exact r5 j hj) (by omega) hp (by rw [b13]; omega) (by rw [b8, b13]; exact fun j hj => (h7.2 j hj).2) (by rw [b8, b13, h7.1]; omega) (by rw [l8, l13]; exact hlf)
  rw [q0, Option.bind_some]
  refine ⟨u', rfl, ?_⟩
  have h16 := hok.2.1.1
  have e0 := ga_come_c a t kd p l 0 (by decide) (by decide) (by decide) (by decide) (by decide) (by decide) (by decide) (by decide) (by decide)
  have e1 := ga_come_c a t kd p l 1 (by decide) (by decide) (by decide) (by decide) (by decide) (by decide) (by decide) (by decide) (by decide)
  have e9 := ga_come_c a t kd p l 9 (by decide) (by decide) (by decide) (by decide) (by decide) (by decide) (by decide) (by decide) (by decide)
  have e10 := ga_come_c a t kd p l 10 (by decide) (by decide) (by decide) (by decide) (by decide) (by decide) (by decide) (by decide) (by decide)
  have e14 := ga_come_c a t kd p l 14 (by decide) (by decide) (by decide) (by decide) (by decide) (by decide) (by decide) (by decide) (by decide)
  have e15 := ga_come_c a t kd p l 15 (by decide) (by decide) (by decide) (by decide) (by decide) (by decide) (by decide) (by decide) (by decide)
  have e2 : ∀ k, ga_come a t kd p l 2 k = if k = t then 1 else a 2 k := fun k => by rw [ga_come_n _ _ _ _ _ 2 (by decide) (by decide) (by decide) (by decide), ga_nt_2]
  have e3 : ∀ k, ga_come a t kd p l 3 k = if k = t then kd else a 3 k := fun k => by rw [ga_come_n _ _ _ _ _ 3 (by decide) (by decide) (by decide) (by decide), ga_nt_3]
  have e4 : ∀ k, ga_come a t kd p l 4 k = if k = t then 0 else a 4 k := fun k => by rw [ga_come_n _ _ _ _ _ 4 (by decide) (by decide) (by decide) (by decide), ga_nt_4]
  have e5 : ∀ k, ga_come a t kd p l 5 k = if k = t then a 0 0 else a 5 k := fun k => by rw [ga_come_n _ _ _ _ _ 5 (by decide) (by decide) (by decide) (by decide), ga_nt_5]
  have eP : ga_P (ga_come a t kd p l) = ga_P a := by unfold ga_P; rw [e0, e1]
  have ho : ∀ c k, c ≠ 5 → c ≠ 6 → c ≠ 7 → c ≠ 8 → k ≠ t → u'.1 c k = u.1 c k := fun c k h5 h6 h7 h8 hk => by rw [qo c k h5 h6 h7 h8]; exact co c k hk
  have ho' : ∀ c k, 9 ≤ c → u'.1 c k = u.1 c k := fun c k hc => by rw [qo c k (by omega) (by omega) (by omega) (by omega)]; exact c5 c k (by omega)
  refine ⟨⟨?_, ?_, q1⟩, ?_, ?_, ?_, ?_, s, ?_, ?_, ?_, ?_⟩
  · rw [ga_come_12]; exact q6
  · rw [ga_come_12]
    intro j hj
    rw [q5 j hj, ga_come_b _ _ _ _ _ 7 (by decide) (by decide), ga_cb_7]
  · intro k hk
    rw [e2]
    by_cases h : k = t
    · rw [if_pos h, h, qo _ _ (by decide) (by decide) (by decide) (by decide)]; exact c1
    · rw [if_neg h, ho _ _ (by decide) (by decide) (by decide) (by decide) h]; exact rp k hk
  · rw [eP, e0]
    unfold gb_T at *
    rw [ho _ _ (by decide) (by decide) (by decide) (by decide) (by omega), ql, cl _ _ (by omega), cl _ _ (by omega)]
    exact rt
  · intro k hk hk2
    rw [e3, e4, e5]
    by_cases h : k = t
    · subst h
      rw [if_pos rfl, if_pos rfl, if_pos rfl, ga_come_T]
      have := cT _ _ rt
      unfold gb_T at *
      rw [qo _ _ (by decide) (by decide) (by decide) (by decide), qo _ _ (by decide) (by decide) (by decide) (by decide), qo _ _ (by decide) (by decide) (by decide) (by decide), ql]
      exact ⟨c2, c3, this⟩
    · rw [e2, if_neg h] at hk2
      rw [if_neg h, if_neg h, if_neg h, ga_come_T' kd p l h h16 (ga_term hok h2 hk hk2).2.2.1]
      have := r4 k hk hk2
      unfold gb_T at *
      rw [ho _ _ (by decide) (by decide) (by decide) (by decide) h, ho _ _ (by decide) (by decide) (by decide) (by decide) h, ho _ _ (by decide) (by decide) (by decide) (by decide) h, ql, cl _ _ h, cl _ _ h]
      exact this
  · rw [ho' _ _ (by decide), e14]; exact re
  · rw [e15, e9]
    intro i hi
    rw [ho' _ _ (by decide)]
    exact s1 i hi
  · rw [e15]; exact s2
  · rw [e15]
    intro q hq h
    rw [ho' _ _ (by decide)]
    exact s3 q hq h
  · rw [e15, e10]
    intro k hk hk2 q hq
    by_cases h : k = t
    · subst h
      rw [qo _ _ (by decide) (by decide) (by decide) (by decide), c4, bb_0]
      refine ⟨fun z => (by cases z), fun ⟨i, i1, _, i3⟩ => ?_⟩
      have := (h8.2.2.2.2 i k i1 hk).2 i3
      omega
    · rw [e2, if_neg h] at hk2
      rw [ho _ _ (by decide) (by decide) (by decide) (by decide) h]
      exact s4 k hk hk2 q hq
theorem gn_least {P : Nat → Bool} : ∀ {n : Nat}, (∃ i, i < n ∧ P i = false) → ∃ i, i < n ∧ P i = false ∧ ∀ j, j < i → P j = true := by
  intro n
  induction n with
  | zero => intro ⟨i, h, _⟩; omega
  | succ n ih =>
    intro ⟨i, h, e⟩
    by_cases hx : ∃ i, i < n ∧ P i = false
    · obtain ⟨j, h1, h2, h3⟩ := ih hx
      exact ⟨j, by omega, h2, h3⟩
    · refine ⟨i, h, e, fun j hj => ?_⟩
      cases hq : P j
      · exact absurd ⟨j, by omega, hq⟩ hx
      · rfl
/-- as many are present as have places -/
theorem ga_cntP {a : ga_A} (hok : ga_ok a) (h2 : ga_w2 a) : gn_cnt (fun k => decide (a 2 k = 1)) 100 = a 12 0 := by
  rw [gn_perm (s := a 7) (Q := fun _ => true) (a 12 0) _ hok.2.2.1 (fun i j hi hj e => ga_inj hok hi hj e) (fun k hk => ?_)]
  · exact gn_true _
  · rw [decide_eq_true_eq]
    exact ⟨fun h => ⟨(ga_pres h2 hok hk).mp h, rfl⟩, fun h => (ga_pres h2 hok hk).mpr h.1⟩
theorem bk_leastFree_2 {a : ga_A} {u : gk_St} (h2 : ga_w2 a) (hR : gb_R a u) {t : Nat} (ht : t ≤ 100) (hb : ∀ j, j < t → a 2 j = 1) (he : t < 100 → a 2 t = 0) : ∀ (d x n : Nat), x + d = t → d < n → fn_Bk_leastFree_2 n (nI x) u = some (if t < 100 then nI t else -1, u) := by
  intro d
  induction d with
  | zero =>
    intro x n hx hn
    obtain ⟨n, rfl⟩ := ga_su hn
    obtain rfl : x = t := by omega
    rw [fn_Bk_leastFree_2]
    by_cases h : x < 100
    · rw [if_neg (show ¬ (100 : Int32) ≤ nI x from nI_ge (b := 100) h (by decide)), bk_inK h2 hR h, if_neg (by rw [he h]; decide), if_pos h]
      rfl
    · rw [if_pos (show (100 : Int32) ≤ nI x from nI_le (a := 100) (by omega) (by omega)), if_neg h]
  | succ d ih =>
    intro x n hx hn
    obtain ⟨n, rfl⟩ := ga_su hn
    rw [fn_Bk_leastFree_2, if_neg (show ¬ (100 : Int32) ≤ nI x from nI_ge (b := 100) (by omega) (by decide)), bk_inK h2 hR (by omega), if_pos (hb x (by omega))]
    show fn_Bk_leastFree_2 n (nI x + 1) u = _
    rw [nI_1]
    exact ih (x + 1) n (by omega) (by omega)
theorem bk_leastFree {a : ga_A} {u : gk_St} (h2 : ga_w2 a) (hR : gb_R a u) {t : Nat} (ht : t ≤ 100) (hb : ∀ j, j < t → a 2 j = 1) (he : t < 100 → a 2 t = 0) : fn_Bk_leastFree u = some (if t < 100 then nI t else -1, u) :=
  bk_leastFree_2 h2 hR ht hb he t 0 gk_fu (by omega) (by unfold gk_fu; omega)
theorem md_e (a : ga_A) : gm_sI (ga_v a) 0 0 0 = ga_v (ga_e a) := ga_vs a 0 0 0
theorem md_add_58 {a a' : ga_A} {t kd : Nat} (ht : t < 100) (hb : ∀ j, j < t → a 2 j = 1) (he : a 2 t = 0) (hc : fn_Md_come (nI t) (nI kd) (ga_v a) = some (ga_v a')) (x2 : Int32) : ∀ (d x n : Nat), x + d = t → d < n → fn_Md_add_58 n (nI kd) x2 (nI x) (ga_v a) = some (nI t, ga_v (ga_e (ga_s a' 4 t (a' 4 t + 1)))) := by
  intro d
  induction d with
  | zero =>
    intro x n hx hn
    obtain ⟨n, rfl⟩ := ga_su hn
    obtain rfl : x = t := by omega
    have g : gj_in (nI x) 100 := nI_in ht (by decide)
    have c : (nI x).toNatClampNeg = x := nI_clamp (by omega)
    rw [fn_Md_add_58]
    simp only [if_pos g, c, ga_vr, he, if_pos (show nI 0 = 0 from rfl), hc, Option.bind_some, nI_1, ga_vs, md_e]
  | succ d ih =>
    intro x n hx hn
    obtain ⟨n, rfl⟩ := ga_su hn
    have g : gj_in (nI x) 100 := nI_in (by omega) (by decide)
    have c : (nI x).toNatClampNeg = x := nI_clamp (by omega)
    rw [fn_Md_add_58]
    simp only [if_pos g, c, ga_vr, hb x (by omega), if_neg (show ¬ nI 1 = 0 by decide), nI_1]
    exact ih (x + 1) n (by omega) (by omega)
theorem op_add (p : Int32) : gs_op (fn_Bk_add p) (fn_Md_add p) := by
  intro n a u hn hW hR
  obtain ⟨hok, h2, h4, h7, h8⟩ := id hW
  have h16 := hok.2.1.1
  unfold fn_Bk_add fn_Md_add
  rw [bk_isKind, md_in, Option.bind_some, Option.bind_some]
  obtain ⟨v, ev, hv, -⟩ := bk_emptyR hR
  by_cases h : 0 ≤ p ∧ p ≤ 3
  · obtain ⟨kd, hkd, rfl⟩ := ga_kd h
    simp only [if_pos h, if_neg (show ¬ (1 : Int32) = 0 by decide)]
    rw [hR.2.2.1.1, ga_vr]
    by_cases h0 : a 0 0 = 0
    · refine ⟨-1, v, ga_e a, ?_, ?_, (ga_e_W hW).up, hv⟩
      · rw [h0, if_pos (by decide), ev]; rfl
      · rw [h0, if_pos (show nI 0 = 0 from rfl), md_e]
    · rw [if_neg (show ¬ nI (a 0 0) ≤ (0 : Int32) from nI_ge (a := 0) (by omega) (by omega)), if_neg (nI_ne0 (by omega) (by omega))]
      obtain ⟨q, hq⟩ := ga_pl_ex hok kd
      obtain ⟨num, r, e1, e2, e3, e4⟩ := bk_look hok h2 hR hkd hq
      obtain ⟨m, g0, g1, g2⟩ := md_numberOf hok hkd hq
      unfold fn_Bk_useTape
      rw [bk_placeOfTape hok h2 hR hkd hq, g0]
      simp only [Option.bind_some, e1, e2]
      by_cases his : ga_is a kd q
      · obtain ⟨rfl, rfl⟩ := e3 his
        have hk := hok.2.2.1 q his.1
        have hp1 := h2.2.1 q his.1
        rw [g1 his]
        generalize hkk : a 7 q = k at hk hp1
        have g : gj_in (nI k) 100 := nI_in hk (by decide)
        have c : (nI k).toNatClampNeg = k := nI_clamp (by omega)
        have h4k := h4 k hk
        have hW1 := ga_us_W (k := k) (x := a 4 k + 1) hW (Nat.le_succ n) (by omega)
        have hR1 := ga_us_R hR k (a 4 k + 1)
        obtain ⟨v1, ev1, hv1, -⟩ := bk_emptyR hR1
        refine ⟨nI k, v1, ga_e (ga_s a 4 k (a 4 k + 1)), ?_, ?_, ga_e_W hW1, hv1⟩
        · rw [if_neg (show ¬ (1 : Int32) = 0 by decide), bk_inK h2 hR hk, if_pos hp1]
          simp only [Option.bind_some]
          rw [(hR.2.2.2.1 k hk hp1).2.1, nI_1, ev1]
          rfl
        · rw [if_pos (nI_pos' (by omega))]
          simp only [if_pos (show (0 : Int32) ≤ nI k from nI_pos' (by omega)), if_pos g, c, ga_vr, nI_1, ga_vs, md_e]
      · rw [e4 his, g2 his, if_pos rfl, if_neg (by decide), ga_vr]
        have hcnt := ga_cntP hok h2
        by_cases hf : a 12 0 = 100
        · rw [hf] at hcnt
          have hall : ∀ j, j < 100 → a 2 j = 1 := fun j hj => of_decide_eq_true (gn_all hcnt j hj)
          refine ⟨-3, v, ga_e a, ?_, ?_, (ga_e_W hW).up, hv⟩
          · unfold fn_Bk_bringTape
            rw [bk_leastFree h2 hR (Nat.le_refl _) hall (fun q => absurd q (by omega)), Option.bind_some, if_neg (show ¬ (100 : Nat) < 100 by omega), if_pos rfl, Option.bind_some, bk_inBook_o (p := (-1, (-1, u).snd).fst) (Or.inl (show (-1 : Int32) < 0 by decide))]
            simp only [Option.bind_some]
            rw [ev]
            rfl
          · rw [hf, if_pos (show nI 100 = 100 from rfl), md_e]
        · have h12 := hok.1
          obtain ⟨t, ht, ht0, htb⟩ := gn_least (gn_ex (show gn_cnt (fun k => decide (a 2 k = 1)) 100 < 100 by omega))
          have hb : ∀ j, j < t → a 2 j = 1 := fun j hj => of_decide_eq_true (htb j hj)
          have he : a 2 t = 0 := by
            rcases h2.1 t ht with z | z
            · exact z
            · exact absurd z (of_decide_eq_false ht0)
          obtain ⟨l1, l2, l3, l4, l5⟩ := ga_lv0_w h7 (by omega)
          obtain ⟨l, hlf⟩ := ga_leaf_ex (ga_lv0 a 8) l3 q
          have hcm := md_come (kd := kd) hok ht hkd hq (by omega) hlf (by omega) l4 (by omega)
          have hW1 := ga_come_W hW ht he hkd (by omega) hq his (by omega) hlf
          obtain ⟨u', eu, hR1⟩ := ga_come_R (kd := kd) hW hR ht he hq.1 (by omega) hlf
          have e4t : ga_come a t kd q l 4 t = 0 := by rw [ga_come_n _ _ _ _ _ 4 (by decide) (by decide) (by decide) (by decide), ga_nt_4, if_pos rfl]
          have e2t : ga_come a t kd q l 2 t = 1 := by rw [ga_come_n _ _ _ _ _ 2 (by decide) (by decide) (by decide) (by decide), ga_nt_2, if_pos rfl]
          have hW2 := ga_us_W (k := t) (x := ga_come a t kd q l 4 t + 1) hW1 (Nat.le_succ n) (by omega)
          have hR2 := ga_us_R hR1 t (ga_come a t kd q l 4 t + 1)
          obtain ⟨v1, ev1, hv1, -⟩ := bk_emptyR hR2
          refine ⟨nI t, v1, _, ?_, ?_, ga_e_W hW2, hv1⟩
          · have gt : gj_in (nI t) 100 := nI_in ht (by decide)
            have ct : (nI t).toNatClampNeg = t := nI_clamp (by omega)
            have hm : ¬ nI t = -1 := fun z => absurd (show nI t < 0 by rw [z]; decide) (nI_pos (by omega))
            unfold fn_Bk_bringTape
            rw [bk_leastFree h2 hR (by omega) hb (fun _ => he), Option.bind_some, if_pos ht]
            simp only [if_neg hm, if_pos gt, ct, eu, Option.bind_some]
            rw [bk_inK hW1.2.1 hR1 ht, if_pos e2t]
            simp only [Option.bind_some]
            rw [(hR1.2.2.2.1 t ht e2t).2.1, nI_1, ev1]
            rfl
          · rw [if_neg (show ¬ nI (a 12 0) = 100 from fun z => hf ((nI_eq (b := 100) (by omega) (by omega)).mp z)), if_neg (by decide)]
            exact md_add_58 ht hb he hcm _ t 0 gm_fu (by omega) (by unfold gm_fu; omega)
  · simp only [if_neg h, if_pos (show (0 : Int32) = 0 from rfl)]
    refine ⟨-1, v, ga_e a, ?_, ?_, (ga_e_W hW).up, hv⟩
    · rw [ev]; rfl
    · simp only [if_true, md_e]
