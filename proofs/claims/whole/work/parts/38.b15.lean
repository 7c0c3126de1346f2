/-! begins; counts of terms and versions -/
def ga_st (a : ga_A) (k : Nat) : Prop := a 0 0 ≤ a 5 k ∧ ∀ i, i < a 0 0 → a 6 (16 * k + i) = a 1 i
def ga_B (a : ga_A) (kd k : Nat) : Bool := decide (a 3 k = kd) && decide (a 0 0 ≤ a 5 k ∧ ∀ i, i < a 0 0 → a 6 (16 * k + i) = a 1 i)
theorem ga_B_iff {a : ga_A} {kd k : Nat} : ga_B a kd k = true ↔ a 3 k = kd ∧ ga_st a k := by unfold ga_B ga_st; simp
theorem bk_startsWith {a : ga_A} {u : gk_St} (hok : ga_ok a) (h2 : ga_w2 a) (hR : gb_R a u) {k : Nat} (hk : k < 100) (hp : a 2 k = 1) : ∃ r, fn_Tx_startsWith k 100 u = some (r, u) ∧ (ga_st a k → r = 1) ∧ (¬ ga_st a k → r = 0) := by
  obtain ⟨t1, t2, t3⟩ := ga_term hok h2 hk hp
  obtain ⟨-, -, r3⟩ := hR.2.2.2.1 k hk hp
  have hP := hR.2.2.1
  have h0 := hok.2.1.1
  have h5 := t3.1
  obtain ⟨e, ⟨e1, e2, e3⟩, e4⟩ := bk_sharedWith (ga_T_lt t3) (ga_P_lt hok.2.1) r3 hP h5 h0
  unfold fn_Tx_startsWith
  rw [e4, Option.bind_some, hP.1]
  by_cases h : ga_st a k
  · have he : a 0 0 ≤ e := by
      rcases Nat.lt_or_ge e (a 0 0) with q | q
      · refine absurd ?_ (e3 (by omega))
        unfold ga_T ga_P
        have := h.1
        rw [if_pos (by omega), if_pos q]
        exact h.2 e q
      · exact q
    have := h.1
    exact ⟨1, if_pos (show nI (min e (min (a 5 k) (a 0 0))) = nI (a 0 0) by congr 1; omega), fun _ => rfl, fun q => absurd h q⟩
  · refine ⟨0, if_neg (fun q => h ?_), fun q => absurd q h, fun _ => rfl⟩
    have q : min e (min (a 5 k) (a 0 0)) = a 0 0 := (nI_eq (by omega) (by omega)).mp q
    refine ⟨by omega, fun i hi => ?_⟩
    have := e2 i (by omega)
    unfold ga_T ga_P at this
    rw [if_pos (by omega), if_pos hi] at this
    exact this
theorem ga_pres {a : ga_A} (h2 : ga_w2 a) (hok : ga_ok a) {k : Nat} (hk : k < 100) : a 2 k = 1 ↔ ∃ j, j < a 12 0 ∧ a 7 j = k :=
  ⟨h2.2.2 k hk, fun ⟨j, hj, e⟩ => by rw [← e]; exact h2.2.1 j hj⟩
theorem bk_begins_13 {a : ga_A} {u : gk_St} (hok : ga_ok a) (h2 : ga_w2 a) (hR : gb_R a u) {kd : Nat} (hkd : kd < 4) : ∀ (d x n : Nat), x + d = 100 → d < n → fn_Bk_begins_13 n (nI kd) (nI (gn_cnt (fun k => decide (a 2 k = 1) && ga_B a kd k) x)) (nI x) u = some (nI (gn_cnt (fun k => decide (a 2 k = 1) && ga_B a kd k) 100), u) := by
  intro d
  induction d with
  | zero =>
    intro x n hx hn
    obtain ⟨n, rfl⟩ := ga_su hn
    obtain rfl : x = 100 := by omega
    rw [fn_Bk_begins_13, if_pos (show (100 : Int32) ≤ nI 100 by decide)]
  | succ d ih =>
    intro x n hx hn
    obtain ⟨n, rfl⟩ := ga_su hn
    have hc : gn_cnt (fun k => decide (a 2 k = 1) && ga_B a kd k) (x + 1) = gn_cnt (fun k => decide (a 2 k = 1) && ga_B a kd k) x + (if (decide (a 2 x = 1) && ga_B a kd x) = true then 1 else 0) := rfl
    have ih' := ih (x + 1) n (by omega) (by omega)
    rw [hc] at ih'
    rw [fn_Bk_begins_13, if_neg (show ¬ (100 : Int32) ≤ nI x from nI_ge (b := 100) (by omega) (by decide)), bk_inK h2 hR (by omega), nI_1]
    by_cases hp : a 2 x = 1
    · rw [if_pos hp, Option.bind_some]
      obtain ⟨r1, -, -⟩ := hR.2.2.2.1 x (by omega) hp
      have h3 := (ga_term hok h2 (by omega) hp).1
      show (if u.1 2 x = nI kd then _ else _) = _
      rw [r1]
      by_cases hk : a 3 x = kd
      · obtain ⟨r, e, e1, e2⟩ := bk_startsWith hok h2 hR (k := x) (by omega) hp
        rw [if_pos (by rw [hk])]
        show (fn_Tx_startsWith x 100 u).bind _ = _
        rw [e, Option.bind_some]
        by_cases hs : ga_st a x
        · rw [e1 hs, if_neg (show ¬ (1 : Int32) = 0 by decide), nI_1]
          rw [if_pos (by rw [decide_eq_true hp, Bool.true_and]; exact ga_B_iff.mpr ⟨hk, hs⟩)] at ih'
          exact ih'
        · rw [e2 hs, if_pos rfl]
          rw [if_neg (fun q => hs (by rw [decide_eq_true hp, Bool.true_and] at q; exact (ga_B_iff.mp q).2))] at ih'
          exact ih'
      · rw [if_neg (fun q => hk ((nI_eq (by omega) (by omega)).mp q))]
        rw [if_neg (fun q => hk (by rw [decide_eq_true hp, Bool.true_and] at q; exact (ga_B_iff.mp q).1))] at ih'
        exact ih'
    · rw [if_neg hp]
      rw [if_neg (by rw [decide_eq_false hp]; simp)] at ih'
      exact ih'
theorem md_begins_66z {K : Int32 → Int32 → Int32 → Int32 → Int32 → Int32 → gm_St → Option (Int32 × gm_St)} {n : Nat} {x1 x2 x3 x4 x6 : Int32} {v : gm_St} : fn_Md_begins_66 K (n + 1) x1 x2 x3 x4 0 x6 v = K x1 x2 x3 x4 0 x6 v := by
  rw [fn_Md_begins_66]
  by_cases h : v.1 0 0 ≤ x6
  · rw [if_pos h]
  · rw [if_neg h, if_pos rfl]
theorem md_begins_66 {a : ga_A} {t : Nat} (ht : t < 100) (h0 : ga_tok (a 1) (a 0 0)) (h5 : ga_tok (fun i => a 6 (16 * t + i)) (a 5 t)) (hl : a 0 0 ≤ a 5 t) (rec : Int32 → Int32 → Int32 → gm_St → Option (Int32 × gm_St)) (x1 x2 x3 : Int32) : ∀ (d i n : Nat), i + d = a 0 0 → d + 1 < n →
    ((∀ j, i ≤ j → j < a 0 0 → a 6 (16 * t + j) = a 1 j) → fn_Md_begins_66 (fn_Md_begins_116 rec) n x1 x2 x3 (nI t) 1 (nI i) (ga_v a) = rec x1 (x2 + 1) (x3 + 1) (ga_v a)) ∧
    ((¬ ∀ j, i ≤ j → j < a 0 0 → a 6 (16 * t + j) = a 1 j) → fn_Md_begins_66 (fn_Md_begins_116 rec) n x1 x2 x3 (nI t) 1 (nI i) (ga_v a) = rec x1 (x2 + 0) (x3 + 1) (ga_v a)) := by
  have l0 := h0.1
  intro d
  induction d with
  | zero =>
    intro i n hi hn
    obtain ⟨n, rfl⟩ := ga_su hn
    refine ⟨fun _ => ?_, fun h => absurd (fun j a1 a2 => absurd a2 (by omega)) h⟩
    rw [fn_Md_begins_66, ga_vr, if_pos (nI_le (by omega) (by omega)), fn_Md_begins_116, if_neg (show ¬ (1 : Int32) = 0 by decide)]
  | succ d ih =>
    intro i n hi hn
    obtain ⟨n, rfl⟩ := ga_su hn
    have b1 : 33 ≤ a 6 (16 * t + i) ∧ a 6 (16 * t + i) ≤ 126 := h5.2 i (by omega)
    have b2 := h0.2 i (by omega)
    have i1 : (16 : Int32) * nI t + nI i = nI (16 * t + i) := by rw [show (16 : Int32) = nI 16 from rfl, pk_mul, nI_add]
    have gx : gj_in (nI i) 16 := nI_in (by omega) (by decide)
    have cx : (nI i).toNatClampNeg = i := nI_clamp (by omega)
    have gy : gj_in (nI (16 * t + i)) 1600 := nI_in (by omega) (by decide)
    have cy : (nI (16 * t + i)).toNatClampNeg = 16 * t + i := nI_clamp (by omega)
    have step : fn_Md_begins_66 (fn_Md_begins_116 rec) (n + 1) x1 x2 x3 (nI t) 1 (nI i) (ga_v a) = if nI (a 6 (16 * t + i)) = nI (a 1 i) then fn_Md_begins_66 (fn_Md_begins_116 rec) n x1 x2 x3 (nI t) 1 (nI (i + 1)) (ga_v a) else fn_Md_begins_66 (fn_Md_begins_116 rec) n x1 x2 x3 (nI t) 0 (nI (i + 1)) (ga_v a) := by
      rw [fn_Md_begins_66, ga_vr, if_neg (nI_ge (by omega) (by omega)), if_neg (show ¬ (1 : Int32) = 0 by decide)]
      simp only [i1, if_pos gx, cx, if_pos gy, cy, ga_vr, nI_1]
    rw [step]
    obtain ⟨ih1, ih2⟩ := ih (i + 1) n (by omega) (by omega)
    by_cases he : a 6 (16 * t + i) = a 1 i
    · rw [if_pos (by rw [he])]
      refine ⟨fun h => ih1 (fun j a1 a2 => h j (by omega) a2), fun h => ih2 (fun q => h (fun j a1 a2 => ?_))⟩
      rcases Nat.lt_or_ge i j with s | s
      · exact q j s a2
      · rw [show j = i by omega]; exact he
    · rw [if_neg (fun q => he ((nI_eq (by omega) (by omega)).mp q))]
      refine ⟨fun h => absurd (h i (Nat.le_refl _) (by omega)) he, fun _ => ?_⟩
      obtain ⟨n, rfl⟩ := ga_su (show d + 1 < n by omega)
      rw [md_begins_66z, fn_Md_begins_116, if_pos rfl]
theorem md_begins_15 {a : ga_A} (hok : ga_ok a) {kd : Nat} (hkd : kd < 4) : ∀ (d x n : Nat), x + d = a 12 0 → d < n → fn_Md_begins_15 n (nI kd) (nI (gn_cnt (fun i => ga_B a kd (a 7 i)) x)) (nI x) (ga_v a) = some (nI (gn_cnt (fun i => ga_B a kd (a 7 i)) (a 12 0)), ga_v a) := by
  have h12 := hok.1
  have h0 := hok.2.1
  have l0 := h0.1
  intro d
  induction d with
  | zero =>
    intro x n hx hn
    obtain ⟨n, rfl⟩ := ga_su hn
    obtain rfl : x = a 12 0 := by omega
    rw [fn_Md_begins_15, ga_vr, if_pos (nI_le (Nat.le_refl _) (by omega))]
  | succ d ih =>
    intro x n hx hn
    obtain ⟨n, rfl⟩ := ga_su hn
    have h7 := hok.2.2.1 x (by omega)
    obtain ⟨t1, t2, t3⟩ := hok.2.2.2.1 x (by omega)
    have l5 := t3.1
    have hc : gn_cnt (fun i => ga_B a kd (a 7 i)) (x + 1) = gn_cnt (fun i => ga_B a kd (a 7 i)) x + (if ga_B a kd (a 7 x) = true then 1 else 0) := rfl
    have ih' := ih (x + 1) n (by omega) (by omega)
    rw [hc] at ih'
    have gx : gj_in (nI x) 101 := nI_in (by omega) (by decide)
    have cx : (nI x).toNatClampNeg = x := nI_clamp (by omega)
    have g7 : gj_in (nI (a 7 x)) 100 := nI_in h7 (by decide)
    have c7 : (nI (a 7 x)).toNatClampNeg = a 7 x := nI_clamp (by omega)
    rw [fn_Md_begins_15, ga_vr, if_neg (nI_ge (by omega) (by omega))]
    simp only [if_pos gx, cx, ga_vr, if_pos g7, c7]
    by_cases hk : a 3 (a 7 x) = kd
    · rw [if_pos (by rw [hk])]
      by_cases hl : a 5 (a 7 x) < a 0 0
      · rw [if_pos (nI_lt hl (by omega)), show gm_fu = 1999 + 1 from rfl, md_begins_66z, fn_Md_begins_116, if_pos rfl, nI_1, show (0 : Int32) = nI 0 from rfl, nI_add]
        rw [if_neg (fun q => absurd (ga_B_iff.mp q).2.1 (by omega))] at ih'
        exact ih'
      · rw [if_neg (nI_nlt (by omega) (by omega))]
        obtain ⟨g1, g2⟩ := md_begins_66 h7 h0 t3 (by omega) (fn_Md_begins_15 n) (nI kd) (nI (gn_cnt (fun i => ga_B a kd (a 7 i)) x)) (nI x) (a 0 0) 0 gm_fu (by omega) (by unfold gm_fu; omega)
        by_cases hs : ga_st a (a 7 x)
        · rw [show (0 : Int32) = nI 0 from rfl, g1 (fun j _ a2 => hs.2 j a2), nI_1, nI_1]
          rw [if_pos (ga_B_iff.mpr ⟨hk, hs⟩)] at ih'
          exact ih'
        · rw [show (0 : Int32) = nI 0 from rfl, g2 (fun q => hs ⟨by omega, fun i hi => q i (Nat.zero_le _) hi⟩), nI_1, show (0 : Int32) = nI 0 from rfl, nI_add]
          rw [if_neg (fun q => hs (ga_B_iff.mp q).2)] at ih'
          exact ih'
    · rw [if_neg (fun q => hk ((nI_eq (by omega) (by omega)).mp q)), show gm_fu = 1999 + 1 from rfl, md_begins_66z, fn_Md_begins_116, if_pos rfl, nI_1, show (0 : Int32) = nI 0 from rfl, nI_add]
      rw [if_neg (fun q => hk (ga_B_iff.mp q).1)] at ih'
      exact ih'
theorem op_begins (p : Int32) : gs_op (fn_Bk_begins p) (fn_Md_begins p) := by
  refine gs_read (fun n a u hn hW hR => ?_)
  obtain ⟨hok, h2, -⟩ := hW
  unfold fn_Bk_begins fn_Md_begins
  rw [bk_isKind, md_in, Option.bind_some, Option.bind_some]
  by_cases h : 0 ≤ p ∧ p ≤ 3
  · obtain ⟨kd, hkd, rfl⟩ := ga_kd h
    simp only [if_pos h, if_neg (show ¬ (1 : Int32) = 0 by decide)]
    have e1 := bk_begins_13 hok h2 hR hkd 100 0 gk_fu (by omega) (by decide)
    have e2 := md_begins_15 hok hkd (a 12 0) 0 gm_fu (by omega) (by have := hok.1; unfold gm_fu; omega)
    refine ⟨_, e1, ?_⟩
    rw [gn_perm (s := a 7) (Q := ga_B a kd) (a 12 0) _ hok.2.2.1 (fun i j hi hj e => ga_inj hok hi hj e) (fun k hk => by rw [Bool.and_eq_true, decide_eq_true_eq, ga_pres h2 hok hk])]
    exact e2
  · simp only [if_neg h, if_pos (show (0 : Int32) = 0 from rfl)]
    exact ⟨-1, rfl, rfl⟩
