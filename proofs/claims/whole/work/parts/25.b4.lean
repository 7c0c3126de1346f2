/-! kind and text as one number: the order of the terms is the order of these -/
def ga_k (kd : Nat) (f : Nat → Nat) : Nat := kd * 256 ^ 16 + tx_enc f 0 16
def ga_K (a : ga_A) (t : Nat) : Nat := ga_k (a 3 t) (ga_T a t)
def ga_Q (a : ga_A) (kd : Nat) : Nat := ga_k kd (ga_P a)
theorem ga_pad {f : Nat → Nat} {n : Nat} (h : ga_tok f n) : ∀ i, (if i < n then f i else 0) < 256 := by
  intro i
  by_cases q : i < n
  · rw [if_pos q]; have := (h.2 i q).2; omega
  · rw [if_neg q]; decide
theorem ga_k_lt {k1 k2 : Nat} {f g : Nat → Nat} (hf : ∀ i, f i < 256) (hg : ∀ i, g i < 256) : ga_k k1 f < ga_k k2 g ↔ k1 < k2 ∨ (k1 = k2 ∧ tx_bef f g 0 16) := by
  have h1 := tx_lt hf 0 16
  have h2 := tx_lt hg 0 16
  rw [← tx_lex hf hg 0 16]
  unfold ga_k
  generalize tx_enc f 0 16 = x at h1
  generalize tx_enc g 0 16 = y at h2
  rw [show (256 : Nat) ^ 16 = 340282366920938463463374607431768211456 by decide] at *
  omega
theorem ga_k_eq {k1 k2 : Nat} {f g : Nat → Nat} (hf : ∀ i, f i < 256) (hg : ∀ i, g i < 256) : ga_k k1 f = ga_k k2 g ↔ k1 = k2 ∧ ∀ i, i < 16 → f i = g i := by
  have h1 := tx_lt hf 0 16
  have h2 := tx_lt hg 0 16
  have e := tx_inj hf hg 0 16
  simp only [Nat.zero_add] at e
  rw [← e]
  unfold ga_k
  generalize tx_enc f 0 16 = x at h1
  generalize tx_enc g 0 16 = y at h2
  rw [show (256 : Nat) ^ 16 = 340282366920938463463374607431768211456 by decide] at *
  omega
theorem md_againstK (a : ga_A) {t kd : Nat} (ht : t < 100) (hk : a 3 t < 4) (hkd : kd < 4) (hT : ga_tok (fun i => a 6 (16 * t + i)) (a 5 t)) (hP : ga_tok (a 1) (a 0 0)) :
    ∃ c, fn_Md_against (nI t) (nI kd) (ga_v a) = some (c, ga_v a) ∧ (c < 0 ↔ ga_K a t < ga_Q a kd) ∧ (c = 0 ↔ ga_K a t = ga_Q a kd) := by
  obtain ⟨c, g0, g1, g2⟩ := md_against a ht hk hkd hT hP
  exact ⟨c, g0, g1.trans (ga_k_lt (ga_pad hT) (ga_pad hP)).symm, g2.trans (ga_k_eq (ga_pad hT) (ga_pad hP)).symm⟩
/-- what holds of the terms that are in the book -/
def ga_ok (a : ga_A) : Prop := a 12 0 ≤ 100 ∧ ga_tok (a 1) (a 0 0) ∧ (∀ j, j < a 12 0 → a 7 j < 100) ∧ (∀ j, j < a 12 0 → a 3 (a 7 j) < 4 ∧ 1 ≤ a 5 (a 7 j) ∧ ga_tok (fun i => a 6 (16 * a 7 j + i)) (a 5 (a 7 j))) ∧ ∀ i j, i < j → j < a 12 0 → ga_K a (a 7 i) < ga_K a (a 7 j)
/-- the place of the tape's term of a kind -/
def ga_pl (a : ga_A) (kd p : Nat) : Prop := p ≤ a 12 0 ∧ (∀ j, j < p → ga_K a (a 7 j) < ga_Q a kd) ∧ ∀ j, p ≤ j → j < a 12 0 → ga_Q a kd ≤ ga_K a (a 7 j)
theorem ga_pl_ex {a : ga_A} (h : ga_ok a) (kd : Nat) : ∃ p, ga_pl a kd p := by
  obtain ⟨p, h1, h2⟩ := pk_least (fun p => a 12 0 ≤ p ∨ ga_Q a kd ≤ ga_K a (a 7 p)) ⟨a 12 0, Or.inl (Nat.le_refl _)⟩
  have hp : p ≤ a 12 0 := by
    rcases Nat.lt_or_ge (a 12 0) p with q | q
    · exact absurd (Or.inl (Nat.le_refl _)) (h2 _ q)
    · exact q
  refine ⟨p, hp, fun j hj => ?_, fun j h3 h4 => ?_⟩
  · rcases Nat.lt_or_ge (ga_K a (a 7 j)) (ga_Q a kd) with q | q
    · exact q
    · exact absurd (Or.inr q) (h2 j hj)
  · rcases h1 with q | q
    · omega
    · rcases Nat.lt_or_ge p j with r | r
      · exact Nat.le_trans q (Nat.le_of_lt (h.2.2.2.2 p j r h4))
      · rw [show j = p by omega]; exact q
theorem md_before_4 {a : ga_A} (h : ga_ok a) {kd p : Nat} (hkd : kd < 4) (hp : ga_pl a kd p) : ∀ (d x n : Nat), x + d = a 12 0 → d < n → fn_Md_before_4 n (nI kd) (nI (min x p)) (nI x) (ga_v a) = some (nI p, ga_v a) := by
  obtain ⟨h12, hP, h7, ht, -⟩ := h
  obtain ⟨p1, p2, p3⟩ := hp
  intro d
  induction d with
  | zero =>
    intro x n hx hn
    obtain ⟨n, rfl⟩ := ga_su hn
    rw [fn_Md_before_4, ga_vr, if_pos (nI_le (by omega) (by omega)), show min x p = p by omega]
  | succ d ih =>
    intro x n hx hn
    obtain ⟨n, rfl⟩ := ga_su hn
    obtain ⟨c, g0, g1, -⟩ := md_againstK a (h7 x (by omega)) (ht x (by omega)).1 hkd (ht x (by omega)).2.2 hP
    rw [fn_Md_before_4, ga_vr, if_neg (nI_ge (by omega) (by omega)), if_pos (nI_in (by omega) (by omega)), nI_clamp (by omega), ga_vr, g0, Option.bind_some, nI_1]
    show (if 0 ≤ c then fn_Md_before_4 n (nI kd) (nI (min x p) + 0) (nI (x + 1)) (ga_v a) else fn_Md_before_4 n (nI kd) (nI (min x p) + 1) (nI (x + 1)) (ga_v a)) = _
    by_cases q : x < p
    · rw [if_neg (fun r => absurd (g1.mpr (p2 x q)) (Int32.not_lt.mpr r)), nI_1, show min x p + 1 = min (x + 1) p by omega]
      exact ih (x + 1) n (by omega) (by omega)
    · have hc : 0 ≤ c := Int32.not_lt.mp (fun r => absurd (g1.mp r) (Nat.not_lt.mpr (p3 x (by omega) (by omega))))
      rw [if_pos hc, show nI (min x p) + 0 = nI (min (x + 1) p) by rw [show (0 : Int32) = nI 0 from rfl, nI_add]; congr 1; omega]
      exact ih (x + 1) n (by omega) (by omega)
theorem md_before {a : ga_A} (h : ga_ok a) {kd p : Nat} (hkd : kd < 4) (hp : ga_pl a kd p) : fn_Md_before (nI kd) (ga_v a) = some (nI p, ga_v a) := by
  have := md_before_4 h hkd hp (a 12 0) 0 gm_fu (by omega) (by have := h.1; unfold gm_fu; omega)
  rw [Nat.zero_min] at this
  exact this
/-- the tape's term is in the book: it stands at its place -/
def ga_is (a : ga_A) (kd p : Nat) : Prop := p < a 12 0 ∧ ga_K a (a 7 p) = ga_Q a kd
theorem md_numberOf_4 {a : ga_A} (h : ga_ok a) {kd p : Nat} (hkd : kd < 4) (hp : ga_pl a kd p) : ∀ (d x n : Nat) (y : Int32), x + d = a 12 0 → d < n → (x ≤ p → y = -1) → (p < x → ga_is a kd p → y = nI (a 7 p)) → (p < x → ¬ ga_is a kd p → y = -1) →
    ∃ r, fn_Md_numberOf_4 n (nI kd) y (nI x) (ga_v a) = some (r, ga_v a) ∧ (ga_is a kd p → r = nI (a 7 p)) ∧ (¬ ga_is a kd p → r = -1) := by
  have hok := h
  obtain ⟨h12, hP, h7, ht, hso⟩ := h
  obtain ⟨p1, p2, p3⟩ := hp
  intro d
  induction d with
  | zero =>
    intro x n y hx hn y1 y2 y3
    obtain ⟨n, rfl⟩ := ga_su hn
    refine ⟨y, by rw [fn_Md_numberOf_4, ga_vr, if_pos (nI_le (by omega) (by omega))], fun q => y2 (by have := q.1; omega) q, fun q => ?_⟩
    rcases Nat.lt_or_ge p x with r | r
    · exact y3 r q
    · exact y1 r
  | succ d ih =>
    intro x n y hx hn y1 y2 y3
    obtain ⟨n, rfl⟩ := ga_su hn
    obtain ⟨c, g0, g1, g2⟩ := md_againstK a (h7 x (by omega)) (ht x (by omega)).1 hkd (ht x (by omega)).2.2 hP
    have step : fn_Md_numberOf_4 (n + 1) (nI kd) y (nI x) (ga_v a) = if c = 0 then fn_Md_numberOf_4 n (nI kd) (nI (a 7 x)) (nI (x + 1)) (ga_v a) else fn_Md_numberOf_4 n (nI kd) y (nI (x + 1)) (ga_v a) := by
      have gx : gj_in (nI x) 101 := nI_in (by omega) (by omega)
      have cx : (nI x).toNatClampNeg = x := nI_clamp (by omega)
      rw [fn_Md_numberOf_4, ga_vr, if_neg (nI_ge (by omega) (by omega))]
      simp only [if_pos gx, cx, ga_vr, g0, Option.bind_some, nI_1]
    rw [step]
    by_cases hc : c = 0
    · have hk := g2.mp hc
      have hxp : x = p := by
        rcases Nat.lt_trichotomy x p with q | q | q
        · have := p2 x q; omega
        · exact q
        · have := hso p x q (by omega)
          have := p3 p (Nat.le_refl _) (by omega)
          omega
      subst hxp
      rw [if_pos hc]
      exact ih (x + 1) n _ (by omega) (by omega) (fun q => absurd q (by omega)) (fun _ _ => rfl) (fun _ q => absurd ⟨by omega, hk⟩ q)
    · rw [if_neg hc]
      refine ih (x + 1) n y (by omega) (by omega) (fun q => y1 (by omega)) (fun q r => ?_) (fun q r => ?_)
      · rcases Nat.lt_succ_iff_lt_or_eq.mp q with s | s
        · exact y2 s r
        · subst s; exact absurd (g2.mpr r.2) hc
      · rcases Nat.lt_succ_iff_lt_or_eq.mp q with s | s
        · exact y3 s r
        · exact y1 (by omega)
theorem md_numberOf {a : ga_A} (h : ga_ok a) {kd p : Nat} (hkd : kd < 4) (hp : ga_pl a kd p) : ∃ r, fn_Md_numberOf (nI kd) (ga_v a) = some (r, ga_v a) ∧ (ga_is a kd p → r = nI (a 7 p)) ∧ (¬ ga_is a kd p → r = -1) :=
  md_numberOf_4 h hkd hp (a 12 0) 0 gm_fu (-1) (by omega) (by have := h.1; unfold gm_fu; omega) (fun _ => rfl) (fun q => absurd q (by omega)) (fun q => absurd q (by omega))
