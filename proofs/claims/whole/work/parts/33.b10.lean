/-! what comes behind a text -/
theorem tx_zero {f : Nat → Nat} (o : Nat) : ∀ n, (∀ i, i < n → f (o + i) = 0) → tx_enc f o n = 0
  | 0, _ => rfl
  | n + 1, h => by
    show tx_enc f o n * 256 + f (o + n) = 0
    rw [tx_zero o n (fun i hi => h i (by omega)), h n (by omega)]
theorem tx_cong {f g : Nat → Nat} (o : Nat) : ∀ n, (∀ i, i < n → f (o + i) = g (o + i)) → tx_enc f o n = tx_enc g o n
  | 0, _ => rfl
  | n + 1, h => by
    show tx_enc f o n * 256 + f (o + n) = tx_enc g o n * 256 + g (o + n)
    rw [tx_cong o n (fun i hi => h i (by omega)), h n (by omega)]
/-- b at place q -/
def ga_put (f : Nat → Nat) (q b : Nat) : Nat → Nat := fun i => if i = q then b else f i
theorem tx_put {f : Nat → Nat} {o L b : Nat} (hL : L < 8) (hz : ∀ i, L ≤ i → f (o + i) = 0) : tx_enc f o 8 = tx_enc f o L * 256 ^ (8 - L) ∧ tx_enc (ga_put f (o + L) b) o 8 = tx_enc f o L * 256 ^ (8 - L) + b * 256 ^ (7 - L) := by
  constructor
  · have h := tx_app f o L (8 - L)
    rw [show L + (8 - L) = 8 by omega, tx_zero (o + L) (8 - L) (fun i hi => by rw [Nat.add_assoc]; exact hz _ (by omega)), Nat.add_zero] at h
    exact h
  · have h := tx_app (ga_put f (o + L) b) o (L + 1) (7 - L)
    rw [show L + 1 + (7 - L) = 8 by omega, tx_zero (o + (L + 1)) (7 - L) (fun i hi => by
      unfold ga_put
      rw [if_neg (by omega), show o + (L + 1) + i = o + (L + 1 + i) by omega]
      exact hz _ (by omega)), Nat.add_zero] at h
    have e : tx_enc (ga_put f (o + L) b) o (L + 1) = tx_enc f o L * 256 + b := by
      show tx_enc (ga_put f (o + L) b) o L * 256 + ga_put f (o + L) b (o + L) = _
      rw [tx_cong (g := f) o L (fun i hi => by unfold ga_put; rw [if_neg (by omega)])]
      unfold ga_put
      rw [if_pos rfl]
    rw [h, e, Nat.add_mul, Nat.mul_assoc, show 256 * 256 ^ (7 - L) = 256 ^ (8 - L) by rw [Nat.mul_comm, ← Nat.pow_succ]; congr 1; omega]
theorem tx_or {f : Nat → Nat} {o L b : Nat} (hf : ∀ i, f i < 256) (hb : b < 256) (hL : L < 8) (hz : ∀ i, L ≤ i → f (o + i) = 0) : lN (tx_enc f o 8) ||| gj_lshl (Int32.toInt64 (nI b)) (nI (8 * (7 - L))) = lN (tx_enc (ga_put f (o + L) b) o 8) := by
  obtain ⟨e1, e2⟩ := tx_put (f := f) (o := o) (b := b) hL hz
  have hp : ∀ i, ga_put f (o + L) b i < 256 := fun i => by unfold ga_put; split; exact hb; exact hf i
  have h64 := tx_lt hp o 8
  unfold gj_lshl
  rw [nI_l (by omega), wb_shl b (by omega), ← tx_p8, e1, e2] at *
  refine bg_or (k := 8 * (8 - L)) (tx_p8 _).symm ?_ h64
  rw [show 8 - L = (7 - L) + 1 by omega, Nat.pow_succ, Nat.mul_comm]
  exact Nat.mul_lt_mul_of_pos_left hb (Nat.pow_pos (by decide))
/-- text k of the class: n bytes, f -/
def gb_T (u : gk_St) (k n : Nat) (f : Nat → Nat) : Prop := u.1 0 k = nI n ∧ u.2 0 k = lN (tx_enc f 0 8) ∧ u.2 1 k = lN (tx_enc f 8 8)
theorem bk_append {u : gk_St} {k L b : Nat} {f : Nat → Nat} (hT : gb_T u k L f) (hL : L < 16) (hz : ∀ i, L ≤ i → f i = 0) (hf : ∀ i, f i < 256) (hb : b < 256) :
    ∃ u', fn_Tx_append k (nI b) u = some u' ∧ gb_T u' k (L + 1) (ga_put f L b) ∧ (∀ c j, ¬ (c = 0 ∧ j = k) → u'.1 c j = u.1 c j) ∧ ∀ c j, j ≠ k → u'.2 c j = u.2 c j := by
  obtain ⟨t0, t1, t2⟩ := hT
  unfold fn_Tx_append
  by_cases h8 : L < 8
  · rw [t0, if_neg (show ¬ (8 : Int32) ≤ nI L from nI_ge (b := 8) h8 (by decide)), show (7 : Int32) - nI L = nI (7 - L) from pk_sub (a := 7) (by omega), by_8, t1]
    have e := tx_or (f := f) (o := 0) (L := L) (b := b) hf hb h8 (fun i hi => by rw [Nat.zero_add]; exact hz i hi)
    rw [Nat.zero_add] at e
    rw [e]
    refine ⟨_, rfl, ⟨?_, ?_, ?_⟩, fun c j h => ?_, fun c j h => ?_⟩
    · rw [gk_i1, gk_l3, t0, nI_1]
    · rw [gk_i3, gk_l1]
    · rw [gk_i3, gk_l2 (by omega), t2]
      exact congrArg lN (tx_cong 8 8 (fun i hi => by unfold ga_put; rw [if_neg (by omega)]))
    · rw [gk_i2 h, gk_l3]
    · rw [gk_i3, gk_l2 (fun q => h q.2)]
  · rw [t0, if_pos (show (8 : Int32) ≤ nI L from nI_le (a := 8) (by omega) (by omega)), if_neg (show ¬ (16 : Int32) ≤ nI L from nI_ge (b := 16) hL (by decide)), show (15 : Int32) - nI L = nI (7 - (L - 8)) by rw [show (15 : Int32) = nI 15 from rfl, pk_sub (by omega)]; congr 1; omega, by_8, t2]
    have e := tx_or (f := f) (o := 8) (L := L - 8) (b := b) hf hb (by omega) (fun i hi => hz _ (by omega))
    rw [show 8 + (L - 8) = L by omega] at e
    rw [e]
    refine ⟨_, rfl, ⟨?_, ?_, ?_⟩, fun c j h => ?_, fun c j h => ?_⟩
    · rw [gk_i1, gk_l3, t0, nI_1]
    · rw [gk_i3, gk_l2 (by omega), t1]
      exact congrArg lN (tx_cong 0 8 (fun i hi => by unfold ga_put; rw [if_neg (by omega)]))
    · rw [gk_i3, gk_l1]
    · rw [gk_i2 h, gk_l3]
    · rw [gk_i3, gk_l2 (fun q => h q.2)]
/-- j bytes of N behind the first L -/
def ga_app (f : Nat → Nat) (L N j : Nat) : Nat → Nat := fun i => if L ≤ i ∧ i < L + j then ga_b N (j - 1 - (i - L)) else f i
theorem ga_app_s (f : Nat → Nat) (L N j : Nat) : ga_app (ga_put f L (ga_b N j)) (L + 1) N j = ga_app f L N (j + 1) := by
  funext i
  unfold ga_app ga_put
  by_cases h1 : L + 1 ≤ i ∧ i < L + 1 + j
  · rw [if_pos h1, if_pos (by omega)]
    congr 1
    omega
  · rw [if_neg h1]
    by_cases h2 : i = L
    · subst h2
      rw [if_pos rfl, if_pos (by omega)]
      congr 1
      omega
    · rw [if_neg h2, if_neg (by omega)]
theorem ga_app_0 (f : Nat → Nat) (L N : Nat) : ga_app f L N 0 = f := by
  funext i
  unfold ga_app
  rw [if_neg (by omega)]
theorem nI_m1 (j : Nat) : nI (j + 1) - 1 + (-1) = nI j - 1 := by rw [nI_pred, ← Int32.sub_eq_add_neg]
theorem bk_type_43 {N m : Nat} (hN : N < 2 ^ 64) : ∀ (j n : Nat) (u : gk_St) (L : Nat) (f : Nat → Nat), gb_T u 100 L f → L + j ≤ 16 → j ≤ 8 → (∀ i, L ≤ i → f i = 0) → (∀ i, f i < 256) → j < n →
    ∃ u', fn_Bk_type_43 n (lN N) (nI m) (nI j - 1) u = some (nI (L + j), u') ∧ gb_T u' 100 (L + j) (ga_app f L N j) ∧ (∀ c i, ¬ (c = 0 ∧ i = 100) → u'.1 c i = u.1 c i) ∧ ∀ c i, i ≠ 100 → u'.2 c i = u.2 c i := by
  intro j
  induction j with
  | zero =>
    intro n u L f hT hL hj hz hf hn
    obtain ⟨n, rfl⟩ := ga_su hn
    refine ⟨u, ?_, by rw [ga_app_0]; exact hT, fun _ _ _ => rfl, fun _ _ _ => rfl⟩
    rw [fn_Bk_type_43, if_pos (by decide), hT.1]
    rfl
  | succ j ih =>
    intro n u L f hT hL hj hz hf hn
    obtain ⟨n, rfl⟩ := ga_su hn
    obtain ⟨u1, e1, t1, f1, g1⟩ := bk_append (b := ga_b N j) hT (by omega) hz hf (ga_b_lt _ _)
    obtain ⟨u2, e2, t2, f2, g2⟩ := ih n u1 (L + 1) (ga_put f L (ga_b N j)) t1 (by omega) (by omega) (fun i hi => by unfold ga_put; rw [if_neg (by omega)]; exact hz i (by omega)) (fun i => by unfold ga_put; split; exact ga_b_lt _ _; exact hf i) (by omega)
    refine ⟨u2, ?_, by rw [← ga_app_s, show L + (j + 1) = L + 1 + j by omega]; exact t2, fun c i h => (f2 c i h).trans (f1 c i h), fun c i h => (g2 c i h).trans (g1 c i h)⟩
    rw [fn_Bk_type_43, nI_m1, nI_pred, if_neg (nI_pos (by omega)), bk_byteOf hN (by omega), Option.bind_some, e1, Option.bind_some, e2, show L + (j + 1) = L + 1 + j by omega]
theorem md_type_76 {N m : Nat} (hN : N < 2 ^ 64) : ∀ (j n : Nat) (a : ga_A), a 0 0 + j ≤ 16 → j ≤ 8 → j < n → fn_Md_type_76 n (lN N) (nI m) 1 (nI j - 1) (ga_v a) = some (nI (a 0 0 + j), ga_v (ga_c (ga_s a 0 0 (a 0 0 + j)) 1 (ga_app (a 1) (a 0 0) N j))) := by
  intro j
  induction j with
  | zero =>
    intro n a hL hj hn
    obtain ⟨n, rfl⟩ := ga_su hn
    rw [fn_Md_type_76, if_pos (by decide), ga_app_0]
    have e : ga_c (ga_s a 0 0 (a 0 0 + 0)) 1 (a 1) = a := by
      funext c k
      unfold ga_c ga_s
      by_cases h1 : c = 1
      · subst h1; rw [if_pos rfl]
      · rw [if_neg h1]
        split
        · rename_i h; obtain ⟨rfl, rfl⟩ := h; rfl
        · rfl
    rw [e]
    rfl
  | succ j ih =>
    intro n a hL hj hn
    obtain ⟨n, rfl⟩ := ga_su hn
    have g0 : gj_in (nI (a 0 0)) 16 := nI_in (by omega) (by omega)
    have c0 : (nI (a 0 0)).toNatClampNeg = a 0 0 := nI_clamp (by omega)
    rw [fn_Md_type_76, nI_m1, nI_pred, if_neg (nI_pos (by omega))]
    simp only [ga_vr, if_pos g0, c0, by_s hN (show j < 8 by omega), ga_vs]
    rw [ga_rc (by decide), nI_1, ga_vs, ih n _ (by rw [ga_r1]; omega) (by omega) (by omega), ga_r1]
    have e : ga_c (ga_s (ga_s (ga_s a 1 (a 0 0) (ga_b N j)) 0 0 (a 0 0 + 1)) 0 0 (a 0 0 + 1 + j)) 1 (ga_app ((ga_s (ga_s a 1 (a 0 0) (ga_b N j)) 0 0 (a 0 0 + 1)) 1) (a 0 0 + 1) N j) = ga_c (ga_s a 0 0 (a 0 0 + (j + 1))) 1 (ga_app (a 1) (a 0 0) N (j + 1)) := by
      have e1 : (ga_s (ga_s a 1 (a 0 0) (ga_b N j)) 0 0 (a 0 0 + 1)) 1 = ga_put (a 1) (a 0 0) (ga_b N j) := by
        funext i
        rw [ga_rc (by decide)]
        unfold ga_s ga_put
        simp
      rw [e1, ga_app_s]
      funext c k
      unfold ga_c
      by_cases h1 : c = 1
      · rw [if_pos h1, if_pos h1]
      · rw [if_neg h1, if_neg h1]
        unfold ga_s
        by_cases h2 : c = 0 ∧ k = 0
        · rw [if_pos h2, if_pos h2]; omega
        · rw [if_neg h2, if_neg h2, if_neg h2, if_neg (by omega)]
    rw [e, show a 0 0 + 1 + j = a 0 0 + (j + 1) by omega]
