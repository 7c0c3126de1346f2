/-! the law's loop: what holds of it, one row for each call -/
def lw_C (p : Program) (s : State) (m : MethodId) (meth : Method) (c : Code) (b L : Nat) (xs : Nat → Int32) (D : va_G) (cI cT cJ cZ : ClassId) (ad am : Nat → Nat → Nat) : Prop :=
  lw_At p s m meth c b L xs ∧ va_K D gc_cl (gk_tys cI cT) s ∧ va_K D gc_cl (gm_tys cJ cZ) s ∧ gq_N gk_NF gk_NM s ∧ gq_I gk_vd ad ∧ gq_I gm_vd am ∧ (∀ q, gq_A gk_vd ad q → s.heap.size ≤ q) ∧ (∀ q, gq_A gm_vd am q → s.heap.size ≤ q) ∧ (∀ q, gq_A gm_vd am q → ¬ gq_A gk_vd ad q) ∧ L ≤ 2048
/-- n calls are done: class and reference hold the same state -/
def lw_I (s : State) (D : va_G) (cI cT cJ cZ : ClassId) (ad am : Nat → Nat → Nat) (n : Nat) (H : Heap) (locs : List Loc) : Prop :=
  ∃ (u : gk_St) (a : ga_A), gq_H D gc_cl gk_vd ad (gk_pc cI cT ad u) H ∧ gq_H D gc_cl gm_vd am (gm_pc cJ cZ am (ga_v a)) H ∧ ga_W n a ∧ gb_R a u ∧ va_S (fun q => s.heap.size ≤ q) s.heap H locs
theorem gq_kept {D : va_G} {cl : List vw_C} {vd : Nat → Nat → Prop} {ad : Nat → Nat → Nat} {pp : Nat → Nat → va_E} {H H1 : Heap} {A1 : Nat → Prop} (h : gq_H D cl vd ad pp H) (hk : ∀ q : Nat, q < H.size → ¬ A1 q → H1[q]? = H[q]?) (hd : ∀ q, gq_A vd ad q → ¬ A1 q) : gq_H D cl vd ad pp H1 := fun c k hv => (h c k hv).kept (hk _ (h c k hv).lt (hd _ ⟨c, k, hv, rfl⟩))
section LWC
variable {p : Program} {l : Launch} {e : Env} {R : Room} {s : State} {m : MethodId} {args : Array Value} {below : List Frame} {meth : Method} {c : Code} {H : Heap} {locs : List Loc} {cells slots : Nat} {Q : State → Prop}
variable {pc : Nat} {ls : Array Slot} {rest st0 : List Value} {D : va_G} {cl : List vw_C} {tys : List (ClassId × FieldType)} {vd vd2 : Nat → Nat → Prop} {ad ad2 : Nat → Nat → Nat} {pp2 : Nat → Nat → va_E} {H0 : Heap} {A : Nat → Prop} {S : Type} {pcf : S → Nat → Nat → va_E} {a : Array Value}
theorem lw_call {z : Int32 × S} (hr : va_Run p l e R s m args below meth c H locs cells slots 0 0 (F0 m pc ls st0) rest (va_Qi (fun r u => r = z.1 ∧ u = z.2) (fun u t => gq_B D cl tys vd ad (pcf u) t) (gq_A vd ad) a) (gq_A vd ad)) (hA : ∀ q, gq_A vd ad q → A q) (hd : ∀ q, gq_A vd2 ad2 q → ¬ gq_A vd ad q) (h2 : gq_H D cl vd2 ad2 pp2 H) (hS : va_S A H0 H locs)
    (kk : ∀ (H1 : Heap) (locs1 : List Loc), gq_H D cl vd ad (pcf z.2) H1 → gq_H D cl vd2 ad2 pp2 H1 → va_S A H0 H1 locs1 → W p l e R s m args below meth c H1 locs1 cells slots Q (F0 m (pc + 3) ls (.int z.1 :: rest))) : W p l e R s m args below meth c H locs cells slots Q (F0 m pc ls st0) := by
  refine va_calli hr hS (fun q _ h => hA q h) (fun q h => hA q h) (fun r u t H1 locs1 ht hvm hw hB hz hk hS1 => ?_)
  obtain ⟨rfl, rfl⟩ := hw
  exact kk H1 locs1 (by rw [← ht]; exact hB.1) (gq_kept h2 hk hd) hS1
end LWC
theorem lw_in {n L k : Nat} (h : 4 * n + k < L) (hL : L ≤ 2048) : vp_in (nI (4 * n) + nI k) L := by
  rw [nI_add]
  exact vp_in_nI h (by omega)
theorem lw_end {L n : Nat} (hL : L ≤ 2048) (hn : n ≤ 512) (c1 : ¬ Int32.ofNat L - 4 < nI (4 * n)) : 4 * n + 4 ≤ L := by
  rcases Nat.lt_or_ge L (4 * n + 4) with h | h
  · exfalso
    apply c1
    rcases Nat.lt_or_ge L 4 with h2 | h2
    · have h0 : Int32.ofNat L - 4 < 0 := by
        rcases (show L = 0 ∨ L = 1 ∨ L = 2 ∨ L = 3 by omega) with rfl | rfl | rfl | rfl <;> decide
      exact Int32.lt_of_lt_of_le h0 (nI_pos' (by omega))
    · rw [show Int32.ofNat L - 4 = nI (L - 4) from pk_sub (a := L) (b := 4) h2]
      exact nI_lt (by omega) (by omega)
  · exact h
