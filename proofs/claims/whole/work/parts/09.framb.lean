/-! boolean arrays and boolean answers -/
abbrev gj_01 (v : Int32) : Prop := v = 0 ∨ v = 1
theorem gj_01n {v : Int32} (h : gj_01 v) : narrow .boolean (.int v) = .int v := by rcases h with rfl | rfl <;> rfl
def gj_lshr (x : Int64) (y : Int32) : Int64 := x >>> (y.toInt64 &&& 63)
section GQB
variable {p : Program} {l : Launch} {e : Env} {R : Room} {s : State} {m : MethodId} {args : Array Value} {below : List Frame} {meth : Method} {c : Code} {H : Heap} {locs : List Loc} {cells slots : Nat} {Q : State → Prop}
variable {cc : ByteArray} {pc : Nat} {ls : Array Slot} {rest st0 : List Value} {D : va_G} {cl : List vw_C} {tys : List (ClassId × FieldType)} {vd : Nat → Nat → Prop} {ad : Nat → Nat → Nat} {pp pp' : Nat → Nat → va_E} {H0 : Heap} {A : Nat → Prop} {ca ka : Nat}
theorem gq_zast (hexec : p.tables.exec = Jvm.exec) (hb : c.code = cc) (hK : va_K D cl tys s) (hH : gq_H D cl vd ad pp H) (hI : gq_I vd ad) (hA : ∀ q, gq_A vd ad q → A q) (hv0 : vd ca ka) {cA : ClassId} {n : Nat} {f : Nat → Int32} (he : pp ca ka = .inl (cA, n, .inl f)) (t0 : Nat) (ht : tys[t0]? = some (cA, .boolean)) {i x : Int32} (hin : vp_in i n)
    (hw : pp' ca ka = .inl (cA, n, .inl (upd f i.toNatClampNeg (vp_nar .boolean x)))) (ho : ∀ c' k', vd c' k' → ¬ (c' = ca ∧ k' = ka) → pp' c' k' = pp c' k') (hS : va_S A H0 H locs) (hdg : decode cc pc = .ok (.bastore, 1))
    (kk : ∀ (H1 : Heap) (locs1 : List Loc), gq_H D cl vd ad pp' H1 → va_S A H0 H1 locs1 → W p l e R s m args below meth c H1 locs1 cells slots Q (F0 m (pc + 1) ls rest)) : W p l e R s m args below meth c H locs cells slots Q (F0 m pc ls (.int x :: .int i :: .ref (ad ca ka) :: rest)) := by
  have h00 := hH ca ka hv0
  rw [he] at h00
  refine W.zast hexec hb h00 ((hK.2 t0 _ ht).1 n (fun j => .int (f j))) (fun q => by cases q) (by show ¬ (i < 0 ∨ (arrV _ _ _).slots.size ≤ _); rw [arrV_size]; exact hin) rfl rfl hdg fun H1 e z oq => ?_
  refine kk H1 _ (gq_upd hH hI hv0 ?_ ho oq) (hS.put z oq (hA _ ⟨ca, ka, hv0, rfl⟩))
  rw [hw]
  show H1[ad ca ka]? = some (vp_cell _ _)
  rw [e]
  rw [vp_cell_i, vp_cell_i, arrV_store]
  congr 2
  funext q
  by_cases hq : q = i.toNatClampNeg
  · subst hq
    simp [updV, upd, vp_nar]
    try rfl
  · simp [updV, upd, hq]
end GQB

