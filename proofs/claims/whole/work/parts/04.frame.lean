/-! worlds as functions: cell (c, k) of a layout lies at ad c k and holds pp c k; rows over them -/
def gq_H (D : va_G) (cl : List vw_C) (vd : Nat → Nat → Prop) (ad : Nat → Nat → Nat) (pp : Nat → Nat → va_E) (H : Heap) : Prop := ∀ c k, vd c k → va_at D cl (ad c k, pp c k) H
def gq_A (vd : Nat → Nat → Prop) (ad : Nat → Nat → Nat) : Nat → Prop := fun q => ∃ c k, vd c k ∧ q = ad c k
def gq_I (vd : Nat → Nat → Prop) (ad : Nat → Nat → Nat) : Prop := ∀ c k c' k', vd c k → vd c' k' → ad c k = ad c' k' → c = c' ∧ k = k'
/-- nest links: they stay true as the machine warms -/
def gq_N (F : List (String × Nat × String × String × String × String)) (M : List (String × Nat × MethodName × String)) (U : State) : Prop :=
  (∀ q ∈ F, va_Nw (.fieldLinkNest q.1 q.2.1 q.2.2.1 q.2.2.2.1 q.2.2.2.2.1 q.2.2.2.2.2) U) ∧ ∀ q ∈ M, va_Nw (.methodLinkNest q.1 q.2.1 q.2.2.1 q.2.2.2) U
theorem gq_N.warm {F : List (String × Nat × String × String × String × String)} {M : List (String × Nat × MethodName × String)} {s U : State} (h : gq_N F M s) (hW : s.WarmedH U.vm) : gq_N F M U :=
  ⟨fun q hq => va_Nw.warmF hW (h.1 q hq), fun q hq => va_Nw.warmM hW (h.2 q hq)⟩
theorem gq_N.same {F : List (String × Nat × String × String × String × String)} {M : List (String × Nat × MethodName × String)} {s U : State} (h : gq_N F M s) (hv : s.vm = U.vm) : gq_N F M U :=
  ⟨fun q hq => va_Nw.same rfl hv (h.1 q hq), fun q hq => va_Nw.same rfl hv (h.2 q hq)⟩
theorem gq_one {D : va_G} {cl : List vw_C} {vd : Nat → Nat → Prop} {ad : Nat → Nat → Nat} {pp : Nat → Nat → va_E} {H : Heap} {c k : Nat} {e : va_E} (h : gq_H D cl vd ad pp H) (hv : vd c k) (he : pp c k = e) : va_P D cl [(ad c k, e)] H := by
  intro j q hq
  match j, hq with
  | 0, hq => cases hq; rw [← he]; exact h c k hv
  | j + 1, hq => simp at hq
theorem gq_upd {D : va_G} {cl : List vw_C} {vd : Nat → Nat → Prop} {ad : Nat → Nat → Nat} {pp pp' : Nat → Nat → va_E} {H H1 : Heap} {c k : Nat} (h : gq_H D cl vd ad pp H) (hI : gq_I vd ad) (hv : vd c k) (hp : va_at D cl (ad c k, pp' c k) H1) (ho : ∀ c' k', vd c' k' → ¬ (c' = c ∧ k' = k) → pp' c' k' = pp c' k') (oq : ∀ q : Nat, q ≠ ad c k → H1[q]? = H[q]?) : gq_H D cl vd ad pp' H1 := by
  intro c' k' hv'
  by_cases hc : c' = c ∧ k' = k
  · obtain ⟨rfl, rfl⟩ := hc
    exact hp
  · rw [ho c' k' hv' hc]
    exact (h c' k' hv').kept (oq _ (fun e => hc (hI _ _ _ _ hv' hv e)))
def gq_pre (D : va_G) (cl : List vw_C) (tys : List (ClassId × FieldType)) (vd : Nat → Nat → Prop) (ad : Nat → Nat → Nat) (F : List (String × Nat × String × String × String × String)) (M : List (String × Nat × MethodName × String)) (pp : Nat → Nat → va_E) (U : State) : Prop := gq_H D cl vd ad pp U.heap ∧ va_K D cl tys U ∧ gq_N F M U
def gq_B (D : va_G) (cl : List vw_C) (tys : List (ClassId × FieldType)) (vd : Nat → Nat → Prop) (ad : Nat → Nat → Nat) (pp : Nat → Nat → va_E) (t : State) : Prop := gq_H D cl vd ad pp t.heap ∧ va_K D cl tys t
theorem gq_blind {D : va_G} {cl : List vw_C} {tys : List (ClassId × FieldType)} {vd : Nat → Nat → Prop} {ad : Nat → Nat → Nat} {F : List (String × Nat × String × String × String × String)} {M : List (String × Nat × MethodName × String)} {pp : Nat → Nat → va_E} {av : List Value} : FrameBlind (va_Pc av (gq_pre D cl tys vd ad F M pp)) := by
  intro a U g mk q
  obtain ⟨q0, q1, q2, q3⟩ := q
  exact ⟨q0, q1, va_K.moved (u := U) (U := U.calling g mk a) (Vm.Alike.refl U.vm) q2, q3.same rfl⟩
theorem gq_preS {s : State} {H : Heap} {D : va_G} {cl : List vw_C} {tys : List (ClassId × FieldType)} {vd : Nat → Nat → Prop} {ad : Nat → Nat → Nat} {F : List (String × Nat × String × String × String × String)} {M : List (String × Nat × MethodName × String)} {pp : Nat → Nat → va_E} {av : List Value} (hH : gq_H D cl vd ad pp H) (hK : va_K D cl tys s) (hN : gq_N F M s) : PreS s H (va_Pc av (gq_pre D cl tys vd ad F M pp)) av :=
  ⟨gq_blind, fun U hU hW => ⟨rfl, by rw [hU]; exact hH, va_K.moved hW.alike hK, hN.warm hW⟩⟩
theorem gq_preV {s : State} {H : Heap} {D : va_G} {cl : List vw_C} {tys : List (ClassId × FieldType)} {vd : Nat → Nat → Prop} {ad : Nat → Nat → Nat} {F : List (String × Nat × String × String × String × String)} {M : List (String × Nat × MethodName × String)} {pp : Nat → Nat → va_E} {C : String} {b : Nat} {As : List Value} (hH : gq_H D cl vd ad pp H) (hK : va_K D cl tys s) (hN : gq_N F M s) (hr : ∃ cell : Cell, H[b]? = some cell ∧ cell.vm.isStatics = false ∧ s.vm.findClass C = some cell.cls) : PreV s H C b (va_Pc (.ref b :: As) (gq_pre D cl tys vd ad F M pp)) As :=
  ⟨gq_blind, hr, fun U hU hW => ⟨rfl, by rw [hU]; exact hH, va_K.moved hW.alike hK, hN.warm hW⟩⟩
section GQ
variable {p : Program} {l : Launch} {e : Env} {R : Room} {s : State} {m : MethodId} {args : Array Value} {below : List Frame} {meth : Method} {c : Code} {H : Heap} {locs : List Loc} {cells slots : Nat} {Q : State → Prop}
variable {cc : ByteArray} {pc : Nat} {ls : Array Slot} {rest st0 : List Value} {D : va_G} {cl : List vw_C} {tys : List (ClassId × FieldType)} {vd : Nat → Nat → Prop} {ad : Nat → Nat → Nat} {pp pp' : Nat → Nat → va_E} {H0 : Heap} {A : Nat → Prop} {ca ka : Nat}
theorem gq_put (hexec : p.tables.exec = Jvm.exec) (hb : c.code = cc) {own ref C : String} {T : u_T} {N ci index : Nat} {Ts : List Cond} (hts : ∀ w ∈ Ts, w.before args s = true) (hin : ∀ w ∈ u_ws C T N, w ∈ Ts) (ty0 : Nat → FieldType) (hty : ∀ k, k < N → parseFieldDescriptor (T k).2.2.1 = some (ty0 k)) (hnm : ∀ a, a < N → ∀ b, b < N → a ≠ b → (T a).2.1 ≠ (T b).2.1) (hown : s.vm.findClass own = some m.cls) (hK : va_K D cl tys s) (hH : gq_H D cl vd ad pp H) (hI : gq_I vd ad) (hA : ∀ q, gq_A vd ad q → A q) (hv0 : vd ca ka) {fs : List Value} (he : pp ca ka = .inr (ci, fs)) (hc : cl[ci]? = some (C, T, N)) (k : Nat) (hk : k < N) (hlink : (Cond.fieldLink own index ref (T k).2.1 (T k).2.2.1).before args s = true) (hsame : ∀ x, s.fieldFound? (T k).1 (T k).2.1 (T k).2.2.1 = some x → s.fieldFound? ref (T k).2.1 (T k).2.2.1 = some x) (hfin : (T k).2.2.2 = false) {ty : FieldType} {v : Value} (hd : parseFieldDescriptor (T k).2.2.1 = some ty) (hn : narrow ty v = v) (hfit : fits ty v = true) (hl : k < fs.length)
    (hw : pp' ca ka = .inr (ci, fs.set k v)) (ho : ∀ c' k', vd c' k' → ¬ (c' = ca ∧ k' = ka) → pp' c' k' = pp c' k') (hS0 : va_S A H0 H locs) (hdg : decode cc pc = .ok (.putfield index, 3)) (kk : ∀ (H1 : Heap) (locs1 : List Loc), gq_H D cl vd ad pp' H1 → va_S A H0 H1 locs1 → W p l e R s m args below meth c H1 locs1 cells slots Q (F0 m (pc + 3) ls rest)) : W p l e R s m args below meth c H locs cells slots Q (F0 m pc ls (v :: .ref (ad ca ka) :: rest)) := by
  have hap := va_apart (own := own) hts hin ty0 hty hnm hK hc
  have h00 := hH ca ka hv0
  rw [he] at h00
  obtain ⟨r, h1, cell, q1, q2, q3, q4⟩ := h00
  have hr : r = (C, T, N) := Option.some.inj (h1.symm.trans hc)
  subst hr
  obtain ⟨hS, hfc, kC, hkC, hkind⟩ := hK.1 ci _ hc
  obtain ⟨cf, kf, fi, f, hi, hsl⟩ := hS k hk
  have hlay := hts _ (hin _ (u_in_lay hk))
  unfold u_lay at hlay
  rw [if_neg (by rw [hfin]; decide)] at hlay
  have hst := (u_facts hfc hkC (u_lays hts hin hk) hi).1
  have h6 := u_store hfc hkC hkind hlay hi hd hn hfit
  refine W.putK hexec hb (f := f) ⟨hown, hlink, ⟨_, _, _, hsame _ hi⟩, hst⟩ (by rw [q2]; exact h6) q1 q3 (by rw [hsl]; exact k2_hasslot (q4 k hk)) rfl rfl hdg fun H' e1 e2 e3 => ?_
  rw [hsl] at e1 ⊢
  exact kk H' _ (gq_upd hH hI hv0 (by rw [hw]; exact ⟨_, hc, t_OB.to (V := updV (vp_V fs) k v) ⟨_, e1, q2, q3, t_set q4 hap hk v⟩ (fun j _ => vp_updV_set hl v j)⟩) ho e3) (hS0.put e2 e3 (hA _ ⟨ca, ka, hv0, rfl⟩))
theorem gq_putN (hexec : p.tables.exec = Jvm.exec) (hb : c.code = cc) {own ref C host : String} {T : u_T} {N ci index : Nat} {Ts : List Cond} (hts : ∀ w ∈ Ts, w.before args s = true) (hin : ∀ w ∈ u_ws C T N, w ∈ Ts) (ty0 : Nat → FieldType) (hty : ∀ k, k < N → parseFieldDescriptor (T k).2.2.1 = some (ty0 k)) (hnm : ∀ a, a < N → ∀ b, b < N → a ≠ b → (T a).2.1 ≠ (T b).2.1) (hown : s.vm.findClass own = some m.cls) (hK : va_K D cl tys s) (hH : gq_H D cl vd ad pp H) (hI : gq_I vd ad) (hA : ∀ q, gq_A vd ad q → A q) (hv0 : vd ca ka) {fs : List Value} (he : pp ca ka = .inr (ci, fs)) (hc : cl[ci]? = some (C, T, N)) (k : Nat) (hk : k < N) (hlink : (Cond.fieldLinkNest own index ref (T k).2.1 (T k).2.2.1 host).before args s = true) (hsame : ∀ x, s.fieldFound? (T k).1 (T k).2.1 (T k).2.2.1 = some x → s.fieldFound? ref (T k).2.1 (T k).2.2.1 = some x) (hfin : (T k).2.2.2 = false) {ty : FieldType} {v : Value} (hd : parseFieldDescriptor (T k).2.2.1 = some ty) (hn : narrow ty v = v) (hfit : fits ty v = true) (hl : k < fs.length)
    (hw : pp' ca ka = .inr (ci, fs.set k v)) (ho : ∀ c' k', vd c' k' → ¬ (c' = ca ∧ k' = ka) → pp' c' k' = pp c' k') (hS0 : va_S A H0 H locs) (hdg : decode cc pc = .ok (.putfield index, 3)) (kk : ∀ (H1 : Heap) (locs1 : List Loc), gq_H D cl vd ad pp' H1 → va_S A H0 H1 locs1 → W p l e R s m args below meth c H1 locs1 cells slots Q (F0 m (pc + 3) ls rest)) : W p l e R s m args below meth c H locs cells slots Q (F0 m pc ls (v :: .ref (ad ca ka) :: rest)) := by
  have hap := va_apart (own := own) hts hin ty0 hty hnm hK hc
  have h00 := hH ca ka hv0
  rw [he] at h00
  obtain ⟨r, h1, cell, q1, q2, q3, q4⟩ := h00
  have hr : r = (C, T, N) := Option.some.inj (h1.symm.trans hc)
  subst hr
  obtain ⟨hS, hfc, kC, hkC, hkind⟩ := hK.1 ci _ hc
  obtain ⟨cf, kf, fi, f, hi, hsl⟩ := hS k hk
  have hlay := hts _ (hin _ (u_in_lay hk))
  unfold u_lay at hlay
  rw [if_neg (by rw [hfin]; decide)] at hlay
  have hst := (u_facts hfc hkC (u_lays hts hin hk) hi).1
  have h6 := u_store hfc hkC hkind hlay hi hd hn hfit
  refine va_WputK hexec hb (f := f) hown hlink (hsame _ hi) hst (by rw [q2]; exact h6) q1 q3 (by rw [hsl]; exact k2_hasslot (q4 k hk)) rfl rfl hdg fun H' e1 e2 e3 => ?_
  rw [hsl] at e1 ⊢
  exact kk H' _ (gq_upd hH hI hv0 (by rw [hw]; exact ⟨_, hc, t_OB.to (V := updV (vp_V fs) k v) ⟨_, e1, q2, q3, t_set q4 hap hk v⟩ (fun j _ => vp_updV_set hl v j)⟩) ho e3) (hS0.put e2 e3 (hA _ ⟨ca, ka, hv0, rfl⟩))
theorem gq_iast (hexec : p.tables.exec = Jvm.exec) (hb : c.code = cc) (hK : va_K D cl tys s) (hH : gq_H D cl vd ad pp H) (hI : gq_I vd ad) (hA : ∀ q, gq_A vd ad q → A q) (hv0 : vd ca ka) {cA : ClassId} {n : Nat} {f : Nat → Int32} (he : pp ca ka = .inl (cA, n, .inl f)) (t0 : Nat) (ht : tys[t0]? = some (cA, .int)) {i x : Int32} (hin : vp_in i n)
    (hw : pp' ca ka = .inl (cA, n, .inl (upd f i.toNatClampNeg x))) (ho : ∀ c' k', vd c' k' → ¬ (c' = ca ∧ k' = ka) → pp' c' k' = pp c' k') (hS : va_S A H0 H locs) (hdg : decode cc pc = .ok (.iastore, 1))
    (kk : ∀ (H1 : Heap) (locs1 : List Loc), gq_H D cl vd ad pp' H1 → va_S A H0 H1 locs1 → W p l e R s m args below meth c H1 locs1 cells slots Q (F0 m (pc + 1) ls rest)) : W p l e R s m args below meth c H locs cells slots Q (F0 m pc ls (.int x :: .int i :: .ref (ad ca ka) :: rest)) := by
  have h00 := hH ca ka hv0
  rw [he] at h00
  refine W.iast hexec hb h00 ((hK.2 t0 _ ht).1 n (fun j => .int (f j))) (fun q => by cases q) (by show ¬ (i < 0 ∨ (arrV _ _ _).slots.size ≤ _); rw [arrV_size]; exact hin) rfl rfl hdg fun H1 e z oq => ?_
  refine kk H1 _ (gq_upd hH hI hv0 ?_ ho oq) (hS.put z oq (hA _ ⟨ca, ka, hv0, rfl⟩))
  rw [hw]
  show H1[ad ca ka]? = some (vp_cell _ _)
  rw [e]
  rw [vp_cell_i, vp_cell_i, arrV_store]
  congr 2
  funext q
  by_cases hq : q = i.toNatClampNeg
  · subst hq
    simp [updV, upd]
  · simp [updV, upd, hq]
variable {S : Type} {pcf : S → Nat → Nat → va_E} {a : Array Value}
theorem gq_calli {z : Int32 × S} (hr : va_Run p l e R s m args below meth c H locs cells slots 0 0 (F0 m pc ls st0) rest (va_Qi (fun r u => r = z.1 ∧ u = z.2) (fun u t => gq_B D cl tys vd ad (pcf u) t) (gq_A vd ad) a) (gq_A vd ad)) (hA : ∀ q, gq_A vd ad q → A q) (hS : va_S A H0 H locs)
    (kk : ∀ (H1 : Heap) (locs1 : List Loc), gq_H D cl vd ad (pcf z.2) H1 → va_S A H0 H1 locs1 → W p l e R s m args below meth c H1 locs1 cells slots Q (F0 m (pc + 3) ls (.int z.1 :: rest))) : W p l e R s m args below meth c H locs cells slots Q (F0 m pc ls st0) := by
  refine va_calli hr hS (fun q _ h => hA q h) (fun q h => hA q h) (fun r u t H1 locs1 ht hvm hw hB hz hk hS1 => ?_)
  obtain ⟨rfl, rfl⟩ := hw
  exact kk H1 locs1 (by rw [← ht]; exact hB.1) hS1
theorem gq_calll {z : Int64 × S} (hr : va_Run p l e R s m args below meth c H locs cells slots 0 0 (F0 m pc ls st0) rest (va_Ql (fun r u => r = z.1 ∧ u = z.2) (fun u t => gq_B D cl tys vd ad (pcf u) t) (gq_A vd ad) a) (gq_A vd ad)) (hA : ∀ q, gq_A vd ad q → A q) (hS : va_S A H0 H locs)
    (kk : ∀ (H1 : Heap) (locs1 : List Loc), gq_H D cl vd ad (pcf z.2) H1 → va_S A H0 H1 locs1 → W p l e R s m args below meth c H1 locs1 cells slots Q (F0 m (pc + 3) ls (.long z.1 :: rest))) : W p l e R s m args below meth c H locs cells slots Q (F0 m pc ls st0) := by
  refine va_calll hr hS (fun q _ h => hA q h) (fun q h => hA q h) (fun r u t H1 locs1 ht hvm hw hB hz hk hS1 => ?_)
  obtain ⟨rfl, rfl⟩ := hw
  exact kk H1 locs1 (by rw [← ht]; exact hB.1) hS1
theorem gq_calle {adr : Nat → Nat} {z : Option Nat × S} (hr : va_Run p l e R s m args below meth c H locs cells slots 0 0 (F0 m pc ls st0) rest (va_Qe adr (fun r u => r = z.1 ∧ u = z.2) (fun u t => gq_B D cl tys vd ad (pcf u) t) (gq_A vd ad) a) (gq_A vd ad)) (hA : ∀ q, gq_A vd ad q → A q) (hS : va_S A H0 H locs)
    (kk : ∀ (H1 : Heap) (locs1 : List Loc), gq_H D cl vd ad (pcf z.2) H1 → va_S A H0 H1 locs1 → W p l e R s m args below meth c H1 locs1 cells slots Q (F0 m (pc + 3) ls (va_re adr z.1 :: rest))) : W p l e R s m args below meth c H locs cells slots Q (F0 m pc ls st0) := by
  refine va_calle hr hS (fun q _ h => hA q h) (fun q h => hA q h) (fun r u t H1 locs1 ht hvm hw hB hz hk hS1 => ?_)
  obtain ⟨rfl, rfl⟩ := hw
  exact kk H1 locs1 (by rw [← ht]; exact hB.1) hS1
theorem gq_callv {z : S} (hr : va_Run p l e R s m args below meth c H locs cells slots 0 0 (F0 m pc ls st0) rest (va_Qv (fun u => u = z) (fun u t => gq_B D cl tys vd ad (pcf u) t) (gq_A vd ad) a) (gq_A vd ad)) (hA : ∀ q, gq_A vd ad q → A q) (hS : va_S A H0 H locs)
    (kk : ∀ (H1 : Heap) (locs1 : List Loc), gq_H D cl vd ad (pcf z) H1 → va_S A H0 H1 locs1 → W p l e R s m args below meth c H1 locs1 cells slots Q (F0 m (pc + 3) ls rest)) : W p l e R s m args below meth c H locs cells slots Q (F0 m pc ls st0) := by
  refine va_callv hr hS (fun q _ h => hA q h) (fun q h => hA q h) (fun u t H1 locs1 ht hvm hw hB hz hk hS1 => ?_)
  subst hw
  exact kk H1 locs1 (by rw [← ht]; exact hB.1) hS1
theorem gj_tab (hexec : p.tables.exec = Jvm.exec) (hb : c.code = cc) {dflt lo hi : Int} {offs : Array Int} {len : Nat} {x k : Int32} {off : Int} {tgt : Nat} (hx : x = k) (hdg : decode cc pc = .ok (.tableswitch dflt lo hi offs, len)) (h1 : ¬ k.toInt < lo) (h2 : ¬ hi < k.toInt) (ho : offs[(k.toInt - lo).toNat]? = some off) (ht : (pc : Int) + off = (tgt : Int))
    (kk : W p l e R s m args below meth c H locs cells slots Q (F0 m tgt ls rest)) : W p l e R s m args below meth c H locs cells slots Q (F0 m pc ls (.int x :: rest)) := by
  subst hx
  exact lv_tableIn hexec hb hdg h1 h2 ho ht kk
end GQ
/-! pure pieces of the method functions -/
abbrev gj_in (i : Int32) (n : Nat) : Prop := ¬ (i < 0 ∨ n ≤ i.toNatClampNeg)
theorem gj_in_lt {i : Int32} {n : Nat} (h : gj_in i n) : i.toNatClampNeg < n := Nat.not_le.mp (fun q => h (Or.inr q))
theorem gj_t {α : Type} {c : Prop} [Decidable c] {a b z : α} (h : c) (hf : ite c a b = z) : a = z := (if_pos h).symm.trans hf
theorem gj_e {α : Type} {c : Prop} [Decidable c] {a b z : α} (h : ¬ c) (hf : ite c a b = z) : b = z := (if_neg h).symm.trans hf
theorem gj_g {α : Type} {c : Prop} [Decidable c] {a : Option α} {z : α} (hf : ite c a none = some z) : c ∧ a = some z := by
  by_cases h : c
  · exact ⟨h, gj_t h hf⟩
  · exact absurd (gj_e h hf) (by simp)
def gj_lushr (x : Int64) (y : Int32) : Int64 := (x.toUInt64 >>> (y.toInt64.toUInt64 &&& Int64.toUInt64 63)).toInt64
def gj_lshl (x : Int64) (y : Int32) : Int64 := x <<< (y.toInt64 &&& 63)
def gj_iushr (x y : Int32) : Int32 := (x.toUInt32 >>> (y.toUInt32 &&& Int32.toUInt32 31)).toInt32

