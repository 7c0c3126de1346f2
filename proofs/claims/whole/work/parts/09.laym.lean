/-! the layout gm: cells and the typed state -/
abbrev gm_St : Type := (Nat → Nat → Int32) × (Nat → Nat → Int64)
def gm_sI (u : gm_St) (c k : Nat) (v : Int32) : gm_St := (fun a b => if a = c ∧ b = k then v else u.1 a b, u.2)
def gm_sL (u : gm_St) (c k : Nat) (v : Int64) : gm_St := (u.1, fun a b => if a = c ∧ b = k then v else u.2 a b)
def gm_vd : Nat → Nat → Prop
  | 0, k => k = 0
  | 1, k => k = 0
  | 2, k => k = 0
  | 3, k => k = 0
  | 4, k => k = 0
  | 5, k => k = 0
  | 6, k => k = 0
  | 7, k => k = 0
  | 8, k => k = 0
  | 9, k => k = 0
  | 10, k => k = 0
  | 11, k => k = 0
  | _, _ => False
def gm_pc (cI cZ : ClassId) (ad : Nat → Nat → Nat) (u : gm_St) : Nat → Nat → va_E
  | 0, _ => .inr (4, [.int (u.1 0 0), .ref (ad 1 0), .ref (ad 2 0), .ref (ad 3 0), .ref (ad 4 0), .ref (ad 5 0), .ref (ad 6 0), .int (u.1 12 0), .ref (ad 7 0), .int (u.1 13 0), .ref (ad 8 0), .int (u.1 14 0), .int (u.1 15 0), .ref (ad 9 0), .ref (ad 10 0), .ref (ad 11 0)])
  | 1, _ => .inl (cI, 16, .inl (u.1 1))
  | 2, _ => .inl (cZ, 100, .inl (u.1 2))
  | 3, _ => .inl (cI, 100, .inl (u.1 3))
  | 4, _ => .inl (cI, 100, .inl (u.1 4))
  | 5, _ => .inl (cI, 100, .inl (u.1 5))
  | 6, _ => .inl (cI, 1600, .inl (u.1 6))
  | 7, _ => .inl (cI, 101, .inl (u.1 7))
  | 8, _ => .inl (cI, 102, .inl (u.1 8))
  | 9, _ => .inl (cI, 6, .inl (u.1 9))
  | 10, _ => .inl (cZ, 600, .inl (u.1 10))
  | 11, _ => .inl (cI, 100, .inl (u.1 11))
  | _, _ => .inr (0, [])
theorem gm_c0 (cI cZ : ClassId) (ad : Nat → Nat → Nat) (u : gm_St) : gm_pc cI cZ ad u 0 0 = .inr (4, [.int (u.1 0 0), .ref (ad 1 0), .ref (ad 2 0), .ref (ad 3 0), .ref (ad 4 0), .ref (ad 5 0), .ref (ad 6 0), .int (u.1 12 0), .ref (ad 7 0), .int (u.1 13 0), .ref (ad 8 0), .int (u.1 14 0), .int (u.1 15 0), .ref (ad 9 0), .ref (ad 10 0), .ref (ad 11 0)]) := rfl
theorem gm_c1 (cI cZ : ClassId) (ad : Nat → Nat → Nat) (u : gm_St) : gm_pc cI cZ ad u 1 0 = .inl (cI, 16, .inl (u.1 1)) := rfl
theorem gm_c2 (cI cZ : ClassId) (ad : Nat → Nat → Nat) (u : gm_St) : gm_pc cI cZ ad u 2 0 = .inl (cZ, 100, .inl (u.1 2)) := rfl
theorem gm_c3 (cI cZ : ClassId) (ad : Nat → Nat → Nat) (u : gm_St) : gm_pc cI cZ ad u 3 0 = .inl (cI, 100, .inl (u.1 3)) := rfl
theorem gm_c4 (cI cZ : ClassId) (ad : Nat → Nat → Nat) (u : gm_St) : gm_pc cI cZ ad u 4 0 = .inl (cI, 100, .inl (u.1 4)) := rfl
theorem gm_c5 (cI cZ : ClassId) (ad : Nat → Nat → Nat) (u : gm_St) : gm_pc cI cZ ad u 5 0 = .inl (cI, 100, .inl (u.1 5)) := rfl
theorem gm_c6 (cI cZ : ClassId) (ad : Nat → Nat → Nat) (u : gm_St) : gm_pc cI cZ ad u 6 0 = .inl (cI, 1600, .inl (u.1 6)) := rfl
theorem gm_c7 (cI cZ : ClassId) (ad : Nat → Nat → Nat) (u : gm_St) : gm_pc cI cZ ad u 7 0 = .inl (cI, 101, .inl (u.1 7)) := rfl
theorem gm_c8 (cI cZ : ClassId) (ad : Nat → Nat → Nat) (u : gm_St) : gm_pc cI cZ ad u 8 0 = .inl (cI, 102, .inl (u.1 8)) := rfl
theorem gm_c9 (cI cZ : ClassId) (ad : Nat → Nat → Nat) (u : gm_St) : gm_pc cI cZ ad u 9 0 = .inl (cI, 6, .inl (u.1 9)) := rfl
theorem gm_c10 (cI cZ : ClassId) (ad : Nat → Nat → Nat) (u : gm_St) : gm_pc cI cZ ad u 10 0 = .inl (cZ, 600, .inl (u.1 10)) := rfl
theorem gm_c11 (cI cZ : ClassId) (ad : Nat → Nat → Nat) (u : gm_St) : gm_pc cI cZ ad u 11 0 = .inl (cI, 100, .inl (u.1 11)) := rfl
theorem gm_w0 (cI cZ : ClassId) (ad : Nat → Nat → Nat) (u : gm_St) (v : Int32) : gm_pc cI cZ ad (gm_sI u 0 0 v) 0 0 = .inr (4, [.int v, .ref (ad 1 0), .ref (ad 2 0), .ref (ad 3 0), .ref (ad 4 0), .ref (ad 5 0), .ref (ad 6 0), .int (u.1 12 0), .ref (ad 7 0), .int (u.1 13 0), .ref (ad 8 0), .int (u.1 14 0), .int (u.1 15 0), .ref (ad 9 0), .ref (ad 10 0), .ref (ad 11 0)]) := by simp [gm_pc, gm_sI]
theorem gm_o0 (cI cZ : ClassId) (ad : Nat → Nat → Nat) (u : gm_St) (v : Int32) : ∀ c' k', gm_vd c' k' → ¬ (c' = 0 ∧ k' = 0) → gm_pc cI cZ ad (gm_sI u 0 0 v) c' k' = gm_pc cI cZ ad u c' k' := by
  intro c' k' hv h
  unfold gm_pc gm_sI
  split <;> simp_all [gm_vd]
theorem gm_w12 (cI cZ : ClassId) (ad : Nat → Nat → Nat) (u : gm_St) (v : Int32) : gm_pc cI cZ ad (gm_sI u 12 0 v) 0 0 = .inr (4, [.int (u.1 0 0), .ref (ad 1 0), .ref (ad 2 0), .ref (ad 3 0), .ref (ad 4 0), .ref (ad 5 0), .ref (ad 6 0), .int v, .ref (ad 7 0), .int (u.1 13 0), .ref (ad 8 0), .int (u.1 14 0), .int (u.1 15 0), .ref (ad 9 0), .ref (ad 10 0), .ref (ad 11 0)]) := by simp [gm_pc, gm_sI]
theorem gm_o12 (cI cZ : ClassId) (ad : Nat → Nat → Nat) (u : gm_St) (v : Int32) : ∀ c' k', gm_vd c' k' → ¬ (c' = 0 ∧ k' = 0) → gm_pc cI cZ ad (gm_sI u 12 0 v) c' k' = gm_pc cI cZ ad u c' k' := by
  intro c' k' hv h
  unfold gm_pc gm_sI
  split <;> simp_all [gm_vd]
theorem gm_w13 (cI cZ : ClassId) (ad : Nat → Nat → Nat) (u : gm_St) (v : Int32) : gm_pc cI cZ ad (gm_sI u 13 0 v) 0 0 = .inr (4, [.int (u.1 0 0), .ref (ad 1 0), .ref (ad 2 0), .ref (ad 3 0), .ref (ad 4 0), .ref (ad 5 0), .ref (ad 6 0), .int (u.1 12 0), .ref (ad 7 0), .int v, .ref (ad 8 0), .int (u.1 14 0), .int (u.1 15 0), .ref (ad 9 0), .ref (ad 10 0), .ref (ad 11 0)]) := by simp [gm_pc, gm_sI]
theorem gm_o13 (cI cZ : ClassId) (ad : Nat → Nat → Nat) (u : gm_St) (v : Int32) : ∀ c' k', gm_vd c' k' → ¬ (c' = 0 ∧ k' = 0) → gm_pc cI cZ ad (gm_sI u 13 0 v) c' k' = gm_pc cI cZ ad u c' k' := by
  intro c' k' hv h
  unfold gm_pc gm_sI
  split <;> simp_all [gm_vd]
theorem gm_w14 (cI cZ : ClassId) (ad : Nat → Nat → Nat) (u : gm_St) (v : Int32) : gm_pc cI cZ ad (gm_sI u 14 0 v) 0 0 = .inr (4, [.int (u.1 0 0), .ref (ad 1 0), .ref (ad 2 0), .ref (ad 3 0), .ref (ad 4 0), .ref (ad 5 0), .ref (ad 6 0), .int (u.1 12 0), .ref (ad 7 0), .int (u.1 13 0), .ref (ad 8 0), .int v, .int (u.1 15 0), .ref (ad 9 0), .ref (ad 10 0), .ref (ad 11 0)]) := by simp [gm_pc, gm_sI]
theorem gm_o14 (cI cZ : ClassId) (ad : Nat → Nat → Nat) (u : gm_St) (v : Int32) : ∀ c' k', gm_vd c' k' → ¬ (c' = 0 ∧ k' = 0) → gm_pc cI cZ ad (gm_sI u 14 0 v) c' k' = gm_pc cI cZ ad u c' k' := by
  intro c' k' hv h
  unfold gm_pc gm_sI
  split <;> simp_all [gm_vd]
theorem gm_w15 (cI cZ : ClassId) (ad : Nat → Nat → Nat) (u : gm_St) (v : Int32) : gm_pc cI cZ ad (gm_sI u 15 0 v) 0 0 = .inr (4, [.int (u.1 0 0), .ref (ad 1 0), .ref (ad 2 0), .ref (ad 3 0), .ref (ad 4 0), .ref (ad 5 0), .ref (ad 6 0), .int (u.1 12 0), .ref (ad 7 0), .int (u.1 13 0), .ref (ad 8 0), .int (u.1 14 0), .int v, .ref (ad 9 0), .ref (ad 10 0), .ref (ad 11 0)]) := by simp [gm_pc, gm_sI]
theorem gm_o15 (cI cZ : ClassId) (ad : Nat → Nat → Nat) (u : gm_St) (v : Int32) : ∀ c' k', gm_vd c' k' → ¬ (c' = 0 ∧ k' = 0) → gm_pc cI cZ ad (gm_sI u 15 0 v) c' k' = gm_pc cI cZ ad u c' k' := by
  intro c' k' hv h
  unfold gm_pc gm_sI
  split <;> simp_all [gm_vd]
theorem gm_w1 (cI cZ : ClassId) (ad : Nat → Nat → Nat) (u : gm_St) (j : Nat) (v : Int32) : gm_pc cI cZ ad (gm_sI u 1 j v) 1 0 = .inl (cI, 16, .inl (upd (u.1 1) j v)) := by
  simp only [gm_pc, gm_sI, true_and]
  rfl
theorem gm_o1 (cI cZ : ClassId) (ad : Nat → Nat → Nat) (u : gm_St) (j : Nat) (v : Int32) : ∀ c' k', gm_vd c' k' → ¬ (c' = 1 ∧ k' = 0) → gm_pc cI cZ ad (gm_sI u 1 j v) c' k' = gm_pc cI cZ ad u c' k' := by
  intro c' k' hv h
  unfold gm_pc gm_sI
  split <;> simp_all [gm_vd]
theorem gm_w2 (cI cZ : ClassId) (ad : Nat → Nat → Nat) (u : gm_St) (j : Nat) (v : Int32) : gm_pc cI cZ ad (gm_sI u 2 j v) 2 0 = .inl (cZ, 100, .inl (upd (u.1 2) j v)) := by
  simp only [gm_pc, gm_sI, true_and]
  rfl
theorem gm_o2 (cI cZ : ClassId) (ad : Nat → Nat → Nat) (u : gm_St) (j : Nat) (v : Int32) : ∀ c' k', gm_vd c' k' → ¬ (c' = 2 ∧ k' = 0) → gm_pc cI cZ ad (gm_sI u 2 j v) c' k' = gm_pc cI cZ ad u c' k' := by
  intro c' k' hv h
  unfold gm_pc gm_sI
  split <;> simp_all [gm_vd]
theorem gm_w3 (cI cZ : ClassId) (ad : Nat → Nat → Nat) (u : gm_St) (j : Nat) (v : Int32) : gm_pc cI cZ ad (gm_sI u 3 j v) 3 0 = .inl (cI, 100, .inl (upd (u.1 3) j v)) := by
  simp only [gm_pc, gm_sI, true_and]
  rfl
theorem gm_o3 (cI cZ : ClassId) (ad : Nat → Nat → Nat) (u : gm_St) (j : Nat) (v : Int32) : ∀ c' k', gm_vd c' k' → ¬ (c' = 3 ∧ k' = 0) → gm_pc cI cZ ad (gm_sI u 3 j v) c' k' = gm_pc cI cZ ad u c' k' := by
  intro c' k' hv h
  unfold gm_pc gm_sI
  split <;> simp_all [gm_vd]
theorem gm_w4 (cI cZ : ClassId) (ad : Nat → Nat → Nat) (u : gm_St) (j : Nat) (v : Int32) : gm_pc cI cZ ad (gm_sI u 4 j v) 4 0 = .inl (cI, 100, .inl (upd (u.1 4) j v)) := by
  simp only [gm_pc, gm_sI, true_and]
  rfl
theorem gm_o4 (cI cZ : ClassId) (ad : Nat → Nat → Nat) (u : gm_St) (j : Nat) (v : Int32) : ∀ c' k', gm_vd c' k' → ¬ (c' = 4 ∧ k' = 0) → gm_pc cI cZ ad (gm_sI u 4 j v) c' k' = gm_pc cI cZ ad u c' k' := by
  intro c' k' hv h
  unfold gm_pc gm_sI
  split <;> simp_all [gm_vd]
theorem gm_w5 (cI cZ : ClassId) (ad : Nat → Nat → Nat) (u : gm_St) (j : Nat) (v : Int32) : gm_pc cI cZ ad (gm_sI u 5 j v) 5 0 = .inl (cI, 100, .inl (upd (u.1 5) j v)) := by
  simp only [gm_pc, gm_sI, true_and]
  rfl
theorem gm_o5 (cI cZ : ClassId) (ad : Nat → Nat → Nat) (u : gm_St) (j : Nat) (v : Int32) : ∀ c' k', gm_vd c' k' → ¬ (c' = 5 ∧ k' = 0) → gm_pc cI cZ ad (gm_sI u 5 j v) c' k' = gm_pc cI cZ ad u c' k' := by
  intro c' k' hv h
  unfold gm_pc gm_sI
  split <;> simp_all [gm_vd]
theorem gm_w6 (cI cZ : ClassId) (ad : Nat → Nat → Nat) (u : gm_St) (j : Nat) (v : Int32) : gm_pc cI cZ ad (gm_sI u 6 j v) 6 0 = .inl (cI, 1600, .inl (upd (u.1 6) j v)) := by
  simp only [gm_pc, gm_sI, true_and]
  rfl
theorem gm_o6 (cI cZ : ClassId) (ad : Nat → Nat → Nat) (u : gm_St) (j : Nat) (v : Int32) : ∀ c' k', gm_vd c' k' → ¬ (c' = 6 ∧ k' = 0) → gm_pc cI cZ ad (gm_sI u 6 j v) c' k' = gm_pc cI cZ ad u c' k' := by
  intro c' k' hv h
  unfold gm_pc gm_sI
  split <;> simp_all [gm_vd]
theorem gm_w7 (cI cZ : ClassId) (ad : Nat → Nat → Nat) (u : gm_St) (j : Nat) (v : Int32) : gm_pc cI cZ ad (gm_sI u 7 j v) 7 0 = .inl (cI, 101, .inl (upd (u.1 7) j v)) := by
  simp only [gm_pc, gm_sI, true_and]
  rfl
theorem gm_o7 (cI cZ : ClassId) (ad : Nat → Nat → Nat) (u : gm_St) (j : Nat) (v : Int32) : ∀ c' k', gm_vd c' k' → ¬ (c' = 7 ∧ k' = 0) → gm_pc cI cZ ad (gm_sI u 7 j v) c' k' = gm_pc cI cZ ad u c' k' := by
  intro c' k' hv h
  unfold gm_pc gm_sI
  split <;> simp_all [gm_vd]
theorem gm_w8 (cI cZ : ClassId) (ad : Nat → Nat → Nat) (u : gm_St) (j : Nat) (v : Int32) : gm_pc cI cZ ad (gm_sI u 8 j v) 8 0 = .inl (cI, 102, .inl (upd (u.1 8) j v)) := by
  simp only [gm_pc, gm_sI, true_and]
  rfl
theorem gm_o8 (cI cZ : ClassId) (ad : Nat → Nat → Nat) (u : gm_St) (j : Nat) (v : Int32) : ∀ c' k', gm_vd c' k' → ¬ (c' = 8 ∧ k' = 0) → gm_pc cI cZ ad (gm_sI u 8 j v) c' k' = gm_pc cI cZ ad u c' k' := by
  intro c' k' hv h
  unfold gm_pc gm_sI
  split <;> simp_all [gm_vd]
theorem gm_w9 (cI cZ : ClassId) (ad : Nat → Nat → Nat) (u : gm_St) (j : Nat) (v : Int32) : gm_pc cI cZ ad (gm_sI u 9 j v) 9 0 = .inl (cI, 6, .inl (upd (u.1 9) j v)) := by
  simp only [gm_pc, gm_sI, true_and]
  rfl
theorem gm_o9 (cI cZ : ClassId) (ad : Nat → Nat → Nat) (u : gm_St) (j : Nat) (v : Int32) : ∀ c' k', gm_vd c' k' → ¬ (c' = 9 ∧ k' = 0) → gm_pc cI cZ ad (gm_sI u 9 j v) c' k' = gm_pc cI cZ ad u c' k' := by
  intro c' k' hv h
  unfold gm_pc gm_sI
  split <;> simp_all [gm_vd]
theorem gm_w10 (cI cZ : ClassId) (ad : Nat → Nat → Nat) (u : gm_St) (j : Nat) (v : Int32) : gm_pc cI cZ ad (gm_sI u 10 j v) 10 0 = .inl (cZ, 600, .inl (upd (u.1 10) j v)) := by
  simp only [gm_pc, gm_sI, true_and]
  rfl
theorem gm_o10 (cI cZ : ClassId) (ad : Nat → Nat → Nat) (u : gm_St) (j : Nat) (v : Int32) : ∀ c' k', gm_vd c' k' → ¬ (c' = 10 ∧ k' = 0) → gm_pc cI cZ ad (gm_sI u 10 j v) c' k' = gm_pc cI cZ ad u c' k' := by
  intro c' k' hv h
  unfold gm_pc gm_sI
  split <;> simp_all [gm_vd]
theorem gm_w11 (cI cZ : ClassId) (ad : Nat → Nat → Nat) (u : gm_St) (j : Nat) (v : Int32) : gm_pc cI cZ ad (gm_sI u 11 j v) 11 0 = .inl (cI, 100, .inl (upd (u.1 11) j v)) := by
  simp only [gm_pc, gm_sI, true_and]
  rfl
theorem gm_o11 (cI cZ : ClassId) (ad : Nat → Nat → Nat) (u : gm_St) (j : Nat) (v : Int32) : ∀ c' k', gm_vd c' k' → ¬ (c' = 11 ∧ k' = 0) → gm_pc cI cZ ad (gm_sI u 11 j v) c' k' = gm_pc cI cZ ad u c' k' := by
  intro c' k' hv h
  unfold gm_pc gm_sI
  split <;> simp_all [gm_vd]

abbrev gm_NF : List (String × Nat × String × String × String × String) := []
abbrev gm_NM : List (String × Nat × MethodName × String) := []
abbrev gm_tys (cI cZ : ClassId) : List (ClassId × FieldType) := [(cI, .int), (cZ, .boolean)]
def gm_fu : Nat := 2000
