/-! the layout gk: cells and the typed state -/
abbrev gk_St : Type := (Nat → Nat → Int32) × (Nat → Nat → Int64)
def gk_sI (u : gk_St) (c k : Nat) (v : Int32) : gk_St := (fun a b => if a = c ∧ b = k then v else u.1 a b, u.2)
def gk_sL (u : gk_St) (c k : Nat) (v : Int64) : gk_St := (u.1, fun a b => if a = c ∧ b = k then v else u.2 a b)
def gk_vd : Nat → Nat → Prop
  | 0, k => k = 0
  | 1, k => k = 0
  | 2, k => k = 0
  | 3, k => k = 0
  | 4, k => k = 0
  | 5, k => k = 0
  | 6, k => k ≤ 100
  | 7, k => k < 100
  | _, _ => False
def gk_pc (cI cT : ClassId) (ad : Nat → Nat → Nat) (u : gk_St) : Nat → Nat → va_E
  | 0, _ => .inr (0, [.ref (ad 6 100), .ref (ad 1 0), .ref (ad 2 0), .ref (ad 5 0), .int (u.1 10 0)])
  | 1, _ => .inl (cT, 100, .inr (.inr (.inr (.inr (fun j => some (ad 7 j))))))
  | 2, _ => .inr (1, [.ref (ad 3 0), .int (u.1 6 0), .ref (ad 4 0), .int (u.1 8 0)])
  | 3, _ => .inl (cI, 100, .inl (u.1 5))
  | 4, _ => .inl (cI, 100, .inl (u.1 7))
  | 5, _ => .inl (cI, 6, .inl (u.1 9))
  | 6, k => .inr (2, [.long (u.2 0 k), .long (u.2 1 k), .int (u.1 0 k)])
  | 7, k => .inr (3, [.ref (ad 6 k), .int (u.1 1 k), .int (u.1 2 k), .int (u.1 3 k), .int (u.1 4 k)])
  | _, _ => .inr (0, [])
theorem gk_c0 (cI cT : ClassId) (ad : Nat → Nat → Nat) (u : gk_St) : gk_pc cI cT ad u 0 0 = .inr (0, [.ref (ad 6 100), .ref (ad 1 0), .ref (ad 2 0), .ref (ad 5 0), .int (u.1 10 0)]) := rfl
theorem gk_c1 (cI cT : ClassId) (ad : Nat → Nat → Nat) (u : gk_St) : gk_pc cI cT ad u 1 0 = .inl (cT, 100, .inr (.inr (.inr (.inr (fun j => some (ad 7 j)))))) := rfl
theorem gk_c2 (cI cT : ClassId) (ad : Nat → Nat → Nat) (u : gk_St) : gk_pc cI cT ad u 2 0 = .inr (1, [.ref (ad 3 0), .int (u.1 6 0), .ref (ad 4 0), .int (u.1 8 0)]) := rfl
theorem gk_c3 (cI cT : ClassId) (ad : Nat → Nat → Nat) (u : gk_St) : gk_pc cI cT ad u 3 0 = .inl (cI, 100, .inl (u.1 5)) := rfl
theorem gk_c4 (cI cT : ClassId) (ad : Nat → Nat → Nat) (u : gk_St) : gk_pc cI cT ad u 4 0 = .inl (cI, 100, .inl (u.1 7)) := rfl
theorem gk_c5 (cI cT : ClassId) (ad : Nat → Nat → Nat) (u : gk_St) : gk_pc cI cT ad u 5 0 = .inl (cI, 6, .inl (u.1 9)) := rfl
theorem gk_c6 (cI cT : ClassId) (ad : Nat → Nat → Nat) (u : gk_St) (k : Nat) : gk_pc cI cT ad u 6 k = .inr (2, [.long (u.2 0 k), .long (u.2 1 k), .int (u.1 0 k)]) := rfl
theorem gk_c7 (cI cT : ClassId) (ad : Nat → Nat → Nat) (u : gk_St) (k : Nat) : gk_pc cI cT ad u 7 k = .inr (3, [.ref (ad 6 k), .int (u.1 1 k), .int (u.1 2 k), .int (u.1 3 k), .int (u.1 4 k)]) := rfl
theorem gk_w10 (cI cT : ClassId) (ad : Nat → Nat → Nat) (u : gk_St) (v : Int32) : gk_pc cI cT ad (gk_sI u 10 0 v) 0 0 = .inr (0, [.ref (ad 6 100), .ref (ad 1 0), .ref (ad 2 0), .ref (ad 5 0), .int v]) := by simp [gk_pc, gk_sI]
theorem gk_o10 (cI cT : ClassId) (ad : Nat → Nat → Nat) (u : gk_St) (v : Int32) : ∀ c' k', gk_vd c' k' → ¬ (c' = 0 ∧ k' = 0) → gk_pc cI cT ad (gk_sI u 10 0 v) c' k' = gk_pc cI cT ad u c' k' := by
  intro c' k' hv h
  unfold gk_pc gk_sI
  split <;> simp_all [gk_vd]
theorem gk_w6 (cI cT : ClassId) (ad : Nat → Nat → Nat) (u : gk_St) (v : Int32) : gk_pc cI cT ad (gk_sI u 6 0 v) 2 0 = .inr (1, [.ref (ad 3 0), .int v, .ref (ad 4 0), .int (u.1 8 0)]) := by simp [gk_pc, gk_sI]
theorem gk_o6 (cI cT : ClassId) (ad : Nat → Nat → Nat) (u : gk_St) (v : Int32) : ∀ c' k', gk_vd c' k' → ¬ (c' = 2 ∧ k' = 0) → gk_pc cI cT ad (gk_sI u 6 0 v) c' k' = gk_pc cI cT ad u c' k' := by
  intro c' k' hv h
  unfold gk_pc gk_sI
  split <;> simp_all [gk_vd]
theorem gk_w8 (cI cT : ClassId) (ad : Nat → Nat → Nat) (u : gk_St) (v : Int32) : gk_pc cI cT ad (gk_sI u 8 0 v) 2 0 = .inr (1, [.ref (ad 3 0), .int (u.1 6 0), .ref (ad 4 0), .int v]) := by simp [gk_pc, gk_sI]
theorem gk_o8 (cI cT : ClassId) (ad : Nat → Nat → Nat) (u : gk_St) (v : Int32) : ∀ c' k', gk_vd c' k' → ¬ (c' = 2 ∧ k' = 0) → gk_pc cI cT ad (gk_sI u 8 0 v) c' k' = gk_pc cI cT ad u c' k' := by
  intro c' k' hv h
  unfold gk_pc gk_sI
  split <;> simp_all [gk_vd]
theorem gk_w5 (cI cT : ClassId) (ad : Nat → Nat → Nat) (u : gk_St) (j : Nat) (v : Int32) : gk_pc cI cT ad (gk_sI u 5 j v) 3 0 = .inl (cI, 100, .inl (upd (u.1 5) j v)) := by
  simp only [gk_pc, gk_sI, true_and]
  rfl
theorem gk_o5 (cI cT : ClassId) (ad : Nat → Nat → Nat) (u : gk_St) (j : Nat) (v : Int32) : ∀ c' k', gk_vd c' k' → ¬ (c' = 3 ∧ k' = 0) → gk_pc cI cT ad (gk_sI u 5 j v) c' k' = gk_pc cI cT ad u c' k' := by
  intro c' k' hv h
  unfold gk_pc gk_sI
  split <;> simp_all [gk_vd]
theorem gk_w7 (cI cT : ClassId) (ad : Nat → Nat → Nat) (u : gk_St) (j : Nat) (v : Int32) : gk_pc cI cT ad (gk_sI u 7 j v) 4 0 = .inl (cI, 100, .inl (upd (u.1 7) j v)) := by
  simp only [gk_pc, gk_sI, true_and]
  rfl
theorem gk_o7 (cI cT : ClassId) (ad : Nat → Nat → Nat) (u : gk_St) (j : Nat) (v : Int32) : ∀ c' k', gk_vd c' k' → ¬ (c' = 4 ∧ k' = 0) → gk_pc cI cT ad (gk_sI u 7 j v) c' k' = gk_pc cI cT ad u c' k' := by
  intro c' k' hv h
  unfold gk_pc gk_sI
  split <;> simp_all [gk_vd]
theorem gk_w9 (cI cT : ClassId) (ad : Nat → Nat → Nat) (u : gk_St) (j : Nat) (v : Int32) : gk_pc cI cT ad (gk_sI u 9 j v) 5 0 = .inl (cI, 6, .inl (upd (u.1 9) j v)) := by
  simp only [gk_pc, gk_sI, true_and]
  rfl
theorem gk_o9 (cI cT : ClassId) (ad : Nat → Nat → Nat) (u : gk_St) (j : Nat) (v : Int32) : ∀ c' k', gk_vd c' k' → ¬ (c' = 5 ∧ k' = 0) → gk_pc cI cT ad (gk_sI u 9 j v) c' k' = gk_pc cI cT ad u c' k' := by
  intro c' k' hv h
  unfold gk_pc gk_sI
  split <;> simp_all [gk_vd]
theorem gk_w0L (cI cT : ClassId) (ad : Nat → Nat → Nat) (u : gk_St) (k : Nat) (v : Int64) : gk_pc cI cT ad (gk_sL u 0 k v) 6 k = .inr (2, [.long v, .long (u.2 1 k), .int (u.1 0 k)]) := by simp [gk_pc, gk_sL]
theorem gk_o0L (cI cT : ClassId) (ad : Nat → Nat → Nat) (u : gk_St) (k : Nat) (v : Int64) : ∀ c' k', gk_vd c' k' → ¬ (c' = 6 ∧ k' = k) → gk_pc cI cT ad (gk_sL u 0 k v) c' k' = gk_pc cI cT ad u c' k' := by
  intro c' k' hv h
  unfold gk_pc gk_sL
  split <;> simp_all [gk_vd]
theorem gk_w1L (cI cT : ClassId) (ad : Nat → Nat → Nat) (u : gk_St) (k : Nat) (v : Int64) : gk_pc cI cT ad (gk_sL u 1 k v) 6 k = .inr (2, [.long (u.2 0 k), .long v, .int (u.1 0 k)]) := by simp [gk_pc, gk_sL]
theorem gk_o1L (cI cT : ClassId) (ad : Nat → Nat → Nat) (u : gk_St) (k : Nat) (v : Int64) : ∀ c' k', gk_vd c' k' → ¬ (c' = 6 ∧ k' = k) → gk_pc cI cT ad (gk_sL u 1 k v) c' k' = gk_pc cI cT ad u c' k' := by
  intro c' k' hv h
  unfold gk_pc gk_sL
  split <;> simp_all [gk_vd]
theorem gk_w0 (cI cT : ClassId) (ad : Nat → Nat → Nat) (u : gk_St) (k : Nat) (v : Int32) : gk_pc cI cT ad (gk_sI u 0 k v) 6 k = .inr (2, [.long (u.2 0 k), .long (u.2 1 k), .int v]) := by simp [gk_pc, gk_sI]
theorem gk_o0 (cI cT : ClassId) (ad : Nat → Nat → Nat) (u : gk_St) (k : Nat) (v : Int32) : ∀ c' k', gk_vd c' k' → ¬ (c' = 6 ∧ k' = k) → gk_pc cI cT ad (gk_sI u 0 k v) c' k' = gk_pc cI cT ad u c' k' := by
  intro c' k' hv h
  unfold gk_pc gk_sI
  split <;> simp_all [gk_vd]
theorem gk_w1 (cI cT : ClassId) (ad : Nat → Nat → Nat) (u : gk_St) (k : Nat) (v : Int32) : gk_pc cI cT ad (gk_sI u 1 k v) 7 k = .inr (3, [.ref (ad 6 k), .int v, .int (u.1 2 k), .int (u.1 3 k), .int (u.1 4 k)]) := by simp [gk_pc, gk_sI]
theorem gk_o1 (cI cT : ClassId) (ad : Nat → Nat → Nat) (u : gk_St) (k : Nat) (v : Int32) : ∀ c' k', gk_vd c' k' → ¬ (c' = 7 ∧ k' = k) → gk_pc cI cT ad (gk_sI u 1 k v) c' k' = gk_pc cI cT ad u c' k' := by
  intro c' k' hv h
  unfold gk_pc gk_sI
  split <;> simp_all [gk_vd]
theorem gk_w2 (cI cT : ClassId) (ad : Nat → Nat → Nat) (u : gk_St) (k : Nat) (v : Int32) : gk_pc cI cT ad (gk_sI u 2 k v) 7 k = .inr (3, [.ref (ad 6 k), .int (u.1 1 k), .int v, .int (u.1 3 k), .int (u.1 4 k)]) := by simp [gk_pc, gk_sI]
theorem gk_o2 (cI cT : ClassId) (ad : Nat → Nat → Nat) (u : gk_St) (k : Nat) (v : Int32) : ∀ c' k', gk_vd c' k' → ¬ (c' = 7 ∧ k' = k) → gk_pc cI cT ad (gk_sI u 2 k v) c' k' = gk_pc cI cT ad u c' k' := by
  intro c' k' hv h
  unfold gk_pc gk_sI
  split <;> simp_all [gk_vd]
theorem gk_w3 (cI cT : ClassId) (ad : Nat → Nat → Nat) (u : gk_St) (k : Nat) (v : Int32) : gk_pc cI cT ad (gk_sI u 3 k v) 7 k = .inr (3, [.ref (ad 6 k), .int (u.1 1 k), .int (u.1 2 k), .int v, .int (u.1 4 k)]) := by simp [gk_pc, gk_sI]
theorem gk_o3 (cI cT : ClassId) (ad : Nat → Nat → Nat) (u : gk_St) (k : Nat) (v : Int32) : ∀ c' k', gk_vd c' k' → ¬ (c' = 7 ∧ k' = k) → gk_pc cI cT ad (gk_sI u 3 k v) c' k' = gk_pc cI cT ad u c' k' := by
  intro c' k' hv h
  unfold gk_pc gk_sI
  split <;> simp_all [gk_vd]
theorem gk_w4 (cI cT : ClassId) (ad : Nat → Nat → Nat) (u : gk_St) (k : Nat) (v : Int32) : gk_pc cI cT ad (gk_sI u 4 k v) 7 k = .inr (3, [.ref (ad 6 k), .int (u.1 1 k), .int (u.1 2 k), .int (u.1 3 k), .int v]) := by simp [gk_pc, gk_sI]
theorem gk_o4 (cI cT : ClassId) (ad : Nat → Nat → Nat) (u : gk_St) (k : Nat) (v : Int32) : ∀ c' k', gk_vd c' k' → ¬ (c' = 7 ∧ k' = k) → gk_pc cI cT ad (gk_sI u 4 k v) c' k' = gk_pc cI cT ad u c' k' := by
  intro c' k' hv h
  unfold gk_pc gk_sI
  split <;> simp_all [gk_vd]

abbrev gk_NF : List (String × Nat × String × String × String × String) := [("TermBook", 42, "TermBook$Text", "length", "I", "TermBook"), ("TermBook", 95, "TermBook$Term", "text", "LTermBook$Text;", "TermBook"), ("TermBook", 156, "TermBook$Term", "present", "Z", "TermBook"), ("TermBook", 92, "TermBook$Term", "kind", "I", "TermBook"), ("TermBook", 68, "TermBook$Term", "uses", "I", "TermBook"), ("TermBook", 142, "TermBook$Leaves", "filled", "I", "TermBook"), ("TermBook", 127, "TermBook$Leaves", "parts", "I", "TermBook")]
abbrev gk_NM : List (String × Nat × MethodName × String) := [("TermBook", 9, gy_Tx_init, "TermBook"), ("TermBook$Term", 9, gy_Tx_init, "TermBook"), ("TermBook$Text", 20, gy_Bk_byteOf, "TermBook")]
abbrev gk_tys (cI cT : ClassId) : List (ClassId × FieldType) := [(cI, .int), (cT, .object "TermBook$Term")]
def gk_fu : Nat := 1000
