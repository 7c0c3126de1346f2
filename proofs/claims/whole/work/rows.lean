section
-- ===== PART A: goes FIRST, ahead of the names: the tables' words, and 'selects' of the private methods out of them =====
/-- a private method of a class that the tables say can be made, by its rows of tables_1 -/
def lw_okq (q : MethodName × Nat) : Prop := (q.1.cls ≠ "java/lang/invoke/MethodHandle" ∧ q.1.cls ≠ "java/lang/invoke/VarHandle") ∧ Cond.instantiable q.1.cls q.2 ∈ tables_1 ∧ Cond.privateMethod q.1 ∈ tables_1 ∧ Cond.instanceMethod q.1 ∈ tables_1
theorem lw_p0 : lw_okq (⟨"TermBook", "useTape", "(I)I"⟩, 5) := ⟨⟨by decide +kernel, by decide +kernel⟩, List.mem_of_getElem? (i := 10) (by decide +kernel), List.mem_of_getElem? (i := 132) (by decide +kernel), List.mem_of_getElem? (i := 133) (by decide +kernel)⟩
theorem lw_p1 : lw_okq (⟨"TermBook", "placeOfTape", "(I)I"⟩, 5) := ⟨⟨by decide +kernel, by decide +kernel⟩, List.mem_of_getElem? (i := 10) (by decide +kernel), List.mem_of_getElem? (i := 136) (by decide +kernel), List.mem_of_getElem? (i := 137) (by decide +kernel)⟩
theorem lw_p2 : lw_okq (⟨"TermBook", "isBeforeTape", "(II)Z"⟩, 5) := ⟨⟨by decide +kernel, by decide +kernel⟩, List.mem_of_getElem? (i := 10) (by decide +kernel), List.mem_of_getElem? (i := 144) (by decide +kernel), List.mem_of_getElem? (i := 145) (by decide +kernel)⟩
theorem lw_p3 : lw_okq (⟨"TermBook", "inBook", "(I)LTermBook$Term;"⟩, 5) := ⟨⟨by decide +kernel, by decide +kernel⟩, List.mem_of_getElem? (i := 10) (by decide +kernel), List.mem_of_getElem? (i := 148) (by decide +kernel), List.mem_of_getElem? (i := 149) (by decide +kernel)⟩
theorem lw_p4 : lw_okq (⟨"TermBook", "isTape", "(II)Z"⟩, 5) := ⟨⟨by decide +kernel, by decide +kernel⟩, List.mem_of_getElem? (i := 10) (by decide +kernel), List.mem_of_getElem? (i := 166) (by decide +kernel), List.mem_of_getElem? (i := 167) (by decide +kernel)⟩
theorem lw_p5 : lw_okq (⟨"TermBook", "bringTape", "(II)I"⟩, 5) := ⟨⟨by decide +kernel, by decide +kernel⟩, List.mem_of_getElem? (i := 10) (by decide +kernel), List.mem_of_getElem? (i := 170) (by decide +kernel), List.mem_of_getElem? (i := 171) (by decide +kernel)⟩
theorem lw_p6 : lw_okq (⟨"TermBook", "leastFree", "()I"⟩, 5) := ⟨⟨by decide +kernel, by decide +kernel⟩, List.mem_of_getElem? (i := 10) (by decide +kernel), List.mem_of_getElem? (i := 174) (by decide +kernel), List.mem_of_getElem? (i := 175) (by decide +kernel)⟩
theorem lw_p7 : lw_okq (⟨"TermBook$Leaves", "leafOf", "(I)I"⟩, 4) := ⟨⟨by decide +kernel, by decide +kernel⟩, List.mem_of_getElem? (i := 64) (by decide +kernel), List.mem_of_getElem? (i := 190) (by decide +kernel), List.mem_of_getElem? (i := 191) (by decide +kernel)⟩
theorem lw_p8 : lw_okq (⟨"TermBook$Leaves", "resize", "(II)V"⟩, 4) := ⟨⟨by decide +kernel, by decide +kernel⟩, List.mem_of_getElem? (i := 64) (by decide +kernel), List.mem_of_getElem? (i := 201) (by decide +kernel), List.mem_of_getElem? (i := 202) (by decide +kernel)⟩
theorem lw_p9 : lw_okq (⟨"TermBook$Leaves", "part", "(I)V"⟩, 4) := ⟨⟨by decide +kernel, by decide +kernel⟩, List.mem_of_getElem? (i := 64) (by decide +kernel), List.mem_of_getElem? (i := 205) (by decide +kernel), List.mem_of_getElem? (i := 206) (by decide +kernel)⟩
theorem lw_p10 : lw_okq (⟨"TermBook", "takeOut", "(LTermBook$Term;I)V"⟩, 5) := ⟨⟨by decide +kernel, by decide +kernel⟩, List.mem_of_getElem? (i := 10) (by decide +kernel), List.mem_of_getElem? (i := 222) (by decide +kernel), List.mem_of_getElem? (i := 223) (by decide +kernel)⟩
theorem lw_p11 : lw_okq (⟨"TermBook$Leaves", "mend", "(I)V"⟩, 4) := ⟨⟨by decide +kernel, by decide +kernel⟩, List.mem_of_getElem? (i := 64) (by decide +kernel), List.mem_of_getElem? (i := 230) (by decide +kernel), List.mem_of_getElem? (i := 231) (by decide +kernel)⟩
theorem lw_p12 : lw_okq (⟨"TermBook$Leaves", "dropEmpty", "()V"⟩, 4) := ⟨⟨by decide +kernel, by decide +kernel⟩, List.mem_of_getElem? (i := 64) (by decide +kernel), List.mem_of_getElem? (i := 234) (by decide +kernel), List.mem_of_getElem? (i := 235) (by decide +kernel)⟩
theorem lw_p13 : lw_okq (⟨"TermBook$Leaves", "joinNext", "(I)V"⟩, 4) := ⟨⟨by decide +kernel, by decide +kernel⟩, List.mem_of_getElem? (i := 64) (by decide +kernel), List.mem_of_getElem? (i := 241) (by decide +kernel), List.mem_of_getElem? (i := 242) (by decide +kernel)⟩
theorem lw_p14 : lw_okq (⟨"TermBook", "slotOf", "(I)I"⟩, 5) := ⟨⟨by decide +kernel, by decide +kernel⟩, List.mem_of_getElem? (i := 10) (by decide +kernel), List.mem_of_getElem? (i := 294) (by decide +kernel), List.mem_of_getElem? (i := 295) (by decide +kernel)⟩
theorem lw_p15 : lw_okq (⟨"TermBook", "keptSlot", "(I)I"⟩, 5) := ⟨⟨by decide +kernel, by decide +kernel⟩, List.mem_of_getElem? (i := 10) (by decide +kernel), List.mem_of_getElem? (i := 306) (by decide +kernel), List.mem_of_getElem? (i := 307) (by decide +kernel)⟩
def lw_privs_1 : List (MethodName × Nat) := [(⟨"TermBook", "useTape", "(I)I"⟩, 5), (⟨"TermBook", "placeOfTape", "(I)I"⟩, 5), (⟨"TermBook", "isBeforeTape", "(II)Z"⟩, 5), (⟨"TermBook", "inBook", "(I)LTermBook$Term;"⟩, 5), (⟨"TermBook", "isTape", "(II)Z"⟩, 5), (⟨"TermBook", "bringTape", "(II)I"⟩, 5), (⟨"TermBook", "leastFree", "()I"⟩, 5), (⟨"TermBook$Leaves", "leafOf", "(I)I"⟩, 4), (⟨"TermBook$Leaves", "resize", "(II)V"⟩, 4), (⟨"TermBook$Leaves", "part", "(I)V"⟩, 4), (⟨"TermBook", "takeOut", "(LTermBook$Term;I)V"⟩, 5), (⟨"TermBook$Leaves", "mend", "(I)V"⟩, 4), (⟨"TermBook$Leaves", "dropEmpty", "()V"⟩, 4), (⟨"TermBook$Leaves", "joinNext", "(I)V"⟩, 4), (⟨"TermBook", "slotOf", "(I)I"⟩, 5), (⟨"TermBook", "keptSlot", "(I)I"⟩, 5)]
theorem lw_r1 : ∀ q ∈ lw_privs_1, lw_okq q := List.forall_mem_cons.mpr ⟨lw_p0, List.forall_mem_cons.mpr ⟨lw_p1, List.forall_mem_cons.mpr ⟨lw_p2, List.forall_mem_cons.mpr ⟨lw_p3, List.forall_mem_cons.mpr ⟨lw_p4, List.forall_mem_cons.mpr ⟨lw_p5, List.forall_mem_cons.mpr ⟨lw_p6, List.forall_mem_cons.mpr ⟨lw_p7, List.forall_mem_cons.mpr ⟨lw_p8, List.forall_mem_cons.mpr ⟨lw_p9, List.forall_mem_cons.mpr ⟨lw_p10, List.forall_mem_cons.mpr ⟨lw_p11, List.forall_mem_cons.mpr ⟨lw_p12, List.forall_mem_cons.mpr ⟨lw_p13, List.forall_mem_cons.mpr ⟨lw_p14, List.forall_mem_cons.mpr ⟨lw_p15, fun _ h => absurd h List.not_mem_nil⟩⟩⟩⟩⟩⟩⟩⟩⟩⟩⟩⟩⟩⟩⟩⟩
theorem lw_p16 : lw_okq (⟨"TermBook", "takeOutUnneeded", "()I"⟩, 5) := ⟨⟨by decide +kernel, by decide +kernel⟩, List.mem_of_getElem? (i := 10) (by decide +kernel), List.mem_of_getElem? (i := 314) (by decide +kernel), List.mem_of_getElem? (i := 315) (by decide +kernel)⟩
theorem lw_p17 : lw_okq (⟨"TermBook", "countKeptFor", "(I)I"⟩, 5) := ⟨⟨by decide +kernel, by decide +kernel⟩, List.mem_of_getElem? (i := 10) (by decide +kernel), List.mem_of_getElem? (i := 322) (by decide +kernel), List.mem_of_getElem? (i := 323) (by decide +kernel)⟩
theorem lw_p18 : lw_okq (⟨"TermBook", "sharedIn", "(I)I"⟩, 5) := ⟨⟨by decide +kernel, by decide +kernel⟩, List.mem_of_getElem? (i := 10) (by decide +kernel), List.mem_of_getElem? (i := 335) (by decide +kernel), List.mem_of_getElem? (i := 336) (by decide +kernel)⟩
theorem lw_p19 : lw_okq (⟨"TermBook", "costOf", "(I)I"⟩, 5) := ⟨⟨by decide +kernel, by decide +kernel⟩, List.mem_of_getElem? (i := 10) (by decide +kernel), List.mem_of_getElem? (i := 344) (by decide +kernel), List.mem_of_getElem? (i := 345) (by decide +kernel)⟩
theorem lw_p20 : lw_okq (⟨"TermBook", "countKeptVersions", "()I"⟩, 5) := ⟨⟨by decide +kernel, by decide +kernel⟩, List.mem_of_getElem? (i := 10) (by decide +kernel), List.mem_of_getElem? (i := 352) (by decide +kernel), List.mem_of_getElem? (i := 353) (by decide +kernel)⟩
theorem lw_p21 : lw_okq (⟨"TermBook", "countUnused", "()I"⟩, 5) := ⟨⟨by decide +kernel, by decide +kernel⟩, List.mem_of_getElem? (i := 10) (by decide +kernel), List.mem_of_getElem? (i := 356) (by decide +kernel), List.mem_of_getElem? (i := 357) (by decide +kernel)⟩
theorem lw_p22 : lw_okq (⟨"TermBook", "costOfAll", "()I"⟩, 5) := ⟨⟨by decide +kernel, by decide +kernel⟩, List.mem_of_getElem? (i := 10) (by decide +kernel), List.mem_of_getElem? (i := 360) (by decide +kernel), List.mem_of_getElem? (i := 361) (by decide +kernel)⟩
theorem lw_p23 : lw_okq (⟨"TermBookModel", "numberOf", "(I)I"⟩, 16) := ⟨⟨by decide +kernel, by decide +kernel⟩, List.mem_of_getElem? (i := 364) (by decide +kernel), List.mem_of_getElem? (i := 436) (by decide +kernel), List.mem_of_getElem? (i := 437) (by decide +kernel)⟩
theorem lw_p24 : lw_okq (⟨"TermBookModel", "against", "(II)I"⟩, 16) := ⟨⟨by decide +kernel, by decide +kernel⟩, List.mem_of_getElem? (i := 364) (by decide +kernel), List.mem_of_getElem? (i := 440) (by decide +kernel), List.mem_of_getElem? (i := 441) (by decide +kernel)⟩
theorem lw_p25 : lw_okq (⟨"TermBookModel", "come", "(II)V"⟩, 16) := ⟨⟨by decide +kernel, by decide +kernel⟩, List.mem_of_getElem? (i := 364) (by decide +kernel), List.mem_of_getElem? (i := 444) (by decide +kernel), List.mem_of_getElem? (i := 445) (by decide +kernel)⟩
theorem lw_p26 : lw_okq (⟨"TermBookModel", "before", "(I)I"⟩, 16) := ⟨⟨by decide +kernel, by decide +kernel⟩, List.mem_of_getElem? (i := 364) (by decide +kernel), List.mem_of_getElem? (i := 448) (by decide +kernel), List.mem_of_getElem? (i := 449) (by decide +kernel)⟩
theorem lw_p27 : lw_okq (⟨"TermBookModel", "insertLeaf", "(II)V"⟩, 16) := ⟨⟨by decide +kernel, by decide +kernel⟩, List.mem_of_getElem? (i := 364) (by decide +kernel), List.mem_of_getElem? (i := 452) (by decide +kernel), List.mem_of_getElem? (i := 453) (by decide +kernel)⟩
theorem lw_p28 : lw_okq (⟨"TermBookModel", "begin", "(I)I"⟩, 16) := ⟨⟨by decide +kernel, by decide +kernel⟩, List.mem_of_getElem? (i := 364) (by decide +kernel), List.mem_of_getElem? (i := 456) (by decide +kernel), List.mem_of_getElem? (i := 457) (by decide +kernel)⟩
theorem lw_p29 : lw_okq (⟨"TermBookModel", "isTerm", "(I)Z"⟩, 16) := ⟨⟨by decide +kernel, by decide +kernel⟩, List.mem_of_getElem? (i := 364) (by decide +kernel), List.mem_of_getElem? (i := 464) (by decide +kernel), List.mem_of_getElem? (i := 465) (by decide +kernel)⟩
theorem lw_p30 : lw_okq (⟨"TermBookModel", "isLoose", "(I)Z"⟩, 16) := ⟨⟨by decide +kernel, by decide +kernel⟩, List.mem_of_getElem? (i := 364) (by decide +kernel), List.mem_of_getElem? (i := 468) (by decide +kernel), List.mem_of_getElem? (i := 469) (by decide +kernel)⟩
theorem lw_p31 : lw_okq (⟨"TermBookModel", "isKeptBy", "(II)Z"⟩, 16) := ⟨⟨by decide +kernel, by decide +kernel⟩, List.mem_of_getElem? (i := 364) (by decide +kernel), List.mem_of_getElem? (i := 472) (by decide +kernel), List.mem_of_getElem? (i := 473) (by decide +kernel)⟩
def lw_privs_2 : List (MethodName × Nat) := [(⟨"TermBook", "takeOutUnneeded", "()I"⟩, 5), (⟨"TermBook", "countKeptFor", "(I)I"⟩, 5), (⟨"TermBook", "sharedIn", "(I)I"⟩, 5), (⟨"TermBook", "costOf", "(I)I"⟩, 5), (⟨"TermBook", "countKeptVersions", "()I"⟩, 5), (⟨"TermBook", "countUnused", "()I"⟩, 5), (⟨"TermBook", "costOfAll", "()I"⟩, 5), (⟨"TermBookModel", "numberOf", "(I)I"⟩, 16), (⟨"TermBookModel", "against", "(II)I"⟩, 16), (⟨"TermBookModel", "come", "(II)V"⟩, 16), (⟨"TermBookModel", "before", "(I)I"⟩, 16), (⟨"TermBookModel", "insertLeaf", "(II)V"⟩, 16), (⟨"TermBookModel", "begin", "(I)I"⟩, 16), (⟨"TermBookModel", "isTerm", "(I)Z"⟩, 16), (⟨"TermBookModel", "isLoose", "(I)Z"⟩, 16), (⟨"TermBookModel", "isKeptBy", "(II)Z"⟩, 16)]
theorem lw_r2 : ∀ q ∈ lw_privs_2, lw_okq q := List.forall_mem_cons.mpr ⟨lw_p16, List.forall_mem_cons.mpr ⟨lw_p17, List.forall_mem_cons.mpr ⟨lw_p18, List.forall_mem_cons.mpr ⟨lw_p19, List.forall_mem_cons.mpr ⟨lw_p20, List.forall_mem_cons.mpr ⟨lw_p21, List.forall_mem_cons.mpr ⟨lw_p22, List.forall_mem_cons.mpr ⟨lw_p23, List.forall_mem_cons.mpr ⟨lw_p24, List.forall_mem_cons.mpr ⟨lw_p25, List.forall_mem_cons.mpr ⟨lw_p26, List.forall_mem_cons.mpr ⟨lw_p27, List.forall_mem_cons.mpr ⟨lw_p28, List.forall_mem_cons.mpr ⟨lw_p29, List.forall_mem_cons.mpr ⟨lw_p30, List.forall_mem_cons.mpr ⟨lw_p31, fun _ h => absurd h List.not_mem_nil⟩⟩⟩⟩⟩⟩⟩⟩⟩⟩⟩⟩⟩⟩⟩⟩
theorem lw_p32 : lw_okq (⟨"TermBookModel", "go", "(I)V"⟩, 16) := ⟨⟨by decide +kernel, by decide +kernel⟩, List.mem_of_getElem? (i := 364) (by decide +kernel), List.mem_of_getElem? (i := 476) (by decide +kernel), List.mem_of_getElem? (i := 477) (by decide +kernel)⟩
theorem lw_p33 : lw_okq (⟨"TermBookModel", "placeOf", "(I)I"⟩, 16) := ⟨⟨by decide +kernel, by decide +kernel⟩, List.mem_of_getElem? (i := 364) (by decide +kernel), List.mem_of_getElem? (i := 480) (by decide +kernel), List.mem_of_getElem? (i := 481) (by decide +kernel)⟩
theorem lw_p34 : lw_okq (⟨"TermBookModel", "dropLeaf", "(I)V"⟩, 16) := ⟨⟨by decide +kernel, by decide +kernel⟩, List.mem_of_getElem? (i := 364) (by decide +kernel), List.mem_of_getElem? (i := 484) (by decide +kernel), List.mem_of_getElem? (i := 485) (by decide +kernel)⟩
theorem lw_p35 : lw_okq (⟨"TermBookModel", "keptAs", "(I)I"⟩, 16) := ⟨⟨by decide +kernel, by decide +kernel⟩, List.mem_of_getElem? (i := 364) (by decide +kernel), List.mem_of_getElem? (i := 520) (by decide +kernel), List.mem_of_getElem? (i := 521) (by decide +kernel)⟩
theorem lw_p36 : lw_okq (⟨"TermBookModel", "shared", "(I)I"⟩, 16) := ⟨⟨by decide +kernel, by decide +kernel⟩, List.mem_of_getElem? (i := 364) (by decide +kernel), List.mem_of_getElem? (i := 532) (by decide +kernel), List.mem_of_getElem? (i := 533) (by decide +kernel)⟩
theorem lw_p37 : lw_okq (⟨"TermBookModel", "cost", "(I)I"⟩, 16) := ⟨⟨by decide +kernel, by decide +kernel⟩, List.mem_of_getElem? (i := 364) (by decide +kernel), List.mem_of_getElem? (i := 536) (by decide +kernel), List.mem_of_getElem? (i := 537) (by decide +kernel)⟩
def lw_privs_3 : List (MethodName × Nat) := [(⟨"TermBookModel", "go", "(I)V"⟩, 16), (⟨"TermBookModel", "placeOf", "(I)I"⟩, 16), (⟨"TermBookModel", "dropLeaf", "(I)V"⟩, 16), (⟨"TermBookModel", "keptAs", "(I)I"⟩, 16), (⟨"TermBookModel", "shared", "(I)I"⟩, 16), (⟨"TermBookModel", "cost", "(I)I"⟩, 16)]
theorem lw_r3 : ∀ q ∈ lw_privs_3, lw_okq q := List.forall_mem_cons.mpr ⟨lw_p32, List.forall_mem_cons.mpr ⟨lw_p33, List.forall_mem_cons.mpr ⟨lw_p34, List.forall_mem_cons.mpr ⟨lw_p35, List.forall_mem_cons.mpr ⟨lw_p36, List.forall_mem_cons.mpr ⟨lw_p37, fun _ h => absurd h List.not_mem_nil⟩⟩⟩⟩⟩⟩
def lw_privs : List (MethodName × Nat) := lw_privs_1 ++ (lw_privs_2 ++ (lw_privs_3))
def lw_tbl : List Cond := k2_sels lw_privs ++ tables_1
theorem lw_privs_ok : ∀ q ∈ lw_privs, lw_okq q := by
  show ∀ q ∈ lw_privs_1 ++ (lw_privs_2 ++ (lw_privs_3)), lw_okq q
  exact List.forall_mem_append.mpr ⟨lw_r1, List.forall_mem_append.mpr ⟨lw_r2, lw_r3⟩⟩
/-! one list of words for all methods: what stays true as the machine warms -/
def gt_T : List Cond := k2_sels lw_privs ++ tables_1.filter goodWord
theorem gt_in {w : Cond} (i : Nat) (h : tables_1[i]? = some w) (hg : goodWord w = true) : w ∈ gt_T := List.mem_append_right _ (List.mem_filter.mpr ⟨List.mem_of_getElem? h, hg⟩)
theorem gt_sel {q : MethodName × Nat} (h : q ∈ lw_privs) : Cond.selects q.1.cls q.1 q.1 ∈ gt_T := List.mem_append_left _ (List.mem_map_of_mem h)
theorem gt_sub : ∀ w ∈ gt_T, w ∈ lw_tbl := by
  intro w hw
  rcases List.mem_append.mp hw with h | h
  · exact List.mem_append_left _ h
  · exact List.mem_append_right _ (List.mem_filter.mp h).1
theorem gt_gd : ∀ w ∈ gt_T, goodWord w = true := by
  intro w hw
  rcases List.mem_append.mp hw with h | h
  · obtain ⟨q, -, rfl⟩ := List.mem_map.mp h
    rfl
  · exact (List.mem_filter.mp h).2
theorem gt_all {c : Cond} {ws : List Cond} (h : ∀ w ∈ ws, w ∈ gt_T) : GoodIn (c :: gt_T) ws := fun w hw => ⟨List.mem_cons_of_mem _ (h w hw), good_of_word (gt_gd w (h w hw))⟩
theorem gt_cons {c : Cond} (h : c ∈ gt_T) : ∀ w ∈ c :: gt_T, w ∈ gt_T := fun w hw => (List.mem_cons.mp hw).elim (fun e => e ▸ h) id
theorem gt_good {c c' : Cond} (h : c' ∈ gt_T) : GoodIn (c :: gt_T) (c' :: gt_T) := gt_all (gt_cons h)
theorem gt_V {c c' : Cond} {own C : String} {idx : Nat} {y : MethodName} (h1 : Cond.methodLink own idx y ∈ gt_T) (h2 : Cond.instanceMethod y ∈ gt_T) (h3 : Cond.selects C y y ∈ gt_T) (h4 : Cond.initialized C ∈ gt_T) (h5 : c' ∈ gt_T) : GoodIn (c :: gt_T) (wsV own idx C y (c' :: gt_T)) := by
  refine gt_all (fun w hw => ?_)
  rcases List.mem_append.mp hw with h | h
  · simp only [List.mem_cons, List.not_mem_nil, or_false] at h
    rcases h with rfl | rfl | rfl | rfl
    · exact h1
    · exact h2
    · exact h3
    · exact h4
  · exact gt_cons h5 w h
theorem gt_S {c c' : Cond} {own : String} {idx : Nat} {y : MethodName} (h1 : Cond.methodLink own idx y ∈ gt_T) (h2 : Cond.static y ∈ gt_T) (h3 : Cond.initialized y.cls ∈ gt_T) (h5 : c' ∈ gt_T) : GoodIn (c :: gt_T) (va_wsS own idx y (c' :: gt_T)) := by
  refine gt_all (fun w hw => ?_)
  rcases List.mem_append.mp hw with h | h
  · simp only [List.mem_cons, List.not_mem_nil, or_false] at h
    rcases h with rfl | rfl | rfl
    · exact h1
    · exact h2
    · exact h3
  · exact gt_cons h5 w h
end
section
def gR_Bk : String := "TermBook"
def gT_Bk : u_T := fun k => match k with
  | 0 => ("TermBook", "tape", "LTermBook$Text;", true)
  | 1 => ("TermBook", "terms", "[LTermBook$Term;", true)
  | 2 => ("TermBook", "leaves", "LTermBook$Leaves;", true)
  | 3 => ("TermBook", "kept", "[I", true)
  | _ => ("TermBook", "ended", "I", false)
def gF_Bk : Nat → FieldType := fun k => match k with
  | 0 => .object "TermBook$Text"
  | 1 => .array (.object "TermBook$Term")
  | 2 => .object "TermBook$Leaves"
  | 3 => .array .int
  | _ => .int
theorem gn_Bk : ∀ a, a < 5 → ∀ b, b < 5 → a ≠ b → (gT_Bk a).2.1 ≠ (gT_Bk b).2.1 := by decide +kernel
theorem gf_Bk : ∀ k, k < 5 → parseFieldDescriptor (gT_Bk k).2.2.1 = some (gF_Bk k) := by decide +kernel
def gR_Lv : String := "TermBook$Leaves"
def gT_Lv : u_T := fun k => match k with
  | 0 => ("TermBook$Leaves", "numbers", "[I", true)
  | 1 => ("TermBook$Leaves", "filled", "I", false)
  | 2 => ("TermBook$Leaves", "sizes", "[I", true)
  | _ => ("TermBook$Leaves", "parts", "I", false)
def gF_Lv : Nat → FieldType := fun k => match k with
  | 0 => .array .int
  | 1 => .int
  | 2 => .array .int
  | _ => .int
theorem gn_Lv : ∀ a, a < 4 → ∀ b, b < 4 → a ≠ b → (gT_Lv a).2.1 ≠ (gT_Lv b).2.1 := by decide +kernel
theorem gf_Lv : ∀ k, k < 4 → parseFieldDescriptor (gT_Lv k).2.2.1 = some (gF_Lv k) := by decide +kernel
def gR_Tx : String := "TermBook$Text"
def gT_Tx : u_T := fun k => match k with
  | 0 => ("TermBook$Text", "head", "J", false)
  | 1 => ("TermBook$Text", "tail", "J", false)
  | _ => ("TermBook$Text", "length", "I", false)
def gF_Tx : Nat → FieldType := fun k => match k with
  | 0 => .long
  | 1 => .long
  | _ => .int
theorem gn_Tx : ∀ a, a < 3 → ∀ b, b < 3 → a ≠ b → (gT_Tx a).2.1 ≠ (gT_Tx b).2.1 := by decide +kernel
theorem gf_Tx : ∀ k, k < 3 → parseFieldDescriptor (gT_Tx k).2.2.1 = some (gF_Tx k) := by decide +kernel
def gR_Tm : String := "TermBook$Term"
def gT_Tm : u_T := fun k => match k with
  | 0 => ("TermBook$Term", "text", "LTermBook$Text;", true)
  | 1 => ("TermBook$Term", "present", "Z", false)
  | 2 => ("TermBook$Term", "kind", "I", false)
  | 3 => ("TermBook$Term", "uses", "I", false)
  | _ => ("TermBook$Term", "keepers", "I", false)
def gF_Tm : Nat → FieldType := fun k => match k with
  | 0 => .object "TermBook$Text"
  | 1 => .boolean
  | 2 => .int
  | 3 => .int
  | _ => .int
theorem gn_Tm : ∀ a, a < 5 → ∀ b, b < 5 → a ≠ b → (gT_Tm a).2.1 ≠ (gT_Tm b).2.1 := by decide +kernel
theorem gf_Tm : ∀ k, k < 5 → parseFieldDescriptor (gT_Tm k).2.2.1 = some (gF_Tm k) := by decide +kernel
def gR_Md : String := "TermBookModel"
def gT_Md : u_T := fun k => match k with
  | 0 => ("TermBookModel", "tapeMany", "I", false)
  | 1 => ("TermBookModel", "tape", "[I", true)
  | 2 => ("TermBookModel", "there", "[Z", true)
  | 3 => ("TermBookModel", "kinds", "[I", true)
  | 4 => ("TermBookModel", "uses", "[I", true)
  | 5 => ("TermBookModel", "sizes", "[I", true)
  | 6 => ("TermBookModel", "texts", "[I", true)
  | 7 => ("TermBookModel", "many", "I", false)
  | 8 => ("TermBookModel", "sorted", "[I", true)
  | 9 => ("TermBookModel", "leaves", "I", false)
  | 10 => ("TermBookModel", "leafSizes", "[I", true)
  | 11 => ("TermBookModel", "ended", "I", false)
  | 12 => ("TermBookModel", "kept", "I", false)
  | 13 => ("TermBookModel", "versions", "[I", true)
  | 14 => ("TermBookModel", "has", "[Z", true)
  | _ => ("TermBookModel", "going", "[I", true)
def gF_Md : Nat → FieldType := fun k => match k with
  | 0 => .int
  | 1 => .array .int
  | 2 => .array .boolean
  | 3 => .array .int
  | 4 => .array .int
  | 5 => .array .int
  | 6 => .array .int
  | 7 => .int
  | 8 => .array .int
  | 9 => .int
  | 10 => .array .int
  | 11 => .int
  | 12 => .int
  | 13 => .array .int
  | 14 => .array .boolean
  | _ => .array .int
theorem gn_Md : ∀ a, a < 16 → ∀ b, b < 16 → a ≠ b → (gT_Md a).2.1 ≠ (gT_Md b).2.1 := by decide +kernel
theorem gf_Md : ∀ k, k < 16 → parseFieldDescriptor (gT_Md k).2.2.1 = some (gF_Md k) := by decide +kernel
abbrev gc_cl : List vw_C := [(gR_Bk, gT_Bk, 5), (gR_Lv, gT_Lv, 4), (gR_Tx, gT_Tx, 3), (gR_Tm, gT_Tm, 5), (gR_Md, gT_Md, 16)]
abbrev gb_Bk_init : ByteArray := prog_1_method_1_code
def gy_Bk_init : MethodName := ⟨"TermBook", "<init>", "()V"⟩
abbrev gws_Bk_init : List Cond := Cond.code gy_Bk_init gb_Bk_init 2 none :: gt_T
abbrev gb_Bk_type : ByteArray := prog_1_method_2_code
def gy_Bk_type : MethodName := ⟨"TermBook", "type", "(JI)I"⟩
abbrev gws_Bk_type : List Cond := Cond.code gy_Bk_type gb_Bk_type 5 (some .int) :: gt_T
abbrev gb_Bk_clear : ByteArray := prog_1_method_3_code
def gy_Bk_clear : MethodName := ⟨"TermBook", "clear", "()I"⟩
abbrev gws_Bk_clear : List Cond := Cond.code gy_Bk_clear gb_Bk_clear 2 (some .int) :: gt_T
abbrev gb_Bk_add : ByteArray := prog_1_method_4_code
def gy_Bk_add : MethodName := ⟨"TermBook", "add", "(I)I"⟩
abbrev gws_Bk_add : List Cond := Cond.code gy_Bk_add gb_Bk_add 3 (some .int) :: gt_T
abbrev gb_Bk_drop : ByteArray := prog_1_method_5_code
def gy_Bk_drop : MethodName := ⟨"TermBook", "drop", "(I)I"⟩
abbrev gws_Bk_drop : List Cond := Cond.code gy_Bk_drop gb_Bk_drop 3 (some .int) :: gt_T
abbrev gb_Bk_find : ByteArray := prog_1_method_6_code
def gy_Bk_find : MethodName := ⟨"TermBook", "find", "(I)I"⟩
abbrev gws_Bk_find : List Cond := Cond.code gy_Bk_find gb_Bk_find 3 (some .int) :: gt_T
abbrev gb_Bk_term : ByteArray := prog_1_method_7_code
def gy_Bk_term : MethodName := ⟨"TermBook", "term", "(II)I"⟩
abbrev gws_Bk_term : List Cond := Cond.code gy_Bk_term gb_Bk_term 4 (some .int) :: gt_T
abbrev gb_Bk_at : ByteArray := prog_1_method_8_code
def gy_Bk_at : MethodName := ⟨"TermBook", "at", "(I)I"⟩
abbrev gws_Bk_at : List Cond := Cond.code gy_Bk_at gb_Bk_at 3 (some .int) :: gt_T
abbrev gb_Bk_place : ByteArray := prog_1_method_9_code
def gy_Bk_place : MethodName := ⟨"TermBook", "place", "(I)I"⟩
abbrev gws_Bk_place : List Cond := Cond.code gy_Bk_place gb_Bk_place 2 (some .int) :: gt_T
abbrev gb_Bk_begins : ByteArray := prog_1_method_10_code
def gy_Bk_begins : MethodName := ⟨"TermBook", "begins", "(I)I"⟩
abbrev gws_Bk_begins : List Cond := Cond.code gy_Bk_begins gb_Bk_begins 5 (some .int) :: gt_T
abbrev gb_Bk_from : ByteArray := prog_1_method_11_code
def gy_Bk_from : MethodName := ⟨"TermBook", "from", "(I)I"⟩
abbrev gws_Bk_from : List Cond := Cond.code gy_Bk_from gb_Bk_from 2 (some .int) :: gt_T
abbrev gb_Bk_version : ByteArray := prog_1_method_12_code
def gy_Bk_version : MethodName := ⟨"TermBook", "version", "()I"⟩
abbrev gws_Bk_version : List Cond := Cond.code gy_Bk_version gb_Bk_version 4 (some .int) :: gt_T
abbrev gb_Bk_release : ByteArray := prog_1_method_13_code
def gy_Bk_release : MethodName := ⟨"TermBook", "release", "(I)I"⟩
abbrev gws_Bk_release : List Cond := Cond.code gy_Bk_release gb_Bk_release 5 (some .int) :: gt_T
abbrev gb_Bk_had : ByteArray := prog_1_method_14_code
def gy_Bk_had : MethodName := ⟨"TermBook", "had", "(II)I"⟩
abbrev gws_Bk_had : List Cond := Cond.code gy_Bk_had gb_Bk_had 5 (some .int) :: gt_T
abbrev gb_Bk_leaf : ByteArray := prog_1_method_15_code
def gy_Bk_leaf : MethodName := ⟨"TermBook", "leaf", "(II)I"⟩
abbrev gws_Bk_leaf : List Cond := Cond.code gy_Bk_leaf gb_Bk_leaf 3 (some .int) :: gt_T
abbrev gb_Bk_count : ByteArray := prog_1_method_16_code
def gy_Bk_count : MethodName := ⟨"TermBook", "count", "(I)I"⟩
abbrev gws_Bk_count : List Cond := Cond.code gy_Bk_count gb_Bk_count 2 (some .int) :: gt_T
abbrev gb_Bk_isKind : ByteArray := prog_1_method_17_code
def gy_Bk_isKind : MethodName := ⟨"TermBook", "isKind", "(I)Z"⟩
abbrev gws_Bk_isKind : List Cond := Cond.code gy_Bk_isKind gb_Bk_isKind 1 (some .boolean) :: gt_T
abbrev gb_Bk_byteOf : ByteArray := prog_1_method_18_code
def gy_Bk_byteOf : MethodName := ⟨"TermBook", "byteOf", "(JI)I"⟩
abbrev gws_Bk_byteOf : List Cond := Cond.code gy_Bk_byteOf gb_Bk_byteOf 3 (some .int) :: gt_T
abbrev gb_Bk_allFit : ByteArray := prog_1_method_19_code
def gy_Bk_allFit : MethodName := ⟨"TermBook", "allFit", "(JI)Z"⟩
abbrev gws_Bk_allFit : List Cond := Cond.code gy_Bk_allFit gb_Bk_allFit 5 (some .boolean) :: gt_T
abbrev gb_Bk_inBook : ByteArray := prog_1_method_20_code
def gy_Bk_inBook : MethodName := ⟨"TermBook", "inBook", "(I)LTermBook$Term;"⟩
abbrev gws_Bk_inBook : List Cond := Cond.code gy_Bk_inBook gb_Bk_inBook 3 (some (.object "TermBook$Term")) :: gt_T
abbrev gb_Bk_placeOfTape : ByteArray := prog_1_method_21_code
def gy_Bk_placeOfTape : MethodName := ⟨"TermBook", "placeOfTape", "(I)I"⟩
abbrev gws_Bk_placeOfTape : List Cond := Cond.code gy_Bk_placeOfTape gb_Bk_placeOfTape 3 (some .int) :: gt_T
abbrev gb_Bk_isBeforeTape : ByteArray := prog_1_method_22_code
def gy_Bk_isBeforeTape : MethodName := ⟨"TermBook", "isBeforeTape", "(II)Z"⟩
abbrev gws_Bk_isBeforeTape : List Cond := Cond.code gy_Bk_isBeforeTape gb_Bk_isBeforeTape 4 (some .boolean) :: gt_T
abbrev gb_Bk_isTape : ByteArray := prog_1_method_23_code
def gy_Bk_isTape : MethodName := ⟨"TermBook", "isTape", "(II)Z"⟩
abbrev gws_Bk_isTape : List Cond := Cond.code gy_Bk_isTape gb_Bk_isTape 4 (some .boolean) :: gt_T
abbrev gb_Bk_useTape : ByteArray := prog_1_method_24_code
def gy_Bk_useTape : MethodName := ⟨"TermBook", "useTape", "(I)I"⟩
abbrev gws_Bk_useTape : List Cond := Cond.code gy_Bk_useTape gb_Bk_useTape 5 (some .int) :: gt_T
abbrev gb_Bk_bringTape : ByteArray := prog_1_method_25_code
def gy_Bk_bringTape : MethodName := ⟨"TermBook", "bringTape", "(II)I"⟩
abbrev gws_Bk_bringTape : List Cond := Cond.code gy_Bk_bringTape gb_Bk_bringTape 4 (some .int) :: gt_T
abbrev gb_Bk_leastFree : ByteArray := prog_1_method_26_code
def gy_Bk_leastFree : MethodName := ⟨"TermBook", "leastFree", "()I"⟩
abbrev gws_Bk_leastFree : List Cond := Cond.code gy_Bk_leastFree gb_Bk_leastFree 2 (some .int) :: gt_T
abbrev gb_Bk_takeOut : ByteArray := prog_1_method_27_code
def gy_Bk_takeOut : MethodName := ⟨"TermBook", "takeOut", "(LTermBook$Term;I)V"⟩
abbrev gws_Bk_takeOut : List Cond := Cond.code gy_Bk_takeOut gb_Bk_takeOut 3 none :: gt_T
abbrev gb_Bk_takeOutUnneeded : ByteArray := prog_1_method_28_code
def gy_Bk_takeOutUnneeded : MethodName := ⟨"TermBook", "takeOutUnneeded", "()I"⟩
abbrev gws_Bk_takeOutUnneeded : List Cond := Cond.code gy_Bk_takeOutUnneeded gb_Bk_takeOutUnneeded 5 (some .int) :: gt_T
abbrev gb_Bk_slotOf : ByteArray := prog_1_method_29_code
def gy_Bk_slotOf : MethodName := ⟨"TermBook", "slotOf", "(I)I"⟩
abbrev gws_Bk_slotOf : List Cond := Cond.code gy_Bk_slotOf gb_Bk_slotOf 3 (some .int) :: gt_T
abbrev gb_Bk_keptSlot : ByteArray := prog_1_method_30_code
def gy_Bk_keptSlot : MethodName := ⟨"TermBook", "keptSlot", "(I)I"⟩
abbrev gws_Bk_keptSlot : List Cond := Cond.code gy_Bk_keptSlot gb_Bk_keptSlot 2 (some .int) :: gt_T
abbrev gb_Bk_countKeptFor : ByteArray := prog_1_method_31_code
def gy_Bk_countKeptFor : MethodName := ⟨"TermBook", "countKeptFor", "(I)I"⟩
abbrev gws_Bk_countKeptFor : List Cond := Cond.code gy_Bk_countKeptFor gb_Bk_countKeptFor 5 (some .int) :: gt_T
abbrev gb_Bk_countKeptVersions : ByteArray := prog_1_method_32_code
def gy_Bk_countKeptVersions : MethodName := ⟨"TermBook", "countKeptVersions", "()I"⟩
abbrev gws_Bk_countKeptVersions : List Cond := Cond.code gy_Bk_countKeptVersions gb_Bk_countKeptVersions 3 (some .int) :: gt_T
abbrev gb_Bk_countUnused : ByteArray := prog_1_method_33_code
def gy_Bk_countUnused : MethodName := ⟨"TermBook", "countUnused", "()I"⟩
abbrev gws_Bk_countUnused : List Cond := Cond.code gy_Bk_countUnused gb_Bk_countUnused 4 (some .int) :: gt_T
abbrev gb_Bk_sharedIn : ByteArray := prog_1_method_34_code
def gy_Bk_sharedIn : MethodName := ⟨"TermBook", "sharedIn", "(I)I"⟩
abbrev gws_Bk_sharedIn : List Cond := Cond.code gy_Bk_sharedIn gb_Bk_sharedIn 5 (some .int) :: gt_T
abbrev gb_Bk_costOf : ByteArray := prog_1_method_35_code
def gy_Bk_costOf : MethodName := ⟨"TermBook", "costOf", "(I)I"⟩
abbrev gws_Bk_costOf : List Cond := Cond.code gy_Bk_costOf gb_Bk_costOf 8 (some .int) :: gt_T
abbrev gb_Bk_costOfAll : ByteArray := prog_1_method_36_code
def gy_Bk_costOfAll : MethodName := ⟨"TermBook", "costOfAll", "()I"⟩
abbrev gws_Bk_costOfAll : List Cond := Cond.code gy_Bk_costOfAll gb_Bk_costOfAll 3 (some .int) :: gt_T
abbrev gb_Md_init : ByteArray := prog_6_method_1_code
def gy_Md_init : MethodName := ⟨"TermBookModel", "<init>", "()V"⟩
abbrev gws_Md_init : List Cond := Cond.code gy_Md_init gb_Md_init 1 none :: gt_T
abbrev gb_Md_in : ByteArray := prog_6_method_2_code
def gy_Md_in : MethodName := ⟨"TermBookModel", "in", "(III)Z"⟩
abbrev gws_Md_in : List Cond := Cond.code gy_Md_in gb_Md_in 3 (some .boolean) :: gt_T
abbrev gb_Md_type : ByteArray := prog_6_method_3_code
def gy_Md_type : MethodName := ⟨"TermBookModel", "type", "(JI)I"⟩
abbrev gws_Md_type : List Cond := Cond.code gy_Md_type gb_Md_type 6 (some .int) :: gt_T
abbrev gb_Md_clear : ByteArray := prog_6_method_4_code
def gy_Md_clear : MethodName := ⟨"TermBookModel", "clear", "()I"⟩
abbrev gws_Md_clear : List Cond := Cond.code gy_Md_clear gb_Md_clear 2 (some .int) :: gt_T
abbrev gb_Md_against : ByteArray := prog_6_method_5_code
def gy_Md_against : MethodName := ⟨"TermBookModel", "against", "(II)I"⟩
abbrev gws_Md_against : List Cond := Cond.code gy_Md_against gb_Md_against 5 (some .int) :: gt_T
abbrev gb_Md_before : ByteArray := prog_6_method_6_code
def gy_Md_before : MethodName := ⟨"TermBookModel", "before", "(I)I"⟩
abbrev gws_Md_before : List Cond := Cond.code gy_Md_before gb_Md_before 4 (some .int) :: gt_T
abbrev gb_Md_numberOf : ByteArray := prog_6_method_7_code
def gy_Md_numberOf : MethodName := ⟨"TermBookModel", "numberOf", "(I)I"⟩
abbrev gws_Md_numberOf : List Cond := Cond.code gy_Md_numberOf gb_Md_numberOf 4 (some .int) :: gt_T
abbrev gb_Md_placeOf : ByteArray := prog_6_method_8_code
def gy_Md_placeOf : MethodName := ⟨"TermBookModel", "placeOf", "(I)I"⟩
abbrev gws_Md_placeOf : List Cond := Cond.code gy_Md_placeOf gb_Md_placeOf 4 (some .int) :: gt_T
abbrev gb_Md_begin : ByteArray := prog_6_method_9_code
def gy_Md_begin : MethodName := ⟨"TermBookModel", "begin", "(I)I"⟩
abbrev gws_Md_begin : List Cond := Cond.code gy_Md_begin gb_Md_begin 4 (some .int) :: gt_T
abbrev gb_Md_insertLeaf : ByteArray := prog_6_method_10_code
def gy_Md_insertLeaf : MethodName := ⟨"TermBookModel", "insertLeaf", "(II)V"⟩
abbrev gws_Md_insertLeaf : List Cond := Cond.code gy_Md_insertLeaf gb_Md_insertLeaf 4 none :: gt_T
abbrev gb_Md_dropLeaf : ByteArray := prog_6_method_11_code
def gy_Md_dropLeaf : MethodName := ⟨"TermBookModel", "dropLeaf", "(I)V"⟩
abbrev gws_Md_dropLeaf : List Cond := Cond.code gy_Md_dropLeaf gb_Md_dropLeaf 3 none :: gt_T
abbrev gb_Md_add : ByteArray := prog_6_method_12_code
def gy_Md_add : MethodName := ⟨"TermBookModel", "add", "(I)I"⟩
abbrev gws_Md_add : List Cond := Cond.code gy_Md_add gb_Md_add 4 (some .int) :: gt_T
abbrev gb_Md_come : ByteArray := prog_6_method_13_code
def gy_Md_come : MethodName := ⟨"TermBookModel", "come", "(II)V"⟩
abbrev gws_Md_come : List Cond := Cond.code gy_Md_come gb_Md_come 5 none :: gt_T
abbrev gb_Md_go : ByteArray := prog_6_method_14_code
def gy_Md_go : MethodName := ⟨"TermBookModel", "go", "(I)V"⟩
abbrev gws_Md_go : List Cond := Cond.code gy_Md_go gb_Md_go 5 none :: gt_T
abbrev gb_Md_isKeptBy : ByteArray := prog_6_method_15_code
def gy_Md_isKeptBy : MethodName := ⟨"TermBookModel", "isKeptBy", "(II)Z"⟩
abbrev gws_Md_isKeptBy : List Cond := Cond.code gy_Md_isKeptBy gb_Md_isKeptBy 3 (some .boolean) :: gt_T
abbrev gb_Md_isLoose : ByteArray := prog_6_method_16_code
def gy_Md_isLoose : MethodName := ⟨"TermBookModel", "isLoose", "(I)Z"⟩
abbrev gws_Md_isLoose : List Cond := Cond.code gy_Md_isLoose gb_Md_isLoose 4 (some .boolean) :: gt_T
abbrev gb_Md_isTerm : ByteArray := prog_6_method_17_code
def gy_Md_isTerm : MethodName := ⟨"TermBookModel", "isTerm", "(I)Z"⟩
abbrev gws_Md_isTerm : List Cond := Cond.code gy_Md_isTerm gb_Md_isTerm 2 (some .boolean) :: gt_T
abbrev gb_Md_drop : ByteArray := prog_6_method_18_code
def gy_Md_drop : MethodName := ⟨"TermBookModel", "drop", "(I)I"⟩
abbrev gws_Md_drop : List Cond := Cond.code gy_Md_drop gb_Md_drop 3 (some .int) :: gt_T
abbrev gb_Md_find : ByteArray := prog_6_method_19_code
def gy_Md_find : MethodName := ⟨"TermBookModel", "find", "(I)I"⟩
abbrev gws_Md_find : List Cond := Cond.code gy_Md_find gb_Md_find 3 (some .int) :: gt_T
abbrev gb_Md_term : ByteArray := prog_6_method_20_code
def gy_Md_term : MethodName := ⟨"TermBookModel", "term", "(II)I"⟩
abbrev gws_Md_term : List Cond := Cond.code gy_Md_term gb_Md_term 3 (some .int) :: gt_T
abbrev gb_Md_at : ByteArray := prog_6_method_21_code
def gy_Md_at : MethodName := ⟨"TermBookModel", "at", "(I)I"⟩
abbrev gws_Md_at : List Cond := Cond.code gy_Md_at gb_Md_at 2 (some .int) :: gt_T
abbrev gb_Md_place : ByteArray := prog_6_method_22_code
def gy_Md_place : MethodName := ⟨"TermBookModel", "place", "(I)I"⟩
abbrev gws_Md_place : List Cond := Cond.code gy_Md_place gb_Md_place 2 (some .int) :: gt_T
abbrev gb_Md_begins : ByteArray := prog_6_method_23_code
def gy_Md_begins : MethodName := ⟨"TermBookModel", "begins", "(I)I"⟩
abbrev gws_Md_begins : List Cond := Cond.code gy_Md_begins gb_Md_begins 7 (some .int) :: gt_T
abbrev gb_Md_from : ByteArray := prog_6_method_24_code
def gy_Md_from : MethodName := ⟨"TermBookModel", "from", "(I)I"⟩
abbrev gws_Md_from : List Cond := Cond.code gy_Md_from gb_Md_from 2 (some .int) :: gt_T
abbrev gb_Md_version : ByteArray := prog_6_method_25_code
def gy_Md_version : MethodName := ⟨"TermBookModel", "version", "()I"⟩
abbrev gws_Md_version : List Cond := Cond.code gy_Md_version gb_Md_version 2 (some .int) :: gt_T
abbrev gb_Md_keptAs : ByteArray := prog_6_method_26_code
def gy_Md_keptAs : MethodName := ⟨"TermBookModel", "keptAs", "(I)I"⟩
abbrev gws_Md_keptAs : List Cond := Cond.code gy_Md_keptAs gb_Md_keptAs 4 (some .int) :: gt_T
abbrev gb_Md_release : ByteArray := prog_6_method_27_code
def gy_Md_release : MethodName := ⟨"TermBookModel", "release", "(I)I"⟩
abbrev gws_Md_release : List Cond := Cond.code gy_Md_release gb_Md_release 5 (some .int) :: gt_T
abbrev gb_Md_had : ByteArray := prog_6_method_28_code
def gy_Md_had : MethodName := ⟨"TermBookModel", "had", "(II)I"⟩
abbrev gws_Md_had : List Cond := Cond.code gy_Md_had gb_Md_had 6 (some .int) :: gt_T
abbrev gb_Md_shared : ByteArray := prog_6_method_29_code
def gy_Md_shared : MethodName := ⟨"TermBookModel", "shared", "(I)I"⟩
abbrev gws_Md_shared : List Cond := Cond.code gy_Md_shared gb_Md_shared 8 (some .int) :: gt_T
abbrev gb_Md_cost : ByteArray := prog_6_method_30_code
def gy_Md_cost : MethodName := ⟨"TermBookModel", "cost", "(I)I"⟩
abbrev gws_Md_cost : List Cond := Cond.code gy_Md_cost gb_Md_cost 5 (some .int) :: gt_T
abbrev gb_Md_leaf : ByteArray := prog_6_method_31_code
def gy_Md_leaf : MethodName := ⟨"TermBookModel", "leaf", "(II)I"⟩
abbrev gws_Md_leaf : List Cond := Cond.code gy_Md_leaf gb_Md_leaf 3 (some .int) :: gt_T
abbrev gb_Md_count : ByteArray := prog_6_method_32_code
def gy_Md_count : MethodName := ⟨"TermBookModel", "count", "(I)I"⟩
abbrev gws_Md_count : List Cond := Cond.code gy_Md_count gb_Md_count 4 (some .int) :: gt_T
abbrev gb_Lv_init : ByteArray := prog_2_method_1_code
def gy_Lv_init : MethodName := ⟨"TermBook$Leaves", "<init>", "()V"⟩
abbrev gws_Lv_init : List Cond := Cond.code gy_Lv_init gb_Lv_init 1 none :: gt_T
abbrev gb_Lv_numberAt : ByteArray := prog_2_method_2_code
def gy_Lv_numberAt : MethodName := ⟨"TermBook$Leaves", "numberAt", "(I)I"⟩
abbrev gws_Lv_numberAt : List Cond := Cond.code gy_Lv_numberAt gb_Lv_numberAt 2 (some .int) :: gt_T
abbrev gb_Lv_placeOf : ByteArray := prog_2_method_3_code
def gy_Lv_placeOf : MethodName := ⟨"TermBook$Leaves", "placeOf", "(I)I"⟩
abbrev gws_Lv_placeOf : List Cond := Cond.code gy_Lv_placeOf gb_Lv_placeOf 3 (some .int) :: gt_T
abbrev gb_Lv_sizeOf : ByteArray := prog_2_method_4_code
def gy_Lv_sizeOf : MethodName := ⟨"TermBook$Leaves", "sizeOf", "(I)I"⟩
abbrev gws_Lv_sizeOf : List Cond := Cond.code gy_Lv_sizeOf gb_Lv_sizeOf 2 (some .int) :: gt_T
abbrev gb_Lv_startOf : ByteArray := prog_2_method_5_code
def gy_Lv_startOf : MethodName := ⟨"TermBook$Leaves", "startOf", "(I)I"⟩
abbrev gws_Lv_startOf : List Cond := Cond.code gy_Lv_startOf gb_Lv_startOf 4 (some .int) :: gt_T
abbrev gb_Lv_insert : ByteArray := prog_2_method_6_code
def gy_Lv_insert : MethodName := ⟨"TermBook$Leaves", "insert", "(II)V"⟩
abbrev gws_Lv_insert : List Cond := Cond.code gy_Lv_insert gb_Lv_insert 5 none :: gt_T
abbrev gb_Lv_remove : ByteArray := prog_2_method_7_code
def gy_Lv_remove : MethodName := ⟨"TermBook$Leaves", "remove", "(I)V"⟩
abbrev gws_Lv_remove : List Cond := Cond.code gy_Lv_remove gb_Lv_remove 4 none :: gt_T
abbrev gb_Lv_leafOf : ByteArray := prog_2_method_8_code
def gy_Lv_leafOf : MethodName := ⟨"TermBook$Leaves", "leafOf", "(I)I"⟩
abbrev gws_Lv_leafOf : List Cond := Cond.code gy_Lv_leafOf gb_Lv_leafOf 4 (some .int) :: gt_T
abbrev gb_Lv_resize : ByteArray := prog_2_method_9_code
def gy_Lv_resize : MethodName := ⟨"TermBook$Leaves", "resize", "(II)V"⟩
abbrev gws_Lv_resize : List Cond := Cond.code gy_Lv_resize gb_Lv_resize 3 none :: gt_T
abbrev gb_Lv_part : ByteArray := prog_2_method_10_code
def gy_Lv_part : MethodName := ⟨"TermBook$Leaves", "part", "(I)V"⟩
abbrev gws_Lv_part : List Cond := Cond.code gy_Lv_part gb_Lv_part 3 none :: gt_T
abbrev gb_Lv_mend : ByteArray := prog_2_method_11_code
def gy_Lv_mend : MethodName := ⟨"TermBook$Leaves", "mend", "(I)V"⟩
abbrev gws_Lv_mend : List Cond := Cond.code gy_Lv_mend gb_Lv_mend 3 none :: gt_T
abbrev gb_Lv_dropEmpty : ByteArray := prog_2_method_12_code
def gy_Lv_dropEmpty : MethodName := ⟨"TermBook$Leaves", "dropEmpty", "()V"⟩
abbrev gws_Lv_dropEmpty : List Cond := Cond.code gy_Lv_dropEmpty gb_Lv_dropEmpty 1 none :: gt_T
abbrev gb_Lv_joinNext : ByteArray := prog_2_method_13_code
def gy_Lv_joinNext : MethodName := ⟨"TermBook$Leaves", "joinNext", "(I)V"⟩
abbrev gws_Lv_joinNext : List Cond := Cond.code gy_Lv_joinNext gb_Lv_joinNext 3 none :: gt_T
abbrev gb_Tm_init : ByteArray := prog_3_method_1_code
def gy_Tm_init : MethodName := ⟨"TermBook$Term", "<init>", "()V"⟩
abbrev gws_Tm_init : List Cond := Cond.code gy_Tm_init gb_Tm_init 1 none :: gt_T
abbrev gb_Tm_comeAs : ByteArray := prog_3_method_2_code
def gy_Tm_comeAs : MethodName := ⟨"TermBook$Term", "comeAs", "(ILTermBook$Text;)V"⟩
abbrev gws_Tm_comeAs : List Cond := Cond.code gy_Tm_comeAs gb_Tm_comeAs 3 none :: gt_T
abbrev gb_Tm_compareWith : ByteArray := prog_3_method_3_code
def gy_Tm_compareWith : MethodName := ⟨"TermBook$Term", "compareWith", "(ILTermBook$Text;)I"⟩
abbrev gws_Tm_compareWith : List Cond := Cond.code gy_Tm_compareWith gb_Tm_compareWith 3 (some .int) :: gt_T
abbrev gb_Tm_keepFor : ByteArray := prog_3_method_4_code
def gy_Tm_keepFor : MethodName := ⟨"TermBook$Term", "keepFor", "(I)V"⟩
abbrev gws_Tm_keepFor : List Cond := Cond.code gy_Tm_keepFor gb_Tm_keepFor 2 none :: gt_T
abbrev gb_Tm_giveUpFor : ByteArray := prog_3_method_5_code
def gy_Tm_giveUpFor : MethodName := ⟨"TermBook$Term", "giveUpFor", "(I)V"⟩
abbrev gws_Tm_giveUpFor : List Cond := Cond.code gy_Tm_giveUpFor gb_Tm_giveUpFor 2 none :: gt_T
abbrev gb_Tm_isKeptFor : ByteArray := prog_3_method_6_code
def gy_Tm_isKeptFor : MethodName := ⟨"TermBook$Term", "isKeptFor", "(I)Z"⟩
abbrev gws_Tm_isKeptFor : List Cond := Cond.code gy_Tm_isKeptFor gb_Tm_isKeptFor 2 (some .boolean) :: gt_T
abbrev gb_Tm_isNeeded : ByteArray := prog_3_method_7_code
def gy_Tm_isNeeded : MethodName := ⟨"TermBook$Term", "isNeeded", "()Z"⟩
abbrev gws_Tm_isNeeded : List Cond := Cond.code gy_Tm_isNeeded gb_Tm_isNeeded 1 (some .boolean) :: gt_T
abbrev gb_Tx_init : ByteArray := prog_4_method_1_code
def gy_Tx_init : MethodName := ⟨"TermBook$Text", "<init>", "()V"⟩
abbrev gws_Tx_init : List Cond := Cond.code gy_Tx_init gb_Tx_init 1 none :: gt_T
abbrev gb_Tx_append : ByteArray := prog_4_method_2_code
def gy_Tx_append : MethodName := ⟨"TermBook$Text", "append", "(I)V"⟩
abbrev gws_Tx_append : List Cond := Cond.code gy_Tx_append gb_Tx_append 2 none :: gt_T
abbrev gb_Tx_empty : ByteArray := prog_4_method_3_code
def gy_Tx_empty : MethodName := ⟨"TermBook$Text", "empty", "()V"⟩
abbrev gws_Tx_empty : List Cond := Cond.code gy_Tx_empty gb_Tx_empty 1 none :: gt_T
abbrev gb_Tx_copyOf : ByteArray := prog_4_method_4_code
def gy_Tx_copyOf : MethodName := ⟨"TermBook$Text", "copyOf", "(LTermBook$Text;)V"⟩
abbrev gws_Tx_copyOf : List Cond := Cond.code gy_Tx_copyOf gb_Tx_copyOf 2 none :: gt_T
abbrev gb_Tx_byteAt : ByteArray := prog_4_method_5_code
def gy_Tx_byteAt : MethodName := ⟨"TermBook$Text", "byteAt", "(I)I"⟩
abbrev gws_Tx_byteAt : List Cond := Cond.code gy_Tx_byteAt gb_Tx_byteAt 2 (some .int) :: gt_T
abbrev gb_Tx_compareWith : ByteArray := prog_4_method_6_code
def gy_Tx_compareWith : MethodName := ⟨"TermBook$Text", "compareWith", "(LTermBook$Text;)I"⟩
abbrev gws_Tx_compareWith : List Cond := Cond.code gy_Tx_compareWith gb_Tx_compareWith 2 (some .int) :: gt_T
abbrev gb_Tx_sharedWith : ByteArray := prog_4_method_7_code
def gy_Tx_sharedWith : MethodName := ⟨"TermBook$Text", "sharedWith", "(LTermBook$Text;)I"⟩
abbrev gws_Tx_sharedWith : List Cond := Cond.code gy_Tx_sharedWith gb_Tx_sharedWith 3 (some .int) :: gt_T
abbrev gb_Tx_startsWith : ByteArray := prog_4_method_8_code
def gy_Tx_startsWith : MethodName := ⟨"TermBook$Text", "startsWith", "(LTermBook$Text;)Z"⟩
abbrev gws_Tx_startsWith : List Cond := Cond.code gy_Tx_startsWith gb_Tx_startsWith 2 (some .boolean) :: gt_T
abbrev gb_Ob_init : ByteArray := object_method_1_code
def gy_Ob_init : MethodName := ⟨"java/lang/Object", "<init>", "()V"⟩
abbrev gws_Ob_init : List Cond := Cond.code gy_Ob_init gb_Ob_init 1 none :: gt_T
abbrev gb_In_compare : ByteArray := prog_7_method_40_code
def gy_In_compare : MethodName := ⟨"java/lang/Integer", "compare", "(II)I"⟩
abbrev gws_In_compare : List Cond := Cond.code gy_In_compare gb_In_compare 2 (some .int) :: gt_T
abbrev gb_In_numberOfLeadingZeros : ByteArray := prog_7_method_47_code
def gy_In_numberOfLeadingZeros : MethodName := ⟨"java/lang/Integer", "numberOfLeadingZeros", "(I)I"⟩
abbrev gws_In_numberOfLeadingZeros : List Cond := Cond.code gy_In_numberOfLeadingZeros gb_In_numberOfLeadingZeros 2 (some .int) :: gt_T
abbrev gb_Lo_compare : ByteArray := prog_8_method_42_code
def gy_Lo_compare : MethodName := ⟨"java/lang/Long", "compare", "(JJ)I"⟩
abbrev gws_Lo_compare : List Cond := Cond.code gy_Lo_compare gb_Lo_compare 4 (some .int) :: gt_T
abbrev gb_Lo_numberOfLeadingZeros : ByteArray := prog_8_method_48_code
def gy_Lo_numberOfLeadingZeros : MethodName := ⟨"java/lang/Long", "numberOfLeadingZeros", "(J)I"⟩
abbrev gws_Lo_numberOfLeadingZeros : List Cond := Cond.code gy_Lo_numberOfLeadingZeros gb_Lo_numberOfLeadingZeros 3 (some .int) :: gt_T
abbrev gb_Ma_max : ByteArray := prog_9_method_65_code
def gy_Ma_max : MethodName := ⟨"java/lang/Math", "max", "(II)I"⟩
abbrev gws_Ma_max : List Cond := Cond.code gy_Ma_max gb_Ma_max 2 (some .int) :: gt_T
abbrev gb_Ma_min : ByteArray := prog_9_method_69_code
def gy_Ma_min : MethodName := ⟨"java/lang/Math", "min", "(II)I"⟩
abbrev gws_Ma_min : List Cond := Cond.code gy_Ma_min gb_Ma_min 2 (some .int) :: gt_T
theorem gl_Bk : ∀ w ∈ u_ws gR_Bk gT_Bk 5, w ∈ gt_T := by
  have h : ∀ w ∈ u_ws gR_Bk gT_Bk 5, w ∈ tables_1 ∧ goodWord w = true := by decide +kernel
  exact fun w hw => List.mem_append_right _ (List.mem_filter.mpr (h w hw))
theorem gl_Lv : ∀ w ∈ u_ws gR_Lv gT_Lv 4, w ∈ gt_T := by
  have h : ∀ w ∈ u_ws gR_Lv gT_Lv 4, w ∈ tables_1 ∧ goodWord w = true := by decide +kernel
  exact fun w hw => List.mem_append_right _ (List.mem_filter.mpr (h w hw))
theorem gl_Tx : ∀ w ∈ u_ws gR_Tx gT_Tx 3, w ∈ gt_T := by
  have h : ∀ w ∈ u_ws gR_Tx gT_Tx 3, w ∈ tables_1 ∧ goodWord w = true := by decide +kernel
  exact fun w hw => List.mem_append_right _ (List.mem_filter.mpr (h w hw))
theorem gl_Tm : ∀ w ∈ u_ws gR_Tm gT_Tm 5, w ∈ gt_T := by
  have h : ∀ w ∈ u_ws gR_Tm gT_Tm 5, w ∈ tables_1 ∧ goodWord w = true := by decide +kernel
  exact fun w hw => List.mem_append_right _ (List.mem_filter.mpr (h w hw))
theorem gl_Md : ∀ w ∈ u_ws gR_Md gT_Md 16, w ∈ gt_T := by
  have h : ∀ w ∈ u_ws gR_Md gT_Md 16, w ∈ tables_1 ∧ goodWord w = true := by decide +kernel
  exact fun w hw => List.mem_append_right _ (List.mem_filter.mpr (h w hw))
end
section
theorem gd_Ob_init_0 : decode gb_Ob_init 0 = .ok (.return_, 1) := by decide +kernel
theorem gd_In_compare_0 : decode gb_In_compare 0 = .ok (.iload_n 0, 1) := by decide +kernel
theorem gd_In_compare_1 : decode gb_In_compare 1 = .ok (.iload_n 1, 1) := by decide +kernel
theorem gd_In_compare_2 : decode gb_In_compare 2 = .ok (.if_icmp .ge 7, 3) := by decide +kernel
theorem gd_In_compare_5 : decode gb_In_compare 5 = .ok (.iconst (-1), 1) := by decide +kernel
theorem gd_In_compare_6 : decode gb_In_compare 6 = .ok (.goto 13, 3) := by decide +kernel
theorem gd_In_compare_9 : decode gb_In_compare 9 = .ok (.iload_n 0, 1) := by decide +kernel
theorem gd_In_compare_10 : decode gb_In_compare 10 = .ok (.iload_n 1, 1) := by decide +kernel
theorem gd_In_compare_11 : decode gb_In_compare 11 = .ok (.if_icmp .ne 7, 3) := by decide +kernel
theorem gd_In_compare_14 : decode gb_In_compare 14 = .ok (.iconst 0, 1) := by decide +kernel
theorem gd_In_compare_15 : decode gb_In_compare 15 = .ok (.goto 4, 3) := by decide +kernel
theorem gd_In_compare_18 : decode gb_In_compare 18 = .ok (.iconst 1, 1) := by decide +kernel
theorem gd_In_compare_19 : decode gb_In_compare 19 = .ok (.ireturn, 1) := by decide +kernel
theorem gd_In_numberOfLeadingZeros_0 : decode gb_In_numberOfLeadingZeros 0 = .ok (.iload_n 0, 1) := by decide +kernel
theorem gd_In_numberOfLeadingZeros_1 : decode gb_In_numberOfLeadingZeros 1 = .ok (.ifCond .gt 14, 3) := by decide +kernel
theorem gd_In_numberOfLeadingZeros_4 : decode gb_In_numberOfLeadingZeros 4 = .ok (.iload_n 0, 1) := by decide +kernel
theorem gd_In_numberOfLeadingZeros_5 : decode gb_In_numberOfLeadingZeros 5 = .ok (.ifCond .ne 8, 3) := by decide +kernel
theorem gd_In_numberOfLeadingZeros_8 : decode gb_In_numberOfLeadingZeros 8 = .ok (.bipush 32, 2) := by decide +kernel
theorem gd_In_numberOfLeadingZeros_10 : decode gb_In_numberOfLeadingZeros 10 = .ok (.goto 4, 3) := by decide +kernel
theorem gd_In_numberOfLeadingZeros_13 : decode gb_In_numberOfLeadingZeros 13 = .ok (.iconst 0, 1) := by decide +kernel
theorem gd_In_numberOfLeadingZeros_14 : decode gb_In_numberOfLeadingZeros 14 = .ok (.ireturn, 1) := by decide +kernel
theorem gd_In_numberOfLeadingZeros_15 : decode gb_In_numberOfLeadingZeros 15 = .ok (.bipush 31, 2) := by decide +kernel
theorem gd_In_numberOfLeadingZeros_17 : decode gb_In_numberOfLeadingZeros 17 = .ok (.istore_n 1, 1) := by decide +kernel
theorem gd_In_numberOfLeadingZeros_18 : decode gb_In_numberOfLeadingZeros 18 = .ok (.iload_n 0, 1) := by decide +kernel
theorem gd_In_numberOfLeadingZeros_19 : decode gb_In_numberOfLeadingZeros 19 = .ok (.ldc_w 264, 3) := by decide +kernel
theorem gd_In_numberOfLeadingZeros_22 : decode gb_In_numberOfLeadingZeros 22 = .ok (.if_icmp .lt 11, 3) := by decide +kernel
theorem gd_In_numberOfLeadingZeros_25 : decode gb_In_numberOfLeadingZeros 25 = .ok (.iinc 1 (-16), 3) := by decide +kernel
theorem gd_In_numberOfLeadingZeros_28 : decode gb_In_numberOfLeadingZeros 28 = .ok (.iload_n 0, 1) := by decide +kernel
theorem gd_In_numberOfLeadingZeros_29 : decode gb_In_numberOfLeadingZeros 29 = .ok (.bipush 16, 2) := by decide +kernel
theorem gd_In_numberOfLeadingZeros_31 : decode gb_In_numberOfLeadingZeros 31 = .ok (.iushr, 1) := by decide +kernel
theorem gd_In_numberOfLeadingZeros_32 : decode gb_In_numberOfLeadingZeros 32 = .ok (.istore_n 0, 1) := by decide +kernel
theorem gd_In_numberOfLeadingZeros_33 : decode gb_In_numberOfLeadingZeros 33 = .ok (.iload_n 0, 1) := by decide +kernel
theorem gd_In_numberOfLeadingZeros_34 : decode gb_In_numberOfLeadingZeros 34 = .ok (.sipush 256, 3) := by decide +kernel
theorem gd_In_numberOfLeadingZeros_37 : decode gb_In_numberOfLeadingZeros 37 = .ok (.if_icmp .lt 11, 3) := by decide +kernel
theorem gd_In_numberOfLeadingZeros_40 : decode gb_In_numberOfLeadingZeros 40 = .ok (.iinc 1 (-8), 3) := by decide +kernel
theorem gd_In_numberOfLeadingZeros_43 : decode gb_In_numberOfLeadingZeros 43 = .ok (.iload_n 0, 1) := by decide +kernel
theorem gd_In_numberOfLeadingZeros_44 : decode gb_In_numberOfLeadingZeros 44 = .ok (.bipush 8, 2) := by decide +kernel
theorem gd_In_numberOfLeadingZeros_46 : decode gb_In_numberOfLeadingZeros 46 = .ok (.iushr, 1) := by decide +kernel
theorem gd_In_numberOfLeadingZeros_47 : decode gb_In_numberOfLeadingZeros 47 = .ok (.istore_n 0, 1) := by decide +kernel
theorem gd_In_numberOfLeadingZeros_48 : decode gb_In_numberOfLeadingZeros 48 = .ok (.iload_n 0, 1) := by decide +kernel
theorem gd_In_numberOfLeadingZeros_49 : decode gb_In_numberOfLeadingZeros 49 = .ok (.bipush 16, 2) := by decide +kernel
theorem gd_In_numberOfLeadingZeros_51 : decode gb_In_numberOfLeadingZeros 51 = .ok (.if_icmp .lt 10, 3) := by decide +kernel
theorem gd_In_numberOfLeadingZeros_54 : decode gb_In_numberOfLeadingZeros 54 = .ok (.iinc 1 (-4), 3) := by decide +kernel
theorem gd_In_numberOfLeadingZeros_57 : decode gb_In_numberOfLeadingZeros 57 = .ok (.iload_n 0, 1) := by decide +kernel
theorem gd_In_numberOfLeadingZeros_58 : decode gb_In_numberOfLeadingZeros 58 = .ok (.iconst 4, 1) := by decide +kernel
theorem gd_In_numberOfLeadingZeros_59 : decode gb_In_numberOfLeadingZeros 59 = .ok (.iushr, 1) := by decide +kernel
theorem gd_In_numberOfLeadingZeros_60 : decode gb_In_numberOfLeadingZeros 60 = .ok (.istore_n 0, 1) := by decide +kernel
theorem gd_In_numberOfLeadingZeros_61 : decode gb_In_numberOfLeadingZeros 61 = .ok (.iload_n 0, 1) := by decide +kernel
theorem gd_In_numberOfLeadingZeros_62 : decode gb_In_numberOfLeadingZeros 62 = .ok (.iconst 4, 1) := by decide +kernel
theorem gd_In_numberOfLeadingZeros_63 : decode gb_In_numberOfLeadingZeros 63 = .ok (.if_icmp .lt 10, 3) := by decide +kernel
theorem gd_In_numberOfLeadingZeros_66 : decode gb_In_numberOfLeadingZeros 66 = .ok (.iinc 1 (-2), 3) := by decide +kernel
theorem gd_In_numberOfLeadingZeros_69 : decode gb_In_numberOfLeadingZeros 69 = .ok (.iload_n 0, 1) := by decide +kernel
theorem gd_In_numberOfLeadingZeros_70 : decode gb_In_numberOfLeadingZeros 70 = .ok (.iconst 2, 1) := by decide +kernel
theorem gd_In_numberOfLeadingZeros_71 : decode gb_In_numberOfLeadingZeros 71 = .ok (.iushr, 1) := by decide +kernel
theorem gd_In_numberOfLeadingZeros_72 : decode gb_In_numberOfLeadingZeros 72 = .ok (.istore_n 0, 1) := by decide +kernel
theorem gd_In_numberOfLeadingZeros_73 : decode gb_In_numberOfLeadingZeros 73 = .ok (.iload_n 1, 1) := by decide +kernel
theorem gd_In_numberOfLeadingZeros_74 : decode gb_In_numberOfLeadingZeros 74 = .ok (.iload_n 0, 1) := by decide +kernel
theorem gd_In_numberOfLeadingZeros_75 : decode gb_In_numberOfLeadingZeros 75 = .ok (.iconst 1, 1) := by decide +kernel
theorem gd_In_numberOfLeadingZeros_76 : decode gb_In_numberOfLeadingZeros 76 = .ok (.iushr, 1) := by decide +kernel
theorem gd_In_numberOfLeadingZeros_77 : decode gb_In_numberOfLeadingZeros 77 = .ok (.isub, 1) := by decide +kernel
theorem gd_In_numberOfLeadingZeros_78 : decode gb_In_numberOfLeadingZeros 78 = .ok (.ireturn, 1) := by decide +kernel
theorem gd_Lo_compare_0 : decode gb_Lo_compare 0 = .ok (.lload_n 0, 1) := by decide +kernel
theorem gd_Lo_compare_1 : decode gb_Lo_compare 1 = .ok (.lload_n 2, 1) := by decide +kernel
theorem gd_Lo_compare_2 : decode gb_Lo_compare 2 = .ok (.lcmp, 1) := by decide +kernel
theorem gd_Lo_compare_3 : decode gb_Lo_compare 3 = .ok (.ifCond .ge 7, 3) := by decide +kernel
theorem gd_Lo_compare_6 : decode gb_Lo_compare 6 = .ok (.iconst (-1), 1) := by decide +kernel
theorem gd_Lo_compare_7 : decode gb_Lo_compare 7 = .ok (.goto 14, 3) := by decide +kernel
theorem gd_Lo_compare_10 : decode gb_Lo_compare 10 = .ok (.lload_n 0, 1) := by decide +kernel
theorem gd_Lo_compare_11 : decode gb_Lo_compare 11 = .ok (.lload_n 2, 1) := by decide +kernel
theorem gd_Lo_compare_12 : decode gb_Lo_compare 12 = .ok (.lcmp, 1) := by decide +kernel
theorem gd_Lo_compare_13 : decode gb_Lo_compare 13 = .ok (.ifCond .ne 7, 3) := by decide +kernel
theorem gd_Lo_compare_16 : decode gb_Lo_compare 16 = .ok (.iconst 0, 1) := by decide +kernel
theorem gd_Lo_compare_17 : decode gb_Lo_compare 17 = .ok (.goto 4, 3) := by decide +kernel
theorem gd_Lo_compare_20 : decode gb_Lo_compare 20 = .ok (.iconst 1, 1) := by decide +kernel
theorem gd_Lo_compare_21 : decode gb_Lo_compare 21 = .ok (.ireturn, 1) := by decide +kernel
theorem gd_Lo_numberOfLeadingZeros_0 : decode gb_Lo_numberOfLeadingZeros 0 = .ok (.lload_n 0, 1) := by decide +kernel
theorem gd_Lo_numberOfLeadingZeros_1 : decode gb_Lo_numberOfLeadingZeros 1 = .ok (.bipush 32, 2) := by decide +kernel
theorem gd_Lo_numberOfLeadingZeros_3 : decode gb_Lo_numberOfLeadingZeros 3 = .ok (.lushr, 1) := by decide +kernel
theorem gd_Lo_numberOfLeadingZeros_4 : decode gb_Lo_numberOfLeadingZeros 4 = .ok (.l2i, 1) := by decide +kernel
theorem gd_Lo_numberOfLeadingZeros_5 : decode gb_Lo_numberOfLeadingZeros 5 = .ok (.istore_n 2, 1) := by decide +kernel
theorem gd_Lo_numberOfLeadingZeros_6 : decode gb_Lo_numberOfLeadingZeros 6 = .ok (.iload_n 2, 1) := by decide +kernel
theorem gd_Lo_numberOfLeadingZeros_7 : decode gb_Lo_numberOfLeadingZeros 7 = .ok (.ifCond .ne 14, 3) := by decide +kernel
theorem gd_Lo_numberOfLeadingZeros_10 : decode gb_Lo_numberOfLeadingZeros 10 = .ok (.bipush 32, 2) := by decide +kernel
theorem gd_Lo_numberOfLeadingZeros_12 : decode gb_Lo_numberOfLeadingZeros 12 = .ok (.lload_n 0, 1) := by decide +kernel
theorem gd_Lo_numberOfLeadingZeros_13 : decode gb_Lo_numberOfLeadingZeros 13 = .ok (.l2i, 1) := by decide +kernel
theorem gd_Lo_numberOfLeadingZeros_14 : decode gb_Lo_numberOfLeadingZeros 14 = .ok (.invokestatic 308, 3) := by decide +kernel
theorem gd_Lo_numberOfLeadingZeros_17 : decode gb_Lo_numberOfLeadingZeros 17 = .ok (.iadd, 1) := by decide +kernel
theorem gd_Lo_numberOfLeadingZeros_18 : decode gb_Lo_numberOfLeadingZeros 18 = .ok (.goto 7, 3) := by decide +kernel
theorem gd_Lo_numberOfLeadingZeros_21 : decode gb_Lo_numberOfLeadingZeros 21 = .ok (.iload_n 2, 1) := by decide +kernel
theorem gd_Lo_numberOfLeadingZeros_22 : decode gb_Lo_numberOfLeadingZeros 22 = .ok (.invokestatic 308, 3) := by decide +kernel
theorem gd_Lo_numberOfLeadingZeros_25 : decode gb_Lo_numberOfLeadingZeros 25 = .ok (.ireturn, 1) := by decide +kernel
theorem gd_Ma_max_0 : decode gb_Ma_max 0 = .ok (.iload_n 0, 1) := by decide +kernel
theorem gd_Ma_max_1 : decode gb_Ma_max 1 = .ok (.iload_n 1, 1) := by decide +kernel
theorem gd_Ma_max_2 : decode gb_Ma_max 2 = .ok (.if_icmp .lt 7, 3) := by decide +kernel
theorem gd_Ma_max_5 : decode gb_Ma_max 5 = .ok (.iload_n 0, 1) := by decide +kernel
theorem gd_Ma_max_6 : decode gb_Ma_max 6 = .ok (.goto 4, 3) := by decide +kernel
theorem gd_Ma_max_9 : decode gb_Ma_max 9 = .ok (.iload_n 1, 1) := by decide +kernel
theorem gd_Ma_max_10 : decode gb_Ma_max 10 = .ok (.ireturn, 1) := by decide +kernel
theorem gd_Ma_min_0 : decode gb_Ma_min 0 = .ok (.iload_n 0, 1) := by decide +kernel
theorem gd_Ma_min_1 : decode gb_Ma_min 1 = .ok (.iload_n 1, 1) := by decide +kernel
theorem gd_Ma_min_2 : decode gb_Ma_min 2 = .ok (.if_icmp .gt 7, 3) := by decide +kernel
theorem gd_Ma_min_5 : decode gb_Ma_min 5 = .ok (.iload_n 0, 1) := by decide +kernel
theorem gd_Ma_min_6 : decode gb_Ma_min 6 = .ok (.goto 4, 3) := by decide +kernel
theorem gd_Ma_min_9 : decode gb_Ma_min 9 = .ok (.iload_n 1, 1) := by decide +kernel
theorem gd_Ma_min_10 : decode gb_Ma_min 10 = .ok (.ireturn, 1) := by decide +kernel
theorem gd_Bk_init_0 : decode gb_Bk_init 0 = .ok (.aload_n 0, 1) := by decide +kernel
theorem gd_Bk_init_1 : decode gb_Bk_init 1 = .ok (.invokespecial 1, 3) := by decide +kernel
theorem gd_Bk_init_4 : decode gb_Bk_init 4 = .ok (.aload_n 0, 1) := by decide +kernel
theorem gd_Bk_init_5 : decode gb_Bk_init 5 = .ok (.new 7, 3) := by decide +kernel
theorem gd_Bk_init_8 : decode gb_Bk_init 8 = .ok (.dup, 1) := by decide +kernel
theorem gd_Bk_init_9 : decode gb_Bk_init 9 = .ok (.invokespecial 9, 3) := by decide +kernel
theorem gd_Bk_init_12 : decode gb_Bk_init 12 = .ok (.putfield 10, 3) := by decide +kernel
theorem gd_Bk_init_15 : decode gb_Bk_init 15 = .ok (.aload_n 0, 1) := by decide +kernel
theorem gd_Bk_init_16 : decode gb_Bk_init 16 = .ok (.bipush 100, 2) := by decide +kernel
theorem gd_Bk_init_18 : decode gb_Bk_init 18 = .ok (.anewarray 16, 3) := by decide +kernel
theorem gd_Bk_init_21 : decode gb_Bk_init 21 = .ok (.putfield 18, 3) := by decide +kernel
theorem gd_Bk_init_24 : decode gb_Bk_init 24 = .ok (.iconst 0, 1) := by decide +kernel
theorem gd_Bk_init_25 : decode gb_Bk_init 25 = .ok (.istore_n 1, 1) := by decide +kernel
theorem gd_Bk_init_26 : decode gb_Bk_init 26 = .ok (.iload_n 1, 1) := by decide +kernel
theorem gd_Bk_init_27 : decode gb_Bk_init 27 = .ok (.aload_n 0, 1) := by decide +kernel
theorem gd_Bk_init_28 : decode gb_Bk_init 28 = .ok (.getfield 18, 3) := by decide +kernel
theorem gd_Bk_init_31 : decode gb_Bk_init 31 = .ok (.arraylength, 1) := by decide +kernel
theorem gd_Bk_init_32 : decode gb_Bk_init 32 = .ok (.if_icmp .ge 22, 3) := by decide +kernel
theorem gd_Bk_init_35 : decode gb_Bk_init 35 = .ok (.aload_n 0, 1) := by decide +kernel
theorem gd_Bk_init_36 : decode gb_Bk_init 36 = .ok (.getfield 18, 3) := by decide +kernel
theorem gd_Bk_init_39 : decode gb_Bk_init 39 = .ok (.iload_n 1, 1) := by decide +kernel
theorem gd_Bk_init_40 : decode gb_Bk_init 40 = .ok (.new 16, 3) := by decide +kernel
theorem gd_Bk_init_43 : decode gb_Bk_init 43 = .ok (.dup, 1) := by decide +kernel
theorem gd_Bk_init_44 : decode gb_Bk_init 44 = .ok (.invokespecial 22, 3) := by decide +kernel
theorem gd_Bk_init_47 : decode gb_Bk_init 47 = .ok (.aastore, 1) := by decide +kernel
theorem gd_Bk_init_48 : decode gb_Bk_init 48 = .ok (.iinc 1 1, 3) := by decide +kernel
theorem gd_Bk_init_51 : decode gb_Bk_init 51 = .ok (.goto (-25), 3) := by decide +kernel
theorem gd_Bk_init_54 : decode gb_Bk_init 54 = .ok (.aload_n 0, 1) := by decide +kernel
theorem gd_Bk_init_55 : decode gb_Bk_init 55 = .ok (.new 23, 3) := by decide +kernel
theorem gd_Bk_init_58 : decode gb_Bk_init 58 = .ok (.dup, 1) := by decide +kernel
theorem gd_Bk_init_59 : decode gb_Bk_init 59 = .ok (.invokespecial 25, 3) := by decide +kernel
theorem gd_Bk_init_62 : decode gb_Bk_init 62 = .ok (.putfield 26, 3) := by decide +kernel
theorem gd_Bk_init_65 : decode gb_Bk_init 65 = .ok (.aload_n 0, 1) := by decide +kernel
theorem gd_Bk_init_66 : decode gb_Bk_init 66 = .ok (.bipush 6, 2) := by decide +kernel
theorem gd_Bk_init_68 : decode gb_Bk_init 68 = .ok (.newarray .int, 2) := by decide +kernel
theorem gd_Bk_init_70 : decode gb_Bk_init 70 = .ok (.putfield 30, 3) := by decide +kernel
theorem gd_Bk_init_73 : decode gb_Bk_init 73 = .ok (.iconst 0, 1) := by decide +kernel
theorem gd_Bk_init_74 : decode gb_Bk_init 74 = .ok (.istore_n 1, 1) := by decide +kernel
theorem gd_Bk_init_75 : decode gb_Bk_init 75 = .ok (.iload_n 1, 1) := by decide +kernel
theorem gd_Bk_init_76 : decode gb_Bk_init 76 = .ok (.aload_n 0, 1) := by decide +kernel
theorem gd_Bk_init_77 : decode gb_Bk_init 77 = .ok (.getfield 30, 3) := by decide +kernel
theorem gd_Bk_init_80 : decode gb_Bk_init 80 = .ok (.arraylength, 1) := by decide +kernel
theorem gd_Bk_init_81 : decode gb_Bk_init 81 = .ok (.if_icmp .ge 16, 3) := by decide +kernel
theorem gd_Bk_init_84 : decode gb_Bk_init 84 = .ok (.aload_n 0, 1) := by decide +kernel
theorem gd_Bk_init_85 : decode gb_Bk_init 85 = .ok (.getfield 30, 3) := by decide +kernel
theorem gd_Bk_init_88 : decode gb_Bk_init 88 = .ok (.iload_n 1, 1) := by decide +kernel
theorem gd_Bk_init_89 : decode gb_Bk_init 89 = .ok (.iconst (-1), 1) := by decide +kernel
theorem gd_Bk_init_90 : decode gb_Bk_init 90 = .ok (.iastore, 1) := by decide +kernel
theorem gd_Bk_init_91 : decode gb_Bk_init 91 = .ok (.iinc 1 1, 3) := by decide +kernel
theorem gd_Bk_init_94 : decode gb_Bk_init 94 = .ok (.goto (-19), 3) := by decide +kernel
theorem gd_Bk_init_97 : decode gb_Bk_init 97 = .ok (.aload_n 0, 1) := by decide +kernel
theorem gd_Bk_init_98 : decode gb_Bk_init 98 = .ok (.iconst 0, 1) := by decide +kernel
theorem gd_Bk_init_99 : decode gb_Bk_init 99 = .ok (.putfield 34, 3) := by decide +kernel
theorem gd_Bk_init_102 : decode gb_Bk_init 102 = .ok (.return_, 1) := by decide +kernel
theorem gd_Bk_type_0 : decode gb_Bk_type 0 = .ok (.iload_n 3, 1) := by decide +kernel
theorem gd_Bk_type_1 : decode gb_Bk_type 1 = .ok (.iconst 1, 1) := by decide +kernel
theorem gd_Bk_type_2 : decode gb_Bk_type 2 = .ok (.if_icmp .lt 17, 3) := by decide +kernel
theorem gd_Bk_type_5 : decode gb_Bk_type 5 = .ok (.iload_n 3, 1) := by decide +kernel
theorem gd_Bk_type_6 : decode gb_Bk_type 6 = .ok (.bipush 8, 2) := by decide +kernel
theorem gd_Bk_type_8 : decode gb_Bk_type 8 = .ok (.if_icmp .gt 11, 3) := by decide +kernel
theorem gd_Bk_type_11 : decode gb_Bk_type 11 = .ok (.lload_n 1, 1) := by decide +kernel
theorem gd_Bk_type_12 : decode gb_Bk_type 12 = .ok (.iload_n 3, 1) := by decide +kernel
theorem gd_Bk_type_13 : decode gb_Bk_type 13 = .ok (.invokestatic 38, 3) := by decide +kernel
theorem gd_Bk_type_16 : decode gb_Bk_type 16 = .ok (.ifCond .ne 5, 3) := by decide +kernel
theorem gd_Bk_type_19 : decode gb_Bk_type 19 = .ok (.iconst (-1), 1) := by decide +kernel
theorem gd_Bk_type_20 : decode gb_Bk_type 20 = .ok (.ireturn, 1) := by decide +kernel
theorem gd_Bk_type_21 : decode gb_Bk_type 21 = .ok (.aload_n 0, 1) := by decide +kernel
theorem gd_Bk_type_22 : decode gb_Bk_type 22 = .ok (.getfield 10, 3) := by decide +kernel
theorem gd_Bk_type_25 : decode gb_Bk_type 25 = .ok (.getfield 42, 3) := by decide +kernel
theorem gd_Bk_type_28 : decode gb_Bk_type 28 = .ok (.iload_n 3, 1) := by decide +kernel
theorem gd_Bk_type_29 : decode gb_Bk_type 29 = .ok (.iadd, 1) := by decide +kernel
theorem gd_Bk_type_30 : decode gb_Bk_type 30 = .ok (.bipush 16, 2) := by decide +kernel
theorem gd_Bk_type_32 : decode gb_Bk_type 32 = .ok (.if_icmp .le 6, 3) := by decide +kernel
theorem gd_Bk_type_35 : decode gb_Bk_type 35 = .ok (.bipush (-3), 2) := by decide +kernel
theorem gd_Bk_type_37 : decode gb_Bk_type 37 = .ok (.ireturn, 1) := by decide +kernel
theorem gd_Bk_type_38 : decode gb_Bk_type 38 = .ok (.iload_n 3, 1) := by decide +kernel
theorem gd_Bk_type_39 : decode gb_Bk_type 39 = .ok (.iconst 1, 1) := by decide +kernel
theorem gd_Bk_type_40 : decode gb_Bk_type 40 = .ok (.isub, 1) := by decide +kernel
theorem gd_Bk_type_41 : decode gb_Bk_type 41 = .ok (.istore 4, 2) := by decide +kernel
theorem gd_Bk_type_43 : decode gb_Bk_type 43 = .ok (.iload 4, 2) := by decide +kernel
theorem gd_Bk_type_45 : decode gb_Bk_type 45 = .ok (.ifCond .lt 22, 3) := by decide +kernel
theorem gd_Bk_type_48 : decode gb_Bk_type 48 = .ok (.aload_n 0, 1) := by decide +kernel
theorem gd_Bk_type_49 : decode gb_Bk_type 49 = .ok (.getfield 10, 3) := by decide +kernel
theorem gd_Bk_type_52 : decode gb_Bk_type 52 = .ok (.lload_n 1, 1) := by decide +kernel
theorem gd_Bk_type_53 : decode gb_Bk_type 53 = .ok (.iload 4, 2) := by decide +kernel
theorem gd_Bk_type_55 : decode gb_Bk_type 55 = .ok (.invokestatic 45, 3) := by decide +kernel
theorem gd_Bk_type_58 : decode gb_Bk_type 58 = .ok (.invokevirtual 49, 3) := by decide +kernel
theorem gd_Bk_type_61 : decode gb_Bk_type 61 = .ok (.iinc 4 (-1), 3) := by decide +kernel
theorem gd_Bk_type_64 : decode gb_Bk_type 64 = .ok (.goto (-21), 3) := by decide +kernel
theorem gd_Bk_type_67 : decode gb_Bk_type 67 = .ok (.aload_n 0, 1) := by decide +kernel
theorem gd_Bk_type_68 : decode gb_Bk_type 68 = .ok (.getfield 10, 3) := by decide +kernel
theorem gd_Bk_type_71 : decode gb_Bk_type 71 = .ok (.getfield 42, 3) := by decide +kernel
theorem gd_Bk_type_74 : decode gb_Bk_type 74 = .ok (.ireturn, 1) := by decide +kernel
theorem gd_Bk_clear_0 : decode gb_Bk_clear 0 = .ok (.aload_n 0, 1) := by decide +kernel
theorem gd_Bk_clear_1 : decode gb_Bk_clear 1 = .ok (.getfield 10, 3) := by decide +kernel
theorem gd_Bk_clear_4 : decode gb_Bk_clear 4 = .ok (.getfield 42, 3) := by decide +kernel
theorem gd_Bk_clear_7 : decode gb_Bk_clear 7 = .ok (.istore_n 1, 1) := by decide +kernel
theorem gd_Bk_clear_8 : decode gb_Bk_clear 8 = .ok (.aload_n 0, 1) := by decide +kernel
theorem gd_Bk_clear_9 : decode gb_Bk_clear 9 = .ok (.getfield 10, 3) := by decide +kernel
theorem gd_Bk_clear_12 : decode gb_Bk_clear 12 = .ok (.invokevirtual 53, 3) := by decide +kernel
theorem gd_Bk_clear_15 : decode gb_Bk_clear 15 = .ok (.iload_n 1, 1) := by decide +kernel
theorem gd_Bk_clear_16 : decode gb_Bk_clear 16 = .ok (.ireturn, 1) := by decide +kernel
theorem gd_Bk_add_0 : decode gb_Bk_add 0 = .ok (.iload_n 1, 1) := by decide +kernel
theorem gd_Bk_add_1 : decode gb_Bk_add 1 = .ok (.invokestatic 56, 3) := by decide +kernel
theorem gd_Bk_add_4 : decode gb_Bk_add 4 = .ok (.ifCond .eq 21, 3) := by decide +kernel
theorem gd_Bk_add_7 : decode gb_Bk_add 7 = .ok (.aload_n 0, 1) := by decide +kernel
theorem gd_Bk_add_8 : decode gb_Bk_add 8 = .ok (.getfield 10, 3) := by decide +kernel
theorem gd_Bk_add_11 : decode gb_Bk_add 11 = .ok (.getfield 42, 3) := by decide +kernel
theorem gd_Bk_add_14 : decode gb_Bk_add 14 = .ok (.ifCond .le 11, 3) := by decide +kernel
theorem gd_Bk_add_17 : decode gb_Bk_add 17 = .ok (.aload_n 0, 1) := by decide +kernel
theorem gd_Bk_add_18 : decode gb_Bk_add 18 = .ok (.iload_n 1, 1) := by decide +kernel
theorem gd_Bk_add_19 : decode gb_Bk_add 19 = .ok (.invokevirtual 60, 3) := by decide +kernel
theorem gd_Bk_add_22 : decode gb_Bk_add 22 = .ok (.goto 4, 3) := by decide +kernel
theorem gd_Bk_add_25 : decode gb_Bk_add 25 = .ok (.iconst (-1), 1) := by decide +kernel
theorem gd_Bk_add_26 : decode gb_Bk_add 26 = .ok (.istore_n 2, 1) := by decide +kernel
theorem gd_Bk_add_27 : decode gb_Bk_add 27 = .ok (.aload_n 0, 1) := by decide +kernel
theorem gd_Bk_add_28 : decode gb_Bk_add 28 = .ok (.getfield 10, 3) := by decide +kernel
theorem gd_Bk_add_31 : decode gb_Bk_add 31 = .ok (.invokevirtual 53, 3) := by decide +kernel
theorem gd_Bk_add_34 : decode gb_Bk_add 34 = .ok (.iload_n 2, 1) := by decide +kernel
theorem gd_Bk_add_35 : decode gb_Bk_add 35 = .ok (.ireturn, 1) := by decide +kernel
theorem gd_Bk_drop_0 : decode gb_Bk_drop 0 = .ok (.aload_n 0, 1) := by decide +kernel
theorem gd_Bk_drop_1 : decode gb_Bk_drop 1 = .ok (.iload_n 1, 1) := by decide +kernel
theorem gd_Bk_drop_2 : decode gb_Bk_drop 2 = .ok (.invokevirtual 64, 3) := by decide +kernel
theorem gd_Bk_drop_5 : decode gb_Bk_drop 5 = .ok (.astore_n 2, 1) := by decide +kernel
theorem gd_Bk_drop_6 : decode gb_Bk_drop 6 = .ok (.aload_n 2, 1) := by decide +kernel
theorem gd_Bk_drop_7 : decode gb_Bk_drop 7 = .ok (.ifnull 10, 3) := by decide +kernel
theorem gd_Bk_drop_10 : decode gb_Bk_drop 10 = .ok (.aload_n 2, 1) := by decide +kernel
theorem gd_Bk_drop_11 : decode gb_Bk_drop 11 = .ok (.getfield 68, 3) := by decide +kernel
theorem gd_Bk_drop_14 : decode gb_Bk_drop 14 = .ok (.ifCond .ne 5, 3) := by decide +kernel
theorem gd_Bk_drop_17 : decode gb_Bk_drop 17 = .ok (.iconst (-1), 1) := by decide +kernel
theorem gd_Bk_drop_18 : decode gb_Bk_drop 18 = .ok (.ireturn, 1) := by decide +kernel
theorem gd_Bk_drop_19 : decode gb_Bk_drop 19 = .ok (.aload_n 2, 1) := by decide +kernel
theorem gd_Bk_drop_20 : decode gb_Bk_drop 20 = .ok (.dup, 1) := by decide +kernel
theorem gd_Bk_drop_21 : decode gb_Bk_drop 21 = .ok (.getfield 68, 3) := by decide +kernel
theorem gd_Bk_drop_24 : decode gb_Bk_drop 24 = .ok (.iconst 1, 1) := by decide +kernel
theorem gd_Bk_drop_25 : decode gb_Bk_drop 25 = .ok (.isub, 1) := by decide +kernel
theorem gd_Bk_drop_26 : decode gb_Bk_drop 26 = .ok (.putfield 68, 3) := by decide +kernel
theorem gd_Bk_drop_29 : decode gb_Bk_drop 29 = .ok (.aload_n 2, 1) := by decide +kernel
theorem gd_Bk_drop_30 : decode gb_Bk_drop 30 = .ok (.invokevirtual 71, 3) := by decide +kernel
theorem gd_Bk_drop_33 : decode gb_Bk_drop 33 = .ok (.ifCond .ne 16, 3) := by decide +kernel
theorem gd_Bk_drop_36 : decode gb_Bk_drop 36 = .ok (.aload_n 0, 1) := by decide +kernel
theorem gd_Bk_drop_37 : decode gb_Bk_drop 37 = .ok (.aload_n 2, 1) := by decide +kernel
theorem gd_Bk_drop_38 : decode gb_Bk_drop 38 = .ok (.aload_n 0, 1) := by decide +kernel
theorem gd_Bk_drop_39 : decode gb_Bk_drop 39 = .ok (.getfield 26, 3) := by decide +kernel
theorem gd_Bk_drop_42 : decode gb_Bk_drop 42 = .ok (.iload_n 1, 1) := by decide +kernel
theorem gd_Bk_drop_43 : decode gb_Bk_drop 43 = .ok (.invokevirtual 75, 3) := by decide +kernel
theorem gd_Bk_drop_46 : decode gb_Bk_drop 46 = .ok (.invokevirtual 78, 3) := by decide +kernel
theorem gd_Bk_drop_49 : decode gb_Bk_drop 49 = .ok (.aload_n 2, 1) := by decide +kernel
theorem gd_Bk_drop_50 : decode gb_Bk_drop 50 = .ok (.getfield 68, 3) := by decide +kernel
theorem gd_Bk_drop_53 : decode gb_Bk_drop 53 = .ok (.ireturn, 1) := by decide +kernel
theorem gd_Bk_find_0 : decode gb_Bk_find 0 = .ok (.iload_n 1, 1) := by decide +kernel
theorem gd_Bk_find_1 : decode gb_Bk_find 1 = .ok (.invokestatic 56, 3) := by decide +kernel
theorem gd_Bk_find_4 : decode gb_Bk_find 4 = .ok (.ifCond .ne 5, 3) := by decide +kernel
theorem gd_Bk_find_7 : decode gb_Bk_find 7 = .ok (.iconst (-1), 1) := by decide +kernel
theorem gd_Bk_find_8 : decode gb_Bk_find 8 = .ok (.ireturn, 1) := by decide +kernel
theorem gd_Bk_find_9 : decode gb_Bk_find 9 = .ok (.aload_n 0, 1) := by decide +kernel
theorem gd_Bk_find_10 : decode gb_Bk_find 10 = .ok (.getfield 26, 3) := by decide +kernel
theorem gd_Bk_find_13 : decode gb_Bk_find 13 = .ok (.aload_n 0, 1) := by decide +kernel
theorem gd_Bk_find_14 : decode gb_Bk_find 14 = .ok (.iload_n 1, 1) := by decide +kernel
theorem gd_Bk_find_15 : decode gb_Bk_find 15 = .ok (.invokevirtual 82, 3) := by decide +kernel
theorem gd_Bk_find_18 : decode gb_Bk_find 18 = .ok (.invokevirtual 85, 3) := by decide +kernel
theorem gd_Bk_find_21 : decode gb_Bk_find 21 = .ok (.istore_n 2, 1) := by decide +kernel
theorem gd_Bk_find_22 : decode gb_Bk_find 22 = .ok (.aload_n 0, 1) := by decide +kernel
theorem gd_Bk_find_23 : decode gb_Bk_find 23 = .ok (.iload_n 2, 1) := by decide +kernel
theorem gd_Bk_find_24 : decode gb_Bk_find 24 = .ok (.iload_n 1, 1) := by decide +kernel
theorem gd_Bk_find_25 : decode gb_Bk_find 25 = .ok (.invokevirtual 88, 3) := by decide +kernel
theorem gd_Bk_find_28 : decode gb_Bk_find 28 = .ok (.ifCond .eq 7, 3) := by decide +kernel
theorem gd_Bk_find_31 : decode gb_Bk_find 31 = .ok (.iload_n 2, 1) := by decide +kernel
theorem gd_Bk_find_32 : decode gb_Bk_find 32 = .ok (.goto 5, 3) := by decide +kernel
theorem gd_Bk_find_35 : decode gb_Bk_find 35 = .ok (.bipush (-2), 2) := by decide +kernel
theorem gd_Bk_find_37 : decode gb_Bk_find 37 = .ok (.ireturn, 1) := by decide +kernel
theorem gd_Bk_term_0 : decode gb_Bk_term 0 = .ok (.aload_n 0, 1) := by decide +kernel
theorem gd_Bk_term_1 : decode gb_Bk_term 1 = .ok (.iload_n 1, 1) := by decide +kernel
theorem gd_Bk_term_2 : decode gb_Bk_term 2 = .ok (.invokevirtual 64, 3) := by decide +kernel
theorem gd_Bk_term_5 : decode gb_Bk_term 5 = .ok (.astore_n 3, 1) := by decide +kernel
theorem gd_Bk_term_6 : decode gb_Bk_term 6 = .ok (.aload_n 3, 1) := by decide +kernel
theorem gd_Bk_term_7 : decode gb_Bk_term 7 = .ok (.ifnull 7, 3) := by decide +kernel
theorem gd_Bk_term_10 : decode gb_Bk_term 10 = .ok (.iload_n 2, 1) := by decide +kernel
theorem gd_Bk_term_11 : decode gb_Bk_term 11 = .ok (.ifCond .ge 5, 3) := by decide +kernel
theorem gd_Bk_term_14 : decode gb_Bk_term 14 = .ok (.iconst (-1), 1) := by decide +kernel
theorem gd_Bk_term_15 : decode gb_Bk_term 15 = .ok (.ireturn, 1) := by decide +kernel
theorem gd_Bk_term_16 : decode gb_Bk_term 16 = .ok (.iload_n 2, 1) := by decide +kernel
theorem gd_Bk_term_17 : decode gb_Bk_term 17 = .ok (.tableswitch 45 0 2 #[27, 32, 37], 27) := by decide +kernel
theorem gd_Bk_term_44 : decode gb_Bk_term 44 = .ok (.aload_n 3, 1) := by decide +kernel
theorem gd_Bk_term_45 : decode gb_Bk_term 45 = .ok (.getfield 92, 3) := by decide +kernel
theorem gd_Bk_term_48 : decode gb_Bk_term 48 = .ok (.ireturn, 1) := by decide +kernel
theorem gd_Bk_term_49 : decode gb_Bk_term 49 = .ok (.aload_n 3, 1) := by decide +kernel
theorem gd_Bk_term_50 : decode gb_Bk_term 50 = .ok (.getfield 68, 3) := by decide +kernel
theorem gd_Bk_term_53 : decode gb_Bk_term 53 = .ok (.ireturn, 1) := by decide +kernel
theorem gd_Bk_term_54 : decode gb_Bk_term 54 = .ok (.aload_n 3, 1) := by decide +kernel
theorem gd_Bk_term_55 : decode gb_Bk_term 55 = .ok (.getfield 95, 3) := by decide +kernel
theorem gd_Bk_term_58 : decode gb_Bk_term 58 = .ok (.getfield 42, 3) := by decide +kernel
theorem gd_Bk_term_61 : decode gb_Bk_term 61 = .ok (.ireturn, 1) := by decide +kernel
theorem gd_Bk_term_62 : decode gb_Bk_term 62 = .ok (.iload_n 2, 1) := by decide +kernel
theorem gd_Bk_term_63 : decode gb_Bk_term 63 = .ok (.iconst 3, 1) := by decide +kernel
theorem gd_Bk_term_64 : decode gb_Bk_term 64 = .ok (.isub, 1) := by decide +kernel
theorem gd_Bk_term_65 : decode gb_Bk_term 65 = .ok (.aload_n 3, 1) := by decide +kernel
theorem gd_Bk_term_66 : decode gb_Bk_term 66 = .ok (.getfield 95, 3) := by decide +kernel
theorem gd_Bk_term_69 : decode gb_Bk_term 69 = .ok (.getfield 42, 3) := by decide +kernel
theorem gd_Bk_term_72 : decode gb_Bk_term 72 = .ok (.if_icmp .ge 16, 3) := by decide +kernel
theorem gd_Bk_term_75 : decode gb_Bk_term 75 = .ok (.aload_n 3, 1) := by decide +kernel
theorem gd_Bk_term_76 : decode gb_Bk_term 76 = .ok (.getfield 95, 3) := by decide +kernel
theorem gd_Bk_term_79 : decode gb_Bk_term 79 = .ok (.iload_n 2, 1) := by decide +kernel
theorem gd_Bk_term_80 : decode gb_Bk_term 80 = .ok (.iconst 3, 1) := by decide +kernel
theorem gd_Bk_term_81 : decode gb_Bk_term 81 = .ok (.isub, 1) := by decide +kernel
theorem gd_Bk_term_82 : decode gb_Bk_term 82 = .ok (.invokevirtual 98, 3) := by decide +kernel
theorem gd_Bk_term_85 : decode gb_Bk_term 85 = .ok (.goto 4, 3) := by decide +kernel
theorem gd_Bk_term_88 : decode gb_Bk_term 88 = .ok (.iconst (-1), 1) := by decide +kernel
theorem gd_Bk_term_89 : decode gb_Bk_term 89 = .ok (.ireturn, 1) := by decide +kernel
theorem gd_Bk_at_0 : decode gb_Bk_at 0 = .ok (.aload_n 0, 1) := by decide +kernel
theorem gd_Bk_at_1 : decode gb_Bk_at 1 = .ok (.getfield 26, 3) := by decide +kernel
theorem gd_Bk_at_4 : decode gb_Bk_at 4 = .ok (.iload_n 1, 1) := by decide +kernel
theorem gd_Bk_at_5 : decode gb_Bk_at 5 = .ok (.invokevirtual 85, 3) := by decide +kernel
theorem gd_Bk_at_8 : decode gb_Bk_at 8 = .ok (.istore_n 2, 1) := by decide +kernel
theorem gd_Bk_at_9 : decode gb_Bk_at 9 = .ok (.iload_n 2, 1) := by decide +kernel
theorem gd_Bk_at_10 : decode gb_Bk_at 10 = .ok (.iconst (-1), 1) := by decide +kernel
theorem gd_Bk_at_11 : decode gb_Bk_at 11 = .ok (.if_icmp .ne 8, 3) := by decide +kernel
theorem gd_Bk_at_14 : decode gb_Bk_at 14 = .ok (.bipush (-2), 2) := by decide +kernel
theorem gd_Bk_at_16 : decode gb_Bk_at 16 = .ok (.goto 4, 3) := by decide +kernel
theorem gd_Bk_at_19 : decode gb_Bk_at 19 = .ok (.iload_n 2, 1) := by decide +kernel
theorem gd_Bk_at_20 : decode gb_Bk_at 20 = .ok (.ireturn, 1) := by decide +kernel
theorem gd_Bk_place_0 : decode gb_Bk_place 0 = .ok (.aload_n 0, 1) := by decide +kernel
theorem gd_Bk_place_1 : decode gb_Bk_place 1 = .ok (.iload_n 1, 1) := by decide +kernel
theorem gd_Bk_place_2 : decode gb_Bk_place 2 = .ok (.invokevirtual 64, 3) := by decide +kernel
theorem gd_Bk_place_5 : decode gb_Bk_place 5 = .ok (.ifnonnull 7, 3) := by decide +kernel
theorem gd_Bk_place_8 : decode gb_Bk_place 8 = .ok (.iconst (-1), 1) := by decide +kernel
theorem gd_Bk_place_9 : decode gb_Bk_place 9 = .ok (.goto 11, 3) := by decide +kernel
theorem gd_Bk_place_12 : decode gb_Bk_place 12 = .ok (.aload_n 0, 1) := by decide +kernel
theorem gd_Bk_place_13 : decode gb_Bk_place 13 = .ok (.getfield 26, 3) := by decide +kernel
theorem gd_Bk_place_16 : decode gb_Bk_place 16 = .ok (.iload_n 1, 1) := by decide +kernel
theorem gd_Bk_place_17 : decode gb_Bk_place 17 = .ok (.invokevirtual 75, 3) := by decide +kernel
theorem gd_Bk_place_20 : decode gb_Bk_place 20 = .ok (.ireturn, 1) := by decide +kernel
theorem gd_Bk_begins_0 : decode gb_Bk_begins 0 = .ok (.iload_n 1, 1) := by decide +kernel
theorem gd_Bk_begins_1 : decode gb_Bk_begins 1 = .ok (.invokestatic 56, 3) := by decide +kernel
theorem gd_Bk_begins_4 : decode gb_Bk_begins 4 = .ok (.ifCond .ne 5, 3) := by decide +kernel
theorem gd_Bk_begins_7 : decode gb_Bk_begins 7 = .ok (.iconst (-1), 1) := by decide +kernel
theorem gd_Bk_begins_8 : decode gb_Bk_begins 8 = .ok (.ireturn, 1) := by decide +kernel
theorem gd_Bk_begins_9 : decode gb_Bk_begins 9 = .ok (.iconst 0, 1) := by decide +kernel
theorem gd_Bk_begins_10 : decode gb_Bk_begins 10 = .ok (.istore_n 2, 1) := by decide +kernel
theorem gd_Bk_begins_11 : decode gb_Bk_begins 11 = .ok (.iconst 0, 1) := by decide +kernel
theorem gd_Bk_begins_12 : decode gb_Bk_begins 12 = .ok (.istore_n 3, 1) := by decide +kernel
theorem gd_Bk_begins_13 : decode gb_Bk_begins 13 = .ok (.iload_n 3, 1) := by decide +kernel
theorem gd_Bk_begins_14 : decode gb_Bk_begins 14 = .ok (.bipush 100, 2) := by decide +kernel
theorem gd_Bk_begins_16 : decode gb_Bk_begins 16 = .ok (.if_icmp .ge 48, 3) := by decide +kernel
theorem gd_Bk_begins_19 : decode gb_Bk_begins 19 = .ok (.aload_n 0, 1) := by decide +kernel
theorem gd_Bk_begins_20 : decode gb_Bk_begins 20 = .ok (.iload_n 3, 1) := by decide +kernel
theorem gd_Bk_begins_21 : decode gb_Bk_begins 21 = .ok (.invokevirtual 64, 3) := by decide +kernel
theorem gd_Bk_begins_24 : decode gb_Bk_begins 24 = .ok (.astore 4, 2) := by decide +kernel
theorem gd_Bk_begins_26 : decode gb_Bk_begins 26 = .ok (.aload 4, 2) := by decide +kernel
theorem gd_Bk_begins_28 : decode gb_Bk_begins 28 = .ok (.ifnull 30, 3) := by decide +kernel
theorem gd_Bk_begins_31 : decode gb_Bk_begins 31 = .ok (.aload 4, 2) := by decide +kernel
theorem gd_Bk_begins_33 : decode gb_Bk_begins 33 = .ok (.getfield 92, 3) := by decide +kernel
theorem gd_Bk_begins_36 : decode gb_Bk_begins 36 = .ok (.iload_n 1, 1) := by decide +kernel
theorem gd_Bk_begins_37 : decode gb_Bk_begins 37 = .ok (.if_icmp .ne 21, 3) := by decide +kernel
theorem gd_Bk_begins_40 : decode gb_Bk_begins 40 = .ok (.aload 4, 2) := by decide +kernel
theorem gd_Bk_begins_42 : decode gb_Bk_begins 42 = .ok (.getfield 95, 3) := by decide +kernel
theorem gd_Bk_begins_45 : decode gb_Bk_begins 45 = .ok (.aload_n 0, 1) := by decide +kernel
theorem gd_Bk_begins_46 : decode gb_Bk_begins 46 = .ok (.getfield 10, 3) := by decide +kernel
theorem gd_Bk_begins_49 : decode gb_Bk_begins 49 = .ok (.invokevirtual 101, 3) := by decide +kernel
theorem gd_Bk_begins_52 : decode gb_Bk_begins 52 = .ok (.ifCond .eq 6, 3) := by decide +kernel
theorem gd_Bk_begins_55 : decode gb_Bk_begins 55 = .ok (.iinc 2 1, 3) := by decide +kernel
theorem gd_Bk_begins_58 : decode gb_Bk_begins 58 = .ok (.iinc 3 1, 3) := by decide +kernel
theorem gd_Bk_begins_61 : decode gb_Bk_begins 61 = .ok (.goto (-48), 3) := by decide +kernel
theorem gd_Bk_begins_64 : decode gb_Bk_begins 64 = .ok (.iload_n 2, 1) := by decide +kernel
theorem gd_Bk_begins_65 : decode gb_Bk_begins 65 = .ok (.ireturn, 1) := by decide +kernel
theorem gd_Bk_from_0 : decode gb_Bk_from 0 = .ok (.iload_n 1, 1) := by decide +kernel
theorem gd_Bk_from_1 : decode gb_Bk_from 1 = .ok (.invokestatic 56, 3) := by decide +kernel
theorem gd_Bk_from_4 : decode gb_Bk_from 4 = .ok (.ifCond .eq 11, 3) := by decide +kernel
theorem gd_Bk_from_7 : decode gb_Bk_from 7 = .ok (.aload_n 0, 1) := by decide +kernel
theorem gd_Bk_from_8 : decode gb_Bk_from 8 = .ok (.iload_n 1, 1) := by decide +kernel
theorem gd_Bk_from_9 : decode gb_Bk_from 9 = .ok (.invokevirtual 82, 3) := by decide +kernel
theorem gd_Bk_from_12 : decode gb_Bk_from 12 = .ok (.goto 4, 3) := by decide +kernel
theorem gd_Bk_from_15 : decode gb_Bk_from 15 = .ok (.iconst (-1), 1) := by decide +kernel
theorem gd_Bk_from_16 : decode gb_Bk_from 16 = .ok (.ireturn, 1) := by decide +kernel
theorem gd_Bk_version_0 : decode gb_Bk_version 0 = .ok (.aload_n 0, 1) := by decide +kernel
theorem gd_Bk_version_1 : decode gb_Bk_version 1 = .ok (.iconst (-1), 1) := by decide +kernel
theorem gd_Bk_version_2 : decode gb_Bk_version 2 = .ok (.invokevirtual 105, 3) := by decide +kernel
theorem gd_Bk_version_5 : decode gb_Bk_version 5 = .ok (.istore_n 1, 1) := by decide +kernel
theorem gd_Bk_version_6 : decode gb_Bk_version 6 = .ok (.iload_n 1, 1) := by decide +kernel
theorem gd_Bk_version_7 : decode gb_Bk_version 7 = .ok (.iconst (-1), 1) := by decide +kernel
theorem gd_Bk_version_8 : decode gb_Bk_version 8 = .ok (.if_icmp .ne 6, 3) := by decide +kernel
theorem gd_Bk_version_11 : decode gb_Bk_version 11 = .ok (.bipush (-3), 2) := by decide +kernel
theorem gd_Bk_version_13 : decode gb_Bk_version 13 = .ok (.ireturn, 1) := by decide +kernel
theorem gd_Bk_version_14 : decode gb_Bk_version 14 = .ok (.iconst 0, 1) := by decide +kernel
theorem gd_Bk_version_15 : decode gb_Bk_version 15 = .ok (.istore_n 2, 1) := by decide +kernel
theorem gd_Bk_version_16 : decode gb_Bk_version 16 = .ok (.iload_n 2, 1) := by decide +kernel
theorem gd_Bk_version_17 : decode gb_Bk_version 17 = .ok (.bipush 100, 2) := by decide +kernel
theorem gd_Bk_version_19 : decode gb_Bk_version 19 = .ok (.if_icmp .ge 31, 3) := by decide +kernel
theorem gd_Bk_version_22 : decode gb_Bk_version 22 = .ok (.aload_n 0, 1) := by decide +kernel
theorem gd_Bk_version_23 : decode gb_Bk_version 23 = .ok (.iload_n 2, 1) := by decide +kernel
theorem gd_Bk_version_24 : decode gb_Bk_version 24 = .ok (.invokevirtual 64, 3) := by decide +kernel
theorem gd_Bk_version_27 : decode gb_Bk_version 27 = .ok (.astore_n 3, 1) := by decide +kernel
theorem gd_Bk_version_28 : decode gb_Bk_version 28 = .ok (.aload_n 3, 1) := by decide +kernel
theorem gd_Bk_version_29 : decode gb_Bk_version 29 = .ok (.ifnull 15, 3) := by decide +kernel
theorem gd_Bk_version_32 : decode gb_Bk_version 32 = .ok (.aload_n 3, 1) := by decide +kernel
theorem gd_Bk_version_33 : decode gb_Bk_version 33 = .ok (.getfield 68, 3) := by decide +kernel
theorem gd_Bk_version_36 : decode gb_Bk_version 36 = .ok (.ifCond .le 8, 3) := by decide +kernel
theorem gd_Bk_version_39 : decode gb_Bk_version 39 = .ok (.aload_n 3, 1) := by decide +kernel
theorem gd_Bk_version_40 : decode gb_Bk_version 40 = .ok (.iload_n 1, 1) := by decide +kernel
theorem gd_Bk_version_41 : decode gb_Bk_version 41 = .ok (.invokevirtual 108, 3) := by decide +kernel
theorem gd_Bk_version_44 : decode gb_Bk_version 44 = .ok (.iinc 2 1, 3) := by decide +kernel
theorem gd_Bk_version_47 : decode gb_Bk_version 47 = .ok (.goto (-31), 3) := by decide +kernel
theorem gd_Bk_version_50 : decode gb_Bk_version 50 = .ok (.aload_n 0, 1) := by decide +kernel
theorem gd_Bk_version_51 : decode gb_Bk_version 51 = .ok (.getfield 30, 3) := by decide +kernel
theorem gd_Bk_version_54 : decode gb_Bk_version 54 = .ok (.iload_n 1, 1) := by decide +kernel
theorem gd_Bk_version_55 : decode gb_Bk_version 55 = .ok (.aload_n 0, 1) := by decide +kernel
theorem gd_Bk_version_56 : decode gb_Bk_version 56 = .ok (.getfield 34, 3) := by decide +kernel
theorem gd_Bk_version_59 : decode gb_Bk_version 59 = .ok (.iastore, 1) := by decide +kernel
theorem gd_Bk_version_60 : decode gb_Bk_version 60 = .ok (.aload_n 0, 1) := by decide +kernel
theorem gd_Bk_version_61 : decode gb_Bk_version 61 = .ok (.dup, 1) := by decide +kernel
theorem gd_Bk_version_62 : decode gb_Bk_version 62 = .ok (.getfield 34, 3) := by decide +kernel
theorem gd_Bk_version_65 : decode gb_Bk_version 65 = .ok (.iconst 1, 1) := by decide +kernel
theorem gd_Bk_version_66 : decode gb_Bk_version 66 = .ok (.iadd, 1) := by decide +kernel
theorem gd_Bk_version_67 : decode gb_Bk_version 67 = .ok (.putfield 34, 3) := by decide +kernel
theorem gd_Bk_version_70 : decode gb_Bk_version 70 = .ok (.aload_n 0, 1) := by decide +kernel
theorem gd_Bk_version_71 : decode gb_Bk_version 71 = .ok (.getfield 30, 3) := by decide +kernel
theorem gd_Bk_version_74 : decode gb_Bk_version 74 = .ok (.iload_n 1, 1) := by decide +kernel
theorem gd_Bk_version_75 : decode gb_Bk_version 75 = .ok (.iaload, 1) := by decide +kernel
theorem gd_Bk_version_76 : decode gb_Bk_version 76 = .ok (.ireturn, 1) := by decide +kernel
theorem gd_Bk_release_0 : decode gb_Bk_release 0 = .ok (.aload_n 0, 1) := by decide +kernel
theorem gd_Bk_release_1 : decode gb_Bk_release 1 = .ok (.iload_n 1, 1) := by decide +kernel
theorem gd_Bk_release_2 : decode gb_Bk_release 2 = .ok (.invokevirtual 111, 3) := by decide +kernel
theorem gd_Bk_release_5 : decode gb_Bk_release 5 = .ok (.istore_n 2, 1) := by decide +kernel
theorem gd_Bk_release_6 : decode gb_Bk_release 6 = .ok (.iload_n 2, 1) := by decide +kernel
theorem gd_Bk_release_7 : decode gb_Bk_release 7 = .ok (.iconst (-1), 1) := by decide +kernel
theorem gd_Bk_release_8 : decode gb_Bk_release 8 = .ok (.if_icmp .ne 5, 3) := by decide +kernel
theorem gd_Bk_release_11 : decode gb_Bk_release 11 = .ok (.iconst (-1), 1) := by decide +kernel
theorem gd_Bk_release_12 : decode gb_Bk_release 12 = .ok (.ireturn, 1) := by decide +kernel
theorem gd_Bk_release_13 : decode gb_Bk_release 13 = .ok (.aload_n 0, 1) := by decide +kernel
theorem gd_Bk_release_14 : decode gb_Bk_release 14 = .ok (.getfield 30, 3) := by decide +kernel
theorem gd_Bk_release_17 : decode gb_Bk_release 17 = .ok (.iload_n 2, 1) := by decide +kernel
theorem gd_Bk_release_18 : decode gb_Bk_release 18 = .ok (.iconst (-1), 1) := by decide +kernel
theorem gd_Bk_release_19 : decode gb_Bk_release 19 = .ok (.iastore, 1) := by decide +kernel
theorem gd_Bk_release_20 : decode gb_Bk_release 20 = .ok (.iconst 0, 1) := by decide +kernel
theorem gd_Bk_release_21 : decode gb_Bk_release 21 = .ok (.istore_n 3, 1) := by decide +kernel
theorem gd_Bk_release_22 : decode gb_Bk_release 22 = .ok (.iload_n 3, 1) := by decide +kernel
theorem gd_Bk_release_23 : decode gb_Bk_release 23 = .ok (.bipush 100, 2) := by decide +kernel
theorem gd_Bk_release_25 : decode gb_Bk_release 25 = .ok (.if_icmp .ge 27, 3) := by decide +kernel
theorem gd_Bk_release_28 : decode gb_Bk_release 28 = .ok (.aload_n 0, 1) := by decide +kernel
theorem gd_Bk_release_29 : decode gb_Bk_release 29 = .ok (.iload_n 3, 1) := by decide +kernel
theorem gd_Bk_release_30 : decode gb_Bk_release 30 = .ok (.invokevirtual 64, 3) := by decide +kernel
theorem gd_Bk_release_33 : decode gb_Bk_release 33 = .ok (.astore 4, 2) := by decide +kernel
theorem gd_Bk_release_35 : decode gb_Bk_release 35 = .ok (.aload 4, 2) := by decide +kernel
theorem gd_Bk_release_37 : decode gb_Bk_release 37 = .ok (.ifnull 9, 3) := by decide +kernel
theorem gd_Bk_release_40 : decode gb_Bk_release 40 = .ok (.aload 4, 2) := by decide +kernel
theorem gd_Bk_release_42 : decode gb_Bk_release 42 = .ok (.iload_n 2, 1) := by decide +kernel
theorem gd_Bk_release_43 : decode gb_Bk_release 43 = .ok (.invokevirtual 114, 3) := by decide +kernel
theorem gd_Bk_release_46 : decode gb_Bk_release 46 = .ok (.iinc 3 1, 3) := by decide +kernel
theorem gd_Bk_release_49 : decode gb_Bk_release 49 = .ok (.goto (-27), 3) := by decide +kernel
theorem gd_Bk_release_52 : decode gb_Bk_release 52 = .ok (.aload_n 0, 1) := by decide +kernel
theorem gd_Bk_release_53 : decode gb_Bk_release 53 = .ok (.invokevirtual 117, 3) := by decide +kernel
theorem gd_Bk_release_56 : decode gb_Bk_release 56 = .ok (.ireturn, 1) := by decide +kernel
theorem gd_Bk_had_0 : decode gb_Bk_had 0 = .ok (.aload_n 0, 1) := by decide +kernel
theorem gd_Bk_had_1 : decode gb_Bk_had 1 = .ok (.iload_n 1, 1) := by decide +kernel
theorem gd_Bk_had_2 : decode gb_Bk_had 2 = .ok (.invokevirtual 111, 3) := by decide +kernel
theorem gd_Bk_had_5 : decode gb_Bk_had 5 = .ok (.istore_n 3, 1) := by decide +kernel
theorem gd_Bk_had_6 : decode gb_Bk_had 6 = .ok (.iload_n 3, 1) := by decide +kernel
theorem gd_Bk_had_7 : decode gb_Bk_had 7 = .ok (.iconst (-1), 1) := by decide +kernel
theorem gd_Bk_had_8 : decode gb_Bk_had 8 = .ok (.if_icmp .eq 14, 3) := by decide +kernel
theorem gd_Bk_had_11 : decode gb_Bk_had 11 = .ok (.iload_n 2, 1) := by decide +kernel
theorem gd_Bk_had_12 : decode gb_Bk_had 12 = .ok (.iconst (-1), 1) := by decide +kernel
theorem gd_Bk_had_13 : decode gb_Bk_had 13 = .ok (.if_icmp .lt 9, 3) := by decide +kernel
theorem gd_Bk_had_16 : decode gb_Bk_had 16 = .ok (.iload_n 2, 1) := by decide +kernel
theorem gd_Bk_had_17 : decode gb_Bk_had 17 = .ok (.bipush 100, 2) := by decide +kernel
theorem gd_Bk_had_19 : decode gb_Bk_had 19 = .ok (.if_icmp .lt 5, 3) := by decide +kernel
theorem gd_Bk_had_22 : decode gb_Bk_had 22 = .ok (.iconst (-1), 1) := by decide +kernel
theorem gd_Bk_had_23 : decode gb_Bk_had 23 = .ok (.ireturn, 1) := by decide +kernel
theorem gd_Bk_had_24 : decode gb_Bk_had 24 = .ok (.iload_n 2, 1) := by decide +kernel
theorem gd_Bk_had_25 : decode gb_Bk_had 25 = .ok (.iconst (-1), 1) := by decide +kernel
theorem gd_Bk_had_26 : decode gb_Bk_had 26 = .ok (.if_icmp .ne 9, 3) := by decide +kernel
theorem gd_Bk_had_29 : decode gb_Bk_had 29 = .ok (.aload_n 0, 1) := by decide +kernel
theorem gd_Bk_had_30 : decode gb_Bk_had 30 = .ok (.iload_n 3, 1) := by decide +kernel
theorem gd_Bk_had_31 : decode gb_Bk_had 31 = .ok (.invokevirtual 121, 3) := by decide +kernel
theorem gd_Bk_had_34 : decode gb_Bk_had 34 = .ok (.ireturn, 1) := by decide +kernel
theorem gd_Bk_had_35 : decode gb_Bk_had 35 = .ok (.aload_n 0, 1) := by decide +kernel
theorem gd_Bk_had_36 : decode gb_Bk_had 36 = .ok (.iload_n 2, 1) := by decide +kernel
theorem gd_Bk_had_37 : decode gb_Bk_had 37 = .ok (.invokevirtual 64, 3) := by decide +kernel
theorem gd_Bk_had_40 : decode gb_Bk_had 40 = .ok (.astore 4, 2) := by decide +kernel
theorem gd_Bk_had_42 : decode gb_Bk_had 42 = .ok (.aload 4, 2) := by decide +kernel
theorem gd_Bk_had_44 : decode gb_Bk_had 44 = .ok (.ifnull 16, 3) := by decide +kernel
theorem gd_Bk_had_47 : decode gb_Bk_had 47 = .ok (.aload 4, 2) := by decide +kernel
theorem gd_Bk_had_49 : decode gb_Bk_had 49 = .ok (.iload_n 3, 1) := by decide +kernel
theorem gd_Bk_had_50 : decode gb_Bk_had 50 = .ok (.invokevirtual 124, 3) := by decide +kernel
theorem gd_Bk_had_53 : decode gb_Bk_had 53 = .ok (.ifCond .eq 7, 3) := by decide +kernel
theorem gd_Bk_had_56 : decode gb_Bk_had 56 = .ok (.iconst 1, 1) := by decide +kernel
theorem gd_Bk_had_57 : decode gb_Bk_had 57 = .ok (.goto 4, 3) := by decide +kernel
theorem gd_Bk_had_60 : decode gb_Bk_had 60 = .ok (.iconst 0, 1) := by decide +kernel
theorem gd_Bk_had_61 : decode gb_Bk_had 61 = .ok (.ireturn, 1) := by decide +kernel
theorem gd_Bk_leaf_0 : decode gb_Bk_leaf 0 = .ok (.iload_n 1, 1) := by decide +kernel
theorem gd_Bk_leaf_1 : decode gb_Bk_leaf 1 = .ok (.ifCond .lt 14, 3) := by decide +kernel
theorem gd_Bk_leaf_4 : decode gb_Bk_leaf 4 = .ok (.iload_n 1, 1) := by decide +kernel
theorem gd_Bk_leaf_5 : decode gb_Bk_leaf 5 = .ok (.aload_n 0, 1) := by decide +kernel
theorem gd_Bk_leaf_6 : decode gb_Bk_leaf 6 = .ok (.getfield 26, 3) := by decide +kernel
theorem gd_Bk_leaf_9 : decode gb_Bk_leaf 9 = .ok (.getfield 127, 3) := by decide +kernel
theorem gd_Bk_leaf_12 : decode gb_Bk_leaf 12 = .ok (.if_icmp .lt 5, 3) := by decide +kernel
theorem gd_Bk_leaf_15 : decode gb_Bk_leaf 15 = .ok (.iconst (-1), 1) := by decide +kernel
theorem gd_Bk_leaf_16 : decode gb_Bk_leaf 16 = .ok (.ireturn, 1) := by decide +kernel
theorem gd_Bk_leaf_17 : decode gb_Bk_leaf 17 = .ok (.iload_n 2, 1) := by decide +kernel
theorem gd_Bk_leaf_18 : decode gb_Bk_leaf 18 = .ok (.tableswitch 67 0 3 #[30, 39, 45, 51], 30) := by decide +kernel
theorem gd_Bk_leaf_48 : decode gb_Bk_leaf 48 = .ok (.aload_n 0, 1) := by decide +kernel
theorem gd_Bk_leaf_49 : decode gb_Bk_leaf 49 = .ok (.getfield 26, 3) := by decide +kernel
theorem gd_Bk_leaf_52 : decode gb_Bk_leaf 52 = .ok (.iload_n 1, 1) := by decide +kernel
theorem gd_Bk_leaf_53 : decode gb_Bk_leaf 53 = .ok (.invokevirtual 130, 3) := by decide +kernel
theorem gd_Bk_leaf_56 : decode gb_Bk_leaf 56 = .ok (.ireturn, 1) := by decide +kernel
theorem gd_Bk_leaf_57 : decode gb_Bk_leaf 57 = .ok (.aload_n 0, 1) := by decide +kernel
theorem gd_Bk_leaf_58 : decode gb_Bk_leaf 58 = .ok (.iload_n 1, 1) := by decide +kernel
theorem gd_Bk_leaf_59 : decode gb_Bk_leaf 59 = .ok (.invokevirtual 133, 3) := by decide +kernel
theorem gd_Bk_leaf_62 : decode gb_Bk_leaf 62 = .ok (.ireturn, 1) := by decide +kernel
theorem gd_Bk_leaf_63 : decode gb_Bk_leaf 63 = .ok (.aload_n 0, 1) := by decide +kernel
theorem gd_Bk_leaf_64 : decode gb_Bk_leaf 64 = .ok (.iload_n 1, 1) := by decide +kernel
theorem gd_Bk_leaf_65 : decode gb_Bk_leaf 65 = .ok (.invokevirtual 136, 3) := by decide +kernel
theorem gd_Bk_leaf_68 : decode gb_Bk_leaf 68 = .ok (.ireturn, 1) := by decide +kernel
theorem gd_Bk_leaf_69 : decode gb_Bk_leaf 69 = .ok (.aload_n 0, 1) := by decide +kernel
theorem gd_Bk_leaf_70 : decode gb_Bk_leaf 70 = .ok (.getfield 26, 3) := by decide +kernel
theorem gd_Bk_leaf_73 : decode gb_Bk_leaf 73 = .ok (.aload_n 0, 1) := by decide +kernel
theorem gd_Bk_leaf_74 : decode gb_Bk_leaf 74 = .ok (.getfield 26, 3) := by decide +kernel
theorem gd_Bk_leaf_77 : decode gb_Bk_leaf 77 = .ok (.iload_n 1, 1) := by decide +kernel
theorem gd_Bk_leaf_78 : decode gb_Bk_leaf 78 = .ok (.invokevirtual 139, 3) := by decide +kernel
theorem gd_Bk_leaf_81 : decode gb_Bk_leaf 81 = .ok (.invokevirtual 85, 3) := by decide +kernel
theorem gd_Bk_leaf_84 : decode gb_Bk_leaf 84 = .ok (.ireturn, 1) := by decide +kernel
theorem gd_Bk_leaf_85 : decode gb_Bk_leaf 85 = .ok (.iconst (-1), 1) := by decide +kernel
theorem gd_Bk_leaf_86 : decode gb_Bk_leaf 86 = .ok (.ireturn, 1) := by decide +kernel
theorem gd_Bk_count_0 : decode gb_Bk_count 0 = .ok (.iload_n 1, 1) := by decide +kernel
theorem gd_Bk_count_1 : decode gb_Bk_count 1 = .ok (.tableswitch 87 0 6 #[43, 51, 59, 64, 69, 74, 82], 43) := by decide +kernel
theorem gd_Bk_count_44 : decode gb_Bk_count 44 = .ok (.aload_n 0, 1) := by decide +kernel
theorem gd_Bk_count_45 : decode gb_Bk_count 45 = .ok (.getfield 26, 3) := by decide +kernel
theorem gd_Bk_count_48 : decode gb_Bk_count 48 = .ok (.getfield 142, 3) := by decide +kernel
theorem gd_Bk_count_51 : decode gb_Bk_count 51 = .ok (.ireturn, 1) := by decide +kernel
theorem gd_Bk_count_52 : decode gb_Bk_count 52 = .ok (.aload_n 0, 1) := by decide +kernel
theorem gd_Bk_count_53 : decode gb_Bk_count 53 = .ok (.getfield 26, 3) := by decide +kernel
theorem gd_Bk_count_56 : decode gb_Bk_count 56 = .ok (.getfield 127, 3) := by decide +kernel
theorem gd_Bk_count_59 : decode gb_Bk_count 59 = .ok (.ireturn, 1) := by decide +kernel
theorem gd_Bk_count_60 : decode gb_Bk_count 60 = .ok (.aload_n 0, 1) := by decide +kernel
end
section
theorem gd_Bk_count_61 : decode gb_Bk_count 61 = .ok (.getfield 34, 3) := by decide +kernel
theorem gd_Bk_count_64 : decode gb_Bk_count 64 = .ok (.ireturn, 1) := by decide +kernel
theorem gd_Bk_count_65 : decode gb_Bk_count 65 = .ok (.aload_n 0, 1) := by decide +kernel
theorem gd_Bk_count_66 : decode gb_Bk_count 66 = .ok (.invokevirtual 145, 3) := by decide +kernel
theorem gd_Bk_count_69 : decode gb_Bk_count 69 = .ok (.ireturn, 1) := by decide +kernel
theorem gd_Bk_count_70 : decode gb_Bk_count 70 = .ok (.aload_n 0, 1) := by decide +kernel
theorem gd_Bk_count_71 : decode gb_Bk_count 71 = .ok (.invokevirtual 148, 3) := by decide +kernel
theorem gd_Bk_count_74 : decode gb_Bk_count 74 = .ok (.ireturn, 1) := by decide +kernel
theorem gd_Bk_count_75 : decode gb_Bk_count 75 = .ok (.aload_n 0, 1) := by decide +kernel
theorem gd_Bk_count_76 : decode gb_Bk_count 76 = .ok (.getfield 10, 3) := by decide +kernel
theorem gd_Bk_count_79 : decode gb_Bk_count 79 = .ok (.getfield 42, 3) := by decide +kernel
theorem gd_Bk_count_82 : decode gb_Bk_count 82 = .ok (.ireturn, 1) := by decide +kernel
theorem gd_Bk_count_83 : decode gb_Bk_count 83 = .ok (.aload_n 0, 1) := by decide +kernel
theorem gd_Bk_count_84 : decode gb_Bk_count 84 = .ok (.invokevirtual 151, 3) := by decide +kernel
theorem gd_Bk_count_87 : decode gb_Bk_count 87 = .ok (.ireturn, 1) := by decide +kernel
theorem gd_Bk_count_88 : decode gb_Bk_count 88 = .ok (.iconst (-1), 1) := by decide +kernel
theorem gd_Bk_count_89 : decode gb_Bk_count 89 = .ok (.ireturn, 1) := by decide +kernel
theorem gd_Bk_isKind_0 : decode gb_Bk_isKind 0 = .ok (.iload_n 0, 1) := by decide +kernel
theorem gd_Bk_isKind_1 : decode gb_Bk_isKind 1 = .ok (.ifCond .lt 12, 3) := by decide +kernel
theorem gd_Bk_isKind_4 : decode gb_Bk_isKind 4 = .ok (.iload_n 0, 1) := by decide +kernel
theorem gd_Bk_isKind_5 : decode gb_Bk_isKind 5 = .ok (.iconst 4, 1) := by decide +kernel
theorem gd_Bk_isKind_6 : decode gb_Bk_isKind 6 = .ok (.if_icmp .ge 7, 3) := by decide +kernel
theorem gd_Bk_isKind_9 : decode gb_Bk_isKind 9 = .ok (.iconst 1, 1) := by decide +kernel
theorem gd_Bk_isKind_10 : decode gb_Bk_isKind 10 = .ok (.goto 4, 3) := by decide +kernel
theorem gd_Bk_isKind_13 : decode gb_Bk_isKind 13 = .ok (.iconst 0, 1) := by decide +kernel
theorem gd_Bk_isKind_14 : decode gb_Bk_isKind 14 = .ok (.ireturn, 1) := by decide +kernel
theorem gd_Bk_byteOf_0 : decode gb_Bk_byteOf 0 = .ok (.lload_n 0, 1) := by decide +kernel
theorem gd_Bk_byteOf_1 : decode gb_Bk_byteOf 1 = .ok (.bipush 8, 2) := by decide +kernel
theorem gd_Bk_byteOf_3 : decode gb_Bk_byteOf 3 = .ok (.iload_n 2, 1) := by decide +kernel
theorem gd_Bk_byteOf_4 : decode gb_Bk_byteOf 4 = .ok (.imul, 1) := by decide +kernel
theorem gd_Bk_byteOf_5 : decode gb_Bk_byteOf 5 = .ok (.lushr, 1) := by decide +kernel
theorem gd_Bk_byteOf_6 : decode gb_Bk_byteOf 6 = .ok (.ldc2_w 154, 3) := by decide +kernel
theorem gd_Bk_byteOf_9 : decode gb_Bk_byteOf 9 = .ok (.land, 1) := by decide +kernel
theorem gd_Bk_byteOf_10 : decode gb_Bk_byteOf 10 = .ok (.l2i, 1) := by decide +kernel
theorem gd_Bk_byteOf_11 : decode gb_Bk_byteOf 11 = .ok (.ireturn, 1) := by decide +kernel
theorem gd_Bk_allFit_0 : decode gb_Bk_allFit 0 = .ok (.iconst 0, 1) := by decide +kernel
theorem gd_Bk_allFit_1 : decode gb_Bk_allFit 1 = .ok (.istore_n 3, 1) := by decide +kernel
theorem gd_Bk_allFit_2 : decode gb_Bk_allFit 2 = .ok (.iload_n 3, 1) := by decide +kernel
theorem gd_Bk_allFit_3 : decode gb_Bk_allFit 3 = .ok (.iload_n 2, 1) := by decide +kernel
theorem gd_Bk_allFit_4 : decode gb_Bk_allFit 4 = .ok (.if_icmp .ge 32, 3) := by decide +kernel
theorem gd_Bk_allFit_7 : decode gb_Bk_allFit 7 = .ok (.lload_n 0, 1) := by decide +kernel
theorem gd_Bk_allFit_8 : decode gb_Bk_allFit 8 = .ok (.iload_n 3, 1) := by decide +kernel
theorem gd_Bk_allFit_9 : decode gb_Bk_allFit 9 = .ok (.invokestatic 45, 3) := by decide +kernel
theorem gd_Bk_allFit_12 : decode gb_Bk_allFit 12 = .ok (.istore 4, 2) := by decide +kernel
theorem gd_Bk_allFit_14 : decode gb_Bk_allFit 14 = .ok (.iload 4, 2) := by decide +kernel
theorem gd_Bk_allFit_16 : decode gb_Bk_allFit 16 = .ok (.bipush 33, 2) := by decide +kernel
theorem gd_Bk_allFit_18 : decode gb_Bk_allFit 18 = .ok (.if_icmp .lt 10, 3) := by decide +kernel
theorem gd_Bk_allFit_21 : decode gb_Bk_allFit 21 = .ok (.iload 4, 2) := by decide +kernel
theorem gd_Bk_allFit_23 : decode gb_Bk_allFit 23 = .ok (.bipush 126, 2) := by decide +kernel
theorem gd_Bk_allFit_25 : decode gb_Bk_allFit 25 = .ok (.if_icmp .le 5, 3) := by decide +kernel
theorem gd_Bk_allFit_28 : decode gb_Bk_allFit 28 = .ok (.iconst 0, 1) := by decide +kernel
theorem gd_Bk_allFit_29 : decode gb_Bk_allFit 29 = .ok (.ireturn, 1) := by decide +kernel
theorem gd_Bk_allFit_30 : decode gb_Bk_allFit 30 = .ok (.iinc 3 1, 3) := by decide +kernel
theorem gd_Bk_allFit_33 : decode gb_Bk_allFit 33 = .ok (.goto (-31), 3) := by decide +kernel
theorem gd_Bk_allFit_36 : decode gb_Bk_allFit 36 = .ok (.iconst 1, 1) := by decide +kernel
theorem gd_Bk_allFit_37 : decode gb_Bk_allFit 37 = .ok (.ireturn, 1) := by decide +kernel
theorem gd_Bk_inBook_0 : decode gb_Bk_inBook 0 = .ok (.iload_n 1, 1) := by decide +kernel
theorem gd_Bk_inBook_1 : decode gb_Bk_inBook 1 = .ok (.ifCond .lt 12, 3) := by decide +kernel
theorem gd_Bk_inBook_4 : decode gb_Bk_inBook 4 = .ok (.iload_n 1, 1) := by decide +kernel
theorem gd_Bk_inBook_5 : decode gb_Bk_inBook 5 = .ok (.aload_n 0, 1) := by decide +kernel
theorem gd_Bk_inBook_6 : decode gb_Bk_inBook 6 = .ok (.getfield 18, 3) := by decide +kernel
theorem gd_Bk_inBook_9 : decode gb_Bk_inBook 9 = .ok (.arraylength, 1) := by decide +kernel
theorem gd_Bk_inBook_10 : decode gb_Bk_inBook 10 = .ok (.if_icmp .lt 5, 3) := by decide +kernel
theorem gd_Bk_inBook_13 : decode gb_Bk_inBook 13 = .ok (.aconst_null, 1) := by decide +kernel
theorem gd_Bk_inBook_14 : decode gb_Bk_inBook 14 = .ok (.areturn, 1) := by decide +kernel
theorem gd_Bk_inBook_15 : decode gb_Bk_inBook 15 = .ok (.aload_n 0, 1) := by decide +kernel
theorem gd_Bk_inBook_16 : decode gb_Bk_inBook 16 = .ok (.getfield 18, 3) := by decide +kernel
theorem gd_Bk_inBook_19 : decode gb_Bk_inBook 19 = .ok (.iload_n 1, 1) := by decide +kernel
theorem gd_Bk_inBook_20 : decode gb_Bk_inBook 20 = .ok (.aaload, 1) := by decide +kernel
theorem gd_Bk_inBook_21 : decode gb_Bk_inBook 21 = .ok (.astore_n 2, 1) := by decide +kernel
theorem gd_Bk_inBook_22 : decode gb_Bk_inBook 22 = .ok (.aload_n 2, 1) := by decide +kernel
theorem gd_Bk_inBook_23 : decode gb_Bk_inBook 23 = .ok (.ifnull 14, 3) := by decide +kernel
theorem gd_Bk_inBook_26 : decode gb_Bk_inBook 26 = .ok (.aload_n 2, 1) := by decide +kernel
theorem gd_Bk_inBook_27 : decode gb_Bk_inBook 27 = .ok (.getfield 156, 3) := by decide +kernel
theorem gd_Bk_inBook_30 : decode gb_Bk_inBook 30 = .ok (.ifCond .eq 7, 3) := by decide +kernel
theorem gd_Bk_inBook_33 : decode gb_Bk_inBook 33 = .ok (.aload_n 2, 1) := by decide +kernel
theorem gd_Bk_inBook_34 : decode gb_Bk_inBook 34 = .ok (.goto 4, 3) := by decide +kernel
theorem gd_Bk_inBook_37 : decode gb_Bk_inBook 37 = .ok (.aconst_null, 1) := by decide +kernel
theorem gd_Bk_inBook_38 : decode gb_Bk_inBook 38 = .ok (.areturn, 1) := by decide +kernel
theorem gd_Bk_placeOfTape_0 : decode gb_Bk_placeOfTape 0 = .ok (.iconst 0, 1) := by decide +kernel
theorem gd_Bk_placeOfTape_1 : decode gb_Bk_placeOfTape 1 = .ok (.istore_n 2, 1) := by decide +kernel
theorem gd_Bk_placeOfTape_2 : decode gb_Bk_placeOfTape 2 = .ok (.iload_n 2, 1) := by decide +kernel
theorem gd_Bk_placeOfTape_3 : decode gb_Bk_placeOfTape 3 = .ok (.aload_n 0, 1) := by decide +kernel
theorem gd_Bk_placeOfTape_4 : decode gb_Bk_placeOfTape 4 = .ok (.getfield 26, 3) := by decide +kernel
theorem gd_Bk_placeOfTape_7 : decode gb_Bk_placeOfTape 7 = .ok (.getfield 142, 3) := by decide +kernel
theorem gd_Bk_placeOfTape_10 : decode gb_Bk_placeOfTape 10 = .ok (.if_icmp .ge 25, 3) := by decide +kernel
theorem gd_Bk_placeOfTape_13 : decode gb_Bk_placeOfTape 13 = .ok (.aload_n 0, 1) := by decide +kernel
theorem gd_Bk_placeOfTape_14 : decode gb_Bk_placeOfTape 14 = .ok (.aload_n 0, 1) := by decide +kernel
theorem gd_Bk_placeOfTape_15 : decode gb_Bk_placeOfTape 15 = .ok (.getfield 26, 3) := by decide +kernel
theorem gd_Bk_placeOfTape_18 : decode gb_Bk_placeOfTape 18 = .ok (.iload_n 2, 1) := by decide +kernel
theorem gd_Bk_placeOfTape_19 : decode gb_Bk_placeOfTape 19 = .ok (.invokevirtual 85, 3) := by decide +kernel
theorem gd_Bk_placeOfTape_22 : decode gb_Bk_placeOfTape 22 = .ok (.iload_n 1, 1) := by decide +kernel
theorem gd_Bk_placeOfTape_23 : decode gb_Bk_placeOfTape 23 = .ok (.invokevirtual 160, 3) := by decide +kernel
theorem gd_Bk_placeOfTape_26 : decode gb_Bk_placeOfTape 26 = .ok (.ifCond .eq 9, 3) := by decide +kernel
theorem gd_Bk_placeOfTape_29 : decode gb_Bk_placeOfTape 29 = .ok (.iinc 2 1, 3) := by decide +kernel
theorem gd_Bk_placeOfTape_32 : decode gb_Bk_placeOfTape 32 = .ok (.goto (-30), 3) := by decide +kernel
theorem gd_Bk_placeOfTape_35 : decode gb_Bk_placeOfTape 35 = .ok (.iload_n 2, 1) := by decide +kernel
theorem gd_Bk_placeOfTape_36 : decode gb_Bk_placeOfTape 36 = .ok (.ireturn, 1) := by decide +kernel
theorem gd_Bk_isBeforeTape_0 : decode gb_Bk_isBeforeTape 0 = .ok (.aload_n 0, 1) := by decide +kernel
theorem gd_Bk_isBeforeTape_1 : decode gb_Bk_isBeforeTape 1 = .ok (.iload_n 1, 1) := by decide +kernel
theorem gd_Bk_isBeforeTape_2 : decode gb_Bk_isBeforeTape 2 = .ok (.invokevirtual 64, 3) := by decide +kernel
theorem gd_Bk_isBeforeTape_5 : decode gb_Bk_isBeforeTape 5 = .ok (.astore_n 3, 1) := by decide +kernel
theorem gd_Bk_isBeforeTape_6 : decode gb_Bk_isBeforeTape 6 = .ok (.aload_n 3, 1) := by decide +kernel
theorem gd_Bk_isBeforeTape_7 : decode gb_Bk_isBeforeTape 7 = .ok (.ifnull 19, 3) := by decide +kernel
theorem gd_Bk_isBeforeTape_10 : decode gb_Bk_isBeforeTape 10 = .ok (.aload_n 3, 1) := by decide +kernel
theorem gd_Bk_isBeforeTape_11 : decode gb_Bk_isBeforeTape 11 = .ok (.iload_n 2, 1) := by decide +kernel
theorem gd_Bk_isBeforeTape_12 : decode gb_Bk_isBeforeTape 12 = .ok (.aload_n 0, 1) := by decide +kernel
theorem gd_Bk_isBeforeTape_13 : decode gb_Bk_isBeforeTape 13 = .ok (.getfield 10, 3) := by decide +kernel
theorem gd_Bk_isBeforeTape_16 : decode gb_Bk_isBeforeTape 16 = .ok (.invokevirtual 163, 3) := by decide +kernel
theorem gd_Bk_isBeforeTape_19 : decode gb_Bk_isBeforeTape 19 = .ok (.ifCond .ge 7, 3) := by decide +kernel
theorem gd_Bk_isBeforeTape_22 : decode gb_Bk_isBeforeTape 22 = .ok (.iconst 1, 1) := by decide +kernel
theorem gd_Bk_isBeforeTape_23 : decode gb_Bk_isBeforeTape 23 = .ok (.goto 4, 3) := by decide +kernel
theorem gd_Bk_isBeforeTape_26 : decode gb_Bk_isBeforeTape 26 = .ok (.iconst 0, 1) := by decide +kernel
theorem gd_Bk_isBeforeTape_27 : decode gb_Bk_isBeforeTape 27 = .ok (.ireturn, 1) := by decide +kernel
theorem gd_Bk_isTape_0 : decode gb_Bk_isTape 0 = .ok (.aload_n 0, 1) := by decide +kernel
theorem gd_Bk_isTape_1 : decode gb_Bk_isTape 1 = .ok (.iload_n 1, 1) := by decide +kernel
theorem gd_Bk_isTape_2 : decode gb_Bk_isTape 2 = .ok (.invokevirtual 64, 3) := by decide +kernel
theorem gd_Bk_isTape_5 : decode gb_Bk_isTape 5 = .ok (.astore_n 3, 1) := by decide +kernel
theorem gd_Bk_isTape_6 : decode gb_Bk_isTape 6 = .ok (.aload_n 3, 1) := by decide +kernel
theorem gd_Bk_isTape_7 : decode gb_Bk_isTape 7 = .ok (.ifnull 19, 3) := by decide +kernel
theorem gd_Bk_isTape_10 : decode gb_Bk_isTape 10 = .ok (.aload_n 3, 1) := by decide +kernel
theorem gd_Bk_isTape_11 : decode gb_Bk_isTape 11 = .ok (.iload_n 2, 1) := by decide +kernel
theorem gd_Bk_isTape_12 : decode gb_Bk_isTape 12 = .ok (.aload_n 0, 1) := by decide +kernel
theorem gd_Bk_isTape_13 : decode gb_Bk_isTape 13 = .ok (.getfield 10, 3) := by decide +kernel
theorem gd_Bk_isTape_16 : decode gb_Bk_isTape 16 = .ok (.invokevirtual 163, 3) := by decide +kernel
theorem gd_Bk_isTape_19 : decode gb_Bk_isTape 19 = .ok (.ifCond .ne 7, 3) := by decide +kernel
theorem gd_Bk_isTape_22 : decode gb_Bk_isTape 22 = .ok (.iconst 1, 1) := by decide +kernel
theorem gd_Bk_isTape_23 : decode gb_Bk_isTape 23 = .ok (.goto 4, 3) := by decide +kernel
theorem gd_Bk_isTape_26 : decode gb_Bk_isTape 26 = .ok (.iconst 0, 1) := by decide +kernel
theorem gd_Bk_isTape_27 : decode gb_Bk_isTape 27 = .ok (.ireturn, 1) := by decide +kernel
theorem gd_Bk_useTape_0 : decode gb_Bk_useTape 0 = .ok (.aload_n 0, 1) := by decide +kernel
theorem gd_Bk_useTape_1 : decode gb_Bk_useTape 1 = .ok (.iload_n 1, 1) := by decide +kernel
theorem gd_Bk_useTape_2 : decode gb_Bk_useTape 2 = .ok (.invokevirtual 82, 3) := by decide +kernel
theorem gd_Bk_useTape_5 : decode gb_Bk_useTape 5 = .ok (.istore_n 2, 1) := by decide +kernel
theorem gd_Bk_useTape_6 : decode gb_Bk_useTape 6 = .ok (.aload_n 0, 1) := by decide +kernel
theorem gd_Bk_useTape_7 : decode gb_Bk_useTape 7 = .ok (.getfield 26, 3) := by decide +kernel
theorem gd_Bk_useTape_10 : decode gb_Bk_useTape 10 = .ok (.iload_n 2, 1) := by decide +kernel
theorem gd_Bk_useTape_11 : decode gb_Bk_useTape 11 = .ok (.invokevirtual 85, 3) := by decide +kernel
theorem gd_Bk_useTape_14 : decode gb_Bk_useTape 14 = .ok (.istore_n 3, 1) := by decide +kernel
theorem gd_Bk_useTape_15 : decode gb_Bk_useTape 15 = .ok (.aload_n 0, 1) := by decide +kernel
theorem gd_Bk_useTape_16 : decode gb_Bk_useTape 16 = .ok (.iload_n 3, 1) := by decide +kernel
theorem gd_Bk_useTape_17 : decode gb_Bk_useTape 17 = .ok (.iload_n 1, 1) := by decide +kernel
theorem gd_Bk_useTape_18 : decode gb_Bk_useTape 18 = .ok (.invokevirtual 88, 3) := by decide +kernel
theorem gd_Bk_useTape_21 : decode gb_Bk_useTape 21 = .ok (.ifCond .ne 10, 3) := by decide +kernel
theorem gd_Bk_useTape_24 : decode gb_Bk_useTape 24 = .ok (.aload_n 0, 1) := by decide +kernel
theorem gd_Bk_useTape_25 : decode gb_Bk_useTape 25 = .ok (.iload_n 1, 1) := by decide +kernel
theorem gd_Bk_useTape_26 : decode gb_Bk_useTape 26 = .ok (.iload_n 2, 1) := by decide +kernel
theorem gd_Bk_useTape_27 : decode gb_Bk_useTape 27 = .ok (.invokevirtual 167, 3) := by decide +kernel
theorem gd_Bk_useTape_30 : decode gb_Bk_useTape 30 = .ok (.istore_n 3, 1) := by decide +kernel
theorem gd_Bk_useTape_31 : decode gb_Bk_useTape 31 = .ok (.aload_n 0, 1) := by decide +kernel
theorem gd_Bk_useTape_32 : decode gb_Bk_useTape 32 = .ok (.iload_n 3, 1) := by decide +kernel
theorem gd_Bk_useTape_33 : decode gb_Bk_useTape 33 = .ok (.invokevirtual 64, 3) := by decide +kernel
theorem gd_Bk_useTape_36 : decode gb_Bk_useTape 36 = .ok (.astore 4, 2) := by decide +kernel
theorem gd_Bk_useTape_38 : decode gb_Bk_useTape 38 = .ok (.aload 4, 2) := by decide +kernel
theorem gd_Bk_useTape_40 : decode gb_Bk_useTape 40 = .ok (.ifnonnull 6, 3) := by decide +kernel
theorem gd_Bk_useTape_43 : decode gb_Bk_useTape 43 = .ok (.bipush (-3), 2) := by decide +kernel
theorem gd_Bk_useTape_45 : decode gb_Bk_useTape 45 = .ok (.ireturn, 1) := by decide +kernel
theorem gd_Bk_useTape_46 : decode gb_Bk_useTape 46 = .ok (.aload 4, 2) := by decide +kernel
theorem gd_Bk_useTape_48 : decode gb_Bk_useTape 48 = .ok (.dup, 1) := by decide +kernel
theorem gd_Bk_useTape_49 : decode gb_Bk_useTape 49 = .ok (.getfield 68, 3) := by decide +kernel
theorem gd_Bk_useTape_52 : decode gb_Bk_useTape 52 = .ok (.iconst 1, 1) := by decide +kernel
theorem gd_Bk_useTape_53 : decode gb_Bk_useTape 53 = .ok (.iadd, 1) := by decide +kernel
theorem gd_Bk_useTape_54 : decode gb_Bk_useTape 54 = .ok (.putfield 68, 3) := by decide +kernel
theorem gd_Bk_useTape_57 : decode gb_Bk_useTape 57 = .ok (.iload_n 3, 1) := by decide +kernel
theorem gd_Bk_useTape_58 : decode gb_Bk_useTape 58 = .ok (.ireturn, 1) := by decide +kernel
theorem gd_Bk_bringTape_0 : decode gb_Bk_bringTape 0 = .ok (.aload_n 0, 1) := by decide +kernel
theorem gd_Bk_bringTape_1 : decode gb_Bk_bringTape 1 = .ok (.invokevirtual 171, 3) := by decide +kernel
theorem gd_Bk_bringTape_4 : decode gb_Bk_bringTape 4 = .ok (.istore_n 3, 1) := by decide +kernel
theorem gd_Bk_bringTape_5 : decode gb_Bk_bringTape 5 = .ok (.iload_n 3, 1) := by decide +kernel
theorem gd_Bk_bringTape_6 : decode gb_Bk_bringTape 6 = .ok (.iconst (-1), 1) := by decide +kernel
theorem gd_Bk_bringTape_7 : decode gb_Bk_bringTape 7 = .ok (.if_icmp .eq 12, 3) := by decide +kernel
theorem gd_Bk_bringTape_10 : decode gb_Bk_bringTape 10 = .ok (.aload_n 0, 1) := by decide +kernel
theorem gd_Bk_bringTape_11 : decode gb_Bk_bringTape 11 = .ok (.getfield 18, 3) := by decide +kernel
theorem gd_Bk_bringTape_14 : decode gb_Bk_bringTape 14 = .ok (.iload_n 3, 1) := by decide +kernel
theorem gd_Bk_bringTape_15 : decode gb_Bk_bringTape 15 = .ok (.aaload, 1) := by decide +kernel
theorem gd_Bk_bringTape_16 : decode gb_Bk_bringTape 16 = .ok (.ifnonnull 5, 3) := by decide +kernel
theorem gd_Bk_bringTape_19 : decode gb_Bk_bringTape 19 = .ok (.iconst (-1), 1) := by decide +kernel
theorem gd_Bk_bringTape_20 : decode gb_Bk_bringTape 20 = .ok (.ireturn, 1) := by decide +kernel
theorem gd_Bk_bringTape_21 : decode gb_Bk_bringTape 21 = .ok (.aload_n 0, 1) := by decide +kernel
theorem gd_Bk_bringTape_22 : decode gb_Bk_bringTape 22 = .ok (.getfield 18, 3) := by decide +kernel
theorem gd_Bk_bringTape_25 : decode gb_Bk_bringTape 25 = .ok (.iload_n 3, 1) := by decide +kernel
theorem gd_Bk_bringTape_26 : decode gb_Bk_bringTape 26 = .ok (.aaload, 1) := by decide +kernel
theorem gd_Bk_bringTape_27 : decode gb_Bk_bringTape 27 = .ok (.iload_n 1, 1) := by decide +kernel
theorem gd_Bk_bringTape_28 : decode gb_Bk_bringTape 28 = .ok (.aload_n 0, 1) := by decide +kernel
theorem gd_Bk_bringTape_29 : decode gb_Bk_bringTape 29 = .ok (.getfield 10, 3) := by decide +kernel
theorem gd_Bk_bringTape_32 : decode gb_Bk_bringTape 32 = .ok (.invokevirtual 174, 3) := by decide +kernel
theorem gd_Bk_bringTape_35 : decode gb_Bk_bringTape 35 = .ok (.aload_n 0, 1) := by decide +kernel
theorem gd_Bk_bringTape_36 : decode gb_Bk_bringTape 36 = .ok (.getfield 26, 3) := by decide +kernel
theorem gd_Bk_bringTape_39 : decode gb_Bk_bringTape 39 = .ok (.iload_n 2, 1) := by decide +kernel
theorem gd_Bk_bringTape_40 : decode gb_Bk_bringTape 40 = .ok (.iload_n 3, 1) := by decide +kernel
theorem gd_Bk_bringTape_41 : decode gb_Bk_bringTape 41 = .ok (.invokevirtual 178, 3) := by decide +kernel
theorem gd_Bk_bringTape_44 : decode gb_Bk_bringTape 44 = .ok (.iload_n 3, 1) := by decide +kernel
theorem gd_Bk_bringTape_45 : decode gb_Bk_bringTape 45 = .ok (.ireturn, 1) := by decide +kernel
theorem gd_Bk_leastFree_0 : decode gb_Bk_leastFree 0 = .ok (.iconst 0, 1) := by decide +kernel
theorem gd_Bk_leastFree_1 : decode gb_Bk_leastFree 1 = .ok (.istore_n 1, 1) := by decide +kernel
theorem gd_Bk_leastFree_2 : decode gb_Bk_leastFree 2 = .ok (.iload_n 1, 1) := by decide +kernel
theorem gd_Bk_leastFree_3 : decode gb_Bk_leastFree 3 = .ok (.bipush 100, 2) := by decide +kernel
theorem gd_Bk_leastFree_5 : decode gb_Bk_leastFree 5 = .ok (.if_icmp .ge 19, 3) := by decide +kernel
theorem gd_Bk_leastFree_8 : decode gb_Bk_leastFree 8 = .ok (.aload_n 0, 1) := by decide +kernel
theorem gd_Bk_leastFree_9 : decode gb_Bk_leastFree 9 = .ok (.iload_n 1, 1) := by decide +kernel
theorem gd_Bk_leastFree_10 : decode gb_Bk_leastFree 10 = .ok (.invokevirtual 64, 3) := by decide +kernel
theorem gd_Bk_leastFree_13 : decode gb_Bk_leastFree 13 = .ok (.ifnonnull 5, 3) := by decide +kernel
theorem gd_Bk_leastFree_16 : decode gb_Bk_leastFree 16 = .ok (.iload_n 1, 1) := by decide +kernel
theorem gd_Bk_leastFree_17 : decode gb_Bk_leastFree 17 = .ok (.ireturn, 1) := by decide +kernel
theorem gd_Bk_leastFree_18 : decode gb_Bk_leastFree 18 = .ok (.iinc 1 1, 3) := by decide +kernel
theorem gd_Bk_leastFree_21 : decode gb_Bk_leastFree 21 = .ok (.goto (-19), 3) := by decide +kernel
theorem gd_Bk_leastFree_24 : decode gb_Bk_leastFree 24 = .ok (.iconst (-1), 1) := by decide +kernel
theorem gd_Bk_leastFree_25 : decode gb_Bk_leastFree 25 = .ok (.ireturn, 1) := by decide +kernel
theorem gd_Bk_takeOut_0 : decode gb_Bk_takeOut 0 = .ok (.aload_n 1, 1) := by decide +kernel
theorem gd_Bk_takeOut_1 : decode gb_Bk_takeOut 1 = .ok (.iconst 0, 1) := by decide +kernel
theorem gd_Bk_takeOut_2 : decode gb_Bk_takeOut 2 = .ok (.putfield 156, 3) := by decide +kernel
theorem gd_Bk_takeOut_5 : decode gb_Bk_takeOut 5 = .ok (.aload_n 0, 1) := by decide +kernel
theorem gd_Bk_takeOut_6 : decode gb_Bk_takeOut 6 = .ok (.getfield 26, 3) := by decide +kernel
theorem gd_Bk_takeOut_9 : decode gb_Bk_takeOut 9 = .ok (.iload_n 2, 1) := by decide +kernel
theorem gd_Bk_takeOut_10 : decode gb_Bk_takeOut 10 = .ok (.invokevirtual 182, 3) := by decide +kernel
theorem gd_Bk_takeOut_13 : decode gb_Bk_takeOut 13 = .ok (.return_, 1) := by decide +kernel
theorem gd_Bk_takeOutUnneeded_0 : decode gb_Bk_takeOutUnneeded 0 = .ok (.aload_n 0, 1) := by decide +kernel
theorem gd_Bk_takeOutUnneeded_1 : decode gb_Bk_takeOutUnneeded 1 = .ok (.getfield 26, 3) := by decide +kernel
theorem gd_Bk_takeOutUnneeded_4 : decode gb_Bk_takeOutUnneeded 4 = .ok (.getfield 142, 3) := by decide +kernel
theorem gd_Bk_takeOutUnneeded_7 : decode gb_Bk_takeOutUnneeded 7 = .ok (.istore_n 1, 1) := by decide +kernel
theorem gd_Bk_takeOutUnneeded_8 : decode gb_Bk_takeOutUnneeded 8 = .ok (.iconst 0, 1) := by decide +kernel
theorem gd_Bk_takeOutUnneeded_9 : decode gb_Bk_takeOutUnneeded 9 = .ok (.istore_n 2, 1) := by decide +kernel
theorem gd_Bk_takeOutUnneeded_10 : decode gb_Bk_takeOutUnneeded 10 = .ok (.iconst 0, 1) := by decide +kernel
theorem gd_Bk_takeOutUnneeded_11 : decode gb_Bk_takeOutUnneeded 11 = .ok (.istore_n 3, 1) := by decide +kernel
theorem gd_Bk_takeOutUnneeded_12 : decode gb_Bk_takeOutUnneeded 12 = .ok (.iload_n 3, 1) := by decide +kernel
theorem gd_Bk_takeOutUnneeded_13 : decode gb_Bk_takeOutUnneeded 13 = .ok (.iload_n 1, 1) := by decide +kernel
theorem gd_Bk_takeOutUnneeded_14 : decode gb_Bk_takeOutUnneeded 14 = .ok (.if_icmp .ge 49, 3) := by decide +kernel
theorem gd_Bk_takeOutUnneeded_17 : decode gb_Bk_takeOutUnneeded 17 = .ok (.aload_n 0, 1) := by decide +kernel
theorem gd_Bk_takeOutUnneeded_18 : decode gb_Bk_takeOutUnneeded 18 = .ok (.aload_n 0, 1) := by decide +kernel
theorem gd_Bk_takeOutUnneeded_19 : decode gb_Bk_takeOutUnneeded 19 = .ok (.getfield 26, 3) := by decide +kernel
theorem gd_Bk_takeOutUnneeded_22 : decode gb_Bk_takeOutUnneeded 22 = .ok (.iload_n 2, 1) := by decide +kernel
theorem gd_Bk_takeOutUnneeded_23 : decode gb_Bk_takeOutUnneeded 23 = .ok (.invokevirtual 85, 3) := by decide +kernel
theorem gd_Bk_takeOutUnneeded_26 : decode gb_Bk_takeOutUnneeded 26 = .ok (.invokevirtual 64, 3) := by decide +kernel
theorem gd_Bk_takeOutUnneeded_29 : decode gb_Bk_takeOutUnneeded 29 = .ok (.astore 4, 2) := by decide +kernel
theorem gd_Bk_takeOutUnneeded_31 : decode gb_Bk_takeOutUnneeded 31 = .ok (.aload 4, 2) := by decide +kernel
theorem gd_Bk_takeOutUnneeded_33 : decode gb_Bk_takeOutUnneeded 33 = .ok (.ifnull 21, 3) := by decide +kernel
theorem gd_Bk_takeOutUnneeded_36 : decode gb_Bk_takeOutUnneeded 36 = .ok (.aload 4, 2) := by decide +kernel
theorem gd_Bk_takeOutUnneeded_38 : decode gb_Bk_takeOutUnneeded 38 = .ok (.invokevirtual 71, 3) := by decide +kernel
theorem gd_Bk_takeOutUnneeded_41 : decode gb_Bk_takeOutUnneeded 41 = .ok (.ifCond .ne 13, 3) := by decide +kernel
theorem gd_Bk_takeOutUnneeded_44 : decode gb_Bk_takeOutUnneeded 44 = .ok (.aload_n 0, 1) := by decide +kernel
theorem gd_Bk_takeOutUnneeded_45 : decode gb_Bk_takeOutUnneeded 45 = .ok (.aload 4, 2) := by decide +kernel
theorem gd_Bk_takeOutUnneeded_47 : decode gb_Bk_takeOutUnneeded 47 = .ok (.iload_n 2, 1) := by decide +kernel
theorem gd_Bk_takeOutUnneeded_48 : decode gb_Bk_takeOutUnneeded 48 = .ok (.invokevirtual 78, 3) := by decide +kernel
theorem gd_Bk_takeOutUnneeded_51 : decode gb_Bk_takeOutUnneeded 51 = .ok (.goto 6, 3) := by decide +kernel
theorem gd_Bk_takeOutUnneeded_54 : decode gb_Bk_takeOutUnneeded 54 = .ok (.iinc 2 1, 3) := by decide +kernel
theorem gd_Bk_takeOutUnneeded_57 : decode gb_Bk_takeOutUnneeded 57 = .ok (.iinc 3 1, 3) := by decide +kernel
theorem gd_Bk_takeOutUnneeded_60 : decode gb_Bk_takeOutUnneeded 60 = .ok (.goto (-48), 3) := by decide +kernel
theorem gd_Bk_takeOutUnneeded_63 : decode gb_Bk_takeOutUnneeded 63 = .ok (.iload_n 1, 1) := by decide +kernel
theorem gd_Bk_takeOutUnneeded_64 : decode gb_Bk_takeOutUnneeded 64 = .ok (.aload_n 0, 1) := by decide +kernel
theorem gd_Bk_takeOutUnneeded_65 : decode gb_Bk_takeOutUnneeded 65 = .ok (.getfield 26, 3) := by decide +kernel
theorem gd_Bk_takeOutUnneeded_68 : decode gb_Bk_takeOutUnneeded 68 = .ok (.getfield 142, 3) := by decide +kernel
theorem gd_Bk_takeOutUnneeded_71 : decode gb_Bk_takeOutUnneeded 71 = .ok (.isub, 1) := by decide +kernel
theorem gd_Bk_takeOutUnneeded_72 : decode gb_Bk_takeOutUnneeded 72 = .ok (.ireturn, 1) := by decide +kernel
theorem gd_Bk_slotOf_0 : decode gb_Bk_slotOf 0 = .ok (.iconst 0, 1) := by decide +kernel
theorem gd_Bk_slotOf_1 : decode gb_Bk_slotOf 1 = .ok (.istore_n 2, 1) := by decide +kernel
theorem gd_Bk_slotOf_2 : decode gb_Bk_slotOf 2 = .ok (.iload_n 2, 1) := by decide +kernel
theorem gd_Bk_slotOf_3 : decode gb_Bk_slotOf 3 = .ok (.aload_n 0, 1) := by decide +kernel
theorem gd_Bk_slotOf_4 : decode gb_Bk_slotOf 4 = .ok (.getfield 30, 3) := by decide +kernel
theorem gd_Bk_slotOf_7 : decode gb_Bk_slotOf 7 = .ok (.arraylength, 1) := by decide +kernel
theorem gd_Bk_slotOf_8 : decode gb_Bk_slotOf 8 = .ok (.if_icmp .ge 21, 3) := by decide +kernel
theorem gd_Bk_slotOf_11 : decode gb_Bk_slotOf 11 = .ok (.aload_n 0, 1) := by decide +kernel
theorem gd_Bk_slotOf_12 : decode gb_Bk_slotOf 12 = .ok (.getfield 30, 3) := by decide +kernel
theorem gd_Bk_slotOf_15 : decode gb_Bk_slotOf 15 = .ok (.iload_n 2, 1) := by decide +kernel
theorem gd_Bk_slotOf_16 : decode gb_Bk_slotOf 16 = .ok (.iaload, 1) := by decide +kernel
theorem gd_Bk_slotOf_17 : decode gb_Bk_slotOf 17 = .ok (.iload_n 1, 1) := by decide +kernel
theorem gd_Bk_slotOf_18 : decode gb_Bk_slotOf 18 = .ok (.if_icmp .ne 5, 3) := by decide +kernel
theorem gd_Bk_slotOf_21 : decode gb_Bk_slotOf 21 = .ok (.iload_n 2, 1) := by decide +kernel
theorem gd_Bk_slotOf_22 : decode gb_Bk_slotOf 22 = .ok (.ireturn, 1) := by decide +kernel
theorem gd_Bk_slotOf_23 : decode gb_Bk_slotOf 23 = .ok (.iinc 2 1, 3) := by decide +kernel
theorem gd_Bk_slotOf_26 : decode gb_Bk_slotOf 26 = .ok (.goto (-24), 3) := by decide +kernel
theorem gd_Bk_slotOf_29 : decode gb_Bk_slotOf 29 = .ok (.iconst (-1), 1) := by decide +kernel
theorem gd_Bk_slotOf_30 : decode gb_Bk_slotOf 30 = .ok (.ireturn, 1) := by decide +kernel
theorem gd_Bk_keptSlot_0 : decode gb_Bk_keptSlot 0 = .ok (.iload_n 1, 1) := by decide +kernel
theorem gd_Bk_keptSlot_1 : decode gb_Bk_keptSlot 1 = .ok (.ifCond .ge 7, 3) := by decide +kernel
theorem gd_Bk_keptSlot_4 : decode gb_Bk_keptSlot 4 = .ok (.iconst (-1), 1) := by decide +kernel
theorem gd_Bk_keptSlot_5 : decode gb_Bk_keptSlot 5 = .ok (.goto 8, 3) := by decide +kernel
theorem gd_Bk_keptSlot_8 : decode gb_Bk_keptSlot 8 = .ok (.aload_n 0, 1) := by decide +kernel
theorem gd_Bk_keptSlot_9 : decode gb_Bk_keptSlot 9 = .ok (.iload_n 1, 1) := by decide +kernel
theorem gd_Bk_keptSlot_10 : decode gb_Bk_keptSlot 10 = .ok (.invokevirtual 105, 3) := by decide +kernel
theorem gd_Bk_keptSlot_13 : decode gb_Bk_keptSlot 13 = .ok (.ireturn, 1) := by decide +kernel
theorem gd_Bk_countKeptFor_0 : decode gb_Bk_countKeptFor 0 = .ok (.iconst 0, 1) := by decide +kernel
theorem gd_Bk_countKeptFor_1 : decode gb_Bk_countKeptFor 1 = .ok (.istore_n 2, 1) := by decide +kernel
theorem gd_Bk_countKeptFor_2 : decode gb_Bk_countKeptFor 2 = .ok (.iconst 0, 1) := by decide +kernel
theorem gd_Bk_countKeptFor_3 : decode gb_Bk_countKeptFor 3 = .ok (.istore_n 3, 1) := by decide +kernel
theorem gd_Bk_countKeptFor_4 : decode gb_Bk_countKeptFor 4 = .ok (.iload_n 3, 1) := by decide +kernel
theorem gd_Bk_countKeptFor_5 : decode gb_Bk_countKeptFor 5 = .ok (.bipush 100, 2) := by decide +kernel
theorem gd_Bk_countKeptFor_7 : decode gb_Bk_countKeptFor 7 = .ok (.if_icmp .ge 33, 3) := by decide +kernel
theorem gd_Bk_countKeptFor_10 : decode gb_Bk_countKeptFor 10 = .ok (.aload_n 0, 1) := by decide +kernel
theorem gd_Bk_countKeptFor_11 : decode gb_Bk_countKeptFor 11 = .ok (.iload_n 3, 1) := by decide +kernel
theorem gd_Bk_countKeptFor_12 : decode gb_Bk_countKeptFor 12 = .ok (.invokevirtual 64, 3) := by decide +kernel
theorem gd_Bk_countKeptFor_15 : decode gb_Bk_countKeptFor 15 = .ok (.astore 4, 2) := by decide +kernel
theorem gd_Bk_countKeptFor_17 : decode gb_Bk_countKeptFor 17 = .ok (.aload 4, 2) := by decide +kernel
theorem gd_Bk_countKeptFor_19 : decode gb_Bk_countKeptFor 19 = .ok (.ifnull 15, 3) := by decide +kernel
theorem gd_Bk_countKeptFor_22 : decode gb_Bk_countKeptFor 22 = .ok (.aload 4, 2) := by decide +kernel
theorem gd_Bk_countKeptFor_24 : decode gb_Bk_countKeptFor 24 = .ok (.iload_n 1, 1) := by decide +kernel
theorem gd_Bk_countKeptFor_25 : decode gb_Bk_countKeptFor 25 = .ok (.invokevirtual 124, 3) := by decide +kernel
theorem gd_Bk_countKeptFor_28 : decode gb_Bk_countKeptFor 28 = .ok (.ifCond .eq 6, 3) := by decide +kernel
theorem gd_Bk_countKeptFor_31 : decode gb_Bk_countKeptFor 31 = .ok (.iinc 2 1, 3) := by decide +kernel
theorem gd_Bk_countKeptFor_34 : decode gb_Bk_countKeptFor 34 = .ok (.iinc 3 1, 3) := by decide +kernel
theorem gd_Bk_countKeptFor_37 : decode gb_Bk_countKeptFor 37 = .ok (.goto (-33), 3) := by decide +kernel
theorem gd_Bk_countKeptFor_40 : decode gb_Bk_countKeptFor 40 = .ok (.iload_n 2, 1) := by decide +kernel
theorem gd_Bk_countKeptFor_41 : decode gb_Bk_countKeptFor 41 = .ok (.ireturn, 1) := by decide +kernel
theorem gd_Bk_countKeptVersions_0 : decode gb_Bk_countKeptVersions 0 = .ok (.iconst 0, 1) := by decide +kernel
theorem gd_Bk_countKeptVersions_1 : decode gb_Bk_countKeptVersions 1 = .ok (.istore_n 1, 1) := by decide +kernel
theorem gd_Bk_countKeptVersions_2 : decode gb_Bk_countKeptVersions 2 = .ok (.iconst 0, 1) := by decide +kernel
theorem gd_Bk_countKeptVersions_3 : decode gb_Bk_countKeptVersions 3 = .ok (.istore_n 2, 1) := by decide +kernel
theorem gd_Bk_countKeptVersions_4 : decode gb_Bk_countKeptVersions 4 = .ok (.iload_n 2, 1) := by decide +kernel
theorem gd_Bk_countKeptVersions_5 : decode gb_Bk_countKeptVersions 5 = .ok (.aload_n 0, 1) := by decide +kernel
theorem gd_Bk_countKeptVersions_6 : decode gb_Bk_countKeptVersions 6 = .ok (.getfield 30, 3) := by decide +kernel
theorem gd_Bk_countKeptVersions_9 : decode gb_Bk_countKeptVersions 9 = .ok (.arraylength, 1) := by decide +kernel
theorem gd_Bk_countKeptVersions_10 : decode gb_Bk_countKeptVersions 10 = .ok (.if_icmp .ge 22, 3) := by decide +kernel
theorem gd_Bk_countKeptVersions_13 : decode gb_Bk_countKeptVersions 13 = .ok (.aload_n 0, 1) := by decide +kernel
theorem gd_Bk_countKeptVersions_14 : decode gb_Bk_countKeptVersions 14 = .ok (.getfield 30, 3) := by decide +kernel
theorem gd_Bk_countKeptVersions_17 : decode gb_Bk_countKeptVersions 17 = .ok (.iload_n 2, 1) := by decide +kernel
theorem gd_Bk_countKeptVersions_18 : decode gb_Bk_countKeptVersions 18 = .ok (.iaload, 1) := by decide +kernel
theorem gd_Bk_countKeptVersions_19 : decode gb_Bk_countKeptVersions 19 = .ok (.iconst (-1), 1) := by decide +kernel
theorem gd_Bk_countKeptVersions_20 : decode gb_Bk_countKeptVersions 20 = .ok (.if_icmp .eq 6, 3) := by decide +kernel
theorem gd_Bk_countKeptVersions_23 : decode gb_Bk_countKeptVersions 23 = .ok (.iinc 1 1, 3) := by decide +kernel
theorem gd_Bk_countKeptVersions_26 : decode gb_Bk_countKeptVersions 26 = .ok (.iinc 2 1, 3) := by decide +kernel
theorem gd_Bk_countKeptVersions_29 : decode gb_Bk_countKeptVersions 29 = .ok (.goto (-25), 3) := by decide +kernel
theorem gd_Bk_countKeptVersions_32 : decode gb_Bk_countKeptVersions 32 = .ok (.iload_n 1, 1) := by decide +kernel
theorem gd_Bk_countKeptVersions_33 : decode gb_Bk_countKeptVersions 33 = .ok (.ireturn, 1) := by decide +kernel
theorem gd_Bk_countUnused_0 : decode gb_Bk_countUnused 0 = .ok (.iconst 0, 1) := by decide +kernel
theorem gd_Bk_countUnused_1 : decode gb_Bk_countUnused 1 = .ok (.istore_n 1, 1) := by decide +kernel
theorem gd_Bk_countUnused_2 : decode gb_Bk_countUnused 2 = .ok (.iconst 0, 1) := by decide +kernel
theorem gd_Bk_countUnused_3 : decode gb_Bk_countUnused 3 = .ok (.istore_n 2, 1) := by decide +kernel
theorem gd_Bk_countUnused_4 : decode gb_Bk_countUnused 4 = .ok (.iload_n 2, 1) := by decide +kernel
theorem gd_Bk_countUnused_5 : decode gb_Bk_countUnused 5 = .ok (.bipush 100, 2) := by decide +kernel
theorem gd_Bk_countUnused_7 : decode gb_Bk_countUnused 7 = .ok (.if_icmp .ge 29, 3) := by decide +kernel
theorem gd_Bk_countUnused_10 : decode gb_Bk_countUnused 10 = .ok (.aload_n 0, 1) := by decide +kernel
theorem gd_Bk_countUnused_11 : decode gb_Bk_countUnused 11 = .ok (.iload_n 2, 1) := by decide +kernel
theorem gd_Bk_countUnused_12 : decode gb_Bk_countUnused 12 = .ok (.invokevirtual 64, 3) := by decide +kernel
theorem gd_Bk_countUnused_15 : decode gb_Bk_countUnused 15 = .ok (.astore_n 3, 1) := by decide +kernel
theorem gd_Bk_countUnused_16 : decode gb_Bk_countUnused 16 = .ok (.aload_n 3, 1) := by decide +kernel
theorem gd_Bk_countUnused_17 : decode gb_Bk_countUnused 17 = .ok (.ifnull 13, 3) := by decide +kernel
theorem gd_Bk_countUnused_20 : decode gb_Bk_countUnused 20 = .ok (.aload_n 3, 1) := by decide +kernel
theorem gd_Bk_countUnused_21 : decode gb_Bk_countUnused 21 = .ok (.getfield 68, 3) := by decide +kernel
theorem gd_Bk_countUnused_24 : decode gb_Bk_countUnused 24 = .ok (.ifCond .ne 6, 3) := by decide +kernel
theorem gd_Bk_countUnused_27 : decode gb_Bk_countUnused 27 = .ok (.iinc 1 1, 3) := by decide +kernel
theorem gd_Bk_countUnused_30 : decode gb_Bk_countUnused 30 = .ok (.iinc 2 1, 3) := by decide +kernel
theorem gd_Bk_countUnused_33 : decode gb_Bk_countUnused 33 = .ok (.goto (-29), 3) := by decide +kernel
theorem gd_Bk_countUnused_36 : decode gb_Bk_countUnused 36 = .ok (.iload_n 1, 1) := by decide +kernel
theorem gd_Bk_countUnused_37 : decode gb_Bk_countUnused 37 = .ok (.ireturn, 1) := by decide +kernel
theorem gd_Bk_sharedIn_0 : decode gb_Bk_sharedIn 0 = .ok (.aload_n 0, 1) := by decide +kernel
theorem gd_Bk_sharedIn_1 : decode gb_Bk_sharedIn 1 = .ok (.getfield 26, 3) := by decide +kernel
theorem gd_Bk_sharedIn_4 : decode gb_Bk_sharedIn 4 = .ok (.iload_n 1, 1) := by decide +kernel
theorem gd_Bk_sharedIn_5 : decode gb_Bk_sharedIn 5 = .ok (.invokevirtual 139, 3) := by decide +kernel
theorem gd_Bk_sharedIn_8 : decode gb_Bk_sharedIn 8 = .ok (.istore_n 2, 1) := by decide +kernel
theorem gd_Bk_sharedIn_9 : decode gb_Bk_sharedIn 9 = .ok (.aload_n 0, 1) := by decide +kernel
theorem gd_Bk_sharedIn_10 : decode gb_Bk_sharedIn 10 = .ok (.aload_n 0, 1) := by decide +kernel
theorem gd_Bk_sharedIn_11 : decode gb_Bk_sharedIn 11 = .ok (.getfield 26, 3) := by decide +kernel
theorem gd_Bk_sharedIn_14 : decode gb_Bk_sharedIn 14 = .ok (.iload_n 2, 1) := by decide +kernel
theorem gd_Bk_sharedIn_15 : decode gb_Bk_sharedIn 15 = .ok (.invokevirtual 85, 3) := by decide +kernel
theorem gd_Bk_sharedIn_18 : decode gb_Bk_sharedIn 18 = .ok (.invokevirtual 64, 3) := by decide +kernel
theorem gd_Bk_sharedIn_21 : decode gb_Bk_sharedIn 21 = .ok (.astore_n 3, 1) := by decide +kernel
theorem gd_Bk_sharedIn_22 : decode gb_Bk_sharedIn 22 = .ok (.aload_n 0, 1) := by decide +kernel
theorem gd_Bk_sharedIn_23 : decode gb_Bk_sharedIn 23 = .ok (.aload_n 0, 1) := by decide +kernel
theorem gd_Bk_sharedIn_24 : decode gb_Bk_sharedIn 24 = .ok (.getfield 26, 3) := by decide +kernel
theorem gd_Bk_sharedIn_27 : decode gb_Bk_sharedIn 27 = .ok (.iload_n 2, 1) := by decide +kernel
theorem gd_Bk_sharedIn_28 : decode gb_Bk_sharedIn 28 = .ok (.aload_n 0, 1) := by decide +kernel
theorem gd_Bk_sharedIn_29 : decode gb_Bk_sharedIn 29 = .ok (.getfield 26, 3) := by decide +kernel
theorem gd_Bk_sharedIn_32 : decode gb_Bk_sharedIn 32 = .ok (.iload_n 1, 1) := by decide +kernel
theorem gd_Bk_sharedIn_33 : decode gb_Bk_sharedIn 33 = .ok (.invokevirtual 130, 3) := by decide +kernel
theorem gd_Bk_sharedIn_36 : decode gb_Bk_sharedIn 36 = .ok (.iadd, 1) := by decide +kernel
theorem gd_Bk_sharedIn_37 : decode gb_Bk_sharedIn 37 = .ok (.iconst 1, 1) := by decide +kernel
theorem gd_Bk_sharedIn_38 : decode gb_Bk_sharedIn 38 = .ok (.isub, 1) := by decide +kernel
theorem gd_Bk_sharedIn_39 : decode gb_Bk_sharedIn 39 = .ok (.invokevirtual 85, 3) := by decide +kernel
theorem gd_Bk_sharedIn_42 : decode gb_Bk_sharedIn 42 = .ok (.invokevirtual 64, 3) := by decide +kernel
theorem gd_Bk_sharedIn_45 : decode gb_Bk_sharedIn 45 = .ok (.astore 4, 2) := by decide +kernel
theorem gd_Bk_sharedIn_47 : decode gb_Bk_sharedIn 47 = .ok (.aload_n 3, 1) := by decide +kernel
theorem gd_Bk_sharedIn_48 : decode gb_Bk_sharedIn 48 = .ok (.ifnull 20, 3) := by decide +kernel
theorem gd_Bk_sharedIn_51 : decode gb_Bk_sharedIn 51 = .ok (.aload 4, 2) := by decide +kernel
theorem gd_Bk_sharedIn_53 : decode gb_Bk_sharedIn 53 = .ok (.ifnull 15, 3) := by decide +kernel
theorem gd_Bk_sharedIn_56 : decode gb_Bk_sharedIn 56 = .ok (.aload_n 3, 1) := by decide +kernel
theorem gd_Bk_sharedIn_57 : decode gb_Bk_sharedIn 57 = .ok (.getfield 92, 3) := by decide +kernel
theorem gd_Bk_sharedIn_60 : decode gb_Bk_sharedIn 60 = .ok (.aload 4, 2) := by decide +kernel
theorem gd_Bk_sharedIn_62 : decode gb_Bk_sharedIn 62 = .ok (.getfield 92, 3) := by decide +kernel
theorem gd_Bk_sharedIn_65 : decode gb_Bk_sharedIn 65 = .ok (.if_icmp .eq 5, 3) := by decide +kernel
theorem gd_Bk_sharedIn_68 : decode gb_Bk_sharedIn 68 = .ok (.iconst 0, 1) := by decide +kernel
theorem gd_Bk_sharedIn_69 : decode gb_Bk_sharedIn 69 = .ok (.ireturn, 1) := by decide +kernel
theorem gd_Bk_sharedIn_70 : decode gb_Bk_sharedIn 70 = .ok (.aload_n 3, 1) := by decide +kernel
theorem gd_Bk_sharedIn_71 : decode gb_Bk_sharedIn 71 = .ok (.getfield 95, 3) := by decide +kernel
theorem gd_Bk_sharedIn_74 : decode gb_Bk_sharedIn 74 = .ok (.aload 4, 2) := by decide +kernel
theorem gd_Bk_sharedIn_76 : decode gb_Bk_sharedIn 76 = .ok (.getfield 95, 3) := by decide +kernel
theorem gd_Bk_sharedIn_79 : decode gb_Bk_sharedIn 79 = .ok (.invokevirtual 185, 3) := by decide +kernel
theorem gd_Bk_sharedIn_82 : decode gb_Bk_sharedIn 82 = .ok (.ireturn, 1) := by decide +kernel
theorem gd_Bk_costOf_0 : decode gb_Bk_costOf 0 = .ok (.aload_n 0, 1) := by decide +kernel
theorem gd_Bk_costOf_1 : decode gb_Bk_costOf 1 = .ok (.iload_n 1, 1) := by decide +kernel
theorem gd_Bk_costOf_2 : decode gb_Bk_costOf 2 = .ok (.invokevirtual 133, 3) := by decide +kernel
theorem gd_Bk_costOf_5 : decode gb_Bk_costOf 5 = .ok (.istore_n 2, 1) := by decide +kernel
theorem gd_Bk_costOf_6 : decode gb_Bk_costOf 6 = .ok (.aload_n 0, 1) := by decide +kernel
theorem gd_Bk_costOf_7 : decode gb_Bk_costOf 7 = .ok (.getfield 26, 3) := by decide +kernel
theorem gd_Bk_costOf_10 : decode gb_Bk_costOf 10 = .ok (.iload_n 1, 1) := by decide +kernel
theorem gd_Bk_costOf_11 : decode gb_Bk_costOf 11 = .ok (.invokevirtual 139, 3) := by decide +kernel
theorem gd_Bk_costOf_14 : decode gb_Bk_costOf 14 = .ok (.istore_n 3, 1) := by decide +kernel
theorem gd_Bk_costOf_15 : decode gb_Bk_costOf 15 = .ok (.iload_n 3, 1) := by decide +kernel
theorem gd_Bk_costOf_16 : decode gb_Bk_costOf 16 = .ok (.aload_n 0, 1) := by decide +kernel
theorem gd_Bk_costOf_17 : decode gb_Bk_costOf 17 = .ok (.getfield 26, 3) := by decide +kernel
theorem gd_Bk_costOf_20 : decode gb_Bk_costOf 20 = .ok (.iload_n 1, 1) := by decide +kernel
theorem gd_Bk_costOf_21 : decode gb_Bk_costOf 21 = .ok (.invokevirtual 130, 3) := by decide +kernel
theorem gd_Bk_costOf_24 : decode gb_Bk_costOf 24 = .ok (.iadd, 1) := by decide +kernel
theorem gd_Bk_costOf_25 : decode gb_Bk_costOf 25 = .ok (.istore 4, 2) := by decide +kernel
theorem gd_Bk_costOf_27 : decode gb_Bk_costOf 27 = .ok (.iload_n 2, 1) := by decide +kernel
theorem gd_Bk_costOf_28 : decode gb_Bk_costOf 28 = .ok (.istore 5, 2) := by decide +kernel
theorem gd_Bk_costOf_30 : decode gb_Bk_costOf 30 = .ok (.iload_n 3, 1) := by decide +kernel
theorem gd_Bk_costOf_31 : decode gb_Bk_costOf 31 = .ok (.istore 6, 2) := by decide +kernel
theorem gd_Bk_costOf_33 : decode gb_Bk_costOf 33 = .ok (.iload 6, 2) := by decide +kernel
theorem gd_Bk_costOf_35 : decode gb_Bk_costOf 35 = .ok (.iload 4, 2) := by decide +kernel
theorem gd_Bk_costOf_37 : decode gb_Bk_costOf 37 = .ok (.if_icmp .ge 44, 3) := by decide +kernel
theorem gd_Bk_costOf_40 : decode gb_Bk_costOf 40 = .ok (.aload_n 0, 1) := by decide +kernel
theorem gd_Bk_costOf_41 : decode gb_Bk_costOf 41 = .ok (.aload_n 0, 1) := by decide +kernel
theorem gd_Bk_costOf_42 : decode gb_Bk_costOf 42 = .ok (.getfield 26, 3) := by decide +kernel
theorem gd_Bk_costOf_45 : decode gb_Bk_costOf 45 = .ok (.iload 6, 2) := by decide +kernel
theorem gd_Bk_costOf_47 : decode gb_Bk_costOf 47 = .ok (.invokevirtual 85, 3) := by decide +kernel
theorem gd_Bk_costOf_50 : decode gb_Bk_costOf 50 = .ok (.invokevirtual 64, 3) := by decide +kernel
theorem gd_Bk_costOf_53 : decode gb_Bk_costOf 53 = .ok (.astore 7, 2) := by decide +kernel
theorem gd_Bk_costOf_55 : decode gb_Bk_costOf 55 = .ok (.aload 7, 2) := by decide +kernel
theorem gd_Bk_costOf_57 : decode gb_Bk_costOf 57 = .ok (.ifnull 18, 3) := by decide +kernel
theorem gd_Bk_costOf_60 : decode gb_Bk_costOf 60 = .ok (.iload 5, 2) := by decide +kernel
theorem gd_Bk_costOf_62 : decode gb_Bk_costOf 62 = .ok (.aload 7, 2) := by decide +kernel
theorem gd_Bk_costOf_64 : decode gb_Bk_costOf 64 = .ok (.getfield 95, 3) := by decide +kernel
theorem gd_Bk_costOf_67 : decode gb_Bk_costOf 67 = .ok (.getfield 42, 3) := by decide +kernel
theorem gd_Bk_costOf_70 : decode gb_Bk_costOf 70 = .ok (.iload_n 2, 1) := by decide +kernel
theorem gd_Bk_costOf_71 : decode gb_Bk_costOf 71 = .ok (.isub, 1) := by decide +kernel
theorem gd_Bk_costOf_72 : decode gb_Bk_costOf 72 = .ok (.iadd, 1) := by decide +kernel
theorem gd_Bk_costOf_73 : decode gb_Bk_costOf 73 = .ok (.istore 5, 2) := by decide +kernel
theorem gd_Bk_costOf_75 : decode gb_Bk_costOf 75 = .ok (.iinc 6 1, 3) := by decide +kernel
theorem gd_Bk_costOf_78 : decode gb_Bk_costOf 78 = .ok (.goto (-45), 3) := by decide +kernel
theorem gd_Bk_costOf_81 : decode gb_Bk_costOf 81 = .ok (.iload 5, 2) := by decide +kernel
theorem gd_Bk_costOf_83 : decode gb_Bk_costOf 83 = .ok (.ireturn, 1) := by decide +kernel
theorem gd_Bk_costOfAll_0 : decode gb_Bk_costOfAll 0 = .ok (.iconst 0, 1) := by decide +kernel
theorem gd_Bk_costOfAll_1 : decode gb_Bk_costOfAll 1 = .ok (.istore_n 1, 1) := by decide +kernel
theorem gd_Bk_costOfAll_2 : decode gb_Bk_costOfAll 2 = .ok (.iconst 0, 1) := by decide +kernel
theorem gd_Bk_costOfAll_3 : decode gb_Bk_costOfAll 3 = .ok (.istore_n 2, 1) := by decide +kernel
theorem gd_Bk_costOfAll_4 : decode gb_Bk_costOfAll 4 = .ok (.iload_n 2, 1) := by decide +kernel
theorem gd_Bk_costOfAll_5 : decode gb_Bk_costOfAll 5 = .ok (.aload_n 0, 1) := by decide +kernel
theorem gd_Bk_costOfAll_6 : decode gb_Bk_costOfAll 6 = .ok (.getfield 26, 3) := by decide +kernel
theorem gd_Bk_costOfAll_9 : decode gb_Bk_costOfAll 9 = .ok (.getfield 127, 3) := by decide +kernel
theorem gd_Bk_costOfAll_12 : decode gb_Bk_costOfAll 12 = .ok (.if_icmp .ge 17, 3) := by decide +kernel
theorem gd_Bk_costOfAll_15 : decode gb_Bk_costOfAll 15 = .ok (.iload_n 1, 1) := by decide +kernel
theorem gd_Bk_costOfAll_16 : decode gb_Bk_costOfAll 16 = .ok (.aload_n 0, 1) := by decide +kernel
theorem gd_Bk_costOfAll_17 : decode gb_Bk_costOfAll 17 = .ok (.iload_n 2, 1) := by decide +kernel
theorem gd_Bk_costOfAll_18 : decode gb_Bk_costOfAll 18 = .ok (.invokevirtual 136, 3) := by decide +kernel
theorem gd_Bk_costOfAll_21 : decode gb_Bk_costOfAll 21 = .ok (.iadd, 1) := by decide +kernel
theorem gd_Bk_costOfAll_22 : decode gb_Bk_costOfAll 22 = .ok (.istore_n 1, 1) := by decide +kernel
theorem gd_Bk_costOfAll_23 : decode gb_Bk_costOfAll 23 = .ok (.iinc 2 1, 3) := by decide +kernel
theorem gd_Bk_costOfAll_26 : decode gb_Bk_costOfAll 26 = .ok (.goto (-22), 3) := by decide +kernel
theorem gd_Bk_costOfAll_29 : decode gb_Bk_costOfAll 29 = .ok (.iload_n 1, 1) := by decide +kernel
theorem gd_Bk_costOfAll_30 : decode gb_Bk_costOfAll 30 = .ok (.ireturn, 1) := by decide +kernel
theorem gd_Lv_init_0 : decode gb_Lv_init 0 = .ok (.aload_n 0, 1) := by decide +kernel
theorem gd_Lv_init_1 : decode gb_Lv_init 1 = .ok (.invokespecial 3, 3) := by decide +kernel
theorem gd_Lv_init_4 : decode gb_Lv_init 4 = .ok (.aload_n 0, 1) := by decide +kernel
theorem gd_Lv_init_5 : decode gb_Lv_init 5 = .ok (.bipush 100, 2) := by decide +kernel
theorem gd_Lv_init_7 : decode gb_Lv_init 7 = .ok (.newarray .int, 2) := by decide +kernel
theorem gd_Lv_init_9 : decode gb_Lv_init 9 = .ok (.putfield 9, 3) := by decide +kernel
theorem gd_Lv_init_12 : decode gb_Lv_init 12 = .ok (.aload_n 0, 1) := by decide +kernel
theorem gd_Lv_init_13 : decode gb_Lv_init 13 = .ok (.bipush 100, 2) := by decide +kernel
theorem gd_Lv_init_15 : decode gb_Lv_init 15 = .ok (.newarray .int, 2) := by decide +kernel
theorem gd_Lv_init_17 : decode gb_Lv_init 17 = .ok (.putfield 15, 3) := by decide +kernel
theorem gd_Lv_init_20 : decode gb_Lv_init 20 = .ok (.return_, 1) := by decide +kernel
theorem gd_Lv_numberAt_0 : decode gb_Lv_numberAt 0 = .ok (.iload_n 1, 1) := by decide +kernel
theorem gd_Lv_numberAt_1 : decode gb_Lv_numberAt 1 = .ok (.ifCond .lt 29, 3) := by decide +kernel
theorem gd_Lv_numberAt_4 : decode gb_Lv_numberAt 4 = .ok (.iload_n 1, 1) := by decide +kernel
theorem gd_Lv_numberAt_5 : decode gb_Lv_numberAt 5 = .ok (.aload_n 0, 1) := by decide +kernel
theorem gd_Lv_numberAt_6 : decode gb_Lv_numberAt 6 = .ok (.getfield 18, 3) := by decide +kernel
theorem gd_Lv_numberAt_9 : decode gb_Lv_numberAt 9 = .ok (.if_icmp .ge 21, 3) := by decide +kernel
theorem gd_Lv_numberAt_12 : decode gb_Lv_numberAt 12 = .ok (.iload_n 1, 1) := by decide +kernel
theorem gd_Lv_numberAt_13 : decode gb_Lv_numberAt 13 = .ok (.aload_n 0, 1) := by decide +kernel
theorem gd_Lv_numberAt_14 : decode gb_Lv_numberAt 14 = .ok (.getfield 9, 3) := by decide +kernel
theorem gd_Lv_numberAt_17 : decode gb_Lv_numberAt 17 = .ok (.arraylength, 1) := by decide +kernel
theorem gd_Lv_numberAt_18 : decode gb_Lv_numberAt 18 = .ok (.if_icmp .ge 12, 3) := by decide +kernel
theorem gd_Lv_numberAt_21 : decode gb_Lv_numberAt 21 = .ok (.aload_n 0, 1) := by decide +kernel
theorem gd_Lv_numberAt_22 : decode gb_Lv_numberAt 22 = .ok (.getfield 9, 3) := by decide +kernel
theorem gd_Lv_numberAt_25 : decode gb_Lv_numberAt 25 = .ok (.iload_n 1, 1) := by decide +kernel
theorem gd_Lv_numberAt_26 : decode gb_Lv_numberAt 26 = .ok (.iaload, 1) := by decide +kernel
theorem gd_Lv_numberAt_27 : decode gb_Lv_numberAt 27 = .ok (.goto 4, 3) := by decide +kernel
theorem gd_Lv_numberAt_30 : decode gb_Lv_numberAt 30 = .ok (.iconst (-1), 1) := by decide +kernel
theorem gd_Lv_numberAt_31 : decode gb_Lv_numberAt 31 = .ok (.ireturn, 1) := by decide +kernel
theorem gd_Lv_placeOf_0 : decode gb_Lv_placeOf 0 = .ok (.iconst 0, 1) := by decide +kernel
theorem gd_Lv_placeOf_1 : decode gb_Lv_placeOf 1 = .ok (.istore_n 2, 1) := by decide +kernel
theorem gd_Lv_placeOf_2 : decode gb_Lv_placeOf 2 = .ok (.iload_n 2, 1) := by decide +kernel
theorem gd_Lv_placeOf_3 : decode gb_Lv_placeOf 3 = .ok (.aload_n 0, 1) := by decide +kernel
theorem gd_Lv_placeOf_4 : decode gb_Lv_placeOf 4 = .ok (.getfield 18, 3) := by decide +kernel
theorem gd_Lv_placeOf_7 : decode gb_Lv_placeOf 7 = .ok (.if_icmp .ge 20, 3) := by decide +kernel
theorem gd_Lv_placeOf_10 : decode gb_Lv_placeOf 10 = .ok (.aload_n 0, 1) := by decide +kernel
theorem gd_Lv_placeOf_11 : decode gb_Lv_placeOf 11 = .ok (.iload_n 2, 1) := by decide +kernel
theorem gd_Lv_placeOf_12 : decode gb_Lv_placeOf 12 = .ok (.invokevirtual 22, 3) := by decide +kernel
theorem gd_Lv_placeOf_15 : decode gb_Lv_placeOf 15 = .ok (.iload_n 1, 1) := by decide +kernel
theorem gd_Lv_placeOf_16 : decode gb_Lv_placeOf 16 = .ok (.if_icmp .ne 5, 3) := by decide +kernel
theorem gd_Lv_placeOf_19 : decode gb_Lv_placeOf 19 = .ok (.iload_n 2, 1) := by decide +kernel
theorem gd_Lv_placeOf_20 : decode gb_Lv_placeOf 20 = .ok (.ireturn, 1) := by decide +kernel
theorem gd_Lv_placeOf_21 : decode gb_Lv_placeOf 21 = .ok (.iinc 2 1, 3) := by decide +kernel
theorem gd_Lv_placeOf_24 : decode gb_Lv_placeOf 24 = .ok (.goto (-22), 3) := by decide +kernel
theorem gd_Lv_placeOf_27 : decode gb_Lv_placeOf 27 = .ok (.iconst (-1), 1) := by decide +kernel
theorem gd_Lv_placeOf_28 : decode gb_Lv_placeOf 28 = .ok (.ireturn, 1) := by decide +kernel
theorem gd_Lv_sizeOf_0 : decode gb_Lv_sizeOf 0 = .ok (.iload_n 1, 1) := by decide +kernel
theorem gd_Lv_sizeOf_1 : decode gb_Lv_sizeOf 1 = .ok (.ifCond .lt 29, 3) := by decide +kernel
theorem gd_Lv_sizeOf_4 : decode gb_Lv_sizeOf 4 = .ok (.iload_n 1, 1) := by decide +kernel
theorem gd_Lv_sizeOf_5 : decode gb_Lv_sizeOf 5 = .ok (.aload_n 0, 1) := by decide +kernel
theorem gd_Lv_sizeOf_6 : decode gb_Lv_sizeOf 6 = .ok (.getfield 26, 3) := by decide +kernel
theorem gd_Lv_sizeOf_9 : decode gb_Lv_sizeOf 9 = .ok (.if_icmp .ge 21, 3) := by decide +kernel
theorem gd_Lv_sizeOf_12 : decode gb_Lv_sizeOf 12 = .ok (.iload_n 1, 1) := by decide +kernel
theorem gd_Lv_sizeOf_13 : decode gb_Lv_sizeOf 13 = .ok (.aload_n 0, 1) := by decide +kernel
theorem gd_Lv_sizeOf_14 : decode gb_Lv_sizeOf 14 = .ok (.getfield 15, 3) := by decide +kernel
theorem gd_Lv_sizeOf_17 : decode gb_Lv_sizeOf 17 = .ok (.arraylength, 1) := by decide +kernel
theorem gd_Lv_sizeOf_18 : decode gb_Lv_sizeOf 18 = .ok (.if_icmp .ge 12, 3) := by decide +kernel
theorem gd_Lv_sizeOf_21 : decode gb_Lv_sizeOf 21 = .ok (.aload_n 0, 1) := by decide +kernel
theorem gd_Lv_sizeOf_22 : decode gb_Lv_sizeOf 22 = .ok (.getfield 15, 3) := by decide +kernel
theorem gd_Lv_sizeOf_25 : decode gb_Lv_sizeOf 25 = .ok (.iload_n 1, 1) := by decide +kernel
theorem gd_Lv_sizeOf_26 : decode gb_Lv_sizeOf 26 = .ok (.iaload, 1) := by decide +kernel
theorem gd_Lv_sizeOf_27 : decode gb_Lv_sizeOf 27 = .ok (.goto 4, 3) := by decide +kernel
theorem gd_Lv_sizeOf_30 : decode gb_Lv_sizeOf 30 = .ok (.iconst 0, 1) := by decide +kernel
theorem gd_Lv_sizeOf_31 : decode gb_Lv_sizeOf 31 = .ok (.ireturn, 1) := by decide +kernel
theorem gd_Lv_startOf_0 : decode gb_Lv_startOf 0 = .ok (.iconst 0, 1) := by decide +kernel
theorem gd_Lv_startOf_1 : decode gb_Lv_startOf 1 = .ok (.istore_n 2, 1) := by decide +kernel
theorem gd_Lv_startOf_2 : decode gb_Lv_startOf 2 = .ok (.iconst 0, 1) := by decide +kernel
theorem gd_Lv_startOf_3 : decode gb_Lv_startOf 3 = .ok (.istore_n 3, 1) := by decide +kernel
theorem gd_Lv_startOf_4 : decode gb_Lv_startOf 4 = .ok (.iload_n 3, 1) := by decide +kernel
theorem gd_Lv_startOf_5 : decode gb_Lv_startOf 5 = .ok (.iload_n 1, 1) := by decide +kernel
theorem gd_Lv_startOf_6 : decode gb_Lv_startOf 6 = .ok (.if_icmp .ge 25, 3) := by decide +kernel
theorem gd_Lv_startOf_9 : decode gb_Lv_startOf 9 = .ok (.iload_n 3, 1) := by decide +kernel
theorem gd_Lv_startOf_10 : decode gb_Lv_startOf 10 = .ok (.aload_n 0, 1) := by decide +kernel
theorem gd_Lv_startOf_11 : decode gb_Lv_startOf 11 = .ok (.getfield 26, 3) := by decide +kernel
theorem gd_Lv_startOf_14 : decode gb_Lv_startOf 14 = .ok (.if_icmp .ge 17, 3) := by decide +kernel
theorem gd_Lv_startOf_17 : decode gb_Lv_startOf 17 = .ok (.iload_n 2, 1) := by decide +kernel
theorem gd_Lv_startOf_18 : decode gb_Lv_startOf 18 = .ok (.aload_n 0, 1) := by decide +kernel
theorem gd_Lv_startOf_19 : decode gb_Lv_startOf 19 = .ok (.iload_n 3, 1) := by decide +kernel
theorem gd_Lv_startOf_20 : decode gb_Lv_startOf 20 = .ok (.invokevirtual 29, 3) := by decide +kernel
theorem gd_Lv_startOf_23 : decode gb_Lv_startOf 23 = .ok (.iadd, 1) := by decide +kernel
theorem gd_Lv_startOf_24 : decode gb_Lv_startOf 24 = .ok (.istore_n 2, 1) := by decide +kernel
theorem gd_Lv_startOf_25 : decode gb_Lv_startOf 25 = .ok (.iinc 3 1, 3) := by decide +kernel
theorem gd_Lv_startOf_28 : decode gb_Lv_startOf 28 = .ok (.goto (-24), 3) := by decide +kernel
theorem gd_Lv_startOf_31 : decode gb_Lv_startOf 31 = .ok (.iload_n 2, 1) := by decide +kernel
theorem gd_Lv_startOf_32 : decode gb_Lv_startOf 32 = .ok (.ireturn, 1) := by decide +kernel
theorem gd_Lv_insert_0 : decode gb_Lv_insert 0 = .ok (.iload_n 1, 1) := by decide +kernel
theorem gd_Lv_insert_1 : decode gb_Lv_insert 1 = .ok (.ifCond .lt 23, 3) := by decide +kernel
theorem gd_Lv_insert_4 : decode gb_Lv_insert 4 = .ok (.iload_n 1, 1) := by decide +kernel
theorem gd_Lv_insert_5 : decode gb_Lv_insert 5 = .ok (.aload_n 0, 1) := by decide +kernel
end
section
theorem gd_Lv_insert_6 : decode gb_Lv_insert 6 = .ok (.getfield 18, 3) := by decide +kernel
theorem gd_Lv_insert_9 : decode gb_Lv_insert 9 = .ok (.if_icmp .gt 15, 3) := by decide +kernel
theorem gd_Lv_insert_12 : decode gb_Lv_insert 12 = .ok (.aload_n 0, 1) := by decide +kernel
theorem gd_Lv_insert_13 : decode gb_Lv_insert 13 = .ok (.getfield 18, 3) := by decide +kernel
theorem gd_Lv_insert_16 : decode gb_Lv_insert 16 = .ok (.aload_n 0, 1) := by decide +kernel
theorem gd_Lv_insert_17 : decode gb_Lv_insert 17 = .ok (.getfield 9, 3) := by decide +kernel
theorem gd_Lv_insert_20 : decode gb_Lv_insert 20 = .ok (.arraylength, 1) := by decide +kernel
theorem gd_Lv_insert_21 : decode gb_Lv_insert 21 = .ok (.if_icmp .lt 4, 3) := by decide +kernel
theorem gd_Lv_insert_24 : decode gb_Lv_insert 24 = .ok (.return_, 1) := by decide +kernel
theorem gd_Lv_insert_25 : decode gb_Lv_insert 25 = .ok (.aload_n 0, 1) := by decide +kernel
theorem gd_Lv_insert_26 : decode gb_Lv_insert 26 = .ok (.iload_n 1, 1) := by decide +kernel
theorem gd_Lv_insert_27 : decode gb_Lv_insert 27 = .ok (.invokevirtual 32, 3) := by decide +kernel
theorem gd_Lv_insert_30 : decode gb_Lv_insert 30 = .ok (.istore_n 3, 1) := by decide +kernel
theorem gd_Lv_insert_31 : decode gb_Lv_insert 31 = .ok (.aload_n 0, 1) := by decide +kernel
theorem gd_Lv_insert_32 : decode gb_Lv_insert 32 = .ok (.getfield 18, 3) := by decide +kernel
theorem gd_Lv_insert_35 : decode gb_Lv_insert 35 = .ok (.istore 4, 2) := by decide +kernel
theorem gd_Lv_insert_37 : decode gb_Lv_insert 37 = .ok (.iload 4, 2) := by decide +kernel
theorem gd_Lv_insert_39 : decode gb_Lv_insert 39 = .ok (.iload_n 1, 1) := by decide +kernel
theorem gd_Lv_insert_40 : decode gb_Lv_insert 40 = .ok (.if_icmp .le 25, 3) := by decide +kernel
theorem gd_Lv_insert_43 : decode gb_Lv_insert 43 = .ok (.aload_n 0, 1) := by decide +kernel
theorem gd_Lv_insert_44 : decode gb_Lv_insert 44 = .ok (.getfield 9, 3) := by decide +kernel
theorem gd_Lv_insert_47 : decode gb_Lv_insert 47 = .ok (.iload 4, 2) := by decide +kernel
theorem gd_Lv_insert_49 : decode gb_Lv_insert 49 = .ok (.aload_n 0, 1) := by decide +kernel
theorem gd_Lv_insert_50 : decode gb_Lv_insert 50 = .ok (.getfield 9, 3) := by decide +kernel
theorem gd_Lv_insert_53 : decode gb_Lv_insert 53 = .ok (.iload 4, 2) := by decide +kernel
theorem gd_Lv_insert_55 : decode gb_Lv_insert 55 = .ok (.iconst 1, 1) := by decide +kernel
theorem gd_Lv_insert_56 : decode gb_Lv_insert 56 = .ok (.isub, 1) := by decide +kernel
theorem gd_Lv_insert_57 : decode gb_Lv_insert 57 = .ok (.iaload, 1) := by decide +kernel
theorem gd_Lv_insert_58 : decode gb_Lv_insert 58 = .ok (.iastore, 1) := by decide +kernel
theorem gd_Lv_insert_59 : decode gb_Lv_insert 59 = .ok (.iinc 4 (-1), 3) := by decide +kernel
theorem gd_Lv_insert_62 : decode gb_Lv_insert 62 = .ok (.goto (-25), 3) := by decide +kernel
theorem gd_Lv_insert_65 : decode gb_Lv_insert 65 = .ok (.aload_n 0, 1) := by decide +kernel
theorem gd_Lv_insert_66 : decode gb_Lv_insert 66 = .ok (.getfield 9, 3) := by decide +kernel
theorem gd_Lv_insert_69 : decode gb_Lv_insert 69 = .ok (.iload_n 1, 1) := by decide +kernel
theorem gd_Lv_insert_70 : decode gb_Lv_insert 70 = .ok (.iload_n 2, 1) := by decide +kernel
theorem gd_Lv_insert_71 : decode gb_Lv_insert 71 = .ok (.iastore, 1) := by decide +kernel
theorem gd_Lv_insert_72 : decode gb_Lv_insert 72 = .ok (.aload_n 0, 1) := by decide +kernel
theorem gd_Lv_insert_73 : decode gb_Lv_insert 73 = .ok (.dup, 1) := by decide +kernel
theorem gd_Lv_insert_74 : decode gb_Lv_insert 74 = .ok (.getfield 18, 3) := by decide +kernel
theorem gd_Lv_insert_77 : decode gb_Lv_insert 77 = .ok (.iconst 1, 1) := by decide +kernel
theorem gd_Lv_insert_78 : decode gb_Lv_insert 78 = .ok (.iadd, 1) := by decide +kernel
theorem gd_Lv_insert_79 : decode gb_Lv_insert 79 = .ok (.putfield 18, 3) := by decide +kernel
theorem gd_Lv_insert_82 : decode gb_Lv_insert 82 = .ok (.aload_n 0, 1) := by decide +kernel
theorem gd_Lv_insert_83 : decode gb_Lv_insert 83 = .ok (.getfield 26, 3) := by decide +kernel
theorem gd_Lv_insert_86 : decode gb_Lv_insert 86 = .ok (.ifCond .ne 8, 3) := by decide +kernel
theorem gd_Lv_insert_89 : decode gb_Lv_insert 89 = .ok (.aload_n 0, 1) := by decide +kernel
theorem gd_Lv_insert_90 : decode gb_Lv_insert 90 = .ok (.iconst 1, 1) := by decide +kernel
theorem gd_Lv_insert_91 : decode gb_Lv_insert 91 = .ok (.putfield 26, 3) := by decide +kernel
theorem gd_Lv_insert_94 : decode gb_Lv_insert 94 = .ok (.aload_n 0, 1) := by decide +kernel
theorem gd_Lv_insert_95 : decode gb_Lv_insert 95 = .ok (.iload_n 3, 1) := by decide +kernel
theorem gd_Lv_insert_96 : decode gb_Lv_insert 96 = .ok (.iconst 1, 1) := by decide +kernel
theorem gd_Lv_insert_97 : decode gb_Lv_insert 97 = .ok (.invokevirtual 35, 3) := by decide +kernel
theorem gd_Lv_insert_100 : decode gb_Lv_insert 100 = .ok (.aload_n 0, 1) := by decide +kernel
theorem gd_Lv_insert_101 : decode gb_Lv_insert 101 = .ok (.iload_n 3, 1) := by decide +kernel
theorem gd_Lv_insert_102 : decode gb_Lv_insert 102 = .ok (.invokevirtual 29, 3) := by decide +kernel
theorem gd_Lv_insert_105 : decode gb_Lv_insert 105 = .ok (.bipush 8, 2) := by decide +kernel
theorem gd_Lv_insert_107 : decode gb_Lv_insert 107 = .ok (.if_icmp .le 8, 3) := by decide +kernel
theorem gd_Lv_insert_110 : decode gb_Lv_insert 110 = .ok (.aload_n 0, 1) := by decide +kernel
theorem gd_Lv_insert_111 : decode gb_Lv_insert 111 = .ok (.iload_n 3, 1) := by decide +kernel
theorem gd_Lv_insert_112 : decode gb_Lv_insert 112 = .ok (.invokevirtual 39, 3) := by decide +kernel
theorem gd_Lv_insert_115 : decode gb_Lv_insert 115 = .ok (.return_, 1) := by decide +kernel
theorem gd_Lv_remove_0 : decode gb_Lv_remove 0 = .ok (.iload_n 1, 1) := by decide +kernel
theorem gd_Lv_remove_1 : decode gb_Lv_remove 1 = .ok (.ifCond .lt 23, 3) := by decide +kernel
theorem gd_Lv_remove_4 : decode gb_Lv_remove 4 = .ok (.iload_n 1, 1) := by decide +kernel
theorem gd_Lv_remove_5 : decode gb_Lv_remove 5 = .ok (.aload_n 0, 1) := by decide +kernel
theorem gd_Lv_remove_6 : decode gb_Lv_remove 6 = .ok (.getfield 18, 3) := by decide +kernel
theorem gd_Lv_remove_9 : decode gb_Lv_remove 9 = .ok (.if_icmp .ge 15, 3) := by decide +kernel
theorem gd_Lv_remove_12 : decode gb_Lv_remove 12 = .ok (.aload_n 0, 1) := by decide +kernel
theorem gd_Lv_remove_13 : decode gb_Lv_remove 13 = .ok (.getfield 18, 3) := by decide +kernel
theorem gd_Lv_remove_16 : decode gb_Lv_remove 16 = .ok (.aload_n 0, 1) := by decide +kernel
theorem gd_Lv_remove_17 : decode gb_Lv_remove 17 = .ok (.getfield 9, 3) := by decide +kernel
theorem gd_Lv_remove_20 : decode gb_Lv_remove 20 = .ok (.arraylength, 1) := by decide +kernel
theorem gd_Lv_remove_21 : decode gb_Lv_remove 21 = .ok (.if_icmp .le 4, 3) := by decide +kernel
theorem gd_Lv_remove_24 : decode gb_Lv_remove 24 = .ok (.return_, 1) := by decide +kernel
theorem gd_Lv_remove_25 : decode gb_Lv_remove 25 = .ok (.aload_n 0, 1) := by decide +kernel
theorem gd_Lv_remove_26 : decode gb_Lv_remove 26 = .ok (.iload_n 1, 1) := by decide +kernel
theorem gd_Lv_remove_27 : decode gb_Lv_remove 27 = .ok (.invokevirtual 32, 3) := by decide +kernel
theorem gd_Lv_remove_30 : decode gb_Lv_remove 30 = .ok (.istore_n 2, 1) := by decide +kernel
theorem gd_Lv_remove_31 : decode gb_Lv_remove 31 = .ok (.aload_n 0, 1) := by decide +kernel
theorem gd_Lv_remove_32 : decode gb_Lv_remove 32 = .ok (.dup, 1) := by decide +kernel
theorem gd_Lv_remove_33 : decode gb_Lv_remove 33 = .ok (.getfield 18, 3) := by decide +kernel
theorem gd_Lv_remove_36 : decode gb_Lv_remove 36 = .ok (.iconst 1, 1) := by decide +kernel
theorem gd_Lv_remove_37 : decode gb_Lv_remove 37 = .ok (.isub, 1) := by decide +kernel
theorem gd_Lv_remove_38 : decode gb_Lv_remove 38 = .ok (.putfield 18, 3) := by decide +kernel
theorem gd_Lv_remove_41 : decode gb_Lv_remove 41 = .ok (.iload_n 1, 1) := by decide +kernel
theorem gd_Lv_remove_42 : decode gb_Lv_remove 42 = .ok (.istore_n 3, 1) := by decide +kernel
theorem gd_Lv_remove_43 : decode gb_Lv_remove 43 = .ok (.iload_n 3, 1) := by decide +kernel
theorem gd_Lv_remove_44 : decode gb_Lv_remove 44 = .ok (.aload_n 0, 1) := by decide +kernel
theorem gd_Lv_remove_45 : decode gb_Lv_remove 45 = .ok (.getfield 18, 3) := by decide +kernel
theorem gd_Lv_remove_48 : decode gb_Lv_remove 48 = .ok (.if_icmp .ge 23, 3) := by decide +kernel
theorem gd_Lv_remove_51 : decode gb_Lv_remove 51 = .ok (.aload_n 0, 1) := by decide +kernel
theorem gd_Lv_remove_52 : decode gb_Lv_remove 52 = .ok (.getfield 9, 3) := by decide +kernel
theorem gd_Lv_remove_55 : decode gb_Lv_remove 55 = .ok (.iload_n 3, 1) := by decide +kernel
theorem gd_Lv_remove_56 : decode gb_Lv_remove 56 = .ok (.aload_n 0, 1) := by decide +kernel
theorem gd_Lv_remove_57 : decode gb_Lv_remove 57 = .ok (.getfield 9, 3) := by decide +kernel
theorem gd_Lv_remove_60 : decode gb_Lv_remove 60 = .ok (.iload_n 3, 1) := by decide +kernel
theorem gd_Lv_remove_61 : decode gb_Lv_remove 61 = .ok (.iconst 1, 1) := by decide +kernel
theorem gd_Lv_remove_62 : decode gb_Lv_remove 62 = .ok (.iadd, 1) := by decide +kernel
theorem gd_Lv_remove_63 : decode gb_Lv_remove 63 = .ok (.iaload, 1) := by decide +kernel
theorem gd_Lv_remove_64 : decode gb_Lv_remove 64 = .ok (.iastore, 1) := by decide +kernel
theorem gd_Lv_remove_65 : decode gb_Lv_remove 65 = .ok (.iinc 3 1, 3) := by decide +kernel
theorem gd_Lv_remove_68 : decode gb_Lv_remove 68 = .ok (.goto (-25), 3) := by decide +kernel
theorem gd_Lv_remove_71 : decode gb_Lv_remove 71 = .ok (.aload_n 0, 1) := by decide +kernel
theorem gd_Lv_remove_72 : decode gb_Lv_remove 72 = .ok (.iload_n 2, 1) := by decide +kernel
theorem gd_Lv_remove_73 : decode gb_Lv_remove 73 = .ok (.iconst (-1), 1) := by decide +kernel
theorem gd_Lv_remove_74 : decode gb_Lv_remove 74 = .ok (.invokevirtual 35, 3) := by decide +kernel
theorem gd_Lv_remove_77 : decode gb_Lv_remove 77 = .ok (.aload_n 0, 1) := by decide +kernel
theorem gd_Lv_remove_78 : decode gb_Lv_remove 78 = .ok (.iload_n 2, 1) := by decide +kernel
theorem gd_Lv_remove_79 : decode gb_Lv_remove 79 = .ok (.invokevirtual 29, 3) := by decide +kernel
theorem gd_Lv_remove_82 : decode gb_Lv_remove 82 = .ok (.iconst 3, 1) := by decide +kernel
theorem gd_Lv_remove_83 : decode gb_Lv_remove 83 = .ok (.if_icmp .ge 8, 3) := by decide +kernel
theorem gd_Lv_remove_86 : decode gb_Lv_remove 86 = .ok (.aload_n 0, 1) := by decide +kernel
theorem gd_Lv_remove_87 : decode gb_Lv_remove 87 = .ok (.iload_n 2, 1) := by decide +kernel
theorem gd_Lv_remove_88 : decode gb_Lv_remove 88 = .ok (.invokevirtual 43, 3) := by decide +kernel
theorem gd_Lv_remove_91 : decode gb_Lv_remove 91 = .ok (.return_, 1) := by decide +kernel
theorem gd_Lv_leafOf_0 : decode gb_Lv_leafOf 0 = .ok (.iconst 0, 1) := by decide +kernel
theorem gd_Lv_leafOf_1 : decode gb_Lv_leafOf 1 = .ok (.istore_n 2, 1) := by decide +kernel
theorem gd_Lv_leafOf_2 : decode gb_Lv_leafOf 2 = .ok (.iconst 0, 1) := by decide +kernel
theorem gd_Lv_leafOf_3 : decode gb_Lv_leafOf 3 = .ok (.istore_n 3, 1) := by decide +kernel
theorem gd_Lv_leafOf_4 : decode gb_Lv_leafOf 4 = .ok (.iload_n 3, 1) := by decide +kernel
theorem gd_Lv_leafOf_5 : decode gb_Lv_leafOf 5 = .ok (.aload_n 0, 1) := by decide +kernel
theorem gd_Lv_leafOf_6 : decode gb_Lv_leafOf 6 = .ok (.getfield 26, 3) := by decide +kernel
theorem gd_Lv_leafOf_9 : decode gb_Lv_leafOf 9 = .ok (.if_icmp .ge 24, 3) := by decide +kernel
theorem gd_Lv_leafOf_12 : decode gb_Lv_leafOf 12 = .ok (.iload_n 2, 1) := by decide +kernel
theorem gd_Lv_leafOf_13 : decode gb_Lv_leafOf 13 = .ok (.aload_n 0, 1) := by decide +kernel
theorem gd_Lv_leafOf_14 : decode gb_Lv_leafOf 14 = .ok (.iload_n 3, 1) := by decide +kernel
theorem gd_Lv_leafOf_15 : decode gb_Lv_leafOf 15 = .ok (.invokevirtual 29, 3) := by decide +kernel
theorem gd_Lv_leafOf_18 : decode gb_Lv_leafOf 18 = .ok (.iadd, 1) := by decide +kernel
theorem gd_Lv_leafOf_19 : decode gb_Lv_leafOf 19 = .ok (.istore_n 2, 1) := by decide +kernel
theorem gd_Lv_leafOf_20 : decode gb_Lv_leafOf 20 = .ok (.iload_n 2, 1) := by decide +kernel
theorem gd_Lv_leafOf_21 : decode gb_Lv_leafOf 21 = .ok (.iload_n 1, 1) := by decide +kernel
theorem gd_Lv_leafOf_22 : decode gb_Lv_leafOf 22 = .ok (.if_icmp .le 5, 3) := by decide +kernel
theorem gd_Lv_leafOf_25 : decode gb_Lv_leafOf 25 = .ok (.iload_n 3, 1) := by decide +kernel
theorem gd_Lv_leafOf_26 : decode gb_Lv_leafOf 26 = .ok (.ireturn, 1) := by decide +kernel
theorem gd_Lv_leafOf_27 : decode gb_Lv_leafOf 27 = .ok (.iinc 3 1, 3) := by decide +kernel
theorem gd_Lv_leafOf_30 : decode gb_Lv_leafOf 30 = .ok (.goto (-26), 3) := by decide +kernel
theorem gd_Lv_leafOf_33 : decode gb_Lv_leafOf 33 = .ok (.aload_n 0, 1) := by decide +kernel
theorem gd_Lv_leafOf_34 : decode gb_Lv_leafOf 34 = .ok (.getfield 26, 3) := by decide +kernel
theorem gd_Lv_leafOf_37 : decode gb_Lv_leafOf 37 = .ok (.iconst 1, 1) := by decide +kernel
theorem gd_Lv_leafOf_38 : decode gb_Lv_leafOf 38 = .ok (.isub, 1) := by decide +kernel
theorem gd_Lv_leafOf_39 : decode gb_Lv_leafOf 39 = .ok (.iconst 0, 1) := by decide +kernel
theorem gd_Lv_leafOf_40 : decode gb_Lv_leafOf 40 = .ok (.invokestatic 46, 3) := by decide +kernel
theorem gd_Lv_leafOf_43 : decode gb_Lv_leafOf 43 = .ok (.ireturn, 1) := by decide +kernel
theorem gd_Lv_resize_0 : decode gb_Lv_resize 0 = .ok (.iload_n 1, 1) := by decide +kernel
theorem gd_Lv_resize_1 : decode gb_Lv_resize 1 = .ok (.ifCond .lt 30, 3) := by decide +kernel
theorem gd_Lv_resize_4 : decode gb_Lv_resize 4 = .ok (.iload_n 1, 1) := by decide +kernel
theorem gd_Lv_resize_5 : decode gb_Lv_resize 5 = .ok (.aload_n 0, 1) := by decide +kernel
theorem gd_Lv_resize_6 : decode gb_Lv_resize 6 = .ok (.getfield 26, 3) := by decide +kernel
theorem gd_Lv_resize_9 : decode gb_Lv_resize 9 = .ok (.if_icmp .ge 22, 3) := by decide +kernel
theorem gd_Lv_resize_12 : decode gb_Lv_resize 12 = .ok (.iload_n 1, 1) := by decide +kernel
theorem gd_Lv_resize_13 : decode gb_Lv_resize 13 = .ok (.aload_n 0, 1) := by decide +kernel
theorem gd_Lv_resize_14 : decode gb_Lv_resize 14 = .ok (.getfield 15, 3) := by decide +kernel
theorem gd_Lv_resize_17 : decode gb_Lv_resize 17 = .ok (.arraylength, 1) := by decide +kernel
theorem gd_Lv_resize_18 : decode gb_Lv_resize 18 = .ok (.if_icmp .ge 13, 3) := by decide +kernel
theorem gd_Lv_resize_21 : decode gb_Lv_resize 21 = .ok (.aload_n 0, 1) := by decide +kernel
theorem gd_Lv_resize_22 : decode gb_Lv_resize 22 = .ok (.getfield 15, 3) := by decide +kernel
theorem gd_Lv_resize_25 : decode gb_Lv_resize 25 = .ok (.iload_n 1, 1) := by decide +kernel
theorem gd_Lv_resize_26 : decode gb_Lv_resize 26 = .ok (.dup2, 1) := by decide +kernel
theorem gd_Lv_resize_27 : decode gb_Lv_resize 27 = .ok (.iaload, 1) := by decide +kernel
theorem gd_Lv_resize_28 : decode gb_Lv_resize 28 = .ok (.iload_n 2, 1) := by decide +kernel
theorem gd_Lv_resize_29 : decode gb_Lv_resize 29 = .ok (.iadd, 1) := by decide +kernel
theorem gd_Lv_resize_30 : decode gb_Lv_resize 30 = .ok (.iastore, 1) := by decide +kernel
theorem gd_Lv_resize_31 : decode gb_Lv_resize 31 = .ok (.return_, 1) := by decide +kernel
theorem gd_Lv_part_0 : decode gb_Lv_part 0 = .ok (.aload_n 0, 1) := by decide +kernel
theorem gd_Lv_part_1 : decode gb_Lv_part 1 = .ok (.getfield 26, 3) := by decide +kernel
theorem gd_Lv_part_4 : decode gb_Lv_part 4 = .ok (.aload_n 0, 1) := by decide +kernel
theorem gd_Lv_part_5 : decode gb_Lv_part 5 = .ok (.getfield 15, 3) := by decide +kernel
theorem gd_Lv_part_8 : decode gb_Lv_part 8 = .ok (.arraylength, 1) := by decide +kernel
theorem gd_Lv_part_9 : decode gb_Lv_part 9 = .ok (.if_icmp .lt 4, 3) := by decide +kernel
theorem gd_Lv_part_12 : decode gb_Lv_part 12 = .ok (.return_, 1) := by decide +kernel
theorem gd_Lv_part_13 : decode gb_Lv_part 13 = .ok (.aload_n 0, 1) := by decide +kernel
theorem gd_Lv_part_14 : decode gb_Lv_part 14 = .ok (.getfield 26, 3) := by decide +kernel
theorem gd_Lv_part_17 : decode gb_Lv_part 17 = .ok (.istore_n 2, 1) := by decide +kernel
theorem gd_Lv_part_18 : decode gb_Lv_part 18 = .ok (.iload_n 2, 1) := by decide +kernel
theorem gd_Lv_part_19 : decode gb_Lv_part 19 = .ok (.iload_n 1, 1) := by decide +kernel
theorem gd_Lv_part_20 : decode gb_Lv_part 20 = .ok (.iconst 1, 1) := by decide +kernel
theorem gd_Lv_part_21 : decode gb_Lv_part 21 = .ok (.iadd, 1) := by decide +kernel
theorem gd_Lv_part_22 : decode gb_Lv_part 22 = .ok (.if_icmp .le 23, 3) := by decide +kernel
theorem gd_Lv_part_25 : decode gb_Lv_part 25 = .ok (.aload_n 0, 1) := by decide +kernel
theorem gd_Lv_part_26 : decode gb_Lv_part 26 = .ok (.getfield 15, 3) := by decide +kernel
theorem gd_Lv_part_29 : decode gb_Lv_part 29 = .ok (.iload_n 2, 1) := by decide +kernel
theorem gd_Lv_part_30 : decode gb_Lv_part 30 = .ok (.aload_n 0, 1) := by decide +kernel
theorem gd_Lv_part_31 : decode gb_Lv_part 31 = .ok (.getfield 15, 3) := by decide +kernel
theorem gd_Lv_part_34 : decode gb_Lv_part 34 = .ok (.iload_n 2, 1) := by decide +kernel
theorem gd_Lv_part_35 : decode gb_Lv_part 35 = .ok (.iconst 1, 1) := by decide +kernel
theorem gd_Lv_part_36 : decode gb_Lv_part 36 = .ok (.isub, 1) := by decide +kernel
theorem gd_Lv_part_37 : decode gb_Lv_part 37 = .ok (.iaload, 1) := by decide +kernel
theorem gd_Lv_part_38 : decode gb_Lv_part 38 = .ok (.iastore, 1) := by decide +kernel
theorem gd_Lv_part_39 : decode gb_Lv_part 39 = .ok (.iinc 2 (-1), 3) := by decide +kernel
theorem gd_Lv_part_42 : decode gb_Lv_part 42 = .ok (.goto (-24), 3) := by decide +kernel
theorem gd_Lv_part_45 : decode gb_Lv_part 45 = .ok (.aload_n 0, 1) := by decide +kernel
theorem gd_Lv_part_46 : decode gb_Lv_part 46 = .ok (.dup, 1) := by decide +kernel
theorem gd_Lv_part_47 : decode gb_Lv_part 47 = .ok (.getfield 26, 3) := by decide +kernel
theorem gd_Lv_part_50 : decode gb_Lv_part 50 = .ok (.iconst 1, 1) := by decide +kernel
theorem gd_Lv_part_51 : decode gb_Lv_part 51 = .ok (.iadd, 1) := by decide +kernel
theorem gd_Lv_part_52 : decode gb_Lv_part 52 = .ok (.putfield 26, 3) := by decide +kernel
theorem gd_Lv_part_55 : decode gb_Lv_part 55 = .ok (.aload_n 0, 1) := by decide +kernel
theorem gd_Lv_part_56 : decode gb_Lv_part 56 = .ok (.getfield 15, 3) := by decide +kernel
theorem gd_Lv_part_59 : decode gb_Lv_part 59 = .ok (.iload_n 1, 1) := by decide +kernel
theorem gd_Lv_part_60 : decode gb_Lv_part 60 = .ok (.iconst 1, 1) := by decide +kernel
theorem gd_Lv_part_61 : decode gb_Lv_part 61 = .ok (.iadd, 1) := by decide +kernel
theorem gd_Lv_part_62 : decode gb_Lv_part 62 = .ok (.aload_n 0, 1) := by decide +kernel
theorem gd_Lv_part_63 : decode gb_Lv_part 63 = .ok (.getfield 15, 3) := by decide +kernel
theorem gd_Lv_part_66 : decode gb_Lv_part 66 = .ok (.iload_n 1, 1) := by decide +kernel
theorem gd_Lv_part_67 : decode gb_Lv_part 67 = .ok (.iaload, 1) := by decide +kernel
theorem gd_Lv_part_68 : decode gb_Lv_part 68 = .ok (.iconst 4, 1) := by decide +kernel
theorem gd_Lv_part_69 : decode gb_Lv_part 69 = .ok (.isub, 1) := by decide +kernel
theorem gd_Lv_part_70 : decode gb_Lv_part 70 = .ok (.iastore, 1) := by decide +kernel
theorem gd_Lv_part_71 : decode gb_Lv_part 71 = .ok (.aload_n 0, 1) := by decide +kernel
theorem gd_Lv_part_72 : decode gb_Lv_part 72 = .ok (.getfield 15, 3) := by decide +kernel
theorem gd_Lv_part_75 : decode gb_Lv_part 75 = .ok (.iload_n 1, 1) := by decide +kernel
theorem gd_Lv_part_76 : decode gb_Lv_part 76 = .ok (.iconst 4, 1) := by decide +kernel
theorem gd_Lv_part_77 : decode gb_Lv_part 77 = .ok (.iastore, 1) := by decide +kernel
theorem gd_Lv_part_78 : decode gb_Lv_part 78 = .ok (.return_, 1) := by decide +kernel
theorem gd_Lv_mend_0 : decode gb_Lv_mend 0 = .ok (.aload_n 0, 1) := by decide +kernel
theorem gd_Lv_mend_1 : decode gb_Lv_mend 1 = .ok (.getfield 26, 3) := by decide +kernel
theorem gd_Lv_mend_4 : decode gb_Lv_mend 4 = .ok (.iconst 2, 1) := by decide +kernel
theorem gd_Lv_mend_5 : decode gb_Lv_mend 5 = .ok (.if_icmp .ge 8, 3) := by decide +kernel
theorem gd_Lv_mend_8 : decode gb_Lv_mend 8 = .ok (.aload_n 0, 1) := by decide +kernel
theorem gd_Lv_mend_9 : decode gb_Lv_mend 9 = .ok (.invokevirtual 52, 3) := by decide +kernel
theorem gd_Lv_mend_12 : decode gb_Lv_mend 12 = .ok (.return_, 1) := by decide +kernel
theorem gd_Lv_mend_13 : decode gb_Lv_mend 13 = .ok (.iload_n 1, 1) := by decide +kernel
theorem gd_Lv_mend_14 : decode gb_Lv_mend 14 = .ok (.iconst 1, 1) := by decide +kernel
theorem gd_Lv_mend_15 : decode gb_Lv_mend 15 = .ok (.iadd, 1) := by decide +kernel
theorem gd_Lv_mend_16 : decode gb_Lv_mend 16 = .ok (.aload_n 0, 1) := by decide +kernel
theorem gd_Lv_mend_17 : decode gb_Lv_mend 17 = .ok (.getfield 26, 3) := by decide +kernel
theorem gd_Lv_mend_20 : decode gb_Lv_mend 20 = .ok (.if_icmp .ge 9, 3) := by decide +kernel
theorem gd_Lv_mend_23 : decode gb_Lv_mend 23 = .ok (.iload_n 1, 1) := by decide +kernel
theorem gd_Lv_mend_24 : decode gb_Lv_mend 24 = .ok (.iconst 1, 1) := by decide +kernel
theorem gd_Lv_mend_25 : decode gb_Lv_mend 25 = .ok (.iadd, 1) := by decide +kernel
theorem gd_Lv_mend_26 : decode gb_Lv_mend 26 = .ok (.goto 6, 3) := by decide +kernel
theorem gd_Lv_mend_29 : decode gb_Lv_mend 29 = .ok (.iload_n 1, 1) := by decide +kernel
theorem gd_Lv_mend_30 : decode gb_Lv_mend 30 = .ok (.iconst 1, 1) := by decide +kernel
theorem gd_Lv_mend_31 : decode gb_Lv_mend 31 = .ok (.isub, 1) := by decide +kernel
theorem gd_Lv_mend_32 : decode gb_Lv_mend 32 = .ok (.istore_n 2, 1) := by decide +kernel
theorem gd_Lv_mend_33 : decode gb_Lv_mend 33 = .ok (.aload_n 0, 1) := by decide +kernel
theorem gd_Lv_mend_34 : decode gb_Lv_mend 34 = .ok (.iload_n 1, 1) := by decide +kernel
theorem gd_Lv_mend_35 : decode gb_Lv_mend 35 = .ok (.invokevirtual 29, 3) := by decide +kernel
theorem gd_Lv_mend_38 : decode gb_Lv_mend 38 = .ok (.aload_n 0, 1) := by decide +kernel
theorem gd_Lv_mend_39 : decode gb_Lv_mend 39 = .ok (.iload_n 2, 1) := by decide +kernel
theorem gd_Lv_mend_40 : decode gb_Lv_mend 40 = .ok (.invokevirtual 29, 3) := by decide +kernel
theorem gd_Lv_mend_43 : decode gb_Lv_mend 43 = .ok (.iadd, 1) := by decide +kernel
theorem gd_Lv_mend_44 : decode gb_Lv_mend 44 = .ok (.bipush 8, 2) := by decide +kernel
theorem gd_Lv_mend_46 : decode gb_Lv_mend 46 = .ok (.if_icmp .gt 15, 3) := by decide +kernel
theorem gd_Lv_mend_49 : decode gb_Lv_mend 49 = .ok (.aload_n 0, 1) := by decide +kernel
theorem gd_Lv_mend_50 : decode gb_Lv_mend 50 = .ok (.iload_n 1, 1) := by decide +kernel
theorem gd_Lv_mend_51 : decode gb_Lv_mend 51 = .ok (.iload_n 2, 1) := by decide +kernel
theorem gd_Lv_mend_52 : decode gb_Lv_mend 52 = .ok (.invokestatic 55, 3) := by decide +kernel
theorem gd_Lv_mend_55 : decode gb_Lv_mend 55 = .ok (.invokevirtual 58, 3) := by decide +kernel
theorem gd_Lv_mend_58 : decode gb_Lv_mend 58 = .ok (.goto 15, 3) := by decide +kernel
theorem gd_Lv_mend_61 : decode gb_Lv_mend 61 = .ok (.aload_n 0, 1) := by decide +kernel
theorem gd_Lv_mend_62 : decode gb_Lv_mend 62 = .ok (.iload_n 1, 1) := by decide +kernel
theorem gd_Lv_mend_63 : decode gb_Lv_mend 63 = .ok (.iconst 1, 1) := by decide +kernel
theorem gd_Lv_mend_64 : decode gb_Lv_mend 64 = .ok (.invokevirtual 35, 3) := by decide +kernel
theorem gd_Lv_mend_67 : decode gb_Lv_mend 67 = .ok (.aload_n 0, 1) := by decide +kernel
theorem gd_Lv_mend_68 : decode gb_Lv_mend 68 = .ok (.iload_n 2, 1) := by decide +kernel
theorem gd_Lv_mend_69 : decode gb_Lv_mend 69 = .ok (.iconst (-1), 1) := by decide +kernel
theorem gd_Lv_mend_70 : decode gb_Lv_mend 70 = .ok (.invokevirtual 35, 3) := by decide +kernel
theorem gd_Lv_mend_73 : decode gb_Lv_mend 73 = .ok (.return_, 1) := by decide +kernel
theorem gd_Lv_dropEmpty_0 : decode gb_Lv_dropEmpty 0 = .ok (.aload_n 0, 1) := by decide +kernel
theorem gd_Lv_dropEmpty_1 : decode gb_Lv_dropEmpty 1 = .ok (.getfield 18, 3) := by decide +kernel
theorem gd_Lv_dropEmpty_4 : decode gb_Lv_dropEmpty 4 = .ok (.ifCond .ne 8, 3) := by decide +kernel
theorem gd_Lv_dropEmpty_7 : decode gb_Lv_dropEmpty 7 = .ok (.aload_n 0, 1) := by decide +kernel
theorem gd_Lv_dropEmpty_8 : decode gb_Lv_dropEmpty 8 = .ok (.iconst 0, 1) := by decide +kernel
theorem gd_Lv_dropEmpty_9 : decode gb_Lv_dropEmpty 9 = .ok (.putfield 26, 3) := by decide +kernel
theorem gd_Lv_dropEmpty_12 : decode gb_Lv_dropEmpty 12 = .ok (.return_, 1) := by decide +kernel
theorem gd_Lv_joinNext_0 : decode gb_Lv_joinNext 0 = .ok (.aload_n 0, 1) := by decide +kernel
theorem gd_Lv_joinNext_1 : decode gb_Lv_joinNext 1 = .ok (.iload_n 1, 1) := by decide +kernel
theorem gd_Lv_joinNext_2 : decode gb_Lv_joinNext 2 = .ok (.aload_n 0, 1) := by decide +kernel
theorem gd_Lv_joinNext_3 : decode gb_Lv_joinNext 3 = .ok (.iload_n 1, 1) := by decide +kernel
theorem gd_Lv_joinNext_4 : decode gb_Lv_joinNext 4 = .ok (.iconst 1, 1) := by decide +kernel
theorem gd_Lv_joinNext_5 : decode gb_Lv_joinNext 5 = .ok (.iadd, 1) := by decide +kernel
theorem gd_Lv_joinNext_6 : decode gb_Lv_joinNext 6 = .ok (.invokevirtual 29, 3) := by decide +kernel
theorem gd_Lv_joinNext_9 : decode gb_Lv_joinNext 9 = .ok (.invokevirtual 35, 3) := by decide +kernel
theorem gd_Lv_joinNext_12 : decode gb_Lv_joinNext 12 = .ok (.aload_n 0, 1) := by decide +kernel
theorem gd_Lv_joinNext_13 : decode gb_Lv_joinNext 13 = .ok (.dup, 1) := by decide +kernel
theorem gd_Lv_joinNext_14 : decode gb_Lv_joinNext 14 = .ok (.getfield 26, 3) := by decide +kernel
theorem gd_Lv_joinNext_17 : decode gb_Lv_joinNext 17 = .ok (.iconst 1, 1) := by decide +kernel
theorem gd_Lv_joinNext_18 : decode gb_Lv_joinNext 18 = .ok (.isub, 1) := by decide +kernel
theorem gd_Lv_joinNext_19 : decode gb_Lv_joinNext 19 = .ok (.putfield 26, 3) := by decide +kernel
theorem gd_Lv_joinNext_22 : decode gb_Lv_joinNext 22 = .ok (.iload_n 1, 1) := by decide +kernel
theorem gd_Lv_joinNext_23 : decode gb_Lv_joinNext 23 = .ok (.iconst 1, 1) := by decide +kernel
theorem gd_Lv_joinNext_24 : decode gb_Lv_joinNext 24 = .ok (.iadd, 1) := by decide +kernel
theorem gd_Lv_joinNext_25 : decode gb_Lv_joinNext 25 = .ok (.istore_n 2, 1) := by decide +kernel
theorem gd_Lv_joinNext_26 : decode gb_Lv_joinNext 26 = .ok (.iload_n 2, 1) := by decide +kernel
theorem gd_Lv_joinNext_27 : decode gb_Lv_joinNext 27 = .ok (.aload_n 0, 1) := by decide +kernel
theorem gd_Lv_joinNext_28 : decode gb_Lv_joinNext 28 = .ok (.getfield 26, 3) := by decide +kernel
theorem gd_Lv_joinNext_31 : decode gb_Lv_joinNext 31 = .ok (.if_icmp .ge 23, 3) := by decide +kernel
theorem gd_Lv_joinNext_34 : decode gb_Lv_joinNext 34 = .ok (.aload_n 0, 1) := by decide +kernel
theorem gd_Lv_joinNext_35 : decode gb_Lv_joinNext 35 = .ok (.getfield 15, 3) := by decide +kernel
theorem gd_Lv_joinNext_38 : decode gb_Lv_joinNext 38 = .ok (.iload_n 2, 1) := by decide +kernel
theorem gd_Lv_joinNext_39 : decode gb_Lv_joinNext 39 = .ok (.aload_n 0, 1) := by decide +kernel
theorem gd_Lv_joinNext_40 : decode gb_Lv_joinNext 40 = .ok (.getfield 15, 3) := by decide +kernel
theorem gd_Lv_joinNext_43 : decode gb_Lv_joinNext 43 = .ok (.iload_n 2, 1) := by decide +kernel
theorem gd_Lv_joinNext_44 : decode gb_Lv_joinNext 44 = .ok (.iconst 1, 1) := by decide +kernel
theorem gd_Lv_joinNext_45 : decode gb_Lv_joinNext 45 = .ok (.iadd, 1) := by decide +kernel
theorem gd_Lv_joinNext_46 : decode gb_Lv_joinNext 46 = .ok (.iaload, 1) := by decide +kernel
theorem gd_Lv_joinNext_47 : decode gb_Lv_joinNext 47 = .ok (.iastore, 1) := by decide +kernel
theorem gd_Lv_joinNext_48 : decode gb_Lv_joinNext 48 = .ok (.iinc 2 1, 3) := by decide +kernel
theorem gd_Lv_joinNext_51 : decode gb_Lv_joinNext 51 = .ok (.goto (-25), 3) := by decide +kernel
theorem gd_Lv_joinNext_54 : decode gb_Lv_joinNext 54 = .ok (.return_, 1) := by decide +kernel
theorem gd_Tm_init_0 : decode gb_Tm_init 0 = .ok (.aload_n 0, 1) := by decide +kernel
theorem gd_Tm_init_1 : decode gb_Tm_init 1 = .ok (.invokespecial 1, 3) := by decide +kernel
theorem gd_Tm_init_4 : decode gb_Tm_init 4 = .ok (.aload_n 0, 1) := by decide +kernel
theorem gd_Tm_init_5 : decode gb_Tm_init 5 = .ok (.new 7, 3) := by decide +kernel
theorem gd_Tm_init_8 : decode gb_Tm_init 8 = .ok (.dup, 1) := by decide +kernel
theorem gd_Tm_init_9 : decode gb_Tm_init 9 = .ok (.invokespecial 9, 3) := by decide +kernel
theorem gd_Tm_init_12 : decode gb_Tm_init 12 = .ok (.putfield 10, 3) := by decide +kernel
theorem gd_Tm_init_15 : decode gb_Tm_init 15 = .ok (.return_, 1) := by decide +kernel
theorem gd_Tm_comeAs_0 : decode gb_Tm_comeAs 0 = .ok (.aload_n 0, 1) := by decide +kernel
theorem gd_Tm_comeAs_1 : decode gb_Tm_comeAs 1 = .ok (.getfield 10, 3) := by decide +kernel
theorem gd_Tm_comeAs_4 : decode gb_Tm_comeAs 4 = .ok (.aload_n 2, 1) := by decide +kernel
theorem gd_Tm_comeAs_5 : decode gb_Tm_comeAs 5 = .ok (.invokevirtual 16, 3) := by decide +kernel
theorem gd_Tm_comeAs_8 : decode gb_Tm_comeAs 8 = .ok (.aload_n 0, 1) := by decide +kernel
theorem gd_Tm_comeAs_9 : decode gb_Tm_comeAs 9 = .ok (.iload_n 1, 1) := by decide +kernel
theorem gd_Tm_comeAs_10 : decode gb_Tm_comeAs 10 = .ok (.putfield 20, 3) := by decide +kernel
theorem gd_Tm_comeAs_13 : decode gb_Tm_comeAs 13 = .ok (.aload_n 0, 1) := by decide +kernel
theorem gd_Tm_comeAs_14 : decode gb_Tm_comeAs 14 = .ok (.iconst 0, 1) := by decide +kernel
theorem gd_Tm_comeAs_15 : decode gb_Tm_comeAs 15 = .ok (.putfield 24, 3) := by decide +kernel
theorem gd_Tm_comeAs_18 : decode gb_Tm_comeAs 18 = .ok (.aload_n 0, 1) := by decide +kernel
theorem gd_Tm_comeAs_19 : decode gb_Tm_comeAs 19 = .ok (.iconst 0, 1) := by decide +kernel
theorem gd_Tm_comeAs_20 : decode gb_Tm_comeAs 20 = .ok (.putfield 27, 3) := by decide +kernel
theorem gd_Tm_comeAs_23 : decode gb_Tm_comeAs 23 = .ok (.aload_n 0, 1) := by decide +kernel
theorem gd_Tm_comeAs_24 : decode gb_Tm_comeAs 24 = .ok (.iconst 1, 1) := by decide +kernel
theorem gd_Tm_comeAs_25 : decode gb_Tm_comeAs 25 = .ok (.putfield 30, 3) := by decide +kernel
theorem gd_Tm_comeAs_28 : decode gb_Tm_comeAs 28 = .ok (.return_, 1) := by decide +kernel
theorem gd_Tm_compareWith_0 : decode gb_Tm_compareWith 0 = .ok (.aload_n 0, 1) := by decide +kernel
theorem gd_Tm_compareWith_1 : decode gb_Tm_compareWith 1 = .ok (.getfield 20, 3) := by decide +kernel
theorem gd_Tm_compareWith_4 : decode gb_Tm_compareWith 4 = .ok (.iload_n 1, 1) := by decide +kernel
theorem gd_Tm_compareWith_5 : decode gb_Tm_compareWith 5 = .ok (.if_icmp .eq 14, 3) := by decide +kernel
theorem gd_Tm_compareWith_8 : decode gb_Tm_compareWith 8 = .ok (.aload_n 0, 1) := by decide +kernel
theorem gd_Tm_compareWith_9 : decode gb_Tm_compareWith 9 = .ok (.getfield 20, 3) := by decide +kernel
theorem gd_Tm_compareWith_12 : decode gb_Tm_compareWith 12 = .ok (.iload_n 1, 1) := by decide +kernel
theorem gd_Tm_compareWith_13 : decode gb_Tm_compareWith 13 = .ok (.invokestatic 34, 3) := by decide +kernel
theorem gd_Tm_compareWith_16 : decode gb_Tm_compareWith 16 = .ok (.goto 11, 3) := by decide +kernel
theorem gd_Tm_compareWith_19 : decode gb_Tm_compareWith 19 = .ok (.aload_n 0, 1) := by decide +kernel
theorem gd_Tm_compareWith_20 : decode gb_Tm_compareWith 20 = .ok (.getfield 10, 3) := by decide +kernel
theorem gd_Tm_compareWith_23 : decode gb_Tm_compareWith 23 = .ok (.aload_n 2, 1) := by decide +kernel
theorem gd_Tm_compareWith_24 : decode gb_Tm_compareWith 24 = .ok (.invokevirtual 40, 3) := by decide +kernel
theorem gd_Tm_compareWith_27 : decode gb_Tm_compareWith 27 = .ok (.ireturn, 1) := by decide +kernel
theorem gd_Tm_keepFor_0 : decode gb_Tm_keepFor 0 = .ok (.aload_n 0, 1) := by decide +kernel
theorem gd_Tm_keepFor_1 : decode gb_Tm_keepFor 1 = .ok (.dup, 1) := by decide +kernel
theorem gd_Tm_keepFor_2 : decode gb_Tm_keepFor 2 = .ok (.getfield 27, 3) := by decide +kernel
theorem gd_Tm_keepFor_5 : decode gb_Tm_keepFor 5 = .ok (.iconst 1, 1) := by decide +kernel
theorem gd_Tm_keepFor_6 : decode gb_Tm_keepFor 6 = .ok (.iload_n 1, 1) := by decide +kernel
theorem gd_Tm_keepFor_7 : decode gb_Tm_keepFor 7 = .ok (.ishl, 1) := by decide +kernel
theorem gd_Tm_keepFor_8 : decode gb_Tm_keepFor 8 = .ok (.ior, 1) := by decide +kernel
theorem gd_Tm_keepFor_9 : decode gb_Tm_keepFor 9 = .ok (.putfield 27, 3) := by decide +kernel
theorem gd_Tm_keepFor_12 : decode gb_Tm_keepFor 12 = .ok (.return_, 1) := by decide +kernel
theorem gd_Tm_giveUpFor_0 : decode gb_Tm_giveUpFor 0 = .ok (.aload_n 0, 1) := by decide +kernel
theorem gd_Tm_giveUpFor_1 : decode gb_Tm_giveUpFor 1 = .ok (.dup, 1) := by decide +kernel
theorem gd_Tm_giveUpFor_2 : decode gb_Tm_giveUpFor 2 = .ok (.getfield 27, 3) := by decide +kernel
theorem gd_Tm_giveUpFor_5 : decode gb_Tm_giveUpFor 5 = .ok (.iconst 1, 1) := by decide +kernel
theorem gd_Tm_giveUpFor_6 : decode gb_Tm_giveUpFor 6 = .ok (.iload_n 1, 1) := by decide +kernel
theorem gd_Tm_giveUpFor_7 : decode gb_Tm_giveUpFor 7 = .ok (.ishl, 1) := by decide +kernel
theorem gd_Tm_giveUpFor_8 : decode gb_Tm_giveUpFor 8 = .ok (.iconst (-1), 1) := by decide +kernel
theorem gd_Tm_giveUpFor_9 : decode gb_Tm_giveUpFor 9 = .ok (.ixor, 1) := by decide +kernel
theorem gd_Tm_giveUpFor_10 : decode gb_Tm_giveUpFor 10 = .ok (.iand, 1) := by decide +kernel
theorem gd_Tm_giveUpFor_11 : decode gb_Tm_giveUpFor 11 = .ok (.putfield 27, 3) := by decide +kernel
theorem gd_Tm_giveUpFor_14 : decode gb_Tm_giveUpFor 14 = .ok (.return_, 1) := by decide +kernel
theorem gd_Tm_isKeptFor_0 : decode gb_Tm_isKeptFor 0 = .ok (.aload_n 0, 1) := by decide +kernel
theorem gd_Tm_isKeptFor_1 : decode gb_Tm_isKeptFor 1 = .ok (.getfield 27, 3) := by decide +kernel
theorem gd_Tm_isKeptFor_4 : decode gb_Tm_isKeptFor 4 = .ok (.iconst 1, 1) := by decide +kernel
theorem gd_Tm_isKeptFor_5 : decode gb_Tm_isKeptFor 5 = .ok (.iload_n 1, 1) := by decide +kernel
theorem gd_Tm_isKeptFor_6 : decode gb_Tm_isKeptFor 6 = .ok (.ishl, 1) := by decide +kernel
theorem gd_Tm_isKeptFor_7 : decode gb_Tm_isKeptFor 7 = .ok (.iand, 1) := by decide +kernel
theorem gd_Tm_isKeptFor_8 : decode gb_Tm_isKeptFor 8 = .ok (.ifCond .eq 7, 3) := by decide +kernel
theorem gd_Tm_isKeptFor_11 : decode gb_Tm_isKeptFor 11 = .ok (.iconst 1, 1) := by decide +kernel
theorem gd_Tm_isKeptFor_12 : decode gb_Tm_isKeptFor 12 = .ok (.goto 4, 3) := by decide +kernel
theorem gd_Tm_isKeptFor_15 : decode gb_Tm_isKeptFor 15 = .ok (.iconst 0, 1) := by decide +kernel
theorem gd_Tm_isKeptFor_16 : decode gb_Tm_isKeptFor 16 = .ok (.ireturn, 1) := by decide +kernel
theorem gd_Tm_isNeeded_0 : decode gb_Tm_isNeeded 0 = .ok (.aload_n 0, 1) := by decide +kernel
theorem gd_Tm_isNeeded_1 : decode gb_Tm_isNeeded 1 = .ok (.getfield 24, 3) := by decide +kernel
theorem gd_Tm_isNeeded_4 : decode gb_Tm_isNeeded 4 = .ok (.ifCond .gt 10, 3) := by decide +kernel
theorem gd_Tm_isNeeded_7 : decode gb_Tm_isNeeded 7 = .ok (.aload_n 0, 1) := by decide +kernel
theorem gd_Tm_isNeeded_8 : decode gb_Tm_isNeeded 8 = .ok (.getfield 27, 3) := by decide +kernel
theorem gd_Tm_isNeeded_11 : decode gb_Tm_isNeeded 11 = .ok (.ifCond .eq 7, 3) := by decide +kernel
theorem gd_Tm_isNeeded_14 : decode gb_Tm_isNeeded 14 = .ok (.iconst 1, 1) := by decide +kernel
theorem gd_Tm_isNeeded_15 : decode gb_Tm_isNeeded 15 = .ok (.goto 4, 3) := by decide +kernel
theorem gd_Tm_isNeeded_18 : decode gb_Tm_isNeeded 18 = .ok (.iconst 0, 1) := by decide +kernel
theorem gd_Tm_isNeeded_19 : decode gb_Tm_isNeeded 19 = .ok (.ireturn, 1) := by decide +kernel
theorem gd_Tx_init_0 : decode gb_Tx_init 0 = .ok (.aload_n 0, 1) := by decide +kernel
theorem gd_Tx_init_1 : decode gb_Tx_init 1 = .ok (.invokespecial 1, 3) := by decide +kernel
theorem gd_Tx_init_4 : decode gb_Tx_init 4 = .ok (.return_, 1) := by decide +kernel
theorem gd_Tx_append_0 : decode gb_Tx_append 0 = .ok (.aload_n 0, 1) := by decide +kernel
theorem gd_Tx_append_1 : decode gb_Tx_append 1 = .ok (.getfield 7, 3) := by decide +kernel
theorem gd_Tx_append_4 : decode gb_Tx_append 4 = .ok (.bipush 8, 2) := by decide +kernel
theorem gd_Tx_append_6 : decode gb_Tx_append 6 = .ok (.if_icmp .ge 38, 3) := by decide +kernel
theorem gd_Tx_append_9 : decode gb_Tx_append 9 = .ok (.aload_n 0, 1) := by decide +kernel
theorem gd_Tx_append_10 : decode gb_Tx_append 10 = .ok (.dup, 1) := by decide +kernel
theorem gd_Tx_append_11 : decode gb_Tx_append 11 = .ok (.getfield 13, 3) := by decide +kernel
theorem gd_Tx_append_14 : decode gb_Tx_append 14 = .ok (.iload_n 1, 1) := by decide +kernel
theorem gd_Tx_append_15 : decode gb_Tx_append 15 = .ok (.i2l, 1) := by decide +kernel
theorem gd_Tx_append_16 : decode gb_Tx_append 16 = .ok (.bipush 8, 2) := by decide +kernel
theorem gd_Tx_append_18 : decode gb_Tx_append 18 = .ok (.bipush 7, 2) := by decide +kernel
theorem gd_Tx_append_20 : decode gb_Tx_append 20 = .ok (.aload_n 0, 1) := by decide +kernel
theorem gd_Tx_append_21 : decode gb_Tx_append 21 = .ok (.getfield 7, 3) := by decide +kernel
theorem gd_Tx_append_24 : decode gb_Tx_append 24 = .ok (.isub, 1) := by decide +kernel
theorem gd_Tx_append_25 : decode gb_Tx_append 25 = .ok (.imul, 1) := by decide +kernel
theorem gd_Tx_append_26 : decode gb_Tx_append 26 = .ok (.lshl, 1) := by decide +kernel
theorem gd_Tx_append_27 : decode gb_Tx_append 27 = .ok (.lor, 1) := by decide +kernel
theorem gd_Tx_append_28 : decode gb_Tx_append 28 = .ok (.putfield 13, 3) := by decide +kernel
theorem gd_Tx_append_31 : decode gb_Tx_append 31 = .ok (.aload_n 0, 1) := by decide +kernel
theorem gd_Tx_append_32 : decode gb_Tx_append 32 = .ok (.dup, 1) := by decide +kernel
theorem gd_Tx_append_33 : decode gb_Tx_append 33 = .ok (.getfield 7, 3) := by decide +kernel
theorem gd_Tx_append_36 : decode gb_Tx_append 36 = .ok (.iconst 1, 1) := by decide +kernel
theorem gd_Tx_append_37 : decode gb_Tx_append 37 = .ok (.iadd, 1) := by decide +kernel
theorem gd_Tx_append_38 : decode gb_Tx_append 38 = .ok (.putfield 7, 3) := by decide +kernel
theorem gd_Tx_append_41 : decode gb_Tx_append 41 = .ok (.goto 44, 3) := by decide +kernel
theorem gd_Tx_append_44 : decode gb_Tx_append 44 = .ok (.aload_n 0, 1) := by decide +kernel
theorem gd_Tx_append_45 : decode gb_Tx_append 45 = .ok (.getfield 7, 3) := by decide +kernel
theorem gd_Tx_append_48 : decode gb_Tx_append 48 = .ok (.bipush 16, 2) := by decide +kernel
theorem gd_Tx_append_50 : decode gb_Tx_append 50 = .ok (.if_icmp .ge 35, 3) := by decide +kernel
theorem gd_Tx_append_53 : decode gb_Tx_append 53 = .ok (.aload_n 0, 1) := by decide +kernel
theorem gd_Tx_append_54 : decode gb_Tx_append 54 = .ok (.dup, 1) := by decide +kernel
theorem gd_Tx_append_55 : decode gb_Tx_append 55 = .ok (.getfield 17, 3) := by decide +kernel
theorem gd_Tx_append_58 : decode gb_Tx_append 58 = .ok (.iload_n 1, 1) := by decide +kernel
theorem gd_Tx_append_59 : decode gb_Tx_append 59 = .ok (.i2l, 1) := by decide +kernel
theorem gd_Tx_append_60 : decode gb_Tx_append 60 = .ok (.bipush 8, 2) := by decide +kernel
theorem gd_Tx_append_62 : decode gb_Tx_append 62 = .ok (.bipush 15, 2) := by decide +kernel
theorem gd_Tx_append_64 : decode gb_Tx_append 64 = .ok (.aload_n 0, 1) := by decide +kernel
theorem gd_Tx_append_65 : decode gb_Tx_append 65 = .ok (.getfield 7, 3) := by decide +kernel
theorem gd_Tx_append_68 : decode gb_Tx_append 68 = .ok (.isub, 1) := by decide +kernel
theorem gd_Tx_append_69 : decode gb_Tx_append 69 = .ok (.imul, 1) := by decide +kernel
theorem gd_Tx_append_70 : decode gb_Tx_append 70 = .ok (.lshl, 1) := by decide +kernel
theorem gd_Tx_append_71 : decode gb_Tx_append 71 = .ok (.lor, 1) := by decide +kernel
theorem gd_Tx_append_72 : decode gb_Tx_append 72 = .ok (.putfield 17, 3) := by decide +kernel
theorem gd_Tx_append_75 : decode gb_Tx_append 75 = .ok (.aload_n 0, 1) := by decide +kernel
theorem gd_Tx_append_76 : decode gb_Tx_append 76 = .ok (.dup, 1) := by decide +kernel
theorem gd_Tx_append_77 : decode gb_Tx_append 77 = .ok (.getfield 7, 3) := by decide +kernel
theorem gd_Tx_append_80 : decode gb_Tx_append 80 = .ok (.iconst 1, 1) := by decide +kernel
theorem gd_Tx_append_81 : decode gb_Tx_append 81 = .ok (.iadd, 1) := by decide +kernel
theorem gd_Tx_append_82 : decode gb_Tx_append 82 = .ok (.putfield 7, 3) := by decide +kernel
theorem gd_Tx_append_85 : decode gb_Tx_append 85 = .ok (.return_, 1) := by decide +kernel
theorem gd_Tx_empty_0 : decode gb_Tx_empty 0 = .ok (.aload_n 0, 1) := by decide +kernel
theorem gd_Tx_empty_1 : decode gb_Tx_empty 1 = .ok (.lconst 0, 1) := by decide +kernel
theorem gd_Tx_empty_2 : decode gb_Tx_empty 2 = .ok (.putfield 13, 3) := by decide +kernel
theorem gd_Tx_empty_5 : decode gb_Tx_empty 5 = .ok (.aload_n 0, 1) := by decide +kernel
theorem gd_Tx_empty_6 : decode gb_Tx_empty 6 = .ok (.lconst 0, 1) := by decide +kernel
theorem gd_Tx_empty_7 : decode gb_Tx_empty 7 = .ok (.putfield 17, 3) := by decide +kernel
theorem gd_Tx_empty_10 : decode gb_Tx_empty 10 = .ok (.aload_n 0, 1) := by decide +kernel
theorem gd_Tx_empty_11 : decode gb_Tx_empty 11 = .ok (.iconst 0, 1) := by decide +kernel
theorem gd_Tx_empty_12 : decode gb_Tx_empty 12 = .ok (.putfield 7, 3) := by decide +kernel
theorem gd_Tx_empty_15 : decode gb_Tx_empty 15 = .ok (.return_, 1) := by decide +kernel
theorem gd_Tx_copyOf_0 : decode gb_Tx_copyOf 0 = .ok (.aload_n 0, 1) := by decide +kernel
theorem gd_Tx_copyOf_1 : decode gb_Tx_copyOf 1 = .ok (.aload_n 1, 1) := by decide +kernel
theorem gd_Tx_copyOf_2 : decode gb_Tx_copyOf 2 = .ok (.getfield 13, 3) := by decide +kernel
theorem gd_Tx_copyOf_5 : decode gb_Tx_copyOf 5 = .ok (.putfield 13, 3) := by decide +kernel
theorem gd_Tx_copyOf_8 : decode gb_Tx_copyOf 8 = .ok (.aload_n 0, 1) := by decide +kernel
theorem gd_Tx_copyOf_9 : decode gb_Tx_copyOf 9 = .ok (.aload_n 1, 1) := by decide +kernel
theorem gd_Tx_copyOf_10 : decode gb_Tx_copyOf 10 = .ok (.getfield 17, 3) := by decide +kernel
theorem gd_Tx_copyOf_13 : decode gb_Tx_copyOf 13 = .ok (.putfield 17, 3) := by decide +kernel
theorem gd_Tx_copyOf_16 : decode gb_Tx_copyOf 16 = .ok (.aload_n 0, 1) := by decide +kernel
theorem gd_Tx_copyOf_17 : decode gb_Tx_copyOf 17 = .ok (.aload_n 1, 1) := by decide +kernel
theorem gd_Tx_copyOf_18 : decode gb_Tx_copyOf 18 = .ok (.getfield 7, 3) := by decide +kernel
theorem gd_Tx_copyOf_21 : decode gb_Tx_copyOf 21 = .ok (.putfield 7, 3) := by decide +kernel
theorem gd_Tx_copyOf_24 : decode gb_Tx_copyOf 24 = .ok (.return_, 1) := by decide +kernel
theorem gd_Tx_byteAt_0 : decode gb_Tx_byteAt 0 = .ok (.iload_n 1, 1) := by decide +kernel
theorem gd_Tx_byteAt_1 : decode gb_Tx_byteAt 1 = .ok (.bipush 8, 2) := by decide +kernel
theorem gd_Tx_byteAt_3 : decode gb_Tx_byteAt 3 = .ok (.if_icmp .ge 17, 3) := by decide +kernel
theorem gd_Tx_byteAt_6 : decode gb_Tx_byteAt 6 = .ok (.aload_n 0, 1) := by decide +kernel
theorem gd_Tx_byteAt_7 : decode gb_Tx_byteAt 7 = .ok (.getfield 13, 3) := by decide +kernel
theorem gd_Tx_byteAt_10 : decode gb_Tx_byteAt 10 = .ok (.bipush 7, 2) := by decide +kernel
theorem gd_Tx_byteAt_12 : decode gb_Tx_byteAt 12 = .ok (.iload_n 1, 1) := by decide +kernel
theorem gd_Tx_byteAt_13 : decode gb_Tx_byteAt 13 = .ok (.isub, 1) := by decide +kernel
theorem gd_Tx_byteAt_14 : decode gb_Tx_byteAt 14 = .ok (.invokestatic 20, 3) := by decide +kernel
theorem gd_Tx_byteAt_17 : decode gb_Tx_byteAt 17 = .ok (.goto 14, 3) := by decide +kernel
theorem gd_Tx_byteAt_20 : decode gb_Tx_byteAt 20 = .ok (.aload_n 0, 1) := by decide +kernel
theorem gd_Tx_byteAt_21 : decode gb_Tx_byteAt 21 = .ok (.getfield 17, 3) := by decide +kernel
theorem gd_Tx_byteAt_24 : decode gb_Tx_byteAt 24 = .ok (.bipush 15, 2) := by decide +kernel
theorem gd_Tx_byteAt_26 : decode gb_Tx_byteAt 26 = .ok (.iload_n 1, 1) := by decide +kernel
theorem gd_Tx_byteAt_27 : decode gb_Tx_byteAt 27 = .ok (.isub, 1) := by decide +kernel
theorem gd_Tx_byteAt_28 : decode gb_Tx_byteAt 28 = .ok (.invokestatic 20, 3) := by decide +kernel
theorem gd_Tx_byteAt_31 : decode gb_Tx_byteAt 31 = .ok (.ireturn, 1) := by decide +kernel
theorem gd_Tx_compareWith_0 : decode gb_Tx_compareWith 0 = .ok (.aload_n 0, 1) := by decide +kernel
theorem gd_Tx_compareWith_1 : decode gb_Tx_compareWith 1 = .ok (.getfield 13, 3) := by decide +kernel
theorem gd_Tx_compareWith_4 : decode gb_Tx_compareWith 4 = .ok (.aload_n 1, 1) := by decide +kernel
theorem gd_Tx_compareWith_5 : decode gb_Tx_compareWith 5 = .ok (.getfield 13, 3) := by decide +kernel
theorem gd_Tx_compareWith_8 : decode gb_Tx_compareWith 8 = .ok (.lcmp, 1) := by decide +kernel
theorem gd_Tx_compareWith_9 : decode gb_Tx_compareWith 9 = .ok (.ifCond .eq 17, 3) := by decide +kernel
theorem gd_Tx_compareWith_12 : decode gb_Tx_compareWith 12 = .ok (.aload_n 0, 1) := by decide +kernel
theorem gd_Tx_compareWith_13 : decode gb_Tx_compareWith 13 = .ok (.getfield 13, 3) := by decide +kernel
theorem gd_Tx_compareWith_16 : decode gb_Tx_compareWith 16 = .ok (.aload_n 1, 1) := by decide +kernel
theorem gd_Tx_compareWith_17 : decode gb_Tx_compareWith 17 = .ok (.getfield 13, 3) := by decide +kernel
theorem gd_Tx_compareWith_20 : decode gb_Tx_compareWith 20 = .ok (.invokestatic 26, 3) := by decide +kernel
theorem gd_Tx_compareWith_23 : decode gb_Tx_compareWith 23 = .ok (.goto 14, 3) := by decide +kernel
theorem gd_Tx_compareWith_26 : decode gb_Tx_compareWith 26 = .ok (.aload_n 0, 1) := by decide +kernel
theorem gd_Tx_compareWith_27 : decode gb_Tx_compareWith 27 = .ok (.getfield 17, 3) := by decide +kernel
theorem gd_Tx_compareWith_30 : decode gb_Tx_compareWith 30 = .ok (.aload_n 1, 1) := by decide +kernel
theorem gd_Tx_compareWith_31 : decode gb_Tx_compareWith 31 = .ok (.getfield 17, 3) := by decide +kernel
theorem gd_Tx_compareWith_34 : decode gb_Tx_compareWith 34 = .ok (.invokestatic 26, 3) := by decide +kernel
theorem gd_Tx_compareWith_37 : decode gb_Tx_compareWith 37 = .ok (.ireturn, 1) := by decide +kernel
theorem gd_Tx_sharedWith_0 : decode gb_Tx_sharedWith 0 = .ok (.aload_n 0, 1) := by decide +kernel
theorem gd_Tx_sharedWith_1 : decode gb_Tx_sharedWith 1 = .ok (.getfield 13, 3) := by decide +kernel
theorem gd_Tx_sharedWith_4 : decode gb_Tx_sharedWith 4 = .ok (.aload_n 1, 1) := by decide +kernel
theorem gd_Tx_sharedWith_5 : decode gb_Tx_sharedWith 5 = .ok (.getfield 13, 3) := by decide +kernel
theorem gd_Tx_sharedWith_8 : decode gb_Tx_sharedWith 8 = .ok (.lcmp, 1) := by decide +kernel
theorem gd_Tx_sharedWith_9 : decode gb_Tx_sharedWith 9 = .ok (.ifCond .eq 21, 3) := by decide +kernel
theorem gd_Tx_sharedWith_12 : decode gb_Tx_sharedWith 12 = .ok (.aload_n 0, 1) := by decide +kernel
theorem gd_Tx_sharedWith_13 : decode gb_Tx_sharedWith 13 = .ok (.getfield 13, 3) := by decide +kernel
theorem gd_Tx_sharedWith_16 : decode gb_Tx_sharedWith 16 = .ok (.aload_n 1, 1) := by decide +kernel
theorem gd_Tx_sharedWith_17 : decode gb_Tx_sharedWith 17 = .ok (.getfield 13, 3) := by decide +kernel
theorem gd_Tx_sharedWith_20 : decode gb_Tx_sharedWith 20 = .ok (.lxor, 1) := by decide +kernel
theorem gd_Tx_sharedWith_21 : decode gb_Tx_sharedWith 21 = .ok (.invokestatic 32, 3) := by decide +kernel
theorem gd_Tx_sharedWith_24 : decode gb_Tx_sharedWith 24 = .ok (.bipush 8, 2) := by decide +kernel
theorem gd_Tx_sharedWith_26 : decode gb_Tx_sharedWith 26 = .ok (.idiv, 1) := by decide +kernel
theorem gd_Tx_sharedWith_27 : decode gb_Tx_sharedWith 27 = .ok (.goto 21, 3) := by decide +kernel
theorem gd_Tx_sharedWith_30 : decode gb_Tx_sharedWith 30 = .ok (.bipush 8, 2) := by decide +kernel
theorem gd_Tx_sharedWith_32 : decode gb_Tx_sharedWith 32 = .ok (.aload_n 0, 1) := by decide +kernel
theorem gd_Tx_sharedWith_33 : decode gb_Tx_sharedWith 33 = .ok (.getfield 17, 3) := by decide +kernel
theorem gd_Tx_sharedWith_36 : decode gb_Tx_sharedWith 36 = .ok (.aload_n 1, 1) := by decide +kernel
theorem gd_Tx_sharedWith_37 : decode gb_Tx_sharedWith 37 = .ok (.getfield 17, 3) := by decide +kernel
theorem gd_Tx_sharedWith_40 : decode gb_Tx_sharedWith 40 = .ok (.lxor, 1) := by decide +kernel
theorem gd_Tx_sharedWith_41 : decode gb_Tx_sharedWith 41 = .ok (.invokestatic 32, 3) := by decide +kernel
theorem gd_Tx_sharedWith_44 : decode gb_Tx_sharedWith 44 = .ok (.bipush 8, 2) := by decide +kernel
theorem gd_Tx_sharedWith_46 : decode gb_Tx_sharedWith 46 = .ok (.idiv, 1) := by decide +kernel
theorem gd_Tx_sharedWith_47 : decode gb_Tx_sharedWith 47 = .ok (.iadd, 1) := by decide +kernel
theorem gd_Tx_sharedWith_48 : decode gb_Tx_sharedWith 48 = .ok (.istore_n 2, 1) := by decide +kernel
theorem gd_Tx_sharedWith_49 : decode gb_Tx_sharedWith 49 = .ok (.iload_n 2, 1) := by decide +kernel
theorem gd_Tx_sharedWith_50 : decode gb_Tx_sharedWith 50 = .ok (.aload_n 0, 1) := by decide +kernel
theorem gd_Tx_sharedWith_51 : decode gb_Tx_sharedWith 51 = .ok (.getfield 7, 3) := by decide +kernel
theorem gd_Tx_sharedWith_54 : decode gb_Tx_sharedWith 54 = .ok (.aload_n 1, 1) := by decide +kernel
theorem gd_Tx_sharedWith_55 : decode gb_Tx_sharedWith 55 = .ok (.getfield 7, 3) := by decide +kernel
theorem gd_Tx_sharedWith_58 : decode gb_Tx_sharedWith 58 = .ok (.invokestatic 36, 3) := by decide +kernel
theorem gd_Tx_sharedWith_61 : decode gb_Tx_sharedWith 61 = .ok (.invokestatic 36, 3) := by decide +kernel
theorem gd_Tx_sharedWith_64 : decode gb_Tx_sharedWith 64 = .ok (.ireturn, 1) := by decide +kernel
theorem gd_Tx_startsWith_0 : decode gb_Tx_startsWith 0 = .ok (.aload_n 0, 1) := by decide +kernel
theorem gd_Tx_startsWith_1 : decode gb_Tx_startsWith 1 = .ok (.aload_n 1, 1) := by decide +kernel
theorem gd_Tx_startsWith_2 : decode gb_Tx_startsWith 2 = .ok (.invokevirtual 42, 3) := by decide +kernel
theorem gd_Tx_startsWith_5 : decode gb_Tx_startsWith 5 = .ok (.aload_n 1, 1) := by decide +kernel
theorem gd_Tx_startsWith_6 : decode gb_Tx_startsWith 6 = .ok (.getfield 7, 3) := by decide +kernel
theorem gd_Tx_startsWith_9 : decode gb_Tx_startsWith 9 = .ok (.if_icmp .ne 7, 3) := by decide +kernel
theorem gd_Tx_startsWith_12 : decode gb_Tx_startsWith 12 = .ok (.iconst 1, 1) := by decide +kernel
theorem gd_Tx_startsWith_13 : decode gb_Tx_startsWith 13 = .ok (.goto 4, 3) := by decide +kernel
theorem gd_Tx_startsWith_16 : decode gb_Tx_startsWith 16 = .ok (.iconst 0, 1) := by decide +kernel
theorem gd_Tx_startsWith_17 : decode gb_Tx_startsWith 17 = .ok (.ireturn, 1) := by decide +kernel
end
section
theorem gd_Md_init_0 : decode gb_Md_init 0 = .ok (.aload_n 0, 1) := by decide +kernel
theorem gd_Md_init_1 : decode gb_Md_init 1 = .ok (.invokespecial 1, 3) := by decide +kernel
theorem gd_Md_init_4 : decode gb_Md_init 4 = .ok (.aload_n 0, 1) := by decide +kernel
theorem gd_Md_init_5 : decode gb_Md_init 5 = .ok (.bipush 16, 2) := by decide +kernel
theorem gd_Md_init_7 : decode gb_Md_init 7 = .ok (.newarray .int, 2) := by decide +kernel
theorem gd_Md_init_9 : decode gb_Md_init 9 = .ok (.putfield 7, 3) := by decide +kernel
theorem gd_Md_init_12 : decode gb_Md_init 12 = .ok (.aload_n 0, 1) := by decide +kernel
theorem gd_Md_init_13 : decode gb_Md_init 13 = .ok (.bipush 100, 2) := by decide +kernel
theorem gd_Md_init_15 : decode gb_Md_init 15 = .ok (.newarray .boolean, 2) := by decide +kernel
theorem gd_Md_init_17 : decode gb_Md_init 17 = .ok (.putfield 13, 3) := by decide +kernel
theorem gd_Md_init_20 : decode gb_Md_init 20 = .ok (.aload_n 0, 1) := by decide +kernel
theorem gd_Md_init_21 : decode gb_Md_init 21 = .ok (.bipush 100, 2) := by decide +kernel
theorem gd_Md_init_23 : decode gb_Md_init 23 = .ok (.newarray .int, 2) := by decide +kernel
theorem gd_Md_init_25 : decode gb_Md_init 25 = .ok (.putfield 17, 3) := by decide +kernel
theorem gd_Md_init_28 : decode gb_Md_init 28 = .ok (.aload_n 0, 1) := by decide +kernel
theorem gd_Md_init_29 : decode gb_Md_init 29 = .ok (.bipush 100, 2) := by decide +kernel
theorem gd_Md_init_31 : decode gb_Md_init 31 = .ok (.newarray .int, 2) := by decide +kernel
theorem gd_Md_init_33 : decode gb_Md_init 33 = .ok (.putfield 20, 3) := by decide +kernel
theorem gd_Md_init_36 : decode gb_Md_init 36 = .ok (.aload_n 0, 1) := by decide +kernel
theorem gd_Md_init_37 : decode gb_Md_init 37 = .ok (.bipush 100, 2) := by decide +kernel
theorem gd_Md_init_39 : decode gb_Md_init 39 = .ok (.newarray .int, 2) := by decide +kernel
theorem gd_Md_init_41 : decode gb_Md_init 41 = .ok (.putfield 23, 3) := by decide +kernel
theorem gd_Md_init_44 : decode gb_Md_init 44 = .ok (.aload_n 0, 1) := by decide +kernel
theorem gd_Md_init_45 : decode gb_Md_init 45 = .ok (.sipush 1600, 3) := by decide +kernel
theorem gd_Md_init_48 : decode gb_Md_init 48 = .ok (.newarray .int, 2) := by decide +kernel
theorem gd_Md_init_50 : decode gb_Md_init 50 = .ok (.putfield 26, 3) := by decide +kernel
theorem gd_Md_init_53 : decode gb_Md_init 53 = .ok (.aload_n 0, 1) := by decide +kernel
theorem gd_Md_init_54 : decode gb_Md_init 54 = .ok (.bipush 101, 2) := by decide +kernel
theorem gd_Md_init_56 : decode gb_Md_init 56 = .ok (.newarray .int, 2) := by decide +kernel
theorem gd_Md_init_58 : decode gb_Md_init 58 = .ok (.putfield 29, 3) := by decide +kernel
theorem gd_Md_init_61 : decode gb_Md_init 61 = .ok (.aload_n 0, 1) := by decide +kernel
theorem gd_Md_init_62 : decode gb_Md_init 62 = .ok (.bipush 102, 2) := by decide +kernel
theorem gd_Md_init_64 : decode gb_Md_init 64 = .ok (.newarray .int, 2) := by decide +kernel
theorem gd_Md_init_66 : decode gb_Md_init 66 = .ok (.putfield 32, 3) := by decide +kernel
theorem gd_Md_init_69 : decode gb_Md_init 69 = .ok (.aload_n 0, 1) := by decide +kernel
theorem gd_Md_init_70 : decode gb_Md_init 70 = .ok (.bipush 6, 2) := by decide +kernel
theorem gd_Md_init_72 : decode gb_Md_init 72 = .ok (.newarray .int, 2) := by decide +kernel
theorem gd_Md_init_74 : decode gb_Md_init 74 = .ok (.putfield 35, 3) := by decide +kernel
theorem gd_Md_init_77 : decode gb_Md_init 77 = .ok (.aload_n 0, 1) := by decide +kernel
theorem gd_Md_init_78 : decode gb_Md_init 78 = .ok (.sipush 600, 3) := by decide +kernel
theorem gd_Md_init_81 : decode gb_Md_init 81 = .ok (.newarray .boolean, 2) := by decide +kernel
theorem gd_Md_init_83 : decode gb_Md_init 83 = .ok (.putfield 38, 3) := by decide +kernel
theorem gd_Md_init_86 : decode gb_Md_init 86 = .ok (.aload_n 0, 1) := by decide +kernel
theorem gd_Md_init_87 : decode gb_Md_init 87 = .ok (.bipush 100, 2) := by decide +kernel
theorem gd_Md_init_89 : decode gb_Md_init 89 = .ok (.newarray .int, 2) := by decide +kernel
theorem gd_Md_init_91 : decode gb_Md_init 91 = .ok (.putfield 41, 3) := by decide +kernel
theorem gd_Md_init_94 : decode gb_Md_init 94 = .ok (.aload_n 0, 1) := by decide +kernel
theorem gd_Md_init_95 : decode gb_Md_init 95 = .ok (.iconst 0, 1) := by decide +kernel
theorem gd_Md_init_96 : decode gb_Md_init 96 = .ok (.putfield 44, 3) := by decide +kernel
theorem gd_Md_init_99 : decode gb_Md_init 99 = .ok (.return_, 1) := by decide +kernel
theorem gd_Md_in_0 : decode gb_Md_in 0 = .ok (.iload_n 0, 1) := by decide +kernel
theorem gd_Md_in_1 : decode gb_Md_in 1 = .ok (.iload_n 1, 1) := by decide +kernel
theorem gd_Md_in_2 : decode gb_Md_in 2 = .ok (.if_icmp .lt 12, 3) := by decide +kernel
theorem gd_Md_in_5 : decode gb_Md_in 5 = .ok (.iload_n 0, 1) := by decide +kernel
theorem gd_Md_in_6 : decode gb_Md_in 6 = .ok (.iload_n 2, 1) := by decide +kernel
theorem gd_Md_in_7 : decode gb_Md_in 7 = .ok (.if_icmp .gt 7, 3) := by decide +kernel
theorem gd_Md_in_10 : decode gb_Md_in 10 = .ok (.iconst 1, 1) := by decide +kernel
theorem gd_Md_in_11 : decode gb_Md_in 11 = .ok (.goto 4, 3) := by decide +kernel
theorem gd_Md_in_14 : decode gb_Md_in 14 = .ok (.iconst 0, 1) := by decide +kernel
theorem gd_Md_in_15 : decode gb_Md_in 15 = .ok (.ireturn, 1) := by decide +kernel
theorem gd_Md_type_0 : decode gb_Md_type 0 = .ok (.iload_n 3, 1) := by decide +kernel
theorem gd_Md_type_1 : decode gb_Md_type 1 = .ok (.iconst 1, 1) := by decide +kernel
theorem gd_Md_type_2 : decode gb_Md_type 2 = .ok (.bipush 8, 2) := by decide +kernel
theorem gd_Md_type_4 : decode gb_Md_type 4 = .ok (.invokestatic 48, 3) := by decide +kernel
theorem gd_Md_type_7 : decode gb_Md_type 7 = .ok (.istore 4, 2) := by decide +kernel
theorem gd_Md_type_9 : decode gb_Md_type 9 = .ok (.iconst 0, 1) := by decide +kernel
theorem gd_Md_type_10 : decode gb_Md_type 10 = .ok (.istore 5, 2) := by decide +kernel
theorem gd_Md_type_12 : decode gb_Md_type 12 = .ok (.iload 5, 2) := by decide +kernel
theorem gd_Md_type_14 : decode gb_Md_type 14 = .ok (.iload_n 3, 1) := by decide +kernel
theorem gd_Md_type_15 : decode gb_Md_type 15 = .ok (.if_icmp .ge 35, 3) := by decide +kernel
theorem gd_Md_type_18 : decode gb_Md_type 18 = .ok (.iload 4, 2) := by decide +kernel
theorem gd_Md_type_20 : decode gb_Md_type 20 = .ok (.ifCond .eq 30, 3) := by decide +kernel
theorem gd_Md_type_23 : decode gb_Md_type 23 = .ok (.lload_n 1, 1) := by decide +kernel
theorem gd_Md_type_24 : decode gb_Md_type 24 = .ok (.bipush 8, 2) := by decide +kernel
theorem gd_Md_type_26 : decode gb_Md_type 26 = .ok (.iload 5, 2) := by decide +kernel
theorem gd_Md_type_28 : decode gb_Md_type 28 = .ok (.imul, 1) := by decide +kernel
theorem gd_Md_type_29 : decode gb_Md_type 29 = .ok (.lshr, 1) := by decide +kernel
theorem gd_Md_type_30 : decode gb_Md_type 30 = .ok (.ldc2_w 52, 3) := by decide +kernel
theorem gd_Md_type_33 : decode gb_Md_type 33 = .ok (.land, 1) := by decide +kernel
theorem gd_Md_type_34 : decode gb_Md_type 34 = .ok (.l2i, 1) := by decide +kernel
theorem gd_Md_type_35 : decode gb_Md_type 35 = .ok (.bipush 33, 2) := by decide +kernel
theorem gd_Md_type_37 : decode gb_Md_type 37 = .ok (.bipush 126, 2) := by decide +kernel
theorem gd_Md_type_39 : decode gb_Md_type 39 = .ok (.invokestatic 48, 3) := by decide +kernel
theorem gd_Md_type_42 : decode gb_Md_type 42 = .ok (.istore 4, 2) := by decide +kernel
theorem gd_Md_type_44 : decode gb_Md_type 44 = .ok (.iinc 5 1, 3) := by decide +kernel
theorem gd_Md_type_47 : decode gb_Md_type 47 = .ok (.goto (-35), 3) := by decide +kernel
theorem gd_Md_type_50 : decode gb_Md_type 50 = .ok (.iload 4, 2) := by decide +kernel
theorem gd_Md_type_52 : decode gb_Md_type 52 = .ok (.ifCond .ne 5, 3) := by decide +kernel
theorem gd_Md_type_55 : decode gb_Md_type 55 = .ok (.iconst (-1), 1) := by decide +kernel
theorem gd_Md_type_56 : decode gb_Md_type 56 = .ok (.ireturn, 1) := by decide +kernel
theorem gd_Md_type_57 : decode gb_Md_type 57 = .ok (.aload_n 0, 1) := by decide +kernel
theorem gd_Md_type_58 : decode gb_Md_type 58 = .ok (.getfield 54, 3) := by decide +kernel
theorem gd_Md_type_61 : decode gb_Md_type 61 = .ok (.iload_n 3, 1) := by decide +kernel
theorem gd_Md_type_62 : decode gb_Md_type 62 = .ok (.iadd, 1) := by decide +kernel
theorem gd_Md_type_63 : decode gb_Md_type 63 = .ok (.bipush 16, 2) := by decide +kernel
theorem gd_Md_type_65 : decode gb_Md_type 65 = .ok (.if_icmp .le 6, 3) := by decide +kernel
theorem gd_Md_type_68 : decode gb_Md_type 68 = .ok (.bipush (-3), 2) := by decide +kernel
theorem gd_Md_type_70 : decode gb_Md_type 70 = .ok (.ireturn, 1) := by decide +kernel
theorem gd_Md_type_71 : decode gb_Md_type 71 = .ok (.iload_n 3, 1) := by decide +kernel
theorem gd_Md_type_72 : decode gb_Md_type 72 = .ok (.iconst 1, 1) := by decide +kernel
theorem gd_Md_type_73 : decode gb_Md_type 73 = .ok (.isub, 1) := by decide +kernel
theorem gd_Md_type_74 : decode gb_Md_type 74 = .ok (.istore 5, 2) := by decide +kernel
theorem gd_Md_type_76 : decode gb_Md_type 76 = .ok (.iload 5, 2) := by decide +kernel
theorem gd_Md_type_78 : decode gb_Md_type 78 = .ok (.ifCond .lt 40, 3) := by decide +kernel
theorem gd_Md_type_81 : decode gb_Md_type 81 = .ok (.aload_n 0, 1) := by decide +kernel
theorem gd_Md_type_82 : decode gb_Md_type 82 = .ok (.getfield 7, 3) := by decide +kernel
theorem gd_Md_type_85 : decode gb_Md_type 85 = .ok (.aload_n 0, 1) := by decide +kernel
theorem gd_Md_type_86 : decode gb_Md_type 86 = .ok (.getfield 54, 3) := by decide +kernel
theorem gd_Md_type_89 : decode gb_Md_type 89 = .ok (.lload_n 1, 1) := by decide +kernel
theorem gd_Md_type_90 : decode gb_Md_type 90 = .ok (.bipush 8, 2) := by decide +kernel
theorem gd_Md_type_92 : decode gb_Md_type 92 = .ok (.iload 5, 2) := by decide +kernel
theorem gd_Md_type_94 : decode gb_Md_type 94 = .ok (.imul, 1) := by decide +kernel
theorem gd_Md_type_95 : decode gb_Md_type 95 = .ok (.lshr, 1) := by decide +kernel
theorem gd_Md_type_96 : decode gb_Md_type 96 = .ok (.ldc2_w 52, 3) := by decide +kernel
theorem gd_Md_type_99 : decode gb_Md_type 99 = .ok (.land, 1) := by decide +kernel
theorem gd_Md_type_100 : decode gb_Md_type 100 = .ok (.l2i, 1) := by decide +kernel
theorem gd_Md_type_101 : decode gb_Md_type 101 = .ok (.iastore, 1) := by decide +kernel
theorem gd_Md_type_102 : decode gb_Md_type 102 = .ok (.aload_n 0, 1) := by decide +kernel
theorem gd_Md_type_103 : decode gb_Md_type 103 = .ok (.dup, 1) := by decide +kernel
theorem gd_Md_type_104 : decode gb_Md_type 104 = .ok (.getfield 54, 3) := by decide +kernel
theorem gd_Md_type_107 : decode gb_Md_type 107 = .ok (.iconst 1, 1) := by decide +kernel
theorem gd_Md_type_108 : decode gb_Md_type 108 = .ok (.iadd, 1) := by decide +kernel
theorem gd_Md_type_109 : decode gb_Md_type 109 = .ok (.putfield 54, 3) := by decide +kernel
theorem gd_Md_type_112 : decode gb_Md_type 112 = .ok (.iinc 5 (-1), 3) := by decide +kernel
theorem gd_Md_type_115 : decode gb_Md_type 115 = .ok (.goto (-39), 3) := by decide +kernel
theorem gd_Md_type_118 : decode gb_Md_type 118 = .ok (.aload_n 0, 1) := by decide +kernel
theorem gd_Md_type_119 : decode gb_Md_type 119 = .ok (.getfield 54, 3) := by decide +kernel
theorem gd_Md_type_122 : decode gb_Md_type 122 = .ok (.ireturn, 1) := by decide +kernel
theorem gd_Md_clear_0 : decode gb_Md_clear 0 = .ok (.aload_n 0, 1) := by decide +kernel
theorem gd_Md_clear_1 : decode gb_Md_clear 1 = .ok (.getfield 54, 3) := by decide +kernel
theorem gd_Md_clear_4 : decode gb_Md_clear 4 = .ok (.istore_n 1, 1) := by decide +kernel
theorem gd_Md_clear_5 : decode gb_Md_clear 5 = .ok (.aload_n 0, 1) := by decide +kernel
theorem gd_Md_clear_6 : decode gb_Md_clear 6 = .ok (.iconst 0, 1) := by decide +kernel
theorem gd_Md_clear_7 : decode gb_Md_clear 7 = .ok (.putfield 54, 3) := by decide +kernel
theorem gd_Md_clear_10 : decode gb_Md_clear 10 = .ok (.iload_n 1, 1) := by decide +kernel
theorem gd_Md_clear_11 : decode gb_Md_clear 11 = .ok (.ireturn, 1) := by decide +kernel
theorem gd_Md_against_0 : decode gb_Md_against 0 = .ok (.aload_n 0, 1) := by decide +kernel
theorem gd_Md_against_1 : decode gb_Md_against 1 = .ok (.getfield 17, 3) := by decide +kernel
theorem gd_Md_against_4 : decode gb_Md_against 4 = .ok (.iload_n 1, 1) := by decide +kernel
theorem gd_Md_against_5 : decode gb_Md_against 5 = .ok (.iaload, 1) := by decide +kernel
theorem gd_Md_against_6 : decode gb_Md_against 6 = .ok (.iload_n 2, 1) := by decide +kernel
theorem gd_Md_against_7 : decode gb_Md_against 7 = .ok (.if_icmp .eq 12, 3) := by decide +kernel
theorem gd_Md_against_10 : decode gb_Md_against 10 = .ok (.aload_n 0, 1) := by decide +kernel
theorem gd_Md_against_11 : decode gb_Md_against 11 = .ok (.getfield 17, 3) := by decide +kernel
theorem gd_Md_against_14 : decode gb_Md_against 14 = .ok (.iload_n 1, 1) := by decide +kernel
theorem gd_Md_against_15 : decode gb_Md_against 15 = .ok (.iaload, 1) := by decide +kernel
theorem gd_Md_against_16 : decode gb_Md_against 16 = .ok (.iload_n 2, 1) := by decide +kernel
theorem gd_Md_against_17 : decode gb_Md_against 17 = .ok (.isub, 1) := by decide +kernel
theorem gd_Md_against_18 : decode gb_Md_against 18 = .ok (.ireturn, 1) := by decide +kernel
theorem gd_Md_against_19 : decode gb_Md_against 19 = .ok (.iconst 0, 1) := by decide +kernel
theorem gd_Md_against_20 : decode gb_Md_against 20 = .ok (.istore_n 3, 1) := by decide +kernel
theorem gd_Md_against_21 : decode gb_Md_against 21 = .ok (.iload_n 3, 1) := by decide +kernel
theorem gd_Md_against_22 : decode gb_Md_against 22 = .ok (.aload_n 0, 1) := by decide +kernel
theorem gd_Md_against_23 : decode gb_Md_against 23 = .ok (.getfield 23, 3) := by decide +kernel
theorem gd_Md_against_26 : decode gb_Md_against 26 = .ok (.iload_n 1, 1) := by decide +kernel
theorem gd_Md_against_27 : decode gb_Md_against 27 = .ok (.iaload, 1) := by decide +kernel
theorem gd_Md_against_28 : decode gb_Md_against 28 = .ok (.if_icmp .ge 45, 3) := by decide +kernel
theorem gd_Md_against_31 : decode gb_Md_against 31 = .ok (.iload_n 3, 1) := by decide +kernel
theorem gd_Md_against_32 : decode gb_Md_against 32 = .ok (.aload_n 0, 1) := by decide +kernel
theorem gd_Md_against_33 : decode gb_Md_against 33 = .ok (.getfield 54, 3) := by decide +kernel
theorem gd_Md_against_36 : decode gb_Md_against 36 = .ok (.if_icmp .ge 37, 3) := by decide +kernel
theorem gd_Md_against_39 : decode gb_Md_against 39 = .ok (.aload_n 0, 1) := by decide +kernel
theorem gd_Md_against_40 : decode gb_Md_against 40 = .ok (.getfield 26, 3) := by decide +kernel
theorem gd_Md_against_43 : decode gb_Md_against 43 = .ok (.bipush 16, 2) := by decide +kernel
theorem gd_Md_against_45 : decode gb_Md_against 45 = .ok (.iload_n 1, 1) := by decide +kernel
theorem gd_Md_against_46 : decode gb_Md_against 46 = .ok (.imul, 1) := by decide +kernel
theorem gd_Md_against_47 : decode gb_Md_against 47 = .ok (.iload_n 3, 1) := by decide +kernel
theorem gd_Md_against_48 : decode gb_Md_against 48 = .ok (.iadd, 1) := by decide +kernel
theorem gd_Md_against_49 : decode gb_Md_against 49 = .ok (.iaload, 1) := by decide +kernel
theorem gd_Md_against_50 : decode gb_Md_against 50 = .ok (.aload_n 0, 1) := by decide +kernel
theorem gd_Md_against_51 : decode gb_Md_against 51 = .ok (.getfield 7, 3) := by decide +kernel
theorem gd_Md_against_54 : decode gb_Md_against 54 = .ok (.iload_n 3, 1) := by decide +kernel
theorem gd_Md_against_55 : decode gb_Md_against 55 = .ok (.iaload, 1) := by decide +kernel
theorem gd_Md_against_56 : decode gb_Md_against 56 = .ok (.isub, 1) := by decide +kernel
theorem gd_Md_against_57 : decode gb_Md_against 57 = .ok (.istore 4, 2) := by decide +kernel
theorem gd_Md_against_59 : decode gb_Md_against 59 = .ok (.iload 4, 2) := by decide +kernel
theorem gd_Md_against_61 : decode gb_Md_against 61 = .ok (.ifCond .eq 6, 3) := by decide +kernel
theorem gd_Md_against_64 : decode gb_Md_against 64 = .ok (.iload 4, 2) := by decide +kernel
theorem gd_Md_against_66 : decode gb_Md_against 66 = .ok (.ireturn, 1) := by decide +kernel
theorem gd_Md_against_67 : decode gb_Md_against 67 = .ok (.iinc 3 1, 3) := by decide +kernel
theorem gd_Md_against_70 : decode gb_Md_against 70 = .ok (.goto (-49), 3) := by decide +kernel
theorem gd_Md_against_73 : decode gb_Md_against 73 = .ok (.aload_n 0, 1) := by decide +kernel
theorem gd_Md_against_74 : decode gb_Md_against 74 = .ok (.getfield 23, 3) := by decide +kernel
theorem gd_Md_against_77 : decode gb_Md_against 77 = .ok (.iload_n 1, 1) := by decide +kernel
theorem gd_Md_against_78 : decode gb_Md_against 78 = .ok (.iaload, 1) := by decide +kernel
theorem gd_Md_against_79 : decode gb_Md_against 79 = .ok (.aload_n 0, 1) := by decide +kernel
theorem gd_Md_against_80 : decode gb_Md_against 80 = .ok (.getfield 54, 3) := by decide +kernel
theorem gd_Md_against_83 : decode gb_Md_against 83 = .ok (.isub, 1) := by decide +kernel
theorem gd_Md_against_84 : decode gb_Md_against 84 = .ok (.ireturn, 1) := by decide +kernel
theorem gd_Md_before_0 : decode gb_Md_before 0 = .ok (.iconst 0, 1) := by decide +kernel
theorem gd_Md_before_1 : decode gb_Md_before 1 = .ok (.istore_n 2, 1) := by decide +kernel
theorem gd_Md_before_2 : decode gb_Md_before 2 = .ok (.iconst 0, 1) := by decide +kernel
theorem gd_Md_before_3 : decode gb_Md_before 3 = .ok (.istore_n 3, 1) := by decide +kernel
theorem gd_Md_before_4 : decode gb_Md_before 4 = .ok (.iload_n 3, 1) := by decide +kernel
theorem gd_Md_before_5 : decode gb_Md_before 5 = .ok (.aload_n 0, 1) := by decide +kernel
theorem gd_Md_before_6 : decode gb_Md_before 6 = .ok (.getfield 44, 3) := by decide +kernel
theorem gd_Md_before_9 : decode gb_Md_before 9 = .ok (.if_icmp .ge 31, 3) := by decide +kernel
theorem gd_Md_before_12 : decode gb_Md_before 12 = .ok (.iload_n 2, 1) := by decide +kernel
theorem gd_Md_before_13 : decode gb_Md_before 13 = .ok (.aload_n 0, 1) := by decide +kernel
theorem gd_Md_before_14 : decode gb_Md_before 14 = .ok (.aload_n 0, 1) := by decide +kernel
theorem gd_Md_before_15 : decode gb_Md_before 15 = .ok (.getfield 29, 3) := by decide +kernel
theorem gd_Md_before_18 : decode gb_Md_before 18 = .ok (.iload_n 3, 1) := by decide +kernel
theorem gd_Md_before_19 : decode gb_Md_before 19 = .ok (.iaload, 1) := by decide +kernel
theorem gd_Md_before_20 : decode gb_Md_before 20 = .ok (.iload_n 1, 1) := by decide +kernel
theorem gd_Md_before_21 : decode gb_Md_before 21 = .ok (.invokevirtual 57, 3) := by decide +kernel
theorem gd_Md_before_24 : decode gb_Md_before 24 = .ok (.ifCond .ge 7, 3) := by decide +kernel
theorem gd_Md_before_27 : decode gb_Md_before 27 = .ok (.iconst 1, 1) := by decide +kernel
theorem gd_Md_before_28 : decode gb_Md_before 28 = .ok (.goto 4, 3) := by decide +kernel
theorem gd_Md_before_31 : decode gb_Md_before 31 = .ok (.iconst 0, 1) := by decide +kernel
theorem gd_Md_before_32 : decode gb_Md_before 32 = .ok (.iadd, 1) := by decide +kernel
theorem gd_Md_before_33 : decode gb_Md_before 33 = .ok (.istore_n 2, 1) := by decide +kernel
theorem gd_Md_before_34 : decode gb_Md_before 34 = .ok (.iinc 3 1, 3) := by decide +kernel
theorem gd_Md_before_37 : decode gb_Md_before 37 = .ok (.goto (-33), 3) := by decide +kernel
theorem gd_Md_before_40 : decode gb_Md_before 40 = .ok (.iload_n 2, 1) := by decide +kernel
theorem gd_Md_before_41 : decode gb_Md_before 41 = .ok (.ireturn, 1) := by decide +kernel
theorem gd_Md_numberOf_0 : decode gb_Md_numberOf 0 = .ok (.iconst (-1), 1) := by decide +kernel
theorem gd_Md_numberOf_1 : decode gb_Md_numberOf 1 = .ok (.istore_n 2, 1) := by decide +kernel
theorem gd_Md_numberOf_2 : decode gb_Md_numberOf 2 = .ok (.iconst 0, 1) := by decide +kernel
theorem gd_Md_numberOf_3 : decode gb_Md_numberOf 3 = .ok (.istore_n 3, 1) := by decide +kernel
theorem gd_Md_numberOf_4 : decode gb_Md_numberOf 4 = .ok (.iload_n 3, 1) := by decide +kernel
theorem gd_Md_numberOf_5 : decode gb_Md_numberOf 5 = .ok (.aload_n 0, 1) := by decide +kernel
theorem gd_Md_numberOf_6 : decode gb_Md_numberOf 6 = .ok (.getfield 44, 3) := by decide +kernel
theorem gd_Md_numberOf_9 : decode gb_Md_numberOf 9 = .ok (.if_icmp .ge 34, 3) := by decide +kernel
theorem gd_Md_numberOf_12 : decode gb_Md_numberOf 12 = .ok (.aload_n 0, 1) := by decide +kernel
theorem gd_Md_numberOf_13 : decode gb_Md_numberOf 13 = .ok (.aload_n 0, 1) := by decide +kernel
theorem gd_Md_numberOf_14 : decode gb_Md_numberOf 14 = .ok (.getfield 29, 3) := by decide +kernel
theorem gd_Md_numberOf_17 : decode gb_Md_numberOf 17 = .ok (.iload_n 3, 1) := by decide +kernel
theorem gd_Md_numberOf_18 : decode gb_Md_numberOf 18 = .ok (.iaload, 1) := by decide +kernel
theorem gd_Md_numberOf_19 : decode gb_Md_numberOf 19 = .ok (.iload_n 1, 1) := by decide +kernel
theorem gd_Md_numberOf_20 : decode gb_Md_numberOf 20 = .ok (.invokevirtual 57, 3) := by decide +kernel
theorem gd_Md_numberOf_23 : decode gb_Md_numberOf 23 = .ok (.ifCond .ne 12, 3) := by decide +kernel
theorem gd_Md_numberOf_26 : decode gb_Md_numberOf 26 = .ok (.aload_n 0, 1) := by decide +kernel
theorem gd_Md_numberOf_27 : decode gb_Md_numberOf 27 = .ok (.getfield 29, 3) := by decide +kernel
theorem gd_Md_numberOf_30 : decode gb_Md_numberOf 30 = .ok (.iload_n 3, 1) := by decide +kernel
theorem gd_Md_numberOf_31 : decode gb_Md_numberOf 31 = .ok (.iaload, 1) := by decide +kernel
theorem gd_Md_numberOf_32 : decode gb_Md_numberOf 32 = .ok (.goto 4, 3) := by decide +kernel
theorem gd_Md_numberOf_35 : decode gb_Md_numberOf 35 = .ok (.iload_n 2, 1) := by decide +kernel
theorem gd_Md_numberOf_36 : decode gb_Md_numberOf 36 = .ok (.istore_n 2, 1) := by decide +kernel
theorem gd_Md_numberOf_37 : decode gb_Md_numberOf 37 = .ok (.iinc 3 1, 3) := by decide +kernel
theorem gd_Md_numberOf_40 : decode gb_Md_numberOf 40 = .ok (.goto (-36), 3) := by decide +kernel
theorem gd_Md_numberOf_43 : decode gb_Md_numberOf 43 = .ok (.iload_n 2, 1) := by decide +kernel
theorem gd_Md_numberOf_44 : decode gb_Md_numberOf 44 = .ok (.ireturn, 1) := by decide +kernel
theorem gd_Md_placeOf_0 : decode gb_Md_placeOf 0 = .ok (.iconst (-1), 1) := by decide +kernel
theorem gd_Md_placeOf_1 : decode gb_Md_placeOf 1 = .ok (.istore_n 2, 1) := by decide +kernel
theorem gd_Md_placeOf_2 : decode gb_Md_placeOf 2 = .ok (.iconst 0, 1) := by decide +kernel
theorem gd_Md_placeOf_3 : decode gb_Md_placeOf 3 = .ok (.istore_n 3, 1) := by decide +kernel
theorem gd_Md_placeOf_4 : decode gb_Md_placeOf 4 = .ok (.iload_n 3, 1) := by decide +kernel
theorem gd_Md_placeOf_5 : decode gb_Md_placeOf 5 = .ok (.aload_n 0, 1) := by decide +kernel
theorem gd_Md_placeOf_6 : decode gb_Md_placeOf 6 = .ok (.getfield 44, 3) := by decide +kernel
theorem gd_Md_placeOf_9 : decode gb_Md_placeOf 9 = .ok (.if_icmp .ge 25, 3) := by decide +kernel
theorem gd_Md_placeOf_12 : decode gb_Md_placeOf 12 = .ok (.aload_n 0, 1) := by decide +kernel
theorem gd_Md_placeOf_13 : decode gb_Md_placeOf 13 = .ok (.getfield 29, 3) := by decide +kernel
theorem gd_Md_placeOf_16 : decode gb_Md_placeOf 16 = .ok (.iload_n 3, 1) := by decide +kernel
theorem gd_Md_placeOf_17 : decode gb_Md_placeOf 17 = .ok (.iaload, 1) := by decide +kernel
theorem gd_Md_placeOf_18 : decode gb_Md_placeOf 18 = .ok (.iload_n 1, 1) := by decide +kernel
theorem gd_Md_placeOf_19 : decode gb_Md_placeOf 19 = .ok (.if_icmp .ne 7, 3) := by decide +kernel
theorem gd_Md_placeOf_22 : decode gb_Md_placeOf 22 = .ok (.iload_n 3, 1) := by decide +kernel
theorem gd_Md_placeOf_23 : decode gb_Md_placeOf 23 = .ok (.goto 4, 3) := by decide +kernel
theorem gd_Md_placeOf_26 : decode gb_Md_placeOf 26 = .ok (.iload_n 2, 1) := by decide +kernel
theorem gd_Md_placeOf_27 : decode gb_Md_placeOf 27 = .ok (.istore_n 2, 1) := by decide +kernel
theorem gd_Md_placeOf_28 : decode gb_Md_placeOf 28 = .ok (.iinc 3 1, 3) := by decide +kernel
theorem gd_Md_placeOf_31 : decode gb_Md_placeOf 31 = .ok (.goto (-27), 3) := by decide +kernel
theorem gd_Md_placeOf_34 : decode gb_Md_placeOf 34 = .ok (.iload_n 2, 1) := by decide +kernel
theorem gd_Md_placeOf_35 : decode gb_Md_placeOf 35 = .ok (.ireturn, 1) := by decide +kernel
theorem gd_Md_begin_0 : decode gb_Md_begin 0 = .ok (.iconst 0, 1) := by decide +kernel
theorem gd_Md_begin_1 : decode gb_Md_begin 1 = .ok (.istore_n 2, 1) := by decide +kernel
theorem gd_Md_begin_2 : decode gb_Md_begin 2 = .ok (.iconst 0, 1) := by decide +kernel
theorem gd_Md_begin_3 : decode gb_Md_begin 3 = .ok (.istore_n 3, 1) := by decide +kernel
theorem gd_Md_begin_4 : decode gb_Md_begin 4 = .ok (.iload_n 3, 1) := by decide +kernel
theorem gd_Md_begin_5 : decode gb_Md_begin 5 = .ok (.iload_n 1, 1) := by decide +kernel
theorem gd_Md_begin_6 : decode gb_Md_begin 6 = .ok (.if_icmp .ge 18, 3) := by decide +kernel
theorem gd_Md_begin_9 : decode gb_Md_begin 9 = .ok (.iload_n 2, 1) := by decide +kernel
theorem gd_Md_begin_10 : decode gb_Md_begin 10 = .ok (.aload_n 0, 1) := by decide +kernel
theorem gd_Md_begin_11 : decode gb_Md_begin 11 = .ok (.getfield 32, 3) := by decide +kernel
theorem gd_Md_begin_14 : decode gb_Md_begin 14 = .ok (.iload_n 3, 1) := by decide +kernel
theorem gd_Md_begin_15 : decode gb_Md_begin 15 = .ok (.iaload, 1) := by decide +kernel
theorem gd_Md_begin_16 : decode gb_Md_begin 16 = .ok (.iadd, 1) := by decide +kernel
theorem gd_Md_begin_17 : decode gb_Md_begin 17 = .ok (.istore_n 2, 1) := by decide +kernel
theorem gd_Md_begin_18 : decode gb_Md_begin 18 = .ok (.iinc 3 1, 3) := by decide +kernel
theorem gd_Md_begin_21 : decode gb_Md_begin 21 = .ok (.goto (-17), 3) := by decide +kernel
theorem gd_Md_begin_24 : decode gb_Md_begin 24 = .ok (.iload_n 2, 1) := by decide +kernel
theorem gd_Md_begin_25 : decode gb_Md_begin 25 = .ok (.ireturn, 1) := by decide +kernel
theorem gd_Md_insertLeaf_0 : decode gb_Md_insertLeaf 0 = .ok (.aload_n 0, 1) := by decide +kernel
theorem gd_Md_insertLeaf_1 : decode gb_Md_insertLeaf 1 = .ok (.getfield 61, 3) := by decide +kernel
theorem gd_Md_insertLeaf_4 : decode gb_Md_insertLeaf 4 = .ok (.istore_n 3, 1) := by decide +kernel
theorem gd_Md_insertLeaf_5 : decode gb_Md_insertLeaf 5 = .ok (.iload_n 3, 1) := by decide +kernel
theorem gd_Md_insertLeaf_6 : decode gb_Md_insertLeaf 6 = .ok (.iload_n 1, 1) := by decide +kernel
theorem gd_Md_insertLeaf_7 : decode gb_Md_insertLeaf 7 = .ok (.if_icmp .le 23, 3) := by decide +kernel
theorem gd_Md_insertLeaf_10 : decode gb_Md_insertLeaf 10 = .ok (.aload_n 0, 1) := by decide +kernel
theorem gd_Md_insertLeaf_11 : decode gb_Md_insertLeaf 11 = .ok (.getfield 32, 3) := by decide +kernel
theorem gd_Md_insertLeaf_14 : decode gb_Md_insertLeaf 14 = .ok (.iload_n 3, 1) := by decide +kernel
theorem gd_Md_insertLeaf_15 : decode gb_Md_insertLeaf 15 = .ok (.aload_n 0, 1) := by decide +kernel
theorem gd_Md_insertLeaf_16 : decode gb_Md_insertLeaf 16 = .ok (.getfield 32, 3) := by decide +kernel
theorem gd_Md_insertLeaf_19 : decode gb_Md_insertLeaf 19 = .ok (.iload_n 3, 1) := by decide +kernel
theorem gd_Md_insertLeaf_20 : decode gb_Md_insertLeaf 20 = .ok (.iconst 1, 1) := by decide +kernel
theorem gd_Md_insertLeaf_21 : decode gb_Md_insertLeaf 21 = .ok (.isub, 1) := by decide +kernel
theorem gd_Md_insertLeaf_22 : decode gb_Md_insertLeaf 22 = .ok (.iaload, 1) := by decide +kernel
theorem gd_Md_insertLeaf_23 : decode gb_Md_insertLeaf 23 = .ok (.iastore, 1) := by decide +kernel
theorem gd_Md_insertLeaf_24 : decode gb_Md_insertLeaf 24 = .ok (.iinc 3 (-1), 3) := by decide +kernel
theorem gd_Md_insertLeaf_27 : decode gb_Md_insertLeaf 27 = .ok (.goto (-22), 3) := by decide +kernel
theorem gd_Md_insertLeaf_30 : decode gb_Md_insertLeaf 30 = .ok (.aload_n 0, 1) := by decide +kernel
theorem gd_Md_insertLeaf_31 : decode gb_Md_insertLeaf 31 = .ok (.getfield 32, 3) := by decide +kernel
theorem gd_Md_insertLeaf_34 : decode gb_Md_insertLeaf 34 = .ok (.iload_n 1, 1) := by decide +kernel
theorem gd_Md_insertLeaf_35 : decode gb_Md_insertLeaf 35 = .ok (.iload_n 2, 1) := by decide +kernel
theorem gd_Md_insertLeaf_36 : decode gb_Md_insertLeaf 36 = .ok (.iastore, 1) := by decide +kernel
theorem gd_Md_insertLeaf_37 : decode gb_Md_insertLeaf 37 = .ok (.aload_n 0, 1) := by decide +kernel
theorem gd_Md_insertLeaf_38 : decode gb_Md_insertLeaf 38 = .ok (.dup, 1) := by decide +kernel
theorem gd_Md_insertLeaf_39 : decode gb_Md_insertLeaf 39 = .ok (.getfield 61, 3) := by decide +kernel
theorem gd_Md_insertLeaf_42 : decode gb_Md_insertLeaf 42 = .ok (.iconst 1, 1) := by decide +kernel
theorem gd_Md_insertLeaf_43 : decode gb_Md_insertLeaf 43 = .ok (.iadd, 1) := by decide +kernel
theorem gd_Md_insertLeaf_44 : decode gb_Md_insertLeaf 44 = .ok (.putfield 61, 3) := by decide +kernel
theorem gd_Md_insertLeaf_47 : decode gb_Md_insertLeaf 47 = .ok (.return_, 1) := by decide +kernel
theorem gd_Md_dropLeaf_0 : decode gb_Md_dropLeaf 0 = .ok (.aload_n 0, 1) := by decide +kernel
theorem gd_Md_dropLeaf_1 : decode gb_Md_dropLeaf 1 = .ok (.dup, 1) := by decide +kernel
theorem gd_Md_dropLeaf_2 : decode gb_Md_dropLeaf 2 = .ok (.getfield 61, 3) := by decide +kernel
theorem gd_Md_dropLeaf_5 : decode gb_Md_dropLeaf 5 = .ok (.iconst 1, 1) := by decide +kernel
theorem gd_Md_dropLeaf_6 : decode gb_Md_dropLeaf 6 = .ok (.isub, 1) := by decide +kernel
theorem gd_Md_dropLeaf_7 : decode gb_Md_dropLeaf 7 = .ok (.putfield 61, 3) := by decide +kernel
theorem gd_Md_dropLeaf_10 : decode gb_Md_dropLeaf 10 = .ok (.iload_n 1, 1) := by decide +kernel
theorem gd_Md_dropLeaf_11 : decode gb_Md_dropLeaf 11 = .ok (.istore_n 2, 1) := by decide +kernel
theorem gd_Md_dropLeaf_12 : decode gb_Md_dropLeaf 12 = .ok (.iload_n 2, 1) := by decide +kernel
theorem gd_Md_dropLeaf_13 : decode gb_Md_dropLeaf 13 = .ok (.aload_n 0, 1) := by decide +kernel
theorem gd_Md_dropLeaf_14 : decode gb_Md_dropLeaf 14 = .ok (.getfield 61, 3) := by decide +kernel
theorem gd_Md_dropLeaf_17 : decode gb_Md_dropLeaf 17 = .ok (.if_icmp .ge 23, 3) := by decide +kernel
theorem gd_Md_dropLeaf_20 : decode gb_Md_dropLeaf 20 = .ok (.aload_n 0, 1) := by decide +kernel
theorem gd_Md_dropLeaf_21 : decode gb_Md_dropLeaf 21 = .ok (.getfield 32, 3) := by decide +kernel
theorem gd_Md_dropLeaf_24 : decode gb_Md_dropLeaf 24 = .ok (.iload_n 2, 1) := by decide +kernel
theorem gd_Md_dropLeaf_25 : decode gb_Md_dropLeaf 25 = .ok (.aload_n 0, 1) := by decide +kernel
theorem gd_Md_dropLeaf_26 : decode gb_Md_dropLeaf 26 = .ok (.getfield 32, 3) := by decide +kernel
theorem gd_Md_dropLeaf_29 : decode gb_Md_dropLeaf 29 = .ok (.iload_n 2, 1) := by decide +kernel
theorem gd_Md_dropLeaf_30 : decode gb_Md_dropLeaf 30 = .ok (.iconst 1, 1) := by decide +kernel
theorem gd_Md_dropLeaf_31 : decode gb_Md_dropLeaf 31 = .ok (.iadd, 1) := by decide +kernel
theorem gd_Md_dropLeaf_32 : decode gb_Md_dropLeaf 32 = .ok (.iaload, 1) := by decide +kernel
theorem gd_Md_dropLeaf_33 : decode gb_Md_dropLeaf 33 = .ok (.iastore, 1) := by decide +kernel
theorem gd_Md_dropLeaf_34 : decode gb_Md_dropLeaf 34 = .ok (.iinc 2 1, 3) := by decide +kernel
theorem gd_Md_dropLeaf_37 : decode gb_Md_dropLeaf 37 = .ok (.goto (-25), 3) := by decide +kernel
theorem gd_Md_dropLeaf_40 : decode gb_Md_dropLeaf 40 = .ok (.return_, 1) := by decide +kernel
theorem gd_Md_add_0 : decode gb_Md_add 0 = .ok (.aload_n 0, 1) := by decide +kernel
theorem gd_Md_add_1 : decode gb_Md_add 1 = .ok (.getfield 54, 3) := by decide +kernel
theorem gd_Md_add_4 : decode gb_Md_add 4 = .ok (.istore_n 2, 1) := by decide +kernel
theorem gd_Md_add_5 : decode gb_Md_add 5 = .ok (.iload_n 1, 1) := by decide +kernel
theorem gd_Md_add_6 : decode gb_Md_add 6 = .ok (.iconst 0, 1) := by decide +kernel
theorem gd_Md_add_7 : decode gb_Md_add 7 = .ok (.iconst 3, 1) := by decide +kernel
theorem gd_Md_add_8 : decode gb_Md_add 8 = .ok (.invokestatic 48, 3) := by decide +kernel
theorem gd_Md_add_11 : decode gb_Md_add 11 = .ok (.ifCond .eq 7, 3) := by decide +kernel
theorem gd_Md_add_14 : decode gb_Md_add 14 = .ok (.iload_n 2, 1) := by decide +kernel
theorem gd_Md_add_15 : decode gb_Md_add 15 = .ok (.ifCond .ne 10, 3) := by decide +kernel
theorem gd_Md_add_18 : decode gb_Md_add 18 = .ok (.aload_n 0, 1) := by decide +kernel
theorem gd_Md_add_19 : decode gb_Md_add 19 = .ok (.iconst 0, 1) := by decide +kernel
theorem gd_Md_add_20 : decode gb_Md_add 20 = .ok (.putfield 54, 3) := by decide +kernel
theorem gd_Md_add_23 : decode gb_Md_add 23 = .ok (.iconst (-1), 1) := by decide +kernel
theorem gd_Md_add_24 : decode gb_Md_add 24 = .ok (.ireturn, 1) := by decide +kernel
theorem gd_Md_add_25 : decode gb_Md_add 25 = .ok (.aload_n 0, 1) := by decide +kernel
theorem gd_Md_add_26 : decode gb_Md_add 26 = .ok (.iload_n 1, 1) := by decide +kernel
theorem gd_Md_add_27 : decode gb_Md_add 27 = .ok (.invokevirtual 64, 3) := by decide +kernel
theorem gd_Md_add_30 : decode gb_Md_add 30 = .ok (.istore_n 3, 1) := by decide +kernel
theorem gd_Md_add_31 : decode gb_Md_add 31 = .ok (.iload_n 3, 1) := by decide +kernel
theorem gd_Md_add_32 : decode gb_Md_add 32 = .ok (.ifCond .ge 20, 3) := by decide +kernel
theorem gd_Md_add_35 : decode gb_Md_add 35 = .ok (.aload_n 0, 1) := by decide +kernel
theorem gd_Md_add_36 : decode gb_Md_add 36 = .ok (.getfield 44, 3) := by decide +kernel
theorem gd_Md_add_39 : decode gb_Md_add 39 = .ok (.bipush 100, 2) := by decide +kernel
theorem gd_Md_add_41 : decode gb_Md_add 41 = .ok (.if_icmp .ne 11, 3) := by decide +kernel
theorem gd_Md_add_44 : decode gb_Md_add 44 = .ok (.aload_n 0, 1) := by decide +kernel
theorem gd_Md_add_45 : decode gb_Md_add 45 = .ok (.iconst 0, 1) := by decide +kernel
theorem gd_Md_add_46 : decode gb_Md_add 46 = .ok (.putfield 54, 3) := by decide +kernel
theorem gd_Md_add_49 : decode gb_Md_add 49 = .ok (.bipush (-3), 2) := by decide +kernel
theorem gd_Md_add_51 : decode gb_Md_add 51 = .ok (.ireturn, 1) := by decide +kernel
theorem gd_Md_add_52 : decode gb_Md_add 52 = .ok (.iload_n 3, 1) := by decide +kernel
theorem gd_Md_add_53 : decode gb_Md_add 53 = .ok (.ifCond .ge 26, 3) := by decide +kernel
theorem gd_Md_add_56 : decode gb_Md_add 56 = .ok (.iconst 0, 1) := by decide +kernel
theorem gd_Md_add_57 : decode gb_Md_add 57 = .ok (.istore_n 3, 1) := by decide +kernel
theorem gd_Md_add_58 : decode gb_Md_add 58 = .ok (.aload_n 0, 1) := by decide +kernel
theorem gd_Md_add_59 : decode gb_Md_add 59 = .ok (.getfield 13, 3) := by decide +kernel
theorem gd_Md_add_62 : decode gb_Md_add 62 = .ok (.iload_n 3, 1) := by decide +kernel
theorem gd_Md_add_63 : decode gb_Md_add 63 = .ok (.baload, 1) := by decide +kernel
theorem gd_Md_add_64 : decode gb_Md_add 64 = .ok (.ifCond .eq 9, 3) := by decide +kernel
theorem gd_Md_add_67 : decode gb_Md_add 67 = .ok (.iinc 3 1, 3) := by decide +kernel
theorem gd_Md_add_70 : decode gb_Md_add 70 = .ok (.goto (-12), 3) := by decide +kernel
theorem gd_Md_add_73 : decode gb_Md_add 73 = .ok (.aload_n 0, 1) := by decide +kernel
theorem gd_Md_add_74 : decode gb_Md_add 74 = .ok (.iload_n 3, 1) := by decide +kernel
theorem gd_Md_add_75 : decode gb_Md_add 75 = .ok (.iload_n 1, 1) := by decide +kernel
theorem gd_Md_add_76 : decode gb_Md_add 76 = .ok (.invokevirtual 68, 3) := by decide +kernel
theorem gd_Md_add_79 : decode gb_Md_add 79 = .ok (.aload_n 0, 1) := by decide +kernel
theorem gd_Md_add_80 : decode gb_Md_add 80 = .ok (.getfield 20, 3) := by decide +kernel
theorem gd_Md_add_83 : decode gb_Md_add 83 = .ok (.iload_n 3, 1) := by decide +kernel
theorem gd_Md_add_84 : decode gb_Md_add 84 = .ok (.dup2, 1) := by decide +kernel
theorem gd_Md_add_85 : decode gb_Md_add 85 = .ok (.iaload, 1) := by decide +kernel
theorem gd_Md_add_86 : decode gb_Md_add 86 = .ok (.iconst 1, 1) := by decide +kernel
theorem gd_Md_add_87 : decode gb_Md_add 87 = .ok (.iadd, 1) := by decide +kernel
theorem gd_Md_add_88 : decode gb_Md_add 88 = .ok (.iastore, 1) := by decide +kernel
theorem gd_Md_add_89 : decode gb_Md_add 89 = .ok (.aload_n 0, 1) := by decide +kernel
theorem gd_Md_add_90 : decode gb_Md_add 90 = .ok (.iconst 0, 1) := by decide +kernel
theorem gd_Md_add_91 : decode gb_Md_add 91 = .ok (.putfield 54, 3) := by decide +kernel
theorem gd_Md_add_94 : decode gb_Md_add 94 = .ok (.iload_n 3, 1) := by decide +kernel
theorem gd_Md_add_95 : decode gb_Md_add 95 = .ok (.ireturn, 1) := by decide +kernel
theorem gd_Md_come_0 : decode gb_Md_come 0 = .ok (.aload_n 0, 1) := by decide +kernel
theorem gd_Md_come_1 : decode gb_Md_come 1 = .ok (.iload_n 2, 1) := by decide +kernel
theorem gd_Md_come_2 : decode gb_Md_come 2 = .ok (.invokevirtual 72, 3) := by decide +kernel
theorem gd_Md_come_5 : decode gb_Md_come 5 = .ok (.istore_n 3, 1) := by decide +kernel
theorem gd_Md_come_6 : decode gb_Md_come 6 = .ok (.aload_n 0, 1) := by decide +kernel
theorem gd_Md_come_7 : decode gb_Md_come 7 = .ok (.getfield 13, 3) := by decide +kernel
theorem gd_Md_come_10 : decode gb_Md_come 10 = .ok (.iload_n 1, 1) := by decide +kernel
theorem gd_Md_come_11 : decode gb_Md_come 11 = .ok (.iconst 1, 1) := by decide +kernel
theorem gd_Md_come_12 : decode gb_Md_come 12 = .ok (.bastore, 1) := by decide +kernel
theorem gd_Md_come_13 : decode gb_Md_come 13 = .ok (.aload_n 0, 1) := by decide +kernel
theorem gd_Md_come_14 : decode gb_Md_come 14 = .ok (.getfield 17, 3) := by decide +kernel
theorem gd_Md_come_17 : decode gb_Md_come 17 = .ok (.iload_n 1, 1) := by decide +kernel
theorem gd_Md_come_18 : decode gb_Md_come 18 = .ok (.iload_n 2, 1) := by decide +kernel
theorem gd_Md_come_19 : decode gb_Md_come 19 = .ok (.iastore, 1) := by decide +kernel
theorem gd_Md_come_20 : decode gb_Md_come 20 = .ok (.aload_n 0, 1) := by decide +kernel
theorem gd_Md_come_21 : decode gb_Md_come 21 = .ok (.getfield 20, 3) := by decide +kernel
theorem gd_Md_come_24 : decode gb_Md_come 24 = .ok (.iload_n 1, 1) := by decide +kernel
theorem gd_Md_come_25 : decode gb_Md_come 25 = .ok (.iconst 0, 1) := by decide +kernel
theorem gd_Md_come_26 : decode gb_Md_come 26 = .ok (.iastore, 1) := by decide +kernel
theorem gd_Md_come_27 : decode gb_Md_come 27 = .ok (.aload_n 0, 1) := by decide +kernel
theorem gd_Md_come_28 : decode gb_Md_come 28 = .ok (.getfield 23, 3) := by decide +kernel
theorem gd_Md_come_31 : decode gb_Md_come 31 = .ok (.iload_n 1, 1) := by decide +kernel
theorem gd_Md_come_32 : decode gb_Md_come 32 = .ok (.aload_n 0, 1) := by decide +kernel
theorem gd_Md_come_33 : decode gb_Md_come 33 = .ok (.getfield 54, 3) := by decide +kernel
theorem gd_Md_come_36 : decode gb_Md_come 36 = .ok (.iastore, 1) := by decide +kernel
theorem gd_Md_come_37 : decode gb_Md_come 37 = .ok (.iconst 0, 1) := by decide +kernel
theorem gd_Md_come_38 : decode gb_Md_come 38 = .ok (.istore 4, 2) := by decide +kernel
theorem gd_Md_come_40 : decode gb_Md_come 40 = .ok (.iload 4, 2) := by decide +kernel
theorem gd_Md_come_42 : decode gb_Md_come 42 = .ok (.aload_n 0, 1) := by decide +kernel
theorem gd_Md_come_43 : decode gb_Md_come 43 = .ok (.getfield 54, 3) := by decide +kernel
theorem gd_Md_come_46 : decode gb_Md_come 46 = .ok (.if_icmp .ge 28, 3) := by decide +kernel
theorem gd_Md_come_49 : decode gb_Md_come 49 = .ok (.aload_n 0, 1) := by decide +kernel
theorem gd_Md_come_50 : decode gb_Md_come 50 = .ok (.getfield 26, 3) := by decide +kernel
theorem gd_Md_come_53 : decode gb_Md_come 53 = .ok (.bipush 16, 2) := by decide +kernel
theorem gd_Md_come_55 : decode gb_Md_come 55 = .ok (.iload_n 1, 1) := by decide +kernel
theorem gd_Md_come_56 : decode gb_Md_come 56 = .ok (.imul, 1) := by decide +kernel
theorem gd_Md_come_57 : decode gb_Md_come 57 = .ok (.iload 4, 2) := by decide +kernel
theorem gd_Md_come_59 : decode gb_Md_come 59 = .ok (.iadd, 1) := by decide +kernel
theorem gd_Md_come_60 : decode gb_Md_come 60 = .ok (.aload_n 0, 1) := by decide +kernel
theorem gd_Md_come_61 : decode gb_Md_come 61 = .ok (.getfield 7, 3) := by decide +kernel
theorem gd_Md_come_64 : decode gb_Md_come 64 = .ok (.iload 4, 2) := by decide +kernel
theorem gd_Md_come_66 : decode gb_Md_come 66 = .ok (.iaload, 1) := by decide +kernel
theorem gd_Md_come_67 : decode gb_Md_come 67 = .ok (.iastore, 1) := by decide +kernel
theorem gd_Md_come_68 : decode gb_Md_come 68 = .ok (.iinc 4 1, 3) := by decide +kernel
theorem gd_Md_come_71 : decode gb_Md_come 71 = .ok (.goto (-31), 3) := by decide +kernel
theorem gd_Md_come_74 : decode gb_Md_come 74 = .ok (.aload_n 0, 1) := by decide +kernel
theorem gd_Md_come_75 : decode gb_Md_come 75 = .ok (.getfield 44, 3) := by decide +kernel
theorem gd_Md_come_78 : decode gb_Md_come 78 = .ok (.istore 4, 2) := by decide +kernel
theorem gd_Md_come_80 : decode gb_Md_come 80 = .ok (.iload 4, 2) := by decide +kernel
theorem gd_Md_come_82 : decode gb_Md_come 82 = .ok (.iload_n 3, 1) := by decide +kernel
theorem gd_Md_come_83 : decode gb_Md_come 83 = .ok (.if_icmp .le 25, 3) := by decide +kernel
theorem gd_Md_come_86 : decode gb_Md_come 86 = .ok (.aload_n 0, 1) := by decide +kernel
theorem gd_Md_come_87 : decode gb_Md_come 87 = .ok (.getfield 29, 3) := by decide +kernel
end
section
theorem gd_Md_come_90 : decode gb_Md_come 90 = .ok (.iload 4, 2) := by decide +kernel
theorem gd_Md_come_92 : decode gb_Md_come 92 = .ok (.aload_n 0, 1) := by decide +kernel
theorem gd_Md_come_93 : decode gb_Md_come 93 = .ok (.getfield 29, 3) := by decide +kernel
theorem gd_Md_come_96 : decode gb_Md_come 96 = .ok (.iload 4, 2) := by decide +kernel
theorem gd_Md_come_98 : decode gb_Md_come 98 = .ok (.iconst 1, 1) := by decide +kernel
theorem gd_Md_come_99 : decode gb_Md_come 99 = .ok (.isub, 1) := by decide +kernel
theorem gd_Md_come_100 : decode gb_Md_come 100 = .ok (.iaload, 1) := by decide +kernel
theorem gd_Md_come_101 : decode gb_Md_come 101 = .ok (.iastore, 1) := by decide +kernel
theorem gd_Md_come_102 : decode gb_Md_come 102 = .ok (.iinc 4 (-1), 3) := by decide +kernel
theorem gd_Md_come_105 : decode gb_Md_come 105 = .ok (.goto (-25), 3) := by decide +kernel
theorem gd_Md_come_108 : decode gb_Md_come 108 = .ok (.aload_n 0, 1) := by decide +kernel
theorem gd_Md_come_109 : decode gb_Md_come 109 = .ok (.getfield 29, 3) := by decide +kernel
theorem gd_Md_come_112 : decode gb_Md_come 112 = .ok (.iload_n 3, 1) := by decide +kernel
theorem gd_Md_come_113 : decode gb_Md_come 113 = .ok (.iload_n 1, 1) := by decide +kernel
theorem gd_Md_come_114 : decode gb_Md_come 114 = .ok (.iastore, 1) := by decide +kernel
theorem gd_Md_come_115 : decode gb_Md_come 115 = .ok (.aload_n 0, 1) := by decide +kernel
theorem gd_Md_come_116 : decode gb_Md_come 116 = .ok (.dup, 1) := by decide +kernel
theorem gd_Md_come_117 : decode gb_Md_come 117 = .ok (.getfield 44, 3) := by decide +kernel
theorem gd_Md_come_120 : decode gb_Md_come 120 = .ok (.iconst 1, 1) := by decide +kernel
theorem gd_Md_come_121 : decode gb_Md_come 121 = .ok (.iadd, 1) := by decide +kernel
theorem gd_Md_come_122 : decode gb_Md_come 122 = .ok (.putfield 44, 3) := by decide +kernel
theorem gd_Md_come_125 : decode gb_Md_come 125 = .ok (.aload_n 0, 1) := by decide +kernel
theorem gd_Md_come_126 : decode gb_Md_come 126 = .ok (.getfield 61, 3) := by decide +kernel
theorem gd_Md_come_129 : decode gb_Md_come 129 = .ok (.ifCond .ne 9, 3) := by decide +kernel
theorem gd_Md_come_132 : decode gb_Md_come 132 = .ok (.aload_n 0, 1) := by decide +kernel
theorem gd_Md_come_133 : decode gb_Md_come 133 = .ok (.iconst 0, 1) := by decide +kernel
theorem gd_Md_come_134 : decode gb_Md_come 134 = .ok (.iconst 0, 1) := by decide +kernel
theorem gd_Md_come_135 : decode gb_Md_come 135 = .ok (.invokevirtual 75, 3) := by decide +kernel
theorem gd_Md_come_138 : decode gb_Md_come 138 = .ok (.iconst 0, 1) := by decide +kernel
theorem gd_Md_come_139 : decode gb_Md_come 139 = .ok (.istore 4, 2) := by decide +kernel
theorem gd_Md_come_141 : decode gb_Md_come 141 = .ok (.iload 4, 2) := by decide +kernel
theorem gd_Md_come_143 : decode gb_Md_come 143 = .ok (.iconst 1, 1) := by decide +kernel
theorem gd_Md_come_144 : decode gb_Md_come 144 = .ok (.iadd, 1) := by decide +kernel
theorem gd_Md_come_145 : decode gb_Md_come 145 = .ok (.aload_n 0, 1) := by decide +kernel
theorem gd_Md_come_146 : decode gb_Md_come 146 = .ok (.getfield 61, 3) := by decide +kernel
theorem gd_Md_come_149 : decode gb_Md_come 149 = .ok (.if_icmp .ge 21, 3) := by decide +kernel
theorem gd_Md_come_152 : decode gb_Md_come 152 = .ok (.aload_n 0, 1) := by decide +kernel
theorem gd_Md_come_153 : decode gb_Md_come 153 = .ok (.iload 4, 2) := by decide +kernel
theorem gd_Md_come_155 : decode gb_Md_come 155 = .ok (.iconst 1, 1) := by decide +kernel
theorem gd_Md_come_156 : decode gb_Md_come 156 = .ok (.iadd, 1) := by decide +kernel
theorem gd_Md_come_157 : decode gb_Md_come 157 = .ok (.invokevirtual 78, 3) := by decide +kernel
theorem gd_Md_come_160 : decode gb_Md_come 160 = .ok (.iload_n 3, 1) := by decide +kernel
theorem gd_Md_come_161 : decode gb_Md_come 161 = .ok (.if_icmp .gt 9, 3) := by decide +kernel
theorem gd_Md_come_164 : decode gb_Md_come 164 = .ok (.iinc 4 1, 3) := by decide +kernel
theorem gd_Md_come_167 : decode gb_Md_come 167 = .ok (.goto (-26), 3) := by decide +kernel
theorem gd_Md_come_170 : decode gb_Md_come 170 = .ok (.aload_n 0, 1) := by decide +kernel
theorem gd_Md_come_171 : decode gb_Md_come 171 = .ok (.getfield 32, 3) := by decide +kernel
theorem gd_Md_come_174 : decode gb_Md_come 174 = .ok (.iload 4, 2) := by decide +kernel
theorem gd_Md_come_176 : decode gb_Md_come 176 = .ok (.dup2, 1) := by decide +kernel
theorem gd_Md_come_177 : decode gb_Md_come 177 = .ok (.iaload, 1) := by decide +kernel
theorem gd_Md_come_178 : decode gb_Md_come 178 = .ok (.iconst 1, 1) := by decide +kernel
theorem gd_Md_come_179 : decode gb_Md_come 179 = .ok (.iadd, 1) := by decide +kernel
theorem gd_Md_come_180 : decode gb_Md_come 180 = .ok (.iastore, 1) := by decide +kernel
theorem gd_Md_come_181 : decode gb_Md_come 181 = .ok (.aload_n 0, 1) := by decide +kernel
theorem gd_Md_come_182 : decode gb_Md_come 182 = .ok (.getfield 32, 3) := by decide +kernel
theorem gd_Md_come_185 : decode gb_Md_come 185 = .ok (.iload 4, 2) := by decide +kernel
theorem gd_Md_come_187 : decode gb_Md_come 187 = .ok (.iaload, 1) := by decide +kernel
theorem gd_Md_come_188 : decode gb_Md_come 188 = .ok (.bipush 8, 2) := by decide +kernel
theorem gd_Md_come_190 : decode gb_Md_come 190 = .ok (.if_icmp .le 20, 3) := by decide +kernel
theorem gd_Md_come_193 : decode gb_Md_come 193 = .ok (.aload_n 0, 1) := by decide +kernel
theorem gd_Md_come_194 : decode gb_Md_come 194 = .ok (.getfield 32, 3) := by decide +kernel
theorem gd_Md_come_197 : decode gb_Md_come 197 = .ok (.iload 4, 2) := by decide +kernel
theorem gd_Md_come_199 : decode gb_Md_come 199 = .ok (.iconst 4, 1) := by decide +kernel
theorem gd_Md_come_200 : decode gb_Md_come 200 = .ok (.iastore, 1) := by decide +kernel
theorem gd_Md_come_201 : decode gb_Md_come 201 = .ok (.aload_n 0, 1) := by decide +kernel
theorem gd_Md_come_202 : decode gb_Md_come 202 = .ok (.iload 4, 2) := by decide +kernel
theorem gd_Md_come_204 : decode gb_Md_come 204 = .ok (.iconst 1, 1) := by decide +kernel
theorem gd_Md_come_205 : decode gb_Md_come 205 = .ok (.iadd, 1) := by decide +kernel
theorem gd_Md_come_206 : decode gb_Md_come 206 = .ok (.iconst 5, 1) := by decide +kernel
theorem gd_Md_come_207 : decode gb_Md_come 207 = .ok (.invokevirtual 75, 3) := by decide +kernel
theorem gd_Md_come_210 : decode gb_Md_come 210 = .ok (.return_, 1) := by decide +kernel
theorem gd_Md_go_0 : decode gb_Md_go 0 = .ok (.aload_n 0, 1) := by decide +kernel
theorem gd_Md_go_1 : decode gb_Md_go 1 = .ok (.iload_n 1, 1) := by decide +kernel
theorem gd_Md_go_2 : decode gb_Md_go 2 = .ok (.invokevirtual 81, 3) := by decide +kernel
theorem gd_Md_go_5 : decode gb_Md_go 5 = .ok (.istore_n 2, 1) := by decide +kernel
theorem gd_Md_go_6 : decode gb_Md_go 6 = .ok (.iconst 0, 1) := by decide +kernel
theorem gd_Md_go_7 : decode gb_Md_go 7 = .ok (.istore_n 3, 1) := by decide +kernel
theorem gd_Md_go_8 : decode gb_Md_go 8 = .ok (.aload_n 0, 1) := by decide +kernel
theorem gd_Md_go_9 : decode gb_Md_go 9 = .ok (.iload_n 3, 1) := by decide +kernel
theorem gd_Md_go_10 : decode gb_Md_go 10 = .ok (.iconst 1, 1) := by decide +kernel
theorem gd_Md_go_11 : decode gb_Md_go 11 = .ok (.iadd, 1) := by decide +kernel
theorem gd_Md_go_12 : decode gb_Md_go 12 = .ok (.invokevirtual 78, 3) := by decide +kernel
theorem gd_Md_go_15 : decode gb_Md_go 15 = .ok (.iload_n 2, 1) := by decide +kernel
theorem gd_Md_go_16 : decode gb_Md_go 16 = .ok (.if_icmp .gt 9, 3) := by decide +kernel
theorem gd_Md_go_19 : decode gb_Md_go 19 = .ok (.iinc 3 1, 3) := by decide +kernel
theorem gd_Md_go_22 : decode gb_Md_go 22 = .ok (.goto (-14), 3) := by decide +kernel
theorem gd_Md_go_25 : decode gb_Md_go 25 = .ok (.aload_n 0, 1) := by decide +kernel
theorem gd_Md_go_26 : decode gb_Md_go 26 = .ok (.getfield 13, 3) := by decide +kernel
theorem gd_Md_go_29 : decode gb_Md_go 29 = .ok (.iload_n 1, 1) := by decide +kernel
theorem gd_Md_go_30 : decode gb_Md_go 30 = .ok (.iconst 0, 1) := by decide +kernel
theorem gd_Md_go_31 : decode gb_Md_go 31 = .ok (.bastore, 1) := by decide +kernel
theorem gd_Md_go_32 : decode gb_Md_go 32 = .ok (.aload_n 0, 1) := by decide +kernel
theorem gd_Md_go_33 : decode gb_Md_go 33 = .ok (.dup, 1) := by decide +kernel
theorem gd_Md_go_34 : decode gb_Md_go 34 = .ok (.getfield 44, 3) := by decide +kernel
theorem gd_Md_go_37 : decode gb_Md_go 37 = .ok (.iconst 1, 1) := by decide +kernel
theorem gd_Md_go_38 : decode gb_Md_go 38 = .ok (.isub, 1) := by decide +kernel
theorem gd_Md_go_39 : decode gb_Md_go 39 = .ok (.putfield 44, 3) := by decide +kernel
theorem gd_Md_go_42 : decode gb_Md_go 42 = .ok (.iload_n 2, 1) := by decide +kernel
theorem gd_Md_go_43 : decode gb_Md_go 43 = .ok (.istore 4, 2) := by decide +kernel
theorem gd_Md_go_45 : decode gb_Md_go 45 = .ok (.iload 4, 2) := by decide +kernel
theorem gd_Md_go_47 : decode gb_Md_go 47 = .ok (.aload_n 0, 1) := by decide +kernel
theorem gd_Md_go_48 : decode gb_Md_go 48 = .ok (.getfield 44, 3) := by decide +kernel
theorem gd_Md_go_51 : decode gb_Md_go 51 = .ok (.if_icmp .ge 25, 3) := by decide +kernel
theorem gd_Md_go_54 : decode gb_Md_go 54 = .ok (.aload_n 0, 1) := by decide +kernel
theorem gd_Md_go_55 : decode gb_Md_go 55 = .ok (.getfield 29, 3) := by decide +kernel
theorem gd_Md_go_58 : decode gb_Md_go 58 = .ok (.iload 4, 2) := by decide +kernel
theorem gd_Md_go_60 : decode gb_Md_go 60 = .ok (.aload_n 0, 1) := by decide +kernel
theorem gd_Md_go_61 : decode gb_Md_go 61 = .ok (.getfield 29, 3) := by decide +kernel
theorem gd_Md_go_64 : decode gb_Md_go 64 = .ok (.iload 4, 2) := by decide +kernel
theorem gd_Md_go_66 : decode gb_Md_go 66 = .ok (.iconst 1, 1) := by decide +kernel
theorem gd_Md_go_67 : decode gb_Md_go 67 = .ok (.iadd, 1) := by decide +kernel
theorem gd_Md_go_68 : decode gb_Md_go 68 = .ok (.iaload, 1) := by decide +kernel
theorem gd_Md_go_69 : decode gb_Md_go 69 = .ok (.iastore, 1) := by decide +kernel
theorem gd_Md_go_70 : decode gb_Md_go 70 = .ok (.iinc 4 1, 3) := by decide +kernel
theorem gd_Md_go_73 : decode gb_Md_go 73 = .ok (.goto (-28), 3) := by decide +kernel
theorem gd_Md_go_76 : decode gb_Md_go 76 = .ok (.aload_n 0, 1) := by decide +kernel
theorem gd_Md_go_77 : decode gb_Md_go 77 = .ok (.getfield 32, 3) := by decide +kernel
theorem gd_Md_go_80 : decode gb_Md_go 80 = .ok (.iload_n 3, 1) := by decide +kernel
theorem gd_Md_go_81 : decode gb_Md_go 81 = .ok (.dup2, 1) := by decide +kernel
theorem gd_Md_go_82 : decode gb_Md_go 82 = .ok (.iaload, 1) := by decide +kernel
theorem gd_Md_go_83 : decode gb_Md_go 83 = .ok (.iconst 1, 1) := by decide +kernel
theorem gd_Md_go_84 : decode gb_Md_go 84 = .ok (.isub, 1) := by decide +kernel
theorem gd_Md_go_85 : decode gb_Md_go 85 = .ok (.iastore, 1) := by decide +kernel
theorem gd_Md_go_86 : decode gb_Md_go 86 = .ok (.aload_n 0, 1) := by decide +kernel
theorem gd_Md_go_87 : decode gb_Md_go 87 = .ok (.getfield 32, 3) := by decide +kernel
theorem gd_Md_go_90 : decode gb_Md_go 90 = .ok (.iload_n 3, 1) := by decide +kernel
theorem gd_Md_go_91 : decode gb_Md_go 91 = .ok (.iaload, 1) := by decide +kernel
theorem gd_Md_go_92 : decode gb_Md_go 92 = .ok (.iconst 3, 1) := by decide +kernel
theorem gd_Md_go_93 : decode gb_Md_go 93 = .ok (.if_icmp .ge 99, 3) := by decide +kernel
theorem gd_Md_go_96 : decode gb_Md_go 96 = .ok (.aload_n 0, 1) := by decide +kernel
theorem gd_Md_go_97 : decode gb_Md_go 97 = .ok (.getfield 61, 3) := by decide +kernel
theorem gd_Md_go_100 : decode gb_Md_go 100 = .ok (.iconst 1, 1) := by decide +kernel
theorem gd_Md_go_101 : decode gb_Md_go 101 = .ok (.if_icmp .le 91, 3) := by decide +kernel
theorem gd_Md_go_104 : decode gb_Md_go 104 = .ok (.iload_n 3, 1) := by decide +kernel
theorem gd_Md_go_105 : decode gb_Md_go 105 = .ok (.iconst 1, 1) := by decide +kernel
theorem gd_Md_go_106 : decode gb_Md_go 106 = .ok (.iadd, 1) := by decide +kernel
theorem gd_Md_go_107 : decode gb_Md_go 107 = .ok (.aload_n 0, 1) := by decide +kernel
theorem gd_Md_go_108 : decode gb_Md_go 108 = .ok (.getfield 61, 3) := by decide +kernel
theorem gd_Md_go_111 : decode gb_Md_go 111 = .ok (.if_icmp .ge 9, 3) := by decide +kernel
theorem gd_Md_go_114 : decode gb_Md_go 114 = .ok (.iload_n 3, 1) := by decide +kernel
theorem gd_Md_go_115 : decode gb_Md_go 115 = .ok (.iconst 1, 1) := by decide +kernel
theorem gd_Md_go_116 : decode gb_Md_go 116 = .ok (.iadd, 1) := by decide +kernel
theorem gd_Md_go_117 : decode gb_Md_go 117 = .ok (.goto 6, 3) := by decide +kernel
theorem gd_Md_go_120 : decode gb_Md_go 120 = .ok (.iload_n 3, 1) := by decide +kernel
theorem gd_Md_go_121 : decode gb_Md_go 121 = .ok (.iconst 1, 1) := by decide +kernel
theorem gd_Md_go_122 : decode gb_Md_go 122 = .ok (.isub, 1) := by decide +kernel
theorem gd_Md_go_123 : decode gb_Md_go 123 = .ok (.istore 4, 2) := by decide +kernel
theorem gd_Md_go_125 : decode gb_Md_go 125 = .ok (.aload_n 0, 1) := by decide +kernel
theorem gd_Md_go_126 : decode gb_Md_go 126 = .ok (.getfield 32, 3) := by decide +kernel
theorem gd_Md_go_129 : decode gb_Md_go 129 = .ok (.iload_n 3, 1) := by decide +kernel
theorem gd_Md_go_130 : decode gb_Md_go 130 = .ok (.iaload, 1) := by decide +kernel
theorem gd_Md_go_131 : decode gb_Md_go 131 = .ok (.aload_n 0, 1) := by decide +kernel
theorem gd_Md_go_132 : decode gb_Md_go 132 = .ok (.getfield 32, 3) := by decide +kernel
theorem gd_Md_go_135 : decode gb_Md_go 135 = .ok (.iload 4, 2) := by decide +kernel
theorem gd_Md_go_137 : decode gb_Md_go 137 = .ok (.iaload, 1) := by decide +kernel
theorem gd_Md_go_138 : decode gb_Md_go 138 = .ok (.iadd, 1) := by decide +kernel
theorem gd_Md_go_139 : decode gb_Md_go 139 = .ok (.bipush 8, 2) := by decide +kernel
theorem gd_Md_go_141 : decode gb_Md_go 141 = .ok (.if_icmp .gt 27, 3) := by decide +kernel
theorem gd_Md_go_144 : decode gb_Md_go 144 = .ok (.aload_n 0, 1) := by decide +kernel
theorem gd_Md_go_145 : decode gb_Md_go 145 = .ok (.getfield 32, 3) := by decide +kernel
theorem gd_Md_go_148 : decode gb_Md_go 148 = .ok (.iload 4, 2) := by decide +kernel
theorem gd_Md_go_150 : decode gb_Md_go 150 = .ok (.dup2, 1) := by decide +kernel
theorem gd_Md_go_151 : decode gb_Md_go 151 = .ok (.iaload, 1) := by decide +kernel
theorem gd_Md_go_152 : decode gb_Md_go 152 = .ok (.aload_n 0, 1) := by decide +kernel
theorem gd_Md_go_153 : decode gb_Md_go 153 = .ok (.getfield 32, 3) := by decide +kernel
theorem gd_Md_go_156 : decode gb_Md_go 156 = .ok (.iload_n 3, 1) := by decide +kernel
theorem gd_Md_go_157 : decode gb_Md_go 157 = .ok (.iaload, 1) := by decide +kernel
theorem gd_Md_go_158 : decode gb_Md_go 158 = .ok (.iadd, 1) := by decide +kernel
theorem gd_Md_go_159 : decode gb_Md_go 159 = .ok (.iastore, 1) := by decide +kernel
theorem gd_Md_go_160 : decode gb_Md_go 160 = .ok (.aload_n 0, 1) := by decide +kernel
theorem gd_Md_go_161 : decode gb_Md_go 161 = .ok (.iload_n 3, 1) := by decide +kernel
theorem gd_Md_go_162 : decode gb_Md_go 162 = .ok (.invokevirtual 84, 3) := by decide +kernel
theorem gd_Md_go_165 : decode gb_Md_go 165 = .ok (.goto 24, 3) := by decide +kernel
theorem gd_Md_go_168 : decode gb_Md_go 168 = .ok (.aload_n 0, 1) := by decide +kernel
theorem gd_Md_go_169 : decode gb_Md_go 169 = .ok (.getfield 32, 3) := by decide +kernel
theorem gd_Md_go_172 : decode gb_Md_go 172 = .ok (.iload 4, 2) := by decide +kernel
theorem gd_Md_go_174 : decode gb_Md_go 174 = .ok (.dup2, 1) := by decide +kernel
theorem gd_Md_go_175 : decode gb_Md_go 175 = .ok (.iaload, 1) := by decide +kernel
theorem gd_Md_go_176 : decode gb_Md_go 176 = .ok (.iconst 1, 1) := by decide +kernel
theorem gd_Md_go_177 : decode gb_Md_go 177 = .ok (.isub, 1) := by decide +kernel
theorem gd_Md_go_178 : decode gb_Md_go 178 = .ok (.iastore, 1) := by decide +kernel
theorem gd_Md_go_179 : decode gb_Md_go 179 = .ok (.aload_n 0, 1) := by decide +kernel
theorem gd_Md_go_180 : decode gb_Md_go 180 = .ok (.getfield 32, 3) := by decide +kernel
theorem gd_Md_go_183 : decode gb_Md_go 183 = .ok (.iload_n 3, 1) := by decide +kernel
theorem gd_Md_go_184 : decode gb_Md_go 184 = .ok (.dup2, 1) := by decide +kernel
theorem gd_Md_go_185 : decode gb_Md_go 185 = .ok (.iaload, 1) := by decide +kernel
theorem gd_Md_go_186 : decode gb_Md_go 186 = .ok (.iconst 1, 1) := by decide +kernel
theorem gd_Md_go_187 : decode gb_Md_go 187 = .ok (.iadd, 1) := by decide +kernel
theorem gd_Md_go_188 : decode gb_Md_go 188 = .ok (.iastore, 1) := by decide +kernel
theorem gd_Md_go_189 : decode gb_Md_go 189 = .ok (.goto 17, 3) := by decide +kernel
theorem gd_Md_go_192 : decode gb_Md_go 192 = .ok (.aload_n 0, 1) := by decide +kernel
theorem gd_Md_go_193 : decode gb_Md_go 193 = .ok (.getfield 32, 3) := by decide +kernel
theorem gd_Md_go_196 : decode gb_Md_go 196 = .ok (.iload_n 3, 1) := by decide +kernel
theorem gd_Md_go_197 : decode gb_Md_go 197 = .ok (.iaload, 1) := by decide +kernel
theorem gd_Md_go_198 : decode gb_Md_go 198 = .ok (.ifCond .ne 8, 3) := by decide +kernel
theorem gd_Md_go_201 : decode gb_Md_go 201 = .ok (.aload_n 0, 1) := by decide +kernel
theorem gd_Md_go_202 : decode gb_Md_go 202 = .ok (.iload_n 3, 1) := by decide +kernel
theorem gd_Md_go_203 : decode gb_Md_go 203 = .ok (.invokevirtual 84, 3) := by decide +kernel
theorem gd_Md_go_206 : decode gb_Md_go 206 = .ok (.return_, 1) := by decide +kernel
theorem gd_Md_isKeptBy_0 : decode gb_Md_isKeptBy 0 = .ok (.aload_n 0, 1) := by decide +kernel
theorem gd_Md_isKeptBy_1 : decode gb_Md_isKeptBy 1 = .ok (.getfield 38, 3) := by decide +kernel
theorem gd_Md_isKeptBy_4 : decode gb_Md_isKeptBy 4 = .ok (.bipush 100, 2) := by decide +kernel
theorem gd_Md_isKeptBy_6 : decode gb_Md_isKeptBy 6 = .ok (.iload_n 1, 1) := by decide +kernel
theorem gd_Md_isKeptBy_7 : decode gb_Md_isKeptBy 7 = .ok (.imul, 1) := by decide +kernel
theorem gd_Md_isKeptBy_8 : decode gb_Md_isKeptBy 8 = .ok (.iload_n 2, 1) := by decide +kernel
theorem gd_Md_isKeptBy_9 : decode gb_Md_isKeptBy 9 = .ok (.iadd, 1) := by decide +kernel
theorem gd_Md_isKeptBy_10 : decode gb_Md_isKeptBy 10 = .ok (.baload, 1) := by decide +kernel
theorem gd_Md_isKeptBy_11 : decode gb_Md_isKeptBy 11 = .ok (.ireturn, 1) := by decide +kernel
theorem gd_Md_isLoose_0 : decode gb_Md_isLoose 0 = .ok (.aload_n 0, 1) := by decide +kernel
theorem gd_Md_isLoose_1 : decode gb_Md_isLoose 1 = .ok (.getfield 20, 3) := by decide +kernel
theorem gd_Md_isLoose_4 : decode gb_Md_isLoose 4 = .ok (.iload_n 1, 1) := by decide +kernel
theorem gd_Md_isLoose_5 : decode gb_Md_isLoose 5 = .ok (.iaload, 1) := by decide +kernel
theorem gd_Md_isLoose_6 : decode gb_Md_isLoose 6 = .ok (.ifCond .ne 7, 3) := by decide +kernel
theorem gd_Md_isLoose_9 : decode gb_Md_isLoose 9 = .ok (.iconst 1, 1) := by decide +kernel
theorem gd_Md_isLoose_10 : decode gb_Md_isLoose 10 = .ok (.goto 4, 3) := by decide +kernel
theorem gd_Md_isLoose_13 : decode gb_Md_isLoose 13 = .ok (.iconst 0, 1) := by decide +kernel
theorem gd_Md_isLoose_14 : decode gb_Md_isLoose 14 = .ok (.istore_n 2, 1) := by decide +kernel
theorem gd_Md_isLoose_15 : decode gb_Md_isLoose 15 = .ok (.iconst 0, 1) := by decide +kernel
theorem gd_Md_isLoose_16 : decode gb_Md_isLoose 16 = .ok (.istore_n 3, 1) := by decide +kernel
theorem gd_Md_isLoose_17 : decode gb_Md_isLoose 17 = .ok (.iload_n 3, 1) := by decide +kernel
theorem gd_Md_isLoose_18 : decode gb_Md_isLoose 18 = .ok (.aload_n 0, 1) := by decide +kernel
theorem gd_Md_isLoose_19 : decode gb_Md_isLoose 19 = .ok (.getfield 88, 3) := by decide +kernel
theorem gd_Md_isLoose_22 : decode gb_Md_isLoose 22 = .ok (.if_icmp .ge 28, 3) := by decide +kernel
theorem gd_Md_isLoose_25 : decode gb_Md_isLoose 25 = .ok (.iload_n 2, 1) := by decide +kernel
theorem gd_Md_isLoose_26 : decode gb_Md_isLoose 26 = .ok (.ifCond .eq 16, 3) := by decide +kernel
theorem gd_Md_isLoose_29 : decode gb_Md_isLoose 29 = .ok (.aload_n 0, 1) := by decide +kernel
theorem gd_Md_isLoose_30 : decode gb_Md_isLoose 30 = .ok (.iload_n 3, 1) := by decide +kernel
theorem gd_Md_isLoose_31 : decode gb_Md_isLoose 31 = .ok (.iload_n 1, 1) := by decide +kernel
theorem gd_Md_isLoose_32 : decode gb_Md_isLoose 32 = .ok (.invokevirtual 91, 3) := by decide +kernel
theorem gd_Md_isLoose_35 : decode gb_Md_isLoose 35 = .ok (.ifCond .ne 7, 3) := by decide +kernel
theorem gd_Md_isLoose_38 : decode gb_Md_isLoose 38 = .ok (.iconst 1, 1) := by decide +kernel
theorem gd_Md_isLoose_39 : decode gb_Md_isLoose 39 = .ok (.goto 4, 3) := by decide +kernel
theorem gd_Md_isLoose_42 : decode gb_Md_isLoose 42 = .ok (.iconst 0, 1) := by decide +kernel
theorem gd_Md_isLoose_43 : decode gb_Md_isLoose 43 = .ok (.istore_n 2, 1) := by decide +kernel
theorem gd_Md_isLoose_44 : decode gb_Md_isLoose 44 = .ok (.iinc 3 1, 3) := by decide +kernel
theorem gd_Md_isLoose_47 : decode gb_Md_isLoose 47 = .ok (.goto (-30), 3) := by decide +kernel
theorem gd_Md_isLoose_50 : decode gb_Md_isLoose 50 = .ok (.iload_n 2, 1) := by decide +kernel
theorem gd_Md_isLoose_51 : decode gb_Md_isLoose 51 = .ok (.ireturn, 1) := by decide +kernel
theorem gd_Md_isTerm_0 : decode gb_Md_isTerm 0 = .ok (.iload_n 1, 1) := by decide +kernel
theorem gd_Md_isTerm_1 : decode gb_Md_isTerm 1 = .ok (.iconst 0, 1) := by decide +kernel
theorem gd_Md_isTerm_2 : decode gb_Md_isTerm 2 = .ok (.bipush 99, 2) := by decide +kernel
theorem gd_Md_isTerm_4 : decode gb_Md_isTerm 4 = .ok (.invokestatic 48, 3) := by decide +kernel
theorem gd_Md_isTerm_7 : decode gb_Md_isTerm 7 = .ok (.ifCond .eq 16, 3) := by decide +kernel
theorem gd_Md_isTerm_10 : decode gb_Md_isTerm 10 = .ok (.aload_n 0, 1) := by decide +kernel
theorem gd_Md_isTerm_11 : decode gb_Md_isTerm 11 = .ok (.getfield 13, 3) := by decide +kernel
theorem gd_Md_isTerm_14 : decode gb_Md_isTerm 14 = .ok (.iload_n 1, 1) := by decide +kernel
theorem gd_Md_isTerm_15 : decode gb_Md_isTerm 15 = .ok (.baload, 1) := by decide +kernel
theorem gd_Md_isTerm_16 : decode gb_Md_isTerm 16 = .ok (.ifCond .eq 7, 3) := by decide +kernel
theorem gd_Md_isTerm_19 : decode gb_Md_isTerm 19 = .ok (.iconst 1, 1) := by decide +kernel
theorem gd_Md_isTerm_20 : decode gb_Md_isTerm 20 = .ok (.goto 4, 3) := by decide +kernel
theorem gd_Md_isTerm_23 : decode gb_Md_isTerm 23 = .ok (.iconst 0, 1) := by decide +kernel
theorem gd_Md_isTerm_24 : decode gb_Md_isTerm 24 = .ok (.ireturn, 1) := by decide +kernel
theorem gd_Md_drop_0 : decode gb_Md_drop 0 = .ok (.aload_n 0, 1) := by decide +kernel
theorem gd_Md_drop_1 : decode gb_Md_drop 1 = .ok (.iload_n 1, 1) := by decide +kernel
theorem gd_Md_drop_2 : decode gb_Md_drop 2 = .ok (.invokevirtual 95, 3) := by decide +kernel
theorem gd_Md_drop_5 : decode gb_Md_drop 5 = .ok (.ifCond .eq 12, 3) := by decide +kernel
theorem gd_Md_drop_8 : decode gb_Md_drop 8 = .ok (.aload_n 0, 1) := by decide +kernel
theorem gd_Md_drop_9 : decode gb_Md_drop 9 = .ok (.getfield 20, 3) := by decide +kernel
theorem gd_Md_drop_12 : decode gb_Md_drop 12 = .ok (.iload_n 1, 1) := by decide +kernel
theorem gd_Md_drop_13 : decode gb_Md_drop 13 = .ok (.iaload, 1) := by decide +kernel
theorem gd_Md_drop_14 : decode gb_Md_drop 14 = .ok (.ifCond .ne 5, 3) := by decide +kernel
theorem gd_Md_drop_17 : decode gb_Md_drop 17 = .ok (.iconst (-1), 1) := by decide +kernel
theorem gd_Md_drop_18 : decode gb_Md_drop 18 = .ok (.ireturn, 1) := by decide +kernel
theorem gd_Md_drop_19 : decode gb_Md_drop 19 = .ok (.aload_n 0, 1) := by decide +kernel
theorem gd_Md_drop_20 : decode gb_Md_drop 20 = .ok (.getfield 20, 3) := by decide +kernel
theorem gd_Md_drop_23 : decode gb_Md_drop 23 = .ok (.iload_n 1, 1) := by decide +kernel
theorem gd_Md_drop_24 : decode gb_Md_drop 24 = .ok (.dup2, 1) := by decide +kernel
theorem gd_Md_drop_25 : decode gb_Md_drop 25 = .ok (.iaload, 1) := by decide +kernel
theorem gd_Md_drop_26 : decode gb_Md_drop 26 = .ok (.iconst 1, 1) := by decide +kernel
theorem gd_Md_drop_27 : decode gb_Md_drop 27 = .ok (.isub, 1) := by decide +kernel
theorem gd_Md_drop_28 : decode gb_Md_drop 28 = .ok (.iastore, 1) := by decide +kernel
theorem gd_Md_drop_29 : decode gb_Md_drop 29 = .ok (.aload_n 0, 1) := by decide +kernel
theorem gd_Md_drop_30 : decode gb_Md_drop 30 = .ok (.getfield 20, 3) := by decide +kernel
theorem gd_Md_drop_33 : decode gb_Md_drop 33 = .ok (.iload_n 1, 1) := by decide +kernel
theorem gd_Md_drop_34 : decode gb_Md_drop 34 = .ok (.iaload, 1) := by decide +kernel
theorem gd_Md_drop_35 : decode gb_Md_drop 35 = .ok (.istore_n 2, 1) := by decide +kernel
theorem gd_Md_drop_36 : decode gb_Md_drop 36 = .ok (.aload_n 0, 1) := by decide +kernel
theorem gd_Md_drop_37 : decode gb_Md_drop 37 = .ok (.iload_n 1, 1) := by decide +kernel
theorem gd_Md_drop_38 : decode gb_Md_drop 38 = .ok (.invokevirtual 99, 3) := by decide +kernel
theorem gd_Md_drop_41 : decode gb_Md_drop 41 = .ok (.ifCond .eq 8, 3) := by decide +kernel
theorem gd_Md_drop_44 : decode gb_Md_drop 44 = .ok (.aload_n 0, 1) := by decide +kernel
theorem gd_Md_drop_45 : decode gb_Md_drop 45 = .ok (.iload_n 1, 1) := by decide +kernel
theorem gd_Md_drop_46 : decode gb_Md_drop 46 = .ok (.invokevirtual 102, 3) := by decide +kernel
theorem gd_Md_drop_49 : decode gb_Md_drop 49 = .ok (.iload_n 2, 1) := by decide +kernel
theorem gd_Md_drop_50 : decode gb_Md_drop 50 = .ok (.ireturn, 1) := by decide +kernel
theorem gd_Md_find_0 : decode gb_Md_find 0 = .ok (.iload_n 1, 1) := by decide +kernel
theorem gd_Md_find_1 : decode gb_Md_find 1 = .ok (.iconst 0, 1) := by decide +kernel
theorem gd_Md_find_2 : decode gb_Md_find 2 = .ok (.iconst 3, 1) := by decide +kernel
theorem gd_Md_find_3 : decode gb_Md_find 3 = .ok (.invokestatic 48, 3) := by decide +kernel
theorem gd_Md_find_6 : decode gb_Md_find 6 = .ok (.ifCond .ne 5, 3) := by decide +kernel
theorem gd_Md_find_9 : decode gb_Md_find 9 = .ok (.iconst (-1), 1) := by decide +kernel
theorem gd_Md_find_10 : decode gb_Md_find 10 = .ok (.ireturn, 1) := by decide +kernel
theorem gd_Md_find_11 : decode gb_Md_find 11 = .ok (.aload_n 0, 1) := by decide +kernel
theorem gd_Md_find_12 : decode gb_Md_find 12 = .ok (.iload_n 1, 1) := by decide +kernel
theorem gd_Md_find_13 : decode gb_Md_find 13 = .ok (.invokevirtual 64, 3) := by decide +kernel
theorem gd_Md_find_16 : decode gb_Md_find 16 = .ok (.istore_n 2, 1) := by decide +kernel
theorem gd_Md_find_17 : decode gb_Md_find 17 = .ok (.iload_n 2, 1) := by decide +kernel
theorem gd_Md_find_18 : decode gb_Md_find 18 = .ok (.ifCond .ge 8, 3) := by decide +kernel
theorem gd_Md_find_21 : decode gb_Md_find 21 = .ok (.bipush (-2), 2) := by decide +kernel
theorem gd_Md_find_23 : decode gb_Md_find 23 = .ok (.goto 4, 3) := by decide +kernel
theorem gd_Md_find_26 : decode gb_Md_find 26 = .ok (.iload_n 2, 1) := by decide +kernel
theorem gd_Md_find_27 : decode gb_Md_find 27 = .ok (.ireturn, 1) := by decide +kernel
theorem gd_Md_term_0 : decode gb_Md_term 0 = .ok (.aload_n 0, 1) := by decide +kernel
theorem gd_Md_term_1 : decode gb_Md_term 1 = .ok (.iload_n 1, 1) := by decide +kernel
theorem gd_Md_term_2 : decode gb_Md_term 2 = .ok (.invokevirtual 95, 3) := by decide +kernel
theorem gd_Md_term_5 : decode gb_Md_term 5 = .ok (.ifCond .eq 7, 3) := by decide +kernel
theorem gd_Md_term_8 : decode gb_Md_term 8 = .ok (.iload_n 2, 1) := by decide +kernel
theorem gd_Md_term_9 : decode gb_Md_term 9 = .ok (.ifCond .ge 5, 3) := by decide +kernel
theorem gd_Md_term_12 : decode gb_Md_term 12 = .ok (.iconst (-1), 1) := by decide +kernel
theorem gd_Md_term_13 : decode gb_Md_term 13 = .ok (.ireturn, 1) := by decide +kernel
theorem gd_Md_term_14 : decode gb_Md_term 14 = .ok (.iload_n 2, 1) := by decide +kernel
theorem gd_Md_term_15 : decode gb_Md_term 15 = .ok (.tableswitch 46 0 2 #[25, 32, 39], 25) := by decide +kernel
theorem gd_Md_term_40 : decode gb_Md_term 40 = .ok (.aload_n 0, 1) := by decide +kernel
theorem gd_Md_term_41 : decode gb_Md_term 41 = .ok (.getfield 17, 3) := by decide +kernel
theorem gd_Md_term_44 : decode gb_Md_term 44 = .ok (.iload_n 1, 1) := by decide +kernel
theorem gd_Md_term_45 : decode gb_Md_term 45 = .ok (.iaload, 1) := by decide +kernel
theorem gd_Md_term_46 : decode gb_Md_term 46 = .ok (.ireturn, 1) := by decide +kernel
theorem gd_Md_term_47 : decode gb_Md_term 47 = .ok (.aload_n 0, 1) := by decide +kernel
theorem gd_Md_term_48 : decode gb_Md_term 48 = .ok (.getfield 20, 3) := by decide +kernel
theorem gd_Md_term_51 : decode gb_Md_term 51 = .ok (.iload_n 1, 1) := by decide +kernel
theorem gd_Md_term_52 : decode gb_Md_term 52 = .ok (.iaload, 1) := by decide +kernel
theorem gd_Md_term_53 : decode gb_Md_term 53 = .ok (.ireturn, 1) := by decide +kernel
theorem gd_Md_term_54 : decode gb_Md_term 54 = .ok (.aload_n 0, 1) := by decide +kernel
theorem gd_Md_term_55 : decode gb_Md_term 55 = .ok (.getfield 23, 3) := by decide +kernel
theorem gd_Md_term_58 : decode gb_Md_term 58 = .ok (.iload_n 1, 1) := by decide +kernel
theorem gd_Md_term_59 : decode gb_Md_term 59 = .ok (.iaload, 1) := by decide +kernel
theorem gd_Md_term_60 : decode gb_Md_term 60 = .ok (.ireturn, 1) := by decide +kernel
theorem gd_Md_term_61 : decode gb_Md_term 61 = .ok (.iload_n 2, 1) := by decide +kernel
theorem gd_Md_term_62 : decode gb_Md_term 62 = .ok (.iconst 3, 1) := by decide +kernel
theorem gd_Md_term_63 : decode gb_Md_term 63 = .ok (.isub, 1) := by decide +kernel
theorem gd_Md_term_64 : decode gb_Md_term 64 = .ok (.aload_n 0, 1) := by decide +kernel
theorem gd_Md_term_65 : decode gb_Md_term 65 = .ok (.getfield 23, 3) := by decide +kernel
theorem gd_Md_term_68 : decode gb_Md_term 68 = .ok (.iload_n 1, 1) := by decide +kernel
theorem gd_Md_term_69 : decode gb_Md_term 69 = .ok (.iaload, 1) := by decide +kernel
theorem gd_Md_term_70 : decode gb_Md_term 70 = .ok (.if_icmp .ge 19, 3) := by decide +kernel
theorem gd_Md_term_73 : decode gb_Md_term 73 = .ok (.aload_n 0, 1) := by decide +kernel
theorem gd_Md_term_74 : decode gb_Md_term 74 = .ok (.getfield 26, 3) := by decide +kernel
theorem gd_Md_term_77 : decode gb_Md_term 77 = .ok (.bipush 16, 2) := by decide +kernel
theorem gd_Md_term_79 : decode gb_Md_term 79 = .ok (.iload_n 1, 1) := by decide +kernel
theorem gd_Md_term_80 : decode gb_Md_term 80 = .ok (.imul, 1) := by decide +kernel
theorem gd_Md_term_81 : decode gb_Md_term 81 = .ok (.iload_n 2, 1) := by decide +kernel
theorem gd_Md_term_82 : decode gb_Md_term 82 = .ok (.iadd, 1) := by decide +kernel
theorem gd_Md_term_83 : decode gb_Md_term 83 = .ok (.iconst 3, 1) := by decide +kernel
theorem gd_Md_term_84 : decode gb_Md_term 84 = .ok (.isub, 1) := by decide +kernel
theorem gd_Md_term_85 : decode gb_Md_term 85 = .ok (.iaload, 1) := by decide +kernel
theorem gd_Md_term_86 : decode gb_Md_term 86 = .ok (.goto 4, 3) := by decide +kernel
theorem gd_Md_term_89 : decode gb_Md_term 89 = .ok (.iconst (-1), 1) := by decide +kernel
theorem gd_Md_term_90 : decode gb_Md_term 90 = .ok (.ireturn, 1) := by decide +kernel
theorem gd_Md_at_0 : decode gb_Md_at 0 = .ok (.iload_n 1, 1) := by decide +kernel
theorem gd_Md_at_1 : decode gb_Md_at 1 = .ok (.iconst 0, 1) := by decide +kernel
theorem gd_Md_at_2 : decode gb_Md_at 2 = .ok (.aload_n 0, 1) := by decide +kernel
theorem gd_Md_at_3 : decode gb_Md_at 3 = .ok (.getfield 44, 3) := by decide +kernel
theorem gd_Md_at_6 : decode gb_Md_at 6 = .ok (.iconst 1, 1) := by decide +kernel
theorem gd_Md_at_7 : decode gb_Md_at 7 = .ok (.isub, 1) := by decide +kernel
theorem gd_Md_at_8 : decode gb_Md_at 8 = .ok (.invokestatic 48, 3) := by decide +kernel
theorem gd_Md_at_11 : decode gb_Md_at 11 = .ok (.ifCond .eq 12, 3) := by decide +kernel
theorem gd_Md_at_14 : decode gb_Md_at 14 = .ok (.aload_n 0, 1) := by decide +kernel
theorem gd_Md_at_15 : decode gb_Md_at 15 = .ok (.getfield 29, 3) := by decide +kernel
theorem gd_Md_at_18 : decode gb_Md_at 18 = .ok (.iload_n 1, 1) := by decide +kernel
theorem gd_Md_at_19 : decode gb_Md_at 19 = .ok (.iaload, 1) := by decide +kernel
theorem gd_Md_at_20 : decode gb_Md_at 20 = .ok (.goto 5, 3) := by decide +kernel
theorem gd_Md_at_23 : decode gb_Md_at 23 = .ok (.bipush (-2), 2) := by decide +kernel
theorem gd_Md_at_25 : decode gb_Md_at 25 = .ok (.ireturn, 1) := by decide +kernel
theorem gd_Md_place_0 : decode gb_Md_place 0 = .ok (.aload_n 0, 1) := by decide +kernel
theorem gd_Md_place_1 : decode gb_Md_place 1 = .ok (.iload_n 1, 1) := by decide +kernel
theorem gd_Md_place_2 : decode gb_Md_place 2 = .ok (.invokevirtual 95, 3) := by decide +kernel
theorem gd_Md_place_5 : decode gb_Md_place 5 = .ok (.ifCond .eq 11, 3) := by decide +kernel
theorem gd_Md_place_8 : decode gb_Md_place 8 = .ok (.aload_n 0, 1) := by decide +kernel
theorem gd_Md_place_9 : decode gb_Md_place 9 = .ok (.iload_n 1, 1) := by decide +kernel
theorem gd_Md_place_10 : decode gb_Md_place 10 = .ok (.invokevirtual 81, 3) := by decide +kernel
theorem gd_Md_place_13 : decode gb_Md_place 13 = .ok (.goto 4, 3) := by decide +kernel
theorem gd_Md_place_16 : decode gb_Md_place 16 = .ok (.iconst (-1), 1) := by decide +kernel
theorem gd_Md_place_17 : decode gb_Md_place 17 = .ok (.ireturn, 1) := by decide +kernel
theorem gd_Md_begins_0 : decode gb_Md_begins 0 = .ok (.iload_n 1, 1) := by decide +kernel
theorem gd_Md_begins_1 : decode gb_Md_begins 1 = .ok (.iconst 0, 1) := by decide +kernel
theorem gd_Md_begins_2 : decode gb_Md_begins 2 = .ok (.iconst 3, 1) := by decide +kernel
theorem gd_Md_begins_3 : decode gb_Md_begins 3 = .ok (.invokestatic 48, 3) := by decide +kernel
theorem gd_Md_begins_6 : decode gb_Md_begins 6 = .ok (.ifCond .ne 5, 3) := by decide +kernel
theorem gd_Md_begins_9 : decode gb_Md_begins 9 = .ok (.iconst (-1), 1) := by decide +kernel
theorem gd_Md_begins_10 : decode gb_Md_begins 10 = .ok (.ireturn, 1) := by decide +kernel
theorem gd_Md_begins_11 : decode gb_Md_begins 11 = .ok (.iconst 0, 1) := by decide +kernel
theorem gd_Md_begins_12 : decode gb_Md_begins 12 = .ok (.istore_n 2, 1) := by decide +kernel
theorem gd_Md_begins_13 : decode gb_Md_begins 13 = .ok (.iconst 0, 1) := by decide +kernel
theorem gd_Md_begins_14 : decode gb_Md_begins 14 = .ok (.istore_n 3, 1) := by decide +kernel
theorem gd_Md_begins_15 : decode gb_Md_begins 15 = .ok (.iload_n 3, 1) := by decide +kernel
theorem gd_Md_begins_16 : decode gb_Md_begins 16 = .ok (.aload_n 0, 1) := by decide +kernel
theorem gd_Md_begins_17 : decode gb_Md_begins 17 = .ok (.getfield 44, 3) := by decide +kernel
theorem gd_Md_begins_20 : decode gb_Md_begins 20 = .ok (.if_icmp .ge 115, 3) := by decide +kernel
theorem gd_Md_begins_23 : decode gb_Md_begins 23 = .ok (.aload_n 0, 1) := by decide +kernel
theorem gd_Md_begins_24 : decode gb_Md_begins 24 = .ok (.getfield 29, 3) := by decide +kernel
theorem gd_Md_begins_27 : decode gb_Md_begins 27 = .ok (.iload_n 3, 1) := by decide +kernel
theorem gd_Md_begins_28 : decode gb_Md_begins 28 = .ok (.iaload, 1) := by decide +kernel
theorem gd_Md_begins_29 : decode gb_Md_begins 29 = .ok (.istore 4, 2) := by decide +kernel
theorem gd_Md_begins_31 : decode gb_Md_begins 31 = .ok (.aload_n 0, 1) := by decide +kernel
theorem gd_Md_begins_32 : decode gb_Md_begins 32 = .ok (.getfield 17, 3) := by decide +kernel
theorem gd_Md_begins_35 : decode gb_Md_begins 35 = .ok (.iload 4, 2) := by decide +kernel
theorem gd_Md_begins_37 : decode gb_Md_begins 37 = .ok (.iaload, 1) := by decide +kernel
theorem gd_Md_begins_38 : decode gb_Md_begins 38 = .ok (.iload_n 1, 1) := by decide +kernel
theorem gd_Md_begins_39 : decode gb_Md_begins 39 = .ok (.if_icmp .ne 21, 3) := by decide +kernel
theorem gd_Md_begins_42 : decode gb_Md_begins 42 = .ok (.aload_n 0, 1) := by decide +kernel
theorem gd_Md_begins_43 : decode gb_Md_begins 43 = .ok (.getfield 23, 3) := by decide +kernel
theorem gd_Md_begins_46 : decode gb_Md_begins 46 = .ok (.iload 4, 2) := by decide +kernel
theorem gd_Md_begins_48 : decode gb_Md_begins 48 = .ok (.iaload, 1) := by decide +kernel
theorem gd_Md_begins_49 : decode gb_Md_begins 49 = .ok (.aload_n 0, 1) := by decide +kernel
theorem gd_Md_begins_50 : decode gb_Md_begins 50 = .ok (.getfield 54, 3) := by decide +kernel
theorem gd_Md_begins_53 : decode gb_Md_begins 53 = .ok (.if_icmp .lt 7, 3) := by decide +kernel
theorem gd_Md_begins_56 : decode gb_Md_begins 56 = .ok (.iconst 1, 1) := by decide +kernel
theorem gd_Md_begins_57 : decode gb_Md_begins 57 = .ok (.goto 4, 3) := by decide +kernel
theorem gd_Md_begins_60 : decode gb_Md_begins 60 = .ok (.iconst 0, 1) := by decide +kernel
theorem gd_Md_begins_61 : decode gb_Md_begins 61 = .ok (.istore 5, 2) := by decide +kernel
theorem gd_Md_begins_63 : decode gb_Md_begins 63 = .ok (.iconst 0, 1) := by decide +kernel
theorem gd_Md_begins_64 : decode gb_Md_begins 64 = .ok (.istore 6, 2) := by decide +kernel
theorem gd_Md_begins_66 : decode gb_Md_begins 66 = .ok (.iload 6, 2) := by decide +kernel
theorem gd_Md_begins_68 : decode gb_Md_begins 68 = .ok (.aload_n 0, 1) := by decide +kernel
theorem gd_Md_begins_69 : decode gb_Md_begins 69 = .ok (.getfield 54, 3) := by decide +kernel
theorem gd_Md_begins_72 : decode gb_Md_begins 72 = .ok (.if_icmp .ge 44, 3) := by decide +kernel
theorem gd_Md_begins_75 : decode gb_Md_begins 75 = .ok (.iload 5, 2) := by decide +kernel
theorem gd_Md_begins_77 : decode gb_Md_begins 77 = .ok (.ifCond .eq 39, 3) := by decide +kernel
theorem gd_Md_begins_80 : decode gb_Md_begins 80 = .ok (.aload_n 0, 1) := by decide +kernel
theorem gd_Md_begins_81 : decode gb_Md_begins 81 = .ok (.getfield 26, 3) := by decide +kernel
theorem gd_Md_begins_84 : decode gb_Md_begins 84 = .ok (.bipush 16, 2) := by decide +kernel
theorem gd_Md_begins_86 : decode gb_Md_begins 86 = .ok (.iload 4, 2) := by decide +kernel
theorem gd_Md_begins_88 : decode gb_Md_begins 88 = .ok (.imul, 1) := by decide +kernel
theorem gd_Md_begins_89 : decode gb_Md_begins 89 = .ok (.iload 6, 2) := by decide +kernel
theorem gd_Md_begins_91 : decode gb_Md_begins 91 = .ok (.iadd, 1) := by decide +kernel
theorem gd_Md_begins_92 : decode gb_Md_begins 92 = .ok (.iaload, 1) := by decide +kernel
theorem gd_Md_begins_93 : decode gb_Md_begins 93 = .ok (.aload_n 0, 1) := by decide +kernel
theorem gd_Md_begins_94 : decode gb_Md_begins 94 = .ok (.getfield 7, 3) := by decide +kernel
theorem gd_Md_begins_97 : decode gb_Md_begins 97 = .ok (.iload 6, 2) := by decide +kernel
theorem gd_Md_begins_99 : decode gb_Md_begins 99 = .ok (.iaload, 1) := by decide +kernel
theorem gd_Md_begins_100 : decode gb_Md_begins 100 = .ok (.if_icmp .ne 7, 3) := by decide +kernel
theorem gd_Md_begins_103 : decode gb_Md_begins 103 = .ok (.iconst 1, 1) := by decide +kernel
theorem gd_Md_begins_104 : decode gb_Md_begins 104 = .ok (.goto 4, 3) := by decide +kernel
theorem gd_Md_begins_107 : decode gb_Md_begins 107 = .ok (.iconst 0, 1) := by decide +kernel
theorem gd_Md_begins_108 : decode gb_Md_begins 108 = .ok (.istore 5, 2) := by decide +kernel
theorem gd_Md_begins_110 : decode gb_Md_begins 110 = .ok (.iinc 6 1, 3) := by decide +kernel
theorem gd_Md_begins_113 : decode gb_Md_begins 113 = .ok (.goto (-47), 3) := by decide +kernel
theorem gd_Md_begins_116 : decode gb_Md_begins 116 = .ok (.iload_n 2, 1) := by decide +kernel
theorem gd_Md_begins_117 : decode gb_Md_begins 117 = .ok (.iload 5, 2) := by decide +kernel
theorem gd_Md_begins_119 : decode gb_Md_begins 119 = .ok (.ifCond .eq 7, 3) := by decide +kernel
theorem gd_Md_begins_122 : decode gb_Md_begins 122 = .ok (.iconst 1, 1) := by decide +kernel
theorem gd_Md_begins_123 : decode gb_Md_begins 123 = .ok (.goto 4, 3) := by decide +kernel
theorem gd_Md_begins_126 : decode gb_Md_begins 126 = .ok (.iconst 0, 1) := by decide +kernel
theorem gd_Md_begins_127 : decode gb_Md_begins 127 = .ok (.iadd, 1) := by decide +kernel
theorem gd_Md_begins_128 : decode gb_Md_begins 128 = .ok (.istore_n 2, 1) := by decide +kernel
theorem gd_Md_begins_129 : decode gb_Md_begins 129 = .ok (.iinc 3 1, 3) := by decide +kernel
theorem gd_Md_begins_132 : decode gb_Md_begins 132 = .ok (.goto (-117), 3) := by decide +kernel
theorem gd_Md_begins_135 : decode gb_Md_begins 135 = .ok (.iload_n 2, 1) := by decide +kernel
end
section
theorem gd_Md_begins_136 : decode gb_Md_begins 136 = .ok (.ireturn, 1) := by decide +kernel
theorem gd_Md_from_0 : decode gb_Md_from 0 = .ok (.iload_n 1, 1) := by decide +kernel
theorem gd_Md_from_1 : decode gb_Md_from 1 = .ok (.iconst 0, 1) := by decide +kernel
theorem gd_Md_from_2 : decode gb_Md_from 2 = .ok (.iconst 3, 1) := by decide +kernel
theorem gd_Md_from_3 : decode gb_Md_from 3 = .ok (.invokestatic 48, 3) := by decide +kernel
theorem gd_Md_from_6 : decode gb_Md_from 6 = .ok (.ifCond .eq 11, 3) := by decide +kernel
theorem gd_Md_from_9 : decode gb_Md_from 9 = .ok (.aload_n 0, 1) := by decide +kernel
theorem gd_Md_from_10 : decode gb_Md_from 10 = .ok (.iload_n 1, 1) := by decide +kernel
theorem gd_Md_from_11 : decode gb_Md_from 11 = .ok (.invokevirtual 72, 3) := by decide +kernel
theorem gd_Md_from_14 : decode gb_Md_from 14 = .ok (.goto 4, 3) := by decide +kernel
theorem gd_Md_from_17 : decode gb_Md_from 17 = .ok (.iconst (-1), 1) := by decide +kernel
theorem gd_Md_from_18 : decode gb_Md_from 18 = .ok (.ireturn, 1) := by decide +kernel
theorem gd_Md_version_0 : decode gb_Md_version 0 = .ok (.aload_n 0, 1) := by decide +kernel
theorem gd_Md_version_1 : decode gb_Md_version 1 = .ok (.getfield 88, 3) := by decide +kernel
theorem gd_Md_version_4 : decode gb_Md_version 4 = .ok (.bipush 6, 2) := by decide +kernel
theorem gd_Md_version_6 : decode gb_Md_version 6 = .ok (.if_icmp .ne 6, 3) := by decide +kernel
theorem gd_Md_version_9 : decode gb_Md_version 9 = .ok (.bipush (-3), 2) := by decide +kernel
theorem gd_Md_version_11 : decode gb_Md_version 11 = .ok (.ireturn, 1) := by decide +kernel
theorem gd_Md_version_12 : decode gb_Md_version 12 = .ok (.aload_n 0, 1) := by decide +kernel
theorem gd_Md_version_13 : decode gb_Md_version 13 = .ok (.getfield 35, 3) := by decide +kernel
theorem gd_Md_version_16 : decode gb_Md_version 16 = .ok (.aload_n 0, 1) := by decide +kernel
theorem gd_Md_version_17 : decode gb_Md_version 17 = .ok (.getfield 88, 3) := by decide +kernel
theorem gd_Md_version_20 : decode gb_Md_version 20 = .ok (.aload_n 0, 1) := by decide +kernel
theorem gd_Md_version_21 : decode gb_Md_version 21 = .ok (.getfield 105, 3) := by decide +kernel
theorem gd_Md_version_24 : decode gb_Md_version 24 = .ok (.iastore, 1) := by decide +kernel
theorem gd_Md_version_25 : decode gb_Md_version 25 = .ok (.iconst 0, 1) := by decide +kernel
theorem gd_Md_version_26 : decode gb_Md_version 26 = .ok (.istore_n 1, 1) := by decide +kernel
theorem gd_Md_version_27 : decode gb_Md_version 27 = .ok (.iload_n 1, 1) := by decide +kernel
theorem gd_Md_version_28 : decode gb_Md_version 28 = .ok (.bipush 100, 2) := by decide +kernel
theorem gd_Md_version_30 : decode gb_Md_version 30 = .ok (.if_icmp .ge 46, 3) := by decide +kernel
theorem gd_Md_version_33 : decode gb_Md_version 33 = .ok (.aload_n 0, 1) := by decide +kernel
theorem gd_Md_version_34 : decode gb_Md_version 34 = .ok (.getfield 38, 3) := by decide +kernel
theorem gd_Md_version_37 : decode gb_Md_version 37 = .ok (.bipush 100, 2) := by decide +kernel
theorem gd_Md_version_39 : decode gb_Md_version 39 = .ok (.aload_n 0, 1) := by decide +kernel
theorem gd_Md_version_40 : decode gb_Md_version 40 = .ok (.getfield 88, 3) := by decide +kernel
theorem gd_Md_version_43 : decode gb_Md_version 43 = .ok (.imul, 1) := by decide +kernel
theorem gd_Md_version_44 : decode gb_Md_version 44 = .ok (.iload_n 1, 1) := by decide +kernel
theorem gd_Md_version_45 : decode gb_Md_version 45 = .ok (.iadd, 1) := by decide +kernel
theorem gd_Md_version_46 : decode gb_Md_version 46 = .ok (.aload_n 0, 1) := by decide +kernel
theorem gd_Md_version_47 : decode gb_Md_version 47 = .ok (.getfield 13, 3) := by decide +kernel
theorem gd_Md_version_50 : decode gb_Md_version 50 = .ok (.iload_n 1, 1) := by decide +kernel
theorem gd_Md_version_51 : decode gb_Md_version 51 = .ok (.baload, 1) := by decide +kernel
theorem gd_Md_version_52 : decode gb_Md_version 52 = .ok (.ifCond .eq 16, 3) := by decide +kernel
theorem gd_Md_version_55 : decode gb_Md_version 55 = .ok (.aload_n 0, 1) := by decide +kernel
theorem gd_Md_version_56 : decode gb_Md_version 56 = .ok (.getfield 20, 3) := by decide +kernel
theorem gd_Md_version_59 : decode gb_Md_version 59 = .ok (.iload_n 1, 1) := by decide +kernel
theorem gd_Md_version_60 : decode gb_Md_version 60 = .ok (.iaload, 1) := by decide +kernel
theorem gd_Md_version_61 : decode gb_Md_version 61 = .ok (.ifCond .le 7, 3) := by decide +kernel
theorem gd_Md_version_64 : decode gb_Md_version 64 = .ok (.iconst 1, 1) := by decide +kernel
theorem gd_Md_version_65 : decode gb_Md_version 65 = .ok (.goto 4, 3) := by decide +kernel
theorem gd_Md_version_68 : decode gb_Md_version 68 = .ok (.iconst 0, 1) := by decide +kernel
theorem gd_Md_version_69 : decode gb_Md_version 69 = .ok (.bastore, 1) := by decide +kernel
theorem gd_Md_version_70 : decode gb_Md_version 70 = .ok (.iinc 1 1, 3) := by decide +kernel
theorem gd_Md_version_73 : decode gb_Md_version 73 = .ok (.goto (-46), 3) := by decide +kernel
theorem gd_Md_version_76 : decode gb_Md_version 76 = .ok (.aload_n 0, 1) := by decide +kernel
theorem gd_Md_version_77 : decode gb_Md_version 77 = .ok (.dup, 1) := by decide +kernel
theorem gd_Md_version_78 : decode gb_Md_version 78 = .ok (.getfield 88, 3) := by decide +kernel
theorem gd_Md_version_81 : decode gb_Md_version 81 = .ok (.iconst 1, 1) := by decide +kernel
theorem gd_Md_version_82 : decode gb_Md_version 82 = .ok (.iadd, 1) := by decide +kernel
theorem gd_Md_version_83 : decode gb_Md_version 83 = .ok (.putfield 88, 3) := by decide +kernel
theorem gd_Md_version_86 : decode gb_Md_version 86 = .ok (.aload_n 0, 1) := by decide +kernel
theorem gd_Md_version_87 : decode gb_Md_version 87 = .ok (.dup, 1) := by decide +kernel
theorem gd_Md_version_88 : decode gb_Md_version 88 = .ok (.getfield 105, 3) := by decide +kernel
theorem gd_Md_version_91 : decode gb_Md_version 91 = .ok (.iconst 1, 1) := by decide +kernel
theorem gd_Md_version_92 : decode gb_Md_version 92 = .ok (.iadd, 1) := by decide +kernel
theorem gd_Md_version_93 : decode gb_Md_version 93 = .ok (.putfield 105, 3) := by decide +kernel
theorem gd_Md_version_96 : decode gb_Md_version 96 = .ok (.aload_n 0, 1) := by decide +kernel
theorem gd_Md_version_97 : decode gb_Md_version 97 = .ok (.getfield 105, 3) := by decide +kernel
theorem gd_Md_version_100 : decode gb_Md_version 100 = .ok (.iconst 1, 1) := by decide +kernel
theorem gd_Md_version_101 : decode gb_Md_version 101 = .ok (.isub, 1) := by decide +kernel
theorem gd_Md_version_102 : decode gb_Md_version 102 = .ok (.ireturn, 1) := by decide +kernel
theorem gd_Md_keptAs_0 : decode gb_Md_keptAs 0 = .ok (.iconst (-1), 1) := by decide +kernel
theorem gd_Md_keptAs_1 : decode gb_Md_keptAs 1 = .ok (.istore_n 2, 1) := by decide +kernel
theorem gd_Md_keptAs_2 : decode gb_Md_keptAs 2 = .ok (.iconst 0, 1) := by decide +kernel
theorem gd_Md_keptAs_3 : decode gb_Md_keptAs 3 = .ok (.istore_n 3, 1) := by decide +kernel
theorem gd_Md_keptAs_4 : decode gb_Md_keptAs 4 = .ok (.iload_n 3, 1) := by decide +kernel
theorem gd_Md_keptAs_5 : decode gb_Md_keptAs 5 = .ok (.aload_n 0, 1) := by decide +kernel
theorem gd_Md_keptAs_6 : decode gb_Md_keptAs 6 = .ok (.getfield 88, 3) := by decide +kernel
theorem gd_Md_keptAs_9 : decode gb_Md_keptAs 9 = .ok (.if_icmp .ge 25, 3) := by decide +kernel
theorem gd_Md_keptAs_12 : decode gb_Md_keptAs 12 = .ok (.aload_n 0, 1) := by decide +kernel
theorem gd_Md_keptAs_13 : decode gb_Md_keptAs 13 = .ok (.getfield 35, 3) := by decide +kernel
theorem gd_Md_keptAs_16 : decode gb_Md_keptAs 16 = .ok (.iload_n 3, 1) := by decide +kernel
theorem gd_Md_keptAs_17 : decode gb_Md_keptAs 17 = .ok (.iaload, 1) := by decide +kernel
theorem gd_Md_keptAs_18 : decode gb_Md_keptAs 18 = .ok (.iload_n 1, 1) := by decide +kernel
theorem gd_Md_keptAs_19 : decode gb_Md_keptAs 19 = .ok (.if_icmp .ne 7, 3) := by decide +kernel
theorem gd_Md_keptAs_22 : decode gb_Md_keptAs 22 = .ok (.iload_n 3, 1) := by decide +kernel
theorem gd_Md_keptAs_23 : decode gb_Md_keptAs 23 = .ok (.goto 4, 3) := by decide +kernel
theorem gd_Md_keptAs_26 : decode gb_Md_keptAs 26 = .ok (.iload_n 2, 1) := by decide +kernel
theorem gd_Md_keptAs_27 : decode gb_Md_keptAs 27 = .ok (.istore_n 2, 1) := by decide +kernel
theorem gd_Md_keptAs_28 : decode gb_Md_keptAs 28 = .ok (.iinc 3 1, 3) := by decide +kernel
theorem gd_Md_keptAs_31 : decode gb_Md_keptAs 31 = .ok (.goto (-27), 3) := by decide +kernel
theorem gd_Md_keptAs_34 : decode gb_Md_keptAs 34 = .ok (.iload_n 2, 1) := by decide +kernel
theorem gd_Md_keptAs_35 : decode gb_Md_keptAs 35 = .ok (.ireturn, 1) := by decide +kernel
theorem gd_Md_release_0 : decode gb_Md_release 0 = .ok (.aload_n 0, 1) := by decide +kernel
theorem gd_Md_release_1 : decode gb_Md_release 1 = .ok (.iload_n 1, 1) := by decide +kernel
theorem gd_Md_release_2 : decode gb_Md_release 2 = .ok (.invokevirtual 108, 3) := by decide +kernel
theorem gd_Md_release_5 : decode gb_Md_release 5 = .ok (.istore_n 2, 1) := by decide +kernel
theorem gd_Md_release_6 : decode gb_Md_release 6 = .ok (.iload_n 2, 1) := by decide +kernel
theorem gd_Md_release_7 : decode gb_Md_release 7 = .ok (.ifCond .ge 5, 3) := by decide +kernel
theorem gd_Md_release_10 : decode gb_Md_release 10 = .ok (.iconst (-1), 1) := by decide +kernel
theorem gd_Md_release_11 : decode gb_Md_release 11 = .ok (.ireturn, 1) := by decide +kernel
theorem gd_Md_release_12 : decode gb_Md_release 12 = .ok (.aload_n 0, 1) := by decide +kernel
theorem gd_Md_release_13 : decode gb_Md_release 13 = .ok (.dup, 1) := by decide +kernel
theorem gd_Md_release_14 : decode gb_Md_release 14 = .ok (.getfield 88, 3) := by decide +kernel
theorem gd_Md_release_17 : decode gb_Md_release 17 = .ok (.iconst 1, 1) := by decide +kernel
theorem gd_Md_release_18 : decode gb_Md_release 18 = .ok (.isub, 1) := by decide +kernel
theorem gd_Md_release_19 : decode gb_Md_release 19 = .ok (.putfield 88, 3) := by decide +kernel
theorem gd_Md_release_22 : decode gb_Md_release 22 = .ok (.iload_n 2, 1) := by decide +kernel
theorem gd_Md_release_23 : decode gb_Md_release 23 = .ok (.istore_n 3, 1) := by decide +kernel
theorem gd_Md_release_24 : decode gb_Md_release 24 = .ok (.iload_n 3, 1) := by decide +kernel
theorem gd_Md_release_25 : decode gb_Md_release 25 = .ok (.aload_n 0, 1) := by decide +kernel
theorem gd_Md_release_26 : decode gb_Md_release 26 = .ok (.getfield 88, 3) := by decide +kernel
theorem gd_Md_release_29 : decode gb_Md_release 29 = .ok (.if_icmp .ge 66, 3) := by decide +kernel
theorem gd_Md_release_32 : decode gb_Md_release 32 = .ok (.aload_n 0, 1) := by decide +kernel
theorem gd_Md_release_33 : decode gb_Md_release 33 = .ok (.getfield 35, 3) := by decide +kernel
theorem gd_Md_release_36 : decode gb_Md_release 36 = .ok (.iload_n 3, 1) := by decide +kernel
theorem gd_Md_release_37 : decode gb_Md_release 37 = .ok (.aload_n 0, 1) := by decide +kernel
theorem gd_Md_release_38 : decode gb_Md_release 38 = .ok (.getfield 35, 3) := by decide +kernel
theorem gd_Md_release_41 : decode gb_Md_release 41 = .ok (.iload_n 3, 1) := by decide +kernel
theorem gd_Md_release_42 : decode gb_Md_release 42 = .ok (.iconst 1, 1) := by decide +kernel
theorem gd_Md_release_43 : decode gb_Md_release 43 = .ok (.iadd, 1) := by decide +kernel
theorem gd_Md_release_44 : decode gb_Md_release 44 = .ok (.iaload, 1) := by decide +kernel
theorem gd_Md_release_45 : decode gb_Md_release 45 = .ok (.iastore, 1) := by decide +kernel
theorem gd_Md_release_46 : decode gb_Md_release 46 = .ok (.iconst 0, 1) := by decide +kernel
theorem gd_Md_release_47 : decode gb_Md_release 47 = .ok (.istore 4, 2) := by decide +kernel
theorem gd_Md_release_49 : decode gb_Md_release 49 = .ok (.iload 4, 2) := by decide +kernel
theorem gd_Md_release_51 : decode gb_Md_release 51 = .ok (.bipush 100, 2) := by decide +kernel
theorem gd_Md_release_53 : decode gb_Md_release 53 = .ok (.if_icmp .ge 36, 3) := by decide +kernel
theorem gd_Md_release_56 : decode gb_Md_release 56 = .ok (.aload_n 0, 1) := by decide +kernel
theorem gd_Md_release_57 : decode gb_Md_release 57 = .ok (.getfield 38, 3) := by decide +kernel
theorem gd_Md_release_60 : decode gb_Md_release 60 = .ok (.bipush 100, 2) := by decide +kernel
theorem gd_Md_release_62 : decode gb_Md_release 62 = .ok (.iload_n 3, 1) := by decide +kernel
theorem gd_Md_release_63 : decode gb_Md_release 63 = .ok (.imul, 1) := by decide +kernel
theorem gd_Md_release_64 : decode gb_Md_release 64 = .ok (.iload 4, 2) := by decide +kernel
theorem gd_Md_release_66 : decode gb_Md_release 66 = .ok (.iadd, 1) := by decide +kernel
theorem gd_Md_release_67 : decode gb_Md_release 67 = .ok (.aload_n 0, 1) := by decide +kernel
theorem gd_Md_release_68 : decode gb_Md_release 68 = .ok (.getfield 38, 3) := by decide +kernel
theorem gd_Md_release_71 : decode gb_Md_release 71 = .ok (.bipush 100, 2) := by decide +kernel
theorem gd_Md_release_73 : decode gb_Md_release 73 = .ok (.iload_n 3, 1) := by decide +kernel
theorem gd_Md_release_74 : decode gb_Md_release 74 = .ok (.imul, 1) := by decide +kernel
theorem gd_Md_release_75 : decode gb_Md_release 75 = .ok (.bipush 100, 2) := by decide +kernel
theorem gd_Md_release_77 : decode gb_Md_release 77 = .ok (.iadd, 1) := by decide +kernel
theorem gd_Md_release_78 : decode gb_Md_release 78 = .ok (.iload 4, 2) := by decide +kernel
theorem gd_Md_release_80 : decode gb_Md_release 80 = .ok (.iadd, 1) := by decide +kernel
theorem gd_Md_release_81 : decode gb_Md_release 81 = .ok (.baload, 1) := by decide +kernel
theorem gd_Md_release_82 : decode gb_Md_release 82 = .ok (.bastore, 1) := by decide +kernel
theorem gd_Md_release_83 : decode gb_Md_release 83 = .ok (.iinc 4 1, 3) := by decide +kernel
theorem gd_Md_release_86 : decode gb_Md_release 86 = .ok (.goto (-37), 3) := by decide +kernel
theorem gd_Md_release_89 : decode gb_Md_release 89 = .ok (.iinc 3 1, 3) := by decide +kernel
theorem gd_Md_release_92 : decode gb_Md_release 92 = .ok (.goto (-68), 3) := by decide +kernel
theorem gd_Md_release_95 : decode gb_Md_release 95 = .ok (.iconst 0, 1) := by decide +kernel
theorem gd_Md_release_96 : decode gb_Md_release 96 = .ok (.istore_n 3, 1) := by decide +kernel
theorem gd_Md_release_97 : decode gb_Md_release 97 = .ok (.iconst 0, 1) := by decide +kernel
theorem gd_Md_release_98 : decode gb_Md_release 98 = .ok (.istore 4, 2) := by decide +kernel
theorem gd_Md_release_100 : decode gb_Md_release 100 = .ok (.iload 4, 2) := by decide +kernel
theorem gd_Md_release_102 : decode gb_Md_release 102 = .ok (.aload_n 0, 1) := by decide +kernel
theorem gd_Md_release_103 : decode gb_Md_release 103 = .ok (.getfield 44, 3) := by decide +kernel
theorem gd_Md_release_106 : decode gb_Md_release 106 = .ok (.if_icmp .ge 39, 3) := by decide +kernel
theorem gd_Md_release_109 : decode gb_Md_release 109 = .ok (.aload_n 0, 1) := by decide +kernel
theorem gd_Md_release_110 : decode gb_Md_release 110 = .ok (.aload_n 0, 1) := by decide +kernel
theorem gd_Md_release_111 : decode gb_Md_release 111 = .ok (.getfield 29, 3) := by decide +kernel
theorem gd_Md_release_114 : decode gb_Md_release 114 = .ok (.iload 4, 2) := by decide +kernel
theorem gd_Md_release_116 : decode gb_Md_release 116 = .ok (.iaload, 1) := by decide +kernel
theorem gd_Md_release_117 : decode gb_Md_release 117 = .ok (.invokevirtual 99, 3) := by decide +kernel
theorem gd_Md_release_120 : decode gb_Md_release 120 = .ok (.ifCond .eq 19, 3) := by decide +kernel
theorem gd_Md_release_123 : decode gb_Md_release 123 = .ok (.aload_n 0, 1) := by decide +kernel
theorem gd_Md_release_124 : decode gb_Md_release 124 = .ok (.getfield 41, 3) := by decide +kernel
theorem gd_Md_release_127 : decode gb_Md_release 127 = .ok (.iload_n 3, 1) := by decide +kernel
theorem gd_Md_release_128 : decode gb_Md_release 128 = .ok (.aload_n 0, 1) := by decide +kernel
theorem gd_Md_release_129 : decode gb_Md_release 129 = .ok (.getfield 29, 3) := by decide +kernel
theorem gd_Md_release_132 : decode gb_Md_release 132 = .ok (.iload 4, 2) := by decide +kernel
theorem gd_Md_release_134 : decode gb_Md_release 134 = .ok (.iaload, 1) := by decide +kernel
theorem gd_Md_release_135 : decode gb_Md_release 135 = .ok (.iastore, 1) := by decide +kernel
theorem gd_Md_release_136 : decode gb_Md_release 136 = .ok (.iinc 3 1, 3) := by decide +kernel
theorem gd_Md_release_139 : decode gb_Md_release 139 = .ok (.iinc 4 1, 3) := by decide +kernel
theorem gd_Md_release_142 : decode gb_Md_release 142 = .ok (.goto (-42), 3) := by decide +kernel
theorem gd_Md_release_145 : decode gb_Md_release 145 = .ok (.iconst 0, 1) := by decide +kernel
theorem gd_Md_release_146 : decode gb_Md_release 146 = .ok (.istore 4, 2) := by decide +kernel
theorem gd_Md_release_148 : decode gb_Md_release 148 = .ok (.iload 4, 2) := by decide +kernel
theorem gd_Md_release_150 : decode gb_Md_release 150 = .ok (.iload_n 3, 1) := by decide +kernel
theorem gd_Md_release_151 : decode gb_Md_release 151 = .ok (.if_icmp .ge 20, 3) := by decide +kernel
theorem gd_Md_release_154 : decode gb_Md_release 154 = .ok (.aload_n 0, 1) := by decide +kernel
theorem gd_Md_release_155 : decode gb_Md_release 155 = .ok (.aload_n 0, 1) := by decide +kernel
theorem gd_Md_release_156 : decode gb_Md_release 156 = .ok (.getfield 41, 3) := by decide +kernel
theorem gd_Md_release_159 : decode gb_Md_release 159 = .ok (.iload 4, 2) := by decide +kernel
theorem gd_Md_release_161 : decode gb_Md_release 161 = .ok (.iaload, 1) := by decide +kernel
theorem gd_Md_release_162 : decode gb_Md_release 162 = .ok (.invokevirtual 102, 3) := by decide +kernel
theorem gd_Md_release_165 : decode gb_Md_release 165 = .ok (.iinc 4 1, 3) := by decide +kernel
theorem gd_Md_release_168 : decode gb_Md_release 168 = .ok (.goto (-20), 3) := by decide +kernel
theorem gd_Md_release_171 : decode gb_Md_release 171 = .ok (.iload_n 3, 1) := by decide +kernel
theorem gd_Md_release_172 : decode gb_Md_release 172 = .ok (.ireturn, 1) := by decide +kernel
theorem gd_Md_had_0 : decode gb_Md_had 0 = .ok (.aload_n 0, 1) := by decide +kernel
theorem gd_Md_had_1 : decode gb_Md_had 1 = .ok (.iload_n 1, 1) := by decide +kernel
theorem gd_Md_had_2 : decode gb_Md_had 2 = .ok (.invokevirtual 108, 3) := by decide +kernel
theorem gd_Md_had_5 : decode gb_Md_had 5 = .ok (.istore_n 3, 1) := by decide +kernel
theorem gd_Md_had_6 : decode gb_Md_had 6 = .ok (.iload_n 3, 1) := by decide +kernel
theorem gd_Md_had_7 : decode gb_Md_had 7 = .ok (.ifCond .lt 13, 3) := by decide +kernel
theorem gd_Md_had_10 : decode gb_Md_had 10 = .ok (.iload_n 2, 1) := by decide +kernel
theorem gd_Md_had_11 : decode gb_Md_had 11 = .ok (.iconst (-1), 1) := by decide +kernel
theorem gd_Md_had_12 : decode gb_Md_had 12 = .ok (.bipush 99, 2) := by decide +kernel
theorem gd_Md_had_14 : decode gb_Md_had 14 = .ok (.invokestatic 48, 3) := by decide +kernel
theorem gd_Md_had_17 : decode gb_Md_had 17 = .ok (.ifCond .ne 5, 3) := by decide +kernel
theorem gd_Md_had_20 : decode gb_Md_had 20 = .ok (.iconst (-1), 1) := by decide +kernel
theorem gd_Md_had_21 : decode gb_Md_had 21 = .ok (.ireturn, 1) := by decide +kernel
theorem gd_Md_had_22 : decode gb_Md_had 22 = .ok (.iload_n 2, 1) := by decide +kernel
theorem gd_Md_had_23 : decode gb_Md_had 23 = .ok (.ifCond .lt 18, 3) := by decide +kernel
theorem gd_Md_had_26 : decode gb_Md_had 26 = .ok (.aload_n 0, 1) := by decide +kernel
theorem gd_Md_had_27 : decode gb_Md_had 27 = .ok (.iload_n 3, 1) := by decide +kernel
theorem gd_Md_had_28 : decode gb_Md_had 28 = .ok (.iload_n 2, 1) := by decide +kernel
theorem gd_Md_had_29 : decode gb_Md_had 29 = .ok (.invokevirtual 91, 3) := by decide +kernel
theorem gd_Md_had_32 : decode gb_Md_had 32 = .ok (.ifCond .eq 7, 3) := by decide +kernel
theorem gd_Md_had_35 : decode gb_Md_had 35 = .ok (.iconst 1, 1) := by decide +kernel
theorem gd_Md_had_36 : decode gb_Md_had 36 = .ok (.goto 4, 3) := by decide +kernel
theorem gd_Md_had_39 : decode gb_Md_had 39 = .ok (.iconst 0, 1) := by decide +kernel
theorem gd_Md_had_40 : decode gb_Md_had 40 = .ok (.ireturn, 1) := by decide +kernel
theorem gd_Md_had_41 : decode gb_Md_had 41 = .ok (.iconst 0, 1) := by decide +kernel
theorem gd_Md_had_42 : decode gb_Md_had 42 = .ok (.istore 4, 2) := by decide +kernel
theorem gd_Md_had_44 : decode gb_Md_had 44 = .ok (.iconst 0, 1) := by decide +kernel
theorem gd_Md_had_45 : decode gb_Md_had 45 = .ok (.istore 5, 2) := by decide +kernel
theorem gd_Md_had_47 : decode gb_Md_had 47 = .ok (.iload 5, 2) := by decide +kernel
theorem gd_Md_had_49 : decode gb_Md_had 49 = .ok (.bipush 100, 2) := by decide +kernel
theorem gd_Md_had_51 : decode gb_Md_had 51 = .ok (.if_icmp .ge 29, 3) := by decide +kernel
theorem gd_Md_had_54 : decode gb_Md_had 54 = .ok (.iload 4, 2) := by decide +kernel
theorem gd_Md_had_56 : decode gb_Md_had 56 = .ok (.aload_n 0, 1) := by decide +kernel
theorem gd_Md_had_57 : decode gb_Md_had 57 = .ok (.iload_n 3, 1) := by decide +kernel
theorem gd_Md_had_58 : decode gb_Md_had 58 = .ok (.iload 5, 2) := by decide +kernel
theorem gd_Md_had_60 : decode gb_Md_had 60 = .ok (.invokevirtual 91, 3) := by decide +kernel
theorem gd_Md_had_63 : decode gb_Md_had 63 = .ok (.ifCond .eq 7, 3) := by decide +kernel
theorem gd_Md_had_66 : decode gb_Md_had 66 = .ok (.iconst 1, 1) := by decide +kernel
theorem gd_Md_had_67 : decode gb_Md_had 67 = .ok (.goto 4, 3) := by decide +kernel
theorem gd_Md_had_70 : decode gb_Md_had 70 = .ok (.iconst 0, 1) := by decide +kernel
theorem gd_Md_had_71 : decode gb_Md_had 71 = .ok (.iadd, 1) := by decide +kernel
theorem gd_Md_had_72 : decode gb_Md_had 72 = .ok (.istore 4, 2) := by decide +kernel
theorem gd_Md_had_74 : decode gb_Md_had 74 = .ok (.iinc 5 1, 3) := by decide +kernel
theorem gd_Md_had_77 : decode gb_Md_had 77 = .ok (.goto (-30), 3) := by decide +kernel
theorem gd_Md_had_80 : decode gb_Md_had 80 = .ok (.iload 4, 2) := by decide +kernel
theorem gd_Md_had_82 : decode gb_Md_had 82 = .ok (.ireturn, 1) := by decide +kernel
theorem gd_Md_shared_0 : decode gb_Md_shared 0 = .ok (.aload_n 0, 1) := by decide +kernel
theorem gd_Md_shared_1 : decode gb_Md_shared 1 = .ok (.iload_n 1, 1) := by decide +kernel
theorem gd_Md_shared_2 : decode gb_Md_shared 2 = .ok (.invokevirtual 78, 3) := by decide +kernel
theorem gd_Md_shared_5 : decode gb_Md_shared 5 = .ok (.istore_n 2, 1) := by decide +kernel
theorem gd_Md_shared_6 : decode gb_Md_shared 6 = .ok (.aload_n 0, 1) := by decide +kernel
theorem gd_Md_shared_7 : decode gb_Md_shared 7 = .ok (.getfield 29, 3) := by decide +kernel
theorem gd_Md_shared_10 : decode gb_Md_shared 10 = .ok (.iload_n 2, 1) := by decide +kernel
theorem gd_Md_shared_11 : decode gb_Md_shared 11 = .ok (.iaload, 1) := by decide +kernel
theorem gd_Md_shared_12 : decode gb_Md_shared 12 = .ok (.istore_n 3, 1) := by decide +kernel
theorem gd_Md_shared_13 : decode gb_Md_shared 13 = .ok (.aload_n 0, 1) := by decide +kernel
theorem gd_Md_shared_14 : decode gb_Md_shared 14 = .ok (.getfield 23, 3) := by decide +kernel
theorem gd_Md_shared_17 : decode gb_Md_shared 17 = .ok (.iload_n 3, 1) := by decide +kernel
theorem gd_Md_shared_18 : decode gb_Md_shared 18 = .ok (.iaload, 1) := by decide +kernel
theorem gd_Md_shared_19 : decode gb_Md_shared 19 = .ok (.istore 4, 2) := by decide +kernel
theorem gd_Md_shared_21 : decode gb_Md_shared 21 = .ok (.iload_n 2, 1) := by decide +kernel
theorem gd_Md_shared_22 : decode gb_Md_shared 22 = .ok (.iconst 1, 1) := by decide +kernel
theorem gd_Md_shared_23 : decode gb_Md_shared 23 = .ok (.iadd, 1) := by decide +kernel
theorem gd_Md_shared_24 : decode gb_Md_shared 24 = .ok (.istore 5, 2) := by decide +kernel
theorem gd_Md_shared_26 : decode gb_Md_shared 26 = .ok (.iload 5, 2) := by decide +kernel
theorem gd_Md_shared_28 : decode gb_Md_shared 28 = .ok (.iload_n 2, 1) := by decide +kernel
theorem gd_Md_shared_29 : decode gb_Md_shared 29 = .ok (.aload_n 0, 1) := by decide +kernel
theorem gd_Md_shared_30 : decode gb_Md_shared 30 = .ok (.getfield 32, 3) := by decide +kernel
theorem gd_Md_shared_33 : decode gb_Md_shared 33 = .ok (.iload_n 1, 1) := by decide +kernel
theorem gd_Md_shared_34 : decode gb_Md_shared 34 = .ok (.iaload, 1) := by decide +kernel
theorem gd_Md_shared_35 : decode gb_Md_shared 35 = .ok (.iadd, 1) := by decide +kernel
theorem gd_Md_shared_36 : decode gb_Md_shared 36 = .ok (.if_icmp .ge 98, 3) := by decide +kernel
theorem gd_Md_shared_39 : decode gb_Md_shared 39 = .ok (.aload_n 0, 1) := by decide +kernel
theorem gd_Md_shared_40 : decode gb_Md_shared 40 = .ok (.getfield 29, 3) := by decide +kernel
theorem gd_Md_shared_43 : decode gb_Md_shared 43 = .ok (.iload 5, 2) := by decide +kernel
theorem gd_Md_shared_45 : decode gb_Md_shared 45 = .ok (.iaload, 1) := by decide +kernel
theorem gd_Md_shared_46 : decode gb_Md_shared 46 = .ok (.istore 6, 2) := by decide +kernel
theorem gd_Md_shared_48 : decode gb_Md_shared 48 = .ok (.iconst 0, 1) := by decide +kernel
theorem gd_Md_shared_49 : decode gb_Md_shared 49 = .ok (.istore 7, 2) := by decide +kernel
theorem gd_Md_shared_51 : decode gb_Md_shared 51 = .ok (.iload 7, 2) := by decide +kernel
theorem gd_Md_shared_53 : decode gb_Md_shared 53 = .ok (.iload 4, 2) := by decide +kernel
theorem gd_Md_shared_55 : decode gb_Md_shared 55 = .ok (.if_icmp .ge 49, 3) := by decide +kernel
theorem gd_Md_shared_58 : decode gb_Md_shared 58 = .ok (.iload 7, 2) := by decide +kernel
theorem gd_Md_shared_60 : decode gb_Md_shared 60 = .ok (.aload_n 0, 1) := by decide +kernel
theorem gd_Md_shared_61 : decode gb_Md_shared 61 = .ok (.getfield 23, 3) := by decide +kernel
theorem gd_Md_shared_64 : decode gb_Md_shared 64 = .ok (.iload 6, 2) := by decide +kernel
theorem gd_Md_shared_66 : decode gb_Md_shared 66 = .ok (.iaload, 1) := by decide +kernel
theorem gd_Md_shared_67 : decode gb_Md_shared 67 = .ok (.if_icmp .ge 37, 3) := by decide +kernel
theorem gd_Md_shared_70 : decode gb_Md_shared 70 = .ok (.aload_n 0, 1) := by decide +kernel
theorem gd_Md_shared_71 : decode gb_Md_shared 71 = .ok (.getfield 26, 3) := by decide +kernel
theorem gd_Md_shared_74 : decode gb_Md_shared 74 = .ok (.bipush 16, 2) := by decide +kernel
theorem gd_Md_shared_76 : decode gb_Md_shared 76 = .ok (.iload 6, 2) := by decide +kernel
theorem gd_Md_shared_78 : decode gb_Md_shared 78 = .ok (.imul, 1) := by decide +kernel
theorem gd_Md_shared_79 : decode gb_Md_shared 79 = .ok (.iload 7, 2) := by decide +kernel
theorem gd_Md_shared_81 : decode gb_Md_shared 81 = .ok (.iadd, 1) := by decide +kernel
theorem gd_Md_shared_82 : decode gb_Md_shared 82 = .ok (.iaload, 1) := by decide +kernel
theorem gd_Md_shared_83 : decode gb_Md_shared 83 = .ok (.aload_n 0, 1) := by decide +kernel
theorem gd_Md_shared_84 : decode gb_Md_shared 84 = .ok (.getfield 26, 3) := by decide +kernel
theorem gd_Md_shared_87 : decode gb_Md_shared 87 = .ok (.bipush 16, 2) := by decide +kernel
theorem gd_Md_shared_89 : decode gb_Md_shared 89 = .ok (.iload_n 3, 1) := by decide +kernel
theorem gd_Md_shared_90 : decode gb_Md_shared 90 = .ok (.imul, 1) := by decide +kernel
theorem gd_Md_shared_91 : decode gb_Md_shared 91 = .ok (.iload 7, 2) := by decide +kernel
theorem gd_Md_shared_93 : decode gb_Md_shared 93 = .ok (.iadd, 1) := by decide +kernel
theorem gd_Md_shared_94 : decode gb_Md_shared 94 = .ok (.iaload, 1) := by decide +kernel
theorem gd_Md_shared_95 : decode gb_Md_shared 95 = .ok (.if_icmp .ne 9, 3) := by decide +kernel
theorem gd_Md_shared_98 : decode gb_Md_shared 98 = .ok (.iinc 7 1, 3) := by decide +kernel
theorem gd_Md_shared_101 : decode gb_Md_shared 101 = .ok (.goto (-50), 3) := by decide +kernel
theorem gd_Md_shared_104 : decode gb_Md_shared 104 = .ok (.aload_n 0, 1) := by decide +kernel
theorem gd_Md_shared_105 : decode gb_Md_shared 105 = .ok (.getfield 17, 3) := by decide +kernel
theorem gd_Md_shared_108 : decode gb_Md_shared 108 = .ok (.iload 6, 2) := by decide +kernel
theorem gd_Md_shared_110 : decode gb_Md_shared 110 = .ok (.iaload, 1) := by decide +kernel
theorem gd_Md_shared_111 : decode gb_Md_shared 111 = .ok (.aload_n 0, 1) := by decide +kernel
theorem gd_Md_shared_112 : decode gb_Md_shared 112 = .ok (.getfield 17, 3) := by decide +kernel
theorem gd_Md_shared_115 : decode gb_Md_shared 115 = .ok (.iload_n 3, 1) := by decide +kernel
theorem gd_Md_shared_116 : decode gb_Md_shared 116 = .ok (.iaload, 1) := by decide +kernel
theorem gd_Md_shared_117 : decode gb_Md_shared 117 = .ok (.if_icmp .ne 8, 3) := by decide +kernel
theorem gd_Md_shared_120 : decode gb_Md_shared 120 = .ok (.iload 7, 2) := by decide +kernel
theorem gd_Md_shared_122 : decode gb_Md_shared 122 = .ok (.goto 4, 3) := by decide +kernel
theorem gd_Md_shared_125 : decode gb_Md_shared 125 = .ok (.iconst 0, 1) := by decide +kernel
theorem gd_Md_shared_126 : decode gb_Md_shared 126 = .ok (.istore 4, 2) := by decide +kernel
theorem gd_Md_shared_128 : decode gb_Md_shared 128 = .ok (.iinc 5 1, 3) := by decide +kernel
theorem gd_Md_shared_131 : decode gb_Md_shared 131 = .ok (.goto (-105), 3) := by decide +kernel
theorem gd_Md_shared_134 : decode gb_Md_shared 134 = .ok (.iload 4, 2) := by decide +kernel
theorem gd_Md_shared_136 : decode gb_Md_shared 136 = .ok (.ireturn, 1) := by decide +kernel
theorem gd_Md_cost_0 : decode gb_Md_cost 0 = .ok (.aload_n 0, 1) := by decide +kernel
theorem gd_Md_cost_1 : decode gb_Md_cost 1 = .ok (.iload_n 1, 1) := by decide +kernel
theorem gd_Md_cost_2 : decode gb_Md_cost 2 = .ok (.invokevirtual 111, 3) := by decide +kernel
theorem gd_Md_cost_5 : decode gb_Md_cost 5 = .ok (.istore_n 2, 1) := by decide +kernel
theorem gd_Md_cost_6 : decode gb_Md_cost 6 = .ok (.iload_n 2, 1) := by decide +kernel
theorem gd_Md_cost_7 : decode gb_Md_cost 7 = .ok (.istore_n 3, 1) := by decide +kernel
theorem gd_Md_cost_8 : decode gb_Md_cost 8 = .ok (.aload_n 0, 1) := by decide +kernel
theorem gd_Md_cost_9 : decode gb_Md_cost 9 = .ok (.iload_n 1, 1) := by decide +kernel
theorem gd_Md_cost_10 : decode gb_Md_cost 10 = .ok (.invokevirtual 78, 3) := by decide +kernel
theorem gd_Md_cost_13 : decode gb_Md_cost 13 = .ok (.istore 4, 2) := by decide +kernel
theorem gd_Md_cost_15 : decode gb_Md_cost 15 = .ok (.iload 4, 2) := by decide +kernel
theorem gd_Md_cost_17 : decode gb_Md_cost 17 = .ok (.aload_n 0, 1) := by decide +kernel
theorem gd_Md_cost_18 : decode gb_Md_cost 18 = .ok (.iload_n 1, 1) := by decide +kernel
theorem gd_Md_cost_19 : decode gb_Md_cost 19 = .ok (.invokevirtual 78, 3) := by decide +kernel
theorem gd_Md_cost_22 : decode gb_Md_cost 22 = .ok (.aload_n 0, 1) := by decide +kernel
theorem gd_Md_cost_23 : decode gb_Md_cost 23 = .ok (.getfield 32, 3) := by decide +kernel
theorem gd_Md_cost_26 : decode gb_Md_cost 26 = .ok (.iload_n 1, 1) := by decide +kernel
theorem gd_Md_cost_27 : decode gb_Md_cost 27 = .ok (.iaload, 1) := by decide +kernel
theorem gd_Md_cost_28 : decode gb_Md_cost 28 = .ok (.iadd, 1) := by decide +kernel
theorem gd_Md_cost_29 : decode gb_Md_cost 29 = .ok (.if_icmp .ge 26, 3) := by decide +kernel
theorem gd_Md_cost_32 : decode gb_Md_cost 32 = .ok (.iload_n 3, 1) := by decide +kernel
theorem gd_Md_cost_33 : decode gb_Md_cost 33 = .ok (.aload_n 0, 1) := by decide +kernel
theorem gd_Md_cost_34 : decode gb_Md_cost 34 = .ok (.getfield 23, 3) := by decide +kernel
theorem gd_Md_cost_37 : decode gb_Md_cost 37 = .ok (.aload_n 0, 1) := by decide +kernel
theorem gd_Md_cost_38 : decode gb_Md_cost 38 = .ok (.getfield 29, 3) := by decide +kernel
theorem gd_Md_cost_41 : decode gb_Md_cost 41 = .ok (.iload 4, 2) := by decide +kernel
theorem gd_Md_cost_43 : decode gb_Md_cost 43 = .ok (.iaload, 1) := by decide +kernel
theorem gd_Md_cost_44 : decode gb_Md_cost 44 = .ok (.iaload, 1) := by decide +kernel
theorem gd_Md_cost_45 : decode gb_Md_cost 45 = .ok (.iload_n 2, 1) := by decide +kernel
theorem gd_Md_cost_46 : decode gb_Md_cost 46 = .ok (.isub, 1) := by decide +kernel
theorem gd_Md_cost_47 : decode gb_Md_cost 47 = .ok (.iadd, 1) := by decide +kernel
theorem gd_Md_cost_48 : decode gb_Md_cost 48 = .ok (.istore_n 3, 1) := by decide +kernel
theorem gd_Md_cost_49 : decode gb_Md_cost 49 = .ok (.iinc 4 1, 3) := by decide +kernel
theorem gd_Md_cost_52 : decode gb_Md_cost 52 = .ok (.goto (-37), 3) := by decide +kernel
theorem gd_Md_cost_55 : decode gb_Md_cost 55 = .ok (.iload_n 3, 1) := by decide +kernel
theorem gd_Md_cost_56 : decode gb_Md_cost 56 = .ok (.ireturn, 1) := by decide +kernel
theorem gd_Md_leaf_0 : decode gb_Md_leaf 0 = .ok (.iload_n 1, 1) := by decide +kernel
theorem gd_Md_leaf_1 : decode gb_Md_leaf 1 = .ok (.iconst 0, 1) := by decide +kernel
theorem gd_Md_leaf_2 : decode gb_Md_leaf 2 = .ok (.aload_n 0, 1) := by decide +kernel
theorem gd_Md_leaf_3 : decode gb_Md_leaf 3 = .ok (.getfield 61, 3) := by decide +kernel
theorem gd_Md_leaf_6 : decode gb_Md_leaf 6 = .ok (.iconst 1, 1) := by decide +kernel
theorem gd_Md_leaf_7 : decode gb_Md_leaf 7 = .ok (.isub, 1) := by decide +kernel
theorem gd_Md_leaf_8 : decode gb_Md_leaf 8 = .ok (.invokestatic 48, 3) := by decide +kernel
theorem gd_Md_leaf_11 : decode gb_Md_leaf 11 = .ok (.ifCond .ne 5, 3) := by decide +kernel
theorem gd_Md_leaf_14 : decode gb_Md_leaf 14 = .ok (.iconst (-1), 1) := by decide +kernel
theorem gd_Md_leaf_15 : decode gb_Md_leaf 15 = .ok (.ireturn, 1) := by decide +kernel
theorem gd_Md_leaf_16 : decode gb_Md_leaf 16 = .ok (.iload_n 2, 1) := by decide +kernel
theorem gd_Md_leaf_17 : decode gb_Md_leaf 17 = .ok (.tableswitch 61 0 3 #[31, 38, 44, 50], 31) := by decide +kernel
theorem gd_Md_leaf_48 : decode gb_Md_leaf 48 = .ok (.aload_n 0, 1) := by decide +kernel
theorem gd_Md_leaf_49 : decode gb_Md_leaf 49 = .ok (.getfield 32, 3) := by decide +kernel
theorem gd_Md_leaf_52 : decode gb_Md_leaf 52 = .ok (.iload_n 1, 1) := by decide +kernel
theorem gd_Md_leaf_53 : decode gb_Md_leaf 53 = .ok (.iaload, 1) := by decide +kernel
theorem gd_Md_leaf_54 : decode gb_Md_leaf 54 = .ok (.ireturn, 1) := by decide +kernel
theorem gd_Md_leaf_55 : decode gb_Md_leaf 55 = .ok (.aload_n 0, 1) := by decide +kernel
theorem gd_Md_leaf_56 : decode gb_Md_leaf 56 = .ok (.iload_n 1, 1) := by decide +kernel
theorem gd_Md_leaf_57 : decode gb_Md_leaf 57 = .ok (.invokevirtual 111, 3) := by decide +kernel
theorem gd_Md_leaf_60 : decode gb_Md_leaf 60 = .ok (.ireturn, 1) := by decide +kernel
theorem gd_Md_leaf_61 : decode gb_Md_leaf 61 = .ok (.aload_n 0, 1) := by decide +kernel
theorem gd_Md_leaf_62 : decode gb_Md_leaf 62 = .ok (.iload_n 1, 1) := by decide +kernel
theorem gd_Md_leaf_63 : decode gb_Md_leaf 63 = .ok (.invokevirtual 114, 3) := by decide +kernel
theorem gd_Md_leaf_66 : decode gb_Md_leaf 66 = .ok (.ireturn, 1) := by decide +kernel
theorem gd_Md_leaf_67 : decode gb_Md_leaf 67 = .ok (.aload_n 0, 1) := by decide +kernel
theorem gd_Md_leaf_68 : decode gb_Md_leaf 68 = .ok (.getfield 29, 3) := by decide +kernel
theorem gd_Md_leaf_71 : decode gb_Md_leaf 71 = .ok (.aload_n 0, 1) := by decide +kernel
theorem gd_Md_leaf_72 : decode gb_Md_leaf 72 = .ok (.iload_n 1, 1) := by decide +kernel
theorem gd_Md_leaf_73 : decode gb_Md_leaf 73 = .ok (.invokevirtual 78, 3) := by decide +kernel
theorem gd_Md_leaf_76 : decode gb_Md_leaf 76 = .ok (.iaload, 1) := by decide +kernel
theorem gd_Md_leaf_77 : decode gb_Md_leaf 77 = .ok (.ireturn, 1) := by decide +kernel
theorem gd_Md_leaf_78 : decode gb_Md_leaf 78 = .ok (.iconst (-1), 1) := by decide +kernel
theorem gd_Md_leaf_79 : decode gb_Md_leaf 79 = .ok (.ireturn, 1) := by decide +kernel
theorem gd_Md_count_0 : decode gb_Md_count 0 = .ok (.iconst 0, 1) := by decide +kernel
theorem gd_Md_count_1 : decode gb_Md_count 1 = .ok (.istore_n 2, 1) := by decide +kernel
theorem gd_Md_count_2 : decode gb_Md_count 2 = .ok (.iload_n 1, 1) := by decide +kernel
theorem gd_Md_count_3 : decode gb_Md_count 3 = .ok (.tableswitch 132 0 6 #[41, 46, 51, 56, 61, 101, 106], 41) := by decide +kernel
theorem gd_Md_count_44 : decode gb_Md_count 44 = .ok (.aload_n 0, 1) := by decide +kernel
theorem gd_Md_count_45 : decode gb_Md_count 45 = .ok (.getfield 44, 3) := by decide +kernel
theorem gd_Md_count_48 : decode gb_Md_count 48 = .ok (.ireturn, 1) := by decide +kernel
theorem gd_Md_count_49 : decode gb_Md_count 49 = .ok (.aload_n 0, 1) := by decide +kernel
theorem gd_Md_count_50 : decode gb_Md_count 50 = .ok (.getfield 61, 3) := by decide +kernel
theorem gd_Md_count_53 : decode gb_Md_count 53 = .ok (.ireturn, 1) := by decide +kernel
theorem gd_Md_count_54 : decode gb_Md_count 54 = .ok (.aload_n 0, 1) := by decide +kernel
theorem gd_Md_count_55 : decode gb_Md_count 55 = .ok (.getfield 105, 3) := by decide +kernel
theorem gd_Md_count_58 : decode gb_Md_count 58 = .ok (.ireturn, 1) := by decide +kernel
theorem gd_Md_count_59 : decode gb_Md_count 59 = .ok (.aload_n 0, 1) := by decide +kernel
theorem gd_Md_count_60 : decode gb_Md_count 60 = .ok (.getfield 88, 3) := by decide +kernel
theorem gd_Md_count_63 : decode gb_Md_count 63 = .ok (.ireturn, 1) := by decide +kernel
theorem gd_Md_count_64 : decode gb_Md_count 64 = .ok (.iconst 0, 1) := by decide +kernel
theorem gd_Md_count_65 : decode gb_Md_count 65 = .ok (.istore_n 3, 1) := by decide +kernel
theorem gd_Md_count_66 : decode gb_Md_count 66 = .ok (.iload_n 3, 1) := by decide +kernel
theorem gd_Md_count_67 : decode gb_Md_count 67 = .ok (.aload_n 0, 1) := by decide +kernel
theorem gd_Md_count_68 : decode gb_Md_count 68 = .ok (.getfield 44, 3) := by decide +kernel
theorem gd_Md_count_71 : decode gb_Md_count 71 = .ok (.if_icmp .ge 31, 3) := by decide +kernel
theorem gd_Md_count_74 : decode gb_Md_count 74 = .ok (.iload_n 2, 1) := by decide +kernel
theorem gd_Md_count_75 : decode gb_Md_count 75 = .ok (.aload_n 0, 1) := by decide +kernel
theorem gd_Md_count_76 : decode gb_Md_count 76 = .ok (.getfield 20, 3) := by decide +kernel
theorem gd_Md_count_79 : decode gb_Md_count 79 = .ok (.aload_n 0, 1) := by decide +kernel
theorem gd_Md_count_80 : decode gb_Md_count 80 = .ok (.getfield 29, 3) := by decide +kernel
theorem gd_Md_count_83 : decode gb_Md_count 83 = .ok (.iload_n 3, 1) := by decide +kernel
theorem gd_Md_count_84 : decode gb_Md_count 84 = .ok (.iaload, 1) := by decide +kernel
theorem gd_Md_count_85 : decode gb_Md_count 85 = .ok (.iaload, 1) := by decide +kernel
theorem gd_Md_count_86 : decode gb_Md_count 86 = .ok (.ifCond .ne 7, 3) := by decide +kernel
theorem gd_Md_count_89 : decode gb_Md_count 89 = .ok (.iconst 1, 1) := by decide +kernel
theorem gd_Md_count_90 : decode gb_Md_count 90 = .ok (.goto 4, 3) := by decide +kernel
theorem gd_Md_count_93 : decode gb_Md_count 93 = .ok (.iconst 0, 1) := by decide +kernel
theorem gd_Md_count_94 : decode gb_Md_count 94 = .ok (.iadd, 1) := by decide +kernel
theorem gd_Md_count_95 : decode gb_Md_count 95 = .ok (.istore_n 2, 1) := by decide +kernel
theorem gd_Md_count_96 : decode gb_Md_count 96 = .ok (.iinc 3 1, 3) := by decide +kernel
theorem gd_Md_count_99 : decode gb_Md_count 99 = .ok (.goto (-33), 3) := by decide +kernel
theorem gd_Md_count_102 : decode gb_Md_count 102 = .ok (.iload_n 2, 1) := by decide +kernel
theorem gd_Md_count_103 : decode gb_Md_count 103 = .ok (.ireturn, 1) := by decide +kernel
theorem gd_Md_count_104 : decode gb_Md_count 104 = .ok (.aload_n 0, 1) := by decide +kernel
theorem gd_Md_count_105 : decode gb_Md_count 105 = .ok (.getfield 54, 3) := by decide +kernel
theorem gd_Md_count_108 : decode gb_Md_count 108 = .ok (.ireturn, 1) := by decide +kernel
theorem gd_Md_count_109 : decode gb_Md_count 109 = .ok (.iconst 0, 1) := by decide +kernel
theorem gd_Md_count_110 : decode gb_Md_count 110 = .ok (.istore_n 3, 1) := by decide +kernel
theorem gd_Md_count_111 : decode gb_Md_count 111 = .ok (.iload_n 3, 1) := by decide +kernel
theorem gd_Md_count_112 : decode gb_Md_count 112 = .ok (.aload_n 0, 1) := by decide +kernel
theorem gd_Md_count_113 : decode gb_Md_count 113 = .ok (.getfield 61, 3) := by decide +kernel
theorem gd_Md_count_116 : decode gb_Md_count 116 = .ok (.if_icmp .ge 17, 3) := by decide +kernel
theorem gd_Md_count_119 : decode gb_Md_count 119 = .ok (.iload_n 2, 1) := by decide +kernel
theorem gd_Md_count_120 : decode gb_Md_count 120 = .ok (.aload_n 0, 1) := by decide +kernel
theorem gd_Md_count_121 : decode gb_Md_count 121 = .ok (.iload_n 3, 1) := by decide +kernel
theorem gd_Md_count_122 : decode gb_Md_count 122 = .ok (.invokevirtual 114, 3) := by decide +kernel
theorem gd_Md_count_125 : decode gb_Md_count 125 = .ok (.iadd, 1) := by decide +kernel
theorem gd_Md_count_126 : decode gb_Md_count 126 = .ok (.istore_n 2, 1) := by decide +kernel
theorem gd_Md_count_127 : decode gb_Md_count 127 = .ok (.iinc 3 1, 3) := by decide +kernel
theorem gd_Md_count_130 : decode gb_Md_count 130 = .ok (.goto (-19), 3) := by decide +kernel
theorem gd_Md_count_133 : decode gb_Md_count 133 = .ok (.iload_n 2, 1) := by decide +kernel
theorem gd_Md_count_134 : decode gb_Md_count 134 = .ok (.ireturn, 1) := by decide +kernel
theorem gd_Md_count_135 : decode gb_Md_count 135 = .ok (.iconst (-1), 1) := by decide +kernel
theorem gd_Md_count_136 : decode gb_Md_count 136 = .ok (.ireturn, 1) := by decide +kernel
end
section
/-! worlds as functions: cell (c, k) of a layout lies at ad c k and holds pp c k; rows over them -/
def gq_H (D : va_G) (cl : List vw_C) (vd : Nat → Nat → Prop) (ad : Nat → Nat → Nat) (pp : Nat → Nat → va_E) (H : Heap) : Prop := ∀ c k, vd c k → va_at D cl (ad c k, pp c k) H
def gq_A (vd : Nat → Nat → Prop) (ad : Nat → Nat → Nat) : Nat → Prop := fun q => ∃ c k, vd c k ∧ q = ad c k
def gq_I (vd : Nat → Nat → Prop) (ad : Nat → Nat → Nat) : Prop := ∀ c k c' k', vd c k → vd c' k' → ad c k = ad c' k' → c = c' ∧ k = k'
/-- nest links: they stay true as the machine warms -/
def gq_N (F : List (String × Nat × String × String × String × String)) (M : List (String × Nat × MethodName × String)) (U : State) : Prop :=
  (∀ q ∈ F, va_Nw (.fieldLinkNest q.1 q.2.1 q.2.2.1 q.2.2.2.1 q.2.2.2.2.1 q.2.2.2.2.2) U) ∧ ∀ q ∈ M, va_Nw (.methodLinkNest q.1 q.2.1 q.2.2.1 q.2.2.2) U
theorem gq_N.warm {F : List (String × Nat × String × String × String × String)} {M : List (String × Nat × MethodName × String)} {s U : State} (h : gq_N F M s) (hW : s.WarmedH U.vm) : gq_N F M U :=
  ⟨fun q hq => va_Nw.warmF hW (h.1 q hq), fun q hq => va_Nw.warmM hW (h.2 q hq)⟩
theorem gq_N.same {F : List (String × Nat × String × String × String × String)} {M : List (String × Nat × MethodName × String)} {s U : State} (h : gq_N F M s) (hv : s.vm = U.vm) : gq_N F M U :=
  ⟨fun q hq => va_Nw.same rfl hv (h.1 q hq), fun q hq => va_Nw.same rfl hv (h.2 q hq)⟩
theorem gq_one {D : va_G} {cl : List vw_C} {vd : Nat → Nat → Prop} {ad : Nat → Nat → Nat} {pp : Nat → Nat → va_E} {H : Heap} {c k : Nat} {e : va_E} (h : gq_H D cl vd ad pp H) (hv : vd c k) (he : pp c k = e) : va_P D cl [(ad c k, e)] H := by
  intro j q hq
  match j, hq with
  | 0, hq => cases hq; rw [← he]; exact h c k hv
  | j + 1, hq => simp at hq
theorem gq_upd {D : va_G} {cl : List vw_C} {vd : Nat → Nat → Prop} {ad : Nat → Nat → Nat} {pp pp' : Nat → Nat → va_E} {H H1 : Heap} {c k : Nat} (h : gq_H D cl vd ad pp H) (hI : gq_I vd ad) (hv : vd c k) (hp : va_at D cl (ad c k, pp' c k) H1) (ho : ∀ c' k', vd c' k' → ¬ (c' = c ∧ k' = k) → pp' c' k' = pp c' k') (oq : ∀ q : Nat, q ≠ ad c k → H1[q]? = H[q]?) : gq_H D cl vd ad pp' H1 := by
  intro c' k' hv'
  by_cases hc : c' = c ∧ k' = k
  · obtain ⟨rfl, rfl⟩ := hc
    exact hp
  · rw [ho c' k' hv' hc]
    exact (h c' k' hv').kept (oq _ (fun e => hc (hI _ _ _ _ hv' hv e)))
def gq_pre (D : va_G) (cl : List vw_C) (tys : List (ClassId × FieldType)) (vd : Nat → Nat → Prop) (ad : Nat → Nat → Nat) (F : List (String × Nat × String × String × String × String)) (M : List (String × Nat × MethodName × String)) (pp : Nat → Nat → va_E) (U : State) : Prop := gq_H D cl vd ad pp U.heap ∧ va_K D cl tys U ∧ gq_N F M U
def gq_B (D : va_G) (cl : List vw_C) (tys : List (ClassId × FieldType)) (vd : Nat → Nat → Prop) (ad : Nat → Nat → Nat) (pp : Nat → Nat → va_E) (t : State) : Prop := gq_H D cl vd ad pp t.heap ∧ va_K D cl tys t
theorem gq_blind {D : va_G} {cl : List vw_C} {tys : List (ClassId × FieldType)} {vd : Nat → Nat → Prop} {ad : Nat → Nat → Nat} {F : List (String × Nat × String × String × String × String)} {M : List (String × Nat × MethodName × String)} {pp : Nat → Nat → va_E} {av : List Value} : FrameBlind (va_Pc av (gq_pre D cl tys vd ad F M pp)) := by
  intro a U g mk q
  obtain ⟨q0, q1, q2, q3⟩ := q
  exact ⟨q0, q1, va_K.moved (u := U) (U := U.calling g mk a) (Vm.Alike.refl U.vm) q2, q3.same rfl⟩
theorem gq_preS {s : State} {H : Heap} {D : va_G} {cl : List vw_C} {tys : List (ClassId × FieldType)} {vd : Nat → Nat → Prop} {ad : Nat → Nat → Nat} {F : List (String × Nat × String × String × String × String)} {M : List (String × Nat × MethodName × String)} {pp : Nat → Nat → va_E} {av : List Value} (hH : gq_H D cl vd ad pp H) (hK : va_K D cl tys s) (hN : gq_N F M s) : PreS s H (va_Pc av (gq_pre D cl tys vd ad F M pp)) av :=
  ⟨gq_blind, fun U hU hW => ⟨rfl, by rw [hU]; exact hH, va_K.moved hW.alike hK, hN.warm hW⟩⟩
theorem gq_preV {s : State} {H : Heap} {D : va_G} {cl : List vw_C} {tys : List (ClassId × FieldType)} {vd : Nat → Nat → Prop} {ad : Nat → Nat → Nat} {F : List (String × Nat × String × String × String × String)} {M : List (String × Nat × MethodName × String)} {pp : Nat → Nat → va_E} {C : String} {b : Nat} {As : List Value} (hH : gq_H D cl vd ad pp H) (hK : va_K D cl tys s) (hN : gq_N F M s) (hr : ∃ cell : Cell, H[b]? = some cell ∧ cell.vm.isStatics = false ∧ s.vm.findClass C = some cell.cls) : PreV s H C b (va_Pc (.ref b :: As) (gq_pre D cl tys vd ad F M pp)) As :=
  ⟨gq_blind, hr, fun U hU hW => ⟨rfl, by rw [hU]; exact hH, va_K.moved hW.alike hK, hN.warm hW⟩⟩
section GQ
variable {p : Program} {l : Launch} {e : Env} {R : Room} {s : State} {m : MethodId} {args : Array Value} {below : List Frame} {meth : Method} {c : Code} {H : Heap} {locs : List Loc} {cells slots : Nat} {Q : State → Prop}
variable {cc : ByteArray} {pc : Nat} {ls : Array Slot} {rest st0 : List Value} {D : va_G} {cl : List vw_C} {tys : List (ClassId × FieldType)} {vd : Nat → Nat → Prop} {ad : Nat → Nat → Nat} {pp pp' : Nat → Nat → va_E} {H0 : Heap} {A : Nat → Prop} {ca ka : Nat}
theorem gq_put (hexec : p.tables.exec = Jvm.exec) (hb : c.code = cc) {own ref C : String} {T : u_T} {N ci index : Nat} {Ts : List Cond} (hts : ∀ w ∈ Ts, w.before args s = true) (hin : ∀ w ∈ u_ws C T N, w ∈ Ts) (ty0 : Nat → FieldType) (hty : ∀ k, k < N → parseFieldDescriptor (T k).2.2.1 = some (ty0 k)) (hnm : ∀ a, a < N → ∀ b, b < N → a ≠ b → (T a).2.1 ≠ (T b).2.1) (hown : s.vm.findClass own = some m.cls) (hK : va_K D cl tys s) (hH : gq_H D cl vd ad pp H) (hI : gq_I vd ad) (hA : ∀ q, gq_A vd ad q → A q) (hv0 : vd ca ka) {fs : List Value} (he : pp ca ka = .inr (ci, fs)) (hc : cl[ci]? = some (C, T, N)) (k : Nat) (hk : k < N) (hlink : (Cond.fieldLink own index ref (T k).2.1 (T k).2.2.1).before args s = true) (hsame : ∀ x, s.fieldFound? (T k).1 (T k).2.1 (T k).2.2.1 = some x → s.fieldFound? ref (T k).2.1 (T k).2.2.1 = some x) (hfin : (T k).2.2.2 = false) {ty : FieldType} {v : Value} (hd : parseFieldDescriptor (T k).2.2.1 = some ty) (hn : narrow ty v = v) (hfit : fits ty v = true) (hl : k < fs.length)
    (hw : pp' ca ka = .inr (ci, fs.set k v)) (ho : ∀ c' k', vd c' k' → ¬ (c' = ca ∧ k' = ka) → pp' c' k' = pp c' k') (hS0 : va_S A H0 H locs) (hdg : decode cc pc = .ok (.putfield index, 3)) (kk : ∀ (H1 : Heap) (locs1 : List Loc), gq_H D cl vd ad pp' H1 → va_S A H0 H1 locs1 → W p l e R s m args below meth c H1 locs1 cells slots Q (F0 m (pc + 3) ls rest)) : W p l e R s m args below meth c H locs cells slots Q (F0 m pc ls (v :: .ref (ad ca ka) :: rest)) := by
  have hap := va_apart (own := own) hts hin ty0 hty hnm hK hc
  have h00 := hH ca ka hv0
  rw [he] at h00
  obtain ⟨r, h1, cell, q1, q2, q3, q4⟩ := h00
  have hr : r = (C, T, N) := Option.some.inj (h1.symm.trans hc)
  subst hr
  obtain ⟨hS, hfc, kC, hkC, hkind⟩ := hK.1 ci _ hc
  obtain ⟨cf, kf, fi, f, hi, hsl⟩ := hS k hk
  have hlay := hts _ (hin _ (u_in_lay hk))
  unfold u_lay at hlay
  rw [if_neg (by rw [hfin]; decide)] at hlay
  have hst := (u_facts hfc hkC (u_lays hts hin hk) hi).1
  have h6 := u_store hfc hkC hkind hlay hi hd hn hfit
  refine W.putK hexec hb (f := f) ⟨hown, hlink, ⟨_, _, _, hsame _ hi⟩, hst⟩ (by rw [q2]; exact h6) q1 q3 (by rw [hsl]; exact k2_hasslot (q4 k hk)) rfl rfl hdg fun H' e1 e2 e3 => ?_
  rw [hsl] at e1 ⊢
  exact kk H' _ (gq_upd hH hI hv0 (by rw [hw]; exact ⟨_, hc, t_OB.to (V := updV (vp_V fs) k v) ⟨_, e1, q2, q3, t_set q4 hap hk v⟩ (fun j _ => vp_updV_set hl v j)⟩) ho e3) (hS0.put e2 e3 (hA _ ⟨ca, ka, hv0, rfl⟩))
theorem gq_putN (hexec : p.tables.exec = Jvm.exec) (hb : c.code = cc) {own ref C host : String} {T : u_T} {N ci index : Nat} {Ts : List Cond} (hts : ∀ w ∈ Ts, w.before args s = true) (hin : ∀ w ∈ u_ws C T N, w ∈ Ts) (ty0 : Nat → FieldType) (hty : ∀ k, k < N → parseFieldDescriptor (T k).2.2.1 = some (ty0 k)) (hnm : ∀ a, a < N → ∀ b, b < N → a ≠ b → (T a).2.1 ≠ (T b).2.1) (hown : s.vm.findClass own = some m.cls) (hK : va_K D cl tys s) (hH : gq_H D cl vd ad pp H) (hI : gq_I vd ad) (hA : ∀ q, gq_A vd ad q → A q) (hv0 : vd ca ka) {fs : List Value} (he : pp ca ka = .inr (ci, fs)) (hc : cl[ci]? = some (C, T, N)) (k : Nat) (hk : k < N) (hlink : (Cond.fieldLinkNest own index ref (T k).2.1 (T k).2.2.1 host).before args s = true) (hsame : ∀ x, s.fieldFound? (T k).1 (T k).2.1 (T k).2.2.1 = some x → s.fieldFound? ref (T k).2.1 (T k).2.2.1 = some x) (hfin : (T k).2.2.2 = false) {ty : FieldType} {v : Value} (hd : parseFieldDescriptor (T k).2.2.1 = some ty) (hn : narrow ty v = v) (hfit : fits ty v = true) (hl : k < fs.length)
    (hw : pp' ca ka = .inr (ci, fs.set k v)) (ho : ∀ c' k', vd c' k' → ¬ (c' = ca ∧ k' = ka) → pp' c' k' = pp c' k') (hS0 : va_S A H0 H locs) (hdg : decode cc pc = .ok (.putfield index, 3)) (kk : ∀ (H1 : Heap) (locs1 : List Loc), gq_H D cl vd ad pp' H1 → va_S A H0 H1 locs1 → W p l e R s m args below meth c H1 locs1 cells slots Q (F0 m (pc + 3) ls rest)) : W p l e R s m args below meth c H locs cells slots Q (F0 m pc ls (v :: .ref (ad ca ka) :: rest)) := by
  have hap := va_apart (own := own) hts hin ty0 hty hnm hK hc
  have h00 := hH ca ka hv0
  rw [he] at h00
  obtain ⟨r, h1, cell, q1, q2, q3, q4⟩ := h00
  have hr : r = (C, T, N) := Option.some.inj (h1.symm.trans hc)
  subst hr
  obtain ⟨hS, hfc, kC, hkC, hkind⟩ := hK.1 ci _ hc
  obtain ⟨cf, kf, fi, f, hi, hsl⟩ := hS k hk
  have hlay := hts _ (hin _ (u_in_lay hk))
  unfold u_lay at hlay
  rw [if_neg (by rw [hfin]; decide)] at hlay
  have hst := (u_facts hfc hkC (u_lays hts hin hk) hi).1
  have h6 := u_store hfc hkC hkind hlay hi hd hn hfit
  refine va_WputK hexec hb (f := f) hown hlink (hsame _ hi) hst (by rw [q2]; exact h6) q1 q3 (by rw [hsl]; exact k2_hasslot (q4 k hk)) rfl rfl hdg fun H' e1 e2 e3 => ?_
  rw [hsl] at e1 ⊢
  exact kk H' _ (gq_upd hH hI hv0 (by rw [hw]; exact ⟨_, hc, t_OB.to (V := updV (vp_V fs) k v) ⟨_, e1, q2, q3, t_set q4 hap hk v⟩ (fun j _ => vp_updV_set hl v j)⟩) ho e3) (hS0.put e2 e3 (hA _ ⟨ca, ka, hv0, rfl⟩))
theorem gq_iast (hexec : p.tables.exec = Jvm.exec) (hb : c.code = cc) (hK : va_K D cl tys s) (hH : gq_H D cl vd ad pp H) (hI : gq_I vd ad) (hA : ∀ q, gq_A vd ad q → A q) (hv0 : vd ca ka) {cA : ClassId} {n : Nat} {f : Nat → Int32} (he : pp ca ka = .inl (cA, n, .inl f)) (t0 : Nat) (ht : tys[t0]? = some (cA, .int)) {i x : Int32} (hin : vp_in i n)
    (hw : pp' ca ka = .inl (cA, n, .inl (upd f i.toNatClampNeg x))) (ho : ∀ c' k', vd c' k' → ¬ (c' = ca ∧ k' = ka) → pp' c' k' = pp c' k') (hS : va_S A H0 H locs) (hdg : decode cc pc = .ok (.iastore, 1))
    (kk : ∀ (H1 : Heap) (locs1 : List Loc), gq_H D cl vd ad pp' H1 → va_S A H0 H1 locs1 → W p l e R s m args below meth c H1 locs1 cells slots Q (F0 m (pc + 1) ls rest)) : W p l e R s m args below meth c H locs cells slots Q (F0 m pc ls (.int x :: .int i :: .ref (ad ca ka) :: rest)) := by
  have h00 := hH ca ka hv0
  rw [he] at h00
  refine W.iast hexec hb h00 ((hK.2 t0 _ ht).1 n (fun j => .int (f j))) (fun q => by cases q) (by show ¬ (i < 0 ∨ (arrV _ _ _).slots.size ≤ _); rw [arrV_size]; exact hin) rfl rfl hdg fun H1 e z oq => ?_
  refine kk H1 _ (gq_upd hH hI hv0 ?_ ho oq) (hS.put z oq (hA _ ⟨ca, ka, hv0, rfl⟩))
  rw [hw]
  show H1[ad ca ka]? = some (vp_cell _ _)
  rw [e]
  rw [vp_cell_i, vp_cell_i, arrV_store]
  congr 2
  funext q
  by_cases hq : q = i.toNatClampNeg
  · subst hq
    simp [updV, upd]
  · simp [updV, upd, hq]
variable {S : Type} {pcf : S → Nat → Nat → va_E} {a : Array Value}
theorem gq_calli {z : Int32 × S} (hr : va_Run p l e R s m args below meth c H locs cells slots 0 0 (F0 m pc ls st0) rest (va_Qi (fun r u => r = z.1 ∧ u = z.2) (fun u t => gq_B D cl tys vd ad (pcf u) t) (gq_A vd ad) a) (gq_A vd ad)) (hA : ∀ q, gq_A vd ad q → A q) (hS : va_S A H0 H locs)
    (kk : ∀ (H1 : Heap) (locs1 : List Loc), gq_H D cl vd ad (pcf z.2) H1 → va_S A H0 H1 locs1 → W p l e R s m args below meth c H1 locs1 cells slots Q (F0 m (pc + 3) ls (.int z.1 :: rest))) : W p l e R s m args below meth c H locs cells slots Q (F0 m pc ls st0) := by
  refine va_calli hr hS (fun q _ h => hA q h) (fun q h => hA q h) (fun r u t H1 locs1 ht hvm hw hB hz hk hS1 => ?_)
  obtain ⟨rfl, rfl⟩ := hw
  exact kk H1 locs1 (by rw [← ht]; exact hB.1) hS1
theorem gq_calll {z : Int64 × S} (hr : va_Run p l e R s m args below meth c H locs cells slots 0 0 (F0 m pc ls st0) rest (va_Ql (fun r u => r = z.1 ∧ u = z.2) (fun u t => gq_B D cl tys vd ad (pcf u) t) (gq_A vd ad) a) (gq_A vd ad)) (hA : ∀ q, gq_A vd ad q → A q) (hS : va_S A H0 H locs)
    (kk : ∀ (H1 : Heap) (locs1 : List Loc), gq_H D cl vd ad (pcf z.2) H1 → va_S A H0 H1 locs1 → W p l e R s m args below meth c H1 locs1 cells slots Q (F0 m (pc + 3) ls (.long z.1 :: rest))) : W p l e R s m args below meth c H locs cells slots Q (F0 m pc ls st0) := by
  refine va_calll hr hS (fun q _ h => hA q h) (fun q h => hA q h) (fun r u t H1 locs1 ht hvm hw hB hz hk hS1 => ?_)
  obtain ⟨rfl, rfl⟩ := hw
  exact kk H1 locs1 (by rw [← ht]; exact hB.1) hS1
theorem gq_calle {adr : Nat → Nat} {z : Option Nat × S} (hr : va_Run p l e R s m args below meth c H locs cells slots 0 0 (F0 m pc ls st0) rest (va_Qe adr (fun r u => r = z.1 ∧ u = z.2) (fun u t => gq_B D cl tys vd ad (pcf u) t) (gq_A vd ad) a) (gq_A vd ad)) (hA : ∀ q, gq_A vd ad q → A q) (hS : va_S A H0 H locs)
    (kk : ∀ (H1 : Heap) (locs1 : List Loc), gq_H D cl vd ad (pcf z.2) H1 → va_S A H0 H1 locs1 → W p l e R s m args below meth c H1 locs1 cells slots Q (F0 m (pc + 3) ls (va_re adr z.1 :: rest))) : W p l e R s m args below meth c H locs cells slots Q (F0 m pc ls st0) := by
  refine va_calle hr hS (fun q _ h => hA q h) (fun q h => hA q h) (fun r u t H1 locs1 ht hvm hw hB hz hk hS1 => ?_)
  obtain ⟨rfl, rfl⟩ := hw
  exact kk H1 locs1 (by rw [← ht]; exact hB.1) hS1
theorem gq_callv {z : S} (hr : va_Run p l e R s m args below meth c H locs cells slots 0 0 (F0 m pc ls st0) rest (va_Qv (fun u => u = z) (fun u t => gq_B D cl tys vd ad (pcf u) t) (gq_A vd ad) a) (gq_A vd ad)) (hA : ∀ q, gq_A vd ad q → A q) (hS : va_S A H0 H locs)
    (kk : ∀ (H1 : Heap) (locs1 : List Loc), gq_H D cl vd ad (pcf z) H1 → va_S A H0 H1 locs1 → W p l e R s m args below meth c H1 locs1 cells slots Q (F0 m (pc + 3) ls rest)) : W p l e R s m args below meth c H locs cells slots Q (F0 m pc ls st0) := by
  refine va_callv hr hS (fun q _ h => hA q h) (fun q h => hA q h) (fun u t H1 locs1 ht hvm hw hB hz hk hS1 => ?_)
  subst hw
  exact kk H1 locs1 (by rw [← ht]; exact hB.1) hS1
theorem gj_tab (hexec : p.tables.exec = Jvm.exec) (hb : c.code = cc) {dflt lo hi : Int} {offs : Array Int} {len : Nat} {x k : Int32} {off : Int} {tgt : Nat} (hx : x = k) (hdg : decode cc pc = .ok (.tableswitch dflt lo hi offs, len)) (h1 : ¬ k.toInt < lo) (h2 : ¬ hi < k.toInt) (ho : offs[(k.toInt - lo).toNat]? = some off) (ht : (pc : Int) + off = (tgt : Int))
    (kk : W p l e R s m args below meth c H locs cells slots Q (F0 m tgt ls rest)) : W p l e R s m args below meth c H locs cells slots Q (F0 m pc ls (.int x :: rest)) := by
  subst hx
  exact lv_tableIn hexec hb hdg h1 h2 ho ht kk
end GQ
/-! pure pieces of the method functions -/
abbrev gj_in (i : Int32) (n : Nat) : Prop := ¬ (i < 0 ∨ n ≤ i.toNatClampNeg)
theorem gj_in_lt {i : Int32} {n : Nat} (h : gj_in i n) : i.toNatClampNeg < n := Nat.not_le.mp (fun q => h (Or.inr q))
theorem gj_t {α : Type} {c : Prop} [Decidable c] {a b z : α} (h : c) (hf : ite c a b = z) : a = z := (if_pos h).symm.trans hf
theorem gj_e {α : Type} {c : Prop} [Decidable c] {a b z : α} (h : ¬ c) (hf : ite c a b = z) : b = z := (if_neg h).symm.trans hf
theorem gj_g {α : Type} {c : Prop} [Decidable c] {a : Option α} {z : α} (hf : ite c a none = some z) : c ∧ a = some z := by
  by_cases h : c
  · exact ⟨h, gj_t h hf⟩
  · exact absurd (gj_e h hf) (by simp)
def gj_lushr (x : Int64) (y : Int32) : Int64 := (x.toUInt64 >>> (y.toInt64.toUInt64 &&& Int64.toUInt64 63)).toInt64
def gj_lshl (x : Int64) (y : Int32) : Int64 := x <<< (y.toInt64 &&& 63)
def gj_iushr (x y : Int32) : Int32 := (x.toUInt32 >>> (y.toUInt32 &&& Int32.toUInt32 31)).toInt32
end
section
theorem gt_1 : Cond.initialized "TermBook" ∈ gt_T := gt_in 1 (by decide +kernel) rfl
theorem gt_2 : Cond.initialized "TermBook$Text" ∈ gt_T := gt_in 2 (by decide +kernel) rfl
theorem gt_3 : Cond.initialized "TermBook$Term" ∈ gt_T := gt_in 3 (by decide +kernel) rfl
theorem gt_4 : Cond.initialized "TermBook$Leaves" ∈ gt_T := gt_in 4 (by decide +kernel) rfl
theorem gt_6 : Cond.initialized "java/lang/Integer" ∈ gt_T := gt_in 6 (by decide +kernel) rfl
theorem gt_7 : Cond.initialized "java/lang/Long" ∈ gt_T := gt_in 7 (by decide +kernel) rfl
theorem gt_8 : Cond.initialized "java/lang/Math" ∈ gt_T := gt_in 8 (by decide +kernel) rfl
theorem gt_23 : Cond.fieldLink "TermBook$Text" 13 "TermBook$Text" "head" "J" ∈ gt_T := gt_in 23 (by decide +kernel) rfl
theorem gt_24 : Cond.fieldLink "TermBook$Text" 17 "TermBook$Text" "tail" "J" ∈ gt_T := gt_in 24 (by decide +kernel) rfl
theorem gt_25 : Cond.fieldLink "TermBook$Text" 7 "TermBook$Text" "length" "I" ∈ gt_T := gt_in 25 (by decide +kernel) rfl
theorem gt_43 : Cond.fieldLink "TermBook$Term" 10 "TermBook$Term" "text" "LTermBook$Text;" ∈ gt_T := gt_in 43 (by decide +kernel) rfl
theorem gt_45 : Cond.fieldLink "TermBook$Term" 30 "TermBook$Term" "present" "Z" ∈ gt_T := gt_in 45 (by decide +kernel) rfl
theorem gt_47 : Cond.fieldLink "TermBook$Term" 20 "TermBook$Term" "kind" "I" ∈ gt_T := gt_in 47 (by decide +kernel) rfl
theorem gt_49 : Cond.fieldLink "TermBook$Term" 24 "TermBook$Term" "uses" "I" ∈ gt_T := gt_in 49 (by decide +kernel) rfl
theorem gt_51 : Cond.fieldLink "TermBook$Term" 27 "TermBook$Term" "keepers" "I" ∈ gt_T := gt_in 51 (by decide +kernel) rfl
theorem gt_69 : Cond.fieldLink "TermBook$Leaves" 9 "TermBook$Leaves" "numbers" "[I" ∈ gt_T := gt_in 69 (by decide +kernel) rfl
theorem gt_70 : Cond.fieldLink "TermBook$Leaves" 18 "TermBook$Leaves" "filled" "I" ∈ gt_T := gt_in 70 (by decide +kernel) rfl
theorem gt_72 : Cond.fieldLink "TermBook$Leaves" 15 "TermBook$Leaves" "sizes" "[I" ∈ gt_T := gt_in 72 (by decide +kernel) rfl
theorem gt_73 : Cond.fieldLink "TermBook$Leaves" 26 "TermBook$Leaves" "parts" "I" ∈ gt_T := gt_in 73 (by decide +kernel) rfl
theorem gt_85 : Cond.fieldLink "TermBook" 10 "TermBook" "tape" "LTermBook$Text;" ∈ gt_T := gt_in 85 (by decide +kernel) rfl
theorem gt_86 : Cond.fieldLink "TermBook" 18 "TermBook" "terms" "[LTermBook$Term;" ∈ gt_T := gt_in 86 (by decide +kernel) rfl
theorem gt_87 : Cond.fieldLink "TermBook" 26 "TermBook" "leaves" "LTermBook$Leaves;" ∈ gt_T := gt_in 87 (by decide +kernel) rfl
theorem gt_88 : Cond.fieldLink "TermBook" 30 "TermBook" "kept" "[I" ∈ gt_T := gt_in 88 (by decide +kernel) rfl
theorem gt_89 : Cond.fieldLink "TermBook" 34 "TermBook" "ended" "I" ∈ gt_T := gt_in 89 (by decide +kernel) rfl
theorem gt_105 : Cond.methodLink "TermBook" 38 gy_Bk_allFit ∈ gt_T := gt_in 105 (by decide +kernel) rfl
theorem gt_106 : Cond.static gy_Bk_allFit ∈ gt_T := gt_in 106 (by decide +kernel) rfl
theorem gt_107 : Cond.code gy_Bk_allFit gb_Bk_allFit 5 (some .boolean) ∈ gt_T := gt_in 107 rfl rfl
theorem gt_108 : Cond.methodLink "TermBook" 45 gy_Bk_byteOf ∈ gt_T := gt_in 108 (by decide +kernel) rfl
theorem gt_109 : Cond.static gy_Bk_byteOf ∈ gt_T := gt_in 109 (by decide +kernel) rfl
theorem gt_110 : Cond.code gy_Bk_byteOf gb_Bk_byteOf 3 (some .int) ∈ gt_T := gt_in 110 rfl rfl
theorem gt_111 : Cond.constantLong "TermBook" 154 (255) ∈ gt_T := gt_in 111 (by decide +kernel) rfl
theorem gt_112 : Cond.methodLink "TermBook" 49 gy_Tx_append ∈ gt_T := gt_in 112 (by decide +kernel) rfl
theorem gt_113 : Cond.instanceMethod gy_Tx_append ∈ gt_T := gt_in 113 (by decide +kernel) rfl
theorem gt_114 : Cond.selects "TermBook$Text" gy_Tx_append gy_Tx_append ∈ gt_T := gt_in 114 (by decide +kernel) rfl
theorem gt_115 : Cond.code gy_Tx_append gb_Tx_append 2 none ∈ gt_T := gt_in 115 rfl rfl
theorem gt_120 : Cond.methodLink "TermBook" 53 gy_Tx_empty ∈ gt_T := gt_in 120 (by decide +kernel) rfl
theorem gt_121 : Cond.instanceMethod gy_Tx_empty ∈ gt_T := gt_in 121 (by decide +kernel) rfl
theorem gt_122 : Cond.selects "TermBook$Text" gy_Tx_empty gy_Tx_empty ∈ gt_T := gt_in 122 (by decide +kernel) rfl
theorem gt_123 : Cond.code gy_Tx_empty gb_Tx_empty 1 none ∈ gt_T := gt_in 123 rfl rfl
theorem gt_128 : Cond.methodLink "TermBook" 56 gy_Bk_isKind ∈ gt_T := gt_in 128 (by decide +kernel) rfl
theorem gt_129 : Cond.static gy_Bk_isKind ∈ gt_T := gt_in 129 (by decide +kernel) rfl
theorem gt_130 : Cond.code gy_Bk_isKind gb_Bk_isKind 1 (some .boolean) ∈ gt_T := gt_in 130 rfl rfl
theorem gt_131 : Cond.methodLink "TermBook" 60 gy_Bk_useTape ∈ gt_T := gt_in 131 (by decide +kernel) rfl
theorem gt_133 : Cond.instanceMethod gy_Bk_useTape ∈ gt_T := gt_in 133 (by decide +kernel) rfl
theorem gt_134 : Cond.code gy_Bk_useTape gb_Bk_useTape 5 (some .int) ∈ gt_T := gt_in 134 rfl rfl
theorem gt_135 : Cond.methodLink "TermBook" 82 gy_Bk_placeOfTape ∈ gt_T := gt_in 135 (by decide +kernel) rfl
theorem gt_137 : Cond.instanceMethod gy_Bk_placeOfTape ∈ gt_T := gt_in 137 (by decide +kernel) rfl
theorem gt_138 : Cond.code gy_Bk_placeOfTape gb_Bk_placeOfTape 3 (some .int) ∈ gt_T := gt_in 138 rfl rfl
theorem gt_139 : Cond.methodLink "TermBook" 85 gy_Lv_numberAt ∈ gt_T := gt_in 139 (by decide +kernel) rfl
theorem gt_140 : Cond.instanceMethod gy_Lv_numberAt ∈ gt_T := gt_in 140 (by decide +kernel) rfl
theorem gt_141 : Cond.selects "TermBook$Leaves" gy_Lv_numberAt gy_Lv_numberAt ∈ gt_T := gt_in 141 (by decide +kernel) rfl
theorem gt_142 : Cond.code gy_Lv_numberAt gb_Lv_numberAt 2 (some .int) ∈ gt_T := gt_in 142 rfl rfl
theorem gt_143 : Cond.methodLink "TermBook" 160 gy_Bk_isBeforeTape ∈ gt_T := gt_in 143 (by decide +kernel) rfl
theorem gt_145 : Cond.instanceMethod gy_Bk_isBeforeTape ∈ gt_T := gt_in 145 (by decide +kernel) rfl
theorem gt_146 : Cond.code gy_Bk_isBeforeTape gb_Bk_isBeforeTape 4 (some .boolean) ∈ gt_T := gt_in 146 rfl rfl
theorem gt_147 : Cond.methodLink "TermBook" 64 gy_Bk_inBook ∈ gt_T := gt_in 147 (by decide +kernel) rfl
theorem gt_149 : Cond.instanceMethod gy_Bk_inBook ∈ gt_T := gt_in 149 (by decide +kernel) rfl
theorem gt_150 : Cond.code gy_Bk_inBook gb_Bk_inBook 3 (some (.object "TermBook$Term")) ∈ gt_T := gt_in 150 rfl rfl
theorem gt_151 : Cond.methodLink "TermBook" 163 gy_Tm_compareWith ∈ gt_T := gt_in 151 (by decide +kernel) rfl
theorem gt_152 : Cond.instanceMethod gy_Tm_compareWith ∈ gt_T := gt_in 152 (by decide +kernel) rfl
theorem gt_153 : Cond.selects "TermBook$Term" gy_Tm_compareWith gy_Tm_compareWith ∈ gt_T := gt_in 153 (by decide +kernel) rfl
theorem gt_154 : Cond.code gy_Tm_compareWith gb_Tm_compareWith 3 (some .int) ∈ gt_T := gt_in 154 rfl rfl
theorem gt_155 : Cond.methodLink "TermBook$Term" 34 gy_In_compare ∈ gt_T := gt_in 155 (by decide +kernel) rfl
theorem gt_156 : Cond.static gy_In_compare ∈ gt_T := gt_in 156 (by decide +kernel) rfl
theorem gt_157 : Cond.code gy_In_compare gb_In_compare 2 (some .int) ∈ gt_T := gt_in 157 rfl rfl
theorem gt_158 : Cond.methodLink "TermBook$Term" 40 gy_Tx_compareWith ∈ gt_T := gt_in 158 (by decide +kernel) rfl
theorem gt_159 : Cond.instanceMethod gy_Tx_compareWith ∈ gt_T := gt_in 159 (by decide +kernel) rfl
theorem gt_160 : Cond.selects "TermBook$Text" gy_Tx_compareWith gy_Tx_compareWith ∈ gt_T := gt_in 160 (by decide +kernel) rfl
theorem gt_161 : Cond.code gy_Tx_compareWith gb_Tx_compareWith 2 (some .int) ∈ gt_T := gt_in 161 rfl rfl
theorem gt_162 : Cond.methodLink "TermBook$Text" 26 gy_Lo_compare ∈ gt_T := gt_in 162 (by decide +kernel) rfl
theorem gt_163 : Cond.static gy_Lo_compare ∈ gt_T := gt_in 163 (by decide +kernel) rfl
theorem gt_164 : Cond.code gy_Lo_compare gb_Lo_compare 4 (some .int) ∈ gt_T := gt_in 164 rfl rfl
theorem gt_165 : Cond.methodLink "TermBook" 88 gy_Bk_isTape ∈ gt_T := gt_in 165 (by decide +kernel) rfl
theorem gt_167 : Cond.instanceMethod gy_Bk_isTape ∈ gt_T := gt_in 167 (by decide +kernel) rfl
theorem gt_168 : Cond.code gy_Bk_isTape gb_Bk_isTape 4 (some .boolean) ∈ gt_T := gt_in 168 rfl rfl
theorem gt_169 : Cond.methodLink "TermBook" 167 gy_Bk_bringTape ∈ gt_T := gt_in 169 (by decide +kernel) rfl
theorem gt_171 : Cond.instanceMethod gy_Bk_bringTape ∈ gt_T := gt_in 171 (by decide +kernel) rfl
theorem gt_172 : Cond.code gy_Bk_bringTape gb_Bk_bringTape 4 (some .int) ∈ gt_T := gt_in 172 rfl rfl
theorem gt_173 : Cond.methodLink "TermBook" 171 gy_Bk_leastFree ∈ gt_T := gt_in 173 (by decide +kernel) rfl
theorem gt_175 : Cond.instanceMethod gy_Bk_leastFree ∈ gt_T := gt_in 175 (by decide +kernel) rfl
theorem gt_176 : Cond.code gy_Bk_leastFree gb_Bk_leastFree 2 (some .int) ∈ gt_T := gt_in 176 rfl rfl
theorem gt_177 : Cond.methodLink "TermBook" 174 gy_Tm_comeAs ∈ gt_T := gt_in 177 (by decide +kernel) rfl
theorem gt_178 : Cond.instanceMethod gy_Tm_comeAs ∈ gt_T := gt_in 178 (by decide +kernel) rfl
theorem gt_179 : Cond.selects "TermBook$Term" gy_Tm_comeAs gy_Tm_comeAs ∈ gt_T := gt_in 179 (by decide +kernel) rfl
theorem gt_180 : Cond.code gy_Tm_comeAs gb_Tm_comeAs 3 none ∈ gt_T := gt_in 180 rfl rfl
theorem gt_181 : Cond.methodLink "TermBook$Term" 16 gy_Tx_copyOf ∈ gt_T := gt_in 181 (by decide +kernel) rfl
theorem gt_182 : Cond.instanceMethod gy_Tx_copyOf ∈ gt_T := gt_in 182 (by decide +kernel) rfl
theorem gt_183 : Cond.selects "TermBook$Text" gy_Tx_copyOf gy_Tx_copyOf ∈ gt_T := gt_in 183 (by decide +kernel) rfl
theorem gt_184 : Cond.code gy_Tx_copyOf gb_Tx_copyOf 2 none ∈ gt_T := gt_in 184 rfl rfl
theorem gt_185 : Cond.methodLink "TermBook" 178 gy_Lv_insert ∈ gt_T := gt_in 185 (by decide +kernel) rfl
theorem gt_186 : Cond.instanceMethod gy_Lv_insert ∈ gt_T := gt_in 186 (by decide +kernel) rfl
theorem gt_187 : Cond.selects "TermBook$Leaves" gy_Lv_insert gy_Lv_insert ∈ gt_T := gt_in 187 (by decide +kernel) rfl
theorem gt_188 : Cond.code gy_Lv_insert gb_Lv_insert 5 none ∈ gt_T := gt_in 188 rfl rfl
theorem gt_189 : Cond.methodLink "TermBook$Leaves" 32 gy_Lv_leafOf ∈ gt_T := gt_in 189 (by decide +kernel) rfl
theorem gt_191 : Cond.instanceMethod gy_Lv_leafOf ∈ gt_T := gt_in 191 (by decide +kernel) rfl
theorem gt_192 : Cond.code gy_Lv_leafOf gb_Lv_leafOf 4 (some .int) ∈ gt_T := gt_in 192 rfl rfl
theorem gt_193 : Cond.methodLink "TermBook$Leaves" 29 gy_Lv_sizeOf ∈ gt_T := gt_in 193 (by decide +kernel) rfl
theorem gt_194 : Cond.instanceMethod gy_Lv_sizeOf ∈ gt_T := gt_in 194 (by decide +kernel) rfl
theorem gt_195 : Cond.selects "TermBook$Leaves" gy_Lv_sizeOf gy_Lv_sizeOf ∈ gt_T := gt_in 195 (by decide +kernel) rfl
theorem gt_196 : Cond.code gy_Lv_sizeOf gb_Lv_sizeOf 2 (some .int) ∈ gt_T := gt_in 196 rfl rfl
theorem gt_197 : Cond.methodLink "TermBook$Leaves" 46 gy_Ma_max ∈ gt_T := gt_in 197 (by decide +kernel) rfl
theorem gt_198 : Cond.static gy_Ma_max ∈ gt_T := gt_in 198 (by decide +kernel) rfl
theorem gt_199 : Cond.code gy_Ma_max gb_Ma_max 2 (some .int) ∈ gt_T := gt_in 199 rfl rfl
theorem gt_200 : Cond.methodLink "TermBook$Leaves" 35 gy_Lv_resize ∈ gt_T := gt_in 200 (by decide +kernel) rfl
theorem gt_202 : Cond.instanceMethod gy_Lv_resize ∈ gt_T := gt_in 202 (by decide +kernel) rfl
theorem gt_203 : Cond.code gy_Lv_resize gb_Lv_resize 3 none ∈ gt_T := gt_in 203 rfl rfl
theorem gt_204 : Cond.methodLink "TermBook$Leaves" 39 gy_Lv_part ∈ gt_T := gt_in 204 (by decide +kernel) rfl
theorem gt_206 : Cond.instanceMethod gy_Lv_part ∈ gt_T := gt_in 206 (by decide +kernel) rfl
theorem gt_207 : Cond.code gy_Lv_part gb_Lv_part 3 none ∈ gt_T := gt_in 207 rfl rfl
theorem gt_212 : Cond.methodLink "TermBook" 71 gy_Tm_isNeeded ∈ gt_T := gt_in 212 (by decide +kernel) rfl
theorem gt_213 : Cond.instanceMethod gy_Tm_isNeeded ∈ gt_T := gt_in 213 (by decide +kernel) rfl
theorem gt_214 : Cond.selects "TermBook$Term" gy_Tm_isNeeded gy_Tm_isNeeded ∈ gt_T := gt_in 214 (by decide +kernel) rfl
theorem gt_215 : Cond.code gy_Tm_isNeeded gb_Tm_isNeeded 1 (some .boolean) ∈ gt_T := gt_in 215 rfl rfl
theorem gt_216 : Cond.methodLink "TermBook" 75 gy_Lv_placeOf ∈ gt_T := gt_in 216 (by decide +kernel) rfl
theorem gt_217 : Cond.instanceMethod gy_Lv_placeOf ∈ gt_T := gt_in 217 (by decide +kernel) rfl
theorem gt_218 : Cond.selects "TermBook$Leaves" gy_Lv_placeOf gy_Lv_placeOf ∈ gt_T := gt_in 218 (by decide +kernel) rfl
theorem gt_219 : Cond.code gy_Lv_placeOf gb_Lv_placeOf 3 (some .int) ∈ gt_T := gt_in 219 rfl rfl
theorem gt_220 : Cond.methodLink "TermBook$Leaves" 22 gy_Lv_numberAt ∈ gt_T := gt_in 220 (by decide +kernel) rfl
theorem gt_221 : Cond.methodLink "TermBook" 78 gy_Bk_takeOut ∈ gt_T := gt_in 221 (by decide +kernel) rfl
theorem gt_223 : Cond.instanceMethod gy_Bk_takeOut ∈ gt_T := gt_in 223 (by decide +kernel) rfl
theorem gt_224 : Cond.code gy_Bk_takeOut gb_Bk_takeOut 3 none ∈ gt_T := gt_in 224 rfl rfl
theorem gt_225 : Cond.methodLink "TermBook" 182 gy_Lv_remove ∈ gt_T := gt_in 225 (by decide +kernel) rfl
theorem gt_226 : Cond.instanceMethod gy_Lv_remove ∈ gt_T := gt_in 226 (by decide +kernel) rfl
theorem gt_227 : Cond.selects "TermBook$Leaves" gy_Lv_remove gy_Lv_remove ∈ gt_T := gt_in 227 (by decide +kernel) rfl
theorem gt_228 : Cond.code gy_Lv_remove gb_Lv_remove 4 none ∈ gt_T := gt_in 228 rfl rfl
theorem gt_229 : Cond.methodLink "TermBook$Leaves" 43 gy_Lv_mend ∈ gt_T := gt_in 229 (by decide +kernel) rfl
theorem gt_231 : Cond.instanceMethod gy_Lv_mend ∈ gt_T := gt_in 231 (by decide +kernel) rfl
theorem gt_232 : Cond.code gy_Lv_mend gb_Lv_mend 3 none ∈ gt_T := gt_in 232 rfl rfl
theorem gt_233 : Cond.methodLink "TermBook$Leaves" 52 gy_Lv_dropEmpty ∈ gt_T := gt_in 233 (by decide +kernel) rfl
theorem gt_235 : Cond.instanceMethod gy_Lv_dropEmpty ∈ gt_T := gt_in 235 (by decide +kernel) rfl
theorem gt_236 : Cond.code gy_Lv_dropEmpty gb_Lv_dropEmpty 1 none ∈ gt_T := gt_in 236 rfl rfl
theorem gt_237 : Cond.methodLink "TermBook$Leaves" 55 gy_Ma_min ∈ gt_T := gt_in 237 (by decide +kernel) rfl
theorem gt_238 : Cond.static gy_Ma_min ∈ gt_T := gt_in 238 (by decide +kernel) rfl
theorem gt_239 : Cond.code gy_Ma_min gb_Ma_min 2 (some .int) ∈ gt_T := gt_in 239 rfl rfl
theorem gt_240 : Cond.methodLink "TermBook$Leaves" 58 gy_Lv_joinNext ∈ gt_T := gt_in 240 (by decide +kernel) rfl
theorem gt_242 : Cond.instanceMethod gy_Lv_joinNext ∈ gt_T := gt_in 242 (by decide +kernel) rfl
theorem gt_243 : Cond.code gy_Lv_joinNext gb_Lv_joinNext 3 none ∈ gt_T := gt_in 243 rfl rfl
theorem gt_252 : Cond.methodLink "TermBook" 98 gy_Tx_byteAt ∈ gt_T := gt_in 252 (by decide +kernel) rfl
theorem gt_253 : Cond.instanceMethod gy_Tx_byteAt ∈ gt_T := gt_in 253 (by decide +kernel) rfl
theorem gt_254 : Cond.selects "TermBook$Text" gy_Tx_byteAt gy_Tx_byteAt ∈ gt_T := gt_in 254 (by decide +kernel) rfl
theorem gt_255 : Cond.code gy_Tx_byteAt gb_Tx_byteAt 2 (some .int) ∈ gt_T := gt_in 255 rfl rfl
theorem gt_269 : Cond.methodLink "TermBook" 101 gy_Tx_startsWith ∈ gt_T := gt_in 269 (by decide +kernel) rfl
theorem gt_270 : Cond.instanceMethod gy_Tx_startsWith ∈ gt_T := gt_in 270 (by decide +kernel) rfl
theorem gt_271 : Cond.selects "TermBook$Text" gy_Tx_startsWith gy_Tx_startsWith ∈ gt_T := gt_in 271 (by decide +kernel) rfl
theorem gt_272 : Cond.code gy_Tx_startsWith gb_Tx_startsWith 2 (some .boolean) ∈ gt_T := gt_in 272 rfl rfl
theorem gt_273 : Cond.methodLink "TermBook$Text" 42 gy_Tx_sharedWith ∈ gt_T := gt_in 273 (by decide +kernel) rfl
theorem gt_274 : Cond.instanceMethod gy_Tx_sharedWith ∈ gt_T := gt_in 274 (by decide +kernel) rfl
theorem gt_275 : Cond.selects "TermBook$Text" gy_Tx_sharedWith gy_Tx_sharedWith ∈ gt_T := gt_in 275 (by decide +kernel) rfl
theorem gt_276 : Cond.code gy_Tx_sharedWith gb_Tx_sharedWith 3 (some .int) ∈ gt_T := gt_in 276 rfl rfl
theorem gt_277 : Cond.methodLink "TermBook$Text" 32 gy_Lo_numberOfLeadingZeros ∈ gt_T := gt_in 277 (by decide +kernel) rfl
theorem gt_278 : Cond.static gy_Lo_numberOfLeadingZeros ∈ gt_T := gt_in 278 (by decide +kernel) rfl
theorem gt_279 : Cond.code gy_Lo_numberOfLeadingZeros gb_Lo_numberOfLeadingZeros 3 (some .int) ∈ gt_T := gt_in 279 rfl rfl
theorem gt_280 : Cond.methodLink "java/lang/Long" 308 gy_In_numberOfLeadingZeros ∈ gt_T := gt_in 280 (by decide +kernel) rfl
theorem gt_281 : Cond.static gy_In_numberOfLeadingZeros ∈ gt_T := gt_in 281 (by decide +kernel) rfl
theorem gt_282 : Cond.code gy_In_numberOfLeadingZeros gb_In_numberOfLeadingZeros 2 (some .int) ∈ gt_T := gt_in 282 rfl rfl
theorem gt_283 : Cond.constant "java/lang/Integer" 264 (65536) ∈ gt_T := gt_in 283 (by decide +kernel) rfl
theorem gt_284 : Cond.methodLink "TermBook$Text" 36 gy_Ma_min ∈ gt_T := gt_in 284 (by decide +kernel) rfl
theorem gt_293 : Cond.methodLink "TermBook" 105 gy_Bk_slotOf ∈ gt_T := gt_in 293 (by decide +kernel) rfl
theorem gt_295 : Cond.instanceMethod gy_Bk_slotOf ∈ gt_T := gt_in 295 (by decide +kernel) rfl
theorem gt_296 : Cond.code gy_Bk_slotOf gb_Bk_slotOf 3 (some .int) ∈ gt_T := gt_in 296 rfl rfl
theorem gt_297 : Cond.methodLink "TermBook" 108 gy_Tm_keepFor ∈ gt_T := gt_in 297 (by decide +kernel) rfl
theorem gt_298 : Cond.instanceMethod gy_Tm_keepFor ∈ gt_T := gt_in 298 (by decide +kernel) rfl
theorem gt_299 : Cond.selects "TermBook$Term" gy_Tm_keepFor gy_Tm_keepFor ∈ gt_T := gt_in 299 (by decide +kernel) rfl
theorem gt_300 : Cond.code gy_Tm_keepFor gb_Tm_keepFor 2 none ∈ gt_T := gt_in 300 rfl rfl
theorem gt_305 : Cond.methodLink "TermBook" 111 gy_Bk_keptSlot ∈ gt_T := gt_in 305 (by decide +kernel) rfl
theorem gt_307 : Cond.instanceMethod gy_Bk_keptSlot ∈ gt_T := gt_in 307 (by decide +kernel) rfl
theorem gt_308 : Cond.code gy_Bk_keptSlot gb_Bk_keptSlot 2 (some .int) ∈ gt_T := gt_in 308 rfl rfl
theorem gt_309 : Cond.methodLink "TermBook" 114 gy_Tm_giveUpFor ∈ gt_T := gt_in 309 (by decide +kernel) rfl
theorem gt_310 : Cond.instanceMethod gy_Tm_giveUpFor ∈ gt_T := gt_in 310 (by decide +kernel) rfl
theorem gt_311 : Cond.selects "TermBook$Term" gy_Tm_giveUpFor gy_Tm_giveUpFor ∈ gt_T := gt_in 311 (by decide +kernel) rfl
theorem gt_312 : Cond.code gy_Tm_giveUpFor gb_Tm_giveUpFor 2 none ∈ gt_T := gt_in 312 rfl rfl
theorem gt_313 : Cond.methodLink "TermBook" 117 gy_Bk_takeOutUnneeded ∈ gt_T := gt_in 313 (by decide +kernel) rfl
theorem gt_315 : Cond.instanceMethod gy_Bk_takeOutUnneeded ∈ gt_T := gt_in 315 (by decide +kernel) rfl
theorem gt_316 : Cond.code gy_Bk_takeOutUnneeded gb_Bk_takeOutUnneeded 5 (some .int) ∈ gt_T := gt_in 316 rfl rfl
theorem gt_321 : Cond.methodLink "TermBook" 121 gy_Bk_countKeptFor ∈ gt_T := gt_in 321 (by decide +kernel) rfl
theorem gt_323 : Cond.instanceMethod gy_Bk_countKeptFor ∈ gt_T := gt_in 323 (by decide +kernel) rfl
theorem gt_324 : Cond.code gy_Bk_countKeptFor gb_Bk_countKeptFor 5 (some .int) ∈ gt_T := gt_in 324 rfl rfl
theorem gt_325 : Cond.methodLink "TermBook" 124 gy_Tm_isKeptFor ∈ gt_T := gt_in 325 (by decide +kernel) rfl
theorem gt_326 : Cond.instanceMethod gy_Tm_isKeptFor ∈ gt_T := gt_in 326 (by decide +kernel) rfl
theorem gt_327 : Cond.selects "TermBook$Term" gy_Tm_isKeptFor gy_Tm_isKeptFor ∈ gt_T := gt_in 327 (by decide +kernel) rfl
theorem gt_328 : Cond.code gy_Tm_isKeptFor gb_Tm_isKeptFor 2 (some .boolean) ∈ gt_T := gt_in 328 rfl rfl
theorem gt_333 : Cond.methodLink "TermBook" 130 gy_Lv_sizeOf ∈ gt_T := gt_in 333 (by decide +kernel) rfl
theorem gt_334 : Cond.methodLink "TermBook" 133 gy_Bk_sharedIn ∈ gt_T := gt_in 334 (by decide +kernel) rfl
theorem gt_336 : Cond.instanceMethod gy_Bk_sharedIn ∈ gt_T := gt_in 336 (by decide +kernel) rfl
theorem gt_337 : Cond.code gy_Bk_sharedIn gb_Bk_sharedIn 5 (some .int) ∈ gt_T := gt_in 337 rfl rfl
theorem gt_338 : Cond.methodLink "TermBook" 139 gy_Lv_startOf ∈ gt_T := gt_in 338 (by decide +kernel) rfl
theorem gt_339 : Cond.instanceMethod gy_Lv_startOf ∈ gt_T := gt_in 339 (by decide +kernel) rfl
theorem gt_340 : Cond.selects "TermBook$Leaves" gy_Lv_startOf gy_Lv_startOf ∈ gt_T := gt_in 340 (by decide +kernel) rfl
theorem gt_341 : Cond.code gy_Lv_startOf gb_Lv_startOf 4 (some .int) ∈ gt_T := gt_in 341 rfl rfl
theorem gt_342 : Cond.methodLink "TermBook" 185 gy_Tx_sharedWith ∈ gt_T := gt_in 342 (by decide +kernel) rfl
theorem gt_343 : Cond.methodLink "TermBook" 136 gy_Bk_costOf ∈ gt_T := gt_in 343 (by decide +kernel) rfl
theorem gt_345 : Cond.instanceMethod gy_Bk_costOf ∈ gt_T := gt_in 345 (by decide +kernel) rfl
theorem gt_346 : Cond.code gy_Bk_costOf gb_Bk_costOf 8 (some .int) ∈ gt_T := gt_in 346 rfl rfl
theorem gt_351 : Cond.methodLink "TermBook" 145 gy_Bk_countKeptVersions ∈ gt_T := gt_in 351 (by decide +kernel) rfl
theorem gt_353 : Cond.instanceMethod gy_Bk_countKeptVersions ∈ gt_T := gt_in 353 (by decide +kernel) rfl
theorem gt_354 : Cond.code gy_Bk_countKeptVersions gb_Bk_countKeptVersions 3 (some .int) ∈ gt_T := gt_in 354 rfl rfl
theorem gt_355 : Cond.methodLink "TermBook" 148 gy_Bk_countUnused ∈ gt_T := gt_in 355 (by decide +kernel) rfl
theorem gt_357 : Cond.instanceMethod gy_Bk_countUnused ∈ gt_T := gt_in 357 (by decide +kernel) rfl
theorem gt_358 : Cond.code gy_Bk_countUnused gb_Bk_countUnused 4 (some .int) ∈ gt_T := gt_in 358 rfl rfl
theorem gt_359 : Cond.methodLink "TermBook" 151 gy_Bk_costOfAll ∈ gt_T := gt_in 359 (by decide +kernel) rfl
theorem gt_361 : Cond.instanceMethod gy_Bk_costOfAll ∈ gt_T := gt_in 361 (by decide +kernel) rfl
theorem gt_362 : Cond.code gy_Bk_costOfAll gb_Bk_costOfAll 3 (some .int) ∈ gt_T := gt_in 362 rfl rfl
end
section
/-! the layout gk: cells and the typed state -/
abbrev gk_St : Type := (Nat → Nat → Int32) × (Nat → Nat → Int64)
def gk_sI (u : gk_St) (c k : Nat) (v : Int32) : gk_St := (fun a b => if a = c ∧ b = k then v else u.1 a b, u.2)
def gk_sL (u : gk_St) (c k : Nat) (v : Int64) : gk_St := (u.1, fun a b => if a = c ∧ b = k then v else u.2 a b)
def gk_vd : Nat → Nat → Prop
  | 0, k => k = 0
  | 1, k => k = 0
  | 2, k => k = 0
  | 3, k => k = 0
  | 4, k => k = 0
  | 5, k => k = 0
  | 6, k => k ≤ 100
  | 7, k => k < 100
  | _, _ => False
def gk_pc (cI cT : ClassId) (ad : Nat → Nat → Nat) (u : gk_St) : Nat → Nat → va_E
  | 0, _ => .inr (0, [.ref (ad 6 100), .ref (ad 1 0), .ref (ad 2 0), .ref (ad 5 0), .int (u.1 10 0)])
  | 1, _ => .inl (cT, 100, .inr (.inr (.inr (.inr (fun j => some (ad 7 j))))))
  | 2, _ => .inr (1, [.ref (ad 3 0), .int (u.1 6 0), .ref (ad 4 0), .int (u.1 8 0)])
  | 3, _ => .inl (cI, 100, .inl (u.1 5))
  | 4, _ => .inl (cI, 100, .inl (u.1 7))
  | 5, _ => .inl (cI, 6, .inl (u.1 9))
  | 6, k => .inr (2, [.long (u.2 0 k), .long (u.2 1 k), .int (u.1 0 k)])
  | 7, k => .inr (3, [.ref (ad 6 k), .int (u.1 1 k), .int (u.1 2 k), .int (u.1 3 k), .int (u.1 4 k)])
  | _, _ => .inr (0, [])
theorem gk_c0 (cI cT : ClassId) (ad : Nat → Nat → Nat) (u : gk_St) : gk_pc cI cT ad u 0 0 = .inr (0, [.ref (ad 6 100), .ref (ad 1 0), .ref (ad 2 0), .ref (ad 5 0), .int (u.1 10 0)]) := rfl
theorem gk_c1 (cI cT : ClassId) (ad : Nat → Nat → Nat) (u : gk_St) : gk_pc cI cT ad u 1 0 = .inl (cT, 100, .inr (.inr (.inr (.inr (fun j => some (ad 7 j)))))) := rfl
theorem gk_c2 (cI cT : ClassId) (ad : Nat → Nat → Nat) (u : gk_St) : gk_pc cI cT ad u 2 0 = .inr (1, [.ref (ad 3 0), .int (u.1 6 0), .ref (ad 4 0), .int (u.1 8 0)]) := rfl
theorem gk_c3 (cI cT : ClassId) (ad : Nat → Nat → Nat) (u : gk_St) : gk_pc cI cT ad u 3 0 = .inl (cI, 100, .inl (u.1 5)) := rfl
theorem gk_c4 (cI cT : ClassId) (ad : Nat → Nat → Nat) (u : gk_St) : gk_pc cI cT ad u 4 0 = .inl (cI, 100, .inl (u.1 7)) := rfl
theorem gk_c5 (cI cT : ClassId) (ad : Nat → Nat → Nat) (u : gk_St) : gk_pc cI cT ad u 5 0 = .inl (cI, 6, .inl (u.1 9)) := rfl
theorem gk_c6 (cI cT : ClassId) (ad : Nat → Nat → Nat) (u : gk_St) (k : Nat) : gk_pc cI cT ad u 6 k = .inr (2, [.long (u.2 0 k), .long (u.2 1 k), .int (u.1 0 k)]) := rfl
theorem gk_c7 (cI cT : ClassId) (ad : Nat → Nat → Nat) (u : gk_St) (k : Nat) : gk_pc cI cT ad u 7 k = .inr (3, [.ref (ad 6 k), .int (u.1 1 k), .int (u.1 2 k), .int (u.1 3 k), .int (u.1 4 k)]) := rfl
theorem gk_w10 (cI cT : ClassId) (ad : Nat → Nat → Nat) (u : gk_St) (v : Int32) : gk_pc cI cT ad (gk_sI u 10 0 v) 0 0 = .inr (0, [.ref (ad 6 100), .ref (ad 1 0), .ref (ad 2 0), .ref (ad 5 0), .int v]) := by simp [gk_pc, gk_sI]
theorem gk_o10 (cI cT : ClassId) (ad : Nat → Nat → Nat) (u : gk_St) (v : Int32) : ∀ c' k', gk_vd c' k' → ¬ (c' = 0 ∧ k' = 0) → gk_pc cI cT ad (gk_sI u 10 0 v) c' k' = gk_pc cI cT ad u c' k' := by
  intro c' k' hv h
  unfold gk_pc gk_sI
  split <;> simp_all [gk_vd]
theorem gk_w6 (cI cT : ClassId) (ad : Nat → Nat → Nat) (u : gk_St) (v : Int32) : gk_pc cI cT ad (gk_sI u 6 0 v) 2 0 = .inr (1, [.ref (ad 3 0), .int v, .ref (ad 4 0), .int (u.1 8 0)]) := by simp [gk_pc, gk_sI]
theorem gk_o6 (cI cT : ClassId) (ad : Nat → Nat → Nat) (u : gk_St) (v : Int32) : ∀ c' k', gk_vd c' k' → ¬ (c' = 2 ∧ k' = 0) → gk_pc cI cT ad (gk_sI u 6 0 v) c' k' = gk_pc cI cT ad u c' k' := by
  intro c' k' hv h
  unfold gk_pc gk_sI
  split <;> simp_all [gk_vd]
theorem gk_w8 (cI cT : ClassId) (ad : Nat → Nat → Nat) (u : gk_St) (v : Int32) : gk_pc cI cT ad (gk_sI u 8 0 v) 2 0 = .inr (1, [.ref (ad 3 0), .int (u.1 6 0), .ref (ad 4 0), .int v]) := by simp [gk_pc, gk_sI]
theorem gk_o8 (cI cT : ClassId) (ad : Nat → Nat → Nat) (u : gk_St) (v : Int32) : ∀ c' k', gk_vd c' k' → ¬ (c' = 2 ∧ k' = 0) → gk_pc cI cT ad (gk_sI u 8 0 v) c' k' = gk_pc cI cT ad u c' k' := by
  intro c' k' hv h
  unfold gk_pc gk_sI
  split <;> simp_all [gk_vd]
theorem gk_w5 (cI cT : ClassId) (ad : Nat → Nat → Nat) (u : gk_St) (j : Nat) (v : Int32) : gk_pc cI cT ad (gk_sI u 5 j v) 3 0 = .inl (cI, 100, .inl (upd (u.1 5) j v)) := by
  simp only [gk_pc, gk_sI, true_and]
  rfl
theorem gk_o5 (cI cT : ClassId) (ad : Nat → Nat → Nat) (u : gk_St) (j : Nat) (v : Int32) : ∀ c' k', gk_vd c' k' → ¬ (c' = 3 ∧ k' = 0) → gk_pc cI cT ad (gk_sI u 5 j v) c' k' = gk_pc cI cT ad u c' k' := by
  intro c' k' hv h
  unfold gk_pc gk_sI
  split <;> simp_all [gk_vd]
theorem gk_w7 (cI cT : ClassId) (ad : Nat → Nat → Nat) (u : gk_St) (j : Nat) (v : Int32) : gk_pc cI cT ad (gk_sI u 7 j v) 4 0 = .inl (cI, 100, .inl (upd (u.1 7) j v)) := by
  simp only [gk_pc, gk_sI, true_and]
  rfl
theorem gk_o7 (cI cT : ClassId) (ad : Nat → Nat → Nat) (u : gk_St) (j : Nat) (v : Int32) : ∀ c' k', gk_vd c' k' → ¬ (c' = 4 ∧ k' = 0) → gk_pc cI cT ad (gk_sI u 7 j v) c' k' = gk_pc cI cT ad u c' k' := by
  intro c' k' hv h
  unfold gk_pc gk_sI
  split <;> simp_all [gk_vd]
theorem gk_w9 (cI cT : ClassId) (ad : Nat → Nat → Nat) (u : gk_St) (j : Nat) (v : Int32) : gk_pc cI cT ad (gk_sI u 9 j v) 5 0 = .inl (cI, 6, .inl (upd (u.1 9) j v)) := by
  simp only [gk_pc, gk_sI, true_and]
  rfl
theorem gk_o9 (cI cT : ClassId) (ad : Nat → Nat → Nat) (u : gk_St) (j : Nat) (v : Int32) : ∀ c' k', gk_vd c' k' → ¬ (c' = 5 ∧ k' = 0) → gk_pc cI cT ad (gk_sI u 9 j v) c' k' = gk_pc cI cT ad u c' k' := by
  intro c' k' hv h
  unfold gk_pc gk_sI
  split <;> simp_all [gk_vd]
theorem gk_w0L (cI cT : ClassId) (ad : Nat → Nat → Nat) (u : gk_St) (k : Nat) (v : Int64) : gk_pc cI cT ad (gk_sL u 0 k v) 6 k = .inr (2, [.long v, .long (u.2 1 k), .int (u.1 0 k)]) := by simp [gk_pc, gk_sL]
theorem gk_o0L (cI cT : ClassId) (ad : Nat → Nat → Nat) (u : gk_St) (k : Nat) (v : Int64) : ∀ c' k', gk_vd c' k' → ¬ (c' = 6 ∧ k' = k) → gk_pc cI cT ad (gk_sL u 0 k v) c' k' = gk_pc cI cT ad u c' k' := by
  intro c' k' hv h
  unfold gk_pc gk_sL
  split <;> simp_all [gk_vd]
theorem gk_w1L (cI cT : ClassId) (ad : Nat → Nat → Nat) (u : gk_St) (k : Nat) (v : Int64) : gk_pc cI cT ad (gk_sL u 1 k v) 6 k = .inr (2, [.long (u.2 0 k), .long v, .int (u.1 0 k)]) := by simp [gk_pc, gk_sL]
theorem gk_o1L (cI cT : ClassId) (ad : Nat → Nat → Nat) (u : gk_St) (k : Nat) (v : Int64) : ∀ c' k', gk_vd c' k' → ¬ (c' = 6 ∧ k' = k) → gk_pc cI cT ad (gk_sL u 1 k v) c' k' = gk_pc cI cT ad u c' k' := by
  intro c' k' hv h
  unfold gk_pc gk_sL
  split <;> simp_all [gk_vd]
theorem gk_w0 (cI cT : ClassId) (ad : Nat → Nat → Nat) (u : gk_St) (k : Nat) (v : Int32) : gk_pc cI cT ad (gk_sI u 0 k v) 6 k = .inr (2, [.long (u.2 0 k), .long (u.2 1 k), .int v]) := by simp [gk_pc, gk_sI]
theorem gk_o0 (cI cT : ClassId) (ad : Nat → Nat → Nat) (u : gk_St) (k : Nat) (v : Int32) : ∀ c' k', gk_vd c' k' → ¬ (c' = 6 ∧ k' = k) → gk_pc cI cT ad (gk_sI u 0 k v) c' k' = gk_pc cI cT ad u c' k' := by
  intro c' k' hv h
  unfold gk_pc gk_sI
  split <;> simp_all [gk_vd]
theorem gk_w1 (cI cT : ClassId) (ad : Nat → Nat → Nat) (u : gk_St) (k : Nat) (v : Int32) : gk_pc cI cT ad (gk_sI u 1 k v) 7 k = .inr (3, [.ref (ad 6 k), .int v, .int (u.1 2 k), .int (u.1 3 k), .int (u.1 4 k)]) := by simp [gk_pc, gk_sI]
theorem gk_o1 (cI cT : ClassId) (ad : Nat → Nat → Nat) (u : gk_St) (k : Nat) (v : Int32) : ∀ c' k', gk_vd c' k' → ¬ (c' = 7 ∧ k' = k) → gk_pc cI cT ad (gk_sI u 1 k v) c' k' = gk_pc cI cT ad u c' k' := by
  intro c' k' hv h
  unfold gk_pc gk_sI
  split <;> simp_all [gk_vd]
theorem gk_w2 (cI cT : ClassId) (ad : Nat → Nat → Nat) (u : gk_St) (k : Nat) (v : Int32) : gk_pc cI cT ad (gk_sI u 2 k v) 7 k = .inr (3, [.ref (ad 6 k), .int (u.1 1 k), .int v, .int (u.1 3 k), .int (u.1 4 k)]) := by simp [gk_pc, gk_sI]
theorem gk_o2 (cI cT : ClassId) (ad : Nat → Nat → Nat) (u : gk_St) (k : Nat) (v : Int32) : ∀ c' k', gk_vd c' k' → ¬ (c' = 7 ∧ k' = k) → gk_pc cI cT ad (gk_sI u 2 k v) c' k' = gk_pc cI cT ad u c' k' := by
  intro c' k' hv h
  unfold gk_pc gk_sI
  split <;> simp_all [gk_vd]
theorem gk_w3 (cI cT : ClassId) (ad : Nat → Nat → Nat) (u : gk_St) (k : Nat) (v : Int32) : gk_pc cI cT ad (gk_sI u 3 k v) 7 k = .inr (3, [.ref (ad 6 k), .int (u.1 1 k), .int (u.1 2 k), .int v, .int (u.1 4 k)]) := by simp [gk_pc, gk_sI]
theorem gk_o3 (cI cT : ClassId) (ad : Nat → Nat → Nat) (u : gk_St) (k : Nat) (v : Int32) : ∀ c' k', gk_vd c' k' → ¬ (c' = 7 ∧ k' = k) → gk_pc cI cT ad (gk_sI u 3 k v) c' k' = gk_pc cI cT ad u c' k' := by
  intro c' k' hv h
  unfold gk_pc gk_sI
  split <;> simp_all [gk_vd]
theorem gk_w4 (cI cT : ClassId) (ad : Nat → Nat → Nat) (u : gk_St) (k : Nat) (v : Int32) : gk_pc cI cT ad (gk_sI u 4 k v) 7 k = .inr (3, [.ref (ad 6 k), .int (u.1 1 k), .int (u.1 2 k), .int (u.1 3 k), .int v]) := by simp [gk_pc, gk_sI]
theorem gk_o4 (cI cT : ClassId) (ad : Nat → Nat → Nat) (u : gk_St) (k : Nat) (v : Int32) : ∀ c' k', gk_vd c' k' → ¬ (c' = 7 ∧ k' = k) → gk_pc cI cT ad (gk_sI u 4 k v) c' k' = gk_pc cI cT ad u c' k' := by
  intro c' k' hv h
  unfold gk_pc gk_sI
  split <;> simp_all [gk_vd]

abbrev gk_NF : List (String × Nat × String × String × String × String) := [("TermBook", 42, "TermBook$Text", "length", "I", "TermBook"), ("TermBook", 95, "TermBook$Term", "text", "LTermBook$Text;", "TermBook"), ("TermBook", 156, "TermBook$Term", "present", "Z", "TermBook"), ("TermBook", 92, "TermBook$Term", "kind", "I", "TermBook"), ("TermBook", 68, "TermBook$Term", "uses", "I", "TermBook"), ("TermBook", 142, "TermBook$Leaves", "filled", "I", "TermBook"), ("TermBook", 127, "TermBook$Leaves", "parts", "I", "TermBook")]
abbrev gk_NM : List (String × Nat × MethodName × String) := [("TermBook", 9, gy_Tx_init, "TermBook"), ("TermBook$Term", 9, gy_Tx_init, "TermBook"), ("TermBook$Text", 20, gy_Bk_byteOf, "TermBook")]
abbrev gk_tys (cI cT : ClassId) : List (ClassId × FieldType) := [(cI, .int), (cT, .object "TermBook$Term")]
def gk_fu : Nat := 1000
end
section
def fn_Ma_min (x y : Int32) : Int32 := if y < x then y else x
def fn_Ma_max (x y : Int32) : Int32 := if x < y then y else x
def fn_In_compare (p0 : Int32) (p1 : Int32) : Int32 := if p1 ≤ p0 then (if p0 = p1 then 0 else 1) else ((-1))
set_option maxHeartbeats 4000000 in
set_option maxRecDepth 100000 in
theorem ct_In_compare (l : Launch) (p0 : Int32) (p1 : Int32) (z : Int32) (hf : fn_In_compare p0 p1 = z) : Met l gy_In_compare gws_In_compare ({ frames := 0, cells := 0, slots := 0, locals := 0 }) (fun v _ => v = ([.int p0, .int p1] : List Value).toArray) (QcRead z) 0 0 (fun _ => False) := by
  refine Met.ofW (cc := gb_In_compare) (maxL := 2) (ret := (some .int)) (by decide) rfl ?_
  intro p e s m args below meth c s₁ B hml hv
  subst hv
  have hx := B.exec
  have hb := B.bytes
  have hr := B.returns
  have hts := atoms_spec (ws := gws_In_compare) B.pre
  have ht := fun (w : Cond) (h : w ∈ gt_T) => hts w (List.mem_cons_of_mem _ h)
  have hown : s.vm.findClass "java/lang/Integer" = some m.cls := findClass_of_methodNamed B.named
  have hlocks := B.notSynchronized
  have hl := lv_entry ([.int p0, .int p1]) (n := 2) (Nat.le_of_ble_eq_true rfl)
  rw [lg_entry_eq]
  generalize (lg_sl ([.int p0, .int p1]) ++ List.replicate (2 - (lg_sl ([.int p0, .int p1])).length) Slot.unset).toArray = ls at hl ⊢
  have hl : lv_has ls 2 [(0, .int p0), (1, .int p1)] := hl
  unfold fn_In_compare at hf
  refine lv_iload_n hx hb gd_In_compare_0 rfl (lv_at hl 0 rfl) ?_
  refine lv_iload_n hx hb gd_In_compare_1 rfl (lv_at hl 1 rfl) ?_
  refine lv_icmp_ge (tgt := 9) hx hb gd_In_compare_2 (by decide) (fun c2 => ?_) (fun c2 => ?_)
  · replace hf := gj_t c2 hf
    refine lv_iload_n hx hb gd_In_compare_9 rfl (lv_at hl 0 rfl) ?_
    refine lv_iload_n hx hb gd_In_compare_10 rfl (lv_at hl 1 rfl) ?_
    refine lv_icmp_ne (tgt := 18) hx hb gd_In_compare_11 (by decide) (fun c1 => ?_) (fun c1 => ?_)
    · replace hf := gj_e c1 hf
      refine lv_iconst (v := 1) hx hb gd_In_compare_18 (by decide) ?_
      subst hf
      exact W.iret hx hb hr (fun t ht hW => ⟨rfl, ht⟩) (fun q h => by cases h) gd_In_compare_19
    · replace hf := gj_t c1 hf
      refine lv_iconst (v := 0) hx hb gd_In_compare_14 (by decide) ?_
      refine lv_goto (tgt := 19) hx hb gd_In_compare_15 (by decide) ?_
      subst hf
      exact W.iret hx hb hr (fun t ht hW => ⟨rfl, ht⟩) (fun q h => by cases h) gd_In_compare_19
  · replace hf := gj_e c2 hf
    refine lv_iconst (v := (-1)) hx hb gd_In_compare_5 (by decide) ?_
    refine lv_goto (tgt := 19) hx hb gd_In_compare_6 (by decide) ?_
    subst hf
    exact W.iret hx hb hr (fun t ht hW => ⟨rfl, ht⟩) (fun q h => by cases h) gd_In_compare_19
def fn_In_numberOfLeadingZeros_73 (x0 : Int32) (x1 : Int32) : Int32 := (x1 - (gj_iushr x0 1))
def fn_In_numberOfLeadingZeros_61 (x0 : Int32) (x1 : Int32) : Int32 := if x0 < 4 then (fn_In_numberOfLeadingZeros_73 x0 x1) else (fn_In_numberOfLeadingZeros_73 (gj_iushr x0 2) (x1 + (-2)))
def fn_In_numberOfLeadingZeros_48 (x0 : Int32) (x1 : Int32) : Int32 := if x0 < 16 then (fn_In_numberOfLeadingZeros_61 x0 x1) else (fn_In_numberOfLeadingZeros_61 (gj_iushr x0 4) (x1 + (-4)))
def fn_In_numberOfLeadingZeros_33 (x0 : Int32) (x1 : Int32) : Int32 := if x0 < 256 then (fn_In_numberOfLeadingZeros_48 x0 x1) else (fn_In_numberOfLeadingZeros_48 (gj_iushr x0 8) (x1 + (-8)))
def fn_In_numberOfLeadingZeros (p0 : Int32) : Int32 := if 0 < p0 then (if p0 < 65536 then (fn_In_numberOfLeadingZeros_33 p0 31) else (fn_In_numberOfLeadingZeros_33 (gj_iushr p0 16) (31 + (-16)))) else (if p0 = 0 then 32 else 0)
set_option maxHeartbeats 4000000 in
set_option maxRecDepth 100000 in
theorem ct_In_numberOfLeadingZeros (l : Launch) (p0 : Int32) (z : Int32) (hf : fn_In_numberOfLeadingZeros p0 = z) : Met l gy_In_numberOfLeadingZeros gws_In_numberOfLeadingZeros ({ frames := 0, cells := 0, slots := 0, locals := 0 }) (fun v _ => v = ([.int p0] : List Value).toArray) (QcRead z) 0 0 (fun _ => False) := by
  refine Met.ofW (cc := gb_In_numberOfLeadingZeros) (maxL := 2) (ret := (some .int)) (by decide) rfl ?_
  intro p e s m args below meth c s₁ B hml hv
  subst hv
  have hx := B.exec
  have hb := B.bytes
  have hr := B.returns
  have hts := atoms_spec (ws := gws_In_numberOfLeadingZeros) B.pre
  have ht := fun (w : Cond) (h : w ∈ gt_T) => hts w (List.mem_cons_of_mem _ h)
  have hown : s.vm.findClass "java/lang/Integer" = some m.cls := findClass_of_methodNamed B.named
  have hlocks := B.notSynchronized
  have hl := lv_entry ([.int p0]) (n := 2) (Nat.le_of_ble_eq_true rfl)
  rw [lg_entry_eq]
  generalize (lg_sl ([.int p0]) ++ List.replicate (2 - (lg_sl ([.int p0])).length) Slot.unset).toArray = ls at hl ⊢
  have hl : lv_has ls 2 [(0, .int p0)] := hl
  have L73 : ∀ (x0 : Int32) (x1 : Int32) (ls : Array Slot), fn_In_numberOfLeadingZeros_73 x0 x1 = z → lv_has ls 2 [(0, .int x0), (1, .int x1)] → W p l e (headSpec gws_In_numberOfLeadingZeros ({ frames := 0, cells := 0, slots := 0, locals := 0 })).room s m ([.int p0] : List Value).toArray below meth c s.heap [] 0 0 (MQ below (QcRead z) ([.int p0] : List Value).toArray s 0 0 (fun _ => False)) (F0 m 73 ls []) := by
    intro x0 x1 ls hf hl
    unfold fn_In_numberOfLeadingZeros_73 at hf
    refine lv_iload_n hx hb gd_In_numberOfLeadingZeros_73 rfl (lv_at hl 1 rfl) ?_
    refine lv_iload_n hx hb gd_In_numberOfLeadingZeros_74 rfl (lv_at hl 0 rfl) ?_
    refine lv_iconst (v := 1) hx hb gd_In_numberOfLeadingZeros_75 (by decide) ?_
    refine lv_iushr (v := gj_iushr x0 1) hx hb gd_In_numberOfLeadingZeros_76 rfl ?_
    refine lv_isub hx hb gd_In_numberOfLeadingZeros_77 ?_
    subst hf
    exact W.iret hx hb hr (fun t ht hW => ⟨rfl, ht⟩) (fun q h => by cases h) gd_In_numberOfLeadingZeros_78
  have L61 : ∀ (x0 : Int32) (x1 : Int32) (ls : Array Slot), fn_In_numberOfLeadingZeros_61 x0 x1 = z → lv_has ls 2 [(0, .int x0), (1, .int x1)] → W p l e (headSpec gws_In_numberOfLeadingZeros ({ frames := 0, cells := 0, slots := 0, locals := 0 })).room s m ([.int p0] : List Value).toArray below meth c s.heap [] 0 0 (MQ below (QcRead z) ([.int p0] : List Value).toArray s 0 0 (fun _ => False)) (F0 m 61 ls []) := by
    intro x0 x1 ls hf hl
    unfold fn_In_numberOfLeadingZeros_61 at hf
    refine lv_iload_n hx hb gd_In_numberOfLeadingZeros_61 rfl (lv_at hl 0 rfl) ?_
    refine lv_iconst (v := 4) hx hb gd_In_numberOfLeadingZeros_62 (by decide) ?_
    refine lv_icmp_lt (tgt := 73) hx hb gd_In_numberOfLeadingZeros_63 (by decide) (fun c1 => ?_) (fun c1 => ?_)
    · replace hf := gj_t c1 hf
      exact L73 x0 x1 _ hf (lv_sub hl [0, 1] rfl)
    · replace hf := gj_e c1 hf
      refine lv_iinc (v := x1 + (-2)) (lv' := [(1, .int (x1 + (-2))), (0, .int x0)]) hx hb gd_In_numberOfLeadingZeros_66 hl (k := 1) rfl rfl (by decide) rfl (fun ls hl => ?_)
      refine lv_iload_n hx hb gd_In_numberOfLeadingZeros_69 rfl (lv_at hl 1 rfl) ?_
      refine lv_iconst (v := 2) hx hb gd_In_numberOfLeadingZeros_70 (by decide) ?_
      refine lv_iushr (v := gj_iushr x0 2) hx hb gd_In_numberOfLeadingZeros_71 rfl ?_
      refine lv_istore_n (lv' := [(0, .int (gj_iushr x0 2)), (1, .int (x1 + (-2)))]) hx hb gd_In_numberOfLeadingZeros_72 rfl hl (by decide) rfl (fun ls hl => ?_)
      exact L73 (gj_iushr x0 2) (x1 + (-2)) _ hf (lv_sub hl [0, 1] rfl)
  have L48 : ∀ (x0 : Int32) (x1 : Int32) (ls : Array Slot), fn_In_numberOfLeadingZeros_48 x0 x1 = z → lv_has ls 2 [(0, .int x0), (1, .int x1)] → W p l e (headSpec gws_In_numberOfLeadingZeros ({ frames := 0, cells := 0, slots := 0, locals := 0 })).room s m ([.int p0] : List Value).toArray below meth c s.heap [] 0 0 (MQ below (QcRead z) ([.int p0] : List Value).toArray s 0 0 (fun _ => False)) (F0 m 48 ls []) := by
    intro x0 x1 ls hf hl
    unfold fn_In_numberOfLeadingZeros_48 at hf
    refine lv_iload_n hx hb gd_In_numberOfLeadingZeros_48 rfl (lv_at hl 0 rfl) ?_
    refine lv_bipush (v := 16) hx hb gd_In_numberOfLeadingZeros_49 (by decide) ?_
    refine lv_icmp_lt (tgt := 61) hx hb gd_In_numberOfLeadingZeros_51 (by decide) (fun c2 => ?_) (fun c2 => ?_)
    · replace hf := gj_t c2 hf
      exact L61 x0 x1 _ hf (lv_sub hl [0, 1] rfl)
    · replace hf := gj_e c2 hf
      refine lv_iinc (v := x1 + (-4)) (lv' := [(1, .int (x1 + (-4))), (0, .int x0)]) hx hb gd_In_numberOfLeadingZeros_54 hl (k := 1) rfl rfl (by decide) rfl (fun ls hl => ?_)
      refine lv_iload_n hx hb gd_In_numberOfLeadingZeros_57 rfl (lv_at hl 1 rfl) ?_
      refine lv_iconst (v := 4) hx hb gd_In_numberOfLeadingZeros_58 (by decide) ?_
      refine lv_iushr (v := gj_iushr x0 4) hx hb gd_In_numberOfLeadingZeros_59 rfl ?_
      refine lv_istore_n (lv' := [(0, .int (gj_iushr x0 4)), (1, .int (x1 + (-4)))]) hx hb gd_In_numberOfLeadingZeros_60 rfl hl (by decide) rfl (fun ls hl => ?_)
      exact L61 (gj_iushr x0 4) (x1 + (-4)) _ hf (lv_sub hl [0, 1] rfl)
  have L33 : ∀ (x0 : Int32) (x1 : Int32) (ls : Array Slot), fn_In_numberOfLeadingZeros_33 x0 x1 = z → lv_has ls 2 [(0, .int x0), (1, .int x1)] → W p l e (headSpec gws_In_numberOfLeadingZeros ({ frames := 0, cells := 0, slots := 0, locals := 0 })).room s m ([.int p0] : List Value).toArray below meth c s.heap [] 0 0 (MQ below (QcRead z) ([.int p0] : List Value).toArray s 0 0 (fun _ => False)) (F0 m 33 ls []) := by
    intro x0 x1 ls hf hl
    unfold fn_In_numberOfLeadingZeros_33 at hf
    refine lv_iload_n hx hb gd_In_numberOfLeadingZeros_33 rfl (lv_at hl 0 rfl) ?_
    refine lv_sipush (v := 256) hx hb gd_In_numberOfLeadingZeros_34 (by decide) ?_
    refine lv_icmp_lt (tgt := 48) hx hb gd_In_numberOfLeadingZeros_37 (by decide) (fun c3 => ?_) (fun c3 => ?_)
    · replace hf := gj_t c3 hf
      exact L48 x0 x1 _ hf (lv_sub hl [0, 1] rfl)
    · replace hf := gj_e c3 hf
      refine lv_iinc (v := x1 + (-8)) (lv' := [(1, .int (x1 + (-8))), (0, .int x0)]) hx hb gd_In_numberOfLeadingZeros_40 hl (k := 1) rfl rfl (by decide) rfl (fun ls hl => ?_)
      refine lv_iload_n hx hb gd_In_numberOfLeadingZeros_43 rfl (lv_at hl 1 rfl) ?_
      refine lv_bipush (v := 8) hx hb gd_In_numberOfLeadingZeros_44 (by decide) ?_
      refine lv_iushr (v := gj_iushr x0 8) hx hb gd_In_numberOfLeadingZeros_46 rfl ?_
      refine lv_istore_n (lv' := [(0, .int (gj_iushr x0 8)), (1, .int (x1 + (-8)))]) hx hb gd_In_numberOfLeadingZeros_47 rfl hl (by decide) rfl (fun ls hl => ?_)
      exact L48 (gj_iushr x0 8) (x1 + (-8)) _ hf (lv_sub hl [0, 1] rfl)
  unfold fn_In_numberOfLeadingZeros at hf
  refine lv_iload_n hx hb gd_In_numberOfLeadingZeros_0 rfl (lv_at hl 0 rfl) ?_
  refine lv_if_gt (tgt := 15) hx hb gd_In_numberOfLeadingZeros_1 (by decide) (fun c6 => ?_) (fun c6 => ?_)
  · replace hf := gj_t c6 hf
    refine lv_bipush (v := 31) hx hb gd_In_numberOfLeadingZeros_15 (by decide) ?_
    refine lv_istore_n (lv' := [(1, .int 31), (0, .int p0)]) hx hb gd_In_numberOfLeadingZeros_17 rfl hl (by decide) rfl (fun ls hl => ?_)
    refine lv_iload_n hx hb gd_In_numberOfLeadingZeros_18 rfl (lv_at hl 1 rfl) ?_
    refine lv_ldcw (v := 65536) hx hb hown (ht _ gt_283) gd_In_numberOfLeadingZeros_19 ?_
    refine lv_icmp_lt (tgt := 33) hx hb gd_In_numberOfLeadingZeros_22 (by decide) (fun c4 => ?_) (fun c4 => ?_)
    · replace hf := gj_t c4 hf
      exact L33 p0 31 _ hf (lv_sub hl [1, 0] rfl)
    · replace hf := gj_e c4 hf
      refine lv_iinc (v := 31 + (-16)) (lv' := [(1, .int (31 + (-16))), (0, .int p0)]) hx hb gd_In_numberOfLeadingZeros_25 hl (k := 0) rfl rfl (by decide) rfl (fun ls hl => ?_)
      refine lv_iload_n hx hb gd_In_numberOfLeadingZeros_28 rfl (lv_at hl 1 rfl) ?_
      refine lv_bipush (v := 16) hx hb gd_In_numberOfLeadingZeros_29 (by decide) ?_
      refine lv_iushr (v := gj_iushr p0 16) hx hb gd_In_numberOfLeadingZeros_31 rfl ?_
      refine lv_istore_n (lv' := [(0, .int (gj_iushr p0 16)), (1, .int (31 + (-16)))]) hx hb gd_In_numberOfLeadingZeros_32 rfl hl (by decide) rfl (fun ls hl => ?_)
      exact L33 (gj_iushr p0 16) (31 + (-16)) _ hf (lv_sub hl [0, 1] rfl)
  · replace hf := gj_e c6 hf
    refine lv_iload_n hx hb gd_In_numberOfLeadingZeros_4 rfl (lv_at hl 0 rfl) ?_
    refine lv_if_ne (tgt := 13) hx hb gd_In_numberOfLeadingZeros_5 (by decide) (fun c5 => ?_) (fun c5 => ?_)
    · replace hf := gj_e c5 hf
      refine lv_iconst (v := 0) hx hb gd_In_numberOfLeadingZeros_13 (by decide) ?_
      subst hf
      exact W.iret hx hb hr (fun t ht hW => ⟨rfl, ht⟩) (fun q h => by cases h) gd_In_numberOfLeadingZeros_14
    · replace hf := gj_t c5 hf
      refine lv_bipush (v := 32) hx hb gd_In_numberOfLeadingZeros_8 (by decide) ?_
      refine lv_goto (tgt := 14) hx hb gd_In_numberOfLeadingZeros_10 (by decide) ?_
      subst hf
      exact W.iret hx hb hr (fun t ht hW => ⟨rfl, ht⟩) (fun q h => by cases h) gd_In_numberOfLeadingZeros_14
def fn_Lo_compare (p0 : Int64) (p2 : Int64) : Int32 := if 0 ≤ (lg_cmp p0 p2) then (if (lg_cmp p0 p2) = 0 then 0 else 1) else ((-1))
set_option maxHeartbeats 4000000 in
set_option maxRecDepth 100000 in
theorem ct_Lo_compare (l : Launch) (p0 : Int64) (p2 : Int64) (z : Int32) (hf : fn_Lo_compare p0 p2 = z) : Met l gy_Lo_compare gws_Lo_compare ({ frames := 0, cells := 0, slots := 0, locals := 0 }) (fun v _ => v = ([.long p0, .long p2] : List Value).toArray) (QcRead z) 0 0 (fun _ => False) := by
  refine Met.ofW (cc := gb_Lo_compare) (maxL := 4) (ret := (some .int)) (by decide) rfl ?_
  intro p e s m args below meth c s₁ B hml hv
  subst hv
  have hx := B.exec
  have hb := B.bytes
  have hr := B.returns
  have hts := atoms_spec (ws := gws_Lo_compare) B.pre
  have ht := fun (w : Cond) (h : w ∈ gt_T) => hts w (List.mem_cons_of_mem _ h)
  have hown : s.vm.findClass "java/lang/Long" = some m.cls := findClass_of_methodNamed B.named
  have hlocks := B.notSynchronized
  have hl := lv_entry ([.long p0, .long p2]) (n := 4) (Nat.le_of_ble_eq_true rfl)
  rw [lg_entry_eq]
  generalize (lg_sl ([.long p0, .long p2]) ++ List.replicate (4 - (lg_sl ([.long p0, .long p2])).length) Slot.unset).toArray = ls at hl ⊢
  have hl : lv_has ls 4 [(0, .long p0), (2, .long p2)] := hl
  unfold fn_Lo_compare at hf
  refine lv_lload_n hx hb gd_Lo_compare_0 rfl (lv_at hl 0 rfl) ?_
  refine lv_lload_n hx hb gd_Lo_compare_1 rfl (lv_at hl 1 rfl) ?_
  refine W.lcmp hx hb gd_Lo_compare_2 ?_
  refine lv_if_ge (tgt := 10) hx hb gd_Lo_compare_3 (by decide) (fun c2 => ?_) (fun c2 => ?_)
  · replace hf := gj_t c2 hf
    refine lv_lload_n hx hb gd_Lo_compare_10 rfl (lv_at hl 0 rfl) ?_
    refine lv_lload_n hx hb gd_Lo_compare_11 rfl (lv_at hl 1 rfl) ?_
    refine W.lcmp hx hb gd_Lo_compare_12 ?_
    refine lv_if_ne (tgt := 20) hx hb gd_Lo_compare_13 (by decide) (fun c1 => ?_) (fun c1 => ?_)
    · replace hf := gj_e c1 hf
      refine lv_iconst (v := 1) hx hb gd_Lo_compare_20 (by decide) ?_
      subst hf
      exact W.iret hx hb hr (fun t ht hW => ⟨rfl, ht⟩) (fun q h => by cases h) gd_Lo_compare_21
    · replace hf := gj_t c1 hf
      refine lv_iconst (v := 0) hx hb gd_Lo_compare_16 (by decide) ?_
      refine lv_goto (tgt := 21) hx hb gd_Lo_compare_17 (by decide) ?_
      subst hf
      exact W.iret hx hb hr (fun t ht hW => ⟨rfl, ht⟩) (fun q h => by cases h) gd_Lo_compare_21
  · replace hf := gj_e c2 hf
    refine lv_iconst (v := (-1)) hx hb gd_Lo_compare_6 (by decide) ?_
    refine lv_goto (tgt := 21) hx hb gd_Lo_compare_7 (by decide) ?_
    subst hf
    exact W.iret hx hb hr (fun t ht hW => ⟨rfl, ht⟩) (fun q h => by cases h) gd_Lo_compare_21
def fn_Lo_numberOfLeadingZeros (p0 : Int64) : Int32 := if (Int64.toInt32 (gj_lushr p0 32)) = 0 then ((32 + (fn_In_numberOfLeadingZeros (Int64.toInt32 p0)))) else ((fn_In_numberOfLeadingZeros (Int64.toInt32 (gj_lushr p0 32))))
set_option maxHeartbeats 4000000 in
set_option maxRecDepth 100000 in
theorem ct_Lo_numberOfLeadingZeros (l : Launch) (p0 : Int64) (z : Int32) (hf : fn_Lo_numberOfLeadingZeros p0 = z) : Met l gy_Lo_numberOfLeadingZeros gws_Lo_numberOfLeadingZeros ({ frames := 1, cells := 0, slots := 0, locals := 21 }) (fun v _ => v = ([.long p0] : List Value).toArray) (QcRead z) 0 0 (fun _ => False) := by
  refine Met.ofW (cc := gb_Lo_numberOfLeadingZeros) (maxL := 3) (ret := (some .int)) (by decide) rfl ?_
  intro p e s m args below meth c s₁ B hml hv
  subst hv
  have hx := B.exec
  have hb := B.bytes
  have hr := B.returns
  have hts := atoms_spec (ws := gws_Lo_numberOfLeadingZeros) B.pre
  have ht := fun (w : Cond) (h : w ∈ gt_T) => hts w (List.mem_cons_of_mem _ h)
  have hown : s.vm.findClass "java/lang/Long" = some m.cls := findClass_of_methodNamed B.named
  have hlocks := B.notSynchronized
  have hl := lv_entry ([.long p0]) (n := 3) (Nat.le_of_ble_eq_true rfl)
  rw [lg_entry_eq]
  generalize (lg_sl ([.long p0]) ++ List.replicate (3 - (lg_sl ([.long p0])).length) Slot.unset).toArray = ls at hl ⊢
  have hl : lv_has ls 3 [(0, .long p0)] := hl
  unfold fn_Lo_numberOfLeadingZeros at hf
  refine lv_lload_n hx hb gd_Lo_numberOfLeadingZeros_0 rfl (lv_at hl 0 rfl) ?_
  refine lv_bipush (v := 32) hx hb gd_Lo_numberOfLeadingZeros_1 (by decide) ?_
  refine lv_lushr (v := gj_lushr p0 32) hx hb gd_Lo_numberOfLeadingZeros_3 rfl ?_
  refine lv_l2i hx hb gd_Lo_numberOfLeadingZeros_4 rfl ?_
  refine lv_istore_n (lv' := [(2, .int (Int64.toInt32 (gj_lushr p0 32))), (0, .long p0)]) hx hb gd_Lo_numberOfLeadingZeros_5 rfl hl (by decide) rfl (fun ls hl => ?_)
  refine lv_iload_n hx hb gd_Lo_numberOfLeadingZeros_6 rfl (lv_at hl 0 rfl) ?_
  refine lv_if_ne (tgt := 21) hx hb gd_Lo_numberOfLeadingZeros_7 (by decide) (fun c1 => ?_) (fun c1 => ?_)
  · replace hf := gj_e c1 hf
    refine lv_iload_n hx hb gd_Lo_numberOfLeadingZeros_21 rfl (lv_at hl 0 rfl) ?_
    refine W.callR (W.runS (As := [.int (Int64.toInt32 (gj_lushr p0 32))]) (rest := []) ⟨hx, hb, hml, hown, hts⟩ (ct_In_numberOfLeadingZeros l (Int64.toInt32 (gj_lushr p0 32)) _ rfl) (va_cwS 1 hts (gt_S gt_280 gt_281 gt_6 gt_282) rfl rfl rfl (by decide +kernel) ⟨Nat.le_of_ble_eq_true rfl, Nat.le_of_ble_eq_true rfl⟩) preEq rfl rfl hl.1 rfl (lv_room (Nat.le_of_ble_eq_true rfl)) gd_Lo_numberOfLeadingZeros_22 ⟨Nat.zero_le _, Nat.zero_le _⟩) ?_
    refine W.eq (g2 := F0 m 25 ls (.int (fn_In_numberOfLeadingZeros (Int64.toInt32 (gj_lushr p0 32))) :: [])) rfl ?_
    subst hf
    exact W.iret hx hb hr (fun t ht hW => ⟨rfl, ht⟩) (fun q h => by cases h) gd_Lo_numberOfLeadingZeros_25
  · replace hf := gj_t c1 hf
    refine lv_bipush (v := 32) hx hb gd_Lo_numberOfLeadingZeros_10 (by decide) ?_
    refine lv_lload_n hx hb gd_Lo_numberOfLeadingZeros_12 rfl (lv_at hl 1 rfl) ?_
    refine lv_l2i hx hb gd_Lo_numberOfLeadingZeros_13 rfl ?_
    refine W.callR (W.runS (As := [.int (Int64.toInt32 p0)]) (rest := [.int 32]) ⟨hx, hb, hml, hown, hts⟩ (ct_In_numberOfLeadingZeros l (Int64.toInt32 p0) _ rfl) (va_cwS 1 hts (gt_S gt_280 gt_281 gt_6 gt_282) rfl rfl rfl (by decide +kernel) ⟨Nat.le_of_ble_eq_true rfl, Nat.le_of_ble_eq_true rfl⟩) preEq rfl rfl hl.1 rfl (lv_room (Nat.le_of_ble_eq_true rfl)) gd_Lo_numberOfLeadingZeros_14 ⟨Nat.zero_le _, Nat.zero_le _⟩) ?_
    refine W.eq (g2 := F0 m 17 ls (.int (fn_In_numberOfLeadingZeros (Int64.toInt32 p0)) :: [.int 32])) rfl ?_
    refine lv_iadd hx hb gd_Lo_numberOfLeadingZeros_17 ?_
    refine lv_goto (tgt := 25) hx hb gd_Lo_numberOfLeadingZeros_18 (by decide) ?_
    subst hf
    exact W.iret hx hb hr (fun t ht hW => ⟨rfl, ht⟩) (fun q h => by cases h) gd_Lo_numberOfLeadingZeros_25
end
section
def fn_Bk_byteOf (p0 : Int64) (p2 : Int32) (u : gk_St) : Option (Int32 × gk_St) := some ((Int64.toInt32 ((gj_lushr p0 (8 * p2)) &&& 255)), u)
def fn_Bk_allFit_2 : Nat → Int64 → Int32 → Int32 → gk_St → Option (Int32 × gk_St)
  | 0, _, _, _, _ => none
  | n + 1, x0, x2, x3, u => if x2 ≤ x3 then (some (1, u)) else ((fn_Bk_byteOf x0 x3 u).bind fun z1 => (if z1.1 < 33 then (some (0, z1.2)) else (if z1.1 ≤ 126 then (fn_Bk_allFit_2 n x0 x2 (x3 + 1) z1.2) else (some (0, z1.2)))))
def fn_Bk_allFit (p0 : Int64) (p2 : Int32) (u : gk_St) : Option (Int32 × gk_St) := fn_Bk_allFit_2 gk_fu p0 p2 0 u
def fn_Tx_append (k : Nat) (p1 : Int32) (u : gk_St) : Option (gk_St) := if 8 ≤ (u.1 0 k) then (if 16 ≤ (u.1 0 k) then (some u) else (some (gk_sI (gk_sL u 1 k ((u.2 1 k) ||| (gj_lshl (Int32.toInt64 p1) (8 * (15 - (u.1 0 k)))))) 0 k (((gk_sL u 1 k ((u.2 1 k) ||| (gj_lshl (Int32.toInt64 p1) (8 * (15 - (u.1 0 k)))))).1 0 k) + 1)))) else (some (gk_sI (gk_sL u 0 k ((u.2 0 k) ||| (gj_lshl (Int32.toInt64 p1) (8 * (7 - (u.1 0 k)))))) 0 k (((gk_sL u 0 k ((u.2 0 k) ||| (gj_lshl (Int32.toInt64 p1) (8 * (7 - (u.1 0 k)))))).1 0 k) + 1)))
def fn_Bk_type_43 : Nat → Int64 → Int32 → Int32 → gk_St → Option (Int32 × gk_St)
  | 0, _, _, _, _ => none
  | n + 1, x1, x3, x4, u => if x4 < 0 then (some ((u.1 0 100), u)) else ((fn_Bk_byteOf x1 x4 u).bind fun z3 => ((fn_Tx_append 100 z3.1 z3.2).bind fun z5 => (fn_Bk_type_43 n x1 x3 (x4 + (-1)) z5)))
def fn_Bk_type (p1 : Int64) (p3 : Int32) (u : gk_St) : Option (Int32 × gk_St) := if p3 < 1 then (some ((-1), u)) else (if 8 < p3 then (some ((-1), u)) else ((fn_Bk_allFit p1 p3 u).bind fun z1 => (if z1.1 = 0 then (some ((-1), z1.2)) else (if ((z1.2.1 0 100) + p3) ≤ 16 then (fn_Bk_type_43 gk_fu p1 p3 (p3 - 1) z1.2) else (some ((-3), z1.2))))))
def fn_Tx_empty (k : Nat) (u : gk_St) : Option (gk_St) := some (gk_sI (gk_sL (gk_sL u 0 k 0) 1 k 0) 0 k 0)
def fn_Bk_clear  (u : gk_St) : Option (Int32 × gk_St) := (fn_Tx_empty 100 u).bind fun z1 => (some ((u.1 0 100), z1))
def fn_Bk_isKind (p0 : Int32) (u : gk_St) : Option (Int32 × gk_St) := if p0 < 0 then (some (0, u)) else (if 4 ≤ p0 then (some (0, u)) else (some (1, u)))
def fn_Lv_numberAt (p1 : Int32) (u : gk_St) : Option (Int32 × gk_St) := if p1 < 0 then (some ((-1), u)) else (if (u.1 6 0) ≤ p1 then (some ((-1), u)) else (if 100 ≤ p1 then (some ((-1), u)) else (if gj_in p1 100 then some ((u.1 5 (Int32.toNatClampNeg p1)), u) else none)))
def fn_Bk_inBook (p1 : Int32) (u : gk_St) : Option (Option Nat × gk_St) := if p1 < 0 then (some (none, u)) else (if p1 < 100 then (if gj_in p1 100 then if (u.1 1 (Int32.toNatClampNeg p1)) = 0 then (some (none, u)) else (some (some (Int32.toNatClampNeg p1), u)) else none) else (some (none, u)))
def fn_Tx_compareWith (k : Nat) (q1 : Nat) (u : gk_St) : Option (Int32 × gk_St) := if (lg_cmp (u.2 0 k) (u.2 0 q1)) = 0 then (some ((fn_Lo_compare (u.2 1 k) (u.2 1 q1)), u)) else (some ((fn_Lo_compare (u.2 0 k) (u.2 0 q1)), u))
def fn_Tm_compareWith (k : Nat) (p1 : Int32) (q2 : Nat) (u : gk_St) : Option (Int32 × gk_St) := if (u.1 2 k) = p1 then ((fn_Tx_compareWith k q2 u).bind fun z1 => (some (z1.1, z1.2))) else (some ((fn_In_compare (u.1 2 k) p1), u))
def fn_Bk_isBeforeTape (p1 : Int32) (p2 : Int32) (u : gk_St) : Option (Int32 × gk_St) := (fn_Bk_inBook p1 u).bind fun z1 => match z1 with | (none, u4) => (some (0, u4)) | (some k5, u4) => ((fn_Tm_compareWith k5 p2 100 u4).bind fun z6 => (if 0 ≤ z6.1 then (some (0, z6.2)) else (some (1, z6.2))))
def fn_Bk_placeOfTape_2 : Nat → Int32 → Int32 → gk_St → Option (Int32 × gk_St)
  | 0, _, _, _ => none
  | n + 1, x1, x2, u => if (u.1 6 0) ≤ x2 then (some (x2, u)) else ((fn_Lv_numberAt x2 u).bind fun z1 => ((fn_Bk_isBeforeTape z1.1 x1 z1.2).bind fun z3 => (if z3.1 = 0 then (some (x2, z3.2)) else (fn_Bk_placeOfTape_2 n x1 (x2 + 1) z3.2))))
def fn_Bk_placeOfTape (p1 : Int32) (u : gk_St) : Option (Int32 × gk_St) := fn_Bk_placeOfTape_2 gk_fu p1 0 u
def fn_Bk_isTape (p1 : Int32) (p2 : Int32) (u : gk_St) : Option (Int32 × gk_St) := (fn_Bk_inBook p1 u).bind fun z1 => match z1 with | (none, u4) => (some (0, u4)) | (some k5, u4) => ((fn_Tm_compareWith k5 p2 100 u4).bind fun z6 => (if z6.1 = 0 then (some (1, z6.2)) else (some (0, z6.2))))
def fn_Bk_leastFree_2 : Nat → Int32 → gk_St → Option (Int32 × gk_St)
  | 0, _, _ => none
  | n + 1, x1, u => if 100 ≤ x1 then (some ((-1), u)) else ((fn_Bk_inBook x1 u).bind fun z1 => match z1 with | (none, u4) => (some (x1, u4)) | (some k5, u4) => (fn_Bk_leastFree_2 n (x1 + 1) u4))
def fn_Bk_leastFree  (u : gk_St) : Option (Int32 × gk_St) := fn_Bk_leastFree_2 gk_fu 0 u
def fn_Tx_copyOf (k : Nat) (q1 : Nat) (u : gk_St) : Option (gk_St) := some (gk_sI (gk_sL (gk_sL u 0 k (u.2 0 q1)) 1 k ((gk_sL u 0 k (u.2 0 q1)).2 1 q1)) 0 k ((gk_sL (gk_sL u 0 k (u.2 0 q1)) 1 k ((gk_sL u 0 k (u.2 0 q1)).2 1 q1)).1 0 q1))
def fn_Tm_comeAs (k : Nat) (p1 : Int32) (q2 : Nat) (u : gk_St) : Option (gk_St) := (fn_Tx_copyOf k q2 u).bind fun z1 => (some (gk_sI (gk_sI (gk_sI (gk_sI z1 2 k p1) 3 k 0) 4 k 0) 1 k 1))
def fn_Lv_sizeOf (p1 : Int32) (u : gk_St) : Option (Int32 × gk_St) := if p1 < 0 then (some (0, u)) else (if (u.1 8 0) ≤ p1 then (some (0, u)) else (if 100 ≤ p1 then (some (0, u)) else (if gj_in p1 100 then some ((u.1 7 (Int32.toNatClampNeg p1)), u) else none)))
def fn_Lv_leafOf_4 : Nat → Int32 → Int32 → Int32 → gk_St → Option (Int32 × gk_St)
  | 0, _, _, _, _ => none
  | n + 1, x1, x2, x3, u => if (u.1 8 0) ≤ x3 then (some ((fn_Ma_max ((u.1 8 0) - 1) 0), u)) else ((fn_Lv_sizeOf x3 u).bind fun z1 => (if (x2 + z1.1) ≤ x1 then (fn_Lv_leafOf_4 n x1 (x2 + z1.1) (x3 + 1) z1.2) else (some (x3, z1.2))))
def fn_Lv_leafOf (p1 : Int32) (u : gk_St) : Option (Int32 × gk_St) := fn_Lv_leafOf_4 gk_fu p1 0 0 u
def fn_Lv_resize (p1 : Int32) (p2 : Int32) (u : gk_St) : Option (gk_St) := if p1 < 0 then (some u) else (if (u.1 8 0) ≤ p1 then (some u) else (if 100 ≤ p1 then (some u) else (if gj_in p1 100 then if gj_in p1 100 then some (gk_sI u 7 (Int32.toNatClampNeg p1) ((u.1 7 (Int32.toNatClampNeg p1)) + p2)) else none else none)))
def fn_Lv_part_18 : Nat → Int32 → Int32 → gk_St → Option (gk_St)
  | 0, _, _, _ => none
  | n + 1, x1, x2, u => if x2 ≤ (x1 + 1) then (if gj_in x1 100 then if gj_in (x1 + 1) 100 then if gj_in x1 100 then some (gk_sI (gk_sI (gk_sI u 8 0 ((u.1 8 0) + 1)) 7 (Int32.toNatClampNeg (x1 + 1)) (((gk_sI u 8 0 ((u.1 8 0) + 1)).1 7 (Int32.toNatClampNeg x1)) - 4)) 7 (Int32.toNatClampNeg x1) 4) else none else none else none) else (if gj_in (x2 - 1) 100 then if gj_in x2 100 then fn_Lv_part_18 n x1 (x2 + (-1)) (gk_sI u 7 (Int32.toNatClampNeg x2) (u.1 7 (Int32.toNatClampNeg (x2 - 1)))) else none else none)
def fn_Lv_part (p1 : Int32) (u : gk_St) : Option (gk_St) := if (u.1 8 0) < 100 then (fn_Lv_part_18 gk_fu p1 (u.1 8 0) u) else (some u)
def fn_Lv_insert_37 : Nat → Int32 → Int32 → Int32 → Int32 → gk_St → Option (gk_St)
  | 0, _, _, _, _, _ => none
  | n + 1, x1, x2, x3, x4, u => if x4 ≤ x1 then (if gj_in x1 100 then if ((gk_sI (gk_sI u 5 (Int32.toNatClampNeg x1) x2) 6 0 (((gk_sI u 5 (Int32.toNatClampNeg x1) x2).1 6 0) + 1)).1 8 0) = 0 then ((fn_Lv_resize x3 1 (gk_sI (gk_sI (gk_sI u 5 (Int32.toNatClampNeg x1) x2) 6 0 (((gk_sI u 5 (Int32.toNatClampNeg x1) x2).1 6 0) + 1)) 8 0 1)).bind fun z11 => ((fn_Lv_sizeOf x3 z11).bind fun z13 => (if z13.1 ≤ 8 then (some z13.2) else ((fn_Lv_part x3 z13.2).bind fun z15 => (some z15))))) else ((fn_Lv_resize x3 1 (gk_sI (gk_sI u 5 (Int32.toNatClampNeg x1) x2) 6 0 (((gk_sI u 5 (Int32.toNatClampNeg x1) x2).1 6 0) + 1))).bind fun z4 => ((fn_Lv_sizeOf x3 z4).bind fun z6 => (if z6.1 ≤ 8 then (some z6.2) else ((fn_Lv_part x3 z6.2).bind fun z8 => (some z8))))) else none) else (if gj_in (x4 - 1) 100 then if gj_in x4 100 then fn_Lv_insert_37 n x1 x2 x3 (x4 + (-1)) (gk_sI u 5 (Int32.toNatClampNeg x4) (u.1 5 (Int32.toNatClampNeg (x4 - 1)))) else none else none)
def fn_Lv_insert (p1 : Int32) (p2 : Int32) (u : gk_St) : Option (gk_St) := if p1 < 0 then (some u) else (if (u.1 6 0) < p1 then (some u) else (if (u.1 6 0) < 100 then ((fn_Lv_leafOf p1 u).bind fun z1 => (fn_Lv_insert_37 gk_fu p1 p2 z1.1 (z1.2.1 6 0) z1.2)) else (some u)))
def fn_Bk_bringTape (p1 : Int32) (p2 : Int32) (u : gk_St) : Option (Int32 × gk_St) := (fn_Bk_leastFree u).bind fun z1 => (if z1.1 = (-1) then (some ((-1), z1.2)) else (if gj_in z1.1 100 then if gj_in z1.1 100 then (fn_Tm_comeAs (Int32.toNatClampNeg z1.1) p1 100 z1.2).bind fun z5 => ((fn_Lv_insert p2 z1.1 z5).bind fun z7 => (some (z1.1, z7))) else none else none))
def fn_Bk_useTape (p1 : Int32) (u : gk_St) : Option (Int32 × gk_St) := (fn_Bk_placeOfTape p1 u).bind fun z1 => ((fn_Lv_numberAt z1.1 z1.2).bind fun z3 => ((fn_Bk_isTape z3.1 p1 z3.2).bind fun z5 => (if z5.1 = 0 then ((fn_Bk_bringTape p1 z1.1 z5.2).bind fun z12 => ((fn_Bk_inBook z12.1 z12.2).bind fun z14 => match z14 with | (none, u17) => (some ((-3), u17)) | (some k18, u17) => (some (z12.1, (gk_sI u17 3 k18 ((u17.1 3 k18) + 1)))))) else ((fn_Bk_inBook z3.1 z5.2).bind fun z7 => match z7 with | (none, u10) => (some ((-3), u10)) | (some k11, u10) => (some (z3.1, (gk_sI u10 3 k11 ((u10.1 3 k11) + 1))))))))
def fn_Bk_add (p1 : Int32) (u : gk_St) : Option (Int32 × gk_St) := (fn_Bk_isKind p1 u).bind fun z1 => (if z1.1 = 0 then ((fn_Tx_empty 100 z1.2).bind fun z3 => (some ((-1), z3))) else (if (z1.2.1 0 100) ≤ 0 then ((fn_Tx_empty 100 z1.2).bind fun z5 => (some ((-1), z5))) else ((fn_Bk_useTape p1 z1.2).bind fun z7 => ((fn_Tx_empty 100 z7.2).bind fun z9 => (some (z7.1, z9))))))
def fn_Tm_isNeeded (k : Nat) (u : gk_St) : Option (Int32 × gk_St) := if 0 < (u.1 3 k) then (some (1, u)) else (if (u.1 4 k) = 0 then (some (0, u)) else (some (1, u)))
def fn_Lv_placeOf_2 : Nat → Int32 → Int32 → gk_St → Option (Int32 × gk_St)
  | 0, _, _, _ => none
  | n + 1, x1, x2, u => if (u.1 6 0) ≤ x2 then (some ((-1), u)) else ((fn_Lv_numberAt x2 u).bind fun z1 => (if z1.1 = x1 then (some (x2, z1.2)) else (fn_Lv_placeOf_2 n x1 (x2 + 1) z1.2)))
def fn_Lv_placeOf (p1 : Int32) (u : gk_St) : Option (Int32 × gk_St) := fn_Lv_placeOf_2 gk_fu p1 0 u
def fn_Lv_dropEmpty  (u : gk_St) : Option (gk_St) := if (u.1 6 0) = 0 then (some (gk_sI u 8 0 0)) else (some u)
def fn_Lv_joinNext_26 : Nat → Int32 → Int32 → gk_St → Option (gk_St)
  | 0, _, _, _ => none
  | n + 1, x1, x2, u => if (u.1 8 0) ≤ x2 then (some u) else (if gj_in (x2 + 1) 100 then if gj_in x2 100 then fn_Lv_joinNext_26 n x1 (x2 + 1) (gk_sI u 7 (Int32.toNatClampNeg x2) (u.1 7 (Int32.toNatClampNeg (x2 + 1)))) else none else none)
def fn_Lv_joinNext (p1 : Int32) (u : gk_St) : Option (gk_St) := (fn_Lv_sizeOf (p1 + 1) u).bind fun z1 => ((fn_Lv_resize p1 z1.1 z1.2).bind fun z3 => (fn_Lv_joinNext_26 gk_fu p1 (p1 + 1) (gk_sI z3 8 0 ((z3.1 8 0) - 1))))
def fn_Lv_mend (p1 : Int32) (u : gk_St) : Option (gk_St) := if 2 ≤ (u.1 8 0) then (if (u.1 8 0) ≤ (p1 + 1) then ((fn_Lv_sizeOf p1 u).bind fun z1 => ((fn_Lv_sizeOf (p1 - 1) z1.2).bind fun z3 => (if 8 < (z1.1 + z3.1) then ((fn_Lv_resize p1 1 z3.2).bind fun z5 => ((fn_Lv_resize (p1 - 1) (-1) z5).bind fun z7 => (some z7))) else ((fn_Lv_joinNext (fn_Ma_min p1 (p1 - 1)) z3.2).bind fun z9 => (some z9))))) else ((fn_Lv_sizeOf p1 u).bind fun z12 => ((fn_Lv_sizeOf (p1 + 1) z12.2).bind fun z14 => (if 8 < (z12.1 + z14.1) then ((fn_Lv_resize p1 1 z14.2).bind fun z16 => ((fn_Lv_resize (p1 + 1) (-1) z16).bind fun z18 => (some z18))) else ((fn_Lv_joinNext (fn_Ma_min p1 (p1 + 1)) z14.2).bind fun z20 => (some z20)))))) else ((fn_Lv_dropEmpty u).bind fun z24 => (some z24))
def fn_Lv_remove_43 : Nat → Int32 → Int32 → Int32 → gk_St → Option (gk_St)
  | 0, _, _, _, _ => none
  | n + 1, x1, x2, x3, u => if (u.1 6 0) ≤ x3 then ((fn_Lv_resize x2 (-1) u).bind fun z3 => ((fn_Lv_sizeOf x2 z3).bind fun z5 => (if 3 ≤ z5.1 then (some z5.2) else ((fn_Lv_mend x2 z5.2).bind fun z7 => (some z7))))) else (if gj_in (x3 + 1) 100 then if gj_in x3 100 then fn_Lv_remove_43 n x1 x2 (x3 + 1) (gk_sI u 5 (Int32.toNatClampNeg x3) (u.1 5 (Int32.toNatClampNeg (x3 + 1)))) else none else none)
def fn_Lv_remove (p1 : Int32) (u : gk_St) : Option (gk_St) := if p1 < 0 then (some u) else (if (u.1 6 0) ≤ p1 then (some u) else (if (u.1 6 0) ≤ 100 then ((fn_Lv_leafOf p1 u).bind fun z1 => (fn_Lv_remove_43 gk_fu p1 z1.1 p1 (gk_sI z1.2 6 0 ((z1.2.1 6 0) - 1)))) else (some u)))
def fn_Bk_takeOut (q1 : Nat) (p2 : Int32) (u : gk_St) : Option (gk_St) := (fn_Lv_remove p2 (gk_sI u 1 q1 0)).bind fun z1 => (some z1)
def fn_Bk_drop (p1 : Int32) (u : gk_St) : Option (Int32 × gk_St) := (fn_Bk_inBook p1 u).bind fun z1 => match z1 with | (none, u4) => (some ((-1), u4)) | (some k5, u4) => (if (u4.1 3 k5) = 0 then (some ((-1), u4)) else ((fn_Tm_isNeeded k5 (gk_sI u4 3 k5 ((u4.1 3 k5) - 1))).bind fun z6 => (if z6.1 = 0 then ((fn_Lv_placeOf p1 z6.2).bind fun z8 => ((fn_Bk_takeOut k5 z8.1 z8.2).bind fun z10 => (some ((z10.1 3 k5), z10)))) else (some ((z6.2.1 3 k5), z6.2)))))
def fn_Bk_find (p1 : Int32) (u : gk_St) : Option (Int32 × gk_St) := (fn_Bk_isKind p1 u).bind fun z1 => (if z1.1 = 0 then (some ((-1), z1.2)) else ((fn_Bk_placeOfTape p1 z1.2).bind fun z3 => ((fn_Lv_numberAt z3.1 z3.2).bind fun z5 => ((fn_Bk_isTape z5.1 p1 z5.2).bind fun z7 => (if z7.1 = 0 then (some ((-2), z7.2)) else (some (z5.1, z7.2)))))))
def fn_Tx_byteAt (k : Nat) (p1 : Int32) (u : gk_St) : Option (Int32 × gk_St) := if 8 ≤ p1 then ((fn_Bk_byteOf (u.2 1 k) (15 - p1) u).bind fun z1 => (some (z1.1, z1.2))) else ((fn_Bk_byteOf (u.2 0 k) (7 - p1) u).bind fun z3 => (some (z3.1, z3.2)))
def fn_Bk_term (p1 : Int32) (p2 : Int32) (u : gk_St) : Option (Int32 × gk_St) := (fn_Bk_inBook p1 u).bind fun z1 => match z1 with | (none, u4) => (some ((-1), u4)) | (some k5, u4) => (if 0 ≤ p2 then (if p2 = 0 then (some ((u4.1 2 k5), u4)) else if p2 = 1 then (some ((u4.1 3 k5), u4)) else if p2 = 2 then (some ((u4.1 0 k5), u4)) else (if (u4.1 0 k5) ≤ (p2 - 3) then (some ((-1), u4)) else ((fn_Tx_byteAt k5 (p2 - 3) u4).bind fun z9 => (some (z9.1, z9.2))))) else (some ((-1), u4)))
def fn_Bk_at (p1 : Int32) (u : gk_St) : Option (Int32 × gk_St) := (fn_Lv_numberAt p1 u).bind fun z1 => (if z1.1 = (-1) then (some ((-2), z1.2)) else (some (z1.1, z1.2)))
def fn_Bk_place (p1 : Int32) (u : gk_St) : Option (Int32 × gk_St) := (fn_Bk_inBook p1 u).bind fun z1 => match z1 with | (none, u4) => (some ((-1), u4)) | (some k5, u4) => ((fn_Lv_placeOf p1 u4).bind fun z6 => (some (z6.1, z6.2)))
def fn_Tx_sharedWith (k : Nat) (q1 : Nat) (u : gk_St) : Option (Int32 × gk_St) := if (lg_cmp (u.2 0 k) (u.2 0 q1)) = 0 then (some ((fn_Ma_min (8 + ((fn_Lo_numberOfLeadingZeros ((u.2 1 k) ^^^ (u.2 1 q1))) / 8)) (fn_Ma_min (u.1 0 k) (u.1 0 q1))), u)) else (some ((fn_Ma_min ((fn_Lo_numberOfLeadingZeros ((u.2 0 k) ^^^ (u.2 0 q1))) / 8) (fn_Ma_min (u.1 0 k) (u.1 0 q1))), u))
def fn_Tx_startsWith (k : Nat) (q1 : Nat) (u : gk_St) : Option (Int32 × gk_St) := (fn_Tx_sharedWith k q1 u).bind fun z1 => (if z1.1 = (z1.2.1 0 q1) then (some (1, z1.2)) else (some (0, z1.2)))
def fn_Bk_begins_13 : Nat → Int32 → Int32 → Int32 → gk_St → Option (Int32 × gk_St)
  | 0, _, _, _, _ => none
  | n + 1, x1, x2, x3, u => if 100 ≤ x3 then (some (x2, u)) else ((fn_Bk_inBook x3 u).bind fun z3 => match z3 with | (none, u6) => (fn_Bk_begins_13 n x1 x2 (x3 + 1) u6) | (some k7, u6) => (if (u6.1 2 k7) = x1 then ((fn_Tx_startsWith k7 100 u6).bind fun z8 => (if z8.1 = 0 then (fn_Bk_begins_13 n x1 x2 (x3 + 1) z8.2) else (fn_Bk_begins_13 n x1 (x2 + 1) (x3 + 1) z8.2))) else (fn_Bk_begins_13 n x1 x2 (x3 + 1) u6)))
def fn_Bk_begins (p1 : Int32) (u : gk_St) : Option (Int32 × gk_St) := (fn_Bk_isKind p1 u).bind fun z1 => (if z1.1 = 0 then (some ((-1), z1.2)) else (fn_Bk_begins_13 gk_fu p1 0 0 z1.2))
def fn_Bk_from (p1 : Int32) (u : gk_St) : Option (Int32 × gk_St) := (fn_Bk_isKind p1 u).bind fun z1 => (if z1.1 = 0 then (some ((-1), z1.2)) else ((fn_Bk_placeOfTape p1 z1.2).bind fun z3 => (some (z3.1, z3.2))))
def fn_Bk_slotOf_2 : Nat → Int32 → Int32 → gk_St → Option (Int32 × gk_St)
  | 0, _, _, _ => none
  | n + 1, x1, x2, u => if 6 ≤ x2 then (some ((-1), u)) else (if gj_in x2 6 then if (u.1 9 (Int32.toNatClampNeg x2)) = x1 then (some (x2, u)) else (fn_Bk_slotOf_2 n x1 (x2 + 1) u) else none)
def fn_Bk_slotOf (p1 : Int32) (u : gk_St) : Option (Int32 × gk_St) := fn_Bk_slotOf_2 gk_fu p1 0 u
def fn_Tm_keepFor (k : Nat) (p1 : Int32) (u : gk_St) : Option (gk_St) := some (gk_sI u 4 k ((u.1 4 k) ||| ((1 : Int32) <<< (p1 &&& 31))))
def fn_Bk_version_16 : Nat → Int32 → Int32 → gk_St → Option (Int32 × gk_St)
  | 0, _, _, _ => none
  | n + 1, x1, x2, u => if 100 ≤ x2 then (if gj_in x1 6 then if gj_in x1 6 then some (((gk_sI (gk_sI u 9 (Int32.toNatClampNeg x1) (u.1 10 0)) 10 0 (((gk_sI u 9 (Int32.toNatClampNeg x1) (u.1 10 0)).1 10 0) + 1)).1 9 (Int32.toNatClampNeg x1)), (gk_sI (gk_sI u 9 (Int32.toNatClampNeg x1) (u.1 10 0)) 10 0 (((gk_sI u 9 (Int32.toNatClampNeg x1) (u.1 10 0)).1 10 0) + 1))) else none else none) else ((fn_Bk_inBook x2 u).bind fun z5 => match z5 with | (none, u8) => (fn_Bk_version_16 n x1 (x2 + 1) u8) | (some k9, u8) => (if (u8.1 3 k9) ≤ 0 then (fn_Bk_version_16 n x1 (x2 + 1) u8) else ((fn_Tm_keepFor k9 x1 u8).bind fun z10 => (fn_Bk_version_16 n x1 (x2 + 1) z10))))
def fn_Bk_version  (u : gk_St) : Option (Int32 × gk_St) := (fn_Bk_slotOf (-1) u).bind fun z1 => (if z1.1 = (-1) then (some ((-3), z1.2)) else (fn_Bk_version_16 gk_fu z1.1 0 z1.2))
def fn_Bk_keptSlot (p1 : Int32) (u : gk_St) : Option (Int32 × gk_St) := if 0 ≤ p1 then ((fn_Bk_slotOf p1 u).bind fun z1 => (some (z1.1, z1.2))) else (some ((-1), u))
def fn_Tm_giveUpFor (k : Nat) (p1 : Int32) (u : gk_St) : Option (gk_St) := some (gk_sI u 4 k ((u.1 4 k) &&& (((1 : Int32) <<< (p1 &&& 31)) ^^^ (-1))))
def fn_Bk_takeOutUnneeded_12 : Nat → Int32 → Int32 → Int32 → gk_St → Option (Int32 × gk_St)
  | 0, _, _, _, _ => none
  | n + 1, x1, x2, x3, u => if x1 ≤ x3 then (some ((x1 - (u.1 6 0)), u)) else ((fn_Lv_numberAt x2 u).bind fun z1 => ((fn_Bk_inBook z1.1 z1.2).bind fun z3 => match z3 with | (none, u6) => (fn_Bk_takeOutUnneeded_12 n x1 (x2 + 1) (x3 + 1) u6) | (some k7, u6) => ((fn_Tm_isNeeded k7 u6).bind fun z8 => (if z8.1 = 0 then ((fn_Bk_takeOut k7 x2 z8.2).bind fun z10 => (fn_Bk_takeOutUnneeded_12 n x1 x2 (x3 + 1) z10)) else (fn_Bk_takeOutUnneeded_12 n x1 (x2 + 1) (x3 + 1) z8.2)))))
def fn_Bk_takeOutUnneeded  (u : gk_St) : Option (Int32 × gk_St) := fn_Bk_takeOutUnneeded_12 gk_fu (u.1 6 0) 0 0 u
def fn_Bk_release_22 : Nat → Int32 → Int32 → Int32 → gk_St → Option (Int32 × gk_St)
  | 0, _, _, _, _ => none
  | n + 1, x1, x2, x3, u => if 100 ≤ x3 then ((fn_Bk_takeOutUnneeded u).bind fun z4 => (some (z4.1, z4.2))) else ((fn_Bk_inBook x3 u).bind fun z6 => match z6 with | (none, u9) => (fn_Bk_release_22 n x1 x2 (x3 + 1) u9) | (some k10, u9) => ((fn_Tm_giveUpFor k10 x2 u9).bind fun z11 => (fn_Bk_release_22 n x1 x2 (x3 + 1) z11)))
def fn_Bk_release (p1 : Int32) (u : gk_St) : Option (Int32 × gk_St) := (fn_Bk_keptSlot p1 u).bind fun z1 => (if z1.1 = (-1) then (some ((-1), z1.2)) else (if gj_in z1.1 6 then fn_Bk_release_22 gk_fu p1 z1.1 0 (gk_sI z1.2 9 (Int32.toNatClampNeg z1.1) (-1)) else none))
def fn_Tm_isKeptFor (k : Nat) (p1 : Int32) (u : gk_St) : Option (Int32 × gk_St) := if ((u.1 4 k) &&& ((1 : Int32) <<< (p1 &&& 31))) = 0 then (some (0, u)) else (some (1, u))
def fn_Bk_countKeptFor_4 : Nat → Int32 → Int32 → Int32 → gk_St → Option (Int32 × gk_St)
  | 0, _, _, _, _ => none
  | n + 1, x1, x2, x3, u => if 100 ≤ x3 then (some (x2, u)) else ((fn_Bk_inBook x3 u).bind fun z1 => match z1 with | (none, u4) => (fn_Bk_countKeptFor_4 n x1 x2 (x3 + 1) u4) | (some k5, u4) => ((fn_Tm_isKeptFor k5 x1 u4).bind fun z6 => (if z6.1 = 0 then (fn_Bk_countKeptFor_4 n x1 x2 (x3 + 1) z6.2) else (fn_Bk_countKeptFor_4 n x1 (x2 + 1) (x3 + 1) z6.2))))
def fn_Bk_countKeptFor (p1 : Int32) (u : gk_St) : Option (Int32 × gk_St) := fn_Bk_countKeptFor_4 gk_fu p1 0 0 u
def fn_Bk_had (p1 : Int32) (p2 : Int32) (u : gk_St) : Option (Int32 × gk_St) := (fn_Bk_keptSlot p1 u).bind fun z1 => (if z1.1 = (-1) then (some ((-1), z1.2)) else (if p2 < (-1) then (some ((-1), z1.2)) else (if p2 < 100 then (if p2 = (-1) then ((fn_Bk_countKeptFor z1.1 z1.2).bind fun z11 => (some (z11.1, z11.2))) else ((fn_Bk_inBook p2 z1.2).bind fun z3 => match z3 with | (none, u6) => (some (0, u6)) | (some k7, u6) => ((fn_Tm_isKeptFor k7 z1.1 u6).bind fun z8 => (if z8.1 = 0 then (some (0, z8.2)) else (some (1, z8.2)))))) else (some ((-1), z1.2)))))
def fn_Lv_startOf_4 : Nat → Int32 → Int32 → Int32 → gk_St → Option (Int32 × gk_St)
  | 0, _, _, _, _ => none
  | n + 1, x1, x2, x3, u => if x1 ≤ x3 then (some (x2, u)) else (if (u.1 8 0) ≤ x3 then (some (x2, u)) else ((fn_Lv_sizeOf x3 u).bind fun z1 => (fn_Lv_startOf_4 n x1 (x2 + z1.1) (x3 + 1) z1.2)))
def fn_Lv_startOf (p1 : Int32) (u : gk_St) : Option (Int32 × gk_St) := fn_Lv_startOf_4 gk_fu p1 0 0 u
def fn_Bk_sharedIn (p1 : Int32) (u : gk_St) : Option (Int32 × gk_St) := (fn_Lv_startOf p1 u).bind fun z1 => ((fn_Lv_numberAt z1.1 z1.2).bind fun z3 => ((fn_Bk_inBook z3.1 z3.2).bind fun z5 => match z5 with | (none, u8) => ((fn_Lv_sizeOf p1 u8).bind fun z10 => ((fn_Lv_numberAt ((z1.1 + z10.1) - 1) z10.2).bind fun z12 => ((fn_Bk_inBook z12.1 z12.2).bind fun z14 => match z14 with | (none, u17) => (some (0, u17)) | (some k18, u17) => (some (0, u17))))) | (some k9, u8) => ((fn_Lv_sizeOf p1 u8).bind fun z19 => ((fn_Lv_numberAt ((z1.1 + z19.1) - 1) z19.2).bind fun z21 => ((fn_Bk_inBook z21.1 z21.2).bind fun z23 => match z23 with | (none, u26) => (some (0, u26)) | (some k27, u26) => (if (u26.1 2 k9) = (u26.1 2 k27) then ((fn_Tx_sharedWith k9 k27 u26).bind fun z28 => (some (z28.1, z28.2))) else (some (0, u26))))))))
def fn_Bk_costOf_33 : Nat → Int32 → Int32 → Int32 → Int32 → Int32 → Int32 → gk_St → Option (Int32 × gk_St)
  | 0, _, _, _, _, _, _, _ => none
  | n + 1, x1, x2, x3, x4, x5, x6, u => if x4 ≤ x6 then (some (x5, u)) else ((fn_Lv_numberAt x6 u).bind fun z7 => ((fn_Bk_inBook z7.1 z7.2).bind fun z9 => match z9 with | (none, u12) => (fn_Bk_costOf_33 n x1 x2 x3 x4 x5 (x6 + 1) u12) | (some k13, u12) => (fn_Bk_costOf_33 n x1 x2 x3 x4 (x5 + ((u12.1 0 k13) - x2)) (x6 + 1) u12)))
def fn_Bk_costOf (p1 : Int32) (u : gk_St) : Option (Int32 × gk_St) := (fn_Bk_sharedIn p1 u).bind fun z1 => ((fn_Lv_startOf p1 z1.2).bind fun z3 => ((fn_Lv_sizeOf p1 z3.2).bind fun z5 => (fn_Bk_costOf_33 gk_fu p1 z1.1 z3.1 (z3.1 + z5.1) z1.1 z3.1 z5.2)))
def fn_Bk_leaf (p1 : Int32) (p2 : Int32) (u : gk_St) : Option (Int32 × gk_St) := if p1 < 0 then (some ((-1), u)) else (if p1 < (u.1 8 0) then (if p2 = 0 then ((fn_Lv_sizeOf p1 u).bind fun z1 => (some (z1.1, z1.2))) else if p2 = 1 then ((fn_Bk_sharedIn p1 u).bind fun z4 => (some (z4.1, z4.2))) else if p2 = 2 then ((fn_Bk_costOf p1 u).bind fun z7 => (some (z7.1, z7.2))) else if p2 = 3 then ((fn_Lv_startOf p1 u).bind fun z10 => ((fn_Lv_numberAt z10.1 z10.2).bind fun z12 => (some (z12.1, z12.2)))) else (some ((-1), u))) else (some ((-1), u)))
def fn_Bk_countKeptVersions_4 : Nat → Int32 → Int32 → gk_St → Option (Int32 × gk_St)
  | 0, _, _, _ => none
  | n + 1, x1, x2, u => if 6 ≤ x2 then (some (x1, u)) else (if gj_in x2 6 then if (u.1 9 (Int32.toNatClampNeg x2)) = (-1) then (fn_Bk_countKeptVersions_4 n x1 (x2 + 1) u) else (fn_Bk_countKeptVersions_4 n (x1 + 1) (x2 + 1) u) else none)
def fn_Bk_countKeptVersions  (u : gk_St) : Option (Int32 × gk_St) := fn_Bk_countKeptVersions_4 gk_fu 0 0 u
def fn_Bk_countUnused_4 : Nat → Int32 → Int32 → gk_St → Option (Int32 × gk_St)
  | 0, _, _, _ => none
  | n + 1, x1, x2, u => if 100 ≤ x2 then (some (x1, u)) else ((fn_Bk_inBook x2 u).bind fun z1 => match z1 with | (none, u4) => (fn_Bk_countUnused_4 n x1 (x2 + 1) u4) | (some k5, u4) => (if (u4.1 3 k5) = 0 then (fn_Bk_countUnused_4 n (x1 + 1) (x2 + 1) u4) else (fn_Bk_countUnused_4 n x1 (x2 + 1) u4)))
def fn_Bk_countUnused  (u : gk_St) : Option (Int32 × gk_St) := fn_Bk_countUnused_4 gk_fu 0 0 u
def fn_Bk_costOfAll_4 : Nat → Int32 → Int32 → gk_St → Option (Int32 × gk_St)
  | 0, _, _, _ => none
  | n + 1, x1, x2, u => if (u.1 8 0) ≤ x2 then (some (x1, u)) else ((fn_Bk_costOf x2 u).bind fun z1 => (fn_Bk_costOfAll_4 n (x1 + z1.1) (x2 + 1) z1.2))
def fn_Bk_costOfAll  (u : gk_St) : Option (Int32 × gk_St) := fn_Bk_costOfAll_4 gk_fu 0 0 u
def fn_Bk_count (p1 : Int32) (u : gk_St) : Option (Int32 × gk_St) := if p1 = 0 then (some ((u.1 6 0), u)) else if p1 = 1 then (some ((u.1 8 0), u)) else if p1 = 2 then (some ((u.1 10 0), u)) else if p1 = 3 then ((fn_Bk_countKeptVersions u).bind fun z4 => (some (z4.1, z4.2))) else if p1 = 4 then ((fn_Bk_countUnused u).bind fun z7 => (some (z7.1, z7.2))) else if p1 = 5 then (some ((u.1 0 100), u)) else if p1 = 6 then ((fn_Bk_costOfAll u).bind fun z11 => (some (z11.1, z11.2))) else (some ((-1), u))
theorem ok_Bk_inBook {p1 : Int32} {u u' : gk_St} {k : Nat} (h : fn_Bk_inBook p1 u = some (some k, u')) : k < 100 := by
  unfold fn_Bk_inBook at h
  split at h
  · cases h
  · split at h
    · split at h
      · rename_i hg
        split at h
        · cases h
        · cases h; exact gj_in_lt hg
      · cases h
    · cases h
end
section
set_option maxHeartbeats 4000000 in
set_option maxRecDepth 100000 in
theorem ct_Bk_byteOf (l : Launch) (D : va_G) (cI cT : ClassId) (ad : Nat → Nat → Nat) (hI : gq_I gk_vd ad) (u : gk_St) (p0 : Int64) (p2 : Int32) (z : Int32 × gk_St) (hf : fn_Bk_byteOf p0 p2 u = some z) : Met l gy_Bk_byteOf gws_Bk_byteOf ({ frames := 0, cells := 0, slots := 0, locals := 0 }) (va_Pc [.long p0, .int p2] (gq_pre D gc_cl (gk_tys cI cT) gk_vd ad gk_NF gk_NM (gk_pc cI cT ad u))) (va_Qi (fun r u2 => r = z.1 ∧ u2 = z.2) (fun u2 t => gq_B D gc_cl (gk_tys cI cT) gk_vd ad (gk_pc cI cT ad u2) t) (gq_A gk_vd ad)) 0 0 (gq_A gk_vd ad) := by
  refine Met.ofW (cc := gb_Bk_byteOf) (maxL := 3) (ret := (some .int)) (by decide) rfl ?_
  intro p e s m args below meth c s₁ B hml hv
  obtain ⟨rfl, hH, hK, hN⟩ := hv
  have hx := B.exec
  have hb := B.bytes
  have hr := B.returns
  have hts := atoms_spec (ws := gws_Bk_byteOf) B.pre
  have ht := fun (w : Cond) (h : w ∈ gt_T) => hts w (List.mem_cons_of_mem _ h)
  have hown : s.vm.findClass gR_Bk = some m.cls := findClass_of_methodNamed B.named
  have hlocks := B.notSynchronized
  have hA : ∀ q, (gq_A gk_vd ad) q → (gq_A gk_vd ad) q := fun _ h => h
  have hS : va_S (gq_A gk_vd ad) s.heap s.heap [] := va_S.rf
  have hl := lv_entry ([.long p0, .int p2]) (n := 3) (Nat.le_of_ble_eq_true rfl)
  rw [lg_entry_eq]
  generalize (lg_sl ([.long p0, .int p2]) ++ List.replicate (3 - (lg_sl ([.long p0, .int p2])).length) Slot.unset).toArray = ls at hl ⊢
  have hl : lv_has ls 3 [(0, .long p0), (2, .int p2)] := hl
  unfold fn_Bk_byteOf at hf
  refine lv_lload_n hx hb gd_Bk_byteOf_0 rfl (lv_at hl 0 rfl) ?_
  refine lv_bipush (v := 8) hx hb gd_Bk_byteOf_1 (by decide) ?_
  refine lv_iload_n hx hb gd_Bk_byteOf_3 rfl (lv_at hl 1 rfl) ?_
  refine lv_imul hx hb gd_Bk_byteOf_4 ?_
  refine lv_lushr (v := gj_lushr p0 (8 * p2)) hx hb gd_Bk_byteOf_5 rfl ?_
  refine lv_ldc2 (v := 255) hx hb hown (ht _ gt_111) gd_Bk_byteOf_6 ?_
  refine lv_land hx hb gd_Bk_byteOf_9 ?_
  refine lv_l2i hx hb gd_Bk_byteOf_10 rfl ?_
  cases hf
  exact W.iret hx hb hr (fun t ht hW => ⟨⟨_, _, rfl, ⟨rfl, rfl⟩, ⟨by rw [ht]; exact hH, va_K.moved hW.alike hK⟩⟩, hS.F ht⟩) hS.2.2 gd_Bk_byteOf_11
set_option maxHeartbeats 4000000 in
set_option maxRecDepth 100000 in
theorem ct_Bk_allFit (l : Launch) (D : va_G) (cI cT : ClassId) (ad : Nat → Nat → Nat) (hI : gq_I gk_vd ad) (u : gk_St) (p0 : Int64) (p2 : Int32) (z : Int32 × gk_St) (hf : fn_Bk_allFit p0 p2 u = some z) : Met l gy_Bk_allFit gws_Bk_allFit ({ frames := 1, cells := 0, slots := 0, locals := 22 }) (va_Pc [.long p0, .int p2] (gq_pre D gc_cl (gk_tys cI cT) gk_vd ad gk_NF gk_NM (gk_pc cI cT ad u))) (va_Qi (fun r u2 => r = z.1 ∧ u2 = z.2) (fun u2 t => gq_B D gc_cl (gk_tys cI cT) gk_vd ad (gk_pc cI cT ad u2) t) (gq_A gk_vd ad)) 0 0 (gq_A gk_vd ad) := by
  refine Met.ofW (cc := gb_Bk_allFit) (maxL := 5) (ret := (some .boolean)) (by decide) rfl ?_
  intro p e s m args below meth c s₁ B hml hv
  obtain ⟨rfl, hH, hK, hN⟩ := hv
  have hx := B.exec
  have hb := B.bytes
  have hr := B.returns
  have hts := atoms_spec (ws := gws_Bk_allFit) B.pre
  have ht := fun (w : Cond) (h : w ∈ gt_T) => hts w (List.mem_cons_of_mem _ h)
  have hown : s.vm.findClass gR_Bk = some m.cls := findClass_of_methodNamed B.named
  have hlocks := B.notSynchronized
  have hA : ∀ q, (gq_A gk_vd ad) q → (gq_A gk_vd ad) q := fun _ h => h
  have hS : va_S (gq_A gk_vd ad) s.heap s.heap [] := va_S.rf
  have hl := lv_entry ([.long p0, .int p2]) (n := 5) (Nat.le_of_ble_eq_true rfl)
  rw [lg_entry_eq]
  generalize (lg_sl ([.long p0, .int p2]) ++ List.replicate (5 - (lg_sl ([.long p0, .int p2])).length) Slot.unset).toArray = ls at hl ⊢
  have hl : lv_has ls 5 [(0, .long p0), (2, .int p2)] := hl
  have L2 : ∀ (n : Nat) (x0 : Int64) (x2 : Int32) (x3 : Int32) (u : gk_St) (H : Heap) (locs : List Loc) (ls : Array Slot), fn_Bk_allFit_2 n x0 x2 x3 u = some z → gq_H D gc_cl gk_vd ad (gk_pc cI cT ad u) H → va_S (gq_A gk_vd ad) s.heap H locs → lv_has ls 5 [(0, .long x0), (2, .int x2), (3, .int x3)] → W p l e (headSpec gws_Bk_allFit ({ frames := 1, cells := 0, slots := 0, locals := 22 })).room s m ([.long p0, .int p2] : List Value).toArray below meth c H locs 0 0 (MQ below (va_Qi (fun r u2 => r = z.1 ∧ u2 = z.2) (fun u2 t => gq_B D gc_cl (gk_tys cI cT) gk_vd ad (gk_pc cI cT ad u2) t) (gq_A gk_vd ad)) ([.long p0, .int p2] : List Value).toArray s 0 0 (gq_A gk_vd ad)) (F0 m 2 ls []) := by
    intro n
    induction n with
    | zero =>
      intro x0 x2 x3 u H locs ls hf
      have h0 : none = some z := hf
      cases h0
    | succ n ih =>
      intro x0 x2 x3 u H locs ls hf hH hS hl
      rw [fn_Bk_allFit_2] at hf
      refine lv_iload_n hx hb gd_Bk_allFit_2 rfl (lv_at hl 2 rfl) ?_
      refine lv_iload_n hx hb gd_Bk_allFit_3 rfl (lv_at hl 1 rfl) ?_
      refine lv_icmp_ge (tgt := 36) hx hb gd_Bk_allFit_4 (by decide) (fun c5 => ?_) (fun c5 => ?_)
      · replace hf := gj_t c5 hf
        refine lv_iconst (v := 1) hx hb gd_Bk_allFit_36 (by decide) ?_
        cases hf
        exact W.zret hx hb hr rfl (fun t ht hW => ⟨⟨_, _, rfl, ⟨rfl, rfl⟩, ⟨by rw [ht]; exact hH, va_K.moved hW.alike hK⟩⟩, hS.F ht⟩) hS.2.2 gd_Bk_allFit_37
      · replace hf := gj_e c5 hf
        refine lv_lload_n hx hb gd_Bk_allFit_7 rfl (lv_at hl 0 rfl) ?_
        refine lv_iload_n hx hb gd_Bk_allFit_8 rfl (lv_at hl 2 rfl) ?_
        obtain ⟨z1, hc2, hf⟩ := Option.bind_eq_some_iff.mp hf
        refine gq_calli (va_runS (As := [.long x0, .int x3]) (rest := []) ⟨hx, hb, hml, hown, hts⟩ (ct_Bk_byteOf l D cI cT ad hI u x0 x3 z1 hc2) (va_cwS 2 hts (gt_S gt_108 gt_109 gt_1 gt_110) rfl rfl rfl (by decide +kernel) ⟨Nat.le_of_ble_eq_true rfl, Nat.le_of_ble_eq_true rfl⟩) (gq_preS hH hK hN) rfl rfl hl.1 rfl (lv_room (Nat.le_of_ble_eq_true rfl)) gd_Bk_allFit_9 ⟨Nat.zero_le _, Nat.zero_le _⟩) hA hS (fun H locs hH hS => ?_)
        refine lv_istore (lv' := [(4, .int z1.1), (0, .long x0), (2, .int x2), (3, .int x3)]) hx hb gd_Bk_allFit_12 hl (by decide) rfl (fun ls hl => ?_)
        refine lv_iload hx hb gd_Bk_allFit_14 (lv_at hl 0 rfl) ?_
        refine lv_bipush (v := 33) hx hb gd_Bk_allFit_16 (by decide) ?_
        refine lv_icmp_lt (tgt := 28) hx hb gd_Bk_allFit_18 (by decide) (fun c4 => ?_) (fun c4 => ?_)
        · replace hf := gj_t c4 hf
          refine lv_iconst (v := 0) hx hb gd_Bk_allFit_28 (by decide) ?_
          cases hf
          exact W.zret hx hb hr rfl (fun t ht hW => ⟨⟨_, _, rfl, ⟨rfl, rfl⟩, ⟨by rw [ht]; exact hH, va_K.moved hW.alike hK⟩⟩, hS.F ht⟩) hS.2.2 gd_Bk_allFit_29
        · replace hf := gj_e c4 hf
          refine lv_iload hx hb gd_Bk_allFit_21 (lv_at hl 0 rfl) ?_
          refine lv_bipush (v := 126) hx hb gd_Bk_allFit_23 (by decide) ?_
          refine lv_icmp_le (tgt := 30) hx hb gd_Bk_allFit_25 (by decide) (fun c3 => ?_) (fun c3 => ?_)
          · replace hf := gj_t c3 hf
            refine lv_iinc (v := x3 + 1) (lv' := [(3, .int (x3 + 1)), (4, .int z1.1), (0, .long x0), (2, .int x2)]) hx hb gd_Bk_allFit_30 hl (k := 3) rfl rfl (by decide) rfl (fun ls hl => ?_)
            refine lv_goto (tgt := 2) hx hb gd_Bk_allFit_33 (by decide) ?_
            exact ih x0 x2 (x3 + 1) z1.2 _ _ _ hf hH hS (lv_sub hl [2, 3, 0] rfl)
          · replace hf := gj_e c3 hf
            refine lv_iconst (v := 0) hx hb gd_Bk_allFit_28 (by decide) ?_
            cases hf
            exact W.zret hx hb hr rfl (fun t ht hW => ⟨⟨_, _, rfl, ⟨rfl, rfl⟩, ⟨by rw [ht]; exact hH, va_K.moved hW.alike hK⟩⟩, hS.F ht⟩) hS.2.2 gd_Bk_allFit_29
  unfold fn_Bk_allFit at hf
  refine lv_iconst (v := 0) hx hb gd_Bk_allFit_0 (by decide) ?_
  refine lv_istore_n (lv' := [(3, .int 0), (0, .long p0), (2, .int p2)]) hx hb gd_Bk_allFit_1 rfl hl (by decide) rfl (fun ls hl => ?_)
  exact L2 gk_fu p0 p2 0 u _ _ _ hf hH hS (lv_sub hl [1, 2, 0] rfl)
set_option maxHeartbeats 4000000 in
set_option maxRecDepth 100000 in
theorem ct_Tx_append (l : Launch) (D : va_G) (cI cT : ClassId) (ad : Nat → Nat → Nat) (hI : gq_I gk_vd ad) (u : gk_St) (k : Nat) (hk : k ≤ 100) (p1 : Int32) (z : gk_St) (hf : fn_Tx_append k p1 u = some z) : Met l gy_Tx_append gws_Tx_append ({ frames := 0, cells := 0, slots := 0, locals := 0 }) (va_Pc [.ref (ad 6 k), .int p1] (gq_pre D gc_cl (gk_tys cI cT) gk_vd ad gk_NF gk_NM (gk_pc cI cT ad u))) (va_Qv (fun u2 => u2 = z) (fun u2 t => gq_B D gc_cl (gk_tys cI cT) gk_vd ad (gk_pc cI cT ad u2) t) (gq_A gk_vd ad)) 0 0 (gq_A gk_vd ad) := by
  refine Met.ofW (cc := gb_Tx_append) (maxL := 2) (ret := none) (by decide) rfl ?_
  intro p e s m args below meth c s₁ B hml hv
  obtain ⟨rfl, hH, hK, hN⟩ := hv
  have hx := B.exec
  have hb := B.bytes
  have hr := B.returns
  have hts := atoms_spec (ws := gws_Tx_append) B.pre
  have ht := fun (w : Cond) (h : w ∈ gt_T) => hts w (List.mem_cons_of_mem _ h)
  have hown : s.vm.findClass gR_Tx = some m.cls := findClass_of_methodNamed B.named
  have hlocks := B.notSynchronized
  have hA : ∀ q, (gq_A gk_vd ad) q → (gq_A gk_vd ad) q := fun _ h => h
  have hS : va_S (gq_A gk_vd ad) s.heap s.heap [] := va_S.rf
  have hl := lv_entry ([.ref (ad 6 k), .int p1]) (n := 2) (Nat.le_of_ble_eq_true rfl)
  rw [lg_entry_eq]
  generalize (lg_sl ([.ref (ad 6 k), .int p1]) ++ List.replicate (2 - (lg_sl ([.ref (ad 6 k), .int p1])).length) Slot.unset).toArray = ls at hl ⊢
  have hl : lv_has ls 2 [(0, .ref (ad 6 k)), (1, .int p1)] := hl
  unfold fn_Tx_append at hf
  refine lv_aload_n hx hb gd_Tx_append_0 rfl (lv_at hl 0 rfl) ?_
  refine va_get (D := D) (ci := 2) (C := gR_Tx) (T := gT_Tx) (N := 3) hx hb hts (fun w h => List.mem_cons_of_mem _ (gl_Tx w h)) hown hK (gq_one (c := 6) (k := k) hH hk (gk_c6 cI cT ad u k)) 0 rfl rfl 2 (by decide) (ht _ gt_25) (fun _ h9 => h9) rfl gd_Tx_append_1 ?_
  refine lv_bipush (v := 8) hx hb gd_Tx_append_4 (by decide) ?_
  refine lv_icmp_ge (tgt := 44) hx hb gd_Tx_append_6 (by decide) (fun c2 => ?_) (fun c2 => ?_)
  · replace hf := gj_t c2 hf
    refine lv_aload_n hx hb gd_Tx_append_44 rfl (lv_at hl 0 rfl) ?_
    refine va_get (D := D) (ci := 2) (C := gR_Tx) (T := gT_Tx) (N := 3) hx hb hts (fun w h => List.mem_cons_of_mem _ (gl_Tx w h)) hown hK (gq_one (c := 6) (k := k) hH hk (gk_c6 cI cT ad u k)) 0 rfl rfl 2 (by decide) (ht _ gt_25) (fun _ h9 => h9) rfl gd_Tx_append_45 ?_
    refine lv_bipush (v := 16) hx hb gd_Tx_append_48 (by decide) ?_
    refine lv_icmp_ge (tgt := 85) hx hb gd_Tx_append_50 (by decide) (fun c1 => ?_) (fun c1 => ?_)
    · replace hf := gj_t c1 hf
      cases hf
      exact W.vret hx hb hr (fun t ht hW => ⟨⟨_, rfl, rfl, ⟨by rw [ht]; exact hH, va_K.moved hW.alike hK⟩⟩, hS.F ht⟩) hS.2.2 gd_Tx_append_85
    · replace hf := gj_e c1 hf
      refine lv_aload_n hx hb gd_Tx_append_53 rfl (lv_at hl 0 rfl) ?_
      refine lv_dup hx hb gd_Tx_append_54 rfl ?_
      refine va_get (D := D) (ci := 2) (C := gR_Tx) (T := gT_Tx) (N := 3) hx hb hts (fun w h => List.mem_cons_of_mem _ (gl_Tx w h)) hown hK (gq_one (c := 6) (k := k) hH hk (gk_c6 cI cT ad u k)) 0 rfl rfl 1 (by decide) (ht _ gt_24) (fun _ h9 => h9) rfl gd_Tx_append_55 ?_
      refine lv_iload_n hx hb gd_Tx_append_58 rfl (lv_at hl 1 rfl) ?_
      refine lv_i2l hx hb gd_Tx_append_59 rfl ?_
      refine lv_bipush (v := 8) hx hb gd_Tx_append_60 (by decide) ?_
      refine lv_bipush (v := 15) hx hb gd_Tx_append_62 (by decide) ?_
      refine lv_aload_n hx hb gd_Tx_append_64 rfl (lv_at hl 0 rfl) ?_
      refine va_get (D := D) (ci := 2) (C := gR_Tx) (T := gT_Tx) (N := 3) hx hb hts (fun w h => List.mem_cons_of_mem _ (gl_Tx w h)) hown hK (gq_one (c := 6) (k := k) hH hk (gk_c6 cI cT ad u k)) 0 rfl rfl 2 (by decide) (ht _ gt_25) (fun _ h9 => h9) rfl gd_Tx_append_65 ?_
      refine lv_isub hx hb gd_Tx_append_68 ?_
      refine lv_imul hx hb gd_Tx_append_69 ?_
      refine lv_lshl (v := gj_lshl (Int32.toInt64 p1) (8 * (15 - (u.1 0 k)))) hx hb gd_Tx_append_70 rfl ?_
      refine lv_lor hx hb gd_Tx_append_71 ?_
      refine gq_put (D := D) (ci := 2) (C := gR_Tx) (T := gT_Tx) (N := 3) (ca := 6) (ka := k) (pp' := gk_pc cI cT ad (gk_sL u 1 k ((u.2 1 k) ||| (gj_lshl (Int32.toInt64 p1) (8 * (15 - (u.1 0 k))))))) (ty := .long) hx hb hts (fun w h => List.mem_cons_of_mem _ (gl_Tx w h)) gF_Tx gf_Tx gn_Tx hown hK hH hI hA hk (gk_c6 cI cT ad u k) rfl 1 (by decide) (ht _ gt_24) (fun _ h9 => h9) rfl (by decide +kernel) rfl rfl (Nat.le_of_ble_eq_true rfl) (gk_w1L cI cT ad u k ((u.2 1 k) ||| (gj_lshl (Int32.toInt64 p1) (8 * (15 - (u.1 0 k)))))) (gk_o1L cI cT ad u k ((u.2 1 k) ||| (gj_lshl (Int32.toInt64 p1) (8 * (15 - (u.1 0 k)))))) hS gd_Tx_append_72 (fun H locs hH hS => ?_)
      refine lv_aload_n hx hb gd_Tx_append_75 rfl (lv_at hl 0 rfl) ?_
      refine lv_dup hx hb gd_Tx_append_76 rfl ?_
      refine va_get (D := D) (ci := 2) (C := gR_Tx) (T := gT_Tx) (N := 3) hx hb hts (fun w h => List.mem_cons_of_mem _ (gl_Tx w h)) hown hK (gq_one (c := 6) (k := k) hH hk (gk_c6 cI cT ad (gk_sL u 1 k ((u.2 1 k) ||| (gj_lshl (Int32.toInt64 p1) (8 * (15 - (u.1 0 k)))))) k)) 0 rfl rfl 2 (by decide) (ht _ gt_25) (fun _ h9 => h9) rfl gd_Tx_append_77 ?_
      refine lv_iconst (v := 1) hx hb gd_Tx_append_80 (by decide) ?_
      refine lv_iadd hx hb gd_Tx_append_81 ?_
      refine gq_put (D := D) (ci := 2) (C := gR_Tx) (T := gT_Tx) (N := 3) (ca := 6) (ka := k) (pp' := gk_pc cI cT ad (gk_sI (gk_sL u 1 k ((u.2 1 k) ||| (gj_lshl (Int32.toInt64 p1) (8 * (15 - (u.1 0 k)))))) 0 k (((gk_sL u 1 k ((u.2 1 k) ||| (gj_lshl (Int32.toInt64 p1) (8 * (15 - (u.1 0 k)))))).1 0 k) + 1))) (ty := .int) hx hb hts (fun w h => List.mem_cons_of_mem _ (gl_Tx w h)) gF_Tx gf_Tx gn_Tx hown hK hH hI hA hk (gk_c6 cI cT ad (gk_sL u 1 k ((u.2 1 k) ||| (gj_lshl (Int32.toInt64 p1) (8 * (15 - (u.1 0 k)))))) k) rfl 2 (by decide) (ht _ gt_25) (fun _ h9 => h9) rfl (by decide +kernel) rfl rfl (Nat.le_of_ble_eq_true rfl) (gk_w0 cI cT ad (gk_sL u 1 k ((u.2 1 k) ||| (gj_lshl (Int32.toInt64 p1) (8 * (15 - (u.1 0 k)))))) k (((gk_sL u 1 k ((u.2 1 k) ||| (gj_lshl (Int32.toInt64 p1) (8 * (15 - (u.1 0 k)))))).1 0 k) + 1)) (gk_o0 cI cT ad (gk_sL u 1 k ((u.2 1 k) ||| (gj_lshl (Int32.toInt64 p1) (8 * (15 - (u.1 0 k)))))) k (((gk_sL u 1 k ((u.2 1 k) ||| (gj_lshl (Int32.toInt64 p1) (8 * (15 - (u.1 0 k)))))).1 0 k) + 1)) hS gd_Tx_append_82 (fun H locs hH hS => ?_)
      cases hf
      exact W.vret hx hb hr (fun t ht hW => ⟨⟨_, rfl, rfl, ⟨by rw [ht]; exact hH, va_K.moved hW.alike hK⟩⟩, hS.F ht⟩) hS.2.2 gd_Tx_append_85
  · replace hf := gj_e c2 hf
    refine lv_aload_n hx hb gd_Tx_append_9 rfl (lv_at hl 0 rfl) ?_
    refine lv_dup hx hb gd_Tx_append_10 rfl ?_
    refine va_get (D := D) (ci := 2) (C := gR_Tx) (T := gT_Tx) (N := 3) hx hb hts (fun w h => List.mem_cons_of_mem _ (gl_Tx w h)) hown hK (gq_one (c := 6) (k := k) hH hk (gk_c6 cI cT ad u k)) 0 rfl rfl 0 (by decide) (ht _ gt_23) (fun _ h9 => h9) rfl gd_Tx_append_11 ?_
    refine lv_iload_n hx hb gd_Tx_append_14 rfl (lv_at hl 1 rfl) ?_
    refine lv_i2l hx hb gd_Tx_append_15 rfl ?_
    refine lv_bipush (v := 8) hx hb gd_Tx_append_16 (by decide) ?_
    refine lv_bipush (v := 7) hx hb gd_Tx_append_18 (by decide) ?_
    refine lv_aload_n hx hb gd_Tx_append_20 rfl (lv_at hl 0 rfl) ?_
    refine va_get (D := D) (ci := 2) (C := gR_Tx) (T := gT_Tx) (N := 3) hx hb hts (fun w h => List.mem_cons_of_mem _ (gl_Tx w h)) hown hK (gq_one (c := 6) (k := k) hH hk (gk_c6 cI cT ad u k)) 0 rfl rfl 2 (by decide) (ht _ gt_25) (fun _ h9 => h9) rfl gd_Tx_append_21 ?_
    refine lv_isub hx hb gd_Tx_append_24 ?_
    refine lv_imul hx hb gd_Tx_append_25 ?_
    refine lv_lshl (v := gj_lshl (Int32.toInt64 p1) (8 * (7 - (u.1 0 k)))) hx hb gd_Tx_append_26 rfl ?_
    refine lv_lor hx hb gd_Tx_append_27 ?_
    refine gq_put (D := D) (ci := 2) (C := gR_Tx) (T := gT_Tx) (N := 3) (ca := 6) (ka := k) (pp' := gk_pc cI cT ad (gk_sL u 0 k ((u.2 0 k) ||| (gj_lshl (Int32.toInt64 p1) (8 * (7 - (u.1 0 k))))))) (ty := .long) hx hb hts (fun w h => List.mem_cons_of_mem _ (gl_Tx w h)) gF_Tx gf_Tx gn_Tx hown hK hH hI hA hk (gk_c6 cI cT ad u k) rfl 0 (by decide) (ht _ gt_23) (fun _ h9 => h9) rfl (by decide +kernel) rfl rfl (Nat.le_of_ble_eq_true rfl) (gk_w0L cI cT ad u k ((u.2 0 k) ||| (gj_lshl (Int32.toInt64 p1) (8 * (7 - (u.1 0 k)))))) (gk_o0L cI cT ad u k ((u.2 0 k) ||| (gj_lshl (Int32.toInt64 p1) (8 * (7 - (u.1 0 k)))))) hS gd_Tx_append_28 (fun H locs hH hS => ?_)
    refine lv_aload_n hx hb gd_Tx_append_31 rfl (lv_at hl 0 rfl) ?_
    refine lv_dup hx hb gd_Tx_append_32 rfl ?_
    refine va_get (D := D) (ci := 2) (C := gR_Tx) (T := gT_Tx) (N := 3) hx hb hts (fun w h => List.mem_cons_of_mem _ (gl_Tx w h)) hown hK (gq_one (c := 6) (k := k) hH hk (gk_c6 cI cT ad (gk_sL u 0 k ((u.2 0 k) ||| (gj_lshl (Int32.toInt64 p1) (8 * (7 - (u.1 0 k)))))) k)) 0 rfl rfl 2 (by decide) (ht _ gt_25) (fun _ h9 => h9) rfl gd_Tx_append_33 ?_
    refine lv_iconst (v := 1) hx hb gd_Tx_append_36 (by decide) ?_
    refine lv_iadd hx hb gd_Tx_append_37 ?_
    refine gq_put (D := D) (ci := 2) (C := gR_Tx) (T := gT_Tx) (N := 3) (ca := 6) (ka := k) (pp' := gk_pc cI cT ad (gk_sI (gk_sL u 0 k ((u.2 0 k) ||| (gj_lshl (Int32.toInt64 p1) (8 * (7 - (u.1 0 k)))))) 0 k (((gk_sL u 0 k ((u.2 0 k) ||| (gj_lshl (Int32.toInt64 p1) (8 * (7 - (u.1 0 k)))))).1 0 k) + 1))) (ty := .int) hx hb hts (fun w h => List.mem_cons_of_mem _ (gl_Tx w h)) gF_Tx gf_Tx gn_Tx hown hK hH hI hA hk (gk_c6 cI cT ad (gk_sL u 0 k ((u.2 0 k) ||| (gj_lshl (Int32.toInt64 p1) (8 * (7 - (u.1 0 k)))))) k) rfl 2 (by decide) (ht _ gt_25) (fun _ h9 => h9) rfl (by decide +kernel) rfl rfl (Nat.le_of_ble_eq_true rfl) (gk_w0 cI cT ad (gk_sL u 0 k ((u.2 0 k) ||| (gj_lshl (Int32.toInt64 p1) (8 * (7 - (u.1 0 k)))))) k (((gk_sL u 0 k ((u.2 0 k) ||| (gj_lshl (Int32.toInt64 p1) (8 * (7 - (u.1 0 k)))))).1 0 k) + 1)) (gk_o0 cI cT ad (gk_sL u 0 k ((u.2 0 k) ||| (gj_lshl (Int32.toInt64 p1) (8 * (7 - (u.1 0 k)))))) k (((gk_sL u 0 k ((u.2 0 k) ||| (gj_lshl (Int32.toInt64 p1) (8 * (7 - (u.1 0 k)))))).1 0 k) + 1)) hS gd_Tx_append_38 (fun H locs hH hS => ?_)
    refine lv_goto (tgt := 85) hx hb gd_Tx_append_41 (by decide) ?_
    cases hf
    exact W.vret hx hb hr (fun t ht hW => ⟨⟨_, rfl, rfl, ⟨by rw [ht]; exact hH, va_K.moved hW.alike hK⟩⟩, hS.F ht⟩) hS.2.2 gd_Tx_append_85
set_option maxHeartbeats 4000000 in
set_option maxRecDepth 100000 in
theorem ct_Bk_type (l : Launch) (D : va_G) (cI cT : ClassId) (ad : Nat → Nat → Nat) (hI : gq_I gk_vd ad) (u : gk_St) (p1 : Int64) (p3 : Int32) (z : Int32 × gk_St) (hf : fn_Bk_type p1 p3 u = some z) : Met l gy_Bk_type gws_Bk_type ({ frames := 2, cells := 0, slots := 0, locals := 46 }) (va_Pc [.ref (ad 0 0), .long p1, .int p3] (gq_pre D gc_cl (gk_tys cI cT) gk_vd ad gk_NF gk_NM (gk_pc cI cT ad u))) (va_Qi (fun r u2 => r = z.1 ∧ u2 = z.2) (fun u2 t => gq_B D gc_cl (gk_tys cI cT) gk_vd ad (gk_pc cI cT ad u2) t) (gq_A gk_vd ad)) 0 0 (gq_A gk_vd ad) := by
  refine Met.ofW (cc := gb_Bk_type) (maxL := 5) (ret := (some .int)) (by decide) rfl ?_
  intro p e s m args below meth c s₁ B hml hv
  obtain ⟨rfl, hH, hK, hN⟩ := hv
  have hx := B.exec
  have hb := B.bytes
  have hr := B.returns
  have hts := atoms_spec (ws := gws_Bk_type) B.pre
  have ht := fun (w : Cond) (h : w ∈ gt_T) => hts w (List.mem_cons_of_mem _ h)
  have hown : s.vm.findClass gR_Bk = some m.cls := findClass_of_methodNamed B.named
  have hlocks := B.notSynchronized
  have hA : ∀ q, (gq_A gk_vd ad) q → (gq_A gk_vd ad) q := fun _ h => h
  have hS : va_S (gq_A gk_vd ad) s.heap s.heap [] := va_S.rf
  have hl := lv_entry ([.ref (ad 0 0), .long p1, .int p3]) (n := 5) (Nat.le_of_ble_eq_true rfl)
  rw [lg_entry_eq]
  generalize (lg_sl ([.ref (ad 0 0), .long p1, .int p3]) ++ List.replicate (5 - (lg_sl ([.ref (ad 0 0), .long p1, .int p3])).length) Slot.unset).toArray = ls at hl ⊢
  have hl : lv_has ls 5 [(0, .ref (ad 0 0)), (1, .long p1), (3, .int p3)] := hl
  have L43 : ∀ (n : Nat) (x1 : Int64) (x3 : Int32) (x4 : Int32) (u : gk_St) (H : Heap) (locs : List Loc) (ls : Array Slot), fn_Bk_type_43 n x1 x3 x4 u = some z → gq_H D gc_cl gk_vd ad (gk_pc cI cT ad u) H → va_S (gq_A gk_vd ad) s.heap H locs → lv_has ls 5 [(0, .ref (ad 0 0)), (1, .long x1), (3, .int x3), (4, .int x4)] → W p l e (headSpec gws_Bk_type ({ frames := 2, cells := 0, slots := 0, locals := 46 })).room s m ([.ref (ad 0 0), .long p1, .int p3] : List Value).toArray below meth c H locs 0 0 (MQ below (va_Qi (fun r u2 => r = z.1 ∧ u2 = z.2) (fun u2 t => gq_B D gc_cl (gk_tys cI cT) gk_vd ad (gk_pc cI cT ad u2) t) (gq_A gk_vd ad)) ([.ref (ad 0 0), .long p1, .int p3] : List Value).toArray s 0 0 (gq_A gk_vd ad)) (F0 m 43 ls []) := by
    intro n
    induction n with
    | zero =>
      intro x1 x3 x4 u H locs ls hf
      have h0 : none = some z := hf
      cases h0
    | succ n ih =>
      intro x1 x3 x4 u H locs ls hf hH hS hl
      rw [fn_Bk_type_43] at hf
      refine lv_iload hx hb gd_Bk_type_43 (lv_at hl 3 rfl) ?_
      refine lv_if_lt (tgt := 67) hx hb gd_Bk_type_45 (by decide) (fun c7 => ?_) (fun c7 => ?_)
      · replace hf := gj_t c7 hf
        refine lv_aload_n hx hb gd_Bk_type_67 rfl (lv_at hl 0 rfl) ?_
        refine va_get (D := D) (ci := 0) (C := gR_Bk) (T := gT_Bk) (N := 5) hx hb hts (fun w h => List.mem_cons_of_mem _ (gl_Bk w h)) hown hK (gq_one (c := 0) (k := 0) hH rfl (gk_c0 cI cT ad u)) 0 rfl rfl 0 (by decide) (ht _ gt_85) (fun _ h9 => h9) rfl gd_Bk_type_68 ?_
        refine va_getN (D := D) (ci := 2) (C := gR_Tx) (T := gT_Tx) (N := 3) hx hb hts (fun w h => List.mem_cons_of_mem _ (gl_Tx w h)) hown hK (gq_one (c := 6) (k := 100) hH (Nat.le_refl 100) (gk_c6 cI cT ad u 100)) 0 rfl rfl 2 (by decide) (va_Nw.use rfl (hN.1 _ (List.mem_of_getElem? (i := 0) rfl))) (fun _ h9 => h9) rfl gd_Bk_type_71 ?_
        cases hf
        exact W.iret hx hb hr (fun t ht hW => ⟨⟨_, _, rfl, ⟨rfl, rfl⟩, ⟨by rw [ht]; exact hH, va_K.moved hW.alike hK⟩⟩, hS.F ht⟩) hS.2.2 gd_Bk_type_74
      · replace hf := gj_e c7 hf
        refine lv_aload_n hx hb gd_Bk_type_48 rfl (lv_at hl 0 rfl) ?_
        refine va_get (D := D) (ci := 0) (C := gR_Bk) (T := gT_Bk) (N := 5) hx hb hts (fun w h => List.mem_cons_of_mem _ (gl_Bk w h)) hown hK (gq_one (c := 0) (k := 0) hH rfl (gk_c0 cI cT ad u)) 0 rfl rfl 0 (by decide) (ht _ gt_85) (fun _ h9 => h9) rfl gd_Bk_type_49 ?_
        refine lv_lload_n hx hb gd_Bk_type_52 rfl (lv_at hl 1 rfl) ?_
        refine lv_iload hx hb gd_Bk_type_53 (lv_at hl 3 rfl) ?_
        obtain ⟨z3, hc4, hf⟩ := Option.bind_eq_some_iff.mp hf
        refine gq_calli (va_runS (As := [.long x1, .int x4]) (rest := [.ref (ad 6 100)]) ⟨hx, hb, hml, hown, hts⟩ (ct_Bk_byteOf l D cI cT ad hI u x1 x4 z3 hc4) (va_cwS 2 hts (gt_S gt_108 gt_109 gt_1 gt_110) rfl rfl rfl (by decide +kernel) ⟨Nat.le_of_ble_eq_true rfl, Nat.le_of_ble_eq_true rfl⟩) (gq_preS hH hK hN) rfl rfl hl.1 rfl (lv_room (Nat.le_of_ble_eq_true rfl)) gd_Bk_type_55 ⟨Nat.zero_le _, Nat.zero_le _⟩) hA hS (fun H locs hH hS => ?_)
        obtain ⟨z5, hc6, hf⟩ := Option.bind_eq_some_iff.mp hf
        refine gq_callv (va_runV (As := [.int z3.1]) (rest := []) ⟨hx, hb, hml, hown, hts⟩ (ct_Tx_append l D cI cT ad hI z3.2 100 (Nat.le_refl 100) z3.1 z5 hc6) (cwV 1 hts (gt_V gt_112 gt_113 gt_114 gt_2 gt_115) rfl rfl rfl (by decide +kernel) ⟨Nat.le_of_ble_eq_true rfl, Nat.le_of_ble_eq_true rfl⟩) (gq_preV hH hK hN (va_recv hK (gq_one (c := 6) (k := 100) hH (Nat.le_refl 100) (gk_c6 cI cT ad z3.2 100)) (ci := 2) (q0 := 0) rfl rfl)) rfl rfl hl.1 rfl (lv_room (Nat.le_of_ble_eq_true rfl)) gd_Bk_type_58 ⟨Nat.zero_le _, Nat.zero_le _⟩) hA hS (fun H locs hH hS => ?_)
        refine lv_iinc (v := x4 + (-1)) (lv' := [(4, .int (x4 + (-1))), (0, .ref (ad 0 0)), (1, .long x1), (3, .int x3)]) hx hb gd_Bk_type_61 hl (k := 3) rfl rfl (by decide) rfl (fun ls hl => ?_)
        refine lv_goto (tgt := 43) hx hb gd_Bk_type_64 (by decide) ?_
        exact ih x1 x3 (x4 + (-1)) z5 _ _ _ hf hH hS (lv_sub hl [1, 2, 3, 0] rfl)
  unfold fn_Bk_type at hf
  refine lv_iload_n hx hb gd_Bk_type_0 rfl (lv_at hl 2 rfl) ?_
  refine lv_iconst (v := 1) hx hb gd_Bk_type_1 (by decide) ?_
  refine lv_icmp_lt (tgt := 19) hx hb gd_Bk_type_2 (by decide) (fun c11 => ?_) (fun c11 => ?_)
  · replace hf := gj_t c11 hf
    refine lv_iconst (v := (-1)) hx hb gd_Bk_type_19 (by decide) ?_
    cases hf
    exact W.iret hx hb hr (fun t ht hW => ⟨⟨_, _, rfl, ⟨rfl, rfl⟩, ⟨by rw [ht]; exact hH, va_K.moved hW.alike hK⟩⟩, hS.F ht⟩) hS.2.2 gd_Bk_type_20
  · replace hf := gj_e c11 hf
    refine lv_iload_n hx hb gd_Bk_type_5 rfl (lv_at hl 2 rfl) ?_
    refine lv_bipush (v := 8) hx hb gd_Bk_type_6 (by decide) ?_
    refine lv_icmp_gt (tgt := 19) hx hb gd_Bk_type_8 (by decide) (fun c10 => ?_) (fun c10 => ?_)
    · replace hf := gj_t c10 hf
      refine lv_iconst (v := (-1)) hx hb gd_Bk_type_19 (by decide) ?_
      cases hf
      exact W.iret hx hb hr (fun t ht hW => ⟨⟨_, _, rfl, ⟨rfl, rfl⟩, ⟨by rw [ht]; exact hH, va_K.moved hW.alike hK⟩⟩, hS.F ht⟩) hS.2.2 gd_Bk_type_20
    · replace hf := gj_e c10 hf
      refine lv_lload_n hx hb gd_Bk_type_11 rfl (lv_at hl 1 rfl) ?_
      refine lv_iload_n hx hb gd_Bk_type_12 rfl (lv_at hl 2 rfl) ?_
      obtain ⟨z1, hc2, hf⟩ := Option.bind_eq_some_iff.mp hf
      refine gq_calli (va_runS (As := [.long p1, .int p3]) (rest := []) ⟨hx, hb, hml, hown, hts⟩ (ct_Bk_allFit l D cI cT ad hI u p1 p3 z1 hc2) (va_cwS 2 hts (gt_S gt_105 gt_106 gt_1 gt_107) rfl rfl rfl (by decide +kernel) ⟨Nat.le_of_ble_eq_true rfl, Nat.le_of_ble_eq_true rfl⟩) (gq_preS hH hK hN) rfl rfl hl.1 rfl (lv_room (Nat.le_of_ble_eq_true rfl)) gd_Bk_type_13 ⟨Nat.zero_le _, Nat.zero_le _⟩) hA hS (fun H locs hH hS => ?_)
      refine lv_if_ne (tgt := 21) hx hb gd_Bk_type_16 (by decide) (fun c9 => ?_) (fun c9 => ?_)
      · replace hf := gj_e c9 hf
        refine lv_aload_n hx hb gd_Bk_type_21 rfl (lv_at hl 0 rfl) ?_
        refine va_get (D := D) (ci := 0) (C := gR_Bk) (T := gT_Bk) (N := 5) hx hb hts (fun w h => List.mem_cons_of_mem _ (gl_Bk w h)) hown hK (gq_one (c := 0) (k := 0) hH rfl (gk_c0 cI cT ad z1.2)) 0 rfl rfl 0 (by decide) (ht _ gt_85) (fun _ h9 => h9) rfl gd_Bk_type_22 ?_
        refine va_getN (D := D) (ci := 2) (C := gR_Tx) (T := gT_Tx) (N := 3) hx hb hts (fun w h => List.mem_cons_of_mem _ (gl_Tx w h)) hown hK (gq_one (c := 6) (k := 100) hH (Nat.le_refl 100) (gk_c6 cI cT ad z1.2 100)) 0 rfl rfl 2 (by decide) (va_Nw.use rfl (hN.1 _ (List.mem_of_getElem? (i := 0) rfl))) (fun _ h9 => h9) rfl gd_Bk_type_25 ?_
        refine lv_iload_n hx hb gd_Bk_type_28 rfl (lv_at hl 2 rfl) ?_
        refine lv_iadd hx hb gd_Bk_type_29 ?_
        refine lv_bipush (v := 16) hx hb gd_Bk_type_30 (by decide) ?_
        refine lv_icmp_le (tgt := 38) hx hb gd_Bk_type_32 (by decide) (fun c8 => ?_) (fun c8 => ?_)
        · replace hf := gj_t c8 hf
          refine lv_iload_n hx hb gd_Bk_type_38 rfl (lv_at hl 2 rfl) ?_
          refine lv_iconst (v := 1) hx hb gd_Bk_type_39 (by decide) ?_
          refine lv_isub hx hb gd_Bk_type_40 ?_
          refine lv_istore (lv' := [(4, .int (p3 - 1)), (0, .ref (ad 0 0)), (1, .long p1), (3, .int p3)]) hx hb gd_Bk_type_41 hl (by decide) rfl (fun ls hl => ?_)
          exact L43 gk_fu p1 p3 (p3 - 1) z1.2 _ _ _ hf hH hS (lv_sub hl [1, 2, 3, 0] rfl)
        · replace hf := gj_e c8 hf
          refine lv_bipush (v := (-3)) hx hb gd_Bk_type_35 (by decide) ?_
          cases hf
          exact W.iret hx hb hr (fun t ht hW => ⟨⟨_, _, rfl, ⟨rfl, rfl⟩, ⟨by rw [ht]; exact hH, va_K.moved hW.alike hK⟩⟩, hS.F ht⟩) hS.2.2 gd_Bk_type_37
      · replace hf := gj_t c9 hf
        refine lv_iconst (v := (-1)) hx hb gd_Bk_type_19 (by decide) ?_
        cases hf
        exact W.iret hx hb hr (fun t ht hW => ⟨⟨_, _, rfl, ⟨rfl, rfl⟩, ⟨by rw [ht]; exact hH, va_K.moved hW.alike hK⟩⟩, hS.F ht⟩) hS.2.2 gd_Bk_type_20
set_option maxHeartbeats 4000000 in
set_option maxRecDepth 100000 in
theorem ct_Tx_empty (l : Launch) (D : va_G) (cI cT : ClassId) (ad : Nat → Nat → Nat) (hI : gq_I gk_vd ad) (u : gk_St) (k : Nat) (hk : k ≤ 100) (z : gk_St) (hf : fn_Tx_empty k u = some z) : Met l gy_Tx_empty gws_Tx_empty ({ frames := 0, cells := 0, slots := 0, locals := 0 }) (va_Pc [.ref (ad 6 k)] (gq_pre D gc_cl (gk_tys cI cT) gk_vd ad gk_NF gk_NM (gk_pc cI cT ad u))) (va_Qv (fun u2 => u2 = z) (fun u2 t => gq_B D gc_cl (gk_tys cI cT) gk_vd ad (gk_pc cI cT ad u2) t) (gq_A gk_vd ad)) 0 0 (gq_A gk_vd ad) := by
  refine Met.ofW (cc := gb_Tx_empty) (maxL := 1) (ret := none) (by decide) rfl ?_
  intro p e s m args below meth c s₁ B hml hv
  obtain ⟨rfl, hH, hK, hN⟩ := hv
  have hx := B.exec
  have hb := B.bytes
  have hr := B.returns
  have hts := atoms_spec (ws := gws_Tx_empty) B.pre
  have ht := fun (w : Cond) (h : w ∈ gt_T) => hts w (List.mem_cons_of_mem _ h)
  have hown : s.vm.findClass gR_Tx = some m.cls := findClass_of_methodNamed B.named
  have hlocks := B.notSynchronized
  have hA : ∀ q, (gq_A gk_vd ad) q → (gq_A gk_vd ad) q := fun _ h => h
  have hS : va_S (gq_A gk_vd ad) s.heap s.heap [] := va_S.rf
  have hl := lv_entry ([.ref (ad 6 k)]) (n := 1) (Nat.le_of_ble_eq_true rfl)
  rw [lg_entry_eq]
  generalize (lg_sl ([.ref (ad 6 k)]) ++ List.replicate (1 - (lg_sl ([.ref (ad 6 k)])).length) Slot.unset).toArray = ls at hl ⊢
  have hl : lv_has ls 1 [(0, .ref (ad 6 k))] := hl
  unfold fn_Tx_empty at hf
  refine lv_aload_n hx hb gd_Tx_empty_0 rfl (lv_at hl 0 rfl) ?_
  refine lv_lconst (v := 0) hx hb gd_Tx_empty_1 (by decide) ?_
  refine gq_put (D := D) (ci := 2) (C := gR_Tx) (T := gT_Tx) (N := 3) (ca := 6) (ka := k) (pp' := gk_pc cI cT ad (gk_sL u 0 k 0)) (ty := .long) hx hb hts (fun w h => List.mem_cons_of_mem _ (gl_Tx w h)) gF_Tx gf_Tx gn_Tx hown hK hH hI hA hk (gk_c6 cI cT ad u k) rfl 0 (by decide) (ht _ gt_23) (fun _ h9 => h9) rfl (by decide +kernel) rfl rfl (Nat.le_of_ble_eq_true rfl) (gk_w0L cI cT ad u k 0) (gk_o0L cI cT ad u k 0) hS gd_Tx_empty_2 (fun H locs hH hS => ?_)
  refine lv_aload_n hx hb gd_Tx_empty_5 rfl (lv_at hl 0 rfl) ?_
  refine lv_lconst (v := 0) hx hb gd_Tx_empty_6 (by decide) ?_
  refine gq_put (D := D) (ci := 2) (C := gR_Tx) (T := gT_Tx) (N := 3) (ca := 6) (ka := k) (pp' := gk_pc cI cT ad (gk_sL (gk_sL u 0 k 0) 1 k 0)) (ty := .long) hx hb hts (fun w h => List.mem_cons_of_mem _ (gl_Tx w h)) gF_Tx gf_Tx gn_Tx hown hK hH hI hA hk (gk_c6 cI cT ad (gk_sL u 0 k 0) k) rfl 1 (by decide) (ht _ gt_24) (fun _ h9 => h9) rfl (by decide +kernel) rfl rfl (Nat.le_of_ble_eq_true rfl) (gk_w1L cI cT ad (gk_sL u 0 k 0) k 0) (gk_o1L cI cT ad (gk_sL u 0 k 0) k 0) hS gd_Tx_empty_7 (fun H locs hH hS => ?_)
  refine lv_aload_n hx hb gd_Tx_empty_10 rfl (lv_at hl 0 rfl) ?_
  refine lv_iconst (v := 0) hx hb gd_Tx_empty_11 (by decide) ?_
  refine gq_put (D := D) (ci := 2) (C := gR_Tx) (T := gT_Tx) (N := 3) (ca := 6) (ka := k) (pp' := gk_pc cI cT ad (gk_sI (gk_sL (gk_sL u 0 k 0) 1 k 0) 0 k 0)) (ty := .int) hx hb hts (fun w h => List.mem_cons_of_mem _ (gl_Tx w h)) gF_Tx gf_Tx gn_Tx hown hK hH hI hA hk (gk_c6 cI cT ad (gk_sL (gk_sL u 0 k 0) 1 k 0) k) rfl 2 (by decide) (ht _ gt_25) (fun _ h9 => h9) rfl (by decide +kernel) rfl rfl (Nat.le_of_ble_eq_true rfl) (gk_w0 cI cT ad (gk_sL (gk_sL u 0 k 0) 1 k 0) k 0) (gk_o0 cI cT ad (gk_sL (gk_sL u 0 k 0) 1 k 0) k 0) hS gd_Tx_empty_12 (fun H locs hH hS => ?_)
  cases hf
  exact W.vret hx hb hr (fun t ht hW => ⟨⟨_, rfl, rfl, ⟨by rw [ht]; exact hH, va_K.moved hW.alike hK⟩⟩, hS.F ht⟩) hS.2.2 gd_Tx_empty_15
set_option maxHeartbeats 4000000 in
set_option maxRecDepth 100000 in
theorem ct_Bk_clear (l : Launch) (D : va_G) (cI cT : ClassId) (ad : Nat → Nat → Nat) (hI : gq_I gk_vd ad) (u : gk_St)  (z : Int32 × gk_St) (hf : fn_Bk_clear u = some z) : Met l gy_Bk_clear gws_Bk_clear ({ frames := 1, cells := 0, slots := 0, locals := 20 }) (va_Pc [.ref (ad 0 0)] (gq_pre D gc_cl (gk_tys cI cT) gk_vd ad gk_NF gk_NM (gk_pc cI cT ad u))) (va_Qi (fun r u2 => r = z.1 ∧ u2 = z.2) (fun u2 t => gq_B D gc_cl (gk_tys cI cT) gk_vd ad (gk_pc cI cT ad u2) t) (gq_A gk_vd ad)) 0 0 (gq_A gk_vd ad) := by
  refine Met.ofW (cc := gb_Bk_clear) (maxL := 2) (ret := (some .int)) (by decide) rfl ?_
  intro p e s m args below meth c s₁ B hml hv
  obtain ⟨rfl, hH, hK, hN⟩ := hv
  have hx := B.exec
  have hb := B.bytes
  have hr := B.returns
  have hts := atoms_spec (ws := gws_Bk_clear) B.pre
  have ht := fun (w : Cond) (h : w ∈ gt_T) => hts w (List.mem_cons_of_mem _ h)
  have hown : s.vm.findClass gR_Bk = some m.cls := findClass_of_methodNamed B.named
  have hlocks := B.notSynchronized
  have hA : ∀ q, (gq_A gk_vd ad) q → (gq_A gk_vd ad) q := fun _ h => h
  have hS : va_S (gq_A gk_vd ad) s.heap s.heap [] := va_S.rf
  have hl := lv_entry ([.ref (ad 0 0)]) (n := 2) (Nat.le_of_ble_eq_true rfl)
  rw [lg_entry_eq]
  generalize (lg_sl ([.ref (ad 0 0)]) ++ List.replicate (2 - (lg_sl ([.ref (ad 0 0)])).length) Slot.unset).toArray = ls at hl ⊢
  have hl : lv_has ls 2 [(0, .ref (ad 0 0))] := hl
  unfold fn_Bk_clear at hf
  refine lv_aload_n hx hb gd_Bk_clear_0 rfl (lv_at hl 0 rfl) ?_
  refine va_get (D := D) (ci := 0) (C := gR_Bk) (T := gT_Bk) (N := 5) hx hb hts (fun w h => List.mem_cons_of_mem _ (gl_Bk w h)) hown hK (gq_one (c := 0) (k := 0) hH rfl (gk_c0 cI cT ad u)) 0 rfl rfl 0 (by decide) (ht _ gt_85) (fun _ h9 => h9) rfl gd_Bk_clear_1 ?_
  refine va_getN (D := D) (ci := 2) (C := gR_Tx) (T := gT_Tx) (N := 3) hx hb hts (fun w h => List.mem_cons_of_mem _ (gl_Tx w h)) hown hK (gq_one (c := 6) (k := 100) hH (Nat.le_refl 100) (gk_c6 cI cT ad u 100)) 0 rfl rfl 2 (by decide) (va_Nw.use rfl (hN.1 _ (List.mem_of_getElem? (i := 0) rfl))) (fun _ h9 => h9) rfl gd_Bk_clear_4 ?_
  refine lv_istore_n (lv' := [(1, .int (u.1 0 100)), (0, .ref (ad 0 0))]) hx hb gd_Bk_clear_7 rfl hl (by decide) rfl (fun ls hl => ?_)
  refine lv_aload_n hx hb gd_Bk_clear_8 rfl (lv_at hl 1 rfl) ?_
  refine va_get (D := D) (ci := 0) (C := gR_Bk) (T := gT_Bk) (N := 5) hx hb hts (fun w h => List.mem_cons_of_mem _ (gl_Bk w h)) hown hK (gq_one (c := 0) (k := 0) hH rfl (gk_c0 cI cT ad u)) 0 rfl rfl 0 (by decide) (ht _ gt_85) (fun _ h9 => h9) rfl gd_Bk_clear_9 ?_
  obtain ⟨z1, hc2, hf⟩ := Option.bind_eq_some_iff.mp hf
  refine gq_callv (va_runV (As := []) (rest := []) ⟨hx, hb, hml, hown, hts⟩ (ct_Tx_empty l D cI cT ad hI u 100 (Nat.le_refl 100) z1 hc2) (cwV 0 hts (gt_V gt_120 gt_121 gt_122 gt_2 gt_123) rfl rfl rfl (by decide +kernel) ⟨Nat.le_of_ble_eq_true rfl, Nat.le_of_ble_eq_true rfl⟩) (gq_preV hH hK hN (va_recv hK (gq_one (c := 6) (k := 100) hH (Nat.le_refl 100) (gk_c6 cI cT ad u 100)) (ci := 2) (q0 := 0) rfl rfl)) rfl rfl hl.1 rfl (lv_room (Nat.le_of_ble_eq_true rfl)) gd_Bk_clear_12 ⟨Nat.zero_le _, Nat.zero_le _⟩) hA hS (fun H locs hH hS => ?_)
  refine lv_iload_n hx hb gd_Bk_clear_15 rfl (lv_at hl 0 rfl) ?_
  cases hf
  exact W.iret hx hb hr (fun t ht hW => ⟨⟨_, _, rfl, ⟨rfl, rfl⟩, ⟨by rw [ht]; exact hH, va_K.moved hW.alike hK⟩⟩, hS.F ht⟩) hS.2.2 gd_Bk_clear_16
set_option maxHeartbeats 4000000 in
set_option maxRecDepth 100000 in
theorem ct_Bk_isKind (l : Launch) (D : va_G) (cI cT : ClassId) (ad : Nat → Nat → Nat) (hI : gq_I gk_vd ad) (u : gk_St) (p0 : Int32) (z : Int32 × gk_St) (hf : fn_Bk_isKind p0 u = some z) : Met l gy_Bk_isKind gws_Bk_isKind ({ frames := 0, cells := 0, slots := 0, locals := 0 }) (va_Pc [.int p0] (gq_pre D gc_cl (gk_tys cI cT) gk_vd ad gk_NF gk_NM (gk_pc cI cT ad u))) (va_Qi (fun r u2 => r = z.1 ∧ u2 = z.2) (fun u2 t => gq_B D gc_cl (gk_tys cI cT) gk_vd ad (gk_pc cI cT ad u2) t) (gq_A gk_vd ad)) 0 0 (gq_A gk_vd ad) := by
  refine Met.ofW (cc := gb_Bk_isKind) (maxL := 1) (ret := (some .boolean)) (by decide) rfl ?_
  intro p e s m args below meth c s₁ B hml hv
  obtain ⟨rfl, hH, hK, hN⟩ := hv
  have hx := B.exec
  have hb := B.bytes
  have hr := B.returns
  have hts := atoms_spec (ws := gws_Bk_isKind) B.pre
  have ht := fun (w : Cond) (h : w ∈ gt_T) => hts w (List.mem_cons_of_mem _ h)
  have hown : s.vm.findClass gR_Bk = some m.cls := findClass_of_methodNamed B.named
  have hlocks := B.notSynchronized
  have hA : ∀ q, (gq_A gk_vd ad) q → (gq_A gk_vd ad) q := fun _ h => h
  have hS : va_S (gq_A gk_vd ad) s.heap s.heap [] := va_S.rf
  have hl := lv_entry ([.int p0]) (n := 1) (Nat.le_of_ble_eq_true rfl)
  rw [lg_entry_eq]
  generalize (lg_sl ([.int p0]) ++ List.replicate (1 - (lg_sl ([.int p0])).length) Slot.unset).toArray = ls at hl ⊢
  have hl : lv_has ls 1 [(0, .int p0)] := hl
  unfold fn_Bk_isKind at hf
  refine lv_iload_n hx hb gd_Bk_isKind_0 rfl (lv_at hl 0 rfl) ?_
  refine lv_if_lt (tgt := 13) hx hb gd_Bk_isKind_1 (by decide) (fun c2 => ?_) (fun c2 => ?_)
  · replace hf := gj_t c2 hf
    refine lv_iconst (v := 0) hx hb gd_Bk_isKind_13 (by decide) ?_
    cases hf
    exact W.zret hx hb hr rfl (fun t ht hW => ⟨⟨_, _, rfl, ⟨rfl, rfl⟩, ⟨by rw [ht]; exact hH, va_K.moved hW.alike hK⟩⟩, hS.F ht⟩) hS.2.2 gd_Bk_isKind_14
  · replace hf := gj_e c2 hf
    refine lv_iload_n hx hb gd_Bk_isKind_4 rfl (lv_at hl 0 rfl) ?_
    refine lv_iconst (v := 4) hx hb gd_Bk_isKind_5 (by decide) ?_
    refine lv_icmp_ge (tgt := 13) hx hb gd_Bk_isKind_6 (by decide) (fun c1 => ?_) (fun c1 => ?_)
    · replace hf := gj_t c1 hf
      refine lv_iconst (v := 0) hx hb gd_Bk_isKind_13 (by decide) ?_
      cases hf
      exact W.zret hx hb hr rfl (fun t ht hW => ⟨⟨_, _, rfl, ⟨rfl, rfl⟩, ⟨by rw [ht]; exact hH, va_K.moved hW.alike hK⟩⟩, hS.F ht⟩) hS.2.2 gd_Bk_isKind_14
    · replace hf := gj_e c1 hf
      refine lv_iconst (v := 1) hx hb gd_Bk_isKind_9 (by decide) ?_
      refine lv_goto (tgt := 14) hx hb gd_Bk_isKind_10 (by decide) ?_
      cases hf
      exact W.zret hx hb hr rfl (fun t ht hW => ⟨⟨_, _, rfl, ⟨rfl, rfl⟩, ⟨by rw [ht]; exact hH, va_K.moved hW.alike hK⟩⟩, hS.F ht⟩) hS.2.2 gd_Bk_isKind_14
set_option maxHeartbeats 4000000 in
set_option maxRecDepth 100000 in
theorem ct_Lv_numberAt (l : Launch) (D : va_G) (cI cT : ClassId) (ad : Nat → Nat → Nat) (hI : gq_I gk_vd ad) (u : gk_St) (p1 : Int32) (z : Int32 × gk_St) (hf : fn_Lv_numberAt p1 u = some z) : Met l gy_Lv_numberAt gws_Lv_numberAt ({ frames := 0, cells := 0, slots := 0, locals := 0 }) (va_Pc [.ref (ad 2 0), .int p1] (gq_pre D gc_cl (gk_tys cI cT) gk_vd ad gk_NF gk_NM (gk_pc cI cT ad u))) (va_Qi (fun r u2 => r = z.1 ∧ u2 = z.2) (fun u2 t => gq_B D gc_cl (gk_tys cI cT) gk_vd ad (gk_pc cI cT ad u2) t) (gq_A gk_vd ad)) 0 0 (gq_A gk_vd ad) := by
  refine Met.ofW (cc := gb_Lv_numberAt) (maxL := 2) (ret := (some .int)) (by decide) rfl ?_
  intro p e s m args below meth c s₁ B hml hv
  obtain ⟨rfl, hH, hK, hN⟩ := hv
  have hx := B.exec
  have hb := B.bytes
  have hr := B.returns
  have hts := atoms_spec (ws := gws_Lv_numberAt) B.pre
  have ht := fun (w : Cond) (h : w ∈ gt_T) => hts w (List.mem_cons_of_mem _ h)
  have hown : s.vm.findClass gR_Lv = some m.cls := findClass_of_methodNamed B.named
  have hlocks := B.notSynchronized
  have hA : ∀ q, (gq_A gk_vd ad) q → (gq_A gk_vd ad) q := fun _ h => h
  have hS : va_S (gq_A gk_vd ad) s.heap s.heap [] := va_S.rf
  have hl := lv_entry ([.ref (ad 2 0), .int p1]) (n := 2) (Nat.le_of_ble_eq_true rfl)
  rw [lg_entry_eq]
  generalize (lg_sl ([.ref (ad 2 0), .int p1]) ++ List.replicate (2 - (lg_sl ([.ref (ad 2 0), .int p1])).length) Slot.unset).toArray = ls at hl ⊢
  have hl : lv_has ls 2 [(0, .ref (ad 2 0)), (1, .int p1)] := hl
  unfold fn_Lv_numberAt at hf
  refine lv_iload_n hx hb gd_Lv_numberAt_0 rfl (lv_at hl 1 rfl) ?_
  refine lv_if_lt (tgt := 30) hx hb gd_Lv_numberAt_1 (by decide) (fun c4 => ?_) (fun c4 => ?_)
  · replace hf := gj_t c4 hf
    refine lv_iconst (v := (-1)) hx hb gd_Lv_numberAt_30 (by decide) ?_
    cases hf
    exact W.iret hx hb hr (fun t ht hW => ⟨⟨_, _, rfl, ⟨rfl, rfl⟩, ⟨by rw [ht]; exact hH, va_K.moved hW.alike hK⟩⟩, hS.F ht⟩) hS.2.2 gd_Lv_numberAt_31
  · replace hf := gj_e c4 hf
    refine lv_iload_n hx hb gd_Lv_numberAt_4 rfl (lv_at hl 1 rfl) ?_
    refine lv_aload_n hx hb gd_Lv_numberAt_5 rfl (lv_at hl 0 rfl) ?_
    refine va_get (D := D) (ci := 1) (C := gR_Lv) (T := gT_Lv) (N := 4) hx hb hts (fun w h => List.mem_cons_of_mem _ (gl_Lv w h)) hown hK (gq_one (c := 2) (k := 0) hH rfl (gk_c2 cI cT ad u)) 0 rfl rfl 1 (by decide) (ht _ gt_70) (fun _ h9 => h9) rfl gd_Lv_numberAt_6 ?_
    refine lv_icmp_ge (tgt := 30) hx hb gd_Lv_numberAt_9 (by decide) (fun c3 => ?_) (fun c3 => ?_)
    · replace hf := gj_t c3 hf
      refine lv_iconst (v := (-1)) hx hb gd_Lv_numberAt_30 (by decide) ?_
      cases hf
      exact W.iret hx hb hr (fun t ht hW => ⟨⟨_, _, rfl, ⟨rfl, rfl⟩, ⟨by rw [ht]; exact hH, va_K.moved hW.alike hK⟩⟩, hS.F ht⟩) hS.2.2 gd_Lv_numberAt_31
    · replace hf := gj_e c3 hf
      refine lv_iload_n hx hb gd_Lv_numberAt_12 rfl (lv_at hl 1 rfl) ?_
      refine lv_aload_n hx hb gd_Lv_numberAt_13 rfl (lv_at hl 0 rfl) ?_
      refine va_get (D := D) (ci := 1) (C := gR_Lv) (T := gT_Lv) (N := 4) hx hb hts (fun w h => List.mem_cons_of_mem _ (gl_Lv w h)) hown hK (gq_one (c := 2) (k := 0) hH rfl (gk_c2 cI cT ad u)) 0 rfl rfl 0 (by decide) (ht _ gt_69) (fun _ h9 => h9) rfl gd_Lv_numberAt_14 ?_
      refine va_alen (D := D) (v := 100) hx hb hK (gq_one (c := 3) (k := 0) hH rfl (gk_c3 cI cT ad u)) 0 0 rfl rfl rfl gd_Lv_numberAt_17 ?_
      refine lv_icmp_ge (tgt := 30) hx hb gd_Lv_numberAt_18 (by decide) (fun c2 => ?_) (fun c2 => ?_)
      · replace hf := gj_t c2 hf
        refine lv_iconst (v := (-1)) hx hb gd_Lv_numberAt_30 (by decide) ?_
        cases hf
        exact W.iret hx hb hr (fun t ht hW => ⟨⟨_, _, rfl, ⟨rfl, rfl⟩, ⟨by rw [ht]; exact hH, va_K.moved hW.alike hK⟩⟩, hS.F ht⟩) hS.2.2 gd_Lv_numberAt_31
      · replace hf := gj_e c2 hf
        refine lv_aload_n hx hb gd_Lv_numberAt_21 rfl (lv_at hl 0 rfl) ?_
        refine va_get (D := D) (ci := 1) (C := gR_Lv) (T := gT_Lv) (N := 4) hx hb hts (fun w h => List.mem_cons_of_mem _ (gl_Lv w h)) hown hK (gq_one (c := 2) (k := 0) hH rfl (gk_c2 cI cT ad u)) 0 rfl rfl 0 (by decide) (ht _ gt_69) (fun _ h9 => h9) rfl gd_Lv_numberAt_22 ?_
        refine lv_iload_n hx hb gd_Lv_numberAt_25 rfl (lv_at hl 1 rfl) ?_
        obtain ⟨hg1, hf⟩ := gj_g hf
        refine va_iald (D := D) hx hb hK (gq_one (c := 3) (k := 0) hH rfl (gk_c3 cI cT ad u)) 0 0 rfl rfl hg1 gd_Lv_numberAt_26 ?_
        refine lv_goto (tgt := 31) hx hb gd_Lv_numberAt_27 (by decide) ?_
        cases hf
        exact W.iret hx hb hr (fun t ht hW => ⟨⟨_, _, rfl, ⟨rfl, rfl⟩, ⟨by rw [ht]; exact hH, va_K.moved hW.alike hK⟩⟩, hS.F ht⟩) hS.2.2 gd_Lv_numberAt_31
set_option maxHeartbeats 4000000 in
set_option maxRecDepth 100000 in
theorem ct_Bk_inBook (l : Launch) (D : va_G) (cI cT : ClassId) (ad : Nat → Nat → Nat) (hI : gq_I gk_vd ad) (u : gk_St) (p1 : Int32) (z : Option Nat × gk_St) (hf : fn_Bk_inBook p1 u = some z) : Met l gy_Bk_inBook gws_Bk_inBook ({ frames := 0, cells := 0, slots := 0, locals := 0 }) (va_Pc [.ref (ad 0 0), .int p1] (gq_pre D gc_cl (gk_tys cI cT) gk_vd ad gk_NF gk_NM (gk_pc cI cT ad u))) (va_Qe (ad 7) (fun r u2 => r = z.1 ∧ u2 = z.2) (fun u2 t => gq_B D gc_cl (gk_tys cI cT) gk_vd ad (gk_pc cI cT ad u2) t) (gq_A gk_vd ad)) 0 0 (gq_A gk_vd ad) := by
  refine Met.ofW (cc := gb_Bk_inBook) (maxL := 3) (ret := (some (.object "TermBook$Term"))) (by decide) rfl ?_
  intro p e s m args below meth c s₁ B hml hv
  obtain ⟨rfl, hH, hK, hN⟩ := hv
  have hx := B.exec
  have hb := B.bytes
  have hr := B.returns
  have hts := atoms_spec (ws := gws_Bk_inBook) B.pre
  have ht := fun (w : Cond) (h : w ∈ gt_T) => hts w (List.mem_cons_of_mem _ h)
  have hown : s.vm.findClass gR_Bk = some m.cls := findClass_of_methodNamed B.named
  have hlocks := B.notSynchronized
  have hA : ∀ q, (gq_A gk_vd ad) q → (gq_A gk_vd ad) q := fun _ h => h
  have hS : va_S (gq_A gk_vd ad) s.heap s.heap [] := va_S.rf
  have hl := lv_entry ([.ref (ad 0 0), .int p1]) (n := 3) (Nat.le_of_ble_eq_true rfl)
  rw [lg_entry_eq]
  generalize (lg_sl ([.ref (ad 0 0), .int p1]) ++ List.replicate (3 - (lg_sl ([.ref (ad 0 0), .int p1])).length) Slot.unset).toArray = ls at hl ⊢
  have hl : lv_has ls 3 [(0, .ref (ad 0 0)), (1, .int p1)] := hl
  unfold fn_Bk_inBook at hf
  refine lv_iload_n hx hb gd_Bk_inBook_0 rfl (lv_at hl 1 rfl) ?_
  refine lv_if_lt (tgt := 13) hx hb gd_Bk_inBook_1 (by decide) (fun c4 => ?_) (fun c4 => ?_)
  · replace hf := gj_t c4 hf
    refine lv_null hx hb gd_Bk_inBook_13 ?_
    cases hf
    exact W.aret hx hb hr (Or.inl ⟨_, rfl⟩) (Or.inl rfl) (fun t ht hW => ⟨⟨none, _, rfl, ⟨rfl, rfl⟩, ⟨by rw [ht]; exact hH, va_K.moved hW.alike hK⟩⟩, hS.F ht⟩) hS.2.2 gd_Bk_inBook_14
  · replace hf := gj_e c4 hf
    refine lv_iload_n hx hb gd_Bk_inBook_4 rfl (lv_at hl 1 rfl) ?_
    refine lv_aload_n hx hb gd_Bk_inBook_5 rfl (lv_at hl 0 rfl) ?_
    refine va_get (D := D) (ci := 0) (C := gR_Bk) (T := gT_Bk) (N := 5) hx hb hts (fun w h => List.mem_cons_of_mem _ (gl_Bk w h)) hown hK (gq_one (c := 0) (k := 0) hH rfl (gk_c0 cI cT ad u)) 0 rfl rfl 1 (by decide) (ht _ gt_86) (fun _ h9 => h9) rfl gd_Bk_inBook_6 ?_
    refine va_alen (D := D) (v := 100) hx hb hK (gq_one (c := 1) (k := 0) hH rfl (gk_c1 cI cT ad u)) 0 1 rfl rfl rfl gd_Bk_inBook_9 ?_
    refine lv_icmp_lt (tgt := 15) hx hb gd_Bk_inBook_10 (by decide) (fun c3 => ?_) (fun c3 => ?_)
    · replace hf := gj_t c3 hf
      refine lv_aload_n hx hb gd_Bk_inBook_15 rfl (lv_at hl 0 rfl) ?_
      refine va_get (D := D) (ci := 0) (C := gR_Bk) (T := gT_Bk) (N := 5) hx hb hts (fun w h => List.mem_cons_of_mem _ (gl_Bk w h)) hown hK (gq_one (c := 0) (k := 0) hH rfl (gk_c0 cI cT ad u)) 0 rfl rfl 1 (by decide) (ht _ gt_86) (fun _ h9 => h9) rfl gd_Bk_inBook_16 ?_
      refine lv_iload_n hx hb gd_Bk_inBook_19 rfl (lv_at hl 1 rfl) ?_
      obtain ⟨hg1, hf⟩ := gj_g hf
      refine va_aldq (D := D) hx hb hK (gq_one (c := 1) (k := 0) hH rfl (gk_c1 cI cT ad u)) 0 1 rfl rfl hg1 gd_Bk_inBook_20 ?_
      refine W.eq (g2 := F0 m 21 ls [.ref (ad 7 (Int32.toNatClampNeg p1))]) rfl ?_
      refine lv_astore_n (lv' := [(2, .ref (ad 7 (Int32.toNatClampNeg p1))), (0, .ref (ad 0 0)), (1, .int p1)]) hx hb gd_Bk_inBook_21 rfl hl (by decide) rfl (fun ls hl => ?_)
      refine lv_aload_n hx hb gd_Bk_inBook_22 rfl (lv_at hl 0 rfl) ?_
      refine lv_ifnull hx hb gd_Bk_inBook_23 ?_
      refine lv_aload_n hx hb gd_Bk_inBook_26 rfl (lv_at hl 0 rfl) ?_
      refine va_getN (D := D) (ci := 3) (C := gR_Tm) (T := gT_Tm) (N := 5) hx hb hts (fun w h => List.mem_cons_of_mem _ (gl_Tm w h)) hown hK (gq_one (c := 7) (k := (Int32.toNatClampNeg p1)) hH (gj_in_lt hg1) (gk_c7 cI cT ad u (Int32.toNatClampNeg p1))) 0 rfl rfl 1 (by decide) (va_Nw.use rfl (hN.1 _ (List.mem_of_getElem? (i := 2) rfl))) (fun _ h9 => h9) rfl gd_Bk_inBook_27 ?_
      refine lv_if_eq (tgt := 37) hx hb gd_Bk_inBook_30 (by decide) (fun c2 => ?_) (fun c2 => ?_)
      · replace hf := gj_t c2 hf
        refine lv_null hx hb gd_Bk_inBook_37 ?_
        cases hf
        exact W.aret hx hb hr (Or.inl ⟨_, rfl⟩) (Or.inl rfl) (fun t ht hW => ⟨⟨none, _, rfl, ⟨rfl, rfl⟩, ⟨by rw [ht]; exact hH, va_K.moved hW.alike hK⟩⟩, hS.F ht⟩) hS.2.2 gd_Bk_inBook_38
      · replace hf := gj_e c2 hf
        refine lv_aload_n hx hb gd_Bk_inBook_33 rfl (lv_at hl 0 rfl) ?_
        refine lv_goto (tgt := 38) hx hb gd_Bk_inBook_34 (by decide) ?_
        cases hf
        exact W.aret hx hb hr (Or.inl ⟨_, rfl⟩) (Or.inr ⟨_, rfl⟩) (fun t ht hW => ⟨⟨some (Int32.toNatClampNeg p1), _, rfl, ⟨rfl, rfl⟩, ⟨by rw [ht]; exact hH, va_K.moved hW.alike hK⟩⟩, hS.F ht⟩) hS.2.2 gd_Bk_inBook_38
    · replace hf := gj_e c3 hf
      refine lv_null hx hb gd_Bk_inBook_13 ?_
      cases hf
      exact W.aret hx hb hr (Or.inl ⟨_, rfl⟩) (Or.inl rfl) (fun t ht hW => ⟨⟨none, _, rfl, ⟨rfl, rfl⟩, ⟨by rw [ht]; exact hH, va_K.moved hW.alike hK⟩⟩, hS.F ht⟩) hS.2.2 gd_Bk_inBook_14
set_option maxHeartbeats 4000000 in
set_option maxRecDepth 100000 in
theorem ct_Tx_compareWith (l : Launch) (D : va_G) (cI cT : ClassId) (ad : Nat → Nat → Nat) (hI : gq_I gk_vd ad) (u : gk_St) (k : Nat) (hk : k ≤ 100) (q1 : Nat) (hq1 : q1 ≤ 100) (z : Int32 × gk_St) (hf : fn_Tx_compareWith k q1 u = some z) : Met l gy_Tx_compareWith gws_Tx_compareWith ({ frames := 1, cells := 0, slots := 0, locals := 23 }) (va_Pc [.ref (ad 6 k), .ref (ad 6 q1)] (gq_pre D gc_cl (gk_tys cI cT) gk_vd ad gk_NF gk_NM (gk_pc cI cT ad u))) (va_Qi (fun r u2 => r = z.1 ∧ u2 = z.2) (fun u2 t => gq_B D gc_cl (gk_tys cI cT) gk_vd ad (gk_pc cI cT ad u2) t) (gq_A gk_vd ad)) 0 0 (gq_A gk_vd ad) := by
  refine Met.ofW (cc := gb_Tx_compareWith) (maxL := 2) (ret := (some .int)) (by decide) rfl ?_
  intro p e s m args below meth c s₁ B hml hv
  obtain ⟨rfl, hH, hK, hN⟩ := hv
  have hx := B.exec
  have hb := B.bytes
  have hr := B.returns
  have hts := atoms_spec (ws := gws_Tx_compareWith) B.pre
  have ht := fun (w : Cond) (h : w ∈ gt_T) => hts w (List.mem_cons_of_mem _ h)
  have hown : s.vm.findClass gR_Tx = some m.cls := findClass_of_methodNamed B.named
  have hlocks := B.notSynchronized
  have hA : ∀ q, (gq_A gk_vd ad) q → (gq_A gk_vd ad) q := fun _ h => h
  have hS : va_S (gq_A gk_vd ad) s.heap s.heap [] := va_S.rf
  have hl := lv_entry ([.ref (ad 6 k), .ref (ad 6 q1)]) (n := 2) (Nat.le_of_ble_eq_true rfl)
  rw [lg_entry_eq]
  generalize (lg_sl ([.ref (ad 6 k), .ref (ad 6 q1)]) ++ List.replicate (2 - (lg_sl ([.ref (ad 6 k), .ref (ad 6 q1)])).length) Slot.unset).toArray = ls at hl ⊢
  have hl : lv_has ls 2 [(0, .ref (ad 6 k)), (1, .ref (ad 6 q1))] := hl
  unfold fn_Tx_compareWith at hf
  refine lv_aload_n hx hb gd_Tx_compareWith_0 rfl (lv_at hl 0 rfl) ?_
  refine va_get (D := D) (ci := 2) (C := gR_Tx) (T := gT_Tx) (N := 3) hx hb hts (fun w h => List.mem_cons_of_mem _ (gl_Tx w h)) hown hK (gq_one (c := 6) (k := k) hH hk (gk_c6 cI cT ad u k)) 0 rfl rfl 0 (by decide) (ht _ gt_23) (fun _ h9 => h9) rfl gd_Tx_compareWith_1 ?_
  refine lv_aload_n hx hb gd_Tx_compareWith_4 rfl (lv_at hl 1 rfl) ?_
  refine va_get (D := D) (ci := 2) (C := gR_Tx) (T := gT_Tx) (N := 3) hx hb hts (fun w h => List.mem_cons_of_mem _ (gl_Tx w h)) hown hK (gq_one (c := 6) (k := q1) hH hq1 (gk_c6 cI cT ad u q1)) 0 rfl rfl 0 (by decide) (ht _ gt_23) (fun _ h9 => h9) rfl gd_Tx_compareWith_5 ?_
  refine W.lcmp hx hb gd_Tx_compareWith_8 ?_
  refine lv_if_eq (tgt := 26) hx hb gd_Tx_compareWith_9 (by decide) (fun c1 => ?_) (fun c1 => ?_)
  · replace hf := gj_t c1 hf
    refine lv_aload_n hx hb gd_Tx_compareWith_26 rfl (lv_at hl 0 rfl) ?_
    refine va_get (D := D) (ci := 2) (C := gR_Tx) (T := gT_Tx) (N := 3) hx hb hts (fun w h => List.mem_cons_of_mem _ (gl_Tx w h)) hown hK (gq_one (c := 6) (k := k) hH hk (gk_c6 cI cT ad u k)) 0 rfl rfl 1 (by decide) (ht _ gt_24) (fun _ h9 => h9) rfl gd_Tx_compareWith_27 ?_
    refine lv_aload_n hx hb gd_Tx_compareWith_30 rfl (lv_at hl 1 rfl) ?_
    refine va_get (D := D) (ci := 2) (C := gR_Tx) (T := gT_Tx) (N := 3) hx hb hts (fun w h => List.mem_cons_of_mem _ (gl_Tx w h)) hown hK (gq_one (c := 6) (k := q1) hH hq1 (gk_c6 cI cT ad u q1)) 0 rfl rfl 1 (by decide) (ht _ gt_24) (fun _ h9 => h9) rfl gd_Tx_compareWith_31 ?_
    refine W.callR (W.runS (As := [.long (u.2 1 k), .long (u.2 1 q1)]) (rest := []) ⟨hx, hb, hml, hown, hts⟩ (ct_Lo_compare l (u.2 1 k) (u.2 1 q1) _ rfl) (va_cwS 2 hts (gt_S gt_162 gt_163 gt_7 gt_164) rfl rfl rfl (by decide +kernel) ⟨Nat.le_of_ble_eq_true rfl, Nat.le_of_ble_eq_true rfl⟩) preEq rfl rfl hl.1 rfl (lv_room (Nat.le_of_ble_eq_true rfl)) gd_Tx_compareWith_34 ⟨Nat.zero_le _, Nat.zero_le _⟩) ?_
    refine W.eq (g2 := F0 m 37 ls (.int (fn_Lo_compare (u.2 1 k) (u.2 1 q1)) :: [])) rfl ?_
    cases hf
    exact W.iret hx hb hr (fun t ht hW => ⟨⟨_, _, rfl, ⟨rfl, rfl⟩, ⟨by rw [ht]; exact hH, va_K.moved hW.alike hK⟩⟩, hS.F ht⟩) hS.2.2 gd_Tx_compareWith_37
  · replace hf := gj_e c1 hf
    refine lv_aload_n hx hb gd_Tx_compareWith_12 rfl (lv_at hl 0 rfl) ?_
    refine va_get (D := D) (ci := 2) (C := gR_Tx) (T := gT_Tx) (N := 3) hx hb hts (fun w h => List.mem_cons_of_mem _ (gl_Tx w h)) hown hK (gq_one (c := 6) (k := k) hH hk (gk_c6 cI cT ad u k)) 0 rfl rfl 0 (by decide) (ht _ gt_23) (fun _ h9 => h9) rfl gd_Tx_compareWith_13 ?_
    refine lv_aload_n hx hb gd_Tx_compareWith_16 rfl (lv_at hl 1 rfl) ?_
    refine va_get (D := D) (ci := 2) (C := gR_Tx) (T := gT_Tx) (N := 3) hx hb hts (fun w h => List.mem_cons_of_mem _ (gl_Tx w h)) hown hK (gq_one (c := 6) (k := q1) hH hq1 (gk_c6 cI cT ad u q1)) 0 rfl rfl 0 (by decide) (ht _ gt_23) (fun _ h9 => h9) rfl gd_Tx_compareWith_17 ?_
    refine W.callR (W.runS (As := [.long (u.2 0 k), .long (u.2 0 q1)]) (rest := []) ⟨hx, hb, hml, hown, hts⟩ (ct_Lo_compare l (u.2 0 k) (u.2 0 q1) _ rfl) (va_cwS 2 hts (gt_S gt_162 gt_163 gt_7 gt_164) rfl rfl rfl (by decide +kernel) ⟨Nat.le_of_ble_eq_true rfl, Nat.le_of_ble_eq_true rfl⟩) preEq rfl rfl hl.1 rfl (lv_room (Nat.le_of_ble_eq_true rfl)) gd_Tx_compareWith_20 ⟨Nat.zero_le _, Nat.zero_le _⟩) ?_
    refine W.eq (g2 := F0 m 23 ls (.int (fn_Lo_compare (u.2 0 k) (u.2 0 q1)) :: [])) rfl ?_
    refine lv_goto (tgt := 37) hx hb gd_Tx_compareWith_23 (by decide) ?_
    cases hf
    exact W.iret hx hb hr (fun t ht hW => ⟨⟨_, _, rfl, ⟨rfl, rfl⟩, ⟨by rw [ht]; exact hH, va_K.moved hW.alike hK⟩⟩, hS.F ht⟩) hS.2.2 gd_Tx_compareWith_37
end
section
set_option maxHeartbeats 4000000 in
set_option maxRecDepth 100000 in
theorem ct_Tm_compareWith (l : Launch) (D : va_G) (cI cT : ClassId) (ad : Nat → Nat → Nat) (hI : gq_I gk_vd ad) (u : gk_St) (k : Nat) (hk : k < 100) (p1 : Int32) (q2 : Nat) (hq2 : q2 ≤ 100) (z : Int32 × gk_St) (hf : fn_Tm_compareWith k p1 q2 u = some z) : Met l gy_Tm_compareWith gws_Tm_compareWith ({ frames := 2, cells := 0, slots := 0, locals := 44 }) (va_Pc [.ref (ad 7 k), .int p1, .ref (ad 6 q2)] (gq_pre D gc_cl (gk_tys cI cT) gk_vd ad gk_NF gk_NM (gk_pc cI cT ad u))) (va_Qi (fun r u2 => r = z.1 ∧ u2 = z.2) (fun u2 t => gq_B D gc_cl (gk_tys cI cT) gk_vd ad (gk_pc cI cT ad u2) t) (gq_A gk_vd ad)) 0 0 (gq_A gk_vd ad) := by
  refine Met.ofW (cc := gb_Tm_compareWith) (maxL := 3) (ret := (some .int)) (by decide) rfl ?_
  intro p e s m args below meth c s₁ B hml hv
  obtain ⟨rfl, hH, hK, hN⟩ := hv
  have hx := B.exec
  have hb := B.bytes
  have hr := B.returns
  have hts := atoms_spec (ws := gws_Tm_compareWith) B.pre
  have ht := fun (w : Cond) (h : w ∈ gt_T) => hts w (List.mem_cons_of_mem _ h)
  have hown : s.vm.findClass gR_Tm = some m.cls := findClass_of_methodNamed B.named
  have hlocks := B.notSynchronized
  have hA : ∀ q, (gq_A gk_vd ad) q → (gq_A gk_vd ad) q := fun _ h => h
  have hS : va_S (gq_A gk_vd ad) s.heap s.heap [] := va_S.rf
  have hl := lv_entry ([.ref (ad 7 k), .int p1, .ref (ad 6 q2)]) (n := 3) (Nat.le_of_ble_eq_true rfl)
  rw [lg_entry_eq]
  generalize (lg_sl ([.ref (ad 7 k), .int p1, .ref (ad 6 q2)]) ++ List.replicate (3 - (lg_sl ([.ref (ad 7 k), .int p1, .ref (ad 6 q2)])).length) Slot.unset).toArray = ls at hl ⊢
  have hl : lv_has ls 3 [(0, .ref (ad 7 k)), (1, .int p1), (2, .ref (ad 6 q2))] := hl
  unfold fn_Tm_compareWith at hf
  refine lv_aload_n hx hb gd_Tm_compareWith_0 rfl (lv_at hl 0 rfl) ?_
  refine va_get (D := D) (ci := 3) (C := gR_Tm) (T := gT_Tm) (N := 5) hx hb hts (fun w h => List.mem_cons_of_mem _ (gl_Tm w h)) hown hK (gq_one (c := 7) (k := k) hH hk (gk_c7 cI cT ad u k)) 0 rfl rfl 2 (by decide) (ht _ gt_47) (fun _ h9 => h9) rfl gd_Tm_compareWith_1 ?_
  refine lv_iload_n hx hb gd_Tm_compareWith_4 rfl (lv_at hl 1 rfl) ?_
  refine lv_icmp_eq (tgt := 19) hx hb gd_Tm_compareWith_5 (by decide) (fun c3 => ?_) (fun c3 => ?_)
  · replace hf := gj_t c3 hf
    refine lv_aload_n hx hb gd_Tm_compareWith_19 rfl (lv_at hl 0 rfl) ?_
    refine va_get (D := D) (ci := 3) (C := gR_Tm) (T := gT_Tm) (N := 5) hx hb hts (fun w h => List.mem_cons_of_mem _ (gl_Tm w h)) hown hK (gq_one (c := 7) (k := k) hH hk (gk_c7 cI cT ad u k)) 0 rfl rfl 0 (by decide) (ht _ gt_43) (fun _ h9 => h9) rfl gd_Tm_compareWith_20 ?_
    refine lv_aload_n hx hb gd_Tm_compareWith_23 rfl (lv_at hl 2 rfl) ?_
    obtain ⟨z1, hc2, hf⟩ := Option.bind_eq_some_iff.mp hf
    refine gq_calli (va_runV (As := [.ref (ad 6 q2)]) (rest := []) ⟨hx, hb, hml, hown, hts⟩ (ct_Tx_compareWith l D cI cT ad hI u k (Nat.le_of_lt hk) q2 hq2 z1 hc2) (cwV 1 hts (gt_V gt_158 gt_159 gt_160 gt_2 gt_161) rfl rfl rfl (by decide +kernel) ⟨Nat.le_of_ble_eq_true rfl, Nat.le_of_ble_eq_true rfl⟩) (gq_preV hH hK hN (va_recv hK (gq_one (c := 6) (k := k) hH (Nat.le_of_lt hk) (gk_c6 cI cT ad u k)) (ci := 2) (q0 := 0) rfl rfl)) rfl rfl hl.1 rfl (lv_room (Nat.le_of_ble_eq_true rfl)) gd_Tm_compareWith_24 ⟨Nat.zero_le _, Nat.zero_le _⟩) hA hS (fun H locs hH hS => ?_)
    cases hf
    exact W.iret hx hb hr (fun t ht hW => ⟨⟨_, _, rfl, ⟨rfl, rfl⟩, ⟨by rw [ht]; exact hH, va_K.moved hW.alike hK⟩⟩, hS.F ht⟩) hS.2.2 gd_Tm_compareWith_27
  · replace hf := gj_e c3 hf
    refine lv_aload_n hx hb gd_Tm_compareWith_8 rfl (lv_at hl 0 rfl) ?_
    refine va_get (D := D) (ci := 3) (C := gR_Tm) (T := gT_Tm) (N := 5) hx hb hts (fun w h => List.mem_cons_of_mem _ (gl_Tm w h)) hown hK (gq_one (c := 7) (k := k) hH hk (gk_c7 cI cT ad u k)) 0 rfl rfl 2 (by decide) (ht _ gt_47) (fun _ h9 => h9) rfl gd_Tm_compareWith_9 ?_
    refine lv_iload_n hx hb gd_Tm_compareWith_12 rfl (lv_at hl 1 rfl) ?_
    refine W.callR (W.runS (As := [.int (u.1 2 k), .int p1]) (rest := []) ⟨hx, hb, hml, hown, hts⟩ (ct_In_compare l (u.1 2 k) p1 _ rfl) (va_cwS 2 hts (gt_S gt_155 gt_156 gt_6 gt_157) rfl rfl rfl (by decide +kernel) ⟨Nat.le_of_ble_eq_true rfl, Nat.le_of_ble_eq_true rfl⟩) preEq rfl rfl hl.1 rfl (lv_room (Nat.le_of_ble_eq_true rfl)) gd_Tm_compareWith_13 ⟨Nat.zero_le _, Nat.zero_le _⟩) ?_
    refine W.eq (g2 := F0 m 16 ls (.int (fn_In_compare (u.1 2 k) p1) :: [])) rfl ?_
    refine lv_goto (tgt := 27) hx hb gd_Tm_compareWith_16 (by decide) ?_
    cases hf
    exact W.iret hx hb hr (fun t ht hW => ⟨⟨_, _, rfl, ⟨rfl, rfl⟩, ⟨by rw [ht]; exact hH, va_K.moved hW.alike hK⟩⟩, hS.F ht⟩) hS.2.2 gd_Tm_compareWith_27
set_option maxHeartbeats 4000000 in
set_option maxRecDepth 100000 in
theorem ct_Bk_isBeforeTape (l : Launch) (D : va_G) (cI cT : ClassId) (ad : Nat → Nat → Nat) (hI : gq_I gk_vd ad) (u : gk_St) (p1 : Int32) (p2 : Int32) (z : Int32 × gk_St) (hf : fn_Bk_isBeforeTape p1 p2 u = some z) : Met l gy_Bk_isBeforeTape gws_Bk_isBeforeTape ({ frames := 3, cells := 0, slots := 0, locals := 66 }) (va_Pc [.ref (ad 0 0), .int p1, .int p2] (gq_pre D gc_cl (gk_tys cI cT) gk_vd ad gk_NF gk_NM (gk_pc cI cT ad u))) (va_Qi (fun r u2 => r = z.1 ∧ u2 = z.2) (fun u2 t => gq_B D gc_cl (gk_tys cI cT) gk_vd ad (gk_pc cI cT ad u2) t) (gq_A gk_vd ad)) 0 0 (gq_A gk_vd ad) := by
  refine Met.ofW (cc := gb_Bk_isBeforeTape) (maxL := 4) (ret := (some .boolean)) (by decide) rfl ?_
  intro p e s m args below meth c s₁ B hml hv
  obtain ⟨rfl, hH, hK, hN⟩ := hv
  have hx := B.exec
  have hb := B.bytes
  have hr := B.returns
  have hts := atoms_spec (ws := gws_Bk_isBeforeTape) B.pre
  have ht := fun (w : Cond) (h : w ∈ gt_T) => hts w (List.mem_cons_of_mem _ h)
  have hown : s.vm.findClass gR_Bk = some m.cls := findClass_of_methodNamed B.named
  have hlocks := B.notSynchronized
  have hA : ∀ q, (gq_A gk_vd ad) q → (gq_A gk_vd ad) q := fun _ h => h
  have hS : va_S (gq_A gk_vd ad) s.heap s.heap [] := va_S.rf
  have hl := lv_entry ([.ref (ad 0 0), .int p1, .int p2]) (n := 4) (Nat.le_of_ble_eq_true rfl)
  rw [lg_entry_eq]
  generalize (lg_sl ([.ref (ad 0 0), .int p1, .int p2]) ++ List.replicate (4 - (lg_sl ([.ref (ad 0 0), .int p1, .int p2])).length) Slot.unset).toArray = ls at hl ⊢
  have hl : lv_has ls 4 [(0, .ref (ad 0 0)), (1, .int p1), (2, .int p2)] := hl
  unfold fn_Bk_isBeforeTape at hf
  refine lv_aload_n hx hb gd_Bk_isBeforeTape_0 rfl (lv_at hl 0 rfl) ?_
  refine lv_iload_n hx hb gd_Bk_isBeforeTape_1 rfl (lv_at hl 1 rfl) ?_
  obtain ⟨⟨o3, u4⟩, hc2, hf⟩ := Option.bind_eq_some_iff.mp hf
  refine gq_calle (va_runV (As := [.int p1]) (rest := []) ⟨hx, hb, hml, hown, hts⟩ (ct_Bk_inBook l D cI cT ad hI u p1 (o3, u4) hc2) (cwV 1 hts (gt_V gt_147 gt_149 (gt_sel (List.mem_of_getElem? (i := 3) rfl)) gt_1 gt_150) rfl rfl rfl (by decide +kernel) ⟨Nat.le_of_ble_eq_true rfl, Nat.le_of_ble_eq_true rfl⟩) (gq_preV hH hK hN (va_recv hK (gq_one (c := 0) (k := 0) hH rfl (gk_c0 cI cT ad u)) (ci := 0) (q0 := 0) rfl rfl)) rfl rfl hl.1 rfl (lv_room (Nat.le_of_ble_eq_true rfl)) gd_Bk_isBeforeTape_2 ⟨Nat.zero_le _, Nat.zero_le _⟩) hA hS (fun H locs hH hS => ?_)
  cases o3 with
  | none =>
    have hH : gq_H D gc_cl gk_vd ad (gk_pc cI cT ad u4) H := hH
    refine W.eq (g2 := F0 m 5 ls [.null]) rfl ?_
    dsimp only at hf
    refine lv_astore_nN (lv' := [(3, .null), (0, .ref (ad 0 0)), (1, .int p1), (2, .int p2)]) hx hb gd_Bk_isBeforeTape_5 rfl hl (by decide) rfl (fun ls hl => ?_)
    refine lv_aload_nN hx hb gd_Bk_isBeforeTape_6 rfl (lv_at hl 0 rfl) ?_
    refine lv_ifnullN (tgt := 26) hx hb gd_Bk_isBeforeTape_7 (by decide) ?_
    refine lv_iconst (v := 0) hx hb gd_Bk_isBeforeTape_26 (by decide) ?_
    cases hf
    exact W.zret hx hb hr rfl (fun t ht hW => ⟨⟨_, _, rfl, ⟨rfl, rfl⟩, ⟨by rw [ht]; exact hH, va_K.moved hW.alike hK⟩⟩, hS.F ht⟩) hS.2.2 gd_Bk_isBeforeTape_27
  | some k5 =>
    have hH : gq_H D gc_cl gk_vd ad (gk_pc cI cT ad u4) H := hH
    refine W.eq (g2 := F0 m 5 ls [.ref (ad 7 k5)]) rfl ?_
    dsimp only at hf
    refine lv_astore_n (lv' := [(3, .ref (ad 7 k5)), (0, .ref (ad 0 0)), (1, .int p1), (2, .int p2)]) hx hb gd_Bk_isBeforeTape_5 rfl hl (by decide) rfl (fun ls hl => ?_)
    refine lv_aload_n hx hb gd_Bk_isBeforeTape_6 rfl (lv_at hl 0 rfl) ?_
    refine lv_ifnull hx hb gd_Bk_isBeforeTape_7 ?_
    refine lv_aload_n hx hb gd_Bk_isBeforeTape_10 rfl (lv_at hl 0 rfl) ?_
    refine lv_iload_n hx hb gd_Bk_isBeforeTape_11 rfl (lv_at hl 3 rfl) ?_
    refine lv_aload_n hx hb gd_Bk_isBeforeTape_12 rfl (lv_at hl 1 rfl) ?_
    refine va_get (D := D) (ci := 0) (C := gR_Bk) (T := gT_Bk) (N := 5) hx hb hts (fun w h => List.mem_cons_of_mem _ (gl_Bk w h)) hown hK (gq_one (c := 0) (k := 0) hH rfl (gk_c0 cI cT ad u4)) 0 rfl rfl 0 (by decide) (ht _ gt_85) (fun _ h9 => h9) rfl gd_Bk_isBeforeTape_13 ?_
    obtain ⟨z6, hc7, hf⟩ := Option.bind_eq_some_iff.mp hf
    refine gq_calli (va_runV (As := [.int p2, .ref (ad 6 100)]) (rest := []) ⟨hx, hb, hml, hown, hts⟩ (ct_Tm_compareWith l D cI cT ad hI u4 k5 (ok_Bk_inBook hc2) p2 100 (Nat.le_refl 100) z6 hc7) (cwV 2 hts (gt_V gt_151 gt_152 gt_153 gt_3 gt_154) rfl rfl rfl (by decide +kernel) ⟨Nat.le_of_ble_eq_true rfl, Nat.le_of_ble_eq_true rfl⟩) (gq_preV hH hK hN (va_recv hK (gq_one (c := 7) (k := k5) hH (ok_Bk_inBook hc2) (gk_c7 cI cT ad u4 k5)) (ci := 3) (q0 := 0) rfl rfl)) rfl rfl hl.1 rfl (lv_room (Nat.le_of_ble_eq_true rfl)) gd_Bk_isBeforeTape_16 ⟨Nat.zero_le _, Nat.zero_le _⟩) hA hS (fun H locs hH hS => ?_)
    refine lv_if_ge (tgt := 26) hx hb gd_Bk_isBeforeTape_19 (by decide) (fun c8 => ?_) (fun c8 => ?_)
    · replace hf := gj_t c8 hf
      refine lv_iconst (v := 0) hx hb gd_Bk_isBeforeTape_26 (by decide) ?_
      cases hf
      exact W.zret hx hb hr rfl (fun t ht hW => ⟨⟨_, _, rfl, ⟨rfl, rfl⟩, ⟨by rw [ht]; exact hH, va_K.moved hW.alike hK⟩⟩, hS.F ht⟩) hS.2.2 gd_Bk_isBeforeTape_27
    · replace hf := gj_e c8 hf
      refine lv_iconst (v := 1) hx hb gd_Bk_isBeforeTape_22 (by decide) ?_
      refine lv_goto (tgt := 27) hx hb gd_Bk_isBeforeTape_23 (by decide) ?_
      cases hf
      exact W.zret hx hb hr rfl (fun t ht hW => ⟨⟨_, _, rfl, ⟨rfl, rfl⟩, ⟨by rw [ht]; exact hH, va_K.moved hW.alike hK⟩⟩, hS.F ht⟩) hS.2.2 gd_Bk_isBeforeTape_27
set_option maxHeartbeats 4000000 in
set_option maxRecDepth 100000 in
theorem ct_Bk_placeOfTape (l : Launch) (D : va_G) (cI cT : ClassId) (ad : Nat → Nat → Nat) (hI : gq_I gk_vd ad) (u : gk_St) (p1 : Int32) (z : Int32 × gk_St) (hf : fn_Bk_placeOfTape p1 u = some z) : Met l gy_Bk_placeOfTape gws_Bk_placeOfTape ({ frames := 4, cells := 0, slots := 0, locals := 89 }) (va_Pc [.ref (ad 0 0), .int p1] (gq_pre D gc_cl (gk_tys cI cT) gk_vd ad gk_NF gk_NM (gk_pc cI cT ad u))) (va_Qi (fun r u2 => r = z.1 ∧ u2 = z.2) (fun u2 t => gq_B D gc_cl (gk_tys cI cT) gk_vd ad (gk_pc cI cT ad u2) t) (gq_A gk_vd ad)) 0 0 (gq_A gk_vd ad) := by
  refine Met.ofW (cc := gb_Bk_placeOfTape) (maxL := 3) (ret := (some .int)) (by decide) rfl ?_
  intro p e s m args below meth c s₁ B hml hv
  obtain ⟨rfl, hH, hK, hN⟩ := hv
  have hx := B.exec
  have hb := B.bytes
  have hr := B.returns
  have hts := atoms_spec (ws := gws_Bk_placeOfTape) B.pre
  have ht := fun (w : Cond) (h : w ∈ gt_T) => hts w (List.mem_cons_of_mem _ h)
  have hown : s.vm.findClass gR_Bk = some m.cls := findClass_of_methodNamed B.named
  have hlocks := B.notSynchronized
  have hA : ∀ q, (gq_A gk_vd ad) q → (gq_A gk_vd ad) q := fun _ h => h
  have hS : va_S (gq_A gk_vd ad) s.heap s.heap [] := va_S.rf
  have hl := lv_entry ([.ref (ad 0 0), .int p1]) (n := 3) (Nat.le_of_ble_eq_true rfl)
  rw [lg_entry_eq]
  generalize (lg_sl ([.ref (ad 0 0), .int p1]) ++ List.replicate (3 - (lg_sl ([.ref (ad 0 0), .int p1])).length) Slot.unset).toArray = ls at hl ⊢
  have hl : lv_has ls 3 [(0, .ref (ad 0 0)), (1, .int p1)] := hl
  have L2 : ∀ (n : Nat) (x1 : Int32) (x2 : Int32) (u : gk_St) (H : Heap) (locs : List Loc) (ls : Array Slot), fn_Bk_placeOfTape_2 n x1 x2 u = some z → gq_H D gc_cl gk_vd ad (gk_pc cI cT ad u) H → va_S (gq_A gk_vd ad) s.heap H locs → lv_has ls 3 [(0, .ref (ad 0 0)), (1, .int x1), (2, .int x2)] → W p l e (headSpec gws_Bk_placeOfTape ({ frames := 4, cells := 0, slots := 0, locals := 89 })).room s m ([.ref (ad 0 0), .int p1] : List Value).toArray below meth c H locs 0 0 (MQ below (va_Qi (fun r u2 => r = z.1 ∧ u2 = z.2) (fun u2 t => gq_B D gc_cl (gk_tys cI cT) gk_vd ad (gk_pc cI cT ad u2) t) (gq_A gk_vd ad)) ([.ref (ad 0 0), .int p1] : List Value).toArray s 0 0 (gq_A gk_vd ad)) (F0 m 2 ls []) := by
    intro n
    induction n with
    | zero =>
      intro x1 x2 u H locs ls hf
      have h0 : none = some z := hf
      cases h0
    | succ n ih =>
      intro x1 x2 u H locs ls hf hH hS hl
      rw [fn_Bk_placeOfTape_2] at hf
      refine lv_iload_n hx hb gd_Bk_placeOfTape_2 rfl (lv_at hl 2 rfl) ?_
      refine lv_aload_n hx hb gd_Bk_placeOfTape_3 rfl (lv_at hl 0 rfl) ?_
      refine va_get (D := D) (ci := 0) (C := gR_Bk) (T := gT_Bk) (N := 5) hx hb hts (fun w h => List.mem_cons_of_mem _ (gl_Bk w h)) hown hK (gq_one (c := 0) (k := 0) hH rfl (gk_c0 cI cT ad u)) 0 rfl rfl 2 (by decide) (ht _ gt_87) (fun _ h9 => h9) rfl gd_Bk_placeOfTape_4 ?_
      refine va_getN (D := D) (ci := 1) (C := gR_Lv) (T := gT_Lv) (N := 4) hx hb hts (fun w h => List.mem_cons_of_mem _ (gl_Lv w h)) hown hK (gq_one (c := 2) (k := 0) hH rfl (gk_c2 cI cT ad u)) 0 rfl rfl 1 (by decide) (va_Nw.use rfl (hN.1 _ (List.mem_of_getElem? (i := 5) rfl))) (fun _ h9 => h9) rfl gd_Bk_placeOfTape_7 ?_
      refine lv_icmp_ge (tgt := 35) hx hb gd_Bk_placeOfTape_10 (by decide) (fun c6 => ?_) (fun c6 => ?_)
      · replace hf := gj_t c6 hf
        refine lv_iload_n hx hb gd_Bk_placeOfTape_35 rfl (lv_at hl 2 rfl) ?_
        cases hf
        exact W.iret hx hb hr (fun t ht hW => ⟨⟨_, _, rfl, ⟨rfl, rfl⟩, ⟨by rw [ht]; exact hH, va_K.moved hW.alike hK⟩⟩, hS.F ht⟩) hS.2.2 gd_Bk_placeOfTape_36
      · replace hf := gj_e c6 hf
        refine lv_aload_n hx hb gd_Bk_placeOfTape_13 rfl (lv_at hl 0 rfl) ?_
        refine lv_aload_n hx hb gd_Bk_placeOfTape_14 rfl (lv_at hl 0 rfl) ?_
        refine va_get (D := D) (ci := 0) (C := gR_Bk) (T := gT_Bk) (N := 5) hx hb hts (fun w h => List.mem_cons_of_mem _ (gl_Bk w h)) hown hK (gq_one (c := 0) (k := 0) hH rfl (gk_c0 cI cT ad u)) 0 rfl rfl 2 (by decide) (ht _ gt_87) (fun _ h9 => h9) rfl gd_Bk_placeOfTape_15 ?_
        refine lv_iload_n hx hb gd_Bk_placeOfTape_18 rfl (lv_at hl 2 rfl) ?_
        obtain ⟨z1, hc2, hf⟩ := Option.bind_eq_some_iff.mp hf
        refine gq_calli (va_runV (As := [.int x2]) (rest := [.ref (ad 0 0)]) ⟨hx, hb, hml, hown, hts⟩ (ct_Lv_numberAt l D cI cT ad hI u x2 z1 hc2) (cwV 1 hts (gt_V gt_139 gt_140 gt_141 gt_4 gt_142) rfl rfl rfl (by decide +kernel) ⟨Nat.le_of_ble_eq_true rfl, Nat.le_of_ble_eq_true rfl⟩) (gq_preV hH hK hN (va_recv hK (gq_one (c := 2) (k := 0) hH rfl (gk_c2 cI cT ad u)) (ci := 1) (q0 := 0) rfl rfl)) rfl rfl hl.1 rfl (lv_room (Nat.le_of_ble_eq_true rfl)) gd_Bk_placeOfTape_19 ⟨Nat.zero_le _, Nat.zero_le _⟩) hA hS (fun H locs hH hS => ?_)
        refine lv_iload_n hx hb gd_Bk_placeOfTape_22 rfl (lv_at hl 1 rfl) ?_
        obtain ⟨z3, hc4, hf⟩ := Option.bind_eq_some_iff.mp hf
        refine gq_calli (va_runV (As := [.int z1.1, .int x1]) (rest := []) ⟨hx, hb, hml, hown, hts⟩ (ct_Bk_isBeforeTape l D cI cT ad hI z1.2 z1.1 x1 z3 hc4) (cwV 2 hts (gt_V gt_143 gt_145 (gt_sel (List.mem_of_getElem? (i := 2) rfl)) gt_1 gt_146) rfl rfl rfl (by decide +kernel) ⟨Nat.le_of_ble_eq_true rfl, Nat.le_of_ble_eq_true rfl⟩) (gq_preV hH hK hN (va_recv hK (gq_one (c := 0) (k := 0) hH rfl (gk_c0 cI cT ad z1.2)) (ci := 0) (q0 := 0) rfl rfl)) rfl rfl hl.1 rfl (lv_room (Nat.le_of_ble_eq_true rfl)) gd_Bk_placeOfTape_23 ⟨Nat.zero_le _, Nat.zero_le _⟩) hA hS (fun H locs hH hS => ?_)
        refine lv_if_eq (tgt := 35) hx hb gd_Bk_placeOfTape_26 (by decide) (fun c5 => ?_) (fun c5 => ?_)
        · replace hf := gj_t c5 hf
          refine lv_iload_n hx hb gd_Bk_placeOfTape_35 rfl (lv_at hl 2 rfl) ?_
          cases hf
          exact W.iret hx hb hr (fun t ht hW => ⟨⟨_, _, rfl, ⟨rfl, rfl⟩, ⟨by rw [ht]; exact hH, va_K.moved hW.alike hK⟩⟩, hS.F ht⟩) hS.2.2 gd_Bk_placeOfTape_36
        · replace hf := gj_e c5 hf
          refine lv_iinc (v := x2 + 1) (lv' := [(2, .int (x2 + 1)), (0, .ref (ad 0 0)), (1, .int x1)]) hx hb gd_Bk_placeOfTape_29 hl (k := 2) rfl rfl (by decide) rfl (fun ls hl => ?_)
          refine lv_goto (tgt := 2) hx hb gd_Bk_placeOfTape_32 (by decide) ?_
          exact ih x1 (x2 + 1) z3.2 _ _ _ hf hH hS (lv_sub hl [1, 2, 0] rfl)
  unfold fn_Bk_placeOfTape at hf
  refine lv_iconst (v := 0) hx hb gd_Bk_placeOfTape_0 (by decide) ?_
  refine lv_istore_n (lv' := [(2, .int 0), (0, .ref (ad 0 0)), (1, .int p1)]) hx hb gd_Bk_placeOfTape_1 rfl hl (by decide) rfl (fun ls hl => ?_)
  exact L2 gk_fu p1 0 u _ _ _ hf hH hS (lv_sub hl [1, 2, 0] rfl)
set_option maxHeartbeats 4000000 in
set_option maxRecDepth 100000 in
theorem ct_Bk_isTape (l : Launch) (D : va_G) (cI cT : ClassId) (ad : Nat → Nat → Nat) (hI : gq_I gk_vd ad) (u : gk_St) (p1 : Int32) (p2 : Int32) (z : Int32 × gk_St) (hf : fn_Bk_isTape p1 p2 u = some z) : Met l gy_Bk_isTape gws_Bk_isTape ({ frames := 3, cells := 0, slots := 0, locals := 66 }) (va_Pc [.ref (ad 0 0), .int p1, .int p2] (gq_pre D gc_cl (gk_tys cI cT) gk_vd ad gk_NF gk_NM (gk_pc cI cT ad u))) (va_Qi (fun r u2 => r = z.1 ∧ u2 = z.2) (fun u2 t => gq_B D gc_cl (gk_tys cI cT) gk_vd ad (gk_pc cI cT ad u2) t) (gq_A gk_vd ad)) 0 0 (gq_A gk_vd ad) := by
  refine Met.ofW (cc := gb_Bk_isTape) (maxL := 4) (ret := (some .boolean)) (by decide) rfl ?_
  intro p e s m args below meth c s₁ B hml hv
  obtain ⟨rfl, hH, hK, hN⟩ := hv
  have hx := B.exec
  have hb := B.bytes
  have hr := B.returns
  have hts := atoms_spec (ws := gws_Bk_isTape) B.pre
  have ht := fun (w : Cond) (h : w ∈ gt_T) => hts w (List.mem_cons_of_mem _ h)
  have hown : s.vm.findClass gR_Bk = some m.cls := findClass_of_methodNamed B.named
  have hlocks := B.notSynchronized
  have hA : ∀ q, (gq_A gk_vd ad) q → (gq_A gk_vd ad) q := fun _ h => h
  have hS : va_S (gq_A gk_vd ad) s.heap s.heap [] := va_S.rf
  have hl := lv_entry ([.ref (ad 0 0), .int p1, .int p2]) (n := 4) (Nat.le_of_ble_eq_true rfl)
  rw [lg_entry_eq]
  generalize (lg_sl ([.ref (ad 0 0), .int p1, .int p2]) ++ List.replicate (4 - (lg_sl ([.ref (ad 0 0), .int p1, .int p2])).length) Slot.unset).toArray = ls at hl ⊢
  have hl : lv_has ls 4 [(0, .ref (ad 0 0)), (1, .int p1), (2, .int p2)] := hl
  unfold fn_Bk_isTape at hf
  refine lv_aload_n hx hb gd_Bk_isTape_0 rfl (lv_at hl 0 rfl) ?_
  refine lv_iload_n hx hb gd_Bk_isTape_1 rfl (lv_at hl 1 rfl) ?_
  obtain ⟨⟨o3, u4⟩, hc2, hf⟩ := Option.bind_eq_some_iff.mp hf
  refine gq_calle (va_runV (As := [.int p1]) (rest := []) ⟨hx, hb, hml, hown, hts⟩ (ct_Bk_inBook l D cI cT ad hI u p1 (o3, u4) hc2) (cwV 1 hts (gt_V gt_147 gt_149 (gt_sel (List.mem_of_getElem? (i := 3) rfl)) gt_1 gt_150) rfl rfl rfl (by decide +kernel) ⟨Nat.le_of_ble_eq_true rfl, Nat.le_of_ble_eq_true rfl⟩) (gq_preV hH hK hN (va_recv hK (gq_one (c := 0) (k := 0) hH rfl (gk_c0 cI cT ad u)) (ci := 0) (q0 := 0) rfl rfl)) rfl rfl hl.1 rfl (lv_room (Nat.le_of_ble_eq_true rfl)) gd_Bk_isTape_2 ⟨Nat.zero_le _, Nat.zero_le _⟩) hA hS (fun H locs hH hS => ?_)
  cases o3 with
  | none =>
    have hH : gq_H D gc_cl gk_vd ad (gk_pc cI cT ad u4) H := hH
    refine W.eq (g2 := F0 m 5 ls [.null]) rfl ?_
    dsimp only at hf
    refine lv_astore_nN (lv' := [(3, .null), (0, .ref (ad 0 0)), (1, .int p1), (2, .int p2)]) hx hb gd_Bk_isTape_5 rfl hl (by decide) rfl (fun ls hl => ?_)
    refine lv_aload_nN hx hb gd_Bk_isTape_6 rfl (lv_at hl 0 rfl) ?_
    refine lv_ifnullN (tgt := 26) hx hb gd_Bk_isTape_7 (by decide) ?_
    refine lv_iconst (v := 0) hx hb gd_Bk_isTape_26 (by decide) ?_
    cases hf
    exact W.zret hx hb hr rfl (fun t ht hW => ⟨⟨_, _, rfl, ⟨rfl, rfl⟩, ⟨by rw [ht]; exact hH, va_K.moved hW.alike hK⟩⟩, hS.F ht⟩) hS.2.2 gd_Bk_isTape_27
  | some k5 =>
    have hH : gq_H D gc_cl gk_vd ad (gk_pc cI cT ad u4) H := hH
    refine W.eq (g2 := F0 m 5 ls [.ref (ad 7 k5)]) rfl ?_
    dsimp only at hf
    refine lv_astore_n (lv' := [(3, .ref (ad 7 k5)), (0, .ref (ad 0 0)), (1, .int p1), (2, .int p2)]) hx hb gd_Bk_isTape_5 rfl hl (by decide) rfl (fun ls hl => ?_)
    refine lv_aload_n hx hb gd_Bk_isTape_6 rfl (lv_at hl 0 rfl) ?_
    refine lv_ifnull hx hb gd_Bk_isTape_7 ?_
    refine lv_aload_n hx hb gd_Bk_isTape_10 rfl (lv_at hl 0 rfl) ?_
    refine lv_iload_n hx hb gd_Bk_isTape_11 rfl (lv_at hl 3 rfl) ?_
    refine lv_aload_n hx hb gd_Bk_isTape_12 rfl (lv_at hl 1 rfl) ?_
    refine va_get (D := D) (ci := 0) (C := gR_Bk) (T := gT_Bk) (N := 5) hx hb hts (fun w h => List.mem_cons_of_mem _ (gl_Bk w h)) hown hK (gq_one (c := 0) (k := 0) hH rfl (gk_c0 cI cT ad u4)) 0 rfl rfl 0 (by decide) (ht _ gt_85) (fun _ h9 => h9) rfl gd_Bk_isTape_13 ?_
    obtain ⟨z6, hc7, hf⟩ := Option.bind_eq_some_iff.mp hf
    refine gq_calli (va_runV (As := [.int p2, .ref (ad 6 100)]) (rest := []) ⟨hx, hb, hml, hown, hts⟩ (ct_Tm_compareWith l D cI cT ad hI u4 k5 (ok_Bk_inBook hc2) p2 100 (Nat.le_refl 100) z6 hc7) (cwV 2 hts (gt_V gt_151 gt_152 gt_153 gt_3 gt_154) rfl rfl rfl (by decide +kernel) ⟨Nat.le_of_ble_eq_true rfl, Nat.le_of_ble_eq_true rfl⟩) (gq_preV hH hK hN (va_recv hK (gq_one (c := 7) (k := k5) hH (ok_Bk_inBook hc2) (gk_c7 cI cT ad u4 k5)) (ci := 3) (q0 := 0) rfl rfl)) rfl rfl hl.1 rfl (lv_room (Nat.le_of_ble_eq_true rfl)) gd_Bk_isTape_16 ⟨Nat.zero_le _, Nat.zero_le _⟩) hA hS (fun H locs hH hS => ?_)
    refine lv_if_ne (tgt := 26) hx hb gd_Bk_isTape_19 (by decide) (fun c8 => ?_) (fun c8 => ?_)
    · replace hf := gj_e c8 hf
      refine lv_iconst (v := 0) hx hb gd_Bk_isTape_26 (by decide) ?_
      cases hf
      exact W.zret hx hb hr rfl (fun t ht hW => ⟨⟨_, _, rfl, ⟨rfl, rfl⟩, ⟨by rw [ht]; exact hH, va_K.moved hW.alike hK⟩⟩, hS.F ht⟩) hS.2.2 gd_Bk_isTape_27
    · replace hf := gj_t c8 hf
      refine lv_iconst (v := 1) hx hb gd_Bk_isTape_22 (by decide) ?_
      refine lv_goto (tgt := 27) hx hb gd_Bk_isTape_23 (by decide) ?_
      cases hf
      exact W.zret hx hb hr rfl (fun t ht hW => ⟨⟨_, _, rfl, ⟨rfl, rfl⟩, ⟨by rw [ht]; exact hH, va_K.moved hW.alike hK⟩⟩, hS.F ht⟩) hS.2.2 gd_Bk_isTape_27
set_option maxHeartbeats 4000000 in
set_option maxRecDepth 100000 in
theorem ct_Bk_leastFree (l : Launch) (D : va_G) (cI cT : ClassId) (ad : Nat → Nat → Nat) (hI : gq_I gk_vd ad) (u : gk_St)  (z : Int32 × gk_St) (hf : fn_Bk_leastFree u = some z) : Met l gy_Bk_leastFree gws_Bk_leastFree ({ frames := 1, cells := 0, slots := 0, locals := 22 }) (va_Pc [.ref (ad 0 0)] (gq_pre D gc_cl (gk_tys cI cT) gk_vd ad gk_NF gk_NM (gk_pc cI cT ad u))) (va_Qi (fun r u2 => r = z.1 ∧ u2 = z.2) (fun u2 t => gq_B D gc_cl (gk_tys cI cT) gk_vd ad (gk_pc cI cT ad u2) t) (gq_A gk_vd ad)) 0 0 (gq_A gk_vd ad) := by
  refine Met.ofW (cc := gb_Bk_leastFree) (maxL := 2) (ret := (some .int)) (by decide) rfl ?_
  intro p e s m args below meth c s₁ B hml hv
  obtain ⟨rfl, hH, hK, hN⟩ := hv
  have hx := B.exec
  have hb := B.bytes
  have hr := B.returns
  have hts := atoms_spec (ws := gws_Bk_leastFree) B.pre
  have ht := fun (w : Cond) (h : w ∈ gt_T) => hts w (List.mem_cons_of_mem _ h)
  have hown : s.vm.findClass gR_Bk = some m.cls := findClass_of_methodNamed B.named
  have hlocks := B.notSynchronized
  have hA : ∀ q, (gq_A gk_vd ad) q → (gq_A gk_vd ad) q := fun _ h => h
  have hS : va_S (gq_A gk_vd ad) s.heap s.heap [] := va_S.rf
  have hl := lv_entry ([.ref (ad 0 0)]) (n := 2) (Nat.le_of_ble_eq_true rfl)
  rw [lg_entry_eq]
  generalize (lg_sl ([.ref (ad 0 0)]) ++ List.replicate (2 - (lg_sl ([.ref (ad 0 0)])).length) Slot.unset).toArray = ls at hl ⊢
  have hl : lv_has ls 2 [(0, .ref (ad 0 0))] := hl
  have L2 : ∀ (n : Nat) (x1 : Int32) (u : gk_St) (H : Heap) (locs : List Loc) (ls : Array Slot), fn_Bk_leastFree_2 n x1 u = some z → gq_H D gc_cl gk_vd ad (gk_pc cI cT ad u) H → va_S (gq_A gk_vd ad) s.heap H locs → lv_has ls 2 [(0, .ref (ad 0 0)), (1, .int x1)] → W p l e (headSpec gws_Bk_leastFree ({ frames := 1, cells := 0, slots := 0, locals := 22 })).room s m ([.ref (ad 0 0)] : List Value).toArray below meth c H locs 0 0 (MQ below (va_Qi (fun r u2 => r = z.1 ∧ u2 = z.2) (fun u2 t => gq_B D gc_cl (gk_tys cI cT) gk_vd ad (gk_pc cI cT ad u2) t) (gq_A gk_vd ad)) ([.ref (ad 0 0)] : List Value).toArray s 0 0 (gq_A gk_vd ad)) (F0 m 2 ls []) := by
    intro n
    induction n with
    | zero =>
      intro x1 u H locs ls hf
      have h0 : none = some z := hf
      cases h0
    | succ n ih =>
      intro x1 u H locs ls hf hH hS hl
      rw [fn_Bk_leastFree_2] at hf
      refine lv_iload_n hx hb gd_Bk_leastFree_2 rfl (lv_at hl 1 rfl) ?_
      refine lv_bipush (v := 100) hx hb gd_Bk_leastFree_3 (by decide) ?_
      refine lv_icmp_ge (tgt := 24) hx hb gd_Bk_leastFree_5 (by decide) (fun c6 => ?_) (fun c6 => ?_)
      · replace hf := gj_t c6 hf
        refine lv_iconst (v := (-1)) hx hb gd_Bk_leastFree_24 (by decide) ?_
        cases hf
        exact W.iret hx hb hr (fun t ht hW => ⟨⟨_, _, rfl, ⟨rfl, rfl⟩, ⟨by rw [ht]; exact hH, va_K.moved hW.alike hK⟩⟩, hS.F ht⟩) hS.2.2 gd_Bk_leastFree_25
      · replace hf := gj_e c6 hf
        refine lv_aload_n hx hb gd_Bk_leastFree_8 rfl (lv_at hl 0 rfl) ?_
        refine lv_iload_n hx hb gd_Bk_leastFree_9 rfl (lv_at hl 1 rfl) ?_
        obtain ⟨⟨o3, u4⟩, hc2, hf⟩ := Option.bind_eq_some_iff.mp hf
        refine gq_calle (va_runV (As := [.int x1]) (rest := []) ⟨hx, hb, hml, hown, hts⟩ (ct_Bk_inBook l D cI cT ad hI u x1 (o3, u4) hc2) (cwV 1 hts (gt_V gt_147 gt_149 (gt_sel (List.mem_of_getElem? (i := 3) rfl)) gt_1 gt_150) rfl rfl rfl (by decide +kernel) ⟨Nat.le_of_ble_eq_true rfl, Nat.le_of_ble_eq_true rfl⟩) (gq_preV hH hK hN (va_recv hK (gq_one (c := 0) (k := 0) hH rfl (gk_c0 cI cT ad u)) (ci := 0) (q0 := 0) rfl rfl)) rfl rfl hl.1 rfl (lv_room (Nat.le_of_ble_eq_true rfl)) gd_Bk_leastFree_10 ⟨Nat.zero_le _, Nat.zero_le _⟩) hA hS (fun H locs hH hS => ?_)
        cases o3 with
        | none =>
          have hH : gq_H D gc_cl gk_vd ad (gk_pc cI cT ad u4) H := hH
          refine W.eq (g2 := F0 m 13 ls [.null]) rfl ?_
          dsimp only at hf
          refine lv_ifnonnullN hx hb gd_Bk_leastFree_13 ?_
          refine lv_iload_n hx hb gd_Bk_leastFree_16 rfl (lv_at hl 1 rfl) ?_
          cases hf
          exact W.iret hx hb hr (fun t ht hW => ⟨⟨_, _, rfl, ⟨rfl, rfl⟩, ⟨by rw [ht]; exact hH, va_K.moved hW.alike hK⟩⟩, hS.F ht⟩) hS.2.2 gd_Bk_leastFree_17
        | some k5 =>
          have hH : gq_H D gc_cl gk_vd ad (gk_pc cI cT ad u4) H := hH
          refine W.eq (g2 := F0 m 13 ls [.ref (ad 7 k5)]) rfl ?_
          dsimp only at hf
          refine lv_ifnonnull (tgt := 18) hx hb gd_Bk_leastFree_13 (by decide) ?_
          refine lv_iinc (v := x1 + 1) (lv' := [(1, .int (x1 + 1)), (0, .ref (ad 0 0))]) hx hb gd_Bk_leastFree_18 hl (k := 1) rfl rfl (by decide) rfl (fun ls hl => ?_)
          refine lv_goto (tgt := 2) hx hb gd_Bk_leastFree_21 (by decide) ?_
          exact ih (x1 + 1) u4 _ _ _ hf hH hS (lv_sub hl [1, 0] rfl)
  unfold fn_Bk_leastFree at hf
  refine lv_iconst (v := 0) hx hb gd_Bk_leastFree_0 (by decide) ?_
  refine lv_istore_n (lv' := [(1, .int 0), (0, .ref (ad 0 0))]) hx hb gd_Bk_leastFree_1 rfl hl (by decide) rfl (fun ls hl => ?_)
  exact L2 gk_fu 0 u _ _ _ hf hH hS (lv_sub hl [1, 0] rfl)
set_option maxHeartbeats 4000000 in
set_option maxRecDepth 100000 in
theorem ct_Tx_copyOf (l : Launch) (D : va_G) (cI cT : ClassId) (ad : Nat → Nat → Nat) (hI : gq_I gk_vd ad) (u : gk_St) (k : Nat) (hk : k ≤ 100) (q1 : Nat) (hq1 : q1 ≤ 100) (z : gk_St) (hf : fn_Tx_copyOf k q1 u = some z) : Met l gy_Tx_copyOf gws_Tx_copyOf ({ frames := 0, cells := 0, slots := 0, locals := 0 }) (va_Pc [.ref (ad 6 k), .ref (ad 6 q1)] (gq_pre D gc_cl (gk_tys cI cT) gk_vd ad gk_NF gk_NM (gk_pc cI cT ad u))) (va_Qv (fun u2 => u2 = z) (fun u2 t => gq_B D gc_cl (gk_tys cI cT) gk_vd ad (gk_pc cI cT ad u2) t) (gq_A gk_vd ad)) 0 0 (gq_A gk_vd ad) := by
  refine Met.ofW (cc := gb_Tx_copyOf) (maxL := 2) (ret := none) (by decide) rfl ?_
  intro p e s m args below meth c s₁ B hml hv
  obtain ⟨rfl, hH, hK, hN⟩ := hv
  have hx := B.exec
  have hb := B.bytes
  have hr := B.returns
  have hts := atoms_spec (ws := gws_Tx_copyOf) B.pre
  have ht := fun (w : Cond) (h : w ∈ gt_T) => hts w (List.mem_cons_of_mem _ h)
  have hown : s.vm.findClass gR_Tx = some m.cls := findClass_of_methodNamed B.named
  have hlocks := B.notSynchronized
  have hA : ∀ q, (gq_A gk_vd ad) q → (gq_A gk_vd ad) q := fun _ h => h
  have hS : va_S (gq_A gk_vd ad) s.heap s.heap [] := va_S.rf
  have hl := lv_entry ([.ref (ad 6 k), .ref (ad 6 q1)]) (n := 2) (Nat.le_of_ble_eq_true rfl)
  rw [lg_entry_eq]
  generalize (lg_sl ([.ref (ad 6 k), .ref (ad 6 q1)]) ++ List.replicate (2 - (lg_sl ([.ref (ad 6 k), .ref (ad 6 q1)])).length) Slot.unset).toArray = ls at hl ⊢
  have hl : lv_has ls 2 [(0, .ref (ad 6 k)), (1, .ref (ad 6 q1))] := hl
  unfold fn_Tx_copyOf at hf
  refine lv_aload_n hx hb gd_Tx_copyOf_0 rfl (lv_at hl 0 rfl) ?_
  refine lv_aload_n hx hb gd_Tx_copyOf_1 rfl (lv_at hl 1 rfl) ?_
  refine va_get (D := D) (ci := 2) (C := gR_Tx) (T := gT_Tx) (N := 3) hx hb hts (fun w h => List.mem_cons_of_mem _ (gl_Tx w h)) hown hK (gq_one (c := 6) (k := q1) hH hq1 (gk_c6 cI cT ad u q1)) 0 rfl rfl 0 (by decide) (ht _ gt_23) (fun _ h9 => h9) rfl gd_Tx_copyOf_2 ?_
  refine gq_put (D := D) (ci := 2) (C := gR_Tx) (T := gT_Tx) (N := 3) (ca := 6) (ka := k) (pp' := gk_pc cI cT ad (gk_sL u 0 k (u.2 0 q1))) (ty := .long) hx hb hts (fun w h => List.mem_cons_of_mem _ (gl_Tx w h)) gF_Tx gf_Tx gn_Tx hown hK hH hI hA hk (gk_c6 cI cT ad u k) rfl 0 (by decide) (ht _ gt_23) (fun _ h9 => h9) rfl (by decide +kernel) rfl rfl (Nat.le_of_ble_eq_true rfl) (gk_w0L cI cT ad u k (u.2 0 q1)) (gk_o0L cI cT ad u k (u.2 0 q1)) hS gd_Tx_copyOf_5 (fun H locs hH hS => ?_)
  refine lv_aload_n hx hb gd_Tx_copyOf_8 rfl (lv_at hl 0 rfl) ?_
  refine lv_aload_n hx hb gd_Tx_copyOf_9 rfl (lv_at hl 1 rfl) ?_
  refine va_get (D := D) (ci := 2) (C := gR_Tx) (T := gT_Tx) (N := 3) hx hb hts (fun w h => List.mem_cons_of_mem _ (gl_Tx w h)) hown hK (gq_one (c := 6) (k := q1) hH hq1 (gk_c6 cI cT ad (gk_sL u 0 k (u.2 0 q1)) q1)) 0 rfl rfl 1 (by decide) (ht _ gt_24) (fun _ h9 => h9) rfl gd_Tx_copyOf_10 ?_
  refine gq_put (D := D) (ci := 2) (C := gR_Tx) (T := gT_Tx) (N := 3) (ca := 6) (ka := k) (pp' := gk_pc cI cT ad (gk_sL (gk_sL u 0 k (u.2 0 q1)) 1 k ((gk_sL u 0 k (u.2 0 q1)).2 1 q1))) (ty := .long) hx hb hts (fun w h => List.mem_cons_of_mem _ (gl_Tx w h)) gF_Tx gf_Tx gn_Tx hown hK hH hI hA hk (gk_c6 cI cT ad (gk_sL u 0 k (u.2 0 q1)) k) rfl 1 (by decide) (ht _ gt_24) (fun _ h9 => h9) rfl (by decide +kernel) rfl rfl (Nat.le_of_ble_eq_true rfl) (gk_w1L cI cT ad (gk_sL u 0 k (u.2 0 q1)) k ((gk_sL u 0 k (u.2 0 q1)).2 1 q1)) (gk_o1L cI cT ad (gk_sL u 0 k (u.2 0 q1)) k ((gk_sL u 0 k (u.2 0 q1)).2 1 q1)) hS gd_Tx_copyOf_13 (fun H locs hH hS => ?_)
  refine lv_aload_n hx hb gd_Tx_copyOf_16 rfl (lv_at hl 0 rfl) ?_
  refine lv_aload_n hx hb gd_Tx_copyOf_17 rfl (lv_at hl 1 rfl) ?_
  refine va_get (D := D) (ci := 2) (C := gR_Tx) (T := gT_Tx) (N := 3) hx hb hts (fun w h => List.mem_cons_of_mem _ (gl_Tx w h)) hown hK (gq_one (c := 6) (k := q1) hH hq1 (gk_c6 cI cT ad (gk_sL (gk_sL u 0 k (u.2 0 q1)) 1 k ((gk_sL u 0 k (u.2 0 q1)).2 1 q1)) q1)) 0 rfl rfl 2 (by decide) (ht _ gt_25) (fun _ h9 => h9) rfl gd_Tx_copyOf_18 ?_
  refine gq_put (D := D) (ci := 2) (C := gR_Tx) (T := gT_Tx) (N := 3) (ca := 6) (ka := k) (pp' := gk_pc cI cT ad (gk_sI (gk_sL (gk_sL u 0 k (u.2 0 q1)) 1 k ((gk_sL u 0 k (u.2 0 q1)).2 1 q1)) 0 k ((gk_sL (gk_sL u 0 k (u.2 0 q1)) 1 k ((gk_sL u 0 k (u.2 0 q1)).2 1 q1)).1 0 q1))) (ty := .int) hx hb hts (fun w h => List.mem_cons_of_mem _ (gl_Tx w h)) gF_Tx gf_Tx gn_Tx hown hK hH hI hA hk (gk_c6 cI cT ad (gk_sL (gk_sL u 0 k (u.2 0 q1)) 1 k ((gk_sL u 0 k (u.2 0 q1)).2 1 q1)) k) rfl 2 (by decide) (ht _ gt_25) (fun _ h9 => h9) rfl (by decide +kernel) rfl rfl (Nat.le_of_ble_eq_true rfl) (gk_w0 cI cT ad (gk_sL (gk_sL u 0 k (u.2 0 q1)) 1 k ((gk_sL u 0 k (u.2 0 q1)).2 1 q1)) k ((gk_sL (gk_sL u 0 k (u.2 0 q1)) 1 k ((gk_sL u 0 k (u.2 0 q1)).2 1 q1)).1 0 q1)) (gk_o0 cI cT ad (gk_sL (gk_sL u 0 k (u.2 0 q1)) 1 k ((gk_sL u 0 k (u.2 0 q1)).2 1 q1)) k ((gk_sL (gk_sL u 0 k (u.2 0 q1)) 1 k ((gk_sL u 0 k (u.2 0 q1)).2 1 q1)).1 0 q1)) hS gd_Tx_copyOf_21 (fun H locs hH hS => ?_)
  cases hf
  exact W.vret hx hb hr (fun t ht hW => ⟨⟨_, rfl, rfl, ⟨by rw [ht]; exact hH, va_K.moved hW.alike hK⟩⟩, hS.F ht⟩) hS.2.2 gd_Tx_copyOf_24
set_option maxHeartbeats 4000000 in
set_option maxRecDepth 100000 in
theorem ct_Tm_comeAs (l : Launch) (D : va_G) (cI cT : ClassId) (ad : Nat → Nat → Nat) (hI : gq_I gk_vd ad) (u : gk_St) (k : Nat) (hk : k < 100) (p1 : Int32) (q2 : Nat) (hq2 : q2 ≤ 100) (z : gk_St) (hf : fn_Tm_comeAs k p1 q2 u = some z) : Met l gy_Tm_comeAs gws_Tm_comeAs ({ frames := 1, cells := 0, slots := 0, locals := 21 }) (va_Pc [.ref (ad 7 k), .int p1, .ref (ad 6 q2)] (gq_pre D gc_cl (gk_tys cI cT) gk_vd ad gk_NF gk_NM (gk_pc cI cT ad u))) (va_Qv (fun u2 => u2 = z) (fun u2 t => gq_B D gc_cl (gk_tys cI cT) gk_vd ad (gk_pc cI cT ad u2) t) (gq_A gk_vd ad)) 0 0 (gq_A gk_vd ad) := by
  refine Met.ofW (cc := gb_Tm_comeAs) (maxL := 3) (ret := none) (by decide) rfl ?_
  intro p e s m args below meth c s₁ B hml hv
  obtain ⟨rfl, hH, hK, hN⟩ := hv
  have hx := B.exec
  have hb := B.bytes
  have hr := B.returns
  have hts := atoms_spec (ws := gws_Tm_comeAs) B.pre
  have ht := fun (w : Cond) (h : w ∈ gt_T) => hts w (List.mem_cons_of_mem _ h)
  have hown : s.vm.findClass gR_Tm = some m.cls := findClass_of_methodNamed B.named
  have hlocks := B.notSynchronized
  have hA : ∀ q, (gq_A gk_vd ad) q → (gq_A gk_vd ad) q := fun _ h => h
  have hS : va_S (gq_A gk_vd ad) s.heap s.heap [] := va_S.rf
  have hl := lv_entry ([.ref (ad 7 k), .int p1, .ref (ad 6 q2)]) (n := 3) (Nat.le_of_ble_eq_true rfl)
  rw [lg_entry_eq]
  generalize (lg_sl ([.ref (ad 7 k), .int p1, .ref (ad 6 q2)]) ++ List.replicate (3 - (lg_sl ([.ref (ad 7 k), .int p1, .ref (ad 6 q2)])).length) Slot.unset).toArray = ls at hl ⊢
  have hl : lv_has ls 3 [(0, .ref (ad 7 k)), (1, .int p1), (2, .ref (ad 6 q2))] := hl
  unfold fn_Tm_comeAs at hf
  refine lv_aload_n hx hb gd_Tm_comeAs_0 rfl (lv_at hl 0 rfl) ?_
  refine va_get (D := D) (ci := 3) (C := gR_Tm) (T := gT_Tm) (N := 5) hx hb hts (fun w h => List.mem_cons_of_mem _ (gl_Tm w h)) hown hK (gq_one (c := 7) (k := k) hH hk (gk_c7 cI cT ad u k)) 0 rfl rfl 0 (by decide) (ht _ gt_43) (fun _ h9 => h9) rfl gd_Tm_comeAs_1 ?_
  refine lv_aload_n hx hb gd_Tm_comeAs_4 rfl (lv_at hl 2 rfl) ?_
  obtain ⟨z1, hc2, hf⟩ := Option.bind_eq_some_iff.mp hf
  refine gq_callv (va_runV (As := [.ref (ad 6 q2)]) (rest := []) ⟨hx, hb, hml, hown, hts⟩ (ct_Tx_copyOf l D cI cT ad hI u k (Nat.le_of_lt hk) q2 hq2 z1 hc2) (cwV 1 hts (gt_V gt_181 gt_182 gt_183 gt_2 gt_184) rfl rfl rfl (by decide +kernel) ⟨Nat.le_of_ble_eq_true rfl, Nat.le_of_ble_eq_true rfl⟩) (gq_preV hH hK hN (va_recv hK (gq_one (c := 6) (k := k) hH (Nat.le_of_lt hk) (gk_c6 cI cT ad u k)) (ci := 2) (q0 := 0) rfl rfl)) rfl rfl hl.1 rfl (lv_room (Nat.le_of_ble_eq_true rfl)) gd_Tm_comeAs_5 ⟨Nat.zero_le _, Nat.zero_le _⟩) hA hS (fun H locs hH hS => ?_)
  refine lv_aload_n hx hb gd_Tm_comeAs_8 rfl (lv_at hl 0 rfl) ?_
  refine lv_iload_n hx hb gd_Tm_comeAs_9 rfl (lv_at hl 1 rfl) ?_
  refine gq_put (D := D) (ci := 3) (C := gR_Tm) (T := gT_Tm) (N := 5) (ca := 7) (ka := k) (pp' := gk_pc cI cT ad (gk_sI z1 2 k p1)) (ty := .int) hx hb hts (fun w h => List.mem_cons_of_mem _ (gl_Tm w h)) gF_Tm gf_Tm gn_Tm hown hK hH hI hA hk (gk_c7 cI cT ad z1 k) rfl 2 (by decide) (ht _ gt_47) (fun _ h9 => h9) rfl (by decide +kernel) rfl rfl (Nat.le_of_ble_eq_true rfl) (gk_w2 cI cT ad z1 k p1) (gk_o2 cI cT ad z1 k p1) hS gd_Tm_comeAs_10 (fun H locs hH hS => ?_)
  refine lv_aload_n hx hb gd_Tm_comeAs_13 rfl (lv_at hl 0 rfl) ?_
  refine lv_iconst (v := 0) hx hb gd_Tm_comeAs_14 (by decide) ?_
  refine gq_put (D := D) (ci := 3) (C := gR_Tm) (T := gT_Tm) (N := 5) (ca := 7) (ka := k) (pp' := gk_pc cI cT ad (gk_sI (gk_sI z1 2 k p1) 3 k 0)) (ty := .int) hx hb hts (fun w h => List.mem_cons_of_mem _ (gl_Tm w h)) gF_Tm gf_Tm gn_Tm hown hK hH hI hA hk (gk_c7 cI cT ad (gk_sI z1 2 k p1) k) rfl 3 (by decide) (ht _ gt_49) (fun _ h9 => h9) rfl (by decide +kernel) rfl rfl (Nat.le_of_ble_eq_true rfl) (gk_w3 cI cT ad (gk_sI z1 2 k p1) k 0) (gk_o3 cI cT ad (gk_sI z1 2 k p1) k 0) hS gd_Tm_comeAs_15 (fun H locs hH hS => ?_)
  refine lv_aload_n hx hb gd_Tm_comeAs_18 rfl (lv_at hl 0 rfl) ?_
  refine lv_iconst (v := 0) hx hb gd_Tm_comeAs_19 (by decide) ?_
  refine gq_put (D := D) (ci := 3) (C := gR_Tm) (T := gT_Tm) (N := 5) (ca := 7) (ka := k) (pp' := gk_pc cI cT ad (gk_sI (gk_sI (gk_sI z1 2 k p1) 3 k 0) 4 k 0)) (ty := .int) hx hb hts (fun w h => List.mem_cons_of_mem _ (gl_Tm w h)) gF_Tm gf_Tm gn_Tm hown hK hH hI hA hk (gk_c7 cI cT ad (gk_sI (gk_sI z1 2 k p1) 3 k 0) k) rfl 4 (by decide) (ht _ gt_51) (fun _ h9 => h9) rfl (by decide +kernel) rfl rfl (Nat.le_of_ble_eq_true rfl) (gk_w4 cI cT ad (gk_sI (gk_sI z1 2 k p1) 3 k 0) k 0) (gk_o4 cI cT ad (gk_sI (gk_sI z1 2 k p1) 3 k 0) k 0) hS gd_Tm_comeAs_20 (fun H locs hH hS => ?_)
  refine lv_aload_n hx hb gd_Tm_comeAs_23 rfl (lv_at hl 0 rfl) ?_
  refine lv_iconst (v := 1) hx hb gd_Tm_comeAs_24 (by decide) ?_
  refine gq_put (D := D) (ci := 3) (C := gR_Tm) (T := gT_Tm) (N := 5) (ca := 7) (ka := k) (pp' := gk_pc cI cT ad (gk_sI (gk_sI (gk_sI (gk_sI z1 2 k p1) 3 k 0) 4 k 0) 1 k 1)) (ty := .boolean) hx hb hts (fun w h => List.mem_cons_of_mem _ (gl_Tm w h)) gF_Tm gf_Tm gn_Tm hown hK hH hI hA hk (gk_c7 cI cT ad (gk_sI (gk_sI (gk_sI z1 2 k p1) 3 k 0) 4 k 0) k) rfl 1 (by decide) (ht _ gt_45) (fun _ h9 => h9) rfl (by decide +kernel) rfl rfl (Nat.le_of_ble_eq_true rfl) (gk_w1 cI cT ad (gk_sI (gk_sI (gk_sI z1 2 k p1) 3 k 0) 4 k 0) k 1) (gk_o1 cI cT ad (gk_sI (gk_sI (gk_sI z1 2 k p1) 3 k 0) 4 k 0) k 1) hS gd_Tm_comeAs_25 (fun H locs hH hS => ?_)
  cases hf
  exact W.vret hx hb hr (fun t ht hW => ⟨⟨_, rfl, rfl, ⟨by rw [ht]; exact hH, va_K.moved hW.alike hK⟩⟩, hS.F ht⟩) hS.2.2 gd_Tm_comeAs_28
set_option maxHeartbeats 4000000 in
set_option maxRecDepth 100000 in
theorem ct_Lv_sizeOf (l : Launch) (D : va_G) (cI cT : ClassId) (ad : Nat → Nat → Nat) (hI : gq_I gk_vd ad) (u : gk_St) (p1 : Int32) (z : Int32 × gk_St) (hf : fn_Lv_sizeOf p1 u = some z) : Met l gy_Lv_sizeOf gws_Lv_sizeOf ({ frames := 0, cells := 0, slots := 0, locals := 0 }) (va_Pc [.ref (ad 2 0), .int p1] (gq_pre D gc_cl (gk_tys cI cT) gk_vd ad gk_NF gk_NM (gk_pc cI cT ad u))) (va_Qi (fun r u2 => r = z.1 ∧ u2 = z.2) (fun u2 t => gq_B D gc_cl (gk_tys cI cT) gk_vd ad (gk_pc cI cT ad u2) t) (gq_A gk_vd ad)) 0 0 (gq_A gk_vd ad) := by
  refine Met.ofW (cc := gb_Lv_sizeOf) (maxL := 2) (ret := (some .int)) (by decide) rfl ?_
  intro p e s m args below meth c s₁ B hml hv
  obtain ⟨rfl, hH, hK, hN⟩ := hv
  have hx := B.exec
  have hb := B.bytes
  have hr := B.returns
  have hts := atoms_spec (ws := gws_Lv_sizeOf) B.pre
  have ht := fun (w : Cond) (h : w ∈ gt_T) => hts w (List.mem_cons_of_mem _ h)
  have hown : s.vm.findClass gR_Lv = some m.cls := findClass_of_methodNamed B.named
  have hlocks := B.notSynchronized
  have hA : ∀ q, (gq_A gk_vd ad) q → (gq_A gk_vd ad) q := fun _ h => h
  have hS : va_S (gq_A gk_vd ad) s.heap s.heap [] := va_S.rf
  have hl := lv_entry ([.ref (ad 2 0), .int p1]) (n := 2) (Nat.le_of_ble_eq_true rfl)
  rw [lg_entry_eq]
  generalize (lg_sl ([.ref (ad 2 0), .int p1]) ++ List.replicate (2 - (lg_sl ([.ref (ad 2 0), .int p1])).length) Slot.unset).toArray = ls at hl ⊢
  have hl : lv_has ls 2 [(0, .ref (ad 2 0)), (1, .int p1)] := hl
  unfold fn_Lv_sizeOf at hf
  refine lv_iload_n hx hb gd_Lv_sizeOf_0 rfl (lv_at hl 1 rfl) ?_
  refine lv_if_lt (tgt := 30) hx hb gd_Lv_sizeOf_1 (by decide) (fun c4 => ?_) (fun c4 => ?_)
  · replace hf := gj_t c4 hf
    refine lv_iconst (v := 0) hx hb gd_Lv_sizeOf_30 (by decide) ?_
    cases hf
    exact W.iret hx hb hr (fun t ht hW => ⟨⟨_, _, rfl, ⟨rfl, rfl⟩, ⟨by rw [ht]; exact hH, va_K.moved hW.alike hK⟩⟩, hS.F ht⟩) hS.2.2 gd_Lv_sizeOf_31
  · replace hf := gj_e c4 hf
    refine lv_iload_n hx hb gd_Lv_sizeOf_4 rfl (lv_at hl 1 rfl) ?_
    refine lv_aload_n hx hb gd_Lv_sizeOf_5 rfl (lv_at hl 0 rfl) ?_
    refine va_get (D := D) (ci := 1) (C := gR_Lv) (T := gT_Lv) (N := 4) hx hb hts (fun w h => List.mem_cons_of_mem _ (gl_Lv w h)) hown hK (gq_one (c := 2) (k := 0) hH rfl (gk_c2 cI cT ad u)) 0 rfl rfl 3 (by decide) (ht _ gt_73) (fun _ h9 => h9) rfl gd_Lv_sizeOf_6 ?_
    refine lv_icmp_ge (tgt := 30) hx hb gd_Lv_sizeOf_9 (by decide) (fun c3 => ?_) (fun c3 => ?_)
    · replace hf := gj_t c3 hf
      refine lv_iconst (v := 0) hx hb gd_Lv_sizeOf_30 (by decide) ?_
      cases hf
      exact W.iret hx hb hr (fun t ht hW => ⟨⟨_, _, rfl, ⟨rfl, rfl⟩, ⟨by rw [ht]; exact hH, va_K.moved hW.alike hK⟩⟩, hS.F ht⟩) hS.2.2 gd_Lv_sizeOf_31
    · replace hf := gj_e c3 hf
      refine lv_iload_n hx hb gd_Lv_sizeOf_12 rfl (lv_at hl 1 rfl) ?_
      refine lv_aload_n hx hb gd_Lv_sizeOf_13 rfl (lv_at hl 0 rfl) ?_
      refine va_get (D := D) (ci := 1) (C := gR_Lv) (T := gT_Lv) (N := 4) hx hb hts (fun w h => List.mem_cons_of_mem _ (gl_Lv w h)) hown hK (gq_one (c := 2) (k := 0) hH rfl (gk_c2 cI cT ad u)) 0 rfl rfl 2 (by decide) (ht _ gt_72) (fun _ h9 => h9) rfl gd_Lv_sizeOf_14 ?_
      refine va_alen (D := D) (v := 100) hx hb hK (gq_one (c := 4) (k := 0) hH rfl (gk_c4 cI cT ad u)) 0 0 rfl rfl rfl gd_Lv_sizeOf_17 ?_
      refine lv_icmp_ge (tgt := 30) hx hb gd_Lv_sizeOf_18 (by decide) (fun c2 => ?_) (fun c2 => ?_)
      · replace hf := gj_t c2 hf
        refine lv_iconst (v := 0) hx hb gd_Lv_sizeOf_30 (by decide) ?_
        cases hf
        exact W.iret hx hb hr (fun t ht hW => ⟨⟨_, _, rfl, ⟨rfl, rfl⟩, ⟨by rw [ht]; exact hH, va_K.moved hW.alike hK⟩⟩, hS.F ht⟩) hS.2.2 gd_Lv_sizeOf_31
      · replace hf := gj_e c2 hf
        refine lv_aload_n hx hb gd_Lv_sizeOf_21 rfl (lv_at hl 0 rfl) ?_
        refine va_get (D := D) (ci := 1) (C := gR_Lv) (T := gT_Lv) (N := 4) hx hb hts (fun w h => List.mem_cons_of_mem _ (gl_Lv w h)) hown hK (gq_one (c := 2) (k := 0) hH rfl (gk_c2 cI cT ad u)) 0 rfl rfl 2 (by decide) (ht _ gt_72) (fun _ h9 => h9) rfl gd_Lv_sizeOf_22 ?_
        refine lv_iload_n hx hb gd_Lv_sizeOf_25 rfl (lv_at hl 1 rfl) ?_
        obtain ⟨hg1, hf⟩ := gj_g hf
        refine va_iald (D := D) hx hb hK (gq_one (c := 4) (k := 0) hH rfl (gk_c4 cI cT ad u)) 0 0 rfl rfl hg1 gd_Lv_sizeOf_26 ?_
        refine lv_goto (tgt := 31) hx hb gd_Lv_sizeOf_27 (by decide) ?_
        cases hf
        exact W.iret hx hb hr (fun t ht hW => ⟨⟨_, _, rfl, ⟨rfl, rfl⟩, ⟨by rw [ht]; exact hH, va_K.moved hW.alike hK⟩⟩, hS.F ht⟩) hS.2.2 gd_Lv_sizeOf_31
set_option maxHeartbeats 4000000 in
set_option maxRecDepth 100000 in
theorem ct_Lv_leafOf (l : Launch) (D : va_G) (cI cT : ClassId) (ad : Nat → Nat → Nat) (hI : gq_I gk_vd ad) (u : gk_St) (p1 : Int32) (z : Int32 × gk_St) (hf : fn_Lv_leafOf p1 u = some z) : Met l gy_Lv_leafOf gws_Lv_leafOf ({ frames := 1, cells := 0, slots := 0, locals := 21 }) (va_Pc [.ref (ad 2 0), .int p1] (gq_pre D gc_cl (gk_tys cI cT) gk_vd ad gk_NF gk_NM (gk_pc cI cT ad u))) (va_Qi (fun r u2 => r = z.1 ∧ u2 = z.2) (fun u2 t => gq_B D gc_cl (gk_tys cI cT) gk_vd ad (gk_pc cI cT ad u2) t) (gq_A gk_vd ad)) 0 0 (gq_A gk_vd ad) := by
  refine Met.ofW (cc := gb_Lv_leafOf) (maxL := 4) (ret := (some .int)) (by decide) rfl ?_
  intro p e s m args below meth c s₁ B hml hv
  obtain ⟨rfl, hH, hK, hN⟩ := hv
  have hx := B.exec
  have hb := B.bytes
  have hr := B.returns
  have hts := atoms_spec (ws := gws_Lv_leafOf) B.pre
  have ht := fun (w : Cond) (h : w ∈ gt_T) => hts w (List.mem_cons_of_mem _ h)
  have hown : s.vm.findClass gR_Lv = some m.cls := findClass_of_methodNamed B.named
  have hlocks := B.notSynchronized
  have hA : ∀ q, (gq_A gk_vd ad) q → (gq_A gk_vd ad) q := fun _ h => h
  have hS : va_S (gq_A gk_vd ad) s.heap s.heap [] := va_S.rf
  have hl := lv_entry ([.ref (ad 2 0), .int p1]) (n := 4) (Nat.le_of_ble_eq_true rfl)
  rw [lg_entry_eq]
  generalize (lg_sl ([.ref (ad 2 0), .int p1]) ++ List.replicate (4 - (lg_sl ([.ref (ad 2 0), .int p1])).length) Slot.unset).toArray = ls at hl ⊢
  have hl : lv_has ls 4 [(0, .ref (ad 2 0)), (1, .int p1)] := hl
  have L4 : ∀ (n : Nat) (x1 : Int32) (x2 : Int32) (x3 : Int32) (u : gk_St) (H : Heap) (locs : List Loc) (ls : Array Slot), fn_Lv_leafOf_4 n x1 x2 x3 u = some z → gq_H D gc_cl gk_vd ad (gk_pc cI cT ad u) H → va_S (gq_A gk_vd ad) s.heap H locs → lv_has ls 4 [(0, .ref (ad 2 0)), (1, .int x1), (2, .int x2), (3, .int x3)] → W p l e (headSpec gws_Lv_leafOf ({ frames := 1, cells := 0, slots := 0, locals := 21 })).room s m ([.ref (ad 2 0), .int p1] : List Value).toArray below meth c H locs 0 0 (MQ below (va_Qi (fun r u2 => r = z.1 ∧ u2 = z.2) (fun u2 t => gq_B D gc_cl (gk_tys cI cT) gk_vd ad (gk_pc cI cT ad u2) t) (gq_A gk_vd ad)) ([.ref (ad 2 0), .int p1] : List Value).toArray s 0 0 (gq_A gk_vd ad)) (F0 m 4 ls []) := by
    intro n
    induction n with
    | zero =>
      intro x1 x2 x3 u H locs ls hf
      have h0 : none = some z := hf
      cases h0
    | succ n ih =>
      intro x1 x2 x3 u H locs ls hf hH hS hl
      rw [fn_Lv_leafOf_4] at hf
      refine lv_iload_n hx hb gd_Lv_leafOf_4 rfl (lv_at hl 3 rfl) ?_
      refine lv_aload_n hx hb gd_Lv_leafOf_5 rfl (lv_at hl 0 rfl) ?_
      refine va_get (D := D) (ci := 1) (C := gR_Lv) (T := gT_Lv) (N := 4) hx hb hts (fun w h => List.mem_cons_of_mem _ (gl_Lv w h)) hown hK (gq_one (c := 2) (k := 0) hH rfl (gk_c2 cI cT ad u)) 0 rfl rfl 3 (by decide) (ht _ gt_73) (fun _ h9 => h9) rfl gd_Lv_leafOf_6 ?_
      refine lv_icmp_ge (tgt := 33) hx hb gd_Lv_leafOf_9 (by decide) (fun c4 => ?_) (fun c4 => ?_)
      · replace hf := gj_t c4 hf
        refine lv_aload_n hx hb gd_Lv_leafOf_33 rfl (lv_at hl 0 rfl) ?_
        refine va_get (D := D) (ci := 1) (C := gR_Lv) (T := gT_Lv) (N := 4) hx hb hts (fun w h => List.mem_cons_of_mem _ (gl_Lv w h)) hown hK (gq_one (c := 2) (k := 0) hH rfl (gk_c2 cI cT ad u)) 0 rfl rfl 3 (by decide) (ht _ gt_73) (fun _ h9 => h9) rfl gd_Lv_leafOf_34 ?_
        refine lv_iconst (v := 1) hx hb gd_Lv_leafOf_37 (by decide) ?_
        refine lv_isub hx hb gd_Lv_leafOf_38 ?_
        refine lv_iconst (v := 0) hx hb gd_Lv_leafOf_39 (by decide) ?_
        refine va_mmax hx hb (hml.trans hl.1.symm) hown (ht _ gt_197) (ht _ gt_198) (ht _ gt_8) (ht _ gt_199) (Nat.le_of_ble_eq_true rfl) (Nat.le_of_ble_eq_true rfl) (Nat.zero_le _) (Nat.zero_le _) gd_Lv_leafOf_40 ?_
        refine W.eq (g2 := F0 m 43 ls (.int (fn_Ma_max ((u.1 8 0) - 1) 0) :: [])) rfl ?_
        cases hf
        exact W.iret hx hb hr (fun t ht hW => ⟨⟨_, _, rfl, ⟨rfl, rfl⟩, ⟨by rw [ht]; exact hH, va_K.moved hW.alike hK⟩⟩, hS.F ht⟩) hS.2.2 gd_Lv_leafOf_43
      · replace hf := gj_e c4 hf
        refine lv_iload_n hx hb gd_Lv_leafOf_12 rfl (lv_at hl 2 rfl) ?_
        refine lv_aload_n hx hb gd_Lv_leafOf_13 rfl (lv_at hl 0 rfl) ?_
        refine lv_iload_n hx hb gd_Lv_leafOf_14 rfl (lv_at hl 3 rfl) ?_
        obtain ⟨z1, hc2, hf⟩ := Option.bind_eq_some_iff.mp hf
        refine gq_calli (va_runV (As := [.int x3]) (rest := [.int x2]) ⟨hx, hb, hml, hown, hts⟩ (ct_Lv_sizeOf l D cI cT ad hI u x3 z1 hc2) (cwV 1 hts (gt_V gt_193 gt_194 gt_195 gt_4 gt_196) rfl rfl rfl (by decide +kernel) ⟨Nat.le_of_ble_eq_true rfl, Nat.le_of_ble_eq_true rfl⟩) (gq_preV hH hK hN (va_recv hK (gq_one (c := 2) (k := 0) hH rfl (gk_c2 cI cT ad u)) (ci := 1) (q0 := 0) rfl rfl)) rfl rfl hl.1 rfl (lv_room (Nat.le_of_ble_eq_true rfl)) gd_Lv_leafOf_15 ⟨Nat.zero_le _, Nat.zero_le _⟩) hA hS (fun H locs hH hS => ?_)
        refine lv_iadd hx hb gd_Lv_leafOf_18 ?_
        refine lv_istore_n (lv' := [(2, .int (x2 + z1.1)), (0, .ref (ad 2 0)), (1, .int x1), (3, .int x3)]) hx hb gd_Lv_leafOf_19 rfl hl (by decide) rfl (fun ls hl => ?_)
        refine lv_iload_n hx hb gd_Lv_leafOf_20 rfl (lv_at hl 0 rfl) ?_
        refine lv_iload_n hx hb gd_Lv_leafOf_21 rfl (lv_at hl 2 rfl) ?_
        refine lv_icmp_le (tgt := 27) hx hb gd_Lv_leafOf_22 (by decide) (fun c3 => ?_) (fun c3 => ?_)
        · replace hf := gj_t c3 hf
          refine lv_iinc (v := x3 + 1) (lv' := [(3, .int (x3 + 1)), (2, .int (x2 + z1.1)), (0, .ref (ad 2 0)), (1, .int x1)]) hx hb gd_Lv_leafOf_27 hl (k := 3) rfl rfl (by decide) rfl (fun ls hl => ?_)
          refine lv_goto (tgt := 4) hx hb gd_Lv_leafOf_30 (by decide) ?_
          exact ih x1 (x2 + z1.1) (x3 + 1) z1.2 _ _ _ hf hH hS (lv_sub hl [2, 3, 1, 0] rfl)
        · replace hf := gj_e c3 hf
          refine lv_iload_n hx hb gd_Lv_leafOf_25 rfl (lv_at hl 3 rfl) ?_
          cases hf
          exact W.iret hx hb hr (fun t ht hW => ⟨⟨_, _, rfl, ⟨rfl, rfl⟩, ⟨by rw [ht]; exact hH, va_K.moved hW.alike hK⟩⟩, hS.F ht⟩) hS.2.2 gd_Lv_leafOf_26
  unfold fn_Lv_leafOf at hf
  refine lv_iconst (v := 0) hx hb gd_Lv_leafOf_0 (by decide) ?_
  refine lv_istore_n (lv' := [(2, .int 0), (0, .ref (ad 2 0)), (1, .int p1)]) hx hb gd_Lv_leafOf_1 rfl hl (by decide) rfl (fun ls hl => ?_)
  refine lv_iconst (v := 0) hx hb gd_Lv_leafOf_2 (by decide) ?_
  refine lv_istore_n (lv' := [(3, .int 0), (2, .int 0), (0, .ref (ad 2 0)), (1, .int p1)]) hx hb gd_Lv_leafOf_3 rfl hl (by decide) rfl (fun ls hl => ?_)
  exact L4 gk_fu p1 0 0 u _ _ _ hf hH hS (lv_sub hl [2, 3, 1, 0] rfl)
set_option maxHeartbeats 4000000 in
set_option maxRecDepth 100000 in
theorem ct_Lv_resize (l : Launch) (D : va_G) (cI cT : ClassId) (ad : Nat → Nat → Nat) (hI : gq_I gk_vd ad) (u : gk_St) (p1 : Int32) (p2 : Int32) (z : gk_St) (hf : fn_Lv_resize p1 p2 u = some z) : Met l gy_Lv_resize gws_Lv_resize ({ frames := 0, cells := 0, slots := 0, locals := 0 }) (va_Pc [.ref (ad 2 0), .int p1, .int p2] (gq_pre D gc_cl (gk_tys cI cT) gk_vd ad gk_NF gk_NM (gk_pc cI cT ad u))) (va_Qv (fun u2 => u2 = z) (fun u2 t => gq_B D gc_cl (gk_tys cI cT) gk_vd ad (gk_pc cI cT ad u2) t) (gq_A gk_vd ad)) 0 0 (gq_A gk_vd ad) := by
  refine Met.ofW (cc := gb_Lv_resize) (maxL := 3) (ret := none) (by decide) rfl ?_
  intro p e s m args below meth c s₁ B hml hv
  obtain ⟨rfl, hH, hK, hN⟩ := hv
  have hx := B.exec
  have hb := B.bytes
  have hr := B.returns
  have hts := atoms_spec (ws := gws_Lv_resize) B.pre
  have ht := fun (w : Cond) (h : w ∈ gt_T) => hts w (List.mem_cons_of_mem _ h)
  have hown : s.vm.findClass gR_Lv = some m.cls := findClass_of_methodNamed B.named
  have hlocks := B.notSynchronized
  have hA : ∀ q, (gq_A gk_vd ad) q → (gq_A gk_vd ad) q := fun _ h => h
  have hS : va_S (gq_A gk_vd ad) s.heap s.heap [] := va_S.rf
  have hl := lv_entry ([.ref (ad 2 0), .int p1, .int p2]) (n := 3) (Nat.le_of_ble_eq_true rfl)
  rw [lg_entry_eq]
  generalize (lg_sl ([.ref (ad 2 0), .int p1, .int p2]) ++ List.replicate (3 - (lg_sl ([.ref (ad 2 0), .int p1, .int p2])).length) Slot.unset).toArray = ls at hl ⊢
  have hl : lv_has ls 3 [(0, .ref (ad 2 0)), (1, .int p1), (2, .int p2)] := hl
  unfold fn_Lv_resize at hf
  refine lv_iload_n hx hb gd_Lv_resize_0 rfl (lv_at hl 1 rfl) ?_
  refine lv_if_lt (tgt := 31) hx hb gd_Lv_resize_1 (by decide) (fun c5 => ?_) (fun c5 => ?_)
  · replace hf := gj_t c5 hf
    cases hf
    exact W.vret hx hb hr (fun t ht hW => ⟨⟨_, rfl, rfl, ⟨by rw [ht]; exact hH, va_K.moved hW.alike hK⟩⟩, hS.F ht⟩) hS.2.2 gd_Lv_resize_31
  · replace hf := gj_e c5 hf
    refine lv_iload_n hx hb gd_Lv_resize_4 rfl (lv_at hl 1 rfl) ?_
    refine lv_aload_n hx hb gd_Lv_resize_5 rfl (lv_at hl 0 rfl) ?_
    refine va_get (D := D) (ci := 1) (C := gR_Lv) (T := gT_Lv) (N := 4) hx hb hts (fun w h => List.mem_cons_of_mem _ (gl_Lv w h)) hown hK (gq_one (c := 2) (k := 0) hH rfl (gk_c2 cI cT ad u)) 0 rfl rfl 3 (by decide) (ht _ gt_73) (fun _ h9 => h9) rfl gd_Lv_resize_6 ?_
    refine lv_icmp_ge (tgt := 31) hx hb gd_Lv_resize_9 (by decide) (fun c4 => ?_) (fun c4 => ?_)
    · replace hf := gj_t c4 hf
      cases hf
      exact W.vret hx hb hr (fun t ht hW => ⟨⟨_, rfl, rfl, ⟨by rw [ht]; exact hH, va_K.moved hW.alike hK⟩⟩, hS.F ht⟩) hS.2.2 gd_Lv_resize_31
    · replace hf := gj_e c4 hf
      refine lv_iload_n hx hb gd_Lv_resize_12 rfl (lv_at hl 1 rfl) ?_
      refine lv_aload_n hx hb gd_Lv_resize_13 rfl (lv_at hl 0 rfl) ?_
      refine va_get (D := D) (ci := 1) (C := gR_Lv) (T := gT_Lv) (N := 4) hx hb hts (fun w h => List.mem_cons_of_mem _ (gl_Lv w h)) hown hK (gq_one (c := 2) (k := 0) hH rfl (gk_c2 cI cT ad u)) 0 rfl rfl 2 (by decide) (ht _ gt_72) (fun _ h9 => h9) rfl gd_Lv_resize_14 ?_
      refine va_alen (D := D) (v := 100) hx hb hK (gq_one (c := 4) (k := 0) hH rfl (gk_c4 cI cT ad u)) 0 0 rfl rfl rfl gd_Lv_resize_17 ?_
      refine lv_icmp_ge (tgt := 31) hx hb gd_Lv_resize_18 (by decide) (fun c3 => ?_) (fun c3 => ?_)
      · replace hf := gj_t c3 hf
        cases hf
        exact W.vret hx hb hr (fun t ht hW => ⟨⟨_, rfl, rfl, ⟨by rw [ht]; exact hH, va_K.moved hW.alike hK⟩⟩, hS.F ht⟩) hS.2.2 gd_Lv_resize_31
      · replace hf := gj_e c3 hf
        refine lv_aload_n hx hb gd_Lv_resize_21 rfl (lv_at hl 0 rfl) ?_
        refine va_get (D := D) (ci := 1) (C := gR_Lv) (T := gT_Lv) (N := 4) hx hb hts (fun w h => List.mem_cons_of_mem _ (gl_Lv w h)) hown hK (gq_one (c := 2) (k := 0) hH rfl (gk_c2 cI cT ad u)) 0 rfl rfl 2 (by decide) (ht _ gt_72) (fun _ h9 => h9) rfl gd_Lv_resize_22 ?_
        refine lv_iload_n hx hb gd_Lv_resize_25 rfl (lv_at hl 1 rfl) ?_
        refine lv_dup2_11 hx hb gd_Lv_resize_26 rfl rfl ?_
        obtain ⟨hg1, hf⟩ := gj_g hf
        refine va_iald (D := D) hx hb hK (gq_one (c := 4) (k := 0) hH rfl (gk_c4 cI cT ad u)) 0 0 rfl rfl hg1 gd_Lv_resize_27 ?_
        refine lv_iload_n hx hb gd_Lv_resize_28 rfl (lv_at hl 2 rfl) ?_
        refine lv_iadd hx hb gd_Lv_resize_29 ?_
        obtain ⟨hg2, hf⟩ := gj_g hf
        refine gq_iast (D := D) (ca := 4) (ka := 0) (pp' := gk_pc cI cT ad (gk_sI u 7 (Int32.toNatClampNeg p1) ((u.1 7 (Int32.toNatClampNeg p1)) + p2))) hx hb hK hH hI hA rfl (gk_c4 cI cT ad u) 0 rfl hg2 (gk_w7 cI cT ad u (Int32.toNatClampNeg p1) ((u.1 7 (Int32.toNatClampNeg p1)) + p2)) (gk_o7 cI cT ad u (Int32.toNatClampNeg p1) ((u.1 7 (Int32.toNatClampNeg p1)) + p2)) hS gd_Lv_resize_30 (fun H locs hH hS => ?_)
        cases hf
        exact W.vret hx hb hr (fun t ht hW => ⟨⟨_, rfl, rfl, ⟨by rw [ht]; exact hH, va_K.moved hW.alike hK⟩⟩, hS.F ht⟩) hS.2.2 gd_Lv_resize_31
end
section
set_option maxHeartbeats 4000000 in
set_option maxRecDepth 100000 in
theorem ct_Lv_part (l : Launch) (D : va_G) (cI cT : ClassId) (ad : Nat → Nat → Nat) (hI : gq_I gk_vd ad) (u : gk_St) (p1 : Int32) (z : gk_St) (hf : fn_Lv_part p1 u = some z) : Met l gy_Lv_part gws_Lv_part ({ frames := 0, cells := 0, slots := 0, locals := 0 }) (va_Pc [.ref (ad 2 0), .int p1] (gq_pre D gc_cl (gk_tys cI cT) gk_vd ad gk_NF gk_NM (gk_pc cI cT ad u))) (va_Qv (fun u2 => u2 = z) (fun u2 t => gq_B D gc_cl (gk_tys cI cT) gk_vd ad (gk_pc cI cT ad u2) t) (gq_A gk_vd ad)) 0 0 (gq_A gk_vd ad) := by
  refine Met.ofW (cc := gb_Lv_part) (maxL := 3) (ret := none) (by decide) rfl ?_
  intro p e s m args below meth c s₁ B hml hv
  obtain ⟨rfl, hH, hK, hN⟩ := hv
  have hx := B.exec
  have hb := B.bytes
  have hr := B.returns
  have hts := atoms_spec (ws := gws_Lv_part) B.pre
  have ht := fun (w : Cond) (h : w ∈ gt_T) => hts w (List.mem_cons_of_mem _ h)
  have hown : s.vm.findClass gR_Lv = some m.cls := findClass_of_methodNamed B.named
  have hlocks := B.notSynchronized
  have hA : ∀ q, (gq_A gk_vd ad) q → (gq_A gk_vd ad) q := fun _ h => h
  have hS : va_S (gq_A gk_vd ad) s.heap s.heap [] := va_S.rf
  have hl := lv_entry ([.ref (ad 2 0), .int p1]) (n := 3) (Nat.le_of_ble_eq_true rfl)
  rw [lg_entry_eq]
  generalize (lg_sl ([.ref (ad 2 0), .int p1]) ++ List.replicate (3 - (lg_sl ([.ref (ad 2 0), .int p1])).length) Slot.unset).toArray = ls at hl ⊢
  have hl : lv_has ls 3 [(0, .ref (ad 2 0)), (1, .int p1)] := hl
  have L18 : ∀ (n : Nat) (x1 : Int32) (x2 : Int32) (u : gk_St) (H : Heap) (locs : List Loc) (ls : Array Slot), fn_Lv_part_18 n x1 x2 u = some z → gq_H D gc_cl gk_vd ad (gk_pc cI cT ad u) H → va_S (gq_A gk_vd ad) s.heap H locs → lv_has ls 3 [(0, .ref (ad 2 0)), (1, .int x1), (2, .int x2)] → W p l e (headSpec gws_Lv_part ({ frames := 0, cells := 0, slots := 0, locals := 0 })).room s m ([.ref (ad 2 0), .int p1] : List Value).toArray below meth c H locs 0 0 (MQ below (va_Qv (fun u2 => u2 = z) (fun u2 t => gq_B D gc_cl (gk_tys cI cT) gk_vd ad (gk_pc cI cT ad u2) t) (gq_A gk_vd ad)) ([.ref (ad 2 0), .int p1] : List Value).toArray s 0 0 (gq_A gk_vd ad)) (F0 m 18 ls []) := by
    intro n
    induction n with
    | zero =>
      intro x1 x2 u H locs ls hf
      have h0 : none = some z := hf
      cases h0
    | succ n ih =>
      intro x1 x2 u H locs ls hf hH hS hl
      rw [fn_Lv_part_18] at hf
      refine lv_iload_n hx hb gd_Lv_part_18 rfl (lv_at hl 2 rfl) ?_
      refine lv_iload_n hx hb gd_Lv_part_19 rfl (lv_at hl 1 rfl) ?_
      refine lv_iconst (v := 1) hx hb gd_Lv_part_20 (by decide) ?_
      refine lv_iadd hx hb gd_Lv_part_21 ?_
      refine lv_icmp_le (tgt := 45) hx hb gd_Lv_part_22 (by decide) (fun c6 => ?_) (fun c6 => ?_)
      · replace hf := gj_t c6 hf
        refine lv_aload_n hx hb gd_Lv_part_45 rfl (lv_at hl 0 rfl) ?_
        refine lv_dup hx hb gd_Lv_part_46 rfl ?_
        refine va_get (D := D) (ci := 1) (C := gR_Lv) (T := gT_Lv) (N := 4) hx hb hts (fun w h => List.mem_cons_of_mem _ (gl_Lv w h)) hown hK (gq_one (c := 2) (k := 0) hH rfl (gk_c2 cI cT ad u)) 0 rfl rfl 3 (by decide) (ht _ gt_73) (fun _ h9 => h9) rfl gd_Lv_part_47 ?_
        refine lv_iconst (v := 1) hx hb gd_Lv_part_50 (by decide) ?_
        refine lv_iadd hx hb gd_Lv_part_51 ?_
        refine gq_put (D := D) (ci := 1) (C := gR_Lv) (T := gT_Lv) (N := 4) (ca := 2) (ka := 0) (pp' := gk_pc cI cT ad (gk_sI u 8 0 ((u.1 8 0) + 1))) (ty := .int) hx hb hts (fun w h => List.mem_cons_of_mem _ (gl_Lv w h)) gF_Lv gf_Lv gn_Lv hown hK hH hI hA rfl (gk_c2 cI cT ad u) rfl 3 (by decide) (ht _ gt_73) (fun _ h9 => h9) rfl (by decide +kernel) rfl rfl (Nat.le_of_ble_eq_true rfl) (gk_w8 cI cT ad u ((u.1 8 0) + 1)) (gk_o8 cI cT ad u ((u.1 8 0) + 1)) hS gd_Lv_part_52 (fun H locs hH hS => ?_)
        refine lv_aload_n hx hb gd_Lv_part_55 rfl (lv_at hl 0 rfl) ?_
        refine va_get (D := D) (ci := 1) (C := gR_Lv) (T := gT_Lv) (N := 4) hx hb hts (fun w h => List.mem_cons_of_mem _ (gl_Lv w h)) hown hK (gq_one (c := 2) (k := 0) hH rfl (gk_c2 cI cT ad (gk_sI u 8 0 ((u.1 8 0) + 1)))) 0 rfl rfl 2 (by decide) (ht _ gt_72) (fun _ h9 => h9) rfl gd_Lv_part_56 ?_
        refine lv_iload_n hx hb gd_Lv_part_59 rfl (lv_at hl 1 rfl) ?_
        refine lv_iconst (v := 1) hx hb gd_Lv_part_60 (by decide) ?_
        refine lv_iadd hx hb gd_Lv_part_61 ?_
        refine lv_aload_n hx hb gd_Lv_part_62 rfl (lv_at hl 0 rfl) ?_
        refine va_get (D := D) (ci := 1) (C := gR_Lv) (T := gT_Lv) (N := 4) hx hb hts (fun w h => List.mem_cons_of_mem _ (gl_Lv w h)) hown hK (gq_one (c := 2) (k := 0) hH rfl (gk_c2 cI cT ad (gk_sI u 8 0 ((u.1 8 0) + 1)))) 0 rfl rfl 2 (by decide) (ht _ gt_72) (fun _ h9 => h9) rfl gd_Lv_part_63 ?_
        refine lv_iload_n hx hb gd_Lv_part_66 rfl (lv_at hl 1 rfl) ?_
        obtain ⟨hg1, hf⟩ := gj_g hf
        refine va_iald (D := D) hx hb hK (gq_one (c := 4) (k := 0) hH rfl (gk_c4 cI cT ad (gk_sI u 8 0 ((u.1 8 0) + 1)))) 0 0 rfl rfl hg1 gd_Lv_part_67 ?_
        refine lv_iconst (v := 4) hx hb gd_Lv_part_68 (by decide) ?_
        refine lv_isub hx hb gd_Lv_part_69 ?_
        obtain ⟨hg2, hf⟩ := gj_g hf
        refine gq_iast (D := D) (ca := 4) (ka := 0) (pp' := gk_pc cI cT ad (gk_sI (gk_sI u 8 0 ((u.1 8 0) + 1)) 7 (Int32.toNatClampNeg (x1 + 1)) (((gk_sI u 8 0 ((u.1 8 0) + 1)).1 7 (Int32.toNatClampNeg x1)) - 4))) hx hb hK hH hI hA rfl (gk_c4 cI cT ad (gk_sI u 8 0 ((u.1 8 0) + 1))) 0 rfl hg2 (gk_w7 cI cT ad (gk_sI u 8 0 ((u.1 8 0) + 1)) (Int32.toNatClampNeg (x1 + 1)) (((gk_sI u 8 0 ((u.1 8 0) + 1)).1 7 (Int32.toNatClampNeg x1)) - 4)) (gk_o7 cI cT ad (gk_sI u 8 0 ((u.1 8 0) + 1)) (Int32.toNatClampNeg (x1 + 1)) (((gk_sI u 8 0 ((u.1 8 0) + 1)).1 7 (Int32.toNatClampNeg x1)) - 4)) hS gd_Lv_part_70 (fun H locs hH hS => ?_)
        refine lv_aload_n hx hb gd_Lv_part_71 rfl (lv_at hl 0 rfl) ?_
        refine va_get (D := D) (ci := 1) (C := gR_Lv) (T := gT_Lv) (N := 4) hx hb hts (fun w h => List.mem_cons_of_mem _ (gl_Lv w h)) hown hK (gq_one (c := 2) (k := 0) hH rfl (gk_c2 cI cT ad (gk_sI (gk_sI u 8 0 ((u.1 8 0) + 1)) 7 (Int32.toNatClampNeg (x1 + 1)) (((gk_sI u 8 0 ((u.1 8 0) + 1)).1 7 (Int32.toNatClampNeg x1)) - 4)))) 0 rfl rfl 2 (by decide) (ht _ gt_72) (fun _ h9 => h9) rfl gd_Lv_part_72 ?_
        refine lv_iload_n hx hb gd_Lv_part_75 rfl (lv_at hl 1 rfl) ?_
        refine lv_iconst (v := 4) hx hb gd_Lv_part_76 (by decide) ?_
        obtain ⟨hg3, hf⟩ := gj_g hf
        refine gq_iast (D := D) (ca := 4) (ka := 0) (pp' := gk_pc cI cT ad (gk_sI (gk_sI (gk_sI u 8 0 ((u.1 8 0) + 1)) 7 (Int32.toNatClampNeg (x1 + 1)) (((gk_sI u 8 0 ((u.1 8 0) + 1)).1 7 (Int32.toNatClampNeg x1)) - 4)) 7 (Int32.toNatClampNeg x1) 4)) hx hb hK hH hI hA rfl (gk_c4 cI cT ad (gk_sI (gk_sI u 8 0 ((u.1 8 0) + 1)) 7 (Int32.toNatClampNeg (x1 + 1)) (((gk_sI u 8 0 ((u.1 8 0) + 1)).1 7 (Int32.toNatClampNeg x1)) - 4))) 0 rfl hg3 (gk_w7 cI cT ad (gk_sI (gk_sI u 8 0 ((u.1 8 0) + 1)) 7 (Int32.toNatClampNeg (x1 + 1)) (((gk_sI u 8 0 ((u.1 8 0) + 1)).1 7 (Int32.toNatClampNeg x1)) - 4)) (Int32.toNatClampNeg x1) 4) (gk_o7 cI cT ad (gk_sI (gk_sI u 8 0 ((u.1 8 0) + 1)) 7 (Int32.toNatClampNeg (x1 + 1)) (((gk_sI u 8 0 ((u.1 8 0) + 1)).1 7 (Int32.toNatClampNeg x1)) - 4)) (Int32.toNatClampNeg x1) 4) hS gd_Lv_part_77 (fun H locs hH hS => ?_)
        cases hf
        exact W.vret hx hb hr (fun t ht hW => ⟨⟨_, rfl, rfl, ⟨by rw [ht]; exact hH, va_K.moved hW.alike hK⟩⟩, hS.F ht⟩) hS.2.2 gd_Lv_part_78
      · replace hf := gj_e c6 hf
        refine lv_aload_n hx hb gd_Lv_part_25 rfl (lv_at hl 0 rfl) ?_
        refine va_get (D := D) (ci := 1) (C := gR_Lv) (T := gT_Lv) (N := 4) hx hb hts (fun w h => List.mem_cons_of_mem _ (gl_Lv w h)) hown hK (gq_one (c := 2) (k := 0) hH rfl (gk_c2 cI cT ad u)) 0 rfl rfl 2 (by decide) (ht _ gt_72) (fun _ h9 => h9) rfl gd_Lv_part_26 ?_
        refine lv_iload_n hx hb gd_Lv_part_29 rfl (lv_at hl 2 rfl) ?_
        refine lv_aload_n hx hb gd_Lv_part_30 rfl (lv_at hl 0 rfl) ?_
        refine va_get (D := D) (ci := 1) (C := gR_Lv) (T := gT_Lv) (N := 4) hx hb hts (fun w h => List.mem_cons_of_mem _ (gl_Lv w h)) hown hK (gq_one (c := 2) (k := 0) hH rfl (gk_c2 cI cT ad u)) 0 rfl rfl 2 (by decide) (ht _ gt_72) (fun _ h9 => h9) rfl gd_Lv_part_31 ?_
        refine lv_iload_n hx hb gd_Lv_part_34 rfl (lv_at hl 2 rfl) ?_
        refine lv_iconst (v := 1) hx hb gd_Lv_part_35 (by decide) ?_
        refine lv_isub hx hb gd_Lv_part_36 ?_
        obtain ⟨hg4, hf⟩ := gj_g hf
        refine va_iald (D := D) hx hb hK (gq_one (c := 4) (k := 0) hH rfl (gk_c4 cI cT ad u)) 0 0 rfl rfl hg4 gd_Lv_part_37 ?_
        obtain ⟨hg5, hf⟩ := gj_g hf
        refine gq_iast (D := D) (ca := 4) (ka := 0) (pp' := gk_pc cI cT ad (gk_sI u 7 (Int32.toNatClampNeg x2) (u.1 7 (Int32.toNatClampNeg (x2 - 1))))) hx hb hK hH hI hA rfl (gk_c4 cI cT ad u) 0 rfl hg5 (gk_w7 cI cT ad u (Int32.toNatClampNeg x2) (u.1 7 (Int32.toNatClampNeg (x2 - 1)))) (gk_o7 cI cT ad u (Int32.toNatClampNeg x2) (u.1 7 (Int32.toNatClampNeg (x2 - 1)))) hS gd_Lv_part_38 (fun H locs hH hS => ?_)
        refine lv_iinc (v := x2 + (-1)) (lv' := [(2, .int (x2 + (-1))), (0, .ref (ad 2 0)), (1, .int x1)]) hx hb gd_Lv_part_39 hl (k := 2) rfl rfl (by decide) rfl (fun ls hl => ?_)
        refine lv_goto (tgt := 18) hx hb gd_Lv_part_42 (by decide) ?_
        exact ih x1 (x2 + (-1)) (gk_sI u 7 (Int32.toNatClampNeg x2) (u.1 7 (Int32.toNatClampNeg (x2 - 1)))) _ _ _ hf hH hS (lv_sub hl [1, 2, 0] rfl)
  unfold fn_Lv_part at hf
  refine lv_aload_n hx hb gd_Lv_part_0 rfl (lv_at hl 0 rfl) ?_
  refine va_get (D := D) (ci := 1) (C := gR_Lv) (T := gT_Lv) (N := 4) hx hb hts (fun w h => List.mem_cons_of_mem _ (gl_Lv w h)) hown hK (gq_one (c := 2) (k := 0) hH rfl (gk_c2 cI cT ad u)) 0 rfl rfl 3 (by decide) (ht _ gt_73) (fun _ h9 => h9) rfl gd_Lv_part_1 ?_
  refine lv_aload_n hx hb gd_Lv_part_4 rfl (lv_at hl 0 rfl) ?_
  refine va_get (D := D) (ci := 1) (C := gR_Lv) (T := gT_Lv) (N := 4) hx hb hts (fun w h => List.mem_cons_of_mem _ (gl_Lv w h)) hown hK (gq_one (c := 2) (k := 0) hH rfl (gk_c2 cI cT ad u)) 0 rfl rfl 2 (by decide) (ht _ gt_72) (fun _ h9 => h9) rfl gd_Lv_part_5 ?_
  refine va_alen (D := D) (v := 100) hx hb hK (gq_one (c := 4) (k := 0) hH rfl (gk_c4 cI cT ad u)) 0 0 rfl rfl rfl gd_Lv_part_8 ?_
  refine lv_icmp_lt (tgt := 13) hx hb gd_Lv_part_9 (by decide) (fun c7 => ?_) (fun c7 => ?_)
  · replace hf := gj_t c7 hf
    refine lv_aload_n hx hb gd_Lv_part_13 rfl (lv_at hl 0 rfl) ?_
    refine va_get (D := D) (ci := 1) (C := gR_Lv) (T := gT_Lv) (N := 4) hx hb hts (fun w h => List.mem_cons_of_mem _ (gl_Lv w h)) hown hK (gq_one (c := 2) (k := 0) hH rfl (gk_c2 cI cT ad u)) 0 rfl rfl 3 (by decide) (ht _ gt_73) (fun _ h9 => h9) rfl gd_Lv_part_14 ?_
    refine lv_istore_n (lv' := [(2, .int (u.1 8 0)), (0, .ref (ad 2 0)), (1, .int p1)]) hx hb gd_Lv_part_17 rfl hl (by decide) rfl (fun ls hl => ?_)
    exact L18 gk_fu p1 (u.1 8 0) u _ _ _ hf hH hS (lv_sub hl [1, 2, 0] rfl)
  · replace hf := gj_e c7 hf
    cases hf
    exact W.vret hx hb hr (fun t ht hW => ⟨⟨_, rfl, rfl, ⟨by rw [ht]; exact hH, va_K.moved hW.alike hK⟩⟩, hS.F ht⟩) hS.2.2 gd_Lv_part_12
set_option maxHeartbeats 4000000 in
set_option maxRecDepth 100000 in
theorem ct_Lv_insert (l : Launch) (D : va_G) (cI cT : ClassId) (ad : Nat → Nat → Nat) (hI : gq_I gk_vd ad) (u : gk_St) (p1 : Int32) (p2 : Int32) (z : gk_St) (hf : fn_Lv_insert p1 p2 u = some z) : Met l gy_Lv_insert gws_Lv_insert ({ frames := 2, cells := 0, slots := 0, locals := 44 }) (va_Pc [.ref (ad 2 0), .int p1, .int p2] (gq_pre D gc_cl (gk_tys cI cT) gk_vd ad gk_NF gk_NM (gk_pc cI cT ad u))) (va_Qv (fun u2 => u2 = z) (fun u2 t => gq_B D gc_cl (gk_tys cI cT) gk_vd ad (gk_pc cI cT ad u2) t) (gq_A gk_vd ad)) 0 0 (gq_A gk_vd ad) := by
  refine Met.ofW (cc := gb_Lv_insert) (maxL := 5) (ret := none) (by decide) rfl ?_
  intro p e s m args below meth c s₁ B hml hv
  obtain ⟨rfl, hH, hK, hN⟩ := hv
  have hx := B.exec
  have hb := B.bytes
  have hr := B.returns
  have hts := atoms_spec (ws := gws_Lv_insert) B.pre
  have ht := fun (w : Cond) (h : w ∈ gt_T) => hts w (List.mem_cons_of_mem _ h)
  have hown : s.vm.findClass gR_Lv = some m.cls := findClass_of_methodNamed B.named
  have hlocks := B.notSynchronized
  have hA : ∀ q, (gq_A gk_vd ad) q → (gq_A gk_vd ad) q := fun _ h => h
  have hS : va_S (gq_A gk_vd ad) s.heap s.heap [] := va_S.rf
  have hl := lv_entry ([.ref (ad 2 0), .int p1, .int p2]) (n := 5) (Nat.le_of_ble_eq_true rfl)
  rw [lg_entry_eq]
  generalize (lg_sl ([.ref (ad 2 0), .int p1, .int p2]) ++ List.replicate (5 - (lg_sl ([.ref (ad 2 0), .int p1, .int p2])).length) Slot.unset).toArray = ls at hl ⊢
  have hl : lv_has ls 5 [(0, .ref (ad 2 0)), (1, .int p1), (2, .int p2)] := hl
  have L37 : ∀ (n : Nat) (x1 : Int32) (x2 : Int32) (x3 : Int32) (x4 : Int32) (u : gk_St) (H : Heap) (locs : List Loc) (ls : Array Slot), fn_Lv_insert_37 n x1 x2 x3 x4 u = some z → gq_H D gc_cl gk_vd ad (gk_pc cI cT ad u) H → va_S (gq_A gk_vd ad) s.heap H locs → lv_has ls 5 [(0, .ref (ad 2 0)), (1, .int x1), (2, .int x2), (3, .int x3), (4, .int x4)] → W p l e (headSpec gws_Lv_insert ({ frames := 2, cells := 0, slots := 0, locals := 44 })).room s m ([.ref (ad 2 0), .int p1, .int p2] : List Value).toArray below meth c H locs 0 0 (MQ below (va_Qv (fun u2 => u2 = z) (fun u2 t => gq_B D gc_cl (gk_tys cI cT) gk_vd ad (gk_pc cI cT ad u2) t) (gq_A gk_vd ad)) ([.ref (ad 2 0), .int p1, .int p2] : List Value).toArray s 0 0 (gq_A gk_vd ad)) (F0 m 37 ls []) := by
    intro n
    induction n with
    | zero =>
      intro x1 x2 x3 x4 u H locs ls hf
      have h0 : none = some z := hf
      cases h0
    | succ n ih =>
      intro x1 x2 x3 x4 u H locs ls hf hH hS hl
      rw [fn_Lv_insert_37] at hf
      refine lv_iload hx hb gd_Lv_insert_37 (lv_at hl 4 rfl) ?_
      refine lv_iload_n hx hb gd_Lv_insert_39 rfl (lv_at hl 1 rfl) ?_
      refine lv_icmp_le (tgt := 65) hx hb gd_Lv_insert_40 (by decide) (fun c21 => ?_) (fun c21 => ?_)
      · replace hf := gj_t c21 hf
        refine lv_aload_n hx hb gd_Lv_insert_65 rfl (lv_at hl 0 rfl) ?_
        refine va_get (D := D) (ci := 1) (C := gR_Lv) (T := gT_Lv) (N := 4) hx hb hts (fun w h => List.mem_cons_of_mem _ (gl_Lv w h)) hown hK (gq_one (c := 2) (k := 0) hH rfl (gk_c2 cI cT ad u)) 0 rfl rfl 0 (by decide) (ht _ gt_69) (fun _ h9 => h9) rfl gd_Lv_insert_66 ?_
        refine lv_iload_n hx hb gd_Lv_insert_69 rfl (lv_at hl 1 rfl) ?_
        refine lv_iload_n hx hb gd_Lv_insert_70 rfl (lv_at hl 2 rfl) ?_
        obtain ⟨hg3, hf⟩ := gj_g hf
        refine gq_iast (D := D) (ca := 3) (ka := 0) (pp' := gk_pc cI cT ad (gk_sI u 5 (Int32.toNatClampNeg x1) x2)) hx hb hK hH hI hA rfl (gk_c3 cI cT ad u) 0 rfl hg3 (gk_w5 cI cT ad u (Int32.toNatClampNeg x1) x2) (gk_o5 cI cT ad u (Int32.toNatClampNeg x1) x2) hS gd_Lv_insert_71 (fun H locs hH hS => ?_)
        refine lv_aload_n hx hb gd_Lv_insert_72 rfl (lv_at hl 0 rfl) ?_
        refine lv_dup hx hb gd_Lv_insert_73 rfl ?_
        refine va_get (D := D) (ci := 1) (C := gR_Lv) (T := gT_Lv) (N := 4) hx hb hts (fun w h => List.mem_cons_of_mem _ (gl_Lv w h)) hown hK (gq_one (c := 2) (k := 0) hH rfl (gk_c2 cI cT ad (gk_sI u 5 (Int32.toNatClampNeg x1) x2))) 0 rfl rfl 1 (by decide) (ht _ gt_70) (fun _ h9 => h9) rfl gd_Lv_insert_74 ?_
        refine lv_iconst (v := 1) hx hb gd_Lv_insert_77 (by decide) ?_
        refine lv_iadd hx hb gd_Lv_insert_78 ?_
        refine gq_put (D := D) (ci := 1) (C := gR_Lv) (T := gT_Lv) (N := 4) (ca := 2) (ka := 0) (pp' := gk_pc cI cT ad (gk_sI (gk_sI u 5 (Int32.toNatClampNeg x1) x2) 6 0 (((gk_sI u 5 (Int32.toNatClampNeg x1) x2).1 6 0) + 1))) (ty := .int) hx hb hts (fun w h => List.mem_cons_of_mem _ (gl_Lv w h)) gF_Lv gf_Lv gn_Lv hown hK hH hI hA rfl (gk_c2 cI cT ad (gk_sI u 5 (Int32.toNatClampNeg x1) x2)) rfl 1 (by decide) (ht _ gt_70) (fun _ h9 => h9) rfl (by decide +kernel) rfl rfl (Nat.le_of_ble_eq_true rfl) (gk_w6 cI cT ad (gk_sI u 5 (Int32.toNatClampNeg x1) x2) (((gk_sI u 5 (Int32.toNatClampNeg x1) x2).1 6 0) + 1)) (gk_o6 cI cT ad (gk_sI u 5 (Int32.toNatClampNeg x1) x2) (((gk_sI u 5 (Int32.toNatClampNeg x1) x2).1 6 0) + 1)) hS gd_Lv_insert_79 (fun H locs hH hS => ?_)
        refine lv_aload_n hx hb gd_Lv_insert_82 rfl (lv_at hl 0 rfl) ?_
        refine va_get (D := D) (ci := 1) (C := gR_Lv) (T := gT_Lv) (N := 4) hx hb hts (fun w h => List.mem_cons_of_mem _ (gl_Lv w h)) hown hK (gq_one (c := 2) (k := 0) hH rfl (gk_c2 cI cT ad (gk_sI (gk_sI u 5 (Int32.toNatClampNeg x1) x2) 6 0 (((gk_sI u 5 (Int32.toNatClampNeg x1) x2).1 6 0) + 1)))) 0 rfl rfl 3 (by decide) (ht _ gt_73) (fun _ h9 => h9) rfl gd_Lv_insert_83 ?_
        refine lv_if_ne (tgt := 94) hx hb gd_Lv_insert_86 (by decide) (fun c18 => ?_) (fun c18 => ?_)
        · replace hf := gj_e c18 hf
          refine lv_aload_n hx hb gd_Lv_insert_94 rfl (lv_at hl 0 rfl) ?_
          refine lv_iload_n hx hb gd_Lv_insert_95 rfl (lv_at hl 3 rfl) ?_
          refine lv_iconst (v := 1) hx hb gd_Lv_insert_96 (by decide) ?_
          obtain ⟨z4, hc5, hf⟩ := Option.bind_eq_some_iff.mp hf
          refine gq_callv (va_runV (As := [.int x3, .int 1]) (rest := []) ⟨hx, hb, hml, hown, hts⟩ (ct_Lv_resize l D cI cT ad hI (gk_sI (gk_sI u 5 (Int32.toNatClampNeg x1) x2) 6 0 (((gk_sI u 5 (Int32.toNatClampNeg x1) x2).1 6 0) + 1)) x3 1 z4 hc5) (cwV 2 hts (gt_V gt_200 gt_202 (gt_sel (List.mem_of_getElem? (i := 8) rfl)) gt_4 gt_203) rfl rfl rfl (by decide +kernel) ⟨Nat.le_of_ble_eq_true rfl, Nat.le_of_ble_eq_true rfl⟩) (gq_preV hH hK hN (va_recv hK (gq_one (c := 2) (k := 0) hH rfl (gk_c2 cI cT ad (gk_sI (gk_sI u 5 (Int32.toNatClampNeg x1) x2) 6 0 (((gk_sI u 5 (Int32.toNatClampNeg x1) x2).1 6 0) + 1)))) (ci := 1) (q0 := 0) rfl rfl)) rfl rfl hl.1 rfl (lv_room (Nat.le_of_ble_eq_true rfl)) gd_Lv_insert_97 ⟨Nat.zero_le _, Nat.zero_le _⟩) hA hS (fun H locs hH hS => ?_)
          refine lv_aload_n hx hb gd_Lv_insert_100 rfl (lv_at hl 0 rfl) ?_
          refine lv_iload_n hx hb gd_Lv_insert_101 rfl (lv_at hl 3 rfl) ?_
          obtain ⟨z6, hc7, hf⟩ := Option.bind_eq_some_iff.mp hf
          refine gq_calli (va_runV (As := [.int x3]) (rest := []) ⟨hx, hb, hml, hown, hts⟩ (ct_Lv_sizeOf l D cI cT ad hI z4 x3 z6 hc7) (cwV 1 hts (gt_V gt_193 gt_194 gt_195 gt_4 gt_196) rfl rfl rfl (by decide +kernel) ⟨Nat.le_of_ble_eq_true rfl, Nat.le_of_ble_eq_true rfl⟩) (gq_preV hH hK hN (va_recv hK (gq_one (c := 2) (k := 0) hH rfl (gk_c2 cI cT ad z4)) (ci := 1) (q0 := 0) rfl rfl)) rfl rfl hl.1 rfl (lv_room (Nat.le_of_ble_eq_true rfl)) gd_Lv_insert_102 ⟨Nat.zero_le _, Nat.zero_le _⟩) hA hS (fun H locs hH hS => ?_)
          refine lv_bipush (v := 8) hx hb gd_Lv_insert_105 (by decide) ?_
          refine lv_icmp_le (tgt := 115) hx hb gd_Lv_insert_107 (by decide) (fun c10 => ?_) (fun c10 => ?_)
          · replace hf := gj_t c10 hf
            cases hf
            exact W.vret hx hb hr (fun t ht hW => ⟨⟨_, rfl, rfl, ⟨by rw [ht]; exact hH, va_K.moved hW.alike hK⟩⟩, hS.F ht⟩) hS.2.2 gd_Lv_insert_115
          · replace hf := gj_e c10 hf
            refine lv_aload_n hx hb gd_Lv_insert_110 rfl (lv_at hl 0 rfl) ?_
            refine lv_iload_n hx hb gd_Lv_insert_111 rfl (lv_at hl 3 rfl) ?_
            obtain ⟨z8, hc9, hf⟩ := Option.bind_eq_some_iff.mp hf
            refine gq_callv (va_runV (As := [.int x3]) (rest := []) ⟨hx, hb, hml, hown, hts⟩ (ct_Lv_part l D cI cT ad hI z6.2 x3 z8 hc9) (cwV 1 hts (gt_V gt_204 gt_206 (gt_sel (List.mem_of_getElem? (i := 9) rfl)) gt_4 gt_207) rfl rfl rfl (by decide +kernel) ⟨Nat.le_of_ble_eq_true rfl, Nat.le_of_ble_eq_true rfl⟩) (gq_preV hH hK hN (va_recv hK (gq_one (c := 2) (k := 0) hH rfl (gk_c2 cI cT ad z6.2)) (ci := 1) (q0 := 0) rfl rfl)) rfl rfl hl.1 rfl (lv_room (Nat.le_of_ble_eq_true rfl)) gd_Lv_insert_112 ⟨Nat.zero_le _, Nat.zero_le _⟩) hA hS (fun H locs hH hS => ?_)
            cases hf
            exact W.vret hx hb hr (fun t ht hW => ⟨⟨_, rfl, rfl, ⟨by rw [ht]; exact hH, va_K.moved hW.alike hK⟩⟩, hS.F ht⟩) hS.2.2 gd_Lv_insert_115
        · replace hf := gj_t c18 hf
          refine lv_aload_n hx hb gd_Lv_insert_89 rfl (lv_at hl 0 rfl) ?_
          refine lv_iconst (v := 1) hx hb gd_Lv_insert_90 (by decide) ?_
          refine gq_put (D := D) (ci := 1) (C := gR_Lv) (T := gT_Lv) (N := 4) (ca := 2) (ka := 0) (pp' := gk_pc cI cT ad (gk_sI (gk_sI (gk_sI u 5 (Int32.toNatClampNeg x1) x2) 6 0 (((gk_sI u 5 (Int32.toNatClampNeg x1) x2).1 6 0) + 1)) 8 0 1)) (ty := .int) hx hb hts (fun w h => List.mem_cons_of_mem _ (gl_Lv w h)) gF_Lv gf_Lv gn_Lv hown hK hH hI hA rfl (gk_c2 cI cT ad (gk_sI (gk_sI u 5 (Int32.toNatClampNeg x1) x2) 6 0 (((gk_sI u 5 (Int32.toNatClampNeg x1) x2).1 6 0) + 1))) rfl 3 (by decide) (ht _ gt_73) (fun _ h9 => h9) rfl (by decide +kernel) rfl rfl (Nat.le_of_ble_eq_true rfl) (gk_w8 cI cT ad (gk_sI (gk_sI u 5 (Int32.toNatClampNeg x1) x2) 6 0 (((gk_sI u 5 (Int32.toNatClampNeg x1) x2).1 6 0) + 1)) 1) (gk_o8 cI cT ad (gk_sI (gk_sI u 5 (Int32.toNatClampNeg x1) x2) 6 0 (((gk_sI u 5 (Int32.toNatClampNeg x1) x2).1 6 0) + 1)) 1) hS gd_Lv_insert_91 (fun H locs hH hS => ?_)
          refine lv_aload_n hx hb gd_Lv_insert_94 rfl (lv_at hl 0 rfl) ?_
          refine lv_iload_n hx hb gd_Lv_insert_95 rfl (lv_at hl 3 rfl) ?_
          refine lv_iconst (v := 1) hx hb gd_Lv_insert_96 (by decide) ?_
          obtain ⟨z11, hc12, hf⟩ := Option.bind_eq_some_iff.mp hf
          refine gq_callv (va_runV (As := [.int x3, .int 1]) (rest := []) ⟨hx, hb, hml, hown, hts⟩ (ct_Lv_resize l D cI cT ad hI (gk_sI (gk_sI (gk_sI u 5 (Int32.toNatClampNeg x1) x2) 6 0 (((gk_sI u 5 (Int32.toNatClampNeg x1) x2).1 6 0) + 1)) 8 0 1) x3 1 z11 hc12) (cwV 2 hts (gt_V gt_200 gt_202 (gt_sel (List.mem_of_getElem? (i := 8) rfl)) gt_4 gt_203) rfl rfl rfl (by decide +kernel) ⟨Nat.le_of_ble_eq_true rfl, Nat.le_of_ble_eq_true rfl⟩) (gq_preV hH hK hN (va_recv hK (gq_one (c := 2) (k := 0) hH rfl (gk_c2 cI cT ad (gk_sI (gk_sI (gk_sI u 5 (Int32.toNatClampNeg x1) x2) 6 0 (((gk_sI u 5 (Int32.toNatClampNeg x1) x2).1 6 0) + 1)) 8 0 1))) (ci := 1) (q0 := 0) rfl rfl)) rfl rfl hl.1 rfl (lv_room (Nat.le_of_ble_eq_true rfl)) gd_Lv_insert_97 ⟨Nat.zero_le _, Nat.zero_le _⟩) hA hS (fun H locs hH hS => ?_)
          refine lv_aload_n hx hb gd_Lv_insert_100 rfl (lv_at hl 0 rfl) ?_
          refine lv_iload_n hx hb gd_Lv_insert_101 rfl (lv_at hl 3 rfl) ?_
          obtain ⟨z13, hc14, hf⟩ := Option.bind_eq_some_iff.mp hf
          refine gq_calli (va_runV (As := [.int x3]) (rest := []) ⟨hx, hb, hml, hown, hts⟩ (ct_Lv_sizeOf l D cI cT ad hI z11 x3 z13 hc14) (cwV 1 hts (gt_V gt_193 gt_194 gt_195 gt_4 gt_196) rfl rfl rfl (by decide +kernel) ⟨Nat.le_of_ble_eq_true rfl, Nat.le_of_ble_eq_true rfl⟩) (gq_preV hH hK hN (va_recv hK (gq_one (c := 2) (k := 0) hH rfl (gk_c2 cI cT ad z11)) (ci := 1) (q0 := 0) rfl rfl)) rfl rfl hl.1 rfl (lv_room (Nat.le_of_ble_eq_true rfl)) gd_Lv_insert_102 ⟨Nat.zero_le _, Nat.zero_le _⟩) hA hS (fun H locs hH hS => ?_)
          refine lv_bipush (v := 8) hx hb gd_Lv_insert_105 (by decide) ?_
          refine lv_icmp_le (tgt := 115) hx hb gd_Lv_insert_107 (by decide) (fun c17 => ?_) (fun c17 => ?_)
          · replace hf := gj_t c17 hf
            cases hf
            exact W.vret hx hb hr (fun t ht hW => ⟨⟨_, rfl, rfl, ⟨by rw [ht]; exact hH, va_K.moved hW.alike hK⟩⟩, hS.F ht⟩) hS.2.2 gd_Lv_insert_115
          · replace hf := gj_e c17 hf
            refine lv_aload_n hx hb gd_Lv_insert_110 rfl (lv_at hl 0 rfl) ?_
            refine lv_iload_n hx hb gd_Lv_insert_111 rfl (lv_at hl 3 rfl) ?_
            obtain ⟨z15, hc16, hf⟩ := Option.bind_eq_some_iff.mp hf
            refine gq_callv (va_runV (As := [.int x3]) (rest := []) ⟨hx, hb, hml, hown, hts⟩ (ct_Lv_part l D cI cT ad hI z13.2 x3 z15 hc16) (cwV 1 hts (gt_V gt_204 gt_206 (gt_sel (List.mem_of_getElem? (i := 9) rfl)) gt_4 gt_207) rfl rfl rfl (by decide +kernel) ⟨Nat.le_of_ble_eq_true rfl, Nat.le_of_ble_eq_true rfl⟩) (gq_preV hH hK hN (va_recv hK (gq_one (c := 2) (k := 0) hH rfl (gk_c2 cI cT ad z13.2)) (ci := 1) (q0 := 0) rfl rfl)) rfl rfl hl.1 rfl (lv_room (Nat.le_of_ble_eq_true rfl)) gd_Lv_insert_112 ⟨Nat.zero_le _, Nat.zero_le _⟩) hA hS (fun H locs hH hS => ?_)
            cases hf
            exact W.vret hx hb hr (fun t ht hW => ⟨⟨_, rfl, rfl, ⟨by rw [ht]; exact hH, va_K.moved hW.alike hK⟩⟩, hS.F ht⟩) hS.2.2 gd_Lv_insert_115
      · replace hf := gj_e c21 hf
        refine lv_aload_n hx hb gd_Lv_insert_43 rfl (lv_at hl 0 rfl) ?_
        refine va_get (D := D) (ci := 1) (C := gR_Lv) (T := gT_Lv) (N := 4) hx hb hts (fun w h => List.mem_cons_of_mem _ (gl_Lv w h)) hown hK (gq_one (c := 2) (k := 0) hH rfl (gk_c2 cI cT ad u)) 0 rfl rfl 0 (by decide) (ht _ gt_69) (fun _ h9 => h9) rfl gd_Lv_insert_44 ?_
        refine lv_iload hx hb gd_Lv_insert_47 (lv_at hl 4 rfl) ?_
        refine lv_aload_n hx hb gd_Lv_insert_49 rfl (lv_at hl 0 rfl) ?_
        refine va_get (D := D) (ci := 1) (C := gR_Lv) (T := gT_Lv) (N := 4) hx hb hts (fun w h => List.mem_cons_of_mem _ (gl_Lv w h)) hown hK (gq_one (c := 2) (k := 0) hH rfl (gk_c2 cI cT ad u)) 0 rfl rfl 0 (by decide) (ht _ gt_69) (fun _ h9 => h9) rfl gd_Lv_insert_50 ?_
        refine lv_iload hx hb gd_Lv_insert_53 (lv_at hl 4 rfl) ?_
        refine lv_iconst (v := 1) hx hb gd_Lv_insert_55 (by decide) ?_
        refine lv_isub hx hb gd_Lv_insert_56 ?_
        obtain ⟨hg19, hf⟩ := gj_g hf
        refine va_iald (D := D) hx hb hK (gq_one (c := 3) (k := 0) hH rfl (gk_c3 cI cT ad u)) 0 0 rfl rfl hg19 gd_Lv_insert_57 ?_
        obtain ⟨hg20, hf⟩ := gj_g hf
        refine gq_iast (D := D) (ca := 3) (ka := 0) (pp' := gk_pc cI cT ad (gk_sI u 5 (Int32.toNatClampNeg x4) (u.1 5 (Int32.toNatClampNeg (x4 - 1))))) hx hb hK hH hI hA rfl (gk_c3 cI cT ad u) 0 rfl hg20 (gk_w5 cI cT ad u (Int32.toNatClampNeg x4) (u.1 5 (Int32.toNatClampNeg (x4 - 1)))) (gk_o5 cI cT ad u (Int32.toNatClampNeg x4) (u.1 5 (Int32.toNatClampNeg (x4 - 1)))) hS gd_Lv_insert_58 (fun H locs hH hS => ?_)
        refine lv_iinc (v := x4 + (-1)) (lv' := [(4, .int (x4 + (-1))), (0, .ref (ad 2 0)), (1, .int x1), (2, .int x2), (3, .int x3)]) hx hb gd_Lv_insert_59 hl (k := 4) rfl rfl (by decide) rfl (fun ls hl => ?_)
        refine lv_goto (tgt := 37) hx hb gd_Lv_insert_62 (by decide) ?_
        exact ih x1 x2 x3 (x4 + (-1)) (gk_sI u 5 (Int32.toNatClampNeg x4) (u.1 5 (Int32.toNatClampNeg (x4 - 1)))) _ _ _ hf hH hS (lv_sub hl [1, 2, 3, 4, 0] rfl)
  unfold fn_Lv_insert at hf
  refine lv_iload_n hx hb gd_Lv_insert_0 rfl (lv_at hl 1 rfl) ?_
  refine lv_if_lt (tgt := 24) hx hb gd_Lv_insert_1 (by decide) (fun c24 => ?_) (fun c24 => ?_)
  · replace hf := gj_t c24 hf
    cases hf
    exact W.vret hx hb hr (fun t ht hW => ⟨⟨_, rfl, rfl, ⟨by rw [ht]; exact hH, va_K.moved hW.alike hK⟩⟩, hS.F ht⟩) hS.2.2 gd_Lv_insert_24
  · replace hf := gj_e c24 hf
    refine lv_iload_n hx hb gd_Lv_insert_4 rfl (lv_at hl 1 rfl) ?_
    refine lv_aload_n hx hb gd_Lv_insert_5 rfl (lv_at hl 0 rfl) ?_
    refine va_get (D := D) (ci := 1) (C := gR_Lv) (T := gT_Lv) (N := 4) hx hb hts (fun w h => List.mem_cons_of_mem _ (gl_Lv w h)) hown hK (gq_one (c := 2) (k := 0) hH rfl (gk_c2 cI cT ad u)) 0 rfl rfl 1 (by decide) (ht _ gt_70) (fun _ h9 => h9) rfl gd_Lv_insert_6 ?_
    refine lv_icmp_gt (tgt := 24) hx hb gd_Lv_insert_9 (by decide) (fun c23 => ?_) (fun c23 => ?_)
    · replace hf := gj_t c23 hf
      cases hf
      exact W.vret hx hb hr (fun t ht hW => ⟨⟨_, rfl, rfl, ⟨by rw [ht]; exact hH, va_K.moved hW.alike hK⟩⟩, hS.F ht⟩) hS.2.2 gd_Lv_insert_24
    · replace hf := gj_e c23 hf
      refine lv_aload_n hx hb gd_Lv_insert_12 rfl (lv_at hl 0 rfl) ?_
      refine va_get (D := D) (ci := 1) (C := gR_Lv) (T := gT_Lv) (N := 4) hx hb hts (fun w h => List.mem_cons_of_mem _ (gl_Lv w h)) hown hK (gq_one (c := 2) (k := 0) hH rfl (gk_c2 cI cT ad u)) 0 rfl rfl 1 (by decide) (ht _ gt_70) (fun _ h9 => h9) rfl gd_Lv_insert_13 ?_
      refine lv_aload_n hx hb gd_Lv_insert_16 rfl (lv_at hl 0 rfl) ?_
      refine va_get (D := D) (ci := 1) (C := gR_Lv) (T := gT_Lv) (N := 4) hx hb hts (fun w h => List.mem_cons_of_mem _ (gl_Lv w h)) hown hK (gq_one (c := 2) (k := 0) hH rfl (gk_c2 cI cT ad u)) 0 rfl rfl 0 (by decide) (ht _ gt_69) (fun _ h9 => h9) rfl gd_Lv_insert_17 ?_
      refine va_alen (D := D) (v := 100) hx hb hK (gq_one (c := 3) (k := 0) hH rfl (gk_c3 cI cT ad u)) 0 0 rfl rfl rfl gd_Lv_insert_20 ?_
      refine lv_icmp_lt (tgt := 25) hx hb gd_Lv_insert_21 (by decide) (fun c22 => ?_) (fun c22 => ?_)
      · replace hf := gj_t c22 hf
        refine lv_aload_n hx hb gd_Lv_insert_25 rfl (lv_at hl 0 rfl) ?_
        refine lv_iload_n hx hb gd_Lv_insert_26 rfl (lv_at hl 1 rfl) ?_
        obtain ⟨z1, hc2, hf⟩ := Option.bind_eq_some_iff.mp hf
        refine gq_calli (va_runV (As := [.int p1]) (rest := []) ⟨hx, hb, hml, hown, hts⟩ (ct_Lv_leafOf l D cI cT ad hI u p1 z1 hc2) (cwV 1 hts (gt_V gt_189 gt_191 (gt_sel (List.mem_of_getElem? (i := 7) rfl)) gt_4 gt_192) rfl rfl rfl (by decide +kernel) ⟨Nat.le_of_ble_eq_true rfl, Nat.le_of_ble_eq_true rfl⟩) (gq_preV hH hK hN (va_recv hK (gq_one (c := 2) (k := 0) hH rfl (gk_c2 cI cT ad u)) (ci := 1) (q0 := 0) rfl rfl)) rfl rfl hl.1 rfl (lv_room (Nat.le_of_ble_eq_true rfl)) gd_Lv_insert_27 ⟨Nat.zero_le _, Nat.zero_le _⟩) hA hS (fun H locs hH hS => ?_)
        refine lv_istore_n (lv' := [(3, .int z1.1), (0, .ref (ad 2 0)), (1, .int p1), (2, .int p2)]) hx hb gd_Lv_insert_30 rfl hl (by decide) rfl (fun ls hl => ?_)
        refine lv_aload_n hx hb gd_Lv_insert_31 rfl (lv_at hl 1 rfl) ?_
        refine va_get (D := D) (ci := 1) (C := gR_Lv) (T := gT_Lv) (N := 4) hx hb hts (fun w h => List.mem_cons_of_mem _ (gl_Lv w h)) hown hK (gq_one (c := 2) (k := 0) hH rfl (gk_c2 cI cT ad z1.2)) 0 rfl rfl 1 (by decide) (ht _ gt_70) (fun _ h9 => h9) rfl gd_Lv_insert_32 ?_
        refine lv_istore (lv' := [(4, .int (z1.2.1 6 0)), (3, .int z1.1), (0, .ref (ad 2 0)), (1, .int p1), (2, .int p2)]) hx hb gd_Lv_insert_35 hl (by decide) rfl (fun ls hl => ?_)
        exact L37 gk_fu p1 p2 z1.1 (z1.2.1 6 0) z1.2 _ _ _ hf hH hS (lv_sub hl [2, 3, 4, 1, 0] rfl)
      · replace hf := gj_e c22 hf
        cases hf
        exact W.vret hx hb hr (fun t ht hW => ⟨⟨_, rfl, rfl, ⟨by rw [ht]; exact hH, va_K.moved hW.alike hK⟩⟩, hS.F ht⟩) hS.2.2 gd_Lv_insert_24
set_option maxHeartbeats 4000000 in
set_option maxRecDepth 100000 in
theorem ct_Bk_bringTape (l : Launch) (D : va_G) (cI cT : ClassId) (ad : Nat → Nat → Nat) (hI : gq_I gk_vd ad) (u : gk_St) (p1 : Int32) (p2 : Int32) (z : Int32 × gk_St) (hf : fn_Bk_bringTape p1 p2 u = some z) : Met l gy_Bk_bringTape gws_Bk_bringTape ({ frames := 3, cells := 0, slots := 0, locals := 68 }) (va_Pc [.ref (ad 0 0), .int p1, .int p2] (gq_pre D gc_cl (gk_tys cI cT) gk_vd ad gk_NF gk_NM (gk_pc cI cT ad u))) (va_Qi (fun r u2 => r = z.1 ∧ u2 = z.2) (fun u2 t => gq_B D gc_cl (gk_tys cI cT) gk_vd ad (gk_pc cI cT ad u2) t) (gq_A gk_vd ad)) 0 0 (gq_A gk_vd ad) := by
  refine Met.ofW (cc := gb_Bk_bringTape) (maxL := 4) (ret := (some .int)) (by decide) rfl ?_
  intro p e s m args below meth c s₁ B hml hv
  obtain ⟨rfl, hH, hK, hN⟩ := hv
  have hx := B.exec
  have hb := B.bytes
  have hr := B.returns
  have hts := atoms_spec (ws := gws_Bk_bringTape) B.pre
  have ht := fun (w : Cond) (h : w ∈ gt_T) => hts w (List.mem_cons_of_mem _ h)
  have hown : s.vm.findClass gR_Bk = some m.cls := findClass_of_methodNamed B.named
  have hlocks := B.notSynchronized
  have hA : ∀ q, (gq_A gk_vd ad) q → (gq_A gk_vd ad) q := fun _ h => h
  have hS : va_S (gq_A gk_vd ad) s.heap s.heap [] := va_S.rf
  have hl := lv_entry ([.ref (ad 0 0), .int p1, .int p2]) (n := 4) (Nat.le_of_ble_eq_true rfl)
  rw [lg_entry_eq]
  generalize (lg_sl ([.ref (ad 0 0), .int p1, .int p2]) ++ List.replicate (4 - (lg_sl ([.ref (ad 0 0), .int p1, .int p2])).length) Slot.unset).toArray = ls at hl ⊢
  have hl : lv_has ls 4 [(0, .ref (ad 0 0)), (1, .int p1), (2, .int p2)] := hl
  unfold fn_Bk_bringTape at hf
  refine lv_aload_n hx hb gd_Bk_bringTape_0 rfl (lv_at hl 0 rfl) ?_
  obtain ⟨z1, hc2, hf⟩ := Option.bind_eq_some_iff.mp hf
  refine gq_calli (va_runV (As := []) (rest := []) ⟨hx, hb, hml, hown, hts⟩ (ct_Bk_leastFree l D cI cT ad hI u  z1 hc2) (cwV 0 hts (gt_V gt_173 gt_175 (gt_sel (List.mem_of_getElem? (i := 6) rfl)) gt_1 gt_176) rfl rfl rfl (by decide +kernel) ⟨Nat.le_of_ble_eq_true rfl, Nat.le_of_ble_eq_true rfl⟩) (gq_preV hH hK hN (va_recv hK (gq_one (c := 0) (k := 0) hH rfl (gk_c0 cI cT ad u)) (ci := 0) (q0 := 0) rfl rfl)) rfl rfl hl.1 rfl (lv_room (Nat.le_of_ble_eq_true rfl)) gd_Bk_bringTape_1 ⟨Nat.zero_le _, Nat.zero_le _⟩) hA hS (fun H locs hH hS => ?_)
  refine lv_istore_n (lv' := [(3, .int z1.1), (0, .ref (ad 0 0)), (1, .int p1), (2, .int p2)]) hx hb gd_Bk_bringTape_4 rfl hl (by decide) rfl (fun ls hl => ?_)
  refine lv_iload_n hx hb gd_Bk_bringTape_5 rfl (lv_at hl 0 rfl) ?_
  refine lv_iconst (v := (-1)) hx hb gd_Bk_bringTape_6 (by decide) ?_
  refine lv_icmp_eq (tgt := 19) hx hb gd_Bk_bringTape_7 (by decide) (fun c9 => ?_) (fun c9 => ?_)
  · replace hf := gj_t c9 hf
    refine lv_iconst (v := (-1)) hx hb gd_Bk_bringTape_19 (by decide) ?_
    cases hf
    exact W.iret hx hb hr (fun t ht hW => ⟨⟨_, _, rfl, ⟨rfl, rfl⟩, ⟨by rw [ht]; exact hH, va_K.moved hW.alike hK⟩⟩, hS.F ht⟩) hS.2.2 gd_Bk_bringTape_20
  · replace hf := gj_e c9 hf
    refine lv_aload_n hx hb gd_Bk_bringTape_10 rfl (lv_at hl 1 rfl) ?_
    refine va_get (D := D) (ci := 0) (C := gR_Bk) (T := gT_Bk) (N := 5) hx hb hts (fun w h => List.mem_cons_of_mem _ (gl_Bk w h)) hown hK (gq_one (c := 0) (k := 0) hH rfl (gk_c0 cI cT ad z1.2)) 0 rfl rfl 1 (by decide) (ht _ gt_86) (fun _ h9 => h9) rfl gd_Bk_bringTape_11 ?_
    refine lv_iload_n hx hb gd_Bk_bringTape_14 rfl (lv_at hl 0 rfl) ?_
    obtain ⟨hg3, hf⟩ := gj_g hf
    refine va_aldq (D := D) hx hb hK (gq_one (c := 1) (k := 0) hH rfl (gk_c1 cI cT ad z1.2)) 0 1 rfl rfl hg3 gd_Bk_bringTape_15 ?_
    refine W.eq (g2 := F0 m 16 ls [.ref (ad 7 (Int32.toNatClampNeg z1.1))]) rfl ?_
    refine lv_ifnonnull (tgt := 21) hx hb gd_Bk_bringTape_16 (by decide) ?_
    refine lv_aload_n hx hb gd_Bk_bringTape_21 rfl (lv_at hl 1 rfl) ?_
    refine va_get (D := D) (ci := 0) (C := gR_Bk) (T := gT_Bk) (N := 5) hx hb hts (fun w h => List.mem_cons_of_mem _ (gl_Bk w h)) hown hK (gq_one (c := 0) (k := 0) hH rfl (gk_c0 cI cT ad z1.2)) 0 rfl rfl 1 (by decide) (ht _ gt_86) (fun _ h9 => h9) rfl gd_Bk_bringTape_22 ?_
    refine lv_iload_n hx hb gd_Bk_bringTape_25 rfl (lv_at hl 0 rfl) ?_
    obtain ⟨hg4, hf⟩ := gj_g hf
    refine va_aldq (D := D) hx hb hK (gq_one (c := 1) (k := 0) hH rfl (gk_c1 cI cT ad z1.2)) 0 1 rfl rfl hg4 gd_Bk_bringTape_26 ?_
    refine W.eq (g2 := F0 m 27 ls [.ref (ad 7 (Int32.toNatClampNeg z1.1))]) rfl ?_
    refine lv_iload_n hx hb gd_Bk_bringTape_27 rfl (lv_at hl 2 rfl) ?_
    refine lv_aload_n hx hb gd_Bk_bringTape_28 rfl (lv_at hl 1 rfl) ?_
    refine va_get (D := D) (ci := 0) (C := gR_Bk) (T := gT_Bk) (N := 5) hx hb hts (fun w h => List.mem_cons_of_mem _ (gl_Bk w h)) hown hK (gq_one (c := 0) (k := 0) hH rfl (gk_c0 cI cT ad z1.2)) 0 rfl rfl 0 (by decide) (ht _ gt_85) (fun _ h9 => h9) rfl gd_Bk_bringTape_29 ?_
    obtain ⟨z5, hc6, hf⟩ := Option.bind_eq_some_iff.mp hf
    refine gq_callv (va_runV (As := [.int p1, .ref (ad 6 100)]) (rest := []) ⟨hx, hb, hml, hown, hts⟩ (ct_Tm_comeAs l D cI cT ad hI z1.2 (Int32.toNatClampNeg z1.1) (gj_in_lt hg4) p1 100 (Nat.le_refl 100) z5 hc6) (cwV 2 hts (gt_V gt_177 gt_178 gt_179 gt_3 gt_180) rfl rfl rfl (by decide +kernel) ⟨Nat.le_of_ble_eq_true rfl, Nat.le_of_ble_eq_true rfl⟩) (gq_preV hH hK hN (va_recv hK (gq_one (c := 7) (k := (Int32.toNatClampNeg z1.1)) hH (gj_in_lt hg4) (gk_c7 cI cT ad z1.2 (Int32.toNatClampNeg z1.1))) (ci := 3) (q0 := 0) rfl rfl)) rfl rfl hl.1 rfl (lv_room (Nat.le_of_ble_eq_true rfl)) gd_Bk_bringTape_32 ⟨Nat.zero_le _, Nat.zero_le _⟩) hA hS (fun H locs hH hS => ?_)
    refine lv_aload_n hx hb gd_Bk_bringTape_35 rfl (lv_at hl 1 rfl) ?_
    refine va_get (D := D) (ci := 0) (C := gR_Bk) (T := gT_Bk) (N := 5) hx hb hts (fun w h => List.mem_cons_of_mem _ (gl_Bk w h)) hown hK (gq_one (c := 0) (k := 0) hH rfl (gk_c0 cI cT ad z5)) 0 rfl rfl 2 (by decide) (ht _ gt_87) (fun _ h9 => h9) rfl gd_Bk_bringTape_36 ?_
    refine lv_iload_n hx hb gd_Bk_bringTape_39 rfl (lv_at hl 3 rfl) ?_
    refine lv_iload_n hx hb gd_Bk_bringTape_40 rfl (lv_at hl 0 rfl) ?_
    obtain ⟨z7, hc8, hf⟩ := Option.bind_eq_some_iff.mp hf
    refine gq_callv (va_runV (As := [.int p2, .int z1.1]) (rest := []) ⟨hx, hb, hml, hown, hts⟩ (ct_Lv_insert l D cI cT ad hI z5 p2 z1.1 z7 hc8) (cwV 2 hts (gt_V gt_185 gt_186 gt_187 gt_4 gt_188) rfl rfl rfl (by decide +kernel) ⟨Nat.le_of_ble_eq_true rfl, Nat.le_of_ble_eq_true rfl⟩) (gq_preV hH hK hN (va_recv hK (gq_one (c := 2) (k := 0) hH rfl (gk_c2 cI cT ad z5)) (ci := 1) (q0 := 0) rfl rfl)) rfl rfl hl.1 rfl (lv_room (Nat.le_of_ble_eq_true rfl)) gd_Bk_bringTape_41 ⟨Nat.zero_le _, Nat.zero_le _⟩) hA hS (fun H locs hH hS => ?_)
    refine lv_iload_n hx hb gd_Bk_bringTape_44 rfl (lv_at hl 0 rfl) ?_
    cases hf
    exact W.iret hx hb hr (fun t ht hW => ⟨⟨_, _, rfl, ⟨rfl, rfl⟩, ⟨by rw [ht]; exact hH, va_K.moved hW.alike hK⟩⟩, hS.F ht⟩) hS.2.2 gd_Bk_bringTape_45
set_option maxHeartbeats 4000000 in
set_option maxRecDepth 100000 in
theorem ct_Bk_useTape (l : Launch) (D : va_G) (cI cT : ClassId) (ad : Nat → Nat → Nat) (hI : gq_I gk_vd ad) (u : gk_St) (p1 : Int32) (z : Int32 × gk_St) (hf : fn_Bk_useTape p1 u = some z) : Met l gy_Bk_useTape gws_Bk_useTape ({ frames := 5, cells := 0, slots := 0, locals := 111 }) (va_Pc [.ref (ad 0 0), .int p1] (gq_pre D gc_cl (gk_tys cI cT) gk_vd ad gk_NF gk_NM (gk_pc cI cT ad u))) (va_Qi (fun r u2 => r = z.1 ∧ u2 = z.2) (fun u2 t => gq_B D gc_cl (gk_tys cI cT) gk_vd ad (gk_pc cI cT ad u2) t) (gq_A gk_vd ad)) 0 0 (gq_A gk_vd ad) := by
  refine Met.ofW (cc := gb_Bk_useTape) (maxL := 5) (ret := (some .int)) (by decide) rfl ?_
  intro p e s m args below meth c s₁ B hml hv
  obtain ⟨rfl, hH, hK, hN⟩ := hv
  have hx := B.exec
  have hb := B.bytes
  have hr := B.returns
  have hts := atoms_spec (ws := gws_Bk_useTape) B.pre
  have ht := fun (w : Cond) (h : w ∈ gt_T) => hts w (List.mem_cons_of_mem _ h)
  have hown : s.vm.findClass gR_Bk = some m.cls := findClass_of_methodNamed B.named
  have hlocks := B.notSynchronized
  have hA : ∀ q, (gq_A gk_vd ad) q → (gq_A gk_vd ad) q := fun _ h => h
  have hS : va_S (gq_A gk_vd ad) s.heap s.heap [] := va_S.rf
  have hl := lv_entry ([.ref (ad 0 0), .int p1]) (n := 5) (Nat.le_of_ble_eq_true rfl)
  rw [lg_entry_eq]
  generalize (lg_sl ([.ref (ad 0 0), .int p1]) ++ List.replicate (5 - (lg_sl ([.ref (ad 0 0), .int p1])).length) Slot.unset).toArray = ls at hl ⊢
  have hl : lv_has ls 5 [(0, .ref (ad 0 0)), (1, .int p1)] := hl
  unfold fn_Bk_useTape at hf
  refine lv_aload_n hx hb gd_Bk_useTape_0 rfl (lv_at hl 0 rfl) ?_
  refine lv_iload_n hx hb gd_Bk_useTape_1 rfl (lv_at hl 1 rfl) ?_
  obtain ⟨z1, hc2, hf⟩ := Option.bind_eq_some_iff.mp hf
  refine gq_calli (va_runV (As := [.int p1]) (rest := []) ⟨hx, hb, hml, hown, hts⟩ (ct_Bk_placeOfTape l D cI cT ad hI u p1 z1 hc2) (cwV 1 hts (gt_V gt_135 gt_137 (gt_sel (List.mem_of_getElem? (i := 1) rfl)) gt_1 gt_138) rfl rfl rfl (by decide +kernel) ⟨Nat.le_of_ble_eq_true rfl, Nat.le_of_ble_eq_true rfl⟩) (gq_preV hH hK hN (va_recv hK (gq_one (c := 0) (k := 0) hH rfl (gk_c0 cI cT ad u)) (ci := 0) (q0 := 0) rfl rfl)) rfl rfl hl.1 rfl (lv_room (Nat.le_of_ble_eq_true rfl)) gd_Bk_useTape_2 ⟨Nat.zero_le _, Nat.zero_le _⟩) hA hS (fun H locs hH hS => ?_)
  refine lv_istore_n (lv' := [(2, .int z1.1), (0, .ref (ad 0 0)), (1, .int p1)]) hx hb gd_Bk_useTape_5 rfl hl (by decide) rfl (fun ls hl => ?_)
  refine lv_aload_n hx hb gd_Bk_useTape_6 rfl (lv_at hl 1 rfl) ?_
  refine va_get (D := D) (ci := 0) (C := gR_Bk) (T := gT_Bk) (N := 5) hx hb hts (fun w h => List.mem_cons_of_mem _ (gl_Bk w h)) hown hK (gq_one (c := 0) (k := 0) hH rfl (gk_c0 cI cT ad z1.2)) 0 rfl rfl 2 (by decide) (ht _ gt_87) (fun _ h9 => h9) rfl gd_Bk_useTape_7 ?_
  refine lv_iload_n hx hb gd_Bk_useTape_10 rfl (lv_at hl 0 rfl) ?_
  obtain ⟨z3, hc4, hf⟩ := Option.bind_eq_some_iff.mp hf
  refine gq_calli (va_runV (As := [.int z1.1]) (rest := []) ⟨hx, hb, hml, hown, hts⟩ (ct_Lv_numberAt l D cI cT ad hI z1.2 z1.1 z3 hc4) (cwV 1 hts (gt_V gt_139 gt_140 gt_141 gt_4 gt_142) rfl rfl rfl (by decide +kernel) ⟨Nat.le_of_ble_eq_true rfl, Nat.le_of_ble_eq_true rfl⟩) (gq_preV hH hK hN (va_recv hK (gq_one (c := 2) (k := 0) hH rfl (gk_c2 cI cT ad z1.2)) (ci := 1) (q0 := 0) rfl rfl)) rfl rfl hl.1 rfl (lv_room (Nat.le_of_ble_eq_true rfl)) gd_Bk_useTape_11 ⟨Nat.zero_le _, Nat.zero_le _⟩) hA hS (fun H locs hH hS => ?_)
  refine lv_istore_n (lv' := [(3, .int z3.1), (2, .int z1.1), (0, .ref (ad 0 0)), (1, .int p1)]) hx hb gd_Bk_useTape_14 rfl hl (by decide) rfl (fun ls hl => ?_)
  refine lv_aload_n hx hb gd_Bk_useTape_15 rfl (lv_at hl 2 rfl) ?_
  refine lv_iload_n hx hb gd_Bk_useTape_16 rfl (lv_at hl 0 rfl) ?_
  refine lv_iload_n hx hb gd_Bk_useTape_17 rfl (lv_at hl 3 rfl) ?_
  obtain ⟨z5, hc6, hf⟩ := Option.bind_eq_some_iff.mp hf
  refine gq_calli (va_runV (As := [.int z3.1, .int p1]) (rest := []) ⟨hx, hb, hml, hown, hts⟩ (ct_Bk_isTape l D cI cT ad hI z3.2 z3.1 p1 z5 hc6) (cwV 2 hts (gt_V gt_165 gt_167 (gt_sel (List.mem_of_getElem? (i := 4) rfl)) gt_1 gt_168) rfl rfl rfl (by decide +kernel) ⟨Nat.le_of_ble_eq_true rfl, Nat.le_of_ble_eq_true rfl⟩) (gq_preV hH hK hN (va_recv hK (gq_one (c := 0) (k := 0) hH rfl (gk_c0 cI cT ad z3.2)) (ci := 0) (q0 := 0) rfl rfl)) rfl rfl hl.1 rfl (lv_room (Nat.le_of_ble_eq_true rfl)) gd_Bk_useTape_18 ⟨Nat.zero_le _, Nat.zero_le _⟩) hA hS (fun H locs hH hS => ?_)
  refine lv_if_ne (tgt := 31) hx hb gd_Bk_useTape_21 (by decide) (fun c19 => ?_) (fun c19 => ?_)
  · replace hf := gj_e c19 hf
    refine lv_aload_n hx hb gd_Bk_useTape_31 rfl (lv_at hl 2 rfl) ?_
    refine lv_iload_n hx hb gd_Bk_useTape_32 rfl (lv_at hl 0 rfl) ?_
    obtain ⟨⟨o9, u10⟩, hc8, hf⟩ := Option.bind_eq_some_iff.mp hf
    refine gq_calle (va_runV (As := [.int z3.1]) (rest := []) ⟨hx, hb, hml, hown, hts⟩ (ct_Bk_inBook l D cI cT ad hI z5.2 z3.1 (o9, u10) hc8) (cwV 1 hts (gt_V gt_147 gt_149 (gt_sel (List.mem_of_getElem? (i := 3) rfl)) gt_1 gt_150) rfl rfl rfl (by decide +kernel) ⟨Nat.le_of_ble_eq_true rfl, Nat.le_of_ble_eq_true rfl⟩) (gq_preV hH hK hN (va_recv hK (gq_one (c := 0) (k := 0) hH rfl (gk_c0 cI cT ad z5.2)) (ci := 0) (q0 := 0) rfl rfl)) rfl rfl hl.1 rfl (lv_room (Nat.le_of_ble_eq_true rfl)) gd_Bk_useTape_33 ⟨Nat.zero_le _, Nat.zero_le _⟩) hA hS (fun H locs hH hS => ?_)
    cases o9 with
    | none =>
      have hH : gq_H D gc_cl gk_vd ad (gk_pc cI cT ad u10) H := hH
      refine W.eq (g2 := F0 m 36 ls [.null]) rfl ?_
      dsimp only at hf
      refine lv_astoreN (lv' := [(4, .null), (3, .int z3.1), (2, .int z1.1), (0, .ref (ad 0 0)), (1, .int p1)]) hx hb gd_Bk_useTape_36 hl (by decide) rfl (fun ls hl => ?_)
      refine lv_aloadN hx hb gd_Bk_useTape_38 (lv_at hl 0 rfl) ?_
      refine lv_ifnonnullN hx hb gd_Bk_useTape_40 ?_
      refine lv_bipush (v := (-3)) hx hb gd_Bk_useTape_43 (by decide) ?_
      cases hf
      exact W.iret hx hb hr (fun t ht hW => ⟨⟨_, _, rfl, ⟨rfl, rfl⟩, ⟨by rw [ht]; exact hH, va_K.moved hW.alike hK⟩⟩, hS.F ht⟩) hS.2.2 gd_Bk_useTape_45
    | some k11 =>
      have hH : gq_H D gc_cl gk_vd ad (gk_pc cI cT ad u10) H := hH
      refine W.eq (g2 := F0 m 36 ls [.ref (ad 7 k11)]) rfl ?_
      dsimp only at hf
      refine lv_astore (lv' := [(4, .ref (ad 7 k11)), (3, .int z3.1), (2, .int z1.1), (0, .ref (ad 0 0)), (1, .int p1)]) hx hb gd_Bk_useTape_36 hl (by decide) rfl (fun ls hl => ?_)
      refine lv_aload hx hb gd_Bk_useTape_38 (lv_at hl 0 rfl) ?_
      refine lv_ifnonnull (tgt := 46) hx hb gd_Bk_useTape_40 (by decide) ?_
      refine lv_aload hx hb gd_Bk_useTape_46 (lv_at hl 0 rfl) ?_
      refine lv_dup hx hb gd_Bk_useTape_48 rfl ?_
      refine va_getN (D := D) (ci := 3) (C := gR_Tm) (T := gT_Tm) (N := 5) hx hb hts (fun w h => List.mem_cons_of_mem _ (gl_Tm w h)) hown hK (gq_one (c := 7) (k := k11) hH (ok_Bk_inBook hc8) (gk_c7 cI cT ad u10 k11)) 0 rfl rfl 3 (by decide) (va_Nw.use rfl (hN.1 _ (List.mem_of_getElem? (i := 4) rfl))) (fun _ h9 => h9) rfl gd_Bk_useTape_49 ?_
      refine lv_iconst (v := 1) hx hb gd_Bk_useTape_52 (by decide) ?_
      refine lv_iadd hx hb gd_Bk_useTape_53 ?_
      refine gq_putN (D := D) (ci := 3) (C := gR_Tm) (T := gT_Tm) (N := 5) (ca := 7) (ka := k11) (pp' := gk_pc cI cT ad (gk_sI u10 3 k11 ((u10.1 3 k11) + 1))) (ty := .int) hx hb hts (fun w h => List.mem_cons_of_mem _ (gl_Tm w h)) gF_Tm gf_Tm gn_Tm hown hK hH hI hA (ok_Bk_inBook hc8) (gk_c7 cI cT ad u10 k11) rfl 3 (by decide) (va_Nw.use rfl (hN.1 _ (List.mem_of_getElem? (i := 4) rfl))) (fun _ h9 => h9) rfl (by decide +kernel) rfl rfl (Nat.le_of_ble_eq_true rfl) (gk_w3 cI cT ad u10 k11 ((u10.1 3 k11) + 1)) (gk_o3 cI cT ad u10 k11 ((u10.1 3 k11) + 1)) hS gd_Bk_useTape_54 (fun H locs hH hS => ?_)
      refine lv_iload_n hx hb gd_Bk_useTape_57 rfl (lv_at hl 1 rfl) ?_
      cases hf
      exact W.iret hx hb hr (fun t ht hW => ⟨⟨_, _, rfl, ⟨rfl, rfl⟩, ⟨by rw [ht]; exact hH, va_K.moved hW.alike hK⟩⟩, hS.F ht⟩) hS.2.2 gd_Bk_useTape_58
  · replace hf := gj_t c19 hf
    refine lv_aload_n hx hb gd_Bk_useTape_24 rfl (lv_at hl 2 rfl) ?_
    refine lv_iload_n hx hb gd_Bk_useTape_25 rfl (lv_at hl 3 rfl) ?_
    refine lv_iload_n hx hb gd_Bk_useTape_26 rfl (lv_at hl 1 rfl) ?_
    obtain ⟨z12, hc13, hf⟩ := Option.bind_eq_some_iff.mp hf
    refine gq_calli (va_runV (As := [.int p1, .int z1.1]) (rest := []) ⟨hx, hb, hml, hown, hts⟩ (ct_Bk_bringTape l D cI cT ad hI z5.2 p1 z1.1 z12 hc13) (cwV 2 hts (gt_V gt_169 gt_171 (gt_sel (List.mem_of_getElem? (i := 5) rfl)) gt_1 gt_172) rfl rfl rfl (by decide +kernel) ⟨Nat.le_of_ble_eq_true rfl, Nat.le_of_ble_eq_true rfl⟩) (gq_preV hH hK hN (va_recv hK (gq_one (c := 0) (k := 0) hH rfl (gk_c0 cI cT ad z5.2)) (ci := 0) (q0 := 0) rfl rfl)) rfl rfl hl.1 rfl (lv_room (Nat.le_of_ble_eq_true rfl)) gd_Bk_useTape_27 ⟨Nat.zero_le _, Nat.zero_le _⟩) hA hS (fun H locs hH hS => ?_)
    refine lv_istore_n (lv' := [(3, .int z12.1), (2, .int z1.1), (0, .ref (ad 0 0)), (1, .int p1)]) hx hb gd_Bk_useTape_30 rfl hl (by decide) rfl (fun ls hl => ?_)
    refine lv_aload_n hx hb gd_Bk_useTape_31 rfl (lv_at hl 2 rfl) ?_
    refine lv_iload_n hx hb gd_Bk_useTape_32 rfl (lv_at hl 0 rfl) ?_
    obtain ⟨⟨o16, u17⟩, hc15, hf⟩ := Option.bind_eq_some_iff.mp hf
    refine gq_calle (va_runV (As := [.int z12.1]) (rest := []) ⟨hx, hb, hml, hown, hts⟩ (ct_Bk_inBook l D cI cT ad hI z12.2 z12.1 (o16, u17) hc15) (cwV 1 hts (gt_V gt_147 gt_149 (gt_sel (List.mem_of_getElem? (i := 3) rfl)) gt_1 gt_150) rfl rfl rfl (by decide +kernel) ⟨Nat.le_of_ble_eq_true rfl, Nat.le_of_ble_eq_true rfl⟩) (gq_preV hH hK hN (va_recv hK (gq_one (c := 0) (k := 0) hH rfl (gk_c0 cI cT ad z12.2)) (ci := 0) (q0 := 0) rfl rfl)) rfl rfl hl.1 rfl (lv_room (Nat.le_of_ble_eq_true rfl)) gd_Bk_useTape_33 ⟨Nat.zero_le _, Nat.zero_le _⟩) hA hS (fun H locs hH hS => ?_)
    cases o16 with
    | none =>
      have hH : gq_H D gc_cl gk_vd ad (gk_pc cI cT ad u17) H := hH
      refine W.eq (g2 := F0 m 36 ls [.null]) rfl ?_
      dsimp only at hf
      refine lv_astoreN (lv' := [(4, .null), (3, .int z12.1), (2, .int z1.1), (0, .ref (ad 0 0)), (1, .int p1)]) hx hb gd_Bk_useTape_36 hl (by decide) rfl (fun ls hl => ?_)
      refine lv_aloadN hx hb gd_Bk_useTape_38 (lv_at hl 0 rfl) ?_
      refine lv_ifnonnullN hx hb gd_Bk_useTape_40 ?_
      refine lv_bipush (v := (-3)) hx hb gd_Bk_useTape_43 (by decide) ?_
      cases hf
      exact W.iret hx hb hr (fun t ht hW => ⟨⟨_, _, rfl, ⟨rfl, rfl⟩, ⟨by rw [ht]; exact hH, va_K.moved hW.alike hK⟩⟩, hS.F ht⟩) hS.2.2 gd_Bk_useTape_45
    | some k18 =>
      have hH : gq_H D gc_cl gk_vd ad (gk_pc cI cT ad u17) H := hH
      refine W.eq (g2 := F0 m 36 ls [.ref (ad 7 k18)]) rfl ?_
      dsimp only at hf
      refine lv_astore (lv' := [(4, .ref (ad 7 k18)), (3, .int z12.1), (2, .int z1.1), (0, .ref (ad 0 0)), (1, .int p1)]) hx hb gd_Bk_useTape_36 hl (by decide) rfl (fun ls hl => ?_)
      refine lv_aload hx hb gd_Bk_useTape_38 (lv_at hl 0 rfl) ?_
      refine lv_ifnonnull (tgt := 46) hx hb gd_Bk_useTape_40 (by decide) ?_
      refine lv_aload hx hb gd_Bk_useTape_46 (lv_at hl 0 rfl) ?_
      refine lv_dup hx hb gd_Bk_useTape_48 rfl ?_
      refine va_getN (D := D) (ci := 3) (C := gR_Tm) (T := gT_Tm) (N := 5) hx hb hts (fun w h => List.mem_cons_of_mem _ (gl_Tm w h)) hown hK (gq_one (c := 7) (k := k18) hH (ok_Bk_inBook hc15) (gk_c7 cI cT ad u17 k18)) 0 rfl rfl 3 (by decide) (va_Nw.use rfl (hN.1 _ (List.mem_of_getElem? (i := 4) rfl))) (fun _ h9 => h9) rfl gd_Bk_useTape_49 ?_
      refine lv_iconst (v := 1) hx hb gd_Bk_useTape_52 (by decide) ?_
      refine lv_iadd hx hb gd_Bk_useTape_53 ?_
      refine gq_putN (D := D) (ci := 3) (C := gR_Tm) (T := gT_Tm) (N := 5) (ca := 7) (ka := k18) (pp' := gk_pc cI cT ad (gk_sI u17 3 k18 ((u17.1 3 k18) + 1))) (ty := .int) hx hb hts (fun w h => List.mem_cons_of_mem _ (gl_Tm w h)) gF_Tm gf_Tm gn_Tm hown hK hH hI hA (ok_Bk_inBook hc15) (gk_c7 cI cT ad u17 k18) rfl 3 (by decide) (va_Nw.use rfl (hN.1 _ (List.mem_of_getElem? (i := 4) rfl))) (fun _ h9 => h9) rfl (by decide +kernel) rfl rfl (Nat.le_of_ble_eq_true rfl) (gk_w3 cI cT ad u17 k18 ((u17.1 3 k18) + 1)) (gk_o3 cI cT ad u17 k18 ((u17.1 3 k18) + 1)) hS gd_Bk_useTape_54 (fun H locs hH hS => ?_)
      refine lv_iload_n hx hb gd_Bk_useTape_57 rfl (lv_at hl 1 rfl) ?_
      cases hf
      exact W.iret hx hb hr (fun t ht hW => ⟨⟨_, _, rfl, ⟨rfl, rfl⟩, ⟨by rw [ht]; exact hH, va_K.moved hW.alike hK⟩⟩, hS.F ht⟩) hS.2.2 gd_Bk_useTape_58
set_option maxHeartbeats 4000000 in
set_option maxRecDepth 100000 in
theorem ct_Bk_add (l : Launch) (D : va_G) (cI cT : ClassId) (ad : Nat → Nat → Nat) (hI : gq_I gk_vd ad) (u : gk_St) (p1 : Int32) (z : Int32 × gk_St) (hf : fn_Bk_add p1 u = some z) : Met l gy_Bk_add gws_Bk_add ({ frames := 6, cells := 0, slots := 0, locals := 135 }) (va_Pc [.ref (ad 0 0), .int p1] (gq_pre D gc_cl (gk_tys cI cT) gk_vd ad gk_NF gk_NM (gk_pc cI cT ad u))) (va_Qi (fun r u2 => r = z.1 ∧ u2 = z.2) (fun u2 t => gq_B D gc_cl (gk_tys cI cT) gk_vd ad (gk_pc cI cT ad u2) t) (gq_A gk_vd ad)) 0 0 (gq_A gk_vd ad) := by
  refine Met.ofW (cc := gb_Bk_add) (maxL := 3) (ret := (some .int)) (by decide) rfl ?_
  intro p e s m args below meth c s₁ B hml hv
  obtain ⟨rfl, hH, hK, hN⟩ := hv
  have hx := B.exec
  have hb := B.bytes
  have hr := B.returns
  have hts := atoms_spec (ws := gws_Bk_add) B.pre
  have ht := fun (w : Cond) (h : w ∈ gt_T) => hts w (List.mem_cons_of_mem _ h)
  have hown : s.vm.findClass gR_Bk = some m.cls := findClass_of_methodNamed B.named
  have hlocks := B.notSynchronized
  have hA : ∀ q, (gq_A gk_vd ad) q → (gq_A gk_vd ad) q := fun _ h => h
  have hS : va_S (gq_A gk_vd ad) s.heap s.heap [] := va_S.rf
  have hl := lv_entry ([.ref (ad 0 0), .int p1]) (n := 3) (Nat.le_of_ble_eq_true rfl)
  rw [lg_entry_eq]
  generalize (lg_sl ([.ref (ad 0 0), .int p1]) ++ List.replicate (3 - (lg_sl ([.ref (ad 0 0), .int p1])).length) Slot.unset).toArray = ls at hl ⊢
  have hl : lv_has ls 3 [(0, .ref (ad 0 0)), (1, .int p1)] := hl
  unfold fn_Bk_add at hf
  refine lv_iload_n hx hb gd_Bk_add_0 rfl (lv_at hl 1 rfl) ?_
  obtain ⟨z1, hc2, hf⟩ := Option.bind_eq_some_iff.mp hf
  refine gq_calli (va_runS (As := [.int p1]) (rest := []) ⟨hx, hb, hml, hown, hts⟩ (ct_Bk_isKind l D cI cT ad hI u p1 z1 hc2) (va_cwS 1 hts (gt_S gt_128 gt_129 gt_1 gt_130) rfl rfl rfl (by decide +kernel) ⟨Nat.le_of_ble_eq_true rfl, Nat.le_of_ble_eq_true rfl⟩) (gq_preS hH hK hN) rfl rfl hl.1 rfl (lv_room (Nat.le_of_ble_eq_true rfl)) gd_Bk_add_1 ⟨Nat.zero_le _, Nat.zero_le _⟩) hA hS (fun H locs hH hS => ?_)
  refine lv_if_eq (tgt := 25) hx hb gd_Bk_add_4 (by decide) (fun c12 => ?_) (fun c12 => ?_)
  · replace hf := gj_t c12 hf
    refine lv_iconst (v := (-1)) hx hb gd_Bk_add_25 (by decide) ?_
    refine lv_istore_n (lv' := [(2, .int (-1)), (0, .ref (ad 0 0)), (1, .int p1)]) hx hb gd_Bk_add_26 rfl hl (by decide) rfl (fun ls hl => ?_)
    refine lv_aload_n hx hb gd_Bk_add_27 rfl (lv_at hl 1 rfl) ?_
    refine va_get (D := D) (ci := 0) (C := gR_Bk) (T := gT_Bk) (N := 5) hx hb hts (fun w h => List.mem_cons_of_mem _ (gl_Bk w h)) hown hK (gq_one (c := 0) (k := 0) hH rfl (gk_c0 cI cT ad z1.2)) 0 rfl rfl 0 (by decide) (ht _ gt_85) (fun _ h9 => h9) rfl gd_Bk_add_28 ?_
    obtain ⟨z3, hc4, hf⟩ := Option.bind_eq_some_iff.mp hf
    refine gq_callv (va_runV (As := []) (rest := []) ⟨hx, hb, hml, hown, hts⟩ (ct_Tx_empty l D cI cT ad hI z1.2 100 (Nat.le_refl 100) z3 hc4) (cwV 0 hts (gt_V gt_120 gt_121 gt_122 gt_2 gt_123) rfl rfl rfl (by decide +kernel) ⟨Nat.le_of_ble_eq_true rfl, Nat.le_of_ble_eq_true rfl⟩) (gq_preV hH hK hN (va_recv hK (gq_one (c := 6) (k := 100) hH (Nat.le_refl 100) (gk_c6 cI cT ad z1.2 100)) (ci := 2) (q0 := 0) rfl rfl)) rfl rfl hl.1 rfl (lv_room (Nat.le_of_ble_eq_true rfl)) gd_Bk_add_31 ⟨Nat.zero_le _, Nat.zero_le _⟩) hA hS (fun H locs hH hS => ?_)
    refine lv_iload_n hx hb gd_Bk_add_34 rfl (lv_at hl 0 rfl) ?_
    cases hf
    exact W.iret hx hb hr (fun t ht hW => ⟨⟨_, _, rfl, ⟨rfl, rfl⟩, ⟨by rw [ht]; exact hH, va_K.moved hW.alike hK⟩⟩, hS.F ht⟩) hS.2.2 gd_Bk_add_35
  · replace hf := gj_e c12 hf
    refine lv_aload_n hx hb gd_Bk_add_7 rfl (lv_at hl 0 rfl) ?_
    refine va_get (D := D) (ci := 0) (C := gR_Bk) (T := gT_Bk) (N := 5) hx hb hts (fun w h => List.mem_cons_of_mem _ (gl_Bk w h)) hown hK (gq_one (c := 0) (k := 0) hH rfl (gk_c0 cI cT ad z1.2)) 0 rfl rfl 0 (by decide) (ht _ gt_85) (fun _ h9 => h9) rfl gd_Bk_add_8 ?_
    refine va_getN (D := D) (ci := 2) (C := gR_Tx) (T := gT_Tx) (N := 3) hx hb hts (fun w h => List.mem_cons_of_mem _ (gl_Tx w h)) hown hK (gq_one (c := 6) (k := 100) hH (Nat.le_refl 100) (gk_c6 cI cT ad z1.2 100)) 0 rfl rfl 2 (by decide) (va_Nw.use rfl (hN.1 _ (List.mem_of_getElem? (i := 0) rfl))) (fun _ h9 => h9) rfl gd_Bk_add_11 ?_
    refine lv_if_le (tgt := 25) hx hb gd_Bk_add_14 (by decide) (fun c11 => ?_) (fun c11 => ?_)
    · replace hf := gj_t c11 hf
      refine lv_iconst (v := (-1)) hx hb gd_Bk_add_25 (by decide) ?_
      refine lv_istore_n (lv' := [(2, .int (-1)), (0, .ref (ad 0 0)), (1, .int p1)]) hx hb gd_Bk_add_26 rfl hl (by decide) rfl (fun ls hl => ?_)
      refine lv_aload_n hx hb gd_Bk_add_27 rfl (lv_at hl 1 rfl) ?_
      refine va_get (D := D) (ci := 0) (C := gR_Bk) (T := gT_Bk) (N := 5) hx hb hts (fun w h => List.mem_cons_of_mem _ (gl_Bk w h)) hown hK (gq_one (c := 0) (k := 0) hH rfl (gk_c0 cI cT ad z1.2)) 0 rfl rfl 0 (by decide) (ht _ gt_85) (fun _ h9 => h9) rfl gd_Bk_add_28 ?_
      obtain ⟨z5, hc6, hf⟩ := Option.bind_eq_some_iff.mp hf
      refine gq_callv (va_runV (As := []) (rest := []) ⟨hx, hb, hml, hown, hts⟩ (ct_Tx_empty l D cI cT ad hI z1.2 100 (Nat.le_refl 100) z5 hc6) (cwV 0 hts (gt_V gt_120 gt_121 gt_122 gt_2 gt_123) rfl rfl rfl (by decide +kernel) ⟨Nat.le_of_ble_eq_true rfl, Nat.le_of_ble_eq_true rfl⟩) (gq_preV hH hK hN (va_recv hK (gq_one (c := 6) (k := 100) hH (Nat.le_refl 100) (gk_c6 cI cT ad z1.2 100)) (ci := 2) (q0 := 0) rfl rfl)) rfl rfl hl.1 rfl (lv_room (Nat.le_of_ble_eq_true rfl)) gd_Bk_add_31 ⟨Nat.zero_le _, Nat.zero_le _⟩) hA hS (fun H locs hH hS => ?_)
      refine lv_iload_n hx hb gd_Bk_add_34 rfl (lv_at hl 0 rfl) ?_
      cases hf
      exact W.iret hx hb hr (fun t ht hW => ⟨⟨_, _, rfl, ⟨rfl, rfl⟩, ⟨by rw [ht]; exact hH, va_K.moved hW.alike hK⟩⟩, hS.F ht⟩) hS.2.2 gd_Bk_add_35
    · replace hf := gj_e c11 hf
      refine lv_aload_n hx hb gd_Bk_add_17 rfl (lv_at hl 0 rfl) ?_
      refine lv_iload_n hx hb gd_Bk_add_18 rfl (lv_at hl 1 rfl) ?_
      obtain ⟨z7, hc8, hf⟩ := Option.bind_eq_some_iff.mp hf
      refine gq_calli (va_runV (As := [.int p1]) (rest := []) ⟨hx, hb, hml, hown, hts⟩ (ct_Bk_useTape l D cI cT ad hI z1.2 p1 z7 hc8) (cwV 1 hts (gt_V gt_131 gt_133 (gt_sel (List.mem_of_getElem? (i := 0) rfl)) gt_1 gt_134) rfl rfl rfl (by decide +kernel) ⟨Nat.le_of_ble_eq_true rfl, Nat.le_of_ble_eq_true rfl⟩) (gq_preV hH hK hN (va_recv hK (gq_one (c := 0) (k := 0) hH rfl (gk_c0 cI cT ad z1.2)) (ci := 0) (q0 := 0) rfl rfl)) rfl rfl hl.1 rfl (lv_room (Nat.le_of_ble_eq_true rfl)) gd_Bk_add_19 ⟨Nat.zero_le _, Nat.zero_le _⟩) hA hS (fun H locs hH hS => ?_)
      refine lv_goto (tgt := 26) hx hb gd_Bk_add_22 (by decide) ?_
      refine lv_istore_n (lv' := [(2, .int z7.1), (0, .ref (ad 0 0)), (1, .int p1)]) hx hb gd_Bk_add_26 rfl hl (by decide) rfl (fun ls hl => ?_)
      refine lv_aload_n hx hb gd_Bk_add_27 rfl (lv_at hl 1 rfl) ?_
      refine va_get (D := D) (ci := 0) (C := gR_Bk) (T := gT_Bk) (N := 5) hx hb hts (fun w h => List.mem_cons_of_mem _ (gl_Bk w h)) hown hK (gq_one (c := 0) (k := 0) hH rfl (gk_c0 cI cT ad z7.2)) 0 rfl rfl 0 (by decide) (ht _ gt_85) (fun _ h9 => h9) rfl gd_Bk_add_28 ?_
      obtain ⟨z9, hc10, hf⟩ := Option.bind_eq_some_iff.mp hf
      refine gq_callv (va_runV (As := []) (rest := []) ⟨hx, hb, hml, hown, hts⟩ (ct_Tx_empty l D cI cT ad hI z7.2 100 (Nat.le_refl 100) z9 hc10) (cwV 0 hts (gt_V gt_120 gt_121 gt_122 gt_2 gt_123) rfl rfl rfl (by decide +kernel) ⟨Nat.le_of_ble_eq_true rfl, Nat.le_of_ble_eq_true rfl⟩) (gq_preV hH hK hN (va_recv hK (gq_one (c := 6) (k := 100) hH (Nat.le_refl 100) (gk_c6 cI cT ad z7.2 100)) (ci := 2) (q0 := 0) rfl rfl)) rfl rfl hl.1 rfl (lv_room (Nat.le_of_ble_eq_true rfl)) gd_Bk_add_31 ⟨Nat.zero_le _, Nat.zero_le _⟩) hA hS (fun H locs hH hS => ?_)
      refine lv_iload_n hx hb gd_Bk_add_34 rfl (lv_at hl 0 rfl) ?_
      cases hf
      exact W.iret hx hb hr (fun t ht hW => ⟨⟨_, _, rfl, ⟨rfl, rfl⟩, ⟨by rw [ht]; exact hH, va_K.moved hW.alike hK⟩⟩, hS.F ht⟩) hS.2.2 gd_Bk_add_35
set_option maxHeartbeats 4000000 in
set_option maxRecDepth 100000 in
theorem ct_Tm_isNeeded (l : Launch) (D : va_G) (cI cT : ClassId) (ad : Nat → Nat → Nat) (hI : gq_I gk_vd ad) (u : gk_St) (k : Nat) (hk : k < 100) (z : Int32 × gk_St) (hf : fn_Tm_isNeeded k u = some z) : Met l gy_Tm_isNeeded gws_Tm_isNeeded ({ frames := 0, cells := 0, slots := 0, locals := 0 }) (va_Pc [.ref (ad 7 k)] (gq_pre D gc_cl (gk_tys cI cT) gk_vd ad gk_NF gk_NM (gk_pc cI cT ad u))) (va_Qi (fun r u2 => r = z.1 ∧ u2 = z.2) (fun u2 t => gq_B D gc_cl (gk_tys cI cT) gk_vd ad (gk_pc cI cT ad u2) t) (gq_A gk_vd ad)) 0 0 (gq_A gk_vd ad) := by
  refine Met.ofW (cc := gb_Tm_isNeeded) (maxL := 1) (ret := (some .boolean)) (by decide) rfl ?_
  intro p e s m args below meth c s₁ B hml hv
  obtain ⟨rfl, hH, hK, hN⟩ := hv
  have hx := B.exec
  have hb := B.bytes
  have hr := B.returns
  have hts := atoms_spec (ws := gws_Tm_isNeeded) B.pre
  have ht := fun (w : Cond) (h : w ∈ gt_T) => hts w (List.mem_cons_of_mem _ h)
  have hown : s.vm.findClass gR_Tm = some m.cls := findClass_of_methodNamed B.named
  have hlocks := B.notSynchronized
  have hA : ∀ q, (gq_A gk_vd ad) q → (gq_A gk_vd ad) q := fun _ h => h
  have hS : va_S (gq_A gk_vd ad) s.heap s.heap [] := va_S.rf
  have hl := lv_entry ([.ref (ad 7 k)]) (n := 1) (Nat.le_of_ble_eq_true rfl)
  rw [lg_entry_eq]
  generalize (lg_sl ([.ref (ad 7 k)]) ++ List.replicate (1 - (lg_sl ([.ref (ad 7 k)])).length) Slot.unset).toArray = ls at hl ⊢
  have hl : lv_has ls 1 [(0, .ref (ad 7 k))] := hl
  unfold fn_Tm_isNeeded at hf
  refine lv_aload_n hx hb gd_Tm_isNeeded_0 rfl (lv_at hl 0 rfl) ?_
  refine va_get (D := D) (ci := 3) (C := gR_Tm) (T := gT_Tm) (N := 5) hx hb hts (fun w h => List.mem_cons_of_mem _ (gl_Tm w h)) hown hK (gq_one (c := 7) (k := k) hH hk (gk_c7 cI cT ad u k)) 0 rfl rfl 3 (by decide) (ht _ gt_49) (fun _ h9 => h9) rfl gd_Tm_isNeeded_1 ?_
  refine lv_if_gt (tgt := 14) hx hb gd_Tm_isNeeded_4 (by decide) (fun c2 => ?_) (fun c2 => ?_)
  · replace hf := gj_t c2 hf
    refine lv_iconst (v := 1) hx hb gd_Tm_isNeeded_14 (by decide) ?_
    refine lv_goto (tgt := 19) hx hb gd_Tm_isNeeded_15 (by decide) ?_
    cases hf
    exact W.zret hx hb hr rfl (fun t ht hW => ⟨⟨_, _, rfl, ⟨rfl, rfl⟩, ⟨by rw [ht]; exact hH, va_K.moved hW.alike hK⟩⟩, hS.F ht⟩) hS.2.2 gd_Tm_isNeeded_19
  · replace hf := gj_e c2 hf
    refine lv_aload_n hx hb gd_Tm_isNeeded_7 rfl (lv_at hl 0 rfl) ?_
    refine va_get (D := D) (ci := 3) (C := gR_Tm) (T := gT_Tm) (N := 5) hx hb hts (fun w h => List.mem_cons_of_mem _ (gl_Tm w h)) hown hK (gq_one (c := 7) (k := k) hH hk (gk_c7 cI cT ad u k)) 0 rfl rfl 4 (by decide) (ht _ gt_51) (fun _ h9 => h9) rfl gd_Tm_isNeeded_8 ?_
    refine lv_if_eq (tgt := 18) hx hb gd_Tm_isNeeded_11 (by decide) (fun c1 => ?_) (fun c1 => ?_)
    · replace hf := gj_t c1 hf
      refine lv_iconst (v := 0) hx hb gd_Tm_isNeeded_18 (by decide) ?_
      cases hf
      exact W.zret hx hb hr rfl (fun t ht hW => ⟨⟨_, _, rfl, ⟨rfl, rfl⟩, ⟨by rw [ht]; exact hH, va_K.moved hW.alike hK⟩⟩, hS.F ht⟩) hS.2.2 gd_Tm_isNeeded_19
    · replace hf := gj_e c1 hf
      refine lv_iconst (v := 1) hx hb gd_Tm_isNeeded_14 (by decide) ?_
      refine lv_goto (tgt := 19) hx hb gd_Tm_isNeeded_15 (by decide) ?_
      cases hf
      exact W.zret hx hb hr rfl (fun t ht hW => ⟨⟨_, _, rfl, ⟨rfl, rfl⟩, ⟨by rw [ht]; exact hH, va_K.moved hW.alike hK⟩⟩, hS.F ht⟩) hS.2.2 gd_Tm_isNeeded_19
set_option maxHeartbeats 4000000 in
set_option maxRecDepth 100000 in
theorem ct_Lv_placeOf (l : Launch) (D : va_G) (cI cT : ClassId) (ad : Nat → Nat → Nat) (hI : gq_I gk_vd ad) (u : gk_St) (p1 : Int32) (z : Int32 × gk_St) (hf : fn_Lv_placeOf p1 u = some z) : Met l gy_Lv_placeOf gws_Lv_placeOf ({ frames := 1, cells := 0, slots := 0, locals := 21 }) (va_Pc [.ref (ad 2 0), .int p1] (gq_pre D gc_cl (gk_tys cI cT) gk_vd ad gk_NF gk_NM (gk_pc cI cT ad u))) (va_Qi (fun r u2 => r = z.1 ∧ u2 = z.2) (fun u2 t => gq_B D gc_cl (gk_tys cI cT) gk_vd ad (gk_pc cI cT ad u2) t) (gq_A gk_vd ad)) 0 0 (gq_A gk_vd ad) := by
  refine Met.ofW (cc := gb_Lv_placeOf) (maxL := 3) (ret := (some .int)) (by decide) rfl ?_
  intro p e s m args below meth c s₁ B hml hv
  obtain ⟨rfl, hH, hK, hN⟩ := hv
  have hx := B.exec
  have hb := B.bytes
  have hr := B.returns
  have hts := atoms_spec (ws := gws_Lv_placeOf) B.pre
  have ht := fun (w : Cond) (h : w ∈ gt_T) => hts w (List.mem_cons_of_mem _ h)
  have hown : s.vm.findClass gR_Lv = some m.cls := findClass_of_methodNamed B.named
  have hlocks := B.notSynchronized
  have hA : ∀ q, (gq_A gk_vd ad) q → (gq_A gk_vd ad) q := fun _ h => h
  have hS : va_S (gq_A gk_vd ad) s.heap s.heap [] := va_S.rf
  have hl := lv_entry ([.ref (ad 2 0), .int p1]) (n := 3) (Nat.le_of_ble_eq_true rfl)
  rw [lg_entry_eq]
  generalize (lg_sl ([.ref (ad 2 0), .int p1]) ++ List.replicate (3 - (lg_sl ([.ref (ad 2 0), .int p1])).length) Slot.unset).toArray = ls at hl ⊢
  have hl : lv_has ls 3 [(0, .ref (ad 2 0)), (1, .int p1)] := hl
  have L2 : ∀ (n : Nat) (x1 : Int32) (x2 : Int32) (u : gk_St) (H : Heap) (locs : List Loc) (ls : Array Slot), fn_Lv_placeOf_2 n x1 x2 u = some z → gq_H D gc_cl gk_vd ad (gk_pc cI cT ad u) H → va_S (gq_A gk_vd ad) s.heap H locs → lv_has ls 3 [(0, .ref (ad 2 0)), (1, .int x1), (2, .int x2)] → W p l e (headSpec gws_Lv_placeOf ({ frames := 1, cells := 0, slots := 0, locals := 21 })).room s m ([.ref (ad 2 0), .int p1] : List Value).toArray below meth c H locs 0 0 (MQ below (va_Qi (fun r u2 => r = z.1 ∧ u2 = z.2) (fun u2 t => gq_B D gc_cl (gk_tys cI cT) gk_vd ad (gk_pc cI cT ad u2) t) (gq_A gk_vd ad)) ([.ref (ad 2 0), .int p1] : List Value).toArray s 0 0 (gq_A gk_vd ad)) (F0 m 2 ls []) := by
    intro n
    induction n with
    | zero =>
      intro x1 x2 u H locs ls hf
      have h0 : none = some z := hf
      cases h0
    | succ n ih =>
      intro x1 x2 u H locs ls hf hH hS hl
      rw [fn_Lv_placeOf_2] at hf
      refine lv_iload_n hx hb gd_Lv_placeOf_2 rfl (lv_at hl 2 rfl) ?_
      refine lv_aload_n hx hb gd_Lv_placeOf_3 rfl (lv_at hl 0 rfl) ?_
      refine va_get (D := D) (ci := 1) (C := gR_Lv) (T := gT_Lv) (N := 4) hx hb hts (fun w h => List.mem_cons_of_mem _ (gl_Lv w h)) hown hK (gq_one (c := 2) (k := 0) hH rfl (gk_c2 cI cT ad u)) 0 rfl rfl 1 (by decide) (ht _ gt_70) (fun _ h9 => h9) rfl gd_Lv_placeOf_4 ?_
      refine lv_icmp_ge (tgt := 27) hx hb gd_Lv_placeOf_7 (by decide) (fun c4 => ?_) (fun c4 => ?_)
      · replace hf := gj_t c4 hf
        refine lv_iconst (v := (-1)) hx hb gd_Lv_placeOf_27 (by decide) ?_
        cases hf
        exact W.iret hx hb hr (fun t ht hW => ⟨⟨_, _, rfl, ⟨rfl, rfl⟩, ⟨by rw [ht]; exact hH, va_K.moved hW.alike hK⟩⟩, hS.F ht⟩) hS.2.2 gd_Lv_placeOf_28
      · replace hf := gj_e c4 hf
        refine lv_aload_n hx hb gd_Lv_placeOf_10 rfl (lv_at hl 0 rfl) ?_
        refine lv_iload_n hx hb gd_Lv_placeOf_11 rfl (lv_at hl 2 rfl) ?_
        obtain ⟨z1, hc2, hf⟩ := Option.bind_eq_some_iff.mp hf
        refine gq_calli (va_runV (As := [.int x2]) (rest := []) ⟨hx, hb, hml, hown, hts⟩ (ct_Lv_numberAt l D cI cT ad hI u x2 z1 hc2) (cwV 1 hts (gt_V gt_220 gt_140 gt_141 gt_4 gt_142) rfl rfl rfl (by decide +kernel) ⟨Nat.le_of_ble_eq_true rfl, Nat.le_of_ble_eq_true rfl⟩) (gq_preV hH hK hN (va_recv hK (gq_one (c := 2) (k := 0) hH rfl (gk_c2 cI cT ad u)) (ci := 1) (q0 := 0) rfl rfl)) rfl rfl hl.1 rfl (lv_room (Nat.le_of_ble_eq_true rfl)) gd_Lv_placeOf_12 ⟨Nat.zero_le _, Nat.zero_le _⟩) hA hS (fun H locs hH hS => ?_)
        refine lv_iload_n hx hb gd_Lv_placeOf_15 rfl (lv_at hl 1 rfl) ?_
        refine lv_icmp_ne (tgt := 21) hx hb gd_Lv_placeOf_16 (by decide) (fun c3 => ?_) (fun c3 => ?_)
        · replace hf := gj_e c3 hf
          refine lv_iinc (v := x2 + 1) (lv' := [(2, .int (x2 + 1)), (0, .ref (ad 2 0)), (1, .int x1)]) hx hb gd_Lv_placeOf_21 hl (k := 2) rfl rfl (by decide) rfl (fun ls hl => ?_)
          refine lv_goto (tgt := 2) hx hb gd_Lv_placeOf_24 (by decide) ?_
          exact ih x1 (x2 + 1) z1.2 _ _ _ hf hH hS (lv_sub hl [1, 2, 0] rfl)
        · replace hf := gj_t c3 hf
          refine lv_iload_n hx hb gd_Lv_placeOf_19 rfl (lv_at hl 2 rfl) ?_
          cases hf
          exact W.iret hx hb hr (fun t ht hW => ⟨⟨_, _, rfl, ⟨rfl, rfl⟩, ⟨by rw [ht]; exact hH, va_K.moved hW.alike hK⟩⟩, hS.F ht⟩) hS.2.2 gd_Lv_placeOf_20
  unfold fn_Lv_placeOf at hf
  refine lv_iconst (v := 0) hx hb gd_Lv_placeOf_0 (by decide) ?_
  refine lv_istore_n (lv' := [(2, .int 0), (0, .ref (ad 2 0)), (1, .int p1)]) hx hb gd_Lv_placeOf_1 rfl hl (by decide) rfl (fun ls hl => ?_)
  exact L2 gk_fu p1 0 u _ _ _ hf hH hS (lv_sub hl [1, 2, 0] rfl)
set_option maxHeartbeats 4000000 in
set_option maxRecDepth 100000 in
theorem ct_Lv_dropEmpty (l : Launch) (D : va_G) (cI cT : ClassId) (ad : Nat → Nat → Nat) (hI : gq_I gk_vd ad) (u : gk_St)  (z : gk_St) (hf : fn_Lv_dropEmpty u = some z) : Met l gy_Lv_dropEmpty gws_Lv_dropEmpty ({ frames := 0, cells := 0, slots := 0, locals := 0 }) (va_Pc [.ref (ad 2 0)] (gq_pre D gc_cl (gk_tys cI cT) gk_vd ad gk_NF gk_NM (gk_pc cI cT ad u))) (va_Qv (fun u2 => u2 = z) (fun u2 t => gq_B D gc_cl (gk_tys cI cT) gk_vd ad (gk_pc cI cT ad u2) t) (gq_A gk_vd ad)) 0 0 (gq_A gk_vd ad) := by
  refine Met.ofW (cc := gb_Lv_dropEmpty) (maxL := 1) (ret := none) (by decide) rfl ?_
  intro p e s m args below meth c s₁ B hml hv
  obtain ⟨rfl, hH, hK, hN⟩ := hv
  have hx := B.exec
  have hb := B.bytes
  have hr := B.returns
  have hts := atoms_spec (ws := gws_Lv_dropEmpty) B.pre
  have ht := fun (w : Cond) (h : w ∈ gt_T) => hts w (List.mem_cons_of_mem _ h)
  have hown : s.vm.findClass gR_Lv = some m.cls := findClass_of_methodNamed B.named
  have hlocks := B.notSynchronized
  have hA : ∀ q, (gq_A gk_vd ad) q → (gq_A gk_vd ad) q := fun _ h => h
  have hS : va_S (gq_A gk_vd ad) s.heap s.heap [] := va_S.rf
  have hl := lv_entry ([.ref (ad 2 0)]) (n := 1) (Nat.le_of_ble_eq_true rfl)
  rw [lg_entry_eq]
  generalize (lg_sl ([.ref (ad 2 0)]) ++ List.replicate (1 - (lg_sl ([.ref (ad 2 0)])).length) Slot.unset).toArray = ls at hl ⊢
  have hl : lv_has ls 1 [(0, .ref (ad 2 0))] := hl
  unfold fn_Lv_dropEmpty at hf
  refine lv_aload_n hx hb gd_Lv_dropEmpty_0 rfl (lv_at hl 0 rfl) ?_
  refine va_get (D := D) (ci := 1) (C := gR_Lv) (T := gT_Lv) (N := 4) hx hb hts (fun w h => List.mem_cons_of_mem _ (gl_Lv w h)) hown hK (gq_one (c := 2) (k := 0) hH rfl (gk_c2 cI cT ad u)) 0 rfl rfl 1 (by decide) (ht _ gt_70) (fun _ h9 => h9) rfl gd_Lv_dropEmpty_1 ?_
  refine lv_if_ne (tgt := 12) hx hb gd_Lv_dropEmpty_4 (by decide) (fun c1 => ?_) (fun c1 => ?_)
  · replace hf := gj_e c1 hf
    cases hf
    exact W.vret hx hb hr (fun t ht hW => ⟨⟨_, rfl, rfl, ⟨by rw [ht]; exact hH, va_K.moved hW.alike hK⟩⟩, hS.F ht⟩) hS.2.2 gd_Lv_dropEmpty_12
  · replace hf := gj_t c1 hf
    refine lv_aload_n hx hb gd_Lv_dropEmpty_7 rfl (lv_at hl 0 rfl) ?_
    refine lv_iconst (v := 0) hx hb gd_Lv_dropEmpty_8 (by decide) ?_
    refine gq_put (D := D) (ci := 1) (C := gR_Lv) (T := gT_Lv) (N := 4) (ca := 2) (ka := 0) (pp' := gk_pc cI cT ad (gk_sI u 8 0 0)) (ty := .int) hx hb hts (fun w h => List.mem_cons_of_mem _ (gl_Lv w h)) gF_Lv gf_Lv gn_Lv hown hK hH hI hA rfl (gk_c2 cI cT ad u) rfl 3 (by decide) (ht _ gt_73) (fun _ h9 => h9) rfl (by decide +kernel) rfl rfl (Nat.le_of_ble_eq_true rfl) (gk_w8 cI cT ad u 0) (gk_o8 cI cT ad u 0) hS gd_Lv_dropEmpty_9 (fun H locs hH hS => ?_)
    cases hf
    exact W.vret hx hb hr (fun t ht hW => ⟨⟨_, rfl, rfl, ⟨by rw [ht]; exact hH, va_K.moved hW.alike hK⟩⟩, hS.F ht⟩) hS.2.2 gd_Lv_dropEmpty_12
set_option maxHeartbeats 4000000 in
set_option maxRecDepth 100000 in
theorem ct_Lv_joinNext (l : Launch) (D : va_G) (cI cT : ClassId) (ad : Nat → Nat → Nat) (hI : gq_I gk_vd ad) (u : gk_St) (p1 : Int32) (z : gk_St) (hf : fn_Lv_joinNext p1 u = some z) : Met l gy_Lv_joinNext gws_Lv_joinNext ({ frames := 1, cells := 0, slots := 0, locals := 22 }) (va_Pc [.ref (ad 2 0), .int p1] (gq_pre D gc_cl (gk_tys cI cT) gk_vd ad gk_NF gk_NM (gk_pc cI cT ad u))) (va_Qv (fun u2 => u2 = z) (fun u2 t => gq_B D gc_cl (gk_tys cI cT) gk_vd ad (gk_pc cI cT ad u2) t) (gq_A gk_vd ad)) 0 0 (gq_A gk_vd ad) := by
  refine Met.ofW (cc := gb_Lv_joinNext) (maxL := 3) (ret := none) (by decide) rfl ?_
  intro p e s m args below meth c s₁ B hml hv
  obtain ⟨rfl, hH, hK, hN⟩ := hv
  have hx := B.exec
  have hb := B.bytes
  have hr := B.returns
  have hts := atoms_spec (ws := gws_Lv_joinNext) B.pre
  have ht := fun (w : Cond) (h : w ∈ gt_T) => hts w (List.mem_cons_of_mem _ h)
  have hown : s.vm.findClass gR_Lv = some m.cls := findClass_of_methodNamed B.named
  have hlocks := B.notSynchronized
  have hA : ∀ q, (gq_A gk_vd ad) q → (gq_A gk_vd ad) q := fun _ h => h
  have hS : va_S (gq_A gk_vd ad) s.heap s.heap [] := va_S.rf
  have hl := lv_entry ([.ref (ad 2 0), .int p1]) (n := 3) (Nat.le_of_ble_eq_true rfl)
  rw [lg_entry_eq]
  generalize (lg_sl ([.ref (ad 2 0), .int p1]) ++ List.replicate (3 - (lg_sl ([.ref (ad 2 0), .int p1])).length) Slot.unset).toArray = ls at hl ⊢
  have hl : lv_has ls 3 [(0, .ref (ad 2 0)), (1, .int p1)] := hl
  have L26 : ∀ (n : Nat) (x1 : Int32) (x2 : Int32) (u : gk_St) (H : Heap) (locs : List Loc) (ls : Array Slot), fn_Lv_joinNext_26 n x1 x2 u = some z → gq_H D gc_cl gk_vd ad (gk_pc cI cT ad u) H → va_S (gq_A gk_vd ad) s.heap H locs → lv_has ls 3 [(0, .ref (ad 2 0)), (1, .int x1), (2, .int x2)] → W p l e (headSpec gws_Lv_joinNext ({ frames := 1, cells := 0, slots := 0, locals := 22 })).room s m ([.ref (ad 2 0), .int p1] : List Value).toArray below meth c H locs 0 0 (MQ below (va_Qv (fun u2 => u2 = z) (fun u2 t => gq_B D gc_cl (gk_tys cI cT) gk_vd ad (gk_pc cI cT ad u2) t) (gq_A gk_vd ad)) ([.ref (ad 2 0), .int p1] : List Value).toArray s 0 0 (gq_A gk_vd ad)) (F0 m 26 ls []) := by
    intro n
    induction n with
    | zero =>
      intro x1 x2 u H locs ls hf
      have h0 : none = some z := hf
      cases h0
    | succ n ih =>
      intro x1 x2 u H locs ls hf hH hS hl
      rw [fn_Lv_joinNext_26] at hf
      refine lv_iload_n hx hb gd_Lv_joinNext_26 rfl (lv_at hl 2 rfl) ?_
      refine lv_aload_n hx hb gd_Lv_joinNext_27 rfl (lv_at hl 0 rfl) ?_
      refine va_get (D := D) (ci := 1) (C := gR_Lv) (T := gT_Lv) (N := 4) hx hb hts (fun w h => List.mem_cons_of_mem _ (gl_Lv w h)) hown hK (gq_one (c := 2) (k := 0) hH rfl (gk_c2 cI cT ad u)) 0 rfl rfl 3 (by decide) (ht _ gt_73) (fun _ h9 => h9) rfl gd_Lv_joinNext_28 ?_
      refine lv_icmp_ge (tgt := 54) hx hb gd_Lv_joinNext_31 (by decide) (fun c7 => ?_) (fun c7 => ?_)
      · replace hf := gj_t c7 hf
        cases hf
        exact W.vret hx hb hr (fun t ht hW => ⟨⟨_, rfl, rfl, ⟨by rw [ht]; exact hH, va_K.moved hW.alike hK⟩⟩, hS.F ht⟩) hS.2.2 gd_Lv_joinNext_54
      · replace hf := gj_e c7 hf
        refine lv_aload_n hx hb gd_Lv_joinNext_34 rfl (lv_at hl 0 rfl) ?_
        refine va_get (D := D) (ci := 1) (C := gR_Lv) (T := gT_Lv) (N := 4) hx hb hts (fun w h => List.mem_cons_of_mem _ (gl_Lv w h)) hown hK (gq_one (c := 2) (k := 0) hH rfl (gk_c2 cI cT ad u)) 0 rfl rfl 2 (by decide) (ht _ gt_72) (fun _ h9 => h9) rfl gd_Lv_joinNext_35 ?_
        refine lv_iload_n hx hb gd_Lv_joinNext_38 rfl (lv_at hl 2 rfl) ?_
        refine lv_aload_n hx hb gd_Lv_joinNext_39 rfl (lv_at hl 0 rfl) ?_
        refine va_get (D := D) (ci := 1) (C := gR_Lv) (T := gT_Lv) (N := 4) hx hb hts (fun w h => List.mem_cons_of_mem _ (gl_Lv w h)) hown hK (gq_one (c := 2) (k := 0) hH rfl (gk_c2 cI cT ad u)) 0 rfl rfl 2 (by decide) (ht _ gt_72) (fun _ h9 => h9) rfl gd_Lv_joinNext_40 ?_
        refine lv_iload_n hx hb gd_Lv_joinNext_43 rfl (lv_at hl 2 rfl) ?_
        refine lv_iconst (v := 1) hx hb gd_Lv_joinNext_44 (by decide) ?_
        refine lv_iadd hx hb gd_Lv_joinNext_45 ?_
        obtain ⟨hg5, hf⟩ := gj_g hf
        refine va_iald (D := D) hx hb hK (gq_one (c := 4) (k := 0) hH rfl (gk_c4 cI cT ad u)) 0 0 rfl rfl hg5 gd_Lv_joinNext_46 ?_
        obtain ⟨hg6, hf⟩ := gj_g hf
        refine gq_iast (D := D) (ca := 4) (ka := 0) (pp' := gk_pc cI cT ad (gk_sI u 7 (Int32.toNatClampNeg x2) (u.1 7 (Int32.toNatClampNeg (x2 + 1))))) hx hb hK hH hI hA rfl (gk_c4 cI cT ad u) 0 rfl hg6 (gk_w7 cI cT ad u (Int32.toNatClampNeg x2) (u.1 7 (Int32.toNatClampNeg (x2 + 1)))) (gk_o7 cI cT ad u (Int32.toNatClampNeg x2) (u.1 7 (Int32.toNatClampNeg (x2 + 1)))) hS gd_Lv_joinNext_47 (fun H locs hH hS => ?_)
        refine lv_iinc (v := x2 + 1) (lv' := [(2, .int (x2 + 1)), (0, .ref (ad 2 0)), (1, .int x1)]) hx hb gd_Lv_joinNext_48 hl (k := 2) rfl rfl (by decide) rfl (fun ls hl => ?_)
        refine lv_goto (tgt := 26) hx hb gd_Lv_joinNext_51 (by decide) ?_
        exact ih x1 (x2 + 1) (gk_sI u 7 (Int32.toNatClampNeg x2) (u.1 7 (Int32.toNatClampNeg (x2 + 1)))) _ _ _ hf hH hS (lv_sub hl [1, 2, 0] rfl)
  unfold fn_Lv_joinNext at hf
  refine lv_aload_n hx hb gd_Lv_joinNext_0 rfl (lv_at hl 0 rfl) ?_
  refine lv_iload_n hx hb gd_Lv_joinNext_1 rfl (lv_at hl 1 rfl) ?_
  refine lv_aload_n hx hb gd_Lv_joinNext_2 rfl (lv_at hl 0 rfl) ?_
  refine lv_iload_n hx hb gd_Lv_joinNext_3 rfl (lv_at hl 1 rfl) ?_
  refine lv_iconst (v := 1) hx hb gd_Lv_joinNext_4 (by decide) ?_
  refine lv_iadd hx hb gd_Lv_joinNext_5 ?_
  obtain ⟨z1, hc2, hf⟩ := Option.bind_eq_some_iff.mp hf
  refine gq_calli (va_runV (As := [.int (p1 + 1)]) (rest := [.int p1, .ref (ad 2 0)]) ⟨hx, hb, hml, hown, hts⟩ (ct_Lv_sizeOf l D cI cT ad hI u (p1 + 1) z1 hc2) (cwV 1 hts (gt_V gt_193 gt_194 gt_195 gt_4 gt_196) rfl rfl rfl (by decide +kernel) ⟨Nat.le_of_ble_eq_true rfl, Nat.le_of_ble_eq_true rfl⟩) (gq_preV hH hK hN (va_recv hK (gq_one (c := 2) (k := 0) hH rfl (gk_c2 cI cT ad u)) (ci := 1) (q0 := 0) rfl rfl)) rfl rfl hl.1 rfl (lv_room (Nat.le_of_ble_eq_true rfl)) gd_Lv_joinNext_6 ⟨Nat.zero_le _, Nat.zero_le _⟩) hA hS (fun H locs hH hS => ?_)
  obtain ⟨z3, hc4, hf⟩ := Option.bind_eq_some_iff.mp hf
  refine gq_callv (va_runV (As := [.int p1, .int z1.1]) (rest := []) ⟨hx, hb, hml, hown, hts⟩ (ct_Lv_resize l D cI cT ad hI z1.2 p1 z1.1 z3 hc4) (cwV 2 hts (gt_V gt_200 gt_202 (gt_sel (List.mem_of_getElem? (i := 8) rfl)) gt_4 gt_203) rfl rfl rfl (by decide +kernel) ⟨Nat.le_of_ble_eq_true rfl, Nat.le_of_ble_eq_true rfl⟩) (gq_preV hH hK hN (va_recv hK (gq_one (c := 2) (k := 0) hH rfl (gk_c2 cI cT ad z1.2)) (ci := 1) (q0 := 0) rfl rfl)) rfl rfl hl.1 rfl (lv_room (Nat.le_of_ble_eq_true rfl)) gd_Lv_joinNext_9 ⟨Nat.zero_le _, Nat.zero_le _⟩) hA hS (fun H locs hH hS => ?_)
  refine lv_aload_n hx hb gd_Lv_joinNext_12 rfl (lv_at hl 0 rfl) ?_
  refine lv_dup hx hb gd_Lv_joinNext_13 rfl ?_
  refine va_get (D := D) (ci := 1) (C := gR_Lv) (T := gT_Lv) (N := 4) hx hb hts (fun w h => List.mem_cons_of_mem _ (gl_Lv w h)) hown hK (gq_one (c := 2) (k := 0) hH rfl (gk_c2 cI cT ad z3)) 0 rfl rfl 3 (by decide) (ht _ gt_73) (fun _ h9 => h9) rfl gd_Lv_joinNext_14 ?_
  refine lv_iconst (v := 1) hx hb gd_Lv_joinNext_17 (by decide) ?_
  refine lv_isub hx hb gd_Lv_joinNext_18 ?_
  refine gq_put (D := D) (ci := 1) (C := gR_Lv) (T := gT_Lv) (N := 4) (ca := 2) (ka := 0) (pp' := gk_pc cI cT ad (gk_sI z3 8 0 ((z3.1 8 0) - 1))) (ty := .int) hx hb hts (fun w h => List.mem_cons_of_mem _ (gl_Lv w h)) gF_Lv gf_Lv gn_Lv hown hK hH hI hA rfl (gk_c2 cI cT ad z3) rfl 3 (by decide) (ht _ gt_73) (fun _ h9 => h9) rfl (by decide +kernel) rfl rfl (Nat.le_of_ble_eq_true rfl) (gk_w8 cI cT ad z3 ((z3.1 8 0) - 1)) (gk_o8 cI cT ad z3 ((z3.1 8 0) - 1)) hS gd_Lv_joinNext_19 (fun H locs hH hS => ?_)
  refine lv_iload_n hx hb gd_Lv_joinNext_22 rfl (lv_at hl 1 rfl) ?_
  refine lv_iconst (v := 1) hx hb gd_Lv_joinNext_23 (by decide) ?_
  refine lv_iadd hx hb gd_Lv_joinNext_24 ?_
  refine lv_istore_n (lv' := [(2, .int (p1 + 1)), (0, .ref (ad 2 0)), (1, .int p1)]) hx hb gd_Lv_joinNext_25 rfl hl (by decide) rfl (fun ls hl => ?_)
  exact L26 gk_fu p1 (p1 + 1) (gk_sI z3 8 0 ((z3.1 8 0) - 1)) _ _ _ hf hH hS (lv_sub hl [1, 2, 0] rfl)
set_option maxHeartbeats 4000000 in
set_option maxRecDepth 100000 in
theorem ct_Lv_mend (l : Launch) (D : va_G) (cI cT : ClassId) (ad : Nat → Nat → Nat) (hI : gq_I gk_vd ad) (u : gk_St) (p1 : Int32) (z : gk_St) (hf : fn_Lv_mend p1 u = some z) : Met l gy_Lv_mend gws_Lv_mend ({ frames := 2, cells := 0, slots := 0, locals := 44 }) (va_Pc [.ref (ad 2 0), .int p1] (gq_pre D gc_cl (gk_tys cI cT) gk_vd ad gk_NF gk_NM (gk_pc cI cT ad u))) (va_Qv (fun u2 => u2 = z) (fun u2 t => gq_B D gc_cl (gk_tys cI cT) gk_vd ad (gk_pc cI cT ad u2) t) (gq_A gk_vd ad)) 0 0 (gq_A gk_vd ad) := by
  refine Met.ofW (cc := gb_Lv_mend) (maxL := 3) (ret := none) (by decide) rfl ?_
  intro p e s m args below meth c s₁ B hml hv
  obtain ⟨rfl, hH, hK, hN⟩ := hv
  have hx := B.exec
  have hb := B.bytes
  have hr := B.returns
  have hts := atoms_spec (ws := gws_Lv_mend) B.pre
  have ht := fun (w : Cond) (h : w ∈ gt_T) => hts w (List.mem_cons_of_mem _ h)
  have hown : s.vm.findClass gR_Lv = some m.cls := findClass_of_methodNamed B.named
  have hlocks := B.notSynchronized
  have hA : ∀ q, (gq_A gk_vd ad) q → (gq_A gk_vd ad) q := fun _ h => h
  have hS : va_S (gq_A gk_vd ad) s.heap s.heap [] := va_S.rf
  have hl := lv_entry ([.ref (ad 2 0), .int p1]) (n := 3) (Nat.le_of_ble_eq_true rfl)
  rw [lg_entry_eq]
  generalize (lg_sl ([.ref (ad 2 0), .int p1]) ++ List.replicate (3 - (lg_sl ([.ref (ad 2 0), .int p1])).length) Slot.unset).toArray = ls at hl ⊢
  have hl : lv_has ls 3 [(0, .ref (ad 2 0)), (1, .int p1)] := hl
  unfold fn_Lv_mend at hf
  refine lv_aload_n hx hb gd_Lv_mend_0 rfl (lv_at hl 0 rfl) ?_
  refine va_get (D := D) (ci := 1) (C := gR_Lv) (T := gT_Lv) (N := 4) hx hb hts (fun w h => List.mem_cons_of_mem _ (gl_Lv w h)) hown hK (gq_one (c := 2) (k := 0) hH rfl (gk_c2 cI cT ad u)) 0 rfl rfl 3 (by decide) (ht _ gt_73) (fun _ h9 => h9) rfl gd_Lv_mend_1 ?_
  refine lv_iconst (v := 2) hx hb gd_Lv_mend_4 (by decide) ?_
  refine lv_icmp_ge (tgt := 13) hx hb gd_Lv_mend_5 (by decide) (fun c26 => ?_) (fun c26 => ?_)
  · replace hf := gj_t c26 hf
    refine lv_iload_n hx hb gd_Lv_mend_13 rfl (lv_at hl 1 rfl) ?_
    refine lv_iconst (v := 1) hx hb gd_Lv_mend_14 (by decide) ?_
    refine lv_iadd hx hb gd_Lv_mend_15 ?_
    refine lv_aload_n hx hb gd_Lv_mend_16 rfl (lv_at hl 0 rfl) ?_
    refine va_get (D := D) (ci := 1) (C := gR_Lv) (T := gT_Lv) (N := 4) hx hb hts (fun w h => List.mem_cons_of_mem _ (gl_Lv w h)) hown hK (gq_one (c := 2) (k := 0) hH rfl (gk_c2 cI cT ad u)) 0 rfl rfl 3 (by decide) (ht _ gt_73) (fun _ h9 => h9) rfl gd_Lv_mend_17 ?_
    refine lv_icmp_ge (tgt := 29) hx hb gd_Lv_mend_20 (by decide) (fun c23 => ?_) (fun c23 => ?_)
    · replace hf := gj_t c23 hf
      refine lv_iload_n hx hb gd_Lv_mend_29 rfl (lv_at hl 1 rfl) ?_
      refine lv_iconst (v := 1) hx hb gd_Lv_mend_30 (by decide) ?_
      refine lv_isub hx hb gd_Lv_mend_31 ?_
      refine lv_istore_n (lv' := [(2, .int (p1 - 1)), (0, .ref (ad 2 0)), (1, .int p1)]) hx hb gd_Lv_mend_32 rfl hl (by decide) rfl (fun ls hl => ?_)
      refine lv_aload_n hx hb gd_Lv_mend_33 rfl (lv_at hl 1 rfl) ?_
      refine lv_iload_n hx hb gd_Lv_mend_34 rfl (lv_at hl 2 rfl) ?_
      obtain ⟨z1, hc2, hf⟩ := Option.bind_eq_some_iff.mp hf
      refine gq_calli (va_runV (As := [.int p1]) (rest := []) ⟨hx, hb, hml, hown, hts⟩ (ct_Lv_sizeOf l D cI cT ad hI u p1 z1 hc2) (cwV 1 hts (gt_V gt_193 gt_194 gt_195 gt_4 gt_196) rfl rfl rfl (by decide +kernel) ⟨Nat.le_of_ble_eq_true rfl, Nat.le_of_ble_eq_true rfl⟩) (gq_preV hH hK hN (va_recv hK (gq_one (c := 2) (k := 0) hH rfl (gk_c2 cI cT ad u)) (ci := 1) (q0 := 0) rfl rfl)) rfl rfl hl.1 rfl (lv_room (Nat.le_of_ble_eq_true rfl)) gd_Lv_mend_35 ⟨Nat.zero_le _, Nat.zero_le _⟩) hA hS (fun H locs hH hS => ?_)
      refine lv_aload_n hx hb gd_Lv_mend_38 rfl (lv_at hl 1 rfl) ?_
      refine lv_iload_n hx hb gd_Lv_mend_39 rfl (lv_at hl 0 rfl) ?_
      obtain ⟨z3, hc4, hf⟩ := Option.bind_eq_some_iff.mp hf
      refine gq_calli (va_runV (As := [.int (p1 - 1)]) (rest := [.int z1.1]) ⟨hx, hb, hml, hown, hts⟩ (ct_Lv_sizeOf l D cI cT ad hI z1.2 (p1 - 1) z3 hc4) (cwV 1 hts (gt_V gt_193 gt_194 gt_195 gt_4 gt_196) rfl rfl rfl (by decide +kernel) ⟨Nat.le_of_ble_eq_true rfl, Nat.le_of_ble_eq_true rfl⟩) (gq_preV hH hK hN (va_recv hK (gq_one (c := 2) (k := 0) hH rfl (gk_c2 cI cT ad z1.2)) (ci := 1) (q0 := 0) rfl rfl)) rfl rfl hl.1 rfl (lv_room (Nat.le_of_ble_eq_true rfl)) gd_Lv_mend_40 ⟨Nat.zero_le _, Nat.zero_le _⟩) hA hS (fun H locs hH hS => ?_)
      refine lv_iadd hx hb gd_Lv_mend_43 ?_
      refine lv_bipush (v := 8) hx hb gd_Lv_mend_44 (by decide) ?_
      refine lv_icmp_gt (tgt := 61) hx hb gd_Lv_mend_46 (by decide) (fun c11 => ?_) (fun c11 => ?_)
      · replace hf := gj_t c11 hf
        refine lv_aload_n hx hb gd_Lv_mend_61 rfl (lv_at hl 1 rfl) ?_
        refine lv_iload_n hx hb gd_Lv_mend_62 rfl (lv_at hl 2 rfl) ?_
        refine lv_iconst (v := 1) hx hb gd_Lv_mend_63 (by decide) ?_
        obtain ⟨z5, hc6, hf⟩ := Option.bind_eq_some_iff.mp hf
        refine gq_callv (va_runV (As := [.int p1, .int 1]) (rest := []) ⟨hx, hb, hml, hown, hts⟩ (ct_Lv_resize l D cI cT ad hI z3.2 p1 1 z5 hc6) (cwV 2 hts (gt_V gt_200 gt_202 (gt_sel (List.mem_of_getElem? (i := 8) rfl)) gt_4 gt_203) rfl rfl rfl (by decide +kernel) ⟨Nat.le_of_ble_eq_true rfl, Nat.le_of_ble_eq_true rfl⟩) (gq_preV hH hK hN (va_recv hK (gq_one (c := 2) (k := 0) hH rfl (gk_c2 cI cT ad z3.2)) (ci := 1) (q0 := 0) rfl rfl)) rfl rfl hl.1 rfl (lv_room (Nat.le_of_ble_eq_true rfl)) gd_Lv_mend_64 ⟨Nat.zero_le _, Nat.zero_le _⟩) hA hS (fun H locs hH hS => ?_)
        refine lv_aload_n hx hb gd_Lv_mend_67 rfl (lv_at hl 1 rfl) ?_
        refine lv_iload_n hx hb gd_Lv_mend_68 rfl (lv_at hl 0 rfl) ?_
        refine lv_iconst (v := (-1)) hx hb gd_Lv_mend_69 (by decide) ?_
        obtain ⟨z7, hc8, hf⟩ := Option.bind_eq_some_iff.mp hf
        refine gq_callv (va_runV (As := [.int (p1 - 1), .int (-1)]) (rest := []) ⟨hx, hb, hml, hown, hts⟩ (ct_Lv_resize l D cI cT ad hI z5 (p1 - 1) (-1) z7 hc8) (cwV 2 hts (gt_V gt_200 gt_202 (gt_sel (List.mem_of_getElem? (i := 8) rfl)) gt_4 gt_203) rfl rfl rfl (by decide +kernel) ⟨Nat.le_of_ble_eq_true rfl, Nat.le_of_ble_eq_true rfl⟩) (gq_preV hH hK hN (va_recv hK (gq_one (c := 2) (k := 0) hH rfl (gk_c2 cI cT ad z5)) (ci := 1) (q0 := 0) rfl rfl)) rfl rfl hl.1 rfl (lv_room (Nat.le_of_ble_eq_true rfl)) gd_Lv_mend_70 ⟨Nat.zero_le _, Nat.zero_le _⟩) hA hS (fun H locs hH hS => ?_)
        cases hf
        exact W.vret hx hb hr (fun t ht hW => ⟨⟨_, rfl, rfl, ⟨by rw [ht]; exact hH, va_K.moved hW.alike hK⟩⟩, hS.F ht⟩) hS.2.2 gd_Lv_mend_73
      · replace hf := gj_e c11 hf
        refine lv_aload_n hx hb gd_Lv_mend_49 rfl (lv_at hl 1 rfl) ?_
        refine lv_iload_n hx hb gd_Lv_mend_50 rfl (lv_at hl 2 rfl) ?_
        refine lv_iload_n hx hb gd_Lv_mend_51 rfl (lv_at hl 0 rfl) ?_
        refine va_mmin hx hb (hml.trans hl.1.symm) hown (ht _ gt_237) (ht _ gt_238) (ht _ gt_8) (ht _ gt_239) (Nat.le_of_ble_eq_true rfl) (Nat.le_of_ble_eq_true rfl) (Nat.zero_le _) (Nat.zero_le _) gd_Lv_mend_52 ?_
        refine W.eq (g2 := F0 m 55 ls (.int (fn_Ma_min p1 (p1 - 1)) :: [.ref (ad 2 0)])) rfl ?_
        obtain ⟨z9, hc10, hf⟩ := Option.bind_eq_some_iff.mp hf
        refine gq_callv (va_runV (As := [.int (fn_Ma_min p1 (p1 - 1))]) (rest := []) ⟨hx, hb, hml, hown, hts⟩ (ct_Lv_joinNext l D cI cT ad hI z3.2 (fn_Ma_min p1 (p1 - 1)) z9 hc10) (cwV 1 hts (gt_V gt_240 gt_242 (gt_sel (List.mem_of_getElem? (i := 13) rfl)) gt_4 gt_243) rfl rfl rfl (by decide +kernel) ⟨Nat.le_of_ble_eq_true rfl, Nat.le_of_ble_eq_true rfl⟩) (gq_preV hH hK hN (va_recv hK (gq_one (c := 2) (k := 0) hH rfl (gk_c2 cI cT ad z3.2)) (ci := 1) (q0 := 0) rfl rfl)) rfl rfl hl.1 rfl (lv_room (Nat.le_of_ble_eq_true rfl)) gd_Lv_mend_55 ⟨Nat.zero_le _, Nat.zero_le _⟩) hA hS (fun H locs hH hS => ?_)
        refine lv_goto (tgt := 73) hx hb gd_Lv_mend_58 (by decide) ?_
        cases hf
        exact W.vret hx hb hr (fun t ht hW => ⟨⟨_, rfl, rfl, ⟨by rw [ht]; exact hH, va_K.moved hW.alike hK⟩⟩, hS.F ht⟩) hS.2.2 gd_Lv_mend_73
    · replace hf := gj_e c23 hf
      refine lv_iload_n hx hb gd_Lv_mend_23 rfl (lv_at hl 1 rfl) ?_
      refine lv_iconst (v := 1) hx hb gd_Lv_mend_24 (by decide) ?_
      refine lv_iadd hx hb gd_Lv_mend_25 ?_
      refine lv_goto (tgt := 32) hx hb gd_Lv_mend_26 (by decide) ?_
      refine lv_istore_n (lv' := [(2, .int (p1 + 1)), (0, .ref (ad 2 0)), (1, .int p1)]) hx hb gd_Lv_mend_32 rfl hl (by decide) rfl (fun ls hl => ?_)
      refine lv_aload_n hx hb gd_Lv_mend_33 rfl (lv_at hl 1 rfl) ?_
      refine lv_iload_n hx hb gd_Lv_mend_34 rfl (lv_at hl 2 rfl) ?_
      obtain ⟨z12, hc13, hf⟩ := Option.bind_eq_some_iff.mp hf
      refine gq_calli (va_runV (As := [.int p1]) (rest := []) ⟨hx, hb, hml, hown, hts⟩ (ct_Lv_sizeOf l D cI cT ad hI u p1 z12 hc13) (cwV 1 hts (gt_V gt_193 gt_194 gt_195 gt_4 gt_196) rfl rfl rfl (by decide +kernel) ⟨Nat.le_of_ble_eq_true rfl, Nat.le_of_ble_eq_true rfl⟩) (gq_preV hH hK hN (va_recv hK (gq_one (c := 2) (k := 0) hH rfl (gk_c2 cI cT ad u)) (ci := 1) (q0 := 0) rfl rfl)) rfl rfl hl.1 rfl (lv_room (Nat.le_of_ble_eq_true rfl)) gd_Lv_mend_35 ⟨Nat.zero_le _, Nat.zero_le _⟩) hA hS (fun H locs hH hS => ?_)
      refine lv_aload_n hx hb gd_Lv_mend_38 rfl (lv_at hl 1 rfl) ?_
      refine lv_iload_n hx hb gd_Lv_mend_39 rfl (lv_at hl 0 rfl) ?_
      obtain ⟨z14, hc15, hf⟩ := Option.bind_eq_some_iff.mp hf
      refine gq_calli (va_runV (As := [.int (p1 + 1)]) (rest := [.int z12.1]) ⟨hx, hb, hml, hown, hts⟩ (ct_Lv_sizeOf l D cI cT ad hI z12.2 (p1 + 1) z14 hc15) (cwV 1 hts (gt_V gt_193 gt_194 gt_195 gt_4 gt_196) rfl rfl rfl (by decide +kernel) ⟨Nat.le_of_ble_eq_true rfl, Nat.le_of_ble_eq_true rfl⟩) (gq_preV hH hK hN (va_recv hK (gq_one (c := 2) (k := 0) hH rfl (gk_c2 cI cT ad z12.2)) (ci := 1) (q0 := 0) rfl rfl)) rfl rfl hl.1 rfl (lv_room (Nat.le_of_ble_eq_true rfl)) gd_Lv_mend_40 ⟨Nat.zero_le _, Nat.zero_le _⟩) hA hS (fun H locs hH hS => ?_)
      refine lv_iadd hx hb gd_Lv_mend_43 ?_
      refine lv_bipush (v := 8) hx hb gd_Lv_mend_44 (by decide) ?_
      refine lv_icmp_gt (tgt := 61) hx hb gd_Lv_mend_46 (by decide) (fun c22 => ?_) (fun c22 => ?_)
      · replace hf := gj_t c22 hf
        refine lv_aload_n hx hb gd_Lv_mend_61 rfl (lv_at hl 1 rfl) ?_
        refine lv_iload_n hx hb gd_Lv_mend_62 rfl (lv_at hl 2 rfl) ?_
        refine lv_iconst (v := 1) hx hb gd_Lv_mend_63 (by decide) ?_
        obtain ⟨z16, hc17, hf⟩ := Option.bind_eq_some_iff.mp hf
        refine gq_callv (va_runV (As := [.int p1, .int 1]) (rest := []) ⟨hx, hb, hml, hown, hts⟩ (ct_Lv_resize l D cI cT ad hI z14.2 p1 1 z16 hc17) (cwV 2 hts (gt_V gt_200 gt_202 (gt_sel (List.mem_of_getElem? (i := 8) rfl)) gt_4 gt_203) rfl rfl rfl (by decide +kernel) ⟨Nat.le_of_ble_eq_true rfl, Nat.le_of_ble_eq_true rfl⟩) (gq_preV hH hK hN (va_recv hK (gq_one (c := 2) (k := 0) hH rfl (gk_c2 cI cT ad z14.2)) (ci := 1) (q0 := 0) rfl rfl)) rfl rfl hl.1 rfl (lv_room (Nat.le_of_ble_eq_true rfl)) gd_Lv_mend_64 ⟨Nat.zero_le _, Nat.zero_le _⟩) hA hS (fun H locs hH hS => ?_)
        refine lv_aload_n hx hb gd_Lv_mend_67 rfl (lv_at hl 1 rfl) ?_
        refine lv_iload_n hx hb gd_Lv_mend_68 rfl (lv_at hl 0 rfl) ?_
        refine lv_iconst (v := (-1)) hx hb gd_Lv_mend_69 (by decide) ?_
        obtain ⟨z18, hc19, hf⟩ := Option.bind_eq_some_iff.mp hf
        refine gq_callv (va_runV (As := [.int (p1 + 1), .int (-1)]) (rest := []) ⟨hx, hb, hml, hown, hts⟩ (ct_Lv_resize l D cI cT ad hI z16 (p1 + 1) (-1) z18 hc19) (cwV 2 hts (gt_V gt_200 gt_202 (gt_sel (List.mem_of_getElem? (i := 8) rfl)) gt_4 gt_203) rfl rfl rfl (by decide +kernel) ⟨Nat.le_of_ble_eq_true rfl, Nat.le_of_ble_eq_true rfl⟩) (gq_preV hH hK hN (va_recv hK (gq_one (c := 2) (k := 0) hH rfl (gk_c2 cI cT ad z16)) (ci := 1) (q0 := 0) rfl rfl)) rfl rfl hl.1 rfl (lv_room (Nat.le_of_ble_eq_true rfl)) gd_Lv_mend_70 ⟨Nat.zero_le _, Nat.zero_le _⟩) hA hS (fun H locs hH hS => ?_)
        cases hf
        exact W.vret hx hb hr (fun t ht hW => ⟨⟨_, rfl, rfl, ⟨by rw [ht]; exact hH, va_K.moved hW.alike hK⟩⟩, hS.F ht⟩) hS.2.2 gd_Lv_mend_73
      · replace hf := gj_e c22 hf
        refine lv_aload_n hx hb gd_Lv_mend_49 rfl (lv_at hl 1 rfl) ?_
        refine lv_iload_n hx hb gd_Lv_mend_50 rfl (lv_at hl 2 rfl) ?_
        refine lv_iload_n hx hb gd_Lv_mend_51 rfl (lv_at hl 0 rfl) ?_
        refine va_mmin hx hb (hml.trans hl.1.symm) hown (ht _ gt_237) (ht _ gt_238) (ht _ gt_8) (ht _ gt_239) (Nat.le_of_ble_eq_true rfl) (Nat.le_of_ble_eq_true rfl) (Nat.zero_le _) (Nat.zero_le _) gd_Lv_mend_52 ?_
        refine W.eq (g2 := F0 m 55 ls (.int (fn_Ma_min p1 (p1 + 1)) :: [.ref (ad 2 0)])) rfl ?_
        obtain ⟨z20, hc21, hf⟩ := Option.bind_eq_some_iff.mp hf
        refine gq_callv (va_runV (As := [.int (fn_Ma_min p1 (p1 + 1))]) (rest := []) ⟨hx, hb, hml, hown, hts⟩ (ct_Lv_joinNext l D cI cT ad hI z14.2 (fn_Ma_min p1 (p1 + 1)) z20 hc21) (cwV 1 hts (gt_V gt_240 gt_242 (gt_sel (List.mem_of_getElem? (i := 13) rfl)) gt_4 gt_243) rfl rfl rfl (by decide +kernel) ⟨Nat.le_of_ble_eq_true rfl, Nat.le_of_ble_eq_true rfl⟩) (gq_preV hH hK hN (va_recv hK (gq_one (c := 2) (k := 0) hH rfl (gk_c2 cI cT ad z14.2)) (ci := 1) (q0 := 0) rfl rfl)) rfl rfl hl.1 rfl (lv_room (Nat.le_of_ble_eq_true rfl)) gd_Lv_mend_55 ⟨Nat.zero_le _, Nat.zero_le _⟩) hA hS (fun H locs hH hS => ?_)
        refine lv_goto (tgt := 73) hx hb gd_Lv_mend_58 (by decide) ?_
        cases hf
        exact W.vret hx hb hr (fun t ht hW => ⟨⟨_, rfl, rfl, ⟨by rw [ht]; exact hH, va_K.moved hW.alike hK⟩⟩, hS.F ht⟩) hS.2.2 gd_Lv_mend_73
  · replace hf := gj_e c26 hf
    refine lv_aload_n hx hb gd_Lv_mend_8 rfl (lv_at hl 0 rfl) ?_
    obtain ⟨z24, hc25, hf⟩ := Option.bind_eq_some_iff.mp hf
    refine gq_callv (va_runV (As := []) (rest := []) ⟨hx, hb, hml, hown, hts⟩ (ct_Lv_dropEmpty l D cI cT ad hI u  z24 hc25) (cwV 0 hts (gt_V gt_233 gt_235 (gt_sel (List.mem_of_getElem? (i := 12) rfl)) gt_4 gt_236) rfl rfl rfl (by decide +kernel) ⟨Nat.le_of_ble_eq_true rfl, Nat.le_of_ble_eq_true rfl⟩) (gq_preV hH hK hN (va_recv hK (gq_one (c := 2) (k := 0) hH rfl (gk_c2 cI cT ad u)) (ci := 1) (q0 := 0) rfl rfl)) rfl rfl hl.1 rfl (lv_room (Nat.le_of_ble_eq_true rfl)) gd_Lv_mend_9 ⟨Nat.zero_le _, Nat.zero_le _⟩) hA hS (fun H locs hH hS => ?_)
    cases hf
    exact W.vret hx hb hr (fun t ht hW => ⟨⟨_, rfl, rfl, ⟨by rw [ht]; exact hH, va_K.moved hW.alike hK⟩⟩, hS.F ht⟩) hS.2.2 gd_Lv_mend_12
end
section
set_option maxHeartbeats 4000000 in
set_option maxRecDepth 100000 in
theorem ct_Lv_remove (l : Launch) (D : va_G) (cI cT : ClassId) (ad : Nat → Nat → Nat) (hI : gq_I gk_vd ad) (u : gk_St) (p1 : Int32) (z : gk_St) (hf : fn_Lv_remove p1 u = some z) : Met l gy_Lv_remove gws_Lv_remove ({ frames := 3, cells := 0, slots := 0, locals := 66 }) (va_Pc [.ref (ad 2 0), .int p1] (gq_pre D gc_cl (gk_tys cI cT) gk_vd ad gk_NF gk_NM (gk_pc cI cT ad u))) (va_Qv (fun u2 => u2 = z) (fun u2 t => gq_B D gc_cl (gk_tys cI cT) gk_vd ad (gk_pc cI cT ad u2) t) (gq_A gk_vd ad)) 0 0 (gq_A gk_vd ad) := by
  refine Met.ofW (cc := gb_Lv_remove) (maxL := 4) (ret := none) (by decide) rfl ?_
  intro p e s m args below meth c s₁ B hml hv
  obtain ⟨rfl, hH, hK, hN⟩ := hv
  have hx := B.exec
  have hb := B.bytes
  have hr := B.returns
  have hts := atoms_spec (ws := gws_Lv_remove) B.pre
  have ht := fun (w : Cond) (h : w ∈ gt_T) => hts w (List.mem_cons_of_mem _ h)
  have hown : s.vm.findClass gR_Lv = some m.cls := findClass_of_methodNamed B.named
  have hlocks := B.notSynchronized
  have hA : ∀ q, (gq_A gk_vd ad) q → (gq_A gk_vd ad) q := fun _ h => h
  have hS : va_S (gq_A gk_vd ad) s.heap s.heap [] := va_S.rf
  have hl := lv_entry ([.ref (ad 2 0), .int p1]) (n := 4) (Nat.le_of_ble_eq_true rfl)
  rw [lg_entry_eq]
  generalize (lg_sl ([.ref (ad 2 0), .int p1]) ++ List.replicate (4 - (lg_sl ([.ref (ad 2 0), .int p1])).length) Slot.unset).toArray = ls at hl ⊢
  have hl : lv_has ls 4 [(0, .ref (ad 2 0)), (1, .int p1)] := hl
  have L43 : ∀ (n : Nat) (x1 : Int32) (x2 : Int32) (x3 : Int32) (u : gk_St) (H : Heap) (locs : List Loc) (ls : Array Slot), fn_Lv_remove_43 n x1 x2 x3 u = some z → gq_H D gc_cl gk_vd ad (gk_pc cI cT ad u) H → va_S (gq_A gk_vd ad) s.heap H locs → lv_has ls 4 [(0, .ref (ad 2 0)), (1, .int x1), (2, .int x2), (3, .int x3)] → W p l e (headSpec gws_Lv_remove ({ frames := 3, cells := 0, slots := 0, locals := 66 })).room s m ([.ref (ad 2 0), .int p1] : List Value).toArray below meth c H locs 0 0 (MQ below (va_Qv (fun u2 => u2 = z) (fun u2 t => gq_B D gc_cl (gk_tys cI cT) gk_vd ad (gk_pc cI cT ad u2) t) (gq_A gk_vd ad)) ([.ref (ad 2 0), .int p1] : List Value).toArray s 0 0 (gq_A gk_vd ad)) (F0 m 43 ls []) := by
    intro n
    induction n with
    | zero =>
      intro x1 x2 x3 u H locs ls hf
      have h0 : none = some z := hf
      cases h0
    | succ n ih =>
      intro x1 x2 x3 u H locs ls hf hH hS hl
      rw [fn_Lv_remove_43] at hf
      refine lv_iload_n hx hb gd_Lv_remove_43 rfl (lv_at hl 3 rfl) ?_
      refine lv_aload_n hx hb gd_Lv_remove_44 rfl (lv_at hl 0 rfl) ?_
      refine va_get (D := D) (ci := 1) (C := gR_Lv) (T := gT_Lv) (N := 4) hx hb hts (fun w h => List.mem_cons_of_mem _ (gl_Lv w h)) hown hK (gq_one (c := 2) (k := 0) hH rfl (gk_c2 cI cT ad u)) 0 rfl rfl 1 (by decide) (ht _ gt_70) (fun _ h9 => h9) rfl gd_Lv_remove_45 ?_
      refine lv_icmp_ge (tgt := 71) hx hb gd_Lv_remove_48 (by decide) (fun c12 => ?_) (fun c12 => ?_)
      · replace hf := gj_t c12 hf
        refine lv_aload_n hx hb gd_Lv_remove_71 rfl (lv_at hl 0 rfl) ?_
        refine lv_iload_n hx hb gd_Lv_remove_72 rfl (lv_at hl 2 rfl) ?_
        refine lv_iconst (v := (-1)) hx hb gd_Lv_remove_73 (by decide) ?_
        obtain ⟨z3, hc4, hf⟩ := Option.bind_eq_some_iff.mp hf
        refine gq_callv (va_runV (As := [.int x2, .int (-1)]) (rest := []) ⟨hx, hb, hml, hown, hts⟩ (ct_Lv_resize l D cI cT ad hI u x2 (-1) z3 hc4) (cwV 2 hts (gt_V gt_200 gt_202 (gt_sel (List.mem_of_getElem? (i := 8) rfl)) gt_4 gt_203) rfl rfl rfl (by decide +kernel) ⟨Nat.le_of_ble_eq_true rfl, Nat.le_of_ble_eq_true rfl⟩) (gq_preV hH hK hN (va_recv hK (gq_one (c := 2) (k := 0) hH rfl (gk_c2 cI cT ad u)) (ci := 1) (q0 := 0) rfl rfl)) rfl rfl hl.1 rfl (lv_room (Nat.le_of_ble_eq_true rfl)) gd_Lv_remove_74 ⟨Nat.zero_le _, Nat.zero_le _⟩) hA hS (fun H locs hH hS => ?_)
        refine lv_aload_n hx hb gd_Lv_remove_77 rfl (lv_at hl 0 rfl) ?_
        refine lv_iload_n hx hb gd_Lv_remove_78 rfl (lv_at hl 2 rfl) ?_
        obtain ⟨z5, hc6, hf⟩ := Option.bind_eq_some_iff.mp hf
        refine gq_calli (va_runV (As := [.int x2]) (rest := []) ⟨hx, hb, hml, hown, hts⟩ (ct_Lv_sizeOf l D cI cT ad hI z3 x2 z5 hc6) (cwV 1 hts (gt_V gt_193 gt_194 gt_195 gt_4 gt_196) rfl rfl rfl (by decide +kernel) ⟨Nat.le_of_ble_eq_true rfl, Nat.le_of_ble_eq_true rfl⟩) (gq_preV hH hK hN (va_recv hK (gq_one (c := 2) (k := 0) hH rfl (gk_c2 cI cT ad z3)) (ci := 1) (q0 := 0) rfl rfl)) rfl rfl hl.1 rfl (lv_room (Nat.le_of_ble_eq_true rfl)) gd_Lv_remove_79 ⟨Nat.zero_le _, Nat.zero_le _⟩) hA hS (fun H locs hH hS => ?_)
        refine lv_iconst (v := 3) hx hb gd_Lv_remove_82 (by decide) ?_
        refine lv_icmp_ge (tgt := 91) hx hb gd_Lv_remove_83 (by decide) (fun c9 => ?_) (fun c9 => ?_)
        · replace hf := gj_t c9 hf
          cases hf
          exact W.vret hx hb hr (fun t ht hW => ⟨⟨_, rfl, rfl, ⟨by rw [ht]; exact hH, va_K.moved hW.alike hK⟩⟩, hS.F ht⟩) hS.2.2 gd_Lv_remove_91
        · replace hf := gj_e c9 hf
          refine lv_aload_n hx hb gd_Lv_remove_86 rfl (lv_at hl 0 rfl) ?_
          refine lv_iload_n hx hb gd_Lv_remove_87 rfl (lv_at hl 2 rfl) ?_
          obtain ⟨z7, hc8, hf⟩ := Option.bind_eq_some_iff.mp hf
          refine gq_callv (va_runV (As := [.int x2]) (rest := []) ⟨hx, hb, hml, hown, hts⟩ (ct_Lv_mend l D cI cT ad hI z5.2 x2 z7 hc8) (cwV 1 hts (gt_V gt_229 gt_231 (gt_sel (List.mem_of_getElem? (i := 11) rfl)) gt_4 gt_232) rfl rfl rfl (by decide +kernel) ⟨Nat.le_of_ble_eq_true rfl, Nat.le_of_ble_eq_true rfl⟩) (gq_preV hH hK hN (va_recv hK (gq_one (c := 2) (k := 0) hH rfl (gk_c2 cI cT ad z5.2)) (ci := 1) (q0 := 0) rfl rfl)) rfl rfl hl.1 rfl (lv_room (Nat.le_of_ble_eq_true rfl)) gd_Lv_remove_88 ⟨Nat.zero_le _, Nat.zero_le _⟩) hA hS (fun H locs hH hS => ?_)
          cases hf
          exact W.vret hx hb hr (fun t ht hW => ⟨⟨_, rfl, rfl, ⟨by rw [ht]; exact hH, va_K.moved hW.alike hK⟩⟩, hS.F ht⟩) hS.2.2 gd_Lv_remove_91
      · replace hf := gj_e c12 hf
        refine lv_aload_n hx hb gd_Lv_remove_51 rfl (lv_at hl 0 rfl) ?_
        refine va_get (D := D) (ci := 1) (C := gR_Lv) (T := gT_Lv) (N := 4) hx hb hts (fun w h => List.mem_cons_of_mem _ (gl_Lv w h)) hown hK (gq_one (c := 2) (k := 0) hH rfl (gk_c2 cI cT ad u)) 0 rfl rfl 0 (by decide) (ht _ gt_69) (fun _ h9 => h9) rfl gd_Lv_remove_52 ?_
        refine lv_iload_n hx hb gd_Lv_remove_55 rfl (lv_at hl 3 rfl) ?_
        refine lv_aload_n hx hb gd_Lv_remove_56 rfl (lv_at hl 0 rfl) ?_
        refine va_get (D := D) (ci := 1) (C := gR_Lv) (T := gT_Lv) (N := 4) hx hb hts (fun w h => List.mem_cons_of_mem _ (gl_Lv w h)) hown hK (gq_one (c := 2) (k := 0) hH rfl (gk_c2 cI cT ad u)) 0 rfl rfl 0 (by decide) (ht _ gt_69) (fun _ h9 => h9) rfl gd_Lv_remove_57 ?_
        refine lv_iload_n hx hb gd_Lv_remove_60 rfl (lv_at hl 3 rfl) ?_
        refine lv_iconst (v := 1) hx hb gd_Lv_remove_61 (by decide) ?_
        refine lv_iadd hx hb gd_Lv_remove_62 ?_
        obtain ⟨hg10, hf⟩ := gj_g hf
        refine va_iald (D := D) hx hb hK (gq_one (c := 3) (k := 0) hH rfl (gk_c3 cI cT ad u)) 0 0 rfl rfl hg10 gd_Lv_remove_63 ?_
        obtain ⟨hg11, hf⟩ := gj_g hf
        refine gq_iast (D := D) (ca := 3) (ka := 0) (pp' := gk_pc cI cT ad (gk_sI u 5 (Int32.toNatClampNeg x3) (u.1 5 (Int32.toNatClampNeg (x3 + 1))))) hx hb hK hH hI hA rfl (gk_c3 cI cT ad u) 0 rfl hg11 (gk_w5 cI cT ad u (Int32.toNatClampNeg x3) (u.1 5 (Int32.toNatClampNeg (x3 + 1)))) (gk_o5 cI cT ad u (Int32.toNatClampNeg x3) (u.1 5 (Int32.toNatClampNeg (x3 + 1)))) hS gd_Lv_remove_64 (fun H locs hH hS => ?_)
        refine lv_iinc (v := x3 + 1) (lv' := [(3, .int (x3 + 1)), (0, .ref (ad 2 0)), (1, .int x1), (2, .int x2)]) hx hb gd_Lv_remove_65 hl (k := 3) rfl rfl (by decide) rfl (fun ls hl => ?_)
        refine lv_goto (tgt := 43) hx hb gd_Lv_remove_68 (by decide) ?_
        exact ih x1 x2 (x3 + 1) (gk_sI u 5 (Int32.toNatClampNeg x3) (u.1 5 (Int32.toNatClampNeg (x3 + 1)))) _ _ _ hf hH hS (lv_sub hl [1, 2, 3, 0] rfl)
  unfold fn_Lv_remove at hf
  refine lv_iload_n hx hb gd_Lv_remove_0 rfl (lv_at hl 1 rfl) ?_
  refine lv_if_lt (tgt := 24) hx hb gd_Lv_remove_1 (by decide) (fun c15 => ?_) (fun c15 => ?_)
  · replace hf := gj_t c15 hf
    cases hf
    exact W.vret hx hb hr (fun t ht hW => ⟨⟨_, rfl, rfl, ⟨by rw [ht]; exact hH, va_K.moved hW.alike hK⟩⟩, hS.F ht⟩) hS.2.2 gd_Lv_remove_24
  · replace hf := gj_e c15 hf
    refine lv_iload_n hx hb gd_Lv_remove_4 rfl (lv_at hl 1 rfl) ?_
    refine lv_aload_n hx hb gd_Lv_remove_5 rfl (lv_at hl 0 rfl) ?_
    refine va_get (D := D) (ci := 1) (C := gR_Lv) (T := gT_Lv) (N := 4) hx hb hts (fun w h => List.mem_cons_of_mem _ (gl_Lv w h)) hown hK (gq_one (c := 2) (k := 0) hH rfl (gk_c2 cI cT ad u)) 0 rfl rfl 1 (by decide) (ht _ gt_70) (fun _ h9 => h9) rfl gd_Lv_remove_6 ?_
    refine lv_icmp_ge (tgt := 24) hx hb gd_Lv_remove_9 (by decide) (fun c14 => ?_) (fun c14 => ?_)
    · replace hf := gj_t c14 hf
      cases hf
      exact W.vret hx hb hr (fun t ht hW => ⟨⟨_, rfl, rfl, ⟨by rw [ht]; exact hH, va_K.moved hW.alike hK⟩⟩, hS.F ht⟩) hS.2.2 gd_Lv_remove_24
    · replace hf := gj_e c14 hf
      refine lv_aload_n hx hb gd_Lv_remove_12 rfl (lv_at hl 0 rfl) ?_
      refine va_get (D := D) (ci := 1) (C := gR_Lv) (T := gT_Lv) (N := 4) hx hb hts (fun w h => List.mem_cons_of_mem _ (gl_Lv w h)) hown hK (gq_one (c := 2) (k := 0) hH rfl (gk_c2 cI cT ad u)) 0 rfl rfl 1 (by decide) (ht _ gt_70) (fun _ h9 => h9) rfl gd_Lv_remove_13 ?_
      refine lv_aload_n hx hb gd_Lv_remove_16 rfl (lv_at hl 0 rfl) ?_
      refine va_get (D := D) (ci := 1) (C := gR_Lv) (T := gT_Lv) (N := 4) hx hb hts (fun w h => List.mem_cons_of_mem _ (gl_Lv w h)) hown hK (gq_one (c := 2) (k := 0) hH rfl (gk_c2 cI cT ad u)) 0 rfl rfl 0 (by decide) (ht _ gt_69) (fun _ h9 => h9) rfl gd_Lv_remove_17 ?_
      refine va_alen (D := D) (v := 100) hx hb hK (gq_one (c := 3) (k := 0) hH rfl (gk_c3 cI cT ad u)) 0 0 rfl rfl rfl gd_Lv_remove_20 ?_
      refine lv_icmp_le (tgt := 25) hx hb gd_Lv_remove_21 (by decide) (fun c13 => ?_) (fun c13 => ?_)
      · replace hf := gj_t c13 hf
        refine lv_aload_n hx hb gd_Lv_remove_25 rfl (lv_at hl 0 rfl) ?_
        refine lv_iload_n hx hb gd_Lv_remove_26 rfl (lv_at hl 1 rfl) ?_
        obtain ⟨z1, hc2, hf⟩ := Option.bind_eq_some_iff.mp hf
        refine gq_calli (va_runV (As := [.int p1]) (rest := []) ⟨hx, hb, hml, hown, hts⟩ (ct_Lv_leafOf l D cI cT ad hI u p1 z1 hc2) (cwV 1 hts (gt_V gt_189 gt_191 (gt_sel (List.mem_of_getElem? (i := 7) rfl)) gt_4 gt_192) rfl rfl rfl (by decide +kernel) ⟨Nat.le_of_ble_eq_true rfl, Nat.le_of_ble_eq_true rfl⟩) (gq_preV hH hK hN (va_recv hK (gq_one (c := 2) (k := 0) hH rfl (gk_c2 cI cT ad u)) (ci := 1) (q0 := 0) rfl rfl)) rfl rfl hl.1 rfl (lv_room (Nat.le_of_ble_eq_true rfl)) gd_Lv_remove_27 ⟨Nat.zero_le _, Nat.zero_le _⟩) hA hS (fun H locs hH hS => ?_)
        refine lv_istore_n (lv' := [(2, .int z1.1), (0, .ref (ad 2 0)), (1, .int p1)]) hx hb gd_Lv_remove_30 rfl hl (by decide) rfl (fun ls hl => ?_)
        refine lv_aload_n hx hb gd_Lv_remove_31 rfl (lv_at hl 1 rfl) ?_
        refine lv_dup hx hb gd_Lv_remove_32 rfl ?_
        refine va_get (D := D) (ci := 1) (C := gR_Lv) (T := gT_Lv) (N := 4) hx hb hts (fun w h => List.mem_cons_of_mem _ (gl_Lv w h)) hown hK (gq_one (c := 2) (k := 0) hH rfl (gk_c2 cI cT ad z1.2)) 0 rfl rfl 1 (by decide) (ht _ gt_70) (fun _ h9 => h9) rfl gd_Lv_remove_33 ?_
        refine lv_iconst (v := 1) hx hb gd_Lv_remove_36 (by decide) ?_
        refine lv_isub hx hb gd_Lv_remove_37 ?_
        refine gq_put (D := D) (ci := 1) (C := gR_Lv) (T := gT_Lv) (N := 4) (ca := 2) (ka := 0) (pp' := gk_pc cI cT ad (gk_sI z1.2 6 0 ((z1.2.1 6 0) - 1))) (ty := .int) hx hb hts (fun w h => List.mem_cons_of_mem _ (gl_Lv w h)) gF_Lv gf_Lv gn_Lv hown hK hH hI hA rfl (gk_c2 cI cT ad z1.2) rfl 1 (by decide) (ht _ gt_70) (fun _ h9 => h9) rfl (by decide +kernel) rfl rfl (Nat.le_of_ble_eq_true rfl) (gk_w6 cI cT ad z1.2 ((z1.2.1 6 0) - 1)) (gk_o6 cI cT ad z1.2 ((z1.2.1 6 0) - 1)) hS gd_Lv_remove_38 (fun H locs hH hS => ?_)
        refine lv_iload_n hx hb gd_Lv_remove_41 rfl (lv_at hl 2 rfl) ?_
        refine lv_istore_n (lv' := [(3, .int p1), (2, .int z1.1), (0, .ref (ad 2 0)), (1, .int p1)]) hx hb gd_Lv_remove_42 rfl hl (by decide) rfl (fun ls hl => ?_)
        exact L43 gk_fu p1 z1.1 p1 (gk_sI z1.2 6 0 ((z1.2.1 6 0) - 1)) _ _ _ hf hH hS (lv_sub hl [2, 3, 1, 0] rfl)
      · replace hf := gj_e c13 hf
        cases hf
        exact W.vret hx hb hr (fun t ht hW => ⟨⟨_, rfl, rfl, ⟨by rw [ht]; exact hH, va_K.moved hW.alike hK⟩⟩, hS.F ht⟩) hS.2.2 gd_Lv_remove_24
set_option maxHeartbeats 4000000 in
set_option maxRecDepth 100000 in
theorem ct_Bk_takeOut (l : Launch) (D : va_G) (cI cT : ClassId) (ad : Nat → Nat → Nat) (hI : gq_I gk_vd ad) (u : gk_St) (q1 : Nat) (hq1 : q1 < 100) (p2 : Int32) (z : gk_St) (hf : fn_Bk_takeOut q1 p2 u = some z) : Met l gy_Bk_takeOut gws_Bk_takeOut ({ frames := 4, cells := 0, slots := 0, locals := 89 }) (va_Pc [.ref (ad 0 0), .ref (ad 7 q1), .int p2] (gq_pre D gc_cl (gk_tys cI cT) gk_vd ad gk_NF gk_NM (gk_pc cI cT ad u))) (va_Qv (fun u2 => u2 = z) (fun u2 t => gq_B D gc_cl (gk_tys cI cT) gk_vd ad (gk_pc cI cT ad u2) t) (gq_A gk_vd ad)) 0 0 (gq_A gk_vd ad) := by
  refine Met.ofW (cc := gb_Bk_takeOut) (maxL := 3) (ret := none) (by decide) rfl ?_
  intro p e s m args below meth c s₁ B hml hv
  obtain ⟨rfl, hH, hK, hN⟩ := hv
  have hx := B.exec
  have hb := B.bytes
  have hr := B.returns
  have hts := atoms_spec (ws := gws_Bk_takeOut) B.pre
  have ht := fun (w : Cond) (h : w ∈ gt_T) => hts w (List.mem_cons_of_mem _ h)
  have hown : s.vm.findClass gR_Bk = some m.cls := findClass_of_methodNamed B.named
  have hlocks := B.notSynchronized
  have hA : ∀ q, (gq_A gk_vd ad) q → (gq_A gk_vd ad) q := fun _ h => h
  have hS : va_S (gq_A gk_vd ad) s.heap s.heap [] := va_S.rf
  have hl := lv_entry ([.ref (ad 0 0), .ref (ad 7 q1), .int p2]) (n := 3) (Nat.le_of_ble_eq_true rfl)
  rw [lg_entry_eq]
  generalize (lg_sl ([.ref (ad 0 0), .ref (ad 7 q1), .int p2]) ++ List.replicate (3 - (lg_sl ([.ref (ad 0 0), .ref (ad 7 q1), .int p2])).length) Slot.unset).toArray = ls at hl ⊢
  have hl : lv_has ls 3 [(0, .ref (ad 0 0)), (1, .ref (ad 7 q1)), (2, .int p2)] := hl
  unfold fn_Bk_takeOut at hf
  refine lv_aload_n hx hb gd_Bk_takeOut_0 rfl (lv_at hl 1 rfl) ?_
  refine lv_iconst (v := 0) hx hb gd_Bk_takeOut_1 (by decide) ?_
  refine gq_putN (D := D) (ci := 3) (C := gR_Tm) (T := gT_Tm) (N := 5) (ca := 7) (ka := q1) (pp' := gk_pc cI cT ad (gk_sI u 1 q1 0)) (ty := .boolean) hx hb hts (fun w h => List.mem_cons_of_mem _ (gl_Tm w h)) gF_Tm gf_Tm gn_Tm hown hK hH hI hA hq1 (gk_c7 cI cT ad u q1) rfl 1 (by decide) (va_Nw.use rfl (hN.1 _ (List.mem_of_getElem? (i := 2) rfl))) (fun _ h9 => h9) rfl (by decide +kernel) rfl rfl (Nat.le_of_ble_eq_true rfl) (gk_w1 cI cT ad u q1 0) (gk_o1 cI cT ad u q1 0) hS gd_Bk_takeOut_2 (fun H locs hH hS => ?_)
  refine lv_aload_n hx hb gd_Bk_takeOut_5 rfl (lv_at hl 0 rfl) ?_
  refine va_get (D := D) (ci := 0) (C := gR_Bk) (T := gT_Bk) (N := 5) hx hb hts (fun w h => List.mem_cons_of_mem _ (gl_Bk w h)) hown hK (gq_one (c := 0) (k := 0) hH rfl (gk_c0 cI cT ad (gk_sI u 1 q1 0))) 0 rfl rfl 2 (by decide) (ht _ gt_87) (fun _ h9 => h9) rfl gd_Bk_takeOut_6 ?_
  refine lv_iload_n hx hb gd_Bk_takeOut_9 rfl (lv_at hl 2 rfl) ?_
  obtain ⟨z1, hc2, hf⟩ := Option.bind_eq_some_iff.mp hf
  refine gq_callv (va_runV (As := [.int p2]) (rest := []) ⟨hx, hb, hml, hown, hts⟩ (ct_Lv_remove l D cI cT ad hI (gk_sI u 1 q1 0) p2 z1 hc2) (cwV 1 hts (gt_V gt_225 gt_226 gt_227 gt_4 gt_228) rfl rfl rfl (by decide +kernel) ⟨Nat.le_of_ble_eq_true rfl, Nat.le_of_ble_eq_true rfl⟩) (gq_preV hH hK hN (va_recv hK (gq_one (c := 2) (k := 0) hH rfl (gk_c2 cI cT ad (gk_sI u 1 q1 0))) (ci := 1) (q0 := 0) rfl rfl)) rfl rfl hl.1 rfl (lv_room (Nat.le_of_ble_eq_true rfl)) gd_Bk_takeOut_10 ⟨Nat.zero_le _, Nat.zero_le _⟩) hA hS (fun H locs hH hS => ?_)
  cases hf
  exact W.vret hx hb hr (fun t ht hW => ⟨⟨_, rfl, rfl, ⟨by rw [ht]; exact hH, va_K.moved hW.alike hK⟩⟩, hS.F ht⟩) hS.2.2 gd_Bk_takeOut_13
set_option maxHeartbeats 4000000 in
set_option maxRecDepth 100000 in
theorem ct_Bk_drop (l : Launch) (D : va_G) (cI cT : ClassId) (ad : Nat → Nat → Nat) (hI : gq_I gk_vd ad) (u : gk_St) (p1 : Int32) (z : Int32 × gk_St) (hf : fn_Bk_drop p1 u = some z) : Met l gy_Bk_drop gws_Bk_drop ({ frames := 5, cells := 0, slots := 0, locals := 111 }) (va_Pc [.ref (ad 0 0), .int p1] (gq_pre D gc_cl (gk_tys cI cT) gk_vd ad gk_NF gk_NM (gk_pc cI cT ad u))) (va_Qi (fun r u2 => r = z.1 ∧ u2 = z.2) (fun u2 t => gq_B D gc_cl (gk_tys cI cT) gk_vd ad (gk_pc cI cT ad u2) t) (gq_A gk_vd ad)) 0 0 (gq_A gk_vd ad) := by
  refine Met.ofW (cc := gb_Bk_drop) (maxL := 3) (ret := (some .int)) (by decide) rfl ?_
  intro p e s m args below meth c s₁ B hml hv
  obtain ⟨rfl, hH, hK, hN⟩ := hv
  have hx := B.exec
  have hb := B.bytes
  have hr := B.returns
  have hts := atoms_spec (ws := gws_Bk_drop) B.pre
  have ht := fun (w : Cond) (h : w ∈ gt_T) => hts w (List.mem_cons_of_mem _ h)
  have hown : s.vm.findClass gR_Bk = some m.cls := findClass_of_methodNamed B.named
  have hlocks := B.notSynchronized
  have hA : ∀ q, (gq_A gk_vd ad) q → (gq_A gk_vd ad) q := fun _ h => h
  have hS : va_S (gq_A gk_vd ad) s.heap s.heap [] := va_S.rf
  have hl := lv_entry ([.ref (ad 0 0), .int p1]) (n := 3) (Nat.le_of_ble_eq_true rfl)
  rw [lg_entry_eq]
  generalize (lg_sl ([.ref (ad 0 0), .int p1]) ++ List.replicate (3 - (lg_sl ([.ref (ad 0 0), .int p1])).length) Slot.unset).toArray = ls at hl ⊢
  have hl : lv_has ls 3 [(0, .ref (ad 0 0)), (1, .int p1)] := hl
  unfold fn_Bk_drop at hf
  refine lv_aload_n hx hb gd_Bk_drop_0 rfl (lv_at hl 0 rfl) ?_
  refine lv_iload_n hx hb gd_Bk_drop_1 rfl (lv_at hl 1 rfl) ?_
  obtain ⟨⟨o3, u4⟩, hc2, hf⟩ := Option.bind_eq_some_iff.mp hf
  refine gq_calle (va_runV (As := [.int p1]) (rest := []) ⟨hx, hb, hml, hown, hts⟩ (ct_Bk_inBook l D cI cT ad hI u p1 (o3, u4) hc2) (cwV 1 hts (gt_V gt_147 gt_149 (gt_sel (List.mem_of_getElem? (i := 3) rfl)) gt_1 gt_150) rfl rfl rfl (by decide +kernel) ⟨Nat.le_of_ble_eq_true rfl, Nat.le_of_ble_eq_true rfl⟩) (gq_preV hH hK hN (va_recv hK (gq_one (c := 0) (k := 0) hH rfl (gk_c0 cI cT ad u)) (ci := 0) (q0 := 0) rfl rfl)) rfl rfl hl.1 rfl (lv_room (Nat.le_of_ble_eq_true rfl)) gd_Bk_drop_2 ⟨Nat.zero_le _, Nat.zero_le _⟩) hA hS (fun H locs hH hS => ?_)
  cases o3 with
  | none =>
    have hH : gq_H D gc_cl gk_vd ad (gk_pc cI cT ad u4) H := hH
    refine W.eq (g2 := F0 m 5 ls [.null]) rfl ?_
    dsimp only at hf
    refine lv_astore_nN (lv' := [(2, .null), (0, .ref (ad 0 0)), (1, .int p1)]) hx hb gd_Bk_drop_5 rfl hl (by decide) rfl (fun ls hl => ?_)
    refine lv_aload_nN hx hb gd_Bk_drop_6 rfl (lv_at hl 0 rfl) ?_
    refine lv_ifnullN (tgt := 17) hx hb gd_Bk_drop_7 (by decide) ?_
    refine lv_iconst (v := (-1)) hx hb gd_Bk_drop_17 (by decide) ?_
    cases hf
    exact W.iret hx hb hr (fun t ht hW => ⟨⟨_, _, rfl, ⟨rfl, rfl⟩, ⟨by rw [ht]; exact hH, va_K.moved hW.alike hK⟩⟩, hS.F ht⟩) hS.2.2 gd_Bk_drop_18
  | some k5 =>
    have hH : gq_H D gc_cl gk_vd ad (gk_pc cI cT ad u4) H := hH
    refine W.eq (g2 := F0 m 5 ls [.ref (ad 7 k5)]) rfl ?_
    dsimp only at hf
    refine lv_astore_n (lv' := [(2, .ref (ad 7 k5)), (0, .ref (ad 0 0)), (1, .int p1)]) hx hb gd_Bk_drop_5 rfl hl (by decide) rfl (fun ls hl => ?_)
    refine lv_aload_n hx hb gd_Bk_drop_6 rfl (lv_at hl 0 rfl) ?_
    refine lv_ifnull hx hb gd_Bk_drop_7 ?_
    refine lv_aload_n hx hb gd_Bk_drop_10 rfl (lv_at hl 0 rfl) ?_
    refine va_getN (D := D) (ci := 3) (C := gR_Tm) (T := gT_Tm) (N := 5) hx hb hts (fun w h => List.mem_cons_of_mem _ (gl_Tm w h)) hown hK (gq_one (c := 7) (k := k5) hH (ok_Bk_inBook hc2) (gk_c7 cI cT ad u4 k5)) 0 rfl rfl 3 (by decide) (va_Nw.use rfl (hN.1 _ (List.mem_of_getElem? (i := 4) rfl))) (fun _ h9 => h9) rfl gd_Bk_drop_11 ?_
    refine lv_if_ne (tgt := 19) hx hb gd_Bk_drop_14 (by decide) (fun c13 => ?_) (fun c13 => ?_)
    · replace hf := gj_e c13 hf
      refine lv_aload_n hx hb gd_Bk_drop_19 rfl (lv_at hl 0 rfl) ?_
      refine lv_dup hx hb gd_Bk_drop_20 rfl ?_
      refine va_getN (D := D) (ci := 3) (C := gR_Tm) (T := gT_Tm) (N := 5) hx hb hts (fun w h => List.mem_cons_of_mem _ (gl_Tm w h)) hown hK (gq_one (c := 7) (k := k5) hH (ok_Bk_inBook hc2) (gk_c7 cI cT ad u4 k5)) 0 rfl rfl 3 (by decide) (va_Nw.use rfl (hN.1 _ (List.mem_of_getElem? (i := 4) rfl))) (fun _ h9 => h9) rfl gd_Bk_drop_21 ?_
      refine lv_iconst (v := 1) hx hb gd_Bk_drop_24 (by decide) ?_
      refine lv_isub hx hb gd_Bk_drop_25 ?_
      refine gq_putN (D := D) (ci := 3) (C := gR_Tm) (T := gT_Tm) (N := 5) (ca := 7) (ka := k5) (pp' := gk_pc cI cT ad (gk_sI u4 3 k5 ((u4.1 3 k5) - 1))) (ty := .int) hx hb hts (fun w h => List.mem_cons_of_mem _ (gl_Tm w h)) gF_Tm gf_Tm gn_Tm hown hK hH hI hA (ok_Bk_inBook hc2) (gk_c7 cI cT ad u4 k5) rfl 3 (by decide) (va_Nw.use rfl (hN.1 _ (List.mem_of_getElem? (i := 4) rfl))) (fun _ h9 => h9) rfl (by decide +kernel) rfl rfl (Nat.le_of_ble_eq_true rfl) (gk_w3 cI cT ad u4 k5 ((u4.1 3 k5) - 1)) (gk_o3 cI cT ad u4 k5 ((u4.1 3 k5) - 1)) hS gd_Bk_drop_26 (fun H locs hH hS => ?_)
      refine lv_aload_n hx hb gd_Bk_drop_29 rfl (lv_at hl 0 rfl) ?_
      obtain ⟨z6, hc7, hf⟩ := Option.bind_eq_some_iff.mp hf
      refine gq_calli (va_runV (As := []) (rest := []) ⟨hx, hb, hml, hown, hts⟩ (ct_Tm_isNeeded l D cI cT ad hI (gk_sI u4 3 k5 ((u4.1 3 k5) - 1)) k5 (ok_Bk_inBook hc2) z6 hc7) (cwV 0 hts (gt_V gt_212 gt_213 gt_214 gt_3 gt_215) rfl rfl rfl (by decide +kernel) ⟨Nat.le_of_ble_eq_true rfl, Nat.le_of_ble_eq_true rfl⟩) (gq_preV hH hK hN (va_recv hK (gq_one (c := 7) (k := k5) hH (ok_Bk_inBook hc2) (gk_c7 cI cT ad (gk_sI u4 3 k5 ((u4.1 3 k5) - 1)) k5)) (ci := 3) (q0 := 0) rfl rfl)) rfl rfl hl.1 rfl (lv_room (Nat.le_of_ble_eq_true rfl)) gd_Bk_drop_30 ⟨Nat.zero_le _, Nat.zero_le _⟩) hA hS (fun H locs hH hS => ?_)
      refine lv_if_ne (tgt := 49) hx hb gd_Bk_drop_33 (by decide) (fun c12 => ?_) (fun c12 => ?_)
      · replace hf := gj_e c12 hf
        refine lv_aload_n hx hb gd_Bk_drop_49 rfl (lv_at hl 0 rfl) ?_
        refine va_getN (D := D) (ci := 3) (C := gR_Tm) (T := gT_Tm) (N := 5) hx hb hts (fun w h => List.mem_cons_of_mem _ (gl_Tm w h)) hown hK (gq_one (c := 7) (k := k5) hH (ok_Bk_inBook hc2) (gk_c7 cI cT ad z6.2 k5)) 0 rfl rfl 3 (by decide) (va_Nw.use rfl (hN.1 _ (List.mem_of_getElem? (i := 4) rfl))) (fun _ h9 => h9) rfl gd_Bk_drop_50 ?_
        cases hf
        exact W.iret hx hb hr (fun t ht hW => ⟨⟨_, _, rfl, ⟨rfl, rfl⟩, ⟨by rw [ht]; exact hH, va_K.moved hW.alike hK⟩⟩, hS.F ht⟩) hS.2.2 gd_Bk_drop_53
      · replace hf := gj_t c12 hf
        refine lv_aload_n hx hb gd_Bk_drop_36 rfl (lv_at hl 1 rfl) ?_
        refine lv_aload_n hx hb gd_Bk_drop_37 rfl (lv_at hl 0 rfl) ?_
        refine lv_aload_n hx hb gd_Bk_drop_38 rfl (lv_at hl 1 rfl) ?_
        refine va_get (D := D) (ci := 0) (C := gR_Bk) (T := gT_Bk) (N := 5) hx hb hts (fun w h => List.mem_cons_of_mem _ (gl_Bk w h)) hown hK (gq_one (c := 0) (k := 0) hH rfl (gk_c0 cI cT ad z6.2)) 0 rfl rfl 2 (by decide) (ht _ gt_87) (fun _ h9 => h9) rfl gd_Bk_drop_39 ?_
        refine lv_iload_n hx hb gd_Bk_drop_42 rfl (lv_at hl 2 rfl) ?_
        obtain ⟨z8, hc9, hf⟩ := Option.bind_eq_some_iff.mp hf
        refine gq_calli (va_runV (As := [.int p1]) (rest := [.ref (ad 7 k5), .ref (ad 0 0)]) ⟨hx, hb, hml, hown, hts⟩ (ct_Lv_placeOf l D cI cT ad hI z6.2 p1 z8 hc9) (cwV 1 hts (gt_V gt_216 gt_217 gt_218 gt_4 gt_219) rfl rfl rfl (by decide +kernel) ⟨Nat.le_of_ble_eq_true rfl, Nat.le_of_ble_eq_true rfl⟩) (gq_preV hH hK hN (va_recv hK (gq_one (c := 2) (k := 0) hH rfl (gk_c2 cI cT ad z6.2)) (ci := 1) (q0 := 0) rfl rfl)) rfl rfl hl.1 rfl (lv_room (Nat.le_of_ble_eq_true rfl)) gd_Bk_drop_43 ⟨Nat.zero_le _, Nat.zero_le _⟩) hA hS (fun H locs hH hS => ?_)
        obtain ⟨z10, hc11, hf⟩ := Option.bind_eq_some_iff.mp hf
        refine gq_callv (va_runV (As := [.ref (ad 7 k5), .int z8.1]) (rest := []) ⟨hx, hb, hml, hown, hts⟩ (ct_Bk_takeOut l D cI cT ad hI z8.2 k5 (ok_Bk_inBook hc2) z8.1 z10 hc11) (cwV 2 hts (gt_V gt_221 gt_223 (gt_sel (List.mem_of_getElem? (i := 10) rfl)) gt_1 gt_224) rfl rfl rfl (by decide +kernel) ⟨Nat.le_of_ble_eq_true rfl, Nat.le_of_ble_eq_true rfl⟩) (gq_preV hH hK hN (va_recv hK (gq_one (c := 0) (k := 0) hH rfl (gk_c0 cI cT ad z8.2)) (ci := 0) (q0 := 0) rfl rfl)) rfl rfl hl.1 rfl (lv_room (Nat.le_of_ble_eq_true rfl)) gd_Bk_drop_46 ⟨Nat.zero_le _, Nat.zero_le _⟩) hA hS (fun H locs hH hS => ?_)
        refine lv_aload_n hx hb gd_Bk_drop_49 rfl (lv_at hl 0 rfl) ?_
        refine va_getN (D := D) (ci := 3) (C := gR_Tm) (T := gT_Tm) (N := 5) hx hb hts (fun w h => List.mem_cons_of_mem _ (gl_Tm w h)) hown hK (gq_one (c := 7) (k := k5) hH (ok_Bk_inBook hc2) (gk_c7 cI cT ad z10 k5)) 0 rfl rfl 3 (by decide) (va_Nw.use rfl (hN.1 _ (List.mem_of_getElem? (i := 4) rfl))) (fun _ h9 => h9) rfl gd_Bk_drop_50 ?_
        cases hf
        exact W.iret hx hb hr (fun t ht hW => ⟨⟨_, _, rfl, ⟨rfl, rfl⟩, ⟨by rw [ht]; exact hH, va_K.moved hW.alike hK⟩⟩, hS.F ht⟩) hS.2.2 gd_Bk_drop_53
    · replace hf := gj_t c13 hf
      refine lv_iconst (v := (-1)) hx hb gd_Bk_drop_17 (by decide) ?_
      cases hf
      exact W.iret hx hb hr (fun t ht hW => ⟨⟨_, _, rfl, ⟨rfl, rfl⟩, ⟨by rw [ht]; exact hH, va_K.moved hW.alike hK⟩⟩, hS.F ht⟩) hS.2.2 gd_Bk_drop_18
set_option maxHeartbeats 4000000 in
set_option maxRecDepth 100000 in
theorem ct_Bk_find (l : Launch) (D : va_G) (cI cT : ClassId) (ad : Nat → Nat → Nat) (hI : gq_I gk_vd ad) (u : gk_St) (p1 : Int32) (z : Int32 × gk_St) (hf : fn_Bk_find p1 u = some z) : Met l gy_Bk_find gws_Bk_find ({ frames := 5, cells := 0, slots := 0, locals := 111 }) (va_Pc [.ref (ad 0 0), .int p1] (gq_pre D gc_cl (gk_tys cI cT) gk_vd ad gk_NF gk_NM (gk_pc cI cT ad u))) (va_Qi (fun r u2 => r = z.1 ∧ u2 = z.2) (fun u2 t => gq_B D gc_cl (gk_tys cI cT) gk_vd ad (gk_pc cI cT ad u2) t) (gq_A gk_vd ad)) 0 0 (gq_A gk_vd ad) := by
  refine Met.ofW (cc := gb_Bk_find) (maxL := 3) (ret := (some .int)) (by decide) rfl ?_
  intro p e s m args below meth c s₁ B hml hv
  obtain ⟨rfl, hH, hK, hN⟩ := hv
  have hx := B.exec
  have hb := B.bytes
  have hr := B.returns
  have hts := atoms_spec (ws := gws_Bk_find) B.pre
  have ht := fun (w : Cond) (h : w ∈ gt_T) => hts w (List.mem_cons_of_mem _ h)
  have hown : s.vm.findClass gR_Bk = some m.cls := findClass_of_methodNamed B.named
  have hlocks := B.notSynchronized
  have hA : ∀ q, (gq_A gk_vd ad) q → (gq_A gk_vd ad) q := fun _ h => h
  have hS : va_S (gq_A gk_vd ad) s.heap s.heap [] := va_S.rf
  have hl := lv_entry ([.ref (ad 0 0), .int p1]) (n := 3) (Nat.le_of_ble_eq_true rfl)
  rw [lg_entry_eq]
  generalize (lg_sl ([.ref (ad 0 0), .int p1]) ++ List.replicate (3 - (lg_sl ([.ref (ad 0 0), .int p1])).length) Slot.unset).toArray = ls at hl ⊢
  have hl : lv_has ls 3 [(0, .ref (ad 0 0)), (1, .int p1)] := hl
  unfold fn_Bk_find at hf
  refine lv_iload_n hx hb gd_Bk_find_0 rfl (lv_at hl 1 rfl) ?_
  obtain ⟨z1, hc2, hf⟩ := Option.bind_eq_some_iff.mp hf
  refine gq_calli (va_runS (As := [.int p1]) (rest := []) ⟨hx, hb, hml, hown, hts⟩ (ct_Bk_isKind l D cI cT ad hI u p1 z1 hc2) (va_cwS 1 hts (gt_S gt_128 gt_129 gt_1 gt_130) rfl rfl rfl (by decide +kernel) ⟨Nat.le_of_ble_eq_true rfl, Nat.le_of_ble_eq_true rfl⟩) (gq_preS hH hK hN) rfl rfl hl.1 rfl (lv_room (Nat.le_of_ble_eq_true rfl)) gd_Bk_find_1 ⟨Nat.zero_le _, Nat.zero_le _⟩) hA hS (fun H locs hH hS => ?_)
  refine lv_if_ne (tgt := 9) hx hb gd_Bk_find_4 (by decide) (fun c10 => ?_) (fun c10 => ?_)
  · replace hf := gj_e c10 hf
    refine lv_aload_n hx hb gd_Bk_find_9 rfl (lv_at hl 0 rfl) ?_
    refine va_get (D := D) (ci := 0) (C := gR_Bk) (T := gT_Bk) (N := 5) hx hb hts (fun w h => List.mem_cons_of_mem _ (gl_Bk w h)) hown hK (gq_one (c := 0) (k := 0) hH rfl (gk_c0 cI cT ad z1.2)) 0 rfl rfl 2 (by decide) (ht _ gt_87) (fun _ h9 => h9) rfl gd_Bk_find_10 ?_
    refine lv_aload_n hx hb gd_Bk_find_13 rfl (lv_at hl 0 rfl) ?_
    refine lv_iload_n hx hb gd_Bk_find_14 rfl (lv_at hl 1 rfl) ?_
    obtain ⟨z3, hc4, hf⟩ := Option.bind_eq_some_iff.mp hf
    refine gq_calli (va_runV (As := [.int p1]) (rest := [.ref (ad 2 0)]) ⟨hx, hb, hml, hown, hts⟩ (ct_Bk_placeOfTape l D cI cT ad hI z1.2 p1 z3 hc4) (cwV 1 hts (gt_V gt_135 gt_137 (gt_sel (List.mem_of_getElem? (i := 1) rfl)) gt_1 gt_138) rfl rfl rfl (by decide +kernel) ⟨Nat.le_of_ble_eq_true rfl, Nat.le_of_ble_eq_true rfl⟩) (gq_preV hH hK hN (va_recv hK (gq_one (c := 0) (k := 0) hH rfl (gk_c0 cI cT ad z1.2)) (ci := 0) (q0 := 0) rfl rfl)) rfl rfl hl.1 rfl (lv_room (Nat.le_of_ble_eq_true rfl)) gd_Bk_find_15 ⟨Nat.zero_le _, Nat.zero_le _⟩) hA hS (fun H locs hH hS => ?_)
    obtain ⟨z5, hc6, hf⟩ := Option.bind_eq_some_iff.mp hf
    refine gq_calli (va_runV (As := [.int z3.1]) (rest := []) ⟨hx, hb, hml, hown, hts⟩ (ct_Lv_numberAt l D cI cT ad hI z3.2 z3.1 z5 hc6) (cwV 1 hts (gt_V gt_139 gt_140 gt_141 gt_4 gt_142) rfl rfl rfl (by decide +kernel) ⟨Nat.le_of_ble_eq_true rfl, Nat.le_of_ble_eq_true rfl⟩) (gq_preV hH hK hN (va_recv hK (gq_one (c := 2) (k := 0) hH rfl (gk_c2 cI cT ad z3.2)) (ci := 1) (q0 := 0) rfl rfl)) rfl rfl hl.1 rfl (lv_room (Nat.le_of_ble_eq_true rfl)) gd_Bk_find_18 ⟨Nat.zero_le _, Nat.zero_le _⟩) hA hS (fun H locs hH hS => ?_)
    refine lv_istore_n (lv' := [(2, .int z5.1), (0, .ref (ad 0 0)), (1, .int p1)]) hx hb gd_Bk_find_21 rfl hl (by decide) rfl (fun ls hl => ?_)
    refine lv_aload_n hx hb gd_Bk_find_22 rfl (lv_at hl 1 rfl) ?_
    refine lv_iload_n hx hb gd_Bk_find_23 rfl (lv_at hl 0 rfl) ?_
    refine lv_iload_n hx hb gd_Bk_find_24 rfl (lv_at hl 2 rfl) ?_
    obtain ⟨z7, hc8, hf⟩ := Option.bind_eq_some_iff.mp hf
    refine gq_calli (va_runV (As := [.int z5.1, .int p1]) (rest := []) ⟨hx, hb, hml, hown, hts⟩ (ct_Bk_isTape l D cI cT ad hI z5.2 z5.1 p1 z7 hc8) (cwV 2 hts (gt_V gt_165 gt_167 (gt_sel (List.mem_of_getElem? (i := 4) rfl)) gt_1 gt_168) rfl rfl rfl (by decide +kernel) ⟨Nat.le_of_ble_eq_true rfl, Nat.le_of_ble_eq_true rfl⟩) (gq_preV hH hK hN (va_recv hK (gq_one (c := 0) (k := 0) hH rfl (gk_c0 cI cT ad z5.2)) (ci := 0) (q0 := 0) rfl rfl)) rfl rfl hl.1 rfl (lv_room (Nat.le_of_ble_eq_true rfl)) gd_Bk_find_25 ⟨Nat.zero_le _, Nat.zero_le _⟩) hA hS (fun H locs hH hS => ?_)
    refine lv_if_eq (tgt := 35) hx hb gd_Bk_find_28 (by decide) (fun c9 => ?_) (fun c9 => ?_)
    · replace hf := gj_t c9 hf
      refine lv_bipush (v := (-2)) hx hb gd_Bk_find_35 (by decide) ?_
      cases hf
      exact W.iret hx hb hr (fun t ht hW => ⟨⟨_, _, rfl, ⟨rfl, rfl⟩, ⟨by rw [ht]; exact hH, va_K.moved hW.alike hK⟩⟩, hS.F ht⟩) hS.2.2 gd_Bk_find_37
    · replace hf := gj_e c9 hf
      refine lv_iload_n hx hb gd_Bk_find_31 rfl (lv_at hl 0 rfl) ?_
      refine lv_goto (tgt := 37) hx hb gd_Bk_find_32 (by decide) ?_
      cases hf
      exact W.iret hx hb hr (fun t ht hW => ⟨⟨_, _, rfl, ⟨rfl, rfl⟩, ⟨by rw [ht]; exact hH, va_K.moved hW.alike hK⟩⟩, hS.F ht⟩) hS.2.2 gd_Bk_find_37
  · replace hf := gj_t c10 hf
    refine lv_iconst (v := (-1)) hx hb gd_Bk_find_7 (by decide) ?_
    cases hf
    exact W.iret hx hb hr (fun t ht hW => ⟨⟨_, _, rfl, ⟨rfl, rfl⟩, ⟨by rw [ht]; exact hH, va_K.moved hW.alike hK⟩⟩, hS.F ht⟩) hS.2.2 gd_Bk_find_8
set_option maxHeartbeats 4000000 in
set_option maxRecDepth 100000 in
theorem ct_Tx_byteAt (l : Launch) (D : va_G) (cI cT : ClassId) (ad : Nat → Nat → Nat) (hI : gq_I gk_vd ad) (u : gk_St) (k : Nat) (hk : k ≤ 100) (p1 : Int32) (z : Int32 × gk_St) (hf : fn_Tx_byteAt k p1 u = some z) : Met l gy_Tx_byteAt gws_Tx_byteAt ({ frames := 1, cells := 0, slots := 0, locals := 22 }) (va_Pc [.ref (ad 6 k), .int p1] (gq_pre D gc_cl (gk_tys cI cT) gk_vd ad gk_NF gk_NM (gk_pc cI cT ad u))) (va_Qi (fun r u2 => r = z.1 ∧ u2 = z.2) (fun u2 t => gq_B D gc_cl (gk_tys cI cT) gk_vd ad (gk_pc cI cT ad u2) t) (gq_A gk_vd ad)) 0 0 (gq_A gk_vd ad) := by
  refine Met.ofW (cc := gb_Tx_byteAt) (maxL := 2) (ret := (some .int)) (by decide) rfl ?_
  intro p e s m args below meth c s₁ B hml hv
  obtain ⟨rfl, hH, hK, hN⟩ := hv
  have hx := B.exec
  have hb := B.bytes
  have hr := B.returns
  have hts := atoms_spec (ws := gws_Tx_byteAt) B.pre
  have ht := fun (w : Cond) (h : w ∈ gt_T) => hts w (List.mem_cons_of_mem _ h)
  have hown : s.vm.findClass gR_Tx = some m.cls := findClass_of_methodNamed B.named
  have hlocks := B.notSynchronized
  have hA : ∀ q, (gq_A gk_vd ad) q → (gq_A gk_vd ad) q := fun _ h => h
  have hS : va_S (gq_A gk_vd ad) s.heap s.heap [] := va_S.rf
  have hl := lv_entry ([.ref (ad 6 k), .int p1]) (n := 2) (Nat.le_of_ble_eq_true rfl)
  rw [lg_entry_eq]
  generalize (lg_sl ([.ref (ad 6 k), .int p1]) ++ List.replicate (2 - (lg_sl ([.ref (ad 6 k), .int p1])).length) Slot.unset).toArray = ls at hl ⊢
  have hl : lv_has ls 2 [(0, .ref (ad 6 k)), (1, .int p1)] := hl
  unfold fn_Tx_byteAt at hf
  refine lv_iload_n hx hb gd_Tx_byteAt_0 rfl (lv_at hl 1 rfl) ?_
  refine lv_bipush (v := 8) hx hb gd_Tx_byteAt_1 (by decide) ?_
  refine lv_icmp_ge (tgt := 20) hx hb gd_Tx_byteAt_3 (by decide) (fun c5 => ?_) (fun c5 => ?_)
  · replace hf := gj_t c5 hf
    refine lv_aload_n hx hb gd_Tx_byteAt_20 rfl (lv_at hl 0 rfl) ?_
    refine va_get (D := D) (ci := 2) (C := gR_Tx) (T := gT_Tx) (N := 3) hx hb hts (fun w h => List.mem_cons_of_mem _ (gl_Tx w h)) hown hK (gq_one (c := 6) (k := k) hH hk (gk_c6 cI cT ad u k)) 0 rfl rfl 1 (by decide) (ht _ gt_24) (fun _ h9 => h9) rfl gd_Tx_byteAt_21 ?_
    refine lv_bipush (v := 15) hx hb gd_Tx_byteAt_24 (by decide) ?_
    refine lv_iload_n hx hb gd_Tx_byteAt_26 rfl (lv_at hl 1 rfl) ?_
    refine lv_isub hx hb gd_Tx_byteAt_27 ?_
    obtain ⟨z1, hc2, hf⟩ := Option.bind_eq_some_iff.mp hf
    refine gq_calli (va_runSN (As := [.long (u.2 1 k), .int (15 - p1)]) (rest := []) ⟨hx, hb, hml, hown, hts⟩ (ct_Bk_byteOf l D cI cT ad hI u (u.2 1 k) (15 - p1) z1 hc2) ⟨va_cnB 2 hts (gt_good gt_110) rfl rfl rfl (hN.2 _ (List.mem_of_getElem? (i := 2) rfl)) (ht _ gt_1) (by decide +kernel) ⟨Nat.le_of_ble_eq_true rfl, Nat.le_of_ble_eq_true rfl⟩, ht _ gt_109, trivial⟩ (gq_preS hH hK hN) rfl rfl hl.1 rfl (lv_room (Nat.le_of_ble_eq_true rfl)) gd_Tx_byteAt_28 ⟨Nat.zero_le _, Nat.zero_le _⟩) hA hS (fun H locs hH hS => ?_)
    cases hf
    exact W.iret hx hb hr (fun t ht hW => ⟨⟨_, _, rfl, ⟨rfl, rfl⟩, ⟨by rw [ht]; exact hH, va_K.moved hW.alike hK⟩⟩, hS.F ht⟩) hS.2.2 gd_Tx_byteAt_31
  · replace hf := gj_e c5 hf
    refine lv_aload_n hx hb gd_Tx_byteAt_6 rfl (lv_at hl 0 rfl) ?_
    refine va_get (D := D) (ci := 2) (C := gR_Tx) (T := gT_Tx) (N := 3) hx hb hts (fun w h => List.mem_cons_of_mem _ (gl_Tx w h)) hown hK (gq_one (c := 6) (k := k) hH hk (gk_c6 cI cT ad u k)) 0 rfl rfl 0 (by decide) (ht _ gt_23) (fun _ h9 => h9) rfl gd_Tx_byteAt_7 ?_
    refine lv_bipush (v := 7) hx hb gd_Tx_byteAt_10 (by decide) ?_
    refine lv_iload_n hx hb gd_Tx_byteAt_12 rfl (lv_at hl 1 rfl) ?_
    refine lv_isub hx hb gd_Tx_byteAt_13 ?_
    obtain ⟨z3, hc4, hf⟩ := Option.bind_eq_some_iff.mp hf
    refine gq_calli (va_runSN (As := [.long (u.2 0 k), .int (7 - p1)]) (rest := []) ⟨hx, hb, hml, hown, hts⟩ (ct_Bk_byteOf l D cI cT ad hI u (u.2 0 k) (7 - p1) z3 hc4) ⟨va_cnB 2 hts (gt_good gt_110) rfl rfl rfl (hN.2 _ (List.mem_of_getElem? (i := 2) rfl)) (ht _ gt_1) (by decide +kernel) ⟨Nat.le_of_ble_eq_true rfl, Nat.le_of_ble_eq_true rfl⟩, ht _ gt_109, trivial⟩ (gq_preS hH hK hN) rfl rfl hl.1 rfl (lv_room (Nat.le_of_ble_eq_true rfl)) gd_Tx_byteAt_14 ⟨Nat.zero_le _, Nat.zero_le _⟩) hA hS (fun H locs hH hS => ?_)
    refine lv_goto (tgt := 31) hx hb gd_Tx_byteAt_17 (by decide) ?_
    cases hf
    exact W.iret hx hb hr (fun t ht hW => ⟨⟨_, _, rfl, ⟨rfl, rfl⟩, ⟨by rw [ht]; exact hH, va_K.moved hW.alike hK⟩⟩, hS.F ht⟩) hS.2.2 gd_Tx_byteAt_31
set_option maxHeartbeats 4000000 in
set_option maxRecDepth 100000 in
theorem ct_Bk_term (l : Launch) (D : va_G) (cI cT : ClassId) (ad : Nat → Nat → Nat) (hI : gq_I gk_vd ad) (u : gk_St) (p1 : Int32) (p2 : Int32) (z : Int32 × gk_St) (hf : fn_Bk_term p1 p2 u = some z) : Met l gy_Bk_term gws_Bk_term ({ frames := 2, cells := 0, slots := 0, locals := 43 }) (va_Pc [.ref (ad 0 0), .int p1, .int p2] (gq_pre D gc_cl (gk_tys cI cT) gk_vd ad gk_NF gk_NM (gk_pc cI cT ad u))) (va_Qi (fun r u2 => r = z.1 ∧ u2 = z.2) (fun u2 t => gq_B D gc_cl (gk_tys cI cT) gk_vd ad (gk_pc cI cT ad u2) t) (gq_A gk_vd ad)) 0 0 (gq_A gk_vd ad) := by
  refine Met.ofW (cc := gb_Bk_term) (maxL := 4) (ret := (some .int)) (by decide) rfl ?_
  intro p e s m args below meth c s₁ B hml hv
  obtain ⟨rfl, hH, hK, hN⟩ := hv
  have hx := B.exec
  have hb := B.bytes
  have hr := B.returns
  have hts := atoms_spec (ws := gws_Bk_term) B.pre
  have ht := fun (w : Cond) (h : w ∈ gt_T) => hts w (List.mem_cons_of_mem _ h)
  have hown : s.vm.findClass gR_Bk = some m.cls := findClass_of_methodNamed B.named
  have hlocks := B.notSynchronized
  have hA : ∀ q, (gq_A gk_vd ad) q → (gq_A gk_vd ad) q := fun _ h => h
  have hS : va_S (gq_A gk_vd ad) s.heap s.heap [] := va_S.rf
  have hl := lv_entry ([.ref (ad 0 0), .int p1, .int p2]) (n := 4) (Nat.le_of_ble_eq_true rfl)
  rw [lg_entry_eq]
  generalize (lg_sl ([.ref (ad 0 0), .int p1, .int p2]) ++ List.replicate (4 - (lg_sl ([.ref (ad 0 0), .int p1, .int p2])).length) Slot.unset).toArray = ls at hl ⊢
  have hl : lv_has ls 4 [(0, .ref (ad 0 0)), (1, .int p1), (2, .int p2)] := hl
  unfold fn_Bk_term at hf
  refine lv_aload_n hx hb gd_Bk_term_0 rfl (lv_at hl 0 rfl) ?_
  refine lv_iload_n hx hb gd_Bk_term_1 rfl (lv_at hl 1 rfl) ?_
  obtain ⟨⟨o3, u4⟩, hc2, hf⟩ := Option.bind_eq_some_iff.mp hf
  refine gq_calle (va_runV (As := [.int p1]) (rest := []) ⟨hx, hb, hml, hown, hts⟩ (ct_Bk_inBook l D cI cT ad hI u p1 (o3, u4) hc2) (cwV 1 hts (gt_V gt_147 gt_149 (gt_sel (List.mem_of_getElem? (i := 3) rfl)) gt_1 gt_150) rfl rfl rfl (by decide +kernel) ⟨Nat.le_of_ble_eq_true rfl, Nat.le_of_ble_eq_true rfl⟩) (gq_preV hH hK hN (va_recv hK (gq_one (c := 0) (k := 0) hH rfl (gk_c0 cI cT ad u)) (ci := 0) (q0 := 0) rfl rfl)) rfl rfl hl.1 rfl (lv_room (Nat.le_of_ble_eq_true rfl)) gd_Bk_term_2 ⟨Nat.zero_le _, Nat.zero_le _⟩) hA hS (fun H locs hH hS => ?_)
  cases o3 with
  | none =>
    have hH : gq_H D gc_cl gk_vd ad (gk_pc cI cT ad u4) H := hH
    refine W.eq (g2 := F0 m 5 ls [.null]) rfl ?_
    dsimp only at hf
    refine lv_astore_nN (lv' := [(3, .null), (0, .ref (ad 0 0)), (1, .int p1), (2, .int p2)]) hx hb gd_Bk_term_5 rfl hl (by decide) rfl (fun ls hl => ?_)
    refine lv_aload_nN hx hb gd_Bk_term_6 rfl (lv_at hl 0 rfl) ?_
    refine lv_ifnullN (tgt := 14) hx hb gd_Bk_term_7 (by decide) ?_
    refine lv_iconst (v := (-1)) hx hb gd_Bk_term_14 (by decide) ?_
    cases hf
    exact W.iret hx hb hr (fun t ht hW => ⟨⟨_, _, rfl, ⟨rfl, rfl⟩, ⟨by rw [ht]; exact hH, va_K.moved hW.alike hK⟩⟩, hS.F ht⟩) hS.2.2 gd_Bk_term_15
  | some k5 =>
    have hH : gq_H D gc_cl gk_vd ad (gk_pc cI cT ad u4) H := hH
    refine W.eq (g2 := F0 m 5 ls [.ref (ad 7 k5)]) rfl ?_
    dsimp only at hf
    refine lv_astore_n (lv' := [(3, .ref (ad 7 k5)), (0, .ref (ad 0 0)), (1, .int p1), (2, .int p2)]) hx hb gd_Bk_term_5 rfl hl (by decide) rfl (fun ls hl => ?_)
    refine lv_aload_n hx hb gd_Bk_term_6 rfl (lv_at hl 0 rfl) ?_
    refine lv_ifnull hx hb gd_Bk_term_7 ?_
    refine lv_iload_n hx hb gd_Bk_term_10 rfl (lv_at hl 3 rfl) ?_
    refine lv_if_ge (tgt := 16) hx hb gd_Bk_term_11 (by decide) (fun c12 => ?_) (fun c12 => ?_)
    · replace hf := gj_t c12 hf
      refine lv_iload_n hx hb gd_Bk_term_16 rfl (lv_at hl 3 rfl) ?_
      by_cases c6 : p2 = 0
      · replace hf := gj_t c6 hf
        refine gj_tab (tgt := 44) (k := 0) hx hb c6 gd_Bk_term_17 (by decide) (by decide) rfl (by decide) ?_
        refine lv_aload_n hx hb gd_Bk_term_44 rfl (lv_at hl 0 rfl) ?_
        refine va_getN (D := D) (ci := 3) (C := gR_Tm) (T := gT_Tm) (N := 5) hx hb hts (fun w h => List.mem_cons_of_mem _ (gl_Tm w h)) hown hK (gq_one (c := 7) (k := k5) hH (ok_Bk_inBook hc2) (gk_c7 cI cT ad u4 k5)) 0 rfl rfl 2 (by decide) (va_Nw.use rfl (hN.1 _ (List.mem_of_getElem? (i := 3) rfl))) (fun _ h9 => h9) rfl gd_Bk_term_45 ?_
        cases hf
        exact W.iret hx hb hr (fun t ht hW => ⟨⟨_, _, rfl, ⟨rfl, rfl⟩, ⟨by rw [ht]; exact hH, va_K.moved hW.alike hK⟩⟩, hS.F ht⟩) hS.2.2 gd_Bk_term_48
      replace hf := gj_e c6 hf
      by_cases c7 : p2 = 1
      · replace hf := gj_t c7 hf
        refine gj_tab (tgt := 49) (k := 1) hx hb c7 gd_Bk_term_17 (by decide) (by decide) rfl (by decide) ?_
        refine lv_aload_n hx hb gd_Bk_term_49 rfl (lv_at hl 0 rfl) ?_
        refine va_getN (D := D) (ci := 3) (C := gR_Tm) (T := gT_Tm) (N := 5) hx hb hts (fun w h => List.mem_cons_of_mem _ (gl_Tm w h)) hown hK (gq_one (c := 7) (k := k5) hH (ok_Bk_inBook hc2) (gk_c7 cI cT ad u4 k5)) 0 rfl rfl 3 (by decide) (va_Nw.use rfl (hN.1 _ (List.mem_of_getElem? (i := 4) rfl))) (fun _ h9 => h9) rfl gd_Bk_term_50 ?_
        cases hf
        exact W.iret hx hb hr (fun t ht hW => ⟨⟨_, _, rfl, ⟨rfl, rfl⟩, ⟨by rw [ht]; exact hH, va_K.moved hW.alike hK⟩⟩, hS.F ht⟩) hS.2.2 gd_Bk_term_53
      replace hf := gj_e c7 hf
      by_cases c8 : p2 = 2
      · replace hf := gj_t c8 hf
        refine gj_tab (tgt := 54) (k := 2) hx hb c8 gd_Bk_term_17 (by decide) (by decide) rfl (by decide) ?_
        refine lv_aload_n hx hb gd_Bk_term_54 rfl (lv_at hl 0 rfl) ?_
        refine va_getN (D := D) (ci := 3) (C := gR_Tm) (T := gT_Tm) (N := 5) hx hb hts (fun w h => List.mem_cons_of_mem _ (gl_Tm w h)) hown hK (gq_one (c := 7) (k := k5) hH (ok_Bk_inBook hc2) (gk_c7 cI cT ad u4 k5)) 0 rfl rfl 0 (by decide) (va_Nw.use rfl (hN.1 _ (List.mem_of_getElem? (i := 1) rfl))) (fun _ h9 => h9) rfl gd_Bk_term_55 ?_
        refine va_getN (D := D) (ci := 2) (C := gR_Tx) (T := gT_Tx) (N := 3) hx hb hts (fun w h => List.mem_cons_of_mem _ (gl_Tx w h)) hown hK (gq_one (c := 6) (k := k5) hH (Nat.le_of_lt (ok_Bk_inBook hc2)) (gk_c6 cI cT ad u4 k5)) 0 rfl rfl 2 (by decide) (va_Nw.use rfl (hN.1 _ (List.mem_of_getElem? (i := 0) rfl))) (fun _ h9 => h9) rfl gd_Bk_term_58 ?_
        cases hf
        exact W.iret hx hb hr (fun t ht hW => ⟨⟨_, _, rfl, ⟨rfl, rfl⟩, ⟨by rw [ht]; exact hH, va_K.moved hW.alike hK⟩⟩, hS.F ht⟩) hS.2.2 gd_Bk_term_61
      replace hf := gj_e c8 hf
      refine lv_tableOut (tgt := 62) hx hb gd_Bk_term_17 (by have ec6 := lv_neT (a := 0) c6 rfl; have ec7 := lv_neT (a := 1) c7 rfl; have ec8 := lv_neT (a := 2) c8 rfl; omega) (by decide) ?_
      refine lv_iload_n hx hb gd_Bk_term_62 rfl (lv_at hl 3 rfl) ?_
      refine lv_iconst (v := 3) hx hb gd_Bk_term_63 (by decide) ?_
      refine lv_isub hx hb gd_Bk_term_64 ?_
      refine lv_aload_n hx hb gd_Bk_term_65 rfl (lv_at hl 0 rfl) ?_
      refine va_getN (D := D) (ci := 3) (C := gR_Tm) (T := gT_Tm) (N := 5) hx hb hts (fun w h => List.mem_cons_of_mem _ (gl_Tm w h)) hown hK (gq_one (c := 7) (k := k5) hH (ok_Bk_inBook hc2) (gk_c7 cI cT ad u4 k5)) 0 rfl rfl 0 (by decide) (va_Nw.use rfl (hN.1 _ (List.mem_of_getElem? (i := 1) rfl))) (fun _ h9 => h9) rfl gd_Bk_term_66 ?_
      refine va_getN (D := D) (ci := 2) (C := gR_Tx) (T := gT_Tx) (N := 3) hx hb hts (fun w h => List.mem_cons_of_mem _ (gl_Tx w h)) hown hK (gq_one (c := 6) (k := k5) hH (Nat.le_of_lt (ok_Bk_inBook hc2)) (gk_c6 cI cT ad u4 k5)) 0 rfl rfl 2 (by decide) (va_Nw.use rfl (hN.1 _ (List.mem_of_getElem? (i := 0) rfl))) (fun _ h9 => h9) rfl gd_Bk_term_69 ?_
      refine lv_icmp_ge (tgt := 88) hx hb gd_Bk_term_72 (by decide) (fun c11 => ?_) (fun c11 => ?_)
      · replace hf := gj_t c11 hf
        refine lv_iconst (v := (-1)) hx hb gd_Bk_term_88 (by decide) ?_
        cases hf
        exact W.iret hx hb hr (fun t ht hW => ⟨⟨_, _, rfl, ⟨rfl, rfl⟩, ⟨by rw [ht]; exact hH, va_K.moved hW.alike hK⟩⟩, hS.F ht⟩) hS.2.2 gd_Bk_term_89
      · replace hf := gj_e c11 hf
        refine lv_aload_n hx hb gd_Bk_term_75 rfl (lv_at hl 0 rfl) ?_
        refine va_getN (D := D) (ci := 3) (C := gR_Tm) (T := gT_Tm) (N := 5) hx hb hts (fun w h => List.mem_cons_of_mem _ (gl_Tm w h)) hown hK (gq_one (c := 7) (k := k5) hH (ok_Bk_inBook hc2) (gk_c7 cI cT ad u4 k5)) 0 rfl rfl 0 (by decide) (va_Nw.use rfl (hN.1 _ (List.mem_of_getElem? (i := 1) rfl))) (fun _ h9 => h9) rfl gd_Bk_term_76 ?_
        refine lv_iload_n hx hb gd_Bk_term_79 rfl (lv_at hl 3 rfl) ?_
        refine lv_iconst (v := 3) hx hb gd_Bk_term_80 (by decide) ?_
        refine lv_isub hx hb gd_Bk_term_81 ?_
        obtain ⟨z9, hc10, hf⟩ := Option.bind_eq_some_iff.mp hf
        refine gq_calli (va_runV (As := [.int (p2 - 3)]) (rest := []) ⟨hx, hb, hml, hown, hts⟩ (ct_Tx_byteAt l D cI cT ad hI u4 k5 (Nat.le_of_lt (ok_Bk_inBook hc2)) (p2 - 3) z9 hc10) (cwV 1 hts (gt_V gt_252 gt_253 gt_254 gt_2 gt_255) rfl rfl rfl (by decide +kernel) ⟨Nat.le_of_ble_eq_true rfl, Nat.le_of_ble_eq_true rfl⟩) (gq_preV hH hK hN (va_recv hK (gq_one (c := 6) (k := k5) hH (Nat.le_of_lt (ok_Bk_inBook hc2)) (gk_c6 cI cT ad u4 k5)) (ci := 2) (q0 := 0) rfl rfl)) rfl rfl hl.1 rfl (lv_room (Nat.le_of_ble_eq_true rfl)) gd_Bk_term_82 ⟨Nat.zero_le _, Nat.zero_le _⟩) hA hS (fun H locs hH hS => ?_)
        refine lv_goto (tgt := 89) hx hb gd_Bk_term_85 (by decide) ?_
        cases hf
        exact W.iret hx hb hr (fun t ht hW => ⟨⟨_, _, rfl, ⟨rfl, rfl⟩, ⟨by rw [ht]; exact hH, va_K.moved hW.alike hK⟩⟩, hS.F ht⟩) hS.2.2 gd_Bk_term_89
    · replace hf := gj_e c12 hf
      refine lv_iconst (v := (-1)) hx hb gd_Bk_term_14 (by decide) ?_
      cases hf
      exact W.iret hx hb hr (fun t ht hW => ⟨⟨_, _, rfl, ⟨rfl, rfl⟩, ⟨by rw [ht]; exact hH, va_K.moved hW.alike hK⟩⟩, hS.F ht⟩) hS.2.2 gd_Bk_term_15
set_option maxHeartbeats 4000000 in
set_option maxRecDepth 100000 in
theorem ct_Bk_at (l : Launch) (D : va_G) (cI cT : ClassId) (ad : Nat → Nat → Nat) (hI : gq_I gk_vd ad) (u : gk_St) (p1 : Int32) (z : Int32 × gk_St) (hf : fn_Bk_at p1 u = some z) : Met l gy_Bk_at gws_Bk_at ({ frames := 1, cells := 0, slots := 0, locals := 21 }) (va_Pc [.ref (ad 0 0), .int p1] (gq_pre D gc_cl (gk_tys cI cT) gk_vd ad gk_NF gk_NM (gk_pc cI cT ad u))) (va_Qi (fun r u2 => r = z.1 ∧ u2 = z.2) (fun u2 t => gq_B D gc_cl (gk_tys cI cT) gk_vd ad (gk_pc cI cT ad u2) t) (gq_A gk_vd ad)) 0 0 (gq_A gk_vd ad) := by
  refine Met.ofW (cc := gb_Bk_at) (maxL := 3) (ret := (some .int)) (by decide) rfl ?_
  intro p e s m args below meth c s₁ B hml hv
  obtain ⟨rfl, hH, hK, hN⟩ := hv
  have hx := B.exec
  have hb := B.bytes
  have hr := B.returns
  have hts := atoms_spec (ws := gws_Bk_at) B.pre
  have ht := fun (w : Cond) (h : w ∈ gt_T) => hts w (List.mem_cons_of_mem _ h)
  have hown : s.vm.findClass gR_Bk = some m.cls := findClass_of_methodNamed B.named
  have hlocks := B.notSynchronized
  have hA : ∀ q, (gq_A gk_vd ad) q → (gq_A gk_vd ad) q := fun _ h => h
  have hS : va_S (gq_A gk_vd ad) s.heap s.heap [] := va_S.rf
  have hl := lv_entry ([.ref (ad 0 0), .int p1]) (n := 3) (Nat.le_of_ble_eq_true rfl)
  rw [lg_entry_eq]
  generalize (lg_sl ([.ref (ad 0 0), .int p1]) ++ List.replicate (3 - (lg_sl ([.ref (ad 0 0), .int p1])).length) Slot.unset).toArray = ls at hl ⊢
  have hl : lv_has ls 3 [(0, .ref (ad 0 0)), (1, .int p1)] := hl
  unfold fn_Bk_at at hf
  refine lv_aload_n hx hb gd_Bk_at_0 rfl (lv_at hl 0 rfl) ?_
  refine va_get (D := D) (ci := 0) (C := gR_Bk) (T := gT_Bk) (N := 5) hx hb hts (fun w h => List.mem_cons_of_mem _ (gl_Bk w h)) hown hK (gq_one (c := 0) (k := 0) hH rfl (gk_c0 cI cT ad u)) 0 rfl rfl 2 (by decide) (ht _ gt_87) (fun _ h9 => h9) rfl gd_Bk_at_1 ?_
  refine lv_iload_n hx hb gd_Bk_at_4 rfl (lv_at hl 1 rfl) ?_
  obtain ⟨z1, hc2, hf⟩ := Option.bind_eq_some_iff.mp hf
  refine gq_calli (va_runV (As := [.int p1]) (rest := []) ⟨hx, hb, hml, hown, hts⟩ (ct_Lv_numberAt l D cI cT ad hI u p1 z1 hc2) (cwV 1 hts (gt_V gt_139 gt_140 gt_141 gt_4 gt_142) rfl rfl rfl (by decide +kernel) ⟨Nat.le_of_ble_eq_true rfl, Nat.le_of_ble_eq_true rfl⟩) (gq_preV hH hK hN (va_recv hK (gq_one (c := 2) (k := 0) hH rfl (gk_c2 cI cT ad u)) (ci := 1) (q0 := 0) rfl rfl)) rfl rfl hl.1 rfl (lv_room (Nat.le_of_ble_eq_true rfl)) gd_Bk_at_5 ⟨Nat.zero_le _, Nat.zero_le _⟩) hA hS (fun H locs hH hS => ?_)
  refine lv_istore_n (lv' := [(2, .int z1.1), (0, .ref (ad 0 0)), (1, .int p1)]) hx hb gd_Bk_at_8 rfl hl (by decide) rfl (fun ls hl => ?_)
  refine lv_iload_n hx hb gd_Bk_at_9 rfl (lv_at hl 0 rfl) ?_
  refine lv_iconst (v := (-1)) hx hb gd_Bk_at_10 (by decide) ?_
  refine lv_icmp_ne (tgt := 19) hx hb gd_Bk_at_11 (by decide) (fun c3 => ?_) (fun c3 => ?_)
  · replace hf := gj_e c3 hf
    refine lv_iload_n hx hb gd_Bk_at_19 rfl (lv_at hl 0 rfl) ?_
    cases hf
    exact W.iret hx hb hr (fun t ht hW => ⟨⟨_, _, rfl, ⟨rfl, rfl⟩, ⟨by rw [ht]; exact hH, va_K.moved hW.alike hK⟩⟩, hS.F ht⟩) hS.2.2 gd_Bk_at_20
  · replace hf := gj_t c3 hf
    refine lv_bipush (v := (-2)) hx hb gd_Bk_at_14 (by decide) ?_
    refine lv_goto (tgt := 20) hx hb gd_Bk_at_16 (by decide) ?_
    cases hf
    exact W.iret hx hb hr (fun t ht hW => ⟨⟨_, _, rfl, ⟨rfl, rfl⟩, ⟨by rw [ht]; exact hH, va_K.moved hW.alike hK⟩⟩, hS.F ht⟩) hS.2.2 gd_Bk_at_20
set_option maxHeartbeats 4000000 in
set_option maxRecDepth 100000 in
theorem ct_Bk_place (l : Launch) (D : va_G) (cI cT : ClassId) (ad : Nat → Nat → Nat) (hI : gq_I gk_vd ad) (u : gk_St) (p1 : Int32) (z : Int32 × gk_St) (hf : fn_Bk_place p1 u = some z) : Met l gy_Bk_place gws_Bk_place ({ frames := 2, cells := 0, slots := 0, locals := 43 }) (va_Pc [.ref (ad 0 0), .int p1] (gq_pre D gc_cl (gk_tys cI cT) gk_vd ad gk_NF gk_NM (gk_pc cI cT ad u))) (va_Qi (fun r u2 => r = z.1 ∧ u2 = z.2) (fun u2 t => gq_B D gc_cl (gk_tys cI cT) gk_vd ad (gk_pc cI cT ad u2) t) (gq_A gk_vd ad)) 0 0 (gq_A gk_vd ad) := by
  refine Met.ofW (cc := gb_Bk_place) (maxL := 2) (ret := (some .int)) (by decide) rfl ?_
  intro p e s m args below meth c s₁ B hml hv
  obtain ⟨rfl, hH, hK, hN⟩ := hv
  have hx := B.exec
  have hb := B.bytes
  have hr := B.returns
  have hts := atoms_spec (ws := gws_Bk_place) B.pre
  have ht := fun (w : Cond) (h : w ∈ gt_T) => hts w (List.mem_cons_of_mem _ h)
  have hown : s.vm.findClass gR_Bk = some m.cls := findClass_of_methodNamed B.named
  have hlocks := B.notSynchronized
  have hA : ∀ q, (gq_A gk_vd ad) q → (gq_A gk_vd ad) q := fun _ h => h
  have hS : va_S (gq_A gk_vd ad) s.heap s.heap [] := va_S.rf
  have hl := lv_entry ([.ref (ad 0 0), .int p1]) (n := 2) (Nat.le_of_ble_eq_true rfl)
  rw [lg_entry_eq]
  generalize (lg_sl ([.ref (ad 0 0), .int p1]) ++ List.replicate (2 - (lg_sl ([.ref (ad 0 0), .int p1])).length) Slot.unset).toArray = ls at hl ⊢
  have hl : lv_has ls 2 [(0, .ref (ad 0 0)), (1, .int p1)] := hl
  unfold fn_Bk_place at hf
  refine lv_aload_n hx hb gd_Bk_place_0 rfl (lv_at hl 0 rfl) ?_
  refine lv_iload_n hx hb gd_Bk_place_1 rfl (lv_at hl 1 rfl) ?_
  obtain ⟨⟨o3, u4⟩, hc2, hf⟩ := Option.bind_eq_some_iff.mp hf
  refine gq_calle (va_runV (As := [.int p1]) (rest := []) ⟨hx, hb, hml, hown, hts⟩ (ct_Bk_inBook l D cI cT ad hI u p1 (o3, u4) hc2) (cwV 1 hts (gt_V gt_147 gt_149 (gt_sel (List.mem_of_getElem? (i := 3) rfl)) gt_1 gt_150) rfl rfl rfl (by decide +kernel) ⟨Nat.le_of_ble_eq_true rfl, Nat.le_of_ble_eq_true rfl⟩) (gq_preV hH hK hN (va_recv hK (gq_one (c := 0) (k := 0) hH rfl (gk_c0 cI cT ad u)) (ci := 0) (q0 := 0) rfl rfl)) rfl rfl hl.1 rfl (lv_room (Nat.le_of_ble_eq_true rfl)) gd_Bk_place_2 ⟨Nat.zero_le _, Nat.zero_le _⟩) hA hS (fun H locs hH hS => ?_)
  cases o3 with
  | none =>
    have hH : gq_H D gc_cl gk_vd ad (gk_pc cI cT ad u4) H := hH
    refine W.eq (g2 := F0 m 5 ls [.null]) rfl ?_
    dsimp only at hf
    refine lv_ifnonnullN hx hb gd_Bk_place_5 ?_
    refine lv_iconst (v := (-1)) hx hb gd_Bk_place_8 (by decide) ?_
    refine lv_goto (tgt := 20) hx hb gd_Bk_place_9 (by decide) ?_
    cases hf
    exact W.iret hx hb hr (fun t ht hW => ⟨⟨_, _, rfl, ⟨rfl, rfl⟩, ⟨by rw [ht]; exact hH, va_K.moved hW.alike hK⟩⟩, hS.F ht⟩) hS.2.2 gd_Bk_place_20
  | some k5 =>
    have hH : gq_H D gc_cl gk_vd ad (gk_pc cI cT ad u4) H := hH
    refine W.eq (g2 := F0 m 5 ls [.ref (ad 7 k5)]) rfl ?_
    dsimp only at hf
    refine lv_ifnonnull (tgt := 12) hx hb gd_Bk_place_5 (by decide) ?_
    refine lv_aload_n hx hb gd_Bk_place_12 rfl (lv_at hl 0 rfl) ?_
    refine va_get (D := D) (ci := 0) (C := gR_Bk) (T := gT_Bk) (N := 5) hx hb hts (fun w h => List.mem_cons_of_mem _ (gl_Bk w h)) hown hK (gq_one (c := 0) (k := 0) hH rfl (gk_c0 cI cT ad u4)) 0 rfl rfl 2 (by decide) (ht _ gt_87) (fun _ h9 => h9) rfl gd_Bk_place_13 ?_
    refine lv_iload_n hx hb gd_Bk_place_16 rfl (lv_at hl 1 rfl) ?_
    obtain ⟨z6, hc7, hf⟩ := Option.bind_eq_some_iff.mp hf
    refine gq_calli (va_runV (As := [.int p1]) (rest := []) ⟨hx, hb, hml, hown, hts⟩ (ct_Lv_placeOf l D cI cT ad hI u4 p1 z6 hc7) (cwV 1 hts (gt_V gt_216 gt_217 gt_218 gt_4 gt_219) rfl rfl rfl (by decide +kernel) ⟨Nat.le_of_ble_eq_true rfl, Nat.le_of_ble_eq_true rfl⟩) (gq_preV hH hK hN (va_recv hK (gq_one (c := 2) (k := 0) hH rfl (gk_c2 cI cT ad u4)) (ci := 1) (q0 := 0) rfl rfl)) rfl rfl hl.1 rfl (lv_room (Nat.le_of_ble_eq_true rfl)) gd_Bk_place_17 ⟨Nat.zero_le _, Nat.zero_le _⟩) hA hS (fun H locs hH hS => ?_)
    cases hf
    exact W.iret hx hb hr (fun t ht hW => ⟨⟨_, _, rfl, ⟨rfl, rfl⟩, ⟨by rw [ht]; exact hH, va_K.moved hW.alike hK⟩⟩, hS.F ht⟩) hS.2.2 gd_Bk_place_20
set_option maxHeartbeats 4000000 in
set_option maxRecDepth 100000 in
theorem ct_Tx_sharedWith (l : Launch) (D : va_G) (cI cT : ClassId) (ad : Nat → Nat → Nat) (hI : gq_I gk_vd ad) (u : gk_St) (k : Nat) (hk : k ≤ 100) (q1 : Nat) (hq1 : q1 ≤ 100) (z : Int32 × gk_St) (hf : fn_Tx_sharedWith k q1 u = some z) : Met l gy_Tx_sharedWith gws_Tx_sharedWith ({ frames := 2, cells := 0, slots := 0, locals := 43 }) (va_Pc [.ref (ad 6 k), .ref (ad 6 q1)] (gq_pre D gc_cl (gk_tys cI cT) gk_vd ad gk_NF gk_NM (gk_pc cI cT ad u))) (va_Qi (fun r u2 => r = z.1 ∧ u2 = z.2) (fun u2 t => gq_B D gc_cl (gk_tys cI cT) gk_vd ad (gk_pc cI cT ad u2) t) (gq_A gk_vd ad)) 0 0 (gq_A gk_vd ad) := by
  refine Met.ofW (cc := gb_Tx_sharedWith) (maxL := 3) (ret := (some .int)) (by decide) rfl ?_
  intro p e s m args below meth c s₁ B hml hv
  obtain ⟨rfl, hH, hK, hN⟩ := hv
  have hx := B.exec
  have hb := B.bytes
  have hr := B.returns
  have hts := atoms_spec (ws := gws_Tx_sharedWith) B.pre
  have ht := fun (w : Cond) (h : w ∈ gt_T) => hts w (List.mem_cons_of_mem _ h)
  have hown : s.vm.findClass gR_Tx = some m.cls := findClass_of_methodNamed B.named
  have hlocks := B.notSynchronized
  have hA : ∀ q, (gq_A gk_vd ad) q → (gq_A gk_vd ad) q := fun _ h => h
  have hS : va_S (gq_A gk_vd ad) s.heap s.heap [] := va_S.rf
  have hl := lv_entry ([.ref (ad 6 k), .ref (ad 6 q1)]) (n := 3) (Nat.le_of_ble_eq_true rfl)
  rw [lg_entry_eq]
  generalize (lg_sl ([.ref (ad 6 k), .ref (ad 6 q1)]) ++ List.replicate (3 - (lg_sl ([.ref (ad 6 k), .ref (ad 6 q1)])).length) Slot.unset).toArray = ls at hl ⊢
  have hl : lv_has ls 3 [(0, .ref (ad 6 k)), (1, .ref (ad 6 q1))] := hl
  unfold fn_Tx_sharedWith at hf
  refine lv_aload_n hx hb gd_Tx_sharedWith_0 rfl (lv_at hl 0 rfl) ?_
  refine va_get (D := D) (ci := 2) (C := gR_Tx) (T := gT_Tx) (N := 3) hx hb hts (fun w h => List.mem_cons_of_mem _ (gl_Tx w h)) hown hK (gq_one (c := 6) (k := k) hH hk (gk_c6 cI cT ad u k)) 0 rfl rfl 0 (by decide) (ht _ gt_23) (fun _ h9 => h9) rfl gd_Tx_sharedWith_1 ?_
  refine lv_aload_n hx hb gd_Tx_sharedWith_4 rfl (lv_at hl 1 rfl) ?_
  refine va_get (D := D) (ci := 2) (C := gR_Tx) (T := gT_Tx) (N := 3) hx hb hts (fun w h => List.mem_cons_of_mem _ (gl_Tx w h)) hown hK (gq_one (c := 6) (k := q1) hH hq1 (gk_c6 cI cT ad u q1)) 0 rfl rfl 0 (by decide) (ht _ gt_23) (fun _ h9 => h9) rfl gd_Tx_sharedWith_5 ?_
  refine W.lcmp hx hb gd_Tx_sharedWith_8 ?_
  refine lv_if_eq (tgt := 30) hx hb gd_Tx_sharedWith_9 (by decide) (fun c1 => ?_) (fun c1 => ?_)
  · replace hf := gj_t c1 hf
    refine lv_bipush (v := 8) hx hb gd_Tx_sharedWith_30 (by decide) ?_
    refine lv_aload_n hx hb gd_Tx_sharedWith_32 rfl (lv_at hl 0 rfl) ?_
    refine va_get (D := D) (ci := 2) (C := gR_Tx) (T := gT_Tx) (N := 3) hx hb hts (fun w h => List.mem_cons_of_mem _ (gl_Tx w h)) hown hK (gq_one (c := 6) (k := k) hH hk (gk_c6 cI cT ad u k)) 0 rfl rfl 1 (by decide) (ht _ gt_24) (fun _ h9 => h9) rfl gd_Tx_sharedWith_33 ?_
    refine lv_aload_n hx hb gd_Tx_sharedWith_36 rfl (lv_at hl 1 rfl) ?_
    refine va_get (D := D) (ci := 2) (C := gR_Tx) (T := gT_Tx) (N := 3) hx hb hts (fun w h => List.mem_cons_of_mem _ (gl_Tx w h)) hown hK (gq_one (c := 6) (k := q1) hH hq1 (gk_c6 cI cT ad u q1)) 0 rfl rfl 1 (by decide) (ht _ gt_24) (fun _ h9 => h9) rfl gd_Tx_sharedWith_37 ?_
    refine lv_lxor hx hb gd_Tx_sharedWith_40 ?_
    refine W.callR (W.runS (As := [.long ((u.2 1 k) ^^^ (u.2 1 q1))]) (rest := [.int 8]) ⟨hx, hb, hml, hown, hts⟩ (ct_Lo_numberOfLeadingZeros l ((u.2 1 k) ^^^ (u.2 1 q1)) _ rfl) (va_cwS 1 hts (gt_S gt_277 gt_278 gt_7 gt_279) rfl rfl rfl (by decide +kernel) ⟨Nat.le_of_ble_eq_true rfl, Nat.le_of_ble_eq_true rfl⟩) preEq rfl rfl hl.1 rfl (lv_room (Nat.le_of_ble_eq_true rfl)) gd_Tx_sharedWith_41 ⟨Nat.zero_le _, Nat.zero_le _⟩) ?_
    refine W.eq (g2 := F0 m 44 ls (.int (fn_Lo_numberOfLeadingZeros ((u.2 1 k) ^^^ (u.2 1 q1))) :: [.int 8])) rfl ?_
    refine lv_bipush (v := 8) hx hb gd_Tx_sharedWith_44 (by decide) ?_
    refine lv_idiv hx hb gd_Tx_sharedWith_46 (by decide) ?_
    refine lv_iadd hx hb gd_Tx_sharedWith_47 ?_
    refine lv_istore_n (lv' := [(2, .int (8 + ((fn_Lo_numberOfLeadingZeros ((u.2 1 k) ^^^ (u.2 1 q1))) / 8))), (0, .ref (ad 6 k)), (1, .ref (ad 6 q1))]) hx hb gd_Tx_sharedWith_48 rfl hl (by decide) rfl (fun ls hl => ?_)
    refine lv_iload_n hx hb gd_Tx_sharedWith_49 rfl (lv_at hl 0 rfl) ?_
    refine lv_aload_n hx hb gd_Tx_sharedWith_50 rfl (lv_at hl 1 rfl) ?_
    refine va_get (D := D) (ci := 2) (C := gR_Tx) (T := gT_Tx) (N := 3) hx hb hts (fun w h => List.mem_cons_of_mem _ (gl_Tx w h)) hown hK (gq_one (c := 6) (k := k) hH hk (gk_c6 cI cT ad u k)) 0 rfl rfl 2 (by decide) (ht _ gt_25) (fun _ h9 => h9) rfl gd_Tx_sharedWith_51 ?_
    refine lv_aload_n hx hb gd_Tx_sharedWith_54 rfl (lv_at hl 2 rfl) ?_
    refine va_get (D := D) (ci := 2) (C := gR_Tx) (T := gT_Tx) (N := 3) hx hb hts (fun w h => List.mem_cons_of_mem _ (gl_Tx w h)) hown hK (gq_one (c := 6) (k := q1) hH hq1 (gk_c6 cI cT ad u q1)) 0 rfl rfl 2 (by decide) (ht _ gt_25) (fun _ h9 => h9) rfl gd_Tx_sharedWith_55 ?_
    refine va_mmin hx hb (hml.trans hl.1.symm) hown (ht _ gt_284) (ht _ gt_238) (ht _ gt_8) (ht _ gt_239) (Nat.le_of_ble_eq_true rfl) (Nat.le_of_ble_eq_true rfl) (Nat.zero_le _) (Nat.zero_le _) gd_Tx_sharedWith_58 ?_
    refine W.eq (g2 := F0 m 61 ls (.int (fn_Ma_min (u.1 0 k) (u.1 0 q1)) :: [.int (8 + ((fn_Lo_numberOfLeadingZeros ((u.2 1 k) ^^^ (u.2 1 q1))) / 8))])) rfl ?_
    refine va_mmin hx hb (hml.trans hl.1.symm) hown (ht _ gt_284) (ht _ gt_238) (ht _ gt_8) (ht _ gt_239) (Nat.le_of_ble_eq_true rfl) (Nat.le_of_ble_eq_true rfl) (Nat.zero_le _) (Nat.zero_le _) gd_Tx_sharedWith_61 ?_
    refine W.eq (g2 := F0 m 64 ls (.int (fn_Ma_min (8 + ((fn_Lo_numberOfLeadingZeros ((u.2 1 k) ^^^ (u.2 1 q1))) / 8)) (fn_Ma_min (u.1 0 k) (u.1 0 q1))) :: [])) rfl ?_
    cases hf
    exact W.iret hx hb hr (fun t ht hW => ⟨⟨_, _, rfl, ⟨rfl, rfl⟩, ⟨by rw [ht]; exact hH, va_K.moved hW.alike hK⟩⟩, hS.F ht⟩) hS.2.2 gd_Tx_sharedWith_64
  · replace hf := gj_e c1 hf
    refine lv_aload_n hx hb gd_Tx_sharedWith_12 rfl (lv_at hl 0 rfl) ?_
    refine va_get (D := D) (ci := 2) (C := gR_Tx) (T := gT_Tx) (N := 3) hx hb hts (fun w h => List.mem_cons_of_mem _ (gl_Tx w h)) hown hK (gq_one (c := 6) (k := k) hH hk (gk_c6 cI cT ad u k)) 0 rfl rfl 0 (by decide) (ht _ gt_23) (fun _ h9 => h9) rfl gd_Tx_sharedWith_13 ?_
    refine lv_aload_n hx hb gd_Tx_sharedWith_16 rfl (lv_at hl 1 rfl) ?_
    refine va_get (D := D) (ci := 2) (C := gR_Tx) (T := gT_Tx) (N := 3) hx hb hts (fun w h => List.mem_cons_of_mem _ (gl_Tx w h)) hown hK (gq_one (c := 6) (k := q1) hH hq1 (gk_c6 cI cT ad u q1)) 0 rfl rfl 0 (by decide) (ht _ gt_23) (fun _ h9 => h9) rfl gd_Tx_sharedWith_17 ?_
    refine lv_lxor hx hb gd_Tx_sharedWith_20 ?_
    refine W.callR (W.runS (As := [.long ((u.2 0 k) ^^^ (u.2 0 q1))]) (rest := []) ⟨hx, hb, hml, hown, hts⟩ (ct_Lo_numberOfLeadingZeros l ((u.2 0 k) ^^^ (u.2 0 q1)) _ rfl) (va_cwS 1 hts (gt_S gt_277 gt_278 gt_7 gt_279) rfl rfl rfl (by decide +kernel) ⟨Nat.le_of_ble_eq_true rfl, Nat.le_of_ble_eq_true rfl⟩) preEq rfl rfl hl.1 rfl (lv_room (Nat.le_of_ble_eq_true rfl)) gd_Tx_sharedWith_21 ⟨Nat.zero_le _, Nat.zero_le _⟩) ?_
    refine W.eq (g2 := F0 m 24 ls (.int (fn_Lo_numberOfLeadingZeros ((u.2 0 k) ^^^ (u.2 0 q1))) :: [])) rfl ?_
    refine lv_bipush (v := 8) hx hb gd_Tx_sharedWith_24 (by decide) ?_
    refine lv_idiv hx hb gd_Tx_sharedWith_26 (by decide) ?_
    refine lv_goto (tgt := 48) hx hb gd_Tx_sharedWith_27 (by decide) ?_
    refine lv_istore_n (lv' := [(2, .int ((fn_Lo_numberOfLeadingZeros ((u.2 0 k) ^^^ (u.2 0 q1))) / 8)), (0, .ref (ad 6 k)), (1, .ref (ad 6 q1))]) hx hb gd_Tx_sharedWith_48 rfl hl (by decide) rfl (fun ls hl => ?_)
    refine lv_iload_n hx hb gd_Tx_sharedWith_49 rfl (lv_at hl 0 rfl) ?_
    refine lv_aload_n hx hb gd_Tx_sharedWith_50 rfl (lv_at hl 1 rfl) ?_
    refine va_get (D := D) (ci := 2) (C := gR_Tx) (T := gT_Tx) (N := 3) hx hb hts (fun w h => List.mem_cons_of_mem _ (gl_Tx w h)) hown hK (gq_one (c := 6) (k := k) hH hk (gk_c6 cI cT ad u k)) 0 rfl rfl 2 (by decide) (ht _ gt_25) (fun _ h9 => h9) rfl gd_Tx_sharedWith_51 ?_
    refine lv_aload_n hx hb gd_Tx_sharedWith_54 rfl (lv_at hl 2 rfl) ?_
    refine va_get (D := D) (ci := 2) (C := gR_Tx) (T := gT_Tx) (N := 3) hx hb hts (fun w h => List.mem_cons_of_mem _ (gl_Tx w h)) hown hK (gq_one (c := 6) (k := q1) hH hq1 (gk_c6 cI cT ad u q1)) 0 rfl rfl 2 (by decide) (ht _ gt_25) (fun _ h9 => h9) rfl gd_Tx_sharedWith_55 ?_
    refine va_mmin hx hb (hml.trans hl.1.symm) hown (ht _ gt_284) (ht _ gt_238) (ht _ gt_8) (ht _ gt_239) (Nat.le_of_ble_eq_true rfl) (Nat.le_of_ble_eq_true rfl) (Nat.zero_le _) (Nat.zero_le _) gd_Tx_sharedWith_58 ?_
    refine W.eq (g2 := F0 m 61 ls (.int (fn_Ma_min (u.1 0 k) (u.1 0 q1)) :: [.int ((fn_Lo_numberOfLeadingZeros ((u.2 0 k) ^^^ (u.2 0 q1))) / 8)])) rfl ?_
    refine va_mmin hx hb (hml.trans hl.1.symm) hown (ht _ gt_284) (ht _ gt_238) (ht _ gt_8) (ht _ gt_239) (Nat.le_of_ble_eq_true rfl) (Nat.le_of_ble_eq_true rfl) (Nat.zero_le _) (Nat.zero_le _) gd_Tx_sharedWith_61 ?_
    refine W.eq (g2 := F0 m 64 ls (.int (fn_Ma_min ((fn_Lo_numberOfLeadingZeros ((u.2 0 k) ^^^ (u.2 0 q1))) / 8) (fn_Ma_min (u.1 0 k) (u.1 0 q1))) :: [])) rfl ?_
    cases hf
    exact W.iret hx hb hr (fun t ht hW => ⟨⟨_, _, rfl, ⟨rfl, rfl⟩, ⟨by rw [ht]; exact hH, va_K.moved hW.alike hK⟩⟩, hS.F ht⟩) hS.2.2 gd_Tx_sharedWith_64
set_option maxHeartbeats 4000000 in
set_option maxRecDepth 100000 in
theorem ct_Tx_startsWith (l : Launch) (D : va_G) (cI cT : ClassId) (ad : Nat → Nat → Nat) (hI : gq_I gk_vd ad) (u : gk_St) (k : Nat) (hk : k ≤ 100) (q1 : Nat) (hq1 : q1 ≤ 100) (z : Int32 × gk_St) (hf : fn_Tx_startsWith k q1 u = some z) : Met l gy_Tx_startsWith gws_Tx_startsWith ({ frames := 3, cells := 0, slots := 0, locals := 65 }) (va_Pc [.ref (ad 6 k), .ref (ad 6 q1)] (gq_pre D gc_cl (gk_tys cI cT) gk_vd ad gk_NF gk_NM (gk_pc cI cT ad u))) (va_Qi (fun r u2 => r = z.1 ∧ u2 = z.2) (fun u2 t => gq_B D gc_cl (gk_tys cI cT) gk_vd ad (gk_pc cI cT ad u2) t) (gq_A gk_vd ad)) 0 0 (gq_A gk_vd ad) := by
  refine Met.ofW (cc := gb_Tx_startsWith) (maxL := 2) (ret := (some .boolean)) (by decide) rfl ?_
  intro p e s m args below meth c s₁ B hml hv
  obtain ⟨rfl, hH, hK, hN⟩ := hv
  have hx := B.exec
  have hb := B.bytes
  have hr := B.returns
  have hts := atoms_spec (ws := gws_Tx_startsWith) B.pre
  have ht := fun (w : Cond) (h : w ∈ gt_T) => hts w (List.mem_cons_of_mem _ h)
  have hown : s.vm.findClass gR_Tx = some m.cls := findClass_of_methodNamed B.named
  have hlocks := B.notSynchronized
  have hA : ∀ q, (gq_A gk_vd ad) q → (gq_A gk_vd ad) q := fun _ h => h
  have hS : va_S (gq_A gk_vd ad) s.heap s.heap [] := va_S.rf
  have hl := lv_entry ([.ref (ad 6 k), .ref (ad 6 q1)]) (n := 2) (Nat.le_of_ble_eq_true rfl)
  rw [lg_entry_eq]
  generalize (lg_sl ([.ref (ad 6 k), .ref (ad 6 q1)]) ++ List.replicate (2 - (lg_sl ([.ref (ad 6 k), .ref (ad 6 q1)])).length) Slot.unset).toArray = ls at hl ⊢
  have hl : lv_has ls 2 [(0, .ref (ad 6 k)), (1, .ref (ad 6 q1))] := hl
  unfold fn_Tx_startsWith at hf
  refine lv_aload_n hx hb gd_Tx_startsWith_0 rfl (lv_at hl 0 rfl) ?_
  refine lv_aload_n hx hb gd_Tx_startsWith_1 rfl (lv_at hl 1 rfl) ?_
  obtain ⟨z1, hc2, hf⟩ := Option.bind_eq_some_iff.mp hf
  refine gq_calli (va_runV (As := [.ref (ad 6 q1)]) (rest := []) ⟨hx, hb, hml, hown, hts⟩ (ct_Tx_sharedWith l D cI cT ad hI u k hk q1 hq1 z1 hc2) (cwV 1 hts (gt_V gt_273 gt_274 gt_275 gt_2 gt_276) rfl rfl rfl (by decide +kernel) ⟨Nat.le_of_ble_eq_true rfl, Nat.le_of_ble_eq_true rfl⟩) (gq_preV hH hK hN (va_recv hK (gq_one (c := 6) (k := k) hH hk (gk_c6 cI cT ad u k)) (ci := 2) (q0 := 0) rfl rfl)) rfl rfl hl.1 rfl (lv_room (Nat.le_of_ble_eq_true rfl)) gd_Tx_startsWith_2 ⟨Nat.zero_le _, Nat.zero_le _⟩) hA hS (fun H locs hH hS => ?_)
  refine lv_aload_n hx hb gd_Tx_startsWith_5 rfl (lv_at hl 1 rfl) ?_
  refine va_get (D := D) (ci := 2) (C := gR_Tx) (T := gT_Tx) (N := 3) hx hb hts (fun w h => List.mem_cons_of_mem _ (gl_Tx w h)) hown hK (gq_one (c := 6) (k := q1) hH hq1 (gk_c6 cI cT ad z1.2 q1)) 0 rfl rfl 2 (by decide) (ht _ gt_25) (fun _ h9 => h9) rfl gd_Tx_startsWith_6 ?_
  refine lv_icmp_ne (tgt := 16) hx hb gd_Tx_startsWith_9 (by decide) (fun c3 => ?_) (fun c3 => ?_)
  · replace hf := gj_e c3 hf
    refine lv_iconst (v := 0) hx hb gd_Tx_startsWith_16 (by decide) ?_
    cases hf
    exact W.zret hx hb hr rfl (fun t ht hW => ⟨⟨_, _, rfl, ⟨rfl, rfl⟩, ⟨by rw [ht]; exact hH, va_K.moved hW.alike hK⟩⟩, hS.F ht⟩) hS.2.2 gd_Tx_startsWith_17
  · replace hf := gj_t c3 hf
    refine lv_iconst (v := 1) hx hb gd_Tx_startsWith_12 (by decide) ?_
    refine lv_goto (tgt := 17) hx hb gd_Tx_startsWith_13 (by decide) ?_
    cases hf
    exact W.zret hx hb hr rfl (fun t ht hW => ⟨⟨_, _, rfl, ⟨rfl, rfl⟩, ⟨by rw [ht]; exact hH, va_K.moved hW.alike hK⟩⟩, hS.F ht⟩) hS.2.2 gd_Tx_startsWith_17
end
section
set_option maxHeartbeats 4000000 in
set_option maxRecDepth 100000 in
theorem ct_Bk_begins (l : Launch) (D : va_G) (cI cT : ClassId) (ad : Nat → Nat → Nat) (hI : gq_I gk_vd ad) (u : gk_St) (p1 : Int32) (z : Int32 × gk_St) (hf : fn_Bk_begins p1 u = some z) : Met l gy_Bk_begins gws_Bk_begins ({ frames := 4, cells := 0, slots := 0, locals := 86 }) (va_Pc [.ref (ad 0 0), .int p1] (gq_pre D gc_cl (gk_tys cI cT) gk_vd ad gk_NF gk_NM (gk_pc cI cT ad u))) (va_Qi (fun r u2 => r = z.1 ∧ u2 = z.2) (fun u2 t => gq_B D gc_cl (gk_tys cI cT) gk_vd ad (gk_pc cI cT ad u2) t) (gq_A gk_vd ad)) 0 0 (gq_A gk_vd ad) := by
  refine Met.ofW (cc := gb_Bk_begins) (maxL := 5) (ret := (some .int)) (by decide) rfl ?_
  intro p e s m args below meth c s₁ B hml hv
  obtain ⟨rfl, hH, hK, hN⟩ := hv
  have hx := B.exec
  have hb := B.bytes
  have hr := B.returns
  have hts := atoms_spec (ws := gws_Bk_begins) B.pre
  have ht := fun (w : Cond) (h : w ∈ gt_T) => hts w (List.mem_cons_of_mem _ h)
  have hown : s.vm.findClass gR_Bk = some m.cls := findClass_of_methodNamed B.named
  have hlocks := B.notSynchronized
  have hA : ∀ q, (gq_A gk_vd ad) q → (gq_A gk_vd ad) q := fun _ h => h
  have hS : va_S (gq_A gk_vd ad) s.heap s.heap [] := va_S.rf
  have hl := lv_entry ([.ref (ad 0 0), .int p1]) (n := 5) (Nat.le_of_ble_eq_true rfl)
  rw [lg_entry_eq]
  generalize (lg_sl ([.ref (ad 0 0), .int p1]) ++ List.replicate (5 - (lg_sl ([.ref (ad 0 0), .int p1])).length) Slot.unset).toArray = ls at hl ⊢
  have hl : lv_has ls 5 [(0, .ref (ad 0 0)), (1, .int p1)] := hl
  have L13 : ∀ (n : Nat) (x1 : Int32) (x2 : Int32) (x3 : Int32) (u : gk_St) (H : Heap) (locs : List Loc) (ls : Array Slot), fn_Bk_begins_13 n x1 x2 x3 u = some z → gq_H D gc_cl gk_vd ad (gk_pc cI cT ad u) H → va_S (gq_A gk_vd ad) s.heap H locs → lv_has ls 5 [(0, .ref (ad 0 0)), (1, .int x1), (2, .int x2), (3, .int x3)] → W p l e (headSpec gws_Bk_begins ({ frames := 4, cells := 0, slots := 0, locals := 86 })).room s m ([.ref (ad 0 0), .int p1] : List Value).toArray below meth c H locs 0 0 (MQ below (va_Qi (fun r u2 => r = z.1 ∧ u2 = z.2) (fun u2 t => gq_B D gc_cl (gk_tys cI cT) gk_vd ad (gk_pc cI cT ad u2) t) (gq_A gk_vd ad)) ([.ref (ad 0 0), .int p1] : List Value).toArray s 0 0 (gq_A gk_vd ad)) (F0 m 13 ls []) := by
    intro n
    induction n with
    | zero =>
      intro x1 x2 x3 u H locs ls hf
      have h0 : none = some z := hf
      cases h0
    | succ n ih =>
      intro x1 x2 x3 u H locs ls hf hH hS hl
      rw [fn_Bk_begins_13] at hf
      refine lv_iload_n hx hb gd_Bk_begins_13 rfl (lv_at hl 3 rfl) ?_
      refine lv_bipush (v := 100) hx hb gd_Bk_begins_14 (by decide) ?_
      refine lv_icmp_ge (tgt := 64) hx hb gd_Bk_begins_16 (by decide) (fun c12 => ?_) (fun c12 => ?_)
      · replace hf := gj_t c12 hf
        refine lv_iload_n hx hb gd_Bk_begins_64 rfl (lv_at hl 2 rfl) ?_
        cases hf
        exact W.iret hx hb hr (fun t ht hW => ⟨⟨_, _, rfl, ⟨rfl, rfl⟩, ⟨by rw [ht]; exact hH, va_K.moved hW.alike hK⟩⟩, hS.F ht⟩) hS.2.2 gd_Bk_begins_65
      · replace hf := gj_e c12 hf
        refine lv_aload_n hx hb gd_Bk_begins_19 rfl (lv_at hl 0 rfl) ?_
        refine lv_iload_n hx hb gd_Bk_begins_20 rfl (lv_at hl 3 rfl) ?_
        obtain ⟨⟨o5, u6⟩, hc4, hf⟩ := Option.bind_eq_some_iff.mp hf
        refine gq_calle (va_runV (As := [.int x3]) (rest := []) ⟨hx, hb, hml, hown, hts⟩ (ct_Bk_inBook l D cI cT ad hI u x3 (o5, u6) hc4) (cwV 1 hts (gt_V gt_147 gt_149 (gt_sel (List.mem_of_getElem? (i := 3) rfl)) gt_1 gt_150) rfl rfl rfl (by decide +kernel) ⟨Nat.le_of_ble_eq_true rfl, Nat.le_of_ble_eq_true rfl⟩) (gq_preV hH hK hN (va_recv hK (gq_one (c := 0) (k := 0) hH rfl (gk_c0 cI cT ad u)) (ci := 0) (q0 := 0) rfl rfl)) rfl rfl hl.1 rfl (lv_room (Nat.le_of_ble_eq_true rfl)) gd_Bk_begins_21 ⟨Nat.zero_le _, Nat.zero_le _⟩) hA hS (fun H locs hH hS => ?_)
        cases o5 with
        | none =>
          have hH : gq_H D gc_cl gk_vd ad (gk_pc cI cT ad u6) H := hH
          refine W.eq (g2 := F0 m 24 ls [.null]) rfl ?_
          dsimp only at hf
          refine lv_astoreN (lv' := [(4, .null), (0, .ref (ad 0 0)), (1, .int x1), (2, .int x2), (3, .int x3)]) hx hb gd_Bk_begins_24 hl (by decide) rfl (fun ls hl => ?_)
          refine lv_aloadN hx hb gd_Bk_begins_26 (lv_at hl 0 rfl) ?_
          refine lv_ifnullN (tgt := 58) hx hb gd_Bk_begins_28 (by decide) ?_
          refine lv_iinc (v := x3 + 1) (lv' := [(3, .int (x3 + 1)), (4, .null), (0, .ref (ad 0 0)), (1, .int x1), (2, .int x2)]) hx hb gd_Bk_begins_58 hl (k := 4) rfl rfl (by decide) rfl (fun ls hl => ?_)
          refine lv_goto (tgt := 13) hx hb gd_Bk_begins_61 (by decide) ?_
          exact ih x1 x2 (x3 + 1) u6 _ _ _ hf hH hS (lv_sub hl [2, 3, 4, 0] rfl)
        | some k7 =>
          have hH : gq_H D gc_cl gk_vd ad (gk_pc cI cT ad u6) H := hH
          refine W.eq (g2 := F0 m 24 ls [.ref (ad 7 k7)]) rfl ?_
          dsimp only at hf
          refine lv_astore (lv' := [(4, .ref (ad 7 k7)), (0, .ref (ad 0 0)), (1, .int x1), (2, .int x2), (3, .int x3)]) hx hb gd_Bk_begins_24 hl (by decide) rfl (fun ls hl => ?_)
          refine lv_aload hx hb gd_Bk_begins_26 (lv_at hl 0 rfl) ?_
          refine lv_ifnull hx hb gd_Bk_begins_28 ?_
          refine lv_aload hx hb gd_Bk_begins_31 (lv_at hl 0 rfl) ?_
          refine va_getN (D := D) (ci := 3) (C := gR_Tm) (T := gT_Tm) (N := 5) hx hb hts (fun w h => List.mem_cons_of_mem _ (gl_Tm w h)) hown hK (gq_one (c := 7) (k := k7) hH (ok_Bk_inBook hc4) (gk_c7 cI cT ad u6 k7)) 0 rfl rfl 2 (by decide) (va_Nw.use rfl (hN.1 _ (List.mem_of_getElem? (i := 3) rfl))) (fun _ h9 => h9) rfl gd_Bk_begins_33 ?_
          refine lv_iload_n hx hb gd_Bk_begins_36 rfl (lv_at hl 2 rfl) ?_
          refine lv_icmp_ne (tgt := 58) hx hb gd_Bk_begins_37 (by decide) (fun c11 => ?_) (fun c11 => ?_)
          · replace hf := gj_e c11 hf
            refine lv_iinc (v := x3 + 1) (lv' := [(3, .int (x3 + 1)), (4, .ref (ad 7 k7)), (0, .ref (ad 0 0)), (1, .int x1), (2, .int x2)]) hx hb gd_Bk_begins_58 hl (k := 4) rfl rfl (by decide) rfl (fun ls hl => ?_)
            refine lv_goto (tgt := 13) hx hb gd_Bk_begins_61 (by decide) ?_
            exact ih x1 x2 (x3 + 1) u6 _ _ _ hf hH hS (lv_sub hl [2, 3, 4, 0] rfl)
          · replace hf := gj_t c11 hf
            refine lv_aload hx hb gd_Bk_begins_40 (lv_at hl 0 rfl) ?_
            refine va_getN (D := D) (ci := 3) (C := gR_Tm) (T := gT_Tm) (N := 5) hx hb hts (fun w h => List.mem_cons_of_mem _ (gl_Tm w h)) hown hK (gq_one (c := 7) (k := k7) hH (ok_Bk_inBook hc4) (gk_c7 cI cT ad u6 k7)) 0 rfl rfl 0 (by decide) (va_Nw.use rfl (hN.1 _ (List.mem_of_getElem? (i := 1) rfl))) (fun _ h9 => h9) rfl gd_Bk_begins_42 ?_
            refine lv_aload_n hx hb gd_Bk_begins_45 rfl (lv_at hl 1 rfl) ?_
            refine va_get (D := D) (ci := 0) (C := gR_Bk) (T := gT_Bk) (N := 5) hx hb hts (fun w h => List.mem_cons_of_mem _ (gl_Bk w h)) hown hK (gq_one (c := 0) (k := 0) hH rfl (gk_c0 cI cT ad u6)) 0 rfl rfl 0 (by decide) (ht _ gt_85) (fun _ h9 => h9) rfl gd_Bk_begins_46 ?_
            obtain ⟨z8, hc9, hf⟩ := Option.bind_eq_some_iff.mp hf
            refine gq_calli (va_runV (As := [.ref (ad 6 100)]) (rest := []) ⟨hx, hb, hml, hown, hts⟩ (ct_Tx_startsWith l D cI cT ad hI u6 k7 (Nat.le_of_lt (ok_Bk_inBook hc4)) 100 (Nat.le_refl 100) z8 hc9) (cwV 1 hts (gt_V gt_269 gt_270 gt_271 gt_2 gt_272) rfl rfl rfl (by decide +kernel) ⟨Nat.le_of_ble_eq_true rfl, Nat.le_of_ble_eq_true rfl⟩) (gq_preV hH hK hN (va_recv hK (gq_one (c := 6) (k := k7) hH (Nat.le_of_lt (ok_Bk_inBook hc4)) (gk_c6 cI cT ad u6 k7)) (ci := 2) (q0 := 0) rfl rfl)) rfl rfl hl.1 rfl (lv_room (Nat.le_of_ble_eq_true rfl)) gd_Bk_begins_49 ⟨Nat.zero_le _, Nat.zero_le _⟩) hA hS (fun H locs hH hS => ?_)
            refine lv_if_eq (tgt := 58) hx hb gd_Bk_begins_52 (by decide) (fun c10 => ?_) (fun c10 => ?_)
            · replace hf := gj_t c10 hf
              refine lv_iinc (v := x3 + 1) (lv' := [(3, .int (x3 + 1)), (4, .ref (ad 7 k7)), (0, .ref (ad 0 0)), (1, .int x1), (2, .int x2)]) hx hb gd_Bk_begins_58 hl (k := 4) rfl rfl (by decide) rfl (fun ls hl => ?_)
              refine lv_goto (tgt := 13) hx hb gd_Bk_begins_61 (by decide) ?_
              exact ih x1 x2 (x3 + 1) z8.2 _ _ _ hf hH hS (lv_sub hl [2, 3, 4, 0] rfl)
            · replace hf := gj_e c10 hf
              refine lv_iinc (v := x2 + 1) (lv' := [(2, .int (x2 + 1)), (4, .ref (ad 7 k7)), (0, .ref (ad 0 0)), (1, .int x1), (3, .int x3)]) hx hb gd_Bk_begins_55 hl (k := 3) rfl rfl (by decide) rfl (fun ls hl => ?_)
              refine lv_iinc (v := x3 + 1) (lv' := [(3, .int (x3 + 1)), (2, .int (x2 + 1)), (4, .ref (ad 7 k7)), (0, .ref (ad 0 0)), (1, .int x1)]) hx hb gd_Bk_begins_58 hl (k := 4) rfl rfl (by decide) rfl (fun ls hl => ?_)
              refine lv_goto (tgt := 13) hx hb gd_Bk_begins_61 (by decide) ?_
              exact ih x1 (x2 + 1) (x3 + 1) z8.2 _ _ _ hf hH hS (lv_sub hl [3, 4, 1, 0] rfl)
  unfold fn_Bk_begins at hf
  refine lv_iload_n hx hb gd_Bk_begins_0 rfl (lv_at hl 1 rfl) ?_
  obtain ⟨z1, hc2, hf⟩ := Option.bind_eq_some_iff.mp hf
  refine gq_calli (va_runS (As := [.int p1]) (rest := []) ⟨hx, hb, hml, hown, hts⟩ (ct_Bk_isKind l D cI cT ad hI u p1 z1 hc2) (va_cwS 1 hts (gt_S gt_128 gt_129 gt_1 gt_130) rfl rfl rfl (by decide +kernel) ⟨Nat.le_of_ble_eq_true rfl, Nat.le_of_ble_eq_true rfl⟩) (gq_preS hH hK hN) rfl rfl hl.1 rfl (lv_room (Nat.le_of_ble_eq_true rfl)) gd_Bk_begins_1 ⟨Nat.zero_le _, Nat.zero_le _⟩) hA hS (fun H locs hH hS => ?_)
  refine lv_if_ne (tgt := 9) hx hb gd_Bk_begins_4 (by decide) (fun c13 => ?_) (fun c13 => ?_)
  · replace hf := gj_e c13 hf
    refine lv_iconst (v := 0) hx hb gd_Bk_begins_9 (by decide) ?_
    refine lv_istore_n (lv' := [(2, .int 0), (0, .ref (ad 0 0)), (1, .int p1)]) hx hb gd_Bk_begins_10 rfl hl (by decide) rfl (fun ls hl => ?_)
    refine lv_iconst (v := 0) hx hb gd_Bk_begins_11 (by decide) ?_
    refine lv_istore_n (lv' := [(3, .int 0), (2, .int 0), (0, .ref (ad 0 0)), (1, .int p1)]) hx hb gd_Bk_begins_12 rfl hl (by decide) rfl (fun ls hl => ?_)
    exact L13 gk_fu p1 0 0 z1.2 _ _ _ hf hH hS (lv_sub hl [2, 3, 1, 0] rfl)
  · replace hf := gj_t c13 hf
    refine lv_iconst (v := (-1)) hx hb gd_Bk_begins_7 (by decide) ?_
    cases hf
    exact W.iret hx hb hr (fun t ht hW => ⟨⟨_, _, rfl, ⟨rfl, rfl⟩, ⟨by rw [ht]; exact hH, va_K.moved hW.alike hK⟩⟩, hS.F ht⟩) hS.2.2 gd_Bk_begins_8
set_option maxHeartbeats 4000000 in
set_option maxRecDepth 100000 in
theorem ct_Bk_from (l : Launch) (D : va_G) (cI cT : ClassId) (ad : Nat → Nat → Nat) (hI : gq_I gk_vd ad) (u : gk_St) (p1 : Int32) (z : Int32 × gk_St) (hf : fn_Bk_from p1 u = some z) : Met l gy_Bk_from gws_Bk_from ({ frames := 5, cells := 0, slots := 0, locals := 111 }) (va_Pc [.ref (ad 0 0), .int p1] (gq_pre D gc_cl (gk_tys cI cT) gk_vd ad gk_NF gk_NM (gk_pc cI cT ad u))) (va_Qi (fun r u2 => r = z.1 ∧ u2 = z.2) (fun u2 t => gq_B D gc_cl (gk_tys cI cT) gk_vd ad (gk_pc cI cT ad u2) t) (gq_A gk_vd ad)) 0 0 (gq_A gk_vd ad) := by
  refine Met.ofW (cc := gb_Bk_from) (maxL := 2) (ret := (some .int)) (by decide) rfl ?_
  intro p e s m args below meth c s₁ B hml hv
  obtain ⟨rfl, hH, hK, hN⟩ := hv
  have hx := B.exec
  have hb := B.bytes
  have hr := B.returns
  have hts := atoms_spec (ws := gws_Bk_from) B.pre
  have ht := fun (w : Cond) (h : w ∈ gt_T) => hts w (List.mem_cons_of_mem _ h)
  have hown : s.vm.findClass gR_Bk = some m.cls := findClass_of_methodNamed B.named
  have hlocks := B.notSynchronized
  have hA : ∀ q, (gq_A gk_vd ad) q → (gq_A gk_vd ad) q := fun _ h => h
  have hS : va_S (gq_A gk_vd ad) s.heap s.heap [] := va_S.rf
  have hl := lv_entry ([.ref (ad 0 0), .int p1]) (n := 2) (Nat.le_of_ble_eq_true rfl)
  rw [lg_entry_eq]
  generalize (lg_sl ([.ref (ad 0 0), .int p1]) ++ List.replicate (2 - (lg_sl ([.ref (ad 0 0), .int p1])).length) Slot.unset).toArray = ls at hl ⊢
  have hl : lv_has ls 2 [(0, .ref (ad 0 0)), (1, .int p1)] := hl
  unfold fn_Bk_from at hf
  refine lv_iload_n hx hb gd_Bk_from_0 rfl (lv_at hl 1 rfl) ?_
  obtain ⟨z1, hc2, hf⟩ := Option.bind_eq_some_iff.mp hf
  refine gq_calli (va_runS (As := [.int p1]) (rest := []) ⟨hx, hb, hml, hown, hts⟩ (ct_Bk_isKind l D cI cT ad hI u p1 z1 hc2) (va_cwS 1 hts (gt_S gt_128 gt_129 gt_1 gt_130) rfl rfl rfl (by decide +kernel) ⟨Nat.le_of_ble_eq_true rfl, Nat.le_of_ble_eq_true rfl⟩) (gq_preS hH hK hN) rfl rfl hl.1 rfl (lv_room (Nat.le_of_ble_eq_true rfl)) gd_Bk_from_1 ⟨Nat.zero_le _, Nat.zero_le _⟩) hA hS (fun H locs hH hS => ?_)
  refine lv_if_eq (tgt := 15) hx hb gd_Bk_from_4 (by decide) (fun c5 => ?_) (fun c5 => ?_)
  · replace hf := gj_t c5 hf
    refine lv_iconst (v := (-1)) hx hb gd_Bk_from_15 (by decide) ?_
    cases hf
    exact W.iret hx hb hr (fun t ht hW => ⟨⟨_, _, rfl, ⟨rfl, rfl⟩, ⟨by rw [ht]; exact hH, va_K.moved hW.alike hK⟩⟩, hS.F ht⟩) hS.2.2 gd_Bk_from_16
  · replace hf := gj_e c5 hf
    refine lv_aload_n hx hb gd_Bk_from_7 rfl (lv_at hl 0 rfl) ?_
    refine lv_iload_n hx hb gd_Bk_from_8 rfl (lv_at hl 1 rfl) ?_
    obtain ⟨z3, hc4, hf⟩ := Option.bind_eq_some_iff.mp hf
    refine gq_calli (va_runV (As := [.int p1]) (rest := []) ⟨hx, hb, hml, hown, hts⟩ (ct_Bk_placeOfTape l D cI cT ad hI z1.2 p1 z3 hc4) (cwV 1 hts (gt_V gt_135 gt_137 (gt_sel (List.mem_of_getElem? (i := 1) rfl)) gt_1 gt_138) rfl rfl rfl (by decide +kernel) ⟨Nat.le_of_ble_eq_true rfl, Nat.le_of_ble_eq_true rfl⟩) (gq_preV hH hK hN (va_recv hK (gq_one (c := 0) (k := 0) hH rfl (gk_c0 cI cT ad z1.2)) (ci := 0) (q0 := 0) rfl rfl)) rfl rfl hl.1 rfl (lv_room (Nat.le_of_ble_eq_true rfl)) gd_Bk_from_9 ⟨Nat.zero_le _, Nat.zero_le _⟩) hA hS (fun H locs hH hS => ?_)
    refine lv_goto (tgt := 16) hx hb gd_Bk_from_12 (by decide) ?_
    cases hf
    exact W.iret hx hb hr (fun t ht hW => ⟨⟨_, _, rfl, ⟨rfl, rfl⟩, ⟨by rw [ht]; exact hH, va_K.moved hW.alike hK⟩⟩, hS.F ht⟩) hS.2.2 gd_Bk_from_16
set_option maxHeartbeats 4000000 in
set_option maxRecDepth 100000 in
theorem ct_Bk_slotOf (l : Launch) (D : va_G) (cI cT : ClassId) (ad : Nat → Nat → Nat) (hI : gq_I gk_vd ad) (u : gk_St) (p1 : Int32) (z : Int32 × gk_St) (hf : fn_Bk_slotOf p1 u = some z) : Met l gy_Bk_slotOf gws_Bk_slotOf ({ frames := 0, cells := 0, slots := 0, locals := 0 }) (va_Pc [.ref (ad 0 0), .int p1] (gq_pre D gc_cl (gk_tys cI cT) gk_vd ad gk_NF gk_NM (gk_pc cI cT ad u))) (va_Qi (fun r u2 => r = z.1 ∧ u2 = z.2) (fun u2 t => gq_B D gc_cl (gk_tys cI cT) gk_vd ad (gk_pc cI cT ad u2) t) (gq_A gk_vd ad)) 0 0 (gq_A gk_vd ad) := by
  refine Met.ofW (cc := gb_Bk_slotOf) (maxL := 3) (ret := (some .int)) (by decide) rfl ?_
  intro p e s m args below meth c s₁ B hml hv
  obtain ⟨rfl, hH, hK, hN⟩ := hv
  have hx := B.exec
  have hb := B.bytes
  have hr := B.returns
  have hts := atoms_spec (ws := gws_Bk_slotOf) B.pre
  have ht := fun (w : Cond) (h : w ∈ gt_T) => hts w (List.mem_cons_of_mem _ h)
  have hown : s.vm.findClass gR_Bk = some m.cls := findClass_of_methodNamed B.named
  have hlocks := B.notSynchronized
  have hA : ∀ q, (gq_A gk_vd ad) q → (gq_A gk_vd ad) q := fun _ h => h
  have hS : va_S (gq_A gk_vd ad) s.heap s.heap [] := va_S.rf
  have hl := lv_entry ([.ref (ad 0 0), .int p1]) (n := 3) (Nat.le_of_ble_eq_true rfl)
  rw [lg_entry_eq]
  generalize (lg_sl ([.ref (ad 0 0), .int p1]) ++ List.replicate (3 - (lg_sl ([.ref (ad 0 0), .int p1])).length) Slot.unset).toArray = ls at hl ⊢
  have hl : lv_has ls 3 [(0, .ref (ad 0 0)), (1, .int p1)] := hl
  have L2 : ∀ (n : Nat) (x1 : Int32) (x2 : Int32) (u : gk_St) (H : Heap) (locs : List Loc) (ls : Array Slot), fn_Bk_slotOf_2 n x1 x2 u = some z → gq_H D gc_cl gk_vd ad (gk_pc cI cT ad u) H → va_S (gq_A gk_vd ad) s.heap H locs → lv_has ls 3 [(0, .ref (ad 0 0)), (1, .int x1), (2, .int x2)] → W p l e (headSpec gws_Bk_slotOf ({ frames := 0, cells := 0, slots := 0, locals := 0 })).room s m ([.ref (ad 0 0), .int p1] : List Value).toArray below meth c H locs 0 0 (MQ below (va_Qi (fun r u2 => r = z.1 ∧ u2 = z.2) (fun u2 t => gq_B D gc_cl (gk_tys cI cT) gk_vd ad (gk_pc cI cT ad u2) t) (gq_A gk_vd ad)) ([.ref (ad 0 0), .int p1] : List Value).toArray s 0 0 (gq_A gk_vd ad)) (F0 m 2 ls []) := by
    intro n
    induction n with
    | zero =>
      intro x1 x2 u H locs ls hf
      have h0 : none = some z := hf
      cases h0
    | succ n ih =>
      intro x1 x2 u H locs ls hf hH hS hl
      rw [fn_Bk_slotOf_2] at hf
      refine lv_iload_n hx hb gd_Bk_slotOf_2 rfl (lv_at hl 2 rfl) ?_
      refine lv_aload_n hx hb gd_Bk_slotOf_3 rfl (lv_at hl 0 rfl) ?_
      refine va_get (D := D) (ci := 0) (C := gR_Bk) (T := gT_Bk) (N := 5) hx hb hts (fun w h => List.mem_cons_of_mem _ (gl_Bk w h)) hown hK (gq_one (c := 0) (k := 0) hH rfl (gk_c0 cI cT ad u)) 0 rfl rfl 3 (by decide) (ht _ gt_88) (fun _ h9 => h9) rfl gd_Bk_slotOf_4 ?_
      refine va_alen (D := D) (v := 6) hx hb hK (gq_one (c := 5) (k := 0) hH rfl (gk_c5 cI cT ad u)) 0 0 rfl rfl rfl gd_Bk_slotOf_7 ?_
      refine lv_icmp_ge (tgt := 29) hx hb gd_Bk_slotOf_8 (by decide) (fun c3 => ?_) (fun c3 => ?_)
      · replace hf := gj_t c3 hf
        refine lv_iconst (v := (-1)) hx hb gd_Bk_slotOf_29 (by decide) ?_
        cases hf
        exact W.iret hx hb hr (fun t ht hW => ⟨⟨_, _, rfl, ⟨rfl, rfl⟩, ⟨by rw [ht]; exact hH, va_K.moved hW.alike hK⟩⟩, hS.F ht⟩) hS.2.2 gd_Bk_slotOf_30
      · replace hf := gj_e c3 hf
        refine lv_aload_n hx hb gd_Bk_slotOf_11 rfl (lv_at hl 0 rfl) ?_
        refine va_get (D := D) (ci := 0) (C := gR_Bk) (T := gT_Bk) (N := 5) hx hb hts (fun w h => List.mem_cons_of_mem _ (gl_Bk w h)) hown hK (gq_one (c := 0) (k := 0) hH rfl (gk_c0 cI cT ad u)) 0 rfl rfl 3 (by decide) (ht _ gt_88) (fun _ h9 => h9) rfl gd_Bk_slotOf_12 ?_
        refine lv_iload_n hx hb gd_Bk_slotOf_15 rfl (lv_at hl 2 rfl) ?_
        obtain ⟨hg1, hf⟩ := gj_g hf
        refine va_iald (D := D) hx hb hK (gq_one (c := 5) (k := 0) hH rfl (gk_c5 cI cT ad u)) 0 0 rfl rfl hg1 gd_Bk_slotOf_16 ?_
        refine lv_iload_n hx hb gd_Bk_slotOf_17 rfl (lv_at hl 1 rfl) ?_
        refine lv_icmp_ne (tgt := 23) hx hb gd_Bk_slotOf_18 (by decide) (fun c2 => ?_) (fun c2 => ?_)
        · replace hf := gj_e c2 hf
          refine lv_iinc (v := x2 + 1) (lv' := [(2, .int (x2 + 1)), (0, .ref (ad 0 0)), (1, .int x1)]) hx hb gd_Bk_slotOf_23 hl (k := 2) rfl rfl (by decide) rfl (fun ls hl => ?_)
          refine lv_goto (tgt := 2) hx hb gd_Bk_slotOf_26 (by decide) ?_
          exact ih x1 (x2 + 1) u _ _ _ hf hH hS (lv_sub hl [1, 2, 0] rfl)
        · replace hf := gj_t c2 hf
          refine lv_iload_n hx hb gd_Bk_slotOf_21 rfl (lv_at hl 2 rfl) ?_
          cases hf
          exact W.iret hx hb hr (fun t ht hW => ⟨⟨_, _, rfl, ⟨rfl, rfl⟩, ⟨by rw [ht]; exact hH, va_K.moved hW.alike hK⟩⟩, hS.F ht⟩) hS.2.2 gd_Bk_slotOf_22
  unfold fn_Bk_slotOf at hf
  refine lv_iconst (v := 0) hx hb gd_Bk_slotOf_0 (by decide) ?_
  refine lv_istore_n (lv' := [(2, .int 0), (0, .ref (ad 0 0)), (1, .int p1)]) hx hb gd_Bk_slotOf_1 rfl hl (by decide) rfl (fun ls hl => ?_)
  exact L2 gk_fu p1 0 u _ _ _ hf hH hS (lv_sub hl [1, 2, 0] rfl)
set_option maxHeartbeats 4000000 in
set_option maxRecDepth 100000 in
theorem ct_Tm_keepFor (l : Launch) (D : va_G) (cI cT : ClassId) (ad : Nat → Nat → Nat) (hI : gq_I gk_vd ad) (u : gk_St) (k : Nat) (hk : k < 100) (p1 : Int32) (z : gk_St) (hf : fn_Tm_keepFor k p1 u = some z) : Met l gy_Tm_keepFor gws_Tm_keepFor ({ frames := 0, cells := 0, slots := 0, locals := 0 }) (va_Pc [.ref (ad 7 k), .int p1] (gq_pre D gc_cl (gk_tys cI cT) gk_vd ad gk_NF gk_NM (gk_pc cI cT ad u))) (va_Qv (fun u2 => u2 = z) (fun u2 t => gq_B D gc_cl (gk_tys cI cT) gk_vd ad (gk_pc cI cT ad u2) t) (gq_A gk_vd ad)) 0 0 (gq_A gk_vd ad) := by
  refine Met.ofW (cc := gb_Tm_keepFor) (maxL := 2) (ret := none) (by decide) rfl ?_
  intro p e s m args below meth c s₁ B hml hv
  obtain ⟨rfl, hH, hK, hN⟩ := hv
  have hx := B.exec
  have hb := B.bytes
  have hr := B.returns
  have hts := atoms_spec (ws := gws_Tm_keepFor) B.pre
  have ht := fun (w : Cond) (h : w ∈ gt_T) => hts w (List.mem_cons_of_mem _ h)
  have hown : s.vm.findClass gR_Tm = some m.cls := findClass_of_methodNamed B.named
  have hlocks := B.notSynchronized
  have hA : ∀ q, (gq_A gk_vd ad) q → (gq_A gk_vd ad) q := fun _ h => h
  have hS : va_S (gq_A gk_vd ad) s.heap s.heap [] := va_S.rf
  have hl := lv_entry ([.ref (ad 7 k), .int p1]) (n := 2) (Nat.le_of_ble_eq_true rfl)
  rw [lg_entry_eq]
  generalize (lg_sl ([.ref (ad 7 k), .int p1]) ++ List.replicate (2 - (lg_sl ([.ref (ad 7 k), .int p1])).length) Slot.unset).toArray = ls at hl ⊢
  have hl : lv_has ls 2 [(0, .ref (ad 7 k)), (1, .int p1)] := hl
  unfold fn_Tm_keepFor at hf
  refine lv_aload_n hx hb gd_Tm_keepFor_0 rfl (lv_at hl 0 rfl) ?_
  refine lv_dup hx hb gd_Tm_keepFor_1 rfl ?_
  refine va_get (D := D) (ci := 3) (C := gR_Tm) (T := gT_Tm) (N := 5) hx hb hts (fun w h => List.mem_cons_of_mem _ (gl_Tm w h)) hown hK (gq_one (c := 7) (k := k) hH hk (gk_c7 cI cT ad u k)) 0 rfl rfl 4 (by decide) (ht _ gt_51) (fun _ h9 => h9) rfl gd_Tm_keepFor_2 ?_
  refine lv_iconst (v := 1) hx hb gd_Tm_keepFor_5 (by decide) ?_
  refine lv_iload_n hx hb gd_Tm_keepFor_6 rfl (lv_at hl 1 rfl) ?_
  refine lv_ishl hx hb gd_Tm_keepFor_7 ?_
  refine lv_ior hx hb gd_Tm_keepFor_8 ?_
  refine gq_put (D := D) (ci := 3) (C := gR_Tm) (T := gT_Tm) (N := 5) (ca := 7) (ka := k) (pp' := gk_pc cI cT ad (gk_sI u 4 k ((u.1 4 k) ||| ((1 : Int32) <<< (p1 &&& 31))))) (ty := .int) hx hb hts (fun w h => List.mem_cons_of_mem _ (gl_Tm w h)) gF_Tm gf_Tm gn_Tm hown hK hH hI hA hk (gk_c7 cI cT ad u k) rfl 4 (by decide) (ht _ gt_51) (fun _ h9 => h9) rfl (by decide +kernel) rfl rfl (Nat.le_of_ble_eq_true rfl) (gk_w4 cI cT ad u k ((u.1 4 k) ||| ((1 : Int32) <<< (p1 &&& 31)))) (gk_o4 cI cT ad u k ((u.1 4 k) ||| ((1 : Int32) <<< (p1 &&& 31)))) hS gd_Tm_keepFor_9 (fun H locs hH hS => ?_)
  cases hf
  exact W.vret hx hb hr (fun t ht hW => ⟨⟨_, rfl, rfl, ⟨by rw [ht]; exact hH, va_K.moved hW.alike hK⟩⟩, hS.F ht⟩) hS.2.2 gd_Tm_keepFor_12
set_option maxHeartbeats 4000000 in
set_option maxRecDepth 100000 in
theorem ct_Bk_version (l : Launch) (D : va_G) (cI cT : ClassId) (ad : Nat → Nat → Nat) (hI : gq_I gk_vd ad) (u : gk_St)  (z : Int32 × gk_St) (hf : fn_Bk_version u = some z) : Met l gy_Bk_version gws_Bk_version ({ frames := 1, cells := 0, slots := 0, locals := 22 }) (va_Pc [.ref (ad 0 0)] (gq_pre D gc_cl (gk_tys cI cT) gk_vd ad gk_NF gk_NM (gk_pc cI cT ad u))) (va_Qi (fun r u2 => r = z.1 ∧ u2 = z.2) (fun u2 t => gq_B D gc_cl (gk_tys cI cT) gk_vd ad (gk_pc cI cT ad u2) t) (gq_A gk_vd ad)) 0 0 (gq_A gk_vd ad) := by
  refine Met.ofW (cc := gb_Bk_version) (maxL := 4) (ret := (some .int)) (by decide) rfl ?_
  intro p e s m args below meth c s₁ B hml hv
  obtain ⟨rfl, hH, hK, hN⟩ := hv
  have hx := B.exec
  have hb := B.bytes
  have hr := B.returns
  have hts := atoms_spec (ws := gws_Bk_version) B.pre
  have ht := fun (w : Cond) (h : w ∈ gt_T) => hts w (List.mem_cons_of_mem _ h)
  have hown : s.vm.findClass gR_Bk = some m.cls := findClass_of_methodNamed B.named
  have hlocks := B.notSynchronized
  have hA : ∀ q, (gq_A gk_vd ad) q → (gq_A gk_vd ad) q := fun _ h => h
  have hS : va_S (gq_A gk_vd ad) s.heap s.heap [] := va_S.rf
  have hl := lv_entry ([.ref (ad 0 0)]) (n := 4) (Nat.le_of_ble_eq_true rfl)
  rw [lg_entry_eq]
  generalize (lg_sl ([.ref (ad 0 0)]) ++ List.replicate (4 - (lg_sl ([.ref (ad 0 0)])).length) Slot.unset).toArray = ls at hl ⊢
  have hl : lv_has ls 4 [(0, .ref (ad 0 0))] := hl
  have L16 : ∀ (n : Nat) (x1 : Int32) (x2 : Int32) (u : gk_St) (H : Heap) (locs : List Loc) (ls : Array Slot), fn_Bk_version_16 n x1 x2 u = some z → gq_H D gc_cl gk_vd ad (gk_pc cI cT ad u) H → va_S (gq_A gk_vd ad) s.heap H locs → lv_has ls 4 [(0, .ref (ad 0 0)), (1, .int x1), (2, .int x2)] → W p l e (headSpec gws_Bk_version ({ frames := 1, cells := 0, slots := 0, locals := 22 })).room s m ([.ref (ad 0 0)] : List Value).toArray below meth c H locs 0 0 (MQ below (va_Qi (fun r u2 => r = z.1 ∧ u2 = z.2) (fun u2 t => gq_B D gc_cl (gk_tys cI cT) gk_vd ad (gk_pc cI cT ad u2) t) (gq_A gk_vd ad)) ([.ref (ad 0 0)] : List Value).toArray s 0 0 (gq_A gk_vd ad)) (F0 m 16 ls []) := by
    intro n
    induction n with
    | zero =>
      intro x1 x2 u H locs ls hf
      have h0 : none = some z := hf
      cases h0
    | succ n ih =>
      intro x1 x2 u H locs ls hf hH hS hl
      rw [fn_Bk_version_16] at hf
      refine lv_iload_n hx hb gd_Bk_version_16 rfl (lv_at hl 2 rfl) ?_
      refine lv_bipush (v := 100) hx hb gd_Bk_version_17 (by decide) ?_
      refine lv_icmp_ge (tgt := 50) hx hb gd_Bk_version_19 (by decide) (fun c13 => ?_) (fun c13 => ?_)
      · replace hf := gj_t c13 hf
        refine lv_aload_n hx hb gd_Bk_version_50 rfl (lv_at hl 0 rfl) ?_
        refine va_get (D := D) (ci := 0) (C := gR_Bk) (T := gT_Bk) (N := 5) hx hb hts (fun w h => List.mem_cons_of_mem _ (gl_Bk w h)) hown hK (gq_one (c := 0) (k := 0) hH rfl (gk_c0 cI cT ad u)) 0 rfl rfl 3 (by decide) (ht _ gt_88) (fun _ h9 => h9) rfl gd_Bk_version_51 ?_
        refine lv_iload_n hx hb gd_Bk_version_54 rfl (lv_at hl 1 rfl) ?_
        refine lv_aload_n hx hb gd_Bk_version_55 rfl (lv_at hl 0 rfl) ?_
        refine va_get (D := D) (ci := 0) (C := gR_Bk) (T := gT_Bk) (N := 5) hx hb hts (fun w h => List.mem_cons_of_mem _ (gl_Bk w h)) hown hK (gq_one (c := 0) (k := 0) hH rfl (gk_c0 cI cT ad u)) 0 rfl rfl 4 (by decide) (ht _ gt_89) (fun _ h9 => h9) rfl gd_Bk_version_56 ?_
        obtain ⟨hg3, hf⟩ := gj_g hf
        refine gq_iast (D := D) (ca := 5) (ka := 0) (pp' := gk_pc cI cT ad (gk_sI u 9 (Int32.toNatClampNeg x1) (u.1 10 0))) hx hb hK hH hI hA rfl (gk_c5 cI cT ad u) 0 rfl hg3 (gk_w9 cI cT ad u (Int32.toNatClampNeg x1) (u.1 10 0)) (gk_o9 cI cT ad u (Int32.toNatClampNeg x1) (u.1 10 0)) hS gd_Bk_version_59 (fun H locs hH hS => ?_)
        refine lv_aload_n hx hb gd_Bk_version_60 rfl (lv_at hl 0 rfl) ?_
        refine lv_dup hx hb gd_Bk_version_61 rfl ?_
        refine va_get (D := D) (ci := 0) (C := gR_Bk) (T := gT_Bk) (N := 5) hx hb hts (fun w h => List.mem_cons_of_mem _ (gl_Bk w h)) hown hK (gq_one (c := 0) (k := 0) hH rfl (gk_c0 cI cT ad (gk_sI u 9 (Int32.toNatClampNeg x1) (u.1 10 0)))) 0 rfl rfl 4 (by decide) (ht _ gt_89) (fun _ h9 => h9) rfl gd_Bk_version_62 ?_
        refine lv_iconst (v := 1) hx hb gd_Bk_version_65 (by decide) ?_
        refine lv_iadd hx hb gd_Bk_version_66 ?_
        refine gq_put (D := D) (ci := 0) (C := gR_Bk) (T := gT_Bk) (N := 5) (ca := 0) (ka := 0) (pp' := gk_pc cI cT ad (gk_sI (gk_sI u 9 (Int32.toNatClampNeg x1) (u.1 10 0)) 10 0 (((gk_sI u 9 (Int32.toNatClampNeg x1) (u.1 10 0)).1 10 0) + 1))) (ty := .int) hx hb hts (fun w h => List.mem_cons_of_mem _ (gl_Bk w h)) gF_Bk gf_Bk gn_Bk hown hK hH hI hA rfl (gk_c0 cI cT ad (gk_sI u 9 (Int32.toNatClampNeg x1) (u.1 10 0))) rfl 4 (by decide) (ht _ gt_89) (fun _ h9 => h9) rfl (by decide +kernel) rfl rfl (Nat.le_of_ble_eq_true rfl) (gk_w10 cI cT ad (gk_sI u 9 (Int32.toNatClampNeg x1) (u.1 10 0)) (((gk_sI u 9 (Int32.toNatClampNeg x1) (u.1 10 0)).1 10 0) + 1)) (gk_o10 cI cT ad (gk_sI u 9 (Int32.toNatClampNeg x1) (u.1 10 0)) (((gk_sI u 9 (Int32.toNatClampNeg x1) (u.1 10 0)).1 10 0) + 1)) hS gd_Bk_version_67 (fun H locs hH hS => ?_)
        refine lv_aload_n hx hb gd_Bk_version_70 rfl (lv_at hl 0 rfl) ?_
        refine va_get (D := D) (ci := 0) (C := gR_Bk) (T := gT_Bk) (N := 5) hx hb hts (fun w h => List.mem_cons_of_mem _ (gl_Bk w h)) hown hK (gq_one (c := 0) (k := 0) hH rfl (gk_c0 cI cT ad (gk_sI (gk_sI u 9 (Int32.toNatClampNeg x1) (u.1 10 0)) 10 0 (((gk_sI u 9 (Int32.toNatClampNeg x1) (u.1 10 0)).1 10 0) + 1)))) 0 rfl rfl 3 (by decide) (ht _ gt_88) (fun _ h9 => h9) rfl gd_Bk_version_71 ?_
        refine lv_iload_n hx hb gd_Bk_version_74 rfl (lv_at hl 1 rfl) ?_
        obtain ⟨hg4, hf⟩ := gj_g hf
        refine va_iald (D := D) hx hb hK (gq_one (c := 5) (k := 0) hH rfl (gk_c5 cI cT ad (gk_sI (gk_sI u 9 (Int32.toNatClampNeg x1) (u.1 10 0)) 10 0 (((gk_sI u 9 (Int32.toNatClampNeg x1) (u.1 10 0)).1 10 0) + 1)))) 0 0 rfl rfl hg4 gd_Bk_version_75 ?_
        cases hf
        exact W.iret hx hb hr (fun t ht hW => ⟨⟨_, _, rfl, ⟨rfl, rfl⟩, ⟨by rw [ht]; exact hH, va_K.moved hW.alike hK⟩⟩, hS.F ht⟩) hS.2.2 gd_Bk_version_76
      · replace hf := gj_e c13 hf
        refine lv_aload_n hx hb gd_Bk_version_22 rfl (lv_at hl 0 rfl) ?_
        refine lv_iload_n hx hb gd_Bk_version_23 rfl (lv_at hl 2 rfl) ?_
        obtain ⟨⟨o7, u8⟩, hc6, hf⟩ := Option.bind_eq_some_iff.mp hf
        refine gq_calle (va_runV (As := [.int x2]) (rest := []) ⟨hx, hb, hml, hown, hts⟩ (ct_Bk_inBook l D cI cT ad hI u x2 (o7, u8) hc6) (cwV 1 hts (gt_V gt_147 gt_149 (gt_sel (List.mem_of_getElem? (i := 3) rfl)) gt_1 gt_150) rfl rfl rfl (by decide +kernel) ⟨Nat.le_of_ble_eq_true rfl, Nat.le_of_ble_eq_true rfl⟩) (gq_preV hH hK hN (va_recv hK (gq_one (c := 0) (k := 0) hH rfl (gk_c0 cI cT ad u)) (ci := 0) (q0 := 0) rfl rfl)) rfl rfl hl.1 rfl (lv_room (Nat.le_of_ble_eq_true rfl)) gd_Bk_version_24 ⟨Nat.zero_le _, Nat.zero_le _⟩) hA hS (fun H locs hH hS => ?_)
        cases o7 with
        | none =>
          have hH : gq_H D gc_cl gk_vd ad (gk_pc cI cT ad u8) H := hH
          refine W.eq (g2 := F0 m 27 ls [.null]) rfl ?_
          dsimp only at hf
          refine lv_astore_nN (lv' := [(3, .null), (0, .ref (ad 0 0)), (1, .int x1), (2, .int x2)]) hx hb gd_Bk_version_27 rfl hl (by decide) rfl (fun ls hl => ?_)
          refine lv_aload_nN hx hb gd_Bk_version_28 rfl (lv_at hl 0 rfl) ?_
          refine lv_ifnullN (tgt := 44) hx hb gd_Bk_version_29 (by decide) ?_
          refine lv_iinc (v := x2 + 1) (lv' := [(2, .int (x2 + 1)), (3, .null), (0, .ref (ad 0 0)), (1, .int x1)]) hx hb gd_Bk_version_44 hl (k := 3) rfl rfl (by decide) rfl (fun ls hl => ?_)
          refine lv_goto (tgt := 16) hx hb gd_Bk_version_47 (by decide) ?_
          exact ih x1 (x2 + 1) u8 _ _ _ hf hH hS (lv_sub hl [2, 3, 0] rfl)
        | some k9 =>
          have hH : gq_H D gc_cl gk_vd ad (gk_pc cI cT ad u8) H := hH
          refine W.eq (g2 := F0 m 27 ls [.ref (ad 7 k9)]) rfl ?_
          dsimp only at hf
          refine lv_astore_n (lv' := [(3, .ref (ad 7 k9)), (0, .ref (ad 0 0)), (1, .int x1), (2, .int x2)]) hx hb gd_Bk_version_27 rfl hl (by decide) rfl (fun ls hl => ?_)
          refine lv_aload_n hx hb gd_Bk_version_28 rfl (lv_at hl 0 rfl) ?_
          refine lv_ifnull hx hb gd_Bk_version_29 ?_
          refine lv_aload_n hx hb gd_Bk_version_32 rfl (lv_at hl 0 rfl) ?_
          refine va_getN (D := D) (ci := 3) (C := gR_Tm) (T := gT_Tm) (N := 5) hx hb hts (fun w h => List.mem_cons_of_mem _ (gl_Tm w h)) hown hK (gq_one (c := 7) (k := k9) hH (ok_Bk_inBook hc6) (gk_c7 cI cT ad u8 k9)) 0 rfl rfl 3 (by decide) (va_Nw.use rfl (hN.1 _ (List.mem_of_getElem? (i := 4) rfl))) (fun _ h9 => h9) rfl gd_Bk_version_33 ?_
          refine lv_if_le (tgt := 44) hx hb gd_Bk_version_36 (by decide) (fun c12 => ?_) (fun c12 => ?_)
          · replace hf := gj_t c12 hf
            refine lv_iinc (v := x2 + 1) (lv' := [(2, .int (x2 + 1)), (3, .ref (ad 7 k9)), (0, .ref (ad 0 0)), (1, .int x1)]) hx hb gd_Bk_version_44 hl (k := 3) rfl rfl (by decide) rfl (fun ls hl => ?_)
            refine lv_goto (tgt := 16) hx hb gd_Bk_version_47 (by decide) ?_
            exact ih x1 (x2 + 1) u8 _ _ _ hf hH hS (lv_sub hl [2, 3, 0] rfl)
          · replace hf := gj_e c12 hf
            refine lv_aload_n hx hb gd_Bk_version_39 rfl (lv_at hl 0 rfl) ?_
            refine lv_iload_n hx hb gd_Bk_version_40 rfl (lv_at hl 2 rfl) ?_
            obtain ⟨z10, hc11, hf⟩ := Option.bind_eq_some_iff.mp hf
            refine gq_callv (va_runV (As := [.int x1]) (rest := []) ⟨hx, hb, hml, hown, hts⟩ (ct_Tm_keepFor l D cI cT ad hI u8 k9 (ok_Bk_inBook hc6) x1 z10 hc11) (cwV 1 hts (gt_V gt_297 gt_298 gt_299 gt_3 gt_300) rfl rfl rfl (by decide +kernel) ⟨Nat.le_of_ble_eq_true rfl, Nat.le_of_ble_eq_true rfl⟩) (gq_preV hH hK hN (va_recv hK (gq_one (c := 7) (k := k9) hH (ok_Bk_inBook hc6) (gk_c7 cI cT ad u8 k9)) (ci := 3) (q0 := 0) rfl rfl)) rfl rfl hl.1 rfl (lv_room (Nat.le_of_ble_eq_true rfl)) gd_Bk_version_41 ⟨Nat.zero_le _, Nat.zero_le _⟩) hA hS (fun H locs hH hS => ?_)
            refine lv_iinc (v := x2 + 1) (lv' := [(2, .int (x2 + 1)), (3, .ref (ad 7 k9)), (0, .ref (ad 0 0)), (1, .int x1)]) hx hb gd_Bk_version_44 hl (k := 3) rfl rfl (by decide) rfl (fun ls hl => ?_)
            refine lv_goto (tgt := 16) hx hb gd_Bk_version_47 (by decide) ?_
            exact ih x1 (x2 + 1) z10 _ _ _ hf hH hS (lv_sub hl [2, 3, 0] rfl)
  unfold fn_Bk_version at hf
  refine lv_aload_n hx hb gd_Bk_version_0 rfl (lv_at hl 0 rfl) ?_
  refine lv_iconst (v := (-1)) hx hb gd_Bk_version_1 (by decide) ?_
  obtain ⟨z1, hc2, hf⟩ := Option.bind_eq_some_iff.mp hf
  refine gq_calli (va_runV (As := [.int (-1)]) (rest := []) ⟨hx, hb, hml, hown, hts⟩ (ct_Bk_slotOf l D cI cT ad hI u (-1) z1 hc2) (cwV 1 hts (gt_V gt_293 gt_295 (gt_sel (List.mem_of_getElem? (i := 14) rfl)) gt_1 gt_296) rfl rfl rfl (by decide +kernel) ⟨Nat.le_of_ble_eq_true rfl, Nat.le_of_ble_eq_true rfl⟩) (gq_preV hH hK hN (va_recv hK (gq_one (c := 0) (k := 0) hH rfl (gk_c0 cI cT ad u)) (ci := 0) (q0 := 0) rfl rfl)) rfl rfl hl.1 rfl (lv_room (Nat.le_of_ble_eq_true rfl)) gd_Bk_version_2 ⟨Nat.zero_le _, Nat.zero_le _⟩) hA hS (fun H locs hH hS => ?_)
  refine lv_istore_n (lv' := [(1, .int z1.1), (0, .ref (ad 0 0))]) hx hb gd_Bk_version_5 rfl hl (by decide) rfl (fun ls hl => ?_)
  refine lv_iload_n hx hb gd_Bk_version_6 rfl (lv_at hl 0 rfl) ?_
  refine lv_iconst (v := (-1)) hx hb gd_Bk_version_7 (by decide) ?_
  refine lv_icmp_ne (tgt := 14) hx hb gd_Bk_version_8 (by decide) (fun c14 => ?_) (fun c14 => ?_)
  · replace hf := gj_e c14 hf
    refine lv_iconst (v := 0) hx hb gd_Bk_version_14 (by decide) ?_
    refine lv_istore_n (lv' := [(2, .int 0), (1, .int z1.1), (0, .ref (ad 0 0))]) hx hb gd_Bk_version_15 rfl hl (by decide) rfl (fun ls hl => ?_)
    exact L16 gk_fu z1.1 0 z1.2 _ _ _ hf hH hS (lv_sub hl [2, 1, 0] rfl)
  · replace hf := gj_t c14 hf
    refine lv_bipush (v := (-3)) hx hb gd_Bk_version_11 (by decide) ?_
    cases hf
    exact W.iret hx hb hr (fun t ht hW => ⟨⟨_, _, rfl, ⟨rfl, rfl⟩, ⟨by rw [ht]; exact hH, va_K.moved hW.alike hK⟩⟩, hS.F ht⟩) hS.2.2 gd_Bk_version_13
set_option maxHeartbeats 4000000 in
set_option maxRecDepth 100000 in
theorem ct_Bk_keptSlot (l : Launch) (D : va_G) (cI cT : ClassId) (ad : Nat → Nat → Nat) (hI : gq_I gk_vd ad) (u : gk_St) (p1 : Int32) (z : Int32 × gk_St) (hf : fn_Bk_keptSlot p1 u = some z) : Met l gy_Bk_keptSlot gws_Bk_keptSlot ({ frames := 1, cells := 0, slots := 0, locals := 22 }) (va_Pc [.ref (ad 0 0), .int p1] (gq_pre D gc_cl (gk_tys cI cT) gk_vd ad gk_NF gk_NM (gk_pc cI cT ad u))) (va_Qi (fun r u2 => r = z.1 ∧ u2 = z.2) (fun u2 t => gq_B D gc_cl (gk_tys cI cT) gk_vd ad (gk_pc cI cT ad u2) t) (gq_A gk_vd ad)) 0 0 (gq_A gk_vd ad) := by
  refine Met.ofW (cc := gb_Bk_keptSlot) (maxL := 2) (ret := (some .int)) (by decide) rfl ?_
  intro p e s m args below meth c s₁ B hml hv
  obtain ⟨rfl, hH, hK, hN⟩ := hv
  have hx := B.exec
  have hb := B.bytes
  have hr := B.returns
  have hts := atoms_spec (ws := gws_Bk_keptSlot) B.pre
  have ht := fun (w : Cond) (h : w ∈ gt_T) => hts w (List.mem_cons_of_mem _ h)
  have hown : s.vm.findClass gR_Bk = some m.cls := findClass_of_methodNamed B.named
  have hlocks := B.notSynchronized
  have hA : ∀ q, (gq_A gk_vd ad) q → (gq_A gk_vd ad) q := fun _ h => h
  have hS : va_S (gq_A gk_vd ad) s.heap s.heap [] := va_S.rf
  have hl := lv_entry ([.ref (ad 0 0), .int p1]) (n := 2) (Nat.le_of_ble_eq_true rfl)
  rw [lg_entry_eq]
  generalize (lg_sl ([.ref (ad 0 0), .int p1]) ++ List.replicate (2 - (lg_sl ([.ref (ad 0 0), .int p1])).length) Slot.unset).toArray = ls at hl ⊢
  have hl : lv_has ls 2 [(0, .ref (ad 0 0)), (1, .int p1)] := hl
  unfold fn_Bk_keptSlot at hf
  refine lv_iload_n hx hb gd_Bk_keptSlot_0 rfl (lv_at hl 1 rfl) ?_
  refine lv_if_ge (tgt := 8) hx hb gd_Bk_keptSlot_1 (by decide) (fun c3 => ?_) (fun c3 => ?_)
  · replace hf := gj_t c3 hf
    refine lv_aload_n hx hb gd_Bk_keptSlot_8 rfl (lv_at hl 0 rfl) ?_
    refine lv_iload_n hx hb gd_Bk_keptSlot_9 rfl (lv_at hl 1 rfl) ?_
    obtain ⟨z1, hc2, hf⟩ := Option.bind_eq_some_iff.mp hf
    refine gq_calli (va_runV (As := [.int p1]) (rest := []) ⟨hx, hb, hml, hown, hts⟩ (ct_Bk_slotOf l D cI cT ad hI u p1 z1 hc2) (cwV 1 hts (gt_V gt_293 gt_295 (gt_sel (List.mem_of_getElem? (i := 14) rfl)) gt_1 gt_296) rfl rfl rfl (by decide +kernel) ⟨Nat.le_of_ble_eq_true rfl, Nat.le_of_ble_eq_true rfl⟩) (gq_preV hH hK hN (va_recv hK (gq_one (c := 0) (k := 0) hH rfl (gk_c0 cI cT ad u)) (ci := 0) (q0 := 0) rfl rfl)) rfl rfl hl.1 rfl (lv_room (Nat.le_of_ble_eq_true rfl)) gd_Bk_keptSlot_10 ⟨Nat.zero_le _, Nat.zero_le _⟩) hA hS (fun H locs hH hS => ?_)
    cases hf
    exact W.iret hx hb hr (fun t ht hW => ⟨⟨_, _, rfl, ⟨rfl, rfl⟩, ⟨by rw [ht]; exact hH, va_K.moved hW.alike hK⟩⟩, hS.F ht⟩) hS.2.2 gd_Bk_keptSlot_13
  · replace hf := gj_e c3 hf
    refine lv_iconst (v := (-1)) hx hb gd_Bk_keptSlot_4 (by decide) ?_
    refine lv_goto (tgt := 13) hx hb gd_Bk_keptSlot_5 (by decide) ?_
    cases hf
    exact W.iret hx hb hr (fun t ht hW => ⟨⟨_, _, rfl, ⟨rfl, rfl⟩, ⟨by rw [ht]; exact hH, va_K.moved hW.alike hK⟩⟩, hS.F ht⟩) hS.2.2 gd_Bk_keptSlot_13
set_option maxHeartbeats 4000000 in
set_option maxRecDepth 100000 in
theorem ct_Tm_giveUpFor (l : Launch) (D : va_G) (cI cT : ClassId) (ad : Nat → Nat → Nat) (hI : gq_I gk_vd ad) (u : gk_St) (k : Nat) (hk : k < 100) (p1 : Int32) (z : gk_St) (hf : fn_Tm_giveUpFor k p1 u = some z) : Met l gy_Tm_giveUpFor gws_Tm_giveUpFor ({ frames := 0, cells := 0, slots := 0, locals := 0 }) (va_Pc [.ref (ad 7 k), .int p1] (gq_pre D gc_cl (gk_tys cI cT) gk_vd ad gk_NF gk_NM (gk_pc cI cT ad u))) (va_Qv (fun u2 => u2 = z) (fun u2 t => gq_B D gc_cl (gk_tys cI cT) gk_vd ad (gk_pc cI cT ad u2) t) (gq_A gk_vd ad)) 0 0 (gq_A gk_vd ad) := by
  refine Met.ofW (cc := gb_Tm_giveUpFor) (maxL := 2) (ret := none) (by decide) rfl ?_
  intro p e s m args below meth c s₁ B hml hv
  obtain ⟨rfl, hH, hK, hN⟩ := hv
  have hx := B.exec
  have hb := B.bytes
  have hr := B.returns
  have hts := atoms_spec (ws := gws_Tm_giveUpFor) B.pre
  have ht := fun (w : Cond) (h : w ∈ gt_T) => hts w (List.mem_cons_of_mem _ h)
  have hown : s.vm.findClass gR_Tm = some m.cls := findClass_of_methodNamed B.named
  have hlocks := B.notSynchronized
  have hA : ∀ q, (gq_A gk_vd ad) q → (gq_A gk_vd ad) q := fun _ h => h
  have hS : va_S (gq_A gk_vd ad) s.heap s.heap [] := va_S.rf
  have hl := lv_entry ([.ref (ad 7 k), .int p1]) (n := 2) (Nat.le_of_ble_eq_true rfl)
  rw [lg_entry_eq]
  generalize (lg_sl ([.ref (ad 7 k), .int p1]) ++ List.replicate (2 - (lg_sl ([.ref (ad 7 k), .int p1])).length) Slot.unset).toArray = ls at hl ⊢
  have hl : lv_has ls 2 [(0, .ref (ad 7 k)), (1, .int p1)] := hl
  unfold fn_Tm_giveUpFor at hf
  refine lv_aload_n hx hb gd_Tm_giveUpFor_0 rfl (lv_at hl 0 rfl) ?_
  refine lv_dup hx hb gd_Tm_giveUpFor_1 rfl ?_
  refine va_get (D := D) (ci := 3) (C := gR_Tm) (T := gT_Tm) (N := 5) hx hb hts (fun w h => List.mem_cons_of_mem _ (gl_Tm w h)) hown hK (gq_one (c := 7) (k := k) hH hk (gk_c7 cI cT ad u k)) 0 rfl rfl 4 (by decide) (ht _ gt_51) (fun _ h9 => h9) rfl gd_Tm_giveUpFor_2 ?_
  refine lv_iconst (v := 1) hx hb gd_Tm_giveUpFor_5 (by decide) ?_
  refine lv_iload_n hx hb gd_Tm_giveUpFor_6 rfl (lv_at hl 1 rfl) ?_
  refine lv_ishl hx hb gd_Tm_giveUpFor_7 ?_
  refine lv_iconst (v := (-1)) hx hb gd_Tm_giveUpFor_8 (by decide) ?_
  refine lv_ixor hx hb gd_Tm_giveUpFor_9 ?_
  refine lv_iand hx hb gd_Tm_giveUpFor_10 ?_
  refine gq_put (D := D) (ci := 3) (C := gR_Tm) (T := gT_Tm) (N := 5) (ca := 7) (ka := k) (pp' := gk_pc cI cT ad (gk_sI u 4 k ((u.1 4 k) &&& (((1 : Int32) <<< (p1 &&& 31)) ^^^ (-1))))) (ty := .int) hx hb hts (fun w h => List.mem_cons_of_mem _ (gl_Tm w h)) gF_Tm gf_Tm gn_Tm hown hK hH hI hA hk (gk_c7 cI cT ad u k) rfl 4 (by decide) (ht _ gt_51) (fun _ h9 => h9) rfl (by decide +kernel) rfl rfl (Nat.le_of_ble_eq_true rfl) (gk_w4 cI cT ad u k ((u.1 4 k) &&& (((1 : Int32) <<< (p1 &&& 31)) ^^^ (-1)))) (gk_o4 cI cT ad u k ((u.1 4 k) &&& (((1 : Int32) <<< (p1 &&& 31)) ^^^ (-1)))) hS gd_Tm_giveUpFor_11 (fun H locs hH hS => ?_)
  cases hf
  exact W.vret hx hb hr (fun t ht hW => ⟨⟨_, rfl, rfl, ⟨by rw [ht]; exact hH, va_K.moved hW.alike hK⟩⟩, hS.F ht⟩) hS.2.2 gd_Tm_giveUpFor_14
set_option maxHeartbeats 4000000 in
set_option maxRecDepth 100000 in
theorem ct_Bk_takeOutUnneeded (l : Launch) (D : va_G) (cI cT : ClassId) (ad : Nat → Nat → Nat) (hI : gq_I gk_vd ad) (u : gk_St)  (z : Int32 × gk_St) (hf : fn_Bk_takeOutUnneeded u = some z) : Met l gy_Bk_takeOutUnneeded gws_Bk_takeOutUnneeded ({ frames := 5, cells := 0, slots := 0, locals := 111 }) (va_Pc [.ref (ad 0 0)] (gq_pre D gc_cl (gk_tys cI cT) gk_vd ad gk_NF gk_NM (gk_pc cI cT ad u))) (va_Qi (fun r u2 => r = z.1 ∧ u2 = z.2) (fun u2 t => gq_B D gc_cl (gk_tys cI cT) gk_vd ad (gk_pc cI cT ad u2) t) (gq_A gk_vd ad)) 0 0 (gq_A gk_vd ad) := by
  refine Met.ofW (cc := gb_Bk_takeOutUnneeded) (maxL := 5) (ret := (some .int)) (by decide) rfl ?_
  intro p e s m args below meth c s₁ B hml hv
  obtain ⟨rfl, hH, hK, hN⟩ := hv
  have hx := B.exec
  have hb := B.bytes
  have hr := B.returns
  have hts := atoms_spec (ws := gws_Bk_takeOutUnneeded) B.pre
  have ht := fun (w : Cond) (h : w ∈ gt_T) => hts w (List.mem_cons_of_mem _ h)
  have hown : s.vm.findClass gR_Bk = some m.cls := findClass_of_methodNamed B.named
  have hlocks := B.notSynchronized
  have hA : ∀ q, (gq_A gk_vd ad) q → (gq_A gk_vd ad) q := fun _ h => h
  have hS : va_S (gq_A gk_vd ad) s.heap s.heap [] := va_S.rf
  have hl := lv_entry ([.ref (ad 0 0)]) (n := 5) (Nat.le_of_ble_eq_true rfl)
  rw [lg_entry_eq]
  generalize (lg_sl ([.ref (ad 0 0)]) ++ List.replicate (5 - (lg_sl ([.ref (ad 0 0)])).length) Slot.unset).toArray = ls at hl ⊢
  have hl : lv_has ls 5 [(0, .ref (ad 0 0))] := hl
  have L12 : ∀ (n : Nat) (x1 : Int32) (x2 : Int32) (x3 : Int32) (u : gk_St) (H : Heap) (locs : List Loc) (ls : Array Slot), fn_Bk_takeOutUnneeded_12 n x1 x2 x3 u = some z → gq_H D gc_cl gk_vd ad (gk_pc cI cT ad u) H → va_S (gq_A gk_vd ad) s.heap H locs → lv_has ls 5 [(0, .ref (ad 0 0)), (1, .int x1), (2, .int x2), (3, .int x3)] → W p l e (headSpec gws_Bk_takeOutUnneeded ({ frames := 5, cells := 0, slots := 0, locals := 111 })).room s m ([.ref (ad 0 0)] : List Value).toArray below meth c H locs 0 0 (MQ below (va_Qi (fun r u2 => r = z.1 ∧ u2 = z.2) (fun u2 t => gq_B D gc_cl (gk_tys cI cT) gk_vd ad (gk_pc cI cT ad u2) t) (gq_A gk_vd ad)) ([.ref (ad 0 0)] : List Value).toArray s 0 0 (gq_A gk_vd ad)) (F0 m 12 ls []) := by
    intro n
    induction n with
    | zero =>
      intro x1 x2 x3 u H locs ls hf
      have h0 : none = some z := hf
      cases h0
    | succ n ih =>
      intro x1 x2 x3 u H locs ls hf hH hS hl
      rw [fn_Bk_takeOutUnneeded_12] at hf
      refine lv_iload_n hx hb gd_Bk_takeOutUnneeded_12 rfl (lv_at hl 3 rfl) ?_
      refine lv_iload_n hx hb gd_Bk_takeOutUnneeded_13 rfl (lv_at hl 1 rfl) ?_
      refine lv_icmp_ge (tgt := 63) hx hb gd_Bk_takeOutUnneeded_14 (by decide) (fun c13 => ?_) (fun c13 => ?_)
      · replace hf := gj_t c13 hf
        refine lv_iload_n hx hb gd_Bk_takeOutUnneeded_63 rfl (lv_at hl 1 rfl) ?_
        refine lv_aload_n hx hb gd_Bk_takeOutUnneeded_64 rfl (lv_at hl 0 rfl) ?_
        refine va_get (D := D) (ci := 0) (C := gR_Bk) (T := gT_Bk) (N := 5) hx hb hts (fun w h => List.mem_cons_of_mem _ (gl_Bk w h)) hown hK (gq_one (c := 0) (k := 0) hH rfl (gk_c0 cI cT ad u)) 0 rfl rfl 2 (by decide) (ht _ gt_87) (fun _ h9 => h9) rfl gd_Bk_takeOutUnneeded_65 ?_
        refine va_getN (D := D) (ci := 1) (C := gR_Lv) (T := gT_Lv) (N := 4) hx hb hts (fun w h => List.mem_cons_of_mem _ (gl_Lv w h)) hown hK (gq_one (c := 2) (k := 0) hH rfl (gk_c2 cI cT ad u)) 0 rfl rfl 1 (by decide) (va_Nw.use rfl (hN.1 _ (List.mem_of_getElem? (i := 5) rfl))) (fun _ h9 => h9) rfl gd_Bk_takeOutUnneeded_68 ?_
        refine lv_isub hx hb gd_Bk_takeOutUnneeded_71 ?_
        cases hf
        exact W.iret hx hb hr (fun t ht hW => ⟨⟨_, _, rfl, ⟨rfl, rfl⟩, ⟨by rw [ht]; exact hH, va_K.moved hW.alike hK⟩⟩, hS.F ht⟩) hS.2.2 gd_Bk_takeOutUnneeded_72
      · replace hf := gj_e c13 hf
        refine lv_aload_n hx hb gd_Bk_takeOutUnneeded_17 rfl (lv_at hl 0 rfl) ?_
        refine lv_aload_n hx hb gd_Bk_takeOutUnneeded_18 rfl (lv_at hl 0 rfl) ?_
        refine va_get (D := D) (ci := 0) (C := gR_Bk) (T := gT_Bk) (N := 5) hx hb hts (fun w h => List.mem_cons_of_mem _ (gl_Bk w h)) hown hK (gq_one (c := 0) (k := 0) hH rfl (gk_c0 cI cT ad u)) 0 rfl rfl 2 (by decide) (ht _ gt_87) (fun _ h9 => h9) rfl gd_Bk_takeOutUnneeded_19 ?_
        refine lv_iload_n hx hb gd_Bk_takeOutUnneeded_22 rfl (lv_at hl 2 rfl) ?_
        obtain ⟨z1, hc2, hf⟩ := Option.bind_eq_some_iff.mp hf
        refine gq_calli (va_runV (As := [.int x2]) (rest := [.ref (ad 0 0)]) ⟨hx, hb, hml, hown, hts⟩ (ct_Lv_numberAt l D cI cT ad hI u x2 z1 hc2) (cwV 1 hts (gt_V gt_139 gt_140 gt_141 gt_4 gt_142) rfl rfl rfl (by decide +kernel) ⟨Nat.le_of_ble_eq_true rfl, Nat.le_of_ble_eq_true rfl⟩) (gq_preV hH hK hN (va_recv hK (gq_one (c := 2) (k := 0) hH rfl (gk_c2 cI cT ad u)) (ci := 1) (q0 := 0) rfl rfl)) rfl rfl hl.1 rfl (lv_room (Nat.le_of_ble_eq_true rfl)) gd_Bk_takeOutUnneeded_23 ⟨Nat.zero_le _, Nat.zero_le _⟩) hA hS (fun H locs hH hS => ?_)
        obtain ⟨⟨o5, u6⟩, hc4, hf⟩ := Option.bind_eq_some_iff.mp hf
        refine gq_calle (va_runV (As := [.int z1.1]) (rest := []) ⟨hx, hb, hml, hown, hts⟩ (ct_Bk_inBook l D cI cT ad hI z1.2 z1.1 (o5, u6) hc4) (cwV 1 hts (gt_V gt_147 gt_149 (gt_sel (List.mem_of_getElem? (i := 3) rfl)) gt_1 gt_150) rfl rfl rfl (by decide +kernel) ⟨Nat.le_of_ble_eq_true rfl, Nat.le_of_ble_eq_true rfl⟩) (gq_preV hH hK hN (va_recv hK (gq_one (c := 0) (k := 0) hH rfl (gk_c0 cI cT ad z1.2)) (ci := 0) (q0 := 0) rfl rfl)) rfl rfl hl.1 rfl (lv_room (Nat.le_of_ble_eq_true rfl)) gd_Bk_takeOutUnneeded_26 ⟨Nat.zero_le _, Nat.zero_le _⟩) hA hS (fun H locs hH hS => ?_)
        cases o5 with
        | none =>
          have hH : gq_H D gc_cl gk_vd ad (gk_pc cI cT ad u6) H := hH
          refine W.eq (g2 := F0 m 29 ls [.null]) rfl ?_
          dsimp only at hf
          refine lv_astoreN (lv' := [(4, .null), (0, .ref (ad 0 0)), (1, .int x1), (2, .int x2), (3, .int x3)]) hx hb gd_Bk_takeOutUnneeded_29 hl (by decide) rfl (fun ls hl => ?_)
          refine lv_aloadN hx hb gd_Bk_takeOutUnneeded_31 (lv_at hl 0 rfl) ?_
          refine lv_ifnullN (tgt := 54) hx hb gd_Bk_takeOutUnneeded_33 (by decide) ?_
          refine lv_iinc (v := x2 + 1) (lv' := [(2, .int (x2 + 1)), (4, .null), (0, .ref (ad 0 0)), (1, .int x1), (3, .int x3)]) hx hb gd_Bk_takeOutUnneeded_54 hl (k := 3) rfl rfl (by decide) rfl (fun ls hl => ?_)
          refine lv_iinc (v := x3 + 1) (lv' := [(3, .int (x3 + 1)), (2, .int (x2 + 1)), (4, .null), (0, .ref (ad 0 0)), (1, .int x1)]) hx hb gd_Bk_takeOutUnneeded_57 hl (k := 4) rfl rfl (by decide) rfl (fun ls hl => ?_)
          refine lv_goto (tgt := 12) hx hb gd_Bk_takeOutUnneeded_60 (by decide) ?_
          exact ih x1 (x2 + 1) (x3 + 1) u6 _ _ _ hf hH hS (lv_sub hl [3, 4, 1, 0] rfl)
        | some k7 =>
          have hH : gq_H D gc_cl gk_vd ad (gk_pc cI cT ad u6) H := hH
          refine W.eq (g2 := F0 m 29 ls [.ref (ad 7 k7)]) rfl ?_
          dsimp only at hf
          refine lv_astore (lv' := [(4, .ref (ad 7 k7)), (0, .ref (ad 0 0)), (1, .int x1), (2, .int x2), (3, .int x3)]) hx hb gd_Bk_takeOutUnneeded_29 hl (by decide) rfl (fun ls hl => ?_)
          refine lv_aload hx hb gd_Bk_takeOutUnneeded_31 (lv_at hl 0 rfl) ?_
          refine lv_ifnull hx hb gd_Bk_takeOutUnneeded_33 ?_
          refine lv_aload hx hb gd_Bk_takeOutUnneeded_36 (lv_at hl 0 rfl) ?_
          obtain ⟨z8, hc9, hf⟩ := Option.bind_eq_some_iff.mp hf
          refine gq_calli (va_runV (As := []) (rest := []) ⟨hx, hb, hml, hown, hts⟩ (ct_Tm_isNeeded l D cI cT ad hI u6 k7 (ok_Bk_inBook hc4) z8 hc9) (cwV 0 hts (gt_V gt_212 gt_213 gt_214 gt_3 gt_215) rfl rfl rfl (by decide +kernel) ⟨Nat.le_of_ble_eq_true rfl, Nat.le_of_ble_eq_true rfl⟩) (gq_preV hH hK hN (va_recv hK (gq_one (c := 7) (k := k7) hH (ok_Bk_inBook hc4) (gk_c7 cI cT ad u6 k7)) (ci := 3) (q0 := 0) rfl rfl)) rfl rfl hl.1 rfl (lv_room (Nat.le_of_ble_eq_true rfl)) gd_Bk_takeOutUnneeded_38 ⟨Nat.zero_le _, Nat.zero_le _⟩) hA hS (fun H locs hH hS => ?_)
          refine lv_if_ne (tgt := 54) hx hb gd_Bk_takeOutUnneeded_41 (by decide) (fun c12 => ?_) (fun c12 => ?_)
          · replace hf := gj_e c12 hf
            refine lv_iinc (v := x2 + 1) (lv' := [(2, .int (x2 + 1)), (4, .ref (ad 7 k7)), (0, .ref (ad 0 0)), (1, .int x1), (3, .int x3)]) hx hb gd_Bk_takeOutUnneeded_54 hl (k := 3) rfl rfl (by decide) rfl (fun ls hl => ?_)
            refine lv_iinc (v := x3 + 1) (lv' := [(3, .int (x3 + 1)), (2, .int (x2 + 1)), (4, .ref (ad 7 k7)), (0, .ref (ad 0 0)), (1, .int x1)]) hx hb gd_Bk_takeOutUnneeded_57 hl (k := 4) rfl rfl (by decide) rfl (fun ls hl => ?_)
            refine lv_goto (tgt := 12) hx hb gd_Bk_takeOutUnneeded_60 (by decide) ?_
            exact ih x1 (x2 + 1) (x3 + 1) z8.2 _ _ _ hf hH hS (lv_sub hl [3, 4, 1, 0] rfl)
          · replace hf := gj_t c12 hf
            refine lv_aload_n hx hb gd_Bk_takeOutUnneeded_44 rfl (lv_at hl 1 rfl) ?_
            refine lv_aload hx hb gd_Bk_takeOutUnneeded_45 (lv_at hl 0 rfl) ?_
            refine lv_iload_n hx hb gd_Bk_takeOutUnneeded_47 rfl (lv_at hl 3 rfl) ?_
            obtain ⟨z10, hc11, hf⟩ := Option.bind_eq_some_iff.mp hf
            refine gq_callv (va_runV (As := [.ref (ad 7 k7), .int x2]) (rest := []) ⟨hx, hb, hml, hown, hts⟩ (ct_Bk_takeOut l D cI cT ad hI z8.2 k7 (ok_Bk_inBook hc4) x2 z10 hc11) (cwV 2 hts (gt_V gt_221 gt_223 (gt_sel (List.mem_of_getElem? (i := 10) rfl)) gt_1 gt_224) rfl rfl rfl (by decide +kernel) ⟨Nat.le_of_ble_eq_true rfl, Nat.le_of_ble_eq_true rfl⟩) (gq_preV hH hK hN (va_recv hK (gq_one (c := 0) (k := 0) hH rfl (gk_c0 cI cT ad z8.2)) (ci := 0) (q0 := 0) rfl rfl)) rfl rfl hl.1 rfl (lv_room (Nat.le_of_ble_eq_true rfl)) gd_Bk_takeOutUnneeded_48 ⟨Nat.zero_le _, Nat.zero_le _⟩) hA hS (fun H locs hH hS => ?_)
            refine lv_goto (tgt := 57) hx hb gd_Bk_takeOutUnneeded_51 (by decide) ?_
            refine lv_iinc (v := x3 + 1) (lv' := [(3, .int (x3 + 1)), (4, .ref (ad 7 k7)), (0, .ref (ad 0 0)), (1, .int x1), (2, .int x2)]) hx hb gd_Bk_takeOutUnneeded_57 hl (k := 4) rfl rfl (by decide) rfl (fun ls hl => ?_)
            refine lv_goto (tgt := 12) hx hb gd_Bk_takeOutUnneeded_60 (by decide) ?_
            exact ih x1 x2 (x3 + 1) z10 _ _ _ hf hH hS (lv_sub hl [2, 3, 4, 0] rfl)
  unfold fn_Bk_takeOutUnneeded at hf
  refine lv_aload_n hx hb gd_Bk_takeOutUnneeded_0 rfl (lv_at hl 0 rfl) ?_
  refine va_get (D := D) (ci := 0) (C := gR_Bk) (T := gT_Bk) (N := 5) hx hb hts (fun w h => List.mem_cons_of_mem _ (gl_Bk w h)) hown hK (gq_one (c := 0) (k := 0) hH rfl (gk_c0 cI cT ad u)) 0 rfl rfl 2 (by decide) (ht _ gt_87) (fun _ h9 => h9) rfl gd_Bk_takeOutUnneeded_1 ?_
  refine va_getN (D := D) (ci := 1) (C := gR_Lv) (T := gT_Lv) (N := 4) hx hb hts (fun w h => List.mem_cons_of_mem _ (gl_Lv w h)) hown hK (gq_one (c := 2) (k := 0) hH rfl (gk_c2 cI cT ad u)) 0 rfl rfl 1 (by decide) (va_Nw.use rfl (hN.1 _ (List.mem_of_getElem? (i := 5) rfl))) (fun _ h9 => h9) rfl gd_Bk_takeOutUnneeded_4 ?_
  refine lv_istore_n (lv' := [(1, .int (u.1 6 0)), (0, .ref (ad 0 0))]) hx hb gd_Bk_takeOutUnneeded_7 rfl hl (by decide) rfl (fun ls hl => ?_)
  refine lv_iconst (v := 0) hx hb gd_Bk_takeOutUnneeded_8 (by decide) ?_
  refine lv_istore_n (lv' := [(2, .int 0), (1, .int (u.1 6 0)), (0, .ref (ad 0 0))]) hx hb gd_Bk_takeOutUnneeded_9 rfl hl (by decide) rfl (fun ls hl => ?_)
  refine lv_iconst (v := 0) hx hb gd_Bk_takeOutUnneeded_10 (by decide) ?_
  refine lv_istore_n (lv' := [(3, .int 0), (2, .int 0), (1, .int (u.1 6 0)), (0, .ref (ad 0 0))]) hx hb gd_Bk_takeOutUnneeded_11 rfl hl (by decide) rfl (fun ls hl => ?_)
  exact L12 gk_fu (u.1 6 0) 0 0 u _ _ _ hf hH hS (lv_sub hl [3, 2, 1, 0] rfl)
set_option maxHeartbeats 4000000 in
set_option maxRecDepth 100000 in
theorem ct_Bk_release (l : Launch) (D : va_G) (cI cT : ClassId) (ad : Nat → Nat → Nat) (hI : gq_I gk_vd ad) (u : gk_St) (p1 : Int32) (z : Int32 × gk_St) (hf : fn_Bk_release p1 u = some z) : Met l gy_Bk_release gws_Bk_release ({ frames := 6, cells := 0, slots := 0, locals := 135 }) (va_Pc [.ref (ad 0 0), .int p1] (gq_pre D gc_cl (gk_tys cI cT) gk_vd ad gk_NF gk_NM (gk_pc cI cT ad u))) (va_Qi (fun r u2 => r = z.1 ∧ u2 = z.2) (fun u2 t => gq_B D gc_cl (gk_tys cI cT) gk_vd ad (gk_pc cI cT ad u2) t) (gq_A gk_vd ad)) 0 0 (gq_A gk_vd ad) := by
  refine Met.ofW (cc := gb_Bk_release) (maxL := 5) (ret := (some .int)) (by decide) rfl ?_
  intro p e s m args below meth c s₁ B hml hv
  obtain ⟨rfl, hH, hK, hN⟩ := hv
  have hx := B.exec
  have hb := B.bytes
  have hr := B.returns
  have hts := atoms_spec (ws := gws_Bk_release) B.pre
  have ht := fun (w : Cond) (h : w ∈ gt_T) => hts w (List.mem_cons_of_mem _ h)
  have hown : s.vm.findClass gR_Bk = some m.cls := findClass_of_methodNamed B.named
  have hlocks := B.notSynchronized
  have hA : ∀ q, (gq_A gk_vd ad) q → (gq_A gk_vd ad) q := fun _ h => h
  have hS : va_S (gq_A gk_vd ad) s.heap s.heap [] := va_S.rf
  have hl := lv_entry ([.ref (ad 0 0), .int p1]) (n := 5) (Nat.le_of_ble_eq_true rfl)
  rw [lg_entry_eq]
  generalize (lg_sl ([.ref (ad 0 0), .int p1]) ++ List.replicate (5 - (lg_sl ([.ref (ad 0 0), .int p1])).length) Slot.unset).toArray = ls at hl ⊢
  have hl : lv_has ls 5 [(0, .ref (ad 0 0)), (1, .int p1)] := hl
  have L22 : ∀ (n : Nat) (x1 : Int32) (x2 : Int32) (x3 : Int32) (u : gk_St) (H : Heap) (locs : List Loc) (ls : Array Slot), fn_Bk_release_22 n x1 x2 x3 u = some z → gq_H D gc_cl gk_vd ad (gk_pc cI cT ad u) H → va_S (gq_A gk_vd ad) s.heap H locs → lv_has ls 5 [(0, .ref (ad 0 0)), (1, .int x1), (2, .int x2), (3, .int x3)] → W p l e (headSpec gws_Bk_release ({ frames := 6, cells := 0, slots := 0, locals := 135 })).room s m ([.ref (ad 0 0), .int p1] : List Value).toArray below meth c H locs 0 0 (MQ below (va_Qi (fun r u2 => r = z.1 ∧ u2 = z.2) (fun u2 t => gq_B D gc_cl (gk_tys cI cT) gk_vd ad (gk_pc cI cT ad u2) t) (gq_A gk_vd ad)) ([.ref (ad 0 0), .int p1] : List Value).toArray s 0 0 (gq_A gk_vd ad)) (F0 m 22 ls []) := by
    intro n
    induction n with
    | zero =>
      intro x1 x2 x3 u H locs ls hf
      have h0 : none = some z := hf
      cases h0
    | succ n ih =>
      intro x1 x2 x3 u H locs ls hf hH hS hl
      rw [fn_Bk_release_22] at hf
      refine lv_iload_n hx hb gd_Bk_release_22 rfl (lv_at hl 3 rfl) ?_
      refine lv_bipush (v := 100) hx hb gd_Bk_release_23 (by decide) ?_
      refine lv_icmp_ge (tgt := 52) hx hb gd_Bk_release_25 (by decide) (fun c13 => ?_) (fun c13 => ?_)
      · replace hf := gj_t c13 hf
        refine lv_aload_n hx hb gd_Bk_release_52 rfl (lv_at hl 0 rfl) ?_
        obtain ⟨z4, hc5, hf⟩ := Option.bind_eq_some_iff.mp hf
        refine gq_calli (va_runV (As := []) (rest := []) ⟨hx, hb, hml, hown, hts⟩ (ct_Bk_takeOutUnneeded l D cI cT ad hI u  z4 hc5) (cwV 0 hts (gt_V gt_313 gt_315 (gt_sel (List.mem_of_getElem? (i := 16) rfl)) gt_1 gt_316) rfl rfl rfl (by decide +kernel) ⟨Nat.le_of_ble_eq_true rfl, Nat.le_of_ble_eq_true rfl⟩) (gq_preV hH hK hN (va_recv hK (gq_one (c := 0) (k := 0) hH rfl (gk_c0 cI cT ad u)) (ci := 0) (q0 := 0) rfl rfl)) rfl rfl hl.1 rfl (lv_room (Nat.le_of_ble_eq_true rfl)) gd_Bk_release_53 ⟨Nat.zero_le _, Nat.zero_le _⟩) hA hS (fun H locs hH hS => ?_)
        cases hf
        exact W.iret hx hb hr (fun t ht hW => ⟨⟨_, _, rfl, ⟨rfl, rfl⟩, ⟨by rw [ht]; exact hH, va_K.moved hW.alike hK⟩⟩, hS.F ht⟩) hS.2.2 gd_Bk_release_56
      · replace hf := gj_e c13 hf
        refine lv_aload_n hx hb gd_Bk_release_28 rfl (lv_at hl 0 rfl) ?_
        refine lv_iload_n hx hb gd_Bk_release_29 rfl (lv_at hl 3 rfl) ?_
        obtain ⟨⟨o8, u9⟩, hc7, hf⟩ := Option.bind_eq_some_iff.mp hf
        refine gq_calle (va_runV (As := [.int x3]) (rest := []) ⟨hx, hb, hml, hown, hts⟩ (ct_Bk_inBook l D cI cT ad hI u x3 (o8, u9) hc7) (cwV 1 hts (gt_V gt_147 gt_149 (gt_sel (List.mem_of_getElem? (i := 3) rfl)) gt_1 gt_150) rfl rfl rfl (by decide +kernel) ⟨Nat.le_of_ble_eq_true rfl, Nat.le_of_ble_eq_true rfl⟩) (gq_preV hH hK hN (va_recv hK (gq_one (c := 0) (k := 0) hH rfl (gk_c0 cI cT ad u)) (ci := 0) (q0 := 0) rfl rfl)) rfl rfl hl.1 rfl (lv_room (Nat.le_of_ble_eq_true rfl)) gd_Bk_release_30 ⟨Nat.zero_le _, Nat.zero_le _⟩) hA hS (fun H locs hH hS => ?_)
        cases o8 with
        | none =>
          have hH : gq_H D gc_cl gk_vd ad (gk_pc cI cT ad u9) H := hH
          refine W.eq (g2 := F0 m 33 ls [.null]) rfl ?_
          dsimp only at hf
          refine lv_astoreN (lv' := [(4, .null), (0, .ref (ad 0 0)), (1, .int x1), (2, .int x2), (3, .int x3)]) hx hb gd_Bk_release_33 hl (by decide) rfl (fun ls hl => ?_)
          refine lv_aloadN hx hb gd_Bk_release_35 (lv_at hl 0 rfl) ?_
          refine lv_ifnullN (tgt := 46) hx hb gd_Bk_release_37 (by decide) ?_
          refine lv_iinc (v := x3 + 1) (lv' := [(3, .int (x3 + 1)), (4, .null), (0, .ref (ad 0 0)), (1, .int x1), (2, .int x2)]) hx hb gd_Bk_release_46 hl (k := 4) rfl rfl (by decide) rfl (fun ls hl => ?_)
          refine lv_goto (tgt := 22) hx hb gd_Bk_release_49 (by decide) ?_
          exact ih x1 x2 (x3 + 1) u9 _ _ _ hf hH hS (lv_sub hl [2, 3, 4, 0] rfl)
        | some k10 =>
          have hH : gq_H D gc_cl gk_vd ad (gk_pc cI cT ad u9) H := hH
          refine W.eq (g2 := F0 m 33 ls [.ref (ad 7 k10)]) rfl ?_
          dsimp only at hf
          refine lv_astore (lv' := [(4, .ref (ad 7 k10)), (0, .ref (ad 0 0)), (1, .int x1), (2, .int x2), (3, .int x3)]) hx hb gd_Bk_release_33 hl (by decide) rfl (fun ls hl => ?_)
          refine lv_aload hx hb gd_Bk_release_35 (lv_at hl 0 rfl) ?_
          refine lv_ifnull hx hb gd_Bk_release_37 ?_
          refine lv_aload hx hb gd_Bk_release_40 (lv_at hl 0 rfl) ?_
          refine lv_iload_n hx hb gd_Bk_release_42 rfl (lv_at hl 3 rfl) ?_
          obtain ⟨z11, hc12, hf⟩ := Option.bind_eq_some_iff.mp hf
          refine gq_callv (va_runV (As := [.int x2]) (rest := []) ⟨hx, hb, hml, hown, hts⟩ (ct_Tm_giveUpFor l D cI cT ad hI u9 k10 (ok_Bk_inBook hc7) x2 z11 hc12) (cwV 1 hts (gt_V gt_309 gt_310 gt_311 gt_3 gt_312) rfl rfl rfl (by decide +kernel) ⟨Nat.le_of_ble_eq_true rfl, Nat.le_of_ble_eq_true rfl⟩) (gq_preV hH hK hN (va_recv hK (gq_one (c := 7) (k := k10) hH (ok_Bk_inBook hc7) (gk_c7 cI cT ad u9 k10)) (ci := 3) (q0 := 0) rfl rfl)) rfl rfl hl.1 rfl (lv_room (Nat.le_of_ble_eq_true rfl)) gd_Bk_release_43 ⟨Nat.zero_le _, Nat.zero_le _⟩) hA hS (fun H locs hH hS => ?_)
          refine lv_iinc (v := x3 + 1) (lv' := [(3, .int (x3 + 1)), (4, .ref (ad 7 k10)), (0, .ref (ad 0 0)), (1, .int x1), (2, .int x2)]) hx hb gd_Bk_release_46 hl (k := 4) rfl rfl (by decide) rfl (fun ls hl => ?_)
          refine lv_goto (tgt := 22) hx hb gd_Bk_release_49 (by decide) ?_
          exact ih x1 x2 (x3 + 1) z11 _ _ _ hf hH hS (lv_sub hl [2, 3, 4, 0] rfl)
  unfold fn_Bk_release at hf
  refine lv_aload_n hx hb gd_Bk_release_0 rfl (lv_at hl 0 rfl) ?_
  refine lv_iload_n hx hb gd_Bk_release_1 rfl (lv_at hl 1 rfl) ?_
  obtain ⟨z1, hc2, hf⟩ := Option.bind_eq_some_iff.mp hf
  refine gq_calli (va_runV (As := [.int p1]) (rest := []) ⟨hx, hb, hml, hown, hts⟩ (ct_Bk_keptSlot l D cI cT ad hI u p1 z1 hc2) (cwV 1 hts (gt_V gt_305 gt_307 (gt_sel (List.mem_of_getElem? (i := 15) rfl)) gt_1 gt_308) rfl rfl rfl (by decide +kernel) ⟨Nat.le_of_ble_eq_true rfl, Nat.le_of_ble_eq_true rfl⟩) (gq_preV hH hK hN (va_recv hK (gq_one (c := 0) (k := 0) hH rfl (gk_c0 cI cT ad u)) (ci := 0) (q0 := 0) rfl rfl)) rfl rfl hl.1 rfl (lv_room (Nat.le_of_ble_eq_true rfl)) gd_Bk_release_2 ⟨Nat.zero_le _, Nat.zero_le _⟩) hA hS (fun H locs hH hS => ?_)
  refine lv_istore_n (lv' := [(2, .int z1.1), (0, .ref (ad 0 0)), (1, .int p1)]) hx hb gd_Bk_release_5 rfl hl (by decide) rfl (fun ls hl => ?_)
  refine lv_iload_n hx hb gd_Bk_release_6 rfl (lv_at hl 0 rfl) ?_
  refine lv_iconst (v := (-1)) hx hb gd_Bk_release_7 (by decide) ?_
  refine lv_icmp_ne (tgt := 13) hx hb gd_Bk_release_8 (by decide) (fun c14 => ?_) (fun c14 => ?_)
  · replace hf := gj_e c14 hf
    refine lv_aload_n hx hb gd_Bk_release_13 rfl (lv_at hl 1 rfl) ?_
    refine va_get (D := D) (ci := 0) (C := gR_Bk) (T := gT_Bk) (N := 5) hx hb hts (fun w h => List.mem_cons_of_mem _ (gl_Bk w h)) hown hK (gq_one (c := 0) (k := 0) hH rfl (gk_c0 cI cT ad z1.2)) 0 rfl rfl 3 (by decide) (ht _ gt_88) (fun _ h9 => h9) rfl gd_Bk_release_14 ?_
    refine lv_iload_n hx hb gd_Bk_release_17 rfl (lv_at hl 0 rfl) ?_
    refine lv_iconst (v := (-1)) hx hb gd_Bk_release_18 (by decide) ?_
    obtain ⟨hg3, hf⟩ := gj_g hf
    refine gq_iast (D := D) (ca := 5) (ka := 0) (pp' := gk_pc cI cT ad (gk_sI z1.2 9 (Int32.toNatClampNeg z1.1) (-1))) hx hb hK hH hI hA rfl (gk_c5 cI cT ad z1.2) 0 rfl hg3 (gk_w9 cI cT ad z1.2 (Int32.toNatClampNeg z1.1) (-1)) (gk_o9 cI cT ad z1.2 (Int32.toNatClampNeg z1.1) (-1)) hS gd_Bk_release_19 (fun H locs hH hS => ?_)
    refine lv_iconst (v := 0) hx hb gd_Bk_release_20 (by decide) ?_
    refine lv_istore_n (lv' := [(3, .int 0), (2, .int z1.1), (0, .ref (ad 0 0)), (1, .int p1)]) hx hb gd_Bk_release_21 rfl hl (by decide) rfl (fun ls hl => ?_)
    exact L22 gk_fu p1 z1.1 0 (gk_sI z1.2 9 (Int32.toNatClampNeg z1.1) (-1)) _ _ _ hf hH hS (lv_sub hl [2, 3, 1, 0] rfl)
  · replace hf := gj_t c14 hf
    refine lv_iconst (v := (-1)) hx hb gd_Bk_release_11 (by decide) ?_
    cases hf
    exact W.iret hx hb hr (fun t ht hW => ⟨⟨_, _, rfl, ⟨rfl, rfl⟩, ⟨by rw [ht]; exact hH, va_K.moved hW.alike hK⟩⟩, hS.F ht⟩) hS.2.2 gd_Bk_release_12
set_option maxHeartbeats 4000000 in
set_option maxRecDepth 100000 in
theorem ct_Tm_isKeptFor (l : Launch) (D : va_G) (cI cT : ClassId) (ad : Nat → Nat → Nat) (hI : gq_I gk_vd ad) (u : gk_St) (k : Nat) (hk : k < 100) (p1 : Int32) (z : Int32 × gk_St) (hf : fn_Tm_isKeptFor k p1 u = some z) : Met l gy_Tm_isKeptFor gws_Tm_isKeptFor ({ frames := 0, cells := 0, slots := 0, locals := 0 }) (va_Pc [.ref (ad 7 k), .int p1] (gq_pre D gc_cl (gk_tys cI cT) gk_vd ad gk_NF gk_NM (gk_pc cI cT ad u))) (va_Qi (fun r u2 => r = z.1 ∧ u2 = z.2) (fun u2 t => gq_B D gc_cl (gk_tys cI cT) gk_vd ad (gk_pc cI cT ad u2) t) (gq_A gk_vd ad)) 0 0 (gq_A gk_vd ad) := by
  refine Met.ofW (cc := gb_Tm_isKeptFor) (maxL := 2) (ret := (some .boolean)) (by decide) rfl ?_
  intro p e s m args below meth c s₁ B hml hv
  obtain ⟨rfl, hH, hK, hN⟩ := hv
  have hx := B.exec
  have hb := B.bytes
  have hr := B.returns
  have hts := atoms_spec (ws := gws_Tm_isKeptFor) B.pre
  have ht := fun (w : Cond) (h : w ∈ gt_T) => hts w (List.mem_cons_of_mem _ h)
  have hown : s.vm.findClass gR_Tm = some m.cls := findClass_of_methodNamed B.named
  have hlocks := B.notSynchronized
  have hA : ∀ q, (gq_A gk_vd ad) q → (gq_A gk_vd ad) q := fun _ h => h
  have hS : va_S (gq_A gk_vd ad) s.heap s.heap [] := va_S.rf
  have hl := lv_entry ([.ref (ad 7 k), .int p1]) (n := 2) (Nat.le_of_ble_eq_true rfl)
  rw [lg_entry_eq]
  generalize (lg_sl ([.ref (ad 7 k), .int p1]) ++ List.replicate (2 - (lg_sl ([.ref (ad 7 k), .int p1])).length) Slot.unset).toArray = ls at hl ⊢
  have hl : lv_has ls 2 [(0, .ref (ad 7 k)), (1, .int p1)] := hl
  unfold fn_Tm_isKeptFor at hf
  refine lv_aload_n hx hb gd_Tm_isKeptFor_0 rfl (lv_at hl 0 rfl) ?_
  refine va_get (D := D) (ci := 3) (C := gR_Tm) (T := gT_Tm) (N := 5) hx hb hts (fun w h => List.mem_cons_of_mem _ (gl_Tm w h)) hown hK (gq_one (c := 7) (k := k) hH hk (gk_c7 cI cT ad u k)) 0 rfl rfl 4 (by decide) (ht _ gt_51) (fun _ h9 => h9) rfl gd_Tm_isKeptFor_1 ?_
  refine lv_iconst (v := 1) hx hb gd_Tm_isKeptFor_4 (by decide) ?_
  refine lv_iload_n hx hb gd_Tm_isKeptFor_5 rfl (lv_at hl 1 rfl) ?_
  refine lv_ishl hx hb gd_Tm_isKeptFor_6 ?_
  refine lv_iand hx hb gd_Tm_isKeptFor_7 ?_
  refine lv_if_eq (tgt := 15) hx hb gd_Tm_isKeptFor_8 (by decide) (fun c1 => ?_) (fun c1 => ?_)
  · replace hf := gj_t c1 hf
    refine lv_iconst (v := 0) hx hb gd_Tm_isKeptFor_15 (by decide) ?_
    cases hf
    exact W.zret hx hb hr rfl (fun t ht hW => ⟨⟨_, _, rfl, ⟨rfl, rfl⟩, ⟨by rw [ht]; exact hH, va_K.moved hW.alike hK⟩⟩, hS.F ht⟩) hS.2.2 gd_Tm_isKeptFor_16
  · replace hf := gj_e c1 hf
    refine lv_iconst (v := 1) hx hb gd_Tm_isKeptFor_11 (by decide) ?_
    refine lv_goto (tgt := 16) hx hb gd_Tm_isKeptFor_12 (by decide) ?_
    cases hf
    exact W.zret hx hb hr rfl (fun t ht hW => ⟨⟨_, _, rfl, ⟨rfl, rfl⟩, ⟨by rw [ht]; exact hH, va_K.moved hW.alike hK⟩⟩, hS.F ht⟩) hS.2.2 gd_Tm_isKeptFor_16
end
section
set_option maxHeartbeats 4000000 in
set_option maxRecDepth 100000 in
theorem ct_Bk_countKeptFor (l : Launch) (D : va_G) (cI cT : ClassId) (ad : Nat → Nat → Nat) (hI : gq_I gk_vd ad) (u : gk_St) (p1 : Int32) (z : Int32 × gk_St) (hf : fn_Bk_countKeptFor p1 u = some z) : Met l gy_Bk_countKeptFor gws_Bk_countKeptFor ({ frames := 1, cells := 0, slots := 0, locals := 22 }) (va_Pc [.ref (ad 0 0), .int p1] (gq_pre D gc_cl (gk_tys cI cT) gk_vd ad gk_NF gk_NM (gk_pc cI cT ad u))) (va_Qi (fun r u2 => r = z.1 ∧ u2 = z.2) (fun u2 t => gq_B D gc_cl (gk_tys cI cT) gk_vd ad (gk_pc cI cT ad u2) t) (gq_A gk_vd ad)) 0 0 (gq_A gk_vd ad) := by
  refine Met.ofW (cc := gb_Bk_countKeptFor) (maxL := 5) (ret := (some .int)) (by decide) rfl ?_
  intro p e s m args below meth c s₁ B hml hv
  obtain ⟨rfl, hH, hK, hN⟩ := hv
  have hx := B.exec
  have hb := B.bytes
  have hr := B.returns
  have hts := atoms_spec (ws := gws_Bk_countKeptFor) B.pre
  have ht := fun (w : Cond) (h : w ∈ gt_T) => hts w (List.mem_cons_of_mem _ h)
  have hown : s.vm.findClass gR_Bk = some m.cls := findClass_of_methodNamed B.named
  have hlocks := B.notSynchronized
  have hA : ∀ q, (gq_A gk_vd ad) q → (gq_A gk_vd ad) q := fun _ h => h
  have hS : va_S (gq_A gk_vd ad) s.heap s.heap [] := va_S.rf
  have hl := lv_entry ([.ref (ad 0 0), .int p1]) (n := 5) (Nat.le_of_ble_eq_true rfl)
  rw [lg_entry_eq]
  generalize (lg_sl ([.ref (ad 0 0), .int p1]) ++ List.replicate (5 - (lg_sl ([.ref (ad 0 0), .int p1])).length) Slot.unset).toArray = ls at hl ⊢
  have hl : lv_has ls 5 [(0, .ref (ad 0 0)), (1, .int p1)] := hl
  have L4 : ∀ (n : Nat) (x1 : Int32) (x2 : Int32) (x3 : Int32) (u : gk_St) (H : Heap) (locs : List Loc) (ls : Array Slot), fn_Bk_countKeptFor_4 n x1 x2 x3 u = some z → gq_H D gc_cl gk_vd ad (gk_pc cI cT ad u) H → va_S (gq_A gk_vd ad) s.heap H locs → lv_has ls 5 [(0, .ref (ad 0 0)), (1, .int x1), (2, .int x2), (3, .int x3)] → W p l e (headSpec gws_Bk_countKeptFor ({ frames := 1, cells := 0, slots := 0, locals := 22 })).room s m ([.ref (ad 0 0), .int p1] : List Value).toArray below meth c H locs 0 0 (MQ below (va_Qi (fun r u2 => r = z.1 ∧ u2 = z.2) (fun u2 t => gq_B D gc_cl (gk_tys cI cT) gk_vd ad (gk_pc cI cT ad u2) t) (gq_A gk_vd ad)) ([.ref (ad 0 0), .int p1] : List Value).toArray s 0 0 (gq_A gk_vd ad)) (F0 m 4 ls []) := by
    intro n
    induction n with
    | zero =>
      intro x1 x2 x3 u H locs ls hf
      have h0 : none = some z := hf
      cases h0
    | succ n ih =>
      intro x1 x2 x3 u H locs ls hf hH hS hl
      rw [fn_Bk_countKeptFor_4] at hf
      refine lv_iload_n hx hb gd_Bk_countKeptFor_4 rfl (lv_at hl 3 rfl) ?_
      refine lv_bipush (v := 100) hx hb gd_Bk_countKeptFor_5 (by decide) ?_
      refine lv_icmp_ge (tgt := 40) hx hb gd_Bk_countKeptFor_7 (by decide) (fun c9 => ?_) (fun c9 => ?_)
      · replace hf := gj_t c9 hf
        refine lv_iload_n hx hb gd_Bk_countKeptFor_40 rfl (lv_at hl 2 rfl) ?_
        cases hf
        exact W.iret hx hb hr (fun t ht hW => ⟨⟨_, _, rfl, ⟨rfl, rfl⟩, ⟨by rw [ht]; exact hH, va_K.moved hW.alike hK⟩⟩, hS.F ht⟩) hS.2.2 gd_Bk_countKeptFor_41
      · replace hf := gj_e c9 hf
        refine lv_aload_n hx hb gd_Bk_countKeptFor_10 rfl (lv_at hl 0 rfl) ?_
        refine lv_iload_n hx hb gd_Bk_countKeptFor_11 rfl (lv_at hl 3 rfl) ?_
        obtain ⟨⟨o3, u4⟩, hc2, hf⟩ := Option.bind_eq_some_iff.mp hf
        refine gq_calle (va_runV (As := [.int x3]) (rest := []) ⟨hx, hb, hml, hown, hts⟩ (ct_Bk_inBook l D cI cT ad hI u x3 (o3, u4) hc2) (cwV 1 hts (gt_V gt_147 gt_149 (gt_sel (List.mem_of_getElem? (i := 3) rfl)) gt_1 gt_150) rfl rfl rfl (by decide +kernel) ⟨Nat.le_of_ble_eq_true rfl, Nat.le_of_ble_eq_true rfl⟩) (gq_preV hH hK hN (va_recv hK (gq_one (c := 0) (k := 0) hH rfl (gk_c0 cI cT ad u)) (ci := 0) (q0 := 0) rfl rfl)) rfl rfl hl.1 rfl (lv_room (Nat.le_of_ble_eq_true rfl)) gd_Bk_countKeptFor_12 ⟨Nat.zero_le _, Nat.zero_le _⟩) hA hS (fun H locs hH hS => ?_)
        cases o3 with
        | none =>
          have hH : gq_H D gc_cl gk_vd ad (gk_pc cI cT ad u4) H := hH
          refine W.eq (g2 := F0 m 15 ls [.null]) rfl ?_
          dsimp only at hf
          refine lv_astoreN (lv' := [(4, .null), (0, .ref (ad 0 0)), (1, .int x1), (2, .int x2), (3, .int x3)]) hx hb gd_Bk_countKeptFor_15 hl (by decide) rfl (fun ls hl => ?_)
          refine lv_aloadN hx hb gd_Bk_countKeptFor_17 (lv_at hl 0 rfl) ?_
          refine lv_ifnullN (tgt := 34) hx hb gd_Bk_countKeptFor_19 (by decide) ?_
          refine lv_iinc (v := x3 + 1) (lv' := [(3, .int (x3 + 1)), (4, .null), (0, .ref (ad 0 0)), (1, .int x1), (2, .int x2)]) hx hb gd_Bk_countKeptFor_34 hl (k := 4) rfl rfl (by decide) rfl (fun ls hl => ?_)
          refine lv_goto (tgt := 4) hx hb gd_Bk_countKeptFor_37 (by decide) ?_
          exact ih x1 x2 (x3 + 1) u4 _ _ _ hf hH hS (lv_sub hl [2, 3, 4, 0] rfl)
        | some k5 =>
          have hH : gq_H D gc_cl gk_vd ad (gk_pc cI cT ad u4) H := hH
          refine W.eq (g2 := F0 m 15 ls [.ref (ad 7 k5)]) rfl ?_
          dsimp only at hf
          refine lv_astore (lv' := [(4, .ref (ad 7 k5)), (0, .ref (ad 0 0)), (1, .int x1), (2, .int x2), (3, .int x3)]) hx hb gd_Bk_countKeptFor_15 hl (by decide) rfl (fun ls hl => ?_)
          refine lv_aload hx hb gd_Bk_countKeptFor_17 (lv_at hl 0 rfl) ?_
          refine lv_ifnull hx hb gd_Bk_countKeptFor_19 ?_
          refine lv_aload hx hb gd_Bk_countKeptFor_22 (lv_at hl 0 rfl) ?_
          refine lv_iload_n hx hb gd_Bk_countKeptFor_24 rfl (lv_at hl 2 rfl) ?_
          obtain ⟨z6, hc7, hf⟩ := Option.bind_eq_some_iff.mp hf
          refine gq_calli (va_runV (As := [.int x1]) (rest := []) ⟨hx, hb, hml, hown, hts⟩ (ct_Tm_isKeptFor l D cI cT ad hI u4 k5 (ok_Bk_inBook hc2) x1 z6 hc7) (cwV 1 hts (gt_V gt_325 gt_326 gt_327 gt_3 gt_328) rfl rfl rfl (by decide +kernel) ⟨Nat.le_of_ble_eq_true rfl, Nat.le_of_ble_eq_true rfl⟩) (gq_preV hH hK hN (va_recv hK (gq_one (c := 7) (k := k5) hH (ok_Bk_inBook hc2) (gk_c7 cI cT ad u4 k5)) (ci := 3) (q0 := 0) rfl rfl)) rfl rfl hl.1 rfl (lv_room (Nat.le_of_ble_eq_true rfl)) gd_Bk_countKeptFor_25 ⟨Nat.zero_le _, Nat.zero_le _⟩) hA hS (fun H locs hH hS => ?_)
          refine lv_if_eq (tgt := 34) hx hb gd_Bk_countKeptFor_28 (by decide) (fun c8 => ?_) (fun c8 => ?_)
          · replace hf := gj_t c8 hf
            refine lv_iinc (v := x3 + 1) (lv' := [(3, .int (x3 + 1)), (4, .ref (ad 7 k5)), (0, .ref (ad 0 0)), (1, .int x1), (2, .int x2)]) hx hb gd_Bk_countKeptFor_34 hl (k := 4) rfl rfl (by decide) rfl (fun ls hl => ?_)
            refine lv_goto (tgt := 4) hx hb gd_Bk_countKeptFor_37 (by decide) ?_
            exact ih x1 x2 (x3 + 1) z6.2 _ _ _ hf hH hS (lv_sub hl [2, 3, 4, 0] rfl)
          · replace hf := gj_e c8 hf
            refine lv_iinc (v := x2 + 1) (lv' := [(2, .int (x2 + 1)), (4, .ref (ad 7 k5)), (0, .ref (ad 0 0)), (1, .int x1), (3, .int x3)]) hx hb gd_Bk_countKeptFor_31 hl (k := 3) rfl rfl (by decide) rfl (fun ls hl => ?_)
            refine lv_iinc (v := x3 + 1) (lv' := [(3, .int (x3 + 1)), (2, .int (x2 + 1)), (4, .ref (ad 7 k5)), (0, .ref (ad 0 0)), (1, .int x1)]) hx hb gd_Bk_countKeptFor_34 hl (k := 4) rfl rfl (by decide) rfl (fun ls hl => ?_)
            refine lv_goto (tgt := 4) hx hb gd_Bk_countKeptFor_37 (by decide) ?_
            exact ih x1 (x2 + 1) (x3 + 1) z6.2 _ _ _ hf hH hS (lv_sub hl [3, 4, 1, 0] rfl)
  unfold fn_Bk_countKeptFor at hf
  refine lv_iconst (v := 0) hx hb gd_Bk_countKeptFor_0 (by decide) ?_
  refine lv_istore_n (lv' := [(2, .int 0), (0, .ref (ad 0 0)), (1, .int p1)]) hx hb gd_Bk_countKeptFor_1 rfl hl (by decide) rfl (fun ls hl => ?_)
  refine lv_iconst (v := 0) hx hb gd_Bk_countKeptFor_2 (by decide) ?_
  refine lv_istore_n (lv' := [(3, .int 0), (2, .int 0), (0, .ref (ad 0 0)), (1, .int p1)]) hx hb gd_Bk_countKeptFor_3 rfl hl (by decide) rfl (fun ls hl => ?_)
  exact L4 gk_fu p1 0 0 u _ _ _ hf hH hS (lv_sub hl [2, 3, 1, 0] rfl)
set_option maxHeartbeats 4000000 in
set_option maxRecDepth 100000 in
theorem ct_Bk_had (l : Launch) (D : va_G) (cI cT : ClassId) (ad : Nat → Nat → Nat) (hI : gq_I gk_vd ad) (u : gk_St) (p1 : Int32) (p2 : Int32) (z : Int32 × gk_St) (hf : fn_Bk_had p1 p2 u = some z) : Met l gy_Bk_had gws_Bk_had ({ frames := 2, cells := 0, slots := 0, locals := 46 }) (va_Pc [.ref (ad 0 0), .int p1, .int p2] (gq_pre D gc_cl (gk_tys cI cT) gk_vd ad gk_NF gk_NM (gk_pc cI cT ad u))) (va_Qi (fun r u2 => r = z.1 ∧ u2 = z.2) (fun u2 t => gq_B D gc_cl (gk_tys cI cT) gk_vd ad (gk_pc cI cT ad u2) t) (gq_A gk_vd ad)) 0 0 (gq_A gk_vd ad) := by
  refine Met.ofW (cc := gb_Bk_had) (maxL := 5) (ret := (some .int)) (by decide) rfl ?_
  intro p e s m args below meth c s₁ B hml hv
  obtain ⟨rfl, hH, hK, hN⟩ := hv
  have hx := B.exec
  have hb := B.bytes
  have hr := B.returns
  have hts := atoms_spec (ws := gws_Bk_had) B.pre
  have ht := fun (w : Cond) (h : w ∈ gt_T) => hts w (List.mem_cons_of_mem _ h)
  have hown : s.vm.findClass gR_Bk = some m.cls := findClass_of_methodNamed B.named
  have hlocks := B.notSynchronized
  have hA : ∀ q, (gq_A gk_vd ad) q → (gq_A gk_vd ad) q := fun _ h => h
  have hS : va_S (gq_A gk_vd ad) s.heap s.heap [] := va_S.rf
  have hl := lv_entry ([.ref (ad 0 0), .int p1, .int p2]) (n := 5) (Nat.le_of_ble_eq_true rfl)
  rw [lg_entry_eq]
  generalize (lg_sl ([.ref (ad 0 0), .int p1, .int p2]) ++ List.replicate (5 - (lg_sl ([.ref (ad 0 0), .int p1, .int p2])).length) Slot.unset).toArray = ls at hl ⊢
  have hl : lv_has ls 5 [(0, .ref (ad 0 0)), (1, .int p1), (2, .int p2)] := hl
  unfold fn_Bk_had at hf
  refine lv_aload_n hx hb gd_Bk_had_0 rfl (lv_at hl 0 rfl) ?_
  refine lv_iload_n hx hb gd_Bk_had_1 rfl (lv_at hl 1 rfl) ?_
  obtain ⟨z1, hc2, hf⟩ := Option.bind_eq_some_iff.mp hf
  refine gq_calli (va_runV (As := [.int p1]) (rest := []) ⟨hx, hb, hml, hown, hts⟩ (ct_Bk_keptSlot l D cI cT ad hI u p1 z1 hc2) (cwV 1 hts (gt_V gt_305 gt_307 (gt_sel (List.mem_of_getElem? (i := 15) rfl)) gt_1 gt_308) rfl rfl rfl (by decide +kernel) ⟨Nat.le_of_ble_eq_true rfl, Nat.le_of_ble_eq_true rfl⟩) (gq_preV hH hK hN (va_recv hK (gq_one (c := 0) (k := 0) hH rfl (gk_c0 cI cT ad u)) (ci := 0) (q0 := 0) rfl rfl)) rfl rfl hl.1 rfl (lv_room (Nat.le_of_ble_eq_true rfl)) gd_Bk_had_2 ⟨Nat.zero_le _, Nat.zero_le _⟩) hA hS (fun H locs hH hS => ?_)
  refine lv_istore_n (lv' := [(3, .int z1.1), (0, .ref (ad 0 0)), (1, .int p1), (2, .int p2)]) hx hb gd_Bk_had_5 rfl hl (by decide) rfl (fun ls hl => ?_)
  refine lv_iload_n hx hb gd_Bk_had_6 rfl (lv_at hl 0 rfl) ?_
  refine lv_iconst (v := (-1)) hx hb gd_Bk_had_7 (by decide) ?_
  refine lv_icmp_eq (tgt := 22) hx hb gd_Bk_had_8 (by decide) (fun c16 => ?_) (fun c16 => ?_)
  · replace hf := gj_t c16 hf
    refine lv_iconst (v := (-1)) hx hb gd_Bk_had_22 (by decide) ?_
    cases hf
    exact W.iret hx hb hr (fun t ht hW => ⟨⟨_, _, rfl, ⟨rfl, rfl⟩, ⟨by rw [ht]; exact hH, va_K.moved hW.alike hK⟩⟩, hS.F ht⟩) hS.2.2 gd_Bk_had_23
  · replace hf := gj_e c16 hf
    refine lv_iload_n hx hb gd_Bk_had_11 rfl (lv_at hl 3 rfl) ?_
    refine lv_iconst (v := (-1)) hx hb gd_Bk_had_12 (by decide) ?_
    refine lv_icmp_lt (tgt := 22) hx hb gd_Bk_had_13 (by decide) (fun c15 => ?_) (fun c15 => ?_)
    · replace hf := gj_t c15 hf
      refine lv_iconst (v := (-1)) hx hb gd_Bk_had_22 (by decide) ?_
      cases hf
      exact W.iret hx hb hr (fun t ht hW => ⟨⟨_, _, rfl, ⟨rfl, rfl⟩, ⟨by rw [ht]; exact hH, va_K.moved hW.alike hK⟩⟩, hS.F ht⟩) hS.2.2 gd_Bk_had_23
    · replace hf := gj_e c15 hf
      refine lv_iload_n hx hb gd_Bk_had_16 rfl (lv_at hl 3 rfl) ?_
      refine lv_bipush (v := 100) hx hb gd_Bk_had_17 (by decide) ?_
      refine lv_icmp_lt (tgt := 24) hx hb gd_Bk_had_19 (by decide) (fun c14 => ?_) (fun c14 => ?_)
      · replace hf := gj_t c14 hf
        refine lv_iload_n hx hb gd_Bk_had_24 rfl (lv_at hl 3 rfl) ?_
        refine lv_iconst (v := (-1)) hx hb gd_Bk_had_25 (by decide) ?_
        refine lv_icmp_ne (tgt := 35) hx hb gd_Bk_had_26 (by decide) (fun c13 => ?_) (fun c13 => ?_)
        · replace hf := gj_e c13 hf
          refine lv_aload_n hx hb gd_Bk_had_35 rfl (lv_at hl 1 rfl) ?_
          refine lv_iload_n hx hb gd_Bk_had_36 rfl (lv_at hl 3 rfl) ?_
          obtain ⟨⟨o5, u6⟩, hc4, hf⟩ := Option.bind_eq_some_iff.mp hf
          refine gq_calle (va_runV (As := [.int p2]) (rest := []) ⟨hx, hb, hml, hown, hts⟩ (ct_Bk_inBook l D cI cT ad hI z1.2 p2 (o5, u6) hc4) (cwV 1 hts (gt_V gt_147 gt_149 (gt_sel (List.mem_of_getElem? (i := 3) rfl)) gt_1 gt_150) rfl rfl rfl (by decide +kernel) ⟨Nat.le_of_ble_eq_true rfl, Nat.le_of_ble_eq_true rfl⟩) (gq_preV hH hK hN (va_recv hK (gq_one (c := 0) (k := 0) hH rfl (gk_c0 cI cT ad z1.2)) (ci := 0) (q0 := 0) rfl rfl)) rfl rfl hl.1 rfl (lv_room (Nat.le_of_ble_eq_true rfl)) gd_Bk_had_37 ⟨Nat.zero_le _, Nat.zero_le _⟩) hA hS (fun H locs hH hS => ?_)
          cases o5 with
          | none =>
            have hH : gq_H D gc_cl gk_vd ad (gk_pc cI cT ad u6) H := hH
            refine W.eq (g2 := F0 m 40 ls [.null]) rfl ?_
            dsimp only at hf
            refine lv_astoreN (lv' := [(4, .null), (3, .int z1.1), (0, .ref (ad 0 0)), (1, .int p1), (2, .int p2)]) hx hb gd_Bk_had_40 hl (by decide) rfl (fun ls hl => ?_)
            refine lv_aloadN hx hb gd_Bk_had_42 (lv_at hl 0 rfl) ?_
            refine lv_ifnullN (tgt := 60) hx hb gd_Bk_had_44 (by decide) ?_
            refine lv_iconst (v := 0) hx hb gd_Bk_had_60 (by decide) ?_
            cases hf
            exact W.iret hx hb hr (fun t ht hW => ⟨⟨_, _, rfl, ⟨rfl, rfl⟩, ⟨by rw [ht]; exact hH, va_K.moved hW.alike hK⟩⟩, hS.F ht⟩) hS.2.2 gd_Bk_had_61
          | some k7 =>
            have hH : gq_H D gc_cl gk_vd ad (gk_pc cI cT ad u6) H := hH
            refine W.eq (g2 := F0 m 40 ls [.ref (ad 7 k7)]) rfl ?_
            dsimp only at hf
            refine lv_astore (lv' := [(4, .ref (ad 7 k7)), (3, .int z1.1), (0, .ref (ad 0 0)), (1, .int p1), (2, .int p2)]) hx hb gd_Bk_had_40 hl (by decide) rfl (fun ls hl => ?_)
            refine lv_aload hx hb gd_Bk_had_42 (lv_at hl 0 rfl) ?_
            refine lv_ifnull hx hb gd_Bk_had_44 ?_
            refine lv_aload hx hb gd_Bk_had_47 (lv_at hl 0 rfl) ?_
            refine lv_iload_n hx hb gd_Bk_had_49 rfl (lv_at hl 1 rfl) ?_
            obtain ⟨z8, hc9, hf⟩ := Option.bind_eq_some_iff.mp hf
            refine gq_calli (va_runV (As := [.int z1.1]) (rest := []) ⟨hx, hb, hml, hown, hts⟩ (ct_Tm_isKeptFor l D cI cT ad hI u6 k7 (ok_Bk_inBook hc4) z1.1 z8 hc9) (cwV 1 hts (gt_V gt_325 gt_326 gt_327 gt_3 gt_328) rfl rfl rfl (by decide +kernel) ⟨Nat.le_of_ble_eq_true rfl, Nat.le_of_ble_eq_true rfl⟩) (gq_preV hH hK hN (va_recv hK (gq_one (c := 7) (k := k7) hH (ok_Bk_inBook hc4) (gk_c7 cI cT ad u6 k7)) (ci := 3) (q0 := 0) rfl rfl)) rfl rfl hl.1 rfl (lv_room (Nat.le_of_ble_eq_true rfl)) gd_Bk_had_50 ⟨Nat.zero_le _, Nat.zero_le _⟩) hA hS (fun H locs hH hS => ?_)
            refine lv_if_eq (tgt := 60) hx hb gd_Bk_had_53 (by decide) (fun c10 => ?_) (fun c10 => ?_)
            · replace hf := gj_t c10 hf
              refine lv_iconst (v := 0) hx hb gd_Bk_had_60 (by decide) ?_
              cases hf
              exact W.iret hx hb hr (fun t ht hW => ⟨⟨_, _, rfl, ⟨rfl, rfl⟩, ⟨by rw [ht]; exact hH, va_K.moved hW.alike hK⟩⟩, hS.F ht⟩) hS.2.2 gd_Bk_had_61
            · replace hf := gj_e c10 hf
              refine lv_iconst (v := 1) hx hb gd_Bk_had_56 (by decide) ?_
              refine lv_goto (tgt := 61) hx hb gd_Bk_had_57 (by decide) ?_
              cases hf
              exact W.iret hx hb hr (fun t ht hW => ⟨⟨_, _, rfl, ⟨rfl, rfl⟩, ⟨by rw [ht]; exact hH, va_K.moved hW.alike hK⟩⟩, hS.F ht⟩) hS.2.2 gd_Bk_had_61
        · replace hf := gj_t c13 hf
          refine lv_aload_n hx hb gd_Bk_had_29 rfl (lv_at hl 1 rfl) ?_
          refine lv_iload_n hx hb gd_Bk_had_30 rfl (lv_at hl 0 rfl) ?_
          obtain ⟨z11, hc12, hf⟩ := Option.bind_eq_some_iff.mp hf
          refine gq_calli (va_runV (As := [.int z1.1]) (rest := []) ⟨hx, hb, hml, hown, hts⟩ (ct_Bk_countKeptFor l D cI cT ad hI z1.2 z1.1 z11 hc12) (cwV 1 hts (gt_V gt_321 gt_323 (gt_sel (List.mem_of_getElem? (i := 17) rfl)) gt_1 gt_324) rfl rfl rfl (by decide +kernel) ⟨Nat.le_of_ble_eq_true rfl, Nat.le_of_ble_eq_true rfl⟩) (gq_preV hH hK hN (va_recv hK (gq_one (c := 0) (k := 0) hH rfl (gk_c0 cI cT ad z1.2)) (ci := 0) (q0 := 0) rfl rfl)) rfl rfl hl.1 rfl (lv_room (Nat.le_of_ble_eq_true rfl)) gd_Bk_had_31 ⟨Nat.zero_le _, Nat.zero_le _⟩) hA hS (fun H locs hH hS => ?_)
          cases hf
          exact W.iret hx hb hr (fun t ht hW => ⟨⟨_, _, rfl, ⟨rfl, rfl⟩, ⟨by rw [ht]; exact hH, va_K.moved hW.alike hK⟩⟩, hS.F ht⟩) hS.2.2 gd_Bk_had_34
      · replace hf := gj_e c14 hf
        refine lv_iconst (v := (-1)) hx hb gd_Bk_had_22 (by decide) ?_
        cases hf
        exact W.iret hx hb hr (fun t ht hW => ⟨⟨_, _, rfl, ⟨rfl, rfl⟩, ⟨by rw [ht]; exact hH, va_K.moved hW.alike hK⟩⟩, hS.F ht⟩) hS.2.2 gd_Bk_had_23
set_option maxHeartbeats 4000000 in
set_option maxRecDepth 100000 in
theorem ct_Lv_startOf (l : Launch) (D : va_G) (cI cT : ClassId) (ad : Nat → Nat → Nat) (hI : gq_I gk_vd ad) (u : gk_St) (p1 : Int32) (z : Int32 × gk_St) (hf : fn_Lv_startOf p1 u = some z) : Met l gy_Lv_startOf gws_Lv_startOf ({ frames := 1, cells := 0, slots := 0, locals := 21 }) (va_Pc [.ref (ad 2 0), .int p1] (gq_pre D gc_cl (gk_tys cI cT) gk_vd ad gk_NF gk_NM (gk_pc cI cT ad u))) (va_Qi (fun r u2 => r = z.1 ∧ u2 = z.2) (fun u2 t => gq_B D gc_cl (gk_tys cI cT) gk_vd ad (gk_pc cI cT ad u2) t) (gq_A gk_vd ad)) 0 0 (gq_A gk_vd ad) := by
  refine Met.ofW (cc := gb_Lv_startOf) (maxL := 4) (ret := (some .int)) (by decide) rfl ?_
  intro p e s m args below meth c s₁ B hml hv
  obtain ⟨rfl, hH, hK, hN⟩ := hv
  have hx := B.exec
  have hb := B.bytes
  have hr := B.returns
  have hts := atoms_spec (ws := gws_Lv_startOf) B.pre
  have ht := fun (w : Cond) (h : w ∈ gt_T) => hts w (List.mem_cons_of_mem _ h)
  have hown : s.vm.findClass gR_Lv = some m.cls := findClass_of_methodNamed B.named
  have hlocks := B.notSynchronized
  have hA : ∀ q, (gq_A gk_vd ad) q → (gq_A gk_vd ad) q := fun _ h => h
  have hS : va_S (gq_A gk_vd ad) s.heap s.heap [] := va_S.rf
  have hl := lv_entry ([.ref (ad 2 0), .int p1]) (n := 4) (Nat.le_of_ble_eq_true rfl)
  rw [lg_entry_eq]
  generalize (lg_sl ([.ref (ad 2 0), .int p1]) ++ List.replicate (4 - (lg_sl ([.ref (ad 2 0), .int p1])).length) Slot.unset).toArray = ls at hl ⊢
  have hl : lv_has ls 4 [(0, .ref (ad 2 0)), (1, .int p1)] := hl
  have L4 : ∀ (n : Nat) (x1 : Int32) (x2 : Int32) (x3 : Int32) (u : gk_St) (H : Heap) (locs : List Loc) (ls : Array Slot), fn_Lv_startOf_4 n x1 x2 x3 u = some z → gq_H D gc_cl gk_vd ad (gk_pc cI cT ad u) H → va_S (gq_A gk_vd ad) s.heap H locs → lv_has ls 4 [(0, .ref (ad 2 0)), (1, .int x1), (2, .int x2), (3, .int x3)] → W p l e (headSpec gws_Lv_startOf ({ frames := 1, cells := 0, slots := 0, locals := 21 })).room s m ([.ref (ad 2 0), .int p1] : List Value).toArray below meth c H locs 0 0 (MQ below (va_Qi (fun r u2 => r = z.1 ∧ u2 = z.2) (fun u2 t => gq_B D gc_cl (gk_tys cI cT) gk_vd ad (gk_pc cI cT ad u2) t) (gq_A gk_vd ad)) ([.ref (ad 2 0), .int p1] : List Value).toArray s 0 0 (gq_A gk_vd ad)) (F0 m 4 ls []) := by
    intro n
    induction n with
    | zero =>
      intro x1 x2 x3 u H locs ls hf
      have h0 : none = some z := hf
      cases h0
    | succ n ih =>
      intro x1 x2 x3 u H locs ls hf hH hS hl
      rw [fn_Lv_startOf_4] at hf
      refine lv_iload_n hx hb gd_Lv_startOf_4 rfl (lv_at hl 3 rfl) ?_
      refine lv_iload_n hx hb gd_Lv_startOf_5 rfl (lv_at hl 1 rfl) ?_
      refine lv_icmp_ge (tgt := 31) hx hb gd_Lv_startOf_6 (by decide) (fun c4 => ?_) (fun c4 => ?_)
      · replace hf := gj_t c4 hf
        refine lv_iload_n hx hb gd_Lv_startOf_31 rfl (lv_at hl 2 rfl) ?_
        cases hf
        exact W.iret hx hb hr (fun t ht hW => ⟨⟨_, _, rfl, ⟨rfl, rfl⟩, ⟨by rw [ht]; exact hH, va_K.moved hW.alike hK⟩⟩, hS.F ht⟩) hS.2.2 gd_Lv_startOf_32
      · replace hf := gj_e c4 hf
        refine lv_iload_n hx hb gd_Lv_startOf_9 rfl (lv_at hl 3 rfl) ?_
        refine lv_aload_n hx hb gd_Lv_startOf_10 rfl (lv_at hl 0 rfl) ?_
        refine va_get (D := D) (ci := 1) (C := gR_Lv) (T := gT_Lv) (N := 4) hx hb hts (fun w h => List.mem_cons_of_mem _ (gl_Lv w h)) hown hK (gq_one (c := 2) (k := 0) hH rfl (gk_c2 cI cT ad u)) 0 rfl rfl 3 (by decide) (ht _ gt_73) (fun _ h9 => h9) rfl gd_Lv_startOf_11 ?_
        refine lv_icmp_ge (tgt := 31) hx hb gd_Lv_startOf_14 (by decide) (fun c3 => ?_) (fun c3 => ?_)
        · replace hf := gj_t c3 hf
          refine lv_iload_n hx hb gd_Lv_startOf_31 rfl (lv_at hl 2 rfl) ?_
          cases hf
          exact W.iret hx hb hr (fun t ht hW => ⟨⟨_, _, rfl, ⟨rfl, rfl⟩, ⟨by rw [ht]; exact hH, va_K.moved hW.alike hK⟩⟩, hS.F ht⟩) hS.2.2 gd_Lv_startOf_32
        · replace hf := gj_e c3 hf
          refine lv_iload_n hx hb gd_Lv_startOf_17 rfl (lv_at hl 2 rfl) ?_
          refine lv_aload_n hx hb gd_Lv_startOf_18 rfl (lv_at hl 0 rfl) ?_
          refine lv_iload_n hx hb gd_Lv_startOf_19 rfl (lv_at hl 3 rfl) ?_
          obtain ⟨z1, hc2, hf⟩ := Option.bind_eq_some_iff.mp hf
          refine gq_calli (va_runV (As := [.int x3]) (rest := [.int x2]) ⟨hx, hb, hml, hown, hts⟩ (ct_Lv_sizeOf l D cI cT ad hI u x3 z1 hc2) (cwV 1 hts (gt_V gt_193 gt_194 gt_195 gt_4 gt_196) rfl rfl rfl (by decide +kernel) ⟨Nat.le_of_ble_eq_true rfl, Nat.le_of_ble_eq_true rfl⟩) (gq_preV hH hK hN (va_recv hK (gq_one (c := 2) (k := 0) hH rfl (gk_c2 cI cT ad u)) (ci := 1) (q0 := 0) rfl rfl)) rfl rfl hl.1 rfl (lv_room (Nat.le_of_ble_eq_true rfl)) gd_Lv_startOf_20 ⟨Nat.zero_le _, Nat.zero_le _⟩) hA hS (fun H locs hH hS => ?_)
          refine lv_iadd hx hb gd_Lv_startOf_23 ?_
          refine lv_istore_n (lv' := [(2, .int (x2 + z1.1)), (0, .ref (ad 2 0)), (1, .int x1), (3, .int x3)]) hx hb gd_Lv_startOf_24 rfl hl (by decide) rfl (fun ls hl => ?_)
          refine lv_iinc (v := x3 + 1) (lv' := [(3, .int (x3 + 1)), (2, .int (x2 + z1.1)), (0, .ref (ad 2 0)), (1, .int x1)]) hx hb gd_Lv_startOf_25 hl (k := 3) rfl rfl (by decide) rfl (fun ls hl => ?_)
          refine lv_goto (tgt := 4) hx hb gd_Lv_startOf_28 (by decide) ?_
          exact ih x1 (x2 + z1.1) (x3 + 1) z1.2 _ _ _ hf hH hS (lv_sub hl [2, 3, 1, 0] rfl)
  unfold fn_Lv_startOf at hf
  refine lv_iconst (v := 0) hx hb gd_Lv_startOf_0 (by decide) ?_
  refine lv_istore_n (lv' := [(2, .int 0), (0, .ref (ad 2 0)), (1, .int p1)]) hx hb gd_Lv_startOf_1 rfl hl (by decide) rfl (fun ls hl => ?_)
  refine lv_iconst (v := 0) hx hb gd_Lv_startOf_2 (by decide) ?_
  refine lv_istore_n (lv' := [(3, .int 0), (2, .int 0), (0, .ref (ad 2 0)), (1, .int p1)]) hx hb gd_Lv_startOf_3 rfl hl (by decide) rfl (fun ls hl => ?_)
  exact L4 gk_fu p1 0 0 u _ _ _ hf hH hS (lv_sub hl [2, 3, 1, 0] rfl)
set_option maxHeartbeats 4000000 in
set_option maxRecDepth 100000 in
theorem ct_Bk_sharedIn (l : Launch) (D : va_G) (cI cT : ClassId) (ad : Nat → Nat → Nat) (hI : gq_I gk_vd ad) (u : gk_St) (p1 : Int32) (z : Int32 × gk_St) (hf : fn_Bk_sharedIn p1 u = some z) : Met l gy_Bk_sharedIn gws_Bk_sharedIn ({ frames := 3, cells := 0, slots := 0, locals := 65 }) (va_Pc [.ref (ad 0 0), .int p1] (gq_pre D gc_cl (gk_tys cI cT) gk_vd ad gk_NF gk_NM (gk_pc cI cT ad u))) (va_Qi (fun r u2 => r = z.1 ∧ u2 = z.2) (fun u2 t => gq_B D gc_cl (gk_tys cI cT) gk_vd ad (gk_pc cI cT ad u2) t) (gq_A gk_vd ad)) 0 0 (gq_A gk_vd ad) := by
  refine Met.ofW (cc := gb_Bk_sharedIn) (maxL := 5) (ret := (some .int)) (by decide) rfl ?_
  intro p e s m args below meth c s₁ B hml hv
  obtain ⟨rfl, hH, hK, hN⟩ := hv
  have hx := B.exec
  have hb := B.bytes
  have hr := B.returns
  have hts := atoms_spec (ws := gws_Bk_sharedIn) B.pre
  have ht := fun (w : Cond) (h : w ∈ gt_T) => hts w (List.mem_cons_of_mem _ h)
  have hown : s.vm.findClass gR_Bk = some m.cls := findClass_of_methodNamed B.named
  have hlocks := B.notSynchronized
  have hA : ∀ q, (gq_A gk_vd ad) q → (gq_A gk_vd ad) q := fun _ h => h
  have hS : va_S (gq_A gk_vd ad) s.heap s.heap [] := va_S.rf
  have hl := lv_entry ([.ref (ad 0 0), .int p1]) (n := 5) (Nat.le_of_ble_eq_true rfl)
  rw [lg_entry_eq]
  generalize (lg_sl ([.ref (ad 0 0), .int p1]) ++ List.replicate (5 - (lg_sl ([.ref (ad 0 0), .int p1])).length) Slot.unset).toArray = ls at hl ⊢
  have hl : lv_has ls 5 [(0, .ref (ad 0 0)), (1, .int p1)] := hl
  unfold fn_Bk_sharedIn at hf
  refine lv_aload_n hx hb gd_Bk_sharedIn_0 rfl (lv_at hl 0 rfl) ?_
  refine va_get (D := D) (ci := 0) (C := gR_Bk) (T := gT_Bk) (N := 5) hx hb hts (fun w h => List.mem_cons_of_mem _ (gl_Bk w h)) hown hK (gq_one (c := 0) (k := 0) hH rfl (gk_c0 cI cT ad u)) 0 rfl rfl 2 (by decide) (ht _ gt_87) (fun _ h9 => h9) rfl gd_Bk_sharedIn_1 ?_
  refine lv_iload_n hx hb gd_Bk_sharedIn_4 rfl (lv_at hl 1 rfl) ?_
  obtain ⟨z1, hc2, hf⟩ := Option.bind_eq_some_iff.mp hf
  refine gq_calli (va_runV (As := [.int p1]) (rest := []) ⟨hx, hb, hml, hown, hts⟩ (ct_Lv_startOf l D cI cT ad hI u p1 z1 hc2) (cwV 1 hts (gt_V gt_338 gt_339 gt_340 gt_4 gt_341) rfl rfl rfl (by decide +kernel) ⟨Nat.le_of_ble_eq_true rfl, Nat.le_of_ble_eq_true rfl⟩) (gq_preV hH hK hN (va_recv hK (gq_one (c := 2) (k := 0) hH rfl (gk_c2 cI cT ad u)) (ci := 1) (q0 := 0) rfl rfl)) rfl rfl hl.1 rfl (lv_room (Nat.le_of_ble_eq_true rfl)) gd_Bk_sharedIn_5 ⟨Nat.zero_le _, Nat.zero_le _⟩) hA hS (fun H locs hH hS => ?_)
  refine lv_istore_n (lv' := [(2, .int z1.1), (0, .ref (ad 0 0)), (1, .int p1)]) hx hb gd_Bk_sharedIn_8 rfl hl (by decide) rfl (fun ls hl => ?_)
  refine lv_aload_n hx hb gd_Bk_sharedIn_9 rfl (lv_at hl 1 rfl) ?_
  refine lv_aload_n hx hb gd_Bk_sharedIn_10 rfl (lv_at hl 1 rfl) ?_
  refine va_get (D := D) (ci := 0) (C := gR_Bk) (T := gT_Bk) (N := 5) hx hb hts (fun w h => List.mem_cons_of_mem _ (gl_Bk w h)) hown hK (gq_one (c := 0) (k := 0) hH rfl (gk_c0 cI cT ad z1.2)) 0 rfl rfl 2 (by decide) (ht _ gt_87) (fun _ h9 => h9) rfl gd_Bk_sharedIn_11 ?_
  refine lv_iload_n hx hb gd_Bk_sharedIn_14 rfl (lv_at hl 0 rfl) ?_
  obtain ⟨z3, hc4, hf⟩ := Option.bind_eq_some_iff.mp hf
  refine gq_calli (va_runV (As := [.int z1.1]) (rest := [.ref (ad 0 0)]) ⟨hx, hb, hml, hown, hts⟩ (ct_Lv_numberAt l D cI cT ad hI z1.2 z1.1 z3 hc4) (cwV 1 hts (gt_V gt_139 gt_140 gt_141 gt_4 gt_142) rfl rfl rfl (by decide +kernel) ⟨Nat.le_of_ble_eq_true rfl, Nat.le_of_ble_eq_true rfl⟩) (gq_preV hH hK hN (va_recv hK (gq_one (c := 2) (k := 0) hH rfl (gk_c2 cI cT ad z1.2)) (ci := 1) (q0 := 0) rfl rfl)) rfl rfl hl.1 rfl (lv_room (Nat.le_of_ble_eq_true rfl)) gd_Bk_sharedIn_15 ⟨Nat.zero_le _, Nat.zero_le _⟩) hA hS (fun H locs hH hS => ?_)
  obtain ⟨⟨o7, u8⟩, hc6, hf⟩ := Option.bind_eq_some_iff.mp hf
  refine gq_calle (va_runV (As := [.int z3.1]) (rest := []) ⟨hx, hb, hml, hown, hts⟩ (ct_Bk_inBook l D cI cT ad hI z3.2 z3.1 (o7, u8) hc6) (cwV 1 hts (gt_V gt_147 gt_149 (gt_sel (List.mem_of_getElem? (i := 3) rfl)) gt_1 gt_150) rfl rfl rfl (by decide +kernel) ⟨Nat.le_of_ble_eq_true rfl, Nat.le_of_ble_eq_true rfl⟩) (gq_preV hH hK hN (va_recv hK (gq_one (c := 0) (k := 0) hH rfl (gk_c0 cI cT ad z3.2)) (ci := 0) (q0 := 0) rfl rfl)) rfl rfl hl.1 rfl (lv_room (Nat.le_of_ble_eq_true rfl)) gd_Bk_sharedIn_18 ⟨Nat.zero_le _, Nat.zero_le _⟩) hA hS (fun H locs hH hS => ?_)
  cases o7 with
  | none =>
    have hH : gq_H D gc_cl gk_vd ad (gk_pc cI cT ad u8) H := hH
    refine W.eq (g2 := F0 m 21 ls [.null]) rfl ?_
    dsimp only at hf
    refine lv_astore_nN (lv' := [(3, .null), (2, .int z1.1), (0, .ref (ad 0 0)), (1, .int p1)]) hx hb gd_Bk_sharedIn_21 rfl hl (by decide) rfl (fun ls hl => ?_)
    refine lv_aload_n hx hb gd_Bk_sharedIn_22 rfl (lv_at hl 2 rfl) ?_
    refine lv_aload_n hx hb gd_Bk_sharedIn_23 rfl (lv_at hl 2 rfl) ?_
    refine va_get (D := D) (ci := 0) (C := gR_Bk) (T := gT_Bk) (N := 5) hx hb hts (fun w h => List.mem_cons_of_mem _ (gl_Bk w h)) hown hK (gq_one (c := 0) (k := 0) hH rfl (gk_c0 cI cT ad u8)) 0 rfl rfl 2 (by decide) (ht _ gt_87) (fun _ h9 => h9) rfl gd_Bk_sharedIn_24 ?_
    refine lv_iload_n hx hb gd_Bk_sharedIn_27 rfl (lv_at hl 1 rfl) ?_
    refine lv_aload_n hx hb gd_Bk_sharedIn_28 rfl (lv_at hl 2 rfl) ?_
    refine va_get (D := D) (ci := 0) (C := gR_Bk) (T := gT_Bk) (N := 5) hx hb hts (fun w h => List.mem_cons_of_mem _ (gl_Bk w h)) hown hK (gq_one (c := 0) (k := 0) hH rfl (gk_c0 cI cT ad u8)) 0 rfl rfl 2 (by decide) (ht _ gt_87) (fun _ h9 => h9) rfl gd_Bk_sharedIn_29 ?_
    refine lv_iload_n hx hb gd_Bk_sharedIn_32 rfl (lv_at hl 3 rfl) ?_
    obtain ⟨z10, hc11, hf⟩ := Option.bind_eq_some_iff.mp hf
    refine gq_calli (va_runV (As := [.int p1]) (rest := [.int z1.1, .ref (ad 2 0), .ref (ad 0 0)]) ⟨hx, hb, hml, hown, hts⟩ (ct_Lv_sizeOf l D cI cT ad hI u8 p1 z10 hc11) (cwV 1 hts (gt_V gt_333 gt_194 gt_195 gt_4 gt_196) rfl rfl rfl (by decide +kernel) ⟨Nat.le_of_ble_eq_true rfl, Nat.le_of_ble_eq_true rfl⟩) (gq_preV hH hK hN (va_recv hK (gq_one (c := 2) (k := 0) hH rfl (gk_c2 cI cT ad u8)) (ci := 1) (q0 := 0) rfl rfl)) rfl rfl hl.1 rfl (lv_room (Nat.le_of_ble_eq_true rfl)) gd_Bk_sharedIn_33 ⟨Nat.zero_le _, Nat.zero_le _⟩) hA hS (fun H locs hH hS => ?_)
    refine lv_iadd hx hb gd_Bk_sharedIn_36 ?_
    refine lv_iconst (v := 1) hx hb gd_Bk_sharedIn_37 (by decide) ?_
    refine lv_isub hx hb gd_Bk_sharedIn_38 ?_
    obtain ⟨z12, hc13, hf⟩ := Option.bind_eq_some_iff.mp hf
    refine gq_calli (va_runV (As := [.int ((z1.1 + z10.1) - 1)]) (rest := [.ref (ad 0 0)]) ⟨hx, hb, hml, hown, hts⟩ (ct_Lv_numberAt l D cI cT ad hI z10.2 ((z1.1 + z10.1) - 1) z12 hc13) (cwV 1 hts (gt_V gt_139 gt_140 gt_141 gt_4 gt_142) rfl rfl rfl (by decide +kernel) ⟨Nat.le_of_ble_eq_true rfl, Nat.le_of_ble_eq_true rfl⟩) (gq_preV hH hK hN (va_recv hK (gq_one (c := 2) (k := 0) hH rfl (gk_c2 cI cT ad z10.2)) (ci := 1) (q0 := 0) rfl rfl)) rfl rfl hl.1 rfl (lv_room (Nat.le_of_ble_eq_true rfl)) gd_Bk_sharedIn_39 ⟨Nat.zero_le _, Nat.zero_le _⟩) hA hS (fun H locs hH hS => ?_)
    obtain ⟨⟨o16, u17⟩, hc15, hf⟩ := Option.bind_eq_some_iff.mp hf
    refine gq_calle (va_runV (As := [.int z12.1]) (rest := []) ⟨hx, hb, hml, hown, hts⟩ (ct_Bk_inBook l D cI cT ad hI z12.2 z12.1 (o16, u17) hc15) (cwV 1 hts (gt_V gt_147 gt_149 (gt_sel (List.mem_of_getElem? (i := 3) rfl)) gt_1 gt_150) rfl rfl rfl (by decide +kernel) ⟨Nat.le_of_ble_eq_true rfl, Nat.le_of_ble_eq_true rfl⟩) (gq_preV hH hK hN (va_recv hK (gq_one (c := 0) (k := 0) hH rfl (gk_c0 cI cT ad z12.2)) (ci := 0) (q0 := 0) rfl rfl)) rfl rfl hl.1 rfl (lv_room (Nat.le_of_ble_eq_true rfl)) gd_Bk_sharedIn_42 ⟨Nat.zero_le _, Nat.zero_le _⟩) hA hS (fun H locs hH hS => ?_)
    cases o16 with
    | none =>
      have hH : gq_H D gc_cl gk_vd ad (gk_pc cI cT ad u17) H := hH
      refine W.eq (g2 := F0 m 45 ls [.null]) rfl ?_
      dsimp only at hf
      refine lv_astoreN (lv' := [(4, .null), (3, .null), (2, .int z1.1), (0, .ref (ad 0 0)), (1, .int p1)]) hx hb gd_Bk_sharedIn_45 hl (by decide) rfl (fun ls hl => ?_)
      refine lv_aload_nN hx hb gd_Bk_sharedIn_47 rfl (lv_at hl 1 rfl) ?_
      refine lv_ifnullN (tgt := 68) hx hb gd_Bk_sharedIn_48 (by decide) ?_
      refine lv_iconst (v := 0) hx hb gd_Bk_sharedIn_68 (by decide) ?_
      cases hf
      exact W.iret hx hb hr (fun t ht hW => ⟨⟨_, _, rfl, ⟨rfl, rfl⟩, ⟨by rw [ht]; exact hH, va_K.moved hW.alike hK⟩⟩, hS.F ht⟩) hS.2.2 gd_Bk_sharedIn_69
    | some k18 =>
      have hH : gq_H D gc_cl gk_vd ad (gk_pc cI cT ad u17) H := hH
      refine W.eq (g2 := F0 m 45 ls [.ref (ad 7 k18)]) rfl ?_
      dsimp only at hf
      refine lv_astore (lv' := [(4, .ref (ad 7 k18)), (3, .null), (2, .int z1.1), (0, .ref (ad 0 0)), (1, .int p1)]) hx hb gd_Bk_sharedIn_45 hl (by decide) rfl (fun ls hl => ?_)
      refine lv_aload_nN hx hb gd_Bk_sharedIn_47 rfl (lv_at hl 1 rfl) ?_
      refine lv_ifnullN (tgt := 68) hx hb gd_Bk_sharedIn_48 (by decide) ?_
      refine lv_iconst (v := 0) hx hb gd_Bk_sharedIn_68 (by decide) ?_
      cases hf
      exact W.iret hx hb hr (fun t ht hW => ⟨⟨_, _, rfl, ⟨rfl, rfl⟩, ⟨by rw [ht]; exact hH, va_K.moved hW.alike hK⟩⟩, hS.F ht⟩) hS.2.2 gd_Bk_sharedIn_69
  | some k9 =>
    have hH : gq_H D gc_cl gk_vd ad (gk_pc cI cT ad u8) H := hH
    refine W.eq (g2 := F0 m 21 ls [.ref (ad 7 k9)]) rfl ?_
    dsimp only at hf
    refine lv_astore_n (lv' := [(3, .ref (ad 7 k9)), (2, .int z1.1), (0, .ref (ad 0 0)), (1, .int p1)]) hx hb gd_Bk_sharedIn_21 rfl hl (by decide) rfl (fun ls hl => ?_)
    refine lv_aload_n hx hb gd_Bk_sharedIn_22 rfl (lv_at hl 2 rfl) ?_
    refine lv_aload_n hx hb gd_Bk_sharedIn_23 rfl (lv_at hl 2 rfl) ?_
    refine va_get (D := D) (ci := 0) (C := gR_Bk) (T := gT_Bk) (N := 5) hx hb hts (fun w h => List.mem_cons_of_mem _ (gl_Bk w h)) hown hK (gq_one (c := 0) (k := 0) hH rfl (gk_c0 cI cT ad u8)) 0 rfl rfl 2 (by decide) (ht _ gt_87) (fun _ h9 => h9) rfl gd_Bk_sharedIn_24 ?_
    refine lv_iload_n hx hb gd_Bk_sharedIn_27 rfl (lv_at hl 1 rfl) ?_
    refine lv_aload_n hx hb gd_Bk_sharedIn_28 rfl (lv_at hl 2 rfl) ?_
    refine va_get (D := D) (ci := 0) (C := gR_Bk) (T := gT_Bk) (N := 5) hx hb hts (fun w h => List.mem_cons_of_mem _ (gl_Bk w h)) hown hK (gq_one (c := 0) (k := 0) hH rfl (gk_c0 cI cT ad u8)) 0 rfl rfl 2 (by decide) (ht _ gt_87) (fun _ h9 => h9) rfl gd_Bk_sharedIn_29 ?_
    refine lv_iload_n hx hb gd_Bk_sharedIn_32 rfl (lv_at hl 3 rfl) ?_
    obtain ⟨z19, hc20, hf⟩ := Option.bind_eq_some_iff.mp hf
    refine gq_calli (va_runV (As := [.int p1]) (rest := [.int z1.1, .ref (ad 2 0), .ref (ad 0 0)]) ⟨hx, hb, hml, hown, hts⟩ (ct_Lv_sizeOf l D cI cT ad hI u8 p1 z19 hc20) (cwV 1 hts (gt_V gt_333 gt_194 gt_195 gt_4 gt_196) rfl rfl rfl (by decide +kernel) ⟨Nat.le_of_ble_eq_true rfl, Nat.le_of_ble_eq_true rfl⟩) (gq_preV hH hK hN (va_recv hK (gq_one (c := 2) (k := 0) hH rfl (gk_c2 cI cT ad u8)) (ci := 1) (q0 := 0) rfl rfl)) rfl rfl hl.1 rfl (lv_room (Nat.le_of_ble_eq_true rfl)) gd_Bk_sharedIn_33 ⟨Nat.zero_le _, Nat.zero_le _⟩) hA hS (fun H locs hH hS => ?_)
    refine lv_iadd hx hb gd_Bk_sharedIn_36 ?_
    refine lv_iconst (v := 1) hx hb gd_Bk_sharedIn_37 (by decide) ?_
    refine lv_isub hx hb gd_Bk_sharedIn_38 ?_
    obtain ⟨z21, hc22, hf⟩ := Option.bind_eq_some_iff.mp hf
    refine gq_calli (va_runV (As := [.int ((z1.1 + z19.1) - 1)]) (rest := [.ref (ad 0 0)]) ⟨hx, hb, hml, hown, hts⟩ (ct_Lv_numberAt l D cI cT ad hI z19.2 ((z1.1 + z19.1) - 1) z21 hc22) (cwV 1 hts (gt_V gt_139 gt_140 gt_141 gt_4 gt_142) rfl rfl rfl (by decide +kernel) ⟨Nat.le_of_ble_eq_true rfl, Nat.le_of_ble_eq_true rfl⟩) (gq_preV hH hK hN (va_recv hK (gq_one (c := 2) (k := 0) hH rfl (gk_c2 cI cT ad z19.2)) (ci := 1) (q0 := 0) rfl rfl)) rfl rfl hl.1 rfl (lv_room (Nat.le_of_ble_eq_true rfl)) gd_Bk_sharedIn_39 ⟨Nat.zero_le _, Nat.zero_le _⟩) hA hS (fun H locs hH hS => ?_)
    obtain ⟨⟨o25, u26⟩, hc24, hf⟩ := Option.bind_eq_some_iff.mp hf
    refine gq_calle (va_runV (As := [.int z21.1]) (rest := []) ⟨hx, hb, hml, hown, hts⟩ (ct_Bk_inBook l D cI cT ad hI z21.2 z21.1 (o25, u26) hc24) (cwV 1 hts (gt_V gt_147 gt_149 (gt_sel (List.mem_of_getElem? (i := 3) rfl)) gt_1 gt_150) rfl rfl rfl (by decide +kernel) ⟨Nat.le_of_ble_eq_true rfl, Nat.le_of_ble_eq_true rfl⟩) (gq_preV hH hK hN (va_recv hK (gq_one (c := 0) (k := 0) hH rfl (gk_c0 cI cT ad z21.2)) (ci := 0) (q0 := 0) rfl rfl)) rfl rfl hl.1 rfl (lv_room (Nat.le_of_ble_eq_true rfl)) gd_Bk_sharedIn_42 ⟨Nat.zero_le _, Nat.zero_le _⟩) hA hS (fun H locs hH hS => ?_)
    cases o25 with
    | none =>
      have hH : gq_H D gc_cl gk_vd ad (gk_pc cI cT ad u26) H := hH
      refine W.eq (g2 := F0 m 45 ls [.null]) rfl ?_
      dsimp only at hf
      refine lv_astoreN (lv' := [(4, .null), (3, .ref (ad 7 k9)), (2, .int z1.1), (0, .ref (ad 0 0)), (1, .int p1)]) hx hb gd_Bk_sharedIn_45 hl (by decide) rfl (fun ls hl => ?_)
      refine lv_aload_n hx hb gd_Bk_sharedIn_47 rfl (lv_at hl 1 rfl) ?_
      refine lv_ifnull hx hb gd_Bk_sharedIn_48 ?_
      refine lv_aloadN hx hb gd_Bk_sharedIn_51 (lv_at hl 0 rfl) ?_
      refine lv_ifnullN (tgt := 68) hx hb gd_Bk_sharedIn_53 (by decide) ?_
      refine lv_iconst (v := 0) hx hb gd_Bk_sharedIn_68 (by decide) ?_
      cases hf
      exact W.iret hx hb hr (fun t ht hW => ⟨⟨_, _, rfl, ⟨rfl, rfl⟩, ⟨by rw [ht]; exact hH, va_K.moved hW.alike hK⟩⟩, hS.F ht⟩) hS.2.2 gd_Bk_sharedIn_69
    | some k27 =>
      have hH : gq_H D gc_cl gk_vd ad (gk_pc cI cT ad u26) H := hH
      refine W.eq (g2 := F0 m 45 ls [.ref (ad 7 k27)]) rfl ?_
      dsimp only at hf
      refine lv_astore (lv' := [(4, .ref (ad 7 k27)), (3, .ref (ad 7 k9)), (2, .int z1.1), (0, .ref (ad 0 0)), (1, .int p1)]) hx hb gd_Bk_sharedIn_45 hl (by decide) rfl (fun ls hl => ?_)
      refine lv_aload_n hx hb gd_Bk_sharedIn_47 rfl (lv_at hl 1 rfl) ?_
      refine lv_ifnull hx hb gd_Bk_sharedIn_48 ?_
      refine lv_aload hx hb gd_Bk_sharedIn_51 (lv_at hl 0 rfl) ?_
      refine lv_ifnull hx hb gd_Bk_sharedIn_53 ?_
      refine lv_aload_n hx hb gd_Bk_sharedIn_56 rfl (lv_at hl 1 rfl) ?_
      refine va_getN (D := D) (ci := 3) (C := gR_Tm) (T := gT_Tm) (N := 5) hx hb hts (fun w h => List.mem_cons_of_mem _ (gl_Tm w h)) hown hK (gq_one (c := 7) (k := k9) hH (ok_Bk_inBook hc6) (gk_c7 cI cT ad u26 k9)) 0 rfl rfl 2 (by decide) (va_Nw.use rfl (hN.1 _ (List.mem_of_getElem? (i := 3) rfl))) (fun _ h9 => h9) rfl gd_Bk_sharedIn_57 ?_
      refine lv_aload hx hb gd_Bk_sharedIn_60 (lv_at hl 0 rfl) ?_
      refine va_getN (D := D) (ci := 3) (C := gR_Tm) (T := gT_Tm) (N := 5) hx hb hts (fun w h => List.mem_cons_of_mem _ (gl_Tm w h)) hown hK (gq_one (c := 7) (k := k27) hH (ok_Bk_inBook hc24) (gk_c7 cI cT ad u26 k27)) 0 rfl rfl 2 (by decide) (va_Nw.use rfl (hN.1 _ (List.mem_of_getElem? (i := 3) rfl))) (fun _ h9 => h9) rfl gd_Bk_sharedIn_62 ?_
      refine lv_icmp_eq (tgt := 70) hx hb gd_Bk_sharedIn_65 (by decide) (fun c30 => ?_) (fun c30 => ?_)
      · replace hf := gj_t c30 hf
        refine lv_aload_n hx hb gd_Bk_sharedIn_70 rfl (lv_at hl 1 rfl) ?_
        refine va_getN (D := D) (ci := 3) (C := gR_Tm) (T := gT_Tm) (N := 5) hx hb hts (fun w h => List.mem_cons_of_mem _ (gl_Tm w h)) hown hK (gq_one (c := 7) (k := k9) hH (ok_Bk_inBook hc6) (gk_c7 cI cT ad u26 k9)) 0 rfl rfl 0 (by decide) (va_Nw.use rfl (hN.1 _ (List.mem_of_getElem? (i := 1) rfl))) (fun _ h9 => h9) rfl gd_Bk_sharedIn_71 ?_
        refine lv_aload hx hb gd_Bk_sharedIn_74 (lv_at hl 0 rfl) ?_
        refine va_getN (D := D) (ci := 3) (C := gR_Tm) (T := gT_Tm) (N := 5) hx hb hts (fun w h => List.mem_cons_of_mem _ (gl_Tm w h)) hown hK (gq_one (c := 7) (k := k27) hH (ok_Bk_inBook hc24) (gk_c7 cI cT ad u26 k27)) 0 rfl rfl 0 (by decide) (va_Nw.use rfl (hN.1 _ (List.mem_of_getElem? (i := 1) rfl))) (fun _ h9 => h9) rfl gd_Bk_sharedIn_76 ?_
        obtain ⟨z28, hc29, hf⟩ := Option.bind_eq_some_iff.mp hf
        refine gq_calli (va_runV (As := [.ref (ad 6 k27)]) (rest := []) ⟨hx, hb, hml, hown, hts⟩ (ct_Tx_sharedWith l D cI cT ad hI u26 k9 (Nat.le_of_lt (ok_Bk_inBook hc6)) k27 (Nat.le_of_lt (ok_Bk_inBook hc24)) z28 hc29) (cwV 1 hts (gt_V gt_342 gt_274 gt_275 gt_2 gt_276) rfl rfl rfl (by decide +kernel) ⟨Nat.le_of_ble_eq_true rfl, Nat.le_of_ble_eq_true rfl⟩) (gq_preV hH hK hN (va_recv hK (gq_one (c := 6) (k := k9) hH (Nat.le_of_lt (ok_Bk_inBook hc6)) (gk_c6 cI cT ad u26 k9)) (ci := 2) (q0 := 0) rfl rfl)) rfl rfl hl.1 rfl (lv_room (Nat.le_of_ble_eq_true rfl)) gd_Bk_sharedIn_79 ⟨Nat.zero_le _, Nat.zero_le _⟩) hA hS (fun H locs hH hS => ?_)
        cases hf
        exact W.iret hx hb hr (fun t ht hW => ⟨⟨_, _, rfl, ⟨rfl, rfl⟩, ⟨by rw [ht]; exact hH, va_K.moved hW.alike hK⟩⟩, hS.F ht⟩) hS.2.2 gd_Bk_sharedIn_82
      · replace hf := gj_e c30 hf
        refine lv_iconst (v := 0) hx hb gd_Bk_sharedIn_68 (by decide) ?_
        cases hf
        exact W.iret hx hb hr (fun t ht hW => ⟨⟨_, _, rfl, ⟨rfl, rfl⟩, ⟨by rw [ht]; exact hH, va_K.moved hW.alike hK⟩⟩, hS.F ht⟩) hS.2.2 gd_Bk_sharedIn_69
set_option maxHeartbeats 4000000 in
set_option maxRecDepth 100000 in
theorem ct_Bk_costOf (l : Launch) (D : va_G) (cI cT : ClassId) (ad : Nat → Nat → Nat) (hI : gq_I gk_vd ad) (u : gk_St) (p1 : Int32) (z : Int32 × gk_St) (hf : fn_Bk_costOf p1 u = some z) : Met l gy_Bk_costOf gws_Bk_costOf ({ frames := 4, cells := 0, slots := 0, locals := 89 }) (va_Pc [.ref (ad 0 0), .int p1] (gq_pre D gc_cl (gk_tys cI cT) gk_vd ad gk_NF gk_NM (gk_pc cI cT ad u))) (va_Qi (fun r u2 => r = z.1 ∧ u2 = z.2) (fun u2 t => gq_B D gc_cl (gk_tys cI cT) gk_vd ad (gk_pc cI cT ad u2) t) (gq_A gk_vd ad)) 0 0 (gq_A gk_vd ad) := by
  refine Met.ofW (cc := gb_Bk_costOf) (maxL := 8) (ret := (some .int)) (by decide) rfl ?_
  intro p e s m args below meth c s₁ B hml hv
  obtain ⟨rfl, hH, hK, hN⟩ := hv
  have hx := B.exec
  have hb := B.bytes
  have hr := B.returns
  have hts := atoms_spec (ws := gws_Bk_costOf) B.pre
  have ht := fun (w : Cond) (h : w ∈ gt_T) => hts w (List.mem_cons_of_mem _ h)
  have hown : s.vm.findClass gR_Bk = some m.cls := findClass_of_methodNamed B.named
  have hlocks := B.notSynchronized
  have hA : ∀ q, (gq_A gk_vd ad) q → (gq_A gk_vd ad) q := fun _ h => h
  have hS : va_S (gq_A gk_vd ad) s.heap s.heap [] := va_S.rf
  have hl := lv_entry ([.ref (ad 0 0), .int p1]) (n := 8) (Nat.le_of_ble_eq_true rfl)
  rw [lg_entry_eq]
  generalize (lg_sl ([.ref (ad 0 0), .int p1]) ++ List.replicate (8 - (lg_sl ([.ref (ad 0 0), .int p1])).length) Slot.unset).toArray = ls at hl ⊢
  have hl : lv_has ls 8 [(0, .ref (ad 0 0)), (1, .int p1)] := hl
  have L33 : ∀ (n : Nat) (x1 : Int32) (x2 : Int32) (x3 : Int32) (x4 : Int32) (x5 : Int32) (x6 : Int32) (u : gk_St) (H : Heap) (locs : List Loc) (ls : Array Slot), fn_Bk_costOf_33 n x1 x2 x3 x4 x5 x6 u = some z → gq_H D gc_cl gk_vd ad (gk_pc cI cT ad u) H → va_S (gq_A gk_vd ad) s.heap H locs → lv_has ls 8 [(0, .ref (ad 0 0)), (1, .int x1), (2, .int x2), (3, .int x3), (4, .int x4), (5, .int x5), (6, .int x6)] → W p l e (headSpec gws_Bk_costOf ({ frames := 4, cells := 0, slots := 0, locals := 89 })).room s m ([.ref (ad 0 0), .int p1] : List Value).toArray below meth c H locs 0 0 (MQ below (va_Qi (fun r u2 => r = z.1 ∧ u2 = z.2) (fun u2 t => gq_B D gc_cl (gk_tys cI cT) gk_vd ad (gk_pc cI cT ad u2) t) (gq_A gk_vd ad)) ([.ref (ad 0 0), .int p1] : List Value).toArray s 0 0 (gq_A gk_vd ad)) (F0 m 33 ls []) := by
    intro n
    induction n with
    | zero =>
      intro x1 x2 x3 x4 x5 x6 u H locs ls hf
      have h0 : none = some z := hf
      cases h0
    | succ n ih =>
      intro x1 x2 x3 x4 x5 x6 u H locs ls hf hH hS hl
      rw [fn_Bk_costOf_33] at hf
      refine lv_iload hx hb gd_Bk_costOf_33 (lv_at hl 6 rfl) ?_
      refine lv_iload hx hb gd_Bk_costOf_35 (lv_at hl 4 rfl) ?_
      refine lv_icmp_ge (tgt := 81) hx hb gd_Bk_costOf_37 (by decide) (fun c14 => ?_) (fun c14 => ?_)
      · replace hf := gj_t c14 hf
        refine lv_iload hx hb gd_Bk_costOf_81 (lv_at hl 5 rfl) ?_
        cases hf
        exact W.iret hx hb hr (fun t ht hW => ⟨⟨_, _, rfl, ⟨rfl, rfl⟩, ⟨by rw [ht]; exact hH, va_K.moved hW.alike hK⟩⟩, hS.F ht⟩) hS.2.2 gd_Bk_costOf_83
      · replace hf := gj_e c14 hf
        refine lv_aload_n hx hb gd_Bk_costOf_40 rfl (lv_at hl 0 rfl) ?_
        refine lv_aload_n hx hb gd_Bk_costOf_41 rfl (lv_at hl 0 rfl) ?_
        refine va_get (D := D) (ci := 0) (C := gR_Bk) (T := gT_Bk) (N := 5) hx hb hts (fun w h => List.mem_cons_of_mem _ (gl_Bk w h)) hown hK (gq_one (c := 0) (k := 0) hH rfl (gk_c0 cI cT ad u)) 0 rfl rfl 2 (by decide) (ht _ gt_87) (fun _ h9 => h9) rfl gd_Bk_costOf_42 ?_
        refine lv_iload hx hb gd_Bk_costOf_45 (lv_at hl 6 rfl) ?_
        obtain ⟨z7, hc8, hf⟩ := Option.bind_eq_some_iff.mp hf
        refine gq_calli (va_runV (As := [.int x6]) (rest := [.ref (ad 0 0)]) ⟨hx, hb, hml, hown, hts⟩ (ct_Lv_numberAt l D cI cT ad hI u x6 z7 hc8) (cwV 1 hts (gt_V gt_139 gt_140 gt_141 gt_4 gt_142) rfl rfl rfl (by decide +kernel) ⟨Nat.le_of_ble_eq_true rfl, Nat.le_of_ble_eq_true rfl⟩) (gq_preV hH hK hN (va_recv hK (gq_one (c := 2) (k := 0) hH rfl (gk_c2 cI cT ad u)) (ci := 1) (q0 := 0) rfl rfl)) rfl rfl hl.1 rfl (lv_room (Nat.le_of_ble_eq_true rfl)) gd_Bk_costOf_47 ⟨Nat.zero_le _, Nat.zero_le _⟩) hA hS (fun H locs hH hS => ?_)
        obtain ⟨⟨o11, u12⟩, hc10, hf⟩ := Option.bind_eq_some_iff.mp hf
        refine gq_calle (va_runV (As := [.int z7.1]) (rest := []) ⟨hx, hb, hml, hown, hts⟩ (ct_Bk_inBook l D cI cT ad hI z7.2 z7.1 (o11, u12) hc10) (cwV 1 hts (gt_V gt_147 gt_149 (gt_sel (List.mem_of_getElem? (i := 3) rfl)) gt_1 gt_150) rfl rfl rfl (by decide +kernel) ⟨Nat.le_of_ble_eq_true rfl, Nat.le_of_ble_eq_true rfl⟩) (gq_preV hH hK hN (va_recv hK (gq_one (c := 0) (k := 0) hH rfl (gk_c0 cI cT ad z7.2)) (ci := 0) (q0 := 0) rfl rfl)) rfl rfl hl.1 rfl (lv_room (Nat.le_of_ble_eq_true rfl)) gd_Bk_costOf_50 ⟨Nat.zero_le _, Nat.zero_le _⟩) hA hS (fun H locs hH hS => ?_)
        cases o11 with
        | none =>
          have hH : gq_H D gc_cl gk_vd ad (gk_pc cI cT ad u12) H := hH
          refine W.eq (g2 := F0 m 53 ls [.null]) rfl ?_
          dsimp only at hf
          refine lv_astoreN (lv' := [(7, .null), (0, .ref (ad 0 0)), (1, .int x1), (2, .int x2), (3, .int x3), (4, .int x4), (5, .int x5), (6, .int x6)]) hx hb gd_Bk_costOf_53 hl (by decide) rfl (fun ls hl => ?_)
          refine lv_aloadN hx hb gd_Bk_costOf_55 (lv_at hl 0 rfl) ?_
          refine lv_ifnullN (tgt := 75) hx hb gd_Bk_costOf_57 (by decide) ?_
          refine lv_iinc (v := x6 + 1) (lv' := [(6, .int (x6 + 1)), (7, .null), (0, .ref (ad 0 0)), (1, .int x1), (2, .int x2), (3, .int x3), (4, .int x4), (5, .int x5)]) hx hb gd_Bk_costOf_75 hl (k := 7) rfl rfl (by decide) rfl (fun ls hl => ?_)
          refine lv_goto (tgt := 33) hx hb gd_Bk_costOf_78 (by decide) ?_
          exact ih x1 x2 x3 x4 x5 (x6 + 1) u12 _ _ _ hf hH hS (lv_sub hl [2, 3, 4, 5, 6, 7, 0] rfl)
        | some k13 =>
          have hH : gq_H D gc_cl gk_vd ad (gk_pc cI cT ad u12) H := hH
          refine W.eq (g2 := F0 m 53 ls [.ref (ad 7 k13)]) rfl ?_
          dsimp only at hf
          refine lv_astore (lv' := [(7, .ref (ad 7 k13)), (0, .ref (ad 0 0)), (1, .int x1), (2, .int x2), (3, .int x3), (4, .int x4), (5, .int x5), (6, .int x6)]) hx hb gd_Bk_costOf_53 hl (by decide) rfl (fun ls hl => ?_)
          refine lv_aload hx hb gd_Bk_costOf_55 (lv_at hl 0 rfl) ?_
          refine lv_ifnull hx hb gd_Bk_costOf_57 ?_
          refine lv_iload hx hb gd_Bk_costOf_60 (lv_at hl 6 rfl) ?_
          refine lv_aload hx hb gd_Bk_costOf_62 (lv_at hl 0 rfl) ?_
          refine va_getN (D := D) (ci := 3) (C := gR_Tm) (T := gT_Tm) (N := 5) hx hb hts (fun w h => List.mem_cons_of_mem _ (gl_Tm w h)) hown hK (gq_one (c := 7) (k := k13) hH (ok_Bk_inBook hc10) (gk_c7 cI cT ad u12 k13)) 0 rfl rfl 0 (by decide) (va_Nw.use rfl (hN.1 _ (List.mem_of_getElem? (i := 1) rfl))) (fun _ h9 => h9) rfl gd_Bk_costOf_64 ?_
          refine va_getN (D := D) (ci := 2) (C := gR_Tx) (T := gT_Tx) (N := 3) hx hb hts (fun w h => List.mem_cons_of_mem _ (gl_Tx w h)) hown hK (gq_one (c := 6) (k := k13) hH (Nat.le_of_lt (ok_Bk_inBook hc10)) (gk_c6 cI cT ad u12 k13)) 0 rfl rfl 2 (by decide) (va_Nw.use rfl (hN.1 _ (List.mem_of_getElem? (i := 0) rfl))) (fun _ h9 => h9) rfl gd_Bk_costOf_67 ?_
          refine lv_iload_n hx hb gd_Bk_costOf_70 rfl (lv_at hl 3 rfl) ?_
          refine lv_isub hx hb gd_Bk_costOf_71 ?_
          refine lv_iadd hx hb gd_Bk_costOf_72 ?_
          refine lv_istore (lv' := [(5, .int (x5 + ((u12.1 0 k13) - x2))), (7, .ref (ad 7 k13)), (0, .ref (ad 0 0)), (1, .int x1), (2, .int x2), (3, .int x3), (4, .int x4), (6, .int x6)]) hx hb gd_Bk_costOf_73 hl (by decide) rfl (fun ls hl => ?_)
          refine lv_iinc (v := x6 + 1) (lv' := [(6, .int (x6 + 1)), (5, .int (x5 + ((u12.1 0 k13) - x2))), (7, .ref (ad 7 k13)), (0, .ref (ad 0 0)), (1, .int x1), (2, .int x2), (3, .int x3), (4, .int x4)]) hx hb gd_Bk_costOf_75 hl (k := 7) rfl rfl (by decide) rfl (fun ls hl => ?_)
          refine lv_goto (tgt := 33) hx hb gd_Bk_costOf_78 (by decide) ?_
          exact ih x1 x2 x3 x4 (x5 + ((u12.1 0 k13) - x2)) (x6 + 1) u12 _ _ _ hf hH hS (lv_sub hl [3, 4, 5, 6, 7, 1, 0] rfl)
  unfold fn_Bk_costOf at hf
  refine lv_aload_n hx hb gd_Bk_costOf_0 rfl (lv_at hl 0 rfl) ?_
  refine lv_iload_n hx hb gd_Bk_costOf_1 rfl (lv_at hl 1 rfl) ?_
  obtain ⟨z1, hc2, hf⟩ := Option.bind_eq_some_iff.mp hf
  refine gq_calli (va_runV (As := [.int p1]) (rest := []) ⟨hx, hb, hml, hown, hts⟩ (ct_Bk_sharedIn l D cI cT ad hI u p1 z1 hc2) (cwV 1 hts (gt_V gt_334 gt_336 (gt_sel (List.mem_of_getElem? (i := 18) rfl)) gt_1 gt_337) rfl rfl rfl (by decide +kernel) ⟨Nat.le_of_ble_eq_true rfl, Nat.le_of_ble_eq_true rfl⟩) (gq_preV hH hK hN (va_recv hK (gq_one (c := 0) (k := 0) hH rfl (gk_c0 cI cT ad u)) (ci := 0) (q0 := 0) rfl rfl)) rfl rfl hl.1 rfl (lv_room (Nat.le_of_ble_eq_true rfl)) gd_Bk_costOf_2 ⟨Nat.zero_le _, Nat.zero_le _⟩) hA hS (fun H locs hH hS => ?_)
  refine lv_istore_n (lv' := [(2, .int z1.1), (0, .ref (ad 0 0)), (1, .int p1)]) hx hb gd_Bk_costOf_5 rfl hl (by decide) rfl (fun ls hl => ?_)
  refine lv_aload_n hx hb gd_Bk_costOf_6 rfl (lv_at hl 1 rfl) ?_
  refine va_get (D := D) (ci := 0) (C := gR_Bk) (T := gT_Bk) (N := 5) hx hb hts (fun w h => List.mem_cons_of_mem _ (gl_Bk w h)) hown hK (gq_one (c := 0) (k := 0) hH rfl (gk_c0 cI cT ad z1.2)) 0 rfl rfl 2 (by decide) (ht _ gt_87) (fun _ h9 => h9) rfl gd_Bk_costOf_7 ?_
  refine lv_iload_n hx hb gd_Bk_costOf_10 rfl (lv_at hl 2 rfl) ?_
  obtain ⟨z3, hc4, hf⟩ := Option.bind_eq_some_iff.mp hf
  refine gq_calli (va_runV (As := [.int p1]) (rest := []) ⟨hx, hb, hml, hown, hts⟩ (ct_Lv_startOf l D cI cT ad hI z1.2 p1 z3 hc4) (cwV 1 hts (gt_V gt_338 gt_339 gt_340 gt_4 gt_341) rfl rfl rfl (by decide +kernel) ⟨Nat.le_of_ble_eq_true rfl, Nat.le_of_ble_eq_true rfl⟩) (gq_preV hH hK hN (va_recv hK (gq_one (c := 2) (k := 0) hH rfl (gk_c2 cI cT ad z1.2)) (ci := 1) (q0 := 0) rfl rfl)) rfl rfl hl.1 rfl (lv_room (Nat.le_of_ble_eq_true rfl)) gd_Bk_costOf_11 ⟨Nat.zero_le _, Nat.zero_le _⟩) hA hS (fun H locs hH hS => ?_)
  refine lv_istore_n (lv' := [(3, .int z3.1), (2, .int z1.1), (0, .ref (ad 0 0)), (1, .int p1)]) hx hb gd_Bk_costOf_14 rfl hl (by decide) rfl (fun ls hl => ?_)
  refine lv_iload_n hx hb gd_Bk_costOf_15 rfl (lv_at hl 0 rfl) ?_
  refine lv_aload_n hx hb gd_Bk_costOf_16 rfl (lv_at hl 2 rfl) ?_
  refine va_get (D := D) (ci := 0) (C := gR_Bk) (T := gT_Bk) (N := 5) hx hb hts (fun w h => List.mem_cons_of_mem _ (gl_Bk w h)) hown hK (gq_one (c := 0) (k := 0) hH rfl (gk_c0 cI cT ad z3.2)) 0 rfl rfl 2 (by decide) (ht _ gt_87) (fun _ h9 => h9) rfl gd_Bk_costOf_17 ?_
  refine lv_iload_n hx hb gd_Bk_costOf_20 rfl (lv_at hl 3 rfl) ?_
  obtain ⟨z5, hc6, hf⟩ := Option.bind_eq_some_iff.mp hf
  refine gq_calli (va_runV (As := [.int p1]) (rest := [.int z3.1]) ⟨hx, hb, hml, hown, hts⟩ (ct_Lv_sizeOf l D cI cT ad hI z3.2 p1 z5 hc6) (cwV 1 hts (gt_V gt_333 gt_194 gt_195 gt_4 gt_196) rfl rfl rfl (by decide +kernel) ⟨Nat.le_of_ble_eq_true rfl, Nat.le_of_ble_eq_true rfl⟩) (gq_preV hH hK hN (va_recv hK (gq_one (c := 2) (k := 0) hH rfl (gk_c2 cI cT ad z3.2)) (ci := 1) (q0 := 0) rfl rfl)) rfl rfl hl.1 rfl (lv_room (Nat.le_of_ble_eq_true rfl)) gd_Bk_costOf_21 ⟨Nat.zero_le _, Nat.zero_le _⟩) hA hS (fun H locs hH hS => ?_)
  refine lv_iadd hx hb gd_Bk_costOf_24 ?_
  refine lv_istore (lv' := [(4, .int (z3.1 + z5.1)), (3, .int z3.1), (2, .int z1.1), (0, .ref (ad 0 0)), (1, .int p1)]) hx hb gd_Bk_costOf_25 hl (by decide) rfl (fun ls hl => ?_)
  refine lv_iload_n hx hb gd_Bk_costOf_27 rfl (lv_at hl 2 rfl) ?_
  refine lv_istore (lv' := [(5, .int z1.1), (4, .int (z3.1 + z5.1)), (3, .int z3.1), (2, .int z1.1), (0, .ref (ad 0 0)), (1, .int p1)]) hx hb gd_Bk_costOf_28 hl (by decide) rfl (fun ls hl => ?_)
  refine lv_iload_n hx hb gd_Bk_costOf_30 rfl (lv_at hl 2 rfl) ?_
  refine lv_istore (lv' := [(6, .int z3.1), (5, .int z1.1), (4, .int (z3.1 + z5.1)), (3, .int z3.1), (2, .int z1.1), (0, .ref (ad 0 0)), (1, .int p1)]) hx hb gd_Bk_costOf_31 hl (by decide) rfl (fun ls hl => ?_)
  exact L33 gk_fu p1 z1.1 z3.1 (z3.1 + z5.1) z1.1 z3.1 z5.2 _ _ _ hf hH hS (lv_sub hl [5, 6, 4, 3, 2, 1, 0] rfl)
set_option maxHeartbeats 4000000 in
set_option maxRecDepth 100000 in
theorem ct_Bk_leaf (l : Launch) (D : va_G) (cI cT : ClassId) (ad : Nat → Nat → Nat) (hI : gq_I gk_vd ad) (u : gk_St) (p1 : Int32) (p2 : Int32) (z : Int32 × gk_St) (hf : fn_Bk_leaf p1 p2 u = some z) : Met l gy_Bk_leaf gws_Bk_leaf ({ frames := 5, cells := 0, slots := 0, locals := 116 }) (va_Pc [.ref (ad 0 0), .int p1, .int p2] (gq_pre D gc_cl (gk_tys cI cT) gk_vd ad gk_NF gk_NM (gk_pc cI cT ad u))) (va_Qi (fun r u2 => r = z.1 ∧ u2 = z.2) (fun u2 t => gq_B D gc_cl (gk_tys cI cT) gk_vd ad (gk_pc cI cT ad u2) t) (gq_A gk_vd ad)) 0 0 (gq_A gk_vd ad) := by
  refine Met.ofW (cc := gb_Bk_leaf) (maxL := 3) (ret := (some .int)) (by decide) rfl ?_
  intro p e s m args below meth c s₁ B hml hv
  obtain ⟨rfl, hH, hK, hN⟩ := hv
  have hx := B.exec
  have hb := B.bytes
  have hr := B.returns
  have hts := atoms_spec (ws := gws_Bk_leaf) B.pre
  have ht := fun (w : Cond) (h : w ∈ gt_T) => hts w (List.mem_cons_of_mem _ h)
  have hown : s.vm.findClass gR_Bk = some m.cls := findClass_of_methodNamed B.named
  have hlocks := B.notSynchronized
  have hA : ∀ q, (gq_A gk_vd ad) q → (gq_A gk_vd ad) q := fun _ h => h
  have hS : va_S (gq_A gk_vd ad) s.heap s.heap [] := va_S.rf
  have hl := lv_entry ([.ref (ad 0 0), .int p1, .int p2]) (n := 3) (Nat.le_of_ble_eq_true rfl)
  rw [lg_entry_eq]
  generalize (lg_sl ([.ref (ad 0 0), .int p1, .int p2]) ++ List.replicate (3 - (lg_sl ([.ref (ad 0 0), .int p1, .int p2])).length) Slot.unset).toArray = ls at hl ⊢
  have hl : lv_has ls 3 [(0, .ref (ad 0 0)), (1, .int p1), (2, .int p2)] := hl
  unfold fn_Bk_leaf at hf
  refine lv_iload_n hx hb gd_Bk_leaf_0 rfl (lv_at hl 1 rfl) ?_
  refine lv_if_lt (tgt := 15) hx hb gd_Bk_leaf_1 (by decide) (fun c16 => ?_) (fun c16 => ?_)
  · replace hf := gj_t c16 hf
    refine lv_iconst (v := (-1)) hx hb gd_Bk_leaf_15 (by decide) ?_
    cases hf
    exact W.iret hx hb hr (fun t ht hW => ⟨⟨_, _, rfl, ⟨rfl, rfl⟩, ⟨by rw [ht]; exact hH, va_K.moved hW.alike hK⟩⟩, hS.F ht⟩) hS.2.2 gd_Bk_leaf_16
  · replace hf := gj_e c16 hf
    refine lv_iload_n hx hb gd_Bk_leaf_4 rfl (lv_at hl 1 rfl) ?_
    refine lv_aload_n hx hb gd_Bk_leaf_5 rfl (lv_at hl 0 rfl) ?_
    refine va_get (D := D) (ci := 0) (C := gR_Bk) (T := gT_Bk) (N := 5) hx hb hts (fun w h => List.mem_cons_of_mem _ (gl_Bk w h)) hown hK (gq_one (c := 0) (k := 0) hH rfl (gk_c0 cI cT ad u)) 0 rfl rfl 2 (by decide) (ht _ gt_87) (fun _ h9 => h9) rfl gd_Bk_leaf_6 ?_
    refine va_getN (D := D) (ci := 1) (C := gR_Lv) (T := gT_Lv) (N := 4) hx hb hts (fun w h => List.mem_cons_of_mem _ (gl_Lv w h)) hown hK (gq_one (c := 2) (k := 0) hH rfl (gk_c2 cI cT ad u)) 0 rfl rfl 3 (by decide) (va_Nw.use rfl (hN.1 _ (List.mem_of_getElem? (i := 6) rfl))) (fun _ h9 => h9) rfl gd_Bk_leaf_9 ?_
    refine lv_icmp_lt (tgt := 17) hx hb gd_Bk_leaf_12 (by decide) (fun c15 => ?_) (fun c15 => ?_)
    · replace hf := gj_t c15 hf
      refine lv_iload_n hx hb gd_Bk_leaf_17 rfl (lv_at hl 2 rfl) ?_
      by_cases c3 : p2 = 0
      · replace hf := gj_t c3 hf
        refine gj_tab (tgt := 48) (k := 0) hx hb c3 gd_Bk_leaf_18 (by decide) (by decide) rfl (by decide) ?_
        refine lv_aload_n hx hb gd_Bk_leaf_48 rfl (lv_at hl 0 rfl) ?_
        refine va_get (D := D) (ci := 0) (C := gR_Bk) (T := gT_Bk) (N := 5) hx hb hts (fun w h => List.mem_cons_of_mem _ (gl_Bk w h)) hown hK (gq_one (c := 0) (k := 0) hH rfl (gk_c0 cI cT ad u)) 0 rfl rfl 2 (by decide) (ht _ gt_87) (fun _ h9 => h9) rfl gd_Bk_leaf_49 ?_
        refine lv_iload_n hx hb gd_Bk_leaf_52 rfl (lv_at hl 1 rfl) ?_
        obtain ⟨z1, hc2, hf⟩ := Option.bind_eq_some_iff.mp hf
        refine gq_calli (va_runV (As := [.int p1]) (rest := []) ⟨hx, hb, hml, hown, hts⟩ (ct_Lv_sizeOf l D cI cT ad hI u p1 z1 hc2) (cwV 1 hts (gt_V gt_333 gt_194 gt_195 gt_4 gt_196) rfl rfl rfl (by decide +kernel) ⟨Nat.le_of_ble_eq_true rfl, Nat.le_of_ble_eq_true rfl⟩) (gq_preV hH hK hN (va_recv hK (gq_one (c := 2) (k := 0) hH rfl (gk_c2 cI cT ad u)) (ci := 1) (q0 := 0) rfl rfl)) rfl rfl hl.1 rfl (lv_room (Nat.le_of_ble_eq_true rfl)) gd_Bk_leaf_53 ⟨Nat.zero_le _, Nat.zero_le _⟩) hA hS (fun H locs hH hS => ?_)
        cases hf
        exact W.iret hx hb hr (fun t ht hW => ⟨⟨_, _, rfl, ⟨rfl, rfl⟩, ⟨by rw [ht]; exact hH, va_K.moved hW.alike hK⟩⟩, hS.F ht⟩) hS.2.2 gd_Bk_leaf_56
      replace hf := gj_e c3 hf
      by_cases c6 : p2 = 1
      · replace hf := gj_t c6 hf
        refine gj_tab (tgt := 57) (k := 1) hx hb c6 gd_Bk_leaf_18 (by decide) (by decide) rfl (by decide) ?_
        refine lv_aload_n hx hb gd_Bk_leaf_57 rfl (lv_at hl 0 rfl) ?_
        refine lv_iload_n hx hb gd_Bk_leaf_58 rfl (lv_at hl 1 rfl) ?_
        obtain ⟨z4, hc5, hf⟩ := Option.bind_eq_some_iff.mp hf
        refine gq_calli (va_runV (As := [.int p1]) (rest := []) ⟨hx, hb, hml, hown, hts⟩ (ct_Bk_sharedIn l D cI cT ad hI u p1 z4 hc5) (cwV 1 hts (gt_V gt_334 gt_336 (gt_sel (List.mem_of_getElem? (i := 18) rfl)) gt_1 gt_337) rfl rfl rfl (by decide +kernel) ⟨Nat.le_of_ble_eq_true rfl, Nat.le_of_ble_eq_true rfl⟩) (gq_preV hH hK hN (va_recv hK (gq_one (c := 0) (k := 0) hH rfl (gk_c0 cI cT ad u)) (ci := 0) (q0 := 0) rfl rfl)) rfl rfl hl.1 rfl (lv_room (Nat.le_of_ble_eq_true rfl)) gd_Bk_leaf_59 ⟨Nat.zero_le _, Nat.zero_le _⟩) hA hS (fun H locs hH hS => ?_)
        cases hf
        exact W.iret hx hb hr (fun t ht hW => ⟨⟨_, _, rfl, ⟨rfl, rfl⟩, ⟨by rw [ht]; exact hH, va_K.moved hW.alike hK⟩⟩, hS.F ht⟩) hS.2.2 gd_Bk_leaf_62
      replace hf := gj_e c6 hf
      by_cases c9 : p2 = 2
      · replace hf := gj_t c9 hf
        refine gj_tab (tgt := 63) (k := 2) hx hb c9 gd_Bk_leaf_18 (by decide) (by decide) rfl (by decide) ?_
        refine lv_aload_n hx hb gd_Bk_leaf_63 rfl (lv_at hl 0 rfl) ?_
        refine lv_iload_n hx hb gd_Bk_leaf_64 rfl (lv_at hl 1 rfl) ?_
        obtain ⟨z7, hc8, hf⟩ := Option.bind_eq_some_iff.mp hf
        refine gq_calli (va_runV (As := [.int p1]) (rest := []) ⟨hx, hb, hml, hown, hts⟩ (ct_Bk_costOf l D cI cT ad hI u p1 z7 hc8) (cwV 1 hts (gt_V gt_343 gt_345 (gt_sel (List.mem_of_getElem? (i := 19) rfl)) gt_1 gt_346) rfl rfl rfl (by decide +kernel) ⟨Nat.le_of_ble_eq_true rfl, Nat.le_of_ble_eq_true rfl⟩) (gq_preV hH hK hN (va_recv hK (gq_one (c := 0) (k := 0) hH rfl (gk_c0 cI cT ad u)) (ci := 0) (q0 := 0) rfl rfl)) rfl rfl hl.1 rfl (lv_room (Nat.le_of_ble_eq_true rfl)) gd_Bk_leaf_65 ⟨Nat.zero_le _, Nat.zero_le _⟩) hA hS (fun H locs hH hS => ?_)
        cases hf
        exact W.iret hx hb hr (fun t ht hW => ⟨⟨_, _, rfl, ⟨rfl, rfl⟩, ⟨by rw [ht]; exact hH, va_K.moved hW.alike hK⟩⟩, hS.F ht⟩) hS.2.2 gd_Bk_leaf_68
      replace hf := gj_e c9 hf
      by_cases c14 : p2 = 3
      · replace hf := gj_t c14 hf
        refine gj_tab (tgt := 69) (k := 3) hx hb c14 gd_Bk_leaf_18 (by decide) (by decide) rfl (by decide) ?_
        refine lv_aload_n hx hb gd_Bk_leaf_69 rfl (lv_at hl 0 rfl) ?_
        refine va_get (D := D) (ci := 0) (C := gR_Bk) (T := gT_Bk) (N := 5) hx hb hts (fun w h => List.mem_cons_of_mem _ (gl_Bk w h)) hown hK (gq_one (c := 0) (k := 0) hH rfl (gk_c0 cI cT ad u)) 0 rfl rfl 2 (by decide) (ht _ gt_87) (fun _ h9 => h9) rfl gd_Bk_leaf_70 ?_
        refine lv_aload_n hx hb gd_Bk_leaf_73 rfl (lv_at hl 0 rfl) ?_
        refine va_get (D := D) (ci := 0) (C := gR_Bk) (T := gT_Bk) (N := 5) hx hb hts (fun w h => List.mem_cons_of_mem _ (gl_Bk w h)) hown hK (gq_one (c := 0) (k := 0) hH rfl (gk_c0 cI cT ad u)) 0 rfl rfl 2 (by decide) (ht _ gt_87) (fun _ h9 => h9) rfl gd_Bk_leaf_74 ?_
        refine lv_iload_n hx hb gd_Bk_leaf_77 rfl (lv_at hl 1 rfl) ?_
        obtain ⟨z10, hc11, hf⟩ := Option.bind_eq_some_iff.mp hf
        refine gq_calli (va_runV (As := [.int p1]) (rest := [.ref (ad 2 0)]) ⟨hx, hb, hml, hown, hts⟩ (ct_Lv_startOf l D cI cT ad hI u p1 z10 hc11) (cwV 1 hts (gt_V gt_338 gt_339 gt_340 gt_4 gt_341) rfl rfl rfl (by decide +kernel) ⟨Nat.le_of_ble_eq_true rfl, Nat.le_of_ble_eq_true rfl⟩) (gq_preV hH hK hN (va_recv hK (gq_one (c := 2) (k := 0) hH rfl (gk_c2 cI cT ad u)) (ci := 1) (q0 := 0) rfl rfl)) rfl rfl hl.1 rfl (lv_room (Nat.le_of_ble_eq_true rfl)) gd_Bk_leaf_78 ⟨Nat.zero_le _, Nat.zero_le _⟩) hA hS (fun H locs hH hS => ?_)
        obtain ⟨z12, hc13, hf⟩ := Option.bind_eq_some_iff.mp hf
        refine gq_calli (va_runV (As := [.int z10.1]) (rest := []) ⟨hx, hb, hml, hown, hts⟩ (ct_Lv_numberAt l D cI cT ad hI z10.2 z10.1 z12 hc13) (cwV 1 hts (gt_V gt_139 gt_140 gt_141 gt_4 gt_142) rfl rfl rfl (by decide +kernel) ⟨Nat.le_of_ble_eq_true rfl, Nat.le_of_ble_eq_true rfl⟩) (gq_preV hH hK hN (va_recv hK (gq_one (c := 2) (k := 0) hH rfl (gk_c2 cI cT ad z10.2)) (ci := 1) (q0 := 0) rfl rfl)) rfl rfl hl.1 rfl (lv_room (Nat.le_of_ble_eq_true rfl)) gd_Bk_leaf_81 ⟨Nat.zero_le _, Nat.zero_le _⟩) hA hS (fun H locs hH hS => ?_)
        cases hf
        exact W.iret hx hb hr (fun t ht hW => ⟨⟨_, _, rfl, ⟨rfl, rfl⟩, ⟨by rw [ht]; exact hH, va_K.moved hW.alike hK⟩⟩, hS.F ht⟩) hS.2.2 gd_Bk_leaf_84
      replace hf := gj_e c14 hf
      refine lv_tableOut (tgt := 85) hx hb gd_Bk_leaf_18 (by have ec3 := lv_neT (a := 0) c3 rfl; have ec6 := lv_neT (a := 1) c6 rfl; have ec9 := lv_neT (a := 2) c9 rfl; have ec14 := lv_neT (a := 3) c14 rfl; omega) (by decide) ?_
      refine lv_iconst (v := (-1)) hx hb gd_Bk_leaf_85 (by decide) ?_
      cases hf
      exact W.iret hx hb hr (fun t ht hW => ⟨⟨_, _, rfl, ⟨rfl, rfl⟩, ⟨by rw [ht]; exact hH, va_K.moved hW.alike hK⟩⟩, hS.F ht⟩) hS.2.2 gd_Bk_leaf_86
    · replace hf := gj_e c15 hf
      refine lv_iconst (v := (-1)) hx hb gd_Bk_leaf_15 (by decide) ?_
      cases hf
      exact W.iret hx hb hr (fun t ht hW => ⟨⟨_, _, rfl, ⟨rfl, rfl⟩, ⟨by rw [ht]; exact hH, va_K.moved hW.alike hK⟩⟩, hS.F ht⟩) hS.2.2 gd_Bk_leaf_16
set_option maxHeartbeats 4000000 in
set_option maxRecDepth 100000 in
theorem ct_Bk_countKeptVersions (l : Launch) (D : va_G) (cI cT : ClassId) (ad : Nat → Nat → Nat) (hI : gq_I gk_vd ad) (u : gk_St)  (z : Int32 × gk_St) (hf : fn_Bk_countKeptVersions u = some z) : Met l gy_Bk_countKeptVersions gws_Bk_countKeptVersions ({ frames := 0, cells := 0, slots := 0, locals := 0 }) (va_Pc [.ref (ad 0 0)] (gq_pre D gc_cl (gk_tys cI cT) gk_vd ad gk_NF gk_NM (gk_pc cI cT ad u))) (va_Qi (fun r u2 => r = z.1 ∧ u2 = z.2) (fun u2 t => gq_B D gc_cl (gk_tys cI cT) gk_vd ad (gk_pc cI cT ad u2) t) (gq_A gk_vd ad)) 0 0 (gq_A gk_vd ad) := by
  refine Met.ofW (cc := gb_Bk_countKeptVersions) (maxL := 3) (ret := (some .int)) (by decide) rfl ?_
  intro p e s m args below meth c s₁ B hml hv
  obtain ⟨rfl, hH, hK, hN⟩ := hv
  have hx := B.exec
  have hb := B.bytes
  have hr := B.returns
  have hts := atoms_spec (ws := gws_Bk_countKeptVersions) B.pre
  have ht := fun (w : Cond) (h : w ∈ gt_T) => hts w (List.mem_cons_of_mem _ h)
  have hown : s.vm.findClass gR_Bk = some m.cls := findClass_of_methodNamed B.named
  have hlocks := B.notSynchronized
  have hA : ∀ q, (gq_A gk_vd ad) q → (gq_A gk_vd ad) q := fun _ h => h
  have hS : va_S (gq_A gk_vd ad) s.heap s.heap [] := va_S.rf
  have hl := lv_entry ([.ref (ad 0 0)]) (n := 3) (Nat.le_of_ble_eq_true rfl)
  rw [lg_entry_eq]
  generalize (lg_sl ([.ref (ad 0 0)]) ++ List.replicate (3 - (lg_sl ([.ref (ad 0 0)])).length) Slot.unset).toArray = ls at hl ⊢
  have hl : lv_has ls 3 [(0, .ref (ad 0 0))] := hl
  have L4 : ∀ (n : Nat) (x1 : Int32) (x2 : Int32) (u : gk_St) (H : Heap) (locs : List Loc) (ls : Array Slot), fn_Bk_countKeptVersions_4 n x1 x2 u = some z → gq_H D gc_cl gk_vd ad (gk_pc cI cT ad u) H → va_S (gq_A gk_vd ad) s.heap H locs → lv_has ls 3 [(0, .ref (ad 0 0)), (1, .int x1), (2, .int x2)] → W p l e (headSpec gws_Bk_countKeptVersions ({ frames := 0, cells := 0, slots := 0, locals := 0 })).room s m ([.ref (ad 0 0)] : List Value).toArray below meth c H locs 0 0 (MQ below (va_Qi (fun r u2 => r = z.1 ∧ u2 = z.2) (fun u2 t => gq_B D gc_cl (gk_tys cI cT) gk_vd ad (gk_pc cI cT ad u2) t) (gq_A gk_vd ad)) ([.ref (ad 0 0)] : List Value).toArray s 0 0 (gq_A gk_vd ad)) (F0 m 4 ls []) := by
    intro n
    induction n with
    | zero =>
      intro x1 x2 u H locs ls hf
      have h0 : none = some z := hf
      cases h0
    | succ n ih =>
      intro x1 x2 u H locs ls hf hH hS hl
      rw [fn_Bk_countKeptVersions_4] at hf
      refine lv_iload_n hx hb gd_Bk_countKeptVersions_4 rfl (lv_at hl 2 rfl) ?_
      refine lv_aload_n hx hb gd_Bk_countKeptVersions_5 rfl (lv_at hl 0 rfl) ?_
      refine va_get (D := D) (ci := 0) (C := gR_Bk) (T := gT_Bk) (N := 5) hx hb hts (fun w h => List.mem_cons_of_mem _ (gl_Bk w h)) hown hK (gq_one (c := 0) (k := 0) hH rfl (gk_c0 cI cT ad u)) 0 rfl rfl 3 (by decide) (ht _ gt_88) (fun _ h9 => h9) rfl gd_Bk_countKeptVersions_6 ?_
      refine va_alen (D := D) (v := 6) hx hb hK (gq_one (c := 5) (k := 0) hH rfl (gk_c5 cI cT ad u)) 0 0 rfl rfl rfl gd_Bk_countKeptVersions_9 ?_
      refine lv_icmp_ge (tgt := 32) hx hb gd_Bk_countKeptVersions_10 (by decide) (fun c3 => ?_) (fun c3 => ?_)
      · replace hf := gj_t c3 hf
        refine lv_iload_n hx hb gd_Bk_countKeptVersions_32 rfl (lv_at hl 1 rfl) ?_
        cases hf
        exact W.iret hx hb hr (fun t ht hW => ⟨⟨_, _, rfl, ⟨rfl, rfl⟩, ⟨by rw [ht]; exact hH, va_K.moved hW.alike hK⟩⟩, hS.F ht⟩) hS.2.2 gd_Bk_countKeptVersions_33
      · replace hf := gj_e c3 hf
        refine lv_aload_n hx hb gd_Bk_countKeptVersions_13 rfl (lv_at hl 0 rfl) ?_
        refine va_get (D := D) (ci := 0) (C := gR_Bk) (T := gT_Bk) (N := 5) hx hb hts (fun w h => List.mem_cons_of_mem _ (gl_Bk w h)) hown hK (gq_one (c := 0) (k := 0) hH rfl (gk_c0 cI cT ad u)) 0 rfl rfl 3 (by decide) (ht _ gt_88) (fun _ h9 => h9) rfl gd_Bk_countKeptVersions_14 ?_
        refine lv_iload_n hx hb gd_Bk_countKeptVersions_17 rfl (lv_at hl 2 rfl) ?_
        obtain ⟨hg1, hf⟩ := gj_g hf
        refine va_iald (D := D) hx hb hK (gq_one (c := 5) (k := 0) hH rfl (gk_c5 cI cT ad u)) 0 0 rfl rfl hg1 gd_Bk_countKeptVersions_18 ?_
        refine lv_iconst (v := (-1)) hx hb gd_Bk_countKeptVersions_19 (by decide) ?_
        refine lv_icmp_eq (tgt := 26) hx hb gd_Bk_countKeptVersions_20 (by decide) (fun c2 => ?_) (fun c2 => ?_)
        · replace hf := gj_t c2 hf
          refine lv_iinc (v := x2 + 1) (lv' := [(2, .int (x2 + 1)), (0, .ref (ad 0 0)), (1, .int x1)]) hx hb gd_Bk_countKeptVersions_26 hl (k := 2) rfl rfl (by decide) rfl (fun ls hl => ?_)
          refine lv_goto (tgt := 4) hx hb gd_Bk_countKeptVersions_29 (by decide) ?_
          exact ih x1 (x2 + 1) u _ _ _ hf hH hS (lv_sub hl [1, 2, 0] rfl)
        · replace hf := gj_e c2 hf
          refine lv_iinc (v := x1 + 1) (lv' := [(1, .int (x1 + 1)), (0, .ref (ad 0 0)), (2, .int x2)]) hx hb gd_Bk_countKeptVersions_23 hl (k := 1) rfl rfl (by decide) rfl (fun ls hl => ?_)
          refine lv_iinc (v := x2 + 1) (lv' := [(2, .int (x2 + 1)), (1, .int (x1 + 1)), (0, .ref (ad 0 0))]) hx hb gd_Bk_countKeptVersions_26 hl (k := 2) rfl rfl (by decide) rfl (fun ls hl => ?_)
          refine lv_goto (tgt := 4) hx hb gd_Bk_countKeptVersions_29 (by decide) ?_
          exact ih (x1 + 1) (x2 + 1) u _ _ _ hf hH hS (lv_sub hl [2, 1, 0] rfl)
  unfold fn_Bk_countKeptVersions at hf
  refine lv_iconst (v := 0) hx hb gd_Bk_countKeptVersions_0 (by decide) ?_
  refine lv_istore_n (lv' := [(1, .int 0), (0, .ref (ad 0 0))]) hx hb gd_Bk_countKeptVersions_1 rfl hl (by decide) rfl (fun ls hl => ?_)
  refine lv_iconst (v := 0) hx hb gd_Bk_countKeptVersions_2 (by decide) ?_
  refine lv_istore_n (lv' := [(2, .int 0), (1, .int 0), (0, .ref (ad 0 0))]) hx hb gd_Bk_countKeptVersions_3 rfl hl (by decide) rfl (fun ls hl => ?_)
  exact L4 gk_fu 0 0 u _ _ _ hf hH hS (lv_sub hl [2, 1, 0] rfl)
set_option maxHeartbeats 4000000 in
set_option maxRecDepth 100000 in
theorem ct_Bk_countUnused (l : Launch) (D : va_G) (cI cT : ClassId) (ad : Nat → Nat → Nat) (hI : gq_I gk_vd ad) (u : gk_St)  (z : Int32 × gk_St) (hf : fn_Bk_countUnused u = some z) : Met l gy_Bk_countUnused gws_Bk_countUnused ({ frames := 1, cells := 0, slots := 0, locals := 22 }) (va_Pc [.ref (ad 0 0)] (gq_pre D gc_cl (gk_tys cI cT) gk_vd ad gk_NF gk_NM (gk_pc cI cT ad u))) (va_Qi (fun r u2 => r = z.1 ∧ u2 = z.2) (fun u2 t => gq_B D gc_cl (gk_tys cI cT) gk_vd ad (gk_pc cI cT ad u2) t) (gq_A gk_vd ad)) 0 0 (gq_A gk_vd ad) := by
  refine Met.ofW (cc := gb_Bk_countUnused) (maxL := 4) (ret := (some .int)) (by decide) rfl ?_
  intro p e s m args below meth c s₁ B hml hv
  obtain ⟨rfl, hH, hK, hN⟩ := hv
  have hx := B.exec
  have hb := B.bytes
  have hr := B.returns
  have hts := atoms_spec (ws := gws_Bk_countUnused) B.pre
  have ht := fun (w : Cond) (h : w ∈ gt_T) => hts w (List.mem_cons_of_mem _ h)
  have hown : s.vm.findClass gR_Bk = some m.cls := findClass_of_methodNamed B.named
  have hlocks := B.notSynchronized
  have hA : ∀ q, (gq_A gk_vd ad) q → (gq_A gk_vd ad) q := fun _ h => h
  have hS : va_S (gq_A gk_vd ad) s.heap s.heap [] := va_S.rf
  have hl := lv_entry ([.ref (ad 0 0)]) (n := 4) (Nat.le_of_ble_eq_true rfl)
  rw [lg_entry_eq]
  generalize (lg_sl ([.ref (ad 0 0)]) ++ List.replicate (4 - (lg_sl ([.ref (ad 0 0)])).length) Slot.unset).toArray = ls at hl ⊢
  have hl : lv_has ls 4 [(0, .ref (ad 0 0))] := hl
  have L4 : ∀ (n : Nat) (x1 : Int32) (x2 : Int32) (u : gk_St) (H : Heap) (locs : List Loc) (ls : Array Slot), fn_Bk_countUnused_4 n x1 x2 u = some z → gq_H D gc_cl gk_vd ad (gk_pc cI cT ad u) H → va_S (gq_A gk_vd ad) s.heap H locs → lv_has ls 4 [(0, .ref (ad 0 0)), (1, .int x1), (2, .int x2)] → W p l e (headSpec gws_Bk_countUnused ({ frames := 1, cells := 0, slots := 0, locals := 22 })).room s m ([.ref (ad 0 0)] : List Value).toArray below meth c H locs 0 0 (MQ below (va_Qi (fun r u2 => r = z.1 ∧ u2 = z.2) (fun u2 t => gq_B D gc_cl (gk_tys cI cT) gk_vd ad (gk_pc cI cT ad u2) t) (gq_A gk_vd ad)) ([.ref (ad 0 0)] : List Value).toArray s 0 0 (gq_A gk_vd ad)) (F0 m 4 ls []) := by
    intro n
    induction n with
    | zero =>
      intro x1 x2 u H locs ls hf
      have h0 : none = some z := hf
      cases h0
    | succ n ih =>
      intro x1 x2 u H locs ls hf hH hS hl
      rw [fn_Bk_countUnused_4] at hf
      refine lv_iload_n hx hb gd_Bk_countUnused_4 rfl (lv_at hl 2 rfl) ?_
      refine lv_bipush (v := 100) hx hb gd_Bk_countUnused_5 (by decide) ?_
      refine lv_icmp_ge (tgt := 36) hx hb gd_Bk_countUnused_7 (by decide) (fun c7 => ?_) (fun c7 => ?_)
      · replace hf := gj_t c7 hf
        refine lv_iload_n hx hb gd_Bk_countUnused_36 rfl (lv_at hl 1 rfl) ?_
        cases hf
        exact W.iret hx hb hr (fun t ht hW => ⟨⟨_, _, rfl, ⟨rfl, rfl⟩, ⟨by rw [ht]; exact hH, va_K.moved hW.alike hK⟩⟩, hS.F ht⟩) hS.2.2 gd_Bk_countUnused_37
      · replace hf := gj_e c7 hf
        refine lv_aload_n hx hb gd_Bk_countUnused_10 rfl (lv_at hl 0 rfl) ?_
        refine lv_iload_n hx hb gd_Bk_countUnused_11 rfl (lv_at hl 2 rfl) ?_
        obtain ⟨⟨o3, u4⟩, hc2, hf⟩ := Option.bind_eq_some_iff.mp hf
        refine gq_calle (va_runV (As := [.int x2]) (rest := []) ⟨hx, hb, hml, hown, hts⟩ (ct_Bk_inBook l D cI cT ad hI u x2 (o3, u4) hc2) (cwV 1 hts (gt_V gt_147 gt_149 (gt_sel (List.mem_of_getElem? (i := 3) rfl)) gt_1 gt_150) rfl rfl rfl (by decide +kernel) ⟨Nat.le_of_ble_eq_true rfl, Nat.le_of_ble_eq_true rfl⟩) (gq_preV hH hK hN (va_recv hK (gq_one (c := 0) (k := 0) hH rfl (gk_c0 cI cT ad u)) (ci := 0) (q0 := 0) rfl rfl)) rfl rfl hl.1 rfl (lv_room (Nat.le_of_ble_eq_true rfl)) gd_Bk_countUnused_12 ⟨Nat.zero_le _, Nat.zero_le _⟩) hA hS (fun H locs hH hS => ?_)
        cases o3 with
        | none =>
          have hH : gq_H D gc_cl gk_vd ad (gk_pc cI cT ad u4) H := hH
          refine W.eq (g2 := F0 m 15 ls [.null]) rfl ?_
          dsimp only at hf
          refine lv_astore_nN (lv' := [(3, .null), (0, .ref (ad 0 0)), (1, .int x1), (2, .int x2)]) hx hb gd_Bk_countUnused_15 rfl hl (by decide) rfl (fun ls hl => ?_)
          refine lv_aload_nN hx hb gd_Bk_countUnused_16 rfl (lv_at hl 0 rfl) ?_
          refine lv_ifnullN (tgt := 30) hx hb gd_Bk_countUnused_17 (by decide) ?_
          refine lv_iinc (v := x2 + 1) (lv' := [(2, .int (x2 + 1)), (3, .null), (0, .ref (ad 0 0)), (1, .int x1)]) hx hb gd_Bk_countUnused_30 hl (k := 3) rfl rfl (by decide) rfl (fun ls hl => ?_)
          refine lv_goto (tgt := 4) hx hb gd_Bk_countUnused_33 (by decide) ?_
          exact ih x1 (x2 + 1) u4 _ _ _ hf hH hS (lv_sub hl [2, 3, 0] rfl)
        | some k5 =>
          have hH : gq_H D gc_cl gk_vd ad (gk_pc cI cT ad u4) H := hH
          refine W.eq (g2 := F0 m 15 ls [.ref (ad 7 k5)]) rfl ?_
          dsimp only at hf
          refine lv_astore_n (lv' := [(3, .ref (ad 7 k5)), (0, .ref (ad 0 0)), (1, .int x1), (2, .int x2)]) hx hb gd_Bk_countUnused_15 rfl hl (by decide) rfl (fun ls hl => ?_)
          refine lv_aload_n hx hb gd_Bk_countUnused_16 rfl (lv_at hl 0 rfl) ?_
          refine lv_ifnull hx hb gd_Bk_countUnused_17 ?_
          refine lv_aload_n hx hb gd_Bk_countUnused_20 rfl (lv_at hl 0 rfl) ?_
          refine va_getN (D := D) (ci := 3) (C := gR_Tm) (T := gT_Tm) (N := 5) hx hb hts (fun w h => List.mem_cons_of_mem _ (gl_Tm w h)) hown hK (gq_one (c := 7) (k := k5) hH (ok_Bk_inBook hc2) (gk_c7 cI cT ad u4 k5)) 0 rfl rfl 3 (by decide) (va_Nw.use rfl (hN.1 _ (List.mem_of_getElem? (i := 4) rfl))) (fun _ h9 => h9) rfl gd_Bk_countUnused_21 ?_
          refine lv_if_ne (tgt := 30) hx hb gd_Bk_countUnused_24 (by decide) (fun c6 => ?_) (fun c6 => ?_)
          · replace hf := gj_e c6 hf
            refine lv_iinc (v := x2 + 1) (lv' := [(2, .int (x2 + 1)), (3, .ref (ad 7 k5)), (0, .ref (ad 0 0)), (1, .int x1)]) hx hb gd_Bk_countUnused_30 hl (k := 3) rfl rfl (by decide) rfl (fun ls hl => ?_)
            refine lv_goto (tgt := 4) hx hb gd_Bk_countUnused_33 (by decide) ?_
            exact ih x1 (x2 + 1) u4 _ _ _ hf hH hS (lv_sub hl [2, 3, 0] rfl)
          · replace hf := gj_t c6 hf
            refine lv_iinc (v := x1 + 1) (lv' := [(1, .int (x1 + 1)), (3, .ref (ad 7 k5)), (0, .ref (ad 0 0)), (2, .int x2)]) hx hb gd_Bk_countUnused_27 hl (k := 2) rfl rfl (by decide) rfl (fun ls hl => ?_)
            refine lv_iinc (v := x2 + 1) (lv' := [(2, .int (x2 + 1)), (1, .int (x1 + 1)), (3, .ref (ad 7 k5)), (0, .ref (ad 0 0))]) hx hb gd_Bk_countUnused_30 hl (k := 3) rfl rfl (by decide) rfl (fun ls hl => ?_)
            refine lv_goto (tgt := 4) hx hb gd_Bk_countUnused_33 (by decide) ?_
            exact ih (x1 + 1) (x2 + 1) u4 _ _ _ hf hH hS (lv_sub hl [3, 1, 0] rfl)
  unfold fn_Bk_countUnused at hf
  refine lv_iconst (v := 0) hx hb gd_Bk_countUnused_0 (by decide) ?_
  refine lv_istore_n (lv' := [(1, .int 0), (0, .ref (ad 0 0))]) hx hb gd_Bk_countUnused_1 rfl hl (by decide) rfl (fun ls hl => ?_)
  refine lv_iconst (v := 0) hx hb gd_Bk_countUnused_2 (by decide) ?_
  refine lv_istore_n (lv' := [(2, .int 0), (1, .int 0), (0, .ref (ad 0 0))]) hx hb gd_Bk_countUnused_3 rfl hl (by decide) rfl (fun ls hl => ?_)
  exact L4 gk_fu 0 0 u _ _ _ hf hH hS (lv_sub hl [2, 1, 0] rfl)
set_option maxHeartbeats 4000000 in
set_option maxRecDepth 100000 in
theorem ct_Bk_costOfAll (l : Launch) (D : va_G) (cI cT : ClassId) (ad : Nat → Nat → Nat) (hI : gq_I gk_vd ad) (u : gk_St)  (z : Int32 × gk_St) (hf : fn_Bk_costOfAll u = some z) : Met l gy_Bk_costOfAll gws_Bk_costOfAll ({ frames := 5, cells := 0, slots := 0, locals := 116 }) (va_Pc [.ref (ad 0 0)] (gq_pre D gc_cl (gk_tys cI cT) gk_vd ad gk_NF gk_NM (gk_pc cI cT ad u))) (va_Qi (fun r u2 => r = z.1 ∧ u2 = z.2) (fun u2 t => gq_B D gc_cl (gk_tys cI cT) gk_vd ad (gk_pc cI cT ad u2) t) (gq_A gk_vd ad)) 0 0 (gq_A gk_vd ad) := by
  refine Met.ofW (cc := gb_Bk_costOfAll) (maxL := 3) (ret := (some .int)) (by decide) rfl ?_
  intro p e s m args below meth c s₁ B hml hv
  obtain ⟨rfl, hH, hK, hN⟩ := hv
  have hx := B.exec
  have hb := B.bytes
  have hr := B.returns
  have hts := atoms_spec (ws := gws_Bk_costOfAll) B.pre
  have ht := fun (w : Cond) (h : w ∈ gt_T) => hts w (List.mem_cons_of_mem _ h)
  have hown : s.vm.findClass gR_Bk = some m.cls := findClass_of_methodNamed B.named
  have hlocks := B.notSynchronized
  have hA : ∀ q, (gq_A gk_vd ad) q → (gq_A gk_vd ad) q := fun _ h => h
  have hS : va_S (gq_A gk_vd ad) s.heap s.heap [] := va_S.rf
  have hl := lv_entry ([.ref (ad 0 0)]) (n := 3) (Nat.le_of_ble_eq_true rfl)
  rw [lg_entry_eq]
  generalize (lg_sl ([.ref (ad 0 0)]) ++ List.replicate (3 - (lg_sl ([.ref (ad 0 0)])).length) Slot.unset).toArray = ls at hl ⊢
  have hl : lv_has ls 3 [(0, .ref (ad 0 0))] := hl
  have L4 : ∀ (n : Nat) (x1 : Int32) (x2 : Int32) (u : gk_St) (H : Heap) (locs : List Loc) (ls : Array Slot), fn_Bk_costOfAll_4 n x1 x2 u = some z → gq_H D gc_cl gk_vd ad (gk_pc cI cT ad u) H → va_S (gq_A gk_vd ad) s.heap H locs → lv_has ls 3 [(0, .ref (ad 0 0)), (1, .int x1), (2, .int x2)] → W p l e (headSpec gws_Bk_costOfAll ({ frames := 5, cells := 0, slots := 0, locals := 116 })).room s m ([.ref (ad 0 0)] : List Value).toArray below meth c H locs 0 0 (MQ below (va_Qi (fun r u2 => r = z.1 ∧ u2 = z.2) (fun u2 t => gq_B D gc_cl (gk_tys cI cT) gk_vd ad (gk_pc cI cT ad u2) t) (gq_A gk_vd ad)) ([.ref (ad 0 0)] : List Value).toArray s 0 0 (gq_A gk_vd ad)) (F0 m 4 ls []) := by
    intro n
    induction n with
    | zero =>
      intro x1 x2 u H locs ls hf
      have h0 : none = some z := hf
      cases h0
    | succ n ih =>
      intro x1 x2 u H locs ls hf hH hS hl
      rw [fn_Bk_costOfAll_4] at hf
      refine lv_iload_n hx hb gd_Bk_costOfAll_4 rfl (lv_at hl 2 rfl) ?_
      refine lv_aload_n hx hb gd_Bk_costOfAll_5 rfl (lv_at hl 0 rfl) ?_
      refine va_get (D := D) (ci := 0) (C := gR_Bk) (T := gT_Bk) (N := 5) hx hb hts (fun w h => List.mem_cons_of_mem _ (gl_Bk w h)) hown hK (gq_one (c := 0) (k := 0) hH rfl (gk_c0 cI cT ad u)) 0 rfl rfl 2 (by decide) (ht _ gt_87) (fun _ h9 => h9) rfl gd_Bk_costOfAll_6 ?_
      refine va_getN (D := D) (ci := 1) (C := gR_Lv) (T := gT_Lv) (N := 4) hx hb hts (fun w h => List.mem_cons_of_mem _ (gl_Lv w h)) hown hK (gq_one (c := 2) (k := 0) hH rfl (gk_c2 cI cT ad u)) 0 rfl rfl 3 (by decide) (va_Nw.use rfl (hN.1 _ (List.mem_of_getElem? (i := 6) rfl))) (fun _ h9 => h9) rfl gd_Bk_costOfAll_9 ?_
      refine lv_icmp_ge (tgt := 29) hx hb gd_Bk_costOfAll_12 (by decide) (fun c3 => ?_) (fun c3 => ?_)
      · replace hf := gj_t c3 hf
        refine lv_iload_n hx hb gd_Bk_costOfAll_29 rfl (lv_at hl 1 rfl) ?_
        cases hf
        exact W.iret hx hb hr (fun t ht hW => ⟨⟨_, _, rfl, ⟨rfl, rfl⟩, ⟨by rw [ht]; exact hH, va_K.moved hW.alike hK⟩⟩, hS.F ht⟩) hS.2.2 gd_Bk_costOfAll_30
      · replace hf := gj_e c3 hf
        refine lv_iload_n hx hb gd_Bk_costOfAll_15 rfl (lv_at hl 1 rfl) ?_
        refine lv_aload_n hx hb gd_Bk_costOfAll_16 rfl (lv_at hl 0 rfl) ?_
        refine lv_iload_n hx hb gd_Bk_costOfAll_17 rfl (lv_at hl 2 rfl) ?_
        obtain ⟨z1, hc2, hf⟩ := Option.bind_eq_some_iff.mp hf
        refine gq_calli (va_runV (As := [.int x2]) (rest := [.int x1]) ⟨hx, hb, hml, hown, hts⟩ (ct_Bk_costOf l D cI cT ad hI u x2 z1 hc2) (cwV 1 hts (gt_V gt_343 gt_345 (gt_sel (List.mem_of_getElem? (i := 19) rfl)) gt_1 gt_346) rfl rfl rfl (by decide +kernel) ⟨Nat.le_of_ble_eq_true rfl, Nat.le_of_ble_eq_true rfl⟩) (gq_preV hH hK hN (va_recv hK (gq_one (c := 0) (k := 0) hH rfl (gk_c0 cI cT ad u)) (ci := 0) (q0 := 0) rfl rfl)) rfl rfl hl.1 rfl (lv_room (Nat.le_of_ble_eq_true rfl)) gd_Bk_costOfAll_18 ⟨Nat.zero_le _, Nat.zero_le _⟩) hA hS (fun H locs hH hS => ?_)
        refine lv_iadd hx hb gd_Bk_costOfAll_21 ?_
        refine lv_istore_n (lv' := [(1, .int (x1 + z1.1)), (0, .ref (ad 0 0)), (2, .int x2)]) hx hb gd_Bk_costOfAll_22 rfl hl (by decide) rfl (fun ls hl => ?_)
        refine lv_iinc (v := x2 + 1) (lv' := [(2, .int (x2 + 1)), (1, .int (x1 + z1.1)), (0, .ref (ad 0 0))]) hx hb gd_Bk_costOfAll_23 hl (k := 2) rfl rfl (by decide) rfl (fun ls hl => ?_)
        refine lv_goto (tgt := 4) hx hb gd_Bk_costOfAll_26 (by decide) ?_
        exact ih (x1 + z1.1) (x2 + 1) z1.2 _ _ _ hf hH hS (lv_sub hl [2, 1, 0] rfl)
  unfold fn_Bk_costOfAll at hf
  refine lv_iconst (v := 0) hx hb gd_Bk_costOfAll_0 (by decide) ?_
  refine lv_istore_n (lv' := [(1, .int 0), (0, .ref (ad 0 0))]) hx hb gd_Bk_costOfAll_1 rfl hl (by decide) rfl (fun ls hl => ?_)
  refine lv_iconst (v := 0) hx hb gd_Bk_costOfAll_2 (by decide) ?_
  refine lv_istore_n (lv' := [(2, .int 0), (1, .int 0), (0, .ref (ad 0 0))]) hx hb gd_Bk_costOfAll_3 rfl hl (by decide) rfl (fun ls hl => ?_)
  exact L4 gk_fu 0 0 u _ _ _ hf hH hS (lv_sub hl [2, 1, 0] rfl)
set_option maxHeartbeats 4000000 in
set_option maxRecDepth 100000 in
theorem ct_Bk_count (l : Launch) (D : va_G) (cI cT : ClassId) (ad : Nat → Nat → Nat) (hI : gq_I gk_vd ad) (u : gk_St) (p1 : Int32) (z : Int32 × gk_St) (hf : fn_Bk_count p1 u = some z) : Met l gy_Bk_count gws_Bk_count ({ frames := 6, cells := 0, slots := 0, locals := 138 }) (va_Pc [.ref (ad 0 0), .int p1] (gq_pre D gc_cl (gk_tys cI cT) gk_vd ad gk_NF gk_NM (gk_pc cI cT ad u))) (va_Qi (fun r u2 => r = z.1 ∧ u2 = z.2) (fun u2 t => gq_B D gc_cl (gk_tys cI cT) gk_vd ad (gk_pc cI cT ad u2) t) (gq_A gk_vd ad)) 0 0 (gq_A gk_vd ad) := by
  refine Met.ofW (cc := gb_Bk_count) (maxL := 2) (ret := (some .int)) (by decide) rfl ?_
  intro p e s m args below meth c s₁ B hml hv
  obtain ⟨rfl, hH, hK, hN⟩ := hv
  have hx := B.exec
  have hb := B.bytes
  have hr := B.returns
  have hts := atoms_spec (ws := gws_Bk_count) B.pre
  have ht := fun (w : Cond) (h : w ∈ gt_T) => hts w (List.mem_cons_of_mem _ h)
  have hown : s.vm.findClass gR_Bk = some m.cls := findClass_of_methodNamed B.named
  have hlocks := B.notSynchronized
  have hA : ∀ q, (gq_A gk_vd ad) q → (gq_A gk_vd ad) q := fun _ h => h
  have hS : va_S (gq_A gk_vd ad) s.heap s.heap [] := va_S.rf
  have hl := lv_entry ([.ref (ad 0 0), .int p1]) (n := 2) (Nat.le_of_ble_eq_true rfl)
  rw [lg_entry_eq]
  generalize (lg_sl ([.ref (ad 0 0), .int p1]) ++ List.replicate (2 - (lg_sl ([.ref (ad 0 0), .int p1])).length) Slot.unset).toArray = ls at hl ⊢
  have hl : lv_has ls 2 [(0, .ref (ad 0 0)), (1, .int p1)] := hl
  unfold fn_Bk_count at hf
  refine lv_iload_n hx hb gd_Bk_count_0 rfl (lv_at hl 1 rfl) ?_
  by_cases c1 : p1 = 0
  · replace hf := gj_t c1 hf
    refine gj_tab (tgt := 44) (k := 0) hx hb c1 gd_Bk_count_1 (by decide) (by decide) rfl (by decide) ?_
    refine lv_aload_n hx hb gd_Bk_count_44 rfl (lv_at hl 0 rfl) ?_
    refine va_get (D := D) (ci := 0) (C := gR_Bk) (T := gT_Bk) (N := 5) hx hb hts (fun w h => List.mem_cons_of_mem _ (gl_Bk w h)) hown hK (gq_one (c := 0) (k := 0) hH rfl (gk_c0 cI cT ad u)) 0 rfl rfl 2 (by decide) (ht _ gt_87) (fun _ h9 => h9) rfl gd_Bk_count_45 ?_
    refine va_getN (D := D) (ci := 1) (C := gR_Lv) (T := gT_Lv) (N := 4) hx hb hts (fun w h => List.mem_cons_of_mem _ (gl_Lv w h)) hown hK (gq_one (c := 2) (k := 0) hH rfl (gk_c2 cI cT ad u)) 0 rfl rfl 1 (by decide) (va_Nw.use rfl (hN.1 _ (List.mem_of_getElem? (i := 5) rfl))) (fun _ h9 => h9) rfl gd_Bk_count_48 ?_
    cases hf
    exact W.iret hx hb hr (fun t ht hW => ⟨⟨_, _, rfl, ⟨rfl, rfl⟩, ⟨by rw [ht]; exact hH, va_K.moved hW.alike hK⟩⟩, hS.F ht⟩) hS.2.2 gd_Bk_count_51
  replace hf := gj_e c1 hf
  by_cases c2 : p1 = 1
  · replace hf := gj_t c2 hf
    refine gj_tab (tgt := 52) (k := 1) hx hb c2 gd_Bk_count_1 (by decide) (by decide) rfl (by decide) ?_
    refine lv_aload_n hx hb gd_Bk_count_52 rfl (lv_at hl 0 rfl) ?_
    refine va_get (D := D) (ci := 0) (C := gR_Bk) (T := gT_Bk) (N := 5) hx hb hts (fun w h => List.mem_cons_of_mem _ (gl_Bk w h)) hown hK (gq_one (c := 0) (k := 0) hH rfl (gk_c0 cI cT ad u)) 0 rfl rfl 2 (by decide) (ht _ gt_87) (fun _ h9 => h9) rfl gd_Bk_count_53 ?_
    refine va_getN (D := D) (ci := 1) (C := gR_Lv) (T := gT_Lv) (N := 4) hx hb hts (fun w h => List.mem_cons_of_mem _ (gl_Lv w h)) hown hK (gq_one (c := 2) (k := 0) hH rfl (gk_c2 cI cT ad u)) 0 rfl rfl 3 (by decide) (va_Nw.use rfl (hN.1 _ (List.mem_of_getElem? (i := 6) rfl))) (fun _ h9 => h9) rfl gd_Bk_count_56 ?_
    cases hf
    exact W.iret hx hb hr (fun t ht hW => ⟨⟨_, _, rfl, ⟨rfl, rfl⟩, ⟨by rw [ht]; exact hH, va_K.moved hW.alike hK⟩⟩, hS.F ht⟩) hS.2.2 gd_Bk_count_59
  replace hf := gj_e c2 hf
  by_cases c3 : p1 = 2
  · replace hf := gj_t c3 hf
    refine gj_tab (tgt := 60) (k := 2) hx hb c3 gd_Bk_count_1 (by decide) (by decide) rfl (by decide) ?_
    refine lv_aload_n hx hb gd_Bk_count_60 rfl (lv_at hl 0 rfl) ?_
    refine va_get (D := D) (ci := 0) (C := gR_Bk) (T := gT_Bk) (N := 5) hx hb hts (fun w h => List.mem_cons_of_mem _ (gl_Bk w h)) hown hK (gq_one (c := 0) (k := 0) hH rfl (gk_c0 cI cT ad u)) 0 rfl rfl 4 (by decide) (ht _ gt_89) (fun _ h9 => h9) rfl gd_Bk_count_61 ?_
    cases hf
    exact W.iret hx hb hr (fun t ht hW => ⟨⟨_, _, rfl, ⟨rfl, rfl⟩, ⟨by rw [ht]; exact hH, va_K.moved hW.alike hK⟩⟩, hS.F ht⟩) hS.2.2 gd_Bk_count_64
  replace hf := gj_e c3 hf
  by_cases c6 : p1 = 3
  · replace hf := gj_t c6 hf
    refine gj_tab (tgt := 65) (k := 3) hx hb c6 gd_Bk_count_1 (by decide) (by decide) rfl (by decide) ?_
    refine lv_aload_n hx hb gd_Bk_count_65 rfl (lv_at hl 0 rfl) ?_
    obtain ⟨z4, hc5, hf⟩ := Option.bind_eq_some_iff.mp hf
    refine gq_calli (va_runV (As := []) (rest := []) ⟨hx, hb, hml, hown, hts⟩ (ct_Bk_countKeptVersions l D cI cT ad hI u  z4 hc5) (cwV 0 hts (gt_V gt_351 gt_353 (gt_sel (List.mem_of_getElem? (i := 20) rfl)) gt_1 gt_354) rfl rfl rfl (by decide +kernel) ⟨Nat.le_of_ble_eq_true rfl, Nat.le_of_ble_eq_true rfl⟩) (gq_preV hH hK hN (va_recv hK (gq_one (c := 0) (k := 0) hH rfl (gk_c0 cI cT ad u)) (ci := 0) (q0 := 0) rfl rfl)) rfl rfl hl.1 rfl (lv_room (Nat.le_of_ble_eq_true rfl)) gd_Bk_count_66 ⟨Nat.zero_le _, Nat.zero_le _⟩) hA hS (fun H locs hH hS => ?_)
    cases hf
    exact W.iret hx hb hr (fun t ht hW => ⟨⟨_, _, rfl, ⟨rfl, rfl⟩, ⟨by rw [ht]; exact hH, va_K.moved hW.alike hK⟩⟩, hS.F ht⟩) hS.2.2 gd_Bk_count_69
  replace hf := gj_e c6 hf
  by_cases c9 : p1 = 4
  · replace hf := gj_t c9 hf
    refine gj_tab (tgt := 70) (k := 4) hx hb c9 gd_Bk_count_1 (by decide) (by decide) rfl (by decide) ?_
    refine lv_aload_n hx hb gd_Bk_count_70 rfl (lv_at hl 0 rfl) ?_
    obtain ⟨z7, hc8, hf⟩ := Option.bind_eq_some_iff.mp hf
    refine gq_calli (va_runV (As := []) (rest := []) ⟨hx, hb, hml, hown, hts⟩ (ct_Bk_countUnused l D cI cT ad hI u  z7 hc8) (cwV 0 hts (gt_V gt_355 gt_357 (gt_sel (List.mem_of_getElem? (i := 21) rfl)) gt_1 gt_358) rfl rfl rfl (by decide +kernel) ⟨Nat.le_of_ble_eq_true rfl, Nat.le_of_ble_eq_true rfl⟩) (gq_preV hH hK hN (va_recv hK (gq_one (c := 0) (k := 0) hH rfl (gk_c0 cI cT ad u)) (ci := 0) (q0 := 0) rfl rfl)) rfl rfl hl.1 rfl (lv_room (Nat.le_of_ble_eq_true rfl)) gd_Bk_count_71 ⟨Nat.zero_le _, Nat.zero_le _⟩) hA hS (fun H locs hH hS => ?_)
    cases hf
    exact W.iret hx hb hr (fun t ht hW => ⟨⟨_, _, rfl, ⟨rfl, rfl⟩, ⟨by rw [ht]; exact hH, va_K.moved hW.alike hK⟩⟩, hS.F ht⟩) hS.2.2 gd_Bk_count_74
  replace hf := gj_e c9 hf
  by_cases c10 : p1 = 5
  · replace hf := gj_t c10 hf
    refine gj_tab (tgt := 75) (k := 5) hx hb c10 gd_Bk_count_1 (by decide) (by decide) rfl (by decide) ?_
    refine lv_aload_n hx hb gd_Bk_count_75 rfl (lv_at hl 0 rfl) ?_
    refine va_get (D := D) (ci := 0) (C := gR_Bk) (T := gT_Bk) (N := 5) hx hb hts (fun w h => List.mem_cons_of_mem _ (gl_Bk w h)) hown hK (gq_one (c := 0) (k := 0) hH rfl (gk_c0 cI cT ad u)) 0 rfl rfl 0 (by decide) (ht _ gt_85) (fun _ h9 => h9) rfl gd_Bk_count_76 ?_
    refine va_getN (D := D) (ci := 2) (C := gR_Tx) (T := gT_Tx) (N := 3) hx hb hts (fun w h => List.mem_cons_of_mem _ (gl_Tx w h)) hown hK (gq_one (c := 6) (k := 100) hH (Nat.le_refl 100) (gk_c6 cI cT ad u 100)) 0 rfl rfl 2 (by decide) (va_Nw.use rfl (hN.1 _ (List.mem_of_getElem? (i := 0) rfl))) (fun _ h9 => h9) rfl gd_Bk_count_79 ?_
    cases hf
    exact W.iret hx hb hr (fun t ht hW => ⟨⟨_, _, rfl, ⟨rfl, rfl⟩, ⟨by rw [ht]; exact hH, va_K.moved hW.alike hK⟩⟩, hS.F ht⟩) hS.2.2 gd_Bk_count_82
  replace hf := gj_e c10 hf
  by_cases c13 : p1 = 6
  · replace hf := gj_t c13 hf
    refine gj_tab (tgt := 83) (k := 6) hx hb c13 gd_Bk_count_1 (by decide) (by decide) rfl (by decide) ?_
    refine lv_aload_n hx hb gd_Bk_count_83 rfl (lv_at hl 0 rfl) ?_
    obtain ⟨z11, hc12, hf⟩ := Option.bind_eq_some_iff.mp hf
    refine gq_calli (va_runV (As := []) (rest := []) ⟨hx, hb, hml, hown, hts⟩ (ct_Bk_costOfAll l D cI cT ad hI u  z11 hc12) (cwV 0 hts (gt_V gt_359 gt_361 (gt_sel (List.mem_of_getElem? (i := 22) rfl)) gt_1 gt_362) rfl rfl rfl (by decide +kernel) ⟨Nat.le_of_ble_eq_true rfl, Nat.le_of_ble_eq_true rfl⟩) (gq_preV hH hK hN (va_recv hK (gq_one (c := 0) (k := 0) hH rfl (gk_c0 cI cT ad u)) (ci := 0) (q0 := 0) rfl rfl)) rfl rfl hl.1 rfl (lv_room (Nat.le_of_ble_eq_true rfl)) gd_Bk_count_84 ⟨Nat.zero_le _, Nat.zero_le _⟩) hA hS (fun H locs hH hS => ?_)
    cases hf
    exact W.iret hx hb hr (fun t ht hW => ⟨⟨_, _, rfl, ⟨rfl, rfl⟩, ⟨by rw [ht]; exact hH, va_K.moved hW.alike hK⟩⟩, hS.F ht⟩) hS.2.2 gd_Bk_count_87
  replace hf := gj_e c13 hf
  refine lv_tableOut (tgt := 88) hx hb gd_Bk_count_1 (by have ec1 := lv_neT (a := 0) c1 rfl; have ec2 := lv_neT (a := 1) c2 rfl; have ec3 := lv_neT (a := 2) c3 rfl; have ec6 := lv_neT (a := 3) c6 rfl; have ec9 := lv_neT (a := 4) c9 rfl; have ec10 := lv_neT (a := 5) c10 rfl; have ec13 := lv_neT (a := 6) c13 rfl; omega) (by decide) ?_
  refine lv_iconst (v := (-1)) hx hb gd_Bk_count_88 (by decide) ?_
  cases hf
  exact W.iret hx hb hr (fun t ht hW => ⟨⟨_, _, rfl, ⟨rfl, rfl⟩, ⟨by rw [ht]; exact hH, va_K.moved hW.alike hK⟩⟩, hS.F ht⟩) hS.2.2 gd_Bk_count_89
end
section
/-! boolean arrays and boolean answers -/
abbrev gj_01 (v : Int32) : Prop := v = 0 ∨ v = 1
theorem gj_01n {v : Int32} (h : gj_01 v) : narrow .boolean (.int v) = .int v := by rcases h with rfl | rfl <;> rfl
def gj_lshr (x : Int64) (y : Int32) : Int64 := x >>> (y.toInt64 &&& 63)
section GQB
variable {p : Program} {l : Launch} {e : Env} {R : Room} {s : State} {m : MethodId} {args : Array Value} {below : List Frame} {meth : Method} {c : Code} {H : Heap} {locs : List Loc} {cells slots : Nat} {Q : State → Prop}
variable {cc : ByteArray} {pc : Nat} {ls : Array Slot} {rest st0 : List Value} {D : va_G} {cl : List vw_C} {tys : List (ClassId × FieldType)} {vd : Nat → Nat → Prop} {ad : Nat → Nat → Nat} {pp pp' : Nat → Nat → va_E} {H0 : Heap} {A : Nat → Prop} {ca ka : Nat}
theorem gq_zast (hexec : p.tables.exec = Jvm.exec) (hb : c.code = cc) (hK : va_K D cl tys s) (hH : gq_H D cl vd ad pp H) (hI : gq_I vd ad) (hA : ∀ q, gq_A vd ad q → A q) (hv0 : vd ca ka) {cA : ClassId} {n : Nat} {f : Nat → Int32} (he : pp ca ka = .inl (cA, n, .inl f)) (t0 : Nat) (ht : tys[t0]? = some (cA, .boolean)) {i x : Int32} (hin : vp_in i n)
    (hw : pp' ca ka = .inl (cA, n, .inl (upd f i.toNatClampNeg (vp_nar .boolean x)))) (ho : ∀ c' k', vd c' k' → ¬ (c' = ca ∧ k' = ka) → pp' c' k' = pp c' k') (hS : va_S A H0 H locs) (hdg : decode cc pc = .ok (.bastore, 1))
    (kk : ∀ (H1 : Heap) (locs1 : List Loc), gq_H D cl vd ad pp' H1 → va_S A H0 H1 locs1 → W p l e R s m args below meth c H1 locs1 cells slots Q (F0 m (pc + 1) ls rest)) : W p l e R s m args below meth c H locs cells slots Q (F0 m pc ls (.int x :: .int i :: .ref (ad ca ka) :: rest)) := by
  have h00 := hH ca ka hv0
  rw [he] at h00
  refine W.zast hexec hb h00 ((hK.2 t0 _ ht).1 n (fun j => .int (f j))) (fun q => by cases q) (by show ¬ (i < 0 ∨ (arrV _ _ _).slots.size ≤ _); rw [arrV_size]; exact hin) rfl rfl hdg fun H1 e z oq => ?_
  refine kk H1 _ (gq_upd hH hI hv0 ?_ ho oq) (hS.put z oq (hA _ ⟨ca, ka, hv0, rfl⟩))
  rw [hw]
  show H1[ad ca ka]? = some (vp_cell _ _)
  rw [e]
  rw [vp_cell_i, vp_cell_i, arrV_store]
  congr 2
  funext q
  by_cases hq : q = i.toNatClampNeg
  · subst hq
    simp [updV, upd, vp_nar]
    try rfl
  · simp [updV, upd, hq]
end GQB
end
section
/-! the layout gm: cells and the typed state -/
abbrev gm_St : Type := (Nat → Nat → Int32) × (Nat → Nat → Int64)
def gm_sI (u : gm_St) (c k : Nat) (v : Int32) : gm_St := (fun a b => if a = c ∧ b = k then v else u.1 a b, u.2)
def gm_sL (u : gm_St) (c k : Nat) (v : Int64) : gm_St := (u.1, fun a b => if a = c ∧ b = k then v else u.2 a b)
def gm_vd : Nat → Nat → Prop
  | 0, k => k = 0
  | 1, k => k = 0
  | 2, k => k = 0
  | 3, k => k = 0
  | 4, k => k = 0
  | 5, k => k = 0
  | 6, k => k = 0
  | 7, k => k = 0
  | 8, k => k = 0
  | 9, k => k = 0
  | 10, k => k = 0
  | 11, k => k = 0
  | _, _ => False
def gm_pc (cI cZ : ClassId) (ad : Nat → Nat → Nat) (u : gm_St) : Nat → Nat → va_E
  | 0, _ => .inr (4, [.int (u.1 0 0), .ref (ad 1 0), .ref (ad 2 0), .ref (ad 3 0), .ref (ad 4 0), .ref (ad 5 0), .ref (ad 6 0), .int (u.1 12 0), .ref (ad 7 0), .int (u.1 13 0), .ref (ad 8 0), .int (u.1 14 0), .int (u.1 15 0), .ref (ad 9 0), .ref (ad 10 0), .ref (ad 11 0)])
  | 1, _ => .inl (cI, 16, .inl (u.1 1))
  | 2, _ => .inl (cZ, 100, .inl (u.1 2))
  | 3, _ => .inl (cI, 100, .inl (u.1 3))
  | 4, _ => .inl (cI, 100, .inl (u.1 4))
  | 5, _ => .inl (cI, 100, .inl (u.1 5))
  | 6, _ => .inl (cI, 1600, .inl (u.1 6))
  | 7, _ => .inl (cI, 101, .inl (u.1 7))
  | 8, _ => .inl (cI, 102, .inl (u.1 8))
  | 9, _ => .inl (cI, 6, .inl (u.1 9))
  | 10, _ => .inl (cZ, 600, .inl (u.1 10))
  | 11, _ => .inl (cI, 100, .inl (u.1 11))
  | _, _ => .inr (0, [])
theorem gm_c0 (cI cZ : ClassId) (ad : Nat → Nat → Nat) (u : gm_St) : gm_pc cI cZ ad u 0 0 = .inr (4, [.int (u.1 0 0), .ref (ad 1 0), .ref (ad 2 0), .ref (ad 3 0), .ref (ad 4 0), .ref (ad 5 0), .ref (ad 6 0), .int (u.1 12 0), .ref (ad 7 0), .int (u.1 13 0), .ref (ad 8 0), .int (u.1 14 0), .int (u.1 15 0), .ref (ad 9 0), .ref (ad 10 0), .ref (ad 11 0)]) := rfl
theorem gm_c1 (cI cZ : ClassId) (ad : Nat → Nat → Nat) (u : gm_St) : gm_pc cI cZ ad u 1 0 = .inl (cI, 16, .inl (u.1 1)) := rfl
theorem gm_c2 (cI cZ : ClassId) (ad : Nat → Nat → Nat) (u : gm_St) : gm_pc cI cZ ad u 2 0 = .inl (cZ, 100, .inl (u.1 2)) := rfl
theorem gm_c3 (cI cZ : ClassId) (ad : Nat → Nat → Nat) (u : gm_St) : gm_pc cI cZ ad u 3 0 = .inl (cI, 100, .inl (u.1 3)) := rfl
theorem gm_c4 (cI cZ : ClassId) (ad : Nat → Nat → Nat) (u : gm_St) : gm_pc cI cZ ad u 4 0 = .inl (cI, 100, .inl (u.1 4)) := rfl
theorem gm_c5 (cI cZ : ClassId) (ad : Nat → Nat → Nat) (u : gm_St) : gm_pc cI cZ ad u 5 0 = .inl (cI, 100, .inl (u.1 5)) := rfl
theorem gm_c6 (cI cZ : ClassId) (ad : Nat → Nat → Nat) (u : gm_St) : gm_pc cI cZ ad u 6 0 = .inl (cI, 1600, .inl (u.1 6)) := rfl
theorem gm_c7 (cI cZ : ClassId) (ad : Nat → Nat → Nat) (u : gm_St) : gm_pc cI cZ ad u 7 0 = .inl (cI, 101, .inl (u.1 7)) := rfl
theorem gm_c8 (cI cZ : ClassId) (ad : Nat → Nat → Nat) (u : gm_St) : gm_pc cI cZ ad u 8 0 = .inl (cI, 102, .inl (u.1 8)) := rfl
theorem gm_c9 (cI cZ : ClassId) (ad : Nat → Nat → Nat) (u : gm_St) : gm_pc cI cZ ad u 9 0 = .inl (cI, 6, .inl (u.1 9)) := rfl
theorem gm_c10 (cI cZ : ClassId) (ad : Nat → Nat → Nat) (u : gm_St) : gm_pc cI cZ ad u 10 0 = .inl (cZ, 600, .inl (u.1 10)) := rfl
theorem gm_c11 (cI cZ : ClassId) (ad : Nat → Nat → Nat) (u : gm_St) : gm_pc cI cZ ad u 11 0 = .inl (cI, 100, .inl (u.1 11)) := rfl
theorem gm_w0 (cI cZ : ClassId) (ad : Nat → Nat → Nat) (u : gm_St) (v : Int32) : gm_pc cI cZ ad (gm_sI u 0 0 v) 0 0 = .inr (4, [.int v, .ref (ad 1 0), .ref (ad 2 0), .ref (ad 3 0), .ref (ad 4 0), .ref (ad 5 0), .ref (ad 6 0), .int (u.1 12 0), .ref (ad 7 0), .int (u.1 13 0), .ref (ad 8 0), .int (u.1 14 0), .int (u.1 15 0), .ref (ad 9 0), .ref (ad 10 0), .ref (ad 11 0)]) := by simp [gm_pc, gm_sI]
theorem gm_o0 (cI cZ : ClassId) (ad : Nat → Nat → Nat) (u : gm_St) (v : Int32) : ∀ c' k', gm_vd c' k' → ¬ (c' = 0 ∧ k' = 0) → gm_pc cI cZ ad (gm_sI u 0 0 v) c' k' = gm_pc cI cZ ad u c' k' := by
  intro c' k' hv h
  unfold gm_pc gm_sI
  split <;> simp_all [gm_vd]
theorem gm_w12 (cI cZ : ClassId) (ad : Nat → Nat → Nat) (u : gm_St) (v : Int32) : gm_pc cI cZ ad (gm_sI u 12 0 v) 0 0 = .inr (4, [.int (u.1 0 0), .ref (ad 1 0), .ref (ad 2 0), .ref (ad 3 0), .ref (ad 4 0), .ref (ad 5 0), .ref (ad 6 0), .int v, .ref (ad 7 0), .int (u.1 13 0), .ref (ad 8 0), .int (u.1 14 0), .int (u.1 15 0), .ref (ad 9 0), .ref (ad 10 0), .ref (ad 11 0)]) := by simp [gm_pc, gm_sI]
theorem gm_o12 (cI cZ : ClassId) (ad : Nat → Nat → Nat) (u : gm_St) (v : Int32) : ∀ c' k', gm_vd c' k' → ¬ (c' = 0 ∧ k' = 0) → gm_pc cI cZ ad (gm_sI u 12 0 v) c' k' = gm_pc cI cZ ad u c' k' := by
  intro c' k' hv h
  unfold gm_pc gm_sI
  split <;> simp_all [gm_vd]
theorem gm_w13 (cI cZ : ClassId) (ad : Nat → Nat → Nat) (u : gm_St) (v : Int32) : gm_pc cI cZ ad (gm_sI u 13 0 v) 0 0 = .inr (4, [.int (u.1 0 0), .ref (ad 1 0), .ref (ad 2 0), .ref (ad 3 0), .ref (ad 4 0), .ref (ad 5 0), .ref (ad 6 0), .int (u.1 12 0), .ref (ad 7 0), .int v, .ref (ad 8 0), .int (u.1 14 0), .int (u.1 15 0), .ref (ad 9 0), .ref (ad 10 0), .ref (ad 11 0)]) := by simp [gm_pc, gm_sI]
theorem gm_o13 (cI cZ : ClassId) (ad : Nat → Nat → Nat) (u : gm_St) (v : Int32) : ∀ c' k', gm_vd c' k' → ¬ (c' = 0 ∧ k' = 0) → gm_pc cI cZ ad (gm_sI u 13 0 v) c' k' = gm_pc cI cZ ad u c' k' := by
  intro c' k' hv h
  unfold gm_pc gm_sI
  split <;> simp_all [gm_vd]
theorem gm_w14 (cI cZ : ClassId) (ad : Nat → Nat → Nat) (u : gm_St) (v : Int32) : gm_pc cI cZ ad (gm_sI u 14 0 v) 0 0 = .inr (4, [.int (u.1 0 0), .ref (ad 1 0), .ref (ad 2 0), .ref (ad 3 0), .ref (ad 4 0), .ref (ad 5 0), .ref (ad 6 0), .int (u.1 12 0), .ref (ad 7 0), .int (u.1 13 0), .ref (ad 8 0), .int v, .int (u.1 15 0), .ref (ad 9 0), .ref (ad 10 0), .ref (ad 11 0)]) := by simp [gm_pc, gm_sI]
theorem gm_o14 (cI cZ : ClassId) (ad : Nat → Nat → Nat) (u : gm_St) (v : Int32) : ∀ c' k', gm_vd c' k' → ¬ (c' = 0 ∧ k' = 0) → gm_pc cI cZ ad (gm_sI u 14 0 v) c' k' = gm_pc cI cZ ad u c' k' := by
  intro c' k' hv h
  unfold gm_pc gm_sI
  split <;> simp_all [gm_vd]
theorem gm_w15 (cI cZ : ClassId) (ad : Nat → Nat → Nat) (u : gm_St) (v : Int32) : gm_pc cI cZ ad (gm_sI u 15 0 v) 0 0 = .inr (4, [.int (u.1 0 0), .ref (ad 1 0), .ref (ad 2 0), .ref (ad 3 0), .ref (ad 4 0), .ref (ad 5 0), .ref (ad 6 0), .int (u.1 12 0), .ref (ad 7 0), .int (u.1 13 0), .ref (ad 8 0), .int (u.1 14 0), .int v, .ref (ad 9 0), .ref (ad 10 0), .ref (ad 11 0)]) := by simp [gm_pc, gm_sI]
theorem gm_o15 (cI cZ : ClassId) (ad : Nat → Nat → Nat) (u : gm_St) (v : Int32) : ∀ c' k', gm_vd c' k' → ¬ (c' = 0 ∧ k' = 0) → gm_pc cI cZ ad (gm_sI u 15 0 v) c' k' = gm_pc cI cZ ad u c' k' := by
  intro c' k' hv h
  unfold gm_pc gm_sI
  split <;> simp_all [gm_vd]
theorem gm_w1 (cI cZ : ClassId) (ad : Nat → Nat → Nat) (u : gm_St) (j : Nat) (v : Int32) : gm_pc cI cZ ad (gm_sI u 1 j v) 1 0 = .inl (cI, 16, .inl (upd (u.1 1) j v)) := by
  simp only [gm_pc, gm_sI, true_and]
  rfl
theorem gm_o1 (cI cZ : ClassId) (ad : Nat → Nat → Nat) (u : gm_St) (j : Nat) (v : Int32) : ∀ c' k', gm_vd c' k' → ¬ (c' = 1 ∧ k' = 0) → gm_pc cI cZ ad (gm_sI u 1 j v) c' k' = gm_pc cI cZ ad u c' k' := by
  intro c' k' hv h
  unfold gm_pc gm_sI
  split <;> simp_all [gm_vd]
theorem gm_w2 (cI cZ : ClassId) (ad : Nat → Nat → Nat) (u : gm_St) (j : Nat) (v : Int32) : gm_pc cI cZ ad (gm_sI u 2 j v) 2 0 = .inl (cZ, 100, .inl (upd (u.1 2) j v)) := by
  simp only [gm_pc, gm_sI, true_and]
  rfl
theorem gm_o2 (cI cZ : ClassId) (ad : Nat → Nat → Nat) (u : gm_St) (j : Nat) (v : Int32) : ∀ c' k', gm_vd c' k' → ¬ (c' = 2 ∧ k' = 0) → gm_pc cI cZ ad (gm_sI u 2 j v) c' k' = gm_pc cI cZ ad u c' k' := by
  intro c' k' hv h
  unfold gm_pc gm_sI
  split <;> simp_all [gm_vd]
theorem gm_w3 (cI cZ : ClassId) (ad : Nat → Nat → Nat) (u : gm_St) (j : Nat) (v : Int32) : gm_pc cI cZ ad (gm_sI u 3 j v) 3 0 = .inl (cI, 100, .inl (upd (u.1 3) j v)) := by
  simp only [gm_pc, gm_sI, true_and]
  rfl
theorem gm_o3 (cI cZ : ClassId) (ad : Nat → Nat → Nat) (u : gm_St) (j : Nat) (v : Int32) : ∀ c' k', gm_vd c' k' → ¬ (c' = 3 ∧ k' = 0) → gm_pc cI cZ ad (gm_sI u 3 j v) c' k' = gm_pc cI cZ ad u c' k' := by
  intro c' k' hv h
  unfold gm_pc gm_sI
  split <;> simp_all [gm_vd]
theorem gm_w4 (cI cZ : ClassId) (ad : Nat → Nat → Nat) (u : gm_St) (j : Nat) (v : Int32) : gm_pc cI cZ ad (gm_sI u 4 j v) 4 0 = .inl (cI, 100, .inl (upd (u.1 4) j v)) := by
  simp only [gm_pc, gm_sI, true_and]
  rfl
theorem gm_o4 (cI cZ : ClassId) (ad : Nat → Nat → Nat) (u : gm_St) (j : Nat) (v : Int32) : ∀ c' k', gm_vd c' k' → ¬ (c' = 4 ∧ k' = 0) → gm_pc cI cZ ad (gm_sI u 4 j v) c' k' = gm_pc cI cZ ad u c' k' := by
  intro c' k' hv h
  unfold gm_pc gm_sI
  split <;> simp_all [gm_vd]
theorem gm_w5 (cI cZ : ClassId) (ad : Nat → Nat → Nat) (u : gm_St) (j : Nat) (v : Int32) : gm_pc cI cZ ad (gm_sI u 5 j v) 5 0 = .inl (cI, 100, .inl (upd (u.1 5) j v)) := by
  simp only [gm_pc, gm_sI, true_and]
  rfl
theorem gm_o5 (cI cZ : ClassId) (ad : Nat → Nat → Nat) (u : gm_St) (j : Nat) (v : Int32) : ∀ c' k', gm_vd c' k' → ¬ (c' = 5 ∧ k' = 0) → gm_pc cI cZ ad (gm_sI u 5 j v) c' k' = gm_pc cI cZ ad u c' k' := by
  intro c' k' hv h
  unfold gm_pc gm_sI
  split <;> simp_all [gm_vd]
theorem gm_w6 (cI cZ : ClassId) (ad : Nat → Nat → Nat) (u : gm_St) (j : Nat) (v : Int32) : gm_pc cI cZ ad (gm_sI u 6 j v) 6 0 = .inl (cI, 1600, .inl (upd (u.1 6) j v)) := by
  simp only [gm_pc, gm_sI, true_and]
  rfl
theorem gm_o6 (cI cZ : ClassId) (ad : Nat → Nat → Nat) (u : gm_St) (j : Nat) (v : Int32) : ∀ c' k', gm_vd c' k' → ¬ (c' = 6 ∧ k' = 0) → gm_pc cI cZ ad (gm_sI u 6 j v) c' k' = gm_pc cI cZ ad u c' k' := by
  intro c' k' hv h
  unfold gm_pc gm_sI
  split <;> simp_all [gm_vd]
theorem gm_w7 (cI cZ : ClassId) (ad : Nat → Nat → Nat) (u : gm_St) (j : Nat) (v : Int32) : gm_pc cI cZ ad (gm_sI u 7 j v) 7 0 = .inl (cI, 101, .inl (upd (u.1 7) j v)) := by
  simp only [gm_pc, gm_sI, true_and]
  rfl
theorem gm_o7 (cI cZ : ClassId) (ad : Nat → Nat → Nat) (u : gm_St) (j : Nat) (v : Int32) : ∀ c' k', gm_vd c' k' → ¬ (c' = 7 ∧ k' = 0) → gm_pc cI cZ ad (gm_sI u 7 j v) c' k' = gm_pc cI cZ ad u c' k' := by
  intro c' k' hv h
  unfold gm_pc gm_sI
  split <;> simp_all [gm_vd]
theorem gm_w8 (cI cZ : ClassId) (ad : Nat → Nat → Nat) (u : gm_St) (j : Nat) (v : Int32) : gm_pc cI cZ ad (gm_sI u 8 j v) 8 0 = .inl (cI, 102, .inl (upd (u.1 8) j v)) := by
  simp only [gm_pc, gm_sI, true_and]
  rfl
theorem gm_o8 (cI cZ : ClassId) (ad : Nat → Nat → Nat) (u : gm_St) (j : Nat) (v : Int32) : ∀ c' k', gm_vd c' k' → ¬ (c' = 8 ∧ k' = 0) → gm_pc cI cZ ad (gm_sI u 8 j v) c' k' = gm_pc cI cZ ad u c' k' := by
  intro c' k' hv h
  unfold gm_pc gm_sI
  split <;> simp_all [gm_vd]
theorem gm_w9 (cI cZ : ClassId) (ad : Nat → Nat → Nat) (u : gm_St) (j : Nat) (v : Int32) : gm_pc cI cZ ad (gm_sI u 9 j v) 9 0 = .inl (cI, 6, .inl (upd (u.1 9) j v)) := by
  simp only [gm_pc, gm_sI, true_and]
  rfl
theorem gm_o9 (cI cZ : ClassId) (ad : Nat → Nat → Nat) (u : gm_St) (j : Nat) (v : Int32) : ∀ c' k', gm_vd c' k' → ¬ (c' = 9 ∧ k' = 0) → gm_pc cI cZ ad (gm_sI u 9 j v) c' k' = gm_pc cI cZ ad u c' k' := by
  intro c' k' hv h
  unfold gm_pc gm_sI
  split <;> simp_all [gm_vd]
theorem gm_w10 (cI cZ : ClassId) (ad : Nat → Nat → Nat) (u : gm_St) (j : Nat) (v : Int32) : gm_pc cI cZ ad (gm_sI u 10 j v) 10 0 = .inl (cZ, 600, .inl (upd (u.1 10) j v)) := by
  simp only [gm_pc, gm_sI, true_and]
  rfl
theorem gm_o10 (cI cZ : ClassId) (ad : Nat → Nat → Nat) (u : gm_St) (j : Nat) (v : Int32) : ∀ c' k', gm_vd c' k' → ¬ (c' = 10 ∧ k' = 0) → gm_pc cI cZ ad (gm_sI u 10 j v) c' k' = gm_pc cI cZ ad u c' k' := by
  intro c' k' hv h
  unfold gm_pc gm_sI
  split <;> simp_all [gm_vd]
theorem gm_w11 (cI cZ : ClassId) (ad : Nat → Nat → Nat) (u : gm_St) (j : Nat) (v : Int32) : gm_pc cI cZ ad (gm_sI u 11 j v) 11 0 = .inl (cI, 100, .inl (upd (u.1 11) j v)) := by
  simp only [gm_pc, gm_sI, true_and]
  rfl
theorem gm_o11 (cI cZ : ClassId) (ad : Nat → Nat → Nat) (u : gm_St) (j : Nat) (v : Int32) : ∀ c' k', gm_vd c' k' → ¬ (c' = 11 ∧ k' = 0) → gm_pc cI cZ ad (gm_sI u 11 j v) c' k' = gm_pc cI cZ ad u c' k' := by
  intro c' k' hv h
  unfold gm_pc gm_sI
  split <;> simp_all [gm_vd]

abbrev gm_NF : List (String × Nat × String × String × String × String) := []
abbrev gm_NM : List (String × Nat × MethodName × String) := []
abbrev gm_tys (cI cZ : ClassId) : List (ClassId × FieldType) := [(cI, .int), (cZ, .boolean)]
def gm_fu : Nat := 2000
end
section
theorem gt_5 : Cond.initialized "TermBookModel" ∈ gt_T := gt_in 5 (by decide +kernel) rfl
theorem gt_369 : Cond.fieldLink "TermBookModel" 54 "TermBookModel" "tapeMany" "I" ∈ gt_T := gt_in 369 (by decide +kernel) rfl
theorem gt_370 : Cond.fieldLink "TermBookModel" 7 "TermBookModel" "tape" "[I" ∈ gt_T := gt_in 370 (by decide +kernel) rfl
theorem gt_371 : Cond.fieldLink "TermBookModel" 13 "TermBookModel" "there" "[Z" ∈ gt_T := gt_in 371 (by decide +kernel) rfl
theorem gt_372 : Cond.fieldLink "TermBookModel" 17 "TermBookModel" "kinds" "[I" ∈ gt_T := gt_in 372 (by decide +kernel) rfl
theorem gt_373 : Cond.fieldLink "TermBookModel" 20 "TermBookModel" "uses" "[I" ∈ gt_T := gt_in 373 (by decide +kernel) rfl
theorem gt_374 : Cond.fieldLink "TermBookModel" 23 "TermBookModel" "sizes" "[I" ∈ gt_T := gt_in 374 (by decide +kernel) rfl
theorem gt_375 : Cond.fieldLink "TermBookModel" 26 "TermBookModel" "texts" "[I" ∈ gt_T := gt_in 375 (by decide +kernel) rfl
theorem gt_376 : Cond.fieldLink "TermBookModel" 44 "TermBookModel" "many" "I" ∈ gt_T := gt_in 376 (by decide +kernel) rfl
theorem gt_377 : Cond.fieldLink "TermBookModel" 29 "TermBookModel" "sorted" "[I" ∈ gt_T := gt_in 377 (by decide +kernel) rfl
theorem gt_378 : Cond.fieldLink "TermBookModel" 61 "TermBookModel" "leaves" "I" ∈ gt_T := gt_in 378 (by decide +kernel) rfl
theorem gt_379 : Cond.fieldLink "TermBookModel" 32 "TermBookModel" "leafSizes" "[I" ∈ gt_T := gt_in 379 (by decide +kernel) rfl
theorem gt_380 : Cond.fieldLink "TermBookModel" 105 "TermBookModel" "ended" "I" ∈ gt_T := gt_in 380 (by decide +kernel) rfl
theorem gt_381 : Cond.fieldLink "TermBookModel" 88 "TermBookModel" "kept" "I" ∈ gt_T := gt_in 381 (by decide +kernel) rfl
theorem gt_382 : Cond.fieldLink "TermBookModel" 35 "TermBookModel" "versions" "[I" ∈ gt_T := gt_in 382 (by decide +kernel) rfl
theorem gt_383 : Cond.fieldLink "TermBookModel" 38 "TermBookModel" "has" "[Z" ∈ gt_T := gt_in 383 (by decide +kernel) rfl
theorem gt_384 : Cond.fieldLink "TermBookModel" 41 "TermBookModel" "going" "[I" ∈ gt_T := gt_in 384 (by decide +kernel) rfl
theorem gt_423 : Cond.methodLink "TermBookModel" 48 gy_Md_in ∈ gt_T := gt_in 423 (by decide +kernel) rfl
theorem gt_424 : Cond.static gy_Md_in ∈ gt_T := gt_in 424 (by decide +kernel) rfl
set_option maxRecDepth 100000 in
theorem gt_425 : Cond.code gy_Md_in gb_Md_in 3 (some .boolean) ∈ gt_T := gt_in 425 rfl rfl
theorem gt_426 : Cond.constantLong "TermBookModel" 52 (255) ∈ gt_T := gt_in 426 (by decide +kernel) rfl
theorem gt_435 : Cond.methodLink "TermBookModel" 64 gy_Md_numberOf ∈ gt_T := gt_in 435 (by decide +kernel) rfl
theorem gt_437 : Cond.instanceMethod gy_Md_numberOf ∈ gt_T := gt_in 437 (by decide +kernel) rfl
set_option maxRecDepth 100000 in
theorem gt_438 : Cond.code gy_Md_numberOf gb_Md_numberOf 4 (some .int) ∈ gt_T := gt_in 438 rfl rfl
theorem gt_439 : Cond.methodLink "TermBookModel" 57 gy_Md_against ∈ gt_T := gt_in 439 (by decide +kernel) rfl
theorem gt_441 : Cond.instanceMethod gy_Md_against ∈ gt_T := gt_in 441 (by decide +kernel) rfl
set_option maxRecDepth 100000 in
theorem gt_442 : Cond.code gy_Md_against gb_Md_against 5 (some .int) ∈ gt_T := gt_in 442 rfl rfl
theorem gt_443 : Cond.methodLink "TermBookModel" 68 gy_Md_come ∈ gt_T := gt_in 443 (by decide +kernel) rfl
theorem gt_445 : Cond.instanceMethod gy_Md_come ∈ gt_T := gt_in 445 (by decide +kernel) rfl
set_option maxRecDepth 100000 in
theorem gt_446 : Cond.code gy_Md_come gb_Md_come 5 none ∈ gt_T := gt_in 446 rfl rfl
theorem gt_447 : Cond.methodLink "TermBookModel" 72 gy_Md_before ∈ gt_T := gt_in 447 (by decide +kernel) rfl
theorem gt_449 : Cond.instanceMethod gy_Md_before ∈ gt_T := gt_in 449 (by decide +kernel) rfl
set_option maxRecDepth 100000 in
theorem gt_450 : Cond.code gy_Md_before gb_Md_before 4 (some .int) ∈ gt_T := gt_in 450 rfl rfl
theorem gt_451 : Cond.methodLink "TermBookModel" 75 gy_Md_insertLeaf ∈ gt_T := gt_in 451 (by decide +kernel) rfl
theorem gt_453 : Cond.instanceMethod gy_Md_insertLeaf ∈ gt_T := gt_in 453 (by decide +kernel) rfl
set_option maxRecDepth 100000 in
theorem gt_454 : Cond.code gy_Md_insertLeaf gb_Md_insertLeaf 4 none ∈ gt_T := gt_in 454 rfl rfl
theorem gt_455 : Cond.methodLink "TermBookModel" 78 gy_Md_begin ∈ gt_T := gt_in 455 (by decide +kernel) rfl
theorem gt_457 : Cond.instanceMethod gy_Md_begin ∈ gt_T := gt_in 457 (by decide +kernel) rfl
set_option maxRecDepth 100000 in
theorem gt_458 : Cond.code gy_Md_begin gb_Md_begin 4 (some .int) ∈ gt_T := gt_in 458 rfl rfl
theorem gt_463 : Cond.methodLink "TermBookModel" 95 gy_Md_isTerm ∈ gt_T := gt_in 463 (by decide +kernel) rfl
theorem gt_465 : Cond.instanceMethod gy_Md_isTerm ∈ gt_T := gt_in 465 (by decide +kernel) rfl
set_option maxRecDepth 100000 in
theorem gt_466 : Cond.code gy_Md_isTerm gb_Md_isTerm 2 (some .boolean) ∈ gt_T := gt_in 466 rfl rfl
theorem gt_467 : Cond.methodLink "TermBookModel" 99 gy_Md_isLoose ∈ gt_T := gt_in 467 (by decide +kernel) rfl
theorem gt_469 : Cond.instanceMethod gy_Md_isLoose ∈ gt_T := gt_in 469 (by decide +kernel) rfl
set_option maxRecDepth 100000 in
theorem gt_470 : Cond.code gy_Md_isLoose gb_Md_isLoose 4 (some .boolean) ∈ gt_T := gt_in 470 rfl rfl
theorem gt_471 : Cond.methodLink "TermBookModel" 91 gy_Md_isKeptBy ∈ gt_T := gt_in 471 (by decide +kernel) rfl
theorem gt_473 : Cond.instanceMethod gy_Md_isKeptBy ∈ gt_T := gt_in 473 (by decide +kernel) rfl
set_option maxRecDepth 100000 in
theorem gt_474 : Cond.code gy_Md_isKeptBy gb_Md_isKeptBy 3 (some .boolean) ∈ gt_T := gt_in 474 rfl rfl
theorem gt_475 : Cond.methodLink "TermBookModel" 102 gy_Md_go ∈ gt_T := gt_in 475 (by decide +kernel) rfl
theorem gt_477 : Cond.instanceMethod gy_Md_go ∈ gt_T := gt_in 477 (by decide +kernel) rfl
set_option maxRecDepth 100000 in
theorem gt_478 : Cond.code gy_Md_go gb_Md_go 5 none ∈ gt_T := gt_in 478 rfl rfl
theorem gt_479 : Cond.methodLink "TermBookModel" 81 gy_Md_placeOf ∈ gt_T := gt_in 479 (by decide +kernel) rfl
theorem gt_481 : Cond.instanceMethod gy_Md_placeOf ∈ gt_T := gt_in 481 (by decide +kernel) rfl
set_option maxRecDepth 100000 in
theorem gt_482 : Cond.code gy_Md_placeOf gb_Md_placeOf 4 (some .int) ∈ gt_T := gt_in 482 rfl rfl
theorem gt_483 : Cond.methodLink "TermBookModel" 84 gy_Md_dropLeaf ∈ gt_T := gt_in 483 (by decide +kernel) rfl
theorem gt_485 : Cond.instanceMethod gy_Md_dropLeaf ∈ gt_T := gt_in 485 (by decide +kernel) rfl
set_option maxRecDepth 100000 in
theorem gt_486 : Cond.code gy_Md_dropLeaf gb_Md_dropLeaf 3 none ∈ gt_T := gt_in 486 rfl rfl
theorem gt_519 : Cond.methodLink "TermBookModel" 108 gy_Md_keptAs ∈ gt_T := gt_in 519 (by decide +kernel) rfl
theorem gt_521 : Cond.instanceMethod gy_Md_keptAs ∈ gt_T := gt_in 521 (by decide +kernel) rfl
set_option maxRecDepth 100000 in
theorem gt_522 : Cond.code gy_Md_keptAs gb_Md_keptAs 4 (some .int) ∈ gt_T := gt_in 522 rfl rfl
theorem gt_531 : Cond.methodLink "TermBookModel" 111 gy_Md_shared ∈ gt_T := gt_in 531 (by decide +kernel) rfl
theorem gt_533 : Cond.instanceMethod gy_Md_shared ∈ gt_T := gt_in 533 (by decide +kernel) rfl
set_option maxRecDepth 100000 in
theorem gt_534 : Cond.code gy_Md_shared gb_Md_shared 8 (some .int) ∈ gt_T := gt_in 534 rfl rfl
theorem gt_535 : Cond.methodLink "TermBookModel" 114 gy_Md_cost ∈ gt_T := gt_in 535 (by decide +kernel) rfl
theorem gt_537 : Cond.instanceMethod gy_Md_cost ∈ gt_T := gt_in 537 (by decide +kernel) rfl
set_option maxRecDepth 100000 in
theorem gt_538 : Cond.code gy_Md_cost gb_Md_cost 5 (some .int) ∈ gt_T := gt_in 538 rfl rfl
end
section
def fn_Md_in (p0 : Int32) (p1 : Int32) (p2 : Int32) (u : gm_St) : Option (Int32 × gm_St) := if p0 < p1 then (some (0, u)) else (if p2 < p0 then (some (0, u)) else (some (1, u)))
def fn_Md_type_76 : Nat → Int64 → Int32 → Int32 → Int32 → gm_St → Option (Int32 × gm_St)
  | 0, _, _, _, _, _ => none
  | n + 1, x1, x3, x4, x5, u => if x5 < 0 then (some ((u.1 0 0), u)) else (if gj_in (u.1 0 0) 16 then fn_Md_type_76 n x1 x3 x4 (x5 + (-1)) (gm_sI (gm_sI u 1 (Int32.toNatClampNeg (u.1 0 0)) (Int64.toInt32 ((gj_lshr x1 (8 * x5)) &&& 255))) 0 0 (((gm_sI u 1 (Int32.toNatClampNeg (u.1 0 0)) (Int64.toInt32 ((gj_lshr x1 (8 * x5)) &&& 255))).1 0 0) + 1)) else none)
def fn_Md_type_12 : Nat → Int64 → Int32 → Int32 → Int32 → gm_St → Option (Int32 × gm_St)
  | 0, _, _, _, _, _ => none
  | n + 1, x1, x3, x4, x5, u => if x3 ≤ x5 then (if x4 = 0 then (some ((-1), u)) else (if ((u.1 0 0) + x3) ≤ 16 then (fn_Md_type_76 gm_fu x1 x3 x4 (x3 - 1) u) else (some ((-3), u)))) else (if x4 = 0 then (if x4 = 0 then (some ((-1), u)) else (if ((u.1 0 0) + x3) ≤ 16 then (fn_Md_type_76 gm_fu x1 x3 x4 (x3 - 1) u) else (some ((-3), u)))) else ((fn_Md_in (Int64.toInt32 ((gj_lshr x1 (8 * x5)) &&& 255)) 33 126 u).bind fun z9 => (fn_Md_type_12 n x1 x3 z9.1 (x5 + 1) z9.2)))
def fn_Md_type (p1 : Int64) (p3 : Int32) (u : gm_St) : Option (Int32 × gm_St) := (fn_Md_in p3 1 8 u).bind fun z1 => (fn_Md_type_12 gm_fu p1 p3 z1.1 0 z1.2)
def fn_Md_clear  (u : gm_St) : Option (Int32 × gm_St) := some ((u.1 0 0), (gm_sI u 0 0 0))
def fn_Md_against_21 : Nat → Int32 → Int32 → Int32 → gm_St → Option (Int32 × gm_St)
  | 0, _, _, _, _ => none
  | n + 1, x1, x2, x3, u => if gj_in x1 100 then if (u.1 5 (Int32.toNatClampNeg x1)) ≤ x3 then (if gj_in x1 100 then some (((u.1 5 (Int32.toNatClampNeg x1)) - (u.1 0 0)), u) else none) else (if (u.1 0 0) ≤ x3 then (if gj_in x1 100 then some (((u.1 5 (Int32.toNatClampNeg x1)) - (u.1 0 0)), u) else none) else (if gj_in ((16 * x1) + x3) 1600 then if gj_in x3 16 then if ((u.1 6 (Int32.toNatClampNeg ((16 * x1) + x3))) - (u.1 1 (Int32.toNatClampNeg x3))) = 0 then (fn_Md_against_21 n x1 x2 (x3 + 1) u) else (some (((u.1 6 (Int32.toNatClampNeg ((16 * x1) + x3))) - (u.1 1 (Int32.toNatClampNeg x3))), u)) else none else none)) else none
def fn_Md_against (p1 : Int32) (p2 : Int32) (u : gm_St) : Option (Int32 × gm_St) := if gj_in p1 100 then if (u.1 3 (Int32.toNatClampNeg p1)) = p2 then (fn_Md_against_21 gm_fu p1 p2 0 u) else (if gj_in p1 100 then some (((u.1 3 (Int32.toNatClampNeg p1)) - p2), u) else none) else none
def fn_Md_before_4 : Nat → Int32 → Int32 → Int32 → gm_St → Option (Int32 × gm_St)
  | 0, _, _, _, _ => none
  | n + 1, x1, x2, x3, u => if (u.1 12 0) ≤ x3 then (some (x2, u)) else (if gj_in x3 101 then (fn_Md_against (u.1 7 (Int32.toNatClampNeg x3)) x1 u).bind fun z2 => (if 0 ≤ z2.1 then (fn_Md_before_4 n x1 (x2 + 0) (x3 + 1) z2.2) else (fn_Md_before_4 n x1 (x2 + 1) (x3 + 1) z2.2)) else none)
def fn_Md_before (p1 : Int32) (u : gm_St) : Option (Int32 × gm_St) := fn_Md_before_4 gm_fu p1 0 0 u
def fn_Md_numberOf_4 : Nat → Int32 → Int32 → Int32 → gm_St → Option (Int32 × gm_St)
  | 0, _, _, _, _ => none
  | n + 1, x1, x2, x3, u => if (u.1 12 0) ≤ x3 then (some (x2, u)) else (if gj_in x3 101 then (fn_Md_against (u.1 7 (Int32.toNatClampNeg x3)) x1 u).bind fun z2 => (if z2.1 = 0 then (if gj_in x3 101 then fn_Md_numberOf_4 n x1 (z2.2.1 7 (Int32.toNatClampNeg x3)) (x3 + 1) z2.2 else none) else (fn_Md_numberOf_4 n x1 x2 (x3 + 1) z2.2)) else none)
def fn_Md_numberOf (p1 : Int32) (u : gm_St) : Option (Int32 × gm_St) := fn_Md_numberOf_4 gm_fu p1 (-1) 0 u
def fn_Md_placeOf_4 : Nat → Int32 → Int32 → Int32 → gm_St → Option (Int32 × gm_St)
  | 0, _, _, _, _ => none
  | n + 1, x1, x2, x3, u => if (u.1 12 0) ≤ x3 then (some (x2, u)) else (if gj_in x3 101 then if (u.1 7 (Int32.toNatClampNeg x3)) = x1 then (fn_Md_placeOf_4 n x1 x3 (x3 + 1) u) else (fn_Md_placeOf_4 n x1 x2 (x3 + 1) u) else none)
def fn_Md_placeOf (p1 : Int32) (u : gm_St) : Option (Int32 × gm_St) := fn_Md_placeOf_4 gm_fu p1 (-1) 0 u
def fn_Md_begin_4 : Nat → Int32 → Int32 → Int32 → gm_St → Option (Int32 × gm_St)
  | 0, _, _, _, _ => none
  | n + 1, x1, x2, x3, u => if x1 ≤ x3 then (some (x2, u)) else (if gj_in x3 102 then fn_Md_begin_4 n x1 (x2 + (u.1 8 (Int32.toNatClampNeg x3))) (x3 + 1) u else none)
def fn_Md_begin (p1 : Int32) (u : gm_St) : Option (Int32 × gm_St) := fn_Md_begin_4 gm_fu p1 0 0 u
def fn_Md_insertLeaf_5 : Nat → Int32 → Int32 → Int32 → gm_St → Option (gm_St)
  | 0, _, _, _, _ => none
  | n + 1, x1, x2, x3, u => if x3 ≤ x1 then (if gj_in x1 102 then some (gm_sI (gm_sI u 8 (Int32.toNatClampNeg x1) x2) 13 0 (((gm_sI u 8 (Int32.toNatClampNeg x1) x2).1 13 0) + 1)) else none) else (if gj_in (x3 - 1) 102 then if gj_in x3 102 then fn_Md_insertLeaf_5 n x1 x2 (x3 + (-1)) (gm_sI u 8 (Int32.toNatClampNeg x3) (u.1 8 (Int32.toNatClampNeg (x3 - 1)))) else none else none)
def fn_Md_insertLeaf (p1 : Int32) (p2 : Int32) (u : gm_St) : Option (gm_St) := fn_Md_insertLeaf_5 gm_fu p1 p2 (u.1 13 0) u
def fn_Md_dropLeaf_12 : Nat → Int32 → Int32 → gm_St → Option (gm_St)
  | 0, _, _, _ => none
  | n + 1, x1, x2, u => if (u.1 13 0) ≤ x2 then (some u) else (if gj_in (x2 + 1) 102 then if gj_in x2 102 then fn_Md_dropLeaf_12 n x1 (x2 + 1) (gm_sI u 8 (Int32.toNatClampNeg x2) (u.1 8 (Int32.toNatClampNeg (x2 + 1)))) else none else none)
def fn_Md_dropLeaf (p1 : Int32) (u : gm_St) : Option (gm_St) := fn_Md_dropLeaf_12 gm_fu p1 p1 (gm_sI u 13 0 ((u.1 13 0) - 1))
def fn_Md_come_141 : Nat → Int32 → Int32 → Int32 → Int32 → gm_St → Option (gm_St)
  | 0, _, _, _, _, _ => none
  | n + 1, x1, x2, x3, x4, u => if (u.1 13 0) ≤ (x4 + 1) then (if gj_in x4 102 then if gj_in x4 102 then if gj_in x4 102 then if ((gm_sI u 8 (Int32.toNatClampNeg x4) ((u.1 8 (Int32.toNatClampNeg x4)) + 1)).1 8 (Int32.toNatClampNeg x4)) ≤ 8 then (some (gm_sI u 8 (Int32.toNatClampNeg x4) ((u.1 8 (Int32.toNatClampNeg x4)) + 1))) else (if gj_in x4 102 then (fn_Md_insertLeaf (x4 + 1) 5 (gm_sI (gm_sI u 8 (Int32.toNatClampNeg x4) ((u.1 8 (Int32.toNatClampNeg x4)) + 1)) 8 (Int32.toNatClampNeg x4) 4)).bind fun z12 => (some z12) else none) else none else none else none) else ((fn_Md_begin (x4 + 1) u).bind fun z15 => (if x3 < z15.1 then (if gj_in x4 102 then if gj_in x4 102 then if gj_in x4 102 then if ((gm_sI z15.2 8 (Int32.toNatClampNeg x4) ((z15.2.1 8 (Int32.toNatClampNeg x4)) + 1)).1 8 (Int32.toNatClampNeg x4)) ≤ 8 then (some (gm_sI z15.2 8 (Int32.toNatClampNeg x4) ((z15.2.1 8 (Int32.toNatClampNeg x4)) + 1))) else (if gj_in x4 102 then (fn_Md_insertLeaf (x4 + 1) 5 (gm_sI (gm_sI z15.2 8 (Int32.toNatClampNeg x4) ((z15.2.1 8 (Int32.toNatClampNeg x4)) + 1)) 8 (Int32.toNatClampNeg x4) 4)).bind fun z21 => (some z21) else none) else none else none else none) else (fn_Md_come_141 n x1 x2 x3 (x4 + 1) z15.2)))
def fn_Md_come_80 : Nat → Int32 → Int32 → Int32 → Int32 → gm_St → Option (gm_St)
  | 0, _, _, _, _, _ => none
  | n + 1, x1, x2, x3, x4, u => if x4 ≤ x3 then (if gj_in x3 101 then if ((gm_sI (gm_sI u 7 (Int32.toNatClampNeg x3) x1) 12 0 (((gm_sI u 7 (Int32.toNatClampNeg x3) x1).1 12 0) + 1)).1 13 0) = 0 then ((fn_Md_insertLeaf 0 0 (gm_sI (gm_sI u 7 (Int32.toNatClampNeg x3) x1) 12 0 (((gm_sI u 7 (Int32.toNatClampNeg x3) x1).1 12 0) + 1))).bind fun z26 => (fn_Md_come_141 gm_fu x1 x2 x3 0 z26)) else (fn_Md_come_141 gm_fu x1 x2 x3 0 (gm_sI (gm_sI u 7 (Int32.toNatClampNeg x3) x1) 12 0 (((gm_sI u 7 (Int32.toNatClampNeg x3) x1).1 12 0) + 1))) else none) else (if gj_in (x4 - 1) 101 then if gj_in x4 101 then fn_Md_come_80 n x1 x2 x3 (x4 + (-1)) (gm_sI u 7 (Int32.toNatClampNeg x4) (u.1 7 (Int32.toNatClampNeg (x4 - 1)))) else none else none)
def fn_Md_come_40 : Nat → Int32 → Int32 → Int32 → Int32 → gm_St → Option (gm_St)
  | 0, _, _, _, _, _ => none
  | n + 1, x1, x2, x3, x4, u => if (u.1 0 0) ≤ x4 then (fn_Md_come_80 gm_fu x1 x2 x3 (u.1 12 0) u) else (if gj_in x4 16 then if gj_in ((16 * x1) + x4) 1600 then fn_Md_come_40 n x1 x2 x3 (x4 + 1) (gm_sI u 6 (Int32.toNatClampNeg ((16 * x1) + x4)) (u.1 1 (Int32.toNatClampNeg x4))) else none else none)
def fn_Md_come (p1 : Int32) (p2 : Int32) (u : gm_St) : Option (gm_St) := (fn_Md_before p2 u).bind fun z1 => (if gj_in p1 100 then if gj_in p1 100 then if gj_in p1 100 then if gj_in p1 100 then fn_Md_come_40 gm_fu p1 p2 z1.1 0 (gm_sI (gm_sI (gm_sI (gm_sI z1.2 2 (Int32.toNatClampNeg p1) (vp_nar .boolean 1)) 3 (Int32.toNatClampNeg p1) p2) 4 (Int32.toNatClampNeg p1) 0) 5 (Int32.toNatClampNeg p1) ((gm_sI (gm_sI (gm_sI z1.2 2 (Int32.toNatClampNeg p1) (vp_nar .boolean 1)) 3 (Int32.toNatClampNeg p1) p2) 4 (Int32.toNatClampNeg p1) 0).1 0 0)) else none else none else none else none)
def fn_Md_add_58 : Nat → Int32 → Int32 → Int32 → gm_St → Option (Int32 × gm_St)
  | 0, _, _, _, _ => none
  | n + 1, x1, x2, x3, u => if gj_in x3 100 then if (u.1 2 (Int32.toNatClampNeg x3)) = 0 then ((fn_Md_come x3 x1 u).bind fun z8 => (if gj_in x3 100 then if gj_in x3 100 then some (x3, (gm_sI (gm_sI z8 4 (Int32.toNatClampNeg x3) ((z8.1 4 (Int32.toNatClampNeg x3)) + 1)) 0 0 0)) else none else none)) else (fn_Md_add_58 n x1 x2 (x3 + 1) u) else none
def fn_Md_add (p1 : Int32) (u : gm_St) : Option (Int32 × gm_St) := (fn_Md_in p1 0 3 u).bind fun z1 => (if z1.1 = 0 then (some ((-1), (gm_sI z1.2 0 0 0))) else (if (u.1 0 0) = 0 then (some ((-1), (gm_sI z1.2 0 0 0))) else ((fn_Md_numberOf p1 z1.2).bind fun z3 => (if 0 ≤ z3.1 then (if 0 ≤ z3.1 then (if gj_in z3.1 100 then if gj_in z3.1 100 then some (z3.1, (gm_sI (gm_sI z3.2 4 (Int32.toNatClampNeg z3.1) ((z3.2.1 4 (Int32.toNatClampNeg z3.1)) + 1)) 0 0 0)) else none else none) else (fn_Md_add_58 gm_fu p1 (u.1 0 0) 0 z3.2)) else (if (z3.2.1 12 0) = 100 then (some ((-3), (gm_sI z3.2 0 0 0))) else (if 0 ≤ z3.1 then (if gj_in z3.1 100 then if gj_in z3.1 100 then some (z3.1, (gm_sI (gm_sI z3.2 4 (Int32.toNatClampNeg z3.1) ((z3.2.1 4 (Int32.toNatClampNeg z3.1)) + 1)) 0 0 0)) else none else none) else (fn_Md_add_58 gm_fu p1 (u.1 0 0) 0 z3.2)))))))
def fn_Md_go_45 : Nat → Int32 → Int32 → Int32 → Int32 → gm_St → Option (gm_St)
  | 0, _, _, _, _, _ => none
  | n + 1, x1, x2, x3, x4, u => if (u.1 12 0) ≤ x4 then (if gj_in x3 102 then if gj_in x3 102 then if gj_in x3 102 then if 3 ≤ ((gm_sI u 8 (Int32.toNatClampNeg x3) ((u.1 8 (Int32.toNatClampNeg x3)) - 1)).1 8 (Int32.toNatClampNeg x3)) then (if gj_in x3 102 then if ((gm_sI u 8 (Int32.toNatClampNeg x3) ((u.1 8 (Int32.toNatClampNeg x3)) - 1)).1 8 (Int32.toNatClampNeg x3)) = 0 then ((fn_Md_dropLeaf x3 (gm_sI u 8 (Int32.toNatClampNeg x3) ((u.1 8 (Int32.toNatClampNeg x3)) - 1))).bind fun z10 => (some z10)) else (some (gm_sI u 8 (Int32.toNatClampNeg x3) ((u.1 8 (Int32.toNatClampNeg x3)) - 1))) else none) else (if ((gm_sI u 8 (Int32.toNatClampNeg x3) ((u.1 8 (Int32.toNatClampNeg x3)) - 1)).1 13 0) ≤ 1 then (if gj_in x3 102 then if ((gm_sI u 8 (Int32.toNatClampNeg x3) ((u.1 8 (Int32.toNatClampNeg x3)) - 1)).1 8 (Int32.toNatClampNeg x3)) = 0 then ((fn_Md_dropLeaf x3 (gm_sI u 8 (Int32.toNatClampNeg x3) ((u.1 8 (Int32.toNatClampNeg x3)) - 1))).bind fun z14 => (some z14)) else (some (gm_sI u 8 (Int32.toNatClampNeg x3) ((u.1 8 (Int32.toNatClampNeg x3)) - 1))) else none) else (if ((gm_sI u 8 (Int32.toNatClampNeg x3) ((u.1 8 (Int32.toNatClampNeg x3)) - 1)).1 13 0) ≤ (x3 + 1) then (if gj_in x3 102 then if gj_in (x3 - 1) 102 then if 8 < (((gm_sI u 8 (Int32.toNatClampNeg x3) ((u.1 8 (Int32.toNatClampNeg x3)) - 1)).1 8 (Int32.toNatClampNeg x3)) + ((gm_sI u 8 (Int32.toNatClampNeg x3) ((u.1 8 (Int32.toNatClampNeg x3)) - 1)).1 8 (Int32.toNatClampNeg (x3 - 1)))) then (if gj_in (x3 - 1) 102 then if gj_in (x3 - 1) 102 then if gj_in x3 102 then if gj_in x3 102 then some (gm_sI (gm_sI (gm_sI u 8 (Int32.toNatClampNeg x3) ((u.1 8 (Int32.toNatClampNeg x3)) - 1)) 8 (Int32.toNatClampNeg (x3 - 1)) (((gm_sI u 8 (Int32.toNatClampNeg x3) ((u.1 8 (Int32.toNatClampNeg x3)) - 1)).1 8 (Int32.toNatClampNeg (x3 - 1))) - 1)) 8 (Int32.toNatClampNeg x3) (((gm_sI (gm_sI u 8 (Int32.toNatClampNeg x3) ((u.1 8 (Int32.toNatClampNeg x3)) - 1)) 8 (Int32.toNatClampNeg (x3 - 1)) (((gm_sI u 8 (Int32.toNatClampNeg x3) ((u.1 8 (Int32.toNatClampNeg x3)) - 1)).1 8 (Int32.toNatClampNeg (x3 - 1))) - 1)).1 8 (Int32.toNatClampNeg x3)) + 1)) else none else none else none else none) else (if gj_in (x3 - 1) 102 then if gj_in x3 102 then if gj_in (x3 - 1) 102 then (fn_Md_dropLeaf x3 (gm_sI (gm_sI u 8 (Int32.toNatClampNeg x3) ((u.1 8 (Int32.toNatClampNeg x3)) - 1)) 8 (Int32.toNatClampNeg (x3 - 1)) (((gm_sI u 8 (Int32.toNatClampNeg x3) ((u.1 8 (Int32.toNatClampNeg x3)) - 1)).1 8 (Int32.toNatClampNeg (x3 - 1))) + ((gm_sI u 8 (Int32.toNatClampNeg x3) ((u.1 8 (Int32.toNatClampNeg x3)) - 1)).1 8 (Int32.toNatClampNeg x3))))).bind fun z26 => (some z26) else none else none else none) else none else none) else (if gj_in x3 102 then if gj_in (x3 + 1) 102 then if 8 < (((gm_sI u 8 (Int32.toNatClampNeg x3) ((u.1 8 (Int32.toNatClampNeg x3)) - 1)).1 8 (Int32.toNatClampNeg x3)) + ((gm_sI u 8 (Int32.toNatClampNeg x3) ((u.1 8 (Int32.toNatClampNeg x3)) - 1)).1 8 (Int32.toNatClampNeg (x3 + 1)))) then (if gj_in (x3 + 1) 102 then if gj_in (x3 + 1) 102 then if gj_in x3 102 then if gj_in x3 102 then some (gm_sI (gm_sI (gm_sI u 8 (Int32.toNatClampNeg x3) ((u.1 8 (Int32.toNatClampNeg x3)) - 1)) 8 (Int32.toNatClampNeg (x3 + 1)) (((gm_sI u 8 (Int32.toNatClampNeg x3) ((u.1 8 (Int32.toNatClampNeg x3)) - 1)).1 8 (Int32.toNatClampNeg (x3 + 1))) - 1)) 8 (Int32.toNatClampNeg x3) (((gm_sI (gm_sI u 8 (Int32.toNatClampNeg x3) ((u.1 8 (Int32.toNatClampNeg x3)) - 1)) 8 (Int32.toNatClampNeg (x3 + 1)) (((gm_sI u 8 (Int32.toNatClampNeg x3) ((u.1 8 (Int32.toNatClampNeg x3)) - 1)).1 8 (Int32.toNatClampNeg (x3 + 1))) - 1)).1 8 (Int32.toNatClampNeg x3)) + 1)) else none else none else none else none) else (if gj_in (x3 + 1) 102 then if gj_in x3 102 then if gj_in (x3 + 1) 102 then (fn_Md_dropLeaf x3 (gm_sI (gm_sI u 8 (Int32.toNatClampNeg x3) ((u.1 8 (Int32.toNatClampNeg x3)) - 1)) 8 (Int32.toNatClampNeg (x3 + 1)) (((gm_sI u 8 (Int32.toNatClampNeg x3) ((u.1 8 (Int32.toNatClampNeg x3)) - 1)).1 8 (Int32.toNatClampNeg (x3 + 1))) + ((gm_sI u 8 (Int32.toNatClampNeg x3) ((u.1 8 (Int32.toNatClampNeg x3)) - 1)).1 8 (Int32.toNatClampNeg x3))))).bind fun z38 => (some z38) else none else none else none) else none else none))) else none else none else none) else (if gj_in (x4 + 1) 101 then if gj_in x4 101 then fn_Md_go_45 n x1 x2 x3 (x4 + 1) (gm_sI u 7 (Int32.toNatClampNeg x4) (u.1 7 (Int32.toNatClampNeg (x4 + 1)))) else none else none)
def fn_Md_go_8 : Nat → Int32 → Int32 → Int32 → gm_St → Option (gm_St)
  | 0, _, _, _, _ => none
  | n + 1, x1, x2, x3, u => (fn_Md_begin (x3 + 1) u).bind fun z3 => (if x2 < z3.1 then (if gj_in x1 100 then fn_Md_go_45 gm_fu x1 x2 x3 x2 (gm_sI (gm_sI z3.2 2 (Int32.toNatClampNeg x1) (vp_nar .boolean 0)) 12 0 (((gm_sI z3.2 2 (Int32.toNatClampNeg x1) (vp_nar .boolean 0)).1 12 0) - 1)) else none) else (fn_Md_go_8 n x1 x2 (x3 + 1) z3.2))
def fn_Md_go (p1 : Int32) (u : gm_St) : Option (gm_St) := (fn_Md_placeOf p1 u).bind fun z1 => (fn_Md_go_8 gm_fu p1 z1.1 0 z1.2)
def fn_Md_isKeptBy (p1 : Int32) (p2 : Int32) (u : gm_St) : Option (Int32 × gm_St) := if gj_in ((100 * p1) + p2) 600 then if gj_01 (u.1 10 (Int32.toNatClampNeg ((100 * p1) + p2))) then some ((u.1 10 (Int32.toNatClampNeg ((100 * p1) + p2))), u) else none else none
def fn_Md_isLoose_17 : Nat → Int32 → Int32 → Int32 → gm_St → Option (Int32 × gm_St)
  | 0, _, _, _, _ => none
  | n + 1, x1, x2, x3, u => if (u.1 15 0) ≤ x3 then (if gj_01 x2 then some (x2, u) else none) else (if x2 = 0 then (fn_Md_isLoose_17 n x1 0 (x3 + 1) u) else ((fn_Md_isKeptBy x3 x1 u).bind fun z3 => (if z3.1 = 0 then (fn_Md_isLoose_17 n x1 1 (x3 + 1) z3.2) else (fn_Md_isLoose_17 n x1 0 (x3 + 1) z3.2))))
def fn_Md_isLoose (p1 : Int32) (u : gm_St) : Option (Int32 × gm_St) := if gj_in p1 100 then if (u.1 4 (Int32.toNatClampNeg p1)) = 0 then (fn_Md_isLoose_17 gm_fu p1 1 0 u) else (fn_Md_isLoose_17 gm_fu p1 0 0 u) else none
def fn_Md_isTerm (p1 : Int32) (u : gm_St) : Option (Int32 × gm_St) := (fn_Md_in p1 0 99 u).bind fun z1 => (if z1.1 = 0 then (some (0, z1.2)) else (if gj_in p1 100 then if (z1.2.1 2 (Int32.toNatClampNeg p1)) = 0 then (some (0, z1.2)) else (some (1, z1.2)) else none))
def fn_Md_drop (p1 : Int32) (u : gm_St) : Option (Int32 × gm_St) := (fn_Md_isTerm p1 u).bind fun z1 => (if z1.1 = 0 then (some ((-1), z1.2)) else (if gj_in p1 100 then if (z1.2.1 4 (Int32.toNatClampNeg p1)) = 0 then (some ((-1), z1.2)) else (if gj_in p1 100 then if gj_in p1 100 then if gj_in p1 100 then (fn_Md_isLoose p1 (gm_sI z1.2 4 (Int32.toNatClampNeg p1) ((z1.2.1 4 (Int32.toNatClampNeg p1)) - 1))).bind fun z7 => (if z7.1 = 0 then (some (((gm_sI z1.2 4 (Int32.toNatClampNeg p1) ((z1.2.1 4 (Int32.toNatClampNeg p1)) - 1)).1 4 (Int32.toNatClampNeg p1)), z7.2)) else ((fn_Md_go p1 z7.2).bind fun z9 => (some (((gm_sI z1.2 4 (Int32.toNatClampNeg p1) ((z1.2.1 4 (Int32.toNatClampNeg p1)) - 1)).1 4 (Int32.toNatClampNeg p1)), z9)))) else none else none else none) else none))
def fn_Md_find (p1 : Int32) (u : gm_St) : Option (Int32 × gm_St) := (fn_Md_in p1 0 3 u).bind fun z1 => (if z1.1 = 0 then (some ((-1), z1.2)) else ((fn_Md_numberOf p1 z1.2).bind fun z3 => (if 0 ≤ z3.1 then (some (z3.1, z3.2)) else (some ((-2), z3.2)))))
def fn_Md_term (p1 : Int32) (p2 : Int32) (u : gm_St) : Option (Int32 × gm_St) := (fn_Md_isTerm p1 u).bind fun z1 => (if z1.1 = 0 then (some ((-1), z1.2)) else (if 0 ≤ p2 then (if p2 = 0 then (if gj_in p1 100 then some ((z1.2.1 3 (Int32.toNatClampNeg p1)), z1.2) else none) else if p2 = 1 then (if gj_in p1 100 then some ((z1.2.1 4 (Int32.toNatClampNeg p1)), z1.2) else none) else if p2 = 2 then (if gj_in p1 100 then some ((z1.2.1 5 (Int32.toNatClampNeg p1)), z1.2) else none) else (if gj_in p1 100 then if (z1.2.1 5 (Int32.toNatClampNeg p1)) ≤ (p2 - 3) then (some ((-1), z1.2)) else (if gj_in (((16 * p1) + p2) - 3) 1600 then some ((z1.2.1 6 (Int32.toNatClampNeg (((16 * p1) + p2) - 3))), z1.2) else none) else none)) else (some ((-1), z1.2))))
def fn_Md_at (p1 : Int32) (u : gm_St) : Option (Int32 × gm_St) := (fn_Md_in p1 0 ((u.1 12 0) - 1) u).bind fun z1 => (if z1.1 = 0 then (some ((-2), z1.2)) else (if gj_in p1 101 then some ((z1.2.1 7 (Int32.toNatClampNeg p1)), z1.2) else none))
def fn_Md_place (p1 : Int32) (u : gm_St) : Option (Int32 × gm_St) := (fn_Md_isTerm p1 u).bind fun z1 => (if z1.1 = 0 then (some ((-1), z1.2)) else ((fn_Md_placeOf p1 z1.2).bind fun z3 => (some (z3.1, z3.2))))
def fn_Md_begins_66 (K : Int32 → Int32 → Int32 → Int32 → Int32 → Int32 → gm_St → Option (Int32 × gm_St)) : Nat → Int32 → Int32 → Int32 → Int32 → Int32 → Int32 → gm_St → Option (Int32 × gm_St)
  | 0, _, _, _, _, _, _, _ => none
  | n + 1, x1, x2, x3, x4, x5, x6, u => if (u.1 0 0) ≤ x6 then (K x1 x2 x3 x4 x5 x6 u) else (if x5 = 0 then (K x1 x2 x3 x4 x5 x6 u) else (if gj_in ((16 * x4) + x6) 1600 then if gj_in x6 16 then if (u.1 6 (Int32.toNatClampNeg ((16 * x4) + x6))) = (u.1 1 (Int32.toNatClampNeg x6)) then (fn_Md_begins_66 K n x1 x2 x3 x4 1 (x6 + 1) u) else (fn_Md_begins_66 K n x1 x2 x3 x4 0 (x6 + 1) u) else none else none))
def fn_Md_begins_116 (rec : Int32 → Int32 → Int32 → gm_St → Option (Int32 × gm_St)) (x1 : Int32) (x2 : Int32) (x3 : Int32) (x4 : Int32) (x5 : Int32) (x6 : Int32) (u : gm_St) : Option (Int32 × gm_St) := if x5 = 0 then (rec x1 (x2 + 0) (x3 + 1) u) else (rec x1 (x2 + 1) (x3 + 1) u)
def fn_Md_begins_15 : Nat → Int32 → Int32 → Int32 → gm_St → Option (Int32 × gm_St)
  | 0, _, _, _, _ => none
  | n + 1, x1, x2, x3, u => if (u.1 12 0) ≤ x3 then (some (x2, u)) else (if gj_in x3 101 then if gj_in (u.1 7 (Int32.toNatClampNeg x3)) 100 then if (u.1 3 (Int32.toNatClampNeg (u.1 7 (Int32.toNatClampNeg x3)))) = x1 then (if gj_in (u.1 7 (Int32.toNatClampNeg x3)) 100 then if (u.1 5 (Int32.toNatClampNeg (u.1 7 (Int32.toNatClampNeg x3)))) < (u.1 0 0) then (fn_Md_begins_66 (fn_Md_begins_116 (fn_Md_begins_15 n)) gm_fu x1 x2 x3 (u.1 7 (Int32.toNatClampNeg x3)) 0 0 u) else (fn_Md_begins_66 (fn_Md_begins_116 (fn_Md_begins_15 n)) gm_fu x1 x2 x3 (u.1 7 (Int32.toNatClampNeg x3)) 1 0 u) else none) else (fn_Md_begins_66 (fn_Md_begins_116 (fn_Md_begins_15 n)) gm_fu x1 x2 x3 (u.1 7 (Int32.toNatClampNeg x3)) 0 0 u) else none else none)
def fn_Md_begins (p1 : Int32) (u : gm_St) : Option (Int32 × gm_St) := (fn_Md_in p1 0 3 u).bind fun z1 => (if z1.1 = 0 then (some ((-1), z1.2)) else (fn_Md_begins_15 gm_fu p1 0 0 z1.2))
def fn_Md_from (p1 : Int32) (u : gm_St) : Option (Int32 × gm_St) := (fn_Md_in p1 0 3 u).bind fun z1 => (if z1.1 = 0 then (some ((-1), z1.2)) else ((fn_Md_before p1 z1.2).bind fun z3 => (some (z3.1, z3.2))))
def fn_Md_version_27 : Nat → Int32 → gm_St → Option (Int32 × gm_St)
  | 0, _, _ => none
  | n + 1, x1, u => if 100 ≤ x1 then (some ((((gm_sI (gm_sI u 15 0 ((u.1 15 0) + 1)) 14 0 (((gm_sI u 15 0 ((u.1 15 0) + 1)).1 14 0) + 1)).1 14 0) - 1), (gm_sI (gm_sI u 15 0 ((u.1 15 0) + 1)) 14 0 (((gm_sI u 15 0 ((u.1 15 0) + 1)).1 14 0) + 1)))) else (if gj_in x1 100 then if (u.1 2 (Int32.toNatClampNeg x1)) = 0 then (if gj_in ((100 * (u.1 15 0)) + x1) 600 then fn_Md_version_27 n (x1 + 1) (gm_sI u 10 (Int32.toNatClampNeg ((100 * (u.1 15 0)) + x1)) (vp_nar .boolean 0)) else none) else (if gj_in x1 100 then if (u.1 4 (Int32.toNatClampNeg x1)) ≤ 0 then (if gj_in ((100 * (u.1 15 0)) + x1) 600 then fn_Md_version_27 n (x1 + 1) (gm_sI u 10 (Int32.toNatClampNeg ((100 * (u.1 15 0)) + x1)) (vp_nar .boolean 0)) else none) else (if gj_in ((100 * (u.1 15 0)) + x1) 600 then fn_Md_version_27 n (x1 + 1) (gm_sI u 10 (Int32.toNatClampNeg ((100 * (u.1 15 0)) + x1)) (vp_nar .boolean 1)) else none) else none) else none)
def fn_Md_version  (u : gm_St) : Option (Int32 × gm_St) := if (u.1 15 0) = 6 then (some ((-3), u)) else (if gj_in (u.1 15 0) 6 then fn_Md_version_27 gm_fu 0 (gm_sI u 9 (Int32.toNatClampNeg (u.1 15 0)) (u.1 14 0)) else none)
def fn_Md_keptAs_4 : Nat → Int32 → Int32 → Int32 → gm_St → Option (Int32 × gm_St)
  | 0, _, _, _, _ => none
  | n + 1, x1, x2, x3, u => if (u.1 15 0) ≤ x3 then (some (x2, u)) else (if gj_in x3 6 then if (u.1 9 (Int32.toNatClampNeg x3)) = x1 then (fn_Md_keptAs_4 n x1 x3 (x3 + 1) u) else (fn_Md_keptAs_4 n x1 x2 (x3 + 1) u) else none)
def fn_Md_keptAs (p1 : Int32) (u : gm_St) : Option (Int32 × gm_St) := fn_Md_keptAs_4 gm_fu p1 (-1) 0 u
def fn_Md_release_148 : Nat → Int32 → Int32 → Int32 → Int32 → gm_St → Option (Int32 × gm_St)
  | 0, _, _, _, _, _ => none
  | n + 1, x1, x2, x3, x4, u => if x3 ≤ x4 then (some (x3, u)) else (if gj_in x4 100 then (fn_Md_go (u.1 11 (Int32.toNatClampNeg x4)) u).bind fun z4 => (fn_Md_release_148 n x1 x2 x3 (x4 + 1) z4) else none)
def fn_Md_release_100 : Nat → Int32 → Int32 → Int32 → Int32 → gm_St → Option (Int32 × gm_St)
  | 0, _, _, _, _, _ => none
  | n + 1, x1, x2, x3, x4, u => if (u.1 12 0) ≤ x4 then (fn_Md_release_148 gm_fu x1 x2 x3 0 u) else (if gj_in x4 101 then (fn_Md_isLoose (u.1 7 (Int32.toNatClampNeg x4)) u).bind fun z8 => (if z8.1 = 0 then (fn_Md_release_100 n x1 x2 x3 (x4 + 1) z8.2) else (if gj_in x4 101 then if gj_in x3 100 then fn_Md_release_100 n x1 x2 (x3 + 1) (x4 + 1) (gm_sI z8.2 11 (Int32.toNatClampNeg x3) (z8.2.1 7 (Int32.toNatClampNeg x4))) else none else none)) else none)
def fn_Md_release_49 (K : Int32 → Int32 → Int32 → Int32 → gm_St → Option (Int32 × gm_St)) : Nat → Int32 → Int32 → Int32 → Int32 → gm_St → Option (Int32 × gm_St)
  | 0, _, _, _, _, _ => none
  | n + 1, x1, x2, x3, x4, u => if 100 ≤ x4 then (K x1 x2 x3 x4 u) else (if gj_in (((100 * x3) + 100) + x4) 600 then if gj_in ((100 * x3) + x4) 600 then fn_Md_release_49 K n x1 x2 x3 (x4 + 1) (gm_sI u 10 (Int32.toNatClampNeg ((100 * x3) + x4)) (vp_nar .boolean (u.1 10 (Int32.toNatClampNeg (((100 * x3) + 100) + x4))))) else none else none)
def fn_Md_release_89 (rec : Int32 → Int32 → Int32 → gm_St → Option (Int32 × gm_St)) (x1 : Int32) (x2 : Int32) (x3 : Int32) (x4 : Int32) (u : gm_St) : Option (Int32 × gm_St) := rec x1 x2 (x3 + 1) u
def fn_Md_release_24 : Nat → Int32 → Int32 → Int32 → gm_St → Option (Int32 × gm_St)
  | 0, _, _, _, _ => none
  | n + 1, x1, x2, x3, u => if (u.1 15 0) ≤ x3 then (fn_Md_release_100 gm_fu x1 x2 0 0 u) else (if gj_in (x3 + 1) 6 then if gj_in x3 6 then fn_Md_release_49 (fn_Md_release_89 (fn_Md_release_24 n)) gm_fu x1 x2 x3 0 (gm_sI u 9 (Int32.toNatClampNeg x3) (u.1 9 (Int32.toNatClampNeg (x3 + 1)))) else none else none)
def fn_Md_release (p1 : Int32) (u : gm_St) : Option (Int32 × gm_St) := (fn_Md_keptAs p1 u).bind fun z1 => (if 0 ≤ z1.1 then (fn_Md_release_24 gm_fu p1 z1.1 z1.1 (gm_sI z1.2 15 0 ((z1.2.1 15 0) - 1))) else (some ((-1), z1.2)))
def fn_Md_had_47 : Nat → Int32 → Int32 → Int32 → Int32 → Int32 → gm_St → Option (Int32 × gm_St)
  | 0, _, _, _, _, _, _ => none
  | n + 1, x1, x2, x3, x4, x5, u => if 100 ≤ x5 then (some (x4, u)) else ((fn_Md_isKeptBy x3 x5 u).bind fun z5 => (if z5.1 = 0 then (fn_Md_had_47 n x1 x2 x3 (x4 + 0) (x5 + 1) z5.2) else (fn_Md_had_47 n x1 x2 x3 (x4 + 1) (x5 + 1) z5.2)))
def fn_Md_had (p1 : Int32) (p2 : Int32) (u : gm_St) : Option (Int32 × gm_St) := (fn_Md_keptAs p1 u).bind fun z1 => (if z1.1 < 0 then (some ((-1), z1.2)) else ((fn_Md_in p2 (-1) 99 z1.2).bind fun z3 => (if z3.1 = 0 then (some ((-1), z3.2)) else (if p2 < 0 then (fn_Md_had_47 gm_fu p1 p2 z1.1 0 0 z3.2) else ((fn_Md_isKeptBy z1.1 p2 z3.2).bind fun z9 => (if z9.1 = 0 then (some (0, z9.2)) else (some (1, z9.2))))))))
def fn_Md_shared_51 (K : Int32 → Int32 → Int32 → Int32 → Int32 → Int32 → Int32 → gm_St → Option (Int32 × gm_St)) : Nat → Int32 → Int32 → Int32 → Int32 → Int32 → Int32 → Int32 → gm_St → Option (Int32 × gm_St)
  | 0, _, _, _, _, _, _, _, _ => none
  | n + 1, x1, x2, x3, x4, x5, x6, x7, u => if x4 ≤ x7 then (K x1 x2 x3 x4 x5 x6 x7 u) else (if gj_in x6 100 then if (u.1 5 (Int32.toNatClampNeg x6)) ≤ x7 then (K x1 x2 x3 x4 x5 x6 x7 u) else (if gj_in ((16 * x6) + x7) 1600 then if gj_in ((16 * x3) + x7) 1600 then if (u.1 6 (Int32.toNatClampNeg ((16 * x6) + x7))) = (u.1 6 (Int32.toNatClampNeg ((16 * x3) + x7))) then (fn_Md_shared_51 K n x1 x2 x3 x4 x5 x6 (x7 + 1) u) else (K x1 x2 x3 x4 x5 x6 x7 u) else none else none) else none)
def fn_Md_shared_104 (rec : Int32 → Int32 → Int32 → Int32 → Int32 → gm_St → Option (Int32 × gm_St)) (x1 : Int32) (x2 : Int32) (x3 : Int32) (x4 : Int32) (x5 : Int32) (x6 : Int32) (x7 : Int32) (u : gm_St) : Option (Int32 × gm_St) := if gj_in x6 100 then if gj_in x3 100 then if (u.1 3 (Int32.toNatClampNeg x6)) = (u.1 3 (Int32.toNatClampNeg x3)) then (rec x1 x2 x3 x7 (x5 + 1) u) else (rec x1 x2 x3 0 (x5 + 1) u) else none else none
def fn_Md_shared_26 : Nat → Int32 → Int32 → Int32 → Int32 → Int32 → gm_St → Option (Int32 × gm_St)
  | 0, _, _, _, _, _, _ => none
  | n + 1, x1, x2, x3, x4, x5, u => if gj_in x1 102 then if (x2 + (u.1 8 (Int32.toNatClampNeg x1))) ≤ x5 then (some (x4, u)) else (if gj_in x5 101 then fn_Md_shared_51 (fn_Md_shared_104 (fn_Md_shared_26 n)) gm_fu x1 x2 x3 x4 x5 (u.1 7 (Int32.toNatClampNeg x5)) 0 u else none) else none
def fn_Md_shared (p1 : Int32) (u : gm_St) : Option (Int32 × gm_St) := (fn_Md_begin p1 u).bind fun z1 => (if gj_in z1.1 101 then if gj_in (z1.2.1 7 (Int32.toNatClampNeg z1.1)) 100 then fn_Md_shared_26 gm_fu p1 z1.1 (z1.2.1 7 (Int32.toNatClampNeg z1.1)) (z1.2.1 5 (Int32.toNatClampNeg (z1.2.1 7 (Int32.toNatClampNeg z1.1)))) (z1.1 + 1) z1.2 else none else none)
def fn_Md_cost_15 : Nat → Int32 → Int32 → Int32 → Int32 → gm_St → Option (Int32 × gm_St)
  | 0, _, _, _, _, _ => none
  | n + 1, x1, x2, x3, x4, u => (fn_Md_begin x1 u).bind fun z5 => (if gj_in x1 102 then if (z5.1 + (z5.2.1 8 (Int32.toNatClampNeg x1))) ≤ x4 then (some (x3, z5.2)) else (if gj_in x4 101 then if gj_in (z5.2.1 7 (Int32.toNatClampNeg x4)) 100 then fn_Md_cost_15 n x1 x2 (x3 + ((z5.2.1 5 (Int32.toNatClampNeg (z5.2.1 7 (Int32.toNatClampNeg x4)))) - x2)) (x4 + 1) z5.2 else none else none) else none)
def fn_Md_cost (p1 : Int32) (u : gm_St) : Option (Int32 × gm_St) := (fn_Md_shared p1 u).bind fun z1 => ((fn_Md_begin p1 z1.2).bind fun z3 => (fn_Md_cost_15 gm_fu p1 z1.1 z1.1 z3.1 z3.2))
def fn_Md_leaf (p1 : Int32) (p2 : Int32) (u : gm_St) : Option (Int32 × gm_St) := (fn_Md_in p1 0 ((u.1 13 0) - 1) u).bind fun z1 => (if z1.1 = 0 then (some ((-1), z1.2)) else (if p2 = 0 then (if gj_in p1 102 then some ((z1.2.1 8 (Int32.toNatClampNeg p1)), z1.2) else none) else if p2 = 1 then ((fn_Md_shared p1 z1.2).bind fun z5 => (some (z5.1, z5.2))) else if p2 = 2 then ((fn_Md_cost p1 z1.2).bind fun z8 => (some (z8.1, z8.2))) else if p2 = 3 then ((fn_Md_begin p1 z1.2).bind fun z11 => (if gj_in z11.1 101 then some ((z11.2.1 7 (Int32.toNatClampNeg z11.1)), z11.2) else none)) else (some ((-1), z1.2))))
def fn_Md_count_66 : Nat → Int32 → Int32 → Int32 → gm_St → Option (Int32 × gm_St)
  | 0, _, _, _, _ => none
  | n + 1, x1, x2, x3, u => if (u.1 12 0) ≤ x3 then (some (x2, u)) else (if gj_in x3 101 then if gj_in (u.1 7 (Int32.toNatClampNeg x3)) 100 then if (u.1 4 (Int32.toNatClampNeg (u.1 7 (Int32.toNatClampNeg x3)))) = 0 then (fn_Md_count_66 n x1 (x2 + 1) (x3 + 1) u) else (fn_Md_count_66 n x1 (x2 + 0) (x3 + 1) u) else none else none)
def fn_Md_count_111 : Nat → Int32 → Int32 → Int32 → gm_St → Option (Int32 × gm_St)
  | 0, _, _, _, _ => none
  | n + 1, x1, x2, x3, u => if (u.1 13 0) ≤ x3 then (some (x2, u)) else ((fn_Md_cost x3 u).bind fun z11 => (fn_Md_count_111 n x1 (x2 + z11.1) (x3 + 1) z11.2))
def fn_Md_count (p1 : Int32) (u : gm_St) : Option (Int32 × gm_St) := if p1 = 0 then (some ((u.1 12 0), u)) else if p1 = 1 then (some ((u.1 13 0), u)) else if p1 = 2 then (some ((u.1 14 0), u)) else if p1 = 3 then (some ((u.1 15 0), u)) else if p1 = 4 then (fn_Md_count_66 gm_fu p1 0 0 u) else if p1 = 5 then (some ((u.1 0 0), u)) else if p1 = 6 then (fn_Md_count_111 gm_fu p1 0 0 u) else (some ((-1), u))
end
section
/-! ===== lN n to 2^64: shifts, and, or, masks, one bit ===== -/
theorem wb_tb (n : Nat) : (lN n).toBitVec = BitVec.ofNat 64 n := rfl
theorem wb_inj {a b : Int64} (h : a.toBitVec = b.toBitVec) : a = b := Int64.toBitVec_inj.mp h
theorem wb_tn {n : Nat} (h : n < 2 ^ 64) : (lN n).toBitVec.toNat = n := by rw [wb_tb, BitVec.toNat_ofNat, Nat.mod_eq_of_lt h]
theorem wb_of (x : Int64) : ∃ n, n < 2 ^ 64 ∧ x = lN n := ⟨x.toBitVec.toNat, x.toBitVec.isLt, wb_inj (by rw [wb_tb]; simp)⟩
theorem wb_of32 (x : Int32) : ∃ n, n < 2 ^ 32 ∧ x = nI n := ⟨x.toBitVec.toNat, x.toBitVec.isLt, Int32.toBitVec_inj.mp (by show _ = BitVec.ofNat 32 _; simp)⟩
theorem wb_c : ∀ k, k < 64 → ((nI k).toInt64 &&& 63) = lN k := by decide +kernel
theorem wb_cu : ∀ k, k < 64 → ((nI k).toInt64.toUInt64 &&& Int64.toUInt64 63) = UInt64.ofNat k := by decide +kernel
theorem wb_sm : ∀ k, k < 64 → (BitVec.ofNat 64 k).smod 64 = BitVec.ofNat 64 k := by decide +kernel
theorem wb_pw {a b : Nat} (h : a ≤ b) : 2 ^ b = 2 ^ a * 2 ^ (b - a) := by rw [← Nat.pow_add]; congr 1; omega
theorem wb_lt2 {a b : Nat} (h : a < b) : 2 ^ a < 2 ^ b := Nat.pow_lt_pow_right (by decide) h
theorem wb_mod (n : Nat) : lN n = lN (n % 2 ^ 64) := wb_inj (by rw [wb_tb, wb_tb]; apply BitVec.eq_of_toNat_eq; rw [BitVec.toNat_ofNat, BitVec.toNat_ofNat, Nat.mod_mod])
theorem wb_shr {n k : Nat} (hn : n < 2 ^ 64) (hk : k < 64) : ((lN n).toUInt64 >>> ((nI k).toInt64.toUInt64 &&& Int64.toUInt64 63)).toInt64 = lN (n / 2 ^ k) := by
  rw [wb_cu k hk]
  apply wb_inj
  apply BitVec.eq_of_toNat_eq
  show ((lN n).toUInt64 >>> UInt64.ofNat k).toNat = (BitVec.ofNat 64 _).toNat
  have h1 : (UInt64.ofNat k).toNat = k := by
    show (BitVec.ofNat 64 k).toNat = k
    rw [BitVec.toNat_ofNat, Nat.mod_eq_of_lt (by omega)]
  have h2 : (lN n).toUInt64.toNat = n := wb_tn hn
  rw [UInt64.toNat_shiftRight, h1, h2, Nat.mod_eq_of_lt hk, Nat.shiftRight_eq_div_pow, BitVec.toNat_ofNat, Nat.mod_eq_of_lt (Nat.lt_of_le_of_lt (Nat.div_le_self _ _) hn)]
theorem wb_shl (n : Nat) {k : Nat} (hk : k < 64) : lN n <<< ((nI k).toInt64 &&& 63) = lN (n * 2 ^ k) := by
  rw [wb_c k hk]
  apply wb_inj
  rw [Int64.toBitVec_shiftLeft, wb_tb, wb_tb, wb_tb, wb_sm k hk]
  apply BitVec.eq_of_toNat_eq
  rw [BitVec.shiftLeft_eq', BitVec.toNat_shiftLeft, BitVec.toNat_ofNat, BitVec.toNat_ofNat, BitVec.toNat_ofNat, Nat.mod_eq_of_lt (show k < 2 ^ 64 by omega), Nat.shiftLeft_eq, Nat.mul_mod, Nat.mod_mod, ← Nat.mul_mod]
theorem wb_and {a b : Nat} (ha : a < 2 ^ 64) (hb : b < 2 ^ 64) : lN a &&& lN b = lN (a &&& b) := by
  apply wb_inj
  rw [Int64.toBitVec_and, wb_tb, wb_tb, wb_tb]
  apply BitVec.eq_of_toNat_eq
  rw [BitVec.toNat_and, BitVec.toNat_ofNat, BitVec.toNat_ofNat, BitVec.toNat_ofNat, Nat.mod_eq_of_lt ha, Nat.mod_eq_of_lt hb, Nat.mod_eq_of_lt (Nat.and_lt_two_pow _ hb)]
theorem wb_or {a b : Nat} (ha : a < 2 ^ 64) (hb : b < 2 ^ 64) : lN a ||| lN b = lN (a ||| b) := by
  apply wb_inj
  rw [Int64.toBitVec_or, wb_tb, wb_tb, wb_tb]
  apply BitVec.eq_of_toNat_eq
  rw [BitVec.toNat_or, BitVec.toNat_ofNat, BitVec.toNat_ofNat, BitVec.toNat_ofNat, Nat.mod_eq_of_lt ha, Nat.mod_eq_of_lt hb, Nat.mod_eq_of_lt (Nat.or_lt_two_pow ha hb)]
theorem wb_mask {n k : Nat} (hn : n < 2 ^ 64) (hk : k < 64) : lN n &&& lN (2 ^ k - 1) = lN (n % 2 ^ k) := by
  rw [wb_and hn (by have := wb_lt2 hk; omega), Nat.and_two_pow_sub_one_eq_mod]
theorem wb_a1 {n : Nat} (hn : n < 2 ^ 64) : lN n &&& 1 = lN (n % 2) := wb_mask (k := 1) hn (by decide)
theorem wb_bit {n k : Nat} (hn : n < 2 ^ 64) (hk : k < 64) : ((lN n).toUInt64 >>> ((nI k).toInt64.toUInt64 &&& Int64.toUInt64 63)).toInt64 &&& 1 = lN (n / 2 ^ k % 2) := by
  rw [wb_shr hn hk, wb_a1 (Nat.lt_of_le_of_lt (Nat.div_le_self _ _) hn)]
theorem wb_xor {q k : Nat} (hk : k < 63) (h : 2 ^ k ≤ q) (h2 : q < 2 ^ (k + 1)) : lN q ^^^ lN (2 ^ k) = lN (q - 2 ^ k) := by
  obtain ⟨r, rfl⟩ : ∃ r, q = 2 ^ k + r := ⟨q - 2 ^ k, by omega⟩
  have hr : r < 2 ^ k := by rw [Nat.pow_succ] at h2; omega
  have hx : (2 ^ k + r) ^^^ 2 ^ k = r := by
    apply Nat.eq_of_testBit_eq
    intro i
    rw [Nat.testBit_xor, Nat.testBit_two_pow]
    rcases Nat.lt_trichotomy i k with h | h | h
    · rw [Nat.testBit_two_pow_add_gt h]
      simp [show ¬ k = i by omega]
    · subst h
      rw [Nat.testBit_two_pow_add_eq]
      simp
    · have a1 : 2 ^ (k + 1) ≤ 2 ^ i := Nat.pow_le_pow_right (by decide) h
      rw [Nat.testBit_lt_two_pow (show 2 ^ k + r < 2 ^ i by omega), Nat.testBit_lt_two_pow (show r < 2 ^ i by omega)]
      simp [show ¬ k = i by omega]
  have b1 := wb_lt2 (show k + 1 < 64 by omega)
  have b2 := wb_lt2 (show k < 64 by omega)
  apply wb_inj
  rw [Int64.toBitVec_xor, wb_tb, wb_tb, wb_tb]
  apply BitVec.eq_of_toNat_eq
  rw [BitVec.toNat_xor, BitVec.toNat_ofNat, BitVec.toNat_ofNat, BitVec.toNat_ofNat, Nat.mod_eq_of_lt (by omega : 2 ^ k + r < 2 ^ 64), Nat.mod_eq_of_lt b2, hx, Nat.add_sub_cancel_left, Nat.mod_eq_of_lt (by omega)]
end
section
/-! texts as functions of the place, zero behind the end; eight of their bytes as one number -/
def tx_enc (t : Nat → Nat) (o : Nat) : Nat → Nat
  | 0 => 0
  | n + 1 => tx_enc t o n * 256 + t (o + n)
theorem tx_lt {t : Nat → Nat} (h : ∀ i, t i < 256) (o : Nat) : ∀ n, tx_enc t o n < 256 ^ n
  | 0 => by simp [tx_enc]
  | n + 1 => by
    have h1 := tx_lt h o n
    have h2 := h (o + n)
    show tx_enc t o n * 256 + t (o + n) < 256 ^ (n + 1)
    rw [Nat.pow_succ]
    omega
theorem tx_app (t : Nat → Nat) (o m : Nat) : ∀ r, tx_enc t o (m + r) = tx_enc t o m * 256 ^ r + tx_enc t (o + m) r
  | 0 => by simp [tx_enc]
  | r + 1 => by
    have h1 := tx_app t o m r
    show tx_enc t o (m + r) * 256 + t (o + (m + r)) = tx_enc t o m * 256 ^ (r + 1) + (tx_enc t (o + m) r * 256 + t (o + m + r))
    rw [h1, Nat.pow_succ, ← Nat.mul_assoc, Nat.add_mul, Nat.add_assoc o m r]
    omega
theorem tx_div {t : Nat → Nat} (h : ∀ i, t i < 256) (o m r : Nat) : tx_enc t o (m + r) / 256 ^ r = tx_enc t o m := by
  rw [tx_app, Nat.mul_comm, Nat.mul_add_div (Nat.pow_pos (by decide)), Nat.div_eq_of_lt (tx_lt h _ _), Nat.add_zero]
theorem tx_byte {t : Nat → Nat} (h : ∀ i, t i < 256) (o i r : Nat) : tx_enc t o (i + 1 + r) / 256 ^ r % 256 = t (o + i) := by
  rw [tx_div h]
  show (tx_enc t o i * 256 + t (o + i)) % 256 = t (o + i)
  have h2 := h (o + i)
  omega
theorem tx_inj {a b : Nat → Nat} (ha : ∀ i, a i < 256) (hb : ∀ i, b i < 256) (o : Nat) : ∀ n, tx_enc a o n = tx_enc b o n ↔ ∀ i, i < n → a (o + i) = b (o + i)
  | 0 => by simp [tx_enc]
  | n + 1 => by
    have ih := tx_inj ha hb o n
    have h1 := ha (o + n)
    have h2 := hb (o + n)
    constructor
    · intro h i hi
      have h : tx_enc a o n * 256 + a (o + n) = tx_enc b o n * 256 + b (o + n) := h
      rcases Nat.lt_succ_iff_lt_or_eq.mp hi with q | rfl
      · exact ih.mp (by omega) i q
      · omega
    · intro h
      have e := ih.mpr (fun i hi => h i (by omega))
      have e2 := h n (by omega)
      show tx_enc a o n * 256 + a (o + n) = tx_enc b o n * 256 + b (o + n)
      rw [e, e2]
/-- a comes before b within the n places from o on -/
def tx_bef (a b : Nat → Nat) (o n : Nat) : Prop := ∃ i, i < n ∧ (∀ j, j < i → a (o + j) = b (o + j)) ∧ a (o + i) < b (o + i)
theorem tx_lex {a b : Nat → Nat} (ha : ∀ i, a i < 256) (hb : ∀ i, b i < 256) (o : Nat) : ∀ n, tx_enc a o n < tx_enc b o n ↔ tx_bef a b o n
  | 0 => by simp [tx_enc, tx_bef]
  | n + 1 => by
    have ih := tx_lex ha hb o n
    have ie := tx_inj ha hb o n
    have h1 := ha (o + n)
    have h2 := hb (o + n)
    constructor
    · intro h
      have h : tx_enc a o n * 256 + a (o + n) < tx_enc b o n * 256 + b (o + n) := h
      rcases Nat.lt_trichotomy (tx_enc a o n) (tx_enc b o n) with q | q | q
      · obtain ⟨i, hi, h3, h4⟩ := ih.mp q
        exact ⟨i, by omega, h3, h4⟩
      · exact ⟨n, by omega, ie.mp q, by omega⟩
      · omega
    · rintro ⟨i, hi, h3, h4⟩
      show tx_enc a o n * 256 + a (o + n) < tx_enc b o n * 256 + b (o + n)
      rcases Nat.lt_succ_iff_lt_or_eq.mp hi with q | rfl
      · have := ih.mpr ⟨i, q, h3, h4⟩
        omega
      · have := ie.mpr h3
        omega
theorem tx_xor0 {a b : Nat} : a ^^^ b = 0 ↔ a = b := by
  constructor
  · intro h
    apply Nat.eq_of_testBit_eq
    intro i
    have h1 : (a ^^^ b).testBit i = false := by rw [h]; simp
    rw [Nat.testBit_xor] at h1
    revert h1
    cases a.testBit i <;> cases b.testBit i <;> simp
  · rintro rfl
    simp
theorem tx_p8 (r : Nat) : 256 ^ r = 2 ^ (8 * r) := by rw [Nat.pow_mul]
theorem tx_xor {a b : Nat → Nat} (ha : ∀ i, a i < 256) (hb : ∀ i, b i < 256) (o i r : Nat) : tx_enc a o (i + r) ^^^ tx_enc b o (i + r) < 256 ^ r ↔ ∀ j, j < i → a (o + j) = b (o + j) := by
  rw [← tx_inj ha hb o i, ← tx_div ha o i r, ← tx_div hb o i r, ← tx_xor0]
  rw [tx_p8, ← Nat.xor_div_two_pow]
  constructor
  · exact fun h => Nat.div_eq_of_lt h
  · intro h
    rcases Nat.div_eq_zero_iff.mp h with q | q
    · exact absurd q (Nat.ne_of_gt (Nat.pow_pos (by decide)))
    · exact q
end
section
/-! the abstract state: numbers, laid out as the reference has them -/
abbrev ga_A : Type := Nat → Nat → Nat
def ga_v (a : ga_A) : gm_St := (fun c k => nI (a c k), fun _ _ => 0)
def ga_s (a : ga_A) (c k x : Nat) : ga_A := fun c' k' => if c' = c ∧ k' = k then x else a c' k'
/-- a component as a whole -/
def ga_c (a : ga_A) (c : Nat) (f : Nat → Nat) : ga_A := fun c' k' => if c' = c then f k' else a c' k'
theorem ga_r1 (a : ga_A) (c k x : Nat) : ga_s a c k x c k = x := by simp [ga_s]
theorem ga_r2 {a : ga_A} {c k x c' k' : Nat} (h : ¬ (c' = c ∧ k' = k)) : ga_s a c k x c' k' = a c' k' := by simp only [ga_s, if_neg h]
theorem ga_rc {a : ga_A} {c k x c' k' : Nat} (h : c' ≠ c) : ga_s a c k x c' k' = a c' k' := ga_r2 (fun q => h q.1)
theorem ga_rk {a : ga_A} {c k x k' : Nat} (h : k' ≠ k) : ga_s a c k x c k' = a c k' := ga_r2 (fun q => h q.2)
theorem ga_c1 (a : ga_A) (c : Nat) (f : Nat → Nat) (k : Nat) : ga_c a c f c k = f k := by simp [ga_c]
theorem ga_c2 {a : ga_A} {c : Nat} {f : Nat → Nat} {c' k : Nat} (h : c' ≠ c) : ga_c a c f c' k = a c' k := by simp [ga_c, h]
theorem ga_vs (a : ga_A) (c k x : Nat) : gm_sI (ga_v a) c k (nI x) = ga_v (ga_s a c k x) := by
  have h : (fun c' k' => if c' = c ∧ k' = k then nI x else nI (a c' k')) = fun c' k' => nI (ga_s a c k x c' k') := by
    funext c' k'
    unfold ga_s
    split <;> rfl
  show ((fun c' k' => if c' = c ∧ k' = k then nI x else nI (a c' k')), fun _ _ => 0) = _
  rw [h]
  rfl
theorem ga_vr (a : ga_A) (c k : Nat) : (ga_v a).1 c k = nI (a c k) := rfl
theorem ga_lt {a b : Nat} (h : a < b) : b - 1 + 1 = b := by omega
/-- sums of the first k -/
def ga_pre (f : Nat → Nat) : Nat → Nat
  | 0 => 0
  | k + 1 => ga_pre f k + f k
theorem ga_pre_mono (f : Nat → Nat) {i : Nat} : ∀ {j : Nat}, i ≤ j → ga_pre f i ≤ ga_pre f j := by
  intro j h
  induction j with
  | zero => rw [show i = 0 by omega]; exact Nat.le_refl _
  | succ j ih =>
    rcases Nat.lt_succ_iff_lt_or_eq.mp (Nat.lt_succ_of_le h) with q | rfl
    · exact Nat.le_trans (ih (by omega)) (Nat.le_add_right _ _)
    · exact Nat.le_refl _
theorem ga_pre_eq {f g : Nat → Nat} : ∀ {k : Nat}, (∀ j, j < k → f j = g j) → ga_pre f k = ga_pre g k := by
  intro k
  induction k with
  | zero => intro _; rfl
  | succ k ih => intro h; show ga_pre f k + f k = ga_pre g k + g k; rw [ih (fun j hj => h j (by omega)), h k (by omega)]
/-- nothing else than 'n is not zero' -/
theorem ga_su {n d : Nat} (h : d < n) : ∃ m, n = m + 1 := ⟨n - 1, by omega⟩
theorem md_in (a b c : Int32) (v : gm_St) : fn_Md_in a b c v = some (if b ≤ a ∧ a ≤ c then 1 else 0, v) := by
  unfold fn_Md_in
  by_cases h1 : a < b
  · rw [if_pos h1, if_neg (fun q => absurd h1 (Int32.not_lt.mpr q.1))]
  · rw [if_neg h1]
    by_cases h2 : c < a
    · rw [if_pos h2, if_neg (fun q => absurd h2 (Int32.not_lt.mpr q.2))]
    · rw [if_neg h2, if_pos ⟨Int32.not_lt.mp h1, Int32.not_lt.mp h2⟩]
theorem md_clear (a : ga_A) : fn_Md_clear (ga_v a) = some (nI (a 0 0), ga_v (ga_s a 0 0 0)) := by
  unfold fn_Md_clear
  rw [show (0 : Int32) = nI 0 from rfl, ga_vs]
  rfl
theorem md_begin_4 (a : ga_A) {k : Nat} (hk : k ≤ 102) : ∀ (d x n : Nat), x + d = k → d < n → fn_Md_begin_4 n (nI k) (nI (ga_pre (a 8) x)) (nI x) (ga_v a) = some (nI (ga_pre (a 8) k), ga_v a) := by
  intro d
  induction d with
  | zero =>
    intro x n hx hn
    obtain ⟨n, rfl⟩ := ga_su hn
    obtain rfl : x = k := by omega
    rw [fn_Md_begin_4, if_pos (nI_le (Nat.le_refl _) (by omega))]
  | succ d ih =>
    intro x n hx hn
    obtain ⟨n, rfl⟩ := ga_su hn
    rw [fn_Md_begin_4, if_neg (nI_ge (by omega) (by omega)), if_pos (nI_in (by omega) (by omega)), nI_clamp (by omega), nI_1]
    rw [show nI (ga_pre (a 8) x) + (ga_v a).1 8 x = nI (ga_pre (a 8) (x + 1)) from nI_add _ _]
    exact ih (x + 1) n (by omega) (by omega)
theorem md_begin (a : ga_A) {k : Nat} (hk : k ≤ 102) : fn_Md_begin (nI k) (ga_v a) = some (nI (ga_pre (a 8) k), ga_v a) :=
  md_begin_4 a hk k 0 gm_fu (by omega) (by unfold gm_fu; omega)
/-- where a number stands: the last place that holds it, by search -/
theorem md_placeOf_4 (a : ga_A) {t p : Nat} (hm : a 12 0 ≤ 100) (ht : t < 100) (hs : ∀ j, j < a 12 0 → a 7 j < 100) (hp : p < a 12 0) (hq : a 7 p = t) (hu : ∀ j, j < a 12 0 → a 7 j = t → j = p) :
    ∀ (d x n : Nat) (y : Int32), x + d = a 12 0 → d < n → (p < x → y = nI p) → fn_Md_placeOf_4 n (nI t) y (nI x) (ga_v a) = some (nI p, ga_v a) := by
  intro d
  induction d with
  | zero =>
    intro x n y hx hn hy
    obtain ⟨n, rfl⟩ := ga_su hn
    rw [fn_Md_placeOf_4, ga_vr, if_pos (nI_le (by omega) (by omega)), hy (by omega)]
  | succ d ih =>
    intro x n y hx hn hy
    obtain ⟨n, rfl⟩ := ga_su hn
    rw [fn_Md_placeOf_4, ga_vr, if_neg (nI_ge (by omega) (by omega)), if_pos (nI_in (by omega) (by omega)), nI_clamp (by omega), nI_1, ga_vr]
    have hx7 := hs x (by omega)
    by_cases h : a 7 x = t
    · rw [if_pos (by rw [h]), hu x (by omega) h]
      exact ih (p + 1) n _ (by have := hu x (by omega) h; omega) (by omega) (fun _ => rfl)
    · rw [if_neg (fun q => h ((nI_eq (by omega) (by omega)).mp q))]
      exact ih (x + 1) n y (by omega) (by omega) (fun q => hy (by
        rcases Nat.lt_succ_iff_lt_or_eq.mp q with r | r
        · exact r
        · exact absurd (r ▸ hq) h))
theorem md_placeOf (a : ga_A) {t p : Nat} (hm : a 12 0 ≤ 100) (ht : t < 100) (hs : ∀ j, j < a 12 0 → a 7 j < 100) (hp : p < a 12 0) (hq : a 7 p = t) (hu : ∀ j, j < a 12 0 → a 7 j = t → j = p) : fn_Md_placeOf (nI t) (ga_v a) = some (nI p, ga_v a) :=
  md_placeOf_4 a hm ht hs hp hq hu (a 12 0) 0 gm_fu (-1) (by omega) (by unfold gm_fu; omega) (fun h => absurd h (by omega))
end
section
/-! rows that move: the places above x up to L, taken one up; the places from p on below x, taken one down -/
def ga_up {α : Type} (f : Nat → α) (x L : Nat) : Nat → α := fun j => if x < j ∧ j ≤ L then f (j - 1) else f j
def ga_dn {α : Type} (f : Nat → α) (p x : Nat) : Nat → α := fun j => if p ≤ j ∧ j < x then f (j + 1) else f j
theorem ga_up0 {α : Type} (f : Nat → α) (L : Nat) : ga_up f L L = f := by
  funext j
  unfold ga_up
  rw [if_neg (by omega)]
theorem ga_dn0 {α : Type} (f : Nat → α) (p : Nat) : ga_dn f p p = f := by
  funext j
  unfold ga_dn
  rw [if_neg (by omega)]
theorem ga_cs (a : ga_A) (c : Nat) (f : Nat → Nat) (k x : Nat) : ga_s (ga_c a c f) c k x = ga_c a c (fun j => if j = k then x else f j) := by
  funext c' k'
  unfold ga_s ga_c
  by_cases h1 : c' = c
  · subst h1
    by_cases h2 : k' = k <;> simp [h2]
  · simp [h1]
theorem ga_c0 (a : ga_A) (c : Nat) : ga_c a c (a c) = a := by
  funext c' k'
  unfold ga_c
  split
  · rename_i h; rw [h]
  · rfl
theorem ga_up_s {α : Type} (f : Nat → α) {x L : Nat} (h : x + 1 ≤ L) : (fun j => if j = x + 1 then ga_up f (x + 1) L x else ga_up f (x + 1) L j) = ga_up f x L := by
  funext j
  unfold ga_up
  by_cases h1 : j = x + 1
  · subst h1
    rw [if_pos rfl, if_neg (by omega), if_pos (by omega)]
    rfl
  · rw [if_neg h1]
    by_cases h2 : x + 1 < j ∧ j ≤ L
    · rw [if_pos h2, if_pos (by omega)]
    · rw [if_neg h2, if_neg (by omega)]
theorem ga_dn_s {α : Type} (f : Nat → α) {p x : Nat} (h : p ≤ x) : (fun j => if j = x then ga_dn f p x (x + 1) else ga_dn f p x j) = ga_dn f p (x + 1) := by
  funext j
  unfold ga_dn
  by_cases h1 : j = x
  · subst h1
    rw [if_pos rfl, if_neg (by omega), if_pos (by omega)]
  · rw [if_neg h1]
    by_cases h2 : p ≤ j ∧ j < x
    · rw [if_pos h2, if_pos (by omega)]
    · rw [if_neg h2, if_neg (by omega)]
theorem md_insertLeaf_5 (a : ga_A) (f : Nat → Nat) {p s L : Nat} (hL : L ≤ 101) : ∀ (d x n : Nat), p + d = x → x ≤ L → d < n → fn_Md_insertLeaf_5 n (nI p) (nI s) (nI x) (ga_v (ga_c a 8 (ga_up f x L))) = some (ga_v (ga_s (ga_s (ga_c a 8 (ga_up f p L)) 8 p s) 13 0 (a 13 0 + 1))) := by
  intro d
  induction d with
  | zero =>
    intro x n hx hxL hn
    obtain ⟨n, rfl⟩ := ga_su hn
    obtain rfl : p = x := by omega
    rw [fn_Md_insertLeaf_5, if_pos (nI_le (Nat.le_refl _) (by omega)), if_pos (nI_in (by omega) (by omega)), nI_clamp (by omega), ga_vs, ga_vr, ga_rc (by decide), ga_c2 (by decide), nI_1, ga_vs]
  | succ d ih =>
    intro x n hx hxL hn
    obtain ⟨n, rfl⟩ := ga_su hn
    obtain rfl : x = p + d + 1 := by omega
    rw [fn_Md_insertLeaf_5, if_neg (nI_ge (by omega) (by omega)), nI_pred, if_pos (nI_in (by omega) (by omega)), if_pos (nI_in (by omega) (by omega)), nI_clamp (by omega), nI_clamp (by omega), pk_m1, ga_vr, ga_c1, ga_vs, ga_cs, ga_up_s f (by omega)]
    exact ih (p + d) n (by omega) (by omega) (by omega)
theorem md_insertLeaf (a : ga_A) {p s : Nat} (hL : a 13 0 ≤ 101) (hp : p ≤ a 13 0) : fn_Md_insertLeaf (nI p) (nI s) (ga_v a) = some (ga_v (ga_s (ga_s (ga_c a 8 (ga_up (a 8) p (a 13 0))) 8 p s) 13 0 (a 13 0 + 1))) := by
  have h := md_insertLeaf_5 a (a 8) (p := p) (s := s) hL (a 13 0 - p) (a 13 0) gm_fu (by omega) (Nat.le_refl _) (by unfold gm_fu; omega)
  rw [ga_up0, ga_c0] at h
  exact h
theorem md_dropLeaf_12 (a : ga_A) (f : Nat → Nat) {p : Nat} (hL : a 13 0 ≤ 101) : ∀ (d x n : Nat), x + d = a 13 0 → p ≤ x → d < n → fn_Md_dropLeaf_12 n (nI p) (nI x) (ga_v (ga_c a 8 (ga_dn f p x))) = some (ga_v (ga_c a 8 (ga_dn f p (a 13 0)))) := by
  intro d
  induction d with
  | zero =>
    intro x n hx hp hn
    obtain ⟨n, rfl⟩ := ga_su hn
    obtain rfl : x = a 13 0 := by omega
    rw [fn_Md_dropLeaf_12, ga_vr, ga_c2 (by decide), if_pos (nI_le (Nat.le_refl _) (by omega))]
  | succ d ih =>
    intro x n hx hp hn
    obtain ⟨n, rfl⟩ := ga_su hn
    rw [fn_Md_dropLeaf_12, ga_vr, ga_c2 (by decide), if_neg (nI_ge (by omega) (by omega)), nI_1, if_pos (nI_in (by omega) (by omega)), if_pos (nI_in (by omega) (by omega)), nI_clamp (by omega), nI_clamp (by omega), ga_vr, ga_c1, ga_vs, ga_cs, ga_dn_s f hp]
    exact ih (x + 1) n (by omega) (by omega) (by omega)
theorem md_dropLeaf (a : ga_A) {p : Nat} (hL : a 13 0 ≤ 102) (hp : p < a 13 0) : fn_Md_dropLeaf (nI p) (ga_v a) = some (ga_v (ga_c (ga_s a 13 0 (a 13 0 - 1)) 8 (ga_dn (a 8) p (a 13 0 - 1)))) := by
  unfold fn_Md_dropLeaf
  rw [ga_vr, show nI (a 13 0) - 1 = nI (a 13 0 - 1) from pk_sub (a := a 13 0) (b := 1) (by omega), ga_vs]
  have e1 : (ga_s a 13 0 (a 13 0 - 1)) 13 0 = a 13 0 - 1 := ga_r1 _ _ _ _
  have e2 : (ga_s a 13 0 (a 13 0 - 1)) 8 = a 8 := by funext k; exact ga_rc (by decide)
  have h := md_dropLeaf_12 (ga_s a 13 0 (a 13 0 - 1)) (a 8) (p := p) (by rw [e1]; omega) (a 13 0 - 1 - p) p gm_fu (by rw [e1]; omega) (Nat.le_refl _) (by unfold gm_fu; omega)
  rw [ga_dn0, e1, ← e2, ga_c0, e2] at h
  exact h
end
section
/-! texts and the tape, zero behind their ends; which comes first -/
def ga_T (a : ga_A) (k : Nat) : Nat → Nat := fun i => if i < a 5 k then a 6 (16 * k + i) else 0
def ga_P (a : ga_A) : Nat → Nat := fun i => if i < a 0 0 then a 1 i else 0
/-- a text of n bytes of 33 .. 126 -/
def ga_tok (f : Nat → Nat) (n : Nat) : Prop := n ≤ 16 ∧ ∀ i, i < n → 33 ≤ f i ∧ f i ≤ 126
def ga_ltk (a : ga_A) (t kd : Nat) : Prop := a 3 t < kd ∨ (a 3 t = kd ∧ tx_bef (ga_T a t) (ga_P a) 0 16)
def ga_eq (a : ga_A) (t kd : Nat) : Prop := a 3 t = kd ∧ ∀ i, i < 16 → ga_T a t i = ga_P a i
theorem ga_subneg {a b : Nat} (ha : a < 2 ^ 30) (hb : b < 2 ^ 30) : nI a - nI b < 0 ↔ a < b := by
  rw [Int32.lt_iff_toInt_lt, pk_sub_toInt ha hb, show (0 : Int32).toInt = 0 from rfl]
  omega
theorem ga_subz {a b : Nat} (ha : a < 2 ^ 30) (hb : b < 2 ^ 30) : nI a - nI b = 0 ↔ a = b := by
  rw [← Int32.toInt_inj, pk_sub_toInt ha hb, show (0 : Int32).toInt = 0 from rfl]
  omega
theorem tx_at {a b : Nat → Nat} {i n : Nat} (hi : i < n) (he : ∀ j, j < i → a j = b j) (hne : a i ≠ b i) : (tx_bef a b 0 n ↔ a i < b i) ∧ ¬ ∀ j, j < n → a j = b j := by
  refine ⟨⟨fun h => ?_, fun h => ⟨i, hi, fun j hj => by rw [Nat.zero_add]; exact he j hj, by rw [Nat.zero_add]; exact h⟩⟩, fun h => hne (h i hi)⟩
  obtain ⟨k, hk, h1, h2⟩ := h
  rw [Nat.zero_add] at h2
  rcases Nat.lt_trichotomy k i with q | q | q
  · rw [he k q] at h2
    omega
  · rw [← q]; exact h2
  · have := h1 i q
    rw [Nat.zero_add] at this
    exact absurd this hne
theorem tx_same {a b : Nat → Nat} {n : Nat} (he : ∀ j, j < n → a j = b j) : ¬ tx_bef a b 0 n := by
  rintro ⟨i, hi, -, h⟩
  rw [Nat.zero_add, he i hi] at h
  omega
theorem md_against_21 (a : ga_A) {t : Nat} (q : Int32) (ht : t < 100) (hT : ga_tok (fun i => a 6 (16 * t + i)) (a 5 t)) (hP : ga_tok (a 1) (a 0 0)) : ∀ (d x n : Nat), x + d = a 5 t → x ≤ a 0 0 → d < n → (∀ i, i < x → a 6 (16 * t + i) = a 1 i) →
    ∃ c, fn_Md_against_21 n (nI t) q (nI x) (ga_v a) = some (c, ga_v a) ∧ (c < 0 ↔ tx_bef (ga_T a t) (ga_P a) 0 16) ∧ (c = 0 ↔ ∀ i, i < 16 → ga_T a t i = ga_P a i) := by
  have h5 := hT.1
  have h0 := hP.1
  have gt : gj_in (nI t) 100 := nI_in ht (by omega)
  have ct : (nI t).toNatClampNeg = t := nI_clamp (by omega)
  intro d
  induction d with
  | zero =>
    intro x n hx hx0 hn he
    obtain ⟨n, rfl⟩ := ga_su hn
    refine ⟨nI (a 5 t) - nI (a 0 0), ?_, ?_⟩
    · rw [fn_Md_against_21]
      simp only [if_pos gt, ct, ga_vr]
      rw [if_pos (nI_le (by omega) (by omega))]
    · rw [ga_subneg (by omega) (by omega), ga_subz (by omega) (by omega)]
      have hb : ∀ j, j < a 5 t → ga_T a t j = ga_P a j := fun j hj => by
        unfold ga_T ga_P
        rw [if_pos hj, if_pos (by omega), he j (by omega)]
      by_cases hc : a 5 t = a 0 0
      · have hall : ∀ i, i < 16 → ga_T a t i = ga_P a i := fun i hi => by
          by_cases hl : i < a 5 t
          · exact hb i hl
          · unfold ga_T ga_P
            rw [if_neg hl, if_neg (by omega)]
        exact ⟨⟨fun h => absurd h (by omega), fun h => absurd h (tx_same hall)⟩, ⟨fun _ => hall, fun _ => hc⟩⟩
      · have hl := hP.2 (a 5 t) (by omega)
        have e1 : ga_T a t (a 5 t) = 0 := by unfold ga_T; rw [if_neg (by omega)]
        have e2 : ga_P a (a 5 t) = a 1 (a 5 t) := by unfold ga_P; rw [if_pos (by omega)]
        obtain ⟨g1, g2⟩ := tx_at (a := ga_T a t) (b := ga_P a) (i := a 5 t) (n := 16) (by omega) hb (by rw [e1, e2]; omega)
        rw [e1, e2] at g1
        exact ⟨⟨fun _ => g1.mpr (by omega), fun _ => by omega⟩, ⟨fun h => absurd h hc, fun h => absurd h g2⟩⟩
  | succ d ih =>
    intro x n hx hx0 hn he
    obtain ⟨n, rfl⟩ := ga_su hn
    have hb : ∀ j, j < x → ga_T a t j = ga_P a j := fun j hj => by
      unfold ga_T ga_P
      rw [if_pos (by omega), if_pos (by omega), he j hj]
    have b1 : 33 ≤ a 6 (16 * t + x) ∧ a 6 (16 * t + x) ≤ 126 := hT.2 x (by omega)
    have e1 : ga_T a t x = a 6 (16 * t + x) := by unfold ga_T; rw [if_pos (by omega)]
    by_cases hc : a 0 0 ≤ x
    · refine ⟨nI (a 5 t) - nI (a 0 0), ?_, ?_⟩
      · rw [fn_Md_against_21]
        simp only [if_pos gt, ct, ga_vr]
        rw [if_neg (nI_ge (by omega) (by omega)), if_pos (nI_le hc (by omega))]
      · rw [ga_subneg (by omega) (by omega), ga_subz (by omega) (by omega)]
        have e2 : ga_P a x = 0 := by unfold ga_P; rw [if_neg (by omega)]
        obtain ⟨g1, g2⟩ := tx_at (a := ga_T a t) (b := ga_P a) (i := x) (n := 16) (by omega) hb (by rw [e1, e2]; omega)
        rw [e1, e2] at g1
        exact ⟨⟨fun _ => by omega, fun h => absurd (g1.mp h) (by omega)⟩, ⟨fun _ => by omega, fun h => absurd h g2⟩⟩
    · have b2 : 33 ≤ a 1 x ∧ a 1 x ≤ 126 := hP.2 x (by omega)
      have e2 : ga_P a x = a 1 x := by unfold ga_P; rw [if_pos (by omega)]
      have i1 : (16 : Int32) * nI t + nI x = nI (16 * t + x) := by
        rw [show (16 : Int32) = nI 16 from rfl, pk_mul, nI_add]
      have step : fn_Md_against_21 (n + 1) (nI t) q (nI x) (ga_v a) = if nI (a 6 (16 * t + x)) - nI (a 1 x) = 0 then fn_Md_against_21 n (nI t) q (nI (x + 1)) (ga_v a) else some (nI (a 6 (16 * t + x)) - nI (a 1 x), ga_v a) := by
        rw [fn_Md_against_21]
        have gx : gj_in (nI x) 16 := nI_in (by omega) (by omega)
        have cx : (nI x).toNatClampNeg = x := nI_clamp (by omega)
        have gy : gj_in (nI (16 * t + x)) 1600 := nI_in (by omega) (by omega)
        have cy : (nI (16 * t + x)).toNatClampNeg = 16 * t + x := nI_clamp (by omega)
        simp only [if_pos gt, ct, ga_vr, i1, if_pos gx, cx, if_pos gy, cy, nI_1]
        rw [if_neg (nI_ge (by omega) (by omega)), if_neg (nI_ge (by omega) (by omega))]
      rw [step]
      by_cases hd : a 6 (16 * t + x) = a 1 x
      · rw [if_pos ((ga_subz (by omega) (by omega)).mpr hd)]
        exact ih (x + 1) n (by omega) (by omega) (by omega) (fun i hi => by
          rcases Nat.lt_succ_iff_lt_or_eq.mp hi with r | r
          · exact he i r
          · rw [r]; exact hd)
      · rw [if_neg (fun h => hd ((ga_subz (by omega) (by omega)).mp h))]
        refine ⟨_, rfl, ?_⟩
        rw [ga_subneg (by omega) (by omega), ga_subz (by omega) (by omega)]
        obtain ⟨g1, g2⟩ := tx_at (a := ga_T a t) (b := ga_P a) (i := x) (n := 16) (by omega) hb (by rw [e1, e2]; exact hd)
        rw [e1, e2] at g1
        exact ⟨g1.symm, ⟨fun h => absurd h hd, fun h => absurd h g2⟩⟩
theorem md_against (a : ga_A) {t kd : Nat} (ht : t < 100) (hk : a 3 t < 4) (hkd : kd < 4) (hT : ga_tok (fun i => a 6 (16 * t + i)) (a 5 t)) (hP : ga_tok (a 1) (a 0 0)) :
    ∃ c, fn_Md_against (nI t) (nI kd) (ga_v a) = some (c, ga_v a) ∧ (c < 0 ↔ ga_ltk a t kd) ∧ (c = 0 ↔ ga_eq a t kd) := by
  have h5 := hT.1
  unfold fn_Md_against ga_ltk ga_eq
  have gt : gj_in (nI t) 100 := nI_in ht (by omega)
  have ct : (nI t).toNatClampNeg = t := nI_clamp (by omega)
  simp only [if_pos gt, ct, ga_vr]
  by_cases h : a 3 t = kd
  · rw [if_pos (by rw [h])]
    obtain ⟨c, g0, g1, g2⟩ := md_against_21 a (nI kd) ht hT hP (a 5 t) 0 gm_fu (by omega) (by omega) (by unfold gm_fu; omega) (fun i hi => absurd hi (by omega))
    refine ⟨c, g0, g1.trans ⟨fun q => Or.inr ⟨h, q⟩, fun q => q.elim (fun r => absurd r (by omega)) (fun r => r.2)⟩, g2.trans ⟨fun q => ⟨h, q⟩, fun q => q.2⟩⟩
  · rw [if_neg (fun q => h ((nI_eq (by omega) (by omega)).mp q))]
    refine ⟨_, rfl, ?_⟩
    rw [ga_subneg (by omega) (by omega), ga_subz (by omega) (by omega)]
    exact ⟨⟨fun q => Or.inl q, fun q => q.elim id (fun r => absurd r.1 h)⟩, ⟨fun q => absurd q h, fun q => absurd q.1 h⟩⟩
end
section
/-! kind and text as one number: the order of the terms is the order of these -/
def ga_k (kd : Nat) (f : Nat → Nat) : Nat := kd * 256 ^ 16 + tx_enc f 0 16
def ga_K (a : ga_A) (t : Nat) : Nat := ga_k (a 3 t) (ga_T a t)
def ga_Q (a : ga_A) (kd : Nat) : Nat := ga_k kd (ga_P a)
theorem ga_pad {f : Nat → Nat} {n : Nat} (h : ga_tok f n) : ∀ i, (if i < n then f i else 0) < 256 := by
  intro i
  by_cases q : i < n
  · rw [if_pos q]; have := (h.2 i q).2; omega
  · rw [if_neg q]; decide
theorem ga_k_lt {k1 k2 : Nat} {f g : Nat → Nat} (hf : ∀ i, f i < 256) (hg : ∀ i, g i < 256) : ga_k k1 f < ga_k k2 g ↔ k1 < k2 ∨ (k1 = k2 ∧ tx_bef f g 0 16) := by
  have h1 := tx_lt hf 0 16
  have h2 := tx_lt hg 0 16
  rw [← tx_lex hf hg 0 16]
  unfold ga_k
  generalize tx_enc f 0 16 = x at h1
  generalize tx_enc g 0 16 = y at h2
  rw [show (256 : Nat) ^ 16 = 340282366920938463463374607431768211456 by decide] at *
  omega
theorem ga_k_eq {k1 k2 : Nat} {f g : Nat → Nat} (hf : ∀ i, f i < 256) (hg : ∀ i, g i < 256) : ga_k k1 f = ga_k k2 g ↔ k1 = k2 ∧ ∀ i, i < 16 → f i = g i := by
  have h1 := tx_lt hf 0 16
  have h2 := tx_lt hg 0 16
  have e := tx_inj hf hg 0 16
  simp only [Nat.zero_add] at e
  rw [← e]
  unfold ga_k
  generalize tx_enc f 0 16 = x at h1
  generalize tx_enc g 0 16 = y at h2
  rw [show (256 : Nat) ^ 16 = 340282366920938463463374607431768211456 by decide] at *
  omega
theorem md_againstK (a : ga_A) {t kd : Nat} (ht : t < 100) (hk : a 3 t < 4) (hkd : kd < 4) (hT : ga_tok (fun i => a 6 (16 * t + i)) (a 5 t)) (hP : ga_tok (a 1) (a 0 0)) :
    ∃ c, fn_Md_against (nI t) (nI kd) (ga_v a) = some (c, ga_v a) ∧ (c < 0 ↔ ga_K a t < ga_Q a kd) ∧ (c = 0 ↔ ga_K a t = ga_Q a kd) := by
  obtain ⟨c, g0, g1, g2⟩ := md_against a ht hk hkd hT hP
  exact ⟨c, g0, g1.trans (ga_k_lt (ga_pad hT) (ga_pad hP)).symm, g2.trans (ga_k_eq (ga_pad hT) (ga_pad hP)).symm⟩
/-- what holds of the terms that are in the book -/
def ga_ok (a : ga_A) : Prop := a 12 0 ≤ 100 ∧ ga_tok (a 1) (a 0 0) ∧ (∀ j, j < a 12 0 → a 7 j < 100) ∧ (∀ j, j < a 12 0 → a 3 (a 7 j) < 4 ∧ 1 ≤ a 5 (a 7 j) ∧ ga_tok (fun i => a 6 (16 * a 7 j + i)) (a 5 (a 7 j))) ∧ ∀ i j, i < j → j < a 12 0 → ga_K a (a 7 i) < ga_K a (a 7 j)
/-- the place of the tape's term of a kind -/
def ga_pl (a : ga_A) (kd p : Nat) : Prop := p ≤ a 12 0 ∧ (∀ j, j < p → ga_K a (a 7 j) < ga_Q a kd) ∧ ∀ j, p ≤ j → j < a 12 0 → ga_Q a kd ≤ ga_K a (a 7 j)
theorem ga_pl_ex {a : ga_A} (h : ga_ok a) (kd : Nat) : ∃ p, ga_pl a kd p := by
  obtain ⟨p, h1, h2⟩ := pk_least (fun p => a 12 0 ≤ p ∨ ga_Q a kd ≤ ga_K a (a 7 p)) ⟨a 12 0, Or.inl (Nat.le_refl _)⟩
  have hp : p ≤ a 12 0 := by
    rcases Nat.lt_or_ge (a 12 0) p with q | q
    · exact absurd (Or.inl (Nat.le_refl _)) (h2 _ q)
    · exact q
  refine ⟨p, hp, fun j hj => ?_, fun j h3 h4 => ?_⟩
  · rcases Nat.lt_or_ge (ga_K a (a 7 j)) (ga_Q a kd) with q | q
    · exact q
    · exact absurd (Or.inr q) (h2 j hj)
  · rcases h1 with q | q
    · omega
    · rcases Nat.lt_or_ge p j with r | r
      · exact Nat.le_trans q (Nat.le_of_lt (h.2.2.2.2 p j r h4))
      · rw [show j = p by omega]; exact q
theorem md_before_4 {a : ga_A} (h : ga_ok a) {kd p : Nat} (hkd : kd < 4) (hp : ga_pl a kd p) : ∀ (d x n : Nat), x + d = a 12 0 → d < n → fn_Md_before_4 n (nI kd) (nI (min x p)) (nI x) (ga_v a) = some (nI p, ga_v a) := by
  obtain ⟨h12, hP, h7, ht, -⟩ := h
  obtain ⟨p1, p2, p3⟩ := hp
  intro d
  induction d with
  | zero =>
    intro x n hx hn
    obtain ⟨n, rfl⟩ := ga_su hn
    rw [fn_Md_before_4, ga_vr, if_pos (nI_le (by omega) (by omega)), show min x p = p by omega]
  | succ d ih =>
    intro x n hx hn
    obtain ⟨n, rfl⟩ := ga_su hn
    obtain ⟨c, g0, g1, -⟩ := md_againstK a (h7 x (by omega)) (ht x (by omega)).1 hkd (ht x (by omega)).2.2 hP
    rw [fn_Md_before_4, ga_vr, if_neg (nI_ge (by omega) (by omega)), if_pos (nI_in (by omega) (by omega)), nI_clamp (by omega), ga_vr, g0, Option.bind_some, nI_1]
    show (if 0 ≤ c then fn_Md_before_4 n (nI kd) (nI (min x p) + 0) (nI (x + 1)) (ga_v a) else fn_Md_before_4 n (nI kd) (nI (min x p) + 1) (nI (x + 1)) (ga_v a)) = _
    by_cases q : x < p
    · rw [if_neg (fun r => absurd (g1.mpr (p2 x q)) (Int32.not_lt.mpr r)), nI_1, show min x p + 1 = min (x + 1) p by omega]
      exact ih (x + 1) n (by omega) (by omega)
    · have hc : 0 ≤ c := Int32.not_lt.mp (fun r => absurd (g1.mp r) (Nat.not_lt.mpr (p3 x (by omega) (by omega))))
      rw [if_pos hc, show nI (min x p) + 0 = nI (min (x + 1) p) by rw [show (0 : Int32) = nI 0 from rfl, nI_add]; congr 1; omega]
      exact ih (x + 1) n (by omega) (by omega)
theorem md_before {a : ga_A} (h : ga_ok a) {kd p : Nat} (hkd : kd < 4) (hp : ga_pl a kd p) : fn_Md_before (nI kd) (ga_v a) = some (nI p, ga_v a) := by
  have := md_before_4 h hkd hp (a 12 0) 0 gm_fu (by omega) (by have := h.1; unfold gm_fu; omega)
  rw [Nat.zero_min] at this
  exact this
/-- the tape's term is in the book: it stands at its place -/
def ga_is (a : ga_A) (kd p : Nat) : Prop := p < a 12 0 ∧ ga_K a (a 7 p) = ga_Q a kd
theorem md_numberOf_4 {a : ga_A} (h : ga_ok a) {kd p : Nat} (hkd : kd < 4) (hp : ga_pl a kd p) : ∀ (d x n : Nat) (y : Int32), x + d = a 12 0 → d < n → (x ≤ p → y = -1) → (p < x → ga_is a kd p → y = nI (a 7 p)) → (p < x → ¬ ga_is a kd p → y = -1) →
    ∃ r, fn_Md_numberOf_4 n (nI kd) y (nI x) (ga_v a) = some (r, ga_v a) ∧ (ga_is a kd p → r = nI (a 7 p)) ∧ (¬ ga_is a kd p → r = -1) := by
  have hok := h
  obtain ⟨h12, hP, h7, ht, hso⟩ := h
  obtain ⟨p1, p2, p3⟩ := hp
  intro d
  induction d with
  | zero =>
    intro x n y hx hn y1 y2 y3
    obtain ⟨n, rfl⟩ := ga_su hn
    refine ⟨y, by rw [fn_Md_numberOf_4, ga_vr, if_pos (nI_le (by omega) (by omega))], fun q => y2 (by have := q.1; omega) q, fun q => ?_⟩
    rcases Nat.lt_or_ge p x with r | r
    · exact y3 r q
    · exact y1 r
  | succ d ih =>
    intro x n y hx hn y1 y2 y3
    obtain ⟨n, rfl⟩ := ga_su hn
    obtain ⟨c, g0, g1, g2⟩ := md_againstK a (h7 x (by omega)) (ht x (by omega)).1 hkd (ht x (by omega)).2.2 hP
    have step : fn_Md_numberOf_4 (n + 1) (nI kd) y (nI x) (ga_v a) = if c = 0 then fn_Md_numberOf_4 n (nI kd) (nI (a 7 x)) (nI (x + 1)) (ga_v a) else fn_Md_numberOf_4 n (nI kd) y (nI (x + 1)) (ga_v a) := by
      have gx : gj_in (nI x) 101 := nI_in (by omega) (by omega)
      have cx : (nI x).toNatClampNeg = x := nI_clamp (by omega)
      rw [fn_Md_numberOf_4, ga_vr, if_neg (nI_ge (by omega) (by omega))]
      simp only [if_pos gx, cx, ga_vr, g0, Option.bind_some, nI_1]
    rw [step]
    by_cases hc : c = 0
    · have hk := g2.mp hc
      have hxp : x = p := by
        rcases Nat.lt_trichotomy x p with q | q | q
        · have := p2 x q; omega
        · exact q
        · have := hso p x q (by omega)
          have := p3 p (Nat.le_refl _) (by omega)
          omega
      subst hxp
      rw [if_pos hc]
      exact ih (x + 1) n _ (by omega) (by omega) (fun q => absurd q (by omega)) (fun _ _ => rfl) (fun _ q => absurd ⟨by omega, hk⟩ q)
    · rw [if_neg hc]
      refine ih (x + 1) n y (by omega) (by omega) (fun q => y1 (by omega)) (fun q r => ?_) (fun q r => ?_)
      · rcases Nat.lt_succ_iff_lt_or_eq.mp q with s | s
        · exact y2 s r
        · subst s; exact absurd (g2.mpr r.2) hc
      · rcases Nat.lt_succ_iff_lt_or_eq.mp q with s | s
        · exact y3 s r
        · exact y1 (by omega)
theorem md_numberOf {a : ga_A} (h : ga_ok a) {kd p : Nat} (hkd : kd < 4) (hp : ga_pl a kd p) : ∃ r, fn_Md_numberOf (nI kd) (ga_v a) = some (r, ga_v a) ∧ (ga_is a kd p → r = nI (a 7 p)) ∧ (¬ ga_is a kd p → r = -1) :=
  md_numberOf_4 h hkd hp (a 12 0) 0 gm_fu (-1) (by omega) (by have := h.1; unfold gm_fu; omega) (fun _ => rfl) (fun q => absurd q (by omega)) (fun q => absurd q (by omega))
end
section
/-! the class's reads, over what its rows hold -/
theorem gk_i1 (u : gk_St) (c k : Nat) (v : Int32) : (gk_sI u c k v).1 c k = v := by simp [gk_sI]
theorem gk_i2 {u : gk_St} {c k c' k' : Nat} {v : Int32} (h : ¬ (c' = c ∧ k' = k)) : (gk_sI u c k v).1 c' k' = u.1 c' k' := by simp only [gk_sI, if_neg h]
theorem gk_ic {u : gk_St} {c k c' k' : Nat} {v : Int32} (h : c' ≠ c) : (gk_sI u c k v).1 c' k' = u.1 c' k' := gk_i2 (fun q => h q.1)
theorem gk_ik {u : gk_St} {c k k' : Nat} {v : Int32} (h : k' ≠ k) : (gk_sI u c k v).1 c k' = u.1 c k' := gk_i2 (fun q => h q.2)
theorem gk_i3 (u : gk_St) (c k : Nat) (v : Int32) : (gk_sI u c k v).2 = u.2 := rfl
theorem gk_l1 (u : gk_St) (c k : Nat) (v : Int64) : (gk_sL u c k v).2 c k = v := by simp [gk_sL]
theorem gk_l2 {u : gk_St} {c k c' k' : Nat} {v : Int64} (h : ¬ (c' = c ∧ k' = k)) : (gk_sL u c k v).2 c' k' = u.2 c' k' := by simp only [gk_sL, if_neg h]
theorem gk_l3 (u : gk_St) (c k : Nat) (v : Int64) : (gk_sL u c k v).1 = u.1 := rfl
theorem bk_isKind (p : Int32) (u : gk_St) : fn_Bk_isKind p u = some (if 0 ≤ p ∧ p ≤ 3 then 1 else 0, u) := by
  unfold fn_Bk_isKind
  by_cases h1 : p < 0
  · rw [if_pos h1, if_neg (fun q => absurd h1 (Int32.not_lt.mpr q.1))]
  · rw [if_neg h1]
    by_cases h2 : 4 ≤ p
    · rw [if_pos h2, if_neg (fun q => absurd (Int32.le_trans h2 q.2) (by decide))]
    · have h3 : p ≤ 3 := by
        have := Int32.not_le.mp h2
        rw [Int32.lt_iff_toInt_lt, show (4 : Int32).toInt = 4 from rfl] at this
        rw [Int32.le_iff_toInt_le, show (3 : Int32).toInt = 3 from rfl]
        omega
      rw [if_neg h2, if_pos ⟨Int32.not_lt.mp h1, h3⟩]
theorem bk_numberAt {u : gk_St} {mn j : Nat} (h6 : u.1 6 0 = nI mn) (hm : mn ≤ 100) (hj : j < mn) : fn_Lv_numberAt (nI j) u = some (u.1 5 j, u) := by
  unfold fn_Lv_numberAt
  rw [if_neg (nI_pos (by omega)), h6, if_neg (nI_ge hj (by omega)), if_neg (show ¬ (100 : Int32) ≤ nI j from nI_ge (b := 100) (by omega) (by decide)), if_pos (nI_in (by omega) (by decide)), nI_clamp (by omega)]
theorem bk_numberAt_o {u : gk_St} {mn : Nat} {p : Int32} (h6 : u.1 6 0 = nI mn) (hp : p < 0 ∨ nI mn ≤ p) : fn_Lv_numberAt p u = some (-1, u) := by
  unfold fn_Lv_numberAt
  by_cases h : p < 0
  · rw [if_pos h]
  · rw [if_neg h, h6, if_pos (hp.resolve_left h)]
theorem bk_inBook {u : gk_St} {k : Nat} (hk : k < 100) : fn_Bk_inBook (nI k) u = some (if u.1 1 k = 0 then none else some k, u) := by
  unfold fn_Bk_inBook
  rw [if_neg (nI_pos (by omega)), if_pos (show nI k < (100 : Int32) from nI_lt (b := 100) hk (by decide)), if_pos (nI_in hk (by decide)), nI_clamp (by omega)]
  split <;> rfl
theorem bk_inBook_o {u : gk_St} {p : Int32} (hp : p < 0 ∨ 100 ≤ p) : fn_Bk_inBook p u = some (none, u) := by
  unfold fn_Bk_inBook
  by_cases h : p < 0
  · rw [if_pos h]
  · rw [if_neg h, if_neg (Int32.not_lt.mpr (hp.resolve_left h))]
theorem bk_sizeOf {u : gk_St} {lv j : Nat} (h8 : u.1 8 0 = nI lv) (hl : lv ≤ 100) (hj : j < lv) : fn_Lv_sizeOf (nI j) u = some (u.1 7 j, u) := by
  unfold fn_Lv_sizeOf
  rw [if_neg (nI_pos (by omega)), h8, if_neg (nI_ge hj (by omega)), if_neg (show ¬ (100 : Int32) ≤ nI j from nI_ge (b := 100) (by omega) (by decide)), if_pos (nI_in (by omega) (by decide)), nI_clamp (by omega)]
theorem bk_startOf_4 {u : gk_St} {f : Nat → Nat} {lv l : Nat} (h8 : u.1 8 0 = nI lv) (hl : lv ≤ 100) (hs : ∀ j, j < lv → u.1 7 j = nI (f j)) (hll : l ≤ lv) : ∀ (d x n : Nat), x + d = l → d < n → fn_Lv_startOf_4 n (nI l) (nI (ga_pre f x)) (nI x) u = some (nI (ga_pre f l), u) := by
  intro d
  induction d with
  | zero =>
    intro x n hx hn
    obtain ⟨n, rfl⟩ := ga_su hn
    obtain rfl : x = l := by omega
    rw [fn_Lv_startOf_4, if_pos (nI_le (Nat.le_refl _) (by omega))]
  | succ d ih =>
    intro x n hx hn
    obtain ⟨n, rfl⟩ := ga_su hn
    rw [fn_Lv_startOf_4, if_neg (nI_ge (by omega) (by omega)), h8, if_neg (nI_ge (by omega) (by omega)), bk_sizeOf h8 hl (by omega), Option.bind_some, hs x (by omega), nI_add, nI_1]
    exact ih (x + 1) n (by omega) (by omega)
theorem bk_startOf {u : gk_St} {f : Nat → Nat} {lv l : Nat} (h8 : u.1 8 0 = nI lv) (hl : lv ≤ 100) (hs : ∀ j, j < lv → u.1 7 j = nI (f j)) (hll : l ≤ lv) : fn_Lv_startOf (nI l) u = some (nI (ga_pre f l), u) :=
  bk_startOf_4 h8 hl hs hll l 0 gk_fu (by omega) (by unfold gk_fu; omega)
/-- the first leaf that reaches beyond p, else the last one -/
def ga_leaf (f : Nat → Nat) (lv p l : Nat) : Prop := l < lv ∧ (∀ j, j < l → ga_pre f (j + 1) ≤ p) ∧ (p < ga_pre f (l + 1) ∨ l + 1 = lv)
theorem ga_leaf_ex (f : Nat → Nat) {lv : Nat} (h : 0 < lv) (p : Nat) : ∃ l, ga_leaf f lv p l := by
  obtain ⟨l, h1, h2⟩ := pk_least (fun l => p < ga_pre f (l + 1) ∨ lv ≤ l + 1) ⟨lv, Or.inr (by omega)⟩
  refine ⟨l, ?_, fun j hj => ?_, ?_⟩
  · rcases Nat.lt_or_ge l lv with q | q
    · exact q
    · exact absurd (Or.inr (by omega)) (h2 (l - 1) (by omega))
  · rcases Nat.lt_or_ge p (ga_pre f (j + 1)) with q | q
    · exact absurd (Or.inl q) (h2 j hj)
    · exact q
  · rcases h1 with q | q
    · exact Or.inl q
    · rcases Nat.lt_or_ge (l + 1) lv with r | r
      · omega
      · rcases Nat.lt_or_ge lv (l + 1) with s | s
        · exact absurd (Or.inr (by omega)) (h2 (l - 1) (by omega))
        · exact Or.inr (by omega)
theorem bk_leafOf_4 {u : gk_St} {f : Nat → Nat} {lv p l : Nat} (h8 : u.1 8 0 = nI lv) (hl : lv ≤ 100) (hs : ∀ j, j < lv → u.1 7 j = nI (f j)) (hf : ∀ j, j < lv → f j ≤ 9) (hb : ga_pre f lv ≤ 1000) (hp : p < 2 ^ 30) (hll : ga_leaf f lv p l) : ∀ (d x n : Nat), x + d = lv → (x ≤ l ∨ x = lv ∧ l + 1 = lv) → d < n → fn_Lv_leafOf_4 n (nI p) (nI (ga_pre f x)) (nI x) u = some (nI l, u) := by
  obtain ⟨l1, l2, l3⟩ := hll
  intro d
  induction d with
  | zero =>
    intro x n hx hxl hn
    obtain ⟨n, rfl⟩ := ga_su hn
    obtain rfl : x = lv := by omega
    rw [fn_Lv_leafOf_4, h8, if_pos (nI_le (Nat.le_refl _) (by omega)), show nI x - 1 = nI (x - 1) from pk_sub (a := x) (b := 1) (by omega)]
    unfold fn_Ma_max
    rw [show (0 : Int32) = nI 0 from rfl, if_neg (nI_nlt (Nat.zero_le _) (by omega)), show x - 1 = l by omega]
  | succ d ih =>
    intro x n hx hxl hn
    obtain ⟨n, rfl⟩ := ga_su hn
    have hxl : x ≤ l := by omega
    have hm := ga_pre_mono f (i := x + 1) (j := lv) (by omega)
    rw [fn_Lv_leafOf_4, h8, if_neg (nI_ge (by omega) (by omega)), bk_sizeOf h8 hl (by omega), Option.bind_some, hs x (by omega), nI_add, nI_1]
    show (if nI (ga_pre f (x + 1)) ≤ nI p then fn_Lv_leafOf_4 n (nI p) (nI (ga_pre f (x + 1))) (nI (x + 1)) u else some (nI x, u)) = _
    by_cases h : ga_pre f (x + 1) ≤ p
    · rw [if_pos (nI_le h (by omega))]
      exact ih (x + 1) n (by omega) (by
        rcases Nat.lt_or_ge x l with q | q
        · exact Or.inl q
        · obtain rfl : x = l := by omega
          rcases l3 with r | r
          · omega
          · exact Or.inr ⟨r, r⟩) (by omega)
    · rw [if_neg (nI_ge (by omega) (by omega))]
      rcases Nat.lt_or_ge x l with q | q
      · exact absurd (l2 x q) h
      · rw [show x = l by omega]
theorem bk_leafOf {u : gk_St} {f : Nat → Nat} {lv p l : Nat} (h8 : u.1 8 0 = nI lv) (hl : lv ≤ 100) (hs : ∀ j, j < lv → u.1 7 j = nI (f j)) (hf : ∀ j, j < lv → f j ≤ 9) (hb : ga_pre f lv ≤ 1000) (hp : p < 2 ^ 30) (hll : ga_leaf f lv p l) : fn_Lv_leafOf (nI p) u = some (nI l, u) :=
  bk_leafOf_4 h8 hl hs hf hb hp hll lv 0 gk_fu (by omega) (Or.inl (Nat.zero_le _)) (by unfold gk_fu; omega)
theorem bk_leafOf0 {u : gk_St} (p : Int32) (h8 : u.1 8 0 = 0) : fn_Lv_leafOf p u = some (0, u) := by
  unfold fn_Lv_leafOf
  rw [show gk_fu = 999 + 1 from rfl, fn_Lv_leafOf_4, h8, if_pos (by decide)]
  rfl
/-- the place of a number: the first that holds it -/
theorem bk_placeOf_2 {u : gk_St} {g : Nat → Nat} {mn p t : Nat} (h6 : u.1 6 0 = nI mn) (hm : mn ≤ 100) (h5 : ∀ j, j < mn → u.1 5 j = nI (g j)) (hg : ∀ j, j < mn → g j < 100) (ht : t < 100) (hp : p < mn) (hq : g p = t) (hu : ∀ j, j < p → g j ≠ t) : ∀ (d x n : Nat), x + d = p → d < n → fn_Lv_placeOf_2 n (nI t) (nI x) u = some (nI p, u) := by
  intro d
  induction d with
  | zero =>
    intro x n hx hn
    obtain ⟨n, rfl⟩ := ga_su hn
    obtain rfl : x = p := by omega
    rw [fn_Lv_placeOf_2, h6, if_neg (nI_ge hp (by omega)), bk_numberAt h6 hm hp, Option.bind_some, h5 x hp, if_pos (by rw [hq])]
  | succ d ih =>
    intro x n hx hn
    obtain ⟨n, rfl⟩ := ga_su hn
    have := hg x (by omega)
    rw [fn_Lv_placeOf_2, h6, if_neg (nI_ge (by omega) (by omega)), bk_numberAt h6 hm (by omega), Option.bind_some, h5 x (by omega), if_neg (fun q => hu x (by omega) ((nI_eq (by omega) (by omega)).mp q)), nI_1]
    exact ih (x + 1) n (by omega) (by omega)
theorem bk_placeOf {u : gk_St} {g : Nat → Nat} {mn p t : Nat} (h6 : u.1 6 0 = nI mn) (hm : mn ≤ 100) (h5 : ∀ j, j < mn → u.1 5 j = nI (g j)) (hg : ∀ j, j < mn → g j < 100) (ht : t < 100) (hp : p < mn) (hq : g p = t) (hu : ∀ j, j < p → g j ≠ t) : fn_Lv_placeOf (nI t) u = some (nI p, u) :=
  bk_placeOf_2 h6 hm h5 hg ht hp hq hu p 0 gk_fu (by omega) (by unfold gk_fu; omega)
end
section
/-! a term goes: the reference's walk -/
def ga_drop (a : ga_A) (p : Nat) : ga_A := ga_c (ga_s a 13 0 (a 13 0 - 1)) 8 (ga_dn (a 8) p (a 13 0 - 1))
def ga_oth (a : ga_A) (l : Nat) : Nat := if a 13 0 ≤ l + 1 then l - 1 else l + 1
/-- leaf l has a term less already: it joins, takes, or is none -/
def ga_lf (a : ga_A) (l : Nat) : ga_A :=
  if 3 ≤ a 8 l then a
  else if a 13 0 ≤ 1 then (if a 8 l = 0 then ga_drop a l else a)
  else if 8 < a 8 l + a 8 (ga_oth a l) then ga_s (ga_s a 8 (ga_oth a l) (a 8 (ga_oth a l) - 1)) 8 l (a 8 l + 1)
  else ga_drop (ga_s a 8 (ga_oth a l) (a 8 (ga_oth a l) + a 8 l)) l
theorem md_dropLeaf' (a : ga_A) {p : Nat} (hL : a 13 0 ≤ 102) (hp : p < a 13 0) : fn_Md_dropLeaf (nI p) (ga_v a) = some (ga_v (ga_drop a p)) := md_dropLeaf a hL hp
set_option maxHeartbeats 1000000 in
theorem md_go_end (b : ga_A) {n : Nat} {x1 x2 : Int32} {l x : Nat} (hx : b 12 0 ≤ x) (hx2 : x < 2 ^ 31) (hl : l < b 13 0) (hL : b 13 0 ≤ 100) (h1 : 1 ≤ b 8 l) (h8 : ∀ j, j < b 13 0 → b 8 j ≤ 8) :
    fn_Md_go_45 (n + 1) x1 x2 (nI l) (nI x) (ga_v b) = some (ga_v (ga_lf (ga_s b 8 l (b 8 l - 1)) l)) := by
  have hl8 := h8 l hl
  have e0 : gm_sI (ga_v b) 8 l (nI (b 8 l) - 1) = ga_v (ga_s b 8 l (b 8 l - 1)) := by
    rw [show nI (b 8 l) - 1 = nI (b 8 l - 1) from pk_sub (a := b 8 l) (b := 1) h1, ga_vs]
  have gl : gj_in (nI l) 102 := nI_in (by omega) (by omega)
  have cl : (nI l).toNatClampNeg = l := nI_clamp (by omega)
  rw [fn_Md_go_45, ga_vr, if_pos (nI_le hx hx2)]
  simp only [if_pos gl, cl, ga_vr, e0]
  generalize hc : ga_s b 8 l (b 8 l - 1) = c
  have c8 : c 8 l = b 8 l - 1 := by rw [← hc]; exact ga_r1 _ _ _ _
  have c13 : c 13 0 = b 13 0 := by rw [← hc]; exact ga_rc (by decide)
  have c8' : ∀ j, j < c 13 0 → c 8 j ≤ 8 := fun j hj => by
    by_cases q : j = l
    · rw [q, c8]; omega
    · rw [← hc, ga_rk q]; exact h8 j (by omega)
  unfold ga_lf
  by_cases h3 : 3 ≤ c 8 l
  · rw [if_pos h3, if_pos (show (3 : Int32) ≤ nI (c 8 l) from nI_le (a := 3) h3 (by omega)), if_neg (show ¬ nI (c 8 l) = 0 from nI_ne0 (by omega) (by omega))]
  · rw [if_neg h3, if_neg (show ¬ (3 : Int32) ≤ nI (c 8 l) from nI_ge (b := 3) (by omega) (by decide))]
    by_cases h13 : c 13 0 ≤ 1
    · rw [if_pos h13, if_pos (show nI (c 13 0) ≤ (1 : Int32) from nI_le (b := 1) h13 (by decide))]
      by_cases hz : c 8 l = 0
      · rw [if_pos hz, if_pos (show nI (c 8 l) = 0 by rw [hz]; rfl), md_dropLeaf' c (by omega) (by omega)]
        rfl
      · rw [if_neg hz, if_neg (show ¬ nI (c 8 l) = 0 from nI_ne0 (by omega) (by omega))]
    · rw [if_neg h13, if_neg (show ¬ nI (c 13 0) ≤ (1 : Int32) from nI_ge (a := 1) (by omega) (by omega))]
      rw [nI_1]
      by_cases ho : c 13 0 ≤ l + 1
      · have hp : nI l - 1 = nI (l - 1) := pk_sub (a := l) (b := 1) (by omega)
        have go : gj_in (nI (l - 1)) 102 := nI_in (by omega) (by omega)
        have co : (nI (l - 1)).toNatClampNeg = l - 1 := nI_clamp (by omega)
        have e : ga_oth c l = l - 1 := by unfold ga_oth; rw [if_pos ho]
        have ho8 := c8' (l - 1) (by omega)
        have hl8' := c8' l (by omega)
        rw [if_pos (show nI (c 13 0) ≤ nI (l + 1) from nI_le ho (by omega)), e]
        simp only [hp, if_pos go, co, nI_add]
        by_cases h9 : 8 < c 8 l + c 8 (l - 1)
        · rw [if_pos h9, if_pos (show (8 : Int32) < nI (c 8 l + c 8 (l - 1)) from nI_lt (a := 8) h9 (by omega))]
          rw [show nI (c 8 (l - 1)) - 1 = nI (c 8 (l - 1) - 1) from pk_sub (a := c 8 (l - 1)) (b := 1) (by omega), ga_vs, ga_vr, ga_rk (by omega), nI_1, ga_vs]
        · rw [if_neg h9, if_neg (show ¬ (8 : Int32) < nI (c 8 l + c 8 (l - 1)) from nI_nlt (a := 8) (by omega) (by decide))]
          rw [ga_vs, md_dropLeaf' _ (by rw [ga_rc (by decide)]; omega) (by rw [ga_rc (by decide)]; omega)]
          rfl
      · have go : gj_in (nI (l + 1)) 102 := nI_in (by omega) (by omega)
        have co : (nI (l + 1)).toNatClampNeg = l + 1 := nI_clamp (by omega)
        have e : ga_oth c l = l + 1 := by unfold ga_oth; rw [if_neg ho]
        have ho8 := c8' (l + 1) (by omega)
        have hl8' := c8' l (by omega)
        rw [if_neg (show ¬ nI (c 13 0) ≤ nI (l + 1) from nI_ge (by omega) (by omega)), e]
        simp only [if_pos go, co, nI_add]
        by_cases h9 : 8 < c 8 l + c 8 (l + 1)
        · rw [if_pos h9, if_pos (show (8 : Int32) < nI (c 8 l + c 8 (l + 1)) from nI_lt (a := 8) h9 (by omega))]
          rw [show nI (c 8 (l + 1)) - 1 = nI (c 8 (l + 1) - 1) from pk_sub (a := c 8 (l + 1)) (b := 1) (by omega), ga_vs, ga_vr, ga_rk (by omega), nI_1, ga_vs]
        · rw [if_neg h9, if_neg (show ¬ (8 : Int32) < nI (c 8 l + c 8 (l + 1)) from nI_nlt (a := 8) (by omega) (by decide))]
          rw [ga_vs, md_dropLeaf' _ (by rw [ga_rc (by decide)]; omega) (by rw [ga_rc (by decide)]; omega)]
          rfl
end
section
/-! a term goes, whole -/
theorem gm_nar0 : vp_nar .boolean 0 = nI 0 := rfl
theorem gm_nar1 : vp_nar .boolean 1 = nI 1 := rfl
theorem md_go_45 (b : ga_A) (f : Nat → Nat) {x1 x2 : Int32} {l p : Nat} (h12 : b 12 0 ≤ 99) (hl : l < b 13 0) (hL : b 13 0 ≤ 100) (h1 : 1 ≤ b 8 l) (h8 : ∀ j, j < b 13 0 → b 8 j ≤ 8) : ∀ (d x n : Nat), x + d = b 12 0 → p ≤ x → d < n →
    fn_Md_go_45 n x1 x2 (nI l) (nI x) (ga_v (ga_c b 7 (ga_dn f p x))) = some (ga_v (ga_lf (ga_s (ga_c b 7 (ga_dn f p (b 12 0))) 8 l (b 8 l - 1)) l)) := by
  intro d
  induction d with
  | zero =>
    intro x n hx hp hn
    obtain ⟨n, rfl⟩ := ga_su hn
    obtain rfl : x = b 12 0 := by omega
    have h := md_go_end (ga_c b 7 (ga_dn f p (b 12 0))) (n := n) (x1 := x1) (x2 := x2) (l := l) (x := b 12 0) (by rw [ga_c2 (by decide)]; exact Nat.le_refl _) (by omega) (by rw [ga_c2 (by decide)]; exact hl) (by rw [ga_c2 (by decide)]; exact hL) (by rw [ga_c2 (by decide)]; exact h1) (by intro j hj; rw [ga_c2 (by decide)] at hj ⊢; exact h8 j hj)
    rw [ga_c2 (by decide)] at h
    exact h
  | succ d ih =>
    intro x n hx hp hn
    obtain ⟨n, rfl⟩ := ga_su hn
    rw [fn_Md_go_45, ga_vr, ga_c2 (by decide), if_neg (nI_ge (by omega) (by omega)), nI_1, if_pos (nI_in (by omega) (by omega)), if_pos (nI_in (by omega) (by omega)), nI_clamp (by omega), nI_clamp (by omega), ga_vr, ga_c1, ga_vs, ga_cs, ga_dn_s f hp]
    exact ih (x + 1) n (by omega) (by omega) (by omega)
def ga_go (a : ga_A) (p l : Nat) : ga_A := ga_lf (ga_s (ga_c (ga_s (ga_s a 2 (a 7 p) 0) 12 0 (a 12 0 - 1)) 7 (ga_dn (a 7) p (a 12 0 - 1))) 8 l (a 8 l - 1)) l
theorem md_go_8 (a : ga_A) {p l : Nat} (h12 : a 12 0 ≤ 100) (hp : p < a 12 0) (h7 : a 7 p < 100) (hlf : ga_leaf (a 8) (a 13 0) p l) (hpl : p < ga_pre (a 8) (l + 1)) (hL : a 13 0 ≤ 100) (h1 : 1 ≤ a 8 l) (h8 : ∀ j, j < a 13 0 → a 8 j ≤ 8) (hs : ga_pre (a 8) (a 13 0) ≤ 1000) : ∀ (d x n : Nat), x + d = l → d < n →
    fn_Md_go_8 n (nI (a 7 p)) (nI p) (nI x) (ga_v a) = some (ga_v (ga_go a p l)) := by
  obtain ⟨l1, l2, -⟩ := hlf
  intro d
  induction d with
  | zero =>
    intro x n hx hn
    obtain ⟨n, rfl⟩ := ga_su hn
    obtain rfl : x = l := by omega
    have hm := ga_pre_mono (a 8) (i := x + 1) (j := a 13 0) (by omega)
    rw [fn_Md_go_8, nI_1, md_begin a (by omega), Option.bind_some]
    show (if nI p < nI (ga_pre (a 8) (x + 1)) then _ else _) = _
    rw [if_pos (nI_lt hpl (by omega)), if_pos (nI_in h7 (by omega)), nI_clamp (by omega), gm_nar0]
    show fn_Md_go_45 gm_fu (nI (a 7 p)) (nI p) (nI x) (nI p) (gm_sI (gm_sI (ga_v a) 2 (a 7 p) (nI 0)) 12 0 ((gm_sI (ga_v a) 2 (a 7 p) (nI 0)).1 12 0 - 1)) = _
    rw [ga_vs, ga_vr, ga_rc (by decide), show nI (a 12 0) - 1 = nI (a 12 0 - 1) from pk_sub (a := a 12 0) (b := 1) (by omega), ga_vs]
    generalize hb : ga_s (ga_s a 2 (a 7 p) 0) 12 0 (a 12 0 - 1) = b
    have b12 : b 12 0 = a 12 0 - 1 := by rw [← hb]; exact ga_r1 _ _ _ _
    have b13 : b 13 0 = a 13 0 := by rw [← hb, ga_rc (by decide), ga_rc (by decide)]
    have b8 : ∀ j, b 8 j = a 8 j := fun j => by rw [← hb, ga_rc (by decide), ga_rc (by decide)]
    have b7 : b 7 = a 7 := by funext j; rw [← hb, ga_rc (by decide), ga_rc (by decide)]
    have h := md_go_45 b (a 7) (x1 := nI (a 7 p)) (x2 := nI p) (l := x) (p := p) (by omega) (by omega) (by omega) (by rw [b8]; exact h1) (by intro j hj; rw [b8]; exact h8 j (by omega)) (a 12 0 - 1 - p) p gm_fu (by omega) (Nat.le_refl _) (by unfold gm_fu; omega)
    rw [ga_dn0, ← b7, ga_c0, b12, b8, b7] at h
    rw [h]
    unfold ga_go
    rw [hb]
  | succ d ih =>
    intro x n hx hn
    obtain ⟨n, rfl⟩ := ga_su hn
    rw [fn_Md_go_8, nI_1, md_begin a (by omega), Option.bind_some]
    show (if nI p < nI (ga_pre (a 8) (x + 1)) then _ else fn_Md_go_8 n (nI (a 7 p)) (nI p) (nI (x + 1)) (ga_v a)) = _
    rw [if_neg (nI_nlt (l2 x (by omega)) (by omega))]
    exact ih (x + 1) n (by omega) (by omega)
theorem md_go (a : ga_A) {p l : Nat} (h12 : a 12 0 ≤ 100) (hp : p < a 12 0) (h7 : ∀ j, j < a 12 0 → a 7 j < 100) (hu : ∀ j, j < a 12 0 → a 7 j = a 7 p → j = p) (hlf : ga_leaf (a 8) (a 13 0) p l) (hpl : p < ga_pre (a 8) (l + 1)) (hL : a 13 0 ≤ 100) (h1 : 1 ≤ a 8 l) (h8 : ∀ j, j < a 13 0 → a 8 j ≤ 8) (hs : ga_pre (a 8) (a 13 0) ≤ 1000) : fn_Md_go (nI (a 7 p)) (ga_v a) = some (ga_v (ga_go a p l)) := by
  unfold fn_Md_go
  rw [md_placeOf a h12 (h7 p hp) h7 hp rfl hu, Option.bind_some]
  have := hlf.1
  exact md_go_8 a h12 hp (h7 p hp) hlf hpl hL h1 h8 hs l 0 gm_fu (by omega) (by unfold gm_fu; omega)
end
section
/-! the class compares by longs -/
theorem lo_cmp (x y : Int64) : (fn_Lo_compare x y < 0 ↔ x < y) ∧ (fn_Lo_compare x y = 0 ↔ x = y) := by
  unfold fn_Lo_compare lg_cmp
  by_cases h1 : y < x
  · have h2 : ¬ x < y := fun q => absurd (Int64.lt_trans q h1) (Int64.lt_irrefl)
    have h3 : ¬ x = y := fun q => by subst q; exact absurd h1 Int64.lt_irrefl
    rw [if_pos (show x > y from h1), if_pos (by decide), if_neg (by decide)]
    exact ⟨⟨fun q => absurd q (by decide), fun q => absurd q h2⟩, ⟨fun q => absurd q (by decide), fun q => absurd q h3⟩⟩
  · rw [if_neg (show ¬ x > y from h1)]
    by_cases h2 : x = y
    · rw [if_pos h2, if_pos (by decide), if_pos rfl]
      exact ⟨⟨fun q => absurd q (by decide), fun q => by subst h2; exact absurd q Int64.lt_irrefl⟩, ⟨fun _ => h2, fun _ => rfl⟩⟩
    · rw [if_neg h2, if_neg (by decide)]
      have h3 : x < y := by
        rcases Int64.lt_or_lt_of_ne h2 with q | q
        · exact q
        · exact absurd q h1
      exact ⟨⟨fun _ => h3, fun _ => by decide⟩, ⟨fun q => absurd q (by decide), fun q => absurd q h2⟩⟩
theorem in_cmp (x y : Int32) : (fn_In_compare x y < 0 ↔ x < y) ∧ (fn_In_compare x y = 0 ↔ x = y) := by
  unfold fn_In_compare
  by_cases h1 : y ≤ x
  · rw [if_pos h1]
    have h2 : ¬ x < y := Int32.not_lt.mpr h1
    by_cases h3 : x = y
    · rw [if_pos h3]
      exact ⟨⟨fun q => absurd q (by decide), fun q => absurd q h2⟩, ⟨fun _ => h3, fun _ => rfl⟩⟩
    · rw [if_neg h3]
      exact ⟨⟨fun q => absurd q (by decide), fun q => absurd q h2⟩, ⟨fun q => absurd q (by decide), fun q => absurd q h3⟩⟩
  · rw [if_neg h1]
    have h2 : x < y := Int32.not_le.mp h1
    exact ⟨⟨fun _ => h2, fun _ => by decide⟩, ⟨fun q => absurd q (by decide), fun q => by subst q; exact absurd h2 Int32.lt_irrefl⟩⟩
theorem lg_0 (x y : Int64) : lg_cmp x y = 0 ↔ x = y := by
  unfold lg_cmp
  by_cases h1 : y < x
  · rw [if_pos (show x > y from h1)]
    exact ⟨fun q => absurd q (by decide), fun q => by subst q; exact absurd h1 Int64.lt_irrefl⟩
  · rw [if_neg (show ¬ x > y from h1)]
    by_cases h2 : x = y
    · rw [if_pos h2]; exact ⟨fun _ => h2, fun _ => rfl⟩
    · rw [if_neg h2]; exact ⟨fun q => absurd q (by decide), fun q => absurd q h2⟩
theorem tx_lt7 {t : Nat → Nat} (h : ∀ i, t i < 128) (o : Nat) : tx_enc t o 8 < 2 ^ 63 := by
  have h1 := tx_app t o 1 7
  have h2 := tx_lt (t := t) (fun i => Nat.lt_of_lt_of_le (h i) (by decide)) (o + 1) 7
  have h3 : tx_enc t o 1 = t o := by show 0 * 256 + t (o + 0) = t o; simp
  have h4 := h o
  rw [show (8 : Nat) = 1 + 7 from rfl, h1, h3]
  rw [show (256 : Nat) ^ 7 = 72057594037927936 by decide] at *
  rw [show (2 : Nat) ^ 63 = 9223372036854775808 by decide]
  omega
theorem tx_16 (t : Nat → Nat) : tx_enc t 0 16 = tx_enc t 0 8 * 256 ^ 8 + tx_enc t 8 8 := tx_app t 0 8 8
/-- text k's longs and the other's, compared: the order of the texts -/
theorem bk_cmpT {u : gk_St} {k q : Nat} {f g : Nat → Nat} (hf : ∀ i, f i < 128) (hg : ∀ i, g i < 128) (f0 : u.2 0 k = lN (tx_enc f 0 8)) (f1 : u.2 1 k = lN (tx_enc f 8 8)) (g0 : u.2 0 q = lN (tx_enc g 0 8)) (g1 : u.2 1 q = lN (tx_enc g 8 8)) :
    ∃ c, fn_Tx_compareWith k q u = some (c, u) ∧ (c < 0 ↔ tx_enc f 0 16 < tx_enc g 0 16) ∧ (c = 0 ↔ tx_enc f 0 16 = tx_enc g 0 16) := by
  have a1 := tx_lt7 hf 0
  have a2 := tx_lt7 hf 8
  have b1 := tx_lt7 hg 0
  have b2 := tx_lt7 hg 8
  have c1 := tx_lt (t := f) (fun i => Nat.lt_of_lt_of_le (hf i) (by decide)) 8 8
  have c2 := tx_lt (t := g) (fun i => Nat.lt_of_lt_of_le (hg i) (by decide)) 8 8
  rw [tx_16 f, tx_16 g]
  unfold fn_Tx_compareWith
  rw [f0, f1, g0, g1]
  generalize tx_enc f 0 8 = x0 at *
  generalize tx_enc g 0 8 = y0 at *
  generalize tx_enc f 8 8 = x1 at *
  generalize tx_enc g 8 8 = y1 at *
  rw [show (256 : Nat) ^ 8 = 18446744073709551616 by decide] at *
  by_cases h : x0 = y0
  · rw [if_pos ((lg_0 _ _).mpr (by rw [h]))]
    refine ⟨_, rfl, ?_⟩
    rw [(lo_cmp _ _).1, (lo_cmp _ _).2, pk_lLT a2 b2, pk_lEQ a2 b2]
    omega
  · rw [if_neg (fun r => h ((pk_lEQ a1 b1).mp ((lg_0 _ _).mp r)))]
    refine ⟨_, rfl, ?_⟩
    rw [(lo_cmp _ _).1, (lo_cmp _ _).2, pk_lLT a1 b1, pk_lEQ a1 b1]
    omega
theorem bk_cmp {u : gk_St} {k kk kd : Nat} {f g : Nat → Nat} (hf : ∀ i, f i < 128) (hg : ∀ i, g i < 128) (h2 : u.1 2 k = nI kk) (hkk : kk < 4) (hkd : kd < 4) (f0 : u.2 0 k = lN (tx_enc f 0 8)) (f1 : u.2 1 k = lN (tx_enc f 8 8)) (g0 : u.2 0 100 = lN (tx_enc g 0 8)) (g1 : u.2 1 100 = lN (tx_enc g 8 8)) :
    ∃ c, fn_Tm_compareWith k (nI kd) 100 u = some (c, u) ∧ (c < 0 ↔ ga_k kk f < ga_k kd g) ∧ (c = 0 ↔ ga_k kk f = ga_k kd g) := by
  have c1 := tx_lt (t := f) (fun i => Nat.lt_of_lt_of_le (hf i) (by decide)) 0 16
  have c2 := tx_lt (t := g) (fun i => Nat.lt_of_lt_of_le (hg i) (by decide)) 0 16
  unfold fn_Tm_compareWith
  rw [h2]
  by_cases h : kk = kd
  · rw [if_pos (by rw [h])]
    obtain ⟨c, e, e1, e2⟩ := bk_cmpT (q := 100) hf hg f0 f1 g0 g1
    rw [e]
    refine ⟨c, rfl, e1.trans ?_, e2.trans ?_⟩
    · unfold ga_k; rw [h]; omega
    · unfold ga_k; rw [h]; omega
  · rw [if_neg (fun q => h ((nI_eq (by omega) (by omega)).mp q))]
    refine ⟨_, rfl, ?_⟩
    rw [(in_cmp _ _).1, (in_cmp _ _).2, nI_ltI (by omega) (by omega), nI_eq (by omega) (by omega)]
    unfold ga_k
    generalize tx_enc f 0 16 = x0 at *
    generalize tx_enc g 0 16 = y0 at *
    rw [show (256 : Nat) ^ 16 = 340282366920938463463374607431768211456 by decide] at *
    omega
end
section
/-! how many zeros lead: what the JDK's walk answers -/
theorem nz_mod (n : Nat) : nI n = nI (n % 2 ^ 32) := Int32.toBitVec_inj.mp (by
  show BitVec.ofNat 32 n = BitVec.ofNat 32 (n % 2 ^ 32)
  apply BitVec.eq_of_toNat_eq
  rw [BitVec.toNat_ofNat, BitVec.toNat_ofNat, Nat.mod_mod])
theorem nz_neg {a : Nat} (h : 2 ^ 31 ≤ a) (h2 : a < 2 ^ 32) : nI a < 0 := by
  rw [Int32.lt_iff_toInt_lt]
  have : (nI a).toInt = (a : Int) - 2 ^ 32 := by
    show (Int32.ofNat a).toInt = _
    rw [Int32.toInt_ofNat', show Int32.size = 4294967296 from rfl, Int.bmod_def]
    omega
  rw [this, show (0 : Int32).toInt = 0 from rfl]
  omega
theorem nI_of_ne (m : Nat) (h0 : 0 < m) (h : m < 2 ^ 32) : nI m = 0 → False := by
  intro q
  have := congrArg (fun z : Int32 => z.toBitVec.toNat) q
  simp only [pk_tn h] at this
  rw [show ((0 : Int32).toBitVec.toNat) = 0 from rfl] at this
  omega
theorem nz_73 {a N : Nat} (h1 : 1 ≤ a) (h2 : a < 4) (hN : 1 ≤ N) : ∃ L, L ≤ 1 ∧ 2 ^ L ≤ a ∧ a < 2 ^ (L + 1) ∧ fn_In_numberOfLeadingZeros_73 (nI a) (nI N) = nI (N - L) := by
  have e : fn_In_numberOfLeadingZeros_73 (nI a) (nI N) = nI (N - a / 2) := by
    unfold fn_In_numberOfLeadingZeros_73 gj_iushr
    rw [pk_ushrN (by omega) 1 1 (by decide), pk_sub (by omega)]
  rcases (show a = 1 ∨ a = 2 ∨ a = 3 by omega) with rfl | rfl | rfl
  · exact ⟨0, by decide, by decide, by decide, e⟩
  · exact ⟨1, by decide, by decide, by decide, e⟩
  · exact ⟨1, by decide, by decide, by decide, e⟩
theorem nz_up {a L k : Nat} (h1 : 2 ^ L ≤ a / 2 ^ k) (h2 : a / 2 ^ k < 2 ^ (L + 1)) : 2 ^ (L + k) ≤ a ∧ a < 2 ^ (L + k + 1) := by
  have hp : 0 < 2 ^ k := Nat.pow_pos (by decide)
  constructor
  · rw [Nat.pow_add]
    exact (Nat.le_div_iff_mul_le hp).mp h1
  · rw [show L + k + 1 = (L + 1) + k by omega, Nat.pow_add]
    exact (Nat.div_lt_iff_lt_mul hp).mp h2
theorem nz_m (N k : Nat) (h : k ≤ N) : nI N + (-(nI k)) = nI (N - k) := by
  rw [← Int32.sub_eq_add_neg]
  exact pk_sub h
theorem nz_61 {a N : Nat} (h1 : 1 ≤ a) (h2 : a < 16) (hN : 3 ≤ N) (hN2 : N < 2 ^ 31) : ∃ L, L ≤ 3 ∧ 2 ^ L ≤ a ∧ a < 2 ^ (L + 1) ∧ fn_In_numberOfLeadingZeros_61 (nI a) (nI N) = nI (N - L) := by
  unfold fn_In_numberOfLeadingZeros_61
  by_cases h : a < 4
  · rw [if_pos (show nI a < (4 : Int32) from nI_lt (b := 4) h (by decide))]
    obtain ⟨L, l0, l1, l2, l3⟩ := nz_73 h1 h (show 1 ≤ N by omega)
    exact ⟨L, by omega, l1, l2, l3⟩
  · rw [if_neg (show ¬ nI a < (4 : Int32) from nI_nlt (b := 4) (by omega) (by omega))]
    have e : gj_iushr (nI a) 2 = nI (a / 2 ^ 2) := by unfold gj_iushr; exact pk_ushrN (by omega) 2 2 (by decide)
    obtain ⟨L, l0, l1, l2, l3⟩ := nz_73 (a := a / 2 ^ 2) (N := N - 2) (by omega) (by omega) (by omega)
    rw [e, show nI N + (-2) = nI (N - 2) from nz_m N 2 (by omega), l3]
    obtain ⟨g1, g2⟩ := nz_up l1 l2
    exact ⟨L + 2, by omega, g1, g2, by congr 1; omega⟩
theorem nz_48 {a N : Nat} (h1 : 1 ≤ a) (h2 : a < 256) (hN : 7 ≤ N) (hN2 : N < 2 ^ 31) : ∃ L, L ≤ 7 ∧ 2 ^ L ≤ a ∧ a < 2 ^ (L + 1) ∧ fn_In_numberOfLeadingZeros_48 (nI a) (nI N) = nI (N - L) := by
  unfold fn_In_numberOfLeadingZeros_48
  by_cases h : a < 16
  · rw [if_pos (show nI a < (16 : Int32) from nI_lt (b := 16) h (by decide))]
    obtain ⟨L, l0, l1, l2, l3⟩ := nz_61 h1 h (show 3 ≤ N by omega) hN2
    exact ⟨L, by omega, l1, l2, l3⟩
  · rw [if_neg (show ¬ nI a < (16 : Int32) from nI_nlt (b := 16) (by omega) (by omega))]
    have e : gj_iushr (nI a) 4 = nI (a / 2 ^ 4) := by unfold gj_iushr; exact pk_ushrN (by omega) 4 4 (by decide)
    obtain ⟨L, l0, l1, l2, l3⟩ := nz_61 (a := a / 2 ^ 4) (N := N - 4) (by omega) (by omega) (by omega) (by omega)
    rw [e, show nI N + (-4) = nI (N - 4) from nz_m N 4 (by omega), l3]
    obtain ⟨g1, g2⟩ := nz_up l1 l2
    exact ⟨L + 4, by omega, g1, g2, by congr 1; omega⟩
theorem nz_33 {a N : Nat} (h1 : 1 ≤ a) (h2 : a < 65536) (hN : 15 ≤ N) (hN2 : N < 2 ^ 31) : ∃ L, L ≤ 15 ∧ 2 ^ L ≤ a ∧ a < 2 ^ (L + 1) ∧ fn_In_numberOfLeadingZeros_33 (nI a) (nI N) = nI (N - L) := by
  unfold fn_In_numberOfLeadingZeros_33
  by_cases h : a < 256
  · rw [if_pos (show nI a < (256 : Int32) from nI_lt (b := 256) h (by decide))]
    obtain ⟨L, l0, l1, l2, l3⟩ := nz_48 h1 h (show 7 ≤ N by omega) hN2
    exact ⟨L, by omega, l1, l2, l3⟩
  · rw [if_neg (show ¬ nI a < (256 : Int32) from nI_nlt (b := 256) (by omega) (by omega))]
    have e : gj_iushr (nI a) 8 = nI (a / 2 ^ 8) := by unfold gj_iushr; exact pk_ushrN (by omega) 8 8 (by decide)
    obtain ⟨L, l0, l1, l2, l3⟩ := nz_48 (a := a / 2 ^ 8) (N := N - 8) (by omega) (by omega) (by omega) (by omega)
    rw [e, show nI N + (-8) = nI (N - 8) from nz_m N 8 (by omega), l3]
    obtain ⟨g1, g2⟩ := nz_up l1 l2
    exact ⟨L + 8, by omega, g1, g2, by congr 1; omega⟩
/-- an int: 32 for zero, else 31 less the place of the highest bit -/
theorem nz_In {a : Nat} (h1 : 1 ≤ a) (h2 : a < 2 ^ 32) : ∃ L, L ≤ 31 ∧ 2 ^ L ≤ a ∧ a < 2 ^ (L + 1) ∧ fn_In_numberOfLeadingZeros (nI a) = nI (31 - L) := by
  unfold fn_In_numberOfLeadingZeros
  by_cases h : a < 2 ^ 31
  · rw [if_pos (show (0 : Int32) < nI a from nI_lt (a := 0) (by omega) h)]
    by_cases h3 : a < 65536
    · rw [if_pos (show nI a < (65536 : Int32) from nI_lt (b := 65536) h3 (by decide))]
      obtain ⟨L, l0, l1, l2, l3⟩ := nz_33 h1 h3 (show 15 ≤ 31 by decide) (by decide)
      exact ⟨L, by omega, l1, l2, l3⟩
    · rw [if_neg (show ¬ nI a < (65536 : Int32) from nI_nlt (b := 65536) (by omega) h)]
      have e : gj_iushr (nI a) 16 = nI (a / 2 ^ 16) := by unfold gj_iushr; exact pk_ushrN (by omega) 16 16 (by decide)
      obtain ⟨L, l0, l1, l2, l3⟩ := nz_33 (a := a / 2 ^ 16) (N := 15) (by omega) (by omega) (by omega) (by decide)
      obtain ⟨g1, g2⟩ := nz_up l1 l2
      rw [e, show (31 : Int32) + (-16) = nI 15 from rfl, l3]
      exact ⟨L + 16, by omega, g1, g2, by congr 1; omega⟩
  · have hn := nz_neg (by omega) h2
    rw [if_neg (fun q => absurd (Int32.lt_trans q hn) (by decide)), if_neg (fun q => absurd hn (by rw [q]; decide))]
    exact ⟨31, Nat.le_refl _, by omega, by omega, rfl⟩
/-- a long n of 64 bits: v zeros lead -/
theorem nz_Lo {n : Nat} (h : n < 2 ^ 64) : ∃ v, v ≤ 64 ∧ n < 2 ^ (64 - v) ∧ (v < 64 → 2 ^ (63 - v) ≤ n) ∧ fn_Lo_numberOfLeadingZeros (lN n) = nI v := by
  unfold fn_Lo_numberOfLeadingZeros gj_lushr
  have e : ((lN n).toUInt64 >>> ((32 : Int32).toInt64.toUInt64 &&& Int64.toUInt64 63)).toInt64 = lN (n / 2 ^ 32) := wb_shr (k := 32) h (by decide)
  rw [e, lN_i, lN_i]
  by_cases hz : n / 2 ^ 32 = 0
  · rw [if_pos (by rw [hz]; rfl)]
    by_cases h0 : n = 0
    · subst h0
      exact ⟨64, Nat.le_refl _, by decide, fun q => absurd q (by decide), by rfl⟩
    · obtain ⟨L, l0, l1, l2, l3⟩ := nz_In (a := n) (by omega) (by omega)
      rw [l3, show (32 : Int32) = nI 32 from rfl, nI_add]
      refine ⟨32 + (31 - L), by omega, ?_, fun _ => ?_, rfl⟩
      · rw [show 64 - (32 + (31 - L)) = L + 1 by omega]; exact l2
      · rw [show 63 - (32 + (31 - L)) = L by omega]; exact l1
  · rw [if_neg (show ¬ nI (n / 2 ^ 32) = 0 from fun q => by
      have := (nI_of_ne (n / 2 ^ 32) (by omega) (by omega)) q
      exact this)]
    obtain ⟨L, l0, l1, l2, l3⟩ := nz_In (a := n / 2 ^ 32) (by omega) (by omega)
    obtain ⟨g1, g2⟩ := nz_up l1 l2
    rw [l3]
    refine ⟨31 - L, by omega, ?_, fun _ => ?_, rfl⟩
    · rw [show 64 - (31 - L) = L + 32 + 1 by omega]; exact g2
    · rw [show 63 - (31 - L) = L + 32 by omega]; exact g1
end
