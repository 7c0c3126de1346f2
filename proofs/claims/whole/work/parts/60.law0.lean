/-! THE CLAIM OUT OF ONE WALK OF THE LAW'S BODY. Your part is whole_start (and what it stands on); all else here is the same for every law, but numbers. -/
def R_law : String := "TermBookLaw"
def lw_P (b : Addr) (xs : List Int32) (args : Array Value) (s : State) : Prop := args = #[.ref b] ∧ s.IntsAt b xs ∧ xs.length ≤ 2048 ∧ (Jvm.Cond.and given_1 narrow_1).before args s = true
def lw_Q (_ : Array Value) (s : State) (o : Outcome) (t : State) : Prop := o = .returned (some (.int 1)) ∧ Framed s o t [] 600000 7302250
def lw_Z (below : List Frame) (a : Array Value) (s : State) : State → Prop := fun t => ∃ o, t.status = .running ∧ Ended t below o ∧ lw_Q a s o t
/-- the law's own end, with 1 on the stack, nothing written that was there before, its room as the claim has it -/
theorem lw_ret {p : Program} {l : Launch} {e : Env} {s : State} {m : MethodId} {below : List Frame} {meth : Method} {c : Code} {b : Nat} (hx : p.tables.exec = Jvm.exec) (hb : c.code = code) (hr : meth.sig.returnType = ret) (hlocks : meth.locks = false) {pc : Nat} {H : Heap} {ls : Array Slot} (hdg : decode code pc = .ok (.ireturn, 1)) : W p l e room_1 s m #[Value.ref b] below meth c H [] 600000 7302250 (lw_Z below #[Value.ref b] s) (F0 m pc ls [.int 1]) := by
  intro T hT X
  obtain ⟨fs, hret, hrun, hended, hW, hframe⟩ := X.leave (v := some (.int 1)) (hlocks := hlocks) (fun h => by rw [hr] at h; cases h)
  have hmeth' : T.vm.method? m = some meth := X.method'
  refine ⟨T.setFrames fs, ?_, .returned (some (.int 1)), hrun, hended, rfl, ⟨_, rfl⟩, hW, hframe⟩
  jvm_step X.here [X.here.top, hx, hb, hdg, hmeth', hr, ret, narrow_b1]
  (try refine ⟨rfl, ?_⟩); (try refine ⟨rfl, ?_⟩)
  first | (intro acts; rw [hret _ acts rfl rfl rfl]) | rw [hret _ _ rfl rfl rfl]
  exact Steps.refl _
/-- what holds at the law's entry: the machine, the code, the tables' words (any of lw_tbl by 'hts w (by decide +kernel)'), the script of L ints xs at the cell b, what the Statement gives of the start (any of its parts by flat_of_before) -/
def lw_At (p : Program) (s : State) (m : MethodId) (meth : Method) (c : Code) (b L : Nat) (xs : Nat → Int32) : Prop :=
  p.tables.exec = Jvm.exec ∧ c.code = code ∧ meth.sig.returnType = ret ∧ c.maxLocals = 4 ∧ s.vm.findClass R_law = some m.cls ∧ (∀ w ∈ lw_tbl, w.before #[Value.ref b] s = true) ∧ va_X b L xs s s.heap ∧ b < s.heap.size ∧ meth.locks = false ∧ (Jvm.Cond.and given_1 narrow_1).before #[Value.ref b] s = true
theorem gt_101 : Cond.methodLink "TermBookLaw" 15 gy_Bk_type ∈ gt_T := gt_in 101 (by decide +kernel) rfl
theorem gt_102 : Cond.instanceMethod gy_Bk_type ∈ gt_T := gt_in 102 (by decide +kernel) rfl
theorem gt_103 : Cond.selects "TermBook" gy_Bk_type gy_Bk_type ∈ gt_T := gt_in 103 (by decide +kernel) rfl
set_option maxRecDepth 100000 in
theorem gt_104 : Cond.code gy_Bk_type gb_Bk_type 5 (some .int) ∈ gt_T := gt_in 104 rfl rfl
theorem gt_116 : Cond.methodLink "TermBookLaw" 20 gy_Bk_clear ∈ gt_T := gt_in 116 (by decide +kernel) rfl
theorem gt_117 : Cond.instanceMethod gy_Bk_clear ∈ gt_T := gt_in 117 (by decide +kernel) rfl
theorem gt_118 : Cond.selects "TermBook" gy_Bk_clear gy_Bk_clear ∈ gt_T := gt_in 118 (by decide +kernel) rfl
set_option maxRecDepth 100000 in
theorem gt_119 : Cond.code gy_Bk_clear gb_Bk_clear 2 (some .int) ∈ gt_T := gt_in 119 rfl rfl
theorem gt_124 : Cond.methodLink "TermBookLaw" 25 gy_Bk_add ∈ gt_T := gt_in 124 (by decide +kernel) rfl
theorem gt_125 : Cond.instanceMethod gy_Bk_add ∈ gt_T := gt_in 125 (by decide +kernel) rfl
theorem gt_126 : Cond.selects "TermBook" gy_Bk_add gy_Bk_add ∈ gt_T := gt_in 126 (by decide +kernel) rfl
set_option maxRecDepth 100000 in
theorem gt_127 : Cond.code gy_Bk_add gb_Bk_add 3 (some .int) ∈ gt_T := gt_in 127 rfl rfl
theorem gt_208 : Cond.methodLink "TermBookLaw" 30 gy_Bk_drop ∈ gt_T := gt_in 208 (by decide +kernel) rfl
theorem gt_209 : Cond.instanceMethod gy_Bk_drop ∈ gt_T := gt_in 209 (by decide +kernel) rfl
theorem gt_210 : Cond.selects "TermBook" gy_Bk_drop gy_Bk_drop ∈ gt_T := gt_in 210 (by decide +kernel) rfl
set_option maxRecDepth 100000 in
theorem gt_211 : Cond.code gy_Bk_drop gb_Bk_drop 3 (some .int) ∈ gt_T := gt_in 211 rfl rfl
theorem gt_244 : Cond.methodLink "TermBookLaw" 34 gy_Bk_find ∈ gt_T := gt_in 244 (by decide +kernel) rfl
theorem gt_245 : Cond.instanceMethod gy_Bk_find ∈ gt_T := gt_in 245 (by decide +kernel) rfl
theorem gt_246 : Cond.selects "TermBook" gy_Bk_find gy_Bk_find ∈ gt_T := gt_in 246 (by decide +kernel) rfl
set_option maxRecDepth 100000 in
theorem gt_247 : Cond.code gy_Bk_find gb_Bk_find 3 (some .int) ∈ gt_T := gt_in 247 rfl rfl
theorem gt_248 : Cond.methodLink "TermBookLaw" 38 gy_Bk_term ∈ gt_T := gt_in 248 (by decide +kernel) rfl
theorem gt_249 : Cond.instanceMethod gy_Bk_term ∈ gt_T := gt_in 249 (by decide +kernel) rfl
theorem gt_250 : Cond.selects "TermBook" gy_Bk_term gy_Bk_term ∈ gt_T := gt_in 250 (by decide +kernel) rfl
set_option maxRecDepth 100000 in
theorem gt_251 : Cond.code gy_Bk_term gb_Bk_term 4 (some .int) ∈ gt_T := gt_in 251 rfl rfl
theorem gt_257 : Cond.methodLink "TermBookLaw" 43 gy_Bk_at ∈ gt_T := gt_in 257 (by decide +kernel) rfl
theorem gt_258 : Cond.instanceMethod gy_Bk_at ∈ gt_T := gt_in 258 (by decide +kernel) rfl
theorem gt_259 : Cond.selects "TermBook" gy_Bk_at gy_Bk_at ∈ gt_T := gt_in 259 (by decide +kernel) rfl
set_option maxRecDepth 100000 in
theorem gt_260 : Cond.code gy_Bk_at gb_Bk_at 3 (some .int) ∈ gt_T := gt_in 260 rfl rfl
theorem gt_261 : Cond.methodLink "TermBookLaw" 47 gy_Bk_place ∈ gt_T := gt_in 261 (by decide +kernel) rfl
theorem gt_262 : Cond.instanceMethod gy_Bk_place ∈ gt_T := gt_in 262 (by decide +kernel) rfl
theorem gt_263 : Cond.selects "TermBook" gy_Bk_place gy_Bk_place ∈ gt_T := gt_in 263 (by decide +kernel) rfl
set_option maxRecDepth 100000 in
theorem gt_264 : Cond.code gy_Bk_place gb_Bk_place 2 (some .int) ∈ gt_T := gt_in 264 rfl rfl
theorem gt_265 : Cond.methodLink "TermBookLaw" 51 gy_Bk_begins ∈ gt_T := gt_in 265 (by decide +kernel) rfl
theorem gt_266 : Cond.instanceMethod gy_Bk_begins ∈ gt_T := gt_in 266 (by decide +kernel) rfl
theorem gt_267 : Cond.selects "TermBook" gy_Bk_begins gy_Bk_begins ∈ gt_T := gt_in 267 (by decide +kernel) rfl
set_option maxRecDepth 100000 in
theorem gt_268 : Cond.code gy_Bk_begins gb_Bk_begins 5 (some .int) ∈ gt_T := gt_in 268 rfl rfl
theorem gt_285 : Cond.methodLink "TermBookLaw" 55 gy_Bk_from ∈ gt_T := gt_in 285 (by decide +kernel) rfl
theorem gt_286 : Cond.instanceMethod gy_Bk_from ∈ gt_T := gt_in 286 (by decide +kernel) rfl
theorem gt_287 : Cond.selects "TermBook" gy_Bk_from gy_Bk_from ∈ gt_T := gt_in 287 (by decide +kernel) rfl
set_option maxRecDepth 100000 in
theorem gt_288 : Cond.code gy_Bk_from gb_Bk_from 2 (some .int) ∈ gt_T := gt_in 288 rfl rfl
theorem gt_289 : Cond.methodLink "TermBookLaw" 59 gy_Bk_version ∈ gt_T := gt_in 289 (by decide +kernel) rfl
theorem gt_290 : Cond.instanceMethod gy_Bk_version ∈ gt_T := gt_in 290 (by decide +kernel) rfl
theorem gt_291 : Cond.selects "TermBook" gy_Bk_version gy_Bk_version ∈ gt_T := gt_in 291 (by decide +kernel) rfl
set_option maxRecDepth 100000 in
theorem gt_292 : Cond.code gy_Bk_version gb_Bk_version 4 (some .int) ∈ gt_T := gt_in 292 rfl rfl
theorem gt_301 : Cond.methodLink "TermBookLaw" 63 gy_Bk_release ∈ gt_T := gt_in 301 (by decide +kernel) rfl
theorem gt_302 : Cond.instanceMethod gy_Bk_release ∈ gt_T := gt_in 302 (by decide +kernel) rfl
theorem gt_303 : Cond.selects "TermBook" gy_Bk_release gy_Bk_release ∈ gt_T := gt_in 303 (by decide +kernel) rfl
set_option maxRecDepth 100000 in
theorem gt_304 : Cond.code gy_Bk_release gb_Bk_release 5 (some .int) ∈ gt_T := gt_in 304 rfl rfl
theorem gt_317 : Cond.methodLink "TermBookLaw" 67 gy_Bk_had ∈ gt_T := gt_in 317 (by decide +kernel) rfl
theorem gt_318 : Cond.instanceMethod gy_Bk_had ∈ gt_T := gt_in 318 (by decide +kernel) rfl
theorem gt_319 : Cond.selects "TermBook" gy_Bk_had gy_Bk_had ∈ gt_T := gt_in 319 (by decide +kernel) rfl
set_option maxRecDepth 100000 in
theorem gt_320 : Cond.code gy_Bk_had gb_Bk_had 5 (some .int) ∈ gt_T := gt_in 320 rfl rfl
theorem gt_329 : Cond.methodLink "TermBookLaw" 71 gy_Bk_leaf ∈ gt_T := gt_in 329 (by decide +kernel) rfl
theorem gt_330 : Cond.instanceMethod gy_Bk_leaf ∈ gt_T := gt_in 330 (by decide +kernel) rfl
theorem gt_331 : Cond.selects "TermBook" gy_Bk_leaf gy_Bk_leaf ∈ gt_T := gt_in 331 (by decide +kernel) rfl
set_option maxRecDepth 100000 in
theorem gt_332 : Cond.code gy_Bk_leaf gb_Bk_leaf 3 (some .int) ∈ gt_T := gt_in 332 rfl rfl
theorem gt_347 : Cond.methodLink "TermBookLaw" 75 gy_Bk_count ∈ gt_T := gt_in 347 (by decide +kernel) rfl
theorem gt_348 : Cond.instanceMethod gy_Bk_count ∈ gt_T := gt_in 348 (by decide +kernel) rfl
theorem gt_349 : Cond.selects "TermBook" gy_Bk_count gy_Bk_count ∈ gt_T := gt_in 349 (by decide +kernel) rfl
set_option maxRecDepth 100000 in
theorem gt_350 : Cond.code gy_Bk_count gb_Bk_count 2 (some .int) ∈ gt_T := gt_in 350 rfl rfl
theorem gt_419 : Cond.methodLink "TermBookLaw" 19 gy_Md_type ∈ gt_T := gt_in 419 (by decide +kernel) rfl
theorem gt_420 : Cond.instanceMethod gy_Md_type ∈ gt_T := gt_in 420 (by decide +kernel) rfl
theorem gt_421 : Cond.selects "TermBookModel" gy_Md_type gy_Md_type ∈ gt_T := gt_in 421 (by decide +kernel) rfl
set_option maxRecDepth 100000 in
theorem gt_422 : Cond.code gy_Md_type gb_Md_type 6 (some .int) ∈ gt_T := gt_in 422 rfl rfl
theorem gt_427 : Cond.methodLink "TermBookLaw" 24 gy_Md_clear ∈ gt_T := gt_in 427 (by decide +kernel) rfl
theorem gt_428 : Cond.instanceMethod gy_Md_clear ∈ gt_T := gt_in 428 (by decide +kernel) rfl
theorem gt_429 : Cond.selects "TermBookModel" gy_Md_clear gy_Md_clear ∈ gt_T := gt_in 429 (by decide +kernel) rfl
set_option maxRecDepth 100000 in
theorem gt_430 : Cond.code gy_Md_clear gb_Md_clear 2 (some .int) ∈ gt_T := gt_in 430 rfl rfl
theorem gt_431 : Cond.methodLink "TermBookLaw" 29 gy_Md_add ∈ gt_T := gt_in 431 (by decide +kernel) rfl
theorem gt_432 : Cond.instanceMethod gy_Md_add ∈ gt_T := gt_in 432 (by decide +kernel) rfl
theorem gt_433 : Cond.selects "TermBookModel" gy_Md_add gy_Md_add ∈ gt_T := gt_in 433 (by decide +kernel) rfl
set_option maxRecDepth 100000 in
theorem gt_434 : Cond.code gy_Md_add gb_Md_add 4 (some .int) ∈ gt_T := gt_in 434 rfl rfl
theorem gt_459 : Cond.methodLink "TermBookLaw" 33 gy_Md_drop ∈ gt_T := gt_in 459 (by decide +kernel) rfl
theorem gt_460 : Cond.instanceMethod gy_Md_drop ∈ gt_T := gt_in 460 (by decide +kernel) rfl
theorem gt_461 : Cond.selects "TermBookModel" gy_Md_drop gy_Md_drop ∈ gt_T := gt_in 461 (by decide +kernel) rfl
set_option maxRecDepth 100000 in
theorem gt_462 : Cond.code gy_Md_drop gb_Md_drop 3 (some .int) ∈ gt_T := gt_in 462 rfl rfl
theorem gt_487 : Cond.methodLink "TermBookLaw" 37 gy_Md_find ∈ gt_T := gt_in 487 (by decide +kernel) rfl
theorem gt_488 : Cond.instanceMethod gy_Md_find ∈ gt_T := gt_in 488 (by decide +kernel) rfl
theorem gt_489 : Cond.selects "TermBookModel" gy_Md_find gy_Md_find ∈ gt_T := gt_in 489 (by decide +kernel) rfl
set_option maxRecDepth 100000 in
theorem gt_490 : Cond.code gy_Md_find gb_Md_find 3 (some .int) ∈ gt_T := gt_in 490 rfl rfl
theorem gt_491 : Cond.methodLink "TermBookLaw" 42 gy_Md_term ∈ gt_T := gt_in 491 (by decide +kernel) rfl
theorem gt_492 : Cond.instanceMethod gy_Md_term ∈ gt_T := gt_in 492 (by decide +kernel) rfl
theorem gt_493 : Cond.selects "TermBookModel" gy_Md_term gy_Md_term ∈ gt_T := gt_in 493 (by decide +kernel) rfl
set_option maxRecDepth 100000 in
theorem gt_494 : Cond.code gy_Md_term gb_Md_term 3 (some .int) ∈ gt_T := gt_in 494 rfl rfl
theorem gt_495 : Cond.methodLink "TermBookLaw" 46 gy_Md_at ∈ gt_T := gt_in 495 (by decide +kernel) rfl
theorem gt_496 : Cond.instanceMethod gy_Md_at ∈ gt_T := gt_in 496 (by decide +kernel) rfl
theorem gt_497 : Cond.selects "TermBookModel" gy_Md_at gy_Md_at ∈ gt_T := gt_in 497 (by decide +kernel) rfl
set_option maxRecDepth 100000 in
theorem gt_498 : Cond.code gy_Md_at gb_Md_at 2 (some .int) ∈ gt_T := gt_in 498 rfl rfl
theorem gt_499 : Cond.methodLink "TermBookLaw" 50 gy_Md_place ∈ gt_T := gt_in 499 (by decide +kernel) rfl
theorem gt_500 : Cond.instanceMethod gy_Md_place ∈ gt_T := gt_in 500 (by decide +kernel) rfl
theorem gt_501 : Cond.selects "TermBookModel" gy_Md_place gy_Md_place ∈ gt_T := gt_in 501 (by decide +kernel) rfl
set_option maxRecDepth 100000 in
theorem gt_502 : Cond.code gy_Md_place gb_Md_place 2 (some .int) ∈ gt_T := gt_in 502 rfl rfl
theorem gt_503 : Cond.methodLink "TermBookLaw" 54 gy_Md_begins ∈ gt_T := gt_in 503 (by decide +kernel) rfl
theorem gt_504 : Cond.instanceMethod gy_Md_begins ∈ gt_T := gt_in 504 (by decide +kernel) rfl
theorem gt_505 : Cond.selects "TermBookModel" gy_Md_begins gy_Md_begins ∈ gt_T := gt_in 505 (by decide +kernel) rfl
set_option maxRecDepth 100000 in
theorem gt_506 : Cond.code gy_Md_begins gb_Md_begins 7 (some .int) ∈ gt_T := gt_in 506 rfl rfl
theorem gt_507 : Cond.methodLink "TermBookLaw" 58 gy_Md_from ∈ gt_T := gt_in 507 (by decide +kernel) rfl
theorem gt_508 : Cond.instanceMethod gy_Md_from ∈ gt_T := gt_in 508 (by decide +kernel) rfl
theorem gt_509 : Cond.selects "TermBookModel" gy_Md_from gy_Md_from ∈ gt_T := gt_in 509 (by decide +kernel) rfl
set_option maxRecDepth 100000 in
theorem gt_510 : Cond.code gy_Md_from gb_Md_from 2 (some .int) ∈ gt_T := gt_in 510 rfl rfl
theorem gt_511 : Cond.methodLink "TermBookLaw" 62 gy_Md_version ∈ gt_T := gt_in 511 (by decide +kernel) rfl
theorem gt_512 : Cond.instanceMethod gy_Md_version ∈ gt_T := gt_in 512 (by decide +kernel) rfl
theorem gt_513 : Cond.selects "TermBookModel" gy_Md_version gy_Md_version ∈ gt_T := gt_in 513 (by decide +kernel) rfl
set_option maxRecDepth 100000 in
theorem gt_514 : Cond.code gy_Md_version gb_Md_version 2 (some .int) ∈ gt_T := gt_in 514 rfl rfl
theorem gt_515 : Cond.methodLink "TermBookLaw" 66 gy_Md_release ∈ gt_T := gt_in 515 (by decide +kernel) rfl
theorem gt_516 : Cond.instanceMethod gy_Md_release ∈ gt_T := gt_in 516 (by decide +kernel) rfl
theorem gt_517 : Cond.selects "TermBookModel" gy_Md_release gy_Md_release ∈ gt_T := gt_in 517 (by decide +kernel) rfl
set_option maxRecDepth 100000 in
theorem gt_518 : Cond.code gy_Md_release gb_Md_release 5 (some .int) ∈ gt_T := gt_in 518 rfl rfl
theorem gt_523 : Cond.methodLink "TermBookLaw" 70 gy_Md_had ∈ gt_T := gt_in 523 (by decide +kernel) rfl
theorem gt_524 : Cond.instanceMethod gy_Md_had ∈ gt_T := gt_in 524 (by decide +kernel) rfl
theorem gt_525 : Cond.selects "TermBookModel" gy_Md_had gy_Md_had ∈ gt_T := gt_in 525 (by decide +kernel) rfl
set_option maxRecDepth 100000 in
theorem gt_526 : Cond.code gy_Md_had gb_Md_had 6 (some .int) ∈ gt_T := gt_in 526 rfl rfl
theorem gt_527 : Cond.methodLink "TermBookLaw" 74 gy_Md_leaf ∈ gt_T := gt_in 527 (by decide +kernel) rfl
theorem gt_528 : Cond.instanceMethod gy_Md_leaf ∈ gt_T := gt_in 528 (by decide +kernel) rfl
theorem gt_529 : Cond.selects "TermBookModel" gy_Md_leaf gy_Md_leaf ∈ gt_T := gt_in 529 (by decide +kernel) rfl
set_option maxRecDepth 100000 in
theorem gt_530 : Cond.code gy_Md_leaf gb_Md_leaf 3 (some .int) ∈ gt_T := gt_in 530 rfl rfl
theorem gt_539 : Cond.methodLink "TermBookLaw" 78 gy_Md_count ∈ gt_T := gt_in 539 (by decide +kernel) rfl
theorem gt_540 : Cond.instanceMethod gy_Md_count ∈ gt_T := gt_in 540 (by decide +kernel) rfl
theorem gt_541 : Cond.selects "TermBookModel" gy_Md_count gy_Md_count ∈ gt_T := gt_in 541 (by decide +kernel) rfl
set_option maxRecDepth 100000 in
theorem gt_542 : Cond.code gy_Md_count gb_Md_count 4 (some .int) ∈ gt_T := gt_in 542 rfl rfl
theorem gt_543 : Cond.constantLong "TermBookLaw" 13 (4294967295) ∈ gt_T := gt_in 543 (by decide +kernel) rfl
theorem gd_Lw_law_0 : decode code 0 = .ok (.new 7, 3) := by decide +kernel
theorem gd_Lw_law_3 : decode code 3 = .ok (.dup, 1) := by decide +kernel
theorem gd_Lw_law_4 : decode code 4 = .ok (.invokespecial 9, 3) := by decide +kernel
theorem gd_Lw_law_7 : decode code 7 = .ok (.astore_n 1, 1) := by decide +kernel
theorem gd_Lw_law_8 : decode code 8 = .ok (.new 10, 3) := by decide +kernel
theorem gd_Lw_law_11 : decode code 11 = .ok (.dup, 1) := by decide +kernel
theorem gd_Lw_law_12 : decode code 12 = .ok (.invokespecial 12, 3) := by decide +kernel
theorem gd_Lw_law_15 : decode code 15 = .ok (.astore_n 2, 1) := by decide +kernel
theorem gd_Lw_law_16 : decode code 16 = .ok (.iconst 0, 1) := by decide +kernel
theorem gd_Lw_law_17 : decode code 17 = .ok (.istore_n 3, 1) := by decide +kernel
theorem gd_Lw_law_18 : decode code 18 = .ok (.iload_n 3, 1) := by decide +kernel
theorem gd_Lw_law_19 : decode code 19 = .ok (.aload_n 0, 1) := by decide +kernel
theorem gd_Lw_law_20 : decode code 20 = .ok (.arraylength, 1) := by decide +kernel
theorem gd_Lw_law_21 : decode code 21 = .ok (.iconst 4, 1) := by decide +kernel
theorem gd_Lw_law_22 : decode code 22 = .ok (.isub, 1) := by decide +kernel
theorem gd_Lw_law_23 : decode code 23 = .ok (.if_icmp .gt 486, 3) := by decide +kernel
theorem gd_Lw_law_26 : decode code 26 = .ok (.aload_n 0, 1) := by decide +kernel
theorem gd_Lw_law_27 : decode code 27 = .ok (.iload_n 3, 1) := by decide +kernel
theorem gd_Lw_law_28 : decode code 28 = .ok (.iaload, 1) := by decide +kernel
theorem gd_Lw_law_29 : decode code 29 = .ok (.bipush 15, 2) := by decide +kernel
theorem gd_Lw_law_31 : decode code 31 = .ok (.iand, 1) := by decide +kernel
theorem gd_Lw_law_32 : decode code 32 = .ok (.tableswitch 471 0 14 #[76, 139, 152, 175, 198, 221, 254, 277, 300, 323, 346, 359, 382, 415, 448], 76) := by decide +kernel
theorem gd_Lw_law_108 : decode code 108 = .ok (.aload_n 1, 1) := by decide +kernel
theorem gd_Lw_law_109 : decode code 109 = .ok (.aload_n 0, 1) := by decide +kernel
theorem gd_Lw_law_110 : decode code 110 = .ok (.iload_n 3, 1) := by decide +kernel
theorem gd_Lw_law_111 : decode code 111 = .ok (.iconst 1, 1) := by decide +kernel
theorem gd_Lw_law_112 : decode code 112 = .ok (.iadd, 1) := by decide +kernel
theorem gd_Lw_law_113 : decode code 113 = .ok (.iaload, 1) := by decide +kernel
theorem gd_Lw_law_114 : decode code 114 = .ok (.i2l, 1) := by decide +kernel
theorem gd_Lw_law_115 : decode code 115 = .ok (.bipush 32, 2) := by decide +kernel
theorem gd_Lw_law_117 : decode code 117 = .ok (.lshl, 1) := by decide +kernel
theorem gd_Lw_law_118 : decode code 118 = .ok (.aload_n 0, 1) := by decide +kernel
theorem gd_Lw_law_119 : decode code 119 = .ok (.iload_n 3, 1) := by decide +kernel
theorem gd_Lw_law_120 : decode code 120 = .ok (.iconst 2, 1) := by decide +kernel
theorem gd_Lw_law_121 : decode code 121 = .ok (.iadd, 1) := by decide +kernel
theorem gd_Lw_law_122 : decode code 122 = .ok (.iaload, 1) := by decide +kernel
theorem gd_Lw_law_123 : decode code 123 = .ok (.i2l, 1) := by decide +kernel
theorem gd_Lw_law_124 : decode code 124 = .ok (.ldc2_w 13, 3) := by decide +kernel
theorem gd_Lw_law_127 : decode code 127 = .ok (.land, 1) := by decide +kernel
theorem gd_Lw_law_128 : decode code 128 = .ok (.lor, 1) := by decide +kernel
theorem gd_Lw_law_129 : decode code 129 = .ok (.aload_n 0, 1) := by decide +kernel
theorem gd_Lw_law_130 : decode code 130 = .ok (.iload_n 3, 1) := by decide +kernel
theorem gd_Lw_law_131 : decode code 131 = .ok (.iconst 3, 1) := by decide +kernel
theorem gd_Lw_law_132 : decode code 132 = .ok (.iadd, 1) := by decide +kernel
theorem gd_Lw_law_133 : decode code 133 = .ok (.iaload, 1) := by decide +kernel
theorem gd_Lw_law_134 : decode code 134 = .ok (.invokevirtual 15, 3) := by decide +kernel
theorem gd_Lw_law_137 : decode code 137 = .ok (.aload_n 2, 1) := by decide +kernel
theorem gd_Lw_law_138 : decode code 138 = .ok (.aload_n 0, 1) := by decide +kernel
theorem gd_Lw_law_139 : decode code 139 = .ok (.iload_n 3, 1) := by decide +kernel
theorem gd_Lw_law_140 : decode code 140 = .ok (.iconst 1, 1) := by decide +kernel
theorem gd_Lw_law_141 : decode code 141 = .ok (.iadd, 1) := by decide +kernel
theorem gd_Lw_law_142 : decode code 142 = .ok (.iaload, 1) := by decide +kernel
theorem gd_Lw_law_143 : decode code 143 = .ok (.i2l, 1) := by decide +kernel
theorem gd_Lw_law_144 : decode code 144 = .ok (.bipush 32, 2) := by decide +kernel
theorem gd_Lw_law_146 : decode code 146 = .ok (.lshl, 1) := by decide +kernel
theorem gd_Lw_law_147 : decode code 147 = .ok (.aload_n 0, 1) := by decide +kernel
theorem gd_Lw_law_148 : decode code 148 = .ok (.iload_n 3, 1) := by decide +kernel
theorem gd_Lw_law_149 : decode code 149 = .ok (.iconst 2, 1) := by decide +kernel
theorem gd_Lw_law_150 : decode code 150 = .ok (.iadd, 1) := by decide +kernel
theorem gd_Lw_law_151 : decode code 151 = .ok (.iaload, 1) := by decide +kernel
theorem gd_Lw_law_152 : decode code 152 = .ok (.i2l, 1) := by decide +kernel
theorem gd_Lw_law_153 : decode code 153 = .ok (.ldc2_w 13, 3) := by decide +kernel
theorem gd_Lw_law_156 : decode code 156 = .ok (.land, 1) := by decide +kernel
theorem gd_Lw_law_157 : decode code 157 = .ok (.lor, 1) := by decide +kernel
theorem gd_Lw_law_158 : decode code 158 = .ok (.aload_n 0, 1) := by decide +kernel
theorem gd_Lw_law_159 : decode code 159 = .ok (.iload_n 3, 1) := by decide +kernel
theorem gd_Lw_law_160 : decode code 160 = .ok (.iconst 3, 1) := by decide +kernel
theorem gd_Lw_law_161 : decode code 161 = .ok (.iadd, 1) := by decide +kernel
theorem gd_Lw_law_162 : decode code 162 = .ok (.iaload, 1) := by decide +kernel
theorem gd_Lw_law_163 : decode code 163 = .ok (.invokevirtual 19, 3) := by decide +kernel
theorem gd_Lw_law_166 : decode code 166 = .ok (.if_icmp .eq 337, 3) := by decide +kernel
theorem gd_Lw_law_169 : decode code 169 = .ok (.iconst 0, 1) := by decide +kernel
theorem gd_Lw_law_170 : decode code 170 = .ok (.ireturn, 1) := by decide +kernel
theorem gd_Lw_law_171 : decode code 171 = .ok (.aload_n 1, 1) := by decide +kernel
theorem gd_Lw_law_172 : decode code 172 = .ok (.invokevirtual 20, 3) := by decide +kernel
theorem gd_Lw_law_175 : decode code 175 = .ok (.aload_n 2, 1) := by decide +kernel
theorem gd_Lw_law_176 : decode code 176 = .ok (.invokevirtual 24, 3) := by decide +kernel
theorem gd_Lw_law_179 : decode code 179 = .ok (.if_icmp .eq 324, 3) := by decide +kernel
theorem gd_Lw_law_182 : decode code 182 = .ok (.iconst 0, 1) := by decide +kernel
theorem gd_Lw_law_183 : decode code 183 = .ok (.ireturn, 1) := by decide +kernel
theorem gd_Lw_law_184 : decode code 184 = .ok (.aload_n 1, 1) := by decide +kernel
theorem gd_Lw_law_185 : decode code 185 = .ok (.aload_n 0, 1) := by decide +kernel
theorem gd_Lw_law_186 : decode code 186 = .ok (.iload_n 3, 1) := by decide +kernel
theorem gd_Lw_law_187 : decode code 187 = .ok (.iconst 1, 1) := by decide +kernel
theorem gd_Lw_law_188 : decode code 188 = .ok (.iadd, 1) := by decide +kernel
theorem gd_Lw_law_189 : decode code 189 = .ok (.iaload, 1) := by decide +kernel
theorem gd_Lw_law_190 : decode code 190 = .ok (.invokevirtual 25, 3) := by decide +kernel
theorem gd_Lw_law_193 : decode code 193 = .ok (.aload_n 2, 1) := by decide +kernel
theorem gd_Lw_law_194 : decode code 194 = .ok (.aload_n 0, 1) := by decide +kernel
theorem gd_Lw_law_195 : decode code 195 = .ok (.iload_n 3, 1) := by decide +kernel
theorem gd_Lw_law_196 : decode code 196 = .ok (.iconst 1, 1) := by decide +kernel
theorem gd_Lw_law_197 : decode code 197 = .ok (.iadd, 1) := by decide +kernel
theorem gd_Lw_law_198 : decode code 198 = .ok (.iaload, 1) := by decide +kernel
theorem gd_Lw_law_199 : decode code 199 = .ok (.invokevirtual 29, 3) := by decide +kernel
theorem gd_Lw_law_202 : decode code 202 = .ok (.if_icmp .eq 301, 3) := by decide +kernel
theorem gd_Lw_law_205 : decode code 205 = .ok (.iconst 0, 1) := by decide +kernel
theorem gd_Lw_law_206 : decode code 206 = .ok (.ireturn, 1) := by decide +kernel
theorem gd_Lw_law_207 : decode code 207 = .ok (.aload_n 1, 1) := by decide +kernel
theorem gd_Lw_law_208 : decode code 208 = .ok (.aload_n 0, 1) := by decide +kernel
theorem gd_Lw_law_209 : decode code 209 = .ok (.iload_n 3, 1) := by decide +kernel
theorem gd_Lw_law_210 : decode code 210 = .ok (.iconst 1, 1) := by decide +kernel
theorem gd_Lw_law_211 : decode code 211 = .ok (.iadd, 1) := by decide +kernel
theorem gd_Lw_law_212 : decode code 212 = .ok (.iaload, 1) := by decide +kernel
theorem gd_Lw_law_213 : decode code 213 = .ok (.invokevirtual 30, 3) := by decide +kernel
theorem gd_Lw_law_216 : decode code 216 = .ok (.aload_n 2, 1) := by decide +kernel
theorem gd_Lw_law_217 : decode code 217 = .ok (.aload_n 0, 1) := by decide +kernel
theorem gd_Lw_law_218 : decode code 218 = .ok (.iload_n 3, 1) := by decide +kernel
theorem gd_Lw_law_219 : decode code 219 = .ok (.iconst 1, 1) := by decide +kernel
theorem gd_Lw_law_220 : decode code 220 = .ok (.iadd, 1) := by decide +kernel
theorem gd_Lw_law_221 : decode code 221 = .ok (.iaload, 1) := by decide +kernel
theorem gd_Lw_law_222 : decode code 222 = .ok (.invokevirtual 33, 3) := by decide +kernel
theorem gd_Lw_law_225 : decode code 225 = .ok (.if_icmp .eq 278, 3) := by decide +kernel
theorem gd_Lw_law_228 : decode code 228 = .ok (.iconst 0, 1) := by decide +kernel
theorem gd_Lw_law_229 : decode code 229 = .ok (.ireturn, 1) := by decide +kernel
theorem gd_Lw_law_230 : decode code 230 = .ok (.aload_n 1, 1) := by decide +kernel
theorem gd_Lw_law_231 : decode code 231 = .ok (.aload_n 0, 1) := by decide +kernel
theorem gd_Lw_law_232 : decode code 232 = .ok (.iload_n 3, 1) := by decide +kernel
theorem gd_Lw_law_233 : decode code 233 = .ok (.iconst 1, 1) := by decide +kernel
theorem gd_Lw_law_234 : decode code 234 = .ok (.iadd, 1) := by decide +kernel
theorem gd_Lw_law_235 : decode code 235 = .ok (.iaload, 1) := by decide +kernel
theorem gd_Lw_law_236 : decode code 236 = .ok (.invokevirtual 34, 3) := by decide +kernel
theorem gd_Lw_law_239 : decode code 239 = .ok (.aload_n 2, 1) := by decide +kernel
theorem gd_Lw_law_240 : decode code 240 = .ok (.aload_n 0, 1) := by decide +kernel
theorem gd_Lw_law_241 : decode code 241 = .ok (.iload_n 3, 1) := by decide +kernel
theorem gd_Lw_law_242 : decode code 242 = .ok (.iconst 1, 1) := by decide +kernel
theorem gd_Lw_law_243 : decode code 243 = .ok (.iadd, 1) := by decide +kernel
theorem gd_Lw_law_244 : decode code 244 = .ok (.iaload, 1) := by decide +kernel
theorem gd_Lw_law_245 : decode code 245 = .ok (.invokevirtual 37, 3) := by decide +kernel
theorem gd_Lw_law_248 : decode code 248 = .ok (.if_icmp .eq 255, 3) := by decide +kernel
theorem gd_Lw_law_251 : decode code 251 = .ok (.iconst 0, 1) := by decide +kernel
theorem gd_Lw_law_252 : decode code 252 = .ok (.ireturn, 1) := by decide +kernel
theorem gd_Lw_law_253 : decode code 253 = .ok (.aload_n 1, 1) := by decide +kernel
theorem gd_Lw_law_254 : decode code 254 = .ok (.aload_n 0, 1) := by decide +kernel
theorem gd_Lw_law_255 : decode code 255 = .ok (.iload_n 3, 1) := by decide +kernel
theorem gd_Lw_law_256 : decode code 256 = .ok (.iconst 1, 1) := by decide +kernel
theorem gd_Lw_law_257 : decode code 257 = .ok (.iadd, 1) := by decide +kernel
theorem gd_Lw_law_258 : decode code 258 = .ok (.iaload, 1) := by decide +kernel
theorem gd_Lw_law_259 : decode code 259 = .ok (.aload_n 0, 1) := by decide +kernel
theorem gd_Lw_law_260 : decode code 260 = .ok (.iload_n 3, 1) := by decide +kernel
theorem gd_Lw_law_261 : decode code 261 = .ok (.iconst 2, 1) := by decide +kernel
theorem gd_Lw_law_262 : decode code 262 = .ok (.iadd, 1) := by decide +kernel
theorem gd_Lw_law_263 : decode code 263 = .ok (.iaload, 1) := by decide +kernel
theorem gd_Lw_law_264 : decode code 264 = .ok (.invokevirtual 38, 3) := by decide +kernel
theorem gd_Lw_law_267 : decode code 267 = .ok (.aload_n 2, 1) := by decide +kernel
theorem gd_Lw_law_268 : decode code 268 = .ok (.aload_n 0, 1) := by decide +kernel
theorem gd_Lw_law_269 : decode code 269 = .ok (.iload_n 3, 1) := by decide +kernel
theorem gd_Lw_law_270 : decode code 270 = .ok (.iconst 1, 1) := by decide +kernel
theorem gd_Lw_law_271 : decode code 271 = .ok (.iadd, 1) := by decide +kernel
theorem gd_Lw_law_272 : decode code 272 = .ok (.iaload, 1) := by decide +kernel
theorem gd_Lw_law_273 : decode code 273 = .ok (.aload_n 0, 1) := by decide +kernel
theorem gd_Lw_law_274 : decode code 274 = .ok (.iload_n 3, 1) := by decide +kernel
theorem gd_Lw_law_275 : decode code 275 = .ok (.iconst 2, 1) := by decide +kernel
theorem gd_Lw_law_276 : decode code 276 = .ok (.iadd, 1) := by decide +kernel
theorem gd_Lw_law_277 : decode code 277 = .ok (.iaload, 1) := by decide +kernel
theorem gd_Lw_law_278 : decode code 278 = .ok (.invokevirtual 42, 3) := by decide +kernel
theorem gd_Lw_law_281 : decode code 281 = .ok (.if_icmp .eq 222, 3) := by decide +kernel
theorem gd_Lw_law_284 : decode code 284 = .ok (.iconst 0, 1) := by decide +kernel
theorem gd_Lw_law_285 : decode code 285 = .ok (.ireturn, 1) := by decide +kernel
theorem gd_Lw_law_286 : decode code 286 = .ok (.aload_n 1, 1) := by decide +kernel
theorem gd_Lw_law_287 : decode code 287 = .ok (.aload_n 0, 1) := by decide +kernel
theorem gd_Lw_law_288 : decode code 288 = .ok (.iload_n 3, 1) := by decide +kernel
theorem gd_Lw_law_289 : decode code 289 = .ok (.iconst 1, 1) := by decide +kernel
theorem gd_Lw_law_290 : decode code 290 = .ok (.iadd, 1) := by decide +kernel
theorem gd_Lw_law_291 : decode code 291 = .ok (.iaload, 1) := by decide +kernel
theorem gd_Lw_law_292 : decode code 292 = .ok (.invokevirtual 43, 3) := by decide +kernel
theorem gd_Lw_law_295 : decode code 295 = .ok (.aload_n 2, 1) := by decide +kernel
theorem gd_Lw_law_296 : decode code 296 = .ok (.aload_n 0, 1) := by decide +kernel
theorem gd_Lw_law_297 : decode code 297 = .ok (.iload_n 3, 1) := by decide +kernel
theorem gd_Lw_law_298 : decode code 298 = .ok (.iconst 1, 1) := by decide +kernel
theorem gd_Lw_law_299 : decode code 299 = .ok (.iadd, 1) := by decide +kernel
theorem gd_Lw_law_300 : decode code 300 = .ok (.iaload, 1) := by decide +kernel
theorem gd_Lw_law_301 : decode code 301 = .ok (.invokevirtual 46, 3) := by decide +kernel
theorem gd_Lw_law_304 : decode code 304 = .ok (.if_icmp .eq 199, 3) := by decide +kernel
theorem gd_Lw_law_307 : decode code 307 = .ok (.iconst 0, 1) := by decide +kernel
theorem gd_Lw_law_308 : decode code 308 = .ok (.ireturn, 1) := by decide +kernel
theorem gd_Lw_law_309 : decode code 309 = .ok (.aload_n 1, 1) := by decide +kernel
theorem gd_Lw_law_310 : decode code 310 = .ok (.aload_n 0, 1) := by decide +kernel
theorem gd_Lw_law_311 : decode code 311 = .ok (.iload_n 3, 1) := by decide +kernel
theorem gd_Lw_law_312 : decode code 312 = .ok (.iconst 1, 1) := by decide +kernel
theorem gd_Lw_law_313 : decode code 313 = .ok (.iadd, 1) := by decide +kernel
theorem gd_Lw_law_314 : decode code 314 = .ok (.iaload, 1) := by decide +kernel
theorem gd_Lw_law_315 : decode code 315 = .ok (.invokevirtual 47, 3) := by decide +kernel
theorem gd_Lw_law_318 : decode code 318 = .ok (.aload_n 2, 1) := by decide +kernel
theorem gd_Lw_law_319 : decode code 319 = .ok (.aload_n 0, 1) := by decide +kernel
theorem gd_Lw_law_320 : decode code 320 = .ok (.iload_n 3, 1) := by decide +kernel
theorem gd_Lw_law_321 : decode code 321 = .ok (.iconst 1, 1) := by decide +kernel
theorem gd_Lw_law_322 : decode code 322 = .ok (.iadd, 1) := by decide +kernel
theorem gd_Lw_law_323 : decode code 323 = .ok (.iaload, 1) := by decide +kernel
theorem gd_Lw_law_324 : decode code 324 = .ok (.invokevirtual 50, 3) := by decide +kernel
theorem gd_Lw_law_327 : decode code 327 = .ok (.if_icmp .eq 176, 3) := by decide +kernel
theorem gd_Lw_law_330 : decode code 330 = .ok (.iconst 0, 1) := by decide +kernel
theorem gd_Lw_law_331 : decode code 331 = .ok (.ireturn, 1) := by decide +kernel
theorem gd_Lw_law_332 : decode code 332 = .ok (.aload_n 1, 1) := by decide +kernel
theorem gd_Lw_law_333 : decode code 333 = .ok (.aload_n 0, 1) := by decide +kernel
theorem gd_Lw_law_334 : decode code 334 = .ok (.iload_n 3, 1) := by decide +kernel
theorem gd_Lw_law_335 : decode code 335 = .ok (.iconst 1, 1) := by decide +kernel
theorem gd_Lw_law_336 : decode code 336 = .ok (.iadd, 1) := by decide +kernel
theorem gd_Lw_law_337 : decode code 337 = .ok (.iaload, 1) := by decide +kernel
theorem gd_Lw_law_338 : decode code 338 = .ok (.invokevirtual 51, 3) := by decide +kernel
theorem gd_Lw_law_341 : decode code 341 = .ok (.aload_n 2, 1) := by decide +kernel
theorem gd_Lw_law_342 : decode code 342 = .ok (.aload_n 0, 1) := by decide +kernel
theorem gd_Lw_law_343 : decode code 343 = .ok (.iload_n 3, 1) := by decide +kernel
theorem gd_Lw_law_344 : decode code 344 = .ok (.iconst 1, 1) := by decide +kernel
theorem gd_Lw_law_345 : decode code 345 = .ok (.iadd, 1) := by decide +kernel
theorem gd_Lw_law_346 : decode code 346 = .ok (.iaload, 1) := by decide +kernel
theorem gd_Lw_law_347 : decode code 347 = .ok (.invokevirtual 54, 3) := by decide +kernel
theorem gd_Lw_law_350 : decode code 350 = .ok (.if_icmp .eq 153, 3) := by decide +kernel
theorem gd_Lw_law_353 : decode code 353 = .ok (.iconst 0, 1) := by decide +kernel
theorem gd_Lw_law_354 : decode code 354 = .ok (.ireturn, 1) := by decide +kernel
theorem gd_Lw_law_355 : decode code 355 = .ok (.aload_n 1, 1) := by decide +kernel
theorem gd_Lw_law_356 : decode code 356 = .ok (.aload_n 0, 1) := by decide +kernel
theorem gd_Lw_law_357 : decode code 357 = .ok (.iload_n 3, 1) := by decide +kernel
theorem gd_Lw_law_358 : decode code 358 = .ok (.iconst 1, 1) := by decide +kernel
theorem gd_Lw_law_359 : decode code 359 = .ok (.iadd, 1) := by decide +kernel
theorem gd_Lw_law_360 : decode code 360 = .ok (.iaload, 1) := by decide +kernel
theorem gd_Lw_law_361 : decode code 361 = .ok (.invokevirtual 55, 3) := by decide +kernel
theorem gd_Lw_law_364 : decode code 364 = .ok (.aload_n 2, 1) := by decide +kernel
theorem gd_Lw_law_365 : decode code 365 = .ok (.aload_n 0, 1) := by decide +kernel
theorem gd_Lw_law_366 : decode code 366 = .ok (.iload_n 3, 1) := by decide +kernel
theorem gd_Lw_law_367 : decode code 367 = .ok (.iconst 1, 1) := by decide +kernel
theorem gd_Lw_law_368 : decode code 368 = .ok (.iadd, 1) := by decide +kernel
theorem gd_Lw_law_369 : decode code 369 = .ok (.iaload, 1) := by decide +kernel
theorem gd_Lw_law_370 : decode code 370 = .ok (.invokevirtual 58, 3) := by decide +kernel
theorem gd_Lw_law_373 : decode code 373 = .ok (.if_icmp .eq 130, 3) := by decide +kernel
theorem gd_Lw_law_376 : decode code 376 = .ok (.iconst 0, 1) := by decide +kernel
theorem gd_Lw_law_377 : decode code 377 = .ok (.ireturn, 1) := by decide +kernel
theorem gd_Lw_law_378 : decode code 378 = .ok (.aload_n 1, 1) := by decide +kernel
theorem gd_Lw_law_379 : decode code 379 = .ok (.invokevirtual 59, 3) := by decide +kernel
theorem gd_Lw_law_382 : decode code 382 = .ok (.aload_n 2, 1) := by decide +kernel
theorem gd_Lw_law_383 : decode code 383 = .ok (.invokevirtual 62, 3) := by decide +kernel
theorem gd_Lw_law_386 : decode code 386 = .ok (.if_icmp .eq 117, 3) := by decide +kernel
theorem gd_Lw_law_389 : decode code 389 = .ok (.iconst 0, 1) := by decide +kernel
theorem gd_Lw_law_390 : decode code 390 = .ok (.ireturn, 1) := by decide +kernel
theorem gd_Lw_law_391 : decode code 391 = .ok (.aload_n 1, 1) := by decide +kernel
theorem gd_Lw_law_392 : decode code 392 = .ok (.aload_n 0, 1) := by decide +kernel
theorem gd_Lw_law_393 : decode code 393 = .ok (.iload_n 3, 1) := by decide +kernel
theorem gd_Lw_law_394 : decode code 394 = .ok (.iconst 1, 1) := by decide +kernel
theorem gd_Lw_law_395 : decode code 395 = .ok (.iadd, 1) := by decide +kernel
theorem gd_Lw_law_396 : decode code 396 = .ok (.iaload, 1) := by decide +kernel
theorem gd_Lw_law_397 : decode code 397 = .ok (.invokevirtual 63, 3) := by decide +kernel
theorem gd_Lw_law_400 : decode code 400 = .ok (.aload_n 2, 1) := by decide +kernel
theorem gd_Lw_law_401 : decode code 401 = .ok (.aload_n 0, 1) := by decide +kernel
theorem gd_Lw_law_402 : decode code 402 = .ok (.iload_n 3, 1) := by decide +kernel
theorem gd_Lw_law_403 : decode code 403 = .ok (.iconst 1, 1) := by decide +kernel
theorem gd_Lw_law_404 : decode code 404 = .ok (.iadd, 1) := by decide +kernel
theorem gd_Lw_law_405 : decode code 405 = .ok (.iaload, 1) := by decide +kernel
theorem gd_Lw_law_406 : decode code 406 = .ok (.invokevirtual 66, 3) := by decide +kernel
theorem gd_Lw_law_409 : decode code 409 = .ok (.if_icmp .eq 94, 3) := by decide +kernel
theorem gd_Lw_law_412 : decode code 412 = .ok (.iconst 0, 1) := by decide +kernel
theorem gd_Lw_law_413 : decode code 413 = .ok (.ireturn, 1) := by decide +kernel
theorem gd_Lw_law_414 : decode code 414 = .ok (.aload_n 1, 1) := by decide +kernel
theorem gd_Lw_law_415 : decode code 415 = .ok (.aload_n 0, 1) := by decide +kernel
theorem gd_Lw_law_416 : decode code 416 = .ok (.iload_n 3, 1) := by decide +kernel
theorem gd_Lw_law_417 : decode code 417 = .ok (.iconst 1, 1) := by decide +kernel
theorem gd_Lw_law_418 : decode code 418 = .ok (.iadd, 1) := by decide +kernel
theorem gd_Lw_law_419 : decode code 419 = .ok (.iaload, 1) := by decide +kernel
theorem gd_Lw_law_420 : decode code 420 = .ok (.aload_n 0, 1) := by decide +kernel
theorem gd_Lw_law_421 : decode code 421 = .ok (.iload_n 3, 1) := by decide +kernel
theorem gd_Lw_law_422 : decode code 422 = .ok (.iconst 2, 1) := by decide +kernel
theorem gd_Lw_law_423 : decode code 423 = .ok (.iadd, 1) := by decide +kernel
theorem gd_Lw_law_424 : decode code 424 = .ok (.iaload, 1) := by decide +kernel
theorem gd_Lw_law_425 : decode code 425 = .ok (.invokevirtual 67, 3) := by decide +kernel
theorem gd_Lw_law_428 : decode code 428 = .ok (.aload_n 2, 1) := by decide +kernel
theorem gd_Lw_law_429 : decode code 429 = .ok (.aload_n 0, 1) := by decide +kernel
theorem gd_Lw_law_430 : decode code 430 = .ok (.iload_n 3, 1) := by decide +kernel
theorem gd_Lw_law_431 : decode code 431 = .ok (.iconst 1, 1) := by decide +kernel
theorem gd_Lw_law_432 : decode code 432 = .ok (.iadd, 1) := by decide +kernel
theorem gd_Lw_law_433 : decode code 433 = .ok (.iaload, 1) := by decide +kernel
theorem gd_Lw_law_434 : decode code 434 = .ok (.aload_n 0, 1) := by decide +kernel
theorem gd_Lw_law_435 : decode code 435 = .ok (.iload_n 3, 1) := by decide +kernel
theorem gd_Lw_law_436 : decode code 436 = .ok (.iconst 2, 1) := by decide +kernel
theorem gd_Lw_law_437 : decode code 437 = .ok (.iadd, 1) := by decide +kernel
theorem gd_Lw_law_438 : decode code 438 = .ok (.iaload, 1) := by decide +kernel
theorem gd_Lw_law_439 : decode code 439 = .ok (.invokevirtual 70, 3) := by decide +kernel
theorem gd_Lw_law_442 : decode code 442 = .ok (.if_icmp .eq 61, 3) := by decide +kernel
theorem gd_Lw_law_445 : decode code 445 = .ok (.iconst 0, 1) := by decide +kernel
theorem gd_Lw_law_446 : decode code 446 = .ok (.ireturn, 1) := by decide +kernel
theorem gd_Lw_law_447 : decode code 447 = .ok (.aload_n 1, 1) := by decide +kernel
theorem gd_Lw_law_448 : decode code 448 = .ok (.aload_n 0, 1) := by decide +kernel
theorem gd_Lw_law_449 : decode code 449 = .ok (.iload_n 3, 1) := by decide +kernel
theorem gd_Lw_law_450 : decode code 450 = .ok (.iconst 1, 1) := by decide +kernel
theorem gd_Lw_law_451 : decode code 451 = .ok (.iadd, 1) := by decide +kernel
theorem gd_Lw_law_452 : decode code 452 = .ok (.iaload, 1) := by decide +kernel
theorem gd_Lw_law_453 : decode code 453 = .ok (.aload_n 0, 1) := by decide +kernel
theorem gd_Lw_law_454 : decode code 454 = .ok (.iload_n 3, 1) := by decide +kernel
theorem gd_Lw_law_455 : decode code 455 = .ok (.iconst 2, 1) := by decide +kernel
theorem gd_Lw_law_456 : decode code 456 = .ok (.iadd, 1) := by decide +kernel
theorem gd_Lw_law_457 : decode code 457 = .ok (.iaload, 1) := by decide +kernel
theorem gd_Lw_law_458 : decode code 458 = .ok (.invokevirtual 71, 3) := by decide +kernel
theorem gd_Lw_law_461 : decode code 461 = .ok (.aload_n 2, 1) := by decide +kernel
theorem gd_Lw_law_462 : decode code 462 = .ok (.aload_n 0, 1) := by decide +kernel
theorem gd_Lw_law_463 : decode code 463 = .ok (.iload_n 3, 1) := by decide +kernel
theorem gd_Lw_law_464 : decode code 464 = .ok (.iconst 1, 1) := by decide +kernel
theorem gd_Lw_law_465 : decode code 465 = .ok (.iadd, 1) := by decide +kernel
theorem gd_Lw_law_466 : decode code 466 = .ok (.iaload, 1) := by decide +kernel
theorem gd_Lw_law_467 : decode code 467 = .ok (.aload_n 0, 1) := by decide +kernel
theorem gd_Lw_law_468 : decode code 468 = .ok (.iload_n 3, 1) := by decide +kernel
theorem gd_Lw_law_469 : decode code 469 = .ok (.iconst 2, 1) := by decide +kernel
theorem gd_Lw_law_470 : decode code 470 = .ok (.iadd, 1) := by decide +kernel
theorem gd_Lw_law_471 : decode code 471 = .ok (.iaload, 1) := by decide +kernel
theorem gd_Lw_law_472 : decode code 472 = .ok (.invokevirtual 74, 3) := by decide +kernel
theorem gd_Lw_law_475 : decode code 475 = .ok (.if_icmp .eq 28, 3) := by decide +kernel
theorem gd_Lw_law_478 : decode code 478 = .ok (.iconst 0, 1) := by decide +kernel
theorem gd_Lw_law_479 : decode code 479 = .ok (.ireturn, 1) := by decide +kernel
theorem gd_Lw_law_480 : decode code 480 = .ok (.aload_n 1, 1) := by decide +kernel
theorem gd_Lw_law_481 : decode code 481 = .ok (.aload_n 0, 1) := by decide +kernel
theorem gd_Lw_law_482 : decode code 482 = .ok (.iload_n 3, 1) := by decide +kernel
theorem gd_Lw_law_483 : decode code 483 = .ok (.iconst 1, 1) := by decide +kernel
theorem gd_Lw_law_484 : decode code 484 = .ok (.iadd, 1) := by decide +kernel
theorem gd_Lw_law_485 : decode code 485 = .ok (.iaload, 1) := by decide +kernel
theorem gd_Lw_law_486 : decode code 486 = .ok (.invokevirtual 75, 3) := by decide +kernel
theorem gd_Lw_law_489 : decode code 489 = .ok (.aload_n 2, 1) := by decide +kernel
theorem gd_Lw_law_490 : decode code 490 = .ok (.aload_n 0, 1) := by decide +kernel
theorem gd_Lw_law_491 : decode code 491 = .ok (.iload_n 3, 1) := by decide +kernel
theorem gd_Lw_law_492 : decode code 492 = .ok (.iconst 1, 1) := by decide +kernel
theorem gd_Lw_law_493 : decode code 493 = .ok (.iadd, 1) := by decide +kernel
theorem gd_Lw_law_494 : decode code 494 = .ok (.iaload, 1) := by decide +kernel
theorem gd_Lw_law_495 : decode code 495 = .ok (.invokevirtual 78, 3) := by decide +kernel
theorem gd_Lw_law_498 : decode code 498 = .ok (.if_icmp .eq 5, 3) := by decide +kernel
theorem gd_Lw_law_501 : decode code 501 = .ok (.iconst 0, 1) := by decide +kernel
theorem gd_Lw_law_502 : decode code 502 = .ok (.ireturn, 1) := by decide +kernel
theorem gd_Lw_law_503 : decode code 503 = .ok (.iinc 3 4, 3) := by decide +kernel
theorem gd_Lw_law_506 : decode code 506 = .ok (.goto (-488), 3) := by decide +kernel
theorem gd_Lw_law_509 : decode code 509 = .ok (.iconst 1, 1) := by decide +kernel
theorem gd_Lw_law_510 : decode code 510 = .ok (.ireturn, 1) := by decide +kernel
