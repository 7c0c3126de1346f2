/-! words of the constructors and of the law -/
theorem gt_9 : Cond.classLink "TermBookLaw" 7 "TermBook" ∈ gt_T := gt_in 9 (by decide +kernel) rfl
theorem gt_10 : Cond.instantiable "TermBook" 5 ∈ gt_T := gt_in 10 (by decide +kernel) rfl
theorem gt_11 : Cond.methodLink "TermBookLaw" 9 gy_Bk_init ∈ gt_T := gt_in 11 (by decide +kernel) rfl
theorem gt_12 : Cond.instanceMethod gy_Bk_init ∈ gt_T := gt_in 12 (by decide +kernel) rfl
set_option maxRecDepth 100000 in
theorem gt_13 : Cond.code gy_Bk_init gb_Bk_init 2 none ∈ gt_T := gt_in 13 rfl rfl
theorem gt_14 : Cond.methodLink "TermBook" 1 objectInit ∈ gt_T := gt_in 14 (by decide +kernel) rfl
theorem gt_15 : Cond.instanceMethod objectInit ∈ gt_T := gt_in 15 (by decide +kernel) rfl
set_option maxRecDepth 100000 in
theorem gt_16 : Cond.code objectInit ⟨#[0xb1]⟩ 1 none ∈ gt_T := gt_in 16 rfl rfl
theorem gt_17 : Cond.classLink "TermBook" 7 "TermBook$Text" ∈ gt_T := gt_in 17 (by decide +kernel) rfl
theorem gt_18 : Cond.instantiable "TermBook$Text" 3 ∈ gt_T := gt_in 18 (by decide +kernel) rfl
theorem gt_20 : Cond.instanceMethod gy_Tx_init ∈ gt_T := gt_in 20 (by decide +kernel) rfl
set_option maxRecDepth 100000 in
theorem gt_21 : Cond.code gy_Tx_init gb_Tx_init 1 none ∈ gt_T := gt_in 21 rfl rfl
theorem gt_22 : Cond.methodLink "TermBook$Text" 1 objectInit ∈ gt_T := gt_in 22 (by decide +kernel) rfl
theorem gt_34 : Cond.classLink "TermBook" 16 "TermBook$Term" ∈ gt_T := gt_in 34 (by decide +kernel) rfl
theorem gt_36 : Cond.instantiable "TermBook$Term" 5 ∈ gt_T := gt_in 36 (by decide +kernel) rfl
theorem gt_37 : Cond.methodLink "TermBook" 22 gy_Tm_init ∈ gt_T := gt_in 37 (by decide +kernel) rfl
theorem gt_38 : Cond.instanceMethod gy_Tm_init ∈ gt_T := gt_in 38 (by decide +kernel) rfl
set_option maxRecDepth 100000 in
theorem gt_39 : Cond.code gy_Tm_init gb_Tm_init 1 none ∈ gt_T := gt_in 39 rfl rfl
theorem gt_40 : Cond.methodLink "TermBook$Term" 1 objectInit ∈ gt_T := gt_in 40 (by decide +kernel) rfl
theorem gt_41 : Cond.classLink "TermBook$Term" 7 "TermBook$Text" ∈ gt_T := gt_in 41 (by decide +kernel) rfl
theorem gt_63 : Cond.classLink "TermBook" 23 "TermBook$Leaves" ∈ gt_T := gt_in 63 (by decide +kernel) rfl
theorem gt_64 : Cond.instantiable "TermBook$Leaves" 4 ∈ gt_T := gt_in 64 (by decide +kernel) rfl
theorem gt_65 : Cond.methodLink "TermBook" 25 gy_Lv_init ∈ gt_T := gt_in 65 (by decide +kernel) rfl
theorem gt_66 : Cond.instanceMethod gy_Lv_init ∈ gt_T := gt_in 66 (by decide +kernel) rfl
set_option maxRecDepth 100000 in
theorem gt_67 : Cond.code gy_Lv_init gb_Lv_init 1 none ∈ gt_T := gt_in 67 rfl rfl
theorem gt_68 : Cond.methodLink "TermBook$Leaves" 3 objectInit ∈ gt_T := gt_in 68 (by decide +kernel) rfl
theorem gt_84 : Cond.arrayClass .int ∈ gt_T := gt_in 84 (by decide +kernel) rfl
theorem gt_363 : Cond.classLink "TermBookLaw" 10 "TermBookModel" ∈ gt_T := gt_in 363 (by decide +kernel) rfl
theorem gt_364 : Cond.instantiable "TermBookModel" 16 ∈ gt_T := gt_in 364 (by decide +kernel) rfl
theorem gt_365 : Cond.methodLink "TermBookLaw" 12 gy_Md_init ∈ gt_T := gt_in 365 (by decide +kernel) rfl
theorem gt_366 : Cond.instanceMethod gy_Md_init ∈ gt_T := gt_in 366 (by decide +kernel) rfl
set_option maxRecDepth 100000 in
theorem gt_367 : Cond.code gy_Md_init gb_Md_init 1 none ∈ gt_T := gt_in 367 rfl rfl
theorem gt_368 : Cond.methodLink "TermBookModel" 1 objectInit ∈ gt_T := gt_in 368 (by decide +kernel) rfl
theorem gt_418 : Cond.arrayClass .boolean ∈ gt_T := gt_in 418 (by decide +kernel) rfl
