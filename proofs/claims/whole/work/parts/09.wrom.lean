theorem gt_5 : Cond.initialized "TermBookModel" ∈ gt_T := gt_in 5 (by decide +kernel) rfl
theorem gt_369 : Cond.fieldLink "TermBookModel" 54 "TermBookModel" "tapeMany" "I" ∈ gt_T := gt_in 369 (by decide +kernel) rfl
theorem gt_370 : Cond.fieldLink "TermBookModel" 7 "TermBookModel" "tape" "[I" ∈ gt_T := gt_in 370 (by decide +kernel) rfl
theorem gt_371 : Cond.fieldLink "TermBookModel" 13 "TermBookModel" "there" "[Z" ∈ gt_T := gt_in 371 (by decide +kernel) rfl
theorem gt_372 : Cond.fieldLink "TermBookModel" 17 "TermBookModel" "kinds" "[I" ∈ gt_T := gt_in 372 (by decide +kernel) rfl
theorem gt_373 : Cond.fieldLink "TermBookModel" 20 "TermBookModel" "uses" "[I" ∈ gt_T := gt_in 373 (by decide +kernel) rfl
theorem gt_374 : Cond.fieldLink "TermBookModel" 23 "TermBookModel" "sizes" "[I" ∈ gt_T := gt_in 374 (by decide +kernel) rfl
theorem gt_375 : Cond.fieldLink "TermBookModel" 26 "TermBookModel" "texts" "[I" ∈ gt_T := gt_in 375 (by decide +kernel) rfl
theorem gt_376 : Cond.fieldLink "TermBookModel" 44 "TermBookModel" "many" "I" ∈ gt_T := gt_in 376 (by decide +kernel) rfl
theorem gt_377 : Cond.fieldLink "TermBookModel" 29 "TermBookModel" "sorted" "[I" ∈ gt_T := gt_in 377 (by decide +kernel) rfl
theorem gt_378 : Cond.fieldLink "TermBookModel" 61 "TermBookModel" "leaves" "I" ∈ gt_T := gt_in 378 (by decide +kernel) rfl
theorem gt_379 : Cond.fieldLink "TermBookModel" 32 "TermBookModel" "leafSizes" "[I" ∈ gt_T := gt_in 379 (by decide +kernel) rfl
theorem gt_380 : Cond.fieldLink "TermBookModel" 105 "TermBookModel" "ended" "I" ∈ gt_T := gt_in 380 (by decide +kernel) rfl
theorem gt_381 : Cond.fieldLink "TermBookModel" 88 "TermBookModel" "kept" "I" ∈ gt_T := gt_in 381 (by decide +kernel) rfl
theorem gt_382 : Cond.fieldLink "TermBookModel" 35 "TermBookModel" "versions" "[I" ∈ gt_T := gt_in 382 (by decide +kernel) rfl
theorem gt_383 : Cond.fieldLink "TermBookModel" 38 "TermBookModel" "has" "[Z" ∈ gt_T := gt_in 383 (by decide +kernel) rfl
theorem gt_384 : Cond.fieldLink "TermBookModel" 41 "TermBookModel" "going" "[I" ∈ gt_T := gt_in 384 (by decide +kernel) rfl
theorem gt_423 : Cond.methodLink "TermBookModel" 48 gy_Md_in ∈ gt_T := gt_in 423 (by decide +kernel) rfl
theorem gt_424 : Cond.static gy_Md_in ∈ gt_T := gt_in 424 (by decide +kernel) rfl
set_option maxRecDepth 100000 in
theorem gt_425 : Cond.code gy_Md_in gb_Md_in 3 (some .boolean) ∈ gt_T := gt_in 425 rfl rfl
theorem gt_426 : Cond.constantLong "TermBookModel" 52 (255) ∈ gt_T := gt_in 426 (by decide +kernel) rfl
theorem gt_435 : Cond.methodLink "TermBookModel" 64 gy_Md_numberOf ∈ gt_T := gt_in 435 (by decide +kernel) rfl
theorem gt_437 : Cond.instanceMethod gy_Md_numberOf ∈ gt_T := gt_in 437 (by decide +kernel) rfl
set_option maxRecDepth 100000 in
theorem gt_438 : Cond.code gy_Md_numberOf gb_Md_numberOf 4 (some .int) ∈ gt_T := gt_in 438 rfl rfl
theorem gt_439 : Cond.methodLink "TermBookModel" 57 gy_Md_against ∈ gt_T := gt_in 439 (by decide +kernel) rfl
theorem gt_441 : Cond.instanceMethod gy_Md_against ∈ gt_T := gt_in 441 (by decide +kernel) rfl
set_option maxRecDepth 100000 in
theorem gt_442 : Cond.code gy_Md_against gb_Md_against 5 (some .int) ∈ gt_T := gt_in 442 rfl rfl
theorem gt_443 : Cond.methodLink "TermBookModel" 68 gy_Md_come ∈ gt_T := gt_in 443 (by decide +kernel) rfl
theorem gt_445 : Cond.instanceMethod gy_Md_come ∈ gt_T := gt_in 445 (by decide +kernel) rfl
set_option maxRecDepth 100000 in
theorem gt_446 : Cond.code gy_Md_come gb_Md_come 5 none ∈ gt_T := gt_in 446 rfl rfl
theorem gt_447 : Cond.methodLink "TermBookModel" 72 gy_Md_before ∈ gt_T := gt_in 447 (by decide +kernel) rfl
theorem gt_449 : Cond.instanceMethod gy_Md_before ∈ gt_T := gt_in 449 (by decide +kernel) rfl
set_option maxRecDepth 100000 in
theorem gt_450 : Cond.code gy_Md_before gb_Md_before 4 (some .int) ∈ gt_T := gt_in 450 rfl rfl
theorem gt_451 : Cond.methodLink "TermBookModel" 75 gy_Md_insertLeaf ∈ gt_T := gt_in 451 (by decide +kernel) rfl
theorem gt_453 : Cond.instanceMethod gy_Md_insertLeaf ∈ gt_T := gt_in 453 (by decide +kernel) rfl
set_option maxRecDepth 100000 in
theorem gt_454 : Cond.code gy_Md_insertLeaf gb_Md_insertLeaf 4 none ∈ gt_T := gt_in 454 rfl rfl
theorem gt_455 : Cond.methodLink "TermBookModel" 78 gy_Md_begin ∈ gt_T := gt_in 455 (by decide +kernel) rfl
theorem gt_457 : Cond.instanceMethod gy_Md_begin ∈ gt_T := gt_in 457 (by decide +kernel) rfl
set_option maxRecDepth 100000 in
theorem gt_458 : Cond.code gy_Md_begin gb_Md_begin 4 (some .int) ∈ gt_T := gt_in 458 rfl rfl
theorem gt_463 : Cond.methodLink "TermBookModel" 95 gy_Md_isTerm ∈ gt_T := gt_in 463 (by decide +kernel) rfl
theorem gt_465 : Cond.instanceMethod gy_Md_isTerm ∈ gt_T := gt_in 465 (by decide +kernel) rfl
set_option maxRecDepth 100000 in
theorem gt_466 : Cond.code gy_Md_isTerm gb_Md_isTerm 2 (some .boolean) ∈ gt_T := gt_in 466 rfl rfl
theorem gt_467 : Cond.methodLink "TermBookModel" 99 gy_Md_isLoose ∈ gt_T := gt_in 467 (by decide +kernel) rfl
theorem gt_469 : Cond.instanceMethod gy_Md_isLoose ∈ gt_T := gt_in 469 (by decide +kernel) rfl
set_option maxRecDepth 100000 in
theorem gt_470 : Cond.code gy_Md_isLoose gb_Md_isLoose 4 (some .boolean) ∈ gt_T := gt_in 470 rfl rfl
theorem gt_471 : Cond.methodLink "TermBookModel" 91 gy_Md_isKeptBy ∈ gt_T := gt_in 471 (by decide +kernel) rfl
theorem gt_473 : Cond.instanceMethod gy_Md_isKeptBy ∈ gt_T := gt_in 473 (by decide +kernel) rfl
set_option maxRecDepth 100000 in
theorem gt_474 : Cond.code gy_Md_isKeptBy gb_Md_isKeptBy 3 (some .boolean) ∈ gt_T := gt_in 474 rfl rfl
theorem gt_475 : Cond.methodLink "TermBookModel" 102 gy_Md_go ∈ gt_T := gt_in 475 (by decide +kernel) rfl
theorem gt_477 : Cond.instanceMethod gy_Md_go ∈ gt_T := gt_in 477 (by decide +kernel) rfl
set_option maxRecDepth 100000 in
theorem gt_478 : Cond.code gy_Md_go gb_Md_go 5 none ∈ gt_T := gt_in 478 rfl rfl
theorem gt_479 : Cond.methodLink "TermBookModel" 81 gy_Md_placeOf ∈ gt_T := gt_in 479 (by decide +kernel) rfl
theorem gt_481 : Cond.instanceMethod gy_Md_placeOf ∈ gt_T := gt_in 481 (by decide +kernel) rfl
set_option maxRecDepth 100000 in
theorem gt_482 : Cond.code gy_Md_placeOf gb_Md_placeOf 4 (some .int) ∈ gt_T := gt_in 482 rfl rfl
theorem gt_483 : Cond.methodLink "TermBookModel" 84 gy_Md_dropLeaf ∈ gt_T := gt_in 483 (by decide +kernel) rfl
theorem gt_485 : Cond.instanceMethod gy_Md_dropLeaf ∈ gt_T := gt_in 485 (by decide +kernel) rfl
set_option maxRecDepth 100000 in
theorem gt_486 : Cond.code gy_Md_dropLeaf gb_Md_dropLeaf 3 none ∈ gt_T := gt_in 486 rfl rfl
theorem gt_519 : Cond.methodLink "TermBookModel" 108 gy_Md_keptAs ∈ gt_T := gt_in 519 (by decide +kernel) rfl
theorem gt_521 : Cond.instanceMethod gy_Md_keptAs ∈ gt_T := gt_in 521 (by decide +kernel) rfl
set_option maxRecDepth 100000 in
theorem gt_522 : Cond.code gy_Md_keptAs gb_Md_keptAs 4 (some .int) ∈ gt_T := gt_in 522 rfl rfl
theorem gt_531 : Cond.methodLink "TermBookModel" 111 gy_Md_shared ∈ gt_T := gt_in 531 (by decide +kernel) rfl
theorem gt_533 : Cond.instanceMethod gy_Md_shared ∈ gt_T := gt_in 533 (by decide +kernel) rfl
set_option maxRecDepth 100000 in
theorem gt_534 : Cond.code gy_Md_shared gb_Md_shared 8 (some .int) ∈ gt_T := gt_in 534 rfl rfl
theorem gt_535 : Cond.methodLink "TermBookModel" 114 gy_Md_cost ∈ gt_T := gt_in 535 (by decide +kernel) rfl
theorem gt_537 : Cond.instanceMethod gy_Md_cost ∈ gt_T := gt_in 537 (by decide +kernel) rfl
set_option maxRecDepth 100000 in
theorem gt_538 : Cond.code gy_Md_cost gb_Md_cost 5 (some .int) ∈ gt_T := gt_in 538 rfl rfl
