abbrev R_Law : String := "LineClaimsLaw"
theorem wd_8 : Cond.classLink "LineClaimsLaw" 7 "LineClaims" ∈ gW := List.mem_filter.mpr ⟨(List.mem_append_right _ (List.mem_of_getElem? (i := 8) (by decide +kernel))), by decide +kernel⟩
theorem wd_9 : Cond.instantiable "LineClaims" 5 ∈ gW := List.mem_filter.mpr ⟨(List.mem_append_right _ (List.mem_of_getElem? (i := 9) (by decide +kernel))), by decide +kernel⟩
theorem wd_10 : Cond.methodLink "LineClaimsLaw" 9 ⟨"LineClaims", "<init>", "()V"⟩ ∈ gW := List.mem_filter.mpr ⟨(List.mem_append_right _ (List.mem_of_getElem? (i := 10) (by decide +kernel))), by decide +kernel⟩
theorem wd_11 : Cond.instanceMethod ⟨"LineClaims", "<init>", "()V"⟩ ∈ gW := List.mem_filter.mpr ⟨(List.mem_append_right _ (List.mem_of_getElem? (i := 11) (by decide +kernel))), by decide +kernel⟩
theorem wd_12 : Cond.code ⟨"LineClaims", "<init>", "()V"⟩ prog_1_method_1_code 1 none ∈ gW := List.mem_filter.mpr ⟨(List.mem_append_right _ (List.mem_of_getElem? (i := 12) (by decide +kernel))), by decide +kernel⟩
theorem wd_120 : Cond.methodLink "LineClaimsLaw" 13 ⟨"LineClaims", "type", "(II)Z"⟩ ∈ gW := List.mem_filter.mpr ⟨(List.mem_append_right _ (List.mem_of_getElem? (i := 120) (by decide +kernel))), by decide +kernel⟩
theorem wd_121 : Cond.instanceMethod ⟨"LineClaims", "type", "(II)Z"⟩ ∈ gW := List.mem_filter.mpr ⟨(List.mem_append_right _ (List.mem_of_getElem? (i := 121) (by decide +kernel))), by decide +kernel⟩
theorem wd_122 : Cond.selects "LineClaims" ⟨"LineClaims", "type", "(II)Z"⟩ ⟨"LineClaims", "type", "(II)Z"⟩ ∈ gW := List.mem_filter.mpr ⟨(List.mem_append_right _ (List.mem_of_getElem? (i := 122) (by decide +kernel))), by decide +kernel⟩
theorem wd_123 : Cond.code ⟨"LineClaims", "type", "(II)Z"⟩ prog_1_method_2_code 4 (some .boolean) ∈ gW := List.mem_filter.mpr ⟨(List.mem_append_right _ (List.mem_of_getElem? (i := 123) (by decide +kernel))), by decide +kernel⟩
theorem wd_138 : Cond.methodLink "LineClaimsLaw" 18 ⟨"LineClaims", "take", "()I"⟩ ∈ gW := List.mem_filter.mpr ⟨(List.mem_append_right _ (List.mem_of_getElem? (i := 138) (by decide +kernel))), by decide +kernel⟩
theorem wd_139 : Cond.instanceMethod ⟨"LineClaims", "take", "()I"⟩ ∈ gW := List.mem_filter.mpr ⟨(List.mem_append_right _ (List.mem_of_getElem? (i := 139) (by decide +kernel))), by decide +kernel⟩
theorem wd_140 : Cond.selects "LineClaims" ⟨"LineClaims", "take", "()I"⟩ ⟨"LineClaims", "take", "()I"⟩ ∈ gW := List.mem_filter.mpr ⟨(List.mem_append_right _ (List.mem_of_getElem? (i := 140) (by decide +kernel))), by decide +kernel⟩
theorem wd_141 : Cond.code ⟨"LineClaims", "take", "()I"⟩ prog_1_method_3_code 3 (some .int) ∈ gW := List.mem_filter.mpr ⟨(List.mem_append_right _ (List.mem_of_getElem? (i := 141) (by decide +kernel))), by decide +kernel⟩
theorem wd_316 : Cond.methodLink "LineClaimsLaw" 23 ⟨"LineClaims", "free", "()Z"⟩ ∈ gW := List.mem_filter.mpr ⟨(List.mem_append_right _ (List.mem_of_getElem? (i := 316) (by decide +kernel))), by decide +kernel⟩
theorem wd_317 : Cond.instanceMethod ⟨"LineClaims", "free", "()Z"⟩ ∈ gW := List.mem_filter.mpr ⟨(List.mem_append_right _ (List.mem_of_getElem? (i := 317) (by decide +kernel))), by decide +kernel⟩
theorem wd_318 : Cond.selects "LineClaims" ⟨"LineClaims", "free", "()Z"⟩ ⟨"LineClaims", "free", "()Z"⟩ ∈ gW := List.mem_filter.mpr ⟨(List.mem_append_right _ (List.mem_of_getElem? (i := 318) (by decide +kernel))), by decide +kernel⟩
theorem wd_319 : Cond.code ⟨"LineClaims", "free", "()Z"⟩ prog_1_method_4_code 1 (some .boolean) ∈ gW := List.mem_filter.mpr ⟨(List.mem_append_right _ (List.mem_of_getElem? (i := 319) (by decide +kernel))), by decide +kernel⟩
theorem wd_320 : Cond.methodLink "LineClaimsLaw" 28 ⟨"LineClaims", "holds", "(I)Z"⟩ ∈ gW := List.mem_filter.mpr ⟨(List.mem_append_right _ (List.mem_of_getElem? (i := 320) (by decide +kernel))), by decide +kernel⟩
theorem wd_321 : Cond.instanceMethod ⟨"LineClaims", "holds", "(I)Z"⟩ ∈ gW := List.mem_filter.mpr ⟨(List.mem_append_right _ (List.mem_of_getElem? (i := 321) (by decide +kernel))), by decide +kernel⟩
theorem wd_322 : Cond.selects "LineClaims" ⟨"LineClaims", "holds", "(I)Z"⟩ ⟨"LineClaims", "holds", "(I)Z"⟩ ∈ gW := List.mem_filter.mpr ⟨(List.mem_append_right _ (List.mem_of_getElem? (i := 322) (by decide +kernel))), by decide +kernel⟩
theorem wd_323 : Cond.code ⟨"LineClaims", "holds", "(I)Z"⟩ prog_1_method_5_code 2 (some .boolean) ∈ gW := List.mem_filter.mpr ⟨(List.mem_append_right _ (List.mem_of_getElem? (i := 323) (by decide +kernel))), by decide +kernel⟩
theorem wd_337 : Cond.methodLink "LineClaimsLaw" 33 ⟨"LineClaims", "some", "()Z"⟩ ∈ gW := List.mem_filter.mpr ⟨(List.mem_append_right _ (List.mem_of_getElem? (i := 337) (by decide +kernel))), by decide +kernel⟩
theorem wd_338 : Cond.instanceMethod ⟨"LineClaims", "some", "()Z"⟩ ∈ gW := List.mem_filter.mpr ⟨(List.mem_append_right _ (List.mem_of_getElem? (i := 338) (by decide +kernel))), by decide +kernel⟩
theorem wd_339 : Cond.selects "LineClaims" ⟨"LineClaims", "some", "()Z"⟩ ⟨"LineClaims", "some", "()Z"⟩ ∈ gW := List.mem_filter.mpr ⟨(List.mem_append_right _ (List.mem_of_getElem? (i := 339) (by decide +kernel))), by decide +kernel⟩
theorem wd_340 : Cond.code ⟨"LineClaims", "some", "()Z"⟩ prog_1_method_6_code 1 (some .boolean) ∈ gW := List.mem_filter.mpr ⟨(List.mem_append_right _ (List.mem_of_getElem? (i := 340) (by decide +kernel))), by decide +kernel⟩
theorem wd_345 : Cond.methodLink "LineClaimsLaw" 37 ⟨"LineClaims", "all", "()Z"⟩ ∈ gW := List.mem_filter.mpr ⟨(List.mem_append_right _ (List.mem_of_getElem? (i := 345) (by decide +kernel))), by decide +kernel⟩
theorem wd_346 : Cond.instanceMethod ⟨"LineClaims", "all", "()Z"⟩ ∈ gW := List.mem_filter.mpr ⟨(List.mem_append_right _ (List.mem_of_getElem? (i := 346) (by decide +kernel))), by decide +kernel⟩
theorem wd_347 : Cond.selects "LineClaims" ⟨"LineClaims", "all", "()Z"⟩ ⟨"LineClaims", "all", "()Z"⟩ ∈ gW := List.mem_filter.mpr ⟨(List.mem_append_right _ (List.mem_of_getElem? (i := 347) (by decide +kernel))), by decide +kernel⟩
theorem wd_348 : Cond.code ⟨"LineClaims", "all", "()Z"⟩ prog_1_method_7_code 1 (some .boolean) ∈ gW := List.mem_filter.mpr ⟨(List.mem_append_right _ (List.mem_of_getElem? (i := 348) (by decide +kernel))), by decide +kernel⟩
theorem wd_353 : Cond.methodLink "LineClaimsLaw" 41 ⟨"LineClaims", "next", "(I)I"⟩ ∈ gW := List.mem_filter.mpr ⟨(List.mem_append_right _ (List.mem_of_getElem? (i := 353) (by decide +kernel))), by decide +kernel⟩
theorem wd_354 : Cond.instanceMethod ⟨"LineClaims", "next", "(I)I"⟩ ∈ gW := List.mem_filter.mpr ⟨(List.mem_append_right _ (List.mem_of_getElem? (i := 354) (by decide +kernel))), by decide +kernel⟩
theorem wd_355 : Cond.selects "LineClaims" ⟨"LineClaims", "next", "(I)I"⟩ ⟨"LineClaims", "next", "(I)I"⟩ ∈ gW := List.mem_filter.mpr ⟨(List.mem_append_right _ (List.mem_of_getElem? (i := 355) (by decide +kernel))), by decide +kernel⟩
theorem wd_356 : Cond.code ⟨"LineClaims", "next", "(I)I"⟩ prog_1_method_8_code 4 (some .int) ∈ gW := List.mem_filter.mpr ⟨(List.mem_append_right _ (List.mem_of_getElem? (i := 356) (by decide +kernel))), by decide +kernel⟩
theorem wd_361 : Cond.methodLink "LineClaimsLaw" 46 ⟨"LineClaims", "last", "(I)I"⟩ ∈ gW := List.mem_filter.mpr ⟨(List.mem_append_right _ (List.mem_of_getElem? (i := 361) (by decide +kernel))), by decide +kernel⟩
theorem wd_362 : Cond.instanceMethod ⟨"LineClaims", "last", "(I)I"⟩ ∈ gW := List.mem_filter.mpr ⟨(List.mem_append_right _ (List.mem_of_getElem? (i := 362) (by decide +kernel))), by decide +kernel⟩
theorem wd_363 : Cond.selects "LineClaims" ⟨"LineClaims", "last", "(I)I"⟩ ⟨"LineClaims", "last", "(I)I"⟩ ∈ gW := List.mem_filter.mpr ⟨(List.mem_append_right _ (List.mem_of_getElem? (i := 363) (by decide +kernel))), by decide +kernel⟩
theorem wd_364 : Cond.code ⟨"LineClaims", "last", "(I)I"⟩ prog_1_method_9_code 4 (some .int) ∈ gW := List.mem_filter.mpr ⟨(List.mem_append_right _ (List.mem_of_getElem? (i := 364) (by decide +kernel))), by decide +kernel⟩
theorem wd_369 : Cond.methodLink "LineClaimsLaw" 50 ⟨"LineClaims", "again", "(Z)Z"⟩ ∈ gW := List.mem_filter.mpr ⟨(List.mem_append_right _ (List.mem_of_getElem? (i := 369) (by decide +kernel))), by decide +kernel⟩
theorem wd_370 : Cond.instanceMethod ⟨"LineClaims", "again", "(Z)Z"⟩ ∈ gW := List.mem_filter.mpr ⟨(List.mem_append_right _ (List.mem_of_getElem? (i := 370) (by decide +kernel))), by decide +kernel⟩
theorem wd_371 : Cond.selects "LineClaims" ⟨"LineClaims", "again", "(Z)Z"⟩ ⟨"LineClaims", "again", "(Z)Z"⟩ ∈ gW := List.mem_filter.mpr ⟨(List.mem_append_right _ (List.mem_of_getElem? (i := 371) (by decide +kernel))), by decide +kernel⟩
theorem wd_372 : Cond.code ⟨"LineClaims", "again", "(Z)Z"⟩ prog_1_method_10_code 3 (some .boolean) ∈ gW := List.mem_filter.mpr ⟨(List.mem_append_right _ (List.mem_of_getElem? (i := 372) (by decide +kernel))), by decide +kernel⟩
theorem wd_373 : Cond.methodLink "LineClaimsLaw" 55 ⟨"LineClaims", "count", "(II)I"⟩ ∈ gW := List.mem_filter.mpr ⟨(List.mem_append_right _ (List.mem_of_getElem? (i := 373) (by decide +kernel))), by decide +kernel⟩
theorem wd_374 : Cond.instanceMethod ⟨"LineClaims", "count", "(II)I"⟩ ∈ gW := List.mem_filter.mpr ⟨(List.mem_append_right _ (List.mem_of_getElem? (i := 374) (by decide +kernel))), by decide +kernel⟩
theorem wd_375 : Cond.selects "LineClaims" ⟨"LineClaims", "count", "(II)I"⟩ ⟨"LineClaims", "count", "(II)I"⟩ ∈ gW := List.mem_filter.mpr ⟨(List.mem_append_right _ (List.mem_of_getElem? (i := 375) (by decide +kernel))), by decide +kernel⟩
theorem wd_376 : Cond.code ⟨"LineClaims", "count", "(II)I"⟩ prog_1_method_11_code 5 (some .int) ∈ gW := List.mem_filter.mpr ⟨(List.mem_append_right _ (List.mem_of_getElem? (i := 376) (by decide +kernel))), by decide +kernel⟩
theorem wd_377 : Cond.methodLink "LineClaimsLaw" 60 ⟨"LineClaims", "period", "()I"⟩ ∈ gW := List.mem_filter.mpr ⟨(List.mem_append_right _ (List.mem_of_getElem? (i := 377) (by decide +kernel))), by decide +kernel⟩
theorem wd_378 : Cond.instanceMethod ⟨"LineClaims", "period", "()I"⟩ ∈ gW := List.mem_filter.mpr ⟨(List.mem_append_right _ (List.mem_of_getElem? (i := 378) (by decide +kernel))), by decide +kernel⟩
theorem wd_379 : Cond.selects "LineClaims" ⟨"LineClaims", "period", "()I"⟩ ⟨"LineClaims", "period", "()I"⟩ ∈ gW := List.mem_filter.mpr ⟨(List.mem_append_right _ (List.mem_of_getElem? (i := 379) (by decide +kernel))), by decide +kernel⟩
theorem wd_380 : Cond.code ⟨"LineClaims", "period", "()I"⟩ prog_1_method_12_code 2 (some .int) ∈ gW := List.mem_filter.mpr ⟨(List.mem_append_right _ (List.mem_of_getElem? (i := 380) (by decide +kernel))), by decide +kernel⟩
theorem wd_386 : Cond.classLink "LineClaimsLaw" 10 "LineClaimsModel" ∈ gW := List.mem_filter.mpr ⟨(List.mem_append_right _ (List.mem_of_getElem? (i := 386) (by decide +kernel))), by decide +kernel⟩
theorem wd_387 : Cond.instantiable "LineClaimsModel" 28 ∈ gW := List.mem_filter.mpr ⟨(List.mem_append_right _ (List.mem_of_getElem? (i := 387) (by decide +kernel))), by decide +kernel⟩
theorem wd_388 : Cond.methodLink "LineClaimsLaw" 12 ⟨"LineClaimsModel", "<init>", "()V"⟩ ∈ gW := List.mem_filter.mpr ⟨(List.mem_append_right _ (List.mem_of_getElem? (i := 388) (by decide +kernel))), by decide +kernel⟩
theorem wd_389 : Cond.instanceMethod ⟨"LineClaimsModel", "<init>", "()V"⟩ ∈ gW := List.mem_filter.mpr ⟨(List.mem_append_right _ (List.mem_of_getElem? (i := 389) (by decide +kernel))), by decide +kernel⟩
theorem wd_390 : Cond.code ⟨"LineClaimsModel", "<init>", "()V"⟩ prog_7_method_1_code 1 none ∈ gW := List.mem_filter.mpr ⟨(List.mem_append_right _ (List.mem_of_getElem? (i := 390) (by decide +kernel))), by decide +kernel⟩
theorem wd_478 : Cond.methodLink "LineClaimsLaw" 17 ⟨"LineClaimsModel", "type", "(II)Z"⟩ ∈ gW := List.mem_filter.mpr ⟨(List.mem_append_right _ (List.mem_of_getElem? (i := 478) (by decide +kernel))), by decide +kernel⟩
theorem wd_479 : Cond.instanceMethod ⟨"LineClaimsModel", "type", "(II)Z"⟩ ∈ gW := List.mem_filter.mpr ⟨(List.mem_append_right _ (List.mem_of_getElem? (i := 479) (by decide +kernel))), by decide +kernel⟩
theorem wd_480 : Cond.selects "LineClaimsModel" ⟨"LineClaimsModel", "type", "(II)Z"⟩ ⟨"LineClaimsModel", "type", "(II)Z"⟩ ∈ gW := List.mem_filter.mpr ⟨(List.mem_append_right _ (List.mem_of_getElem? (i := 480) (by decide +kernel))), by decide +kernel⟩
theorem wd_481 : Cond.code ⟨"LineClaimsModel", "type", "(II)Z"⟩ prog_7_method_3_code 5 (some .boolean) ∈ gW := List.mem_filter.mpr ⟨(List.mem_append_right _ (List.mem_of_getElem? (i := 481) (by decide +kernel))), by decide +kernel⟩
theorem wd_485 : Cond.methodLink "LineClaimsLaw" 22 ⟨"LineClaimsModel", "take", "()I"⟩ ∈ gW := List.mem_filter.mpr ⟨(List.mem_append_right _ (List.mem_of_getElem? (i := 485) (by decide +kernel))), by decide +kernel⟩
theorem wd_486 : Cond.instanceMethod ⟨"LineClaimsModel", "take", "()I"⟩ ∈ gW := List.mem_filter.mpr ⟨(List.mem_append_right _ (List.mem_of_getElem? (i := 486) (by decide +kernel))), by decide +kernel⟩
theorem wd_487 : Cond.selects "LineClaimsModel" ⟨"LineClaimsModel", "take", "()I"⟩ ⟨"LineClaimsModel", "take", "()I"⟩ ∈ gW := List.mem_filter.mpr ⟨(List.mem_append_right _ (List.mem_of_getElem? (i := 487) (by decide +kernel))), by decide +kernel⟩
theorem wd_488 : Cond.code ⟨"LineClaimsModel", "take", "()I"⟩ prog_7_method_12_code 3 (some .int) ∈ gW := List.mem_filter.mpr ⟨(List.mem_append_right _ (List.mem_of_getElem? (i := 488) (by decide +kernel))), by decide +kernel⟩
theorem wd_563 : Cond.methodLink "LineClaimsLaw" 27 ⟨"LineClaimsModel", "free", "()Z"⟩ ∈ gW := List.mem_filter.mpr ⟨(List.mem_append_right _ (List.mem_of_getElem? (i := 563) (by decide +kernel))), by decide +kernel⟩
theorem wd_564 : Cond.instanceMethod ⟨"LineClaimsModel", "free", "()Z"⟩ ∈ gW := List.mem_filter.mpr ⟨(List.mem_append_right _ (List.mem_of_getElem? (i := 564) (by decide +kernel))), by decide +kernel⟩
theorem wd_565 : Cond.selects "LineClaimsModel" ⟨"LineClaimsModel", "free", "()Z"⟩ ⟨"LineClaimsModel", "free", "()Z"⟩ ∈ gW := List.mem_filter.mpr ⟨(List.mem_append_right _ (List.mem_of_getElem? (i := 565) (by decide +kernel))), by decide +kernel⟩
theorem wd_566 : Cond.code ⟨"LineClaimsModel", "free", "()Z"⟩ prog_7_method_25_code 1 (some .boolean) ∈ gW := List.mem_filter.mpr ⟨(List.mem_append_right _ (List.mem_of_getElem? (i := 566) (by decide +kernel))), by decide +kernel⟩
theorem wd_567 : Cond.methodLink "LineClaimsLaw" 32 ⟨"LineClaimsModel", "holds", "(I)Z"⟩ ∈ gW := List.mem_filter.mpr ⟨(List.mem_append_right _ (List.mem_of_getElem? (i := 567) (by decide +kernel))), by decide +kernel⟩
theorem wd_568 : Cond.instanceMethod ⟨"LineClaimsModel", "holds", "(I)Z"⟩ ∈ gW := List.mem_filter.mpr ⟨(List.mem_append_right _ (List.mem_of_getElem? (i := 568) (by decide +kernel))), by decide +kernel⟩
theorem wd_569 : Cond.selects "LineClaimsModel" ⟨"LineClaimsModel", "holds", "(I)Z"⟩ ⟨"LineClaimsModel", "holds", "(I)Z"⟩ ∈ gW := List.mem_filter.mpr ⟨(List.mem_append_right _ (List.mem_of_getElem? (i := 569) (by decide +kernel))), by decide +kernel⟩
theorem wd_570 : Cond.code ⟨"LineClaimsModel", "holds", "(I)Z"⟩ prog_7_method_27_code 2 (some .boolean) ∈ gW := List.mem_filter.mpr ⟨(List.mem_append_right _ (List.mem_of_getElem? (i := 570) (by decide +kernel))), by decide +kernel⟩
theorem wd_578 : Cond.methodLink "LineClaimsLaw" 36 ⟨"LineClaimsModel", "some", "()Z"⟩ ∈ gW := List.mem_filter.mpr ⟨(List.mem_append_right _ (List.mem_of_getElem? (i := 578) (by decide +kernel))), by decide +kernel⟩
theorem wd_579 : Cond.instanceMethod ⟨"LineClaimsModel", "some", "()Z"⟩ ∈ gW := List.mem_filter.mpr ⟨(List.mem_append_right _ (List.mem_of_getElem? (i := 579) (by decide +kernel))), by decide +kernel⟩
theorem wd_580 : Cond.selects "LineClaimsModel" ⟨"LineClaimsModel", "some", "()Z"⟩ ⟨"LineClaimsModel", "some", "()Z"⟩ ∈ gW := List.mem_filter.mpr ⟨(List.mem_append_right _ (List.mem_of_getElem? (i := 580) (by decide +kernel))), by decide +kernel⟩
theorem wd_581 : Cond.code ⟨"LineClaimsModel", "some", "()Z"⟩ prog_7_method_29_code 1 (some .boolean) ∈ gW := List.mem_filter.mpr ⟨(List.mem_append_right _ (List.mem_of_getElem? (i := 581) (by decide +kernel))), by decide +kernel⟩
theorem wd_586 : Cond.methodLink "LineClaimsLaw" 40 ⟨"LineClaimsModel", "all", "()Z"⟩ ∈ gW := List.mem_filter.mpr ⟨(List.mem_append_right _ (List.mem_of_getElem? (i := 586) (by decide +kernel))), by decide +kernel⟩
theorem wd_587 : Cond.instanceMethod ⟨"LineClaimsModel", "all", "()Z"⟩ ∈ gW := List.mem_filter.mpr ⟨(List.mem_append_right _ (List.mem_of_getElem? (i := 587) (by decide +kernel))), by decide +kernel⟩
theorem wd_588 : Cond.selects "LineClaimsModel" ⟨"LineClaimsModel", "all", "()Z"⟩ ⟨"LineClaimsModel", "all", "()Z"⟩ ∈ gW := List.mem_filter.mpr ⟨(List.mem_append_right _ (List.mem_of_getElem? (i := 588) (by decide +kernel))), by decide +kernel⟩
theorem wd_589 : Cond.code ⟨"LineClaimsModel", "all", "()Z"⟩ prog_7_method_30_code 2 (some .boolean) ∈ gW := List.mem_filter.mpr ⟨(List.mem_append_right _ (List.mem_of_getElem? (i := 589) (by decide +kernel))), by decide +kernel⟩
theorem wd_590 : Cond.methodLink "LineClaimsLaw" 45 ⟨"LineClaimsModel", "next", "(I)I"⟩ ∈ gW := List.mem_filter.mpr ⟨(List.mem_append_right _ (List.mem_of_getElem? (i := 590) (by decide +kernel))), by decide +kernel⟩
theorem wd_591 : Cond.instanceMethod ⟨"LineClaimsModel", "next", "(I)I"⟩ ∈ gW := List.mem_filter.mpr ⟨(List.mem_append_right _ (List.mem_of_getElem? (i := 591) (by decide +kernel))), by decide +kernel⟩
theorem wd_592 : Cond.selects "LineClaimsModel" ⟨"LineClaimsModel", "next", "(I)I"⟩ ⟨"LineClaimsModel", "next", "(I)I"⟩ ∈ gW := List.mem_filter.mpr ⟨(List.mem_append_right _ (List.mem_of_getElem? (i := 592) (by decide +kernel))), by decide +kernel⟩
theorem wd_593 : Cond.code ⟨"LineClaimsModel", "next", "(I)I"⟩ prog_7_method_31_code 4 (some .int) ∈ gW := List.mem_filter.mpr ⟨(List.mem_append_right _ (List.mem_of_getElem? (i := 593) (by decide +kernel))), by decide +kernel⟩
theorem wd_595 : Cond.methodLink "LineClaimsLaw" 49 ⟨"LineClaimsModel", "last", "(I)I"⟩ ∈ gW := List.mem_filter.mpr ⟨(List.mem_append_right _ (List.mem_of_getElem? (i := 595) (by decide +kernel))), by decide +kernel⟩
theorem wd_596 : Cond.instanceMethod ⟨"LineClaimsModel", "last", "(I)I"⟩ ∈ gW := List.mem_filter.mpr ⟨(List.mem_append_right _ (List.mem_of_getElem? (i := 596) (by decide +kernel))), by decide +kernel⟩
theorem wd_597 : Cond.selects "LineClaimsModel" ⟨"LineClaimsModel", "last", "(I)I"⟩ ⟨"LineClaimsModel", "last", "(I)I"⟩ ∈ gW := List.mem_filter.mpr ⟨(List.mem_append_right _ (List.mem_of_getElem? (i := 597) (by decide +kernel))), by decide +kernel⟩
theorem wd_598 : Cond.code ⟨"LineClaimsModel", "last", "(I)I"⟩ prog_7_method_32_code 4 (some .int) ∈ gW := List.mem_filter.mpr ⟨(List.mem_append_right _ (List.mem_of_getElem? (i := 598) (by decide +kernel))), by decide +kernel⟩
theorem wd_600 : Cond.methodLink "LineClaimsLaw" 54 ⟨"LineClaimsModel", "again", "(Z)Z"⟩ ∈ gW := List.mem_filter.mpr ⟨(List.mem_append_right _ (List.mem_of_getElem? (i := 600) (by decide +kernel))), by decide +kernel⟩
theorem wd_601 : Cond.instanceMethod ⟨"LineClaimsModel", "again", "(Z)Z"⟩ ∈ gW := List.mem_filter.mpr ⟨(List.mem_append_right _ (List.mem_of_getElem? (i := 601) (by decide +kernel))), by decide +kernel⟩
theorem wd_602 : Cond.selects "LineClaimsModel" ⟨"LineClaimsModel", "again", "(Z)Z"⟩ ⟨"LineClaimsModel", "again", "(Z)Z"⟩ ∈ gW := List.mem_filter.mpr ⟨(List.mem_append_right _ (List.mem_of_getElem? (i := 602) (by decide +kernel))), by decide +kernel⟩
theorem wd_603 : Cond.code ⟨"LineClaimsModel", "again", "(Z)Z"⟩ prog_7_method_33_code 2 (some .boolean) ∈ gW := List.mem_filter.mpr ⟨(List.mem_append_right _ (List.mem_of_getElem? (i := 603) (by decide +kernel))), by decide +kernel⟩
theorem wd_604 : Cond.methodLink "LineClaimsLaw" 59 ⟨"LineClaimsModel", "count", "(II)I"⟩ ∈ gW := List.mem_filter.mpr ⟨(List.mem_append_right _ (List.mem_of_getElem? (i := 604) (by decide +kernel))), by decide +kernel⟩
theorem wd_605 : Cond.instanceMethod ⟨"LineClaimsModel", "count", "(II)I"⟩ ∈ gW := List.mem_filter.mpr ⟨(List.mem_append_right _ (List.mem_of_getElem? (i := 605) (by decide +kernel))), by decide +kernel⟩
theorem wd_606 : Cond.selects "LineClaimsModel" ⟨"LineClaimsModel", "count", "(II)I"⟩ ⟨"LineClaimsModel", "count", "(II)I"⟩ ∈ gW := List.mem_filter.mpr ⟨(List.mem_append_right _ (List.mem_of_getElem? (i := 606) (by decide +kernel))), by decide +kernel⟩
theorem wd_607 : Cond.code ⟨"LineClaimsModel", "count", "(II)I"⟩ prog_7_method_34_code 3 (some .int) ∈ gW := List.mem_filter.mpr ⟨(List.mem_append_right _ (List.mem_of_getElem? (i := 607) (by decide +kernel))), by decide +kernel⟩
theorem wd_608 : Cond.methodLink "LineClaimsLaw" 63 ⟨"LineClaimsModel", "period", "()I"⟩ ∈ gW := List.mem_filter.mpr ⟨(List.mem_append_right _ (List.mem_of_getElem? (i := 608) (by decide +kernel))), by decide +kernel⟩
theorem wd_609 : Cond.instanceMethod ⟨"LineClaimsModel", "period", "()I"⟩ ∈ gW := List.mem_filter.mpr ⟨(List.mem_append_right _ (List.mem_of_getElem? (i := 609) (by decide +kernel))), by decide +kernel⟩
theorem wd_610 : Cond.selects "LineClaimsModel" ⟨"LineClaimsModel", "period", "()I"⟩ ⟨"LineClaimsModel", "period", "()I"⟩ ∈ gW := List.mem_filter.mpr ⟨(List.mem_append_right _ (List.mem_of_getElem? (i := 610) (by decide +kernel))), by decide +kernel⟩
theorem wd_611 : Cond.code ⟨"LineClaimsModel", "period", "()I"⟩ prog_7_method_35_code 4 (some .int) ∈ gW := List.mem_filter.mpr ⟨(List.mem_append_right _ (List.mem_of_getElem? (i := 611) (by decide +kernel))), by decide +kernel⟩
theorem gq_Law_13 : GoodIn gW (wsV R_Law 13 R_L y_L_type w_L_type) := gw_V wd_120 wd_121 wd_122 wd_1 wd_123
theorem gq_Law_17 : GoodIn gW (wsV R_Law 17 R_M y_M_type w_M_type) := gw_V wd_478 wd_479 wd_480 wd_6 wd_481
theorem gq_Law_18 : GoodIn gW (wsV R_Law 18 R_L y_L_take w_L_take) := gw_V wd_138 wd_139 wd_140 wd_1 wd_141
theorem gq_Law_22 : GoodIn gW (wsV R_Law 22 R_M y_M_take w_M_take) := gw_V wd_485 wd_486 wd_487 wd_6 wd_488
theorem gq_Law_23 : GoodIn gW (wsV R_Law 23 R_L y_L_free w_L_free) := gw_V wd_316 wd_317 wd_318 wd_1 wd_319
theorem gq_Law_27 : GoodIn gW (wsV R_Law 27 R_M y_M_free w_M_free) := gw_V wd_563 wd_564 wd_565 wd_6 wd_566
theorem gq_Law_28 : GoodIn gW (wsV R_Law 28 R_L y_L_holds w_L_holds) := gw_V wd_320 wd_321 wd_322 wd_1 wd_323
theorem gq_Law_32 : GoodIn gW (wsV R_Law 32 R_M y_M_holds w_M_holds) := gw_V wd_567 wd_568 wd_569 wd_6 wd_570
theorem gq_Law_33 : GoodIn gW (wsV R_Law 33 R_L y_L_some w_L_some) := gw_V wd_337 wd_338 wd_339 wd_1 wd_340
theorem gq_Law_36 : GoodIn gW (wsV R_Law 36 R_M y_M_some w_M_some) := gw_V wd_578 wd_579 wd_580 wd_6 wd_581
theorem gq_Law_37 : GoodIn gW (wsV R_Law 37 R_L y_L_all w_L_all) := gw_V wd_345 wd_346 wd_347 wd_1 wd_348
theorem gq_Law_40 : GoodIn gW (wsV R_Law 40 R_M y_M_all w_M_all) := gw_V wd_586 wd_587 wd_588 wd_6 wd_589
theorem gq_Law_41 : GoodIn gW (wsV R_Law 41 R_L y_L_next w_L_next) := gw_V wd_353 wd_354 wd_355 wd_1 wd_356
theorem gq_Law_45 : GoodIn gW (wsV R_Law 45 R_M y_M_next w_M_next) := gw_V wd_590 wd_591 wd_592 wd_6 wd_593
theorem gq_Law_46 : GoodIn gW (wsV R_Law 46 R_L y_L_last w_L_last) := gw_V wd_361 wd_362 wd_363 wd_1 wd_364
theorem gq_Law_49 : GoodIn gW (wsV R_Law 49 R_M y_M_last w_M_last) := gw_V wd_595 wd_596 wd_597 wd_6 wd_598
theorem gq_Law_50 : GoodIn gW (wsV R_Law 50 R_L y_L_again w_L_again) := gw_V wd_369 wd_370 wd_371 wd_1 wd_372
theorem gq_Law_54 : GoodIn gW (wsV R_Law 54 R_M y_M_again w_M_again) := gw_V wd_600 wd_601 wd_602 wd_6 wd_603
theorem gq_Law_55 : GoodIn gW (wsV R_Law 55 R_L y_L_count w_L_count) := gw_V wd_373 wd_374 wd_375 wd_1 wd_376
theorem gq_Law_59 : GoodIn gW (wsV R_Law 59 R_M y_M_count w_M_count) := gw_V wd_604 wd_605 wd_606 wd_6 wd_607
theorem gq_Law_60 : GoodIn gW (wsV R_Law 60 R_L y_L_period w_L_period) := gw_V wd_377 wd_378 wd_379 wd_1 wd_380
theorem gq_Law_63 : GoodIn gW (wsV R_Law 63 R_M y_M_period w_M_period) := gw_V wd_608 wd_609 wd_610 wd_6 wd_611
theorem d_Law_0 : decode code 0 = .ok (.new 7, 3) := by decide +kernel
theorem d_Law_3 : decode code 3 = .ok (.dup, 1) := by decide +kernel
theorem d_Law_4 : decode code 4 = .ok (.invokespecial 9, 3) := by decide +kernel
theorem d_Law_7 : decode code 7 = .ok (.astore_n 1, 1) := by decide +kernel
theorem d_Law_8 : decode code 8 = .ok (.new 10, 3) := by decide +kernel
theorem d_Law_11 : decode code 11 = .ok (.dup, 1) := by decide +kernel
theorem d_Law_12 : decode code 12 = .ok (.invokespecial 12, 3) := by decide +kernel
theorem d_Law_15 : decode code 15 = .ok (.astore_n 2, 1) := by decide +kernel
theorem d_Law_16 : decode code 16 = .ok (.iconst 0, 1) := by decide +kernel
theorem d_Law_17 : decode code 17 = .ok (.istore_n 3, 1) := by decide +kernel
theorem d_Law_18 : decode code 18 = .ok (.iload_n 3, 1) := by decide +kernel
theorem d_Law_19 : decode code 19 = .ok (.aload_n 0, 1) := by decide +kernel
theorem d_Law_20 : decode code 20 = .ok (.arraylength, 1) := by decide +kernel
theorem d_Law_21 : decode code 21 = .ok (.iconst 3, 1) := by decide +kernel
theorem d_Law_22 : decode code 22 = .ok (.isub, 1) := by decide +kernel
theorem d_Law_23 : decode code 23 = .ok (.if_icmp .gt 314, 3) := by decide +kernel
theorem d_Law_26 : decode code 26 = .ok (.aload_n 0, 1) := by decide +kernel
theorem d_Law_27 : decode code 27 = .ok (.iload_n 3, 1) := by decide +kernel
theorem d_Law_28 : decode code 28 = .ok (.iaload, 1) := by decide +kernel
theorem d_Law_29 : decode code 29 = .ok (.bipush 15, 2) := by decide +kernel
theorem d_Law_31 : decode code 31 = .ok (.iand, 1) := by decide +kernel
theorem d_Law_32 : decode code 32 = .ok (.tableswitch 299 0 10 #[60, 93, 106, 119, 142, 155, 168, 191, 214, 253, 286], 60) := by decide +kernel
theorem d_Law_92 : decode code 92 = .ok (.aload_n 1, 1) := by decide +kernel
theorem d_Law_93 : decode code 93 = .ok (.aload_n 0, 1) := by decide +kernel
theorem d_Law_94 : decode code 94 = .ok (.iload_n 3, 1) := by decide +kernel
theorem d_Law_95 : decode code 95 = .ok (.iconst 1, 1) := by decide +kernel
theorem d_Law_96 : decode code 96 = .ok (.iadd, 1) := by decide +kernel
theorem d_Law_97 : decode code 97 = .ok (.iaload, 1) := by decide +kernel
theorem d_Law_98 : decode code 98 = .ok (.aload_n 0, 1) := by decide +kernel
theorem d_Law_99 : decode code 99 = .ok (.iload_n 3, 1) := by decide +kernel
theorem d_Law_100 : decode code 100 = .ok (.iconst 2, 1) := by decide +kernel
theorem d_Law_101 : decode code 101 = .ok (.iadd, 1) := by decide +kernel
theorem d_Law_102 : decode code 102 = .ok (.iaload, 1) := by decide +kernel
theorem d_Law_103 : decode code 103 = .ok (.invokevirtual 13, 3) := by decide +kernel
theorem d_Law_106 : decode code 106 = .ok (.aload_n 2, 1) := by decide +kernel
theorem d_Law_107 : decode code 107 = .ok (.aload_n 0, 1) := by decide +kernel
theorem d_Law_108 : decode code 108 = .ok (.iload_n 3, 1) := by decide +kernel
theorem d_Law_109 : decode code 109 = .ok (.iconst 1, 1) := by decide +kernel
theorem d_Law_110 : decode code 110 = .ok (.iadd, 1) := by decide +kernel
theorem d_Law_111 : decode code 111 = .ok (.iaload, 1) := by decide +kernel
theorem d_Law_112 : decode code 112 = .ok (.aload_n 0, 1) := by decide +kernel
theorem d_Law_113 : decode code 113 = .ok (.iload_n 3, 1) := by decide +kernel
theorem d_Law_114 : decode code 114 = .ok (.iconst 2, 1) := by decide +kernel
theorem d_Law_115 : decode code 115 = .ok (.iadd, 1) := by decide +kernel
theorem d_Law_116 : decode code 116 = .ok (.iaload, 1) := by decide +kernel
theorem d_Law_117 : decode code 117 = .ok (.invokevirtual 17, 3) := by decide +kernel
theorem d_Law_120 : decode code 120 = .ok (.if_icmp .eq 211, 3) := by decide +kernel
theorem d_Law_123 : decode code 123 = .ok (.iconst 0, 1) := by decide +kernel
theorem d_Law_124 : decode code 124 = .ok (.ireturn, 1) := by decide +kernel
theorem d_Law_125 : decode code 125 = .ok (.aload_n 1, 1) := by decide +kernel
theorem d_Law_126 : decode code 126 = .ok (.invokevirtual 18, 3) := by decide +kernel
theorem d_Law_129 : decode code 129 = .ok (.aload_n 2, 1) := by decide +kernel
theorem d_Law_130 : decode code 130 = .ok (.invokevirtual 22, 3) := by decide +kernel
theorem d_Law_133 : decode code 133 = .ok (.if_icmp .eq 198, 3) := by decide +kernel
theorem d_Law_136 : decode code 136 = .ok (.iconst 0, 1) := by decide +kernel
theorem d_Law_137 : decode code 137 = .ok (.ireturn, 1) := by decide +kernel
theorem d_Law_138 : decode code 138 = .ok (.aload_n 1, 1) := by decide +kernel
theorem d_Law_139 : decode code 139 = .ok (.invokevirtual 23, 3) := by decide +kernel
theorem d_Law_142 : decode code 142 = .ok (.aload_n 2, 1) := by decide +kernel
theorem d_Law_143 : decode code 143 = .ok (.invokevirtual 27, 3) := by decide +kernel
theorem d_Law_146 : decode code 146 = .ok (.if_icmp .eq 185, 3) := by decide +kernel
theorem d_Law_149 : decode code 149 = .ok (.iconst 0, 1) := by decide +kernel
theorem d_Law_150 : decode code 150 = .ok (.ireturn, 1) := by decide +kernel
theorem d_Law_151 : decode code 151 = .ok (.aload_n 1, 1) := by decide +kernel
theorem d_Law_152 : decode code 152 = .ok (.aload_n 0, 1) := by decide +kernel
theorem d_Law_153 : decode code 153 = .ok (.iload_n 3, 1) := by decide +kernel
theorem d_Law_154 : decode code 154 = .ok (.iconst 1, 1) := by decide +kernel
theorem d_Law_155 : decode code 155 = .ok (.iadd, 1) := by decide +kernel
theorem d_Law_156 : decode code 156 = .ok (.iaload, 1) := by decide +kernel
theorem d_Law_157 : decode code 157 = .ok (.invokevirtual 28, 3) := by decide +kernel
theorem d_Law_160 : decode code 160 = .ok (.aload_n 2, 1) := by decide +kernel
theorem d_Law_161 : decode code 161 = .ok (.aload_n 0, 1) := by decide +kernel
theorem d_Law_162 : decode code 162 = .ok (.iload_n 3, 1) := by decide +kernel
theorem d_Law_163 : decode code 163 = .ok (.iconst 1, 1) := by decide +kernel
theorem d_Law_164 : decode code 164 = .ok (.iadd, 1) := by decide +kernel
theorem d_Law_165 : decode code 165 = .ok (.iaload, 1) := by decide +kernel
theorem d_Law_166 : decode code 166 = .ok (.invokevirtual 32, 3) := by decide +kernel
theorem d_Law_169 : decode code 169 = .ok (.if_icmp .eq 162, 3) := by decide +kernel
theorem d_Law_172 : decode code 172 = .ok (.iconst 0, 1) := by decide +kernel
theorem d_Law_173 : decode code 173 = .ok (.ireturn, 1) := by decide +kernel
theorem d_Law_174 : decode code 174 = .ok (.aload_n 1, 1) := by decide +kernel
theorem d_Law_175 : decode code 175 = .ok (.invokevirtual 33, 3) := by decide +kernel
theorem d_Law_178 : decode code 178 = .ok (.aload_n 2, 1) := by decide +kernel
theorem d_Law_179 : decode code 179 = .ok (.invokevirtual 36, 3) := by decide +kernel
theorem d_Law_182 : decode code 182 = .ok (.if_icmp .eq 149, 3) := by decide +kernel
theorem d_Law_185 : decode code 185 = .ok (.iconst 0, 1) := by decide +kernel
theorem d_Law_186 : decode code 186 = .ok (.ireturn, 1) := by decide +kernel
theorem d_Law_187 : decode code 187 = .ok (.aload_n 1, 1) := by decide +kernel
theorem d_Law_188 : decode code 188 = .ok (.invokevirtual 37, 3) := by decide +kernel
theorem d_Law_191 : decode code 191 = .ok (.aload_n 2, 1) := by decide +kernel
theorem d_Law_192 : decode code 192 = .ok (.invokevirtual 40, 3) := by decide +kernel
theorem d_Law_195 : decode code 195 = .ok (.if_icmp .eq 136, 3) := by decide +kernel
theorem d_Law_198 : decode code 198 = .ok (.iconst 0, 1) := by decide +kernel
theorem d_Law_199 : decode code 199 = .ok (.ireturn, 1) := by decide +kernel
theorem d_Law_200 : decode code 200 = .ok (.aload_n 1, 1) := by decide +kernel
theorem d_Law_201 : decode code 201 = .ok (.aload_n 0, 1) := by decide +kernel
theorem d_Law_202 : decode code 202 = .ok (.iload_n 3, 1) := by decide +kernel
theorem d_Law_203 : decode code 203 = .ok (.iconst 1, 1) := by decide +kernel
theorem d_Law_204 : decode code 204 = .ok (.iadd, 1) := by decide +kernel
theorem d_Law_205 : decode code 205 = .ok (.iaload, 1) := by decide +kernel
theorem d_Law_206 : decode code 206 = .ok (.invokevirtual 41, 3) := by decide +kernel
theorem d_Law_209 : decode code 209 = .ok (.aload_n 2, 1) := by decide +kernel
theorem d_Law_210 : decode code 210 = .ok (.aload_n 0, 1) := by decide +kernel
theorem d_Law_211 : decode code 211 = .ok (.iload_n 3, 1) := by decide +kernel
theorem d_Law_212 : decode code 212 = .ok (.iconst 1, 1) := by decide +kernel
theorem d_Law_213 : decode code 213 = .ok (.iadd, 1) := by decide +kernel
theorem d_Law_214 : decode code 214 = .ok (.iaload, 1) := by decide +kernel
theorem d_Law_215 : decode code 215 = .ok (.invokevirtual 45, 3) := by decide +kernel
theorem d_Law_218 : decode code 218 = .ok (.if_icmp .eq 113, 3) := by decide +kernel
theorem d_Law_221 : decode code 221 = .ok (.iconst 0, 1) := by decide +kernel
theorem d_Law_222 : decode code 222 = .ok (.ireturn, 1) := by decide +kernel
theorem d_Law_223 : decode code 223 = .ok (.aload_n 1, 1) := by decide +kernel
theorem d_Law_224 : decode code 224 = .ok (.aload_n 0, 1) := by decide +kernel
theorem d_Law_225 : decode code 225 = .ok (.iload_n 3, 1) := by decide +kernel
theorem d_Law_226 : decode code 226 = .ok (.iconst 1, 1) := by decide +kernel
theorem d_Law_227 : decode code 227 = .ok (.iadd, 1) := by decide +kernel
theorem d_Law_228 : decode code 228 = .ok (.iaload, 1) := by decide +kernel
theorem d_Law_229 : decode code 229 = .ok (.invokevirtual 46, 3) := by decide +kernel
theorem d_Law_232 : decode code 232 = .ok (.aload_n 2, 1) := by decide +kernel
theorem d_Law_233 : decode code 233 = .ok (.aload_n 0, 1) := by decide +kernel
theorem d_Law_234 : decode code 234 = .ok (.iload_n 3, 1) := by decide +kernel
theorem d_Law_235 : decode code 235 = .ok (.iconst 1, 1) := by decide +kernel
theorem d_Law_236 : decode code 236 = .ok (.iadd, 1) := by decide +kernel
theorem d_Law_237 : decode code 237 = .ok (.iaload, 1) := by decide +kernel
theorem d_Law_238 : decode code 238 = .ok (.invokevirtual 49, 3) := by decide +kernel
theorem d_Law_241 : decode code 241 = .ok (.if_icmp .eq 90, 3) := by decide +kernel
theorem d_Law_244 : decode code 244 = .ok (.iconst 0, 1) := by decide +kernel
theorem d_Law_245 : decode code 245 = .ok (.ireturn, 1) := by decide +kernel
theorem d_Law_246 : decode code 246 = .ok (.aload_n 1, 1) := by decide +kernel
theorem d_Law_247 : decode code 247 = .ok (.aload_n 0, 1) := by decide +kernel
theorem d_Law_248 : decode code 248 = .ok (.iload_n 3, 1) := by decide +kernel
theorem d_Law_249 : decode code 249 = .ok (.iconst 1, 1) := by decide +kernel
theorem d_Law_250 : decode code 250 = .ok (.iadd, 1) := by decide +kernel
theorem d_Law_251 : decode code 251 = .ok (.iaload, 1) := by decide +kernel
theorem d_Law_252 : decode code 252 = .ok (.ifCond .eq 7, 3) := by decide +kernel
theorem d_Law_255 : decode code 255 = .ok (.iconst 1, 1) := by decide +kernel
theorem d_Law_256 : decode code 256 = .ok (.goto 4, 3) := by decide +kernel
theorem d_Law_259 : decode code 259 = .ok (.iconst 0, 1) := by decide +kernel
theorem d_Law_260 : decode code 260 = .ok (.invokevirtual 50, 3) := by decide +kernel
theorem d_Law_263 : decode code 263 = .ok (.aload_n 2, 1) := by decide +kernel
theorem d_Law_264 : decode code 264 = .ok (.aload_n 0, 1) := by decide +kernel
theorem d_Law_265 : decode code 265 = .ok (.iload_n 3, 1) := by decide +kernel
theorem d_Law_266 : decode code 266 = .ok (.iconst 1, 1) := by decide +kernel
theorem d_Law_267 : decode code 267 = .ok (.iadd, 1) := by decide +kernel
theorem d_Law_268 : decode code 268 = .ok (.iaload, 1) := by decide +kernel
theorem d_Law_269 : decode code 269 = .ok (.ifCond .eq 7, 3) := by decide +kernel
theorem d_Law_272 : decode code 272 = .ok (.iconst 1, 1) := by decide +kernel
theorem d_Law_273 : decode code 273 = .ok (.goto 4, 3) := by decide +kernel
theorem d_Law_276 : decode code 276 = .ok (.iconst 0, 1) := by decide +kernel
theorem d_Law_277 : decode code 277 = .ok (.invokevirtual 54, 3) := by decide +kernel
theorem d_Law_280 : decode code 280 = .ok (.if_icmp .eq 51, 3) := by decide +kernel
theorem d_Law_283 : decode code 283 = .ok (.iconst 0, 1) := by decide +kernel
theorem d_Law_284 : decode code 284 = .ok (.ireturn, 1) := by decide +kernel
theorem d_Law_285 : decode code 285 = .ok (.aload_n 1, 1) := by decide +kernel
theorem d_Law_286 : decode code 286 = .ok (.aload_n 0, 1) := by decide +kernel
theorem d_Law_287 : decode code 287 = .ok (.iload_n 3, 1) := by decide +kernel
theorem d_Law_288 : decode code 288 = .ok (.iconst 1, 1) := by decide +kernel
theorem d_Law_289 : decode code 289 = .ok (.iadd, 1) := by decide +kernel
theorem d_Law_290 : decode code 290 = .ok (.iaload, 1) := by decide +kernel
theorem d_Law_291 : decode code 291 = .ok (.aload_n 0, 1) := by decide +kernel
theorem d_Law_292 : decode code 292 = .ok (.iload_n 3, 1) := by decide +kernel
theorem d_Law_293 : decode code 293 = .ok (.iconst 2, 1) := by decide +kernel
theorem d_Law_294 : decode code 294 = .ok (.iadd, 1) := by decide +kernel
theorem d_Law_295 : decode code 295 = .ok (.iaload, 1) := by decide +kernel
theorem d_Law_296 : decode code 296 = .ok (.invokevirtual 55, 3) := by decide +kernel
theorem d_Law_299 : decode code 299 = .ok (.aload_n 2, 1) := by decide +kernel
theorem d_Law_300 : decode code 300 = .ok (.aload_n 0, 1) := by decide +kernel
theorem d_Law_301 : decode code 301 = .ok (.iload_n 3, 1) := by decide +kernel
theorem d_Law_302 : decode code 302 = .ok (.iconst 1, 1) := by decide +kernel
theorem d_Law_303 : decode code 303 = .ok (.iadd, 1) := by decide +kernel
theorem d_Law_304 : decode code 304 = .ok (.iaload, 1) := by decide +kernel
theorem d_Law_305 : decode code 305 = .ok (.aload_n 0, 1) := by decide +kernel
theorem d_Law_306 : decode code 306 = .ok (.iload_n 3, 1) := by decide +kernel
theorem d_Law_307 : decode code 307 = .ok (.iconst 2, 1) := by decide +kernel
theorem d_Law_308 : decode code 308 = .ok (.iadd, 1) := by decide +kernel
theorem d_Law_309 : decode code 309 = .ok (.iaload, 1) := by decide +kernel
theorem d_Law_310 : decode code 310 = .ok (.invokevirtual 59, 3) := by decide +kernel
theorem d_Law_313 : decode code 313 = .ok (.if_icmp .eq 18, 3) := by decide +kernel
theorem d_Law_316 : decode code 316 = .ok (.iconst 0, 1) := by decide +kernel
theorem d_Law_317 : decode code 317 = .ok (.ireturn, 1) := by decide +kernel
theorem d_Law_318 : decode code 318 = .ok (.aload_n 1, 1) := by decide +kernel
theorem d_Law_319 : decode code 319 = .ok (.invokevirtual 60, 3) := by decide +kernel
theorem d_Law_322 : decode code 322 = .ok (.aload_n 2, 1) := by decide +kernel
theorem d_Law_323 : decode code 323 = .ok (.invokevirtual 63, 3) := by decide +kernel
theorem d_Law_326 : decode code 326 = .ok (.if_icmp .eq 5, 3) := by decide +kernel
theorem d_Law_329 : decode code 329 = .ok (.iconst 0, 1) := by decide +kernel
theorem d_Law_330 : decode code 330 = .ok (.ireturn, 1) := by decide +kernel
theorem d_Law_331 : decode code 331 = .ok (.iinc 3 3, 3) := by decide +kernel
theorem d_Law_334 : decode code 334 = .ok (.goto (-316), 3) := by decide +kernel
theorem d_Law_337 : decode code 337 = .ok (.iconst 1, 1) := by decide +kernel
theorem d_Law_338 : decode code 338 = .ok (.ireturn, 1) := by decide +kernel
def m0 : MS := (0, 0, 0, 0, 1, 1, 0, 1, 0, 0, 0, 0, fun _ => 0, upd (fun _ => 0) (0 : Int32).toNatClampNeg 6, upd (fun _ => 0) (0 : Int32).toNatClampNeg (-1), fun _ => 0, upd (fun _ => 0) (3 : Int32).toNatClampNeg (-1), fun _ => 0, fun _ => 0, fun _ => 0, fun _ => 0, fun _ => 0, fun _ => 0, fun _ => 0, fun _ => 0, fun _ => 0, fun _ => 0, fun _ => 0)
def l_I (D : va_G) (cl : List vw_C) (A : Nat → Prop) (H0 H : Heap) (locs : List Loc) (w wr : va_W) : Prop := g_I D cl A H0 H locs w ∧ va_P D cl wr H ∧ va_D A wr ∧ ∀ (i j : Nat) (x y : Nat × va_E), w[i]? = some x → wr[j]? = some y → x.1 ≠ y.1
theorem l_I.swap {D : va_G} {cl : List vw_C} {A : Nat → Prop} {H0 H : Heap} {locs : List Loc} {w wr : va_W} (h : l_I D cl A H0 H locs w wr) : l_I D cl A H0 H locs wr w := ⟨⟨h.2.1, h.2.2.1, h.1.2.2⟩, h.1.1, h.1.2.1, fun i j x y hx hy => (h.2.2.2 j i y x hy hx).symm⟩
theorem l_apart {A : Nat → Prop} {w wr : va_W} (hD : va_D A (w ++ wr)) : ∀ (i j : Nat) (x y : Nat × va_E), w[i]? = some x → wr[j]? = some y → x.1 ≠ y.1 := by
  intro i j x y hx hy he
  have hi : i < w.length := (List.getElem?_eq_some_iff.mp hx).1
  have h1 : (w ++ wr)[i]? = some x := by rw [List.getElem?_append_left hi]; exact hx
  have h2 : (w ++ wr)[w.length + j]? = some y := by rw [List.getElem?_append_right (Nat.le_add_right _ _), Nat.add_sub_cancel_left]; exact hy
  have := hD.1 _ _ x y h1 h2 he
  omega
section GF
variable {p : Program} {l : Launch} {e : Env} {R : Room} {s : State} {m : MethodId} {args : Array Value} {below : List Frame} {meth : Method} {c : Code} {H : Heap} {locs : List Loc} {cells slots : Nat} {Q : State → Prop}
variable {D : va_G} {cl : List vw_C} {ty : List (ClassId × FieldType)} {w w' wr : va_W} {A : Nat → Prop} {cc bytes : ByteArray} {pc nL maxL index n : Nat} {ls : Array Slot} {rest st0 : List Value} {Ts ws ws' : List Cond} {own C : String} {y : MethodName} {ret : Option FieldType} {rm : Room}
theorem g_afterF {o : Option Value} {a : Array Value} (hr : va_Run p l e R s m args below meth c H locs cells slots 0 0 (F0 m pc ls st0) rest (g_Q D cl ty w' (va_A w H.size) o a) (va_A w H.size)) (hI : l_I D cl A s.heap H locs w wr) (hA : ∀ q, s.heap.size ≤ q → A q)
    (kk : ∀ (H1 : Heap) (locs1 : List Loc), l_I D cl A s.heap H1 locs1 w' wr → W p l e R s m args below meth c H1 locs1 cells slots Q (F0 m (pc + 3) ls (o.toList ++ rest))) : W p l e R s m args below meth c H locs cells slots Q (F0 m pc ls st0) := by
  intro T hT X
  obtain ⟨v, st₀, t, T', L, h0, X', hL, e1, e2, ⟨⟨hv, hP', hK', hD'⟩, hz, hk⟩, st⟩ := hr T hT X
  cases hv
  rw [h0] at hz hk
  have hfr := g_free hI.1 hA
  have hap : ∀ (j : Nat) (y : Nat × va_E), wr[j]? = some y → y.1 < H.size ∧ ¬ va_A w H.size y.1 := by
    intro j y hy
    have hlt := (hI.2.1 j y hy).lt
    refine ⟨hlt, fun h => ?_⟩
    rcases h with ⟨k, e, h⟩ | h
    · exact hI.2.2.2 k j (y.1, e) y h hy rfl
    · exact absurd hlt (Nat.not_lt.mpr h)
  obtain ⟨t2, a1, b1⟩ := kk T'.heap (locs ++ L) ⟨⟨by rw [e1]; exact hP', hD'.weaken (fun k q _ h => hfr q.1 h),
    ⟨Nat.le_trans hI.1.2.2.1 (by rw [e1]; exact hz), fun q h1 h2 => by rw [e1, hk q (Nat.lt_of_lt_of_le h1 hI.1.2.2.1) (fun z => h2 (hfr q z))]; exact hI.1.2.2.2.1 q h1 h2, fun q hq => by
      rcases List.mem_append.mp hq with h | h
      · exact hI.1.2.2.2.2 q h
      · exact hfr _ (hL q h)⟩⟩, fun j y hy => (hI.2.1 j y hy).kept (by rw [e1]; exact hk y.1 (hap j y hy).1 (hap j y hy).2), hI.2.2.1, fun i j x y hx hy hxy => (hap j y hy).2 (by rw [← hxy]; exact hD'.2 i x hx)⟩ T' rfl X'
  exact ⟨t2, st t2 a1, b1⟩
theorem g_callVF {o : Option Value} {b : Nat} {As : List Value} {st1 : List Value} (S : CallFix p m c cc nL s args Ts own) (hM : g_M l y ws rm D cl ty w (.ref b :: As) o w') (cw : CallW R s args own C index y bytes maxL ret ws rm 0 0 n) (hK : va_K D cl ty s) (hI : l_I D cl A s.heap H locs w wr) (hA : ∀ q, s.heap.size ≤ q → A q)
    (q0 ci : Nat) {T : u_T} {N : Nat} {fs : List Value} (hc : cl[ci]? = some (C, T, N)) (he : w[q0]? = some (b, .inr (ci, fs))) (hn : As.length = n) (hsize : ls.size = nL) (hst : st0 = As.reverse ++ .ref b :: rest) (hW : (rest.map fun v => v.category).sum ≤ 8) (hdg : decode cc pc = .ok (.invokevirtual index, 3)) (hf : cells ≤ R.cells ∧ slots ≤ R.slots) (ho : o.toList ++ rest = st1)
    (kk : ∀ (H1 : Heap) (locs1 : List Loc), l_I D cl A s.heap H1 locs1 w' wr → W p l e R s m args below meth c H1 locs1 cells slots Q (F0 m (pc + 3) ls st1)) : W p l e R s m args below meth c H locs cells slots Q (F0 m pc ls st0) := by
  subst ho
  exact g_afterF (va_runV (As := As) (rest := rest) (b := b) S (hM H.size) cw ⟨g_blind, va_recv hK hI.1.1 hc he, g_pre hK hI.1⟩ rfl hn hsize hst (lv_room hW) hdg hf) hI hA kk
end GF
theorem nI_two (a : Nat) : nI a + 2 = nI (a + 2) := nI_add a 2
theorem law_gt {L j : Nat} (hL : L ≤ 1536) (hj : j ≤ 2000) : Int32.ofNat L - 3 < nI (3 * j) ↔ L < 3 * j + 3 := by
  have e1 : Int32.ofNat L - 3 = zI ((L : Int) - 3) := by
    have : Int32.ofNat L = zI (L : Int) := nI_zI L
    rw [this]
    exact zI_sub L 3
  have e2 : nI (3 * j) = zI ((3 * j : Nat) : Int) := nI_zI _
  rw [e1, e2, zI_lt (by omega) (by omega) (by omega) (by omega)]
  omega
