set_option maxRecDepth 100000 in
theorem tw_1 : Cond.selects "StageLines$Row" yX5_insertAt yX5_insertAt ∈ lw_tbl := List.mem_of_getElem? (i := 1) rfl
set_option maxRecDepth 100000 in
theorem tw_12 : Cond.selects "StageLines$Row" yX5_placeAscending yX5_placeAscending ∈ lw_tbl := List.mem_of_getElem? (i := 12) rfl
set_option maxRecDepth 100000 in
theorem tw_49 : Cond.initialized "StageLines$Row" ∈ lw_tbl := List.mem_of_getElem? (i := 49) rfl
set_option maxRecDepth 100000 in
theorem tw_63 : Cond.initialized "java/lang/System" ∈ lw_tbl := List.mem_of_getElem? (i := 63) rfl
set_option maxRecDepth 100000 in
theorem tw_82 : Cond.fieldLink "StageLines$Row" 7 "StageLines$Row" "items" "[I" ∈ lw_tbl := List.mem_of_getElem? (i := 82) rfl
set_option maxRecDepth 100000 in
theorem tw_88 : Cond.fieldLink "StageLines$Row" 13 "StageLines$Row" "size" "I" ∈ lw_tbl := List.mem_of_getElem? (i := 88) rfl
set_option maxRecDepth 100000 in
theorem tw_348 : Cond.instanceMethod yX5_clear ∈ lw_tbl := List.mem_of_getElem? (i := 348) rfl
set_option maxRecDepth 100000 in
theorem tw_349 : Cond.selects "StageLines$Row" yX5_clear yX5_clear ∈ lw_tbl := List.mem_of_getElem? (i := 349) rfl
set_option maxRecDepth 100000 in
theorem tw_350 : Cond.code yX5_clear prog_7_method_3_code 1 none ∈ lw_tbl := List.mem_of_getElem? (i := 350) rfl
set_option maxRecDepth 100000 in
theorem tw_375 : Cond.instanceMethod yX5_isFull ∈ lw_tbl := List.mem_of_getElem? (i := 375) rfl
set_option maxRecDepth 100000 in
theorem tw_376 : Cond.selects "StageLines$Row" yX5_isFull yX5_isFull ∈ lw_tbl := List.mem_of_getElem? (i := 376) rfl
set_option maxRecDepth 100000 in
theorem tw_377 : Cond.code yX5_isFull prog_7_method_2_code 1 (some .boolean) ∈ lw_tbl := List.mem_of_getElem? (i := 377) rfl
set_option maxRecDepth 100000 in
theorem tw_448 : Cond.instanceMethod yX5_add ∈ lw_tbl := List.mem_of_getElem? (i := 448) rfl
set_option maxRecDepth 100000 in
theorem tw_449 : Cond.selects "StageLines$Row" yX5_add yX5_add ∈ lw_tbl := List.mem_of_getElem? (i := 449) rfl
set_option maxRecDepth 100000 in
theorem tw_450 : Cond.code yX5_add prog_7_method_4_code 2 none ∈ lw_tbl := List.mem_of_getElem? (i := 450) rfl
set_option maxRecDepth 100000 in
theorem tw_451 : Cond.methodLink "StageLines$Row" 17 yX5_insertAt ∈ lw_tbl := List.mem_of_getElem? (i := 451) rfl
set_option maxRecDepth 100000 in
theorem tw_453 : Cond.instanceMethod yX5_insertAt ∈ lw_tbl := List.mem_of_getElem? (i := 453) rfl
set_option maxRecDepth 100000 in
theorem tw_454 : Cond.code yX5_insertAt prog_7_method_8_code 3 none ∈ lw_tbl := List.mem_of_getElem? (i := 454) rfl
set_option maxRecDepth 100000 in
theorem tw_455 : Cond.methodLink "StageLines$Row" 32 yX5_isFull ∈ lw_tbl := List.mem_of_getElem? (i := 455) rfl
set_option maxRecDepth 100000 in
theorem tw_456 : Cond.methodLink "StageLines$Row" 36 ⟨"java/lang/System", "arraycopy", "(Ljava/lang/Object;ILjava/lang/Object;II)V"⟩ ∈ lw_tbl := List.mem_of_getElem? (i := 456) rfl
set_option maxRecDepth 100000 in
theorem tw_457 : Cond.static ⟨"java/lang/System", "arraycopy", "(Ljava/lang/Object;ILjava/lang/Object;II)V"⟩ ∈ lw_tbl := List.mem_of_getElem? (i := 457) rfl
set_option maxRecDepth 100000 in
theorem tw_458 : Cond.native ⟨"java/lang/System", "arraycopy", "(Ljava/lang/Object;ILjava/lang/Object;II)V"⟩ ∈ lw_tbl := List.mem_of_getElem? (i := 458) rfl
set_option maxRecDepth 100000 in
theorem tw_626 : Cond.methodLink "StageLines$Row" 21 yX5_placeAscending ∈ lw_tbl := List.mem_of_getElem? (i := 626) rfl
set_option maxRecDepth 100000 in
theorem tw_628 : Cond.instanceMethod yX5_placeAscending ∈ lw_tbl := List.mem_of_getElem? (i := 628) rfl
set_option maxRecDepth 100000 in
theorem tw_629 : Cond.code yX5_placeAscending prog_7_method_9_code 5 (some .int) ∈ lw_tbl := List.mem_of_getElem? (i := 629) rfl
set_option maxRecDepth 100000 in
theorem tw_802 : Cond.methodLink "StageLines$Row" 25 yX5_clear ∈ lw_tbl := List.mem_of_getElem? (i := 802) rfl
set_option maxRecDepth 100000 in
theorem tw_803 : Cond.methodLink "StageLines$Row" 28 yX5_add ∈ lw_tbl := List.mem_of_getElem? (i := 803) rfl
