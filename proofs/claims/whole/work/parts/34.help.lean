def f_L_put (I : Mem) (p1 : Int32) : Option (Int32 × Mem) := (f_X9_put I p1).bind fun q1 => (thI q1.1 (fun E => if E = "java/lang/IllegalArgumentException" then (some ((1 : Int32), q1.2)) else (none)) (fun r3 => some ((0 : Int32), (st q1.2 65 (0 : Int32).toNatClampNeg r3))))
set_option maxHeartbeats 4000000 in
set_option maxRecDepth 100000 in
theorem c_L_put (l : Launch) (hlt : l.stackTraces = false) (G : Gx) (I : Mem) (p1 : Int32) {res : Int32} {J : Mem} (hf : f_L_put I p1 = some (res, J)) : Mh l yL_put (.codeWith yL_put cL_put 4 (some .int) [(0, 9, 12, 13)]) 7 124 1 6 G I [.ref (G.2.1 0), .int p1, .ref (G.2.1 65)] res J := by
  refine Mh.of (by decide +kernel) (Nat.le_of_ble_eq_true rfl) (fun p e s m below meth c ls C hT9 hr hH hl => ?_)
  have C : CX p l s m _ meth c cL_put 4 RL G := C
  have hl : lv_has ls 4 [(0, .ref (G.2.1 0)), (1, .int p1), (2, .ref (G.2.1 65))] := hl
  have hf : ((f_X9_put I p1).bind fun q1 => (thI q1.1 (fun E => if E = "java/lang/IllegalArgumentException" then (some ((1 : Int32), q1.2)) else (none)) (fun r3 => some ((0 : Int32), (st q1.2 65 (0 : Int32).toNatClampNeg r3))))) = _ := hf
  refine lv_aload_n C.1 C.2.1 dL_put_0 rfl (lv_at hl 2 rfl) ?_
  refine lv_iconst (v := (0 : Int32)) C.1 C.2.1 dL_put_1 (by decide) ?_
  refine lv_aload_n C.1 C.2.1 dL_put_2 rfl (lv_at hl 0 rfl) ?_
  refine lv_iload_n C.1 C.2.1 dL_put_3 rfl (lv_at hl 1 rfl) ?_
  obtain ⟨q1, hc, hf⟩ := Option.bind_eq_some_iff.mp hf
  have hf : thI q1.1 (fun E => if E = "java/lang/IllegalArgumentException" then (some ((1 : Int32), q1.2)) else (none)) (fun r3 => some ((0 : Int32), (st q1.2 65 (0 : Int32).toNatClampNeg r3))) = _ := hf
  refine x_xci (n := 1) C hH (c_X9_put l hlt G I p1 hc) (kd_lt kk_0 (by decide)) (cE_9 kk_0) rfl tw_372 tw_369 tw_370 tw_371 tw_47 (by decide +kernel) ⟨Nat.le_of_ble_eq_true rfl, Nat.le_of_ble_eq_true rfl⟩ rfl hl.1 rfl (Nat.le_of_ble_eq_true rfl) ⟨Nat.le_of_ble_eq_true rfl, Nat.le_of_ble_eq_true rfl⟩ dL_put_4 ?_ ?_
  · intro E H locs ce q9 ho hH h1 h2 h3
    rw [ho] at hf
    have hf : (if E = "java/lang/IllegalArgumentException" then (some ((1 : Int32), q1.2)) else (none)) = _ := hf
    by_cases q2 : E = "java/lang/IllegalArgumentException"
    · have hf := (if_pos q2).symm.trans hf
      subst q2
      refine z_catch C.2.2.2.1 ([] : List ExceptionTableEntry) ⟨0, 9, 12, 13⟩ ([] : List ExceptionTableEntry) hT9 (fun z hz => absurd hz List.not_mem_nil) (by decide) (by decide) (C.word tw_368 rfl) (C.nest tw_379 rfl rfl) h1 h2 h3 ?_
      refine lv_astore_n (lv' := [(3, .ref q9), (0, .ref (G.2.1 0)), (1, .int p1), (2, .ref (G.2.1 65))]) C.1 C.2.1 dL_put_12 rfl hl (by decide) rfl (fun ls hl => ?_)
      refine lv_iconst (v := (1 : Int32)) C.1 C.2.1 dL_put_13 (by decide) ?_
      cases hf
      exact x_iret C hr hH dL_put_14
    · have hf := (if_neg q2).symm.trans hf
      exact absurd hf (by simp)
  · intro r3 H locs ho hH
    rw [ho] at hf
    have hf : (some ((0 : Int32), (st q1.2 65 (0 : Int32).toNatClampNeg r3))) = _ := hf
    refine lv_i2l (v := (r3 : Int32).toInt64) C.1 C.2.1 dL_put_7 rfl ?_
    refine x_last C hH kk_65 (by decide) dL_put_8 (fun H locs hH => ?_)
    refine lv_goto (tgt := 15) C.1 C.2.1 dL_put_9 (by decide) ?_
    refine lv_iconst (v := (0 : Int32)) C.1 C.2.1 dL_put_15 (by decide) ?_
    cases hf
    exact x_iret C hr hH dL_put_16
def f_L_source (I : Mem) (p1 : Int32) (p2 : Int32) (p3 : Int32) (p4 : Int32) : Option (Int32 × Mem) := (f_X9_source I p1 p2 p3 p4).bind fun q1 => (thV q1.1 (fun E => if E = "java/lang/IllegalArgumentException" then (some ((1 : Int32), q1.2)) else (none)) (some ((0 : Int32), q1.2)))
set_option maxHeartbeats 4000000 in
set_option maxRecDepth 100000 in
theorem c_L_source (l : Launch) (hlt : l.stackTraces = false) (G : Gx) (I : Mem) (p1 : Int32) (p2 : Int32) (p3 : Int32) (p4 : Int32) {res : Int32} {J : Mem} (hf : f_L_source I p1 p2 p3 p4 = some (res, J)) : Mh l yL_source (.codeWith yL_source cL_source 6 (some .int) [(0, 9, 12, 13)]) 7 114 1 6 G I [.ref (G.2.1 0), .int p1, .int p2, .int p3, .int p4] res J := by
  refine Mh.of (by decide +kernel) (Nat.le_of_ble_eq_true rfl) (fun p e s m below meth c ls C hT9 hr hH hl => ?_)
  have C : CX p l s m _ meth c cL_source 6 RL G := C
  have hl : lv_has ls 6 [(0, .ref (G.2.1 0)), (1, .int p1), (2, .int p2), (3, .int p3), (4, .int p4)] := hl
  have hf : ((f_X9_source I p1 p2 p3 p4).bind fun q1 => (thV q1.1 (fun E => if E = "java/lang/IllegalArgumentException" then (some ((1 : Int32), q1.2)) else (none)) (some ((0 : Int32), q1.2)))) = _ := hf
  refine lv_aload_n C.1 C.2.1 dL_source_0 rfl (lv_at hl 0 rfl) ?_
  refine lv_iload_n C.1 C.2.1 dL_source_1 rfl (lv_at hl 1 rfl) ?_
  refine lv_iload_n C.1 C.2.1 dL_source_2 rfl (lv_at hl 2 rfl) ?_
  refine lv_iload_n C.1 C.2.1 dL_source_3 rfl (lv_at hl 3 rfl) ?_
  refine lv_iload C.1 C.2.1 dL_source_4 (lv_at hl 4 rfl) ?_
  obtain ⟨q1, hc, hf⟩ := Option.bind_eq_some_iff.mp hf
  have hf : thV q1.1 (fun E => if E = "java/lang/IllegalArgumentException" then (some ((1 : Int32), q1.2)) else (none)) (some ((0 : Int32), q1.2)) = _ := hf
  refine x_xcv (n := 4) C hH (c_X9_source l hlt G I p1 p2 p3 p4 hc) (kd_lt kk_0 (by decide)) (cE_9 kk_0) rfl tw_464 tw_461 tw_462 tw_463 tw_47 (by decide +kernel) ⟨Nat.le_of_ble_eq_true rfl, Nat.le_of_ble_eq_true rfl⟩ rfl hl.1 rfl (Nat.le_of_ble_eq_true rfl) ⟨Nat.le_of_ble_eq_true rfl, Nat.le_of_ble_eq_true rfl⟩ dL_source_6 ?_ ?_
  · intro E H locs ce q9 ho hH h1 h2 h3
    rw [ho] at hf
    have hf : (if E = "java/lang/IllegalArgumentException" then (some ((1 : Int32), q1.2)) else (none)) = _ := hf
    by_cases q2 : E = "java/lang/IllegalArgumentException"
    · have hf := (if_pos q2).symm.trans hf
      subst q2
      refine z_catch C.2.2.2.1 ([] : List ExceptionTableEntry) ⟨0, 9, 12, 13⟩ ([] : List ExceptionTableEntry) hT9 (fun z hz => absurd hz List.not_mem_nil) (by decide) (by decide) (C.word tw_368 rfl) (C.nest tw_379 rfl rfl) h1 h2 h3 ?_
      refine lv_astore (lv' := [(5, .ref q9), (0, .ref (G.2.1 0)), (1, .int p1), (2, .int p2), (3, .int p3), (4, .int p4)]) C.1 C.2.1 dL_source_12 hl (by decide) rfl (fun ls hl => ?_)
      refine lv_iconst (v := (1 : Int32)) C.1 C.2.1 dL_source_14 (by decide) ?_
      cases hf
      exact x_iret C hr hH dL_source_15
    · have hf := (if_neg q2).symm.trans hf
      exact absurd hf (by simp)
  · intro H locs ho hH
    rw [ho] at hf
    have hf : (some ((0 : Int32), q1.2)) = _ := hf
    refine lv_goto (tgt := 16) C.1 C.2.1 dL_source_9 (by decide) ?_
    refine lv_iconst (v := (0 : Int32)) C.1 C.2.1 dL_source_16 (by decide) ?_
    cases hf
    exact x_iret C hr hH dL_source_17
def f_L_stage (I : Mem) (p1 : Int32) (p2 : Int32) (p3 : Int32) : Option (Int32 × Mem) := (f_X9_stage I p1 p2 p3).bind fun q1 => (thI q1.1 (fun E => if E = "java/lang/IllegalStateException" then (some ((1 : Int32), q1.2)) else (if E = "java/lang/IllegalArgumentException" then (some ((2 : Int32), q1.2)) else (none))) (fun r4 => some ((0 : Int32), (st q1.2 65 (0 : Int32).toNatClampNeg r4))))
set_option maxHeartbeats 4000000 in
set_option maxRecDepth 100000 in
theorem c_L_stage (l : Launch) (hlt : l.stackTraces = false) (G : Gx) (I : Mem) (p1 : Int32) (p2 : Int32) (p3 : Int32) {res : Int32} {J : Mem} (hf : f_L_stage I p1 p2 p3 = some (res, J)) : Mh l yL_stage (.codeWith yL_stage cL_stage 6 (some .int) [(0, 12, 15, 23), (0, 12, 19, 13)]) 8 133 2 12 G I [.ref (G.2.1 0), .int p1, .int p2, .int p3, .ref (G.2.1 65)] res J := by
  refine Mh.of (by decide +kernel) (Nat.le_of_ble_eq_true rfl) (fun p e s m below meth c ls C hT9 hr hH hl => ?_)
  have C : CX p l s m _ meth c cL_stage 6 RL G := C
  have hl : lv_has ls 6 [(0, .ref (G.2.1 0)), (1, .int p1), (2, .int p2), (3, .int p3), (4, .ref (G.2.1 65))] := hl
  have hf : ((f_X9_stage I p1 p2 p3).bind fun q1 => (thI q1.1 (fun E => if E = "java/lang/IllegalStateException" then (some ((1 : Int32), q1.2)) else (if E = "java/lang/IllegalArgumentException" then (some ((2 : Int32), q1.2)) else (none))) (fun r4 => some ((0 : Int32), (st q1.2 65 (0 : Int32).toNatClampNeg r4))))) = _ := hf
  refine lv_aload C.1 C.2.1 dL_stage_0 (lv_at hl 4 rfl) ?_
  refine lv_iconst (v := (0 : Int32)) C.1 C.2.1 dL_stage_2 (by decide) ?_
  refine lv_aload_n C.1 C.2.1 dL_stage_3 rfl (lv_at hl 0 rfl) ?_
  refine lv_iload_n C.1 C.2.1 dL_stage_4 rfl (lv_at hl 1 rfl) ?_
  refine lv_iload_n C.1 C.2.1 dL_stage_5 rfl (lv_at hl 2 rfl) ?_
  refine lv_iload_n C.1 C.2.1 dL_stage_6 rfl (lv_at hl 3 rfl) ?_
  obtain ⟨q1, hc, hf⟩ := Option.bind_eq_some_iff.mp hf
  have hf : thI q1.1 (fun E => if E = "java/lang/IllegalStateException" then (some ((1 : Int32), q1.2)) else (if E = "java/lang/IllegalArgumentException" then (some ((2 : Int32), q1.2)) else (none))) (fun r4 => some ((0 : Int32), (st q1.2 65 (0 : Int32).toNatClampNeg r4))) = _ := hf
  refine x_xci (n := 3) C hH (c_X9_stage l hlt G I p1 p2 p3 hc) (kd_lt kk_0 (by decide)) (cE_9 kk_0) rfl tw_482 tw_479 tw_480 tw_481 tw_47 (by decide +kernel) ⟨Nat.le_of_ble_eq_true rfl, Nat.le_of_ble_eq_true rfl⟩ rfl hl.1 rfl (Nat.le_of_ble_eq_true rfl) ⟨Nat.le_of_ble_eq_true rfl, Nat.le_of_ble_eq_true rfl⟩ dL_stage_7 ?_ ?_
  · intro E H locs ce q9 ho hH h1 h2 h3
    rw [ho] at hf
    have hf : (if E = "java/lang/IllegalStateException" then (some ((1 : Int32), q1.2)) else (if E = "java/lang/IllegalArgumentException" then (some ((2 : Int32), q1.2)) else (none))) = _ := hf
    by_cases q3 : E = "java/lang/IllegalStateException"
    · have hf := (if_pos q3).symm.trans hf
      subst q3
      refine z_catch C.2.2.2.1 ([] : List ExceptionTableEntry) ⟨0, 12, 15, 23⟩ ([⟨0, 12, 19, 13⟩] : List ExceptionTableEntry) hT9 (fun z hz => absurd hz List.not_mem_nil) (by decide) (by decide) (C.word tw_478 rfl) (C.nest tw_489 rfl rfl) h1 h2 h3 ?_
      refine lv_astore (lv' := [(5, .ref q9), (0, .ref (G.2.1 0)), (1, .int p1), (2, .int p2), (3, .int p3), (4, .ref (G.2.1 65))]) C.1 C.2.1 dL_stage_15 hl (by decide) rfl (fun ls hl => ?_)
      refine lv_iconst (v := (1 : Int32)) C.1 C.2.1 dL_stage_17 (by decide) ?_
      cases hf
      exact x_iret C hr hH dL_stage_18
    · have hf := (if_neg q3).symm.trans hf
      by_cases q2 : E = "java/lang/IllegalArgumentException"
      · have hf := (if_pos q2).symm.trans hf
        subst q2
        refine z_catch C.2.2.2.1 ([⟨0, 12, 15, 23⟩] : List ExceptionTableEntry) ⟨0, 12, 19, 13⟩ ([] : List ExceptionTableEntry) hT9 (List.forall_mem_cons.mpr ⟨⟨by decide, by decide, _, C.word tw_478 rfl, C.nc (q := ("java/lang/IllegalArgumentException", "java/lang/IllegalStateException")) (by decide)⟩, fun z hz => absurd hz List.not_mem_nil⟩) (by decide) (by decide) (C.word tw_368 rfl) (C.nest tw_379 rfl rfl) h1 h2 h3 ?_
        refine lv_astore (lv' := [(5, .ref q9), (0, .ref (G.2.1 0)), (1, .int p1), (2, .int p2), (3, .int p3), (4, .ref (G.2.1 65))]) C.1 C.2.1 dL_stage_19 hl (by decide) rfl (fun ls hl => ?_)
        refine lv_iconst (v := (2 : Int32)) C.1 C.2.1 dL_stage_21 (by decide) ?_
        cases hf
        exact x_iret C hr hH dL_stage_22
      · have hf := (if_neg q2).symm.trans hf
        exact absurd hf (by simp)
  · intro r4 H locs ho hH
    rw [ho] at hf
    have hf : (some ((0 : Int32), (st q1.2 65 (0 : Int32).toNatClampNeg r4))) = _ := hf
    refine lv_i2l (v := (r4 : Int32).toInt64) C.1 C.2.1 dL_stage_10 rfl ?_
    refine x_last C hH kk_65 (by decide) dL_stage_11 (fun H locs hH => ?_)
    refine lv_goto (tgt := 23) C.1 C.2.1 dL_stage_12 (by decide) ?_
    refine lv_iconst (v := (0 : Int32)) C.1 C.2.1 dL_stage_23 (by decide) ?_
    cases hf
    exact x_iret C hr hH dL_stage_24
def f_L_flags (I : Mem)  : Option (Int32 × Mem) := (f_X9_flags I).bind fun q1 => (thI q1.1 (fun E => if E = "java/lang/IllegalStateException" then (some ((1 : Int32), q1.2)) else (none)) (fun r3 => some ((0 : Int32), (st q1.2 65 (0 : Int32).toNatClampNeg r3))))
set_option maxHeartbeats 4000000 in
set_option maxRecDepth 100000 in
theorem c_L_flags (l : Launch) (hlt : l.stackTraces = false) (G : Gx) (I : Mem) {res : Int32} {J : Mem} (hf : f_L_flags I = some (res, J)) : Mh l yL_flags (.codeWith yL_flags cL_flags 3 (some .int) [(0, 8, 11, 23)]) 7 110 1 6 G I [.ref (G.2.1 0), .ref (G.2.1 65)] res J := by
  refine Mh.of (by decide +kernel) (Nat.le_of_ble_eq_true rfl) (fun p e s m below meth c ls C hT9 hr hH hl => ?_)
  have C : CX p l s m _ meth c cL_flags 3 RL G := C
  have hl : lv_has ls 3 [(0, .ref (G.2.1 0)), (1, .ref (G.2.1 65))] := hl
  have hf : ((f_X9_flags I).bind fun q1 => (thI q1.1 (fun E => if E = "java/lang/IllegalStateException" then (some ((1 : Int32), q1.2)) else (none)) (fun r3 => some ((0 : Int32), (st q1.2 65 (0 : Int32).toNatClampNeg r3))))) = _ := hf
  refine lv_aload_n C.1 C.2.1 dL_flags_0 rfl (lv_at hl 1 rfl) ?_
  refine lv_iconst (v := (0 : Int32)) C.1 C.2.1 dL_flags_1 (by decide) ?_
  refine lv_aload_n C.1 C.2.1 dL_flags_2 rfl (lv_at hl 0 rfl) ?_
  obtain ⟨q1, hc, hf⟩ := Option.bind_eq_some_iff.mp hf
  have hf : thI q1.1 (fun E => if E = "java/lang/IllegalStateException" then (some ((1 : Int32), q1.2)) else (none)) (fun r3 => some ((0 : Int32), (st q1.2 65 (0 : Int32).toNatClampNeg r3))) = _ := hf
  refine x_xci (n := 0) C hH (c_X9_flags l hlt G I  hc) (kd_lt kk_0 (by decide)) (cE_9 kk_0) rfl tw_525 tw_522 tw_523 tw_524 tw_47 (by decide +kernel) ⟨Nat.le_of_ble_eq_true rfl, Nat.le_of_ble_eq_true rfl⟩ rfl hl.1 rfl (Nat.le_of_ble_eq_true rfl) ⟨Nat.le_of_ble_eq_true rfl, Nat.le_of_ble_eq_true rfl⟩ dL_flags_3 ?_ ?_
  · intro E H locs ce q9 ho hH h1 h2 h3
    rw [ho] at hf
    have hf : (if E = "java/lang/IllegalStateException" then (some ((1 : Int32), q1.2)) else (none)) = _ := hf
    by_cases q2 : E = "java/lang/IllegalStateException"
    · have hf := (if_pos q2).symm.trans hf
      subst q2
      refine z_catch C.2.2.2.1 ([] : List ExceptionTableEntry) ⟨0, 8, 11, 23⟩ ([] : List ExceptionTableEntry) hT9 (fun z hz => absurd hz List.not_mem_nil) (by decide) (by decide) (C.word tw_478 rfl) (C.nest tw_489 rfl rfl) h1 h2 h3 ?_
      refine lv_astore_n (lv' := [(2, .ref q9), (0, .ref (G.2.1 0)), (1, .ref (G.2.1 65))]) C.1 C.2.1 dL_flags_11 rfl hl (by decide) rfl (fun ls hl => ?_)
      refine lv_iconst (v := (1 : Int32)) C.1 C.2.1 dL_flags_12 (by decide) ?_
      cases hf
      exact x_iret C hr hH dL_flags_13
    · have hf := (if_neg q2).symm.trans hf
      exact absurd hf (by simp)
  · intro r3 H locs ho hH
    rw [ho] at hf
    have hf : (some ((0 : Int32), (st q1.2 65 (0 : Int32).toNatClampNeg r3))) = _ := hf
    refine lv_i2l (v := (r3 : Int32).toInt64) C.1 C.2.1 dL_flags_6 rfl ?_
    refine x_last C hH kk_65 (by decide) dL_flags_7 (fun H locs hH => ?_)
    refine lv_goto (tgt := 14) C.1 C.2.1 dL_flags_8 (by decide) ?_
    refine lv_iconst (v := (0 : Int32)) C.1 C.2.1 dL_flags_14 (by decide) ?_
    cases hf
    exact x_iret C hr hH dL_flags_15
def f_L_run (I : Mem) (p1 : Int32) (p2 : Int32) (p3 : Int32) : Option (Int32 × Mem) := (f_X9_run I p1 p2 p3).bind fun q1 => (thI q1.1 (fun E => if E = "java/lang/IllegalStateException" then (some ((1 : Int32), q1.2)) else (if E = "java/lang/IllegalArgumentException" then (some ((2 : Int32), q1.2)) else (if E = "java/lang/UnsupportedOperationException" then (some ((3 : Int32), q1.2)) else (if E = "java/util/NoSuchElementException" then (some ((4 : Int32), q1.2)) else (none))))) (fun r6 => some ((0 : Int32), (st q1.2 65 (0 : Int32).toNatClampNeg r6))))
set_option maxHeartbeats 4000000 in
set_option maxRecDepth 100000 in
theorem c_L_run (l : Launch) (hlt : l.stackTraces = false) (G : Gx) (I : Mem) (p1 : Int32) (p2 : Int32) (p3 : Int32) {res : Int32} {J : Mem} (hf : f_L_run I p1 p2 p3 = some (res, J)) : Mh l yL_run (.codeWith yL_run cL_run 6 (some .int) [(0, 12, 15, 23), (0, 12, 19, 13), (0, 12, 23, 32), (0, 12, 27, 34)]) 26 658 3 18 G I [.ref (G.2.1 0), .int p1, .int p2, .int p3, .ref (G.2.1 65)] res J := by
  refine Mh.of (by decide +kernel) (Nat.le_of_ble_eq_true rfl) (fun p e s m below meth c ls C hT9 hr hH hl => ?_)
  have C : CX p l s m _ meth c cL_run 6 RL G := C
  have hl : lv_has ls 6 [(0, .ref (G.2.1 0)), (1, .int p1), (2, .int p2), (3, .int p3), (4, .ref (G.2.1 65))] := hl
  have hf : ((f_X9_run I p1 p2 p3).bind fun q1 => (thI q1.1 (fun E => if E = "java/lang/IllegalStateException" then (some ((1 : Int32), q1.2)) else (if E = "java/lang/IllegalArgumentException" then (some ((2 : Int32), q1.2)) else (if E = "java/lang/UnsupportedOperationException" then (some ((3 : Int32), q1.2)) else (if E = "java/util/NoSuchElementException" then (some ((4 : Int32), q1.2)) else (none))))) (fun r6 => some ((0 : Int32), (st q1.2 65 (0 : Int32).toNatClampNeg r6))))) = _ := hf
  refine lv_aload C.1 C.2.1 dL_run_0 (lv_at hl 4 rfl) ?_
  refine lv_iconst (v := (0 : Int32)) C.1 C.2.1 dL_run_2 (by decide) ?_
  refine lv_aload_n C.1 C.2.1 dL_run_3 rfl (lv_at hl 0 rfl) ?_
  refine lv_iload_n C.1 C.2.1 dL_run_4 rfl (lv_at hl 1 rfl) ?_
  refine lv_iload_n C.1 C.2.1 dL_run_5 rfl (lv_at hl 2 rfl) ?_
  refine lv_iload_n C.1 C.2.1 dL_run_6 rfl (lv_at hl 3 rfl) ?_
  obtain ⟨q1, hc, hf⟩ := Option.bind_eq_some_iff.mp hf
  have hf : thI q1.1 (fun E => if E = "java/lang/IllegalStateException" then (some ((1 : Int32), q1.2)) else (if E = "java/lang/IllegalArgumentException" then (some ((2 : Int32), q1.2)) else (if E = "java/lang/UnsupportedOperationException" then (some ((3 : Int32), q1.2)) else (if E = "java/util/NoSuchElementException" then (some ((4 : Int32), q1.2)) else (none))))) (fun r6 => some ((0 : Int32), (st q1.2 65 (0 : Int32).toNatClampNeg r6))) = _ := hf
  refine x_xci (n := 3) C hH (c_X9_run l hlt G I p1 p2 p3 hc) (kd_lt kk_0 (by decide)) (cE_9 kk_0) rfl tw_547 tw_544 tw_545 tw_546 tw_47 (by decide +kernel) ⟨Nat.le_of_ble_eq_true rfl, Nat.le_of_ble_eq_true rfl⟩ rfl hl.1 rfl (Nat.le_of_ble_eq_true rfl) ⟨Nat.le_of_ble_eq_true rfl, Nat.le_of_ble_eq_true rfl⟩ dL_run_7 ?_ ?_
  · intro E H locs ce q9 ho hH h1 h2 h3
    rw [ho] at hf
    have hf : (if E = "java/lang/IllegalStateException" then (some ((1 : Int32), q1.2)) else (if E = "java/lang/IllegalArgumentException" then (some ((2 : Int32), q1.2)) else (if E = "java/lang/UnsupportedOperationException" then (some ((3 : Int32), q1.2)) else (if E = "java/util/NoSuchElementException" then (some ((4 : Int32), q1.2)) else (none))))) = _ := hf
    by_cases q5 : E = "java/lang/IllegalStateException"
    · have hf := (if_pos q5).symm.trans hf
      subst q5
      refine z_catch C.2.2.2.1 ([] : List ExceptionTableEntry) ⟨0, 12, 15, 23⟩ ([⟨0, 12, 19, 13⟩, ⟨0, 12, 23, 32⟩, ⟨0, 12, 27, 34⟩] : List ExceptionTableEntry) hT9 (fun z hz => absurd hz List.not_mem_nil) (by decide) (by decide) (C.word tw_478 rfl) (C.nest tw_489 rfl rfl) h1 h2 h3 ?_
      refine lv_astore (lv' := [(5, .ref q9), (0, .ref (G.2.1 0)), (1, .int p1), (2, .int p2), (3, .int p3), (4, .ref (G.2.1 65))]) C.1 C.2.1 dL_run_15 hl (by decide) rfl (fun ls hl => ?_)
      refine lv_iconst (v := (1 : Int32)) C.1 C.2.1 dL_run_17 (by decide) ?_
      cases hf
      exact x_iret C hr hH dL_run_18
    · have hf := (if_neg q5).symm.trans hf
      by_cases q4 : E = "java/lang/IllegalArgumentException"
      · have hf := (if_pos q4).symm.trans hf
        subst q4
        refine z_catch C.2.2.2.1 ([⟨0, 12, 15, 23⟩] : List ExceptionTableEntry) ⟨0, 12, 19, 13⟩ ([⟨0, 12, 23, 32⟩, ⟨0, 12, 27, 34⟩] : List ExceptionTableEntry) hT9 (List.forall_mem_cons.mpr ⟨⟨by decide, by decide, _, C.word tw_478 rfl, C.nc (q := ("java/lang/IllegalArgumentException", "java/lang/IllegalStateException")) (by decide)⟩, fun z hz => absurd hz List.not_mem_nil⟩) (by decide) (by decide) (C.word tw_368 rfl) (C.nest tw_379 rfl rfl) h1 h2 h3 ?_
        refine lv_astore (lv' := [(5, .ref q9), (0, .ref (G.2.1 0)), (1, .int p1), (2, .int p2), (3, .int p3), (4, .ref (G.2.1 65))]) C.1 C.2.1 dL_run_19 hl (by decide) rfl (fun ls hl => ?_)
        refine lv_iconst (v := (2 : Int32)) C.1 C.2.1 dL_run_21 (by decide) ?_
        cases hf
        exact x_iret C hr hH dL_run_22
      · have hf := (if_neg q4).symm.trans hf
        by_cases q3 : E = "java/lang/UnsupportedOperationException"
        · have hf := (if_pos q3).symm.trans hf
          subst q3
          refine z_catch C.2.2.2.1 ([⟨0, 12, 15, 23⟩, ⟨0, 12, 19, 13⟩] : List ExceptionTableEntry) ⟨0, 12, 23, 32⟩ ([⟨0, 12, 27, 34⟩] : List ExceptionTableEntry) hT9 (List.forall_mem_cons.mpr ⟨⟨by decide, by decide, _, C.word tw_478 rfl, C.nc (q := ("java/lang/UnsupportedOperationException", "java/lang/IllegalStateException")) (by decide)⟩, List.forall_mem_cons.mpr ⟨⟨by decide, by decide, _, C.word tw_368 rfl, C.nc (q := ("java/lang/UnsupportedOperationException", "java/lang/IllegalArgumentException")) (by decide)⟩, fun z hz => absurd hz List.not_mem_nil⟩⟩) (by decide) (by decide) (C.word tw_542 rfl) (C.nest tw_669 rfl rfl) h1 h2 h3 ?_
          refine lv_astore (lv' := [(5, .ref q9), (0, .ref (G.2.1 0)), (1, .int p1), (2, .int p2), (3, .int p3), (4, .ref (G.2.1 65))]) C.1 C.2.1 dL_run_23 hl (by decide) rfl (fun ls hl => ?_)
          refine lv_iconst (v := (3 : Int32)) C.1 C.2.1 dL_run_25 (by decide) ?_
          cases hf
          exact x_iret C hr hH dL_run_26
        · have hf := (if_neg q3).symm.trans hf
          by_cases q2 : E = "java/util/NoSuchElementException"
          · have hf := (if_pos q2).symm.trans hf
            subst q2
            refine z_catch C.2.2.2.1 ([⟨0, 12, 15, 23⟩, ⟨0, 12, 19, 13⟩, ⟨0, 12, 23, 32⟩] : List ExceptionTableEntry) ⟨0, 12, 27, 34⟩ ([] : List ExceptionTableEntry) hT9 (List.forall_mem_cons.mpr ⟨⟨by decide, by decide, _, C.word tw_478 rfl, C.nc (q := ("java/util/NoSuchElementException", "java/lang/IllegalStateException")) (by decide)⟩, List.forall_mem_cons.mpr ⟨⟨by decide, by decide, _, C.word tw_368 rfl, C.nc (q := ("java/util/NoSuchElementException", "java/lang/IllegalArgumentException")) (by decide)⟩, List.forall_mem_cons.mpr ⟨⟨by decide, by decide, _, C.word tw_542 rfl, C.nc (q := ("java/util/NoSuchElementException", "java/lang/UnsupportedOperationException")) (by decide)⟩, fun z hz => absurd hz List.not_mem_nil⟩⟩⟩) (by decide) (by decide) (C.word tw_543 rfl) (C.nest tw_689 rfl rfl) h1 h2 h3 ?_
            refine lv_astore (lv' := [(5, .ref q9), (0, .ref (G.2.1 0)), (1, .int p1), (2, .int p2), (3, .int p3), (4, .ref (G.2.1 65))]) C.1 C.2.1 dL_run_27 hl (by decide) rfl (fun ls hl => ?_)
            refine lv_iconst (v := (4 : Int32)) C.1 C.2.1 dL_run_29 (by decide) ?_
            cases hf
            exact x_iret C hr hH dL_run_30
          · have hf := (if_neg q2).symm.trans hf
            exact absurd hf (by simp)
  · intro r6 H locs ho hH
    rw [ho] at hf
    have hf : (some ((0 : Int32), (st q1.2 65 (0 : Int32).toNatClampNeg r6))) = _ := hf
    refine lv_i2l (v := (r6 : Int32).toInt64) C.1 C.2.1 dL_run_10 rfl ?_
    refine x_last C hH kk_65 (by decide) dL_run_11 (fun H locs hH => ?_)
    refine lv_goto (tgt := 31) C.1 C.2.1 dL_run_12 (by decide) ?_
    refine lv_iconst (v := (0 : Int32)) C.1 C.2.1 dL_run_31 (by decide) ?_
    cases hf
    exact x_iret C hr hH dL_run_32
def f_L_pool (I : Mem) (p1 : Int32) (p2 : Int32) (p3 : Int32) : Option (Int32 × Mem) := (f_X9_pool I p1 p2 p3).bind fun q1 => (thV q1.1 (fun E => if E = "java/lang/IllegalArgumentException" then (some ((1 : Int32), q1.2)) else (none)) (some ((0 : Int32), q1.2)))
set_option maxHeartbeats 4000000 in
set_option maxRecDepth 100000 in
theorem c_L_pool (l : Launch) (hlt : l.stackTraces = false) (G : Gx) (I : Mem) (p1 : Int32) (p2 : Int32) (p3 : Int32) {res : Int32} {J : Mem} (hf : f_L_pool I p1 p2 p3 = some (res, J)) : Mh l yL_pool (.codeWith yL_pool cL_pool 5 (some .int) [(0, 7, 10, 13)]) 7 113 1 6 G I [.ref (G.2.1 0), .int p1, .int p2, .int p3] res J := by
  refine Mh.of (by decide +kernel) (Nat.le_of_ble_eq_true rfl) (fun p e s m below meth c ls C hT9 hr hH hl => ?_)
  have C : CX p l s m _ meth c cL_pool 5 RL G := C
  have hl : lv_has ls 5 [(0, .ref (G.2.1 0)), (1, .int p1), (2, .int p2), (3, .int p3)] := hl
  have hf : ((f_X9_pool I p1 p2 p3).bind fun q1 => (thV q1.1 (fun E => if E = "java/lang/IllegalArgumentException" then (some ((1 : Int32), q1.2)) else (none)) (some ((0 : Int32), q1.2)))) = _ := hf
  refine lv_aload_n C.1 C.2.1 dL_pool_0 rfl (lv_at hl 0 rfl) ?_
  refine lv_iload_n C.1 C.2.1 dL_pool_1 rfl (lv_at hl 1 rfl) ?_
  refine lv_iload_n C.1 C.2.1 dL_pool_2 rfl (lv_at hl 2 rfl) ?_
  refine lv_iload_n C.1 C.2.1 dL_pool_3 rfl (lv_at hl 3 rfl) ?_
  obtain ⟨q1, hc, hf⟩ := Option.bind_eq_some_iff.mp hf
  have hf : thV q1.1 (fun E => if E = "java/lang/IllegalArgumentException" then (some ((1 : Int32), q1.2)) else (none)) (some ((0 : Int32), q1.2)) = _ := hf
  refine x_xcv (n := 3) C hH (c_X9_pool l hlt G I p1 p2 p3 hc) (kd_lt kk_0 (by decide)) (cE_9 kk_0) rfl tw_721 tw_718 tw_719 tw_720 tw_47 (by decide +kernel) ⟨Nat.le_of_ble_eq_true rfl, Nat.le_of_ble_eq_true rfl⟩ rfl hl.1 rfl (Nat.le_of_ble_eq_true rfl) ⟨Nat.le_of_ble_eq_true rfl, Nat.le_of_ble_eq_true rfl⟩ dL_pool_4 ?_ ?_
  · intro E H locs ce q9 ho hH h1 h2 h3
    rw [ho] at hf
    have hf : (if E = "java/lang/IllegalArgumentException" then (some ((1 : Int32), q1.2)) else (none)) = _ := hf
    by_cases q2 : E = "java/lang/IllegalArgumentException"
    · have hf := (if_pos q2).symm.trans hf
      subst q2
      refine z_catch C.2.2.2.1 ([] : List ExceptionTableEntry) ⟨0, 7, 10, 13⟩ ([] : List ExceptionTableEntry) hT9 (fun z hz => absurd hz List.not_mem_nil) (by decide) (by decide) (C.word tw_368 rfl) (C.nest tw_379 rfl rfl) h1 h2 h3 ?_
      refine lv_astore (lv' := [(4, .ref q9), (0, .ref (G.2.1 0)), (1, .int p1), (2, .int p2), (3, .int p3)]) C.1 C.2.1 dL_pool_10 hl (by decide) rfl (fun ls hl => ?_)
      refine lv_iconst (v := (1 : Int32)) C.1 C.2.1 dL_pool_12 (by decide) ?_
      cases hf
      exact x_iret C hr hH dL_pool_13
    · have hf := (if_neg q2).symm.trans hf
      exact absurd hf (by simp)
  · intro H locs ho hH
    rw [ho] at hf
    have hf : (some ((0 : Int32), q1.2)) = _ := hf
    refine lv_goto (tgt := 14) C.1 C.2.1 dL_pool_7 (by decide) ?_
    refine lv_iconst (v := (0 : Int32)) C.1 C.2.1 dL_pool_14 (by decide) ?_
    cases hf
    exact x_iret C hr hH dL_pool_15
def f_L_parts (I : Mem) (p1 : Int32) (p2 : Int32) (p3 : Int32) : Option (Int32 × Mem) := (f_X9_parts I p1 p2 p3).bind fun q1 => (thI q1.1 (fun E => if E = "java/lang/IllegalStateException" then (some ((1 : Int32), q1.2)) else (if E = "java/lang/IllegalArgumentException" then (some ((2 : Int32), q1.2)) else (if E = "java/lang/UnsupportedOperationException" then (some ((3 : Int32), q1.2)) else (if E = "java/util/NoSuchElementException" then (some ((4 : Int32), q1.2)) else (none))))) (fun r6 => some ((0 : Int32), (st q1.2 65 (0 : Int32).toNatClampNeg r6))))
set_option maxHeartbeats 4000000 in
set_option maxRecDepth 100000 in
theorem c_L_parts (l : Launch) (hlt : l.stackTraces = false) (G : Gx) (I : Mem) (p1 : Int32) (p2 : Int32) (p3 : Int32) {res : Int32} {J : Mem} (hf : f_L_parts I p1 p2 p3 = some (res, J)) : Mh l yL_parts (.codeWith yL_parts cL_parts 6 (some .int) [(0, 12, 15, 23), (0, 12, 19, 13), (0, 12, 23, 32), (0, 12, 27, 34)]) 8 192 3 18 G I [.ref (G.2.1 0), .int p1, .int p2, .int p3, .ref (G.2.1 65)] res J := by
  refine Mh.of (by decide +kernel) (Nat.le_of_ble_eq_true rfl) (fun p e s m below meth c ls C hT9 hr hH hl => ?_)
  have C : CX p l s m _ meth c cL_parts 6 RL G := C
  have hl : lv_has ls 6 [(0, .ref (G.2.1 0)), (1, .int p1), (2, .int p2), (3, .int p3), (4, .ref (G.2.1 65))] := hl
  have hf : ((f_X9_parts I p1 p2 p3).bind fun q1 => (thI q1.1 (fun E => if E = "java/lang/IllegalStateException" then (some ((1 : Int32), q1.2)) else (if E = "java/lang/IllegalArgumentException" then (some ((2 : Int32), q1.2)) else (if E = "java/lang/UnsupportedOperationException" then (some ((3 : Int32), q1.2)) else (if E = "java/util/NoSuchElementException" then (some ((4 : Int32), q1.2)) else (none))))) (fun r6 => some ((0 : Int32), (st q1.2 65 (0 : Int32).toNatClampNeg r6))))) = _ := hf
  refine lv_aload C.1 C.2.1 dL_parts_0 (lv_at hl 4 rfl) ?_
  refine lv_iconst (v := (0 : Int32)) C.1 C.2.1 dL_parts_2 (by decide) ?_
  refine lv_aload_n C.1 C.2.1 dL_parts_3 rfl (lv_at hl 0 rfl) ?_
  refine lv_iload_n C.1 C.2.1 dL_parts_4 rfl (lv_at hl 1 rfl) ?_
  refine lv_iload_n C.1 C.2.1 dL_parts_5 rfl (lv_at hl 2 rfl) ?_
  refine lv_iload_n C.1 C.2.1 dL_parts_6 rfl (lv_at hl 3 rfl) ?_
  obtain ⟨q1, hc, hf⟩ := Option.bind_eq_some_iff.mp hf
  have hf : thI q1.1 (fun E => if E = "java/lang/IllegalStateException" then (some ((1 : Int32), q1.2)) else (if E = "java/lang/IllegalArgumentException" then (some ((2 : Int32), q1.2)) else (if E = "java/lang/UnsupportedOperationException" then (some ((3 : Int32), q1.2)) else (if E = "java/util/NoSuchElementException" then (some ((4 : Int32), q1.2)) else (none))))) (fun r6 => some ((0 : Int32), (st q1.2 65 (0 : Int32).toNatClampNeg r6))) = _ := hf
  refine x_xci (n := 3) C hH (c_X9_parts l hlt G I p1 p2 p3 hc) (kd_lt kk_0 (by decide)) (cE_9 kk_0) rfl tw_733 tw_730 tw_731 tw_732 tw_47 (by decide +kernel) ⟨Nat.le_of_ble_eq_true rfl, Nat.le_of_ble_eq_true rfl⟩ rfl hl.1 rfl (Nat.le_of_ble_eq_true rfl) ⟨Nat.le_of_ble_eq_true rfl, Nat.le_of_ble_eq_true rfl⟩ dL_parts_7 ?_ ?_
  · intro E H locs ce q9 ho hH h1 h2 h3
    rw [ho] at hf
    have hf : (if E = "java/lang/IllegalStateException" then (some ((1 : Int32), q1.2)) else (if E = "java/lang/IllegalArgumentException" then (some ((2 : Int32), q1.2)) else (if E = "java/lang/UnsupportedOperationException" then (some ((3 : Int32), q1.2)) else (if E = "java/util/NoSuchElementException" then (some ((4 : Int32), q1.2)) else (none))))) = _ := hf
    by_cases q5 : E = "java/lang/IllegalStateException"
    · have hf := (if_pos q5).symm.trans hf
      subst q5
      refine z_catch C.2.2.2.1 ([] : List ExceptionTableEntry) ⟨0, 12, 15, 23⟩ ([⟨0, 12, 19, 13⟩, ⟨0, 12, 23, 32⟩, ⟨0, 12, 27, 34⟩] : List ExceptionTableEntry) hT9 (fun z hz => absurd hz List.not_mem_nil) (by decide) (by decide) (C.word tw_478 rfl) (C.nest tw_489 rfl rfl) h1 h2 h3 ?_
      refine lv_astore (lv' := [(5, .ref q9), (0, .ref (G.2.1 0)), (1, .int p1), (2, .int p2), (3, .int p3), (4, .ref (G.2.1 65))]) C.1 C.2.1 dL_parts_15 hl (by decide) rfl (fun ls hl => ?_)
      refine lv_iconst (v := (1 : Int32)) C.1 C.2.1 dL_parts_17 (by decide) ?_
      cases hf
      exact x_iret C hr hH dL_parts_18
    · have hf := (if_neg q5).symm.trans hf
      by_cases q4 : E = "java/lang/IllegalArgumentException"
      · have hf := (if_pos q4).symm.trans hf
        subst q4
        refine z_catch C.2.2.2.1 ([⟨0, 12, 15, 23⟩] : List ExceptionTableEntry) ⟨0, 12, 19, 13⟩ ([⟨0, 12, 23, 32⟩, ⟨0, 12, 27, 34⟩] : List ExceptionTableEntry) hT9 (List.forall_mem_cons.mpr ⟨⟨by decide, by decide, _, C.word tw_478 rfl, C.nc (q := ("java/lang/IllegalArgumentException", "java/lang/IllegalStateException")) (by decide)⟩, fun z hz => absurd hz List.not_mem_nil⟩) (by decide) (by decide) (C.word tw_368 rfl) (C.nest tw_379 rfl rfl) h1 h2 h3 ?_
        refine lv_astore (lv' := [(5, .ref q9), (0, .ref (G.2.1 0)), (1, .int p1), (2, .int p2), (3, .int p3), (4, .ref (G.2.1 65))]) C.1 C.2.1 dL_parts_19 hl (by decide) rfl (fun ls hl => ?_)
        refine lv_iconst (v := (2 : Int32)) C.1 C.2.1 dL_parts_21 (by decide) ?_
        cases hf
        exact x_iret C hr hH dL_parts_22
      · have hf := (if_neg q4).symm.trans hf
        by_cases q3 : E = "java/lang/UnsupportedOperationException"
        · have hf := (if_pos q3).symm.trans hf
          subst q3
          refine z_catch C.2.2.2.1 ([⟨0, 12, 15, 23⟩, ⟨0, 12, 19, 13⟩] : List ExceptionTableEntry) ⟨0, 12, 23, 32⟩ ([⟨0, 12, 27, 34⟩] : List ExceptionTableEntry) hT9 (List.forall_mem_cons.mpr ⟨⟨by decide, by decide, _, C.word tw_478 rfl, C.nc (q := ("java/lang/UnsupportedOperationException", "java/lang/IllegalStateException")) (by decide)⟩, List.forall_mem_cons.mpr ⟨⟨by decide, by decide, _, C.word tw_368 rfl, C.nc (q := ("java/lang/UnsupportedOperationException", "java/lang/IllegalArgumentException")) (by decide)⟩, fun z hz => absurd hz List.not_mem_nil⟩⟩) (by decide) (by decide) (C.word tw_542 rfl) (C.nest tw_669 rfl rfl) h1 h2 h3 ?_
          refine lv_astore (lv' := [(5, .ref q9), (0, .ref (G.2.1 0)), (1, .int p1), (2, .int p2), (3, .int p3), (4, .ref (G.2.1 65))]) C.1 C.2.1 dL_parts_23 hl (by decide) rfl (fun ls hl => ?_)
          refine lv_iconst (v := (3 : Int32)) C.1 C.2.1 dL_parts_25 (by decide) ?_
          cases hf
          exact x_iret C hr hH dL_parts_26
        · have hf := (if_neg q3).symm.trans hf
          by_cases q2 : E = "java/util/NoSuchElementException"
          · have hf := (if_pos q2).symm.trans hf
            subst q2
            refine z_catch C.2.2.2.1 ([⟨0, 12, 15, 23⟩, ⟨0, 12, 19, 13⟩, ⟨0, 12, 23, 32⟩] : List ExceptionTableEntry) ⟨0, 12, 27, 34⟩ ([] : List ExceptionTableEntry) hT9 (List.forall_mem_cons.mpr ⟨⟨by decide, by decide, _, C.word tw_478 rfl, C.nc (q := ("java/util/NoSuchElementException", "java/lang/IllegalStateException")) (by decide)⟩, List.forall_mem_cons.mpr ⟨⟨by decide, by decide, _, C.word tw_368 rfl, C.nc (q := ("java/util/NoSuchElementException", "java/lang/IllegalArgumentException")) (by decide)⟩, List.forall_mem_cons.mpr ⟨⟨by decide, by decide, _, C.word tw_542 rfl, C.nc (q := ("java/util/NoSuchElementException", "java/lang/UnsupportedOperationException")) (by decide)⟩, fun z hz => absurd hz List.not_mem_nil⟩⟩⟩) (by decide) (by decide) (C.word tw_543 rfl) (C.nest tw_689 rfl rfl) h1 h2 h3 ?_
            refine lv_astore (lv' := [(5, .ref q9), (0, .ref (G.2.1 0)), (1, .int p1), (2, .int p2), (3, .int p3), (4, .ref (G.2.1 65))]) C.1 C.2.1 dL_parts_27 hl (by decide) rfl (fun ls hl => ?_)
            refine lv_iconst (v := (4 : Int32)) C.1 C.2.1 dL_parts_29 (by decide) ?_
            cases hf
            exact x_iret C hr hH dL_parts_30
          · have hf := (if_neg q2).symm.trans hf
            exact absurd hf (by simp)
  · intro r6 H locs ho hH
    rw [ho] at hf
    have hf : (some ((0 : Int32), (st q1.2 65 (0 : Int32).toNatClampNeg r6))) = _ := hf
    refine lv_i2l (v := (r6 : Int32).toInt64) C.1 C.2.1 dL_parts_10 rfl ?_
    refine x_last C hH kk_65 (by decide) dL_parts_11 (fun H locs hH => ?_)
    refine lv_goto (tgt := 31) C.1 C.2.1 dL_parts_12 (by decide) ?_
    refine lv_iconst (v := (0 : Int32)) C.1 C.2.1 dL_parts_31 (by decide) ?_
    cases hf
    exact x_iret C hr hH dL_parts_32
def f_L_kept (I : Mem) (p1 : Int32) : Option (Int32 × Mem) := (f_X9_kept I p1).bind fun q1 => (thI q1.1 (fun E => if E = "java/util/NoSuchElementException" then (some ((1 : Int32), q1.2)) else (none)) (fun r3 => some ((0 : Int32), (st q1.2 65 (0 : Int32).toNatClampNeg r3))))
set_option maxHeartbeats 4000000 in
set_option maxRecDepth 100000 in
theorem c_L_kept (l : Launch) (hlt : l.stackTraces = false) (G : Gx) (I : Mem) (p1 : Int32) {res : Int32} {J : Mem} (hf : f_L_kept I p1 = some (res, J)) : Mh l yL_kept (.codeWith yL_kept cL_kept 4 (some .int) [(0, 9, 12, 34)]) 7 111 1 6 G I [.ref (G.2.1 0), .int p1, .ref (G.2.1 65)] res J := by
  refine Mh.of (by decide +kernel) (Nat.le_of_ble_eq_true rfl) (fun p e s m below meth c ls C hT9 hr hH hl => ?_)
  have C : CX p l s m _ meth c cL_kept 4 RL G := C
  have hl : lv_has ls 4 [(0, .ref (G.2.1 0)), (1, .int p1), (2, .ref (G.2.1 65))] := hl
  have hf : ((f_X9_kept I p1).bind fun q1 => (thI q1.1 (fun E => if E = "java/util/NoSuchElementException" then (some ((1 : Int32), q1.2)) else (none)) (fun r3 => some ((0 : Int32), (st q1.2 65 (0 : Int32).toNatClampNeg r3))))) = _ := hf
  refine lv_aload_n C.1 C.2.1 dL_kept_0 rfl (lv_at hl 2 rfl) ?_
  refine lv_iconst (v := (0 : Int32)) C.1 C.2.1 dL_kept_1 (by decide) ?_
  refine lv_aload_n C.1 C.2.1 dL_kept_2 rfl (lv_at hl 0 rfl) ?_
  refine lv_iload_n C.1 C.2.1 dL_kept_3 rfl (lv_at hl 1 rfl) ?_
  obtain ⟨q1, hc, hf⟩ := Option.bind_eq_some_iff.mp hf
  have hf : thI q1.1 (fun E => if E = "java/util/NoSuchElementException" then (some ((1 : Int32), q1.2)) else (none)) (fun r3 => some ((0 : Int32), (st q1.2 65 (0 : Int32).toNatClampNeg r3))) = _ := hf
  refine x_xci (n := 1) C hH (c_X9_kept l hlt G I p1 hc) (kd_lt kk_0 (by decide)) (cE_9 kk_0) rfl tw_806 tw_803 tw_804 tw_805 tw_47 (by decide +kernel) ⟨Nat.le_of_ble_eq_true rfl, Nat.le_of_ble_eq_true rfl⟩ rfl hl.1 rfl (Nat.le_of_ble_eq_true rfl) ⟨Nat.le_of_ble_eq_true rfl, Nat.le_of_ble_eq_true rfl⟩ dL_kept_4 ?_ ?_
  · intro E H locs ce q9 ho hH h1 h2 h3
    rw [ho] at hf
    have hf : (if E = "java/util/NoSuchElementException" then (some ((1 : Int32), q1.2)) else (none)) = _ := hf
    by_cases q2 : E = "java/util/NoSuchElementException"
    · have hf := (if_pos q2).symm.trans hf
      subst q2
      refine z_catch C.2.2.2.1 ([] : List ExceptionTableEntry) ⟨0, 9, 12, 34⟩ ([] : List ExceptionTableEntry) hT9 (fun z hz => absurd hz List.not_mem_nil) (by decide) (by decide) (C.word tw_543 rfl) (C.nest tw_689 rfl rfl) h1 h2 h3 ?_
      refine lv_astore_n (lv' := [(3, .ref q9), (0, .ref (G.2.1 0)), (1, .int p1), (2, .ref (G.2.1 65))]) C.1 C.2.1 dL_kept_12 rfl hl (by decide) rfl (fun ls hl => ?_)
      refine lv_iconst (v := (1 : Int32)) C.1 C.2.1 dL_kept_13 (by decide) ?_
      cases hf
      exact x_iret C hr hH dL_kept_14
    · have hf := (if_neg q2).symm.trans hf
      exact absurd hf (by simp)
  · intro r3 H locs ho hH
    rw [ho] at hf
    have hf : (some ((0 : Int32), (st q1.2 65 (0 : Int32).toNatClampNeg r3))) = _ := hf
    refine lv_i2l (v := (r3 : Int32).toInt64) C.1 C.2.1 dL_kept_7 rfl ?_
    refine x_last C hH kk_65 (by decide) dL_kept_8 (fun H locs hH => ?_)
    refine lv_goto (tgt := 15) C.1 C.2.1 dL_kept_9 (by decide) ?_
    refine lv_iconst (v := (0 : Int32)) C.1 C.2.1 dL_kept_15 (by decide) ?_
    cases hf
    exact x_iret C hr hH dL_kept_16
