def f_X9_empty (I : Mem)  : Option (Int32 × Mem) := (f_X5_clear I 1).bind fun q1 => (some ((I 1 1), q1))
set_option maxHeartbeats 4000000 in
set_option maxRecDepth 100000 in
theorem c_X9_empty (l : Launch) (G : Gx) (I : Mem) {res : Int32} {J : Mem} (hf : f_X9_empty I = some (res, J)) : Mi l yX9_empty (.code yX9_empty cX9_empty 2 (some .int)) 1 20 G I [.ref (G.2.1 0)] res J := by
  refine Mi.of (by decide +kernel) (Nat.le_of_ble_eq_true rfl) (fun p e s m below meth c ls C hr hH hl => ?_)
  have hl : lv_has ls 2 [(0, .ref (G.2.1 0))] := hl
  have hf : ((f_X5_clear I 1).bind fun q1 => (some ((I 1 1), q1))) = _ := hf
  refine lv_aload_n C.1 C.2.1 dX9_empty_0 rfl (lv_at hl 0 rfl) ?_
  refine g_X9_0 C hH kk_0 tw_323 dX9_empty_1 ?_
  refine gN_X5_1 C hH kk_1 tw_88 dX9_empty_4 ?_
  refine lv_istore_n (lv' := [(1, .int (I 1 1)), (0, .ref (G.2.1 0))]) C.1 C.2.1 dX9_empty_7 rfl hl (by decide) rfl (fun ls hl => ?_)
  refine lv_aload_n C.1 C.2.1 dX9_empty_8 rfl (lv_at hl 1 rfl) ?_
  refine g_X9_0 C hH kk_0 tw_323 dX9_empty_9 ?_
  obtain ⟨q1, hc, hf⟩ := Option.bind_eq_some_iff.mp hf
  refine x_cv (n := 0) C hH (c_X5_clear l G I 1 kk_1 hc) (kd_lt kk_1 (by decide)) (cE_5 kk_1) rfl tw_349 tw_346 tw_347 tw_348 tw_48 (by decide +kernel) ⟨Nat.le_of_ble_eq_true rfl, Nat.le_of_ble_eq_true rfl⟩ rfl hl.1 rfl (Nat.le_of_ble_eq_true rfl) ⟨Nat.le_of_ble_eq_true rfl, Nat.le_of_ble_eq_true rfl⟩ dX9_empty_12 (fun H locs hH => ?_)
  refine lv_iload_n C.1 C.2.1 dX9_empty_15 rfl (lv_at hl 0 rfl) ?_
  cases hf
  exact x_iret C hr hH dX9_empty_16
def f_X9_seen (I : Mem) (p0 : Int32) : Option (Int32 × Mem) := if p0 < 0 then (some ((-1 : Int32), I)) else (if (I 3 2) ≤ p0 then (some ((-1 : Int32), I)) else (if inb p0 (ln 5) = true then (some ((I (6 + 3 * p0.toNatClampNeg) 4), I)) else none))
set_option maxHeartbeats 4000000 in
set_option maxRecDepth 100000 in
theorem c_X9_seen (l : Launch) (G : Gx) (I : Mem) (p0 : Int32) {res : Int32} {J : Mem} (hf : f_X9_seen I p0 = some (res, J)) : Mi l yX9_seen (.code yX9_seen cX9_seen 2 (some .int)) 0 0 G I [.ref (G.2.1 0), .int p0] res J := by
  refine Mi.of (by decide +kernel) (Nat.le_of_ble_eq_true rfl) (fun p e s m below meth c ls C hr hH hl => ?_)
  have hl : lv_has ls 2 [(0, .ref (G.2.1 0)), (1, .int p0)] := hl
  have hf : (if p0 < 0 then (some ((-1 : Int32), I)) else (if (I 3 2) ≤ p0 then (some ((-1 : Int32), I)) else (if inb p0 (ln 5) = true then (some ((I (6 + 3 * p0.toNatClampNeg) 4), I)) else none))) = _ := hf
  refine lv_iload_n C.1 C.2.1 dX9_seen_0 rfl (lv_at hl 1 rfl) ?_
  refine lv_if_lt (tgt := 30) C.1 C.2.1 dX9_seen_1 (by decide) (fun q3 => ?_) (fun q3 => ?_)
  · have hf := (if_pos q3).symm.trans hf
    refine lv_iconst (v := (-1 : Int32)) C.1 C.2.1 dX9_seen_30 (by decide) ?_
    cases hf
    exact x_iret C hr hH dX9_seen_31
  · have hf := (if_neg q3).symm.trans hf
    refine lv_iload_n C.1 C.2.1 dX9_seen_4 rfl (lv_at hl 1 rfl) ?_
    refine lv_aload_n C.1 C.2.1 dX9_seen_5 rfl (lv_at hl 0 rfl) ?_
    refine g_X9_1 C hH kk_0 tw_324 dX9_seen_6 ?_
    refine gN_X3_2 C hH kk_3 tw_180 dX9_seen_9 ?_
    refine lv_icmp_ge (tgt := 30) C.1 C.2.1 dX9_seen_12 (by decide) (fun q2 => ?_) (fun q2 => ?_)
    · have hf := (if_pos q2).symm.trans hf
      refine lv_iconst (v := (-1 : Int32)) C.1 C.2.1 dX9_seen_30 (by decide) ?_
      cases hf
      exact x_iret C hr hH dX9_seen_31
    · have hf := (if_neg q2).symm.trans hf
      refine lv_aload_n C.1 C.2.1 dX9_seen_15 rfl (lv_at hl 0 rfl) ?_
      refine g_X9_1 C hH kk_0 tw_324 dX9_seen_16 ?_
      refine gN_X3_1 C hH kk_3 tw_176 dX9_seen_19 ?_
      refine lv_iload_n C.1 C.2.1 dX9_seen_22 rfl (lv_at hl 1 rfl) ?_
      obtain ⟨q1, hf⟩ := itn hf
      refine x_aldS C hH kk_5 q1 dX9_seen_23 ?_
      refine gN_X7_4 C hH (kd_St q1) tw_154 dX9_seen_24 ?_
      refine lv_goto (tgt := 31) C.1 C.2.1 dX9_seen_27 (by decide) ?_
      cases hf
      exact x_iret C hr hH dX9_seen_31
def f_X9_pooled (I : Mem) (p0 : Int32) : Option (Int32 × Mem) := if p0 = (0 : Int32) then (some ((I 35 5), I)) else (if p0 = (1 : Int32) then ((f_X0_allDone I).bind fun q2 => (some (q2.1, q2.2))) else (if p0 = (2 : Int32) then (some ((I 35 6), I)) else ((f_X9_within I p0 (3 : Int32) (6 : Int32)).bind fun q5 => (if (b2i q5.1) = 0 then (some ((-1 : Int32), q5.2)) else (if inb (p0 - (3 : Int32)) (ln 36) = true then (some ((q5.2 (37 + 2 * (p0 - (3 : Int32)).toNatClampNeg) 3), q5.2)) else none)))))
set_option maxHeartbeats 4000000 in
set_option maxRecDepth 100000 in
theorem c_X9_pooled (l : Launch) (G : Gx) (I : Mem) (p0 : Int32) {res : Int32} {J : Mem} (hf : f_X9_pooled I p0 = some (res, J)) : Mi l yX9_pooled (.code yX9_pooled cX9_pooled 2 (some .int)) 1 22 G I [.ref (G.2.1 0), .int p0] res J := by
  refine Mi.of (by decide +kernel) (Nat.le_of_ble_eq_true rfl) (fun p e s m below meth c ls C hr hH hl => ?_)
  have hl : lv_has ls 2 [(0, .ref (G.2.1 0)), (1, .int p0)] := hl
  have hf : (if p0 = (0 : Int32) then (some ((I 35 5), I)) else (if p0 = (1 : Int32) then ((f_X0_allDone I).bind fun q2 => (some (q2.1, q2.2))) else (if p0 = (2 : Int32) then (some ((I 35 6), I)) else ((f_X9_within I p0 (3 : Int32) (6 : Int32)).bind fun q5 => (if (b2i q5.1) = 0 then (some ((-1 : Int32), q5.2)) else (if inb (p0 - (3 : Int32)) (ln 36) = true then (some ((q5.2 (37 + 2 * (p0 - (3 : Int32)).toNatClampNeg) 3), q5.2)) else none)))))) = _ := hf
  refine lv_iload_n C.1 C.2.1 dX9_pooled_0 rfl (lv_at hl 1 rfl) ?_
  by_cases q1 : p0 = (0 : Int32)
  · have hf := (if_pos q1).symm.trans hf
    refine lv_tableIn (tgt := 28) (off := 27) C.1 C.2.1 dX9_pooled_1 (by rw [q1]; decide) (by rw [q1]; decide) (by rw [q1]; decide) (by decide) ?_
    refine lv_aload_n C.1 C.2.1 dX9_pooled_28 rfl (lv_at hl 0 rfl) ?_
    refine g_X9_5 C hH kk_0 tw_328 dX9_pooled_29 ?_
    refine gN_X0_5 C hH kk_35 tw_305 dX9_pooled_32 ?_
    cases hf
    exact x_iret C hr hH dX9_pooled_35
  · have hf := (if_neg q1).symm.trans hf
    by_cases q3 : p0 = (1 : Int32)
    · have hf := (if_pos q3).symm.trans hf
      refine lv_tableIn (tgt := 36) (off := 35) C.1 C.2.1 dX9_pooled_1 (by rw [q3]; decide) (by rw [q3]; decide) (by rw [q3]; decide) (by decide) ?_
      refine lv_aload_n C.1 C.2.1 dX9_pooled_36 rfl (lv_at hl 0 rfl) ?_
      refine g_X9_5 C hH kk_0 tw_328 dX9_pooled_37 ?_
      obtain ⟨q2, hc, hf⟩ := Option.bind_eq_some_iff.mp hf
      refine x_ci (n := 0) C hH (c_X0_allDone l G I  hc) (kd_lt kk_35 (by decide)) (cE_0 kk_35) rfl tw_361 tw_358 tw_359 tw_360 tw_55 (by decide +kernel) ⟨Nat.le_of_ble_eq_true rfl, Nat.le_of_ble_eq_true rfl⟩ rfl hl.1 rfl (Nat.le_of_ble_eq_true rfl) ⟨Nat.le_of_ble_eq_true rfl, Nat.le_of_ble_eq_true rfl⟩ dX9_pooled_40 (fun H locs hH => ?_)
      cases hf
      exact x_iret C hr hH dX9_pooled_43
    · have hf := (if_neg q3).symm.trans hf
      by_cases q4 : p0 = (2 : Int32)
      · have hf := (if_pos q4).symm.trans hf
        refine lv_tableIn (tgt := 44) (off := 43) C.1 C.2.1 dX9_pooled_1 (by rw [q4]; decide) (by rw [q4]; decide) (by rw [q4]; decide) (by decide) ?_
        refine lv_aload_n C.1 C.2.1 dX9_pooled_44 rfl (lv_at hl 0 rfl) ?_
        refine g_X9_5 C hH kk_0 tw_328 dX9_pooled_45 ?_
        refine gN_X0_6 C hH kk_35 tw_307 dX9_pooled_48 ?_
        cases hf
        exact x_iret C hr hH dX9_pooled_51
      · have hf := (if_neg q4).symm.trans hf
        have q1' := ne_toInt (z := 0) (by decide) q1
        have q3' := ne_toInt (z := 1) (by decide) q3
        have q4' := ne_toInt (z := 2) (by decide) q4
        refine x_tblD (tgt := 52) C.1 C.2.1 dX9_pooled_1 ?_ (by decide) ?_
        · exact Or.inl (by omega)
        · refine lv_iload_n C.1 C.2.1 dX9_pooled_52 rfl (lv_at hl 1 rfl) ?_
          refine lv_iconst (v := (3 : Int32)) C.1 C.2.1 dX9_pooled_53 (by decide) ?_
          refine lv_bipush (v := (6 : Int32)) C.1 C.2.1 dX9_pooled_54 (by decide) ?_
          obtain ⟨q5, hc, hf⟩ := Option.bind_eq_some_iff.mp hf
          refine x_si (n := 3) C hH (c_X9_within l G I p0 (3 : Int32) (6 : Int32) hc) tw_364 tw_362 tw_363 tw_47 (by decide +kernel) ⟨Nat.le_of_ble_eq_true rfl, Nat.le_of_ble_eq_true rfl⟩ rfl hl.1 rfl (Nat.le_of_ble_eq_true rfl) ⟨Nat.le_of_ble_eq_true rfl, Nat.le_of_ble_eq_true rfl⟩ dX9_pooled_56 (fun H locs hH => ?_)
          refine lv_if_eq (tgt := 79) C.1 C.2.1 dX9_pooled_59 (by decide) (fun q7 => ?_) (fun q7 => ?_)
          · have hf := (if_pos q7).symm.trans hf
            refine lv_iconst (v := (-1 : Int32)) C.1 C.2.1 dX9_pooled_79 (by decide) ?_
            cases hf
            exact x_iret C hr hH dX9_pooled_80
          · have hf := (if_neg q7).symm.trans hf
            refine lv_aload_n C.1 C.2.1 dX9_pooled_62 rfl (lv_at hl 0 rfl) ?_
            refine g_X9_5 C hH kk_0 tw_328 dX9_pooled_63 ?_
            refine gN_X0_0 C hH kk_35 tw_299 dX9_pooled_66 ?_
            refine lv_iload_n C.1 C.2.1 dX9_pooled_69 rfl (lv_at hl 1 rfl) ?_
            refine lv_iconst (v := (3 : Int32)) C.1 C.2.1 dX9_pooled_70 (by decide) ?_
            refine lv_isub C.1 C.2.1 dX9_pooled_71 ?_
            obtain ⟨q6, hf⟩ := itn hf
            refine x_aldW C hH kk_36 q6 dX9_pooled_72 ?_
            refine gN_X8_3 C hH (kd_Wk q6) tw_288 dX9_pooled_73 ?_
            refine lv_goto (tgt := 80) C.1 C.2.1 dX9_pooled_76 (by decide) ?_
            cases hf
            exact x_iret C hr hH dX9_pooled_80
def f_X9_useLine (I : Mem) (p0 : Int32) (p1 : Int32) (p2 : Int32) : Option Mem := (f_X1_begin (st I 3 4 (1 : Int32)) p0 p1 p2).bind fun q1 => (some q1)
set_option maxHeartbeats 4000000 in
set_option maxRecDepth 100000 in
theorem c_X9_useLine (l : Launch) (G : Gx) (I : Mem) (p0 : Int32) (p1 : Int32) (p2 : Int32) {J : Mem} (hf : f_X9_useLine I p0 p1 p2 = some J) : Mv l yX9_useLine (.code yX9_useLine cX9_useLine 4 none) 4 127 G I [.ref (G.2.1 0), .int p0, .int p1, .int p2] J := by
  refine Mv.of (by decide +kernel) (Nat.le_of_ble_eq_true rfl) (fun p e s m below meth c ls C hr hH hl => ?_)
  have hl : lv_has ls 4 [(0, .ref (G.2.1 0)), (1, .int p0), (2, .int p1), (3, .int p2)] := hl
  have hf : ((f_X1_begin (st I 3 4 (1 : Int32)) p0 p1 p2).bind fun q1 => (some q1)) = _ := hf
  refine lv_aload_n C.1 C.2.1 dX9_useLine_0 rfl (lv_at hl 0 rfl) ?_
  refine g_X9_1 C hH kk_0 tw_324 dX9_useLine_1 ?_
  refine lv_iconst (v := (1 : Int32)) C.1 C.2.1 dX9_useLine_4 (by decide) ?_
  refine pN_X3_4 C hH kk_3 ⟨rfl, rfl⟩ tw_184 dX9_useLine_5 (fun H locs hH => ?_)
  refine lv_aload_n C.1 C.2.1 dX9_useLine_8 rfl (lv_at hl 0 rfl) ?_
  refine g_X9_2 C hH kk_0 tw_325 dX9_useLine_9 ?_
  refine lv_iload_n C.1 C.2.1 dX9_useLine_12 rfl (lv_at hl 1 rfl) ?_
  refine lv_iload_n C.1 C.2.1 dX9_useLine_13 rfl (lv_at hl 2 rfl) ?_
  refine lv_iload_n C.1 C.2.1 dX9_useLine_14 rfl (lv_at hl 3 rfl) ?_
  obtain ⟨q1, hc, hf⟩ := Option.bind_eq_some_iff.mp hf
  refine x_cv (n := 3) C hH (c_X1_begin l G (st I 3 4 (1 : Int32)) p0 p1 p2 hc) (kd_lt kk_24 (by decide)) (cE_1 kk_24) rfl tw_563 tw_560 tw_561 tw_562 tw_52 (by decide +kernel) ⟨Nat.le_of_ble_eq_true rfl, Nat.le_of_ble_eq_true rfl⟩ rfl hl.1 rfl (Nat.le_of_ble_eq_true rfl) ⟨Nat.le_of_ble_eq_true rfl, Nat.le_of_ble_eq_true rfl⟩ dX9_useLine_15 (fun H locs hH => ?_)
  cases hf
  exact x_vret C hr hH dX9_useLine_18
def f_X9_refuseWithoutOpenLine (I : Mem)  : Option ((Option String) × Mem) := if (I 3 3) = 0 then (some ((some "java/lang/IllegalStateException" : Option String), I)) else (if (I 3 4) = 0 then (some ((none : Option String), I)) else (some ((some "java/lang/IllegalStateException" : Option String), I)))
set_option maxHeartbeats 4000000 in
set_option maxRecDepth 100000 in
theorem c_X9_refuseWithoutOpenLine (l : Launch) (hlt : l.stackTraces = false) (G : Gx) (I : Mem) {o : Option String} {J : Mem} (hf : f_X9_refuseWithoutOpenLine I = some (o, J)) : Xv l yX9_refuseWithoutOpenLine (.code yX9_refuseWithoutOpenLine cX9_refuseWithoutOpenLine 1 none) 6 90 1 6 G I [.ref (G.2.1 0)] o J := by
  refine Xv.of (by decide +kernel) (Nat.le_of_ble_eq_true rfl) (fun p e s m below meth c ls C hX hr hH hl => ?_)
  have C : CX p l s m _ meth c cX9_refuseWithoutOpenLine 1 RX9 G := C
  have hl : lv_has ls 1 [(0, .ref (G.2.1 0))] := hl
  have hf : (if (I 3 3) = 0 then (some ((some "java/lang/IllegalStateException" : Option String), I)) else (if (I 3 4) = 0 then (some ((none : Option String), I)) else (some ((some "java/lang/IllegalStateException" : Option String), I)))) = _ := hf
  refine lv_aload_n C.1 C.2.1 dX9_refuseWithoutOpenLine_0 rfl (lv_at hl 0 rfl) ?_
  refine g_X9_1 C hH kk_0 tw_324 dX9_refuseWithoutOpenLine_1 ?_
  refine gN_X3_3 C hH kk_3 tw_182 dX9_refuseWithoutOpenLine_4 ?_
  refine lv_if_eq (tgt := 20) C.1 C.2.1 dX9_refuseWithoutOpenLine_7 (by decide) (fun q2 => ?_) (fun q2 => ?_)
  · have hf := (if_pos q2).symm.trans hf
    cases hf
    exact x_throwV (text := "there is no line, or it was used") C hX hlt hH hl.1 (by decide +kernel) tw_487 tw_63 (by decide) ath_120_124 ato_120_124 dX9_refuseWithoutOpenLine_20 dX9_refuseWithoutOpenLine_23 dX9_refuseWithoutOpenLine_24 dX9_refuseWithoutOpenLine_26 dX9_refuseWithoutOpenLine_29 ⟨Nat.le_of_ble_eq_true rfl, Nat.le_of_ble_eq_true rfl, Nat.le_of_ble_eq_true rfl, Nat.le_of_ble_eq_true rfl⟩ ⟨Nat.le_of_ble_eq_true rfl, Nat.le_of_ble_eq_true rfl⟩
  · have hf := (if_neg q2).symm.trans hf
    refine lv_aload_n C.1 C.2.1 dX9_refuseWithoutOpenLine_10 rfl (lv_at hl 0 rfl) ?_
    refine g_X9_1 C hH kk_0 tw_324 dX9_refuseWithoutOpenLine_11 ?_
    refine gN_X3_4 C hH kk_3 tw_184 dX9_refuseWithoutOpenLine_14 ?_
    refine lv_if_eq (tgt := 30) C.1 C.2.1 dX9_refuseWithoutOpenLine_17 (by decide) (fun q1 => ?_) (fun q1 => ?_)
    · have hf := (if_pos q1).symm.trans hf
      cases hf
      exact x_vretX C hr hH ⟨Nat.le_of_ble_eq_true rfl, Nat.le_of_ble_eq_true rfl⟩ dX9_refuseWithoutOpenLine_30
    · have hf := (if_neg q1).symm.trans hf
      cases hf
      exact x_throwV (text := "there is no line, or it was used") C hX hlt hH hl.1 (by decide +kernel) tw_487 tw_63 (by decide) ath_120_124 ato_120_124 dX9_refuseWithoutOpenLine_20 dX9_refuseWithoutOpenLine_23 dX9_refuseWithoutOpenLine_24 dX9_refuseWithoutOpenLine_26 dX9_refuseWithoutOpenLine_29 ⟨Nat.le_of_ble_eq_true rfl, Nat.le_of_ble_eq_true rfl, Nat.le_of_ble_eq_true rfl, Nat.le_of_ble_eq_true rfl⟩ ⟨Nat.le_of_ble_eq_true rfl, Nat.le_of_ble_eq_true rfl⟩
def f_X9_refuseUnlessEnd (I : Mem) (p0 : Int32) (p1 : Int32) (p2 : Int32) : Option ((Option String) × Mem) := (f_X9_isEnd I p0 p1 p2).bind fun q1 => (if (b2i q1.1) = 0 then (some ((some "java/lang/IllegalArgumentException" : Option String), q1.2)) else (some ((none : Option String), q1.2)))
set_option maxHeartbeats 4000000 in
set_option maxRecDepth 100000 in
theorem c_X9_refuseUnlessEnd (l : Launch) (hlt : l.stackTraces = false) (G : Gx) (I : Mem) (p0 : Int32) (p1 : Int32) (p2 : Int32) {o : Option String} {J : Mem} (hf : f_X9_refuseUnlessEnd I p0 p1 p2 = some (o, J)) : Xv l yX9_refuseUnlessEnd (.code yX9_refuseUnlessEnd cX9_refuseUnlessEnd 4 none) 6 90 1 6 G I [.ref (G.2.1 0), .int p0, .int p1, .int p2] o J := by
  refine Xv.of (by decide +kernel) (Nat.le_of_ble_eq_true rfl) (fun p e s m below meth c ls C hX hr hH hl => ?_)
  have C : CX p l s m _ meth c cX9_refuseUnlessEnd 4 RX9 G := C
  have hl : lv_has ls 4 [(0, .ref (G.2.1 0)), (1, .int p0), (2, .int p1), (3, .int p2)] := hl
  have hf : ((f_X9_isEnd I p0 p1 p2).bind fun q1 => (if (b2i q1.1) = 0 then (some ((some "java/lang/IllegalArgumentException" : Option String), q1.2)) else (some ((none : Option String), q1.2)))) = _ := hf
  refine lv_iload_n C.1 C.2.1 dX9_refuseUnlessEnd_0 rfl (lv_at hl 1 rfl) ?_
  refine lv_iload_n C.1 C.2.1 dX9_refuseUnlessEnd_1 rfl (lv_at hl 2 rfl) ?_
  refine lv_iload_n C.1 C.2.1 dX9_refuseUnlessEnd_2 rfl (lv_at hl 3 rfl) ?_
  obtain ⟨q1, hc, hf⟩ := Option.bind_eq_some_iff.mp hf
  refine x_si (n := 3) C hH (c_X9_isEnd l G I p0 p1 p2 hc) tw_554 tw_552 tw_553 tw_47 (by decide +kernel) ⟨Nat.le_of_ble_eq_true rfl, Nat.le_of_ble_eq_true rfl⟩ rfl hl.1 rfl (Nat.le_of_ble_eq_true rfl) ⟨Nat.le_of_ble_eq_true rfl, Nat.le_of_ble_eq_true rfl⟩ dX9_refuseUnlessEnd_3 (fun H locs hH => ?_)
  refine lv_if_ne (tgt := 19) C.1 C.2.1 dX9_refuseUnlessEnd_6 (by decide) (fun q2 => ?_) (fun q2 => ?_)
  · have hf := (if_neg q2).symm.trans hf
    cases hf
    exact x_vretX C hr hH ⟨Nat.le_of_ble_eq_true rfl, Nat.le_of_ble_eq_true rfl⟩ dX9_refuseUnlessEnd_19
  · have hf := (if_pos q2).symm.trans hf
    cases hf
    exact x_throwV (text := "no such end") C hX hlt hH hl.1 (by decide +kernel) tw_377 tw_61 (by decide) ath_66_70 ato_66_70 dX9_refuseUnlessEnd_9 dX9_refuseUnlessEnd_12 dX9_refuseUnlessEnd_13 dX9_refuseUnlessEnd_15 dX9_refuseUnlessEnd_18 ⟨Nat.le_of_ble_eq_true rfl, Nat.le_of_ble_eq_true rfl, Nat.le_of_ble_eq_true rfl, Nat.le_of_ble_eq_true rfl⟩ ⟨Nat.le_of_ble_eq_true rfl, Nat.le_of_ble_eq_true rfl⟩
def f_X9_put (I : Mem) (p0 : Int32) : Option ((Int32 ⊕ String) × Mem) := (f_X5_isFull I 1).bind fun q1 => (if (b2i q1.1) = 0 then ((f_X5_add q1.2 1 p0).bind fun q2 => (some ((Sum.inl (q2 1 1) : Int32 ⊕ String), q2))) else (some ((Sum.inr "java/lang/IllegalArgumentException" : Int32 ⊕ String), q1.2)))
set_option maxHeartbeats 4000000 in
set_option maxRecDepth 100000 in
theorem c_X9_put (l : Launch) (hlt : l.stackTraces = false) (G : Gx) (I : Mem) (p0 : Int32) {o : Int32 ⊕ String} {J : Mem} (hf : f_X9_put I p0 = some (o, J)) : Xi l yX9_put (.code yX9_put cX9_put 2 (some .int)) 6 103 1 6 G I [.ref (G.2.1 0), .int p0] o J := by
  refine Xi.of (by decide +kernel) (Nat.le_of_ble_eq_true rfl) (fun p e s m below meth c ls C hX hr hH hl => ?_)
  have C : CX p l s m _ meth c cX9_put 2 RX9 G := C
  have hl : lv_has ls 2 [(0, .ref (G.2.1 0)), (1, .int p0)] := hl
  have hf : ((f_X5_isFull I 1).bind fun q1 => (if (b2i q1.1) = 0 then ((f_X5_add q1.2 1 p0).bind fun q2 => (some ((Sum.inl (q2 1 1) : Int32 ⊕ String), q2))) else (some ((Sum.inr "java/lang/IllegalArgumentException" : Int32 ⊕ String), q1.2)))) = _ := hf
  refine lv_aload_n C.1 C.2.1 dX9_put_0 rfl (lv_at hl 0 rfl) ?_
  refine g_X9_0 C hH kk_0 tw_323 dX9_put_1 ?_
  obtain ⟨q1, hc, hf⟩ := Option.bind_eq_some_iff.mp hf
  refine x_ci (n := 0) C hH (c_X5_isFull l G I 1 kk_1 hc) (kd_lt kk_1 (by decide)) (cE_5 kk_1) rfl tw_376 tw_373 tw_374 tw_375 tw_48 (by decide +kernel) ⟨Nat.le_of_ble_eq_true rfl, Nat.le_of_ble_eq_true rfl⟩ rfl hl.1 rfl (Nat.le_of_ble_eq_true rfl) ⟨Nat.le_of_ble_eq_true rfl, Nat.le_of_ble_eq_true rfl⟩ dX9_put_4 (fun H locs hH => ?_)
  refine lv_if_eq (tgt := 20) C.1 C.2.1 dX9_put_7 (by decide) (fun q3 => ?_) (fun q3 => ?_)
  · have hf := (if_pos q3).symm.trans hf
    refine lv_aload_n C.1 C.2.1 dX9_put_20 rfl (lv_at hl 0 rfl) ?_
    refine g_X9_0 C hH kk_0 tw_323 dX9_put_21 ?_
    refine lv_iload_n C.1 C.2.1 dX9_put_24 rfl (lv_at hl 1 rfl) ?_
    obtain ⟨q2, hc, hf⟩ := Option.bind_eq_some_iff.mp hf
    refine x_cv (n := 1) C hH (c_X5_add l G q1.2 1 p0 kk_1 hc) (kd_lt kk_1 (by decide)) (cE_5 kk_1) rfl tw_449 tw_446 tw_447 tw_448 tw_48 (by decide +kernel) ⟨Nat.le_of_ble_eq_true rfl, Nat.le_of_ble_eq_true rfl⟩ rfl hl.1 rfl (Nat.le_of_ble_eq_true rfl) ⟨Nat.le_of_ble_eq_true rfl, Nat.le_of_ble_eq_true rfl⟩ dX9_put_25 (fun H locs hH => ?_)
    refine lv_aload_n C.1 C.2.1 dX9_put_28 rfl (lv_at hl 0 rfl) ?_
    refine g_X9_0 C hH kk_0 tw_323 dX9_put_29 ?_
    refine gN_X5_1 C hH kk_1 tw_88 dX9_put_32 ?_
    cases hf
    exact x_iretX C hr hH ⟨Nat.le_of_ble_eq_true rfl, Nat.le_of_ble_eq_true rfl⟩ dX9_put_35
  · have hf := (if_neg q3).symm.trans hf
    cases hf
    exact x_throwI (text := "the basket is full") C hX hlt hH hl.1 (by decide +kernel) tw_377 tw_61 (by decide) ath_66_70 ato_66_70 dX9_put_10 dX9_put_13 dX9_put_14 dX9_put_16 dX9_put_19 ⟨Nat.le_of_ble_eq_true rfl, Nat.le_of_ble_eq_true rfl, Nat.le_of_ble_eq_true rfl, Nat.le_of_ble_eq_true rfl⟩ ⟨Nat.le_of_ble_eq_true rfl, Nat.le_of_ble_eq_true rfl⟩
def f_X9_source (I : Mem) (p0 : Int32) (p1 : Int32) (p2 : Int32) (p3 : Int32) : Option ((Option String) × Mem) := (f_X9_within I p0 (0 : Int32) (2 : Int32)).bind fun q1 => (if (b2i q1.1) = 0 then (some ((some "java/lang/IllegalArgumentException" : Option String), q1.2)) else (if p0 = (1 : Int32) then ((f_X9_within q1.2 p2 (0 : Int32) (40 : Int32)).bind fun q4 => (if (b2i q4.1) = 0 then (some ((some "java/lang/IllegalArgumentException" : Option String), q4.2)) else ((f_X3_begin q4.2).bind fun q5 => ((f_X6_become q5 p0 p1 p2 p3).bind fun q6 => (some ((none : Option String), q6)))))) else ((f_X3_begin q1.2).bind fun q2 => ((f_X6_become q2 p0 p1 p2 p3).bind fun q3 => (some ((none : Option String), q3))))))
set_option maxHeartbeats 4000000 in
set_option maxRecDepth 100000 in
theorem c_X9_source (l : Launch) (hlt : l.stackTraces = false) (G : Gx) (I : Mem) (p0 : Int32) (p1 : Int32) (p2 : Int32) (p3 : Int32) {o : Option String} {J : Mem} (hf : f_X9_source I p0 p1 p2 p3 = some (o, J)) : Xv l yX9_source (.code yX9_source cX9_source 5 none) 6 90 1 6 G I [.ref (G.2.1 0), .int p0, .int p1, .int p2, .int p3] o J := by
  refine Xv.of (by decide +kernel) (Nat.le_of_ble_eq_true rfl) (fun p e s m below meth c ls C hX hr hH hl => ?_)
  have C : CX p l s m _ meth c cX9_source 5 RX9 G := C
  have hl : lv_has ls 5 [(0, .ref (G.2.1 0)), (1, .int p0), (2, .int p1), (3, .int p2), (4, .int p3)] := hl
  have hf : ((f_X9_within I p0 (0 : Int32) (2 : Int32)).bind fun q1 => (if (b2i q1.1) = 0 then (some ((some "java/lang/IllegalArgumentException" : Option String), q1.2)) else (if p0 = (1 : Int32) then ((f_X9_within q1.2 p2 (0 : Int32) (40 : Int32)).bind fun q4 => (if (b2i q4.1) = 0 then (some ((some "java/lang/IllegalArgumentException" : Option String), q4.2)) else ((f_X3_begin q4.2).bind fun q5 => ((f_X6_become q5 p0 p1 p2 p3).bind fun q6 => (some ((none : Option String), q6)))))) else ((f_X3_begin q1.2).bind fun q2 => ((f_X6_become q2 p0 p1 p2 p3).bind fun q3 => (some ((none : Option String), q3))))))) = _ := hf
  refine lv_iload_n C.1 C.2.1 dX9_source_0 rfl (lv_at hl 1 rfl) ?_
  refine lv_iconst (v := (0 : Int32)) C.1 C.2.1 dX9_source_1 (by decide) ?_
  refine lv_iconst (v := (2 : Int32)) C.1 C.2.1 dX9_source_2 (by decide) ?_
  obtain ⟨q1, hc, hf⟩ := Option.bind_eq_some_iff.mp hf
  refine x_si (n := 3) C hH (c_X9_within l G I p0 (0 : Int32) (2 : Int32) hc) tw_364 tw_362 tw_363 tw_47 (by decide +kernel) ⟨Nat.le_of_ble_eq_true rfl, Nat.le_of_ble_eq_true rfl⟩ rfl hl.1 rfl (Nat.le_of_ble_eq_true rfl) ⟨Nat.le_of_ble_eq_true rfl, Nat.le_of_ble_eq_true rfl⟩ dX9_source_3 (fun H locs hH => ?_)
  refine lv_if_ne (tgt := 19) C.1 C.2.1 dX9_source_6 (by decide) (fun q9 => ?_) (fun q9 => ?_)
  · have hf := (if_neg q9).symm.trans hf
    refine lv_iload_n C.1 C.2.1 dX9_source_19 rfl (lv_at hl 1 rfl) ?_
    refine lv_iconst (v := (1 : Int32)) C.1 C.2.1 dX9_source_20 (by decide) ?_
    refine lv_icmp_ne (tgt := 44) C.1 C.2.1 dX9_source_21 (by decide) (fun q8 => ?_) (fun q8 => ?_)
    · have hf := (if_neg q8).symm.trans hf
      refine lv_aload_n C.1 C.2.1 dX9_source_44 rfl (lv_at hl 0 rfl) ?_
      refine g_X9_1 C hH kk_0 tw_324 dX9_source_45 ?_
      obtain ⟨q2, hc, hf⟩ := Option.bind_eq_some_iff.mp hf
      refine x_cv (n := 0) C hH (c_X3_begin l G q1.2  hc) (kd_lt kk_3 (by decide)) (cE_3 kk_3) rfl tw_470 tw_467 tw_468 tw_469 tw_49 (by decide +kernel) ⟨Nat.le_of_ble_eq_true rfl, Nat.le_of_ble_eq_true rfl⟩ rfl hl.1 rfl (Nat.le_of_ble_eq_true rfl) ⟨Nat.le_of_ble_eq_true rfl, Nat.le_of_ble_eq_true rfl⟩ dX9_source_48 (fun H locs hH => ?_)
      refine lv_aload_n C.1 C.2.1 dX9_source_51 rfl (lv_at hl 0 rfl) ?_
      refine g_X9_1 C hH kk_0 tw_324 dX9_source_52 ?_
      refine gN_X3_0 C hH kk_3 tw_172 dX9_source_55 ?_
      refine lv_iload_n C.1 C.2.1 dX9_source_58 rfl (lv_at hl 1 rfl) ?_
      refine lv_iload_n C.1 C.2.1 dX9_source_59 rfl (lv_at hl 2 rfl) ?_
      refine lv_iload_n C.1 C.2.1 dX9_source_60 rfl (lv_at hl 3 rfl) ?_
      refine lv_iload C.1 C.2.1 dX9_source_61 (lv_at hl 4 rfl) ?_
      obtain ⟨q3, hc, hf⟩ := Option.bind_eq_some_iff.mp hf
      refine x_cv (n := 4) C hH (c_X6_become l G q2 p0 p1 p2 p3 hc) (kd_lt kk_4 (by decide)) (cE_6 kk_4) rfl tw_474 tw_471 tw_472 tw_473 tw_50 (by decide +kernel) ⟨Nat.le_of_ble_eq_true rfl, Nat.le_of_ble_eq_true rfl⟩ rfl hl.1 rfl (Nat.le_of_ble_eq_true rfl) ⟨Nat.le_of_ble_eq_true rfl, Nat.le_of_ble_eq_true rfl⟩ dX9_source_63 (fun H locs hH => ?_)
      cases hf
      exact x_vretX C hr hH ⟨Nat.le_of_ble_eq_true rfl, Nat.le_of_ble_eq_true rfl⟩ dX9_source_66
    · have hf := (if_pos q8).symm.trans hf
      refine lv_iload_n C.1 C.2.1 dX9_source_24 rfl (lv_at hl 3 rfl) ?_
      refine lv_iconst (v := (0 : Int32)) C.1 C.2.1 dX9_source_25 (by decide) ?_
      refine lv_bipush (v := (40 : Int32)) C.1 C.2.1 dX9_source_26 (by decide) ?_
      obtain ⟨q4, hc, hf⟩ := Option.bind_eq_some_iff.mp hf
      refine x_si (n := 3) C hH (c_X9_within l G q1.2 p2 (0 : Int32) (40 : Int32) hc) tw_364 tw_362 tw_363 tw_47 (by decide +kernel) ⟨Nat.le_of_ble_eq_true rfl, Nat.le_of_ble_eq_true rfl⟩ rfl hl.1 rfl (Nat.le_of_ble_eq_true rfl) ⟨Nat.le_of_ble_eq_true rfl, Nat.le_of_ble_eq_true rfl⟩ dX9_source_28 (fun H locs hH => ?_)
      refine lv_if_ne (tgt := 44) C.1 C.2.1 dX9_source_31 (by decide) (fun q7 => ?_) (fun q7 => ?_)
      · have hf := (if_neg q7).symm.trans hf
        refine lv_aload_n C.1 C.2.1 dX9_source_44 rfl (lv_at hl 0 rfl) ?_
        refine g_X9_1 C hH kk_0 tw_324 dX9_source_45 ?_
        obtain ⟨q5, hc, hf⟩ := Option.bind_eq_some_iff.mp hf
        refine x_cv (n := 0) C hH (c_X3_begin l G q4.2  hc) (kd_lt kk_3 (by decide)) (cE_3 kk_3) rfl tw_470 tw_467 tw_468 tw_469 tw_49 (by decide +kernel) ⟨Nat.le_of_ble_eq_true rfl, Nat.le_of_ble_eq_true rfl⟩ rfl hl.1 rfl (Nat.le_of_ble_eq_true rfl) ⟨Nat.le_of_ble_eq_true rfl, Nat.le_of_ble_eq_true rfl⟩ dX9_source_48 (fun H locs hH => ?_)
        refine lv_aload_n C.1 C.2.1 dX9_source_51 rfl (lv_at hl 0 rfl) ?_
        refine g_X9_1 C hH kk_0 tw_324 dX9_source_52 ?_
        refine gN_X3_0 C hH kk_3 tw_172 dX9_source_55 ?_
        refine lv_iload_n C.1 C.2.1 dX9_source_58 rfl (lv_at hl 1 rfl) ?_
        refine lv_iload_n C.1 C.2.1 dX9_source_59 rfl (lv_at hl 2 rfl) ?_
        refine lv_iload_n C.1 C.2.1 dX9_source_60 rfl (lv_at hl 3 rfl) ?_
        refine lv_iload C.1 C.2.1 dX9_source_61 (lv_at hl 4 rfl) ?_
        obtain ⟨q6, hc, hf⟩ := Option.bind_eq_some_iff.mp hf
        refine x_cv (n := 4) C hH (c_X6_become l G q5 p0 p1 p2 p3 hc) (kd_lt kk_4 (by decide)) (cE_6 kk_4) rfl tw_474 tw_471 tw_472 tw_473 tw_50 (by decide +kernel) ⟨Nat.le_of_ble_eq_true rfl, Nat.le_of_ble_eq_true rfl⟩ rfl hl.1 rfl (Nat.le_of_ble_eq_true rfl) ⟨Nat.le_of_ble_eq_true rfl, Nat.le_of_ble_eq_true rfl⟩ dX9_source_63 (fun H locs hH => ?_)
        cases hf
        exact x_vretX C hr hH ⟨Nat.le_of_ble_eq_true rfl, Nat.le_of_ble_eq_true rfl⟩ dX9_source_66
      · have hf := (if_pos q7).symm.trans hf
        cases hf
        exact x_throwV (text := "no such range") C hX hlt hH hl.1 (by decide +kernel) tw_377 tw_61 (by decide) ath_66_70 ato_66_70 dX9_source_34 dX9_source_37 dX9_source_38 dX9_source_40 dX9_source_43 ⟨Nat.le_of_ble_eq_true rfl, Nat.le_of_ble_eq_true rfl, Nat.le_of_ble_eq_true rfl, Nat.le_of_ble_eq_true rfl⟩ ⟨Nat.le_of_ble_eq_true rfl, Nat.le_of_ble_eq_true rfl⟩
  · have hf := (if_pos q9).symm.trans hf
    cases hf
    exact x_throwV (text := "no such source") C hX hlt hH hl.1 (by decide +kernel) tw_377 tw_61 (by decide) ath_66_70 ato_66_70 dX9_source_9 dX9_source_12 dX9_source_13 dX9_source_15 dX9_source_18 ⟨Nat.le_of_ble_eq_true rfl, Nat.le_of_ble_eq_true rfl, Nat.le_of_ble_eq_true rfl, Nat.le_of_ble_eq_true rfl⟩ ⟨Nat.le_of_ble_eq_true rfl, Nat.le_of_ble_eq_true rfl⟩
def f_X9_stage (I : Mem) (p0 : Int32) (p1 : Int32) (p2 : Int32) : Option ((Int32 ⊕ String) × Mem) := (f_X9_refuseWithoutOpenLine I).bind fun q1 => (thV q1.1 (fun E => some ((Sum.inr E : Int32 ⊕ String), q1.2)) (if (q1.2 3 2) = (6 : Int32) then (some ((Sum.inr "java/lang/IllegalArgumentException" : Int32 ⊕ String), q1.2)) else ((f_X9_isStage q1.2 p0 p1 p2).bind fun q2 => (if (b2i q2.1) = 0 then (some ((Sum.inr "java/lang/IllegalArgumentException" : Int32 ⊕ String), q2.2)) else ((f_X3_add q2.2 p0 p1 p2).bind fun q3 => (some ((Sum.inl (q3 3 2) : Int32 ⊕ String), q3)))))))
set_option maxHeartbeats 4000000 in
set_option maxRecDepth 100000 in
theorem c_X9_stage (l : Launch) (hlt : l.stackTraces = false) (G : Gx) (I : Mem) (p0 : Int32) (p1 : Int32) (p2 : Int32) {o : Int32 ⊕ String} {J : Mem} (hf : f_X9_stage I p0 p1 p2 = some (o, J)) : Xi l yX9_stage (.code yX9_stage cX9_stage 4 (some .int)) 7 110 2 12 G I [.ref (G.2.1 0), .int p0, .int p1, .int p2] o J := by
  refine Xi.of (by decide +kernel) (Nat.le_of_ble_eq_true rfl) (fun p e s m below meth c ls C hX hr hH hl => ?_)
  have C : CX p l s m _ meth c cX9_stage 4 RX9 G := C
  have hl : lv_has ls 4 [(0, .ref (G.2.1 0)), (1, .int p0), (2, .int p1), (3, .int p2)] := hl
  have hf : ((f_X9_refuseWithoutOpenLine I).bind fun q1 => (thV q1.1 (fun E => some ((Sum.inr E : Int32 ⊕ String), q1.2)) (if (q1.2 3 2) = (6 : Int32) then (some ((Sum.inr "java/lang/IllegalArgumentException" : Int32 ⊕ String), q1.2)) else ((f_X9_isStage q1.2 p0 p1 p2).bind fun q2 => (if (b2i q2.1) = 0 then (some ((Sum.inr "java/lang/IllegalArgumentException" : Int32 ⊕ String), q2.2)) else ((f_X3_add q2.2 p0 p1 p2).bind fun q3 => (some ((Sum.inl (q3 3 2) : Int32 ⊕ String), q3)))))))) = _ := hf
  refine lv_aload_n C.1 C.2.1 dX9_stage_0 rfl (lv_at hl 0 rfl) ?_
  obtain ⟨q1, hc, hf⟩ := Option.bind_eq_some_iff.mp hf
  have hf : thV q1.1 (fun E => some ((Sum.inr E : Int32 ⊕ String), q1.2)) (if (q1.2 3 2) = (6 : Int32) then (some ((Sum.inr "java/lang/IllegalArgumentException" : Int32 ⊕ String), q1.2)) else ((f_X9_isStage q1.2 p0 p1 p2).bind fun q2 => (if (b2i q2.1) = 0 then (some ((Sum.inr "java/lang/IllegalArgumentException" : Int32 ⊕ String), q2.2)) else ((f_X3_add q2.2 p0 p1 p2).bind fun q3 => (some ((Sum.inl (q3 3 2) : Int32 ⊕ String), q3)))))) = _ := hf
  refine x_xcv (n := 0) C hH (c_X9_refuseWithoutOpenLine l hlt G I  hc) (kd_lt kk_0 (by decide)) (cE_9 kk_0) rfl tw_486 tw_483 tw_485 tw_2 tw_47 (by decide +kernel) ⟨Nat.le_of_ble_eq_true rfl, Nat.le_of_ble_eq_true rfl⟩ rfl hl.1 rfl (Nat.le_of_ble_eq_true rfl) ⟨Nat.le_of_ble_eq_true rfl, Nat.le_of_ble_eq_true rfl⟩ dX9_stage_1 ?_ ?_
  · intro E H locs ce q9 ho hH h1 h2 h3
    rw [ho] at hf
    have hf : some ((Sum.inr E : Int32 ⊕ String), q1.2) = _ := hf
    cases hf
    exact x_outI C hX hH h1 h2 h3 ⟨Nat.le_of_ble_eq_true rfl, Nat.le_of_ble_eq_true rfl⟩
  · intro H locs ho hH
    rw [ho] at hf
    have hf : (if (q1.2 3 2) = (6 : Int32) then (some ((Sum.inr "java/lang/IllegalArgumentException" : Int32 ⊕ String), q1.2)) else ((f_X9_isStage q1.2 p0 p1 p2).bind fun q2 => (if (b2i q2.1) = 0 then (some ((Sum.inr "java/lang/IllegalArgumentException" : Int32 ⊕ String), q2.2)) else ((f_X3_add q2.2 p0 p1 p2).bind fun q3 => (some ((Sum.inl (q3 3 2) : Int32 ⊕ String), q3)))))) = _ := hf
    refine lv_aload_n C.1 C.2.1 dX9_stage_4 rfl (lv_at hl 0 rfl) ?_
    refine g_X9_1 C hH kk_0 tw_324 dX9_stage_5 ?_
    refine gN_X3_2 C hH kk_3 tw_180 dX9_stage_8 ?_
    refine lv_bipush (v := (6 : Int32)) C.1 C.2.1 dX9_stage_11 (by decide) ?_
    refine lv_icmp_eq (tgt := 25) C.1 C.2.1 dX9_stage_13 (by decide) (fun q5 => ?_) (fun q5 => ?_)
    · have hf := (if_pos q5).symm.trans hf
      cases hf
      exact x_throwI (text := "no such stage, or no room for it") C hX hlt hH hl.1 (by decide +kernel) tw_377 tw_61 (by decide) ath_66_70 ato_66_70 dX9_stage_25 dX9_stage_28 dX9_stage_29 dX9_stage_31 dX9_stage_34 ⟨Nat.le_of_ble_eq_true rfl, Nat.le_of_ble_eq_true rfl, Nat.le_of_ble_eq_true rfl, Nat.le_of_ble_eq_true rfl⟩ ⟨Nat.le_of_ble_eq_true rfl, Nat.le_of_ble_eq_true rfl⟩
    · have hf := (if_neg q5).symm.trans hf
      refine lv_iload_n C.1 C.2.1 dX9_stage_16 rfl (lv_at hl 1 rfl) ?_
      refine lv_iload_n C.1 C.2.1 dX9_stage_17 rfl (lv_at hl 2 rfl) ?_
      refine lv_iload_n C.1 C.2.1 dX9_stage_18 rfl (lv_at hl 3 rfl) ?_
      obtain ⟨q2, hc, hf⟩ := Option.bind_eq_some_iff.mp hf
      refine x_si (n := 3) C hH (c_X9_isStage l G q1.2 p0 p1 p2 hc) tw_505 tw_503 tw_504 tw_47 (by decide +kernel) ⟨Nat.le_of_ble_eq_true rfl, Nat.le_of_ble_eq_true rfl⟩ rfl hl.1 rfl (Nat.le_of_ble_eq_true rfl) ⟨Nat.le_of_ble_eq_true rfl, Nat.le_of_ble_eq_true rfl⟩ dX9_stage_19 (fun H locs hH => ?_)
      refine lv_if_ne (tgt := 35) C.1 C.2.1 dX9_stage_22 (by decide) (fun q4 => ?_) (fun q4 => ?_)
      · have hf := (if_neg q4).symm.trans hf
        refine lv_aload_n C.1 C.2.1 dX9_stage_35 rfl (lv_at hl 0 rfl) ?_
        refine g_X9_1 C hH kk_0 tw_324 dX9_stage_36 ?_
        refine lv_iload_n C.1 C.2.1 dX9_stage_39 rfl (lv_at hl 1 rfl) ?_
        refine lv_iload_n C.1 C.2.1 dX9_stage_40 rfl (lv_at hl 2 rfl) ?_
        refine lv_iload_n C.1 C.2.1 dX9_stage_41 rfl (lv_at hl 3 rfl) ?_
        obtain ⟨q3, hc, hf⟩ := Option.bind_eq_some_iff.mp hf
        refine x_cv (n := 3) C hH (c_X3_add l G q2.2 p0 p1 p2 hc) (kd_lt kk_3 (by decide)) (cE_3 kk_3) rfl tw_513 tw_510 tw_511 tw_512 tw_49 (by decide +kernel) ⟨Nat.le_of_ble_eq_true rfl, Nat.le_of_ble_eq_true rfl⟩ rfl hl.1 rfl (Nat.le_of_ble_eq_true rfl) ⟨Nat.le_of_ble_eq_true rfl, Nat.le_of_ble_eq_true rfl⟩ dX9_stage_42 (fun H locs hH => ?_)
        refine lv_aload_n C.1 C.2.1 dX9_stage_45 rfl (lv_at hl 0 rfl) ?_
        refine g_X9_1 C hH kk_0 tw_324 dX9_stage_46 ?_
        refine gN_X3_2 C hH kk_3 tw_180 dX9_stage_49 ?_
        cases hf
        exact x_iretX C hr hH ⟨Nat.le_of_ble_eq_true rfl, Nat.le_of_ble_eq_true rfl⟩ dX9_stage_52
      · have hf := (if_pos q4).symm.trans hf
        cases hf
        exact x_throwI (text := "no such stage, or no room for it") C hX hlt hH hl.1 (by decide +kernel) tw_377 tw_61 (by decide) ath_66_70 ato_66_70 dX9_stage_25 dX9_stage_28 dX9_stage_29 dX9_stage_31 dX9_stage_34 ⟨Nat.le_of_ble_eq_true rfl, Nat.le_of_ble_eq_true rfl, Nat.le_of_ble_eq_true rfl, Nat.le_of_ble_eq_true rfl⟩ ⟨Nat.le_of_ble_eq_true rfl, Nat.le_of_ble_eq_true rfl⟩
def f_X9_flags (I : Mem)  : Option ((Int32 ⊕ String) × Mem) := if (I 3 3) = 0 then (some ((Sum.inr "java/lang/IllegalStateException" : Int32 ⊕ String), I)) else ((f_X3_allFlags I).bind fun q1 => (some ((Sum.inl q1.1 : Int32 ⊕ String), q1.2)))
set_option maxHeartbeats 4000000 in
set_option maxRecDepth 100000 in
theorem c_X9_flags (l : Launch) (hlt : l.stackTraces = false) (G : Gx) (I : Mem) {o : Int32 ⊕ String} {J : Mem} (hf : f_X9_flags I = some (o, J)) : Xi l yX9_flags (.code yX9_flags cX9_flags 1 (some .int)) 6 90 1 6 G I [.ref (G.2.1 0)] o J := by
  refine Xi.of (by decide +kernel) (Nat.le_of_ble_eq_true rfl) (fun p e s m below meth c ls C hX hr hH hl => ?_)
  have C : CX p l s m _ meth c cX9_flags 1 RX9 G := C
  have hl : lv_has ls 1 [(0, .ref (G.2.1 0))] := hl
  have hf : (if (I 3 3) = 0 then (some ((Sum.inr "java/lang/IllegalStateException" : Int32 ⊕ String), I)) else ((f_X3_allFlags I).bind fun q1 => (some ((Sum.inl q1.1 : Int32 ⊕ String), q1.2)))) = _ := hf
  refine lv_aload_n C.1 C.2.1 dX9_flags_0 rfl (lv_at hl 0 rfl) ?_
  refine g_X9_1 C hH kk_0 tw_324 dX9_flags_1 ?_
  refine gN_X3_3 C hH kk_3 tw_182 dX9_flags_4 ?_
  refine lv_if_ne (tgt := 20) C.1 C.2.1 dX9_flags_7 (by decide) (fun q2 => ?_) (fun q2 => ?_)
  · have hf := (if_neg q2).symm.trans hf
    refine lv_aload_n C.1 C.2.1 dX9_flags_20 rfl (lv_at hl 0 rfl) ?_
    refine g_X9_1 C hH kk_0 tw_324 dX9_flags_21 ?_
    obtain ⟨q1, hc, hf⟩ := Option.bind_eq_some_iff.mp hf
    refine x_ci (n := 0) C hH (c_X3_allFlags l G I  hc) (kd_lt kk_3 (by decide)) (cE_3 kk_3) rfl tw_530 tw_527 tw_528 tw_529 tw_49 (by decide +kernel) ⟨Nat.le_of_ble_eq_true rfl, Nat.le_of_ble_eq_true rfl⟩ rfl hl.1 rfl (Nat.le_of_ble_eq_true rfl) ⟨Nat.le_of_ble_eq_true rfl, Nat.le_of_ble_eq_true rfl⟩ dX9_flags_24 (fun H locs hH => ?_)
    cases hf
    exact x_iretX C hr hH ⟨Nat.le_of_ble_eq_true rfl, Nat.le_of_ble_eq_true rfl⟩ dX9_flags_27
  · have hf := (if_pos q2).symm.trans hf
    cases hf
    exact x_throwI (text := "there is no line") C hX hlt hH hl.1 (by decide +kernel) tw_487 tw_63 (by decide) ath_120_124 ato_120_124 dX9_flags_10 dX9_flags_13 dX9_flags_14 dX9_flags_16 dX9_flags_19 ⟨Nat.le_of_ble_eq_true rfl, Nat.le_of_ble_eq_true rfl, Nat.le_of_ble_eq_true rfl, Nat.le_of_ble_eq_true rfl⟩ ⟨Nat.le_of_ble_eq_true rfl, Nat.le_of_ble_eq_true rfl⟩
def f_X9_pool (I : Mem) (p0 : Int32) (p1 : Int32) (p2 : Int32) : Option ((Option String) × Mem) := (f_X9_within I p0 (1 : Int32) (20 : Int32)).bind fun q1 => (if (b2i q1.1) = 0 then (some ((some "java/lang/IllegalArgumentException" : Option String), q1.2)) else ((f_X9_within q1.2 p1 (1 : Int32) (4 : Int32)).bind fun q2 => (if (b2i q2.1) = 0 then (some ((some "java/lang/IllegalArgumentException" : Option String), q2.2)) else ((f_X0_become q2.2 p0 p1 p2).bind fun q3 => (some ((none : Option String), q3))))))
set_option maxHeartbeats 4000000 in
set_option maxRecDepth 100000 in
theorem c_X9_pool (l : Launch) (hlt : l.stackTraces = false) (G : Gx) (I : Mem) (p0 : Int32) (p1 : Int32) (p2 : Int32) {o : Option String} {J : Mem} (hf : f_X9_pool I p0 p1 p2 = some (o, J)) : Xv l yX9_pool (.code yX9_pool cX9_pool 4 none) 6 90 1 6 G I [.ref (G.2.1 0), .int p0, .int p1, .int p2] o J := by
  refine Xv.of (by decide +kernel) (Nat.le_of_ble_eq_true rfl) (fun p e s m below meth c ls C hX hr hH hl => ?_)
  have C : CX p l s m _ meth c cX9_pool 4 RX9 G := C
  have hl : lv_has ls 4 [(0, .ref (G.2.1 0)), (1, .int p0), (2, .int p1), (3, .int p2)] := hl
  have hf : ((f_X9_within I p0 (1 : Int32) (20 : Int32)).bind fun q1 => (if (b2i q1.1) = 0 then (some ((some "java/lang/IllegalArgumentException" : Option String), q1.2)) else ((f_X9_within q1.2 p1 (1 : Int32) (4 : Int32)).bind fun q2 => (if (b2i q2.1) = 0 then (some ((some "java/lang/IllegalArgumentException" : Option String), q2.2)) else ((f_X0_become q2.2 p0 p1 p2).bind fun q3 => (some ((none : Option String), q3))))))) = _ := hf
  refine lv_iload_n C.1 C.2.1 dX9_pool_0 rfl (lv_at hl 1 rfl) ?_
  refine lv_iconst (v := (1 : Int32)) C.1 C.2.1 dX9_pool_1 (by decide) ?_
  refine lv_bipush (v := (20 : Int32)) C.1 C.2.1 dX9_pool_2 (by decide) ?_
  obtain ⟨q1, hc, hf⟩ := Option.bind_eq_some_iff.mp hf
  refine x_si (n := 3) C hH (c_X9_within l G I p0 (1 : Int32) (20 : Int32) hc) tw_364 tw_362 tw_363 tw_47 (by decide +kernel) ⟨Nat.le_of_ble_eq_true rfl, Nat.le_of_ble_eq_true rfl⟩ rfl hl.1 rfl (Nat.le_of_ble_eq_true rfl) ⟨Nat.le_of_ble_eq_true rfl, Nat.le_of_ble_eq_true rfl⟩ dX9_pool_4 (fun H locs hH => ?_)
  refine lv_if_eq (tgt := 19) C.1 C.2.1 dX9_pool_7 (by decide) (fun q5 => ?_) (fun q5 => ?_)
  · have hf := (if_pos q5).symm.trans hf
    cases hf
    exact x_throwV (text := "no such pool") C hX hlt hH hl.1 (by decide +kernel) tw_377 tw_61 (by decide) ath_66_70 ato_66_70 dX9_pool_19 dX9_pool_22 dX9_pool_23 dX9_pool_25 dX9_pool_28 ⟨Nat.le_of_ble_eq_true rfl, Nat.le_of_ble_eq_true rfl, Nat.le_of_ble_eq_true rfl, Nat.le_of_ble_eq_true rfl⟩ ⟨Nat.le_of_ble_eq_true rfl, Nat.le_of_ble_eq_true rfl⟩
  · have hf := (if_neg q5).symm.trans hf
    refine lv_iload_n C.1 C.2.1 dX9_pool_10 rfl (lv_at hl 2 rfl) ?_
    refine lv_iconst (v := (1 : Int32)) C.1 C.2.1 dX9_pool_11 (by decide) ?_
    refine lv_iconst (v := (4 : Int32)) C.1 C.2.1 dX9_pool_12 (by decide) ?_
    obtain ⟨q2, hc, hf⟩ := Option.bind_eq_some_iff.mp hf
    refine x_si (n := 3) C hH (c_X9_within l G q1.2 p1 (1 : Int32) (4 : Int32) hc) tw_364 tw_362 tw_363 tw_47 (by decide +kernel) ⟨Nat.le_of_ble_eq_true rfl, Nat.le_of_ble_eq_true rfl⟩ rfl hl.1 rfl (Nat.le_of_ble_eq_true rfl) ⟨Nat.le_of_ble_eq_true rfl, Nat.le_of_ble_eq_true rfl⟩ dX9_pool_13 (fun H locs hH => ?_)
    refine lv_if_ne (tgt := 29) C.1 C.2.1 dX9_pool_16 (by decide) (fun q4 => ?_) (fun q4 => ?_)
    · have hf := (if_neg q4).symm.trans hf
      refine lv_aload_n C.1 C.2.1 dX9_pool_29 rfl (lv_at hl 0 rfl) ?_
      refine g_X9_5 C hH kk_0 tw_328 dX9_pool_30 ?_
      refine lv_iload_n C.1 C.2.1 dX9_pool_33 rfl (lv_at hl 1 rfl) ?_
      refine lv_iload_n C.1 C.2.1 dX9_pool_34 rfl (lv_at hl 2 rfl) ?_
      refine lv_iload_n C.1 C.2.1 dX9_pool_35 rfl (lv_at hl 3 rfl) ?_
      obtain ⟨q3, hc, hf⟩ := Option.bind_eq_some_iff.mp hf
      refine x_cv (n := 3) C hH (c_X0_become l G q2.2 p0 p1 p2 hc) (kd_lt kk_35 (by decide)) (cE_0 kk_35) rfl tw_726 tw_723 tw_724 tw_725 tw_55 (by decide +kernel) ⟨Nat.le_of_ble_eq_true rfl, Nat.le_of_ble_eq_true rfl⟩ rfl hl.1 rfl (Nat.le_of_ble_eq_true rfl) ⟨Nat.le_of_ble_eq_true rfl, Nat.le_of_ble_eq_true rfl⟩ dX9_pool_36 (fun H locs hH => ?_)
      cases hf
      exact x_vretX C hr hH ⟨Nat.le_of_ble_eq_true rfl, Nat.le_of_ble_eq_true rfl⟩ dX9_pool_39
    · have hf := (if_pos q4).symm.trans hf
      cases hf
      exact x_throwV (text := "no such pool") C hX hlt hH hl.1 (by decide +kernel) tw_377 tw_61 (by decide) ath_66_70 ato_66_70 dX9_pool_19 dX9_pool_22 dX9_pool_23 dX9_pool_25 dX9_pool_28 ⟨Nat.le_of_ble_eq_true rfl, Nat.le_of_ble_eq_true rfl, Nat.le_of_ble_eq_true rfl, Nat.le_of_ble_eq_true rfl⟩ ⟨Nat.le_of_ble_eq_true rfl, Nat.le_of_ble_eq_true rfl⟩
def f_X9_kept (I : Mem) (p0 : Int32) : Option ((Int32 ⊕ String) × Mem) := if p0 < 0 then (some ((Sum.inr "java/util/NoSuchElementException" : Int32 ⊕ String), I)) else (if kd ((I 24 1).toNatClampNeg) = 5 then (if p0 < (I ((I 24 1).toNatClampNeg) 1) then (if kd ((I 24 1).toNatClampNeg) = 5 then (if inb p0 (ln (((I 24 1).toNatClampNeg) + 1)) = true then (some ((Sum.inl (I (((I 24 1).toNatClampNeg) + 1) p0.toNatClampNeg) : Int32 ⊕ String), I)) else none) else none) else (some ((Sum.inr "java/util/NoSuchElementException" : Int32 ⊕ String), I))) else none)
set_option maxHeartbeats 4000000 in
set_option maxRecDepth 100000 in
theorem c_X9_kept (l : Launch) (hlt : l.stackTraces = false) (G : Gx) (I : Mem) (p0 : Int32) {o : Int32 ⊕ String} {J : Mem} (hf : f_X9_kept I p0 = some (o, J)) : Xi l yX9_kept (.code yX9_kept cX9_kept 2 (some .int)) 6 90 1 6 G I [.ref (G.2.1 0), .int p0] o J := by
  refine Xi.of (by decide +kernel) (Nat.le_of_ble_eq_true rfl) (fun p e s m below meth c ls C hX hr hH hl => ?_)
  have C : CX p l s m _ meth c cX9_kept 2 RX9 G := C
  have hl : lv_has ls 2 [(0, .ref (G.2.1 0)), (1, .int p0)] := hl
  have hf : (if p0 < 0 then (some ((Sum.inr "java/util/NoSuchElementException" : Int32 ⊕ String), I)) else (if kd ((I 24 1).toNatClampNeg) = 5 then (if p0 < (I ((I 24 1).toNatClampNeg) 1) then (if kd ((I 24 1).toNatClampNeg) = 5 then (if inb p0 (ln (((I 24 1).toNatClampNeg) + 1)) = true then (some ((Sum.inl (I (((I 24 1).toNatClampNeg) + 1) p0.toNatClampNeg) : Int32 ⊕ String), I)) else none) else none) else (some ((Sum.inr "java/util/NoSuchElementException" : Int32 ⊕ String), I))) else none)) = _ := hf
  refine lv_iload_n C.1 C.2.1 dX9_kept_0 rfl (lv_at hl 1 rfl) ?_
  refine lv_if_lt (tgt := 18) C.1 C.2.1 dX9_kept_1 (by decide) (fun q5 => ?_) (fun q5 => ?_)
  · have hf := (if_pos q5).symm.trans hf
    cases hf
    exact x_throwIN (text := "nothing is kept there") C hX hlt hH hl.1 tw_687 tw_66 (by decide) dX9_kept_18 dX9_kept_21 dX9_kept_22 dX9_kept_24 dX9_kept_27 ⟨Nat.le_of_ble_eq_true rfl, Nat.le_of_ble_eq_true rfl, Nat.le_of_ble_eq_true rfl, Nat.le_of_ble_eq_true rfl⟩ ⟨Nat.le_of_ble_eq_true rfl, Nat.le_of_ble_eq_true rfl⟩
  · have hf := (if_neg q5).symm.trans hf
    refine lv_iload_n C.1 C.2.1 dX9_kept_4 rfl (lv_at hl 1 rfl) ?_
    refine lv_aload_n C.1 C.2.1 dX9_kept_5 rfl (lv_at hl 0 rfl) ?_
    refine g_X9_2 C hH kk_0 tw_325 dX9_kept_6 ?_
    obtain ⟨q1, hf⟩ := itn hf
    refine gN_X1_1 C hH kk_24 tw_206 dX9_kept_9 ?_
    refine gN_X5_1 C hH q1 tw_88 dX9_kept_12 ?_
    refine lv_icmp_lt (tgt := 28) C.1 C.2.1 dX9_kept_15 (by decide) (fun q4 => ?_) (fun q4 => ?_)
    · have hf := (if_pos q4).symm.trans hf
      refine lv_aload_n C.1 C.2.1 dX9_kept_28 rfl (lv_at hl 0 rfl) ?_
      refine g_X9_2 C hH kk_0 tw_325 dX9_kept_29 ?_
      obtain ⟨q2, hf⟩ := itn hf
      refine gN_X1_1 C hH kk_24 tw_206 dX9_kept_32 ?_
      refine gN_X5_0 C hH q2 tw_86 dX9_kept_35 ?_
      refine lv_iload_n C.1 C.2.1 dX9_kept_38 rfl (lv_at hl 1 rfl) ?_
      obtain ⟨q3, hf⟩ := itn hf
      refine x_iald C hH (kd_items q2) q3 dX9_kept_39 ?_
      cases hf
      exact x_iretX C hr hH ⟨Nat.le_of_ble_eq_true rfl, Nat.le_of_ble_eq_true rfl⟩ dX9_kept_40
    · have hf := (if_neg q4).symm.trans hf
      cases hf
      exact x_throwIN (text := "nothing is kept there") C hX hlt hH hl.1 tw_687 tw_66 (by decide) dX9_kept_18 dX9_kept_21 dX9_kept_22 dX9_kept_24 dX9_kept_27 ⟨Nat.le_of_ble_eq_true rfl, Nat.le_of_ble_eq_true rfl, Nat.le_of_ble_eq_true rfl, Nat.le_of_ble_eq_true rfl⟩ ⟨Nat.le_of_ble_eq_true rfl, Nat.le_of_ble_eq_true rfl⟩
def f_X9_outcome (I : Mem) (p0 : Int32) : Option ((Int32 ⊕ String) × Mem) := if p0 = 0 then (some ((Sum.inr "java/lang/UnsupportedOperationException" : Int32 ⊕ String), I)) else ((f_X1_hasResult I).bind fun q1 => (if (b2i q1.1) = 0 then (some ((Sum.inr "java/util/NoSuchElementException" : Int32 ⊕ String), q1.2)) else ((f_X1_result q1.2).bind fun q2 => ((f_X1_keepGathered q2.2).bind fun q3 => (some ((Sum.inl q2.1 : Int32 ⊕ String), q3))))))
set_option maxHeartbeats 4000000 in
set_option maxRecDepth 100000 in
theorem c_X9_outcome (l : Launch) (hlt : l.stackTraces = false) (G : Gx) (I : Mem) (p0 : Int32) {o : Int32 ⊕ String} {J : Mem} (hf : f_X9_outcome I p0 = some (o, J)) : Xi l yX9_outcome (.code yX9_outcome cX9_outcome 3 (some .int)) 6 90 1 6 G I [.ref (G.2.1 0), .int p0] o J := by
  refine Xi.of (by decide +kernel) (Nat.le_of_ble_eq_true rfl) (fun p e s m below meth c ls C hX hr hH hl => ?_)
  have C : CX p l s m _ meth c cX9_outcome 3 RX9 G := C
  have hl : lv_has ls 3 [(0, .ref (G.2.1 0)), (1, .int p0)] := hl
  have hf : (if p0 = 0 then (some ((Sum.inr "java/lang/UnsupportedOperationException" : Int32 ⊕ String), I)) else ((f_X1_hasResult I).bind fun q1 => (if (b2i q1.1) = 0 then (some ((Sum.inr "java/util/NoSuchElementException" : Int32 ⊕ String), q1.2)) else ((f_X1_result q1.2).bind fun q2 => ((f_X1_keepGathered q2.2).bind fun q3 => (some ((Sum.inl q2.1 : Int32 ⊕ String), q3))))))) = _ := hf
  refine lv_iload_n C.1 C.2.1 dX9_outcome_0 rfl (lv_at hl 1 rfl) ?_
  refine lv_if_ne (tgt := 14) C.1 C.2.1 dX9_outcome_1 (by decide) (fun q5 => ?_) (fun q5 => ?_)
  · have hf := (if_neg q5).symm.trans hf
    refine lv_aload_n C.1 C.2.1 dX9_outcome_14 rfl (lv_at hl 0 rfl) ?_
    refine g_X9_2 C hH kk_0 tw_325 dX9_outcome_15 ?_
    obtain ⟨q1, hc, hf⟩ := Option.bind_eq_some_iff.mp hf
    refine x_ci (n := 0) C hH (c_X1_hasResult l G I  hc) (kd_lt kk_24 (by decide)) (cE_1 kk_24) rfl tw_686 tw_683 tw_684 tw_685 tw_52 (by decide +kernel) ⟨Nat.le_of_ble_eq_true rfl, Nat.le_of_ble_eq_true rfl⟩ rfl hl.1 rfl (Nat.le_of_ble_eq_true rfl) ⟨Nat.le_of_ble_eq_true rfl, Nat.le_of_ble_eq_true rfl⟩ dX9_outcome_18 (fun H locs hH => ?_)
    refine lv_if_ne (tgt := 34) C.1 C.2.1 dX9_outcome_21 (by decide) (fun q4 => ?_) (fun q4 => ?_)
    · have hf := (if_neg q4).symm.trans hf
      refine lv_aload_n C.1 C.2.1 dX9_outcome_34 rfl (lv_at hl 0 rfl) ?_
      refine g_X9_2 C hH kk_0 tw_325 dX9_outcome_35 ?_
      obtain ⟨q2, hc, hf⟩ := Option.bind_eq_some_iff.mp hf
      refine x_ci (n := 0) C hH (c_X1_result l G q1.2  hc) (kd_lt kk_24 (by decide)) (cE_1 kk_24) rfl tw_706 tw_703 tw_704 tw_705 tw_52 (by decide +kernel) ⟨Nat.le_of_ble_eq_true rfl, Nat.le_of_ble_eq_true rfl⟩ rfl hl.1 rfl (Nat.le_of_ble_eq_true rfl) ⟨Nat.le_of_ble_eq_true rfl, Nat.le_of_ble_eq_true rfl⟩ dX9_outcome_38 (fun H locs hH => ?_)
      refine lv_istore_n (lv' := [(2, .int q2.1), (0, .ref (G.2.1 0)), (1, .int p0)]) C.1 C.2.1 dX9_outcome_41 rfl hl (by decide) rfl (fun ls hl => ?_)
      refine lv_aload_n C.1 C.2.1 dX9_outcome_42 rfl (lv_at hl 1 rfl) ?_
      refine g_X9_2 C hH kk_0 tw_325 dX9_outcome_43 ?_
      obtain ⟨q3, hc, hf⟩ := Option.bind_eq_some_iff.mp hf
      refine x_cv (n := 0) C hH (c_X1_keepGathered l G q2.2  hc) (kd_lt kk_24 (by decide)) (cE_1 kk_24) rfl tw_714 tw_711 tw_712 tw_713 tw_52 (by decide +kernel) ⟨Nat.le_of_ble_eq_true rfl, Nat.le_of_ble_eq_true rfl⟩ rfl hl.1 rfl (Nat.le_of_ble_eq_true rfl) ⟨Nat.le_of_ble_eq_true rfl, Nat.le_of_ble_eq_true rfl⟩ dX9_outcome_46 (fun H locs hH => ?_)
      refine lv_iload_n C.1 C.2.1 dX9_outcome_49 rfl (lv_at hl 0 rfl) ?_
      cases hf
      exact x_iretX C hr hH ⟨Nat.le_of_ble_eq_true rfl, Nat.le_of_ble_eq_true rfl⟩ dX9_outcome_50
    · have hf := (if_pos q4).symm.trans hf
      cases hf
      exact x_throwIN (text := "nothing came to the end") C hX hlt hH hl.1 tw_687 tw_66 (by decide) dX9_outcome_24 dX9_outcome_27 dX9_outcome_28 dX9_outcome_30 dX9_outcome_33 ⟨Nat.le_of_ble_eq_true rfl, Nat.le_of_ble_eq_true rfl, Nat.le_of_ble_eq_true rfl, Nat.le_of_ble_eq_true rfl⟩ ⟨Nat.le_of_ble_eq_true rfl, Nat.le_of_ble_eq_true rfl⟩
  · have hf := (if_pos q5).symm.trans hf
    cases hf
    exact x_throwI (text := "spent") C hX hlt hH hl.1 (by decide +kernel) tw_667 tw_65 (by decide) ath_208_212 ato_208_212 dX9_outcome_4 dX9_outcome_7 dX9_outcome_8 dX9_outcome_10 dX9_outcome_13 ⟨Nat.le_of_ble_eq_true rfl, Nat.le_of_ble_eq_true rfl, Nat.le_of_ble_eq_true rfl, Nat.le_of_ble_eq_true rfl⟩ ⟨Nat.le_of_ble_eq_true rfl, Nat.le_of_ble_eq_true rfl⟩
def f_X9_run (I : Mem) (p0 : Int32) (p1 : Int32) (p2 : Int32) : Option ((Int32 ⊕ String) × Mem) := (f_X9_refuseWithoutOpenLine I).bind fun q1 => (thV q1.1 (fun E => some ((Sum.inr E : Int32 ⊕ String), q1.2)) ((f_X9_refuseUnlessEnd q1.2 p0 p1 p2).bind fun q2 => (thV q2.1 (fun E => some ((Sum.inr E : Int32 ⊕ String), q2.2)) ((f_X9_useLine q2.2 p0 p1 p2).bind fun q3 => ((f_X2_comesToEnd q3).bind fun q4 => ((f_X9_outcome q4.2 (b2i q4.1)).bind fun q5 => (thI q5.1 (fun E => some ((Sum.inr E : Int32 ⊕ String), q5.2)) (fun r6 => some ((Sum.inl r6 : Int32 ⊕ String), q5.2)))))))))
set_option maxHeartbeats 4000000 in
set_option maxRecDepth 100000 in
theorem c_X9_run (l : Launch) (hlt : l.stackTraces = false) (G : Gx) (I : Mem) (p0 : Int32) (p1 : Int32) (p2 : Int32) {o : Int32 ⊕ String} {J : Mem} (hf : f_X9_run I p0 p1 p2 = some (o, J)) : Xi l yX9_run (.code yX9_run cX9_run 4 (some .int)) 25 635 3 18 G I [.ref (G.2.1 0), .int p0, .int p1, .int p2] o J := by
  refine Xi.of (by decide +kernel) (Nat.le_of_ble_eq_true rfl) (fun p e s m below meth c ls C hX hr hH hl => ?_)
  have C : CX p l s m _ meth c cX9_run 4 RX9 G := C
  have hl : lv_has ls 4 [(0, .ref (G.2.1 0)), (1, .int p0), (2, .int p1), (3, .int p2)] := hl
  have hf : ((f_X9_refuseWithoutOpenLine I).bind fun q1 => (thV q1.1 (fun E => some ((Sum.inr E : Int32 ⊕ String), q1.2)) ((f_X9_refuseUnlessEnd q1.2 p0 p1 p2).bind fun q2 => (thV q2.1 (fun E => some ((Sum.inr E : Int32 ⊕ String), q2.2)) ((f_X9_useLine q2.2 p0 p1 p2).bind fun q3 => ((f_X2_comesToEnd q3).bind fun q4 => ((f_X9_outcome q4.2 (b2i q4.1)).bind fun q5 => (thI q5.1 (fun E => some ((Sum.inr E : Int32 ⊕ String), q5.2)) (fun r6 => some ((Sum.inl r6 : Int32 ⊕ String), q5.2)))))))))) = _ := hf
  refine lv_aload_n C.1 C.2.1 dX9_run_0 rfl (lv_at hl 0 rfl) ?_
  obtain ⟨q1, hc, hf⟩ := Option.bind_eq_some_iff.mp hf
  have hf : thV q1.1 (fun E => some ((Sum.inr E : Int32 ⊕ String), q1.2)) ((f_X9_refuseUnlessEnd q1.2 p0 p1 p2).bind fun q2 => (thV q2.1 (fun E => some ((Sum.inr E : Int32 ⊕ String), q2.2)) ((f_X9_useLine q2.2 p0 p1 p2).bind fun q3 => ((f_X2_comesToEnd q3).bind fun q4 => ((f_X9_outcome q4.2 (b2i q4.1)).bind fun q5 => (thI q5.1 (fun E => some ((Sum.inr E : Int32 ⊕ String), q5.2)) (fun r6 => some ((Sum.inl r6 : Int32 ⊕ String), q5.2)))))))) = _ := hf
  refine x_xcv (n := 0) C hH (c_X9_refuseWithoutOpenLine l hlt G I  hc) (kd_lt kk_0 (by decide)) (cE_9 kk_0) rfl tw_486 tw_483 tw_485 tw_2 tw_47 (by decide +kernel) ⟨Nat.le_of_ble_eq_true rfl, Nat.le_of_ble_eq_true rfl⟩ rfl hl.1 rfl (Nat.le_of_ble_eq_true rfl) ⟨Nat.le_of_ble_eq_true rfl, Nat.le_of_ble_eq_true rfl⟩ dX9_run_1 ?_ ?_
  · intro E H locs ce q9 ho hH h1 h2 h3
    rw [ho] at hf
    have hf : some ((Sum.inr E : Int32 ⊕ String), q1.2) = _ := hf
    cases hf
    exact x_outI C hX hH h1 h2 h3 ⟨Nat.le_of_ble_eq_true rfl, Nat.le_of_ble_eq_true rfl⟩
  · intro H locs ho hH
    rw [ho] at hf
    have hf : ((f_X9_refuseUnlessEnd q1.2 p0 p1 p2).bind fun q2 => (thV q2.1 (fun E => some ((Sum.inr E : Int32 ⊕ String), q2.2)) ((f_X9_useLine q2.2 p0 p1 p2).bind fun q3 => ((f_X2_comesToEnd q3).bind fun q4 => ((f_X9_outcome q4.2 (b2i q4.1)).bind fun q5 => (thI q5.1 (fun E => some ((Sum.inr E : Int32 ⊕ String), q5.2)) (fun r6 => some ((Sum.inl r6 : Int32 ⊕ String), q5.2)))))))) = _ := hf
    refine lv_aload_n C.1 C.2.1 dX9_run_4 rfl (lv_at hl 0 rfl) ?_
    refine lv_iload_n C.1 C.2.1 dX9_run_5 rfl (lv_at hl 1 rfl) ?_
    refine lv_iload_n C.1 C.2.1 dX9_run_6 rfl (lv_at hl 2 rfl) ?_
    refine lv_iload_n C.1 C.2.1 dX9_run_7 rfl (lv_at hl 3 rfl) ?_
    obtain ⟨q2, hc, hf⟩ := Option.bind_eq_some_iff.mp hf
    have hf : thV q2.1 (fun E => some ((Sum.inr E : Int32 ⊕ String), q2.2)) ((f_X9_useLine q2.2 p0 p1 p2).bind fun q3 => ((f_X2_comesToEnd q3).bind fun q4 => ((f_X9_outcome q4.2 (b2i q4.1)).bind fun q5 => (thI q5.1 (fun E => some ((Sum.inr E : Int32 ⊕ String), q5.2)) (fun r6 => some ((Sum.inl r6 : Int32 ⊕ String), q5.2)))))) = _ := hf
    refine x_xcv (n := 3) C hH (c_X9_refuseUnlessEnd l hlt G q1.2 p0 p1 p2 hc) (kd_lt kk_0 (by decide)) (cE_9 kk_0) rfl tw_551 tw_548 tw_550 tw_4 tw_47 (by decide +kernel) ⟨Nat.le_of_ble_eq_true rfl, Nat.le_of_ble_eq_true rfl⟩ rfl hl.1 rfl (Nat.le_of_ble_eq_true rfl) ⟨Nat.le_of_ble_eq_true rfl, Nat.le_of_ble_eq_true rfl⟩ dX9_run_8 ?_ ?_
    · intro E H locs ce q9 ho hH h1 h2 h3
      rw [ho] at hf
      have hf : some ((Sum.inr E : Int32 ⊕ String), q2.2) = _ := hf
      cases hf
      exact x_outI C hX hH h1 h2 h3 ⟨Nat.le_of_ble_eq_true rfl, Nat.le_of_ble_eq_true rfl⟩
    · intro H locs ho hH
      rw [ho] at hf
      have hf : ((f_X9_useLine q2.2 p0 p1 p2).bind fun q3 => ((f_X2_comesToEnd q3).bind fun q4 => ((f_X9_outcome q4.2 (b2i q4.1)).bind fun q5 => (thI q5.1 (fun E => some ((Sum.inr E : Int32 ⊕ String), q5.2)) (fun r6 => some ((Sum.inl r6 : Int32 ⊕ String), q5.2)))))) = _ := hf
      refine lv_aload_n C.1 C.2.1 dX9_run_11 rfl (lv_at hl 0 rfl) ?_
      refine lv_iload_n C.1 C.2.1 dX9_run_12 rfl (lv_at hl 1 rfl) ?_
      refine lv_iload_n C.1 C.2.1 dX9_run_13 rfl (lv_at hl 2 rfl) ?_
      refine lv_iload_n C.1 C.2.1 dX9_run_14 rfl (lv_at hl 3 rfl) ?_
      obtain ⟨q3, hc, hf⟩ := Option.bind_eq_some_iff.mp hf
      refine x_cv (n := 3) C hH (c_X9_useLine l G q2.2 p0 p1 p2 hc) (kd_lt kk_0 (by decide)) (cE_9 kk_0) rfl tw_559 tw_556 tw_558 tw_5 tw_47 (by decide +kernel) ⟨Nat.le_of_ble_eq_true rfl, Nat.le_of_ble_eq_true rfl⟩ rfl hl.1 rfl (Nat.le_of_ble_eq_true rfl) ⟨Nat.le_of_ble_eq_true rfl, Nat.le_of_ble_eq_true rfl⟩ dX9_run_15 (fun H locs hH => ?_)
      refine lv_aload_n C.1 C.2.1 dX9_run_18 rfl (lv_at hl 0 rfl) ?_
      refine lv_aload_n C.1 C.2.1 dX9_run_19 rfl (lv_at hl 0 rfl) ?_
      refine g_X9_3 C hH kk_0 tw_326 dX9_run_20 ?_
      obtain ⟨q4, hc, hf⟩ := Option.bind_eq_some_iff.mp hf
      refine x_ci (n := 0) C hH (c_X2_comesToEnd l G q3  hc) (kd_lt kk_29 (by decide)) (cE_2 kk_29) rfl tw_569 tw_566 tw_567 tw_568 tw_53 (by decide +kernel) ⟨Nat.le_of_ble_eq_true rfl, Nat.le_of_ble_eq_true rfl⟩ rfl hl.1 rfl (Nat.le_of_ble_eq_true rfl) ⟨Nat.le_of_ble_eq_true rfl, Nat.le_of_ble_eq_true rfl⟩ dX9_run_23 (fun H locs hH => ?_)
      obtain ⟨q5, hc, hf⟩ := Option.bind_eq_some_iff.mp hf
      have hf : thI q5.1 (fun E => some ((Sum.inr E : Int32 ⊕ String), q5.2)) (fun r6 => some ((Sum.inl r6 : Int32 ⊕ String), q5.2)) = _ := hf
      refine x_xci (n := 1) C hH (c_X9_outcome l hlt G q4.2 (b2i q4.1) hc) (kd_lt kk_0 (by decide)) (cE_9 kk_0) rfl tw_666 tw_663 tw_665 tw_16 tw_47 (by decide +kernel) ⟨Nat.le_of_ble_eq_true rfl, Nat.le_of_ble_eq_true rfl⟩ rfl hl.1 rfl (Nat.le_of_ble_eq_true rfl) ⟨Nat.le_of_ble_eq_true rfl, Nat.le_of_ble_eq_true rfl⟩ dX9_run_26 ?_ ?_
      · intro E H locs ce q9 ho hH h1 h2 h3
        rw [ho] at hf
        have hf : some ((Sum.inr E : Int32 ⊕ String), q5.2) = _ := hf
        cases hf
        exact x_outI C hX hH h1 h2 h3 ⟨Nat.le_of_ble_eq_true rfl, Nat.le_of_ble_eq_true rfl⟩
      · intro r6 H locs ho hH
        rw [ho] at hf
        have hf : (some ((Sum.inl r6 : Int32 ⊕ String), q5.2)) = _ := hf
        cases hf
        exact x_iretX C hr hH ⟨Nat.le_of_ble_eq_true rfl, Nat.le_of_ble_eq_true rfl⟩ dX9_run_29
def f_X9_parts (I : Mem) (p0 : Int32) (p1 : Int32) (p2 : Int32) : Option ((Int32 ⊕ String) × Mem) := (f_X9_refuseWithoutOpenLine I).bind fun q1 => (thV q1.1 (fun E => some ((Sum.inr E : Int32 ⊕ String), q1.2)) ((f_X9_refuseUnlessEnd q1.2 p0 p1 p2).bind fun q2 => (thV q2.1 (fun E => some ((Sum.inr E : Int32 ⊕ String), q2.2)) (if (q2.2 4 1) = (2 : Int32) then (some ((Sum.inr "java/lang/IllegalArgumentException" : Int32 ⊕ String), q2.2)) else ((f_X9_useLine q2.2 p0 p1 p2).bind fun q3 => ((f_X6_size q3).bind fun q4 => ((f_X0_workThrough q4.2 q4.1).bind fun q5 => ((f_X4_comesToEnd q5).bind fun q6 => ((f_X9_outcome q6.2 (b2i q6.1)).bind fun q7 => (thI q7.1 (fun E => some ((Sum.inr E : Int32 ⊕ String), q7.2)) (fun r8 => some ((Sum.inl r8 : Int32 ⊕ String), q7.2))))))))))))
set_option maxHeartbeats 4000000 in
set_option maxRecDepth 100000 in
theorem c_X9_parts (l : Launch) (hlt : l.stackTraces = false) (G : Gx) (I : Mem) (p0 : Int32) (p1 : Int32) (p2 : Int32) {o : Int32 ⊕ String} {J : Mem} (hf : f_X9_parts I p0 p1 p2 = some (o, J)) : Xi l yX9_parts (.code yX9_parts cX9_parts 4 (some .int)) 7 169 3 18 G I [.ref (G.2.1 0), .int p0, .int p1, .int p2] o J := by
  refine Xi.of (by decide +kernel) (Nat.le_of_ble_eq_true rfl) (fun p e s m below meth c ls C hX hr hH hl => ?_)
  have C : CX p l s m _ meth c cX9_parts 4 RX9 G := C
  have hl : lv_has ls 4 [(0, .ref (G.2.1 0)), (1, .int p0), (2, .int p1), (3, .int p2)] := hl
  have hf : ((f_X9_refuseWithoutOpenLine I).bind fun q1 => (thV q1.1 (fun E => some ((Sum.inr E : Int32 ⊕ String), q1.2)) ((f_X9_refuseUnlessEnd q1.2 p0 p1 p2).bind fun q2 => (thV q2.1 (fun E => some ((Sum.inr E : Int32 ⊕ String), q2.2)) (if (q2.2 4 1) = (2 : Int32) then (some ((Sum.inr "java/lang/IllegalArgumentException" : Int32 ⊕ String), q2.2)) else ((f_X9_useLine q2.2 p0 p1 p2).bind fun q3 => ((f_X6_size q3).bind fun q4 => ((f_X0_workThrough q4.2 q4.1).bind fun q5 => ((f_X4_comesToEnd q5).bind fun q6 => ((f_X9_outcome q6.2 (b2i q6.1)).bind fun q7 => (thI q7.1 (fun E => some ((Sum.inr E : Int32 ⊕ String), q7.2)) (fun r8 => some ((Sum.inl r8 : Int32 ⊕ String), q7.2))))))))))))) = _ := hf
  refine lv_aload_n C.1 C.2.1 dX9_parts_0 rfl (lv_at hl 0 rfl) ?_
  obtain ⟨q1, hc, hf⟩ := Option.bind_eq_some_iff.mp hf
  have hf : thV q1.1 (fun E => some ((Sum.inr E : Int32 ⊕ String), q1.2)) ((f_X9_refuseUnlessEnd q1.2 p0 p1 p2).bind fun q2 => (thV q2.1 (fun E => some ((Sum.inr E : Int32 ⊕ String), q2.2)) (if (q2.2 4 1) = (2 : Int32) then (some ((Sum.inr "java/lang/IllegalArgumentException" : Int32 ⊕ String), q2.2)) else ((f_X9_useLine q2.2 p0 p1 p2).bind fun q3 => ((f_X6_size q3).bind fun q4 => ((f_X0_workThrough q4.2 q4.1).bind fun q5 => ((f_X4_comesToEnd q5).bind fun q6 => ((f_X9_outcome q6.2 (b2i q6.1)).bind fun q7 => (thI q7.1 (fun E => some ((Sum.inr E : Int32 ⊕ String), q7.2)) (fun r8 => some ((Sum.inl r8 : Int32 ⊕ String), q7.2))))))))))) = _ := hf
  refine x_xcv (n := 0) C hH (c_X9_refuseWithoutOpenLine l hlt G I  hc) (kd_lt kk_0 (by decide)) (cE_9 kk_0) rfl tw_486 tw_483 tw_485 tw_2 tw_47 (by decide +kernel) ⟨Nat.le_of_ble_eq_true rfl, Nat.le_of_ble_eq_true rfl⟩ rfl hl.1 rfl (Nat.le_of_ble_eq_true rfl) ⟨Nat.le_of_ble_eq_true rfl, Nat.le_of_ble_eq_true rfl⟩ dX9_parts_1 ?_ ?_
  · intro E H locs ce q9 ho hH h1 h2 h3
    rw [ho] at hf
    have hf : some ((Sum.inr E : Int32 ⊕ String), q1.2) = _ := hf
    cases hf
    exact x_outI C hX hH h1 h2 h3 ⟨Nat.le_of_ble_eq_true rfl, Nat.le_of_ble_eq_true rfl⟩
  · intro H locs ho hH
    rw [ho] at hf
    have hf : ((f_X9_refuseUnlessEnd q1.2 p0 p1 p2).bind fun q2 => (thV q2.1 (fun E => some ((Sum.inr E : Int32 ⊕ String), q2.2)) (if (q2.2 4 1) = (2 : Int32) then (some ((Sum.inr "java/lang/IllegalArgumentException" : Int32 ⊕ String), q2.2)) else ((f_X9_useLine q2.2 p0 p1 p2).bind fun q3 => ((f_X6_size q3).bind fun q4 => ((f_X0_workThrough q4.2 q4.1).bind fun q5 => ((f_X4_comesToEnd q5).bind fun q6 => ((f_X9_outcome q6.2 (b2i q6.1)).bind fun q7 => (thI q7.1 (fun E => some ((Sum.inr E : Int32 ⊕ String), q7.2)) (fun r8 => some ((Sum.inl r8 : Int32 ⊕ String), q7.2))))))))))) = _ := hf
    refine lv_aload_n C.1 C.2.1 dX9_parts_4 rfl (lv_at hl 0 rfl) ?_
    refine lv_iload_n C.1 C.2.1 dX9_parts_5 rfl (lv_at hl 1 rfl) ?_
    refine lv_iload_n C.1 C.2.1 dX9_parts_6 rfl (lv_at hl 2 rfl) ?_
    refine lv_iload_n C.1 C.2.1 dX9_parts_7 rfl (lv_at hl 3 rfl) ?_
    obtain ⟨q2, hc, hf⟩ := Option.bind_eq_some_iff.mp hf
    have hf : thV q2.1 (fun E => some ((Sum.inr E : Int32 ⊕ String), q2.2)) (if (q2.2 4 1) = (2 : Int32) then (some ((Sum.inr "java/lang/IllegalArgumentException" : Int32 ⊕ String), q2.2)) else ((f_X9_useLine q2.2 p0 p1 p2).bind fun q3 => ((f_X6_size q3).bind fun q4 => ((f_X0_workThrough q4.2 q4.1).bind fun q5 => ((f_X4_comesToEnd q5).bind fun q6 => ((f_X9_outcome q6.2 (b2i q6.1)).bind fun q7 => (thI q7.1 (fun E => some ((Sum.inr E : Int32 ⊕ String), q7.2)) (fun r8 => some ((Sum.inl r8 : Int32 ⊕ String), q7.2))))))))) = _ := hf
    refine x_xcv (n := 3) C hH (c_X9_refuseUnlessEnd l hlt G q1.2 p0 p1 p2 hc) (kd_lt kk_0 (by decide)) (cE_9 kk_0) rfl tw_551 tw_548 tw_550 tw_4 tw_47 (by decide +kernel) ⟨Nat.le_of_ble_eq_true rfl, Nat.le_of_ble_eq_true rfl⟩ rfl hl.1 rfl (Nat.le_of_ble_eq_true rfl) ⟨Nat.le_of_ble_eq_true rfl, Nat.le_of_ble_eq_true rfl⟩ dX9_parts_8 ?_ ?_
    · intro E H locs ce q9 ho hH h1 h2 h3
      rw [ho] at hf
      have hf : some ((Sum.inr E : Int32 ⊕ String), q2.2) = _ := hf
      cases hf
      exact x_outI C hX hH h1 h2 h3 ⟨Nat.le_of_ble_eq_true rfl, Nat.le_of_ble_eq_true rfl⟩
    · intro H locs ho hH
      rw [ho] at hf
      have hf : (if (q2.2 4 1) = (2 : Int32) then (some ((Sum.inr "java/lang/IllegalArgumentException" : Int32 ⊕ String), q2.2)) else ((f_X9_useLine q2.2 p0 p1 p2).bind fun q3 => ((f_X6_size q3).bind fun q4 => ((f_X0_workThrough q4.2 q4.1).bind fun q5 => ((f_X4_comesToEnd q5).bind fun q6 => ((f_X9_outcome q6.2 (b2i q6.1)).bind fun q7 => (thI q7.1 (fun E => some ((Sum.inr E : Int32 ⊕ String), q7.2)) (fun r8 => some ((Sum.inl r8 : Int32 ⊕ String), q7.2))))))))) = _ := hf
      refine lv_aload_n C.1 C.2.1 dX9_parts_11 rfl (lv_at hl 0 rfl) ?_
      refine g_X9_1 C hH kk_0 tw_324 dX9_parts_12 ?_
      refine gN_X3_0 C hH kk_3 tw_172 dX9_parts_15 ?_
      refine gN_X6_1 C hH kk_4 tw_110 dX9_parts_18 ?_
      refine lv_iconst (v := (2 : Int32)) C.1 C.2.1 dX9_parts_21 (by decide) ?_
      refine lv_icmp_ne (tgt := 35) C.1 C.2.1 dX9_parts_22 (by decide) (fun q9 => ?_) (fun q9 => ?_)
      · have hf := (if_neg q9).symm.trans hf
        refine lv_aload_n C.1 C.2.1 dX9_parts_35 rfl (lv_at hl 0 rfl) ?_
        refine lv_iload_n C.1 C.2.1 dX9_parts_36 rfl (lv_at hl 1 rfl) ?_
        refine lv_iload_n C.1 C.2.1 dX9_parts_37 rfl (lv_at hl 2 rfl) ?_
        refine lv_iload_n C.1 C.2.1 dX9_parts_38 rfl (lv_at hl 3 rfl) ?_
        obtain ⟨q3, hc, hf⟩ := Option.bind_eq_some_iff.mp hf
        refine x_cv (n := 3) C hH (c_X9_useLine l G q2.2 p0 p1 p2 hc) (kd_lt kk_0 (by decide)) (cE_9 kk_0) rfl tw_559 tw_556 tw_558 tw_5 tw_47 (by decide +kernel) ⟨Nat.le_of_ble_eq_true rfl, Nat.le_of_ble_eq_true rfl⟩ rfl hl.1 rfl (Nat.le_of_ble_eq_true rfl) ⟨Nat.le_of_ble_eq_true rfl, Nat.le_of_ble_eq_true rfl⟩ dX9_parts_39 (fun H locs hH => ?_)
        refine lv_aload_n C.1 C.2.1 dX9_parts_42 rfl (lv_at hl 0 rfl) ?_
        refine g_X9_5 C hH kk_0 tw_328 dX9_parts_43 ?_
        refine lv_aload_n C.1 C.2.1 dX9_parts_46 rfl (lv_at hl 0 rfl) ?_
        refine g_X9_1 C hH kk_0 tw_324 dX9_parts_47 ?_
        refine gN_X3_0 C hH kk_3 tw_172 dX9_parts_50 ?_
        obtain ⟨q4, hc, hf⟩ := Option.bind_eq_some_iff.mp hf
        refine x_ci (n := 0) C hH (c_X6_size l G q3  hc) (kd_lt kk_4 (by decide)) (cE_6 kk_4) rfl tw_581 tw_735 tw_579 tw_580 tw_50 (by decide +kernel) ⟨Nat.le_of_ble_eq_true rfl, Nat.le_of_ble_eq_true rfl⟩ rfl hl.1 rfl (Nat.le_of_ble_eq_true rfl) ⟨Nat.le_of_ble_eq_true rfl, Nat.le_of_ble_eq_true rfl⟩ dX9_parts_53 (fun H locs hH => ?_)
        obtain ⟨q5, hc, hf⟩ := Option.bind_eq_some_iff.mp hf
        refine x_cv (n := 1) C hH (c_X0_workThrough l G q4.2 q4.1 hc) (kd_lt kk_35 (by decide)) (cE_0 kk_35) rfl tw_739 tw_736 tw_737 tw_738 tw_55 (by decide +kernel) ⟨Nat.le_of_ble_eq_true rfl, Nat.le_of_ble_eq_true rfl⟩ rfl hl.1 rfl (Nat.le_of_ble_eq_true rfl) ⟨Nat.le_of_ble_eq_true rfl, Nat.le_of_ble_eq_true rfl⟩ dX9_parts_56 (fun H locs hH => ?_)
        refine lv_aload_n C.1 C.2.1 dX9_parts_59 rfl (lv_at hl 0 rfl) ?_
        refine lv_aload_n C.1 C.2.1 dX9_parts_60 rfl (lv_at hl 0 rfl) ?_
        refine g_X9_4 C hH kk_0 tw_327 dX9_parts_61 ?_
        obtain ⟨q6, hc, hf⟩ := Option.bind_eq_some_iff.mp hf
        refine x_ci (n := 0) C hH (c_X4_comesToEnd l G q5  hc) (kd_lt kk_30 (by decide)) (cE_4 kk_30) rfl tw_773 tw_770 tw_771 tw_772 tw_54 (by decide +kernel) ⟨Nat.le_of_ble_eq_true rfl, Nat.le_of_ble_eq_true rfl⟩ rfl hl.1 rfl (Nat.le_of_ble_eq_true rfl) ⟨Nat.le_of_ble_eq_true rfl, Nat.le_of_ble_eq_true rfl⟩ dX9_parts_64 (fun H locs hH => ?_)
        obtain ⟨q7, hc, hf⟩ := Option.bind_eq_some_iff.mp hf
        have hf : thI q7.1 (fun E => some ((Sum.inr E : Int32 ⊕ String), q7.2)) (fun r8 => some ((Sum.inl r8 : Int32 ⊕ String), q7.2)) = _ := hf
        refine x_xci (n := 1) C hH (c_X9_outcome l hlt G q6.2 (b2i q6.1) hc) (kd_lt kk_0 (by decide)) (cE_9 kk_0) rfl tw_666 tw_663 tw_665 tw_16 tw_47 (by decide +kernel) ⟨Nat.le_of_ble_eq_true rfl, Nat.le_of_ble_eq_true rfl⟩ rfl hl.1 rfl (Nat.le_of_ble_eq_true rfl) ⟨Nat.le_of_ble_eq_true rfl, Nat.le_of_ble_eq_true rfl⟩ dX9_parts_67 ?_ ?_
        · intro E H locs ce q9 ho hH h1 h2 h3
          rw [ho] at hf
          have hf : some ((Sum.inr E : Int32 ⊕ String), q7.2) = _ := hf
          cases hf
          exact x_outI C hX hH h1 h2 h3 ⟨Nat.le_of_ble_eq_true rfl, Nat.le_of_ble_eq_true rfl⟩
        · intro r8 H locs ho hH
          rw [ho] at hf
          have hf : (some ((Sum.inl r8 : Int32 ⊕ String), q7.2)) = _ := hf
          cases hf
          exact x_iretX C hr hH ⟨Nat.le_of_ble_eq_true rfl, Nat.le_of_ble_eq_true rfl⟩ dX9_parts_70
      · have hf := (if_pos q9).symm.trans hf
        cases hf
        exact x_throwI (text := "an endless source has no parts") C hX hlt hH hl.1 (by decide +kernel) tw_377 tw_61 (by decide) ath_66_70 ato_66_70 dX9_parts_25 dX9_parts_28 dX9_parts_29 dX9_parts_31 dX9_parts_34 ⟨Nat.le_of_ble_eq_true rfl, Nat.le_of_ble_eq_true rfl, Nat.le_of_ble_eq_true rfl, Nat.le_of_ble_eq_true rfl⟩ ⟨Nat.le_of_ble_eq_true rfl, Nat.le_of_ble_eq_true rfl⟩
