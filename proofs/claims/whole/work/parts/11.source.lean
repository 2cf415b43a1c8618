def f_X6_become (I : Mem) (p0 : Int32) (p1 : Int32) (p2 : Int32) (p3 : Int32) : Option Mem := some (st (st (st (st (st I 4 1 p0) 4 2 p2) 4 3 p3) 4 4 (0 : Int32)) 4 5 p1)
set_option maxHeartbeats 4000000 in
set_option maxRecDepth 100000 in
theorem c_X6_become (l : Launch) (G : Gx) (I : Mem) (p0 : Int32) (p1 : Int32) (p2 : Int32) (p3 : Int32) {J : Mem} (hf : f_X6_become I p0 p1 p2 p3 = some J) : Mv l yX6_become (.code yX6_become cX6_become 5 none) 0 0 G I [.ref (G.2.1 4), .int p0, .int p1, .int p2, .int p3] J := by
  refine Mv.of (by decide +kernel) (Nat.le_of_ble_eq_true rfl) (fun p e s m below meth c ls C hr hH hl => ?_)
  have hl : lv_has ls 5 [(0, .ref (G.2.1 4)), (1, .int p0), (2, .int p1), (3, .int p2), (4, .int p3)] := hl
  have hf : (some (st (st (st (st (st I 4 1 p0) 4 2 p2) 4 3 p3) 4 4 (0 : Int32)) 4 5 p1)) = _ := hf
  refine lv_aload_n C.1 C.2.1 dX6_become_0 rfl (lv_at hl 0 rfl) ?_
  refine lv_iload_n C.1 C.2.1 dX6_become_1 rfl (lv_at hl 1 rfl) ?_
  refine p_X6_1 C hH kk_4  tw_108 dX6_become_2 (fun H locs hH => ?_)
  refine lv_aload_n C.1 C.2.1 dX6_become_5 rfl (lv_at hl 0 rfl) ?_
  refine lv_iload_n C.1 C.2.1 dX6_become_6 rfl (lv_at hl 3 rfl) ?_
  refine p_X6_2 C hH kk_4  tw_111 dX6_become_7 (fun H locs hH => ?_)
  refine lv_aload_n C.1 C.2.1 dX6_become_10 rfl (lv_at hl 0 rfl) ?_
  refine lv_iload C.1 C.2.1 dX6_become_11 (lv_at hl 4 rfl) ?_
  refine p_X6_3 C hH kk_4  tw_112 dX6_become_13 (fun H locs hH => ?_)
  refine lv_aload_n C.1 C.2.1 dX6_become_16 rfl (lv_at hl 0 rfl) ?_
  refine lv_iconst (v := (0 : Int32)) C.1 C.2.1 dX6_become_17 (by decide) ?_
  refine p_X6_4 C hH kk_4  tw_113 dX6_become_18 (fun H locs hH => ?_)
  refine lv_aload_n C.1 C.2.1 dX6_become_21 rfl (lv_at hl 0 rfl) ?_
  refine lv_iload_n C.1 C.2.1 dX6_become_22 rfl (lv_at hl 2 rfl) ?_
  refine p_X6_5 C hH kk_4  tw_114 dX6_become_23 (fun H locs hH => ?_)
  cases hf
  exact x_vret C hr hH dX6_become_26
def f_X6_size (I : Mem)  : Option (Int32 × Mem) := if (I 4 1) = 0 then (some ((I 1 1), I)) else (some ((I 4 2), I))
set_option maxHeartbeats 4000000 in
set_option maxRecDepth 100000 in
theorem c_X6_size (l : Launch) (G : Gx) (I : Mem) {res : Int32} {J : Mem} (hf : f_X6_size I = some (res, J)) : Mi l yX6_size (.code yX6_size cX6_size 1 (some .int)) 0 0 G I [.ref (G.2.1 4)] res J := by
  refine Mi.of (by decide +kernel) (Nat.le_of_ble_eq_true rfl) (fun p e s m below meth c ls C hr hH hl => ?_)
  have hl : lv_has ls 1 [(0, .ref (G.2.1 4))] := hl
  have hf : (if (I 4 1) = 0 then (some ((I 1 1), I)) else (some ((I 4 2), I))) = _ := hf
  refine lv_aload_n C.1 C.2.1 dX6_size_0 rfl (lv_at hl 0 rfl) ?_
  refine g_X6_1 C hH kk_4 tw_108 dX6_size_1 ?_
  refine lv_if_ne (tgt := 17) C.1 C.2.1 dX6_size_4 (by decide) (fun q1 => ?_) (fun q1 => ?_)
  · have hf := (if_neg q1).symm.trans hf
    refine lv_aload_n C.1 C.2.1 dX6_size_17 rfl (lv_at hl 0 rfl) ?_
    refine g_X6_2 C hH kk_4 tw_111 dX6_size_18 ?_
    cases hf
    exact x_iret C hr hH dX6_size_21
  · have hf := (if_pos q1).symm.trans hf
    refine lv_aload_n C.1 C.2.1 dX6_size_7 rfl (lv_at hl 0 rfl) ?_
    refine g_X6_0 C hH kk_4 tw_107 dX6_size_8 ?_
    refine gN_X5_1 C hH kk_1 tw_90 dX6_size_11 ?_
    refine lv_goto (tgt := 21) C.1 C.2.1 dX6_size_14 (by decide) ?_
    cases hf
    exact x_iret C hr hH dX6_size_21
def f_X6_hasMore (I : Mem)  : Option (Bool × Mem) := if (I 4 1) = (2 : Int32) then (some (true, I)) else ((f_X6_size I).bind fun q1 => (if q1.1 ≤ (I 4 4) then (some (false, q1.2)) else (some (true, q1.2))))
set_option maxHeartbeats 4000000 in
set_option maxRecDepth 100000 in
theorem c_X6_hasMore (l : Launch) (G : Gx) (I : Mem) {res : Bool} {J : Mem} (hf : f_X6_hasMore I = some (res, J)) : Mi l yX6_hasMore (.code yX6_hasMore cX6_hasMore 1 (some .boolean)) 1 20 G I [.ref (G.2.1 4)] (b2i res) J := by
  refine Mi.of (by decide +kernel) (Nat.le_of_ble_eq_true rfl) (fun p e s m below meth c ls C hr hH hl => ?_)
  have hl : lv_has ls 1 [(0, .ref (G.2.1 4))] := hl
  have hf : (if (I 4 1) = (2 : Int32) then (some (true, I)) else ((f_X6_size I).bind fun q1 => (if q1.1 ≤ (I 4 4) then (some (false, q1.2)) else (some (true, q1.2))))) = _ := hf
  refine lv_aload_n C.1 C.2.1 dX6_hasMore_0 rfl (lv_at hl 0 rfl) ?_
  refine g_X6_1 C hH kk_4 tw_108 dX6_hasMore_1 ?_
  refine lv_iconst (v := (2 : Int32)) C.1 C.2.1 dX6_hasMore_4 (by decide) ?_
  refine lv_icmp_eq (tgt := 19) C.1 C.2.1 dX6_hasMore_5 (by decide) (fun q3 => ?_) (fun q3 => ?_)
  · have hf := (if_pos q3).symm.trans hf
    refine lv_iconst (v := (1 : Int32)) C.1 C.2.1 dX6_hasMore_19 (by decide) ?_
    refine lv_goto (tgt := 24) C.1 C.2.1 dX6_hasMore_20 (by decide) ?_
    cases hf
    exact x_zret C hr hH rfl dX6_hasMore_24
  · have hf := (if_neg q3).symm.trans hf
    refine lv_aload_n C.1 C.2.1 dX6_hasMore_8 rfl (lv_at hl 0 rfl) ?_
    refine g_X6_4 C hH kk_4 tw_113 dX6_hasMore_9 ?_
    refine lv_aload_n C.1 C.2.1 dX6_hasMore_12 rfl (lv_at hl 0 rfl) ?_
    obtain ⟨q1, hc, hf⟩ := Option.bind_eq_some_iff.mp hf
    refine x_ci (n := 0) C hH (c_X6_size l G I  hc) (kd_lt kk_4 (by decide)) (cE_6 kk_4) rfl tw_581 tw_578 tw_579 tw_580 tw_50 (by decide +kernel) ⟨Nat.le_of_ble_eq_true rfl, Nat.le_of_ble_eq_true rfl⟩ rfl hl.1 rfl (Nat.le_of_ble_eq_true rfl) ⟨Nat.le_of_ble_eq_true rfl, Nat.le_of_ble_eq_true rfl⟩ dX6_hasMore_13 (fun H locs hH => ?_)
    refine lv_icmp_ge (tgt := 23) C.1 C.2.1 dX6_hasMore_16 (by decide) (fun q2 => ?_) (fun q2 => ?_)
    · have hf := (if_pos q2).symm.trans hf
      refine lv_iconst (v := (0 : Int32)) C.1 C.2.1 dX6_hasMore_23 (by decide) ?_
      cases hf
      exact x_zret C hr hH rfl dX6_hasMore_24
    · have hf := (if_neg q2).symm.trans hf
      refine lv_iconst (v := (1 : Int32)) C.1 C.2.1 dX6_hasMore_19 (by decide) ?_
      refine lv_goto (tgt := 24) C.1 C.2.1 dX6_hasMore_20 (by decide) ?_
      cases hf
      exact x_zret C hr hH rfl dX6_hasMore_24
def f_X6_next_J26   (I : Mem) (y0 : Int32) : Option (Int32 × Mem) := if (I 4 1) = (2 : Int32) then (some (y0, (st (st I 4 5 (((I 4 5) * (I 4 2)) + (I 4 3))) 4 4 (((st I 4 5 (((I 4 5) * (I 4 2)) + (I 4 3))) 4 4) + (1 : Int32))))) else (some (y0, (st (st I 4 5 ((I 4 5) + (1 : Int32))) 4 4 (((st I 4 5 ((I 4 5) + (1 : Int32))) 4 4) + (1 : Int32)))))
set_option maxHeartbeats 4000000 in
set_option maxRecDepth 100000 in
theorem w_X6_next_J26 {p : Program} {l : Launch} {e : Env} {s : State} {m : MethodId} {args : Array Value} {below : List Frame} {meth : Method} {c : Code} {G : Gx} {res : Int32} {J : Mem} (C : CX p l s m args meth c cX6_next 2 yX6_next.cls G) (hr : meth.sig.returnType = (some .int)) :
    ∀ (I : Mem) (y0 : Int32) (H : Heap) (locs : List Loc) (ls : Array Slot), HW G s H locs I → lv_has ls 2 [(0, .ref (G.2.1 4))] → f_X6_next_J26 I y0 = some (res, J) → W p l e { frames := 0, cells := 0, slots := 0, locals := 0 } s m args below meth c H locs 0 0 (MQ below (Qi9 G res J s.heap.size) args s 0 0 (AA G s.heap.size)) (F0 m 26 ls [.int y0]) := by
  intro I y0  H locs ls hH hl hf
  have hf : (if (I 4 1) = (2 : Int32) then (some (y0, (st (st I 4 5 (((I 4 5) * (I 4 2)) + (I 4 3))) 4 4 (((st I 4 5 (((I 4 5) * (I 4 2)) + (I 4 3))) 4 4) + (1 : Int32))))) else (some (y0, (st (st I 4 5 ((I 4 5) + (1 : Int32))) 4 4 (((st I 4 5 ((I 4 5) + (1 : Int32))) 4 4) + (1 : Int32)))))) = _ := hf
  refine lv_istore_n (lv' := [(1, .int y0), (0, .ref (G.2.1 4))]) C.1 C.2.1 dX6_next_26 rfl hl (by decide) rfl (fun ls hl => ?_)
  refine lv_aload_n C.1 C.2.1 dX6_next_27 rfl (lv_at hl 1 rfl) ?_
  refine lv_aload_n C.1 C.2.1 dX6_next_28 rfl (lv_at hl 1 rfl) ?_
  refine g_X6_1 C hH kk_4 tw_108 dX6_next_29 ?_
  refine lv_iconst (v := (2 : Int32)) C.1 C.2.1 dX6_next_32 (by decide) ?_
  refine lv_icmp_ne (tgt := 53) C.1 C.2.1 dX6_next_33 (by decide) (fun q3 => ?_) (fun q3 => ?_)
  · have hf := (if_neg q3).symm.trans hf
    refine lv_aload_n C.1 C.2.1 dX6_next_53 rfl (lv_at hl 1 rfl) ?_
    refine g_X6_5 C hH kk_4 tw_114 dX6_next_54 ?_
    refine lv_iconst (v := (1 : Int32)) C.1 C.2.1 dX6_next_57 (by decide) ?_
    refine lv_iadd C.1 C.2.1 dX6_next_58 ?_
    refine p_X6_5 C hH kk_4  tw_114 dX6_next_59 (fun H locs hH => ?_)
    refine lv_aload_n C.1 C.2.1 dX6_next_62 rfl (lv_at hl 1 rfl) ?_
    refine lv_dup C.1 C.2.1 dX6_next_63 rfl ?_
    refine g_X6_4 C hH kk_4 tw_113 dX6_next_64 ?_
    refine lv_iconst (v := (1 : Int32)) C.1 C.2.1 dX6_next_67 (by decide) ?_
    refine lv_iadd C.1 C.2.1 dX6_next_68 ?_
    refine p_X6_4 C hH kk_4  tw_113 dX6_next_69 (fun H locs hH => ?_)
    refine lv_iload_n C.1 C.2.1 dX6_next_72 rfl (lv_at hl 0 rfl) ?_
    cases hf
    exact x_iret C hr hH dX6_next_73
  · have hf := (if_pos q3).symm.trans hf
    refine lv_aload_n C.1 C.2.1 dX6_next_36 rfl (lv_at hl 1 rfl) ?_
    refine g_X6_5 C hH kk_4 tw_114 dX6_next_37 ?_
    refine lv_aload_n C.1 C.2.1 dX6_next_40 rfl (lv_at hl 1 rfl) ?_
    refine g_X6_2 C hH kk_4 tw_111 dX6_next_41 ?_
    refine lv_imul C.1 C.2.1 dX6_next_44 ?_
    refine lv_aload_n C.1 C.2.1 dX6_next_45 rfl (lv_at hl 1 rfl) ?_
    refine g_X6_3 C hH kk_4 tw_112 dX6_next_46 ?_
    refine lv_iadd C.1 C.2.1 dX6_next_49 ?_
    refine lv_goto (tgt := 59) C.1 C.2.1 dX6_next_50 (by decide) ?_
    refine p_X6_5 C hH kk_4  tw_114 dX6_next_59 (fun H locs hH => ?_)
    refine lv_aload_n C.1 C.2.1 dX6_next_62 rfl (lv_at hl 1 rfl) ?_
    refine lv_dup C.1 C.2.1 dX6_next_63 rfl ?_
    refine g_X6_4 C hH kk_4 tw_113 dX6_next_64 ?_
    refine lv_iconst (v := (1 : Int32)) C.1 C.2.1 dX6_next_67 (by decide) ?_
    refine lv_iadd C.1 C.2.1 dX6_next_68 ?_
    refine p_X6_4 C hH kk_4  tw_113 dX6_next_69 (fun H locs hH => ?_)
    refine lv_iload_n C.1 C.2.1 dX6_next_72 rfl (lv_at hl 0 rfl) ?_
    cases hf
    exact x_iret C hr hH dX6_next_73
def f_X6_next (I : Mem)  : Option (Int32 × Mem) := if (I 4 1) = 0 then (if inb (I 4 4) (ln 2) = true then (f_X6_next_J26 I (I 2 (I 4 4).toNatClampNeg)) else none) else (f_X6_next_J26 I (I 4 5))
set_option maxHeartbeats 4000000 in
set_option maxRecDepth 100000 in
theorem c_X6_next (l : Launch) (G : Gx) (I : Mem) {res : Int32} {J : Mem} (hf : f_X6_next I = some (res, J)) : Mi l yX6_next (.code yX6_next cX6_next 2 (some .int)) 0 0 G I [.ref (G.2.1 4)] res J := by
  refine Mi.of (by decide +kernel) (Nat.le_of_ble_eq_true rfl) (fun p e s m below meth c ls C hr hH hl => ?_)
  have hl : lv_has ls 2 [(0, .ref (G.2.1 4))] := hl
  have hf : (if (I 4 1) = 0 then (if inb (I 4 4) (ln 2) = true then (f_X6_next_J26 I (I 2 (I 4 4).toNatClampNeg)) else none) else (f_X6_next_J26 I (I 4 5))) = _ := hf
  refine lv_aload_n C.1 C.2.1 dX6_next_0 rfl (lv_at hl 0 rfl) ?_
  refine g_X6_1 C hH kk_4 tw_108 dX6_next_1 ?_
  refine lv_if_ne (tgt := 22) C.1 C.2.1 dX6_next_4 (by decide) (fun q2 => ?_) (fun q2 => ?_)
  · have hf := (if_neg q2).symm.trans hf
    refine lv_aload_n C.1 C.2.1 dX6_next_22 rfl (lv_at hl 0 rfl) ?_
    refine g_X6_5 C hH kk_4 tw_114 dX6_next_23 ?_
    exact w_X6_next_J26 C hr I (I 4 5) _ _ _ hH (lv_sub hl [0] rfl) hf
  · have hf := (if_pos q2).symm.trans hf
    refine lv_aload_n C.1 C.2.1 dX6_next_7 rfl (lv_at hl 0 rfl) ?_
    refine g_X6_0 C hH kk_4 tw_107 dX6_next_8 ?_
    refine gN_X5_0 C hH kk_1 tw_85 dX6_next_11 ?_
    refine lv_aload_n C.1 C.2.1 dX6_next_14 rfl (lv_at hl 0 rfl) ?_
    refine g_X6_4 C hH kk_4 tw_113 dX6_next_15 ?_
    obtain ⟨q1, hf⟩ := itn hf
    refine x_iald C hH kk_2 q1 dX6_next_18 ?_
    refine lv_goto (tgt := 26) C.1 C.2.1 dX6_next_19 (by decide) ?_
    exact w_X6_next_J26 C hr I (I 2 (I 4 4).toNatClampNeg) _ _ _ hH (lv_sub hl [0] rfl) hf
def f_X9_within (I : Mem) (p0 : Int32) (p1 : Int32) (p2 : Int32) : Option (Bool × Mem) := if p0 < p1 then (some (false, I)) else (if p2 < p0 then (some (false, I)) else (some (true, I)))
set_option maxHeartbeats 4000000 in
set_option maxRecDepth 100000 in
theorem c_X9_within (l : Launch) (G : Gx) (I : Mem) (p0 : Int32) (p1 : Int32) (p2 : Int32) {res : Bool} {J : Mem} (hf : f_X9_within I p0 p1 p2 = some (res, J)) : Mi l yX9_within (.code yX9_within cX9_within 3 (some .boolean)) 0 0 G I [.int p0, .int p1, .int p2] (b2i res) J := by
  refine Mi.of (by decide +kernel) (Nat.le_of_ble_eq_true rfl) (fun p e s m below meth c ls C hr hH hl => ?_)
  have hl : lv_has ls 3 [(0, .int p0), (1, .int p1), (2, .int p2)] := hl
  have hf : (if p0 < p1 then (some (false, I)) else (if p2 < p0 then (some (false, I)) else (some (true, I)))) = _ := hf
  refine lv_iload_n C.1 C.2.1 dX9_within_0 rfl (lv_at hl 0 rfl) ?_
  refine lv_iload_n C.1 C.2.1 dX9_within_1 rfl (lv_at hl 1 rfl) ?_
  refine lv_icmp_lt (tgt := 14) C.1 C.2.1 dX9_within_2 (by decide) (fun q2 => ?_) (fun q2 => ?_)
  · have hf := (if_pos q2).symm.trans hf
    refine lv_iconst (v := (0 : Int32)) C.1 C.2.1 dX9_within_14 (by decide) ?_
    cases hf
    exact x_zret C hr hH rfl dX9_within_15
  · have hf := (if_neg q2).symm.trans hf
    refine lv_iload_n C.1 C.2.1 dX9_within_5 rfl (lv_at hl 0 rfl) ?_
    refine lv_iload_n C.1 C.2.1 dX9_within_6 rfl (lv_at hl 2 rfl) ?_
    refine lv_icmp_gt (tgt := 14) C.1 C.2.1 dX9_within_7 (by decide) (fun q1 => ?_) (fun q1 => ?_)
    · have hf := (if_pos q1).symm.trans hf
      refine lv_iconst (v := (0 : Int32)) C.1 C.2.1 dX9_within_14 (by decide) ?_
      cases hf
      exact x_zret C hr hH rfl dX9_within_15
    · have hf := (if_neg q1).symm.trans hf
      refine lv_iconst (v := (1 : Int32)) C.1 C.2.1 dX9_within_10 (by decide) ?_
      refine lv_goto (tgt := 15) C.1 C.2.1 dX9_within_11 (by decide) ?_
      cases hf
      exact x_zret C hr hH rfl dX9_within_15
def f_X9_isTest (I : Mem) (p0 : Int32) : Option (Bool × Mem) := (f_X9_within I p0 (0 : Int32) (4 : Int32)).bind fun q1 => (some (q1.1, q1.2))
set_option maxHeartbeats 4000000 in
set_option maxRecDepth 100000 in
theorem c_X9_isTest (l : Launch) (G : Gx) (I : Mem) (p0 : Int32) {res : Bool} {J : Mem} (hf : f_X9_isTest I p0 = some (res, J)) : Mi l yX9_isTest (.code yX9_isTest cX9_isTest 1 (some .boolean)) 1 22 G I [.int p0] (b2i res) J := by
  refine Mi.of (by decide +kernel) (Nat.le_of_ble_eq_true rfl) (fun p e s m below meth c ls C hr hH hl => ?_)
  have hl : lv_has ls 1 [(0, .int p0)] := hl
  have hf : ((f_X9_within I p0 (0 : Int32) (4 : Int32)).bind fun q1 => (some (q1.1, q1.2))) = _ := hf
  refine lv_iload_n C.1 C.2.1 dX9_isTest_0 rfl (lv_at hl 0 rfl) ?_
  refine lv_iconst (v := (0 : Int32)) C.1 C.2.1 dX9_isTest_1 (by decide) ?_
  refine lv_iconst (v := (4 : Int32)) C.1 C.2.1 dX9_isTest_2 (by decide) ?_
  obtain ⟨q1, hc, hf⟩ := Option.bind_eq_some_iff.mp hf
  refine x_si (n := 3) C hH (c_X9_within l G I p0 (0 : Int32) (4 : Int32) hc) tw_364 tw_362 tw_363 tw_47 (by decide +kernel) ⟨Nat.le_of_ble_eq_true rfl, Nat.le_of_ble_eq_true rfl⟩ rfl hl.1 rfl (Nat.le_of_ble_eq_true rfl) ⟨Nat.le_of_ble_eq_true rfl, Nat.le_of_ble_eq_true rfl⟩ dX9_isTest_3 (fun H locs hH => ?_)
  cases hf
  exact x_zret C hr hH rfl dX9_isTest_6
def f_X9_isStage (I : Mem) (p0 : Int32) (p1 : Int32) (p2 : Int32) : Option (Bool × Mem) := if p0 = (0 : Int32) then ((f_X9_within I p1 (0 : Int32) (3 : Int32)).bind fun q1 => (some (q1.1, q1.2))) else (if p0 = (1 : Int32) then ((f_X9_isTest I p1).bind fun q3 => (some (q3.1, q3.2))) else (if p0 = (2 : Int32) then ((f_X9_within I p2 (0 : Int32) (4 : Int32)).bind fun q5 => (some (q5.1, q5.2))) else (if p0 = (5 : Int32) then ((f_X9_within I p2 (0 : Int32) (100 : Int32)).bind fun q7 => (some (q7.1, q7.2))) else (if p0 = (6 : Int32) then ((f_X9_within I p2 (0 : Int32) (100 : Int32)).bind fun q9 => (some (q9.1, q9.2))) else (if p0 = (8 : Int32) then ((f_X9_isTest I p1).bind fun q11 => (some (q11.1, q11.2))) else (if p0 = (9 : Int32) then ((f_X9_isTest I p1).bind fun q13 => (some (q13.1, q13.2))) else ((f_X9_within I p0 (0 : Int32) (9 : Int32)).bind fun q15 => (some (q15.1, q15.2)))))))))
set_option maxHeartbeats 4000000 in
set_option maxRecDepth 100000 in
theorem c_X9_isStage (l : Launch) (G : Gx) (I : Mem) (p0 : Int32) (p1 : Int32) (p2 : Int32) {res : Bool} {J : Mem} (hf : f_X9_isStage I p0 p1 p2 = some (res, J)) : Mi l yX9_isStage (.code yX9_isStage cX9_isStage 3 (some .boolean)) 2 42 G I [.int p0, .int p1, .int p2] (b2i res) J := by
  refine Mi.of (by decide +kernel) (Nat.le_of_ble_eq_true rfl) (fun p e s m below meth c ls C hr hH hl => ?_)
  have hl : lv_has ls 3 [(0, .int p0), (1, .int p1), (2, .int p2)] := hl
  have hf : (if p0 = (0 : Int32) then ((f_X9_within I p1 (0 : Int32) (3 : Int32)).bind fun q1 => (some (q1.1, q1.2))) else (if p0 = (1 : Int32) then ((f_X9_isTest I p1).bind fun q3 => (some (q3.1, q3.2))) else (if p0 = (2 : Int32) then ((f_X9_within I p2 (0 : Int32) (4 : Int32)).bind fun q5 => (some (q5.1, q5.2))) else (if p0 = (5 : Int32) then ((f_X9_within I p2 (0 : Int32) (100 : Int32)).bind fun q7 => (some (q7.1, q7.2))) else (if p0 = (6 : Int32) then ((f_X9_within I p2 (0 : Int32) (100 : Int32)).bind fun q9 => (some (q9.1, q9.2))) else (if p0 = (8 : Int32) then ((f_X9_isTest I p1).bind fun q11 => (some (q11.1, q11.2))) else (if p0 = (9 : Int32) then ((f_X9_isTest I p1).bind fun q13 => (some (q13.1, q13.2))) else ((f_X9_within I p0 (0 : Int32) (9 : Int32)).bind fun q15 => (some (q15.1, q15.2)))))))))) = _ := hf
  refine lv_iload_n C.1 C.2.1 dX9_isStage_0 rfl (lv_at hl 0 rfl) ?_
  by_cases q2 : p0 = (0 : Int32)
  · have hf := (if_pos q2).symm.trans hf
    refine lv_tableIn (tgt := 56) (off := 55) C.1 C.2.1 dX9_isStage_1 (by rw [q2]; decide) (by rw [q2]; decide) (by rw [q2]; decide) (by decide) ?_
    refine lv_iload_n C.1 C.2.1 dX9_isStage_56 rfl (lv_at hl 1 rfl) ?_
    refine lv_iconst (v := (0 : Int32)) C.1 C.2.1 dX9_isStage_57 (by decide) ?_
    refine lv_iconst (v := (3 : Int32)) C.1 C.2.1 dX9_isStage_58 (by decide) ?_
    obtain ⟨q1, hc, hf⟩ := Option.bind_eq_some_iff.mp hf
    refine x_si (n := 3) C hH (c_X9_within l G I p1 (0 : Int32) (3 : Int32) hc) tw_364 tw_362 tw_363 tw_47 (by decide +kernel) ⟨Nat.le_of_ble_eq_true rfl, Nat.le_of_ble_eq_true rfl⟩ rfl hl.1 rfl (Nat.le_of_ble_eq_true rfl) ⟨Nat.le_of_ble_eq_true rfl, Nat.le_of_ble_eq_true rfl⟩ dX9_isStage_59 (fun H locs hH => ?_)
    cases hf
    exact x_zret C hr hH rfl dX9_isStage_62
  · have hf := (if_neg q2).symm.trans hf
    by_cases q4 : p0 = (1 : Int32)
    · have hf := (if_pos q4).symm.trans hf
      refine lv_tableIn (tgt := 63) (off := 62) C.1 C.2.1 dX9_isStage_1 (by rw [q4]; decide) (by rw [q4]; decide) (by rw [q4]; decide) (by decide) ?_
      refine lv_iload_n C.1 C.2.1 dX9_isStage_63 rfl (lv_at hl 1 rfl) ?_
      obtain ⟨q3, hc, hf⟩ := Option.bind_eq_some_iff.mp hf
      refine x_si (n := 1) C hH (c_X9_isTest l G I p1 hc) tw_508 tw_506 tw_507 tw_47 (by decide +kernel) ⟨Nat.le_of_ble_eq_true rfl, Nat.le_of_ble_eq_true rfl⟩ rfl hl.1 rfl (Nat.le_of_ble_eq_true rfl) ⟨Nat.le_of_ble_eq_true rfl, Nat.le_of_ble_eq_true rfl⟩ dX9_isStage_64 (fun H locs hH => ?_)
      cases hf
      exact x_zret C hr hH rfl dX9_isStage_67
    · have hf := (if_neg q4).symm.trans hf
      by_cases q6 : p0 = (2 : Int32)
      · have hf := (if_pos q6).symm.trans hf
        refine lv_tableIn (tgt := 68) (off := 67) C.1 C.2.1 dX9_isStage_1 (by rw [q6]; decide) (by rw [q6]; decide) (by rw [q6]; decide) (by decide) ?_
        refine lv_iload_n C.1 C.2.1 dX9_isStage_68 rfl (lv_at hl 2 rfl) ?_
        refine lv_iconst (v := (0 : Int32)) C.1 C.2.1 dX9_isStage_69 (by decide) ?_
        refine lv_iconst (v := (4 : Int32)) C.1 C.2.1 dX9_isStage_70 (by decide) ?_
        obtain ⟨q5, hc, hf⟩ := Option.bind_eq_some_iff.mp hf
        refine x_si (n := 3) C hH (c_X9_within l G I p2 (0 : Int32) (4 : Int32) hc) tw_364 tw_362 tw_363 tw_47 (by decide +kernel) ⟨Nat.le_of_ble_eq_true rfl, Nat.le_of_ble_eq_true rfl⟩ rfl hl.1 rfl (Nat.le_of_ble_eq_true rfl) ⟨Nat.le_of_ble_eq_true rfl, Nat.le_of_ble_eq_true rfl⟩ dX9_isStage_71 (fun H locs hH => ?_)
        cases hf
        exact x_zret C hr hH rfl dX9_isStage_74
      · have hf := (if_neg q6).symm.trans hf
        by_cases q8 : p0 = (5 : Int32)
        · have hf := (if_pos q8).symm.trans hf
          refine lv_tableIn (tgt := 75) (off := 74) C.1 C.2.1 dX9_isStage_1 (by rw [q8]; decide) (by rw [q8]; decide) (by rw [q8]; decide) (by decide) ?_
          refine lv_iload_n C.1 C.2.1 dX9_isStage_75 rfl (lv_at hl 2 rfl) ?_
          refine lv_iconst (v := (0 : Int32)) C.1 C.2.1 dX9_isStage_76 (by decide) ?_
          refine lv_bipush (v := (100 : Int32)) C.1 C.2.1 dX9_isStage_77 (by decide) ?_
          obtain ⟨q7, hc, hf⟩ := Option.bind_eq_some_iff.mp hf
          refine x_si (n := 3) C hH (c_X9_within l G I p2 (0 : Int32) (100 : Int32) hc) tw_364 tw_362 tw_363 tw_47 (by decide +kernel) ⟨Nat.le_of_ble_eq_true rfl, Nat.le_of_ble_eq_true rfl⟩ rfl hl.1 rfl (Nat.le_of_ble_eq_true rfl) ⟨Nat.le_of_ble_eq_true rfl, Nat.le_of_ble_eq_true rfl⟩ dX9_isStage_79 (fun H locs hH => ?_)
          cases hf
          exact x_zret C hr hH rfl dX9_isStage_82
        · have hf := (if_neg q8).symm.trans hf
          by_cases q10 : p0 = (6 : Int32)
          · have hf := (if_pos q10).symm.trans hf
            refine lv_tableIn (tgt := 75) (off := 74) C.1 C.2.1 dX9_isStage_1 (by rw [q10]; decide) (by rw [q10]; decide) (by rw [q10]; decide) (by decide) ?_
            refine lv_iload_n C.1 C.2.1 dX9_isStage_75 rfl (lv_at hl 2 rfl) ?_
            refine lv_iconst (v := (0 : Int32)) C.1 C.2.1 dX9_isStage_76 (by decide) ?_
            refine lv_bipush (v := (100 : Int32)) C.1 C.2.1 dX9_isStage_77 (by decide) ?_
            obtain ⟨q9, hc, hf⟩ := Option.bind_eq_some_iff.mp hf
            refine x_si (n := 3) C hH (c_X9_within l G I p2 (0 : Int32) (100 : Int32) hc) tw_364 tw_362 tw_363 tw_47 (by decide +kernel) ⟨Nat.le_of_ble_eq_true rfl, Nat.le_of_ble_eq_true rfl⟩ rfl hl.1 rfl (Nat.le_of_ble_eq_true rfl) ⟨Nat.le_of_ble_eq_true rfl, Nat.le_of_ble_eq_true rfl⟩ dX9_isStage_79 (fun H locs hH => ?_)
            cases hf
            exact x_zret C hr hH rfl dX9_isStage_82
          · have hf := (if_neg q10).symm.trans hf
            by_cases q12 : p0 = (8 : Int32)
            · have hf := (if_pos q12).symm.trans hf
              refine lv_tableIn (tgt := 63) (off := 62) C.1 C.2.1 dX9_isStage_1 (by rw [q12]; decide) (by rw [q12]; decide) (by rw [q12]; decide) (by decide) ?_
              refine lv_iload_n C.1 C.2.1 dX9_isStage_63 rfl (lv_at hl 1 rfl) ?_
              obtain ⟨q11, hc, hf⟩ := Option.bind_eq_some_iff.mp hf
              refine x_si (n := 1) C hH (c_X9_isTest l G I p1 hc) tw_508 tw_506 tw_507 tw_47 (by decide +kernel) ⟨Nat.le_of_ble_eq_true rfl, Nat.le_of_ble_eq_true rfl⟩ rfl hl.1 rfl (Nat.le_of_ble_eq_true rfl) ⟨Nat.le_of_ble_eq_true rfl, Nat.le_of_ble_eq_true rfl⟩ dX9_isStage_64 (fun H locs hH => ?_)
              cases hf
              exact x_zret C hr hH rfl dX9_isStage_67
            · have hf := (if_neg q12).symm.trans hf
              by_cases q14 : p0 = (9 : Int32)
              · have hf := (if_pos q14).symm.trans hf
                refine lv_tableIn (tgt := 63) (off := 62) C.1 C.2.1 dX9_isStage_1 (by rw [q14]; decide) (by rw [q14]; decide) (by rw [q14]; decide) (by decide) ?_
                refine lv_iload_n C.1 C.2.1 dX9_isStage_63 rfl (lv_at hl 1 rfl) ?_
                obtain ⟨q13, hc, hf⟩ := Option.bind_eq_some_iff.mp hf
                refine x_si (n := 1) C hH (c_X9_isTest l G I p1 hc) tw_508 tw_506 tw_507 tw_47 (by decide +kernel) ⟨Nat.le_of_ble_eq_true rfl, Nat.le_of_ble_eq_true rfl⟩ rfl hl.1 rfl (Nat.le_of_ble_eq_true rfl) ⟨Nat.le_of_ble_eq_true rfl, Nat.le_of_ble_eq_true rfl⟩ dX9_isStage_64 (fun H locs hH => ?_)
                cases hf
                exact x_zret C hr hH rfl dX9_isStage_67
              · have hf := (if_neg q14).symm.trans hf
                have q2' := ne_toInt (z := 0) (by decide) q2
                have q4' := ne_toInt (z := 1) (by decide) q4
                have q6' := ne_toInt (z := 2) (by decide) q6
                have q8' := ne_toInt (z := 5) (by decide) q8
                have q10' := ne_toInt (z := 6) (by decide) q10
                have q12' := ne_toInt (z := 8) (by decide) q12
                have q14' := ne_toInt (z := 9) (by decide) q14
                refine x_tblD (tgt := 83) C.1 C.2.1 dX9_isStage_1 ?_ (by decide) ?_
                · by_cases hlo : p0.toInt < 0
                  · exact Or.inl (Or.inl hlo)
                  · by_cases hhi : 9 < p0.toInt
                    · exact Or.inl (Or.inr hhi)
                    · refine Or.inr ⟨hlo, hhi, ?_⟩
                      have hv : p0.toInt = 3 ∨ p0.toInt = 4 ∨ p0.toInt = 7 := by omega
                      rcases hv with hv | hv | hv <;> (rw [hv]; decide)
                · refine lv_iload_n C.1 C.2.1 dX9_isStage_83 rfl (lv_at hl 0 rfl) ?_
                  refine lv_iconst (v := (0 : Int32)) C.1 C.2.1 dX9_isStage_84 (by decide) ?_
                  refine lv_bipush (v := (9 : Int32)) C.1 C.2.1 dX9_isStage_85 (by decide) ?_
                  obtain ⟨q15, hc, hf⟩ := Option.bind_eq_some_iff.mp hf
                  refine x_si (n := 3) C hH (c_X9_within l G I p0 (0 : Int32) (9 : Int32) hc) tw_364 tw_362 tw_363 tw_47 (by decide +kernel) ⟨Nat.le_of_ble_eq_true rfl, Nat.le_of_ble_eq_true rfl⟩ rfl hl.1 rfl (Nat.le_of_ble_eq_true rfl) ⟨Nat.le_of_ble_eq_true rfl, Nat.le_of_ble_eq_true rfl⟩ dX9_isStage_87 (fun H locs hH => ?_)
                  cases hf
                  exact x_zret C hr hH rfl dX9_isStage_90
def f_X9_isEnd (I : Mem) (p0 : Int32) (p1 : Int32) (p2 : Int32) : Option (Bool × Mem) := if p0 = (5 : Int32) then ((f_X9_isTest I p1).bind fun q1 => (some (q1.1, q1.2))) else (if p0 = (6 : Int32) then ((f_X9_isTest I p1).bind fun q3 => (some (q3.1, q3.2))) else (if p0 = (7 : Int32) then ((f_X9_isTest I p1).bind fun q5 => (some (q5.1, q5.2))) else (if p0 = (8 : Int32) then ((f_X9_within I p1 (0 : Int32) (2 : Int32)).bind fun q7 => (some (q7.1, q7.2))) else (if p0 = (10 : Int32) then ((f_X9_within I p2 (1 : Int32) (8 : Int32)).bind fun q9 => (some (q9.1, q9.2))) else ((f_X9_within I p0 (0 : Int32) (10 : Int32)).bind fun q11 => (some (q11.1, q11.2)))))))
set_option maxHeartbeats 4000000 in
set_option maxRecDepth 100000 in
theorem c_X9_isEnd (l : Launch) (G : Gx) (I : Mem) (p0 : Int32) (p1 : Int32) (p2 : Int32) {res : Bool} {J : Mem} (hf : f_X9_isEnd I p0 p1 p2 = some (res, J)) : Mi l yX9_isEnd (.code yX9_isEnd cX9_isEnd 3 (some .boolean)) 2 42 G I [.int p0, .int p1, .int p2] (b2i res) J := by
  refine Mi.of (by decide +kernel) (Nat.le_of_ble_eq_true rfl) (fun p e s m below meth c ls C hr hH hl => ?_)
  have hl : lv_has ls 3 [(0, .int p0), (1, .int p1), (2, .int p2)] := hl
  have hf : (if p0 = (5 : Int32) then ((f_X9_isTest I p1).bind fun q1 => (some (q1.1, q1.2))) else (if p0 = (6 : Int32) then ((f_X9_isTest I p1).bind fun q3 => (some (q3.1, q3.2))) else (if p0 = (7 : Int32) then ((f_X9_isTest I p1).bind fun q5 => (some (q5.1, q5.2))) else (if p0 = (8 : Int32) then ((f_X9_within I p1 (0 : Int32) (2 : Int32)).bind fun q7 => (some (q7.1, q7.2))) else (if p0 = (10 : Int32) then ((f_X9_within I p2 (1 : Int32) (8 : Int32)).bind fun q9 => (some (q9.1, q9.2))) else ((f_X9_within I p0 (0 : Int32) (10 : Int32)).bind fun q11 => (some (q11.1, q11.2)))))))) = _ := hf
  refine lv_iload_n C.1 C.2.1 dX9_isEnd_0 rfl (lv_at hl 0 rfl) ?_
  by_cases q2 : p0 = (5 : Int32)
  · have hf := (if_pos q2).symm.trans hf
    refine lv_tableIn (tgt := 40) (off := 39) C.1 C.2.1 dX9_isEnd_1 (by rw [q2]; decide) (by rw [q2]; decide) (by rw [q2]; decide) (by decide) ?_
    refine lv_iload_n C.1 C.2.1 dX9_isEnd_40 rfl (lv_at hl 1 rfl) ?_
    obtain ⟨q1, hc, hf⟩ := Option.bind_eq_some_iff.mp hf
    refine x_si (n := 1) C hH (c_X9_isTest l G I p1 hc) tw_508 tw_506 tw_507 tw_47 (by decide +kernel) ⟨Nat.le_of_ble_eq_true rfl, Nat.le_of_ble_eq_true rfl⟩ rfl hl.1 rfl (Nat.le_of_ble_eq_true rfl) ⟨Nat.le_of_ble_eq_true rfl, Nat.le_of_ble_eq_true rfl⟩ dX9_isEnd_41 (fun H locs hH => ?_)
    cases hf
    exact x_zret C hr hH rfl dX9_isEnd_44
  · have hf := (if_neg q2).symm.trans hf
    by_cases q4 : p0 = (6 : Int32)
    · have hf := (if_pos q4).symm.trans hf
      refine lv_tableIn (tgt := 40) (off := 39) C.1 C.2.1 dX9_isEnd_1 (by rw [q4]; decide) (by rw [q4]; decide) (by rw [q4]; decide) (by decide) ?_
      refine lv_iload_n C.1 C.2.1 dX9_isEnd_40 rfl (lv_at hl 1 rfl) ?_
      obtain ⟨q3, hc, hf⟩ := Option.bind_eq_some_iff.mp hf
      refine x_si (n := 1) C hH (c_X9_isTest l G I p1 hc) tw_508 tw_506 tw_507 tw_47 (by decide +kernel) ⟨Nat.le_of_ble_eq_true rfl, Nat.le_of_ble_eq_true rfl⟩ rfl hl.1 rfl (Nat.le_of_ble_eq_true rfl) ⟨Nat.le_of_ble_eq_true rfl, Nat.le_of_ble_eq_true rfl⟩ dX9_isEnd_41 (fun H locs hH => ?_)
      cases hf
      exact x_zret C hr hH rfl dX9_isEnd_44
    · have hf := (if_neg q4).symm.trans hf
      by_cases q6 : p0 = (7 : Int32)
      · have hf := (if_pos q6).symm.trans hf
        refine lv_tableIn (tgt := 40) (off := 39) C.1 C.2.1 dX9_isEnd_1 (by rw [q6]; decide) (by rw [q6]; decide) (by rw [q6]; decide) (by decide) ?_
        refine lv_iload_n C.1 C.2.1 dX9_isEnd_40 rfl (lv_at hl 1 rfl) ?_
        obtain ⟨q5, hc, hf⟩ := Option.bind_eq_some_iff.mp hf
        refine x_si (n := 1) C hH (c_X9_isTest l G I p1 hc) tw_508 tw_506 tw_507 tw_47 (by decide +kernel) ⟨Nat.le_of_ble_eq_true rfl, Nat.le_of_ble_eq_true rfl⟩ rfl hl.1 rfl (Nat.le_of_ble_eq_true rfl) ⟨Nat.le_of_ble_eq_true rfl, Nat.le_of_ble_eq_true rfl⟩ dX9_isEnd_41 (fun H locs hH => ?_)
        cases hf
        exact x_zret C hr hH rfl dX9_isEnd_44
      · have hf := (if_neg q6).symm.trans hf
        by_cases q8 : p0 = (8 : Int32)
        · have hf := (if_pos q8).symm.trans hf
          refine lv_tableIn (tgt := 45) (off := 44) C.1 C.2.1 dX9_isEnd_1 (by rw [q8]; decide) (by rw [q8]; decide) (by rw [q8]; decide) (by decide) ?_
          refine lv_iload_n C.1 C.2.1 dX9_isEnd_45 rfl (lv_at hl 1 rfl) ?_
          refine lv_iconst (v := (0 : Int32)) C.1 C.2.1 dX9_isEnd_46 (by decide) ?_
          refine lv_iconst (v := (2 : Int32)) C.1 C.2.1 dX9_isEnd_47 (by decide) ?_
          obtain ⟨q7, hc, hf⟩ := Option.bind_eq_some_iff.mp hf
          refine x_si (n := 3) C hH (c_X9_within l G I p1 (0 : Int32) (2 : Int32) hc) tw_364 tw_362 tw_363 tw_47 (by decide +kernel) ⟨Nat.le_of_ble_eq_true rfl, Nat.le_of_ble_eq_true rfl⟩ rfl hl.1 rfl (Nat.le_of_ble_eq_true rfl) ⟨Nat.le_of_ble_eq_true rfl, Nat.le_of_ble_eq_true rfl⟩ dX9_isEnd_48 (fun H locs hH => ?_)
          cases hf
          exact x_zret C hr hH rfl dX9_isEnd_51
        · have hf := (if_neg q8).symm.trans hf
          by_cases q10 : p0 = (10 : Int32)
          · have hf := (if_pos q10).symm.trans hf
            refine lv_tableIn (tgt := 52) (off := 51) C.1 C.2.1 dX9_isEnd_1 (by rw [q10]; decide) (by rw [q10]; decide) (by rw [q10]; decide) (by decide) ?_
            refine lv_iload_n C.1 C.2.1 dX9_isEnd_52 rfl (lv_at hl 2 rfl) ?_
            refine lv_iconst (v := (1 : Int32)) C.1 C.2.1 dX9_isEnd_53 (by decide) ?_
            refine lv_bipush (v := (8 : Int32)) C.1 C.2.1 dX9_isEnd_54 (by decide) ?_
            obtain ⟨q9, hc, hf⟩ := Option.bind_eq_some_iff.mp hf
            refine x_si (n := 3) C hH (c_X9_within l G I p2 (1 : Int32) (8 : Int32) hc) tw_364 tw_362 tw_363 tw_47 (by decide +kernel) ⟨Nat.le_of_ble_eq_true rfl, Nat.le_of_ble_eq_true rfl⟩ rfl hl.1 rfl (Nat.le_of_ble_eq_true rfl) ⟨Nat.le_of_ble_eq_true rfl, Nat.le_of_ble_eq_true rfl⟩ dX9_isEnd_56 (fun H locs hH => ?_)
            cases hf
            exact x_zret C hr hH rfl dX9_isEnd_59
          · have hf := (if_neg q10).symm.trans hf
            have q2' := ne_toInt (z := 5) (by decide) q2
            have q4' := ne_toInt (z := 6) (by decide) q4
            have q6' := ne_toInt (z := 7) (by decide) q6
            have q8' := ne_toInt (z := 8) (by decide) q8
            have q10' := ne_toInt (z := 10) (by decide) q10
            refine x_tblD (tgt := 60) C.1 C.2.1 dX9_isEnd_1 ?_ (by decide) ?_
            · by_cases hlo : p0.toInt < 5
              · exact Or.inl (Or.inl hlo)
              · by_cases hhi : 10 < p0.toInt
                · exact Or.inl (Or.inr hhi)
                · refine Or.inr ⟨hlo, hhi, ?_⟩
                  have hv : p0.toInt = 9 := by omega
                  rw [hv]; decide
            · refine lv_iload_n C.1 C.2.1 dX9_isEnd_60 rfl (lv_at hl 0 rfl) ?_
              refine lv_iconst (v := (0 : Int32)) C.1 C.2.1 dX9_isEnd_61 (by decide) ?_
              refine lv_bipush (v := (10 : Int32)) C.1 C.2.1 dX9_isEnd_62 (by decide) ?_
              obtain ⟨q11, hc, hf⟩ := Option.bind_eq_some_iff.mp hf
              refine x_si (n := 3) C hH (c_X9_within l G I p0 (0 : Int32) (10 : Int32) hc) tw_364 tw_362 tw_363 tw_47 (by decide +kernel) ⟨Nat.le_of_ble_eq_true rfl, Nat.le_of_ble_eq_true rfl⟩ rfl hl.1 rfl (Nat.le_of_ble_eq_true rfl) ⟨Nat.le_of_ble_eq_true rfl, Nat.le_of_ble_eq_true rfl⟩ dX9_isEnd_64 (fun H locs hH => ?_)
              cases hf
              exact x_zret C hr hH rfl dX9_isEnd_67
def f_X9_passes (I : Mem) (p0 : Int32) (p1 : Int32) (p2 : Int32) : Option (Bool × Mem) := if p1 = (0 : Int32) then (if p0 = p2 then (some (true, I)) else (some (false, I))) else (if p1 = (1 : Int32) then (if p0 = p2 then (some (false, I)) else (some (true, I))) else (if p1 = (2 : Int32) then (if p2 ≤ p0 then (some (false, I)) else (some (true, I))) else (if p1 = (3 : Int32) then (if p0 ≤ p2 then (some (false, I)) else (some (true, I))) else (if p2 = 0 then (if p0 = 0 then (some (true, I)) else (some (false, I))) else (if p2 = 0 then none else (if (p0 - p0 / p2 * p2) = 0 then (some (true, I)) else (some (false, I))))))))
set_option maxHeartbeats 4000000 in
set_option maxRecDepth 100000 in
theorem c_X9_passes (l : Launch) (G : Gx) (I : Mem) (p0 : Int32) (p1 : Int32) (p2 : Int32) {res : Bool} {J : Mem} (hf : f_X9_passes I p0 p1 p2 = some (res, J)) : Mi l yX9_passes (.code yX9_passes cX9_passes 3 (some .boolean)) 0 0 G I [.int p0, .int p1, .int p2] (b2i res) J := by
  refine Mi.of (by decide +kernel) (Nat.le_of_ble_eq_true rfl) (fun p e s m below meth c ls C hr hH hl => ?_)
  have hl : lv_has ls 3 [(0, .int p0), (1, .int p1), (2, .int p2)] := hl
  have hf : (if p1 = (0 : Int32) then (if p0 = p2 then (some (true, I)) else (some (false, I))) else (if p1 = (1 : Int32) then (if p0 = p2 then (some (false, I)) else (some (true, I))) else (if p1 = (2 : Int32) then (if p2 ≤ p0 then (some (false, I)) else (some (true, I))) else (if p1 = (3 : Int32) then (if p0 ≤ p2 then (some (false, I)) else (some (true, I))) else (if p2 = 0 then (if p0 = 0 then (some (true, I)) else (some (false, I))) else (if p2 = 0 then none else (if (p0 - p0 / p2 * p2) = 0 then (some (true, I)) else (some (false, I))))))))) = _ := hf
  refine lv_iload_n C.1 C.2.1 dX9_passes_0 rfl (lv_at hl 1 rfl) ?_
  by_cases q2 : p1 = (0 : Int32)
  · have hf := (if_pos q2).symm.trans hf
    refine lv_tableIn (tgt := 32) (off := 31) C.1 C.2.1 dX9_passes_1 (by rw [q2]; decide) (by rw [q2]; decide) (by rw [q2]; decide) (by decide) ?_
    refine lv_iload_n C.1 C.2.1 dX9_passes_32 rfl (lv_at hl 0 rfl) ?_
    refine lv_iload_n C.1 C.2.1 dX9_passes_33 rfl (lv_at hl 2 rfl) ?_
    refine lv_icmp_ne (tgt := 41) C.1 C.2.1 dX9_passes_34 (by decide) (fun q1 => ?_) (fun q1 => ?_)
    · have hf := (if_neg q1).symm.trans hf
      refine lv_iconst (v := (0 : Int32)) C.1 C.2.1 dX9_passes_41 (by decide) ?_
      cases hf
      exact x_zret C hr hH rfl dX9_passes_42
    · have hf := (if_pos q1).symm.trans hf
      refine lv_iconst (v := (1 : Int32)) C.1 C.2.1 dX9_passes_37 (by decide) ?_
      refine lv_goto (tgt := 42) C.1 C.2.1 dX9_passes_38 (by decide) ?_
      cases hf
      exact x_zret C hr hH rfl dX9_passes_42
  · have hf := (if_neg q2).symm.trans hf
    by_cases q4 : p1 = (1 : Int32)
    · have hf := (if_pos q4).symm.trans hf
      refine lv_tableIn (tgt := 43) (off := 42) C.1 C.2.1 dX9_passes_1 (by rw [q4]; decide) (by rw [q4]; decide) (by rw [q4]; decide) (by decide) ?_
      refine lv_iload_n C.1 C.2.1 dX9_passes_43 rfl (lv_at hl 0 rfl) ?_
      refine lv_iload_n C.1 C.2.1 dX9_passes_44 rfl (lv_at hl 2 rfl) ?_
      refine lv_icmp_eq (tgt := 52) C.1 C.2.1 dX9_passes_45 (by decide) (fun q3 => ?_) (fun q3 => ?_)
      · have hf := (if_pos q3).symm.trans hf
        refine lv_iconst (v := (0 : Int32)) C.1 C.2.1 dX9_passes_52 (by decide) ?_
        cases hf
        exact x_zret C hr hH rfl dX9_passes_53
      · have hf := (if_neg q3).symm.trans hf
        refine lv_iconst (v := (1 : Int32)) C.1 C.2.1 dX9_passes_48 (by decide) ?_
        refine lv_goto (tgt := 53) C.1 C.2.1 dX9_passes_49 (by decide) ?_
        cases hf
        exact x_zret C hr hH rfl dX9_passes_53
    · have hf := (if_neg q4).symm.trans hf
      by_cases q6 : p1 = (2 : Int32)
      · have hf := (if_pos q6).symm.trans hf
        refine lv_tableIn (tgt := 54) (off := 53) C.1 C.2.1 dX9_passes_1 (by rw [q6]; decide) (by rw [q6]; decide) (by rw [q6]; decide) (by decide) ?_
        refine lv_iload_n C.1 C.2.1 dX9_passes_54 rfl (lv_at hl 0 rfl) ?_
        refine lv_iload_n C.1 C.2.1 dX9_passes_55 rfl (lv_at hl 2 rfl) ?_
        refine lv_icmp_ge (tgt := 63) C.1 C.2.1 dX9_passes_56 (by decide) (fun q5 => ?_) (fun q5 => ?_)
        · have hf := (if_pos q5).symm.trans hf
          refine lv_iconst (v := (0 : Int32)) C.1 C.2.1 dX9_passes_63 (by decide) ?_
          cases hf
          exact x_zret C hr hH rfl dX9_passes_64
        · have hf := (if_neg q5).symm.trans hf
          refine lv_iconst (v := (1 : Int32)) C.1 C.2.1 dX9_passes_59 (by decide) ?_
          refine lv_goto (tgt := 64) C.1 C.2.1 dX9_passes_60 (by decide) ?_
          cases hf
          exact x_zret C hr hH rfl dX9_passes_64
      · have hf := (if_neg q6).symm.trans hf
        by_cases q8 : p1 = (3 : Int32)
        · have hf := (if_pos q8).symm.trans hf
          refine lv_tableIn (tgt := 65) (off := 64) C.1 C.2.1 dX9_passes_1 (by rw [q8]; decide) (by rw [q8]; decide) (by rw [q8]; decide) (by decide) ?_
          refine lv_iload_n C.1 C.2.1 dX9_passes_65 rfl (lv_at hl 0 rfl) ?_
          refine lv_iload_n C.1 C.2.1 dX9_passes_66 rfl (lv_at hl 2 rfl) ?_
          refine lv_icmp_le (tgt := 74) C.1 C.2.1 dX9_passes_67 (by decide) (fun q7 => ?_) (fun q7 => ?_)
          · have hf := (if_pos q7).symm.trans hf
            refine lv_iconst (v := (0 : Int32)) C.1 C.2.1 dX9_passes_74 (by decide) ?_
            cases hf
            exact x_zret C hr hH rfl dX9_passes_75
          · have hf := (if_neg q7).symm.trans hf
            refine lv_iconst (v := (1 : Int32)) C.1 C.2.1 dX9_passes_70 (by decide) ?_
            refine lv_goto (tgt := 75) C.1 C.2.1 dX9_passes_71 (by decide) ?_
            cases hf
            exact x_zret C hr hH rfl dX9_passes_75
        · have hf := (if_neg q8).symm.trans hf
          have q2' := ne_toInt (z := 0) (by decide) q2
          have q4' := ne_toInt (z := 1) (by decide) q4
          have q6' := ne_toInt (z := 2) (by decide) q6
          have q8' := ne_toInt (z := 3) (by decide) q8
          refine x_tblD (tgt := 76) C.1 C.2.1 dX9_passes_1 ?_ (by decide) ?_
          · exact Or.inl (by omega)
          · refine lv_iload_n C.1 C.2.1 dX9_passes_76 rfl (lv_at hl 2 rfl) ?_
            refine lv_if_ne (tgt := 92) C.1 C.2.1 dX9_passes_77 (by decide) (fun q12 => ?_) (fun q12 => ?_)
            · have hf := (if_neg q12).symm.trans hf
              refine lv_iload_n C.1 C.2.1 dX9_passes_92 rfl (lv_at hl 0 rfl) ?_
              refine lv_iload_n C.1 C.2.1 dX9_passes_93 rfl (lv_at hl 2 rfl) ?_
              obtain ⟨q10, hf⟩ := itn' hf
              refine lv_irem C.1 C.2.1 dX9_passes_94 q10 ?_
              refine lv_if_ne (tgt := 102) C.1 C.2.1 dX9_passes_95 (by decide) (fun q9 => ?_) (fun q9 => ?_)
              · have hf := (if_neg q9).symm.trans hf
                refine lv_iconst (v := (0 : Int32)) C.1 C.2.1 dX9_passes_102 (by decide) ?_
                cases hf
                exact x_zret C hr hH rfl dX9_passes_103
              · have hf := (if_pos q9).symm.trans hf
                refine lv_iconst (v := (1 : Int32)) C.1 C.2.1 dX9_passes_98 (by decide) ?_
                refine lv_goto (tgt := 103) C.1 C.2.1 dX9_passes_99 (by decide) ?_
                cases hf
                exact x_zret C hr hH rfl dX9_passes_103
            · have hf := (if_pos q12).symm.trans hf
              refine lv_iload_n C.1 C.2.1 dX9_passes_80 rfl (lv_at hl 0 rfl) ?_
              refine lv_if_ne (tgt := 88) C.1 C.2.1 dX9_passes_81 (by decide) (fun q11 => ?_) (fun q11 => ?_)
              · have hf := (if_neg q11).symm.trans hf
                refine lv_iconst (v := (0 : Int32)) C.1 C.2.1 dX9_passes_88 (by decide) ?_
                refine lv_goto (tgt := 103) C.1 C.2.1 dX9_passes_89 (by decide) ?_
                cases hf
                exact x_zret C hr hH rfl dX9_passes_103
              · have hf := (if_pos q11).symm.trans hf
                refine lv_iconst (v := (1 : Int32)) C.1 C.2.1 dX9_passes_84 (by decide) ?_
                refine lv_goto (tgt := 103) C.1 C.2.1 dX9_passes_85 (by decide) ?_
                cases hf
                exact x_zret C hr hH rfl dX9_passes_103
def f_J9_floorMod (I : Mem) (p0 : Int32) (p1 : Int32) : Option (Int32 × Mem) := if p1 = 0 then none else (if 0 ≤ (p0 ^^^ p1) then (some ((p0 - p0 / p1 * p1), I)) else (if (p0 - p0 / p1 * p1) = 0 then (some ((p0 - p0 / p1 * p1), I)) else (some (((p0 - p0 / p1 * p1) + p1), I))))
set_option maxHeartbeats 4000000 in
set_option maxRecDepth 100000 in
theorem c_J9_floorMod (l : Launch) (G : Gx) (I : Mem) (p0 : Int32) (p1 : Int32) {res : Int32} {J : Mem} (hf : f_J9_floorMod I p0 p1 = some (res, J)) : Mi l yJ9_floorMod_7cf53 (.code yJ9_floorMod_7cf53 cJ9_floorMod_7cf53 3 (some .int)) 0 0 G I [.int p0, .int p1] res J := by
  refine Mi.ofF (by decide +kernel) (Nat.le_of_ble_eq_true rfl) (fun p e s m below meth c ls C hr hH hl => ?_)
  have hl : lv_has ls 3 [(0, .int p0), (1, .int p1)] := hl
  have hf : (if p1 = 0 then none else (if 0 ≤ (p0 ^^^ p1) then (some ((p0 - p0 / p1 * p1), I)) else (if (p0 - p0 / p1 * p1) = 0 then (some ((p0 - p0 / p1 * p1), I)) else (some (((p0 - p0 / p1 * p1) + p1), I))))) = _ := hf
  refine lv_iload_n C.1 C.2.1 dJ9_floorMod_7cf53_0 rfl (lv_at hl 0 rfl) ?_
  refine lv_iload_n C.1 C.2.1 dJ9_floorMod_7cf53_1 rfl (lv_at hl 1 rfl) ?_
  obtain ⟨q3, hf⟩ := itn' hf
  refine lv_irem C.1 C.2.1 dJ9_floorMod_7cf53_2 q3 ?_
  refine lv_istore_n (lv' := [(2, .int (p0 - p0 / p1 * p1)), (0, .int p0), (1, .int p1)]) C.1 C.2.1 dJ9_floorMod_7cf53_3 rfl hl (by decide) rfl (fun ls hl => ?_)
  refine lv_iload_n C.1 C.2.1 dJ9_floorMod_7cf53_4 rfl (lv_at hl 1 rfl) ?_
  refine lv_iload_n C.1 C.2.1 dJ9_floorMod_7cf53_5 rfl (lv_at hl 2 rfl) ?_
  refine lv_ixor C.1 C.2.1 dJ9_floorMod_7cf53_6 ?_
  refine lv_if_ge (tgt := 18) C.1 C.2.1 dJ9_floorMod_7cf53_7 (by decide) (fun q2 => ?_) (fun q2 => ?_)
  · have hf := (if_pos q2).symm.trans hf
    refine lv_iload_n C.1 C.2.1 dJ9_floorMod_7cf53_18 rfl (lv_at hl 0 rfl) ?_
    cases hf
    exact x_iret C hr hH dJ9_floorMod_7cf53_19
  · have hf := (if_neg q2).symm.trans hf
    refine lv_iload_n C.1 C.2.1 dJ9_floorMod_7cf53_10 rfl (lv_at hl 0 rfl) ?_
    refine lv_if_eq (tgt := 18) C.1 C.2.1 dJ9_floorMod_7cf53_11 (by decide) (fun q1 => ?_) (fun q1 => ?_)
    · have hf := (if_pos q1).symm.trans hf
      refine lv_iload_n C.1 C.2.1 dJ9_floorMod_7cf53_18 rfl (lv_at hl 0 rfl) ?_
      cases hf
      exact x_iret C hr hH dJ9_floorMod_7cf53_19
    · have hf := (if_neg q1).symm.trans hf
      refine lv_iload_n C.1 C.2.1 dJ9_floorMod_7cf53_14 rfl (lv_at hl 0 rfl) ?_
      refine lv_iload_n C.1 C.2.1 dJ9_floorMod_7cf53_15 rfl (lv_at hl 2 rfl) ?_
      refine lv_iadd C.1 C.2.1 dJ9_floorMod_7cf53_16 ?_
      cases hf
      exact x_iret C hr hH dJ9_floorMod_7cf53_17
