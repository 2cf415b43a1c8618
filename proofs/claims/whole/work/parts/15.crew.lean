def f_X8_begin (I : Mem) (i : Nat) : Option Mem := some (st (st (st I i 1 (0 : Int32)) i 2 (0 : Int32)) i 3 (0 : Int32))
set_option maxHeartbeats 4000000 in
set_option maxRecDepth 100000 in
theorem c_X8_begin (l : Launch) (G : Gx) (I : Mem) (i : Nat) (hi : kd i = 8) {J : Mem} (hf : f_X8_begin I i = some J) : Mv l yX8_begin (.code yX8_begin cX8_begin 1 none) 0 0 G I [.ref (G.2.1 i)] J := by
  refine Mv.of (by decide +kernel) (Nat.le_of_ble_eq_true rfl) (fun p e s m below meth c ls C hr hH hl => ?_)
  have hl : lv_has ls 1 [(0, .ref (G.2.1 i))] := hl
  have hf : (some (st (st (st I i 1 (0 : Int32)) i 2 (0 : Int32)) i 3 (0 : Int32))) = _ := hf
  refine lv_aload_n C.1 C.2.1 dX8_begin_0 rfl (lv_at hl 0 rfl) ?_
  refine lv_iconst (v := (0 : Int32)) C.1 C.2.1 dX8_begin_1 (by decide) ?_
  refine p_X8_1 C hH hi  tw_284 dX8_begin_2 (fun H locs hH => ?_)
  refine lv_aload_n C.1 C.2.1 dX8_begin_5 rfl (lv_at hl 0 rfl) ?_
  refine lv_iconst (v := (0 : Int32)) C.1 C.2.1 dX8_begin_6 (by decide) ?_
  refine p_X8_2 C hH hi  tw_285 dX8_begin_7 (fun H locs hH => ?_)
  refine lv_aload_n C.1 C.2.1 dX8_begin_10 rfl (lv_at hl 0 rfl) ?_
  refine lv_iconst (v := (0 : Int32)) C.1 C.2.1 dX8_begin_11 (by decide) ?_
  refine p_X8_3 C hH hi  tw_286 dX8_begin_12 (fun H locs hH => ?_)
  cases hf
  exact x_vret C hr hH dX8_begin_15
def f_X8_hasTasks (I : Mem) (i : Nat) : Option (Bool × Mem) := if (I i 2) ≤ (I i 1) then (some (false, I)) else (some (true, I))
set_option maxHeartbeats 4000000 in
set_option maxRecDepth 100000 in
theorem c_X8_hasTasks (l : Launch) (G : Gx) (I : Mem) (i : Nat) (hi : kd i = 8) {res : Bool} {J : Mem} (hf : f_X8_hasTasks I i = some (res, J)) : Mi l yX8_hasTasks (.code yX8_hasTasks cX8_hasTasks 1 (some .boolean)) 0 0 G I [.ref (G.2.1 i)] (b2i res) J := by
  refine Mi.of (by decide +kernel) (Nat.le_of_ble_eq_true rfl) (fun p e s m below meth c ls C hr hH hl => ?_)
  have hl : lv_has ls 1 [(0, .ref (G.2.1 i))] := hl
  have hf : (if (I i 2) ≤ (I i 1) then (some (false, I)) else (some (true, I))) = _ := hf
  refine lv_aload_n C.1 C.2.1 dX8_hasTasks_0 rfl (lv_at hl 0 rfl) ?_
  refine g_X8_1 C hH hi tw_284 dX8_hasTasks_1 ?_
  refine lv_aload_n C.1 C.2.1 dX8_hasTasks_4 rfl (lv_at hl 0 rfl) ?_
  refine g_X8_2 C hH hi tw_285 dX8_hasTasks_5 ?_
  refine lv_icmp_ge (tgt := 15) C.1 C.2.1 dX8_hasTasks_8 (by decide) (fun q1 => ?_) (fun q1 => ?_)
  · have hf := (if_pos q1).symm.trans hf
    refine lv_iconst (v := (0 : Int32)) C.1 C.2.1 dX8_hasTasks_15 (by decide) ?_
    cases hf
    exact x_zret C hr hH rfl dX8_hasTasks_16
  · have hf := (if_neg q1).symm.trans hf
    refine lv_iconst (v := (1 : Int32)) C.1 C.2.1 dX8_hasTasks_11 (by decide) ?_
    refine lv_goto (tgt := 16) C.1 C.2.1 dX8_hasTasks_12 (by decide) ?_
    cases hf
    exact x_zret C hr hH rfl dX8_hasTasks_16
def f_X8_addTask (I : Mem) (i : Nat) (p0 : Int32) : Option Mem := if (80 : Int32) ≤ (I i 2) then (some I) else (if inb (I i 2) (ln (i + 1)) = true then (some (st (st I (i + 1) (I i 2).toNatClampNeg p0) i 2 (((st I (i + 1) (I i 2).toNatClampNeg p0) i 2) + (1 : Int32)))) else none)
set_option maxHeartbeats 4000000 in
set_option maxRecDepth 100000 in
theorem c_X8_addTask (l : Launch) (G : Gx) (I : Mem) (i : Nat) (p0 : Int32) (hi : kd i = 8) {J : Mem} (hf : f_X8_addTask I i p0 = some J) : Mv l yX8_addTask (.code yX8_addTask cX8_addTask 2 none) 0 0 G I [.ref (G.2.1 i), .int p0] J := by
  refine Mv.of (by decide +kernel) (Nat.le_of_ble_eq_true rfl) (fun p e s m below meth c ls C hr hH hl => ?_)
  have hl : lv_has ls 2 [(0, .ref (G.2.1 i)), (1, .int p0)] := hl
  have hf : (if (80 : Int32) ≤ (I i 2) then (some I) else (if inb (I i 2) (ln (i + 1)) = true then (some (st (st I (i + 1) (I i 2).toNatClampNeg p0) i 2 (((st I (i + 1) (I i 2).toNatClampNeg p0) i 2) + (1 : Int32)))) else none)) = _ := hf
  refine lv_aload_n C.1 C.2.1 dX8_addTask_0 rfl (lv_at hl 0 rfl) ?_
  refine g_X8_2 C hH hi tw_285 dX8_addTask_1 ?_
  refine lv_bipush (v := (80 : Int32)) C.1 C.2.1 dX8_addTask_4 (by decide) ?_
  refine lv_icmp_ge (tgt := 29) C.1 C.2.1 dX8_addTask_6 (by decide) (fun q2 => ?_) (fun q2 => ?_)
  · have hf := (if_pos q2).symm.trans hf
    cases hf
    exact x_vret C hr hH dX8_addTask_29
  · have hf := (if_neg q2).symm.trans hf
    refine lv_aload_n C.1 C.2.1 dX8_addTask_9 rfl (lv_at hl 0 rfl) ?_
    refine g_X8_0 C hH hi tw_283 dX8_addTask_10 ?_
    refine lv_aload_n C.1 C.2.1 dX8_addTask_13 rfl (lv_at hl 0 rfl) ?_
    refine g_X8_2 C hH hi tw_285 dX8_addTask_14 ?_
    refine lv_iload_n C.1 C.2.1 dX8_addTask_17 rfl (lv_at hl 1 rfl) ?_
    obtain ⟨q1, hf⟩ := itn hf
    refine x_iast C hH (kd_tasks hi) q1 dX8_addTask_18 (fun H locs hH => ?_)
    refine lv_aload_n C.1 C.2.1 dX8_addTask_19 rfl (lv_at hl 0 rfl) ?_
    refine lv_dup C.1 C.2.1 dX8_addTask_20 rfl ?_
    refine g_X8_2 C hH hi tw_285 dX8_addTask_21 ?_
    refine lv_iconst (v := (1 : Int32)) C.1 C.2.1 dX8_addTask_24 (by decide) ?_
    refine lv_iadd C.1 C.2.1 dX8_addTask_25 ?_
    refine p_X8_2 C hH hi  tw_285 dX8_addTask_26 (fun H locs hH => ?_)
    cases hf
    exact x_vret C hr hH dX8_addTask_29
def f_X8_takeLast (I : Mem) (i : Nat) : Option (Int32 × Mem) := (f_X8_hasTasks I i).bind fun q1 => (if (b2i q1.1) = 0 then (some ((0 : Int32), q1.2)) else (if inb ((st q1.2 i 2 ((q1.2 i 2) - (1 : Int32))) i 2) (ln (i + 1)) = true then (some (((st q1.2 i 2 ((q1.2 i 2) - (1 : Int32))) (i + 1) ((st q1.2 i 2 ((q1.2 i 2) - (1 : Int32))) i 2).toNatClampNeg), (st q1.2 i 2 ((q1.2 i 2) - (1 : Int32))))) else none))
set_option maxHeartbeats 4000000 in
set_option maxRecDepth 100000 in
theorem c_X8_takeLast (l : Launch) (G : Gx) (I : Mem) (i : Nat) (hi : kd i = 8) {res : Int32} {J : Mem} (hf : f_X8_takeLast I i = some (res, J)) : Mi l yX8_takeLast (.code yX8_takeLast cX8_takeLast 1 (some .int)) 1 20 G I [.ref (G.2.1 i)] res J := by
  refine Mi.of (by decide +kernel) (Nat.le_of_ble_eq_true rfl) (fun p e s m below meth c ls C hr hH hl => ?_)
  have hl : lv_has ls 1 [(0, .ref (G.2.1 i))] := hl
  have hf : ((f_X8_hasTasks I i).bind fun q1 => (if (b2i q1.1) = 0 then (some ((0 : Int32), q1.2)) else (if inb ((st q1.2 i 2 ((q1.2 i 2) - (1 : Int32))) i 2) (ln (i + 1)) = true then (some (((st q1.2 i 2 ((q1.2 i 2) - (1 : Int32))) (i + 1) ((st q1.2 i 2 ((q1.2 i 2) - (1 : Int32))) i 2).toNatClampNeg), (st q1.2 i 2 ((q1.2 i 2) - (1 : Int32))))) else none))) = _ := hf
  refine lv_aload_n C.1 C.2.1 dX8_takeLast_0 rfl (lv_at hl 0 rfl) ?_
  obtain ⟨q1, hc, hf⟩ := Option.bind_eq_some_iff.mp hf
  refine x_ci (n := 0) C hH (c_X8_hasTasks l G I i hi hc) (kd_lt hi (by decide)) (cE_8 hi) rfl tw_756 tw_761 tw_754 tw_755 tw_56 (by decide +kernel) ⟨Nat.le_of_ble_eq_true rfl, Nat.le_of_ble_eq_true rfl⟩ rfl hl.1 rfl (Nat.le_of_ble_eq_true rfl) ⟨Nat.le_of_ble_eq_true rfl, Nat.le_of_ble_eq_true rfl⟩ dX8_takeLast_1 (fun H locs hH => ?_)
  refine lv_if_ne (tgt := 9) C.1 C.2.1 dX8_takeLast_4 (by decide) (fun q3 => ?_) (fun q3 => ?_)
  · have hf := (if_neg q3).symm.trans hf
    refine lv_aload_n C.1 C.2.1 dX8_takeLast_9 rfl (lv_at hl 0 rfl) ?_
    refine lv_dup C.1 C.2.1 dX8_takeLast_10 rfl ?_
    refine g_X8_2 C hH hi tw_285 dX8_takeLast_11 ?_
    refine lv_iconst (v := (1 : Int32)) C.1 C.2.1 dX8_takeLast_14 (by decide) ?_
    refine lv_isub C.1 C.2.1 dX8_takeLast_15 ?_
    refine p_X8_2 C hH hi  tw_285 dX8_takeLast_16 (fun H locs hH => ?_)
    refine lv_aload_n C.1 C.2.1 dX8_takeLast_19 rfl (lv_at hl 0 rfl) ?_
    refine g_X8_0 C hH hi tw_283 dX8_takeLast_20 ?_
    refine lv_aload_n C.1 C.2.1 dX8_takeLast_23 rfl (lv_at hl 0 rfl) ?_
    refine g_X8_2 C hH hi tw_285 dX8_takeLast_24 ?_
    obtain ⟨q2, hf⟩ := itn hf
    refine x_iald C hH (kd_tasks hi) q2 dX8_takeLast_27 ?_
    cases hf
    exact x_iret C hr hH dX8_takeLast_28
  · have hf := (if_pos q3).symm.trans hf
    refine lv_iconst (v := (0 : Int32)) C.1 C.2.1 dX8_takeLast_7 (by decide) ?_
    cases hf
    exact x_iret C hr hH dX8_takeLast_8
def f_X8_takeFirst (I : Mem) (i : Nat) : Option (Int32 × Mem) := (f_X8_hasTasks I i).bind fun q1 => (if (b2i q1.1) = 0 then (some ((0 : Int32), q1.2)) else (if inb (((st q1.2 i 1 ((q1.2 i 1) + (1 : Int32))) i 1) - (1 : Int32)) (ln (i + 1)) = true then (some (((st q1.2 i 1 ((q1.2 i 1) + (1 : Int32))) (i + 1) (((st q1.2 i 1 ((q1.2 i 1) + (1 : Int32))) i 1) - (1 : Int32)).toNatClampNeg), (st q1.2 i 1 ((q1.2 i 1) + (1 : Int32))))) else none))
set_option maxHeartbeats 4000000 in
set_option maxRecDepth 100000 in
theorem c_X8_takeFirst (l : Launch) (G : Gx) (I : Mem) (i : Nat) (hi : kd i = 8) {res : Int32} {J : Mem} (hf : f_X8_takeFirst I i = some (res, J)) : Mi l yX8_takeFirst (.code yX8_takeFirst cX8_takeFirst 1 (some .int)) 1 20 G I [.ref (G.2.1 i)] res J := by
  refine Mi.of (by decide +kernel) (Nat.le_of_ble_eq_true rfl) (fun p e s m below meth c ls C hr hH hl => ?_)
  have hl : lv_has ls 1 [(0, .ref (G.2.1 i))] := hl
  have hf : ((f_X8_hasTasks I i).bind fun q1 => (if (b2i q1.1) = 0 then (some ((0 : Int32), q1.2)) else (if inb (((st q1.2 i 1 ((q1.2 i 1) + (1 : Int32))) i 1) - (1 : Int32)) (ln (i + 1)) = true then (some (((st q1.2 i 1 ((q1.2 i 1) + (1 : Int32))) (i + 1) (((st q1.2 i 1 ((q1.2 i 1) + (1 : Int32))) i 1) - (1 : Int32)).toNatClampNeg), (st q1.2 i 1 ((q1.2 i 1) + (1 : Int32))))) else none))) = _ := hf
  refine lv_aload_n C.1 C.2.1 dX8_takeFirst_0 rfl (lv_at hl 0 rfl) ?_
  obtain ⟨q1, hc, hf⟩ := Option.bind_eq_some_iff.mp hf
  refine x_ci (n := 0) C hH (c_X8_hasTasks l G I i hi hc) (kd_lt hi (by decide)) (cE_8 hi) rfl tw_756 tw_761 tw_754 tw_755 tw_56 (by decide +kernel) ⟨Nat.le_of_ble_eq_true rfl, Nat.le_of_ble_eq_true rfl⟩ rfl hl.1 rfl (Nat.le_of_ble_eq_true rfl) ⟨Nat.le_of_ble_eq_true rfl, Nat.le_of_ble_eq_true rfl⟩ dX8_takeFirst_1 (fun H locs hH => ?_)
  refine lv_if_ne (tgt := 9) C.1 C.2.1 dX8_takeFirst_4 (by decide) (fun q3 => ?_) (fun q3 => ?_)
  · have hf := (if_neg q3).symm.trans hf
    refine lv_aload_n C.1 C.2.1 dX8_takeFirst_9 rfl (lv_at hl 0 rfl) ?_
    refine lv_dup C.1 C.2.1 dX8_takeFirst_10 rfl ?_
    refine g_X8_1 C hH hi tw_284 dX8_takeFirst_11 ?_
    refine lv_iconst (v := (1 : Int32)) C.1 C.2.1 dX8_takeFirst_14 (by decide) ?_
    refine lv_iadd C.1 C.2.1 dX8_takeFirst_15 ?_
    refine p_X8_1 C hH hi  tw_284 dX8_takeFirst_16 (fun H locs hH => ?_)
    refine lv_aload_n C.1 C.2.1 dX8_takeFirst_19 rfl (lv_at hl 0 rfl) ?_
    refine g_X8_0 C hH hi tw_283 dX8_takeFirst_20 ?_
    refine lv_aload_n C.1 C.2.1 dX8_takeFirst_23 rfl (lv_at hl 0 rfl) ?_
    refine g_X8_1 C hH hi tw_284 dX8_takeFirst_24 ?_
    refine lv_iconst (v := (1 : Int32)) C.1 C.2.1 dX8_takeFirst_27 (by decide) ?_
    refine lv_isub C.1 C.2.1 dX8_takeFirst_28 ?_
    obtain ⟨q2, hf⟩ := itn hf
    refine x_iald C hH (kd_tasks hi) q2 dX8_takeFirst_29 ?_
    cases hf
    exact x_iret C hr hH dX8_takeFirst_30
  · have hf := (if_pos q3).symm.trans hf
    refine lv_iconst (v := (0 : Int32)) C.1 C.2.1 dX8_takeFirst_7 (by decide) ?_
    cases hf
    exact x_iret C hr hH dX8_takeFirst_8
def f_X0_become (I : Mem) (p0 : Int32) (p1 : Int32) (p2 : Int32) : Option Mem := some (st (st (st I 35 1 p0) 35 2 p1) 35 3 p2)
set_option maxHeartbeats 4000000 in
set_option maxRecDepth 100000 in
theorem c_X0_become (l : Launch) (G : Gx) (I : Mem) (p0 : Int32) (p1 : Int32) (p2 : Int32) {J : Mem} (hf : f_X0_become I p0 p1 p2 = some J) : Mv l yX0_become (.code yX0_become cX0_become 4 none) 0 0 G I [.ref (G.2.1 35), .int p0, .int p1, .int p2] J := by
  refine Mv.of (by decide +kernel) (Nat.le_of_ble_eq_true rfl) (fun p e s m below meth c ls C hr hH hl => ?_)
  have hl : lv_has ls 4 [(0, .ref (G.2.1 35)), (1, .int p0), (2, .int p1), (3, .int p2)] := hl
  have hf : (some (st (st (st I 35 1 p0) 35 2 p1) 35 3 p2)) = _ := hf
  refine lv_aload_n C.1 C.2.1 dX0_become_0 rfl (lv_at hl 0 rfl) ?_
  refine lv_iload_n C.1 C.2.1 dX0_become_1 rfl (lv_at hl 1 rfl) ?_
  refine p_X0_1 C hH kk_35  tw_300 dX0_become_2 (fun H locs hH => ?_)
  refine lv_aload_n C.1 C.2.1 dX0_become_5 rfl (lv_at hl 0 rfl) ?_
  refine lv_iload_n C.1 C.2.1 dX0_become_6 rfl (lv_at hl 2 rfl) ?_
  refine p_X0_2 C hH kk_35  tw_301 dX0_become_7 (fun H locs hH => ?_)
  refine lv_aload_n C.1 C.2.1 dX0_become_10 rfl (lv_at hl 0 rfl) ?_
  refine lv_iload_n C.1 C.2.1 dX0_become_11 rfl (lv_at hl 3 rfl) ?_
  refine p_X0_3 C hH kk_35  tw_302 dX0_become_12 (fun H locs hH => ?_)
  cases hf
  exact x_vret C hr hH dX0_become_15
def f_X0_allDone_L4   : Nat → Mem → Int32 → Int32 → Option (Int32 × Mem)
  | 0, _, _, _ => none
  | n + 1, I, x1, x2 => if (4 : Int32) ≤ x2 then (some (x1, I)) else (if inb x2 (ln 36) = true then (f_X0_allDone_L4 n I (x1 + (I (37 + 2 * x2.toNatClampNeg) 3)) (x2 + (1 : Int32))) else none)
set_option maxHeartbeats 4000000 in
set_option maxRecDepth 100000 in
theorem w_X0_allDone_L4 {p : Program} {l : Launch} {e : Env} {s : State} {m : MethodId} {args : Array Value} {below : List Frame} {meth : Method} {c : Code} {G : Gx} {res : Int32} {J : Mem} (C : CX p l s m args meth c cX0_allDone 3 yX0_allDone.cls G) (hr : meth.sig.returnType = (some .int)) :
    ∀ (n : Nat) (I : Mem) (x1 : Int32) (x2 : Int32) (H : Heap) (locs : List Loc) (ls : Array Slot), HW G s H locs I → lv_has ls 3 [(0, .ref (G.2.1 35)), (1, .int x1), (2, .int x2)] → f_X0_allDone_L4 n I x1 x2 = some (res, J) → W p l e { frames := 0, cells := 0, slots := 0, locals := 0 } s m args below meth c H locs 0 0 (MQ below (Qi9 G res J s.heap.size) args s 0 0 (AA G s.heap.size)) (F0 m 4 ls []) := by
  intro n
  induction n with
  | zero => intro I x1 x2  H locs ls hH hl hf; exact absurd hf (by simp [f_X0_allDone_L4])
  | succ n ih =>
    intro I x1 x2  H locs ls hH hl hf
    have hf : (if (4 : Int32) ≤ x2 then (some (x1, I)) else (if inb x2 (ln 36) = true then (f_X0_allDone_L4 n I (x1 + (I (37 + 2 * x2.toNatClampNeg) 3)) (x2 + (1 : Int32))) else none)) = _ := hf
    refine lv_iload_n C.1 C.2.1 dX0_allDone_4 rfl (lv_at hl 2 rfl) ?_
    refine lv_iconst (v := (4 : Int32)) C.1 C.2.1 dX0_allDone_5 (by decide) ?_
    refine lv_icmp_ge (tgt := 27) C.1 C.2.1 dX0_allDone_6 (by decide) (fun q2 => ?_) (fun q2 => ?_)
    · have hf := (if_pos q2).symm.trans hf
      refine lv_iload_n C.1 C.2.1 dX0_allDone_27 rfl (lv_at hl 1 rfl) ?_
      cases hf
      exact x_iret C hr hH dX0_allDone_28
    · have hf := (if_neg q2).symm.trans hf
      refine lv_iload_n C.1 C.2.1 dX0_allDone_9 rfl (lv_at hl 1 rfl) ?_
      refine lv_aload_n C.1 C.2.1 dX0_allDone_10 rfl (lv_at hl 0 rfl) ?_
      refine g_X0_0 C hH kk_35 tw_298 dX0_allDone_11 ?_
      refine lv_iload_n C.1 C.2.1 dX0_allDone_14 rfl (lv_at hl 2 rfl) ?_
      obtain ⟨q1, hf⟩ := itn hf
      refine x_aldW C hH kk_36 q1 dX0_allDone_15 ?_
      refine gN_X8_3 C hH (kd_Wk q1) tw_287 dX0_allDone_16 ?_
      refine lv_iadd C.1 C.2.1 dX0_allDone_19 ?_
      refine lv_istore_n (lv' := [(1, .int (x1 + (I (37 + 2 * x2.toNatClampNeg) 3))), (0, .ref (G.2.1 35)), (2, .int x2)]) C.1 C.2.1 dX0_allDone_20 rfl hl (by decide) rfl (fun ls hl => ?_)
      refine lv_iinc (v := (x2 + (1 : Int32))) (lv' := [(2, .int (x2 + (1 : Int32))), (1, .int (x1 + (I (37 + 2 * x2.toNatClampNeg) 3))), (0, .ref (G.2.1 35))]) C.1 C.2.1 dX0_allDone_21 hl (k := 2) rfl rfl (by decide) rfl (fun ls hl => ?_)
      refine lv_goto (tgt := 4) C.1 C.2.1 dX0_allDone_24 (by decide) ?_
      exact ih I (x1 + (I (37 + 2 * x2.toNatClampNeg) 3)) (x2 + (1 : Int32))  _ _ _ hH (lv_sub hl [2, 1, 0] rfl) hf
def f_X0_allDone (I : Mem)  : Option (Int32 × Mem) := f_X0_allDone_L4 FU I (0 : Int32) (0 : Int32)
set_option maxHeartbeats 4000000 in
set_option maxRecDepth 100000 in
theorem c_X0_allDone (l : Launch) (G : Gx) (I : Mem) {res : Int32} {J : Mem} (hf : f_X0_allDone I = some (res, J)) : Mi l yX0_allDone (.code yX0_allDone cX0_allDone 3 (some .int)) 0 0 G I [.ref (G.2.1 35)] res J := by
  refine Mi.of (by decide +kernel) (Nat.le_of_ble_eq_true rfl) (fun p e s m below meth c ls C hr hH hl => ?_)
  have hl : lv_has ls 3 [(0, .ref (G.2.1 35))] := hl
  have hf : (f_X0_allDone_L4 FU I (0 : Int32) (0 : Int32)) = _ := hf
  refine lv_iconst (v := (0 : Int32)) C.1 C.2.1 dX0_allDone_0 (by decide) ?_
  refine lv_istore_n (lv' := [(1, .int (0 : Int32)), (0, .ref (G.2.1 35))]) C.1 C.2.1 dX0_allDone_1 rfl hl (by decide) rfl (fun ls hl => ?_)
  refine lv_iconst (v := (0 : Int32)) C.1 C.2.1 dX0_allDone_2 (by decide) ?_
  refine lv_istore_n (lv' := [(2, .int (0 : Int32)), (1, .int (0 : Int32)), (0, .ref (G.2.1 35))]) C.1 C.2.1 dX0_allDone_3 rfl hl (by decide) rfl (fun ls hl => ?_)
  exact w_X0_allDone_L4 C hr FU I (0 : Int32) (0 : Int32) _ _ _ hH (lv_sub hl [2, 1, 0] rfl) hf
def f_X0_stolenBy_L2 (p0 : Int32)  : Nat → Mem → Int32 → Int32 → Option (Int32 × Mem)
  | 0, _, _, _ => none
  | n + 1, I, x1, x2 => if (I 35 2) ≤ x2 then (some ((0 : Int32), I)) else (if (I 35 2) = 0 then none else (if inb ((x1 + x2) - (x1 + x2) / (I 35 2) * (I 35 2)) (ln 36) = true then ((f_X8_hasTasks I (37 + 2 * ((x1 + x2) - (x1 + x2) / (I 35 2) * (I 35 2)).toNatClampNeg)).bind fun q2 => (if (b2i q2.1) = 0 then (f_X0_stolenBy_L2 p0 n q2.2 x1 (x2 + (1 : Int32))) else ((f_X8_takeFirst (st q2.2 35 6 ((q2.2 35 6) + (1 : Int32))) (37 + 2 * ((x1 + x2) - (x1 + x2) / (I 35 2) * (I 35 2)).toNatClampNeg)).bind fun q3 => (some (q3.1, q3.2))))) else none))
set_option maxHeartbeats 4000000 in
set_option maxRecDepth 100000 in
theorem w_X0_stolenBy_L2 {p : Program} {l : Launch} {e : Env} {s : State} {m : MethodId} {args : Array Value} {below : List Frame} {meth : Method} {c : Code} {G : Gx} (p0 : Int32) {res : Int32} {J : Mem} (C : CX p l s m args meth c cX0_stolenBy 4 yX0_stolenBy.cls G) (hr : meth.sig.returnType = (some .int)) :
    ∀ (n : Nat) (I : Mem) (x1 : Int32) (x2 : Int32) (H : Heap) (locs : List Loc) (ls : Array Slot), HW G s H locs I → lv_has ls 4 [(0, .ref (G.2.1 35)), (1, .int x1), (2, .int x2)] → f_X0_stolenBy_L2 p0 n I x1 x2 = some (res, J) → W p l e { frames := 2, cells := 0, slots := 0, locals := 40 } s m args below meth c H locs 0 0 (MQ below (Qi9 G res J s.heap.size) args s 0 0 (AA G s.heap.size)) (F0 m 2 ls []) := by
  intro n
  induction n with
  | zero => intro I x1 x2  H locs ls hH hl hf; exact absurd hf (by simp [f_X0_stolenBy_L2])
  | succ n ih =>
    intro I x1 x2  H locs ls hH hl hf
    have hf : (if (I 35 2) ≤ x2 then (some ((0 : Int32), I)) else (if (I 35 2) = 0 then none else (if inb ((x1 + x2) - (x1 + x2) / (I 35 2) * (I 35 2)) (ln 36) = true then ((f_X8_hasTasks I (37 + 2 * ((x1 + x2) - (x1 + x2) / (I 35 2) * (I 35 2)).toNatClampNeg)).bind fun q2 => (if (b2i q2.1) = 0 then (f_X0_stolenBy_L2 p0 n q2.2 x1 (x2 + (1 : Int32))) else ((f_X8_takeFirst (st q2.2 35 6 ((q2.2 35 6) + (1 : Int32))) (37 + 2 * ((x1 + x2) - (x1 + x2) / (I 35 2) * (I 35 2)).toNatClampNeg)).bind fun q3 => (some (q3.1, q3.2))))) else none))) = _ := hf
    refine lv_iload_n C.1 C.2.1 dX0_stolenBy_2 rfl (lv_at hl 2 rfl) ?_
    refine lv_aload_n C.1 C.2.1 dX0_stolenBy_3 rfl (lv_at hl 0 rfl) ?_
    refine g_X0_2 C hH kk_35 tw_301 dX0_stolenBy_4 ?_
    refine lv_icmp_ge (tgt := 52) C.1 C.2.1 dX0_stolenBy_7 (by decide) (fun q6 => ?_) (fun q6 => ?_)
    · have hf := (if_pos q6).symm.trans hf
      refine lv_iconst (v := (0 : Int32)) C.1 C.2.1 dX0_stolenBy_52 (by decide) ?_
      cases hf
      exact x_iret C hr hH dX0_stolenBy_53
    · have hf := (if_neg q6).symm.trans hf
      refine lv_aload_n C.1 C.2.1 dX0_stolenBy_10 rfl (lv_at hl 0 rfl) ?_
      refine g_X0_0 C hH kk_35 tw_298 dX0_stolenBy_11 ?_
      refine lv_iload_n C.1 C.2.1 dX0_stolenBy_14 rfl (lv_at hl 1 rfl) ?_
      refine lv_iload_n C.1 C.2.1 dX0_stolenBy_15 rfl (lv_at hl 2 rfl) ?_
      refine lv_iadd C.1 C.2.1 dX0_stolenBy_16 ?_
      refine lv_aload_n C.1 C.2.1 dX0_stolenBy_17 rfl (lv_at hl 0 rfl) ?_
      refine g_X0_2 C hH kk_35 tw_301 dX0_stolenBy_18 ?_
      obtain ⟨q5, hf⟩ := itn' hf
      refine lv_irem C.1 C.2.1 dX0_stolenBy_21 q5 ?_
      obtain ⟨q1, hf⟩ := itn hf
      refine x_aldW C hH kk_36 q1 dX0_stolenBy_22 ?_
      refine lv_astore_n (lv' := [(3, .ref (G.2.1 (37 + 2 * ((x1 + x2) - (x1 + x2) / (I 35 2) * (I 35 2)).toNatClampNeg))), (0, .ref (G.2.1 35)), (1, .int x1), (2, .int x2)]) C.1 C.2.1 dX0_stolenBy_23 rfl hl (by decide) rfl (fun ls hl => ?_)
      refine lv_aload_n C.1 C.2.1 dX0_stolenBy_24 rfl (lv_at hl 0 rfl) ?_
      obtain ⟨q2, hc, hf⟩ := Option.bind_eq_some_iff.mp hf
      refine x_ci (n := 0) C hH (c_X8_hasTasks l G I (37 + 2 * ((x1 + x2) - (x1 + x2) / (I 35 2) * (I 35 2)).toNatClampNeg) (kd_Wk q1) hc) (kd_lt (kd_Wk q1) (by decide)) (cE_8 (kd_Wk q1)) rfl tw_756 tw_753 tw_754 tw_755 tw_56 (by decide +kernel) ⟨Nat.le_of_ble_eq_true rfl, Nat.le_of_ble_eq_true rfl⟩ rfl hl.1 rfl (Nat.le_of_ble_eq_true rfl) ⟨Nat.le_of_ble_eq_true rfl, Nat.le_of_ble_eq_true rfl⟩ dX0_stolenBy_25 (fun H locs hH => ?_)
      refine lv_if_eq (tgt := 46) C.1 C.2.1 dX0_stolenBy_28 (by decide) (fun q4 => ?_) (fun q4 => ?_)
      · have hf := (if_pos q4).symm.trans hf
        refine lv_iinc (v := (x2 + (1 : Int32))) (lv' := [(2, .int (x2 + (1 : Int32))), (3, .ref (G.2.1 (37 + 2 * ((x1 + x2) - (x1 + x2) / (I 35 2) * (I 35 2)).toNatClampNeg))), (0, .ref (G.2.1 35)), (1, .int x1)]) C.1 C.2.1 dX0_stolenBy_46 hl (k := 3) rfl rfl (by decide) rfl (fun ls hl => ?_)
        refine lv_goto (tgt := 2) C.1 C.2.1 dX0_stolenBy_49 (by decide) ?_
        exact ih q2.2 x1 (x2 + (1 : Int32))  _ _ _ hH (lv_sub hl [2, 3, 0] rfl) hf
      · have hf := (if_neg q4).symm.trans hf
        refine lv_aload_n C.1 C.2.1 dX0_stolenBy_31 rfl (lv_at hl 1 rfl) ?_
        refine lv_dup C.1 C.2.1 dX0_stolenBy_32 rfl ?_
        refine g_X0_6 C hH kk_35 tw_306 dX0_stolenBy_33 ?_
        refine lv_iconst (v := (1 : Int32)) C.1 C.2.1 dX0_stolenBy_36 (by decide) ?_
        refine lv_iadd C.1 C.2.1 dX0_stolenBy_37 ?_
        refine p_X0_6 C hH kk_35  tw_306 dX0_stolenBy_38 (fun H locs hH => ?_)
        refine lv_aload_n C.1 C.2.1 dX0_stolenBy_41 rfl (lv_at hl 0 rfl) ?_
        obtain ⟨q3, hc, hf⟩ := Option.bind_eq_some_iff.mp hf
        refine x_ci (n := 0) C hH (c_X8_takeFirst l G (st q2.2 35 6 ((q2.2 35 6) + (1 : Int32))) (37 + 2 * ((x1 + x2) - (x1 + x2) / (I 35 2) * (I 35 2)).toNatClampNeg) (kd_Wk q1) hc) (kd_lt (kd_Wk q1) (by decide)) (cE_8 (kd_Wk q1)) rfl tw_769 tw_766 tw_767 tw_768 tw_56 (by decide +kernel) ⟨Nat.le_of_ble_eq_true rfl, Nat.le_of_ble_eq_true rfl⟩ rfl hl.1 rfl (Nat.le_of_ble_eq_true rfl) ⟨Nat.le_of_ble_eq_true rfl, Nat.le_of_ble_eq_true rfl⟩ dX0_stolenBy_42 (fun H locs hH => ?_)
        cases hf
        exact x_iret C hr hH dX0_stolenBy_45
def f_X0_stolenBy (I : Mem) (p0 : Int32) : Option (Int32 × Mem) := f_X0_stolenBy_L2 p0 FU I p0 (1 : Int32)
set_option maxHeartbeats 4000000 in
set_option maxRecDepth 100000 in
theorem c_X0_stolenBy (l : Launch) (G : Gx) (I : Mem) (p0 : Int32) {res : Int32} {J : Mem} (hf : f_X0_stolenBy I p0 = some (res, J)) : Mi l yX0_stolenBy (.code yX0_stolenBy cX0_stolenBy 4 (some .int)) 2 40 G I [.ref (G.2.1 35), .int p0] res J := by
  refine Mi.of (by decide +kernel) (Nat.le_of_ble_eq_true rfl) (fun p e s m below meth c ls C hr hH hl => ?_)
  have hl : lv_has ls 4 [(0, .ref (G.2.1 35)), (1, .int p0)] := hl
  have hf : (f_X0_stolenBy_L2 p0 FU I p0 (1 : Int32)) = _ := hf
  refine lv_iconst (v := (1 : Int32)) C.1 C.2.1 dX0_stolenBy_0 (by decide) ?_
  refine lv_istore_n (lv' := [(2, .int (1 : Int32)), (0, .ref (G.2.1 35)), (1, .int p0)]) C.1 C.2.1 dX0_stolenBy_1 rfl hl (by decide) rfl (fun ls hl => ?_)
  exact w_X0_stolenBy_L2 p0 C hr FU I p0 (1 : Int32) _ _ _ hH (lv_sub hl [1, 2, 0] rfl) hf
def f_X0_takeTurn_J26 (p0 : Int32)  (I : Mem) (r2 : Nat) (y0 : Int32) : Option Mem := if y0 ≤ (I 35 1) then (some (st (st I r2 3 ((I r2 3) + (1 : Int32))) 35 4 (((st I r2 3 ((I r2 3) + (1 : Int32))) 35 4) - (1 : Int32)))) else (if (2 : Int32) = 0 then none else ((f_X8_addTask I r2 (y0 - (y0 / (2 : Int32)))).bind fun q6 => (if (2 : Int32) = 0 then none else ((f_X8_addTask q6 r2 (y0 / (2 : Int32))).bind fun q7 => (some (st q7 35 4 ((q7 35 4) + (1 : Int32))))))))
set_option maxHeartbeats 4000000 in
set_option maxRecDepth 100000 in
theorem w_X0_takeTurn_J26 {p : Program} {l : Launch} {e : Env} {s : State} {m : MethodId} {args : Array Value} {below : List Frame} {meth : Method} {c : Code} {G : Gx} (p0 : Int32) {J : Mem} (C : CX p l s m args meth c cX0_takeTurn 4 yX0_takeTurn.cls G) (hr : meth.sig.returnType = none) :
    ∀ (I : Mem) (r2 : Nat) (y0 : Int32) (hr2 : kd r2 = 8) (H : Heap) (locs : List Loc) (ls : Array Slot), HW G s H locs I → lv_has ls 4 [(0, .ref (G.2.1 35)), (2, .ref (G.2.1 r2))] → f_X0_takeTurn_J26 p0 I r2 y0 = some J → W p l e { frames := 3, cells := 0, slots := 0, locals := 63 } s m args below meth c H locs 0 0 (MQ below (Qv9 G J s.heap.size) args s 0 0 (AA G s.heap.size)) (F0 m 26 ls [.int y0]) := by
  intro I r2 y0 hr2 H locs ls hH hl hf
  have hf : (if y0 ≤ (I 35 1) then (some (st (st I r2 3 ((I r2 3) + (1 : Int32))) 35 4 (((st I r2 3 ((I r2 3) + (1 : Int32))) 35 4) - (1 : Int32)))) else (if (2 : Int32) = 0 then none else ((f_X8_addTask I r2 (y0 - (y0 / (2 : Int32)))).bind fun q6 => (if (2 : Int32) = 0 then none else ((f_X8_addTask q6 r2 (y0 / (2 : Int32))).bind fun q7 => (some (st q7 35 4 ((q7 35 4) + (1 : Int32))))))))) = _ := hf
  refine lv_istore_n (lv' := [(3, .int y0), (0, .ref (G.2.1 35)), (2, .ref (G.2.1 r2))]) C.1 C.2.1 dX0_takeTurn_26 rfl hl (by decide) rfl (fun ls hl => ?_)
  refine lv_iload_n C.1 C.2.1 dX0_takeTurn_27 rfl (lv_at hl 0 rfl) ?_
  refine lv_aload_n C.1 C.2.1 dX0_takeTurn_28 rfl (lv_at hl 1 rfl) ?_
  refine g_X0_1 C hH kk_35 tw_300 dX0_takeTurn_29 ?_
  refine lv_icmp_le (tgt := 64) C.1 C.2.1 dX0_takeTurn_32 (by decide) (fun q10 => ?_) (fun q10 => ?_)
  · have hf := (if_pos q10).symm.trans hf
    refine lv_aload_n C.1 C.2.1 dX0_takeTurn_64 rfl (lv_at hl 2 rfl) ?_
    refine lv_dup C.1 C.2.1 dX0_takeTurn_65 rfl ?_
    refine gN_X8_3 C hH hr2 tw_287 dX0_takeTurn_66 ?_
    refine lv_iconst (v := (1 : Int32)) C.1 C.2.1 dX0_takeTurn_69 (by decide) ?_
    refine lv_iadd C.1 C.2.1 dX0_takeTurn_70 ?_
    refine pN_X8_3 C hH hr2  tw_287 dX0_takeTurn_71 (fun H locs hH => ?_)
    refine lv_aload_n C.1 C.2.1 dX0_takeTurn_74 rfl (lv_at hl 1 rfl) ?_
    refine lv_dup C.1 C.2.1 dX0_takeTurn_75 rfl ?_
    refine g_X0_4 C hH kk_35 tw_303 dX0_takeTurn_76 ?_
    refine lv_iconst (v := (1 : Int32)) C.1 C.2.1 dX0_takeTurn_79 (by decide) ?_
    refine lv_isub C.1 C.2.1 dX0_takeTurn_80 ?_
    refine p_X0_4 C hH kk_35  tw_303 dX0_takeTurn_81 (fun H locs hH => ?_)
    cases hf
    exact x_vret C hr hH dX0_takeTurn_84
  · have hf := (if_neg q10).symm.trans hf
    refine lv_aload_n C.1 C.2.1 dX0_takeTurn_35 rfl (lv_at hl 2 rfl) ?_
    refine lv_iload_n C.1 C.2.1 dX0_takeTurn_36 rfl (lv_at hl 0 rfl) ?_
    refine lv_iload_n C.1 C.2.1 dX0_takeTurn_37 rfl (lv_at hl 0 rfl) ?_
    refine lv_iconst (v := (2 : Int32)) C.1 C.2.1 dX0_takeTurn_38 (by decide) ?_
    obtain ⟨q9, hf⟩ := itn' hf
    refine lv_idiv C.1 C.2.1 dX0_takeTurn_39 q9 ?_
    refine lv_isub C.1 C.2.1 dX0_takeTurn_40 ?_
    obtain ⟨q6, hc, hf⟩ := Option.bind_eq_some_iff.mp hf
    refine x_cv (n := 1) C hH (c_X8_addTask l G I r2 (y0 - (y0 / (2 : Int32))) hr2 hc) (kd_lt hr2 (by decide)) (cE_8 hr2) rfl tw_747 tw_744 tw_745 tw_746 tw_56 (by decide +kernel) ⟨Nat.le_of_ble_eq_true rfl, Nat.le_of_ble_eq_true rfl⟩ rfl hl.1 rfl (Nat.le_of_ble_eq_true rfl) ⟨Nat.le_of_ble_eq_true rfl, Nat.le_of_ble_eq_true rfl⟩ dX0_takeTurn_41 (fun H locs hH => ?_)
    refine lv_aload_n C.1 C.2.1 dX0_takeTurn_44 rfl (lv_at hl 2 rfl) ?_
    refine lv_iload_n C.1 C.2.1 dX0_takeTurn_45 rfl (lv_at hl 0 rfl) ?_
    refine lv_iconst (v := (2 : Int32)) C.1 C.2.1 dX0_takeTurn_46 (by decide) ?_
    obtain ⟨q8, hf⟩ := itn' hf
    refine lv_idiv C.1 C.2.1 dX0_takeTurn_47 q8 ?_
    obtain ⟨q7, hc, hf⟩ := Option.bind_eq_some_iff.mp hf
    refine x_cv (n := 1) C hH (c_X8_addTask l G q6 r2 (y0 / (2 : Int32)) hr2 hc) (kd_lt hr2 (by decide)) (cE_8 hr2) rfl tw_747 tw_744 tw_745 tw_746 tw_56 (by decide +kernel) ⟨Nat.le_of_ble_eq_true rfl, Nat.le_of_ble_eq_true rfl⟩ rfl hl.1 rfl (Nat.le_of_ble_eq_true rfl) ⟨Nat.le_of_ble_eq_true rfl, Nat.le_of_ble_eq_true rfl⟩ dX0_takeTurn_48 (fun H locs hH => ?_)
    refine lv_aload_n C.1 C.2.1 dX0_takeTurn_51 rfl (lv_at hl 1 rfl) ?_
    refine lv_dup C.1 C.2.1 dX0_takeTurn_52 rfl ?_
    refine g_X0_4 C hH kk_35 tw_303 dX0_takeTurn_53 ?_
    refine lv_iconst (v := (1 : Int32)) C.1 C.2.1 dX0_takeTurn_56 (by decide) ?_
    refine lv_iadd C.1 C.2.1 dX0_takeTurn_57 ?_
    refine p_X0_4 C hH kk_35  tw_303 dX0_takeTurn_58 (fun H locs hH => ?_)
    refine lv_goto (tgt := 84) C.1 C.2.1 dX0_takeTurn_61 (by decide) ?_
    cases hf
    exact x_vret C hr hH dX0_takeTurn_84
def f_X0_takeTurn (I : Mem) (p0 : Int32) : Option Mem := if inb p0 (ln 36) = true then ((f_X8_hasTasks I (37 + 2 * p0.toNatClampNeg)).bind fun q2 => (if (b2i q2.1) = 0 then ((f_X0_stolenBy q2.2 p0).bind fun q3 => (f_X0_takeTurn_J26 p0 q3.2 (37 + 2 * p0.toNatClampNeg) q3.1)) else ((f_X8_takeLast q2.2 (37 + 2 * p0.toNatClampNeg)).bind fun q4 => (f_X0_takeTurn_J26 p0 q4.2 (37 + 2 * p0.toNatClampNeg) q4.1)))) else none
set_option maxHeartbeats 4000000 in
set_option maxRecDepth 100000 in
theorem c_X0_takeTurn (l : Launch) (G : Gx) (I : Mem) (p0 : Int32) {J : Mem} (hf : f_X0_takeTurn I p0 = some J) : Mv l yX0_takeTurn (.code yX0_takeTurn cX0_takeTurn 4 none) 3 63 G I [.ref (G.2.1 35), .int p0] J := by
  refine Mv.of (by decide +kernel) (Nat.le_of_ble_eq_true rfl) (fun p e s m below meth c ls C hr hH hl => ?_)
  have hl : lv_has ls 4 [(0, .ref (G.2.1 35)), (1, .int p0)] := hl
  have hf : (if inb p0 (ln 36) = true then ((f_X8_hasTasks I (37 + 2 * p0.toNatClampNeg)).bind fun q2 => (if (b2i q2.1) = 0 then ((f_X0_stolenBy q2.2 p0).bind fun q3 => (f_X0_takeTurn_J26 p0 q3.2 (37 + 2 * p0.toNatClampNeg) q3.1)) else ((f_X8_takeLast q2.2 (37 + 2 * p0.toNatClampNeg)).bind fun q4 => (f_X0_takeTurn_J26 p0 q4.2 (37 + 2 * p0.toNatClampNeg) q4.1)))) else none) = _ := hf
  refine lv_aload_n C.1 C.2.1 dX0_takeTurn_0 rfl (lv_at hl 0 rfl) ?_
  refine g_X0_0 C hH kk_35 tw_298 dX0_takeTurn_1 ?_
  refine lv_iload_n C.1 C.2.1 dX0_takeTurn_4 rfl (lv_at hl 1 rfl) ?_
  obtain ⟨q1, hf⟩ := itn hf
  refine x_aldW C hH kk_36 q1 dX0_takeTurn_5 ?_
  refine lv_astore_n (lv' := [(2, .ref (G.2.1 (37 + 2 * p0.toNatClampNeg))), (0, .ref (G.2.1 35)), (1, .int p0)]) C.1 C.2.1 dX0_takeTurn_6 rfl hl (by decide) rfl (fun ls hl => ?_)
  refine lv_aload_n C.1 C.2.1 dX0_takeTurn_7 rfl (lv_at hl 0 rfl) ?_
  obtain ⟨q2, hc, hf⟩ := Option.bind_eq_some_iff.mp hf
  refine x_ci (n := 0) C hH (c_X8_hasTasks l G I (37 + 2 * p0.toNatClampNeg) (kd_Wk q1) hc) (kd_lt (kd_Wk q1) (by decide)) (cE_8 (kd_Wk q1)) rfl tw_756 tw_753 tw_754 tw_755 tw_56 (by decide +kernel) ⟨Nat.le_of_ble_eq_true rfl, Nat.le_of_ble_eq_true rfl⟩ rfl hl.1 rfl (Nat.le_of_ble_eq_true rfl) ⟨Nat.le_of_ble_eq_true rfl, Nat.le_of_ble_eq_true rfl⟩ dX0_takeTurn_8 (fun H locs hH => ?_)
  refine lv_if_eq (tgt := 21) C.1 C.2.1 dX0_takeTurn_11 (by decide) (fun q5 => ?_) (fun q5 => ?_)
  · have hf := (if_pos q5).symm.trans hf
    refine lv_aload_n C.1 C.2.1 dX0_takeTurn_21 rfl (lv_at hl 1 rfl) ?_
    refine lv_iload_n C.1 C.2.1 dX0_takeTurn_22 rfl (lv_at hl 2 rfl) ?_
    obtain ⟨q3, hc, hf⟩ := Option.bind_eq_some_iff.mp hf
    refine x_ci (n := 1) C hH (c_X0_stolenBy l G q2.2 p0 hc) (kd_lt kk_35 (by decide)) (cE_0 kk_35) rfl tw_765 tw_762 tw_764 tw_19 tw_55 (by decide +kernel) ⟨Nat.le_of_ble_eq_true rfl, Nat.le_of_ble_eq_true rfl⟩ rfl hl.1 rfl (Nat.le_of_ble_eq_true rfl) ⟨Nat.le_of_ble_eq_true rfl, Nat.le_of_ble_eq_true rfl⟩ dX0_takeTurn_23 (fun H locs hH => ?_)
    exact w_X0_takeTurn_J26 p0 C hr q3.2 (37 + 2 * p0.toNatClampNeg) q3.1 (kd_Wk q1) _ _ _ hH (lv_sub hl [1, 0] rfl) hf
  · have hf := (if_neg q5).symm.trans hf
    refine lv_aload_n C.1 C.2.1 dX0_takeTurn_14 rfl (lv_at hl 0 rfl) ?_
    obtain ⟨q4, hc, hf⟩ := Option.bind_eq_some_iff.mp hf
    refine x_ci (n := 0) C hH (c_X8_takeLast l G q2.2 (37 + 2 * p0.toNatClampNeg) (kd_Wk q1) hc) (kd_lt (kd_Wk q1) (by decide)) (cE_8 (kd_Wk q1)) rfl tw_760 tw_757 tw_758 tw_759 tw_56 (by decide +kernel) ⟨Nat.le_of_ble_eq_true rfl, Nat.le_of_ble_eq_true rfl⟩ rfl hl.1 rfl (Nat.le_of_ble_eq_true rfl) ⟨Nat.le_of_ble_eq_true rfl, Nat.le_of_ble_eq_true rfl⟩ dX0_takeTurn_15 (fun H locs hH => ?_)
    refine lv_goto (tgt := 26) C.1 C.2.1 dX0_takeTurn_18 (by decide) ?_
    exact w_X0_takeTurn_J26 p0 C hr q4.2 (37 + 2 * p0.toNatClampNeg) q4.1 (kd_Wk q1) _ _ _ hH (lv_sub hl [1, 0] rfl) hf
def f_X0_workThrough_L52 (p0 : Int32)  : Nat → Mem → Int32 → Option Mem
  | 0, _, _ => none
  | n + 1, I, x2 => if (I 35 4) ≤ 0 then (some I) else (if (80 : Int32) ≤ (I 35 5) then (some I) else (if (I 35 2) = 0 then none else ((f_X0_takeTurn I ((((x2 * (1103515245 : Int32)) + (12345 : Int32)).toUInt32 >>> (((16 : Int32) : Int32).toUInt32 &&& Int32.toUInt32 31)).toInt32 - (((x2 * (1103515245 : Int32)) + (12345 : Int32)).toUInt32 >>> (((16 : Int32) : Int32).toUInt32 &&& Int32.toUInt32 31)).toInt32 / (I 35 2) * (I 35 2))).bind fun q6 => (f_X0_workThrough_L52 p0 n (st q6 35 5 ((q6 35 5) + (1 : Int32))) ((x2 * (1103515245 : Int32)) + (12345 : Int32))))))
set_option maxHeartbeats 4000000 in
set_option maxRecDepth 100000 in
theorem w_X0_workThrough_L52 {p : Program} {l : Launch} {e : Env} {s : State} {m : MethodId} {args : Array Value} {below : List Frame} {meth : Method} {c : Code} {G : Gx} (p0 : Int32) {J : Mem} (C : CX p l s m args meth c cX0_workThrough 3 yX0_workThrough.cls G) (hr : meth.sig.returnType = none) :
    ∀ (n : Nat) (I : Mem) (x2 : Int32) (H : Heap) (locs : List Loc) (ls : Array Slot), HW G s H locs I → lv_has ls 3 [(0, .ref (G.2.1 35)), (2, .int x2)] → f_X0_workThrough_L52 p0 n I x2 = some J → W p l e { frames := 4, cells := 0, slots := 0, locals := 86 } s m args below meth c H locs 0 0 (MQ below (Qv9 G J s.heap.size) args s 0 0 (AA G s.heap.size)) (F0 m 52 ls []) := by
  intro n
  induction n with
  | zero => intro I x2  H locs ls hH hl hf; exact absurd hf (by simp [f_X0_workThrough_L52])
  | succ n ih =>
    intro I x2  H locs ls hH hl hf
    have hf : (if (I 35 4) ≤ 0 then (some I) else (if (80 : Int32) ≤ (I 35 5) then (some I) else (if (I 35 2) = 0 then none else ((f_X0_takeTurn I ((((x2 * (1103515245 : Int32)) + (12345 : Int32)).toUInt32 >>> (((16 : Int32) : Int32).toUInt32 &&& Int32.toUInt32 31)).toInt32 - (((x2 * (1103515245 : Int32)) + (12345 : Int32)).toUInt32 >>> (((16 : Int32) : Int32).toUInt32 &&& Int32.toUInt32 31)).toInt32 / (I 35 2) * (I 35 2))).bind fun q6 => (f_X0_workThrough_L52 p0 n (st q6 35 5 ((q6 35 5) + (1 : Int32))) ((x2 * (1103515245 : Int32)) + (12345 : Int32))))))) = _ := hf
    refine lv_aload_n C.1 C.2.1 dX0_workThrough_52 rfl (lv_at hl 0 rfl) ?_
    refine g_X0_4 C hH kk_35 tw_303 dX0_workThrough_53 ?_
    refine lv_if_le (tgt := 103) C.1 C.2.1 dX0_workThrough_56 (by decide) (fun q9 => ?_) (fun q9 => ?_)
    · have hf := (if_pos q9).symm.trans hf
      cases hf
      exact x_vret C hr hH dX0_workThrough_103
    · have hf := (if_neg q9).symm.trans hf
      refine lv_aload_n C.1 C.2.1 dX0_workThrough_59 rfl (lv_at hl 0 rfl) ?_
      refine g_X0_5 C hH kk_35 tw_304 dX0_workThrough_60 ?_
      refine lv_bipush (v := (80 : Int32)) C.1 C.2.1 dX0_workThrough_63 (by decide) ?_
      refine lv_icmp_ge (tgt := 103) C.1 C.2.1 dX0_workThrough_65 (by decide) (fun q8 => ?_) (fun q8 => ?_)
      · have hf := (if_pos q8).symm.trans hf
        cases hf
        exact x_vret C hr hH dX0_workThrough_103
      · have hf := (if_neg q8).symm.trans hf
        refine lv_iload_n C.1 C.2.1 dX0_workThrough_68 rfl (lv_at hl 1 rfl) ?_
        refine lv_ldc (v := (1103515245 : Int32)) C.1 C.2.1 C.2.2.2.1 (C.word tw_748 rfl) dX0_workThrough_69 ?_
        refine lv_imul C.1 C.2.1 dX0_workThrough_71 ?_
        refine lv_sipush (v := (12345 : Int32)) C.1 C.2.1 dX0_workThrough_72 (by decide) ?_
        refine lv_iadd C.1 C.2.1 dX0_workThrough_75 ?_
        refine lv_istore_n (lv' := [(2, .int ((x2 * (1103515245 : Int32)) + (12345 : Int32))), (0, .ref (G.2.1 35))]) C.1 C.2.1 dX0_workThrough_76 rfl hl (by decide) rfl (fun ls hl => ?_)
        refine lv_aload_n C.1 C.2.1 dX0_workThrough_77 rfl (lv_at hl 1 rfl) ?_
        refine lv_iload_n C.1 C.2.1 dX0_workThrough_78 rfl (lv_at hl 0 rfl) ?_
        refine lv_bipush (v := (16 : Int32)) C.1 C.2.1 dX0_workThrough_79 (by decide) ?_
        refine lv_iushr (v := (((x2 * (1103515245 : Int32)) + (12345 : Int32)).toUInt32 >>> (((16 : Int32) : Int32).toUInt32 &&& Int32.toUInt32 31)).toInt32) C.1 C.2.1 dX0_workThrough_81 rfl ?_
        refine lv_aload_n C.1 C.2.1 dX0_workThrough_82 rfl (lv_at hl 1 rfl) ?_
        refine g_X0_2 C hH kk_35 tw_301 dX0_workThrough_83 ?_
        obtain ⟨q7, hf⟩ := itn' hf
        refine lv_irem C.1 C.2.1 dX0_workThrough_86 q7 ?_
        obtain ⟨q6, hc, hf⟩ := Option.bind_eq_some_iff.mp hf
        refine x_cv (n := 1) C hH (c_X0_takeTurn l G I ((((x2 * (1103515245 : Int32)) + (12345 : Int32)).toUInt32 >>> (((16 : Int32) : Int32).toUInt32 &&& Int32.toUInt32 31)).toInt32 - (((x2 * (1103515245 : Int32)) + (12345 : Int32)).toUInt32 >>> (((16 : Int32) : Int32).toUInt32 &&& Int32.toUInt32 31)).toInt32 / (I 35 2) * (I 35 2)) hc) (kd_lt kk_35 (by decide)) (cE_0 kk_35) rfl tw_752 tw_749 tw_751 tw_18 tw_55 (by decide +kernel) ⟨Nat.le_of_ble_eq_true rfl, Nat.le_of_ble_eq_true rfl⟩ rfl hl.1 rfl (Nat.le_of_ble_eq_true rfl) ⟨Nat.le_of_ble_eq_true rfl, Nat.le_of_ble_eq_true rfl⟩ dX0_workThrough_87 (fun H locs hH => ?_)
        refine lv_aload_n C.1 C.2.1 dX0_workThrough_90 rfl (lv_at hl 1 rfl) ?_
        refine lv_dup C.1 C.2.1 dX0_workThrough_91 rfl ?_
        refine g_X0_5 C hH kk_35 tw_304 dX0_workThrough_92 ?_
        refine lv_iconst (v := (1 : Int32)) C.1 C.2.1 dX0_workThrough_95 (by decide) ?_
        refine lv_iadd C.1 C.2.1 dX0_workThrough_96 ?_
        refine p_X0_5 C hH kk_35  tw_304 dX0_workThrough_97 (fun H locs hH => ?_)
        refine lv_goto (tgt := 52) C.1 C.2.1 dX0_workThrough_100 (by decide) ?_
        exact ih (st q6 35 5 ((q6 35 5) + (1 : Int32))) ((x2 * (1103515245 : Int32)) + (12345 : Int32))  _ _ _ hH (lv_sub hl [1, 0] rfl) hf
def f_X0_workThrough_L2 (p0 : Int32)  : Nat → Mem → Int32 → Int32 → Option Mem
  | 0, _, _, _ => none
  | n + 1, I, x1, x2 => if (4 : Int32) ≤ x2 then (if inb (0 : Int32) (ln 36) = true then ((f_X8_addTask (st (st I 35 5 (0 : Int32)) 35 6 (0 : Int32)) (37 + 2 * (0 : Int32).toNatClampNeg) x1).bind fun q2 => (f_X0_workThrough_L52 p0 FU (st q2 35 4 (1 : Int32)) ((st q2 35 4 (1 : Int32)) 35 3))) else none) else (if inb x2 (ln 36) = true then ((f_X8_begin I (37 + 2 * x2.toNatClampNeg)).bind fun q4 => (f_X0_workThrough_L2 p0 n q4 x1 (x2 + (1 : Int32)))) else none)
set_option maxHeartbeats 4000000 in
set_option maxRecDepth 100000 in
theorem w_X0_workThrough_L2 {p : Program} {l : Launch} {e : Env} {s : State} {m : MethodId} {args : Array Value} {below : List Frame} {meth : Method} {c : Code} {G : Gx} (p0 : Int32) {J : Mem} (C : CX p l s m args meth c cX0_workThrough 3 yX0_workThrough.cls G) (hr : meth.sig.returnType = none) :
    ∀ (n : Nat) (I : Mem) (x1 : Int32) (x2 : Int32) (H : Heap) (locs : List Loc) (ls : Array Slot), HW G s H locs I → lv_has ls 3 [(0, .ref (G.2.1 35)), (1, .int x1), (2, .int x2)] → f_X0_workThrough_L2 p0 n I x1 x2 = some J → W p l e { frames := 4, cells := 0, slots := 0, locals := 86 } s m args below meth c H locs 0 0 (MQ below (Qv9 G J s.heap.size) args s 0 0 (AA G s.heap.size)) (F0 m 2 ls []) := by
  intro n
  induction n with
  | zero => intro I x1 x2  H locs ls hH hl hf; exact absurd hf (by simp [f_X0_workThrough_L2])
  | succ n ih =>
    intro I x1 x2  H locs ls hH hl hf
    have hf : (if (4 : Int32) ≤ x2 then (if inb (0 : Int32) (ln 36) = true then ((f_X8_addTask (st (st I 35 5 (0 : Int32)) 35 6 (0 : Int32)) (37 + 2 * (0 : Int32).toNatClampNeg) x1).bind fun q2 => (f_X0_workThrough_L52 p0 FU (st q2 35 4 (1 : Int32)) ((st q2 35 4 (1 : Int32)) 35 3))) else none) else (if inb x2 (ln 36) = true then ((f_X8_begin I (37 + 2 * x2.toNatClampNeg)).bind fun q4 => (f_X0_workThrough_L2 p0 n q4 x1 (x2 + (1 : Int32)))) else none)) = _ := hf
    refine lv_iload_n C.1 C.2.1 dX0_workThrough_2 rfl (lv_at hl 2 rfl) ?_
    refine lv_iconst (v := (4 : Int32)) C.1 C.2.1 dX0_workThrough_3 (by decide) ?_
    refine lv_icmp_ge (tgt := 22) C.1 C.2.1 dX0_workThrough_4 (by decide) (fun q5 => ?_) (fun q5 => ?_)
    · have hf := (if_pos q5).symm.trans hf
      refine lv_aload_n C.1 C.2.1 dX0_workThrough_22 rfl (lv_at hl 0 rfl) ?_
      refine lv_iconst (v := (0 : Int32)) C.1 C.2.1 dX0_workThrough_23 (by decide) ?_
      refine p_X0_5 C hH kk_35  tw_304 dX0_workThrough_24 (fun H locs hH => ?_)
      refine lv_aload_n C.1 C.2.1 dX0_workThrough_27 rfl (lv_at hl 0 rfl) ?_
      refine lv_iconst (v := (0 : Int32)) C.1 C.2.1 dX0_workThrough_28 (by decide) ?_
      refine p_X0_6 C hH kk_35  tw_306 dX0_workThrough_29 (fun H locs hH => ?_)
      refine lv_aload_n C.1 C.2.1 dX0_workThrough_32 rfl (lv_at hl 0 rfl) ?_
      refine g_X0_0 C hH kk_35 tw_298 dX0_workThrough_33 ?_
      refine lv_iconst (v := (0 : Int32)) C.1 C.2.1 dX0_workThrough_36 (by decide) ?_
      obtain ⟨q1, hf⟩ := itn hf
      refine x_aldW C hH kk_36 q1 dX0_workThrough_37 ?_
      refine lv_iload_n C.1 C.2.1 dX0_workThrough_38 rfl (lv_at hl 1 rfl) ?_
      obtain ⟨q2, hc, hf⟩ := Option.bind_eq_some_iff.mp hf
      refine x_cv (n := 1) C hH (c_X8_addTask l G (st (st I 35 5 (0 : Int32)) 35 6 (0 : Int32)) (37 + 2 * (0 : Int32).toNatClampNeg) x1 (kd_Wk q1) hc) (kd_lt (kd_Wk q1) (by decide)) (cE_8 (kd_Wk q1)) rfl tw_747 tw_744 tw_745 tw_746 tw_56 (by decide +kernel) ⟨Nat.le_of_ble_eq_true rfl, Nat.le_of_ble_eq_true rfl⟩ rfl hl.1 rfl (Nat.le_of_ble_eq_true rfl) ⟨Nat.le_of_ble_eq_true rfl, Nat.le_of_ble_eq_true rfl⟩ dX0_workThrough_39 (fun H locs hH => ?_)
      refine lv_aload_n C.1 C.2.1 dX0_workThrough_42 rfl (lv_at hl 0 rfl) ?_
      refine lv_iconst (v := (1 : Int32)) C.1 C.2.1 dX0_workThrough_43 (by decide) ?_
      refine p_X0_4 C hH kk_35  tw_303 dX0_workThrough_44 (fun H locs hH => ?_)
      refine lv_aload_n C.1 C.2.1 dX0_workThrough_47 rfl (lv_at hl 0 rfl) ?_
      refine g_X0_3 C hH kk_35 tw_302 dX0_workThrough_48 ?_
      refine lv_istore_n (lv' := [(2, .int ((st q2 35 4 (1 : Int32)) 35 3)), (0, .ref (G.2.1 35)), (1, .int x1)]) C.1 C.2.1 dX0_workThrough_51 rfl hl (by decide) rfl (fun ls hl => ?_)
      exact w_X0_workThrough_L52 p0 C hr FU (st q2 35 4 (1 : Int32)) ((st q2 35 4 (1 : Int32)) 35 3) _ _ _ hH (lv_sub hl [1, 0] rfl) hf
    · have hf := (if_neg q5).symm.trans hf
      refine lv_aload_n C.1 C.2.1 dX0_workThrough_7 rfl (lv_at hl 0 rfl) ?_
      refine g_X0_0 C hH kk_35 tw_298 dX0_workThrough_8 ?_
      refine lv_iload_n C.1 C.2.1 dX0_workThrough_11 rfl (lv_at hl 2 rfl) ?_
      obtain ⟨q3, hf⟩ := itn hf
      refine x_aldW C hH kk_36 q3 dX0_workThrough_12 ?_
      obtain ⟨q4, hc, hf⟩ := Option.bind_eq_some_iff.mp hf
      refine x_cv (n := 0) C hH (c_X8_begin l G I (37 + 2 * x2.toNatClampNeg) (kd_Wk q3) hc) (kd_lt (kd_Wk q3) (by decide)) (cE_8 (kd_Wk q3)) rfl tw_743 tw_740 tw_741 tw_742 tw_56 (by decide +kernel) ⟨Nat.le_of_ble_eq_true rfl, Nat.le_of_ble_eq_true rfl⟩ rfl hl.1 rfl (Nat.le_of_ble_eq_true rfl) ⟨Nat.le_of_ble_eq_true rfl, Nat.le_of_ble_eq_true rfl⟩ dX0_workThrough_13 (fun H locs hH => ?_)
      refine lv_iinc (v := (x2 + (1 : Int32))) (lv' := [(2, .int (x2 + (1 : Int32))), (0, .ref (G.2.1 35)), (1, .int x1)]) C.1 C.2.1 dX0_workThrough_16 hl (k := 2) rfl rfl (by decide) rfl (fun ls hl => ?_)
      refine lv_goto (tgt := 2) C.1 C.2.1 dX0_workThrough_19 (by decide) ?_
      exact ih q4 x1 (x2 + (1 : Int32))  _ _ _ hH (lv_sub hl [1, 2, 0] rfl) hf
def f_X0_workThrough (I : Mem) (p0 : Int32) : Option Mem := f_X0_workThrough_L2 p0 FU I p0 (0 : Int32)
set_option maxHeartbeats 4000000 in
set_option maxRecDepth 100000 in
theorem c_X0_workThrough (l : Launch) (G : Gx) (I : Mem) (p0 : Int32) {J : Mem} (hf : f_X0_workThrough I p0 = some J) : Mv l yX0_workThrough (.code yX0_workThrough cX0_workThrough 3 none) 4 86 G I [.ref (G.2.1 35), .int p0] J := by
  refine Mv.of (by decide +kernel) (Nat.le_of_ble_eq_true rfl) (fun p e s m below meth c ls C hr hH hl => ?_)
  have hl : lv_has ls 3 [(0, .ref (G.2.1 35)), (1, .int p0)] := hl
  have hf : (f_X0_workThrough_L2 p0 FU I p0 (0 : Int32)) = _ := hf
  refine lv_iconst (v := (0 : Int32)) C.1 C.2.1 dX0_workThrough_0 (by decide) ?_
  refine lv_istore_n (lv' := [(2, .int (0 : Int32)), (0, .ref (G.2.1 35)), (1, .int p0)]) C.1 C.2.1 dX0_workThrough_1 rfl hl (by decide) rfl (fun ls hl => ?_)
  exact w_X0_workThrough_L2 p0 C hr FU I p0 (0 : Int32) _ _ _ hH (lv_sub hl [1, 2, 0] rfl) hf
