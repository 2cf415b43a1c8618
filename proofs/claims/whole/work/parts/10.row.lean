def f_X5_isFull (I : Mem) (i : Nat) : Option (Bool × Mem) := if (I i 1) = (nI (ln (i + 1))) then (some (true, I)) else (some (false, I))
set_option maxHeartbeats 4000000 in
set_option maxRecDepth 100000 in
theorem c_X5_isFull (l : Launch) (G : Gx) (I : Mem) (i : Nat) (hi : kd i = 5) {res : Bool} {J : Mem} (hf : f_X5_isFull I i = some (res, J)) : Mi l yX5_isFull (.code yX5_isFull cX5_isFull 1 (some .boolean)) 0 0 G I [.ref (G.2.1 i)] (b2i res) J := by
  refine Mi.of (by decide +kernel) (Nat.le_of_ble_eq_true rfl) (fun p e s m below meth c ls C hr hH hl => ?_)
  have hl : lv_has ls 1 [(0, .ref (G.2.1 i))] := hl
  have hf : (if (I i 1) = (nI (ln (i + 1))) then (some (true, I)) else (some (false, I))) = _ := hf
  refine lv_aload_n C.1 C.2.1 dX5_isFull_0 rfl (lv_at hl 0 rfl) ?_
  refine g_X5_1 C hH hi tw_87 dX5_isFull_1 ?_
  refine lv_aload_n C.1 C.2.1 dX5_isFull_4 rfl (lv_at hl 0 rfl) ?_
  refine g_X5_0 C hH hi tw_81 dX5_isFull_5 ?_
  refine x_alen C hH (kd_items hi) dX5_isFull_8 ?_
  refine lv_icmp_ne (tgt := 16) C.1 C.2.1 dX5_isFull_9 (by decide) (fun q1 => ?_) (fun q1 => ?_)
  · have hf := (if_neg q1).symm.trans hf
    refine lv_iconst (v := (0 : Int32)) C.1 C.2.1 dX5_isFull_16 (by decide) ?_
    cases hf
    exact x_zret C hr hH rfl dX5_isFull_17
  · have hf := (if_pos q1).symm.trans hf
    refine lv_iconst (v := (1 : Int32)) C.1 C.2.1 dX5_isFull_12 (by decide) ?_
    refine lv_goto (tgt := 17) C.1 C.2.1 dX5_isFull_13 (by decide) ?_
    cases hf
    exact x_zret C hr hH rfl dX5_isFull_17
def f_X5_clear (I : Mem) (i : Nat) : Option Mem := some (st I i 1 (0 : Int32))
set_option maxHeartbeats 4000000 in
set_option maxRecDepth 100000 in
theorem c_X5_clear (l : Launch) (G : Gx) (I : Mem) (i : Nat) (hi : kd i = 5) {J : Mem} (hf : f_X5_clear I i = some J) : Mv l yX5_clear (.code yX5_clear cX5_clear 1 none) 0 0 G I [.ref (G.2.1 i)] J := by
  refine Mv.of (by decide +kernel) (Nat.le_of_ble_eq_true rfl) (fun p e s m below meth c ls C hr hH hl => ?_)
  have hl : lv_has ls 1 [(0, .ref (G.2.1 i))] := hl
  have hf : (some (st I i 1 (0 : Int32))) = _ := hf
  refine lv_aload_n C.1 C.2.1 dX5_clear_0 rfl (lv_at hl 0 rfl) ?_
  refine lv_iconst (v := (0 : Int32)) C.1 C.2.1 dX5_clear_1 (by decide) ?_
  refine p_X5_1 C hH hi  tw_87 dX5_clear_2 (fun H locs hH => ?_)
  cases hf
  exact x_vret C hr hH dX5_clear_5
def f_X5_placeAscending_L7 (i : Nat) (p0 : Int32)  : Nat → Mem → Int32 → Int32 → Int32 → Option (Int32 × Mem)
  | 0, _, _, _, _ => none
  | n + 1, I, x1, x2, x3 => if x3 ≤ 0 then (some (x2, I)) else (if (2 : Int32) = 0 then none else (if inb (x2 + (x3 / (2 : Int32))) (ln (i + 1)) = true then (if x1 ≤ (I (i + 1) (x2 + (x3 / (2 : Int32))).toNatClampNeg) then (f_X5_placeAscending_L7 i p0 n I x1 x2 (x3 / (2 : Int32))) else (f_X5_placeAscending_L7 i p0 n I x1 (x2 + ((x3 / (2 : Int32)) + (1 : Int32))) (x3 - ((x3 / (2 : Int32)) + (1 : Int32))))) else none))
set_option maxHeartbeats 4000000 in
set_option maxRecDepth 100000 in
theorem w_X5_placeAscending_L7 {p : Program} {l : Launch} {e : Env} {s : State} {m : MethodId} {args : Array Value} {below : List Frame} {meth : Method} {c : Code} {G : Gx} (i : Nat) (p0 : Int32) (hi : kd i = 5) {res : Int32} {J : Mem} (C : CX p l s m args meth c cX5_placeAscending 5 yX5_placeAscending.cls G) (hr : meth.sig.returnType = (some .int)) :
    ∀ (n : Nat) (I : Mem) (x1 : Int32) (x2 : Int32) (x3 : Int32) (H : Heap) (locs : List Loc) (ls : Array Slot), HW G s H locs I → lv_has ls 5 [(0, .ref (G.2.1 i)), (1, .int x1), (2, .int x2), (3, .int x3)] → f_X5_placeAscending_L7 i p0 n I x1 x2 x3 = some (res, J) → W p l e { frames := 0, cells := 0, slots := 0, locals := 0 } s m args below meth c H locs 0 0 (MQ below (Qi9 G res J s.heap.size) args s 0 0 (AA G s.heap.size)) (F0 m 7 ls []) := by
  intro n
  induction n with
  | zero => intro I x1 x2 x3  H locs ls hH hl hf; exact absurd hf (by simp [f_X5_placeAscending_L7])
  | succ n ih =>
    intro I x1 x2 x3  H locs ls hH hl hf
    have hf : (if x3 ≤ 0 then (some (x2, I)) else (if (2 : Int32) = 0 then none else (if inb (x2 + (x3 / (2 : Int32))) (ln (i + 1)) = true then (if x1 ≤ (I (i + 1) (x2 + (x3 / (2 : Int32))).toNatClampNeg) then (f_X5_placeAscending_L7 i p0 n I x1 x2 (x3 / (2 : Int32))) else (f_X5_placeAscending_L7 i p0 n I x1 (x2 + ((x3 / (2 : Int32)) + (1 : Int32))) (x3 - ((x3 / (2 : Int32)) + (1 : Int32))))) else none))) = _ := hf
    refine lv_iload_n C.1 C.2.1 dX5_placeAscending_7 rfl (lv_at hl 3 rfl) ?_
    refine lv_if_le (tgt := 52) C.1 C.2.1 dX5_placeAscending_8 (by decide) (fun q4 => ?_) (fun q4 => ?_)
    · have hf := (if_pos q4).symm.trans hf
      refine lv_iload_n C.1 C.2.1 dX5_placeAscending_52 rfl (lv_at hl 2 rfl) ?_
      cases hf
      exact x_iret C hr hH dX5_placeAscending_53
    · have hf := (if_neg q4).symm.trans hf
      refine lv_iload_n C.1 C.2.1 dX5_placeAscending_11 rfl (lv_at hl 3 rfl) ?_
      refine lv_iconst (v := (2 : Int32)) C.1 C.2.1 dX5_placeAscending_12 (by decide) ?_
      obtain ⟨q3, hf⟩ := itn' hf
      refine lv_idiv C.1 C.2.1 dX5_placeAscending_13 q3 ?_
      refine lv_istore (lv' := [(4, .int (x3 / (2 : Int32))), (0, .ref (G.2.1 i)), (1, .int x1), (2, .int x2), (3, .int x3)]) C.1 C.2.1 dX5_placeAscending_14 hl (by decide) rfl (fun ls hl => ?_)
      refine lv_aload_n C.1 C.2.1 dX5_placeAscending_16 rfl (lv_at hl 1 rfl) ?_
      refine g_X5_0 C hH hi tw_81 dX5_placeAscending_17 ?_
      refine lv_iload_n C.1 C.2.1 dX5_placeAscending_20 rfl (lv_at hl 3 rfl) ?_
      refine lv_iload C.1 C.2.1 dX5_placeAscending_21 (lv_at hl 0 rfl) ?_
      refine lv_iadd C.1 C.2.1 dX5_placeAscending_23 ?_
      obtain ⟨q1, hf⟩ := itn hf
      refine x_iald C hH (kd_items hi) q1 dX5_placeAscending_24 ?_
      refine lv_iload_n C.1 C.2.1 dX5_placeAscending_25 rfl (lv_at hl 2 rfl) ?_
      refine lv_icmp_ge (tgt := 46) C.1 C.2.1 dX5_placeAscending_26 (by decide) (fun q2 => ?_) (fun q2 => ?_)
      · have hf := (if_pos q2).symm.trans hf
        refine lv_iload C.1 C.2.1 dX5_placeAscending_46 (lv_at hl 0 rfl) ?_
        refine lv_istore_n (lv' := [(3, .int (x3 / (2 : Int32))), (4, .int (x3 / (2 : Int32))), (0, .ref (G.2.1 i)), (1, .int x1), (2, .int x2)]) C.1 C.2.1 dX5_placeAscending_48 rfl hl (by decide) rfl (fun ls hl => ?_)
        refine lv_goto (tgt := 7) C.1 C.2.1 dX5_placeAscending_49 (by decide) ?_
        exact ih I x1 x2 (x3 / (2 : Int32))  _ _ _ hH (lv_sub hl [2, 3, 4, 0] rfl) hf
      · have hf := (if_neg q2).symm.trans hf
        refine lv_iload_n C.1 C.2.1 dX5_placeAscending_29 rfl (lv_at hl 3 rfl) ?_
        refine lv_iload C.1 C.2.1 dX5_placeAscending_30 (lv_at hl 0 rfl) ?_
        refine lv_iconst (v := (1 : Int32)) C.1 C.2.1 dX5_placeAscending_32 (by decide) ?_
        refine lv_iadd C.1 C.2.1 dX5_placeAscending_33 ?_
        refine lv_iadd C.1 C.2.1 dX5_placeAscending_34 ?_
        refine lv_istore_n (lv' := [(2, .int (x2 + ((x3 / (2 : Int32)) + (1 : Int32)))), (4, .int (x3 / (2 : Int32))), (0, .ref (G.2.1 i)), (1, .int x1), (3, .int x3)]) C.1 C.2.1 dX5_placeAscending_35 rfl hl (by decide) rfl (fun ls hl => ?_)
        refine lv_iload_n C.1 C.2.1 dX5_placeAscending_36 rfl (lv_at hl 4 rfl) ?_
        refine lv_iload C.1 C.2.1 dX5_placeAscending_37 (lv_at hl 1 rfl) ?_
        refine lv_iconst (v := (1 : Int32)) C.1 C.2.1 dX5_placeAscending_39 (by decide) ?_
        refine lv_iadd C.1 C.2.1 dX5_placeAscending_40 ?_
        refine lv_isub C.1 C.2.1 dX5_placeAscending_41 ?_
        refine lv_istore_n (lv' := [(3, .int (x3 - ((x3 / (2 : Int32)) + (1 : Int32)))), (2, .int (x2 + ((x3 / (2 : Int32)) + (1 : Int32)))), (4, .int (x3 / (2 : Int32))), (0, .ref (G.2.1 i)), (1, .int x1)]) C.1 C.2.1 dX5_placeAscending_42 rfl hl (by decide) rfl (fun ls hl => ?_)
        refine lv_goto (tgt := 49) C.1 C.2.1 dX5_placeAscending_43 (by decide) ?_
        refine lv_goto (tgt := 7) C.1 C.2.1 dX5_placeAscending_49 (by decide) ?_
        exact ih I x1 (x2 + ((x3 / (2 : Int32)) + (1 : Int32))) (x3 - ((x3 / (2 : Int32)) + (1 : Int32)))  _ _ _ hH (lv_sub hl [3, 4, 1, 0] rfl) hf
def f_X5_placeAscending (I : Mem) (i : Nat) (p0 : Int32) : Option (Int32 × Mem) := f_X5_placeAscending_L7 i p0 FU I p0 (0 : Int32) (I i 1)
set_option maxHeartbeats 4000000 in
set_option maxRecDepth 100000 in
theorem c_X5_placeAscending (l : Launch) (G : Gx) (I : Mem) (i : Nat) (p0 : Int32) (hi : kd i = 5) {res : Int32} {J : Mem} (hf : f_X5_placeAscending I i p0 = some (res, J)) : Mi l yX5_placeAscending (.code yX5_placeAscending cX5_placeAscending 5 (some .int)) 0 0 G I [.ref (G.2.1 i), .int p0] res J := by
  refine Mi.of (by decide +kernel) (Nat.le_of_ble_eq_true rfl) (fun p e s m below meth c ls C hr hH hl => ?_)
  have hl : lv_has ls 5 [(0, .ref (G.2.1 i)), (1, .int p0)] := hl
  have hf : (f_X5_placeAscending_L7 i p0 FU I p0 (0 : Int32) (I i 1)) = _ := hf
  refine lv_iconst (v := (0 : Int32)) C.1 C.2.1 dX5_placeAscending_0 (by decide) ?_
  refine lv_istore_n (lv' := [(2, .int (0 : Int32)), (0, .ref (G.2.1 i)), (1, .int p0)]) C.1 C.2.1 dX5_placeAscending_1 rfl hl (by decide) rfl (fun ls hl => ?_)
  refine lv_aload_n C.1 C.2.1 dX5_placeAscending_2 rfl (lv_at hl 1 rfl) ?_
  refine g_X5_1 C hH hi tw_87 dX5_placeAscending_3 ?_
  refine lv_istore_n (lv' := [(3, .int (I i 1)), (2, .int (0 : Int32)), (0, .ref (G.2.1 i)), (1, .int p0)]) C.1 C.2.1 dX5_placeAscending_6 rfl hl (by decide) rfl (fun ls hl => ?_)
  exact w_X5_placeAscending_L7 i p0 hi C hr FU I p0 (0 : Int32) (I i 1) _ _ _ hH (lv_sub hl [2, 3, 1, 0] rfl) hf
def f_X5_insertAt (I : Mem) (i : Nat) (p0 : Int32) (p1 : Int32) : Option Mem := (f_X5_isFull I i).bind fun q1 => (if (b2i q1.1) = 0 then (if cpok p0 (p0 + (1 : Int32)) ((q1.2 i 1) - p0) (ln (i + 1)) (ln (i + 1)) = true then (if inb p0 (ln (i + 1)) = true then (some (st (st (stR q1.2 (i + 1) (va_cpy (q1.2 (i + 1)) (q1.2 (i + 1)) p0.toNatClampNeg (p0 + (1 : Int32)).toNatClampNeg ((q1.2 i 1) - p0).toNatClampNeg)) (i + 1) p0.toNatClampNeg p1) i 1 (((st (stR q1.2 (i + 1) (va_cpy (q1.2 (i + 1)) (q1.2 (i + 1)) p0.toNatClampNeg (p0 + (1 : Int32)).toNatClampNeg ((q1.2 i 1) - p0).toNatClampNeg)) (i + 1) p0.toNatClampNeg p1) i 1) + (1 : Int32)))) else none) else none) else (some q1.2))
set_option maxHeartbeats 4000000 in
set_option maxRecDepth 100000 in
theorem c_X5_insertAt (l : Launch) (G : Gx) (I : Mem) (i : Nat) (p0 : Int32) (p1 : Int32) (hi : kd i = 5) {J : Mem} (hf : f_X5_insertAt I i p0 p1 = some J) : Mv l yX5_insertAt (.code yX5_insertAt cX5_insertAt 3 none) 1 60 G I [.ref (G.2.1 i), .int p0, .int p1] J := by
  refine Mv.of (by decide +kernel) (Nat.le_of_ble_eq_true rfl) (fun p e s m below meth c ls C hr hH hl => ?_)
  have hl : lv_has ls 3 [(0, .ref (G.2.1 i)), (1, .int p0), (2, .int p1)] := hl
  have hf : ((f_X5_isFull I i).bind fun q1 => (if (b2i q1.1) = 0 then (if cpok p0 (p0 + (1 : Int32)) ((q1.2 i 1) - p0) (ln (i + 1)) (ln (i + 1)) = true then (if inb p0 (ln (i + 1)) = true then (some (st (st (stR q1.2 (i + 1) (va_cpy (q1.2 (i + 1)) (q1.2 (i + 1)) p0.toNatClampNeg (p0 + (1 : Int32)).toNatClampNeg ((q1.2 i 1) - p0).toNatClampNeg)) (i + 1) p0.toNatClampNeg p1) i 1 (((st (stR q1.2 (i + 1) (va_cpy (q1.2 (i + 1)) (q1.2 (i + 1)) p0.toNatClampNeg (p0 + (1 : Int32)).toNatClampNeg ((q1.2 i 1) - p0).toNatClampNeg)) (i + 1) p0.toNatClampNeg p1) i 1) + (1 : Int32)))) else none) else none) else (some q1.2))) = _ := hf
  refine lv_aload_n C.1 C.2.1 dX5_insertAt_0 rfl (lv_at hl 0 rfl) ?_
  obtain ⟨q1, hc, hf⟩ := Option.bind_eq_some_iff.mp hf
  refine x_ci (n := 0) C hH (c_X5_isFull l G I i hi hc) (kd_lt hi (by decide)) (cE_5 hi) rfl tw_376 tw_454 tw_374 tw_375 tw_48 (by decide +kernel) ⟨Nat.le_of_ble_eq_true rfl, Nat.le_of_ble_eq_true rfl⟩ rfl hl.1 rfl (Nat.le_of_ble_eq_true rfl) ⟨Nat.le_of_ble_eq_true rfl, Nat.le_of_ble_eq_true rfl⟩ dX5_insertAt_1 (fun H locs hH => ?_)
  refine lv_if_eq (tgt := 8) C.1 C.2.1 dX5_insertAt_4 (by decide) (fun q4 => ?_) (fun q4 => ?_)
  · have hf := (if_pos q4).symm.trans hf
    refine lv_aload_n C.1 C.2.1 dX5_insertAt_8 rfl (lv_at hl 0 rfl) ?_
    refine g_X5_0 C hH hi tw_81 dX5_insertAt_9 ?_
    refine lv_iload_n C.1 C.2.1 dX5_insertAt_12 rfl (lv_at hl 1 rfl) ?_
    refine lv_aload_n C.1 C.2.1 dX5_insertAt_13 rfl (lv_at hl 0 rfl) ?_
    refine g_X5_0 C hH hi tw_81 dX5_insertAt_14 ?_
    refine lv_iload_n C.1 C.2.1 dX5_insertAt_17 rfl (lv_at hl 1 rfl) ?_
    refine lv_iconst (v := (1 : Int32)) C.1 C.2.1 dX5_insertAt_18 (by decide) ?_
    refine lv_iadd C.1 C.2.1 dX5_insertAt_19 ?_
    refine lv_aload_n C.1 C.2.1 dX5_insertAt_20 rfl (lv_at hl 0 rfl) ?_
    refine g_X5_1 C hH hi tw_87 dX5_insertAt_21 ?_
    refine lv_iload_n C.1 C.2.1 dX5_insertAt_24 rfl (lv_at hl 1 rfl) ?_
    refine lv_isub C.1 C.2.1 dX5_insertAt_25 ?_
    obtain ⟨q2, hf⟩ := itn hf
    obtain ⟨c1, c2, c3, c4, c5⟩ := cpok_of q2
    refine x_copy C hH hl.1 (kd_items hi) (kd_items hi) c1 c2 c3 c4 c5 tw_455 tw_457 tw_456 tw_62 (by decide) (Nat.le_of_ble_eq_true rfl) dX5_insertAt_26 (fun H locs hH => ?_)
    refine lv_aload_n C.1 C.2.1 dX5_insertAt_29 rfl (lv_at hl 0 rfl) ?_
    refine g_X5_0 C hH hi tw_81 dX5_insertAt_30 ?_
    refine lv_iload_n C.1 C.2.1 dX5_insertAt_33 rfl (lv_at hl 1 rfl) ?_
    refine lv_iload_n C.1 C.2.1 dX5_insertAt_34 rfl (lv_at hl 2 rfl) ?_
    obtain ⟨q3, hf⟩ := itn hf
    refine x_iast C hH (kd_items hi) q3 dX5_insertAt_35 (fun H locs hH => ?_)
    refine lv_aload_n C.1 C.2.1 dX5_insertAt_36 rfl (lv_at hl 0 rfl) ?_
    refine lv_dup C.1 C.2.1 dX5_insertAt_37 rfl ?_
    refine g_X5_1 C hH hi tw_87 dX5_insertAt_38 ?_
    refine lv_iconst (v := (1 : Int32)) C.1 C.2.1 dX5_insertAt_41 (by decide) ?_
    refine lv_iadd C.1 C.2.1 dX5_insertAt_42 ?_
    refine p_X5_1 C hH hi  tw_87 dX5_insertAt_43 (fun H locs hH => ?_)
    cases hf
    exact x_vret C hr hH dX5_insertAt_46
  · have hf := (if_neg q4).symm.trans hf
    cases hf
    exact x_vret C hr hH dX5_insertAt_7
def f_X5_add (I : Mem) (i : Nat) (p0 : Int32) : Option Mem := (f_X5_insertAt I i (I i 1) p0).bind fun q1 => (some q1)
set_option maxHeartbeats 4000000 in
set_option maxRecDepth 100000 in
theorem c_X5_add (l : Launch) (G : Gx) (I : Mem) (i : Nat) (p0 : Int32) (hi : kd i = 5) {J : Mem} (hf : f_X5_add I i p0 = some J) : Mv l yX5_add (.code yX5_add cX5_add 2 none) 2 82 G I [.ref (G.2.1 i), .int p0] J := by
  refine Mv.of (by decide +kernel) (Nat.le_of_ble_eq_true rfl) (fun p e s m below meth c ls C hr hH hl => ?_)
  have hl : lv_has ls 2 [(0, .ref (G.2.1 i)), (1, .int p0)] := hl
  have hf : ((f_X5_insertAt I i (I i 1) p0).bind fun q1 => (some q1)) = _ := hf
  refine lv_aload_n C.1 C.2.1 dX5_add_0 rfl (lv_at hl 0 rfl) ?_
  refine lv_aload_n C.1 C.2.1 dX5_add_1 rfl (lv_at hl 0 rfl) ?_
  refine g_X5_1 C hH hi tw_87 dX5_add_2 ?_
  refine lv_iload_n C.1 C.2.1 dX5_add_5 rfl (lv_at hl 1 rfl) ?_
  obtain ⟨q1, hc, hf⟩ := Option.bind_eq_some_iff.mp hf
  refine x_cv (n := 2) C hH (c_X5_insertAt l G I i (I i 1) p0 hi hc) (kd_lt hi (by decide)) (cE_5 hi) rfl tw_453 tw_450 tw_452 tw_1 tw_48 (by decide +kernel) ⟨Nat.le_of_ble_eq_true rfl, Nat.le_of_ble_eq_true rfl⟩ rfl hl.1 rfl (Nat.le_of_ble_eq_true rfl) ⟨Nat.le_of_ble_eq_true rfl, Nat.le_of_ble_eq_true rfl⟩ dX5_add_6 (fun H locs hH => ?_)
  cases hf
  exact x_vret C hr hH dX5_add_9
def f_X5_insertAscending (I : Mem) (i : Nat) (p0 : Int32) : Option Mem := (f_X5_placeAscending I i p0).bind fun q1 => ((f_X5_insertAt q1.2 i q1.1 p0).bind fun q2 => (some q2))
set_option maxHeartbeats 4000000 in
set_option maxRecDepth 100000 in
theorem c_X5_insertAscending (l : Launch) (G : Gx) (I : Mem) (i : Nat) (p0 : Int32) (hi : kd i = 5) {J : Mem} (hf : f_X5_insertAscending I i p0 = some J) : Mv l yX5_insertAscending (.code yX5_insertAscending cX5_insertAscending 2 none) 2 82 G I [.ref (G.2.1 i), .int p0] J := by
  refine Mv.of (by decide +kernel) (Nat.le_of_ble_eq_true rfl) (fun p e s m below meth c ls C hr hH hl => ?_)
  have hl : lv_has ls 2 [(0, .ref (G.2.1 i)), (1, .int p0)] := hl
  have hf : ((f_X5_placeAscending I i p0).bind fun q1 => ((f_X5_insertAt q1.2 i q1.1 p0).bind fun q2 => (some q2))) = _ := hf
  refine lv_aload_n C.1 C.2.1 dX5_insertAscending_0 rfl (lv_at hl 0 rfl) ?_
  refine lv_aload_n C.1 C.2.1 dX5_insertAscending_1 rfl (lv_at hl 0 rfl) ?_
  refine lv_iload_n C.1 C.2.1 dX5_insertAscending_2 rfl (lv_at hl 1 rfl) ?_
  obtain ⟨q1, hc, hf⟩ := Option.bind_eq_some_iff.mp hf
  refine x_ci (n := 1) C hH (c_X5_placeAscending l G I i p0 hi hc) (kd_lt hi (by decide)) (cE_5 hi) rfl tw_624 tw_621 tw_623 tw_11 tw_48 (by decide +kernel) ⟨Nat.le_of_ble_eq_true rfl, Nat.le_of_ble_eq_true rfl⟩ rfl hl.1 rfl (Nat.le_of_ble_eq_true rfl) ⟨Nat.le_of_ble_eq_true rfl, Nat.le_of_ble_eq_true rfl⟩ dX5_insertAscending_3 (fun H locs hH => ?_)
  refine lv_iload_n C.1 C.2.1 dX5_insertAscending_6 rfl (lv_at hl 1 rfl) ?_
  obtain ⟨q2, hc, hf⟩ := Option.bind_eq_some_iff.mp hf
  refine x_cv (n := 2) C hH (c_X5_insertAt l G q1.2 i q1.1 p0 hi hc) (kd_lt hi (by decide)) (cE_5 hi) rfl tw_453 tw_450 tw_452 tw_1 tw_48 (by decide +kernel) ⟨Nat.le_of_ble_eq_true rfl, Nat.le_of_ble_eq_true rfl⟩ rfl hl.1 rfl (Nat.le_of_ble_eq_true rfl) ⟨Nat.le_of_ble_eq_true rfl, Nat.le_of_ble_eq_true rfl⟩ dX5_insertAscending_7 (fun H locs hH => ?_)
  cases hf
  exact x_vret C hr hH dX5_insertAscending_10
def f_X5_insertIfNew (I : Mem) (i : Nat) (p0 : Int32) : Option (Bool × Mem) := (f_X5_placeAscending I i p0).bind fun q1 => (if (q1.2 i 1) ≤ q1.1 then ((f_X5_insertAt q1.2 i q1.1 p0).bind fun q2 => (some (true, q2))) else (if inb q1.1 (ln (i + 1)) = true then (if (q1.2 (i + 1) q1.1.toNatClampNeg) = p0 then (some (false, q1.2)) else ((f_X5_insertAt q1.2 i q1.1 p0).bind fun q4 => (some (true, q4)))) else none))
set_option maxHeartbeats 4000000 in
set_option maxRecDepth 100000 in
theorem c_X5_insertIfNew (l : Launch) (G : Gx) (I : Mem) (i : Nat) (p0 : Int32) (hi : kd i = 5) {res : Bool} {J : Mem} (hf : f_X5_insertIfNew I i p0 = some (res, J)) : Mi l yX5_insertIfNew (.code yX5_insertIfNew cX5_insertIfNew 3 (some .boolean)) 2 82 G I [.ref (G.2.1 i), .int p0] (b2i res) J := by
  refine Mi.of (by decide +kernel) (Nat.le_of_ble_eq_true rfl) (fun p e s m below meth c ls C hr hH hl => ?_)
  have hl : lv_has ls 3 [(0, .ref (G.2.1 i)), (1, .int p0)] := hl
  have hf : ((f_X5_placeAscending I i p0).bind fun q1 => (if (q1.2 i 1) ≤ q1.1 then ((f_X5_insertAt q1.2 i q1.1 p0).bind fun q2 => (some (true, q2))) else (if inb q1.1 (ln (i + 1)) = true then (if (q1.2 (i + 1) q1.1.toNatClampNeg) = p0 then (some (false, q1.2)) else ((f_X5_insertAt q1.2 i q1.1 p0).bind fun q4 => (some (true, q4)))) else none))) = _ := hf
  refine lv_aload_n C.1 C.2.1 dX5_insertIfNew_0 rfl (lv_at hl 0 rfl) ?_
  refine lv_iload_n C.1 C.2.1 dX5_insertIfNew_1 rfl (lv_at hl 1 rfl) ?_
  obtain ⟨q1, hc, hf⟩ := Option.bind_eq_some_iff.mp hf
  refine x_ci (n := 1) C hH (c_X5_placeAscending l G I i p0 hi hc) (kd_lt hi (by decide)) (cE_5 hi) rfl tw_624 tw_621 tw_623 tw_11 tw_48 (by decide +kernel) ⟨Nat.le_of_ble_eq_true rfl, Nat.le_of_ble_eq_true rfl⟩ rfl hl.1 rfl (Nat.le_of_ble_eq_true rfl) ⟨Nat.le_of_ble_eq_true rfl, Nat.le_of_ble_eq_true rfl⟩ dX5_insertIfNew_2 (fun H locs hH => ?_)
  refine lv_istore_n (lv' := [(2, .int q1.1), (0, .ref (G.2.1 i)), (1, .int p0)]) C.1 C.2.1 dX5_insertIfNew_5 rfl hl (by decide) rfl (fun ls hl => ?_)
  refine lv_iload_n C.1 C.2.1 dX5_insertIfNew_6 rfl (lv_at hl 0 rfl) ?_
  refine lv_aload_n C.1 C.2.1 dX5_insertIfNew_7 rfl (lv_at hl 1 rfl) ?_
  refine g_X5_1 C hH hi tw_87 dX5_insertIfNew_8 ?_
  refine lv_icmp_ge (tgt := 26) C.1 C.2.1 dX5_insertIfNew_11 (by decide) (fun q6 => ?_) (fun q6 => ?_)
  · have hf := (if_pos q6).symm.trans hf
    refine lv_aload_n C.1 C.2.1 dX5_insertIfNew_26 rfl (lv_at hl 1 rfl) ?_
    refine lv_iload_n C.1 C.2.1 dX5_insertIfNew_27 rfl (lv_at hl 0 rfl) ?_
    refine lv_iload_n C.1 C.2.1 dX5_insertIfNew_28 rfl (lv_at hl 2 rfl) ?_
    obtain ⟨q2, hc, hf⟩ := Option.bind_eq_some_iff.mp hf
    refine x_cv (n := 2) C hH (c_X5_insertAt l G q1.2 i q1.1 p0 hi hc) (kd_lt hi (by decide)) (cE_5 hi) rfl tw_453 tw_450 tw_452 tw_1 tw_48 (by decide +kernel) ⟨Nat.le_of_ble_eq_true rfl, Nat.le_of_ble_eq_true rfl⟩ rfl hl.1 rfl (Nat.le_of_ble_eq_true rfl) ⟨Nat.le_of_ble_eq_true rfl, Nat.le_of_ble_eq_true rfl⟩ dX5_insertIfNew_29 (fun H locs hH => ?_)
    refine lv_iconst (v := (1 : Int32)) C.1 C.2.1 dX5_insertIfNew_32 (by decide) ?_
    cases hf
    exact x_zret C hr hH rfl dX5_insertIfNew_33
  · have hf := (if_neg q6).symm.trans hf
    refine lv_aload_n C.1 C.2.1 dX5_insertIfNew_14 rfl (lv_at hl 1 rfl) ?_
    refine g_X5_0 C hH hi tw_81 dX5_insertIfNew_15 ?_
    refine lv_iload_n C.1 C.2.1 dX5_insertIfNew_18 rfl (lv_at hl 0 rfl) ?_
    obtain ⟨q3, hf⟩ := itn hf
    refine x_iald C hH (kd_items hi) q3 dX5_insertIfNew_19 ?_
    refine lv_iload_n C.1 C.2.1 dX5_insertIfNew_20 rfl (lv_at hl 2 rfl) ?_
    refine lv_icmp_ne (tgt := 26) C.1 C.2.1 dX5_insertIfNew_21 (by decide) (fun q5 => ?_) (fun q5 => ?_)
    · have hf := (if_neg q5).symm.trans hf
      refine lv_aload_n C.1 C.2.1 dX5_insertIfNew_26 rfl (lv_at hl 1 rfl) ?_
      refine lv_iload_n C.1 C.2.1 dX5_insertIfNew_27 rfl (lv_at hl 0 rfl) ?_
      refine lv_iload_n C.1 C.2.1 dX5_insertIfNew_28 rfl (lv_at hl 2 rfl) ?_
      obtain ⟨q4, hc, hf⟩ := Option.bind_eq_some_iff.mp hf
      refine x_cv (n := 2) C hH (c_X5_insertAt l G q1.2 i q1.1 p0 hi hc) (kd_lt hi (by decide)) (cE_5 hi) rfl tw_453 tw_450 tw_452 tw_1 tw_48 (by decide +kernel) ⟨Nat.le_of_ble_eq_true rfl, Nat.le_of_ble_eq_true rfl⟩ rfl hl.1 rfl (Nat.le_of_ble_eq_true rfl) ⟨Nat.le_of_ble_eq_true rfl, Nat.le_of_ble_eq_true rfl⟩ dX5_insertIfNew_29 (fun H locs hH => ?_)
      refine lv_iconst (v := (1 : Int32)) C.1 C.2.1 dX5_insertIfNew_32 (by decide) ?_
      cases hf
      exact x_zret C hr hH rfl dX5_insertIfNew_33
    · have hf := (if_pos q5).symm.trans hf
      refine lv_iconst (v := (0 : Int32)) C.1 C.2.1 dX5_insertIfNew_24 (by decide) ?_
      cases hf
      exact x_zret C hr hH rfl dX5_insertIfNew_25
def f_X5_copyFrom_L6 (i : Nat) (p0 : Nat)  : Nat → Mem → Int32 → Option Mem
  | 0, _, _ => none
  | n + 1, I, x2 => if (I p0 1) ≤ x2 then (some I) else (if inb x2 (ln (p0 + 1)) = true then ((f_X5_add I i (I (p0 + 1) x2.toNatClampNeg)).bind fun q3 => (f_X5_copyFrom_L6 i p0 n q3 (x2 + (1 : Int32)))) else none)
set_option maxHeartbeats 4000000 in
set_option maxRecDepth 100000 in
theorem w_X5_copyFrom_L6 {p : Program} {l : Launch} {e : Env} {s : State} {m : MethodId} {args : Array Value} {below : List Frame} {meth : Method} {c : Code} {G : Gx} (i : Nat) (p0 : Nat) (hi : kd i = 5) (hp0 : kd p0 = 5) {J : Mem} (C : CX p l s m args meth c cX5_copyFrom 3 yX5_copyFrom.cls G) (hr : meth.sig.returnType = none) :
    ∀ (n : Nat) (I : Mem) (x2 : Int32) (H : Heap) (locs : List Loc) (ls : Array Slot), HW G s H locs I → lv_has ls 3 [(0, .ref (G.2.1 i)), (1, .ref (G.2.1 p0)), (2, .int x2)] → f_X5_copyFrom_L6 i p0 n I x2 = some J → W p l e { frames := 3, cells := 0, slots := 0, locals := 103 } s m args below meth c H locs 0 0 (MQ below (Qv9 G J s.heap.size) args s 0 0 (AA G s.heap.size)) (F0 m 6 ls []) := by
  intro n
  induction n with
  | zero => intro I x2  H locs ls hH hl hf; exact absurd hf (by simp [f_X5_copyFrom_L6])
  | succ n ih =>
    intro I x2  H locs ls hH hl hf
    have hf : (if (I p0 1) ≤ x2 then (some I) else (if inb x2 (ln (p0 + 1)) = true then ((f_X5_add I i (I (p0 + 1) x2.toNatClampNeg)).bind fun q3 => (f_X5_copyFrom_L6 i p0 n q3 (x2 + (1 : Int32)))) else none)) = _ := hf
    refine lv_iload_n C.1 C.2.1 dX5_copyFrom_6 rfl (lv_at hl 2 rfl) ?_
    refine lv_aload_n C.1 C.2.1 dX5_copyFrom_7 rfl (lv_at hl 1 rfl) ?_
    refine g_X5_1 C hH hp0 tw_87 dX5_copyFrom_8 ?_
    refine lv_icmp_ge (tgt := 30) C.1 C.2.1 dX5_copyFrom_11 (by decide) (fun q4 => ?_) (fun q4 => ?_)
    · have hf := (if_pos q4).symm.trans hf
      cases hf
      exact x_vret C hr hH dX5_copyFrom_30
    · have hf := (if_neg q4).symm.trans hf
      refine lv_aload_n C.1 C.2.1 dX5_copyFrom_14 rfl (lv_at hl 0 rfl) ?_
      refine lv_aload_n C.1 C.2.1 dX5_copyFrom_15 rfl (lv_at hl 1 rfl) ?_
      refine g_X5_0 C hH hp0 tw_81 dX5_copyFrom_16 ?_
      refine lv_iload_n C.1 C.2.1 dX5_copyFrom_19 rfl (lv_at hl 2 rfl) ?_
      obtain ⟨q2, hf⟩ := itn hf
      refine x_iald C hH (kd_items hp0) q2 dX5_copyFrom_20 ?_
      obtain ⟨q3, hc, hf⟩ := Option.bind_eq_some_iff.mp hf
      refine x_cv (n := 1) C hH (c_X5_add l G I i (I (p0 + 1) x2.toNatClampNeg) hi hc) (kd_lt hi (by decide)) (cE_5 hi) rfl tw_449 tw_798 tw_447 tw_448 tw_48 (by decide +kernel) ⟨Nat.le_of_ble_eq_true rfl, Nat.le_of_ble_eq_true rfl⟩ rfl hl.1 rfl (Nat.le_of_ble_eq_true rfl) ⟨Nat.le_of_ble_eq_true rfl, Nat.le_of_ble_eq_true rfl⟩ dX5_copyFrom_21 (fun H locs hH => ?_)
      refine lv_iinc (v := (x2 + (1 : Int32))) (lv' := [(2, .int (x2 + (1 : Int32))), (0, .ref (G.2.1 i)), (1, .ref (G.2.1 p0))]) C.1 C.2.1 dX5_copyFrom_24 hl (k := 2) rfl rfl (by decide) rfl (fun ls hl => ?_)
      refine lv_goto (tgt := 6) C.1 C.2.1 dX5_copyFrom_27 (by decide) ?_
      exact ih q3 (x2 + (1 : Int32))  _ _ _ hH (lv_sub hl [1, 2, 0] rfl) hf
def f_X5_copyFrom (I : Mem) (i : Nat) (p0 : Nat) : Option Mem := (f_X5_clear I i).bind fun q1 => (f_X5_copyFrom_L6 i p0 FU q1 (0 : Int32))
set_option maxHeartbeats 4000000 in
set_option maxRecDepth 100000 in
theorem c_X5_copyFrom (l : Launch) (G : Gx) (I : Mem) (i : Nat) (p0 : Nat) (hi : kd i = 5) (hp0 : kd p0 = 5) {J : Mem} (hf : f_X5_copyFrom I i p0 = some J) : Mv l yX5_copyFrom (.code yX5_copyFrom cX5_copyFrom 3 none) 3 103 G I [.ref (G.2.1 i), .ref (G.2.1 p0)] J := by
  refine Mv.of (by decide +kernel) (Nat.le_of_ble_eq_true rfl) (fun p e s m below meth c ls C hr hH hl => ?_)
  have hl : lv_has ls 3 [(0, .ref (G.2.1 i)), (1, .ref (G.2.1 p0))] := hl
  have hf : ((f_X5_clear I i).bind fun q1 => (f_X5_copyFrom_L6 i p0 FU q1 (0 : Int32))) = _ := hf
  refine lv_aload_n C.1 C.2.1 dX5_copyFrom_0 rfl (lv_at hl 0 rfl) ?_
  obtain ⟨q1, hc, hf⟩ := Option.bind_eq_some_iff.mp hf
  refine x_cv (n := 0) C hH (c_X5_clear l G I i hi hc) (kd_lt hi (by decide)) (cE_5 hi) rfl tw_349 tw_797 tw_347 tw_348 tw_48 (by decide +kernel) ⟨Nat.le_of_ble_eq_true rfl, Nat.le_of_ble_eq_true rfl⟩ rfl hl.1 rfl (Nat.le_of_ble_eq_true rfl) ⟨Nat.le_of_ble_eq_true rfl, Nat.le_of_ble_eq_true rfl⟩ dX5_copyFrom_1 (fun H locs hH => ?_)
  refine lv_iconst (v := (0 : Int32)) C.1 C.2.1 dX5_copyFrom_4 (by decide) ?_
  refine lv_istore_n (lv' := [(2, .int (0 : Int32)), (0, .ref (G.2.1 i)), (1, .ref (G.2.1 p0))]) C.1 C.2.1 dX5_copyFrom_5 rfl hl (by decide) rfl (fun ls hl => ?_)
  exact w_X5_copyFrom_L6 i p0 hi hp0 C hr FU q1 (0 : Int32) _ _ _ hH (lv_sub hl [1, 2, 0] rfl) hf
