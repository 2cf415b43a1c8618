def f_X3_begin (I : Mem)  : Option Mem := some (st (st (st I 3 2 (0 : Int32)) 3 3 (1 : Int32)) 3 4 (0 : Int32))
set_option maxHeartbeats 4000000 in
set_option maxRecDepth 100000 in
theorem c_X3_begin (l : Launch) (G : Gx) (I : Mem) {J : Mem} (hf : f_X3_begin I = some J) : Mv l yX3_begin (.code yX3_begin cX3_begin 1 none) 0 0 G I [.ref (G.2.1 3)] J := by
  refine Mv.of (by decide +kernel) (Nat.le_of_ble_eq_true rfl) (fun p e s m below meth c ls C hr hH hl => ?_)
  have hl : lv_has ls 1 [(0, .ref (G.2.1 3))] := hl
  have hf : (some (st (st (st I 3 2 (0 : Int32)) 3 3 (1 : Int32)) 3 4 (0 : Int32))) = _ := hf
  refine lv_aload_n C.1 C.2.1 dX3_begin_0 rfl (lv_at hl 0 rfl) ?_
  refine lv_iconst (v := (0 : Int32)) C.1 C.2.1 dX3_begin_1 (by decide) ?_
  refine p_X3_2 C hH kk_3  tw_177 dX3_begin_2 (fun H locs hH => ?_)
  refine lv_aload_n C.1 C.2.1 dX3_begin_5 rfl (lv_at hl 0 rfl) ?_
  refine lv_iconst (v := (1 : Int32)) C.1 C.2.1 dX3_begin_6 (by decide) ?_
  refine p_X3_3 C hH kk_3 ⟨rfl, rfl⟩ tw_181 dX3_begin_7 (fun H locs hH => ?_)
  refine lv_aload_n C.1 C.2.1 dX3_begin_10 rfl (lv_at hl 0 rfl) ?_
  refine lv_iconst (v := (0 : Int32)) C.1 C.2.1 dX3_begin_11 (by decide) ?_
  refine p_X3_4 C hH kk_3 ⟨rfl, rfl⟩ tw_183 dX3_begin_12 (fun H locs hH => ?_)
  cases hf
  exact x_vret C hr hH dX3_begin_15
def f_X3_add (I : Mem) (p0 : Int32) (p1 : Int32) (p2 : Int32) : Option Mem := if (6 : Int32) ≤ (I 3 2) then (some I) else (if inb (I 3 2) (ln 5) = true then ((f_X7_become I (6 + 3 * (I 3 2).toNatClampNeg) p0 p1 p2).bind fun q2 => (some (st q2 3 2 ((q2 3 2) + (1 : Int32))))) else none)
set_option maxHeartbeats 4000000 in
set_option maxRecDepth 100000 in
theorem c_X3_add (l : Launch) (G : Gx) (I : Mem) (p0 : Int32) (p1 : Int32) (p2 : Int32) {J : Mem} (hf : f_X3_add I p0 p1 p2 = some J) : Mv l yX3_add (.code yX3_add cX3_add 4 none) 2 43 G I [.ref (G.2.1 3), .int p0, .int p1, .int p2] J := by
  refine Mv.of (by decide +kernel) (Nat.le_of_ble_eq_true rfl) (fun p e s m below meth c ls C hr hH hl => ?_)
  have hl : lv_has ls 4 [(0, .ref (G.2.1 3)), (1, .int p0), (2, .int p1), (3, .int p2)] := hl
  have hf : (if (6 : Int32) ≤ (I 3 2) then (some I) else (if inb (I 3 2) (ln 5) = true then ((f_X7_become I (6 + 3 * (I 3 2).toNatClampNeg) p0 p1 p2).bind fun q2 => (some (st q2 3 2 ((q2 3 2) + (1 : Int32))))) else none)) = _ := hf
  refine lv_aload_n C.1 C.2.1 dX3_add_0 rfl (lv_at hl 0 rfl) ?_
  refine g_X3_2 C hH kk_3 tw_177 dX3_add_1 ?_
  refine lv_bipush (v := (6 : Int32)) C.1 C.2.1 dX3_add_4 (by decide) ?_
  refine lv_icmp_ge (tgt := 34) C.1 C.2.1 dX3_add_6 (by decide) (fun q3 => ?_) (fun q3 => ?_)
  · have hf := (if_pos q3).symm.trans hf
    cases hf
    exact x_vret C hr hH dX3_add_34
  · have hf := (if_neg q3).symm.trans hf
    refine lv_aload_n C.1 C.2.1 dX3_add_9 rfl (lv_at hl 0 rfl) ?_
    refine g_X3_1 C hH kk_3 tw_173 dX3_add_10 ?_
    refine lv_aload_n C.1 C.2.1 dX3_add_13 rfl (lv_at hl 0 rfl) ?_
    refine g_X3_2 C hH kk_3 tw_177 dX3_add_14 ?_
    obtain ⟨q1, hf⟩ := itn hf
    refine x_aldS C hH kk_5 q1 dX3_add_17 ?_
    refine lv_iload_n C.1 C.2.1 dX3_add_18 rfl (lv_at hl 1 rfl) ?_
    refine lv_iload_n C.1 C.2.1 dX3_add_19 rfl (lv_at hl 2 rfl) ?_
    refine lv_iload_n C.1 C.2.1 dX3_add_20 rfl (lv_at hl 3 rfl) ?_
    obtain ⟨q2, hc, hf⟩ := Option.bind_eq_some_iff.mp hf
    refine x_cv (n := 3) C hH (c_X7_become l G I (6 + 3 * (I 3 2).toNatClampNeg) p0 p1 p2 (kd_St q1) hc) (kd_lt (kd_St q1) (by decide)) (cE_7 (kd_St q1)) rfl tw_517 tw_514 tw_515 tw_516 tw_51 (by decide +kernel) ⟨Nat.le_of_ble_eq_true rfl, Nat.le_of_ble_eq_true rfl⟩ rfl hl.1 rfl (Nat.le_of_ble_eq_true rfl) ⟨Nat.le_of_ble_eq_true rfl, Nat.le_of_ble_eq_true rfl⟩ dX3_add_21 (fun H locs hH => ?_)
    refine lv_aload_n C.1 C.2.1 dX3_add_24 rfl (lv_at hl 0 rfl) ?_
    refine lv_dup C.1 C.2.1 dX3_add_25 rfl ?_
    refine g_X3_2 C hH kk_3 tw_177 dX3_add_26 ?_
    refine lv_iconst (v := (1 : Int32)) C.1 C.2.1 dX3_add_29 (by decide) ?_
    refine lv_iadd C.1 C.2.1 dX3_add_30 ?_
    refine p_X3_2 C hH kk_3  tw_177 dX3_add_31 (fun H locs hH => ?_)
    cases hf
    exact x_vret C hr hH dX3_add_34
def f_X3_sourceFlags (I : Mem)  : Option (Int32 × Mem) := if (I 4 1) = (0 : Int32) then (some ((1 : Int32), I)) else (if (I 4 1) = (1 : Int32) then (some ((7 : Int32), I)) else (some ((0 : Int32), I)))
set_option maxHeartbeats 4000000 in
set_option maxRecDepth 100000 in
theorem c_X3_sourceFlags (l : Launch) (G : Gx) (I : Mem) {res : Int32} {J : Mem} (hf : f_X3_sourceFlags I = some (res, J)) : Mi l yX3_sourceFlags (.code yX3_sourceFlags cX3_sourceFlags 1 (some .int)) 0 0 G I [.ref (G.2.1 3)] res J := by
  refine Mi.of (by decide +kernel) (Nat.le_of_ble_eq_true rfl) (fun p e s m below meth c ls C hr hH hl => ?_)
  have hl : lv_has ls 1 [(0, .ref (G.2.1 3))] := hl
  have hf : (if (I 4 1) = (0 : Int32) then (some ((1 : Int32), I)) else (if (I 4 1) = (1 : Int32) then (some ((7 : Int32), I)) else (some ((0 : Int32), I)))) = _ := hf
  refine lv_aload_n C.1 C.2.1 dX3_sourceFlags_0 rfl (lv_at hl 0 rfl) ?_
  refine g_X3_0 C hH kk_3 tw_169 dX3_sourceFlags_1 ?_
  refine gN_X6_1 C hH kk_4 tw_109 dX3_sourceFlags_4 ?_
  by_cases q1 : (I 4 1) = (0 : Int32)
  · have hf := (if_pos q1).symm.trans hf
    refine lv_lookup (tgt := 32) (off := 25) C.1 C.2.1 dX3_sourceFlags_7 (by decide) (by rw [q1]; decide) (by decide) ?_
    refine lv_iconst (v := (1 : Int32)) C.1 C.2.1 dX3_sourceFlags_32 (by decide) ?_
    cases hf
    exact x_iret C hr hH dX3_sourceFlags_33
  · have hf := (if_neg q1).symm.trans hf
    by_cases q2 : (I 4 1) = (1 : Int32)
    · have hf := (if_pos q2).symm.trans hf
      refine lv_lookup (tgt := 34) (off := 27) C.1 C.2.1 dX3_sourceFlags_7 (by decide) (by rw [q2]; decide) (by decide) ?_
      refine lv_bipush (v := (7 : Int32)) C.1 C.2.1 dX3_sourceFlags_34 (by decide) ?_
      cases hf
      exact x_iret C hr hH dX3_sourceFlags_36
    · have hf := (if_neg q2).symm.trans hf
      have q1' := ne_toInt (z := 0) (by decide) q1
      have q2' := ne_toInt (z := 1) (by decide) q2
      refine lv_lookup (tgt := 37) (off := 30) C.1 C.2.1 dX3_sourceFlags_7 (by decide) (by simp [Op.lookupswitch.offset, Ne.symm q1', Ne.symm q2']) (by decide) ?_
      refine lv_iconst (v := (0 : Int32)) C.1 C.2.1 dX3_sourceFlags_37 (by decide) ?_
      cases hf
      exact x_iret C hr hH dX3_sourceFlags_38
def f_X3_allFlags_L7   : Nat → Mem → Int32 → Int32 → Option (Int32 × Mem)
  | 0, _, _, _ => none
  | n + 1, I, x1, x2 => if (I 3 2) ≤ x2 then (some (x1, I)) else (if inb x2 (ln 5) = true then ((f_X7_flagsBehind I (6 + 3 * x2.toNatClampNeg) x1).bind fun q3 => (f_X3_allFlags_L7 n q3.2 q3.1 (x2 + (1 : Int32)))) else none)
set_option maxHeartbeats 4000000 in
set_option maxRecDepth 100000 in
theorem w_X3_allFlags_L7 {p : Program} {l : Launch} {e : Env} {s : State} {m : MethodId} {args : Array Value} {below : List Frame} {meth : Method} {c : Code} {G : Gx} {res : Int32} {J : Mem} (C : CX p l s m args meth c cX3_allFlags 3 yX3_allFlags.cls G) (hr : meth.sig.returnType = (some .int)) :
    ∀ (n : Nat) (I : Mem) (x1 : Int32) (x2 : Int32) (H : Heap) (locs : List Loc) (ls : Array Slot), HW G s H locs I → lv_has ls 3 [(0, .ref (G.2.1 3)), (1, .int x1), (2, .int x2)] → f_X3_allFlags_L7 n I x1 x2 = some (res, J) → W p l e { frames := 1, cells := 0, slots := 0, locals := 21 } s m args below meth c H locs 0 0 (MQ below (Qi9 G res J s.heap.size) args s 0 0 (AA G s.heap.size)) (F0 m 7 ls []) := by
  intro n
  induction n with
  | zero => intro I x1 x2  H locs ls hH hl hf; exact absurd hf (by simp [f_X3_allFlags_L7])
  | succ n ih =>
    intro I x1 x2  H locs ls hH hl hf
    have hf : (if (I 3 2) ≤ x2 then (some (x1, I)) else (if inb x2 (ln 5) = true then ((f_X7_flagsBehind I (6 + 3 * x2.toNatClampNeg) x1).bind fun q3 => (f_X3_allFlags_L7 n q3.2 q3.1 (x2 + (1 : Int32)))) else none)) = _ := hf
    refine lv_iload_n C.1 C.2.1 dX3_allFlags_7 rfl (lv_at hl 2 rfl) ?_
    refine lv_aload_n C.1 C.2.1 dX3_allFlags_8 rfl (lv_at hl 0 rfl) ?_
    refine g_X3_2 C hH kk_3 tw_177 dX3_allFlags_9 ?_
    refine lv_icmp_ge (tgt := 32) C.1 C.2.1 dX3_allFlags_12 (by decide) (fun q4 => ?_) (fun q4 => ?_)
    · have hf := (if_pos q4).symm.trans hf
      refine lv_iload_n C.1 C.2.1 dX3_allFlags_32 rfl (lv_at hl 1 rfl) ?_
      cases hf
      exact x_iret C hr hH dX3_allFlags_33
    · have hf := (if_neg q4).symm.trans hf
      refine lv_aload_n C.1 C.2.1 dX3_allFlags_15 rfl (lv_at hl 0 rfl) ?_
      refine g_X3_1 C hH kk_3 tw_173 dX3_allFlags_16 ?_
      refine lv_iload_n C.1 C.2.1 dX3_allFlags_19 rfl (lv_at hl 2 rfl) ?_
      obtain ⟨q2, hf⟩ := itn hf
      refine x_aldS C hH kk_5 q2 dX3_allFlags_20 ?_
      refine lv_iload_n C.1 C.2.1 dX3_allFlags_21 rfl (lv_at hl 1 rfl) ?_
      obtain ⟨q3, hc, hf⟩ := Option.bind_eq_some_iff.mp hf
      refine x_ci (n := 1) C hH (c_X7_flagsBehind l G I (6 + 3 * x2.toNatClampNeg) x1 (kd_St q2) hc) (kd_lt (kd_St q2) (by decide)) (cE_7 (kd_St q2)) rfl tw_538 tw_535 tw_536 tw_537 tw_51 (by decide +kernel) ⟨Nat.le_of_ble_eq_true rfl, Nat.le_of_ble_eq_true rfl⟩ rfl hl.1 rfl (Nat.le_of_ble_eq_true rfl) ⟨Nat.le_of_ble_eq_true rfl, Nat.le_of_ble_eq_true rfl⟩ dX3_allFlags_22 (fun H locs hH => ?_)
      refine lv_istore_n (lv' := [(1, .int q3.1), (0, .ref (G.2.1 3)), (2, .int x2)]) C.1 C.2.1 dX3_allFlags_25 rfl hl (by decide) rfl (fun ls hl => ?_)
      refine lv_iinc (v := (x2 + (1 : Int32))) (lv' := [(2, .int (x2 + (1 : Int32))), (1, .int q3.1), (0, .ref (G.2.1 3))]) C.1 C.2.1 dX3_allFlags_26 hl (k := 2) rfl rfl (by decide) rfl (fun ls hl => ?_)
      refine lv_goto (tgt := 7) C.1 C.2.1 dX3_allFlags_29 (by decide) ?_
      exact ih q3.2 q3.1 (x2 + (1 : Int32))  _ _ _ hH (lv_sub hl [2, 1, 0] rfl) hf
def f_X3_allFlags (I : Mem)  : Option (Int32 × Mem) := (f_X3_sourceFlags I).bind fun q1 => (f_X3_allFlags_L7 FU q1.2 q1.1 (0 : Int32))
set_option maxHeartbeats 4000000 in
set_option maxRecDepth 100000 in
theorem c_X3_allFlags (l : Launch) (G : Gx) (I : Mem) {res : Int32} {J : Mem} (hf : f_X3_allFlags I = some (res, J)) : Mi l yX3_allFlags (.code yX3_allFlags cX3_allFlags 3 (some .int)) 1 21 G I [.ref (G.2.1 3)] res J := by
  refine Mi.of (by decide +kernel) (Nat.le_of_ble_eq_true rfl) (fun p e s m below meth c ls C hr hH hl => ?_)
  have hl : lv_has ls 3 [(0, .ref (G.2.1 3))] := hl
  have hf : ((f_X3_sourceFlags I).bind fun q1 => (f_X3_allFlags_L7 FU q1.2 q1.1 (0 : Int32))) = _ := hf
  refine lv_aload_n C.1 C.2.1 dX3_allFlags_0 rfl (lv_at hl 0 rfl) ?_
  obtain ⟨q1, hc, hf⟩ := Option.bind_eq_some_iff.mp hf
  refine x_ci (n := 0) C hH (c_X3_sourceFlags l G I  hc) (kd_lt kk_3 (by decide)) (cE_3 kk_3) rfl tw_534 tw_531 tw_533 tw_3 tw_49 (by decide +kernel) ⟨Nat.le_of_ble_eq_true rfl, Nat.le_of_ble_eq_true rfl⟩ rfl hl.1 rfl (Nat.le_of_ble_eq_true rfl) ⟨Nat.le_of_ble_eq_true rfl, Nat.le_of_ble_eq_true rfl⟩ dX3_allFlags_1 (fun H locs hH => ?_)
  refine lv_istore_n (lv' := [(1, .int q1.1), (0, .ref (G.2.1 3))]) C.1 C.2.1 dX3_allFlags_4 rfl hl (by decide) rfl (fun ls hl => ?_)
  refine lv_iconst (v := (0 : Int32)) C.1 C.2.1 dX3_allFlags_5 (by decide) ?_
  refine lv_istore_n (lv' := [(2, .int (0 : Int32)), (1, .int q1.1), (0, .ref (G.2.1 3))]) C.1 C.2.1 dX3_allFlags_6 rfl hl (by decide) rfl (fun ls hl => ?_)
  exact w_X3_allFlags_L7 C hr FU q1.2 q1.1 (0 : Int32) _ _ _ hH (lv_sub hl [2, 1, 0] rfl) hf
