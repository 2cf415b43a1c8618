def f_X10_thrown (I : Mem)  : Option (Int32 × Mem) := some ((I 45 0), I)
set_option maxHeartbeats 4000000 in
set_option maxRecDepth 100000 in
theorem c_X10_thrown (l : Launch) (G : Gx) (I : Mem) {res : Int32} {J : Mem} (hf : f_X10_thrown I = some (res, J)) : Mi l yX10_thrown (.code yX10_thrown cX10_thrown 1 (some .int)) 0 0 G I [.ref (G.2.1 45)] res J := by
  refine Mi.of (by decide +kernel) (Nat.le_of_ble_eq_true rfl) (fun p e s m below meth c ls C hr hH hl => ?_)
  have hl : lv_has ls 1 [(0, .ref (G.2.1 45))] := hl
  have hf : (some ((I 45 0), I)) = _ := hf
  refine lv_aload_n C.1 C.2.1 dX10_thrown_0 rfl (lv_at hl 0 rfl) ?_
  refine g_X10_0 C hH kk_45 tw_814 dX10_thrown_1 ?_
  cases hf
  exact x_iret C hr hH dX10_thrown_4
def f_X10_refuse (I : Mem) (p0 : Int32) : Option (Int32 × Mem) := some ((0 : Int32), (st I 45 0 p0))
set_option maxHeartbeats 4000000 in
set_option maxRecDepth 100000 in
theorem c_X10_refuse (l : Launch) (G : Gx) (I : Mem) (p0 : Int32) {res : Int32} {J : Mem} (hf : f_X10_refuse I p0 = some (res, J)) : Mi l yX10_refuse (.code yX10_refuse cX10_refuse 2 (some .int)) 0 0 G I [.ref (G.2.1 45), .int p0] res J := by
  refine Mi.of (by decide +kernel) (Nat.le_of_ble_eq_true rfl) (fun p e s m below meth c ls C hr hH hl => ?_)
  have hl : lv_has ls 2 [(0, .ref (G.2.1 45)), (1, .int p0)] := hl
  have hf : (some ((0 : Int32), (st I 45 0 p0))) = _ := hf
  refine lv_aload_n C.1 C.2.1 dX10_refuse_0 rfl (lv_at hl 0 rfl) ?_
  refine lv_iload_n C.1 C.2.1 dX10_refuse_1 rfl (lv_at hl 1 rfl) ?_
  refine p_X10_0 C hH kk_45  tw_814 dX10_refuse_2 (fun H locs hH => ?_)
  refine lv_iconst (v := (0 : Int32)) C.1 C.2.1 dX10_refuse_5 (by decide) ?_
  cases hf
  exact x_iret C hr hH dX10_refuse_6
def f_X10_put (I : Mem) (p0 : Int32) : Option (Int32 × Mem) := if ((st I 45 0 (0 : Int32)) 45 2) = (40 : Int32) then ((f_X10_refuse (st I 45 0 (0 : Int32)) (1 : Int32)).bind fun q2 => (some (q2.1, q2.2))) else (if inb ((st I 45 0 (0 : Int32)) 45 2) (ln 46) = true then (some (((st (st (st I 45 0 (0 : Int32)) 46 ((st I 45 0 (0 : Int32)) 45 2).toNatClampNeg p0) 45 2 (((st (st I 45 0 (0 : Int32)) 46 ((st I 45 0 (0 : Int32)) 45 2).toNatClampNeg p0) 45 2) + (1 : Int32))) 45 2), (st (st (st I 45 0 (0 : Int32)) 46 ((st I 45 0 (0 : Int32)) 45 2).toNatClampNeg p0) 45 2 (((st (st I 45 0 (0 : Int32)) 46 ((st I 45 0 (0 : Int32)) 45 2).toNatClampNeg p0) 45 2) + (1 : Int32))))) else none)
set_option maxHeartbeats 4000000 in
set_option maxRecDepth 100000 in
theorem c_X10_put (l : Launch) (G : Gx) (I : Mem) (p0 : Int32) {res : Int32} {J : Mem} (hf : f_X10_put I p0 = some (res, J)) : Mi l yX10_put (.code yX10_put cX10_put 2 (some .int)) 1 21 G I [.ref (G.2.1 45), .int p0] res J := by
  refine Mi.of (by decide +kernel) (Nat.le_of_ble_eq_true rfl) (fun p e s m below meth c ls C hr hH hl => ?_)
  have hl : lv_has ls 2 [(0, .ref (G.2.1 45)), (1, .int p0)] := hl
  have hf : (if ((st I 45 0 (0 : Int32)) 45 2) = (40 : Int32) then ((f_X10_refuse (st I 45 0 (0 : Int32)) (1 : Int32)).bind fun q2 => (some (q2.1, q2.2))) else (if inb ((st I 45 0 (0 : Int32)) 45 2) (ln 46) = true then (some (((st (st (st I 45 0 (0 : Int32)) 46 ((st I 45 0 (0 : Int32)) 45 2).toNatClampNeg p0) 45 2 (((st (st I 45 0 (0 : Int32)) 46 ((st I 45 0 (0 : Int32)) 45 2).toNatClampNeg p0) 45 2) + (1 : Int32))) 45 2), (st (st (st I 45 0 (0 : Int32)) 46 ((st I 45 0 (0 : Int32)) 45 2).toNatClampNeg p0) 45 2 (((st (st I 45 0 (0 : Int32)) 46 ((st I 45 0 (0 : Int32)) 45 2).toNatClampNeg p0) 45 2) + (1 : Int32))))) else none)) = _ := hf
  refine lv_aload_n C.1 C.2.1 dX10_put_0 rfl (lv_at hl 0 rfl) ?_
  refine lv_iconst (v := (0 : Int32)) C.1 C.2.1 dX10_put_1 (by decide) ?_
  refine p_X10_0 C hH kk_45  tw_814 dX10_put_2 (fun H locs hH => ?_)
  refine lv_aload_n C.1 C.2.1 dX10_put_5 rfl (lv_at hl 0 rfl) ?_
  refine g_X10_2 C hH kk_45 tw_816 dX10_put_6 ?_
  refine lv_bipush (v := (40 : Int32)) C.1 C.2.1 dX10_put_9 (by decide) ?_
  refine lv_icmp_ne (tgt := 20) C.1 C.2.1 dX10_put_11 (by decide) (fun q3 => ?_) (fun q3 => ?_)
  · have hf := (if_neg q3).symm.trans hf
    refine lv_aload_n C.1 C.2.1 dX10_put_20 rfl (lv_at hl 0 rfl) ?_
    refine g_X10_1 C hH kk_45 tw_815 dX10_put_21 ?_
    refine lv_aload_n C.1 C.2.1 dX10_put_24 rfl (lv_at hl 0 rfl) ?_
    refine g_X10_2 C hH kk_45 tw_816 dX10_put_25 ?_
    refine lv_iload_n C.1 C.2.1 dX10_put_28 rfl (lv_at hl 1 rfl) ?_
    obtain ⟨q1, hf⟩ := itn hf
    refine x_iast C hH kk_46 q1 dX10_put_29 (fun H locs hH => ?_)
    refine lv_aload_n C.1 C.2.1 dX10_put_30 rfl (lv_at hl 0 rfl) ?_
    refine lv_dup C.1 C.2.1 dX10_put_31 rfl ?_
    refine g_X10_2 C hH kk_45 tw_816 dX10_put_32 ?_
    refine lv_iconst (v := (1 : Int32)) C.1 C.2.1 dX10_put_35 (by decide) ?_
    refine lv_iadd C.1 C.2.1 dX10_put_36 ?_
    refine p_X10_2 C hH kk_45  tw_816 dX10_put_37 (fun H locs hH => ?_)
    refine lv_aload_n C.1 C.2.1 dX10_put_40 rfl (lv_at hl 0 rfl) ?_
    refine g_X10_2 C hH kk_45 tw_816 dX10_put_41 ?_
    cases hf
    exact x_iret C hr hH dX10_put_44
  · have hf := (if_pos q3).symm.trans hf
    refine lv_aload_n C.1 C.2.1 dX10_put_14 rfl (lv_at hl 0 rfl) ?_
    refine lv_iconst (v := (1 : Int32)) C.1 C.2.1 dX10_put_15 (by decide) ?_
    obtain ⟨q2, hc, hf⟩ := Option.bind_eq_some_iff.mp hf
    refine x_ci (n := 1) C hH (c_X10_refuse l G (st I 45 0 (0 : Int32)) (1 : Int32) hc) (kd_lt kk_45 (by decide)) (cE_10 kk_45) rfl tw_956 tw_953 tw_955 tw_23 tw_57 (by decide +kernel) ⟨Nat.le_of_ble_eq_true rfl, Nat.le_of_ble_eq_true rfl⟩ rfl hl.1 rfl (Nat.le_of_ble_eq_true rfl) ⟨Nat.le_of_ble_eq_true rfl, Nat.le_of_ble_eq_true rfl⟩ dX10_put_16 (fun H locs hH => ?_)
    cases hf
    exact x_iret C hr hH dX10_put_19
def f_X10_empty (I : Mem)  : Option (Int32 × Mem) := some (((st I 45 0 (0 : Int32)) 45 2), (st (st I 45 0 (0 : Int32)) 45 2 (0 : Int32)))
set_option maxHeartbeats 4000000 in
set_option maxRecDepth 100000 in
theorem c_X10_empty (l : Launch) (G : Gx) (I : Mem) {res : Int32} {J : Mem} (hf : f_X10_empty I = some (res, J)) : Mi l yX10_empty (.code yX10_empty cX10_empty 2 (some .int)) 0 0 G I [.ref (G.2.1 45)] res J := by
  refine Mi.of (by decide +kernel) (Nat.le_of_ble_eq_true rfl) (fun p e s m below meth c ls C hr hH hl => ?_)
  have hl : lv_has ls 2 [(0, .ref (G.2.1 45))] := hl
  have hf : (some (((st I 45 0 (0 : Int32)) 45 2), (st (st I 45 0 (0 : Int32)) 45 2 (0 : Int32)))) = _ := hf
  refine lv_aload_n C.1 C.2.1 dX10_empty_0 rfl (lv_at hl 0 rfl) ?_
  refine lv_iconst (v := (0 : Int32)) C.1 C.2.1 dX10_empty_1 (by decide) ?_
  refine p_X10_0 C hH kk_45  tw_814 dX10_empty_2 (fun H locs hH => ?_)
  refine lv_aload_n C.1 C.2.1 dX10_empty_5 rfl (lv_at hl 0 rfl) ?_
  refine g_X10_2 C hH kk_45 tw_816 dX10_empty_6 ?_
  refine lv_istore_n (lv' := [(1, .int ((st I 45 0 (0 : Int32)) 45 2)), (0, .ref (G.2.1 45))]) C.1 C.2.1 dX10_empty_9 rfl hl (by decide) rfl (fun ls hl => ?_)
  refine lv_aload_n C.1 C.2.1 dX10_empty_10 rfl (lv_at hl 1 rfl) ?_
  refine lv_iconst (v := (0 : Int32)) C.1 C.2.1 dX10_empty_11 (by decide) ?_
  refine p_X10_2 C hH kk_45  tw_816 dX10_empty_12 (fun H locs hH => ?_)
  refine lv_iload_n C.1 C.2.1 dX10_empty_15 rfl (lv_at hl 0 rfl) ?_
  cases hf
  exact x_iret C hr hH dX10_empty_16
def f_X10_source_J30 (p0 : Int32) (p1 : Int32) (p2 : Int32) (p3 : Int32)  (I : Mem) (x1 : Int32) (x2 : Int32) (x3 : Int32) (x4 : Int32) (y0 : Int32) : Option Mem := if ((st I 45 0 y0) 45 0) = 0 then (some (st (st (st (st (st (st (st (st I 45 0 y0) 45 3 (1 : Int32)) 45 4 (0 : Int32)) 45 5 x1) 45 6 x2) 45 7 x3) 45 8 x4) 45 9 (0 : Int32))) else (some (st I 45 0 y0))
set_option maxHeartbeats 4000000 in
set_option maxRecDepth 100000 in
theorem w_X10_source_J30 {p : Program} {l : Launch} {e : Env} {s : State} {m : MethodId} {args : Array Value} {below : List Frame} {meth : Method} {c : Code} {G : Gx} (p0 : Int32) (p1 : Int32) (p2 : Int32) (p3 : Int32) {J : Mem} (C : CX p l s m args meth c cX10_source 5 yX10_source.cls G) (hr : meth.sig.returnType = none) :
    ∀ (I : Mem) (x1 : Int32) (x2 : Int32) (x3 : Int32) (x4 : Int32) (y0 : Int32) (H : Heap) (locs : List Loc) (ls : Array Slot), HW G s H locs I → lv_has ls 5 [(0, .ref (G.2.1 45)), (1, .int x1), (2, .int x2), (3, .int x3), (4, .int x4)] → f_X10_source_J30 p0 p1 p2 p3 I x1 x2 x3 x4 y0 = some J → W p l e { frames := 0, cells := 0, slots := 0, locals := 0 } s m args below meth c H locs 0 0 (MQ below (Qv9 G J s.heap.size) args s 0 0 (AA G s.heap.size)) (F0 m 30 ls [.int y0, .ref (G.2.1 45)]) := by
  intro I x1 x2 x3 x4 y0  H locs ls hH hl hf
  have hf : (if ((st I 45 0 y0) 45 0) = 0 then (some (st (st (st (st (st (st (st (st I 45 0 y0) 45 3 (1 : Int32)) 45 4 (0 : Int32)) 45 5 x1) 45 6 x2) 45 7 x3) 45 8 x4) 45 9 (0 : Int32))) else (some (st I 45 0 y0))) = _ := hf
  refine p_X10_0 C hH kk_45  tw_814 dX10_source_30 (fun H locs hH => ?_)
  refine lv_aload_n C.1 C.2.1 dX10_source_33 rfl (lv_at hl 0 rfl) ?_
  refine g_X10_0 C hH kk_45 tw_814 dX10_source_34 ?_
  refine lv_if_eq (tgt := 41) C.1 C.2.1 dX10_source_37 (by decide) (fun q6 => ?_) (fun q6 => ?_)
  · have hf := (if_pos q6).symm.trans hf
    refine lv_aload_n C.1 C.2.1 dX10_source_41 rfl (lv_at hl 0 rfl) ?_
    refine lv_iconst (v := (1 : Int32)) C.1 C.2.1 dX10_source_42 (by decide) ?_
    refine p_X10_3 C hH kk_45 ⟨rfl, rfl⟩ tw_817 dX10_source_43 (fun H locs hH => ?_)
    refine lv_aload_n C.1 C.2.1 dX10_source_46 rfl (lv_at hl 0 rfl) ?_
    refine lv_iconst (v := (0 : Int32)) C.1 C.2.1 dX10_source_47 (by decide) ?_
    refine p_X10_4 C hH kk_45 ⟨rfl, rfl⟩ tw_818 dX10_source_48 (fun H locs hH => ?_)
    refine lv_aload_n C.1 C.2.1 dX10_source_51 rfl (lv_at hl 0 rfl) ?_
    refine lv_iload_n C.1 C.2.1 dX10_source_52 rfl (lv_at hl 1 rfl) ?_
    refine p_X10_5 C hH kk_45  tw_819 dX10_source_53 (fun H locs hH => ?_)
    refine lv_aload_n C.1 C.2.1 dX10_source_56 rfl (lv_at hl 0 rfl) ?_
    refine lv_iload_n C.1 C.2.1 dX10_source_57 rfl (lv_at hl 2 rfl) ?_
    refine p_X10_6 C hH kk_45  tw_820 dX10_source_58 (fun H locs hH => ?_)
    refine lv_aload_n C.1 C.2.1 dX10_source_61 rfl (lv_at hl 0 rfl) ?_
    refine lv_iload_n C.1 C.2.1 dX10_source_62 rfl (lv_at hl 3 rfl) ?_
    refine p_X10_7 C hH kk_45  tw_821 dX10_source_63 (fun H locs hH => ?_)
    refine lv_aload_n C.1 C.2.1 dX10_source_66 rfl (lv_at hl 0 rfl) ?_
    refine lv_iload C.1 C.2.1 dX10_source_67 (lv_at hl 4 rfl) ?_
    refine p_X10_8 C hH kk_45  tw_822 dX10_source_69 (fun H locs hH => ?_)
    refine lv_aload_n C.1 C.2.1 dX10_source_72 rfl (lv_at hl 0 rfl) ?_
    refine lv_iconst (v := (0 : Int32)) C.1 C.2.1 dX10_source_73 (by decide) ?_
    refine p_X10_9 C hH kk_45  tw_823 dX10_source_74 (fun H locs hH => ?_)
    cases hf
    exact x_vret C hr hH dX10_source_77
  · have hf := (if_neg q6).symm.trans hf
    cases hf
    exact x_vret C hr hH dX10_source_40
def f_X10_source_J29 (p0 : Int32) (p1 : Int32) (p2 : Int32) (p3 : Int32)  (I : Mem) (x1 : Int32) (x2 : Int32) (x3 : Int32) (x4 : Int32) : Option Mem := f_X10_source_J30 p0 p1 p2 p3 I x1 x2 x3 x4 (0 : Int32)
set_option maxHeartbeats 4000000 in
set_option maxRecDepth 100000 in
theorem w_X10_source_J29 {p : Program} {l : Launch} {e : Env} {s : State} {m : MethodId} {args : Array Value} {below : List Frame} {meth : Method} {c : Code} {G : Gx} (p0 : Int32) (p1 : Int32) (p2 : Int32) (p3 : Int32) {J : Mem} (C : CX p l s m args meth c cX10_source 5 yX10_source.cls G) (hr : meth.sig.returnType = none) :
    ∀ (I : Mem) (x1 : Int32) (x2 : Int32) (x3 : Int32) (x4 : Int32) (H : Heap) (locs : List Loc) (ls : Array Slot), HW G s H locs I → lv_has ls 5 [(0, .ref (G.2.1 45)), (1, .int x1), (2, .int x2), (3, .int x3), (4, .int x4)] → f_X10_source_J29 p0 p1 p2 p3 I x1 x2 x3 x4 = some J → W p l e { frames := 0, cells := 0, slots := 0, locals := 0 } s m args below meth c H locs 0 0 (MQ below (Qv9 G J s.heap.size) args s 0 0 (AA G s.heap.size)) (F0 m 29 ls [.ref (G.2.1 45)]) := by
  intro I x1 x2 x3 x4  H locs ls hH hl hf
  have hf : (f_X10_source_J30 p0 p1 p2 p3 I x1 x2 x3 x4 (0 : Int32)) = _ := hf
  refine lv_iconst (v := (0 : Int32)) C.1 C.2.1 dX10_source_29 (by decide) ?_
  exact w_X10_source_J30 p0 p1 p2 p3 C hr I x1 x2 x3 x4 (0 : Int32) _ _ _ hH (lv_sub hl [0, 1, 2, 3, 4] rfl) hf
def f_X10_source_J25 (p0 : Int32) (p1 : Int32) (p2 : Int32) (p3 : Int32)  (I : Mem) (x1 : Int32) (x2 : Int32) (x3 : Int32) (x4 : Int32) : Option Mem := f_X10_source_J30 p0 p1 p2 p3 I x1 x2 x3 x4 (1 : Int32)
set_option maxHeartbeats 4000000 in
set_option maxRecDepth 100000 in
theorem w_X10_source_J25 {p : Program} {l : Launch} {e : Env} {s : State} {m : MethodId} {args : Array Value} {below : List Frame} {meth : Method} {c : Code} {G : Gx} (p0 : Int32) (p1 : Int32) (p2 : Int32) (p3 : Int32) {J : Mem} (C : CX p l s m args meth c cX10_source 5 yX10_source.cls G) (hr : meth.sig.returnType = none) :
    ∀ (I : Mem) (x1 : Int32) (x2 : Int32) (x3 : Int32) (x4 : Int32) (H : Heap) (locs : List Loc) (ls : Array Slot), HW G s H locs I → lv_has ls 5 [(0, .ref (G.2.1 45)), (1, .int x1), (2, .int x2), (3, .int x3), (4, .int x4)] → f_X10_source_J25 p0 p1 p2 p3 I x1 x2 x3 x4 = some J → W p l e { frames := 0, cells := 0, slots := 0, locals := 0 } s m args below meth c H locs 0 0 (MQ below (Qv9 G J s.heap.size) args s 0 0 (AA G s.heap.size)) (F0 m 25 ls [.ref (G.2.1 45)]) := by
  intro I x1 x2 x3 x4  H locs ls hH hl hf
  have hf : (f_X10_source_J30 p0 p1 p2 p3 I x1 x2 x3 x4 (1 : Int32)) = _ := hf
  refine lv_iconst (v := (1 : Int32)) C.1 C.2.1 dX10_source_25 (by decide) ?_
  refine lv_goto (tgt := 30) C.1 C.2.1 dX10_source_26 (by decide) ?_
  exact w_X10_source_J30 p0 p1 p2 p3 C hr I x1 x2 x3 x4 (1 : Int32) _ _ _ hH (lv_sub hl [0, 1, 2, 3, 4] rfl) hf
def f_X10_source (I : Mem) (p0 : Int32) (p1 : Int32) (p2 : Int32) (p3 : Int32) : Option Mem := if p0 < 0 then (f_X10_source_J25 p0 p1 p2 p3 I p0 p1 p2 p3) else (if (2 : Int32) < p0 then (f_X10_source_J25 p0 p1 p2 p3 I p0 p1 p2 p3) else (if p0 = (1 : Int32) then (if p2 < 0 then (f_X10_source_J25 p0 p1 p2 p3 I p0 p1 p2 p3) else (if p2 ≤ (40 : Int32) then (f_X10_source_J29 p0 p1 p2 p3 I p0 p1 p2 p3) else (f_X10_source_J25 p0 p1 p2 p3 I p0 p1 p2 p3))) else (f_X10_source_J29 p0 p1 p2 p3 I p0 p1 p2 p3)))
set_option maxHeartbeats 4000000 in
set_option maxRecDepth 100000 in
theorem c_X10_source (l : Launch) (G : Gx) (I : Mem) (p0 : Int32) (p1 : Int32) (p2 : Int32) (p3 : Int32) {J : Mem} (hf : f_X10_source I p0 p1 p2 p3 = some J) : Mv l yX10_source (.code yX10_source cX10_source 5 none) 0 0 G I [.ref (G.2.1 45), .int p0, .int p1, .int p2, .int p3] J := by
  refine Mv.of (by decide +kernel) (Nat.le_of_ble_eq_true rfl) (fun p e s m below meth c ls C hr hH hl => ?_)
  have hl : lv_has ls 5 [(0, .ref (G.2.1 45)), (1, .int p0), (2, .int p1), (3, .int p2), (4, .int p3)] := hl
  have hf : (if p0 < 0 then (f_X10_source_J25 p0 p1 p2 p3 I p0 p1 p2 p3) else (if (2 : Int32) < p0 then (f_X10_source_J25 p0 p1 p2 p3 I p0 p1 p2 p3) else (if p0 = (1 : Int32) then (if p2 < 0 then (f_X10_source_J25 p0 p1 p2 p3 I p0 p1 p2 p3) else (if p2 ≤ (40 : Int32) then (f_X10_source_J29 p0 p1 p2 p3 I p0 p1 p2 p3) else (f_X10_source_J25 p0 p1 p2 p3 I p0 p1 p2 p3))) else (f_X10_source_J29 p0 p1 p2 p3 I p0 p1 p2 p3)))) = _ := hf
  refine lv_aload_n C.1 C.2.1 dX10_source_0 rfl (lv_at hl 0 rfl) ?_
  refine lv_iload_n C.1 C.2.1 dX10_source_1 rfl (lv_at hl 1 rfl) ?_
  refine lv_if_lt (tgt := 25) C.1 C.2.1 dX10_source_2 (by decide) (fun q5 => ?_) (fun q5 => ?_)
  · have hf := (if_pos q5).symm.trans hf
    exact w_X10_source_J25 p0 p1 p2 p3 C hr I p0 p1 p2 p3 _ _ _ hH (lv_sub hl [0, 1, 2, 3, 4] rfl) hf
  · have hf := (if_neg q5).symm.trans hf
    refine lv_iload_n C.1 C.2.1 dX10_source_5 rfl (lv_at hl 1 rfl) ?_
    refine lv_iconst (v := (2 : Int32)) C.1 C.2.1 dX10_source_6 (by decide) ?_
    refine lv_icmp_gt (tgt := 25) C.1 C.2.1 dX10_source_7 (by decide) (fun q4 => ?_) (fun q4 => ?_)
    · have hf := (if_pos q4).symm.trans hf
      exact w_X10_source_J25 p0 p1 p2 p3 C hr I p0 p1 p2 p3 _ _ _ hH (lv_sub hl [0, 1, 2, 3, 4] rfl) hf
    · have hf := (if_neg q4).symm.trans hf
      refine lv_iload_n C.1 C.2.1 dX10_source_10 rfl (lv_at hl 1 rfl) ?_
      refine lv_iconst (v := (1 : Int32)) C.1 C.2.1 dX10_source_11 (by decide) ?_
      refine lv_icmp_ne (tgt := 29) C.1 C.2.1 dX10_source_12 (by decide) (fun q3 => ?_) (fun q3 => ?_)
      · have hf := (if_neg q3).symm.trans hf
        exact w_X10_source_J29 p0 p1 p2 p3 C hr I p0 p1 p2 p3 _ _ _ hH (lv_sub hl [0, 1, 2, 3, 4] rfl) hf
      · have hf := (if_pos q3).symm.trans hf
        refine lv_iload_n C.1 C.2.1 dX10_source_15 rfl (lv_at hl 3 rfl) ?_
        refine lv_if_lt (tgt := 25) C.1 C.2.1 dX10_source_16 (by decide) (fun q2 => ?_) (fun q2 => ?_)
        · have hf := (if_pos q2).symm.trans hf
          exact w_X10_source_J25 p0 p1 p2 p3 C hr I p0 p1 p2 p3 _ _ _ hH (lv_sub hl [0, 1, 2, 3, 4] rfl) hf
        · have hf := (if_neg q2).symm.trans hf
          refine lv_iload_n C.1 C.2.1 dX10_source_19 rfl (lv_at hl 3 rfl) ?_
          refine lv_bipush (v := (40 : Int32)) C.1 C.2.1 dX10_source_20 (by decide) ?_
          refine lv_icmp_le (tgt := 29) C.1 C.2.1 dX10_source_22 (by decide) (fun q1 => ?_) (fun q1 => ?_)
          · have hf := (if_pos q1).symm.trans hf
            exact w_X10_source_J29 p0 p1 p2 p3 C hr I p0 p1 p2 p3 _ _ _ hH (lv_sub hl [0, 1, 2, 3, 4] rfl) hf
          · have hf := (if_neg q1).symm.trans hf
            exact w_X10_source_J25 p0 p1 p2 p3 C hr I p0 p1 p2 p3 _ _ _ hH (lv_sub hl [0, 1, 2, 3, 4] rfl) hf
def f_X10_isStage (I : Mem) (p0 : Int32) (p1 : Int32) (p2 : Int32) : Option (Bool × Mem) := if p0 = (0 : Int32) then (if p1 < 0 then (some (false, I)) else (if (3 : Int32) < p1 then (some (false, I)) else (some (true, I)))) else (if p0 = (2 : Int32) then (if p2 < 0 then (some (false, I)) else (if (4 : Int32) < p2 then (some (false, I)) else (some (true, I)))) else (if p0 = (3 : Int32) then (some (true, I)) else (if p0 = (4 : Int32) then (some (true, I)) else (if p0 = (5 : Int32) then (if p2 < 0 then (some (false, I)) else (if (100 : Int32) < p2 then (some (false, I)) else (some (true, I)))) else (if p0 = (6 : Int32) then (if p2 < 0 then (some (false, I)) else (if (100 : Int32) < p2 then (some (false, I)) else (some (true, I)))) else (if p0 = (7 : Int32) then (some (true, I)) else (if p0 ≤ 0 then (some (false, I)) else (if (9 : Int32) < p0 then (some (false, I)) else (if p1 < 0 then (some (false, I)) else (if (4 : Int32) < p1 then (some (false, I)) else (some (true, I))))))))))))
set_option maxHeartbeats 4000000 in
set_option maxRecDepth 100000 in
theorem c_X10_isStage (l : Launch) (G : Gx) (I : Mem) (p0 : Int32) (p1 : Int32) (p2 : Int32) {res : Bool} {J : Mem} (hf : f_X10_isStage I p0 p1 p2 = some (res, J)) : Mi l yX10_isStage (.code yX10_isStage cX10_isStage 3 (some .boolean)) 0 0 G I [.int p0, .int p1, .int p2] (b2i res) J := by
  refine Mi.of (by decide +kernel) (Nat.le_of_ble_eq_true rfl) (fun p e s m below meth c ls C hr hH hl => ?_)
  have hl : lv_has ls 3 [(0, .int p0), (1, .int p1), (2, .int p2)] := hl
  have hf : (if p0 = (0 : Int32) then (if p1 < 0 then (some (false, I)) else (if (3 : Int32) < p1 then (some (false, I)) else (some (true, I)))) else (if p0 = (2 : Int32) then (if p2 < 0 then (some (false, I)) else (if (4 : Int32) < p2 then (some (false, I)) else (some (true, I)))) else (if p0 = (3 : Int32) then (some (true, I)) else (if p0 = (4 : Int32) then (some (true, I)) else (if p0 = (5 : Int32) then (if p2 < 0 then (some (false, I)) else (if (100 : Int32) < p2 then (some (false, I)) else (some (true, I)))) else (if p0 = (6 : Int32) then (if p2 < 0 then (some (false, I)) else (if (100 : Int32) < p2 then (some (false, I)) else (some (true, I)))) else (if p0 = (7 : Int32) then (some (true, I)) else (if p0 ≤ 0 then (some (false, I)) else (if (9 : Int32) < p0 then (some (false, I)) else (if p1 < 0 then (some (false, I)) else (if (4 : Int32) < p1 then (some (false, I)) else (some (true, I))))))))))))) = _ := hf
  refine lv_iload_n C.1 C.2.1 dX10_isStage_0 rfl (lv_at hl 0 rfl) ?_
  by_cases q3 : p0 = (0 : Int32)
  · have hf := (if_pos q3).symm.trans hf
    refine lv_tableIn (tgt := 48) (off := 47) C.1 C.2.1 dX10_isStage_1 (by rw [q3]; decide) (by rw [q3]; decide) (by rw [q3]; decide) (by decide) ?_
    refine lv_iload_n C.1 C.2.1 dX10_isStage_48 rfl (lv_at hl 1 rfl) ?_
    refine lv_if_lt (tgt := 61) C.1 C.2.1 dX10_isStage_49 (by decide) (fun q2 => ?_) (fun q2 => ?_)
    · have hf := (if_pos q2).symm.trans hf
      refine lv_iconst (v := (0 : Int32)) C.1 C.2.1 dX10_isStage_61 (by decide) ?_
      cases hf
      exact x_zret C hr hH rfl dX10_isStage_62
    · have hf := (if_neg q2).symm.trans hf
      refine lv_iload_n C.1 C.2.1 dX10_isStage_52 rfl (lv_at hl 1 rfl) ?_
      refine lv_iconst (v := (3 : Int32)) C.1 C.2.1 dX10_isStage_53 (by decide) ?_
      refine lv_icmp_gt (tgt := 61) C.1 C.2.1 dX10_isStage_54 (by decide) (fun q1 => ?_) (fun q1 => ?_)
      · have hf := (if_pos q1).symm.trans hf
        refine lv_iconst (v := (0 : Int32)) C.1 C.2.1 dX10_isStage_61 (by decide) ?_
        cases hf
        exact x_zret C hr hH rfl dX10_isStage_62
      · have hf := (if_neg q1).symm.trans hf
        refine lv_iconst (v := (1 : Int32)) C.1 C.2.1 dX10_isStage_57 (by decide) ?_
        refine lv_goto (tgt := 62) C.1 C.2.1 dX10_isStage_58 (by decide) ?_
        cases hf
        exact x_zret C hr hH rfl dX10_isStage_62
  · have hf := (if_neg q3).symm.trans hf
    by_cases q6 : p0 = (2 : Int32)
    · have hf := (if_pos q6).symm.trans hf
      refine lv_tableIn (tgt := 63) (off := 62) C.1 C.2.1 dX10_isStage_1 (by rw [q6]; decide) (by rw [q6]; decide) (by rw [q6]; decide) (by decide) ?_
      refine lv_iload_n C.1 C.2.1 dX10_isStage_63 rfl (lv_at hl 2 rfl) ?_
      refine lv_if_lt (tgt := 76) C.1 C.2.1 dX10_isStage_64 (by decide) (fun q5 => ?_) (fun q5 => ?_)
      · have hf := (if_pos q5).symm.trans hf
        refine lv_iconst (v := (0 : Int32)) C.1 C.2.1 dX10_isStage_76 (by decide) ?_
        cases hf
        exact x_zret C hr hH rfl dX10_isStage_77
      · have hf := (if_neg q5).symm.trans hf
        refine lv_iload_n C.1 C.2.1 dX10_isStage_67 rfl (lv_at hl 2 rfl) ?_
        refine lv_iconst (v := (4 : Int32)) C.1 C.2.1 dX10_isStage_68 (by decide) ?_
        refine lv_icmp_gt (tgt := 76) C.1 C.2.1 dX10_isStage_69 (by decide) (fun q4 => ?_) (fun q4 => ?_)
        · have hf := (if_pos q4).symm.trans hf
          refine lv_iconst (v := (0 : Int32)) C.1 C.2.1 dX10_isStage_76 (by decide) ?_
          cases hf
          exact x_zret C hr hH rfl dX10_isStage_77
        · have hf := (if_neg q4).symm.trans hf
          refine lv_iconst (v := (1 : Int32)) C.1 C.2.1 dX10_isStage_72 (by decide) ?_
          refine lv_goto (tgt := 77) C.1 C.2.1 dX10_isStage_73 (by decide) ?_
          cases hf
          exact x_zret C hr hH rfl dX10_isStage_77
    · have hf := (if_neg q6).symm.trans hf
      by_cases q7 : p0 = (3 : Int32)
      · have hf := (if_pos q7).symm.trans hf
        refine lv_tableIn (tgt := 110) (off := 109) C.1 C.2.1 dX10_isStage_1 (by rw [q7]; decide) (by rw [q7]; decide) (by rw [q7]; decide) (by decide) ?_
        refine lv_iconst (v := (1 : Int32)) C.1 C.2.1 dX10_isStage_110 (by decide) ?_
        cases hf
        exact x_zret C hr hH rfl dX10_isStage_111
      · have hf := (if_neg q7).symm.trans hf
        by_cases q8 : p0 = (4 : Int32)
        · have hf := (if_pos q8).symm.trans hf
          refine lv_tableIn (tgt := 112) (off := 111) C.1 C.2.1 dX10_isStage_1 (by rw [q8]; decide) (by rw [q8]; decide) (by rw [q8]; decide) (by decide) ?_
          refine lv_iconst (v := (1 : Int32)) C.1 C.2.1 dX10_isStage_112 (by decide) ?_
          cases hf
          exact x_zret C hr hH rfl dX10_isStage_113
        · have hf := (if_neg q8).symm.trans hf
          by_cases q11 : p0 = (5 : Int32)
          · have hf := (if_pos q11).symm.trans hf
            refine lv_tableIn (tgt := 78) (off := 77) C.1 C.2.1 dX10_isStage_1 (by rw [q11]; decide) (by rw [q11]; decide) (by rw [q11]; decide) (by decide) ?_
            refine lv_iload_n C.1 C.2.1 dX10_isStage_78 rfl (lv_at hl 2 rfl) ?_
            refine lv_if_lt (tgt := 92) C.1 C.2.1 dX10_isStage_79 (by decide) (fun q10 => ?_) (fun q10 => ?_)
            · have hf := (if_pos q10).symm.trans hf
              refine lv_iconst (v := (0 : Int32)) C.1 C.2.1 dX10_isStage_92 (by decide) ?_
              cases hf
              exact x_zret C hr hH rfl dX10_isStage_93
            · have hf := (if_neg q10).symm.trans hf
              refine lv_iload_n C.1 C.2.1 dX10_isStage_82 rfl (lv_at hl 2 rfl) ?_
              refine lv_bipush (v := (100 : Int32)) C.1 C.2.1 dX10_isStage_83 (by decide) ?_
              refine lv_icmp_gt (tgt := 92) C.1 C.2.1 dX10_isStage_85 (by decide) (fun q9 => ?_) (fun q9 => ?_)
              · have hf := (if_pos q9).symm.trans hf
                refine lv_iconst (v := (0 : Int32)) C.1 C.2.1 dX10_isStage_92 (by decide) ?_
                cases hf
                exact x_zret C hr hH rfl dX10_isStage_93
              · have hf := (if_neg q9).symm.trans hf
                refine lv_iconst (v := (1 : Int32)) C.1 C.2.1 dX10_isStage_88 (by decide) ?_
                refine lv_goto (tgt := 93) C.1 C.2.1 dX10_isStage_89 (by decide) ?_
                cases hf
                exact x_zret C hr hH rfl dX10_isStage_93
          · have hf := (if_neg q11).symm.trans hf
            by_cases q14 : p0 = (6 : Int32)
            · have hf := (if_pos q14).symm.trans hf
              refine lv_tableIn (tgt := 94) (off := 93) C.1 C.2.1 dX10_isStage_1 (by rw [q14]; decide) (by rw [q14]; decide) (by rw [q14]; decide) (by decide) ?_
              refine lv_iload_n C.1 C.2.1 dX10_isStage_94 rfl (lv_at hl 2 rfl) ?_
              refine lv_if_lt (tgt := 108) C.1 C.2.1 dX10_isStage_95 (by decide) (fun q13 => ?_) (fun q13 => ?_)
              · have hf := (if_pos q13).symm.trans hf
                refine lv_iconst (v := (0 : Int32)) C.1 C.2.1 dX10_isStage_108 (by decide) ?_
                cases hf
                exact x_zret C hr hH rfl dX10_isStage_109
              · have hf := (if_neg q13).symm.trans hf
                refine lv_iload_n C.1 C.2.1 dX10_isStage_98 rfl (lv_at hl 2 rfl) ?_
                refine lv_bipush (v := (100 : Int32)) C.1 C.2.1 dX10_isStage_99 (by decide) ?_
                refine lv_icmp_gt (tgt := 108) C.1 C.2.1 dX10_isStage_101 (by decide) (fun q12 => ?_) (fun q12 => ?_)
                · have hf := (if_pos q12).symm.trans hf
                  refine lv_iconst (v := (0 : Int32)) C.1 C.2.1 dX10_isStage_108 (by decide) ?_
                  cases hf
                  exact x_zret C hr hH rfl dX10_isStage_109
                · have hf := (if_neg q12).symm.trans hf
                  refine lv_iconst (v := (1 : Int32)) C.1 C.2.1 dX10_isStage_104 (by decide) ?_
                  refine lv_goto (tgt := 109) C.1 C.2.1 dX10_isStage_105 (by decide) ?_
                  cases hf
                  exact x_zret C hr hH rfl dX10_isStage_109
            · have hf := (if_neg q14).symm.trans hf
              by_cases q15 : p0 = (7 : Int32)
              · have hf := (if_pos q15).symm.trans hf
                refine lv_tableIn (tgt := 114) (off := 113) C.1 C.2.1 dX10_isStage_1 (by rw [q15]; decide) (by rw [q15]; decide) (by rw [q15]; decide) (by decide) ?_
                refine lv_iconst (v := (1 : Int32)) C.1 C.2.1 dX10_isStage_114 (by decide) ?_
                cases hf
                exact x_zret C hr hH rfl dX10_isStage_115
              · have hf := (if_neg q15).symm.trans hf
                have q3' := ne_toInt (z := 0) (by decide) q3
                have q6' := ne_toInt (z := 2) (by decide) q6
                have q7' := ne_toInt (z := 3) (by decide) q7
                have q8' := ne_toInt (z := 4) (by decide) q8
                have q11' := ne_toInt (z := 5) (by decide) q11
                have q14' := ne_toInt (z := 6) (by decide) q14
                have q15' := ne_toInt (z := 7) (by decide) q15
                refine x_tblD (tgt := 116) C.1 C.2.1 dX10_isStage_1 ?_ (by decide) ?_
                · by_cases hlo : p0.toInt < 0
                  · exact Or.inl (Or.inl hlo)
                  · by_cases hhi : 7 < p0.toInt
                    · exact Or.inl (Or.inr hhi)
                    · refine Or.inr ⟨hlo, hhi, ?_⟩
                      have hv : p0.toInt = 1 := by omega
                      rw [hv]; decide
                · refine lv_iload_n C.1 C.2.1 dX10_isStage_116 rfl (lv_at hl 0 rfl) ?_
                  refine lv_if_le (tgt := 139) C.1 C.2.1 dX10_isStage_117 (by decide) (fun q19 => ?_) (fun q19 => ?_)
                  · have hf := (if_pos q19).symm.trans hf
                    refine lv_iconst (v := (0 : Int32)) C.1 C.2.1 dX10_isStage_139 (by decide) ?_
                    cases hf
                    exact x_zret C hr hH rfl dX10_isStage_140
                  · have hf := (if_neg q19).symm.trans hf
                    refine lv_iload_n C.1 C.2.1 dX10_isStage_120 rfl (lv_at hl 0 rfl) ?_
                    refine lv_bipush (v := (9 : Int32)) C.1 C.2.1 dX10_isStage_121 (by decide) ?_
                    refine lv_icmp_gt (tgt := 139) C.1 C.2.1 dX10_isStage_123 (by decide) (fun q18 => ?_) (fun q18 => ?_)
                    · have hf := (if_pos q18).symm.trans hf
                      refine lv_iconst (v := (0 : Int32)) C.1 C.2.1 dX10_isStage_139 (by decide) ?_
                      cases hf
                      exact x_zret C hr hH rfl dX10_isStage_140
                    · have hf := (if_neg q18).symm.trans hf
                      refine lv_iload_n C.1 C.2.1 dX10_isStage_126 rfl (lv_at hl 1 rfl) ?_
                      refine lv_if_lt (tgt := 139) C.1 C.2.1 dX10_isStage_127 (by decide) (fun q17 => ?_) (fun q17 => ?_)
                      · have hf := (if_pos q17).symm.trans hf
                        refine lv_iconst (v := (0 : Int32)) C.1 C.2.1 dX10_isStage_139 (by decide) ?_
                        cases hf
                        exact x_zret C hr hH rfl dX10_isStage_140
                      · have hf := (if_neg q17).symm.trans hf
                        refine lv_iload_n C.1 C.2.1 dX10_isStage_130 rfl (lv_at hl 1 rfl) ?_
                        refine lv_iconst (v := (4 : Int32)) C.1 C.2.1 dX10_isStage_131 (by decide) ?_
                        refine lv_icmp_gt (tgt := 139) C.1 C.2.1 dX10_isStage_132 (by decide) (fun q16 => ?_) (fun q16 => ?_)
                        · have hf := (if_pos q16).symm.trans hf
                          refine lv_iconst (v := (0 : Int32)) C.1 C.2.1 dX10_isStage_139 (by decide) ?_
                          cases hf
                          exact x_zret C hr hH rfl dX10_isStage_140
                        · have hf := (if_neg q16).symm.trans hf
                          refine lv_iconst (v := (1 : Int32)) C.1 C.2.1 dX10_isStage_135 (by decide) ?_
                          refine lv_goto (tgt := 140) C.1 C.2.1 dX10_isStage_136 (by decide) ?_
                          cases hf
                          exact x_zret C hr hH rfl dX10_isStage_140
def f_X10_stage (I : Mem) (p0 : Int32) (p1 : Int32) (p2 : Int32) : Option (Int32 × Mem) := if ((st I 45 0 (0 : Int32)) 45 3) = 0 then ((f_X10_refuse (st I 45 0 (0 : Int32)) (1 : Int32)).bind fun q1 => (some (q1.1, q1.2))) else (if ((st I 45 0 (0 : Int32)) 45 4) = 0 then (if ((st I 45 0 (0 : Int32)) 45 9) = (6 : Int32) then ((f_X10_refuse (st I 45 0 (0 : Int32)) (2 : Int32)).bind fun q2 => (some (q2.1, q2.2))) else ((f_X10_isStage (st I 45 0 (0 : Int32)) p0 p1 p2).bind fun q3 => (if (b2i q3.1) = 0 then ((f_X10_refuse q3.2 (2 : Int32)).bind fun q8 => (some (q8.1, q8.2))) else (if inb (q3.2 45 9) (ln 47) = true then (if inb ((st q3.2 47 (q3.2 45 9).toNatClampNeg p0) 45 9) (ln 48) = true then (if inb ((st (st q3.2 47 (q3.2 45 9).toNatClampNeg p0) 48 ((st q3.2 47 (q3.2 45 9).toNatClampNeg p0) 45 9).toNatClampNeg p1) 45 9) (ln 49) = true then (if inb ((st (st (st q3.2 47 (q3.2 45 9).toNatClampNeg p0) 48 ((st q3.2 47 (q3.2 45 9).toNatClampNeg p0) 45 9).toNatClampNeg p1) 49 ((st (st q3.2 47 (q3.2 45 9).toNatClampNeg p0) 48 ((st q3.2 47 (q3.2 45 9).toNatClampNeg p0) 45 9).toNatClampNeg p1) 45 9).toNatClampNeg p2) 45 9) (ln 50) = true then (some (((st (st (st (st (st q3.2 47 (q3.2 45 9).toNatClampNeg p0) 48 ((st q3.2 47 (q3.2 45 9).toNatClampNeg p0) 45 9).toNatClampNeg p1) 49 ((st (st q3.2 47 (q3.2 45 9).toNatClampNeg p0) 48 ((st q3.2 47 (q3.2 45 9).toNatClampNeg p0) 45 9).toNatClampNeg p1) 45 9).toNatClampNeg p2) 50 ((st (st (st q3.2 47 (q3.2 45 9).toNatClampNeg p0) 48 ((st q3.2 47 (q3.2 45 9).toNatClampNeg p0) 45 9).toNatClampNeg p1) 49 ((st (st q3.2 47 (q3.2 45 9).toNatClampNeg p0) 48 ((st q3.2 47 (q3.2 45 9).toNatClampNeg p0) 45 9).toNatClampNeg p1) 45 9).toNatClampNeg p2) 45 9).toNatClampNeg (0 : Int32)) 45 9 (((st (st (st (st q3.2 47 (q3.2 45 9).toNatClampNeg p0) 48 ((st q3.2 47 (q3.2 45 9).toNatClampNeg p0) 45 9).toNatClampNeg p1) 49 ((st (st q3.2 47 (q3.2 45 9).toNatClampNeg p0) 48 ((st q3.2 47 (q3.2 45 9).toNatClampNeg p0) 45 9).toNatClampNeg p1) 45 9).toNatClampNeg p2) 50 ((st (st (st q3.2 47 (q3.2 45 9).toNatClampNeg p0) 48 ((st q3.2 47 (q3.2 45 9).toNatClampNeg p0) 45 9).toNatClampNeg p1) 49 ((st (st q3.2 47 (q3.2 45 9).toNatClampNeg p0) 48 ((st q3.2 47 (q3.2 45 9).toNatClampNeg p0) 45 9).toNatClampNeg p1) 45 9).toNatClampNeg p2) 45 9).toNatClampNeg (0 : Int32)) 45 9) + (1 : Int32))) 45 9), (st (st (st (st (st q3.2 47 (q3.2 45 9).toNatClampNeg p0) 48 ((st q3.2 47 (q3.2 45 9).toNatClampNeg p0) 45 9).toNatClampNeg p1) 49 ((st (st q3.2 47 (q3.2 45 9).toNatClampNeg p0) 48 ((st q3.2 47 (q3.2 45 9).toNatClampNeg p0) 45 9).toNatClampNeg p1) 45 9).toNatClampNeg p2) 50 ((st (st (st q3.2 47 (q3.2 45 9).toNatClampNeg p0) 48 ((st q3.2 47 (q3.2 45 9).toNatClampNeg p0) 45 9).toNatClampNeg p1) 49 ((st (st q3.2 47 (q3.2 45 9).toNatClampNeg p0) 48 ((st q3.2 47 (q3.2 45 9).toNatClampNeg p0) 45 9).toNatClampNeg p1) 45 9).toNatClampNeg p2) 45 9).toNatClampNeg (0 : Int32)) 45 9 (((st (st (st (st q3.2 47 (q3.2 45 9).toNatClampNeg p0) 48 ((st q3.2 47 (q3.2 45 9).toNatClampNeg p0) 45 9).toNatClampNeg p1) 49 ((st (st q3.2 47 (q3.2 45 9).toNatClampNeg p0) 48 ((st q3.2 47 (q3.2 45 9).toNatClampNeg p0) 45 9).toNatClampNeg p1) 45 9).toNatClampNeg p2) 50 ((st (st (st q3.2 47 (q3.2 45 9).toNatClampNeg p0) 48 ((st q3.2 47 (q3.2 45 9).toNatClampNeg p0) 45 9).toNatClampNeg p1) 49 ((st (st q3.2 47 (q3.2 45 9).toNatClampNeg p0) 48 ((st q3.2 47 (q3.2 45 9).toNatClampNeg p0) 45 9).toNatClampNeg p1) 45 9).toNatClampNeg p2) 45 9).toNatClampNeg (0 : Int32)) 45 9) + (1 : Int32))))) else none) else none) else none) else none)))) else ((f_X10_refuse (st I 45 0 (0 : Int32)) (1 : Int32)).bind fun q11 => (some (q11.1, q11.2))))
set_option maxHeartbeats 4000000 in
set_option maxRecDepth 100000 in
theorem c_X10_stage (l : Launch) (G : Gx) (I : Mem) (p0 : Int32) (p1 : Int32) (p2 : Int32) {res : Int32} {J : Mem} (hf : f_X10_stage I p0 p1 p2 = some (res, J)) : Mi l yX10_stage (.code yX10_stage cX10_stage 4 (some .int)) 1 22 G I [.ref (G.2.1 45), .int p0, .int p1, .int p2] res J := by
  refine Mi.of (by decide +kernel) (Nat.le_of_ble_eq_true rfl) (fun p e s m below meth c ls C hr hH hl => ?_)
  have hl : lv_has ls 4 [(0, .ref (G.2.1 45)), (1, .int p0), (2, .int p1), (3, .int p2)] := hl
  have hf : (if ((st I 45 0 (0 : Int32)) 45 3) = 0 then ((f_X10_refuse (st I 45 0 (0 : Int32)) (1 : Int32)).bind fun q1 => (some (q1.1, q1.2))) else (if ((st I 45 0 (0 : Int32)) 45 4) = 0 then (if ((st I 45 0 (0 : Int32)) 45 9) = (6 : Int32) then ((f_X10_refuse (st I 45 0 (0 : Int32)) (2 : Int32)).bind fun q2 => (some (q2.1, q2.2))) else ((f_X10_isStage (st I 45 0 (0 : Int32)) p0 p1 p2).bind fun q3 => (if (b2i q3.1) = 0 then ((f_X10_refuse q3.2 (2 : Int32)).bind fun q8 => (some (q8.1, q8.2))) else (if inb (q3.2 45 9) (ln 47) = true then (if inb ((st q3.2 47 (q3.2 45 9).toNatClampNeg p0) 45 9) (ln 48) = true then (if inb ((st (st q3.2 47 (q3.2 45 9).toNatClampNeg p0) 48 ((st q3.2 47 (q3.2 45 9).toNatClampNeg p0) 45 9).toNatClampNeg p1) 45 9) (ln 49) = true then (if inb ((st (st (st q3.2 47 (q3.2 45 9).toNatClampNeg p0) 48 ((st q3.2 47 (q3.2 45 9).toNatClampNeg p0) 45 9).toNatClampNeg p1) 49 ((st (st q3.2 47 (q3.2 45 9).toNatClampNeg p0) 48 ((st q3.2 47 (q3.2 45 9).toNatClampNeg p0) 45 9).toNatClampNeg p1) 45 9).toNatClampNeg p2) 45 9) (ln 50) = true then (some (((st (st (st (st (st q3.2 47 (q3.2 45 9).toNatClampNeg p0) 48 ((st q3.2 47 (q3.2 45 9).toNatClampNeg p0) 45 9).toNatClampNeg p1) 49 ((st (st q3.2 47 (q3.2 45 9).toNatClampNeg p0) 48 ((st q3.2 47 (q3.2 45 9).toNatClampNeg p0) 45 9).toNatClampNeg p1) 45 9).toNatClampNeg p2) 50 ((st (st (st q3.2 47 (q3.2 45 9).toNatClampNeg p0) 48 ((st q3.2 47 (q3.2 45 9).toNatClampNeg p0) 45 9).toNatClampNeg p1) 49 ((st (st q3.2 47 (q3.2 45 9).toNatClampNeg p0) 48 ((st q3.2 47 (q3.2 45 9).toNatClampNeg p0) 45 9).toNatClampNeg p1) 45 9).toNatClampNeg p2) 45 9).toNatClampNeg (0 : Int32)) 45 9 (((st (st (st (st q3.2 47 (q3.2 45 9).toNatClampNeg p0) 48 ((st q3.2 47 (q3.2 45 9).toNatClampNeg p0) 45 9).toNatClampNeg p1) 49 ((st (st q3.2 47 (q3.2 45 9).toNatClampNeg p0) 48 ((st q3.2 47 (q3.2 45 9).toNatClampNeg p0) 45 9).toNatClampNeg p1) 45 9).toNatClampNeg p2) 50 ((st (st (st q3.2 47 (q3.2 45 9).toNatClampNeg p0) 48 ((st q3.2 47 (q3.2 45 9).toNatClampNeg p0) 45 9).toNatClampNeg p1) 49 ((st (st q3.2 47 (q3.2 45 9).toNatClampNeg p0) 48 ((st q3.2 47 (q3.2 45 9).toNatClampNeg p0) 45 9).toNatClampNeg p1) 45 9).toNatClampNeg p2) 45 9).toNatClampNeg (0 : Int32)) 45 9) + (1 : Int32))) 45 9), (st (st (st (st (st q3.2 47 (q3.2 45 9).toNatClampNeg p0) 48 ((st q3.2 47 (q3.2 45 9).toNatClampNeg p0) 45 9).toNatClampNeg p1) 49 ((st (st q3.2 47 (q3.2 45 9).toNatClampNeg p0) 48 ((st q3.2 47 (q3.2 45 9).toNatClampNeg p0) 45 9).toNatClampNeg p1) 45 9).toNatClampNeg p2) 50 ((st (st (st q3.2 47 (q3.2 45 9).toNatClampNeg p0) 48 ((st q3.2 47 (q3.2 45 9).toNatClampNeg p0) 45 9).toNatClampNeg p1) 49 ((st (st q3.2 47 (q3.2 45 9).toNatClampNeg p0) 48 ((st q3.2 47 (q3.2 45 9).toNatClampNeg p0) 45 9).toNatClampNeg p1) 45 9).toNatClampNeg p2) 45 9).toNatClampNeg (0 : Int32)) 45 9 (((st (st (st (st q3.2 47 (q3.2 45 9).toNatClampNeg p0) 48 ((st q3.2 47 (q3.2 45 9).toNatClampNeg p0) 45 9).toNatClampNeg p1) 49 ((st (st q3.2 47 (q3.2 45 9).toNatClampNeg p0) 48 ((st q3.2 47 (q3.2 45 9).toNatClampNeg p0) 45 9).toNatClampNeg p1) 45 9).toNatClampNeg p2) 50 ((st (st (st q3.2 47 (q3.2 45 9).toNatClampNeg p0) 48 ((st q3.2 47 (q3.2 45 9).toNatClampNeg p0) 45 9).toNatClampNeg p1) 49 ((st (st q3.2 47 (q3.2 45 9).toNatClampNeg p0) 48 ((st q3.2 47 (q3.2 45 9).toNatClampNeg p0) 45 9).toNatClampNeg p1) 45 9).toNatClampNeg p2) 45 9).toNatClampNeg (0 : Int32)) 45 9) + (1 : Int32))))) else none) else none) else none) else none)))) else ((f_X10_refuse (st I 45 0 (0 : Int32)) (1 : Int32)).bind fun q11 => (some (q11.1, q11.2))))) = _ := hf
  refine lv_aload_n C.1 C.2.1 dX10_stage_0 rfl (lv_at hl 0 rfl) ?_
  refine lv_iconst (v := (0 : Int32)) C.1 C.2.1 dX10_stage_1 (by decide) ?_
  refine p_X10_0 C hH kk_45  tw_814 dX10_stage_2 (fun H locs hH => ?_)
  refine lv_aload_n C.1 C.2.1 dX10_stage_5 rfl (lv_at hl 0 rfl) ?_
  refine g_X10_3 C hH kk_45 tw_817 dX10_stage_6 ?_
  refine lv_if_eq (tgt := 19) C.1 C.2.1 dX10_stage_9 (by decide) (fun q13 => ?_) (fun q13 => ?_)
  · have hf := (if_pos q13).symm.trans hf
    refine lv_aload_n C.1 C.2.1 dX10_stage_19 rfl (lv_at hl 0 rfl) ?_
    refine lv_iconst (v := (1 : Int32)) C.1 C.2.1 dX10_stage_20 (by decide) ?_
    obtain ⟨q1, hc, hf⟩ := Option.bind_eq_some_iff.mp hf
    refine x_ci (n := 1) C hH (c_X10_refuse l G (st I 45 0 (0 : Int32)) (1 : Int32) hc) (kd_lt kk_45 (by decide)) (cE_10 kk_45) rfl tw_956 tw_953 tw_955 tw_23 tw_57 (by decide +kernel) ⟨Nat.le_of_ble_eq_true rfl, Nat.le_of_ble_eq_true rfl⟩ rfl hl.1 rfl (Nat.le_of_ble_eq_true rfl) ⟨Nat.le_of_ble_eq_true rfl, Nat.le_of_ble_eq_true rfl⟩ dX10_stage_21 (fun H locs hH => ?_)
    cases hf
    exact x_iret C hr hH dX10_stage_24
  · have hf := (if_neg q13).symm.trans hf
    refine lv_aload_n C.1 C.2.1 dX10_stage_12 rfl (lv_at hl 0 rfl) ?_
    refine g_X10_4 C hH kk_45 tw_818 dX10_stage_13 ?_
    refine lv_if_eq (tgt := 25) C.1 C.2.1 dX10_stage_16 (by decide) (fun q12 => ?_) (fun q12 => ?_)
    · have hf := (if_pos q12).symm.trans hf
      refine lv_aload_n C.1 C.2.1 dX10_stage_25 rfl (lv_at hl 0 rfl) ?_
      refine g_X10_9 C hH kk_45 tw_823 dX10_stage_26 ?_
      refine lv_bipush (v := (6 : Int32)) C.1 C.2.1 dX10_stage_29 (by decide) ?_
      refine lv_icmp_eq (tgt := 43) C.1 C.2.1 dX10_stage_31 (by decide) (fun q10 => ?_) (fun q10 => ?_)
      · have hf := (if_pos q10).symm.trans hf
        refine lv_aload_n C.1 C.2.1 dX10_stage_43 rfl (lv_at hl 0 rfl) ?_
        refine lv_iconst (v := (2 : Int32)) C.1 C.2.1 dX10_stage_44 (by decide) ?_
        obtain ⟨q2, hc, hf⟩ := Option.bind_eq_some_iff.mp hf
        refine x_ci (n := 1) C hH (c_X10_refuse l G (st I 45 0 (0 : Int32)) (2 : Int32) hc) (kd_lt kk_45 (by decide)) (cE_10 kk_45) rfl tw_956 tw_953 tw_955 tw_23 tw_57 (by decide +kernel) ⟨Nat.le_of_ble_eq_true rfl, Nat.le_of_ble_eq_true rfl⟩ rfl hl.1 rfl (Nat.le_of_ble_eq_true rfl) ⟨Nat.le_of_ble_eq_true rfl, Nat.le_of_ble_eq_true rfl⟩ dX10_stage_45 (fun H locs hH => ?_)
        cases hf
        exact x_iret C hr hH dX10_stage_48
      · have hf := (if_neg q10).symm.trans hf
        refine lv_iload_n C.1 C.2.1 dX10_stage_34 rfl (lv_at hl 1 rfl) ?_
        refine lv_iload_n C.1 C.2.1 dX10_stage_35 rfl (lv_at hl 2 rfl) ?_
        refine lv_iload_n C.1 C.2.1 dX10_stage_36 rfl (lv_at hl 3 rfl) ?_
        obtain ⟨q3, hc, hf⟩ := Option.bind_eq_some_iff.mp hf
        refine x_si (n := 3) C hH (c_X10_isStage l G (st I 45 0 (0 : Int32)) p0 p1 p2 hc) tw_971 tw_969 tw_970 tw_57 (by decide +kernel) ⟨Nat.le_of_ble_eq_true rfl, Nat.le_of_ble_eq_true rfl⟩ rfl hl.1 rfl (Nat.le_of_ble_eq_true rfl) ⟨Nat.le_of_ble_eq_true rfl, Nat.le_of_ble_eq_true rfl⟩ dX10_stage_37 (fun H locs hH => ?_)
        refine lv_if_ne (tgt := 49) C.1 C.2.1 dX10_stage_40 (by decide) (fun q9 => ?_) (fun q9 => ?_)
        · have hf := (if_neg q9).symm.trans hf
          refine lv_aload_n C.1 C.2.1 dX10_stage_49 rfl (lv_at hl 0 rfl) ?_
          refine g_X10_10 C hH kk_45 tw_824 dX10_stage_50 ?_
          refine lv_aload_n C.1 C.2.1 dX10_stage_53 rfl (lv_at hl 0 rfl) ?_
          refine g_X10_9 C hH kk_45 tw_823 dX10_stage_54 ?_
          refine lv_iload_n C.1 C.2.1 dX10_stage_57 rfl (lv_at hl 1 rfl) ?_
          obtain ⟨q4, hf⟩ := itn hf
          refine x_iast C hH kk_47 q4 dX10_stage_58 (fun H locs hH => ?_)
          refine lv_aload_n C.1 C.2.1 dX10_stage_59 rfl (lv_at hl 0 rfl) ?_
          refine g_X10_11 C hH kk_45 tw_825 dX10_stage_60 ?_
          refine lv_aload_n C.1 C.2.1 dX10_stage_63 rfl (lv_at hl 0 rfl) ?_
          refine g_X10_9 C hH kk_45 tw_823 dX10_stage_64 ?_
          refine lv_iload_n C.1 C.2.1 dX10_stage_67 rfl (lv_at hl 2 rfl) ?_
          obtain ⟨q5, hf⟩ := itn hf
          refine x_iast C hH kk_48 q5 dX10_stage_68 (fun H locs hH => ?_)
          refine lv_aload_n C.1 C.2.1 dX10_stage_69 rfl (lv_at hl 0 rfl) ?_
          refine g_X10_12 C hH kk_45 tw_826 dX10_stage_70 ?_
          refine lv_aload_n C.1 C.2.1 dX10_stage_73 rfl (lv_at hl 0 rfl) ?_
          refine g_X10_9 C hH kk_45 tw_823 dX10_stage_74 ?_
          refine lv_iload_n C.1 C.2.1 dX10_stage_77 rfl (lv_at hl 3 rfl) ?_
          obtain ⟨q6, hf⟩ := itn hf
          refine x_iast C hH kk_49 q6 dX10_stage_78 (fun H locs hH => ?_)
          refine lv_aload_n C.1 C.2.1 dX10_stage_79 rfl (lv_at hl 0 rfl) ?_
          refine g_X10_13 C hH kk_45 tw_827 dX10_stage_80 ?_
          refine lv_aload_n C.1 C.2.1 dX10_stage_83 rfl (lv_at hl 0 rfl) ?_
          refine g_X10_9 C hH kk_45 tw_823 dX10_stage_84 ?_
          refine lv_iconst (v := (0 : Int32)) C.1 C.2.1 dX10_stage_87 (by decide) ?_
          obtain ⟨q7, hf⟩ := itn hf
          refine x_iast C hH kk_50 q7 dX10_stage_88 (fun H locs hH => ?_)
          refine lv_aload_n C.1 C.2.1 dX10_stage_89 rfl (lv_at hl 0 rfl) ?_
          refine lv_dup C.1 C.2.1 dX10_stage_90 rfl ?_
          refine g_X10_9 C hH kk_45 tw_823 dX10_stage_91 ?_
          refine lv_iconst (v := (1 : Int32)) C.1 C.2.1 dX10_stage_94 (by decide) ?_
          refine lv_iadd C.1 C.2.1 dX10_stage_95 ?_
          refine p_X10_9 C hH kk_45  tw_823 dX10_stage_96 (fun H locs hH => ?_)
          refine lv_aload_n C.1 C.2.1 dX10_stage_99 rfl (lv_at hl 0 rfl) ?_
          refine g_X10_9 C hH kk_45 tw_823 dX10_stage_100 ?_
          cases hf
          exact x_iret C hr hH dX10_stage_103
        · have hf := (if_pos q9).symm.trans hf
          refine lv_aload_n C.1 C.2.1 dX10_stage_43 rfl (lv_at hl 0 rfl) ?_
          refine lv_iconst (v := (2 : Int32)) C.1 C.2.1 dX10_stage_44 (by decide) ?_
          obtain ⟨q8, hc, hf⟩ := Option.bind_eq_some_iff.mp hf
          refine x_ci (n := 1) C hH (c_X10_refuse l G q3.2 (2 : Int32) hc) (kd_lt kk_45 (by decide)) (cE_10 kk_45) rfl tw_956 tw_953 tw_955 tw_23 tw_57 (by decide +kernel) ⟨Nat.le_of_ble_eq_true rfl, Nat.le_of_ble_eq_true rfl⟩ rfl hl.1 rfl (Nat.le_of_ble_eq_true rfl) ⟨Nat.le_of_ble_eq_true rfl, Nat.le_of_ble_eq_true rfl⟩ dX10_stage_45 (fun H locs hH => ?_)
          cases hf
          exact x_iret C hr hH dX10_stage_48
    · have hf := (if_neg q12).symm.trans hf
      refine lv_aload_n C.1 C.2.1 dX10_stage_19 rfl (lv_at hl 0 rfl) ?_
      refine lv_iconst (v := (1 : Int32)) C.1 C.2.1 dX10_stage_20 (by decide) ?_
      obtain ⟨q11, hc, hf⟩ := Option.bind_eq_some_iff.mp hf
      refine x_ci (n := 1) C hH (c_X10_refuse l G (st I 45 0 (0 : Int32)) (1 : Int32) hc) (kd_lt kk_45 (by decide)) (cE_10 kk_45) rfl tw_956 tw_953 tw_955 tw_23 tw_57 (by decide +kernel) ⟨Nat.le_of_ble_eq_true rfl, Nat.le_of_ble_eq_true rfl⟩ rfl hl.1 rfl (Nat.le_of_ble_eq_true rfl) ⟨Nat.le_of_ble_eq_true rfl, Nat.le_of_ble_eq_true rfl⟩ dX10_stage_21 (fun H locs hH => ?_)
      cases hf
      exact x_iret C hr hH dX10_stage_24
def f_X10_flags_L46   : Nat → Mem → Int32 → Int32 → Option (Int32 × Mem)
  | 0, _, _, _ => none
  | n + 1, I, x1, x2 => if (I 45 9) ≤ x2 then (some (x1, I)) else (if inb x2 (ln 47) = true then (if (I 47 x2.toNatClampNeg) = (0 : Int32) then (f_X10_flags_L46 n I (x1 &&& (9 : Int32)) (x2 + (1 : Int32))) else (if (I 47 x2.toNatClampNeg) = (1 : Int32) then (f_X10_flags_L46 n I (x1 &&& (14 : Int32)) (x2 + (1 : Int32))) else (if (I 47 x2.toNatClampNeg) = (2 : Int32) then (f_X10_flags_L46 n I (x1 &&& (8 : Int32)) (x2 + (1 : Int32))) else (if (I 47 x2.toNatClampNeg) = (3 : Int32) then (f_X10_flags_L46 n I ((x1 &&& (14 : Int32)) ||| (4 : Int32)) (x2 + (1 : Int32))) else (if (I 47 x2.toNatClampNeg) = (4 : Int32) then (f_X10_flags_L46 n I (x1 ||| (2 : Int32)) (x2 + (1 : Int32))) else (if (I 47 x2.toNatClampNeg) = (5 : Int32) then (f_X10_flags_L46 n I (x1 ||| (8 : Int32)) (x2 + (1 : Int32))) else (if (I 47 x2.toNatClampNeg) = (8 : Int32) then (f_X10_flags_L46 n I ((x1 &&& (14 : Int32)) ||| (8 : Int32)) (x2 + (1 : Int32))) else (if (I 47 x2.toNatClampNeg) = (9 : Int32) then (f_X10_flags_L46 n I (x1 &&& (14 : Int32)) (x2 + (1 : Int32))) else (f_X10_flags_L46 n I x1 (x2 + (1 : Int32))))))))))) else none)
set_option maxHeartbeats 4000000 in
set_option maxRecDepth 100000 in
theorem w_X10_flags_L46 {p : Program} {l : Launch} {e : Env} {s : State} {m : MethodId} {args : Array Value} {below : List Frame} {meth : Method} {c : Code} {G : Gx} {res : Int32} {J : Mem} (C : CX p l s m args meth c cX10_flags 3 yX10_flags.cls G) (hr : meth.sig.returnType = (some .int)) :
    ∀ (n : Nat) (I : Mem) (x1 : Int32) (x2 : Int32) (H : Heap) (locs : List Loc) (ls : Array Slot), HW G s H locs I → lv_has ls 3 [(0, .ref (G.2.1 45)), (1, .int x1), (2, .int x2)] → f_X10_flags_L46 n I x1 x2 = some (res, J) → W p l e { frames := 1, cells := 0, slots := 0, locals := 21 } s m args below meth c H locs 0 0 (MQ below (Qi9 G res J s.heap.size) args s 0 0 (AA G s.heap.size)) (F0 m 46 ls []) := by
  intro n
  induction n with
  | zero => intro I x1 x2  H locs ls hH hl hf; exact absurd hf (by simp [f_X10_flags_L46])
  | succ n ih =>
    intro I x1 x2  H locs ls hH hl hf
    have hf : (if (I 45 9) ≤ x2 then (some (x1, I)) else (if inb x2 (ln 47) = true then (if (I 47 x2.toNatClampNeg) = (0 : Int32) then (f_X10_flags_L46 n I (x1 &&& (9 : Int32)) (x2 + (1 : Int32))) else (if (I 47 x2.toNatClampNeg) = (1 : Int32) then (f_X10_flags_L46 n I (x1 &&& (14 : Int32)) (x2 + (1 : Int32))) else (if (I 47 x2.toNatClampNeg) = (2 : Int32) then (f_X10_flags_L46 n I (x1 &&& (8 : Int32)) (x2 + (1 : Int32))) else (if (I 47 x2.toNatClampNeg) = (3 : Int32) then (f_X10_flags_L46 n I ((x1 &&& (14 : Int32)) ||| (4 : Int32)) (x2 + (1 : Int32))) else (if (I 47 x2.toNatClampNeg) = (4 : Int32) then (f_X10_flags_L46 n I (x1 ||| (2 : Int32)) (x2 + (1 : Int32))) else (if (I 47 x2.toNatClampNeg) = (5 : Int32) then (f_X10_flags_L46 n I (x1 ||| (8 : Int32)) (x2 + (1 : Int32))) else (if (I 47 x2.toNatClampNeg) = (8 : Int32) then (f_X10_flags_L46 n I ((x1 &&& (14 : Int32)) ||| (8 : Int32)) (x2 + (1 : Int32))) else (if (I 47 x2.toNatClampNeg) = (9 : Int32) then (f_X10_flags_L46 n I (x1 &&& (14 : Int32)) (x2 + (1 : Int32))) else (f_X10_flags_L46 n I x1 (x2 + (1 : Int32))))))))))) else none)) = _ := hf
    refine lv_iload_n C.1 C.2.1 dX10_flags_46 rfl (lv_at hl 2 rfl) ?_
    refine lv_aload_n C.1 C.2.1 dX10_flags_47 rfl (lv_at hl 0 rfl) ?_
    refine g_X10_9 C hH kk_45 tw_823 dX10_flags_48 ?_
    refine lv_icmp_ge (tgt := 190) C.1 C.2.1 dX10_flags_51 (by decide) (fun q14 => ?_) (fun q14 => ?_)
    · have hf := (if_pos q14).symm.trans hf
      refine lv_iload_n C.1 C.2.1 dX10_flags_190 rfl (lv_at hl 1 rfl) ?_
      cases hf
      exact x_iret C hr hH dX10_flags_191
    · have hf := (if_neg q14).symm.trans hf
      refine lv_aload_n C.1 C.2.1 dX10_flags_54 rfl (lv_at hl 0 rfl) ?_
      refine g_X10_10 C hH kk_45 tw_824 dX10_flags_55 ?_
      refine lv_iload_n C.1 C.2.1 dX10_flags_58 rfl (lv_at hl 2 rfl) ?_
      obtain ⟨q5, hf⟩ := itn hf
      refine x_iald C hH kk_47 q5 dX10_flags_59 ?_
      by_cases q6 : (I 47 x2.toNatClampNeg) = (0 : Int32)
      · have hf := (if_pos q6).symm.trans hf
        refine lv_tableIn (tgt := 116) (off := 56) C.1 C.2.1 dX10_flags_60 (by rw [q6]; decide) (by rw [q6]; decide) (by rw [q6]; decide) (by decide) ?_
        refine lv_iload_n C.1 C.2.1 dX10_flags_116 rfl (lv_at hl 1 rfl) ?_
        refine lv_bipush (v := (9 : Int32)) C.1 C.2.1 dX10_flags_117 (by decide) ?_
        refine lv_iand C.1 C.2.1 dX10_flags_119 ?_
        refine lv_istore_n (lv' := [(1, .int (x1 &&& (9 : Int32))), (0, .ref (G.2.1 45)), (2, .int x2)]) C.1 C.2.1 dX10_flags_120 rfl hl (by decide) rfl (fun ls hl => ?_)
        refine lv_goto (tgt := 184) C.1 C.2.1 dX10_flags_121 (by decide) ?_
        refine lv_iinc (v := (x2 + (1 : Int32))) (lv' := [(2, .int (x2 + (1 : Int32))), (1, .int (x1 &&& (9 : Int32))), (0, .ref (G.2.1 45))]) C.1 C.2.1 dX10_flags_184 hl (k := 2) rfl rfl (by decide) rfl (fun ls hl => ?_)
        refine lv_goto (tgt := 46) C.1 C.2.1 dX10_flags_187 (by decide) ?_
        exact ih I (x1 &&& (9 : Int32)) (x2 + (1 : Int32))  _ _ _ hH (lv_sub hl [2, 1, 0] rfl) hf
      · have hf := (if_neg q6).symm.trans hf
        by_cases q7 : (I 47 x2.toNatClampNeg) = (1 : Int32)
        · have hf := (if_pos q7).symm.trans hf
          refine lv_tableIn (tgt := 168) (off := 108) C.1 C.2.1 dX10_flags_60 (by rw [q7]; decide) (by rw [q7]; decide) (by rw [q7]; decide) (by decide) ?_
          refine lv_iload_n C.1 C.2.1 dX10_flags_168 rfl (lv_at hl 1 rfl) ?_
          refine lv_bipush (v := (14 : Int32)) C.1 C.2.1 dX10_flags_169 (by decide) ?_
          refine lv_iand C.1 C.2.1 dX10_flags_171 ?_
          refine lv_istore_n (lv' := [(1, .int (x1 &&& (14 : Int32))), (0, .ref (G.2.1 45)), (2, .int x2)]) C.1 C.2.1 dX10_flags_172 rfl hl (by decide) rfl (fun ls hl => ?_)
          refine lv_goto (tgt := 184) C.1 C.2.1 dX10_flags_173 (by decide) ?_
          refine lv_iinc (v := (x2 + (1 : Int32))) (lv' := [(2, .int (x2 + (1 : Int32))), (1, .int (x1 &&& (14 : Int32))), (0, .ref (G.2.1 45))]) C.1 C.2.1 dX10_flags_184 hl (k := 2) rfl rfl (by decide) rfl (fun ls hl => ?_)
          refine lv_goto (tgt := 46) C.1 C.2.1 dX10_flags_187 (by decide) ?_
          exact ih I (x1 &&& (14 : Int32)) (x2 + (1 : Int32))  _ _ _ hH (lv_sub hl [2, 1, 0] rfl) hf
        · have hf := (if_neg q7).symm.trans hf
          by_cases q8 : (I 47 x2.toNatClampNeg) = (2 : Int32)
          · have hf := (if_pos q8).symm.trans hf
            refine lv_tableIn (tgt := 124) (off := 64) C.1 C.2.1 dX10_flags_60 (by rw [q8]; decide) (by rw [q8]; decide) (by rw [q8]; decide) (by decide) ?_
            refine lv_iload_n C.1 C.2.1 dX10_flags_124 rfl (lv_at hl 1 rfl) ?_
            refine lv_bipush (v := (8 : Int32)) C.1 C.2.1 dX10_flags_125 (by decide) ?_
            refine lv_iand C.1 C.2.1 dX10_flags_127 ?_
            refine lv_istore_n (lv' := [(1, .int (x1 &&& (8 : Int32))), (0, .ref (G.2.1 45)), (2, .int x2)]) C.1 C.2.1 dX10_flags_128 rfl hl (by decide) rfl (fun ls hl => ?_)
            refine lv_goto (tgt := 184) C.1 C.2.1 dX10_flags_129 (by decide) ?_
            refine lv_iinc (v := (x2 + (1 : Int32))) (lv' := [(2, .int (x2 + (1 : Int32))), (1, .int (x1 &&& (8 : Int32))), (0, .ref (G.2.1 45))]) C.1 C.2.1 dX10_flags_184 hl (k := 2) rfl rfl (by decide) rfl (fun ls hl => ?_)
            refine lv_goto (tgt := 46) C.1 C.2.1 dX10_flags_187 (by decide) ?_
            exact ih I (x1 &&& (8 : Int32)) (x2 + (1 : Int32))  _ _ _ hH (lv_sub hl [2, 1, 0] rfl) hf
          · have hf := (if_neg q8).symm.trans hf
            by_cases q9 : (I 47 x2.toNatClampNeg) = (3 : Int32)
            · have hf := (if_pos q9).symm.trans hf
              refine lv_tableIn (tgt := 132) (off := 72) C.1 C.2.1 dX10_flags_60 (by rw [q9]; decide) (by rw [q9]; decide) (by rw [q9]; decide) (by decide) ?_
              refine lv_iload_n C.1 C.2.1 dX10_flags_132 rfl (lv_at hl 1 rfl) ?_
              refine lv_bipush (v := (14 : Int32)) C.1 C.2.1 dX10_flags_133 (by decide) ?_
              refine lv_iand C.1 C.2.1 dX10_flags_135 ?_
              refine lv_iconst (v := (4 : Int32)) C.1 C.2.1 dX10_flags_136 (by decide) ?_
              refine lv_ior C.1 C.2.1 dX10_flags_137 ?_
              refine lv_istore_n (lv' := [(1, .int ((x1 &&& (14 : Int32)) ||| (4 : Int32))), (0, .ref (G.2.1 45)), (2, .int x2)]) C.1 C.2.1 dX10_flags_138 rfl hl (by decide) rfl (fun ls hl => ?_)
              refine lv_goto (tgt := 184) C.1 C.2.1 dX10_flags_139 (by decide) ?_
              refine lv_iinc (v := (x2 + (1 : Int32))) (lv' := [(2, .int (x2 + (1 : Int32))), (1, .int ((x1 &&& (14 : Int32)) ||| (4 : Int32))), (0, .ref (G.2.1 45))]) C.1 C.2.1 dX10_flags_184 hl (k := 2) rfl rfl (by decide) rfl (fun ls hl => ?_)
              refine lv_goto (tgt := 46) C.1 C.2.1 dX10_flags_187 (by decide) ?_
              exact ih I ((x1 &&& (14 : Int32)) ||| (4 : Int32)) (x2 + (1 : Int32))  _ _ _ hH (lv_sub hl [2, 1, 0] rfl) hf
            · have hf := (if_neg q9).symm.trans hf
              by_cases q10 : (I 47 x2.toNatClampNeg) = (4 : Int32)
              · have hf := (if_pos q10).symm.trans hf
                refine lv_tableIn (tgt := 142) (off := 82) C.1 C.2.1 dX10_flags_60 (by rw [q10]; decide) (by rw [q10]; decide) (by rw [q10]; decide) (by decide) ?_
                refine lv_iload_n C.1 C.2.1 dX10_flags_142 rfl (lv_at hl 1 rfl) ?_
                refine lv_iconst (v := (2 : Int32)) C.1 C.2.1 dX10_flags_143 (by decide) ?_
                refine lv_ior C.1 C.2.1 dX10_flags_144 ?_
                refine lv_istore_n (lv' := [(1, .int (x1 ||| (2 : Int32))), (0, .ref (G.2.1 45)), (2, .int x2)]) C.1 C.2.1 dX10_flags_145 rfl hl (by decide) rfl (fun ls hl => ?_)
                refine lv_goto (tgt := 184) C.1 C.2.1 dX10_flags_146 (by decide) ?_
                refine lv_iinc (v := (x2 + (1 : Int32))) (lv' := [(2, .int (x2 + (1 : Int32))), (1, .int (x1 ||| (2 : Int32))), (0, .ref (G.2.1 45))]) C.1 C.2.1 dX10_flags_184 hl (k := 2) rfl rfl (by decide) rfl (fun ls hl => ?_)
                refine lv_goto (tgt := 46) C.1 C.2.1 dX10_flags_187 (by decide) ?_
                exact ih I (x1 ||| (2 : Int32)) (x2 + (1 : Int32))  _ _ _ hH (lv_sub hl [2, 1, 0] rfl) hf
              · have hf := (if_neg q10).symm.trans hf
                by_cases q11 : (I 47 x2.toNatClampNeg) = (5 : Int32)
                · have hf := (if_pos q11).symm.trans hf
                  refine lv_tableIn (tgt := 149) (off := 89) C.1 C.2.1 dX10_flags_60 (by rw [q11]; decide) (by rw [q11]; decide) (by rw [q11]; decide) (by decide) ?_
                  refine lv_iload_n C.1 C.2.1 dX10_flags_149 rfl (lv_at hl 1 rfl) ?_
                  refine lv_bipush (v := (8 : Int32)) C.1 C.2.1 dX10_flags_150 (by decide) ?_
                  refine lv_ior C.1 C.2.1 dX10_flags_152 ?_
                  refine lv_istore_n (lv' := [(1, .int (x1 ||| (8 : Int32))), (0, .ref (G.2.1 45)), (2, .int x2)]) C.1 C.2.1 dX10_flags_153 rfl hl (by decide) rfl (fun ls hl => ?_)
                  refine lv_goto (tgt := 184) C.1 C.2.1 dX10_flags_154 (by decide) ?_
                  refine lv_iinc (v := (x2 + (1 : Int32))) (lv' := [(2, .int (x2 + (1 : Int32))), (1, .int (x1 ||| (8 : Int32))), (0, .ref (G.2.1 45))]) C.1 C.2.1 dX10_flags_184 hl (k := 2) rfl rfl (by decide) rfl (fun ls hl => ?_)
                  refine lv_goto (tgt := 46) C.1 C.2.1 dX10_flags_187 (by decide) ?_
                  exact ih I (x1 ||| (8 : Int32)) (x2 + (1 : Int32))  _ _ _ hH (lv_sub hl [2, 1, 0] rfl) hf
                · have hf := (if_neg q11).symm.trans hf
                  by_cases q12 : (I 47 x2.toNatClampNeg) = (8 : Int32)
                  · have hf := (if_pos q12).symm.trans hf
                    refine lv_tableIn (tgt := 157) (off := 97) C.1 C.2.1 dX10_flags_60 (by rw [q12]; decide) (by rw [q12]; decide) (by rw [q12]; decide) (by decide) ?_
                    refine lv_iload_n C.1 C.2.1 dX10_flags_157 rfl (lv_at hl 1 rfl) ?_
                    refine lv_bipush (v := (14 : Int32)) C.1 C.2.1 dX10_flags_158 (by decide) ?_
                    refine lv_iand C.1 C.2.1 dX10_flags_160 ?_
                    refine lv_bipush (v := (8 : Int32)) C.1 C.2.1 dX10_flags_161 (by decide) ?_
                    refine lv_ior C.1 C.2.1 dX10_flags_163 ?_
                    refine lv_istore_n (lv' := [(1, .int ((x1 &&& (14 : Int32)) ||| (8 : Int32))), (0, .ref (G.2.1 45)), (2, .int x2)]) C.1 C.2.1 dX10_flags_164 rfl hl (by decide) rfl (fun ls hl => ?_)
                    refine lv_goto (tgt := 184) C.1 C.2.1 dX10_flags_165 (by decide) ?_
                    refine lv_iinc (v := (x2 + (1 : Int32))) (lv' := [(2, .int (x2 + (1 : Int32))), (1, .int ((x1 &&& (14 : Int32)) ||| (8 : Int32))), (0, .ref (G.2.1 45))]) C.1 C.2.1 dX10_flags_184 hl (k := 2) rfl rfl (by decide) rfl (fun ls hl => ?_)
                    refine lv_goto (tgt := 46) C.1 C.2.1 dX10_flags_187 (by decide) ?_
                    exact ih I ((x1 &&& (14 : Int32)) ||| (8 : Int32)) (x2 + (1 : Int32))  _ _ _ hH (lv_sub hl [2, 1, 0] rfl) hf
                  · have hf := (if_neg q12).symm.trans hf
                    by_cases q13 : (I 47 x2.toNatClampNeg) = (9 : Int32)
                    · have hf := (if_pos q13).symm.trans hf
                      refine lv_tableIn (tgt := 176) (off := 116) C.1 C.2.1 dX10_flags_60 (by rw [q13]; decide) (by rw [q13]; decide) (by rw [q13]; decide) (by decide) ?_
                      refine lv_iload_n C.1 C.2.1 dX10_flags_176 rfl (lv_at hl 1 rfl) ?_
                      refine lv_bipush (v := (14 : Int32)) C.1 C.2.1 dX10_flags_177 (by decide) ?_
                      refine lv_iand C.1 C.2.1 dX10_flags_179 ?_
                      refine lv_istore_n (lv' := [(1, .int (x1 &&& (14 : Int32))), (0, .ref (G.2.1 45)), (2, .int x2)]) C.1 C.2.1 dX10_flags_180 rfl hl (by decide) rfl (fun ls hl => ?_)
                      refine lv_goto (tgt := 184) C.1 C.2.1 dX10_flags_181 (by decide) ?_
                      refine lv_iinc (v := (x2 + (1 : Int32))) (lv' := [(2, .int (x2 + (1 : Int32))), (1, .int (x1 &&& (14 : Int32))), (0, .ref (G.2.1 45))]) C.1 C.2.1 dX10_flags_184 hl (k := 2) rfl rfl (by decide) rfl (fun ls hl => ?_)
                      refine lv_goto (tgt := 46) C.1 C.2.1 dX10_flags_187 (by decide) ?_
                      exact ih I (x1 &&& (14 : Int32)) (x2 + (1 : Int32))  _ _ _ hH (lv_sub hl [2, 1, 0] rfl) hf
                    · have hf := (if_neg q13).symm.trans hf
                      have q6' := ne_toInt (z := 0) (by decide) q6
                      have q7' := ne_toInt (z := 1) (by decide) q7
                      have q8' := ne_toInt (z := 2) (by decide) q8
                      have q9' := ne_toInt (z := 3) (by decide) q9
                      have q10' := ne_toInt (z := 4) (by decide) q10
                      have q11' := ne_toInt (z := 5) (by decide) q11
                      have q12' := ne_toInt (z := 8) (by decide) q12
                      have q13' := ne_toInt (z := 9) (by decide) q13
                      refine x_tblD (tgt := 184) C.1 C.2.1 dX10_flags_60 ?_ (by decide) ?_
                      · by_cases hlo : (I 47 x2.toNatClampNeg).toInt < 0
                        · exact Or.inl (Or.inl hlo)
                        · by_cases hhi : 9 < (I 47 x2.toNatClampNeg).toInt
                          · exact Or.inl (Or.inr hhi)
                          · refine Or.inr ⟨hlo, hhi, ?_⟩
                            have hv : (I 47 x2.toNatClampNeg).toInt = 6 ∨ (I 47 x2.toNatClampNeg).toInt = 7 := by omega
                            rcases hv with hv | hv <;> (rw [hv]; decide)
                      · refine lv_iinc (v := (x2 + (1 : Int32))) (lv' := [(2, .int (x2 + (1 : Int32))), (0, .ref (G.2.1 45)), (1, .int x1)]) C.1 C.2.1 dX10_flags_184 hl (k := 2) rfl rfl (by decide) rfl (fun ls hl => ?_)
                        refine lv_goto (tgt := 46) C.1 C.2.1 dX10_flags_187 (by decide) ?_
                        exact ih I x1 (x2 + (1 : Int32))  _ _ _ hH (lv_sub hl [1, 2, 0] rfl) hf
def f_X10_flags (I : Mem)  : Option (Int32 × Mem) := if ((st I 45 0 (0 : Int32)) 45 3) = 0 then ((f_X10_refuse (st I 45 0 (0 : Int32)) (1 : Int32)).bind fun q3 => (some (q3.1, q3.2))) else (if ((st I 45 0 (0 : Int32)) 45 5) = 0 then (f_X10_flags_L46 FU (st I 45 0 (0 : Int32)) (1 : Int32) (0 : Int32)) else (if ((st I 45 0 (0 : Int32)) 45 5) = (1 : Int32) then (f_X10_flags_L46 FU (st I 45 0 (0 : Int32)) (7 : Int32) (0 : Int32)) else (f_X10_flags_L46 FU (st I 45 0 (0 : Int32)) (0 : Int32) (0 : Int32))))
set_option maxHeartbeats 4000000 in
set_option maxRecDepth 100000 in
theorem c_X10_flags (l : Launch) (G : Gx) (I : Mem) {res : Int32} {J : Mem} (hf : f_X10_flags I = some (res, J)) : Mi l yX10_flags (.code yX10_flags cX10_flags 3 (some .int)) 1 21 G I [.ref (G.2.1 45)] res J := by
  refine Mi.of (by decide +kernel) (Nat.le_of_ble_eq_true rfl) (fun p e s m below meth c ls C hr hH hl => ?_)
  have hl : lv_has ls 3 [(0, .ref (G.2.1 45))] := hl
  have hf : (if ((st I 45 0 (0 : Int32)) 45 3) = 0 then ((f_X10_refuse (st I 45 0 (0 : Int32)) (1 : Int32)).bind fun q3 => (some (q3.1, q3.2))) else (if ((st I 45 0 (0 : Int32)) 45 5) = 0 then (f_X10_flags_L46 FU (st I 45 0 (0 : Int32)) (1 : Int32) (0 : Int32)) else (if ((st I 45 0 (0 : Int32)) 45 5) = (1 : Int32) then (f_X10_flags_L46 FU (st I 45 0 (0 : Int32)) (7 : Int32) (0 : Int32)) else (f_X10_flags_L46 FU (st I 45 0 (0 : Int32)) (0 : Int32) (0 : Int32))))) = _ := hf
  refine lv_aload_n C.1 C.2.1 dX10_flags_0 rfl (lv_at hl 0 rfl) ?_
  refine lv_iconst (v := (0 : Int32)) C.1 C.2.1 dX10_flags_1 (by decide) ?_
  refine p_X10_0 C hH kk_45  tw_814 dX10_flags_2 (fun H locs hH => ?_)
  refine lv_aload_n C.1 C.2.1 dX10_flags_5 rfl (lv_at hl 0 rfl) ?_
  refine g_X10_3 C hH kk_45 tw_817 dX10_flags_6 ?_
  refine lv_if_ne (tgt := 18) C.1 C.2.1 dX10_flags_9 (by decide) (fun q4 => ?_) (fun q4 => ?_)
  · have hf := (if_neg q4).symm.trans hf
    refine lv_aload_n C.1 C.2.1 dX10_flags_18 rfl (lv_at hl 0 rfl) ?_
    refine g_X10_5 C hH kk_45 tw_819 dX10_flags_19 ?_
    refine lv_if_ne (tgt := 29) C.1 C.2.1 dX10_flags_22 (by decide) (fun q2 => ?_) (fun q2 => ?_)
    · have hf := (if_neg q2).symm.trans hf
      refine lv_aload_n C.1 C.2.1 dX10_flags_29 rfl (lv_at hl 0 rfl) ?_
      refine g_X10_5 C hH kk_45 tw_819 dX10_flags_30 ?_
      refine lv_iconst (v := (1 : Int32)) C.1 C.2.1 dX10_flags_33 (by decide) ?_
      refine lv_icmp_ne (tgt := 42) C.1 C.2.1 dX10_flags_34 (by decide) (fun q1 => ?_) (fun q1 => ?_)
      · have hf := (if_neg q1).symm.trans hf
        refine lv_iconst (v := (0 : Int32)) C.1 C.2.1 dX10_flags_42 (by decide) ?_
        refine lv_istore_n (lv' := [(1, .int (0 : Int32)), (0, .ref (G.2.1 45))]) C.1 C.2.1 dX10_flags_43 rfl hl (by decide) rfl (fun ls hl => ?_)
        refine lv_iconst (v := (0 : Int32)) C.1 C.2.1 dX10_flags_44 (by decide) ?_
        refine lv_istore_n (lv' := [(2, .int (0 : Int32)), (1, .int (0 : Int32)), (0, .ref (G.2.1 45))]) C.1 C.2.1 dX10_flags_45 rfl hl (by decide) rfl (fun ls hl => ?_)
        exact w_X10_flags_L46 C hr FU (st I 45 0 (0 : Int32)) (0 : Int32) (0 : Int32) _ _ _ hH (lv_sub hl [2, 1, 0] rfl) hf
      · have hf := (if_pos q1).symm.trans hf
        refine lv_bipush (v := (7 : Int32)) C.1 C.2.1 dX10_flags_37 (by decide) ?_
        refine lv_goto (tgt := 43) C.1 C.2.1 dX10_flags_39 (by decide) ?_
        refine lv_istore_n (lv' := [(1, .int (7 : Int32)), (0, .ref (G.2.1 45))]) C.1 C.2.1 dX10_flags_43 rfl hl (by decide) rfl (fun ls hl => ?_)
        refine lv_iconst (v := (0 : Int32)) C.1 C.2.1 dX10_flags_44 (by decide) ?_
        refine lv_istore_n (lv' := [(2, .int (0 : Int32)), (1, .int (7 : Int32)), (0, .ref (G.2.1 45))]) C.1 C.2.1 dX10_flags_45 rfl hl (by decide) rfl (fun ls hl => ?_)
        exact w_X10_flags_L46 C hr FU (st I 45 0 (0 : Int32)) (7 : Int32) (0 : Int32) _ _ _ hH (lv_sub hl [2, 1, 0] rfl) hf
    · have hf := (if_pos q2).symm.trans hf
      refine lv_iconst (v := (1 : Int32)) C.1 C.2.1 dX10_flags_25 (by decide) ?_
      refine lv_goto (tgt := 43) C.1 C.2.1 dX10_flags_26 (by decide) ?_
      refine lv_istore_n (lv' := [(1, .int (1 : Int32)), (0, .ref (G.2.1 45))]) C.1 C.2.1 dX10_flags_43 rfl hl (by decide) rfl (fun ls hl => ?_)
      refine lv_iconst (v := (0 : Int32)) C.1 C.2.1 dX10_flags_44 (by decide) ?_
      refine lv_istore_n (lv' := [(2, .int (0 : Int32)), (1, .int (1 : Int32)), (0, .ref (G.2.1 45))]) C.1 C.2.1 dX10_flags_45 rfl hl (by decide) rfl (fun ls hl => ?_)
      exact w_X10_flags_L46 C hr FU (st I 45 0 (0 : Int32)) (1 : Int32) (0 : Int32) _ _ _ hH (lv_sub hl [2, 1, 0] rfl) hf
  · have hf := (if_pos q4).symm.trans hf
    refine lv_aload_n C.1 C.2.1 dX10_flags_12 rfl (lv_at hl 0 rfl) ?_
    refine lv_iconst (v := (1 : Int32)) C.1 C.2.1 dX10_flags_13 (by decide) ?_
    obtain ⟨q3, hc, hf⟩ := Option.bind_eq_some_iff.mp hf
    refine x_ci (n := 1) C hH (c_X10_refuse l G (st I 45 0 (0 : Int32)) (1 : Int32) hc) (kd_lt kk_45 (by decide)) (cE_10 kk_45) rfl tw_956 tw_953 tw_955 tw_23 tw_57 (by decide +kernel) ⟨Nat.le_of_ble_eq_true rfl, Nat.le_of_ble_eq_true rfl⟩ rfl hl.1 rfl (Nat.le_of_ble_eq_true rfl) ⟨Nat.le_of_ble_eq_true rfl, Nat.le_of_ble_eq_true rfl⟩ dX10_flags_14 (fun H locs hH => ?_)
    cases hf
    exact x_iret C hr hH dX10_flags_17
def f_X10_passes (I : Mem) (p0 : Int32) (p1 : Int32) (p2 : Int32) : Option (Bool × Mem) := if p1 = (0 : Int32) then (if p0 = p2 then (some (true, I)) else (some (false, I))) else (if p1 = (1 : Int32) then (if p0 = p2 then (some (false, I)) else (some (true, I))) else (if p1 = (2 : Int32) then (if p2 ≤ p0 then (some (false, I)) else (some (true, I))) else (if p1 = (3 : Int32) then (if p0 ≤ p2 then (some (false, I)) else (some (true, I))) else (if p2 = 0 then (if p0 = 0 then (some (true, I)) else (some (false, I))) else (if p2 = 0 then none else (if (p0 - p0 / p2 * p2) = 0 then (some (true, I)) else (some (false, I))))))))
set_option maxHeartbeats 4000000 in
set_option maxRecDepth 100000 in
theorem c_X10_passes (l : Launch) (G : Gx) (I : Mem) (p0 : Int32) (p1 : Int32) (p2 : Int32) {res : Bool} {J : Mem} (hf : f_X10_passes I p0 p1 p2 = some (res, J)) : Mi l yX10_passes (.code yX10_passes cX10_passes 3 (some .boolean)) 0 0 G I [.int p0, .int p1, .int p2] (b2i res) J := by
  refine Mi.of (by decide +kernel) (Nat.le_of_ble_eq_true rfl) (fun p e s m below meth c ls C hr hH hl => ?_)
  have hl : lv_has ls 3 [(0, .int p0), (1, .int p1), (2, .int p2)] := hl
  have hf : (if p1 = (0 : Int32) then (if p0 = p2 then (some (true, I)) else (some (false, I))) else (if p1 = (1 : Int32) then (if p0 = p2 then (some (false, I)) else (some (true, I))) else (if p1 = (2 : Int32) then (if p2 ≤ p0 then (some (false, I)) else (some (true, I))) else (if p1 = (3 : Int32) then (if p0 ≤ p2 then (some (false, I)) else (some (true, I))) else (if p2 = 0 then (if p0 = 0 then (some (true, I)) else (some (false, I))) else (if p2 = 0 then none else (if (p0 - p0 / p2 * p2) = 0 then (some (true, I)) else (some (false, I))))))))) = _ := hf
  refine lv_iload_n C.1 C.2.1 dX10_passes_0 rfl (lv_at hl 1 rfl) ?_
  by_cases q2 : p1 = (0 : Int32)
  · have hf := (if_pos q2).symm.trans hf
    refine lv_tableIn (tgt := 32) (off := 31) C.1 C.2.1 dX10_passes_1 (by rw [q2]; decide) (by rw [q2]; decide) (by rw [q2]; decide) (by decide) ?_
    refine lv_iload_n C.1 C.2.1 dX10_passes_32 rfl (lv_at hl 0 rfl) ?_
    refine lv_iload_n C.1 C.2.1 dX10_passes_33 rfl (lv_at hl 2 rfl) ?_
    refine lv_icmp_ne (tgt := 41) C.1 C.2.1 dX10_passes_34 (by decide) (fun q1 => ?_) (fun q1 => ?_)
    · have hf := (if_neg q1).symm.trans hf
      refine lv_iconst (v := (0 : Int32)) C.1 C.2.1 dX10_passes_41 (by decide) ?_
      cases hf
      exact x_zret C hr hH rfl dX10_passes_42
    · have hf := (if_pos q1).symm.trans hf
      refine lv_iconst (v := (1 : Int32)) C.1 C.2.1 dX10_passes_37 (by decide) ?_
      refine lv_goto (tgt := 42) C.1 C.2.1 dX10_passes_38 (by decide) ?_
      cases hf
      exact x_zret C hr hH rfl dX10_passes_42
  · have hf := (if_neg q2).symm.trans hf
    by_cases q4 : p1 = (1 : Int32)
    · have hf := (if_pos q4).symm.trans hf
      refine lv_tableIn (tgt := 43) (off := 42) C.1 C.2.1 dX10_passes_1 (by rw [q4]; decide) (by rw [q4]; decide) (by rw [q4]; decide) (by decide) ?_
      refine lv_iload_n C.1 C.2.1 dX10_passes_43 rfl (lv_at hl 0 rfl) ?_
      refine lv_iload_n C.1 C.2.1 dX10_passes_44 rfl (lv_at hl 2 rfl) ?_
      refine lv_icmp_eq (tgt := 52) C.1 C.2.1 dX10_passes_45 (by decide) (fun q3 => ?_) (fun q3 => ?_)
      · have hf := (if_pos q3).symm.trans hf
        refine lv_iconst (v := (0 : Int32)) C.1 C.2.1 dX10_passes_52 (by decide) ?_
        cases hf
        exact x_zret C hr hH rfl dX10_passes_53
      · have hf := (if_neg q3).symm.trans hf
        refine lv_iconst (v := (1 : Int32)) C.1 C.2.1 dX10_passes_48 (by decide) ?_
        refine lv_goto (tgt := 53) C.1 C.2.1 dX10_passes_49 (by decide) ?_
        cases hf
        exact x_zret C hr hH rfl dX10_passes_53
    · have hf := (if_neg q4).symm.trans hf
      by_cases q6 : p1 = (2 : Int32)
      · have hf := (if_pos q6).symm.trans hf
        refine lv_tableIn (tgt := 54) (off := 53) C.1 C.2.1 dX10_passes_1 (by rw [q6]; decide) (by rw [q6]; decide) (by rw [q6]; decide) (by decide) ?_
        refine lv_iload_n C.1 C.2.1 dX10_passes_54 rfl (lv_at hl 0 rfl) ?_
        refine lv_iload_n C.1 C.2.1 dX10_passes_55 rfl (lv_at hl 2 rfl) ?_
        refine lv_icmp_ge (tgt := 63) C.1 C.2.1 dX10_passes_56 (by decide) (fun q5 => ?_) (fun q5 => ?_)
        · have hf := (if_pos q5).symm.trans hf
          refine lv_iconst (v := (0 : Int32)) C.1 C.2.1 dX10_passes_63 (by decide) ?_
          cases hf
          exact x_zret C hr hH rfl dX10_passes_64
        · have hf := (if_neg q5).symm.trans hf
          refine lv_iconst (v := (1 : Int32)) C.1 C.2.1 dX10_passes_59 (by decide) ?_
          refine lv_goto (tgt := 64) C.1 C.2.1 dX10_passes_60 (by decide) ?_
          cases hf
          exact x_zret C hr hH rfl dX10_passes_64
      · have hf := (if_neg q6).symm.trans hf
        by_cases q8 : p1 = (3 : Int32)
        · have hf := (if_pos q8).symm.trans hf
          refine lv_tableIn (tgt := 65) (off := 64) C.1 C.2.1 dX10_passes_1 (by rw [q8]; decide) (by rw [q8]; decide) (by rw [q8]; decide) (by decide) ?_
          refine lv_iload_n C.1 C.2.1 dX10_passes_65 rfl (lv_at hl 0 rfl) ?_
          refine lv_iload_n C.1 C.2.1 dX10_passes_66 rfl (lv_at hl 2 rfl) ?_
          refine lv_icmp_le (tgt := 74) C.1 C.2.1 dX10_passes_67 (by decide) (fun q7 => ?_) (fun q7 => ?_)
          · have hf := (if_pos q7).symm.trans hf
            refine lv_iconst (v := (0 : Int32)) C.1 C.2.1 dX10_passes_74 (by decide) ?_
            cases hf
            exact x_zret C hr hH rfl dX10_passes_75
          · have hf := (if_neg q7).symm.trans hf
            refine lv_iconst (v := (1 : Int32)) C.1 C.2.1 dX10_passes_70 (by decide) ?_
            refine lv_goto (tgt := 75) C.1 C.2.1 dX10_passes_71 (by decide) ?_
            cases hf
            exact x_zret C hr hH rfl dX10_passes_75
        · have hf := (if_neg q8).symm.trans hf
          have q2' := ne_toInt (z := 0) (by decide) q2
          have q4' := ne_toInt (z := 1) (by decide) q4
          have q6' := ne_toInt (z := 2) (by decide) q6
          have q8' := ne_toInt (z := 3) (by decide) q8
          refine x_tblD (tgt := 76) C.1 C.2.1 dX10_passes_1 ?_ (by decide) ?_
          · exact Or.inl (by omega)
          · refine lv_iload_n C.1 C.2.1 dX10_passes_76 rfl (lv_at hl 2 rfl) ?_
            refine lv_if_ne (tgt := 92) C.1 C.2.1 dX10_passes_77 (by decide) (fun q12 => ?_) (fun q12 => ?_)
            · have hf := (if_neg q12).symm.trans hf
              refine lv_iload_n C.1 C.2.1 dX10_passes_92 rfl (lv_at hl 0 rfl) ?_
              refine lv_iload_n C.1 C.2.1 dX10_passes_93 rfl (lv_at hl 2 rfl) ?_
              obtain ⟨q10, hf⟩ := itn' hf
              refine lv_irem C.1 C.2.1 dX10_passes_94 q10 ?_
              refine lv_if_ne (tgt := 102) C.1 C.2.1 dX10_passes_95 (by decide) (fun q9 => ?_) (fun q9 => ?_)
              · have hf := (if_neg q9).symm.trans hf
                refine lv_iconst (v := (0 : Int32)) C.1 C.2.1 dX10_passes_102 (by decide) ?_
                cases hf
                exact x_zret C hr hH rfl dX10_passes_103
              · have hf := (if_pos q9).symm.trans hf
                refine lv_iconst (v := (1 : Int32)) C.1 C.2.1 dX10_passes_98 (by decide) ?_
                refine lv_goto (tgt := 103) C.1 C.2.1 dX10_passes_99 (by decide) ?_
                cases hf
                exact x_zret C hr hH rfl dX10_passes_103
            · have hf := (if_pos q12).symm.trans hf
              refine lv_iload_n C.1 C.2.1 dX10_passes_80 rfl (lv_at hl 0 rfl) ?_
              refine lv_if_ne (tgt := 88) C.1 C.2.1 dX10_passes_81 (by decide) (fun q11 => ?_) (fun q11 => ?_)
              · have hf := (if_neg q11).symm.trans hf
                refine lv_iconst (v := (0 : Int32)) C.1 C.2.1 dX10_passes_88 (by decide) ?_
                refine lv_goto (tgt := 103) C.1 C.2.1 dX10_passes_89 (by decide) ?_
                cases hf
                exact x_zret C hr hH rfl dX10_passes_103
              · have hf := (if_pos q11).symm.trans hf
                refine lv_iconst (v := (1 : Int32)) C.1 C.2.1 dX10_passes_84 (by decide) ?_
                refine lv_goto (tgt := 103) C.1 C.2.1 dX10_passes_85 (by decide) ?_
                cases hf
                exact x_zret C hr hH rfl dX10_passes_103
def f_X10_mapped (I : Mem) (p0 : Int32) (p1 : Int32) (p2 : Int32) : Option (Int32 × Mem) := if p1 = (0 : Int32) then (some ((p0 + p2), I)) else (if p1 = (1 : Int32) then (some ((p0 * p2), I)) else (if p1 = (2 : Int32) then (some ((p2 - p0), I)) else (if p2 = 0 then (some ((0 : Int32), I)) else (if p2 = 0 then none else (some ((p0 - p0 / p2 * p2), I))))))
set_option maxHeartbeats 4000000 in
set_option maxRecDepth 100000 in
theorem c_X10_mapped (l : Launch) (G : Gx) (I : Mem) (p0 : Int32) (p1 : Int32) (p2 : Int32) {res : Int32} {J : Mem} (hf : f_X10_mapped I p0 p1 p2 = some (res, J)) : Mi l yX10_mapped (.code yX10_mapped cX10_mapped 3 (some .int)) 0 0 G I [.int p0, .int p1, .int p2] res J := by
  refine Mi.of (by decide +kernel) (Nat.le_of_ble_eq_true rfl) (fun p e s m below meth c ls C hr hH hl => ?_)
  have hl : lv_has ls 3 [(0, .int p0), (1, .int p1), (2, .int p2)] := hl
  have hf : (if p1 = (0 : Int32) then (some ((p0 + p2), I)) else (if p1 = (1 : Int32) then (some ((p0 * p2), I)) else (if p1 = (2 : Int32) then (some ((p2 - p0), I)) else (if p2 = 0 then (some ((0 : Int32), I)) else (if p2 = 0 then none else (some ((p0 - p0 / p2 * p2), I))))))) = _ := hf
  refine lv_iload_n C.1 C.2.1 dX10_mapped_0 rfl (lv_at hl 1 rfl) ?_
  by_cases q1 : p1 = (0 : Int32)
  · have hf := (if_pos q1).symm.trans hf
    refine lv_tableIn (tgt := 28) (off := 27) C.1 C.2.1 dX10_mapped_1 (by rw [q1]; decide) (by rw [q1]; decide) (by rw [q1]; decide) (by decide) ?_
    refine lv_iload_n C.1 C.2.1 dX10_mapped_28 rfl (lv_at hl 0 rfl) ?_
    refine lv_iload_n C.1 C.2.1 dX10_mapped_29 rfl (lv_at hl 2 rfl) ?_
    refine lv_iadd C.1 C.2.1 dX10_mapped_30 ?_
    cases hf
    exact x_iret C hr hH dX10_mapped_31
  · have hf := (if_neg q1).symm.trans hf
    by_cases q2 : p1 = (1 : Int32)
    · have hf := (if_pos q2).symm.trans hf
      refine lv_tableIn (tgt := 32) (off := 31) C.1 C.2.1 dX10_mapped_1 (by rw [q2]; decide) (by rw [q2]; decide) (by rw [q2]; decide) (by decide) ?_
      refine lv_iload_n C.1 C.2.1 dX10_mapped_32 rfl (lv_at hl 0 rfl) ?_
      refine lv_iload_n C.1 C.2.1 dX10_mapped_33 rfl (lv_at hl 2 rfl) ?_
      refine lv_imul C.1 C.2.1 dX10_mapped_34 ?_
      cases hf
      exact x_iret C hr hH dX10_mapped_35
    · have hf := (if_neg q2).symm.trans hf
      by_cases q3 : p1 = (2 : Int32)
      · have hf := (if_pos q3).symm.trans hf
        refine lv_tableIn (tgt := 36) (off := 35) C.1 C.2.1 dX10_mapped_1 (by rw [q3]; decide) (by rw [q3]; decide) (by rw [q3]; decide) (by decide) ?_
        refine lv_iload_n C.1 C.2.1 dX10_mapped_36 rfl (lv_at hl 2 rfl) ?_
        refine lv_iload_n C.1 C.2.1 dX10_mapped_37 rfl (lv_at hl 0 rfl) ?_
        refine lv_isub C.1 C.2.1 dX10_mapped_38 ?_
        cases hf
        exact x_iret C hr hH dX10_mapped_39
      · have hf := (if_neg q3).symm.trans hf
        have q1' := ne_toInt (z := 0) (by decide) q1
        have q2' := ne_toInt (z := 1) (by decide) q2
        have q3' := ne_toInt (z := 2) (by decide) q3
        refine x_tblD (tgt := 40) C.1 C.2.1 dX10_mapped_1 ?_ (by decide) ?_
        · exact Or.inl (by omega)
        · refine lv_iload_n C.1 C.2.1 dX10_mapped_40 rfl (lv_at hl 2 rfl) ?_
          refine lv_if_ne (tgt := 48) C.1 C.2.1 dX10_mapped_41 (by decide) (fun q5 => ?_) (fun q5 => ?_)
          · have hf := (if_neg q5).symm.trans hf
            refine lv_iload_n C.1 C.2.1 dX10_mapped_48 rfl (lv_at hl 0 rfl) ?_
            refine lv_iload_n C.1 C.2.1 dX10_mapped_49 rfl (lv_at hl 2 rfl) ?_
            obtain ⟨q4, hf⟩ := itn' hf
            refine lv_irem C.1 C.2.1 dX10_mapped_50 q4 ?_
            cases hf
            exact x_iret C hr hH dX10_mapped_51
          · have hf := (if_pos q5).symm.trans hf
            refine lv_iconst (v := (0 : Int32)) C.1 C.2.1 dX10_mapped_44 (by decide) ?_
            refine lv_goto (tgt := 51) C.1 C.2.1 dX10_mapped_45 (by decide) ?_
            cases hf
            exact x_iret C hr hH dX10_mapped_51
def f_X10_holds_L5 (p0 : Int32) (p1 : Int32)  : Nat → Mem → Int32 → Int32 → Int32 → Int32 → Option (Bool × Mem)
  | 0, _, _, _, _, _ => none
  | n + 1, I, x1, x2, x3, x4 => if inb x1 (ln 51) = true then (if (I 51 x1.toNatClampNeg) ≤ x4 then (zraw x3 I) else (if x3 = 0 then (if inb (((600 : Int32) * x1) + x4) (ln 53) = true then (if (I 53 (((600 : Int32) * x1) + x4).toNatClampNeg) = x2 then (f_X10_holds_L5 p0 p1 n I x1 x2 (1 : Int32) (x4 + (1 : Int32))) else (f_X10_holds_L5 p0 p1 n I x1 x2 (0 : Int32) (x4 + (1 : Int32)))) else none) else (f_X10_holds_L5 p0 p1 n I x1 x2 (1 : Int32) (x4 + (1 : Int32))))) else none
set_option maxHeartbeats 4000000 in
set_option maxRecDepth 100000 in
theorem w_X10_holds_L5 {p : Program} {l : Launch} {e : Env} {s : State} {m : MethodId} {args : Array Value} {below : List Frame} {meth : Method} {c : Code} {G : Gx} (p0 : Int32) (p1 : Int32) {res : Bool} {J : Mem} (C : CX p l s m args meth c cX10_holds 5 yX10_holds.cls G) (hr : meth.sig.returnType = (some .boolean)) :
    ∀ (n : Nat) (I : Mem) (x1 : Int32) (x2 : Int32) (x3 : Int32) (x4 : Int32) (H : Heap) (locs : List Loc) (ls : Array Slot), HW G s H locs I → lv_has ls 5 [(0, .ref (G.2.1 45)), (1, .int x1), (2, .int x2), (3, .int x3), (4, .int x4)] → f_X10_holds_L5 p0 p1 n I x1 x2 x3 x4 = some (res, J) → W p l e { frames := 0, cells := 0, slots := 0, locals := 0 } s m args below meth c H locs 0 0 (MQ below (Qi9 G (b2i res) J s.heap.size) args s 0 0 (AA G s.heap.size)) (F0 m 5 ls []) := by
  intro n
  induction n with
  | zero => intro I x1 x2 x3 x4  H locs ls hH hl hf; exact absurd hf (by simp [f_X10_holds_L5])
  | succ n ih =>
    intro I x1 x2 x3 x4  H locs ls hH hl hf
    have hf : (if inb x1 (ln 51) = true then (if (I 51 x1.toNatClampNeg) ≤ x4 then (zraw x3 I) else (if x3 = 0 then (if inb (((600 : Int32) * x1) + x4) (ln 53) = true then (if (I 53 (((600 : Int32) * x1) + x4).toNatClampNeg) = x2 then (f_X10_holds_L5 p0 p1 n I x1 x2 (1 : Int32) (x4 + (1 : Int32))) else (f_X10_holds_L5 p0 p1 n I x1 x2 (0 : Int32) (x4 + (1 : Int32)))) else none) else (f_X10_holds_L5 p0 p1 n I x1 x2 (1 : Int32) (x4 + (1 : Int32))))) else none) = _ := hf
    refine lv_iload C.1 C.2.1 dX10_holds_5 (lv_at hl 4 rfl) ?_
    refine lv_aload_n C.1 C.2.1 dX10_holds_7 rfl (lv_at hl 0 rfl) ?_
    refine g_X10_14 C hH kk_45 tw_828 dX10_holds_8 ?_
    refine lv_iload_n C.1 C.2.1 dX10_holds_11 rfl (lv_at hl 1 rfl) ?_
    obtain ⟨q1, hf⟩ := itn hf
    refine x_iald C hH kk_51 q1 dX10_holds_12 ?_
    refine lv_icmp_ge (tgt := 49) C.1 C.2.1 dX10_holds_13 (by decide) (fun q5 => ?_) (fun q5 => ?_)
    · have hf := (if_pos q5).symm.trans hf
      refine lv_iload_n C.1 C.2.1 dX10_holds_49 rfl (lv_at hl 3 rfl) ?_
      obtain ⟨hz, rfl⟩ := zraw_eq hf
      exact x_zret C hr hH hz dX10_holds_50
    · have hf := (if_neg q5).symm.trans hf
      refine lv_iload_n C.1 C.2.1 dX10_holds_16 rfl (lv_at hl 3 rfl) ?_
      refine lv_if_ne (tgt := 37) C.1 C.2.1 dX10_holds_17 (by decide) (fun q4 => ?_) (fun q4 => ?_)
      · have hf := (if_neg q4).symm.trans hf
        refine lv_iconst (v := (1 : Int32)) C.1 C.2.1 dX10_holds_37 (by decide) ?_
        refine lv_goto (tgt := 42) C.1 C.2.1 dX10_holds_38 (by decide) ?_
        refine lv_istore_n (lv' := [(3, .int (1 : Int32)), (0, .ref (G.2.1 45)), (1, .int x1), (2, .int x2), (4, .int x4)]) C.1 C.2.1 dX10_holds_42 rfl hl (by decide) rfl (fun ls hl => ?_)
        refine lv_iinc (v := (x4 + (1 : Int32))) (lv' := [(4, .int (x4 + (1 : Int32))), (3, .int (1 : Int32)), (0, .ref (G.2.1 45)), (1, .int x1), (2, .int x2)]) C.1 C.2.1 dX10_holds_43 hl (k := 4) rfl rfl (by decide) rfl (fun ls hl => ?_)
        refine lv_goto (tgt := 5) C.1 C.2.1 dX10_holds_46 (by decide) ?_
        exact ih I x1 x2 (1 : Int32) (x4 + (1 : Int32))  _ _ _ hH (lv_sub hl [2, 3, 4, 1, 0] rfl) hf
      · have hf := (if_pos q4).symm.trans hf
        refine lv_aload_n C.1 C.2.1 dX10_holds_20 rfl (lv_at hl 0 rfl) ?_
        refine g_X10_16 C hH kk_45 tw_830 dX10_holds_21 ?_
        refine lv_sipush (v := (600 : Int32)) C.1 C.2.1 dX10_holds_24 (by decide) ?_
        refine lv_iload_n C.1 C.2.1 dX10_holds_27 rfl (lv_at hl 1 rfl) ?_
        refine lv_imul C.1 C.2.1 dX10_holds_28 ?_
        refine lv_iload C.1 C.2.1 dX10_holds_29 (lv_at hl 4 rfl) ?_
        refine lv_iadd C.1 C.2.1 dX10_holds_31 ?_
        obtain ⟨q2, hf⟩ := itn hf
        refine x_iald C hH kk_53 q2 dX10_holds_32 ?_
        refine lv_iload_n C.1 C.2.1 dX10_holds_33 rfl (lv_at hl 2 rfl) ?_
        refine lv_icmp_ne (tgt := 41) C.1 C.2.1 dX10_holds_34 (by decide) (fun q3 => ?_) (fun q3 => ?_)
        · have hf := (if_neg q3).symm.trans hf
          refine lv_iconst (v := (0 : Int32)) C.1 C.2.1 dX10_holds_41 (by decide) ?_
          refine lv_istore_n (lv' := [(3, .int (0 : Int32)), (0, .ref (G.2.1 45)), (1, .int x1), (2, .int x2), (4, .int x4)]) C.1 C.2.1 dX10_holds_42 rfl hl (by decide) rfl (fun ls hl => ?_)
          refine lv_iinc (v := (x4 + (1 : Int32))) (lv' := [(4, .int (x4 + (1 : Int32))), (3, .int (0 : Int32)), (0, .ref (G.2.1 45)), (1, .int x1), (2, .int x2)]) C.1 C.2.1 dX10_holds_43 hl (k := 4) rfl rfl (by decide) rfl (fun ls hl => ?_)
          refine lv_goto (tgt := 5) C.1 C.2.1 dX10_holds_46 (by decide) ?_
          exact ih I x1 x2 (0 : Int32) (x4 + (1 : Int32))  _ _ _ hH (lv_sub hl [2, 3, 4, 1, 0] rfl) hf
        · have hf := (if_pos q3).symm.trans hf
          refine lv_iconst (v := (1 : Int32)) C.1 C.2.1 dX10_holds_37 (by decide) ?_
          refine lv_goto (tgt := 42) C.1 C.2.1 dX10_holds_38 (by decide) ?_
          refine lv_istore_n (lv' := [(3, .int (1 : Int32)), (0, .ref (G.2.1 45)), (1, .int x1), (2, .int x2), (4, .int x4)]) C.1 C.2.1 dX10_holds_42 rfl hl (by decide) rfl (fun ls hl => ?_)
          refine lv_iinc (v := (x4 + (1 : Int32))) (lv' := [(4, .int (x4 + (1 : Int32))), (3, .int (1 : Int32)), (0, .ref (G.2.1 45)), (1, .int x1), (2, .int x2)]) C.1 C.2.1 dX10_holds_43 hl (k := 4) rfl rfl (by decide) rfl (fun ls hl => ?_)
          refine lv_goto (tgt := 5) C.1 C.2.1 dX10_holds_46 (by decide) ?_
          exact ih I x1 x2 (1 : Int32) (x4 + (1 : Int32))  _ _ _ hH (lv_sub hl [2, 3, 4, 1, 0] rfl) hf
def f_X10_holds (I : Mem) (p0 : Int32) (p1 : Int32) : Option (Bool × Mem) := f_X10_holds_L5 p0 p1 FU I p0 p1 (0 : Int32) (0 : Int32)
set_option maxHeartbeats 4000000 in
set_option maxRecDepth 100000 in
theorem c_X10_holds (l : Launch) (G : Gx) (I : Mem) (p0 : Int32) (p1 : Int32) {res : Bool} {J : Mem} (hf : f_X10_holds I p0 p1 = some (res, J)) : Mi l yX10_holds (.code yX10_holds cX10_holds 5 (some .boolean)) 0 0 G I [.ref (G.2.1 45), .int p0, .int p1] (b2i res) J := by
  refine Mi.of (by decide +kernel) (Nat.le_of_ble_eq_true rfl) (fun p e s m below meth c ls C hr hH hl => ?_)
  have hl : lv_has ls 5 [(0, .ref (G.2.1 45)), (1, .int p0), (2, .int p1)] := hl
  have hf : (f_X10_holds_L5 p0 p1 FU I p0 p1 (0 : Int32) (0 : Int32)) = _ := hf
  refine lv_iconst (v := (0 : Int32)) C.1 C.2.1 dX10_holds_0 (by decide) ?_
  refine lv_istore_n (lv' := [(3, .int (0 : Int32)), (0, .ref (G.2.1 45)), (1, .int p0), (2, .int p1)]) C.1 C.2.1 dX10_holds_1 rfl hl (by decide) rfl (fun ls hl => ?_)
  refine lv_iconst (v := (0 : Int32)) C.1 C.2.1 dX10_holds_2 (by decide) ?_
  refine lv_istore (lv' := [(4, .int (0 : Int32)), (3, .int (0 : Int32)), (0, .ref (G.2.1 45)), (1, .int p0), (2, .int p1)]) C.1 C.2.1 dX10_holds_3 hl (by decide) rfl (fun ls hl => ?_)
  exact w_X10_holds_L5 p0 p1 C hr FU I p0 p1 (0 : Int32) (0 : Int32) _ _ _ hH (lv_sub hl [2, 3, 4, 1, 0] rfl) hf
def f_X10_hold (I : Mem) (p0 : Int32) (p1 : Int32) : Option Mem := if inb p0 (ln 51) = true then (if inb (((600 : Int32) * p0) + (I 51 p0.toNatClampNeg)) (ln 53) = true then (if inb p0 (ln 51) = true then (if inb p0 (ln 51) = true then (some (st (st I 53 (((600 : Int32) * p0) + (I 51 p0.toNatClampNeg)).toNatClampNeg p1) 51 p0.toNatClampNeg (((st I 53 (((600 : Int32) * p0) + (I 51 p0.toNatClampNeg)).toNatClampNeg p1) 51 p0.toNatClampNeg) + (1 : Int32)))) else none) else none) else none) else none
set_option maxHeartbeats 4000000 in
set_option maxRecDepth 100000 in
theorem c_X10_hold (l : Launch) (G : Gx) (I : Mem) (p0 : Int32) (p1 : Int32) {J : Mem} (hf : f_X10_hold I p0 p1 = some J) : Mv l yX10_hold (.code yX10_hold cX10_hold 3 none) 0 0 G I [.ref (G.2.1 45), .int p0, .int p1] J := by
  refine Mv.of (by decide +kernel) (Nat.le_of_ble_eq_true rfl) (fun p e s m below meth c ls C hr hH hl => ?_)
  have hl : lv_has ls 3 [(0, .ref (G.2.1 45)), (1, .int p0), (2, .int p1)] := hl
  have hf : (if inb p0 (ln 51) = true then (if inb (((600 : Int32) * p0) + (I 51 p0.toNatClampNeg)) (ln 53) = true then (if inb p0 (ln 51) = true then (if inb p0 (ln 51) = true then (some (st (st I 53 (((600 : Int32) * p0) + (I 51 p0.toNatClampNeg)).toNatClampNeg p1) 51 p0.toNatClampNeg (((st I 53 (((600 : Int32) * p0) + (I 51 p0.toNatClampNeg)).toNatClampNeg p1) 51 p0.toNatClampNeg) + (1 : Int32)))) else none) else none) else none) else none) = _ := hf
  refine lv_aload_n C.1 C.2.1 dX10_hold_0 rfl (lv_at hl 0 rfl) ?_
  refine g_X10_16 C hH kk_45 tw_830 dX10_hold_1 ?_
  refine lv_sipush (v := (600 : Int32)) C.1 C.2.1 dX10_hold_4 (by decide) ?_
  refine lv_iload_n C.1 C.2.1 dX10_hold_7 rfl (lv_at hl 1 rfl) ?_
  refine lv_imul C.1 C.2.1 dX10_hold_8 ?_
  refine lv_aload_n C.1 C.2.1 dX10_hold_9 rfl (lv_at hl 0 rfl) ?_
  refine g_X10_14 C hH kk_45 tw_828 dX10_hold_10 ?_
  refine lv_iload_n C.1 C.2.1 dX10_hold_13 rfl (lv_at hl 1 rfl) ?_
  obtain ⟨q1, hf⟩ := itn hf
  refine x_iald C hH kk_51 q1 dX10_hold_14 ?_
  refine lv_iadd C.1 C.2.1 dX10_hold_15 ?_
  refine lv_iload_n C.1 C.2.1 dX10_hold_16 rfl (lv_at hl 2 rfl) ?_
  obtain ⟨q2, hf⟩ := itn hf
  refine x_iast C hH kk_53 q2 dX10_hold_17 (fun H locs hH => ?_)
  refine lv_aload_n C.1 C.2.1 dX10_hold_18 rfl (lv_at hl 0 rfl) ?_
  refine g_X10_14 C hH kk_45 tw_828 dX10_hold_19 ?_
  refine lv_iload_n C.1 C.2.1 dX10_hold_22 rfl (lv_at hl 1 rfl) ?_
  refine lv_dup2_11 C.1 C.2.1 dX10_hold_23 rfl rfl ?_
  obtain ⟨q3, hf⟩ := itn hf
  refine x_iald C hH kk_51 q3 dX10_hold_24 ?_
  refine lv_iconst (v := (1 : Int32)) C.1 C.2.1 dX10_hold_25 (by decide) ?_
  refine lv_iadd C.1 C.2.1 dX10_hold_26 ?_
  obtain ⟨q4, hf⟩ := itn hf
  refine x_iast C hH kk_51 q4 dX10_hold_27 (fun H locs hH => ?_)
  cases hf
  exact x_vret C hr hH dX10_hold_28
def f_X10_sortIn_L13 (p0 : Int32) (p1 : Int32)  : Nat → Mem → Int32 → Int32 → Int32 → Option Mem
  | 0, _, _, _, _ => none
  | n + 1, I, x1, x2, x3 => if x3 ≤ ((600 : Int32) * x1) then (if inb x3 (ln 53) = true then (if inb x1 (ln 51) = true then (if inb x1 (ln 51) = true then (some (st (st I 53 x3.toNatClampNeg x2) 51 x1.toNatClampNeg (((st I 53 x3.toNatClampNeg x2) 51 x1.toNatClampNeg) + (1 : Int32)))) else none) else none) else none) else (if inb (x3 - (1 : Int32)) (ln 53) = true then (if (I 53 (x3 - (1 : Int32)).toNatClampNeg) ≤ x2 then (if inb x3 (ln 53) = true then (if inb x1 (ln 51) = true then (if inb x1 (ln 51) = true then (some (st (st I 53 x3.toNatClampNeg x2) 51 x1.toNatClampNeg (((st I 53 x3.toNatClampNeg x2) 51 x1.toNatClampNeg) + (1 : Int32)))) else none) else none) else none) else (if inb (x3 - (1 : Int32)) (ln 53) = true then (if inb x3 (ln 53) = true then (f_X10_sortIn_L13 p0 p1 n (st I 53 x3.toNatClampNeg (I 53 (x3 - (1 : Int32)).toNatClampNeg)) x1 x2 (x3 + (-1 : Int32))) else none) else none)) else none)
set_option maxHeartbeats 4000000 in
set_option maxRecDepth 100000 in
theorem w_X10_sortIn_L13 {p : Program} {l : Launch} {e : Env} {s : State} {m : MethodId} {args : Array Value} {below : List Frame} {meth : Method} {c : Code} {G : Gx} (p0 : Int32) (p1 : Int32) {J : Mem} (C : CX p l s m args meth c cX10_sortIn 4 yX10_sortIn.cls G) (hr : meth.sig.returnType = none) :
    ∀ (n : Nat) (I : Mem) (x1 : Int32) (x2 : Int32) (x3 : Int32) (H : Heap) (locs : List Loc) (ls : Array Slot), HW G s H locs I → lv_has ls 4 [(0, .ref (G.2.1 45)), (1, .int x1), (2, .int x2), (3, .int x3)] → f_X10_sortIn_L13 p0 p1 n I x1 x2 x3 = some J → W p l e { frames := 0, cells := 0, slots := 0, locals := 0 } s m args below meth c H locs 0 0 (MQ below (Qv9 G J s.heap.size) args s 0 0 (AA G s.heap.size)) (F0 m 13 ls []) := by
  intro n
  induction n with
  | zero => intro I x1 x2 x3  H locs ls hH hl hf; exact absurd hf (by simp [f_X10_sortIn_L13])
  | succ n ih =>
    intro I x1 x2 x3  H locs ls hH hl hf
    have hf : (if x3 ≤ ((600 : Int32) * x1) then (if inb x3 (ln 53) = true then (if inb x1 (ln 51) = true then (if inb x1 (ln 51) = true then (some (st (st I 53 x3.toNatClampNeg x2) 51 x1.toNatClampNeg (((st I 53 x3.toNatClampNeg x2) 51 x1.toNatClampNeg) + (1 : Int32)))) else none) else none) else none) else (if inb (x3 - (1 : Int32)) (ln 53) = true then (if (I 53 (x3 - (1 : Int32)).toNatClampNeg) ≤ x2 then (if inb x3 (ln 53) = true then (if inb x1 (ln 51) = true then (if inb x1 (ln 51) = true then (some (st (st I 53 x3.toNatClampNeg x2) 51 x1.toNatClampNeg (((st I 53 x3.toNatClampNeg x2) 51 x1.toNatClampNeg) + (1 : Int32)))) else none) else none) else none) else (if inb (x3 - (1 : Int32)) (ln 53) = true then (if inb x3 (ln 53) = true then (f_X10_sortIn_L13 p0 p1 n (st I 53 x3.toNatClampNeg (I 53 (x3 - (1 : Int32)).toNatClampNeg)) x1 x2 (x3 + (-1 : Int32))) else none) else none)) else none)) = _ := hf
    refine lv_iload_n C.1 C.2.1 dX10_sortIn_13 rfl (lv_at hl 3 rfl) ?_
    refine lv_sipush (v := (600 : Int32)) C.1 C.2.1 dX10_sortIn_14 (by decide) ?_
    refine lv_iload_n C.1 C.2.1 dX10_sortIn_17 rfl (lv_at hl 1 rfl) ?_
    refine lv_imul C.1 C.2.1 dX10_sortIn_18 ?_
    refine lv_icmp_le (tgt := 54) C.1 C.2.1 dX10_sortIn_19 (by decide) (fun q12 => ?_) (fun q12 => ?_)
    · have hf := (if_pos q12).symm.trans hf
      refine lv_aload_n C.1 C.2.1 dX10_sortIn_54 rfl (lv_at hl 0 rfl) ?_
      refine g_X10_16 C hH kk_45 tw_830 dX10_sortIn_55 ?_
      refine lv_iload_n C.1 C.2.1 dX10_sortIn_58 rfl (lv_at hl 3 rfl) ?_
      refine lv_iload_n C.1 C.2.1 dX10_sortIn_59 rfl (lv_at hl 2 rfl) ?_
      obtain ⟨q2, hf⟩ := itn hf
      refine x_iast C hH kk_53 q2 dX10_sortIn_60 (fun H locs hH => ?_)
      refine lv_aload_n C.1 C.2.1 dX10_sortIn_61 rfl (lv_at hl 0 rfl) ?_
      refine g_X10_14 C hH kk_45 tw_828 dX10_sortIn_62 ?_
      refine lv_iload_n C.1 C.2.1 dX10_sortIn_65 rfl (lv_at hl 1 rfl) ?_
      refine lv_dup2_11 C.1 C.2.1 dX10_sortIn_66 rfl rfl ?_
      obtain ⟨q3, hf⟩ := itn hf
      refine x_iald C hH kk_51 q3 dX10_sortIn_67 ?_
      refine lv_iconst (v := (1 : Int32)) C.1 C.2.1 dX10_sortIn_68 (by decide) ?_
      refine lv_iadd C.1 C.2.1 dX10_sortIn_69 ?_
      obtain ⟨q4, hf⟩ := itn hf
      refine x_iast C hH kk_51 q4 dX10_sortIn_70 (fun H locs hH => ?_)
      cases hf
      exact x_vret C hr hH dX10_sortIn_71
    · have hf := (if_neg q12).symm.trans hf
      refine lv_aload_n C.1 C.2.1 dX10_sortIn_22 rfl (lv_at hl 0 rfl) ?_
      refine g_X10_16 C hH kk_45 tw_830 dX10_sortIn_23 ?_
      refine lv_iload_n C.1 C.2.1 dX10_sortIn_26 rfl (lv_at hl 3 rfl) ?_
      refine lv_iconst (v := (1 : Int32)) C.1 C.2.1 dX10_sortIn_27 (by decide) ?_
      refine lv_isub C.1 C.2.1 dX10_sortIn_28 ?_
      obtain ⟨q5, hf⟩ := itn hf
      refine x_iald C hH kk_53 q5 dX10_sortIn_29 ?_
      refine lv_iload_n C.1 C.2.1 dX10_sortIn_30 rfl (lv_at hl 2 rfl) ?_
      refine lv_icmp_le (tgt := 54) C.1 C.2.1 dX10_sortIn_31 (by decide) (fun q11 => ?_) (fun q11 => ?_)
      · have hf := (if_pos q11).symm.trans hf
        refine lv_aload_n C.1 C.2.1 dX10_sortIn_54 rfl (lv_at hl 0 rfl) ?_
        refine g_X10_16 C hH kk_45 tw_830 dX10_sortIn_55 ?_
        refine lv_iload_n C.1 C.2.1 dX10_sortIn_58 rfl (lv_at hl 3 rfl) ?_
        refine lv_iload_n C.1 C.2.1 dX10_sortIn_59 rfl (lv_at hl 2 rfl) ?_
        obtain ⟨q6, hf⟩ := itn hf
        refine x_iast C hH kk_53 q6 dX10_sortIn_60 (fun H locs hH => ?_)
        refine lv_aload_n C.1 C.2.1 dX10_sortIn_61 rfl (lv_at hl 0 rfl) ?_
        refine g_X10_14 C hH kk_45 tw_828 dX10_sortIn_62 ?_
        refine lv_iload_n C.1 C.2.1 dX10_sortIn_65 rfl (lv_at hl 1 rfl) ?_
        refine lv_dup2_11 C.1 C.2.1 dX10_sortIn_66 rfl rfl ?_
        obtain ⟨q7, hf⟩ := itn hf
        refine x_iald C hH kk_51 q7 dX10_sortIn_67 ?_
        refine lv_iconst (v := (1 : Int32)) C.1 C.2.1 dX10_sortIn_68 (by decide) ?_
        refine lv_iadd C.1 C.2.1 dX10_sortIn_69 ?_
        obtain ⟨q8, hf⟩ := itn hf
        refine x_iast C hH kk_51 q8 dX10_sortIn_70 (fun H locs hH => ?_)
        cases hf
        exact x_vret C hr hH dX10_sortIn_71
      · have hf := (if_neg q11).symm.trans hf
        refine lv_aload_n C.1 C.2.1 dX10_sortIn_34 rfl (lv_at hl 0 rfl) ?_
        refine g_X10_16 C hH kk_45 tw_830 dX10_sortIn_35 ?_
        refine lv_iload_n C.1 C.2.1 dX10_sortIn_38 rfl (lv_at hl 3 rfl) ?_
        refine lv_aload_n C.1 C.2.1 dX10_sortIn_39 rfl (lv_at hl 0 rfl) ?_
        refine g_X10_16 C hH kk_45 tw_830 dX10_sortIn_40 ?_
        refine lv_iload_n C.1 C.2.1 dX10_sortIn_43 rfl (lv_at hl 3 rfl) ?_
        refine lv_iconst (v := (1 : Int32)) C.1 C.2.1 dX10_sortIn_44 (by decide) ?_
        refine lv_isub C.1 C.2.1 dX10_sortIn_45 ?_
        obtain ⟨q9, hf⟩ := itn hf
        refine x_iald C hH kk_53 q9 dX10_sortIn_46 ?_
        obtain ⟨q10, hf⟩ := itn hf
        refine x_iast C hH kk_53 q10 dX10_sortIn_47 (fun H locs hH => ?_)
        refine lv_iinc (v := (x3 + (-1 : Int32))) (lv' := [(3, .int (x3 + (-1 : Int32))), (0, .ref (G.2.1 45)), (1, .int x1), (2, .int x2)]) C.1 C.2.1 dX10_sortIn_48 hl (k := 3) rfl rfl (by decide) rfl (fun ls hl => ?_)
        refine lv_goto (tgt := 13) C.1 C.2.1 dX10_sortIn_51 (by decide) ?_
        exact ih (st I 53 x3.toNatClampNeg (I 53 (x3 - (1 : Int32)).toNatClampNeg)) x1 x2 (x3 + (-1 : Int32))  _ _ _ hH (lv_sub hl [1, 2, 3, 0] rfl) hf
def f_X10_sortIn (I : Mem) (p0 : Int32) (p1 : Int32) : Option Mem := if inb p0 (ln 51) = true then (f_X10_sortIn_L13 p0 p1 FU I p0 p1 (((600 : Int32) * p0) + (I 51 p0.toNatClampNeg))) else none
set_option maxHeartbeats 4000000 in
set_option maxRecDepth 100000 in
theorem c_X10_sortIn (l : Launch) (G : Gx) (I : Mem) (p0 : Int32) (p1 : Int32) {J : Mem} (hf : f_X10_sortIn I p0 p1 = some J) : Mv l yX10_sortIn (.code yX10_sortIn cX10_sortIn 4 none) 0 0 G I [.ref (G.2.1 45), .int p0, .int p1] J := by
  refine Mv.of (by decide +kernel) (Nat.le_of_ble_eq_true rfl) (fun p e s m below meth c ls C hr hH hl => ?_)
  have hl : lv_has ls 4 [(0, .ref (G.2.1 45)), (1, .int p0), (2, .int p1)] := hl
  have hf : (if inb p0 (ln 51) = true then (f_X10_sortIn_L13 p0 p1 FU I p0 p1 (((600 : Int32) * p0) + (I 51 p0.toNatClampNeg))) else none) = _ := hf
  refine lv_sipush (v := (600 : Int32)) C.1 C.2.1 dX10_sortIn_0 (by decide) ?_
  refine lv_iload_n C.1 C.2.1 dX10_sortIn_3 rfl (lv_at hl 1 rfl) ?_
  refine lv_imul C.1 C.2.1 dX10_sortIn_4 ?_
  refine lv_aload_n C.1 C.2.1 dX10_sortIn_5 rfl (lv_at hl 0 rfl) ?_
  refine g_X10_14 C hH kk_45 tw_828 dX10_sortIn_6 ?_
  refine lv_iload_n C.1 C.2.1 dX10_sortIn_9 rfl (lv_at hl 1 rfl) ?_
  obtain ⟨q1, hf⟩ := itn hf
  refine x_iald C hH kk_51 q1 dX10_sortIn_10 ?_
  refine lv_iadd C.1 C.2.1 dX10_sortIn_11 ?_
  refine lv_istore_n (lv' := [(3, .int (((600 : Int32) * p0) + (I 51 p0.toNatClampNeg))), (0, .ref (G.2.1 45)), (1, .int p0), (2, .int p1)]) C.1 C.2.1 dX10_sortIn_12 rfl hl (by decide) rfl (fun ls hl => ?_)
  exact w_X10_sortIn_L13 p0 p1 C hr FU I p0 p1 (((600 : Int32) * p0) + (I 51 p0.toNatClampNeg)) _ _ _ hH (lv_sub hl [1, 2, 3, 0] rfl) hf
def f_X10_lets (I : Mem) (p0 : Int32) (p1 : Int32) : Option (Bool × Mem) := if inb p0 (ln 48) = true then (if inb p0 (ln 49) = true then ((f_X10_passes I p1 (I 48 p0.toNatClampNeg) (I 49 p0.toNatClampNeg)).bind fun q3 => (if inb p0 (ln 47) = true then (if (q3.2 47 p0.toNatClampNeg) = (1 : Int32) then (some (q3.1, q3.2)) else (if (q3.2 47 p0.toNatClampNeg) = (3 : Int32) then ((f_X10_holds q3.2 p0 p1).bind fun q6 => (if (b2i q6.1) = 0 then ((f_X10_hold q6.2 p0 p1).bind fun q7 => (some (true, q7))) else (some (false, q6.2)))) else (if (q3.2 47 p0.toNatClampNeg) = (5 : Int32) then (if inb p0 (ln 51) = true then (if inb p0 (ln 51) = true then (if inb p0 (ln 51) = true then (if inb p0 (ln 49) = true then (if ((st q3.2 51 p0.toNatClampNeg ((q3.2 51 p0.toNatClampNeg) + (1 : Int32))) 49 p0.toNatClampNeg) < ((st q3.2 51 p0.toNatClampNeg ((q3.2 51 p0.toNatClampNeg) + (1 : Int32))) 51 p0.toNatClampNeg) then (some (false, (st q3.2 51 p0.toNatClampNeg ((q3.2 51 p0.toNatClampNeg) + (1 : Int32))))) else (some (true, (st q3.2 51 p0.toNatClampNeg ((q3.2 51 p0.toNatClampNeg) + (1 : Int32)))))) else none) else none) else none) else none) else (if (q3.2 47 p0.toNatClampNeg) = (6 : Int32) then (if inb p0 (ln 51) = true then (if inb p0 (ln 51) = true then (if inb p0 (ln 51) = true then (if inb p0 (ln 49) = true then (if ((st q3.2 51 p0.toNatClampNeg ((q3.2 51 p0.toNatClampNeg) + (1 : Int32))) 51 p0.toNatClampNeg) ≤ ((st q3.2 51 p0.toNatClampNeg ((q3.2 51 p0.toNatClampNeg) + (1 : Int32))) 49 p0.toNatClampNeg) then (some (false, (st q3.2 51 p0.toNatClampNeg ((q3.2 51 p0.toNatClampNeg) + (1 : Int32))))) else (some (true, (st q3.2 51 p0.toNatClampNeg ((q3.2 51 p0.toNatClampNeg) + (1 : Int32)))))) else none) else none) else none) else none) else (if (q3.2 47 p0.toNatClampNeg) = (8 : Int32) then (if inb p0 (ln 52) = true then (if (q3.2 52 p0.toNatClampNeg) = 0 then (if (b2i q3.1) = 0 then (if inb p0 (ln 52) = true then (if inb p0 (ln 52) = true then (if ((st q3.2 52 p0.toNatClampNeg (vp_nar .boolean (1 : Int32))) 52 p0.toNatClampNeg) = 0 then (some (true, (st q3.2 52 p0.toNatClampNeg (vp_nar .boolean (1 : Int32))))) else (some (false, (st q3.2 52 p0.toNatClampNeg (vp_nar .boolean (1 : Int32)))))) else none) else none) else (if inb p0 (ln 52) = true then (if inb p0 (ln 52) = true then (if ((st q3.2 52 p0.toNatClampNeg (vp_nar .boolean (0 : Int32))) 52 p0.toNatClampNeg) = 0 then (some (true, (st q3.2 52 p0.toNatClampNeg (vp_nar .boolean (0 : Int32))))) else (some (false, (st q3.2 52 p0.toNatClampNeg (vp_nar .boolean (0 : Int32)))))) else none) else none)) else (if inb p0 (ln 52) = true then (if inb p0 (ln 52) = true then (if ((st q3.2 52 p0.toNatClampNeg (vp_nar .boolean (1 : Int32))) 52 p0.toNatClampNeg) = 0 then (some (true, (st q3.2 52 p0.toNatClampNeg (vp_nar .boolean (1 : Int32))))) else (some (false, (st q3.2 52 p0.toNatClampNeg (vp_nar .boolean (1 : Int32)))))) else none) else none)) else none) else (if (q3.2 47 p0.toNatClampNeg) = (9 : Int32) then (if inb p0 (ln 52) = true then (if (q3.2 52 p0.toNatClampNeg) = 0 then (if (b2i q3.1) = 0 then (if inb p0 (ln 52) = true then (if inb p0 (ln 52) = true then (zraw ((st q3.2 52 p0.toNatClampNeg (vp_nar .boolean (1 : Int32))) 52 p0.toNatClampNeg) (st q3.2 52 p0.toNatClampNeg (vp_nar .boolean (1 : Int32)))) else none) else none) else (if inb p0 (ln 52) = true then (if inb p0 (ln 52) = true then (zraw ((st q3.2 52 p0.toNatClampNeg (vp_nar .boolean (0 : Int32))) 52 p0.toNatClampNeg) (st q3.2 52 p0.toNatClampNeg (vp_nar .boolean (0 : Int32)))) else none) else none)) else (if inb p0 (ln 52) = true then (if inb p0 (ln 52) = true then (zraw ((st q3.2 52 p0.toNatClampNeg (vp_nar .boolean (1 : Int32))) 52 p0.toNatClampNeg) (st q3.2 52 p0.toNatClampNeg (vp_nar .boolean (1 : Int32)))) else none) else none)) else none) else (some (true, q3.2)))))))) else none)) else none) else none
set_option maxHeartbeats 4000000 in
set_option maxRecDepth 100000 in
theorem c_X10_lets (l : Launch) (G : Gx) (I : Mem) (p0 : Int32) (p1 : Int32) {res : Bool} {J : Mem} (hf : f_X10_lets I p0 p1 = some (res, J)) : Mi l yX10_lets (.code yX10_lets cX10_lets 4 (some .boolean)) 1 24 G I [.ref (G.2.1 45), .int p0, .int p1] (b2i res) J := by
  refine Mi.of (by decide +kernel) (Nat.le_of_ble_eq_true rfl) (fun p e s m below meth c ls C hr hH hl => ?_)
  have hl : lv_has ls 4 [(0, .ref (G.2.1 45)), (1, .int p0), (2, .int p1)] := hl
  have hf : (if inb p0 (ln 48) = true then (if inb p0 (ln 49) = true then ((f_X10_passes I p1 (I 48 p0.toNatClampNeg) (I 49 p0.toNatClampNeg)).bind fun q3 => (if inb p0 (ln 47) = true then (if (q3.2 47 p0.toNatClampNeg) = (1 : Int32) then (some (q3.1, q3.2)) else (if (q3.2 47 p0.toNatClampNeg) = (3 : Int32) then ((f_X10_holds q3.2 p0 p1).bind fun q6 => (if (b2i q6.1) = 0 then ((f_X10_hold q6.2 p0 p1).bind fun q7 => (some (true, q7))) else (some (false, q6.2)))) else (if (q3.2 47 p0.toNatClampNeg) = (5 : Int32) then (if inb p0 (ln 51) = true then (if inb p0 (ln 51) = true then (if inb p0 (ln 51) = true then (if inb p0 (ln 49) = true then (if ((st q3.2 51 p0.toNatClampNeg ((q3.2 51 p0.toNatClampNeg) + (1 : Int32))) 49 p0.toNatClampNeg) < ((st q3.2 51 p0.toNatClampNeg ((q3.2 51 p0.toNatClampNeg) + (1 : Int32))) 51 p0.toNatClampNeg) then (some (false, (st q3.2 51 p0.toNatClampNeg ((q3.2 51 p0.toNatClampNeg) + (1 : Int32))))) else (some (true, (st q3.2 51 p0.toNatClampNeg ((q3.2 51 p0.toNatClampNeg) + (1 : Int32)))))) else none) else none) else none) else none) else (if (q3.2 47 p0.toNatClampNeg) = (6 : Int32) then (if inb p0 (ln 51) = true then (if inb p0 (ln 51) = true then (if inb p0 (ln 51) = true then (if inb p0 (ln 49) = true then (if ((st q3.2 51 p0.toNatClampNeg ((q3.2 51 p0.toNatClampNeg) + (1 : Int32))) 51 p0.toNatClampNeg) ≤ ((st q3.2 51 p0.toNatClampNeg ((q3.2 51 p0.toNatClampNeg) + (1 : Int32))) 49 p0.toNatClampNeg) then (some (false, (st q3.2 51 p0.toNatClampNeg ((q3.2 51 p0.toNatClampNeg) + (1 : Int32))))) else (some (true, (st q3.2 51 p0.toNatClampNeg ((q3.2 51 p0.toNatClampNeg) + (1 : Int32)))))) else none) else none) else none) else none) else (if (q3.2 47 p0.toNatClampNeg) = (8 : Int32) then (if inb p0 (ln 52) = true then (if (q3.2 52 p0.toNatClampNeg) = 0 then (if (b2i q3.1) = 0 then (if inb p0 (ln 52) = true then (if inb p0 (ln 52) = true then (if ((st q3.2 52 p0.toNatClampNeg (vp_nar .boolean (1 : Int32))) 52 p0.toNatClampNeg) = 0 then (some (true, (st q3.2 52 p0.toNatClampNeg (vp_nar .boolean (1 : Int32))))) else (some (false, (st q3.2 52 p0.toNatClampNeg (vp_nar .boolean (1 : Int32)))))) else none) else none) else (if inb p0 (ln 52) = true then (if inb p0 (ln 52) = true then (if ((st q3.2 52 p0.toNatClampNeg (vp_nar .boolean (0 : Int32))) 52 p0.toNatClampNeg) = 0 then (some (true, (st q3.2 52 p0.toNatClampNeg (vp_nar .boolean (0 : Int32))))) else (some (false, (st q3.2 52 p0.toNatClampNeg (vp_nar .boolean (0 : Int32)))))) else none) else none)) else (if inb p0 (ln 52) = true then (if inb p0 (ln 52) = true then (if ((st q3.2 52 p0.toNatClampNeg (vp_nar .boolean (1 : Int32))) 52 p0.toNatClampNeg) = 0 then (some (true, (st q3.2 52 p0.toNatClampNeg (vp_nar .boolean (1 : Int32))))) else (some (false, (st q3.2 52 p0.toNatClampNeg (vp_nar .boolean (1 : Int32)))))) else none) else none)) else none) else (if (q3.2 47 p0.toNatClampNeg) = (9 : Int32) then (if inb p0 (ln 52) = true then (if (q3.2 52 p0.toNatClampNeg) = 0 then (if (b2i q3.1) = 0 then (if inb p0 (ln 52) = true then (if inb p0 (ln 52) = true then (zraw ((st q3.2 52 p0.toNatClampNeg (vp_nar .boolean (1 : Int32))) 52 p0.toNatClampNeg) (st q3.2 52 p0.toNatClampNeg (vp_nar .boolean (1 : Int32)))) else none) else none) else (if inb p0 (ln 52) = true then (if inb p0 (ln 52) = true then (zraw ((st q3.2 52 p0.toNatClampNeg (vp_nar .boolean (0 : Int32))) 52 p0.toNatClampNeg) (st q3.2 52 p0.toNatClampNeg (vp_nar .boolean (0 : Int32)))) else none) else none)) else (if inb p0 (ln 52) = true then (if inb p0 (ln 52) = true then (zraw ((st q3.2 52 p0.toNatClampNeg (vp_nar .boolean (1 : Int32))) 52 p0.toNatClampNeg) (st q3.2 52 p0.toNatClampNeg (vp_nar .boolean (1 : Int32)))) else none) else none)) else none) else (some (true, q3.2)))))))) else none)) else none) else none) = _ := hf
  refine lv_iload_n C.1 C.2.1 dX10_lets_0 rfl (lv_at hl 2 rfl) ?_
  refine lv_aload_n C.1 C.2.1 dX10_lets_1 rfl (lv_at hl 0 rfl) ?_
  refine g_X10_11 C hH kk_45 tw_825 dX10_lets_2 ?_
  refine lv_iload_n C.1 C.2.1 dX10_lets_5 rfl (lv_at hl 1 rfl) ?_
  obtain ⟨q1, hf⟩ := itn hf
  refine x_iald C hH kk_48 q1 dX10_lets_6 ?_
  refine lv_aload_n C.1 C.2.1 dX10_lets_7 rfl (lv_at hl 0 rfl) ?_
  refine g_X10_12 C hH kk_45 tw_826 dX10_lets_8 ?_
  refine lv_iload_n C.1 C.2.1 dX10_lets_11 rfl (lv_at hl 1 rfl) ?_
  obtain ⟨q2, hf⟩ := itn hf
  refine x_iald C hH kk_49 q2 dX10_lets_12 ?_
  obtain ⟨q3, hc, hf⟩ := Option.bind_eq_some_iff.mp hf
  refine x_si (n := 3) C hH (c_X10_passes l G I p1 (I 48 p0.toNatClampNeg) (I 49 p0.toNatClampNeg) hc) tw_1021 tw_1019 tw_1020 tw_57 (by decide +kernel) ⟨Nat.le_of_ble_eq_true rfl, Nat.le_of_ble_eq_true rfl⟩ rfl hl.1 rfl (Nat.le_of_ble_eq_true rfl) ⟨Nat.le_of_ble_eq_true rfl, Nat.le_of_ble_eq_true rfl⟩ dX10_lets_13 (fun H locs hH => ?_)
  refine lv_istore_n (lv' := [(3, .int (b2i q3.1)), (0, .ref (G.2.1 45)), (1, .int p0), (2, .int p1)]) C.1 C.2.1 dX10_lets_16 rfl hl (by decide) rfl (fun ls hl => ?_)
  refine lv_aload_n C.1 C.2.1 dX10_lets_17 rfl (lv_at hl 1 rfl) ?_
  refine g_X10_10 C hH kk_45 tw_824 dX10_lets_18 ?_
  refine lv_iload_n C.1 C.2.1 dX10_lets_21 rfl (lv_at hl 2 rfl) ?_
  obtain ⟨q4, hf⟩ := itn hf
  refine x_iald C hH kk_47 q4 dX10_lets_22 ?_
  by_cases q5 : (q3.2 47 p0.toNatClampNeg) = (1 : Int32)
  · have hf := (if_pos q5).symm.trans hf
    refine lv_tableIn (tgt := 72) (off := 49) C.1 C.2.1 dX10_lets_23 (by rw [q5]; decide) (by rw [q5]; decide) (by rw [q5]; decide) (by decide) ?_
    refine lv_iload_n C.1 C.2.1 dX10_lets_72 rfl (lv_at hl 0 rfl) ?_
    cases hf
    exact x_zret C hr hH rfl dX10_lets_73
  · have hf := (if_neg q5).symm.trans hf
    by_cases q9 : (q3.2 47 p0.toNatClampNeg) = (3 : Int32)
    · have hf := (if_pos q9).symm.trans hf
      refine lv_tableIn (tgt := 74) (off := 51) C.1 C.2.1 dX10_lets_23 (by rw [q9]; decide) (by rw [q9]; decide) (by rw [q9]; decide) (by decide) ?_
      refine lv_aload_n C.1 C.2.1 dX10_lets_74 rfl (lv_at hl 1 rfl) ?_
      refine lv_iload_n C.1 C.2.1 dX10_lets_75 rfl (lv_at hl 2 rfl) ?_
      refine lv_iload_n C.1 C.2.1 dX10_lets_76 rfl (lv_at hl 3 rfl) ?_
      obtain ⟨q6, hc, hf⟩ := Option.bind_eq_some_iff.mp hf
      refine x_ci (n := 2) C hH (c_X10_holds l G q3.2 p0 p1 hc) (kd_lt kk_45 (by decide)) (cE_10 kk_45) rfl tw_1025 tw_1022 tw_1024 tw_33 tw_57 (by decide +kernel) ⟨Nat.le_of_ble_eq_true rfl, Nat.le_of_ble_eq_true rfl⟩ rfl hl.1 rfl (Nat.le_of_ble_eq_true rfl) ⟨Nat.le_of_ble_eq_true rfl, Nat.le_of_ble_eq_true rfl⟩ dX10_lets_77 (fun H locs hH => ?_)
      refine lv_if_eq (tgt := 85) C.1 C.2.1 dX10_lets_80 (by decide) (fun q8 => ?_) (fun q8 => ?_)
      · have hf := (if_pos q8).symm.trans hf
        refine lv_aload_n C.1 C.2.1 dX10_lets_85 rfl (lv_at hl 1 rfl) ?_
        refine lv_iload_n C.1 C.2.1 dX10_lets_86 rfl (lv_at hl 2 rfl) ?_
        refine lv_iload_n C.1 C.2.1 dX10_lets_87 rfl (lv_at hl 3 rfl) ?_
        obtain ⟨q7, hc, hf⟩ := Option.bind_eq_some_iff.mp hf
        refine x_cv (n := 2) C hH (c_X10_hold l G q6.2 p0 p1 hc) (kd_lt kk_45 (by decide)) (cE_10 kk_45) rfl tw_1029 tw_1026 tw_1028 tw_34 tw_57 (by decide +kernel) ⟨Nat.le_of_ble_eq_true rfl, Nat.le_of_ble_eq_true rfl⟩ rfl hl.1 rfl (Nat.le_of_ble_eq_true rfl) ⟨Nat.le_of_ble_eq_true rfl, Nat.le_of_ble_eq_true rfl⟩ dX10_lets_88 (fun H locs hH => ?_)
        refine lv_iconst (v := (1 : Int32)) C.1 C.2.1 dX10_lets_91 (by decide) ?_
        cases hf
        exact x_zret C hr hH rfl dX10_lets_92
      · have hf := (if_neg q8).symm.trans hf
        refine lv_iconst (v := (0 : Int32)) C.1 C.2.1 dX10_lets_83 (by decide) ?_
        cases hf
        exact x_zret C hr hH rfl dX10_lets_84
    · have hf := (if_neg q9).symm.trans hf
      by_cases q15 : (q3.2 47 p0.toNatClampNeg) = (5 : Int32)
      · have hf := (if_pos q15).symm.trans hf
        refine lv_tableIn (tgt := 93) (off := 70) C.1 C.2.1 dX10_lets_23 (by rw [q15]; decide) (by rw [q15]; decide) (by rw [q15]; decide) (by decide) ?_
        refine lv_aload_n C.1 C.2.1 dX10_lets_93 rfl (lv_at hl 1 rfl) ?_
        refine g_X10_14 C hH kk_45 tw_828 dX10_lets_94 ?_
        refine lv_iload_n C.1 C.2.1 dX10_lets_97 rfl (lv_at hl 2 rfl) ?_
        refine lv_dup2_11 C.1 C.2.1 dX10_lets_98 rfl rfl ?_
        obtain ⟨q10, hf⟩ := itn hf
        refine x_iald C hH kk_51 q10 dX10_lets_99 ?_
        refine lv_iconst (v := (1 : Int32)) C.1 C.2.1 dX10_lets_100 (by decide) ?_
        refine lv_iadd C.1 C.2.1 dX10_lets_101 ?_
        obtain ⟨q11, hf⟩ := itn hf
        refine x_iast C hH kk_51 q11 dX10_lets_102 (fun H locs hH => ?_)
        refine lv_aload_n C.1 C.2.1 dX10_lets_103 rfl (lv_at hl 1 rfl) ?_
        refine g_X10_14 C hH kk_45 tw_828 dX10_lets_104 ?_
        refine lv_iload_n C.1 C.2.1 dX10_lets_107 rfl (lv_at hl 2 rfl) ?_
        obtain ⟨q12, hf⟩ := itn hf
        refine x_iald C hH kk_51 q12 dX10_lets_108 ?_
        refine lv_aload_n C.1 C.2.1 dX10_lets_109 rfl (lv_at hl 1 rfl) ?_
        refine g_X10_12 C hH kk_45 tw_826 dX10_lets_110 ?_
        refine lv_iload_n C.1 C.2.1 dX10_lets_113 rfl (lv_at hl 2 rfl) ?_
        obtain ⟨q13, hf⟩ := itn hf
        refine x_iald C hH kk_49 q13 dX10_lets_114 ?_
        refine lv_icmp_gt (tgt := 122) C.1 C.2.1 dX10_lets_115 (by decide) (fun q14 => ?_) (fun q14 => ?_)
        · have hf := (if_pos q14).symm.trans hf
          refine lv_iconst (v := (0 : Int32)) C.1 C.2.1 dX10_lets_122 (by decide) ?_
          cases hf
          exact x_zret C hr hH rfl dX10_lets_123
        · have hf := (if_neg q14).symm.trans hf
          refine lv_iconst (v := (1 : Int32)) C.1 C.2.1 dX10_lets_118 (by decide) ?_
          refine lv_goto (tgt := 123) C.1 C.2.1 dX10_lets_119 (by decide) ?_
          cases hf
          exact x_zret C hr hH rfl dX10_lets_123
      · have hf := (if_neg q15).symm.trans hf
        by_cases q21 : (q3.2 47 p0.toNatClampNeg) = (6 : Int32)
        · have hf := (if_pos q21).symm.trans hf
          refine lv_tableIn (tgt := 124) (off := 101) C.1 C.2.1 dX10_lets_23 (by rw [q21]; decide) (by rw [q21]; decide) (by rw [q21]; decide) (by decide) ?_
          refine lv_aload_n C.1 C.2.1 dX10_lets_124 rfl (lv_at hl 1 rfl) ?_
          refine g_X10_14 C hH kk_45 tw_828 dX10_lets_125 ?_
          refine lv_iload_n C.1 C.2.1 dX10_lets_128 rfl (lv_at hl 2 rfl) ?_
          refine lv_dup2_11 C.1 C.2.1 dX10_lets_129 rfl rfl ?_
          obtain ⟨q16, hf⟩ := itn hf
          refine x_iald C hH kk_51 q16 dX10_lets_130 ?_
          refine lv_iconst (v := (1 : Int32)) C.1 C.2.1 dX10_lets_131 (by decide) ?_
          refine lv_iadd C.1 C.2.1 dX10_lets_132 ?_
          obtain ⟨q17, hf⟩ := itn hf
          refine x_iast C hH kk_51 q17 dX10_lets_133 (fun H locs hH => ?_)
          refine lv_aload_n C.1 C.2.1 dX10_lets_134 rfl (lv_at hl 1 rfl) ?_
          refine g_X10_14 C hH kk_45 tw_828 dX10_lets_135 ?_
          refine lv_iload_n C.1 C.2.1 dX10_lets_138 rfl (lv_at hl 2 rfl) ?_
          obtain ⟨q18, hf⟩ := itn hf
          refine x_iald C hH kk_51 q18 dX10_lets_139 ?_
          refine lv_aload_n C.1 C.2.1 dX10_lets_140 rfl (lv_at hl 1 rfl) ?_
          refine g_X10_12 C hH kk_45 tw_826 dX10_lets_141 ?_
          refine lv_iload_n C.1 C.2.1 dX10_lets_144 rfl (lv_at hl 2 rfl) ?_
          obtain ⟨q19, hf⟩ := itn hf
          refine x_iald C hH kk_49 q19 dX10_lets_145 ?_
          refine lv_icmp_le (tgt := 153) C.1 C.2.1 dX10_lets_146 (by decide) (fun q20 => ?_) (fun q20 => ?_)
          · have hf := (if_pos q20).symm.trans hf
            refine lv_iconst (v := (0 : Int32)) C.1 C.2.1 dX10_lets_153 (by decide) ?_
            cases hf
            exact x_zret C hr hH rfl dX10_lets_154
          · have hf := (if_neg q20).symm.trans hf
            refine lv_iconst (v := (1 : Int32)) C.1 C.2.1 dX10_lets_149 (by decide) ?_
            refine lv_goto (tgt := 154) C.1 C.2.1 dX10_lets_150 (by decide) ?_
            cases hf
            exact x_zret C hr hH rfl dX10_lets_154
        · have hf := (if_neg q21).symm.trans hf
          by_cases q34 : (q3.2 47 p0.toNatClampNeg) = (8 : Int32)
          · have hf := (if_pos q34).symm.trans hf
            refine lv_tableIn (tgt := 155) (off := 132) C.1 C.2.1 dX10_lets_23 (by rw [q34]; decide) (by rw [q34]; decide) (by rw [q34]; decide) (by decide) ?_
            refine lv_aload_n C.1 C.2.1 dX10_lets_155 rfl (lv_at hl 1 rfl) ?_
            refine g_X10_15 C hH kk_45 tw_829 dX10_lets_156 ?_
            refine lv_iload_n C.1 C.2.1 dX10_lets_159 rfl (lv_at hl 2 rfl) ?_
            refine lv_aload_n C.1 C.2.1 dX10_lets_160 rfl (lv_at hl 1 rfl) ?_
            refine g_X10_15 C hH kk_45 tw_829 dX10_lets_161 ?_
            refine lv_iload_n C.1 C.2.1 dX10_lets_164 rfl (lv_at hl 2 rfl) ?_
            obtain ⟨q22, hf⟩ := itn hf
            refine x_zald C hH kk_52 q22 dX10_lets_165 ?_
            refine lv_if_ne (tgt := 173) C.1 C.2.1 dX10_lets_166 (by decide) (fun q33 => ?_) (fun q33 => ?_)
            · have hf := (if_neg q33).symm.trans hf
              refine lv_iconst (v := (1 : Int32)) C.1 C.2.1 dX10_lets_173 (by decide) ?_
              refine lv_goto (tgt := 178) C.1 C.2.1 dX10_lets_174 (by decide) ?_
              obtain ⟨q23, hf⟩ := itn hf
              refine x_zast C hH kk_52 q23 dX10_lets_178 (fun H locs hH => ?_)
              refine lv_aload_n C.1 C.2.1 dX10_lets_179 rfl (lv_at hl 1 rfl) ?_
              refine g_X10_15 C hH kk_45 tw_829 dX10_lets_180 ?_
              refine lv_iload_n C.1 C.2.1 dX10_lets_183 rfl (lv_at hl 2 rfl) ?_
              obtain ⟨q24, hf⟩ := itn hf
              refine x_zald C hH kk_52 q24 dX10_lets_184 ?_
              refine lv_if_ne (tgt := 192) C.1 C.2.1 dX10_lets_185 (by decide) (fun q25 => ?_) (fun q25 => ?_)
              · have hf := (if_neg q25).symm.trans hf
                refine lv_iconst (v := (0 : Int32)) C.1 C.2.1 dX10_lets_192 (by decide) ?_
                cases hf
                exact x_zret C hr hH rfl dX10_lets_193
              · have hf := (if_pos q25).symm.trans hf
                refine lv_iconst (v := (1 : Int32)) C.1 C.2.1 dX10_lets_188 (by decide) ?_
                refine lv_goto (tgt := 193) C.1 C.2.1 dX10_lets_189 (by decide) ?_
                cases hf
                exact x_zret C hr hH rfl dX10_lets_193
            · have hf := (if_pos q33).symm.trans hf
              refine lv_iload_n C.1 C.2.1 dX10_lets_169 rfl (lv_at hl 0 rfl) ?_
              refine lv_if_ne (tgt := 177) C.1 C.2.1 dX10_lets_170 (by decide) (fun q32 => ?_) (fun q32 => ?_)
              · have hf := (if_neg q32).symm.trans hf
                refine lv_iconst (v := (0 : Int32)) C.1 C.2.1 dX10_lets_177 (by decide) ?_
                obtain ⟨q26, hf⟩ := itn hf
                refine x_zast C hH kk_52 q26 dX10_lets_178 (fun H locs hH => ?_)
                refine lv_aload_n C.1 C.2.1 dX10_lets_179 rfl (lv_at hl 1 rfl) ?_
                refine g_X10_15 C hH kk_45 tw_829 dX10_lets_180 ?_
                refine lv_iload_n C.1 C.2.1 dX10_lets_183 rfl (lv_at hl 2 rfl) ?_
                obtain ⟨q27, hf⟩ := itn hf
                refine x_zald C hH kk_52 q27 dX10_lets_184 ?_
                refine lv_if_ne (tgt := 192) C.1 C.2.1 dX10_lets_185 (by decide) (fun q28 => ?_) (fun q28 => ?_)
                · have hf := (if_neg q28).symm.trans hf
                  refine lv_iconst (v := (0 : Int32)) C.1 C.2.1 dX10_lets_192 (by decide) ?_
                  cases hf
                  exact x_zret C hr hH rfl dX10_lets_193
                · have hf := (if_pos q28).symm.trans hf
                  refine lv_iconst (v := (1 : Int32)) C.1 C.2.1 dX10_lets_188 (by decide) ?_
                  refine lv_goto (tgt := 193) C.1 C.2.1 dX10_lets_189 (by decide) ?_
                  cases hf
                  exact x_zret C hr hH rfl dX10_lets_193
              · have hf := (if_pos q32).symm.trans hf
                refine lv_iconst (v := (1 : Int32)) C.1 C.2.1 dX10_lets_173 (by decide) ?_
                refine lv_goto (tgt := 178) C.1 C.2.1 dX10_lets_174 (by decide) ?_
                obtain ⟨q29, hf⟩ := itn hf
                refine x_zast C hH kk_52 q29 dX10_lets_178 (fun H locs hH => ?_)
                refine lv_aload_n C.1 C.2.1 dX10_lets_179 rfl (lv_at hl 1 rfl) ?_
                refine g_X10_15 C hH kk_45 tw_829 dX10_lets_180 ?_
                refine lv_iload_n C.1 C.2.1 dX10_lets_183 rfl (lv_at hl 2 rfl) ?_
                obtain ⟨q30, hf⟩ := itn hf
                refine x_zald C hH kk_52 q30 dX10_lets_184 ?_
                refine lv_if_ne (tgt := 192) C.1 C.2.1 dX10_lets_185 (by decide) (fun q31 => ?_) (fun q31 => ?_)
                · have hf := (if_neg q31).symm.trans hf
                  refine lv_iconst (v := (0 : Int32)) C.1 C.2.1 dX10_lets_192 (by decide) ?_
                  cases hf
                  exact x_zret C hr hH rfl dX10_lets_193
                · have hf := (if_pos q31).symm.trans hf
                  refine lv_iconst (v := (1 : Int32)) C.1 C.2.1 dX10_lets_188 (by decide) ?_
                  refine lv_goto (tgt := 193) C.1 C.2.1 dX10_lets_189 (by decide) ?_
                  cases hf
                  exact x_zret C hr hH rfl dX10_lets_193
          · have hf := (if_neg q34).symm.trans hf
            by_cases q44 : (q3.2 47 p0.toNatClampNeg) = (9 : Int32)
            · have hf := (if_pos q44).symm.trans hf
              refine lv_tableIn (tgt := 194) (off := 171) C.1 C.2.1 dX10_lets_23 (by rw [q44]; decide) (by rw [q44]; decide) (by rw [q44]; decide) (by decide) ?_
              refine lv_aload_n C.1 C.2.1 dX10_lets_194 rfl (lv_at hl 1 rfl) ?_
              refine g_X10_15 C hH kk_45 tw_829 dX10_lets_195 ?_
              refine lv_iload_n C.1 C.2.1 dX10_lets_198 rfl (lv_at hl 2 rfl) ?_
              refine lv_aload_n C.1 C.2.1 dX10_lets_199 rfl (lv_at hl 1 rfl) ?_
              refine g_X10_15 C hH kk_45 tw_829 dX10_lets_200 ?_
              refine lv_iload_n C.1 C.2.1 dX10_lets_203 rfl (lv_at hl 2 rfl) ?_
              obtain ⟨q35, hf⟩ := itn hf
              refine x_zald C hH kk_52 q35 dX10_lets_204 ?_
              refine lv_if_ne (tgt := 212) C.1 C.2.1 dX10_lets_205 (by decide) (fun q43 => ?_) (fun q43 => ?_)
              · have hf := (if_neg q43).symm.trans hf
                refine lv_iconst (v := (1 : Int32)) C.1 C.2.1 dX10_lets_212 (by decide) ?_
                refine lv_goto (tgt := 217) C.1 C.2.1 dX10_lets_213 (by decide) ?_
                obtain ⟨q36, hf⟩ := itn hf
                refine x_zast C hH kk_52 q36 dX10_lets_217 (fun H locs hH => ?_)
                refine lv_aload_n C.1 C.2.1 dX10_lets_218 rfl (lv_at hl 1 rfl) ?_
                refine g_X10_15 C hH kk_45 tw_829 dX10_lets_219 ?_
                refine lv_iload_n C.1 C.2.1 dX10_lets_222 rfl (lv_at hl 2 rfl) ?_
                obtain ⟨q37, hf⟩ := itn hf
                refine x_zald C hH kk_52 q37 dX10_lets_223 ?_
                obtain ⟨hz, rfl⟩ := zraw_eq hf
                exact x_zret C hr hH hz dX10_lets_224
              · have hf := (if_pos q43).symm.trans hf
                refine lv_iload_n C.1 C.2.1 dX10_lets_208 rfl (lv_at hl 0 rfl) ?_
                refine lv_if_ne (tgt := 216) C.1 C.2.1 dX10_lets_209 (by decide) (fun q42 => ?_) (fun q42 => ?_)
                · have hf := (if_neg q42).symm.trans hf
                  refine lv_iconst (v := (0 : Int32)) C.1 C.2.1 dX10_lets_216 (by decide) ?_
                  obtain ⟨q38, hf⟩ := itn hf
                  refine x_zast C hH kk_52 q38 dX10_lets_217 (fun H locs hH => ?_)
                  refine lv_aload_n C.1 C.2.1 dX10_lets_218 rfl (lv_at hl 1 rfl) ?_
                  refine g_X10_15 C hH kk_45 tw_829 dX10_lets_219 ?_
                  refine lv_iload_n C.1 C.2.1 dX10_lets_222 rfl (lv_at hl 2 rfl) ?_
                  obtain ⟨q39, hf⟩ := itn hf
                  refine x_zald C hH kk_52 q39 dX10_lets_223 ?_
                  obtain ⟨hz, rfl⟩ := zraw_eq hf
                  exact x_zret C hr hH hz dX10_lets_224
                · have hf := (if_pos q42).symm.trans hf
                  refine lv_iconst (v := (1 : Int32)) C.1 C.2.1 dX10_lets_212 (by decide) ?_
                  refine lv_goto (tgt := 217) C.1 C.2.1 dX10_lets_213 (by decide) ?_
                  obtain ⟨q40, hf⟩ := itn hf
                  refine x_zast C hH kk_52 q40 dX10_lets_217 (fun H locs hH => ?_)
                  refine lv_aload_n C.1 C.2.1 dX10_lets_218 rfl (lv_at hl 1 rfl) ?_
                  refine g_X10_15 C hH kk_45 tw_829 dX10_lets_219 ?_
                  refine lv_iload_n C.1 C.2.1 dX10_lets_222 rfl (lv_at hl 2 rfl) ?_
                  obtain ⟨q41, hf⟩ := itn hf
                  refine x_zald C hH kk_52 q41 dX10_lets_223 ?_
                  obtain ⟨hz, rfl⟩ := zraw_eq hf
                  exact x_zret C hr hH hz dX10_lets_224
            · have hf := (if_neg q44).symm.trans hf
              have q5' := ne_toInt (z := 1) (by decide) q5
              have q9' := ne_toInt (z := 3) (by decide) q9
              have q15' := ne_toInt (z := 5) (by decide) q15
              have q21' := ne_toInt (z := 6) (by decide) q21
              have q34' := ne_toInt (z := 8) (by decide) q34
              have q44' := ne_toInt (z := 9) (by decide) q44
              refine x_tblD (tgt := 225) C.1 C.2.1 dX10_lets_23 ?_ (by decide) ?_
              · by_cases hlo : (q3.2 47 p0.toNatClampNeg).toInt < 1
                · exact Or.inl (Or.inl hlo)
                · by_cases hhi : 9 < (q3.2 47 p0.toNatClampNeg).toInt
                  · exact Or.inl (Or.inr hhi)
                  · refine Or.inr ⟨hlo, hhi, ?_⟩
                    have hv : (q3.2 47 p0.toNatClampNeg).toInt = 2 ∨ (q3.2 47 p0.toNatClampNeg).toInt = 4 ∨ (q3.2 47 p0.toNatClampNeg).toInt = 7 := by omega
                    rcases hv with hv | hv | hv <;> (rw [hv]; decide)
              · refine lv_iconst (v := (1 : Int32)) C.1 C.2.1 dX10_lets_225 (by decide) ?_
                cases hf
                exact x_zret C hr hH rfl dX10_lets_226
def f_X10_isEnd_J40 (p0 : Int32) (p1 : Int32) (p2 : Int32)  (I : Mem) (x0 : Int32) (x1 : Int32) (x2 : Int32) : Option (Bool × Mem) := if x0 = (8 : Int32) then (if x1 < 0 then (some (false, I)) else (if (2 : Int32) < x1 then (some (false, I)) else (some (true, I)))) else (if x0 = (10 : Int32) then (if x2 < (1 : Int32) then (some (false, I)) else (if (8 : Int32) < x2 then (some (false, I)) else (some (true, I)))) else (some (true, I)))
set_option maxHeartbeats 4000000 in
set_option maxRecDepth 100000 in
theorem w_X10_isEnd_J40 {p : Program} {l : Launch} {e : Env} {s : State} {m : MethodId} {args : Array Value} {below : List Frame} {meth : Method} {c : Code} {G : Gx} (p0 : Int32) (p1 : Int32) (p2 : Int32) {res : Bool} {J : Mem} (C : CX p l s m args meth c cX10_isEnd 3 yX10_isEnd.cls G) (hr : meth.sig.returnType = (some .boolean)) :
    ∀ (I : Mem) (x0 : Int32) (x1 : Int32) (x2 : Int32) (H : Heap) (locs : List Loc) (ls : Array Slot), HW G s H locs I → lv_has ls 3 [(0, .int x0), (1, .int x1), (2, .int x2)] → f_X10_isEnd_J40 p0 p1 p2 I x0 x1 x2 = some (res, J) → W p l e { frames := 0, cells := 0, slots := 0, locals := 0 } s m args below meth c H locs 0 0 (MQ below (Qi9 G (b2i res) J s.heap.size) args s 0 0 (AA G s.heap.size)) (F0 m 40 ls []) := by
  intro I x0 x1 x2  H locs ls hH hl hf
  have hf : (if x0 = (8 : Int32) then (if x1 < 0 then (some (false, I)) else (if (2 : Int32) < x1 then (some (false, I)) else (some (true, I)))) else (if x0 = (10 : Int32) then (if x2 < (1 : Int32) then (some (false, I)) else (if (8 : Int32) < x2 then (some (false, I)) else (some (true, I)))) else (some (true, I)))) = _ := hf
  refine lv_iload_n C.1 C.2.1 dX10_isEnd_40 rfl (lv_at hl 0 rfl) ?_
  refine lv_bipush (v := (8 : Int32)) C.1 C.2.1 dX10_isEnd_41 (by decide) ?_
  refine lv_icmp_ne (tgt := 63) C.1 C.2.1 dX10_isEnd_43 (by decide) (fun q12 => ?_) (fun q12 => ?_)
  · have hf := (if_neg q12).symm.trans hf
    refine lv_iload_n C.1 C.2.1 dX10_isEnd_63 rfl (lv_at hl 0 rfl) ?_
    refine lv_bipush (v := (10 : Int32)) C.1 C.2.1 dX10_isEnd_64 (by decide) ?_
    refine lv_icmp_ne (tgt := 80) C.1 C.2.1 dX10_isEnd_66 (by decide) (fun q9 => ?_) (fun q9 => ?_)
    · have hf := (if_neg q9).symm.trans hf
      refine lv_iconst (v := (1 : Int32)) C.1 C.2.1 dX10_isEnd_80 (by decide) ?_
      refine lv_goto (tgt := 85) C.1 C.2.1 dX10_isEnd_81 (by decide) ?_
      cases hf
      exact x_zret C hr hH rfl dX10_isEnd_85
    · have hf := (if_pos q9).symm.trans hf
      refine lv_iload_n C.1 C.2.1 dX10_isEnd_69 rfl (lv_at hl 2 rfl) ?_
      refine lv_iconst (v := (1 : Int32)) C.1 C.2.1 dX10_isEnd_70 (by decide) ?_
      refine lv_icmp_lt (tgt := 84) C.1 C.2.1 dX10_isEnd_71 (by decide) (fun q8 => ?_) (fun q8 => ?_)
      · have hf := (if_pos q8).symm.trans hf
        refine lv_iconst (v := (0 : Int32)) C.1 C.2.1 dX10_isEnd_84 (by decide) ?_
        cases hf
        exact x_zret C hr hH rfl dX10_isEnd_85
      · have hf := (if_neg q8).symm.trans hf
        refine lv_iload_n C.1 C.2.1 dX10_isEnd_74 rfl (lv_at hl 2 rfl) ?_
        refine lv_bipush (v := (8 : Int32)) C.1 C.2.1 dX10_isEnd_75 (by decide) ?_
        refine lv_icmp_gt (tgt := 84) C.1 C.2.1 dX10_isEnd_77 (by decide) (fun q7 => ?_) (fun q7 => ?_)
        · have hf := (if_pos q7).symm.trans hf
          refine lv_iconst (v := (0 : Int32)) C.1 C.2.1 dX10_isEnd_84 (by decide) ?_
          cases hf
          exact x_zret C hr hH rfl dX10_isEnd_85
        · have hf := (if_neg q7).symm.trans hf
          refine lv_iconst (v := (1 : Int32)) C.1 C.2.1 dX10_isEnd_80 (by decide) ?_
          refine lv_goto (tgt := 85) C.1 C.2.1 dX10_isEnd_81 (by decide) ?_
          cases hf
          exact x_zret C hr hH rfl dX10_isEnd_85
  · have hf := (if_pos q12).symm.trans hf
    refine lv_iload_n C.1 C.2.1 dX10_isEnd_46 rfl (lv_at hl 1 rfl) ?_
    refine lv_if_lt (tgt := 59) C.1 C.2.1 dX10_isEnd_47 (by decide) (fun q11 => ?_) (fun q11 => ?_)
    · have hf := (if_pos q11).symm.trans hf
      refine lv_iconst (v := (0 : Int32)) C.1 C.2.1 dX10_isEnd_59 (by decide) ?_
      refine lv_goto (tgt := 85) C.1 C.2.1 dX10_isEnd_60 (by decide) ?_
      cases hf
      exact x_zret C hr hH rfl dX10_isEnd_85
    · have hf := (if_neg q11).symm.trans hf
      refine lv_iload_n C.1 C.2.1 dX10_isEnd_50 rfl (lv_at hl 1 rfl) ?_
      refine lv_iconst (v := (2 : Int32)) C.1 C.2.1 dX10_isEnd_51 (by decide) ?_
      refine lv_icmp_gt (tgt := 59) C.1 C.2.1 dX10_isEnd_52 (by decide) (fun q10 => ?_) (fun q10 => ?_)
      · have hf := (if_pos q10).symm.trans hf
        refine lv_iconst (v := (0 : Int32)) C.1 C.2.1 dX10_isEnd_59 (by decide) ?_
        refine lv_goto (tgt := 85) C.1 C.2.1 dX10_isEnd_60 (by decide) ?_
        cases hf
        exact x_zret C hr hH rfl dX10_isEnd_85
      · have hf := (if_neg q10).symm.trans hf
        refine lv_iconst (v := (1 : Int32)) C.1 C.2.1 dX10_isEnd_55 (by decide) ?_
        refine lv_goto (tgt := 85) C.1 C.2.1 dX10_isEnd_56 (by decide) ?_
        cases hf
        exact x_zret C hr hH rfl dX10_isEnd_85
def f_X10_isEnd (I : Mem) (p0 : Int32) (p1 : Int32) (p2 : Int32) : Option (Bool × Mem) := if p0 < 0 then (some (false, I)) else (if p0 ≤ (10 : Int32) then (if p0 < (5 : Int32) then (f_X10_isEnd_J40 p0 p1 p2 I p0 p1 p2) else (if (7 : Int32) < p0 then (f_X10_isEnd_J40 p0 p1 p2 I p0 p1 p2) else (if p1 < 0 then (some (false, I)) else (if (4 : Int32) < p1 then (some (false, I)) else (some (true, I)))))) else (some (false, I)))
set_option maxHeartbeats 4000000 in
set_option maxRecDepth 100000 in
theorem c_X10_isEnd (l : Launch) (G : Gx) (I : Mem) (p0 : Int32) (p1 : Int32) (p2 : Int32) {res : Bool} {J : Mem} (hf : f_X10_isEnd I p0 p1 p2 = some (res, J)) : Mi l yX10_isEnd (.code yX10_isEnd cX10_isEnd 3 (some .boolean)) 0 0 G I [.int p0, .int p1, .int p2] (b2i res) J := by
  refine Mi.of (by decide +kernel) (Nat.le_of_ble_eq_true rfl) (fun p e s m below meth c ls C hr hH hl => ?_)
  have hl : lv_has ls 3 [(0, .int p0), (1, .int p1), (2, .int p2)] := hl
  have hf : (if p0 < 0 then (some (false, I)) else (if p0 ≤ (10 : Int32) then (if p0 < (5 : Int32) then (f_X10_isEnd_J40 p0 p1 p2 I p0 p1 p2) else (if (7 : Int32) < p0 then (f_X10_isEnd_J40 p0 p1 p2 I p0 p1 p2) else (if p1 < 0 then (some (false, I)) else (if (4 : Int32) < p1 then (some (false, I)) else (some (true, I)))))) else (some (false, I)))) = _ := hf
  refine lv_iload_n C.1 C.2.1 dX10_isEnd_0 rfl (lv_at hl 0 rfl) ?_
  refine lv_if_lt (tgt := 10) C.1 C.2.1 dX10_isEnd_1 (by decide) (fun q6 => ?_) (fun q6 => ?_)
  · have hf := (if_pos q6).symm.trans hf
    refine lv_iconst (v := (0 : Int32)) C.1 C.2.1 dX10_isEnd_10 (by decide) ?_
    cases hf
    exact x_zret C hr hH rfl dX10_isEnd_11
  · have hf := (if_neg q6).symm.trans hf
    refine lv_iload_n C.1 C.2.1 dX10_isEnd_4 rfl (lv_at hl 0 rfl) ?_
    refine lv_bipush (v := (10 : Int32)) C.1 C.2.1 dX10_isEnd_5 (by decide) ?_
    refine lv_icmp_le (tgt := 12) C.1 C.2.1 dX10_isEnd_7 (by decide) (fun q5 => ?_) (fun q5 => ?_)
    · have hf := (if_pos q5).symm.trans hf
      refine lv_iload_n C.1 C.2.1 dX10_isEnd_12 rfl (lv_at hl 0 rfl) ?_
      refine lv_iconst (v := (5 : Int32)) C.1 C.2.1 dX10_isEnd_13 (by decide) ?_
      refine lv_icmp_lt (tgt := 40) C.1 C.2.1 dX10_isEnd_14 (by decide) (fun q4 => ?_) (fun q4 => ?_)
      · have hf := (if_pos q4).symm.trans hf
        exact w_X10_isEnd_J40 p0 p1 p2 C hr I p0 p1 p2 _ _ _ hH (lv_sub hl [0, 1, 2] rfl) hf
      · have hf := (if_neg q4).symm.trans hf
        refine lv_iload_n C.1 C.2.1 dX10_isEnd_17 rfl (lv_at hl 0 rfl) ?_
        refine lv_bipush (v := (7 : Int32)) C.1 C.2.1 dX10_isEnd_18 (by decide) ?_
        refine lv_icmp_gt (tgt := 40) C.1 C.2.1 dX10_isEnd_20 (by decide) (fun q3 => ?_) (fun q3 => ?_)
        · have hf := (if_pos q3).symm.trans hf
          exact w_X10_isEnd_J40 p0 p1 p2 C hr I p0 p1 p2 _ _ _ hH (lv_sub hl [0, 1, 2] rfl) hf
        · have hf := (if_neg q3).symm.trans hf
          refine lv_iload_n C.1 C.2.1 dX10_isEnd_23 rfl (lv_at hl 1 rfl) ?_
          refine lv_if_lt (tgt := 36) C.1 C.2.1 dX10_isEnd_24 (by decide) (fun q2 => ?_) (fun q2 => ?_)
          · have hf := (if_pos q2).symm.trans hf
            refine lv_iconst (v := (0 : Int32)) C.1 C.2.1 dX10_isEnd_36 (by decide) ?_
            refine lv_goto (tgt := 85) C.1 C.2.1 dX10_isEnd_37 (by decide) ?_
            cases hf
            exact x_zret C hr hH rfl dX10_isEnd_85
          · have hf := (if_neg q2).symm.trans hf
            refine lv_iload_n C.1 C.2.1 dX10_isEnd_27 rfl (lv_at hl 1 rfl) ?_
            refine lv_iconst (v := (4 : Int32)) C.1 C.2.1 dX10_isEnd_28 (by decide) ?_
            refine lv_icmp_gt (tgt := 36) C.1 C.2.1 dX10_isEnd_29 (by decide) (fun q1 => ?_) (fun q1 => ?_)
            · have hf := (if_pos q1).symm.trans hf
              refine lv_iconst (v := (0 : Int32)) C.1 C.2.1 dX10_isEnd_36 (by decide) ?_
              refine lv_goto (tgt := 85) C.1 C.2.1 dX10_isEnd_37 (by decide) ?_
              cases hf
              exact x_zret C hr hH rfl dX10_isEnd_85
            · have hf := (if_neg q1).symm.trans hf
              refine lv_iconst (v := (1 : Int32)) C.1 C.2.1 dX10_isEnd_32 (by decide) ?_
              refine lv_goto (tgt := 85) C.1 C.2.1 dX10_isEnd_33 (by decide) ?_
              cases hf
              exact x_zret C hr hH rfl dX10_isEnd_85
    · have hf := (if_neg q5).symm.trans hf
      refine lv_iconst (v := (0 : Int32)) C.1 C.2.1 dX10_isEnd_10 (by decide) ?_
      cases hf
      exact x_zret C hr hH rfl dX10_isEnd_11
def f_X10_beginEnd_L101 (p0 : Int32) (p1 : Int32) (p2 : Int32)  : Nat → Mem → Int32 → Int32 → Option Mem
  | 0, _, _, _ => none
  | n + 1, I, x1, x4 => if (8 : Int32) ≤ x4 then (some (st (st (st I 45 4 (1 : Int32)) 45 22 (0 : Int32)) 45 21 (0 : Int32))) else (if x1 = (10 : Int32) then (if inb x4 (ln 57) = true then (f_X10_beginEnd_L101 p0 p1 p2 n (st I 57 x4.toNatClampNeg (0 : Int32)) x1 (x4 + (1 : Int32))) else none) else (some (st (st (st I 45 4 (1 : Int32)) 45 22 (0 : Int32)) 45 21 (0 : Int32))))
set_option maxHeartbeats 4000000 in
set_option maxRecDepth 100000 in
theorem w_X10_beginEnd_L101 {p : Program} {l : Launch} {e : Env} {s : State} {m : MethodId} {args : Array Value} {below : List Frame} {meth : Method} {c : Code} {G : Gx} (p0 : Int32) (p1 : Int32) (p2 : Int32) {J : Mem} (C : CX p l s m args meth c cX10_beginEnd 5 yX10_beginEnd.cls G) (hr : meth.sig.returnType = none) :
    ∀ (n : Nat) (I : Mem) (x1 : Int32) (x4 : Int32) (H : Heap) (locs : List Loc) (ls : Array Slot), HW G s H locs I → lv_has ls 5 [(0, .ref (G.2.1 45)), (1, .int x1), (4, .int x4)] → f_X10_beginEnd_L101 p0 p1 p2 n I x1 x4 = some J → W p l e { frames := 0, cells := 0, slots := 0, locals := 0 } s m args below meth c H locs 0 0 (MQ below (Qv9 G J s.heap.size) args s 0 0 (AA G s.heap.size)) (F0 m 101 ls []) := by
  intro n
  induction n with
  | zero => intro I x1 x4  H locs ls hH hl hf; exact absurd hf (by simp [f_X10_beginEnd_L101])
  | succ n ih =>
    intro I x1 x4  H locs ls hH hl hf
    have hf : (if (8 : Int32) ≤ x4 then (some (st (st (st I 45 4 (1 : Int32)) 45 22 (0 : Int32)) 45 21 (0 : Int32))) else (if x1 = (10 : Int32) then (if inb x4 (ln 57) = true then (f_X10_beginEnd_L101 p0 p1 p2 n (st I 57 x4.toNatClampNeg (0 : Int32)) x1 (x4 + (1 : Int32))) else none) else (some (st (st (st I 45 4 (1 : Int32)) 45 22 (0 : Int32)) 45 21 (0 : Int32))))) = _ := hf
    refine lv_iload C.1 C.2.1 dX10_beginEnd_101 (lv_at hl 2 rfl) ?_
    refine lv_bipush (v := (8 : Int32)) C.1 C.2.1 dX10_beginEnd_103 (by decide) ?_
    refine lv_icmp_ge (tgt := 128) C.1 C.2.1 dX10_beginEnd_105 (by decide) (fun q10 => ?_) (fun q10 => ?_)
    · have hf := (if_pos q10).symm.trans hf
      refine lv_aload_n C.1 C.2.1 dX10_beginEnd_128 rfl (lv_at hl 0 rfl) ?_
      refine lv_iconst (v := (1 : Int32)) C.1 C.2.1 dX10_beginEnd_129 (by decide) ?_
      refine p_X10_4 C hH kk_45 ⟨rfl, rfl⟩ tw_818 dX10_beginEnd_130 (fun H locs hH => ?_)
      refine lv_aload_n C.1 C.2.1 dX10_beginEnd_133 rfl (lv_at hl 0 rfl) ?_
      refine lv_iconst (v := (0 : Int32)) C.1 C.2.1 dX10_beginEnd_134 (by decide) ?_
      refine p_X10_22 C hH kk_45 ⟨rfl, rfl⟩ tw_836 dX10_beginEnd_135 (fun H locs hH => ?_)
      refine lv_aload_n C.1 C.2.1 dX10_beginEnd_138 rfl (lv_at hl 0 rfl) ?_
      refine lv_iconst (v := (0 : Int32)) C.1 C.2.1 dX10_beginEnd_139 (by decide) ?_
      refine p_X10_21 C hH kk_45  tw_835 dX10_beginEnd_140 (fun H locs hH => ?_)
      cases hf
      exact x_vret C hr hH dX10_beginEnd_143
    · have hf := (if_neg q10).symm.trans hf
      refine lv_iload_n C.1 C.2.1 dX10_beginEnd_108 rfl (lv_at hl 1 rfl) ?_
      refine lv_bipush (v := (10 : Int32)) C.1 C.2.1 dX10_beginEnd_109 (by decide) ?_
      refine lv_icmp_ne (tgt := 128) C.1 C.2.1 dX10_beginEnd_111 (by decide) (fun q9 => ?_) (fun q9 => ?_)
      · have hf := (if_neg q9).symm.trans hf
        refine lv_aload_n C.1 C.2.1 dX10_beginEnd_128 rfl (lv_at hl 0 rfl) ?_
        refine lv_iconst (v := (1 : Int32)) C.1 C.2.1 dX10_beginEnd_129 (by decide) ?_
        refine p_X10_4 C hH kk_45 ⟨rfl, rfl⟩ tw_818 dX10_beginEnd_130 (fun H locs hH => ?_)
        refine lv_aload_n C.1 C.2.1 dX10_beginEnd_133 rfl (lv_at hl 0 rfl) ?_
        refine lv_iconst (v := (0 : Int32)) C.1 C.2.1 dX10_beginEnd_134 (by decide) ?_
        refine p_X10_22 C hH kk_45 ⟨rfl, rfl⟩ tw_836 dX10_beginEnd_135 (fun H locs hH => ?_)
        refine lv_aload_n C.1 C.2.1 dX10_beginEnd_138 rfl (lv_at hl 0 rfl) ?_
        refine lv_iconst (v := (0 : Int32)) C.1 C.2.1 dX10_beginEnd_139 (by decide) ?_
        refine p_X10_21 C hH kk_45  tw_835 dX10_beginEnd_140 (fun H locs hH => ?_)
        cases hf
        exact x_vret C hr hH dX10_beginEnd_143
      · have hf := (if_pos q9).symm.trans hf
        refine lv_aload_n C.1 C.2.1 dX10_beginEnd_114 rfl (lv_at hl 0 rfl) ?_
        refine g_X10_29 C hH kk_45 tw_843 dX10_beginEnd_115 ?_
        refine lv_iload C.1 C.2.1 dX10_beginEnd_118 (lv_at hl 2 rfl) ?_
        refine lv_iconst (v := (0 : Int32)) C.1 C.2.1 dX10_beginEnd_120 (by decide) ?_
        obtain ⟨q8, hf⟩ := itn hf
        refine x_iast C hH kk_57 q8 dX10_beginEnd_121 (fun H locs hH => ?_)
        refine lv_iinc (v := (x4 + (1 : Int32))) (lv' := [(4, .int (x4 + (1 : Int32))), (0, .ref (G.2.1 45)), (1, .int x1)]) C.1 C.2.1 dX10_beginEnd_122 hl (k := 2) rfl rfl (by decide) rfl (fun ls hl => ?_)
        refine lv_goto (tgt := 101) C.1 C.2.1 dX10_beginEnd_125 (by decide) ?_
        exact ih (st I 57 x4.toNatClampNeg (0 : Int32)) x1 (x4 + (1 : Int32))  _ _ _ hH (lv_sub hl [1, 2, 0] rfl) hf
def f_X10_beginEnd_L59 (p0 : Int32) (p1 : Int32) (p2 : Int32)  : Nat → Mem → Int32 → Int32 → Option Mem
  | 0, _, _, _ => none
  | n + 1, I, x1, x4 => if (I 45 9) ≤ x4 then (f_X10_beginEnd_L101 p0 p1 p2 FU I x1 (0 : Int32)) else (if inb x4 (ln 50) = true then (if inb x4 (ln 51) = true then (if inb x4 (ln 52) = true then (f_X10_beginEnd_L59 p0 p1 p2 n (st (st (st I 50 x4.toNatClampNeg (0 : Int32)) 51 x4.toNatClampNeg (0 : Int32)) 52 x4.toNatClampNeg (vp_nar .boolean (0 : Int32))) x1 (x4 + (1 : Int32))) else none) else none) else none)
set_option maxHeartbeats 4000000 in
set_option maxRecDepth 100000 in
theorem w_X10_beginEnd_L59 {p : Program} {l : Launch} {e : Env} {s : State} {m : MethodId} {args : Array Value} {below : List Frame} {meth : Method} {c : Code} {G : Gx} (p0 : Int32) (p1 : Int32) (p2 : Int32) {J : Mem} (C : CX p l s m args meth c cX10_beginEnd 5 yX10_beginEnd.cls G) (hr : meth.sig.returnType = none) :
    ∀ (n : Nat) (I : Mem) (x1 : Int32) (x4 : Int32) (H : Heap) (locs : List Loc) (ls : Array Slot), HW G s H locs I → lv_has ls 5 [(0, .ref (G.2.1 45)), (1, .int x1), (4, .int x4)] → f_X10_beginEnd_L59 p0 p1 p2 n I x1 x4 = some J → W p l e { frames := 0, cells := 0, slots := 0, locals := 0 } s m args below meth c H locs 0 0 (MQ below (Qv9 G J s.heap.size) args s 0 0 (AA G s.heap.size)) (F0 m 59 ls []) := by
  intro n
  induction n with
  | zero => intro I x1 x4  H locs ls hH hl hf; exact absurd hf (by simp [f_X10_beginEnd_L59])
  | succ n ih =>
    intro I x1 x4  H locs ls hH hl hf
    have hf : (if (I 45 9) ≤ x4 then (f_X10_beginEnd_L101 p0 p1 p2 FU I x1 (0 : Int32)) else (if inb x4 (ln 50) = true then (if inb x4 (ln 51) = true then (if inb x4 (ln 52) = true then (f_X10_beginEnd_L59 p0 p1 p2 n (st (st (st I 50 x4.toNatClampNeg (0 : Int32)) 51 x4.toNatClampNeg (0 : Int32)) 52 x4.toNatClampNeg (vp_nar .boolean (0 : Int32))) x1 (x4 + (1 : Int32))) else none) else none) else none)) = _ := hf
    refine lv_iload C.1 C.2.1 dX10_beginEnd_59 (lv_at hl 2 rfl) ?_
    refine lv_aload_n C.1 C.2.1 dX10_beginEnd_61 rfl (lv_at hl 0 rfl) ?_
    refine g_X10_9 C hH kk_45 tw_823 dX10_beginEnd_62 ?_
    refine lv_icmp_ge (tgt := 98) C.1 C.2.1 dX10_beginEnd_65 (by decide) (fun q7 => ?_) (fun q7 => ?_)
    · have hf := (if_pos q7).symm.trans hf
      refine lv_iconst (v := (0 : Int32)) C.1 C.2.1 dX10_beginEnd_98 (by decide) ?_
      refine lv_istore (lv' := [(4, .int (0 : Int32)), (0, .ref (G.2.1 45)), (1, .int x1)]) C.1 C.2.1 dX10_beginEnd_99 hl (by decide) rfl (fun ls hl => ?_)
      exact w_X10_beginEnd_L101 p0 p1 p2 C hr FU I x1 (0 : Int32) _ _ _ hH (lv_sub hl [1, 2, 0] rfl) hf
    · have hf := (if_neg q7).symm.trans hf
      refine lv_aload_n C.1 C.2.1 dX10_beginEnd_68 rfl (lv_at hl 0 rfl) ?_
      refine g_X10_13 C hH kk_45 tw_827 dX10_beginEnd_69 ?_
      refine lv_iload C.1 C.2.1 dX10_beginEnd_72 (lv_at hl 2 rfl) ?_
      refine lv_iconst (v := (0 : Int32)) C.1 C.2.1 dX10_beginEnd_74 (by decide) ?_
      obtain ⟨q4, hf⟩ := itn hf
      refine x_iast C hH kk_50 q4 dX10_beginEnd_75 (fun H locs hH => ?_)
      refine lv_aload_n C.1 C.2.1 dX10_beginEnd_76 rfl (lv_at hl 0 rfl) ?_
      refine g_X10_14 C hH kk_45 tw_828 dX10_beginEnd_77 ?_
      refine lv_iload C.1 C.2.1 dX10_beginEnd_80 (lv_at hl 2 rfl) ?_
      refine lv_iconst (v := (0 : Int32)) C.1 C.2.1 dX10_beginEnd_82 (by decide) ?_
      obtain ⟨q5, hf⟩ := itn hf
      refine x_iast C hH kk_51 q5 dX10_beginEnd_83 (fun H locs hH => ?_)
      refine lv_aload_n C.1 C.2.1 dX10_beginEnd_84 rfl (lv_at hl 0 rfl) ?_
      refine g_X10_15 C hH kk_45 tw_829 dX10_beginEnd_85 ?_
      refine lv_iload C.1 C.2.1 dX10_beginEnd_88 (lv_at hl 2 rfl) ?_
      refine lv_iconst (v := (0 : Int32)) C.1 C.2.1 dX10_beginEnd_90 (by decide) ?_
      obtain ⟨q6, hf⟩ := itn hf
      refine x_zast C hH kk_52 q6 dX10_beginEnd_91 (fun H locs hH => ?_)
      refine lv_iinc (v := (x4 + (1 : Int32))) (lv' := [(4, .int (x4 + (1 : Int32))), (0, .ref (G.2.1 45)), (1, .int x1)]) C.1 C.2.1 dX10_beginEnd_92 hl (k := 2) rfl rfl (by decide) rfl (fun ls hl => ?_)
      refine lv_goto (tgt := 59) C.1 C.2.1 dX10_beginEnd_95 (by decide) ?_
      exact ih (st (st (st I 50 x4.toNatClampNeg (0 : Int32)) 51 x4.toNatClampNeg (0 : Int32)) 52 x4.toNatClampNeg (vp_nar .boolean (0 : Int32))) x1 (x4 + (1 : Int32))  _ _ _ hH (lv_sub hl [1, 2, 0] rfl) hf
def f_X10_beginEnd (I : Mem) (p0 : Int32) (p1 : Int32) (p2 : Int32) : Option Mem := if p0 = (8 : Int32) then (f_X10_beginEnd_L59 p0 p1 p2 FU (st (st (st (st (st (st I 45 23 p0) 45 24 p1) 45 25 p2) 45 26 (0 : Int32)) 45 28 (0 : Int32)) 45 27 p2) p0 (0 : Int32)) else (if p0 = (6 : Int32) then (f_X10_beginEnd_L59 p0 p1 p2 FU (st (st (st (st (st (st I 45 23 p0) 45 24 p1) 45 25 p2) 45 26 (0 : Int32)) 45 28 (0 : Int32)) 45 27 (1 : Int32)) p0 (0 : Int32)) else (if p0 = (7 : Int32) then (f_X10_beginEnd_L59 p0 p1 p2 FU (st (st (st (st (st (st I 45 23 p0) 45 24 p1) 45 25 p2) 45 26 (0 : Int32)) 45 28 (0 : Int32)) 45 27 (1 : Int32)) p0 (0 : Int32)) else (f_X10_beginEnd_L59 p0 p1 p2 FU (st (st (st (st (st (st I 45 23 p0) 45 24 p1) 45 25 p2) 45 26 (0 : Int32)) 45 28 (0 : Int32)) 45 27 (0 : Int32)) p0 (0 : Int32))))
set_option maxHeartbeats 4000000 in
set_option maxRecDepth 100000 in
theorem c_X10_beginEnd (l : Launch) (G : Gx) (I : Mem) (p0 : Int32) (p1 : Int32) (p2 : Int32) {J : Mem} (hf : f_X10_beginEnd I p0 p1 p2 = some J) : Mv l yX10_beginEnd (.code yX10_beginEnd cX10_beginEnd 5 none) 0 0 G I [.ref (G.2.1 45), .int p0, .int p1, .int p2] J := by
  refine Mv.of (by decide +kernel) (Nat.le_of_ble_eq_true rfl) (fun p e s m below meth c ls C hr hH hl => ?_)
  have hl : lv_has ls 5 [(0, .ref (G.2.1 45)), (1, .int p0), (2, .int p1), (3, .int p2)] := hl
  have hf : (if p0 = (8 : Int32) then (f_X10_beginEnd_L59 p0 p1 p2 FU (st (st (st (st (st (st I 45 23 p0) 45 24 p1) 45 25 p2) 45 26 (0 : Int32)) 45 28 (0 : Int32)) 45 27 p2) p0 (0 : Int32)) else (if p0 = (6 : Int32) then (f_X10_beginEnd_L59 p0 p1 p2 FU (st (st (st (st (st (st I 45 23 p0) 45 24 p1) 45 25 p2) 45 26 (0 : Int32)) 45 28 (0 : Int32)) 45 27 (1 : Int32)) p0 (0 : Int32)) else (if p0 = (7 : Int32) then (f_X10_beginEnd_L59 p0 p1 p2 FU (st (st (st (st (st (st I 45 23 p0) 45 24 p1) 45 25 p2) 45 26 (0 : Int32)) 45 28 (0 : Int32)) 45 27 (1 : Int32)) p0 (0 : Int32)) else (f_X10_beginEnd_L59 p0 p1 p2 FU (st (st (st (st (st (st I 45 23 p0) 45 24 p1) 45 25 p2) 45 26 (0 : Int32)) 45 28 (0 : Int32)) 45 27 (0 : Int32)) p0 (0 : Int32))))) = _ := hf
  refine lv_aload_n C.1 C.2.1 dX10_beginEnd_0 rfl (lv_at hl 0 rfl) ?_
  refine lv_iload_n C.1 C.2.1 dX10_beginEnd_1 rfl (lv_at hl 1 rfl) ?_
  refine p_X10_23 C hH kk_45  tw_837 dX10_beginEnd_2 (fun H locs hH => ?_)
  refine lv_aload_n C.1 C.2.1 dX10_beginEnd_5 rfl (lv_at hl 0 rfl) ?_
  refine lv_iload_n C.1 C.2.1 dX10_beginEnd_6 rfl (lv_at hl 2 rfl) ?_
  refine p_X10_24 C hH kk_45  tw_838 dX10_beginEnd_7 (fun H locs hH => ?_)
  refine lv_aload_n C.1 C.2.1 dX10_beginEnd_10 rfl (lv_at hl 0 rfl) ?_
  refine lv_iload_n C.1 C.2.1 dX10_beginEnd_11 rfl (lv_at hl 3 rfl) ?_
  refine p_X10_25 C hH kk_45  tw_839 dX10_beginEnd_12 (fun H locs hH => ?_)
  refine lv_aload_n C.1 C.2.1 dX10_beginEnd_15 rfl (lv_at hl 0 rfl) ?_
  refine lv_iconst (v := (0 : Int32)) C.1 C.2.1 dX10_beginEnd_16 (by decide) ?_
  refine p_X10_26 C hH kk_45  tw_840 dX10_beginEnd_17 (fun H locs hH => ?_)
  refine lv_aload_n C.1 C.2.1 dX10_beginEnd_20 rfl (lv_at hl 0 rfl) ?_
  refine lv_iconst (v := (0 : Int32)) C.1 C.2.1 dX10_beginEnd_21 (by decide) ?_
  refine p_X10_28 C hH kk_45 ⟨rfl, rfl⟩ tw_842 dX10_beginEnd_22 (fun H locs hH => ?_)
  refine lv_aload_n C.1 C.2.1 dX10_beginEnd_25 rfl (lv_at hl 0 rfl) ?_
  refine lv_iload_n C.1 C.2.1 dX10_beginEnd_26 rfl (lv_at hl 1 rfl) ?_
  refine lv_bipush (v := (8 : Int32)) C.1 C.2.1 dX10_beginEnd_27 (by decide) ?_
  refine lv_icmp_ne (tgt := 36) C.1 C.2.1 dX10_beginEnd_29 (by decide) (fun q3 => ?_) (fun q3 => ?_)
  · have hf := (if_neg q3).symm.trans hf
    refine lv_iload_n C.1 C.2.1 dX10_beginEnd_36 rfl (lv_at hl 1 rfl) ?_
    refine lv_bipush (v := (6 : Int32)) C.1 C.2.1 dX10_beginEnd_37 (by decide) ?_
    refine lv_icmp_eq (tgt := 48) C.1 C.2.1 dX10_beginEnd_39 (by decide) (fun q2 => ?_) (fun q2 => ?_)
    · have hf := (if_pos q2).symm.trans hf
      refine lv_iconst (v := (1 : Int32)) C.1 C.2.1 dX10_beginEnd_48 (by decide) ?_
      refine lv_goto (tgt := 53) C.1 C.2.1 dX10_beginEnd_49 (by decide) ?_
      refine p_X10_27 C hH kk_45  tw_841 dX10_beginEnd_53 (fun H locs hH => ?_)
      refine lv_iconst (v := (0 : Int32)) C.1 C.2.1 dX10_beginEnd_56 (by decide) ?_
      refine lv_istore (lv' := [(4, .int (0 : Int32)), (0, .ref (G.2.1 45)), (1, .int p0), (2, .int p1), (3, .int p2)]) C.1 C.2.1 dX10_beginEnd_57 hl (by decide) rfl (fun ls hl => ?_)
      exact w_X10_beginEnd_L59 p0 p1 p2 C hr FU (st (st (st (st (st (st I 45 23 p0) 45 24 p1) 45 25 p2) 45 26 (0 : Int32)) 45 28 (0 : Int32)) 45 27 (1 : Int32)) p0 (0 : Int32) _ _ _ hH (lv_sub hl [1, 2, 0] rfl) hf
    · have hf := (if_neg q2).symm.trans hf
      refine lv_iload_n C.1 C.2.1 dX10_beginEnd_42 rfl (lv_at hl 1 rfl) ?_
      refine lv_bipush (v := (7 : Int32)) C.1 C.2.1 dX10_beginEnd_43 (by decide) ?_
      refine lv_icmp_ne (tgt := 52) C.1 C.2.1 dX10_beginEnd_45 (by decide) (fun q1 => ?_) (fun q1 => ?_)
      · have hf := (if_neg q1).symm.trans hf
        refine lv_iconst (v := (0 : Int32)) C.1 C.2.1 dX10_beginEnd_52 (by decide) ?_
        refine p_X10_27 C hH kk_45  tw_841 dX10_beginEnd_53 (fun H locs hH => ?_)
        refine lv_iconst (v := (0 : Int32)) C.1 C.2.1 dX10_beginEnd_56 (by decide) ?_
        refine lv_istore (lv' := [(4, .int (0 : Int32)), (0, .ref (G.2.1 45)), (1, .int p0), (2, .int p1), (3, .int p2)]) C.1 C.2.1 dX10_beginEnd_57 hl (by decide) rfl (fun ls hl => ?_)
        exact w_X10_beginEnd_L59 p0 p1 p2 C hr FU (st (st (st (st (st (st I 45 23 p0) 45 24 p1) 45 25 p2) 45 26 (0 : Int32)) 45 28 (0 : Int32)) 45 27 (0 : Int32)) p0 (0 : Int32) _ _ _ hH (lv_sub hl [1, 2, 0] rfl) hf
      · have hf := (if_pos q1).symm.trans hf
        refine lv_iconst (v := (1 : Int32)) C.1 C.2.1 dX10_beginEnd_48 (by decide) ?_
        refine lv_goto (tgt := 53) C.1 C.2.1 dX10_beginEnd_49 (by decide) ?_
        refine p_X10_27 C hH kk_45  tw_841 dX10_beginEnd_53 (fun H locs hH => ?_)
        refine lv_iconst (v := (0 : Int32)) C.1 C.2.1 dX10_beginEnd_56 (by decide) ?_
        refine lv_istore (lv' := [(4, .int (0 : Int32)), (0, .ref (G.2.1 45)), (1, .int p0), (2, .int p1), (3, .int p2)]) C.1 C.2.1 dX10_beginEnd_57 hl (by decide) rfl (fun ls hl => ?_)
        exact w_X10_beginEnd_L59 p0 p1 p2 C hr FU (st (st (st (st (st (st I 45 23 p0) 45 24 p1) 45 25 p2) 45 26 (0 : Int32)) 45 28 (0 : Int32)) 45 27 (1 : Int32)) p0 (0 : Int32) _ _ _ hH (lv_sub hl [1, 2, 0] rfl) hf
  · have hf := (if_pos q3).symm.trans hf
    refine lv_iload_n C.1 C.2.1 dX10_beginEnd_32 rfl (lv_at hl 3 rfl) ?_
    refine lv_goto (tgt := 53) C.1 C.2.1 dX10_beginEnd_33 (by decide) ?_
    refine p_X10_27 C hH kk_45  tw_841 dX10_beginEnd_53 (fun H locs hH => ?_)
    refine lv_iconst (v := (0 : Int32)) C.1 C.2.1 dX10_beginEnd_56 (by decide) ?_
    refine lv_istore (lv' := [(4, .int (0 : Int32)), (0, .ref (G.2.1 45)), (1, .int p0), (2, .int p1), (3, .int p2)]) C.1 C.2.1 dX10_beginEnd_57 hl (by decide) rfl (fun ls hl => ?_)
    exact w_X10_beginEnd_L59 p0 p1 p2 C hr FU (st (st (st (st (st (st I 45 23 p0) 45 24 p1) 45 25 p2) 45 26 (0 : Int32)) 45 28 (0 : Int32)) 45 27 p2) p0 (0 : Int32) _ _ _ hH (lv_sub hl [1, 2, 0] rfl) hf
def f_X10_asks_J34 (p0 : Int32)  (I : Mem)  : Option Mem := if ((st I 45 28 (1 : Int32)) 45 23) = (5 : Int32) then (some (st (st I 45 28 (1 : Int32)) 45 27 (1 : Int32))) else (some (st (st I 45 28 (1 : Int32)) 45 27 (0 : Int32)))
set_option maxHeartbeats 4000000 in
set_option maxRecDepth 100000 in
theorem w_X10_asks_J34 {p : Program} {l : Launch} {e : Env} {s : State} {m : MethodId} {args : Array Value} {below : List Frame} {meth : Method} {c : Code} {G : Gx} (p0 : Int32) {J : Mem} (C : CX p l s m args meth c cX10_asks 3 yX10_asks.cls G) (hr : meth.sig.returnType = none) :
    ∀ (I : Mem) (H : Heap) (locs : List Loc) (ls : Array Slot), HW G s H locs I → lv_has ls 3 [(0, .ref (G.2.1 45))] → f_X10_asks_J34 p0 I = some J → W p l e { frames := 1, cells := 0, slots := 0, locals := 22 } s m args below meth c H locs 0 0 (MQ below (Qv9 G J s.heap.size) args s 0 0 (AA G s.heap.size)) (F0 m 34 ls []) := by
  intro I   H locs ls hH hl hf
  have hf : (if ((st I 45 28 (1 : Int32)) 45 23) = (5 : Int32) then (some (st (st I 45 28 (1 : Int32)) 45 27 (1 : Int32))) else (some (st (st I 45 28 (1 : Int32)) 45 27 (0 : Int32)))) = _ := hf
  refine lv_aload_n C.1 C.2.1 dX10_asks_34 rfl (lv_at hl 0 rfl) ?_
  refine lv_iconst (v := (1 : Int32)) C.1 C.2.1 dX10_asks_35 (by decide) ?_
  refine p_X10_28 C hH kk_45 ⟨rfl, rfl⟩ tw_842 dX10_asks_36 (fun H locs hH => ?_)
  refine lv_aload_n C.1 C.2.1 dX10_asks_39 rfl (lv_at hl 0 rfl) ?_
  refine lv_aload_n C.1 C.2.1 dX10_asks_40 rfl (lv_at hl 0 rfl) ?_
  refine g_X10_23 C hH kk_45 tw_837 dX10_asks_41 ?_
  refine lv_iconst (v := (5 : Int32)) C.1 C.2.1 dX10_asks_44 (by decide) ?_
  refine lv_icmp_ne (tgt := 52) C.1 C.2.1 dX10_asks_45 (by decide) (fun q5 => ?_) (fun q5 => ?_)
  · have hf := (if_neg q5).symm.trans hf
    refine lv_iconst (v := (0 : Int32)) C.1 C.2.1 dX10_asks_52 (by decide) ?_
    refine p_X10_27 C hH kk_45  tw_841 dX10_asks_53 (fun H locs hH => ?_)
    cases hf
    exact x_vret C hr hH dX10_asks_56
  · have hf := (if_pos q5).symm.trans hf
    refine lv_iconst (v := (1 : Int32)) C.1 C.2.1 dX10_asks_48 (by decide) ?_
    refine lv_goto (tgt := 53) C.1 C.2.1 dX10_asks_49 (by decide) ?_
    refine p_X10_27 C hH kk_45  tw_841 dX10_asks_53 (fun H locs hH => ?_)
    cases hf
    exact x_vret C hr hH dX10_asks_56
def f_X10_asks (I : Mem) (p0 : Int32) : Option Mem := (f_X10_passes I p0 (I 45 24) (I 45 25)).bind fun q1 => (if (q1.2 45 23) = (6 : Int32) then (if (b2i q1.1) = 0 then (f_X10_asks_J34 p0 q1.2) else (some q1.2)) else (if (b2i q1.1) = 0 then (some q1.2) else (f_X10_asks_J34 p0 q1.2)))
set_option maxHeartbeats 4000000 in
set_option maxRecDepth 100000 in
theorem c_X10_asks (l : Launch) (G : Gx) (I : Mem) (p0 : Int32) {J : Mem} (hf : f_X10_asks I p0 = some J) : Mv l yX10_asks (.code yX10_asks cX10_asks 3 none) 1 22 G I [.ref (G.2.1 45), .int p0] J := by
  refine Mv.of (by decide +kernel) (Nat.le_of_ble_eq_true rfl) (fun p e s m below meth c ls C hr hH hl => ?_)
  have hl : lv_has ls 3 [(0, .ref (G.2.1 45)), (1, .int p0)] := hl
  have hf : ((f_X10_passes I p0 (I 45 24) (I 45 25)).bind fun q1 => (if (q1.2 45 23) = (6 : Int32) then (if (b2i q1.1) = 0 then (f_X10_asks_J34 p0 q1.2) else (some q1.2)) else (if (b2i q1.1) = 0 then (some q1.2) else (f_X10_asks_J34 p0 q1.2)))) = _ := hf
  refine lv_iload_n C.1 C.2.1 dX10_asks_0 rfl (lv_at hl 1 rfl) ?_
  refine lv_aload_n C.1 C.2.1 dX10_asks_1 rfl (lv_at hl 0 rfl) ?_
  refine g_X10_24 C hH kk_45 tw_838 dX10_asks_2 ?_
  refine lv_aload_n C.1 C.2.1 dX10_asks_5 rfl (lv_at hl 0 rfl) ?_
  refine g_X10_25 C hH kk_45 tw_839 dX10_asks_6 ?_
  obtain ⟨q1, hc, hf⟩ := Option.bind_eq_some_iff.mp hf
  refine x_si (n := 3) C hH (c_X10_passes l G I p0 (I 45 24) (I 45 25) hc) tw_1021 tw_1019 tw_1020 tw_57 (by decide +kernel) ⟨Nat.le_of_ble_eq_true rfl, Nat.le_of_ble_eq_true rfl⟩ rfl hl.1 rfl (Nat.le_of_ble_eq_true rfl) ⟨Nat.le_of_ble_eq_true rfl, Nat.le_of_ble_eq_true rfl⟩ dX10_asks_9 (fun H locs hH => ?_)
  refine lv_istore_n (lv' := [(2, .int (b2i q1.1)), (0, .ref (G.2.1 45)), (1, .int p0)]) C.1 C.2.1 dX10_asks_12 rfl hl (by decide) rfl (fun ls hl => ?_)
  refine lv_aload_n C.1 C.2.1 dX10_asks_13 rfl (lv_at hl 1 rfl) ?_
  refine g_X10_23 C hH kk_45 tw_837 dX10_asks_14 ?_
  refine lv_bipush (v := (6 : Int32)) C.1 C.2.1 dX10_asks_17 (by decide) ?_
  refine lv_icmp_ne (tgt := 29) C.1 C.2.1 dX10_asks_19 (by decide) (fun q4 => ?_) (fun q4 => ?_)
  · have hf := (if_neg q4).symm.trans hf
    refine lv_iload_n C.1 C.2.1 dX10_asks_29 rfl (lv_at hl 0 rfl) ?_
    refine lv_if_ne (tgt := 34) C.1 C.2.1 dX10_asks_30 (by decide) (fun q2 => ?_) (fun q2 => ?_)
    · have hf := (if_neg q2).symm.trans hf
      exact w_X10_asks_J34 p0 C hr q1.2 _ _ _ hH (lv_sub hl [1] rfl) hf
    · have hf := (if_pos q2).symm.trans hf
      cases hf
      exact x_vret C hr hH dX10_asks_33
  · have hf := (if_pos q4).symm.trans hf
    refine lv_iload_n C.1 C.2.1 dX10_asks_22 rfl (lv_at hl 0 rfl) ?_
    refine lv_if_eq (tgt := 34) C.1 C.2.1 dX10_asks_23 (by decide) (fun q3 => ?_) (fun q3 => ?_)
    · have hf := (if_pos q3).symm.trans hf
      exact w_X10_asks_J34 p0 C hr q1.2 _ _ _ hH (lv_sub hl [1] rfl) hf
    · have hf := (if_neg q3).symm.trans hf
      refine lv_goto (tgt := 33) C.1 C.2.1 dX10_asks_26 (by decide) ?_
      cases hf
      exact x_vret C hr hH dX10_asks_33
def f_X10_tally_J21 (p0 : Int32)  (I : Mem) (y0 : Int32) : Option Mem := if inb y0 (ln 57) = true then (if (I 57 y0.toNatClampNeg) = 0 then (if inb y0 (ln 57) = true then (if inb y0 (ln 57) = true then (some (st (st I 45 27 ((I 45 27) + (1 : Int32))) 57 y0.toNatClampNeg (((st I 45 27 ((I 45 27) + (1 : Int32))) 57 y0.toNatClampNeg) + (1 : Int32)))) else none) else none) else (if inb y0 (ln 57) = true then (if inb y0 (ln 57) = true then (some (st (st I 45 27 ((I 45 27) + (0 : Int32))) 57 y0.toNatClampNeg (((st I 45 27 ((I 45 27) + (0 : Int32))) 57 y0.toNatClampNeg) + (1 : Int32)))) else none) else none)) else none
set_option maxHeartbeats 4000000 in
set_option maxRecDepth 100000 in
theorem w_X10_tally_J21 {p : Program} {l : Launch} {e : Env} {s : State} {m : MethodId} {args : Array Value} {below : List Frame} {meth : Method} {c : Code} {G : Gx} (p0 : Int32) {J : Mem} (C : CX p l s m args meth c cX10_tally 3 yX10_tally.cls G) (hr : meth.sig.returnType = none) :
    ∀ (I : Mem) (y0 : Int32) (H : Heap) (locs : List Loc) (ls : Array Slot), HW G s H locs I → lv_has ls 3 [(0, .ref (G.2.1 45))] → f_X10_tally_J21 p0 I y0 = some J → W p l e { frames := 0, cells := 0, slots := 0, locals := 0 } s m args below meth c H locs 0 0 (MQ below (Qv9 G J s.heap.size) args s 0 0 (AA G s.heap.size)) (F0 m 21 ls [.int y0]) := by
  intro I y0  H locs ls hH hl hf
  have hf : (if inb y0 (ln 57) = true then (if (I 57 y0.toNatClampNeg) = 0 then (if inb y0 (ln 57) = true then (if inb y0 (ln 57) = true then (some (st (st I 45 27 ((I 45 27) + (1 : Int32))) 57 y0.toNatClampNeg (((st I 45 27 ((I 45 27) + (1 : Int32))) 57 y0.toNatClampNeg) + (1 : Int32)))) else none) else none) else (if inb y0 (ln 57) = true then (if inb y0 (ln 57) = true then (some (st (st I 45 27 ((I 45 27) + (0 : Int32))) 57 y0.toNatClampNeg (((st I 45 27 ((I 45 27) + (0 : Int32))) 57 y0.toNatClampNeg) + (1 : Int32)))) else none) else none)) else none) = _ := hf
  refine lv_istore_n (lv' := [(2, .int y0), (0, .ref (G.2.1 45))]) C.1 C.2.1 dX10_tally_21 rfl hl (by decide) rfl (fun ls hl => ?_)
  refine lv_aload_n C.1 C.2.1 dX10_tally_22 rfl (lv_at hl 1 rfl) ?_
  refine lv_dup C.1 C.2.1 dX10_tally_23 rfl ?_
  refine g_X10_27 C hH kk_45 tw_841 dX10_tally_24 ?_
  refine lv_aload_n C.1 C.2.1 dX10_tally_27 rfl (lv_at hl 1 rfl) ?_
  refine g_X10_29 C hH kk_45 tw_843 dX10_tally_28 ?_
  refine lv_iload_n C.1 C.2.1 dX10_tally_31 rfl (lv_at hl 0 rfl) ?_
  obtain ⟨q3, hf⟩ := itn hf
  refine x_iald C hH kk_57 q3 dX10_tally_32 ?_
  refine lv_if_ne (tgt := 40) C.1 C.2.1 dX10_tally_33 (by decide) (fun q8 => ?_) (fun q8 => ?_)
  · have hf := (if_neg q8).symm.trans hf
    refine lv_iconst (v := (0 : Int32)) C.1 C.2.1 dX10_tally_40 (by decide) ?_
    refine lv_iadd C.1 C.2.1 dX10_tally_41 ?_
    refine p_X10_27 C hH kk_45  tw_841 dX10_tally_42 (fun H locs hH => ?_)
    refine lv_aload_n C.1 C.2.1 dX10_tally_45 rfl (lv_at hl 1 rfl) ?_
    refine g_X10_29 C hH kk_45 tw_843 dX10_tally_46 ?_
    refine lv_iload_n C.1 C.2.1 dX10_tally_49 rfl (lv_at hl 0 rfl) ?_
    refine lv_dup2_11 C.1 C.2.1 dX10_tally_50 rfl rfl ?_
    obtain ⟨q4, hf⟩ := itn hf
    refine x_iald C hH kk_57 q4 dX10_tally_51 ?_
    refine lv_iconst (v := (1 : Int32)) C.1 C.2.1 dX10_tally_52 (by decide) ?_
    refine lv_iadd C.1 C.2.1 dX10_tally_53 ?_
    obtain ⟨q5, hf⟩ := itn hf
    refine x_iast C hH kk_57 q5 dX10_tally_54 (fun H locs hH => ?_)
    cases hf
    exact x_vret C hr hH dX10_tally_55
  · have hf := (if_pos q8).symm.trans hf
    refine lv_iconst (v := (1 : Int32)) C.1 C.2.1 dX10_tally_36 (by decide) ?_
    refine lv_goto (tgt := 41) C.1 C.2.1 dX10_tally_37 (by decide) ?_
    refine lv_iadd C.1 C.2.1 dX10_tally_41 ?_
    refine p_X10_27 C hH kk_45  tw_841 dX10_tally_42 (fun H locs hH => ?_)
    refine lv_aload_n C.1 C.2.1 dX10_tally_45 rfl (lv_at hl 1 rfl) ?_
    refine g_X10_29 C hH kk_45 tw_843 dX10_tally_46 ?_
    refine lv_iload_n C.1 C.2.1 dX10_tally_49 rfl (lv_at hl 0 rfl) ?_
    refine lv_dup2_11 C.1 C.2.1 dX10_tally_50 rfl rfl ?_
    obtain ⟨q6, hf⟩ := itn hf
    refine x_iald C hH kk_57 q6 dX10_tally_51 ?_
    refine lv_iconst (v := (1 : Int32)) C.1 C.2.1 dX10_tally_52 (by decide) ?_
    refine lv_iadd C.1 C.2.1 dX10_tally_53 ?_
    obtain ⟨q7, hf⟩ := itn hf
    refine x_iast C hH kk_57 q7 dX10_tally_54 (fun H locs hH => ?_)
    cases hf
    exact x_vret C hr hH dX10_tally_55
def f_X10_tally (I : Mem) (p0 : Int32) : Option Mem := if (I 45 25) = 0 then none else (if 0 ≤ (p0 - p0 / (I 45 25) * (I 45 25)) then (f_X10_tally_J21 p0 I (p0 - p0 / (I 45 25) * (I 45 25))) else (f_X10_tally_J21 p0 I ((p0 - p0 / (I 45 25) * (I 45 25)) + (I 45 25))))
set_option maxHeartbeats 4000000 in
set_option maxRecDepth 100000 in
theorem c_X10_tally (l : Launch) (G : Gx) (I : Mem) (p0 : Int32) {J : Mem} (hf : f_X10_tally I p0 = some J) : Mv l yX10_tally (.code yX10_tally cX10_tally 3 none) 0 0 G I [.ref (G.2.1 45), .int p0] J := by
  refine Mv.of (by decide +kernel) (Nat.le_of_ble_eq_true rfl) (fun p e s m below meth c ls C hr hH hl => ?_)
  have hl : lv_has ls 3 [(0, .ref (G.2.1 45)), (1, .int p0)] := hl
  have hf : (if (I 45 25) = 0 then none else (if 0 ≤ (p0 - p0 / (I 45 25) * (I 45 25)) then (f_X10_tally_J21 p0 I (p0 - p0 / (I 45 25) * (I 45 25))) else (f_X10_tally_J21 p0 I ((p0 - p0 / (I 45 25) * (I 45 25)) + (I 45 25))))) = _ := hf
  refine lv_iload_n C.1 C.2.1 dX10_tally_0 rfl (lv_at hl 1 rfl) ?_
  refine lv_aload_n C.1 C.2.1 dX10_tally_1 rfl (lv_at hl 0 rfl) ?_
  refine g_X10_25 C hH kk_45 tw_839 dX10_tally_2 ?_
  obtain ⟨q2, hf⟩ := itn' hf
  refine lv_irem C.1 C.2.1 dX10_tally_5 q2 ?_
  refine lv_istore_n (lv' := [(2, .int (p0 - p0 / (I 45 25) * (I 45 25))), (0, .ref (G.2.1 45)), (1, .int p0)]) C.1 C.2.1 dX10_tally_6 rfl hl (by decide) rfl (fun ls hl => ?_)
  refine lv_iload_n C.1 C.2.1 dX10_tally_7 rfl (lv_at hl 0 rfl) ?_
  refine lv_if_ge (tgt := 20) C.1 C.2.1 dX10_tally_8 (by decide) (fun q1 => ?_) (fun q1 => ?_)
  · have hf := (if_pos q1).symm.trans hf
    refine lv_iload_n C.1 C.2.1 dX10_tally_20 rfl (lv_at hl 0 rfl) ?_
    exact w_X10_tally_J21 p0 C hr I (p0 - p0 / (I 45 25) * (I 45 25)) _ _ _ hH (lv_sub hl [1] rfl) hf
  · have hf := (if_neg q1).symm.trans hf
    refine lv_iload_n C.1 C.2.1 dX10_tally_11 rfl (lv_at hl 0 rfl) ?_
    refine lv_aload_n C.1 C.2.1 dX10_tally_12 rfl (lv_at hl 1 rfl) ?_
    refine g_X10_25 C hH kk_45 tw_839 dX10_tally_13 ?_
    refine lv_iadd C.1 C.2.1 dX10_tally_16 ?_
    refine lv_goto (tgt := 21) C.1 C.2.1 dX10_tally_17 (by decide) ?_
    exact w_X10_tally_J21 p0 C hr I ((p0 - p0 / (I 45 25) * (I 45 25)) + (I 45 25)) _ _ _ hH (lv_sub hl [1] rfl) hf
def f_X10_reaches_J12 (p0 : Int32)  (I : Mem) (x1 : Int32) (y0 : Int32) : Option Mem := if ((st I 45 26 ((I 45 26) + (1 : Int32))) 45 23) = (1 : Int32) then (some (st (st I 45 26 ((I 45 26) + (1 : Int32))) 45 27 (((st I 45 26 ((I 45 26) + (1 : Int32))) 45 27) + x1))) else (if ((st I 45 26 ((I 45 26) + (1 : Int32))) 45 23) = (2 : Int32) then (if y0 = 0 then (if ((st I 45 26 ((I 45 26) + (1 : Int32))) 45 27) ≤ x1 then (some (st (st I 45 26 ((I 45 26) + (1 : Int32))) 45 27 ((st I 45 26 ((I 45 26) + (1 : Int32))) 45 27))) else (some (st (st I 45 26 ((I 45 26) + (1 : Int32))) 45 27 x1))) else (some (st (st I 45 26 ((I 45 26) + (1 : Int32))) 45 27 x1))) else (if ((st I 45 26 ((I 45 26) + (1 : Int32))) 45 23) = (3 : Int32) then (if y0 = 0 then (if x1 ≤ ((st I 45 26 ((I 45 26) + (1 : Int32))) 45 27) then (some (st (st I 45 26 ((I 45 26) + (1 : Int32))) 45 27 ((st I 45 26 ((I 45 26) + (1 : Int32))) 45 27))) else (some (st (st I 45 26 ((I 45 26) + (1 : Int32))) 45 27 x1))) else (some (st (st I 45 26 ((I 45 26) + (1 : Int32))) 45 27 x1))) else (if ((st I 45 26 ((I 45 26) + (1 : Int32))) 45 23) = (4 : Int32) then (if y0 = 0 then (some (st (st (st I 45 26 ((I 45 26) + (1 : Int32))) 45 27 ((st I 45 26 ((I 45 26) + (1 : Int32))) 45 27)) 45 28 (1 : Int32))) else (some (st (st (st I 45 26 ((I 45 26) + (1 : Int32))) 45 27 x1) 45 28 (1 : Int32)))) else (if ((st I 45 26 ((I 45 26) + (1 : Int32))) 45 23) = (8 : Int32) then (if ((st I 45 26 ((I 45 26) + (1 : Int32))) 45 24) = 0 then (some (st (st I 45 26 ((I 45 26) + (1 : Int32))) 45 27 (((st I 45 26 ((I 45 26) + (1 : Int32))) 45 27) + x1))) else (if ((st I 45 26 ((I 45 26) + (1 : Int32))) 45 24) = (1 : Int32) then (some (st (st I 45 26 ((I 45 26) + (1 : Int32))) 45 27 (((st I 45 26 ((I 45 26) + (1 : Int32))) 45 27) * x1))) else (some (st (st I 45 26 ((I 45 26) + (1 : Int32))) 45 27 ((((st I 45 26 ((I 45 26) + (1 : Int32))) 45 27) * (31 : Int32)) + x1))))) else (if ((st I 45 26 ((I 45 26) + (1 : Int32))) 45 23) = (9 : Int32) then (if inb (((st I 45 26 ((I 45 26) + (1 : Int32))) 45 26) - (1 : Int32)) (ln 57) = true then (some (st (st I 45 26 ((I 45 26) + (1 : Int32))) 57 (((st I 45 26 ((I 45 26) + (1 : Int32))) 45 26) - (1 : Int32)).toNatClampNeg x1)) else none) else (if ((st I 45 26 ((I 45 26) + (1 : Int32))) 45 23) = (10 : Int32) then ((f_X10_tally (st I 45 26 ((I 45 26) + (1 : Int32))) x1).bind fun q16 => (some q16)) else (if ((st I 45 26 ((I 45 26) + (1 : Int32))) 45 23) < (5 : Int32) then (some (st I 45 26 ((I 45 26) + (1 : Int32)))) else (if (7 : Int32) < ((st I 45 26 ((I 45 26) + (1 : Int32))) 45 23) then (some (st I 45 26 ((I 45 26) + (1 : Int32)))) else (if ((st I 45 26 ((I 45 26) + (1 : Int32))) 45 28) = 0 then ((f_X10_asks (st I 45 26 ((I 45 26) + (1 : Int32))) x1).bind fun q18 => (some q18)) else (some (st I 45 26 ((I 45 26) + (1 : Int32)))))))))))))
set_option maxHeartbeats 4000000 in
set_option maxRecDepth 100000 in
theorem w_X10_reaches_J12 {p : Program} {l : Launch} {e : Env} {s : State} {m : MethodId} {args : Array Value} {below : List Frame} {meth : Method} {c : Code} {G : Gx} (p0 : Int32) {J : Mem} (C : CX p l s m args meth c cX10_reaches 3 yX10_reaches.cls G) (hr : meth.sig.returnType = none) :
    ∀ (I : Mem) (x1 : Int32) (y0 : Int32) (H : Heap) (locs : List Loc) (ls : Array Slot), HW G s H locs I → lv_has ls 3 [(0, .ref (G.2.1 45)), (1, .int x1)] → f_X10_reaches_J12 p0 I x1 y0 = some J → W p l e { frames := 2, cells := 0, slots := 0, locals := 44 } s m args below meth c H locs 0 0 (MQ below (Qv9 G J s.heap.size) args s 0 0 (AA G s.heap.size)) (F0 m 12 ls [.int y0]) := by
  intro I x1 y0  H locs ls hH hl hf
  have hf : (if ((st I 45 26 ((I 45 26) + (1 : Int32))) 45 23) = (1 : Int32) then (some (st (st I 45 26 ((I 45 26) + (1 : Int32))) 45 27 (((st I 45 26 ((I 45 26) + (1 : Int32))) 45 27) + x1))) else (if ((st I 45 26 ((I 45 26) + (1 : Int32))) 45 23) = (2 : Int32) then (if y0 = 0 then (if ((st I 45 26 ((I 45 26) + (1 : Int32))) 45 27) ≤ x1 then (some (st (st I 45 26 ((I 45 26) + (1 : Int32))) 45 27 ((st I 45 26 ((I 45 26) + (1 : Int32))) 45 27))) else (some (st (st I 45 26 ((I 45 26) + (1 : Int32))) 45 27 x1))) else (some (st (st I 45 26 ((I 45 26) + (1 : Int32))) 45 27 x1))) else (if ((st I 45 26 ((I 45 26) + (1 : Int32))) 45 23) = (3 : Int32) then (if y0 = 0 then (if x1 ≤ ((st I 45 26 ((I 45 26) + (1 : Int32))) 45 27) then (some (st (st I 45 26 ((I 45 26) + (1 : Int32))) 45 27 ((st I 45 26 ((I 45 26) + (1 : Int32))) 45 27))) else (some (st (st I 45 26 ((I 45 26) + (1 : Int32))) 45 27 x1))) else (some (st (st I 45 26 ((I 45 26) + (1 : Int32))) 45 27 x1))) else (if ((st I 45 26 ((I 45 26) + (1 : Int32))) 45 23) = (4 : Int32) then (if y0 = 0 then (some (st (st (st I 45 26 ((I 45 26) + (1 : Int32))) 45 27 ((st I 45 26 ((I 45 26) + (1 : Int32))) 45 27)) 45 28 (1 : Int32))) else (some (st (st (st I 45 26 ((I 45 26) + (1 : Int32))) 45 27 x1) 45 28 (1 : Int32)))) else (if ((st I 45 26 ((I 45 26) + (1 : Int32))) 45 23) = (8 : Int32) then (if ((st I 45 26 ((I 45 26) + (1 : Int32))) 45 24) = 0 then (some (st (st I 45 26 ((I 45 26) + (1 : Int32))) 45 27 (((st I 45 26 ((I 45 26) + (1 : Int32))) 45 27) + x1))) else (if ((st I 45 26 ((I 45 26) + (1 : Int32))) 45 24) = (1 : Int32) then (some (st (st I 45 26 ((I 45 26) + (1 : Int32))) 45 27 (((st I 45 26 ((I 45 26) + (1 : Int32))) 45 27) * x1))) else (some (st (st I 45 26 ((I 45 26) + (1 : Int32))) 45 27 ((((st I 45 26 ((I 45 26) + (1 : Int32))) 45 27) * (31 : Int32)) + x1))))) else (if ((st I 45 26 ((I 45 26) + (1 : Int32))) 45 23) = (9 : Int32) then (if inb (((st I 45 26 ((I 45 26) + (1 : Int32))) 45 26) - (1 : Int32)) (ln 57) = true then (some (st (st I 45 26 ((I 45 26) + (1 : Int32))) 57 (((st I 45 26 ((I 45 26) + (1 : Int32))) 45 26) - (1 : Int32)).toNatClampNeg x1)) else none) else (if ((st I 45 26 ((I 45 26) + (1 : Int32))) 45 23) = (10 : Int32) then ((f_X10_tally (st I 45 26 ((I 45 26) + (1 : Int32))) x1).bind fun q16 => (some q16)) else (if ((st I 45 26 ((I 45 26) + (1 : Int32))) 45 23) < (5 : Int32) then (some (st I 45 26 ((I 45 26) + (1 : Int32)))) else (if (7 : Int32) < ((st I 45 26 ((I 45 26) + (1 : Int32))) 45 23) then (some (st I 45 26 ((I 45 26) + (1 : Int32)))) else (if ((st I 45 26 ((I 45 26) + (1 : Int32))) 45 28) = 0 then ((f_X10_asks (st I 45 26 ((I 45 26) + (1 : Int32))) x1).bind fun q18 => (some q18)) else (some (st I 45 26 ((I 45 26) + (1 : Int32)))))))))))))) = _ := hf
  refine lv_istore_n (lv' := [(2, .int y0), (0, .ref (G.2.1 45)), (1, .int x1)]) C.1 C.2.1 dX10_reaches_12 rfl hl (by decide) rfl (fun ls hl => ?_)
  refine lv_aload_n C.1 C.2.1 dX10_reaches_13 rfl (lv_at hl 1 rfl) ?_
  refine lv_dup C.1 C.2.1 dX10_reaches_14 rfl ?_
  refine g_X10_26 C hH kk_45 tw_840 dX10_reaches_15 ?_
  refine lv_iconst (v := (1 : Int32)) C.1 C.2.1 dX10_reaches_18 (by decide) ?_
  refine lv_iadd C.1 C.2.1 dX10_reaches_19 ?_
  refine p_X10_26 C hH kk_45  tw_840 dX10_reaches_20 (fun H locs hH => ?_)
  refine lv_aload_n C.1 C.2.1 dX10_reaches_23 rfl (lv_at hl 1 rfl) ?_
  refine g_X10_23 C hH kk_45 tw_837 dX10_reaches_24 ?_
  by_cases q2 : ((st I 45 26 ((I 45 26) + (1 : Int32))) 45 23) = (1 : Int32)
  · have hf := (if_pos q2).symm.trans hf
    refine lv_tableIn (tgt := 80) (off := 53) C.1 C.2.1 dX10_reaches_27 (by rw [q2]; decide) (by rw [q2]; decide) (by rw [q2]; decide) (by decide) ?_
    refine lv_aload_n C.1 C.2.1 dX10_reaches_80 rfl (lv_at hl 1 rfl) ?_
    refine lv_dup C.1 C.2.1 dX10_reaches_81 rfl ?_
    refine g_X10_27 C hH kk_45 tw_841 dX10_reaches_82 ?_
    refine lv_iload_n C.1 C.2.1 dX10_reaches_85 rfl (lv_at hl 2 rfl) ?_
    refine lv_iadd C.1 C.2.1 dX10_reaches_86 ?_
    refine p_X10_27 C hH kk_45  tw_841 dX10_reaches_87 (fun H locs hH => ?_)
    refine lv_goto (tgt := 272) C.1 C.2.1 dX10_reaches_90 (by decide) ?_
    cases hf
    exact x_vret C hr hH dX10_reaches_272
  · have hf := (if_neg q2).symm.trans hf
    by_cases q5 : ((st I 45 26 ((I 45 26) + (1 : Int32))) 45 23) = (2 : Int32)
    · have hf := (if_pos q5).symm.trans hf
      refine lv_tableIn (tgt := 93) (off := 66) C.1 C.2.1 dX10_reaches_27 (by rw [q5]; decide) (by rw [q5]; decide) (by rw [q5]; decide) (by decide) ?_
      refine lv_aload_n C.1 C.2.1 dX10_reaches_93 rfl (lv_at hl 1 rfl) ?_
      refine lv_iload_n C.1 C.2.1 dX10_reaches_94 rfl (lv_at hl 0 rfl) ?_
      refine lv_if_ne (tgt := 106) C.1 C.2.1 dX10_reaches_95 (by decide) (fun q4 => ?_) (fun q4 => ?_)
      · have hf := (if_neg q4).symm.trans hf
        refine lv_iload_n C.1 C.2.1 dX10_reaches_106 rfl (lv_at hl 2 rfl) ?_
        refine lv_goto (tgt := 114) C.1 C.2.1 dX10_reaches_107 (by decide) ?_
        refine p_X10_27 C hH kk_45  tw_841 dX10_reaches_114 (fun H locs hH => ?_)
        refine lv_goto (tgt := 272) C.1 C.2.1 dX10_reaches_117 (by decide) ?_
        cases hf
        exact x_vret C hr hH dX10_reaches_272
      · have hf := (if_pos q4).symm.trans hf
        refine lv_iload_n C.1 C.2.1 dX10_reaches_98 rfl (lv_at hl 2 rfl) ?_
        refine lv_aload_n C.1 C.2.1 dX10_reaches_99 rfl (lv_at hl 1 rfl) ?_
        refine g_X10_27 C hH kk_45 tw_841 dX10_reaches_100 ?_
        refine lv_icmp_ge (tgt := 110) C.1 C.2.1 dX10_reaches_103 (by decide) (fun q3 => ?_) (fun q3 => ?_)
        · have hf := (if_pos q3).symm.trans hf
          refine lv_aload_n C.1 C.2.1 dX10_reaches_110 rfl (lv_at hl 1 rfl) ?_
          refine g_X10_27 C hH kk_45 tw_841 dX10_reaches_111 ?_
          refine p_X10_27 C hH kk_45  tw_841 dX10_reaches_114 (fun H locs hH => ?_)
          refine lv_goto (tgt := 272) C.1 C.2.1 dX10_reaches_117 (by decide) ?_
          cases hf
          exact x_vret C hr hH dX10_reaches_272
        · have hf := (if_neg q3).symm.trans hf
          refine lv_iload_n C.1 C.2.1 dX10_reaches_106 rfl (lv_at hl 2 rfl) ?_
          refine lv_goto (tgt := 114) C.1 C.2.1 dX10_reaches_107 (by decide) ?_
          refine p_X10_27 C hH kk_45  tw_841 dX10_reaches_114 (fun H locs hH => ?_)
          refine lv_goto (tgt := 272) C.1 C.2.1 dX10_reaches_117 (by decide) ?_
          cases hf
          exact x_vret C hr hH dX10_reaches_272
    · have hf := (if_neg q5).symm.trans hf
      by_cases q8 : ((st I 45 26 ((I 45 26) + (1 : Int32))) 45 23) = (3 : Int32)
      · have hf := (if_pos q8).symm.trans hf
        refine lv_tableIn (tgt := 120) (off := 93) C.1 C.2.1 dX10_reaches_27 (by rw [q8]; decide) (by rw [q8]; decide) (by rw [q8]; decide) (by decide) ?_
        refine lv_aload_n C.1 C.2.1 dX10_reaches_120 rfl (lv_at hl 1 rfl) ?_
        refine lv_iload_n C.1 C.2.1 dX10_reaches_121 rfl (lv_at hl 0 rfl) ?_
        refine lv_if_ne (tgt := 133) C.1 C.2.1 dX10_reaches_122 (by decide) (fun q7 => ?_) (fun q7 => ?_)
        · have hf := (if_neg q7).symm.trans hf
          refine lv_iload_n C.1 C.2.1 dX10_reaches_133 rfl (lv_at hl 2 rfl) ?_
          refine lv_goto (tgt := 141) C.1 C.2.1 dX10_reaches_134 (by decide) ?_
          refine p_X10_27 C hH kk_45  tw_841 dX10_reaches_141 (fun H locs hH => ?_)
          refine lv_goto (tgt := 272) C.1 C.2.1 dX10_reaches_144 (by decide) ?_
          cases hf
          exact x_vret C hr hH dX10_reaches_272
        · have hf := (if_pos q7).symm.trans hf
          refine lv_iload_n C.1 C.2.1 dX10_reaches_125 rfl (lv_at hl 2 rfl) ?_
          refine lv_aload_n C.1 C.2.1 dX10_reaches_126 rfl (lv_at hl 1 rfl) ?_
          refine g_X10_27 C hH kk_45 tw_841 dX10_reaches_127 ?_
          refine lv_icmp_le (tgt := 137) C.1 C.2.1 dX10_reaches_130 (by decide) (fun q6 => ?_) (fun q6 => ?_)
          · have hf := (if_pos q6).symm.trans hf
            refine lv_aload_n C.1 C.2.1 dX10_reaches_137 rfl (lv_at hl 1 rfl) ?_
            refine g_X10_27 C hH kk_45 tw_841 dX10_reaches_138 ?_
            refine p_X10_27 C hH kk_45  tw_841 dX10_reaches_141 (fun H locs hH => ?_)
            refine lv_goto (tgt := 272) C.1 C.2.1 dX10_reaches_144 (by decide) ?_
            cases hf
            exact x_vret C hr hH dX10_reaches_272
          · have hf := (if_neg q6).symm.trans hf
            refine lv_iload_n C.1 C.2.1 dX10_reaches_133 rfl (lv_at hl 2 rfl) ?_
            refine lv_goto (tgt := 141) C.1 C.2.1 dX10_reaches_134 (by decide) ?_
            refine p_X10_27 C hH kk_45  tw_841 dX10_reaches_141 (fun H locs hH => ?_)
            refine lv_goto (tgt := 272) C.1 C.2.1 dX10_reaches_144 (by decide) ?_
            cases hf
            exact x_vret C hr hH dX10_reaches_272
      · have hf := (if_neg q8).symm.trans hf
        by_cases q10 : ((st I 45 26 ((I 45 26) + (1 : Int32))) 45 23) = (4 : Int32)
        · have hf := (if_pos q10).symm.trans hf
          refine lv_tableIn (tgt := 147) (off := 120) C.1 C.2.1 dX10_reaches_27 (by rw [q10]; decide) (by rw [q10]; decide) (by rw [q10]; decide) (by decide) ?_
          refine lv_aload_n C.1 C.2.1 dX10_reaches_147 rfl (lv_at hl 1 rfl) ?_
          refine lv_iload_n C.1 C.2.1 dX10_reaches_148 rfl (lv_at hl 0 rfl) ?_
          refine lv_if_eq (tgt := 156) C.1 C.2.1 dX10_reaches_149 (by decide) (fun q9 => ?_) (fun q9 => ?_)
          · have hf := (if_pos q9).symm.trans hf
            refine lv_aload_n C.1 C.2.1 dX10_reaches_156 rfl (lv_at hl 1 rfl) ?_
            refine g_X10_27 C hH kk_45 tw_841 dX10_reaches_157 ?_
            refine p_X10_27 C hH kk_45  tw_841 dX10_reaches_160 (fun H locs hH => ?_)
            refine lv_aload_n C.1 C.2.1 dX10_reaches_163 rfl (lv_at hl 1 rfl) ?_
            refine lv_iconst (v := (1 : Int32)) C.1 C.2.1 dX10_reaches_164 (by decide) ?_
            refine p_X10_28 C hH kk_45 ⟨rfl, rfl⟩ tw_842 dX10_reaches_165 (fun H locs hH => ?_)
            refine lv_goto (tgt := 272) C.1 C.2.1 dX10_reaches_168 (by decide) ?_
            cases hf
            exact x_vret C hr hH dX10_reaches_272
          · have hf := (if_neg q9).symm.trans hf
            refine lv_iload_n C.1 C.2.1 dX10_reaches_152 rfl (lv_at hl 2 rfl) ?_
            refine lv_goto (tgt := 160) C.1 C.2.1 dX10_reaches_153 (by decide) ?_
            refine p_X10_27 C hH kk_45  tw_841 dX10_reaches_160 (fun H locs hH => ?_)
            refine lv_aload_n C.1 C.2.1 dX10_reaches_163 rfl (lv_at hl 1 rfl) ?_
            refine lv_iconst (v := (1 : Int32)) C.1 C.2.1 dX10_reaches_164 (by decide) ?_
            refine p_X10_28 C hH kk_45 ⟨rfl, rfl⟩ tw_842 dX10_reaches_165 (fun H locs hH => ?_)
            refine lv_goto (tgt := 272) C.1 C.2.1 dX10_reaches_168 (by decide) ?_
            cases hf
            exact x_vret C hr hH dX10_reaches_272
        · have hf := (if_neg q10).symm.trans hf
          by_cases q13 : ((st I 45 26 ((I 45 26) + (1 : Int32))) 45 23) = (8 : Int32)
          · have hf := (if_pos q13).symm.trans hf
            refine lv_tableIn (tgt := 171) (off := 144) C.1 C.2.1 dX10_reaches_27 (by rw [q13]; decide) (by rw [q13]; decide) (by rw [q13]; decide) (by decide) ?_
            refine lv_aload_n C.1 C.2.1 dX10_reaches_171 rfl (lv_at hl 1 rfl) ?_
            refine lv_aload_n C.1 C.2.1 dX10_reaches_172 rfl (lv_at hl 1 rfl) ?_
            refine g_X10_24 C hH kk_45 tw_838 dX10_reaches_173 ?_
            refine lv_if_ne (tgt := 188) C.1 C.2.1 dX10_reaches_176 (by decide) (fun q12 => ?_) (fun q12 => ?_)
            · have hf := (if_neg q12).symm.trans hf
              refine lv_aload_n C.1 C.2.1 dX10_reaches_188 rfl (lv_at hl 1 rfl) ?_
              refine g_X10_24 C hH kk_45 tw_838 dX10_reaches_189 ?_
              refine lv_iconst (v := (1 : Int32)) C.1 C.2.1 dX10_reaches_192 (by decide) ?_
              refine lv_icmp_ne (tgt := 205) C.1 C.2.1 dX10_reaches_193 (by decide) (fun q11 => ?_) (fun q11 => ?_)
              · have hf := (if_neg q11).symm.trans hf
                refine lv_aload_n C.1 C.2.1 dX10_reaches_205 rfl (lv_at hl 1 rfl) ?_
                refine g_X10_27 C hH kk_45 tw_841 dX10_reaches_206 ?_
                refine lv_bipush (v := (31 : Int32)) C.1 C.2.1 dX10_reaches_209 (by decide) ?_
                refine lv_imul C.1 C.2.1 dX10_reaches_211 ?_
                refine lv_iload_n C.1 C.2.1 dX10_reaches_212 rfl (lv_at hl 2 rfl) ?_
                refine lv_iadd C.1 C.2.1 dX10_reaches_213 ?_
                refine p_X10_27 C hH kk_45  tw_841 dX10_reaches_214 (fun H locs hH => ?_)
                refine lv_goto (tgt := 272) C.1 C.2.1 dX10_reaches_217 (by decide) ?_
                cases hf
                exact x_vret C hr hH dX10_reaches_272
              · have hf := (if_pos q11).symm.trans hf
                refine lv_aload_n C.1 C.2.1 dX10_reaches_196 rfl (lv_at hl 1 rfl) ?_
                refine g_X10_27 C hH kk_45 tw_841 dX10_reaches_197 ?_
                refine lv_iload_n C.1 C.2.1 dX10_reaches_200 rfl (lv_at hl 2 rfl) ?_
                refine lv_imul C.1 C.2.1 dX10_reaches_201 ?_
                refine lv_goto (tgt := 214) C.1 C.2.1 dX10_reaches_202 (by decide) ?_
                refine p_X10_27 C hH kk_45  tw_841 dX10_reaches_214 (fun H locs hH => ?_)
                refine lv_goto (tgt := 272) C.1 C.2.1 dX10_reaches_217 (by decide) ?_
                cases hf
                exact x_vret C hr hH dX10_reaches_272
            · have hf := (if_pos q12).symm.trans hf
              refine lv_aload_n C.1 C.2.1 dX10_reaches_179 rfl (lv_at hl 1 rfl) ?_
              refine g_X10_27 C hH kk_45 tw_841 dX10_reaches_180 ?_
              refine lv_iload_n C.1 C.2.1 dX10_reaches_183 rfl (lv_at hl 2 rfl) ?_
              refine lv_iadd C.1 C.2.1 dX10_reaches_184 ?_
              refine lv_goto (tgt := 214) C.1 C.2.1 dX10_reaches_185 (by decide) ?_
              refine p_X10_27 C hH kk_45  tw_841 dX10_reaches_214 (fun H locs hH => ?_)
              refine lv_goto (tgt := 272) C.1 C.2.1 dX10_reaches_217 (by decide) ?_
              cases hf
              exact x_vret C hr hH dX10_reaches_272
          · have hf := (if_neg q13).symm.trans hf
            by_cases q15 : ((st I 45 26 ((I 45 26) + (1 : Int32))) 45 23) = (9 : Int32)
            · have hf := (if_pos q15).symm.trans hf
              refine lv_tableIn (tgt := 220) (off := 193) C.1 C.2.1 dX10_reaches_27 (by rw [q15]; decide) (by rw [q15]; decide) (by rw [q15]; decide) (by decide) ?_
              refine lv_aload_n C.1 C.2.1 dX10_reaches_220 rfl (lv_at hl 1 rfl) ?_
              refine g_X10_29 C hH kk_45 tw_843 dX10_reaches_221 ?_
              refine lv_aload_n C.1 C.2.1 dX10_reaches_224 rfl (lv_at hl 1 rfl) ?_
              refine g_X10_26 C hH kk_45 tw_840 dX10_reaches_225 ?_
              refine lv_iconst (v := (1 : Int32)) C.1 C.2.1 dX10_reaches_228 (by decide) ?_
              refine lv_isub C.1 C.2.1 dX10_reaches_229 ?_
              refine lv_iload_n C.1 C.2.1 dX10_reaches_230 rfl (lv_at hl 2 rfl) ?_
              obtain ⟨q14, hf⟩ := itn hf
              refine x_iast C hH kk_57 q14 dX10_reaches_231 (fun H locs hH => ?_)
              refine lv_goto (tgt := 272) C.1 C.2.1 dX10_reaches_232 (by decide) ?_
              cases hf
              exact x_vret C hr hH dX10_reaches_272
            · have hf := (if_neg q15).symm.trans hf
              by_cases q17 : ((st I 45 26 ((I 45 26) + (1 : Int32))) 45 23) = (10 : Int32)
              · have hf := (if_pos q17).symm.trans hf
                refine lv_tableIn (tgt := 235) (off := 208) C.1 C.2.1 dX10_reaches_27 (by rw [q17]; decide) (by rw [q17]; decide) (by rw [q17]; decide) (by decide) ?_
                refine lv_aload_n C.1 C.2.1 dX10_reaches_235 rfl (lv_at hl 1 rfl) ?_
                refine lv_iload_n C.1 C.2.1 dX10_reaches_236 rfl (lv_at hl 2 rfl) ?_
                obtain ⟨q16, hc, hf⟩ := Option.bind_eq_some_iff.mp hf
                refine x_cv (n := 1) C hH (c_X10_tally l G (st I 45 26 ((I 45 26) + (1 : Int32))) x1 hc) (kd_lt kk_45 (by decide)) (cE_10 kk_45) rfl tw_1040 tw_1037 tw_1039 tw_36 tw_57 (by decide +kernel) ⟨Nat.le_of_ble_eq_true rfl, Nat.le_of_ble_eq_true rfl⟩ rfl hl.1 rfl (Nat.le_of_ble_eq_true rfl) ⟨Nat.le_of_ble_eq_true rfl, Nat.le_of_ble_eq_true rfl⟩ dX10_reaches_237 (fun H locs hH => ?_)
                refine lv_goto (tgt := 272) C.1 C.2.1 dX10_reaches_240 (by decide) ?_
                cases hf
                exact x_vret C hr hH dX10_reaches_272
              · have hf := (if_neg q17).symm.trans hf
                have q2' := ne_toInt (z := 1) (by decide) q2
                have q5' := ne_toInt (z := 2) (by decide) q5
                have q8' := ne_toInt (z := 3) (by decide) q8
                have q10' := ne_toInt (z := 4) (by decide) q10
                have q13' := ne_toInt (z := 8) (by decide) q13
                have q15' := ne_toInt (z := 9) (by decide) q15
                have q17' := ne_toInt (z := 10) (by decide) q17
                refine x_tblD (tgt := 243) C.1 C.2.1 dX10_reaches_27 ?_ (by decide) ?_
                · by_cases hlo : ((st I 45 26 ((I 45 26) + (1 : Int32))) 45 23).toInt < 1
                  · exact Or.inl (Or.inl hlo)
                  · by_cases hhi : 10 < ((st I 45 26 ((I 45 26) + (1 : Int32))) 45 23).toInt
                    · exact Or.inl (Or.inr hhi)
                    · refine Or.inr ⟨hlo, hhi, ?_⟩
                      have hv : ((st I 45 26 ((I 45 26) + (1 : Int32))) 45 23).toInt = 5 ∨ ((st I 45 26 ((I 45 26) + (1 : Int32))) 45 23).toInt = 6 ∨ ((st I 45 26 ((I 45 26) + (1 : Int32))) 45 23).toInt = 7 := by omega
                      rcases hv with hv | hv | hv <;> (rw [hv]; decide)
                · refine lv_aload_n C.1 C.2.1 dX10_reaches_243 rfl (lv_at hl 1 rfl) ?_
                  refine g_X10_23 C hH kk_45 tw_837 dX10_reaches_244 ?_
                  refine lv_iconst (v := (5 : Int32)) C.1 C.2.1 dX10_reaches_247 (by decide) ?_
                  refine lv_icmp_lt (tgt := 272) C.1 C.2.1 dX10_reaches_248 (by decide) (fun q21 => ?_) (fun q21 => ?_)
                  · have hf := (if_pos q21).symm.trans hf
                    cases hf
                    exact x_vret C hr hH dX10_reaches_272
                  · have hf := (if_neg q21).symm.trans hf
                    refine lv_aload_n C.1 C.2.1 dX10_reaches_251 rfl (lv_at hl 1 rfl) ?_
                    refine g_X10_23 C hH kk_45 tw_837 dX10_reaches_252 ?_
                    refine lv_bipush (v := (7 : Int32)) C.1 C.2.1 dX10_reaches_255 (by decide) ?_
                    refine lv_icmp_gt (tgt := 272) C.1 C.2.1 dX10_reaches_257 (by decide) (fun q20 => ?_) (fun q20 => ?_)
                    · have hf := (if_pos q20).symm.trans hf
                      cases hf
                      exact x_vret C hr hH dX10_reaches_272
                    · have hf := (if_neg q20).symm.trans hf
                      refine lv_aload_n C.1 C.2.1 dX10_reaches_260 rfl (lv_at hl 1 rfl) ?_
                      refine g_X10_28 C hH kk_45 tw_842 dX10_reaches_261 ?_
                      refine lv_if_ne (tgt := 272) C.1 C.2.1 dX10_reaches_264 (by decide) (fun q19 => ?_) (fun q19 => ?_)
                      · have hf := (if_neg q19).symm.trans hf
                        cases hf
                        exact x_vret C hr hH dX10_reaches_272
                      · have hf := (if_pos q19).symm.trans hf
                        refine lv_aload_n C.1 C.2.1 dX10_reaches_267 rfl (lv_at hl 1 rfl) ?_
                        refine lv_iload_n C.1 C.2.1 dX10_reaches_268 rfl (lv_at hl 2 rfl) ?_
                        obtain ⟨q18, hc, hf⟩ := Option.bind_eq_some_iff.mp hf
                        refine x_cv (n := 1) C hH (c_X10_asks l G (st I 45 26 ((I 45 26) + (1 : Int32))) x1 hc) (kd_lt kk_45 (by decide)) (cE_10 kk_45) rfl tw_1044 tw_1041 tw_1043 tw_37 tw_57 (by decide +kernel) ⟨Nat.le_of_ble_eq_true rfl, Nat.le_of_ble_eq_true rfl⟩ rfl hl.1 rfl (Nat.le_of_ble_eq_true rfl) ⟨Nat.le_of_ble_eq_true rfl, Nat.le_of_ble_eq_true rfl⟩ dX10_reaches_269 (fun H locs hH => ?_)
                        cases hf
                        exact x_vret C hr hH dX10_reaches_272
def f_X10_reaches (I : Mem) (p0 : Int32) : Option Mem := if (I 45 26) = 0 then (f_X10_reaches_J12 p0 I p0 (1 : Int32)) else (f_X10_reaches_J12 p0 I p0 (0 : Int32))
set_option maxHeartbeats 4000000 in
set_option maxRecDepth 100000 in
theorem c_X10_reaches (l : Launch) (G : Gx) (I : Mem) (p0 : Int32) {J : Mem} (hf : f_X10_reaches I p0 = some J) : Mv l yX10_reaches (.code yX10_reaches cX10_reaches 3 none) 2 44 G I [.ref (G.2.1 45), .int p0] J := by
  refine Mv.of (by decide +kernel) (Nat.le_of_ble_eq_true rfl) (fun p e s m below meth c ls C hr hH hl => ?_)
  have hl : lv_has ls 3 [(0, .ref (G.2.1 45)), (1, .int p0)] := hl
  have hf : (if (I 45 26) = 0 then (f_X10_reaches_J12 p0 I p0 (1 : Int32)) else (f_X10_reaches_J12 p0 I p0 (0 : Int32))) = _ := hf
  refine lv_aload_n C.1 C.2.1 dX10_reaches_0 rfl (lv_at hl 0 rfl) ?_
  refine g_X10_26 C hH kk_45 tw_840 dX10_reaches_1 ?_
  refine lv_if_ne (tgt := 11) C.1 C.2.1 dX10_reaches_4 (by decide) (fun q1 => ?_) (fun q1 => ?_)
  · have hf := (if_neg q1).symm.trans hf
    refine lv_iconst (v := (0 : Int32)) C.1 C.2.1 dX10_reaches_11 (by decide) ?_
    exact w_X10_reaches_J12 p0 C hr I p0 (0 : Int32) _ _ _ hH (lv_sub hl [0, 1] rfl) hf
  · have hf := (if_pos q1).symm.trans hf
    refine lv_iconst (v := (1 : Int32)) C.1 C.2.1 dX10_reaches_7 (by decide) ?_
    refine lv_goto (tgt := 12) C.1 C.2.1 dX10_reaches_8 (by decide) ?_
    exact w_X10_reaches_J12 p0 C hr I p0 (1 : Int32) _ _ _ hH (lv_sub hl [0, 1] rfl) hf
def f_X10_answer_J112   (I : Mem)  : Option (Int32 × Mem) := if (I 45 23) = 0 then (some ((I 45 26), I)) else (if (I 45 23) = (9 : Int32) then (some ((I 45 26), I)) else (some ((I 45 27), I)))
set_option maxHeartbeats 4000000 in
set_option maxRecDepth 100000 in
theorem w_X10_answer_J112 {p : Program} {l : Launch} {e : Env} {s : State} {m : MethodId} {args : Array Value} {below : List Frame} {meth : Method} {c : Code} {G : Gx} {res : Int32} {J : Mem} (C : CX p l s m args meth c cX10_answer 2 yX10_answer.cls G) (hr : meth.sig.returnType = (some .int)) :
    ∀ (I : Mem) (H : Heap) (locs : List Loc) (ls : Array Slot), HW G s H locs I → lv_has ls 2 [(0, .ref (G.2.1 45))] → f_X10_answer_J112 I = some (res, J) → W p l e { frames := 1, cells := 0, slots := 0, locals := 21 } s m args below meth c H locs 0 0 (MQ below (Qi9 G res J s.heap.size) args s 0 0 (AA G s.heap.size)) (F0 m 112 ls []) := by
  intro I   H locs ls hH hl hf
  have hf : (if (I 45 23) = 0 then (some ((I 45 26), I)) else (if (I 45 23) = (9 : Int32) then (some ((I 45 26), I)) else (some ((I 45 27), I)))) = _ := hf
  refine lv_aload_n C.1 C.2.1 dX10_answer_112 rfl (lv_at hl 0 rfl) ?_
  refine g_X10_23 C hH kk_45 tw_837 dX10_answer_113 ?_
  refine lv_if_eq (tgt := 128) C.1 C.2.1 dX10_answer_116 (by decide) (fun q11 => ?_) (fun q11 => ?_)
  · have hf := (if_pos q11).symm.trans hf
    refine lv_aload_n C.1 C.2.1 dX10_answer_128 rfl (lv_at hl 0 rfl) ?_
    refine g_X10_26 C hH kk_45 tw_840 dX10_answer_129 ?_
    refine lv_goto (tgt := 139) C.1 C.2.1 dX10_answer_132 (by decide) ?_
    cases hf
    exact x_iret C hr hH dX10_answer_139
  · have hf := (if_neg q11).symm.trans hf
    refine lv_aload_n C.1 C.2.1 dX10_answer_119 rfl (lv_at hl 0 rfl) ?_
    refine g_X10_23 C hH kk_45 tw_837 dX10_answer_120 ?_
    refine lv_bipush (v := (9 : Int32)) C.1 C.2.1 dX10_answer_123 (by decide) ?_
    refine lv_icmp_ne (tgt := 135) C.1 C.2.1 dX10_answer_125 (by decide) (fun q10 => ?_) (fun q10 => ?_)
    · have hf := (if_neg q10).symm.trans hf
      refine lv_aload_n C.1 C.2.1 dX10_answer_135 rfl (lv_at hl 0 rfl) ?_
      refine g_X10_27 C hH kk_45 tw_841 dX10_answer_136 ?_
      cases hf
      exact x_iret C hr hH dX10_answer_139
    · have hf := (if_pos q10).symm.trans hf
      refine lv_aload_n C.1 C.2.1 dX10_answer_128 rfl (lv_at hl 0 rfl) ?_
      refine g_X10_26 C hH kk_45 tw_840 dX10_answer_129 ?_
      refine lv_goto (tgt := 139) C.1 C.2.1 dX10_answer_132 (by decide) ?_
      cases hf
      exact x_iret C hr hH dX10_answer_139
def f_X10_answer_L86   : Nat → Mem → Int32 → Option (Int32 × Mem)
  | 0, _, _ => none
  | n + 1, I, x1 => if (I 45 30) ≤ x1 then (f_X10_answer_J112 I) else (if inb x1 (ln 57) = true then (if inb x1 (ln 58) = true then (f_X10_answer_L86 n (st I 58 x1.toNatClampNeg (I 57 x1.toNatClampNeg)) (x1 + (1 : Int32))) else none) else none)
set_option maxHeartbeats 4000000 in
set_option maxRecDepth 100000 in
theorem w_X10_answer_L86 {p : Program} {l : Launch} {e : Env} {s : State} {m : MethodId} {args : Array Value} {below : List Frame} {meth : Method} {c : Code} {G : Gx} {res : Int32} {J : Mem} (C : CX p l s m args meth c cX10_answer 2 yX10_answer.cls G) (hr : meth.sig.returnType = (some .int)) :
    ∀ (n : Nat) (I : Mem) (x1 : Int32) (H : Heap) (locs : List Loc) (ls : Array Slot), HW G s H locs I → lv_has ls 2 [(0, .ref (G.2.1 45)), (1, .int x1)] → f_X10_answer_L86 n I x1 = some (res, J) → W p l e { frames := 1, cells := 0, slots := 0, locals := 21 } s m args below meth c H locs 0 0 (MQ below (Qi9 G res J s.heap.size) args s 0 0 (AA G s.heap.size)) (F0 m 86 ls []) := by
  intro n
  induction n with
  | zero => intro I x1  H locs ls hH hl hf; exact absurd hf (by simp [f_X10_answer_L86])
  | succ n ih =>
    intro I x1  H locs ls hH hl hf
    have hf : (if (I 45 30) ≤ x1 then (f_X10_answer_J112 I) else (if inb x1 (ln 57) = true then (if inb x1 (ln 58) = true then (f_X10_answer_L86 n (st I 58 x1.toNatClampNeg (I 57 x1.toNatClampNeg)) (x1 + (1 : Int32))) else none) else none)) = _ := hf
    refine lv_iload_n C.1 C.2.1 dX10_answer_86 rfl (lv_at hl 1 rfl) ?_
    refine lv_aload_n C.1 C.2.1 dX10_answer_87 rfl (lv_at hl 0 rfl) ?_
    refine g_X10_30 C hH kk_45 tw_844 dX10_answer_88 ?_
    refine lv_icmp_ge (tgt := 112) C.1 C.2.1 dX10_answer_91 (by decide) (fun q14 => ?_) (fun q14 => ?_)
    · have hf := (if_pos q14).symm.trans hf
      exact w_X10_answer_J112 C hr I _ _ _ hH (lv_sub hl [0] rfl) hf
    · have hf := (if_neg q14).symm.trans hf
      refine lv_aload_n C.1 C.2.1 dX10_answer_94 rfl (lv_at hl 0 rfl) ?_
      refine g_X10_31 C hH kk_45 tw_845 dX10_answer_95 ?_
      refine lv_iload_n C.1 C.2.1 dX10_answer_98 rfl (lv_at hl 1 rfl) ?_
      refine lv_aload_n C.1 C.2.1 dX10_answer_99 rfl (lv_at hl 0 rfl) ?_
      refine g_X10_29 C hH kk_45 tw_843 dX10_answer_100 ?_
      refine lv_iload_n C.1 C.2.1 dX10_answer_103 rfl (lv_at hl 1 rfl) ?_
      obtain ⟨q12, hf⟩ := itn hf
      refine x_iald C hH kk_57 q12 dX10_answer_104 ?_
      obtain ⟨q13, hf⟩ := itn hf
      refine x_iast C hH kk_58 q13 dX10_answer_105 (fun H locs hH => ?_)
      refine lv_iinc (v := (x1 + (1 : Int32))) (lv' := [(1, .int (x1 + (1 : Int32))), (0, .ref (G.2.1 45))]) C.1 C.2.1 dX10_answer_106 hl (k := 1) rfl rfl (by decide) rfl (fun ls hl => ?_)
      refine lv_goto (tgt := 86) C.1 C.2.1 dX10_answer_109 (by decide) ?_
      exact ih (st I 58 x1.toNatClampNeg (I 57 x1.toNatClampNeg)) (x1 + (1 : Int32))  _ _ _ hH (lv_sub hl [1, 0] rfl) hf
def f_X10_answer_J60   (I : Mem)  : Option (Int32 × Mem) := if (I 45 23) = (9 : Int32) then (f_X10_answer_L86 FU (st I 45 30 (I 45 26)) (0 : Int32)) else (f_X10_answer_L86 FU (st I 45 30 (I 45 25)) (0 : Int32))
set_option maxHeartbeats 4000000 in
set_option maxRecDepth 100000 in
theorem w_X10_answer_J60 {p : Program} {l : Launch} {e : Env} {s : State} {m : MethodId} {args : Array Value} {below : List Frame} {meth : Method} {c : Code} {G : Gx} {res : Int32} {J : Mem} (C : CX p l s m args meth c cX10_answer 2 yX10_answer.cls G) (hr : meth.sig.returnType = (some .int)) :
    ∀ (I : Mem) (H : Heap) (locs : List Loc) (ls : Array Slot), HW G s H locs I → lv_has ls 2 [(0, .ref (G.2.1 45))] → f_X10_answer_J60 I = some (res, J) → W p l e { frames := 1, cells := 0, slots := 0, locals := 21 } s m args below meth c H locs 0 0 (MQ below (Qi9 G res J s.heap.size) args s 0 0 (AA G s.heap.size)) (F0 m 60 ls []) := by
  intro I   H locs ls hH hl hf
  have hf : (if (I 45 23) = (9 : Int32) then (f_X10_answer_L86 FU (st I 45 30 (I 45 26)) (0 : Int32)) else (f_X10_answer_L86 FU (st I 45 30 (I 45 25)) (0 : Int32))) = _ := hf
  refine lv_aload_n C.1 C.2.1 dX10_answer_60 rfl (lv_at hl 0 rfl) ?_
  refine lv_aload_n C.1 C.2.1 dX10_answer_61 rfl (lv_at hl 0 rfl) ?_
  refine g_X10_23 C hH kk_45 tw_837 dX10_answer_62 ?_
  refine lv_bipush (v := (9 : Int32)) C.1 C.2.1 dX10_answer_65 (by decide) ?_
  refine lv_icmp_ne (tgt := 77) C.1 C.2.1 dX10_answer_67 (by decide) (fun q9 => ?_) (fun q9 => ?_)
  · have hf := (if_neg q9).symm.trans hf
    refine lv_aload_n C.1 C.2.1 dX10_answer_77 rfl (lv_at hl 0 rfl) ?_
    refine g_X10_25 C hH kk_45 tw_839 dX10_answer_78 ?_
    refine p_X10_30 C hH kk_45  tw_844 dX10_answer_81 (fun H locs hH => ?_)
    refine lv_iconst (v := (0 : Int32)) C.1 C.2.1 dX10_answer_84 (by decide) ?_
    refine lv_istore_n (lv' := [(1, .int (0 : Int32)), (0, .ref (G.2.1 45))]) C.1 C.2.1 dX10_answer_85 rfl hl (by decide) rfl (fun ls hl => ?_)
    exact w_X10_answer_L86 C hr FU (st I 45 30 (I 45 25)) (0 : Int32) _ _ _ hH (lv_sub hl [1, 0] rfl) hf
  · have hf := (if_pos q9).symm.trans hf
    refine lv_aload_n C.1 C.2.1 dX10_answer_70 rfl (lv_at hl 0 rfl) ?_
    refine g_X10_26 C hH kk_45 tw_840 dX10_answer_71 ?_
    refine lv_goto (tgt := 81) C.1 C.2.1 dX10_answer_74 (by decide) ?_
    refine p_X10_30 C hH kk_45  tw_844 dX10_answer_81 (fun H locs hH => ?_)
    refine lv_iconst (v := (0 : Int32)) C.1 C.2.1 dX10_answer_84 (by decide) ?_
    refine lv_istore_n (lv' := [(1, .int (0 : Int32)), (0, .ref (G.2.1 45))]) C.1 C.2.1 dX10_answer_85 rfl hl (by decide) rfl (fun ls hl => ?_)
    exact w_X10_answer_L86 C hr FU (st I 45 30 (I 45 26)) (0 : Int32) _ _ _ hH (lv_sub hl [1, 0] rfl) hf
def f_X10_answer_J42   (I : Mem)  : Option (Int32 × Mem) := if (I 45 23) = (9 : Int32) then (f_X10_answer_J60 I) else (if (I 45 23) = (10 : Int32) then (f_X10_answer_J60 I) else (f_X10_answer_J112 I))
set_option maxHeartbeats 4000000 in
set_option maxRecDepth 100000 in
theorem w_X10_answer_J42 {p : Program} {l : Launch} {e : Env} {s : State} {m : MethodId} {args : Array Value} {below : List Frame} {meth : Method} {c : Code} {G : Gx} {res : Int32} {J : Mem} (C : CX p l s m args meth c cX10_answer 2 yX10_answer.cls G) (hr : meth.sig.returnType = (some .int)) :
    ∀ (I : Mem) (H : Heap) (locs : List Loc) (ls : Array Slot), HW G s H locs I → lv_has ls 2 [(0, .ref (G.2.1 45))] → f_X10_answer_J42 I = some (res, J) → W p l e { frames := 1, cells := 0, slots := 0, locals := 21 } s m args below meth c H locs 0 0 (MQ below (Qi9 G res J s.heap.size) args s 0 0 (AA G s.heap.size)) (F0 m 42 ls []) := by
  intro I   H locs ls hH hl hf
  have hf : (if (I 45 23) = (9 : Int32) then (f_X10_answer_J60 I) else (if (I 45 23) = (10 : Int32) then (f_X10_answer_J60 I) else (f_X10_answer_J112 I))) = _ := hf
  refine lv_aload_n C.1 C.2.1 dX10_answer_42 rfl (lv_at hl 0 rfl) ?_
  refine g_X10_23 C hH kk_45 tw_837 dX10_answer_43 ?_
  refine lv_bipush (v := (9 : Int32)) C.1 C.2.1 dX10_answer_46 (by decide) ?_
  refine lv_icmp_eq (tgt := 60) C.1 C.2.1 dX10_answer_48 (by decide) (fun q8 => ?_) (fun q8 => ?_)
  · have hf := (if_pos q8).symm.trans hf
    exact w_X10_answer_J60 C hr I _ _ _ hH (lv_sub hl [0] rfl) hf
  · have hf := (if_neg q8).symm.trans hf
    refine lv_aload_n C.1 C.2.1 dX10_answer_51 rfl (lv_at hl 0 rfl) ?_
    refine g_X10_23 C hH kk_45 tw_837 dX10_answer_52 ?_
    refine lv_bipush (v := (10 : Int32)) C.1 C.2.1 dX10_answer_55 (by decide) ?_
    refine lv_icmp_ne (tgt := 112) C.1 C.2.1 dX10_answer_57 (by decide) (fun q7 => ?_) (fun q7 => ?_)
    · have hf := (if_neg q7).symm.trans hf
      exact w_X10_answer_J112 C hr I _ _ _ hH (lv_sub hl [0] rfl) hf
    · have hf := (if_pos q7).symm.trans hf
      exact w_X10_answer_J60 C hr I _ _ _ hH (lv_sub hl [0] rfl) hf
def f_X10_answer (I : Mem)  : Option (Int32 × Mem) := if (I 45 22) = 0 then (if (I 45 23) < (2 : Int32) then (f_X10_answer_J42 I) else (if (4 : Int32) < (I 45 23) then (f_X10_answer_J42 I) else (if (I 45 26) = 0 then ((f_X10_refuse I (4 : Int32)).bind fun q1 => (some (q1.1, q1.2))) else (f_X10_answer_J42 I)))) else ((f_X10_refuse I (3 : Int32)).bind fun q5 => (some (q5.1, q5.2)))
set_option maxHeartbeats 4000000 in
set_option maxRecDepth 100000 in
theorem c_X10_answer (l : Launch) (G : Gx) (I : Mem) {res : Int32} {J : Mem} (hf : f_X10_answer I = some (res, J)) : Mi l yX10_answer (.code yX10_answer cX10_answer 2 (some .int)) 1 21 G I [.ref (G.2.1 45)] res J := by
  refine Mi.of (by decide +kernel) (Nat.le_of_ble_eq_true rfl) (fun p e s m below meth c ls C hr hH hl => ?_)
  have hl : lv_has ls 2 [(0, .ref (G.2.1 45))] := hl
  have hf : (if (I 45 22) = 0 then (if (I 45 23) < (2 : Int32) then (f_X10_answer_J42 I) else (if (4 : Int32) < (I 45 23) then (f_X10_answer_J42 I) else (if (I 45 26) = 0 then ((f_X10_refuse I (4 : Int32)).bind fun q1 => (some (q1.1, q1.2))) else (f_X10_answer_J42 I)))) else ((f_X10_refuse I (3 : Int32)).bind fun q5 => (some (q5.1, q5.2)))) = _ := hf
  refine lv_aload_n C.1 C.2.1 dX10_answer_0 rfl (lv_at hl 0 rfl) ?_
  refine g_X10_22 C hH kk_45 tw_836 dX10_answer_1 ?_
  refine lv_if_eq (tgt := 13) C.1 C.2.1 dX10_answer_4 (by decide) (fun q6 => ?_) (fun q6 => ?_)
  · have hf := (if_pos q6).symm.trans hf
    refine lv_aload_n C.1 C.2.1 dX10_answer_13 rfl (lv_at hl 0 rfl) ?_
    refine g_X10_23 C hH kk_45 tw_837 dX10_answer_14 ?_
    refine lv_iconst (v := (2 : Int32)) C.1 C.2.1 dX10_answer_17 (by decide) ?_
    refine lv_icmp_lt (tgt := 42) C.1 C.2.1 dX10_answer_18 (by decide) (fun q4 => ?_) (fun q4 => ?_)
    · have hf := (if_pos q4).symm.trans hf
      exact w_X10_answer_J42 C hr I _ _ _ hH (lv_sub hl [0] rfl) hf
    · have hf := (if_neg q4).symm.trans hf
      refine lv_aload_n C.1 C.2.1 dX10_answer_21 rfl (lv_at hl 0 rfl) ?_
      refine g_X10_23 C hH kk_45 tw_837 dX10_answer_22 ?_
      refine lv_iconst (v := (4 : Int32)) C.1 C.2.1 dX10_answer_25 (by decide) ?_
      refine lv_icmp_gt (tgt := 42) C.1 C.2.1 dX10_answer_26 (by decide) (fun q3 => ?_) (fun q3 => ?_)
      · have hf := (if_pos q3).symm.trans hf
        exact w_X10_answer_J42 C hr I _ _ _ hH (lv_sub hl [0] rfl) hf
      · have hf := (if_neg q3).symm.trans hf
        refine lv_aload_n C.1 C.2.1 dX10_answer_29 rfl (lv_at hl 0 rfl) ?_
        refine g_X10_26 C hH kk_45 tw_840 dX10_answer_30 ?_
        refine lv_if_ne (tgt := 42) C.1 C.2.1 dX10_answer_33 (by decide) (fun q2 => ?_) (fun q2 => ?_)
        · have hf := (if_neg q2).symm.trans hf
          exact w_X10_answer_J42 C hr I _ _ _ hH (lv_sub hl [0] rfl) hf
        · have hf := (if_pos q2).symm.trans hf
          refine lv_aload_n C.1 C.2.1 dX10_answer_36 rfl (lv_at hl 0 rfl) ?_
          refine lv_iconst (v := (4 : Int32)) C.1 C.2.1 dX10_answer_37 (by decide) ?_
          obtain ⟨q1, hc, hf⟩ := Option.bind_eq_some_iff.mp hf
          refine x_ci (n := 1) C hH (c_X10_refuse l G I (4 : Int32) hc) (kd_lt kk_45 (by decide)) (cE_10 kk_45) rfl tw_956 tw_953 tw_955 tw_23 tw_57 (by decide +kernel) ⟨Nat.le_of_ble_eq_true rfl, Nat.le_of_ble_eq_true rfl⟩ rfl hl.1 rfl (Nat.le_of_ble_eq_true rfl) ⟨Nat.le_of_ble_eq_true rfl, Nat.le_of_ble_eq_true rfl⟩ dX10_answer_38 (fun H locs hH => ?_)
          cases hf
          exact x_iret C hr hH dX10_answer_41
  · have hf := (if_neg q6).symm.trans hf
    refine lv_aload_n C.1 C.2.1 dX10_answer_7 rfl (lv_at hl 0 rfl) ?_
    refine lv_iconst (v := (3 : Int32)) C.1 C.2.1 dX10_answer_8 (by decide) ?_
    obtain ⟨q5, hc, hf⟩ := Option.bind_eq_some_iff.mp hf
    refine x_ci (n := 1) C hH (c_X10_refuse l G I (3 : Int32) hc) (kd_lt kk_45 (by decide)) (cE_10 kk_45) rfl tw_956 tw_953 tw_955 tw_23 tw_57 (by decide +kernel) ⟨Nat.le_of_ble_eq_true rfl, Nat.le_of_ble_eq_true rfl⟩ rfl hl.1 rfl (Nat.le_of_ble_eq_true rfl) ⟨Nat.le_of_ble_eq_true rfl, Nat.le_of_ble_eq_true rfl⟩ dX10_answer_9 (fun H locs hH => ?_)
    cases hf
    exact x_iret C hr hH dX10_answer_12
